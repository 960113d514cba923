section PR
variable {X : pX} {Y : pM} {R : Room} {n0 s0 : Nat} {Z : List Frame → Array Value → State → State → Prop} {pc : Nat} {ls : List (Nat × Value)} {st : List Value} {S : List pShp} {m : pMem}
theorem g_iconst {n : Int} {v : Int32} (hd : decode Y.2.1 pc = .ok (.iconst n, 1)) (hv : Int32.ofInt n = v) (k : pGo X Y R n0 s0 Z (pc + 1) ls (.int v :: st) S m) : pGo X Y R n0 s0 Z (pc) ls (st) S m := by
  intro p l e s mi args below meth c H locs lsA hC hP hS hl hn hs
  exact lv_iconst hC.1 hC.2.1 hd hv (k p l e s mi args below meth c H locs lsA hC hP hS hl hn hs)
theorem g_bipush {n : Int} {v : Int32} (hd : decode Y.2.1 pc = .ok (.bipush n, 2)) (hv : (Int8.ofInt n).toInt32 = v) (k : pGo X Y R n0 s0 Z (pc + 2) ls (.int v :: st) S m) : pGo X Y R n0 s0 Z (pc) ls (st) S m := by
  intro p l e s mi args below meth c H locs lsA hC hP hS hl hn hs
  exact lv_bipush hC.1 hC.2.1 hd hv (k p l e s mi args below meth c H locs lsA hC hP hS hl hn hs)
theorem g_sipush {n : Int} {v : Int32} (hd : decode Y.2.1 pc = .ok (.sipush n, 3)) (hv : (Int16.ofInt n).toInt32 = v) (k : pGo X Y R n0 s0 Z (pc + 3) ls (.int v :: st) S m) : pGo X Y R n0 s0 Z (pc) ls (st) S m := by
  intro p l e s mi args below meth c H locs lsA hC hP hS hl hn hs
  exact lv_sipush hC.1 hC.2.1 hd hv (k p l e s mi args below meth c H locs lsA hC hP hS hl hn hs)
theorem g_lconst {n : Fin 2} {v : Int64} (hd : decode Y.2.1 pc = .ok (.lconst n, 1)) (hv : Int64.ofNat (n : Nat) = v) (k : pGo X Y R n0 s0 Z (pc + 1) ls (.long v :: st) S m) : pGo X Y R n0 s0 Z (pc) ls (st) S m := by
  intro p l e s mi args below meth c H locs lsA hC hP hS hl hn hs
  exact lv_lconst hC.1 hC.2.1 hd hv (k p l e s mi args below meth c H locs lsA hC hP hS hl hn hs)
theorem g_null  (hd : decode Y.2.1 pc = .ok (.aconst_null, 1)) (k : pGo X Y R n0 s0 Z (pc + 1) ls (.null :: st) S m) : pGo X Y R n0 s0 Z (pc) ls (st) S m := by
  intro p l e s mi args below meth c H locs lsA hC hP hS hl hn hs
  exact lv_null hC.1 hC.2.1 hd  (k p l e s mi args below meth c H locs lsA hC hP hS hl hn hs)
theorem g_ldc {idx : Nat} {v : Int32} (hd : decode Y.2.1 pc = .ok (.ldc idx, 2)) (hc : Cond.constant Y.1.cls idx v ∈ pgl) (k : pGo X Y R n0 s0 Z (pc + 2) ls (.int v :: st) S m) : pGo X Y R n0 s0 Z (pc) ls (st) S m := by
  intro p l e s mi args below meth c H locs lsA hC hP hS hl hn hs
  exact lv_ldc hC.1 hC.2.1 hC.2.2.2.2.2.2.1 (hC.2.2.2.2.2.2.2.1 _ hc) hd (k p l e s mi args below meth c H locs lsA hC hP hS hl hn hs)
theorem g_ldcw {idx : Nat} {v : Int32} (hd : decode Y.2.1 pc = .ok (.ldc_w idx, 3)) (hc : Cond.constant Y.1.cls idx v ∈ pgl) (k : pGo X Y R n0 s0 Z (pc + 3) ls (.int v :: st) S m) : pGo X Y R n0 s0 Z (pc) ls (st) S m := by
  intro p l e s mi args below meth c H locs lsA hC hP hS hl hn hs
  exact lv_ldcw hC.1 hC.2.1 hC.2.2.2.2.2.2.1 (hC.2.2.2.2.2.2.2.1 _ hc) hd (k p l e s mi args below meth c H locs lsA hC hP hS hl hn hs)
theorem g_ldc2 {idx : Nat} {v : Int64} (hd : decode Y.2.1 pc = .ok (.ldc2_w idx, 3)) (hc : Cond.constantLong Y.1.cls idx v ∈ pgl) (k : pGo X Y R n0 s0 Z (pc + 3) ls (.long v :: st) S m) : pGo X Y R n0 s0 Z (pc) ls (st) S m := by
  intro p l e s mi args below meth c H locs lsA hC hP hS hl hn hs
  exact lv_ldc2 hC.1 hC.2.1 hC.2.2.2.2.2.2.1 (hC.2.2.2.2.2.2.2.1 _ hc) hd (k p l e s mi args below meth c H locs lsA hC hP hS hl hn hs)
theorem g_ldcS {idx : Nat} (i : Nat) (hi : i < 25) (ho : Y.1.cls = ownJ i) (hx : idx = idxJ i) (hd : decode Y.2.1 pc = .ok (.ldc idx, 2)) (k : pGo X Y R n0 s0 Z (pc + 2) ls (.retAddr (i + 1) :: st) S m) : pGo X Y R n0 s0 Z (pc) ls (st) S m := by
  intro p l e s mi args below meth c H locs lsA hC hP hS hl hn hs
  have hr := hC.2.2.2.2.2.2.2.2.1.2.1.2.2.1 i hi
  subst hx
  exact va_ldcS hC.1 hC.2.1 (own := ownJ i) (by rw [← ho]; exact hC.2.2.2.2.2.2.1) hr hd (k p l e s mi args below meth c H locs lsA hC hP hS hl hn hs)
theorem g_iload_n {i : Nat} {n : Fin 4} {v : Int32} (j : Nat) (hd : decode Y.2.1 pc = .ok (.iload_n n, 1)) (hi : (n : Nat) = i) (hv : ls[j]? = some (i, .int v)) (k : pGo X Y R n0 s0 Z (pc + 1) ls (.int v :: st) S m) : pGo X Y R n0 s0 Z (pc) ls (st) S m := by
  intro p l e s mi args below meth c H locs lsA hC hP hS hl hn hs
  exact lv_iload_n hC.1 hC.2.1 hd hi (lv_at hl j (by rw [List.getElem?_map, hv]; rfl)) (k p l e s mi args below meth c H locs lsA hC hP hS hl hn hs)
theorem g_iload {i : Nat} {v : Int32} (j : Nat) (hd : decode Y.2.1 pc = .ok (.iload i, 2)) (hv : ls[j]? = some (i, .int v)) (k : pGo X Y R n0 s0 Z (pc + 2) ls (.int v :: st) S m) : pGo X Y R n0 s0 Z (pc) ls (st) S m := by
  intro p l e s mi args below meth c H locs lsA hC hP hS hl hn hs
  exact lv_iload hC.1 hC.2.1 hd (lv_at hl j (by rw [List.getElem?_map, hv]; rfl)) (k p l e s mi args below meth c H locs lsA hC hP hS hl hn hs)
theorem g_lload_n {i : Nat} {n : Fin 4} {v : Int64} (j : Nat) (hd : decode Y.2.1 pc = .ok (.lload_n n, 1)) (hi : (n : Nat) = i) (hv : ls[j]? = some (i, .long v)) (k : pGo X Y R n0 s0 Z (pc + 1) ls (.long v :: st) S m) : pGo X Y R n0 s0 Z (pc) ls (st) S m := by
  intro p l e s mi args below meth c H locs lsA hC hP hS hl hn hs
  exact lv_lload_n hC.1 hC.2.1 hd hi (lv_at hl j (by rw [List.getElem?_map, hv]; rfl)) (k p l e s mi args below meth c H locs lsA hC hP hS hl hn hs)
theorem g_lload {i : Nat} {v : Int64} (j : Nat) (hd : decode Y.2.1 pc = .ok (.lload i, 2)) (hv : ls[j]? = some (i, .long v)) (k : pGo X Y R n0 s0 Z (pc + 2) ls (.long v :: st) S m) : pGo X Y R n0 s0 Z (pc) ls (st) S m := by
  intro p l e s mi args below meth c H locs lsA hC hP hS hl hn hs
  exact lv_lload hC.1 hC.2.1 hd (lv_at hl j (by rw [List.getElem?_map, hv]; rfl)) (k p l e s mi args below meth c H locs lsA hC hP hS hl hn hs)
theorem g_aload_n {i : Nat} {n : Fin 4} {v : Nat} (j : Nat) (hd : decode Y.2.1 pc = .ok (.aload_n n, 1)) (hi : (n : Nat) = i) (hv : ls[j]? = some (i, .ref v)) (k : pGo X Y R n0 s0 Z (pc + 1) ls (.ref v :: st) S m) : pGo X Y R n0 s0 Z (pc) ls (st) S m := by
  intro p l e s mi args below meth c H locs lsA hC hP hS hl hn hs
  exact lv_aload_n hC.1 hC.2.1 hd hi (lv_at hl j (by rw [List.getElem?_map, hv]; rfl)) (k p l e s mi args below meth c H locs lsA hC hP hS hl hn hs)
theorem g_aload {i : Nat} {v : Nat} (j : Nat) (hd : decode Y.2.1 pc = .ok (.aload i, 2)) (hv : ls[j]? = some (i, .ref v)) (k : pGo X Y R n0 s0 Z (pc + 2) ls (.ref v :: st) S m) : pGo X Y R n0 s0 Z (pc) ls (st) S m := by
  intro p l e s mi args below meth c H locs lsA hC hP hS hl hn hs
  exact lv_aload hC.1 hC.2.1 hd (lv_at hl j (by rw [List.getElem?_map, hv]; rfl)) (k p l e s mi args below meth c H locs lsA hC hP hS hl hn hs)
theorem g_aload_nN {i : Nat} {n : Fin 4}  (j : Nat) (hd : decode Y.2.1 pc = .ok (.aload_n n, 1)) (hi : (n : Nat) = i) (hv : ls[j]? = some (i, .null)) (k : pGo X Y R n0 s0 Z (pc + 1) ls (.null :: st) S m) : pGo X Y R n0 s0 Z (pc) ls (st) S m := by
  intro p l e s mi args below meth c H locs lsA hC hP hS hl hn hs
  exact lv_aload_nN hC.1 hC.2.1 hd hi (lv_at hl j (by rw [List.getElem?_map, hv]; rfl)) (k p l e s mi args below meth c H locs lsA hC hP hS hl hn hs)
theorem g_aloadN {i : Nat}  (j : Nat) (hd : decode Y.2.1 pc = .ok (.aload i, 2)) (hv : ls[j]? = some (i, .null)) (k : pGo X Y R n0 s0 Z (pc + 2) ls (.null :: st) S m) : pGo X Y R n0 s0 Z (pc) ls (st) S m := by
  intro p l e s mi args below meth c H locs lsA hC hP hS hl hn hs
  exact lv_aloadN hC.1 hC.2.1 hd (lv_at hl j (by rw [List.getElem?_map, hv]; rfl)) (k p l e s mi args below meth c H locs lsA hC hP hS hl hn hs)
theorem g_aload_nO {i : Nat} {n : Fin 4} {v : Nat} (j : Nat) (hd : decode Y.2.1 pc = .ok (.aload_n n, 1)) (hi : (n : Nat) = i) (hv : ls[j]? = some (i, .retAddr v)) (k : pGo X Y R n0 s0 Z (pc + 1) ls (.retAddr v :: st) S m) : pGo X Y R n0 s0 Z (pc) ls (st) S m := by
  intro p l e s mi args below meth c H locs lsA hC hP hS hl hn hs
  exact lv_aload_n hC.1 hC.2.1 hd hi (lv_at hl j (by rw [List.getElem?_map, hv]; rfl)) (k p l e s mi args below meth c H locs lsA hC hP hS hl hn hs)
theorem g_aloadO {i : Nat} {v : Nat} (j : Nat) (hd : decode Y.2.1 pc = .ok (.aload i, 2)) (hv : ls[j]? = some (i, .retAddr v)) (k : pGo X Y R n0 s0 Z (pc + 2) ls (.retAddr v :: st) S m) : pGo X Y R n0 s0 Z (pc) ls (st) S m := by
  intro p l e s mi args below meth c H locs lsA hC hP hS hl hn hs
  exact lv_aload hC.1 hC.2.1 hd (lv_at hl j (by rw [List.getElem?_map, hv]; rfl)) (k p l e s mi args below meth c H locs lsA hC hP hS hl hn hs)
theorem p_filt (X : pX) (i : Nat) (ls : List (Nat × Value)) : (ls.map (ptl X)).filter (fun q => !(q.1 == i) && !(q.1 + 1 == i && q.2.category == 2)) = (ls.filter (fun q => !(q.1 == i) && !(q.1 + 1 == i && q.2.category == 2))).map (ptl X) := by
  rw [List.filter_map]
  congr 2
  funext q
  simp only [Function.comp, ptr_cat]
theorem p_filt2 (X : pX) (i : Nat) (ls : List (Nat × Value)) : (ls.map (ptl X)).filter (fun q => !(q.1 == i) && (!(q.1 == i + 1) && !(q.1 + 1 == i && q.2.category == 2))) = (ls.filter (fun q => !(q.1 == i) && (!(q.1 == i + 1) && !(q.1 + 1 == i && q.2.category == 2)))).map (ptl X) := by
  rw [List.filter_map]
  congr 2
  funext q
  simp only [Function.comp, ptr_cat]
theorem g_istore_n {i : Nat} {n : Fin 4} {v : Int32} {ls2 : List (Nat × Value)} (hd : decode Y.2.1 pc = .ok (.istore_n n, 1)) (hi : (n : Nat) = i) (hb : i < Y.2.2.1) (hv : (i, .int v) :: ls.filter (fun q => !(q.1 == i) && !(q.1 + 1 == i && q.2.category == 2)) = ls2) (k : pGo X Y R n0 s0 Z (pc + 1) ls2 (st) S m) : pGo X Y R n0 s0 Z (pc) ls (.int v :: st) S m := by
  intro p l e s mi args below meth c H locs lsA hC hP hS hl hn hs
  refine lv_istore_n hC.1 hC.2.1 hd hi hl hb (lv' := ls2.map (ptl X)) ?_ (fun ls2 hl2 => k p l e s mi args below meth c H locs ls2 hC hP hS hl2 hn hs)
  rw [p_filt, ← hv]
  rfl
theorem g_istore {i : Nat} {v : Int32} {ls2 : List (Nat × Value)} (hd : decode Y.2.1 pc = .ok (.istore i, 2)) (hb : i < Y.2.2.1) (hv : (i, .int v) :: ls.filter (fun q => !(q.1 == i) && !(q.1 + 1 == i && q.2.category == 2)) = ls2) (k : pGo X Y R n0 s0 Z (pc + 2) ls2 (st) S m) : pGo X Y R n0 s0 Z (pc) ls (.int v :: st) S m := by
  intro p l e s mi args below meth c H locs lsA hC hP hS hl hn hs
  refine lv_istore hC.1 hC.2.1 hd hl hb (lv' := ls2.map (ptl X)) ?_ (fun ls2 hl2 => k p l e s mi args below meth c H locs ls2 hC hP hS hl2 hn hs)
  rw [p_filt, ← hv]
  rfl
theorem g_lstore_n {i : Nat} {n : Fin 4} {v : Int64} {ls2 : List (Nat × Value)} (hd : decode Y.2.1 pc = .ok (.lstore_n n, 1)) (hi : (n : Nat) = i) (hb : i + 1 < Y.2.2.1) (hv : (i, .long v) :: ls.filter (fun q => !(q.1 == i) && (!(q.1 == i + 1) && !(q.1 + 1 == i && q.2.category == 2))) = ls2) (k : pGo X Y R n0 s0 Z (pc + 1) ls2 (st) S m) : pGo X Y R n0 s0 Z (pc) ls (.long v :: st) S m := by
  intro p l e s mi args below meth c H locs lsA hC hP hS hl hn hs
  refine lv_lstore_n hC.1 hC.2.1 hd hi hl hb (lv' := ls2.map (ptl X)) ?_ (fun ls2 hl2 => k p l e s mi args below meth c H locs ls2 hC hP hS hl2 hn hs)
  rw [p_filt2, ← hv]
  rfl
theorem g_lstore {i : Nat} {v : Int64} {ls2 : List (Nat × Value)} (hd : decode Y.2.1 pc = .ok (.lstore i, 2)) (hb : i + 1 < Y.2.2.1) (hv : (i, .long v) :: ls.filter (fun q => !(q.1 == i) && (!(q.1 == i + 1) && !(q.1 + 1 == i && q.2.category == 2))) = ls2) (k : pGo X Y R n0 s0 Z (pc + 2) ls2 (st) S m) : pGo X Y R n0 s0 Z (pc) ls (.long v :: st) S m := by
  intro p l e s mi args below meth c H locs lsA hC hP hS hl hn hs
  refine lv_lstore hC.1 hC.2.1 hd hl hb (lv' := ls2.map (ptl X)) ?_ (fun ls2 hl2 => k p l e s mi args below meth c H locs ls2 hC hP hS hl2 hn hs)
  rw [p_filt2, ← hv]
  rfl
theorem g_astore_n {i : Nat} {n : Fin 4} {v : Nat} {ls2 : List (Nat × Value)} (hd : decode Y.2.1 pc = .ok (.astore_n n, 1)) (hi : (n : Nat) = i) (hb : i < Y.2.2.1) (hv : (i, .ref v) :: ls.filter (fun q => !(q.1 == i) && !(q.1 + 1 == i && q.2.category == 2)) = ls2) (k : pGo X Y R n0 s0 Z (pc + 1) ls2 (st) S m) : pGo X Y R n0 s0 Z (pc) ls (.ref v :: st) S m := by
  intro p l e s mi args below meth c H locs lsA hC hP hS hl hn hs
  refine lv_astore_n hC.1 hC.2.1 hd hi hl hb (lv' := ls2.map (ptl X)) ?_ (fun ls2 hl2 => k p l e s mi args below meth c H locs ls2 hC hP hS hl2 hn hs)
  rw [p_filt, ← hv]
  rfl
theorem g_astore {i : Nat} {v : Nat} {ls2 : List (Nat × Value)} (hd : decode Y.2.1 pc = .ok (.astore i, 2)) (hb : i < Y.2.2.1) (hv : (i, .ref v) :: ls.filter (fun q => !(q.1 == i) && !(q.1 + 1 == i && q.2.category == 2)) = ls2) (k : pGo X Y R n0 s0 Z (pc + 2) ls2 (st) S m) : pGo X Y R n0 s0 Z (pc) ls (.ref v :: st) S m := by
  intro p l e s mi args below meth c H locs lsA hC hP hS hl hn hs
  refine lv_astore hC.1 hC.2.1 hd hl hb (lv' := ls2.map (ptl X)) ?_ (fun ls2 hl2 => k p l e s mi args below meth c H locs ls2 hC hP hS hl2 hn hs)
  rw [p_filt, ← hv]
  rfl
theorem g_iinc {i : Nat} {n : Int} {x v : Int32} {ls2 : List (Nat × Value)} (j : Nat) (hd : decode Y.2.1 pc = .ok (.iinc i n, 3)) (hj : ls[j]? = some (i, .int x)) (hx : x + Int32.ofInt n = v) (hb : i < Y.2.2.1) (hv : (i, .int v) :: ls.filter (fun q => !(q.1 == i) && !(q.1 + 1 == i && q.2.category == 2)) = ls2) (k : pGo X Y R n0 s0 Z (pc + 3) ls2 (st) S m) : pGo X Y R n0 s0 Z (pc) ls (st) S m := by
  intro p l e s mi args below meth c H locs lsA hC hP hS hl hn hs
  refine lv_iinc hC.1 hC.2.1 hd hl (k := j) (by rw [List.getElem?_map, hj]; rfl) hx hb (lv' := ls2.map (ptl X)) ?_ (fun ls2 hl2 => k p l e s mi args below meth c H locs ls2 hC hP hS hl2 hn hs)
  rw [p_filt, ← hv]
  rfl
/-- fewer locals, in another order -/
theorem g_ls {ls2 : List (Nat × Value)} (ks : List Nat) (h : lv_pick ls ks = ls2) (k : pGo X Y R n0 s0 Z (pc) ls2 (st) S m) : pGo X Y R n0 s0 Z (pc) ls (st) S m := by
  intro p l e s mi args below meth c H locs lsA hC hP hS hl hn hs
  refine k p l e s mi args below meth c H locs lsA hC hP hS (lv_sub hl ks ?_) hn hs
  rw [← h]
  unfold lv_pick
  rw [List.map_filterMap]
  congr 1
  funext j
  rw [List.getElem?_map]
theorem g_iadd {x y : Int32} (hd : decode Y.2.1 pc = .ok (.iadd, 1)) (k : pGo X Y R n0 s0 Z (pc + 1) ls (.int (x + y) :: st) S m) : pGo X Y R n0 s0 Z (pc) ls (.int y :: .int x :: st) S m := by
  intro p l e s mi args below meth c H locs lsA hC hP hS hl hn hs
  exact lv_iadd hC.1 hC.2.1 hd  (k p l e s mi args below meth c H locs lsA hC hP hS hl hn hs)
theorem g_isub {x y : Int32} (hd : decode Y.2.1 pc = .ok (.isub, 1)) (k : pGo X Y R n0 s0 Z (pc + 1) ls (.int (x - y) :: st) S m) : pGo X Y R n0 s0 Z (pc) ls (.int y :: .int x :: st) S m := by
  intro p l e s mi args below meth c H locs lsA hC hP hS hl hn hs
  exact lv_isub hC.1 hC.2.1 hd  (k p l e s mi args below meth c H locs lsA hC hP hS hl hn hs)
theorem g_imul {x y : Int32} (hd : decode Y.2.1 pc = .ok (.imul, 1)) (k : pGo X Y R n0 s0 Z (pc + 1) ls (.int (x * y) :: st) S m) : pGo X Y R n0 s0 Z (pc) ls (.int y :: .int x :: st) S m := by
  intro p l e s mi args below meth c H locs lsA hC hP hS hl hn hs
  exact lv_imul hC.1 hC.2.1 hd  (k p l e s mi args below meth c H locs lsA hC hP hS hl hn hs)
theorem g_iand {x y : Int32} (hd : decode Y.2.1 pc = .ok (.iand, 1)) (k : pGo X Y R n0 s0 Z (pc + 1) ls (.int (x &&& y) :: st) S m) : pGo X Y R n0 s0 Z (pc) ls (.int y :: .int x :: st) S m := by
  intro p l e s mi args below meth c H locs lsA hC hP hS hl hn hs
  exact lv_iand hC.1 hC.2.1 hd  (k p l e s mi args below meth c H locs lsA hC hP hS hl hn hs)
theorem g_ior {x y : Int32} (hd : decode Y.2.1 pc = .ok (.ior, 1)) (k : pGo X Y R n0 s0 Z (pc + 1) ls (.int (x ||| y) :: st) S m) : pGo X Y R n0 s0 Z (pc) ls (.int y :: .int x :: st) S m := by
  intro p l e s mi args below meth c H locs lsA hC hP hS hl hn hs
  exact lv_ior hC.1 hC.2.1 hd  (k p l e s mi args below meth c H locs lsA hC hP hS hl hn hs)
theorem g_ixor {x y : Int32} (hd : decode Y.2.1 pc = .ok (.ixor, 1)) (k : pGo X Y R n0 s0 Z (pc + 1) ls (.int (x ^^^ y) :: st) S m) : pGo X Y R n0 s0 Z (pc) ls (.int y :: .int x :: st) S m := by
  intro p l e s mi args below meth c H locs lsA hC hP hS hl hn hs
  exact lv_ixor hC.1 hC.2.1 hd  (k p l e s mi args below meth c H locs lsA hC hP hS hl hn hs)
theorem g_ishl {x y : Int32} (hd : decode Y.2.1 pc = .ok (.ishl, 1)) (k : pGo X Y R n0 s0 Z (pc + 1) ls (.int (x <<< (y &&& 31)) :: st) S m) : pGo X Y R n0 s0 Z (pc) ls (.int y :: .int x :: st) S m := by
  intro p l e s mi args below meth c H locs lsA hC hP hS hl hn hs
  exact lv_ishl hC.1 hC.2.1 hd  (k p l e s mi args below meth c H locs lsA hC hP hS hl hn hs)
theorem g_ishr {x y : Int32} (hd : decode Y.2.1 pc = .ok (.ishr, 1)) (k : pGo X Y R n0 s0 Z (pc + 1) ls (.int (x >>> (y &&& 31)) :: st) S m) : pGo X Y R n0 s0 Z (pc) ls (.int y :: .int x :: st) S m := by
  intro p l e s mi args below meth c H locs lsA hC hP hS hl hn hs
  exact lv_ishr hC.1 hC.2.1 hd  (k p l e s mi args below meth c H locs lsA hC hP hS hl hn hs)
theorem g_idiv {x y : Int32} (hd : decode Y.2.1 pc = .ok (.idiv, 1)) (hz : ¬ y = 0) (k : pGo X Y R n0 s0 Z (pc + 1) ls (.int (x / y) :: st) S m) : pGo X Y R n0 s0 Z (pc) ls (.int y :: .int x :: st) S m := by
  intro p l e s mi args below meth c H locs lsA hC hP hS hl hn hs
  exact lv_idiv hC.1 hC.2.1 hd hz (k p l e s mi args below meth c H locs lsA hC hP hS hl hn hs)
theorem g_irem {x y : Int32} (hd : decode Y.2.1 pc = .ok (.irem, 1)) (hz : ¬ y = 0) (k : pGo X Y R n0 s0 Z (pc + 1) ls (.int (x - x / y * y) :: st) S m) : pGo X Y R n0 s0 Z (pc) ls (.int y :: .int x :: st) S m := by
  intro p l e s mi args below meth c H locs lsA hC hP hS hl hn hs
  exact lv_irem hC.1 hC.2.1 hd hz (k p l e s mi args below meth c H locs lsA hC hP hS hl hn hs)
theorem g_ladd {x y : Int64} (hd : decode Y.2.1 pc = .ok (.ladd, 1)) (k : pGo X Y R n0 s0 Z (pc + 1) ls (.long (x + y) :: st) S m) : pGo X Y R n0 s0 Z (pc) ls (.long y :: .long x :: st) S m := by
  intro p l e s mi args below meth c H locs lsA hC hP hS hl hn hs
  exact lv_ladd hC.1 hC.2.1 hd  (k p l e s mi args below meth c H locs lsA hC hP hS hl hn hs)
theorem g_lsub {x y : Int64} (hd : decode Y.2.1 pc = .ok (.lsub, 1)) (k : pGo X Y R n0 s0 Z (pc + 1) ls (.long (x - y) :: st) S m) : pGo X Y R n0 s0 Z (pc) ls (.long y :: .long x :: st) S m := by
  intro p l e s mi args below meth c H locs lsA hC hP hS hl hn hs
  exact lv_lsub hC.1 hC.2.1 hd  (k p l e s mi args below meth c H locs lsA hC hP hS hl hn hs)
theorem g_lmul {x y : Int64} (hd : decode Y.2.1 pc = .ok (.lmul, 1)) (k : pGo X Y R n0 s0 Z (pc + 1) ls (.long (x * y) :: st) S m) : pGo X Y R n0 s0 Z (pc) ls (.long y :: .long x :: st) S m := by
  intro p l e s mi args below meth c H locs lsA hC hP hS hl hn hs
  exact lv_lmul hC.1 hC.2.1 hd  (k p l e s mi args below meth c H locs lsA hC hP hS hl hn hs)
theorem g_land {x y : Int64} (hd : decode Y.2.1 pc = .ok (.land, 1)) (k : pGo X Y R n0 s0 Z (pc + 1) ls (.long (x &&& y) :: st) S m) : pGo X Y R n0 s0 Z (pc) ls (.long y :: .long x :: st) S m := by
  intro p l e s mi args below meth c H locs lsA hC hP hS hl hn hs
  exact lv_land hC.1 hC.2.1 hd  (k p l e s mi args below meth c H locs lsA hC hP hS hl hn hs)
theorem g_lor {x y : Int64} (hd : decode Y.2.1 pc = .ok (.lor, 1)) (k : pGo X Y R n0 s0 Z (pc + 1) ls (.long (x ||| y) :: st) S m) : pGo X Y R n0 s0 Z (pc) ls (.long y :: .long x :: st) S m := by
  intro p l e s mi args below meth c H locs lsA hC hP hS hl hn hs
  exact lv_lor hC.1 hC.2.1 hd  (k p l e s mi args below meth c H locs lsA hC hP hS hl hn hs)
theorem g_ldiv {x y : Int64} (hd : decode Y.2.1 pc = .ok (.ldiv, 1)) (hz : ¬ y = 0) (k : pGo X Y R n0 s0 Z (pc + 1) ls (.long (x / y) :: st) S m) : pGo X Y R n0 s0 Z (pc) ls (.long y :: .long x :: st) S m := by
  intro p l e s mi args below meth c H locs lsA hC hP hS hl hn hs
  exact lv_ldiv hC.1 hC.2.1 hd hz (k p l e s mi args below meth c H locs lsA hC hP hS hl hn hs)
theorem g_lrem {x y : Int64} (hd : decode Y.2.1 pc = .ok (.lrem, 1)) (hz : ¬ y = 0) (k : pGo X Y R n0 s0 Z (pc + 1) ls (.long (x - x / y * y) :: st) S m) : pGo X Y R n0 s0 Z (pc) ls (.long y :: .long x :: st) S m := by
  intro p l e s mi args below meth c H locs lsA hC hP hS hl hn hs
  exact lv_lrem hC.1 hC.2.1 hd hz (k p l e s mi args below meth c H locs lsA hC hP hS hl hn hs)
theorem g_ineg {x : Int32} (hd : decode Y.2.1 pc = .ok (.ineg, 1)) (k : pGo X Y R n0 s0 Z (pc + 1) ls (.int (-x) :: st) S m) : pGo X Y R n0 s0 Z (pc) ls (.int x :: st) S m := by
  intro p l e s mi args below meth c H locs lsA hC hP hS hl hn hs
  exact lv_ineg hC.1 hC.2.1 hd  (k p l e s mi args below meth c H locs lsA hC hP hS hl hn hs)
theorem g_iushr {x y : Int32} (hd : decode Y.2.1 pc = .ok (.iushr, 1)) (k : pGo X Y R n0 s0 Z (pc + 1) ls (.int (x.toUInt32 >>> (y.toUInt32 &&& Int32.toUInt32 31)).toInt32 :: st) S m) : pGo X Y R n0 s0 Z (pc) ls (.int y :: .int x :: st) S m := by
  intro p l e s mi args below meth c H locs lsA hC hP hS hl hn hs
  exact lv_iushr hC.1 hC.2.1 hd rfl (k p l e s mi args below meth c H locs lsA hC hP hS hl hn hs)
theorem g_i2l {x : Int32} (hd : decode Y.2.1 pc = .ok (.i2l, 1)) (k : pGo X Y R n0 s0 Z (pc + 1) ls (.long (x.toInt64) :: st) S m) : pGo X Y R n0 s0 Z (pc) ls (.int x :: st) S m := by
  intro p l e s mi args below meth c H locs lsA hC hP hS hl hn hs
  exact lv_i2l hC.1 hC.2.1 hd rfl (k p l e s mi args below meth c H locs lsA hC hP hS hl hn hs)
theorem g_l2i {x : Int64} (hd : decode Y.2.1 pc = .ok (.l2i, 1)) (k : pGo X Y R n0 s0 Z (pc + 1) ls (.int (x.toInt32) :: st) S m) : pGo X Y R n0 s0 Z (pc) ls (.long x :: st) S m := by
  intro p l e s mi args below meth c H locs lsA hC hP hS hl hn hs
  exact lv_l2i hC.1 hC.2.1 hd rfl (k p l e s mi args below meth c H locs lsA hC hP hS hl hn hs)
theorem g_i2b {x : Int32} (hd : decode Y.2.1 pc = .ok (.i2b, 1)) (k : pGo X Y R n0 s0 Z (pc + 1) ls (.int (x.toInt8.toInt32) :: st) S m) : pGo X Y R n0 s0 Z (pc) ls (.int x :: st) S m := by
  intro p l e s mi args below meth c H locs lsA hC hP hS hl hn hs
  exact lv_i2b hC.1 hC.2.1 hd rfl (k p l e s mi args below meth c H locs lsA hC hP hS hl hn hs)
theorem g_i2c {x : Int32} (hd : decode Y.2.1 pc = .ok (.i2c, 1)) (k : pGo X Y R n0 s0 Z (pc + 1) ls (.int (x.toUInt32 % 65536).toInt32 :: st) S m) : pGo X Y R n0 s0 Z (pc) ls (.int x :: st) S m := by
  intro p l e s mi args below meth c H locs lsA hC hP hS hl hn hs
  exact lv_i2c hC.1 hC.2.1 hd rfl (k p l e s mi args below meth c H locs lsA hC hP hS hl hn hs)
theorem g_lcmp {x y : Int64} (hd : decode Y.2.1 pc = .ok (.lcmp, 1)) (k : pGo X Y R n0 s0 Z (pc + 1) ls (.int (lg_cmp x y) :: st) S m) : pGo X Y R n0 s0 Z (pc) ls (.long y :: .long x :: st) S m := by
  intro p l e s mi args below meth c H locs lsA hC hP hS hl hn hs
  exact W.lcmp hC.1 hC.2.1 hd  (k p l e s mi args below meth c H locs lsA hC hP hS hl hn hs)
theorem g_dup {v : Value} (hd : decode Y.2.1 pc = .ok (.dup, 1)) (hv : v.category = 1) (k : pGo X Y R n0 s0 Z (pc + 1) ls (v :: v :: st) S m) : pGo X Y R n0 s0 Z (pc) ls (v :: st) S m := by
  intro p l e s mi args below meth c H locs lsA hC hP hS hl hn hs
  exact lv_dup hC.1 hC.2.1 hd (by rw [ptr_cat]; exact hv) (k p l e s mi args below meth c H locs lsA hC hP hS hl hn hs)
theorem g_pop {v : Value} (hd : decode Y.2.1 pc = .ok (.pop, 1)) (hv : v.category = 1) (k : pGo X Y R n0 s0 Z (pc + 1) ls (st) S m) : pGo X Y R n0 s0 Z (pc) ls (v :: st) S m := by
  intro p l e s mi args below meth c H locs lsA hC hP hS hl hn hs
  exact lv_pop hC.1 hC.2.1 hd (by rw [ptr_cat]; exact hv) (k p l e s mi args below meth c H locs lsA hC hP hS hl hn hs)
theorem g_dup2 {v w : Value} (hd : decode Y.2.1 pc = .ok (.dup2, 1)) (hv : v.category = 1) (hw : w.category = 1) (k : pGo X Y R n0 s0 Z (pc + 1) ls (v :: w :: v :: w :: st) S m) : pGo X Y R n0 s0 Z (pc) ls (v :: w :: st) S m := by
  intro p l e s mi args below meth c H locs lsA hC hP hS hl hn hs
  exact lv_dup2_11 hC.1 hC.2.1 hd (by rw [ptr_cat]; exact hv) (by rw [ptr_cat]; exact hw) (k p l e s mi args below meth c H locs lsA hC hP hS hl hn hs)
theorem g_dup_x1 {v w : Value} (hd : decode Y.2.1 pc = .ok (.dup_x1, 1)) (hv : v.category = 1) (hw : w.category = 1) (k : pGo X Y R n0 s0 Z (pc + 1) ls (v :: w :: v :: st) S m) : pGo X Y R n0 s0 Z (pc) ls (v :: w :: st) S m := by
  intro p l e s mi args below meth c H locs lsA hC hP hS hl hn hs
  exact lv_dup_x1 hC.1 hC.2.1 hd (by rw [ptr_cat]; exact hv) (by rw [ptr_cat]; exact hw) (k p l e s mi args below meth c H locs lsA hC hP hS hl hn hs)
theorem g_dup_x2 {v w u : Value} (hd : decode Y.2.1 pc = .ok (.dup_x2, 1)) (hv : v.category = 1) (hw : w.category = 1) (hu : u.category = 1) (k : pGo X Y R n0 s0 Z (pc + 1) ls (v :: w :: u :: v :: st) S m) : pGo X Y R n0 s0 Z (pc) ls (v :: w :: u :: st) S m := by
  intro p l e s mi args below meth c H locs lsA hC hP hS hl hn hs
  exact lv_dup_x2 hC.1 hC.2.1 hd (by rw [ptr_cat]; exact hv) (by rw [ptr_cat]; exact hw) (by rw [ptr_cat]; exact hu) (k p l e s mi args below meth c H locs lsA hC hP hS hl hn hs)
theorem g_if_eq {x : Int32} {off : Int} (tgt : Nat) (hd : decode Y.2.1 pc = .ok (.ifCond .eq off, 3)) (ht : (pc : Int) + off = (tgt : Int)) (kt : x = 0 → pGo X Y R n0 s0 Z (tgt) ls (st) S m) (kf : ¬ (x = 0) → pGo X Y R n0 s0 Z (pc + 3) ls (st) S m) : pGo X Y R n0 s0 Z (pc) ls (.int x :: st) S m := by
  intro p l e s mi args below meth c H locs lsA hC hP hS hl hn hs
  exact lv_if_eq hC.1 hC.2.1 hd ht (fun q => kt q p l e s mi args below meth c H locs lsA hC hP hS hl hn hs) (fun q => kf q p l e s mi args below meth c H locs lsA hC hP hS hl hn hs)
theorem g_icmp_eq {x y : Int32} {off : Int} (tgt : Nat) (hd : decode Y.2.1 pc = .ok (.if_icmp .eq off, 3)) (ht : (pc : Int) + off = (tgt : Int)) (kt : x = y → pGo X Y R n0 s0 Z (tgt) ls (st) S m) (kf : ¬ (x = y) → pGo X Y R n0 s0 Z (pc + 3) ls (st) S m) : pGo X Y R n0 s0 Z (pc) ls (.int y :: .int x :: st) S m := by
  intro p l e s mi args below meth c H locs lsA hC hP hS hl hn hs
  exact lv_icmp_eq hC.1 hC.2.1 hd ht (fun q => kt q p l e s mi args below meth c H locs lsA hC hP hS hl hn hs) (fun q => kf q p l e s mi args below meth c H locs lsA hC hP hS hl hn hs)
theorem g_if_ne {x : Int32} {off : Int} (tgt : Nat) (hd : decode Y.2.1 pc = .ok (.ifCond .ne off, 3)) (ht : (pc : Int) + off = (tgt : Int)) (kt : ¬ x = 0 → pGo X Y R n0 s0 Z (tgt) ls (st) S m) (kf : x = 0 → pGo X Y R n0 s0 Z (pc + 3) ls (st) S m) : pGo X Y R n0 s0 Z (pc) ls (.int x :: st) S m := by
  intro p l e s mi args below meth c H locs lsA hC hP hS hl hn hs
  exact lv_if_ne hC.1 hC.2.1 hd ht (fun q => kt q p l e s mi args below meth c H locs lsA hC hP hS hl hn hs) (fun q => kf q p l e s mi args below meth c H locs lsA hC hP hS hl hn hs)
theorem g_icmp_ne {x y : Int32} {off : Int} (tgt : Nat) (hd : decode Y.2.1 pc = .ok (.if_icmp .ne off, 3)) (ht : (pc : Int) + off = (tgt : Int)) (kt : ¬ x = y → pGo X Y R n0 s0 Z (tgt) ls (st) S m) (kf : x = y → pGo X Y R n0 s0 Z (pc + 3) ls (st) S m) : pGo X Y R n0 s0 Z (pc) ls (.int y :: .int x :: st) S m := by
  intro p l e s mi args below meth c H locs lsA hC hP hS hl hn hs
  exact lv_icmp_ne hC.1 hC.2.1 hd ht (fun q => kt q p l e s mi args below meth c H locs lsA hC hP hS hl hn hs) (fun q => kf q p l e s mi args below meth c H locs lsA hC hP hS hl hn hs)
theorem g_if_lt {x : Int32} {off : Int} (tgt : Nat) (hd : decode Y.2.1 pc = .ok (.ifCond .lt off, 3)) (ht : (pc : Int) + off = (tgt : Int)) (kt : x < 0 → pGo X Y R n0 s0 Z (tgt) ls (st) S m) (kf : ¬ (x < 0) → pGo X Y R n0 s0 Z (pc + 3) ls (st) S m) : pGo X Y R n0 s0 Z (pc) ls (.int x :: st) S m := by
  intro p l e s mi args below meth c H locs lsA hC hP hS hl hn hs
  exact lv_if_lt hC.1 hC.2.1 hd ht (fun q => kt q p l e s mi args below meth c H locs lsA hC hP hS hl hn hs) (fun q => kf q p l e s mi args below meth c H locs lsA hC hP hS hl hn hs)
theorem g_icmp_lt {x y : Int32} {off : Int} (tgt : Nat) (hd : decode Y.2.1 pc = .ok (.if_icmp .lt off, 3)) (ht : (pc : Int) + off = (tgt : Int)) (kt : x < y → pGo X Y R n0 s0 Z (tgt) ls (st) S m) (kf : ¬ (x < y) → pGo X Y R n0 s0 Z (pc + 3) ls (st) S m) : pGo X Y R n0 s0 Z (pc) ls (.int y :: .int x :: st) S m := by
  intro p l e s mi args below meth c H locs lsA hC hP hS hl hn hs
  exact lv_icmp_lt hC.1 hC.2.1 hd ht (fun q => kt q p l e s mi args below meth c H locs lsA hC hP hS hl hn hs) (fun q => kf q p l e s mi args below meth c H locs lsA hC hP hS hl hn hs)
theorem g_if_ge {x : Int32} {off : Int} (tgt : Nat) (hd : decode Y.2.1 pc = .ok (.ifCond .ge off, 3)) (ht : (pc : Int) + off = (tgt : Int)) (kt : 0 ≤ x → pGo X Y R n0 s0 Z (tgt) ls (st) S m) (kf : ¬ (0 ≤ x) → pGo X Y R n0 s0 Z (pc + 3) ls (st) S m) : pGo X Y R n0 s0 Z (pc) ls (.int x :: st) S m := by
  intro p l e s mi args below meth c H locs lsA hC hP hS hl hn hs
  exact lv_if_ge hC.1 hC.2.1 hd ht (fun q => kt q p l e s mi args below meth c H locs lsA hC hP hS hl hn hs) (fun q => kf q p l e s mi args below meth c H locs lsA hC hP hS hl hn hs)
theorem g_icmp_ge {x y : Int32} {off : Int} (tgt : Nat) (hd : decode Y.2.1 pc = .ok (.if_icmp .ge off, 3)) (ht : (pc : Int) + off = (tgt : Int)) (kt : y ≤ x → pGo X Y R n0 s0 Z (tgt) ls (st) S m) (kf : ¬ (y ≤ x) → pGo X Y R n0 s0 Z (pc + 3) ls (st) S m) : pGo X Y R n0 s0 Z (pc) ls (.int y :: .int x :: st) S m := by
  intro p l e s mi args below meth c H locs lsA hC hP hS hl hn hs
  exact lv_icmp_ge hC.1 hC.2.1 hd ht (fun q => kt q p l e s mi args below meth c H locs lsA hC hP hS hl hn hs) (fun q => kf q p l e s mi args below meth c H locs lsA hC hP hS hl hn hs)
theorem g_if_gt {x : Int32} {off : Int} (tgt : Nat) (hd : decode Y.2.1 pc = .ok (.ifCond .gt off, 3)) (ht : (pc : Int) + off = (tgt : Int)) (kt : 0 < x → pGo X Y R n0 s0 Z (tgt) ls (st) S m) (kf : ¬ (0 < x) → pGo X Y R n0 s0 Z (pc + 3) ls (st) S m) : pGo X Y R n0 s0 Z (pc) ls (.int x :: st) S m := by
  intro p l e s mi args below meth c H locs lsA hC hP hS hl hn hs
  exact lv_if_gt hC.1 hC.2.1 hd ht (fun q => kt q p l e s mi args below meth c H locs lsA hC hP hS hl hn hs) (fun q => kf q p l e s mi args below meth c H locs lsA hC hP hS hl hn hs)
theorem g_icmp_gt {x y : Int32} {off : Int} (tgt : Nat) (hd : decode Y.2.1 pc = .ok (.if_icmp .gt off, 3)) (ht : (pc : Int) + off = (tgt : Int)) (kt : y < x → pGo X Y R n0 s0 Z (tgt) ls (st) S m) (kf : ¬ (y < x) → pGo X Y R n0 s0 Z (pc + 3) ls (st) S m) : pGo X Y R n0 s0 Z (pc) ls (.int y :: .int x :: st) S m := by
  intro p l e s mi args below meth c H locs lsA hC hP hS hl hn hs
  exact lv_icmp_gt hC.1 hC.2.1 hd ht (fun q => kt q p l e s mi args below meth c H locs lsA hC hP hS hl hn hs) (fun q => kf q p l e s mi args below meth c H locs lsA hC hP hS hl hn hs)
theorem g_if_le {x : Int32} {off : Int} (tgt : Nat) (hd : decode Y.2.1 pc = .ok (.ifCond .le off, 3)) (ht : (pc : Int) + off = (tgt : Int)) (kt : x ≤ 0 → pGo X Y R n0 s0 Z (tgt) ls (st) S m) (kf : ¬ (x ≤ 0) → pGo X Y R n0 s0 Z (pc + 3) ls (st) S m) : pGo X Y R n0 s0 Z (pc) ls (.int x :: st) S m := by
  intro p l e s mi args below meth c H locs lsA hC hP hS hl hn hs
  exact lv_if_le hC.1 hC.2.1 hd ht (fun q => kt q p l e s mi args below meth c H locs lsA hC hP hS hl hn hs) (fun q => kf q p l e s mi args below meth c H locs lsA hC hP hS hl hn hs)
theorem g_icmp_le {x y : Int32} {off : Int} (tgt : Nat) (hd : decode Y.2.1 pc = .ok (.if_icmp .le off, 3)) (ht : (pc : Int) + off = (tgt : Int)) (kt : x ≤ y → pGo X Y R n0 s0 Z (tgt) ls (st) S m) (kf : ¬ (x ≤ y) → pGo X Y R n0 s0 Z (pc + 3) ls (st) S m) : pGo X Y R n0 s0 Z (pc) ls (.int y :: .int x :: st) S m := by
  intro p l e s mi args below meth c H locs lsA hC hP hS hl hn hs
  exact lv_icmp_le hC.1 hC.2.1 hd ht (fun q => kt q p l e s mi args below meth c H locs lsA hC hP hS hl hn hs) (fun q => kf q p l e s mi args below meth c H locs lsA hC hP hS hl hn hs)
theorem g_goto {off : Int} (tgt : Nat) (hd : decode Y.2.1 pc = .ok (.goto off, 3)) (ht : (pc : Int) + off = (tgt : Int)) (k : pGo X Y R n0 s0 Z (tgt) ls (st) S m) : pGo X Y R n0 s0 Z (pc) ls (st) S m := by
  intro p l e s mi args below meth c H locs lsA hC hP hS hl hn hs
  exact lv_goto hC.1 hC.2.1 hd ht (k p l e s mi args below meth c H locs lsA hC hP hS hl hn hs)
theorem g_ifnull {off : Int} {v : Nat} (hd : decode Y.2.1 pc = .ok (.ifnull off, 3)) (k : pGo X Y R n0 s0 Z (pc + 3) ls (st) S m) : pGo X Y R n0 s0 Z (pc) ls (.ref v :: st) S m := by
  intro p l e s mi args below meth c H locs lsA hC hP hS hl hn hs
  exact lv_ifnull hC.1 hC.2.1 hd (k p l e s mi args below meth c H locs lsA hC hP hS hl hn hs)
theorem g_ifnullN {off : Int} (tgt : Nat) (hd : decode Y.2.1 pc = .ok (.ifnull off, 3)) (ht : (pc : Int) + off = (tgt : Int)) (k : pGo X Y R n0 s0 Z (tgt) ls (st) S m) : pGo X Y R n0 s0 Z (pc) ls (.null :: st) S m := by
  intro p l e s mi args below meth c H locs lsA hC hP hS hl hn hs
  exact lv_ifnullN hC.1 hC.2.1 hd ht (k p l e s mi args below meth c H locs lsA hC hP hS hl hn hs)
theorem g_ifnonnull {off : Int} {v : Nat} (tgt : Nat) (hd : decode Y.2.1 pc = .ok (.ifnonnull off, 3)) (ht : (pc : Int) + off = (tgt : Int)) (k : pGo X Y R n0 s0 Z (tgt) ls (st) S m) : pGo X Y R n0 s0 Z (pc) ls (.ref v :: st) S m := by
  intro p l e s mi args below meth c H locs lsA hC hP hS hl hn hs
  exact lv_ifnonnull hC.1 hC.2.1 hd ht (k p l e s mi args below meth c H locs lsA hC hP hS hl hn hs)
theorem g_ifnonnullN {off : Int} (hd : decode Y.2.1 pc = .ok (.ifnonnull off, 3)) (k : pGo X Y R n0 s0 Z (pc + 3) ls (st) S m) : pGo X Y R n0 s0 Z (pc) ls (.null :: st) S m := by
  intro p l e s mi args below meth c H locs lsA hC hP hS hl hn hs
  exact lv_ifnonnullN hC.1 hC.2.1 hd (k p l e s mi args below meth c H locs lsA hC hP hS hl hn hs)
theorem g_tabOut {dflt lo hi : Int} {offs : Array Int} {len : Nat} {x : Int32} (tgt : Nat) (hd : decode Y.2.1 pc = .ok (.tableswitch dflt lo hi offs, len)) (h : x.toInt < lo ∨ hi < x.toInt) (ht : (pc : Int) + dflt = (tgt : Int)) (k : pGo X Y R n0 s0 Z tgt ls st S m) : pGo X Y R n0 s0 Z pc ls (.int x :: st) S m := by
  intro p l e s mi args below meth c H locs lsA hC hP hS hl hn hs
  exact lv_tableOut hC.1 hC.2.1 hd h ht (k p l e s mi args below meth c H locs lsA hC hP hS hl hn hs)
theorem g_tabIn {dflt lo hi : Int} {offs : Array Int} {len : Nat} {x : Int32} {off : Int} (tgt : Nat) (hd : decode Y.2.1 pc = .ok (.tableswitch dflt lo hi offs, len)) (h1 : ¬ x.toInt < lo) (h2 : ¬ hi < x.toInt) (ho : offs[(x.toInt - lo).toNat]? = some off) (ht : (pc : Int) + off = (tgt : Int)) (k : pGo X Y R n0 s0 Z tgt ls st S m) : pGo X Y R n0 s0 Z pc ls (.int x :: st) S m := by
  intro p l e s mi args below meth c H locs lsA hC hP hS hl hn hs
  exact lv_tableIn hC.1 hC.2.1 hd h1 h2 ho ht (k p l e s mi args below meth c H locs lsA hC hP hS hl hn hs)
theorem g_lookup {dflt : Int} {ps : Array (Int × Int)} {len : Nat} {x : Int32} {off : Int} (tgt : Nat) (hd : decode Y.2.1 pc = .ok (.lookupswitch dflt ps, len)) (hp : (ps.toList.zip (ps.toList.drop 1)).all (fun (a, next) => a.1 < next.1) = true) (ho : Op.lookupswitch.offset ps.toList dflt x.toInt = off) (ht : (pc : Int) + off = (tgt : Int)) (k : pGo X Y R n0 s0 Z tgt ls st S m) : pGo X Y R n0 s0 Z pc ls (.int x :: st) S m := by
  intro p l e s mi args below meth c H locs lsA hC hP hS hl hn hs
  exact lv_lookup hC.1 hC.2.1 hd hp ho ht (k p l e s mi args below meth c H locs lsA hC hP hS hl hn hs)
end PR
