/-! ===== rows of rows: in a walk ===== -/
theorem mn_heap {a : Nat} {cI : ClassId} {n : Nat} : ∀ (k i : Nat) (U : State) (cell : Cell), U.heap[a]? = some cell → i + k ≤ cell.slots.size →
    (mnI a cI n k i U).heap.size = U.heap.size + k ∧ (∀ q, q < U.heap.size → q ≠ a → (mnI a cI n k i U).heap[q]? = U.heap[q]?) ∧ (∀ j, j < k → (mnI a cI n k i U).heap[U.heap.size + j]? = some { cls := cI, slots := Array.replicate n (.int 0) })
    ∧ ∃ sl : Array Value, (mnI a cI n k i U).heap[a]? = some { cell with slots := sl } ∧ sl.size = cell.slots.size ∧ ∀ j : Nat, sl[j]? = if i ≤ j ∧ j < i + k then some (.ref (U.heap.size + (j - i))) else cell.slots[j]? := by
  intro k
  induction k with
  | zero =>
    intro i U cell hc hl
    exact ⟨rfl, fun _ _ _ => rfl, fun j hj => absurd hj (Nat.not_lt_zero _), cell.slots, hc, rfl, fun j => by rw [if_neg (by omega)]⟩
  | succ k ih =>
    intro i U cell hc hl
    have hlt : a < U.heap.size := (Array.getElem?_eq_some_iff.mp hc).1
    have e1 : mnS a cI n i U = (U.pushCell { cls := cI, slots := Array.replicate n (.int 0) }).setCell a (cell.setSlot i (.ref U.heap.size)) := by unfold mnS; rw [hc]; rfl
    have hp : (U.pushCell { cls := cI, slots := Array.replicate n (.int 0) }).heap[a]? = some cell := by
      show (U.heap.push _)[a]? = some cell
      rw [Array.getElem?_push, if_neg (by omega)]; exact hc
    have hlt2 : a < (U.pushCell { cls := cI, slots := Array.replicate n (.int 0) }).heap.size := (Array.getElem?_eq_some_iff.mp hp).1
    have z1 : (mnS a cI n i U).heap.size = U.heap.size + 1 := by
      rw [e1, size_setCell]
      show (U.heap.push _).size = _
      rw [Array.size_push]
    have o1 : ∀ q, q ≠ a → (mnS a cI n i U).heap[q]? = (U.heap.push { cls := cI, slots := Array.replicate n (.int 0) })[q]? := fun q hq => by rw [e1, heapAt_setCell_ne _ (Ne.symm hq)]; rfl
    have c1 : (mnS a cI n i U).heap[a]? = some (cell.setSlot i (.ref U.heap.size)) := by rw [e1]; exact heapAt_setCell_self _ hlt2
    have hsz : (cell.setSlot i (.ref U.heap.size)).slots.size = cell.slots.size := by simp [Cell.setSlot]
    obtain ⟨i1, i2, i3, sl, i4, i5, i6⟩ := ih (i + 1) (mnS a cI n i U) _ c1 (by rw [hsz]; omega)
    rw [z1] at i1 i3 i6
    refine ⟨by show (mnI a cI n k (i + 1) (mnS a cI n i U)).heap.size = _; rw [i1]; omega, fun q hq hqa => ?_, fun j hj => ?_, sl, i4, by rw [i5, hsz], fun j => ?_⟩
    · show (mnI a cI n k (i + 1) (mnS a cI n i U)).heap[q]? = _
      rw [i2 q (by omega) hqa, o1 q hqa, Array.getElem?_push, if_neg (by omega)]
    · show (mnI a cI n k (i + 1) (mnS a cI n i U)).heap[U.heap.size + j]? = _
      cases j with
      | zero =>
        refine (i2 _ (by omega) (by omega)).trans ((o1 _ (by omega)).trans ?_)
        show (U.heap.push _)[U.heap.size]? = _
        rw [Array.getElem?_push_size]
      | succ j =>
        have := i3 j (by omega)
        rw [show U.heap.size + 1 + j = U.heap.size + (j + 1) by omega] at this
        exact this
    · rw [i6 j]
      by_cases x : i + 1 ≤ j ∧ j < i + 1 + k
      · rw [if_pos x, if_pos (by omega), show U.heap.size + 1 + (j - (i + 1)) = U.heap.size + (j - i) by omega]
      · rw [if_neg x]
        show (cell.slots.setIfInBounds i (.ref U.heap.size))[j]? = _
        rw [Array.getElem?_setIfInBounds]
        by_cases y : i = j
        · subst y
          rw [if_pos rfl, if_pos (by omega), if_pos (by omega), Nat.sub_self, Nat.add_zero]
        · rw [if_neg y, if_neg (by omega)]
theorem mn_stand {p : Program} {l : Launch} {e : Env} {R : Room} {s : State} {m : MethodId} {args : Array Value} {below : List Frame} {meth : Method} {c : Code} {a : Nat} {cI : ClassId} {n : Nat} : ∀ (k i : Nat) (U : State) (cell : Cell) (locs : List Loc) (cells slots : Nat), U.heap[a]? = some cell → Stand p l e R s m args below meth c U locs cells slots →
    Stand p l e R s m args below meth c (mnI a cI n k i U) (locs ++ (List.range' i k).map (fun j => ⟨a, j⟩)) (cells + k) (slots + k * n) := by
  intro k
  induction k with
  | zero =>
    intro i U cell locs cells slots _ X
    rw [List.range'_zero, List.map_nil, List.append_nil, Nat.zero_mul]; exact X
  | succ k ih =>
    intro i U cell locs cells slots hc X
    have hlt : a < U.heap.size := (Array.getElem?_eq_some_iff.mp hc).1
    have e1 : mnS a cI n i U = (U.pushCell { cls := cI, slots := Array.replicate n (.int 0) }).setCell a (cell.setSlot i (.ref U.heap.size)) := by unfold mnS; rw [hc]; rfl
    have hp : (U.pushCell { cls := cI, slots := Array.replicate n (.int 0) }).heap[a]? = some cell := by
      show (U.heap.push _)[a]? = some cell
      rw [Array.getElem?_push, if_neg (by omega)]; exact hc
    have hlt2 : a < (U.pushCell { cls := cI, slots := Array.replicate n (.int 0) }).heap.size := (Array.getElem?_eq_some_iff.mp hp).1
    have X2 := (X.pushed { cls := cI, slots := Array.replicate n (.int 0) }).stored hp i (.ref U.heap.size)
    rw [← e1] at X2
    have X3 := ih (i + 1) (mnS a cI n i U) _ _ _ _ (by rw [e1]; exact heapAt_setCell_self _ hlt2) X2
    have e2 : locs ++ [⟨a, i⟩] ++ (List.range' (i + 1) k).map (fun j => (⟨a, j⟩ : Loc)) = locs ++ (List.range' i (k + 1)).map (fun j => ⟨a, j⟩) := by rw [List.range'_succ, List.map_cons, List.append_assoc]; rfl
    have e3 : slots + (Array.replicate n (Value.int 0)).size + k * n = slots + (k + 1) * n := by rw [Array.size_replicate, Nat.succ_mul]; omega
    rw [e2] at X3
    show Stand p l e R s m args below meth c (mnI a cI n k (i + 1) (mnS a cI n i U)) _ _ _
    rw [← e3, show cells + (k + 1) = cells + 1 + k by omega]
    exact X3
theorem mn_cold {E : CtlPost} {e : Env} {d : Bool} {acts : List Action} {s : State} {f : JFrame} {Q : Unit → Pre} {index c : Nat} {vm' : Vm} (hs : s.topJava?.isSome) (hg : (Jvm.resolveClass f.method.cls index).Gives e.toSetting s.vm (.ok c) vm') (hr : vm'.classReady f.method.cls index c) (hsz : vm'.classes.size ≤ s.vm.classes.size) :
    wp (multianewarray.sem index 2) Q E e d acts (s.setTop f) ↔ wp (multianewarray.sem index 2) Q E e d acts ((s.setVm vm').setTop f) := by
  simp only [multianewarray.sem, wp_bind']
  exact W.resolveClassAt_transfer (s := s.setTop f) (State.method?_setTop f hs) hg hr hsz
