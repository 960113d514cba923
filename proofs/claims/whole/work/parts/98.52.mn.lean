/-! ===== rows of rows ===== -/
section T61
variable {E : CtlPost} {e : Env} {d : Bool} {acts : List Action} {s : State} {f : JFrame}
theorem mn_row {c : ClassId} {n : Int32} {k : Class} {comp : ClassId} {Q : Addr → Pre} (hn : ¬ n < 0) (hk : s.vm.classes[c]? = some k) (hkind : k.kind = .array comp .int) (hlimit : ¬ n.toNatClampNeg > e.platform.arrayLengthLimit) (hheap : ¬ n.toNatClampNeg * componentBytes .int > e.platform.maxHeapBytes)
    (hcells : s.heap.size < e.platform.maxCells) (hslots : s.slotsUsed + n.toNatClampNeg ≤ e.platform.maxSlots)
    (hq : ∀ acts', Q s.heap.size d acts' (s.pushCell { cls := c, slots := Array.replicate n.toNatClampNeg (.int 0) })) : wp (multianewarray.make c [n]) Q E e d acts s := by
  simp only [multianewarray.make, wp_bind', W.ite, hn, if_false, wp_pure', W.theClass, hk, Option.some.injEq, exists_eq_left', hkind]
  exact W.newArray_of hk hkind hlimit hheap hcells hslots rfl hq
theorem mn_top {index : Nat} {c : ClassId} {n1 n2 : Int32} {rest : List Value} {Q : Unit → Pre} (hs : s.topJava?.isSome) (hr : s.vm.classReady f.method.cls index c) (hstack : f.stack = .int n2 :: .int n1 :: rest)
    (hq : wp (multianewarray.make c [n1, n2]) (fun a d acts s => wp (do Jvm.mark "op.multianewarray"; Jvm.pushRef a) Q E e d acts s) E e true acts (s.setTop { f with stack := rest })) : wp (multianewarray.sem index 2) Q E e d acts (s.setTop f) := by
  simp only [multianewarray.sem, wp_bind', W.resolveClassAt_ready (State.method?_setTop f hs) hr]
  refine (popN_top (args := [.int n1, .int n2]) hs hstack).mpr ?_
  simp only [List.mapM_cons, List.mapM_nil, wp_bind', wp_pure']
  exact hq
/-- one row more -/
def mnS (a : Nat) (cI : ClassId) (n i : Nat) (U : State) : State := (U.pushCell { cls := cI, slots := Array.replicate n (.int 0) }).setCell a (((U.heap[a]?).getD { cls := cI, slots := #[] }).setSlot i (.ref U.heap.size))
def mnI (a : Nat) (cI : ClassId) (n : Nat) : Nat → Nat → State → State
  | 0, _, U => U
  | k + 1, i, U => mnI a cI n k (i + 1) (mnS a cI n i U)
theorem mn_loop {a : Nat} {cO cI comp : ClassId} {kO kI : Class} {n2 : Int32} {N : Nat} {Q : PUnit → Pre} (hn : ¬ n2 < 0) (hlimit : ¬ n2.toNatClampNeg > e.platform.arrayLengthLimit) (hheap : ¬ n2.toNatClampNeg * componentBytes .int > e.platform.maxHeapBytes) (hkO : kO.kind = .array cI (.array .int)) (hkI : kI.kind = .array comp .int) : ∀ (k i : Nat) (U : State) (cell : Cell) (d : Bool) (acts : List Action), i + k = N → U.topJava?.isSome → U.vm.classes[cO]? = some kO → U.vm.classes[cI]? = some kI → U.heap[a]? = some cell → cell.cls = cO → cell.vm = .none → cell.slots.size = N → U.heap.size + k ≤ e.platform.maxCells → U.slotsUsed + k * n2.toNatClampNeg ≤ e.platform.maxSlots →
    (∀ d' acts', Q PUnit.unit d' acts' ((mnI a cI n2.toNatClampNeg k i U).setTop f)) → wp (forIn (List.range' i k) PUnit.unit (fun j (_ : PUnit) => do let r ← multianewarray.make cI [n2]; Jvm.writeLoc a j (.ref r); Pure.pure (ForInStep.yield PUnit.unit))) Q E e d acts (U.setTop f) := by
  intro k
  induction k with
  | zero =>
    intro i U cell d acts _ _ _ _ _ _ _ _ _ _ hq
    simp only [List.range'_zero, List.forIn_nil, wp_pure']
    exact hq d acts
  | succ k ih =>
    intro i U cell d acts hN hs hO hI hc hcl hvm hsz hcells hslots hq
    have hlt : a < U.heap.size := (Array.getElem?_eq_some_iff.mp hc).1
    simp only [List.range'_succ, List.forIn_cons, wp_bind']
    refine mn_row (k := kI) (comp := comp) hn (show (U.setTop f).vm.classes[cI]? = some kI from hI) hkI hlimit hheap (by show U.heap.size < _; omega) (by show U.slotsUsed + _ ≤ _; rw [Nat.succ_mul] at hslots; omega) (fun acts' => ?_)
    simp only [wp_bind', W.writeLoc, wp_pure']
    have e1 : mnS a cI n2.toNatClampNeg i U = (U.pushCell { cls := cI, slots := Array.replicate n2.toNatClampNeg (.int 0) }).setCell a (cell.setSlot i (.ref U.heap.size)) := by unfold mnS; rw [hc]; rfl
    have hp : (U.pushCell { cls := cI, slots := Array.replicate n2.toNatClampNeg (.int 0) }).heap[a]? = some cell := by
      show (U.heap.push _)[a]? = some cell
      rw [Array.getElem?_push, if_neg (by omega)]; exact hc
    refine ⟨cell, hp, (fun z => by rw [hvm] at z; cases z), by omega, ?_, ?_⟩
    · rw [hcl, hvm]
      simp [State.fitsSlot, State.slotType?, hO, hkO]
      rfl
    · have e2 : (((U.setTop f).pushCell { cls := cI, slots := Array.replicate n2.toNatClampNeg (.int 0) }).setCell a (cell.setSlot i (.ref (Array.size (U.setTop f).heap)))) = (mnS a cI n2.toNatClampNeg i U).setTop f := by
        rw [e1]; rfl
      rw [e2]
      have hlt2 : a < (U.pushCell { cls := cI, slots := Array.replicate n2.toNatClampNeg (.int 0) }).heap.size := (Array.getElem?_eq_some_iff.mp hp).1
      refine ih (i + 1) (mnS a cI n2.toNatClampNeg i U) (cell.setSlot i (.ref U.heap.size)) _ _ (by omega) (by rw [e1]; exact hs) (by rw [e1]; exact hO) (by rw [e1]; exact hI) (by rw [e1]; exact heapAt_setCell_self _ hlt2) hcl hvm (by simpa [Cell.setSlot] using hsz) ?_ ?_ hq
      · rw [e1, size_setCell]
        show (U.heap.push _).size + k ≤ _
        rw [Array.size_push]; omega
      · rw [e1]
        show U.slotsUsed + (Array.replicate n2.toNatClampNeg (Value.int 0)).size + _ ≤ _
        rw [Array.size_replicate]
        rw [Nat.succ_mul] at hslots; omega
theorem mn_make {c cI comp : ClassId} {kO kI : Class} {n1 n2 : Int32} {Q : Addr → Pre} (hs : s.topJava?.isSome) (h1 : ¬ n1 < 0) (h10 : ¬ n1 = 0) (h2 : ¬ n2 < 0) (hO : s.vm.classes[c]? = some kO) (hkO : kO.kind = .array cI (.array .int)) (hI : s.vm.classes[cI]? = some kI) (hkI : kI.kind = .array comp .int)
    (hl1 : ¬ n1.toNatClampNeg > e.platform.arrayLengthLimit) (hh1 : ¬ n1.toNatClampNeg * componentBytes (.array .int) > e.platform.maxHeapBytes) (hl2 : ¬ n2.toNatClampNeg > e.platform.arrayLengthLimit) (hh2 : ¬ n2.toNatClampNeg * componentBytes .int > e.platform.maxHeapBytes)
    (hcells : s.heap.size + 1 + n1.toNatClampNeg ≤ e.platform.maxCells) (hslots : s.slotsUsed + n1.toNatClampNeg + n1.toNatClampNeg * n2.toNatClampNeg ≤ e.platform.maxSlots)
    (hq : ∀ d' acts', Q s.heap.size d' acts' ((mnI s.heap.size cI n2.toNatClampNeg n1.toNatClampNeg 0 (s.pushCell { cls := c, slots := Array.replicate n1.toNatClampNeg .null })).setTop f)) : wp (multianewarray.make c [n1, n2]) Q E e d acts (s.setTop f) := by
  have hO' : (s.setTop f).vm.classes[c]? = some kO := hO
  unfold multianewarray.make
  simp only [wp_bind', W.ite, h1, if_false, wp_pure', W.theClass, hO', Option.some.injEq, exists_eq_left', hkO]
  refine W.newArray_of (k := kO) (comp := cI) (type := .array .int) hO' hkO hl1 hh1 (by show s.heap.size < _; omega) (by show s.slotsUsed + _ ≤ _; omega) rfl (fun acts' => ?_)
  have hb : (n1 == 0) = false := by simp [h10]
  simp only [hb, Bool.false_eq_true, if_false, wp_bind', wp_pure']
  rw [Std.Legacy.Range.forIn_eq_forIn_range']
  have e0 : Std.Legacy.Range.size [:n1.toNatClampNeg] = n1.toNatClampNeg := by simp [Std.Legacy.Range.size]
  rw [e0]
  have e2 : (s.setTop f).pushCell { cls := c, slots := Array.replicate n1.toNatClampNeg Value.null } = (s.pushCell { cls := c, slots := Array.replicate n1.toNatClampNeg Value.null }).setTop f := rfl
  rw [e2]
  refine mn_loop (a := s.heap.size) (cO := c) (kO := kO) (kI := kI) (comp := comp) (N := n1.toNatClampNeg) h2 hl2 hh2 hkO hkI n1.toNatClampNeg 0 _ { cls := c, slots := Array.replicate n1.toNatClampNeg Value.null } _ _ (by omega) hs hO hI ?_ rfl rfl (by simp) ?_ ?_ (fun d' acts' => hq d' acts')
  · show (s.heap.push _)[s.heap.size]? = _
    rw [Array.getElem?_push_size]
  · show (s.heap.push _).size + _ ≤ _
    rw [Array.size_push]; omega
  · show s.slotsUsed + (Array.replicate n1.toNatClampNeg Value.null).size + _ ≤ _
    rw [Array.size_replicate]; omega
end T61
