theorem W_mnew {p : Program} {l : Launch} {e : Env} {R : Room} {s : State} {m : MethodId} {args : Array Value} {below : List Frame} {meth : Method} {c : Code} {H : Heap} {locs : List Loc} {cells slots : Nat} {Q : State → Prop} {cc : ByteArray} (hexec : p.tables.exec = Jvm.exec) (hb : c.code = cc) {own : String} {index : Nat} (hown : s.vm.findClass own = some m.cls) (hclink : (Cond.classLink own index "[[I").before args s = true)
    {cO cI comp : ClassId} {kO kI : Class} (hfO : s.vm.findClass "[[I" = some cO) (hkO : s.vm.classes[cO]? = some kO) (hkindO : kO.kind = .array cI (.array .int)) (hkI : s.vm.classes[cI]? = some kI) (hkindI : kI.kind = .array comp .int)
    {g : JFrame} (hg : g.method = m) (hdg : decode cc g.pc = .ok (.multianewarray index 2, 4)) {n1 n2 : Int32} {rest : List Value} (hstack : g.stack = .int n2 :: .int n1 :: rest) {N n : Nat} (hN : n1.toNatClampNeg = N) (hn : n2.toNatClampNeg = n) (h1 : ¬ n1 < 0) (h10 : ¬ n1 = 0) (h2 : ¬ n2 < 0) (hb1 : N ≤ 60000) (hb2 : n ≤ 60000) (hcells : cells + 1 + N ≤ R.cells) (hslots : slots + N + N * n ≤ R.slots)
    (kk : ∀ (H' : Heap) (locs' : List Loc), H'.size = H.size + 1 + N → (∀ q : Nat, q < H.size → H'[q]? = H[q]?) → H'[H.size]? = some (arrV cO N (fun j => .ref (H.size + 1 + j))) → (∀ j, j < N → H'[H.size + 1 + j]? = some (arrV cI n (fun _ => .int 0))) → (∀ q ∈ locs', q.base = H.size) → W p l e R s m args below meth c H' (locs ++ locs') (cells + 1 + N) (slots + N + N * n) Q { g with pc := g.pc + 4, stack := .ref H.size :: rest }) : W p l e R s m args below meth c H locs cells slots Q g := by
  intro T hT X
  subst hT; subst hb; subst hg; subst hN; subst hn
  have hpl : e.platform.magicAccessors = ({} : Platform).magicAccessors := by rw [X.admits.platform]
  obtain ⟨cc', hfcc, hcl⟩ := Cond.classLink_spec hown hclink e.platform hpl
  cases hfO.symm.trans hfcc
  obtain ⟨hg₁, hwarm₁, hready₁⟩ := State.classEntry (e := e) X.warmed hcl
  have hszv : (T.vm.noted g.method.cls index (.cls cO)).classes.size ≤ T.vm.classes.size := by no_record
  generalize T.vm.noted g.method.cls index (.cls cO) = vm₁ at hg₁ hwarm₁ hready₁ hszv
  have hal : s.vm.Alike vm₁ := hwarm₁.alike
  obtain ⟨kO₁, hkO₁, heO⟩ := hal.2.2 _ _ hkO
  have hkindO₁ : kO₁.kind = .array cI (.array .int) := by rw [heO]; exact hkindO
  obtain ⟨kI₁, hkI₁, heI⟩ := hal.2.2 _ _ hkI
  have hkindI₁ : kI₁.kind = .array comp .int := by rw [heI]; exact hkindI
  have hl1 : ¬ n1.toNatClampNeg > e.platform.arrayLengthLimit := by rw [Launch.admits_arrayLengthLimit X.admits]; omega
  have hl2 : ¬ n2.toNatClampNeg > e.platform.arrayLengthLimit := by rw [Launch.admits_arrayLengthLimit X.admits]; omega
  have hh1 : ¬ n1.toNatClampNeg * componentBytes (.array .int) > e.platform.maxHeapBytes := by
    rw [Launch.admits_maxHeapBytes X.admits]; show ¬ n1.toNatClampNeg * 4 > 536870912; omega
  have hh2 : ¬ n2.toNatClampNeg * componentBytes .int > e.platform.maxHeapBytes := by
    rw [Launch.admits_maxHeapBytes X.admits]; show ¬ n2.toNatClampNeg * 4 > 536870912; omega
  have X₁ := X.noted hwarm₁
  have X₂ := X₁.pushed { cls := cO, slots := Array.replicate n1.toNatClampNeg .null }
  have hout : ((T.setVm vm₁).pushCell { cls := cO, slots := Array.replicate n1.toNatClampNeg Value.null }).heap[T.heap.size]? = some { cls := cO, slots := Array.replicate n1.toNatClampNeg Value.null } := by
    show (T.heap.push _)[T.heap.size]? = _
    rw [Array.getElem?_push_size]
  have X₃ := mn_stand (cI := cI) (n := n2.toNatClampNeg) n1.toNatClampNeg 0 _ _ _ _ _ hout X₂
  obtain ⟨z1, z2, z3, sl, z4, z5, z6⟩ := mn_heap (cI := cI) (n := n2.toNatClampNeg) n1.toNatClampNeg 0 _ _ hout (by rw [Array.size_replicate]; omega)
  have zs : ((T.setVm vm₁).pushCell { cls := cO, slots := Array.replicate n1.toNatClampNeg Value.null }).heap.size = T.heap.size + 1 := by
    show (T.heap.push _).size = _
    rw [Array.size_push]
  rw [zs] at z1 z2 z3 z6
  obtain ⟨hr1, hr2⟩ := X.roomAbove (a := 1 + n1.toNatClampNeg) (b := n1.toNatClampNeg + n1.toNatClampNeg * n2.toNatClampNeg) (by omega) (by omega)
  have g1 : ∀ q : Nat, q < T.heap.size → (mnI T.heap.size cI n2.toNatClampNeg n1.toNatClampNeg 0 ((T.setVm vm₁).pushCell { cls := cO, slots := Array.replicate n1.toNatClampNeg .null })).heap[q]? = T.heap[q]? := fun q hq => by
    rw [z2 q (by omega) (by omega)]
    show (T.heap.push _)[q]? = _
    rw [Array.getElem?_push, if_neg (by omega)]
  have g2 : (mnI T.heap.size cI n2.toNatClampNeg n1.toNatClampNeg 0 ((T.setVm vm₁).pushCell { cls := cO, slots := Array.replicate n1.toNatClampNeg .null })).heap[T.heap.size]? = some (arrV cO n1.toNatClampNeg (fun j => .ref (T.heap.size + 1 + j))) := by
    rw [z4]
    have es : sl = Array.ofFn (n := n1.toNatClampNeg) fun j => Value.ref (T.heap.size + 1 + j.val) := by
      apply Array.ext_getElem?
      intro j
      rw [z6 j]
      by_cases hj : j < n1.toNatClampNeg
      · rw [if_pos (by omega)]; simp [hj]
      · rw [if_neg (by omega)]; simp [hj]
    rw [es]
    rfl
  have g3 : ∀ j, j < n1.toNatClampNeg → (mnI T.heap.size cI n2.toNatClampNeg n1.toNatClampNeg 0 ((T.setVm vm₁).pushCell { cls := cO, slots := Array.replicate n1.toNatClampNeg .null })).heap[T.heap.size + 1 + j]? = some (arrV cI n2.toNatClampNeg (fun _ => .int 0)) := fun j hj => by
    rw [z3 j hj, ← arrV_new]
  have g4 : ∀ q ∈ (List.range' 0 n1.toNatClampNeg).map (fun j => (⟨T.heap.size, j⟩ : Loc)), q.base = T.heap.size := fun q hq => by
    obtain ⟨j, _, rfl⟩ := List.mem_map.mp hq
    rfl
  have X₄ : Stand p l e R s g.method args below meth c (mnI T.heap.size cI n2.toNatClampNeg n1.toNatClampNeg 0 ((T.setVm vm₁).pushCell { cls := cO, slots := Array.replicate n1.toNatClampNeg .null })) (locs ++ (List.range' 0 n1.toNatClampNeg).map (fun j => (⟨T.heap.size, j⟩ : Loc))) (cells + 1 + n1.toNatClampNeg) (slots + n1.toNatClampNeg + n1.toNatClampNeg * n2.toNatClampNeg) := by
    have e : slots + (Array.replicate n1.toNatClampNeg Value.null).size = slots + n1.toNatClampNeg := by rw [Array.size_replicate]
    rw [← e]; exact X₃
  obtain ⟨t', a1, b1⟩ := kk _ _ z1 g1 g2 g3 g4 _ rfl X₄
  refine ⟨t', ?_, b1⟩
  jvm_step X.here [hexec, hdg]
  refine (mn_cold (s := T) (f := g) X.here.top hg₁ hready₁ hszv).mpr ?_
  refine mn_top (s := T.setVm vm₁) (f := g) (c := cO) X.here.top hready₁ hstack ?_
  refine mn_make (s := T.setVm vm₁) X.here.top h1 h10 h2 hkO₁ hkindO₁ hkI₁ hkindI₁ hl1 hh1 hl2 hh2 ?_ ?_ (fun d' acts' => ?_)
  · show T.heap.size + 1 + _ ≤ _; omega
  · show T.slotsUsed + _ + _ ≤ _; omega
  · have hV : mnI (Array.size (T.setVm vm₁).heap) cI n2.toNatClampNeg n1.toNatClampNeg 0 ((T.setVm vm₁).pushCell { cls := cO, slots := Array.replicate n1.toNatClampNeg .null }) = mnI T.heap.size cI n2.toNatClampNeg n1.toNatClampNeg 0 ((T.setVm vm₁).pushCell { cls := cO, slots := Array.replicate n1.toNatClampNeg .null }) := rfl
    rw [hV]
    generalize mnI T.heap.size cI n2.toNatClampNeg n1.toNatClampNeg 0 ((T.setVm vm₁).pushCell { cls := cO, slots := Array.replicate n1.toNatClampNeg .null }) = V at a1 X₄ ⊢
    simp only [wp_bind', W.mark, W.pushRef]
    refine ⟨_, State.topJava?_setTop' _ X₄.here.top, fun acts => ?_⟩
    simp [jvm, afterInstr, X₄.here.top]
    rw [State.modifyTopJava_setTop]
    exact a1
/-- new int[N][n] -/
def uM (m : pMem) (a N : Nat) : pMem := (fun x y => if a ≤ x then 0 else m.1 x y, fun x y => if a ≤ x then 0 else m.2.1 x y, fun x y => if x = a ∧ y < N then some (a + 1 + y) else if a ≤ x then none else m.2.2 x y)
theorem mI_uM (m : pMem) (a N x y : Nat) : mI (uM m a N) x y = if a ≤ x then 0 else mI m x y := rfl
theorem mL_uM (m : pMem) (a N x y : Nat) : mL (uM m a N) x y = if a ≤ x then 0 else mL m x y := rfl
theorem mR_uM (m : pMem) (a N x y : Nat) : mR (uM m a N) x y = if x = a ∧ y < N then some (a + 1 + y) else if a ≤ x then none else mR m x y := rfl
section T62
variable {X : pX} {Y : pM} {R : Room} {n0 s0 : Nat} {Z : List Frame → Array Value → State → State → Prop} {pc : Nat} {ls : List (Nat × Value)} {st : List Value} {S : List pShp} {m : pMem} {idx : Nat}
theorem g_mnew {n1 n2 : Int32} {N n : Nat} (hd : decode Y.2.1 pc = .ok (.multianewarray idx 2, 4)) (hw : Cond.classLink Y.1.cls idx "[[I" ∈ pgl) (hN : n1.toNatClampNeg = N) (hn : n2.toNatClampNeg = n) (h1 : ¬ n1 < 0) (h10 : ¬ n1 = 0) (h2 : ¬ n2 < 0) (hb1 : N ≤ 60000) (hb2 : n ≤ 60000) (hR : S.length - n0 + 1 + N ≤ R.cells ∧ psl S - s0 + N + N * n ≤ R.slots)
    (k : pGo X Y R n0 s0 Z (pc + 4) ls (.ref S.length :: st) (S ++ [.inr (.array .int, N)] ++ List.replicate N (.inr (.int, n))) (uM m S.length N)) : pGo X Y R n0 s0 Z pc ls (.int n2 :: .int n1 :: st) S m := by
  intro p l e s mi args below meth c H locs lsA hC hP hS hl hn0 hs T0 hT Xs
  have hz := p_size Xs hT hP hS hC.2.2.2.2.2.2.2.2.2 hn0
  have ts := hC.2.2.2.2.2.2.2.1
  have hWd := hC.2.2.2.2.2.2.2.2.1
  obtain ⟨comp, cO, kO, f1, f2, f3, f4, f5⟩ := arrayOverA_spec hWd.2.2.2.2.2.2
  have hA := (p_cls (X := X) hWd.1 (ty := .array .int) (by decide)).2
  have hI := p_cls (X := X) hWd.1 (ty := .int) (by decide)
  have eO : cO = X.2.1 (.array .int) := Option.some.inj (f5.symm.trans hA)
  have eI : comp = X.2.1 .int := Option.some.inj (f1.symm.trans hI.2)
  obtain ⟨_, kI, hkI, compI, hkindI⟩ := hI.1 0 (fun _ => .null)
  subst eO eI
  refine W_mnew (cO := X.2.1 (.array .int)) (cI := X.2.1 .int) (kO := kO) (kI := kI) (comp := compI) hC.1 hC.2.1 hC.2.2.2.2.2.2.1 (ts _ hw) f5 f3 f4 hkI hkindI (g := F0 mi pc lsA (.int n2 :: .int n1 :: st.map (ptr X))) rfl hd rfl hN hn h1 h10 h2 hb1 hb2 hR.1 hR.2 (fun H1 locs1 z1 o1 c1 c2 q1 => ?_) T0 hT Xs
  have hP1 : va_P X.1 vwCl (pws X (S ++ [.inr (.array .int, N)] ++ List.replicate N (.inr (.int, n))) (uM m S.length N)) H1 := by
    intro k q hq
    obtain ⟨sh', g1, rfl⟩ := pws_of hq
    have hk : k < (S ++ [Sum.inr (FieldType.array .int, N)] ++ List.replicate N (Sum.inr (FieldType.int, n))).length := (List.getElem?_eq_some_iff.mp g1).1
    rw [List.length_append, List.length_append, List.length_replicate] at hk
    have hk : k < S.length + 1 + N := hk
    by_cases hl1 : k < S.length
    · rw [List.append_assoc, List.getElem?_append_left hl1] at g1
      have e := pcell_ne (X := X) (m := m) (m' := uM m S.length N) (a := k) (fun j => by rw [mI_uM, if_neg (by omega)]) (fun j => by rw [mL_uM, if_neg (by omega)]) (fun j => by rw [mR_uM, if_neg (by omega), if_neg (by omega)]) sh'
      rw [e]
      exact (hP k _ (pws_get g1)).kept (o1 _ (by show pB X + k < _; omega))
    · by_cases hl2 : k = S.length
      · subst hl2
        rw [List.append_assoc, List.getElem?_append_right (Nat.le_refl _), Nat.sub_self] at g1
        cases g1
        show H1[pB X + S.length]? = some (vp_cell _ _)
        rw [← hz, c1]
        simp only [vp_cell, pav, mR_uM]
        congr 1
        unfold arrV
        congr 1
        apply Array.ext_getElem?
        intro j
        by_cases hj : j < N
        · simp [hj, va_rf, hz]; exact (Nat.add_assoc (pB X + S.length) 1 j).trans ((Nat.add_assoc (pB X) S.length (1 + j)).trans (congrArg (pB X + ·) (Nat.add_assoc S.length 1 j).symm))
        · simp [hj]
      · obtain ⟨j, rfl⟩ : ∃ j, k = S.length + 1 + j := ⟨k - (S.length + 1), by omega⟩
        rw [List.getElem?_append_right (by rw [List.length_append]; show S.length + 1 ≤ _; omega)] at g1
        rw [List.getElem?_replicate] at g1
        split at g1
        · cases g1
          show H1[pB X + (S.length + 1 + j)]? = some (vp_cell _ _)
          rw [show pB X + (S.length + 1 + j) = H.size + 1 + j by omega, c2 j (by omega)]
          simp only [vp_cell, pav, mI_uM]
          congr 1
          congr 1
          funext x
          rw [if_pos (by omega)]
        · cases g1
  have hl1 : (S ++ [Sum.inr (FieldType.array .int, N)] ++ List.replicate N (Sum.inr (FieldType.int, n))).length = S.length + 1 + N := by simp; omega
  have hpr : ∀ k, psl (List.replicate k (Sum.inr (FieldType.int, n))) = k * n := fun k => by
    induction k with
    | zero => simp [psl]
    | succ k ih => rw [List.replicate_succ]; simp only [psl, psl1]; rw [ih, Nat.succ_mul]; omega
  have hl2 : psl (S ++ [Sum.inr (FieldType.array .int, N)] ++ List.replicate N (Sum.inr (FieldType.int, n))) = psl S + N + N * n := by rw [psl_app, psl_app, hpr]; simp [psl, psl1]
  have hS1 : va_S (pA X) s.heap H1 (locs ++ locs1) := ⟨Nat.le_trans hS.1 (by omega), fun q y1 y2 => (o1 q (Nat.lt_of_lt_of_le y1 hS.1)).trans (hS.2.1 q y1 y2), fun q hq => by
    rcases List.mem_append.mp hq with y | y
    · exact hS.2.2 q y
    · show pB X ≤ q.base
      rw [q1 q y]; omega⟩
  have hk := k p l e s mi args below meth c H1 (locs ++ locs1) lsA hC hP1 hS1 hl (by omega) (by omega)
  rw [hl1, hl2] at hk
  rw [show S.length - n0 + 1 + N = S.length + 1 + N - n0 by omega, show psl S - s0 + N + N * n = psl S + N + N * n - s0 by omega, hz]
  exact hk
end T62
