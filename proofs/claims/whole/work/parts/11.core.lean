/-! ===== the judgement: the machine over an abstract heap ===== -/
/-- the tables' words that every later state keeps -/
def pgl : List Cond := lw_tbl.filter goodWord
theorem pgl_in {w : Cond} (h : w ∈ lw_tbl) (hg : goodWord w = true) : w ∈ pgl := List.mem_filter.mpr ⟨h, hg⟩
theorem pgl_good : GoodIn pgl pgl := fun w h => ⟨h, good_of_word (List.mem_filter.mp h).2⟩
def pwd (Y : pM) : List Cond := Cond.code Y.1 Y.2.1 Y.2.2.1 Y.2.2.2 :: pgl
/-- the words of another kind -/
def pnest : List Cond := [.methodLinkNest "LoadRoad" 9 ⟨"LoadRoad$Tape", "<init>", "()V"⟩ "LoadRoad", .methodLinkNest "LoadRoad$RoadReader" 11 ⟨"LoadRoad$Road", "<init>", "()V"⟩ "LoadRoad", .methodLinkNest "LoadRoad" 38 ⟨"LoadRoad$Rule", "<init>", "()V"⟩ "LoadRoad", .methodLinkNest "LoadRoad$World" 11 ⟨"LoadRoad$Road", "<init>", "()V"⟩ "LoadRoad", .methodLinkNest "LoadRoad$World" 20 ⟨"LoadRoad$State", "<init>", "()V"⟩ "LoadRoad", .methodLinkNest "LoadRoad$Past" 15 ⟨"LoadRoad$State", "<init>", "()V"⟩ "LoadRoad", .methodLinkNest "LoadRoad" 89 ⟨"LoadRoad$State", "<init>", "()V"⟩ "LoadRoad"]
theorem pnest_in : ∀ w ∈ pnest, w ∈ lw_tbl := by decide +kernel
def pOv (s : State) : Prop := (∀ w ∈ pnest, va_Nw w s) ∧ va_AO "LoadRoad$Rule" s ∧ va_AO "LoadRoad$State" s ∧ va_AO "LoadRoad$World" s ∧ (Cond.arrayOver (.array .int)).before #[] s = true
theorem pnest_warm {s U : State} (hW : s.WarmedH U.vm) : ∀ w ∈ pnest, va_Nw w s → va_Nw w U := by
  intro w hw h
  simp only [pnest, List.mem_cons, List.not_mem_nil, or_false] at hw
  rcases hw with rfl | rfl | rfl | rfl | rfl | rfl | rfl <;> exact va_Nw.warmM hW h
theorem pOv_moved {s U : State} (h : pOv s) (hW : s.WarmedH U.vm) : pOv U := by
  obtain ⟨h0, h1, h2, h3, h4⟩ := h
  refine ⟨fun w hw => pnest_warm hW w hw (h0 w hw), h1.moved hW.alike, h2.moved hW.alike, h3.moved hW.alike, ?_⟩
  have e : (Cond.arrayOver (.array .int)).before #[] (s.setVm U.vm) = true := by rw [Cond.arrayOver_setVmC hW.alike]; exact h4
  exact e
def lenJ (i : Nat) : Nat := ([28, 65, 5, 2, 3, 2, 3, 6, 5, 6, 5, 3, 4, 4, 5, 4, 4, 4, 3, 3, 3, 2, 5, 5, 2] : List Nat).getD i 0
def txtJ (i : Nat) : String := (["road stage person thing has ", "person thing weight worth has many load place left pace road day ", "carry", "if", "and", "or", "not", "person", "thing", "weight", "worth", "has", "many", "load", "place", "left", "pace", "road", "day", "not", "and", "or", "stage", "carry", "if"] : List String).getD i ""
def ownJ (i : Nat) : String := if i = 0 then "LoadRoad$RoadReader" else if i < 7 then "LoadRoad$RuleReader" else "LoadRoadModel"
def idxJ (i : Nat) : Nat := ([53, 100, 40, 54, 70, 72, 77, 139, 141, 143, 144, 145, 147, 149, 151, 153, 155, 156, 158, 240, 254, 256, 258, 302, 304] : List Nat).getD i 0
def bytJ (i j : Nat) : Int32 := Int32.ofNat (((txtJ i).toList.map Char.toNat).getD j 0)
/-- what lies outside: the script, the texts, statics of the JDK's -/
def pOut (X : pX) (s : State) : Prop :=
  (pO X 0 < pB X ∧ va_X (pO X 0) (pLn X) (pSc X) s s.heap) ∧
  (∀ i, i < 25 → va_O "java/lang/String" (pO X (i + 1)) (pA X) s s.heap ∧ va_OF "java/lang/String" "coder" "B" (.int 0) (pO X (i + 1)) (pA X) s s.heap ∧ va_OF "java/lang/String" "value" "[B" (.ref (pO X (i + 101))) (pO X (i + 1)) (pA X) s s.heap ∧ va_T .byte (pO X (i + 101)) (lenJ i) (fun j => .int (bytJ i j)) (pA X) s s.heap) ∧
  (∀ i, i < 25 → vk_R (ownJ i) (idxJ i) (txtJ i) (pO X (i + 1)) s) ∧
  va_Z "java/lang/String" "COMPACT_STRINGS" "Z" (.int 1) (pA X) s s.heap ∧ (va_Z "jdk/internal/util/Preconditions" "SIOOBE_FORMATTER" "Ljava/util/function/BiFunction;" .null (pA X) s s.heap ∨ va_Z "jdk/internal/util/Preconditions" "SIOOBE_FORMATTER" "Ljava/util/function/BiFunction;" (.ref (pO X 200)) (pA X) s s.heap)
def pWd (X : pX) (s : State) : Prop := va_K X.1 vwCl (ptys X) s ∧ pOut X s ∧ pOv s
theorem pOut_moved {X : pX} {s U : State} {H : Heap} {locs : List Loc} (h : pOut X s) (hb : pB X ≤ s.heap.size) (hS : va_S (pA X) s.heap H locs) (hU : U.heap = H) (hW : s.WarmedH U.vm) : pOut X U := by
  obtain ⟨⟨h0, h1⟩, h2, h3, h4, h5⟩ := h
  subst hU
  refine ⟨⟨h0, (va_X.moved hW.alike h1).kept (hS.2.1 _ (Nat.lt_of_lt_of_le h0 hb) (Nat.not_le.mpr h0))⟩, fun i hi => ⟨?_, ?_, ?_, ?_⟩, fun i hi => (h3 i hi).warm hW, ?_, ?_⟩
  · exact (va_O.moved hW.alike (h2 i hi).1).kept hS.2.1
  · exact (va_OF.moved hW.alike (h2 i hi).2.1).kept hS.2.1
  · exact (va_OF.moved hW.alike (h2 i hi).2.2.1).kept hS.2.1
  · exact (va_T.moved hW.alike (h2 i hi).2.2.2).kept hS.2.1
  · exact (va_Z.moved hW.alike h4).kept hS.2.1
  · exact h5.imp (fun h => (va_Z.moved hW.alike h).kept hS.2.1) (fun h => (va_Z.moved hW.alike h).kept hS.2.1)
theorem pWd_moved {X : pX} {s U : State} {H : Heap} {locs : List Loc} (h : pWd X s) (hb : pB X ≤ s.heap.size) (hS : va_S (pA X) s.heap H locs) (hU : U.heap = H) (hW : s.WarmedH U.vm) : pWd X U :=
  ⟨va_K.moved hW.alike h.1, pOut_moved h.2.1 hb hS hU hW, pOv_moved h.2.2 hW⟩
/-- what stands while a method runs -/
def pSt (X : pX) (Y : pM) (n0 : Nat) (p : Program) (s : State) (mi : MethodId) (args : Array Value) (meth : Method) (c : Code) : Prop :=
  p.tables.exec = Jvm.exec ∧ c.code = Y.2.1 ∧ meth.sig.returnType = Y.2.2.2 ∧ meth.locks = false ∧ (Y.1.name = "<init>" → meth.name = "<init>") ∧ c.maxLocals = Y.2.2.1 ∧ s.vm.findClass Y.1.cls = some mi.cls ∧ (∀ w ∈ pgl, w.before args s = true) ∧ pWd X s ∧ s.heap.size = pB X + n0
/-- from here the machine comes to Z -/
def pGo (X : pX) (Y : pM) (R : Room) (n0 s0 : Nat) (Z : List Frame → Array Value → State → State → Prop) (pc : Nat) (ls : List (Nat × Value)) (st : List Value) (S : List pShp) (m : pMem) : Prop :=
  ∀ (p : Program) (l : Launch) (e : Env) (s : State) (mi : MethodId) (args : Array Value) (below : List Frame) (meth : Method) (c : Code) (H : Heap) (locs : List Loc) (lsA : Array Slot),
    pSt X Y n0 p s mi args meth c → va_P X.1 vwCl (pws X S m) H → va_S (pA X) s.heap H locs → lv_has lsA Y.2.2.1 (ls.map (ptl X)) → n0 ≤ S.length → s0 ≤ psl S →
    W p l e R s mi args below meth c H locs (S.length - n0) (psl S - s0) (Z below args s) (F0 mi pc lsA (st.map (ptr X)))
/-- a method's end -/
def pQc (X : pX) (Sf : List pShp) (Q : Option Value → pMem → Prop) : Array Value → State → Outcome → State → Prop := fun _ st oc t =>
  ∃ (v : Option Value) (m : pMem), oc = .returned (v.map (ptr X)) ∧ Q v m ∧ va_P X.1 vwCl (pws X Sf m) t.heap ∧ va_F (pA X) st t
def pZ (X : pX) (R : Room) (Sf : List pShp) (Q : Option Value → pMem → Prop) : List Frame → Array Value → State → State → Prop := fun below args s => MQ below (pQc X Sf Q) args s R.cells R.slots (pA X)
/-- a method's start -/
def pPc (X : pX) (vs : List Value) (S : List pShp) (m : pMem) : Array Value → State → Prop := va_Pc (vs.map (ptr X)) (fun U => U.heap.size = pB X + S.length ∧ va_P X.1 vwCl (pws X S m) U.heap ∧ pWd X U)
/-- a room of d frames -/
def prm (d : Nat) (S Sf : List pShp) : Room := { frames := d, cells := Sf.length - S.length, slots := psl Sf - psl S, locals := 60 * d }
/-- a method's contract -/
def pCl (X : pX) (Y : pM) (d : Nat) (S Sf : List pShp) (vs : List Value) (m : pMem) (Q : Option Value → pMem → Prop) : Prop :=
  ∀ l : Launch, Met l Y.1 (pwd Y) (prm d S Sf) (pPc X vs S m) (pQc X Sf Q) (Sf.length - S.length) (psl Sf - psl S) (pA X)
theorem pargs (X : pX) : ∀ (vs : List Value) (i : Nat), lv_args i (vs.map (ptr X)) = (lv_args i vs).map (ptl X)
  | [], _ => rfl
  | v :: vs, i => by
    show (i, ptr X v) :: lv_args _ (vs.map (ptr X)) = (i, ptr X v) :: (lv_args _ vs).map (ptl X)
    rw [ptr_cat, pargs X vs]
theorem psll (X : pX) : ∀ vs : List Value, (lg_sl (vs.map (ptr X))).length = (lg_sl vs).length
  | [] => rfl
  | v :: vs => by
    have ih := psll X vs
    have e : ∀ (w : Value) (ws : List Value), (lg_sl (w :: ws)).length = (if w.category = 2 then 2 else 1) + (lg_sl ws).length := by
      intro w ws
      by_cases h : w.category = 2
      · simp [lg_sl, h]; omega
      · simp [lg_sl, h]; omega
    rw [List.map_cons, e, e, ih, ptr_cat]
/-- a contract, out of the walk from the entry -/
theorem pCl_of {X : pX} {Y : pM} {d : Nat} {S Sf : List pShp} {vs : List Value} {m : pMem} {Q : Option Value → pMem → Prop} {ls : List (Nat × Value)} (hy : plainName Y.1.cls = true) (hn : (lg_sl vs).length ≤ Y.2.2.1) (hls : lv_args 0 vs = ls)
    (k : pGo X Y (prm d S Sf) S.length (psl S) (pZ X (prm d S Sf) Sf Q) 0 ls [] S m) : pCl X Y d S Sf vs m Q := by
  intro l
  refine Met.ofW (cc := Y.2.1) (maxL := Y.2.2.1) (ret := Y.2.2.2) (ws' := pgl) hy rfl ?_
  intro p e s mi args below meth c s₁ B hml hv
  obtain ⟨rfl, hsz, hP, hWd⟩ := hv
  have hts := atoms_spec (ws := pwd Y) B.pre
  have hl := lv_entry (vs.map (ptr X)) (n := Y.2.2.1) (by rw [psll]; exact hn)
  rw [lg_entry_eq]
  generalize (lg_sl (vs.map (ptr X)) ++ List.replicate (Y.2.2.1 - (lg_sl (vs.map (ptr X))).length) Slot.unset).toArray = lsA at hl ⊢
  rw [pargs, hls] at hl
  have h := k p l e s mi (vs.map (ptr X)).toArray below meth c s.heap [] lsA ⟨B.exec, B.bytes, B.returns, B.notSynchronized, fun hi => (name_of_methodNamed B.named B.method).1.trans hi, hml, findClass_of_methodNamed B.named, fun w hw => hts w (List.mem_cons_of_mem _ hw), hWd, hsz⟩ hP va_S.rf hl (Nat.le_refl _) (Nat.le_refl _)
  rw [Nat.sub_self, Nat.sub_self] at h
  exact h
