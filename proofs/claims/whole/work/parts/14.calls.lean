/-! ===== calls, returns ===== -/
theorem p_low {X : pX} {S : List pShp} {m : pMem} {H H0 : Heap} {locs : List Loc} {n0 : Nat} (hP : va_P X.1 vwCl (pws X S m) H) (hS : va_S (pA X) H0 H locs) (hz : H0.size = pB X + n0) : pB X + S.length ≤ H.size := by
  cases hl : S.length with
  | zero => have := hS.1; omega
  | succ k =>
    have hk : k < S.length := by omega
    have h := (hP k _ (pws_get (X := X) (m := m) (List.getElem?_eq_getElem hk))).lt
    have h' : pB X + k < H.size := h
    omega
theorem p_size {p : Program} {l : Launch} {e : Env} {R : Room} {s : State} {mi : MethodId} {args : Array Value} {below : List Frame} {meth : Method} {c : Code} {T : State} {locs : List Loc} {n0 slots : Nat} {X : pX} {S : List pShp} {m : pMem} {H : Heap} (Xs : Stand p l e R s mi args below meth c T locs (S.length - n0) slots) (hT : T.heap = H) (hP : va_P X.1 vwCl (pws X S m) H) (hS : va_S (pA X) s.heap H locs) (hz : s.heap.size = pB X + n0) (hn : n0 ≤ S.length) : H.size = pB X + S.length := by
  have h1 := Xs.heapSize
  rw [hT] at h1
  have h2 := p_low hP hS hz
  omega
theorem pPc_blind (X : pX) (vs : List Value) (S : List pShp) (m : pMem) : FrameBlind (pPc X vs S m) := by
  intro a U g mk q
  obtain ⟨q0, q1, q2, q3⟩ := q
  exact ⟨q0, q1, q2, pWd_moved (s := U) (U := U.calling g mk a) (H := U.heap) (locs := []) q3 (by rw [q1]; exact Nat.le_add_right _ _) va_S.rf rfl (State.WarmedH.refl U)⟩
theorem p_toList (X : pX) (v : Option Value) (st : List Value) : (v.map (ptr X)).toList ++ st.map (ptr X) = (v.toList ++ st).map (ptr X) := by
  cases v <;> simp
theorem p_catsum (X : pX) (st : List Value) : ((st.map (ptr X)).map fun v => v.category) = st.map fun v => v.category := by
  rw [List.map_map]
  congr 1
  funext v
  exact ptr_cat X v
/-- behind a run -/
theorem p_run {p : Program} {l : Launch} {e : Env} {R : Room} {s : State} {mi : MethodId} {args : Array Value} {below : List Frame} {meth : Method} {c : Code} {H : Heap} {locs : List Loc} {cells slots mc ms : Nat} {pc : Nat} {lsA : Array Slot} {st0 rest : List Value} {Qz : State → Prop} {X : pX} {Sf : List pShp} {Q : Option Value → pMem → Prop} {a : Array Value}
    (hr : va_Run p l e R s mi args below meth c H locs cells slots mc ms (F0 mi pc lsA st0) (rest.map (ptr X)) (pQc X Sf Q a) (pA X)) (hS : va_S (pA X) s.heap H locs)
    (kk : ∀ (v : Option Value) (m2 : pMem) (H1 : Heap) (locs1 : List Loc), Q v m2 → va_P X.1 vwCl (pws X Sf m2) H1 → va_S (pA X) s.heap H1 locs1 → W p l e R s mi args below meth c H1 locs1 (cells + mc) (slots + ms) Qz (F0 mi (pc + 3) lsA ((v.toList ++ rest).map (ptr X)))) :
    W p l e R s mi args below meth c H locs cells slots Qz (F0 mi pc lsA st0) := by
  intro T hT Xs
  obtain ⟨v, st₀, t, T', L, h0, X', hL, e1, e2, ⟨v', m2, hv, hq, hP1, hz, hk⟩, stp⟩ := hr T hT Xs
  cases hv
  rw [h0] at hz hk
  obtain ⟨t2, a1, b1⟩ := kk v' m2 T'.heap (locs ++ L) hq (by rw [e1]; exact hP1) ⟨Nat.le_trans hS.1 (by rw [e1]; exact hz), fun q h1 h2 => by rw [e1, hk q (Nat.lt_of_lt_of_le h1 hS.1) h2]; exact hS.2.1 q h1 h2, fun q hq => by
      rcases List.mem_append.mp hq with h | h
      · exact hS.2.2 q h
      · exact hL q h⟩ T' rfl X'
  rw [← p_toList] at a1
  exact ⟨t2, stp t2 a1, b1⟩
/-- a call's words -/
def pcd (Y2 : pM) (n : Nat) : Prop := Y2.1.cls ≠ "java/lang/invoke/MethodHandle" ∧ Y2.1.cls ≠ "java/lang/invoke/VarHandle" ∧ (parseMethodDescriptor Y2.1.desc).map (fun d => d.parameters.length) = some n
def pCV (own : String) (idx ci : Nat) (Y2 : pM) (n : Nat) : Prop := ∃ (T : u_T) (N : Nat), pCk ci Y2.1.cls T N ∧ Cond.methodLink own idx Y2.1 ∈ pgl ∧ Cond.instanceMethod Y2.1 ∈ pgl ∧ Cond.selects Y2.1.cls Y2.1 Y2.1 ∈ pgl ∧ Cond.initialized Y2.1.cls ∈ pgl ∧ Cond.code Y2.1 Y2.2.1 Y2.2.2.1 Y2.2.2.2 ∈ pgl ∧ pcd Y2 n
def pCS (own : String) (idx : Nat) (Y2 : pM) (n : Nat) : Prop := Cond.methodLink own idx Y2.1 ∈ pgl ∧ Cond.static Y2.1 ∈ pgl ∧ Cond.initialized Y2.1.cls ∈ pgl ∧ Cond.code Y2.1 Y2.2.1 Y2.2.2.1 Y2.2.2.2 ∈ pgl ∧ pcd Y2 n
def pCI (own : String) (idx : Nat) (Y2 : pM) (n : Nat) : Prop := (Cond.methodLink own idx Y2.1 ∈ pgl ∨ ∃ host, Cond.methodLinkNest own idx Y2.1 host ∈ pnest) ∧ Cond.instanceMethod Y2.1 ∈ pgl ∧ Cond.initialized Y2.1.cls ∈ pgl ∧ Cond.code Y2.1 Y2.2.1 Y2.2.2.1 Y2.2.2.2 ∈ pgl ∧ pcd Y2 n ∧ Y2.1.name = "<init>" ∧ Y2.2.2.2 = none
theorem p_good {Y2 : pM} (h : Cond.code Y2.1 Y2.2.1 Y2.2.2.1 Y2.2.2.2 ∈ pgl) : GoodIn pgl (pwd Y2) := fun w hw => by
  rcases List.mem_cons.mp hw with rfl | h2
  · exact pgl_good _ h
  · exact pgl_good _ h2
section PC
variable {X : pX} {Y : pM} {R : Room} {n0 s0 : Nat} {Z : List Frame → Array Value → State → State → Prop} {pc : Nat} {ls : List (Nat × Value)} {st st0 : List Value} {S Sf : List pShp} {m : pMem} {Y2 : pM} {As : List Value} {d n idx : Nat}
/-- what a call asks of the room -/
def pRm (R : Room) (n0 s0 : Nat) (Y2 : pM) (d : Nat) (S Sf : List pShp) : Prop := (d + 1 ≤ R.frames ∧ 8 + (Y2.2.2.1 + 11) + 60 * d ≤ R.locals) ∧ (S.length ≤ Sf.length ∧ psl S ≤ psl Sf) ∧ Sf.length - n0 ≤ R.cells ∧ psl Sf - s0 ≤ R.slots
theorem p_pre {p : Program} {s : State} {mi : MethodId} {args : Array Value} {meth : Method} {c : Code} {H : Heap} {locs : List Loc} {vs : List Value} (hC : pSt X Y n0 p s mi args meth c) (hP : va_P X.1 vwCl (pws X S m) H) (hS : va_S (pA X) s.heap H locs) (hz : H.size = pB X + S.length) : ∀ U : State, U.heap = H → s.WarmedH U.vm → pPc X vs S m (vs.map (ptr X)).toArray U := by
  intro U hU hW
  have hz0 := hC.2.2.2.2.2.2.2.2.2
  exact ⟨rfl, by rw [hU]; exact hz, by rw [hU]; exact hP, pWd_moved hC.2.2.2.2.2.2.2.2.1 (by rw [hz0]; exact Nat.le_add_right _ _) hS hU hW⟩
theorem g_callV {ci a : Nat} (hd : decode Y.2.1 pc = .ok (.invokevirtual idx, 3)) (hw : pCV Y.1.cls idx ci Y2 n) (hc : S[a]? = some (.inl ci)) (hn : As.length = n) (hst : st0 = As.reverse ++ .ref a :: st) (hcat : (st.map fun v => v.category).sum ≤ 8) (hR : pRm R n0 s0 Y2 d S Sf)
    (hm : pCl X Y2 d S Sf (.ref a :: As) m (fun v m2 => pGo X Y R n0 s0 Z (pc + 3) ls (v.toList ++ st) Sf m2)) : pGo X Y R n0 s0 Z pc ls st0 S m := by
  subst hst
  intro p l e s mi args below meth c H locs lsA hC hP hS hl hn0 hs T hT Xs
  have hz := p_size Xs hT hP hS hC.2.2.2.2.2.2.2.2.2 hn0
  obtain ⟨T2, N2, hck, w1, w2, w3, w4, w5, hd2⟩ := hw
  have ts := hC.2.2.2.2.2.2.2.1
  have hrecv := va_recv (s := s) (H := H) hC.2.2.2.2.2.2.2.2.1.1 hP hck.1 (pws_get hc)
  have cb : CallB R s args Y.1.cls idx Y2.1 Y2.2.1 Y2.2.2.1 Y2.2.2.2 (pwd Y2) (prm d S Sf) (Sf.length - S.length) (psl Sf - psl S) n := callB_of n ts (p_good w5) rfl rfl rfl (ts _ w4) (ts _ w1) hd2 hR.1
  have hg0 : (F0 mi pc lsA ((As.reverse ++ .ref a :: st).map (ptr X))).stack = (As.map (ptr X)).reverse ++ .ref (pB X + a) :: st.map (ptr X) := by
    show (As.reverse ++ .ref a :: st).map (ptr X) = _
    rw [List.map_append, List.map_reverse]
    rfl
  have e1 : (S.length - n0) + (Sf.length - S.length) = Sf.length - n0 := by have := hR.2.1.1; omega
  have e2 : (psl S - s0) + (psl Sf - psl S) = psl Sf - s0 := by have := hR.2.1.2; omega
  refine p_run (va_runV (As := As.map (ptr X)) (rest := st.map (ptr X)) (b := pB X + a) (C := Y2.1.cls) (nL := Y.2.2.1) ⟨hC.1, hC.2.1, hC.2.2.2.2.2.1, hC.2.2.2.2.2.2.1, ts⟩ (hm l) ⟨cb, ts _ w2, ts _ w3⟩ ⟨pPc_blind X _ S m, hrecv, fun U hU hW => p_pre hC hP hS hz U hU hW⟩ rfl (by rw [List.length_map]; exact hn) hl.1 hg0 (lv_room (by rw [p_catsum]; exact hcat)) hd ⟨by rw [e1]; exact hR.2.2.1, by rw [e2]; exact hR.2.2.2⟩) hS (fun v m2 H1 locs1 hq hP1 hS1 => ?_) T hT Xs
  have hk := hq p l e s mi args below meth c H1 locs1 lsA hC hP1 hS1 hl (Nat.le_trans hn0 hR.2.1.1) (Nat.le_trans hs hR.2.1.2)
  rw [e1, e2]
  exact hk
theorem g_callS (hd : decode Y.2.1 pc = .ok (.invokestatic idx, 3)) (hw : pCS Y.1.cls idx Y2 n) (hn : As.length = n) (hst : st0 = As.reverse ++ st) (hcat : (st.map fun v => v.category).sum ≤ 8) (hR : pRm R n0 s0 Y2 d S Sf)
    (hm : pCl X Y2 d S Sf As m (fun v m2 => pGo X Y R n0 s0 Z (pc + 3) ls (v.toList ++ st) Sf m2)) : pGo X Y R n0 s0 Z pc ls st0 S m := by
  subst hst
  intro p l e s mi args below meth c H locs lsA hC hP hS hl hn0 hs T hT Xs
  have hz := p_size Xs hT hP hS hC.2.2.2.2.2.2.2.2.2 hn0
  obtain ⟨w1, w2, w4, w5, hd2⟩ := hw
  have ts := hC.2.2.2.2.2.2.2.1
  have cb : CallB R s args Y.1.cls idx Y2.1 Y2.2.1 Y2.2.2.1 Y2.2.2.2 (pwd Y2) (prm d S Sf) (Sf.length - S.length) (psl Sf - psl S) n := callB_of n ts (p_good w5) rfl rfl rfl (ts _ w4) (ts _ w1) hd2 hR.1
  have hg0 : (F0 mi pc lsA ((As.reverse ++ st).map (ptr X))).stack = (As.map (ptr X)).reverse ++ st.map (ptr X) := by
    show (As.reverse ++ st).map (ptr X) = _
    rw [List.map_append, List.map_reverse]
  have e1 : (S.length - n0) + (Sf.length - S.length) = Sf.length - n0 := by have := hR.2.1.1; omega
  have e2 : (psl S - s0) + (psl Sf - psl S) = psl Sf - s0 := by have := hR.2.1.2; omega
  refine p_run (va_runS (As := As.map (ptr X)) (rest := st.map (ptr X)) (nL := Y.2.2.1) ⟨hC.1, hC.2.1, hC.2.2.2.2.2.1, hC.2.2.2.2.2.2.1, ts⟩ (hm l) ⟨cb, ts _ w2⟩ ⟨pPc_blind X _ S m, fun U hU hW => p_pre hC hP hS hz U hU hW⟩ rfl (by rw [List.length_map]; exact hn) hl.1 hg0 (lv_room (by rw [p_catsum]; exact hcat)) hd ⟨by rw [e1]; exact hR.2.2.1, by rw [e2]; exact hR.2.2.2⟩) hS (fun v m2 H1 locs1 hq hP1 hS1 => ?_) T hT Xs
  have hk := hq p l e s mi args below meth c H1 locs1 lsA hC hP1 hS1 hl (Nat.le_trans hn0 hR.2.1.1) (Nat.le_trans hs hR.2.1.2)
  rw [e1, e2]
  exact hk
theorem g_callI {a : Nat} (hd : decode Y.2.1 pc = .ok (.invokespecial idx, 3)) (hw : pCI Y.1.cls idx Y2 n) (hn : As.length = n) (hst : st0 = As.reverse ++ .ref a :: st) (hcat : (st.map fun v => v.category).sum ≤ 8) (hR : pRm R n0 s0 Y2 d S Sf)
    (hm : pCl X Y2 d S Sf (.ref a :: As) m (fun v m2 => pGo X Y R n0 s0 Z (pc + 3) ls (v.toList ++ st) Sf m2)) : pGo X Y R n0 s0 Z pc ls st0 S m := by
  subst hst
  intro p l e s mi args below meth c H locs lsA hC hP hS hl hn0 hs T hT Xs
  have hz := p_size Xs hT hP hS hC.2.2.2.2.2.2.2.2.2 hn0
  obtain ⟨w1, w2, w4, w5, hd2, hnm, hrt⟩ := hw
  have ts := hC.2.2.2.2.2.2.2.1
  have hg0 : (F0 mi pc lsA ((As.reverse ++ .ref a :: st).map (ptr X))).stack = (As.map (ptr X)).reverse ++ .ref (pB X + a) :: st.map (ptr X) := by
    show (As.reverse ++ .ref a :: st).map (ptr X) = _
    rw [List.map_append, List.map_reverse]
    rfl
  have e1 : (S.length - n0) + (Sf.length - S.length) = Sf.length - n0 := by have := hR.2.1.1; omega
  have e2 : (psl S - s0) + (psl Sf - psl S) = psl Sf - s0 := by have := hR.2.1.2; omega
  have hw5 : pwd Y2 = Cond.code Y2.1 Y2.2.1 Y2.2.2.1 none :: pgl := by unfold pwd; rw [hrt]
  have fin : va_Run p l e R s mi args below meth c H locs (S.length - n0) (psl S - s0) (Sf.length - S.length) (psl Sf - psl S) (F0 mi pc lsA ((As.reverse ++ .ref a :: st).map (ptr X))) (st.map (ptr X)) (pQc X Sf (fun v m2 => pGo X Y R n0 s0 Z (pc + 3) ls (v.toList ++ st) Sf m2) (Value.ref (pB X + a) :: As.map (ptr X)).toArray) (pA X) := by
    rcases w1 with w1 | ⟨host, w1⟩
    · exact va_runI (As := As.map (ptr X)) (rest := st.map (ptr X)) (b := pB X + a) (nL := Y.2.2.1) ⟨hC.1, hC.2.1, hC.2.2.2.2.2.1, hC.2.2.2.2.2.2.1, ts⟩ (hm l) ⟨callB_of n ts (p_good w5) hw5 rfl rfl (ts _ w4) (ts _ w1) hd2 hR.1, hnm, ts _ w2⟩ ⟨pPc_blind X _ S m, fun U hU hW => p_pre (vs := .ref a :: As) hC hP hS hz U hU hW⟩ rfl (by rw [List.length_map]; exact hn) hl.1 hg0 (lv_room (by rw [p_catsum]; exact hcat)) hd ⟨by rw [e1]; exact hR.2.2.1, by rw [e2]; exact hR.2.2.2⟩
    · exact va_runIN (As := As.map (ptr X)) (rest := st.map (ptr X)) (b := pB X + a) (nL := Y.2.2.1) ⟨hC.1, hC.2.1, hC.2.2.2.2.2.1, hC.2.2.2.2.2.2.1, ts⟩ (hm l) ⟨va_cnB n ts (p_good w5) hw5 rfl rfl (hC.2.2.2.2.2.2.2.2.1.2.2.1 _ w1) (ts _ w4) hd2 hR.1, hnm, ts _ w2⟩ ⟨pPc_blind X _ S m, fun U hU hW => p_pre (vs := .ref a :: As) hC hP hS hz U hU hW⟩ rfl (by rw [List.length_map]; exact hn) hl.1 hg0 (lv_room (by rw [p_catsum]; exact hcat)) hd ⟨by rw [e1]; exact hR.2.2.1, by rw [e2]; exact hR.2.2.2⟩
  refine p_run fin hS (fun v m2 H1 locs1 hq hP1 hS1 => ?_) T hT Xs
  have hk := hq p l e s mi args below meth c H1 locs1 lsA hC hP1 hS1 hl (Nat.le_trans hn0 hR.2.1.1) (Nat.le_trans hs hR.2.1.2)
  rw [e1, e2]
  exact hk
theorem g_objInit {a : Nat} (hd : decode Y.2.1 pc = .ok (.invokespecial idx, 3)) (hw : Cond.methodLink Y.1.cls idx objectInit ∈ pgl ∧ Cond.instanceMethod objectInit ∈ pgl ∧ Cond.code objectInit ⟨#[0xb1]⟩ 1 none ∈ pgl) (hcat : (st.map fun v => v.category).sum ≤ 8) (hR : 1 ≤ R.frames ∧ 20 ≤ R.locals) (k : pGo X Y R n0 s0 Z (pc + 3) ls st S m) : pGo X Y R n0 s0 Z pc ls (.ref a :: st) S m := by
  intro p l e s mi args below meth c H locs lsA hC hP hS hl hn0 hs
  have ts := hC.2.2.2.2.2.2.2.1
  have h8 : 2 * (F0 mi pc lsA (.ref (pB X + a) :: st.map (ptr X))).monitorRoom + ((st.map (ptr X)).map fun v => v.category).sum ≤ 8 := lv_room (by rw [p_catsum]; exact hcat)
  exact W.objInit hC.1 hC.2.1 hC.2.2.2.2.2.2.1 (ts _ hw.1) (ts _ hw.2.1) (ts _ hw.2.2) (g := F0 mi pc lsA (.ref (pB X + a) :: st.map (ptr X))) rfl (by rw [hC.2.2.2.2.2.1]; exact hl.1) rfl hd hR.1 (by omega) (k p l e s mi args below meth c H locs lsA hC hP hS hl hn0 hs)
/-- returns -/
def pEnd (R : Room) (n0 s0 : Nat) (S : List pShp) : Prop := R.cells = S.length - n0 ∧ R.slots = psl S - s0
variable {Q : Option Value → pMem → Prop}
theorem p_qc {p : Program} {s : State} {mi : MethodId} {args : Array Value} {meth : Method} {c : Code} {H : Heap} {locs : List Loc} {v : Option Value} (hP : va_P X.1 vwCl (pws X S m) H) (hS : va_S (pA X) s.heap H locs) (hq : Q v m) : ∀ t : State, t.heap = H → s.WarmedH t.vm → pQc X S Q args s (.returned (v.map (ptr X))) t :=
  fun t ht _ => ⟨v, m, rfl, hq, by rw [ht]; exact hP, hS.F ht⟩
theorem g_iret {v : Int32} (hd : decode Y.2.1 pc = .ok (.ireturn, 1)) (hr : Y.2.2.2 = some .int) (he : pEnd R n0 s0 S) (hq : Q (some (.int v)) m) : pGo X Y R n0 s0 (pZ X R S Q) pc ls [.int v] S m := by
  intro p l e s mi args below meth c H locs lsA hC hP hS hl hn0 hs
  have hlk : meth.locks = false := hC.2.2.2.1
  unfold pZ
  rw [he.1, he.2]
  exact W.iret hC.1 hC.2.1 (hC.2.2.1.trans hr) (p_qc (p := p) (mi := mi) (meth := meth) (c := c) hP hS hq) hS.2.2 hd hlk
theorem g_zret {v : Int32} {ty : FieldType} (hd : decode Y.2.1 pc = .ok (.ireturn, 1)) (hr : Y.2.2.2 = some ty) (hv : narrow ty (.int v) = .int v) (he : pEnd R n0 s0 S) (hq : Q (some (.int v)) m) : pGo X Y R n0 s0 (pZ X R S Q) pc ls [.int v] S m := by
  intro p l e s mi args below meth c H locs lsA hC hP hS hl hn0 hs
  have hlk : meth.locks = false := hC.2.2.2.1
  unfold pZ
  rw [he.1, he.2]
  exact W.zret hC.1 hC.2.1 (hC.2.2.1.trans hr) hv (p_qc (p := p) (mi := mi) (meth := meth) (c := c) hP hS hq) hS.2.2 hd hlk
theorem g_bret {v : Int32} (hd : decode Y.2.1 pc = .ok (.ireturn, 1)) (hr : Y.2.2.2 = some .boolean) (hv : v = 0 ∨ v = 1) (he : pEnd R n0 s0 S) (hq : Q (some (.int v)) m) : pGo X Y R n0 s0 (pZ X R S Q) pc ls [.int v] S m := g_zret hd hr (by rcases hv with rfl | rfl <;> rfl) he hq
theorem g_lret {v : Int64} (hd : decode Y.2.1 pc = .ok (.lreturn, 1)) (hr : Y.2.2.2 = some .long) (he : pEnd R n0 s0 S) (hq : Q (some (.long v)) m) : pGo X Y R n0 s0 (pZ X R S Q) pc ls [.long v] S m := by
  intro p l e s mi args below meth c H locs lsA hC hP hS hl hn0 hs
  have hlk : meth.locks = false := hC.2.2.2.1
  unfold pZ
  rw [he.1, he.2]
  exact W.lret hC.1 hC.2.1 (hC.2.2.1.trans hr) (p_qc (p := p) (mi := mi) (meth := meth) (c := c) hP hS hq) hS.2.2 hd hlk
theorem g_vret (hd : decode Y.2.1 pc = .ok (.return_, 1)) (hr : Y.2.2.2 = none) (he : pEnd R n0 s0 S) (hq : Q none m) : pGo X Y R n0 s0 (pZ X R S Q) pc ls [] S m := by
  intro p l e s mi args below meth c H locs lsA hC hP hS hl hn0 hs
  have hlk : meth.locks = false := hC.2.2.2.1
  unfold pZ
  rw [he.1, he.2]
  exact W.vret hC.1 hC.2.1 (hC.2.2.1.trans hr) (p_qc (p := p) (mi := mi) (meth := meth) (c := c) hP hS hq) hS.2.2 hd hlk
theorem g_aret {v : Value} {rt : FieldType} (hd : decode Y.2.1 pc = .ok (.areturn, 1)) (hr : Y.2.2.2 = some rt) (hrt : (∃ n, rt = .object n) ∨ ∃ t, rt = .array t) (hv : v = .null ∨ (∃ a, v = .ref a) ∨ ∃ a, v = .retAddr a) (he : pEnd R n0 s0 S) (hq : Q (some v) m) : pGo X Y R n0 s0 (pZ X R S Q) pc ls [v] S m := by
  intro p l e s mi args below meth c H locs lsA hC hP hS hl hn0 hs
  have hlk : meth.locks = false := hC.2.2.2.1
  unfold pZ
  rw [he.1, he.2]
  exact W.aret (v := ptr X v) hC.1 hC.2.1 (hC.2.2.1.trans hr) hrt (by rcases hv with rfl | ⟨a, rfl⟩ | ⟨a, rfl⟩ <;> simp [ptr]) (p_qc (p := p) (mi := mi) (meth := meth) (c := c) hP hS hq) hS.2.2 hd hlk
/-- System.arraycopy of int rows -/
theorem g_copy {a b na nb : Nat} {sp dp n : Int32} (hd : decode Y.2.1 pc = .ok (.invokestatic idx, 3)) (hw : Cond.methodLink Y.1.cls idx arraycopyName ∈ pgl ∧ Cond.native arraycopyName ∈ pgl ∧ Cond.static arraycopyName ∈ pgl ∧ Cond.initialized "java/lang/System" ∈ pgl) (ha : S[a]? = some (.inr (.int, na))) (hb : S[b]? = some (.inr (.int, nb)))
    (h1 : ¬ sp < 0) (h2 : ¬ dp < 0) (h3 : ¬ n < 0) (h4 : sp.toNatClampNeg + n.toNatClampNeg ≤ na) (h5 : dp.toNatClampNeg + n.toNatClampNeg ≤ nb) (hcat : (st.map fun v => v.category).sum ≤ 8) (hR : 1 ≤ R.frames ∧ 60 ≤ R.locals)
    (k : pGo X Y R n0 s0 Z (pc + 3) ls st S (uC m a sp.toNatClampNeg b dp.toNatClampNeg n.toNatClampNeg)) : pGo X Y R n0 s0 Z pc ls (.int n :: .int dp :: .ref b :: .int sp :: .ref a :: st) S m := by
  intro p l e s mi args below meth c H locs lsA hC hP hS hl hn0 hs
  have ts := hC.2.2.2.2.2.2.2.1
  obtain ⟨t0, ht⟩ := ptys_at (X := X) (ty := .int) (by decide)
  refine va_copyi hC.1 hC.2.1 (by rw [hC.2.2.2.2.2.1]; exact hl.1.symm) hC.2.2.2.2.2.2.1 (ts _ hw.1) (ts _ hw.2.1) (ts _ hw.2.2.1) (ts _ hw.2.2.2) hC.2.2.2.2.2.2.2.2.1.1 hP (pws_D X S m) hS a b t0 t0 (pws_get ha) (pws_get hb) ht ht rfl h1 h2 h3 h4 h5 (fun i _ => rfl) hR.1 ?_ hd (fun H1 locs1 hP1 hD1 hS1 => ?_)
  · have e0 : nativeFrameWords "java/lang/System" "arraycopy" 5 + 11 ≤ 50 := by decide
    rw [p_catsum]
    omega
  · rw [p_ast (m2 := uC m a sp.toNatClampNeg b dp.toNatClampNeg n.toNatClampNeg) hb (by show Sum.inl _ = Sum.inl _; congr 1; funext j; simp [mI_uC, va_cpy]) (fun q sh hq => pcell_uC X m a _ b _ _ q sh hq)] at hP1
    exact k p l e s mi args below meth c H1 locs1 lsA hC hP1 hS1 hl hn0 hs
theorem g_copyN {a b na nb s1 d1 n1 : Nat} {sp dp n : Int32} (hd : decode Y.2.1 pc = .ok (.invokestatic idx, 3)) (hw : Cond.methodLink Y.1.cls idx arraycopyName ∈ pgl ∧ Cond.native arraycopyName ∈ pgl ∧ Cond.static arraycopyName ∈ pgl ∧ Cond.initialized "java/lang/System" ∈ pgl) (ha : S[a]? = some (.inr (.int, na))) (hb : S[b]? = some (.inr (.int, nb)))
    (h0 : ¬ sp < 0 ∧ ¬ dp < 0 ∧ ¬ n < 0) (e1 : sp.toNatClampNeg = s1) (e2 : dp.toNatClampNeg = d1) (e3 : n.toNatClampNeg = n1) (h4 : s1 + n1 ≤ na) (h5 : d1 + n1 ≤ nb) (hcat : (st.map fun v => v.category).sum ≤ 8) (hR : 1 ≤ R.frames ∧ 60 ≤ R.locals)
    (k : pGo X Y R n0 s0 Z (pc + 3) ls st S (uC m a s1 b d1 n1)) : pGo X Y R n0 s0 Z pc ls (.int n :: .int dp :: .ref b :: .int sp :: .ref a :: st) S m := by
  subst e1; subst e2; subst e3
  exact g_copy hd hw ha hb h0.1 h0.2.1 h0.2.2 h4 h5 hcat hR k
/-- a call on a text -/
def pCO (own : String) (idx : Nat) (Y2 : pM) (n : Nat) : Prop := Cond.methodLink own idx Y2.1 ∈ pgl ∧ Cond.instanceMethod Y2.1 ∈ pgl ∧ Cond.selects Y2.1.cls Y2.1 Y2.1 ∈ pgl ∧ Cond.initialized Y2.1.cls ∈ pgl ∧ Cond.code Y2.1 Y2.2.1 Y2.2.2.1 Y2.2.2.2 ∈ pgl ∧ pcd Y2 n
theorem g_callVO {k : Nat} (hd : decode Y.2.1 pc = .ok (.invokevirtual idx, 3)) (hw : pCO Y.1.cls idx Y2 n) (hy : Y2.1.cls = "java/lang/String") (hk : 1 ≤ k ∧ k ≤ 25) (hn : As.length = n) (hst : st0 = As.reverse ++ .retAddr k :: st) (hcat : (st.map fun v => v.category).sum ≤ 8) (hR : pRm R n0 s0 Y2 d S Sf)
    (hm : pCl X Y2 d S Sf (.retAddr k :: As) m (fun v m2 => pGo X Y R n0 s0 Z (pc + 3) ls (v.toList ++ st) Sf m2)) : pGo X Y R n0 s0 Z pc ls st0 S m := by
  subst hst
  intro p l e s mi args below meth c H locs lsA hC hP hS hl hn0 hs T hT Xs
  have hz := p_size Xs hT hP hS hC.2.2.2.2.2.2.2.2.2 hn0
  obtain ⟨w1, w2, w3, w4, w5, hd2⟩ := hw
  have ts := hC.2.2.2.2.2.2.2.1
  obtain ⟨i, rfl⟩ : ∃ i, k = i + 1 := ⟨k - 1, by omega⟩
  have hrecv : ∃ cell : Cell, H[pO X (i + 1)]? = some cell ∧ cell.vm.isStatics = false ∧ s.vm.findClass Y2.1.cls = some cell.cls := by
    obtain ⟨cell, h1, h2, h3, -⟩ := ((hC.2.2.2.2.2.2.2.2.1.2.1.2.1 i (by omega)).1).kept hS.2.1
    exact ⟨cell, h1, h2, by rw [hy]; exact h3⟩
  have cb : CallB R s args Y.1.cls idx Y2.1 Y2.2.1 Y2.2.2.1 Y2.2.2.2 (pwd Y2) (prm d S Sf) (Sf.length - S.length) (psl Sf - psl S) n := callB_of n ts (p_good w5) rfl rfl rfl (ts _ w4) (ts _ w1) hd2 hR.1
  have hg0 : (F0 mi pc lsA ((As.reverse ++ .retAddr (i + 1) :: st).map (ptr X))).stack = (As.map (ptr X)).reverse ++ .ref (pO X (i + 1)) :: st.map (ptr X) := by
    show (As.reverse ++ .retAddr (i + 1) :: st).map (ptr X) = _
    rw [List.map_append, List.map_reverse]
    rfl
  have e1 : (S.length - n0) + (Sf.length - S.length) = Sf.length - n0 := by have := hR.2.1.1; omega
  have e2 : (psl S - s0) + (psl Sf - psl S) = psl Sf - s0 := by have := hR.2.1.2; omega
  refine p_run (va_runV (As := As.map (ptr X)) (rest := st.map (ptr X)) (b := pO X (i + 1)) (C := Y2.1.cls) (nL := Y.2.2.1) ⟨hC.1, hC.2.1, hC.2.2.2.2.2.1, hC.2.2.2.2.2.2.1, ts⟩ (hm l) ⟨cb, ts _ w2, ts _ w3⟩ ⟨pPc_blind X _ S m, hrecv, fun U hU hW => p_pre (vs := .retAddr (i + 1) :: As) hC hP hS hz U hU hW⟩ rfl (by rw [List.length_map]; exact hn) hl.1 hg0 (lv_room (by rw [p_catsum]; exact hcat)) hd ⟨by rw [e1]; exact hR.2.2.1, by rw [e2]; exact hR.2.2.2⟩) hS (fun v m2 H1 locs1 hq hP1 hS1 => ?_) T hT Xs
  have hk := hq p l e s mi args below meth c H1 locs1 lsA hC hP1 hS1 hl (Nat.le_trans hn0 hR.2.1.1) (Nat.le_trans hs hR.2.1.2)
  rw [e1, e2]
  exact hk
/-- texts and statics of the JDK's -/
theorem g_getsC (hd : decode Y.2.1 pc = .ok (.getstatic idx, 3)) (hw : Cond.fieldLink Y.1.cls idx "java/lang/String" "COMPACT_STRINGS" "Z" ∈ pgl) (k : pGo X Y R n0 s0 Z (pc + 3) ls (.int 1 :: st) S m) : pGo X Y R n0 s0 Z pc ls st S m := by
  intro p l e s mi args below meth c H locs lsA hC hP hS hl hn0 hs
  exact va_gets hC.1 hC.2.1 hC.2.2.2.2.2.2.2.2.1.2.1.2.2.2.1 hS hC.2.2.2.2.2.2.1 (hC.2.2.2.2.2.2.2.1 _ hw) (fun _ h => h) hd (k p l e s mi args below meth c H locs lsA hC hP hS hl hn0 hs)
theorem g_getsF (hd : decode Y.2.1 pc = .ok (.getstatic idx, 3)) (hw : Cond.fieldLink Y.1.cls idx "jdk/internal/util/Preconditions" "SIOOBE_FORMATTER" "Ljava/util/function/BiFunction;" ∈ pgl) (k1 : pGo X Y R n0 s0 Z (pc + 3) ls (.null :: st) S m) (k2 : pGo X Y R n0 s0 Z (pc + 3) ls (.retAddr 200 :: st) S m) : pGo X Y R n0 s0 Z pc ls st S m := by
  intro p l e s mi args below meth c H locs lsA hC hP hS hl hn0 hs
  rcases hC.2.2.2.2.2.2.2.2.1.2.1.2.2.2.2 with h | h
  · exact va_gets hC.1 hC.2.1 h hS hC.2.2.2.2.2.2.1 (hC.2.2.2.2.2.2.2.1 _ hw) (fun _ h => h) hd (k1 p l e s mi args below meth c H locs lsA hC hP hS hl hn0 hs)
  · exact va_gets hC.1 hC.2.1 h hS hC.2.2.2.2.2.2.1 (hC.2.2.2.2.2.2.2.1 _ hw) (fun _ h => h) hd (k2 p l e s mi args below meth c H locs lsA hC hP hS hl hn0 hs)
theorem g_coder {i : Nat} (hd : decode Y.2.1 pc = .ok (.getfield idx, 3)) (hw : Cond.fieldLink Y.1.cls idx "java/lang/String" "coder" "B" ∈ pgl) (hi : i < 25) (k : pGo X Y R n0 s0 Z (pc + 3) ls (.int 0 :: st) S m) : pGo X Y R n0 s0 Z pc ls (.retAddr (i + 1) :: st) S m := by
  intro p l e s mi args below meth c H locs lsA hC hP hS hl hn0 hs
  exact vk_getf hC.1 hC.2.1 (hC.2.2.2.2.2.2.2.2.1.2.1.2.1 i hi).2.1 hS hC.2.2.2.2.2.2.1 (hC.2.2.2.2.2.2.2.1 _ hw) (fun _ h => h) hd (k p l e s mi args below meth c H locs lsA hC hP hS hl hn0 hs)
theorem g_value {i : Nat} (hd : decode Y.2.1 pc = .ok (.getfield idx, 3)) (hw : Cond.fieldLink Y.1.cls idx "java/lang/String" "value" "[B" ∈ pgl) (hi : i < 25) (k : pGo X Y R n0 s0 Z (pc + 3) ls (.retAddr (i + 101) :: st) S m) : pGo X Y R n0 s0 Z pc ls (.retAddr (i + 1) :: st) S m := by
  intro p l e s mi args below meth c H locs lsA hC hP hS hl hn0 hs
  exact vk_getf hC.1 hC.2.1 (hC.2.2.2.2.2.2.2.2.1.2.1.2.1 i hi).2.2.1 hS hC.2.2.2.2.2.2.1 (hC.2.2.2.2.2.2.2.1 _ hw) (fun _ h => h) hd (k p l e s mi args below meth c H locs lsA hC hP hS hl hn0 hs)
theorem g_tlen {i : Nat} (hd : decode Y.2.1 pc = .ok (.arraylength, 1)) (hi : i < 25) (k : pGo X Y R n0 s0 Z (pc + 1) ls (.int (Int32.ofNat (lenJ i)) :: st) S m) : pGo X Y R n0 s0 Z pc ls (.retAddr (i + 101) :: st) S m := by
  intro p l e s mi args below meth c H locs lsA hC hP hS hl hn0 hs
  exact va_tlen hC.1 hC.2.1 (hC.2.2.2.2.2.2.2.2.1.2.1.2.1 i hi).2.2.2 hS rfl hd (k p l e s mi args below meth c H locs lsA hC hP hS hl hn0 hs)
theorem g_tb {i : Nat} {j : Int32} (hd : decode Y.2.1 pc = .ok (.baload, 1)) (hi : i < 25) (hj : vp_in j (lenJ i)) (k : pGo X Y R n0 s0 Z (pc + 1) ls (.int (bytJ i j.toNatClampNeg) :: st) S m) : pGo X Y R n0 s0 Z pc ls (.int j :: .retAddr (i + 101) :: st) S m := by
  intro p l e s mi args below meth c H locs lsA hC hP hS hl hn0 hs
  exact va_tb hC.1 hC.2.1 (hC.2.2.2.2.2.2.2.2.1.2.1.2.1 i hi).2.2.2 hS hj rfl hd (k p l e s mi args below meth c H locs lsA hC hP hS hl hn0 hs)
end PC
