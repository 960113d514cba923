/-! ===== the start ===== -/
def posJ (i : Nat) : Nat := ([48, 90, 80, 161, 181, 193, 170, 237, 256, 314, 337, 275, 360, 383, 407, 433, 459, 205, 486, 540, 569, 599, 220, 293, 513] : List Nat).getD i 0
def srJ (i : Nat) : Nat := ([543, 696, 679, 709, 725, 726, 718, 1332, 1333, 1422, 1423, 1334, 1424, 1425, 1426, 1427, 1428, 1330, 1429, 1443, 1460, 1461, 1331, 1398, 1430] : List Nat).getD i 0
def flJ : List Cond := flatC (Jvm.Cond.and given_1 narrow_1)
theorem stJ1 : ∀ i, i < 25 → flJ[posJ i]? = some (Cond.exactly (.string (ownJ i) (idxJ i)) "java/lang/String") := by decide +kernel
theorem stJ2 : ∀ i, i < 25 → flJ[posJ i + 1]? = some (Cond.eq (.field (.string (ownJ i) (idxJ i)) "java/lang/String" "coder" "B") (.int 0)) := by decide +kernel
theorem stJ3 : ∀ i, i < 25 → flJ[posJ i + 2]? = some (Cond.arrayOf (.field (.string (ownJ i) (idxJ i)) "java/lang/String" "value" "[B") .byte) := by decide +kernel
theorem stJ4 : ∀ i, i < 25 → flJ[posJ i + 3]? = some (Cond.eq (.length (.field (.string (ownJ i) (idxJ i)) "java/lang/String" "value" "[B")) (.int (Int32.ofNat (lenJ i)))) := by decide +kernel
theorem stJ5 : ∀ i, i < 25 → ∀ j, j < lenJ i → flJ[posJ i + 4 + j]? = some (Cond.eq (.elem (.field (.string (ownJ i) (idxJ i)) "java/lang/String" "value" "[B") (.int (Int32.ofNat j))) (.int (bytJ i j))) := by decide +kernel
theorem stJ6 : ∀ i, i < 25 → lw_tbl[srJ i]? = some (Cond.stringRef (ownJ i) (idxJ i) (txtJ i)) := by decide +kernel
theorem stJ7 : ∀ i, i < 25 → lenJ i < 2 ^ 31 := by decide +kernel
theorem whole_S {args : Array Value} {s : State} {A : Nat → Prop} (hA : ∀ a : Nat, a < s.heap.size → ¬ A a) (hts : ∀ w ∈ lw_tbl, w.before args s = true) (hgv : (Jvm.Cond.and given_1 narrow_1).before args s = true) : ∃ ad : Nat → Nat × Nat, ∀ i, i < 25 → (va_O "java/lang/String" (ad i).1 A s s.heap ∧ va_OF "java/lang/String" "coder" "B" (.int 0) (ad i).1 A s s.heap ∧ va_OF "java/lang/String" "value" "[B" (.ref (ad i).2) (ad i).1 A s s.heap ∧ va_T .byte (ad i).2 (lenJ i) (fun j => .int (bytJ i j)) A s s.heap) ∧ vk_R (ownJ i) (idxJ i) (txtJ i) (ad i).1 s := by
  have hg : ∀ c ∈ flJ, c.before args s = true := flat_of_before _ hgv
  have h0 : ∀ i : Nat, ∃ q : Nat × Nat, i < 25 → (va_O "java/lang/String" q.1 A s s.heap ∧ va_OF "java/lang/String" "coder" "B" (.int 0) q.1 A s s.heap ∧ va_OF "java/lang/String" "value" "[B" (.ref q.2) q.1 A s s.heap ∧ va_T .byte q.2 (lenJ i) (fun j => .int (bytJ i j)) A s s.heap) ∧ vk_R (ownJ i) (idxJ i) (txtJ i) q.1 s := by
    intro i
    by_cases hi : i < 25
    · have hex := hg _ (List.mem_of_getElem? (stJ1 i hi))
      obtain ⟨a, c, cA, kA, q1, q2, q3, q4, q5, q6, -⟩ := Cond.exactly_spec (args := args) (first := s) (o := none) (s := s) (idx := []) (t := .string (ownJ i) (idxJ i)) (cls := "java/lang/String") hex
      obtain ⟨t, ht, hT⟩ := va_Tof (f := fun j => .int (bytJ i j)) (A := A) (stJ7 i hi) (hg _ (List.mem_of_getElem? (stJ3 i hi))) (va_eqt (hg _ (List.mem_of_getElem? (stJ4 i hi)))) (fun j hj => va_eqt (hg _ (List.mem_of_getElem? (stJ5 i hi j hj)))) hA
      exact ⟨(a, t), fun _ => ⟨⟨va_Oof hex q1 hA, vk_OFof q1 (va_eqt (hg _ (List.mem_of_getElem? (stJ2 i hi)))) hA, vk_OFof q1 ht hA, hT⟩, vk_R.of (hts _ (List.mem_of_getElem? (stJ6 i hi))) q1⟩⟩
    · exact ⟨(0, 0), fun h => absurd h hi⟩
  exact Classical.axiomOfChoice h0
theorem st_over {s : State} {args : Array Value} {C : String} (h : (Cond.arrayOver (.object C)).before args s = true) : ∃ c, ArrOfT s c (.object C) ∧ va_RA s c (.object C) := by
  obtain ⟨comp, c, k, hcomp, hidx, hk, hkind, hname⟩ := Cond.arrayOver_spec h
  exact ⟨c, fun N z => ⟨(fun k h => by cases h), k, hk, comp, hkind⟩, k, comp, hk, hkind, hcomp, hname⟩
theorem st_overA {s : State} {args : Array Value} (h : (Cond.arrayOver (.array .int)).before args s = true) : ∃ c, ArrOfT s c (.array .int) ∧ va_RA s c (.array .int) := by
  obtain ⟨comp, c, k, f1, f2, f3, f4, f5⟩ := arrayOverA_spec h
  exact ⟨c, fun N z => ⟨(fun k h => by cases h), k, f3, comp, f4⟩, f5⟩
theorem st_int {s : State} {args : Array Value} (h : (Cond.arrayClass .int).before args s = true) : ∃ c, ArrOfT s c .int ∧ va_RA s c .int := by
  obtain ⟨c, k, comp, h1, h2, h3⟩ := Cond.arrayClass_spec h
  exact ⟨c, fun N z => ⟨(fun k h => by cases h), k, h2, comp, h3⟩, h1⟩
theorem st_byte {s : State} {args : Array Value} (h : (Cond.arrayClass .byte).before args s = true) : ∃ c, ArrOfT s c .byte ∧ va_RA s c .byte := by
  obtain ⟨c, k, comp, h1, h2, h3⟩ := Cond.arrayClass_spec h
  exact ⟨c, fun N z => ⟨(fun k h => by cases h), k, h2, comp, h3⟩, h1⟩
theorem st_boolean {s : State} {args : Array Value} (h : (Cond.arrayClass .boolean).before args s = true) : ∃ c, ArrOfT s c .boolean ∧ va_RA s c .boolean := by
  obtain ⟨c, k, comp, h1, h2, h3⟩ := Cond.arrayClass_spec h
  exact ⟨c, fun N z => ⟨(fun k h => by cases h), k, h2, comp, h3⟩, h1⟩
theorem st_long {s : State} {args : Array Value} (h : (Cond.arrayClass .long).before args s = true) : ∃ c, ArrOfT s c .long ∧ va_RA s c .long := by
  obtain ⟨c, k, comp, h1, h2, h3⟩ := Cond.arrayClass_spec h
  exact ⟨c, fun N z => ⟨(fun k h => by cases h), k, h2, comp, h3⟩, h1⟩
theorem whole_K {s : State} {args : Array Value} (hts : ∀ w ∈ lw_tbl, w.before args s = true) : ∃ D : va_G, ∀ (c : Nat) (q : vw_C), vwCl[c]? = some q → u_Kn s q.1 q.2.1 q.2.2 (D.1 c) (D.2 c) := by
  obtain ⟨c0, i0, h0⟩ := u_known (C := RX0) (T := TX0) (N := 2) (n := 2) hts (fun w hw => (List.mem_filter.mp (pCk0.2.1 w hw)).1) (hts (.instantiable "LoadRoad$Days" 2) (List.mem_of_getElem? (i := 392) (by decide +kernel)))
  obtain ⟨c1, i1, h1⟩ := u_known (C := RX1) (T := TX1) (N := 10) (n := 10) hts (fun w hw => (List.mem_filter.mp (pCk1.2.1 w hw)).1) (hts (.instantiable "LoadRoad$Game" 10) (List.mem_of_getElem? (i := 419) (by decide +kernel)))
  obtain ⟨c2, i2, h2⟩ := u_known (C := RX2) (T := TX2) (N := 3) (n := 3) hts (fun w hw => (List.mem_filter.mp (pCk2.2.1 w hw)).1) (hts (.instantiable "LoadRoad$Past" 3) (List.mem_of_getElem? (i := 323) (by decide +kernel)))
  obtain ⟨c3, i3, h3⟩ := u_known (C := RX3) (T := TX3) (N := 2) (n := 2) hts (fun w hw => (List.mem_filter.mp (pCk3.2.1 w hw)).1) (hts (.instantiable "LoadRoad$Plans" 2) (List.mem_of_getElem? (i := 406) (by decide +kernel)))
  obtain ⟨c4, i4, h4⟩ := u_known (C := RX4) (T := TX4) (N := 10) (n := 10) hts (fun w hw => (List.mem_filter.mp (pCk4.2.1 w hw)).1) (hts (.instantiable "LoadRoad$Road" 10) (List.mem_of_getElem? (i := 166) (by decide +kernel)))
  obtain ⟨c5, i5, h5⟩ := u_known (C := RX5) (T := TX5) (N := 2) (n := 2) hts (fun w hw => (List.mem_filter.mp (pCk5.2.1 w hw)).1) (hts (.instantiable "LoadRoad$RoadReader" 2) (List.mem_of_getElem? (i := 160) (by decide +kernel)))
  obtain ⟨c6, i6, h6⟩ := u_known (C := RX6) (T := TX6) (N := 4) (n := 4) hts (fun w hw => (List.mem_filter.mp (pCk6.2.1 w hw)).1) (hts (.instantiable "LoadRoad$Rule" 4) (List.mem_of_getElem? (i := 260) (by decide +kernel)))
  obtain ⟨c7, i7, h7⟩ := u_known (C := RX7) (T := TX7) (N := 3) (n := 3) hts (fun w hw => (List.mem_filter.mp (pCk7.2.1 w hw)).1) (hts (.instantiable "LoadRoad$RuleReader" 3) (List.mem_of_getElem? (i := 243) (by decide +kernel)))
  obtain ⟨c8, i8, h8⟩ := u_known (C := RX8) (T := TX8) (N := 4) (n := 4) hts (fun w hw => (List.mem_filter.mp (pCk8.2.1 w hw)).1) (hts (.instantiable "LoadRoad$State" 4) (List.mem_of_getElem? (i := 288) (by decide +kernel)))
  obtain ⟨c9, i9, h9⟩ := u_known (C := RX9) (T := TX9) (N := 4) (n := 4) hts (fun w hw => (List.mem_filter.mp (pCk9.2.1 w hw)).1) (hts (.instantiable "LoadRoad$Tape" 4) (List.mem_of_getElem? (i := 136) (by decide +kernel)))
  obtain ⟨c10, i10, h10⟩ := u_known (C := RX10) (T := TX10) (N := 9) (n := 9) hts (fun w hw => (List.mem_filter.mp (pCk10.2.1 w hw)).1) (hts (.instantiable "LoadRoad$World" 9) (List.mem_of_getElem? (i := 280) (by decide +kernel)))
  obtain ⟨c11, i11, h11⟩ := u_known (C := RX11) (T := TX11) (N := 13) (n := 13) hts (fun w hw => (List.mem_filter.mp (pCk11.2.1 w hw)).1) (hts (.instantiable "LoadRoad" 13) (List.mem_of_getElem? (i := 128) (by decide +kernel)))
  obtain ⟨c12, i12, h12⟩ := u_known (C := RX12) (T := TX12) (N := 56) (n := 56) hts (fun w hw => (List.mem_filter.mp (pCk12.2.1 w hw)).1) (hts (.instantiable "LoadRoadModel" 56) (List.mem_of_getElem? (i := 1118) (by decide +kernel)))
  refine ⟨(fun k => ([c0, c1, c2, c3, c4, c5, c6, c7, c8, c9, c10, c11, c12] : List ClassId).getD k c0, fun k => ([i0, i1, i2, i3, i4, i5, i6, i7, i8, i9, i10, i11, i12] : List (Nat → Nat)).getD k i0), ?_⟩
  intro k q hq
  match k, hq with
  | 0, hq => cases hq; exact h0
  | 1, hq => cases hq; exact h1
  | 2, hq => cases hq; exact h2
  | 3, hq => cases hq; exact h3
  | 4, hq => cases hq; exact h4
  | 5, hq => cases hq; exact h5
  | 6, hq => cases hq; exact h6
  | 7, hq => cases hq; exact h7
  | 8, hq => cases hq; exact h8
  | 9, hq => cases hq; exact h9
  | 10, hq => cases hq; exact h10
  | 11, hq => cases hq; exact h11
  | 12, hq => cases hq; exact h12
  | k + 13, hq => simp [vwCl] at hq
theorem whole_A {s : State} {args : Array Value} (hts : ∀ w ∈ lw_tbl, w.before args s = true) : ∃ cA : FieldType → ClassId, ∀ ty ∈ ptyl, ArrOfT s (cA ty) ty ∧ va_RA s (cA ty) ty := by
  have h0 : ∀ ty : FieldType, ∃ c : ClassId, ty ∈ ptyl → ArrOfT s c ty ∧ va_RA s c ty := by
    intro ty
    by_cases hty : ty ∈ ptyl
    · have key : ∃ c : ClassId, ArrOfT s c ty ∧ va_RA s c ty := by
        simp only [ptyl, List.mem_cons, List.not_mem_nil, or_false] at hty
        rcases hty with rfl | rfl | rfl | rfl | rfl | rfl | rfl | rfl
        · exact st_int (hts _ (List.mem_of_getElem? (i := 158) (by decide +kernel)))
        · exact st_byte (hts _ (List.mem_of_getElem? (i := 664) (by decide +kernel)))
        · exact st_boolean (hts _ (List.mem_of_getElem? (i := 404) (by decide +kernel)))
        · exact st_long (hts _ (List.mem_of_getElem? (i := 278) (by decide +kernel)))
        · exact st_over (hts _ (List.mem_of_getElem? (i := 259) (by decide +kernel)))
        · exact st_over (hts _ (List.mem_of_getElem? (i := 329) (by decide +kernel)))
        · exact st_over (hts _ (List.mem_of_getElem? (i := 390) (by decide +kernel)))
        · exact st_overA (hts _ (List.mem_of_getElem? (i := 425) (by decide +kernel)))
      obtain ⟨c, hc⟩ := key
      exact ⟨c, fun _ => hc⟩
    · exact ⟨(whole_K hts).choose.1 0, fun h => absurd h hty⟩
  exact Classical.axiomOfChoice h0
theorem whole_O {s : State} {args : Array Value} (hts : ∀ w ∈ lw_tbl, w.before args s = true) : pOv s := by
  refine ⟨fun w hw => va_Nw.of ?_ (hts w (pnest_in w hw)), va_AO.of (hts _ (List.mem_of_getElem? (i := 259) (by decide +kernel))), va_AO.of (hts _ (List.mem_of_getElem? (i := 329) (by decide +kernel))), va_AO.of (hts _ (List.mem_of_getElem? (i := 390) (by decide +kernel))), ?_⟩
  · simp only [pnest, List.mem_cons, List.not_mem_nil, or_false] at hw
    rcases hw with rfl | rfl | rfl | rfl | rfl | rfl | rfl <;> rfl
  · exact hts (Cond.arrayOver (.array .int)) (List.mem_of_getElem? (i := 425) (by decide +kernel))
