/-! ===== texts ===== -/
theorem p_ldcWs {p : Program} {l : Launch} {e : Env} {R : Room} {s : State} {m : MethodId} {args : Array Value} {below : List Frame} {meth : Method} {c : Code} {T : State} {locs : List Loc} {cells slots : Nat}
    (X : Stand p l e R s m args below meth c T locs cells slots) (hexec : p.tables.exec = Jvm.exec) {own text : String} {index : Nat} {a : Addr} (hown : s.vm.findClass own = some m.cls)
    (hconst : (Cond.stringRef own index text).before args s = true) (hev : (Term.string own index).eval args s none [] s = some (.ref a)) {g : JFrame} (hg : g.method = m) (hdg : decode c.code g.pc = .ok (.ldc_w index, 3)) :
    ∀ target, Steps p.tables e below (T.setTop { g with pc := g.pc + 3, stack := .ref a :: g.stack }) target → Steps p.tables e below (T.setTop g) target := by
  obtain ⟨k, cf, i, a', hk, hcf, hcp, -, hr, hev'⟩ := Cond.stringRef_spec hown hconst
  cases hev.symm.trans hev'
  obtain ⟨k', hk', he⟩ := X.warmed.alike.2.2 _ _ hk
  have hr' : k'.resolved[index]? = some (some (.string a)) := by
    rcases X.warmed.entry hk hk' index with h | ⟨h, -⟩
    · rw [h]; exact hr
    · rw [hr] at h; cases h
  intro target hrest
  subst hg
  jvm_step X.here [hexec, hdg, ldc_w.wp_string (e := e) (s := T) (f := g) X.here.top hk' (by rw [he]; exact hcf) hcp hr']
  exact hrest
section PS
variable {X : pX} {Y : pM} {R : Room} {n0 s0 : Nat} {Z : List Frame → Array Value → State → State → Prop} {pc : Nat} {ls : List (Nat × Value)} {st : List Value} {S : List pShp} {m : pMem}
theorem g_ldcwS {idx : Nat} (i : Nat) (hi : i < 25) (ho : Y.1.cls = ownJ i) (hx : idx = idxJ i) (hd : decode Y.2.1 pc = .ok (.ldc_w idx, 3)) (k : pGo X Y R n0 s0 Z (pc + 3) ls (.retAddr (i + 1) :: st) S m) : pGo X Y R n0 s0 Z pc ls st S m := by
  intro p l e s mi args below meth c H locs lsA hC hP hS hl hn hs
  have hr := hC.2.2.2.2.2.2.2.2.1.2.1.2.2.1 i hi
  subst hx
  intro T hT Xs
  obtain ⟨t, a1, b1⟩ := k p l e s mi args below meth c H locs lsA hC hP hS hl hn hs T hT Xs
  exact ⟨t, p_ldcWs Xs hC.1 (own := ownJ i) (by rw [← ho]; exact hC.2.2.2.2.2.2.1) (text := txtJ i) (a := pO X (i + 1)) hr.1 hr.2 (g := F0 mi pc lsA (st.map (ptr X))) rfl (by rw [hC.2.1]; exact hd) t a1, b1⟩
theorem g_mmax {idx : Nat} {x y : Int32} (hd : decode Y.2.1 pc = .ok (.invokestatic idx, 3)) (hw : Cond.methodLink Y.1.cls idx Lib.Math.max.name ∈ pgl ∧ Cond.static Lib.Math.max.name ∈ pgl ∧ Cond.initialized "java/lang/Math" ∈ pgl ∧ Cond.code Lib.Math.max.name Lib.Math.max.code 2 (some .int) ∈ pgl) (hcat : (st.map fun v => v.category).sum ≤ 8) (hR : 1 ≤ R.frames ∧ 60 ≤ R.locals) (hc : S.length - n0 ≤ R.cells ∧ psl S - s0 ≤ R.slots) (k : pGo X Y R n0 s0 Z (pc + 3) ls (.int (if x < y then y else x) :: st) S m) : pGo X Y R n0 s0 Z pc ls (.int y :: .int x :: st) S m := by
  intro p l e s mi args below meth c H locs lsA hC hP hS hl hn hs
  have ts := hC.2.2.2.2.2.2.2.1
  exact va_mmax hC.1 hC.2.1 (by rw [hC.2.2.2.2.2.1]; exact hl.1.symm) hC.2.2.2.2.2.2.1 (ts _ hw.1) (ts _ hw.2.1) (ts _ hw.2.2.1) (ts _ hw.2.2.2) hR.1 (by rw [p_catsum]; omega) hc.1 hc.2 hd (k p l e s mi args below meth c H locs lsA hC hP hS hl hn hs)
theorem g_mmin {idx : Nat} {x y : Int32} (hd : decode Y.2.1 pc = .ok (.invokestatic idx, 3)) (hw : Cond.methodLink Y.1.cls idx Lib.Math.min.name ∈ pgl ∧ Cond.static Lib.Math.min.name ∈ pgl ∧ Cond.initialized "java/lang/Math" ∈ pgl ∧ Cond.code Lib.Math.min.name Lib.Math.min.code 2 (some .int) ∈ pgl) (hcat : (st.map fun v => v.category).sum ≤ 8) (hR : 1 ≤ R.frames ∧ 60 ≤ R.locals) (hc : S.length - n0 ≤ R.cells ∧ psl S - s0 ≤ R.slots) (k : pGo X Y R n0 s0 Z (pc + 3) ls (.int (if y < x then y else x) :: st) S m) : pGo X Y R n0 s0 Z pc ls (.int y :: .int x :: st) S m := by
  intro p l e s mi args below meth c H locs lsA hC hP hS hl hn hs
  have ts := hC.2.2.2.2.2.2.2.1
  exact va_mmin hC.1 hC.2.1 (by rw [hC.2.2.2.2.2.1]; exact hl.1.symm) hC.2.2.2.2.2.2.1 (ts _ hw.1) (ts _ hw.2.1) (ts _ hw.2.2.1) (ts _ hw.2.2.2) hR.1 (by rw [p_catsum]; omega) hc.1 hc.2 hd (k p l e s mi args below meth c H locs lsA hC hP hS hl hn hs)
end PS
/-- String.coder(), isLatin1() -/
theorem s_coder {X : pX} {m : pMem} {Q : Option Value → pMem → Prop} {d i : Nat} (hi : i < 25) (h : Q (some (.int 0)) m) : Cl X d mJ0_coder_7d493 [.retAddr (i + 1)] m Q := by
  refine pCl_of (by decide +kernel) (Nat.le_of_ble_eq_true rfl) rfl ?_
  refine g_getsC dJ0_coder_7d493_0 (pgl_in (by decide +kernel) rfl) ?_
  refine g_if_eq 13 dJ0_coder_7d493_3 (by decide) (fun q => absurd q (by decide)) (fun q => ?_)
  refine g_aload_nO 0 dJ0_coder_7d493_6 rfl rfl ?_
  refine g_coder dJ0_coder_7d493_7 (pgl_in (by decide +kernel) rfl) hi ?_
  refine g_goto 14 dJ0_coder_7d493_10 (by decide) ?_
  exact g_zret dJ0_coder_7d493_14 rfl rfl enSH h
theorem s_isLatin1 {X : pX} {m : pMem} {Q : Option Value → pMem → Prop} {d i : Nat} (hi : i < 25) (h : Q (some (.int 1)) m) : Cl X d mJ0_isLatin1_aae02 [.retAddr (i + 1)] m Q := by
  refine pCl_of (by decide +kernel) (Nat.le_of_ble_eq_true rfl) rfl ?_
  refine g_getsC dJ0_isLatin1_aae02_0 (pgl_in (by decide +kernel) rfl) ?_
  refine g_if_eq 17 dJ0_isLatin1_aae02_3 (by decide) (fun q => absurd q (by decide)) (fun q => ?_)
  refine g_aload_nO 0 dJ0_isLatin1_aae02_6 rfl rfl ?_
  refine g_coder dJ0_isLatin1_aae02_7 (pgl_in (by decide +kernel) rfl) hi ?_
  refine g_if_ne 17 dJ0_isLatin1_aae02_10 (by decide) (fun q => absurd rfl q) (fun q => ?_)
  refine g_iconst (v := 1) dJ0_isLatin1_aae02_13 (by decide) ?_
  refine g_goto 18 dJ0_isLatin1_aae02_14 (by decide) ?_
  exact g_bret dJ0_isLatin1_aae02_18 rfl (Or.inr rfl) enSH h
/-- String.length() -/
theorem s_length {X : pX} {m : pMem} {Q : Option Value → pMem → Prop} {k : Nat} (hk : 1 ≤ k ∧ k ≤ 25) (h : Q (some (.int (nI (lenJ (k - 1))))) m) : Cl X 1 mJ0_length_8abf5 [.retAddr k] m Q := by
  obtain ⟨i, rfl⟩ : ∃ i, k = i + 1 := ⟨k - 1, by omega⟩
  have hi : i < 25 := by omega
  have hl : lenJ i < 2 ^ 31 := by
    have : ∀ i, i < 25 → lenJ i < 100 := by decide +kernel
    have := this i hi
    omega
  refine pCl_of (by decide +kernel) (Nat.le_of_ble_eq_true rfl) rfl ?_
  refine g_aload_nO 0 dJ0_length_8abf5_0 rfl rfl ?_
  refine g_value dJ0_length_8abf5_1 (pgl_in (by decide +kernel) rfl) hi ?_
  refine g_tlen dJ0_length_8abf5_4 hi ?_
  refine g_aload_nO 0 dJ0_length_8abf5_5 rfl rfl ?_
  refine g_callVO (As := []) (st := [.int (Int32.ofNat (lenJ i))]) dJ0_length_8abf5_6 coJ0_335 rfl (by omega) rfl rfl (Nat.le_of_ble_eq_true rfl) (rmSH (d2 := 0) (by decide) (by decide)) (s_coder hi ?_)
  refine g_ishr dJ0_length_8abf5_9 ?_
  refine g_iret dJ0_length_8abf5_10 rfl enSH ?_
  have e : Int32.ofNat (lenJ i) >>> ((0 : Int32) &&& 31) = nI (lenJ (i + 1 - 1)) := sc_shr0 hl
  rw [e]
  exact h
theorem s_check3 {X : pX} {m : pMem} {Q : Option Value → pMem → Prop} {d : Nat} {j n : Int32} {v : Value} (hv : v = .null ∨ v = .retAddr 200) (h0 : ¬ j < 0) (h1 : j < n) (h : Q (some (.int j)) m) : Cl X d mJ3_checkIndex_8e157 [.int j, .int n, v] m Q := by
  have key : ∀ ls : List (Nat × Value), ls[0]? = some (0, .int j) → ls[1]? = some (1, .int n) → Go X d mJ3_checkIndex_8e157 Q 0 ls [] m := by
    intro ls e0 e1
    refine g_iload_n 0 dJ3_checkIndex_8e157_0 rfl e0 ?_
    refine g_if_lt 9 dJ3_checkIndex_8e157_1 (by decide) (fun q => absurd q h0) (fun q => ?_)
    refine g_iload_n 0 dJ3_checkIndex_8e157_4 rfl e0 ?_
    refine g_iload_n 1 dJ3_checkIndex_8e157_5 rfl e1 ?_
    refine g_icmp_lt 16 dJ3_checkIndex_8e157_6 (by decide) (fun q => ?_) (fun q => absurd h1 q)
    refine g_iload_n 0 dJ3_checkIndex_8e157_16 rfl e0 ?_
    exact g_iret dJ3_checkIndex_8e157_17 rfl enSH h
  rcases hv with rfl | rfl
  · exact pCl_of (by decide +kernel) (Nat.le_of_ble_eq_true rfl) rfl (key _ rfl rfl)
  · exact pCl_of (by decide +kernel) (Nat.le_of_ble_eq_true rfl) rfl (key _ rfl rfl)
theorem s_check2 {X : pX} {m : pMem} {Q : Option Value → pMem → Prop} {j n : Int32} (h0 : ¬ j < 0) (h1 : j < n) (h : Q none m) : Cl X 1 mJ0_checkIndex_df160 [.int j, .int n] m Q := by
  refine pCl_of (by decide +kernel) (Nat.le_of_ble_eq_true rfl) rfl ?_
  refine g_iload_n 0 dJ0_checkIndex_df160_0 rfl rfl ?_
  refine g_iload_n 1 dJ0_checkIndex_df160_1 rfl rfl ?_
  refine g_getsF dJ0_checkIndex_df160_2 (pgl_in (by decide +kernel) rfl) ?_ ?_
  · refine g_callS (As := [.int j, .int n, .null]) (st := []) dJ0_checkIndex_df160_5 clJ0_1059 rfl rfl (Nat.le_of_ble_eq_true rfl) (rmSH (d2 := 0) (by decide) (by decide)) (s_check3 (Or.inl rfl) h0 h1 ?_)
    refine g_pop (v := .int j) dJ0_checkIndex_df160_8 rfl ?_
    exact g_vret dJ0_checkIndex_df160_9 rfl enSH h
  · refine g_callS (As := [.int j, .int n, .retAddr 200]) (st := []) dJ0_checkIndex_df160_5 clJ0_1059 rfl rfl (Nat.le_of_ble_eq_true rfl) (rmSH (d2 := 0) (by decide) (by decide)) (s_check3 (Or.inr rfl) h0 h1 ?_)
    refine g_pop (v := .int j) dJ0_checkIndex_df160_8 rfl ?_
    exact g_vret dJ0_checkIndex_df160_9 rfl enSH h
theorem p_bytes : ∀ i, i < 25 → ∀ j, j < lenJ i → ((bytJ i j &&& 255).toUInt32 % 65536).toInt32 = bytJ i j ∧ narrow .char (.int (bytJ i j)) = .int (bytJ i j) := by decide +kernel
theorem s_charAt1 {X : pX} {m : pMem} {Q : Option Value → pMem → Prop} {i : Nat} {j : Int32} (hi : i < 25) (hj : vp_in j (lenJ i)) (h : Q (some (.int (bytJ i j.toNatClampNeg))) m) : Cl X 3 mJ1_charAt_3b067 [.retAddr (i + 101), .int j] m Q := by
  have hlen : lenJ i < 2 ^ 31 := by
    have : ∀ i, i < 25 → lenJ i < 100 := by decide +kernel
    have := this i hi
    omega
  obtain ⟨t, ht, rfl⟩ := vp_in_of hj hlen
  have hc := nI_clamp (n := t) (by omega)
  obtain ⟨b1, b2⟩ := p_bytes i hi t ht
  rw [hc] at h
  refine pCl_of (by decide +kernel) (Nat.le_of_ble_eq_true rfl) rfl ?_
  refine g_iload_n 1 dJ1_charAt_3b067_0 rfl rfl ?_
  refine g_aload_nO 0 dJ1_charAt_3b067_1 rfl rfl ?_
  refine g_tlen dJ1_charAt_3b067_2 hi ?_
  refine g_callS (As := [.int (nI t), .int (Int32.ofNat (lenJ i))]) (st := []) dJ1_charAt_3b067_3 clJ1_9 rfl rfl (Nat.le_of_ble_eq_true rfl) (rmSH (d2 := 1) (by decide) (by decide)) (s_check2 (nI_pos (by omega)) (nI_lt ht hlen) ?_)
  refine g_aload_nO 0 dJ1_charAt_3b067_6 rfl rfl ?_
  refine g_iload_n 1 dJ1_charAt_3b067_7 rfl rfl ?_
  refine g_tb dJ1_charAt_3b067_8 hi hj ?_
  refine g_sipush (v := 255) dJ1_charAt_3b067_9 (by decide) ?_
  refine g_iand dJ1_charAt_3b067_12 ?_
  refine g_i2c dJ1_charAt_3b067_13 ?_
  rw [hc, b1]
  exact g_zret dJ1_charAt_3b067_14 rfl b2 enSH h
/-- String.charAt(j) -/
theorem s_charAt {X : pX} {m : pMem} {Q : Option Value → pMem → Prop} {k : Nat} {j : Int32} (hk : 1 ≤ k ∧ k ≤ 25) (hj : vp_in j (lenJ (k - 1))) (h : Q (some (.int (bytJ (k - 1) j.toNatClampNeg))) m) : Cl X 4 mJ0_charAt_5068e [.retAddr k, .int j] m Q := by
  obtain ⟨i, rfl⟩ : ∃ i, k = i + 1 := ⟨k - 1, by omega⟩
  have hi : i < 25 := by omega
  rw [Nat.add_sub_cancel] at hj h
  have hlen : lenJ i < 2 ^ 31 := by
    have : ∀ i, i < 25 → lenJ i < 100 := by decide +kernel
    have := this i hi
    omega
  obtain ⟨t, ht, rfl⟩ := vp_in_of hj hlen
  have hc := nI_clamp (n := t) (by omega)
  have b2 := (p_bytes i hi t ht).2
  refine pCl_of (by decide +kernel) (Nat.le_of_ble_eq_true rfl) rfl ?_
  refine g_aload_nO 0 dJ0_charAt_5068e_0 rfl rfl ?_
  refine g_callVO (As := []) (st := []) dJ0_charAt_5068e_1 coJ0_492 rfl (by omega) rfl rfl (Nat.le_of_ble_eq_true rfl) (rmSH (d2 := 0) (by decide) (by decide)) (s_isLatin1 hi ?_)
  refine g_if_eq 16 dJ0_charAt_5068e_4 (by decide) (fun q => absurd q (by decide)) (fun q => ?_)
  refine g_aload_nO 0 dJ0_charAt_5068e_7 rfl rfl ?_
  refine g_value dJ0_charAt_5068e_8 (pgl_in (by decide +kernel) rfl) hi ?_
  refine g_iload_n 1 dJ0_charAt_5068e_11 rfl rfl ?_
  refine g_callS (As := [.retAddr (i + 101), .int (nI t)]) (st := []) dJ0_charAt_5068e_12 clJ0_495 rfl rfl (Nat.le_of_ble_eq_true rfl) (rmSH (d2 := 3) (by decide) (by decide)) (s_charAt1 hi hj ?_)
  refine g_zret (v := bytJ i (nI t).toNatClampNeg) dJ0_charAt_5068e_15 rfl ?_ enSH h
  rw [hc]
  exact b2
