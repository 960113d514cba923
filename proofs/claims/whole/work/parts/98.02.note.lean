/-! ===== pair: note ===== -/
section T11
variable {X : pX} {Q : Option Value → pMem → Prop} {m : pMem}
theorem s_canNote {N : Nat} (hW : Wf m) (e : mI m 30 5 = nI N) (hN : N ≤ 10) (h1 : N < 10 → Q (some (.int 1)) m) (h0 : N = 10 → Q (some (.int 0)) m) : Cl X 0 mX10_canNote [.ref 30] m Q := by
  refine pCl_of (by decide +kernel) (Nat.le_of_ble_eq_true rfl) rfl (bX10_canNote_0 hW sh30 (fun z => ?_) (fun z => ?_))
  · rw [e] at z
    have := nI_le' (a := 10) (b := N) (by decide) (by omega) z
    exact h0 (by omega)
  · rw [e] at z
    exact h1 (Nat.not_le.mp fun w => z (nI_le (a := 10) w (by omega)))
theorem s_addNote {N : Nat} {x y u : Int32} (hW : Wf m) (e : mI m 30 5 = nI N) (hN : N < 10) (h : Q none (uI (uI (uI (uI m 123 N x) 124 N y) 125 N u) 30 5 (nI (N + 1)))) : Cl X 1 mX10_addNote [.ref 30, .int x, .int y, .int u] m Q := by
  refine pCl_of (by decide +kernel) (Nat.le_of_ble_eq_true rfl) rfl (bX10_addNote_0 hW sh30 ?_)
  refine s_canNote hW e (by omega) (fun _ => ?_) (fun z => by omega)
  have r1 : ∀ (mm : pMem) k v, mI (uI mm (30 + 93) k v) 30 5 = mI mm 30 5 := fun mm k v => by rw [mI_uI, if_neg (by omega)]
  have r2 : ∀ (mm : pMem) k v, mI (uI mm (30 + 94) k v) 30 5 = mI mm 30 5 := fun mm k v => by rw [mI_uI, if_neg (by omega)]
  have r3 : ∀ (mm : pMem) k v, mI (uI mm (30 + 95) k v) 30 5 = mI mm 30 5 := fun mm k v => by rw [mI_uI, if_neg (by omega)]
  have vN : vp_in (nI N) 10 := vp_in_nI hN (by decide)
  have eN : (nI N).toNatClampNeg = N := nI_clamp (by omega)
  refine bX10_addNote_4 hW sh30 (fun z => absurd z (by decide)) (fun _ => by rw [e]; exact vN) (fun _ => by rw [r1, e]; exact vN) (fun _ => by rw [r2, r1, e]; exact vN) (fun _ => ?_)
  simp only [r1, r2, r3, e]
  rw [eN, nI_1]
  exact h
end T11
section T12
variable {X : pX}
theorem p_note {x y u : Int32} : Pair X 2 2 mX11_note mX12_note [.int x, .int y, .int u] := by
  intro m h Q K
  obtain ⟨hW, hC, hT, nr, P, Sg, T, N, M, d, f, hr, hi, hf, hw, hv⟩ := Inv_open h
  obtain ⟨⟨okd, okm, agd, agt, hpl⟩, ⟨v1, v2, v3, v4, v5, v6, v7, v8, v9, v10⟩, ⟨hN, hM, hd⟩, v11, v12, v13, v14, v15, v16, v17⟩ := hv
  obtain ⟨p3, p4, p2, p8, pT, p6⟩ := okd
  obtain ⟨q3, _, q2, _, qT, _⟩ := okm
  by_cases c0 : x = -1
  · refine pCl_of (by decide +kernel) (Nat.le_of_ble_eq_true rfl) rfl (bX11_note_0 hW (fun z => absurd c0 z) (fun z => absurd c0 z) (fun z => absurd c0 z) (fun z => absurd c0 z) (fun z => absurd c0 z) (fun _ => ?_))
    have hW1 : Wf (uI m 30 5 0) := hW.sm (fun _ _ => rfl)
    refine K _ _ hW1 (fun Q2 h2 => pCl_of (by decide +kernel) (Nat.le_of_ble_eq_true rfl) rfl (bX12_note_0 hW1 (fun z => absurd c0 z) (fun z => absurd c0 z) (fun z => absurd c0 z) (fun z => absurd c0 z) (fun z => absurd c0 z) (fun z => absurd c0 z) (fun _ => ?_)))
    refine h2 _ (Inv_g (N2 := 0) hW hC hT hr hi ⟨f, hf⟩ hw (fun _ _ => rfl) (fun a k y1 y2 y3 y4 y5 => by rw [mI_uI, if_neg (by omega), mI_uI, if_neg (by omega)]) (by omega) ?_ ?_ ?_ ?_ ?_ ?_ (fun j hj => absurd hj (by omega)))
    · rw [mI_uI, if_neg (by omega), mI_uI, if_pos ⟨rfl, rfl⟩]; rfl
    · rw [mI_uI, if_pos ⟨rfl, rfl⟩]; rfl
    · rw [mI_uI, if_neg (by omega), mI_uI, if_neg (by omega), mI_uI, if_neg (by omega), mI_uI, if_neg (by omega)]; exact v7
    · rw [mI_uI, if_neg (by omega), mI_uI, if_neg (by omega)]; exact v13
    · rw [mI_uI, if_neg (by omega), mI_uI, if_neg (by omega), mI_uI, if_neg (by omega), mI_uI, if_neg (by omega)]; exact v8
    · rw [mI_uI, if_neg (by omega), mI_uI, if_neg (by omega)]; exact v12
  · by_cases c : (∃ k, k ≤ 60 ∧ x = nI k) ∧ (∃ q, q < P ∧ y = nI q) ∧ (∃ k, k ≤ Sg ∧ u = nI k) ∧ N < 10
    · obtain ⟨c1, c2, c3, c4⟩ := c
      have x2 := (inI (a := 60) (by decide)).mpr c1
      have yC := (perC (z := 4) p3 (K := 4) rfl p4 (by decide)).mpr c2
      have yM := (perM q3 (by omega)).mpr c2
      have u2 := (inI (a := Sg) (by omega)).mpr c3
      obtain ⟨k, hk, rfl⟩ := c1
      obtain ⟨q, hq, rfl⟩ := c2
      refine pCl_of (by decide +kernel) (Nat.le_of_ble_eq_true rfl) rfl (bX11_note_0 hW (fun _ z => absurd z x2.1) (fun _ _ z => absurd z x2.2) (fun _ _ _ _ _ => ?_) (fun _ _ _ _ z => absurd (by rw [p2]; exact u2) z) (fun _ _ _ z => absurd yC z) (fun z => absurd z c0))
      refine s_canNote hW v5 hN (fun _ => ?_) (fun z => by omega)
      refine bX11_note_60 hW (fun _ => ?_) (fun z => absurd z (by decide))
      refine s_addNote hW v5 c4 ?_
      have hW1 : Wf (uI (uI (uI (uI m 123 N (nI k)) 124 N (nI q)) 125 N u) 30 5 (nI (N + 1))) := hW.sm (fun _ _ => rfl)
      refine bX11_note_76 hW1 ?_
      rw [mI_uI, if_pos ⟨rfl, rfl⟩]
      refine K _ _ hW1 (fun Q2 h2 => ?_)
      have e6 : mI (uI (uI (uI (uI m 123 N (nI k)) 124 N (nI q)) 125 N u) 30 5 (nI (N + 1))) 536 6 = nI N := by
        rw [mI_uI, if_neg (by omega), mI_uI, if_neg (by omega), mI_uI, if_neg (by omega), mI_uI, if_neg (by omega)]; exact v6
      have e3 : mI (uI (uI (uI (uI m 123 N (nI k)) 124 N (nI q)) 125 N u) 30 5 (nI (N + 1))) 536 3 = mI m 536 3 := by
        rw [mI_uI, if_neg (by omega), mI_uI, if_neg (by omega), mI_uI, if_neg (by omega), mI_uI, if_neg (by omega)]
      have e2 : mI (uI (uI (uI (uI m 123 N (nI k)) 124 N (nI q)) 125 N u) 30 5 (nI (N + 1))) 536 2 = nI Sg := by
        rw [mI_uI, if_neg (by omega), mI_uI, if_neg (by omega), mI_uI, if_neg (by omega), mI_uI, if_neg (by omega)]; exact q2
      refine pCl_of (by decide +kernel) (Nat.le_of_ble_eq_true rfl) rfl (bX12_note_0 hW1 (fun _ _ _ _ _ => by rw [e6]; exact vp_in_nI c4 (by decide)) (fun _ _ _ _ _ => ?_) (fun _ _ _ _ z => ?_) (fun _ _ _ z => absurd (by rw [e2]; exact u2) z) (fun _ _ z => absurd (by rw [e3]; exact yM) z) (fun _ z => absurd x2 z) (fun z => absurd z c0))
      · rw [e6, nI_1, nI_clamp (by omega)]
        refine h2 _ (Inv_g (N2 := N + 1) hW hC hT hr hi ⟨f, hf⟩ hw (fun _ _ => rfl) (fun a k y1 y2 y3 y4 y5 => by rw [mI_uI, if_neg (by omega), mI_uI, if_neg (by omega), mI_uI, if_neg (by omega), mI_uI, if_neg (by omega), mI_uI, if_neg (by omega), mI_uI, if_neg (by omega), mI_uI, if_neg (by omega), mI_uI, if_neg (by omega)]) (by omega) ?_ ?_ ?_ ?_ ?_ ?_ (fun j hj => ?_))
        · simp [mI_uI]
        · simp [mI_uI]
        · simp [mI_uI]; exact v7
        · simp [mI_uI]; exact Int32.not_lt.mp v13
        · simp [mI_uI]; exact v8
        · simp [mI_uI]; exact v12
        · by_cases e : j = N
          · subst e
            simp only [mI_uI]
            simp
            exact ⟨⟨k, hk, rfl⟩, q, hq, rfl⟩
          · obtain ⟨w1, q1, a1, a2, a3, a4, a5, a6, a7⟩ := v16 j (by omega)
            simp only [mI_uI]
            simp [e]
            rw [a3, a4, a5, a6, a7]
            exact ⟨⟨rfl, w1, a1, rfl⟩, ⟨rfl, q1, a2, rfl⟩, rfl⟩
      · rw [e6] at z
        exact absurd ((nI_eq (by omega) (by omega)).mp (z.trans (fa_lit 10))) (by omega)
    · have bad : Q (some (.int (-2))) m := by
        refine K _ m hW (fun Q2 h2 => pCl_of (by decide +kernel) (Nat.le_of_ble_eq_true rfl) rfl (bX12_note_0 hW (fun z0 z1 z2 z3 z4 => ?_) (fun z0 z1 z2 z3 z4 => ?_) (fun _ _ _ _ _ => h2 m h) (fun _ _ _ _ => h2 m h) (fun _ _ _ => h2 m h) (fun _ _ => h2 m h) (fun z => absurd z c0)))
        · refine absurd ⟨(inI (a := 60) (by decide)).mp z1, (perM q3 (by omega)).mp z2, (inI (a := Sg) (by omega)).mp (by rw [q2] at z3; exact z3), ?_⟩ c
          exact Nat.lt_of_le_of_ne hN (fun w => z4 (by rw [v6, w]; rfl))
        · refine absurd ⟨(inI (a := 60) (by decide)).mp z1, (perM q3 (by omega)).mp z2, (inI (a := Sg) (by omega)).mp (by rw [q2] at z3; exact z3), ?_⟩ c
          exact Nat.lt_of_le_of_ne hN (fun w => z4 (by rw [v6, w]; rfl))
      refine pCl_of (by decide +kernel) (Nat.le_of_ble_eq_true rfl) rfl (bX11_note_0 hW (fun _ _ => bad) (fun _ _ _ => bad) (fun z0 z1 z2 z3 z4 => ?_) (fun _ _ _ _ _ => bad) (fun _ _ _ _ => bad) (fun z => absurd z c0))
      refine s_canNote hW v5 hN (fun z => ?_) (fun z => ?_)
      · exact absurd ⟨(inI (a := 60) (by decide)).mp ⟨z1, z2⟩, (perC (z := 4) p3 (K := 4) rfl p4 (by decide)).mp z3, (inI (a := Sg) (by omega)).mp (by rw [p2] at z4; exact z4), z⟩ c
      · exact bX11_note_60 hW (fun z => absurd rfl z) (fun _ => bad)
end T12
