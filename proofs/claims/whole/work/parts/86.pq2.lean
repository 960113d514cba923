/-! ===== the wealth in the town ===== -/
theorem bit_or : ∀ a, a < 64 → ∀ b, b < 64 → ∃ c, c < 64 ∧ nI a ||| nI b = nI c ∧ ∀ t, t < 6 → (c / 2 ^ t % 2 = 1 ↔ a / 2 ^ t % 2 = 1 ∨ b / 2 ^ t % 2 = 1) := by
  have h : ∀ a, a < 64 → ∀ b, b < 64 → (a ||| b) < 64 ∧ nI a ||| nI b = nI (a ||| b) ∧ ∀ t, t < 6 → ((a ||| b) / 2 ^ t % 2 = 1 ↔ a / 2 ^ t % 2 = 1 ∨ b / 2 ^ t % 2 = 1) := by decide +kernel
  exact fun a ha b hb => ⟨a ||| b, h a ha b hb⟩
abbrev bt (x : Int32) (t : Nat) : Prop := ((x >>> (nI t &&& 31)) &&& (1 : Int32)) = (1 : Int32)
theorem bt_or {x y : Int32} (hx : sm64 x) (hy : sm64 y) : sm64 (x ||| y) ∧ ∀ t, t < 6 → (bt (x ||| y) t ↔ bt x t ∨ bt y t) := by
  obtain ⟨a, ha, rfl⟩ := hx
  obtain ⟨b, hb, rfl⟩ := hy
  obtain ⟨c, hc, e, h⟩ := bit_or a ha b hb
  rw [e]
  refine ⟨⟨c, hc, rfl⟩, fun t ht => ?_⟩
  unfold bt
  rw [bit_nI c hc t ht, bit_nI a ha t ht, bit_nI b hb t ht]
  exact h t ht
theorem bt_t {w : Row} {v : Int32} {t : Nat} (ht : t < 6) : bt (tAt w v 6) t ↔ w t = v := by
  unfold bt
  rw [hasT (Nat.le_refl 6) ht]
  by_cases e : w t = v
  · rw [if_pos e]; exact ⟨fun _ => e, fun _ => rfl⟩
  · rw [if_neg e]; exact ⟨fun z => absurd z (by decide), fun z => absurd z e⟩
theorem wSum_or {g : Row} {x y : Int32} (hx : sm64 x) (hy : sm64 y) (hd : ∀ t, t < 6 → bt x t → ¬ bt y t) : ∀ n, n ≤ 6 → wSum g (x ||| y) n = wSum g x n + wSum g y n := by
  intro n
  induction n with
  | zero => intro _; rfl
  | succ n ih =>
    intro hn
    have ih := ih (by omega)
    have hb := (bt_or hx hy).2 n (by omega)
    have e : ∀ z : Int32, wSum g z (n + 1) = if bt z n then wSum g z n + g n else wSum g z n := fun z => rfl
    rw [e, e, e, ih]
    by_cases c1 : bt x n
    · have c2 := hd n (by omega) c1
      rw [if_pos c1, if_neg c2, if_pos (hb.mpr (Or.inl c1)), Int32.add_assoc, Int32.add_comm (wSum g y n), ← Int32.add_assoc]
    · by_cases c2 : bt y n
      · rw [if_neg c1, if_pos c2, if_pos (hb.mpr (Or.inr c2)), Int32.add_assoc]
      · rw [if_neg c1, if_neg c2, if_neg (fun z => (hb.mp z).elim c1 c2)]
theorem town_eq {wo pl wh : Row} {Sg : Nat} (hS : Sg ≤ 8) : ∀ q, q ≤ 4 → sm64 (tTown pl wh (nI Sg) 6 q) ∧ (∀ t, t < 6 → bt (tTown pl wh (nI Sg) 6 q) t → wh t = nI (10 + Sg) ∨ ∃ i, i < q ∧ wh t = nI i) ∧ wSum wo (tTown pl wh (nI Sg) 6 q) 6 = wTown wo pl wh (nI Sg) 6 q := by
  have e10 : (10 : Int32) + nI Sg = nI (10 + Sg) := by rw [show (10 : Int32) = nI 10 from rfl, nI_add]
  intro q
  induction q with
  | zero =>
    intro _
    refine ⟨tAt_sm _ _ 6 (Nat.le_refl 6), fun t ht h => Or.inl ?_, rfl⟩
    have h : bt (tAt wh (10 + nI Sg) 6) t := h
    rw [← e10]
    exact (bt_t ht).mp h
  | succ q ih =>
    intro hq
    obtain ⟨i1, i2, i3⟩ := ih (by omega)
    unfold tTown wTown
    by_cases c : pl q = nI Sg
    · rw [if_pos c, if_pos c]
      have s2 : sm64 (tAt wh (nI q) 6) := tAt_sm _ _ 6 (Nat.le_refl 6)
      obtain ⟨o1, o2⟩ := bt_or i1 s2
      refine ⟨o1, fun t ht h => ?_, ?_⟩
      · rcases (o2 t ht).mp h with h | h
        · rcases i2 t ht h with h | ⟨i, hi, e⟩
          · exact Or.inl h
          · exact Or.inr ⟨i, by omega, e⟩
        · exact Or.inr ⟨q, by omega, (bt_t ht).mp h⟩
      · rw [wSum_or i1 s2 (fun t ht h1 h2 => ?_) 6 (Nat.le_refl 6), i3]
        have h2 := (bt_t ht).mp h2
        rcases i2 t ht h1 with h | ⟨i, hi, e⟩
        · rw [h] at h2
          have := (nI_eq (by omega) (by omega)).mp h2
          omega
        · rw [e] at h2
          have := (nI_eq (by omega) (by omega)).mp h2
          omega
    · rw [if_neg c, if_neg c]
      refine ⟨i1, fun t ht h => ?_, i3⟩
      rcases i2 t ht h with h | ⟨i, hi, e⟩
      · exact Or.inl h
      · exact Or.inr ⟨i, by omega, e⟩
theorem wSum_ag {T : Nat} {wo wo2 wh wh2 : Row} {v : Int32} (h : AgW T wh wh2) (hg : AgR T wo wo2) (hv : v ≠ -1) (hT : T ≤ 6) : wSum wo (tAt wh v 6) 6 = wSum wo2 (tAt wh2 v T) T := by
  rw [wSum_t (Nat.le_refl 6) 6 (Nat.le_refl 6), wSum_t hT T (Nat.le_refl T)]
  exact dSum_ag h hg hv hT
theorem wTown_ag {T Sg : Nat} {wo wo2 pl pl2 wh wh2 : Row} (h : AgW T wh wh2) (hg : AgR T wo wo2) (hp : AgR 4 pl pl2) (hT : T ≤ 6) (hS : Sg ≤ 8) : ∀ q, q ≤ 4 → wTown wo pl wh (nI Sg) 6 q = wTown wo2 pl2 wh2 (nI Sg) T q := by
  intro q
  induction q with
  | zero => intro _; exact wSum_ag h hg (lie_neM Sg hS) hT
  | succ q ih =>
    intro hq
    unfold wTown
    rw [ih (by omega), hp q (by omega), wSum_ag h hg (nI_neM (by omega)) hT]
/-- the class's wealth is the model's -/
theorem wealth_ag {T Sg P : Nat} {wo wo2 pl pl2 wh wh2 : Row} (h : AgW T wh wh2) (hg : AgR T wo wo2) (hp : AgR 4 pl pl2) (hT : T ≤ 6) (hS : Sg ≤ 8) (hP : P ≤ 4) : wSum wo (tTown pl wh (nI Sg) 6 P) 6 = wTown wo2 pl2 wh2 (nI Sg) T P := by
  rw [(town_eq hS P hP).2.2, wTown_ag h hg hp hT hS P hP]
theorem tAt_pl {pl pl2 : Row} {v : Int32} (h : AgR 4 pl pl2) : ∀ P, P ≤ 4 → tAt pl v P = tAt pl2 v P
  | 0, _ => rfl
  | P + 1, hP => by
    unfold tAt
    rw [tAt_pl h P (by omega), h P (by omega)]
/-- what is nowhere -/
theorem gone_ag {T : Nat} {w w2 : Row} (h : AgW T w w2) (hT : T ≤ 6) : (((1 : Int32) <<< (nI T &&& 31)) - (1 : Int32)) &&& tAt w (-1) 6 = tAt w2 (-1) T := by
  have a1 : ∀ k, k ≤ T → tN w (-1) k = tN w2 (-1) k := by
    intro k
    induction k with
    | zero => intro _; rfl
    | succ k ih => intro hk; unfold tN; rw [ih (by omega), h.1 k (by omega)]
  have a2 : ∀ k, T ≤ k → k ≤ 6 → tN w (-1) k % 2 ^ T = tN w (-1) T := by
    intro k
    induction k with
    | zero => intro h1 _; rw [show T = 0 by omega]; rfl
    | succ k ih =>
      intro h1 h2
      by_cases e : T = k + 1
      · rw [e]; exact Nat.mod_eq_of_lt (tN_lt _ _ _)
      · have e1 : tN w (-1) (k + 1) = tN w (-1) k + (if w k = -1 then 2 ^ k else 0) := rfl
        rw [e1, h.2 k (by omega) (by omega), if_pos rfl, show 2 ^ k = 2 ^ T * 2 ^ (k - T) by rw [← Nat.pow_add]; congr 1; omega, Nat.add_mul_mod_self_left]
        exact ih (by omega) (by omega)
  have key : ∀ T, T ≤ 6 → ∀ k, k < 64 → (((1 : Int32) <<< (nI T &&& 31)) - (1 : Int32)) &&& nI k = nI (k % 2 ^ T) := by decide +kernel
  rw [tAt_eq _ _ 6 (by omega), key T hT _ (tN_lt w (-1) 6), a2 6 hT (Nat.le_refl 6), a1 T (Nat.le_refl T), tAt_eq _ _ T (by omega)]
theorem rows_of {m : pMem} {nr P Sg T N M d : Nat} (hv : Vw m nr P Sg T N M d) : AgR Sg (mI m 32) (mI m 540) ∧ AgR P (mI m 33) (mI m 541) ∧ AgR T (mI m 34) (mI m 542) ∧ AgR T (mI m 35) (mI m 543) ∧ AgR 4 (mI m 38) (mI m 537) ∧ AgR 4 (mI m 39) (mI m 538) ∧ AgW T (mI m 40) (mI m 539) := by
  obtain ⟨⟨_, _, ⟨_, _, _, a1, a2, a3, a4⟩, ⟨_, s1, s2, s3⟩, _⟩, _⟩ := hv
  exact ⟨a1, a2, a3, a4, s1, s2, s3⟩
section Q2
variable {X : pX}
theorem p_person {x y : Int32} : Pair X 2 2 mX11_person mX12_person [.int x, .int y] := by
  intro m h Q K
  obtain ⟨hW, hC, hT, nr, P, Sg, T, N, M, d, f, hr, hi, hf, hw, hv⟩ := Inv_open h
  obtain ⟨a1, a2, a3, a4, s1, s2, s3⟩ := rows_of hv
  obtain ⟨⟨⟨p3, p4, p2, p8, pT, p6⟩, ⟨q3, _, q2, _, qT, _⟩, _⟩, _⟩ := hv
  have vT : vp_in (mI m 536 4) 7 := by rw [qT]; exact vp_in_nI (by omega) (by decide)
  have eT : (mI m 536 4).toNatClampNeg = T := by rw [qT]; exact nI_clamp (by omega)
  have vp : ∀ z, (¬ z < 0 ∧ ¬ mI m 31 3 ≤ z ∧ ¬ (4 : Int32) ≤ z) → vp_in z 4 := fun z w => vp_in_cmp (N := 4) w.1 w.2.2 (by decide)
  by_cases c : ∃ q, q < P ∧ x = nI q
  · have cC := (perC p3 (K := 4) rfl p4 (by decide)).mpr c
    have cM := (perM q3 (by omega)).mpr c
    obtain ⟨q, hq, rfl⟩ := c
    have eq : (nI q).toNatClampNeg = q := nI_clamp (by omega)
    have hq1 : nI q ≠ -1 := nI_neM (by omega)
    have mod : ∀ Q2 : Option Value → pMem → Prop, (y = 0 → Q2 (some (.int (mI m 541 q))) m) → (y = 1 → Q2 (some (.int (mI m 537 q))) m) → (y = 2 → Q2 (some (.int (mI m 538 q))) m) → (y = 3 → Q2 (some (.int (tAt (mI m 539) (nI q) T))) m) → (y = 4 → Q2 (some (.int (wSum (mI m 542) (tAt (mI m 539) (nI q) T) T))) m) → (y = 5 → Q2 (some (.int (wSum (mI m 543) (tAt (mI m 539) (nI q) T) T))) m) → ((¬ y = 0 ∧ ¬ y = 1 ∧ ¬ y = 2 ∧ ¬ y = 3 ∧ ¬ y = 4 ∧ ¬ y = 5) → Q2 (some (.int (-1))) m) → Cl X 2 mX12_person [.ref 535, .int (nI q), .int y] m Q2 := by
      intro Q2 k0 k1 k2 k3 k4 k5 k6
      refine pCl_of (by decide +kernel) (Nat.le_of_ble_eq_true rfl) rfl (bX12_person_0 hW (fun _ _ => vp _ cC) (fun _ z => ?_) (fun _ _ _ => vp _ cC) (fun _ _ z => ?_) (fun _ _ _ _ => vp _ cC) (fun _ _ _ z => ?_) (fun _ _ _ _ _ => vT) (fun _ _ _ _ z => ?_) (fun _ _ _ _ _ _ => vT) (fun _ _ _ _ _ z => ?_) (fun _ _ _ _ _ _ _ => vT) (fun _ _ _ _ _ _ z => ?_) (fun _ z0 z1 z2 z3 z4 z5 => k6 ⟨z0, z1, z2, z3, z4, z5⟩) (fun z => absurd cM z))
      · rw [eq]; exact k0 z
      · rw [eq]; exact k1 z
      · rw [eq]; exact k2 z
      · rw [eT]; exact k3 z
      · rw [eT]; exact k4 z
      · rw [eT]; exact k5 z
    have ne : ∀ a b : Int32, a ≠ b → y = a → y = b → False := fun a b h1 h2 h3 => h1 (h2.symm.trans h3)
    refine pCl_of (by decide +kernel) (Nat.le_of_ble_eq_true rfl) rfl (bX11_person_0 hW (fun _ _ => vp _ cC) (fun _ z => ?_) (fun _ _ _ => vp _ cC) (fun _ _ z => ?_) (fun _ _ _ _ => vp _ cC) (fun _ _ _ z => ?_) (fun _ _ _ _ z => ?_) (fun _ _ _ _ _ z => ?_) (fun _ _ _ _ _ _ z => ?_) (fun _ z0 z1 z2 z3 z4 z5 => ?_) (fun z => absurd cC z))
    · rw [eq]
      refine K _ m hW (fun Q2 h2 => mod Q2 (fun _ => ?_) (fun w => (ne 0 1 (by decide) z w).elim) (fun w => (ne 0 2 (by decide) z w).elim) (fun w => (ne 0 3 (by decide) z w).elim) (fun w => (ne 0 4 (by decide) z w).elim) (fun w => (ne 0 5 (by decide) z w).elim) (fun w => absurd z w.1))
      rw [show mI m 541 q = mI m 33 q from (a2 q hq).symm]; exact h2 m h
    · rw [eq]
      refine K _ m hW (fun Q2 h2 => mod Q2 (fun w => (ne 1 0 (by decide) z w).elim) (fun _ => ?_) (fun w => (ne 1 2 (by decide) z w).elim) (fun w => (ne 1 3 (by decide) z w).elim) (fun w => (ne 1 4 (by decide) z w).elim) (fun w => (ne 1 5 (by decide) z w).elim) (fun w => absurd z w.2.1))
      rw [show mI m 537 q = mI m 38 q from (s1 q (by omega)).symm]; exact h2 m h
    · rw [eq]
      refine K _ m hW (fun Q2 h2 => mod Q2 (fun w => (ne 2 0 (by decide) z w).elim) (fun w => (ne 2 1 (by decide) z w).elim) (fun _ => ?_) (fun w => (ne 2 3 (by decide) z w).elim) (fun w => (ne 2 4 (by decide) z w).elim) (fun w => (ne 2 5 (by decide) z w).elim) (fun w => absurd z w.2.2.1))
      rw [show mI m 538 q = mI m 39 q from (s2 q (by omega)).symm]; exact h2 m h
    · refine K _ m hW (fun Q2 h2 => mod Q2 (fun w => (ne 3 0 (by decide) z w).elim) (fun w => (ne 3 1 (by decide) z w).elim) (fun w => (ne 3 2 (by decide) z w).elim) (fun _ => ?_) (fun w => (ne 3 4 (by decide) z w).elim) (fun w => (ne 3 5 (by decide) z w).elim) (fun w => absurd z w.2.2.2.1))
      rw [← tAt_ag s3 hq1 p6]; exact h2 m h
    · refine K _ m hW (fun Q2 h2 => mod Q2 (fun w => (ne 4 0 (by decide) z w).elim) (fun w => (ne 4 1 (by decide) z w).elim) (fun w => (ne 4 2 (by decide) z w).elim) (fun w => (ne 4 3 (by decide) z w).elim) (fun _ => ?_) (fun w => (ne 4 5 (by decide) z w).elim) (fun w => absurd z w.2.2.2.2.1))
      rw [← wSum_ag s3 a3 hq1 p6]; exact h2 m h
    · refine K _ m hW (fun Q2 h2 => mod Q2 (fun w => (ne 5 0 (by decide) z w).elim) (fun w => (ne 5 1 (by decide) z w).elim) (fun w => (ne 5 2 (by decide) z w).elim) (fun w => (ne 5 3 (by decide) z w).elim) (fun w => (ne 5 4 (by decide) z w).elim) (fun _ => ?_) (fun w => absurd z w.2.2.2.2.2))
      rw [← wSum_ag s3 a4 hq1 p6]; exact h2 m h
    · exact K _ m hW (fun Q2 h2 => mod Q2 (fun w => absurd w z0) (fun w => absurd w z1) (fun w => absurd w z2) (fun w => absurd w z3) (fun w => absurd w z4) (fun w => absurd w z5) (fun _ => h2 m h))
  · have cC : ¬ (¬ x < 0 ∧ ¬ mI m 31 3 ≤ x ∧ ¬ (4 : Int32) ≤ x) := fun z => c ((perC p3 (K := 4) rfl p4 (by decide)).mp z)
    have cM : ¬ (¬ x < 0 ∧ ¬ (mI m 536 3 - (1 : Int32)) < x) := fun z => c ((perM q3 (by omega)).mp z)
    refine pCl_of (by decide +kernel) (Nat.le_of_ble_eq_true rfl) rfl (bX11_person_0 hW (fun z => absurd z cC) (fun z => absurd z cC) (fun z => absurd z cC) (fun z => absurd z cC) (fun z => absurd z cC) (fun z => absurd z cC) (fun z => absurd z cC) (fun z => absurd z cC) (fun z => absurd z cC) (fun z => absurd z cC) (fun _ => ?_))
    exact K _ m hW (fun Q2 h2 => pCl_of (by decide +kernel) (Nat.le_of_ble_eq_true rfl) rfl (bX12_person_0 hW (fun z => absurd z cM) (fun z => absurd z cM) (fun z => absurd z cM) (fun z => absurd z cM) (fun z => absurd z cM) (fun z => absurd z cM) (fun z => absurd z cM) (fun z => absurd z cM) (fun z => absurd z cM) (fun z => absurd z cM) (fun z => absurd z cM) (fun z => absurd z cM) (fun z => absurd z cM) (fun _ => h2 m h)))
theorem p_thing {x y : Int32} : Pair X 1 2 mX11_thing mX12_thing [.int x, .int y] := by
  intro m h Q K
  obtain ⟨hW, hC, hT, nr, P, Sg, T, N, M, d, f, hr, hi, hf, hw, hv⟩ := Inv_open h
  obtain ⟨a1, a2, a3, a4, s1, s2, s3⟩ := rows_of hv
  obtain ⟨⟨⟨p3, p4, p2, p8, pT, p6⟩, ⟨q3, _, q2, _, qT, _⟩, _⟩, _⟩ := hv
  have vp : ∀ z, (¬ z < 0 ∧ ¬ mI m 31 4 ≤ z ∧ ¬ (6 : Int32) ≤ z) → vp_in z 6 := fun z w => vp_in_cmp (N := 6) w.1 w.2.2 (by decide)
  by_cases c : ∃ q, q < T ∧ x = nI q
  · have cC := (perC pT (K := 6) rfl p6 (by decide)).mpr c
    have cM := (perM qT (by omega)).mpr c
    obtain ⟨q, hq, rfl⟩ := c
    have eq : (nI q).toNatClampNeg = q := nI_clamp (by omega)
    have c3 : (¬ y < (0 : Int32) ∧ ¬ (2 : Int32) < y) ↔ (y = 0 ∨ y = 1 ∨ y = 2) := by
      constructor
      · rintro ⟨z1, z2⟩
        obtain ⟨k, hk, rfl⟩ := nI_of z1
        have : k ≤ 2 := Nat.not_lt.mp fun z => z2 (nI_lt (a := 2) z hk)
        have : k = 0 ∨ k = 1 ∨ k = 2 := by omega
        rcases this with rfl | rfl | rfl
        · exact Or.inl rfl
        · exact Or.inr (Or.inl rfl)
        · exact Or.inr (Or.inr rfl)
      · rintro (rfl | rfl | rfl) <;> decide
    have mod : ∀ Q2 : Option Value → pMem → Prop, (y = 0 → Q2 (some (.int (mI m 542 q))) m) → (y = 1 → Q2 (some (.int (mI m 543 q))) m) → (y = 2 → Q2 (some (.int (mI m 539 q))) m) → ((¬ y = 0 ∧ ¬ y = 1 ∧ ¬ y = 2) → Q2 (some (.int (-2))) m) → Cl X 2 mX12_thing [.ref 535, .int (nI q), .int y] m Q2 := by
      intro Q2 k0 k1 k2 k6
      refine pCl_of (by decide +kernel) (Nat.le_of_ble_eq_true rfl) rfl (bX12_thing_0 hW (fun _ _ _ _ => vp _ cC) (fun _ z z0 z1 => ?_) (fun _ _ _ _ => vp _ cC) (fun _ _ _ z => ?_) (fun _ _ _ => vp _ cC) (fun _ _ z => ?_) (fun _ z => k6 ⟨fun w => z (c3.mpr (Or.inl w)), fun w => z (c3.mpr (Or.inr (Or.inl w))), fun w => z (c3.mpr (Or.inr (Or.inr w)))⟩) (fun z => absurd cM z))
      · rw [eq]; exact k2 (((c3.mp z).resolve_left z0).resolve_left z1)
      · rw [eq]; exact k1 z
      · rw [eq]; exact k0 z
    have ne : ∀ a b : Int32, a ≠ b → y = a → y = b → False := fun a b h1 h2 h3 => h1 (h2.symm.trans h3)
    refine pCl_of (by decide +kernel) (Nat.le_of_ble_eq_true rfl) rfl (bX11_thing_0 hW (fun _ _ => vp _ cC) (fun _ z => ?_) (fun _ _ _ => vp _ cC) (fun _ _ z => ?_) (fun _ _ _ _ => vp _ cC) (fun _ _ _ z => ?_) (fun _ z0 z1 z2 => ?_) (fun z => absurd cC z))
    · rw [eq]
      refine K _ m hW (fun Q2 h2 => mod Q2 (fun _ => ?_) (fun w => (ne 0 1 (by decide) z w).elim) (fun w => (ne 0 2 (by decide) z w).elim) (fun w => absurd z w.1))
      rw [show mI m 542 q = mI m 34 q from (a3 q hq).symm]; exact h2 m h
    · rw [eq]
      refine K _ m hW (fun Q2 h2 => mod Q2 (fun w => (ne 1 0 (by decide) z w).elim) (fun _ => ?_) (fun w => (ne 1 2 (by decide) z w).elim) (fun w => absurd z w.2.1))
      rw [show mI m 543 q = mI m 35 q from (a4 q hq).symm]; exact h2 m h
    · rw [eq]
      refine K _ m hW (fun Q2 h2 => mod Q2 (fun w => (ne 2 0 (by decide) z w).elim) (fun w => (ne 2 1 (by decide) z w).elim) (fun _ => ?_) (fun w => absurd z w.2.2))
      rw [show mI m 539 q = mI m 40 q from (s3.1 q hq).symm]; exact h2 m h
    · exact K _ m hW (fun Q2 h2 => mod Q2 (fun w => absurd w z0) (fun w => absurd w z1) (fun w => absurd w z2) (fun _ => h2 m h))
  · have cC : ¬ (¬ x < 0 ∧ ¬ mI m 31 4 ≤ x ∧ ¬ (6 : Int32) ≤ x) := fun z => c ((perC pT (K := 6) rfl p6 (by decide)).mp z)
    have cM : ¬ (¬ x < 0 ∧ ¬ (mI m 536 4 - (1 : Int32)) < x) := fun z => c ((perM qT (by omega)).mp z)
    refine pCl_of (by decide +kernel) (Nat.le_of_ble_eq_true rfl) rfl (bX11_thing_0 hW (fun z => absurd z cC) (fun z => absurd z cC) (fun z => absurd z cC) (fun z => absurd z cC) (fun z => absurd z cC) (fun z => absurd z cC) (fun z => absurd z cC) (fun _ => ?_))
    exact K _ m hW (fun Q2 h2 => pCl_of (by decide +kernel) (Nat.le_of_ble_eq_true rfl) rfl (bX12_thing_0 hW (fun z => absurd z cM) (fun z => absurd z cM) (fun z => absurd z cM) (fun z => absurd z cM) (fun z => absurd z cM) (fun z => absurd z cM) (fun z => absurd z cM) (fun _ => h2 m h)))
end Q2
