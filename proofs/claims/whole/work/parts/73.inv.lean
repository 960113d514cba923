/-! ===== what holds between calls ===== -/
/-- cells that nobody reads between calls -/
def Scr (a k : Nat) : Prop :=
  (a = 1 ∧ (k = 2 ∨ k = 3)) ∨ (4 ≤ a ∧ a ≤ 10) ∨ (12 ≤ a ∧ a ≤ 27 ∧ a % 3 = 0 ∧ k = 3) ∨ (513 ≤ a ∧ a ≤ 534)
  ∨ (a = 535 ∧ (k = 20 ∨ k = 21 ∨ k = 22 ∨ (24 ≤ k ∧ k ≤ 27) ∨ k = 42 ∨ k = 43 ∨ (46 ≤ k ∧ k ≤ 49) ∨ k = 54 ∨ k = 55))
  ∨ (a = 536 ∧ 9 ≤ k) ∨ (a = 537 ∧ 4 ≤ k) ∨ (a = 538 ∧ 4 ≤ k) ∨ (a = 539 ∧ 6 ≤ k) ∨ (548 ≤ a ∧ a ≤ 553) ∨ a = 561 ∨ a = 565 ∨ a = 566 ∨ a = 568 ∨ a = 569 ∨ (a = 570 ∧ 1800 ≤ k)
/-- the class's world at a, as an image of the model's -/
def fcP (m : pMem) (a i j : Nat) : Int32 :=
  if j < 1 then mI m (a + 13 + 4 * (((mI m (a + 11) 1).toNatClampNeg + i) % 20)) 0 else if j < 5 then mI m (a + 13 + 4 * (((mI m (a + 11) 1).toNatClampNeg + i) % 20) + 1) (j - 1)
  else if j < 9 then mI m (a + 13 + 4 * (((mI m (a + 11) 1).toNatClampNeg + i) % 20) + 2) (j - 5) else mI m (a + 13 + 4 * (((mI m (a + 11) 1).toNatClampNeg + i) % 20) + 3) (j - 9)
def fc (m : pMem) (a j : Nat) : Int32 :=
  if j < 5 then mI m (a + 1) j else if j < 6 then mI m (a + 7) 0 else if j < 7 then mI m a 5 else if j < 8 then mI m a 4 else if j < 9 then mI m a 3
  else if j < 13 then mI m (a + 8) (j - 9) else if j < 17 then mI m (a + 9) (j - 13) else if j < 23 then mI m (a + 10) (j - 17) else if j < 24 then mI m (a + 11) 2
  else if j < 32 then mI m (a + 2) (j - 24) else if j < 36 then mI m (a + 3) (j - 32) else if j < 42 then mI m (a + 4) (j - 36) else if j < 48 then mI m (a + 5) (j - 42)
  else if j < 58 then mI m (a + 93) (j - 48) else if j < 68 then mI m (a + 94) (j - 58) else if j < 78 then mI m (a + 95) (j - 68) else if j < 84 then mI m (a + 6) (j - 78)
  else fcP m a ((j - 84) / 15) ((j - 84) % 15)
/-- two images that agree; u is the class's -/
def WeqN (nr : Nat) (u v : Row) (P Sg T N M d : Nat) : Prop :=
  (P ≤ 4 ∧ Sg ≤ 8 ∧ T ≤ 6 ∧ N ≤ 10 ∧ M ≤ 20 ∧ d ≤ 999) ∧ (u 2 = nI Sg ∧ u 3 = nI P ∧ u 4 = nI T ∧ u 5 = nI d ∧ u 6 = nI N ∧ u 23 = nI M) ∧ (AgR 17 u v ∧ u 23 = v 23)
  ∧ (u 0 = 0 ∨ u 0 = 1) ∧ (u 8 = -1 ∨ ∃ i, i < nr ∧ u 8 = nI i) ∧ ¬ u 7 < 0
  ∧ plOk (fun q => u (9 + q)) P Sg ∧ AgW T (fun t => u (17 + t)) (fun t => v (17 + t))
  ∧ (∀ j, j < Sg → u (24 + j) = v (24 + j)) ∧ (∀ j, j < P → u (32 + j) = v (32 + j) ∧ ∃ w, 1 ≤ w ∧ w ≤ 20 ∧ u (32 + j) = nI w) ∧ (∀ j, j < T → u (36 + j) = v (36 + j)) ∧ (∀ j, j < T → u (42 + j) = v (42 + j) ∧ ∃ w, w ≤ 50 ∧ u (42 + j) = nI w)
  ∧ (∀ j, j < N → (u (48 + j) = v (48 + j) ∧ ∃ w, w ≤ 60 ∧ u (48 + j) = nI w) ∧ (u (58 + j) = v (58 + j) ∧ ∃ q, q < P ∧ u (58 + j) = nI q) ∧ u (68 + j) = v (68 + j))
  ∧ AgW T (fun t => u (78 + t)) (fun t => v (78 + t))
  ∧ ∀ i, i < M → AgR 9 (fun j => u (84 + 15 * i + j)) (fun j => v (84 + 15 * i + j)) ∧ AgW T (fun j => u (84 + 15 * i + 9 + j)) (fun j => v (84 + 15 * i + 9 + j)) ∧ plOk (fun q => u (84 + 15 * i + 1 + q)) P Sg ∧ ∃ e, e ≤ 999 ∧ u (84 + 15 * i) = nI e
def Weq (nr : Nat) (u v : Row) : Prop := ∃ P Sg T N M d, WeqN nr u v P Sg T N M d
theorem AgR_c {n : Nat} {u v u2 v2 : Row} (h1 : ∀ j, j < n → u2 j = u j) (h2 : ∀ j, j < n → v2 j = v j) (h : AgR n u v) : AgR n u2 v2 := fun j hj => by rw [h1 j hj, h2 j hj, h j hj]
theorem AgW_c {n : Nat} {u v u2 v2 : Row} (h0 : n ≤ 6) (h1 : ∀ j, j < 6 → u2 j = u j) (h2 : ∀ j, j < 6 → v2 j = v j) (h : AgW n u v) : AgW n u2 v2 := ⟨fun j hj => by rw [h1 j (by omega), h2 j (by omega), h.1 j hj], fun j hj h6 => by rw [h1 j h6, h.2 j hj h6]⟩
theorem WeqN_c {nr : Nat} {u v u2 v2 : Row} {P Sg T N M d : Nat} (h1 : ∀ j, j < 384 → u2 j = u j) (h2 : ∀ j, j < 384 → v2 j = v j) (h : WeqN nr u v P Sg T N M d) : WeqN nr u2 v2 P Sg T N M d := by
  obtain ⟨⟨b1, b2, b3, b4, b5, b6⟩, ⟨c1, c2, c3, c4, c5, c6⟩, ⟨d1, d2⟩, d3, d4, d5, d6, d7, d8, d9, e1, e2, e3, e4, e5⟩ := h
  refine ⟨⟨b1, b2, b3, b4, b5, b6⟩, ⟨by rw [h1 _ (by omega)]; exact c1, by rw [h1 _ (by omega)]; exact c2, by rw [h1 _ (by omega)]; exact c3, by rw [h1 _ (by omega)]; exact c4, by rw [h1 _ (by omega)]; exact c5, by rw [h1 _ (by omega)]; exact c6⟩, ⟨AgR_c (fun j hj => h1 j (by omega)) (fun j hj => h2 j (by omega)) d1, by rw [h1 _ (by omega), h2 _ (by omega)]; exact d2⟩, by rw [h1 _ (by omega)]; exact d3, by rw [h1 _ (by omega)]; exact d4, by rw [h1 _ (by omega)]; exact d5, fun q hq => ?_, AgW_c b3 (fun j hj => h1 _ (by omega)) (fun j hj => h2 _ (by omega)) d7, fun j hj => ?_, fun j hj => ?_, fun j hj => ?_, fun j hj => ?_, fun j hj => ?_, AgW_c b3 (fun j hj => h1 _ (by omega)) (fun j hj => h2 _ (by omega)) e4, fun i hi => ?_⟩
  · show ∃ p, p ≤ Sg ∧ u2 (9 + q) = nI p
    rw [h1 _ (by omega)]; exact d6 q hq
  · rw [h1 _ (by omega), h2 _ (by omega)]; exact d8 j hj
  · rw [h1 _ (by omega), h2 _ (by omega)]; exact d9 j hj
  · rw [h1 _ (by omega), h2 _ (by omega)]; exact e1 j hj
  · rw [h1 _ (by omega), h2 _ (by omega)]; exact e2 j hj
  · rw [h1 (48 + j) (by omega), h2 (48 + j) (by omega), h1 (58 + j) (by omega), h2 (58 + j) (by omega), h1 (68 + j) (by omega), h2 (68 + j) (by omega)]; exact e3 j hj
  · obtain ⟨k1, k2, k3, k4⟩ := e5 i hi
    refine ⟨AgR_c (fun j hj => h1 _ (by omega)) (fun j hj => h2 _ (by omega)) k1, AgW_c b3 (fun j hj => h1 _ (by omega)) (fun j hj => h2 _ (by omega)) k2, fun q hq => ?_, by rw [h1 _ (by omega)]; exact k4⟩
    show ∃ p, p ≤ Sg ∧ u2 (84 + 15 * i + 1 + q) = nI p
    rw [h1 _ (by omega)]; exact k3 q hq
theorem Weq_c {nr : Nat} {u v u2 v2 : Row} (h1 : ∀ j, j < 384 → u2 j = u j) (h2 : ∀ j, j < 384 → v2 j = v j) (h : Weq nr u v) : Weq nr u2 v2 := by
  obtain ⟨P, Sg, T, N, M, d, h⟩ := h
  exact ⟨P, Sg, T, N, M, d, WeqN_c h1 h2 h⟩
theorem Weq_mo {nr nr2 : Nat} {u v : Row} (hn : nr ≤ nr2) (h : Weq nr u v) : Weq nr2 u v := by
  obtain ⟨P, Sg, T, N, M, d, h1, h2, h3, h4, h5, h6⟩ := h
  exact ⟨P, Sg, T, N, M, d, h1, h2, h3, h4, h5.imp id (fun ⟨i, hi, e⟩ => ⟨i, by omega, e⟩), h6⟩
/-- the tapes -/
def TapeI (m : pMem) : Prop := ∃ L, L ≤ 400 ∧ mI m 1 1 = nI L ∧ mI m 535 19 = nI L ∧ ∀ j, j < L → ∃ b, b < 256 ∧ mI m 2 j = nI b ∧ mI m 554 j = (nI b).toInt8.toInt32
def RulesI (m : pMem) (nr : Nat) : Prop := nr ≤ 6 ∧ mI m 0 4 = nI nr ∧ mI m 535 23 = nI nr ∧ ∀ i, i < nr → ∃ cs, RuleM m i cs ∧ RuleC m (12 + 3 * i) cs ∧ ∀ c ∈ cs, ClsOk c
def FirstI (m : pMem) (a : Nat) : Prop := ∃ f, f < 20 ∧ mI m (a + 11) 1 = nI f
def ImgI (m : pMem) (nr : Nat) : Prop := ∀ k, k < 4 → mI m 571 k = mI m 511 k ∧ FirstI m (127 + 96 * k) ∧ (mI m 511 k = 0 ∨ (mI m 511 k = 1 ∧ Weq nr (fc m (127 + 96 * k)) (fi m k)))
def ConI (m : pMem) : Prop := mI m 535 28 = 12 ∧ ∀ k, k < 6 → mI m 567 k = nI (3 ^ k)
def Inv (m : pMem) : Prop := Wf m ∧ ConI m ∧ TapeI m ∧ ∃ nr, RulesI m nr ∧ ImgI m nr ∧ FirstI m 30 ∧ Weq nr (fc m 30) (fm m)
/-- nothing but such cells has changed: all holds on -/
def Fr (E : Nat → Nat → Prop) (m m2 : pMem) : Prop := Same E m m2
theorem fcP_c {m m2 : pMem} {a i j : Nat} (h : ∀ b k, 11 ≤ b → b ≤ 92 → mI m2 (a + b) k = mI m (a + b) k) : fcP m2 a i j = fcP m a i j := by
  unfold fcP
  rw [h 11 1 (by omega) (by omega)]
  have hb : ∀ t, t ≤ 3 → ∀ k, mI m2 (a + 13 + 4 * (((mI m (a + 11) 1).toNatClampNeg + i) % 20) + t) k = mI m (a + 13 + 4 * (((mI m (a + 11) 1).toNatClampNeg + i) % 20) + t) k := by
    intro t ht k
    have := h (13 + 4 * (((mI m (a + 11) 1).toNatClampNeg + i) % 20) + t) k (by omega) (by omega)
    rw [← Nat.add_assoc, ← Nat.add_assoc] at this
    exact this
  have h0 := hb 0 (by omega)
  simp only [Nat.add_zero] at h0
  rw [h0, hb 1 (by omega), hb 2 (by omega), hb 3 (by omega)]
theorem fc_c {m m2 : pMem} {a j : Nat} (h : ∀ b k, b ≤ 95 → mI m2 (a + b) k = mI m (a + b) k) : fc m2 a j = fc m a j := by
  have h0 : ∀ k, mI m2 a k = mI m a k := fun k => h 0 k (by omega)
  unfold fc
  rw [h 1 _ (by omega), h 7 _ (by omega), h0, h0, h0, h 8 _ (by omega), h 9 _ (by omega), h 10 _ (by omega), h 11 _ (by omega), h 2 _ (by omega), h 3 _ (by omega), h 4 _ (by omega), h 5 _ (by omega), h 93 _ (by omega), h 94 _ (by omega), h 95 _ (by omega), h 6 _ (by omega), fcP_c (fun b k h1 h2 => h b k (by omega))]
theorem fm_c {m m2 : pMem} {j : Nat} (hj : j < 384) (h : ∀ a k, (a = 535 ∧ k = 41) ∨ (a = 536 ∧ k < 9) ∨ (a = 537 ∧ k < 4) ∨ (a = 538 ∧ k < 4) ∨ (a = 539 ∧ k < 6) ∨ (540 ≤ a ∧ a ≤ 547) ∨ a = 564 → mI m2 a k = mI m a k) : fm m2 j = fm m j := by
  unfold fm
  by_cases e : j = 23
  · rw [if_pos e, if_pos e]; exact h _ _ (by omega)
  · rw [if_neg e, if_neg e]
    refine h _ _ ?_
    have : ∀ j, j < 384 → j ≠ 23 → ((layR j).1 = 535 ∧ (layR j).2 = 41) ∨ ((layR j).1 = 536 ∧ (layR j).2 < 9) ∨ ((layR j).1 = 537 ∧ (layR j).2 < 4) ∨ ((layR j).1 = 538 ∧ (layR j).2 < 4) ∨ ((layR j).1 = 539 ∧ (layR j).2 < 6) ∨ (540 ≤ (layR j).1 ∧ (layR j).1 ≤ 547) ∨ (layR j).1 = 564 := by decide +kernel
    exact this j hj e
theorem RuleC_congr {m m2 : pMem} {r : Nat} {cs : List Cls} (h1 : ∀ k, mI m2 (r + 1) k = mI m (r + 1) k) (h2 : mI m2 r 2 = mI m r 2) (h : RuleC m r cs) : RuleC m2 r cs := by
  obtain ⟨a, b, c⟩ := h
  exact ⟨h2.trans a, b, fun j hj => (h1 j).trans (c j hj)⟩
theorem TapeI_c {m m2 : pMem} (h1 : mI m2 1 1 = mI m 1 1) (h2 : mI m2 535 19 = mI m 535 19) (h3 : ∀ k, mI m2 2 k = mI m 2 k) (h4 : ∀ k, mI m2 554 k = mI m 554 k) (h : TapeI m) : TapeI m2 := by
  obtain ⟨L, a, b, c, d⟩ := h
  exact ⟨L, a, h1.trans b, h2.trans c, fun j hj => by rw [h3, h4]; exact d j hj⟩
theorem RulesI_c {m m2 : pMem} {nr : Nat} (h1 : mI m2 0 4 = mI m 0 4) (h2 : mI m2 535 23 = mI m 535 23) (h3 : ∀ a k, 12 ≤ a → a ≤ 29 → ¬ (a % 3 = 0 ∧ k = 3) → mI m2 a k = mI m a k) (h4 : ∀ a k, 555 ≤ a → a ≤ 560 → mI m2 a k = mI m a k) (h : RulesI m nr) : RulesI m2 nr := by
  obtain ⟨a, b, c, d⟩ := h
  refine ⟨a, h1.trans b, h2.trans c, fun i hi => ?_⟩
  obtain ⟨cs, x, y, z⟩ := d i hi
  exact ⟨cs, RuleM_congr h4 x, RuleC_congr (fun k => h3 _ _ (by omega) (by omega) (by omega)) (h3 _ _ (by omega) (by omega) (by omega)) y, z⟩
theorem ImgI_c {m m2 : pMem} {nr : Nat} (h1 : ∀ k, mI m2 571 k = mI m 571 k) (h2 : ∀ k, mI m2 511 k = mI m 511 k) (h3 : ∀ a k, 127 ≤ a → a ≤ 510 → mI m2 a k = mI m a k) (h4 : ∀ k, k < 1800 → mI m2 570 k = mI m 570 k) (h : ImgI m nr) : ImgI m2 nr := by
  intro k hk
  obtain ⟨a, ⟨f, hf, ef⟩, b⟩ := h k hk
  refine ⟨by rw [h1, h2]; exact a, ⟨f, hf, (h3 _ _ (by omega) (by omega)).trans ef⟩, ?_⟩
  rw [h2]
  exact b.imp id (fun z => ⟨z.1, Weq_c (fun j hj => fc_c (fun b k hb => h3 _ _ (by omega) (by omega))) (fun j hj => h4 _ (by omega)) z.2⟩)
theorem ConI_c {m m2 : pMem} (h1 : mI m2 535 28 = mI m 535 28) (h2 : ∀ k, mI m2 567 k = mI m 567 k) (h : ConI m) : ConI m2 := ⟨h1.trans h.1, fun k hk => (h2 k).trans (h.2 k hk)⟩
theorem Inv_scr {m m2 : pMem} (h : Inv m) (hs : Same Scr m m2) : Inv m2 := by
  obtain ⟨h1, h2, h3, nr, h4, h5, ⟨f, hf, ef⟩, h7⟩ := h
  refine ⟨h1.sm hs.2, ConI_c (hs.1 _ _ (by unfold Scr; omega)) (fun k => hs.1 _ _ (by unfold Scr; omega)) h2, TapeI_c (hs.1 _ _ (by unfold Scr; omega)) (hs.1 _ _ (by unfold Scr; omega)) (fun k => hs.1 _ _ (by unfold Scr; omega)) (fun k => hs.1 _ _ (by unfold Scr; omega)) h3, nr, RulesI_c (hs.1 _ _ (by unfold Scr; omega)) (hs.1 _ _ (by unfold Scr; omega)) (fun a k z1 z2 z3 => hs.1 _ _ (by unfold Scr; omega)) (fun a k z1 z2 => hs.1 _ _ (by unfold Scr; omega)) h4,
    ImgI_c (fun k => hs.1 _ _ (by unfold Scr; omega)) (fun k => hs.1 _ _ (by unfold Scr; omega)) (fun a k z1 z2 => hs.1 _ _ (by unfold Scr; omega)) (fun k z => hs.1 _ _ (by unfold Scr; omega)) h5, ⟨f, hf, (hs.1 _ _ (by unfold Scr; omega)).trans ef⟩, Weq_c (fun j hj => fc_c (fun b k hb => hs.1 _ _ (by unfold Scr; omega))) (fun j hj => fm_c hj (fun a k z => hs.1 _ _ (by unfold Scr; omega))) h7⟩
