/-! ===== pair: feed ===== -/
def shI (i : Nat) : Int32 := match i with
  | 0 => 24
  | 1 => 16
  | 2 => 8
  | 3 => 0
  | _ => -8
theorem shI_s : ∀ i, i < 4 → shI i + (-8 : Int32) = shI (i + 1) ∧ ¬ shI i < 0 := by decide +kernel
theorem and255 (y : Int32) : ∃ b, b < 256 ∧ y &&& (255 : Int32) = nI b := by
  have e : nI y.toBitVec.toNat = y := Int32.toBitVec_inj.1 (by show BitVec.ofNat 32 y.toBitVec.toNat = y.toBitVec; simp)
  refine ⟨y.toBitVec.toNat % 2 ^ 8, Nat.mod_lt _ (by decide), ?_⟩
  have := fa_mask y.toBitVec.toNat 8
  rw [e] at this
  exact this
def fdB (xs : Nat → Int32) (j : Nat) : Int32 := (xs (j / 4) >>> (shI (j % 4) &&& 31)) &&& (255 : Int32)
def TCl (m : pMem) (L : Nat) (xs : Nat → Int32) (n : Nat) (m2 : pMem) : Prop := mI m2 1 1 = nI (L + n) ∧ (∀ j, j < n → mI m2 2 (L + j) = fdB xs j) ∧ (∀ a k, ¬ (a = 1 ∧ k = 1) → ¬ (a = 2 ∧ L ≤ k) → mI m2 a k = mI m a k) ∧ ∀ x y, mR m2 x y = mR m x y
def TMo (m : pMem) (L : Nat) (xs : Nat → Int32) (n : Nat) (m2 : pMem) : Prop := mI m2 535 19 = nI (L + n) ∧ (∀ j, j < n → mI m2 554 (L + j) = (fdB xs j).toInt8.toInt32) ∧ (∀ a k, ¬ (a = 535 ∧ k = 19) → ¬ (a = 554 ∧ L ≤ k) → mI m2 a k = mI m a k) ∧ ∀ x y, mR m2 x y = mR m x y
section T30
variable {X : pX} {Q : Option Value → pMem → Prop} {m m0 : pMem}
theorem s_add {L n : Nat} {xs : Nat → Int32} {x : Int32} (hW : Wf m0) (ht : TCl m0 L xs (4 * n) m) (hL : L + 4 * n + 4 ≤ 400) (hx : xs n = x) (h : ∀ m2, TCl m0 L xs (4 * (n + 1)) m2 → Q none m2) : Cl X 0 mX9_add [.ref 1, .int x] m Q := by
  refine pCl_of (by decide +kernel) (Nat.le_of_ble_eq_true rfl) rfl (bX9_add_0 (hW.sm ht.2.2.2) ?_)
  refine upTo (P := fun i => ∀ m2, TCl m0 L xs (4 * n + i) m2 → Go X 0 mX9_add Q 3 [(0, .ref 1), (1, .int x), (2, .int (shI i))] [] m2) 4 ?_ ?_ 0 (Nat.zero_le _) m ht
  · intro m2 t2
    exact bX9_add_3 (hW.sm t2.2.2.2) (fun _ => h m2 t2) (fun z => absurd (by decide) z) (fun z => absurd (by decide) z) (fun z => absurd (by decide) z)
  · intro i hi ih m2 t2
    obtain ⟨e1, e2⟩ := shI_s i hi
    have t2' := t2
    obtain ⟨u1, u2, u3, u4⟩ := t2
    have hlt : ¬ (400 : Int32) ≤ mI m2 1 1 := by rw [u1]; exact nI_ge (a := L + (4 * n + i)) (b := 400) (by omega) (by decide)
    refine bX9_add_3 (hW.sm u4) (fun z => absurd z e2) (fun _ z => absurd z hlt) (fun _ _ => by rw [u1]; exact vp_in_nI (by omega) (by decide)) (fun _ _ => ?_)
    rw [e1, u1, nI_1, nI_clamp (by omega)]
    refine ih _ ⟨by rw [mI_uI, if_pos ⟨rfl, rfl⟩]; rfl, fun j hj => ?_, fun a k z1 z2 => by rw [mI_uI, if_neg z1, mI_uI, if_neg (by omega)]; exact u3 a k z1 z2, fun x y => u4 x y⟩
    rw [mI_uI, if_neg (by omega), mI_uI]
    by_cases e : j = 4 * n + i
    · subst e
      rw [if_pos ⟨rfl, rfl⟩]
      unfold fdB
      rw [show (4 * n + i) / 4 = n by omega, show (4 * n + i) % 4 = i by omega, hx]
    · rw [if_neg (by omega)]; exact u2 j (by omega)
theorem s_put {L n : Nat} {xs : Nat → Int32} {x : Int32} (hW : Wf m0) (ht : TMo m0 L xs (4 * n) m) (hL : L + 4 * n + 4 ≤ 400) (hx : xs n = x) (h : ∀ m2, TMo m0 L xs (4 * (n + 1)) m2 → Q none m2) : Cl X 0 mX12_put [.ref 535, .int x] m Q := by
  refine pCl_of (by decide +kernel) (Nat.le_of_ble_eq_true rfl) rfl (bX12_put_0 (hW.sm ht.2.2.2) ?_)
  refine upTo (P := fun i => ∀ m2, TMo m0 L xs (4 * n + i) m2 → Go X 0 mX12_put Q 3 [(0, .ref 535), (1, .int x), (2, .int (shI i))] [] m2) 4 ?_ ?_ 0 (Nat.zero_le _) m ht
  · intro m2 t2
    exact bX12_put_3 (hW.sm t2.2.2.2) (fun _ => h m2 t2) (fun z => absurd (by decide) z) (fun z => absurd (by decide) z)
  · intro i hi ih m2 t2
    obtain ⟨e1, e2⟩ := shI_s i hi
    obtain ⟨u1, u2, u3, u4⟩ := t2
    refine bX12_put_3 (hW.sm u4) (fun z => absurd z e2) (fun _ => by rw [u1]; exact vp_in_nI (by omega) (by decide)) (fun _ => ?_)
    rw [e1, u1, nI_1, nI_clamp (by omega)]
    refine ih _ ⟨by rw [mI_uI, if_pos ⟨rfl, rfl⟩]; rfl, fun j hj => ?_, fun a k z1 z2 => by rw [mI_uI, if_neg z1, mI_uI, if_neg (by omega)]; exact u3 a k z1 z2, fun x y => u4 x y⟩
    rw [mI_uI, if_neg (by omega), mI_uI]
    by_cases e : j = 4 * n + i
    · subst e
      rw [if_pos ⟨rfl, rfl⟩, fb_byte_twice]
      unfold fdB
      rw [show (4 * n + i) / 4 = n by omega, show (4 * n + i) % 4 = i by omega, hx, fa_byte_low]
    · rw [if_neg (by omega)]; exact u2 j (by omega)
theorem p_feed {a b c d e : Int32} : Pair X 1 1 mX11_feed mX12_feed [.int a, .int b, .int c, .int d, .int e] := by
  intro m h Q K
  have hI := h
  obtain ⟨hW, hC, ⟨L, hL, tc, tm, tb⟩, _⟩ := Inv_open h
  refine pCl_of (by decide +kernel) (Nat.le_of_ble_eq_true rfl) rfl (bX11_feed_0 hW ?_)
  have s20 : mI m 1 1 + (20 : Int32) = nI (L + 20) := by rw [tc, show (20 : Int32) = nI 20 from rfl, nI_add]
  have s20m : ∀ m1 : pMem, mI m1 535 19 = nI L → mI m1 535 19 + (20 : Int32) = nI (L + 20) := fun m1 h1 => by rw [h1, show (20 : Int32) = nI 20 from rfl, nI_add]
  by_cases cc : L + 20 ≤ 400
  · refine pCl_of (by decide +kernel) (Nat.le_of_ble_eq_true rfl) rfl (bX9_hasRoom_0 hW (fun z => ?_) (fun _ => ?_))
    · rw [s20] at z
      exact absurd z (nI_nlt (a := 400) (b := L + 20) cc (by decide))
    · refine bX11_feed_9 hW (fun _ => ?_) (fun z => absurd z (by decide))
      obtain ⟨xs, hxs⟩ : ∃ xs : Nat → Int32, xs = fun i => match i with | 0 => a | 1 => b | 2 => c | 3 => d | _ => e := ⟨_, rfl⟩
      have t0 : TCl m L xs (4 * 0) m := ⟨tc, fun j hj => absurd hj (by omega), fun _ _ _ _ => rfl, fun _ _ => rfl⟩
      refine s_add hW t0 (by omega) (by rw [hxs] <;> rfl) (fun m1 t1 => bX11_feed_22 (hW.sm t1.2.2.2) ?_)
      refine s_add hW t1 (by omega) (by rw [hxs] <;> rfl) (fun m2 t2 => bX11_feed_30 (hW.sm t2.2.2.2) ?_)
      refine s_add hW t2 (by omega) (by rw [hxs] <;> rfl) (fun m3 t3 => bX11_feed_38 (hW.sm t3.2.2.2) ?_)
      refine s_add hW t3 (by omega) (by rw [hxs] <;> rfl) (fun m4 t4 => bX11_feed_47 (hW.sm t4.2.2.2) ?_)
      refine s_add hW t4 (by omega) (by rw [hxs] <;> rfl) (fun m5 t5 => bX11_feed_56 (hW.sm t5.2.2.2) ?_)
      have hW5 := hW.sm t5.2.2.2
      rw [t5.1]
      refine K _ m5 hW5 (fun Q2 h2 => ?_)
      have e19 : mI m5 535 19 = nI L := (t5.2.2.1 _ _ (by omega) (by omega)).trans tm
      refine pCl_of (by decide +kernel) (Nat.le_of_ble_eq_true rfl) rfl (bX12_feed_0 hW5 (fun _ => ?_) (fun z => absurd (by rw [s20m m5 e19]; exact nI_le (a := L + 20) (b := 400) cc (by decide)) z))
      have y0 : TMo m5 L xs (4 * 0) m5 := ⟨e19, fun j hj => absurd hj (by omega), fun _ _ _ _ => rfl, fun _ _ => rfl⟩
      refine s_put hW5 y0 (by omega) (by rw [hxs] <;> rfl) (fun n1 y1 => bX12_feed_20 (hW5.sm y1.2.2.2) ?_)
      refine s_put hW5 y1 (by omega) (by rw [hxs] <;> rfl) (fun n2 y2 => bX12_feed_25 (hW5.sm y2.2.2.2) ?_)
      refine s_put hW5 y2 (by omega) (by rw [hxs] <;> rfl) (fun n3 y3 => bX12_feed_30 (hW5.sm y3.2.2.2) ?_)
      refine s_put hW5 y3 (by omega) (by rw [hxs] <;> rfl) (fun n4 y4 => bX12_feed_36 (hW5.sm y4.2.2.2) ?_)
      refine s_put hW5 y4 (by omega) (by rw [hxs] <;> rfl) (fun n5 y5 => bX12_feed_42 (hW5.sm y5.2.2.2) ?_)
      rw [y5.1]
      obtain ⟨c1, c2, c3, c4⟩ := t5
      obtain ⟨d1, d2, d3, d4⟩ := y5
      refine h2 n5 (Inv_tape hI (fun x y => (d4 x y).trans (c4 x y)) (fun a k z1 z2 z3 z4 z5 => (d3 a k z4 (fun w => z5 w.1)).trans (c3 a k z2 (fun w => z3 w.1))) ⟨L + 20, cc, (d3 _ _ (by omega) (by omega)).trans c1, d1, fun j hj => ?_⟩)
      by_cases jl : j < L
      · obtain ⟨bb, b1, b2, b3⟩ := tb j jl
        exact ⟨bb, b1, (d3 _ _ (by omega) (by omega)).trans ((c3 _ _ (by omega) (by omega)).trans b2), (d3 _ _ (by omega) (by omega)).trans ((c3 _ _ (by omega) (by omega)).trans b3)⟩
      · obtain ⟨i, hi, rfl⟩ : ∃ i, i < 20 ∧ j = L + i := ⟨j - L, by omega, by omega⟩
        obtain ⟨bb, b1, b2⟩ := and255 (xs (i / 4) >>> (shI (i % 4) &&& 31))
        have e1 : fdB xs i = nI bb := b2
        exact ⟨bb, b1, (d3 _ _ (by omega) (by omega)).trans ((c2 i (by omega)).trans e1), by rw [d2 i (by omega), e1]⟩
  · refine pCl_of (by decide +kernel) (Nat.le_of_ble_eq_true rfl) rfl (bX9_hasRoom_0 hW (fun _ => ?_) (fun z => ?_))
    · refine bX11_feed_9 hW (fun z => absurd rfl z) (fun _ => ?_)
      refine K _ m hW (fun Q2 h2 => pCl_of (by decide +kernel) (Nat.le_of_ble_eq_true rfl) rfl (bX12_feed_0 hW (fun z => ?_) (fun _ => h2 m hI)))
      rw [s20m m tm] at z
      exact absurd (nI_le' (a := L + 20) (b := 400) (by omega) (by decide) z) cc
    · rw [s20] at z
      exact absurd (nI_lt (a := 400) (b := L + 20) (by omega) (by omega)) z
end T30
