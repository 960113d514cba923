/-! ===== plans: of both alike ===== -/
def swI (x : Int32) : Int32 := if x = (-1 : Int32) then 0 else ((1 : Int32) <<< ((x / (6 : Int32)) &&& 31)) ||| ((1 : Int32) <<< ((x - x / (6 : Int32) * (6 : Int32)) &&& 31))
def boD (fu pa we pl wh : Row) (S x y p : Int32) : Int32 := (dyI fu (pa x.toNatClampNeg) (wSum we ((tAt wh x 6) ^^^ swI p) 6) (pl x.toNatClampNeg) S) + (dyI fu (pa y.toNatClampNeg) (wSum we ((tAt wh y 6) ^^^ swI p) 6) (pl y.toNatClampNeg) S)
section T22
variable {X : pX} {Q : Option Value → pMem → Prop} {m : pMem}
theorem s_ofBoth {x y p : Int32} (hW : Wf m) (o1 : dyOk (mI m 31 3) (mI m 33) x (mI m 38 x.toNatClampNeg) (mI m 31 2)) (o2 : dyOk (mI m 31 3) (mI m 33) y (mI m 38 y.toNatClampNeg) (mI m 31 2)) (h : Q (some (.int (boD (mI m 32) (mI m 33) (mI m 34) (mI m 38) (mI m 40) (mI m 31 2) x y p))) m) : Cl X 3 mX3_daysOfBoth [.ref 514, .int x, .int y, .int p] m Q := by
  unfold boD swI at h
  refine pCl_of (by decide +kernel) (Nat.le_of_ble_eq_true rfl) rfl (bX3_daysOfBoth_0 hW (fun z => bX3_daysOfBoth_22 hW o1 o2 ?_) (fun z => bX3_daysOfBoth_22v1 hW o1 o2 ?_))
  · rw [if_neg z] at h; exact h
  · rw [if_pos z] at h; exact h
theorem s_worthBy {x : Int32} (hW : Wf m) (h : Q (some (.int (wSum (mI m 35) (tAt (mI m 40) x 6) 6))) m) : Cl X 2 mX3_worthBy [.ref 514, .int x] m Q :=
  pCl_of (by decide +kernel) (Nat.le_of_ble_eq_true rfl) rfl (bX3_worthBy_0 hW h)
end T22
theorem home_ag {m : pMem} {nr P Sg T N M d q : Nat} (hv : Vw m nr P Sg T N M d) (hq : q < P) : dyOk (mI m 31 3) (mI m 33) (nI q) (mI m 38 (nI q).toNatClampNeg) (mI m 31 2) ∧ dyOkM (mI m 541) (nI q) (mI m 537 (nI q).toNatClampNeg) (mI m 536 2)
    ∧ ∀ k, k < 2 ^ T → dyI (mI m 32) (mI m 33 (nI q).toNatClampNeg) (wSum (mI m 34) (nI k) 6) (mI m 38 (nI q).toNatClampNeg) (mI m 31 2) = dyI (mI m 540) (mI m 541 (nI q).toNatClampNeg) (wSum (mI m 542) (nI k) (mI m 536 4).toNatClampNeg) (mI m 537 (nI q).toNatClampNeg) (mI m 536 2) := by
  obtain ⟨a1, a2, a3, a4, s1, s2, s3⟩ := rows_of hv
  obtain ⟨⟨⟨p3, p4, p2, p8, pT, p6⟩, ⟨q3, _, q2, _, qT, _⟩, _, _, hpl⟩, _, _, _, _, _, v14, _⟩ := hv
  have eq : (nI q).toNatClampNeg = q := nI_clamp (by omega)
  obtain ⟨w, w1, w2, w3, w4⟩ := v14 q hq
  obtain ⟨p, hp, ep⟩ := hpl q hq
  have ep2 : mI m 537 q = nI p := (s1 q (by omega)).symm.trans ep
  rw [eq, ep, ep2, p2, q2, qT, nI_clamp (show T < 2 ^ 31 by omega)]
  refine ⟨⟨(perC (z := 4) p3 (K := 4) rfl p4 (by decide)).mpr ⟨q, hq, rfl⟩, by rw [eq, w3]; exact nI_le (a := 1) w1 (by omega), vp_in_nI (by omega) (by decide), vp_in_nI (by omega) (by decide)⟩, ⟨vp_in_nI (by omega) (by decide), by rw [eq, w4]; exact nI_ne0 (by omega) (by omega), vp_in_nI (by omega) (by decide), vp_in_nI (by omega) (by decide)⟩, fun k hk => ?_⟩
  rw [w3, w4, wS_ag a3 p6 hk]
  exact dyI_ag a1 (Nat.le_refl _) p8 (by omega)
theorem dis_ag {m : pMem} {nr P Sg T N M d q a b : Nat} (hv : Vw m nr P Sg T N M d) (hq : q < P) (ha : a ≤ Sg) (hb : b ≤ Sg) : dyOk (mI m 31 3) (mI m 33) (nI q) (nI a) (nI b) ∧ dyOkM (mI m 541) (nI q) (nI a) (nI b)
    ∧ ∀ k, k < 2 ^ T → dyI (mI m 32) (mI m 33 (nI q).toNatClampNeg) (wSum (mI m 34) (nI k) 6) (nI a) (nI b) = dyI (mI m 540) (mI m 541 (nI q).toNatClampNeg) (wSum (mI m 542) (nI k) (mI m 536 4).toNatClampNeg) (nI a) (nI b) := by
  obtain ⟨a1, a2, a3, a4, s1, s2, s3⟩ := rows_of hv
  obtain ⟨⟨⟨p3, p4, p2, p8, pT, p6⟩, ⟨q3, _, q2, _, qT, _⟩, _, _, hpl⟩, _, _, _, _, _, v14, _⟩ := hv
  have eq : (nI q).toNatClampNeg = q := nI_clamp (by omega)
  obtain ⟨w, w1, w2, w3, w4⟩ := v14 q hq
  rw [qT, nI_clamp (show T < 2 ^ 31 by omega)]
  refine ⟨⟨(perC (z := 4) p3 (K := 4) rfl p4 (by decide)).mpr ⟨q, hq, rfl⟩, by rw [eq, w3]; exact nI_le (a := 1) w1 (by omega), vp_in_nI (by omega) (by decide), vp_in_nI (by omega) (by decide)⟩, ⟨vp_in_nI (by omega) (by decide), by rw [eq, w4]; exact nI_ne0 (by omega) (by omega), vp_in_nI (by omega) (by decide), vp_in_nI (by omega) (by decide)⟩, fun k hk => ?_⟩
  rw [eq, w3, w4, wS_ag a3 p6 hk]
  exact dyI_ag a1 hb p8 (by omega)
/-- sums of worths are small -/
theorem wS_bd {f : Row} {T : Nat} (h : ∀ t, t < T → ∃ w, w ≤ 50 ∧ f t = nI w) (x : Int32) : ∀ n, n ≤ T → ∃ k, k ≤ 50 * n ∧ wSum f x n = nI k
  | 0, _ => ⟨0, by omega, rfl⟩
  | n + 1, hn => by
    obtain ⟨k, hk, ek⟩ := wS_bd h x n (by omega)
    obtain ⟨w, hw, ew⟩ := h n (by omega)
    unfold wSum
    split
    · exact ⟨k + w, by omega, by rw [ek, ew, nI_add]⟩
    · exact ⟨k, by omega, ek⟩
theorem sub_gt {i j : Nat} (hi : i < 2 ^ 30) (hj : j < 2 ^ 30) : (0 < nI i - nI j ↔ nI j < nI i) ∧ (nI i - nI j = 0 ↔ nI i = nI j) := by
  have e1 : (nI i).toInt = i := nI_toInt (by omega)
  have e2 : (nI j).toInt = j := nI_toInt (by omega)
  have e : (nI i - nI j).toInt = (i : Int) - j := by rw [fb_subI (by rw [e1, e2]; omega) (by rw [e1, e2]; omega), e1, e2]
  have e0 : ((0 : Int32)).toInt = 0 := rfl
  rw [fa_lt, fa_lt, fa_eq, fa_eq, e, e1, e2, e0]
  omega
section T23
variable {X : pX}
theorem p_far {x s : Int32} : Pair X 3 3 mX11_far mX12_far [.int x, .int s] := by
  intro m h Q K
  obtain ⟨hW, hC, hT, nr, P, Sg, T, N, M, d, f, hr, hi, hf, hw, hv⟩ := Inv_open h
  have at_ := at_iff (x := x) hv
  have hv0 := hv
  obtain ⟨⟨⟨p3, p4, p2, p8, pT, p6⟩, ⟨q3, _, q2, _, qT, _⟩, _⟩, ⟨v1, v2, _⟩, _⟩ := hv
  have T64 := allTp T p6
  have eC : ((1 : Int32) <<< (mI m 31 4 &&& 31)) - (1 : Int32) = nI (2 ^ T - 1) := by rw [pT]; exact allT T p6
  have eM : ((1 : Int32) <<< ((mI m 536 4) &&& 31)) - (1 : Int32) = nI (2 ^ T - 1) := by rw [qT]; exact allT T p6
  have vP : vp_in (mI m 536 3) 5 := by rw [q3]; exact vp_in_nI (by omega) (by decide)
  have vT : vp_in (mI m 536 4) 7 := by rw [qT]; exact vp_in_nI (by omega) (by decide)
  have vT2 : vp_in (mI m 31 4) 7 := by rw [pT]; exact vp_in_nI (by omega) (by decide)
  have okC : ((¬ x < 0 ∧ ¬ mI m 31 3 ≤ x ∧ ¬ (4 : Int32) ≤ x) ∧ mI m 39 x.toNatClampNeg = 0) → dyOk (mI m 31 3) (mI m 33) x (mI m 38 x.toNatClampNeg) (mI m 31 2) := fun z => by
    obtain ⟨q, hq, rfl, _⟩ := (atC p3 p4).mp z
    exact (home_ag hv0 hq).1
  have okM : ((¬ x < 0 ∧ ¬ (mI m 536 3 - (1 : Int32)) < x) ∧ mI m 538 x.toNatClampNeg = 0) → dyOkM (mI m 541) x (mI m 537 x.toNatClampNeg) (mI m 536 2) := fun z => by
    obtain ⟨q, hq, rfl, _⟩ := (atM q3 p4).mp z
    exact (home_ag hv0 hq).2.1
  have sm : ¬ s < 0 → ¬ nI (2 ^ T - 1) < s → sm64 s := fun z1 z2 => by
    obtain ⟨k, hk, rfl⟩ := (inI (a := 2 ^ T - 1) (by omega)).mp ⟨z1, z2⟩
    exact ⟨k, by omega, rfl⟩
  by_cases c : ((¬ x < 0 ∧ ¬ (mI m 536 3 - (1 : Int32)) < x) ∧ mI m 538 x.toNatClampNeg = 0) ∧ (¬ s < 0 ∧ ¬ nI (2 ^ T - 1) < s ∧ ¬ mI m 536 1 < pcI s)
  · obtain ⟨c1, c2, c3, c4⟩ := c
    have cC := at_.mpr c1
    have eq : dyI (mI m 32) (mI m 33 x.toNatClampNeg) (wSum (mI m 34) s 6) (mI m 38 x.toNatClampNeg) (mI m 31 2) = dyI (mI m 540) (mI m 541 x.toNatClampNeg) (wSum (mI m 542) s (mI m 536 4).toNatClampNeg) (mI m 537 x.toNatClampNeg) (mI m 536 2) := by
      obtain ⟨q, hq, rfl, _⟩ := (atM q3 p4).mp c1
      obtain ⟨k, hk, rfl⟩ := (inI (a := 2 ^ T - 1) (by omega)).mp ⟨c2, c3⟩
      exact (home_ag hv0 hq).2.2 k (by omega)
    refine pCl_of (by decide +kernel) (Nat.le_of_ble_eq_true rfl) rfl (bX11_far_0 hW (fun _ => vT2) (fun z _ => okC z) (fun _ _ => ?_) (fun _ z => absurd ⟨c2, by rw [eC]; exact c3, by rw [v2]; exact c4⟩ z) (fun z => absurd cC z))
    refine K _ m hW (fun Q2 h2 => pCl_of (by decide +kernel) (Nat.le_of_ble_eq_true rfl) rfl (bX12_far_0 hW vP (fun _ _ => sm c2 c3) (fun _ _ _ => vT) (fun z _ _ => okM z) (fun _ _ _ => ?_) (fun _ _ z => absurd (Int32.not_lt.mp c4) z) (fun _ z => absurd ⟨c2, by rw [eM]; exact c3⟩ z) (fun z => absurd c1 z)))
    rw [← eq]
    exact h2 m h
  · have bad : Q (some (.int (-1))) m := K _ m hW (fun Q2 h2 => pCl_of (by decide +kernel) (Nat.le_of_ble_eq_true rfl) rfl (bX12_far_0 hW vP (fun _ z => sm z.1 (by rw [← eM]; exact z.2)) (fun _ _ _ => vT) (fun z _ _ => okM z) (fun z1 z2 z3 => absurd ⟨z1, z2.1, by rw [← eM]; exact z2.2, Int32.not_lt.mpr z3⟩ c) (fun _ _ _ => h2 m h) (fun _ _ => h2 m h) (fun _ => h2 m h)))
    exact pCl_of (by decide +kernel) (Nat.le_of_ble_eq_true rfl) rfl (bX11_far_0 hW (fun _ => vT2) (fun z _ => okC z) (fun z1 z2 => absurd ⟨at_.mp z1, z2.1, by rw [← eC]; exact z2.2.1, by rw [← v2]; exact z2.2.2⟩ c) (fun _ _ => bad) (fun _ => bad))
end T23
/-- sets with which it took so long -/
def hF (b : Nat → Bool) : Nat → Nat × Int32 × Int32
  | 0 => (0, -2, 0)
  | i + 1 => if b i = true then ((hF b i).1 + 1, if (hF b i).1 = 0 then nI i else (hF b i).2.1, if (hF b i).1 = 0 then nI i else (hF b i).2.2 &&& nI i) else hF b i
theorem hF_le (b : Nat → Bool) : ∀ i, (hF b i).1 ≤ i
  | 0 => Nat.le_refl 0
  | i + 1 => by
    have := hF_le b i
    unfold hF
    split
    · show (hF b i).1 + 1 ≤ i + 1; omega
    · omega
section T24
variable {X : pX}
theorem p_had {x f t n w : Int32} : Pair X 3 2 mX11_had mX12_had [.int x, .int f, .int t, .int n, .int w] := by
  intro m h Q K
  obtain ⟨hW, hC, hT, nr, P, Sg, T, N, M, d, ff, hr, hi, hf, hw, hv⟩ := Inv_open h
  have hv0 := hv
  obtain ⟨⟨⟨p3, p4, p2, p8, pT, p6⟩, ⟨q3, _, q2, _, qT, _⟩, _⟩, ⟨v1, v2, _⟩, _⟩ := hv
  have T64 := allTp T p6
  have eC : ((1 : Int32) <<< (mI m 31 4 &&& 31)) - (1 : Int32) = nI (2 ^ T - 1) := by rw [pT]; exact allT T p6
  have eM : ((1 : Int32) <<< ((mI m 536 4) &&& 31)) = nI (2 ^ T) := by rw [qT]; exact allT1 T p6
  have vT : vp_in (mI m 536 4) 7 := by rw [qT]; exact vp_in_nI (by omega) (by decide)
  have vT2 : vp_in (mI m 31 4) 7 := by rw [pT]; exact vp_in_nI (by omega) (by decide)
  by_cases c : (∃ q, q < P ∧ x = nI q) ∧ (∃ a b, a < b ∧ b ≤ Sg ∧ f = nI a ∧ t = nI b) ∧ (∃ k, 1 ≤ k ∧ k ≤ 100 ∧ n = nI k) ∧ ∃ k, k ≤ 2 ∧ w = nI k
  · obtain ⟨c1, c2, c3, c4⟩ := c
    have xC := (perC (z := 4) p3 (K := 4) rfl p4 (by decide)).mpr c1
    have xM := (perM q3 (by omega)).mpr c1
    have n2 := (inI1 (a := 100) (by decide)).mpr c3
    have w2 := (inI (a := 2) (by decide)).mpr c4
    obtain ⟨q, hq, rfl⟩ := c1
    obtain ⟨a, b, hab, hb, rfl, rfl⟩ := c2
    obtain ⟨oC, oM, eD⟩ := dis_ag (a := a) (b := b) hv0 hq (by omega) hb
    have f1 : ¬ nI a < 0 := nI_pos (by omega)
    have f2 : ¬ nI b ≤ nI a := nI_ge hab (by omega)
    have f3 : ¬ mI m 31 2 < nI b := by rw [p2]; exact nI_nlt hb (by omega)
    have f4 : ¬ mI m 536 2 < nI b := by rw [q2]; exact nI_nlt hb (by omega)
    obtain ⟨B, hB⟩ : ∃ B : Nat → Bool, ∀ i, (B i = true ↔ ¬ mI m 536 1 < pcI (nI i) ∧ dyI (mI m 540) (mI m 541 (nI q).toNatClampNeg) (wSum (mI m 542) (nI i) (mI m 536 4).toNatClampNeg) (nI a) (nI b) = n) := ⟨fun i => decide (¬ mI m 536 1 < pcI (nI i) ∧ dyI (mI m 540) (mI m 541 (nI q).toNatClampNeg) (wSum (mI m 542) (nI i) (mI m 536 4).toNatClampNeg) (nI a) (nI b) = n), fun i => by simp⟩
    obtain ⟨R, hR⟩ : ∃ R, R = hF B (2 ^ T) := ⟨_, rfl⟩
    have w012 : ¬ w = 0 → ¬ w = 1 → w = 2 := by
      intro z0 z1
      obtain ⟨k, hk, rfl⟩ := c4
      have : k = 0 ∨ k = 1 ∨ k = 2 := by omega
      rcases this with rfl | rfl | rfl
      · exact absurd rfl z0
      · exact absurd rfl z1
      · rfl
    have mod : ∀ Q2 : Option Value → pMem → Prop, (∀ m2, Inv m2 → Q2 (some (.int (if w = 0 then nI R.1 else if w = 1 then R.2.1 else R.2.2))) m2) → Cl X 2 mX12_had [.ref 535, .int (nI q), .int (nI a), .int (nI b), .int n, .int w] m Q2 := by
      intro Q2 h2
      have fin := h2 m h
      refine pCl_of (by decide +kernel) (Nat.le_of_ble_eq_true rfl) rfl (bX12_had_0 hW (fun _ z => absurd z f1) (fun _ _ z => absurd z f4) (fun _ _ _ z => absurd z f2) (fun _ _ _ _ _ _ => ?_) (fun _ _ _ _ _ z => absurd w2 z) (fun _ _ _ _ z => absurd n2 z) (fun z => absurd xM z))
      refine upTo (P := fun i => Go X 2 mX12_had Q2 67 [(0, .ref 535), (1, .int (nI q)), (2, .int (nI a)), (3, .int (nI b)), (4, .int n), (5, .int w), (6, .int (nI (hF B i).1)), (7, .int (hF B i).2.1), (8, .int (hF B i).2.2), (9, .int (nI i))] [] m) (2 ^ T) ?_ ?_ 0 (Nat.zero_le _)
      · have hz : ((1 : Int32) <<< ((mI m 536 4) &&& 31)) ≤ nI (2 ^ T) := by rw [eM]; exact Int32.le_refl _
        rw [hR] at fin
        refine bX12_had_67 hW (fun _ z1 z2 => ?_) (fun _ z1 z2 => ?_) (fun _ z1 => ?_) (fun z => absurd hz z) (fun z => absurd hz z) (fun z => absurd hz z) (fun z => absurd hz z) (fun z => absurd hz z) (fun z => absurd hz z) (fun z => absurd hz z)
        · rw [if_neg z1, if_neg z2] at fin; exact fin
        · rw [if_neg z1, if_pos z2] at fin; exact fin
        · rw [if_pos z1] at fin; exact fin
      · intro i hi ih
        have hl := hF_le B i
        have hlt : ¬ ((1 : Int32) <<< ((mI m 536 4) &&& 31)) ≤ nI i := by rw [eM]; exact nI_ge hi (by omega)
        have step : hF B (i + 1) = if B i = true then ((hF B i).1 + 1, if (hF B i).1 = 0 then nI i else (hF B i).2.1, if (hF B i).1 = 0 then nI i else (hF B i).2.2 &&& nI i) else hF B i := rfl
        have z0 : nI (hF B i).1 = 0 ↔ (hF B i).1 = 0 := nI_eq (b := 0) (by omega) (by decide)
        refine bX12_had_67 hW (fun z => absurd z hlt) (fun z => absurd z hlt) (fun z => absurd z hlt) (fun _ => ⟨i, by omega, rfl⟩) (fun _ z => ?_) (fun _ _ => vT) (fun _ _ => oM) (fun _ z1 z2 => ?_) (fun _ z1 z2 z3 => ?_) (fun _ z1 z2 z3 => ?_)
        · rw [step, if_neg (fun y => ((hB i).mp y).1 z)] at ih
          rw [nI_1]; exact ih
        · rw [step, if_neg (fun y => z2 ((hB i).mp y).2)] at ih
          rw [nI_1]; exact ih
        · have y3 : ¬ (hF B i).1 = 0 := fun y => z3 (z0.mpr y)
          rw [step, if_pos ((hB i).mpr ⟨z1, z2⟩)] at ih
          simp only [if_neg y3] at ih
          refine bX12_had_124 hW (fun _ => ?_) (fun y => absurd y z3)
          rw [nI_1, nI_1]; exact ih
        · have y3 : (hF B i).1 = 0 := z0.mp z3
          rw [step, if_pos ((hB i).mpr ⟨z1, z2⟩)] at ih
          simp only [if_pos y3] at ih
          refine bX12_had_124 hW (fun y => absurd z3 y) (fun _ => ?_)
          rw [nI_1, nI_1]; exact ih
    -- the class
    refine pCl_of (by decide +kernel) (Nat.le_of_ble_eq_true rfl) rfl (bX11_had_0 hW (fun _ z => absurd z f1) (fun _ _ z => absurd z f2) (fun _ _ _ z => absurd z f3) (fun _ _ _ _ z => absurd z n2.1) (fun _ _ _ _ _ z => absurd z n2.2) (fun _ _ _ _ _ _ z => absurd z w2.1) (fun _ _ _ _ _ _ _ _ => ?_) (fun _ _ _ _ _ _ _ z => absurd (Int32.not_lt.mp w2.2) z) (fun z => absurd xC z))
    have fin : ∀ r, r = (if w = 0 then nI R.1 else if w = 1 then R.2.1 else R.2.2) → Go X 3 mX11_had Q 78 [(0, .ref 0), (1, .int (nI q)), (2, .int (nI a)), (3, .int (nI b)), (4, .int n), (5, .int w)] [.int r] m := by
      intro r er
      refine bX11_had_78 hW ?_
      rw [er]
      exact K _ m hW (fun Q2 h2 => mod Q2 h2)
    refine pCl_of (by decide +kernel) (Nat.le_of_ble_eq_true rfl) rfl (bX3_thatTook_0 hW ?_)
    rw [eC]
    refine upTo (P := fun i => Go X 2 mX3_thatTook (fun v m2 => Go X 3 mX11_had Q 78 [(0, .ref 0), (1, .int (nI q)), (2, .int (nI a)), (3, .int (nI b)), (4, .int n), (5, .int w)] (v.toList ++ []) m2) 19 [(0, .ref 514), (1, .int (nI q)), (2, .int (nI a)), (3, .int (nI b)), (4, .int n), (5, .int w), (6, .int (nI (hF B i).1)), (7, .int (hF B i).2.1), (8, .int (if (hF B i).1 = 0 then nI (2 ^ T - 1) else (hF B i).2.2)), (9, .int (nI i))] [] m) (2 ^ T) ?_ ?_ 0 (Nat.zero_le _)
    · have hz : ((1 : Int32) <<< (mI m 31 4 &&& 31)) - (1 : Int32) < nI (2 ^ T) := by rw [eC]; exact nI_lt (by omega) (by omega)
      have hl := hF_le B (2 ^ T)
      have z0 : nI (hF B (2 ^ T)).1 = 0 ↔ (hF B (2 ^ T)).1 = 0 := nI_eq (b := 0) (by omega) (by decide)
      have k0 : ∀ i, (hF B i).1 = 0 → (hF B i).2.2 = 0 := by
        intro i
        induction i with
        | zero => intro _; rfl
        | succ i ih =>
          unfold hF
          split
          · intro y
            have y : (hF B i).1 + 1 = 0 := y
            omega
          · exact ih
      refine bX3_thatTook_19 hW (fun _ z1 z2 z3 => fin _ ?_) (fun _ z1 z2 z3 => fin _ ?_) (fun _ z1 z2 => fin _ ?_) (fun _ z1 => fin _ ?_) (fun z => absurd hz z) (fun z => absurd hz z) (fun z => absurd hz z) (fun z => absurd hz z) (fun z => absurd hz z) (fun z => absurd hz z)
      · rw [if_neg z1, if_neg z2, hR, if_neg (fun y => z3 (z0.mpr y))]
      · rw [if_neg z1, if_neg z2, hR, k0 _ (z0.mp z3)]
      · rw [if_neg z1, if_pos z2, hR]
      · rw [if_pos z1, hR]
    · intro i hi ih
      have hl := hF_le B i
      have hlt : ¬ ((1 : Int32) <<< (mI m 31 4 &&& 31)) - (1 : Int32) < nI i := by rw [eC]; exact nI_nlt (by omega) (by omega)
      have step : hF B (i + 1) = if B i = true then ((hF B i).1 + 1, if (hF B i).1 = 0 then nI i else (hF B i).2.1, if (hF B i).1 = 0 then nI i else (hF B i).2.2 &&& nI i) else hF B i := rfl
      have z0 : nI (hF B i).1 = 0 ↔ (hF B i).1 = 0 := nI_eq (b := 0) (by omega) (by decide)
      refine bX3_thatTook_19 hW (fun z => absurd z hlt) (fun z => absurd z hlt) (fun z => absurd z hlt) (fun z => absurd z hlt) (fun _ => vT2) (fun _ _ => oC) (fun _ z1 z2 => ?_) (fun _ z1 z2 z3 => ?_) (fun _ z1 z2 z3 => ?_) (fun _ z => ?_)
      · rw [eD i hi] at z2
        rw [step, if_neg (fun y => z2 ((hB i).mp y).2)] at ih
        rw [nI_1]; exact ih
      · rw [eD i hi] at z2
        have y3 : ¬ (hF B i).1 = 0 := fun y => z3 (z0.mpr y)
        rw [step, if_pos ((hB i).mpr ⟨by rw [← v2]; exact z1.2.2, z2⟩)] at ih
        simp only [if_neg y3, if_neg (Nat.succ_ne_zero _)] at ih
        rw [nI_1, nI_1, if_neg y3]; exact ih
      · rw [eD i hi] at z2
        have y3 : (hF B i).1 = 0 := z0.mp z3
        rw [step, if_pos ((hB i).mpr ⟨by rw [← v2]; exact z1.2.2, z2⟩)] at ih
        simp only [if_pos y3, if_neg (Nat.succ_ne_zero _)] at ih
        rw [nI_1, nI_1, if_pos y3, Int32.and_comm, fa_mask, Nat.mod_eq_of_lt hi]; exact ih
      · have nb : ¬ B i = true := fun y => z ⟨nI_pos (by omega), hlt, by rw [v2]; exact ((hB i).mp y).1⟩
        rw [step, if_neg nb] at ih
        rw [nI_1]; exact ih
  · have fromto : ∀ {S : Int32}, S = nI Sg → ¬ f < 0 → ¬ t ≤ f → ¬ S < t → ∃ a b, a < b ∧ b ≤ Sg ∧ f = nI a ∧ t = nI b := by
      intro S eS z1 z2 z3
      obtain ⟨a, ha, rfl⟩ := nI_of z1
      have z4 : ¬ t < 0 := fun y => z2 (Int32.le_of_lt (fa_trans y (nI_pos' ha)))
      obtain ⟨b, hb, rfl⟩ := nI_of z4
      rw [eS] at z3
      exact ⟨a, b, Nat.not_le.mp fun y => z2 (nI_le y ha), Nat.not_lt.mp fun y => z3 (nI_lt y hb), rfl, rfl⟩
    have bad : Q (some (.int (-3))) m := K _ m hW (fun Q2 h2 => pCl_of (by decide +kernel) (Nat.le_of_ble_eq_true rfl) rfl (bX12_had_0 hW (fun _ _ => h2 m h) (fun _ _ _ => h2 m h) (fun _ _ _ _ => h2 m h) (fun z1 z2 z3 z4 z5 z6 => absurd ⟨(perM q3 (by omega)).mp z1, fromto q2 z2 z4 z3, (inI1 (a := 100) (by decide)).mp z5, (inI (a := 2) (by decide)).mp z6⟩ c) (fun _ _ _ _ _ _ => h2 m h) (fun _ _ _ _ _ => h2 m h) (fun _ => h2 m h)))
    exact pCl_of (by decide +kernel) (Nat.le_of_ble_eq_true rfl) rfl (bX11_had_0 hW (fun _ _ => bad) (fun _ _ _ => bad) (fun _ _ _ _ => bad) (fun _ _ _ _ _ => bad) (fun _ _ _ _ _ _ => bad) (fun _ _ _ _ _ _ _ => bad) (fun z1 z2 z3 z4 z5 z6 z7 z8 => absurd ⟨(perC (z := 4) p3 (K := 4) rfl p4 (by decide)).mp z1, fromto p2 z2 z3 z4, (inI1 (a := 100) (by decide)).mp ⟨z5, z6⟩, (inI (a := 2) (by decide)).mp ⟨z7, Int32.not_lt.mpr z8⟩⟩ c) (fun _ _ _ _ _ _ _ _ => bad) (fun _ => bad))
end T24
