/-! ===== what one had best carry ===== -/
def loS (wv dv : Nat → Int32) (o : Option Nat) (i : Nat) : Option Nat := match o with
  | none => some i
  | some k => if wv k < wv i ∨ (wv i = wv k ∧ dv i < dv k) then some i else some k
def loF (g : Nat → Bool) (wv dv : Nat → Int32) : Nat → Option Nat
  | 0 => none
  | i + 1 => if g i = true then loS wv dv (loF g wv dv i) i else loF g wv dv i
theorem loF_lt {g : Nat → Bool} {wv dv : Nat → Int32} : ∀ {i k}, loF g wv dv i = some k → k < i := by
  intro i
  induction i with
  | zero => intro k h; cases h
  | succ i ih =>
    intro k h
    unfold loF at h
    by_cases c : g i = true
    · rw [if_pos c] at h
      cases hb : loF g wv dv i with
      | none => rw [hb] at h; cases h; omega
      | some j =>
        rw [hb] at h
        have := ih hb
        unfold loS at h
        simp only at h
        split at h
        · cases h; omega
        · cases h; omega
    · rw [if_neg c] at h
      have := ih h
      omega
def oN (x : Int32) (o : Option Nat) : Int32 := match o with
  | none => x
  | some k => nI k
def oV (v : Nat → Int32) (o : Option Nat) : Int32 := match o with
  | none => 0
  | some k => v k
def loR (w : Int32) (wv dv : Nat → Int32) (o : Option Nat) : Int32 := match o with
  | none => -2
  | some k => if w = 0 then nI k else if w = 1 then wv k else dv k
section T25
variable {X : pX}
theorem p_load {x n w : Int32} : Pair X 4 3 mX11_load mX12_load [.int x, .int n, .int w] := by
  intro m h Q K
  obtain ⟨hW, hC, hT, nr, P, Sg, T, N, M, d, ff, hr, hi, hf, hw, hv⟩ := Inv_open h
  have at_ := at_iff (x := x) hv
  have hv0 := hv
  obtain ⟨a1, a2, a3, a4, s1, s2, s3⟩ := rows_of hv
  obtain ⟨⟨⟨p3, p4, p2, p8, pT, p6⟩, ⟨q3, _, q2, _, qT, _⟩, _, _, hpl⟩, ⟨v1, v2, _⟩, _, _, _, _, _, v15, _⟩ := hv
  have T64 := allTp T p6
  have eC : ((1 : Int32) <<< (mI m 31 4 &&& 31)) - (1 : Int32) = nI (2 ^ T - 1) := by rw [pT]; exact allT T p6
  have eM : ((1 : Int32) <<< ((mI m 536 4) &&& 31)) = nI (2 ^ T) := by rw [qT]; exact allT1 T p6
  have vP : vp_in (mI m 536 3) 5 := by rw [q3]; exact vp_in_nI (by omega) (by decide)
  have vT : vp_in (mI m 536 4) 7 := by rw [qT]; exact vp_in_nI (by omega) (by decide)
  have vT2 : vp_in (mI m 31 4) 7 := by rw [pT]; exact vp_in_nI (by omega) (by decide)
  by_cases c : ((¬ x < 0 ∧ ¬ (mI m 536 3 - (1 : Int32)) < x) ∧ mI m 538 x.toNatClampNeg = 0) ∧ (∃ k, 1 ≤ k ∧ k ≤ 60 ∧ n = nI k) ∧ ∃ k, k ≤ 2 ∧ w = nI k
  · obtain ⟨c1, c2, c3⟩ := c
    have cC := at_.mpr c1
    have n2 := (inI1 (a := 60) (by decide)).mpr c2
    have w2 := (inI (a := 2) (by decide)).mpr c3
    obtain ⟨q, hq, rfl, _⟩ := (atM q3 p4).mp c1
    have eq : (nI q).toNatClampNeg = q := nI_clamp (by omega)
    have vq : vp_in (nI q) 4 := vp_in_nI (by omega) (by decide)
    obtain ⟨oC, oM, eD⟩ := home_ag hv0 hq
    obtain ⟨p, hp, ep⟩ := hpl q hq
    have ep2 : mI m 537 q = nI p := (s1 q (by omega)).symm.trans ep
    obtain ⟨wv, hwv⟩ : ∃ f : Nat → Int32, f = fun i => wSum (mI m 35) (nI i) 6 := ⟨_, rfl⟩
    obtain ⟨dv, hdv⟩ : ∃ f : Nat → Int32, f = fun i => dyI (mI m 32) (mI m 33 (nI q).toNatClampNeg) (wSum (mI m 34) (nI i) 6) (mI m 38 (nI q).toNatClampNeg) (mI m 31 2) := ⟨_, rfl⟩
    have ewC : ∀ i, wSum (mI m 35) (nI i) 6 = wv i := fun i => by rw [hwv]
    have edC : ∀ i, dyI (mI m 32) (mI m 33 (nI q).toNatClampNeg) (wSum (mI m 34) (nI i) 6) (mI m 38 (nI q).toNatClampNeg) (mI m 31 2) = dv i := fun i => by rw [hdv]
    have ewM : ∀ i, i < 2 ^ T → wSum (mI m 543) (nI i) (mI m 536 4).toNatClampNeg = wv i := fun i hi2 => by rw [← ewC, qT, nI_clamp (by omega)]; exact (wS_ag a4 p6 hi2).symm
    have edM : ∀ i, i < 2 ^ T → dyI (mI m 540) (mI m 541 (nI q).toNatClampNeg) (wSum (mI m 542) (nI i) (mI m 536 4).toNatClampNeg) (mI m 537 (nI q).toNatClampNeg) (mI m 536 2) = dv i := fun i hi2 => by rw [← edC]; exact (eD i hi2).symm
    have bd : ∀ i, i < 2 ^ T → ∃ k, k ≤ 300 ∧ wv i = nI k := fun i hi2 => by
      rw [← ewM i hi2, qT, nI_clamp (by omega)]
      obtain ⟨k, hk, ek⟩ := wS_bd (f := mI m 543) (T := T) (fun t ht => by obtain ⟨y, y1, _, y3⟩ := v15 t ht; exact ⟨y, y1, y3⟩) (nI i) T (Nat.le_refl T)
      exact ⟨k, by omega, ek⟩
    obtain ⟨rc, hrc⟩ : ∃ rc, rc = tAt (mI m 40) (nI q) 6 ||| tAt (mI m 40) ((10 : Int32) + mI m 38 (nI q).toNatClampNeg) 6 := ⟨_, rfl⟩
    have hrm : tAt (mI m 539) (nI q) (mI m 536 4).toNatClampNeg ||| tAt (mI m 539) ((10 : Int32) + (mI m 537 (nI q).toNatClampNeg)) (mI m 536 4).toNatClampNeg = rc := by
      rw [hrc, qT, nI_clamp (show T < 2 ^ 31 by omega), eq, ep, ep2, tAt_ag s3 (nI_neM (by omega)) p6, tAt_ag s3 (lie_neM p (by omega)) p6]
    obtain ⟨g, hg⟩ : ∃ g : Nat → Bool, ∀ i, (g i = true ↔ (nI i &&& (rc ^^^ (-1 : Int32))) = 0 ∧ ¬ mI m 536 1 < pcI (nI i) ∧ ¬ n < dv i) := ⟨fun i => decide ((nI i &&& (rc ^^^ (-1 : Int32))) = 0 ∧ ¬ mI m 536 1 < pcI (nI i) ∧ ¬ n < dv i), fun i => by simp⟩
    obtain ⟨R, hR⟩ : ∃ R, R = loF g wv dv (2 ^ T) := ⟨_, rfl⟩
    have w012 : ¬ w = 0 → ¬ w = 1 → w = 2 := by
      intro z0 z1
      obtain ⟨k, hk, rfl⟩ := c3
      have : k = 0 ∨ k = 1 ∨ k = 2 := by omega
      rcases this with rfl | rfl | rfl
      · exact absurd rfl z0
      · exact absurd rfl z1
      · rfl
    have mod : ∀ Q2 : Option Value → pMem → Prop, (∀ m2, Inv m2 → Q2 (some (.int (loR w wv dv R))) m2) → Cl X 3 mX12_load [.ref 535, .int (nI q), .int n, .int w] m Q2 := by
      intro Q2 h2
      have fin := h2 m h
      refine pCl_of (by decide +kernel) (Nat.le_of_ble_eq_true rfl) rfl (bX12_load_0 hW vP (fun _ _ _ => vT) (fun _ _ _ => vq) (fun _ _ _ => ?_) (fun _ _ z => absurd w2 z) (fun _ z => absurd n2 z) (fun z => absurd c1 z))
      rw [hrm]
      refine upTo (P := fun i => Go X 3 mX12_load Q2 62 [(0, .ref 535), (1, .int (nI q)), (2, .int n), (3, .int w), (4, .int rc), (5, .int (oN (-2) (loF g wv dv i))), (6, .int (nI i))] [] m) (2 ^ T) ?_ ?_ 0 (Nat.zero_le _)
      · have hz : ((1 : Int32) <<< ((mI m 536 4) &&& 31)) ≤ nI (2 ^ T) := by rw [eM]; exact Int32.le_refl _
        cases hb : loF g wv dv (2 ^ T) with
        | none =>
          rw [hR, hb] at fin
          exact bX12_load_62 hW (fun _ _ => fin) (fun _ z => absurd rfl z) (fun _ z => absurd rfl z) (fun _ z => absurd rfl z) (fun _ z => absurd rfl z) (fun _ z => absurd rfl z) (fun _ z => absurd rfl z) (fun z => absurd hz z) (fun z => absurd hz z) (fun z => absurd hz z) (fun z => absurd hz z) (fun z => absurd hz z) (fun z => absurd hz z) (fun z => absurd hz z) (fun z => absurd hz z) (fun z => absurd hz z)
        | some k =>
          rw [hR, hb] at fin
          have fin : Q2 (some (.int (if w = 0 then nI k else if w = 1 then wv k else dv k))) m := fin
          have hk := loF_lt hb
          have ne : ¬ nI k = (-2 : Int32) := by
            have : ∀ k, k < 64 → ¬ nI k = (-2 : Int32) := by decide +kernel
            exact this k (by omega)
          refine bX12_load_62 hW (fun _ z => absurd z ne) (fun _ _ _ _ => vT) (fun _ _ _ _ => oM) (fun _ _ z1 z2 => ?_) (fun _ _ _ _ => vT) (fun _ _ z1 z2 => ?_) (fun _ _ z1 => ?_) (fun z => absurd hz z) (fun z => absurd hz z) (fun z => absurd hz z) (fun z => absurd hz z) (fun z => absurd hz z) (fun z => absurd hz z) (fun z => absurd hz z) (fun z => absurd hz z) (fun z => absurd hz z)
          · simp only [if_neg z1, if_neg z2] at fin
            rw [← edM k hk] at fin; exact fin
          · simp only [if_neg z1, if_pos z2] at fin
            rw [← ewM k hk] at fin; exact fin
          · simp only [if_pos z1] at fin
            exact fin
      · intro i hi2 ih
        have hlt : ¬ ((1 : Int32) <<< ((mI m 536 4) &&& 31)) ≤ nI i := by rw [eM]; exact nI_ge hi2 (by omega)
        have step : loF g wv dv (i + 1) = if g i = true then loS wv dv (loF g wv dv i) i else loF g wv dv i := rfl
        have skip : loF g wv dv (i + 1) = loF g wv dv i → Go X 3 mX12_load Q2 62 [(0, .ref 535), (1, .int (nI q)), (2, .int n), (3, .int w), (4, .int rc), (5, .int (oN (-2) (loF g wv dv i))), (6, .int (nI i + (1 : Int32)))] [] m := fun e => by rw [e] at ih; rw [nI_1]; exact ih
        have take : loF g wv dv (i + 1) = some i → Go X 3 mX12_load Q2 62 [(0, .ref 535), (1, .int (nI q)), (2, .int n), (3, .int w), (4, .int rc), (5, .int (nI i)), (6, .int (nI i + (1 : Int32)))] [] m := fun e => by rw [e] at ih; rw [nI_1]; exact ih
        have no : ¬ g i = true → loF g wv dv (i + 1) = loF g wv dv i := fun y => by rw [step, if_neg y]
        refine bX12_load_62 hW (fun z => absurd z hlt) (fun z => absurd z hlt) (fun z => absurd z hlt) (fun z => absurd z hlt) (fun z => absurd z hlt) (fun z => absurd z hlt) (fun z => absurd z hlt) (fun _ z => ?_) (fun _ _ => ⟨i, by omega, rfl⟩) (fun _ z1 z2 => ?_) (fun _ _ _ => vT) (fun _ _ _ => oM) (fun _ z1 z2 z3 => ?_) (fun _ _ _ _ _ => vT) (fun _ z1 z2 z3 z4 => ?_) (fun _ z1 z2 z3 z4 => ?_)
        · exact skip (no (fun y => z ((hg i).mp y).1))
        · exact skip (no (fun y => ((hg i).mp y).2.1 z2))
        · rw [edM i hi2] at z3
          exact skip (no (fun y => ((hg i).mp y).2.2 z3))
        · rw [edM i hi2] at z3
          have gi := (hg i).mpr ⟨z1, z2, z3⟩
          cases hb : loF g wv dv i with
          | none => rw [hb] at z4; exact absurd rfl z4
          | some k =>
            rw [hb] at skip
            have hk := loF_lt hb
            obtain ⟨ai, ai1, ai2⟩ := bd i hi2
            obtain ⟨ak, ak1, ak2⟩ := bd k (by omega)
            have sg := sub_gt (i := ai) (j := ak) (by omega) (by omega)
            rw [← ai2, ← ak2] at sg
            have st2 : loF g wv dv (i + 1) = if wv k < wv i ∨ (wv i = wv k ∧ dv i < dv k) then some i else some k := by rw [step, if_pos gi, hb]; rfl
            show Go X 3 mX12_load Q2 134 [(0, .ref 535), (1, .int (nI q)), (2, .int n), (3, .int w), (4, .int rc), (5, .int (nI k)), (6, .int (nI i))] [.int ((wSum (mI m 543) (nI i) (mI m 536 4).toNatClampNeg) - (wSum (mI m 543) (nI k) (mI m 536 4).toNatClampNeg))] m
            rw [ewM i hi2, ewM k (by omega)]
            refine bX12_load_134 hW (fun y => ?_) (fun y1 y2 => ?_) (fun _ _ => vT) (fun _ _ => oM) (fun y1 y2 y3 => ?_) (fun y1 y2 y3 => ?_)
            · exact take (by rw [st2, if_pos (Or.inl (sg.1.mp y))])
            · exact skip (by rw [st2, if_neg (fun u => u.elim (fun u => y1 (sg.1.mpr u)) (fun u => y2 (sg.2.mpr u.1)))])
            · rw [edM i hi2, edM k (by omega)] at y3
              exact skip (by rw [st2, if_neg (fun u => u.elim (fun u => y1 (sg.1.mpr u)) (fun u => Int32.not_lt.mpr y3 u.2))])
            · rw [edM i hi2, edM k (by omega)] at y3
              exact take (by rw [st2, if_pos (Or.inr ⟨sg.2.mp y2, Int32.not_le.mp y3⟩)])
        · rw [edM i hi2] at z3
          have gi := (hg i).mpr ⟨z1, z2, z3⟩
          cases hb : loF g wv dv i with
          | none => exact bX12_load_134v1 hW (take (by rw [step, if_pos gi, hb]; rfl))
          | some k =>
            rw [hb] at z4
            have hk := loF_lt hb
            have : ∀ k, k < 64 → ¬ nI k = (-2 : Int32) := by decide +kernel
            exact absurd z4 (this k (by omega))
    -- the class
    refine pCl_of (by decide +kernel) (Nat.le_of_ble_eq_true rfl) rfl (bX11_load_0 hW (fun _ z => absurd z n2.1) (fun _ _ z => absurd z n2.2) (fun _ _ _ z => absurd z w2.1) (fun _ _ _ _ _ => ?_) (fun _ _ _ _ z => absurd (Int32.not_lt.mp w2.2) z) (fun z => absurd cC z))
    refine pCl_of (by decide +kernel) (Nat.le_of_ble_eq_true rfl) rfl (bX3_bestLoad_0 hW vq ?_)
    rw [← hrc]
    have fin := K _ m hW (fun Q2 h2 => mod Q2 h2)
    refine upTo (P := fun i => Go X 3 mX3_bestLoad (fun v m2 => Go X 4 mX11_load Q 39 [(0, .ref 0), (1, .int (nI q)), (2, .int n), (3, .int w)] (v.toList ++ []) m2) 30 [(0, .ref 514), (1, .int (nI q)), (2, .int n), (3, .int rc), (4, .int (oN (-1) (loF g wv dv i))), (5, .int (oV wv (loF g wv dv i))), (6, .int (oV dv (loF g wv dv i))), (7, .int (nI i))] [] m) (2 ^ T) ?_ ?_ 0 (Nat.zero_le _)
    · have hz : ((1 : Int32) <<< (mI m 31 4 &&& 31)) - (1 : Int32) < nI (2 ^ T) := by rw [eC]; exact nI_lt (by omega) (by omega)
      refine bX3_bestLoad_30 hW (fun _ => ?_) (fun z => absurd hz z) (fun z => absurd hz z) (fun z => absurd hz z) (fun z => absurd hz z) (fun z => absurd hz z) (fun z => absurd hz z) (fun z => absurd hz z) (fun z => absurd hz z) (fun z => absurd hz z)
      cases hb : loF g wv dv (2 ^ T) with
      | none =>
        rw [hR, hb] at fin
        exact bX11_load_39 hW (fun z => absurd rfl z) (fun z => absurd rfl z) (fun z => absurd rfl z) (fun z => absurd rfl z) (fun _ => fin)
      | some k =>
        rw [hR, hb] at fin
        have fin : Q (some (.int (if w = 0 then nI k else if w = 1 then wv k else dv k))) m := fin
        have hk := loF_lt hb
        refine bX11_load_39 hW (fun _ z1 => ?_) (fun _ z1 z2 => ?_) (fun _ _ _ => oC) (fun _ z1 z2 => ?_) (fun z => absurd z (nI_neM (by omega)))
        · simp only [if_pos z1] at fin; exact fin
        · simp only [if_neg z1, if_pos z2] at fin
          rw [← ewC] at fin; exact fin
        · simp only [if_neg z1, if_neg z2] at fin
          rw [← edC] at fin; exact fin
    · intro i hi2 ih
      have hlt : ¬ ((1 : Int32) <<< (mI m 31 4 &&& 31)) - (1 : Int32) < nI i := by rw [eC]; exact nI_nlt (by omega) (by omega)
      have step : loF g wv dv (i + 1) = if g i = true then loS wv dv (loF g wv dv i) i else loF g wv dv i := rfl
      have no : ¬ g i = true → loF g wv dv (i + 1) = loF g wv dv i := fun y => by rw [step, if_neg y]
      cases hb : loF g wv dv i with
      | none =>
        rw [hb] at no step
        have skip : loF g wv dv (i + 1) = none → Go X 3 mX3_bestLoad (fun v m2 => Go X 4 mX11_load Q 39 [(0, .ref 0), (1, .int (nI q)), (2, .int n), (3, .int w)] (v.toList ++ []) m2) 30 [(0, .ref 514), (1, .int (nI q)), (2, .int n), (3, .int rc), (4, .int (-1 : Int32)), (5, .int (0 : Int32)), (6, .int (0 : Int32)), (7, .int (nI i + (1 : Int32)))] [] m := fun e => by rw [e] at ih; rw [nI_1]; exact ih
        have take : loF g wv dv (i + 1) = some i → Go X 3 mX3_bestLoad (fun v m2 => Go X 4 mX11_load Q 39 [(0, .ref 0), (1, .int (nI q)), (2, .int n), (3, .int w)] (v.toList ++ []) m2) 30 [(0, .ref 514), (1, .int (nI q)), (2, .int n), (3, .int rc), (4, .int (nI i)), (5, .int (wv i)), (6, .int (dv i)), (7, .int (nI i + (1 : Int32)))] [] m := fun e => by rw [e] at ih; rw [nI_1]; exact ih
        refine bX3_bestLoad_30 hW (fun z => absurd z hlt) (fun _ z => skip (no (fun y => z ((hg i).mp y).1))) (fun _ _ => vT2) (fun _ _ _ => oC) (fun _ z1 z2 _ => ?_) (fun _ _ _ z => absurd rfl z) (fun _ _ _ z => absurd rfl z) (fun _ _ _ z => absurd rfl z) (fun _ _ _ z => absurd rfl z) (fun _ _ z => skip (no (fun y => z ⟨nI_pos (by omega), hlt, by rw [v2]; exact ((hg i).mp y).2.1⟩)))
        rw [ewC, edC]
        refine bX3_bestLoad_107 hW (bX3_bestLoad_112 hW (fun z => skip (no (fun y => ((hg i).mp y).2.2 z))) (fun z => take ?_))
        rw [step, if_pos ((hg i).mpr ⟨z1, by rw [← v2]; exact z2.2.2, z⟩)]; rfl
      | some k =>
        rw [hb] at no step
        have hk := loF_lt hb
        have skip : loF g wv dv (i + 1) = some k → Go X 3 mX3_bestLoad (fun v m2 => Go X 4 mX11_load Q 39 [(0, .ref 0), (1, .int (nI q)), (2, .int n), (3, .int w)] (v.toList ++ []) m2) 30 [(0, .ref 514), (1, .int (nI q)), (2, .int n), (3, .int rc), (4, .int (nI k)), (5, .int (wv k)), (6, .int (dv k)), (7, .int (nI i + (1 : Int32)))] [] m := fun e => by rw [e] at ih; rw [nI_1]; exact ih
        have take : loF g wv dv (i + 1) = some i → Go X 3 mX3_bestLoad (fun v m2 => Go X 4 mX11_load Q 39 [(0, .ref 0), (1, .int (nI q)), (2, .int n), (3, .int w)] (v.toList ++ []) m2) 30 [(0, .ref 514), (1, .int (nI q)), (2, .int n), (3, .int rc), (4, .int (nI i)), (5, .int (wv i)), (6, .int (dv i)), (7, .int (nI i + (1 : Int32)))] [] m := fun e => by rw [e] at ih; rw [nI_1]; exact ih
        have yes : (nI i &&& (rc ^^^ (-1 : Int32))) = 0 → ¬ mI m 31 1 < pcI (nI i) → (wv k < wv i ∨ (wv i = wv k ∧ dv i < dv k)) → Go X 3 mX3_bestLoad (fun v m2 => Go X 4 mX11_load Q 39 [(0, .ref 0), (1, .int (nI q)), (2, .int n), (3, .int w)] (v.toList ++ []) m2) 107 [(0, .ref 514), (1, .int (nI q)), (2, .int n), (3, .int rc), (4, .int (nI k)), (5, .int (wv k)), (6, .int (dv k)), (7, .int (nI i)), (8, .int (wv i)), (9, .int (dv i))] [] m := fun z1 z2 z3 =>
          bX3_bestLoad_107 hW (bX3_bestLoad_112 hW (fun z => skip (no (fun y => ((hg i).mp y).2.2 z))) (fun z => take (by rw [step, if_pos ((hg i).mpr ⟨z1, by rw [← v2]; exact z2, z⟩)]; exact if_pos z3)))
        have nay : ¬ (wv k < wv i ∨ (wv i = wv k ∧ dv i < dv k)) → Go X 3 mX3_bestLoad (fun v m2 => Go X 4 mX11_load Q 39 [(0, .ref 0), (1, .int (nI q)), (2, .int n), (3, .int w)] (v.toList ++ []) m2) 111 [(0, .ref 514), (1, .int (nI q)), (2, .int n), (3, .int rc), (4, .int (nI k)), (5, .int (wv k)), (6, .int (dv k)), (7, .int (nI i)), (8, .int (wv i)), (9, .int (dv i))] [] m := fun z3 => by
          have e : loF g wv dv (i + 1) = some k := by
            rw [step]
            by_cases gi : g i = true
            · rw [if_pos gi]; exact if_neg z3
            · rw [if_neg gi]
          exact bX3_bestLoad_111 hW (bX3_bestLoad_112v1 hW (fun _ => skip e) (fun _ => skip e))
        refine bX3_bestLoad_30 hW (fun z => absurd z hlt) (fun _ z => skip (no (fun y => z ((hg i).mp y).1))) (fun _ _ => vT2) (fun _ _ _ => oC) (fun _ _ _ z => absurd z (nI_neM (by omega))) (fun _ z1 z2 _ z3 => ?_) (fun _ z1 z2 _ z3 z4 => ?_) (fun _ z1 z2 _ z3 z4 z5 => ?_) (fun _ z1 z2 _ z3 z4 z5 => ?_) (fun _ _ z => skip (no (fun y => z ⟨nI_pos (by omega), hlt, by rw [v2]; exact ((hg i).mp y).2.1⟩)))
        · rw [ewC] at z3
          rw [ewC, edC]
          exact yes z1 z2.2.2 (Or.inl z3)
        · rw [ewC] at z3 z4
          rw [ewC, edC]
          exact nay (fun u => u.elim z3 (fun u => z4 u.1))
        · rw [ewC] at z3 z4
          rw [edC] at z5
          rw [ewC, edC]
          exact nay (fun u => u.elim z3 (fun u => Int32.not_lt.mpr z5 u.2))
        · rw [ewC] at z3 z4
          rw [edC] at z5
          rw [ewC, edC]
          exact yes z1 z2.2.2 (Or.inr ⟨z4, Int32.not_le.mp z5⟩)
  · have sm : ¬ (((1 : Int32) <<< ((mI m 536 4) &&& 31)) ≤ (0 : Int32)) → sm64 (0 : Int32) := fun _ => ⟨0, by decide, rfl⟩
    have bad : Q (some (.int (-1))) m := K _ m hW (fun Q2 h2 => pCl_of (by decide +kernel) (Nat.le_of_ble_eq_true rfl) rfl (bX12_load_0 hW vP (fun _ _ _ => vT) (fun z1 z2 z3 => absurd ⟨z1, (inI1 (a := 60) (by decide)).mp z2, (inI (a := 2) (by decide)).mp z3⟩ c) (fun z1 z2 z3 => absurd ⟨z1, (inI1 (a := 60) (by decide)).mp z2, (inI (a := 2) (by decide)).mp z3⟩ c) (fun _ _ _ => h2 m h) (fun _ _ => h2 m h) (fun _ => h2 m h)))
    exact pCl_of (by decide +kernel) (Nat.le_of_ble_eq_true rfl) rfl (bX11_load_0 hW (fun _ _ => bad) (fun _ _ _ => bad) (fun _ _ _ _ => bad) (fun z1 z2 z3 z4 z5 => absurd ⟨at_.mp z1, (inI1 (a := 60) (by decide)).mp ⟨z2, z3⟩, (inI (a := 2) (by decide)).mp ⟨z4, Int32.not_lt.mpr z5⟩⟩ c) (fun _ _ _ _ _ => bad) (fun _ => bad))
end T25
