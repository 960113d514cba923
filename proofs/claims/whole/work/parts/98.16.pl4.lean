/-! ===== what two had best exchange; pence ===== -/
theorem nI_xor (a b : Nat) : nI a ^^^ nI b = nI (a ^^^ b) := by
  apply Int32.toBitVec_inj.1
  show BitVec.ofNat 32 a ^^^ BitVec.ofNat 32 b = BitVec.ofNat 32 (a ^^^ b)
  apply BitVec.eq_of_getLsbD_eq
  intro i hi
  simp [hi]
theorem bit_hi {k t : Nat} (h : k < 2 ^ t) (ht : t < 6) (hk : k < 64) : ¬ ((nI k >>> (nI t &&& 31)) &&& (1 : Int32)) = (1 : Int32) := by
  rw [bit_nI k hk t ht, Nat.div_eq_of_lt h]; decide
def exF (g : Nat → Bool) (V : Int32 → Int32) : Nat → Int32
  | 0 => -1
  | p + 1 => if g p = true ∧ V (nI p) < V (exF g V p) then nI p else exF g V p
theorem exF_in {g : Nat → Bool} {V : Int32 → Int32} : ∀ p, exF g V p = -1 ∨ ∃ k, k < p ∧ exF g V p = nI k
  | 0 => Or.inl rfl
  | p + 1 => by
    unfold exF
    split
    · exact Or.inr ⟨p, by omega, rfl⟩
    · exact (exF_in p).imp id (fun ⟨k, h1, h2⟩ => ⟨k, by omega, h2⟩)
theorem exF_skip {g : Nat → Bool} {V : Int32 → Int32} {a : Nat} : ∀ b, a ≤ b → (∀ p, a ≤ p → p < b → ¬ g p = true) → exF g V a = exF g V b
  | 0, h, _ => by rw [show a = 0 by omega]
  | b + 1, h, hg => by
    by_cases e : a = b + 1
    · rw [e]
    · have e1 : exF g V (b + 1) = if g b = true ∧ V (nI b) < V (exF g V b) then nI b else exF g V b := rfl
      rw [e1, if_neg (fun z => hg b (by omega) (by omega) z.1)]
      exact exF_skip b (by omega) (fun p h1 h2 => hg p h1 (by omega))
def oneI (b : Int32) : Int32 := if b = (-1 : Int32) then -1 else b / (6 : Int32)
def othI (b : Int32) : Int32 := if b = (-1 : Int32) then -1 else b - b / (6 : Int32) * (6 : Int32)
theorem div6 {i k : Nat} (hi : i < 6) (hk : k < 6) : nI (6 * i + k) / (6 : Int32) = nI i ∧ nI (6 * i + k) - nI (6 * i + k) / (6 : Int32) * (6 : Int32) = nI k := by
  refine ⟨?_, ?_⟩
  · rw [show (6 : Int32) = nI 6 from rfl, pk_div (by omega) (by omega) (by omega), show (6 * i + k) / 6 = i by omega]
  · rw [show (6 : Int32) = nI 6 from rfl, pk_rem (by omega) (by omega) (by omega), show (6 * i + k) % 6 = k by omega]
section T26
variable {X : pX}
theorem p_exchange {x y w : Int32} : Pair X 5 4 mX11_exchange mX12_exchange [.int x, .int y, .int w] := by
  intro m h Q K
  obtain ⟨hW, hC, hT, nr, P, Sg, T, N, M, d, ff, hr, hi, hf, hw, hv⟩ := Inv_open h
  have tog := tog_iff (x := x) (y := y) hv
  have hv0 := hv
  obtain ⟨a1, a2, a3, a4, s1, s2, s3⟩ := rows_of hv
  obtain ⟨⟨⟨p3, p4, p2, p8, pT, p6⟩, ⟨q3, _, q2, _, qT, _⟩, _, _, hpl⟩, ⟨v1, v2, _⟩, _, _, _, _, _, v15, _⟩ := hv
  have T64 := allTp T p6
  have vP : vp_in (mI m 536 3) 5 := by rw [q3]; exact vp_in_nI (by omega) (by decide)
  have vT : vp_in (mI m 536 4) 7 := by rw [qT]; exact vp_in_nI (by omega) (by decide)
  have eTc : (mI m 536 4).toNatClampNeg = T := by rw [qT]; exact nI_clamp (by omega)
  by_cases c : (((¬ x < 0 ∧ ¬ (mI m 536 3 - (1 : Int32)) < x) ∧ mI m 538 x.toNatClampNeg = 0) ∧ ((¬ y < 0 ∧ ¬ (mI m 536 3 - (1 : Int32)) < y) ∧ mI m 538 y.toNatClampNeg = 0) ∧ ¬ x = y ∧ mI m 537 x.toNatClampNeg = mI m 537 y.toNatClampNeg) ∧ ∃ k, k ≤ 2 ∧ w = nI k
  · obtain ⟨c1, c3⟩ := c
    have cC := tog.mpr c1
    have w2 := (inI (a := 2) (by decide)).mpr c3
    obtain ⟨qx, hqx, rfl, _⟩ := (atM q3 p4).mp c1.1
    obtain ⟨qy, hqy, rfl, _⟩ := (atM q3 p4).mp c1.2.1
    obtain ⟨oCx, oMx, eDx⟩ := home_ag hv0 hqx
    obtain ⟨oCy, oMy, eDy⟩ := home_ag hv0 hqy
    -- what they have
    obtain ⟨o, ho, eo⟩ : ∃ o, o < 2 ^ T ∧ tAt (mI m 539) (nI qx) T = nI o := ⟨_, tN_lt _ _ T, tAt_eq _ _ T (by omega)⟩
    obtain ⟨e, he, ee⟩ : ∃ o, o < 2 ^ T ∧ tAt (mI m 539) (nI qy) T = nI o := ⟨_, tN_lt _ _ T, tAt_eq _ _ T (by omega)⟩
    have eoC : tAt (mI m 40) (nI qx) 6 = nI o := (tAt_ag s3 (nI_neM (by omega)) p6).trans eo
    have eeC : tAt (mI m 40) (nI qy) 6 = nI e := (tAt_ag s3 (nI_neM (by omega)) p6).trans ee
    obtain ⟨V, hV⟩ : ∃ V : Int32 → Int32, V = fun p => boD (mI m 32) (mI m 33) (mI m 34) (mI m 38) (mI m 40) (mI m 31 2) (nI qx) (nI qy) p := ⟨_, rfl⟩
    have eVC : ∀ p, boD (mI m 32) (mI m 33) (mI m 34) (mI m 38) (mI m 40) (mI m 31 2) (nI qx) (nI qy) p = V p := fun p => by rw [hV]
    -- the model's days
    have eVM : ∀ p j1 j2, swI p ^^^ nI o = nI j1 → swI p ^^^ nI e = nI j2 → j1 < 2 ^ T → j2 < 2 ^ T → dyI (mI m 540) (mI m 541 (nI qx).toNatClampNeg) (wSum (mI m 542) (nI j1) (mI m 536 4).toNatClampNeg) (mI m 537 (nI qx).toNatClampNeg) (mI m 536 2) + dyI (mI m 540) (mI m 541 (nI qy).toNatClampNeg) (wSum (mI m 542) (nI j2) (mI m 536 4).toNatClampNeg) (mI m 537 (nI qy).toNatClampNeg) (mI m 536 2) = V p := by
      intro p j1 j2 h1 h2 h3 h4
      rw [← eDx j1 h3, ← eDy j2 h4, ← eVC, boD, eoC, eeC, Int32.xor_comm (nI o), Int32.xor_comm (nI e), h1, h2]
    obtain ⟨g, hg⟩ : ∃ g : Nat → Bool, ∀ p, (g p = true ↔ ((nI o >>> (nI (p / 6) &&& 31)) &&& (1 : Int32)) = (1 : Int32) ∧ ((nI e >>> (nI (p % 6) &&& 31)) &&& (1 : Int32)) = (1 : Int32)) := ⟨fun p => decide (((nI o >>> (nI (p / 6) &&& 31)) &&& (1 : Int32)) = (1 : Int32) ∧ ((nI e >>> (nI (p % 6) &&& 31)) &&& (1 : Int32)) = (1 : Int32)), fun i => by simp⟩
    obtain ⟨R, hR⟩ : ∃ R, R = exF g V 36 := ⟨_, rfl⟩
    have mod : ∀ Q2 : Option Value → pMem → Prop, (∀ m2, Inv m2 → Q2 (some (.int (if w = 0 then V R else if w = 1 then oneI R else othI R))) m2) → Cl X 4 mX12_exchange [.ref 535, .int (nI qx), .int (nI qy), .int w] m Q2 := by
      intro Q2 h2
      have fin := h2 m h
      refine pCl_of (by decide +kernel) (Nat.le_of_ble_eq_true rfl) rfl (bX12_exchange_0 hW vP (fun _ _ => vT) (fun _ _ => oMx) (fun _ _ => oMy) (fun _ _ => ?_) (fun _ z => absurd w2 z) (fun z => absurd c1 z))
      rw [eTc, eo, ee, ← eTc, eVM (-1) o e (by show (0 : Int32) ^^^ nI o = nI o; exact Int32.zero_xor) (by show (0 : Int32) ^^^ nI e = nI e; exact Int32.zero_xor) ho he]
      refine upTo (P := fun i => Go X 4 mX12_exchange Q2 64 [(0, .ref 535), (1, .int (nI qx)), (2, .int (nI qy)), (3, .int w), (4, .int (nI o)), (5, .int (nI e)), (6, .int (V (exF g V (6 * i)))), (7, .int (oneI (exF g V (6 * i)))), (8, .int (othI (exF g V (6 * i)))), (9, .int (nI i))] [] m) T ?_ ?_ 0 (Nat.zero_le _)
      · have hz : mI m 536 4 ≤ nI T := by rw [qT]; exact Int32.le_refl _
        have e36 : exF g V (6 * T) = R := by
          rw [hR]
          refine exF_skip 36 (by omega) (fun p h1 h3 z => ?_)
          have zz := ((hg p).mp z).1
          have hp : p / 6 < 6 := by omega
          refine bit_hi (t := p / 6) (Nat.lt_of_lt_of_le ho (Nat.pow_le_pow_right (n := 2) (by decide) (by omega))) hp (by omega) zz
        rw [e36]
        refine bX12_exchange_64 hW (fun _ z1 z2 => ?_) (fun _ z1 z2 => ?_) (fun _ z1 => ?_) (fun z => absurd hz z)
        · rw [if_neg z1, if_neg z2] at fin; exact fin
        · rw [if_neg z1, if_pos z2] at fin; exact fin
        · rw [if_pos z1] at fin; exact fin
      · intro i hi2 ih
        have hlt : ¬ mI m 536 4 ≤ nI i := by rw [qT]; exact nI_ge hi2 (by omega)
        refine bX12_exchange_64 hW (fun z => absurd z hlt) (fun z => absurd z hlt) (fun z => absurd z hlt) (fun _ => ?_)
        refine upTo (P := fun k => Go X 4 mX12_exchange Q2 78 [(0, .ref 535), (1, .int (nI qx)), (2, .int (nI qy)), (3, .int w), (4, .int (nI o)), (5, .int (nI e)), (6, .int (V (exF g V (6 * i + k)))), (7, .int (oneI (exF g V (6 * i + k)))), (8, .int (othI (exF g V (6 * i + k)))), (9, .int (nI i)), (10, .int (nI k))] [] m) T ?_ ?_ 0 (Nat.zero_le _)
        · have hz : mI m 536 4 ≤ nI T := by rw [qT]; exact Int32.le_refl _
          have en : exF g V (6 * i + T) = exF g V (6 * (i + 1)) := by
            refine exF_skip (6 * (i + 1)) (by omega) (fun p h1 h3 z => ?_)
            have zz := ((hg p).mp z).2
            refine bit_hi (t := p % 6) (Nat.lt_of_lt_of_le he (Nat.pow_le_pow_right (n := 2) (by decide) (by omega))) (by omega) (by omega) zz
          rw [en]
          refine bX12_exchange_78 hW (fun _ => ?_) (fun z => absurd hz z) (fun z => absurd hz z) (fun z => absurd hz z) (fun z => absurd hz z) (fun z => absurd hz z) (fun z => absurd hz z) (fun z => absurd hz z)
          rw [nI_1]; exact ih
        · intro k hk ih2
          have hltk : ¬ mI m 536 4 ≤ nI k := by rw [qT]; exact nI_ge hk (by omega)
          obtain ⟨d1, d2⟩ := div6 (i := i) (k := k) (by omega) (by omega)
          have gk : g (6 * i + k) = true ↔ ((nI o >>> (nI i &&& 31)) &&& (1 : Int32)) = (1 : Int32) ∧ ((nI e >>> (nI k &&& 31)) &&& (1 : Int32)) = (1 : Int32) := by
            rw [hg, show (6 * i + k) / 6 = i by omega, show (6 * i + k) % 6 = k by omega]
          have step : exF g V (6 * i + k + 1) = if g (6 * i + k) = true ∧ V (nI (6 * i + k)) < V (exF g V (6 * i + k)) then nI (6 * i + k) else exF g V (6 * i + k) := rfl
          have ih3 : Go X 4 mX12_exchange Q2 78 [(0, .ref 535), (1, .int (nI qx)), (2, .int (nI qy)), (3, .int w), (4, .int (nI o)), (5, .int (nI e)), (6, .int (V (exF g V (6 * i + k + 1)))), (7, .int (oneI (exF g V (6 * i + k + 1)))), (8, .int (othI (exF g V (6 * i + k + 1)))), (9, .int (nI i)), (10, .int (nI (k + 1)))] [] m := ih2
          have swe : swI (nI (6 * i + k)) = nI (2 ^ i ||| 2 ^ k) := by
            unfold swI
            rw [if_neg (nI_neM (by omega)), d2, d1, shl1 i (by omega), shl1 k (by omega), fa_or]
          have sw2 : ((1 : Int32) <<< (nI i &&& 31)) ||| ((1 : Int32) <<< (nI k &&& 31)) = nI (2 ^ i ||| 2 ^ k) := by
            rw [shl1 i (by omega), shl1 k (by omega), fa_or]
          have swl : 2 ^ i ||| 2 ^ k < 2 ^ T := Nat.or_lt_two_pow (Nat.pow_lt_pow_right (by decide) hi2) (Nat.pow_lt_pow_right (by decide) hk)
          have ev := eVM (nI (6 * i + k)) ((2 ^ i ||| 2 ^ k) ^^^ o) ((2 ^ i ||| 2 ^ k) ^^^ e) (by rw [swe, nI_xor]) (by rw [swe, nI_xor]) (Nat.xor_lt_two_pow swl ho) (Nat.xor_lt_two_pow swl he)
          have x1 : nI o ^^^ (((1 : Int32) <<< (nI i &&& 31)) ||| ((1 : Int32) <<< (nI k &&& 31))) = nI ((2 ^ i ||| 2 ^ k) ^^^ o) := by rw [sw2, nI_xor, Nat.xor_comm]
          have x2 : nI e ^^^ (((1 : Int32) <<< (nI i &&& 31)) ||| ((1 : Int32) <<< (nI k &&& 31))) = nI ((2 ^ i ||| 2 ^ k) ^^^ e) := by rw [sw2, nI_xor, Nat.xor_comm]
          refine bX12_exchange_78 hW (fun z => absurd z hltk) (fun _ _ _ => vT) (fun _ _ _ => oMx) (fun _ _ _ => oMy) (fun _ z1 z2 z3 => ?_) (fun _ z1 z2 z3 => ?_) (fun _ z1 z2 => ?_) (fun _ z1 => ?_)
          · rw [x1, x2, ev] at z3
            rw [step, if_neg (fun u => Int32.not_lt.mpr z3 u.2)] at ih3
            rw [nI_1]; exact ih3
          · rw [x1, x2, ev] at z3
            rw [step, if_pos ⟨gk.mpr ⟨z1, z2⟩, Int32.not_le.mp z3⟩] at ih3
            unfold oneI othI at ih3
            rw [if_neg (nI_neM (by omega)), if_neg (nI_neM (by omega)), d2, d1] at ih3
            rw [x1, x2, ev, nI_1]; exact ih3
          · rw [step, if_neg (fun u => z2 (gk.mp u.1).2)] at ih3
            rw [nI_1]; exact ih3
          · rw [step, if_neg (fun u => z1 (gk.mp u.1).1)] at ih3
            rw [nI_1]; exact ih3
    -- the class
    refine pCl_of (by decide +kernel) (Nat.le_of_ble_eq_true rfl) rfl (bX11_exchange_0 hW (fun _ z => absurd z w2.1) (fun _ _ _ => ?_) (fun _ _ z => absurd (Int32.not_lt.mp w2.2) z) (fun z => absurd cC z))
    have fin := K _ m hW (fun Q2 h2 => mod Q2 h2)
    refine pCl_of (by decide +kernel) (Nat.le_of_ble_eq_true rfl) rfl (bX3_bestExchange_0 hW oCx oCy ?_)
    rw [eoC, eeC, eVC]
    refine upTo (P := fun p => Go X 4 mX3_bestExchange (fun v m2 => Go X 5 mX11_exchange Q 30 [(0, .ref 0), (1, .int (nI qx)), (2, .int (nI qy)), (3, .int w)] (v.toList ++ []) m2) 34 [(0, .ref 514), (1, .int (nI qx)), (2, .int (nI qy)), (3, .int (nI o)), (4, .int (nI e)), (5, .int (exF g V p)), (6, .int (V (exF g V p))), (7, .int (nI p))] [] m) 36 ?_ ?_ 0 (Nat.zero_le _)
    · refine bX3_bestExchange_34 hW (fun _ => ?_) (fun z => absurd (by decide) z) (fun z => absurd (by decide) z) (fun z => absurd (by decide) z)
      rw [← hR]
      refine bX11_exchange_30 hW (fun z1 z2 z3 => ?_) (fun z1 z2 z3 => ?_) (fun z1 z2 => ?_) (fun _ => oCx) (fun _ => oCy) (fun z1 => ?_)
      · rw [if_neg z1, if_neg z3] at fin
        unfold othI at fin
        rw [if_neg z2] at fin; exact fin
      · rw [if_neg z1, if_pos z3] at fin
        unfold oneI at fin
        rw [if_neg z2] at fin; exact fin
      · rw [if_neg z1] at fin
        unfold oneI othI at fin
        rw [if_pos z2, if_pos z2] at fin
        by_cases w1 : w = 1
        · rw [if_pos w1] at fin; exact fin
        · rw [if_neg w1] at fin; exact fin
      · rw [if_pos z1] at fin
        rw [eVC]; exact fin
    · intro p hp ih
      have hlt : ¬ (36 : Int32) ≤ nI p := nI_ge (a := p) (b := 36) hp (by decide)
      have hp6 : p = 6 * (p / 6) + p % 6 := by omega
      obtain ⟨d1, d2⟩ := div6 (i := p / 6) (k := p % 6) (by omega) (by omega)
      rw [← hp6] at d1 d2
      have step : exF g V (p + 1) = if g p = true ∧ V (nI p) < V (exF g V p) then nI p else exF g V p := rfl
      refine bX3_bestExchange_34 hW (fun z => absurd z hlt) (fun _ z1 => ?_) (fun _ z1 z2 => ?_) (fun _ z1 z2 => ?_)
      · rw [d1] at z1
        rw [step, if_neg (fun u => z1 ((hg p).mp u.1).1)] at ih
        refine bX3_bestExchange_72 hW (bX3_bestExchange_73v1 hW ?_)
        rw [nI_1]; exact ih
      · rw [d2] at z2
        rw [step, if_neg (fun u => z2 ((hg p).mp u.1).2)] at ih
        refine bX3_bestExchange_72 hW (bX3_bestExchange_73v1 hW ?_)
        rw [nI_1]; exact ih
      · rw [d1] at z1
        rw [d2] at z2
        have gp := (hg p).mpr ⟨z1, z2⟩
        refine bX3_bestExchange_73 hW oCx oCy (fun z => ?_) (fun z => ?_)
        · rw [eVC] at z
          rw [step, if_neg (fun u => Int32.not_lt.mpr z u.2)] at ih
          rw [nI_1]; exact ih
        · rw [eVC] at z
          rw [step, if_pos ⟨gp, Int32.not_le.mp z⟩] at ih
          rw [eVC, nI_1]; exact ih
  · have bad : Q (some (.int (-2))) m := by
      refine K _ m hW (fun Q2 h2 => pCl_of (by decide +kernel) (Nat.le_of_ble_eq_true rfl) rfl (bX12_exchange_0 hW vP (fun _ _ => vT) (fun z1 z2 => absurd ⟨z1, (inI (a := 2) (by decide)).mp z2⟩ c) (fun z1 z2 => absurd ⟨z1, (inI (a := 2) (by decide)).mp z2⟩ c) (fun z1 z2 => absurd ⟨z1, (inI (a := 2) (by decide)).mp z2⟩ c) (fun _ _ => h2 m h) (fun _ => h2 m h)))
    exact pCl_of (by decide +kernel) (Nat.le_of_ble_eq_true rfl) rfl (bX11_exchange_0 hW (fun _ _ => bad) (fun z1 z2 z3 => absurd ⟨tog.mp z1, (inI (a := 2) (by decide)).mp ⟨z2, Int32.not_lt.mpr z3⟩⟩ c) (fun _ _ _ => bad) (fun _ => bad))
end T26
/-- sums of worths; who has lost more -/
def peS (W : Nat → Int32) : Nat → Int32
  | 0 => 0
  | k + 1 => peS W k + W k
def paF (A L : Int32) (I : Nat → Int32) (q : Nat) (a : Int32) : Nat → Int32 × Int32
  | 0 => (a, 0)
  | k + 1 => ((paF A L I q a k).1 - I k / A, if L < I k - I k / A * A ∨ (I k - I k / A * A = L ∧ k < q) then (paF A L I q a k).2 + 1 else (paF A L I q a k).2)
section T27
variable {X : pX}
theorem p_pence {x y : Int32} : Pair X 4 2 mX11_pence mX12_pence [.int x, .int y] := by
  intro m h Q K
  obtain ⟨hW, hC, hT, nr, P, Sg, T, N, M, d, ff, hr, hi, hf, hw, hv⟩ := Inv_open h
  obtain ⟨a1, a2, a3, a4, s1, s2, s3⟩ := rows_of hv
  obtain ⟨⟨⟨p3, p4, p2, p8, pT, p6⟩, ⟨q3, _, q2, _, qT, _⟩, _, _, hpl⟩, ⟨v1, v2, _⟩, _, _, _, _, _, v15, _⟩ := hv
  have vT : vp_in (mI m 536 4) 7 := by rw [qT]; exact vp_in_nI (by omega) (by decide)
  by_cases c : (∃ q, q < P ∧ y = nI q) ∧ ∃ k, k ≤ 9999 ∧ x = nI k
  · obtain ⟨c1, c2⟩ := c
    have yC := (perC (z := 4) p3 (K := 4) rfl p4 (by decide)).mpr c1
    have yM := (perM q3 (by omega)).mpr c1
    have x2 := (inI (a := 9999) (by decide)).mpr c2
    obtain ⟨q, hq, rfl⟩ := c1
    obtain ⟨a, ha, rfl⟩ := c2
    obtain ⟨W, hWW⟩ : ∃ W : Nat → Int32, W = fun k => wSum (mI m 35) (tAt (mI m 40) (nI k) 6) 6 := ⟨_, rfl⟩
    have eC : ∀ k, wSum (mI m 35) (tAt (mI m 40) (nI k) 6) 6 = W k := fun k => by rw [hWW]
    have eM : ∀ k, k < 4 → wSum (mI m 543) (tAt (mI m 539) (nI k) (mI m 536 4).toNatClampNeg) (mI m 536 4).toNatClampNeg = W k := fun k hk => by
      rw [← eC, qT, nI_clamp (by omega)]; exact (wSum_ag s3 a4 (nI_neM (by omega)) p6).symm
    have bd : ∀ k, k < 4 → ∃ j, j ≤ 300 ∧ W k = nI j := fun k hk => by
      rw [← eM k hk, qT, nI_clamp (by omega)]
      obtain ⟨j, hj, ej⟩ := wS_bd (f := mI m 543) (T := T) (fun t ht => by obtain ⟨u, u1, _, u3⟩ := v15 t ht; exact ⟨u, u1, u3⟩) (tAt (mI m 539) (nI k) T) T (Nat.le_refl T)
      exact ⟨j, by omega, ej⟩
    have sb : ∀ k, k ≤ 4 → ∃ j, j ≤ 300 * k ∧ peS W k = nI j := by
      intro k
      induction k with
      | zero => intro _; exact ⟨0, by omega, rfl⟩
      | succ k ih =>
        intro hk
        obtain ⟨j, j1, j2⟩ := ih (by omega)
        obtain ⟨i, i1, i2⟩ := bd k (by omega)
        exact ⟨j + i, by omega, by show peS W k + W k = _; rw [j2, i2, nI_add]⟩
    obtain ⟨A, hA⟩ : ∃ A, A = peS W P := ⟨_, rfl⟩
    obtain ⟨L, hL⟩ : ∃ L, L = nI a * W q - nI a * W q / A * A := ⟨_, rfl⟩
    obtain ⟨R, hR⟩ : ∃ R, R = paF A L (fun k => nI a * W k) q (nI a) P := ⟨_, rfl⟩
    have remN : ¬ A = 0 → ∀ k, k < 4 → ∃ j, j < 2 ^ 30 ∧ nI a * W k - nI a * W k / A * A = nI j := by
      intro hA0 k hk
      obtain ⟨i, i1, i2⟩ := bd k hk
      obtain ⟨j, j1, j2⟩ := sb P p4
      have hAj : A = nI j := hA.trans j2
      have j0 : 0 < j := Nat.pos_of_ne_zero (fun z => hA0 (by rw [hAj, z]; rfl))
      have mb : a * i ≤ 9999 * 300 := Nat.mul_le_mul ha i1
      rw [i2, hAj, nI_mul, pk_rem (by omega) j0 (by omega)]
      have := Nat.mod_lt (a * i) j0
      exact ⟨_, by omega, rfl⟩
    have res : Int32 := 0
    have mod : ∀ Q2 : Option Value → pMem → Prop, (∀ m2, Inv m2 → Q2 (some (.int (if A = 0 then 0 else nI a * W q / A + if R.1 ≤ R.2 then 0 else 1))) m2) → Cl X 2 mX12_pence [.ref 535, .int (nI a), .int (nI q)] m Q2 := by
      intro Q2 h2
      have fin := h2 m h
      refine pCl_of (by decide +kernel) (Nat.le_of_ble_eq_true rfl) rfl (bX12_pence_0 hW (fun _ _ => ?_) (fun _ z => absurd x2 z) (fun z => absurd yM z))
      refine upTo (P := fun k => Go X 2 mX12_pence Q2 27 [(0, .ref 535), (1, .int (nI a)), (2, .int (nI q)), (3, .int (peS W k)), (4, .int (nI k))] [] m) P ?_ ?_ 0 (Nat.zero_le _)
      · have hz : mI m 536 3 ≤ nI P := by rw [q3]; exact Int32.le_refl _
        rw [← hA]
        refine bX12_pence_27 hW (fun _ _ => vT) (fun _ z => ?_) (fun _ z => ?_) (fun z => absurd hz z) (fun z => absurd hz z)
        · rw [eM q (by omega)]
          rw [if_neg z] at fin
          refine upTo (P := fun k => Go X 2 mX12_pence Q2 85 [(0, .ref 535), (1, .int (nI a)), (2, .int (nI q)), (3, .int A), (4, .int (paF A L (fun k => nI a * W k) q (nI a) k).1), (5, .int (paF A L (fun k => nI a * W k) q (nI a) k).2), (6, .int (nI a * W q)), (7, .int (nI k))] [] m) P ?_ ?_ 0 (Nat.zero_le _)
          · rw [← hR]
            refine bX12_pence_85 hW (fun _ => z) (fun _ y1 => ?_) (fun _ y1 => ?_) (fun y1 => absurd hz y1) (fun y1 => absurd hz y1) (fun y1 => absurd hz y1) (fun y1 => absurd hz y1) (fun y1 => absurd hz y1) (fun y1 => absurd hz y1)
            · rw [if_pos y1] at fin; exact fin
            · rw [if_neg y1] at fin; exact fin
          · intro k hk ih
            have hlt : ¬ mI m 536 3 ≤ nI k := by rw [q3]; exact nI_ge hk (by omega)
            obtain ⟨jk, jk1, jk2⟩ := remN z k (by omega)
            obtain ⟨jq, jq1, jq2⟩ := remN z q (by omega)
            have sg := sub_gt jk1 jq1
            rw [← jk2, ← jq2, ← hL] at sg
            have ih2 : Go X 2 mX12_pence Q2 85 [(0, .ref 535), (1, .int (nI a)), (2, .int (nI q)), (3, .int A), (4, .int ((paF A L (fun k => nI a * W k) q (nI a) k).1 - (nI a * W k) / A)), (5, .int (if L < nI a * W k - nI a * W k / A * A ∨ (nI a * W k - nI a * W k / A * A = L ∧ k < q) then (paF A L (fun k => nI a * W k) q (nI a) k).2 + 1 else (paF A L (fun k => nI a * W k) q (nI a) k).2)), (6, .int (nI a * W q)), (7, .int (nI (k + 1)))] [] m := ih
            have kq : nI q ≤ nI k ↔ ¬ k < q := by rw [nI_leI (by omega) (by omega)]; omega
            refine bX12_pence_85 hW (fun y => absurd y hlt) (fun y => absurd y hlt) (fun y => absurd y hlt) (fun _ => vT) (fun _ => z) (fun _ y1 => ?_) (fun _ y1 y2 => ?_) (fun _ y1 y2 y3 => ?_) (fun _ y1 y2 y3 => ?_)
            · rw [eM k (by omega), ← hL] at y1
              rw [if_pos (Or.inl (sg.1.mp y1))] at ih2
              rw [eM k (by omega), nI_1]; exact ih2
            · rw [eM k (by omega), ← hL] at y1 y2
              rw [if_neg (fun u => u.elim (fun u => y1 (sg.1.mpr u)) (fun u => y2 (sg.2.mpr u.1)))] at ih2
              rw [eM k (by omega), nI_1, Int32.add_zero]; exact ih2
            · rw [eM k (by omega), ← hL] at y1 y2
              rw [if_neg (fun u => u.elim (fun u => y1 (sg.1.mpr u)) (fun u => kq.mp y3 u.2))] at ih2
              rw [eM k (by omega), nI_1, Int32.add_zero]; exact ih2
            · rw [eM k (by omega), ← hL] at y1 y2
              rw [if_pos (Or.inr ⟨sg.2.mp y2, Classical.byContradiction fun u => y3 (kq.mpr u)⟩)] at ih2
              rw [eM k (by omega), nI_1]; exact ih2
        · rw [if_pos z] at fin; exact fin
      · intro k hk ih
        have hlt : ¬ mI m 536 3 ≤ nI k := by rw [q3]; exact nI_ge hk (by omega)
        refine bX12_pence_27 hW (fun z => absurd z hlt) (fun z => absurd z hlt) (fun z => absurd z hlt) (fun _ => vT) (fun _ => ?_)
        rw [eM k (by omega), nI_1]; exact ih
    -- the class
    refine pCl_of (by decide +kernel) (Nat.le_of_ble_eq_true rfl) rfl (bX11_pence_0 hW (fun _ z => absurd z x2.1) (fun _ _ _ => ?_) (fun _ _ z => absurd (Int32.not_lt.mp x2.2) z) (fun z => absurd yC z))
    have fin := K _ m hW (fun Q2 h2 => mod Q2 h2)
    refine pCl_of (by decide +kernel) (Nat.le_of_ble_eq_true rfl) rfl (bX3_penceOf_0 hW ?_)
    refine upTo (P := fun k => Go X 3 mX3_penceOf (fun v m2 => Go X 4 mX11_pence Q 36 [(0, .ref 0), (1, .int (nI a)), (2, .int (nI q))] (v.toList ++ []) m2) 5 [(0, .ref 514), (1, .int (nI a)), (2, .int (nI q)), (3, .int (peS W k)), (4, .int (nI k))] [] m) P ?_ ?_ 0 (Nat.zero_le _)
    · have hz : mI m 31 3 ≤ nI P := by rw [p3]; exact Int32.le_refl _
      rw [← hA]
      refine bX3_penceOf_5 hW (fun _ z => z) (fun _ z => ?_) (fun _ z => ?_) (fun z => absurd hz z)
      · rw [eC q, ← hL]
        rw [if_neg z] at fin
        refine upTo (P := fun k => Go X 3 mX3_penceOf (fun v m2 => Go X 4 mX11_pence Q 36 [(0, .ref 0), (1, .int (nI a)), (2, .int (nI q))] (v.toList ++ []) m2) 58 [(0, .ref 514), (1, .int (nI a)), (2, .int (nI q)), (3, .int A), (4, .int (paF A L (fun k => nI a * W k) q (nI a) k).1), (5, .int (paF A L (fun k => nI a * W k) q (nI a) k).2), (6, .int L), (7, .int (nI k))] [] m) P ?_ ?_ 0 (Nat.zero_le _)
        · rw [← hR]
          refine bX3_penceOf_58 hW (fun _ => z) (fun _ y1 => ?_) (fun _ y1 => ?_) (fun y1 => absurd hz y1) (fun y1 => absurd hz y1) (fun y1 => absurd hz y1) (fun y1 => absurd hz y1) (fun y1 => absurd hz y1)
          · rw [if_pos y1] at fin
            rw [eC q]; exact bX11_pence_36 hW fin
          · rw [if_neg y1] at fin
            rw [eC q]; exact bX11_pence_36 hW fin
        · intro k hk ih
          have hlt : ¬ mI m 31 3 ≤ nI k := by rw [p3]; exact nI_ge hk (by omega)
          have ih2 : Go X 3 mX3_penceOf (fun v m2 => Go X 4 mX11_pence Q 36 [(0, .ref 0), (1, .int (nI a)), (2, .int (nI q))] (v.toList ++ []) m2) 58 [(0, .ref 514), (1, .int (nI a)), (2, .int (nI q)), (3, .int A), (4, .int ((paF A L (fun k => nI a * W k) q (nI a) k).1 - (nI a * W k) / A)), (5, .int (if L < nI a * W k - nI a * W k / A * A ∨ (nI a * W k - nI a * W k / A * A = L ∧ k < q) then (paF A L (fun k => nI a * W k) q (nI a) k).2 + 1 else (paF A L (fun k => nI a * W k) q (nI a) k).2)), (6, .int L), (7, .int (nI (k + 1)))] [] m := ih
          have kq : nI q ≤ nI k ↔ ¬ k < q := by rw [nI_leI (by omega) (by omega)]; omega
          refine bX3_penceOf_58 hW (fun y => absurd y hlt) (fun y => absurd y hlt) (fun y => absurd y hlt) (fun _ => z) (fun _ y1 => ?_) (fun _ y1 y2 => ?_) (fun _ y1 y2 y3 => ?_) (fun _ y1 y2 y3 => ?_)
          · rw [eC k] at y1
            rw [if_pos (Or.inl y1)] at ih2
            rw [eC k, nI_1]; exact ih2
          · rw [eC k] at y1 y2
            rw [if_neg (fun u => u.elim y1 (fun u => y2 u.1))] at ih2
            rw [eC k, nI_1]; exact ih2
          · rw [eC k] at y1 y2
            rw [if_neg (fun u => u.elim y1 (fun u => kq.mp y3 u.2))] at ih2
            rw [eC k, nI_1]; exact ih2
          · rw [eC k] at y1 y2
            rw [if_pos (Or.inr ⟨y2, Classical.byContradiction fun u => y3 (kq.mpr u)⟩)] at ih2
            rw [eC k, nI_1]; exact ih2
      · rw [if_pos z] at fin
        exact bX11_pence_36 hW fin
    · intro k hk ih
      have hlt : ¬ mI m 31 3 ≤ nI k := by rw [p3]; exact nI_ge hk (by omega)
      refine bX3_penceOf_5 hW (fun z => absurd z hlt) (fun z => absurd z hlt) (fun z => absurd z hlt) (fun _ => ?_)
      rw [eC k, nI_1]; exact ih
  · have bad : Q (some (.int (-1))) m := K _ m hW (fun Q2 h2 => pCl_of (by decide +kernel) (Nat.le_of_ble_eq_true rfl) rfl (bX12_pence_0 hW (fun z1 z2 => absurd ⟨(perM q3 (by omega)).mp z1, (inI (a := 9999) (by decide)).mp z2⟩ c) (fun _ _ => h2 m h) (fun _ => h2 m h)))
    exact pCl_of (by decide +kernel) (Nat.le_of_ble_eq_true rfl) rfl (bX11_pence_0 hW (fun _ _ => bad) (fun z1 z2 z3 => absurd ⟨(perC (z := 4) p3 (K := 4) rfl p4 (by decide)).mp z1, (inI (a := 9999) (by decide)).mp ⟨z2, Int32.not_lt.mpr z3⟩⟩ c) (fun _ _ _ => bad) (fun _ => bad))
end T27
