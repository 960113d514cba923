abbrev mL_law : pM := (yL_law, cL_law, 4, some .boolean)
abbrev GoL (X : pX) (Z : List Frame → Array Value → State → State → Prop) (pc : Nat) (ls : List (Nat × Value)) (st : List Value) (m : pMem) : Prop := pGo X mL_law room_1 0 0 Z pc ls st SH m
theorem rmL {Y2 : pM} {d : Nat} (h : d ≤ 60) (h2 : Y2.2.2.1 ≤ 1000) : pRm room_1 0 0 Y2 d SH SH := by
  have e1 : SH.length = 572 := SH_len
  have e2 : psl SH ≤ 7302250 := by decide +kernel
  refine ⟨⟨?_, ?_⟩, ⟨Nat.le_refl _, Nat.le_refl _⟩, ?_, ?_⟩
  · show d + 1 ≤ 2048; omega
  · show 8 + (Y2.2.2.1 + 11) + 60 * d ≤ 84000; omega
  · show SH.length - 0 ≤ 600000; omega
  · show psl SH - 0 ≤ 7302250; omega
theorem bL_law_18 {X : pX} {Z : List Frame → Array Value → State → State → Prop} {m : pMem} {x3 : Int32} (hW : Wf m)
    (h1 : ((Int32.ofNat (pLn X)) - (6 : Int32)) < x3 → GoL X Z 1189 [(0, .retAddr 0), (1, .ref 0), (2, .ref 535), (3, .int x3)] [.int (1 : Int32)] m)
    (h2 : ¬ (((Int32.ofNat (pLn X)) - (6 : Int32)) < x3) → vp_in x3 (pLn X))
    (h3 : ¬ (((Int32.ofNat (pLn X)) - (6 : Int32)) < x3) → ((pSc X x3.toNatClampNeg) &&& (31 : Int32)) = 0 → vp_in (x3 + (1 : Int32)) (pLn X))
    (h4 : ¬ (((Int32.ofNat (pLn X)) - (6 : Int32)) < x3) → ((pSc X x3.toNatClampNeg) &&& (31 : Int32)) = 0 → vp_in (x3 + (2 : Int32)) (pLn X))
    (h5 : ¬ (((Int32.ofNat (pLn X)) - (6 : Int32)) < x3) → ((pSc X x3.toNatClampNeg) &&& (31 : Int32)) = 0 → vp_in (x3 + (3 : Int32)) (pLn X))
    (h6 : ¬ (((Int32.ofNat (pLn X)) - (6 : Int32)) < x3) → ((pSc X x3.toNatClampNeg) &&& (31 : Int32)) = 0 → vp_in (x3 + (4 : Int32)) (pLn X))
    (h7 : ¬ (((Int32.ofNat (pLn X)) - (6 : Int32)) < x3) → ((pSc X x3.toNatClampNeg) &&& (31 : Int32)) = 0 → vp_in (x3 + (5 : Int32)) (pLn X))
    (h8 : ¬ (((Int32.ofNat (pLn X)) - (6 : Int32)) < x3) → ((pSc X x3.toNatClampNeg) &&& (31 : Int32)) = 0 → Cl X 1 mX11_feed [.ref 0, .int (pSc X (x3 + (1 : Int32)).toNatClampNeg), .int (pSc X (x3 + (2 : Int32)).toNatClampNeg), .int (pSc X (x3 + (3 : Int32)).toNatClampNeg), .int (pSc X (x3 + (4 : Int32)).toNatClampNeg), .int (pSc X (x3 + (5 : Int32)).toNatClampNeg)] m (fun v m2 => GoL X Z 205 [(0, .retAddr 0), (1, .ref 0), (2, .ref 535), (3, .int x3)] (v.toList ++ []) m2))
    (h9 : ¬ (((Int32.ofNat (pLn X)) - (6 : Int32)) < x3) → ¬ ((pSc X x3.toNatClampNeg) &&& (31 : Int32)) = 0 → ((pSc X x3.toNatClampNeg) &&& (31 : Int32)) = 1 → vp_in (x3 + (1 : Int32)) (pLn X))
    (h10 : ¬ (((Int32.ofNat (pLn X)) - (6 : Int32)) < x3) → ¬ ((pSc X x3.toNatClampNeg) &&& (31 : Int32)) = 0 → ((pSc X x3.toNatClampNeg) &&& (31 : Int32)) = 1 → Cl X 0 mX11_end [.ref 0, .int (pSc X (x3 + (1 : Int32)).toNatClampNeg)] m (fun v m2 => GoL X Z 248 [(0, .retAddr 0), (1, .ref 0), (2, .ref 535), (3, .int x3)] (v.toList ++ []) m2))
    (h11 : ¬ (((Int32.ofNat (pLn X)) - (6 : Int32)) < x3) → ¬ ((pSc X x3.toNatClampNeg) &&& (31 : Int32)) = 0 → ¬ ((pSc X x3.toNatClampNeg) &&& (31 : Int32)) = 1 → ((pSc X x3.toNatClampNeg) &&& (31 : Int32)) = 2 → Cl X 9 mX11_road [.ref 0] m (fun v m2 => GoL X Z 266 [(0, .retAddr 0), (1, .ref 0), (2, .ref 535), (3, .int x3)] (v.toList ++ []) m2))
    (h12 : ¬ (((Int32.ofNat (pLn X)) - (6 : Int32)) < x3) → ¬ ((pSc X x3.toNatClampNeg) &&& (31 : Int32)) = 0 → ¬ ((pSc X x3.toNatClampNeg) &&& (31 : Int32)) = 1 → ¬ ((pSc X x3.toNatClampNeg) &&& (31 : Int32)) = 2 → ((pSc X x3.toNatClampNeg) &&& (31 : Int32)) = 3 → Cl X 41 mX11_rule [.ref 0] m (fun v m2 => GoL X Z 279 [(0, .retAddr 0), (1, .ref 0), (2, .ref 535), (3, .int x3)] (v.toList ++ []) m2))
    (h13 : ¬ (((Int32.ofNat (pLn X)) - (6 : Int32)) < x3) → ¬ ((pSc X x3.toNatClampNeg) &&& (31 : Int32)) = 0 → ¬ ((pSc X x3.toNatClampNeg) &&& (31 : Int32)) = 1 → ¬ ((pSc X x3.toNatClampNeg) &&& (31 : Int32)) = 2 → ¬ ((pSc X x3.toNatClampNeg) &&& (31 : Int32)) = 3 → ((pSc X x3.toNatClampNeg) &&& (31 : Int32)) = 4 → vp_in (x3 + (1 : Int32)) (pLn X))
    (h14 : ¬ (((Int32.ofNat (pLn X)) - (6 : Int32)) < x3) → ¬ ((pSc X x3.toNatClampNeg) &&& (31 : Int32)) = 0 → ¬ ((pSc X x3.toNatClampNeg) &&& (31 : Int32)) = 1 → ¬ ((pSc X x3.toNatClampNeg) &&& (31 : Int32)) = 2 → ¬ ((pSc X x3.toNatClampNeg) &&& (31 : Int32)) = 3 → ((pSc X x3.toNatClampNeg) &&& (31 : Int32)) = 4 → Cl X 0 mX11_force [.ref 0, .int (pSc X (x3 + (1 : Int32)).toNatClampNeg)] m (fun v m2 => GoL X Z 297 [(0, .retAddr 0), (1, .ref 0), (2, .ref 535), (3, .int x3)] (v.toList ++ []) m2))
    (h15 : ¬ (((Int32.ofNat (pLn X)) - (6 : Int32)) < x3) → ¬ ((pSc X x3.toNatClampNeg) &&& (31 : Int32)) = 0 → ¬ ((pSc X x3.toNatClampNeg) &&& (31 : Int32)) = 1 → ¬ ((pSc X x3.toNatClampNeg) &&& (31 : Int32)) = 2 → ¬ ((pSc X x3.toNatClampNeg) &&& (31 : Int32)) = 3 → ¬ ((pSc X x3.toNatClampNeg) &&& (31 : Int32)) = 4 → ((pSc X x3.toNatClampNeg) &&& (31 : Int32)) = 5 → vp_in (x3 + (1 : Int32)) (pLn X))
    (h16 : ¬ (((Int32.ofNat (pLn X)) - (6 : Int32)) < x3) → ¬ ((pSc X x3.toNatClampNeg) &&& (31 : Int32)) = 0 → ¬ ((pSc X x3.toNatClampNeg) &&& (31 : Int32)) = 1 → ¬ ((pSc X x3.toNatClampNeg) &&& (31 : Int32)) = 2 → ¬ ((pSc X x3.toNatClampNeg) &&& (31 : Int32)) = 3 → ¬ ((pSc X x3.toNatClampNeg) &&& (31 : Int32)) = 4 → ((pSc X x3.toNatClampNeg) &&& (31 : Int32)) = 5 → vp_in (x3 + (2 : Int32)) (pLn X))
    (h17 : ¬ (((Int32.ofNat (pLn X)) - (6 : Int32)) < x3) → ¬ ((pSc X x3.toNatClampNeg) &&& (31 : Int32)) = 0 → ¬ ((pSc X x3.toNatClampNeg) &&& (31 : Int32)) = 1 → ¬ ((pSc X x3.toNatClampNeg) &&& (31 : Int32)) = 2 → ¬ ((pSc X x3.toNatClampNeg) &&& (31 : Int32)) = 3 → ¬ ((pSc X x3.toNatClampNeg) &&& (31 : Int32)) = 4 → ((pSc X x3.toNatClampNeg) &&& (31 : Int32)) = 5 → Cl X 2 mX11_person [.ref 0, .int (pSc X (x3 + (1 : Int32)).toNatClampNeg), .int (pSc X (x3 + (2 : Int32)).toNatClampNeg)] m (fun v m2 => GoL X Z 325 [(0, .retAddr 0), (1, .ref 0), (2, .ref 535), (3, .int x3)] (v.toList ++ []) m2))
    (h18 : ¬ (((Int32.ofNat (pLn X)) - (6 : Int32)) < x3) → ¬ ((pSc X x3.toNatClampNeg) &&& (31 : Int32)) = 0 → ¬ ((pSc X x3.toNatClampNeg) &&& (31 : Int32)) = 1 → ¬ ((pSc X x3.toNatClampNeg) &&& (31 : Int32)) = 2 → ¬ ((pSc X x3.toNatClampNeg) &&& (31 : Int32)) = 3 → ¬ ((pSc X x3.toNatClampNeg) &&& (31 : Int32)) = 4 → ¬ ((pSc X x3.toNatClampNeg) &&& (31 : Int32)) = 5 → ((pSc X x3.toNatClampNeg) &&& (31 : Int32)) = 6 → vp_in (x3 + (1 : Int32)) (pLn X))
    (h19 : ¬ (((Int32.ofNat (pLn X)) - (6 : Int32)) < x3) → ¬ ((pSc X x3.toNatClampNeg) &&& (31 : Int32)) = 0 → ¬ ((pSc X x3.toNatClampNeg) &&& (31 : Int32)) = 1 → ¬ ((pSc X x3.toNatClampNeg) &&& (31 : Int32)) = 2 → ¬ ((pSc X x3.toNatClampNeg) &&& (31 : Int32)) = 3 → ¬ ((pSc X x3.toNatClampNeg) &&& (31 : Int32)) = 4 → ¬ ((pSc X x3.toNatClampNeg) &&& (31 : Int32)) = 5 → ((pSc X x3.toNatClampNeg) &&& (31 : Int32)) = 6 → vp_in (x3 + (2 : Int32)) (pLn X))
    (h20 : ¬ (((Int32.ofNat (pLn X)) - (6 : Int32)) < x3) → ¬ ((pSc X x3.toNatClampNeg) &&& (31 : Int32)) = 0 → ¬ ((pSc X x3.toNatClampNeg) &&& (31 : Int32)) = 1 → ¬ ((pSc X x3.toNatClampNeg) &&& (31 : Int32)) = 2 → ¬ ((pSc X x3.toNatClampNeg) &&& (31 : Int32)) = 3 → ¬ ((pSc X x3.toNatClampNeg) &&& (31 : Int32)) = 4 → ¬ ((pSc X x3.toNatClampNeg) &&& (31 : Int32)) = 5 → ((pSc X x3.toNatClampNeg) &&& (31 : Int32)) = 6 → Cl X 1 mX11_thing [.ref 0, .int (pSc X (x3 + (1 : Int32)).toNatClampNeg), .int (pSc X (x3 + (2 : Int32)).toNatClampNeg)] m (fun v m2 => GoL X Z 358 [(0, .retAddr 0), (1, .ref 0), (2, .ref 535), (3, .int x3)] (v.toList ++ []) m2))
    (h21 : ¬ (((Int32.ofNat (pLn X)) - (6 : Int32)) < x3) → ¬ ((pSc X x3.toNatClampNeg) &&& (31 : Int32)) = 0 → ¬ ((pSc X x3.toNatClampNeg) &&& (31 : Int32)) = 1 → ¬ ((pSc X x3.toNatClampNeg) &&& (31 : Int32)) = 2 → ¬ ((pSc X x3.toNatClampNeg) &&& (31 : Int32)) = 3 → ¬ ((pSc X x3.toNatClampNeg) &&& (31 : Int32)) = 4 → ¬ ((pSc X x3.toNatClampNeg) &&& (31 : Int32)) = 5 → ¬ ((pSc X x3.toNatClampNeg) &&& (31 : Int32)) = 6 → ((pSc X x3.toNatClampNeg) &&& (31 : Int32)) = 7 → vp_in (x3 + (1 : Int32)) (pLn X))
    (h22 : ¬ (((Int32.ofNat (pLn X)) - (6 : Int32)) < x3) → ¬ ((pSc X x3.toNatClampNeg) &&& (31 : Int32)) = 0 → ¬ ((pSc X x3.toNatClampNeg) &&& (31 : Int32)) = 1 → ¬ ((pSc X x3.toNatClampNeg) &&& (31 : Int32)) = 2 → ¬ ((pSc X x3.toNatClampNeg) &&& (31 : Int32)) = 3 → ¬ ((pSc X x3.toNatClampNeg) &&& (31 : Int32)) = 4 → ¬ ((pSc X x3.toNatClampNeg) &&& (31 : Int32)) = 5 → ¬ ((pSc X x3.toNatClampNeg) &&& (31 : Int32)) = 6 → ((pSc X x3.toNatClampNeg) &&& (31 : Int32)) = 7 → Cl X 1 mX11_stage [.ref 0, .int (pSc X (x3 + (1 : Int32)).toNatClampNeg)] m (fun v m2 => GoL X Z 386 [(0, .retAddr 0), (1, .ref 0), (2, .ref 535), (3, .int x3)] (v.toList ++ []) m2))
    (h23 : ¬ (((Int32.ofNat (pLn X)) - (6 : Int32)) < x3) → ¬ ((pSc X x3.toNatClampNeg) &&& (31 : Int32)) = 0 → ¬ ((pSc X x3.toNatClampNeg) &&& (31 : Int32)) = 1 → ¬ ((pSc X x3.toNatClampNeg) &&& (31 : Int32)) = 2 → ¬ ((pSc X x3.toNatClampNeg) &&& (31 : Int32)) = 3 → ¬ ((pSc X x3.toNatClampNeg) &&& (31 : Int32)) = 4 → ¬ ((pSc X x3.toNatClampNeg) &&& (31 : Int32)) = 5 → ¬ ((pSc X x3.toNatClampNeg) &&& (31 : Int32)) = 6 → ¬ ((pSc X x3.toNatClampNeg) &&& (31 : Int32)) = 7 → ((pSc X x3.toNatClampNeg) &&& (31 : Int32)) = 8 → Cl X 5 mX11_day [.ref 0] m (fun v m2 => GoL X Z 404 [(0, .retAddr 0), (1, .ref 0), (2, .ref 535), (3, .int x3)] (v.toList ++ []) m2))
    (h24 : ¬ (((Int32.ofNat (pLn X)) - (6 : Int32)) < x3) → ¬ ((pSc X x3.toNatClampNeg) &&& (31 : Int32)) = 0 → ¬ ((pSc X x3.toNatClampNeg) &&& (31 : Int32)) = 1 → ¬ ((pSc X x3.toNatClampNeg) &&& (31 : Int32)) = 2 → ¬ ((pSc X x3.toNatClampNeg) &&& (31 : Int32)) = 3 → ¬ ((pSc X x3.toNatClampNeg) &&& (31 : Int32)) = 4 → ¬ ((pSc X x3.toNatClampNeg) &&& (31 : Int32)) = 5 → ¬ ((pSc X x3.toNatClampNeg) &&& (31 : Int32)) = 6 → ¬ ((pSc X x3.toNatClampNeg) &&& (31 : Int32)) = 7 → ¬ ((pSc X x3.toNatClampNeg) &&& (31 : Int32)) = 8 → ((pSc X x3.toNatClampNeg) &&& (31 : Int32)) = 9 → vp_in (x3 + (1 : Int32)) (pLn X))
    (h25 : ¬ (((Int32.ofNat (pLn X)) - (6 : Int32)) < x3) → ¬ ((pSc X x3.toNatClampNeg) &&& (31 : Int32)) = 0 → ¬ ((pSc X x3.toNatClampNeg) &&& (31 : Int32)) = 1 → ¬ ((pSc X x3.toNatClampNeg) &&& (31 : Int32)) = 2 → ¬ ((pSc X x3.toNatClampNeg) &&& (31 : Int32)) = 3 → ¬ ((pSc X x3.toNatClampNeg) &&& (31 : Int32)) = 4 → ¬ ((pSc X x3.toNatClampNeg) &&& (31 : Int32)) = 5 → ¬ ((pSc X x3.toNatClampNeg) &&& (31 : Int32)) = 6 → ¬ ((pSc X x3.toNatClampNeg) &&& (31 : Int32)) = 7 → ¬ ((pSc X x3.toNatClampNeg) &&& (31 : Int32)) = 8 → ((pSc X x3.toNatClampNeg) &&& (31 : Int32)) = 9 → vp_in (x3 + (2 : Int32)) (pLn X))
    (h26 : ¬ (((Int32.ofNat (pLn X)) - (6 : Int32)) < x3) → ¬ ((pSc X x3.toNatClampNeg) &&& (31 : Int32)) = 0 → ¬ ((pSc X x3.toNatClampNeg) &&& (31 : Int32)) = 1 → ¬ ((pSc X x3.toNatClampNeg) &&& (31 : Int32)) = 2 → ¬ ((pSc X x3.toNatClampNeg) &&& (31 : Int32)) = 3 → ¬ ((pSc X x3.toNatClampNeg) &&& (31 : Int32)) = 4 → ¬ ((pSc X x3.toNatClampNeg) &&& (31 : Int32)) = 5 → ¬ ((pSc X x3.toNatClampNeg) &&& (31 : Int32)) = 6 → ¬ ((pSc X x3.toNatClampNeg) &&& (31 : Int32)) = 7 → ¬ ((pSc X x3.toNatClampNeg) &&& (31 : Int32)) = 8 → ((pSc X x3.toNatClampNeg) &&& (31 : Int32)) = 9 → Cl X 3 mX11_drop [.ref 0, .int (pSc X (x3 + (1 : Int32)).toNatClampNeg), .int (pSc X (x3 + (2 : Int32)).toNatClampNeg)] m (fun v m2 => GoL X Z 427 [(0, .retAddr 0), (1, .ref 0), (2, .ref 535), (3, .int x3)] (v.toList ++ []) m2))
    (h27 : ¬ (((Int32.ofNat (pLn X)) - (6 : Int32)) < x3) → ¬ ((pSc X x3.toNatClampNeg) &&& (31 : Int32)) = 0 → ¬ ((pSc X x3.toNatClampNeg) &&& (31 : Int32)) = 1 → ¬ ((pSc X x3.toNatClampNeg) &&& (31 : Int32)) = 2 → ¬ ((pSc X x3.toNatClampNeg) &&& (31 : Int32)) = 3 → ¬ ((pSc X x3.toNatClampNeg) &&& (31 : Int32)) = 4 → ¬ ((pSc X x3.toNatClampNeg) &&& (31 : Int32)) = 5 → ¬ ((pSc X x3.toNatClampNeg) &&& (31 : Int32)) = 6 → ¬ ((pSc X x3.toNatClampNeg) &&& (31 : Int32)) = 7 → ¬ ((pSc X x3.toNatClampNeg) &&& (31 : Int32)) = 8 → ¬ ((pSc X x3.toNatClampNeg) &&& (31 : Int32)) = 9 → ((pSc X x3.toNatClampNeg) &&& (31 : Int32)) = 10 → vp_in (x3 + (1 : Int32)) (pLn X))
    (h28 : ¬ (((Int32.ofNat (pLn X)) - (6 : Int32)) < x3) → ¬ ((pSc X x3.toNatClampNeg) &&& (31 : Int32)) = 0 → ¬ ((pSc X x3.toNatClampNeg) &&& (31 : Int32)) = 1 → ¬ ((pSc X x3.toNatClampNeg) &&& (31 : Int32)) = 2 → ¬ ((pSc X x3.toNatClampNeg) &&& (31 : Int32)) = 3 → ¬ ((pSc X x3.toNatClampNeg) &&& (31 : Int32)) = 4 → ¬ ((pSc X x3.toNatClampNeg) &&& (31 : Int32)) = 5 → ¬ ((pSc X x3.toNatClampNeg) &&& (31 : Int32)) = 6 → ¬ ((pSc X x3.toNatClampNeg) &&& (31 : Int32)) = 7 → ¬ ((pSc X x3.toNatClampNeg) &&& (31 : Int32)) = 8 → ¬ ((pSc X x3.toNatClampNeg) &&& (31 : Int32)) = 9 → ((pSc X x3.toNatClampNeg) &&& (31 : Int32)) = 10 → vp_in (x3 + (2 : Int32)) (pLn X))
    (h29 : ¬ (((Int32.ofNat (pLn X)) - (6 : Int32)) < x3) → ¬ ((pSc X x3.toNatClampNeg) &&& (31 : Int32)) = 0 → ¬ ((pSc X x3.toNatClampNeg) &&& (31 : Int32)) = 1 → ¬ ((pSc X x3.toNatClampNeg) &&& (31 : Int32)) = 2 → ¬ ((pSc X x3.toNatClampNeg) &&& (31 : Int32)) = 3 → ¬ ((pSc X x3.toNatClampNeg) &&& (31 : Int32)) = 4 → ¬ ((pSc X x3.toNatClampNeg) &&& (31 : Int32)) = 5 → ¬ ((pSc X x3.toNatClampNeg) &&& (31 : Int32)) = 6 → ¬ ((pSc X x3.toNatClampNeg) &&& (31 : Int32)) = 7 → ¬ ((pSc X x3.toNatClampNeg) &&& (31 : Int32)) = 8 → ¬ ((pSc X x3.toNatClampNeg) &&& (31 : Int32)) = 9 → ((pSc X x3.toNatClampNeg) &&& (31 : Int32)) = 10 → Cl X 3 mX11_take [.ref 0, .int (pSc X (x3 + (1 : Int32)).toNatClampNeg), .int (pSc X (x3 + (2 : Int32)).toNatClampNeg)] m (fun v m2 => GoL X Z 460 [(0, .retAddr 0), (1, .ref 0), (2, .ref 535), (3, .int x3)] (v.toList ++ []) m2))
    (h30 : ¬ (((Int32.ofNat (pLn X)) - (6 : Int32)) < x3) → ¬ ((pSc X x3.toNatClampNeg) &&& (31 : Int32)) = 0 → ¬ ((pSc X x3.toNatClampNeg) &&& (31 : Int32)) = 1 → ¬ ((pSc X x3.toNatClampNeg) &&& (31 : Int32)) = 2 → ¬ ((pSc X x3.toNatClampNeg) &&& (31 : Int32)) = 3 → ¬ ((pSc X x3.toNatClampNeg) &&& (31 : Int32)) = 4 → ¬ ((pSc X x3.toNatClampNeg) &&& (31 : Int32)) = 5 → ¬ ((pSc X x3.toNatClampNeg) &&& (31 : Int32)) = 6 → ¬ ((pSc X x3.toNatClampNeg) &&& (31 : Int32)) = 7 → ¬ ((pSc X x3.toNatClampNeg) &&& (31 : Int32)) = 8 → ¬ ((pSc X x3.toNatClampNeg) &&& (31 : Int32)) = 9 → ¬ ((pSc X x3.toNatClampNeg) &&& (31 : Int32)) = 10 → ((pSc X x3.toNatClampNeg) &&& (31 : Int32)) = 11 → vp_in (x3 + (1 : Int32)) (pLn X))
    (h31 : ¬ (((Int32.ofNat (pLn X)) - (6 : Int32)) < x3) → ¬ ((pSc X x3.toNatClampNeg) &&& (31 : Int32)) = 0 → ¬ ((pSc X x3.toNatClampNeg) &&& (31 : Int32)) = 1 → ¬ ((pSc X x3.toNatClampNeg) &&& (31 : Int32)) = 2 → ¬ ((pSc X x3.toNatClampNeg) &&& (31 : Int32)) = 3 → ¬ ((pSc X x3.toNatClampNeg) &&& (31 : Int32)) = 4 → ¬ ((pSc X x3.toNatClampNeg) &&& (31 : Int32)) = 5 → ¬ ((pSc X x3.toNatClampNeg) &&& (31 : Int32)) = 6 → ¬ ((pSc X x3.toNatClampNeg) &&& (31 : Int32)) = 7 → ¬ ((pSc X x3.toNatClampNeg) &&& (31 : Int32)) = 8 → ¬ ((pSc X x3.toNatClampNeg) &&& (31 : Int32)) = 9 → ¬ ((pSc X x3.toNatClampNeg) &&& (31 : Int32)) = 10 → ((pSc X x3.toNatClampNeg) &&& (31 : Int32)) = 11 → vp_in (x3 + (2 : Int32)) (pLn X))
    (h32 : ¬ (((Int32.ofNat (pLn X)) - (6 : Int32)) < x3) → ¬ ((pSc X x3.toNatClampNeg) &&& (31 : Int32)) = 0 → ¬ ((pSc X x3.toNatClampNeg) &&& (31 : Int32)) = 1 → ¬ ((pSc X x3.toNatClampNeg) &&& (31 : Int32)) = 2 → ¬ ((pSc X x3.toNatClampNeg) &&& (31 : Int32)) = 3 → ¬ ((pSc X x3.toNatClampNeg) &&& (31 : Int32)) = 4 → ¬ ((pSc X x3.toNatClampNeg) &&& (31 : Int32)) = 5 → ¬ ((pSc X x3.toNatClampNeg) &&& (31 : Int32)) = 6 → ¬ ((pSc X x3.toNatClampNeg) &&& (31 : Int32)) = 7 → ¬ ((pSc X x3.toNatClampNeg) &&& (31 : Int32)) = 8 → ¬ ((pSc X x3.toNatClampNeg) &&& (31 : Int32)) = 9 → ¬ ((pSc X x3.toNatClampNeg) &&& (31 : Int32)) = 10 → ((pSc X x3.toNatClampNeg) &&& (31 : Int32)) = 11 → vp_in (x3 + (3 : Int32)) (pLn X))
    (h33 : ¬ (((Int32.ofNat (pLn X)) - (6 : Int32)) < x3) → ¬ ((pSc X x3.toNatClampNeg) &&& (31 : Int32)) = 0 → ¬ ((pSc X x3.toNatClampNeg) &&& (31 : Int32)) = 1 → ¬ ((pSc X x3.toNatClampNeg) &&& (31 : Int32)) = 2 → ¬ ((pSc X x3.toNatClampNeg) &&& (31 : Int32)) = 3 → ¬ ((pSc X x3.toNatClampNeg) &&& (31 : Int32)) = 4 → ¬ ((pSc X x3.toNatClampNeg) &&& (31 : Int32)) = 5 → ¬ ((pSc X x3.toNatClampNeg) &&& (31 : Int32)) = 6 → ¬ ((pSc X x3.toNatClampNeg) &&& (31 : Int32)) = 7 → ¬ ((pSc X x3.toNatClampNeg) &&& (31 : Int32)) = 8 → ¬ ((pSc X x3.toNatClampNeg) &&& (31 : Int32)) = 9 → ¬ ((pSc X x3.toNatClampNeg) &&& (31 : Int32)) = 10 → ((pSc X x3.toNatClampNeg) &&& (31 : Int32)) = 11 → Cl X 3 mX11_give [.ref 0, .int (pSc X (x3 + (1 : Int32)).toNatClampNeg), .int (pSc X (x3 + (2 : Int32)).toNatClampNeg), .int (pSc X (x3 + (3 : Int32)).toNatClampNeg)] m (fun v m2 => GoL X Z 498 [(0, .retAddr 0), (1, .ref 0), (2, .ref 535), (3, .int x3)] (v.toList ++ []) m2))
    (h34 : ¬ (((Int32.ofNat (pLn X)) - (6 : Int32)) < x3) → ¬ ((pSc X x3.toNatClampNeg) &&& (31 : Int32)) = 0 → ¬ ((pSc X x3.toNatClampNeg) &&& (31 : Int32)) = 1 → ¬ ((pSc X x3.toNatClampNeg) &&& (31 : Int32)) = 2 → ¬ ((pSc X x3.toNatClampNeg) &&& (31 : Int32)) = 3 → ¬ ((pSc X x3.toNatClampNeg) &&& (31 : Int32)) = 4 → ¬ ((pSc X x3.toNatClampNeg) &&& (31 : Int32)) = 5 → ¬ ((pSc X x3.toNatClampNeg) &&& (31 : Int32)) = 6 → ¬ ((pSc X x3.toNatClampNeg) &&& (31 : Int32)) = 7 → ¬ ((pSc X x3.toNatClampNeg) &&& (31 : Int32)) = 8 → ¬ ((pSc X x3.toNatClampNeg) &&& (31 : Int32)) = 9 → ¬ ((pSc X x3.toNatClampNeg) &&& (31 : Int32)) = 10 → ¬ ((pSc X x3.toNatClampNeg) &&& (31 : Int32)) = 11 → ((pSc X x3.toNatClampNeg) &&& (31 : Int32)) = 12 → vp_in (x3 + (1 : Int32)) (pLn X))
    (h35 : ¬ (((Int32.ofNat (pLn X)) - (6 : Int32)) < x3) → ¬ ((pSc X x3.toNatClampNeg) &&& (31 : Int32)) = 0 → ¬ ((pSc X x3.toNatClampNeg) &&& (31 : Int32)) = 1 → ¬ ((pSc X x3.toNatClampNeg) &&& (31 : Int32)) = 2 → ¬ ((pSc X x3.toNatClampNeg) &&& (31 : Int32)) = 3 → ¬ ((pSc X x3.toNatClampNeg) &&& (31 : Int32)) = 4 → ¬ ((pSc X x3.toNatClampNeg) &&& (31 : Int32)) = 5 → ¬ ((pSc X x3.toNatClampNeg) &&& (31 : Int32)) = 6 → ¬ ((pSc X x3.toNatClampNeg) &&& (31 : Int32)) = 7 → ¬ ((pSc X x3.toNatClampNeg) &&& (31 : Int32)) = 8 → ¬ ((pSc X x3.toNatClampNeg) &&& (31 : Int32)) = 9 → ¬ ((pSc X x3.toNatClampNeg) &&& (31 : Int32)) = 10 → ¬ ((pSc X x3.toNatClampNeg) &&& (31 : Int32)) = 11 → ((pSc X x3.toNatClampNeg) &&& (31 : Int32)) = 12 → Cl X 3 mX11_rob [.ref 0, .int (pSc X (x3 + (1 : Int32)).toNatClampNeg)] m (fun v m2 => GoL X Z 531 [(0, .retAddr 0), (1, .ref 0), (2, .ref 535), (3, .int x3)] (v.toList ++ []) m2))
    (h36 : ¬ (((Int32.ofNat (pLn X)) - (6 : Int32)) < x3) → ¬ ((pSc X x3.toNatClampNeg) &&& (31 : Int32)) = 0 → ¬ ((pSc X x3.toNatClampNeg) &&& (31 : Int32)) = 1 → ¬ ((pSc X x3.toNatClampNeg) &&& (31 : Int32)) = 2 → ¬ ((pSc X x3.toNatClampNeg) &&& (31 : Int32)) = 3 → ¬ ((pSc X x3.toNatClampNeg) &&& (31 : Int32)) = 4 → ¬ ((pSc X x3.toNatClampNeg) &&& (31 : Int32)) = 5 → ¬ ((pSc X x3.toNatClampNeg) &&& (31 : Int32)) = 6 → ¬ ((pSc X x3.toNatClampNeg) &&& (31 : Int32)) = 7 → ¬ ((pSc X x3.toNatClampNeg) &&& (31 : Int32)) = 8 → ¬ ((pSc X x3.toNatClampNeg) &&& (31 : Int32)) = 9 → ¬ ((pSc X x3.toNatClampNeg) &&& (31 : Int32)) = 10 → ¬ ((pSc X x3.toNatClampNeg) &&& (31 : Int32)) = 11 → ¬ ((pSc X x3.toNatClampNeg) &&& (31 : Int32)) = 12 → ((pSc X x3.toNatClampNeg) &&& (31 : Int32)) = 13 → Cl X 3 mX11_undo [.ref 0] m (fun v m2 => GoL X Z 549 [(0, .retAddr 0), (1, .ref 0), (2, .ref 535), (3, .int x3)] (v.toList ++ []) m2))
    (h37 : ¬ (((Int32.ofNat (pLn X)) - (6 : Int32)) < x3) → ¬ ((pSc X x3.toNatClampNeg) &&& (31 : Int32)) = 0 → ¬ ((pSc X x3.toNatClampNeg) &&& (31 : Int32)) = 1 → ¬ ((pSc X x3.toNatClampNeg) &&& (31 : Int32)) = 2 → ¬ ((pSc X x3.toNatClampNeg) &&& (31 : Int32)) = 3 → ¬ ((pSc X x3.toNatClampNeg) &&& (31 : Int32)) = 4 → ¬ ((pSc X x3.toNatClampNeg) &&& (31 : Int32)) = 5 → ¬ ((pSc X x3.toNatClampNeg) &&& (31 : Int32)) = 6 → ¬ ((pSc X x3.toNatClampNeg) &&& (31 : Int32)) = 7 → ¬ ((pSc X x3.toNatClampNeg) &&& (31 : Int32)) = 8 → ¬ ((pSc X x3.toNatClampNeg) &&& (31 : Int32)) = 9 → ¬ ((pSc X x3.toNatClampNeg) &&& (31 : Int32)) = 10 → ¬ ((pSc X x3.toNatClampNeg) &&& (31 : Int32)) = 11 → ¬ ((pSc X x3.toNatClampNeg) &&& (31 : Int32)) = 12 → ¬ ((pSc X x3.toNatClampNeg) &&& (31 : Int32)) = 13 → ((pSc X x3.toNatClampNeg) &&& (31 : Int32)) = 14 → vp_in (x3 + (1 : Int32)) (pLn X))
    (h38 : ¬ (((Int32.ofNat (pLn X)) - (6 : Int32)) < x3) → ¬ ((pSc X x3.toNatClampNeg) &&& (31 : Int32)) = 0 → ¬ ((pSc X x3.toNatClampNeg) &&& (31 : Int32)) = 1 → ¬ ((pSc X x3.toNatClampNeg) &&& (31 : Int32)) = 2 → ¬ ((pSc X x3.toNatClampNeg) &&& (31 : Int32)) = 3 → ¬ ((pSc X x3.toNatClampNeg) &&& (31 : Int32)) = 4 → ¬ ((pSc X x3.toNatClampNeg) &&& (31 : Int32)) = 5 → ¬ ((pSc X x3.toNatClampNeg) &&& (31 : Int32)) = 6 → ¬ ((pSc X x3.toNatClampNeg) &&& (31 : Int32)) = 7 → ¬ ((pSc X x3.toNatClampNeg) &&& (31 : Int32)) = 8 → ¬ ((pSc X x3.toNatClampNeg) &&& (31 : Int32)) = 9 → ¬ ((pSc X x3.toNatClampNeg) &&& (31 : Int32)) = 10 → ¬ ((pSc X x3.toNatClampNeg) &&& (31 : Int32)) = 11 → ¬ ((pSc X x3.toNatClampNeg) &&& (31 : Int32)) = 12 → ¬ ((pSc X x3.toNatClampNeg) &&& (31 : Int32)) = 13 → ((pSc X x3.toNatClampNeg) &&& (31 : Int32)) = 14 → vp_in (x3 + (2 : Int32)) (pLn X))
    (h39 : ¬ (((Int32.ofNat (pLn X)) - (6 : Int32)) < x3) → ¬ ((pSc X x3.toNatClampNeg) &&& (31 : Int32)) = 0 → ¬ ((pSc X x3.toNatClampNeg) &&& (31 : Int32)) = 1 → ¬ ((pSc X x3.toNatClampNeg) &&& (31 : Int32)) = 2 → ¬ ((pSc X x3.toNatClampNeg) &&& (31 : Int32)) = 3 → ¬ ((pSc X x3.toNatClampNeg) &&& (31 : Int32)) = 4 → ¬ ((pSc X x3.toNatClampNeg) &&& (31 : Int32)) = 5 → ¬ ((pSc X x3.toNatClampNeg) &&& (31 : Int32)) = 6 → ¬ ((pSc X x3.toNatClampNeg) &&& (31 : Int32)) = 7 → ¬ ((pSc X x3.toNatClampNeg) &&& (31 : Int32)) = 8 → ¬ ((pSc X x3.toNatClampNeg) &&& (31 : Int32)) = 9 → ¬ ((pSc X x3.toNatClampNeg) &&& (31 : Int32)) = 10 → ¬ ((pSc X x3.toNatClampNeg) &&& (31 : Int32)) = 11 → ¬ ((pSc X x3.toNatClampNeg) &&& (31 : Int32)) = 12 → ¬ ((pSc X x3.toNatClampNeg) &&& (31 : Int32)) = 13 → ((pSc X x3.toNatClampNeg) &&& (31 : Int32)) = 14 → vp_in (x3 + (3 : Int32)) (pLn X))
    (h40 : ¬ (((Int32.ofNat (pLn X)) - (6 : Int32)) < x3) → ¬ ((pSc X x3.toNatClampNeg) &&& (31 : Int32)) = 0 → ¬ ((pSc X x3.toNatClampNeg) &&& (31 : Int32)) = 1 → ¬ ((pSc X x3.toNatClampNeg) &&& (31 : Int32)) = 2 → ¬ ((pSc X x3.toNatClampNeg) &&& (31 : Int32)) = 3 → ¬ ((pSc X x3.toNatClampNeg) &&& (31 : Int32)) = 4 → ¬ ((pSc X x3.toNatClampNeg) &&& (31 : Int32)) = 5 → ¬ ((pSc X x3.toNatClampNeg) &&& (31 : Int32)) = 6 → ¬ ((pSc X x3.toNatClampNeg) &&& (31 : Int32)) = 7 → ¬ ((pSc X x3.toNatClampNeg) &&& (31 : Int32)) = 8 → ¬ ((pSc X x3.toNatClampNeg) &&& (31 : Int32)) = 9 → ¬ ((pSc X x3.toNatClampNeg) &&& (31 : Int32)) = 10 → ¬ ((pSc X x3.toNatClampNeg) &&& (31 : Int32)) = 11 → ¬ ((pSc X x3.toNatClampNeg) &&& (31 : Int32)) = 12 → ¬ ((pSc X x3.toNatClampNeg) &&& (31 : Int32)) = 13 → ((pSc X x3.toNatClampNeg) &&& (31 : Int32)) = 14 → Cl X 7 mX11_ahead [.ref 0, .int (pSc X (x3 + (1 : Int32)).toNatClampNeg), .int (pSc X (x3 + (2 : Int32)).toNatClampNeg), .int (pSc X (x3 + (3 : Int32)).toNatClampNeg)] m (fun v m2 => GoL X Z 577 [(0, .retAddr 0), (1, .ref 0), (2, .ref 535), (3, .int x3)] (v.toList ++ []) m2))
    (h41 : ¬ (((Int32.ofNat (pLn X)) - (6 : Int32)) < x3) → ¬ ((pSc X x3.toNatClampNeg) &&& (31 : Int32)) = 0 → ¬ ((pSc X x3.toNatClampNeg) &&& (31 : Int32)) = 1 → ¬ ((pSc X x3.toNatClampNeg) &&& (31 : Int32)) = 2 → ¬ ((pSc X x3.toNatClampNeg) &&& (31 : Int32)) = 3 → ¬ ((pSc X x3.toNatClampNeg) &&& (31 : Int32)) = 4 → ¬ ((pSc X x3.toNatClampNeg) &&& (31 : Int32)) = 5 → ¬ ((pSc X x3.toNatClampNeg) &&& (31 : Int32)) = 6 → ¬ ((pSc X x3.toNatClampNeg) &&& (31 : Int32)) = 7 → ¬ ((pSc X x3.toNatClampNeg) &&& (31 : Int32)) = 8 → ¬ ((pSc X x3.toNatClampNeg) &&& (31 : Int32)) = 9 → ¬ ((pSc X x3.toNatClampNeg) &&& (31 : Int32)) = 10 → ¬ ((pSc X x3.toNatClampNeg) &&& (31 : Int32)) = 11 → ¬ ((pSc X x3.toNatClampNeg) &&& (31 : Int32)) = 12 → ¬ ((pSc X x3.toNatClampNeg) &&& (31 : Int32)) = 13 → ¬ ((pSc X x3.toNatClampNeg) &&& (31 : Int32)) = 14 → ((pSc X x3.toNatClampNeg) &&& (31 : Int32)) = 15 → vp_in (x3 + (1 : Int32)) (pLn X))
    (h42 : ¬ (((Int32.ofNat (pLn X)) - (6 : Int32)) < x3) → ¬ ((pSc X x3.toNatClampNeg) &&& (31 : Int32)) = 0 → ¬ ((pSc X x3.toNatClampNeg) &&& (31 : Int32)) = 1 → ¬ ((pSc X x3.toNatClampNeg) &&& (31 : Int32)) = 2 → ¬ ((pSc X x3.toNatClampNeg) &&& (31 : Int32)) = 3 → ¬ ((pSc X x3.toNatClampNeg) &&& (31 : Int32)) = 4 → ¬ ((pSc X x3.toNatClampNeg) &&& (31 : Int32)) = 5 → ¬ ((pSc X x3.toNatClampNeg) &&& (31 : Int32)) = 6 → ¬ ((pSc X x3.toNatClampNeg) &&& (31 : Int32)) = 7 → ¬ ((pSc X x3.toNatClampNeg) &&& (31 : Int32)) = 8 → ¬ ((pSc X x3.toNatClampNeg) &&& (31 : Int32)) = 9 → ¬ ((pSc X x3.toNatClampNeg) &&& (31 : Int32)) = 10 → ¬ ((pSc X x3.toNatClampNeg) &&& (31 : Int32)) = 11 → ¬ ((pSc X x3.toNatClampNeg) &&& (31 : Int32)) = 12 → ¬ ((pSc X x3.toNatClampNeg) &&& (31 : Int32)) = 13 → ¬ ((pSc X x3.toNatClampNeg) &&& (31 : Int32)) = 14 → ((pSc X x3.toNatClampNeg) &&& (31 : Int32)) = 15 → Cl X 5 mX11_comes [.ref 0, .int (pSc X (x3 + (1 : Int32)).toNatClampNeg)] m (fun v m2 => GoL X Z 610 [(0, .retAddr 0), (1, .ref 0), (2, .ref 535), (3, .int x3)] (v.toList ++ []) m2))
    (h43 : ¬ (((Int32.ofNat (pLn X)) - (6 : Int32)) < x3) → ¬ ((pSc X x3.toNatClampNeg) &&& (31 : Int32)) = 0 → ¬ ((pSc X x3.toNatClampNeg) &&& (31 : Int32)) = 1 → ¬ ((pSc X x3.toNatClampNeg) &&& (31 : Int32)) = 2 → ¬ ((pSc X x3.toNatClampNeg) &&& (31 : Int32)) = 3 → ¬ ((pSc X x3.toNatClampNeg) &&& (31 : Int32)) = 4 → ¬ ((pSc X x3.toNatClampNeg) &&& (31 : Int32)) = 5 → ¬ ((pSc X x3.toNatClampNeg) &&& (31 : Int32)) = 6 → ¬ ((pSc X x3.toNatClampNeg) &&& (31 : Int32)) = 7 → ¬ ((pSc X x3.toNatClampNeg) &&& (31 : Int32)) = 8 → ¬ ((pSc X x3.toNatClampNeg) &&& (31 : Int32)) = 9 → ¬ ((pSc X x3.toNatClampNeg) &&& (31 : Int32)) = 10 → ¬ ((pSc X x3.toNatClampNeg) &&& (31 : Int32)) = 11 → ¬ ((pSc X x3.toNatClampNeg) &&& (31 : Int32)) = 12 → ¬ ((pSc X x3.toNatClampNeg) &&& (31 : Int32)) = 13 → ¬ ((pSc X x3.toNatClampNeg) &&& (31 : Int32)) = 14 → ¬ ((pSc X x3.toNatClampNeg) &&& (31 : Int32)) = 15 → ((pSc X x3.toNatClampNeg) &&& (31 : Int32)) = 16 → vp_in (x3 + (1 : Int32)) (pLn X))
    (h44 : ¬ (((Int32.ofNat (pLn X)) - (6 : Int32)) < x3) → ¬ ((pSc X x3.toNatClampNeg) &&& (31 : Int32)) = 0 → ¬ ((pSc X x3.toNatClampNeg) &&& (31 : Int32)) = 1 → ¬ ((pSc X x3.toNatClampNeg) &&& (31 : Int32)) = 2 → ¬ ((pSc X x3.toNatClampNeg) &&& (31 : Int32)) = 3 → ¬ ((pSc X x3.toNatClampNeg) &&& (31 : Int32)) = 4 → ¬ ((pSc X x3.toNatClampNeg) &&& (31 : Int32)) = 5 → ¬ ((pSc X x3.toNatClampNeg) &&& (31 : Int32)) = 6 → ¬ ((pSc X x3.toNatClampNeg) &&& (31 : Int32)) = 7 → ¬ ((pSc X x3.toNatClampNeg) &&& (31 : Int32)) = 8 → ¬ ((pSc X x3.toNatClampNeg) &&& (31 : Int32)) = 9 → ¬ ((pSc X x3.toNatClampNeg) &&& (31 : Int32)) = 10 → ¬ ((pSc X x3.toNatClampNeg) &&& (31 : Int32)) = 11 → ¬ ((pSc X x3.toNatClampNeg) &&& (31 : Int32)) = 12 → ¬ ((pSc X x3.toNatClampNeg) &&& (31 : Int32)) = 13 → ¬ ((pSc X x3.toNatClampNeg) &&& (31 : Int32)) = 14 → ¬ ((pSc X x3.toNatClampNeg) &&& (31 : Int32)) = 15 → ((pSc X x3.toNatClampNeg) &&& (31 : Int32)) = 16 → Cl X 7 mX11_wealth [.ref 0, .int (pSc X (x3 + (1 : Int32)).toNatClampNeg)] m (fun v m2 => GoL X Z 633 [(0, .retAddr 0), (1, .ref 0), (2, .ref 535), (3, .int x3)] (v.toList ++ []) m2))
    (h45 : ¬ (((Int32.ofNat (pLn X)) - (6 : Int32)) < x3) → ¬ ((pSc X x3.toNatClampNeg) &&& (31 : Int32)) = 0 → ¬ ((pSc X x3.toNatClampNeg) &&& (31 : Int32)) = 1 → ¬ ((pSc X x3.toNatClampNeg) &&& (31 : Int32)) = 2 → ¬ ((pSc X x3.toNatClampNeg) &&& (31 : Int32)) = 3 → ¬ ((pSc X x3.toNatClampNeg) &&& (31 : Int32)) = 4 → ¬ ((pSc X x3.toNatClampNeg) &&& (31 : Int32)) = 5 → ¬ ((pSc X x3.toNatClampNeg) &&& (31 : Int32)) = 6 → ¬ ((pSc X x3.toNatClampNeg) &&& (31 : Int32)) = 7 → ¬ ((pSc X x3.toNatClampNeg) &&& (31 : Int32)) = 8 → ¬ ((pSc X x3.toNatClampNeg) &&& (31 : Int32)) = 9 → ¬ ((pSc X x3.toNatClampNeg) &&& (31 : Int32)) = 10 → ¬ ((pSc X x3.toNatClampNeg) &&& (31 : Int32)) = 11 → ¬ ((pSc X x3.toNatClampNeg) &&& (31 : Int32)) = 12 → ¬ ((pSc X x3.toNatClampNeg) &&& (31 : Int32)) = 13 → ¬ ((pSc X x3.toNatClampNeg) &&& (31 : Int32)) = 14 → ¬ ((pSc X x3.toNatClampNeg) &&& (31 : Int32)) = 15 → ¬ ((pSc X x3.toNatClampNeg) &&& (31 : Int32)) = 16 → ((pSc X x3.toNatClampNeg) &&& (31 : Int32)) = 17 → vp_in (x3 + (1 : Int32)) (pLn X))
    (h46 : ¬ (((Int32.ofNat (pLn X)) - (6 : Int32)) < x3) → ¬ ((pSc X x3.toNatClampNeg) &&& (31 : Int32)) = 0 → ¬ ((pSc X x3.toNatClampNeg) &&& (31 : Int32)) = 1 → ¬ ((pSc X x3.toNatClampNeg) &&& (31 : Int32)) = 2 → ¬ ((pSc X x3.toNatClampNeg) &&& (31 : Int32)) = 3 → ¬ ((pSc X x3.toNatClampNeg) &&& (31 : Int32)) = 4 → ¬ ((pSc X x3.toNatClampNeg) &&& (31 : Int32)) = 5 → ¬ ((pSc X x3.toNatClampNeg) &&& (31 : Int32)) = 6 → ¬ ((pSc X x3.toNatClampNeg) &&& (31 : Int32)) = 7 → ¬ ((pSc X x3.toNatClampNeg) &&& (31 : Int32)) = 8 → ¬ ((pSc X x3.toNatClampNeg) &&& (31 : Int32)) = 9 → ¬ ((pSc X x3.toNatClampNeg) &&& (31 : Int32)) = 10 → ¬ ((pSc X x3.toNatClampNeg) &&& (31 : Int32)) = 11 → ¬ ((pSc X x3.toNatClampNeg) &&& (31 : Int32)) = 12 → ¬ ((pSc X x3.toNatClampNeg) &&& (31 : Int32)) = 13 → ¬ ((pSc X x3.toNatClampNeg) &&& (31 : Int32)) = 14 → ¬ ((pSc X x3.toNatClampNeg) &&& (31 : Int32)) = 15 → ¬ ((pSc X x3.toNatClampNeg) &&& (31 : Int32)) = 16 → ((pSc X x3.toNatClampNeg) &&& (31 : Int32)) = 17 → vp_in (x3 + (2 : Int32)) (pLn X))
    (h47 : ¬ (((Int32.ofNat (pLn X)) - (6 : Int32)) < x3) → ¬ ((pSc X x3.toNatClampNeg) &&& (31 : Int32)) = 0 → ¬ ((pSc X x3.toNatClampNeg) &&& (31 : Int32)) = 1 → ¬ ((pSc X x3.toNatClampNeg) &&& (31 : Int32)) = 2 → ¬ ((pSc X x3.toNatClampNeg) &&& (31 : Int32)) = 3 → ¬ ((pSc X x3.toNatClampNeg) &&& (31 : Int32)) = 4 → ¬ ((pSc X x3.toNatClampNeg) &&& (31 : Int32)) = 5 → ¬ ((pSc X x3.toNatClampNeg) &&& (31 : Int32)) = 6 → ¬ ((pSc X x3.toNatClampNeg) &&& (31 : Int32)) = 7 → ¬ ((pSc X x3.toNatClampNeg) &&& (31 : Int32)) = 8 → ¬ ((pSc X x3.toNatClampNeg) &&& (31 : Int32)) = 9 → ¬ ((pSc X x3.toNatClampNeg) &&& (31 : Int32)) = 10 → ¬ ((pSc X x3.toNatClampNeg) &&& (31 : Int32)) = 11 → ¬ ((pSc X x3.toNatClampNeg) &&& (31 : Int32)) = 12 → ¬ ((pSc X x3.toNatClampNeg) &&& (31 : Int32)) = 13 → ¬ ((pSc X x3.toNatClampNeg) &&& (31 : Int32)) = 14 → ¬ ((pSc X x3.toNatClampNeg) &&& (31 : Int32)) = 15 → ¬ ((pSc X x3.toNatClampNeg) &&& (31 : Int32)) = 16 → ((pSc X x3.toNatClampNeg) &&& (31 : Int32)) = 17 → Cl X 3 mX11_far [.ref 0, .int (pSc X (x3 + (1 : Int32)).toNatClampNeg), .int (pSc X (x3 + (2 : Int32)).toNatClampNeg)] m (fun v m2 => GoL X Z 661 [(0, .retAddr 0), (1, .ref 0), (2, .ref 535), (3, .int x3)] (v.toList ++ []) m2))
    (h48 : ¬ (((Int32.ofNat (pLn X)) - (6 : Int32)) < x3) → ¬ ((pSc X x3.toNatClampNeg) &&& (31 : Int32)) = 0 → ¬ ((pSc X x3.toNatClampNeg) &&& (31 : Int32)) = 1 → ¬ ((pSc X x3.toNatClampNeg) &&& (31 : Int32)) = 2 → ¬ ((pSc X x3.toNatClampNeg) &&& (31 : Int32)) = 3 → ¬ ((pSc X x3.toNatClampNeg) &&& (31 : Int32)) = 4 → ¬ ((pSc X x3.toNatClampNeg) &&& (31 : Int32)) = 5 → ¬ ((pSc X x3.toNatClampNeg) &&& (31 : Int32)) = 6 → ¬ ((pSc X x3.toNatClampNeg) &&& (31 : Int32)) = 7 → ¬ ((pSc X x3.toNatClampNeg) &&& (31 : Int32)) = 8 → ¬ ((pSc X x3.toNatClampNeg) &&& (31 : Int32)) = 9 → ¬ ((pSc X x3.toNatClampNeg) &&& (31 : Int32)) = 10 → ¬ ((pSc X x3.toNatClampNeg) &&& (31 : Int32)) = 11 → ¬ ((pSc X x3.toNatClampNeg) &&& (31 : Int32)) = 12 → ¬ ((pSc X x3.toNatClampNeg) &&& (31 : Int32)) = 13 → ¬ ((pSc X x3.toNatClampNeg) &&& (31 : Int32)) = 14 → ¬ ((pSc X x3.toNatClampNeg) &&& (31 : Int32)) = 15 → ¬ ((pSc X x3.toNatClampNeg) &&& (31 : Int32)) = 16 → ¬ ((pSc X x3.toNatClampNeg) &&& (31 : Int32)) = 17 → ((pSc X x3.toNatClampNeg) &&& (31 : Int32)) = 18 → vp_in (x3 + (1 : Int32)) (pLn X))
    (h49 : ¬ (((Int32.ofNat (pLn X)) - (6 : Int32)) < x3) → ¬ ((pSc X x3.toNatClampNeg) &&& (31 : Int32)) = 0 → ¬ ((pSc X x3.toNatClampNeg) &&& (31 : Int32)) = 1 → ¬ ((pSc X x3.toNatClampNeg) &&& (31 : Int32)) = 2 → ¬ ((pSc X x3.toNatClampNeg) &&& (31 : Int32)) = 3 → ¬ ((pSc X x3.toNatClampNeg) &&& (31 : Int32)) = 4 → ¬ ((pSc X x3.toNatClampNeg) &&& (31 : Int32)) = 5 → ¬ ((pSc X x3.toNatClampNeg) &&& (31 : Int32)) = 6 → ¬ ((pSc X x3.toNatClampNeg) &&& (31 : Int32)) = 7 → ¬ ((pSc X x3.toNatClampNeg) &&& (31 : Int32)) = 8 → ¬ ((pSc X x3.toNatClampNeg) &&& (31 : Int32)) = 9 → ¬ ((pSc X x3.toNatClampNeg) &&& (31 : Int32)) = 10 → ¬ ((pSc X x3.toNatClampNeg) &&& (31 : Int32)) = 11 → ¬ ((pSc X x3.toNatClampNeg) &&& (31 : Int32)) = 12 → ¬ ((pSc X x3.toNatClampNeg) &&& (31 : Int32)) = 13 → ¬ ((pSc X x3.toNatClampNeg) &&& (31 : Int32)) = 14 → ¬ ((pSc X x3.toNatClampNeg) &&& (31 : Int32)) = 15 → ¬ ((pSc X x3.toNatClampNeg) &&& (31 : Int32)) = 16 → ¬ ((pSc X x3.toNatClampNeg) &&& (31 : Int32)) = 17 → ((pSc X x3.toNatClampNeg) &&& (31 : Int32)) = 18 → vp_in (x3 + (2 : Int32)) (pLn X))
    (h50 : ¬ (((Int32.ofNat (pLn X)) - (6 : Int32)) < x3) → ¬ ((pSc X x3.toNatClampNeg) &&& (31 : Int32)) = 0 → ¬ ((pSc X x3.toNatClampNeg) &&& (31 : Int32)) = 1 → ¬ ((pSc X x3.toNatClampNeg) &&& (31 : Int32)) = 2 → ¬ ((pSc X x3.toNatClampNeg) &&& (31 : Int32)) = 3 → ¬ ((pSc X x3.toNatClampNeg) &&& (31 : Int32)) = 4 → ¬ ((pSc X x3.toNatClampNeg) &&& (31 : Int32)) = 5 → ¬ ((pSc X x3.toNatClampNeg) &&& (31 : Int32)) = 6 → ¬ ((pSc X x3.toNatClampNeg) &&& (31 : Int32)) = 7 → ¬ ((pSc X x3.toNatClampNeg) &&& (31 : Int32)) = 8 → ¬ ((pSc X x3.toNatClampNeg) &&& (31 : Int32)) = 9 → ¬ ((pSc X x3.toNatClampNeg) &&& (31 : Int32)) = 10 → ¬ ((pSc X x3.toNatClampNeg) &&& (31 : Int32)) = 11 → ¬ ((pSc X x3.toNatClampNeg) &&& (31 : Int32)) = 12 → ¬ ((pSc X x3.toNatClampNeg) &&& (31 : Int32)) = 13 → ¬ ((pSc X x3.toNatClampNeg) &&& (31 : Int32)) = 14 → ¬ ((pSc X x3.toNatClampNeg) &&& (31 : Int32)) = 15 → ¬ ((pSc X x3.toNatClampNeg) &&& (31 : Int32)) = 16 → ¬ ((pSc X x3.toNatClampNeg) &&& (31 : Int32)) = 17 → ((pSc X x3.toNatClampNeg) &&& (31 : Int32)) = 18 → vp_in (x3 + (3 : Int32)) (pLn X))
    (h51 : ¬ (((Int32.ofNat (pLn X)) - (6 : Int32)) < x3) → ¬ ((pSc X x3.toNatClampNeg) &&& (31 : Int32)) = 0 → ¬ ((pSc X x3.toNatClampNeg) &&& (31 : Int32)) = 1 → ¬ ((pSc X x3.toNatClampNeg) &&& (31 : Int32)) = 2 → ¬ ((pSc X x3.toNatClampNeg) &&& (31 : Int32)) = 3 → ¬ ((pSc X x3.toNatClampNeg) &&& (31 : Int32)) = 4 → ¬ ((pSc X x3.toNatClampNeg) &&& (31 : Int32)) = 5 → ¬ ((pSc X x3.toNatClampNeg) &&& (31 : Int32)) = 6 → ¬ ((pSc X x3.toNatClampNeg) &&& (31 : Int32)) = 7 → ¬ ((pSc X x3.toNatClampNeg) &&& (31 : Int32)) = 8 → ¬ ((pSc X x3.toNatClampNeg) &&& (31 : Int32)) = 9 → ¬ ((pSc X x3.toNatClampNeg) &&& (31 : Int32)) = 10 → ¬ ((pSc X x3.toNatClampNeg) &&& (31 : Int32)) = 11 → ¬ ((pSc X x3.toNatClampNeg) &&& (31 : Int32)) = 12 → ¬ ((pSc X x3.toNatClampNeg) &&& (31 : Int32)) = 13 → ¬ ((pSc X x3.toNatClampNeg) &&& (31 : Int32)) = 14 → ¬ ((pSc X x3.toNatClampNeg) &&& (31 : Int32)) = 15 → ¬ ((pSc X x3.toNatClampNeg) &&& (31 : Int32)) = 16 → ¬ ((pSc X x3.toNatClampNeg) &&& (31 : Int32)) = 17 → ((pSc X x3.toNatClampNeg) &&& (31 : Int32)) = 18 → Cl X 4 mX11_load [.ref 0, .int (pSc X (x3 + (1 : Int32)).toNatClampNeg), .int (pSc X (x3 + (2 : Int32)).toNatClampNeg), .int (pSc X (x3 + (3 : Int32)).toNatClampNeg)] m (fun v m2 => GoL X Z 699 [(0, .retAddr 0), (1, .ref 0), (2, .ref 535), (3, .int x3)] (v.toList ++ []) m2))
    (h52 : ¬ (((Int32.ofNat (pLn X)) - (6 : Int32)) < x3) → ¬ ((pSc X x3.toNatClampNeg) &&& (31 : Int32)) = 0 → ¬ ((pSc X x3.toNatClampNeg) &&& (31 : Int32)) = 1 → ¬ ((pSc X x3.toNatClampNeg) &&& (31 : Int32)) = 2 → ¬ ((pSc X x3.toNatClampNeg) &&& (31 : Int32)) = 3 → ¬ ((pSc X x3.toNatClampNeg) &&& (31 : Int32)) = 4 → ¬ ((pSc X x3.toNatClampNeg) &&& (31 : Int32)) = 5 → ¬ ((pSc X x3.toNatClampNeg) &&& (31 : Int32)) = 6 → ¬ ((pSc X x3.toNatClampNeg) &&& (31 : Int32)) = 7 → ¬ ((pSc X x3.toNatClampNeg) &&& (31 : Int32)) = 8 → ¬ ((pSc X x3.toNatClampNeg) &&& (31 : Int32)) = 9 → ¬ ((pSc X x3.toNatClampNeg) &&& (31 : Int32)) = 10 → ¬ ((pSc X x3.toNatClampNeg) &&& (31 : Int32)) = 11 → ¬ ((pSc X x3.toNatClampNeg) &&& (31 : Int32)) = 12 → ¬ ((pSc X x3.toNatClampNeg) &&& (31 : Int32)) = 13 → ¬ ((pSc X x3.toNatClampNeg) &&& (31 : Int32)) = 14 → ¬ ((pSc X x3.toNatClampNeg) &&& (31 : Int32)) = 15 → ¬ ((pSc X x3.toNatClampNeg) &&& (31 : Int32)) = 16 → ¬ ((pSc X x3.toNatClampNeg) &&& (31 : Int32)) = 17 → ¬ ((pSc X x3.toNatClampNeg) &&& (31 : Int32)) = 18 → ((pSc X x3.toNatClampNeg) &&& (31 : Int32)) = 19 → vp_in (x3 + (1 : Int32)) (pLn X))
    (h53 : ¬ (((Int32.ofNat (pLn X)) - (6 : Int32)) < x3) → ¬ ((pSc X x3.toNatClampNeg) &&& (31 : Int32)) = 0 → ¬ ((pSc X x3.toNatClampNeg) &&& (31 : Int32)) = 1 → ¬ ((pSc X x3.toNatClampNeg) &&& (31 : Int32)) = 2 → ¬ ((pSc X x3.toNatClampNeg) &&& (31 : Int32)) = 3 → ¬ ((pSc X x3.toNatClampNeg) &&& (31 : Int32)) = 4 → ¬ ((pSc X x3.toNatClampNeg) &&& (31 : Int32)) = 5 → ¬ ((pSc X x3.toNatClampNeg) &&& (31 : Int32)) = 6 → ¬ ((pSc X x3.toNatClampNeg) &&& (31 : Int32)) = 7 → ¬ ((pSc X x3.toNatClampNeg) &&& (31 : Int32)) = 8 → ¬ ((pSc X x3.toNatClampNeg) &&& (31 : Int32)) = 9 → ¬ ((pSc X x3.toNatClampNeg) &&& (31 : Int32)) = 10 → ¬ ((pSc X x3.toNatClampNeg) &&& (31 : Int32)) = 11 → ¬ ((pSc X x3.toNatClampNeg) &&& (31 : Int32)) = 12 → ¬ ((pSc X x3.toNatClampNeg) &&& (31 : Int32)) = 13 → ¬ ((pSc X x3.toNatClampNeg) &&& (31 : Int32)) = 14 → ¬ ((pSc X x3.toNatClampNeg) &&& (31 : Int32)) = 15 → ¬ ((pSc X x3.toNatClampNeg) &&& (31 : Int32)) = 16 → ¬ ((pSc X x3.toNatClampNeg) &&& (31 : Int32)) = 17 → ¬ ((pSc X x3.toNatClampNeg) &&& (31 : Int32)) = 18 → ((pSc X x3.toNatClampNeg) &&& (31 : Int32)) = 19 → vp_in (x3 + (2 : Int32)) (pLn X))
    (h54 : ¬ (((Int32.ofNat (pLn X)) - (6 : Int32)) < x3) → ¬ ((pSc X x3.toNatClampNeg) &&& (31 : Int32)) = 0 → ¬ ((pSc X x3.toNatClampNeg) &&& (31 : Int32)) = 1 → ¬ ((pSc X x3.toNatClampNeg) &&& (31 : Int32)) = 2 → ¬ ((pSc X x3.toNatClampNeg) &&& (31 : Int32)) = 3 → ¬ ((pSc X x3.toNatClampNeg) &&& (31 : Int32)) = 4 → ¬ ((pSc X x3.toNatClampNeg) &&& (31 : Int32)) = 5 → ¬ ((pSc X x3.toNatClampNeg) &&& (31 : Int32)) = 6 → ¬ ((pSc X x3.toNatClampNeg) &&& (31 : Int32)) = 7 → ¬ ((pSc X x3.toNatClampNeg) &&& (31 : Int32)) = 8 → ¬ ((pSc X x3.toNatClampNeg) &&& (31 : Int32)) = 9 → ¬ ((pSc X x3.toNatClampNeg) &&& (31 : Int32)) = 10 → ¬ ((pSc X x3.toNatClampNeg) &&& (31 : Int32)) = 11 → ¬ ((pSc X x3.toNatClampNeg) &&& (31 : Int32)) = 12 → ¬ ((pSc X x3.toNatClampNeg) &&& (31 : Int32)) = 13 → ¬ ((pSc X x3.toNatClampNeg) &&& (31 : Int32)) = 14 → ¬ ((pSc X x3.toNatClampNeg) &&& (31 : Int32)) = 15 → ¬ ((pSc X x3.toNatClampNeg) &&& (31 : Int32)) = 16 → ¬ ((pSc X x3.toNatClampNeg) &&& (31 : Int32)) = 17 → ¬ ((pSc X x3.toNatClampNeg) &&& (31 : Int32)) = 18 → ((pSc X x3.toNatClampNeg) &&& (31 : Int32)) = 19 → vp_in (x3 + (3 : Int32)) (pLn X))
    (h55 : ¬ (((Int32.ofNat (pLn X)) - (6 : Int32)) < x3) → ¬ ((pSc X x3.toNatClampNeg) &&& (31 : Int32)) = 0 → ¬ ((pSc X x3.toNatClampNeg) &&& (31 : Int32)) = 1 → ¬ ((pSc X x3.toNatClampNeg) &&& (31 : Int32)) = 2 → ¬ ((pSc X x3.toNatClampNeg) &&& (31 : Int32)) = 3 → ¬ ((pSc X x3.toNatClampNeg) &&& (31 : Int32)) = 4 → ¬ ((pSc X x3.toNatClampNeg) &&& (31 : Int32)) = 5 → ¬ ((pSc X x3.toNatClampNeg) &&& (31 : Int32)) = 6 → ¬ ((pSc X x3.toNatClampNeg) &&& (31 : Int32)) = 7 → ¬ ((pSc X x3.toNatClampNeg) &&& (31 : Int32)) = 8 → ¬ ((pSc X x3.toNatClampNeg) &&& (31 : Int32)) = 9 → ¬ ((pSc X x3.toNatClampNeg) &&& (31 : Int32)) = 10 → ¬ ((pSc X x3.toNatClampNeg) &&& (31 : Int32)) = 11 → ¬ ((pSc X x3.toNatClampNeg) &&& (31 : Int32)) = 12 → ¬ ((pSc X x3.toNatClampNeg) &&& (31 : Int32)) = 13 → ¬ ((pSc X x3.toNatClampNeg) &&& (31 : Int32)) = 14 → ¬ ((pSc X x3.toNatClampNeg) &&& (31 : Int32)) = 15 → ¬ ((pSc X x3.toNatClampNeg) &&& (31 : Int32)) = 16 → ¬ ((pSc X x3.toNatClampNeg) &&& (31 : Int32)) = 17 → ¬ ((pSc X x3.toNatClampNeg) &&& (31 : Int32)) = 18 → ((pSc X x3.toNatClampNeg) &&& (31 : Int32)) = 19 → vp_in (x3 + (4 : Int32)) (pLn X))
    (h56 : ¬ (((Int32.ofNat (pLn X)) - (6 : Int32)) < x3) → ¬ ((pSc X x3.toNatClampNeg) &&& (31 : Int32)) = 0 → ¬ ((pSc X x3.toNatClampNeg) &&& (31 : Int32)) = 1 → ¬ ((pSc X x3.toNatClampNeg) &&& (31 : Int32)) = 2 → ¬ ((pSc X x3.toNatClampNeg) &&& (31 : Int32)) = 3 → ¬ ((pSc X x3.toNatClampNeg) &&& (31 : Int32)) = 4 → ¬ ((pSc X x3.toNatClampNeg) &&& (31 : Int32)) = 5 → ¬ ((pSc X x3.toNatClampNeg) &&& (31 : Int32)) = 6 → ¬ ((pSc X x3.toNatClampNeg) &&& (31 : Int32)) = 7 → ¬ ((pSc X x3.toNatClampNeg) &&& (31 : Int32)) = 8 → ¬ ((pSc X x3.toNatClampNeg) &&& (31 : Int32)) = 9 → ¬ ((pSc X x3.toNatClampNeg) &&& (31 : Int32)) = 10 → ¬ ((pSc X x3.toNatClampNeg) &&& (31 : Int32)) = 11 → ¬ ((pSc X x3.toNatClampNeg) &&& (31 : Int32)) = 12 → ¬ ((pSc X x3.toNatClampNeg) &&& (31 : Int32)) = 13 → ¬ ((pSc X x3.toNatClampNeg) &&& (31 : Int32)) = 14 → ¬ ((pSc X x3.toNatClampNeg) &&& (31 : Int32)) = 15 → ¬ ((pSc X x3.toNatClampNeg) &&& (31 : Int32)) = 16 → ¬ ((pSc X x3.toNatClampNeg) &&& (31 : Int32)) = 17 → ¬ ((pSc X x3.toNatClampNeg) &&& (31 : Int32)) = 18 → ((pSc X x3.toNatClampNeg) &&& (31 : Int32)) = 19 → vp_in (x3 + (5 : Int32)) (pLn X))
    (h57 : ¬ (((Int32.ofNat (pLn X)) - (6 : Int32)) < x3) → ¬ ((pSc X x3.toNatClampNeg) &&& (31 : Int32)) = 0 → ¬ ((pSc X x3.toNatClampNeg) &&& (31 : Int32)) = 1 → ¬ ((pSc X x3.toNatClampNeg) &&& (31 : Int32)) = 2 → ¬ ((pSc X x3.toNatClampNeg) &&& (31 : Int32)) = 3 → ¬ ((pSc X x3.toNatClampNeg) &&& (31 : Int32)) = 4 → ¬ ((pSc X x3.toNatClampNeg) &&& (31 : Int32)) = 5 → ¬ ((pSc X x3.toNatClampNeg) &&& (31 : Int32)) = 6 → ¬ ((pSc X x3.toNatClampNeg) &&& (31 : Int32)) = 7 → ¬ ((pSc X x3.toNatClampNeg) &&& (31 : Int32)) = 8 → ¬ ((pSc X x3.toNatClampNeg) &&& (31 : Int32)) = 9 → ¬ ((pSc X x3.toNatClampNeg) &&& (31 : Int32)) = 10 → ¬ ((pSc X x3.toNatClampNeg) &&& (31 : Int32)) = 11 → ¬ ((pSc X x3.toNatClampNeg) &&& (31 : Int32)) = 12 → ¬ ((pSc X x3.toNatClampNeg) &&& (31 : Int32)) = 13 → ¬ ((pSc X x3.toNatClampNeg) &&& (31 : Int32)) = 14 → ¬ ((pSc X x3.toNatClampNeg) &&& (31 : Int32)) = 15 → ¬ ((pSc X x3.toNatClampNeg) &&& (31 : Int32)) = 16 → ¬ ((pSc X x3.toNatClampNeg) &&& (31 : Int32)) = 17 → ¬ ((pSc X x3.toNatClampNeg) &&& (31 : Int32)) = 18 → ((pSc X x3.toNatClampNeg) &&& (31 : Int32)) = 19 → Cl X 3 mX11_had [.ref 0, .int (pSc X (x3 + (1 : Int32)).toNatClampNeg), .int (pSc X (x3 + (2 : Int32)).toNatClampNeg), .int (pSc X (x3 + (3 : Int32)).toNatClampNeg), .int (pSc X (x3 + (4 : Int32)).toNatClampNeg), .int (pSc X (x3 + (5 : Int32)).toNatClampNeg)] m (fun v m2 => GoL X Z 752 [(0, .retAddr 0), (1, .ref 0), (2, .ref 535), (3, .int x3)] (v.toList ++ []) m2))
    (h58 : ¬ (((Int32.ofNat (pLn X)) - (6 : Int32)) < x3) → ¬ ((pSc X x3.toNatClampNeg) &&& (31 : Int32)) = 0 → ¬ ((pSc X x3.toNatClampNeg) &&& (31 : Int32)) = 1 → ¬ ((pSc X x3.toNatClampNeg) &&& (31 : Int32)) = 2 → ¬ ((pSc X x3.toNatClampNeg) &&& (31 : Int32)) = 3 → ¬ ((pSc X x3.toNatClampNeg) &&& (31 : Int32)) = 4 → ¬ ((pSc X x3.toNatClampNeg) &&& (31 : Int32)) = 5 → ¬ ((pSc X x3.toNatClampNeg) &&& (31 : Int32)) = 6 → ¬ ((pSc X x3.toNatClampNeg) &&& (31 : Int32)) = 7 → ¬ ((pSc X x3.toNatClampNeg) &&& (31 : Int32)) = 8 → ¬ ((pSc X x3.toNatClampNeg) &&& (31 : Int32)) = 9 → ¬ ((pSc X x3.toNatClampNeg) &&& (31 : Int32)) = 10 → ¬ ((pSc X x3.toNatClampNeg) &&& (31 : Int32)) = 11 → ¬ ((pSc X x3.toNatClampNeg) &&& (31 : Int32)) = 12 → ¬ ((pSc X x3.toNatClampNeg) &&& (31 : Int32)) = 13 → ¬ ((pSc X x3.toNatClampNeg) &&& (31 : Int32)) = 14 → ¬ ((pSc X x3.toNatClampNeg) &&& (31 : Int32)) = 15 → ¬ ((pSc X x3.toNatClampNeg) &&& (31 : Int32)) = 16 → ¬ ((pSc X x3.toNatClampNeg) &&& (31 : Int32)) = 17 → ¬ ((pSc X x3.toNatClampNeg) &&& (31 : Int32)) = 18 → ¬ ((pSc X x3.toNatClampNeg) &&& (31 : Int32)) = 19 → ((pSc X x3.toNatClampNeg) &&& (31 : Int32)) = 20 → vp_in (x3 + (1 : Int32)) (pLn X))
    (h59 : ¬ (((Int32.ofNat (pLn X)) - (6 : Int32)) < x3) → ¬ ((pSc X x3.toNatClampNeg) &&& (31 : Int32)) = 0 → ¬ ((pSc X x3.toNatClampNeg) &&& (31 : Int32)) = 1 → ¬ ((pSc X x3.toNatClampNeg) &&& (31 : Int32)) = 2 → ¬ ((pSc X x3.toNatClampNeg) &&& (31 : Int32)) = 3 → ¬ ((pSc X x3.toNatClampNeg) &&& (31 : Int32)) = 4 → ¬ ((pSc X x3.toNatClampNeg) &&& (31 : Int32)) = 5 → ¬ ((pSc X x3.toNatClampNeg) &&& (31 : Int32)) = 6 → ¬ ((pSc X x3.toNatClampNeg) &&& (31 : Int32)) = 7 → ¬ ((pSc X x3.toNatClampNeg) &&& (31 : Int32)) = 8 → ¬ ((pSc X x3.toNatClampNeg) &&& (31 : Int32)) = 9 → ¬ ((pSc X x3.toNatClampNeg) &&& (31 : Int32)) = 10 → ¬ ((pSc X x3.toNatClampNeg) &&& (31 : Int32)) = 11 → ¬ ((pSc X x3.toNatClampNeg) &&& (31 : Int32)) = 12 → ¬ ((pSc X x3.toNatClampNeg) &&& (31 : Int32)) = 13 → ¬ ((pSc X x3.toNatClampNeg) &&& (31 : Int32)) = 14 → ¬ ((pSc X x3.toNatClampNeg) &&& (31 : Int32)) = 15 → ¬ ((pSc X x3.toNatClampNeg) &&& (31 : Int32)) = 16 → ¬ ((pSc X x3.toNatClampNeg) &&& (31 : Int32)) = 17 → ¬ ((pSc X x3.toNatClampNeg) &&& (31 : Int32)) = 18 → ¬ ((pSc X x3.toNatClampNeg) &&& (31 : Int32)) = 19 → ((pSc X x3.toNatClampNeg) &&& (31 : Int32)) = 20 → vp_in (x3 + (2 : Int32)) (pLn X))
    (h60 : ¬ (((Int32.ofNat (pLn X)) - (6 : Int32)) < x3) → ¬ ((pSc X x3.toNatClampNeg) &&& (31 : Int32)) = 0 → ¬ ((pSc X x3.toNatClampNeg) &&& (31 : Int32)) = 1 → ¬ ((pSc X x3.toNatClampNeg) &&& (31 : Int32)) = 2 → ¬ ((pSc X x3.toNatClampNeg) &&& (31 : Int32)) = 3 → ¬ ((pSc X x3.toNatClampNeg) &&& (31 : Int32)) = 4 → ¬ ((pSc X x3.toNatClampNeg) &&& (31 : Int32)) = 5 → ¬ ((pSc X x3.toNatClampNeg) &&& (31 : Int32)) = 6 → ¬ ((pSc X x3.toNatClampNeg) &&& (31 : Int32)) = 7 → ¬ ((pSc X x3.toNatClampNeg) &&& (31 : Int32)) = 8 → ¬ ((pSc X x3.toNatClampNeg) &&& (31 : Int32)) = 9 → ¬ ((pSc X x3.toNatClampNeg) &&& (31 : Int32)) = 10 → ¬ ((pSc X x3.toNatClampNeg) &&& (31 : Int32)) = 11 → ¬ ((pSc X x3.toNatClampNeg) &&& (31 : Int32)) = 12 → ¬ ((pSc X x3.toNatClampNeg) &&& (31 : Int32)) = 13 → ¬ ((pSc X x3.toNatClampNeg) &&& (31 : Int32)) = 14 → ¬ ((pSc X x3.toNatClampNeg) &&& (31 : Int32)) = 15 → ¬ ((pSc X x3.toNatClampNeg) &&& (31 : Int32)) = 16 → ¬ ((pSc X x3.toNatClampNeg) &&& (31 : Int32)) = 17 → ¬ ((pSc X x3.toNatClampNeg) &&& (31 : Int32)) = 18 → ¬ ((pSc X x3.toNatClampNeg) &&& (31 : Int32)) = 19 → ((pSc X x3.toNatClampNeg) &&& (31 : Int32)) = 20 → vp_in (x3 + (3 : Int32)) (pLn X))
    (h61 : ¬ (((Int32.ofNat (pLn X)) - (6 : Int32)) < x3) → ¬ ((pSc X x3.toNatClampNeg) &&& (31 : Int32)) = 0 → ¬ ((pSc X x3.toNatClampNeg) &&& (31 : Int32)) = 1 → ¬ ((pSc X x3.toNatClampNeg) &&& (31 : Int32)) = 2 → ¬ ((pSc X x3.toNatClampNeg) &&& (31 : Int32)) = 3 → ¬ ((pSc X x3.toNatClampNeg) &&& (31 : Int32)) = 4 → ¬ ((pSc X x3.toNatClampNeg) &&& (31 : Int32)) = 5 → ¬ ((pSc X x3.toNatClampNeg) &&& (31 : Int32)) = 6 → ¬ ((pSc X x3.toNatClampNeg) &&& (31 : Int32)) = 7 → ¬ ((pSc X x3.toNatClampNeg) &&& (31 : Int32)) = 8 → ¬ ((pSc X x3.toNatClampNeg) &&& (31 : Int32)) = 9 → ¬ ((pSc X x3.toNatClampNeg) &&& (31 : Int32)) = 10 → ¬ ((pSc X x3.toNatClampNeg) &&& (31 : Int32)) = 11 → ¬ ((pSc X x3.toNatClampNeg) &&& (31 : Int32)) = 12 → ¬ ((pSc X x3.toNatClampNeg) &&& (31 : Int32)) = 13 → ¬ ((pSc X x3.toNatClampNeg) &&& (31 : Int32)) = 14 → ¬ ((pSc X x3.toNatClampNeg) &&& (31 : Int32)) = 15 → ¬ ((pSc X x3.toNatClampNeg) &&& (31 : Int32)) = 16 → ¬ ((pSc X x3.toNatClampNeg) &&& (31 : Int32)) = 17 → ¬ ((pSc X x3.toNatClampNeg) &&& (31 : Int32)) = 18 → ¬ ((pSc X x3.toNatClampNeg) &&& (31 : Int32)) = 19 → ((pSc X x3.toNatClampNeg) &&& (31 : Int32)) = 20 → Cl X 5 mX11_exchange [.ref 0, .int (pSc X (x3 + (1 : Int32)).toNatClampNeg), .int (pSc X (x3 + (2 : Int32)).toNatClampNeg), .int (pSc X (x3 + (3 : Int32)).toNatClampNeg)] m (fun v m2 => GoL X Z 805 [(0, .retAddr 0), (1, .ref 0), (2, .ref 535), (3, .int x3)] (v.toList ++ []) m2))
    (h62 : ¬ (((Int32.ofNat (pLn X)) - (6 : Int32)) < x3) → ¬ ((pSc X x3.toNatClampNeg) &&& (31 : Int32)) = 0 → ¬ ((pSc X x3.toNatClampNeg) &&& (31 : Int32)) = 1 → ¬ ((pSc X x3.toNatClampNeg) &&& (31 : Int32)) = 2 → ¬ ((pSc X x3.toNatClampNeg) &&& (31 : Int32)) = 3 → ¬ ((pSc X x3.toNatClampNeg) &&& (31 : Int32)) = 4 → ¬ ((pSc X x3.toNatClampNeg) &&& (31 : Int32)) = 5 → ¬ ((pSc X x3.toNatClampNeg) &&& (31 : Int32)) = 6 → ¬ ((pSc X x3.toNatClampNeg) &&& (31 : Int32)) = 7 → ¬ ((pSc X x3.toNatClampNeg) &&& (31 : Int32)) = 8 → ¬ ((pSc X x3.toNatClampNeg) &&& (31 : Int32)) = 9 → ¬ ((pSc X x3.toNatClampNeg) &&& (31 : Int32)) = 10 → ¬ ((pSc X x3.toNatClampNeg) &&& (31 : Int32)) = 11 → ¬ ((pSc X x3.toNatClampNeg) &&& (31 : Int32)) = 12 → ¬ ((pSc X x3.toNatClampNeg) &&& (31 : Int32)) = 13 → ¬ ((pSc X x3.toNatClampNeg) &&& (31 : Int32)) = 14 → ¬ ((pSc X x3.toNatClampNeg) &&& (31 : Int32)) = 15 → ¬ ((pSc X x3.toNatClampNeg) &&& (31 : Int32)) = 16 → ¬ ((pSc X x3.toNatClampNeg) &&& (31 : Int32)) = 17 → ¬ ((pSc X x3.toNatClampNeg) &&& (31 : Int32)) = 18 → ¬ ((pSc X x3.toNatClampNeg) &&& (31 : Int32)) = 19 → ¬ ((pSc X x3.toNatClampNeg) &&& (31 : Int32)) = 20 → ((pSc X x3.toNatClampNeg) &&& (31 : Int32)) = 21 → vp_in (x3 + (1 : Int32)) (pLn X))
    (h63 : ¬ (((Int32.ofNat (pLn X)) - (6 : Int32)) < x3) → ¬ ((pSc X x3.toNatClampNeg) &&& (31 : Int32)) = 0 → ¬ ((pSc X x3.toNatClampNeg) &&& (31 : Int32)) = 1 → ¬ ((pSc X x3.toNatClampNeg) &&& (31 : Int32)) = 2 → ¬ ((pSc X x3.toNatClampNeg) &&& (31 : Int32)) = 3 → ¬ ((pSc X x3.toNatClampNeg) &&& (31 : Int32)) = 4 → ¬ ((pSc X x3.toNatClampNeg) &&& (31 : Int32)) = 5 → ¬ ((pSc X x3.toNatClampNeg) &&& (31 : Int32)) = 6 → ¬ ((pSc X x3.toNatClampNeg) &&& (31 : Int32)) = 7 → ¬ ((pSc X x3.toNatClampNeg) &&& (31 : Int32)) = 8 → ¬ ((pSc X x3.toNatClampNeg) &&& (31 : Int32)) = 9 → ¬ ((pSc X x3.toNatClampNeg) &&& (31 : Int32)) = 10 → ¬ ((pSc X x3.toNatClampNeg) &&& (31 : Int32)) = 11 → ¬ ((pSc X x3.toNatClampNeg) &&& (31 : Int32)) = 12 → ¬ ((pSc X x3.toNatClampNeg) &&& (31 : Int32)) = 13 → ¬ ((pSc X x3.toNatClampNeg) &&& (31 : Int32)) = 14 → ¬ ((pSc X x3.toNatClampNeg) &&& (31 : Int32)) = 15 → ¬ ((pSc X x3.toNatClampNeg) &&& (31 : Int32)) = 16 → ¬ ((pSc X x3.toNatClampNeg) &&& (31 : Int32)) = 17 → ¬ ((pSc X x3.toNatClampNeg) &&& (31 : Int32)) = 18 → ¬ ((pSc X x3.toNatClampNeg) &&& (31 : Int32)) = 19 → ¬ ((pSc X x3.toNatClampNeg) &&& (31 : Int32)) = 20 → ((pSc X x3.toNatClampNeg) &&& (31 : Int32)) = 21 → vp_in (x3 + (2 : Int32)) (pLn X))
    (h64 : ¬ (((Int32.ofNat (pLn X)) - (6 : Int32)) < x3) → ¬ ((pSc X x3.toNatClampNeg) &&& (31 : Int32)) = 0 → ¬ ((pSc X x3.toNatClampNeg) &&& (31 : Int32)) = 1 → ¬ ((pSc X x3.toNatClampNeg) &&& (31 : Int32)) = 2 → ¬ ((pSc X x3.toNatClampNeg) &&& (31 : Int32)) = 3 → ¬ ((pSc X x3.toNatClampNeg) &&& (31 : Int32)) = 4 → ¬ ((pSc X x3.toNatClampNeg) &&& (31 : Int32)) = 5 → ¬ ((pSc X x3.toNatClampNeg) &&& (31 : Int32)) = 6 → ¬ ((pSc X x3.toNatClampNeg) &&& (31 : Int32)) = 7 → ¬ ((pSc X x3.toNatClampNeg) &&& (31 : Int32)) = 8 → ¬ ((pSc X x3.toNatClampNeg) &&& (31 : Int32)) = 9 → ¬ ((pSc X x3.toNatClampNeg) &&& (31 : Int32)) = 10 → ¬ ((pSc X x3.toNatClampNeg) &&& (31 : Int32)) = 11 → ¬ ((pSc X x3.toNatClampNeg) &&& (31 : Int32)) = 12 → ¬ ((pSc X x3.toNatClampNeg) &&& (31 : Int32)) = 13 → ¬ ((pSc X x3.toNatClampNeg) &&& (31 : Int32)) = 14 → ¬ ((pSc X x3.toNatClampNeg) &&& (31 : Int32)) = 15 → ¬ ((pSc X x3.toNatClampNeg) &&& (31 : Int32)) = 16 → ¬ ((pSc X x3.toNatClampNeg) &&& (31 : Int32)) = 17 → ¬ ((pSc X x3.toNatClampNeg) &&& (31 : Int32)) = 18 → ¬ ((pSc X x3.toNatClampNeg) &&& (31 : Int32)) = 19 → ¬ ((pSc X x3.toNatClampNeg) &&& (31 : Int32)) = 20 → ((pSc X x3.toNatClampNeg) &&& (31 : Int32)) = 21 → Cl X 7 mX11_robbed [.ref 0, .int (pSc X (x3 + (1 : Int32)).toNatClampNeg), .int (pSc X (x3 + (2 : Int32)).toNatClampNeg)] m (fun v m2 => GoL X Z 843 [(0, .retAddr 0), (1, .ref 0), (2, .ref 535), (3, .int x3)] (v.toList ++ []) m2))
    (h65 : ¬ (((Int32.ofNat (pLn X)) - (6 : Int32)) < x3) → ¬ ((pSc X x3.toNatClampNeg) &&& (31 : Int32)) = 0 → ¬ ((pSc X x3.toNatClampNeg) &&& (31 : Int32)) = 1 → ¬ ((pSc X x3.toNatClampNeg) &&& (31 : Int32)) = 2 → ¬ ((pSc X x3.toNatClampNeg) &&& (31 : Int32)) = 3 → ¬ ((pSc X x3.toNatClampNeg) &&& (31 : Int32)) = 4 → ¬ ((pSc X x3.toNatClampNeg) &&& (31 : Int32)) = 5 → ¬ ((pSc X x3.toNatClampNeg) &&& (31 : Int32)) = 6 → ¬ ((pSc X x3.toNatClampNeg) &&& (31 : Int32)) = 7 → ¬ ((pSc X x3.toNatClampNeg) &&& (31 : Int32)) = 8 → ¬ ((pSc X x3.toNatClampNeg) &&& (31 : Int32)) = 9 → ¬ ((pSc X x3.toNatClampNeg) &&& (31 : Int32)) = 10 → ¬ ((pSc X x3.toNatClampNeg) &&& (31 : Int32)) = 11 → ¬ ((pSc X x3.toNatClampNeg) &&& (31 : Int32)) = 12 → ¬ ((pSc X x3.toNatClampNeg) &&& (31 : Int32)) = 13 → ¬ ((pSc X x3.toNatClampNeg) &&& (31 : Int32)) = 14 → ¬ ((pSc X x3.toNatClampNeg) &&& (31 : Int32)) = 15 → ¬ ((pSc X x3.toNatClampNeg) &&& (31 : Int32)) = 16 → ¬ ((pSc X x3.toNatClampNeg) &&& (31 : Int32)) = 17 → ¬ ((pSc X x3.toNatClampNeg) &&& (31 : Int32)) = 18 → ¬ ((pSc X x3.toNatClampNeg) &&& (31 : Int32)) = 19 → ¬ ((pSc X x3.toNatClampNeg) &&& (31 : Int32)) = 20 → ¬ ((pSc X x3.toNatClampNeg) &&& (31 : Int32)) = 21 → ((pSc X x3.toNatClampNeg) &&& (31 : Int32)) = 22 → vp_in (x3 + (1 : Int32)) (pLn X))
    (h66 : ¬ (((Int32.ofNat (pLn X)) - (6 : Int32)) < x3) → ¬ ((pSc X x3.toNatClampNeg) &&& (31 : Int32)) = 0 → ¬ ((pSc X x3.toNatClampNeg) &&& (31 : Int32)) = 1 → ¬ ((pSc X x3.toNatClampNeg) &&& (31 : Int32)) = 2 → ¬ ((pSc X x3.toNatClampNeg) &&& (31 : Int32)) = 3 → ¬ ((pSc X x3.toNatClampNeg) &&& (31 : Int32)) = 4 → ¬ ((pSc X x3.toNatClampNeg) &&& (31 : Int32)) = 5 → ¬ ((pSc X x3.toNatClampNeg) &&& (31 : Int32)) = 6 → ¬ ((pSc X x3.toNatClampNeg) &&& (31 : Int32)) = 7 → ¬ ((pSc X x3.toNatClampNeg) &&& (31 : Int32)) = 8 → ¬ ((pSc X x3.toNatClampNeg) &&& (31 : Int32)) = 9 → ¬ ((pSc X x3.toNatClampNeg) &&& (31 : Int32)) = 10 → ¬ ((pSc X x3.toNatClampNeg) &&& (31 : Int32)) = 11 → ¬ ((pSc X x3.toNatClampNeg) &&& (31 : Int32)) = 12 → ¬ ((pSc X x3.toNatClampNeg) &&& (31 : Int32)) = 13 → ¬ ((pSc X x3.toNatClampNeg) &&& (31 : Int32)) = 14 → ¬ ((pSc X x3.toNatClampNeg) &&& (31 : Int32)) = 15 → ¬ ((pSc X x3.toNatClampNeg) &&& (31 : Int32)) = 16 → ¬ ((pSc X x3.toNatClampNeg) &&& (31 : Int32)) = 17 → ¬ ((pSc X x3.toNatClampNeg) &&& (31 : Int32)) = 18 → ¬ ((pSc X x3.toNatClampNeg) &&& (31 : Int32)) = 19 → ¬ ((pSc X x3.toNatClampNeg) &&& (31 : Int32)) = 20 → ¬ ((pSc X x3.toNatClampNeg) &&& (31 : Int32)) = 21 → ((pSc X x3.toNatClampNeg) &&& (31 : Int32)) = 22 → vp_in (x3 + (2 : Int32)) (pLn X))
    (h67 : ¬ (((Int32.ofNat (pLn X)) - (6 : Int32)) < x3) → ¬ ((pSc X x3.toNatClampNeg) &&& (31 : Int32)) = 0 → ¬ ((pSc X x3.toNatClampNeg) &&& (31 : Int32)) = 1 → ¬ ((pSc X x3.toNatClampNeg) &&& (31 : Int32)) = 2 → ¬ ((pSc X x3.toNatClampNeg) &&& (31 : Int32)) = 3 → ¬ ((pSc X x3.toNatClampNeg) &&& (31 : Int32)) = 4 → ¬ ((pSc X x3.toNatClampNeg) &&& (31 : Int32)) = 5 → ¬ ((pSc X x3.toNatClampNeg) &&& (31 : Int32)) = 6 → ¬ ((pSc X x3.toNatClampNeg) &&& (31 : Int32)) = 7 → ¬ ((pSc X x3.toNatClampNeg) &&& (31 : Int32)) = 8 → ¬ ((pSc X x3.toNatClampNeg) &&& (31 : Int32)) = 9 → ¬ ((pSc X x3.toNatClampNeg) &&& (31 : Int32)) = 10 → ¬ ((pSc X x3.toNatClampNeg) &&& (31 : Int32)) = 11 → ¬ ((pSc X x3.toNatClampNeg) &&& (31 : Int32)) = 12 → ¬ ((pSc X x3.toNatClampNeg) &&& (31 : Int32)) = 13 → ¬ ((pSc X x3.toNatClampNeg) &&& (31 : Int32)) = 14 → ¬ ((pSc X x3.toNatClampNeg) &&& (31 : Int32)) = 15 → ¬ ((pSc X x3.toNatClampNeg) &&& (31 : Int32)) = 16 → ¬ ((pSc X x3.toNatClampNeg) &&& (31 : Int32)) = 17 → ¬ ((pSc X x3.toNatClampNeg) &&& (31 : Int32)) = 18 → ¬ ((pSc X x3.toNatClampNeg) &&& (31 : Int32)) = 19 → ¬ ((pSc X x3.toNatClampNeg) &&& (31 : Int32)) = 20 → ¬ ((pSc X x3.toNatClampNeg) &&& (31 : Int32)) = 21 → ((pSc X x3.toNatClampNeg) &&& (31 : Int32)) = 22 → vp_in (x3 + (3 : Int32)) (pLn X))
    (h68 : ¬ (((Int32.ofNat (pLn X)) - (6 : Int32)) < x3) → ¬ ((pSc X x3.toNatClampNeg) &&& (31 : Int32)) = 0 → ¬ ((pSc X x3.toNatClampNeg) &&& (31 : Int32)) = 1 → ¬ ((pSc X x3.toNatClampNeg) &&& (31 : Int32)) = 2 → ¬ ((pSc X x3.toNatClampNeg) &&& (31 : Int32)) = 3 → ¬ ((pSc X x3.toNatClampNeg) &&& (31 : Int32)) = 4 → ¬ ((pSc X x3.toNatClampNeg) &&& (31 : Int32)) = 5 → ¬ ((pSc X x3.toNatClampNeg) &&& (31 : Int32)) = 6 → ¬ ((pSc X x3.toNatClampNeg) &&& (31 : Int32)) = 7 → ¬ ((pSc X x3.toNatClampNeg) &&& (31 : Int32)) = 8 → ¬ ((pSc X x3.toNatClampNeg) &&& (31 : Int32)) = 9 → ¬ ((pSc X x3.toNatClampNeg) &&& (31 : Int32)) = 10 → ¬ ((pSc X x3.toNatClampNeg) &&& (31 : Int32)) = 11 → ¬ ((pSc X x3.toNatClampNeg) &&& (31 : Int32)) = 12 → ¬ ((pSc X x3.toNatClampNeg) &&& (31 : Int32)) = 13 → ¬ ((pSc X x3.toNatClampNeg) &&& (31 : Int32)) = 14 → ¬ ((pSc X x3.toNatClampNeg) &&& (31 : Int32)) = 15 → ¬ ((pSc X x3.toNatClampNeg) &&& (31 : Int32)) = 16 → ¬ ((pSc X x3.toNatClampNeg) &&& (31 : Int32)) = 17 → ¬ ((pSc X x3.toNatClampNeg) &&& (31 : Int32)) = 18 → ¬ ((pSc X x3.toNatClampNeg) &&& (31 : Int32)) = 19 → ¬ ((pSc X x3.toNatClampNeg) &&& (31 : Int32)) = 20 → ¬ ((pSc X x3.toNatClampNeg) &&& (31 : Int32)) = 21 → ((pSc X x3.toNatClampNeg) &&& (31 : Int32)) = 22 → Cl X 4 mX11_game [.ref 0, .int (pSc X (x3 + (1 : Int32)).toNatClampNeg), .int (pSc X (x3 + (2 : Int32)).toNatClampNeg), .int (pSc X (x3 + (3 : Int32)).toNatClampNeg)] m (fun v m2 => GoL X Z 881 [(0, .retAddr 0), (1, .ref 0), (2, .ref 535), (3, .int x3)] (v.toList ++ []) m2))
    (h69 : ¬ (((Int32.ofNat (pLn X)) - (6 : Int32)) < x3) → ¬ ((pSc X x3.toNatClampNeg) &&& (31 : Int32)) = 0 → ¬ ((pSc X x3.toNatClampNeg) &&& (31 : Int32)) = 1 → ¬ ((pSc X x3.toNatClampNeg) &&& (31 : Int32)) = 2 → ¬ ((pSc X x3.toNatClampNeg) &&& (31 : Int32)) = 3 → ¬ ((pSc X x3.toNatClampNeg) &&& (31 : Int32)) = 4 → ¬ ((pSc X x3.toNatClampNeg) &&& (31 : Int32)) = 5 → ¬ ((pSc X x3.toNatClampNeg) &&& (31 : Int32)) = 6 → ¬ ((pSc X x3.toNatClampNeg) &&& (31 : Int32)) = 7 → ¬ ((pSc X x3.toNatClampNeg) &&& (31 : Int32)) = 8 → ¬ ((pSc X x3.toNatClampNeg) &&& (31 : Int32)) = 9 → ¬ ((pSc X x3.toNatClampNeg) &&& (31 : Int32)) = 10 → ¬ ((pSc X x3.toNatClampNeg) &&& (31 : Int32)) = 11 → ¬ ((pSc X x3.toNatClampNeg) &&& (31 : Int32)) = 12 → ¬ ((pSc X x3.toNatClampNeg) &&& (31 : Int32)) = 13 → ¬ ((pSc X x3.toNatClampNeg) &&& (31 : Int32)) = 14 → ¬ ((pSc X x3.toNatClampNeg) &&& (31 : Int32)) = 15 → ¬ ((pSc X x3.toNatClampNeg) &&& (31 : Int32)) = 16 → ¬ ((pSc X x3.toNatClampNeg) &&& (31 : Int32)) = 17 → ¬ ((pSc X x3.toNatClampNeg) &&& (31 : Int32)) = 18 → ¬ ((pSc X x3.toNatClampNeg) &&& (31 : Int32)) = 19 → ¬ ((pSc X x3.toNatClampNeg) &&& (31 : Int32)) = 20 → ¬ ((pSc X x3.toNatClampNeg) &&& (31 : Int32)) = 21 → ¬ ((pSc X x3.toNatClampNeg) &&& (31 : Int32)) = 22 → ((pSc X x3.toNatClampNeg) &&& (31 : Int32)) = 23 → vp_in (x3 + (1 : Int32)) (pLn X))
    (h70 : ¬ (((Int32.ofNat (pLn X)) - (6 : Int32)) < x3) → ¬ ((pSc X x3.toNatClampNeg) &&& (31 : Int32)) = 0 → ¬ ((pSc X x3.toNatClampNeg) &&& (31 : Int32)) = 1 → ¬ ((pSc X x3.toNatClampNeg) &&& (31 : Int32)) = 2 → ¬ ((pSc X x3.toNatClampNeg) &&& (31 : Int32)) = 3 → ¬ ((pSc X x3.toNatClampNeg) &&& (31 : Int32)) = 4 → ¬ ((pSc X x3.toNatClampNeg) &&& (31 : Int32)) = 5 → ¬ ((pSc X x3.toNatClampNeg) &&& (31 : Int32)) = 6 → ¬ ((pSc X x3.toNatClampNeg) &&& (31 : Int32)) = 7 → ¬ ((pSc X x3.toNatClampNeg) &&& (31 : Int32)) = 8 → ¬ ((pSc X x3.toNatClampNeg) &&& (31 : Int32)) = 9 → ¬ ((pSc X x3.toNatClampNeg) &&& (31 : Int32)) = 10 → ¬ ((pSc X x3.toNatClampNeg) &&& (31 : Int32)) = 11 → ¬ ((pSc X x3.toNatClampNeg) &&& (31 : Int32)) = 12 → ¬ ((pSc X x3.toNatClampNeg) &&& (31 : Int32)) = 13 → ¬ ((pSc X x3.toNatClampNeg) &&& (31 : Int32)) = 14 → ¬ ((pSc X x3.toNatClampNeg) &&& (31 : Int32)) = 15 → ¬ ((pSc X x3.toNatClampNeg) &&& (31 : Int32)) = 16 → ¬ ((pSc X x3.toNatClampNeg) &&& (31 : Int32)) = 17 → ¬ ((pSc X x3.toNatClampNeg) &&& (31 : Int32)) = 18 → ¬ ((pSc X x3.toNatClampNeg) &&& (31 : Int32)) = 19 → ¬ ((pSc X x3.toNatClampNeg) &&& (31 : Int32)) = 20 → ¬ ((pSc X x3.toNatClampNeg) &&& (31 : Int32)) = 21 → ¬ ((pSc X x3.toNatClampNeg) &&& (31 : Int32)) = 22 → ((pSc X x3.toNatClampNeg) &&& (31 : Int32)) = 23 → vp_in (x3 + (2 : Int32)) (pLn X))
    (h71 : ¬ (((Int32.ofNat (pLn X)) - (6 : Int32)) < x3) → ¬ ((pSc X x3.toNatClampNeg) &&& (31 : Int32)) = 0 → ¬ ((pSc X x3.toNatClampNeg) &&& (31 : Int32)) = 1 → ¬ ((pSc X x3.toNatClampNeg) &&& (31 : Int32)) = 2 → ¬ ((pSc X x3.toNatClampNeg) &&& (31 : Int32)) = 3 → ¬ ((pSc X x3.toNatClampNeg) &&& (31 : Int32)) = 4 → ¬ ((pSc X x3.toNatClampNeg) &&& (31 : Int32)) = 5 → ¬ ((pSc X x3.toNatClampNeg) &&& (31 : Int32)) = 6 → ¬ ((pSc X x3.toNatClampNeg) &&& (31 : Int32)) = 7 → ¬ ((pSc X x3.toNatClampNeg) &&& (31 : Int32)) = 8 → ¬ ((pSc X x3.toNatClampNeg) &&& (31 : Int32)) = 9 → ¬ ((pSc X x3.toNatClampNeg) &&& (31 : Int32)) = 10 → ¬ ((pSc X x3.toNatClampNeg) &&& (31 : Int32)) = 11 → ¬ ((pSc X x3.toNatClampNeg) &&& (31 : Int32)) = 12 → ¬ ((pSc X x3.toNatClampNeg) &&& (31 : Int32)) = 13 → ¬ ((pSc X x3.toNatClampNeg) &&& (31 : Int32)) = 14 → ¬ ((pSc X x3.toNatClampNeg) &&& (31 : Int32)) = 15 → ¬ ((pSc X x3.toNatClampNeg) &&& (31 : Int32)) = 16 → ¬ ((pSc X x3.toNatClampNeg) &&& (31 : Int32)) = 17 → ¬ ((pSc X x3.toNatClampNeg) &&& (31 : Int32)) = 18 → ¬ ((pSc X x3.toNatClampNeg) &&& (31 : Int32)) = 19 → ¬ ((pSc X x3.toNatClampNeg) &&& (31 : Int32)) = 20 → ¬ ((pSc X x3.toNatClampNeg) &&& (31 : Int32)) = 21 → ¬ ((pSc X x3.toNatClampNeg) &&& (31 : Int32)) = 22 → ((pSc X x3.toNatClampNeg) &&& (31 : Int32)) = 23 → Cl X 4 mX11_pence [.ref 0, .int (pSc X (x3 + (1 : Int32)).toNatClampNeg), .int (pSc X (x3 + (2 : Int32)).toNatClampNeg)] m (fun v m2 => GoL X Z 919 [(0, .retAddr 0), (1, .ref 0), (2, .ref 535), (3, .int x3)] (v.toList ++ []) m2))
    (h72 : ¬ (((Int32.ofNat (pLn X)) - (6 : Int32)) < x3) → ¬ ((pSc X x3.toNatClampNeg) &&& (31 : Int32)) = 0 → ¬ ((pSc X x3.toNatClampNeg) &&& (31 : Int32)) = 1 → ¬ ((pSc X x3.toNatClampNeg) &&& (31 : Int32)) = 2 → ¬ ((pSc X x3.toNatClampNeg) &&& (31 : Int32)) = 3 → ¬ ((pSc X x3.toNatClampNeg) &&& (31 : Int32)) = 4 → ¬ ((pSc X x3.toNatClampNeg) &&& (31 : Int32)) = 5 → ¬ ((pSc X x3.toNatClampNeg) &&& (31 : Int32)) = 6 → ¬ ((pSc X x3.toNatClampNeg) &&& (31 : Int32)) = 7 → ¬ ((pSc X x3.toNatClampNeg) &&& (31 : Int32)) = 8 → ¬ ((pSc X x3.toNatClampNeg) &&& (31 : Int32)) = 9 → ¬ ((pSc X x3.toNatClampNeg) &&& (31 : Int32)) = 10 → ¬ ((pSc X x3.toNatClampNeg) &&& (31 : Int32)) = 11 → ¬ ((pSc X x3.toNatClampNeg) &&& (31 : Int32)) = 12 → ¬ ((pSc X x3.toNatClampNeg) &&& (31 : Int32)) = 13 → ¬ ((pSc X x3.toNatClampNeg) &&& (31 : Int32)) = 14 → ¬ ((pSc X x3.toNatClampNeg) &&& (31 : Int32)) = 15 → ¬ ((pSc X x3.toNatClampNeg) &&& (31 : Int32)) = 16 → ¬ ((pSc X x3.toNatClampNeg) &&& (31 : Int32)) = 17 → ¬ ((pSc X x3.toNatClampNeg) &&& (31 : Int32)) = 18 → ¬ ((pSc X x3.toNatClampNeg) &&& (31 : Int32)) = 19 → ¬ ((pSc X x3.toNatClampNeg) &&& (31 : Int32)) = 20 → ¬ ((pSc X x3.toNatClampNeg) &&& (31 : Int32)) = 21 → ¬ ((pSc X x3.toNatClampNeg) &&& (31 : Int32)) = 22 → ¬ ((pSc X x3.toNatClampNeg) &&& (31 : Int32)) = 23 → ((pSc X x3.toNatClampNeg) &&& (31 : Int32)) = 24 → vp_in (x3 + (1 : Int32)) (pLn X))
    (h73 : ¬ (((Int32.ofNat (pLn X)) - (6 : Int32)) < x3) → ¬ ((pSc X x3.toNatClampNeg) &&& (31 : Int32)) = 0 → ¬ ((pSc X x3.toNatClampNeg) &&& (31 : Int32)) = 1 → ¬ ((pSc X x3.toNatClampNeg) &&& (31 : Int32)) = 2 → ¬ ((pSc X x3.toNatClampNeg) &&& (31 : Int32)) = 3 → ¬ ((pSc X x3.toNatClampNeg) &&& (31 : Int32)) = 4 → ¬ ((pSc X x3.toNatClampNeg) &&& (31 : Int32)) = 5 → ¬ ((pSc X x3.toNatClampNeg) &&& (31 : Int32)) = 6 → ¬ ((pSc X x3.toNatClampNeg) &&& (31 : Int32)) = 7 → ¬ ((pSc X x3.toNatClampNeg) &&& (31 : Int32)) = 8 → ¬ ((pSc X x3.toNatClampNeg) &&& (31 : Int32)) = 9 → ¬ ((pSc X x3.toNatClampNeg) &&& (31 : Int32)) = 10 → ¬ ((pSc X x3.toNatClampNeg) &&& (31 : Int32)) = 11 → ¬ ((pSc X x3.toNatClampNeg) &&& (31 : Int32)) = 12 → ¬ ((pSc X x3.toNatClampNeg) &&& (31 : Int32)) = 13 → ¬ ((pSc X x3.toNatClampNeg) &&& (31 : Int32)) = 14 → ¬ ((pSc X x3.toNatClampNeg) &&& (31 : Int32)) = 15 → ¬ ((pSc X x3.toNatClampNeg) &&& (31 : Int32)) = 16 → ¬ ((pSc X x3.toNatClampNeg) &&& (31 : Int32)) = 17 → ¬ ((pSc X x3.toNatClampNeg) &&& (31 : Int32)) = 18 → ¬ ((pSc X x3.toNatClampNeg) &&& (31 : Int32)) = 19 → ¬ ((pSc X x3.toNatClampNeg) &&& (31 : Int32)) = 20 → ¬ ((pSc X x3.toNatClampNeg) &&& (31 : Int32)) = 21 → ¬ ((pSc X x3.toNatClampNeg) &&& (31 : Int32)) = 22 → ¬ ((pSc X x3.toNatClampNeg) &&& (31 : Int32)) = 23 → ((pSc X x3.toNatClampNeg) &&& (31 : Int32)) = 24 → vp_in (x3 + (2 : Int32)) (pLn X))
    (h74 : ¬ (((Int32.ofNat (pLn X)) - (6 : Int32)) < x3) → ¬ ((pSc X x3.toNatClampNeg) &&& (31 : Int32)) = 0 → ¬ ((pSc X x3.toNatClampNeg) &&& (31 : Int32)) = 1 → ¬ ((pSc X x3.toNatClampNeg) &&& (31 : Int32)) = 2 → ¬ ((pSc X x3.toNatClampNeg) &&& (31 : Int32)) = 3 → ¬ ((pSc X x3.toNatClampNeg) &&& (31 : Int32)) = 4 → ¬ ((pSc X x3.toNatClampNeg) &&& (31 : Int32)) = 5 → ¬ ((pSc X x3.toNatClampNeg) &&& (31 : Int32)) = 6 → ¬ ((pSc X x3.toNatClampNeg) &&& (31 : Int32)) = 7 → ¬ ((pSc X x3.toNatClampNeg) &&& (31 : Int32)) = 8 → ¬ ((pSc X x3.toNatClampNeg) &&& (31 : Int32)) = 9 → ¬ ((pSc X x3.toNatClampNeg) &&& (31 : Int32)) = 10 → ¬ ((pSc X x3.toNatClampNeg) &&& (31 : Int32)) = 11 → ¬ ((pSc X x3.toNatClampNeg) &&& (31 : Int32)) = 12 → ¬ ((pSc X x3.toNatClampNeg) &&& (31 : Int32)) = 13 → ¬ ((pSc X x3.toNatClampNeg) &&& (31 : Int32)) = 14 → ¬ ((pSc X x3.toNatClampNeg) &&& (31 : Int32)) = 15 → ¬ ((pSc X x3.toNatClampNeg) &&& (31 : Int32)) = 16 → ¬ ((pSc X x3.toNatClampNeg) &&& (31 : Int32)) = 17 → ¬ ((pSc X x3.toNatClampNeg) &&& (31 : Int32)) = 18 → ¬ ((pSc X x3.toNatClampNeg) &&& (31 : Int32)) = 19 → ¬ ((pSc X x3.toNatClampNeg) &&& (31 : Int32)) = 20 → ¬ ((pSc X x3.toNatClampNeg) &&& (31 : Int32)) = 21 → ¬ ((pSc X x3.toNatClampNeg) &&& (31 : Int32)) = 22 → ¬ ((pSc X x3.toNatClampNeg) &&& (31 : Int32)) = 23 → ((pSc X x3.toNatClampNeg) &&& (31 : Int32)) = 24 → vp_in (x3 + (3 : Int32)) (pLn X))
    (h75 : ¬ (((Int32.ofNat (pLn X)) - (6 : Int32)) < x3) → ¬ ((pSc X x3.toNatClampNeg) &&& (31 : Int32)) = 0 → ¬ ((pSc X x3.toNatClampNeg) &&& (31 : Int32)) = 1 → ¬ ((pSc X x3.toNatClampNeg) &&& (31 : Int32)) = 2 → ¬ ((pSc X x3.toNatClampNeg) &&& (31 : Int32)) = 3 → ¬ ((pSc X x3.toNatClampNeg) &&& (31 : Int32)) = 4 → ¬ ((pSc X x3.toNatClampNeg) &&& (31 : Int32)) = 5 → ¬ ((pSc X x3.toNatClampNeg) &&& (31 : Int32)) = 6 → ¬ ((pSc X x3.toNatClampNeg) &&& (31 : Int32)) = 7 → ¬ ((pSc X x3.toNatClampNeg) &&& (31 : Int32)) = 8 → ¬ ((pSc X x3.toNatClampNeg) &&& (31 : Int32)) = 9 → ¬ ((pSc X x3.toNatClampNeg) &&& (31 : Int32)) = 10 → ¬ ((pSc X x3.toNatClampNeg) &&& (31 : Int32)) = 11 → ¬ ((pSc X x3.toNatClampNeg) &&& (31 : Int32)) = 12 → ¬ ((pSc X x3.toNatClampNeg) &&& (31 : Int32)) = 13 → ¬ ((pSc X x3.toNatClampNeg) &&& (31 : Int32)) = 14 → ¬ ((pSc X x3.toNatClampNeg) &&& (31 : Int32)) = 15 → ¬ ((pSc X x3.toNatClampNeg) &&& (31 : Int32)) = 16 → ¬ ((pSc X x3.toNatClampNeg) &&& (31 : Int32)) = 17 → ¬ ((pSc X x3.toNatClampNeg) &&& (31 : Int32)) = 18 → ¬ ((pSc X x3.toNatClampNeg) &&& (31 : Int32)) = 19 → ¬ ((pSc X x3.toNatClampNeg) &&& (31 : Int32)) = 20 → ¬ ((pSc X x3.toNatClampNeg) &&& (31 : Int32)) = 21 → ¬ ((pSc X x3.toNatClampNeg) &&& (31 : Int32)) = 22 → ¬ ((pSc X x3.toNatClampNeg) &&& (31 : Int32)) = 23 → ((pSc X x3.toNatClampNeg) &&& (31 : Int32)) = 24 → Cl X 2 mX11_note [.ref 0, .int (pSc X (x3 + (1 : Int32)).toNatClampNeg), .int (pSc X (x3 + (2 : Int32)).toNatClampNeg), .int (pSc X (x3 + (3 : Int32)).toNatClampNeg)] m (fun v m2 => GoL X Z 957 [(0, .retAddr 0), (1, .ref 0), (2, .ref 535), (3, .int x3)] (v.toList ++ []) m2))
    (h76 : ¬ (((Int32.ofNat (pLn X)) - (6 : Int32)) < x3) → ¬ ((pSc X x3.toNatClampNeg) &&& (31 : Int32)) = 0 → ¬ ((pSc X x3.toNatClampNeg) &&& (31 : Int32)) = 1 → ¬ ((pSc X x3.toNatClampNeg) &&& (31 : Int32)) = 2 → ¬ ((pSc X x3.toNatClampNeg) &&& (31 : Int32)) = 3 → ¬ ((pSc X x3.toNatClampNeg) &&& (31 : Int32)) = 4 → ¬ ((pSc X x3.toNatClampNeg) &&& (31 : Int32)) = 5 → ¬ ((pSc X x3.toNatClampNeg) &&& (31 : Int32)) = 6 → ¬ ((pSc X x3.toNatClampNeg) &&& (31 : Int32)) = 7 → ¬ ((pSc X x3.toNatClampNeg) &&& (31 : Int32)) = 8 → ¬ ((pSc X x3.toNatClampNeg) &&& (31 : Int32)) = 9 → ¬ ((pSc X x3.toNatClampNeg) &&& (31 : Int32)) = 10 → ¬ ((pSc X x3.toNatClampNeg) &&& (31 : Int32)) = 11 → ¬ ((pSc X x3.toNatClampNeg) &&& (31 : Int32)) = 12 → ¬ ((pSc X x3.toNatClampNeg) &&& (31 : Int32)) = 13 → ¬ ((pSc X x3.toNatClampNeg) &&& (31 : Int32)) = 14 → ¬ ((pSc X x3.toNatClampNeg) &&& (31 : Int32)) = 15 → ¬ ((pSc X x3.toNatClampNeg) &&& (31 : Int32)) = 16 → ¬ ((pSc X x3.toNatClampNeg) &&& (31 : Int32)) = 17 → ¬ ((pSc X x3.toNatClampNeg) &&& (31 : Int32)) = 18 → ¬ ((pSc X x3.toNatClampNeg) &&& (31 : Int32)) = 19 → ¬ ((pSc X x3.toNatClampNeg) &&& (31 : Int32)) = 20 → ¬ ((pSc X x3.toNatClampNeg) &&& (31 : Int32)) = 21 → ¬ ((pSc X x3.toNatClampNeg) &&& (31 : Int32)) = 22 → ¬ ((pSc X x3.toNatClampNeg) &&& (31 : Int32)) = 23 → ¬ ((pSc X x3.toNatClampNeg) &&& (31 : Int32)) = 24 → ((pSc X x3.toNatClampNeg) &&& (31 : Int32)) = 25 → vp_in (x3 + (1 : Int32)) (pLn X))
    (h77 : ¬ (((Int32.ofNat (pLn X)) - (6 : Int32)) < x3) → ¬ ((pSc X x3.toNatClampNeg) &&& (31 : Int32)) = 0 → ¬ ((pSc X x3.toNatClampNeg) &&& (31 : Int32)) = 1 → ¬ ((pSc X x3.toNatClampNeg) &&& (31 : Int32)) = 2 → ¬ ((pSc X x3.toNatClampNeg) &&& (31 : Int32)) = 3 → ¬ ((pSc X x3.toNatClampNeg) &&& (31 : Int32)) = 4 → ¬ ((pSc X x3.toNatClampNeg) &&& (31 : Int32)) = 5 → ¬ ((pSc X x3.toNatClampNeg) &&& (31 : Int32)) = 6 → ¬ ((pSc X x3.toNatClampNeg) &&& (31 : Int32)) = 7 → ¬ ((pSc X x3.toNatClampNeg) &&& (31 : Int32)) = 8 → ¬ ((pSc X x3.toNatClampNeg) &&& (31 : Int32)) = 9 → ¬ ((pSc X x3.toNatClampNeg) &&& (31 : Int32)) = 10 → ¬ ((pSc X x3.toNatClampNeg) &&& (31 : Int32)) = 11 → ¬ ((pSc X x3.toNatClampNeg) &&& (31 : Int32)) = 12 → ¬ ((pSc X x3.toNatClampNeg) &&& (31 : Int32)) = 13 → ¬ ((pSc X x3.toNatClampNeg) &&& (31 : Int32)) = 14 → ¬ ((pSc X x3.toNatClampNeg) &&& (31 : Int32)) = 15 → ¬ ((pSc X x3.toNatClampNeg) &&& (31 : Int32)) = 16 → ¬ ((pSc X x3.toNatClampNeg) &&& (31 : Int32)) = 17 → ¬ ((pSc X x3.toNatClampNeg) &&& (31 : Int32)) = 18 → ¬ ((pSc X x3.toNatClampNeg) &&& (31 : Int32)) = 19 → ¬ ((pSc X x3.toNatClampNeg) &&& (31 : Int32)) = 20 → ¬ ((pSc X x3.toNatClampNeg) &&& (31 : Int32)) = 21 → ¬ ((pSc X x3.toNatClampNeg) &&& (31 : Int32)) = 22 → ¬ ((pSc X x3.toNatClampNeg) &&& (31 : Int32)) = 23 → ¬ ((pSc X x3.toNatClampNeg) &&& (31 : Int32)) = 24 → ((pSc X x3.toNatClampNeg) &&& (31 : Int32)) = 25 → Cl X 6 mX11_ruled [.ref 0, .int (pSc X (x3 + (1 : Int32)).toNatClampNeg)] m (fun v m2 => GoL X Z 990 [(0, .retAddr 0), (1, .ref 0), (2, .ref 535), (3, .int x3)] (v.toList ++ []) m2))
    (h78 : ¬ (((Int32.ofNat (pLn X)) - (6 : Int32)) < x3) → ¬ ((pSc X x3.toNatClampNeg) &&& (31 : Int32)) = 0 → ¬ ((pSc X x3.toNatClampNeg) &&& (31 : Int32)) = 1 → ¬ ((pSc X x3.toNatClampNeg) &&& (31 : Int32)) = 2 → ¬ ((pSc X x3.toNatClampNeg) &&& (31 : Int32)) = 3 → ¬ ((pSc X x3.toNatClampNeg) &&& (31 : Int32)) = 4 → ¬ ((pSc X x3.toNatClampNeg) &&& (31 : Int32)) = 5 → ¬ ((pSc X x3.toNatClampNeg) &&& (31 : Int32)) = 6 → ¬ ((pSc X x3.toNatClampNeg) &&& (31 : Int32)) = 7 → ¬ ((pSc X x3.toNatClampNeg) &&& (31 : Int32)) = 8 → ¬ ((pSc X x3.toNatClampNeg) &&& (31 : Int32)) = 9 → ¬ ((pSc X x3.toNatClampNeg) &&& (31 : Int32)) = 10 → ¬ ((pSc X x3.toNatClampNeg) &&& (31 : Int32)) = 11 → ¬ ((pSc X x3.toNatClampNeg) &&& (31 : Int32)) = 12 → ¬ ((pSc X x3.toNatClampNeg) &&& (31 : Int32)) = 13 → ¬ ((pSc X x3.toNatClampNeg) &&& (31 : Int32)) = 14 → ¬ ((pSc X x3.toNatClampNeg) &&& (31 : Int32)) = 15 → ¬ ((pSc X x3.toNatClampNeg) &&& (31 : Int32)) = 16 → ¬ ((pSc X x3.toNatClampNeg) &&& (31 : Int32)) = 17 → ¬ ((pSc X x3.toNatClampNeg) &&& (31 : Int32)) = 18 → ¬ ((pSc X x3.toNatClampNeg) &&& (31 : Int32)) = 19 → ¬ ((pSc X x3.toNatClampNeg) &&& (31 : Int32)) = 20 → ¬ ((pSc X x3.toNatClampNeg) &&& (31 : Int32)) = 21 → ¬ ((pSc X x3.toNatClampNeg) &&& (31 : Int32)) = 22 → ¬ ((pSc X x3.toNatClampNeg) &&& (31 : Int32)) = 23 → ¬ ((pSc X x3.toNatClampNeg) &&& (31 : Int32)) = 24 → ¬ ((pSc X x3.toNatClampNeg) &&& (31 : Int32)) = 25 → ((pSc X x3.toNatClampNeg) &&& (31 : Int32)) = 26 → vp_in (x3 + (1 : Int32)) (pLn X))
    (h79 : ¬ (((Int32.ofNat (pLn X)) - (6 : Int32)) < x3) → ¬ ((pSc X x3.toNatClampNeg) &&& (31 : Int32)) = 0 → ¬ ((pSc X x3.toNatClampNeg) &&& (31 : Int32)) = 1 → ¬ ((pSc X x3.toNatClampNeg) &&& (31 : Int32)) = 2 → ¬ ((pSc X x3.toNatClampNeg) &&& (31 : Int32)) = 3 → ¬ ((pSc X x3.toNatClampNeg) &&& (31 : Int32)) = 4 → ¬ ((pSc X x3.toNatClampNeg) &&& (31 : Int32)) = 5 → ¬ ((pSc X x3.toNatClampNeg) &&& (31 : Int32)) = 6 → ¬ ((pSc X x3.toNatClampNeg) &&& (31 : Int32)) = 7 → ¬ ((pSc X x3.toNatClampNeg) &&& (31 : Int32)) = 8 → ¬ ((pSc X x3.toNatClampNeg) &&& (31 : Int32)) = 9 → ¬ ((pSc X x3.toNatClampNeg) &&& (31 : Int32)) = 10 → ¬ ((pSc X x3.toNatClampNeg) &&& (31 : Int32)) = 11 → ¬ ((pSc X x3.toNatClampNeg) &&& (31 : Int32)) = 12 → ¬ ((pSc X x3.toNatClampNeg) &&& (31 : Int32)) = 13 → ¬ ((pSc X x3.toNatClampNeg) &&& (31 : Int32)) = 14 → ¬ ((pSc X x3.toNatClampNeg) &&& (31 : Int32)) = 15 → ¬ ((pSc X x3.toNatClampNeg) &&& (31 : Int32)) = 16 → ¬ ((pSc X x3.toNatClampNeg) &&& (31 : Int32)) = 17 → ¬ ((pSc X x3.toNatClampNeg) &&& (31 : Int32)) = 18 → ¬ ((pSc X x3.toNatClampNeg) &&& (31 : Int32)) = 19 → ¬ ((pSc X x3.toNatClampNeg) &&& (31 : Int32)) = 20 → ¬ ((pSc X x3.toNatClampNeg) &&& (31 : Int32)) = 21 → ¬ ((pSc X x3.toNatClampNeg) &&& (31 : Int32)) = 22 → ¬ ((pSc X x3.toNatClampNeg) &&& (31 : Int32)) = 23 → ¬ ((pSc X x3.toNatClampNeg) &&& (31 : Int32)) = 24 → ¬ ((pSc X x3.toNatClampNeg) &&& (31 : Int32)) = 25 → ((pSc X x3.toNatClampNeg) &&& (31 : Int32)) = 26 → vp_in (x3 + (2 : Int32)) (pLn X))
    (h80 : ¬ (((Int32.ofNat (pLn X)) - (6 : Int32)) < x3) → ¬ ((pSc X x3.toNatClampNeg) &&& (31 : Int32)) = 0 → ¬ ((pSc X x3.toNatClampNeg) &&& (31 : Int32)) = 1 → ¬ ((pSc X x3.toNatClampNeg) &&& (31 : Int32)) = 2 → ¬ ((pSc X x3.toNatClampNeg) &&& (31 : Int32)) = 3 → ¬ ((pSc X x3.toNatClampNeg) &&& (31 : Int32)) = 4 → ¬ ((pSc X x3.toNatClampNeg) &&& (31 : Int32)) = 5 → ¬ ((pSc X x3.toNatClampNeg) &&& (31 : Int32)) = 6 → ¬ ((pSc X x3.toNatClampNeg) &&& (31 : Int32)) = 7 → ¬ ((pSc X x3.toNatClampNeg) &&& (31 : Int32)) = 8 → ¬ ((pSc X x3.toNatClampNeg) &&& (31 : Int32)) = 9 → ¬ ((pSc X x3.toNatClampNeg) &&& (31 : Int32)) = 10 → ¬ ((pSc X x3.toNatClampNeg) &&& (31 : Int32)) = 11 → ¬ ((pSc X x3.toNatClampNeg) &&& (31 : Int32)) = 12 → ¬ ((pSc X x3.toNatClampNeg) &&& (31 : Int32)) = 13 → ¬ ((pSc X x3.toNatClampNeg) &&& (31 : Int32)) = 14 → ¬ ((pSc X x3.toNatClampNeg) &&& (31 : Int32)) = 15 → ¬ ((pSc X x3.toNatClampNeg) &&& (31 : Int32)) = 16 → ¬ ((pSc X x3.toNatClampNeg) &&& (31 : Int32)) = 17 → ¬ ((pSc X x3.toNatClampNeg) &&& (31 : Int32)) = 18 → ¬ ((pSc X x3.toNatClampNeg) &&& (31 : Int32)) = 19 → ¬ ((pSc X x3.toNatClampNeg) &&& (31 : Int32)) = 20 → ¬ ((pSc X x3.toNatClampNeg) &&& (31 : Int32)) = 21 → ¬ ((pSc X x3.toNatClampNeg) &&& (31 : Int32)) = 22 → ¬ ((pSc X x3.toNatClampNeg) &&& (31 : Int32)) = 23 → ¬ ((pSc X x3.toNatClampNeg) &&& (31 : Int32)) = 24 → ¬ ((pSc X x3.toNatClampNeg) &&& (31 : Int32)) = 25 → ((pSc X x3.toNatClampNeg) &&& (31 : Int32)) = 26 → Cl X 7 mX11_look [.ref 0, .int (pSc X (x3 + (1 : Int32)).toNatClampNeg), .int (pSc X (x3 + (2 : Int32)).toNatClampNeg)] m (fun v m2 => GoL X Z 1018 [(0, .retAddr 0), (1, .ref 0), (2, .ref 535), (3, .int x3)] (v.toList ++ []) m2))
    (h81 : ¬ (((Int32.ofNat (pLn X)) - (6 : Int32)) < x3) → ¬ ((pSc X x3.toNatClampNeg) &&& (31 : Int32)) = 0 → ¬ ((pSc X x3.toNatClampNeg) &&& (31 : Int32)) = 1 → ¬ ((pSc X x3.toNatClampNeg) &&& (31 : Int32)) = 2 → ¬ ((pSc X x3.toNatClampNeg) &&& (31 : Int32)) = 3 → ¬ ((pSc X x3.toNatClampNeg) &&& (31 : Int32)) = 4 → ¬ ((pSc X x3.toNatClampNeg) &&& (31 : Int32)) = 5 → ¬ ((pSc X x3.toNatClampNeg) &&& (31 : Int32)) = 6 → ¬ ((pSc X x3.toNatClampNeg) &&& (31 : Int32)) = 7 → ¬ ((pSc X x3.toNatClampNeg) &&& (31 : Int32)) = 8 → ¬ ((pSc X x3.toNatClampNeg) &&& (31 : Int32)) = 9 → ¬ ((pSc X x3.toNatClampNeg) &&& (31 : Int32)) = 10 → ¬ ((pSc X x3.toNatClampNeg) &&& (31 : Int32)) = 11 → ¬ ((pSc X x3.toNatClampNeg) &&& (31 : Int32)) = 12 → ¬ ((pSc X x3.toNatClampNeg) &&& (31 : Int32)) = 13 → ¬ ((pSc X x3.toNatClampNeg) &&& (31 : Int32)) = 14 → ¬ ((pSc X x3.toNatClampNeg) &&& (31 : Int32)) = 15 → ¬ ((pSc X x3.toNatClampNeg) &&& (31 : Int32)) = 16 → ¬ ((pSc X x3.toNatClampNeg) &&& (31 : Int32)) = 17 → ¬ ((pSc X x3.toNatClampNeg) &&& (31 : Int32)) = 18 → ¬ ((pSc X x3.toNatClampNeg) &&& (31 : Int32)) = 19 → ¬ ((pSc X x3.toNatClampNeg) &&& (31 : Int32)) = 20 → ¬ ((pSc X x3.toNatClampNeg) &&& (31 : Int32)) = 21 → ¬ ((pSc X x3.toNatClampNeg) &&& (31 : Int32)) = 22 → ¬ ((pSc X x3.toNatClampNeg) &&& (31 : Int32)) = 23 → ¬ ((pSc X x3.toNatClampNeg) &&& (31 : Int32)) = 24 → ¬ ((pSc X x3.toNatClampNeg) &&& (31 : Int32)) = 25 → ¬ ((pSc X x3.toNatClampNeg) &&& (31 : Int32)) = 26 → ((pSc X x3.toNatClampNeg) &&& (31 : Int32)) = 27 → vp_in (x3 + (1 : Int32)) (pLn X))
    (h82 : ¬ (((Int32.ofNat (pLn X)) - (6 : Int32)) < x3) → ¬ ((pSc X x3.toNatClampNeg) &&& (31 : Int32)) = 0 → ¬ ((pSc X x3.toNatClampNeg) &&& (31 : Int32)) = 1 → ¬ ((pSc X x3.toNatClampNeg) &&& (31 : Int32)) = 2 → ¬ ((pSc X x3.toNatClampNeg) &&& (31 : Int32)) = 3 → ¬ ((pSc X x3.toNatClampNeg) &&& (31 : Int32)) = 4 → ¬ ((pSc X x3.toNatClampNeg) &&& (31 : Int32)) = 5 → ¬ ((pSc X x3.toNatClampNeg) &&& (31 : Int32)) = 6 → ¬ ((pSc X x3.toNatClampNeg) &&& (31 : Int32)) = 7 → ¬ ((pSc X x3.toNatClampNeg) &&& (31 : Int32)) = 8 → ¬ ((pSc X x3.toNatClampNeg) &&& (31 : Int32)) = 9 → ¬ ((pSc X x3.toNatClampNeg) &&& (31 : Int32)) = 10 → ¬ ((pSc X x3.toNatClampNeg) &&& (31 : Int32)) = 11 → ¬ ((pSc X x3.toNatClampNeg) &&& (31 : Int32)) = 12 → ¬ ((pSc X x3.toNatClampNeg) &&& (31 : Int32)) = 13 → ¬ ((pSc X x3.toNatClampNeg) &&& (31 : Int32)) = 14 → ¬ ((pSc X x3.toNatClampNeg) &&& (31 : Int32)) = 15 → ¬ ((pSc X x3.toNatClampNeg) &&& (31 : Int32)) = 16 → ¬ ((pSc X x3.toNatClampNeg) &&& (31 : Int32)) = 17 → ¬ ((pSc X x3.toNatClampNeg) &&& (31 : Int32)) = 18 → ¬ ((pSc X x3.toNatClampNeg) &&& (31 : Int32)) = 19 → ¬ ((pSc X x3.toNatClampNeg) &&& (31 : Int32)) = 20 → ¬ ((pSc X x3.toNatClampNeg) &&& (31 : Int32)) = 21 → ¬ ((pSc X x3.toNatClampNeg) &&& (31 : Int32)) = 22 → ¬ ((pSc X x3.toNatClampNeg) &&& (31 : Int32)) = 23 → ¬ ((pSc X x3.toNatClampNeg) &&& (31 : Int32)) = 24 → ¬ ((pSc X x3.toNatClampNeg) &&& (31 : Int32)) = 25 → ¬ ((pSc X x3.toNatClampNeg) &&& (31 : Int32)) = 26 → ((pSc X x3.toNatClampNeg) &&& (31 : Int32)) = 27 → Cl X 0 mX11_seed [.ref 0, .int (pSc X (x3 + (1 : Int32)).toNatClampNeg)] m (fun v m2 => GoL X Z 1046 [(0, .retAddr 0), (1, .ref 0), (2, .ref 535), (3, .int x3)] (v.toList ++ []) m2))
    (h83 : ¬ (((Int32.ofNat (pLn X)) - (6 : Int32)) < x3) → ¬ ((pSc X x3.toNatClampNeg) &&& (31 : Int32)) = 0 → ¬ ((pSc X x3.toNatClampNeg) &&& (31 : Int32)) = 1 → ¬ ((pSc X x3.toNatClampNeg) &&& (31 : Int32)) = 2 → ¬ ((pSc X x3.toNatClampNeg) &&& (31 : Int32)) = 3 → ¬ ((pSc X x3.toNatClampNeg) &&& (31 : Int32)) = 4 → ¬ ((pSc X x3.toNatClampNeg) &&& (31 : Int32)) = 5 → ¬ ((pSc X x3.toNatClampNeg) &&& (31 : Int32)) = 6 → ¬ ((pSc X x3.toNatClampNeg) &&& (31 : Int32)) = 7 → ¬ ((pSc X x3.toNatClampNeg) &&& (31 : Int32)) = 8 → ¬ ((pSc X x3.toNatClampNeg) &&& (31 : Int32)) = 9 → ¬ ((pSc X x3.toNatClampNeg) &&& (31 : Int32)) = 10 → ¬ ((pSc X x3.toNatClampNeg) &&& (31 : Int32)) = 11 → ¬ ((pSc X x3.toNatClampNeg) &&& (31 : Int32)) = 12 → ¬ ((pSc X x3.toNatClampNeg) &&& (31 : Int32)) = 13 → ¬ ((pSc X x3.toNatClampNeg) &&& (31 : Int32)) = 14 → ¬ ((pSc X x3.toNatClampNeg) &&& (31 : Int32)) = 15 → ¬ ((pSc X x3.toNatClampNeg) &&& (31 : Int32)) = 16 → ¬ ((pSc X x3.toNatClampNeg) &&& (31 : Int32)) = 17 → ¬ ((pSc X x3.toNatClampNeg) &&& (31 : Int32)) = 18 → ¬ ((pSc X x3.toNatClampNeg) &&& (31 : Int32)) = 19 → ¬ ((pSc X x3.toNatClampNeg) &&& (31 : Int32)) = 20 → ¬ ((pSc X x3.toNatClampNeg) &&& (31 : Int32)) = 21 → ¬ ((pSc X x3.toNatClampNeg) &&& (31 : Int32)) = 22 → ¬ ((pSc X x3.toNatClampNeg) &&& (31 : Int32)) = 23 → ¬ ((pSc X x3.toNatClampNeg) &&& (31 : Int32)) = 24 → ¬ ((pSc X x3.toNatClampNeg) &&& (31 : Int32)) = 25 → ¬ ((pSc X x3.toNatClampNeg) &&& (31 : Int32)) = 26 → ¬ ((pSc X x3.toNatClampNeg) &&& (31 : Int32)) = 27 → ((pSc X x3.toNatClampNeg) &&& (31 : Int32)) = 28 → vp_in (x3 + (1 : Int32)) (pLn X))
    (h84 : ¬ (((Int32.ofNat (pLn X)) - (6 : Int32)) < x3) → ¬ ((pSc X x3.toNatClampNeg) &&& (31 : Int32)) = 0 → ¬ ((pSc X x3.toNatClampNeg) &&& (31 : Int32)) = 1 → ¬ ((pSc X x3.toNatClampNeg) &&& (31 : Int32)) = 2 → ¬ ((pSc X x3.toNatClampNeg) &&& (31 : Int32)) = 3 → ¬ ((pSc X x3.toNatClampNeg) &&& (31 : Int32)) = 4 → ¬ ((pSc X x3.toNatClampNeg) &&& (31 : Int32)) = 5 → ¬ ((pSc X x3.toNatClampNeg) &&& (31 : Int32)) = 6 → ¬ ((pSc X x3.toNatClampNeg) &&& (31 : Int32)) = 7 → ¬ ((pSc X x3.toNatClampNeg) &&& (31 : Int32)) = 8 → ¬ ((pSc X x3.toNatClampNeg) &&& (31 : Int32)) = 9 → ¬ ((pSc X x3.toNatClampNeg) &&& (31 : Int32)) = 10 → ¬ ((pSc X x3.toNatClampNeg) &&& (31 : Int32)) = 11 → ¬ ((pSc X x3.toNatClampNeg) &&& (31 : Int32)) = 12 → ¬ ((pSc X x3.toNatClampNeg) &&& (31 : Int32)) = 13 → ¬ ((pSc X x3.toNatClampNeg) &&& (31 : Int32)) = 14 → ¬ ((pSc X x3.toNatClampNeg) &&& (31 : Int32)) = 15 → ¬ ((pSc X x3.toNatClampNeg) &&& (31 : Int32)) = 16 → ¬ ((pSc X x3.toNatClampNeg) &&& (31 : Int32)) = 17 → ¬ ((pSc X x3.toNatClampNeg) &&& (31 : Int32)) = 18 → ¬ ((pSc X x3.toNatClampNeg) &&& (31 : Int32)) = 19 → ¬ ((pSc X x3.toNatClampNeg) &&& (31 : Int32)) = 20 → ¬ ((pSc X x3.toNatClampNeg) &&& (31 : Int32)) = 21 → ¬ ((pSc X x3.toNatClampNeg) &&& (31 : Int32)) = 22 → ¬ ((pSc X x3.toNatClampNeg) &&& (31 : Int32)) = 23 → ¬ ((pSc X x3.toNatClampNeg) &&& (31 : Int32)) = 24 → ¬ ((pSc X x3.toNatClampNeg) &&& (31 : Int32)) = 25 → ¬ ((pSc X x3.toNatClampNeg) &&& (31 : Int32)) = 26 → ¬ ((pSc X x3.toNatClampNeg) &&& (31 : Int32)) = 27 → ((pSc X x3.toNatClampNeg) &&& (31 : Int32)) = 28 → vp_in (x3 + (2 : Int32)) (pLn X))
    (h85 : ¬ (((Int32.ofNat (pLn X)) - (6 : Int32)) < x3) → ¬ ((pSc X x3.toNatClampNeg) &&& (31 : Int32)) = 0 → ¬ ((pSc X x3.toNatClampNeg) &&& (31 : Int32)) = 1 → ¬ ((pSc X x3.toNatClampNeg) &&& (31 : Int32)) = 2 → ¬ ((pSc X x3.toNatClampNeg) &&& (31 : Int32)) = 3 → ¬ ((pSc X x3.toNatClampNeg) &&& (31 : Int32)) = 4 → ¬ ((pSc X x3.toNatClampNeg) &&& (31 : Int32)) = 5 → ¬ ((pSc X x3.toNatClampNeg) &&& (31 : Int32)) = 6 → ¬ ((pSc X x3.toNatClampNeg) &&& (31 : Int32)) = 7 → ¬ ((pSc X x3.toNatClampNeg) &&& (31 : Int32)) = 8 → ¬ ((pSc X x3.toNatClampNeg) &&& (31 : Int32)) = 9 → ¬ ((pSc X x3.toNatClampNeg) &&& (31 : Int32)) = 10 → ¬ ((pSc X x3.toNatClampNeg) &&& (31 : Int32)) = 11 → ¬ ((pSc X x3.toNatClampNeg) &&& (31 : Int32)) = 12 → ¬ ((pSc X x3.toNatClampNeg) &&& (31 : Int32)) = 13 → ¬ ((pSc X x3.toNatClampNeg) &&& (31 : Int32)) = 14 → ¬ ((pSc X x3.toNatClampNeg) &&& (31 : Int32)) = 15 → ¬ ((pSc X x3.toNatClampNeg) &&& (31 : Int32)) = 16 → ¬ ((pSc X x3.toNatClampNeg) &&& (31 : Int32)) = 17 → ¬ ((pSc X x3.toNatClampNeg) &&& (31 : Int32)) = 18 → ¬ ((pSc X x3.toNatClampNeg) &&& (31 : Int32)) = 19 → ¬ ((pSc X x3.toNatClampNeg) &&& (31 : Int32)) = 20 → ¬ ((pSc X x3.toNatClampNeg) &&& (31 : Int32)) = 21 → ¬ ((pSc X x3.toNatClampNeg) &&& (31 : Int32)) = 22 → ¬ ((pSc X x3.toNatClampNeg) &&& (31 : Int32)) = 23 → ¬ ((pSc X x3.toNatClampNeg) &&& (31 : Int32)) = 24 → ¬ ((pSc X x3.toNatClampNeg) &&& (31 : Int32)) = 25 → ¬ ((pSc X x3.toNatClampNeg) &&& (31 : Int32)) = 26 → ¬ ((pSc X x3.toNatClampNeg) &&& (31 : Int32)) = 27 → ((pSc X x3.toNatClampNeg) &&& (31 : Int32)) = 28 → vp_in (x3 + (3 : Int32)) (pLn X))
    (h86 : ¬ (((Int32.ofNat (pLn X)) - (6 : Int32)) < x3) → ¬ ((pSc X x3.toNatClampNeg) &&& (31 : Int32)) = 0 → ¬ ((pSc X x3.toNatClampNeg) &&& (31 : Int32)) = 1 → ¬ ((pSc X x3.toNatClampNeg) &&& (31 : Int32)) = 2 → ¬ ((pSc X x3.toNatClampNeg) &&& (31 : Int32)) = 3 → ¬ ((pSc X x3.toNatClampNeg) &&& (31 : Int32)) = 4 → ¬ ((pSc X x3.toNatClampNeg) &&& (31 : Int32)) = 5 → ¬ ((pSc X x3.toNatClampNeg) &&& (31 : Int32)) = 6 → ¬ ((pSc X x3.toNatClampNeg) &&& (31 : Int32)) = 7 → ¬ ((pSc X x3.toNatClampNeg) &&& (31 : Int32)) = 8 → ¬ ((pSc X x3.toNatClampNeg) &&& (31 : Int32)) = 9 → ¬ ((pSc X x3.toNatClampNeg) &&& (31 : Int32)) = 10 → ¬ ((pSc X x3.toNatClampNeg) &&& (31 : Int32)) = 11 → ¬ ((pSc X x3.toNatClampNeg) &&& (31 : Int32)) = 12 → ¬ ((pSc X x3.toNatClampNeg) &&& (31 : Int32)) = 13 → ¬ ((pSc X x3.toNatClampNeg) &&& (31 : Int32)) = 14 → ¬ ((pSc X x3.toNatClampNeg) &&& (31 : Int32)) = 15 → ¬ ((pSc X x3.toNatClampNeg) &&& (31 : Int32)) = 16 → ¬ ((pSc X x3.toNatClampNeg) &&& (31 : Int32)) = 17 → ¬ ((pSc X x3.toNatClampNeg) &&& (31 : Int32)) = 18 → ¬ ((pSc X x3.toNatClampNeg) &&& (31 : Int32)) = 19 → ¬ ((pSc X x3.toNatClampNeg) &&& (31 : Int32)) = 20 → ¬ ((pSc X x3.toNatClampNeg) &&& (31 : Int32)) = 21 → ¬ ((pSc X x3.toNatClampNeg) &&& (31 : Int32)) = 22 → ¬ ((pSc X x3.toNatClampNeg) &&& (31 : Int32)) = 23 → ¬ ((pSc X x3.toNatClampNeg) &&& (31 : Int32)) = 24 → ¬ ((pSc X x3.toNatClampNeg) &&& (31 : Int32)) = 25 → ¬ ((pSc X x3.toNatClampNeg) &&& (31 : Int32)) = 26 → ¬ ((pSc X x3.toNatClampNeg) &&& (31 : Int32)) = 27 → ((pSc X x3.toNatClampNeg) &&& (31 : Int32)) = 28 → vp_in (x3 + (4 : Int32)) (pLn X))
    (h87 : ¬ (((Int32.ofNat (pLn X)) - (6 : Int32)) < x3) → ¬ ((pSc X x3.toNatClampNeg) &&& (31 : Int32)) = 0 → ¬ ((pSc X x3.toNatClampNeg) &&& (31 : Int32)) = 1 → ¬ ((pSc X x3.toNatClampNeg) &&& (31 : Int32)) = 2 → ¬ ((pSc X x3.toNatClampNeg) &&& (31 : Int32)) = 3 → ¬ ((pSc X x3.toNatClampNeg) &&& (31 : Int32)) = 4 → ¬ ((pSc X x3.toNatClampNeg) &&& (31 : Int32)) = 5 → ¬ ((pSc X x3.toNatClampNeg) &&& (31 : Int32)) = 6 → ¬ ((pSc X x3.toNatClampNeg) &&& (31 : Int32)) = 7 → ¬ ((pSc X x3.toNatClampNeg) &&& (31 : Int32)) = 8 → ¬ ((pSc X x3.toNatClampNeg) &&& (31 : Int32)) = 9 → ¬ ((pSc X x3.toNatClampNeg) &&& (31 : Int32)) = 10 → ¬ ((pSc X x3.toNatClampNeg) &&& (31 : Int32)) = 11 → ¬ ((pSc X x3.toNatClampNeg) &&& (31 : Int32)) = 12 → ¬ ((pSc X x3.toNatClampNeg) &&& (31 : Int32)) = 13 → ¬ ((pSc X x3.toNatClampNeg) &&& (31 : Int32)) = 14 → ¬ ((pSc X x3.toNatClampNeg) &&& (31 : Int32)) = 15 → ¬ ((pSc X x3.toNatClampNeg) &&& (31 : Int32)) = 16 → ¬ ((pSc X x3.toNatClampNeg) &&& (31 : Int32)) = 17 → ¬ ((pSc X x3.toNatClampNeg) &&& (31 : Int32)) = 18 → ¬ ((pSc X x3.toNatClampNeg) &&& (31 : Int32)) = 19 → ¬ ((pSc X x3.toNatClampNeg) &&& (31 : Int32)) = 20 → ¬ ((pSc X x3.toNatClampNeg) &&& (31 : Int32)) = 21 → ¬ ((pSc X x3.toNatClampNeg) &&& (31 : Int32)) = 22 → ¬ ((pSc X x3.toNatClampNeg) &&& (31 : Int32)) = 23 → ¬ ((pSc X x3.toNatClampNeg) &&& (31 : Int32)) = 24 → ¬ ((pSc X x3.toNatClampNeg) &&& (31 : Int32)) = 25 → ¬ ((pSc X x3.toNatClampNeg) &&& (31 : Int32)) = 26 → ¬ ((pSc X x3.toNatClampNeg) &&& (31 : Int32)) = 27 → ((pSc X x3.toNatClampNeg) &&& (31 : Int32)) = 28 → Cl X 5 mX11_thieves [.ref 0, .int (pSc X (x3 + (1 : Int32)).toNatClampNeg), .int (pSc X (x3 + (2 : Int32)).toNatClampNeg), .int (pSc X (x3 + (3 : Int32)).toNatClampNeg), .int (pSc X (x3 + (4 : Int32)).toNatClampNeg)] m (fun v m2 => GoL X Z 1084 [(0, .retAddr 0), (1, .ref 0), (2, .ref 535), (3, .int x3)] (v.toList ++ []) m2))
    (h88 : ¬ (((Int32.ofNat (pLn X)) - (6 : Int32)) < x3) → ¬ ((pSc X x3.toNatClampNeg) &&& (31 : Int32)) = 0 → ¬ ((pSc X x3.toNatClampNeg) &&& (31 : Int32)) = 1 → ¬ ((pSc X x3.toNatClampNeg) &&& (31 : Int32)) = 2 → ¬ ((pSc X x3.toNatClampNeg) &&& (31 : Int32)) = 3 → ¬ ((pSc X x3.toNatClampNeg) &&& (31 : Int32)) = 4 → ¬ ((pSc X x3.toNatClampNeg) &&& (31 : Int32)) = 5 → ¬ ((pSc X x3.toNatClampNeg) &&& (31 : Int32)) = 6 → ¬ ((pSc X x3.toNatClampNeg) &&& (31 : Int32)) = 7 → ¬ ((pSc X x3.toNatClampNeg) &&& (31 : Int32)) = 8 → ¬ ((pSc X x3.toNatClampNeg) &&& (31 : Int32)) = 9 → ¬ ((pSc X x3.toNatClampNeg) &&& (31 : Int32)) = 10 → ¬ ((pSc X x3.toNatClampNeg) &&& (31 : Int32)) = 11 → ¬ ((pSc X x3.toNatClampNeg) &&& (31 : Int32)) = 12 → ¬ ((pSc X x3.toNatClampNeg) &&& (31 : Int32)) = 13 → ¬ ((pSc X x3.toNatClampNeg) &&& (31 : Int32)) = 14 → ¬ ((pSc X x3.toNatClampNeg) &&& (31 : Int32)) = 15 → ¬ ((pSc X x3.toNatClampNeg) &&& (31 : Int32)) = 16 → ¬ ((pSc X x3.toNatClampNeg) &&& (31 : Int32)) = 17 → ¬ ((pSc X x3.toNatClampNeg) &&& (31 : Int32)) = 18 → ¬ ((pSc X x3.toNatClampNeg) &&& (31 : Int32)) = 19 → ¬ ((pSc X x3.toNatClampNeg) &&& (31 : Int32)) = 20 → ¬ ((pSc X x3.toNatClampNeg) &&& (31 : Int32)) = 21 → ¬ ((pSc X x3.toNatClampNeg) &&& (31 : Int32)) = 22 → ¬ ((pSc X x3.toNatClampNeg) &&& (31 : Int32)) = 23 → ¬ ((pSc X x3.toNatClampNeg) &&& (31 : Int32)) = 24 → ¬ ((pSc X x3.toNatClampNeg) &&& (31 : Int32)) = 25 → ¬ ((pSc X x3.toNatClampNeg) &&& (31 : Int32)) = 26 → ¬ ((pSc X x3.toNatClampNeg) &&& (31 : Int32)) = 27 → ¬ ((pSc X x3.toNatClampNeg) &&& (31 : Int32)) = 28 → ((pSc X x3.toNatClampNeg) &&& (31 : Int32)) = 29 → vp_in (x3 + (1 : Int32)) (pLn X))
    (h89 : ¬ (((Int32.ofNat (pLn X)) - (6 : Int32)) < x3) → ¬ ((pSc X x3.toNatClampNeg) &&& (31 : Int32)) = 0 → ¬ ((pSc X x3.toNatClampNeg) &&& (31 : Int32)) = 1 → ¬ ((pSc X x3.toNatClampNeg) &&& (31 : Int32)) = 2 → ¬ ((pSc X x3.toNatClampNeg) &&& (31 : Int32)) = 3 → ¬ ((pSc X x3.toNatClampNeg) &&& (31 : Int32)) = 4 → ¬ ((pSc X x3.toNatClampNeg) &&& (31 : Int32)) = 5 → ¬ ((pSc X x3.toNatClampNeg) &&& (31 : Int32)) = 6 → ¬ ((pSc X x3.toNatClampNeg) &&& (31 : Int32)) = 7 → ¬ ((pSc X x3.toNatClampNeg) &&& (31 : Int32)) = 8 → ¬ ((pSc X x3.toNatClampNeg) &&& (31 : Int32)) = 9 → ¬ ((pSc X x3.toNatClampNeg) &&& (31 : Int32)) = 10 → ¬ ((pSc X x3.toNatClampNeg) &&& (31 : Int32)) = 11 → ¬ ((pSc X x3.toNatClampNeg) &&& (31 : Int32)) = 12 → ¬ ((pSc X x3.toNatClampNeg) &&& (31 : Int32)) = 13 → ¬ ((pSc X x3.toNatClampNeg) &&& (31 : Int32)) = 14 → ¬ ((pSc X x3.toNatClampNeg) &&& (31 : Int32)) = 15 → ¬ ((pSc X x3.toNatClampNeg) &&& (31 : Int32)) = 16 → ¬ ((pSc X x3.toNatClampNeg) &&& (31 : Int32)) = 17 → ¬ ((pSc X x3.toNatClampNeg) &&& (31 : Int32)) = 18 → ¬ ((pSc X x3.toNatClampNeg) &&& (31 : Int32)) = 19 → ¬ ((pSc X x3.toNatClampNeg) &&& (31 : Int32)) = 20 → ¬ ((pSc X x3.toNatClampNeg) &&& (31 : Int32)) = 21 → ¬ ((pSc X x3.toNatClampNeg) &&& (31 : Int32)) = 22 → ¬ ((pSc X x3.toNatClampNeg) &&& (31 : Int32)) = 23 → ¬ ((pSc X x3.toNatClampNeg) &&& (31 : Int32)) = 24 → ¬ ((pSc X x3.toNatClampNeg) &&& (31 : Int32)) = 25 → ¬ ((pSc X x3.toNatClampNeg) &&& (31 : Int32)) = 26 → ¬ ((pSc X x3.toNatClampNeg) &&& (31 : Int32)) = 27 → ¬ ((pSc X x3.toNatClampNeg) &&& (31 : Int32)) = 28 → ((pSc X x3.toNatClampNeg) &&& (31 : Int32)) = 29 → Cl X 3 mX11_count [.ref 0, .int (pSc X (x3 + (1 : Int32)).toNatClampNeg)] m (fun v m2 => GoL X Z 1122 [(0, .retAddr 0), (1, .ref 0), (2, .ref 535), (3, .int x3)] (v.toList ++ []) m2))
    (h90 : ¬ (((Int32.ofNat (pLn X)) - (6 : Int32)) < x3) → ¬ ((pSc X x3.toNatClampNeg) &&& (31 : Int32)) = 0 → ¬ ((pSc X x3.toNatClampNeg) &&& (31 : Int32)) = 1 → ¬ ((pSc X x3.toNatClampNeg) &&& (31 : Int32)) = 2 → ¬ ((pSc X x3.toNatClampNeg) &&& (31 : Int32)) = 3 → ¬ ((pSc X x3.toNatClampNeg) &&& (31 : Int32)) = 4 → ¬ ((pSc X x3.toNatClampNeg) &&& (31 : Int32)) = 5 → ¬ ((pSc X x3.toNatClampNeg) &&& (31 : Int32)) = 6 → ¬ ((pSc X x3.toNatClampNeg) &&& (31 : Int32)) = 7 → ¬ ((pSc X x3.toNatClampNeg) &&& (31 : Int32)) = 8 → ¬ ((pSc X x3.toNatClampNeg) &&& (31 : Int32)) = 9 → ¬ ((pSc X x3.toNatClampNeg) &&& (31 : Int32)) = 10 → ¬ ((pSc X x3.toNatClampNeg) &&& (31 : Int32)) = 11 → ¬ ((pSc X x3.toNatClampNeg) &&& (31 : Int32)) = 12 → ¬ ((pSc X x3.toNatClampNeg) &&& (31 : Int32)) = 13 → ¬ ((pSc X x3.toNatClampNeg) &&& (31 : Int32)) = 14 → ¬ ((pSc X x3.toNatClampNeg) &&& (31 : Int32)) = 15 → ¬ ((pSc X x3.toNatClampNeg) &&& (31 : Int32)) = 16 → ¬ ((pSc X x3.toNatClampNeg) &&& (31 : Int32)) = 17 → ¬ ((pSc X x3.toNatClampNeg) &&& (31 : Int32)) = 18 → ¬ ((pSc X x3.toNatClampNeg) &&& (31 : Int32)) = 19 → ¬ ((pSc X x3.toNatClampNeg) &&& (31 : Int32)) = 20 → ¬ ((pSc X x3.toNatClampNeg) &&& (31 : Int32)) = 21 → ¬ ((pSc X x3.toNatClampNeg) &&& (31 : Int32)) = 22 → ¬ ((pSc X x3.toNatClampNeg) &&& (31 : Int32)) = 23 → ¬ ((pSc X x3.toNatClampNeg) &&& (31 : Int32)) = 24 → ¬ ((pSc X x3.toNatClampNeg) &&& (31 : Int32)) = 25 → ¬ ((pSc X x3.toNatClampNeg) &&& (31 : Int32)) = 26 → ¬ ((pSc X x3.toNatClampNeg) &&& (31 : Int32)) = 27 → ¬ ((pSc X x3.toNatClampNeg) &&& (31 : Int32)) = 28 → ¬ ((pSc X x3.toNatClampNeg) &&& (31 : Int32)) = 29 → ((pSc X x3.toNatClampNeg) &&& (31 : Int32)) = 30 → vp_in (x3 + (1 : Int32)) (pLn X))
    (h91 : ¬ (((Int32.ofNat (pLn X)) - (6 : Int32)) < x3) → ¬ ((pSc X x3.toNatClampNeg) &&& (31 : Int32)) = 0 → ¬ ((pSc X x3.toNatClampNeg) &&& (31 : Int32)) = 1 → ¬ ((pSc X x3.toNatClampNeg) &&& (31 : Int32)) = 2 → ¬ ((pSc X x3.toNatClampNeg) &&& (31 : Int32)) = 3 → ¬ ((pSc X x3.toNatClampNeg) &&& (31 : Int32)) = 4 → ¬ ((pSc X x3.toNatClampNeg) &&& (31 : Int32)) = 5 → ¬ ((pSc X x3.toNatClampNeg) &&& (31 : Int32)) = 6 → ¬ ((pSc X x3.toNatClampNeg) &&& (31 : Int32)) = 7 → ¬ ((pSc X x3.toNatClampNeg) &&& (31 : Int32)) = 8 → ¬ ((pSc X x3.toNatClampNeg) &&& (31 : Int32)) = 9 → ¬ ((pSc X x3.toNatClampNeg) &&& (31 : Int32)) = 10 → ¬ ((pSc X x3.toNatClampNeg) &&& (31 : Int32)) = 11 → ¬ ((pSc X x3.toNatClampNeg) &&& (31 : Int32)) = 12 → ¬ ((pSc X x3.toNatClampNeg) &&& (31 : Int32)) = 13 → ¬ ((pSc X x3.toNatClampNeg) &&& (31 : Int32)) = 14 → ¬ ((pSc X x3.toNatClampNeg) &&& (31 : Int32)) = 15 → ¬ ((pSc X x3.toNatClampNeg) &&& (31 : Int32)) = 16 → ¬ ((pSc X x3.toNatClampNeg) &&& (31 : Int32)) = 17 → ¬ ((pSc X x3.toNatClampNeg) &&& (31 : Int32)) = 18 → ¬ ((pSc X x3.toNatClampNeg) &&& (31 : Int32)) = 19 → ¬ ((pSc X x3.toNatClampNeg) &&& (31 : Int32)) = 20 → ¬ ((pSc X x3.toNatClampNeg) &&& (31 : Int32)) = 21 → ¬ ((pSc X x3.toNatClampNeg) &&& (31 : Int32)) = 22 → ¬ ((pSc X x3.toNatClampNeg) &&& (31 : Int32)) = 23 → ¬ ((pSc X x3.toNatClampNeg) &&& (31 : Int32)) = 24 → ¬ ((pSc X x3.toNatClampNeg) &&& (31 : Int32)) = 25 → ¬ ((pSc X x3.toNatClampNeg) &&& (31 : Int32)) = 26 → ¬ ((pSc X x3.toNatClampNeg) &&& (31 : Int32)) = 27 → ¬ ((pSc X x3.toNatClampNeg) &&& (31 : Int32)) = 28 → ¬ ((pSc X x3.toNatClampNeg) &&& (31 : Int32)) = 29 → ((pSc X x3.toNatClampNeg) &&& (31 : Int32)) = 30 → Cl X 4 mX11_image [.ref 0, .int (pSc X (x3 + (1 : Int32)).toNatClampNeg)] m (fun v m2 => GoL X Z 1145 [(0, .retAddr 0), (1, .ref 0), (2, .ref 535), (3, .int x3)] (v.toList ++ []) m2))
    (h92 : ¬ (((Int32.ofNat (pLn X)) - (6 : Int32)) < x3) → ¬ ((pSc X x3.toNatClampNeg) &&& (31 : Int32)) = 0 → ¬ ((pSc X x3.toNatClampNeg) &&& (31 : Int32)) = 1 → ¬ ((pSc X x3.toNatClampNeg) &&& (31 : Int32)) = 2 → ¬ ((pSc X x3.toNatClampNeg) &&& (31 : Int32)) = 3 → ¬ ((pSc X x3.toNatClampNeg) &&& (31 : Int32)) = 4 → ¬ ((pSc X x3.toNatClampNeg) &&& (31 : Int32)) = 5 → ¬ ((pSc X x3.toNatClampNeg) &&& (31 : Int32)) = 6 → ¬ ((pSc X x3.toNatClampNeg) &&& (31 : Int32)) = 7 → ¬ ((pSc X x3.toNatClampNeg) &&& (31 : Int32)) = 8 → ¬ ((pSc X x3.toNatClampNeg) &&& (31 : Int32)) = 9 → ¬ ((pSc X x3.toNatClampNeg) &&& (31 : Int32)) = 10 → ¬ ((pSc X x3.toNatClampNeg) &&& (31 : Int32)) = 11 → ¬ ((pSc X x3.toNatClampNeg) &&& (31 : Int32)) = 12 → ¬ ((pSc X x3.toNatClampNeg) &&& (31 : Int32)) = 13 → ¬ ((pSc X x3.toNatClampNeg) &&& (31 : Int32)) = 14 → ¬ ((pSc X x3.toNatClampNeg) &&& (31 : Int32)) = 15 → ¬ ((pSc X x3.toNatClampNeg) &&& (31 : Int32)) = 16 → ¬ ((pSc X x3.toNatClampNeg) &&& (31 : Int32)) = 17 → ¬ ((pSc X x3.toNatClampNeg) &&& (31 : Int32)) = 18 → ¬ ((pSc X x3.toNatClampNeg) &&& (31 : Int32)) = 19 → ¬ ((pSc X x3.toNatClampNeg) &&& (31 : Int32)) = 20 → ¬ ((pSc X x3.toNatClampNeg) &&& (31 : Int32)) = 21 → ¬ ((pSc X x3.toNatClampNeg) &&& (31 : Int32)) = 22 → ¬ ((pSc X x3.toNatClampNeg) &&& (31 : Int32)) = 23 → ¬ ((pSc X x3.toNatClampNeg) &&& (31 : Int32)) = 24 → ¬ ((pSc X x3.toNatClampNeg) &&& (31 : Int32)) = 25 → ¬ ((pSc X x3.toNatClampNeg) &&& (31 : Int32)) = 26 → ¬ ((pSc X x3.toNatClampNeg) &&& (31 : Int32)) = 27 → ¬ ((pSc X x3.toNatClampNeg) &&& (31 : Int32)) = 28 → ¬ ((pSc X x3.toNatClampNeg) &&& (31 : Int32)) = 29 → ¬ ((pSc X x3.toNatClampNeg) &&& (31 : Int32)) = 30 → ((pSc X x3.toNatClampNeg) &&& (31 : Int32)) = 31 → vp_in (x3 + (1 : Int32)) (pLn X))
    (h93 : ¬ (((Int32.ofNat (pLn X)) - (6 : Int32)) < x3) → ¬ ((pSc X x3.toNatClampNeg) &&& (31 : Int32)) = 0 → ¬ ((pSc X x3.toNatClampNeg) &&& (31 : Int32)) = 1 → ¬ ((pSc X x3.toNatClampNeg) &&& (31 : Int32)) = 2 → ¬ ((pSc X x3.toNatClampNeg) &&& (31 : Int32)) = 3 → ¬ ((pSc X x3.toNatClampNeg) &&& (31 : Int32)) = 4 → ¬ ((pSc X x3.toNatClampNeg) &&& (31 : Int32)) = 5 → ¬ ((pSc X x3.toNatClampNeg) &&& (31 : Int32)) = 6 → ¬ ((pSc X x3.toNatClampNeg) &&& (31 : Int32)) = 7 → ¬ ((pSc X x3.toNatClampNeg) &&& (31 : Int32)) = 8 → ¬ ((pSc X x3.toNatClampNeg) &&& (31 : Int32)) = 9 → ¬ ((pSc X x3.toNatClampNeg) &&& (31 : Int32)) = 10 → ¬ ((pSc X x3.toNatClampNeg) &&& (31 : Int32)) = 11 → ¬ ((pSc X x3.toNatClampNeg) &&& (31 : Int32)) = 12 → ¬ ((pSc X x3.toNatClampNeg) &&& (31 : Int32)) = 13 → ¬ ((pSc X x3.toNatClampNeg) &&& (31 : Int32)) = 14 → ¬ ((pSc X x3.toNatClampNeg) &&& (31 : Int32)) = 15 → ¬ ((pSc X x3.toNatClampNeg) &&& (31 : Int32)) = 16 → ¬ ((pSc X x3.toNatClampNeg) &&& (31 : Int32)) = 17 → ¬ ((pSc X x3.toNatClampNeg) &&& (31 : Int32)) = 18 → ¬ ((pSc X x3.toNatClampNeg) &&& (31 : Int32)) = 19 → ¬ ((pSc X x3.toNatClampNeg) &&& (31 : Int32)) = 20 → ¬ ((pSc X x3.toNatClampNeg) &&& (31 : Int32)) = 21 → ¬ ((pSc X x3.toNatClampNeg) &&& (31 : Int32)) = 22 → ¬ ((pSc X x3.toNatClampNeg) &&& (31 : Int32)) = 23 → ¬ ((pSc X x3.toNatClampNeg) &&& (31 : Int32)) = 24 → ¬ ((pSc X x3.toNatClampNeg) &&& (31 : Int32)) = 25 → ¬ ((pSc X x3.toNatClampNeg) &&& (31 : Int32)) = 26 → ¬ ((pSc X x3.toNatClampNeg) &&& (31 : Int32)) = 27 → ¬ ((pSc X x3.toNatClampNeg) &&& (31 : Int32)) = 28 → ¬ ((pSc X x3.toNatClampNeg) &&& (31 : Int32)) = 29 → ¬ ((pSc X x3.toNatClampNeg) &&& (31 : Int32)) = 30 → ((pSc X x3.toNatClampNeg) &&& (31 : Int32)) = 31 → Cl X 4 mX11_back [.ref 0, .int (pSc X (x3 + (1 : Int32)).toNatClampNeg)] m (fun v m2 => GoL X Z 1168 [(0, .retAddr 0), (1, .ref 0), (2, .ref 535), (3, .int x3)] (v.toList ++ []) m2))
    (h94 : ¬ (((Int32.ofNat (pLn X)) - (6 : Int32)) < x3) → ¬ ((pSc X x3.toNatClampNeg) &&& (31 : Int32)) = 0 → ¬ ((pSc X x3.toNatClampNeg) &&& (31 : Int32)) = 1 → ¬ ((pSc X x3.toNatClampNeg) &&& (31 : Int32)) = 2 → ¬ ((pSc X x3.toNatClampNeg) &&& (31 : Int32)) = 3 → ¬ ((pSc X x3.toNatClampNeg) &&& (31 : Int32)) = 4 → ¬ ((pSc X x3.toNatClampNeg) &&& (31 : Int32)) = 5 → ¬ ((pSc X x3.toNatClampNeg) &&& (31 : Int32)) = 6 → ¬ ((pSc X x3.toNatClampNeg) &&& (31 : Int32)) = 7 → ¬ ((pSc X x3.toNatClampNeg) &&& (31 : Int32)) = 8 → ¬ ((pSc X x3.toNatClampNeg) &&& (31 : Int32)) = 9 → ¬ ((pSc X x3.toNatClampNeg) &&& (31 : Int32)) = 10 → ¬ ((pSc X x3.toNatClampNeg) &&& (31 : Int32)) = 11 → ¬ ((pSc X x3.toNatClampNeg) &&& (31 : Int32)) = 12 → ¬ ((pSc X x3.toNatClampNeg) &&& (31 : Int32)) = 13 → ¬ ((pSc X x3.toNatClampNeg) &&& (31 : Int32)) = 14 → ¬ ((pSc X x3.toNatClampNeg) &&& (31 : Int32)) = 15 → ¬ ((pSc X x3.toNatClampNeg) &&& (31 : Int32)) = 16 → ¬ ((pSc X x3.toNatClampNeg) &&& (31 : Int32)) = 17 → ¬ ((pSc X x3.toNatClampNeg) &&& (31 : Int32)) = 18 → ¬ ((pSc X x3.toNatClampNeg) &&& (31 : Int32)) = 19 → ¬ ((pSc X x3.toNatClampNeg) &&& (31 : Int32)) = 20 → ¬ ((pSc X x3.toNatClampNeg) &&& (31 : Int32)) = 21 → ¬ ((pSc X x3.toNatClampNeg) &&& (31 : Int32)) = 22 → ¬ ((pSc X x3.toNatClampNeg) &&& (31 : Int32)) = 23 → ¬ ((pSc X x3.toNatClampNeg) &&& (31 : Int32)) = 24 → ¬ ((pSc X x3.toNatClampNeg) &&& (31 : Int32)) = 25 → ¬ ((pSc X x3.toNatClampNeg) &&& (31 : Int32)) = 26 → ¬ ((pSc X x3.toNatClampNeg) &&& (31 : Int32)) = 27 → ¬ ((pSc X x3.toNatClampNeg) &&& (31 : Int32)) = 28 → ¬ ((pSc X x3.toNatClampNeg) &&& (31 : Int32)) = 29 → ¬ ((pSc X x3.toNatClampNeg) &&& (31 : Int32)) = 30 → ¬ ((pSc X x3.toNatClampNeg) &&& (31 : Int32)) = 31 → GoL X Z 18 [(0, .retAddr 0), (1, .ref 0), (2, .ref 535), (3, .int (x3 + (6 : Int32)))] [] m) :
    GoL X Z 18 [(0, .retAddr 0), (1, .ref 0), (2, .ref 535), (3, .int x3)] [] m := by
  refine g_iload_n 3 dL_law_18 rfl rfl ?_
  refine g_aload_nO 0 dL_law_19 rfl rfl ?_
  refine g_slen dL_law_20 ?_
  refine g_bipush (v := 6) dL_law_21 (by decide) ?_
  refine g_isub dL_law_23 ?_
  refine g_icmp_gt 1188 dL_law_24 (by decide) (fun q1 => ?_) (fun q1 => ?_)
  · refine g_iconst (v := 1) dL_law_1188 (by decide) ?_
    exact (h1 q1)
  · refine g_aload_nO 0 dL_law_27 rfl rfl ?_
    refine g_iload_n 3 dL_law_28 rfl rfl ?_
    refine g_sld dL_law_29 (h2 q1) ?_
    refine g_bipush (v := 31) dL_law_30 (by decide) ?_
    refine g_iand dL_law_32 ?_
    by_cases q2 : ((pSc X x3.toNatClampNeg) &&& (31 : Int32)) = 0
    · refine g_tabIn 176 dL_law_33 (by rw [q2]; decide) (by rw [q2]; decide) (by rw [q2]; rfl) (by decide) ?_
      refine g_aload_n 1 dL_law_176 rfl rfl ?_
      refine g_aload_nO 0 dL_law_177 rfl rfl ?_
      refine g_iload_n 3 dL_law_178 rfl rfl ?_
      refine g_iconst (v := 1) dL_law_179 (by decide) ?_
      refine g_iadd dL_law_180 ?_
      refine g_sld dL_law_181 (h3 q1 q2) ?_
      refine g_aload_nO 0 dL_law_182 rfl rfl ?_
      refine g_iload_n 3 dL_law_183 rfl rfl ?_
      refine g_iconst (v := 2) dL_law_184 (by decide) ?_
      refine g_iadd dL_law_185 ?_
      refine g_sld dL_law_186 (h4 q1 q2) ?_
      refine g_aload_nO 0 dL_law_187 rfl rfl ?_
      refine g_iload_n 3 dL_law_188 rfl rfl ?_
      refine g_iconst (v := 3) dL_law_189 (by decide) ?_
      refine g_iadd dL_law_190 ?_
      refine g_sld dL_law_191 (h5 q1 q2) ?_
      refine g_aload_nO 0 dL_law_192 rfl rfl ?_
      refine g_iload_n 3 dL_law_193 rfl rfl ?_
      refine g_iconst (v := 4) dL_law_194 (by decide) ?_
      refine g_iadd dL_law_195 ?_
      refine g_sld dL_law_196 (h6 q1 q2) ?_
      refine g_aload_nO 0 dL_law_197 rfl rfl ?_
      refine g_iload_n 3 dL_law_198 rfl rfl ?_
      refine g_iconst (v := 5) dL_law_199 (by decide) ?_
      refine g_iadd dL_law_200 ?_
      refine g_sld dL_law_201 (h7 q1 q2) ?_
      exact g_callV (As := [.int (pSc X (x3 + (1 : Int32)).toNatClampNeg), .int (pSc X (x3 + (2 : Int32)).toNatClampNeg), .int (pSc X (x3 + (3 : Int32)).toNatClampNeg), .int (pSc X (x3 + (4 : Int32)).toNatClampNeg), .int (pSc X (x3 + (5 : Int32)).toNatClampNeg)]) (st := []) dL_law_202 clL_13 sh0 rfl rfl (Nat.le_of_ble_eq_true rfl) (rmL (by decide) (by decide)) (h8 q1 q2)
    by_cases q3 : ((pSc X x3.toNatClampNeg) &&& (31 : Int32)) = 1
    · refine g_tabIn 239 dL_law_33 (by rw [q3]; decide) (by rw [q3]; decide) (by rw [q3]; rfl) (by decide) ?_
      refine g_aload_n 1 dL_law_239 rfl rfl ?_
      refine g_aload_nO 0 dL_law_240 rfl rfl ?_
      refine g_iload_n 3 dL_law_241 rfl rfl ?_
      refine g_iconst (v := 1) dL_law_242 (by decide) ?_
      refine g_iadd dL_law_243 ?_
      refine g_sld dL_law_244 (h9 q1 q2 q3) ?_
      exact g_callV (As := [.int (pSc X (x3 + (1 : Int32)).toNatClampNeg)]) (st := []) dL_law_245 clL_18 sh0 rfl rfl (Nat.le_of_ble_eq_true rfl) (rmL (by decide) (by decide)) (h10 q1 q2 q3)
    by_cases q4 : ((pSc X x3.toNatClampNeg) &&& (31 : Int32)) = 2
    · refine g_tabIn 262 dL_law_33 (by rw [q4]; decide) (by rw [q4]; decide) (by rw [q4]; rfl) (by decide) ?_
      refine g_aload_n 1 dL_law_262 rfl rfl ?_
      exact g_callV (As := []) (st := []) dL_law_263 clL_23 sh0 rfl rfl (Nat.le_of_ble_eq_true rfl) (rmL (by decide) (by decide)) (h11 q1 q2 q3 q4)
    by_cases q5 : ((pSc X x3.toNatClampNeg) &&& (31 : Int32)) = 3
    · refine g_tabIn 275 dL_law_33 (by rw [q5]; decide) (by rw [q5]; decide) (by rw [q5]; rfl) (by decide) ?_
      refine g_aload_n 1 dL_law_275 rfl rfl ?_
      exact g_callV (As := []) (st := []) dL_law_276 clL_28 sh0 rfl rfl (Nat.le_of_ble_eq_true rfl) (rmL (by decide) (by decide)) (h12 q1 q2 q3 q4 q5)
    by_cases q6 : ((pSc X x3.toNatClampNeg) &&& (31 : Int32)) = 4
    · refine g_tabIn 288 dL_law_33 (by rw [q6]; decide) (by rw [q6]; decide) (by rw [q6]; rfl) (by decide) ?_
      refine g_aload_n 1 dL_law_288 rfl rfl ?_
      refine g_aload_nO 0 dL_law_289 rfl rfl ?_
      refine g_iload_n 3 dL_law_290 rfl rfl ?_
      refine g_iconst (v := 1) dL_law_291 (by decide) ?_
      refine g_iadd dL_law_292 ?_
      refine g_sld dL_law_293 (h13 q1 q2 q3 q4 q5 q6) ?_
      exact g_callV (As := [.int (pSc X (x3 + (1 : Int32)).toNatClampNeg)]) (st := []) dL_law_294 clL_32 sh0 rfl rfl (Nat.le_of_ble_eq_true rfl) (rmL (by decide) (by decide)) (h14 q1 q2 q3 q4 q5 q6)
    by_cases q7 : ((pSc X x3.toNatClampNeg) &&& (31 : Int32)) = 5
    · refine g_tabIn 311 dL_law_33 (by rw [q7]; decide) (by rw [q7]; decide) (by rw [q7]; rfl) (by decide) ?_
      refine g_aload_n 1 dL_law_311 rfl rfl ?_
      refine g_aload_nO 0 dL_law_312 rfl rfl ?_
      refine g_iload_n 3 dL_law_313 rfl rfl ?_
      refine g_iconst (v := 1) dL_law_314 (by decide) ?_
      refine g_iadd dL_law_315 ?_
      refine g_sld dL_law_316 (h15 q1 q2 q3 q4 q5 q6 q7) ?_
      refine g_aload_nO 0 dL_law_317 rfl rfl ?_
      refine g_iload_n 3 dL_law_318 rfl rfl ?_
      refine g_iconst (v := 2) dL_law_319 (by decide) ?_
      refine g_iadd dL_law_320 ?_
      refine g_sld dL_law_321 (h16 q1 q2 q3 q4 q5 q6 q7) ?_
      exact g_callV (As := [.int (pSc X (x3 + (1 : Int32)).toNatClampNeg), .int (pSc X (x3 + (2 : Int32)).toNatClampNeg)]) (st := []) dL_law_322 clL_36 sh0 rfl rfl (Nat.le_of_ble_eq_true rfl) (rmL (by decide) (by decide)) (h17 q1 q2 q3 q4 q5 q6 q7)
    by_cases q8 : ((pSc X x3.toNatClampNeg) &&& (31 : Int32)) = 6
    · refine g_tabIn 344 dL_law_33 (by rw [q8]; decide) (by rw [q8]; decide) (by rw [q8]; rfl) (by decide) ?_
      refine g_aload_n 1 dL_law_344 rfl rfl ?_
      refine g_aload_nO 0 dL_law_345 rfl rfl ?_
      refine g_iload_n 3 dL_law_346 rfl rfl ?_
      refine g_iconst (v := 1) dL_law_347 (by decide) ?_
      refine g_iadd dL_law_348 ?_
      refine g_sld dL_law_349 (h18 q1 q2 q3 q4 q5 q6 q7 q8) ?_
      refine g_aload_nO 0 dL_law_350 rfl rfl ?_
      refine g_iload_n 3 dL_law_351 rfl rfl ?_
      refine g_iconst (v := 2) dL_law_352 (by decide) ?_
      refine g_iadd dL_law_353 ?_
      refine g_sld dL_law_354 (h19 q1 q2 q3 q4 q5 q6 q7 q8) ?_
      exact g_callV (As := [.int (pSc X (x3 + (1 : Int32)).toNatClampNeg), .int (pSc X (x3 + (2 : Int32)).toNatClampNeg)]) (st := []) dL_law_355 clL_41 sh0 rfl rfl (Nat.le_of_ble_eq_true rfl) (rmL (by decide) (by decide)) (h20 q1 q2 q3 q4 q5 q6 q7 q8)
    by_cases q9 : ((pSc X x3.toNatClampNeg) &&& (31 : Int32)) = 7
    · refine g_tabIn 377 dL_law_33 (by rw [q9]; decide) (by rw [q9]; decide) (by rw [q9]; rfl) (by decide) ?_
      refine g_aload_n 1 dL_law_377 rfl rfl ?_
      refine g_aload_nO 0 dL_law_378 rfl rfl ?_
      refine g_iload_n 3 dL_law_379 rfl rfl ?_
      refine g_iconst (v := 1) dL_law_380 (by decide) ?_
      refine g_iadd dL_law_381 ?_
      refine g_sld dL_law_382 (h21 q1 q2 q3 q4 q5 q6 q7 q8 q9) ?_
      exact g_callV (As := [.int (pSc X (x3 + (1 : Int32)).toNatClampNeg)]) (st := []) dL_law_383 clL_45 sh0 rfl rfl (Nat.le_of_ble_eq_true rfl) (rmL (by decide) (by decide)) (h22 q1 q2 q3 q4 q5 q6 q7 q8 q9)
    by_cases q10 : ((pSc X x3.toNatClampNeg) &&& (31 : Int32)) = 8
    · refine g_tabIn 400 dL_law_33 (by rw [q10]; decide) (by rw [q10]; decide) (by rw [q10]; rfl) (by decide) ?_
      refine g_aload_n 1 dL_law_400 rfl rfl ?_
      exact g_callV (As := []) (st := []) dL_law_401 clL_49 sh0 rfl rfl (Nat.le_of_ble_eq_true rfl) (rmL (by decide) (by decide)) (h23 q1 q2 q3 q4 q5 q6 q7 q8 q9 q10)
    by_cases q11 : ((pSc X x3.toNatClampNeg) &&& (31 : Int32)) = 9
    · refine g_tabIn 413 dL_law_33 (by rw [q11]; decide) (by rw [q11]; decide) (by rw [q11]; rfl) (by decide) ?_
      refine g_aload_n 1 dL_law_413 rfl rfl ?_
      refine g_aload_nO 0 dL_law_414 rfl rfl ?_
      refine g_iload_n 3 dL_law_415 rfl rfl ?_
      refine g_iconst (v := 1) dL_law_416 (by decide) ?_
      refine g_iadd dL_law_417 ?_
      refine g_sld dL_law_418 (h24 q1 q2 q3 q4 q5 q6 q7 q8 q9 q10 q11) ?_
      refine g_aload_nO 0 dL_law_419 rfl rfl ?_
      refine g_iload_n 3 dL_law_420 rfl rfl ?_
      refine g_iconst (v := 2) dL_law_421 (by decide) ?_
      refine g_iadd dL_law_422 ?_
      refine g_sld dL_law_423 (h25 q1 q2 q3 q4 q5 q6 q7 q8 q9 q10 q11) ?_
      exact g_callV (As := [.int (pSc X (x3 + (1 : Int32)).toNatClampNeg), .int (pSc X (x3 + (2 : Int32)).toNatClampNeg)]) (st := []) dL_law_424 clL_53 sh0 rfl rfl (Nat.le_of_ble_eq_true rfl) (rmL (by decide) (by decide)) (h26 q1 q2 q3 q4 q5 q6 q7 q8 q9 q10 q11)
    by_cases q12 : ((pSc X x3.toNatClampNeg) &&& (31 : Int32)) = 10
    · refine g_tabIn 446 dL_law_33 (by rw [q12]; decide) (by rw [q12]; decide) (by rw [q12]; rfl) (by decide) ?_
      refine g_aload_n 1 dL_law_446 rfl rfl ?_
      refine g_aload_nO 0 dL_law_447 rfl rfl ?_
      refine g_iload_n 3 dL_law_448 rfl rfl ?_
      refine g_iconst (v := 1) dL_law_449 (by decide) ?_
      refine g_iadd dL_law_450 ?_
      refine g_sld dL_law_451 (h27 q1 q2 q3 q4 q5 q6 q7 q8 q9 q10 q11 q12) ?_
      refine g_aload_nO 0 dL_law_452 rfl rfl ?_
      refine g_iload_n 3 dL_law_453 rfl rfl ?_
      refine g_iconst (v := 2) dL_law_454 (by decide) ?_
      refine g_iadd dL_law_455 ?_
      refine g_sld dL_law_456 (h28 q1 q2 q3 q4 q5 q6 q7 q8 q9 q10 q11 q12) ?_
      exact g_callV (As := [.int (pSc X (x3 + (1 : Int32)).toNatClampNeg), .int (pSc X (x3 + (2 : Int32)).toNatClampNeg)]) (st := []) dL_law_457 clL_57 sh0 rfl rfl (Nat.le_of_ble_eq_true rfl) (rmL (by decide) (by decide)) (h29 q1 q2 q3 q4 q5 q6 q7 q8 q9 q10 q11 q12)
    by_cases q13 : ((pSc X x3.toNatClampNeg) &&& (31 : Int32)) = 11
    · refine g_tabIn 479 dL_law_33 (by rw [q13]; decide) (by rw [q13]; decide) (by rw [q13]; rfl) (by decide) ?_
      refine g_aload_n 1 dL_law_479 rfl rfl ?_
      refine g_aload_nO 0 dL_law_480 rfl rfl ?_
      refine g_iload_n 3 dL_law_481 rfl rfl ?_
      refine g_iconst (v := 1) dL_law_482 (by decide) ?_
      refine g_iadd dL_law_483 ?_
      refine g_sld dL_law_484 (h30 q1 q2 q3 q4 q5 q6 q7 q8 q9 q10 q11 q12 q13) ?_
      refine g_aload_nO 0 dL_law_485 rfl rfl ?_
      refine g_iload_n 3 dL_law_486 rfl rfl ?_
      refine g_iconst (v := 2) dL_law_487 (by decide) ?_
      refine g_iadd dL_law_488 ?_
      refine g_sld dL_law_489 (h31 q1 q2 q3 q4 q5 q6 q7 q8 q9 q10 q11 q12 q13) ?_
      refine g_aload_nO 0 dL_law_490 rfl rfl ?_
      refine g_iload_n 3 dL_law_491 rfl rfl ?_
      refine g_iconst (v := 3) dL_law_492 (by decide) ?_
      refine g_iadd dL_law_493 ?_
      refine g_sld dL_law_494 (h32 q1 q2 q3 q4 q5 q6 q7 q8 q9 q10 q11 q12 q13) ?_
      exact g_callV (As := [.int (pSc X (x3 + (1 : Int32)).toNatClampNeg), .int (pSc X (x3 + (2 : Int32)).toNatClampNeg), .int (pSc X (x3 + (3 : Int32)).toNatClampNeg)]) (st := []) dL_law_495 clL_61 sh0 rfl rfl (Nat.le_of_ble_eq_true rfl) (rmL (by decide) (by decide)) (h33 q1 q2 q3 q4 q5 q6 q7 q8 q9 q10 q11 q12 q13)
    by_cases q14 : ((pSc X x3.toNatClampNeg) &&& (31 : Int32)) = 12
    · refine g_tabIn 522 dL_law_33 (by rw [q14]; decide) (by rw [q14]; decide) (by rw [q14]; rfl) (by decide) ?_
      refine g_aload_n 1 dL_law_522 rfl rfl ?_
      refine g_aload_nO 0 dL_law_523 rfl rfl ?_
      refine g_iload_n 3 dL_law_524 rfl rfl ?_
      refine g_iconst (v := 1) dL_law_525 (by decide) ?_
      refine g_iadd dL_law_526 ?_
      refine g_sld dL_law_527 (h34 q1 q2 q3 q4 q5 q6 q7 q8 q9 q10 q11 q12 q13 q14) ?_
      exact g_callV (As := [.int (pSc X (x3 + (1 : Int32)).toNatClampNeg)]) (st := []) dL_law_528 clL_66 sh0 rfl rfl (Nat.le_of_ble_eq_true rfl) (rmL (by decide) (by decide)) (h35 q1 q2 q3 q4 q5 q6 q7 q8 q9 q10 q11 q12 q13 q14)
    by_cases q15 : ((pSc X x3.toNatClampNeg) &&& (31 : Int32)) = 13
    · refine g_tabIn 545 dL_law_33 (by rw [q15]; decide) (by rw [q15]; decide) (by rw [q15]; rfl) (by decide) ?_
      refine g_aload_n 1 dL_law_545 rfl rfl ?_
      exact g_callV (As := []) (st := []) dL_law_546 clL_70 sh0 rfl rfl (Nat.le_of_ble_eq_true rfl) (rmL (by decide) (by decide)) (h36 q1 q2 q3 q4 q5 q6 q7 q8 q9 q10 q11 q12 q13 q14 q15)
    by_cases q16 : ((pSc X x3.toNatClampNeg) &&& (31 : Int32)) = 14
    · refine g_tabIn 558 dL_law_33 (by rw [q16]; decide) (by rw [q16]; decide) (by rw [q16]; rfl) (by decide) ?_
      refine g_aload_n 1 dL_law_558 rfl rfl ?_
      refine g_aload_nO 0 dL_law_559 rfl rfl ?_
      refine g_iload_n 3 dL_law_560 rfl rfl ?_
      refine g_iconst (v := 1) dL_law_561 (by decide) ?_
      refine g_iadd dL_law_562 ?_
      refine g_sld dL_law_563 (h37 q1 q2 q3 q4 q5 q6 q7 q8 q9 q10 q11 q12 q13 q14 q15 q16) ?_
      refine g_aload_nO 0 dL_law_564 rfl rfl ?_
      refine g_iload_n 3 dL_law_565 rfl rfl ?_
      refine g_iconst (v := 2) dL_law_566 (by decide) ?_
      refine g_iadd dL_law_567 ?_
      refine g_sld dL_law_568 (h38 q1 q2 q3 q4 q5 q6 q7 q8 q9 q10 q11 q12 q13 q14 q15 q16) ?_
      refine g_aload_nO 0 dL_law_569 rfl rfl ?_
      refine g_iload_n 3 dL_law_570 rfl rfl ?_
      refine g_iconst (v := 3) dL_law_571 (by decide) ?_
      refine g_iadd dL_law_572 ?_
      refine g_sld dL_law_573 (h39 q1 q2 q3 q4 q5 q6 q7 q8 q9 q10 q11 q12 q13 q14 q15 q16) ?_
      exact g_callV (As := [.int (pSc X (x3 + (1 : Int32)).toNatClampNeg), .int (pSc X (x3 + (2 : Int32)).toNatClampNeg), .int (pSc X (x3 + (3 : Int32)).toNatClampNeg)]) (st := []) dL_law_574 clL_74 sh0 rfl rfl (Nat.le_of_ble_eq_true rfl) (rmL (by decide) (by decide)) (h40 q1 q2 q3 q4 q5 q6 q7 q8 q9 q10 q11 q12 q13 q14 q15 q16)
    by_cases q17 : ((pSc X x3.toNatClampNeg) &&& (31 : Int32)) = 15
    · refine g_tabIn 601 dL_law_33 (by rw [q17]; decide) (by rw [q17]; decide) (by rw [q17]; rfl) (by decide) ?_
      refine g_aload_n 1 dL_law_601 rfl rfl ?_
      refine g_aload_nO 0 dL_law_602 rfl rfl ?_
      refine g_iload_n 3 dL_law_603 rfl rfl ?_
      refine g_iconst (v := 1) dL_law_604 (by decide) ?_
      refine g_iadd dL_law_605 ?_
      refine g_sld dL_law_606 (h41 q1 q2 q3 q4 q5 q6 q7 q8 q9 q10 q11 q12 q13 q14 q15 q16 q17) ?_
      exact g_callV (As := [.int (pSc X (x3 + (1 : Int32)).toNatClampNeg)]) (st := []) dL_law_607 clL_78 sh0 rfl rfl (Nat.le_of_ble_eq_true rfl) (rmL (by decide) (by decide)) (h42 q1 q2 q3 q4 q5 q6 q7 q8 q9 q10 q11 q12 q13 q14 q15 q16 q17)
    by_cases q18 : ((pSc X x3.toNatClampNeg) &&& (31 : Int32)) = 16
    · refine g_tabIn 624 dL_law_33 (by rw [q18]; decide) (by rw [q18]; decide) (by rw [q18]; rfl) (by decide) ?_
      refine g_aload_n 1 dL_law_624 rfl rfl ?_
      refine g_aload_nO 0 dL_law_625 rfl rfl ?_
      refine g_iload_n 3 dL_law_626 rfl rfl ?_
      refine g_iconst (v := 1) dL_law_627 (by decide) ?_
      refine g_iadd dL_law_628 ?_
      refine g_sld dL_law_629 (h43 q1 q2 q3 q4 q5 q6 q7 q8 q9 q10 q11 q12 q13 q14 q15 q16 q17 q18) ?_
      exact g_callV (As := [.int (pSc X (x3 + (1 : Int32)).toNatClampNeg)]) (st := []) dL_law_630 clL_82 sh0 rfl rfl (Nat.le_of_ble_eq_true rfl) (rmL (by decide) (by decide)) (h44 q1 q2 q3 q4 q5 q6 q7 q8 q9 q10 q11 q12 q13 q14 q15 q16 q17 q18)
    by_cases q19 : ((pSc X x3.toNatClampNeg) &&& (31 : Int32)) = 17
    · refine g_tabIn 647 dL_law_33 (by rw [q19]; decide) (by rw [q19]; decide) (by rw [q19]; rfl) (by decide) ?_
      refine g_aload_n 1 dL_law_647 rfl rfl ?_
      refine g_aload_nO 0 dL_law_648 rfl rfl ?_
      refine g_iload_n 3 dL_law_649 rfl rfl ?_
      refine g_iconst (v := 1) dL_law_650 (by decide) ?_
      refine g_iadd dL_law_651 ?_
      refine g_sld dL_law_652 (h45 q1 q2 q3 q4 q5 q6 q7 q8 q9 q10 q11 q12 q13 q14 q15 q16 q17 q18 q19) ?_
      refine g_aload_nO 0 dL_law_653 rfl rfl ?_
      refine g_iload_n 3 dL_law_654 rfl rfl ?_
      refine g_iconst (v := 2) dL_law_655 (by decide) ?_
      refine g_iadd dL_law_656 ?_
      refine g_sld dL_law_657 (h46 q1 q2 q3 q4 q5 q6 q7 q8 q9 q10 q11 q12 q13 q14 q15 q16 q17 q18 q19) ?_
      exact g_callV (As := [.int (pSc X (x3 + (1 : Int32)).toNatClampNeg), .int (pSc X (x3 + (2 : Int32)).toNatClampNeg)]) (st := []) dL_law_658 clL_86 sh0 rfl rfl (Nat.le_of_ble_eq_true rfl) (rmL (by decide) (by decide)) (h47 q1 q2 q3 q4 q5 q6 q7 q8 q9 q10 q11 q12 q13 q14 q15 q16 q17 q18 q19)
    by_cases q20 : ((pSc X x3.toNatClampNeg) &&& (31 : Int32)) = 18
    · refine g_tabIn 680 dL_law_33 (by rw [q20]; decide) (by rw [q20]; decide) (by rw [q20]; rfl) (by decide) ?_
      refine g_aload_n 1 dL_law_680 rfl rfl ?_
      refine g_aload_nO 0 dL_law_681 rfl rfl ?_
      refine g_iload_n 3 dL_law_682 rfl rfl ?_
      refine g_iconst (v := 1) dL_law_683 (by decide) ?_
      refine g_iadd dL_law_684 ?_
      refine g_sld dL_law_685 (h48 q1 q2 q3 q4 q5 q6 q7 q8 q9 q10 q11 q12 q13 q14 q15 q16 q17 q18 q19 q20) ?_
      refine g_aload_nO 0 dL_law_686 rfl rfl ?_
      refine g_iload_n 3 dL_law_687 rfl rfl ?_
      refine g_iconst (v := 2) dL_law_688 (by decide) ?_
      refine g_iadd dL_law_689 ?_
      refine g_sld dL_law_690 (h49 q1 q2 q3 q4 q5 q6 q7 q8 q9 q10 q11 q12 q13 q14 q15 q16 q17 q18 q19 q20) ?_
      refine g_aload_nO 0 dL_law_691 rfl rfl ?_
      refine g_iload_n 3 dL_law_692 rfl rfl ?_
      refine g_iconst (v := 3) dL_law_693 (by decide) ?_
      refine g_iadd dL_law_694 ?_
      refine g_sld dL_law_695 (h50 q1 q2 q3 q4 q5 q6 q7 q8 q9 q10 q11 q12 q13 q14 q15 q16 q17 q18 q19 q20) ?_
      exact g_callV (As := [.int (pSc X (x3 + (1 : Int32)).toNatClampNeg), .int (pSc X (x3 + (2 : Int32)).toNatClampNeg), .int (pSc X (x3 + (3 : Int32)).toNatClampNeg)]) (st := []) dL_law_696 clL_90 sh0 rfl rfl (Nat.le_of_ble_eq_true rfl) (rmL (by decide) (by decide)) (h51 q1 q2 q3 q4 q5 q6 q7 q8 q9 q10 q11 q12 q13 q14 q15 q16 q17 q18 q19 q20)
    by_cases q21 : ((pSc X x3.toNatClampNeg) &&& (31 : Int32)) = 19
    · refine g_tabIn 723 dL_law_33 (by rw [q21]; decide) (by rw [q21]; decide) (by rw [q21]; rfl) (by decide) ?_
      refine g_aload_n 1 dL_law_723 rfl rfl ?_
      refine g_aload_nO 0 dL_law_724 rfl rfl ?_
      refine g_iload_n 3 dL_law_725 rfl rfl ?_
      refine g_iconst (v := 1) dL_law_726 (by decide) ?_
      refine g_iadd dL_law_727 ?_
      refine g_sld dL_law_728 (h52 q1 q2 q3 q4 q5 q6 q7 q8 q9 q10 q11 q12 q13 q14 q15 q16 q17 q18 q19 q20 q21) ?_
      refine g_aload_nO 0 dL_law_729 rfl rfl ?_
      refine g_iload_n 3 dL_law_730 rfl rfl ?_
      refine g_iconst (v := 2) dL_law_731 (by decide) ?_
      refine g_iadd dL_law_732 ?_
      refine g_sld dL_law_733 (h53 q1 q2 q3 q4 q5 q6 q7 q8 q9 q10 q11 q12 q13 q14 q15 q16 q17 q18 q19 q20 q21) ?_
      refine g_aload_nO 0 dL_law_734 rfl rfl ?_
      refine g_iload_n 3 dL_law_735 rfl rfl ?_
      refine g_iconst (v := 3) dL_law_736 (by decide) ?_
      refine g_iadd dL_law_737 ?_
      refine g_sld dL_law_738 (h54 q1 q2 q3 q4 q5 q6 q7 q8 q9 q10 q11 q12 q13 q14 q15 q16 q17 q18 q19 q20 q21) ?_
      refine g_aload_nO 0 dL_law_739 rfl rfl ?_
      refine g_iload_n 3 dL_law_740 rfl rfl ?_
      refine g_iconst (v := 4) dL_law_741 (by decide) ?_
      refine g_iadd dL_law_742 ?_
      refine g_sld dL_law_743 (h55 q1 q2 q3 q4 q5 q6 q7 q8 q9 q10 q11 q12 q13 q14 q15 q16 q17 q18 q19 q20 q21) ?_
      refine g_aload_nO 0 dL_law_744 rfl rfl ?_
      refine g_iload_n 3 dL_law_745 rfl rfl ?_
      refine g_iconst (v := 5) dL_law_746 (by decide) ?_
      refine g_iadd dL_law_747 ?_
      refine g_sld dL_law_748 (h56 q1 q2 q3 q4 q5 q6 q7 q8 q9 q10 q11 q12 q13 q14 q15 q16 q17 q18 q19 q20 q21) ?_
      exact g_callV (As := [.int (pSc X (x3 + (1 : Int32)).toNatClampNeg), .int (pSc X (x3 + (2 : Int32)).toNatClampNeg), .int (pSc X (x3 + (3 : Int32)).toNatClampNeg), .int (pSc X (x3 + (4 : Int32)).toNatClampNeg), .int (pSc X (x3 + (5 : Int32)).toNatClampNeg)]) (st := []) dL_law_749 clL_94 sh0 rfl rfl (Nat.le_of_ble_eq_true rfl) (rmL (by decide) (by decide)) (h57 q1 q2 q3 q4 q5 q6 q7 q8 q9 q10 q11 q12 q13 q14 q15 q16 q17 q18 q19 q20 q21)
    by_cases q22 : ((pSc X x3.toNatClampNeg) &&& (31 : Int32)) = 20
    · refine g_tabIn 786 dL_law_33 (by rw [q22]; decide) (by rw [q22]; decide) (by rw [q22]; rfl) (by decide) ?_
      refine g_aload_n 1 dL_law_786 rfl rfl ?_
      refine g_aload_nO 0 dL_law_787 rfl rfl ?_
      refine g_iload_n 3 dL_law_788 rfl rfl ?_
      refine g_iconst (v := 1) dL_law_789 (by decide) ?_
      refine g_iadd dL_law_790 ?_
      refine g_sld dL_law_791 (h58 q1 q2 q3 q4 q5 q6 q7 q8 q9 q10 q11 q12 q13 q14 q15 q16 q17 q18 q19 q20 q21 q22) ?_
      refine g_aload_nO 0 dL_law_792 rfl rfl ?_
      refine g_iload_n 3 dL_law_793 rfl rfl ?_
      refine g_iconst (v := 2) dL_law_794 (by decide) ?_
      refine g_iadd dL_law_795 ?_
      refine g_sld dL_law_796 (h59 q1 q2 q3 q4 q5 q6 q7 q8 q9 q10 q11 q12 q13 q14 q15 q16 q17 q18 q19 q20 q21 q22) ?_
      refine g_aload_nO 0 dL_law_797 rfl rfl ?_
      refine g_iload_n 3 dL_law_798 rfl rfl ?_
      refine g_iconst (v := 3) dL_law_799 (by decide) ?_
      refine g_iadd dL_law_800 ?_
      refine g_sld dL_law_801 (h60 q1 q2 q3 q4 q5 q6 q7 q8 q9 q10 q11 q12 q13 q14 q15 q16 q17 q18 q19 q20 q21 q22) ?_
      exact g_callV (As := [.int (pSc X (x3 + (1 : Int32)).toNatClampNeg), .int (pSc X (x3 + (2 : Int32)).toNatClampNeg), .int (pSc X (x3 + (3 : Int32)).toNatClampNeg)]) (st := []) dL_law_802 clL_98 sh0 rfl rfl (Nat.le_of_ble_eq_true rfl) (rmL (by decide) (by decide)) (h61 q1 q2 q3 q4 q5 q6 q7 q8 q9 q10 q11 q12 q13 q14 q15 q16 q17 q18 q19 q20 q21 q22)
    by_cases q23 : ((pSc X x3.toNatClampNeg) &&& (31 : Int32)) = 21
    · refine g_tabIn 829 dL_law_33 (by rw [q23]; decide) (by rw [q23]; decide) (by rw [q23]; rfl) (by decide) ?_
      refine g_aload_n 1 dL_law_829 rfl rfl ?_
      refine g_aload_nO 0 dL_law_830 rfl rfl ?_
      refine g_iload_n 3 dL_law_831 rfl rfl ?_
      refine g_iconst (v := 1) dL_law_832 (by decide) ?_
      refine g_iadd dL_law_833 ?_
      refine g_sld dL_law_834 (h62 q1 q2 q3 q4 q5 q6 q7 q8 q9 q10 q11 q12 q13 q14 q15 q16 q17 q18 q19 q20 q21 q22 q23) ?_
      refine g_aload_nO 0 dL_law_835 rfl rfl ?_
      refine g_iload_n 3 dL_law_836 rfl rfl ?_
      refine g_iconst (v := 2) dL_law_837 (by decide) ?_
      refine g_iadd dL_law_838 ?_
      refine g_sld dL_law_839 (h63 q1 q2 q3 q4 q5 q6 q7 q8 q9 q10 q11 q12 q13 q14 q15 q16 q17 q18 q19 q20 q21 q22 q23) ?_
      exact g_callV (As := [.int (pSc X (x3 + (1 : Int32)).toNatClampNeg), .int (pSc X (x3 + (2 : Int32)).toNatClampNeg)]) (st := []) dL_law_840 clL_102 sh0 rfl rfl (Nat.le_of_ble_eq_true rfl) (rmL (by decide) (by decide)) (h64 q1 q2 q3 q4 q5 q6 q7 q8 q9 q10 q11 q12 q13 q14 q15 q16 q17 q18 q19 q20 q21 q22 q23)
    by_cases q24 : ((pSc X x3.toNatClampNeg) &&& (31 : Int32)) = 22
    · refine g_tabIn 862 dL_law_33 (by rw [q24]; decide) (by rw [q24]; decide) (by rw [q24]; rfl) (by decide) ?_
      refine g_aload_n 1 dL_law_862 rfl rfl ?_
      refine g_aload_nO 0 dL_law_863 rfl rfl ?_
      refine g_iload_n 3 dL_law_864 rfl rfl ?_
      refine g_iconst (v := 1) dL_law_865 (by decide) ?_
      refine g_iadd dL_law_866 ?_
      refine g_sld dL_law_867 (h65 q1 q2 q3 q4 q5 q6 q7 q8 q9 q10 q11 q12 q13 q14 q15 q16 q17 q18 q19 q20 q21 q22 q23 q24) ?_
      refine g_aload_nO 0 dL_law_868 rfl rfl ?_
      refine g_iload_n 3 dL_law_869 rfl rfl ?_
      refine g_iconst (v := 2) dL_law_870 (by decide) ?_
      refine g_iadd dL_law_871 ?_
      refine g_sld dL_law_872 (h66 q1 q2 q3 q4 q5 q6 q7 q8 q9 q10 q11 q12 q13 q14 q15 q16 q17 q18 q19 q20 q21 q22 q23 q24) ?_
      refine g_aload_nO 0 dL_law_873 rfl rfl ?_
      refine g_iload_n 3 dL_law_874 rfl rfl ?_
      refine g_iconst (v := 3) dL_law_875 (by decide) ?_
      refine g_iadd dL_law_876 ?_
      refine g_sld dL_law_877 (h67 q1 q2 q3 q4 q5 q6 q7 q8 q9 q10 q11 q12 q13 q14 q15 q16 q17 q18 q19 q20 q21 q22 q23 q24) ?_
      exact g_callV (As := [.int (pSc X (x3 + (1 : Int32)).toNatClampNeg), .int (pSc X (x3 + (2 : Int32)).toNatClampNeg), .int (pSc X (x3 + (3 : Int32)).toNatClampNeg)]) (st := []) dL_law_878 clL_106 sh0 rfl rfl (Nat.le_of_ble_eq_true rfl) (rmL (by decide) (by decide)) (h68 q1 q2 q3 q4 q5 q6 q7 q8 q9 q10 q11 q12 q13 q14 q15 q16 q17 q18 q19 q20 q21 q22 q23 q24)
    by_cases q25 : ((pSc X x3.toNatClampNeg) &&& (31 : Int32)) = 23
    · refine g_tabIn 905 dL_law_33 (by rw [q25]; decide) (by rw [q25]; decide) (by rw [q25]; rfl) (by decide) ?_
      refine g_aload_n 1 dL_law_905 rfl rfl ?_
      refine g_aload_nO 0 dL_law_906 rfl rfl ?_
      refine g_iload_n 3 dL_law_907 rfl rfl ?_
      refine g_iconst (v := 1) dL_law_908 (by decide) ?_
      refine g_iadd dL_law_909 ?_
      refine g_sld dL_law_910 (h69 q1 q2 q3 q4 q5 q6 q7 q8 q9 q10 q11 q12 q13 q14 q15 q16 q17 q18 q19 q20 q21 q22 q23 q24 q25) ?_
      refine g_aload_nO 0 dL_law_911 rfl rfl ?_
      refine g_iload_n 3 dL_law_912 rfl rfl ?_
      refine g_iconst (v := 2) dL_law_913 (by decide) ?_
      refine g_iadd dL_law_914 ?_
      refine g_sld dL_law_915 (h70 q1 q2 q3 q4 q5 q6 q7 q8 q9 q10 q11 q12 q13 q14 q15 q16 q17 q18 q19 q20 q21 q22 q23 q24 q25) ?_
      exact g_callV (As := [.int (pSc X (x3 + (1 : Int32)).toNatClampNeg), .int (pSc X (x3 + (2 : Int32)).toNatClampNeg)]) (st := []) dL_law_916 clL_110 sh0 rfl rfl (Nat.le_of_ble_eq_true rfl) (rmL (by decide) (by decide)) (h71 q1 q2 q3 q4 q5 q6 q7 q8 q9 q10 q11 q12 q13 q14 q15 q16 q17 q18 q19 q20 q21 q22 q23 q24 q25)
    by_cases q26 : ((pSc X x3.toNatClampNeg) &&& (31 : Int32)) = 24
    · refine g_tabIn 938 dL_law_33 (by rw [q26]; decide) (by rw [q26]; decide) (by rw [q26]; rfl) (by decide) ?_
      refine g_aload_n 1 dL_law_938 rfl rfl ?_
      refine g_aload_nO 0 dL_law_939 rfl rfl ?_
      refine g_iload_n 3 dL_law_940 rfl rfl ?_
      refine g_iconst (v := 1) dL_law_941 (by decide) ?_
      refine g_iadd dL_law_942 ?_
      refine g_sld dL_law_943 (h72 q1 q2 q3 q4 q5 q6 q7 q8 q9 q10 q11 q12 q13 q14 q15 q16 q17 q18 q19 q20 q21 q22 q23 q24 q25 q26) ?_
      refine g_aload_nO 0 dL_law_944 rfl rfl ?_
      refine g_iload_n 3 dL_law_945 rfl rfl ?_
      refine g_iconst (v := 2) dL_law_946 (by decide) ?_
      refine g_iadd dL_law_947 ?_
      refine g_sld dL_law_948 (h73 q1 q2 q3 q4 q5 q6 q7 q8 q9 q10 q11 q12 q13 q14 q15 q16 q17 q18 q19 q20 q21 q22 q23 q24 q25 q26) ?_
      refine g_aload_nO 0 dL_law_949 rfl rfl ?_
      refine g_iload_n 3 dL_law_950 rfl rfl ?_
      refine g_iconst (v := 3) dL_law_951 (by decide) ?_
      refine g_iadd dL_law_952 ?_
      refine g_sld dL_law_953 (h74 q1 q2 q3 q4 q5 q6 q7 q8 q9 q10 q11 q12 q13 q14 q15 q16 q17 q18 q19 q20 q21 q22 q23 q24 q25 q26) ?_
      exact g_callV (As := [.int (pSc X (x3 + (1 : Int32)).toNatClampNeg), .int (pSc X (x3 + (2 : Int32)).toNatClampNeg), .int (pSc X (x3 + (3 : Int32)).toNatClampNeg)]) (st := []) dL_law_954 clL_114 sh0 rfl rfl (Nat.le_of_ble_eq_true rfl) (rmL (by decide) (by decide)) (h75 q1 q2 q3 q4 q5 q6 q7 q8 q9 q10 q11 q12 q13 q14 q15 q16 q17 q18 q19 q20 q21 q22 q23 q24 q25 q26)
    by_cases q27 : ((pSc X x3.toNatClampNeg) &&& (31 : Int32)) = 25
    · refine g_tabIn 981 dL_law_33 (by rw [q27]; decide) (by rw [q27]; decide) (by rw [q27]; rfl) (by decide) ?_
      refine g_aload_n 1 dL_law_981 rfl rfl ?_
      refine g_aload_nO 0 dL_law_982 rfl rfl ?_
      refine g_iload_n 3 dL_law_983 rfl rfl ?_
      refine g_iconst (v := 1) dL_law_984 (by decide) ?_
      refine g_iadd dL_law_985 ?_
      refine g_sld dL_law_986 (h76 q1 q2 q3 q4 q5 q6 q7 q8 q9 q10 q11 q12 q13 q14 q15 q16 q17 q18 q19 q20 q21 q22 q23 q24 q25 q26 q27) ?_
      exact g_callV (As := [.int (pSc X (x3 + (1 : Int32)).toNatClampNeg)]) (st := []) dL_law_987 clL_118 sh0 rfl rfl (Nat.le_of_ble_eq_true rfl) (rmL (by decide) (by decide)) (h77 q1 q2 q3 q4 q5 q6 q7 q8 q9 q10 q11 q12 q13 q14 q15 q16 q17 q18 q19 q20 q21 q22 q23 q24 q25 q26 q27)
    by_cases q28 : ((pSc X x3.toNatClampNeg) &&& (31 : Int32)) = 26
    · refine g_tabIn 1004 dL_law_33 (by rw [q28]; decide) (by rw [q28]; decide) (by rw [q28]; rfl) (by decide) ?_
      refine g_aload_n 1 dL_law_1004 rfl rfl ?_
      refine g_aload_nO 0 dL_law_1005 rfl rfl ?_
      refine g_iload_n 3 dL_law_1006 rfl rfl ?_
      refine g_iconst (v := 1) dL_law_1007 (by decide) ?_
      refine g_iadd dL_law_1008 ?_
      refine g_sld dL_law_1009 (h78 q1 q2 q3 q4 q5 q6 q7 q8 q9 q10 q11 q12 q13 q14 q15 q16 q17 q18 q19 q20 q21 q22 q23 q24 q25 q26 q27 q28) ?_
      refine g_aload_nO 0 dL_law_1010 rfl rfl ?_
      refine g_iload_n 3 dL_law_1011 rfl rfl ?_
      refine g_iconst (v := 2) dL_law_1012 (by decide) ?_
      refine g_iadd dL_law_1013 ?_
      refine g_sld dL_law_1014 (h79 q1 q2 q3 q4 q5 q6 q7 q8 q9 q10 q11 q12 q13 q14 q15 q16 q17 q18 q19 q20 q21 q22 q23 q24 q25 q26 q27 q28) ?_
      exact g_callV (As := [.int (pSc X (x3 + (1 : Int32)).toNatClampNeg), .int (pSc X (x3 + (2 : Int32)).toNatClampNeg)]) (st := []) dL_law_1015 clL_122 sh0 rfl rfl (Nat.le_of_ble_eq_true rfl) (rmL (by decide) (by decide)) (h80 q1 q2 q3 q4 q5 q6 q7 q8 q9 q10 q11 q12 q13 q14 q15 q16 q17 q18 q19 q20 q21 q22 q23 q24 q25 q26 q27 q28)
    by_cases q29 : ((pSc X x3.toNatClampNeg) &&& (31 : Int32)) = 27
    · refine g_tabIn 1037 dL_law_33 (by rw [q29]; decide) (by rw [q29]; decide) (by rw [q29]; rfl) (by decide) ?_
      refine g_aload_n 1 dL_law_1037 rfl rfl ?_
      refine g_aload_nO 0 dL_law_1038 rfl rfl ?_
      refine g_iload_n 3 dL_law_1039 rfl rfl ?_
      refine g_iconst (v := 1) dL_law_1040 (by decide) ?_
      refine g_iadd dL_law_1041 ?_
      refine g_sld dL_law_1042 (h81 q1 q2 q3 q4 q5 q6 q7 q8 q9 q10 q11 q12 q13 q14 q15 q16 q17 q18 q19 q20 q21 q22 q23 q24 q25 q26 q27 q28 q29) ?_
      exact g_callV (As := [.int (pSc X (x3 + (1 : Int32)).toNatClampNeg)]) (st := []) dL_law_1043 clL_126 sh0 rfl rfl (Nat.le_of_ble_eq_true rfl) (rmL (by decide) (by decide)) (h82 q1 q2 q3 q4 q5 q6 q7 q8 q9 q10 q11 q12 q13 q14 q15 q16 q17 q18 q19 q20 q21 q22 q23 q24 q25 q26 q27 q28 q29)
    by_cases q30 : ((pSc X x3.toNatClampNeg) &&& (31 : Int32)) = 28
    · refine g_tabIn 1060 dL_law_33 (by rw [q30]; decide) (by rw [q30]; decide) (by rw [q30]; rfl) (by decide) ?_
      refine g_aload_n 1 dL_law_1060 rfl rfl ?_
      refine g_aload_nO 0 dL_law_1061 rfl rfl ?_
      refine g_iload_n 3 dL_law_1062 rfl rfl ?_
      refine g_iconst (v := 1) dL_law_1063 (by decide) ?_
      refine g_iadd dL_law_1064 ?_
      refine g_sld dL_law_1065 (h83 q1 q2 q3 q4 q5 q6 q7 q8 q9 q10 q11 q12 q13 q14 q15 q16 q17 q18 q19 q20 q21 q22 q23 q24 q25 q26 q27 q28 q29 q30) ?_
      refine g_aload_nO 0 dL_law_1066 rfl rfl ?_
      refine g_iload_n 3 dL_law_1067 rfl rfl ?_
      refine g_iconst (v := 2) dL_law_1068 (by decide) ?_
      refine g_iadd dL_law_1069 ?_
      refine g_sld dL_law_1070 (h84 q1 q2 q3 q4 q5 q6 q7 q8 q9 q10 q11 q12 q13 q14 q15 q16 q17 q18 q19 q20 q21 q22 q23 q24 q25 q26 q27 q28 q29 q30) ?_
      refine g_aload_nO 0 dL_law_1071 rfl rfl ?_
      refine g_iload_n 3 dL_law_1072 rfl rfl ?_
      refine g_iconst (v := 3) dL_law_1073 (by decide) ?_
      refine g_iadd dL_law_1074 ?_
      refine g_sld dL_law_1075 (h85 q1 q2 q3 q4 q5 q6 q7 q8 q9 q10 q11 q12 q13 q14 q15 q16 q17 q18 q19 q20 q21 q22 q23 q24 q25 q26 q27 q28 q29 q30) ?_
      refine g_aload_nO 0 dL_law_1076 rfl rfl ?_
      refine g_iload_n 3 dL_law_1077 rfl rfl ?_
      refine g_iconst (v := 4) dL_law_1078 (by decide) ?_
      refine g_iadd dL_law_1079 ?_
      refine g_sld dL_law_1080 (h86 q1 q2 q3 q4 q5 q6 q7 q8 q9 q10 q11 q12 q13 q14 q15 q16 q17 q18 q19 q20 q21 q22 q23 q24 q25 q26 q27 q28 q29 q30) ?_
      exact g_callV (As := [.int (pSc X (x3 + (1 : Int32)).toNatClampNeg), .int (pSc X (x3 + (2 : Int32)).toNatClampNeg), .int (pSc X (x3 + (3 : Int32)).toNatClampNeg), .int (pSc X (x3 + (4 : Int32)).toNatClampNeg)]) (st := []) dL_law_1081 clL_130 sh0 rfl rfl (Nat.le_of_ble_eq_true rfl) (rmL (by decide) (by decide)) (h87 q1 q2 q3 q4 q5 q6 q7 q8 q9 q10 q11 q12 q13 q14 q15 q16 q17 q18 q19 q20 q21 q22 q23 q24 q25 q26 q27 q28 q29 q30)
    by_cases q31 : ((pSc X x3.toNatClampNeg) &&& (31 : Int32)) = 29
    · refine g_tabIn 1113 dL_law_33 (by rw [q31]; decide) (by rw [q31]; decide) (by rw [q31]; rfl) (by decide) ?_
      refine g_aload_n 1 dL_law_1113 rfl rfl ?_
      refine g_aload_nO 0 dL_law_1114 rfl rfl ?_
      refine g_iload_n 3 dL_law_1115 rfl rfl ?_
      refine g_iconst (v := 1) dL_law_1116 (by decide) ?_
      refine g_iadd dL_law_1117 ?_
      refine g_sld dL_law_1118 (h88 q1 q2 q3 q4 q5 q6 q7 q8 q9 q10 q11 q12 q13 q14 q15 q16 q17 q18 q19 q20 q21 q22 q23 q24 q25 q26 q27 q28 q29 q30 q31) ?_
      exact g_callV (As := [.int (pSc X (x3 + (1 : Int32)).toNatClampNeg)]) (st := []) dL_law_1119 clL_135 sh0 rfl rfl (Nat.le_of_ble_eq_true rfl) (rmL (by decide) (by decide)) (h89 q1 q2 q3 q4 q5 q6 q7 q8 q9 q10 q11 q12 q13 q14 q15 q16 q17 q18 q19 q20 q21 q22 q23 q24 q25 q26 q27 q28 q29 q30 q31)
    by_cases q32 : ((pSc X x3.toNatClampNeg) &&& (31 : Int32)) = 30
    · refine g_tabIn 1136 dL_law_33 (by rw [q32]; decide) (by rw [q32]; decide) (by rw [q32]; rfl) (by decide) ?_
      refine g_aload_n 1 dL_law_1136 rfl rfl ?_
      refine g_aload_nO 0 dL_law_1137 rfl rfl ?_
      refine g_iload_n 3 dL_law_1138 rfl rfl ?_
      refine g_iconst (v := 1) dL_law_1139 (by decide) ?_
      refine g_iadd dL_law_1140 ?_
      refine g_sld dL_law_1141 (h90 q1 q2 q3 q4 q5 q6 q7 q8 q9 q10 q11 q12 q13 q14 q15 q16 q17 q18 q19 q20 q21 q22 q23 q24 q25 q26 q27 q28 q29 q30 q31 q32) ?_
      exact g_callV (As := [.int (pSc X (x3 + (1 : Int32)).toNatClampNeg)]) (st := []) dL_law_1142 clL_139 sh0 rfl rfl (Nat.le_of_ble_eq_true rfl) (rmL (by decide) (by decide)) (h91 q1 q2 q3 q4 q5 q6 q7 q8 q9 q10 q11 q12 q13 q14 q15 q16 q17 q18 q19 q20 q21 q22 q23 q24 q25 q26 q27 q28 q29 q30 q31 q32)
    by_cases q33 : ((pSc X x3.toNatClampNeg) &&& (31 : Int32)) = 31
    · refine g_tabIn 1159 dL_law_33 (by rw [q33]; decide) (by rw [q33]; decide) (by rw [q33]; rfl) (by decide) ?_
      refine g_aload_n 1 dL_law_1159 rfl rfl ?_
      refine g_aload_nO 0 dL_law_1160 rfl rfl ?_
      refine g_iload_n 3 dL_law_1161 rfl rfl ?_
      refine g_iconst (v := 1) dL_law_1162 (by decide) ?_
      refine g_iadd dL_law_1163 ?_
      refine g_sld dL_law_1164 (h92 q1 q2 q3 q4 q5 q6 q7 q8 q9 q10 q11 q12 q13 q14 q15 q16 q17 q18 q19 q20 q21 q22 q23 q24 q25 q26 q27 q28 q29 q30 q31 q32 q33) ?_
      exact g_callV (As := [.int (pSc X (x3 + (1 : Int32)).toNatClampNeg)]) (st := []) dL_law_1165 clL_143 sh0 rfl rfl (Nat.le_of_ble_eq_true rfl) (rmL (by decide) (by decide)) (h93 q1 q2 q3 q4 q5 q6 q7 q8 q9 q10 q11 q12 q13 q14 q15 q16 q17 q18 q19 q20 q21 q22 q23 q24 q25 q26 q27 q28 q29 q30 q31 q32 q33)
    refine g_tabOut 1182 dL_law_33 (p_tabD (fun k hk1 hk2 => ?_)) (by decide) ?_
    · have hk : k = 0 ∨ k = 1 ∨ k = 2 ∨ k = 3 ∨ k = 4 ∨ k = 5 ∨ k = 6 ∨ k = 7 ∨ k = 8 ∨ k = 9 ∨ k = 10 ∨ k = 11 ∨ k = 12 ∨ k = 13 ∨ k = 14 ∨ k = 15 ∨ k = 16 ∨ k = 17 ∨ k = 18 ∨ k = 19 ∨ k = 20 ∨ k = 21 ∨ k = 22 ∨ k = 23 ∨ k = 24 ∨ k = 25 ∨ k = 26 ∨ k = 27 ∨ k = 28 ∨ k = 29 ∨ k = 30 ∨ k = 31 := by omega
      rcases hk with rfl | rfl | rfl | rfl | rfl | rfl | rfl | rfl | rfl | rfl | rfl | rfl | rfl | rfl | rfl | rfl | rfl | rfl | rfl | rfl | rfl | rfl | rfl | rfl | rfl | rfl | rfl | rfl | rfl | rfl | rfl | rfl
      · exact q2
      · exact q3
      · exact q4
      · exact q5
      · exact q6
      · exact q7
      · exact q8
      · exact q9
      · exact q10
      · exact q11
      · exact q12
      · exact q13
      · exact q14
      · exact q15
      · exact q16
      · exact q17
      · exact q18
      · exact q19
      · exact q20
      · exact q21
      · exact q22
      · exact q23
      · exact q24
      · exact q25
      · exact q26
      · exact q27
      · exact q28
      · exact q29
      · exact q30
      · exact q31
      · exact q32
      · exact q33
    refine g_iinc (v := x3 + (6 : Int32)) (ls2 := [(3, .int (x3 + (6 : Int32))), (0, .retAddr 0), (1, .ref 0), (2, .ref 535)]) 3 dL_law_1182 rfl rfl (by decide) rfl ?_
    refine g_goto 18 dL_law_1185 (by decide) ?_
    exact g_ls [1, 2, 3, 0] rfl (h94 q1 q2 q3 q4 q5 q6 q7 q8 q9 q10 q11 q12 q13 q14 q15 q16 q17 q18 q19 q20 q21 q22 q23 q24 q25 q26 q27 q28 q29 q30 q31 q32 q33)
theorem bL_law_205 {X : pX} {Z : List Frame → Array Value → State → State → Prop} {m : pMem} {x3 : Int32} {xs0 : Int32} (hW : Wf m)
    (h1 : vp_in (x3 + (1 : Int32)) (pLn X))
    (h2 : vp_in (x3 + (2 : Int32)) (pLn X))
    (h3 : vp_in (x3 + (3 : Int32)) (pLn X))
    (h4 : vp_in (x3 + (4 : Int32)) (pLn X))
    (h5 : vp_in (x3 + (5 : Int32)) (pLn X))
    (h6 : Cl X 1 mX12_feed [.ref 535, .int (pSc X (x3 + (1 : Int32)).toNatClampNeg), .int (pSc X (x3 + (2 : Int32)).toNatClampNeg), .int (pSc X (x3 + (3 : Int32)).toNatClampNeg), .int (pSc X (x3 + (4 : Int32)).toNatClampNeg), .int (pSc X (x3 + (5 : Int32)).toNatClampNeg)] m (fun v m2 => GoL X Z 234 [(0, .retAddr 0), (1, .ref 0), (2, .ref 535), (3, .int x3)] (v.toList ++ [.int xs0]) m2)) :
    GoL X Z 205 [(0, .retAddr 0), (1, .ref 0), (2, .ref 535), (3, .int x3)] [.int xs0] m := by
  refine g_aload_n 2 dL_law_205 rfl rfl ?_
  refine g_aload_nO 0 dL_law_206 rfl rfl ?_
  refine g_iload_n 3 dL_law_207 rfl rfl ?_
  refine g_iconst (v := 1) dL_law_208 (by decide) ?_
  refine g_iadd dL_law_209 ?_
  refine g_sld dL_law_210 h1 ?_
  refine g_aload_nO 0 dL_law_211 rfl rfl ?_
  refine g_iload_n 3 dL_law_212 rfl rfl ?_
  refine g_iconst (v := 2) dL_law_213 (by decide) ?_
  refine g_iadd dL_law_214 ?_
  refine g_sld dL_law_215 h2 ?_
  refine g_aload_nO 0 dL_law_216 rfl rfl ?_
  refine g_iload_n 3 dL_law_217 rfl rfl ?_
  refine g_iconst (v := 3) dL_law_218 (by decide) ?_
  refine g_iadd dL_law_219 ?_
  refine g_sld dL_law_220 h3 ?_
  refine g_aload_nO 0 dL_law_221 rfl rfl ?_
  refine g_iload_n 3 dL_law_222 rfl rfl ?_
  refine g_iconst (v := 4) dL_law_223 (by decide) ?_
  refine g_iadd dL_law_224 ?_
  refine g_sld dL_law_225 h4 ?_
  refine g_aload_nO 0 dL_law_226 rfl rfl ?_
  refine g_iload_n 3 dL_law_227 rfl rfl ?_
  refine g_iconst (v := 5) dL_law_228 (by decide) ?_
  refine g_iadd dL_law_229 ?_
  refine g_sld dL_law_230 h5 ?_
  exact g_callV (As := [.int (pSc X (x3 + (1 : Int32)).toNatClampNeg), .int (pSc X (x3 + (2 : Int32)).toNatClampNeg), .int (pSc X (x3 + (3 : Int32)).toNatClampNeg), .int (pSc X (x3 + (4 : Int32)).toNatClampNeg), .int (pSc X (x3 + (5 : Int32)).toNatClampNeg)]) (st := [.int xs0]) dL_law_231 clL_17 sh535 rfl rfl (Nat.le_of_ble_eq_true rfl) (rmL (by decide) (by decide)) h6
theorem bL_law_248 {X : pX} {Z : List Frame → Array Value → State → State → Prop} {m : pMem} {x3 : Int32} {xs0 : Int32} (hW : Wf m)
    (h1 : vp_in (x3 + (1 : Int32)) (pLn X))
    (h2 : Cl X 0 mX12_end [.ref 535, .int (pSc X (x3 + (1 : Int32)).toNatClampNeg)] m (fun v m2 => GoL X Z 257 [(0, .retAddr 0), (1, .ref 0), (2, .ref 535), (3, .int x3)] (v.toList ++ [.int xs0]) m2)) :
    GoL X Z 248 [(0, .retAddr 0), (1, .ref 0), (2, .ref 535), (3, .int x3)] [.int xs0] m := by
  refine g_aload_n 2 dL_law_248 rfl rfl ?_
  refine g_aload_nO 0 dL_law_249 rfl rfl ?_
  refine g_iload_n 3 dL_law_250 rfl rfl ?_
  refine g_iconst (v := 1) dL_law_251 (by decide) ?_
  refine g_iadd dL_law_252 ?_
  refine g_sld dL_law_253 h1 ?_
  exact g_callV (As := [.int (pSc X (x3 + (1 : Int32)).toNatClampNeg)]) (st := [.int xs0]) dL_law_254 clL_22 sh535 rfl rfl (Nat.le_of_ble_eq_true rfl) (rmL (by decide) (by decide)) h2
theorem bL_law_266 {X : pX} {Z : List Frame → Array Value → State → State → Prop} {m : pMem} {x3 : Int32} {xs0 : Int32} (hW : Wf m)
    (h1 : Cl X 8 mX12_road [.ref 535] m (fun v m2 => GoL X Z 270 [(0, .retAddr 0), (1, .ref 0), (2, .ref 535), (3, .int x3)] (v.toList ++ [.int xs0]) m2)) :
    GoL X Z 266 [(0, .retAddr 0), (1, .ref 0), (2, .ref 535), (3, .int x3)] [.int xs0] m := by
  refine g_aload_n 2 dL_law_266 rfl rfl ?_
  exact g_callV (As := []) (st := [.int xs0]) dL_law_267 clL_27 sh535 rfl rfl (Nat.le_of_ble_eq_true rfl) (rmL (by decide) (by decide)) h1
theorem bL_law_279 {X : pX} {Z : List Frame → Array Value → State → State → Prop} {m : pMem} {x3 : Int32} {xs0 : Int32} (hW : Wf m)
    (h1 : Cl X 13 mX12_rule [.ref 535] m (fun v m2 => GoL X Z 283 [(0, .retAddr 0), (1, .ref 0), (2, .ref 535), (3, .int x3)] (v.toList ++ [.int xs0]) m2)) :
    GoL X Z 279 [(0, .retAddr 0), (1, .ref 0), (2, .ref 535), (3, .int x3)] [.int xs0] m := by
  refine g_aload_n 2 dL_law_279 rfl rfl ?_
  exact g_callV (As := []) (st := [.int xs0]) dL_law_280 clL_31 sh535 rfl rfl (Nat.le_of_ble_eq_true rfl) (rmL (by decide) (by decide)) h1
theorem bL_law_297 {X : pX} {Z : List Frame → Array Value → State → State → Prop} {m : pMem} {x3 : Int32} {xs0 : Int32} (hW : Wf m)
    (h1 : vp_in (x3 + (1 : Int32)) (pLn X))
    (h2 : Cl X 1 mX12_force [.ref 535, .int (pSc X (x3 + (1 : Int32)).toNatClampNeg)] m (fun v m2 => GoL X Z 306 [(0, .retAddr 0), (1, .ref 0), (2, .ref 535), (3, .int x3)] (v.toList ++ [.int xs0]) m2)) :
    GoL X Z 297 [(0, .retAddr 0), (1, .ref 0), (2, .ref 535), (3, .int x3)] [.int xs0] m := by
  refine g_aload_n 2 dL_law_297 rfl rfl ?_
  refine g_aload_nO 0 dL_law_298 rfl rfl ?_
  refine g_iload_n 3 dL_law_299 rfl rfl ?_
  refine g_iconst (v := 1) dL_law_300 (by decide) ?_
  refine g_iadd dL_law_301 ?_
  refine g_sld dL_law_302 h1 ?_
  exact g_callV (As := [.int (pSc X (x3 + (1 : Int32)).toNatClampNeg)]) (st := [.int xs0]) dL_law_303 clL_35 sh535 rfl rfl (Nat.le_of_ble_eq_true rfl) (rmL (by decide) (by decide)) h2
theorem bL_law_325 {X : pX} {Z : List Frame → Array Value → State → State → Prop} {m : pMem} {x3 : Int32} {xs0 : Int32} (hW : Wf m)
    (h1 : vp_in (x3 + (1 : Int32)) (pLn X))
    (h2 : vp_in (x3 + (2 : Int32)) (pLn X))
    (h3 : Cl X 2 mX12_person [.ref 535, .int (pSc X (x3 + (1 : Int32)).toNatClampNeg), .int (pSc X (x3 + (2 : Int32)).toNatClampNeg)] m (fun v m2 => GoL X Z 339 [(0, .retAddr 0), (1, .ref 0), (2, .ref 535), (3, .int x3)] (v.toList ++ [.int xs0]) m2)) :
    GoL X Z 325 [(0, .retAddr 0), (1, .ref 0), (2, .ref 535), (3, .int x3)] [.int xs0] m := by
  refine g_aload_n 2 dL_law_325 rfl rfl ?_
  refine g_aload_nO 0 dL_law_326 rfl rfl ?_
  refine g_iload_n 3 dL_law_327 rfl rfl ?_
  refine g_iconst (v := 1) dL_law_328 (by decide) ?_
  refine g_iadd dL_law_329 ?_
  refine g_sld dL_law_330 h1 ?_
  refine g_aload_nO 0 dL_law_331 rfl rfl ?_
  refine g_iload_n 3 dL_law_332 rfl rfl ?_
  refine g_iconst (v := 2) dL_law_333 (by decide) ?_
  refine g_iadd dL_law_334 ?_
  refine g_sld dL_law_335 h2 ?_
  exact g_callV (As := [.int (pSc X (x3 + (1 : Int32)).toNatClampNeg), .int (pSc X (x3 + (2 : Int32)).toNatClampNeg)]) (st := [.int xs0]) dL_law_336 clL_40 sh535 rfl rfl (Nat.le_of_ble_eq_true rfl) (rmL (by decide) (by decide)) h3
theorem bL_law_358 {X : pX} {Z : List Frame → Array Value → State → State → Prop} {m : pMem} {x3 : Int32} {xs0 : Int32} (hW : Wf m)
    (h1 : vp_in (x3 + (1 : Int32)) (pLn X))
    (h2 : vp_in (x3 + (2 : Int32)) (pLn X))
    (h3 : Cl X 2 mX12_thing [.ref 535, .int (pSc X (x3 + (1 : Int32)).toNatClampNeg), .int (pSc X (x3 + (2 : Int32)).toNatClampNeg)] m (fun v m2 => GoL X Z 372 [(0, .retAddr 0), (1, .ref 0), (2, .ref 535), (3, .int x3)] (v.toList ++ [.int xs0]) m2)) :
    GoL X Z 358 [(0, .retAddr 0), (1, .ref 0), (2, .ref 535), (3, .int x3)] [.int xs0] m := by
  refine g_aload_n 2 dL_law_358 rfl rfl ?_
  refine g_aload_nO 0 dL_law_359 rfl rfl ?_
  refine g_iload_n 3 dL_law_360 rfl rfl ?_
  refine g_iconst (v := 1) dL_law_361 (by decide) ?_
  refine g_iadd dL_law_362 ?_
  refine g_sld dL_law_363 h1 ?_
  refine g_aload_nO 0 dL_law_364 rfl rfl ?_
  refine g_iload_n 3 dL_law_365 rfl rfl ?_
  refine g_iconst (v := 2) dL_law_366 (by decide) ?_
  refine g_iadd dL_law_367 ?_
  refine g_sld dL_law_368 h2 ?_
  exact g_callV (As := [.int (pSc X (x3 + (1 : Int32)).toNatClampNeg), .int (pSc X (x3 + (2 : Int32)).toNatClampNeg)]) (st := [.int xs0]) dL_law_369 clL_44 sh535 rfl rfl (Nat.le_of_ble_eq_true rfl) (rmL (by decide) (by decide)) h3
theorem bL_law_386 {X : pX} {Z : List Frame → Array Value → State → State → Prop} {m : pMem} {x3 : Int32} {xs0 : Int32} (hW : Wf m)
    (h1 : vp_in (x3 + (1 : Int32)) (pLn X))
    (h2 : Cl X 1 mX12_stage [.ref 535, .int (pSc X (x3 + (1 : Int32)).toNatClampNeg)] m (fun v m2 => GoL X Z 395 [(0, .retAddr 0), (1, .ref 0), (2, .ref 535), (3, .int x3)] (v.toList ++ [.int xs0]) m2)) :
    GoL X Z 386 [(0, .retAddr 0), (1, .ref 0), (2, .ref 535), (3, .int x3)] [.int xs0] m := by
  refine g_aload_n 2 dL_law_386 rfl rfl ?_
  refine g_aload_nO 0 dL_law_387 rfl rfl ?_
  refine g_iload_n 3 dL_law_388 rfl rfl ?_
  refine g_iconst (v := 1) dL_law_389 (by decide) ?_
  refine g_iadd dL_law_390 ?_
  refine g_sld dL_law_391 h1 ?_
  exact g_callV (As := [.int (pSc X (x3 + (1 : Int32)).toNatClampNeg)]) (st := [.int xs0]) dL_law_392 clL_48 sh535 rfl rfl (Nat.le_of_ble_eq_true rfl) (rmL (by decide) (by decide)) h2
theorem bL_law_404 {X : pX} {Z : List Frame → Array Value → State → State → Prop} {m : pMem} {x3 : Int32} {xs0 : Int32} (hW : Wf m)
    (h1 : Cl X 7 mX12_day [.ref 535] m (fun v m2 => GoL X Z 408 [(0, .retAddr 0), (1, .ref 0), (2, .ref 535), (3, .int x3)] (v.toList ++ [.int xs0]) m2)) :
    GoL X Z 404 [(0, .retAddr 0), (1, .ref 0), (2, .ref 535), (3, .int x3)] [.int xs0] m := by
  refine g_aload_n 2 dL_law_404 rfl rfl ?_
  exact g_callV (As := []) (st := [.int xs0]) dL_law_405 clL_52 sh535 rfl rfl (Nat.le_of_ble_eq_true rfl) (rmL (by decide) (by decide)) h1
theorem bL_law_427 {X : pX} {Z : List Frame → Array Value → State → State → Prop} {m : pMem} {x3 : Int32} {xs0 : Int32} (hW : Wf m)
    (h1 : vp_in (x3 + (1 : Int32)) (pLn X))
    (h2 : vp_in (x3 + (2 : Int32)) (pLn X))
    (h3 : Cl X 4 mX12_drop [.ref 535, .int (pSc X (x3 + (1 : Int32)).toNatClampNeg), .int (pSc X (x3 + (2 : Int32)).toNatClampNeg)] m (fun v m2 => GoL X Z 441 [(0, .retAddr 0), (1, .ref 0), (2, .ref 535), (3, .int x3)] (v.toList ++ [.int xs0]) m2)) :
    GoL X Z 427 [(0, .retAddr 0), (1, .ref 0), (2, .ref 535), (3, .int x3)] [.int xs0] m := by
  refine g_aload_n 2 dL_law_427 rfl rfl ?_
  refine g_aload_nO 0 dL_law_428 rfl rfl ?_
  refine g_iload_n 3 dL_law_429 rfl rfl ?_
  refine g_iconst (v := 1) dL_law_430 (by decide) ?_
  refine g_iadd dL_law_431 ?_
  refine g_sld dL_law_432 h1 ?_
  refine g_aload_nO 0 dL_law_433 rfl rfl ?_
  refine g_iload_n 3 dL_law_434 rfl rfl ?_
  refine g_iconst (v := 2) dL_law_435 (by decide) ?_
  refine g_iadd dL_law_436 ?_
  refine g_sld dL_law_437 h2 ?_
  exact g_callV (As := [.int (pSc X (x3 + (1 : Int32)).toNatClampNeg), .int (pSc X (x3 + (2 : Int32)).toNatClampNeg)]) (st := [.int xs0]) dL_law_438 clL_56 sh535 rfl rfl (Nat.le_of_ble_eq_true rfl) (rmL (by decide) (by decide)) h3
theorem bL_law_460 {X : pX} {Z : List Frame → Array Value → State → State → Prop} {m : pMem} {x3 : Int32} {xs0 : Int32} (hW : Wf m)
    (h1 : vp_in (x3 + (1 : Int32)) (pLn X))
    (h2 : vp_in (x3 + (2 : Int32)) (pLn X))
    (h3 : Cl X 4 mX12_take [.ref 535, .int (pSc X (x3 + (1 : Int32)).toNatClampNeg), .int (pSc X (x3 + (2 : Int32)).toNatClampNeg)] m (fun v m2 => GoL X Z 474 [(0, .retAddr 0), (1, .ref 0), (2, .ref 535), (3, .int x3)] (v.toList ++ [.int xs0]) m2)) :
    GoL X Z 460 [(0, .retAddr 0), (1, .ref 0), (2, .ref 535), (3, .int x3)] [.int xs0] m := by
  refine g_aload_n 2 dL_law_460 rfl rfl ?_
  refine g_aload_nO 0 dL_law_461 rfl rfl ?_
  refine g_iload_n 3 dL_law_462 rfl rfl ?_
  refine g_iconst (v := 1) dL_law_463 (by decide) ?_
  refine g_iadd dL_law_464 ?_
  refine g_sld dL_law_465 h1 ?_
  refine g_aload_nO 0 dL_law_466 rfl rfl ?_
  refine g_iload_n 3 dL_law_467 rfl rfl ?_
  refine g_iconst (v := 2) dL_law_468 (by decide) ?_
  refine g_iadd dL_law_469 ?_
  refine g_sld dL_law_470 h2 ?_
  exact g_callV (As := [.int (pSc X (x3 + (1 : Int32)).toNatClampNeg), .int (pSc X (x3 + (2 : Int32)).toNatClampNeg)]) (st := [.int xs0]) dL_law_471 clL_60 sh535 rfl rfl (Nat.le_of_ble_eq_true rfl) (rmL (by decide) (by decide)) h3
theorem bL_law_498 {X : pX} {Z : List Frame → Array Value → State → State → Prop} {m : pMem} {x3 : Int32} {xs0 : Int32} (hW : Wf m)
    (h1 : vp_in (x3 + (1 : Int32)) (pLn X))
    (h2 : vp_in (x3 + (2 : Int32)) (pLn X))
    (h3 : vp_in (x3 + (3 : Int32)) (pLn X))
    (h4 : Cl X 4 mX12_give [.ref 535, .int (pSc X (x3 + (1 : Int32)).toNatClampNeg), .int (pSc X (x3 + (2 : Int32)).toNatClampNeg), .int (pSc X (x3 + (3 : Int32)).toNatClampNeg)] m (fun v m2 => GoL X Z 517 [(0, .retAddr 0), (1, .ref 0), (2, .ref 535), (3, .int x3)] (v.toList ++ [.int xs0]) m2)) :
    GoL X Z 498 [(0, .retAddr 0), (1, .ref 0), (2, .ref 535), (3, .int x3)] [.int xs0] m := by
  refine g_aload_n 2 dL_law_498 rfl rfl ?_
  refine g_aload_nO 0 dL_law_499 rfl rfl ?_
  refine g_iload_n 3 dL_law_500 rfl rfl ?_
  refine g_iconst (v := 1) dL_law_501 (by decide) ?_
  refine g_iadd dL_law_502 ?_
  refine g_sld dL_law_503 h1 ?_
  refine g_aload_nO 0 dL_law_504 rfl rfl ?_
  refine g_iload_n 3 dL_law_505 rfl rfl ?_
  refine g_iconst (v := 2) dL_law_506 (by decide) ?_
  refine g_iadd dL_law_507 ?_
  refine g_sld dL_law_508 h2 ?_
  refine g_aload_nO 0 dL_law_509 rfl rfl ?_
  refine g_iload_n 3 dL_law_510 rfl rfl ?_
  refine g_iconst (v := 3) dL_law_511 (by decide) ?_
  refine g_iadd dL_law_512 ?_
  refine g_sld dL_law_513 h3 ?_
  exact g_callV (As := [.int (pSc X (x3 + (1 : Int32)).toNatClampNeg), .int (pSc X (x3 + (2 : Int32)).toNatClampNeg), .int (pSc X (x3 + (3 : Int32)).toNatClampNeg)]) (st := [.int xs0]) dL_law_514 clL_65 sh535 rfl rfl (Nat.le_of_ble_eq_true rfl) (rmL (by decide) (by decide)) h4
theorem bL_law_531 {X : pX} {Z : List Frame → Array Value → State → State → Prop} {m : pMem} {x3 : Int32} {xs0 : Int32} (hW : Wf m)
    (h1 : vp_in (x3 + (1 : Int32)) (pLn X))
    (h2 : Cl X 4 mX12_rob [.ref 535, .int (pSc X (x3 + (1 : Int32)).toNatClampNeg)] m (fun v m2 => GoL X Z 540 [(0, .retAddr 0), (1, .ref 0), (2, .ref 535), (3, .int x3)] (v.toList ++ [.int xs0]) m2)) :
    GoL X Z 531 [(0, .retAddr 0), (1, .ref 0), (2, .ref 535), (3, .int x3)] [.int xs0] m := by
  refine g_aload_n 2 dL_law_531 rfl rfl ?_
  refine g_aload_nO 0 dL_law_532 rfl rfl ?_
  refine g_iload_n 3 dL_law_533 rfl rfl ?_
  refine g_iconst (v := 1) dL_law_534 (by decide) ?_
  refine g_iadd dL_law_535 ?_
  refine g_sld dL_law_536 h1 ?_
  exact g_callV (As := [.int (pSc X (x3 + (1 : Int32)).toNatClampNeg)]) (st := [.int xs0]) dL_law_537 clL_69 sh535 rfl rfl (Nat.le_of_ble_eq_true rfl) (rmL (by decide) (by decide)) h2
theorem bL_law_549 {X : pX} {Z : List Frame → Array Value → State → State → Prop} {m : pMem} {x3 : Int32} {xs0 : Int32} (hW : Wf m)
    (h1 : Cl X 3 mX12_undo [.ref 535] m (fun v m2 => GoL X Z 553 [(0, .retAddr 0), (1, .ref 0), (2, .ref 535), (3, .int x3)] (v.toList ++ [.int xs0]) m2)) :
    GoL X Z 549 [(0, .retAddr 0), (1, .ref 0), (2, .ref 535), (3, .int x3)] [.int xs0] m := by
  refine g_aload_n 2 dL_law_549 rfl rfl ?_
  exact g_callV (As := []) (st := [.int xs0]) dL_law_550 clL_73 sh535 rfl rfl (Nat.le_of_ble_eq_true rfl) (rmL (by decide) (by decide)) h1
theorem bL_law_577 {X : pX} {Z : List Frame → Array Value → State → State → Prop} {m : pMem} {x3 : Int32} {xs0 : Int32} (hW : Wf m)
    (h1 : vp_in (x3 + (1 : Int32)) (pLn X))
    (h2 : vp_in (x3 + (2 : Int32)) (pLn X))
    (h3 : vp_in (x3 + (3 : Int32)) (pLn X))
    (h4 : Cl X 8 mX12_ahead [.ref 535, .int (pSc X (x3 + (1 : Int32)).toNatClampNeg), .int (pSc X (x3 + (2 : Int32)).toNatClampNeg), .int (pSc X (x3 + (3 : Int32)).toNatClampNeg)] m (fun v m2 => GoL X Z 596 [(0, .retAddr 0), (1, .ref 0), (2, .ref 535), (3, .int x3)] (v.toList ++ [.int xs0]) m2)) :
    GoL X Z 577 [(0, .retAddr 0), (1, .ref 0), (2, .ref 535), (3, .int x3)] [.int xs0] m := by
  refine g_aload_n 2 dL_law_577 rfl rfl ?_
  refine g_aload_nO 0 dL_law_578 rfl rfl ?_
  refine g_iload_n 3 dL_law_579 rfl rfl ?_
  refine g_iconst (v := 1) dL_law_580 (by decide) ?_
  refine g_iadd dL_law_581 ?_
  refine g_sld dL_law_582 h1 ?_
  refine g_aload_nO 0 dL_law_583 rfl rfl ?_
  refine g_iload_n 3 dL_law_584 rfl rfl ?_
  refine g_iconst (v := 2) dL_law_585 (by decide) ?_
  refine g_iadd dL_law_586 ?_
  refine g_sld dL_law_587 h2 ?_
  refine g_aload_nO 0 dL_law_588 rfl rfl ?_
  refine g_iload_n 3 dL_law_589 rfl rfl ?_
  refine g_iconst (v := 3) dL_law_590 (by decide) ?_
  refine g_iadd dL_law_591 ?_
  refine g_sld dL_law_592 h3 ?_
  exact g_callV (As := [.int (pSc X (x3 + (1 : Int32)).toNatClampNeg), .int (pSc X (x3 + (2 : Int32)).toNatClampNeg), .int (pSc X (x3 + (3 : Int32)).toNatClampNeg)]) (st := [.int xs0]) dL_law_593 clL_77 sh535 rfl rfl (Nat.le_of_ble_eq_true rfl) (rmL (by decide) (by decide)) h4
theorem bL_law_610 {X : pX} {Z : List Frame → Array Value → State → State → Prop} {m : pMem} {x3 : Int32} {xs0 : Int32} (hW : Wf m)
    (h1 : vp_in (x3 + (1 : Int32)) (pLn X))
    (h2 : Cl X 7 mX12_comes [.ref 535, .int (pSc X (x3 + (1 : Int32)).toNatClampNeg)] m (fun v m2 => GoL X Z 619 [(0, .retAddr 0), (1, .ref 0), (2, .ref 535), (3, .int x3)] (v.toList ++ [.int xs0]) m2)) :
    GoL X Z 610 [(0, .retAddr 0), (1, .ref 0), (2, .ref 535), (3, .int x3)] [.int xs0] m := by
  refine g_aload_n 2 dL_law_610 rfl rfl ?_
  refine g_aload_nO 0 dL_law_611 rfl rfl ?_
  refine g_iload_n 3 dL_law_612 rfl rfl ?_
  refine g_iconst (v := 1) dL_law_613 (by decide) ?_
  refine g_iadd dL_law_614 ?_
  refine g_sld dL_law_615 h1 ?_
  exact g_callV (As := [.int (pSc X (x3 + (1 : Int32)).toNatClampNeg)]) (st := [.int xs0]) dL_law_616 clL_81 sh535 rfl rfl (Nat.le_of_ble_eq_true rfl) (rmL (by decide) (by decide)) h2
theorem bL_law_633 {X : pX} {Z : List Frame → Array Value → State → State → Prop} {m : pMem} {x3 : Int32} {xs0 : Int32} (hW : Wf m)
    (h1 : vp_in (x3 + (1 : Int32)) (pLn X))
    (h2 : Cl X 9 mX12_wealth [.ref 535, .int (pSc X (x3 + (1 : Int32)).toNatClampNeg)] m (fun v m2 => GoL X Z 642 [(0, .retAddr 0), (1, .ref 0), (2, .ref 535), (3, .int x3)] (v.toList ++ [.int xs0]) m2)) :
    GoL X Z 633 [(0, .retAddr 0), (1, .ref 0), (2, .ref 535), (3, .int x3)] [.int xs0] m := by
  refine g_aload_n 2 dL_law_633 rfl rfl ?_
  refine g_aload_nO 0 dL_law_634 rfl rfl ?_
  refine g_iload_n 3 dL_law_635 rfl rfl ?_
  refine g_iconst (v := 1) dL_law_636 (by decide) ?_
  refine g_iadd dL_law_637 ?_
  refine g_sld dL_law_638 h1 ?_
  exact g_callV (As := [.int (pSc X (x3 + (1 : Int32)).toNatClampNeg)]) (st := [.int xs0]) dL_law_639 clL_85 sh535 rfl rfl (Nat.le_of_ble_eq_true rfl) (rmL (by decide) (by decide)) h2
theorem bL_law_661 {X : pX} {Z : List Frame → Array Value → State → State → Prop} {m : pMem} {x3 : Int32} {xs0 : Int32} (hW : Wf m)
    (h1 : vp_in (x3 + (1 : Int32)) (pLn X))
    (h2 : vp_in (x3 + (2 : Int32)) (pLn X))
    (h3 : Cl X 3 mX12_far [.ref 535, .int (pSc X (x3 + (1 : Int32)).toNatClampNeg), .int (pSc X (x3 + (2 : Int32)).toNatClampNeg)] m (fun v m2 => GoL X Z 675 [(0, .retAddr 0), (1, .ref 0), (2, .ref 535), (3, .int x3)] (v.toList ++ [.int xs0]) m2)) :
    GoL X Z 661 [(0, .retAddr 0), (1, .ref 0), (2, .ref 535), (3, .int x3)] [.int xs0] m := by
  refine g_aload_n 2 dL_law_661 rfl rfl ?_
  refine g_aload_nO 0 dL_law_662 rfl rfl ?_
  refine g_iload_n 3 dL_law_663 rfl rfl ?_
  refine g_iconst (v := 1) dL_law_664 (by decide) ?_
  refine g_iadd dL_law_665 ?_
  refine g_sld dL_law_666 h1 ?_
  refine g_aload_nO 0 dL_law_667 rfl rfl ?_
  refine g_iload_n 3 dL_law_668 rfl rfl ?_
  refine g_iconst (v := 2) dL_law_669 (by decide) ?_
  refine g_iadd dL_law_670 ?_
  refine g_sld dL_law_671 h2 ?_
  exact g_callV (As := [.int (pSc X (x3 + (1 : Int32)).toNatClampNeg), .int (pSc X (x3 + (2 : Int32)).toNatClampNeg)]) (st := [.int xs0]) dL_law_672 clL_89 sh535 rfl rfl (Nat.le_of_ble_eq_true rfl) (rmL (by decide) (by decide)) h3
theorem bL_law_699 {X : pX} {Z : List Frame → Array Value → State → State → Prop} {m : pMem} {x3 : Int32} {xs0 : Int32} (hW : Wf m)
    (h1 : vp_in (x3 + (1 : Int32)) (pLn X))
    (h2 : vp_in (x3 + (2 : Int32)) (pLn X))
    (h3 : vp_in (x3 + (3 : Int32)) (pLn X))
    (h4 : Cl X 3 mX12_load [.ref 535, .int (pSc X (x3 + (1 : Int32)).toNatClampNeg), .int (pSc X (x3 + (2 : Int32)).toNatClampNeg), .int (pSc X (x3 + (3 : Int32)).toNatClampNeg)] m (fun v m2 => GoL X Z 718 [(0, .retAddr 0), (1, .ref 0), (2, .ref 535), (3, .int x3)] (v.toList ++ [.int xs0]) m2)) :
    GoL X Z 699 [(0, .retAddr 0), (1, .ref 0), (2, .ref 535), (3, .int x3)] [.int xs0] m := by
  refine g_aload_n 2 dL_law_699 rfl rfl ?_
  refine g_aload_nO 0 dL_law_700 rfl rfl ?_
  refine g_iload_n 3 dL_law_701 rfl rfl ?_
  refine g_iconst (v := 1) dL_law_702 (by decide) ?_
  refine g_iadd dL_law_703 ?_
  refine g_sld dL_law_704 h1 ?_
  refine g_aload_nO 0 dL_law_705 rfl rfl ?_
  refine g_iload_n 3 dL_law_706 rfl rfl ?_
  refine g_iconst (v := 2) dL_law_707 (by decide) ?_
  refine g_iadd dL_law_708 ?_
  refine g_sld dL_law_709 h2 ?_
  refine g_aload_nO 0 dL_law_710 rfl rfl ?_
  refine g_iload_n 3 dL_law_711 rfl rfl ?_
  refine g_iconst (v := 3) dL_law_712 (by decide) ?_
  refine g_iadd dL_law_713 ?_
  refine g_sld dL_law_714 h3 ?_
  exact g_callV (As := [.int (pSc X (x3 + (1 : Int32)).toNatClampNeg), .int (pSc X (x3 + (2 : Int32)).toNatClampNeg), .int (pSc X (x3 + (3 : Int32)).toNatClampNeg)]) (st := [.int xs0]) dL_law_715 clL_93 sh535 rfl rfl (Nat.le_of_ble_eq_true rfl) (rmL (by decide) (by decide)) h4
theorem bL_law_752 {X : pX} {Z : List Frame → Array Value → State → State → Prop} {m : pMem} {x3 : Int32} {xs0 : Int32} (hW : Wf m)
    (h1 : vp_in (x3 + (1 : Int32)) (pLn X))
    (h2 : vp_in (x3 + (2 : Int32)) (pLn X))
    (h3 : vp_in (x3 + (3 : Int32)) (pLn X))
    (h4 : vp_in (x3 + (4 : Int32)) (pLn X))
    (h5 : vp_in (x3 + (5 : Int32)) (pLn X))
    (h6 : Cl X 2 mX12_had [.ref 535, .int (pSc X (x3 + (1 : Int32)).toNatClampNeg), .int (pSc X (x3 + (2 : Int32)).toNatClampNeg), .int (pSc X (x3 + (3 : Int32)).toNatClampNeg), .int (pSc X (x3 + (4 : Int32)).toNatClampNeg), .int (pSc X (x3 + (5 : Int32)).toNatClampNeg)] m (fun v m2 => GoL X Z 781 [(0, .retAddr 0), (1, .ref 0), (2, .ref 535), (3, .int x3)] (v.toList ++ [.int xs0]) m2)) :
    GoL X Z 752 [(0, .retAddr 0), (1, .ref 0), (2, .ref 535), (3, .int x3)] [.int xs0] m := by
  refine g_aload_n 2 dL_law_752 rfl rfl ?_
  refine g_aload_nO 0 dL_law_753 rfl rfl ?_
  refine g_iload_n 3 dL_law_754 rfl rfl ?_
  refine g_iconst (v := 1) dL_law_755 (by decide) ?_
  refine g_iadd dL_law_756 ?_
  refine g_sld dL_law_757 h1 ?_
  refine g_aload_nO 0 dL_law_758 rfl rfl ?_
  refine g_iload_n 3 dL_law_759 rfl rfl ?_
  refine g_iconst (v := 2) dL_law_760 (by decide) ?_
  refine g_iadd dL_law_761 ?_
  refine g_sld dL_law_762 h2 ?_
  refine g_aload_nO 0 dL_law_763 rfl rfl ?_
  refine g_iload_n 3 dL_law_764 rfl rfl ?_
  refine g_iconst (v := 3) dL_law_765 (by decide) ?_
  refine g_iadd dL_law_766 ?_
  refine g_sld dL_law_767 h3 ?_
  refine g_aload_nO 0 dL_law_768 rfl rfl ?_
  refine g_iload_n 3 dL_law_769 rfl rfl ?_
  refine g_iconst (v := 4) dL_law_770 (by decide) ?_
  refine g_iadd dL_law_771 ?_
  refine g_sld dL_law_772 h4 ?_
  refine g_aload_nO 0 dL_law_773 rfl rfl ?_
  refine g_iload_n 3 dL_law_774 rfl rfl ?_
  refine g_iconst (v := 5) dL_law_775 (by decide) ?_
  refine g_iadd dL_law_776 ?_
  refine g_sld dL_law_777 h5 ?_
  exact g_callV (As := [.int (pSc X (x3 + (1 : Int32)).toNatClampNeg), .int (pSc X (x3 + (2 : Int32)).toNatClampNeg), .int (pSc X (x3 + (3 : Int32)).toNatClampNeg), .int (pSc X (x3 + (4 : Int32)).toNatClampNeg), .int (pSc X (x3 + (5 : Int32)).toNatClampNeg)]) (st := [.int xs0]) dL_law_778 clL_97 sh535 rfl rfl (Nat.le_of_ble_eq_true rfl) (rmL (by decide) (by decide)) h6
theorem bL_law_805 {X : pX} {Z : List Frame → Array Value → State → State → Prop} {m : pMem} {x3 : Int32} {xs0 : Int32} (hW : Wf m)
    (h1 : vp_in (x3 + (1 : Int32)) (pLn X))
    (h2 : vp_in (x3 + (2 : Int32)) (pLn X))
    (h3 : vp_in (x3 + (3 : Int32)) (pLn X))
    (h4 : Cl X 4 mX12_exchange [.ref 535, .int (pSc X (x3 + (1 : Int32)).toNatClampNeg), .int (pSc X (x3 + (2 : Int32)).toNatClampNeg), .int (pSc X (x3 + (3 : Int32)).toNatClampNeg)] m (fun v m2 => GoL X Z 824 [(0, .retAddr 0), (1, .ref 0), (2, .ref 535), (3, .int x3)] (v.toList ++ [.int xs0]) m2)) :
    GoL X Z 805 [(0, .retAddr 0), (1, .ref 0), (2, .ref 535), (3, .int x3)] [.int xs0] m := by
  refine g_aload_n 2 dL_law_805 rfl rfl ?_
  refine g_aload_nO 0 dL_law_806 rfl rfl ?_
  refine g_iload_n 3 dL_law_807 rfl rfl ?_
  refine g_iconst (v := 1) dL_law_808 (by decide) ?_
  refine g_iadd dL_law_809 ?_
  refine g_sld dL_law_810 h1 ?_
  refine g_aload_nO 0 dL_law_811 rfl rfl ?_
  refine g_iload_n 3 dL_law_812 rfl rfl ?_
  refine g_iconst (v := 2) dL_law_813 (by decide) ?_
  refine g_iadd dL_law_814 ?_
  refine g_sld dL_law_815 h2 ?_
  refine g_aload_nO 0 dL_law_816 rfl rfl ?_
  refine g_iload_n 3 dL_law_817 rfl rfl ?_
  refine g_iconst (v := 3) dL_law_818 (by decide) ?_
  refine g_iadd dL_law_819 ?_
  refine g_sld dL_law_820 h3 ?_
  exact g_callV (As := [.int (pSc X (x3 + (1 : Int32)).toNatClampNeg), .int (pSc X (x3 + (2 : Int32)).toNatClampNeg), .int (pSc X (x3 + (3 : Int32)).toNatClampNeg)]) (st := [.int xs0]) dL_law_821 clL_101 sh535 rfl rfl (Nat.le_of_ble_eq_true rfl) (rmL (by decide) (by decide)) h4
theorem bL_law_843 {X : pX} {Z : List Frame → Array Value → State → State → Prop} {m : pMem} {x3 : Int32} {xs0 : Int32} (hW : Wf m)
    (h1 : vp_in (x3 + (1 : Int32)) (pLn X))
    (h2 : vp_in (x3 + (2 : Int32)) (pLn X))
    (h3 : Cl X 9 mX12_robbed [.ref 535, .int (pSc X (x3 + (1 : Int32)).toNatClampNeg), .int (pSc X (x3 + (2 : Int32)).toNatClampNeg)] m (fun v m2 => GoL X Z 857 [(0, .retAddr 0), (1, .ref 0), (2, .ref 535), (3, .int x3)] (v.toList ++ [.int xs0]) m2)) :
    GoL X Z 843 [(0, .retAddr 0), (1, .ref 0), (2, .ref 535), (3, .int x3)] [.int xs0] m := by
  refine g_aload_n 2 dL_law_843 rfl rfl ?_
  refine g_aload_nO 0 dL_law_844 rfl rfl ?_
  refine g_iload_n 3 dL_law_845 rfl rfl ?_
  refine g_iconst (v := 1) dL_law_846 (by decide) ?_
  refine g_iadd dL_law_847 ?_
  refine g_sld dL_law_848 h1 ?_
  refine g_aload_nO 0 dL_law_849 rfl rfl ?_
  refine g_iload_n 3 dL_law_850 rfl rfl ?_
  refine g_iconst (v := 2) dL_law_851 (by decide) ?_
  refine g_iadd dL_law_852 ?_
  refine g_sld dL_law_853 h2 ?_
  exact g_callV (As := [.int (pSc X (x3 + (1 : Int32)).toNatClampNeg), .int (pSc X (x3 + (2 : Int32)).toNatClampNeg)]) (st := [.int xs0]) dL_law_854 clL_105 sh535 rfl rfl (Nat.le_of_ble_eq_true rfl) (rmL (by decide) (by decide)) h3
theorem bL_law_881 {X : pX} {Z : List Frame → Array Value → State → State → Prop} {m : pMem} {x3 : Int32} {xs0 : Int32} (hW : Wf m)
    (h1 : vp_in (x3 + (1 : Int32)) (pLn X))
    (h2 : vp_in (x3 + (2 : Int32)) (pLn X))
    (h3 : vp_in (x3 + (3 : Int32)) (pLn X))
    (h4 : Cl X 5 mX12_game [.ref 535, .int (pSc X (x3 + (1 : Int32)).toNatClampNeg), .int (pSc X (x3 + (2 : Int32)).toNatClampNeg), .int (pSc X (x3 + (3 : Int32)).toNatClampNeg)] m (fun v m2 => GoL X Z 900 [(0, .retAddr 0), (1, .ref 0), (2, .ref 535), (3, .int x3)] (v.toList ++ [.int xs0]) m2)) :
    GoL X Z 881 [(0, .retAddr 0), (1, .ref 0), (2, .ref 535), (3, .int x3)] [.int xs0] m := by
  refine g_aload_n 2 dL_law_881 rfl rfl ?_
  refine g_aload_nO 0 dL_law_882 rfl rfl ?_
  refine g_iload_n 3 dL_law_883 rfl rfl ?_
  refine g_iconst (v := 1) dL_law_884 (by decide) ?_
  refine g_iadd dL_law_885 ?_
  refine g_sld dL_law_886 h1 ?_
  refine g_aload_nO 0 dL_law_887 rfl rfl ?_
  refine g_iload_n 3 dL_law_888 rfl rfl ?_
  refine g_iconst (v := 2) dL_law_889 (by decide) ?_
  refine g_iadd dL_law_890 ?_
  refine g_sld dL_law_891 h2 ?_
  refine g_aload_nO 0 dL_law_892 rfl rfl ?_
  refine g_iload_n 3 dL_law_893 rfl rfl ?_
  refine g_iconst (v := 3) dL_law_894 (by decide) ?_
  refine g_iadd dL_law_895 ?_
  refine g_sld dL_law_896 h3 ?_
  exact g_callV (As := [.int (pSc X (x3 + (1 : Int32)).toNatClampNeg), .int (pSc X (x3 + (2 : Int32)).toNatClampNeg), .int (pSc X (x3 + (3 : Int32)).toNatClampNeg)]) (st := [.int xs0]) dL_law_897 clL_109 sh535 rfl rfl (Nat.le_of_ble_eq_true rfl) (rmL (by decide) (by decide)) h4
theorem bL_law_919 {X : pX} {Z : List Frame → Array Value → State → State → Prop} {m : pMem} {x3 : Int32} {xs0 : Int32} (hW : Wf m)
    (h1 : vp_in (x3 + (1 : Int32)) (pLn X))
    (h2 : vp_in (x3 + (2 : Int32)) (pLn X))
    (h3 : Cl X 2 mX12_pence [.ref 535, .int (pSc X (x3 + (1 : Int32)).toNatClampNeg), .int (pSc X (x3 + (2 : Int32)).toNatClampNeg)] m (fun v m2 => GoL X Z 933 [(0, .retAddr 0), (1, .ref 0), (2, .ref 535), (3, .int x3)] (v.toList ++ [.int xs0]) m2)) :
    GoL X Z 919 [(0, .retAddr 0), (1, .ref 0), (2, .ref 535), (3, .int x3)] [.int xs0] m := by
  refine g_aload_n 2 dL_law_919 rfl rfl ?_
  refine g_aload_nO 0 dL_law_920 rfl rfl ?_
  refine g_iload_n 3 dL_law_921 rfl rfl ?_
  refine g_iconst (v := 1) dL_law_922 (by decide) ?_
  refine g_iadd dL_law_923 ?_
  refine g_sld dL_law_924 h1 ?_
  refine g_aload_nO 0 dL_law_925 rfl rfl ?_
  refine g_iload_n 3 dL_law_926 rfl rfl ?_
  refine g_iconst (v := 2) dL_law_927 (by decide) ?_
  refine g_iadd dL_law_928 ?_
  refine g_sld dL_law_929 h2 ?_
  exact g_callV (As := [.int (pSc X (x3 + (1 : Int32)).toNatClampNeg), .int (pSc X (x3 + (2 : Int32)).toNatClampNeg)]) (st := [.int xs0]) dL_law_930 clL_113 sh535 rfl rfl (Nat.le_of_ble_eq_true rfl) (rmL (by decide) (by decide)) h3
theorem bL_law_957 {X : pX} {Z : List Frame → Array Value → State → State → Prop} {m : pMem} {x3 : Int32} {xs0 : Int32} (hW : Wf m)
    (h1 : vp_in (x3 + (1 : Int32)) (pLn X))
    (h2 : vp_in (x3 + (2 : Int32)) (pLn X))
    (h3 : vp_in (x3 + (3 : Int32)) (pLn X))
    (h4 : Cl X 2 mX12_note [.ref 535, .int (pSc X (x3 + (1 : Int32)).toNatClampNeg), .int (pSc X (x3 + (2 : Int32)).toNatClampNeg), .int (pSc X (x3 + (3 : Int32)).toNatClampNeg)] m (fun v m2 => GoL X Z 976 [(0, .retAddr 0), (1, .ref 0), (2, .ref 535), (3, .int x3)] (v.toList ++ [.int xs0]) m2)) :
    GoL X Z 957 [(0, .retAddr 0), (1, .ref 0), (2, .ref 535), (3, .int x3)] [.int xs0] m := by
  refine g_aload_n 2 dL_law_957 rfl rfl ?_
  refine g_aload_nO 0 dL_law_958 rfl rfl ?_
  refine g_iload_n 3 dL_law_959 rfl rfl ?_
  refine g_iconst (v := 1) dL_law_960 (by decide) ?_
  refine g_iadd dL_law_961 ?_
  refine g_sld dL_law_962 h1 ?_
  refine g_aload_nO 0 dL_law_963 rfl rfl ?_
  refine g_iload_n 3 dL_law_964 rfl rfl ?_
  refine g_iconst (v := 2) dL_law_965 (by decide) ?_
  refine g_iadd dL_law_966 ?_
  refine g_sld dL_law_967 h2 ?_
  refine g_aload_nO 0 dL_law_968 rfl rfl ?_
  refine g_iload_n 3 dL_law_969 rfl rfl ?_
  refine g_iconst (v := 3) dL_law_970 (by decide) ?_
  refine g_iadd dL_law_971 ?_
  refine g_sld dL_law_972 h3 ?_
  exact g_callV (As := [.int (pSc X (x3 + (1 : Int32)).toNatClampNeg), .int (pSc X (x3 + (2 : Int32)).toNatClampNeg), .int (pSc X (x3 + (3 : Int32)).toNatClampNeg)]) (st := [.int xs0]) dL_law_973 clL_117 sh535 rfl rfl (Nat.le_of_ble_eq_true rfl) (rmL (by decide) (by decide)) h4
theorem bL_law_990 {X : pX} {Z : List Frame → Array Value → State → State → Prop} {m : pMem} {x3 : Int32} {xs0 : Int32} (hW : Wf m)
    (h1 : vp_in (x3 + (1 : Int32)) (pLn X))
    (h2 : Cl X 8 mX12_ruled [.ref 535, .int (pSc X (x3 + (1 : Int32)).toNatClampNeg)] m (fun v m2 => GoL X Z 999 [(0, .retAddr 0), (1, .ref 0), (2, .ref 535), (3, .int x3)] (v.toList ++ [.int xs0]) m2)) :
    GoL X Z 990 [(0, .retAddr 0), (1, .ref 0), (2, .ref 535), (3, .int x3)] [.int xs0] m := by
  refine g_aload_n 2 dL_law_990 rfl rfl ?_
  refine g_aload_nO 0 dL_law_991 rfl rfl ?_
  refine g_iload_n 3 dL_law_992 rfl rfl ?_
  refine g_iconst (v := 1) dL_law_993 (by decide) ?_
  refine g_iadd dL_law_994 ?_
  refine g_sld dL_law_995 h1 ?_
  exact g_callV (As := [.int (pSc X (x3 + (1 : Int32)).toNatClampNeg)]) (st := [.int xs0]) dL_law_996 clL_121 sh535 rfl rfl (Nat.le_of_ble_eq_true rfl) (rmL (by decide) (by decide)) h2
theorem bL_law_1018 {X : pX} {Z : List Frame → Array Value → State → State → Prop} {m : pMem} {x3 : Int32} {xs0 : Int32} (hW : Wf m)
    (h1 : vp_in (x3 + (1 : Int32)) (pLn X))
    (h2 : vp_in (x3 + (2 : Int32)) (pLn X))
    (h3 : Cl X 8 mX12_look [.ref 535, .int (pSc X (x3 + (1 : Int32)).toNatClampNeg), .int (pSc X (x3 + (2 : Int32)).toNatClampNeg)] m (fun v m2 => GoL X Z 1032 [(0, .retAddr 0), (1, .ref 0), (2, .ref 535), (3, .int x3)] (v.toList ++ [.int xs0]) m2)) :
    GoL X Z 1018 [(0, .retAddr 0), (1, .ref 0), (2, .ref 535), (3, .int x3)] [.int xs0] m := by
  refine g_aload_n 2 dL_law_1018 rfl rfl ?_
  refine g_aload_nO 0 dL_law_1019 rfl rfl ?_
  refine g_iload_n 3 dL_law_1020 rfl rfl ?_
  refine g_iconst (v := 1) dL_law_1021 (by decide) ?_
  refine g_iadd dL_law_1022 ?_
  refine g_sld dL_law_1023 h1 ?_
  refine g_aload_nO 0 dL_law_1024 rfl rfl ?_
  refine g_iload_n 3 dL_law_1025 rfl rfl ?_
  refine g_iconst (v := 2) dL_law_1026 (by decide) ?_
  refine g_iadd dL_law_1027 ?_
  refine g_sld dL_law_1028 h2 ?_
  exact g_callV (As := [.int (pSc X (x3 + (1 : Int32)).toNatClampNeg), .int (pSc X (x3 + (2 : Int32)).toNatClampNeg)]) (st := [.int xs0]) dL_law_1029 clL_125 sh535 rfl rfl (Nat.le_of_ble_eq_true rfl) (rmL (by decide) (by decide)) h3
theorem bL_law_1046 {X : pX} {Z : List Frame → Array Value → State → State → Prop} {m : pMem} {x3 : Int32} {xs0 : Int32} (hW : Wf m)
    (h1 : vp_in (x3 + (1 : Int32)) (pLn X))
    (h2 : Cl X 0 mX12_seed [.ref 535, .int (pSc X (x3 + (1 : Int32)).toNatClampNeg)] m (fun v m2 => GoL X Z 1055 [(0, .retAddr 0), (1, .ref 0), (2, .ref 535), (3, .int x3)] (v.toList ++ [.int xs0]) m2)) :
    GoL X Z 1046 [(0, .retAddr 0), (1, .ref 0), (2, .ref 535), (3, .int x3)] [.int xs0] m := by
  refine g_aload_n 2 dL_law_1046 rfl rfl ?_
  refine g_aload_nO 0 dL_law_1047 rfl rfl ?_
  refine g_iload_n 3 dL_law_1048 rfl rfl ?_
  refine g_iconst (v := 1) dL_law_1049 (by decide) ?_
  refine g_iadd dL_law_1050 ?_
  refine g_sld dL_law_1051 h1 ?_
  exact g_callV (As := [.int (pSc X (x3 + (1 : Int32)).toNatClampNeg)]) (st := [.int xs0]) dL_law_1052 clL_129 sh535 rfl rfl (Nat.le_of_ble_eq_true rfl) (rmL (by decide) (by decide)) h2
theorem bL_law_1084 {X : pX} {Z : List Frame → Array Value → State → State → Prop} {m : pMem} {x3 : Int32} {xs0 : Int32} (hW : Wf m)
    (h1 : vp_in (x3 + (1 : Int32)) (pLn X))
    (h2 : vp_in (x3 + (2 : Int32)) (pLn X))
    (h3 : vp_in (x3 + (3 : Int32)) (pLn X))
    (h4 : vp_in (x3 + (4 : Int32)) (pLn X))
    (h5 : Cl X 7 mX12_thieves [.ref 535, .int (pSc X (x3 + (1 : Int32)).toNatClampNeg), .int (pSc X (x3 + (2 : Int32)).toNatClampNeg), .int (pSc X (x3 + (3 : Int32)).toNatClampNeg), .int (pSc X (x3 + (4 : Int32)).toNatClampNeg)] m (fun v m2 => GoL X Z 1108 [(0, .retAddr 0), (1, .ref 0), (2, .ref 535), (3, .int x3)] (v.toList ++ [.int xs0]) m2)) :
    GoL X Z 1084 [(0, .retAddr 0), (1, .ref 0), (2, .ref 535), (3, .int x3)] [.int xs0] m := by
  refine g_aload_n 2 dL_law_1084 rfl rfl ?_
  refine g_aload_nO 0 dL_law_1085 rfl rfl ?_
  refine g_iload_n 3 dL_law_1086 rfl rfl ?_
  refine g_iconst (v := 1) dL_law_1087 (by decide) ?_
  refine g_iadd dL_law_1088 ?_
  refine g_sld dL_law_1089 h1 ?_
  refine g_aload_nO 0 dL_law_1090 rfl rfl ?_
  refine g_iload_n 3 dL_law_1091 rfl rfl ?_
  refine g_iconst (v := 2) dL_law_1092 (by decide) ?_
  refine g_iadd dL_law_1093 ?_
  refine g_sld dL_law_1094 h2 ?_
  refine g_aload_nO 0 dL_law_1095 rfl rfl ?_
  refine g_iload_n 3 dL_law_1096 rfl rfl ?_
  refine g_iconst (v := 3) dL_law_1097 (by decide) ?_
  refine g_iadd dL_law_1098 ?_
  refine g_sld dL_law_1099 h3 ?_
  refine g_aload_nO 0 dL_law_1100 rfl rfl ?_
  refine g_iload_n 3 dL_law_1101 rfl rfl ?_
  refine g_iconst (v := 4) dL_law_1102 (by decide) ?_
  refine g_iadd dL_law_1103 ?_
  refine g_sld dL_law_1104 h4 ?_
  exact g_callV (As := [.int (pSc X (x3 + (1 : Int32)).toNatClampNeg), .int (pSc X (x3 + (2 : Int32)).toNatClampNeg), .int (pSc X (x3 + (3 : Int32)).toNatClampNeg), .int (pSc X (x3 + (4 : Int32)).toNatClampNeg)]) (st := [.int xs0]) dL_law_1105 clL_134 sh535 rfl rfl (Nat.le_of_ble_eq_true rfl) (rmL (by decide) (by decide)) h5
theorem bL_law_1122 {X : pX} {Z : List Frame → Array Value → State → State → Prop} {m : pMem} {x3 : Int32} {xs0 : Int32} (hW : Wf m)
    (h1 : vp_in (x3 + (1 : Int32)) (pLn X))
    (h2 : Cl X 3 mX12_count [.ref 535, .int (pSc X (x3 + (1 : Int32)).toNatClampNeg)] m (fun v m2 => GoL X Z 1131 [(0, .retAddr 0), (1, .ref 0), (2, .ref 535), (3, .int x3)] (v.toList ++ [.int xs0]) m2)) :
    GoL X Z 1122 [(0, .retAddr 0), (1, .ref 0), (2, .ref 535), (3, .int x3)] [.int xs0] m := by
  refine g_aload_n 2 dL_law_1122 rfl rfl ?_
  refine g_aload_nO 0 dL_law_1123 rfl rfl ?_
  refine g_iload_n 3 dL_law_1124 rfl rfl ?_
  refine g_iconst (v := 1) dL_law_1125 (by decide) ?_
  refine g_iadd dL_law_1126 ?_
  refine g_sld dL_law_1127 h1 ?_
  exact g_callV (As := [.int (pSc X (x3 + (1 : Int32)).toNatClampNeg)]) (st := [.int xs0]) dL_law_1128 clL_138 sh535 rfl rfl (Nat.le_of_ble_eq_true rfl) (rmL (by decide) (by decide)) h2
theorem bL_law_1145 {X : pX} {Z : List Frame → Array Value → State → State → Prop} {m : pMem} {x3 : Int32} {xs0 : Int32} (hW : Wf m)
    (h1 : vp_in (x3 + (1 : Int32)) (pLn X))
    (h2 : Cl X 2 mX12_image [.ref 535, .int (pSc X (x3 + (1 : Int32)).toNatClampNeg)] m (fun v m2 => GoL X Z 1154 [(0, .retAddr 0), (1, .ref 0), (2, .ref 535), (3, .int x3)] (v.toList ++ [.int xs0]) m2)) :
    GoL X Z 1145 [(0, .retAddr 0), (1, .ref 0), (2, .ref 535), (3, .int x3)] [.int xs0] m := by
  refine g_aload_n 2 dL_law_1145 rfl rfl ?_
  refine g_aload_nO 0 dL_law_1146 rfl rfl ?_
  refine g_iload_n 3 dL_law_1147 rfl rfl ?_
  refine g_iconst (v := 1) dL_law_1148 (by decide) ?_
  refine g_iadd dL_law_1149 ?_
  refine g_sld dL_law_1150 h1 ?_
  exact g_callV (As := [.int (pSc X (x3 + (1 : Int32)).toNatClampNeg)]) (st := [.int xs0]) dL_law_1151 clL_142 sh535 rfl rfl (Nat.le_of_ble_eq_true rfl) (rmL (by decide) (by decide)) h2
theorem bL_law_1168 {X : pX} {Z : List Frame → Array Value → State → State → Prop} {m : pMem} {x3 : Int32} {xs0 : Int32} (hW : Wf m)
    (h1 : vp_in (x3 + (1 : Int32)) (pLn X))
    (h2 : Cl X 2 mX12_back [.ref 535, .int (pSc X (x3 + (1 : Int32)).toNatClampNeg)] m (fun v m2 => GoL X Z 1177 [(0, .retAddr 0), (1, .ref 0), (2, .ref 535), (3, .int x3)] (v.toList ++ [.int xs0]) m2)) :
    GoL X Z 1168 [(0, .retAddr 0), (1, .ref 0), (2, .ref 535), (3, .int x3)] [.int xs0] m := by
  refine g_aload_n 2 dL_law_1168 rfl rfl ?_
  refine g_aload_nO 0 dL_law_1169 rfl rfl ?_
  refine g_iload_n 3 dL_law_1170 rfl rfl ?_
  refine g_iconst (v := 1) dL_law_1171 (by decide) ?_
  refine g_iadd dL_law_1172 ?_
  refine g_sld dL_law_1173 h1 ?_
  exact g_callV (As := [.int (pSc X (x3 + (1 : Int32)).toNatClampNeg)]) (st := [.int xs0]) dL_law_1174 clL_146 sh535 rfl rfl (Nat.le_of_ble_eq_true rfl) (rmL (by decide) (by decide)) h2
theorem bL_law_234 {X : pX} {Z : List Frame → Array Value → State → State → Prop} {m : pMem} {x3 : Int32} {xs0 : Int32} {xs1 : Int32} (hW : Wf m)
    (h1 : xs1 = xs0 → GoL X Z 18 [(0, .retAddr 0), (1, .ref 0), (2, .ref 535), (3, .int (x3 + (6 : Int32)))] [] m)
    (h2 : ¬ (xs1 = xs0) → GoL X Z 238 [(0, .retAddr 0), (1, .ref 0), (2, .ref 535), (3, .int x3)] [.int (0 : Int32)] m) :
    GoL X Z 234 [(0, .retAddr 0), (1, .ref 0), (2, .ref 535), (3, .int x3)] [.int xs0, .int xs1] m := by
  refine g_icmp_eq 1182 dL_law_234 (by decide) (fun q1 => ?_) (fun q1 => ?_)
  · refine g_iinc (v := x3 + (6 : Int32)) (ls2 := [(3, .int (x3 + (6 : Int32))), (0, .retAddr 0), (1, .ref 0), (2, .ref 535)]) 3 dL_law_1182 rfl rfl (by decide) rfl ?_
    refine g_goto 18 dL_law_1185 (by decide) ?_
    exact g_ls [1, 2, 3, 0] rfl (h1 q1)
  · refine g_iconst (v := 0) dL_law_237 (by decide) ?_
    exact (h2 q1)
theorem bL_law_257 {X : pX} {Z : List Frame → Array Value → State → State → Prop} {m : pMem} {x3 : Int32} {xs0 : Int32} {xs1 : Int32} (hW : Wf m)
    (h1 : xs1 = xs0 → GoL X Z 18 [(0, .retAddr 0), (1, .ref 0), (2, .ref 535), (3, .int (x3 + (6 : Int32)))] [] m)
    (h2 : ¬ (xs1 = xs0) → GoL X Z 261 [(0, .retAddr 0), (1, .ref 0), (2, .ref 535), (3, .int x3)] [.int (0 : Int32)] m) :
    GoL X Z 257 [(0, .retAddr 0), (1, .ref 0), (2, .ref 535), (3, .int x3)] [.int xs0, .int xs1] m := by
  refine g_icmp_eq 1182 dL_law_257 (by decide) (fun q1 => ?_) (fun q1 => ?_)
  · refine g_iinc (v := x3 + (6 : Int32)) (ls2 := [(3, .int (x3 + (6 : Int32))), (0, .retAddr 0), (1, .ref 0), (2, .ref 535)]) 3 dL_law_1182 rfl rfl (by decide) rfl ?_
    refine g_goto 18 dL_law_1185 (by decide) ?_
    exact g_ls [1, 2, 3, 0] rfl (h1 q1)
  · refine g_iconst (v := 0) dL_law_260 (by decide) ?_
    exact (h2 q1)
theorem bL_law_270 {X : pX} {Z : List Frame → Array Value → State → State → Prop} {m : pMem} {x3 : Int32} {xs0 : Int32} {xs1 : Int32} (hW : Wf m)
    (h1 : xs1 = xs0 → GoL X Z 18 [(0, .retAddr 0), (1, .ref 0), (2, .ref 535), (3, .int (x3 + (6 : Int32)))] [] m)
    (h2 : ¬ (xs1 = xs0) → GoL X Z 274 [(0, .retAddr 0), (1, .ref 0), (2, .ref 535), (3, .int x3)] [.int (0 : Int32)] m) :
    GoL X Z 270 [(0, .retAddr 0), (1, .ref 0), (2, .ref 535), (3, .int x3)] [.int xs0, .int xs1] m := by
  refine g_icmp_eq 1182 dL_law_270 (by decide) (fun q1 => ?_) (fun q1 => ?_)
  · refine g_iinc (v := x3 + (6 : Int32)) (ls2 := [(3, .int (x3 + (6 : Int32))), (0, .retAddr 0), (1, .ref 0), (2, .ref 535)]) 3 dL_law_1182 rfl rfl (by decide) rfl ?_
    refine g_goto 18 dL_law_1185 (by decide) ?_
    exact g_ls [1, 2, 3, 0] rfl (h1 q1)
  · refine g_iconst (v := 0) dL_law_273 (by decide) ?_
    exact (h2 q1)
theorem bL_law_283 {X : pX} {Z : List Frame → Array Value → State → State → Prop} {m : pMem} {x3 : Int32} {xs0 : Int32} {xs1 : Int32} (hW : Wf m)
    (h1 : xs1 = xs0 → GoL X Z 18 [(0, .retAddr 0), (1, .ref 0), (2, .ref 535), (3, .int (x3 + (6 : Int32)))] [] m)
    (h2 : ¬ (xs1 = xs0) → GoL X Z 287 [(0, .retAddr 0), (1, .ref 0), (2, .ref 535), (3, .int x3)] [.int (0 : Int32)] m) :
    GoL X Z 283 [(0, .retAddr 0), (1, .ref 0), (2, .ref 535), (3, .int x3)] [.int xs0, .int xs1] m := by
  refine g_icmp_eq 1182 dL_law_283 (by decide) (fun q1 => ?_) (fun q1 => ?_)
  · refine g_iinc (v := x3 + (6 : Int32)) (ls2 := [(3, .int (x3 + (6 : Int32))), (0, .retAddr 0), (1, .ref 0), (2, .ref 535)]) 3 dL_law_1182 rfl rfl (by decide) rfl ?_
    refine g_goto 18 dL_law_1185 (by decide) ?_
    exact g_ls [1, 2, 3, 0] rfl (h1 q1)
  · refine g_iconst (v := 0) dL_law_286 (by decide) ?_
    exact (h2 q1)
theorem bL_law_306 {X : pX} {Z : List Frame → Array Value → State → State → Prop} {m : pMem} {x3 : Int32} {xs0 : Int32} {xs1 : Int32} (hW : Wf m)
    (h1 : xs1 = xs0 → GoL X Z 18 [(0, .retAddr 0), (1, .ref 0), (2, .ref 535), (3, .int (x3 + (6 : Int32)))] [] m)
    (h2 : ¬ (xs1 = xs0) → GoL X Z 310 [(0, .retAddr 0), (1, .ref 0), (2, .ref 535), (3, .int x3)] [.int (0 : Int32)] m) :
    GoL X Z 306 [(0, .retAddr 0), (1, .ref 0), (2, .ref 535), (3, .int x3)] [.int xs0, .int xs1] m := by
  refine g_icmp_eq 1182 dL_law_306 (by decide) (fun q1 => ?_) (fun q1 => ?_)
  · refine g_iinc (v := x3 + (6 : Int32)) (ls2 := [(3, .int (x3 + (6 : Int32))), (0, .retAddr 0), (1, .ref 0), (2, .ref 535)]) 3 dL_law_1182 rfl rfl (by decide) rfl ?_
    refine g_goto 18 dL_law_1185 (by decide) ?_
    exact g_ls [1, 2, 3, 0] rfl (h1 q1)
  · refine g_iconst (v := 0) dL_law_309 (by decide) ?_
    exact (h2 q1)
theorem bL_law_339 {X : pX} {Z : List Frame → Array Value → State → State → Prop} {m : pMem} {x3 : Int32} {xs0 : Int32} {xs1 : Int32} (hW : Wf m)
    (h1 : xs1 = xs0 → GoL X Z 18 [(0, .retAddr 0), (1, .ref 0), (2, .ref 535), (3, .int (x3 + (6 : Int32)))] [] m)
    (h2 : ¬ (xs1 = xs0) → GoL X Z 343 [(0, .retAddr 0), (1, .ref 0), (2, .ref 535), (3, .int x3)] [.int (0 : Int32)] m) :
    GoL X Z 339 [(0, .retAddr 0), (1, .ref 0), (2, .ref 535), (3, .int x3)] [.int xs0, .int xs1] m := by
  refine g_icmp_eq 1182 dL_law_339 (by decide) (fun q1 => ?_) (fun q1 => ?_)
  · refine g_iinc (v := x3 + (6 : Int32)) (ls2 := [(3, .int (x3 + (6 : Int32))), (0, .retAddr 0), (1, .ref 0), (2, .ref 535)]) 3 dL_law_1182 rfl rfl (by decide) rfl ?_
    refine g_goto 18 dL_law_1185 (by decide) ?_
    exact g_ls [1, 2, 3, 0] rfl (h1 q1)
  · refine g_iconst (v := 0) dL_law_342 (by decide) ?_
    exact (h2 q1)
theorem bL_law_372 {X : pX} {Z : List Frame → Array Value → State → State → Prop} {m : pMem} {x3 : Int32} {xs0 : Int32} {xs1 : Int32} (hW : Wf m)
    (h1 : xs1 = xs0 → GoL X Z 18 [(0, .retAddr 0), (1, .ref 0), (2, .ref 535), (3, .int (x3 + (6 : Int32)))] [] m)
    (h2 : ¬ (xs1 = xs0) → GoL X Z 376 [(0, .retAddr 0), (1, .ref 0), (2, .ref 535), (3, .int x3)] [.int (0 : Int32)] m) :
    GoL X Z 372 [(0, .retAddr 0), (1, .ref 0), (2, .ref 535), (3, .int x3)] [.int xs0, .int xs1] m := by
  refine g_icmp_eq 1182 dL_law_372 (by decide) (fun q1 => ?_) (fun q1 => ?_)
  · refine g_iinc (v := x3 + (6 : Int32)) (ls2 := [(3, .int (x3 + (6 : Int32))), (0, .retAddr 0), (1, .ref 0), (2, .ref 535)]) 3 dL_law_1182 rfl rfl (by decide) rfl ?_
    refine g_goto 18 dL_law_1185 (by decide) ?_
    exact g_ls [1, 2, 3, 0] rfl (h1 q1)
  · refine g_iconst (v := 0) dL_law_375 (by decide) ?_
    exact (h2 q1)
theorem bL_law_395 {X : pX} {Z : List Frame → Array Value → State → State → Prop} {m : pMem} {x3 : Int32} {xs0 : Int32} {xs1 : Int32} (hW : Wf m)
    (h1 : xs1 = xs0 → GoL X Z 18 [(0, .retAddr 0), (1, .ref 0), (2, .ref 535), (3, .int (x3 + (6 : Int32)))] [] m)
    (h2 : ¬ (xs1 = xs0) → GoL X Z 399 [(0, .retAddr 0), (1, .ref 0), (2, .ref 535), (3, .int x3)] [.int (0 : Int32)] m) :
    GoL X Z 395 [(0, .retAddr 0), (1, .ref 0), (2, .ref 535), (3, .int x3)] [.int xs0, .int xs1] m := by
  refine g_icmp_eq 1182 dL_law_395 (by decide) (fun q1 => ?_) (fun q1 => ?_)
  · refine g_iinc (v := x3 + (6 : Int32)) (ls2 := [(3, .int (x3 + (6 : Int32))), (0, .retAddr 0), (1, .ref 0), (2, .ref 535)]) 3 dL_law_1182 rfl rfl (by decide) rfl ?_
    refine g_goto 18 dL_law_1185 (by decide) ?_
    exact g_ls [1, 2, 3, 0] rfl (h1 q1)
  · refine g_iconst (v := 0) dL_law_398 (by decide) ?_
    exact (h2 q1)
theorem bL_law_408 {X : pX} {Z : List Frame → Array Value → State → State → Prop} {m : pMem} {x3 : Int32} {xs0 : Int32} {xs1 : Int32} (hW : Wf m)
    (h1 : xs1 = xs0 → GoL X Z 18 [(0, .retAddr 0), (1, .ref 0), (2, .ref 535), (3, .int (x3 + (6 : Int32)))] [] m)
    (h2 : ¬ (xs1 = xs0) → GoL X Z 412 [(0, .retAddr 0), (1, .ref 0), (2, .ref 535), (3, .int x3)] [.int (0 : Int32)] m) :
    GoL X Z 408 [(0, .retAddr 0), (1, .ref 0), (2, .ref 535), (3, .int x3)] [.int xs0, .int xs1] m := by
  refine g_icmp_eq 1182 dL_law_408 (by decide) (fun q1 => ?_) (fun q1 => ?_)
  · refine g_iinc (v := x3 + (6 : Int32)) (ls2 := [(3, .int (x3 + (6 : Int32))), (0, .retAddr 0), (1, .ref 0), (2, .ref 535)]) 3 dL_law_1182 rfl rfl (by decide) rfl ?_
    refine g_goto 18 dL_law_1185 (by decide) ?_
    exact g_ls [1, 2, 3, 0] rfl (h1 q1)
  · refine g_iconst (v := 0) dL_law_411 (by decide) ?_
    exact (h2 q1)
theorem bL_law_441 {X : pX} {Z : List Frame → Array Value → State → State → Prop} {m : pMem} {x3 : Int32} {xs0 : Int32} {xs1 : Int32} (hW : Wf m)
    (h1 : xs1 = xs0 → GoL X Z 18 [(0, .retAddr 0), (1, .ref 0), (2, .ref 535), (3, .int (x3 + (6 : Int32)))] [] m)
    (h2 : ¬ (xs1 = xs0) → GoL X Z 445 [(0, .retAddr 0), (1, .ref 0), (2, .ref 535), (3, .int x3)] [.int (0 : Int32)] m) :
    GoL X Z 441 [(0, .retAddr 0), (1, .ref 0), (2, .ref 535), (3, .int x3)] [.int xs0, .int xs1] m := by
  refine g_icmp_eq 1182 dL_law_441 (by decide) (fun q1 => ?_) (fun q1 => ?_)
  · refine g_iinc (v := x3 + (6 : Int32)) (ls2 := [(3, .int (x3 + (6 : Int32))), (0, .retAddr 0), (1, .ref 0), (2, .ref 535)]) 3 dL_law_1182 rfl rfl (by decide) rfl ?_
    refine g_goto 18 dL_law_1185 (by decide) ?_
    exact g_ls [1, 2, 3, 0] rfl (h1 q1)
  · refine g_iconst (v := 0) dL_law_444 (by decide) ?_
    exact (h2 q1)
theorem bL_law_474 {X : pX} {Z : List Frame → Array Value → State → State → Prop} {m : pMem} {x3 : Int32} {xs0 : Int32} {xs1 : Int32} (hW : Wf m)
    (h1 : xs1 = xs0 → GoL X Z 18 [(0, .retAddr 0), (1, .ref 0), (2, .ref 535), (3, .int (x3 + (6 : Int32)))] [] m)
    (h2 : ¬ (xs1 = xs0) → GoL X Z 478 [(0, .retAddr 0), (1, .ref 0), (2, .ref 535), (3, .int x3)] [.int (0 : Int32)] m) :
    GoL X Z 474 [(0, .retAddr 0), (1, .ref 0), (2, .ref 535), (3, .int x3)] [.int xs0, .int xs1] m := by
  refine g_icmp_eq 1182 dL_law_474 (by decide) (fun q1 => ?_) (fun q1 => ?_)
  · refine g_iinc (v := x3 + (6 : Int32)) (ls2 := [(3, .int (x3 + (6 : Int32))), (0, .retAddr 0), (1, .ref 0), (2, .ref 535)]) 3 dL_law_1182 rfl rfl (by decide) rfl ?_
    refine g_goto 18 dL_law_1185 (by decide) ?_
    exact g_ls [1, 2, 3, 0] rfl (h1 q1)
  · refine g_iconst (v := 0) dL_law_477 (by decide) ?_
    exact (h2 q1)
theorem bL_law_517 {X : pX} {Z : List Frame → Array Value → State → State → Prop} {m : pMem} {x3 : Int32} {xs0 : Int32} {xs1 : Int32} (hW : Wf m)
    (h1 : xs1 = xs0 → GoL X Z 18 [(0, .retAddr 0), (1, .ref 0), (2, .ref 535), (3, .int (x3 + (6 : Int32)))] [] m)
    (h2 : ¬ (xs1 = xs0) → GoL X Z 521 [(0, .retAddr 0), (1, .ref 0), (2, .ref 535), (3, .int x3)] [.int (0 : Int32)] m) :
    GoL X Z 517 [(0, .retAddr 0), (1, .ref 0), (2, .ref 535), (3, .int x3)] [.int xs0, .int xs1] m := by
  refine g_icmp_eq 1182 dL_law_517 (by decide) (fun q1 => ?_) (fun q1 => ?_)
  · refine g_iinc (v := x3 + (6 : Int32)) (ls2 := [(3, .int (x3 + (6 : Int32))), (0, .retAddr 0), (1, .ref 0), (2, .ref 535)]) 3 dL_law_1182 rfl rfl (by decide) rfl ?_
    refine g_goto 18 dL_law_1185 (by decide) ?_
    exact g_ls [1, 2, 3, 0] rfl (h1 q1)
  · refine g_iconst (v := 0) dL_law_520 (by decide) ?_
    exact (h2 q1)
theorem bL_law_540 {X : pX} {Z : List Frame → Array Value → State → State → Prop} {m : pMem} {x3 : Int32} {xs0 : Int32} {xs1 : Int32} (hW : Wf m)
    (h1 : xs1 = xs0 → GoL X Z 18 [(0, .retAddr 0), (1, .ref 0), (2, .ref 535), (3, .int (x3 + (6 : Int32)))] [] m)
    (h2 : ¬ (xs1 = xs0) → GoL X Z 544 [(0, .retAddr 0), (1, .ref 0), (2, .ref 535), (3, .int x3)] [.int (0 : Int32)] m) :
    GoL X Z 540 [(0, .retAddr 0), (1, .ref 0), (2, .ref 535), (3, .int x3)] [.int xs0, .int xs1] m := by
  refine g_icmp_eq 1182 dL_law_540 (by decide) (fun q1 => ?_) (fun q1 => ?_)
  · refine g_iinc (v := x3 + (6 : Int32)) (ls2 := [(3, .int (x3 + (6 : Int32))), (0, .retAddr 0), (1, .ref 0), (2, .ref 535)]) 3 dL_law_1182 rfl rfl (by decide) rfl ?_
    refine g_goto 18 dL_law_1185 (by decide) ?_
    exact g_ls [1, 2, 3, 0] rfl (h1 q1)
  · refine g_iconst (v := 0) dL_law_543 (by decide) ?_
    exact (h2 q1)
theorem bL_law_553 {X : pX} {Z : List Frame → Array Value → State → State → Prop} {m : pMem} {x3 : Int32} {xs0 : Int32} {xs1 : Int32} (hW : Wf m)
    (h1 : xs1 = xs0 → GoL X Z 18 [(0, .retAddr 0), (1, .ref 0), (2, .ref 535), (3, .int (x3 + (6 : Int32)))] [] m)
    (h2 : ¬ (xs1 = xs0) → GoL X Z 557 [(0, .retAddr 0), (1, .ref 0), (2, .ref 535), (3, .int x3)] [.int (0 : Int32)] m) :
    GoL X Z 553 [(0, .retAddr 0), (1, .ref 0), (2, .ref 535), (3, .int x3)] [.int xs0, .int xs1] m := by
  refine g_icmp_eq 1182 dL_law_553 (by decide) (fun q1 => ?_) (fun q1 => ?_)
  · refine g_iinc (v := x3 + (6 : Int32)) (ls2 := [(3, .int (x3 + (6 : Int32))), (0, .retAddr 0), (1, .ref 0), (2, .ref 535)]) 3 dL_law_1182 rfl rfl (by decide) rfl ?_
    refine g_goto 18 dL_law_1185 (by decide) ?_
    exact g_ls [1, 2, 3, 0] rfl (h1 q1)
  · refine g_iconst (v := 0) dL_law_556 (by decide) ?_
    exact (h2 q1)
theorem bL_law_596 {X : pX} {Z : List Frame → Array Value → State → State → Prop} {m : pMem} {x3 : Int32} {xs0 : Int32} {xs1 : Int32} (hW : Wf m)
    (h1 : xs1 = xs0 → GoL X Z 18 [(0, .retAddr 0), (1, .ref 0), (2, .ref 535), (3, .int (x3 + (6 : Int32)))] [] m)
    (h2 : ¬ (xs1 = xs0) → GoL X Z 600 [(0, .retAddr 0), (1, .ref 0), (2, .ref 535), (3, .int x3)] [.int (0 : Int32)] m) :
    GoL X Z 596 [(0, .retAddr 0), (1, .ref 0), (2, .ref 535), (3, .int x3)] [.int xs0, .int xs1] m := by
  refine g_icmp_eq 1182 dL_law_596 (by decide) (fun q1 => ?_) (fun q1 => ?_)
  · refine g_iinc (v := x3 + (6 : Int32)) (ls2 := [(3, .int (x3 + (6 : Int32))), (0, .retAddr 0), (1, .ref 0), (2, .ref 535)]) 3 dL_law_1182 rfl rfl (by decide) rfl ?_
    refine g_goto 18 dL_law_1185 (by decide) ?_
    exact g_ls [1, 2, 3, 0] rfl (h1 q1)
  · refine g_iconst (v := 0) dL_law_599 (by decide) ?_
    exact (h2 q1)
theorem bL_law_619 {X : pX} {Z : List Frame → Array Value → State → State → Prop} {m : pMem} {x3 : Int32} {xs0 : Int32} {xs1 : Int32} (hW : Wf m)
    (h1 : xs1 = xs0 → GoL X Z 18 [(0, .retAddr 0), (1, .ref 0), (2, .ref 535), (3, .int (x3 + (6 : Int32)))] [] m)
    (h2 : ¬ (xs1 = xs0) → GoL X Z 623 [(0, .retAddr 0), (1, .ref 0), (2, .ref 535), (3, .int x3)] [.int (0 : Int32)] m) :
    GoL X Z 619 [(0, .retAddr 0), (1, .ref 0), (2, .ref 535), (3, .int x3)] [.int xs0, .int xs1] m := by
  refine g_icmp_eq 1182 dL_law_619 (by decide) (fun q1 => ?_) (fun q1 => ?_)
  · refine g_iinc (v := x3 + (6 : Int32)) (ls2 := [(3, .int (x3 + (6 : Int32))), (0, .retAddr 0), (1, .ref 0), (2, .ref 535)]) 3 dL_law_1182 rfl rfl (by decide) rfl ?_
    refine g_goto 18 dL_law_1185 (by decide) ?_
    exact g_ls [1, 2, 3, 0] rfl (h1 q1)
  · refine g_iconst (v := 0) dL_law_622 (by decide) ?_
    exact (h2 q1)
theorem bL_law_642 {X : pX} {Z : List Frame → Array Value → State → State → Prop} {m : pMem} {x3 : Int32} {xs0 : Int32} {xs1 : Int32} (hW : Wf m)
    (h1 : xs1 = xs0 → GoL X Z 18 [(0, .retAddr 0), (1, .ref 0), (2, .ref 535), (3, .int (x3 + (6 : Int32)))] [] m)
    (h2 : ¬ (xs1 = xs0) → GoL X Z 646 [(0, .retAddr 0), (1, .ref 0), (2, .ref 535), (3, .int x3)] [.int (0 : Int32)] m) :
    GoL X Z 642 [(0, .retAddr 0), (1, .ref 0), (2, .ref 535), (3, .int x3)] [.int xs0, .int xs1] m := by
  refine g_icmp_eq 1182 dL_law_642 (by decide) (fun q1 => ?_) (fun q1 => ?_)
  · refine g_iinc (v := x3 + (6 : Int32)) (ls2 := [(3, .int (x3 + (6 : Int32))), (0, .retAddr 0), (1, .ref 0), (2, .ref 535)]) 3 dL_law_1182 rfl rfl (by decide) rfl ?_
    refine g_goto 18 dL_law_1185 (by decide) ?_
    exact g_ls [1, 2, 3, 0] rfl (h1 q1)
  · refine g_iconst (v := 0) dL_law_645 (by decide) ?_
    exact (h2 q1)
theorem bL_law_675 {X : pX} {Z : List Frame → Array Value → State → State → Prop} {m : pMem} {x3 : Int32} {xs0 : Int32} {xs1 : Int32} (hW : Wf m)
    (h1 : xs1 = xs0 → GoL X Z 18 [(0, .retAddr 0), (1, .ref 0), (2, .ref 535), (3, .int (x3 + (6 : Int32)))] [] m)
    (h2 : ¬ (xs1 = xs0) → GoL X Z 679 [(0, .retAddr 0), (1, .ref 0), (2, .ref 535), (3, .int x3)] [.int (0 : Int32)] m) :
    GoL X Z 675 [(0, .retAddr 0), (1, .ref 0), (2, .ref 535), (3, .int x3)] [.int xs0, .int xs1] m := by
  refine g_icmp_eq 1182 dL_law_675 (by decide) (fun q1 => ?_) (fun q1 => ?_)
  · refine g_iinc (v := x3 + (6 : Int32)) (ls2 := [(3, .int (x3 + (6 : Int32))), (0, .retAddr 0), (1, .ref 0), (2, .ref 535)]) 3 dL_law_1182 rfl rfl (by decide) rfl ?_
    refine g_goto 18 dL_law_1185 (by decide) ?_
    exact g_ls [1, 2, 3, 0] rfl (h1 q1)
  · refine g_iconst (v := 0) dL_law_678 (by decide) ?_
    exact (h2 q1)
theorem bL_law_718 {X : pX} {Z : List Frame → Array Value → State → State → Prop} {m : pMem} {x3 : Int32} {xs0 : Int32} {xs1 : Int32} (hW : Wf m)
    (h1 : xs1 = xs0 → GoL X Z 18 [(0, .retAddr 0), (1, .ref 0), (2, .ref 535), (3, .int (x3 + (6 : Int32)))] [] m)
    (h2 : ¬ (xs1 = xs0) → GoL X Z 722 [(0, .retAddr 0), (1, .ref 0), (2, .ref 535), (3, .int x3)] [.int (0 : Int32)] m) :
    GoL X Z 718 [(0, .retAddr 0), (1, .ref 0), (2, .ref 535), (3, .int x3)] [.int xs0, .int xs1] m := by
  refine g_icmp_eq 1182 dL_law_718 (by decide) (fun q1 => ?_) (fun q1 => ?_)
  · refine g_iinc (v := x3 + (6 : Int32)) (ls2 := [(3, .int (x3 + (6 : Int32))), (0, .retAddr 0), (1, .ref 0), (2, .ref 535)]) 3 dL_law_1182 rfl rfl (by decide) rfl ?_
    refine g_goto 18 dL_law_1185 (by decide) ?_
    exact g_ls [1, 2, 3, 0] rfl (h1 q1)
  · refine g_iconst (v := 0) dL_law_721 (by decide) ?_
    exact (h2 q1)
theorem bL_law_781 {X : pX} {Z : List Frame → Array Value → State → State → Prop} {m : pMem} {x3 : Int32} {xs0 : Int32} {xs1 : Int32} (hW : Wf m)
    (h1 : xs1 = xs0 → GoL X Z 18 [(0, .retAddr 0), (1, .ref 0), (2, .ref 535), (3, .int (x3 + (6 : Int32)))] [] m)
    (h2 : ¬ (xs1 = xs0) → GoL X Z 785 [(0, .retAddr 0), (1, .ref 0), (2, .ref 535), (3, .int x3)] [.int (0 : Int32)] m) :
    GoL X Z 781 [(0, .retAddr 0), (1, .ref 0), (2, .ref 535), (3, .int x3)] [.int xs0, .int xs1] m := by
  refine g_icmp_eq 1182 dL_law_781 (by decide) (fun q1 => ?_) (fun q1 => ?_)
  · refine g_iinc (v := x3 + (6 : Int32)) (ls2 := [(3, .int (x3 + (6 : Int32))), (0, .retAddr 0), (1, .ref 0), (2, .ref 535)]) 3 dL_law_1182 rfl rfl (by decide) rfl ?_
    refine g_goto 18 dL_law_1185 (by decide) ?_
    exact g_ls [1, 2, 3, 0] rfl (h1 q1)
  · refine g_iconst (v := 0) dL_law_784 (by decide) ?_
    exact (h2 q1)
theorem bL_law_824 {X : pX} {Z : List Frame → Array Value → State → State → Prop} {m : pMem} {x3 : Int32} {xs0 : Int32} {xs1 : Int32} (hW : Wf m)
    (h1 : xs1 = xs0 → GoL X Z 18 [(0, .retAddr 0), (1, .ref 0), (2, .ref 535), (3, .int (x3 + (6 : Int32)))] [] m)
    (h2 : ¬ (xs1 = xs0) → GoL X Z 828 [(0, .retAddr 0), (1, .ref 0), (2, .ref 535), (3, .int x3)] [.int (0 : Int32)] m) :
    GoL X Z 824 [(0, .retAddr 0), (1, .ref 0), (2, .ref 535), (3, .int x3)] [.int xs0, .int xs1] m := by
  refine g_icmp_eq 1182 dL_law_824 (by decide) (fun q1 => ?_) (fun q1 => ?_)
  · refine g_iinc (v := x3 + (6 : Int32)) (ls2 := [(3, .int (x3 + (6 : Int32))), (0, .retAddr 0), (1, .ref 0), (2, .ref 535)]) 3 dL_law_1182 rfl rfl (by decide) rfl ?_
    refine g_goto 18 dL_law_1185 (by decide) ?_
    exact g_ls [1, 2, 3, 0] rfl (h1 q1)
  · refine g_iconst (v := 0) dL_law_827 (by decide) ?_
    exact (h2 q1)
theorem bL_law_857 {X : pX} {Z : List Frame → Array Value → State → State → Prop} {m : pMem} {x3 : Int32} {xs0 : Int32} {xs1 : Int32} (hW : Wf m)
    (h1 : xs1 = xs0 → GoL X Z 18 [(0, .retAddr 0), (1, .ref 0), (2, .ref 535), (3, .int (x3 + (6 : Int32)))] [] m)
    (h2 : ¬ (xs1 = xs0) → GoL X Z 861 [(0, .retAddr 0), (1, .ref 0), (2, .ref 535), (3, .int x3)] [.int (0 : Int32)] m) :
    GoL X Z 857 [(0, .retAddr 0), (1, .ref 0), (2, .ref 535), (3, .int x3)] [.int xs0, .int xs1] m := by
  refine g_icmp_eq 1182 dL_law_857 (by decide) (fun q1 => ?_) (fun q1 => ?_)
  · refine g_iinc (v := x3 + (6 : Int32)) (ls2 := [(3, .int (x3 + (6 : Int32))), (0, .retAddr 0), (1, .ref 0), (2, .ref 535)]) 3 dL_law_1182 rfl rfl (by decide) rfl ?_
    refine g_goto 18 dL_law_1185 (by decide) ?_
    exact g_ls [1, 2, 3, 0] rfl (h1 q1)
  · refine g_iconst (v := 0) dL_law_860 (by decide) ?_
    exact (h2 q1)
theorem bL_law_900 {X : pX} {Z : List Frame → Array Value → State → State → Prop} {m : pMem} {x3 : Int32} {xs0 : Int32} {xs1 : Int32} (hW : Wf m)
    (h1 : xs1 = xs0 → GoL X Z 18 [(0, .retAddr 0), (1, .ref 0), (2, .ref 535), (3, .int (x3 + (6 : Int32)))] [] m)
    (h2 : ¬ (xs1 = xs0) → GoL X Z 904 [(0, .retAddr 0), (1, .ref 0), (2, .ref 535), (3, .int x3)] [.int (0 : Int32)] m) :
    GoL X Z 900 [(0, .retAddr 0), (1, .ref 0), (2, .ref 535), (3, .int x3)] [.int xs0, .int xs1] m := by
  refine g_icmp_eq 1182 dL_law_900 (by decide) (fun q1 => ?_) (fun q1 => ?_)
  · refine g_iinc (v := x3 + (6 : Int32)) (ls2 := [(3, .int (x3 + (6 : Int32))), (0, .retAddr 0), (1, .ref 0), (2, .ref 535)]) 3 dL_law_1182 rfl rfl (by decide) rfl ?_
    refine g_goto 18 dL_law_1185 (by decide) ?_
    exact g_ls [1, 2, 3, 0] rfl (h1 q1)
  · refine g_iconst (v := 0) dL_law_903 (by decide) ?_
    exact (h2 q1)
theorem bL_law_933 {X : pX} {Z : List Frame → Array Value → State → State → Prop} {m : pMem} {x3 : Int32} {xs0 : Int32} {xs1 : Int32} (hW : Wf m)
    (h1 : xs1 = xs0 → GoL X Z 18 [(0, .retAddr 0), (1, .ref 0), (2, .ref 535), (3, .int (x3 + (6 : Int32)))] [] m)
    (h2 : ¬ (xs1 = xs0) → GoL X Z 937 [(0, .retAddr 0), (1, .ref 0), (2, .ref 535), (3, .int x3)] [.int (0 : Int32)] m) :
    GoL X Z 933 [(0, .retAddr 0), (1, .ref 0), (2, .ref 535), (3, .int x3)] [.int xs0, .int xs1] m := by
  refine g_icmp_eq 1182 dL_law_933 (by decide) (fun q1 => ?_) (fun q1 => ?_)
  · refine g_iinc (v := x3 + (6 : Int32)) (ls2 := [(3, .int (x3 + (6 : Int32))), (0, .retAddr 0), (1, .ref 0), (2, .ref 535)]) 3 dL_law_1182 rfl rfl (by decide) rfl ?_
    refine g_goto 18 dL_law_1185 (by decide) ?_
    exact g_ls [1, 2, 3, 0] rfl (h1 q1)
  · refine g_iconst (v := 0) dL_law_936 (by decide) ?_
    exact (h2 q1)
theorem bL_law_976 {X : pX} {Z : List Frame → Array Value → State → State → Prop} {m : pMem} {x3 : Int32} {xs0 : Int32} {xs1 : Int32} (hW : Wf m)
    (h1 : xs1 = xs0 → GoL X Z 18 [(0, .retAddr 0), (1, .ref 0), (2, .ref 535), (3, .int (x3 + (6 : Int32)))] [] m)
    (h2 : ¬ (xs1 = xs0) → GoL X Z 980 [(0, .retAddr 0), (1, .ref 0), (2, .ref 535), (3, .int x3)] [.int (0 : Int32)] m) :
    GoL X Z 976 [(0, .retAddr 0), (1, .ref 0), (2, .ref 535), (3, .int x3)] [.int xs0, .int xs1] m := by
  refine g_icmp_eq 1182 dL_law_976 (by decide) (fun q1 => ?_) (fun q1 => ?_)
  · refine g_iinc (v := x3 + (6 : Int32)) (ls2 := [(3, .int (x3 + (6 : Int32))), (0, .retAddr 0), (1, .ref 0), (2, .ref 535)]) 3 dL_law_1182 rfl rfl (by decide) rfl ?_
    refine g_goto 18 dL_law_1185 (by decide) ?_
    exact g_ls [1, 2, 3, 0] rfl (h1 q1)
  · refine g_iconst (v := 0) dL_law_979 (by decide) ?_
    exact (h2 q1)
theorem bL_law_999 {X : pX} {Z : List Frame → Array Value → State → State → Prop} {m : pMem} {x3 : Int32} {xs0 : Int32} {xs1 : Int32} (hW : Wf m)
    (h1 : xs1 = xs0 → GoL X Z 18 [(0, .retAddr 0), (1, .ref 0), (2, .ref 535), (3, .int (x3 + (6 : Int32)))] [] m)
    (h2 : ¬ (xs1 = xs0) → GoL X Z 1003 [(0, .retAddr 0), (1, .ref 0), (2, .ref 535), (3, .int x3)] [.int (0 : Int32)] m) :
    GoL X Z 999 [(0, .retAddr 0), (1, .ref 0), (2, .ref 535), (3, .int x3)] [.int xs0, .int xs1] m := by
  refine g_icmp_eq 1182 dL_law_999 (by decide) (fun q1 => ?_) (fun q1 => ?_)
  · refine g_iinc (v := x3 + (6 : Int32)) (ls2 := [(3, .int (x3 + (6 : Int32))), (0, .retAddr 0), (1, .ref 0), (2, .ref 535)]) 3 dL_law_1182 rfl rfl (by decide) rfl ?_
    refine g_goto 18 dL_law_1185 (by decide) ?_
    exact g_ls [1, 2, 3, 0] rfl (h1 q1)
  · refine g_iconst (v := 0) dL_law_1002 (by decide) ?_
    exact (h2 q1)
theorem bL_law_1032 {X : pX} {Z : List Frame → Array Value → State → State → Prop} {m : pMem} {x3 : Int32} {xs0 : Int32} {xs1 : Int32} (hW : Wf m)
    (h1 : xs1 = xs0 → GoL X Z 18 [(0, .retAddr 0), (1, .ref 0), (2, .ref 535), (3, .int (x3 + (6 : Int32)))] [] m)
    (h2 : ¬ (xs1 = xs0) → GoL X Z 1036 [(0, .retAddr 0), (1, .ref 0), (2, .ref 535), (3, .int x3)] [.int (0 : Int32)] m) :
    GoL X Z 1032 [(0, .retAddr 0), (1, .ref 0), (2, .ref 535), (3, .int x3)] [.int xs0, .int xs1] m := by
  refine g_icmp_eq 1182 dL_law_1032 (by decide) (fun q1 => ?_) (fun q1 => ?_)
  · refine g_iinc (v := x3 + (6 : Int32)) (ls2 := [(3, .int (x3 + (6 : Int32))), (0, .retAddr 0), (1, .ref 0), (2, .ref 535)]) 3 dL_law_1182 rfl rfl (by decide) rfl ?_
    refine g_goto 18 dL_law_1185 (by decide) ?_
    exact g_ls [1, 2, 3, 0] rfl (h1 q1)
  · refine g_iconst (v := 0) dL_law_1035 (by decide) ?_
    exact (h2 q1)
theorem bL_law_1055 {X : pX} {Z : List Frame → Array Value → State → State → Prop} {m : pMem} {x3 : Int32} {xs0 : Int32} {xs1 : Int32} (hW : Wf m)
    (h1 : xs1 = xs0 → GoL X Z 18 [(0, .retAddr 0), (1, .ref 0), (2, .ref 535), (3, .int (x3 + (6 : Int32)))] [] m)
    (h2 : ¬ (xs1 = xs0) → GoL X Z 1059 [(0, .retAddr 0), (1, .ref 0), (2, .ref 535), (3, .int x3)] [.int (0 : Int32)] m) :
    GoL X Z 1055 [(0, .retAddr 0), (1, .ref 0), (2, .ref 535), (3, .int x3)] [.int xs0, .int xs1] m := by
  refine g_icmp_eq 1182 dL_law_1055 (by decide) (fun q1 => ?_) (fun q1 => ?_)
  · refine g_iinc (v := x3 + (6 : Int32)) (ls2 := [(3, .int (x3 + (6 : Int32))), (0, .retAddr 0), (1, .ref 0), (2, .ref 535)]) 3 dL_law_1182 rfl rfl (by decide) rfl ?_
    refine g_goto 18 dL_law_1185 (by decide) ?_
    exact g_ls [1, 2, 3, 0] rfl (h1 q1)
  · refine g_iconst (v := 0) dL_law_1058 (by decide) ?_
    exact (h2 q1)
theorem bL_law_1108 {X : pX} {Z : List Frame → Array Value → State → State → Prop} {m : pMem} {x3 : Int32} {xs0 : Int32} {xs1 : Int32} (hW : Wf m)
    (h1 : xs1 = xs0 → GoL X Z 18 [(0, .retAddr 0), (1, .ref 0), (2, .ref 535), (3, .int (x3 + (6 : Int32)))] [] m)
    (h2 : ¬ (xs1 = xs0) → GoL X Z 1112 [(0, .retAddr 0), (1, .ref 0), (2, .ref 535), (3, .int x3)] [.int (0 : Int32)] m) :
    GoL X Z 1108 [(0, .retAddr 0), (1, .ref 0), (2, .ref 535), (3, .int x3)] [.int xs0, .int xs1] m := by
  refine g_icmp_eq 1182 dL_law_1108 (by decide) (fun q1 => ?_) (fun q1 => ?_)
  · refine g_iinc (v := x3 + (6 : Int32)) (ls2 := [(3, .int (x3 + (6 : Int32))), (0, .retAddr 0), (1, .ref 0), (2, .ref 535)]) 3 dL_law_1182 rfl rfl (by decide) rfl ?_
    refine g_goto 18 dL_law_1185 (by decide) ?_
    exact g_ls [1, 2, 3, 0] rfl (h1 q1)
  · refine g_iconst (v := 0) dL_law_1111 (by decide) ?_
    exact (h2 q1)
theorem bL_law_1131 {X : pX} {Z : List Frame → Array Value → State → State → Prop} {m : pMem} {x3 : Int32} {xs0 : Int32} {xs1 : Int32} (hW : Wf m)
    (h1 : xs1 = xs0 → GoL X Z 18 [(0, .retAddr 0), (1, .ref 0), (2, .ref 535), (3, .int (x3 + (6 : Int32)))] [] m)
    (h2 : ¬ (xs1 = xs0) → GoL X Z 1135 [(0, .retAddr 0), (1, .ref 0), (2, .ref 535), (3, .int x3)] [.int (0 : Int32)] m) :
    GoL X Z 1131 [(0, .retAddr 0), (1, .ref 0), (2, .ref 535), (3, .int x3)] [.int xs0, .int xs1] m := by
  refine g_icmp_eq 1182 dL_law_1131 (by decide) (fun q1 => ?_) (fun q1 => ?_)
  · refine g_iinc (v := x3 + (6 : Int32)) (ls2 := [(3, .int (x3 + (6 : Int32))), (0, .retAddr 0), (1, .ref 0), (2, .ref 535)]) 3 dL_law_1182 rfl rfl (by decide) rfl ?_
    refine g_goto 18 dL_law_1185 (by decide) ?_
    exact g_ls [1, 2, 3, 0] rfl (h1 q1)
  · refine g_iconst (v := 0) dL_law_1134 (by decide) ?_
    exact (h2 q1)
theorem bL_law_1154 {X : pX} {Z : List Frame → Array Value → State → State → Prop} {m : pMem} {x3 : Int32} {xs0 : Int32} {xs1 : Int32} (hW : Wf m)
    (h1 : xs1 = xs0 → GoL X Z 18 [(0, .retAddr 0), (1, .ref 0), (2, .ref 535), (3, .int (x3 + (6 : Int32)))] [] m)
    (h2 : ¬ (xs1 = xs0) → GoL X Z 1158 [(0, .retAddr 0), (1, .ref 0), (2, .ref 535), (3, .int x3)] [.int (0 : Int32)] m) :
    GoL X Z 1154 [(0, .retAddr 0), (1, .ref 0), (2, .ref 535), (3, .int x3)] [.int xs0, .int xs1] m := by
  refine g_icmp_eq 1182 dL_law_1154 (by decide) (fun q1 => ?_) (fun q1 => ?_)
  · refine g_iinc (v := x3 + (6 : Int32)) (ls2 := [(3, .int (x3 + (6 : Int32))), (0, .retAddr 0), (1, .ref 0), (2, .ref 535)]) 3 dL_law_1182 rfl rfl (by decide) rfl ?_
    refine g_goto 18 dL_law_1185 (by decide) ?_
    exact g_ls [1, 2, 3, 0] rfl (h1 q1)
  · refine g_iconst (v := 0) dL_law_1157 (by decide) ?_
    exact (h2 q1)
theorem bL_law_1177 {X : pX} {Z : List Frame → Array Value → State → State → Prop} {m : pMem} {x3 : Int32} {xs0 : Int32} {xs1 : Int32} (hW : Wf m)
    (h1 : xs1 = xs0 → GoL X Z 18 [(0, .retAddr 0), (1, .ref 0), (2, .ref 535), (3, .int (x3 + (6 : Int32)))] [] m)
    (h2 : ¬ (xs1 = xs0) → GoL X Z 1181 [(0, .retAddr 0), (1, .ref 0), (2, .ref 535), (3, .int x3)] [.int (0 : Int32)] m) :
    GoL X Z 1177 [(0, .retAddr 0), (1, .ref 0), (2, .ref 535), (3, .int x3)] [.int xs0, .int xs1] m := by
  refine g_icmp_eq 1182 dL_law_1177 (by decide) (fun q1 => ?_) (fun q1 => ?_)
  · refine g_iinc (v := x3 + (6 : Int32)) (ls2 := [(3, .int (x3 + (6 : Int32))), (0, .retAddr 0), (1, .ref 0), (2, .ref 535)]) 3 dL_law_1182 rfl rfl (by decide) rfl ?_
    refine g_goto 18 dL_law_1185 (by decide) ?_
    exact g_ls [1, 2, 3, 0] rfl (h1 q1)
  · refine g_iconst (v := 0) dL_law_1180 (by decide) ?_
    exact (h2 q1)
