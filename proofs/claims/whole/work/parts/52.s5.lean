section S5
variable {X : pX} {Q : Option Value → pMem → Prop} {m : pMem}
theorem s_carryS37 {r n q p Sg T : Nat} (hW : Wf m) (c : SH[r]? = some (.inl 6)) (hn : mI m r 2 = nI n) (h4 : n ≤ 400) (hq : q < 4) (hT : mI m 31 4 = nI T) (h6 : T ≤ 6) (hS : mI m 31 2 = nI Sg) (h8 : Sg ≤ 8) (hp : mI m 38 q = nI p) (hps : p < Sg)
    (h : ∀ m2, Same (fun a k => a = 40 ∨ a = 513 ∨ (a = r ∧ k = 3)) m m2 → mI m2 40 = pk (evC (mI m (r + 1)) (mI m 34) (mI m 35) (mI m 32) (mI m 33) (mI m 31 2) (mI m 37 0) n 6 (mI m 38) q) (mI m 31 1) (nI q) (10 + mI m 38 q) 6 T (mI m 40) → Q none m2) :
    Cl X 3 mX0_carryByRule [.ref 512, .ref 37, .ref r, .int (nI q)] m Q := by
  obtain ⟨r1, r2⟩ := rule_rng c
  have eq : (nI q).toNatClampNeg = q := nI_clamp (by omega)
  refine pCl_of (by decide +kernel) (Nat.le_of_ble_eq_true rfl) rfl (bX0_carryByRuleS37_0 hW c (vp_in_nI hq (by decide)) ?_)
  rw [eq]
  refine upTo (P := fun t => ∀ m1, Same (fun a k => a = 40 ∨ a = 513 ∨ (a = r ∧ k = 3)) m m1 → mI m1 40 = pk (evC (mI m (r + 1)) (mI m 34) (mI m 35) (mI m 32) (mI m 33) (mI m 31 2) (mI m 37 0) n 6 (mI m 38) q) (mI m 31 1) (nI q) (10 + mI m 38 q) 6 t (mI m 40) → Go X 3 mX0_carryByRule Q 14 [(0, .ref 512), (1, .ref 37), (2, .ref r), (3, .int (nI q)), (4, .int ((10 : Int32) + (mI m 38 q))), (5, .int (nI t))] [] m1) T ?_ ?_ 0 (Nat.zero_le _) m Same.rf rfl
  · intro m1 hm h1
    have e4 : mI m1 31 4 = nI T := (hm.1 31 4 (by omega)).trans hT
    have hz : mI m1 31 4 ≤ nI T := by rw [e4]; exact Int32.le_refl _
    exact bX0_carryByRuleS37_14 (hW.sm hm.2) c (fun _ => h m1 hm h1) (fun z => absurd hz z) (fun z => absurd hz z) (fun z => absurd hz z) (fun z => absurd hz z)
  · intro t ht ih m1 hm h1
    have hW1 := hW.sm hm.2
    have e4 : mI m1 31 4 = nI T := (hm.1 31 4 (by omega)).trans hT
    have hlt : ¬ mI m1 31 4 ≤ nI t := by rw [e4]; exact nI_ge ht (by omega)
    have et : (nI t).toNatClampNeg = t := nI_clamp (by omega)
    have ht6 : vp_in (nI t) 6 := vp_in_nI (by omega) (by decide)
    have next : ∀ m2, Same (fun a k => a = 40 ∨ a = 513 ∨ (a = r ∧ k = 3)) m m2 → mI m2 40 = pk (evC (mI m (r + 1)) (mI m 34) (mI m 35) (mI m 32) (mI m 33) (mI m 31 2) (mI m 37 0) n 6 (mI m 38) q) (mI m 31 1) (nI q) (10 + mI m 38 q) 6 (t + 1) (mI m 40) → Go X 3 mX0_carryByRule Q 14 [(0, .ref 512), (1, .ref 37), (2, .ref r), (3, .int (nI q)), (4, .int ((10 : Int32) + (mI m 38 q))), (5, .int (nI t + (1 : Int32)))] [] m2 := by
      intro m2 a b
      rw [nI_1]
      exact ih m2 a b
    generalize hev : evC (mI m (r + 1)) (mI m 34) (mI m 35) (mI m 32) (mI m 33) (mI m 31 2) (mI m 37 0) n 6 (mI m 38) q = ev at *
    have body : (mI m1 40 t = nI q ∨ mI m1 40 t = 10 + mI m 38 q) → Go X 3 mX0_carryByRule Q 48 [(0, .ref 512), (1, .ref 37), (2, .ref r), (3, .int (nI q)), (4, .int ((10 : Int32) + (mI m 38 q))), (5, .int (nI t))] [] m1 := by
      intro hor
      have e1 : ∀ k, mI m1 38 k = mI m 38 k := fun k => hm.1 38 k (by omega)
      have e2 : mI m1 31 2 = nI Sg := (hm.1 31 2 (by omega)).trans hS
      refine bX0_carryByRuleS37_48 hW1 c (vp_in_nI hq (by decide)) ht6 ?_ ?_
      · rw [eq, e1, e2, hp]
        exact ⟨nI_pos (by omega), nI_ge hps (by omega), nI_ge (a := p) (b := 8) (by omega) (by decide)⟩
      · have e3 : mI m1 r 2 = nI n := (hm.1 r 2 (by omega)).trans hn
        refine s_sum (n := n) hW1 c sh513 (by rw [mI_uRow, if_neg (by omega)]; exact e3) h4 (fun m2 hm2 => ?_)
        have hmid : Same (fun a k => a = 40 ∨ a = 513 ∨ (a = r ∧ k = 3)) m m2 := (hm.tr ((Same.rf (m := m1)).uRow (fun k => Or.inr (Or.inl rfl)))).tr (hm2.mo (fun a k z => Or.inr (Or.inr z)))
        have e0 : mI m2 40 = mI m1 40 := funext fun k => (hm2.1 40 k (fun z => by have := z.1; omega)).trans (by rw [mI_uRow, if_neg (by omega)])
        have hval : runC (mI (uRow m1 513 12 (wds (mI m1 34) (mI m1 35) (mI m1 32) (mI m1 33) (mI m1 31 2) (mI m1 37 0) (mI m1 38) (mI m1 40) 6 (nI q).toNatClampNeg (nI t).toNatClampNeg)) (r + 1)) (mI (uRow m1 513 12 (wds (mI m1 34) (mI m1 35) (mI m1 32) (mI m1 33) (mI m1 31 2) (mI m1 37 0) (mI m1 38) (mI m1 40) 6 (nI q).toNatClampNeg (nI t).toNatClampNeg)) 513) n 0 [] = runC (mI m (r + 1)) (wds (mI m 34) (mI m 35) (mI m 32) (mI m 33) (mI m 31 2) (mI m 37 0) (mI m 38) (mI m1 40) 6 q t) n 0 [] := by
          have g1 : mI (uRow m1 513 12 (wds (mI m1 34) (mI m1 35) (mI m1 32) (mI m1 33) (mI m1 31 2) (mI m1 37 0) (mI m1 38) (mI m1 40) 6 (nI q).toNatClampNeg (nI t).toNatClampNeg)) (r + 1) = mI m (r + 1) := funext fun k => by rw [mI_uRow, if_neg (by omega)]; exact hm.1 _ _ (by omega)
          have g34 : mI m1 34 = mI m 34 := funext fun k => hm.1 34 k (by omega)
          have g35 : mI m1 35 = mI m 35 := funext fun k => hm.1 35 k (by omega)
          have g32 : mI m1 32 = mI m 32 := funext fun k => hm.1 32 k (by omega)
          have g33 : mI m1 33 = mI m 33 := funext fun k => hm.1 33 k (by omega)
          have g1' : mI m1 38 = mI m 38 := funext e1
          rw [g1, eq, et, g34, g35, g32, g33, g1', hm.1 31 2 (by omega), hm.1 37 0 (by omega)]
          refine runC_congr (fun j hj => ?_) _ _ _
          rw [mI_uRow, if_pos ⟨rfl, hj⟩]
        rw [hval]
        have hev2 : ev (mI m1 40) t = decide (0 < runC (mI m (r + 1)) (wds (mI m 34) (mI m 35) (mI m 32) (mI m 33) (mI m 31 2) (mI m 37 0) (mI m 38) (mI m1 40) 6 q t) n 0 []) := by rw [← hev]; rfl
        generalize runC (mI m (r + 1)) (wds (mI m 34) (mI m 35) (mI m 32) (mI m 33) (mI m 31 2) (mI m 37 0) (mI m 38) (mI m1 40) 6 q t) n 0 [] = y at *
        have hW2 := hW.sm hmid.2
        have eH : mI m2 31 1 = mI m 31 1 := hmid.1 31 1 (by omega)
        refine bX0_carryByRuleS37_64 hW2 c (fun z1 z2 => ?_) (fun _ _ => ht6) (fun z1 z2 => ?_) (fun _ => ht6) (fun z1 => ?_)
        · refine next m2 hmid ?_
          have hy : 0 < y := (lg_cmp_gt _ _).mp z1
          rw [e0, eH] at z2
          unfold pk
          rw [← h1, if_pos hor, hev2, if_pos (decide_eq_true hy), if_neg (Int32.not_lt.mpr z2), e0]
        · have hy : 0 < y := (lg_cmp_gt _ _).mp z1
          rw [e0, eH] at z2
          rw [et]
          refine next _ (hmid.uI (Or.inl rfl)) ?_
          unfold pk
          rw [← h1, if_pos hor, hev2, if_pos (decide_eq_true hy), if_pos (Int32.not_le.mp z2)]
          funext k
          rw [mI_uI, e0]
          simp [upd]
        · have hy : ¬ 0 < y := fun w => z1 ((lg_cmp_gt _ _).mpr w)
          rw [et]
          refine next _ (hmid.uI (Or.inl rfl)) ?_
          unfold pk
          rw [← h1, if_pos hor, hev2, if_neg (by rw [decide_eq_true_eq]; exact hy)]
          funext k
          rw [mI_uI, e0]
          simp [upd]
    refine bX0_carryByRuleS37_14 hW1 c (fun z => absurd z hlt) (fun _ => ht6) (fun _ z => ?_) (fun _ z1 z2 => ?_) (fun _ z1 z2 => ?_)
    · rw [et] at z
      exact body (Or.inl z)
    · rw [et] at z1 z2
      refine next m1 hm ?_
      unfold pk
      rw [← h1, if_neg (fun w => w.elim z1 z2)]
    · rw [et] at z2
      exact body (Or.inr z2)
theorem s_carryS523 {r n q p Sg T : Nat} (hW : Wf m) (c : SH[r]? = some (.inl 6)) (hn : mI m r 2 = nI n) (h4 : n ≤ 400) (hq : q < 4) (hT : mI m 31 4 = nI T) (h6 : T ≤ 6) (hS : mI m 31 2 = nI Sg) (h8 : Sg ≤ 8) (hp : mI m 524 q = nI p) (hps : p < Sg)
    (h : ∀ m2, Same (fun a k => a = 526 ∨ a = 513 ∨ (a = r ∧ k = 3)) m m2 → mI m2 526 = pk (evC (mI m (r + 1)) (mI m 34) (mI m 35) (mI m 32) (mI m 33) (mI m 31 2) (mI m 523 0) n 6 (mI m 524) q) (mI m 31 1) (nI q) (10 + mI m 524 q) 6 T (mI m 526) → Q none m2) :
    Cl X 3 mX0_carryByRule [.ref 512, .ref 523, .ref r, .int (nI q)] m Q := by
  obtain ⟨r1, r2⟩ := rule_rng c
  have eq : (nI q).toNatClampNeg = q := nI_clamp (by omega)
  refine pCl_of (by decide +kernel) (Nat.le_of_ble_eq_true rfl) rfl (bX0_carryByRuleS523_0 hW c (vp_in_nI hq (by decide)) ?_)
  rw [eq]
  refine upTo (P := fun t => ∀ m1, Same (fun a k => a = 526 ∨ a = 513 ∨ (a = r ∧ k = 3)) m m1 → mI m1 526 = pk (evC (mI m (r + 1)) (mI m 34) (mI m 35) (mI m 32) (mI m 33) (mI m 31 2) (mI m 523 0) n 6 (mI m 524) q) (mI m 31 1) (nI q) (10 + mI m 524 q) 6 t (mI m 526) → Go X 3 mX0_carryByRule Q 14 [(0, .ref 512), (1, .ref 523), (2, .ref r), (3, .int (nI q)), (4, .int ((10 : Int32) + (mI m 524 q))), (5, .int (nI t))] [] m1) T ?_ ?_ 0 (Nat.zero_le _) m Same.rf rfl
  · intro m1 hm h1
    have e4 : mI m1 31 4 = nI T := (hm.1 31 4 (by omega)).trans hT
    have hz : mI m1 31 4 ≤ nI T := by rw [e4]; exact Int32.le_refl _
    exact bX0_carryByRuleS523_14 (hW.sm hm.2) c (fun _ => h m1 hm h1) (fun z => absurd hz z) (fun z => absurd hz z) (fun z => absurd hz z) (fun z => absurd hz z)
  · intro t ht ih m1 hm h1
    have hW1 := hW.sm hm.2
    have e4 : mI m1 31 4 = nI T := (hm.1 31 4 (by omega)).trans hT
    have hlt : ¬ mI m1 31 4 ≤ nI t := by rw [e4]; exact nI_ge ht (by omega)
    have et : (nI t).toNatClampNeg = t := nI_clamp (by omega)
    have ht6 : vp_in (nI t) 6 := vp_in_nI (by omega) (by decide)
    have next : ∀ m2, Same (fun a k => a = 526 ∨ a = 513 ∨ (a = r ∧ k = 3)) m m2 → mI m2 526 = pk (evC (mI m (r + 1)) (mI m 34) (mI m 35) (mI m 32) (mI m 33) (mI m 31 2) (mI m 523 0) n 6 (mI m 524) q) (mI m 31 1) (nI q) (10 + mI m 524 q) 6 (t + 1) (mI m 526) → Go X 3 mX0_carryByRule Q 14 [(0, .ref 512), (1, .ref 523), (2, .ref r), (3, .int (nI q)), (4, .int ((10 : Int32) + (mI m 524 q))), (5, .int (nI t + (1 : Int32)))] [] m2 := by
      intro m2 a b
      rw [nI_1]
      exact ih m2 a b
    generalize hev : evC (mI m (r + 1)) (mI m 34) (mI m 35) (mI m 32) (mI m 33) (mI m 31 2) (mI m 523 0) n 6 (mI m 524) q = ev at *
    have body : (mI m1 526 t = nI q ∨ mI m1 526 t = 10 + mI m 524 q) → Go X 3 mX0_carryByRule Q 48 [(0, .ref 512), (1, .ref 523), (2, .ref r), (3, .int (nI q)), (4, .int ((10 : Int32) + (mI m 524 q))), (5, .int (nI t))] [] m1 := by
      intro hor
      have e1 : ∀ k, mI m1 524 k = mI m 524 k := fun k => hm.1 524 k (by omega)
      have e2 : mI m1 31 2 = nI Sg := (hm.1 31 2 (by omega)).trans hS
      refine bX0_carryByRuleS523_48 hW1 c (vp_in_nI hq (by decide)) ht6 ?_ ?_
      · rw [eq, e1, e2, hp]
        exact ⟨nI_pos (by omega), nI_ge hps (by omega), nI_ge (a := p) (b := 8) (by omega) (by decide)⟩
      · have e3 : mI m1 r 2 = nI n := (hm.1 r 2 (by omega)).trans hn
        refine s_sum (n := n) hW1 c sh513 (by rw [mI_uRow, if_neg (by omega)]; exact e3) h4 (fun m2 hm2 => ?_)
        have hmid : Same (fun a k => a = 526 ∨ a = 513 ∨ (a = r ∧ k = 3)) m m2 := (hm.tr ((Same.rf (m := m1)).uRow (fun k => Or.inr (Or.inl rfl)))).tr (hm2.mo (fun a k z => Or.inr (Or.inr z)))
        have e0 : mI m2 526 = mI m1 526 := funext fun k => (hm2.1 526 k (fun z => by have := z.1; omega)).trans (by rw [mI_uRow, if_neg (by omega)])
        have hval : runC (mI (uRow m1 513 12 (wds (mI m1 34) (mI m1 35) (mI m1 32) (mI m1 33) (mI m1 31 2) (mI m1 523 0) (mI m1 524) (mI m1 526) 6 (nI q).toNatClampNeg (nI t).toNatClampNeg)) (r + 1)) (mI (uRow m1 513 12 (wds (mI m1 34) (mI m1 35) (mI m1 32) (mI m1 33) (mI m1 31 2) (mI m1 523 0) (mI m1 524) (mI m1 526) 6 (nI q).toNatClampNeg (nI t).toNatClampNeg)) 513) n 0 [] = runC (mI m (r + 1)) (wds (mI m 34) (mI m 35) (mI m 32) (mI m 33) (mI m 31 2) (mI m 523 0) (mI m 524) (mI m1 526) 6 q t) n 0 [] := by
          have g1 : mI (uRow m1 513 12 (wds (mI m1 34) (mI m1 35) (mI m1 32) (mI m1 33) (mI m1 31 2) (mI m1 523 0) (mI m1 524) (mI m1 526) 6 (nI q).toNatClampNeg (nI t).toNatClampNeg)) (r + 1) = mI m (r + 1) := funext fun k => by rw [mI_uRow, if_neg (by omega)]; exact hm.1 _ _ (by omega)
          have g34 : mI m1 34 = mI m 34 := funext fun k => hm.1 34 k (by omega)
          have g35 : mI m1 35 = mI m 35 := funext fun k => hm.1 35 k (by omega)
          have g32 : mI m1 32 = mI m 32 := funext fun k => hm.1 32 k (by omega)
          have g33 : mI m1 33 = mI m 33 := funext fun k => hm.1 33 k (by omega)
          have g1' : mI m1 524 = mI m 524 := funext e1
          rw [g1, eq, et, g34, g35, g32, g33, g1', hm.1 31 2 (by omega), hm.1 523 0 (by omega)]
          refine runC_congr (fun j hj => ?_) _ _ _
          rw [mI_uRow, if_pos ⟨rfl, hj⟩]
        rw [hval]
        have hev2 : ev (mI m1 526) t = decide (0 < runC (mI m (r + 1)) (wds (mI m 34) (mI m 35) (mI m 32) (mI m 33) (mI m 31 2) (mI m 523 0) (mI m 524) (mI m1 526) 6 q t) n 0 []) := by rw [← hev]; rfl
        generalize runC (mI m (r + 1)) (wds (mI m 34) (mI m 35) (mI m 32) (mI m 33) (mI m 31 2) (mI m 523 0) (mI m 524) (mI m1 526) 6 q t) n 0 [] = y at *
        have hW2 := hW.sm hmid.2
        have eH : mI m2 31 1 = mI m 31 1 := hmid.1 31 1 (by omega)
        refine bX0_carryByRuleS523_64 hW2 c (fun z1 z2 => ?_) (fun _ _ => ht6) (fun z1 z2 => ?_) (fun _ => ht6) (fun z1 => ?_)
        · refine next m2 hmid ?_
          have hy : 0 < y := (lg_cmp_gt _ _).mp z1
          rw [e0, eH] at z2
          unfold pk
          rw [← h1, if_pos hor, hev2, if_pos (decide_eq_true hy), if_neg (Int32.not_lt.mpr z2), e0]
        · have hy : 0 < y := (lg_cmp_gt _ _).mp z1
          rw [e0, eH] at z2
          rw [et]
          refine next _ (hmid.uI (Or.inl rfl)) ?_
          unfold pk
          rw [← h1, if_pos hor, hev2, if_pos (decide_eq_true hy), if_pos (Int32.not_le.mp z2)]
          funext k
          rw [mI_uI, e0]
          simp [upd]
        · have hy : ¬ 0 < y := fun w => z1 ((lg_cmp_gt _ _).mpr w)
          rw [et]
          refine next _ (hmid.uI (Or.inl rfl)) ?_
          unfold pk
          rw [← h1, if_pos hor, hev2, if_neg (by rw [decide_eq_true_eq]; exact hy)]
          funext k
          rw [mI_uI, e0]
          simp [upd]
    refine bX0_carryByRuleS523_14 hW1 c (fun z => absurd z hlt) (fun _ => ht6) (fun _ z => ?_) (fun _ z1 z2 => ?_) (fun _ z1 z2 => ?_)
    · rw [et] at z
      exact body (Or.inl z)
    · rw [et] at z1 z2
      refine next m1 hm ?_
      unfold pk
      rw [← h1, if_neg (fun w => w.elim z1 z2)]
    · rw [et] at z2
      exact body (Or.inr z2)
end S5
