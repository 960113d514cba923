section S3
variable {X : pX} {Q : Option Value → pMem → Prop} {m : pMem}
theorem s_sum {r a1 n : Nat} (hW : Wf m) (c : SH[r]? = some (.inl 6)) (c1 : SH[a1]? = some (.inr (.int, 12))) (hn : mI m r 2 = nI n) (h4 : n ≤ 400) (h : ∀ m2, Same (Etop r) m m2 → Q (some (.long (runC (mI m (r + 1)) (mI m a1) n 0 []))) m2) : Cl X 1 mX6_sum [.ref r, .ref a1] m Q := by
  have hne : a1 ≠ r := fun q => by rw [q, c] at c1; cases c1
  refine pCl_of (by decide +kernel) (Nat.le_of_ble_eq_true rfl) rfl (bX6_sum_0 hW c c1 ?_)
  have key : ∀ (rem i : Nat) (s : List Int64) (m1 : pMem), i + rem = n → Stk m1 r s → Same (Etop r) m m1 → (∀ m2, Same (Etop r) m m2 → Q (some (.long (runC (mI m (r + 1)) (mI m a1) rem i s))) m2) → Go X 1 mX6_sum Q 7 [(0, .ref r), (1, .ref a1), (2, .int (nI i))] [] m1 := by
    intro rem
    induction rem with
    | zero =>
      intro i s m1 hi hs hm hq
      have e : mI m1 r 2 = nI n := (hm.1 r 2 (fun z => by cases z.2)).trans hn
      have hz : mI m1 r 2 ≤ nI i := by rw [e]; exact nI_le (by omega) (by omega)
      exact bX6_sum_7 (hW.sm hm.2) c c1 (fun _ => hq m1 hm) (fun q => absurd hz q) (fun q => absurd hz q) (fun q => absurd hz q) (fun q => absurd hz q) (fun q => absurd hz q) (fun q => absurd hz q) (fun q => absurd hz q) (fun q => absurd hz q) (fun q => absurd hz q) (fun q => absurd hz q)
    | succ rem ih =>
      intro i s m1 hi hs hm hq
      have hW1 := hW.sm hm.2
      have e : mI m1 r 2 = nI n := (hm.1 r 2 (fun z => by cases z.2)).trans hn
      have hlt : ¬ mI m1 r 2 ≤ nI i := by rw [e]; exact nI_ge (by omega) (by omega)
      have h40 : ¬ (400 : Int32) ≤ nI i := nI_ge (a := i) (b := 400) (by omega) (by decide)
      have ec : (nI i).toNatClampNeg = i := nI_clamp (by omega)
      have est : mI m1 (r + 1) i = mI m (r + 1) i := hm.1 _ _ (fun z => by have := z.1; omega)
      have ew : ∀ k, mI m1 a1 k = mI m a1 k := fun k => hm.1 _ _ (fun z => hne z.1)
      -- what goes on with a stack
      have go : ∀ (s2 : List Int64) (m2 : pMem), Stk m2 r s2 → Same (Etop r) m1 m2 → stepC (mI m a1) (mI m (r + 1) i) s = .inr s2 → Go X 1 mX6_sum Q 7 [(0, .ref r), (1, .ref a1), (2, .int (nI i + (1 : Int32)))] [] m2 := by
        intro s2 m2 hs2 hm2 he
        rw [nI_1]
        refine ih (i + 1) s2 m2 (by omega) hs2 (hm.tr hm2) (fun m3 h3 => ?_)
        have := hq m3 h3
        simp only [runC, he] at this
        exact this
      have fin : ∀ (v : Int64) (m2 : pMem), Same (Etop r) m1 m2 → stepC (mI m a1) (mI m (r + 1) i) s = .inl v → Q (some (.long v)) m2 := by
        intro v m2 hm2 he
        have := hq m2 (hm.tr hm2)
        simp only [runC, he] at this
        exact this
      refine bX6_sum_7 hW1 c c1 (fun q => absurd q hlt) (fun _ q => absurd q h40) (fun _ _ => vp_in_nI (by omega) (by decide)) ?_ ?_ ?_ ?_ ?_ ?_ ?_ ?_
      all_goals (rw [ec, est]; intro _ _)
      · -- of two
        intro q1 q2 q3 q4 q5
        refine s_pop hW1 c hs (fun m2 hs2 hm2 => ?_)
        refine bX6_sum_159 (hW1.sm hm2.2) c c1 ?_
        refine s_pop (hW1.sm hm2.2) c hs2 (fun m3 hs3 hm3 => ?_)
        have hm3' := hm2.tr hm3
        refine bX6_sum_167 (hW1.sm hm3'.2) c c1 c ?_
        refine s_push (hW1.sm hm3'.2) c hs3 (fun m4 hs4 hm4 => ?_)
        have hm4' := hm3'.tr hm4
        refine bX6_sum_175 (hW1.sm hm4'.2) c c1 (go _ m4 hs4 hm4' ?_)
        unfold stepC
        rw [if_neg (Int32.not_le.mpr q1), if_neg (Int32.not_lt.mpr q2), if_neg q3, if_neg q4, if_neg q5]
      · intro q1 q2 q3 q4 q5
        refine s_pop hW1 c hs (fun m2 hs2 hm2 => ?_)
        have est2 : stepC (mI m a1) (mI m (r + 1) i) s = .inr (pushS (if s.headD 0 = 0 then 1 else 0) s.tail) := by
          unfold stepC
          rw [if_neg (Int32.not_le.mpr q1), if_neg (Int32.not_lt.mpr q2), if_neg q3, if_neg q4, if_pos q5]
        refine bX6_sum_139 (hW1.sm hm2.2) c c1 c (fun z => ?_) (fun z => ?_)
        · refine s_push (hW1.sm hm2.2) c hs2 (fun m4 hs4 hm4 => ?_)
          have hm4' := hm2.tr hm4
          refine bX6_sum_152 (hW1.sm hm4'.2) c c1 (go _ m4 hs4 hm4' ?_)
          rw [est2, if_neg (fun w => z ((lg_cmp_eq _ _).mpr w))]
        · refine s_push (hW1.sm hm2.2) c hs2 (fun m4 hs4 hm4 => ?_)
          have hm4' := hm2.tr hm4
          refine bX6_sum_152 (hW1.sm hm4'.2) c c1 (go _ m4 hs4 hm4' ?_)
          rw [est2, if_pos ((lg_cmp_eq _ _).mp z)]
      · intro q1 q2 q3 q4
        refine s_pop hW1 c hs (fun m2 hs2 hm2 => ?_)
        have est2 : stepC (mI m a1) (mI m (r + 1) i) s = if s.headD 0 ≠ 0 then .inl (s.tail.headD 0) else .inr s.tail.tail := by
          unfold stepC
          rw [if_neg (Int32.not_le.mpr q1), if_neg (Int32.not_lt.mpr q2), if_neg q3, if_pos q4]
        refine bX6_sum_99 (hW1.sm hm2.2) c c1 (fun z => ?_) (fun z => ?_)
        · refine s_pop (hW1.sm hm2.2) c hs2 (fun m3 hs3 hm3 => ?_)
          have hm3' := hm2.tr hm3
          refine bX6_sum_115 (hW1.sm hm3'.2) c c1 (fun _ => ?_) (fun w => absurd rfl w)
          exact go _ m3 hs3 hm3' (by rw [est2, if_neg (fun w => w ((lg_cmp_eq _ _).mp z))])
        · refine s_pop (hW1.sm hm2.2) c hs2 (fun m3 hs3 hm3 => ?_)
          have hm3' := hm2.tr hm3
          refine bX6_sum_115 (hW1.sm hm3'.2) c c1 (fun w => absurd w (by decide)) (fun _ => ?_)
          exact fin _ m3 hm3' (by rw [est2, if_pos (fun w => z ((lg_cmp_eq _ _).mpr w))])
      · intro q1 q2 q3
        refine s_pop hW1 c hs (fun m2 hs2 hm2 => ?_)
        refine bX6_sum_88 (hW1.sm hm2.2) c c1 (fin _ m2 hm2 ?_)
        unfold stepC
        rw [if_neg (Int32.not_le.mpr q1), if_neg (Int32.not_lt.mpr q2), if_pos q3]
      · intro q1 q2 q3
        exfalso
        have a1 := (fa_lt _ _).mp q1
        have a2 := (fa_lt _ _).mp (Int32.not_le.mp q2)
        have a3 := (fa_le _ _).mp q3
        rw [fb_subI (by rw [show ((-1 : Int32)).toInt = -1 from rfl]; have : ((0 : Int32)).toInt = 0 := rfl; omega) (by rw [show ((-1 : Int32)).toInt = -1 from rfl]; have : ((-13 : Int32)).toInt = -13 := rfl; omega)] at a3
        have b1 : (Int32.ofNat 12).toInt = 12 := rfl
        have b2 : ((-1 : Int32)).toInt = -1 := rfl
        have b3 : ((-13 : Int32)).toInt = -13 := rfl
        omega
      · intro q1 q2 q3
        have a1 := (fa_lt _ _).mp q1
        have a2 := (fa_lt _ _).mp (Int32.not_le.mp q2)
        have b2 : ((-1 : Int32)).toInt = -1 := rfl
        have b3 : ((-13 : Int32)).toInt = -13 := rfl
        have b4 : ((0 : Int32)).toInt = 0 := rfl
        rw [vp_in_iff, fb_subI (by omega) (by omega)]
        omega
      · intro q1 q2 q3
        refine s_push hW1 c hs (fun m2 hs2 hm2 => ?_)
        refine bX6_sum_75 (hW1.sm hm2.2) c c1 (go _ m2 hs2 hm2 ?_)
        unfold stepC
        rw [if_neg (Int32.not_le.mpr q1), if_pos (Int32.not_le.mp q2), ew]
      · intro q1
        refine s_push hW1 c hs (fun m2 hs2 hm2 => ?_)
        refine bX6_sum_41 (hW1.sm hm2.2) c c1 (go _ m2 hs2 hm2 ?_)
        unfold stepC
        rw [if_pos (Int32.not_lt.mp q1)]
  refine key n 0 [] _ (by omega) ⟨by decide, by rw [mI_uI, if_pos ⟨rfl, rfl⟩]; rfl, fun j hj => absurd hj (Nat.not_lt_zero j)⟩ (Same.rf.uI ⟨rfl, rfl⟩) h
end S3
