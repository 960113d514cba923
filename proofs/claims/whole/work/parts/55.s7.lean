section S7
variable {X : pX} {Q : Option Value → pMem → Prop} {m : pMem}
theorem s_oneDayNS37 { P Sg T : Nat} (hW : Wf m) (hP : mI m 31 3 = nI P) (hP4 : P ≤ 4) (hS : mI m 31 2 = nI Sg) (h8 : Sg ≤ 8) (hT : mI m 31 4 = nI T) (h6 : T ≤ 6) (hpl : plOk (mI m 38) P Sg)
    (h : ∀ m2, Same (fun a k => a = 37 ∨ a = 38 ∨ a = 39 ∨ a = 40 ∨ a = 513) m m2 → mI m2 37 0 = mI m 37 0 + 1 → mI m2 38 = ((dayL false (fun _ _ _ _ => false) (mI m 32) (mI m 33) (mI m 34) (mI m 31 1) (mI m 31 2) 6 T (0, mI m 38, mI m 39, mI m 40)) P).2.1 → mI m2 39 = ((dayL false (fun _ _ _ _ => false) (mI m 32) (mI m 33) (mI m 34) (mI m 31 1) (mI m 31 2) 6 T (0, mI m 38, mI m 39, mI m 40)) P).2.2.1 → mI m2 40 = ((dayL false (fun _ _ _ _ => false) (mI m 32) (mI m 33) (mI m 34) (mI m 31 1) (mI m 31 2) 6 T (0, mI m 38, mI m 39, mI m 40)) P).2.2.2 → Q (some (.int ((dayL false (fun _ _ _ _ => false) (mI m 32) (mI m 33) (mI m 34) (mI m 31 1) (mI m 31 2) 6 T (0, mI m 38, mI m 39, mI m 40)) P).1)) m2) :
    Cl X 4 mX0_oneDay [.ref 512, .ref 37, .null] m Q := by
  refine pCl_of (by decide +kernel) (Nat.le_of_ble_eq_true rfl) rfl (bX0_oneDayNS37_0 hW ?_)
  refine upTo (P := fun q => ∀ m1, Same (fun a k => a = 37 ∨ a = 38 ∨ a = 39 ∨ a = 40 ∨ a = 513) m m1 → mI m1 37 0 = mI m 37 0 → mI m1 38 = ((dayL false (fun _ _ _ _ => false) (mI m 32) (mI m 33) (mI m 34) (mI m 31 1) (mI m 31 2) 6 T (0, mI m 38, mI m 39, mI m 40)) q).2.1 → mI m1 39 = ((dayL false (fun _ _ _ _ => false) (mI m 32) (mI m 33) (mI m 34) (mI m 31 1) (mI m 31 2) 6 T (0, mI m 38, mI m 39, mI m 40)) q).2.2.1 → mI m1 40 = ((dayL false (fun _ _ _ _ => false) (mI m 32) (mI m 33) (mI m 34) (mI m 31 1) (mI m 31 2) 6 T (0, mI m 38, mI m 39, mI m 40)) q).2.2.2 → Go X 4 mX0_oneDay Q 5 [(0, .ref 512), (1, .ref 37), (2, .null), (3, .int ((dayL false (fun _ _ _ _ => false) (mI m 32) (mI m 33) (mI m 34) (mI m 31 1) (mI m 31 2) 6 T (0, mI m 38, mI m 39, mI m 40)) q).1), (4, .int (nI q))] [] m1) P ?_ ?_ 0 (Nat.zero_le _) m Same.rf rfl rfl rfl rfl
  · intro m1 hm hd h1 h2 h3
    have e3 : mI m1 31 3 = nI P := (hm.1 31 3 (by omega)).trans hP
    have hz : mI m1 31 3 ≤ nI P := by rw [e3]; exact Int32.le_refl _
    refine bX0_oneDayNS37_5 (hW.sm hm.2) (fun _ => ?_) (fun z => absurd hz z) (fun z => absurd hz z) (fun z => absurd hz z)
    refine h _ (hm.uI (Or.inl rfl)) (by rw [mI_uI, if_pos ⟨rfl, rfl⟩, hd]) ?_ ?_ ?_
    · rw [← h1]; funext k; rw [mI_uI, if_neg (by omega)]
    · rw [← h2]; funext k; rw [mI_uI, if_neg (by omega)]
    · rw [← h3]; funext k; rw [mI_uI, if_neg (by omega)]
  · intro q hqP ih m1 hm hd h1 h2 h3
    have hW1 := hW.sm hm.2
    have e3 : mI m1 31 3 = nI P := (hm.1 31 3 (by omega)).trans hP
    have e2 : mI m1 31 2 = mI m 31 2 := hm.1 31 2 (by omega)
    have eT : mI m1 31 4 = nI T := (hm.1 31 4 (by omega)).trans hT
    have hlt : ¬ mI m1 31 3 ≤ nI q := by rw [e3]; exact nI_ge hqP (by omega)
    have eq : (nI q).toNatClampNeg = q := nI_clamp (by omega)
    have hq4 : vp_in (nI q) 4 := vp_in_nI (by omega) (by decide)
    obtain ⟨p, hp, ep⟩ := hpl q hqP
    have epl : mI m1 38 q = nI p := by rw [h1, dayL_keep _ _ _ _ _ _ _ _ _ _ q q (Nat.le_refl q)]; exact ep
    have g32 : mI m1 32 = mI m 32 := funext fun k => hm.1 32 k (by omega)
    have g33 : mI m1 33 = mI m 33 := funext fun k => hm.1 33 k (by omega)
    have g34 : mI m1 34 = mI m 34 := funext fun k => hm.1 34 k (by omega)
    have g31 : mI m1 31 1 = mI m 31 1 := hm.1 31 1 (by omega)
    -- what a day is for this one
    have step : (dayL false (fun _ _ _ _ => false) (mI m 32) (mI m 33) (mI m 34) (mI m 31 1) (mI m 31 2) 6 T (0, mI m 38, mI m 39, mI m 40)) (q + 1) = (if mI m1 38 q < mI m 31 2 then
        (let wh := mI m1 40
         if mI m 32 (mI m1 38 q).toNatClampNeg + dSum (mI m 34) wh (nI q) 6 ≤ mI m1 39 q + mI m 33 q then (((dayL false (fun _ _ _ _ => false) (mI m 32) (mI m 33) (mI m 34) (mI m 31 1) (mI m 31 2) 6 T (0, mI m 38, mI m 39, mI m 40)) q).1 ||| ((1 : Int32) <<< (nI q &&& 31)), upd (mI m1 38) q (mI m1 38 q + 1), upd (mI m1 39) q 0, wh) else (((dayL false (fun _ _ _ _ => false) (mI m 32) (mI m 33) (mI m 34) (mI m 31 1) (mI m 31 2) 6 T (0, mI m 38, mI m 39, mI m 40)) q).1, mI m1 38, upd (mI m1 39) q (mI m1 39 q + mI m 33 q), wh))
        else (dayL false (fun _ _ _ _ => false) (mI m 32) (mI m 33) (mI m 34) (mI m 31 1) (mI m 31 2) 6 T (0, mI m 38, mI m 39, mI m 40)) q) := by
      rw [h1, h2, h3]
      rfl
    generalize hD : (dayL false (fun _ _ _ _ => false) (mI m 32) (mI m 33) (mI m 34) (mI m 31 1) (mI m 31 2) 6 T (0, mI m 38, mI m 39, mI m 40)) q = Dq at *
    generalize hD1 : (dayL false (fun _ _ _ _ => false) (mI m 32) (mI m 33) (mI m 34) (mI m 31 1) (mI m 31 2) 6 T (0, mI m 38, mI m 39, mI m 40)) (q + 1) = Dn at *
    by_cases hin : mI m 31 2 ≤ mI m1 38 q
    · rw [if_neg (Int32.not_lt.mpr hin)] at step
      have nx : Go X 4 mX0_oneDay Q 5 [(0, .ref 512), (1, .ref 37), (2, .null), (3, .int Dq.1), (4, .int (nI q + (1 : Int32)))] [] m1 := by
        rw [nI_1]
        rw [step] at ih
        exact ih m1 hm hd h1 h2 h3
      have hz : mI m1 31 2 ≤ mI m1 38 (nI q).toNatClampNeg := by rw [eq, e2]; exact hin
      exact bX0_oneDayNS37_5 hW1 (fun z => absurd z hlt) (fun _ => hq4) (fun _ _ => nx) (fun _ z => absurd hz z)
    · rw [if_pos (Int32.not_le.mp hin)] at step
      have hps : p < Sg := by
        rw [hS, epl] at hin
        exact Nat.not_le.mp fun z => hin (nI_le z (by omega))
      have epn : (mI m1 38 q).toNatClampNeg = p := by rw [epl]; exact nI_clamp (by omega)
      rw [epn] at step
      -- the walk, with the things as they are then
      have wk : ∀ m2, Same (fun a k => a = 37 ∨ a = 38 ∨ a = 39 ∨ a = 40 ∨ a = 513) m m2 → mI m2 37 0 = mI m 37 0 → mI m2 38 = mI m1 38 → mI m2 39 = mI m1 39 → mI m2 40 = mI m1 40 → Cl X 2 mX0_walk [.ref 512, .ref 37, .int (nI q)] m2 (fun v m2 => Go X 4 mX0_oneDay Q 63 [(0, .ref 512), (1, .ref 37), (2, .null), (3, .int Dq.1), (4, .int (nI q))] (v.toList ++ []) m2) := by
        intro m2 hm2 hd2 a1 a2 a3
        generalize mI m1 40 = wh at *
        have hW2 := hW.sm hm2.2
        have f32 : mI m2 32 = mI m 32 := funext fun k => hm2.1 32 k (by omega)
        have f33 : mI m2 33 = mI m 33 := funext fun k => hm2.1 33 k (by omega)
        have f34 : mI m2 34 = mI m 34 := funext fun k => hm2.1 34 k (by omega)
        refine s_walkS37 hW2 (by omega) ((hm2.1 31 2 (by omega)).trans hS) h8 (by rw [a1]; exact epl) hps (fun z => ?_) (fun z => ?_)
        · rw [f32, f33, f34, a2, a3] at z
          rw [if_pos z] at step
          refine bX0_oneDayNS37_63 (hW2.sm (fun _ _ => rfl)) (fun w => absurd w (by decide)) (fun _ => ?_)
          rw [nI_1]
          rw [step] at ih
          refine ih _ ((hm2.uI (Or.inr (Or.inl rfl))).uI (Or.inr (Or.inr (Or.inl rfl)))) ?_ ?_ ?_ ?_
          · rw [mI_uI, if_neg (by omega), mI_uI, if_neg (by omega)]; exact hd2
          · funext k; rw [mI_uI, if_neg (by omega), mI_uI, a1]; simp [upd]
          · funext k; rw [mI_uI, mI_uI, a2]; simp [upd]
          · funext k; rw [mI_uI, if_neg (by omega), mI_uI, if_neg (by omega), a3]
        · rw [f32, f33, f34, a2, a3] at z
          rw [if_neg z] at step
          refine bX0_oneDayNS37_63 (hW2.sm (fun _ _ => rfl)) (fun _ => ?_) (fun w => absurd rfl w)
          rw [nI_1]
          rw [step] at ih
          refine ih _ (hm2.uI (Or.inr (Or.inr (Or.inl rfl)))) ?_ ?_ ?_ ?_
          · rw [mI_uI, if_neg (by omega)]; exact hd2
          · funext k; rw [mI_uI, if_neg (by omega), a1]
          · funext k; rw [mI_uI, a2, f33]; simp [upd]
          · funext k; rw [mI_uI, if_neg (by omega), a3]
      have hz : ¬ mI m1 31 2 ≤ mI m1 38 (nI q).toNatClampNeg := by rw [eq, e2]; exact hin
      refine bX0_oneDayNS37_5 hW1 (fun z => absurd z hlt) (fun _ => hq4) (fun _ z => absurd z hz) (fun _ _ => ?_)
      exact wk m1 hm hd rfl rfl rfl
theorem s_oneDayS37 {r n P Sg T : Nat} (hW : Wf m) (c : SH[r]? = some (.inl 6)) (hn : mI m r 2 = nI n) (h4 : n ≤ 400) (hP : mI m 31 3 = nI P) (hP4 : P ≤ 4) (hS : mI m 31 2 = nI Sg) (h8 : Sg ≤ 8) (hT : mI m 31 4 = nI T) (h6 : T ≤ 6) (hpl : plOk (mI m 38) P Sg)
    (h : ∀ m2, Same (fun a k => a = 37 ∨ a = 38 ∨ a = 39 ∨ a = 40 ∨ a = 513 ∨ (a = r ∧ k = 3)) m m2 → mI m2 37 0 = mI m 37 0 + 1 → mI m2 38 = ((dayL true (evC (mI m (r + 1)) (mI m 34) (mI m 35) (mI m 32) (mI m 33) (mI m 31 2) (mI m 37 0) n 6) (mI m 32) (mI m 33) (mI m 34) (mI m 31 1) (mI m 31 2) 6 T (0, mI m 38, mI m 39, mI m 40)) P).2.1 → mI m2 39 = ((dayL true (evC (mI m (r + 1)) (mI m 34) (mI m 35) (mI m 32) (mI m 33) (mI m 31 2) (mI m 37 0) n 6) (mI m 32) (mI m 33) (mI m 34) (mI m 31 1) (mI m 31 2) 6 T (0, mI m 38, mI m 39, mI m 40)) P).2.2.1 → mI m2 40 = ((dayL true (evC (mI m (r + 1)) (mI m 34) (mI m 35) (mI m 32) (mI m 33) (mI m 31 2) (mI m 37 0) n 6) (mI m 32) (mI m 33) (mI m 34) (mI m 31 1) (mI m 31 2) 6 T (0, mI m 38, mI m 39, mI m 40)) P).2.2.2 → Q (some (.int ((dayL true (evC (mI m (r + 1)) (mI m 34) (mI m 35) (mI m 32) (mI m 33) (mI m 31 2) (mI m 37 0) n 6) (mI m 32) (mI m 33) (mI m 34) (mI m 31 1) (mI m 31 2) 6 T (0, mI m 38, mI m 39, mI m 40)) P).1)) m2) :
    Cl X 4 mX0_oneDay [.ref 512, .ref 37, .ref r] m Q := by
  obtain ⟨r1, r2⟩ := rule_rng c
  refine pCl_of (by decide +kernel) (Nat.le_of_ble_eq_true rfl) rfl (bX0_oneDayS37_0 hW c ?_)
  refine upTo (P := fun q => ∀ m1, Same (fun a k => a = 37 ∨ a = 38 ∨ a = 39 ∨ a = 40 ∨ a = 513 ∨ (a = r ∧ k = 3)) m m1 → mI m1 37 0 = mI m 37 0 → mI m1 38 = ((dayL true (evC (mI m (r + 1)) (mI m 34) (mI m 35) (mI m 32) (mI m 33) (mI m 31 2) (mI m 37 0) n 6) (mI m 32) (mI m 33) (mI m 34) (mI m 31 1) (mI m 31 2) 6 T (0, mI m 38, mI m 39, mI m 40)) q).2.1 → mI m1 39 = ((dayL true (evC (mI m (r + 1)) (mI m 34) (mI m 35) (mI m 32) (mI m 33) (mI m 31 2) (mI m 37 0) n 6) (mI m 32) (mI m 33) (mI m 34) (mI m 31 1) (mI m 31 2) 6 T (0, mI m 38, mI m 39, mI m 40)) q).2.2.1 → mI m1 40 = ((dayL true (evC (mI m (r + 1)) (mI m 34) (mI m 35) (mI m 32) (mI m 33) (mI m 31 2) (mI m 37 0) n 6) (mI m 32) (mI m 33) (mI m 34) (mI m 31 1) (mI m 31 2) 6 T (0, mI m 38, mI m 39, mI m 40)) q).2.2.2 → Go X 4 mX0_oneDay Q 5 [(0, .ref 512), (1, .ref 37), (2, .ref r), (3, .int ((dayL true (evC (mI m (r + 1)) (mI m 34) (mI m 35) (mI m 32) (mI m 33) (mI m 31 2) (mI m 37 0) n 6) (mI m 32) (mI m 33) (mI m 34) (mI m 31 1) (mI m 31 2) 6 T (0, mI m 38, mI m 39, mI m 40)) q).1), (4, .int (nI q))] [] m1) P ?_ ?_ 0 (Nat.zero_le _) m Same.rf rfl rfl rfl rfl
  · intro m1 hm hd h1 h2 h3
    have e3 : mI m1 31 3 = nI P := (hm.1 31 3 (by omega)).trans hP
    have hz : mI m1 31 3 ≤ nI P := by rw [e3]; exact Int32.le_refl _
    refine bX0_oneDayS37_5 (hW.sm hm.2) c (fun _ => ?_) (fun z => absurd hz z) (fun z => absurd hz z) (fun z => absurd hz z) (fun z => absurd hz z) (fun z => absurd hz z)
    refine h _ (hm.uI (Or.inl rfl)) (by rw [mI_uI, if_pos ⟨rfl, rfl⟩, hd]) ?_ ?_ ?_
    · rw [← h1]; funext k; rw [mI_uI, if_neg (by omega)]
    · rw [← h2]; funext k; rw [mI_uI, if_neg (by omega)]
    · rw [← h3]; funext k; rw [mI_uI, if_neg (by omega)]
  · intro q hqP ih m1 hm hd h1 h2 h3
    have hW1 := hW.sm hm.2
    have e3 : mI m1 31 3 = nI P := (hm.1 31 3 (by omega)).trans hP
    have e2 : mI m1 31 2 = mI m 31 2 := hm.1 31 2 (by omega)
    have eT : mI m1 31 4 = nI T := (hm.1 31 4 (by omega)).trans hT
    have hlt : ¬ mI m1 31 3 ≤ nI q := by rw [e3]; exact nI_ge hqP (by omega)
    have eq : (nI q).toNatClampNeg = q := nI_clamp (by omega)
    have hq4 : vp_in (nI q) 4 := vp_in_nI (by omega) (by decide)
    obtain ⟨p, hp, ep⟩ := hpl q hqP
    have epl : mI m1 38 q = nI p := by rw [h1, dayL_keep _ _ _ _ _ _ _ _ _ _ q q (Nat.le_refl q)]; exact ep
    have g32 : mI m1 32 = mI m 32 := funext fun k => hm.1 32 k (by omega)
    have g33 : mI m1 33 = mI m 33 := funext fun k => hm.1 33 k (by omega)
    have g34 : mI m1 34 = mI m 34 := funext fun k => hm.1 34 k (by omega)
    have g31 : mI m1 31 1 = mI m 31 1 := hm.1 31 1 (by omega)
    -- what a day is for this one
    have step : (dayL true (evC (mI m (r + 1)) (mI m 34) (mI m 35) (mI m 32) (mI m 33) (mI m 31 2) (mI m 37 0) n 6) (mI m 32) (mI m 33) (mI m 34) (mI m 31 1) (mI m 31 2) 6 T (0, mI m 38, mI m 39, mI m 40)) (q + 1) = (if mI m1 38 q < mI m 31 2 then
        (let wh := (if true = true ∧ mI m1 39 q = 0 then pk (evC (mI m (r + 1)) (mI m 34) (mI m 35) (mI m 32) (mI m 33) (mI m 31 2) (mI m 37 0) n 6 (mI m1 38) q) (mI m 31 1) (nI q) (10 + mI m1 38 q) 6 T (mI m1 40) else mI m1 40)
         if mI m 32 (mI m1 38 q).toNatClampNeg + dSum (mI m 34) wh (nI q) 6 ≤ mI m1 39 q + mI m 33 q then (((dayL true (evC (mI m (r + 1)) (mI m 34) (mI m 35) (mI m 32) (mI m 33) (mI m 31 2) (mI m 37 0) n 6) (mI m 32) (mI m 33) (mI m 34) (mI m 31 1) (mI m 31 2) 6 T (0, mI m 38, mI m 39, mI m 40)) q).1 ||| ((1 : Int32) <<< (nI q &&& 31)), upd (mI m1 38) q (mI m1 38 q + 1), upd (mI m1 39) q 0, wh) else (((dayL true (evC (mI m (r + 1)) (mI m 34) (mI m 35) (mI m 32) (mI m 33) (mI m 31 2) (mI m 37 0) n 6) (mI m 32) (mI m 33) (mI m 34) (mI m 31 1) (mI m 31 2) 6 T (0, mI m 38, mI m 39, mI m 40)) q).1, mI m1 38, upd (mI m1 39) q (mI m1 39 q + mI m 33 q), wh))
        else (dayL true (evC (mI m (r + 1)) (mI m 34) (mI m 35) (mI m 32) (mI m 33) (mI m 31 2) (mI m 37 0) n 6) (mI m 32) (mI m 33) (mI m 34) (mI m 31 1) (mI m 31 2) 6 T (0, mI m 38, mI m 39, mI m 40)) q) := by
      rw [h1, h2, h3]
      rfl
    generalize hD : (dayL true (evC (mI m (r + 1)) (mI m 34) (mI m 35) (mI m 32) (mI m 33) (mI m 31 2) (mI m 37 0) n 6) (mI m 32) (mI m 33) (mI m 34) (mI m 31 1) (mI m 31 2) 6 T (0, mI m 38, mI m 39, mI m 40)) q = Dq at *
    generalize hD1 : (dayL true (evC (mI m (r + 1)) (mI m 34) (mI m 35) (mI m 32) (mI m 33) (mI m 31 2) (mI m 37 0) n 6) (mI m 32) (mI m 33) (mI m 34) (mI m 31 1) (mI m 31 2) 6 T (0, mI m 38, mI m 39, mI m 40)) (q + 1) = Dn at *
    by_cases hin : mI m 31 2 ≤ mI m1 38 q
    · rw [if_neg (Int32.not_lt.mpr hin)] at step
      have nx : Go X 4 mX0_oneDay Q 5 [(0, .ref 512), (1, .ref 37), (2, .ref r), (3, .int Dq.1), (4, .int (nI q + (1 : Int32)))] [] m1 := by
        rw [nI_1]
        rw [step] at ih
        exact ih m1 hm hd h1 h2 h3
      have hz : mI m1 31 2 ≤ mI m1 38 (nI q).toNatClampNeg := by rw [eq, e2]; exact hin
      exact bX0_oneDayS37_5 hW1 c (fun z => absurd z hlt) (fun _ => hq4) (fun _ _ => nx) (fun _ z => absurd hz z) (fun _ z => absurd hz z) (fun _ z => absurd hz z)
    · rw [if_pos (Int32.not_le.mp hin)] at step
      have hps : p < Sg := by
        rw [hS, epl] at hin
        exact Nat.not_le.mp fun z => hin (nI_le z (by omega))
      have epn : (mI m1 38 q).toNatClampNeg = p := by rw [epl]; exact nI_clamp (by omega)
      rw [epn] at step
      -- the walk, with the things as they are then
      have wk : ∀ m2, Same (fun a k => a = 37 ∨ a = 38 ∨ a = 39 ∨ a = 40 ∨ a = 513 ∨ (a = r ∧ k = 3)) m m2 → mI m2 37 0 = mI m 37 0 → mI m2 38 = mI m1 38 → mI m2 39 = mI m1 39 → mI m2 40 = (if true = true ∧ mI m1 39 q = 0 then pk (evC (mI m (r + 1)) (mI m 34) (mI m 35) (mI m 32) (mI m 33) (mI m 31 2) (mI m 37 0) n 6 (mI m1 38) q) (mI m 31 1) (nI q) (10 + mI m1 38 q) 6 T (mI m1 40) else mI m1 40) → Cl X 2 mX0_walk [.ref 512, .ref 37, .int (nI q)] m2 (fun v m2 => Go X 4 mX0_oneDay Q 63 [(0, .ref 512), (1, .ref 37), (2, .ref r), (3, .int Dq.1), (4, .int (nI q))] (v.toList ++ []) m2) := by
        intro m2 hm2 hd2 a1 a2 a3
        generalize (if true = true ∧ mI m1 39 q = 0 then pk (evC (mI m (r + 1)) (mI m 34) (mI m 35) (mI m 32) (mI m 33) (mI m 31 2) (mI m 37 0) n 6 (mI m1 38) q) (mI m 31 1) (nI q) (10 + mI m1 38 q) 6 T (mI m1 40) else mI m1 40) = wh at *
        have hW2 := hW.sm hm2.2
        have f32 : mI m2 32 = mI m 32 := funext fun k => hm2.1 32 k (by omega)
        have f33 : mI m2 33 = mI m 33 := funext fun k => hm2.1 33 k (by omega)
        have f34 : mI m2 34 = mI m 34 := funext fun k => hm2.1 34 k (by omega)
        refine s_walkS37 hW2 (by omega) ((hm2.1 31 2 (by omega)).trans hS) h8 (by rw [a1]; exact epl) hps (fun z => ?_) (fun z => ?_)
        · rw [f32, f33, f34, a2, a3] at z
          rw [if_pos z] at step
          refine bX0_oneDayS37_63 (hW2.sm (fun _ _ => rfl)) c (fun w => absurd w (by decide)) (fun _ => ?_)
          rw [nI_1]
          rw [step] at ih
          refine ih _ ((hm2.uI (Or.inr (Or.inl rfl))).uI (Or.inr (Or.inr (Or.inl rfl)))) ?_ ?_ ?_ ?_
          · rw [mI_uI, if_neg (by omega), mI_uI, if_neg (by omega)]; exact hd2
          · funext k; rw [mI_uI, if_neg (by omega), mI_uI, a1]; simp [upd]
          · funext k; rw [mI_uI, mI_uI, a2]; simp [upd]
          · funext k; rw [mI_uI, if_neg (by omega), mI_uI, if_neg (by omega), a3]
        · rw [f32, f33, f34, a2, a3] at z
          rw [if_neg z] at step
          refine bX0_oneDayS37_63 (hW2.sm (fun _ _ => rfl)) c (fun _ => ?_) (fun w => absurd rfl w)
          rw [nI_1]
          rw [step] at ih
          refine ih _ (hm2.uI (Or.inr (Or.inr (Or.inl rfl)))) ?_ ?_ ?_ ?_
          · rw [mI_uI, if_neg (by omega)]; exact hd2
          · funext k; rw [mI_uI, if_neg (by omega), a1]
          · funext k; rw [mI_uI, a2, f33]; simp [upd]
          · funext k; rw [mI_uI, if_neg (by omega), a3]
      have hz : ¬ mI m1 31 2 ≤ mI m1 38 (nI q).toNatClampNeg := by rw [eq, e2]; exact hin
      refine bX0_oneDayS37_5 hW1 c (fun z => absurd z hlt) (fun _ => hq4) (fun _ z => absurd z hz) (fun _ _ => hq4) (fun _ _ z => ?_) (fun _ _ z => ?_)
      · rw [eq] at z
        exact wk m1 hm hd rfl rfl (by rw [if_neg (fun w => z w.2)])
      · rw [eq] at z
        have gr : mI m1 (r + 1) = mI m (r + 1) := funext fun k => hm.1 _ _ (by omega)
        have g35 : mI m1 35 = mI m 35 := funext fun k => hm.1 35 k (by omega)
        refine s_carryS37 (n := n) (p := p) (Sg := Sg) (T := T) hW1 c ((hm.1 r 2 (by omega)).trans hn) h4 (by omega) eT h6 (e2.trans hS) h8 epl hps (fun m2 hm2 a3 => ?_)
        have hm2' : Same (fun a k => a = 37 ∨ a = 38 ∨ a = 39 ∨ a = 40 ∨ a = 513 ∨ (a = r ∧ k = 3)) m m2 := hm.tr (hm2.mo (fun a k w => w.elim (fun w => Or.inr (Or.inr (Or.inr (Or.inl w)))) (fun w => w.elim (fun w => Or.inr (Or.inr (Or.inr (Or.inr (Or.inl w))))) (fun w => Or.inr (Or.inr (Or.inr (Or.inr (Or.inr w))))))))
        refine bX0_oneDayS37_56 (hW.sm hm2'.2) c ?_
        refine wk m2 hm2' ((hm2.1 37 0 (by omega)).trans hd) (funext fun k => hm2.1 38 k (by omega)) (funext fun k => hm2.1 39 k (by omega)) ?_
        rw [a3, if_pos ⟨rfl, z⟩, gr, g34, g35, g32, g33, g31, hd, e2]
theorem s_oneDayNS523 { P Sg T : Nat} (hW : Wf m) (hP : mI m 31 3 = nI P) (hP4 : P ≤ 4) (hS : mI m 31 2 = nI Sg) (h8 : Sg ≤ 8) (hT : mI m 31 4 = nI T) (h6 : T ≤ 6) (hpl : plOk (mI m 524) P Sg)
    (h : ∀ m2, Same (fun a k => a = 523 ∨ a = 524 ∨ a = 525 ∨ a = 526 ∨ a = 513) m m2 → mI m2 523 0 = mI m 523 0 + 1 → mI m2 524 = ((dayL false (fun _ _ _ _ => false) (mI m 32) (mI m 33) (mI m 34) (mI m 31 1) (mI m 31 2) 6 T (0, mI m 524, mI m 525, mI m 526)) P).2.1 → mI m2 525 = ((dayL false (fun _ _ _ _ => false) (mI m 32) (mI m 33) (mI m 34) (mI m 31 1) (mI m 31 2) 6 T (0, mI m 524, mI m 525, mI m 526)) P).2.2.1 → mI m2 526 = ((dayL false (fun _ _ _ _ => false) (mI m 32) (mI m 33) (mI m 34) (mI m 31 1) (mI m 31 2) 6 T (0, mI m 524, mI m 525, mI m 526)) P).2.2.2 → Q (some (.int ((dayL false (fun _ _ _ _ => false) (mI m 32) (mI m 33) (mI m 34) (mI m 31 1) (mI m 31 2) 6 T (0, mI m 524, mI m 525, mI m 526)) P).1)) m2) :
    Cl X 4 mX0_oneDay [.ref 512, .ref 523, .null] m Q := by
  refine pCl_of (by decide +kernel) (Nat.le_of_ble_eq_true rfl) rfl (bX0_oneDayNS523_0 hW ?_)
  refine upTo (P := fun q => ∀ m1, Same (fun a k => a = 523 ∨ a = 524 ∨ a = 525 ∨ a = 526 ∨ a = 513) m m1 → mI m1 523 0 = mI m 523 0 → mI m1 524 = ((dayL false (fun _ _ _ _ => false) (mI m 32) (mI m 33) (mI m 34) (mI m 31 1) (mI m 31 2) 6 T (0, mI m 524, mI m 525, mI m 526)) q).2.1 → mI m1 525 = ((dayL false (fun _ _ _ _ => false) (mI m 32) (mI m 33) (mI m 34) (mI m 31 1) (mI m 31 2) 6 T (0, mI m 524, mI m 525, mI m 526)) q).2.2.1 → mI m1 526 = ((dayL false (fun _ _ _ _ => false) (mI m 32) (mI m 33) (mI m 34) (mI m 31 1) (mI m 31 2) 6 T (0, mI m 524, mI m 525, mI m 526)) q).2.2.2 → Go X 4 mX0_oneDay Q 5 [(0, .ref 512), (1, .ref 523), (2, .null), (3, .int ((dayL false (fun _ _ _ _ => false) (mI m 32) (mI m 33) (mI m 34) (mI m 31 1) (mI m 31 2) 6 T (0, mI m 524, mI m 525, mI m 526)) q).1), (4, .int (nI q))] [] m1) P ?_ ?_ 0 (Nat.zero_le _) m Same.rf rfl rfl rfl rfl
  · intro m1 hm hd h1 h2 h3
    have e3 : mI m1 31 3 = nI P := (hm.1 31 3 (by omega)).trans hP
    have hz : mI m1 31 3 ≤ nI P := by rw [e3]; exact Int32.le_refl _
    refine bX0_oneDayNS523_5 (hW.sm hm.2) (fun _ => ?_) (fun z => absurd hz z) (fun z => absurd hz z) (fun z => absurd hz z)
    refine h _ (hm.uI (Or.inl rfl)) (by rw [mI_uI, if_pos ⟨rfl, rfl⟩, hd]) ?_ ?_ ?_
    · rw [← h1]; funext k; rw [mI_uI, if_neg (by omega)]
    · rw [← h2]; funext k; rw [mI_uI, if_neg (by omega)]
    · rw [← h3]; funext k; rw [mI_uI, if_neg (by omega)]
  · intro q hqP ih m1 hm hd h1 h2 h3
    have hW1 := hW.sm hm.2
    have e3 : mI m1 31 3 = nI P := (hm.1 31 3 (by omega)).trans hP
    have e2 : mI m1 31 2 = mI m 31 2 := hm.1 31 2 (by omega)
    have eT : mI m1 31 4 = nI T := (hm.1 31 4 (by omega)).trans hT
    have hlt : ¬ mI m1 31 3 ≤ nI q := by rw [e3]; exact nI_ge hqP (by omega)
    have eq : (nI q).toNatClampNeg = q := nI_clamp (by omega)
    have hq4 : vp_in (nI q) 4 := vp_in_nI (by omega) (by decide)
    obtain ⟨p, hp, ep⟩ := hpl q hqP
    have epl : mI m1 524 q = nI p := by rw [h1, dayL_keep _ _ _ _ _ _ _ _ _ _ q q (Nat.le_refl q)]; exact ep
    have g32 : mI m1 32 = mI m 32 := funext fun k => hm.1 32 k (by omega)
    have g33 : mI m1 33 = mI m 33 := funext fun k => hm.1 33 k (by omega)
    have g34 : mI m1 34 = mI m 34 := funext fun k => hm.1 34 k (by omega)
    have g31 : mI m1 31 1 = mI m 31 1 := hm.1 31 1 (by omega)
    -- what a day is for this one
    have step : (dayL false (fun _ _ _ _ => false) (mI m 32) (mI m 33) (mI m 34) (mI m 31 1) (mI m 31 2) 6 T (0, mI m 524, mI m 525, mI m 526)) (q + 1) = (if mI m1 524 q < mI m 31 2 then
        (let wh := mI m1 526
         if mI m 32 (mI m1 524 q).toNatClampNeg + dSum (mI m 34) wh (nI q) 6 ≤ mI m1 525 q + mI m 33 q then (((dayL false (fun _ _ _ _ => false) (mI m 32) (mI m 33) (mI m 34) (mI m 31 1) (mI m 31 2) 6 T (0, mI m 524, mI m 525, mI m 526)) q).1 ||| ((1 : Int32) <<< (nI q &&& 31)), upd (mI m1 524) q (mI m1 524 q + 1), upd (mI m1 525) q 0, wh) else (((dayL false (fun _ _ _ _ => false) (mI m 32) (mI m 33) (mI m 34) (mI m 31 1) (mI m 31 2) 6 T (0, mI m 524, mI m 525, mI m 526)) q).1, mI m1 524, upd (mI m1 525) q (mI m1 525 q + mI m 33 q), wh))
        else (dayL false (fun _ _ _ _ => false) (mI m 32) (mI m 33) (mI m 34) (mI m 31 1) (mI m 31 2) 6 T (0, mI m 524, mI m 525, mI m 526)) q) := by
      rw [h1, h2, h3]
      rfl
    generalize hD : (dayL false (fun _ _ _ _ => false) (mI m 32) (mI m 33) (mI m 34) (mI m 31 1) (mI m 31 2) 6 T (0, mI m 524, mI m 525, mI m 526)) q = Dq at *
    generalize hD1 : (dayL false (fun _ _ _ _ => false) (mI m 32) (mI m 33) (mI m 34) (mI m 31 1) (mI m 31 2) 6 T (0, mI m 524, mI m 525, mI m 526)) (q + 1) = Dn at *
    by_cases hin : mI m 31 2 ≤ mI m1 524 q
    · rw [if_neg (Int32.not_lt.mpr hin)] at step
      have nx : Go X 4 mX0_oneDay Q 5 [(0, .ref 512), (1, .ref 523), (2, .null), (3, .int Dq.1), (4, .int (nI q + (1 : Int32)))] [] m1 := by
        rw [nI_1]
        rw [step] at ih
        exact ih m1 hm hd h1 h2 h3
      have hz : mI m1 31 2 ≤ mI m1 524 (nI q).toNatClampNeg := by rw [eq, e2]; exact hin
      exact bX0_oneDayNS523_5 hW1 (fun z => absurd z hlt) (fun _ => hq4) (fun _ _ => nx) (fun _ z => absurd hz z)
    · rw [if_pos (Int32.not_le.mp hin)] at step
      have hps : p < Sg := by
        rw [hS, epl] at hin
        exact Nat.not_le.mp fun z => hin (nI_le z (by omega))
      have epn : (mI m1 524 q).toNatClampNeg = p := by rw [epl]; exact nI_clamp (by omega)
      rw [epn] at step
      -- the walk, with the things as they are then
      have wk : ∀ m2, Same (fun a k => a = 523 ∨ a = 524 ∨ a = 525 ∨ a = 526 ∨ a = 513) m m2 → mI m2 523 0 = mI m 523 0 → mI m2 524 = mI m1 524 → mI m2 525 = mI m1 525 → mI m2 526 = mI m1 526 → Cl X 2 mX0_walk [.ref 512, .ref 523, .int (nI q)] m2 (fun v m2 => Go X 4 mX0_oneDay Q 63 [(0, .ref 512), (1, .ref 523), (2, .null), (3, .int Dq.1), (4, .int (nI q))] (v.toList ++ []) m2) := by
        intro m2 hm2 hd2 a1 a2 a3
        generalize mI m1 526 = wh at *
        have hW2 := hW.sm hm2.2
        have f32 : mI m2 32 = mI m 32 := funext fun k => hm2.1 32 k (by omega)
        have f33 : mI m2 33 = mI m 33 := funext fun k => hm2.1 33 k (by omega)
        have f34 : mI m2 34 = mI m 34 := funext fun k => hm2.1 34 k (by omega)
        refine s_walkS523 hW2 (by omega) ((hm2.1 31 2 (by omega)).trans hS) h8 (by rw [a1]; exact epl) hps (fun z => ?_) (fun z => ?_)
        · rw [f32, f33, f34, a2, a3] at z
          rw [if_pos z] at step
          refine bX0_oneDayNS523_63 (hW2.sm (fun _ _ => rfl)) (fun w => absurd w (by decide)) (fun _ => ?_)
          rw [nI_1]
          rw [step] at ih
          refine ih _ ((hm2.uI (Or.inr (Or.inl rfl))).uI (Or.inr (Or.inr (Or.inl rfl)))) ?_ ?_ ?_ ?_
          · rw [mI_uI, if_neg (by omega), mI_uI, if_neg (by omega)]; exact hd2
          · funext k; rw [mI_uI, if_neg (by omega), mI_uI, a1]; simp [upd]
          · funext k; rw [mI_uI, mI_uI, a2]; simp [upd]
          · funext k; rw [mI_uI, if_neg (by omega), mI_uI, if_neg (by omega), a3]
        · rw [f32, f33, f34, a2, a3] at z
          rw [if_neg z] at step
          refine bX0_oneDayNS523_63 (hW2.sm (fun _ _ => rfl)) (fun _ => ?_) (fun w => absurd rfl w)
          rw [nI_1]
          rw [step] at ih
          refine ih _ (hm2.uI (Or.inr (Or.inr (Or.inl rfl)))) ?_ ?_ ?_ ?_
          · rw [mI_uI, if_neg (by omega)]; exact hd2
          · funext k; rw [mI_uI, if_neg (by omega), a1]
          · funext k; rw [mI_uI, a2, f33]; simp [upd]
          · funext k; rw [mI_uI, if_neg (by omega), a3]
      have hz : ¬ mI m1 31 2 ≤ mI m1 524 (nI q).toNatClampNeg := by rw [eq, e2]; exact hin
      refine bX0_oneDayNS523_5 hW1 (fun z => absurd z hlt) (fun _ => hq4) (fun _ z => absurd z hz) (fun _ _ => ?_)
      exact wk m1 hm hd rfl rfl rfl
theorem s_oneDayS523 {r n P Sg T : Nat} (hW : Wf m) (c : SH[r]? = some (.inl 6)) (hn : mI m r 2 = nI n) (h4 : n ≤ 400) (hP : mI m 31 3 = nI P) (hP4 : P ≤ 4) (hS : mI m 31 2 = nI Sg) (h8 : Sg ≤ 8) (hT : mI m 31 4 = nI T) (h6 : T ≤ 6) (hpl : plOk (mI m 524) P Sg)
    (h : ∀ m2, Same (fun a k => a = 523 ∨ a = 524 ∨ a = 525 ∨ a = 526 ∨ a = 513 ∨ (a = r ∧ k = 3)) m m2 → mI m2 523 0 = mI m 523 0 + 1 → mI m2 524 = ((dayL true (evC (mI m (r + 1)) (mI m 34) (mI m 35) (mI m 32) (mI m 33) (mI m 31 2) (mI m 523 0) n 6) (mI m 32) (mI m 33) (mI m 34) (mI m 31 1) (mI m 31 2) 6 T (0, mI m 524, mI m 525, mI m 526)) P).2.1 → mI m2 525 = ((dayL true (evC (mI m (r + 1)) (mI m 34) (mI m 35) (mI m 32) (mI m 33) (mI m 31 2) (mI m 523 0) n 6) (mI m 32) (mI m 33) (mI m 34) (mI m 31 1) (mI m 31 2) 6 T (0, mI m 524, mI m 525, mI m 526)) P).2.2.1 → mI m2 526 = ((dayL true (evC (mI m (r + 1)) (mI m 34) (mI m 35) (mI m 32) (mI m 33) (mI m 31 2) (mI m 523 0) n 6) (mI m 32) (mI m 33) (mI m 34) (mI m 31 1) (mI m 31 2) 6 T (0, mI m 524, mI m 525, mI m 526)) P).2.2.2 → Q (some (.int ((dayL true (evC (mI m (r + 1)) (mI m 34) (mI m 35) (mI m 32) (mI m 33) (mI m 31 2) (mI m 523 0) n 6) (mI m 32) (mI m 33) (mI m 34) (mI m 31 1) (mI m 31 2) 6 T (0, mI m 524, mI m 525, mI m 526)) P).1)) m2) :
    Cl X 4 mX0_oneDay [.ref 512, .ref 523, .ref r] m Q := by
  obtain ⟨r1, r2⟩ := rule_rng c
  refine pCl_of (by decide +kernel) (Nat.le_of_ble_eq_true rfl) rfl (bX0_oneDayS523_0 hW c ?_)
  refine upTo (P := fun q => ∀ m1, Same (fun a k => a = 523 ∨ a = 524 ∨ a = 525 ∨ a = 526 ∨ a = 513 ∨ (a = r ∧ k = 3)) m m1 → mI m1 523 0 = mI m 523 0 → mI m1 524 = ((dayL true (evC (mI m (r + 1)) (mI m 34) (mI m 35) (mI m 32) (mI m 33) (mI m 31 2) (mI m 523 0) n 6) (mI m 32) (mI m 33) (mI m 34) (mI m 31 1) (mI m 31 2) 6 T (0, mI m 524, mI m 525, mI m 526)) q).2.1 → mI m1 525 = ((dayL true (evC (mI m (r + 1)) (mI m 34) (mI m 35) (mI m 32) (mI m 33) (mI m 31 2) (mI m 523 0) n 6) (mI m 32) (mI m 33) (mI m 34) (mI m 31 1) (mI m 31 2) 6 T (0, mI m 524, mI m 525, mI m 526)) q).2.2.1 → mI m1 526 = ((dayL true (evC (mI m (r + 1)) (mI m 34) (mI m 35) (mI m 32) (mI m 33) (mI m 31 2) (mI m 523 0) n 6) (mI m 32) (mI m 33) (mI m 34) (mI m 31 1) (mI m 31 2) 6 T (0, mI m 524, mI m 525, mI m 526)) q).2.2.2 → Go X 4 mX0_oneDay Q 5 [(0, .ref 512), (1, .ref 523), (2, .ref r), (3, .int ((dayL true (evC (mI m (r + 1)) (mI m 34) (mI m 35) (mI m 32) (mI m 33) (mI m 31 2) (mI m 523 0) n 6) (mI m 32) (mI m 33) (mI m 34) (mI m 31 1) (mI m 31 2) 6 T (0, mI m 524, mI m 525, mI m 526)) q).1), (4, .int (nI q))] [] m1) P ?_ ?_ 0 (Nat.zero_le _) m Same.rf rfl rfl rfl rfl
  · intro m1 hm hd h1 h2 h3
    have e3 : mI m1 31 3 = nI P := (hm.1 31 3 (by omega)).trans hP
    have hz : mI m1 31 3 ≤ nI P := by rw [e3]; exact Int32.le_refl _
    refine bX0_oneDayS523_5 (hW.sm hm.2) c (fun _ => ?_) (fun z => absurd hz z) (fun z => absurd hz z) (fun z => absurd hz z) (fun z => absurd hz z) (fun z => absurd hz z)
    refine h _ (hm.uI (Or.inl rfl)) (by rw [mI_uI, if_pos ⟨rfl, rfl⟩, hd]) ?_ ?_ ?_
    · rw [← h1]; funext k; rw [mI_uI, if_neg (by omega)]
    · rw [← h2]; funext k; rw [mI_uI, if_neg (by omega)]
    · rw [← h3]; funext k; rw [mI_uI, if_neg (by omega)]
  · intro q hqP ih m1 hm hd h1 h2 h3
    have hW1 := hW.sm hm.2
    have e3 : mI m1 31 3 = nI P := (hm.1 31 3 (by omega)).trans hP
    have e2 : mI m1 31 2 = mI m 31 2 := hm.1 31 2 (by omega)
    have eT : mI m1 31 4 = nI T := (hm.1 31 4 (by omega)).trans hT
    have hlt : ¬ mI m1 31 3 ≤ nI q := by rw [e3]; exact nI_ge hqP (by omega)
    have eq : (nI q).toNatClampNeg = q := nI_clamp (by omega)
    have hq4 : vp_in (nI q) 4 := vp_in_nI (by omega) (by decide)
    obtain ⟨p, hp, ep⟩ := hpl q hqP
    have epl : mI m1 524 q = nI p := by rw [h1, dayL_keep _ _ _ _ _ _ _ _ _ _ q q (Nat.le_refl q)]; exact ep
    have g32 : mI m1 32 = mI m 32 := funext fun k => hm.1 32 k (by omega)
    have g33 : mI m1 33 = mI m 33 := funext fun k => hm.1 33 k (by omega)
    have g34 : mI m1 34 = mI m 34 := funext fun k => hm.1 34 k (by omega)
    have g31 : mI m1 31 1 = mI m 31 1 := hm.1 31 1 (by omega)
    -- what a day is for this one
    have step : (dayL true (evC (mI m (r + 1)) (mI m 34) (mI m 35) (mI m 32) (mI m 33) (mI m 31 2) (mI m 523 0) n 6) (mI m 32) (mI m 33) (mI m 34) (mI m 31 1) (mI m 31 2) 6 T (0, mI m 524, mI m 525, mI m 526)) (q + 1) = (if mI m1 524 q < mI m 31 2 then
        (let wh := (if true = true ∧ mI m1 525 q = 0 then pk (evC (mI m (r + 1)) (mI m 34) (mI m 35) (mI m 32) (mI m 33) (mI m 31 2) (mI m 523 0) n 6 (mI m1 524) q) (mI m 31 1) (nI q) (10 + mI m1 524 q) 6 T (mI m1 526) else mI m1 526)
         if mI m 32 (mI m1 524 q).toNatClampNeg + dSum (mI m 34) wh (nI q) 6 ≤ mI m1 525 q + mI m 33 q then (((dayL true (evC (mI m (r + 1)) (mI m 34) (mI m 35) (mI m 32) (mI m 33) (mI m 31 2) (mI m 523 0) n 6) (mI m 32) (mI m 33) (mI m 34) (mI m 31 1) (mI m 31 2) 6 T (0, mI m 524, mI m 525, mI m 526)) q).1 ||| ((1 : Int32) <<< (nI q &&& 31)), upd (mI m1 524) q (mI m1 524 q + 1), upd (mI m1 525) q 0, wh) else (((dayL true (evC (mI m (r + 1)) (mI m 34) (mI m 35) (mI m 32) (mI m 33) (mI m 31 2) (mI m 523 0) n 6) (mI m 32) (mI m 33) (mI m 34) (mI m 31 1) (mI m 31 2) 6 T (0, mI m 524, mI m 525, mI m 526)) q).1, mI m1 524, upd (mI m1 525) q (mI m1 525 q + mI m 33 q), wh))
        else (dayL true (evC (mI m (r + 1)) (mI m 34) (mI m 35) (mI m 32) (mI m 33) (mI m 31 2) (mI m 523 0) n 6) (mI m 32) (mI m 33) (mI m 34) (mI m 31 1) (mI m 31 2) 6 T (0, mI m 524, mI m 525, mI m 526)) q) := by
      rw [h1, h2, h3]
      rfl
    generalize hD : (dayL true (evC (mI m (r + 1)) (mI m 34) (mI m 35) (mI m 32) (mI m 33) (mI m 31 2) (mI m 523 0) n 6) (mI m 32) (mI m 33) (mI m 34) (mI m 31 1) (mI m 31 2) 6 T (0, mI m 524, mI m 525, mI m 526)) q = Dq at *
    generalize hD1 : (dayL true (evC (mI m (r + 1)) (mI m 34) (mI m 35) (mI m 32) (mI m 33) (mI m 31 2) (mI m 523 0) n 6) (mI m 32) (mI m 33) (mI m 34) (mI m 31 1) (mI m 31 2) 6 T (0, mI m 524, mI m 525, mI m 526)) (q + 1) = Dn at *
    by_cases hin : mI m 31 2 ≤ mI m1 524 q
    · rw [if_neg (Int32.not_lt.mpr hin)] at step
      have nx : Go X 4 mX0_oneDay Q 5 [(0, .ref 512), (1, .ref 523), (2, .ref r), (3, .int Dq.1), (4, .int (nI q + (1 : Int32)))] [] m1 := by
        rw [nI_1]
        rw [step] at ih
        exact ih m1 hm hd h1 h2 h3
      have hz : mI m1 31 2 ≤ mI m1 524 (nI q).toNatClampNeg := by rw [eq, e2]; exact hin
      exact bX0_oneDayS523_5 hW1 c (fun z => absurd z hlt) (fun _ => hq4) (fun _ _ => nx) (fun _ z => absurd hz z) (fun _ z => absurd hz z) (fun _ z => absurd hz z)
    · rw [if_pos (Int32.not_le.mp hin)] at step
      have hps : p < Sg := by
        rw [hS, epl] at hin
        exact Nat.not_le.mp fun z => hin (nI_le z (by omega))
      have epn : (mI m1 524 q).toNatClampNeg = p := by rw [epl]; exact nI_clamp (by omega)
      rw [epn] at step
      -- the walk, with the things as they are then
      have wk : ∀ m2, Same (fun a k => a = 523 ∨ a = 524 ∨ a = 525 ∨ a = 526 ∨ a = 513 ∨ (a = r ∧ k = 3)) m m2 → mI m2 523 0 = mI m 523 0 → mI m2 524 = mI m1 524 → mI m2 525 = mI m1 525 → mI m2 526 = (if true = true ∧ mI m1 525 q = 0 then pk (evC (mI m (r + 1)) (mI m 34) (mI m 35) (mI m 32) (mI m 33) (mI m 31 2) (mI m 523 0) n 6 (mI m1 524) q) (mI m 31 1) (nI q) (10 + mI m1 524 q) 6 T (mI m1 526) else mI m1 526) → Cl X 2 mX0_walk [.ref 512, .ref 523, .int (nI q)] m2 (fun v m2 => Go X 4 mX0_oneDay Q 63 [(0, .ref 512), (1, .ref 523), (2, .ref r), (3, .int Dq.1), (4, .int (nI q))] (v.toList ++ []) m2) := by
        intro m2 hm2 hd2 a1 a2 a3
        generalize (if true = true ∧ mI m1 525 q = 0 then pk (evC (mI m (r + 1)) (mI m 34) (mI m 35) (mI m 32) (mI m 33) (mI m 31 2) (mI m 523 0) n 6 (mI m1 524) q) (mI m 31 1) (nI q) (10 + mI m1 524 q) 6 T (mI m1 526) else mI m1 526) = wh at *
        have hW2 := hW.sm hm2.2
        have f32 : mI m2 32 = mI m 32 := funext fun k => hm2.1 32 k (by omega)
        have f33 : mI m2 33 = mI m 33 := funext fun k => hm2.1 33 k (by omega)
        have f34 : mI m2 34 = mI m 34 := funext fun k => hm2.1 34 k (by omega)
        refine s_walkS523 hW2 (by omega) ((hm2.1 31 2 (by omega)).trans hS) h8 (by rw [a1]; exact epl) hps (fun z => ?_) (fun z => ?_)
        · rw [f32, f33, f34, a2, a3] at z
          rw [if_pos z] at step
          refine bX0_oneDayS523_63 (hW2.sm (fun _ _ => rfl)) c (fun w => absurd w (by decide)) (fun _ => ?_)
          rw [nI_1]
          rw [step] at ih
          refine ih _ ((hm2.uI (Or.inr (Or.inl rfl))).uI (Or.inr (Or.inr (Or.inl rfl)))) ?_ ?_ ?_ ?_
          · rw [mI_uI, if_neg (by omega), mI_uI, if_neg (by omega)]; exact hd2
          · funext k; rw [mI_uI, if_neg (by omega), mI_uI, a1]; simp [upd]
          · funext k; rw [mI_uI, mI_uI, a2]; simp [upd]
          · funext k; rw [mI_uI, if_neg (by omega), mI_uI, if_neg (by omega), a3]
        · rw [f32, f33, f34, a2, a3] at z
          rw [if_neg z] at step
          refine bX0_oneDayS523_63 (hW2.sm (fun _ _ => rfl)) c (fun _ => ?_) (fun w => absurd rfl w)
          rw [nI_1]
          rw [step] at ih
          refine ih _ (hm2.uI (Or.inr (Or.inr (Or.inl rfl)))) ?_ ?_ ?_ ?_
          · rw [mI_uI, if_neg (by omega)]; exact hd2
          · funext k; rw [mI_uI, if_neg (by omega), a1]
          · funext k; rw [mI_uI, a2, f33]; simp [upd]
          · funext k; rw [mI_uI, if_neg (by omega), a3]
      have hz : ¬ mI m1 31 2 ≤ mI m1 524 (nI q).toNatClampNeg := by rw [eq, e2]; exact hin
      refine bX0_oneDayS523_5 hW1 c (fun z => absurd z hlt) (fun _ => hq4) (fun _ z => absurd z hz) (fun _ _ => hq4) (fun _ _ z => ?_) (fun _ _ z => ?_)
      · rw [eq] at z
        exact wk m1 hm hd rfl rfl (by rw [if_neg (fun w => z w.2)])
      · rw [eq] at z
        have gr : mI m1 (r + 1) = mI m (r + 1) := funext fun k => hm.1 _ _ (by omega)
        have g35 : mI m1 35 = mI m 35 := funext fun k => hm.1 35 k (by omega)
        refine s_carryS523 (n := n) (p := p) (Sg := Sg) (T := T) hW1 c ((hm.1 r 2 (by omega)).trans hn) h4 (by omega) eT h6 (e2.trans hS) h8 epl hps (fun m2 hm2 a3 => ?_)
        have hm2' : Same (fun a k => a = 523 ∨ a = 524 ∨ a = 525 ∨ a = 526 ∨ a = 513 ∨ (a = r ∧ k = 3)) m m2 := hm.tr (hm2.mo (fun a k w => w.elim (fun w => Or.inr (Or.inr (Or.inr (Or.inl w)))) (fun w => w.elim (fun w => Or.inr (Or.inr (Or.inr (Or.inr (Or.inl w))))) (fun w => Or.inr (Or.inr (Or.inr (Or.inr (Or.inr w))))))))
        refine bX0_oneDayS523_56 (hW.sm hm2'.2) c ?_
        refine wk m2 hm2' ((hm2.1 523 0 (by omega)).trans hd) (funext fun k => hm2.1 524 k (by omega)) (funext fun k => hm2.1 525 k (by omega)) ?_
        rw [a3, if_pos ⟨rfl, z⟩, gr, g34, g35, g32, g33, g31, hd, e2]
end S7
