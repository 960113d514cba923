section S14
variable {X : pX} {Q : Option Value → pMem → Prop} {m : pMem}
theorem s_packs {i q p P Sg T : Nat} {cs : List Cls} (hW : Wf m) (hi : i < 6) (hf : mI m 536 8 = nI i) (hr : RuleM m i cs) (ok : ∀ c ∈ cs, ClsOk c) (hd : okM m P Sg T) (hq : q < P) (hp : mI m 537 q = nI p) (hps : p < Sg)
    (h : ∀ m2, Same (fun a _ => a = 539) m m2 → mI m2 539 = pk (evE (some (fun w => evR w cs)) (mRd m) (mI m 536 5) T (mI m 537) q) (mI m 536 1) (nI q) (10 + mI m 537 q) T T (mI m 539) → Q none m2) : Cl X 5 mX12_packs [.ref 535, .int (nI q)] m Q := by
  have hd0 := hd
  obtain ⟨hP, hP4, hS, h8, hT, h6⟩ := hd
  have eq : (nI q).toNatClampNeg = q := nI_clamp (by omega)
  have vq : vp_in (nI q) 4 := vp_in_nI (by omega) (by decide)
  refine pCl_of (by decide +kernel) (Nat.le_of_ble_eq_true rfl) rfl (bX12_packs_0 hW ?_)
  refine upTo (P := fun t => ∀ m1, Same (fun a _ => a = 539) m m1 → mI m1 539 = pk (evE (some (fun w => evR w cs)) (mRd m) (mI m 536 5) T (mI m 537) q) (mI m 536 1) (nI q) (10 + mI m 537 q) T t (mI m 539) → Go X 5 mX12_packs Q 2 [(0, .ref 535), (1, .int (nI q)), (2, .int (nI t))] [] m1) T ?_ ?_ 0 (Nat.zero_le _) m Same.rf rfl
  · intro m1 hm h1
    have e4 : mI m1 536 4 = nI T := (hm.1 536 4 (by omega)).trans hT
    have hz : mI m1 536 4 ≤ nI T := by rw [e4]; exact Int32.le_refl _
    exact bX12_packs_2 (hW.sm hm.2) (fun _ => h m1 hm h1) (fun z => absurd hz z) (fun z => absurd hz z) (fun z => absurd hz z) (fun z => absurd hz z) (fun z => absurd hz z) (fun z => absurd hz z)
  · intro t ht ih m1 hm h1
    have hW1 := hW.sm hm.2
    have e4 : mI m1 536 4 = nI T := (hm.1 536 4 (by omega)).trans hT
    have hlt : ¬ mI m1 536 4 ≤ nI t := by rw [e4]; exact nI_ge ht (by omega)
    have et : (nI t).toNatClampNeg = t := nI_clamp (by omega)
    have ht6 : vp_in (nI t) 6 := vp_in_nI (by omega) (by decide)
    have g537 : mI m1 537 = mI m 537 := funext fun k => hm.1 537 k (by omega)
    have next : ∀ m2, Same (fun a _ => a = 539) m m2 → mI m2 539 = pk (evE (some (fun w => evR w cs)) (mRd m) (mI m 536 5) T (mI m 537) q) (mI m 536 1) (nI q) (10 + mI m 537 q) T (t + 1) (mI m 539) → Go X 5 mX12_packs Q 2 [(0, .ref 535), (1, .int (nI q)), (2, .int (nI t + (1 : Int32)))] [] m2 := by
      intro m2 a b
      rw [nI_1]
      exact ih m2 a b
    generalize hev : evE (some (fun w => evR w cs)) (mRd m) (mI m 536 5) T (mI m 537) q = ev at *
    have body : (mI m1 539 t = nI q ∨ mI m1 539 t = 10 + mI m 537 q) → Cl X 4 mX12_wants [.ref 535, .int (nI q), .int (nI t)] m1 (fun v m2 => Go X 5 mX12_packs Q 46 [(0, .ref 535), (1, .int (nI q)), (2, .int (nI t))] (v.toList ++ []) m2) := by
      intro hor
      have g542 : mI m1 542 = mI m 542 := funext fun k => hm.1 542 k (by omega)
      have g543 : mI m1 543 = mI m 543 := funext fun k => hm.1 543 k (by omega)
      have g540 : mI m1 540 = mI m 540 := funext fun k => hm.1 540 k (by omega)
      have g541 : mI m1 541 = mI m 541 := funext fun k => hm.1 541 k (by omega)
      have hev2 : ev (mI m1 539) t = decide (0 < evR (wds (mI m1 542) (mI m1 543) (mI m1 540) (mI m1 541) (mI m1 536 2) (mI m1 536 5) (mI m1 537) (mI m1 539) T q t) cs) := by
        rw [← hev, g542, g543, g540, g541, g537, hm.1 536 2 (by omega), hm.1 536 5 (by omega)]; rfl
      refine s_wants (p := p) (P := P) (Sg := Sg) (T := T) (i := i) (cs := cs) hW1 hi ((hm.1 536 8 (by omega)).trans hf) (RuleM_congr (fun a k z1 z2 => hm.1 a k (by omega)) hr) ok
        ⟨(hm.1 536 3 (by omega)).trans hP, hP4, (hm.1 536 2 (by omega)).trans hS, h8, e4, h6⟩ hq ht (by rw [g537]; exact hp) hps (fun m2 hm2 hy => ?_) (fun m2 hm2 hy => ?_)
      · have hmid : Same (fun a _ => a = 539) m m2 := hm.tr (hm2.mo (fun _ _ z => z.elim))
        have e0 : mI m2 539 = mI m1 539 := funext fun k => hm2.1 539 k (fun z => z)
        have e4' : mI m2 536 4 = nI T := (hmid.1 536 4 (by omega)).trans hT
        have eH : mI m2 536 1 = mI m 536 1 := hmid.1 536 1 (by omega)
        have eT : (nI T).toNatClampNeg = T := nI_clamp (by omega)
        refine bX12_packs_46 (hW.sm hmid.2) (fun _ => by rw [e4']; exact vp_in_nI (by omega) (by decide)) (fun _ => by rw [e4', eT]; exact tAt_sm _ _ T h6) (fun _ z2 => ?_) (fun _ _ => ht6) (fun _ z2 => ?_) (fun z => absurd z (by decide)) (fun z => absurd z (by decide)) (fun z => absurd z (by decide))
        · refine next m2 hmid ?_
          rw [e4', eT, pcI_t _ _ T h6, e0, eH] at z2
          unfold pk
          rw [← h1, if_pos hor, hev2, if_pos (decide_eq_true hy), if_neg (Int32.not_lt.mpr z2), e0]
        · rw [e4', eT, pcI_t _ _ T h6, e0, eH] at z2
          rw [et]
          refine next _ (hmid.uI rfl) ?_
          unfold pk
          rw [← h1, if_pos hor, hev2, if_pos (decide_eq_true hy), if_pos (Int32.not_le.mp z2)]
          funext k
          rw [mI_uI, e0]
          simp [upd]
      · have hmid : Same (fun a _ => a = 539) m m2 := hm.tr (hm2.mo (fun _ _ z => z.elim))
        have e0 : mI m2 539 = mI m1 539 := funext fun k => hm2.1 539 k (fun z => z)
        refine bX12_packs_46 (hW.sm hmid.2) (fun z => absurd rfl z) (fun z => absurd rfl z) (fun z => absurd rfl z) (fun z => absurd rfl z) (fun z => absurd rfl z) (fun _ => vq) (fun _ => ht6) (fun _ => ?_)
        rw [et, eq, hmid.1 537 q (by omega)]
        refine next _ (hmid.uI rfl) ?_
        unfold pk
        rw [← h1, if_pos hor, hev2, if_neg (by rw [decide_eq_true_eq]; exact hy)]
        funext k
        rw [mI_uI, e0]
        simp [upd]
    refine bX12_packs_2 hW1 (fun z => absurd z hlt) (fun _ => ht6) (fun _ z => ?_) (fun _ _ => ht6) (fun _ _ => vq) (fun _ z1 z2 => ?_) (fun _ z1 z2 => ?_)
    · rw [et] at z
      exact body (Or.inl z)
    · rw [et] at z1 z2
      rw [eq, g537] at z2
      refine next m1 hm ?_
      unfold pk
      rw [← h1, if_neg (fun w => w.elim z1 z2)]
    · rw [et] at z2
      rw [eq, g537] at z2
      exact body (Or.inr z2)
def ScM : Nat → Nat → Prop := fun a k => (a = 536 ∧ k = 5) ∨ a = 537 ∨ a = 538 ∨ a = 539
theorem s_goes {E : EV} {P Sg T : Nat} (hW : Wf m) (ok : okE m E) (hd : okM m P Sg T) (hpl : plOk (mI m 537) P Sg) (h : ∀ m2, Same ScM m m2 → mSt m2 = (dayF E (mRd m) T T P (mSt m)).2 → Q (some (.int (dayF E (mRd m) T T P (mSt m)).1)) m2) : Cl X 6 mX12_goes [.ref 535] m Q := by
  have hd0 := hd
  obtain ⟨hP, hP4, hS, h8, hT, h6⟩ := hd
  have eT : (nI T).toNatClampNeg = T := nI_clamp (by omega)
  refine pCl_of (by decide +kernel) (Nat.le_of_ble_eq_true rfl) rfl (bX12_goes_0 hW ?_)
  refine upTo (P := fun q => ∀ m1, Same (fun a _ => a = 537 ∨ a = 538 ∨ a = 539) m m1 → mI m1 537 = (dayD E (mRd m) T T (mSt m) q).2.1 → mI m1 538 = (dayD E (mRd m) T T (mSt m) q).2.2.1 → mI m1 539 = (dayD E (mRd m) T T (mSt m) q).2.2.2 → Go X 6 mX12_goes Q 4 [(0, .ref 535), (1, .int (dayD E (mRd m) T T (mSt m) q).1), (2, .int (nI q))] [] m1) P ?_ ?_ 0 (Nat.zero_le _) m Same.rf rfl rfl rfl
  · intro m1 hm h1 h2 h3
    have e3 : mI m1 536 3 = nI P := (hm.1 536 3 (by omega)).trans hP
    have hz : mI m1 536 3 ≤ nI P := by rw [e3]; exact Int32.le_refl _
    refine bX12_goes_4 (hW.sm hm.2) (fun _ => ?_) (fun z => absurd hz z) (fun z => absurd hz z) (fun z => absurd hz z) (fun z => absurd hz z) (fun z => absurd hz z) (fun z => absurd hz z)
    refine h _ ((hm.mo (F := ScM) (fun a k z => by unfold ScM; omega)).uI (Or.inl ⟨rfl, rfl⟩)) ?_
    have f1 : mI (uI m1 536 5 (mI m1 536 5 + 1)) 537 = mI m1 537 := funext fun k => by rw [mI_uI, if_neg (by omega)]
    have f2 : mI (uI m1 536 5 (mI m1 536 5 + 1)) 538 = mI m1 538 := funext fun k => by rw [mI_uI, if_neg (by omega)]
    have f3 : mI (uI m1 536 5 (mI m1 536 5 + 1)) 539 = mI m1 539 := funext fun k => by rw [mI_uI, if_neg (by omega)]
    show (mI (uI m1 536 5 (mI m1 536 5 + 1)) 536 5, mI (uI m1 536 5 (mI m1 536 5 + 1)) 537, mI (uI m1 536 5 (mI m1 536 5 + 1)) 538, mI (uI m1 536 5 (mI m1 536 5 + 1)) 539) = _
    rw [f1, f2, f3, h1, h2, h3, mI_uI, if_pos ⟨rfl, rfl⟩, hm.1 536 5 (by omega)]
    rfl
  · intro q hqP ih m1 hm h1 h2 h3
    have hW1 := hW.sm hm.2
    have e3 : mI m1 536 3 = nI P := (hm.1 536 3 (by omega)).trans hP
    have e2 : mI m1 536 2 = nI Sg := (hm.1 536 2 (by omega)).trans hS
    have e4 : mI m1 536 4 = nI T := (hm.1 536 4 (by omega)).trans hT
    have hlt : ¬ mI m1 536 3 ≤ nI q := by rw [e3]; exact nI_ge hqP (by omega)
    have eq : (nI q).toNatClampNeg = q := nI_clamp (by omega)
    have hq4 : vp_in (nI q) 4 := vp_in_nI (by omega) (by decide)
    obtain ⟨p, hp, ep⟩ := hpl q hqP
    have epl : mI m1 537 q = nI p := by rw [h1]; exact (dayL_keep _ _ _ _ _ _ _ _ _ _ q q (Nat.le_refl q)).trans ep
    have step : dayD E (mRd m) T T (mSt m) (q + 1) = (if mI m1 537 q < nI Sg then
        (let wh := if E.isSome = true ∧ mI m1 538 q = 0 then pk (evE E (mRd m) (mI m 536 5) T (mI m1 537) q) (mI m 536 1) (nI q) (10 + mI m1 537 q) T T (mI m1 539) else mI m1 539
         if mI m 540 (mI m1 537 q).toNatClampNeg + dSum (mI m 542) wh (nI q) T ≤ mI m1 538 q + mI m 541 q then ((dayD E (mRd m) T T (mSt m) q).1 ||| ((1 : Int32) <<< (nI q &&& 31)), upd (mI m1 537) q (mI m1 537 q + 1), upd (mI m1 538) q 0, wh) else ((dayD E (mRd m) T T (mSt m) q).1, mI m1 537, upd (mI m1 538) q (mI m1 538 q + mI m 541 q), wh))
        else dayD E (mRd m) T T (mSt m) q) := by
      rw [h1, h2, h3, ← hS]
      rfl
    generalize hD : dayD E (mRd m) T T (mSt m) q = Dq at *
    generalize hD1 : dayD E (mRd m) T T (mSt m) (q + 1) = Dn at *
    by_cases hin : mI m1 536 2 ≤ mI m1 537 q
    · rw [if_neg (by rw [← e2]; exact Int32.not_lt.mpr hin)] at step
      have nx : Go X 6 mX12_goes Q 4 [(0, .ref 535), (1, .int Dq.1), (2, .int (nI q + (1 : Int32)))] [] m1 := by
        rw [nI_1]
        rw [step] at ih
        exact ih m1 hm h1 h2 h3
      have hz : mI m1 536 2 ≤ mI m1 537 (nI q).toNatClampNeg := by rw [eq]; exact hin
      exact bX12_goes_4 hW1 (fun z => absurd z hlt) (fun _ => hq4) (fun _ _ => nx) (fun _ z => absurd hz z) (fun _ z => absurd hz z) (fun _ z => absurd hz z) (fun _ z => absurd hz z)
    · rw [if_pos (by rw [← e2]; exact Int32.not_le.mp hin)] at step
      have hps : p < Sg := by
        rw [e2, epl] at hin
        exact Nat.not_le.mp fun z => hin (nI_le z (by omega))
      have epn : (mI m1 537 q).toNatClampNeg = p := by rw [epl]; exact nI_clamp (by omega)
      rw [epn] at step
      generalize hwh : (if E.isSome = true ∧ mI m1 538 q = 0 then pk (evE E (mRd m) (mI m 536 5) T (mI m1 537) q) (mI m 536 1) (nI q) (10 + mI m1 537 q) T T (mI m1 539) else mI m1 539) = wh at *
      -- the walk, with the things as they are then
      have wk : ∀ m2, Same (fun a _ => a = 537 ∨ a = 538 ∨ a = 539) m m2 → mI m2 537 = mI m1 537 → mI m2 538 = mI m1 538 → mI m2 539 = wh → Go X 6 mX12_goes Q 52 [(0, .ref 535), (1, .int Dq.1), (2, .int (nI q))] [] m2 := by
        intro m2 hm2 a1 a2 a3
        have hW2 := hW.sm hm2.2
        have f40 : mI m2 540 = mI m 540 := funext fun k => hm2.1 540 k (by omega)
        have f41 : mI m2 541 = mI m 541 := funext fun k => hm2.1 541 k (by omega)
        have f42 : mI m2 542 = mI m 542 := funext fun k => hm2.1 542 k (by omega)
        have f4 : mI m2 536 4 = nI T := (hm2.1 536 4 (by omega)).trans hT
        have cond : (mI (uI m2 538 (nI q).toNatClampNeg ((mI m2 538 (nI q).toNatClampNeg) + (mI m2 541 (nI q).toNatClampNeg))) 538 (nI q).toNatClampNeg) < ((mI m2 540 ((mI m2 537 (nI q).toNatClampNeg).toNatClampNeg)) + (wSum (mI m2 542) (tAt (mI m2 539) (nI q) (mI m2 536 4).toNatClampNeg) (mI m2 536 4).toNatClampNeg)) ↔ ¬ (mI m 540 p + dSum (mI m 542) wh (nI q) T ≤ mI m1 538 q + mI m 541 q) := by
          rw [eq, mI_uI, if_pos ⟨rfl, rfl⟩, f4, eT, wSum_t h6 T (Nat.le_refl T), f40, f41, f42, a1, a2, a3, epn]
          exact Int32.not_le.symm
        refine bX12_goes_52 hW2 hq4 (by rw [eq, a1, epl]; exact vp_in_nI (by omega) (by decide)) (by rw [f4]; exact vp_in_nI (by omega) (by decide)) (fun z => ?_) (fun _ => hq4) (fun z => ?_)
        · have z2 := cond.mp z
          rw [if_neg z2] at step
          rw [step] at ih
          rw [nI_1, eq]
          refine ih _ (hm2.uI (Or.inr (Or.inl rfl))) ?_ ?_ ?_
          · funext k; rw [mI_uI, if_neg (by omega), a1]
          · funext k; rw [mI_uI, a2, f41]; simp [upd]
          · funext k; rw [mI_uI, if_neg (by omega), a3]
        · have z2 : mI m 540 p + dSum (mI m 542) wh (nI q) T ≤ mI m1 538 q + mI m 541 q := Classical.byContradiction fun y => z (cond.mpr y)
          rw [if_pos z2] at step
          rw [step] at ih
          rw [nI_1, eq]
          refine ih _ (((hm2.uI (Or.inr (Or.inl rfl))).uI (Or.inl rfl)).uI (Or.inr (Or.inl rfl))) ?_ ?_ ?_
          · funext k; rw [mI_uI, if_neg (by omega), mI_uI, a1]; simp only [upd]; by_cases e : k = q <;> simp [e, mI_uI, a1]
          · funext k; rw [mI_uI]; by_cases e : k = q
            · simp [e, upd]
            · simp [e, upd, mI_uI, a2]
          · funext k; rw [mI_uI, if_neg (by omega), mI_uI, if_neg (by omega), mI_uI, if_neg (by omega), a3]
      have hz : ¬ mI m1 536 2 ≤ mI m1 537 (nI q).toNatClampNeg := by rw [eq]; exact hin
      refine bX12_goes_4 hW1 (fun z => absurd z hlt) (fun _ => hq4) (fun _ z => absurd z hz) (fun _ _ => hq4) (fun _ _ z => ?_) (fun _ _ z1 z2 => ?_) (fun _ _ z1 z2 => ?_)
      · rw [eq] at z
        exact wk m1 hm rfl rfl (by rw [← hwh, if_neg (fun w => z w.2)])
      · have z3 := (hm.1 536 8 (by omega)).symm.trans z2
        have : E.isSome = false := by
          rcases ok with ⟨_, rfl⟩ | ⟨i, cs, hi, ei, _⟩
          · rfl
          · rw [ei] at z3; exact absurd z3 (nI_neM (by omega))
        exact wk m1 hm rfl rfl (by rw [← hwh, if_neg (fun w => by rw [this] at w; exact Bool.noConfusion w.1)])
      · rw [eq] at z1
        rcases ok with ⟨o1, _⟩ | ⟨i, cs, hi, ei, o1, o2, o3⟩
        · exact absurd ((hm.1 536 8 (by omega)).trans o1) z2
        · subst o3
          refine s_packs (i := i) (cs := cs) (p := p) (P := P) (Sg := Sg) (T := T) hW1 hi ((hm.1 536 8 (by omega)).trans ei) (RuleM_congr (fun a k y1 y2 => hm.1 a k (by omega)) o1) o2 ⟨e3, hP4, e2, h8, e4, h6⟩ hqP epl hps (fun m2 hm2 a3 => ?_)
          have hm2' : Same (fun a _ => a = 537 ∨ a = 538 ∨ a = 539) m m2 := hm.tr (hm2.mo (fun a k w => Or.inr (Or.inr w)))
          have gR : mRd m1 = mRd m := by
            have g0 : mI m1 540 = mI m 540 := funext fun k => hm.1 540 k (by omega)
            have g1 : mI m1 541 = mI m 541 := funext fun k => hm.1 541 k (by omega)
            have g2 : mI m1 542 = mI m 542 := funext fun k => hm.1 542 k (by omega)
            have g3 : mI m1 543 = mI m 543 := funext fun k => hm.1 543 k (by omega)
            unfold mRd
            rw [g0, g1, g2, g3, hm.1 536 1 (by omega), hm.1 536 2 (by omega)]
          refine wk m2 hm2' (funext fun k => hm2.1 537 k (by omega)) (funext fun k => hm2.1 538 k (by omega)) ?_
          rw [a3, gR, hm.1 536 5 (by omega), hm.1 536 1 (by omega), ← hwh, if_pos ⟨rfl, z1⟩]
theorem ScM_r : ∀ a k, 540 ≤ a → ¬ ScM a k := by intro a k h; unfold ScM; omega
theorem Same.mE {E : Nat → Nat → Prop} {m m2 : pMem} {V : EV} (h : Same E m m2) (hE : ∀ a k, 555 ≤ a → a ≤ 560 → ¬ E a k) (h8 : ¬ E 536 8) (ok : okE m V) : okE m2 V := by
  rcases ok with ⟨o1, o2⟩ | ⟨i, cs, hi, ei, o1, o2, o3⟩
  · exact Or.inl ⟨(h.1 _ _ h8).trans o1, o2⟩
  · exact Or.inr ⟨i, cs, hi, (h.1 _ _ h8).trans ei, RuleM_congr (fun a k z1 z2 => h.1 a k (hE a k z1 z2)) o1, o2, o3⟩
theorem Same.mD {E : Nat → Nat → Prop} {m m2 : pMem} {P Sg T : Nat} (h : Same E m m2) (hE : ∀ k, 2 ≤ k → k ≤ 4 → ¬ E 536 k) (hd : okM m P Sg T) : okM m2 P Sg T := by
  obtain ⟨a, b, c, d, e, f⟩ := hd
  exact ⟨(h.1 _ _ (hE _ (by decide) (by decide))).trans a, b, (h.1 _ _ (hE _ (by decide) (by decide))).trans c, d, (h.1 _ _ (hE _ (by decide) (by decide))).trans e, f⟩
theorem Same.mR' {E : Nat → Nat → Prop} {m m2 : pMem} (h : Same E m m2) (hE : ∀ k, 1 ≤ k → k ≤ 2 → ¬ E 536 k) (hE2 : ∀ a k, 540 ≤ a → a ≤ 543 → ¬ E a k) : mRd m2 = mRd m := by
  have g0 : mI m2 540 = mI m 540 := funext fun k => h.1 540 k (hE2 _ _ (by decide) (by decide))
  have g1 : mI m2 541 = mI m 541 := funext fun k => h.1 541 k (hE2 _ _ (by decide) (by decide))
  have g2 : mI m2 542 = mI m 542 := funext fun k => h.1 542 k (hE2 _ _ (by decide) (by decide))
  have g3 : mI m2 543 = mI m 543 := funext fun k => h.1 543 k (hE2 _ _ (by decide) (by decide))
  unfold mRd
  rw [g0, g1, g2, g3, h.1 536 1 (hE _ (by decide) (by decide)), h.1 536 2 (hE _ (by decide) (by decide))]
theorem s_goFor {E : EV} {P Sg T N : Nat} (hW : Wf m) (ok : okE m E) (hd : okM m P Sg T) (hpl : plOk (mI m 537) P Sg) (hN : N < 2 ^ 31) (h : ∀ m2, Same ScM m m2 → mSt m2 = dayN E (mRd m) T T P (mSt m) N → Q none m2) : Cl X 7 mX12_goFor [.ref 535, .int (nI N)] m Q := by
  refine pCl_of (by decide +kernel) (Nat.le_of_ble_eq_true rfl) rfl (bX12_goFor_0 hW ?_)
  refine upTo (P := fun i => ∀ m1, Same ScM m m1 → mSt m1 = dayN E (mRd m) T T P (mSt m) i → Go X 7 mX12_goFor Q 2 [(0, .ref 535), (1, .int (nI N)), (2, .int (nI i))] [] m1) N ?_ ?_ 0 (Nat.zero_le _) m Same.rf rfl
  · intro m1 hm e
    exact bX12_goFor_2 (hW.sm hm.2) (fun _ => h m1 hm e) (fun z => absurd (Int32.le_refl _) z)
  · intro i hi ih m1 hm e
    have hx : ¬ nI N ≤ nI i := nI_ge hi hN
    have eR : mRd m1 = mRd m := hm.mR' (fun k _ _ => by unfold ScM; omega) (fun a k _ _ => by unfold ScM; omega)
    have hp1 : plOk (mI m1 537) P Sg := by
      have e2 : mI m1 537 = (mSt m1).2.1 := rfl
      rw [e2, e]
      exact dayN_pl (rd := mRd m) hd.2.2.1 hd.2.2.2.1 hpl i
    refine bX12_goFor_2 (hW.sm hm.2) (fun z => absurd z hx) (fun _ => ?_)
    refine s_goes (hW.sm hm.2) (hm.mE (fun a k _ _ => by unfold ScM; omega) (by unfold ScM; omega) ok) (hm.mD (fun k _ _ => by unfold ScM; omega) hd) hp1 (fun m2 hm2 e2 => ?_)
    rw [eR, e] at e2
    exact bX12_goFor_11 ((hW.sm hm.2).sm hm2.2) (by rw [nI_1]; exact ih m2 (hm.tr hm2) e2)
end S14
