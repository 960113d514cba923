/-! ===== pair: thieves ===== -/
theorem Wf_uI {m : pMem} {a k : Nat} {v : Int32} (h : Wf m) : Wf (uI m a k v) := h.sm (fun _ _ => rfl)
theorem Tm_u7 {m0 m : pMem} {P Sg : Nat} {s : ST} {v : Int32} (h : Tm m0 m P Sg s) : Tm m0 (uI m 536 7 v) P Sg s := by
  refine ⟨⟨fun a k z => by rw [mI_uI, if_neg (fun q => z (Or.inr (by omega)))]; exact h.1.1 a k z, fun x y => h.1.2 x y⟩, fun j hj => by rw [mI_uI, if_neg (by omega)]; exact h.2.1 j hj, ?_, h.2.2.2⟩
  have f0 : mI (uI m 536 7 v) 536 5 = mI m 536 5 := by rw [mI_uI, if_neg (by omega)]
  have f1 : mI (uI m 536 7 v) 537 = mI m 537 := funext fun k => by rw [mI_uI, if_neg (by omega)]
  have f2 : mI (uI m 536 7 v) 538 = mI m 538 := funext fun k => by rw [mI_uI, if_neg (by omega)]
  have f3 : mI (uI m 536 7 v) 539 = mI m 539 := funext fun k => by rw [mI_uI, if_neg (by omega)]
  rw [← h.2.2.1]
  unfold mSt
  rw [f0, f1, f2, f3]
theorem Tm_uw {m0 m : pMem} {P Sg t : Nat} {s : ST} (h : Tm m0 m P Sg s) : Tm m0 (uI m 539 t (-1)) P Sg (woS s t) := by
  refine ⟨⟨fun a k z => by rw [mI_uI, if_neg (fun q => z (Or.inr (by omega)))]; exact h.1.1 a k z, fun x y => h.1.2 x y⟩, fun j hj => by rw [mI_uI, if_neg (by omega)]; exact h.2.1 j hj, ?_, h.2.2.2⟩
  have f0 : mI (uI m 539 t (-1)) 536 5 = mI m 536 5 := by rw [mI_uI, if_neg (by omega)]
  have f1 : mI (uI m 539 t (-1)) 537 = mI m 537 := funext fun k => by rw [mI_uI, if_neg (by omega)]
  have f2 : mI (uI m 539 t (-1)) 538 = mI m 538 := funext fun k => by rw [mI_uI, if_neg (by omega)]
  have f3 : mI (uI m 539 t (-1)) 539 = upd (mI m 539) t (-1) := funext fun k => by
    rw [mI_uI]
    by_cases e : k = t
    · rw [if_pos ⟨rfl, e⟩, e, pk_us]
    · rw [if_neg (fun q => e q.2), pk_un e]
  rw [← h.2.2.1]
  unfold mSt woS
  rw [f0, f1, f2, f3]
section T10
variable {X : pX}
theorem p_thieves {x n p w : Int32} : Pair X 5 7 mX11_thieves mX12_thieves [.int x, .int n, .int p, .int w] := by
  intro m h Q K
  obtain ⟨hW, hC, hT, nr, P, Sg, T, N, M, d, f, hr, hi, hf, hw, hv⟩ := Inv_open h
  have hv0 := hv
  have told := told_iff hv
  obtain ⟨E, oke, rok, age, days⟩ := both_days hr hv
  obtain ⟨_, _, _, w43, _, _, s3⟩ := rows_of hv
  obtain ⟨⟨okd, okm, agd, agt, hpl⟩, ⟨_, _, _, _, _, _, v7, _⟩, _, _, v12, v13, _⟩ := hv
  have okd0 := okd
  obtain ⟨p3, p4, p2, p8, pT, p6⟩ := okd
  have okm0 := okm
  obtain ⟨q3, _, q2, _, qT, _⟩ := okm
  by_cases c : mI m 536 0 = 1 ∧ (∃ k, 1 ≤ k ∧ k ≤ 10 ∧ x = nI k) ∧ (∃ k, 1 ≤ k ∧ k ≤ 60 ∧ n = nI k) ∧ (∃ k, k ≤ 100 ∧ p = nI k) ∧ ∃ k, k ≤ 1 ∧ w = nI k
  · obtain ⟨c1, c2, c3, c4, c5⟩ := c
    have x2 := (inI1 (a := 10) (by decide)).mpr c2
    have n2 := (inI1 (a := 60) (by decide)).mpr c3
    have pp2 := (inI (a := 100) (by decide)).mpr c4
    have w2 := (inI (a := 1) (by decide)).mpr c5
    obtain ⟨yr, hy1, hy, rfl⟩ := c2
    obtain ⟨dn, hn1, hn, rfl⟩ := c3
    obtain ⟨rb, hrb⟩ : ∃ rb : Int32 → Int32 × Option Nat, rb = rbX p T := ⟨_, rfl⟩
    have rbok : ∀ x, ¬ x < 0 → ¬ (rb x).1 < 0 ∧ ∀ t, (rb x).2 = some t → t < T := fun x hx => by rw [hrb]; exact rbX_ok hx p6
    obtain ⟨dC, hdC⟩ : ∃ f : ST → ST, f = fun s => (dayF (cEv m (roOf (mI m 30 3))) (cRd m 31) 6 T P s).2 := ⟨_, rfl⟩
    obtain ⟨dM, hdM⟩ : ∃ f : ST → ST, f = fun s => (dayF E (mRd m) T T P s).2 := ⟨_, rfl⟩
    have hd : ∀ s s2, AgT T s s2 → plOk s.2.1 P Sg → AgT T (dC s) (dM s2) ∧ plOk (dC s).2.1 P Sg := by
      intro s s2 h1 h2
      rw [hdC, hdM]
      exact ⟨days s s2 h1 h2 1, dayF_pl (rd := cRd m 31) p2 p8 h2⟩
    obtain ⟨vM, hvM⟩ : ∃ f : ST → Int32, f = fun s => if w = 0 then wTown (mI m 543) s.2.1 s.2.2.2 (nI Sg) T P else pcI (tAt s.2.1 (nI Sg) P) := ⟨_, rfl⟩
    obtain ⟨vC, hvC⟩ : ∃ f : ST → Int32, f = fun s => if w = 0 then cWe m Sg P s else pcI (tAt s.2.1 (nI Sg) P) := ⟨_, rfl⟩
    have val : ∀ s s2, AgT T s s2 → vC s = vM s2 := by
      intro s s2 h1
      rw [hvC, hvM]
      exact ite_c (fun _ => wealth_ag h1.2.2.2 w43 h1.2.1 p6 p8 p4) (fun _ => by rw [tAt_pl h1.2.1 P p4])
    obtain ⟨G, hG⟩ : ∃ G : Int32 → Int32 × Int32, G = fun y => ((dayR dM rb (y, mSt m) dn).1, vM (dayR dM rb (y, mSt m) dn).2) := ⟨_, rfl⟩
    have cG : ∀ y (s : ST), ¬ y < 0 → AgT T s (mSt m) → plOk s.2.1 P Sg → (dayR dC rb (y, s) dn).1 = (G y).1 ∧ vC (dayR dC rb (y, s) dn).2 = (G y).2 ∧ ¬ (G y).1 < 0 := by
      intro y s h0 h1 h2
      obtain ⟨a1, a2, a3, a4⟩ := dayR_ag rbok hd (c := (y, s)) (c2 := (y, mSt m)) rfl h1 h2 h0 dn
      rw [hG]
      exact ⟨a1, val _ _ a2, by show ¬ (dayR dM rb (y, mSt m) dn).1 < 0; rw [← a1]; exact a4⟩
    have tc0 := tr_copy hv0 (Same.rf (m := m))
    have mG : ∀ y (s : ST), ¬ y < 0 → (∀ s1 : ST, AgT T s1 (mSt m) → AgT T s1 s) → (dayR dM rb (y, s) dn).1 = (G y).1 ∧ vM (dayR dM rb (y, s) dn).2 = (G y).2 := by
      intro y s h0 hs
      obtain ⟨g1, g2, _⟩ := cG y _ h0 tc0.2 tc0.1.2.2
      obtain ⟨a1, a2, a3, a4⟩ := dayR_ag rbok hd (c := (y, cSt (cpS m 523 37) 523)) (c2 := (y, s)) rfl (hs _ tc0.2) tc0.1.2.2 h0 dn
      exact ⟨a1.symm.trans g1, (val _ _ a2).symm.trans g2⟩
    have nn : ∀ t, ¬ (thF (mI m 30 4) G t).1 < 0 := by
      intro t
      induction t with
      | zero => exact v13
      | succ t ih => exact (cG _ _ ih tc0.2 tc0.1.2.2).2.2
    obtain ⟨R, hR⟩ : ∃ R, R = (thF (mI m 30 4) G yr).2 := ⟨_, rfl⟩
    -- the model
    have mod : ∀ m1, Same Scr m m1 → ∀ Q2 : Option Value → pMem → Prop, (∀ m2, Inv m2 → Q2 (some (.int R)) m2) → Cl X 7 mX12_thieves [.ref 535, .int (nI yr), .int (nI dn), .int p, .int w] m1 Q2 := by
      intro m1 hs Q2 h2
      have hW1 := hW.sm hs.2
      have g : ∀ j, j < 9 → mI m1 536 j = mI m 536 j := fun j hj => hs.1 _ _ (fun y => by unfold Scr at y; omega)
      refine pCl_of (by decide +kernel) (Nat.le_of_ble_eq_true rfl) rfl (bX12_thieves_0 hW1 (fun _ _ _ _ _ => ?_) (fun _ _ _ _ z => absurd w2 z) (fun _ _ _ z => absurd pp2 z) (fun _ _ z => absurd n2 z) (fun _ z => absurd x2 z) (fun z => absurd ((g 0 (by omega)).trans c1) z))
      refine s_keeps hW1 (fun mk hk1 => ?_)
      have kp : Kp m mk := ⟨hs.tr hk1.1, fun j hj => (hk1.2 j hj).trans (fm_c (by omega) (fun a b z => hs.1 _ _ (fun y => by unfold Scr at y; omega)))⟩
      refine bX12_thieves_76 (hW.sm kp.1.2) ?_
      rw [show mI m1 536 7 = mI m 30 4 from (g 7 (by omega)).trans v7.symm]
      refine upTo (P := fun t => ∀ m4, Kp m m4 → Go X 7 mX12_thieves Q2 79 [(0, .ref 535), (1, .int (nI yr)), (2, .int (nI dn)), (3, .int p), (4, .int w), (5, .int (mI m 30 4)), (6, .int (thF (mI m 30 4) G t).1), (7, .int (thF (mI m 30 4) G t).2), (8, .int (nI t))] [] m4) yr ?_ ?_ 0 (Nat.zero_le _) mk kp
      · intro m4 k4
        refine bX12_thieves_79 (hW.sm k4.1.2) (fun _ => ?_) (fun z => absurd (Int32.le_refl _) z)
        rw [uI_id (show mI m4 536 7 = mI m 30 4 from (k4.1.1 _ _ (fun y => by unfold Scr at y; omega)).trans v7.symm), ← hR]
        exact h2 m4 (Inv_scr h k4.1)
      · intro t ht ih m4 k4
        refine bX12_thieves_79 (hW.sm k4.1.2) (fun z => absurd z (nI_ge ht (by omega))) (fun _ => ?_)
        obtain ⟨tm4, ag4, g64⟩ := tm_keep hv0 k4
        have step : thF (mI m 30 4) G (t + 1) = ((G (thF (mI m 30 4) G t).1).1, (thF (mI m 30 4) G t).2 + (G (thF (mI m 30 4) G t).1).2) := rfl
        have yn := nn t
        obtain ⟨y, hy0⟩ : ∃ y, y = (thF (mI m 30 4) G t).1 := ⟨_, rfl⟩
        obtain ⟨S, hS⟩ : ∃ S, S = (thF (mI m 30 4) G t).2 := ⟨_, rfl⟩
        rw [← hy0] at yn step ⊢
        rw [← hS] at step ⊢
        obtain ⟨e1, e2⟩ := mG y _ yn ag4
        refine upTo (P := fun i => ∀ m5, Tm m m5 P Sg (dayR dM rb (y, mSt m4) i).2 → mI m5 536 7 = (dayR dM rb (y, mSt m4) i).1 → (∀ j, j < 5 → mI m5 536 j = mI m 536 j) → mI m5 536 8 = mI m 536 8 → Go X 7 mX12_thieves Q2 97 [(0, .ref 535), (1, .int (nI yr)), (2, .int (nI dn)), (3, .int p), (4, .int w), (5, .int (mI m 30 4)), (7, .int S), (8, .int (nI t)), (9, .int (nI i))] [] m5) dn ?_ ?_ 0 (Nat.zero_le _) _ (Tm_u7 tm4) (by rw [mI_uI, if_pos ⟨rfl, rfl⟩]; rfl) (fun j hj => by rw [mI_uI, if_neg (by omega)]; exact g64 j (by omega)) (by rw [mI_uI, if_neg (by omega)]; exact g64 8 (by omega))
        · intro m5 t5 e7 h24 h8
          have hW5 := hW.sm t5.1.2
          have r7 : mI m5 537 = (dayR dM rb (y, mSt m4) dn).2.2.1 := by rw [← t5.2.2.1]; rfl
          have r9 : mI m5 539 = (dayR dM rb (y, mSt m4) dn).2.2.2.2 := by rw [← t5.2.2.1]; rfl
          have r43 : mI m5 543 = mI m 543 := funext fun k => t5.1.1 _ _ (fun w => by unfold ScW Scr at w; omega)
          have fin : ∀ v, v = (G y).2 → Cl X 2 mX12_laysBack [.ref 535] m5 (fun u m2 => Go X 7 mX12_thieves Q2 186 [(0, .ref 535), (1, .int (nI yr)), (2, .int (nI dn)), (3, .int p), (4, .int w), (5, .int (mI m 30 4)), (6, .int (mI m5 536 7)), (7, .int (S + v)), (8, .int (nI t)), (9, .int (nI dn))] (u.toList ++ []) m2) := by
            intro v hv5
            refine s_lays (m0 := m) hW5 t5.2.1 t5.1 (fun m6 h6 => bX12_thieves_186 (hW.sm h6.1.2) ?_)
            have := ih m6 h6
            rw [step] at this
            rw [hv5, e7, e1, nI_1]
            exact this
          have vP : vp_in (mI m5 536 3) 5 := by rw [h24 3 (by omega), q3]; exact vp_in_nI (by omega) (by decide)
          have vT : vp_in (mI m5 536 4) 7 := by rw [h24 4 (by omega), qT]; exact vp_in_nI (by omega) (by decide)
          have eP : (mI m5 536 3).toNatClampNeg = P := by rw [h24 3 (by omega), q3]; exact nI_clamp (by omega)
          have eT : (mI m5 536 4).toNatClampNeg = T := by rw [h24 4 (by omega), qT]; exact nI_clamp (by omega)
          have eS : mI m5 536 2 = nI Sg := (h24 2 (by omega)).trans q2
          refine bX12_thieves_97 hW5 (fun _ _ => vP) (fun _ _ => tAt_sm _ _ _ (by rw [eP]; omega)) (fun _ z => fin _ ?_) (fun _ _ => vP) (fun _ _ => vT) (fun _ z => fin _ ?_) (fun z => absurd (Int32.le_refl _) z)
          · rw [← e2, hvM, eP, eS, r7]
            exact (if_neg z).symm
          · rw [← e2, hvM, eP, eS, eT, r7, r9, r43]
            exact (if_pos z).symm
        · intro i hi ih2 m5 t5 e7 h24 h8
          have hW5 := hW.sm t5.1.2
          have nxt : ∀ m6 o, rb (dayR dM rb (y, mSt m4) i).1 = (mI m6 536 7, o) → Tm m m6 P Sg (woO (dayR dM rb (y, mSt m4) i).2 o) → (∀ j, j < 5 → mI m6 536 j = mI m 536 j) → mI m6 536 8 = mI m 536 8 → Cl X 6 mX12_goes [.ref 535] m6 (fun v m2 => Go X 7 mX12_thieves Q2 142 [(0, .ref 535), (1, .int (nI yr)), (2, .int (nI dn)), (3, .int p), (4, .int w), (5, .int (mI m 30 4)), (7, .int S), (8, .int (nI t)), (9, .int (nI i))] (v.toList ++ []) m2) := by
            intro m6 o er t6 h24' h8'
            refine tm_day hW (okE_w t6.1 h8' oke) okm0 h24' t6 (fun m7 hm7 t7 => ?_)
            refine bX12_thieves_142 (hW.sm t7.1.2) ?_
            rw [nI_1]
            have k6 : ∀ j, j ≠ 5 → mI m7 536 j = mI m6 536 j := fun j hj => hm7.1 _ _ (fun w => by unfold ScM at w; omega)
            refine ih2 m7 ?_ ?_ (fun j hj => (k6 j (by omega)).trans (h24' j hj)) ((k6 8 (by omega)).trans h8')
            · show Tm m m7 P Sg (dM (woO (dayR dM rb (y, mSt m4) i).2 (rb (dayR dM rb (y, mSt m4) i).1).2))
              have e : ∀ s, dM s = (dayF E (mRd m) T T P s).2 := fun s => by rw [hdM]
              rw [e, er]
              exact t7
            · show mI m7 536 7 = (rb (dayR dM rb (y, mSt m4) i).1).1
              rw [er, k6 7 (by omega)]
          refine bX12_thieves_97 hW5 (fun z => absurd z (nI_ge hi (by omega))) (fun z => absurd z (nI_ge hi (by omega))) (fun z => absurd z (nI_ge hi (by omega))) (fun z => absurd z (nI_ge hi (by omega))) (fun z => absurd z (nI_ge hi (by omega))) (fun z => absurd z (nI_ge hi (by omega))) (fun _ => ?_)
          refine s_draws hW5 (by decide) ?_
          have hWu : Wf (uI m5 536 7 (dr (mI m5 536 7))) := Wf_uI hW5
          have u4 : mI (uI m5 536 7 (dr (mI m5 536 7))) 536 4 = nI T := by rw [mI_uI, if_neg (by omega)]; exact (h24 4 (by omega)).trans qT
          have u7 : mI (uI m5 536 7 (dr (mI m5 536 7))) 536 7 = dr (mI m5 536 7) := by rw [mI_uI, if_pos ⟨rfl, rfl⟩]
          have kk : ∀ j, j < 5 → mI (uI m5 536 7 (dr (mI m5 536 7))) 536 j = mI m 536 j := fun j hj => by rw [mI_uI, if_neg (by omega)]; exact h24 j hj
          have k8 : mI (uI m5 536 7 (dr (mI m5 536 7))) 536 8 = mI m 536 8 := by rw [mI_uI, if_neg (by omega)]; exact h8
          have xn := (dayR_ag rbok hd (c := (y, cSt (cpS m 523 37) 523)) (c2 := (y, mSt m4)) rfl (ag4 _ tc0.2) tc0.1.2.2 yn i)
          have xn2 : ¬ mI m5 536 7 < 0 := by rw [e7, ← xn.1]; exact xn.2.2.2
          refine bX12_thieves_109 hWu (fun z => ?_) (fun z1 z2 => ?_) (fun z1 z2 => ?_)
          · refine nxt _ none ?_ (Tm_u7 t5) kk k8
            rw [u7, ← e7, hrb]
            exact if_pos (Or.inl z)
          · refine nxt _ none ?_ (Tm_u7 t5) kk k8
            rw [u7, ← e7, hrb]
            refine if_pos (Or.inr ?_)
            rw [u4] at z2
            exact Nat.le_zero.mp (nI_le' (a := T) (b := 0) (by omega) (by decide) z2)
          · rw [u4] at z2 ⊢
            have T0 : 0 < T := Nat.pos_of_ne_zero (fun z => z2 (by rw [z]; exact Int32.le_refl _))
            refine s_draws hWu (nI_ne0 T0 (by omega)) ?_
            rw [u7]
            obtain ⟨k, hk, ek⟩ := rm_in (dr_nn (dr_nn xn2)) T0 p6
            refine bX12_thieves_136 (Wf_uI hWu) (s12_4 sh535) (by rw [ek]; exact vp_in_nI (by omega) (by decide)) ?_
            refine nxt _ (some (rmI (dr (dr (mI m5 536 7)) / (65536 : Int32)) (nI T)).toNatClampNeg) ?_ (Tm_uw (Tm_u7 (Tm_u7 t5))) (fun j hj => by rw [mI_uI, if_neg (by omega), mI_uI, if_neg (by omega)]; exact kk j hj) (by rw [mI_uI, if_neg (by omega), mI_uI, if_neg (by omega)]; exact k8)
            rw [mI_uI, if_neg (by omega), mI_uI, if_pos ⟨rfl, rfl⟩, ← e7, hrb]
            exact if_neg (fun w => w.elim z1 (fun w => by omega))
    -- the class
    have z1 : ¬ mI m 31 0 = 0 := told.mpr c1
    refine pCl_of (by decide +kernel) (Nat.le_of_ble_eq_true rfl) rfl (bX11_thieves_0 hW (fun z => absurd z z1) (fun _ z => absurd z x2.1) (fun _ _ z => absurd z x2.2) (fun _ _ _ z => absurd z n2.1) (fun _ _ _ _ z => absurd z n2.2) (fun _ _ _ _ _ z => absurd z pp2.1) (fun _ _ _ _ _ _ z => absurd z pp2.2) (fun _ _ _ _ _ _ _ z => absurd z w2.1) (fun _ _ _ _ _ _ _ _ _ => ?_) (fun _ _ _ _ _ _ _ _ z => absurd (Int32.not_lt.mp w2.2) z))
    refine upTo (P := fun t => ∀ m4, Same Scr m m4 → Go X 5 mX11_thieves Q 73 [(0, .ref 0), (1, .int (nI yr)), (2, .int (nI dn)), (3, .int p), (4, .int w), (5, .int (thF (mI m 30 4) G t).1), (6, .int (thF (mI m 30 4) G t).2), (7, .int (nI t))] [] m4) yr ?_ ?_ 0 (Nat.zero_le _) m Same.rf
    · intro m4 s4
      refine bX11_thieves_73 (hW.sm s4.2) (fun _ => ?_) (fun z => absurd (Int32.le_refl _) z)
      rw [← hR]
      exact K R m4 (hW.sm s4.2) (fun Q2 h2 => mod m4 s4 Q2 h2)
    · intro t ht ih m4 s4
      refine bX11_thieves_73 (hW.sm s4.2) (fun z => absurd z (nI_ge ht (by omega))) (fun _ => ?_)
      have tc4 := tr_copy hv0 s4
      have step : thF (mI m 30 4) G (t + 1) = ((G (thF (mI m 30 4) G t).1).1, (thF (mI m 30 4) G t).2 + (G (thF (mI m 30 4) G t).1).2) := rfl
      have yn := nn t
      obtain ⟨y, hy0⟩ : ∃ y, y = (thF (mI m 30 4) G t).1 := ⟨_, rfl⟩
      obtain ⟨S, hS⟩ : ∃ S, S = (thF (mI m 30 4) G t).2 := ⟨_, rfl⟩
      rw [← hy0] at yn step ⊢
      rw [← hS] at step ⊢
      obtain ⟨e1, e2, _⟩ := cG y _ yn tc4.2 tc4.1.2.2
      refine upTo (P := fun i => ∀ m5, Tr m m5 P Sg (dayR dC rb (y, cSt (cpS m4 523 37) 523) i).2 → Go X 5 mX11_thieves Q 96 [(0, .ref 0), (1, .int (nI yr)), (2, .int (nI dn)), (3, .int p), (4, .int w), (5, .int (dayR dC rb (y, cSt (cpS m4 523 37) 523) i).1), (6, .int S), (7, .int (nI t)), (8, .int (nI i))] [] m5) dn ?_ ?_ 0 (Nat.zero_le _) _ tc4.1
      · intro m5 t5
        have hW5 := hW.sm t5.1.2
        have e4 := cSt_eq t5.2.1
        have g : ∀ a k, a ≤ 36 → 30 ≤ a → mI m5 a k = mI m a k := fun a k z1 z2 => t5.1.1 _ _ (fun w => by unfold Scr at w; omega)
        have vP : vp_in (mI m5 31 3) 5 := by rw [g _ _ (by omega) (by omega), p3]; exact vp_in_nI (by omega) (by decide)
        have eP : (mI m5 31 3).toNatClampNeg = P := by rw [g _ _ (by omega) (by omega), p3]; exact nI_clamp (by omega)
        have eS : mI m5 31 2 = nI Sg := (g _ _ (by omega) (by omega)).trans p2
        have fin : ∀ v, v = (G y).2 → Go X 5 mX11_thieves Q 73 [(0, .ref 0), (1, .int (nI yr)), (2, .int (nI dn)), (3, .int p), (4, .int w), (5, .int (dayR dC rb (y, cSt (cpS m4 523 37) 523) dn).1), (6, .int (S + v)), (7, .int (nI t + (1 : Int32)))] [] m5 := by
          intro v hv5
          have := ih m5 t5.1
          rw [step] at this
          rw [hv5, e1, nI_1]
          exact this
        refine bX11_thieves_96 hW5 (fun _ _ => vP) (fun _ _ => tAt_sm _ _ _ (by rw [eP]; omega)) (fun _ z => fin _ ?_) (fun _ _ => vP) (fun _ z => fin _ ?_) (fun z => absurd (Int32.le_refl _) z)
        · rw [← e2, hvC, eP, eS, show mI m5 524 = _ from e4.2.1]
          exact (if_neg z).symm
        · rw [← e2, hvC, eP, eS, show mI m5 524 = _ from e4.2.1, show mI m5 526 = _ from e4.2.2.2, show mI m5 35 = mI m 35 from funext fun k => g _ _ (by omega) (by omega)]
          exact (if_pos z).symm
      · intro i hi ih2 m5 t5
        have hW5 := hW.sm t5.1.2
        have xn := (dayR_ag rbok hd (c := (y, cSt (cpS m4 523 37) 523)) (c2 := (y, mSt m)) rfl tc4.2 tc4.1.2.2 yn i).2.2.2
        refine bX11_thieves_96 hW5 (fun z => absurd z (nI_ge hi (by omega))) (fun z => absurd z (nI_ge hi (by omega))) (fun z => absurd z (nI_ge hi (by omega))) (fun z => absurd z (nI_ge hi (by omega))) (fun z => absurd z (nI_ge hi (by omega))) (fun _ => ?_)
        refine s_robDraw hrb hW pT p6 xn t5 (fun m6 t6 => ?_)
        have hW6 := hW.sm t6.1.2
        have g : ∀ a k, a ≤ 36 → 30 ≤ a ∨ a = 0 → mI m6 a k = mI m a k := fun a k z1 z2 => t6.1.1 _ _ (fun w => by unfold Scr at w; omega)
        refine bX11_thieves_109 hW6 ?_
        refine s_inForce hW6 hr.1 ((g _ _ (by omega) (by omega)).trans hr.2.1) (by rw [g _ _ (by omega) (by omega)]; exact v12) ?_
        rw [g 30 3 (by omega) (by omega)]
        have dy : Cl X 4 mX0_oneDay [.ref 512, .ref 523, rvO (roOf (mI m 30 3))] m6 (fun v m2 => Go X 5 mX11_thieves Q 126 [(0, .ref 0), (1, .int (nI yr)), (2, .int (nI dn)), (3, .int p), (4, .int w), (5, .int (rb (dayR dC rb (y, cSt (cpS m4 523 37) 523) i).1).1), (6, .int S), (7, .int (nI t)), (8, .int (nI i))] (v.toList ++ []) m2) := by
          refine tr_day hW rok okd0 t6 (fun m7 t7 => ?_)
          refine bX11_thieves_126 (hW.sm t7.1.2) ?_
          rw [nI_1]
          refine ih2 m7 ?_
          show Tr m m7 P Sg (dC (woO (dayR dC rb (y, cSt (cpS m4 523 37) 523) i).2 (rb (dayR dC rb (y, cSt (cpS m4 523 37) 523) i).1).2))
          have e : ∀ s, dC s = (dayF (cEv m (roOf (mI m 30 3))) (cRd m 31) 6 T P s).2 := fun s => by rw [hdC]
          rw [e]
          exact t7
        cases hro : roOf (mI m 30 3) with
        | none => rw [hro] at dy; exact bX11_thieves_123v1 hW6 sh523 dy
        | some r => rw [hro] at dy rok; exact bX11_thieves_123 hW6 (rok r rfl).1 sh523 dy
  · have bad : Q (some (.int (-1))) m := K _ m hW (fun Q2 h2 => pCl_of (by decide +kernel) (Nat.le_of_ble_eq_true rfl) rfl (bX12_thieves_0 hW (fun z1 z2 z3 z4 z5 => absurd ⟨z1, (inI1 (a := 10) (by decide)).mp z2, (inI1 (a := 60) (by decide)).mp z3, (inI (a := 100) (by decide)).mp z4, (inI (a := 1) (by decide)).mp z5⟩ c) (fun _ _ _ _ _ => h2 m h) (fun _ _ _ _ => h2 m h) (fun _ _ _ => h2 m h) (fun _ _ => h2 m h) (fun _ => h2 m h)))
    exact pCl_of (by decide +kernel) (Nat.le_of_ble_eq_true rfl) rfl (bX11_thieves_0 hW (fun _ => bad) (fun _ _ => bad) (fun _ _ _ => bad) (fun _ _ _ _ => bad) (fun _ _ _ _ _ => bad) (fun _ _ _ _ _ _ => bad) (fun _ _ _ _ _ _ _ => bad) (fun _ _ _ _ _ _ _ _ => bad) (fun z1 z2 z3 z4 z5 z6 z7 z8 z9 => absurd ⟨told.mp z1, (inI1 (a := 10) (by decide)).mp ⟨z2, z3⟩, (inI1 (a := 60) (by decide)).mp ⟨z4, z5⟩, (inI (a := 100) (by decide)).mp ⟨z6, z7⟩, (inI (a := 1) (by decide)).mp ⟨z8, Int32.not_lt.mpr z9⟩⟩ c) (fun _ _ _ _ _ _ _ _ _ => bad))
end T10
