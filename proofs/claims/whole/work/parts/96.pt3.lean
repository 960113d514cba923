/-! ===== pairs: robbed ===== -/
theorem inI1 {x : Int32} {a : Nat} (ha : a < 2 ^ 31) : (¬ x < (1 : Int32) ∧ ¬ nI a < x) ↔ ∃ k, 1 ≤ k ∧ k ≤ a ∧ x = nI k := by
  constructor
  · rintro ⟨h1, h2⟩
    have h0 : ¬ x < 0 := fun z => h1 (Int32.lt_trans z (by decide))
    obtain ⟨k, hk, rfl⟩ := nI_of h0
    exact ⟨k, Nat.not_lt.mp fun z => h1 (nI_lt (a := k) (b := 1) z (by decide)), Nat.not_lt.mp fun z => h2 (nI_lt z hk), rfl⟩
  · rintro ⟨k, h1, hk, rfl⟩
    exact ⟨nI_nlt (a := k) (b := 1) h1 (by omega), nI_nlt hk ha⟩
/-- which is best to rob: t things are through -/
def robF (base : Int32) (v : Nat → Int32) : Nat → Int32 × Int32
  | 0 => (-1, base)
  | t + 1 => if (robF base v t).2 < v t then (nI t, v t) else robF base v t
theorem robF_le (base : Int32) (v : Nat → Int32) : ∀ t, base ≤ (robF base v t).2
  | 0 => Int32.le_refl _
  | t + 1 => by
    unfold robF
    by_cases c : (robF base v t).2 < v t
    · rw [if_pos c]; exact Int32.le_trans (robF_le base v t) (Int32.le_of_lt c)
    · rw [if_neg c]; exact robF_le base v t
theorem robF_c {base : Int32} {v v2 : Nat → Int32} {T : Nat} (h : ∀ t, t < T → v t = v2 t) : ∀ t, t ≤ T → robF base v t = robF base v2 t
  | 0, _ => rfl
  | t + 1, ht => by unfold robF; rw [robF_c h t (by omega), h t (by omega)]
/-- a state without a thing -/
def woS (s : ST) (t : Nat) : ST := (s.1, s.2.1, s.2.2.1, upd s.2.2.2 t (-1))
theorem woS_ag {T t : Nat} {s s2 : ST} (h : AgT T s s2) (ht : t < T) : AgT T (woS s t) (woS s2 t) := ⟨h.1, h.2.1, h.2.2.1, h.2.2.2.upd ht⟩
section T7
variable {X : pX} {Q : Option Value → pMem → Prop} {m m0 : pMem}
/-- the class's wealth of a state tried -/
def cWe (m0 : pMem) (Sg P : Nat) (s : ST) : Int32 := wSum (mI m0 35) (tTown s.2.1 s.2.2.2 (nI Sg) 6 P) 6
theorem s_without {nr P Sg T N M d K : Nat} {x : Int32} (hW : Wf m0) (hr : RulesI m0 nr) (hv : Vw m0 nr P Sg T N M d) (hs : Same Scr m0 m) (hK : K < 2 ^ 31)
    (h1 : ∀ m2, Same Scr m0 m2 → (x = -1 → Q (some (.int (cWe m0 Sg P (dayN (cEv m0 (roOf (mI m0 30 3))) (cRd m0 31) 6 T P (cSt (cpS m 523 37) 523) K)))) m2) ∧ ∀ t, t < T → x = nI t → Q (some (.int (cWe m0 Sg P (dayN (cEv m0 (roOf (mI m0 30 3))) (cRd m0 31) 6 T P (woS (cSt (cpS m 523 37) 523) t) K)))) m2)
    (hx : x = -1 ∨ ∃ t, t < T ∧ x = nI t) : Cl X 6 mX11_wealthWithout [.ref 0, .int x, .int (nI K)] m Q := by
  have tc := (tr_copy hv hs).1
  obtain ⟨⟨okd, _⟩, _, _, _, v12, _⟩ := hv
  have okd0 := okd
  obtain ⟨p3, p4, p2, p8, pT, p6⟩ := okd
  have rok := (rule_ev hr v12).1
  have hWm := hW.sm hs.2
  have g4 : mI (cpS m 523 37) 31 4 = nI T := (tc.1.1 _ _ (fun w => by unfold Scr at w; omega)).trans pT
  -- from a trial on
  have go : ∀ m1 s, Tr m0 m1 P Sg s → (∀ m2, Same Scr m0 m2 → Q (some (.int (cWe m0 Sg P (dayN (cEv m0 (roOf (mI m0 30 3))) (cRd m0 31) 6 T P s K)))) m2) → Cl X 1 mX11_inForce [.ref 0] m1 (fun v m2 => Go X 6 mX11_wealthWithout Q 50 [(0, .ref 0), (1, .int x), (2, .int (nI K))] (v.toList ++ [.ref 523, .ref 512]) m2) := by
    intro m1 s t1 hq
    have hW1 := hW.sm t1.1.2
    have e30 : mI m1 30 3 = mI m0 30 3 := t1.1.1 _ _ (fun w => by unfold Scr at w; omega)
    have e04 : mI m1 0 4 = mI m0 0 4 := t1.1.1 _ _ (fun w => by unfold Scr at w; omega)
    refine s_inForce hW1 hr.1 (e04.trans hr.2.1) (by rw [e30]; exact v12) ?_
    rw [e30]
    have dy : Cl X 5 mX0_goOn [.ref 512, .ref 523, rvO (roOf (mI m0 30 3)), .int (nI K)] m1 (fun v m2 => Go X 6 mX11_wealthWithout Q 54 [(0, .ref 0), (1, .int x), (2, .int (nI K))] (v.toList ++ []) m2) := by
      refine tr_goOn hW rok okd0 hK t1 (fun m2 h2 => ?_)
      have e4 := cSt_eq h2.2.1
      have g : ∀ a k, a ≤ 36 → 30 ≤ a → mI m2 a k = mI m0 a k := fun a k z1 z2 => h2.1.1 _ _ (fun w => by unfold Scr at w; omega)
      refine bX11_wealthWithout_54 (hW.sm h2.1.2) (by rw [g _ _ (by omega) (by omega), p3]; exact vp_in_nI (by omega) (by decide)) ?_
      rw [g 31 2 (by omega) (by omega), g 31 3 (by omega) (by omega), p2, p3, nI_clamp (by omega), show mI m2 35 = mI m0 35 from funext fun k => g _ _ (by omega) (by omega), show mI m2 524 = _ from e4.2.1, show mI m2 526 = _ from e4.2.2.2]
      exact hq m2 h2.1
    cases hro : roOf (mI m0 30 3) with
    | none => rw [hro] at dy; exact bX11_wealthWithout_50v1 hW1 sh523 dy
    | some r => rw [hro] at dy rok; exact bX11_wealthWithout_50 hW1 (rok r rfl).1 sh523 dy
  refine pCl_of (by decide +kernel) (Nat.le_of_ble_eq_true rfl) rfl (bX11_wealthWithout_0 hWm (fun z => vp_in_cmp (N := 6) z.1 z.2.2 (by decide)) (fun z => ?_) (fun z => ?_))
  · obtain ⟨t, ht, rfl⟩ := (perC (z := 6) g4 (K := 6) rfl p6 (by decide)).mp z
    rw [nI_clamp (by omega)]
    refine go _ (woS (cSt (cpS m 523 37) 523) t) ⟨⟨fun a k w => ?_, fun x y => tc.1.2 x y⟩, ?_, ?_⟩ (fun m2 h2 => (h1 m2 h2).2 t ht rfl)
    · rw [mI_uI, if_neg (fun y => w (by unfold Scr; omega))]; exact tc.1.1 a k w
    · have f0 : mI (uI (cpS m 523 37) 526 t (-1)) 523 0 = mI (cpS m 523 37) 523 0 := by rw [mI_uI, if_neg (by omega)]
      have f1 : mI (uI (cpS m 523 37) 526 t (-1)) 524 = mI (cpS m 523 37) 524 := funext fun k => by rw [mI_uI, if_neg (by omega)]
      have f2 : mI (uI (cpS m 523 37) 526 t (-1)) 525 = mI (cpS m 523 37) 525 := funext fun k => by rw [mI_uI, if_neg (by omega)]
      have f3 : mI (uI (cpS m 523 37) 526 t (-1)) 526 = upd (mI (cpS m 523 37) 526) t (-1) := funext fun k => by
        rw [mI_uI]
        by_cases e : k = t
        · rw [if_pos ⟨rfl, e⟩, e, pk_us]
        · rw [if_neg (fun q => e q.2), pk_un e]
      show (mI (uI (cpS m 523 37) 526 t (-1)) 523 0, mI (uI (cpS m 523 37) 526 t (-1)) 524, mI (uI (cpS m 523 37) 526 t (-1)) 525, mI (uI (cpS m 523 37) 526 t (-1)) 526) = woS (cSt (cpS m 523 37) 523) t
      rw [f0, f1, f2, f3]
      rfl
    · exact tc.2.2
  · have hx1 : x = -1 := by
      rcases hx with e | ⟨t, ht, e⟩
      · exact e
      · exact absurd ((perC (z := 6) g4 (K := 6) rfl p6 (by decide)).mpr ⟨t, ht, e⟩) z
    exact go _ _ tc (fun m2 h2 => (h1 m2 h2).1 hx1)
end T7
section T8
variable {X : pX}
theorem p_robbed {n w : Int32} : Pair X 7 9 mX11_robbed mX12_robbed [.int n, .int w] := by
  intro m h Q K
  obtain ⟨hW, hC, hT, nr, P, Sg, T, N, M, d, f, hr, hi, hf, hw, hv⟩ := Inv_open h
  have hv0 := hv
  have told := told_iff hv
  obtain ⟨E, oke, rok, age, days⟩ := both_days hr hv
  obtain ⟨_, _, _, w43, _, _, s3⟩ := rows_of hv
  obtain ⟨⟨okd, okm, agd, agt, hpl⟩, _⟩ := hv
  obtain ⟨p3, p4, p2, p8, pT, p6⟩ := okd
  have okm0 := okm
  obtain ⟨q3, _, q2, _, qT, _⟩ := okm
  by_cases c : mI m 536 0 = 1 ∧ (∃ k, 1 ≤ k ∧ k ≤ 60 ∧ n = nI k) ∧ ∃ k, k ≤ 1 ∧ w = nI k
  · obtain ⟨c1, c2, c3⟩ := c
    have n2 := (inI1 (a := 60) (by decide)).mpr c2
    have w2 := (inI (a := 1) (by decide)).mpr c3
    obtain ⟨k, hk1, hk, rfl⟩ := c2
    -- the wealths, as the model has them
    obtain ⟨B, hB⟩ : ∃ B, B = wTown (mI m 543) (dayN E (mRd m) T T P (mSt m) k).2.1 (dayN E (mRd m) T T P (mSt m) k).2.2.2 (nI Sg) T P := ⟨_, rfl⟩
    obtain ⟨V, hV⟩ : ∃ V : Nat → Int32, V = fun t => wTown (mI m 543) (dayN E (mRd m) T T P (woS (mSt m) t) k).2.1 (dayN E (mRd m) T T P (woS (mSt m) t) k).2.2.2 (nI Sg) T P := ⟨_, rfl⟩
    have cB : ∀ s : ST, AgT T s (mSt m) → plOk s.2.1 P Sg → cWe m Sg P (dayN (cEv m (roOf (mI m 30 3))) (cRd m 31) 6 T P s k) = B := by
      intro s h1 h2
      have dd := days _ _ h1 h2 k
      rw [hB]
      exact wealth_ag dd.2.2.2 w43 dd.2.1 p6 p8 p4
    have cV : ∀ (s : ST) t, t < T → AgT T s (mSt m) → plOk s.2.1 P Sg → cWe m Sg P (dayN (cEv m (roOf (mI m 30 3))) (cRd m 31) 6 T P (woS s t) k) = V t := by
      intro s t ht h1 h2
      have dd := days _ _ (woS_ag h1 ht) h2 k
      rw [hV]
      exact wealth_ag dd.2.2.2 w43 dd.2.1 p6 p8 p4
    -- the model's rows, laid back, give the same wealths
    have mB : ∀ s : ST, (∀ s1 : ST, AgT T s1 (mSt m) → AgT T s1 s) → wTown (mI m 543) (dayN E (mRd m) T T P s k).2.1 (dayN E (mRd m) T T P s k).2.2.2 (nI Sg) T P = B := by
      intro s hs
      have tc := tr_copy hv0 (Same.rf (m := m))
      have dd := days _ _ (hs _ tc.2) tc.1.2.2 k
      rw [← cB _ tc.2 tc.1.2.2]
      exact (wealth_ag dd.2.2.2 w43 dd.2.1 p6 p8 p4).symm
    have mV : ∀ (s : ST) t, t < T → (∀ s1 : ST, AgT T s1 (mSt m) → AgT T s1 s) → wTown (mI m 543) (dayN E (mRd m) T T P (woS s t) k).2.1 (dayN E (mRd m) T T P (woS s t) k).2.2.2 (nI Sg) T P = V t := by
      intro s t ht hs
      have tc := tr_copy hv0 (Same.rf (m := m))
      have dd := days _ _ (woS_ag (hs _ tc.2) ht) tc.1.2.2 k
      rw [← cV _ t ht tc.2 tc.1.2.2]
      exact (wealth_ag dd.2.2.2 w43 dd.2.1 p6 p8 p4).symm
    -- what is robbed already changes nothing
    have gone : ∀ t, t < T → mI m 539 t = -1 → V t = B := by
      intro t ht e
      have : woS (mSt m) t = mSt m := by
        unfold woS
        have : upd (mSt m).2.2.2 t (-1) = (mSt m).2.2.2 := by
          funext y
          by_cases e2 : y = t
          · rw [e2, pk_us]; exact e.symm
          · rw [pk_un e2]
        rw [this]
      rw [hV, hB]
      simp only [this]
    obtain ⟨R, hR⟩ : ∃ R, R = robF B V T := ⟨_, rfl⟩
    -- the model
    have mod : ∀ m1, Same Scr m m1 → ∀ Q2 : Option Value → pMem → Prop, (∀ m2, Inv m2 → Q2 (some (.int (if w = 0 then R.1 else R.2))) m2) → Cl X 9 mX12_robbed [.ref 535, .int (nI k), .int w] m1 Q2 := by
      intro m1 hs Q2 h2
      have hW1 := hW.sm hs.2
      have g : ∀ j, j < 9 → mI m1 536 j = mI m 536 j := fun j hj => hs.1 _ _ (fun y => by unfold Scr at y; omega)
      refine pCl_of (by decide +kernel) (Nat.le_of_ble_eq_true rfl) rfl (bX12_robbed_0 hW1 (fun _ _ _ => ?_) (fun _ _ z => absurd w2 z) (fun _ z => absurd n2 z) (fun z => absurd ((g 0 (by omega)).trans c1) z))
      refine s_keeps hW1 (fun mk hk1 => ?_)
      have kp : Kp m mk := ⟨hs.tr hk1.1, fun j hj => (hk1.2 j hj).trans (fm_c (by omega) (fun a b z => hs.1 _ _ (fun y => by unfold Scr at y; omega)))⟩
      obtain ⟨tm, ag, g6⟩ := tm_keep hv0 kp
      refine bX12_robbed_36 (hW.sm kp.1.2) ?_
      refine s_wealthIn hW (okE_w tm.1 (g6 8 (by omega)) oke) okm0 (by omega) (fun j hj => g6 j (by omega)) tm (fun m3 k3 => ?_)
      rw [mB _ ag]
      refine bX12_robbed_41 (hW.sm k3.1.2) ?_
      have key := upTo (P := fun t => ∀ m4, Kp m m4 → Go X 9 mX12_robbed Q2 48 [(0, .ref 535), (1, .int (nI k)), (2, .int w), (3, .int (robF B V t).2), (4, .int (robF B V t).1), (5, .int (nI t))] [] m4) T ?_ ?_ 0 (Nat.zero_le _) m3 k3
      · exact key
      · intro m4 k4
        have e4 : mI m4 536 4 = nI T := (k4.1.1 _ _ (fun y => by unfold Scr at y; omega)).trans qT
        have hz : mI m4 536 4 ≤ nI T := by rw [e4]; exact Int32.le_refl _
        have fin := h2 m4 (Inv_scr h k4.1)
        rw [hR] at fin
        refine bX12_robbed_48 (hW.sm k4.1.2) (fun _ z => ?_) (fun _ z => ?_) (fun z => absurd hz z) (fun z => absurd hz z) (fun z => absurd hz z) (fun z => absurd hz z)
        · rw [if_neg z] at fin; exact fin
        · rw [if_pos z] at fin; exact fin
      · intro t ht ih m4 k4
        have hW4 := hW.sm k4.1.2
        have e4 : mI m4 536 4 = nI T := (k4.1.1 _ _ (fun y => by unfold Scr at y; omega)).trans qT
        have hlt : ¬ mI m4 536 4 ≤ nI t := by rw [e4]; exact nI_ge ht (by omega)
        have et : (nI t).toNatClampNeg = t := nI_clamp (by omega)
        have vt : vp_in (nI t) 6 := vp_in_nI (by omega) (by decide)
        have e9 : mI m4 539 t = mI m 539 t := k4.1.1 _ _ (fun y => by unfold Scr at y; omega)
        have step : robF B V (t + 1) = if (robF B V t).2 < V t then (nI t, V t) else robF B V t := rfl
        refine bX12_robbed_48 hW4 (fun z => absurd z hlt) (fun z => absurd z hlt) (fun _ => vt) (fun _ z => ?_) (fun _ _ => vt) (fun _ z => ?_)
        · rw [et, e9] at z
          rw [nI_1]
          have := ih m4 k4
          rw [step, if_neg (by rw [gone t ht z]; exact Int32.not_lt.mpr (robF_le B V t))] at this
          exact this
        · rw [et]
          obtain ⟨tm4, ag4, g64⟩ := tm_keep hv0 k4
          have tmu : Tm m (uI m4 539 t (-1)) P Sg (woS (mSt m4) t) := by
            refine ⟨⟨fun a y z1 => by rw [mI_uI, if_neg (fun q => z1 (Or.inr (by omega)))]; exact tm4.1.1 a y z1, fun x y => tm4.1.2 x y⟩, fun j hj => by rw [mI_uI, if_neg (by omega)]; exact tm4.2.1 j hj, ?_, tm4.2.2.2⟩
            have f0 : mI (uI m4 539 t (-1)) 536 5 = mI m4 536 5 := by rw [mI_uI, if_neg (by omega)]
            have f1 : mI (uI m4 539 t (-1)) 537 = mI m4 537 := funext fun k => by rw [mI_uI, if_neg (by omega)]
            have f2 : mI (uI m4 539 t (-1)) 538 = mI m4 538 := funext fun k => by rw [mI_uI, if_neg (by omega)]
            have f3 : mI (uI m4 539 t (-1)) 539 = upd (mI m4 539) t (-1) := funext fun k => by
              rw [mI_uI]
              by_cases e : k = t
              · rw [if_pos ⟨rfl, e⟩, e, pk_us]
              · rw [if_neg (fun q => e q.2), pk_un e]
            unfold mSt woS
            rw [f0, f1, f2, f3]
          refine s_wealthIn hW (okE_w tmu.1 (by rw [mI_uI, if_neg (by omega)]; exact g64 8 (by omega)) oke) okm0 (by omega) (fun j hj => by rw [mI_uI, if_neg (by omega)]; exact g64 j (by omega)) tmu (fun m5 k5 => ?_)
          rw [mV _ t ht ag4]
          refine bX12_robbed_83 (hW.sm k5.1.2) (fun y => ?_) (fun y => ?_)
          · rw [nI_1]
            have := ih m5 k5
            rw [step, if_neg (Int32.not_lt.mpr y)] at this
            exact this
          · rw [nI_1]
            have := ih m5 k5
            rw [step, if_pos (Int32.not_le.mp y)] at this
            exact this
    -- the class
    have z1 : ¬ mI m 31 0 = 0 := told.mpr c1
    refine pCl_of (by decide +kernel) (Nat.le_of_ble_eq_true rfl) rfl (bX11_robbed_0 hW (fun z => absurd z z1) (fun _ z => absurd z n2.1) (fun _ _ z => absurd z n2.2) (fun _ _ _ z => absurd z w2.1) (fun _ _ _ _ _ => ?_) (fun _ _ _ _ z => absurd (Int32.not_lt.mp w2.2) z))
    have tc := tr_copy hv0 (Same.rf (m := m))
    refine s_without hW hr hv0 Same.rf (by omega) (fun m2 hs2 => ⟨fun _ => ?_, fun t ht e => absurd e.symm (nI_neM (by omega))⟩) (Or.inl rfl)
    rw [cB _ tc.2 tc.1.2.2]
    refine bX11_robbed_44 (hW.sm hs2.2) ?_
    refine upTo (P := fun t => ∀ m4, Same Scr m m4 → Go X 7 mX11_robbed Q 49 [(0, .ref 0), (1, .int (nI k)), (2, .int w), (3, .int (robF B V t).1), (4, .int (robF B V t).2), (5, .int (nI t))] [] m4) T ?_ ?_ 0 (Nat.zero_le _) m2 hs2
    · intro m4 s4
      have e4 : mI m4 31 4 = nI T := (s4.1 _ _ (fun y => by unfold Scr at y; omega)).trans pT
      have hz : mI m4 31 4 ≤ nI T := by rw [e4]; exact Int32.le_refl _
      have fin := K (if w = 0 then R.1 else R.2) m4 (hW.sm s4.2) (fun Q2 h2 => mod m4 s4 Q2 h2)
      rw [hR] at fin
      refine bX11_robbed_49 (hW.sm s4.2) (fun _ z => ?_) (fun _ z => ?_) (fun z => absurd hz z)
      · rw [if_neg z] at fin; exact fin
      · rw [if_pos z] at fin; exact fin
    · intro t ht ih m4 s4
      have e4 : mI m4 31 4 = nI T := (s4.1 _ _ (fun y => by unfold Scr at y; omega)).trans pT
      have hlt : ¬ mI m4 31 4 ≤ nI t := by rw [e4]; exact nI_ge ht (by omega)
      have step : robF B V (t + 1) = if (robF B V t).2 < V t then (nI t, V t) else robF B V t := rfl
      have tc4 := tr_copy hv0 s4
      refine bX11_robbed_49 (hW.sm s4.2) (fun z => absurd z hlt) (fun z => absurd z hlt) (fun _ => ?_)
      refine s_without hW hr hv0 s4 (by omega) (fun m5 s5 => ⟨fun e => absurd e (nI_neM (by omega)), fun t2 ht2 e => ?_⟩) (Or.inr ⟨t, ht, rfl⟩)
      obtain rfl : t = t2 := (nI_eq (by omega) (by omega)).mp e
      rw [cV _ t ht tc4.2 tc4.1.2.2]
      refine bX11_robbed_71 (hW.sm s5.2) (fun y => ?_) (fun y => ?_)
      · rw [nI_1]
        have := ih m5 s5
        rw [step, if_neg (Int32.not_lt.mpr y)] at this
        exact this
      · rw [nI_1]
        have := ih m5 s5
        rw [step, if_pos (Int32.not_le.mp y)] at this
        exact this
  · have bad : Q (some (.int (-2))) m := K _ m hW (fun Q2 h2 => pCl_of (by decide +kernel) (Nat.le_of_ble_eq_true rfl) rfl (bX12_robbed_0 hW (fun z1 z2 z3 => absurd ⟨z1, (inI1 (a := 60) (by decide)).mp z2, (inI (a := 1) (by decide)).mp z3⟩ c) (fun _ _ _ => h2 m h) (fun _ _ => h2 m h) (fun _ => h2 m h)))
    exact pCl_of (by decide +kernel) (Nat.le_of_ble_eq_true rfl) rfl (bX11_robbed_0 hW (fun _ => bad) (fun _ _ => bad) (fun _ _ _ => bad) (fun _ _ _ _ => bad) (fun z1 z2 z3 z4 z5 => absurd ⟨told.mp z1, (inI1 (a := 60) (by decide)).mp ⟨z2, z3⟩, (inI (a := 1) (by decide)).mp ⟨z4, Int32.not_lt.mpr z5⟩⟩ c) (fun _ _ _ _ _ => bad))
end T8
