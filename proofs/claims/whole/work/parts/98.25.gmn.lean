theorem ixH {s w c : Nat} (hw : w = 1 ∨ w = 2) : ((4 : Int32) * (nI s + (nI w * nI (3 ^ c)))) + ((2 : Int32) * ((2 : Int32) - nI w)) = nI (4 * (s + w * 3 ^ c) + 2 * (2 - w)) := by
  have e1 : (2 : Int32) - nI w = nI (2 - w) := by rcases hw with rfl | rfl <;> decide
  rw [e1, show (4 : Int32) = nI 4 from rfl, show (2 : Int32) = nI 2 from rfl, nI_mul, nI_add, nI_mul, nI_mul, nI_add]
theorem ixP {s w : Nat} (hw : w = 1 ∨ w = 2) : (((4 : Int32) * nI s) + ((2 : Int32) * ((2 : Int32) - nI w))) + (1 : Int32) = nI (4 * s + 2 * (2 - w) + 1) := by
  have e1 : (2 : Int32) - nI w = nI (2 - w) := by rcases hw with rfl | rfl <;> decide
  rw [e1, show (4 : Int32) = nI 4 from rfl, show (2 : Int32) = nI 2 from rfl, nI_mul, nI_mul, nI_add, nI_1]
section T35
variable {X : pX} {Q : Option Value → pMem → Prop} {m m2 : pMem}
theorem s_mBest {T qx qy L o e s w ps : Nat} {b : Nat → Bool} {my : Nat → Nat → Bool} {en : Nat → Int32} {tb : Nat → Nat → Int32} {p0 : Int32} (hW : Wf m) (hC : ConI m) (qT : mI m 536 4 = nI T) (p6 : T ≤ 6) (hJ : GJ m qx qy L m2) (hs : s < 729) (hw : w = 1 ∨ w = 2) (hps : ps = 0 ∨ ps = 1)
    (ho : tAt (mI m 539) (nI qx) T = nI o) (o64 : o < 64) (he : tAt (mI m 539) (nI qy) T = nI e) (e64 : e < 64) (hq : qx < 4 ∧ qy < 4) (okx : dyOkM (mI m 541) (nI qx) (mI m 537 (nI qx).toNatClampNeg) (mI m 536 2)) (oky : dyOkM (mI m 541) (nI qy) (mI m 537 (nI qy).toNatClampNeg) (mI m 536 2))
    (hb : ∀ t, t < 6 → (((nI L >>> (nI t &&& 31)) &&& (1 : Int32)) = (1 : Int32) ↔ b t = true)) (hbT : ∀ t, b t = true → t < T) (laid : laidS b s)
    (hmy : my s w = true ↔ pcI (nI ((if w = 1 then o else e) ||| tkN (dg s) w 6)) < mI m 536 1) (hen : en s = woM m qx (o ||| tkN (dg s) 1 6) - woM m qy (e ||| tkN (dg s) 2 6))
    (htb : ∀ k, k < 6 → okG (b, my, en) s k = true → mI m2 566 (4 * (s + w * 3 ^ k) + 2 * (2 - w)) = tb (s + w * 3 ^ k) (2 * (2 - w))) (hp : p0 = if ps = 1 then en s else mI m2 566 (4 * s + 2 * (2 - w) + 1))
    (h : ∀ m3, (∀ a y, ¬ (a = 535 ∧ y = 49) → mI m3 a y = mI m2 a y) → (∀ x y, mR m3 x y = mR m2 x y) → mI m3 535 49 = (bst (b, my, en) tb s w p0).2 → Q (some (.int (bst (b, my, en) tb s w p0).1)) m3) : Cl X 4 mX12_bestIn [.ref 535, .int (nI s), .int (nI w), .int (nI ps)] m2 Q := by
  have hJ0 := hJ
  have hW2 := hW.sm hJ.1.2
  have lz : ∀ k, T ≤ k → k < 6 → dg s k = 0 := fun k h1 h2 => Classical.byContradiction fun z => by have := hbT k (laid k h2 z); omega
  have g : ∀ a y, ¬ Scr a y → mI m2 a y = mI m a y := hJ.1.1
  have eT : mI m2 536 4 = nI T := (g _ _ (fun w => by unfold Scr at w; omega)).trans qT
  have e1 : mI m2 536 1 = mI m 536 1 := g _ _ (fun w => by unfold Scr at w; omega)
  have c3 : ∀ (m3 : pMem) k, (∀ a y, ¬ (a = 535 ∧ y = 49) → mI m3 a y = mI m2 a y) → k < 6 → mI m3 567 (nI k).toNatClampNeg = nI (3 ^ k) := fun m3 k f hk => by rw [nI_clamp (by omega), f _ _ (by omega), g _ _ (fun w => by unfold Scr at w; omega)]; exact hC.2 k hk
  obtain ⟨ow, how⟩ : ∃ ow, ow = if w = 1 then o else e := ⟨_, rfl⟩
  have ow64 : ow < 64 := by rw [how]; split <;> assumption
  have hoW : tAt (mI m 539) (if w = 1 then nI qx else nI qy) T = nI ow := by
    rw [how]
    rcases hw with rfl | rfl
    · exact ho
    · exact he
  obtain ⟨kw, hkw⟩ : ∃ kw, kw = ow ||| tkN (dg s) w 6 := ⟨_, rfl⟩
  have kw64 : kw < 64 := by rw [hkw]; exact Nat.or_lt_two_pow (n := 6) ow64 (tkN_lt _ _ 6)
  rw [← how, ← hkw] at hmy
  -- from there on
  have tail : Go X 4 mX12_bestIn Q 45 [(0, .ref 535), (1, .int (nI s)), (2, .int (nI w)), (3, .int (nI ps)), (4, .int p0)] [.int (nI kw)] m2 := by
    refine bX12_bestIn_45 hW2 ⟨kw, kw64, rfl⟩ (fun z => ?_) (fun z => ?_)
    · rw [e1] at z
      have bs : bst (b, my, en) tb s w p0 = (p0, -1) := if_neg (fun y => Int32.not_lt.mpr z (hmy.mp y))
      rw [bs] at h
      have fin := h (uI m2 535 49 (-1)) (fun a y z1 => by rw [mI_uI, if_neg z1]) (fun _ _ => rfl) (by rw [mI_uI, if_pos ⟨rfl, rfl⟩])
      exact bX12_bestIn_72 (Wf_uI hW2) (fun _ => fin) (fun _ _ => fin) (fun _ z => absurd rfl z) (fun _ z => absurd rfl z) (fun _ z => absurd rfl z) (fun _ z => absurd rfl z) (fun _ z => absurd rfl z) (fun _ z => absurd rfl z) (fun _ z => absurd rfl z) (fun _ z => absurd rfl z) (fun _ z => absurd rfl z) (fun _ z => absurd rfl z)
    · rw [e1] at z
      have bs : bst (b, my, en) tb s w p0 = bsF (okG (b, my, en) s) (fun k => tb (s + w * 3 ^ k) (2 * (2 - w))) w p0 6 := if_pos (hmy.mpr (Int32.not_le.mp z))
      rw [bs] at h
      obtain ⟨F, hF⟩ : ∃ F : Nat → Int32 × Int32, F = bsF (okG (b, my, en) s) (fun k => tb (s + w * 3 ^ k) (2 * (2 - w))) w p0 := ⟨_, rfl⟩
      have F6 : F 6 = F T := by rw [hF]; exact bsF_no 6 p6 (fun k h1 h2 y => by have := hbT k (okG_iff.mp y).1; omega)
      rw [← hF, F6] at h
      have F0 : F 0 = (p0, -1) := by rw [hF]; rfl
      have key := upTo (P := fun t => ∀ m3, (∀ a y, ¬ (a = 535 ∧ y = 49) → mI m3 a y = mI m2 a y) → (∀ x y, mR m3 x y = mR m2 x y) → mI m3 535 49 = (F t).2 → Go X 4 mX12_bestIn Q 72 [(0, .ref 535), (1, .int (nI s)), (2, .int (nI w)), (4, .int (F t).1), (5, .int (1 : Int32)), (6, .int (nI t))] [] m3) T ?_ ?_ 0 (Nat.zero_le _) (uI m2 535 49 (-1)) (fun a y z1 => by rw [mI_uI, if_neg z1]) (fun _ _ => rfl) (by rw [mI_uI, if_pos ⟨rfl, rfl⟩, F0])
      · rw [F0] at key; exact key
      · intro m3 k1 k2 k3
        have hz : mI m3 536 4 ≤ nI T := by rw [k1 _ _ (by omega), eT]; exact Int32.le_refl _
        exact bX12_bestIn_72 (hW2.sm k2) (fun _ => h m3 k1 k2 k3) (fun z => absurd hz z) (fun z => absurd hz z) (fun z => absurd hz z) (fun z => absurd hz z) (fun z => absurd hz z) (fun z => absurd hz z) (fun z => absurd hz z) (fun z => absurd hz z) (fun z => absurd hz z) (fun z => absurd hz z) (fun z => absurd hz z)
      · intro t ht ih m3 k1 k2 k3
        have hW3 := hW2.sm k2
        have hlt : ¬ mI m3 536 4 ≤ nI t := by rw [k1 _ _ (by omega), eT]; exact nI_ge ht (by omega)
        have p3t := p3 t (by omega)
        have dl := dg_lt s t
        have stF : F (t + 1) = if okG (b, my, en) s t = true ∧ ((w = 1 ∧ (F t).1 < tb (s + w * 3 ^ t) (2 * (2 - w))) ∨ (¬ w = 1 ∧ tb (s + w * 3 ^ t) (2 * (2 - w)) < (F t).1)) then (tb (s + w * 3 ^ t) (2 * (2 - w)), nI t) else F t := by rw [hF]; rfl
        have hL : mI m3 535 48 = nI L := (k1 _ _ (by omega)).trans hJ.2.2.2
        have has : (((mI m3 535 48) >>> (nI t &&& 31)) &&& (1 : Int32)) = (1 : Int32) ↔ b t = true := by rw [hL]; exact hb t (by omega)
        have dig : ((nI s / (mI m3 567 (nI t).toNatClampNeg)) - (nI s / (mI m3 567 (nI t).toNatClampNeg)) / (3 : Int32) * (3 : Int32)) = 0 ↔ dg s t = 0 := by
          rw [c3 m3 t k1 (by omega), dgI hs (by omega), show (0 : Int32) = nI 0 from rfl, nI_eq (by omega) (by omega)]
        have ix : ((4 : Int32) * (nI s + (nI w * (mI m3 567 (nI t).toNatClampNeg)))) + ((2 : Int32) * ((2 : Int32) - nI w)) = nI (4 * (s + w * 3 ^ t) + 2 * (2 - w)) := by rw [c3 m3 t k1 (by omega), ixH hw]
        have nI5 : ¬ (1 : Int32) = 0 := by decide
        have nz : ¬ mI m3 567 (nI t).toNatClampNeg = 0 := by rw [c3 m3 t k1 (by omega)]; exact nI_ne0 (by omega) (by omega)
        have skip : ¬ (okG (b, my, en) s t = true ∧ ((w = 1 ∧ (F t).1 < tb (s + w * 3 ^ t) (2 * (2 - w))) ∨ (¬ w = 1 ∧ tb (s + w * 3 ^ t) (2 * (2 - w)) < (F t).1))) → Go X 4 mX12_bestIn Q 72 [(0, .ref 535), (1, .int (nI s)), (2, .int (nI w)), (4, .int (F t).1), (5, .int (1 : Int32)), (6, .int (nI t + (1 : Int32)))] [] m3 := fun y => by
          have := ih m3 k1 k2 (by rw [stF, if_neg y]; exact k3)
          rw [stF, if_neg y] at this
          rw [nI_1]; exact this
        have take : (okG (b, my, en) s t = true ∧ ((w = 1 ∧ (F t).1 < tb (s + w * 3 ^ t) (2 * (2 - w))) ∨ (¬ w = 1 ∧ tb (s + w * 3 ^ t) (2 * (2 - w)) < (F t).1))) → Go X 4 mX12_bestIn Q 72 [(0, .ref 535), (1, .int (nI s)), (2, .int (nI w)), (4, .int (tb (s + w * 3 ^ t) (2 * (2 - w)))), (5, .int (1 : Int32)), (6, .int (nI t + (1 : Int32)))] [] (uI m3 535 49 (nI t)) := fun y => by
          have := ih (uI m3 535 49 (nI t)) (fun a y z => by rw [mI_uI, if_neg z]; exact k1 a y z) (fun x y => k2 x y) (by rw [mI_uI, if_pos ⟨rfl, rfl⟩, stF, if_pos y])
          rw [stF, if_pos y] at this
          rw [nI_1]; exact this
        have nxt : b t = true → dg s t = 0 → 4 * (s + w * 3 ^ t) + 2 * (2 - w) < 2916 ∧ mI m3 566 (4 * (s + w * 3 ^ t) + 2 * (2 - w)) = tb (s + w * 3 ^ t) (2 * (2 - w)) := by
          intro y1 y2
          have bd := dg_bd (n := 6) (i := t) (w := w) (Nat.le_refl 6) (by omega) (by simpa using hs) (by omega) y2
          have bd : s + w * 3 ^ t < 729 := bd
          exact ⟨by omega, (k1 _ _ (by omega)).trans (htb t (by omega) (okG_iff.mpr ⟨y1, y2⟩))⟩
        refine bX12_bestIn_72 hW3 (fun z => absurd z hlt) (fun _ z => absurd z nI5) (fun _ _ _ => vp_in_nI (by omega) (by decide)) (fun _ _ _ => nz) (fun _ _ z1 z2 => ?_) (fun _ _ _ _ => vp_in_nI (by omega) (by decide)) (fun _ _ z1 z2 => ?_) (fun _ _ z1 z2 z3 z4 => ?_) (fun _ _ z1 z2 z3 z4 => ?_) (fun _ _ z1 z2 z3 z4 => ?_) (fun _ _ z1 z2 z3 z4 => ?_) (fun _ _ z1 => ?_)
        · exact skip (fun y => z2 (dig.mpr (okG_iff.mp y.1).2))
        · obtain ⟨n1, n2⟩ := nxt (has.mp z1) (dig.mp z2)
          rw [ix]; exact vp_in_nI n1 (by decide)
        · obtain ⟨n1, n2⟩ := nxt (has.mp z1) (dig.mp z2)
          have w2 : ¬ w = 1 := fun y => z3 (by rw [y]; rfl)
          rw [ix, nI_clamp (by omega), n2] at z4
          exact skip (fun y => y.2.elim (fun y => w2 y.1) (fun y => Int32.not_lt.mpr z4 y.2))
        · obtain ⟨n1, n2⟩ := nxt (has.mp z1) (dig.mp z2)
          have w2 : ¬ w = 1 := fun y => z3 (by rw [y]; rfl)
          rw [ix, nI_clamp (by omega), n2] at z4 ⊢
          exact take ⟨okG_iff.mpr ⟨has.mp z1, dig.mp z2⟩, Or.inr ⟨w2, Int32.not_le.mp z4⟩⟩
        · obtain ⟨n1, n2⟩ := nxt (has.mp z1) (dig.mp z2)
          have w1 : w = 1 := hw.resolve_right (fun y => by rw [y] at z3; exact absurd z3 (by decide))
          rw [ix, nI_clamp (by omega), n2] at z4
          exact skip (fun y => y.2.elim (fun y => Int32.not_lt.mpr z4 y.2) (fun y => y.1 w1))
        · obtain ⟨n1, n2⟩ := nxt (has.mp z1) (dig.mp z2)
          have w1 : w = 1 := hw.resolve_right (fun y => by rw [y] at z3; exact absurd z3 (by decide))
          rw [ix, nI_clamp (by omega), n2] at z4 ⊢
          exact take ⟨okG_iff.mpr ⟨has.mp z1, dig.mp z2⟩, Or.inl ⟨w1, Int32.not_le.mp z4⟩⟩
        · exact skip (fun y => z1 (has.mpr (okG_iff.mp y.1).1))
  have tk : ∀ Q3 : Option Value → pMem → Prop, Q3 (some (.int (nI kw))) m2 → Cl X 1 mX12_takenBy [.ref 535, .int (nI s), .int (nI w)] m2 Q3 := fun Q3 hq3 => s_mTaken hW hC qT p6 hJ0 hs hw hoW lz (by rw [← hkw]; exact hq3)
  refine pCl_of (by decide +kernel) (Nat.le_of_ble_eq_true rfl) rfl (bX12_bestIn_0 hW2 (fun z => ?_) (fun z => ?_) (fun z => ?_))
  · rw [ixP hw]; exact vp_in_nI (by omega) (by decide)
  · have ps0 : ¬ ps = 1 := fun y => z (by rw [y]; rfl)
    rw [if_neg ps0] at hp
    rw [ixP hw, nI_clamp (by omega), ← hp]
    exact tk _ tail
  · have ps1 : ps = 1 := hps.resolve_left (fun y => by rw [y] at z; exact absurd z (by decide))
    rw [if_pos ps1] at hp
    refine s_mWorthIn (w := 1) (o := o) hW hC qT p6 hJ0 hs (Or.inl rfl) ho lz hq okx ?_
    refine bX12_bestIn_11 hW2 ?_
    refine s_mWorthIn (w := 2) (o := e) hW hC qT p6 hJ0 hs (Or.inr rfl) he lz hq oky ?_
    refine bX12_bestIn_17 hW2 ?_
    show Cl X 1 mX12_takenBy [.ref 535, .int (nI s), .int (nI w)] m2 (fun v m2 => Go X 4 mX12_bestIn Q 45 [(0, .ref 535), (1, .int (nI s)), (2, .int (nI w)), (3, .int (nI ps)), (4, .int (woM m qx (o ||| tkN (dg s) 1 6) - woM m qy (e ||| tkN (dg s) 2 6)))] (v.toList ++ []) m2)
    rw [← hen, ← hp]
    exact tk _ tail
end T35
