theorem rI_d : ∀ k, nI k + (-1 : Int32) = rI k
  | 0 => by show nI 0 + (-1 : Int32) = -1; decide
  | k + 1 => by
    show nI (k + 1) + (-1 : Int32) = nI k
    rw [← nI_1, Int32.add_assoc, show (1 : Int32) + -1 = 0 by decide, Int32.add_zero]
theorem i4 (k c : Nat) : nI k * (4 : Int32) + nI c = nI (4 * k + c) := by
  rw [show (4 : Int32) = nI 4 from rfl, nI_mul, nI_add, Nat.mul_comm]
section T33
variable {X : pX} {Q : Option Value → pMem → Prop} {m : pMem}
theorem s_cPlay {nr P Sg T N M d qx qy o e : Nat} {b : Nat → Bool} (hW : Wf m) (hv : Vw m nr P Sg T N M d) (hx : qx < P) (hy : qy < P) (ho : tAt (mI m 40) (nI qx) 6 = nI o) (o64 : o < 64) (he : tAt (mI m 40) (nI qy) 6 = nI e) (e64 : e < 64) (hb : ∀ t, t < 6 → (b t = true ↔ mI m 40 t = (10 : Int32) + mI m 38 qx))
    (h : ∀ m2, Same Scr m m2 → mI m2 515 8 = gmV (gmP m qx qy o e b) 0 0 → mI m2 515 9 = (bst (gmP m qx qy o e b) (gmV (gmP m qx qy o e b)) 0 1 (gmV (gmP m qx qy o e b) 0 3)).2 → Q none m2) : Cl X 3 mX1_play [.ref 515, .int (nI qx), .int (nI qy)] m Q := by
  have P4 : P ≤ 4 := hv.1.1.2.1
  have okx := (home_ag hv hx).1
  have oky := (home_ag hv hy).1
  obtain ⟨my, en, hg⟩ : ∃ my en, gmP m qx qy o e b = (b, my, en) := ⟨_, _, rfl⟩
  have hmy : ∀ s w, my s w = true ↔ pcI (nI ((if w = 1 then o else e) ||| tkN (dg s) w 6)) < mI m 31 1 := by
    intro s w
    have : my = (gmP m qx qy o e b).2.1 := by rw [hg]
    rw [this]
    show decide _ = true ↔ _
    simp
  have hen : ∀ s, en s = woC m qx (o ||| tkN (dg s) 1 6) - woC m qy (e ||| tkN (dg s) 2 6) := by
    intro s
    have : en = (gmP m qx qy o e b).2.2 := by rw [hg]
    rw [this]; rfl
  rw [hg] at h
  obtain ⟨G, hG⟩ : ∃ G, G = gmV (b, my, en) := ⟨_, rfl⟩
  have geq := gmV_eq (b, my, en)
  rw [← hG] at h geq
  have c6 := cB_le b 6
  have p36 := p3 (cB b 6) c6
  refine pCl_of (by decide +kernel) (Nat.le_of_ble_eq_true rfl) rfl (bX1_play_0 hW ?_)
  refine s_setW (tu := 0) (q := qx) (m0 := m) hW (by omega) (by omega) okx (fun _ _ _ => rfl) (fun _ _ => rfl) (fun m1 a1 a2 a3 => ?_)
  refine bX1_play_6 (hW.sm a3) ?_
  refine s_setW (tu := 1) (q := qy) (m0 := m) hW (by omega) (by omega) oky (fun a y z => a2 a y (by omega)) a3 (fun m2 b1 b2 b3 => ?_)
  refine bX1_play_12 (hW.sm b3) ?_
  have lo2 : ∀ a y, a ≤ 40 → mI m2 a y = mI m a y := fun a y z => (b2 a y (by omega)).trans (a2 a y (by omega))
  refine s_layOut (q := qx) (b := b) (hW.sm b3) (by omega) (fun t ht => by rw [lo2 _ _ (by omega), lo2 _ _ (by omega)]; exact hb t ht) (fun m3 lo d2 d3 => ?_)
  have hW3 : Wf m3 := hW.sm (fun x y => (d3 x y).trans (b3 x y))
  have lo3 : ∀ a y, a ≤ 40 → mI m3 a y = mI m a y := fun a y z => (d2 a y (by omega) (by omega) (by omega)).trans (lo2 a y z)
  have w0 : ∀ k, k < 64 → mI m3 518 k = woC m qx k := fun k hk => (d2 _ _ (by omega) (by omega) (by omega)).trans ((b2 _ _ (by omega)).trans (a1 k hk))
  have w1 : ∀ k, k < 64 → mI m3 519 k = woC m qy k := fun k hk => (d2 _ _ (by omega) (by omega) (by omega)).trans (b1 k hk)
  have sc3 : ∀ a y, ¬ Scr a y → mI m3 a y = mI m a y := fun a y z => by
    have : ¬ (513 ≤ a ∧ a ≤ 534) := fun w => z (by unfold Scr; omega)
    rw [d2 a y (by omega) (by omega) (by omega), b2 a y (by omega), a2 a y (by omega)]
  refine bX1_play_17 hW3 ?_
  rw [show mI m3 40 = mI m 40 from funext fun y => lo3 _ _ (by omega), ho, he, if_neg (show ¬ (729 : Int32) < nI (3 ^ cB b 6) from nI_nlt (a := 729) (b := 3 ^ cB b 6) (by omega) (by decide))]
  have start : nI (3 ^ cB b 6) - (1 : Int32) = rI (3 ^ cB b 6) := by
    rw [show (1 : Int32) = nI 1 from rfl, pk_sub (by omega)]
    obtain ⟨j, hj⟩ : ∃ j, 3 ^ cB b 6 = j + 1 := ⟨3 ^ cB b 6 - 1, by omega⟩
    rw [hj]; rfl
  rw [start]
  have key : ∀ k, k ≤ 3 ^ cB b 6 → ∀ m5, (∀ a y, a ≠ 516 → a ≠ 522 → ¬ (a = 515 ∧ (y = 8 ∨ y = 9)) → mI m5 a y = mI m3 a y) → (∀ x y, mR m5 x y = mR m x y) → (∀ s, k ≤ s → s < 3 ^ cB b 6 → ∀ c, c < 4 → mI m5 516 (4 * s + c) = G (ph b s) c) → (k < 3 ^ cB b 6 → mI m5 515 9 = (bst (b, my, en) G (ph b k) 1 (G (ph b k) 3)).2) → Go X 3 mX1_play Q 49 [(0, .ref 515), (4, .int (nI o)), (5, .int (nI e)), (6, .int (rI k))] [] m5 := by
    intro k
    induction k with
    | zero =>
      intro _ m5 f1 f2 f3 f4
      refine bX1_play_49 (hW.sm f2) (fun _ => ?_) (fun z => absurd (by decide) z)
      have e0 : mI m5 516 0 = G 0 0 := by
        have := f3 0 (Nat.le_refl 0) (by omega) 0 (by omega)
        rw [ph_0] at this
        exact this
      have f4 := f4 (by omega)
      rw [ph_0] at f4
      refine h _ ⟨fun a y z => ?_, fun x y => f2 x y⟩ (by rw [mI_uI, if_pos ⟨rfl, rfl⟩]; exact e0) (by rw [mI_uI, if_neg (by omega)]; exact f4)
      have z2 : ¬ (513 ≤ a ∧ a ≤ 534) := fun w => z (by unfold Scr; omega)
      rw [mI_uI, if_neg (by omega), f1 a y (by omega) (by omega) (by omega)]
      exact sc3 a y z
    | succ k ih =>
      intro hk m5 f1 f2 f3 f4
      have hW5 := hW.sm f2
      have loF : ∀ m', (∀ a y, a ≠ 516 → a ≠ 522 → ¬ (a = 515 ∧ (y = 8 ∨ y = 9)) → mI m' a y = mI m3 a y) → LoC b m' := fun m' g => ⟨(g _ _ (by omega) (by omega) (by omega)).trans lo.1, fun t ht bt2 => ⟨(g _ _ (by omega) (by omega) (by omega)).trans (lo.2 t ht bt2).1, (g _ _ (by omega) (by omega) (by omega)).trans (lo.2 t ht bt2).2⟩⟩
      obtain ⟨k1, hk1⟩ : ∃ k1, k1 = o ||| tkN (dg (ph b k)) 1 6 := ⟨_, rfl⟩
      obtain ⟨k2, hk2⟩ : ∃ k2, k2 = e ||| tkN (dg (ph b k)) 2 6 := ⟨_, rfl⟩
      have k1l : k1 < 64 := by rw [hk1]; exact Nat.or_lt_two_pow (n := 6) o64 (tkN_lt _ _ 6)
      have k2l : k2 < 64 := by rw [hk2]; exact Nat.or_lt_two_pow (n := 6) e64 (tkN_lt _ _ 6)
      refine bX1_play_49 hW5 (fun z => absurd z (nI_pos (n := k) (by omega))) (fun _ => ?_)
      refine s_cTaken (d := 1) (s := k) (b := b) hW5 (loF m5 f1) (by omega) (Or.inl rfl) ?_
      refine bX1_play_68 hW5 (s1_7 sh515) ?_
      rw [fa_or, ← hk1]
      have ga : ∀ a y, a ≠ 516 → a ≠ 522 → ¬ (a = 515 ∧ (y = 8 ∨ y = 9)) → mI (uI m5 522 0 (nI k1)) a y = mI m3 a y := fun a y z1 z2 z3 => by rw [mI_uI, if_neg (by omega)]; exact f1 a y z1 z2 z3
      refine s_cTaken (d := 2) (s := k) (b := b) (Wf_uI hW5) (loF _ ga) (by omega) (Or.inr rfl) ?_
      refine bX1_play_84 (Wf_uI hW5) (s1_7 sh515) ?_
      rw [fa_or, ← hk2]
      obtain ⟨mb, hmb⟩ : ∃ mb, mb = uI (uI m5 522 0 (nI k1)) 522 1 (nI k2) := ⟨_, rfl⟩
      have hWb : Wf mb := by rw [hmb]; exact Wf_uI (Wf_uI hW5)
      rw [← hmb]
      -- what holds while this stand is gone through
      obtain ⟨I, hI⟩ : ∃ I : pMem → Prop, I = fun m' => (∀ a y, a ≠ 516 → a ≠ 522 → ¬ (a = 515 ∧ (y = 8 ∨ y = 9)) → mI m' a y = mI m3 a y) ∧ (∀ x y, mR m' x y = mR m x y) ∧ mI m' 522 0 = nI k1 ∧ mI m' 522 1 = nI k2 ∧ ∀ s, k < s → s < 3 ^ cB b 6 → ∀ c, c < 4 → mI m' 516 (4 * s + c) = G (ph b s) c := ⟨_, rfl⟩
      have Ib : I mb := by
        rw [hI, hmb]
        refine ⟨fun a y z1 z2 z3 => ?_, fun x y => f2 x y, ?_, ?_, fun s z1 z2 c z3 => ?_⟩
        · rw [mI_uI, if_neg (by omega)]; exact ga a y z1 z2 z3
        · rw [mI_uI, if_neg (by omega), mI_uI, if_pos ⟨rfl, rfl⟩]
        · rw [mI_uI, if_pos ⟨rfl, rfl⟩]
        · rw [mI_uI, if_neg (by omega), mI_uI, if_neg (by omega)]; exact f3 s (by omega) z2 c z3
      have I9 : ∀ m' m'', I m' → (∀ a y, ¬ (a = 515 ∧ y = 9) → mI m'' a y = mI m' a y) → (∀ x y, mR m'' x y = mR m' x y) → I m'' := by
        intro m' m'' i1 i2 i3
        rw [hI] at i1 ⊢
        obtain ⟨j1, j2, j3, j4, j5⟩ := i1
        exact ⟨fun a y z1 z2 z3 => (i2 a y (by omega)).trans (j1 a y z1 z2 z3), fun x y => (i3 x y).trans (j2 x y), (i2 _ _ (by omega)).trans j3, (i2 _ _ (by omega)).trans j4, fun s z1 z2 c z3 => (i2 _ _ (by omega)).trans (j5 s z1 z2 c z3)⟩
      have I6 : ∀ m' c v, I m' → c < 4 → I (uI m' 516 (4 * k + c) v) := by
        intro m' c v i1 hc
        rw [hI] at i1 ⊢
        obtain ⟨j1, j2, j3, j4, j5⟩ := i1
        exact ⟨fun a y z1 z2 z3 => by rw [mI_uI, if_neg (by omega)]; exact j1 a y z1 z2 z3, fun x y => j2 x y, by rw [mI_uI, if_neg (by omega)]; exact j3, by rw [mI_uI, if_neg (by omega)]; exact j4, fun s z1 z2 c2 z3 => by rw [mI_uI, if_neg (by omega)]; exact j5 s z1 z2 c2 z3⟩
      have IW : ∀ m', I m' → Wf m' := fun m' i1 => by rw [hI] at i1; exact hW.sm i1.2.1
      -- one call of best
      have bes : ∀ (tu : Nat) (p0 : Int32) (m' : pMem) (Q3 : Option Value → pMem → Prop), (tu = 0 ∨ tu = 1) → I m' → (∀ m'', I m'' → (∀ a y, ¬ (a = 515 ∧ y = 9) → mI m'' a y = mI m' a y) → mI m'' 515 9 = (bst (b, my, en) G (ph b k) (tu + 1) p0).2 → Q3 (some (.int (bst (b, my, en) G (ph b k) (tu + 1) p0).1)) m'') → Cl X 1 mX1_best [.ref 515, .int (nI k), .int (nI tu), .int p0] m' Q3 := by
        intro tu p0 m' Q3 htu i1 hq
        have i1' := i1
        rw [hI] at i1
        obtain ⟨j1, j2, j3, j4, j5⟩ := i1
        have e31 : mI m' 31 1 = mI m 31 1 := (j1 _ _ (by omega) (by omega) (by omega)).trans (lo3 _ _ (by omega))
        rcases htu with rfl | rfl
        · refine s_cBest (my := my) (en := en) (tb := G) (k := k1) (IW m' i1') (loF m' j1) (by omega) (Or.inl rfl) k1l j3 ?_ j5 (fun m'' u1 u2 u3 => hq m'' (I9 m' m'' i1' u1 u2) u1 u3)
          rw [hmy, e31, hk1]; rfl
        · refine s_cBest (my := my) (en := en) (tb := G) (k := k2) (IW m' i1') (loF m' j1) (by omega) (Or.inr rfl) k2l j4 ?_ j5 (fun m'' u1 u2 u3 => hq m'' (I9 m' m'' i1' u1 u2) u1 u3)
          rw [hmy, e31, hk2]; rfl
      have i522 : mI mb 522 0 = nI k1 ∧ mI mb 522 1 = nI k2 ∧ mI mb 518 k1 = woC m qx k1 ∧ mI mb 519 k2 = woC m qy k2 := by
        rw [hI] at Ib
        exact ⟨Ib.2.2.1, Ib.2.2.2.1, (Ib.1 _ _ (by omega) (by omega) (by omega)).trans (w0 k1 k1l), (Ib.1 _ _ (by omega) (by omega) (by omega)).trans (w1 k2 k2l)⟩
      refine s_worthSet (tu := 0) hWb (by omega) k1l i522.1 ?_
      refine bX1_play_91 hWb ?_
      refine s_worthSet (tu := 1) hWb (by omega) k2l i522.2.1 ?_
      refine bX1_play_96 hWb ?_
      show Cl X 1 mX1_best [.ref 515, .int (nI k), .int (nI 0), .int (mI mb 518 k1 - mI mb 519 k2)] mb _
      have een : mI mb 518 k1 - mI mb 519 k2 = en (ph b k) := by rw [i522.2.2.1, i522.2.2.2, hen, hk1, hk2]
      show Cl X 1 mX1_best [.ref 515, .int (nI k), .int (nI 0), .int (mI mb 518 k1 - mI mb 519 k2)] mb (fun v m2 => Go X 3 mX1_play Q 118 [(0, .ref 515), (4, .int (nI o)), (5, .int (nI e)), (6, .int (nI k)), (7, .int (mI mb 518 k1 - mI mb 519 k2))] (v.toList ++ [.int ((nI k * (4 : Int32)) + (1 : Int32)), .ref 516]) m2)
      rw [een]
      have ix1 : nI k * (4 : Int32) + (1 : Int32) = nI (4 * k + 1) := i4 k 1
      have ix3 : nI k * (4 : Int32) + (3 : Int32) = nI (4 * k + 3) := i4 k 3
      have ix2 : nI k * (4 : Int32) + (2 : Int32) = nI (4 * k + 2) := i4 k 2
      have ix0 : nI k * (4 : Int32) = nI (4 * k) := by rw [show (4 : Int32) = nI 4 from rfl, nI_mul, Nat.mul_comm]
      rw [ix1]
      obtain ⟨g1, g3, g0, g2⟩ := geq (ph b k)
      refine bes 0 _ mb _ (Or.inl rfl) Ib (fun n1 I1 _ _ => ?_)
      refine bX1_play_118 (IW n1 I1) (s1_2 sh515) (vp_in_nI (by omega) (by decide)) ?_
      rw [ix3, nI_clamp (show 4 * k + 1 < 2 ^ 31 by omega), ← show G (ph b k) 1 = (bst (b, my, en) G (ph b k) (0 + 1) (en (ph b k))).1 from g1]
      refine bes 1 _ _ _ (Or.inr rfl) (I6 n1 1 _ I1 (by omega)) (fun n2 I2 u2 _ => ?_)
      have n2a : mI n2 516 (4 * k + 1) = G (ph b k) 1 := by rw [u2 _ _ (by omega), mI_uI, if_pos ⟨rfl, rfl⟩]
      refine bX1_play_138 (IW n2 I2) (s1_2 sh515) (vp_in_nI (by omega) (by decide)) (by rw [ix1]; exact vp_in_nI (by omega) (by decide)) ?_
      rw [ix1, ix2, nI_clamp (show 4 * k + 1 < 2 ^ 31 by omega), nI_clamp (show 4 * k + 3 < 2 ^ 31 by omega), ← show G (ph b k) 3 = (bst (b, my, en) G (ph b k) (1 + 1) (en (ph b k))).1 from g3]
      have n2b : mI (uI n2 516 (4 * k + 3) (G (ph b k) 3)) 516 (4 * k + 1) = G (ph b k) 1 := by rw [mI_uI, if_neg (by omega)]; exact n2a
      show Cl X 1 mX1_best [.ref 515, .int (nI k), .int (nI 1), .int (mI (uI n2 516 (4 * k + 3) (G (ph b k) 3)) 516 (4 * k + 1))] (uI n2 516 (4 * k + 3) (G (ph b k) 3)) _
      rw [n2b]
      refine bes 1 _ _ _ (Or.inr rfl) (I6 n2 3 _ I2 (by omega)) (fun n3 I3 u3 _ => ?_)
      have n3a : mI n3 516 (4 * k + 1) = G (ph b k) 1 := by rw [u3 _ _ (by omega)]; exact n2b
      have n3b : mI n3 516 (4 * k + 3) = G (ph b k) 3 := by rw [u3 _ _ (by omega), mI_uI, if_pos ⟨rfl, rfl⟩]
      refine bX1_play_167 (IW n3 I3) (s1_2 sh515) (vp_in_nI (by omega) (by decide)) (by rw [ix3]; exact vp_in_nI (by omega) (by decide)) ?_
      rw [ix3, ix0, nI_clamp (show 4 * k + 3 < 2 ^ 31 by omega), nI_clamp (show 4 * k + 2 < 2 ^ 31 by omega), ← show G (ph b k) 2 = (bst (b, my, en) G (ph b k) (1 + 1) (G (ph b k) 1)).1 from g2]
      have n3c : mI (uI n3 516 (4 * k + 2) (G (ph b k) 2)) 516 (4 * k + 3) = G (ph b k) 3 := by rw [mI_uI, if_neg (by omega)]; exact n3b
      show Cl X 1 mX1_best [.ref 515, .int (nI k), .int (nI 0), .int (mI (uI n3 516 (4 * k + 2) (G (ph b k) 2)) 516 (4 * k + 3))] (uI n3 516 (4 * k + 2) (G (ph b k) 2)) _
      rw [n3c]
      refine bes 0 _ _ _ (Or.inl rfl) (I6 n3 2 _ I3 (by omega)) (fun n4 I4 u4 u9 => ?_)
      refine bX1_play_194 (IW n4 I4) (s1_2 sh515) (vp_in_nI (by omega) (by decide)) ?_
      rw [rI_d, nI_clamp (show 4 * k < 2 ^ 31 by omega), ← show G (ph b k) 0 = (bst (b, my, en) G (ph b k) (0 + 1) (G (ph b k) 3)).1 from g0]
      have I5 := I6 n4 0 (G (ph b k) 0) I4 (by omega)
      rw [hI] at I5
      refine ih (by omega) _ I5.1 I5.2.1 (fun s z1 z2 c z3 => ?_) (fun _ => ?_)
      · by_cases es : s = k
        · subst es
          have c4 : c = 0 ∨ c = 1 ∨ c = 2 ∨ c = 3 := by omega
          rcases c4 with rfl | rfl | rfl | rfl
          · show mI (uI n4 516 (4 * s) (G (ph b s) 0)) 516 (4 * s) = _
            rw [mI_uI, if_pos ⟨rfl, rfl⟩]
          · rw [mI_uI, if_neg (by omega), u4 _ _ (by omega), mI_uI, if_neg (by omega)]; exact n3a
          · rw [mI_uI, if_neg (by omega), u4 _ _ (by omega), mI_uI, if_pos ⟨rfl, rfl⟩]
          · rw [mI_uI, if_neg (by omega), u4 _ _ (by omega)]; exact n3c
        · exact I5.2.2.2.2 s (by omega) z2 c z3
      · rw [mI_uI, if_neg (by omega)]; exact u9
  exact key (3 ^ cB b 6) (Nat.le_refl _) m3 (fun _ _ _ _ _ => rfl) (fun x y => (d3 x y).trans (b3 x y)) (fun s z1 z2 => absurd z2 (by omega)) (fun z => absurd z (by omega))
end T33
