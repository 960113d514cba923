theorem i4m (k c : Nat) : (4 : Int32) * nI k + nI c = nI (4 * k + c) := by
  rw [show (4 : Int32) = nI 4 from rfl, nI_mul, nI_add]
section T36
variable {X : pX} {Q : Option Value → pMem → Prop} {m m1 : pMem}
theorem s_mLoop {T qx qy L o e : Nat} {b : Nat → Bool} {my : Nat → Nat → Bool} {en : Nat → Int32} {w : Int32} (hW : Wf m) (hC : ConI m) (qT : mI m 536 4 = nI T) (p6 : T ≤ 6) (hJ : GJ m qx qy L m1)
    (ho : tAt (mI m 539) (nI qx) T = nI o) (o64 : o < 64) (he : tAt (mI m 539) (nI qy) T = nI e) (e64 : e < 64) (hq : qx < 4 ∧ qy < 4) (okx : dyOkM (mI m 541) (nI qx) (mI m 537 (nI qx).toNatClampNeg) (mI m 536 2)) (oky : dyOkM (mI m 541) (nI qy) (mI m 537 (nI qy).toNatClampNeg) (mI m 536 2))
    (hb : ∀ t, t < 6 → (((nI L >>> (nI t &&& 31)) &&& (1 : Int32)) = (1 : Int32) ↔ b t = true)) (hbT : ∀ t, b t = true → t < T)
    (hmy : ∀ s w, my s w = true ↔ pcI (nI ((if w = 1 then o else e) ||| tkN (dg s) w 6)) < mI m 536 1) (hen : ∀ s, laidS b s → en s = woM m qx (o ||| tkN (dg s) 1 6) - woM m qy (e ||| tkN (dg s) 2 6))
    (h : ∀ m2, Same Scr m m2 → mI m2 535 49 = (bst (b, my, en) (gmV (b, my, en)) 0 1 (gmV (b, my, en) 0 3)).2 → Go X 5 mX12_game Q 183 [(0, .ref 535), (3, .int w), (4, .int (-1 : Int32))] [.int (gmV (b, my, en) 0 0)] m2) : Go X 5 mX12_game Q 54 [(0, .ref 535), (3, .int w), (4, .int (6 : Int32))] [] m1 := by
  obtain ⟨G, hG⟩ : ∃ G, G = gmV (b, my, en) := ⟨_, rfl⟩
  have geq := gmV_eq (b, my, en)
  rw [← hG] at h geq
  have lz0 : laidS b 0 := fun k _ hd => absurd (show dg 0 k = 0 by unfold dg; rw [Nat.zero_div]) hd
  have key : ∀ k, k ≤ 7 → ∀ m2, GJ m qx qy L m2 → (∀ s, s < 729 → laidS b s → k ≤ tcF s 6 → ∀ c, c < 4 → mI m2 566 (4 * s + c) = G s c) → Go X 5 mX12_game Q 54 [(0, .ref 535), (3, .int w), (4, .int (rI k))] [] m2 := by
    intro k
    induction k with
    | zero =>
      intro _ m2 j2 tb
      refine bX12_game_54 (hW.sm j2.1.2) (fun _ => ?_) (fun z => absurd (by decide) z)
      have t03 : mI m2 566 3 = G 0 3 := tb 0 (by omega) lz0 (Nat.zero_le _) 3 (by omega)
      refine s_mBest (s := 0) (w := 1) (ps := 0) (b := b) (my := my) (en := en) (tb := G) (p0 := G 0 3) hW hC qT p6 j2 (by omega) (Or.inl rfl) (Or.inl rfl) ho o64 he e64 hq okx oky hb hbT lz0 (hmy 0 1) (hen 0 lz0) (fun j hj ok => ?_) t03.symm (fun m3 u1 u2 u3 => ?_)
      · have oj := okG_iff.mp ok
        have bd := dg_bd (n := 6) (i := j) (w := 1) (Nat.le_refl 6) hj (by omega) (by omega) oj.2
        exact tb _ bd (laid_add hj (by omega) oj.2 oj.1 lz0) (Nat.zero_le _) _ (by omega)
      · have g0 := (geq 0).2.2.1
        rw [← g0]
        exact h m3 (GJ_u j2 (fun a y _ z => u1 a y z) u2).1 u3
    | succ k ih =>
      intro hk m2 j2 tb
      refine bX12_game_54 (hW.sm j2.1.2) (fun z => absurd z (nI_pos (n := k) (by omega))) (fun _ => ?_)
      refine upTo (P := fun s => ∀ m2, GJ m qx qy L m2 → (∀ s2, s2 < 729 → laidS b s2 → k + 1 ≤ tcF s2 6 → ∀ c, c < 4 → mI m2 566 (4 * s2 + c) = G s2 c) → (∀ s2, s2 < s → laidS b s2 → tcF s2 6 = k → ∀ c, c < 4 → mI m2 566 (4 * s2 + c) = G s2 c) → Go X 5 mX12_game Q 62 [(0, .ref 535), (3, .int w), (4, .int (nI k)), (5, .int (nI s))] [] m2) 729 ?_ ?_ 0 (Nat.zero_le _) m2 j2 tb (fun s2 hs2 => absurd hs2 (by omega))
      · intro m3 j3 t1 t2
        refine bX12_game_62 (hW.sm j3.1.2) (fun _ => ?_) (fun z => absurd (by decide) z)
        rw [rI_d]
        refine ih (by omega) m3 j3 (fun s hs hl hc => ?_)
        by_cases ec : tcF s 6 = k
        · exact t2 s hs hl ec
        · exact t1 s hs hl (by omega)
      · intro s hs ih2 m3 j3 t1 t2
        have hW3 := hW.sm j3.1.2
        have hlt : ¬ (729 : Int32) ≤ nI s := nI_ge (a := s) (b := 729) hs (by decide)
        have tl := tcF_le s 6
        have nx : (laidS b s → ¬ tcF s 6 = k) → Go X 5 mX12_game Q 62 [(0, .ref 535), (3, .int w), (4, .int (nI k)), (5, .int (nI s + (1 : Int32)))] [] m3 := fun y => by
          rw [nI_1]
          refine ih2 m3 j3 t1 (fun s2 h1 h2 h3 => ?_)
          by_cases es : s2 = s
          · subst es; exact absurd h3 (y h2)
          · exact t2 s2 (by omega) h2 h3
        refine bX12_game_62 hW3 (fun z => absurd z hlt) (fun _ => ?_)
        refine s_howMany hW hC j3 hs ?_
        refine bX12_game_76 hW3 (fun z => nx (fun _ y => z (by rw [y]))) (fun z => ?_)
        have tck : tcF s 6 = k := (nI_eq (by omega) (by omega)).mp z
        refine s_isLaid hW hC qT p6 j3 hs hb hbT (fun hl => ?_) (fun hl => bX12_game_87 hW3 (fun _ => nx (fun y => absurd y hl)) (fun y => absurd rfl y))
        refine bX12_game_87 hW3 (fun y => absurd y (by decide)) (fun _ => ?_)
        -- what holds while this state is gone through
        obtain ⟨I, hI⟩ : ∃ I : pMem → Prop, I = fun m' => GJ m qx qy L m' ∧ (∀ s2, s2 < 729 → laidS b s2 → k + 1 ≤ tcF s2 6 → ∀ c, c < 4 → mI m' 566 (4 * s2 + c) = G s2 c) ∧ (∀ s2, s2 < s → laidS b s2 → tcF s2 6 = k → ∀ c, c < 4 → mI m' 566 (4 * s2 + c) = G s2 c) := ⟨_, rfl⟩
        have I3 : I m3 := by rw [hI]; exact ⟨j3, t1, t2⟩
        have I9 : ∀ m' m'', I m' → (∀ a y, ¬ (a = 535 ∧ y = 49) → mI m'' a y = mI m' a y) → (∀ x y, mR m'' x y = mR m' x y) → I m'' := by
          intro m' m'' i1 i2 i3
          rw [hI] at i1 ⊢
          obtain ⟨a1, a2, a3⟩ := i1
          exact ⟨GJ_u a1 (fun a y _ z => i2 a y z) i3, fun s2 z1 z2 z3 c z4 => (i2 _ _ (by omega)).trans (a2 s2 z1 z2 z3 c z4), fun s2 z1 z2 z3 c z4 => (i2 _ _ (by omega)).trans (a3 s2 z1 z2 z3 c z4)⟩
        have I6 : ∀ m' c v, I m' → c < 4 → I (uI m' 566 (4 * s + c) v) := by
          intro m' c v i1 hc
          rw [hI] at i1 ⊢
          obtain ⟨a1, a2, a3⟩ := i1
          refine ⟨GJ_u a1 (fun a y z _ => by rw [mI_uI, if_neg (fun w => z w.1)]) (fun _ _ => rfl), fun s2 z1 z2 z3 c2 z4 => ?_, fun s2 z1 z2 z3 c2 z4 => ?_⟩
          · rw [mI_uI, if_neg (fun y => by
              have : s2 = s := by omega
              rw [this] at z3; omega)]
            exact a2 s2 z1 z2 z3 c2 z4
          · rw [mI_uI, if_neg (by omega)]; exact a3 s2 z1 z2 z3 c2 z4
        have IW : ∀ m', I m' → Wf m' := fun m' i1 => by rw [hI] at i1; exact hW.sm i1.1.1.2
        have bes : ∀ (u ps : Nat) (p0 : Int32) (m' : pMem) (Q3 : Option Value → pMem → Prop), (u = 1 ∨ u = 2) → (ps = 0 ∨ ps = 1) → I m' → (p0 = if ps = 1 then en s else mI m' 566 (4 * s + 2 * (2 - u) + 1)) → (∀ m'', I m'' → (∀ a y, ¬ (a = 535 ∧ y = 49) → mI m'' a y = mI m' a y) → Q3 (some (.int (bst (b, my, en) G s u p0).1)) m'') → Cl X 4 mX12_bestIn [.ref 535, .int (nI s), .int (nI u), .int (nI ps)] m' Q3 := by
          intro u ps p0 m' Q3 hu hps i1 hp hq3
          have i1' := i1
          rw [hI] at i1
          refine s_mBest (b := b) (my := my) (en := en) (tb := G) (p0 := p0) hW hC qT p6 i1.1 hs hu hps ho o64 he e64 hq okx oky hb hbT hl (hmy s u) (hen s hl) (fun j hj ok => ?_) hp (fun m'' u1 u2 _ => hq3 m'' (I9 m' m'' i1' u1 u2) u1)
          have oj := okG_iff.mp ok
          have bd := dg_bd (n := 6) (i := j) (w := u) (Nat.le_refl 6) hj hs (by omega) oj.2
          refine i1.2.1 _ bd (laid_add hj (by omega) oj.2 oj.1 hl) ?_ _ (by omega)
          rw [tcF_add hj hu oj.2, tck]; exact Nat.le_refl _
        have ix1 : (4 : Int32) * nI s + (1 : Int32) = nI (4 * s + 1) := i4m s 1
        have ix3 : (4 : Int32) * nI s + (3 : Int32) = nI (4 * s + 3) := i4m s 3
        have ix2 : (4 : Int32) * nI s + (2 : Int32) = nI (4 * s + 2) := i4m s 2
        have ix0 : (4 : Int32) * nI s = nI (4 * s) := by rw [show (4 : Int32) = nI 4 from rfl, nI_mul]
        obtain ⟨g1, g3, g0, g2⟩ := geq s
        rw [ix1]
        refine bes 1 1 (en s) m3 _ (Or.inl rfl) (Or.inr rfl) I3 rfl (fun n1 I1 _ => ?_)
        refine bX12_game_108 (IW n1 I1) (s12_44 sh535) (vp_in_nI (by omega) (by decide)) ?_
        rw [ix3, nI_clamp (show 4 * s + 1 < 2 ^ 31 by omega), ← show G s 1 = (bst (b, my, en) G s 1 (en s)).1 from g1]
        refine bes 2 1 (en s) _ _ (Or.inr rfl) (Or.inr rfl) (I6 n1 1 _ I1 (by omega)) rfl (fun n2 I2 u2 => ?_)
        have n2a : mI n2 566 (4 * s + 1) = G s 1 := by rw [u2 _ _ (by omega), mI_uI, if_pos ⟨rfl, rfl⟩]
        refine bX12_game_127 (IW n2 I2) (s12_44 sh535) (vp_in_nI (by omega) (by decide)) ?_
        rw [ix0, nI_clamp (show 4 * s + 3 < 2 ^ 31 by omega), ← show G s 3 = (bst (b, my, en) G s 2 (en s)).1 from g3]
        refine bes 1 0 (G s 3) _ _ (Or.inl rfl) (Or.inl rfl) (I6 n2 3 _ I2 (by omega)) (by rw [if_neg (by decide), mI_uI, if_pos ⟨rfl, by omega⟩]) (fun n3 I3' u3 => ?_)
        have n3a : mI n3 566 (4 * s + 1) = G s 1 := by rw [u3 _ _ (by omega), mI_uI, if_neg (by omega)]; exact n2a
        have n3b : mI n3 566 (4 * s + 3) = G s 3 := by rw [u3 _ _ (by omega), mI_uI, if_pos ⟨rfl, rfl⟩]
        refine bX12_game_144 (IW n3 I3') (s12_44 sh535) (vp_in_nI (by omega) (by decide)) ?_
        rw [ix2, nI_clamp (show 4 * s < 2 ^ 31 by omega), ← show G s 0 = (bst (b, my, en) G s 1 (G s 3)).1 from g0]
        refine bes 2 0 (G s 1) _ _ (Or.inr rfl) (Or.inl rfl) (I6 n3 0 _ I3' (by omega)) (by rw [if_neg (by decide), mI_uI, if_neg (by omega)]; exact n3a.symm) (fun n4 I4 u4 => ?_)
        refine bX12_game_163 (IW n4 I4) (s12_44 sh535) (vp_in_nI (by omega) (by decide)) ?_
        rw [nI_1, nI_clamp (show 4 * s + 2 < 2 ^ 31 by omega), ← show G s 2 = (bst (b, my, en) G s 2 (G s 1)).1 from g2]
        have I5 := I6 n4 2 (G s 2) I4 (by omega)
        rw [hI] at I5
        refine ih2 _ I5.1 I5.2.1 (fun s2 h1 h2 h3 c z4 => ?_)
        by_cases es : s2 = s
        · subst es
          have c4 : c = 0 ∨ c = 1 ∨ c = 2 ∨ c = 3 := by omega
          rcases c4 with rfl | rfl | rfl | rfl
          · rw [mI_uI, if_neg (by omega), u4 _ _ (by omega), mI_uI, if_pos ⟨rfl, by omega⟩]
          · rw [mI_uI, if_neg (by omega), u4 _ _ (by omega), mI_uI, if_neg (by omega)]; exact n3a
          · rw [mI_uI, if_pos ⟨rfl, rfl⟩]
          · rw [mI_uI, if_neg (by omega), u4 _ _ (by omega), mI_uI, if_neg (by omega)]; exact n3b
        · exact I5.2.2 s2 (by omega) h2 h3 c z4
  exact key 7 (Nat.le_refl 7) m1 hJ (fun s hs hl hc => by have := tcF_le s 6; omega)
end T36
section T37
variable {X : pX}
theorem p_game {x y w : Int32} : Pair X 4 5 mX11_game mX12_game [.int x, .int y, .int w] := by
  intro m h Q K
  have hInv := h
  obtain ⟨hW, hC, hT, nr, P, Sg, T, N, M, d, ff, hr, hi, hf, hw, hv⟩ := Inv_open h
  have tog := tog_iff (x := x) (y := y) hv
  have hv0 := hv
  obtain ⟨a1, a2, a3, a4, s1, s2, s3⟩ := rows_of hv
  obtain ⟨⟨⟨p3', p4, p2, p8, pT, p6⟩, ⟨q3, _, q2, _, qT, _⟩, _, _, hpl⟩, ⟨v1, v2, _⟩, _, _, _, _, _, v15, _⟩ := hv
  have T64 := allTp T p6
  have vP : vp_in (mI m 536 3) 5 := by rw [q3]; exact vp_in_nI (by omega) (by decide)
  have vT : vp_in (mI m 536 4) 7 := by rw [qT]; exact vp_in_nI (by omega) (by decide)
  by_cases c : (((¬ x < 0 ∧ ¬ (mI m 536 3 - (1 : Int32)) < x) ∧ mI m 538 x.toNatClampNeg = 0) ∧ ((¬ y < 0 ∧ ¬ (mI m 536 3 - (1 : Int32)) < y) ∧ mI m 538 y.toNatClampNeg = 0) ∧ ¬ x = y ∧ mI m 537 x.toNatClampNeg = mI m 537 y.toNatClampNeg) ∧ ∃ k, k ≤ 1 ∧ w = nI k
  · obtain ⟨c1, c3⟩ := c
    have cC := tog.mpr c1
    have w2 := (inI (a := 1) (by decide)).mpr c3
    obtain ⟨qx, hqx, rfl, _⟩ := (atM q3 p4).mp c1.1
    obtain ⟨qy, hqy, rfl, _⟩ := (atM q3 p4).mp c1.2.1
    obtain ⟨oCx, oMx, eDx⟩ := home_ag hv0 hqx
    obtain ⟨oCy, oMy, eDy⟩ := home_ag hv0 hqy
    obtain ⟨p, hp, ep⟩ := hpl qx hqx
    have ep2 : mI m 537 qx = nI p := (s1 qx (by omega)).symm.trans ep
    have eqx : (nI qx).toNatClampNeg = qx := nI_clamp (by omega)
    obtain ⟨o, ho, eo⟩ : ∃ o, o < 2 ^ T ∧ tAt (mI m 539) (nI qx) T = nI o := ⟨_, tN_lt _ _ T, tAt_eq _ _ T (by omega)⟩
    obtain ⟨e, he, ee⟩ : ∃ o, o < 2 ^ T ∧ tAt (mI m 539) (nI qy) T = nI o := ⟨_, tN_lt _ _ T, tAt_eq _ _ T (by omega)⟩
    obtain ⟨L, hL, eL⟩ : ∃ o, o < 2 ^ T ∧ tAt (mI m 539) ((10 : Int32) + mI m 537 qx) T = nI o := ⟨_, tN_lt _ _ T, tAt_eq _ _ T (by omega)⟩
    have eoC : tAt (mI m 40) (nI qx) 6 = nI o := (tAt_ag s3 (nI_neM (by omega)) p6).trans eo
    have eeC : tAt (mI m 40) (nI qy) 6 = nI e := (tAt_ag s3 (nI_neM (by omega)) p6).trans ee
    have ln : (10 : Int32) + mI m 38 qx ≠ -1 := by rw [ep]; exact lie_neM p (by omega)
    have eLC : tAt (mI m 40) ((10 : Int32) + mI m 38 qx) 6 = nI L := by
      rw [tAt_ag s3 ln p6, ep, ← ep2]; exact eL
    obtain ⟨b, hbC⟩ : ∃ b : Nat → Bool, ∀ t, (b t = true ↔ t < T ∧ mI m 40 t = (10 : Int32) + mI m 38 qx) := ⟨fun t => decide (t < T ∧ mI m 40 t = (10 : Int32) + mI m 38 qx), fun t => by simp⟩
    have hb6 : ∀ t, t < 6 → (b t = true ↔ mI m 40 t = (10 : Int32) + mI m 38 qx) := fun t ht => by
      rw [hbC]
      refine ⟨fun z => z.2, fun z => ⟨?_, z⟩⟩
      rcases Nat.lt_or_ge t T with u | u
      · exact u
      · have := s3.2 t u ht
        rw [this] at z
        exact absurd z.symm ln
    have hbL : ∀ t, t < 6 → (((nI L >>> (nI t &&& 31)) &&& (1 : Int32)) = (1 : Int32) ↔ b t = true) := fun t ht => by
      rw [← eLC]; exact (bt_t ht).trans (hb6 t ht).symm
    have hbT : ∀ t, b t = true → t < T := fun t z => ((hbC t).mp z).1
    obtain ⟨my, en, hg⟩ : ∃ my en, gmP m qx qy o e b = (b, my, en) := ⟨_, _, rfl⟩
    have hmy : ∀ s w, my s w = true ↔ pcI (nI ((if w = 1 then o else e) ||| tkN (dg s) w 6)) < mI m 536 1 := by
      intro s w
      have : my = (gmP m qx qy o e b).2.1 := by rw [hg]
      rw [this, ← v2]
      show decide _ = true ↔ _
      simp
    have tkT : ∀ s u, laidS b s → (u = 1 ∨ u = 2) → tkN (dg s) u 6 < 2 ^ T := fun s u hl hu => by
      have key : ∀ n, T ≤ n → n ≤ 6 → tkN (dg s) u n = tkN (dg s) u T := by
        intro n
        induction n with
        | zero => intro h1 _; rw [show T = 0 by omega]
        | succ n ih =>
          intro h1 h2
          by_cases e1 : T = n + 1
          · rw [e1]
          · have e2 : tkN (dg s) u (n + 1) = tkN (dg s) u n + if dg s n = u then 2 ^ n else 0 := rfl
            have e3 : dg s n = 0 := Classical.byContradiction fun z => by have := hbT n (hl n (by omega) z); omega
            rw [e2, if_neg (by omega), Nat.add_zero]
            exact ih (by omega) (by omega)
      rw [key 6 p6 (Nat.le_refl 6)]
      exact tkN_lt _ _ T
    have wx : ∀ k, k < 2 ^ T → woC m qx k = woM m qx k := fun k hk => by
      unfold woC woM
      rw [eDx k hk, wS_ag a4 p6 hk, qT, nI_clamp (show T < 2 ^ 31 by omega)]
    have wy : ∀ k, k < 2 ^ T → woC m qy k = woM m qy k := fun k hk => by
      unfold woC woM
      rw [eDy k hk, wS_ag a4 p6 hk, qT, nI_clamp (show T < 2 ^ 31 by omega)]
    have hen : ∀ s, laidS b s → en s = woM m qx (o ||| tkN (dg s) 1 6) - woM m qy (e ||| tkN (dg s) 2 6) := by
      intro s hl
      have : en = (gmP m qx qy o e b).2.2 := by rw [hg]
      rw [this, ← wx _ (Nat.or_lt_two_pow ho (tkT s 1 hl (Or.inl rfl))), ← wy _ (Nat.or_lt_two_pow he (tkT s 2 hl (Or.inr rfl)))]
      rfl
    have mod : ∀ m1, Same Scr m m1 → ∀ Q2 : Option Value → pMem → Prop, (∀ m2, Inv m2 → Q2 (some (.int (if w = 0 then gmV (b, my, en) 0 0 else (bst (b, my, en) (gmV (b, my, en)) 0 1 (gmV (b, my, en) 0 3)).2))) m2) → Cl X 5 mX12_game [.ref 535, .int (nI qx), .int (nI qy), .int w] m1 Q2 := by
      intro m1 hs Q2 h2
      have hW1 := hW.sm hs.2
      have g : ∀ a y, ¬ Scr a y → mI m1 a y = mI m a y := hs.1
      have g6 : ∀ j, j < 9 → mI m1 536 j = mI m 536 j := fun j hj => g _ _ (fun w => by unfold Scr at w; omega)
      have g7 : ∀ j, j < 4 → mI m1 537 j = mI m 537 j := fun j hj => g _ _ (fun w => by unfold Scr at w; omega)
      have g8 : ∀ j, j < 4 → mI m1 538 j = mI m 538 j := fun j hj => g _ _ (fun w => by unfold Scr at w; omega)
      have t9 : ∀ v, tAt (mI m1 539) v T = tAt (mI m 539) v T := fun v => by
        have : ∀ n, n ≤ 6 → tAt (mI m1 539) v n = tAt (mI m 539) v n := by
          intro n
          induction n with
          | zero => intro _; rfl
          | succ n ih => intro hn; unfold tAt; rw [ih (by omega), g 539 n (fun w => by unfold Scr at w; omega)]
        exact this T p6
      have eqy : (nI qy).toNatClampNeg = qy := nI_clamp (by omega)
      have c1' := c1
      rw [eqx, eqy] at c1'
      have cm : ((¬ nI qx < 0 ∧ ¬ (mI m1 536 3 - (1 : Int32)) < nI qx) ∧ mI m1 538 (nI qx).toNatClampNeg = 0) ∧ ((¬ nI qy < 0 ∧ ¬ (mI m1 536 3 - (1 : Int32)) < nI qy) ∧ mI m1 538 (nI qy).toNatClampNeg = 0) ∧ ¬ nI qx = nI qy ∧ mI m1 537 (nI qx).toNatClampNeg = mI m1 537 (nI qy).toNatClampNeg := by
        rw [eqx, eqy, g6 3 (by omega), g8 qx (by omega), g8 qy (by omega), g7 qx (by omega), g7 qy (by omega)]; exact c1'
      refine pCl_of (by decide +kernel) (Nat.le_of_ble_eq_true rfl) rfl (bX12_game_0 hW1 (by rw [g6 3 (by omega)]; exact vP) (fun _ _ => vp_in_nI (by omega) (by decide)) (fun _ _ => by rw [g6 4 (by omega)]; exact vT) (fun _ _ => ?_) (fun _ z => absurd w2 z) (fun z => absurd cm z))
      rw [eqx, g7 qx (by omega), g6 4 (by omega), qT, nI_clamp (show T < 2 ^ 31 by omega), t9, eL]
      have gj : GJ m qx qy L (uI (uI (uI m1 535 46 (nI qx)) 535 47 (nI qy)) 535 48 (nI L)) := ⟨⟨fun a y z => by
        rw [mI_uI, if_neg (fun w => z (by unfold Scr; omega)), mI_uI, if_neg (fun w => z (by unfold Scr; omega)), mI_uI, if_neg (fun w => z (by unfold Scr; omega))]; exact g a y z, fun x y => hs.2 x y⟩, by rw [mI_uI, if_neg (by omega), mI_uI, if_neg (by omega), mI_uI, if_pos ⟨rfl, rfl⟩], by rw [mI_uI, if_neg (by omega), mI_uI, if_pos ⟨rfl, rfl⟩], by rw [mI_uI, if_pos ⟨rfl, rfl⟩]⟩
      refine s_mLoop (b := b) (my := my) (en := en) hW hC qT p6 gj eo (by omega) ee (by omega) ⟨by omega, by omega⟩ oMx oMy hbL hbT hmy hen (fun m2 sm2 mv => ?_)
      have fin := h2 m2 (Inv_scr hInv sm2)
      refine bX12_game_183 (hW.sm sm2.2) (fun z => ?_) (fun z => ?_)
      · rw [if_neg z] at fin
        rw [mv]; exact fin
      · rw [if_pos z] at fin; exact fin
    -- the class
    refine pCl_of (by decide +kernel) (Nat.le_of_ble_eq_true rfl) rfl (bX11_game_0 hW (fun _ z => absurd z w2.1) (fun _ _ _ => ?_) (fun _ _ z => absurd (Int32.not_lt.mp w2.2) z) (fun z => absurd cC z))
    refine s_cPlay (b := b) hW hv0 hqx hqy eoC (by omega) eeC (by omega) hb6 (fun m2 sm2 e8 e9 => ?_)
    rw [hg] at e8 e9
    have fin := K _ m2 (hW.sm sm2.2) (fun Q2 h2 => mod m2 sm2 Q2 h2)
    refine bX11_game_31 (hW.sm sm2.2) (fun z => ?_) (fun z => ?_)
    · rw [if_neg z] at fin
      rw [e9]; exact fin
    · rw [if_pos z] at fin
      rw [e8]; exact fin
  · have bad : Q (some (.int (-10000))) m := K _ m hW (fun Q2 h2 => pCl_of (by decide +kernel) (Nat.le_of_ble_eq_true rfl) rfl (bX12_game_0 hW vP (fun z1 z2 => absurd ⟨z1, (inI (a := 1) (by decide)).mp z2⟩ c) (fun _ _ => vT) (fun z1 z2 => absurd ⟨z1, (inI (a := 1) (by decide)).mp z2⟩ c) (fun _ _ => h2 m hInv) (fun _ => h2 m hInv)))
    exact pCl_of (by decide +kernel) (Nat.le_of_ble_eq_true rfl) rfl (bX11_game_0 hW (fun _ _ => bad) (fun z1 z2 z3 => absurd ⟨tog.mp z1, (inI (a := 1) (by decide)).mp ⟨z2, Int32.not_lt.mpr z3⟩⟩ c) (fun _ _ _ => bad) (fun _ => bad))
end T37
