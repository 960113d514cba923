/-! ===== the class reads comparisons, facts, tests, clauses ===== -/
theorem cm_enc {x y : Int32} (h : cmS x y ≠ 0) : enc (cmS x y, 0) ≠ 0 := by
  have := (cmS_cm h).1
  unfold isCm at this
  rcases this with e | e | e | e | e <;> (rw [e]; decide)
section T47
variable {X : pX} {B : Nat → Nat} {L r : Nat}
theorem s_cSign {Q : Option Value → pMem → Prop} {m : pMem} {p c : Nat} {us : List Int32} (h : KS B L p c r us m) (hsk : sk B L p = p) (hc : c ≤ 60) (k1 : cmS (chI B L p) (chI B L (p + 1)) ≠ 0 → c < 60 → ∀ m2, KS B L (p + cmN (chI B L p) (chI B L (p + 1))) (c + 1) r us m2 → Kk r m m2 → Q (some (.int (enc (cmS (chI B L p) (chI B L (p + 1)), 0)))) m2)
    (k0 : ∀ f, ((cmS (chI B L p) (chI B L (p + 1)) = 0 ∧ f = 1 + 8 * p) ∨ (cmS (chI B L p) (chI B L (p + 1)) ≠ 0 ∧ 60 ≤ c ∧ f = 4 + 8 * p)) → ∀ m2, CF f m2 → Kk r m m2 → Q (some (.int 0)) m2) : Cl X 3 mX7_readSign [.ref 10] m Q := by
  have hL := h.1.2.1.1
  have hl := h.1.2.2.2.2
  refine pCl_of (by decide +kernel) (Nat.le_of_ble_eq_true rfl) rfl (bX7_readSign_0 h.1.1 (s_next h.1 (fun m2 h2 t2 => bX7_readSign_7 h2.1 ?_)))
  rw [hsk] at h2
  rw [h2.2.2.1]
  have K2 := KS_tk t2 h2 h
  generalize hx : chI B L p = x at *
  generalize hy : chI B L (p + 1) = y at *
  -- with a sign
  have yes : ∀ s n m3, cmS x y = s → cmN x y = n → s ≠ 0 → CS B L (p + n) m3 → Tk m2 m3 → Go X 3 mX7_readSign Q 103 [(0, .ref 10), (1, .int (nI p)), (2, .int (enc (s, 0)))] [] m3 := by
    intro s n m3 es en hs h3 t3
    subst es en
    have K3 := KS_tk t3 h3 K2
    have e10 : mI m3 10 2 = nI c := K3.2.1
    have nz := cm_enc hs
    have cn := KS_cn (c + 1) K3
    refine bX7_readSign_103 h3.1 (fun _ z => ?_) (fun _ z => ?_) (fun z => absurd z nz)
    · rw [e10] at z
      rw [e10, nI_1]
      exact k1 hs (nI_lt' (b := 60) (by omega) (by decide) z) _ cn.1 (((t2.tr t3).kk r).tr cn.2)
    · rw [e10] at z
      have z : 60 ≤ c := Nat.not_lt.mp fun w => z (nI_lt (b := 60) w (by decide))
      refine s_fail (k := 3) h3.1 h3.2.2.2.1 (by omega) (by decide) (fun m4 h4 t4 => bX7_readSign_137 h4.1 (k0 _ (Or.inr ⟨hs, z, rfl⟩) m4 ?_ ((t2.tr (t3.tr t4)).kk r)))
      rw [show 4 + 8 * p = 1 + 8 * p + 3 by omega]; exact h4
  refine s_ts h2 (by decide) (fun z m3 h3 t3 => ?_) (fun z m3 h3 t3 => ?_)
  · rw [hsk] at z h3
    rw [hx] at z
    refine bX7_readSign_27 h3.1 (fun w => absurd w (by decide)) (fun _ => s_tsa h3 (by decide) (fun w m4 h4 t4 => ?_) (fun w => ?_))
    · rw [hy] at w
      refine bX7_readSign_39 h4.1 (fun w => absurd w (by decide)) (fun _ => bX7_readSign_49v1 h4.1 ?_)
      exact yes 5 2 m4 (by rw [z, w]; decide) (by rw [z, w]; decide) (by decide) h4 (t3.tr t4)
    · rw [hy] at w
      refine bX7_readSign_39 h3.1 (fun _ => bX7_readSign_49 h3.1 ?_) (fun w => absurd rfl w)
      exact yes 4 1 m3 (by unfold cmS; rw [if_pos z, if_neg w]) (by unfold cmN; rw [if_neg (by rw [z]; decide), if_neg w]) (by decide) h3 t3
  · rw [hsk] at z h3
    rw [hx] at z
    refine bX7_readSign_27 h3.1 (fun _ => s_ts h3 (by decide) (fun z2 m4 h4 t4 => ?_) (fun z2 m4 h4 t4 => ?_)) (fun w => absurd rfl w)
    · rw [hsk] at z2 h4
      rw [hx] at z2
      refine bX7_readSign_62 h4.1 (fun w => absurd w (by decide)) (fun _ => s_tsa h4 (by decide) (fun w m5 h5 t5 => ?_) (fun w => ?_))
      · rw [hy] at w
        refine bX7_readSign_74 h5.1 (fun w => absurd w (by decide)) (fun _ => ?_)
        exact yes 7 2 m5 (by rw [z2, w]; decide) (by rw [z2, w]; decide) (by decide) h5 (t3.tr (t4.tr t5))
      · rw [hy] at w
        refine bX7_readSign_74 h4.1 (fun _ => ?_) (fun w => absurd rfl w)
        exact yes 8 1 m4 (by unfold cmS; rw [if_neg z, if_pos z2, if_neg w]) (by unfold cmN; rw [if_neg (by rw [z2]; decide), if_neg w]) (by decide) h4 (t3.tr t4)
    · rw [hsk] at z2 h4
      rw [hx] at z2
      refine bX7_readSign_62 h4.1 (fun _ => s_ts h4 (by decide) (fun z3 m5 h5 t5 => ?_) (fun z3 m5 h5 t5 => ?_)) (fun w => absurd rfl w)
      · rw [hsk] at z3 h5
        rw [hx] at z3
        refine bX7_readSign_97 h5.1 (fun w => absurd w (by decide)) (fun _ => ?_)
        exact yes 6 1 m5 (by unfold cmS; rw [if_neg z, if_neg z2, if_pos z3]) (by unfold cmN; rw [if_pos z3]) (by decide) h5 (t3.tr (t4.tr t5))
      · rw [hsk] at z3 h5
        rw [hx] at z3
        refine bX7_readSign_97 h5.1 (fun _ => bX7_readSign_103 h5.1 (fun w => absurd rfl w) (fun w => absurd rfl w) (fun _ => ?_)) (fun w => absurd rfl w)
        exact s_fail (k := 0) h5.1 h5.2.2.2.1 (by omega) (by decide) (fun m6 h6 t6 => bX7_readSign_116 h6.1 (k0 _ (Or.inl ⟨by unfold cmS; rw [if_neg z, if_neg z2, if_neg z3], rfl⟩) m6 h6 ((t2.tr (t3.tr (t4.tr (t5.tr t6)))).kk r)))
/-- what is asked of a reader of facts -/
def PF (X : pX) (B : Nat → Nat) (L r e : Nat) : Prop := ∀ D d p c us (m : pMem) (Q : Option Value → pMem → Prop), 3 * (L - p) + 2 ≤ e → d ≤ 10 → 32 ≤ D + 2 * d → KS B L p c r us m → c ≤ 60 → 3 * us.length ≤ 14 * c + 45 → (∀ p1 c1 ts, FT B L e 0 d p c 0 = .inr (p1, c1, ts) → ∀ m2, KS B L p1 c1 r (us ++ ts.map enc) m2 → Kk r m m2 → Q (some (.int 1)) m2) → (∀ f, FT B L e 0 d p c 0 = .inl f → ∀ m2, CF f m2 → Kk r m m2 → Q (some (.int 0)) m2) → Cl X D mX7_readFact [.ref 10, .int (nI d)] m Q
def PT (X : pX) (B : Nat → Nat) (L r e : Nat) : Prop := ∀ D d p c us (m : pMem) (Q : Option Value → pMem → Prop), 3 * (L - p) + 3 ≤ e → d ≤ 10 → 33 ≤ D + 2 * d → KS B L p c r us m → c ≤ 60 → 3 * us.length ≤ 14 * c + 45 → (∀ p1 c1 ts, FT B L e 1 d p c 0 = .inr (p1, c1, ts) → ∀ m2, KS B L p1 c1 r (us ++ ts.map enc) m2 → Kk r m m2 → Q (some (.int 1)) m2) → (∀ f, FT B L e 1 d p c 0 = .inl f → ∀ m2, CF f m2 → Kk r m m2 → Q (some (.int 0)) m2) → Cl X D mX7_readTest [.ref 10, .int (nI d)] m Q
def PR (X : pX) (B : Nat → Nat) (L r e : Nat) : Prop := ∀ D d p c us w i (m : pMem) (Q : Option Value → pMem → Prop), 3 * (L - p) + 1 ≤ e → d ≤ 10 → 33 ≤ D + 2 * d → KS B L p c r us m → c ≤ 60 → (w = 0 ∨ w = 11) → i + 1 ≤ p → 3 * us.length + (if w = 0 then 0 else 3) ≤ 14 * c + 45 → (∀ p1 c1 ts, FT B L e 2 d p c w = .inr (p1, c1, ts) → ∀ m2, KS B L p1 c1 r (us ++ ts.map enc) m2 → Kk r m m2 → Q (some (.int 1)) m2) → (∀ f, FT B L e 2 d p c w = .inl f → ∀ m2, CF f m2 → Kk r m m2 → Q (some (.int 0)) m2) → Go X D mX7_readTest Q 14 [(0, .ref 10), (1, .int (nI d)), (2, .int (stE w)), (3, .int (nI i))] [] m
theorem cFT_0 {e : Nat} (hf : PF X B L r e) (ht : PT X B L r e) : PF X B L r (e + 1) := by
  intro D d p c us m Q hfu hd hD h hc hu k1 k0
  have hL := h.1.2.1.1
  have hl := h.1.2.2.2.2
  have hs := sk_b (B := B) hl
  obtain ⟨z2, z3, z4, z5, z6⟩ := len_s
  rw [FT_0] at k1 k0
  have d10 : nI d < (10 : Int32) ↔ d < 10 := nI_ltI (b := 10) (by omega) (by decide)
  refine pCl_of (by decide +kernel) (Nat.le_of_ble_eq_true rfl) rfl (bX7_readFact_0 h.1.1 (by omega) (s_next h.1 (fun m2 h2 t2 => bX7_readFact_7 h2.1 (by omega) ?_)))
  rw [h2.2.2.1]
  have K2 := KS_tk t2 h2 h
  refine s_tw (k := 7) h2 (by decide) (fun w m3 h3 t3 => ?_) (fun w m3 h3 t3 => ?_)
  · rw [sk_sk] at w h3
    have w : WDi B L (sk B L p) 6 := w
    have hb := wd_b w
    have h3 : CS B L (sk B L p + 3) m3 := h3
    rw [if_pos w] at k1 k0
    have K3 := KS_tk t3 h3 K2
    refine bX7_readFact_25 h3.1 (by omega) (fun y => absurd y (by decide)) (fun _ y => ?_) (fun _ y => ?_)
    · have y := d10.mp y
      rw [if_neg (by omega)] at k1 k0
      rw [nI_1]
      refine hf (D - 1) (d + 1) _ c us m3 _ (by omega) (by omega) (by omega) K3 hc hu (fun p1 c1 ts e1 m4 h4 t4 => ?_) (fun f ef m4 h4 t4 => ?_)
      · rw [e1, bnd_inr] at k1
        obtain ⟨f1, f2, f3, f4, f5, f6, f7⟩ := (FT_ok e).1 _ _ _ _ _ _ (by have := wd_b w; omega) (by omega) e1
        refine bX7_readFact_51 h4.1.1 (by omega) h4.2.2.2.1 h4.2.2.2.2.sh (fun _ => s_rAdd h4 (by rw [List.length_append, List.length_map]; omega) (fun m5 h5 t5 => bX7_readFact_65 h5.1.1 (by omega) (k1 _ _ _ rfl m5 ?_ (((t2.tr t3).kk r).tr (t4.tr t5))))) (fun y => absurd y (by decide))
        rw [List.map_append, ← List.append_assoc]; exact h5
      · rw [ef, bnd_inl] at k0
        exact bX7_readFact_51 h4.1 (by omega) (r57 := r) ((t4.2 _ _).trans K3.2.2.2.1) h.2.2.2.2.sh (fun y => absurd rfl y) (fun _ => k0 f rfl m4 h4 (((t2.tr t3).kk r).tr t4))
    · have y : 10 ≤ d := Nat.not_lt.mp fun z => y (d10.mpr z)
      rw [if_pos y] at k0
      refine s_fail (k := 2) h3.1 h3.2.2.2.1 (by omega) (by decide) (fun m4 h4 t4 => bX7_readFact_43 h4.1 (by omega) (Or.inl rfl) (k0 _ rfl m4 ?_ ((t2.tr (t3.tr t4)).kk r)))
      rw [show 3 + 8 * sk B L p = 1 + 8 * sk B L p + 2 by omega]; exact h4
  · rw [sk_sk] at w h3
    have w : ¬ WDi B L (sk B L p) 6 := w
    rw [if_neg w] at k1 k0
    have K3 := KS_tk t3 h3 K2
    refine bX7_readFact_25 h3.1 (by omega) (fun _ => s_ts h3 (by decide) (fun y m4 h4 t4 => ?_) (fun y m4 h4 t4 => ?_)) (fun y => absurd rfl y) (fun y => absurd rfl y)
    · rw [sk_sk] at y h4
      rw [if_pos y] at k1 k0
      have hlt := ch_lt y (by decide)
      have K4 := KS_tk t4 h4 K3
      refine bX7_readFact_76 h4.1 (by omega) (fun y => absurd y (by decide)) (fun _ y => ?_) (fun _ y => ?_)
      · have y := d10.mp y
        rw [if_neg (by omega)] at k1 k0
        rw [nI_1]
        refine ht (D - 1) (d + 1) _ c us m4 _ (by omega) (by omega) (by omega) K4 hc hu (fun p1 c1 ts e1 m5 h5 t5 => ?_) (fun f ef m5 h5 t5 => ?_)
        · rw [e1, bnd_inr] at k1 k0
          have hs5 := sk_b (B := B) h5.1.2.2.2.2
          refine bX7_readFact_102 h5.1.1 (by omega) (fun y => absurd y (by decide)) (fun _ => s_ts h5.1 (by decide) (fun q m6 h6 t6 => ?_) (fun q m6 h6 t6 => ?_))
          · rw [if_pos q] at k1
            exact bX7_readFact_114 h6.1 (by omega) (fun _ => k1 _ _ _ rfl m6 (KS_tk t6 h6 h5) (((t2.tr (t3.tr t4)).kk r).tr (t5.tr (t6.kk r)))) (fun y => absurd y (by decide))
          · rw [if_neg q] at k0
            refine bX7_readFact_114 h6.1 (by omega) (fun y => absurd rfl y) (fun _ => ?_)
            rw [h6.2.2.1]
            exact s_fail (k := 0) h6.1 h6.2.2.2.1 (by omega) (by decide) (fun m7 h7 t7 => bX7_readFact_132 h7.1 (by omega) (fun _ => k0 _ rfl m7 h7 (((t2.tr (t3.tr t4)).kk r).tr (t5.tr ((t6.tr t7).kk r)))) (fun y => absurd rfl y))
        · rw [ef, bnd_inl] at k0
          exact bX7_readFact_102 h5.1 (by omega) (fun _ => k0 f rfl m5 h5 (((t2.tr (t3.tr t4)).kk r).tr t5)) (fun y => absurd rfl y)
      · have y : 10 ≤ d := Nat.not_lt.mp fun z => y (d10.mpr z)
        rw [if_pos y] at k0
        refine s_fail (k := 2) h4.1 h4.2.2.2.1 (by omega) (by decide) (fun m5 h5 t5 => bX7_readFact_94 h5.1 (by omega) (Or.inl rfl) (k0 _ rfl m5 ?_ ((t2.tr (t3.tr (t4.tr t5))).kk r)))
        rw [show 3 + 8 * sk B L p = 1 + 8 * sk B L p + 2 by omega]; exact h5
    · rw [sk_sk] at y h4
      rw [if_neg y] at k1 k0
      have K4 := KS_tk t4 h4 K3
      have T4 := (t2.tr (t3.tr t4)).kk r
      -- a sum from here is a sum from p
      have vsk : vlF B L (sk B L p) c = vlF B L p c := by unfold vlF; rw [sk_sk]
      have ssk : smF B L (sk B L p) c = smF B L p c := by unfold smF; rw [vsk]
      refine bX7_readFact_76 h4.1 (by omega) (fun _ => s_cSum K4 hc hu (fun p5 c5 ts5 e5 m5 h5 t5 => ?_) (fun f ef m5 h5 t5 => ?_)) (fun y => absurd rfl y) (fun y => absurd rfl y)
      · rw [ssk] at e5
        obtain ⟨a1, a2, a3, a4, a5, a6, a7, a8⟩ := sm_ok hl e5
        unfold cmF at k1 k0
        rw [e5] at k1 k0
        simp only at k1 k0
        refine bX7_readFact_145 h5.1.1 (by omega) (fun _ => s_cSign h5 a7 a4 (fun q1 q2 m6 h6 t6 => ?_) (fun f q m6 h6 t6 => ?_)) (fun y => absurd y (by decide))
        · rw [if_neg q1, if_neg (by omega)] at k1 k0
          have nz := cm_enc q1
          have cn := cmN_b (cmS_cm q1).2.1
          refine bX7_readFact_154 h6.1.1 (by omega) (fun y => absurd y nz) (fun _ => s_cSum h6 (by omega) (by rw [List.length_append, List.length_map]; omega) (fun p7 c7 ts7 e7 m7 h7 t7 => ?_) (fun f ef m7 h7 t7 => ?_))
          · obtain ⟨b1, b2, b3, b4, b5, b6, b7, b8⟩ := sm_ok cn.2 e7
            rw [e7] at k1
            refine bX7_readFact_163 h7.1.1 (by omega) h7.2.2.2.1 h7.2.2.2.2.sh (fun _ => s_rAdd h7 (by rw [List.length_append, List.length_append, List.length_map, List.length_map]; omega) (fun m8 h8 t8 => bX7_readFact_176 h8.1.1 (by omega) (k1 _ _ _ rfl m8 ?_ (T4.tr (t5.tr (t6.tr (t7.tr t8))))))) (fun y => absurd y (by decide))
            simp only [List.map_append, ← List.append_assoc] at h8 ⊢
            exact h8
          · rw [ef] at k0
            exact bX7_readFact_163 h7.1 (by omega) (r169 := r) ((t7.2 _ _).trans h6.2.2.2.1) h.2.2.2.2.sh (fun y => absurd rfl y) (fun _ => k0 f rfl m7 h7 (T4.tr (t5.tr (t6.tr t7))))
        · refine bX7_readFact_154 h6.1 (by omega) (fun _ => ?_) (fun y => absurd rfl y)
          rcases q with ⟨q1, rfl⟩ | ⟨q1, q2, rfl⟩
          · rw [if_pos q1] at k0
            exact k0 _ rfl m6 h6 (T4.tr (t5.tr t6))
          · rw [if_neg q1, if_pos q2] at k0
            exact k0 _ rfl m6 h6 (T4.tr (t5.tr t6))
      · rw [ssk] at ef
        unfold cmF at k0
        rw [ef] at k0
        exact bX7_readFact_145 h5.1 (by omega) (fun y => absurd rfl y) (fun _ => k0 f rfl m5 h5 (T4.tr t5))
theorem cFT_1 {e : Nat} (hf : PF X B L r e) (hr : PR X B L r e) : PT X B L r (e + 1) := by
  intro D d p c us m Q hfu hd hD h hc hu k1 k0
  have hl := h.1.2.2.2.2
  rw [FT_1] at k1 k0
  refine pCl_of (by decide +kernel) (Nat.le_of_ble_eq_true rfl) rfl (bX7_readTest_0 h.1.1 (by omega) (hf (D - 1) d p c us m _ (by omega) hd (by omega) h hc hu (fun p2 c2 t2 e2 m2 h2 T2 => ?_) (fun f ef m2 h2 T2 => ?_)))
  · rw [e2, bnd_inr] at k1 k0
    obtain ⟨f1, f2, f3, f4, f5, f6, f7⟩ := (FT_ok e).1 _ _ _ _ _ _ hl hd e2
    refine bX7_readTest_7 h2.1.1 (by omega) (fun _ => ?_) (fun y => absurd y (by decide))
    refine hr D d p2 c2 _ 0 0 m2 Q (by omega) hd hD h2 f4 (Or.inl rfl) (by omega) (by rw [if_pos rfl, List.length_append, List.length_map]; omega) (fun p3 c3 t3 e3 m3 h3 T3 => ?_) (fun f ef m3 h3 T3 => ?_)
    · rw [e3] at k1
      refine k1 _ _ _ rfl m3 ?_ (T2.tr T3)
      rw [List.map_append, ← List.append_assoc]; exact h3
    · rw [ef] at k0
      exact k0 f rfl m3 h3 (T2.tr T3)
  · rw [ef, bnd_inl] at k0
    exact bX7_readTest_7 h2.1 (by omega) (fun y => absurd rfl y) (fun _ => k0 f rfl m2 h2 T2)
theorem cFT_2 {e : Nat} (hf : PF X B L r e) (hr : PR X B L r e) : PR X B L r (e + 1) := by
  intro D d p c us w i m Q hfu hd hD h hc hw hi hu k1 k0
  have hL := h.1.2.1.1
  have hl := h.1.2.2.2.2
  have hs := sk_b (B := B) hl
  obtain ⟨z2, z3, z4, z5, z6⟩ := len_s
  have nz := stE_nz (w := w) (by rcases hw with z | z <;> simp [z])
  have hu3 : 3 * us.length ≤ 14 * c + 45 := by omega
  rw [FT_2] at k1 k0
  refine bX7_readTest_14 h.1.1 (by omega) (fun z => absurd z (nI_ge (a := i) (b := 400) (by omega) (by decide))) (fun _ => s_tw (k := 5) h.1 (by decide) (fun x1 m2 h2 t2 => ?_) (fun x1 m2 h2 t2 => ?_))
  · have x1 : WDi B L (sk B L p) 4 := x1
    have hb := wd_b x1
    have h2 : CS B L (sk B L p + 3) m2 := h2
    rw [if_pos x1] at k1 k0
    refine bX7_readTest_30 h2.1 (by omega) (fun y => absurd y (by decide)) (fun _ => hf (D - 1) d _ c us m2 _ (by omega) hd (by omega) (KS_tk t2 h2 h) hc hu3 (fun p3 c3 ts3 e3 m3 h3 t3 => ?_) (fun f ef m3 h3 t3 => ?_))
    · rw [e3, bnd_inr] at k1 k0
      obtain ⟨f1, f2, f3, f4, f5, f6, f7⟩ := (FT_ok e).1 _ _ _ _ _ _ (by omega) hd e3
      refine bX7_readTest_38 h3.1.1 (by omega) h3.2.2.2.1 h3.2.2.2.2.sh (fun _ => s_rAdd h3 (by rw [List.length_append, List.length_map]; omega) (fun m4 h4 t4 => bX7_readTest_52 h4.1.1 (by omega) ?_)) (fun y => absurd y (by decide))
      rw [nI_1]
      refine hr D d p3 c3 _ w (i + 1) m4 Q (by omega) hd hD h4 f4 hw (by omega) (by rw [List.length_append, List.length_append, List.length_map]; show 3 * (us.length + ts3.length + 1) + _ ≤ _; omega) (fun p5 c5 t5 e5 m5 h5 T5 => ?_) (fun f ef m5 h5 T5 => ?_)
      · rw [e5] at k1
        refine k1 _ _ _ rfl m5 ?_ ((t2.kk r).tr (t3.tr (t4.tr T5)))
        simp only [List.map_append, ← List.append_assoc] at h5 ⊢
        exact h5
      · rw [ef] at k0
        exact k0 f rfl m5 h5 ((t2.kk r).tr (t3.tr (t4.tr T5)))
    · rw [ef, bnd_inl] at k0
      exact bX7_readTest_38 h3.1 (by omega) (r44 := r) ((t3.2 _ _).trans ((t2.2 _ _).trans h.2.2.2.1)) h.2.2.2.2.sh (fun y => absurd rfl y) (fun _ => k0 f rfl m3 h3 ((t2.kk r).tr t3))
  · have x1 : ¬ WDi B L (sk B L p) 4 := x1
    rw [if_neg x1] at k1 k0
    have K2 := KS_tk t2 h2 h
    refine bX7_readTest_30 h2.1 (by omega) (fun _ => s_tw (k := 6) h2 (by decide) (fun x2 m3 h3 t3 => ?_) (fun x2 m3 h3 t3 => ?_)) (fun y => absurd rfl y)
    · rw [sk_sk] at x2 h3
      have x2 : WDi B L (sk B L p) 5 := x2
      have hb := wd_b x2
      have h3 : CS B L (sk B L p + 2) m3 := h3
      rw [if_pos x2] at k1 k0
      have pl := pend_len w
      refine bX7_readTest_64 h3.1 (by omega) (fun y => absurd y (by decide)) (fun _ => s_rStep (KS_tk t3 h3 K2) (by omega) (fun m4 h4 t4 => bX7_readTest_72 h4.1.1 (by omega) ?_) nz)
      refine hf (D - 1) d _ c _ m4 _ (by omega) hd (by omega) h4 hc (by rw [List.length_append, List.length_map, pl]; by_cases e0 : w = 0 <;> simp only [e0, if_true, if_false] at hu ⊢ <;> omega) (fun p5 c5 ts5 e5 m5 h5 t5 => ?_) (fun f ef m5 h5 t5 => ?_)
      · rw [e5, bnd_inr] at k1 k0
        obtain ⟨f1, f2, f3, f4, f5, f6, f7⟩ := (FT_ok e).1 _ _ _ _ _ _ (by omega) hd e5
        refine bX7_readTest_80 h5.1.1 (by omega) (fun _ => ?_) (fun y => absurd y (by decide))
        rw [nI_1, show (-32 : Int32) = stE 11 by decide]
        refine hr D d p5 c5 _ 11 (i + 1) m5 Q (by omega) hd hD h5 f4 (Or.inr rfl) (by omega) (by rw [if_neg (by decide), List.length_append, List.length_append, List.length_map, List.length_map, pl]; by_cases e0 : w = 0 <;> simp only [e0, if_true, if_false] at hu ⊢ <;> omega) (fun p6 c6 t6 e6 m6 h6 T6 => ?_) (fun f ef m6 h6 T6 => ?_)
        · rw [e6] at k1
          refine k1 _ _ _ rfl m6 ?_ (((t2.tr t3).kk r).tr (t4.tr (t5.tr T6)))
          simp only [List.map_append, ← List.append_assoc] at h6 ⊢
          exact h6
        · rw [ef] at k0
          exact k0 f rfl m6 h6 (((t2.tr t3).kk r).tr (t4.tr (t5.tr T6)))
      · rw [ef, bnd_inl] at k0
        exact bX7_readTest_80 h5.1 (by omega) (fun y => absurd rfl y) (fun _ => k0 f rfl m5 h5 (((t2.tr t3).kk r).tr (t4.tr t5)))
    · rw [sk_sk] at x2 h3
      have x2 : ¬ WDi B L (sk B L p) 5 := x2
      rw [if_neg x2] at k1 k0
      exact bX7_readTest_64 h3.1 (by omega) (fun _ => s_rStep (KS_tk t3 h3 K2) (by omega) (fun m4 h4 t4 => bX7_readTest_96 h4.1.1 (by omega) (k1 _ _ _ rfl m4 h4 (((t2.tr t3).kk r).tr t4))) nz) (fun y => absurd rfl y)
theorem cFT : ∀ e, PF X B L r e ∧ PT X B L r e ∧ PR X B L r e := by
  intro e
  induction e with
  | zero => exact ⟨fun D d p c us m Q h => by omega, fun D d p c us m Q h => by omega, fun D d p c us w i m Q h => by omega⟩
  | succ e ih => exact ⟨cFT_0 ih.1 ih.2.1, cFT_1 ih.1 ih.2.2, cFT_2 ih.1 ih.2.2⟩
theorem s_cTest {Q : Option Value → pMem → Prop} {m : pMem} {p c : Nat} {us : List Int32} (h : KS B L p c r us m) (hc : c ≤ 60) (hu : 3 * us.length ≤ 14 * c + 45) (k1 : ∀ p1 c1 ts, tsF B L p c = .inr (p1, c1, ts) → ∀ m2, KS B L p1 c1 r (us ++ ts.map enc) m2 → Kk r m m2 → Q (some (.int 1)) m2) (k0 : ∀ f, tsF B L p c = .inl f → ∀ m2, CF f m2 → Kk r m m2 → Q (some (.int 0)) m2) : Cl X 39 mX7_readTest [.ref 10, .int (0 : Int32)] m Q :=
  (cFT (3 * L + 3)).2.1 39 0 p c us m Q (by omega) (by omega) (by omega) h hc hu k1 k0
end T47
