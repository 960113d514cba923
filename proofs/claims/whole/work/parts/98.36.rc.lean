/-! ===== the class reads a road ===== -/
def Ck (m m2 : pMem) : Prop := Same (fun a k => (a = 1 ∧ (k = 2 ∨ k = 3)) ∨ (4 ≤ a ∧ a ≤ 9)) m m2
theorem Tk.ck {m m2 : pMem} (h : Tk m m2) : Ck m m2 := Same.mo h (fun _ _ z => Or.inl z)
theorem Ck.tr {m m2 m3 : pMem} (h : Ck m m2) (h2 : Ck m2 m3) : Ck m m3 := Same.tr h h2
theorem Ck.wr {m m2 : pMem} {a k : Nat} {v : Int32} (h : Ck m m2) (ha : 4 ≤ a ∧ a ≤ 9) : Ck m (uI m2 a k v) := Same.uI h (Or.inr ha)
theorem sh4x : SH[4]? = some (.inl 4) := by decide +kernel
theorem sh9x : SH[9]? = some (.inr (.int, 6)) := by decide +kernel
theorem CS_wr {B : Nat → Nat} {L p a k : Nat} {v : Int32} {m : pMem} (h : CS B L p m) (ha : 4 ≤ a) : CS B L p (uI m a k v) := by
  obtain ⟨hW, ⟨hL, t1, t2⟩, hp, hf, hl⟩ := h
  refine ⟨hW.sm (fun _ _ => rfl), ⟨hL, ?_, fun j hj => ?_⟩, ?_, ?_, hl⟩
  · rw [mI_uI, if_neg (by omega)]; exact t1
  · rw [mI_uI, if_neg (by omega)]; exact t2 j hj
  · rw [mI_uI, if_neg (by omega)]; exact hp
  · rw [mI_uI, if_neg (by omega)]; exact hf
theorem CF_wr {f a k : Nat} {v : Int32} {m : pMem} (h : CF f m) (ha : 4 ≤ a) : CF f (uI m a k v) :=
  ⟨h.1.sm (fun _ _ => rfl), by rw [mI_uI, if_neg (by omega)]; exact h.2.1, h.2.2⟩
theorem RX_tk {s : RS} {m m2 : pMem} (h : Tk m m2) (x : RX 4 s m) : RX 4 s m2 := RX_c (fun a k h1 _ => h.1 a k (by omega)) x
theorem RN_tk {s : RS} {m m2 : pMem} (h : Tk m m2) (x : RN s m) : RN s m2 := fun j h1 h2 => (h.1 9 j (by omega)).trans (x j h1 h2)
theorem cnD_le (D : Nat → Nat → Nat) (q : Nat) : ∀ n, cnD D q n ≤ n
  | 0 => Nat.le_refl _
  | n + 1 => by
    have := cnD_le D q n
    unfold cnD
    by_cases e : D 4 n = q
    · rw [if_pos e]; omega
    · rw [if_neg e]; omega
section T42
variable {X : pX} {Q : Option Value → pMem → Prop} {m : pMem} {B : Nat → Nat} {L p : Nat} {s : RS}
theorem s_rHands (h : CS B L p m) (x : RX 4 s m) (n : RN s m) (k1 : ∀ q s2, partF B L 0 p s = .inr (q, s2) → ∀ m2, CS B L q m2 → RX 4 s2 m2 → RN s2 m2 → Ck m m2 → Q (some (.int 1)) m2) (k0 : ∀ f, partF B L 0 p s = .inl f → ∀ m2, CF f m2 → Ck m m2 → Q (some (.int 0)) m2) : Cl X 2 mX5_readHands [.ref 3] m Q := by
  refine pCl_of (by decide +kernel) (Nat.le_of_ble_eq_true rfl) rfl (bX5_readHands_0 h.1 (s_next h (fun m2 h2 t2 => bX5_readHands_7 h2.1 ?_)))
  refine s_num (lo := 0) (hi := 5) h2 rfl (by decide) (by decide) (by decide) (fun v q e _ hv _ m3 h3 t3 => ?_) (fun f e m3 h3 t3 => ?_)
  · have t := t2.tr t3
    refine bX5_readHands_21 h3.1 sh4x (fun z => ?_) (fun _ => ?_)
    · rw [mI_uI, if_pos ⟨rfl, rfl⟩] at z
      exact absurd z (nI_neM (by omega))
    · refine k1 q (v, s.2) (by simp only [partF, e]) _ (CS_wr h3 (by omega)) (RX_h (by rw [mI_uI, if_pos ⟨rfl, rfl⟩]) (fun a k z1 z2 z3 => by rw [mI_uI, if_neg (by omega)]) (RX_tk t x)) (fun j z1 z2 => ?_) (Ck.wr t.ck (by omega))
      rw [mI_uI, if_neg (by omega)]
      exact RN_tk t n j z1 z2
  · have t := t2.tr t3
    refine bX5_readHands_21 h3.1 sh4x (fun _ => k0 f (by simp only [partF, e]) _ (CF_wr h3 (by omega)) (Ck.wr t.ck (by omega))) (fun z => ?_)
    rw [mI_uI, if_pos ⟨rfl, rfl⟩] at z
    exact absurd rfl z
theorem s_rStage (h : CS B L p m) (x : RX 4 s m) (n : RN s m) (hs : s.2.1 < 8) (k1 : ∀ q s2, partF B L 1 p s = .inr (q, s2) → ∀ m2, CS B L q m2 → RX 4 s2 m2 → RN s2 m2 → Ck m m2 → Q (some (.int 1)) m2) (k0 : ∀ f, partF B L 1 p s = .inl f → ∀ m2, CF f m2 → Ck m m2 → Q (some (.int 0)) m2) : Cl X 2 mX5_readStage [.ref 3] m Q := by
  refine pCl_of (by decide +kernel) (Nat.le_of_ble_eq_true rfl) rfl (bX5_readStage_0 h.1 (s_next h (fun m2 h2 t2 => bX5_readStage_7 h2.1 ?_)))
  refine s_num (lo := 1) (hi := 61) h2 rfl (by decide) (by decide) (by decide) (fun v q e _ hv _ m3 h3 t3 => ?_) (fun f e m3 h3 t3 => ?_)
  · have t := t2.tr t3
    have x3 := RX_tk t x
    have e2 : mI m3 4 2 = nI s.2.1 := x3.1.2.1
    refine bX5_readStage_18 h3.1 (fun _ => by rw [e2]; exact vp_in_nI hs (by decide)) (fun _ => ?_) (fun z => absurd z (nI_neM (by omega)))
    rw [e2, nI_1, nI_clamp (by omega)]
    refine k1 q (s.1, s.2.1 + 1, s.2.2.1, s.2.2.2.1, stD s.2.2.2.2 0 s.2.1 v) (by simp only [partF, e]) _ (CS_wr (CS_wr h3 (by omega)) (by omega)) (RX_s (by rw [mI_uI, if_pos ⟨rfl, rfl⟩]) (by rw [mI_uI, if_neg (by omega), mI_uI, if_pos ⟨rfl, rfl⟩]) (fun a k z1 z2 z3 z4 => by rw [mI_uI, if_neg (by omega), mI_uI, if_neg (by omega)]) x3) (fun j z1 z2 => ?_) (Ck.wr (Ck.wr t.ck (by omega)) (by omega))
    rw [mI_uI, if_neg (by omega), mI_uI, if_neg (by omega)]
    exact RN_tk t n j z1 z2
  · exact bX5_readStage_18 h3.1 (fun z => absurd rfl z) (fun z => absurd rfl z) (fun _ => k0 f (by simp only [partF, e]) m3 h3 (t2.tr t3).ck)
theorem s_rPerson (h : CS B L p m) (x : RX 4 s m) (n : RN s m) (hs : s.2.2.1 < 4) (k1 : ∀ q s2, partF B L 2 p s = .inr (q, s2) → ∀ m2, CS B L q m2 → RX 4 s2 m2 → RN s2 m2 → Ck m m2 → Q (some (.int 1)) m2) (k0 : ∀ f, partF B L 2 p s = .inl f → ∀ m2, CF f m2 → Ck m m2 → Q (some (.int 0)) m2) : Cl X 2 mX5_readPerson [.ref 3] m Q := by
  refine pCl_of (by decide +kernel) (Nat.le_of_ble_eq_true rfl) rfl (bX5_readPerson_0 h.1 (s_next h (fun m2 h2 t2 => bX5_readPerson_7 h2.1 ?_)))
  refine s_num (lo := 1) (hi := 21) h2 rfl (by decide) (by decide) (by decide) (fun v q e _ hv _ m3 h3 t3 => ?_) (fun f e m3 h3 t3 => ?_)
  · have t := t2.tr t3
    have x3 := RX_tk t x
    have e2 : mI m3 4 3 = nI s.2.2.1 := x3.1.2.2.1
    refine bX5_readPerson_18 h3.1 (fun _ => by rw [e2]; exact vp_in_nI hs (by decide)) (fun _ => ?_) (fun z => absurd z (nI_neM (by omega)))
    rw [e2, nI_1, nI_clamp (by omega)]
    refine k1 q (s.1, s.2.1, s.2.2.1 + 1, s.2.2.2.1, stD s.2.2.2.2 1 s.2.2.1 v) (by simp only [partF, e]) _ (CS_wr (CS_wr h3 (by omega)) (by omega)) (RX_p (by rw [mI_uI, if_pos ⟨rfl, rfl⟩]) (by rw [mI_uI, if_neg (by omega), mI_uI, if_pos ⟨rfl, rfl⟩]) (fun a k z1 z2 z3 z4 => by rw [mI_uI, if_neg (by omega), mI_uI, if_neg (by omega)]) x3) (fun j z1 z2 => ?_) (Ck.wr (Ck.wr t.ck (by omega)) (by omega))
    rw [mI_uI, if_neg (by omega), mI_uI, if_neg (by omega)]
    exact RN_tk t n j z1 z2
  · exact bX5_readPerson_18 h3.1 (fun z => absurd rfl z) (fun z => absurd rfl z) (fun _ => k0 f (by simp only [partF, e]) m3 h3 (t2.tr t3).ck)
theorem s_rThing (h : CS B L p m) (x : RX 4 s m) (n : RN s m) (hs : s.2.2.2.1 < 6) (k1 : ∀ q s2, partF B L 3 p s = .inr (q, s2) → ∀ m2, CS B L q m2 → RX 4 s2 m2 → RN s2 m2 → Ck m m2 → Q (some (.int 1)) m2) (k0 : ∀ f, partF B L 3 p s = .inl f → ∀ m2, CF f m2 → Ck m m2 → Q (some (.int 0)) m2) : Cl X 2 mX5_readThing [.ref 3] m Q := by
  refine pCl_of (by decide +kernel) (Nat.le_of_ble_eq_true rfl) rfl (bX5_readThing_0 h.1 (s_next h (fun m2 h2 t2 => bX5_readThing_7 h2.1 ?_)))
  refine s_num (lo := 0) (hi := 10) h2 rfl (by decide) (by decide) (by decide) (fun v q e _ hv _ m3 h3 t3 => ?_) (fun f e m3 h3 t3 => ?_)
  · refine bX5_readThing_18 h3.1 (fun _ => s_next h3 (fun m4 h4 t4 => bX5_readThing_33 h4.1 ?_)) (fun z => absurd z (nI_neM (by omega)))
    refine s_num (lo := 0) (hi := 51) h4 rfl (by decide) (by decide) (by decide) (fun w q2 e' _ hw _ m5 h5 t5 => ?_) (fun f e' m5 h5 t5 => ?_)
    · have t := (t2.tr t3).tr (t4.tr t5)
      have x3 := RX_tk t x
      have e2 : mI m5 4 4 = nI s.2.2.2.1 := x3.1.2.2.2
      refine bX5_readThing_44 h5.1 (fun _ => by rw [e2]; exact vp_in_nI hs (by decide)) (fun _ => ?_) (fun z => absurd z (nI_neM (by omega)))
      rw [e2, nI_1, nI_clamp (by omega)]
      refine k1 q2 (s.1, s.2.1, s.2.2.1, s.2.2.2.1 + 1, stD (stD (stD s.2.2.2.2 2 s.2.2.2.1 v) 3 s.2.2.2.1 w) 4 s.2.2.2.1 10) (by simp only [partF, e, e']) _ (CS_wr (CS_wr (CS_wr (CS_wr h5 (by omega)) (by omega)) (by omega)) (by omega)) (RX_t ?_ ?_ ?_ ?_ (fun a k z1 z2 z3 z4 => ?_) x3) (fun j z1 z2 => ?_) (Ck.wr (Ck.wr (Ck.wr (Ck.wr t.ck (by omega)) (by omega)) (by omega)) (by omega))
      · rw [mI_uI, if_pos ⟨rfl, rfl⟩]
      · rw [mI_uI, if_neg (by omega), mI_uI, if_neg (by omega), mI_uI, if_neg (by omega), mI_uI, if_pos ⟨rfl, rfl⟩]
      · rw [mI_uI, if_neg (by omega), mI_uI, if_neg (by omega), mI_uI, if_pos ⟨rfl, rfl⟩]
      · rw [mI_uI, if_neg (by omega), mI_uI, if_pos ⟨rfl, rfl⟩]; rfl
      · rw [mI_uI, if_neg (by omega), mI_uI, if_neg (by omega), mI_uI, if_neg (by omega), mI_uI, if_neg (by omega)]
      · have z1 : s.2.2.2.1 + 1 ≤ j := z1
        rw [mI_uI, if_neg (by omega), mI_uI, if_neg (by omega), mI_uI, if_neg (by omega), mI_uI, if_neg (by omega)]
        exact RN_tk t n j (by omega) z2
    · exact bX5_readThing_44 h5.1 (fun z => absurd rfl z) (fun z => absurd rfl z) (fun _ => k0 f (by simp only [partF, e, e']) m5 h5 ((t2.tr t3).tr (t4.tr t5)).ck)
  · exact bX5_readThing_18 h3.1 (fun z => absurd rfl z) (fun _ => k0 f (by simp only [partF, e]) m3 h3 (t2.tr t3).ck)
theorem s_many {q : Nat} (hW : Wf m) (x : RX 4 s m) (n : RN s m) (b : RB s) (hq : q < 1000000) (k : Q (some (.int (nI (cnD s.2.2.2.2 q s.2.2.2.1)))) m) : Cl X 0 mX5_manyOf [.ref 3, .int (nI q)] m Q := by
  have hT := b.2.2.2.1
  have main : ∀ i, i ≤ 6 → Go X 0 mX5_manyOf Q 17 [(1, .int (nI q)), (2, .int (nI (cnD s.2.2.2.2 q (min i s.2.2.2.1)))), (3, .ref 9), (4, .int (6 : Int32)), (5, .int (nI i))] [] m := by
    refine upTo (P := fun i => Go X 0 mX5_manyOf Q 17 [(1, .int (nI q)), (2, .int (nI (cnD s.2.2.2.2 q (min i s.2.2.2.1)))), (3, .ref 9), (4, .int (6 : Int32)), (5, .int (nI i))] [] m) 6 ?_ ?_
    · refine bX5_manyOf_17 hW sh9x (fun _ => ?_) (fun z => absurd (by decide) z) (fun z => absurd (by decide) z) (fun z => absurd (by decide) z)
      rw [show min 6 s.2.2.2.1 = s.2.2.2.1 by omega]; exact k
    · intro i hi ih
      have hlt : ¬ (6 : Int32) ≤ nI i := nI_ge (a := i) (b := 6) hi (by decide)
      by_cases c : i < s.2.2.2.1
      · have d := (x.2.2.2 i c).2.2
        have d : mI m 9 i = nI (s.2.2.2.2 4 i) := d
        have hb := (b.2.2.2.2.2 i c).2
        have hb2 : s.2.2.2.2 4 i ≤ 10 := by have := b.2.2.1; omega
        rw [show min (i + 1) s.2.2.2.1 = i + 1 by omega] at ih
        rw [show min i s.2.2.2.1 = i by omega]
        refine bX5_manyOf_17 hW sh9x (fun z => absurd z hlt) (fun _ => vp_in_nI hi (by decide)) (fun _ z => ?_) (fun _ z => ?_)
        · rw [nI_clamp (by omega), d, nI_eq (by omega) (by omega)] at z
          rw [nI_1]
          unfold cnD at ih
          rw [if_neg z] at ih
          exact ih
        · rw [nI_clamp (by omega), d, nI_eq (by omega) (by omega)] at z
          rw [nI_1, nI_1]
          unfold cnD at ih
          rw [if_pos z] at ih
          exact ih
      · have d := n i (by omega) hi
        rw [show min (i + 1) s.2.2.2.1 = min i s.2.2.2.1 by omega] at ih
        refine bX5_manyOf_17 hW sh9x (fun z => absurd z hlt) (fun _ => vp_in_nI hi (by decide)) (fun _ _ => ?_) (fun _ z => ?_)
        · rw [nI_1]; exact ih
        · rw [nI_clamp (by omega), d] at z
          exact absurd z.symm (nI_neM (by omega))
  exact pCl_of (by decide +kernel) (Nat.le_of_ble_eq_true rfl) rfl (bX5_manyOf_0 hW (main 0 (Nat.zero_le _)))
theorem s_rHas (h : CS B L p m) (x : RX 4 s m) (n : RN s m) (b : RB s) (k1 : ∀ q s2, partF B L 4 p s = .inr (q, s2) → ∀ m2, CS B L q m2 → RX 4 s2 m2 → RN s2 m2 → Ck m m2 → Q (some (.int 1)) m2) (k0 : ∀ f, partF B L 4 p s = .inl f → ∀ m2, CF f m2 → Ck m m2 → Q (some (.int 0)) m2) : Cl X 2 mX5_readHas [.ref 3] m Q := by
  refine pCl_of (by decide +kernel) (Nat.le_of_ble_eq_true rfl) rfl (bX5_readHas_0 h.1 (s_next h (fun m2 h2 t2 => bX5_readHas_7 h2.1 ?_)))
  have x2 := RX_tk t2 x
  have b' := b
  obtain ⟨b1, b2, b3, b4, b5, b6⟩ := b
  have hL := h.2.1.1
  have hs := sk_b (B := B) h.2.2.2.2
  rw [x2.1.2.2.1, h2.2.2.1]
  refine s_num (lo := 0) (hi := s.2.2.1) h2 rfl rfl (by decide) (by omega) (fun v q e _ hv hq m3 h3 t3 => ?_) (fun f e m3 h3 t3 => ?_)
  · have t := t2.tr t3
    have x3 := RX_tk t x
    refine bX5_readHas_33 h3.1 (fun _ => s_many h3.1 x3 (RN_tk t n) b' (by omega) (bX5_readHas_46 h3.1 (fun z => ?_) (fun z => ?_))) (fun z => absurd z (nI_neM (by omega)))
    · rw [x3.1.1] at z
      have hc := cnD_le s.2.2.2.2 v s.2.2.2.1
      have z := nI_lt' (by omega) (by omega) z
      refine s_next h3 (fun m4 h4 t4 => bX5_readHas_73 h4.1 ?_)
      have x4 := RX_tk (t.tr t4) x
      have hs3 := sk_b (B := B) h3.2.2.2.2
      rw [x4.1.2.2.2, h4.2.2.1]
      refine s_num (lo := 0) (hi := s.2.2.2.1) h4 rfl rfl (by decide) (by omega) (fun w q2 e' _ hw _ m5 h5 t5 => ?_) (fun f e' m5 h5 t5 => ?_)
      · have t' := t.tr (t4.tr t5)
        have x5 := RX_tk t' x
        have d : mI m5 9 w = nI (s.2.2.2.2 4 w) := (x5.2.2.2 w hw).2.2
        have vw : vp_in (nI w) 6 := vp_in_nI (by omega) (by decide)
        have hb := (b6 w hw).2
        refine bX5_readHas_99 h5.1 (fun _ => vw) (fun _ _ => vw) (fun _ y => ?_) (fun _ y => ?_) (fun y => absurd y (nI_neM (by omega)))
        · rw [nI_clamp (by omega), d, show (10 : Int32) = nI 10 from rfl, nI_eq (by omega) (by decide)] at y
          rw [nI_clamp (by omega)]
          refine k1 q2 (s.1, s.2.1, s.2.2.1, s.2.2.2.1, stD s.2.2.2.2 4 w v) (by simp only [partF, e, e', if_neg (Nat.not_le.mpr z), if_neg (not_not_intro y)]) _ (CS_wr h5 (by omega)) (RX_w (by rw [mI_uI, if_pos ⟨rfl, rfl⟩]) (fun a k z1 z2 z3 => by rw [mI_uI, if_neg (by omega)]) x5) (fun j z1 z2 => ?_) (Ck.wr t'.ck (by omega))
          have z1 : s.2.2.2.1 ≤ j := z1
          rw [mI_uI, if_neg (by omega)]
          exact RN_tk t' n j z1 z2
        · rw [nI_clamp (by omega), d, show (10 : Int32) = nI 10 from rfl, nI_eq (by omega) (by decide)] at y
          refine s_fail (k := 1) h5.1 h5.2.2.2.1 (by omega) (by decide) (fun m6 h6 t6 => bX5_readHas_133 h6.1 (Or.inl rfl) (k0 (2 + 8 * sk B L q) (by simp only [partF, e, e', if_neg (Nat.not_le.mpr z), if_pos y]) m6 ?_ (t'.tr t6).ck))
          rw [show 2 + 8 * sk B L q = 1 + 8 * sk B L q + 1 by omega]; exact h6
      · exact bX5_readHas_99 h5.1 (fun y => absurd rfl y) (fun y => absurd rfl y) (fun y => absurd rfl y) (fun y => absurd rfl y) (fun _ => k0 f (by simp only [partF, e, e', if_neg (Nat.not_le.mpr z)]) m5 h5 (t.tr (t4.tr t5)).ck)
    · rw [x3.1.1] at z
      have z : s.1 ≤ cnD s.2.2.2.2 v s.2.2.2.1 := Nat.not_lt.mp fun w => z (nI_lt w (by omega))
      refine s_fail (k := 1) h3.1 h3.2.2.2.1 (by omega) (by decide) (fun m6 h6 t6 => bX5_readHas_65 h6.1 (Or.inl rfl) (k0 (2 + 8 * sk B L p) (by simp only [partF, e, if_pos z]) m6 ?_ (t.tr t6).ck))
      rw [show 2 + 8 * sk B L p = 1 + 8 * sk B L p + 1 by omega]; exact h6
  · exact bX5_readHas_33 h3.1 (fun z => absurd rfl z) (fun _ => k0 f (by simp only [partF, e]) m3 h3 (t2.tr t3).ck)
theorem s_cFull {k : Nat} (hk : k < 5) (hW : Wf m) (x : RX 4 s m) (b : RB s) (k1 : ((k = 1 ∧ 8 ≤ s.2.1) ∨ (k = 2 ∧ 4 ≤ s.2.2.1) ∨ (k = 3 ∧ 6 ≤ s.2.2.2.1)) → Q (some (.int 1)) m) (k0 : ¬ ((k = 1 ∧ 8 ≤ s.2.1) ∨ (k = 2 ∧ 4 ≤ s.2.2.1) ∨ (k = 3 ∧ 6 ≤ s.2.2.2.1)) → Q (some (.int 0)) m) : Cl X 0 mX5_isFull [.ref 3, .int (nI k)] m Q := by
  obtain ⟨⟨x1, x2, x3, x4⟩, _⟩ := x
  obtain ⟨b1, b2, b3, b4, _⟩ := b
  refine pCl_of (by decide +kernel) (Nat.le_of_ble_eq_true rfl) rfl ?_
  have hh : k = 0 ∨ k = 1 ∨ k = 2 ∨ k = 3 ∨ k = 4 := by omega
  rcases hh with rfl | rfl | rfl | rfl | rfl
  · exact bX5_isFull_0 hW (fun _ => bX5_isFull_17 hW (fun _ => bX5_isFull_33 hW (fun _ => k0 (by omega)) (fun z => absurd z (by decide)) (fun z => absurd z (by decide))) (fun z => absurd z (by decide)) (fun z => absurd z (by decide))) (fun z => absurd z (by decide)) (fun z => absurd z (by decide))
  · refine bX5_isFull_0 hW (fun z => absurd rfl z) (fun _ z => ?_) (fun _ z => bX5_isFull_17 hW (fun _ => bX5_isFull_33 hW (fun _ => ?_) (fun z => absurd z (by decide)) (fun z => absurd z (by decide))) (fun z => absurd z (by decide)) (fun z => absurd z (by decide)))
    · rw [x2] at z
      exact k1 (Or.inl ⟨rfl, nI_le' (a := 8) (by decide) (by omega) z⟩)
    · rw [x2] at z
      exact k0 (fun w => z (nI_le (a := 8) (by omega) (by omega)))
  · refine bX5_isFull_0 hW (fun _ => bX5_isFull_17 hW (fun z => absurd rfl z) (fun _ z => ?_) (fun _ z => bX5_isFull_33 hW (fun _ => ?_) (fun z => absurd z (by decide)) (fun z => absurd z (by decide)))) (fun z => absurd z (by decide)) (fun z => absurd z (by decide))
    · rw [x3] at z
      exact k1 (Or.inr (Or.inl ⟨rfl, nI_le' (a := 4) (by decide) (by omega) z⟩))
    · rw [x3] at z
      exact k0 (fun w => z (nI_le (a := 4) (by omega) (by omega)))
  · refine bX5_isFull_0 hW (fun _ => bX5_isFull_17 hW (fun _ => bX5_isFull_33 hW (fun z => absurd rfl z) (fun _ z => ?_) (fun _ z => ?_)) (fun z => absurd z (by decide)) (fun z => absurd z (by decide))) (fun z => absurd z (by decide)) (fun z => absurd z (by decide))
    · rw [x4] at z
      have z := nI_lt' (b := 6) (by omega) (by decide) z
      exact k0 (by omega)
    · rw [x4] at z
      exact k1 (Or.inr (Or.inr ⟨rfl, Nat.not_lt.mp fun w => z (nI_lt (b := 6) w (by decide))⟩))
  · exact bX5_isFull_0 hW (fun _ => bX5_isFull_17 hW (fun _ => bX5_isFull_33 hW (fun _ => k0 (by omega)) (fun z => absurd z (by decide)) (fun z => absurd z (by decide))) (fun z => absurd z (by decide)) (fun z => absurd z (by decide))) (fun z => absurd z (by decide)) (fun z => absurd z (by decide))
theorem cl_none {n : Nat} (h : wlF B L (sk B L p) 0 = 5) : clF B L n p s = .inl (1 + 8 * sk B L p) := by unfold clF; rw [if_pos h]
theorem cl_full {n : Nat} (h : ¬ wlF B L (sk B L p) 0 = 5) (h2 : fullF n (wlF B L (sk B L p) 0) s) : clF B L n p s = .inl (5 + 8 * sk B L p) := by unfold clF; rw [if_neg h, if_pos h2]
theorem cl_part {n : Nat} (h : ¬ wlF B L (sk B L p) 0 = 5) (h2 : ¬ fullF n (wlF B L (sk B L p) 0) s) : clF B L n p s = partF B L (wlF B L (sk B L p) 0) (sk B L p + wlen 0 (wlF B L (sk B L p) 0)) s := by unfold clF; rw [if_neg h, if_neg h2]
theorem s_rClause {n : Nat} (h : CS B L p m) (x : RX 4 s m) (nn : RN s m) (b : RB s) (hn : n ≤ 40) (k1 : ∀ q s2, clF B L n p s = .inr (q, s2) → RB s2 → ∀ m2, CS B L q m2 → RX 4 s2 m2 → RN s2 m2 → Ck m m2 → Q (some (.int 1)) m2) (k0 : ∀ f, clF B L n p s = .inl f → ∀ m2, CF f m2 → Ck m m2 → Q (some (.int 0)) m2) : Cl X 7 mX5_readClause [.ref 3, .int (nI n)] m Q := by
  have hs := sk_b (B := B) h.2.2.2.2
  have hL := h.2.1.1
  refine pCl_of (by decide +kernel) (Nat.le_of_ble_eq_true rfl) rfl (bX5_readClause_0 h.1 (s_next h (fun m2 h2 t2 => bX5_readClause_7 h2.1 ?_)))
  rw [h2.2.2.1]
  refine s_two (i := 0) h2 (by decide) (fun hw m3 h3 t3 => ?_) (fun hw => ?_)
  · have hw : wlF B L (sk B L p) 0 < 5 := hw
    have cf := cl_full (B := B) (L := L) (p := p) (s := s) (n := n) (by omega)
    have cp := cl_part (B := B) (L := L) (p := p) (s := s) (n := n) (by omega)
    have t := t2.tr t3
    have x3 := RX_tk t x
    have n3 := RN_tk t nn
    have h3 : CS B L (sk B L p + wlen 0 (wlF B L (sk B L p) 0)) m3 := h3
    generalize wlF B L (sk B L p) 0 = w at *
    have wM : ¬ nI w = (-1 : Int32) := nI_neM (by omega)
    have fl : fullF n w s → ∀ m4, CF (1 + 8 * sk B L p + 4) m4 → Tk m3 m4 → Q (some (.int 0)) m4 := fun hf m4 h4 t4 => k0 _ (cf hf) m4 (by rw [show 5 + 8 * sk B L p = 1 + 8 * sk B L p + 4 by omega]; exact h4) (t.tr t4).ck
    have f1 : fullF n w s → Cl X 0 mX9_fail [.ref 1, .int (nI (sk B L p)), .int (4 : Int32)] m3 (fun v m2 => Go X 7 mX5_readClause Q 85 [(0, .ref 3), (1, .int (nI n)), (2, .int (nI (sk B L p))), (3, .int (nI w))] (v.toList ++ []) m2) := fun hf => s_fail (k := 4) h3.1 h3.2.2.2.1 (by omega) (by decide) (fun m4 h4 t4 => bX5_readClause_85 h4.1 (Or.inl rfl) (fl hf m4 h4 t4))
    have f2 : fullF n w s → Cl X 0 mX9_fail [.ref 1, .int (nI (sk B L p)), .int (4 : Int32)] m3 (fun v m2 => Go X 7 mX5_readClause Q 85 [(0, .ref 3), (2, .int (nI (sk B L p))), (3, .int (nI w))] (v.toList ++ []) m2) := fun hf => s_fail (k := 4) h3.1 h3.2.2.2.1 (by omega) (by decide) (fun m4 h4 t4 => bX5_readClause_85v1 h4.1 (Or.inl rfl) (fl hf m4 h4 t4))
    have go73 : ¬ fullF n w s → Go X 7 mX5_readClause Q 73 [(0, .ref 3), (2, .int (nI (sk B L p))), (3, .int (nI w))] [.int 0] m3 := by
      intro hf
      have cp := cp hf
      have f8 : w = 1 → s.2.1 < 8 := fun z => Nat.lt_of_not_le fun u => hf (Or.inr (Or.inr (Or.inl ⟨z, u⟩)))
      have f4 : w = 2 → s.2.2.1 < 4 := fun z => Nat.lt_of_not_le fun u => hf (Or.inr (Or.inr (Or.inr (Or.inl ⟨z, u⟩))))
      have f6 : w = 3 → s.2.2.2.1 < 6 := fun z => Nat.lt_of_not_le fun u => hf (Or.inr (Or.inr (Or.inr (Or.inr ⟨z, u⟩))))
      have g1 : ∀ q s2, partF B L w (sk B L p + wlen 0 w) s = .inr (q, s2) → ∀ m4, CS B L q m4 → RX 4 s2 m4 → RN s2 m4 → Ck m3 m4 → Q (some (.int 1)) m4 := fun q s2 e m4 h4 x4 n4 t4 => k1 q s2 (cp.trans e) (part_RB b hf e) m4 h4 x4 n4 (t.ck.tr t4)
      have g0 : ∀ f, partF B L w (sk B L p + wlen 0 w) s = .inl f → ∀ m4, CF f m4 → Ck m3 m4 → Q (some (.int 0)) m4 := fun f e m4 h4 t4 => k0 f (cp.trans e) m4 h4 (t.ck.tr t4)
      clear k1 k0 cp cf fl f1 f2 hf
      have hh : w = 0 ∨ w = 1 ∨ w = 2 ∨ w = 3 ∨ w = 4 := by omega
      rcases hh with rfl | rfl | rfl | rfl | rfl
      · exact bX5_readClause_73 h3.1 (fun _ _ => s_rHands h3 x3 n3 (fun q s2 e m4 h4 x4 n4 t4 => bX5_readClause_120 h4.1 (Or.inr rfl) (g1 q s2 e m4 h4 x4 n4 t4)) (fun f e m4 h4 t4 => bX5_readClause_120 h4.1 (Or.inl rfl) (g0 f e m4 h4 t4))) (fun _ z => absurd rfl z) (fun _ z => absurd rfl z) (fun _ z => absurd rfl z) (fun _ z => absurd rfl z) (fun z => absurd rfl z)
      · exact bX5_readClause_73 h3.1 (fun _ z => absurd z (by decide)) (fun _ _ _ => s_rStage h3 x3 n3 (f8 rfl) (fun q s2 e m4 h4 x4 n4 t4 => bX5_readClause_125 h4.1 (Or.inr rfl) (g1 q s2 e m4 h4 x4 n4 t4)) (fun f e m4 h4 t4 => bX5_readClause_125 h4.1 (Or.inl rfl) (g0 f e m4 h4 t4))) (fun _ _ z => absurd rfl z) (fun _ _ z => absurd rfl z) (fun _ _ z => absurd rfl z) (fun z => absurd rfl z)
      · exact bX5_readClause_73 h3.1 (fun _ z => absurd z (by decide)) (fun _ _ z => absurd z (by decide)) (fun _ _ _ _ => s_rPerson h3 x3 n3 (f4 rfl) (fun q s2 e m4 h4 x4 n4 t4 => bX5_readClause_130 h4.1 (Or.inr rfl) (g1 q s2 e m4 h4 x4 n4 t4)) (fun f e m4 h4 t4 => bX5_readClause_130 h4.1 (Or.inl rfl) (g0 f e m4 h4 t4))) (fun _ _ _ z => absurd rfl z) (fun _ _ _ z => absurd rfl z) (fun z => absurd rfl z)
      · exact bX5_readClause_73 h3.1 (fun _ z => absurd z (by decide)) (fun _ _ z => absurd z (by decide)) (fun _ _ _ z => absurd z (by decide)) (fun _ _ _ _ _ => s_rThing h3 x3 n3 (f6 rfl) (fun q s2 e m4 h4 x4 n4 t4 => bX5_readClause_135 h4.1 (Or.inr rfl) (g1 q s2 e m4 h4 x4 n4 t4)) (fun f e m4 h4 t4 => bX5_readClause_135 h4.1 (Or.inl rfl) (g0 f e m4 h4 t4))) (fun _ _ _ _ z => absurd rfl z) (fun z => absurd rfl z)
      · exact bX5_readClause_73 h3.1 (fun _ z => absurd z (by decide)) (fun _ _ z => absurd z (by decide)) (fun _ _ _ z => absurd z (by decide)) (fun _ _ _ _ z => absurd z (by decide)) (fun _ _ _ _ _ => s_rHas h3 x3 n3 b (fun q s2 e m4 h4 x4 n4 t4 => bX5_readClause_140 h4.1 (Or.inr rfl) (g1 q s2 e m4 h4 x4 n4 t4)) (fun f e m4 h4 t4 => bX5_readClause_140 h4.1 (Or.inl rfl) (g0 f e m4 h4 t4))) (fun z => absurd rfl z)
    have iz : n < 40 → (w = 0 ↔ n = 0) → Cl X 0 mX5_isFull [.ref 3, .int (nI w)] m3 (fun v m2 => Go X 7 mX5_readClause Q 73 [(0, .ref 3), (2, .int (nI (sk B L p))), (3, .int (nI w))] (v.toList ++ []) m2) := fun h40 hz => by
      refine s_cFull hw h3.1 x3 b (fun c => ?_) (fun c => go73 (fun hf => ?_))
      · exact bX5_readClause_73 h3.1 (fun z => absurd z (by decide)) (fun z => absurd z (by decide)) (fun z => absurd z (by decide)) (fun z => absurd z (by decide)) (fun z => absurd z (by decide)) (fun _ => f2 (Or.inr (Or.inr c)))
      · rcases hf with z | z | z
        · omega
        · exact z hz
        · exact c z
    have n0 : ∀ z : n = 0, nI n = 0 := fun z => by rw [z]; rfl
    have n1 : ∀ z : n ≠ 0, ¬ nI n = 0 := fun z => nI_ne0 (by omega) (by omega)
    have l40 : ¬ (40 : Int32) ≤ nI n → n < 40 := fun z => Nat.lt_of_not_le fun u => z (nI_le (a := 40) u (by omega))
    refine bX5_readClause_25 h3.1 (fun _ z => f1 (Or.inl (nI_le' (a := 40) (by decide) (by omega) z))) (fun _ z1 z2 => ?_) (fun _ z1 z2 => ?_) (fun z => absurd z wM)
    · have w0 : w ≠ 0 := fun u => z2 (by rw [u]; rfl)
      refine bX5_readClause_56 h3.1 (fun z3 => bX5_readClause_65 h3.1 (iz (l40 z1) ⟨fun u => absurd u w0, fun u => absurd (n0 u) z3⟩)) (fun z3 => bX5_readClause_65v1 h3.1 (f2 (Or.inr (Or.inl (fun u => w0 (u.mpr ?_))))))
      exact Classical.byContradiction fun u => n1 u z3
    · have w0 : w = 0 := Classical.byContradiction fun u => nI_ne0 (by omega) (by omega) z2
      refine bX5_readClause_56v1 h3.1 (fun z3 => bX5_readClause_65v2 h3.1 (f2 (Or.inr (Or.inl (fun u => z3 (n0 (u.mp w0))))))) (fun z3 => bX5_readClause_65v3 h3.1 (iz (l40 z1) ⟨fun _ => ?_, fun _ => w0⟩))
      exact Classical.byContradiction fun u => n1 u z3
  · have hw : wlF B L (sk B L p) 0 = 5 := hw
    refine bX5_readClause_25 h2.1 (fun z => absurd rfl z) (fun z => absurd rfl z) (fun z => absurd rfl z) (fun _ => ?_)
    exact s_fail (k := 0) h2.1 h2.2.2.2.1 (by omega) (by decide) (fun m4 h4 t4 => bX5_readClause_40 h4.1 (Or.inl rfl) (k0 _ (cl_none hw) m4 h4 (t2.tr t4).ck))
theorem ch_M {q : Nat} (h : CS B L p m) : chI B L q = -1 ↔ L ≤ q := by
  refine ⟨fun z => Nat.not_lt.mp fun w => ?_, fun z => ch_end z⟩
  have hb := CS_ch h w
  rw [hb.2.2] at z
  exact nI_neM (by omega) z
theorem road_go {e n q : Nat} {s2 : RS} (h : clF B L n p s = .inr (q, s2)) : roadF B L (e + 1) n p s = if L ≤ sk B L q then .inr s2 else if B (sk B L q) = 59 then roadF B L e (n + 1) (sk B L q + 1) s2 else .inl (1 + 8 * sk B L q) := by
  simp only [roadF, h]

theorem road_no {e n f : Nat} (h : clF B L n p s = .inl f) : roadF B L (e + 1) n p s = .inl f := by
  simp only [roadF, h]

theorem cl_lt {n q : Nat} {s2 : RS} (h : clF B L n p s = .inr (q, s2)) : n < 40 := by
  refine Nat.lt_of_not_le fun w => ?_
  by_cases c : wlF B L (sk B L p) 0 = 5
  · rw [cl_none c] at h; cases h
  · rw [cl_full c (Or.inl w)] at h; cases h
theorem g_rRead : ∀ e n p s (m2 : pMem), e + n = 40 → CS B L p m2 → RX 4 s m2 → RN s m2 → RB s → Ck m m2 → (∀ s2, roadF B L (e + 1) n p s = .inr s2 → RB s2 → ∀ m3, Wf m3 → RX 4 s2 m3 → RN s2 m3 → mI m3 4 0 = 1 → Ck m m3 → Q (some (.int 1)) m3) → (∀ f, roadF B L (e + 1) n p s = .inl f → ∀ m3, CF f m3 → Ck m m3 → Q (some (.int 0)) m3) → Go X 8 mX5_read Q 16 [(0, .ref 3), (1, .int (nI n))] [] m2 := by
  intro e
  induction e with
  | zero =>
    intro n p s m2 hn h x nn b t k1 k0
    refine bX5_read_16 h.1 (fun z => absurd z (nI_nlt (a := 40) (by omega) (by decide))) (fun _ => s_rClause h x nn b (by omega) (fun q s2 ec _ m3 h3 x3 n3 t3 => ?_) (fun f ec m3 h3 t3 => bX5_read_27 h3.1 (fun z => absurd rfl z) (fun _ => k0 f (road_no ec) m3 h3 (t.tr t3))))
    have := cl_lt ec
    omega
  | succ e ih =>
    intro n p s m2 hn h x nn b t k1 k0
    refine bX5_read_16 h.1 (fun z => absurd z (nI_nlt (a := 40) (by omega) (by decide))) (fun _ => s_rClause h x nn b (by omega) (fun q s2 ec b2 m3 h3 x3 n3 t3 => ?_) (fun f ec m3 h3 t3 => bX5_read_27 h3.1 (fun z => absurd rfl z) (fun _ => k0 f (road_no ec) m3 h3 (t.tr t3))))
    have rg := road_go (e := e + 1) ec
    have hL := h3.2.1.1
    refine bX5_read_27 h3.1 (fun _ => s_next h3 (fun m4 h4 t4 => ?_)) (fun z => absurd z (by decide))
    have t34 := t.tr (t3.tr t4.ck)
    refine bX5_read_39 h4.1 (fun z => ?_) (fun z => ?_)
    · have hl : sk B L q < L := Nat.lt_of_not_le fun w => z (ch_end w)
      rw [if_neg (Nat.not_le.mpr hl)] at rg
      have hb := CS_ch h4 hl
      refine s_ts h4 (by decide) (fun y m5 h5 t5 => ?_) (fun y m5 h5 t5 => ?_)
      · rw [sk_sk] at y h5
        rw [hb.2.2, show (59 : Int32) = nI 59 from rfl, nI_eq (by omega) (by decide)] at y
        rw [if_pos y] at rg
        refine bX5_read_62 h5.1 (fun _ => ?_) (fun w => absurd w (by decide))
        rw [nI_1]
        exact ih (n + 1) _ s2 m5 (by omega) h5 (RX_tk (t4.tr t5) x3) (RN_tk (t4.tr t5) n3) b2 (t34.tr t5.ck) (fun s3 e3 => k1 s3 (rg.trans e3)) (fun f e3 => k0 f (rg.trans e3))
      · rw [sk_sk] at y h5
        rw [hb.2.2, show (59 : Int32) = nI 59 from rfl] at y
        rw [if_neg (fun w => y (by rw [w]))] at rg
        refine bX5_read_62 h5.1 (fun w => absurd rfl w) (fun _ => ?_)
        rw [h5.2.2.1]
        exact s_fail (k := 0) h5.1 h5.2.2.2.1 (by omega) (by decide) (fun m6 h6 t6 => bX5_read_80 h6.1 (Or.inl rfl) (k0 _ rg m6 h6 (t34.tr (t5.tr t6).ck)))
    · have hl := (ch_M h4).mp z
      rw [if_pos hl] at rg
      refine k1 s2 rg b2 _ (h4.1.sm (fun _ _ => rfl)) (RX_c (m := uI m4 4 0 1) (fun _ _ _ _ => rfl) ?_) (fun j z1 z2 => ?_) (by rw [mI_uI, if_pos ⟨rfl, rfl⟩]) (Ck.wr t34 (by omega))
      · obtain ⟨⟨a1, a2, a3, a4⟩, c1, c2, c3⟩ := RX_tk t4 x3
        refine ⟨⟨?_, ?_, ?_, ?_⟩, fun j hj => ?_, fun j hj => ?_, fun j hj => ⟨?_, ?_, ?_⟩⟩ <;> rw [mI_uI, if_neg (by omega)]
        · exact a1
        · exact a2
        · exact a3
        · exact a4
        · exact c1 j hj
        · exact c2 j hj
        · exact (c3 j hj).1
        · exact (c3 j hj).2.1
        · exact (c3 j hj).2.2
      · rw [mI_uI, if_neg (by omega)]; exact RN_tk t4 n3 j z1 z2
def s0R : RS := (0, 0, 0, 0, fun _ _ => 0)
theorem RB_0 : RB s0R := ⟨by decide, by decide, by decide, by decide, fun j hj => absurd hj (Nat.not_lt_zero _), fun j hj => absurd hj (Nat.not_lt_zero _)⟩
theorem s_rRead (hW : Wf m) (ht : TpC m B L) (k1 : ∀ s2, roadF B L 41 0 0 s0R = .inr s2 → RB s2 → ∀ m3, Wf m3 → RX 4 s2 m3 → RN s2 m3 → mI m3 4 0 = 1 → Ck m m3 → Q (some (.int 1)) m3) (k0 : ∀ f, roadF B L 41 0 0 s0R = .inl f → ∀ m3, CF f m3 → Ck m m3 → Q (some (.int 0)) m3) : Cl X 8 mX5_read [.ref 3] m Q := by
  have hW1 : Wf (clR m 4) := hW.sm (fun _ _ => rfl)
  refine pCl_of (by decide +kernel) (Nat.le_of_ble_eq_true rfl) rfl (bX5_read_0 hW (pCl_of (by decide +kernel) (Nat.le_of_ble_eq_true rfl) rfl (bX9_rewind_0 hW1 ?_)))
  have ew : ∀ a k, ¬ ((a = 1 ∧ (k = 2 ∨ k = 3)) ∨ (4 ≤ a ∧ a ≤ 9)) → mI (uI (uI (clR m 4) 1 2 0) 1 3 0) a k = mI m a k := by
    intro a k z
    rw [mI_uI, if_neg (by omega), mI_uI, if_neg (by omega)]
    unfold clR
    rw [mI_uF, if_neg (by omega), mI_uI, if_neg (by omega), mI_uI, if_neg (by omega), mI_uI, if_neg (by omega), mI_uI, if_neg (by omega), mI_uI, if_neg (by omega)]
  have hW2 : Wf (uI (uI (clR m 4) 1 2 0) 1 3 0) := hW.sm (fun _ _ => rfl)
  have r : ∀ a k, 4 ≤ a → mI (uI (uI (clR m 4) 1 2 0) 1 3 0) a k = mI (clR m 4) a k := fun a k z => by rw [mI_uI, if_neg (by omega), mI_uI, if_neg (by omega)]
  refine bX5_read_14 hW2 (g_rRead 40 0 0 s0R _ rfl ⟨hW2, ⟨ht.1, (ew 1 1 (by omega)).trans ht.2.1, fun j hj => ⟨(ht.2.2 j hj).1, (ew 2 j (by omega)).trans (ht.2.2 j hj).2⟩⟩, ?_, ?_, Nat.zero_le _⟩ ?_ (fun j z1 z2 => ?_) RB_0 ⟨ew, fun _ _ => rfl⟩ k1 k0)
  · rw [mI_uI, if_neg (by omega), mI_uI, if_pos ⟨rfl, rfl⟩]; rfl
  · rw [mI_uI, if_pos ⟨rfl, rfl⟩]
  · refine ⟨⟨?_, ?_, ?_, ?_⟩, fun j hj => absurd hj (Nat.not_lt_zero _), fun j hj => absurd hj (Nat.not_lt_zero _), fun j hj => absurd hj (Nat.not_lt_zero _)⟩ <;> (rw [r _ _ (by omega)]; unfold clR; rw [mI_uF, if_neg (by omega)]; rfl)
  · rw [r _ _ (by omega)]
    unfold clR
    rw [mI_uF, if_pos ⟨rfl, z2⟩]
end T42
