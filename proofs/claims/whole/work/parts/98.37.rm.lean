/-! ===== the model reads a road ===== -/
def Mr (m m2 : pMem) : Prop := Same (fun a k => (a = 535 ∧ (k = 20 ∨ k = 21)) ∨ (548 ≤ a ∧ a ≤ 553)) m m2
theorem Mk.mr {m m2 : pMem} (h : Mk m m2) : Mr m m2 := Same.mo h (fun _ _ z => Or.inl z)
theorem Mr.tr {m m2 m3 : pMem} (h : Mr m m2) (h2 : Mr m2 m3) : Mr m m3 := Same.tr h h2
theorem Mr.wr {m m2 : pMem} {a k : Nat} {v : Int32} (h : Mr m m2) (ha : 548 ≤ a ∧ a ≤ 553) : Mr m (uI m2 a k v) := Same.uI h (Or.inr ha)
theorem MS_wr {B : Nat → Nat} {L p f a k : Nat} {v : Int32} {m : pMem} (h : MS B L p f m) (ha : a ≠ 535 ∧ a ≠ 554) : MS B L p f (uI m a k v) := by
  obtain ⟨hW, ⟨hL, t1, t2⟩, hp, hf, hl, hf2⟩ := h
  refine ⟨hW.sm (fun _ _ => rfl), ⟨hL, ?_, fun j hj => ?_⟩, ?_, ?_, hl, hf2⟩
  · rw [mI_uI, if_neg (by omega)]; exact t1
  · rw [mI_uI, if_neg (by omega)]; exact t2 j hj
  · rw [mI_uI, if_neg (by omega)]; exact hp
  · rw [mI_uI, if_neg (by omega)]; exact hf
theorem RX_mk {s : RS} {m m2 : pMem} (h : Mk m m2) (x : RX 548 s m) : RX 548 s m2 := RX_c (fun a k h1 _ => h.1 a k (by omega)) x
theorem sh548 : SH[548]? = some (.inr (.int, 5)) ∧ SH[549]? = some (.inr (.int, 8)) ∧ SH[550]? = some (.inr (.int, 4)) ∧ SH[551]? = some (.inr (.int, 6)) ∧ SH[552]? = some (.inr (.int, 6)) := by decide +kernel
theorem wi_road : ∀ k, k < 5 → wi 0 k = if k = 0 then 17 else if k = 1 then 22 else if k = 2 then 7 else if k = 3 then 8 else 11 := by decide +kernel
section T43
variable {X : pX} {Q : Option Value → pMem → Prop} {m : pMem} {B : Nat → Nat} {L p f : Nat} {s : RS}
theorem MS_f0 (h : MS B L p 0 m) : mI m 535 21 = 0 := h.2.2.2.1
theorem MS_f1 (h : MS B L p f m) (hf : f ≠ 0) : ¬ mI m 535 21 = 0 := by rw [h.2.2.2.1]; exact nI_ne0 (by omega) (by have := h.2.2.2.2.2; omega)
theorem s_newHas {q : Nat} (hW : Wf m) (x : RX 548 s m) (b : RB s) (hq : q < 1000000) (k : Q (some (.int (nI (cnD s.2.2.2.2 q s.2.2.2.1)))) m) : Cl X 0 mX12_newHas [.ref 535, .int (nI q)] m Q := by
  have hT := b.2.2.2.1
  have x4 : mI m 548 4 = nI s.2.2.2.1 := x.1.2.2.2
  have main : ∀ i, i ≤ s.2.2.2.1 → Go X 0 mX12_newHas Q 4 [(0, .ref 535), (1, .int (nI q)), (2, .int (nI (cnD s.2.2.2.2 q i))), (3, .int (nI i))] [] m := by
    refine upTo (P := fun i => Go X 0 mX12_newHas Q 4 [(0, .ref 535), (1, .int (nI q)), (2, .int (nI (cnD s.2.2.2.2 q i))), (3, .int (nI i))] [] m) s.2.2.2.1 ?_ ?_
    · have c : mI m 548 4 ≤ nI s.2.2.2.1 := by rw [x4]; exact nI_le (Nat.le_refl _) (by omega)
      exact bX12_newHas_4 hW (fun _ => k) (fun z => absurd c z) (fun z => absurd c z) (fun z => absurd c z)
    · intro i hi ih
      have c : ¬ mI m 548 4 ≤ nI i := by rw [x4]; exact nI_ge hi (by omega)
      have d : mI m 553 i = nI (s.2.2.2.2 4 i) := (x.2.2.2 i hi).2.2
      have hb := (b.2.2.2.2.2 i hi).2
      have hb2 : s.2.2.2.2 4 i ≤ 10 := by have := b.2.2.1; omega
      refine bX12_newHas_4 hW (fun z => absurd z c) (fun _ => vp_in_nI (by omega) (by decide)) (fun _ z => ?_) (fun _ z => ?_)
      · rw [nI_clamp (by omega), d, nI_eq (by omega) (by omega)] at z
        rw [nI_1, show nI (cnD s.2.2.2.2 q i) + (0 : Int32) = nI (cnD s.2.2.2.2 q i) from Int32.add_zero _]
        unfold cnD at ih
        rw [if_neg z] at ih
        exact ih
      · rw [nI_clamp (by omega), d, nI_eq (by omega) (by omega)] at z
        rw [nI_1, nI_1]
        unfold cnD at ih
        rw [if_pos z] at ih
        exact ih
  exact pCl_of (by decide +kernel) (Nat.le_of_ble_eq_true rfl) rfl (bX12_newHas_0 hW (main 0 (Nat.zero_le _)))
theorem s_hasPart (h : MS B L p 0 m) (hp : p ≤ L) (x : RX 548 s m) (b : RB s) (k1 : ∀ q s2, partF B L 4 p s = .inr (q, s2) → q ≤ L → ∀ m2, MS B L q 0 m2 → RX 548 s2 m2 → Mr m m2 → mI m2 548 0 = mI m 548 0 → Q none m2) (k0 : ∀ f, partF B L 4 p s = .inl f → 0 < f → ∀ m2 q, MS B L q f m2 → q ≤ L → Mr m m2 → Q none m2) : Cl X 4 mX12_hasPart [.ref 535] m Q := by
  refine pCl_of (by decide +kernel) (Nat.le_of_ble_eq_true rfl) rfl (bX12_hasPart_0 h.1 (s_blanks h (fun m2 h2 t2 => bX12_hasPart_4 h2.1 ?_)))
  have hs := sk_b (B := B) hp
  have hL := h.2.1.1
  have x2 := RX_mk t2 x
  have b' := b
  obtain ⟨b1, b2, b3, b4, b5, b6⟩ := b
  have dead : ∀ m4 q f x1 x2, MS B L q f m4 → q ≤ L → 0 < f → Mr m m4 → partF B L 4 p s = .inl f → Cl X 1 mX12_blanks [.ref 535] m4 (fun v m2 => Go X 4 mX12_hasPart Q 54 [(0, .ref 535), (1, .int x1), (2, .int x2)] (v.toList ++ []) m2) := by
    intro m4 q f y1 y2 h4 hq hf t4 e
    have hq2 := sk_b (B := B) hq
    refine s_blanks h4 (fun m5 h5 t5 => bX12_hasPart_54 h5.1 (s_amountD h5 (by omega) (fun m6 h6 t6 => ?_)))
    rw [sk_sk] at h6
    have h6f := MS_f1 h6 (by omega)
    exact bX12_hasPart_72 h6.1 (fun _ => bX12_hasPart_97 h6.1 (fun _ => k0 f e hf m6 _ h6 hq2.2 (t4.tr (t5.tr t6).mr)) (fun z => absurd z h6f) (fun z => absurd z h6f)) (fun z => absurd z h6f) (fun z => absurd z h6f) (fun z => absurd z h6f)
  have x23 : mI m2 548 3 = nI s.2.2.1 := x2.1.2.2.1
  rw [x23, h2.2.2.1]
  refine s_amount (lo := 0) (hi := s.2.2.1) h2 hs.2 rfl rfl (by decide) (by omega) (fun v q e _ hv hq hqL m3 h3 t3 => ?_) (fun f e hf m3 q v h3 hq t3 => ?_)
  · rw [sk_sk] at e hq
    have t := t2.tr t3
    have x3 := RX_mk t x
    have hs3 := sk_b (B := B) hqL
    refine bX12_hasPart_22 h3.1 (fun z => absurd (MS_f0 h3) z) (fun _ => s_newHas h3.1 x3 b' (by omega) (bX12_hasPart_35 h3.1 (fun z => ?_) (fun z => ?_)))
    · have x31 : mI m3 548 1 = nI s.1 := x3.1.1
      rw [x31] at z
      have hc := cnD_le s.2.2.2.2 v s.2.2.2.1
      have z := nI_lt' (by omega) (by omega) z
      refine s_blanks h3 (fun m4 h4 t4 => bX12_hasPart_54 h4.1 ?_)
      have x4 := RX_mk (t.tr t4) x
      have x44 : mI m4 548 4 = nI s.2.2.2.1 := x4.1.2.2.2
      rw [x44, h4.2.2.1]
      refine s_amount (lo := 0) (hi := s.2.2.2.1) h4 hs3.2 rfl rfl (by decide) (by omega) (fun w q2 e' _ hw _ hq2 m5 h5 t5 => ?_) (fun f e' hf m5 q2 v2 h5 hq2 t5 => ?_)
      · rw [sk_sk] at e'
        have t' := t.tr (t4.tr t5)
        have x5 := RX_mk t' x
        have d : mI m5 553 w = nI (s.2.2.2.2 4 w) := (x5.2.2.2 w hw).2.2
        have vw : vp_in (nI w) 6 := vp_in_nI (by omega) (by decide)
        have hb := (b6 w hw).2
        refine bX12_hasPart_72 h5.1 (fun y => absurd (MS_f0 h5) y) (fun _ => vw) (fun _ y => ?_) (fun _ y => ?_)
        · rw [nI_clamp (by omega), d, show (10 : Int32) = nI 10 from rfl, nI_eq (by omega) (by decide)] at y
          refine bX12_hasPart_97 h5.1 (fun y => absurd (MS_f0 h5) y) (fun _ => vw) (fun _ => ?_)
          rw [nI_clamp (by omega)]
          refine k1 q2 (s.1, s.2.1, s.2.2.1, s.2.2.2.1, stD s.2.2.2.2 4 w v) (by simp only [partF, e, e', if_neg (Nat.not_le.mpr z), if_neg (not_not_intro y)]) hq2 _ (MS_wr h5 (by omega)) (RX_w (by rw [mI_uI, if_pos ⟨rfl, rfl⟩]) (fun a k z1 z2 z3 => by rw [mI_uI, if_neg (by omega)]) x5) (Mr.wr t'.mr (by omega)) ?_
          rw [mI_uI, if_neg (by omega)]; exact t'.1 _ _ (by omega)
        · rw [nI_clamp (by omega), d, show (10 : Int32) = nI 10 from rfl, nI_eq (by omega) (by decide)] at y
          refine s_fails (k := 1) h5 (fun _ => by omega) (by decide) (fun m6 h6 t6 => ?_)
          rw [if_pos rfl] at h6
          have h6f := MS_f1 h6 (by omega)
          refine bX12_hasPart_97v1 h6.1 (fun _ => k0 (2 + 8 * sk B L q) (by simp only [partF, e, e', if_neg (Nat.not_le.mpr z), if_pos y]) (by omega) m6 _ ?_ hq2 (t'.tr t6).mr) (fun z => absurd z h6f) (fun z => absurd z h6f)
          rw [show 2 + 8 * sk B L q = 1 + 8 * sk B L q + 1 by omega]; exact h6
      · rw [sk_sk] at e'
        have h5f := MS_f1 h5 (by omega)
        exact bX12_hasPart_72 h5.1 (fun _ => bX12_hasPart_97 h5.1 (fun _ => k0 f (by simp only [partF, e, e', if_neg (Nat.not_le.mpr z)]) hf m5 _ h5 hq2 (t.tr (t4.tr t5)).mr) (fun z => absurd z h5f) (fun z => absurd z h5f)) (fun z => absurd z h5f) (fun z => absurd z h5f) (fun z => absurd z h5f)
    · have x31 : mI m3 548 1 = nI s.1 := x3.1.1
      rw [x31] at z
      have z : s.1 ≤ cnD s.2.2.2.2 v s.2.2.2.1 := Nat.not_lt.mp fun w => z (nI_lt w (by omega))
      refine s_fails (k := 1) h3 (fun _ => by omega) (by decide) (fun m6 h6 t6 => bX12_hasPart_50 h6.1 ?_)
      rw [if_pos rfl] at h6
      exact dead m6 _ _ _ _ h6 hqL (by omega) (t.tr t6).mr (by simp only [partF, e, if_pos z]; rw [show 2 + 8 * sk B L p = 1 + 8 * sk B L p + 1 by omega])
  · rw [sk_sk] at e
    exact bX12_hasPart_22 h3.1 (fun _ => dead m3 _ f _ _ h3 hq hf (t2.tr t3).mr (by simp only [partF, e])) (fun z => absurd z (MS_f1 h3 (by omega)))
theorem s_roadPart {k : Nat} (hk : k < 5) (h : MS B L p 0 m) (hp : p ≤ L) (x : RX 548 s m) (b : RB s) (f8 : k = 1 → s.2.1 < 8) (f4 : k = 2 → s.2.2.1 < 4) (f6 : k = 3 → s.2.2.2.1 < 6) (k1 : ∀ q s2, partF B L k p s = .inr (q, s2) → q ≤ L → ∀ m2, MS B L q 0 m2 → RX 548 s2 m2 → Mr m m2 → (k = 0 → mI m2 548 0 = 1) → (k ≠ 0 → mI m2 548 0 = mI m 548 0) → Q none m2) (k0 : ∀ f, partF B L k p s = .inl f → 0 < f → ∀ m2 q, MS B L q f m2 → q ≤ L → Mr m m2 → Q none m2) : Cl X 5 mX12_roadPart [.ref 535, .int (nI k)] m Q := by
  have hs := sk_b (B := B) hp
  have hL := h.2.1.1
  obtain ⟨S8, S9, S50, S51, S52⟩ := sh548
  have x' := x
  obtain ⟨⟨y1, y2, y3, y4⟩, _⟩ := x'
  refine pCl_of (by decide +kernel) (Nat.le_of_ble_eq_true rfl) rfl ?_
  have hh : k = 0 ∨ k = 1 ∨ k = 2 ∨ k = 3 ∨ k = 4 := by omega
  rcases hh with rfl | rfl | rfl | rfl | rfl
  · refine bX12_roadPart_0 h.1 (fun _ => ?_) (fun z => absurd rfl z) (fun z => absurd rfl z) (fun z => absurd rfl z) (fun z => absurd rfl z)
    refine s_amount (lo := 0) (hi := 5) h hp rfl (by decide) (by decide) (by decide) (fun v q e _ hv hq hqL m3 h3 t3 => bX12_roadPart_43 h3.1 S8 ?_) (fun f e hf m3 q v h3 hq t3 => bX12_roadPart_43 h3.1 S8 ?_)
    · refine k1 q (v, s.2) (by simp only [partF, e]) hqL _ (MS_wr (MS_wr h3 (by omega)) (by omega)) (RX_h (by rw [mI_uI, if_neg (by omega), mI_uI, if_pos ⟨rfl, rfl⟩]) (fun a k z1 z2 z3 => by rw [mI_uI, if_neg (by omega), mI_uI, if_neg (by omega)]) (RX_mk t3 x)) (Mr.wr (Mr.wr t3.mr (by omega)) (by omega)) (fun _ => by rw [mI_uI, if_pos ⟨rfl, rfl⟩]) (fun z => absurd rfl z)
    · exact k0 f (by simp only [partF, e]) hf _ q (MS_wr (MS_wr h3 (by omega)) (by omega)) hq (Mr.wr (Mr.wr t3.mr (by omega)) (by omega))
  · have f8 := f8 rfl
    refine bX12_roadPart_0 h.1 (fun z => absurd z (by decide)) (fun _ _ => ?_) (fun _ z => absurd rfl z) (fun _ z => absurd rfl z) (fun _ z => absurd rfl z)
    rw [y2]
    refine s_amount (lo := 1) (hi := 61) h hp rfl (by decide) (by decide) (by decide) (fun v q e _ hv hq hqL m3 h3 t3 => ?_) (fun f e hf m3 q v h3 hq t3 => ?_)
    · have x3 := RX_mk t3 x
      have e2 : mI m3 548 2 = nI s.2.1 := x3.1.2.1
      refine bX12_roadPart_71 h3.1 S9 (vp_in_nI f8 (by decide)) ?_
      rw [nI_clamp (by omega), mI_uI, if_neg (by omega), e2, nI_1]
      refine k1 q (s.1, s.2.1 + 1, s.2.2.1, s.2.2.2.1, stD s.2.2.2.2 0 s.2.1 v) (by simp only [partF, e]) hqL _ (MS_wr (MS_wr h3 (by omega)) (by omega)) (RX_s (by rw [mI_uI, if_pos ⟨rfl, rfl⟩]) (by rw [mI_uI, if_neg (by omega), mI_uI, if_pos ⟨rfl, rfl⟩]) (fun a k z1 z2 z3 z4 => by rw [mI_uI, if_neg (by omega), mI_uI, if_neg (by omega)]) x3) (Mr.wr (Mr.wr t3.mr (by omega)) (by omega)) (fun z => absurd z (by decide)) (fun _ => ?_)
      rw [mI_uI, if_neg (by omega), mI_uI, if_neg (by omega)]; exact t3.1 _ _ (by omega)
    · exact bX12_roadPart_71 h3.1 S9 (vp_in_nI f8 (by decide)) (k0 f (by simp only [partF, e]) hf _ q (MS_wr (MS_wr h3 (by omega)) (by omega)) hq (Mr.wr (Mr.wr t3.mr (by omega)) (by omega)))
  · have f4 := f4 rfl
    refine bX12_roadPart_0 h.1 (fun z => absurd z (by decide)) (fun _ z => absurd z (by decide)) (fun _ _ _ => ?_) (fun _ _ z => absurd rfl z) (fun _ _ z => absurd rfl z)
    rw [y3]
    refine s_amount (lo := 1) (hi := 21) h hp rfl (by decide) (by decide) (by decide) (fun v q e _ hv hq hqL m3 h3 t3 => ?_) (fun f e hf m3 q v h3 hq t3 => ?_)
    · have x3 := RX_mk t3 x
      have e2 : mI m3 548 3 = nI s.2.2.1 := x3.1.2.2.1
      refine bX12_roadPart_102 h3.1 S50 (vp_in_nI f4 (by decide)) ?_
      rw [nI_clamp (by omega), mI_uI, if_neg (by omega), e2, nI_1]
      refine k1 q (s.1, s.2.1, s.2.2.1 + 1, s.2.2.2.1, stD s.2.2.2.2 1 s.2.2.1 v) (by simp only [partF, e]) hqL _ (MS_wr (MS_wr h3 (by omega)) (by omega)) (RX_p (by rw [mI_uI, if_pos ⟨rfl, rfl⟩]) (by rw [mI_uI, if_neg (by omega), mI_uI, if_pos ⟨rfl, rfl⟩]) (fun a k z1 z2 z3 z4 => by rw [mI_uI, if_neg (by omega), mI_uI, if_neg (by omega)]) x3) (Mr.wr (Mr.wr t3.mr (by omega)) (by omega)) (fun z => absurd z (by decide)) (fun _ => ?_)
      rw [mI_uI, if_neg (by omega), mI_uI, if_neg (by omega)]; exact t3.1 _ _ (by omega)
    · exact bX12_roadPart_102 h3.1 S50 (vp_in_nI f4 (by decide)) (k0 f (by simp only [partF, e]) hf _ q (MS_wr (MS_wr h3 (by omega)) (by omega)) hq (Mr.wr (Mr.wr t3.mr (by omega)) (by omega)))
  · have f6 := f6 rfl
    have v6 : vp_in (nI s.2.2.2.1) 6 := vp_in_nI f6 (by decide)
    refine bX12_roadPart_0 h.1 (fun z => absurd z (by decide)) (fun _ z => absurd z (by decide)) (fun _ _ z => absurd z (by decide)) (fun _ _ _ _ => ?_) (fun _ _ _ z => absurd rfl z)
    rw [y4]
    refine s_amount (lo := 0) (hi := 10) h hp rfl (by decide) (by decide) (by decide) (fun v q e _ hv hq hqL m3 h3 t3 => ?_) (fun f e hf m3 q v h3 hq t3 => ?_)
    · refine bX12_roadPart_135 h3.1 S51 v6 ?_
      rw [nI_clamp (by omega)]
      have h3w := MS_wr (a := 551) (k := s.2.2.2.1) (v := nI v) h3 (by omega)
      refine s_amount (lo := 0) (hi := 51) h3w hqL rfl (by decide) (by decide) (by decide) (fun w q2 e' _ hw _ hq2 m5 h5 t5 => ?_) (fun f e' hf m5 q2 w h5 hq2 t5 => ?_)
      · have x3 := RX_mk t3 x
        have e4 : mI m5 548 4 = nI s.2.2.2.1 := by rw [t5.1 _ _ (by omega), mI_uI, if_neg (by omega)]; exact x3.1.2.2.2
        refine bX12_roadPart_148 h5.1 S52 v6 v6 ?_
        rw [nI_clamp (by omega), mI_uI, if_neg (by omega), e4, nI_1]
        refine k1 q2 (s.1, s.2.1, s.2.2.1, s.2.2.2.1 + 1, stD (stD (stD s.2.2.2.2 2 s.2.2.2.1 v) 3 s.2.2.2.1 w) 4 s.2.2.2.1 10) (by simp only [partF, e, e']) hq2 _ (MS_wr (MS_wr (MS_wr h5 (by omega)) (by omega)) (by omega)) (RX_t ?_ ?_ ?_ ?_ (fun a k z1 z2 z3 z4 => ?_) x3) (Mr.wr (Mr.wr (Mr.wr ((Mr.wr t3.mr (by omega)).tr t5.mr) (by omega)) (by omega)) (by omega)) (fun z => absurd z (by decide)) (fun _ => ?_)
        · rw [mI_uI, if_pos ⟨rfl, rfl⟩]
        · rw [mI_uI, if_neg (by omega), mI_uI, if_neg (by omega), mI_uI, if_neg (by omega), t5.1 _ _ (by omega), mI_uI, if_pos ⟨rfl, rfl⟩]
        · rw [mI_uI, if_neg (by omega), mI_uI, if_neg (by omega), mI_uI, if_pos ⟨rfl, rfl⟩]
        · rw [mI_uI, if_neg (by omega), mI_uI, if_pos ⟨rfl, rfl⟩]; rfl
        · rw [mI_uI, if_neg (by omega), mI_uI, if_neg (by omega), mI_uI, if_neg (by omega), t5.1 _ _ (by omega), mI_uI, if_neg (by omega)]
        · rw [mI_uI, if_neg (by omega), mI_uI, if_neg (by omega), mI_uI, if_neg (by omega), t5.1 _ _ (by omega), mI_uI, if_neg (by omega)]; exact t3.1 _ _ (by omega)
      · exact bX12_roadPart_148 h5.1 S52 v6 v6 (k0 f (by simp only [partF, e, e']) hf _ q2 (MS_wr (MS_wr (MS_wr h5 (by omega)) (by omega)) (by omega)) hq2 (Mr.wr (Mr.wr (Mr.wr ((Mr.wr t3.mr (by omega)).tr t5.mr) (by omega)) (by omega)) (by omega)))
    · refine bX12_roadPart_135 h3.1 S51 v6 ?_
      have h3w := MS_wr (a := 551) (k := (nI s.2.2.2.1).toNatClampNeg) (v := v) h3 (by omega)
      have hq2 := sk_b (B := B) hq
      exact s_amountD h3w (by omega) (fun m5 h5 t5 => bX12_roadPart_148 h5.1 S52 v6 v6 (k0 f (by simp only [partF, e]) hf _ _ (MS_wr (MS_wr (MS_wr h5 (by omega)) (by omega)) (by omega)) hq2.2 (Mr.wr (Mr.wr (Mr.wr ((Mr.wr t3.mr (by omega)).tr t5.mr) (by omega)) (by omega)) (by omega))))
  · refine bX12_roadPart_0 h.1 (fun z => absurd z (by decide)) (fun _ z => absurd z (by decide)) (fun _ _ z => absurd z (by decide)) (fun _ _ _ z => absurd z (by decide)) (fun _ _ _ _ => ?_)
    exact s_hasPart h hp x b (fun q s2 e hq m2 h2 x2 t2 e0 => bX12_roadPart_174 h2.1 (k1 q s2 e hq m2 h2 x2 t2 (fun z => absurd z (by decide)) (fun _ => e0))) (fun f e hf m2 q h2 hq t2 => bX12_roadPart_174 h2.1 (k0 f e hf m2 q h2 hq t2))
theorem s_roadWord {k : Nat} (hk : k < 5) (hW : Wf m) (h : Q (some (.retAddr (wi 0 k + 1))) m) : Cl X 0 mX12_roadWord [.int (nI k)] m Q := by
  refine pCl_of (by decide +kernel) (Nat.le_of_ble_eq_true rfl) rfl ?_
  have hh : k = 0 ∨ k = 1 ∨ k = 2 ∨ k = 3 ∨ k = 4 := by omega
  rcases hh with rfl | rfl | rfl | rfl | rfl
  · exact bX12_roadWord_0 hW (fun _ => h) (fun z => absurd rfl z) (fun z => absurd rfl z) (fun z => absurd rfl z) (fun z => absurd rfl z)
  · exact bX12_roadWord_0 hW (fun z => absurd z (by decide)) (fun _ _ => h) (fun _ z => absurd rfl z) (fun _ z => absurd rfl z) (fun _ z => absurd rfl z)
  · exact bX12_roadWord_0 hW (fun z => absurd z (by decide)) (fun _ z => absurd z (by decide)) (fun _ _ _ => h) (fun _ _ z => absurd rfl z) (fun _ _ z => absurd rfl z)
  · exact bX12_roadWord_0 hW (fun z => absurd z (by decide)) (fun _ z => absurd z (by decide)) (fun _ _ z => absurd z (by decide)) (fun _ _ _ _ => h) (fun _ _ _ z => absurd rfl z)
  · exact bX12_roadWord_0 hW (fun z => absurd z (by decide)) (fun _ z => absurd z (by decide)) (fun _ _ z => absurd z (by decide)) (fun _ _ _ z => absurd z (by decide)) (fun _ _ _ _ => h)
theorem s_mFull {k n : Nat} (hk : k < 5) (hn : n ≤ 40) (hW : Wf m) (x : RX 548 s m) (b : RB s) (k1 : fullF n k s → Q (some (.int 1)) m) (k0 : ¬ fullF n k s → Q (some (.int 0)) m) : Cl X 0 mX12_isFull [.ref 535, .int (nI k), .int (nI n)] m Q := by
  obtain ⟨⟨x1, x2, x3, x4⟩, _⟩ := x
  obtain ⟨b1, b2, b3, b4, _⟩ := b
  refine pCl_of (by decide +kernel) (Nat.le_of_ble_eq_true rfl) rfl ?_
  have e40 : nI n = (40 : Int32) ↔ n = 40 := nI_eq (b := 40) (by omega) (by decide)
  have e0 : nI n = (0 : Int32) ↔ n = 0 := nI_eq (b := 0) (by omega) (by decide)
  have k0' : nI k = (0 : Int32) ↔ k = 0 := nI_eq (b := 0) (by omega) (by decide)
  have s8 : mI m 548 2 = (8 : Int32) ↔ 8 ≤ s.2.1 := by rw [x2, show (8 : Int32) = nI 8 from rfl, nI_eq (by omega) (by decide)]; omega
  have s4 : mI m 548 3 = (4 : Int32) ↔ 4 ≤ s.2.2.1 := by rw [x3, show (4 : Int32) = nI 4 from rfl, nI_eq (by omega) (by decide)]; omega
  have s6 : mI m 548 4 = (6 : Int32) ↔ 6 ≤ s.2.2.2.1 := by rw [x4, show (6 : Int32) = nI 6 from rfl, nI_eq (by omega) (by decide)]; omega
  have i1 : nI k = (1 : Int32) ↔ k = 1 := nI_eq (b := 1) (by omega) (by decide)
  have i2 : nI k = (2 : Int32) ↔ k = 2 := nI_eq (b := 2) (by omega) (by decide)
  have i3 : nI k = (3 : Int32) ↔ k = 3 := nI_eq (b := 3) (by omega) (by decide)
  have rest : n ≠ 40 → (k = 0 ↔ n = 0) → ¬ (k = 1 ∧ 8 ≤ s.2.1) → Go X 0 mX12_isFull Q 45 [(0, .ref 535), (1, .int (nI k))] [] m := by
    intro h1 h2 h3
    have last : ¬ (k = 2 ∧ 4 ≤ s.2.2.1) → Go X 0 mX12_isFull Q 60 [(0, .ref 535), (1, .int (nI k))] [] m := by
      intro h4
      refine bX12_isFull_60 hW (fun z => k0 (fun w => ?_)) (fun z z2 => k0 (fun w => ?_)) (fun z z2 => k1 (Or.inr (Or.inr (Or.inr (Or.inr ⟨i3.mp z, s6.mp z2⟩)))))
      · rcases w with w | w | w | w | w
        · omega
        · exact w h2
        · exact h3 w
        · exact h4 w
        · exact z (i3.mpr w.1)
      · rcases w with w | w | w | w | w
        · omega
        · exact w h2
        · exact h3 w
        · exact h4 w
        · exact z2 (s6.mpr w.2)
    exact bX12_isFull_45 hW (fun z => last (fun w => z (i2.mpr w.1))) (fun z z2 => k1 (Or.inr (Or.inr (Or.inr (Or.inl ⟨i2.mp z, s4.mp z2⟩))))) (fun z z2 => last (fun w => z2 (s4.mpr w.2)))
  refine bX12_isFull_0 hW (fun z => k1 (Or.inl (by have := e40.mp z; omega))) (fun z1 z2 => bX12_isFull_15 hW (fun z3 => ?_) (fun z3 => bX12_isFull_24v1 hW (k1 (Or.inr (Or.inl (fun w => z2 (k0'.mpr (w.mpr (e0.mp z3))))))))) (fun z1 z2 => bX12_isFull_15v1 hW (fun z3 => bX12_isFull_24v2 hW (k1 (Or.inr (Or.inl (fun w => z3 (e0.mpr (w.mp (k0'.mp z2)))))))) (fun z3 => ?_))
  · have hz : k = 0 ↔ n = 0 := ⟨fun w => absurd (k0'.mpr w) z2, fun w => absurd (e0.mpr w) z3⟩
    have h40 : n ≠ 40 := fun w => z1 (e40.mpr w)
    exact bX12_isFull_24 hW (fun z => rest h40 hz (fun w => z (i1.mpr w.1))) (fun z w => k1 (Or.inr (Or.inr (Or.inl ⟨i1.mp z, s8.mp w⟩)))) (fun z w => rest h40 hz (fun y => w (s8.mpr y.2)))
  · have hz : k = 0 ↔ n = 0 := ⟨fun _ => e0.mp z3, fun _ => k0'.mp z2⟩
    have h40 : n ≠ 40 := fun w => z1 (e40.mpr w)
    exact bX12_isFull_24v3 hW (fun z => rest h40 hz (fun w => z (i1.mpr w.1))) (fun z w => k1 (Or.inr (Or.inr (Or.inl ⟨i1.mp z, s8.mp w⟩)))) (fun z w => rest h40 hz (fun y => w (s8.mpr y.2)))
theorem s_roadClause {n : Nat} (h : MS B L p 0 m) (hp : p ≤ L) (x : RX 548 s m) (b : RB s) (hn : n ≤ 40) (h0 : n = 0 ∨ mI m 548 0 = 1) (k1 : ∀ q s2, clF B L n p s = .inr (q, s2) → RB s2 → q ≤ L → ∀ m2, MS B L q 0 m2 → RX 548 s2 m2 → mI m2 548 0 = 1 → Mr m m2 → Q none m2) (k0 : ∀ f, clF B L n p s = .inl f → 0 < f → ∀ m2 q, MS B L q f m2 → q ≤ L → Mr m m2 → Q none m2) : Cl X 6 mX12_roadClause [.ref 535, .int (nI n)] m Q := by
  have hs := sk_b (B := B) hp
  have hL := h.2.1.1
  refine pCl_of (by decide +kernel) (Nat.le_of_ble_eq_true rfl) rfl (bX12_roadClause_0 h.1 (s_blanks h (fun m2 h2 t2 => bX12_roadClause_4 h2.1 ?_)))
  rw [h2.2.2.1]
  have x2 := RX_mk t2 x
  have fin : ∀ w, wlF B L (sk B L p) 0 = w → w ≤ 5 → Go X 6 mX12_roadClause Q 33 [(0, .ref 535), (1, .int (nI n)), (2, .int (nI (sk B L p))), (3, .int (nI w))] [] m2 := by
    intro w ew hw
    by_cases c5 : w = 5
    · refine bX12_roadClause_33 h2.1 (fun z => absurd (by rw [c5]; rfl) z) (fun _ => ?_)
      refine s_fails (k := 0) h2 (fun _ => by omega) (by decide) (fun m4 h4 t4 => bX12_roadClause_44 h4.1 ?_)
      rw [if_pos rfl] at h4
      exact k0 _ (cl_none (by omega)) (by omega) m4 _ h4 hs.2 (t2.tr t4).mr
    · have cf := cl_full (B := B) (L := L) (p := p) (s := s) (n := n) (by omega)
      have cp := cl_part (B := B) (L := L) (p := p) (s := s) (n := n) (by omega)
      rw [ew] at cf cp
      have hw5 : w < 5 := by omega
      obtain ⟨wo1, wo2, wo3, wo4, wo5⟩ := wi_ok 0 (by decide) w hw5
      refine bX12_roadClause_33 h2.1 (fun _ => s_mFull hw5 hn h2.1 x2 b (fun hf => ?_) (fun hf => ?_)) (fun z => ?_)
      · refine bX12_roadClause_51 h2.1 (fun z => absurd z (by decide)) (fun _ => ?_)
        refine s_fails (k := 4) h2 (fun _ => by omega) (by decide) (fun m4 h4 t4 => bX12_roadClause_60 h4.1 ?_)
        rw [if_pos rfl] at h4
        refine k0 _ (cf hf) (by omega) m4 _ ?_ hs.2 (t2.tr t4).mr
        rw [show 5 + 8 * sk B L p = 1 + 8 * sk B L p + 4 by omega]; exact h4
      · have cp := cp hf
        have f8 : w = 1 → s.2.1 < 8 := fun z => Nat.lt_of_not_le fun u => hf (Or.inr (Or.inr (Or.inl ⟨z, u⟩)))
        have f4 : w = 2 → s.2.2.1 < 4 := fun z => Nat.lt_of_not_le fun u => hf (Or.inr (Or.inr (Or.inr (Or.inl ⟨z, u⟩))))
        have f6 : w = 3 → s.2.2.2.1 < 6 := fun z => Nat.lt_of_not_le fun u => hf (Or.inr (Or.inr (Or.inr (Or.inr ⟨z, u⟩))))
        refine bX12_roadClause_51 h2.1 (fun _ => s_roadWord hw5 h2.1 (bX12_roadClause_70 h2.1 (by omega) (s_length (by omega) (bX12_roadClause_73 h2.1 ?_)))) (fun z => absurd rfl z)
        rw [h2.2.2.1, Nat.add_sub_cancel, nI_add, ← wo1]
        -- the word stands
        have wl : WL B L (sk B L p) 0 w := by
          have := fa_first_yes (wlB B L (sk B L p) 0) 5 (by show wlF B L (sk B L p) 0 < 5; omega)
          have this : wlB B L (sk B L p) 0 (wlF B L (sk B L p) 0) = true := this
          rw [ew] at this
          exact wlB_iff.mp this
        have pl : sk B L p + wlen 0 w ≤ L := wl.1
        have a := MS_at (q := sk B L p + wlen 0 w) h2 (by omega)
        refine s_roadPart hw5 a.1 pl (RX_mk a.2 x2) b f8 f4 f6 (fun q s2 e hq m4 h4 x4 t4 e0 e1 => bX12_roadClause_82 h4.1 (k1 q s2 (cp.trans e) (part_RB b hf e) hq m4 h4 x4 ?_ ((t2.tr a.2).mr.tr t4))) (fun f e hf m4 q h4 hq t4 => bX12_roadClause_82 h4.1 (k0 f (cp.trans e) hf m4 q h4 hq ((t2.tr a.2).mr.tr t4)))
        by_cases w0 : w = 0
        · exact e0 w0
        · rw [e1 w0, (t2.tr a.2).1 _ _ (by omega)]
          refine h0.resolve_left (fun z => hf (Or.inr (Or.inl (fun y => w0 (y.mpr z)))))
      · exact absurd ((nI_eq (b := 5) (by omega) (by decide)).mp z) c5
  have main : ∀ k, k ≤ 5 → (∀ j, j < k → ¬ WL B L (sk B L p) 0 j) → Go X 6 mX12_roadClause Q 11 [(0, .ref 535), (1, .int (nI n)), (2, .int (nI (sk B L p))), (3, .int (nI k))] [] m2 := by
    refine upTo (P := fun k => (∀ j, j < k → ¬ WL B L (sk B L p) 0 j) → Go X 6 mX12_roadClause Q 11 [(0, .ref 535), (1, .int (nI n)), (2, .int (nI (sk B L p))), (3, .int (nI k))] [] m2) 5 ?_ ?_
    · intro hn
      refine bX12_roadClause_11 h2.1 (fun _ => fin 5 (fa_first_all (fun k hk => wlB_no.mpr (hn k hk))) (by decide)) (fun z => absurd (by decide) z)
    · intro k hk ih hno
      obtain ⟨wo1, wo2, wo3, wo4, wo5⟩ := wi_ok 0 (by decide) k hk
      refine bX12_roadClause_11 h2.1 (fun z => absurd z (nI_ge (a := k) (b := 5) hk (by decide))) (fun _ => s_roadWord hk h2.1 (bX12_roadClause_21 h2.1 ?_))
      refine s_stood (k := wi 0 k + 1) h2 (by omega) (fun w => ?_) (fun w => ?_)
      · rw [Nat.add_sub_cancel] at w
        have wl := (WL_iff (i := 0) (by decide) hk).mpr w
        exact bX12_roadClause_24 h2.1 (fun _ => fin k (fa_first_at hk (fun j hj => wlB_no.mpr (hno j hj)) (wlB_iff.mpr wl)) (by omega)) (fun z => absurd z (by decide))
      · rw [Nat.add_sub_cancel] at w
        refine bX12_roadClause_24 h2.1 (fun z => absurd rfl z) (fun _ => ?_)
        rw [nI_1]
        refine ih (fun j hj => ?_)
        by_cases e : j = k
        · subst e; exact fun z => w ((WL_iff (i := 0) (by decide) hk).mp z)
        · exact hno j (by omega)
  exact main 0 (Nat.zero_le _) (fun j hj => absurd hj (Nat.not_lt_zero _))
theorem s_goesOn (h : MS B L p 0 m) (hp : p ≤ L) (k1 : sk B L p < L → B (sk B L p) = 59 → ∀ m2, MS B L (sk B L p + 1) 0 m2 → Mk m m2 → Q (some (.int 1)) m2) (k2 : L ≤ sk B L p → ∀ m2 q, MS B L q 0 m2 → Mk m m2 → Q (some (.int 0)) m2) (k0 : sk B L p < L → ¬ B (sk B L p) = 59 → ∀ m2 q, MS B L q (1 + 8 * sk B L p) m2 → Mk m m2 → Q (some (.int 0)) m2) : Cl X 2 mX12_goesOn [.ref 535] m Q := by
  refine pCl_of (by decide +kernel) (Nat.le_of_ble_eq_true rfl) rfl (bX12_goesOn_0 h.1 (s_blanks h (fun m2 h2 t2 => ?_)))
  have hs := sk_b (B := B) hp
  have hL := h.2.1.1
  have c : mI m2 535 19 ≤ mI m2 535 20 ↔ L ≤ sk B L p := by rw [h2.2.1.2.1, h2.2.2.1]; exact nI_leI (by omega) (by omega)
  have a := MS_at (q := sk B L p + 1) h2 (by omega)
  by_cases cc : L ≤ sk B L p
  · have c := c.mpr cc
    refine bX12_goesOn_4 h2.1 (fun z => absurd (MS_f0 h2) z) (fun _ _ => bX12_goesOn_40 h2.1 (fun z => absurd (MS_f0 h2) z) (fun _ _ => bX12_goesOn_62 h2.1 ?_) (fun _ z => absurd c z)) (fun _ z => absurd c z)
    rw [h2.2.2.1, nI_1]
    exact k2 cc _ _ a.1 (t2.tr a.2)
  · have c := fun z => cc (c.mp z)
    have hl : sk B L p < L := by omega
    refine bX12_goesOn_4 h2.1 (fun z => absurd (MS_f0 h2) z) (fun _ z => absurd z c) (fun _ _ => s_sign h2 (bX12_goesOn_26 h2.1 (fun z => ?_) (fun z => ?_)))
    · rw [ch_in hl, show (59 : Int32) = nI 59 from rfl, nI_eq (by have := (MS_ch h2 hl).1; omega) (by decide)] at z
      refine bX12_goesOn_40 h2.1 (fun z => absurd (MS_f0 h2) z) (fun _ z => absurd z c) (fun _ _ => ?_)
      rw [h2.2.2.1, nI_1]
      exact k1 hl z _ a.1 (t2.tr a.2)
    · rw [ch_in hl] at z
      have z : ¬ B (sk B L p) = 59 := fun w => z (by rw [w]; rfl)
      rw [h2.2.2.1]
      refine s_fails (k := 0) h2 (fun _ => by omega) (by decide) (fun m3 h3 t3 => ?_)
      rw [if_pos rfl] at h3
      have h3f := MS_f1 h3 (by omega)
      refine bX12_goesOn_40 h3.1 (fun _ => bX12_goesOn_62 h3.1 ?_) (fun z => absurd z h3f) (fun z => absurd z h3f)
      rw [h3.2.2.1, nI_1]
      have a3 := MS_at (q := sk B L p + 1) h3 (by omega)
      exact k0 hl z _ _ a3.1 (t2.tr (t3.tr a3.2))
theorem s_goesOnD (h : MS B L p f m) (hp : p ≤ 100000) (hf : f ≠ 0) (k : ∀ m2 q, MS B L q f m2 → Mk m m2 → Q (some (.int 0)) m2) : Cl X 2 mX12_goesOn [.ref 535] m Q := by
  refine pCl_of (by decide +kernel) (Nat.le_of_ble_eq_true rfl) rfl (bX12_goesOn_0 h.1 (s_blanks h (fun m2 h2 t2 => ?_)))
  have hL := h.2.1.1
  have hs : sk B L p ≤ 100000 := by
    by_cases c : p ≤ L
    · have := (sk_b (B := B) c).2; omega
    · rw [sk_ge (by omega)]; exact hp
  have h2f := MS_f1 h2 hf
  refine bX12_goesOn_4 h2.1 (fun _ => bX12_goesOn_40 h2.1 (fun _ => bX12_goesOn_62 h2.1 ?_) (fun z => absurd z h2f) (fun z => absurd z h2f)) (fun z => absurd z h2f) (fun z => absurd z h2f)
  rw [h2.2.2.1, nI_1]
  have a := MS_at (q := sk B L p + 1) h2 (by omega)
  exact k _ _ a.1 (t2.tr a.2)
def Ea (a k : Nat) : Prop := (a = 535 ∧ (k = 19 ∨ k = 20 ∨ k = 21 ∨ k = 24 ∨ k = 25 ∨ k = 26)) ∨ (548 ≤ a ∧ a ≤ 553)
theorem g_readsAll {m0 : pMem} : ∀ e n p s (m : pMem), e + n = 40 → MS B L p 0 m → p ≤ L → RX 548 s m → RB s → (n = 0 ∨ mI m 548 0 = 1) → Same Ea m0 m → (∀ s2, roadF B L (e + 1) n p s = .inr s2 → RB s2 → ∀ m3, Wf m3 → RX 548 s2 m3 → mI m3 548 0 = 1 → mI m3 535 21 = 0 → mI m3 535 19 = 0 → Same Ea m0 m3 → Q none m3) → (∀ f, roadF B L (e + 1) n p s = .inl f → 0 < f → f < 10000 → ∀ m3, Wf m3 → mI m3 535 21 = nI f → mI m3 535 19 = 0 → Same Ea m0 m3 → Q none m3) → Go X 7 mX12_readsAll Q 28 [(0, .ref 535), (1, .int (nI n)), (2, .int (1 : Int32))] [] m := by
  intro e
  induction e with
  | zero =>
    intro n p s m hn h hp x b h0 t k1 k0
    refine bX12_readsAll_28 h.1 (fun z => absurd z (by decide)) (fun _ => s_roadClause h hp x b (by omega) h0 (fun q s2 ec _ _ m3 h3 x3 _ t3 => ?_) (fun f ec hf m3 q h3 hq t3 => ?_))
    · have := cl_lt ec
      omega
    · have hL := h3.2.1.1
      refine bX12_readsAll_37 h3.1 (s_goesOnD h3 (by omega) (by omega) (fun m4 q4 h4 t4 => bX12_readsAll_44 h4.1 (bX12_readsAll_28 h4.1 (fun _ => ?_) (fun z => absurd rfl z))))
      refine k0 f (road_no ec) hf h4.2.2.2.2.2 _ (h4.1.sm (fun _ _ => rfl)) ?_ ?_ (Same.uI (t.tr ((t3.tr t4.mr).mo (fun a k z => ?_))) ?_)
      · rw [mI_uI, if_neg (by omega)]; exact h4.2.2.2.1
      · rw [mI_uI, if_pos ⟨rfl, rfl⟩]
      · unfold Ea; omega
      · unfold Ea; omega
  | succ e ih =>
    intro n p s m hn h hp x b h0 t k1 k0
    refine bX12_readsAll_28 h.1 (fun z => absurd z (by decide)) (fun _ => s_roadClause h hp x b (by omega) h0 (fun q s2 ec b2 hq m3 h3 x3 e3 t3 => ?_) (fun f ec hf m3 q h3 hq t3 => ?_))
    · have rg := road_go (e := e + 1) ec
      have hL := h3.2.1.1
      have tE : ∀ m4, Mk m3 m4 → Same Ea m0 m4 := fun m4 t4 => t.tr ((t3.tr t4.mr).mo (fun a k z => by unfold Ea; omega))
      refine bX12_readsAll_37 h3.1 (s_goesOn h3 hq (fun c1 c2 m4 h4 t4 => bX12_readsAll_44 h4.1 ?_) (fun c1 m4 q4 h4 t4 => bX12_readsAll_44 h4.1 (bX12_readsAll_28 h4.1 (fun _ => ?_) (fun z => absurd rfl z))) (fun c1 c2 m4 q4 h4 t4 => bX12_readsAll_44 h4.1 (bX12_readsAll_28 h4.1 (fun _ => ?_) (fun z => absurd rfl z))))
      · rw [if_neg (Nat.not_le.mpr c1), if_pos c2] at rg
        rw [nI_1]
        exact ih (n + 1) _ s2 m4 (by omega) h4 (by omega) (RX_mk t4 x3) b2 (Or.inr ((t4.1 _ _ (by omega)).trans e3)) (tE m4 t4) (fun s3 r3 => k1 s3 (rg.trans r3)) (fun f r3 => k0 f (rg.trans r3))
      · rw [if_pos c1] at rg
        refine k1 s2 rg b2 _ (h4.1.sm (fun _ _ => rfl)) (RX_c (fun a k z1 _ => by rw [mI_uI, if_neg (by omega)]) (RX_mk t4 x3)) ?_ ?_ ?_ (Same.uI (tE m4 t4) (by unfold Ea; omega))
        · rw [mI_uI, if_neg (by omega)]; exact (t4.1 _ _ (by omega)).trans e3
        · rw [mI_uI, if_neg (by omega)]; exact h4.2.2.2.1
        · rw [mI_uI, if_pos ⟨rfl, rfl⟩]
      · rw [if_neg (Nat.not_le.mpr c1), if_neg c2] at rg
        refine k0 _ rg (by omega) (by omega) _ (h4.1.sm (fun _ _ => rfl)) ?_ ?_ (Same.uI (tE m4 t4) (by unfold Ea; omega))
        · rw [mI_uI, if_neg (by omega)]; exact h4.2.2.2.1
        · rw [mI_uI, if_pos ⟨rfl, rfl⟩]
    · have hL := h3.2.1.1
      refine bX12_readsAll_37 h3.1 (s_goesOnD h3 (by omega) (by omega) (fun m4 q4 h4 t4 => bX12_readsAll_44 h4.1 (bX12_readsAll_28 h4.1 (fun _ => ?_) (fun z => absurd rfl z))))
      refine k0 f (road_no ec) hf h4.2.2.2.2.2 _ (h4.1.sm (fun _ _ => rfl)) ?_ ?_ (Same.uI (t.tr ((t3.tr t4.mr).mo (fun a k z => ?_))) ?_)
      · rw [mI_uI, if_neg (by omega)]; exact h4.2.2.2.1
      · rw [mI_uI, if_pos ⟨rfl, rfl⟩]
      · unfold Ea; omega
      · unfold Ea; omega
theorem s_readsAll (hW : Wf m) (ht : TpM m B L) (k1 : ∀ s2, roadF B L 41 0 0 s0R = .inr s2 → RB s2 → ∀ m3, Wf m3 → RX 548 s2 m3 → mI m3 548 0 = 1 → mI m3 535 21 = 0 → mI m3 535 19 = 0 → Same Ea m m3 → Q none m3) (k0 : ∀ f, roadF B L 41 0 0 s0R = .inl f → 0 < f → f < 10000 → ∀ m3, Wf m3 → mI m3 535 21 = nI f → mI m3 535 19 = 0 → Same Ea m m3 → Q none m3) : Cl X 7 mX12_readsAll [.ref 535] m Q := by
  refine pCl_of (by decide +kernel) (Nat.le_of_ble_eq_true rfl) rfl (bX12_readsAll_0 hW (pCl_of (by decide +kernel) (Nat.le_of_ble_eq_true rfl) rfl (bX12_starts_0 hW ?_)))
  obtain ⟨m1, hm1⟩ : ∃ m1, m1 = uI (uI (uI (uI (uI m 535 20 (0 : Int32)) 535 21 (0 : Int32)) 535 24 (0 : Int32)) 535 25 (0 : Int32)) 535 26 (0 : Int32) := ⟨_, rfl⟩
  have r1 : ∀ a k, mI m1 a k = if a = 535 ∧ (k = 20 ∨ k = 21 ∨ k = 24 ∨ k = 25 ∨ k = 26) then 0 else mI m a k := by
    intro a k
    rw [hm1]
    simp only [mI_uI]
    by_cases c : a = 535 ∧ (k = 20 ∨ k = 21 ∨ k = 24 ∨ k = 25 ∨ k = 26)
    · rw [if_pos c]
      obtain ⟨c1, c2⟩ := c
      rcases c2 with e | e | e | e | e <;> simp [c1, e]
    · rw [if_neg c, if_neg (by omega), if_neg (by omega), if_neg (by omega), if_neg (by omega), if_neg (by omega)]
  have hW1 : Wf m1 := by rw [hm1]; exact hW.sm (fun _ _ => rfl)
  have R1 : ∀ x y, mR m1 x y = mR m x y := fun x y => by rw [hm1]; rfl
  rw [← hm1]
  refine bX12_readsAll_4 hW1 ?_
  have main : ∀ i, i ≤ 5 → ∀ m2, (∀ a k, mI m2 a k = if a = 548 ∧ k < i then 0 else mI m1 a k) → (∀ x y, mR m2 x y = mR m x y) → Go X 7 mX12_readsAll Q 6 [(0, .ref 535), (1, .int (nI i))] [] m2 := by
    refine upTo (P := fun i => ∀ m2, (∀ a k, mI m2 a k = if a = 548 ∧ k < i then 0 else mI m1 a k) → (∀ x y, mR m2 x y = mR m x y) → Go X 7 mX12_readsAll Q 6 [(0, .ref 535), (1, .int (nI i))] [] m2) 5 ?_ ?_
    · intro m2 e2 R2
      have hW2 := hW.sm R2
      have q : ∀ a k, ¬ a = 548 → mI m2 a k = mI m1 a k := fun a k z => by rw [e2, if_neg (fun w => z w.1)]
      refine bX12_readsAll_6 hW2 (fun _ => ?_) (fun z => absurd (by decide) z) (fun z => absurd (by decide) z)
      refine g_readsAll (m0 := m) 40 0 0 s0R m2 rfl ⟨hW2, ⟨ht.1, ?_, fun j hj => ⟨(ht.2.2 j hj).1, ?_⟩⟩, ?_, ?_, by decide, by decide⟩ (Nat.zero_le _) ⟨⟨?_, ?_, ?_, ?_⟩, fun j hj => absurd hj (Nat.not_lt_zero _), fun j hj => absurd hj (Nat.not_lt_zero _), fun j hj => absurd hj (Nat.not_lt_zero _)⟩ RB_0 (Or.inl rfl) ⟨fun a k z => ?_, R2⟩ k1 k0
      · rw [q _ _ (by omega), r1, if_neg (by omega)]; exact ht.2.1
      · rw [q _ _ (by omega), r1, if_neg (by omega)]; exact (ht.2.2 j hj).2
      · rw [q _ _ (by omega), r1, if_pos (by omega)]; rfl
      · rw [q _ _ (by omega), r1, if_pos (by omega)]; rfl
      · rw [e2, if_pos (by omega)]; rfl
      · rw [e2, if_pos (by omega)]; rfl
      · rw [e2, if_pos (by omega)]; rfl
      · rw [e2, if_pos (by omega)]; rfl
      · unfold Ea at z
        rw [q _ _ (by omega), r1, if_neg (by omega)]
    · intro i hi ih m2 e2 R2
      have hlt : ¬ (5 : Int32) ≤ nI i := nI_ge (a := i) (b := 5) hi (by decide)
      refine bX12_readsAll_6 (hW.sm R2) (fun z => absurd z hlt) (fun _ => vp_in_nI hi (by decide)) (fun _ => ?_)
      rw [nI_1, nI_clamp (by omega)]
      refine ih _ (fun a k => ?_) R2
      rw [mI_uI, e2]
      by_cases c : a = 548 ∧ k = i
      · rw [if_pos c, if_pos (by omega)]
      · rw [if_neg c]
        by_cases d : a = 548 ∧ k < i
        · rw [if_pos d, if_pos (by omega)]
        · rw [if_neg d, if_neg (by omega)]
  exact main 0 (Nat.zero_le _) m1 (fun a k => by rw [if_neg (by omega)]) R1
end T43
