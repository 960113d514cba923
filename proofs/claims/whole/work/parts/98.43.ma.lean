/-! ===== the model reads a rule ===== -/
def EN (i : Nat) (es : List Tok) (m : pMem) : Prop := mI m 535 24 = nI es.length ∧ ∀ j, j < es.length → mI m 555 (300 * i + j) = (es.getD j (0, 0)).1 ∧ mI m 556 (300 * i + j) = (es.getD j (0, 0)).2
def Vk (i : Nat) (m m2 : pMem) : Prop := Same (fun a k => (a = 535 ∧ (k = 20 ∨ k = 21 ∨ k = 24 ∨ k = 26)) ∨ ((a = 555 ∨ a = 556) ∧ 300 * i ≤ k)) m m2
theorem Vk.rf {i : Nat} {m : pMem} : Vk i m m := Same.rf
theorem Vk.tr {i : Nat} {m m2 m3 : pMem} (h : Vk i m m2) (h2 : Vk i m2 m3) : Vk i m m3 := Same.tr h h2
theorem Mk.vk {m m2 : pMem} (i : Nat) (h : Mk m m2) : Vk i m m2 := Same.mo h (fun _ _ z => Or.inl (by omega))
def NS (B : Nat → Nat) (L p c i : Nat) (es : List Tok) (m : pMem) : Prop := MS B L p 0 m ∧ mI m 535 26 = nI c ∧ EN i es m ∧ mI m 535 22 = nI i ∧ mI m 535 28 = 12 ∧ i < 6
theorem NS_mk {B : Nat → Nat} {L p q c i : Nat} {es : List Tok} {m m2 : pMem} (t : Mk m m2) (h2 : MS B L q 0 m2) (h : NS B L p c i es m) : NS B L q c i es m2 := by
  obtain ⟨h1, hc, ⟨e1, e2⟩, hs, h12, hi⟩ := h
  exact ⟨h2, (t.1 _ _ (by omega)).trans hc, ⟨(t.1 _ _ (by omega)).trans e1, fun j hj => ⟨(t.1 _ _ (by omega)).trans (e2 j hj).1, (t.1 _ _ (by omega)).trans (e2 j hj).2⟩⟩, (t.1 _ _ (by omega)).trans hs, (t.1 _ _ (by omega)).trans h12, hi⟩
theorem MS_wr2 {B : Nat → Nat} {L p f k : Nat} {v : Int32} {m : pMem} (h : MS B L p f m) (hk : k ≠ 19 ∧ k ≠ 20 ∧ k ≠ 21) : MS B L p f (uI m 535 k v) := by
  obtain ⟨hW, ⟨hL, t1, t2⟩, hp, hf, hl, hf2⟩ := h
  refine ⟨hW.sm (fun _ _ => rfl), ⟨hL, ?_, fun j hj => ?_⟩, ?_, ?_, hl, hf2⟩
  · rw [mI_uI, if_neg (by omega)]; exact t1
  · rw [mI_uI, if_neg (by omega)]; exact t2 j hj
  · rw [mI_uI, if_neg (by omega)]; exact hp
  · rw [mI_uI, if_neg (by omega)]; exact hf
section T50
variable {X : pX} {Q : Option Value → pMem → Prop} {m : pMem} {B : Nat → Nat} {L p c i f : Nat} {es : List Tok}
theorem s_entry {t : Tok} {x y : Int32} (h : NS B L p c i es m) (hl : es.length < 300) (hx : x = t.1) (hy : y = t.2) (k : ∀ m2, NS B L p c i (es ++ [t]) m2 → Vk i m m2 → Q none m2) : Cl X 0 mX12_entry [.ref 535, .int x, .int y] m Q := by
  subst hx hy
  obtain ⟨h1, hc, ⟨e1, e2⟩, hs, h12, hi⟩ := h
  have ei : (300 : Int32) * mI m 535 22 + mI m 535 24 = nI (300 * i + es.length) := by rw [hs, e1, show (300 : Int32) = nI 300 from rfl, nI_mul, nI_add]
  refine pCl_of (by decide +kernel) (Nat.le_of_ble_eq_true rfl) rfl (bX12_entry_0 h1.1 (fun z => absurd (MS_f0 h1) z) (fun _ => by rw [ei]; exact vp_in_nI (by omega) (by decide)) (fun _ => ?_))
  rw [ei, nI_clamp (by omega), e1, nI_1]
  refine k _ ⟨MS_wr2 (MS_wr (MS_wr h1 (by omega)) (by omega)) (by omega), ?_, ⟨?_, fun j hj => ?_⟩, ?_, ?_, hi⟩ (Same.uI (Same.uI (Same.uI Same.rf (Or.inr ⟨Or.inl rfl, by omega⟩)) (Or.inr ⟨Or.inr rfl, by omega⟩)) (Or.inl (by omega)))
  · rw [mI_uI, if_neg (by omega), mI_uI, if_neg (by omega), mI_uI, if_neg (by omega)]; exact hc
  · rw [mI_uI, if_pos ⟨rfl, rfl⟩, List.length_append]; rfl
  · rw [List.length_append] at hj
    have hj : j < es.length + 1 := hj
    by_cases e : j = es.length
    · subst e
      rw [gd_eq]
      refine ⟨?_, ?_⟩
      · rw [mI_uI, if_neg (by omega), mI_uI, if_neg (by omega), mI_uI, if_pos ⟨rfl, rfl⟩]
      · rw [mI_uI, if_neg (by omega), mI_uI, if_pos ⟨rfl, rfl⟩]
    · rw [gd_lt (by omega)]
      refine ⟨?_, ?_⟩
      · rw [mI_uI, if_neg (by omega), mI_uI, if_neg (by omega), mI_uI, if_neg (by omega)]; exact (e2 j (by omega)).1
      · rw [mI_uI, if_neg (by omega), mI_uI, if_neg (by omega), mI_uI, if_neg (by omega)]; exact (e2 j (by omega)).2
  · rw [mI_uI, if_neg (by omega), mI_uI, if_neg (by omega), mI_uI, if_neg (by omega)]; exact hs
  · rw [mI_uI, if_neg (by omega), mI_uI, if_neg (by omega), mI_uI, if_neg (by omega)]; exact h12
theorem s_entryD {x y : Int32} (h : MS B L p f m) (hf : f ≠ 0) (k : Q none m) : Cl X 0 mX12_entry [.ref 535, .int x, .int y] m Q :=
  pCl_of (by decide +kernel) (Nat.le_of_ble_eq_true rfl) rfl (bX12_entry_0 h.1 (fun _ => k) (fun z => absurd z (MS_f1 h hf)) (fun z => absurd z (MS_f1 h hf)))
theorem NS_cn (d : Nat) (h : NS B L p c i es m) : NS B L p d i es (uI m 535 26 (nI d)) ∧ Vk i m (uI m 535 26 (nI d)) := by
  obtain ⟨h1, hc, ⟨e1, e2⟩, hs, h12, hi⟩ := h
  refine ⟨⟨MS_wr2 h1 (by omega), by rw [mI_uI, if_pos ⟨rfl, rfl⟩], ⟨?_, fun j hj => ?_⟩, ?_, ?_, hi⟩, Same.uI Same.rf (Or.inl (by omega))⟩
  · rw [mI_uI, if_neg (by omega)]; exact e1
  · rw [mI_uI, if_neg (by omega), mI_uI, if_neg (by omega)]; exact e2 j hj
  · rw [mI_uI, if_neg (by omega)]; exact hs
  · rw [mI_uI, if_neg (by omega)]; exact h12
theorem s_isCnt {q : Nat} (h : NS B L p c i es m) (hc : c ≤ 60) (hq : q ≤ 400) (k1 : c < 60 → ∀ m2, NS B L p (c + 1) i es m2 → Vk i m m2 → Q none m2) (k0 : 60 ≤ c → ∀ m2, MS B L p (4 + 8 * q) m2 → Vk i m m2 → Q none m2) : Cl X 1 mX12_isCounted [.ref 535, .int (nI q)] m Q := by
  have e26 : mI m 535 26 = (60 : Int32) ↔ c = 60 := by rw [h.2.1]; exact nI_eq (b := 60) (by omega) (by decide)
  refine pCl_of (by decide +kernel) (Nat.le_of_ble_eq_true rfl) rfl (bX12_isCounted_0 h.1.1 (fun z => ?_) (fun z => ?_))
  · have z : c ≠ 60 := fun w => z (e26.mpr w)
    have a := NS_cn (c + 1) h
    rw [h.2.1, nI_1]
    exact k1 (by omega) _ a.1 a.2
  · have z := e26.mp z
    refine s_fails (k := 3) h.1 (fun _ => by omega) (by decide) (fun m2 h2 t2 => bX12_isCounted_15 h2.1 ?_)
    rw [if_pos rfl] at h2
    refine k0 (by omega) _ (MS_wr2 (f := 4 + 8 * q) ?_ (by omega)) (Same.uI (t2.vk i) (Or.inl (by omega)))
    rw [show 4 + 8 * q = 1 + 8 * q + 3 by omega]; exact h2
theorem s_isCntD {x : Int32} (i : Nat) (h : MS B L p f m) (hf : f ≠ 0) (k : ∀ m2, MS B L p f m2 → Vk i m m2 → Q none m2) : Cl X 1 mX12_isCounted [.ref 535, .int x] m Q := by
  refine pCl_of (by decide +kernel) (Nat.le_of_ble_eq_true rfl) rfl (bX12_isCounted_0 h.1 (fun _ => ?_) (fun _ => ?_))
  · exact k _ (MS_wr2 h (by omega)) (Same.uI Same.rf (Or.inl (by omega)))
  · refine pCl_of (by decide +kernel) (Nat.le_of_ble_eq_true rfl) rfl (bX12_fails_0 h.1 (fun _ => ?_) (fun z => absurd z (MS_f1 h hf)))
    have a := MS_fl (g := f) h h.2.2.2.2.2
    rw [h.2.2.2.1]
    exact bX12_isCounted_15 a.1.1 (k _ (MS_wr2 a.1 (by omega)) (Same.uI (a.2.vk i) (Or.inl (by omega))))
theorem s_wordOf {k : Nat} (hk : k < 12) (hW : Wf m) (h : Q (some (.retAddr (8 + k))) m) : Cl X 0 mX12_wordOf [.int (nI k)] m Q := by
  refine pCl_of (by decide +kernel) (Nat.le_of_ble_eq_true rfl) rfl ?_
  have hh : k = 0 ∨ k = 1 ∨ k = 2 ∨ k = 3 ∨ k = 4 ∨ k = 5 ∨ k = 6 ∨ k = 7 ∨ k = 8 ∨ k = 9 ∨ k = 10 ∨ k = 11 := by omega
  rcases hh with rfl | rfl | rfl | rfl | rfl | rfl | rfl | rfl | rfl | rfl | rfl | rfl
  · exact bX12_wordOf_0 hW (fun _ => h) (fun z _ => absurd rfl z) (fun z _ _ => absurd rfl z) (fun z _ _ _ => absurd rfl z) (fun z _ _ _ _ => absurd rfl z) (fun z _ _ _ _ _ => absurd rfl z) (fun z _ _ _ _ _ _ => absurd rfl z) (fun z _ _ _ _ _ _ _ => absurd rfl z) (fun z _ _ _ _ _ _ _ _ => absurd rfl z) (fun z _ _ _ _ _ _ _ _ _ => absurd rfl z) (fun z _ _ _ _ _ _ _ _ _ _ => absurd rfl z) (fun z _ _ _ _ _ _ _ _ _ _ => absurd rfl z)
  · exact bX12_wordOf_0 hW (fun z => absurd z (by decide)) (fun _ _ => h) (fun _ z _ => absurd rfl z) (fun _ z _ _ => absurd rfl z) (fun _ z _ _ _ => absurd rfl z) (fun _ z _ _ _ _ => absurd rfl z) (fun _ z _ _ _ _ _ => absurd rfl z) (fun _ z _ _ _ _ _ _ => absurd rfl z) (fun _ z _ _ _ _ _ _ _ => absurd rfl z) (fun _ z _ _ _ _ _ _ _ _ => absurd rfl z) (fun _ z _ _ _ _ _ _ _ _ _ => absurd rfl z) (fun _ z _ _ _ _ _ _ _ _ _ => absurd rfl z)
  · exact bX12_wordOf_0 hW (fun z => absurd z (by decide)) (fun _ z => absurd z (by decide)) (fun _ _ _ => h) (fun _ _ z _ => absurd rfl z) (fun _ _ z _ _ => absurd rfl z) (fun _ _ z _ _ _ => absurd rfl z) (fun _ _ z _ _ _ _ => absurd rfl z) (fun _ _ z _ _ _ _ _ => absurd rfl z) (fun _ _ z _ _ _ _ _ _ => absurd rfl z) (fun _ _ z _ _ _ _ _ _ _ => absurd rfl z) (fun _ _ z _ _ _ _ _ _ _ _ => absurd rfl z) (fun _ _ z _ _ _ _ _ _ _ _ => absurd rfl z)
  · exact bX12_wordOf_0 hW (fun z => absurd z (by decide)) (fun _ z => absurd z (by decide)) (fun _ _ z => absurd z (by decide)) (fun _ _ _ _ => h) (fun _ _ _ z _ => absurd rfl z) (fun _ _ _ z _ _ => absurd rfl z) (fun _ _ _ z _ _ _ => absurd rfl z) (fun _ _ _ z _ _ _ _ => absurd rfl z) (fun _ _ _ z _ _ _ _ _ => absurd rfl z) (fun _ _ _ z _ _ _ _ _ _ => absurd rfl z) (fun _ _ _ z _ _ _ _ _ _ _ => absurd rfl z) (fun _ _ _ z _ _ _ _ _ _ _ => absurd rfl z)
  · exact bX12_wordOf_0 hW (fun z => absurd z (by decide)) (fun _ z => absurd z (by decide)) (fun _ _ z => absurd z (by decide)) (fun _ _ _ z => absurd z (by decide)) (fun _ _ _ _ _ => h) (fun _ _ _ _ z _ => absurd rfl z) (fun _ _ _ _ z _ _ => absurd rfl z) (fun _ _ _ _ z _ _ _ => absurd rfl z) (fun _ _ _ _ z _ _ _ _ => absurd rfl z) (fun _ _ _ _ z _ _ _ _ _ => absurd rfl z) (fun _ _ _ _ z _ _ _ _ _ _ => absurd rfl z) (fun _ _ _ _ z _ _ _ _ _ _ => absurd rfl z)
  · exact bX12_wordOf_0 hW (fun z => absurd z (by decide)) (fun _ z => absurd z (by decide)) (fun _ _ z => absurd z (by decide)) (fun _ _ _ z => absurd z (by decide)) (fun _ _ _ _ z => absurd z (by decide)) (fun _ _ _ _ _ _ => h) (fun _ _ _ _ _ z _ => absurd rfl z) (fun _ _ _ _ _ z _ _ => absurd rfl z) (fun _ _ _ _ _ z _ _ _ => absurd rfl z) (fun _ _ _ _ _ z _ _ _ _ => absurd rfl z) (fun _ _ _ _ _ z _ _ _ _ _ => absurd rfl z) (fun _ _ _ _ _ z _ _ _ _ _ => absurd rfl z)
  · exact bX12_wordOf_0 hW (fun z => absurd z (by decide)) (fun _ z => absurd z (by decide)) (fun _ _ z => absurd z (by decide)) (fun _ _ _ z => absurd z (by decide)) (fun _ _ _ _ z => absurd z (by decide)) (fun _ _ _ _ _ z => absurd z (by decide)) (fun _ _ _ _ _ _ _ => h) (fun _ _ _ _ _ _ z _ => absurd rfl z) (fun _ _ _ _ _ _ z _ _ => absurd rfl z) (fun _ _ _ _ _ _ z _ _ _ => absurd rfl z) (fun _ _ _ _ _ _ z _ _ _ _ => absurd rfl z) (fun _ _ _ _ _ _ z _ _ _ _ => absurd rfl z)
  · exact bX12_wordOf_0 hW (fun z => absurd z (by decide)) (fun _ z => absurd z (by decide)) (fun _ _ z => absurd z (by decide)) (fun _ _ _ z => absurd z (by decide)) (fun _ _ _ _ z => absurd z (by decide)) (fun _ _ _ _ _ z => absurd z (by decide)) (fun _ _ _ _ _ _ z => absurd z (by decide)) (fun _ _ _ _ _ _ _ _ => h) (fun _ _ _ _ _ _ _ z _ => absurd rfl z) (fun _ _ _ _ _ _ _ z _ _ => absurd rfl z) (fun _ _ _ _ _ _ _ z _ _ _ => absurd rfl z) (fun _ _ _ _ _ _ _ z _ _ _ => absurd rfl z)
  · exact bX12_wordOf_0 hW (fun z => absurd z (by decide)) (fun _ z => absurd z (by decide)) (fun _ _ z => absurd z (by decide)) (fun _ _ _ z => absurd z (by decide)) (fun _ _ _ _ z => absurd z (by decide)) (fun _ _ _ _ _ z => absurd z (by decide)) (fun _ _ _ _ _ _ z => absurd z (by decide)) (fun _ _ _ _ _ _ _ z => absurd z (by decide)) (fun _ _ _ _ _ _ _ _ _ => h) (fun _ _ _ _ _ _ _ _ z _ => absurd rfl z) (fun _ _ _ _ _ _ _ _ z _ _ => absurd rfl z) (fun _ _ _ _ _ _ _ _ z _ _ => absurd rfl z)
  · exact bX12_wordOf_0 hW (fun z => absurd z (by decide)) (fun _ z => absurd z (by decide)) (fun _ _ z => absurd z (by decide)) (fun _ _ _ z => absurd z (by decide)) (fun _ _ _ _ z => absurd z (by decide)) (fun _ _ _ _ _ z => absurd z (by decide)) (fun _ _ _ _ _ _ z => absurd z (by decide)) (fun _ _ _ _ _ _ _ z => absurd z (by decide)) (fun _ _ _ _ _ _ _ _ z => absurd z (by decide)) (fun _ _ _ _ _ _ _ _ _ _ => h) (fun _ _ _ _ _ _ _ _ _ z _ => absurd rfl z) (fun _ _ _ _ _ _ _ _ _ z _ => absurd rfl z)
  · exact bX12_wordOf_0 hW (fun z => absurd z (by decide)) (fun _ z => absurd z (by decide)) (fun _ _ z => absurd z (by decide)) (fun _ _ _ z => absurd z (by decide)) (fun _ _ _ _ z => absurd z (by decide)) (fun _ _ _ _ _ z => absurd z (by decide)) (fun _ _ _ _ _ _ z => absurd z (by decide)) (fun _ _ _ _ _ _ _ z => absurd z (by decide)) (fun _ _ _ _ _ _ _ _ z => absurd z (by decide)) (fun _ _ _ _ _ _ _ _ _ z => absurd z (by decide)) (fun _ _ _ _ _ _ _ _ _ _ _ => h) (fun _ _ _ _ _ _ _ _ _ _ z => absurd rfl z)
  · exact bX12_wordOf_0 hW (fun z => absurd z (by decide)) (fun _ z => absurd z (by decide)) (fun _ _ z => absurd z (by decide)) (fun _ _ _ z => absurd z (by decide)) (fun _ _ _ _ z => absurd z (by decide)) (fun _ _ _ _ _ z => absurd z (by decide)) (fun _ _ _ _ _ _ z => absurd z (by decide)) (fun _ _ _ _ _ _ _ z => absurd z (by decide)) (fun _ _ _ _ _ _ _ _ z => absurd z (by decide)) (fun _ _ _ _ _ _ _ _ _ z => absurd z (by decide)) (fun _ _ _ _ _ _ _ _ _ _ z => absurd z (by decide)) (fun _ _ _ _ _ _ _ _ _ _ _ => h)
theorem g_words (h : MS B L p f m) (h12 : mI m 535 28 = 12) {x : Int32} (k : wlF B L p 1 ≤ 12 → Go X 6 mX12_value Q 62 [(0, .ref 535), (1, .int x), (2, .int (nI (wlF B L p 1)))] [] m) : Go X 6 mX12_value Q 37 [(0, .ref 535), (1, .int x), (2, .int (0 : Int32))] [] m := by
  have main : ∀ j, j ≤ 12 → (∀ n, n < j → ¬ WL B L p 1 n) → Go X 6 mX12_value Q 37 [(0, .ref 535), (1, .int x), (2, .int (nI j))] [] m := by
    refine upTo (P := fun j => (∀ n, n < j → ¬ WL B L p 1 n) → Go X 6 mX12_value Q 37 [(0, .ref 535), (1, .int x), (2, .int (nI j))] [] m) 12 ?_ ?_
    · intro hn
      have e : wlF B L p 1 = 12 := fa_first_all (fun j hj => wlB_no.mpr (hn j hj))
      rw [e] at k
      refine bX12_value_37 h.1 (fun _ => k (by decide)) (fun z => absurd ?_ z)
      rw [h12]; decide
    · intro j hj ih hno
      obtain ⟨wo1, wo2, wo3, wo4, wo5⟩ := wi_ok 1 (by decide) j hj
      have ew : wi 1 j = 7 + j := rfl
      have c : ¬ mI m 535 28 ≤ nI j := by rw [h12]; exact nI_ge (a := j) (b := 12) hj (by decide)
      refine bX12_value_37 h.1 (fun z => absurd z c) (fun _ => s_wordOf hj h.1 (bX12_value_50 h.1 ?_))
      refine s_stood (k := 8 + j) h (by omega) (fun w => ?_) (fun w => ?_)
      · rw [show 8 + j - 1 = wi 1 j by omega] at w
        have wl := (WL_iff (i := 1) (by decide) hj).mpr w
        have e : wlF B L p 1 = j := fa_first_at hj (fun n hn => wlB_no.mpr (hno n hn)) (wlB_iff.mpr wl)
        rw [e] at k
        exact bX12_value_53 h.1 (fun _ => k (by omega)) (fun z => absurd z (by decide))
      · rw [show 8 + j - 1 = wi 1 j by omega] at w
        refine bX12_value_53 h.1 (fun z => absurd rfl z) (fun _ => ?_)
        rw [nI_1]
        refine ih (fun n hn => ?_)
        by_cases e : n = j
        · subst e; exact fun z => w ((WL_iff (i := 1) (by decide) hj).mp z)
        · exact hno n (by omega)
  exact main 0 (Nat.zero_le _) (fun n hn => absurd hn (Nat.not_lt_zero _))
theorem s_mVal (h : NS B L p c i es m) (hp : p ≤ L) (hc : c ≤ 60) (hl : 3 * es.length ≤ 14 * c + 45) (k1 : ∀ p1 c1 ts, vlF B L p c = .inr (p1, c1, ts) → ∀ m2, NS B L p1 c1 i (es ++ ts) m2 → Vk i m m2 → Q none m2) (k0 : ∀ f, vlF B L p c = .inl f → 0 < f → ∀ m2 q, MS B L q f m2 → q ≤ L → Vk i m m2 → Q none m2) : Cl X 6 mX12_value [.ref 535] m Q := by
  have hs := sk_b (B := B) hp
  have hL := h.1.2.1.1
  refine pCl_of (by decide +kernel) (Nat.le_of_ble_eq_true rfl) rfl (bX12_value_0 h.1.1 (s_blanks h.1 (fun m2 h2 t2 => bX12_value_4 h2.1 ?_)))
  rw [h2.2.2.1]
  have N2 := NS_mk t2 h2 h
  have nb := nd_b (B := B) hs.2
  refine s_mDig h2 (fun z => ?_) (fun z => ?_)
  · have nd1 : ¬ nd B L (sk B L p) = sk B L p := (nd_dg (fun hl => (MS_ch h2 hl).1)).mp z
    refine bX12_value_13 h2.1 (fun y => absurd y (by decide)) (fun _ => s_digits h2 (fun _ => hs.2) (fun m3 v h3 t3 hv => bX12_value_22 h3.1 ?_))
    rw [if_pos rfl] at h3
    have hv := hv nd1
    by_cases c5 : 5 < nd B L (sk B L p) - sk B L p
    · have e : dgF B L (sk B L p) = 2 + 8 * sk B L p := by unfold dgF; rw [if_neg nd1, if_pos c5]
      rw [e] at h3
      have ev : vlF B L p c = .inl (2 + 8 * sk B L p) := by unfold vlF; rw [if_pos nd1, if_pos c5]
      exact s_isCntD i h3 (by omega) (fun m4 h4 t4 => bX12_value_28 h4.1 (s_entryD h4 (by omega) (bX12_value_34 h4.1 (k0 _ ev (by omega) m4 _ h4 nb.2 (((t2.tr t3).vk i).tr t4)))))
    · have e : dgF B L (sk B L p) = 0 := by unfold dgF; rw [if_neg nd1, if_neg c5]
      rw [e] at h3
      have N3 := NS_mk t3 h3 N2
      refine s_isCnt N3 hc (by omega) (fun y m4 h4 t4 => bX12_value_28 h4.1.1 ?_) (fun y m4 h4 t4 => bX12_value_28 h4.1 ?_)
      · have ev : vlF B L p c = .inr (nd B L (sk B L p), c + 1, [(0, nI (nv B L (sk B L p)))]) := by unfold vlF; rw [if_pos nd1, if_neg c5, if_neg (by omega)]
        exact s_entry (t := (0, nI (nv B L (sk B L p)))) h4 (by omega) rfl hv (fun m5 h5 t5 => bX12_value_34 h5.1.1 (k1 _ _ _ ev m5 h5 (((t2.tr t3).vk i).tr (t4.tr t5))))
      · have ev : vlF B L p c = .inl (4 + 8 * sk B L p) := by unfold vlF; rw [if_pos nd1, if_neg c5, if_pos y]
        exact s_entryD h4 (by omega) (bX12_value_34 h4.1 (k0 _ ev (by omega) m4 _ h4 nb.2 (((t2.tr t3).vk i).tr t4)))
  · have nd1 : ¬ ¬ nd B L (sk B L p) = sk B L p := fun y => z ((nd_dg (fun hl => (MS_ch h2 hl).1)).mpr y)
    refine bX12_value_13 h2.1 (fun _ => g_words h2 N2.2.2.2.2.1 (fun hw => ?_)) (fun y => absurd rfl y)
    have e28 : mI m2 535 28 = nI 12 := N2.2.2.2.2.1
    by_cases w12 : wlF B L (sk B L p) 1 = 12
    · have ev : vlF B L p c = .inl (1 + 8 * sk B L p) := by unfold vlF; rw [if_neg nd1, if_pos w12]
      refine bX12_value_62 h2.1 (fun y => absurd (by rw [e28, w12]) y) (fun _ => ?_)
      refine s_fails (k := 0) h2 (fun _ => by omega) (by decide) (fun m4 h4 t4 => bX12_value_76 h4.1 ?_)
      rw [if_pos rfl] at h4
      exact k0 _ ev (by omega) m4 _ h4 hs.2 ((t2.tr t4).vk i)
    · have wl : wlF B L (sk B L p) 1 < 12 := by omega
      obtain ⟨wo1, wo2, wo3, wo4, wo5⟩ := wi_ok 1 (by decide) _ wl
      have ewi : wi 1 (wlF B L (sk B L p) 1) = 7 + wlF B L (sk B L p) 1 := rfl
      have wa : sk B L p + wlen 1 (wlF B L (sk B L p) 1) ≤ L := (wl_at (i := 1) wl).1
      have lenw : lenJ (8 + wlF B L (sk B L p) 1 - 1) = wlen 1 (wlF B L (sk B L p) 1) := by rw [show 8 + wlF B L (sk B L p) 1 - 1 = wi 1 (wlF B L (sk B L p) 1) by omega]; exact wo1.symm
      refine bX12_value_62 h2.1 (fun _ => s_isCnt N2 hc (by omega) (fun y m4 h4 t4 => ?_) (fun y m4 h4 t4 => ?_)) (fun y => ?_)
      · have ev : vlF B L p c = .inr (sk B L p + wlen 1 (wlF B L (sk B L p) 1), c + 1, [(1, nI (wlF B L (sk B L p) 1))]) := by unfold vlF; rw [if_neg nd1, if_neg w12, if_neg (by omega)]
        refine bX12_value_82 h4.1.1 (s_wordOf wl h4.1.1 (bX12_value_91 h4.1.1 (by omega) (s_length (by omega) (bX12_value_94 h4.1.1 ?_))))
        rw [h4.1.2.2.1, lenw, nI_add]
        have a := MS_at (q := sk B L p + wlen 1 (wlF B L (sk B L p) 1)) h4.1 (by omega)
        exact s_entry (t := (1, nI (wlF B L (sk B L p) 1))) (NS_mk a.2 a.1 h4) (by omega) rfl rfl (fun m5 h5 t5 => bX12_value_104 h5.1.1 (k1 _ _ _ ev m5 h5 ((t2.vk i).tr (t4.tr ((a.2.vk i).tr t5)))))
      · have ev : vlF B L p c = .inl (4 + 8 * sk B L p) := by unfold vlF; rw [if_neg nd1, if_neg w12, if_pos y]
        refine bX12_value_82 h4.1 (s_wordOf wl h4.1 (bX12_value_91 h4.1 (by omega) (s_length (by omega) (bX12_value_94 h4.1 ?_))))
        rw [h4.2.2.1, lenw, nI_add]
        have a := MS_at (q := sk B L p + wlen 1 (wlF B L (sk B L p) 1)) h4 (by omega)
        exact s_entryD a.1 (by omega) (bX12_value_104 a.1.1 (k0 _ ev (by omega) _ _ a.1 wa ((t2.vk i).tr (t4.tr (a.2.vk i)))))
      · rw [e28, nI_eq (by omega) (by decide)] at y
        exact absurd y w12
theorem s_mValD (i : Nat) (h : MS B L p f m) (hf : f ≠ 0) (hp : p ≤ 1000) (h12 : mI m 535 28 = 12) (k : ∀ m2 q, MS B L q f m2 → (q ≤ p ∨ q ≤ L) → Vk i m m2 → Q none m2) : Cl X 6 mX12_value [.ref 535] m Q := by
  have hL := h.2.1.1
  have hs : sk B L p ≤ p ∨ sk B L p ≤ L := by
    by_cases c : p ≤ L
    · exact Or.inr (sk_b (B := B) c).2
    · rw [sk_ge (by omega)]; exact Or.inl (Nat.le_refl _)
  refine pCl_of (by decide +kernel) (Nat.le_of_ble_eq_true rfl) rfl (bX12_value_0 h.1 (s_blanks h (fun m2 h2 t2 => bX12_value_4 h2.1 ?_)))
  have e12 : mI m2 535 28 = 12 := (t2.1 _ _ (by omega)).trans h12
  refine s_mDig h2 (fun z => ?_) (fun z => ?_)
  · have nd1 : ¬ nd B L (sk B L p) = sk B L p := (nd_dg (fun hl => (MS_ch h2 hl).1)).mp z
    have nb := nd_b (B := B) (Nat.le_of_lt (nd_p nd1).1)
    refine bX12_value_13 h2.1 (fun y => absurd y (by decide)) (fun _ => s_digits h2 (fun e => absurd e hf) (fun m3 v h3 t3 hv => bX12_value_22 h3.1 ?_))
    rw [if_neg hf] at h3
    exact s_isCntD i h3 hf (fun m4 h4 t4 => bX12_value_28 h4.1 (s_entryD h4 hf (bX12_value_34 h4.1 (k m4 _ h4 (Or.inr nb.2) (((t2.tr t3).vk i).tr t4)))))
  · refine bX12_value_13 h2.1 (fun _ => g_words h2 e12 (fun hw => ?_)) (fun y => absurd rfl y)
    by_cases w12 : wlF B L (sk B L p) 1 = 12
    · refine bX12_value_62 h2.1 (fun y => absurd (by rw [e12, w12]; rfl) y) (fun _ => ?_)
      refine pCl_of (by decide +kernel) (Nat.le_of_ble_eq_true rfl) rfl (bX12_fails_0 h2.1 (fun _ => ?_) (fun z => absurd z (MS_f1 h2 hf)))
      have a := MS_fl (g := f) h2 h2.2.2.2.2.2
      rw [h2.2.2.2.1]
      exact bX12_value_76 a.1.1 (k _ _ a.1 hs ((t2.tr a.2).vk i))
    · have wl : wlF B L (sk B L p) 1 < 12 := by omega
      obtain ⟨wo1, wo2, wo3, wo4, wo5⟩ := wi_ok 1 (by decide) _ wl
      have ewi : wi 1 (wlF B L (sk B L p) 1) = 7 + wlF B L (sk B L p) 1 := rfl
      have wa : sk B L p + wlen 1 (wlF B L (sk B L p) 1) ≤ L := (wl_at (i := 1) wl).1
      have lenw : lenJ (8 + wlF B L (sk B L p) 1 - 1) = wlen 1 (wlF B L (sk B L p) 1) := by rw [show 8 + wlF B L (sk B L p) 1 - 1 = wi 1 (wlF B L (sk B L p) 1) by omega]; exact wo1.symm
      refine bX12_value_62 h2.1 (fun _ => s_isCntD i h2 hf (fun m4 h4 t4 => ?_)) (fun y => ?_)
      · refine bX12_value_82 h4.1 (s_wordOf wl h4.1 (bX12_value_91 h4.1 (by omega) (s_length (by omega) (bX12_value_94 h4.1 ?_))))
        rw [h4.2.2.1, lenw, nI_add]
        have a := MS_at (q := sk B L p + wlen 1 (wlF B L (sk B L p) 1)) h4 (by omega)
        exact s_entryD a.1 hf (bX12_value_104 a.1.1 (k _ _ a.1 (Or.inr wa) ((t2.vk i).tr (t4.tr (a.2.vk i)))))
      · rw [e12] at y
        exact absurd ((nI_eq (b := 12) (by omega) (by decide)).mp y) w12
end T50
