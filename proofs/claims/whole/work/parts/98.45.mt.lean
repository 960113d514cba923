/-! ===== the model reads tests ===== -/
def OP (S : List Int32) (m : pMem) : Prop := mI m 535 27 = nI S.length ∧ ∀ j, j < S.length → mI m 561 j = S.getD j 0
def Nk (i : Nat) (m m2 : pMem) : Prop := Same (fun a k => (a = 535 ∧ (k = 20 ∨ k = 21 ∨ k = 24 ∨ k = 25 ∨ k = 26 ∨ k = 27)) ∨ ((a = 555 ∨ a = 556) ∧ 300 * i ≤ k) ∨ a = 561) m m2
theorem Nk.rf {i : Nat} {m : pMem} : Nk i m m := Same.rf
theorem Nk.tr {i : Nat} {m m2 m3 : pMem} (h : Nk i m m2) (h2 : Nk i m2 m3) : Nk i m m3 := Same.tr h h2
theorem Vk.nk {i : Nat} {m m2 : pMem} (h : Vk i m m2) : Nk i m m2 := Same.mo h (fun _ _ z => by omega)
theorem Mk.nk {m m2 : pMem} (i : Nat) (h : Mk m m2) : Nk i m m2 := (h.vk i).nk
def TS (B : Nat → Nat) (L p c i : Nat) (es : List Tok) (d : Nat) (S : List Int32) (m : pMem) : Prop := NS B L p c i es m ∧ mI m 535 25 = nI d ∧ OP S m
theorem TS_vk {B : Nat → Nat} {L p q c c2 i d : Nat} {es es2 : List Tok} {S : List Int32} {m m2 : pMem} (t : Vk i m m2) (h2 : NS B L q c2 i es2 m2) (h : TS B L p c i es d S m) : TS B L q c2 i es2 d S m2 :=
  ⟨h2, (t.1 _ _ (by omega)).trans h.2.1, (t.1 _ _ (by omega)).trans h.2.2.1, fun j hj => (t.1 _ _ (by omega)).trans (h.2.2.2 j hj)⟩
theorem TS_mk {B : Nat → Nat} {L p q c i d : Nat} {es : List Tok} {S : List Int32} {m m2 : pMem} (t : Mk m m2) (h2 : MS B L q 0 m2) (h : TS B L p c i es d S m) : TS B L q c i es d S m2 := TS_vk (t.vk i) (NS_mk t h2 h.1) h
theorem NS_wr {B : Nat → Nat} {L p c i k : Nat} {es : List Tok} {v : Int32} {m : pMem} (h : NS B L p c i es m) (hk : k = 25 ∨ k = 27) : NS B L p c i es (uI m 535 k v) := by
  obtain ⟨h1, hc, ⟨e1, e2⟩, hs, h12, hi⟩ := h
  refine ⟨MS_wr2 h1 (by omega), ?_, ⟨?_, fun j hj => ?_⟩, ?_, ?_, hi⟩
  · rw [mI_uI, if_neg (by omega)]; exact hc
  · rw [mI_uI, if_neg (by omega)]; exact e1
  · rw [mI_uI, if_neg (by omega), mI_uI, if_neg (by omega)]; exact e2 j hj
  · rw [mI_uI, if_neg (by omega)]; exact hs
  · rw [mI_uI, if_neg (by omega)]; exact h12
theorem NS_w1 {B : Nat → Nat} {L p c i k : Nat} {es : List Tok} {v : Int32} {m : pMem} (h : NS B L p c i es m) : NS B L p c i es (uI m 561 k v) := by
  obtain ⟨h1, hc, ⟨e1, e2⟩, hs, h12, hi⟩ := h
  refine ⟨MS_wr h1 (by omega), ?_, ⟨?_, fun j hj => ?_⟩, ?_, ?_, hi⟩
  · rw [mI_uI, if_neg (by omega)]; exact hc
  · rw [mI_uI, if_neg (by omega)]; exact e1
  · rw [mI_uI, if_neg (by omega), mI_uI, if_neg (by omega)]; exact e2 j hj
  · rw [mI_uI, if_neg (by omega)]; exact hs
  · rw [mI_uI, if_neg (by omega)]; exact h12
theorem snoc_cases : ∀ S : List Int32, S = [] ∨ ∃ T x, S = T ++ [x]
  | [] => Or.inl rfl
  | a :: S => Or.inr (by
    rcases snoc_cases S with e | ⟨T, x, e⟩
    · exact ⟨[], a, by rw [e]; rfl⟩
    · exact ⟨a :: T, x, by rw [e]; rfl⟩)
/-- the last one isn't k -/
def nL (k : Int32) (S : List Int32) : Prop := ∀ T x, S = T ++ [x] → x ≠ k
theorem snoc_inj {T T2 : List Int32} {x y : Int32} (h : T ++ [x] = T2 ++ [y]) : T = T2 ∧ x = y := by
  have h2 := List.append_inj' h rfl
  refine ⟨h2.1, ?_⟩
  have := h2.2
  injection this
theorem nL_rep {k y : Int32} {S : List Int32} (h : nL k S) (hy : y ≠ k) : ∀ n, nL k (S ++ List.replicate n y)
  | 0 => by rw [List.replicate_zero, List.append_nil]; exact h
  | n + 1 => by
    intro T x e
    rw [List.replicate_succ', ← List.append_assoc] at e
    rw [← (snoc_inj e).2]; exact hy
theorem wd_same {B : Nat → Nat} {L p : Nat} : (WD B L p (lenJ 19) (bytJ 19) ↔ WDi B L p 6) ∧ (WD B L p (lenJ 20) (bytJ 20) ↔ WDi B L p 4) ∧ (WD B L p (lenJ 21) (bytJ 21) ↔ WDi B L p 5) ∧ (WD B L p (lenJ 23) (bytJ 23) ↔ WDi B L p 2) ∧ (WD B L p (lenJ 24) (bytJ 24) ↔ WDi B L p 3) := by
  unfold WDi
  rw [show lenJ 19 = lenJ 6 from rfl, show bytJ 19 = bytJ 6 from rfl, show lenJ 20 = lenJ 4 from rfl, show bytJ 20 = bytJ 4 from rfl, show lenJ 21 = lenJ 5 from rfl, show bytJ 21 = bytJ 5 from rfl, show lenJ 23 = lenJ 2 from rfl, show bytJ 23 = bytJ 2 from rfl, show lenJ 24 = lenJ 3 from rfl, show bytJ 24 = bytJ 3 from rfl]
  exact ⟨Iff.rfl, Iff.rfl, Iff.rfl, Iff.rfl, Iff.rfl⟩
theorem and_or {B : Nat → Nat} {L p : Nat} (h : WDi B L p 4) : ¬ WDi B L p 5 := fun h2 => by
  have a := h.2.1 0 (by decide)
  have b := h2.2.1 0 (by decide)
  exact absurd (a.symm.trans b) (by decide)
theorem cm_sk {B : Nat → Nat} {L p c : Nat} : cmF B L (sk B L p) c = cmF B L p c := by
  have vsk : vlF B L (sk B L p) c = vlF B L p c := by unfold vlF; rw [sk_sk]
  have ssk : smF B L (sk B L p) c = smF B L p c := by unfold smF; rw [vsk]
  unfold cmF
  rw [ssk]
section T53
variable {X : pX} {Q : Option Value → pMem → Prop} {m : pMem} {B : Nat → Nat} {L p c i d f : Nat} {es : List Tok} {S : List Int32}
theorem TS_push {x : Int32} (h : TS B L p c i es d S m) : TS B L p c i es d (S ++ [x]) (uI (uI m 561 S.length x) 535 27 (nI (S.length + 1))) ∧ Nk i m (uI (uI m 561 S.length x) 535 27 (nI (S.length + 1))) := by
  refine ⟨⟨NS_wr (NS_w1 h.1) (Or.inr rfl), ?_, ?_, fun j hj => ?_⟩, Same.uI (Same.uI Same.rf (Or.inr (Or.inr rfl))) (Or.inl (by omega))⟩
  · rw [mI_uI, if_neg (by omega), mI_uI, if_neg (by omega)]; exact h.2.1
  · rw [mI_uI, if_pos ⟨rfl, rfl⟩, List.length_append]; rfl
  · rw [List.length_append] at hj
    have hj : j < S.length + 1 := hj
    rw [mI_uI, if_neg (by omega), mI_uI]
    by_cases e : j = S.length
    · subst e; rw [if_pos ⟨rfl, rfl⟩, gd_eq]
    · rw [if_neg (by omega), gd_lt (by omega)]; exact h.2.2.2 j (by omega)
theorem TS_pop {x : Int32} (d2 : Nat) (h : TS B L p c i es d (S ++ [x]) m) : TS B L p c i es d2 S (uI (uI m 535 27 (nI S.length)) 535 25 (nI d2)) ∧ Nk i m (uI (uI m 535 27 (nI S.length)) 535 25 (nI d2)) := by
  refine ⟨⟨NS_wr (NS_wr h.1 (Or.inr rfl)) (Or.inl rfl), ?_, ?_, fun j hj => ?_⟩, Same.uI (Same.uI Same.rf (Or.inl (by omega))) (Or.inl (by omega))⟩
  · rw [mI_uI, if_pos ⟨rfl, rfl⟩]
  · rw [mI_uI, if_neg (by omega), mI_uI, if_pos ⟨rfl, rfl⟩]
  · rw [mI_uI, if_neg (by omega), mI_uI, if_neg (by omega)]
    have := h.2.2.2 j (by rw [List.length_append]; show j < _ + 1; omega)
    rw [gd_lt hj] at this
    exact this
theorem s_top {x : Int32} (h : TS B L p c i es d (S ++ [x]) m) (hS : S.length < 402) (k : Q (some (.int x)) m) : Cl X 0 mX12_top [.ref 535] m Q := by
  have e27 : mI m 535 27 = nI (S.length + 1) := by rw [h.2.2.1, List.length_append]; rfl
  have e1 : mI m 535 27 - (1 : Int32) = nI S.length := by rw [e27, nI_pred]
  refine pCl_of (by decide +kernel) (Nat.le_of_ble_eq_true rfl) rfl (bX12_top_0 h.1.1.1 (fun _ => by rw [e1]; exact vp_in_nI hS (by decide)) (fun _ => ?_) (fun z => ?_))
  · rw [e1, nI_clamp (by omega), h.2.2.2 S.length (by rw [List.length_append]; show _ < _ + 1; omega), gd_eq]; exact k
  · rw [e27] at z
    exact absurd z (nI_ne0 (by omega) (by omega))
theorem s_top0 (h : TS B L p c i es d [] m) (k : Q (some (.int (-1))) m) : Cl X 0 mX12_top [.ref 535] m Q := by
  have e27 : mI m 535 27 = 0 := h.2.2.1
  exact pCl_of (by decide +kernel) (Nat.le_of_ble_eq_true rfl) rfl (bX12_top_0 h.1.1.1 (fun z => absurd e27 z) (fun z => absurd e27 z) (fun _ => k))
theorem g_ans {k : Int32} (hk : k ≠ -1) (hS : nL k S) : ∀ j es (m : pMem), TS B L p c i es (d + (if k = 9 then j else 0)) (S ++ List.replicate j k) m → S.length + j ≤ 402 → es.length + j ≤ 300 → (∀ m2, TS B L p c i (es ++ List.replicate j (k, 0)) d S m2 → Nk i m m2 → Q none m2) → Go X 1 mX12_answers Q 0 [(0, .ref 535), (1, .int k)] [] m := by
  intro j
  induction j with
  | zero =>
    intro es m h hl _ kk
    rw [List.replicate_zero, List.append_nil] at h kk
    have h : TS B L p c i es d S m := by
      have e : d + (if k = 9 then 0 else 0) = d := by split <;> rfl
      rw [e] at h; exact h
    rcases snoc_cases S with e | ⟨T, x, e⟩
    · subst e
      exact bX12_answers_0 h.1.1.1 (s_top0 h (bX12_answers_4 h.1.1.1 (fun _ => kk m h Nk.rf) (fun z => absurd z.symm hk) (fun z => absurd z.symm hk)))
    · have hx := hS T x e
      subst e
      rw [List.length_append] at hl
      have hl : T.length + 1 + 0 ≤ 402 := hl
      exact bX12_answers_0 h.1.1.1 (s_top h (by omega) (bX12_answers_4 h.1.1.1 (fun _ => kk m h Nk.rf) (fun z => absurd z hx) (fun z => absurd z hx)))
  | succ j ih =>
    intro es m h hj he kk
    rw [List.replicate_succ', ← List.append_assoc] at h
    have hln : (S ++ List.replicate j k).length = S.length + j := by rw [List.length_append, List.length_replicate]
    refine bX12_answers_0 h.1.1.1 (s_top h (by omega) (bX12_answers_4 h.1.1.1 (fun z => absurd rfl z) (fun _ z => absurd (MS_f0 h.1.1) z) (fun _ _ => ?_)))
    refine s_entry (t := (k, 0)) h.1 (by omega) rfl rfl (fun m2 h2 T2 => ?_)
    have H2 := TS_vk T2 h2 h
    have e27 : mI m2 535 27 - (1 : Int32) = nI (S ++ List.replicate j k).length := by
      have : mI m2 535 27 = nI ((S ++ List.replicate j k).length + 1) := by rw [H2.2.2.1, List.length_append]; rfl
      rw [this, nI_pred]
    have go : ∀ d2, d2 = d + (if k = 9 then j else 0) → Go X 1 mX12_answers Q 0 [(0, .ref 535), (1, .int k)] [] (uI (uI m2 535 27 (nI (S ++ List.replicate j k).length)) 535 25 (nI d2)) := fun d2 ed => by
      have P := TS_pop d2 H2
      rw [ed] at P ⊢
      refine ih _ _ P.1 (by omega) (by rw [List.length_append]; show es.length + 1 + j ≤ 300; omega) (fun m3 h3 T3 => kk m3 ?_ (T2.nk.tr (P.2.tr T3)))
      rw [List.append_assoc] at h3
      exact h3
    refine bX12_answers_21 h2.1.1 (fun z => ?_) (fun z => ?_)
    · rw [e27, H2.2.1, if_neg z, show nI (d + 0) - (0 : Int32) = nI d from Int32.sub_zero _]
      exact go d (by rw [if_neg z]; rfl)
    · rw [e27, H2.2.1, if_pos z, show d + (j + 1) = (d + j) + 1 by omega, nI_pred]
      exact go (d + j) (by rw [if_pos z])
theorem s_ans {k : Int32} {j : Nat} (hk : k ≠ -1) (hS : nL k S) (h : TS B L p c i es (d + (if k = 9 then j else 0)) (S ++ List.replicate j k) m) (hj : S.length + j ≤ 402) (he : es.length + j ≤ 300) (kk : ∀ m2, TS B L p c i (es ++ List.replicate j (k, 0)) d S m2 → Nk i m m2 → Q none m2) : Cl X 1 mX12_answers [.ref 535, .int k] m Q :=
  pCl_of (by decide +kernel) (Nat.le_of_ble_eq_true rfl) rfl (g_ans hk hS j es m h hj he kk)
theorem s_opB {x : Int32} (h : TS B L p c i es d S m) (hx : x = 10 ∨ x = 11) (hS : S.length < 402) (k : ∀ m2, TS B L p c i es d (S ++ [x]) m2 → Nk i m m2 → Q none m2) : Cl X 1 mX12_opens [.ref 535, .int x] m Q := by
  have x9 : ¬ x = 9 := by rcases hx with z | z <;> (rw [z]; decide)
  have x12 : ¬ x = 12 := by rcases hx with z | z <;> (rw [z]; decide)
  have P := TS_push (x := x) h
  refine pCl_of (by decide +kernel) (Nat.le_of_ble_eq_true rfl) rfl (bX12_opens_0 h.1.1.1 (fun z => absurd z x9) (fun _ _ => bX12_opens_40 h.1.1.1 ?_ ?_) (fun _ z => absurd z x12))
  · rw [h.2.2.1]; exact vp_in_nI hS (by decide)
  · rw [h.2.2.1, nI_clamp (by omega), nI_1]
    exact k _ P.1 P.2
theorem s_opD {x : Int32} (h : TS B L p c i es d S m) (hp : p ≤ 400) (hx : x = 9 ∨ x = 12) (hS : S.length < 402) (hd : d ≤ 10) (k1 : d < 10 → ∀ m2, TS B L p c i es (d + 1) (S ++ [x]) m2 → Nk i m m2 → Q none m2) (k0 : 10 ≤ d → ∀ m2, MS B L p (3 + 8 * p) m2 → Nk i m m2 → Q none m2) : Cl X 1 mX12_opens [.ref 535, .int x] m Q := by
  have go12 : Go X 1 mX12_opens Q 12 [(0, .ref 535), (1, .int x)] [] m := by
    have e25 : mI m 535 25 = (10 : Int32) ↔ d = 10 := by rw [h.2.1]; exact nI_eq (b := 10) (by omega) (by decide)
    refine bX12_opens_12 h.1.1.1 (fun z => ?_) (fun z => ?_)
    · have z : d ≠ 10 := fun w => z (e25.mpr w)
      rw [h.2.1, nI_1]
      have H : TS B L p c i es (d + 1) S (uI m 535 25 (nI (d + 1))) := ⟨NS_wr h.1 (Or.inl rfl), by rw [mI_uI, if_pos ⟨rfl, rfl⟩], by rw [mI_uI, if_neg (by omega)]; exact h.2.2.1, fun j hj => by rw [mI_uI, if_neg (by omega)]; exact h.2.2.2 j hj⟩
      have P := TS_push (x := x) H
      refine bX12_opens_40 H.1.1.1 ?_ ?_
      · rw [H.2.2.1]; exact vp_in_nI hS (by decide)
      · rw [H.2.2.1, nI_clamp (by omega), nI_1]
        exact k1 (by omega) _ P.1 ((Same.uI Same.rf (Or.inl (by omega)) : Nk i m _).tr P.2)
    · have z := e25.mp z
      rw [h.1.1.2.2.1]
      refine s_fails (k := 2) h.1.1 (fun _ => by omega) (by decide) (fun m2 h2 t2 => bX12_opens_30 h2.1 ?_)
      rw [if_pos rfl] at h2
      have h3 := MS_wr2 (k := 25) (v := mI m2 535 25 + (1 : Int32)) h2 (by omega)
      have e27 : mI (uI m2 535 25 (mI m2 535 25 + (1 : Int32))) 535 27 = nI S.length := by rw [mI_uI, if_neg (by omega), t2.1 _ _ (by omega)]; exact h.2.2.1
      refine bX12_opens_40 h3.1 (by rw [e27]; exact vp_in_nI hS (by decide)) ?_
      refine k0 (by omega) _ (MS_wr2 (MS_wr (f := 3 + 8 * p) ?_ (by omega)) (by omega)) (Same.uI (Same.uI (Same.uI (t2.nk i) (Or.inl (by omega))) (Or.inr (Or.inr rfl))) (Or.inl (by omega)))
      rw [show 3 + 8 * p = 1 + 8 * p + 2 by omega]; exact h3
  rcases hx with rfl | rfl
  · exact pCl_of (by decide +kernel) (Nat.le_of_ble_eq_true rfl) rfl (bX12_opens_0 h.1.1.1 (fun _ => go12) (fun z => absurd rfl z) (fun z => absurd rfl z))
  · exact pCl_of (by decide +kernel) (Nat.le_of_ble_eq_true rfl) rfl (bX12_opens_0 h.1.1.1 (fun z => absurd z (by decide)) (fun _ z => absurd rfl z) (fun _ _ => go12))
theorem g9D {x1 : Int32} (h : MS B L p f m) (hf : f ≠ 0) (k : Q none m) : Go X 11 mX12_test Q 9 [(0, .ref 535), (1, .int x1), (2, .int (1 : Int32))] [] m :=
  bX12_test_9 h.1 (fun z => absurd z (by decide)) (fun _ _ => k) (fun _ z => absurd z (MS_f1 h hf)) (fun _ z => absurd z (MS_f1 h hf))
end T53
section T54
variable {X : pX} {B : Nat → Nat} {L i : Nat}
def wB (b : Nat) : Int32 := if b = 0 then 0 else 11
def QF (X : pX) (B : Nat → Nat) (L i e : Nat) : Prop := ∀ d p c es S (m : pMem) (Q : Option Value → pMem → Prop), 3 * (L - p) + 2 ≤ e → d ≤ 10 → p ≤ L → S.length ≤ p → TS B L p c i es d S m → c ≤ 60 → 3 * es.length ≤ 14 * c + 45 →
  (∀ p1 c1 us j, FT B L e 0 d p c 0 = .inr (p1, c1, us ++ List.replicate j (9, 0)) → d + j ≤ 10 → S.length + j ≤ p1 → ∀ m2, TS B L p1 c1 i (es ++ us) (d + j) (S ++ List.replicate j 9) m2 → Nk i m m2 → Go X 11 mX12_test Q 9 [(0, .ref 535), (1, .int (0 : Int32)), (2, .int (1 : Int32))] [] m2) →
  (∀ f, FT B L e 0 d p c 0 = .inl f → 0 < f → ∀ m2 q, MS B L q f m2 → q ≤ 700 → Nk i m m2 → Q none m2) → Go X 11 mX12_test Q 9 [(0, .ref 535), (1, .int (1 : Int32)), (2, .int (1 : Int32))] [] m
def QT (X : pX) (B : Nat → Nat) (L i e : Nat) : Prop := ∀ d p c es S (m : pMem) (Q : Option Value → pMem → Prop), 3 * (L - p) + 3 ≤ e → d ≤ 10 → p ≤ L → S.length ≤ p → nL 9 S → nL 10 S → nL 11 S → TS B L p c i es d S m → c ≤ 60 → 3 * es.length ≤ 14 * c + 45 →
  (∀ p1 c1 ts, FT B L e 1 d p c 0 = .inr (p1, c1, ts) → sk B L p1 = p1 → ∀ m2 x3 x4, TS B L p1 c1 i (es ++ ts) d S m2 → Nk i m m2 → Go X 11 mX12_test Q 136 [(0, .ref 535), (1, .int (0 : Int32)), (2, .int (1 : Int32)), (3, .int x3), (4, .int x4)] [] m2) →
  (∀ f, FT B L e 1 d p c 0 = .inl f → 0 < f → ∀ m2 q, MS B L q f m2 → q ≤ 700 → Nk i m m2 → Q none m2) → Go X 11 mX12_test Q 9 [(0, .ref 535), (1, .int (1 : Int32)), (2, .int (1 : Int32))] [] m
def QR (X : pX) (B : Nat → Nat) (L i e : Nat) : Prop := ∀ d p c es S b a j (m : pMem) (Q : Option Value → pMem → Prop), 3 * (L - p) + 1 ≤ e → d + j ≤ 10 → p ≤ L → S.length + 1 ≤ p → nL 9 S → nL 10 S → nL 11 S → b ≤ 1 → a ≤ 1 → S.length + b + a + j ≤ p → TS B L p c i es (d + j) (S ++ List.replicate b 11 ++ List.replicate a 10 ++ List.replicate j 9) m → c ≤ 60 → 3 * (es.length + j + a + b) ≤ 14 * c + 45 →
  (∀ p1 c1 ts, FT B L e 2 d p c (wB b) = .inr (p1, c1, ts) → sk B L p1 = p1 → ∀ m2 x3 x4, TS B L p1 c1 i (es ++ List.replicate j (9, 0) ++ List.replicate a (10, 0) ++ ts) d S m2 → Nk i m m2 → Go X 11 mX12_test Q 136 [(0, .ref 535), (1, .int (0 : Int32)), (2, .int (1 : Int32)), (3, .int x3), (4, .int x4)] [] m2) →
  (∀ f, FT B L e 2 d p c (wB b) = .inl f → 0 < f → ∀ m2 q, MS B L q f m2 → q ≤ 700 → Nk i m m2 → Q none m2) → Go X 11 mX12_test Q 9 [(0, .ref 535), (1, .int (0 : Int32)), (2, .int (1 : Int32))] [] m
theorem mFT_0 {e : Nat} (hf : QF X B L i e) (ht : QT X B L i e) : QF X B L i (e + 1) := by
  intro d p c es S m Q hfu hd hp hSl h hc hu k1 k0
  have hL := h.1.1.2.1.1
  have hs := sk_b (B := B) hp
  obtain ⟨z2, z3, z4, z5, z6⟩ := len_s
  rw [FT_0] at k1 k0
  refine bX12_test_9 h.1.1.1 (fun z => absurd z (by decide)) (fun _ z => absurd (MS_f0 h.1.1) z) (fun _ _ z => absurd z (by decide)) (fun _ _ _ => ?_)
  refine pCl_of (by decide +kernel) (Nat.le_of_ble_eq_true rfl) rfl (bX12_fact_0 h.1.1.1 (s_blanks h.1.1 (fun m2 h2 t2 => bX12_fact_4 h2.1 ?_)))
  have H2 := TS_mk t2 h2 h
  refine s_stood (k := 20) h2 (by decide) (fun w => ?_) (fun w => ?_)
  · have w := wd_same.1.mp w
    have hb := wd_b w
    rw [if_pos w] at k1 k0
    refine bX12_fact_10 h2.1 (fun z => absurd z (by decide)) (fun _ => s_opD H2 (by omega) (Or.inl rfl) (by omega) hd (fun y m3 h3 T3 => bX12_fact_19 h3.1.1.1 ?_) (fun y m3 h3 T3 => bX12_fact_19 h3.1 ?_))
    · rw [if_neg (by omega)] at k1 k0
      rw [h3.1.1.2.2.1, show (3 : Int32) = nI 3 from rfl, nI_add]
      have a := MS_at (q := sk B L p + 3) h3.1.1 (by omega)
      have Ha := TS_mk a.2 a.1 h3
      refine bX12_test_28 a.1.1 (fun z => absurd rfl z) (fun _ => ?_)
      refine hf (d + 1) (sk B L p + 3) c es (S ++ [9]) _ Q (by omega) (by omega) (by omega) (by rw [List.length_append]; show S.length + 1 ≤ _; omega) Ha hc hu (fun p1 c1 us j ef hj hjl m4 h4 T4 => ?_) (fun f ef hf0 m4 q h4 hq T4 => ?_)
      · rw [ef, bnd_inr] at k1
        have er : us ++ List.replicate j (9, 0) ++ [(9, 0)] = us ++ List.replicate (j + 1) ((9, 0) : Tok) := by rw [List.replicate_succ', List.append_assoc]
        refine k1 p1 c1 us (j + 1) (by rw [er]) (by omega) (by rw [List.length_append] at hjl; have hjl : S.length + 1 + j ≤ p1 := hjl; omega) m4 ?_ ((t2.nk i).tr (T3.tr ((a.2.nk i).tr T4)))
        rw [List.append_assoc, show d + 1 + j = d + (j + 1) by omega] at h4
        exact h4
      · rw [ef, bnd_inl] at k0
        exact k0 f rfl hf0 m4 q h4 hq ((t2.nk i).tr (T3.tr ((a.2.nk i).tr T4)))
    · rw [if_pos y] at k0
      rw [h3.2.2.1, show (3 : Int32) = nI 3 from rfl, nI_add]
      have a := MS_at (q := sk B L p + 3) h3 (by omega)
      exact bX12_test_28 a.1.1 (fun z => absurd rfl z) (fun _ => g9D a.1 (by omega) (k0 _ rfl (by omega) _ _ a.1 (by omega) ((t2.nk i).tr (T3.tr (a.2.nk i)))))
  · have w : ¬ WDi B L (sk B L p) 6 := fun z => w (wd_same.1.mpr z)
    rw [if_neg w] at k1 k0
    refine bX12_fact_10 h2.1 (fun _ => s_sign h2 (bX12_fact_35 h2.1 (fun y => ?_) (fun y => ?_))) (fun z => absurd rfl z)
    · rw [if_neg y] at k1 k0
      refine s_mCmp H2.1 hs.2 hc hu (fun p1 c1 ts e1 m3 h3 T3 => bX12_fact_62 h3.1.1 (bX12_test_28 h3.1.1 (fun _ => ?_) (fun z => absurd z (by decide)))) (fun f e1 hf0 m3 q h3 hq T3 => bX12_fact_62 h3.1 (bX12_test_28 h3.1 (fun _ => ?_) (fun z => absurd z (by decide))))
      · rw [cm_sk] at e1
        have co := cm_ok hp hd e1
        refine k1 p1 c1 ts 0 (by rw [List.replicate_zero, List.append_nil]; exact e1) (by omega) (by have := co.1; omega) m3 ?_ ((t2.nk i).tr T3.nk)
        rw [List.replicate_zero, List.append_nil]
        exact TS_vk T3 h3 H2
      · rw [cm_sk] at e1
        exact g9D h3 (by omega) (k0 f e1 hf0 m3 q h3 (by omega) ((t2.nk i).tr T3.nk))
    · rw [if_pos y] at k1 k0
      have hlt := ch_lt y (by decide)
      refine s_opD H2 (by omega) (Or.inr rfl) (by omega) hd (fun y m3 h3 T3 => bX12_fact_46 h3.1.1.1 ?_) (fun y m3 h3 T3 => bX12_fact_46 h3.1 ?_)
      · rw [if_neg (by omega)] at k1 k0
        rw [h3.1.1.2.2.1, nI_1]
        have a := MS_at (q := sk B L p + 1) h3.1.1 (by omega)
        have Ha := TS_mk a.2 a.1 h3
        refine bX12_test_28 a.1.1 (fun z => absurd rfl z) (fun _ => ?_)
        have n12 : ∀ k : Int32, (12 : Int32) ≠ k → nL k (S ++ [12]) := fun k hk T x ex => by rw [← (snoc_inj ex).2]; exact hk
        refine ht (d + 1) (sk B L p + 1) c es (S ++ [12]) _ Q (by omega) (by omega) (by omega) (by rw [List.length_append]; show S.length + 1 ≤ _; omega) (n12 9 (by decide)) (n12 10 (by decide)) (n12 11 (by decide)) Ha hc hu (fun p1 c1 ts ef hsk m4 x3 x4 h4 T4 => ?_) (fun f ef hf0 m4 q h4 hq T4 => ?_)
        · rw [ef, bnd_inr, hsk] at k1 k0
          have T4' := (t2.nk i).tr (T3.tr ((a.2.nk i).tr T4))
          obtain ⟨f1, f2, f3, f4, f5, f6, f7⟩ := (FT_ok e).2.1 _ _ _ _ _ _ (by omega) (by omega) ef
          refine bX12_test_136 h4.1.1.1 (s_top h4 (by omega) (bX12_test_140 h4.1.1.1 (fun z => absurd rfl z) (fun _ => s_sign h4.1.1 (bX12_test_149 h4.1.1.1 (fun z => ?_) (fun z => ?_)))))
          · rw [if_pos z] at k1
            have e27 : mI m4 535 27 - (1 : Int32) = nI S.length := by
              have : mI m4 535 27 = nI (S.length + 1) := by rw [h4.2.2.1, List.length_append]; rfl
              rw [this, nI_pred]
            have hlt2 := ch_lt z (by decide)
            refine bX12_test_163 h4.1.1.1 ?_
            rw [h4.1.1.2.2.1, nI_1, e27, h4.2.1, nI_pred]
            have b := MS_at (q := p1 + 1) h4.1.1 (by omega)
            have Hb := TS_mk b.2 b.1 h4
            have P := TS_pop d Hb
            refine k1 (p1 + 1) c1 ts 0 (by rw [List.replicate_zero, List.append_nil]) (by omega) (by omega) _ ?_ (T4'.tr ((b.2.nk i).tr P.2))
            rw [List.replicate_zero, List.append_nil]
            exact P.1
          · rw [if_neg z] at k0
            rw [h4.1.1.2.2.1]
            refine s_fails (k := 0) h4.1.1 (fun _ => by omega) (by decide) (fun m5 h5 t5 => bX12_test_163v1 h5.1 ?_)
            rw [if_pos rfl] at h5
            rw [h5.2.2.1, nI_1]
            have b := MS_at (q := p1 + 1) h5 (by omega)
            have h6 := MS_wr2 (k := 25) (v := mI m5 535 25 - (1 : Int32)) (MS_wr2 (k := 27) (v := mI m5 535 27 - (1 : Int32)) b.1 (by omega)) (by omega)
            exact g9D h6 (by omega) (k0 _ rfl (by omega) _ _ h6 (by omega) (T4'.tr ((t5.nk i).tr (Same.uI (Same.uI (b.2.nk i) (Or.inl (by omega))) (Or.inl (by omega))))))
        · rw [ef, bnd_inl] at k0
          exact k0 f rfl hf0 m4 q h4 hq ((t2.nk i).tr (T3.tr ((a.2.nk i).tr T4)))
      · rw [if_pos y] at k0
        rw [h3.2.2.1, nI_1]
        have a := MS_at (q := sk B L p + 1) h3 (by omega)
        exact bX12_test_28 a.1.1 (fun z => absurd rfl z) (fun _ => g9D a.1 (by omega) (k0 _ rfl (by omega) _ _ a.1 (by omega) ((t2.nk i).tr (T3.tr (a.2.nk i)))))
theorem mFT_1 {e : Nat} (hf : QF X B L i e) (hr : QR X B L i e) : QT X B L i (e + 1) := by
  intro d p c es S m Q hfu hd hp hSl n9 n10 n11 h hc hu k1 k0
  rw [FT_1] at k1 k0
  refine hf d p c es S m Q (by omega) hd hp hSl h hc hu (fun p2 c2 us j ef hj hjl m2 h2 T2 => ?_) (fun f ef hf0 m2 q h2 hq T2 => ?_)
  · rw [ef, bnd_inr] at k1 k0
    obtain ⟨f1, f2, f3, f4, f5, f6, f7⟩ := (FT_ok e).1 _ _ _ _ _ _ hp hd ef
    rw [List.length_append, List.length_replicate] at f6
    refine hr d p2 c2 (es ++ us) S 0 0 j m2 Q (by omega) hj f2 (by omega) n9 n10 n11 (by omega) (by omega) (by omega) (by rw [List.replicate_zero, List.append_nil, List.replicate_zero, List.append_nil]; exact h2) f4 (by rw [List.length_append]; omega) (fun p3 c3 ts e3 hsk m3 x3 x4 h3 T3 => ?_) (fun f e3 hf0 m3 q h3 hq T3 => ?_)
    · have e3 : FT B L e 2 d p2 c2 0 = .inr (p3, c3, ts) := e3
      rw [e3] at k1
      refine k1 p3 c3 _ rfl hsk m3 x3 x4 ?_ (T2.tr T3)
      rw [List.replicate_zero, List.append_nil] at h3
      simp only [← List.append_assoc] at h3 ⊢
      exact h3
    · have e3 : FT B L e 2 d p2 c2 0 = .inl f := e3
      rw [e3] at k0
      exact k0 f rfl hf0 m3 q h3 hq (T2.tr T3)
  · rw [ef, bnd_inl] at k0
    exact k0 f rfl hf0 m2 q h2 hq T2
theorem pend_wB {b : Nat} (hb : b ≤ 1) : pend (wB b) = List.replicate b (11, 0) := by
  have hh : b = 0 ∨ b = 1 := by omega
  rcases hh with rfl | rfl
  · rfl
  · rfl
theorem mFT_2 {e : Nat} (hf : QF X B L i e) (hr : QR X B L i e) : QR X B L i (e + 1) := by
  intro d p c es S b a j m Q hfu hdj hp hSl n9 n10 n11 hb ha hst h hc hu k1 k0
  have hL := h.1.1.2.1.1
  have hs := sk_b (B := B) hp
  obtain ⟨z2, z3, z4, z5, z6⟩ := len_s
  rw [FT_2] at k1 k0
  have l1 : (S ++ List.replicate b (11 : Int32)).length = S.length + b := by rw [List.length_append, List.length_replicate]
  have l2 : (S ++ List.replicate b (11 : Int32) ++ List.replicate a (10 : Int32)).length = S.length + b + a := by rw [List.length_append, List.length_replicate, l1]
  have nl9 : nL 9 (S ++ List.replicate b (11 : Int32) ++ List.replicate a (10 : Int32)) := nL_rep (nL_rep n9 (by decide) b) (by decide) a
  have nl10 : nL 10 (S ++ List.replicate b (11 : Int32)) := nL_rep n10 (by decide) b
  refine bX12_test_9 h.1.1.1 (fun z => absurd z (by decide)) (fun _ z => absurd (MS_f0 h.1.1) z) (fun _ _ _ => ?_) (fun _ _ z => absurd rfl z)
  refine s_ans (k := 9) (j := j) (d := d) (by decide) nl9 (by rw [if_pos rfl]; exact h) (by omega) (by omega) (fun m2 h2 T2 => bX12_test_46 h2.1.1.1 (s_blanks h2.1.1 (fun m3 h3 t3 => bX12_test_50 h3.1 ?_)))
  have H3 := TS_mk t3 h3 h2
  have T3 := T2.tr (t3.nk i)
  -- what follows the two questions
  have body : ∀ x3 x4 : Int32, (x3 = 1 ∧ WDi B L (sk B L p) 4 ∧ x4 = 0) ∨ (x3 = 0 ∧ ¬ WDi B L (sk B L p) 4 ∧ x4 = 1 ∧ WDi B L (sk B L p) 5) ∨ (x3 = 0 ∧ ¬ WDi B L (sk B L p) 4 ∧ x4 = 0 ∧ ¬ WDi B L (sk B L p) 5) → Go X 11 mX12_test Q 64 [(0, .ref 535), (1, .int (0 : Int32)), (2, .int (1 : Int32)), (3, .int x3)] [.int x4] m3 := by
    intro x3 x4 hx
    refine bX12_test_64 h3.1 (s_ans (k := 10) (j := a) (d := d) (by decide) nl10 (by rw [if_neg (by decide)]; exact H3) (by omega) (by rw [List.length_append, List.length_replicate]; omega) (fun m4 h4 T4 => ?_))
    have T4' := T3.tr T4
    have l4 : (es ++ List.replicate j ((9, 0) : Tok) ++ List.replicate a ((10, 0) : Tok)).length = es.length + j + a := by rw [List.length_append, List.length_append, List.length_replicate, List.length_replicate]
    rcases hx with ⟨rfl, w4, rfl⟩ | ⟨rfl, w4, rfl, w5⟩ | ⟨rfl, w4, rfl, w5⟩
    · rw [if_pos w4] at k1 k0
      have hbb := wd_b w4
      refine bX12_test_72 h4.1.1.1 (fun _ => bX12_test_81 h4.1.1.1 (fun _ => bX12_test_92 h4.1.1.1 (fun z => absurd z (by decide)) (fun _ => s_opB h4 (Or.inl rfl) (by omega) (fun m5 h5 T5 => bX12_test_107 h5.1.1.1 (fun z => absurd z (by decide)) (fun _ => ?_)))) (fun z => absurd rfl z)) (fun z => absurd z (by decide)) (fun z => absurd z (by decide))
      rw [h5.1.1.2.2.1, show (3 : Int32) = nI 3 from rfl, nI_add]
      have q := MS_at (q := sk B L p + 3) h5.1.1 (by omega)
      have Hq := TS_mk q.2 q.1 h5
      have T5' := T4'.tr (T5.tr (q.2.nk i))
      refine hf d (sk B L p + 3) c _ _ _ Q (by omega) (by omega) (by omega) (by rw [List.length_append, l1]; show S.length + b + 1 ≤ _; omega) Hq hc (by rw [l4]; omega) (fun p6 c6 us j6 ef hj6 hjl m6 h6 T6 => ?_) (fun f ef hf0 m6 q6 h6 hq6 T6 => ?_)
      · rw [ef, bnd_inr] at k1 k0
        obtain ⟨f1, f2, f3, f4, f5, f6, f7⟩ := (FT_ok e).1 _ _ _ _ _ _ (by omega) (by omega) ef
        rw [List.length_append, List.length_replicate] at f6
        refine hr d p6 c6 _ S b 1 j6 m6 Q (by omega) hj6 f2 (by omega) n9 n10 n11 hb (by omega) (by rw [List.length_append, l1] at hjl; have hjl : S.length + b + 1 + j6 ≤ p6 := hjl; omega) h6 f4 (by rw [List.length_append, l4]; omega) (fun p7 c7 ts e7 hsk m7 x3 x4 h7 T7 => ?_) (fun f e7 hf0 m7 q7 h7 hq7 T7 => ?_)
        · rw [e7] at k1
          refine k1 p7 c7 _ rfl hsk m7 x3 x4 ?_ (T5'.tr (T6.tr T7))
          simp only [← List.append_assoc] at h7 ⊢
          exact h7
        · rw [e7] at k0
          exact k0 f rfl hf0 m7 q7 h7 hq7 (T5'.tr (T6.tr T7))
      · rw [ef, bnd_inl] at k0
        exact k0 f rfl hf0 m6 q6 h6 hq6 (T5'.tr T6)
    · rw [if_neg w4, if_pos w5] at k1 k0
      have hbb := wd_b w5
      refine bX12_test_72 h4.1.1.1 (fun z => absurd rfl z) (fun _ z => absurd z (by decide)) (fun _ _ => bX12_test_81 h4.1.1.1 (fun z => absurd z (by decide)) (fun _ => s_ans (k := 11) (j := b) (d := d) (by decide) n11 (by rw [if_neg (by decide)]; exact h4) (by omega) (by rw [l4]; omega) (fun m5 h5 T5 => bX12_test_92v1 h5.1.1.1 (fun _ => s_opB h5 (Or.inr rfl) (by omega) (fun m6 h6 T6 => bX12_test_107v1 h6.1.1.1 (fun _ => ?_) (fun z => absurd rfl z))) (fun z => absurd rfl z))))
      rw [h6.1.1.2.2.1, show (2 : Int32) = nI 2 from rfl, nI_add]
      have q := MS_at (q := sk B L p + 2) h6.1.1 (by omega)
      have Hq := TS_mk q.2 q.1 h6
      have T6' := T4'.tr (T5.tr (T6.tr (q.2.nk i)))
      have l5 : (es ++ List.replicate j ((9, 0) : Tok) ++ List.replicate a ((10, 0) : Tok) ++ List.replicate b ((11, 0) : Tok)).length = es.length + j + a + b := by rw [List.length_append, l4, List.length_replicate]
      refine hf d (sk B L p + 2) c _ _ _ Q (by omega) (by omega) (by omega) (by rw [List.length_append]; show S.length + 1 ≤ _; omega) Hq hc (by rw [l5]; omega) (fun p7 c7 us j7 ef hj7 hjl m7 h7 T7 => ?_) (fun f ef hf0 m7 q7 h7 hq7 T7 => ?_)
      · rw [ef, bnd_inr, pend_wB hb] at k1
        rw [ef, bnd_inr] at k0
        obtain ⟨f1, f2, f3, f4, f5, f6, f7⟩ := (FT_ok e).1 _ _ _ _ _ _ (by omega) (by omega) ef
        rw [List.length_append, List.length_replicate] at f6
        refine hr d p7 c7 _ S 1 0 j7 m7 Q (by omega) hj7 f2 (by omega) n9 n10 n11 (by omega) (by omega) (by rw [List.length_append] at hjl; have hjl : S.length + 1 + j7 ≤ p7 := hjl; omega) (by rw [show List.replicate 0 (10 : Int32) = [] from rfl, List.append_nil]; exact h7) f4 (by rw [List.length_append, l5]; omega) (fun p8 c8 ts e8 hsk m8 x3 x4 h8 T8 => ?_) (fun f e8 hf0 m8 q8 h8 hq8 T8 => ?_)
        · have e8 : FT B L e 2 d p7 c7 11 = .inr (p8, c8, ts) := e8
          rw [e8] at k1
          refine k1 p8 c8 _ rfl hsk m8 x3 x4 ?_ (T6'.tr (T7.tr T8))
          rw [show List.replicate 0 ((10, 0) : Tok) = [] from rfl, List.append_nil] at h8
          simp only [← List.append_assoc] at h8 ⊢
          exact h8
        · have e8 : FT B L e 2 d p7 c7 11 = .inl f := e8
          rw [e8] at k0
          exact k0 f rfl hf0 m8 q8 h8 hq8 (T6'.tr (T7.tr T8))
      · rw [ef, bnd_inl] at k0
        exact k0 f rfl hf0 m7 q7 h7 hq7 (T6'.tr T7)
    · rw [if_neg w4, if_neg w5, pend_wB hb] at k1
      refine bX12_test_72 h4.1.1.1 (fun z => absurd rfl z) (fun _ _ => s_ans (k := 11) (j := b) (d := d) (by decide) n11 (by rw [if_neg (by decide)]; exact h4) (by omega) (by rw [l4]; omega) (fun m5 h5 T5 => ?_)) (fun _ z => absurd rfl z)
      exact k1 _ _ _ rfl (sk_sk B L p) m5 _ _ h5 (T4'.tr T5)
  refine s_stood (k := 21) h3 (by decide) (fun w4 => bX12_test_56 h3.1 (s_stood (k := 22) h3 (by decide) (fun w5 => ?_) (fun w5 => ?_))) (fun w4 => bX12_test_56 h3.1 (s_stood (k := 22) h3 (by decide) (fun w5 => ?_) (fun w5 => ?_)))
  · exact absurd (wd_same.2.2.1.mp w5) (and_or (wd_same.2.1.mp w4))
  · exact body 1 0 (Or.inl ⟨rfl, wd_same.2.1.mp w4, rfl⟩)
  · exact body 0 1 (Or.inr (Or.inl ⟨rfl, fun z => w4 (wd_same.2.1.mpr z), rfl, wd_same.2.2.1.mp w5⟩))
  · exact body 0 0 (Or.inr (Or.inr ⟨rfl, fun z => w4 (wd_same.2.1.mpr z), rfl, fun z => w5 (wd_same.2.2.1.mpr z)⟩))
theorem mFT : ∀ e, QF X B L i e ∧ QT X B L i e ∧ QR X B L i e := by
  intro e
  induction e with
  | zero => exact ⟨fun d p c es S m Q h => by omega, fun d p c es S m Q h => by omega, fun d p c es S b a j m Q h => by omega⟩
  | succ e ih => exact ⟨mFT_0 ih.1 ih.2.1, mFT_1 ih.1 ih.2.2, mFT_2 ih.1 ih.2.2⟩
theorem nL_nil {k : Int32} : nL k [] := fun T x e => by
  have := congrArg List.length e
  rw [List.length_append] at this
  cases this
theorem s_mTest {Q : Option Value → pMem → Prop} {m : pMem} {p c : Nat} {es : List Tok} (h : NS B L p c i es m) (hd : mI m 535 25 = 0) (hp : p ≤ L) (hc : c ≤ 60) (hu : 3 * es.length ≤ 14 * c + 45) (k1 : ∀ p1 c1 ts, tsF B L p c = .inr (p1, c1, ts) → ∀ m2, NS B L p1 c1 i (es ++ ts) m2 → mI m2 535 25 = 0 → Nk i m m2 → Q none m2) (k0 : ∀ f, tsF B L p c = .inl f → 0 < f → ∀ m2 q, MS B L q f m2 → q ≤ 700 → Nk i m m2 → Q none m2) : Cl X 11 mX12_test [.ref 535] m Q := by
  have H : TS B L p c i es 0 [] (uI m 535 27 (0 : Int32)) := ⟨NS_wr h (Or.inr rfl), by rw [mI_uI, if_neg (by omega)]; exact hd, by rw [mI_uI, if_pos ⟨rfl, rfl⟩]; rfl, fun j hj => absurd hj (Nat.not_lt_zero _)⟩
  have T0 : Nk i m (uI m 535 27 (0 : Int32)) := Same.uI Same.rf (Or.inl (by omega))
  refine pCl_of (by decide +kernel) (Nat.le_of_ble_eq_true rfl) rfl (bX12_test_0 h.1.1 ?_)
  refine (mFT (3 * L + 3)).2.1 0 p c es [] _ Q (by omega) (by omega) hp (Nat.zero_le _) nL_nil nL_nil nL_nil H hc hu (fun p1 c1 ts e1 hsk m2 x3 x4 h2 T2 => ?_) (fun f e1 hf m2 q h2 hq T2 => k0 f e1 hf m2 q h2 hq (T0.tr T2))
  exact bX12_test_136 h2.1.1.1 (s_top0 h2 (bX12_test_140 h2.1.1.1 (fun _ => bX12_test_9 h2.1.1.1 (fun _ => k1 p1 c1 ts e1 m2 h2.1 h2.2.1 (T0.tr T2)) (fun z => absurd rfl z) (fun z => absurd rfl z) (fun z => absurd rfl z)) (fun z => absurd z (by decide))))
end T54
