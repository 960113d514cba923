/-! ===== the model: what a rule says; a day ===== -/
/-- nothing but the model's stack has changed -/
def SamS (m m2 : pMem) : Prop := (∀ a k, mI m2 a k = mI m a k) ∧ (∀ a k, mR m2 a k = mR m a k) ∧ ∀ a k, a ≠ 563 → mL m2 a k = mL m a k
theorem SamS.rf {m : pMem} : SamS m m := ⟨fun _ _ => rfl, fun _ _ => rfl, fun _ _ _ => rfl⟩
theorem SamS.tr {m m2 m3 : pMem} (h : SamS m m2) (h2 : SamS m2 m3) : SamS m m3 := ⟨fun a k => (h2.1 a k).trans (h.1 a k), fun a k => (h2.2.1 a k).trans (h.2.1 a k), fun a k z => (h2.2.2 a k z).trans (h.2.2 a k z)⟩
theorem SamS.uL {m m2 : pMem} {k : Nat} {v : Int64} (h : SamS m m2) : SamS m (uL m2 563 k v) := ⟨h.1, h.2.1, fun a k2 z => by rw [mL_uL, if_neg (fun q => z q.1)]; exact h.2.2 a k2 z⟩
theorem SamS.row {m m2 : pMem} (h : SamS m m2) (a : Nat) : mI m2 a = mI m a := funext fun k => h.1 a k
/-- the model's stack -/
def StM (m : pMem) (s : List Int64) : Prop := ∀ j, j < s.length → mL m 563 j = s.getD (s.length - 1 - j) 0
theorem StM_push {m : pMem} {s : List Int64} {v : Int64} (h : StM m s) : StM (uL m 563 s.length v) (v :: s) := by
  intro j hj
  have hj : j < s.length + 1 := hj
  rw [mL_uL]
  by_cases e : j = s.length
  · rw [if_pos ⟨rfl, e⟩, e]; simp
  · rw [if_neg (fun q => e q.2), h j (by omega), List.length_cons, show s.length + 1 - 1 - j = (s.length - 1 - j) + 1 by omega]; simp
theorem StM_pop {m : pMem} {s : List Int64} {v : Int64} (h : StM m (v :: s)) : StM m s ∧ mL m 563 s.length = v := by
  refine ⟨fun j hj => ?_, ?_⟩
  · rw [h j (by simp; omega), List.length_cons, show s.length + 1 - 1 - j = (s.length - 1 - j) + 1 by omega]; simp
  · rw [h s.length (by simp), List.length_cons]; simp
/-- words as longs -/
def AskM (m : pMem) (w : Row) : Prop := ∀ j, j < 12 → mL m 562 j = (w j).toInt64
theorem nI_mul (a b : Nat) : nI a * nI b = nI (a * b) := by
  unfold nI
  exact (Int32.ofNat_mul a b).symm
section S11
variable {X : pX} {Q : Option Value → pMem → Prop} {m : pMem}
theorem s_answer {i a e : Nat} {w : Row} {b : List Bool} (hW : Wf m) (hi : i < 6) (hae : a ≤ e) (he : e ≤ 300) (hw : AskM m w) (ht : TyL (seg (mI m 555) (mI m 556) (300 * i + a) (e - a)) [] b) (hb : b.length = 1)
    (h : ∀ m2, SamS m m2 → Q (some (.long ((evT w (seg (mI m 555) (mI m 556) (300 * i + a) (e - a)) []).headD 0))) m2) : Cl X 2 mX12_answer [.ref 535, .int (nI i), .int (nI a), .int (nI e)] m Q := by
  have key : ∀ n k s (c : List Bool) m1, k + n = e → a ≤ k → SamS m m1 → StM m1 s → VOk c s → s.length ≤ k → TyL (seg (mI m 555) (mI m 556) (300 * i + k) n) c b → evT w (seg (mI m 555) (mI m 556) (300 * i + k) n) s = evT w (seg (mI m 555) (mI m 556) (300 * i + a) (e - a)) [] →
      Go X 2 mX12_answer Q 6 [(0, .ref 535), (1, .int (nI i)), (3, .int (nI e)), (4, .int (nI s.length)), (5, .int (nI k))] [] m1 := by
    intro n
    induction n with
    | zero =>
      intro k s c m1 hk _ hm hs hc _ hty hev
      have hk : k = e := hk
      subst hk
      have hty : c = b := hty
      have hev : s = _ := hev
      have hl := VOk_len hc
      rw [hty, hb] at hl
      have key2 : mL m1 563 0 = s.headD 0 := by
        rw [hs 0 (by omega), ← hl]
        cases s <;> rfl
      have := h m1 hm
      rw [← hev, ← key2] at this
      exact bX12_answer_6 (hW.sm hm.2.1) (fun _ => this) (fun z => absurd (Int32.le_refl _) z) (fun z => absurd (Int32.le_refl _) z) (fun z => absurd (Int32.le_refl _) z) (fun z => absurd (Int32.le_refl _) z) (fun z => absurd (Int32.le_refl _) z) (fun z => absurd (Int32.le_refl _) z) (fun z => absurd (Int32.le_refl _) z) (fun z => absurd (Int32.le_refl _) z)
    | succ n ih =>
      intro k s c m1 hk hak hm hs hc hsl hty hev
      have hW1 := hW.sm hm.2.1
      have hlt : ¬ nI e ≤ nI k := nI_ge (by omega) (by omega)
      have e5 : ((300 : Int32) * nI i) + nI k = nI (300 * i + k) := by
        rw [show (300 : Int32) = nI 300 from rfl, nI_mul, nI_add]
      have c5 : (nI (300 * i + k)).toNatClampNeg = 300 * i + k := nI_clamp (by omega)
      have g5 : mI m1 555 = mI m 555 := hm.row 555
      have g6 : mI m1 556 = mI m 556 := hm.row 556
      obtain ⟨d, ht1, ht2⟩ := hty
      have hev2 : evT w (seg (mI m 555) (mI m 556) (300 * i + (k + 1)) n) (stepM w (mI m 555 (300 * i + k), mI m 556 (300 * i + k)) s) = evT w (seg (mI m 555) (mI m 556) (300 * i + a) (e - a)) [] := hev
      have ht2 : TyL (seg (mI m 555) (mI m 556) (300 * i + (k + 1)) n) d b := ht2
      have hd := stepM_ok (w := w) ht1 hc
      have l1 := VOk_len hc
      have l2 := VOk_len hd
      have nx := ih (k + 1) (stepM w (mI m 555 (300 * i + k), mI m 556 (300 * i + k)) s) d
      generalize ex : mI m 555 (300 * i + k) = x at *
      generalize ey : mI m 556 (300 * i + k) = y at *
      have ex1 : mI m1 555 (300 * i + k) = x := by rw [g5]; exact ex
      have ey1 : mI m1 556 (300 * i + k) = y := by rw [g6]; exact ey
      -- an entry of two
      have twoC : ((x = 10 ∨ x = 11) ∨ isAr x ∨ isCm x) → (∃ v u r, s = v :: u :: r) → Go X 2 mX12_answer Q 6 [(0, .ref 535), (1, .int (nI i)), (3, .int (nI e)), (4, .int (nI s.length)), (5, .int (nI k))] [] m1 := by
        intro hk3 ⟨v, u, r, er⟩
        subst er
        have hn := Tok_ne hk3
        obtain ⟨p1, p2⟩ := StM_pop hs
        obtain ⟨p3, p4⟩ := StM_pop p1
        have hsl : r.length + 1 + 1 ≤ k := hsl
        have f1 : nI (v :: u :: r).length + (-1 : Int32) = nI (u :: r).length := by
          show nI (r.length + 1 + 1) + (-1 : Int32) = nI (r.length + 1)
          rw [← nI_pred (r.length + 1), Int32.sub_eq_add_neg]
        have f2 : nI (u :: r).length - (1 : Int32) = nI r.length := nI_pred r.length
        refine bX12_answer_6 hW1 (fun z => absurd z hlt) ?_ ?_ ?_ ?_ ?_ ?_ ?_ ?_
        · intro _; rw [e5]; exact vp_in_nI (by omega) (by decide)
        · rw [e5, c5, ex1]; exact fun _ z => absurd z hn.1
        · intros; rw [f1, f2]; exact vp_in_nI (by omega) (by decide)
        · intros; rw [f1]; exact vp_in_nI (by show r.length + 1 < 300; omega) (by decide)
        · intros
          rw [e5, c5, ex1, f1, f2, nI_1, nI_clamp (by omega), nI_clamp (by show r.length + 1 < 2 ^ 31; omega), p2, p4]
          have := nx _ (by omega) (by omega) (hm.uL (k := r.length) (v := bothM x u v)) (by rw [stepM_op _ hk3]; exact StM_push p3) hd (by rw [stepM_op _ hk3]; show r.length + 1 ≤ k + 1; omega) ht2 hev2
          rw [stepM_op _ hk3] at this
          exact this
        · rw [e5, c5, ex1]; exact fun _ _ _ z => absurd z hn.2.2
        · rw [e5, c5, ex1]; exact fun _ _ _ z => absurd z hn.2.2
        · rw [e5, c5, ex1]; exact fun _ _ z => absurd z hn.2.1
      rcases ht1 with ⟨h1, h2, rfl⟩ | ⟨h1, h2, rfl⟩ | ⟨h1, c2, rfl, rfl⟩ | ⟨h1, c2, rfl, rfl⟩ | ⟨h1, c2, rfl, rfl⟩ | ⟨h1, c2, rfl, rfl⟩
      · have h1 : x = 0 := h1
        refine bX12_answer_6 hW1 (fun z => absurd z hlt) ?_ ?_ ?_ ?_ ?_ ?_ ?_ ?_
        · intro _; rw [e5]; exact vp_in_nI (by omega) (by decide)
        · intros
          rw [e5, c5, ex1, ey1]
          refine bX12_answer_53 hW1 (fun z => absurd h1 z) (fun z => absurd h1 z) (fun z => absurd h1 z) (fun _ => vp_in_nI (by omega) (by decide)) (fun _ => ?_)
          rw [nI_1, nI_1, nI_clamp (by omega)]
          have := nx _ (by omega) (by omega) (hm.uL (k := s.length) (v := y.toInt64)) (by rw [stepM_0 _ h1]; exact StM_push hs) hd (by rw [stepM_0 _ h1]; show s.length + 1 ≤ k + 1; omega) ht2 hev2
          rw [stepM_0 _ h1] at this
          exact this
        · rw [e5, c5, ex1]; exact fun _ z => absurd h1 z
        · rw [e5, c5, ex1]; exact fun _ z => absurd h1 z
        · rw [e5, c5, ex1]; exact fun _ z => absurd h1 z
        · rw [e5, c5, ex1]; exact fun _ z => absurd h1 z
        · rw [e5, c5, ex1]; exact fun _ z => absurd h1 z
        · rw [e5, c5, ex1]; exact fun _ z => absurd h1 z
      · have h1 : x = 1 := h1
        have h2 : vp_in y 12 := h2
        have h0 : ¬ x = 0 := by rw [h1]; decide
        refine bX12_answer_6 hW1 (fun z => absurd z hlt) ?_ ?_ ?_ ?_ ?_ ?_ ?_ ?_
        · intro _; rw [e5]; exact vp_in_nI (by omega) (by decide)
        · rw [e5, c5, ex1]; exact fun _ z => absurd z h0
        · rw [e5, c5, ex1]; exact fun _ _ z => absurd h1 z
        · rw [e5, c5, ex1]; exact fun _ _ z => absurd h1 z
        · rw [e5, c5, ex1]; exact fun _ _ z => absurd h1 z
        · rw [e5, c5, ex1]; exact fun _ _ z => absurd h1 z
        · rw [e5, c5, ex1]; exact fun _ _ z => absurd h1 z
        · intros
          rw [e5, c5, ex1, ey1]
          refine bX12_answer_53 hW1 (fun _ => h2) (fun _ => vp_in_nI (by omega) (by decide)) (fun _ => ?_) (fun z => absurd z h0) (fun z => absurd z h0)
          have ev : mL m1 562 y.toNatClampNeg = (w y.toNatClampNeg).toInt64 := by rw [hm.2.2 562 _ (by decide)]; exact hw _ (inN h2)
          rw [nI_1, nI_1, nI_clamp (by omega), ev]
          have := nx _ (by omega) (by omega) (hm.uL (k := s.length) (v := (w y.toNatClampNeg).toInt64)) (by rw [stepM_1 _ h1]; exact StM_push hs) hd (by rw [stepM_1 _ h1]; show s.length + 1 ≤ k + 1; omega) ht2 hev2
          rw [stepM_1 _ h1] at this
          exact this
      · have h1 : x = 9 := h1
        have h0 : ¬ x = 0 := by rw [h1]; decide
        have h01 : ¬ x = 1 := by rw [h1]; decide
        obtain ⟨v, r, er, _, _⟩ := VOk_1 hc
        subst er
        obtain ⟨p1, p2⟩ := StM_pop hs
        have hsl : r.length + 1 ≤ k := hsl
        have f2 : nI (v :: r).length - (1 : Int32) = nI r.length := nI_pred r.length
        refine bX12_answer_6 hW1 (fun z => absurd z hlt) ?_ ?_ ?_ ?_ ?_ ?_ ?_ ?_
        · intro _; rw [e5]; exact vp_in_nI (by omega) (by decide)
        · rw [e5, c5, ex1]; exact fun _ z => absurd z h0
        · rw [e5, c5, ex1]; exact fun _ _ _ z => absurd h1 z
        · rw [e5, c5, ex1]; exact fun _ _ _ z => absurd h1 z
        · rw [e5, c5, ex1]; exact fun _ _ _ z => absurd h1 z
        · intros; rw [f2]; exact vp_in_nI (by omega) (by decide)
        · intros
          rw [f2, nI_1, nI_clamp (by omega), p2]
          have := nx _ (by omega) (by omega) (hm.uL (k := r.length) (v := 1 - v)) (by rw [stepM_9 _ h1]; exact StM_push p1) hd (by rw [stepM_9 _ h1]; show r.length + 1 ≤ k + 1; omega) ht2 hev2
          rw [stepM_9 _ h1] at this
          exact this
        · rw [e5, c5, ex1]; exact fun _ _ z => absurd z h01
      · obtain ⟨v, r, er, _, k2⟩ := VOk_1 hc
        obtain ⟨u, r2, er2, _, _⟩ := VOk_1 k2
        exact twoC (Or.inl h1) ⟨v, u, r2, by rw [er, er2]⟩
      · obtain ⟨v, r, er, _, k2⟩ := VOk_1 hc
        obtain ⟨u, r2, er2, _, _⟩ := VOk_1 k2
        exact twoC (Or.inr (Or.inl h1)) ⟨v, u, r2, by rw [er, er2]⟩
      · obtain ⟨v, r, er, _, k2⟩ := VOk_1 hc
        obtain ⟨u, r2, er2, _, _⟩ := VOk_1 k2
        exact twoC (Or.inr (Or.inr h1)) ⟨v, u, r2, by rw [er, er2]⟩
  exact pCl_of (by decide +kernel) (Nat.le_of_ble_eq_true rfl) rfl (bX12_answer_0 hW (key (e - a) a [] [] m (by omega) (Nat.le_refl a) SamS.rf (fun j hj => by cases hj) trivial (Nat.zero_le _) ht rfl))
end S11
