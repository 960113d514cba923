/-! ===== the model reads terms, sums, comparisons ===== -/
theorem preR_app {a b : List Tok} {r : RR} : preR a (preR b r) = preR (a ++ b) r := by
  cases r with
  | inl f => rfl
  | inr x => simp only [preR, List.append_assoc]
theorem preR_nil {r : RR} : preR [] r = r := by
  cases r with
  | inl f => rfl
  | inr x => rfl
theorem preR_inl {a : List Tok} {f : Nat} : preR a (.inl f) = .inl f := rfl
/-- times, by, rest -/
def isMu (t : Int32) : Prop := t = 13 ∨ t = 14 ∨ t = 15
section T51
variable {B : Nat → Nat} {L : Nat}
theorem sumL_sk {e p c : Nat} {w : Int32} : sumL B L e (sk B L p) c w = sumL B L e p c w := by
  cases e with
  | zero => rfl
  | succ e => simp only [sumL, sk_sk]
theorem sumL_pe {e p c : Nat} {t : Int32} (he : 0 < e) (h : ¬ isMu (stp (chI B L (sk B L p)))) : sumL B L e p c t = preR (pend t) (sumL B L e p c 0) := by
  cases e with
  | zero => omega
  | succ e =>
    by_cases c0 : stp (chI B L (sk B L p)) = 0
    · rw [sumL_0 c0, sumL_0 c0]
      show Sum.inr (sk B L p, c, pend t) = Sum.inr (sk B L p, c, pend t ++ pend 0)
      rw [show pend 0 = [] from rfl, List.append_nil]
    · have sa := (stp_ar c0).1
      have c3 : stp (chI B L (sk B L p)) = 2 ∨ stp (chI B L (sk B L p)) = 3 := by
        unfold isMu at h
        unfold isAr at sa
        rcases sa with z | z | z | z | z
        · exact Or.inl z
        · exact Or.inr z
        · exact absurd (Or.inl z) h
        · exact absurd (Or.inr (Or.inl z)) h
        · exact absurd (Or.inr (Or.inr z)) h
      cases ev : vlF B L (sk B L p + 1) c with
      | inl f => rw [sumL_f c0 ev, sumL_f c0 ev]; rfl
      | inr a =>
        obtain ⟨p2, c2, t2⟩ := a
        rw [sumL_w c0 ev c3, sumL_w c0 ev c3, preR_app, show pend 0 = [] from rfl, List.nil_append]
theorem stp_mu {x : Int32} : (stp x = 13 ↔ x = 42) ∧ (stp x = 14 ↔ x = 47) ∧ (stp x = 15 ↔ x = 37) ∧ (stp x = 2 ↔ x = 43) ∧ (stp x = 3 ↔ x = 45) := by
  unfold stp
  by_cases c1 : x = 43
  · rw [if_pos c1, c1]; decide
  · rw [if_neg c1]
    by_cases c2 : x = 45
    · rw [if_pos c2, c2]; decide
    · rw [if_neg c2]
      by_cases c3 : x = 42
      · rw [if_pos c3, c3]; decide
      · rw [if_neg c3]
        by_cases c4 : x = 47
        · rw [if_pos c4, c4]; decide
        · rw [if_neg c4]
          by_cases c5 : x = 37
          · rw [if_pos c5, c5]; decide
          · rw [if_neg c5]
            exact ⟨⟨fun z => absurd z (by decide), fun z => absurd z c3⟩, ⟨fun z => absurd z (by decide), fun z => absurd z c4⟩, ⟨fun z => absurd z (by decide), fun z => absurd z c5⟩, ⟨fun z => absurd z (by decide), fun z => absurd z c1⟩, ⟨fun z => absurd z (by decide), fun z => absurd z c2⟩⟩
end T51
section T52
variable {X : pX} {Q : Option Value → pMem → Prop} {B : Nat → Nat} {L i : Nat}
/-- what a term leaves: e2, p2, c2, the signs, of a sum's run with fuel e from p, c -/
def TmR (B : Nat → Nat) (L e p c e2 p2 c2 : Nat) (ts : List Tok) : Prop := (∀ w, sumL B L e p c w = preR ts (sumL B L e2 p2 c2 w)) ∧ e2 ≤ e ∧ L < p2 + e2 ∧ sk B L p2 = p2 ∧ p2 ≤ L ∧ ¬ isMu (stp (chI B L p2)) ∧ c2 ≤ 60
theorem g_mTerm {m0 : pMem} {es0 : List Tok} {e0 p0 c0 : Nat} : ∀ e p c ts (m : pMem), L < p + e → p ≤ L → sk B L p = p → NS B L p c i (es0 ++ ts) m → c ≤ 60 → 3 * (es0 ++ ts).length + 3 ≤ 14 * c + 45 → (∀ w, sumL B L e0 p0 c0 w = preR ts (sumL B L e p c w)) → e ≤ e0 → Vk i m0 m →
    (∀ e2 p2 c2 ts2, TmR B L e0 p0 c0 e2 p2 c2 ts2 → ∀ m2, NS B L p2 c2 i (es0 ++ ts2) m2 → 3 * (es0 ++ ts2).length + 3 ≤ 14 * c2 + 45 → Vk i m0 m2 → Q none m2) →
    (∀ f, (∀ w, sumL B L e0 p0 c0 w = .inl f) → 0 < f → ∀ m2 q, MS B L q f m2 → q ≤ L → Vk i m0 m2 → Q none m2) → Go X 7 mX12_term Q 8 [(0, .ref 535)] [] m := by
  intro e
  induction e with
  | zero => intro p c ts m h1 h2; omega
  | succ e ih =>
    intro p c ts m hLe hp hsk h hc hl hrel hee T k1 k0
    have hL := h.1.2.1.1
    obtain ⟨x42, x47, x37, x43, x45⟩ := stp_mu (x := chI B L p)
    -- with a sign
    have go : ∀ t x, stp (chI B L p) = t → isMu t → x = t → Cl X 6 mX12_value [.ref 535] (uI m 535 20 ((mI m 535 20) + (1 : Int32))) (fun v m2 => Go X 7 mX12_term Q 87 [(0, .ref 535), (1, .int x)] (v.toList ++ []) m2) := by
      intro t x et mt ex
      subst ex
      have t0 : stp (chI B L (sk B L p)) ≠ 0 := by
        rw [hsk, et]
        unfold isMu at mt
        rcases mt with z | z | z <;> (rw [z]; decide)
      have sa := stp_ar t0
      rw [hsk] at sa
      have hlt := ch_lt (B := B) (L := L) (q := p) rfl sa.2.1
      have t23 : ¬ (stp (chI B L (sk B L p)) = 2 ∨ stp (chI B L (sk B L p)) = 3) := by
        rw [hsk, et]
        unfold isMu at mt
        rcases mt with z | z | z <;> (rw [z]; decide)
      rw [h.1.2.2.1, nI_1]
      have a := MS_at (q := p + 1) h.1 (by omega)
      have Na := NS_mk a.2 a.1 h
      refine s_mVal Na (by omega) hc (by omega) (fun p2 c2 t2 ev m2 h2 T2 => bX12_term_87 h2.1.1 ?_) (fun f ev hf m2 q h2 hq T2 => bX12_term_87 h2.1 ?_)
      · obtain ⟨v1, v2, v3, v4, v5, v6, v7⟩ := vl_ok (by omega) ev
        have sn : ∀ w, sumL B L (e + 1) p c w = preR (t2 ++ [(x, 0)]) (sumL B L e p2 c2 w) := fun w => by
          rw [sumL_n t0 (by rw [hsk]; exact ev) t23, hsk, et]
        refine s_entry (t := (x, 0)) h2 (by rw [List.length_append, v6]; omega) rfl rfl (fun m3 h3 T3 => bX12_term_93 h3.1.1 (s_blanks h3.1 (fun m4 h4 t4 => bX12_term_97 h4.1 ?_)))
        have hs2 := sk_b (B := B) v2
        refine ih (sk B L p2) c2 (ts ++ (t2 ++ [(x, 0)])) m4 (by omega) hs2.2 (sk_sk B L p2) ?_ (by omega) ?_ (fun w => ?_) (by omega) (T.tr ((a.2.vk i).tr (T2.tr (T3.tr (t4.vk i))))) k1 k0
        · have := NS_mk t4 h4 h3
          simp only [List.append_assoc] at this ⊢
          exact this
        · rw [List.length_append] at hl
          rw [List.length_append, List.length_append, List.length_append, v6]
          show 3 * (es0.length + (ts.length + (1 + 1))) + 3 ≤ _
          omega
        · rw [hrel w, sn w, preR_app, sumL_sk]
      · have sf : ∀ w, sumL B L e0 p0 c0 w = .inl f := fun w => by
          rw [hrel w, sumL_f t0 (by rw [hsk]; exact ev)]; rfl
        refine s_entryD h2 (by omega) (bX12_term_93 h2.1 (s_blanks h2 (fun m4 h4 t4 => bX12_term_97 h4.1 (bX12_term_8 h4.1 (fun _ => ?_) (fun z => absurd z (MS_f1 h4 (by omega)))))))
        exact k0 f sf hf m4 _ h4 (sk_b (B := B) hq).2 (T.tr ((a.2.vk i).tr (T2.tr (t4.vk i))))
    have g46 : isMu (stp (chI B L p)) → Cl X 0 mX12_sign [.ref 535] m (fun v m2 => Go X 7 mX12_term Q 46 [(0, .ref 535)] (v.toList ++ []) m2) := fun mu => by
      refine s_sign h.1 (bX12_term_46 h.1.1 (fun z1 => s_sign h.1 (bX12_term_60 h.1.1 (fun z2 => ?_) (fun z2 => ?_))) (fun z1 => ?_))
      · refine go 15 15 (mu.resolve_left (fun y => z1 (x42.mp y)) |>.resolve_left (fun y => z2 (x47.mp y))) (Or.inr (Or.inr rfl)) rfl
      · exact go 14 14 (x47.mpr z2) (Or.inr (Or.inl rfl)) rfl
      · exact go 13 13 (x42.mpr z1) (Or.inl rfl) rfl
    refine bX12_term_8 h.1.1 (fun z => absurd (MS_f0 h.1) z) (fun _ => s_sign h.1 (bX12_term_19 h.1.1 (fun z => g46 (Or.inl (x42.mpr z))) (fun z1 => s_sign h.1 (bX12_term_28 h.1.1 (fun z => g46 (Or.inr (Or.inl (x47.mpr z)))) (fun z2 => s_sign h.1 (bX12_term_37 h.1.1 (fun z3 => ?_) (fun z => g46 (Or.inr (Or.inr (x37.mpr z))))))))))
    refine k1 (e + 1) p c ts ⟨hrel, hee, hLe, hsk, hp, fun mu => ?_, hc⟩ m h hl T
    rcases mu with y | y | y
    · exact z1 (x42.mp y)
    · exact z2 (x47.mp y)
    · exact z3 (x37.mp y)
theorem s_mTerm {m : pMem} {p c e : Nat} {es : List Tok} (h : NS B L p c i es m) (hp : p ≤ L) (hc : c ≤ 60) (hl : 3 * es.length ≤ 14 * c + 45) (he : L < p + e + 1)
    (k1 : ∀ p1 c1 t1, vlF B L p c = .inr (p1, c1, t1) → ∀ e2 p2 c2 ts2, TmR B L e p1 c1 e2 p2 c2 ts2 → ∀ m2, NS B L p2 c2 i (es ++ t1 ++ ts2) m2 → 3 * (es ++ t1 ++ ts2).length + 3 ≤ 14 * c2 + 45 → Vk i m m2 → Q none m2)
    (k0 : ∀ f, (vlF B L p c = .inl f ∨ ∃ p1 c1 t1, vlF B L p c = .inr (p1, c1, t1) ∧ ∀ w, sumL B L e p1 c1 w = .inl f) → 0 < f → ∀ m2 q, MS B L q f m2 → q ≤ L → Vk i m m2 → Q none m2) : Cl X 7 mX12_term [.ref 535] m Q := by
  refine pCl_of (by decide +kernel) (Nat.le_of_ble_eq_true rfl) rfl (bX12_term_0 h.1.1 (s_mVal h hp hc hl (fun p1 c1 t1 ev m2 h2 T2 => bX12_term_4 h2.1.1 ?_) (fun f ev hf m2 q h2 hq T2 => bX12_term_4 h2.1 ?_)))
  · obtain ⟨v1, v2, v3, v4, v5, v6, v7⟩ := vl_ok hp ev
    have hs := sk_b (B := B) v2
    refine s_blanks h2.1 (fun m3 h3 t3 => ?_)
    have N3 := NS_mk t3 h3 h2
    refine g_mTerm (m0 := m) (es0 := es ++ t1) (e0 := e) (p0 := p1) (c0 := c1) e (sk B L p1) c1 [] m3 (by omega) hs.2 (sk_sk B L p1) (by rw [List.append_nil]; exact N3) (by omega) (by rw [List.append_nil, List.length_append, v6]; omega) (fun w => by rw [preR_nil, sumL_sk]) (Nat.le_refl _) (T2.tr (t3.vk i)) (fun e2 p2 c2 ts2 hr m4 h4 l4 T4 => k1 p1 c1 t1 ev e2 p2 c2 ts2 hr m4 h4 l4 T4) (fun f hf hf0 m4 q h4 hq T4 => k0 f (Or.inr ⟨p1, c1, t1, ev, hf⟩) hf0 m4 q h4 hq T4)
  · refine s_blanks h2 (fun m3 h3 t3 => bX12_term_8 h3.1 (fun _ => ?_) (fun z => absurd z (MS_f1 h3 (by omega))))
    exact k0 f (Or.inl ev) hf m3 _ h3 (sk_b (B := B) hq).2 (T2.tr (t3.vk i))
theorem g_mSum : ∀ N e p c es (m : pMem), e ≤ N → L < p + e → p ≤ L → sk B L p = p → ¬ isMu (stp (chI B L p)) → NS B L p c i es m → c ≤ 60 → 3 * es.length ≤ 14 * c + 45 →
    (∀ p1 c1 ts, sumL B L e p c 0 = .inr (p1, c1, ts) → ∀ m2, NS B L p1 c1 i (es ++ ts) m2 → Vk i m m2 → Q none m2) →
    (∀ f, sumL B L e p c 0 = .inl f → 0 < f → ∀ m2 q, MS B L q f m2 → q ≤ L → Vk i m m2 → Q none m2) → Go X 8 mX12_sum Q 4 [(0, .ref 535)] [] m := by
  intro N
  induction N with
  | zero => intro e p c es m h1 h2 h3; omega
  | succ N ih =>
    intro e p c es m hN hLe hp hsk hmu h hc hl k1 k0
    have hL := h.1.2.1.1
    obtain ⟨x42, x47, x37, x43, x45⟩ := stp_mu (x := chI B L p)
    obtain ⟨e, rfl⟩ : ∃ e', e = e' + 1 := ⟨e - 1, by omega⟩
    have go : ∀ t x, stp (chI B L p) = t → (t = 2 ∨ t = 3) → x = t → Cl X 7 mX12_term [.ref 535] (uI m 535 20 ((mI m 535 20) + (1 : Int32))) (fun v m2 => Go X 8 mX12_sum Q 58 [(0, .ref 535), (1, .int x)] (v.toList ++ []) m2) := by
      intro t x et mt ex
      subst ex
      have t0 : stp (chI B L (sk B L p)) ≠ 0 := by
        rw [hsk, et]
        rcases mt with z | z <;> (rw [z]; decide)
      have sa := stp_ar t0
      rw [hsk] at sa
      have hlt := ch_lt (B := B) (L := L) (q := p) rfl sa.2.1
      have t23 : stp (chI B L (sk B L p)) = 2 ∨ stp (chI B L (sk B L p)) = 3 := by rw [hsk, et]; exact mt
      have x0 : ¬ x = 0 := by rcases mt with z | z <;> (rw [z]; decide)
      rw [h.1.2.2.1, nI_1]
      have a := MS_at (q := p + 1) h.1 (by omega)
      have Na := NS_mk a.2 a.1 h
      refine s_mTerm (e := e) Na (by omega) hc hl (by omega) (fun p1 c1 t1 ev e2 p2 c2 ts2 hr m2 h2 l2 T2 => bX12_sum_58 h2.1.1 ?_) (fun f ev hf m2 q h2 hq T2 => bX12_sum_58 h2.1 ?_)
      · obtain ⟨r1, r2, r3, r4, r5, r6, r7⟩ := hr
        have sw : sumL B L (e + 1) p c 0 = preR (t1 ++ ts2 ++ [(x, 0)]) (sumL B L e2 p2 c2 0) := by
          rw [sumL_w t0 (by rw [hsk]; exact ev) t23, hsk, et, r1 x, sumL_pe (by omega) (by rw [r4]; exact r6), preR_app, preR_app, show pend 0 = [] from rfl, List.nil_append]
          unfold pend
          rw [if_neg x0]
        refine s_entry (t := (x, 0)) h2 (by omega) rfl rfl (fun m3 h3 T3 => bX12_sum_64 h3.1.1 ?_)
        refine ih e2 p2 c2 _ m3 (by omega) r3 r5 r4 r6 h3 r7 (by rw [List.length_append]; show 3 * (_ + 1) ≤ _; omega) (fun p4 c4 t4 e4 m4 h4 T4 => ?_) (fun f ef hf m4 q h4 hq T4 => ?_)
        · rw [e4] at sw
          refine k1 _ _ _ sw m4 ?_ ((a.2.vk i).tr (T2.tr (T3.tr T4)))
          simp only [← List.append_assoc] at h4 ⊢
          exact h4
        · rw [ef] at sw
          exact k0 f sw hf m4 q h4 hq ((a.2.vk i).tr (T2.tr (T3.tr T4)))
      · have sf : sumL B L (e + 1) p c 0 = .inl f := by
          rcases ev with ev | ⟨p1, c1, t1, ev, hw⟩
          · exact sumL_f t0 (by rw [hsk]; exact ev)
          · rw [sumL_w t0 (by rw [hsk]; exact ev) t23, hw]; rfl
        exact s_entryD h2 (by omega) (bX12_sum_64 h2.1 (bX12_sum_4 h2.1 (fun _ => k0 f sf hf m2 q h2 hq ((a.2.vk i).tr T2)) (fun z => absurd z (MS_f1 h2 (by omega)))))
    have g33 : (stp (chI B L p) = 2 ∨ stp (chI B L p) = 3) → Cl X 0 mX12_sign [.ref 535] m (fun v m2 => Go X 8 mX12_sum Q 33 [(0, .ref 535)] (v.toList ++ []) m2) := fun mu =>
      s_sign h.1 (bX12_sum_33 h.1.1 (fun z => go 3 3 (mu.resolve_left (fun y => z (x43.mp y))) (Or.inr rfl) rfl) (fun z => go 2 2 (x43.mpr z) (Or.inl rfl) rfl))
    refine bX12_sum_4 h.1.1 (fun z => absurd (MS_f0 h.1) z) (fun _ => s_sign h.1 (bX12_sum_15 h.1.1 (fun z => g33 (Or.inl (x43.mpr z))) (fun z1 => s_sign h.1 (bX12_sum_24 h.1.1 (fun z2 => ?_) (fun z => g33 (Or.inr (x45.mpr z)))))))
    have s0 : stp (chI B L (sk B L p)) = 0 := by
      rw [hsk]
      refine Classical.byContradiction fun y => ?_
      have sa := (stp_ar y).1
      unfold isAr at sa
      rcases sa with w | w | w | w | w
      · exact z1 (x43.mp w)
      · exact z2 (x45.mp w)
      · exact hmu (Or.inl w)
      · exact hmu (Or.inr (Or.inl w))
      · exact hmu (Or.inr (Or.inr w))
    have k1 := k1 _ _ _ (sumL_0 (e := e) (w := 0) (c := c) s0) m
    rw [hsk, show pend 0 = [] from rfl, List.append_nil] at k1
    exact k1 h Vk.rf
theorem s_mSum {m : pMem} {p c : Nat} {es : List Tok} (h : NS B L p c i es m) (hp : p ≤ L) (hc : c ≤ 60) (hl : 3 * es.length ≤ 14 * c + 45) (k1 : ∀ p1 c1 ts, smF B L p c = .inr (p1, c1, ts) → ∀ m2, NS B L p1 c1 i (es ++ ts) m2 → Vk i m m2 → Q none m2)
    (k0 : ∀ f, smF B L p c = .inl f → 0 < f → ∀ m2 q, MS B L q f m2 → q ≤ L → Vk i m m2 → Q none m2) : Cl X 8 mX12_sum [.ref 535] m Q := by
  refine pCl_of (by decide +kernel) (Nat.le_of_ble_eq_true rfl) rfl (bX12_sum_0 h.1.1 (s_mTerm (e := L + 1) h hp hc hl (by omega) (fun p1 c1 t1 ev e2 p2 c2 ts2 hr m2 h2 l2 T2 => ?_) (fun f ev hf m2 q h2 hq T2 => ?_)))
  · obtain ⟨r1, r2, r3, r4, r5, r6, r7⟩ := hr
    have es1 : smF B L p c = preR (t1 ++ ts2) (sumL B L e2 p2 c2 0) := by
      unfold smF
      rw [ev]
      simp only
      rw [r1 0, preR_app]
    refine g_mSum e2 e2 p2 c2 _ m2 (Nat.le_refl _) r3 r5 r4 r6 h2 r7 (by omega) (fun p4 c4 t4 e4 m4 h4 T4 => ?_) (fun f ef hf m4 q h4 hq T4 => ?_)
    · rw [e4] at es1
      refine k1 _ _ _ es1 m4 ?_ (T2.tr T4)
      simp only [← List.append_assoc] at h4 ⊢
      exact h4
    · rw [ef] at es1
      exact k0 f es1 hf m4 q h4 hq (T2.tr T4)
  · refine bX12_sum_4 h2.1 (fun _ => k0 f ?_ hf m2 q h2 hq T2) (fun z => absurd z (MS_f1 h2 (by omega)))
    unfold smF
    rcases ev with ev | ⟨p1, c1, t1, ev, hw⟩
    · rw [ev]
    · rw [ev]
      simp only
      rw [hw]; rfl
theorem s_mSumD {m : pMem} {p f : Nat} (i : Nat) (h : MS B L p f m) (hf : f ≠ 0) (hp : p ≤ 1000) (h12 : mI m 535 28 = 12) (k : ∀ m2 q, MS B L q f m2 → (q ≤ p ∨ q ≤ L) → Vk i m m2 → Q none m2) : Cl X 8 mX12_sum [.ref 535] m Q := by
  refine pCl_of (by decide +kernel) (Nat.le_of_ble_eq_true rfl) rfl (bX12_sum_0 h.1 (pCl_of (by decide +kernel) (Nat.le_of_ble_eq_true rfl) rfl (bX12_term_0 h.1 (s_mValD i h hf hp h12 (fun m2 q h2 hq T2 => bX12_term_4 h2.1 (s_blanks h2 (fun m3 h3 t3 => bX12_term_8 h3.1 (fun _ => bX12_sum_4 h3.1 (fun _ => k m3 _ h3 ?_ (T2.tr (t3.vk i))) (fun z => absurd z (MS_f1 h3 hf))) (fun z => absurd z (MS_f1 h3 hf)))))))))
  by_cases c : q ≤ L
  · exact Or.inr (sk_b (B := B) c).2
  · rw [sk_ge (by omega)]; exact hq
/-- behind a comparison's sign, with a fault -/
theorem g_cmpD {m : pMem} {p f : Nat} {x : Int32} (i : Nat) (h : MS B L p f m) (hf : f ≠ 0) (hp : p ≤ 500) (h12 : mI m 535 28 = 12) (k : ∀ m2 q, MS B L q f m2 → q ≤ 600 → Vk i m m2 → Q none m2) : Go X 9 mX12_compared Q 45 [(0, .ref 535), (1, .int x)] [] m := by
  have hL := h.2.1.1
  have a := MS_at (q := p + 1) h (by omega)
  have fin : ∀ (m3 : pMem) (q : Nat) (x2 : Int32), MS B L q f m3 → q ≤ 502 → Mk m m3 → Cl X 8 mX12_sum [.ref 535] m3 (fun v m2 => Go X 9 mX12_compared Q 98 [(0, .ref 535), (1, .int x), (2, .int x2)] (v.toList ++ []) m2) := by
    intro m3 q x2 h3 hq t3
    refine s_mSumD i h3 hf (by omega) ((t3.1 _ _ (by omega)).trans h12) (fun m4 q4 h4 hq4 T4 => ?_)
    have fin2 : Q none m4 := k m4 q4 h4 (by omega) ((t3.vk i).tr T4)
    exact bX12_compared_98 h4.1 (fun _ _ _ => s_entryD h4 hf (bX12_compared_143 h4.1 fin2)) (fun _ _ _ => s_entryD h4 hf (bX12_compared_143 h4.1 fin2)) (fun _ _ _ => s_entryD h4 hf (bX12_compared_143 h4.1 fin2)) (fun _ _ _ => s_entryD h4 hf (bX12_compared_143 h4.1 fin2)) (fun _ => s_entryD h4 hf (bX12_compared_143 h4.1 fin2))
  have f74 : Go X 9 mX12_compared Q 74 [(0, .ref 535), (1, .int x)] [] (uI m 535 20 (nI (p + 1))) := by
    refine bX12_compared_74 a.1.1 (bX12_compared_75 a.1.1 ?_)
    rw [a.1.2.2.1, show nI (p + 1) + (0 : Int32) = nI (p + 1) from Int32.add_zero _]
    have b := MS_at (q := p + 1) a.1 (by omega)
    exact fin _ _ _ b.1 (by omega) (a.2.tr b.2)
  refine bX12_compared_45 h.1 (fun _ => ?_) (fun _ => ?_)
  · rw [h.2.2.1, nI_1]; exact f74
  · rw [h.2.2.1, nI_1]
    refine s_sign a.1 (bX12_compared_65 a.1.1 (fun _ => f74) (fun _ => bX12_compared_75v1 a.1.1 ?_))
    rw [a.1.2.2.1, nI_1]
    have b := MS_at (q := p + 1 + 1) a.1 (by omega)
    exact fin _ _ _ b.1 (by omega) (a.2.tr b.2)
theorem s_mCmp {m : pMem} {p c : Nat} {es : List Tok} (h : NS B L p c i es m) (hp : p ≤ L) (hc : c ≤ 60) (hl : 3 * es.length ≤ 14 * c + 45) (k1 : ∀ p1 c1 ts, cmF B L p c = .inr (p1, c1, ts) → ∀ m2, NS B L p1 c1 i (es ++ ts) m2 → Vk i m m2 → Q none m2)
    (k0 : ∀ f, cmF B L p c = .inl f → 0 < f → ∀ m2 q, MS B L q f m2 → q ≤ 600 → Vk i m m2 → Q none m2) : Cl X 9 mX12_compared [.ref 535] m Q := by
  have hL := h.1.2.1.1
  unfold cmF at k1 k0
  refine pCl_of (by decide +kernel) (Nat.le_of_ble_eq_true rfl) rfl (bX12_compared_0 h.1.1 (s_mSum h hp hc hl (fun p1 c1 t1 e1 m2 h2 T2 => bX12_compared_4 h2.1.1 (s_sign h2.1 ?_)) (fun f e1 hf m2 q h2 hq T2 => bX12_compared_4 h2.1 (s_sign h2 ?_))))
  · rw [e1] at k1 k0
    simp only at k1 k0
    obtain ⟨a1, a2, a3, a4, a5, a6, a7, a8⟩ := sm_ok hp e1
    -- there is a sign
    have cnt : cmS (chI B L p1) (chI B L (p1 + 1)) ≠ 0 → Cl X 1 mX12_isCounted [.ref 535, .int (mI m2 535 20)] m2 (fun v m2 => Go X 9 mX12_compared Q 45 [(0, .ref 535), (1, .int (chI B L p1))] (v.toList ++ []) m2) := by
      intro hs
      rw [if_neg hs] at k1 k0
      have cc := cmS_cm hs
      have cn := cmN_b cc.2.1
      have hlt := ch_lt (B := B) (L := L) (q := p1) rfl cc.2.1
      rw [h2.1.2.2.1]
      refine s_isCnt h2 a4 (by omega) (fun y m3 h3 T3 => ?_) (fun y m3 h3 T3 => ?_)
      · rw [if_neg (by omega)] at k1 k0
        -- behind the sign
        have fin : ∀ (m4 : pMem) (x2 : Int32), NS B L (p1 + cmN (chI B L p1) (chI B L (p1 + 1))) (c1 + 1) i (es ++ t1) m4 → Vk i m m4 → ((chI B L p1 = 61 ∧ cmS (chI B L p1) (chI B L (p1 + 1)) = 6) ∨ (chI B L p1 = 60 ∧ x2 = 0 ∧ cmS (chI B L p1) (chI B L (p1 + 1)) = 4) ∨ (chI B L p1 = 60 ∧ ¬ x2 = 0 ∧ cmS (chI B L p1) (chI B L (p1 + 1)) = 5) ∨ (chI B L p1 = 62 ∧ x2 = 0 ∧ cmS (chI B L p1) (chI B L (p1 + 1)) = 8) ∨ (chI B L p1 = 62 ∧ ¬ x2 = 0 ∧ cmS (chI B L p1) (chI B L (p1 + 1)) = 7)) → Cl X 8 mX12_sum [.ref 535] m4 (fun v m2 => Go X 9 mX12_compared Q 98 [(0, .ref 535), (1, .int (chI B L p1)), (2, .int x2)] (v.toList ++ []) m2) := by
          intro m4 x2 h4 T4 hx
          refine s_mSum h4 cn.2 (by omega) (by rw [List.length_append]; omega) (fun p5 c5 t5 e5 m5 h5 T5 => ?_) (fun f e5 hf m5 q h5 hq T5 => ?_)
          · rw [e5] at k1
            obtain ⟨b1, b2, b3, b4, b5, b6, b7, b8⟩ := sm_ok cn.2 e5
            have ent : ∀ x : Int32, x = cmS (chI B L p1) (chI B L (p1 + 1)) → Cl X 0 mX12_entry [.ref 535, .int x, .int (0 : Int32)] m5 (fun v m2 => Go X 9 mX12_compared Q 143 [(0, .ref 535), (1, .int (chI B L p1)), (2, .int x2)] (v.toList ++ []) m2) := fun x ex => by
              refine s_entry (t := (cmS (chI B L p1) (chI B L (p1 + 1)), 0)) h5 (by rw [List.length_append, List.length_append]; omega) ex rfl (fun m6 h6 T6 => bX12_compared_143 h6.1.1 (k1 _ _ _ rfl m6 ?_ (T4.tr (T5.tr T6))))
              simp only [← List.append_assoc] at h6 ⊢
              exact h6
            refine bX12_compared_98 h5.1.1 (fun z1 z2 z3 => ent 8 ?_) (fun z1 z2 z3 => ent 7 ?_) (fun z1 z2 z3 => ent 4 ?_) (fun z1 z2 z3 => ent 5 ?_) (fun z1 => ent 6 ?_)
            · rcases hx with w | w | w | w | w
              · exact absurd w.1 z1
              · exact absurd w.1 z2
              · exact absurd w.1 z2
              · exact w.2.2.symm
              · exact absurd z3 w.2.1
            · rcases hx with w | w | w | w | w
              · exact absurd w.1 z1
              · exact absurd w.1 z2
              · exact absurd w.1 z2
              · exact absurd w.2.1 z3
              · exact w.2.2.symm
            · rcases hx with w | w | w | w | w
              · exact absurd w.1 z1
              · exact w.2.2.symm
              · exact absurd z3 w.2.1
              · rw [w.1] at z2; exact absurd z2 (by decide)
              · rw [w.1] at z2; exact absurd z2 (by decide)
            · rcases hx with w | w | w | w | w
              · exact absurd w.1 z1
              · exact absurd w.2.1 z3
              · exact w.2.2.symm
              · rw [w.1] at z2; exact absurd z2 (by decide)
              · rw [w.1] at z2; exact absurd z2 (by decide)
            · rcases hx with w | w | w | w | w
              · exact w.2.symm
              all_goals (rw [w.1] at z1; exact absurd z1 (by decide))
          · rw [e5] at k0
            have fin2 : Q none m5 := k0 f rfl hf m5 q h5 (by omega) (T4.tr T5)
            have hf1 : f ≠ 0 := by omega
            exact bX12_compared_98 h5.1 (fun _ _ _ => s_entryD h5 hf1 (bX12_compared_143 h5.1 fin2)) (fun _ _ _ => s_entryD h5 hf1 (bX12_compared_143 h5.1 fin2)) (fun _ _ _ => s_entryD h5 hf1 (bX12_compared_143 h5.1 fin2)) (fun _ _ _ => s_entryD h5 hf1 (bX12_compared_143 h5.1 fin2)) (fun _ => s_entryD h5 hf1 (bX12_compared_143 h5.1 fin2))
        have a := MS_at (q := p1 + 1) h3.1 (by omega)
        have Na := NS_mk a.2 a.1 h3
        have T3a := T2.tr (T3.tr (a.2.vk i))
        have b := MS_at (q := p1 + 1) a.1 (by omega)
        have one : cmN (chI B L p1) (chI B L (p1 + 1)) = 1 → ((chI B L p1 = 61 ∧ cmS (chI B L p1) (chI B L (p1 + 1)) = 6) ∨ (chI B L p1 = 60 ∧ cmS (chI B L p1) (chI B L (p1 + 1)) = 4) ∨ (chI B L p1 = 62 ∧ cmS (chI B L p1) (chI B L (p1 + 1)) = 8)) → Go X 9 mX12_compared Q 74 [(0, .ref 535), (1, .int (chI B L p1))] [] (uI m3 535 20 (nI (p1 + 1))) := fun en hx => by
          refine bX12_compared_74 a.1.1 (bX12_compared_75 a.1.1 ?_)
          rw [a.1.2.2.1, show nI (p1 + 1) + (0 : Int32) = nI (p1 + 1) from Int32.add_zero _]
          refine fin _ 0 (by rw [en]; exact NS_mk b.2 b.1 Na) (T3a.tr (b.2.vk i)) ?_
          rcases hx with w | w | w
          · exact Or.inl w
          · exact Or.inr (Or.inl ⟨w.1, rfl, w.2⟩)
          · exact Or.inr (Or.inr (Or.inr (Or.inl ⟨w.1, rfl, w.2⟩)))
        refine bX12_compared_45 h3.1.1 (fun z => ?_) (fun z => ?_)
        · rw [h3.1.2.2.1, nI_1]
          exact one (by unfold cmN; rw [if_pos z]) (Or.inl ⟨z, by unfold cmS; rw [if_neg (by rw [z]; decide), if_neg (by rw [z]; decide), if_pos z]⟩)
        · rw [h3.1.2.2.1, nI_1]
          have z60 : chI B L p1 = 60 ∨ chI B L p1 = 62 := by
            rcases cc.2.2 with w | w | w
            · exact Or.inl w
            · exact absurd w z
            · exact Or.inr w
          refine s_sign a.1 (bX12_compared_65 a.1.1 (fun w => ?_) (fun w => ?_))
          · refine one (by unfold cmN; rw [if_neg z, if_neg w]) (Or.inr ?_)
            rcases z60 with q | q
            · exact Or.inl ⟨q, by unfold cmS; rw [if_pos q, if_neg w]⟩
            · exact Or.inr ⟨q, by unfold cmS; rw [if_neg (by rw [q]; decide), if_pos q, if_neg w]⟩
          · refine bX12_compared_75v1 a.1.1 ?_
            rw [a.1.2.2.1, nI_1]
            have en : cmN (chI B L p1) (chI B L (p1 + 1)) = 2 := by unfold cmN; rw [if_neg z, if_pos w]
            have b2 := MS_at (q := p1 + 1 + 1) a.1 (by omega)
            refine fin _ 1 (by rw [en]; exact NS_mk b2.2 b2.1 Na) (T3a.tr (b2.2.vk i)) ?_
            rcases z60 with q | q
            · exact Or.inr (Or.inr (Or.inl ⟨q, by decide, by unfold cmS; rw [if_pos q, if_pos w]⟩))
            · exact Or.inr (Or.inr (Or.inr (Or.inr ⟨q, by decide, by unfold cmS; rw [if_neg (by rw [q]; decide), if_pos q, if_pos w]⟩)))
      · rw [if_pos y] at k0
        exact g_cmpD i h3 (by omega) (by omega) ((T3.1 _ _ (by omega)).trans h2.2.2.2.2.1) (fun m4 q h4 hq T4 => k0 _ rfl (by omega) m4 q h4 hq (T2.tr (T3.tr T4)))
    have sg : ∀ x : Int32, chI B L p1 = x → (x = 60 ∨ x = 61 ∨ x = 62) → cmS (chI B L p1) (chI B L (p1 + 1)) ≠ 0 := fun x hx hh => by
      rw [hx]
      unfold cmS
      rcases hh with rfl | rfl | rfl
      · rw [if_pos rfl]; split <;> decide
      · rw [if_neg (by decide), if_neg (by decide), if_pos rfl]; decide
      · rw [if_neg (by decide), if_pos rfl]; split <;> decide
    refine bX12_compared_8 h2.1.1 (fun z => cnt (sg _ z (Or.inl rfl))) (fun _ z => cnt (sg _ z (Or.inr (Or.inl rfl)))) (fun _ _ z => cnt (sg _ z (Or.inr (Or.inr rfl)))) (fun z1 z2 z3 => ?_)
    have s0 : cmS (chI B L p1) (chI B L (p1 + 1)) = 0 := by unfold cmS; rw [if_neg z1, if_neg z3, if_neg z2]
    rw [if_pos s0] at k0
    rw [h2.1.2.2.1]
    refine s_fails (k := 0) h2.1 (fun _ => by omega) (by decide) (fun m3 h3 t3 => bX12_compared_36 h3.1 ?_)
    rw [if_pos rfl] at h3
    exact k0 _ rfl (by omega) m3 _ h3 (by omega) (T2.tr (t3.vk i))
  · rw [e1] at k0
    have hf1 : f ≠ 0 := by omega
    have e12 : mI m2 535 28 = 12 := (T2.1 _ _ (by omega)).trans h.2.2.2.2.1
    have cntD : Cl X 1 mX12_isCounted [.ref 535, .int (mI m2 535 20)] m2 (fun v m2 => Go X 9 mX12_compared Q 45 [(0, .ref 535), (1, .int (chI B L q))] (v.toList ++ []) m2) :=
      s_isCntD i h2 hf1 (fun m3 h3 T3 => g_cmpD i h3 hf1 (by omega) ((T3.1 _ _ (by omega)).trans e12) (fun m4 q4 h4 hq4 T4 => k0 f rfl hf m4 q4 h4 hq4 (T2.tr (T3.tr T4))))
    refine bX12_compared_8 h2.1 (fun _ => cntD) (fun _ _ => cntD) (fun _ _ _ => cntD) (fun _ _ _ => ?_)
    refine pCl_of (by decide +kernel) (Nat.le_of_ble_eq_true rfl) rfl (bX12_fails_0 h2.1 (fun _ => ?_) (fun z => absurd z (MS_f1 h2 hf1)))
    have a := MS_fl (g := f) h2 h2.2.2.2.2.2
    rw [h2.2.2.2.1]
    exact bX12_compared_36 a.1.1 (k0 f rfl hf _ q a.1 (by omega) (T2.tr (a.2.vk i)))
end T52
