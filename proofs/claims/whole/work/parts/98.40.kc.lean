/-! ===== the class reads a rule ===== -/
def SZ (r : Nat) (us : List Int32) (m : pMem) : Prop := mI m r 2 = nI us.length ∧ ∀ j, j < us.length → mI m (r + 1) j = us.getD j 0
def Kk (r : Nat) (m m2 : pMem) : Prop := Same (fun a k => (a = 1 ∧ (k = 2 ∨ k = 3)) ∨ (a = 10 ∧ k = 2) ∨ (a = r ∧ k = 2) ∨ a = r + 1) m m2
theorem Kk.rf {r : Nat} {m : pMem} : Kk r m m := Same.rf
theorem Kk.tr {r : Nat} {m m2 m3 : pMem} (h : Kk r m m2) (h2 : Kk r m2 m3) : Kk r m m3 := Same.tr h h2
theorem Tk.kk {m m2 : pMem} (r : Nat) (h : Tk m m2) : Kk r m m2 := Same.mo h (fun _ _ z => Or.inl z)
def isRu (r : Nat) : Prop := ∃ i, i < 6 ∧ r = 12 + 3 * i
theorem isRu.sh {r : Nat} (h : isRu r) : SH[r]? = some (.inl 6) := by
  obtain ⟨i, hi, rfl⟩ := h
  exact shRules i hi
def KS (B : Nat → Nat) (L p c r : Nat) (us : List Int32) (m : pMem) : Prop := CS B L p m ∧ mI m 10 2 = nI c ∧ SZ r us m ∧ mR m 10 1 = some r ∧ isRu r
theorem gd_lt {α : Type} {us : List α} {x d : α} {j : Nat} (h : j < us.length) : (us ++ [x]).getD j d = us.getD j d := by
  simp [List.getD_eq_getElem?_getD, List.getElem?_append_left h]
theorem gd_eq {α : Type} {us : List α} {x d : α} : (us ++ [x]).getD us.length d = x := by
  simp [List.getD_eq_getElem?_getD]
theorem KS_tk {B : Nat → Nat} {L p q c r : Nat} {us : List Int32} {m m2 : pMem} (t : Tk m m2) (h2 : CS B L q m2) (h : KS B L p c r us m) : KS B L q c r us m2 := by
  obtain ⟨h1, hc, ⟨s1, s2⟩, hr, i, hi, rfl⟩ := h
  exact ⟨h2, (t.1 _ _ (by omega)).trans hc, ⟨(t.1 _ _ (by omega)).trans s1, fun j hj => (t.1 _ _ (by omega)).trans (s2 j hj)⟩, (t.2 _ _).trans hr, i, hi, rfl⟩
theorem KS_cn {B : Nat → Nat} {L p c r : Nat} {us : List Int32} {m : pMem} (d : Nat) (h : KS B L p c r us m) : KS B L p d r us (uI m 10 2 (nI d)) ∧ Kk r m (uI m 10 2 (nI d)) := by
  obtain ⟨h1, hc, ⟨s1, s2⟩, hr, i, hi, rfl⟩ := h
  refine ⟨⟨CS_wr h1 (by omega), by rw [mI_uI, if_pos ⟨rfl, rfl⟩], ⟨?_, fun j hj => ?_⟩, hr, i, hi, rfl⟩, Same.uI Same.rf (Or.inr (Or.inl ⟨rfl, rfl⟩))⟩
  · rw [mI_uI, if_neg (by omega)]; exact s1
  · rw [mI_uI, if_neg (by omega)]; exact s2 j hj
/-- a waiting sign, as a step -/
def stE (t : Int32) : Int32 := if t = 0 then 0 else enc (t, 0)
theorem stE_0 : stE 0 = 0 := by decide
theorem stE_w {t : Int32} (h : isAr t) : stE t = enc (t, 0) ∧ stE t ≠ 0 ∧ (stE t = -21 ↔ t = 2) ∧ (stE t = -22 ↔ t = 3) := by
  unfold isAr at h
  rcases h with rfl | rfl | rfl | rfl | rfl <;> decide
theorem pend_enc (w : Int32) : (pend w).map enc = if w = 0 then [] else [stE w] := by
  unfold pend stE
  by_cases e : w = 0
  · rw [if_pos e, if_pos e]; rfl
  · rw [if_neg e, if_neg e, if_neg e]; rfl
theorem num_vl {B : Nat → Nat} {L s : Nat} (h : ¬ nd B L s = s) : numF B L s 0 100000 = if 5 < nd B L s - s then .inl (2 + 8 * s) else .inr (nv B L s, nd B L s) := by
  have hv := nv_lt (B := B) (L := L) (p := s)
  unfold numF
  rw [if_neg h]
  by_cases c : 5 < nd B L s - s
  · rw [if_pos (Or.inl c), if_pos c]
  · rw [if_neg (by omega), if_neg c]
section T46
variable {X : pX} {Q : Option Value → pMem → Prop} {m : pMem} {B : Nat → Nat} {L p c r : Nat} {us : List Int32}
theorem s_rAdd {x : Int32} (h : KS B L p c r us m) (hl : us.length < 400) (k : ∀ m2, KS B L p c r (us ++ [x]) m2 → Kk r m m2 → Q none m2) : Cl X 0 mX6_add [.ref r, .int x] m Q := by
  have hr := h.2.2.2.2.sh
  obtain ⟨h1, hc, ⟨s1, s2⟩, hR, hru⟩ := h
  refine pCl_of (by decide +kernel) (Nat.le_of_ble_eq_true rfl) rfl (bX6_add_0 h1.1 hr (fun z => ?_) (fun _ => ?_) (fun _ => ?_))
  · rw [s1] at z
    exact absurd z (nI_ge (a := us.length) (b := 400) hl (by decide))
  · rw [s1]; exact vp_in_nI hl (by decide)
  · rw [mI_uI, if_neg (by omega), s1, nI_1, nI_clamp (by omega)]
    obtain ⟨i, hi, rfl⟩ := hru
    refine k _ ⟨CS_wr (CS_wr h1 (by omega)) (by omega), ?_, ⟨?_, fun j hj => ?_⟩, hR, i, hi, rfl⟩ (Same.uI (Same.uI Same.rf (Or.inr (Or.inr (Or.inr rfl)))) (Or.inr (Or.inr (Or.inl ⟨rfl, rfl⟩))))
    · rw [mI_uI, if_neg (by omega), mI_uI, if_neg (by omega)]; exact hc
    · rw [mI_uI, if_pos ⟨rfl, rfl⟩, List.length_append]; rfl
    · rw [mI_uI, if_neg (by omega), mI_uI]
      rw [List.length_append] at hj
      have hj : j < us.length + 1 := hj
      by_cases e : j = us.length
      · subst e; rw [if_pos ⟨rfl, rfl⟩, gd_eq]
      · rw [if_neg (by omega), gd_lt (by omega)]; exact s2 j (by omega)
theorem s_rStep {w : Int32} (h : KS B L p c r us m) (hl : us.length < 400) (k : ∀ m2, KS B L p c r (us ++ (pend w).map enc) m2 → Kk r m m2 → Q none m2) (hw : w = 0 ∨ stE w ≠ 0) : Cl X 1 mX7_addStep [.ref 10, .int (stE w)] m Q := by
  refine pCl_of (by decide +kernel) (Nat.le_of_ble_eq_true rfl) rfl (bX7_addStep_0 h.1.1 h.2.2.2.1 h.2.2.2.2.sh (fun z => ?_) (fun z => ?_))
  · have w0 : w = 0 := hw.resolve_right (fun y => y z)
    rw [pend_enc, if_pos w0, List.append_nil] at k
    exact k m h Kk.rf
  · have w0 : ¬ w = 0 := fun y => z (by rw [y]; exact stE_0)
    rw [pend_enc, if_neg w0] at k
    exact s_rAdd h hl (fun m2 h2 t2 => bX7_addStep_12 h2.1.1 (k m2 h2 t2))
theorem s_cVal (h : KS B L p c r us m) (hc : c ≤ 60) (hu : us.length < 400) (k1 : ∀ p1 c1 ts, vlF B L p c = .inr (p1, c1, ts) → ∀ m2, KS B L p1 c1 r (us ++ ts.map enc) m2 → Kk r m m2 → Q (some (.int 1)) m2) (k0 : ∀ f, vlF B L p c = .inl f → ∀ m2, CF f m2 → Kk r m m2 → Q (some (.int 0)) m2) : Cl X 7 mX7_readValue [.ref 10] m Q := by
  have hs := sk_b (B := B) h.1.2.2.2.2
  have hL := h.1.2.1.1
  refine pCl_of (by decide +kernel) (Nat.le_of_ble_eq_true rfl) rfl (bX7_readValue_0 h.1.1 (s_next h.1 (fun m2 h2 t2 => bX7_readValue_7 h2.1 ?_)))
  have K2 := KS_tk t2 h2 h
  refine s_isDig h2.1 (fun z => ?_) (fun z => ?_)
  · have nd1 : ¬ nd B L (sk B L p) = sk B L p := (nd_dg (fun hl => (CS_ch h2 hl).1)).mp z
    refine bX7_readValue_10 h2.1 (fun y => absurd y (by decide)) (fun _ => ?_)
    rw [h2.2.2.1]
    have nv1 := num_vl nd1
    refine s_num (lo := 0) (hi := 100000) h2 rfl (by decide) (by decide) (by decide) (fun v q e _ hv _ m3 h3 t3 => bX7_readValue_33 h3.1 ?_) (fun f e m3 h3 t3 => bX7_readValue_33 h3.1 ?_)
    · by_cases c5 : 5 < nd B L (sk B L p) - sk B L p
      · rw [if_pos c5] at nv1; rw [nv1] at e; cases e
      · rw [if_neg c5] at nv1
        rw [nv1] at e
        cases e
        have K3 := KS_tk t3 h3 K2
        have cn := KS_cn (c + 1) K3
        have e10 : mI m3 10 2 = nI c := K3.2.1
        refine bX7_readValue_45 h3.1 (r91 := r) K3.2.2.2.1 h.2.2.2.2.sh (fun _ _ y => absurd y (by decide)) (fun _ y _ => ?_) (fun _ y => ?_) (fun y => absurd y (nI_neM (by omega)))
        · rw [e10] at y
          have y := nI_lt' (b := 60) (by omega) (by decide) y
          have ev : vlF B L p c = .inr (nd B L (sk B L p), c + 1, [(0, nI (nv B L (sk B L p)))]) := by unfold vlF; rw [if_pos nd1, if_neg c5, if_neg (by omega)]
          rw [e10, nI_1]
          refine s_rAdd cn.1 hu (fun m4 h4 t4 => bX7_readValue_108 h4.1.1 (k1 _ _ _ ev m4 ?_ ((t2.tr t3).kk r |>.tr (cn.2.tr t4))))
          exact h4
        · rw [e10] at y
          have y : 60 ≤ c := Nat.not_lt.mp fun w => y (nI_lt (b := 60) w (by decide))
          have ev : vlF B L p c = .inl (4 + 8 * sk B L p) := by unfold vlF; rw [if_pos nd1, if_neg c5, if_pos y]
          refine s_fail (k := 3) h3.1 h3.2.2.2.1 (by omega) (by decide) (fun m4 h4 t4 => bX7_readValue_79 h4.1 (Or.inl rfl) (k0 _ ev m4 ?_ ((t2.tr (t3.tr t4)).kk r)))
          rw [show 4 + 8 * sk B L p = 1 + 8 * sk B L p + 3 by omega]; exact h4
    · by_cases c5 : 5 < nd B L (sk B L p) - sk B L p
      · rw [if_pos c5] at nv1
        rw [nv1] at e
        cases e
        have ev : vlF B L p c = .inl (2 + 8 * sk B L p) := by unfold vlF; rw [if_pos nd1, if_pos c5]
        have K3r : mR m3 10 1 = some r := (t3.2 _ _).trans K2.2.2.2.1
        exact bX7_readValue_45 h3.1 (r91 := r) K3r h.2.2.2.2.sh (fun y => absurd rfl y) (fun y => absurd rfl y) (fun y => absurd rfl y) (fun _ => s_fail2 h3 (bX7_readValue_60 h3.1 (Or.inl rfl) (k0 _ ev m3 h3 ((t2.tr t3).kk r))))
      · rw [if_neg c5] at nv1; rw [nv1] at e; cases e
  · have nd1 : ¬ ¬ nd B L (sk B L p) = sk B L p := fun y => z ((nd_dg (fun hl => (CS_ch h2 hl).1)).mpr y)
    refine bX7_readValue_10 h2.1 (fun _ => ?_) (fun y => absurd rfl y)
    rw [h2.2.2.1]
    refine s_two (i := 1) h2 (by decide) (fun hw m3 h3 t3 => ?_) (fun hw => ?_)
    · have hw : wlF B L (sk B L p) 1 < 12 := hw
      have K3 := KS_tk t3 h3 K2
      have cn := KS_cn (c + 1) K3
      have e10 : mI m3 10 2 = nI c := K3.2.1
      refine bX7_readValue_45 h3.1 (r91 := r) K3.2.2.2.1 h.2.2.2.2.sh (fun _ y _ => ?_) (fun _ _ y => absurd rfl y) (fun _ y => ?_) (fun y => absurd y (nI_neM (by omega)))
      · rw [e10] at y
        have y := nI_lt' (b := 60) (by omega) (by decide) y
        have ev : vlF B L p c = .inr (sk B L p + wlen 1 (wlF B L (sk B L p) 1), c + 1, [(1, nI (wlF B L (sk B L p) 1))]) := by unfold vlF; rw [if_neg nd1, if_neg (by omega), if_neg (by omega)]
        rw [e10, nI_1]
        exact s_rAdd cn.1 hu (fun m4 h4 t4 => bX7_readValue_108 h4.1.1 (k1 _ _ _ ev m4 h4 ((t2.tr t3).kk r |>.tr (cn.2.tr t4))))
      · rw [e10] at y
        have y : 60 ≤ c := Nat.not_lt.mp fun w => y (nI_lt (b := 60) w (by decide))
        have ev : vlF B L p c = .inl (4 + 8 * sk B L p) := by unfold vlF; rw [if_neg nd1, if_neg (by omega), if_pos y]
        refine s_fail (k := 3) h3.1 h3.2.2.2.1 (by omega) (by decide) (fun m4 h4 t4 => bX7_readValue_79 h4.1 (Or.inl rfl) (k0 _ ev m4 ?_ ((t2.tr (t3.tr t4)).kk r)))
        rw [show 4 + 8 * sk B L p = 1 + 8 * sk B L p + 3 by omega]; exact h4
    · have hw : wlF B L (sk B L p) 1 = 12 := hw
      have ev : vlF B L p c = .inl (1 + 8 * sk B L p) := by unfold vlF; rw [if_neg nd1, if_pos hw]
      refine bX7_readValue_45 h2.1 (r91 := r) K2.2.2.2.1 h.2.2.2.2.sh (fun y => absurd rfl y) (fun y => absurd rfl y) (fun y => absurd rfl y) (fun _ => ?_)
      exact s_fail (k := 0) h2.1 h2.2.2.2.1 (by omega) (by decide) (fun m4 h4 t4 => bX7_readValue_60 h4.1 (Or.inl rfl) (k0 _ ev m4 h4 ((t2.tr t4).kk r)))
theorem s_stepOf {x : Int32} (hW : Wf m) (k : Q (some (.int (stE (stp x)))) m) : Cl X 0 mX7_stepOf [.int x] m Q := by
  have no : ¬ x = 37 → ¬ x = 42 → ¬ x = 43 → ¬ x = 45 → ¬ x = 47 → Q (some (.int (0 : Int32))) m := fun a1 a2 a3 a4 a5 => by
    have e : stp x = 0 := by unfold stp; rw [if_neg a3, if_neg a4, if_neg a2, if_neg a5, if_neg a1]
    rw [e, stE_0] at k; exact k
  refine pCl_of (by decide +kernel) (Nat.le_of_ble_eq_true rfl) rfl (bX7_stepOf_0 hW (fun z => ?_) (fun _ z => ?_) (fun _ _ z => ?_) (fun _ _ _ z => ?_) (fun _ _ _ _ z => ?_) (fun a1 a2 a3 a4 a5 _ => no a1 a2 a3 a4 a5) (fun a1 a2 a3 a4 a5 _ _ => no a1 a2 a3 a4 a5) (fun a1 a2 a3 a4 a5 _ _ _ => no a1 a2 a3 a4 a5) (fun a1 a2 a3 a4 a5 _ _ _ _ => no a1 a2 a3 a4 a5) (fun a1 a2 a3 a4 a5 _ _ _ _ _ => no a1 a2 a3 a4 a5) (fun a1 a2 a3 a4 a5 _ _ _ _ _ _ => no a1 a2 a3 a4 a5) (fun a1 a2 a3 a4 a5 _ _ _ _ _ _ => no a1 a2 a3 a4 a5))
  · rw [z, show stE (stp 37) = -25 by decide] at k; exact k
  · rw [z, show stE (stp 42) = -23 by decide] at k; exact k
  · rw [z, show stE (stp 43) = -21 by decide] at k; exact k
  · rw [z, show stE (stp 45) = -22 by decide] at k; exact k
  · rw [z, show stE (stp 47) = -24 by decide] at k; exact k
theorem sumL_0 {e p c : Nat} {w : Int32} (h : stp (chI B L (sk B L p)) = 0) : sumL B L (e + 1) p c w = .inr (sk B L p, c, pend w) := by rw [sumL, if_pos h]
theorem sumL_f {e p c f : Nat} {w : Int32} (h : stp (chI B L (sk B L p)) ≠ 0) (h2 : vlF B L (sk B L p + 1) c = .inl f) : sumL B L (e + 1) p c w = .inl f := by rw [sumL, if_neg h, h2]
theorem sumL_w {e p c p2 c2 : Nat} {w : Int32} {t2 : List Tok} (h : stp (chI B L (sk B L p)) ≠ 0) (h2 : vlF B L (sk B L p + 1) c = .inr (p2, c2, t2)) (h3 : stp (chI B L (sk B L p)) = 2 ∨ stp (chI B L (sk B L p)) = 3) : sumL B L (e + 1) p c w = preR (pend w ++ t2) (sumL B L e p2 c2 (stp (chI B L (sk B L p)))) := by
  rw [sumL, if_neg h, h2]
  simp only
  rw [if_pos h3]
theorem sumL_n {e p c p2 c2 : Nat} {w : Int32} {t2 : List Tok} (h : stp (chI B L (sk B L p)) ≠ 0) (h2 : vlF B L (sk B L p + 1) c = .inr (p2, c2, t2)) (h3 : ¬ (stp (chI B L (sk B L p)) = 2 ∨ stp (chI B L (sk B L p)) = 3)) : sumL B L (e + 1) p c w = preR (t2 ++ [(stp (chI B L (sk B L p)), 0)]) (sumL B L e p2 c2 w) := by
  rw [sumL, if_neg h, h2]
  simp only
  rw [if_neg h3]
theorem stE_nz {w : Int32} (hw : w = 0 ∨ w = 2 ∨ w = 3 ∨ w = 11) : w = 0 ∨ stE w ≠ 0 := by
  rcases hw with z | z | z | z
  · exact Or.inl z
  · exact Or.inr (by rw [z]; decide)
  · exact Or.inr (by rw [z]; decide)
  · exact Or.inr (by rw [z]; decide)
theorem g_cSum : ∀ e p c us w i (m : pMem), L < p + e → KS B L p c r us m → i + 1 ≤ p → (w = 0 ∨ w = 2 ∨ w = 3) → c ≤ 60 → 3 * us.length ≤ 14 * c + 45 → (∀ p1 c1 ts, sumL B L e p c w = .inr (p1, c1, ts) → ∀ m2, KS B L p1 c1 r (us ++ ts.map enc) m2 → Kk r m m2 → Q (some (.int 1)) m2) → (∀ f, sumL B L e p c w = .inl f → ∀ m2, CF f m2 → Kk r m m2 → Q (some (.int 0)) m2) → Go X 8 mX7_readSum Q 13 [(0, .ref 10), (1, .int (stE w)), (2, .int (nI i))] [] m := by
  intro e
  induction e with
  | zero => intro p c us w i m hL h; have := h.1.2.2.2.2; omega
  | succ e ih =>
    intro p c us w i m hLe h hi hw hc hu k1 k0
    have hL := h.1.2.1.1
    have hl := h.1.2.2.2.2
    have hs := sk_b (B := B) hl
    have nz := stE_nz (w := w) (by rcases hw with z | z | z <;> simp [z])
    refine bX7_readSum_13 h.1.1 (fun z => absurd z (nI_ge (a := i) (b := 400) (by omega) (by decide))) (fun _ => s_next h.1 (fun m2 h2 t2 => bX7_readSum_27 h2.1 (s_stepOf h2.1 ?_)))
    have K2 := KS_tk t2 h2 h
    by_cases c0 : stp (chI B L (sk B L p)) = 0
    · have k1 := k1 _ _ _ (sumL_0 (e := e) (w := w) (c := c) c0)
      rw [c0, stE_0]
      refine bX7_readSum_30 h2.1 (fun z => absurd rfl z) (fun z => absurd rfl z) (fun z => absurd rfl z) (fun _ => s_rStep K2 (by omega) (fun m3 h3 t3 => bX7_readSum_115v1 h3.1.1 (k1 m3 h3 ((t2.kk r).tr t3))) nz)
    · have sa := stp_ar c0
      have hlt := ch_lt (B := B) (L := L) (q := sk B L p) rfl sa.2.1
      have sf := fun f => sumL_f (e := e) (w := w) (c := c) (f := f) c0
      have sw := fun p2 c2 t2 => sumL_w (e := e) (w := w) (c := c) (p2 := p2) (c2 := c2) (t2 := t2) c0
      have sn := fun p2 c2 t2 => sumL_n (e := e) (w := w) (c := c) (p2 := p2) (c2 := c2) (t2 := t2) c0
      generalize stp (chI B L (sk B L p)) = t at c0 sa sf sw sn ⊢
      obtain ⟨e1, e2, e3, e4⟩ := stE_w sa.1
      have a := CS_at (q := sk B L p + 1) h2 (by omega)
      have K3 := KS_tk a.2 a.1 K2
      have T3 := (t2.tr a.2).kk r
      have em : mI m2 1 2 + (1 : Int32) = nI (sk B L p + 1) := by rw [h2.2.2.1, nI_1]
      have wts : (t = 2 ∨ t = 3) → Go X 8 mX7_readSum Q 63 [(0, .ref 10), (1, .int (stE w)), (2, .int (nI i)), (3, .int (stE t))] [] (uI m2 1 2 (nI (sk B L p + 1))) := by
        intro c3
        refine bX7_readSum_63 a.1.1 (bX7_readSum_68v1 a.1.1 (s_rStep K3 (by omega) (fun m3 h3 t3 => bX7_readSum_80 h3.1.1 ?_) nz))
        refine s_cVal h3 hc (by rw [List.length_append, List.length_map, pend_len]; split <;> omega) (fun p4 c4 ts4 e4 m4 h4 t4 => ?_) (fun f ef m4 h4 t4 => ?_)
        · obtain ⟨v1, v2, v3, v4, v5, v6, v7⟩ := vl_ok (by omega) e4
          have sw := sw _ _ _ e4 c3
          refine bX7_readSum_86 h4.1.1 h4.2.2.2.1 h4.2.2.2.2.sh (fun _ _ => ?_) (fun _ y => absurd y (by decide)) (fun y => absurd y (by decide))
          rw [nI_1]
          refine ih p4 c4 _ t (i + 1) m4 (by omega) h4 (by omega) (Or.inr c3) (by omega) (by rw [List.length_append, List.length_append, List.length_map, List.length_map, pend_len, v6]; split <;> omega) (fun p5 c5 ts5 e5 m5 h5 t5 => ?_) (fun f ef m5 h5 t5 => ?_)
          · rw [e5] at sw
            refine k1 _ _ _ sw m5 ?_ (T3.tr (t3.tr (t4.tr t5)))
            simp only [List.map_append, ← List.append_assoc] at h5 ⊢
            exact h5
          · rw [ef] at sw
            exact k0 f sw m5 h5 (T3.tr (t3.tr (t4.tr t5)))
        · refine bX7_readSum_86 h4.1 (r97 := r) ((t4.2 _ _).trans h3.2.2.2.1) h.2.2.2.2.sh (fun y => absurd rfl y) (fun y => absurd rfl y) (fun _ => k0 f (sf f ef) m4 h4 (T3.tr (t3.tr t4)))
      refine bX7_readSum_30 h2.1 (fun _ z => ?_) (fun _ z1 z2 => ?_) (fun _ _ z => ?_) (fun z => absurd z e2)
      · rw [em]; exact wts (Or.inl (e3.mp z))
      · rw [em]
        have c3 : ¬ (t = 2 ∨ t = 3) := fun y => y.elim (fun y => z1 (e3.mpr y)) (fun y => z2 (e4.mpr y))
        refine bX7_readSum_68 a.1.1 (s_cVal K3 hc (by omega) (fun p4 c4 ts4 e4 m4 h4 t4 => ?_) (fun f ef m4 h4 t4 => ?_))
        · obtain ⟨v1, v2, v3, v4, v5, v6, v7⟩ := vl_ok (by omega) e4
          have sn := sn _ _ _ e4 c3
          refine bX7_readSum_86 h4.1.1 h4.2.2.2.1 h4.2.2.2.2.sh (fun _ y => absurd rfl y) (fun _ _ => s_rAdd h4 (by rw [List.length_append, List.length_map, v6]; omega) (fun m5 h5 t5 => bX7_readSum_104 h5.1.1 ?_)) (fun y => absurd y (by decide))
          rw [nI_1]
          refine ih p4 c4 _ w (i + 1) m5 (by omega) h5 (by omega) hw (by omega) (by rw [List.length_append, List.length_append, List.length_map, v6]; show 3 * (us.length + 1 + 1) ≤ _; omega) (fun p6 c6 ts6 e6 m6 h6 t6 => ?_) (fun f ef m6 h6 t6 => ?_)
          · rw [e6] at sn
            refine k1 _ _ _ sn m6 ?_ (T3.tr (t4.tr (t5.tr t6)))
            rw [e1] at h6
            simp only [List.map_append, ← List.append_assoc] at h6 ⊢
            exact h6
          · rw [ef] at sn
            exact k0 f sn m6 h6 (T3.tr (t4.tr (t5.tr t6)))
        · exact bX7_readSum_86 h4.1 (r97 := r) ((t4.2 _ _).trans K3.2.2.2.1) h.2.2.2.2.sh (fun y => absurd rfl y) (fun y => absurd rfl y) (fun _ => k0 f (sf f ef) m4 h4 (T3.tr t4))
      · rw [em]; exact wts (Or.inr (e4.mp z))
theorem s_cSum (h : KS B L p c r us m) (hc : c ≤ 60) (hu : 3 * us.length ≤ 14 * c + 45) (k1 : ∀ p1 c1 ts, smF B L p c = .inr (p1, c1, ts) → ∀ m2, KS B L p1 c1 r (us ++ ts.map enc) m2 → Kk r m m2 → Q (some (.int 1)) m2) (k0 : ∀ f, smF B L p c = .inl f → ∀ m2, CF f m2 → Kk r m m2 → Q (some (.int 0)) m2) : Cl X 8 mX7_readSum [.ref 10] m Q := by
  refine pCl_of (by decide +kernel) (Nat.le_of_ble_eq_true rfl) rfl (bX7_readSum_0 h.1.1 (s_cVal h hc (by omega) (fun p2 c2 t2 e2 m2 h2 t2' => ?_) (fun f ef m2 h2 t2' => ?_)))
  · obtain ⟨v1, v2, v3, v4, v5, v6, v7⟩ := vl_ok h.1.2.2.2.2 e2
    have es : smF B L p c = preR t2 (sumL B L (L + 1) p2 c2 0) := by unfold smF; rw [e2]
    refine bX7_readSum_6 h2.1.1 (fun _ => ?_) (fun y => absurd y (by decide))
    refine g_cSum (L + 1) p2 c2 _ 0 0 m2 (by omega) h2 (by omega) (Or.inl rfl) (by omega) (by rw [List.length_append, List.length_map, v6]; omega) (fun p3 c3 ts3 e3 m3 h3 t3 => ?_) (fun f ef m3 h3 t3 => ?_)
    · rw [e3] at es
      refine k1 _ _ _ es m3 ?_ (t2'.tr t3)
      rw [List.map_append, ← List.append_assoc]; exact h3
    · rw [ef] at es
      exact k0 f es m3 h3 (t2'.tr t3)
  · exact bX7_readSum_6 h2.1 (fun y => absurd rfl y) (fun _ => k0 f (by unfold smF; rw [ef]) m2 h2 t2')
end T46
