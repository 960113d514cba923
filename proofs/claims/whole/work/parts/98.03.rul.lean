/-! ===== by which rule notes were so ===== -/
def rI : Nat → Int32
  | 0 => -1
  | i + 1 => nI i
theorem rI_s : ∀ i, rI i + 1 = rI (i + 1)
  | 0 => by show (-1 : Int32) + 1 = nI 0; decide
  | i + 1 => nI_1 i
theorem rI_ok {i nr : Nat} (h : i ≤ nr) : rI i = -1 ∨ ∃ k, k < nr ∧ rI i = nI k := by
  cases i with
  | zero => exact Or.inl rfl
  | succ i => exact Or.inr ⟨i, by omega, rfl⟩
theorem rI_in {i nr : Nat} (h : i ≤ nr) (hn : nr ≤ 6) : ¬ nI nr ≤ rI i := by
  cases i with
  | zero =>
    have : ∀ k, k ≤ 6 → ¬ nI k ≤ (-1 : Int32) := by decide +kernel
    exact this nr hn
  | succ i => exact nI_ge (by omega) (by omega)
/-- where people are by a rule from the begin on -/
abbrev zM (m : pMem) : ST := (0, fun _ => 0, fun _ => 0, mI m 547)
def pz (m : pMem) (T P : Nat) (x : Int32) (n : Nat) : Row := (dayN (cEv m (roOf x)) (cRd m 31) 6 T P (0, fun _ => 0, fun _ => 0, mI m 36) n).2.1
def NotO (m : pMem) (T P N : Nat) (x : Int32) : Prop := ∀ j, j < N → pz m T P x (mI m 123 j).toNatClampNeg (mI m 124 j).toNatClampNeg = mI m 125 j
def rEx (m : pMem) (x : Int32) (E : EV) : Prop := (x = -1 ∧ E = none) ∨ ∃ i cs, i < 6 ∧ x = nI i ∧ RuleM m i cs ∧ (∀ c ∈ cs, ClsOk c) ∧ E = some (fun w => evR w cs)
theorem rule_days {m : pMem} {nr P Sg T N M d : Nat} {x : Int32} (hr : RulesI m nr) (hv : Vw m nr P Sg T N M d) (hx : x = -1 ∨ ∃ i, i < nr ∧ x = nI i) : okR m (roOf x) ∧ ∃ E, rEx m x E ∧ ∀ (s s2 : ST), AgT T s s2 → plOk s.2.1 P Sg → ∀ k, AgT T (dayN (cEv m (roOf x)) (cRd m 31) 6 T P s k) (dayN E (mRd m) T T P s2 k) := by
  obtain ⟨⟨okd, okm, agd, agt, hpl⟩, _⟩ := hv
  obtain ⟨rok, E, age, re⟩ := rule_ev hr hx
  exact ⟨rok, E, re, fun s s2 h1 h2 k => dayN_ag age agd okd.2.2.2.1 okd.2.1 okd.2.2.2.2.2 h1 h2 k⟩
theorem okE_x {m0 m : pMem} {E : EV} {x : Int32} (h : Same ScW m0 m) (h8 : mI m 536 8 = x) (ok : rEx m0 x E) : okE m E := by
  rcases ok with ⟨o1, o2⟩ | ⟨i, cs, hi, ei, o1, o2, o3⟩
  · exact Or.inl ⟨h8.trans o1, o2⟩
  · exact Or.inr ⟨i, cs, hi, h8.trans ei, RuleM_congr (fun a k z1 z2 => h.1 a k (fun w => by unfold ScW Scr at w; omega)) o1, o2, o3⟩
theorem zpl {P Sg : Nat} : plOk (fun _ => 0) P Sg := fun q _ => ⟨0, Nat.zero_le _, rfl⟩
theorem pz_M {m : pMem} {nr P Sg T N M d : Nat} {x : Int32} {E : EV} {s2 : ST} (hv : Vw m nr P Sg T N M d) (days : ∀ (s s2 : ST), AgT T s s2 → plOk s.2.1 P Sg → ∀ k, AgT T (dayN (cEv m (roOf x)) (cRd m 31) 6 T P s k) (dayN E (mRd m) T T P s2 k)) (hs : ∀ s : ST, AgT T s (zM m) → AgT T s s2) {n q : Nat} (hq : q < 4) : (dayN E (mRd m) T T P s2 n).2.1 q = pz m T P x n q := by
  obtain ⟨_, _, _, _, _, _, _, _, _, v17⟩ := hv
  have a : AgT T (0, fun _ => 0, fun _ => 0, mI m 36) s2 := hs _ ⟨rfl, fun _ _ => rfl, fun _ _ => rfl, v17⟩
  exact ((days _ _ a zpl n).2.1 q hq).symm
theorem pz_C {m : pMem} {nr P Sg T N M d : Nat} {x : Int32} {E : EV} {s : ST} (hv : Vw m nr P Sg T N M d) (days : ∀ (s s2 : ST), AgT T s s2 → plOk s.2.1 P Sg → ∀ k, AgT T (dayN (cEv m (roOf x)) (cRd m 31) 6 T P s k) (dayN E (mRd m) T T P s2 k)) (hs : AgT T s (zM m)) (hp : plOk s.2.1 P Sg) {n q : Nat} (hq : q < 4) : (dayN (cEv m (roOf x)) (cRd m 31) 6 T P s n).2.1 q = pz m T P x n q := by
  rw [← pz_M (s2 := zM m) hv days (fun s h => h) hq]
  exact (days _ _ hs hp n).2.1 q hq
/-- the class begins to try -/
theorem tr_begin {m0 m : pMem} {nr P Sg T N M d : Nat} (hv : Vw m0 nr P Sg T N M d) (h : Same Scr m0 m) : Tr m0 (beS m 31 523) P Sg (cSt (beS m 31 523) 523) ∧ AgT T (cSt (beS m 31 523) 523) (zM m0) := by
  obtain ⟨⟨⟨_, p4, _, _, _, p6⟩, _, _, _, _⟩, _, _, _, _, _, _, _, _, v17⟩ := hv
  have e0 : mI (beS m 31 523) 523 0 = 0 := by rw [mI_beS (by omega), if_pos ⟨rfl, rfl⟩]
  have e1 : ∀ q, q < 4 → mI (beS m 31 523) 524 q = 0 := fun q hq => by rw [mI_beS (by omega), if_neg (by omega), if_pos (by omega)]
  have e2 : ∀ q, q < 4 → mI (beS m 31 523) 525 q = 0 := fun q hq => by rw [mI_beS (by omega), if_neg (by omega), if_pos (by omega)]
  have e3 : ∀ q, q < 6 → mI (beS m 31 523) 526 q = mI m0 36 q := fun q hq => by rw [mI_beS (by omega), if_neg (by omega), if_neg (by omega), if_pos (by omega)]; exact h.1 _ _ (fun w => by unfold Scr at w; omega)
  refine ⟨⟨⟨fun a k z => ?_, fun x y => h.2 x y⟩, rfl, fun q hq => ⟨0, Nat.zero_le _, e1 q (by omega)⟩⟩, ⟨e0, e1, e2, fun t ht => (e3 t (by omega)).trans (v17.1 t ht), fun t ht h6 => (e3 t h6).trans (v17.2 t ht h6)⟩⟩
  have : ¬ (513 ≤ a ∧ a ≤ 534) := fun w => z (by unfold Scr; omega)
  rw [mI_beS (by omega), if_neg (by omega), if_neg (by omega), if_neg (by omega)]
  exact h.1 a k z
section T13
variable {X : pX} {Q : Option Value → pMem → Prop} {m m0 : pMem}
theorem tr_day2 {ro : Option Nat} {P Sg T : Nat} {s : ST} (hW : Wf m0) (ok : okR m0 ro) (hd : okD m0 P Sg T) (ht : Tr m0 m P Sg s) (h : ∀ m2, Same (ScD 523) m m2 → Tr m0 m2 P Sg (dayF (cEv m0 ro) (cRd m0 31) 6 T P s).2 → Q (some (.int (dayF (cEv m0 ro) (cRd m0 31) 6 T P s).1)) m2) : Cl X 4 mX0_oneDay [.ref 512, .ref 523, rvO ro] m Q := by
  obtain ⟨h1, h2, h3⟩ := ht
  have e1 : mI m 524 = s.2.1 := (cSt_eq h2).2.1
  refine s_day523 (hW.sm h1.2) (h1.kR Scr_r ok) (h1.kD (fun k w => by unfold Scr at w; omega) hd) (by rw [e1]; exact h3) (fun m2 hm2 e => ?_)
  rw [h1.kEv Scr_r ok, cRd_s h1, h2] at e ⊢
  exact h m2 hm2 ⟨h1.sc hm2 (fun a k => ScD_s), e, dayF_pl (rd := cRd m0 31) hd.2.2.1 hd.2.2.2.1 h3⟩
theorem tr_goOn2 {ro : Option Nat} {P Sg T N : Nat} {s : ST} (hW : Wf m0) (ok : okR m0 ro) (hd : okD m0 P Sg T) (hN : N < 2 ^ 31) (ht : Tr m0 m P Sg s) (h : ∀ m2, Same (ScD 523) m m2 → Tr m0 m2 P Sg (dayN (cEv m0 ro) (cRd m0 31) 6 T P s N) → Q none m2) : Cl X 5 mX0_goOn [.ref 512, .ref 523, rvO ro, .int (nI N)] m Q := by
  obtain ⟨h1, h2, h3⟩ := ht
  have e1 : mI m 524 = s.2.1 := (cSt_eq h2).2.1
  refine s_goOn523 (hW.sm h1.2) (h1.kR Scr_r ok) (h1.kD (fun k w => by unfold Scr at w; omega) hd) (by rw [e1]; exact h3) hN (fun m2 hm2 e => ?_)
  rw [h1.kEv Scr_r ok, cRd_s h1, h2] at e
  exact h m2 hm2 ⟨h1.sc hm2 (fun a k => ScD_s), e, dayN_pl (rd := cRd m0 31) hd.2.2.1 hd.2.2.2.1 h3 N⟩
/-- what LOOK has seen stays -/
def Sn (m m2 : pMem) : Prop := ∀ a k, 528 ≤ a → a ≤ 534 → mI m2 a k = mI m a k
theorem Sn_d {m1 m2 : pMem} (h : Sn m m1) (h2 : Same (ScD 523) m1 m2) : Sn m m2 := fun a k z1 z2 => (h2.1 a k (fun w => by unfold ScD at w; omega)).trans (h a k z1 z2)
theorem Sn_b : Sn m (beS m 31 523) := fun a k z1 z2 => by rw [mI_beS (by omega), if_neg (by omega), if_neg (by omega), if_neg (by omega)]
theorem s_asNoted {N P : Nat} (hW : Wf m) (eN : mI m 30 5 = nI N) (hN : N ≤ 10) (hq : ∀ j, j < N → ∃ q, q < P ∧ mI m 124 j = nI q) (p3 : mI m 31 3 = nI P) (p4 : P ≤ 4)
    (h1 : (∀ j, j < N → mI m 123 j = mI m 523 0 → mI m 524 (mI m 124 j).toNatClampNeg = mI m 125 j) → Q (some (.int 1)) m) (h0 : (∃ j, j < N ∧ mI m 123 j = mI m 523 0 ∧ ¬ mI m 524 (mI m 124 j).toNatClampNeg = mI m 125 j) → Q (some (.int 0)) m) : Cl X 1 mX10_isAsNoted [.ref 30, .ref 523] m Q := by
  refine pCl_of (by decide +kernel) (Nat.le_of_ble_eq_true rfl) rfl (bX10_isAsNoted_0 hW sh30 sh523 ?_)
  refine upTo (P := fun j => (∀ i, i < j → mI m 123 i = mI m 523 0 → mI m 524 (mI m 124 i).toNatClampNeg = mI m 125 i) → Go X 1 mX10_isAsNoted Q 2 [(0, .ref 30), (1, .ref 523), (2, .int (nI j))] [] m) N ?_ ?_ 0 (Nat.zero_le _) (fun i hi => absurd hi (by omega))
  · intro hall
    have hz : mI m 30 5 ≤ nI N := by rw [eN]; exact Int32.le_refl _
    exact bX10_isAsNoted_2 hW sh30 sh523 (fun _ => h1 hall) (fun z => absurd hz z) (fun z => absurd hz z) (fun z => absurd hz z) (fun z => absurd hz z) (fun z => absurd hz z) (fun z => absurd hz z) (fun z => absurd hz z) (fun z => absurd hz z)
  · intro j hj ih hall
    have hlt : ¬ mI m 30 5 ≤ nI j := by rw [eN]; exact nI_ge hj (by omega)
    have h10 : ¬ (10 : Int32) ≤ nI j := nI_ge (a := j) (b := 10) (by omega) (by decide)
    have ej : (nI j).toNatClampNeg = j := nI_clamp (by omega)
    have vj : vp_in (nI j) 10 := vp_in_nI (by omega) (by decide)
    obtain ⟨q, hqP, eq⟩ := hq j hj
    have per : ¬ mI m 124 (nI j).toNatClampNeg < 0 ∧ ¬ mI m 31 3 ≤ mI m 124 (nI j).toNatClampNeg ∧ ¬ (4 : Int32) ≤ mI m 124 (nI j).toNatClampNeg := by
      rw [ej]; exact (perC (z := 4) p3 (K := 4) rfl p4 (by decide)).mpr ⟨q, hqP, eq⟩
    refine bX10_isAsNoted_2 hW sh30 sh523 (fun z => absurd z hlt) (fun _ z => absurd z h10) (fun _ _ => vj) (fun _ _ z => ?_) (fun _ _ _ z => vp_in_cmp (N := 4) z.1 z.2.2 (by decide)) (fun _ _ _ _ => vj) (fun _ _ z1 _ z3 => ?_) (fun _ _ z1 _ z3 => ?_) (fun _ _ _ z => absurd per z)
    · rw [ej] at z
      rw [nI_1]
      refine ih (fun i hi => ?_)
      by_cases e : i = j
      · subst e; exact fun y => absurd y z
      · exact hall i (by omega)
    · rw [ej] at z1 z3
      rw [nI_1]
      refine ih (fun i hi => ?_)
      by_cases e : i = j
      · subst e; exact fun _ => z3
      · exact hall i (by omega)
    · rw [ej] at z1 z3
      exact h0 ⟨j, hj, z1, z3⟩
theorem s_would {nr P Sg T N M d : Nat} {x : Int32} (hW : Wf m0) (hr : RulesI m0 nr) (hv : Vw m0 nr P Sg T N M d) (hs : Same Scr m0 m) (hx : x = -1 ∨ ∃ i, i < nr ∧ x = nI i)
    (h1 : NotO m0 T P N x → ∀ m2, Same Scr m0 m2 → Sn m m2 → Q (some (.int 1)) m2) (h0 : ¬ NotO m0 T P N x → ∀ m2, Same Scr m0 m2 → Sn m m2 → Q (some (.int 0)) m2) : Cl X 5 mX11_wouldBeAsNoted [.ref 0, .int x] m Q := by
  obtain ⟨rok, E, re, days⟩ := rule_days hr hv hx
  have tb := tr_begin hv hs
  have hv0 := hv
  obtain ⟨⟨okd, _⟩, ⟨_, _, _, _, v5, _⟩, ⟨hN, _⟩, _, _, _, _, _, v16, _⟩ := hv
  have okd0 := okd
  obtain ⟨p3, p4, p2, p8, pT, p6⟩ := okd
  refine pCl_of (by decide +kernel) (Nat.le_of_ble_eq_true rfl) rfl (bX11_wouldBeAsNoted_0 (hW.sm hs.2) ?_)
  refine upTo (P := fun n => (∀ j, j < N → (mI m0 123 j).toNatClampNeg < n → pz m0 T P x (mI m0 123 j).toNatClampNeg (mI m0 124 j).toNatClampNeg = mI m0 125 j) → ∀ m5, Tr m0 m5 P Sg (dayN (cEv m0 (roOf x)) (cRd m0 31) 6 T P (cSt (beS m 31 523) 523) n) → Sn m m5 → Go X 5 mX11_wouldBeAsNoted Q 16 [(0, .ref 0), (1, .int x), (2, .int (nI n))] [] m5) 61 ?_ ?_ 0 (Nat.zero_le _) (fun j _ hj => absurd hj (by omega)) _ tb.1 Sn_b
  · intro hall m5 t5 sn5
    refine bX11_wouldBeAsNoted_16 (hW.sm t5.1.2) (fun _ => h1 (fun j hj => hall j hj ?_) m5 t5.1 sn5) (fun z => absurd (by decide) z)
    obtain ⟨w, q, hw60, hqP, e1, _⟩ := v16 j hj
    rw [e1, nI_clamp (by omega)]; omega
  · intro n hn ih hall m5 t5 sn5
    have hW5 := hW.sm t5.1.2
    have e4 := cSt_eq t5.2.1
    have g : ∀ a k, (a ≤ 36 ∧ 28 ≤ a) ∨ a = 0 ∨ (123 ≤ a ∧ a ≤ 125) → mI m5 a k = mI m0 a k := fun a k z1 => t5.1.1 _ _ (fun w => by unfold Scr at w; omega)
    have e5 : mI m5 523 0 = nI n := by
      rw [e4.1, dayN_1, show (cSt (beS m 31 523) 523).1 = nI 0 from tb.2.1, nI_add, Nat.zero_add]
    have e24 : ∀ q, q < 4 → mI m5 524 q = pz m0 T P x n q := fun q hq => by
      rw [show mI m5 524 = _ from e4.2.1]
      exact pz_C hv0 days tb.2 tb.1.2.2 hq
    refine bX11_wouldBeAsNoted_16 hW5 (fun z => absurd z (nI_nlt (a := 60) (b := n) (by omega) (by decide))) (fun _ => ?_)
    refine s_asNoted (P := P) (N := N) hW5 ((g _ _ (by omega)).trans v5) hN (fun j hj => ?_) ((g _ _ (by omega)).trans p3) p4 (fun z => ?_) (fun z => ?_)
    · obtain ⟨w, q, _, hqP, _, _, e3, _⟩ := v16 j hj
      exact ⟨q, hqP, (g _ _ (by omega)).trans e3⟩
    · refine bX11_wouldBeAsNoted_33 hW5 (fun _ => ?_) (fun y => absurd y (by decide))
      refine s_ruleOf hW5 hr.1 ((g _ _ (by omega)).trans hr.2.1) hx ?_
      have dy : Cl X 4 mX0_oneDay [.ref 512, .ref 523, rvO (roOf x)] m5 (fun v m2 => Go X 5 mX11_wouldBeAsNoted Q 54 [(0, .ref 0), (1, .int x), (2, .int (nI n))] (v.toList ++ []) m2) := by
        refine tr_day2 hW rok okd0 t5 (fun m6 hm6 t6 => ?_)
        refine bX11_wouldBeAsNoted_54 (hW.sm t6.1.2) ?_
        rw [nI_1]
        refine ih (fun j hj hlt => ?_) m6 t6 (Sn_d sn5 hm6)
        obtain ⟨w, q, hw60, hqP, e1, _, e3, _⟩ := v16 j hj
        by_cases e : (mI m0 123 j).toNatClampNeg = n
        · have zz := z j hj (by
            rw [g _ _ (by omega), e5, e1]
            rw [e1, nI_clamp (by omega)] at e
            rw [e])
          rw [g 124 j (by omega), g 125 j (by omega), e3, nI_clamp (by omega), e24 q (by omega)] at zz
          rw [e, e3, nI_clamp (by omega)]
          exact zz
        · exact hall j hj (by omega)
      cases hro : roOf x with
      | none => rw [hro] at dy; exact bX11_wouldBeAsNoted_51v1 hW5 sh523 dy
      | some r => rw [hro] at dy rok; exact bX11_wouldBeAsNoted_51 hW5 (rok r rfl).1 sh523 dy
    · refine bX11_wouldBeAsNoted_33 hW5 (fun y => absurd rfl y) (fun _ => h0 (fun hO => ?_) m5 t5.1 sn5)
      obtain ⟨j, hj, z1, z2⟩ := z
      obtain ⟨w, q, hw60, hqP, e1, _, e3, _⟩ := v16 j hj
      have := hO j hj
      rw [g 123 j (by omega), e5, e1, nI_eq (by omega) (by omega)] at z1
      rw [e1, e3, nI_clamp (by omega), nI_clamp (by omega), z1] at this
      rw [g 124 j (by omega), g 125 j (by omega), e3, nI_clamp (by omega), e24 q (by omega)] at z2
      exact z2 this
end T13
