/-- the things in the town, as bits: q people are through -/
def tTown (pl wh : Row) (S : Int32) (n : Nat) : Nat → Int32
  | 0 => tAt wh (10 + S) n
  | q + 1 => if pl q = S then tTown pl wh S n q ||| tAt wh (nI q) n else tTown pl wh S n q
/-! ===== the class: roads, states, rules ===== -/
def cRd (m : pMem) (a : Nat) : RD := (mI m a 1, mI m a 2, mI m (a + 1), mI m (a + 2), mI m (a + 3), mI m (a + 4))
def cSt (m : pMem) (a : Nat) : ST := (mI m a 0, mI m (a + 1), mI m (a + 2), mI m (a + 3))
def cEvF (st : Row) (x : Int32) : Row → Int64 := fun w => runC st w x.toNatClampNeg 0 []
def cEv (m : pMem) (ro : Option Nat) : EV := ro.map fun r => cEvF (mI m (r + 1)) (mI m r 2)
def rvO (ro : Option Nat) : Value := match ro with
  | none => .null
  | some r => .ref r
def okR (m : pMem) (ro : Option Nat) : Prop := ∀ r, ro = some r → SH[r]? = some (.inl 6) ∧ ∃ n, n ≤ 400 ∧ mI m r 2 = nI n
def okD (m : pMem) (P Sg T : Nat) : Prop := mI m 31 3 = nI P ∧ P ≤ 4 ∧ mI m 31 2 = nI Sg ∧ Sg ≤ 8 ∧ mI m 31 4 = nI T ∧ T ≤ 6
def ScD (S : Nat) : Nat → Nat → Prop := fun a k => (S ≤ a ∧ a ≤ S + 3) ∨ a = 513 ∨ (12 ≤ a ∧ a ≤ 27 ∧ a % 3 = 0 ∧ k = 3)
theorem rule_mod {r : Nat} (c : SH[r]? = some (.inl 6)) : 12 ≤ r ∧ r ≤ 27 ∧ r % 3 = 0 := by
  have h : ∀ r, r < 572 → SH[r]? = some (.inl 6) → 12 ≤ r ∧ r ≤ 27 ∧ r % 3 = 0 := by decide +kernel
  exact h r (SH_lt c) c
theorem rmod {r : Nat} (h : r % 3 = 0) : ¬ (r + 1) % 3 = 0 := by omega
theorem Same.kEv0 {E : Nat → Nat → Prop} {m m2 : pMem} {r : Nat} (h : Same E m m2) (hE : ∀ a k, 12 ≤ a → a ≤ 29 → E a k → a % 3 = 0 ∧ k = 3) (r1 : 12 ≤ r) (r2 : r ≤ 27) (r3 : r % 3 = 0) : mI m2 (r + 1) = mI m (r + 1) := funext fun k => h.1 _ _ (fun z => rmod r3 (hE _ _ (by omega) (by omega) z).1)
theorem Same.kEv2 {E : Nat → Nat → Prop} {m m2 : pMem} {r : Nat} (h : Same E m m2) (hE : ∀ a k, 12 ≤ a → a ≤ 29 → E a k → a % 3 = 0 ∧ k = 3) (r1 : 12 ≤ r) (r2 : r ≤ 27) : mI m2 r 2 = mI m r 2 := h.1 _ _ (fun z => absurd (hE _ _ (by omega) (by omega) z).2 (by decide))
theorem Same.kEv1 {E : Nat → Nat → Prop} {m m2 : pMem} {r : Nat} (h : Same E m m2) (hE : ∀ a k, 12 ≤ a → a ≤ 29 → E a k → a % 3 = 0 ∧ k = 3) (c : SH[r]? = some (.inl 6)) : cEvF (mI m2 (r + 1)) (mI m2 r 2) = cEvF (mI m (r + 1)) (mI m r 2) := by
  rw [h.kEv0 hE (rule_mod c).1 (rule_mod c).2.1 (rule_mod c).2.2, h.kEv2 hE (rule_mod c).1 (rule_mod c).2.1]
theorem Same.kEv {E : Nat → Nat → Prop} {m m2 : pMem} {ro : Option Nat} (h : Same E m m2) (hE : ∀ a k, 12 ≤ a → a ≤ 29 → E a k → a % 3 = 0 ∧ k = 3) (ok : okR m ro) : cEv m2 ro = cEv m ro := by
  cases ro with
  | none => exact (rfl : (none : EV) = none)
  | some r => exact congrArg some (h.kEv1 hE (ok r rfl).1)
theorem Same.kR {E : Nat → Nat → Prop} {m m2 : pMem} {ro : Option Nat} (h : Same E m m2) (hE : ∀ a k, 12 ≤ a → a ≤ 29 → E a k → a % 3 = 0 ∧ k = 3) (ok : okR m ro) : okR m2 ro := by
  intro r hr
  obtain ⟨c, n, hn, en⟩ := ok r hr
  obtain ⟨r1, r2, r3⟩ := rule_mod c
  exact ⟨c, n, hn, (h.1 _ _ (fun z => by have := hE _ _ (by omega) (by omega) z; omega)).trans en⟩
theorem Same.kRd {E : Nat → Nat → Prop} {m m2 : pMem} {x : Nat} (h : Same E m m2) (hE : ∀ a k, x ≤ a → a ≤ x + 4 → ¬ E a k) : cRd m2 x = cRd m x := by
  have e : ∀ b, b ≤ 4 → mI m2 (x + b) = mI m (x + b) := fun b hb => funext fun k => h.1 _ _ (hE _ _ (by omega) (by omega))
  show (mI m2 (x + 0) 1, mI m2 (x + 0) 2, mI m2 (x + 1), mI m2 (x + 2), mI m2 (x + 3), mI m2 (x + 4)) = (mI m (x + 0) 1, mI m (x + 0) 2, mI m (x + 1), mI m (x + 2), mI m (x + 3), mI m (x + 4))
  rw [e 0 (by omega), e 1 (by omega), e 2 (by omega), e 3 (by omega), e 4 (by omega)]
theorem Same.kSt {E : Nat → Nat → Prop} {m m2 : pMem} {x : Nat} (h : Same E m m2) (hE : ∀ a k, x ≤ a → a ≤ x + 3 → ¬ E a k) : cSt m2 x = cSt m x := by
  have e : ∀ b, b ≤ 3 → mI m2 (x + b) = mI m (x + b) := fun b hb => funext fun k => h.1 _ _ (hE _ _ (by omega) (by omega))
  show (mI m2 (x + 0) 0, mI m2 (x + 1), mI m2 (x + 2), mI m2 (x + 3)) = (mI m (x + 0) 0, mI m (x + 1), mI m (x + 2), mI m (x + 3))
  rw [e 0 (by omega), e 1 (by omega), e 2 (by omega), e 3 (by omega)]
theorem Same.kD {E : Nat → Nat → Prop} {m m2 : pMem} {P Sg T : Nat} (h : Same E m m2) (hE : ∀ k, ¬ E 31 k) (hd : okD m P Sg T) : okD m2 P Sg T := by
  obtain ⟨a, b, c, d, e, f⟩ := hd
  exact ⟨(h.1 _ _ (hE _)).trans a, b, (h.1 _ _ (hE _)).trans c, d, (h.1 _ _ (hE _)).trans e, f⟩
theorem ScD_r {S : Nat} (hS : 30 ≤ S) (hS2 : S ≠ 513) : ∀ a k, 12 ≤ a → a ≤ 29 → ScD S a k → a % 3 = 0 ∧ k = 3 := by
  intro a k h1 h2 h
  unfold ScD at h
  omega
theorem cSt_eq {m : pMem} {a : Nat} {s : ST} (h : cSt m a = s) : mI m a 0 = s.1 ∧ mI m (a + 1) = s.2.1 ∧ mI m (a + 2) = s.2.2.1 ∧ mI m (a + 3) = s.2.2.2 := by
  subst h
  exact ⟨rfl, rfl, rfl, rfl⟩
section S8
variable {X : pX} {Q : Option Value → pMem → Prop} {m : pMem}
theorem s_day37 {ro : Option Nat} {P Sg T : Nat} (hW : Wf m) (ok : okR m ro) (hd : okD m P Sg T) (hpl : plOk (mI m 38) P Sg) (h : ∀ m2, Same (ScD 37) m m2 → cSt m2 37 = (dayF (cEv m ro) (cRd m 31) 6 T P (cSt m 37)).2 → Q (some (.int (dayF (cEv m ro) (cRd m 31) 6 T P (cSt m 37)).1)) m2) : Cl X 4 mX0_oneDay [.ref 512, .ref 37, rvO ro] m Q := by
  obtain ⟨hP, hP4, hS, h8, hT, h6⟩ := hd
  cases ro with
  | none =>
    refine s_oneDayNS37 hW hP hP4 hS h8 hT h6 hpl (fun m2 hm e0 e1 e2 e3 => ?_)
    refine h m2 (hm.mo (fun a k z => by unfold ScD; omega)) ?_
    show (mI m2 37 0, mI m2 38, mI m2 39, mI m2 40) = _
    rw [e0, e1, e2, e3]
    rfl
  | some r =>
    obtain ⟨c, n, hn, en⟩ := ok r rfl
    obtain ⟨r1, r2, r3⟩ := rule_mod c
    have en2 : n = (mI m r 2).toNatClampNeg := by rw [en, nI_clamp (by omega)]
    subst en2
    refine s_oneDayS37 hW c en hn hP hP4 hS h8 hT h6 hpl (fun m2 hm e0 e1 e2 e3 => ?_)
    refine h m2 (hm.mo (fun a k z => by unfold ScD; omega)) ?_
    show (mI m2 37 0, mI m2 38, mI m2 39, mI m2 40) = _
    rw [e0, e1, e2, e3]
    rfl
theorem s_day523 {ro : Option Nat} {P Sg T : Nat} (hW : Wf m) (ok : okR m ro) (hd : okD m P Sg T) (hpl : plOk (mI m 524) P Sg) (h : ∀ m2, Same (ScD 523) m m2 → cSt m2 523 = (dayF (cEv m ro) (cRd m 31) 6 T P (cSt m 523)).2 → Q (some (.int (dayF (cEv m ro) (cRd m 31) 6 T P (cSt m 523)).1)) m2) : Cl X 4 mX0_oneDay [.ref 512, .ref 523, rvO ro] m Q := by
  obtain ⟨hP, hP4, hS, h8, hT, h6⟩ := hd
  cases ro with
  | none =>
    refine s_oneDayNS523 hW hP hP4 hS h8 hT h6 hpl (fun m2 hm e0 e1 e2 e3 => ?_)
    refine h m2 (hm.mo (fun a k z => by unfold ScD; omega)) ?_
    show (mI m2 523 0, mI m2 524, mI m2 525, mI m2 526) = _
    rw [e0, e1, e2, e3]
    rfl
  | some r =>
    obtain ⟨c, n, hn, en⟩ := ok r rfl
    obtain ⟨r1, r2, r3⟩ := rule_mod c
    have en2 : n = (mI m r 2).toNatClampNeg := by rw [en, nI_clamp (by omega)]
    subst en2
    refine s_oneDayS523 hW c en hn hP hP4 hS h8 hT h6 hpl (fun m2 hm e0 e1 e2 e3 => ?_)
    refine h m2 (hm.mo (fun a k z => by unfold ScD; omega)) ?_
    show (mI m2 523 0, mI m2 524, mI m2 525, mI m2 526) = _
    rw [e0, e1, e2, e3]
    rfl
theorem s_goOn523 {ro : Option Nat} {P Sg T N : Nat} (hW : Wf m) (ok : okR m ro) (hd : okD m P Sg T) (hpl : plOk (mI m 524) P Sg) (hN : N < 2 ^ 31) (h : ∀ m2, Same (ScD 523) m m2 → cSt m2 523 = dayN (cEv m ro) (cRd m 31) 6 T P (cSt m 523) N → Q none m2) : Cl X 5 mX0_goOn [.ref 512, .ref 523, rvO ro, .int (nI N)] m Q := by
  have key : ∀ i, i ≤ N → ∀ m1, Same (ScD 523) m m1 → cSt m1 523 = dayN (cEv m ro) (cRd m 31) 6 T P (cSt m 523) i → Go X 5 mX0_goOn Q 3 [(0, .ref 512), (1, .ref 523), (2, rvO ro), (3, .int (nI N)), (4, .int (nI i))] [] m1 := by
    refine upTo (P := fun i => ∀ m1, Same (ScD 523) m m1 → cSt m1 523 = dayN (cEv m ro) (cRd m 31) 6 T P (cSt m 523) i → Go X 5 mX0_goOn Q 3 [(0, .ref 512), (1, .ref 523), (2, rvO ro), (3, .int (nI N)), (4, .int (nI i))] [] m1) N ?_ ?_
    · intro m1 hm e
      cases ro with
      | none => exact bX0_goOnNS523_3 (hW.sm hm.2) (fun _ => h m1 hm e) (fun z => absurd (Int32.le_refl _) z)
      | some r => exact bX0_goOnS523_3 (hW.sm hm.2) (ok r rfl).1 (fun _ => h m1 hm e) (fun z => absurd (Int32.le_refl _) z)
    · intro i hi ih m1 hm e
      have hx : ¬ nI N ≤ nI i := nI_ge hi hN
      have eE := hm.kEv (ScD_r (by decide) (by decide)) ok
      have eD : cRd m1 31 = cRd m 31 := hm.kRd (fun a k h1 h2 => by unfold ScD; omega)
      have hp1 : plOk (mI m1 524) P Sg := by
        have e2 : mI m1 524 = (cSt m1 523).2.1 := rfl
        rw [e2, e]
        exact dayN_pl (rd := cRd m 31) hd.2.2.1 hd.2.2.2.1 hpl i
      have dy : Cl X 4 mX0_oneDay [.ref 512, .ref 523, rvO ro] m1 (fun v m2 => Go X 5 mX0_goOn Q 15 [(0, .ref 512), (1, .ref 523), (2, rvO ro), (3, .int (nI N)), (4, .int (nI i))] (v.toList ++ []) m2) := by
        refine s_day523 (hW.sm hm.2) (hm.kR (ScD_r (by decide) (by decide)) ok) (hm.kD (fun k => by unfold ScD; omega) hd) hp1 (fun m2 hm2 e2 => ?_)
        rw [eE, eD, e] at e2
        have hW2 := (hW.sm hm.2).sm hm2.2
        have nx := ih m2 (hm.tr hm2) e2
        cases ro with
        | none => exact bX0_goOnNS523_15 hW2 (by rw [nI_1]; exact nx)
        | some r => exact bX0_goOnS523_15 hW2 (ok r rfl).1 (by rw [nI_1]; exact nx)
      cases ro with
      | none => exact bX0_goOnNS523_3 (hW.sm hm.2) (fun z => absurd z hx) (fun _ => dy)
      | some r => exact bX0_goOnS523_3 (hW.sm hm.2) (ok r rfl).1 (fun z => absurd z hx) (fun _ => dy)
  cases ro with
  | none => exact pCl_of (by decide +kernel) (Nat.le_of_ble_eq_true rfl) rfl (bX0_goOnNS523_0 hW (key 0 (Nat.zero_le _) m Same.rf rfl))
  | some r => exact pCl_of (by decide +kernel) (Nat.le_of_ble_eq_true rfl) rfl (bX0_goOnS523_0 hW (ok r rfl).1 (key 0 (Nat.zero_le _) m Same.rf rfl))
theorem s_inTown37 {P : Nat} (hW : Wf m) (hP : mI m 31 3 = nI P) (h4 : P ≤ 4) (h : Q (some (.int (tAt (mI m 38) (mI m 31 2) P))) m) : Cl X 0 mX0_peopleInTown [.ref 512, .ref 37] m Q := by
  refine pCl_of (by decide +kernel) (Nat.le_of_ble_eq_true rfl) rfl (bX0_peopleInTownS37_0 hW ?_)
  refine upTo (P := fun t => Go X 0 mX0_peopleInTown Q 4 [(0, .ref 512), (1, .ref 37), (2, .int (tAt (mI m 38) (mI m 31 2) t)), (3, .int (nI t))] [] m) P
    (bX0_peopleInTownS37_4 hW (fun _ => h) (fun q => absurd (by rw [hP]; exact Int32.le_refl _) q) (fun q => absurd (by rw [hP]; exact Int32.le_refl _) q) (fun q => absurd (by rw [hP]; exact Int32.le_refl _) q))
    (fun t ht ih => bX0_peopleInTownS37_4 hW (fun q => absurd (by rw [hP] at q; exact q) (nI_ge ht (by omega))) (fun _ => vp_in_nI (by omega) (by decide)) (fun _ q => ?_) (fun _ q => ?_)) 0 (Nat.zero_le _)
  · rw [nI_clamp (by omega)] at q
    rw [nI_1]; simp only [tAt, if_neg q] at ih; exact ih
  · rw [nI_clamp (by omega)] at q
    rw [nI_1]; simp only [tAt, if_pos q] at ih; exact ih
theorem s_worthTown37 {P : Nat} (hW : Wf m) (hP : mI m 31 3 = nI P) (h4 : P ≤ 4) (h : Q (some (.int (wSum (mI m 35) (tTown (mI m 38) (mI m 40) (mI m 31 2) 6 P) 6))) m) : Cl X 2 mX0_worthInTown [.ref 512, .ref 37] m Q := by
  refine pCl_of (by decide +kernel) (Nat.le_of_ble_eq_true rfl) rfl (bX0_worthInTownS37_0 hW ?_)
  refine upTo (P := fun t => Go X 2 mX0_worthInTown Q 17 [(0, .ref 512), (1, .ref 37), (2, .int (tTown (mI m 38) (mI m 40) (mI m 31 2) 6 t)), (3, .int (nI t))] [] m) P
    (bX0_worthInTownS37_17 hW (fun _ => h) (fun q => absurd (by rw [hP]; exact Int32.le_refl _) q) (fun q => absurd (by rw [hP]; exact Int32.le_refl _) q) (fun q => absurd (by rw [hP]; exact Int32.le_refl _) q))
    (fun t ht ih => bX0_worthInTownS37_17 hW (fun q => absurd (by rw [hP] at q; exact q) (nI_ge ht (by omega))) (fun _ => vp_in_nI (by omega) (by decide)) (fun _ q => ?_) (fun _ q => ?_)) 0 (Nat.zero_le _)
  · rw [nI_clamp (by omega)] at q
    rw [nI_1]; simp only [tTown, if_neg q] at ih; exact ih
  · rw [nI_clamp (by omega)] at q
    rw [nI_1]; simp only [tTown, if_pos q] at ih; exact ih
theorem s_inTown523 {P : Nat} (hW : Wf m) (hP : mI m 31 3 = nI P) (h4 : P ≤ 4) (h : Q (some (.int (tAt (mI m 524) (mI m 31 2) P))) m) : Cl X 0 mX0_peopleInTown [.ref 512, .ref 523] m Q := by
  refine pCl_of (by decide +kernel) (Nat.le_of_ble_eq_true rfl) rfl (bX0_peopleInTownS523_0 hW ?_)
  refine upTo (P := fun t => Go X 0 mX0_peopleInTown Q 4 [(0, .ref 512), (1, .ref 523), (2, .int (tAt (mI m 524) (mI m 31 2) t)), (3, .int (nI t))] [] m) P
    (bX0_peopleInTownS523_4 hW (fun _ => h) (fun q => absurd (by rw [hP]; exact Int32.le_refl _) q) (fun q => absurd (by rw [hP]; exact Int32.le_refl _) q) (fun q => absurd (by rw [hP]; exact Int32.le_refl _) q))
    (fun t ht ih => bX0_peopleInTownS523_4 hW (fun q => absurd (by rw [hP] at q; exact q) (nI_ge ht (by omega))) (fun _ => vp_in_nI (by omega) (by decide)) (fun _ q => ?_) (fun _ q => ?_)) 0 (Nat.zero_le _)
  · rw [nI_clamp (by omega)] at q
    rw [nI_1]; simp only [tAt, if_neg q] at ih; exact ih
  · rw [nI_clamp (by omega)] at q
    rw [nI_1]; simp only [tAt, if_pos q] at ih; exact ih
theorem s_worthTown523 {P : Nat} (hW : Wf m) (hP : mI m 31 3 = nI P) (h4 : P ≤ 4) (h : Q (some (.int (wSum (mI m 35) (tTown (mI m 524) (mI m 526) (mI m 31 2) 6 P) 6))) m) : Cl X 2 mX0_worthInTown [.ref 512, .ref 523] m Q := by
  refine pCl_of (by decide +kernel) (Nat.le_of_ble_eq_true rfl) rfl (bX0_worthInTownS523_0 hW ?_)
  refine upTo (P := fun t => Go X 2 mX0_worthInTown Q 17 [(0, .ref 512), (1, .ref 523), (2, .int (tTown (mI m 524) (mI m 526) (mI m 31 2) 6 t)), (3, .int (nI t))] [] m) P
    (bX0_worthInTownS523_17 hW (fun _ => h) (fun q => absurd (by rw [hP]; exact Int32.le_refl _) q) (fun q => absurd (by rw [hP]; exact Int32.le_refl _) q) (fun q => absurd (by rw [hP]; exact Int32.le_refl _) q))
    (fun t ht ih => bX0_worthInTownS523_17 hW (fun q => absurd (by rw [hP] at q; exact q) (nI_ge ht (by omega))) (fun _ => vp_in_nI (by omega) (by decide)) (fun _ q => ?_) (fun _ q => ?_)) 0 (Nat.zero_le _)
  · rw [nI_clamp (by omega)] at q
    rw [nI_1]; simp only [tTown, if_neg q] at ih; exact ih
  · rw [nI_clamp (by omega)] at q
    rw [nI_1]; simp only [tTown, if_pos q] at ih; exact ih
end S8
