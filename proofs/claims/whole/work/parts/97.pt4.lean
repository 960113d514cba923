/-! ===== draws, thieves ===== -/
def dr (x : Int32) : Int32 := (((x.toInt64 * (1103515245 : Int64)) + (12345 : Int64)) - ((x.toInt64 * (1103515245 : Int64)) + (12345 : Int64)) / (2147483648 : Int64) * (2147483648 : Int64)).toInt32
theorem dr_nn {x : Int32} (h : ¬ x < 0) : ¬ dr x < 0 := by
  obtain ⟨k, hk, rfl⟩ := nI_of h
  unfold dr
  have e0 : (nI k).toInt64.toInt = k := by rw [Int32.toInt_toInt64, nI_toInt hk]
  have a1 : ((1103515245 : Int64)).toInt = 1103515245 := by decide
  have a2 : ((12345 : Int64)).toInt = 12345 := by decide
  have a3 : ((2147483648 : Int64)).toInt = 2147483648 := by decide
  have k1 : (k : Int) < 2147483648 := by omega
  have e1 : ((nI k).toInt64 * (1103515245 : Int64)).toInt = k * 1103515245 := by rw [fb_mulL (by rw [e0, a1]; omega) (by rw [e0, a1]; omega), e0, a1]
  have e2 : ((nI k).toInt64 * (1103515245 : Int64) + (12345 : Int64)).toInt = k * 1103515245 + 12345 := by rw [fb_addL (by rw [e1, a2]; omega) (by rw [e1, a2]; omega), e1, a2]
  generalize (nI k).toInt64 * (1103515245 : Int64) + (12345 : Int64) = y at *
  have e3 : (y / (2147483648 : Int64)).toInt = (k * 1103515245 + 12345) / 2147483648 := by
    rw [Int64.toInt_div, e2, a3, Int.tdiv_eq_ediv_of_nonneg (by omega)]
    exact Int.bmod_eq_of_le (by omega) (by omega)
  have e4 : (y / (2147483648 : Int64) * (2147483648 : Int64)).toInt = (k * 1103515245 + 12345) / 2147483648 * 2147483648 := by rw [fb_mulL (by rw [e3, a3]; omega) (by rw [e3, a3]; omega), e3, a3]
  have e5 : (y - y / (2147483648 : Int64) * (2147483648 : Int64)).toInt = (k * 1103515245 + 12345) - (k * 1103515245 + 12345) / 2147483648 * 2147483648 := by rw [fb_subL (by rw [e2, e4]; omega) (by rw [e2, e4]; omega), e2, e4]
  rw [fa_lt, Int64.toInt_toInt32, e5]
  have b0 : ((0 : Int32)).toInt = 0 := rfl
  rw [b0, Int.bmod_eq_of_le (by omega) (by omega)]
  omega
abbrev rmI (a b : Int32) : Int32 := a - a / b * b
/-- a number drawn, of so many -/
theorem rm_in {y : Int32} {T : Nat} (hy : ¬ y < 0) (h0 : 0 < T) (hT : T ≤ 6) : ∃ t, t < T ∧ rmI (y / (65536 : Int32)) (nI T) = nI t := by
  obtain ⟨k, hk, rfl⟩ := nI_of hy
  have e : nI k / (65536 : Int32) = nI (k / 65536) := by
    rw [show (65536 : Int32) = nI 65536 from rfl]
    exact pk_div hk (by decide) (by decide)
  rw [e]
  refine ⟨k / 65536 % T, Nat.mod_lt _ h0, ?_⟩
  exact pk_rem (by omega) h0 (by omega)
/-- thieves come, or not: what x is then, which thing is gone -/
def rbX (p : Int32) (T : Nat) (x : Int32) : Int32 × Option Nat :=
  if p ≤ rmI (dr x / (65536 : Int32)) (100 : Int32) ∨ T = 0 then (dr x, none) else (dr (dr x), some (rmI (dr (dr x) / (65536 : Int32)) (nI T)).toNatClampNeg)
def woO (s : ST) (o : Option Nat) : ST := match o with
  | none => s
  | some t => woS s t
def dayR (day : ST → ST) (rb : Int32 → Int32 × Option Nat) (c : Int32 × ST) : Nat → Int32 × ST
  | 0 => c
  | i + 1 => ((rb (dayR day rb c i).1).1, day (woO (dayR day rb c i).2 (rb (dayR day rb c i).1).2))
theorem rbX_ok {p x : Int32} {T : Nat} (hx : ¬ x < 0) (hT : T ≤ 6) : ¬ (rbX p T x).1 < 0 ∧ ∀ t, (rbX p T x).2 = some t → t < T := by
  unfold rbX
  by_cases c : p ≤ rmI (dr x / (65536 : Int32)) (100 : Int32) ∨ T = 0
  · rw [if_pos c]; exact ⟨dr_nn hx, fun t h => by cases h⟩
  · rw [if_neg c]
    refine ⟨dr_nn (dr_nn hx), fun t h => ?_⟩
    obtain ⟨u, hu, e⟩ := rm_in (dr_nn (dr_nn hx)) (show 0 < T from Nat.pos_of_ne_zero fun z => c (Or.inr z)) hT
    have h : some _ = some t := h
    rw [e, nI_clamp (by omega)] at h
    cases h
    exact hu
theorem dayR_ag {dC dM : ST → ST} {rb : Int32 → Int32 × Option Nat} {T P Sg : Nat} (hrb : ∀ x, ¬ x < 0 → ¬ (rb x).1 < 0 ∧ ∀ t, (rb x).2 = some t → t < T) (hd : ∀ s s2, AgT T s s2 → plOk s.2.1 P Sg → AgT T (dC s) (dM s2) ∧ plOk (dC s).2.1 P Sg) {c c2 : Int32 × ST} (h1 : c.1 = c2.1) (h2 : AgT T c.2 c2.2) (h3 : plOk c.2.2.1 P Sg) (h4 : ¬ c.1 < 0) :
    ∀ i, (dayR dC rb c i).1 = (dayR dM rb c2 i).1 ∧ AgT T (dayR dC rb c i).2 (dayR dM rb c2 i).2 ∧ plOk (dayR dC rb c i).2.2.1 P Sg ∧ ¬ (dayR dC rb c i).1 < 0 := by
  intro i
  induction i with
  | zero => exact ⟨h1, h2, h3, h4⟩
  | succ i ih =>
    obtain ⟨i1, i2, i3, i4⟩ := ih
    obtain ⟨r1, r2⟩ := hrb _ i4
    have w : AgT T (woO (dayR dC rb c i).2 (rb (dayR dC rb c i).1).2) (woO (dayR dM rb c2 i).2 (rb (dayR dC rb c i).1).2) ∧ plOk (woO (dayR dC rb c i).2 (rb (dayR dC rb c i).1).2).2.1 P Sg := by
      cases hx : (rb (dayR dC rb c i).1).2 with
      | none => exact ⟨i2, i3⟩
      | some t => exact ⟨woS_ag i2 (r2 t hx), i3⟩
    have := hd _ _ w.1 w.2
    refine ⟨?_, ?_, this.2, r1⟩
    · show (rb (dayR dC rb c i).1).1 = (rb (dayR dM rb c2 i).1).1
      rw [i1]
    · show AgT T (dC _) (dM (woO (dayR dM rb c2 i).2 (rb (dayR dM rb c2 i).1).2))
      rw [← i1]; exact this.1
/-- years of thieves -/
def thF (x0 : Int32) (g : Int32 → Int32 × Int32) : Nat → Int32 × Int32
  | 0 => (x0, 0)
  | t + 1 => ((g (thF x0 g t).1).1, (thF x0 g t).2 + (g (thF x0 g t).1).2)
section T9
variable {X : pX} {Q : Option Value → pMem → Prop} {m m0 : pMem}
theorem s_drawn {x : Int32} (hW : Wf m) (h : Q (some (.int (dr x))) m) : Cl X 0 mX11_drawnFrom [.int x] m Q :=
  pCl_of (by decide +kernel) (Nat.le_of_ble_eq_true rfl) rfl (bX11_drawnFrom_0 hW h)
theorem s_draws {x : Int32} (hW : Wf m) (hx : ¬ x = 0) (h : Q (some (.int (rmI (dr (mI m 536 7) / (65536 : Int32)) x))) (uI m 536 7 (dr (mI m 536 7)))) : Cl X 0 mX12_draws [.ref 535, .int x] m Q :=
  pCl_of (by decide +kernel) (Nat.le_of_ble_eq_true rfl) rfl (bX12_draws_0 hW hx h)
theorem s_robDraw {P Sg T : Nat} {s : ST} {x p : Int32} {rb : Int32 → Int32 × Option Nat} (hrb : rb = rbX p T) (hW : Wf m0) (hT : mI m0 31 4 = nI T) (h6 : T ≤ 6) (hx : ¬ x < 0) (ht : Tr m0 m P Sg s) (h : ∀ m2, Tr m0 m2 P Sg (woO s (rb x).2) → Q (some (.int (rb x).1)) m2) : Cl X 1 mX11_robByDraw [.ref 0, .int x, .int p] m Q := by
  subst hrb
  have hWm := hW.sm ht.1.2
  have g4 : mI m 31 4 = nI T := (ht.1.1 _ _ (fun w => by unfold Scr at w; omega)).trans hT
  refine pCl_of (by decide +kernel) (Nat.le_of_ble_eq_true rfl) rfl (bX11_robByDraw_0 hWm (s_drawn hWm ?_))
  refine bX11_robByDraw_4 hWm (fun z => ?_) (fun z1 z2 => ?_) (fun z1 z2 => ?_)
  · have e : rbX p T x = (dr x, none) := if_pos (Or.inl z)
    rw [e] at h
    exact h m ht
  · rw [g4] at z2 ⊢
    have h0 : 1 ≤ T := nI_le' (a := 1) (by decide) (by omega) z2
    have e : rbX p T x = (dr (dr x), some (rmI (dr (dr x) / (65536 : Int32)) (nI T)).toNatClampNeg) := if_neg (fun w => w.elim z1 (fun w => by omega))
    rw [e] at h
    refine s_drawn hWm ?_
    obtain ⟨t, ht2, et⟩ := rm_in (dr_nn (dr_nn hx)) (show 0 < T by omega) h6
    have in6 : ¬ rmI (dr (dr x) / (65536 : Int32)) (nI T) < 0 ∧ ¬ mI m 31 4 ≤ rmI (dr (dr x) / (65536 : Int32)) (nI T) ∧ ¬ (6 : Int32) ≤ rmI (dr (dr x) / (65536 : Int32)) (nI T) := (perC (z := 6) g4 (K := 6) rfl h6 (by decide)).mpr ⟨t, ht2, et⟩
    refine bX11_robByDraw_41 hWm (nI_ne0 (by omega) (by omega)) (fun _ => vp_in_cmp (N := 6) in6.1 in6.2.2 (by decide)) (fun _ => ?_) (fun z => absurd in6 z)
    refine h _ ?_
    show Tr m0 (uI m 526 (rmI (dr (dr x) / (65536 : Int32)) (nI T)).toNatClampNeg (-1)) P Sg (woS s (rmI (dr (dr x) / (65536 : Int32)) (nI T)).toNatClampNeg)
    rw [et, nI_clamp (by omega)]
    obtain ⟨t1, t2, t3⟩ := ht
    refine ⟨⟨fun a k w => by rw [mI_uI, if_neg (fun y => w (by unfold Scr; omega))]; exact t1.1 a k w, fun x y => t1.2 x y⟩, ?_, t3⟩
    have f0 : mI (uI m 526 t (-1)) 523 0 = mI m 523 0 := by rw [mI_uI, if_neg (by omega)]
    have f1 : mI (uI m 526 t (-1)) 524 = mI m 524 := funext fun k => by rw [mI_uI, if_neg (by omega)]
    have f2 : mI (uI m 526 t (-1)) 525 = mI m 525 := funext fun k => by rw [mI_uI, if_neg (by omega)]
    have f3 : mI (uI m 526 t (-1)) 526 = upd (mI m 526) t (-1) := funext fun k => by
      rw [mI_uI]
      by_cases e : k = t
      · rw [if_pos ⟨rfl, e⟩, e, pk_us]
      · rw [if_neg (fun q => e q.2), pk_un e]
    show (mI (uI m 526 t (-1)) 523 0, mI (uI m 526 t (-1)) 524, mI (uI m 526 t (-1)) 525, mI (uI m 526 t (-1)) 526) = woS s t
    rw [f0, f1, f2, f3, ← t2]
    rfl
  · have h0 : T = 0 := by
      rw [g4] at z2
      have : ¬ 1 ≤ T := fun w => z2 (nI_le (a := 1) w (by omega))
      omega
    have e : rbX p T x = (dr x, none) := if_pos (Or.inr h0)
    rw [e] at h
    exact h m ht
end T9
