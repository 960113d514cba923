/-! ===== rules: what a text tells ===== -/
abbrev RR : Type := Nat ⊕ (Nat × Nat × List Tok)
def preR (ts : List Tok) (r : RR) : RR := match r with
  | .inl f => .inl f
  | .inr a => .inr (a.1, a.2.1, ts ++ a.2.2)
/-- a value -/
noncomputable def vlF (B : Nat → Nat) (L p c : Nat) : RR :=
  if ¬ nd B L (sk B L p) = sk B L p then (if 5 < nd B L (sk B L p) - sk B L p then .inl (2 + 8 * sk B L p) else if 60 ≤ c then .inl (4 + 8 * sk B L p) else .inr (nd B L (sk B L p), c + 1, [(0, nI (nv B L (sk B L p)))]))
  else if wlF B L (sk B L p) 1 = 12 then .inl (1 + 8 * sk B L p) else if 60 ≤ c then .inl (4 + 8 * sk B L p) else .inr (sk B L p + wlen 1 (wlF B L (sk B L p) 1), c + 1, [(1, nI (wlF B L (sk B L p) 1))])
/-- which sign -/
def stp (x : Int32) : Int32 := if x = 43 then 2 else if x = 45 then 3 else if x = 42 then 13 else if x = 47 then 14 else if x = 37 then 15 else 0
def pend (w : Int32) : List Tok := if w = 0 then [] else [(w, 0)]
noncomputable def sumL (B : Nat → Nat) (L : Nat) : Nat → Nat → Nat → Int32 → RR
  | 0, _, _, _ => .inl 1
  | e + 1, p, c, w => if stp (chI B L (sk B L p)) = 0 then .inr (sk B L p, c, pend w) else match vlF B L (sk B L p + 1) c with
    | .inl f => .inl f
    | .inr a => if stp (chI B L (sk B L p)) = 2 ∨ stp (chI B L (sk B L p)) = 3 then preR (pend w ++ a.2.2) (sumL B L e a.1 a.2.1 (stp (chI B L (sk B L p)))) else preR (a.2.2 ++ [(stp (chI B L (sk B L p)), 0)]) (sumL B L e a.1 a.2.1 w)
noncomputable def smF (B : Nat → Nat) (L p c : Nat) : RR := match vlF B L p c with
  | .inl f => .inl f
  | .inr a => preR a.2.2 (sumL B L (L + 1) a.1 a.2.1 0)
/-- which comparison, and how long -/
def cmS (x y : Int32) : Int32 := if x = 60 then (if y = 61 then 5 else 4) else if x = 62 then (if y = 61 then 7 else 8) else if x = 61 then 6 else 0
def cmN (x y : Int32) : Nat := if x = 61 then 1 else if y = 61 then 2 else 1
noncomputable def cmF (B : Nat → Nat) (L p c : Nat) : RR := match smF B L p c with
  | .inl f => .inl f
  | .inr a => if cmS (chI B L a.1) (chI B L (a.1 + 1)) = 0 then .inl (1 + 8 * a.1) else if 60 ≤ a.2.1 then .inl (4 + 8 * a.1) else
    match smF B L (a.1 + cmN (chI B L a.1) (chI B L (a.1 + 1))) (a.2.1 + 1) with
    | .inl f => .inl f
    | .inr b => .inr (b.1, b.2.1, a.2.2 ++ b.2.2 ++ [(cmS (chI B L a.1) (chI B L (a.1 + 1)), 0)])
/-- small words: not, and, or, carry, if -/
def WDi (B : Nat → Nat) (L p i : Nat) : Prop := WD B L p (lenJ i) (bytJ i)
def bnd (r : RR) (f : Nat → Nat → List Tok → RR) : RR := match r with
  | .inl x => .inl x
  | .inr a => f a.1 a.2.1 a.2.2
theorem bnd_inr {a b : Nat} {c : List Tok} {f : Nat → Nat → List Tok → RR} : bnd (.inr (a, b, c)) f = f a b c := rfl
theorem bnd_inl {x : Nat} {f : Nat → Nat → List Tok → RR} : bnd (.inl x) f = .inl x := rfl
theorem bnd_go {r : RR} {f : Nat → Nat → List Tok → RR} {x : Nat × Nat × List Tok} (h : bnd r f = .inr x) : ∃ a b c, r = .inr (a, b, c) ∧ f a b c = .inr x := by
  cases r with
  | inl y => cases h
  | inr a => exact ⟨a.1, a.2.1, a.2.2, rfl, h⟩
theorem inr3 {a b a2 b2 : Nat} {c c2 : List Tok} (h : (Sum.inr (a, b, c) : RR) = .inr (a2, b2, c2)) : a2 = a ∧ b2 = b ∧ c2 = c := by
  injection h with h
  injection h with h1 h
  injection h with h2 h3
  exact ⟨h1.symm, h2.symm, h3.symm⟩
/-- facts (0), tests (1), what follows a fact (2) -/
noncomputable def FT (B : Nat → Nat) (L : Nat) : Nat → Nat → Nat → Nat → Nat → Int32 → RR
  | 0, _, _, _, _, _ => .inl 1
  | e + 1, 0, d, p, c, _ =>
    @ite _ (WDi B L (sk B L p) 6) (Classical.propDecidable _) (if 10 ≤ d then .inl (3 + 8 * sk B L p) else bnd (FT B L e 0 (d + 1) (sk B L p + 3) c 0) (fun p1 c1 ts => .inr (p1, c1, ts ++ [(9, 0)])))
    (if chI B L (sk B L p) = 91 then (if 10 ≤ d then .inl (3 + 8 * sk B L p) else bnd (FT B L e 1 (d + 1) (sk B L p + 1) c 0) (fun p1 c1 ts => if chI B L (sk B L p1) = 93 then .inr (sk B L p1 + 1, c1, ts) else .inl (1 + 8 * sk B L p1)))
    else cmF B L p c)
  | e + 1, 1, d, p, c, _ => bnd (FT B L e 0 d p c 0) (fun p1 c1 ts => preR ts (FT B L e 2 d p1 c1 0))
  | e + 1, _ + 2, d, p, c, w =>
    @ite _ (WDi B L (sk B L p) 4) (Classical.propDecidable _) (bnd (FT B L e 0 d (sk B L p + 3) c 0) (fun p1 c1 ts => preR (ts ++ [(10, 0)]) (FT B L e 2 d p1 c1 w)))
    (@ite _ (WDi B L (sk B L p) 5) (Classical.propDecidable _) (bnd (FT B L e 0 d (sk B L p + 2) c 0) (fun p1 c1 ts => preR (pend w ++ ts) (FT B L e 2 d p1 c1 11)))
    (.inr (sk B L p, c, pend w)))
theorem FT_z {B : Nat → Nat} {L k d p c : Nat} {w : Int32} : FT B L 0 k d p c w = .inl 1 := rfl
theorem FT_0 {B : Nat → Nat} {L e d p c : Nat} {w : Int32} : FT B L (e + 1) 0 d p c w = @ite _ (WDi B L (sk B L p) 6) (Classical.propDecidable _) (if 10 ≤ d then .inl (3 + 8 * sk B L p) else bnd (FT B L e 0 (d + 1) (sk B L p + 3) c 0) (fun p1 c1 ts => .inr (p1, c1, ts ++ [(9, 0)])))
    (if chI B L (sk B L p) = 91 then (if 10 ≤ d then .inl (3 + 8 * sk B L p) else bnd (FT B L e 1 (d + 1) (sk B L p + 1) c 0) (fun p1 c1 ts => if chI B L (sk B L p1) = 93 then .inr (sk B L p1 + 1, c1, ts) else .inl (1 + 8 * sk B L p1)))
    else cmF B L p c) := rfl
theorem FT_1 {B : Nat → Nat} {L e d p c : Nat} {w : Int32} : FT B L (e + 1) 1 d p c w = bnd (FT B L e 0 d p c 0) (fun p1 c1 ts => preR ts (FT B L e 2 d p1 c1 0)) := rfl
theorem FT_2 {B : Nat → Nat} {L e d p c : Nat} {w : Int32} : FT B L (e + 1) 2 d p c w = @ite _ (WDi B L (sk B L p) 4) (Classical.propDecidable _) (bnd (FT B L e 0 d (sk B L p + 3) c 0) (fun p1 c1 ts => preR (ts ++ [(10, 0)]) (FT B L e 2 d p1 c1 w)))
    (@ite _ (WDi B L (sk B L p) 5) (Classical.propDecidable _) (bnd (FT B L e 0 d (sk B L p + 2) c 0) (fun p1 c1 ts => preR (pend w ++ ts) (FT B L e 2 d p1 c1 11)))
    (.inr (sk B L p, c, pend w))) := rfl
noncomputable def tsF (B : Nat → Nat) (L p c : Nat) : RR := FT B L (3 * L + 3) 1 0 p c 0
/-- a clause: where it ends, how much is counted, its signs -/
noncomputable def rcF (B : Nat → Nat) (L n p c : Nat) : Nat ⊕ (Nat × Nat × Cls) :=
  @ite _ (WDi B L (sk B L p) 2) (Classical.propDecidable _) (if 12 ≤ n then .inl (5 + 8 * sk B L p) else match smF B L (sk B L p + 5) c with
    | .inl f => .inl f
    | .inr a => @ite _ (WDi B L (sk B L a.1) 3) (Classical.propDecidable _) (match tsF B L (sk B L a.1 + 2) a.2.1 with
      | .inl f => .inl f
      | .inr b => .inr (b.1, b.2.1, a.2.2, b.2.2)) (.inr (sk B L a.1, a.2.1, a.2.2, [])))
  (.inl (1 + 8 * sk B L p))
noncomputable def rlF (B : Nat → Nat) (L : Nat) : Nat → Nat → Nat → Nat → Nat ⊕ List Cls
  | 0, _, _, _ => .inl 1
  | e + 1, n, p, c => match rcF B L n p c with
    | .inl f => .inl f
    | .inr a => if L ≤ sk B L a.1 then .inr [a.2.2] else if B (sk B L a.1) = 59 then (match rlF B L e (n + 1) (sk B L a.1 + 1) a.2.1 with
      | .inl f => .inl f
      | .inr cs => .inr (a.2.2 :: cs)) else .inl (1 + 8 * sk B L a.1)
/-- texts whose bytes are bytes -/
def ByB (B : Nat → Nat) (L : Nat) : Prop := L ≤ 400 ∧ ∀ j, j < L → B j < 256
theorem TpC_by {m : pMem} {B : Nat → Nat} {L : Nat} (h : TpC m B L) : ByB B L := ⟨h.1, fun j hj => (h.2.2 j hj).1⟩
section T45
variable {B : Nat → Nat} {L : Nat}
theorem ch_lt {q : Nat} {x : Int32} (h : chI B L q = x) (hx : x ≠ -1) : q < L := Nat.lt_of_not_le fun w => hx (by rw [← h, ch_end w])
theorem wl_at {p i : Nat} (h : wlF B L p i < wno i) : WL B L p i (wlF B L p i) := wlB_iff.mp (fa_first_yes (wlB B L p i) (wno i) h)
theorem wl_le {p i : Nat} : wlF B L p i ≤ wno i := fa_first_le _ _
theorem TyL_1 {t : Tok} {a b : List Bool} (h : TyT t a b) : TyL [t] a b := ⟨b, h, rfl⟩
/-- what a value is -/
theorem vl_ok {p c p1 c1 : Nat} {ts : List Tok} (hp : p ≤ L) (h : vlF B L p c = .inr (p1, c1, ts)) : p < p1 ∧ p1 ≤ L ∧ c < 60 ∧ c1 = c + 1 ∧ nVal ts = 1 ∧ ts.length = 1 ∧ ∀ a, TyL ts a (false :: a) := by
  have hs := sk_b (B := B) hp
  unfold vlF at h
  by_cases c1' : ¬ nd B L (sk B L p) = sk B L p
  · rw [if_pos c1'] at h
    by_cases c2 : 5 < nd B L (sk B L p) - sk B L p
    · rw [if_pos c2] at h; cases h
    · rw [if_neg c2] at h
      by_cases c3 : 60 ≤ c
      · rw [if_pos c3] at h; cases h
      · rw [if_neg c3] at h
        obtain ⟨g1, g2, g3⟩ := inr3 h
        rw [g1, g2, g3]
        have nb := nd_b (B := B) hs.2
        have hv := nv_lt (B := B) (L := L) (p := sk B L p)
        refine ⟨by omega, nb.2, by omega, rfl, rfl, rfl, fun a => TyL_1 (Or.inl ⟨rfl, nI_pos (by omega), rfl⟩)⟩
  · rw [if_neg c1'] at h
    by_cases c2 : wlF B L (sk B L p) 1 = 12
    · rw [if_pos c2] at h; cases h
    · rw [if_neg c2] at h
      by_cases c3 : 60 ≤ c
      · rw [if_pos c3] at h; cases h
      · rw [if_neg c3] at h
        obtain ⟨g1, g2, g3⟩ := inr3 h
        rw [g1, g2, g3]
        have wl : wlF B L (sk B L p) 1 ≤ 12 := wl_le
        have wl : wlF B L (sk B L p) 1 < 12 := by omega
        have wa := wl_at (i := 1) wl
        have o := wst_ok1 1 (by decide) _ wl
        have wi1 := wi_ok1 1 (by decide) _ wl
        have l0 := (lenJ_65 (wi 1 (wlF B L (sk B L p) 1)) wi1.2.2.1).2
        have wa1 : sk B L p + wlen 1 (wlF B L (sk B L p) 1) ≤ L := wa.1
        refine ⟨by omega, wa1, by omega, rfl, rfl, rfl, fun a => TyL_1 (Or.inr (Or.inl ⟨rfl, vp_in_nI wl (by decide), rfl⟩))⟩
theorem pre_inr {ts : List Tok} {r : RR} {p c : Nat} {us : List Tok} (h : preR ts r = .inr (p, c, us)) : ∃ vs, r = .inr (p, c, vs) ∧ us = ts ++ vs := by
  cases r with
  | inl f => cases h
  | inr a =>
    obtain ⟨a1, a2, a3⟩ := a
    cases h
    exact ⟨a3, rfl, rfl⟩
theorem pre_inl {ts : List Tok} {r : RR} {f : Nat} (h : preR ts r = .inl f) : r = .inl f := by
  cases r with
  | inl g => cases h; rfl
  | inr a => cases h
theorem pre_of {ts : List Tok} {p c : Nat} {us : List Tok} : preR ts (.inr (p, c, us)) = .inr (p, c, ts ++ us) := rfl
theorem pend_len (w : Int32) : (pend w).length = if w = 0 then 0 else 1 := by
  unfold pend
  by_cases e : w = 0
  · rw [if_pos e, if_pos e]; rfl
  · rw [if_neg e, if_neg e]; rfl
theorem pend_nv {w : Int32} (h : w ≠ 1) : nVal (pend w) = 0 := by
  unfold pend
  by_cases e : w = 0
  · rw [if_pos e]; rfl
  · rw [if_neg e]
    show (if w = 0 ∨ w = 1 then 1 else 0) + 0 = 0
    rw [if_neg (fun z => z.elim e h)]
theorem stp_ar {x : Int32} (h : stp x ≠ 0) : isAr (stp x) ∧ x ≠ -1 ∧ stp x ≠ 1 := by
  unfold stp at h ⊢
  unfold isAr
  by_cases c1 : x = 43
  · rw [if_pos c1]; exact ⟨by decide, by rw [c1]; decide, by decide⟩
  · rw [if_neg c1] at h ⊢
    by_cases c2 : x = 45
    · rw [if_pos c2]; exact ⟨by decide, by rw [c2]; decide, by decide⟩
    · rw [if_neg c2] at h ⊢
      by_cases c3 : x = 42
      · rw [if_pos c3]; exact ⟨by decide, by rw [c3]; decide, by decide⟩
      · rw [if_neg c3] at h ⊢
        by_cases c4 : x = 47
        · rw [if_pos c4]; exact ⟨by decide, by rw [c4]; decide, by decide⟩
        · rw [if_neg c4] at h ⊢
          by_cases c5 : x = 37
          · rw [if_pos c5]; exact ⟨by decide, by rw [c5]; decide, by decide⟩
          · rw [if_neg c5] at h; exact absurd rfl h
theorem nVal_op {t : Int32} (h : isAr t ∨ isCm t ∨ t = 9 ∨ t = 10 ∨ t = 11) : nVal [(t, 0)] = 0 := by
  show (if t = 0 ∨ t = 1 then 1 else 0) + 0 = 0
  unfold isAr isCm at h
  rw [if_neg]
  rcases h with (rfl | rfl | rfl | rfl | rfl) | (rfl | rfl | rfl | rfl | rfl) | rfl | rfl | rfl <;> decide
def bse (w : Int32) (b : Bool) (a : List Bool) : List Bool := if w = 0 then b :: a else b :: b :: a
theorem pend_ty {w : Int32} (hw : w = 0 ∨ w = 2 ∨ w = 3) (a : List Bool) : TyL (pend w) (bse w false a) (false :: a) := by
  unfold pend bse
  by_cases e : w = 0
  · rw [if_pos e, if_pos e]; exact rfl
  · rw [if_neg e, if_neg e]
    refine TyL_1 (Or.inr (Or.inr (Or.inr (Or.inr (Or.inl ⟨?_, a, rfl, rfl⟩)))))
    unfold isAr
    rcases hw with h | h | h
    · exact absurd h e
    · exact Or.inl h
    · exact Or.inr (Or.inl h)
theorem sumL_go {e p c p1 c1 : Nat} {w : Int32} {ts : List Tok} (h : sumL B L (e + 1) p c w = .inr (p1, c1, ts)) :
    (stp (chI B L (sk B L p)) = 0 ∧ p1 = sk B L p ∧ c1 = c ∧ ts = pend w) ∨ ∃ p2 c2 t2 us, stp (chI B L (sk B L p)) ≠ 0 ∧ vlF B L (sk B L p + 1) c = .inr (p2, c2, t2) ∧
      (((stp (chI B L (sk B L p)) = 2 ∨ stp (chI B L (sk B L p)) = 3) ∧ sumL B L e p2 c2 (stp (chI B L (sk B L p))) = .inr (p1, c1, us) ∧ ts = pend w ++ t2 ++ us) ∨ (¬ (stp (chI B L (sk B L p)) = 2 ∨ stp (chI B L (sk B L p)) = 3) ∧ sumL B L e p2 c2 w = .inr (p1, c1, us) ∧ ts = t2 ++ [(stp (chI B L (sk B L p)), 0)] ++ us)) := by
  rw [sumL] at h
  by_cases c0 : stp (chI B L (sk B L p)) = 0
  · rw [if_pos c0] at h
    cases h
    exact Or.inl ⟨c0, rfl, rfl, rfl⟩
  · rw [if_neg c0] at h
    cases ev : vlF B L (sk B L p + 1) c with
    | inl f => rw [ev] at h; cases h
    | inr a =>
      obtain ⟨p2, c2, t2⟩ := a
      rw [ev] at h
      simp only at h
      by_cases c3 : stp (chI B L (sk B L p)) = 2 ∨ stp (chI B L (sk B L p)) = 3
      · rw [if_pos c3] at h
        obtain ⟨us, h1, h2⟩ := pre_inr h
        exact Or.inr ⟨p2, c2, t2, us, c0, rfl, Or.inl ⟨c3, h1, h2⟩⟩
      · rw [if_neg c3] at h
        obtain ⟨us, h1, h2⟩ := pre_inr h
        exact Or.inr ⟨p2, c2, t2, us, c0, rfl, Or.inr ⟨c3, h1, h2⟩⟩
theorem sumL_ok : ∀ e p c w p1 c1 ts, p ≤ L → (w = 0 ∨ w = 2 ∨ w = 3) → sumL B L e p c w = .inr (p1, c1, ts) → p ≤ p1 ∧ p1 ≤ L ∧ c ≤ c1 ∧ (c ≤ 60 → c1 ≤ 60) ∧ c1 = c + nVal ts ∧ ts.length ≤ 2 * (c1 - c) + (if w = 0 then 0 else 1) ∧ sk B L p1 = p1 ∧ ∀ a, TyL ts (bse w false a) (false :: a) := by
  intro e
  induction e with
  | zero => intro p c w p1 c1 ts _ _ h; cases h
  | succ e ih =>
    intro p c w p1 c1 ts hp hw h
    have hs := sk_b (B := B) hp
    have w1 : w ≠ 1 := by rcases hw with z | z | z <;> (rw [z]; decide)
    rcases sumL_go h with ⟨c0, rfl, rfl, rfl⟩ | ⟨p2, c2, t2, us, c0, ev, hh⟩
    · refine ⟨hs.1, hs.2, Nat.le_refl _, id, by rw [pend_nv w1, Nat.add_zero], by rw [pend_len]; omega, sk_sk B L p, pend_ty hw⟩
    · have sa := stp_ar c0
      have hl := ch_lt (q := sk B L p) rfl sa.2.1
      obtain ⟨v1, v2, v3, v4, v5, v6, v7⟩ := vl_ok (by omega) ev
      rcases hh with ⟨c3, h1, rfl⟩ | ⟨c3, h1, rfl⟩
      · obtain ⟨i1, i2, i3, i4, i5, i6, i7, i8⟩ := ih p2 c2 _ p1 c1 us v2 (Or.inr c3) h1
        rw [if_neg c0] at i6
        refine ⟨by omega, i2, by omega, fun z => i4 (by omega), by rw [nVal_app, nVal_app, pend_nv w1]; omega, by rw [List.length_append, List.length_append, pend_len]; omega, i7, fun a => ?_⟩
        have b1 := pend_ty hw a
        have b2 := v7 (false :: a)
        have b3 := i8 a
        unfold bse at b3
        rw [if_neg c0] at b3
        exact TyL_app (TyL_app b1 b2) b3
      · obtain ⟨i1, i2, i3, i4, i5, i6, i7, i8⟩ := ih p2 c2 w p1 c1 us v2 hw h1
        refine ⟨by omega, i2, by omega, fun z => i4 (by omega), by rw [nVal_app, nVal_app, nVal_op (Or.inl sa.1)]; omega, by rw [List.length_append, List.length_append, v6]; show 1 + 1 + us.length ≤ _; omega, i7, fun a => ?_⟩
        have b3 := i8 a
        have b2 := v7 (bse w false a)
        refine TyL_app (TyL_app b2 ?_) b3
        unfold bse
        by_cases e0 : w = 0
        · rw [if_pos e0]
          exact TyL_1 (Or.inr (Or.inr (Or.inr (Or.inr (Or.inl ⟨sa.1, a, rfl, rfl⟩)))))
        · rw [if_neg e0]
          exact TyL_1 (Or.inr (Or.inr (Or.inr (Or.inr (Or.inl ⟨sa.1, false :: a, rfl, rfl⟩)))))
theorem sm_go {p c p1 c1 : Nat} {ts : List Tok} (h : smF B L p c = .inr (p1, c1, ts)) : ∃ p2 c2 t2 us, vlF B L p c = .inr (p2, c2, t2) ∧ sumL B L (L + 1) p2 c2 0 = .inr (p1, c1, us) ∧ ts = t2 ++ us := by
  unfold smF at h
  cases ev : vlF B L p c with
  | inl f => rw [ev] at h; cases h
  | inr a =>
    obtain ⟨p2, c2, t2⟩ := a
    rw [ev] at h
    obtain ⟨us, h1, h2⟩ := pre_inr h
    exact ⟨p2, c2, t2, us, rfl, h1, h2⟩
theorem sm_ok {p c p1 c1 : Nat} {ts : List Tok} (hp : p ≤ L) (h : smF B L p c = .inr (p1, c1, ts)) : p < p1 ∧ p1 ≤ L ∧ c < c1 ∧ c1 ≤ 60 ∧ c1 = c + nVal ts ∧ ts.length + 1 ≤ 2 * (c1 - c) ∧ sk B L p1 = p1 ∧ ∀ a, TyL ts a (false :: a) := by
  obtain ⟨p2, c2, t2, us, h1, h2, rfl⟩ := sm_go h
  obtain ⟨v1, v2, v3, v4, v5, v6, v7⟩ := vl_ok hp h1
  obtain ⟨i1, i2, i3, i4, i5, i6, i7, i8⟩ := sumL_ok _ _ _ _ _ _ _ v2 (Or.inl rfl) h2
  rw [if_pos rfl] at i6
  refine ⟨by omega, i2, by omega, i4 (by omega), by rw [nVal_app]; omega, by rw [List.length_append]; omega, i7, fun a => TyL_app (v7 a) ?_⟩
  have := i8 a
  unfold bse at this
  rw [if_pos rfl] at this
  exact this
theorem cmS_cm {x y : Int32} (h : cmS x y ≠ 0) : isCm (cmS x y) ∧ x ≠ -1 ∧ (x = 60 ∨ x = 61 ∨ x = 62) := by
  unfold cmS at h ⊢
  unfold isCm
  by_cases c1 : x = 60
  · rw [if_pos c1]
    refine ⟨?_, by rw [c1]; decide, Or.inl c1⟩
    by_cases c2 : y = 61
    · rw [if_pos c2]; decide
    · rw [if_neg c2]; decide
  · rw [if_neg c1] at h ⊢
    by_cases c2 : x = 62
    · rw [if_pos c2]
      refine ⟨?_, by rw [c2]; decide, Or.inr (Or.inr c2)⟩
      by_cases c3 : y = 61
      · rw [if_pos c3]; decide
      · rw [if_neg c3]; decide
    · rw [if_neg c2] at h ⊢
      by_cases c3 : x = 61
      · rw [if_pos c3]
        exact ⟨by decide, by rw [c3]; decide, Or.inr (Or.inl c3)⟩
      · rw [if_neg c3] at h; exact absurd rfl h
theorem cmN_b {q : Nat} (hx : chI B L q ≠ -1) : 1 ≤ cmN (chI B L q) (chI B L (q + 1)) ∧ q + cmN (chI B L q) (chI B L (q + 1)) ≤ L := by
  have hq := ch_lt (B := B) (L := L) (q := q) rfl hx
  unfold cmN
  by_cases c1 : chI B L q = 61
  · rw [if_pos c1]; omega
  · rw [if_neg c1]
    by_cases c2 : chI B L (q + 1) = 61
    · rw [if_pos c2]
      have := ch_lt c2 (by decide)
      omega
    · rw [if_neg c2]; omega
theorem cm_go {p c p1 c1 : Nat} {ts : List Tok} (h : cmF B L p c = .inr (p1, c1, ts)) : ∃ p2 c2 t2 t3, smF B L p c = .inr (p2, c2, t2) ∧ cmS (chI B L p2) (chI B L (p2 + 1)) ≠ 0 ∧ c2 < 60 ∧ smF B L (p2 + cmN (chI B L p2) (chI B L (p2 + 1))) (c2 + 1) = .inr (p1, c1, t3) ∧ ts = t2 ++ t3 ++ [(cmS (chI B L p2) (chI B L (p2 + 1)), 0)] := by
  unfold cmF at h
  cases ev : smF B L p c with
  | inl f => rw [ev] at h; cases h
  | inr a =>
    obtain ⟨p2, c2, t2⟩ := a
    rw [ev] at h
    simp only at h
    by_cases x1 : cmS (chI B L p2) (chI B L (p2 + 1)) = 0
    · rw [if_pos x1] at h; cases h
    · rw [if_neg x1] at h
      by_cases x2 : 60 ≤ c2
      · rw [if_pos x2] at h; cases h
      · rw [if_neg x2] at h
        cases ew : smF B L (p2 + cmN (chI B L p2) (chI B L (p2 + 1))) (c2 + 1) with
        | inl f => rw [ew] at h; cases h
        | inr b =>
          obtain ⟨p3, c3, t3⟩ := b
          rw [ew] at h
          cases h
          exact ⟨p2, c2, t2, t3, rfl, x1, by omega, ew, rfl⟩
/-- what facts and tests are -/
def FtO (B : Nat → Nat) (L d p c p1 c1 : Nat) (ts : List Tok) : Prop := p < p1 ∧ p1 ≤ L ∧ c < c1 ∧ c1 ≤ 60 ∧ nVal ts ≤ c1 - c ∧ 3 * ts.length + 3 + 3 * d ≤ 14 * (c1 - c) ∧ ∀ a, TyL ts a (true :: a)
theorem cm_ok {d p c p1 c1 : Nat} {ts : List Tok} (hp : p ≤ L) (hd : d ≤ 10) (h : cmF B L p c = .inr (p1, c1, ts)) : FtO B L d p c p1 c1 ts := by
  obtain ⟨p2, c2, t2, t3, h1, h2, h3, h4, rfl⟩ := cm_go h
  obtain ⟨a1, a2, a3, a4, a5, a6, a7, a8⟩ := sm_ok hp h1
  have cc := cmS_cm h2
  have cn := cmN_b cc.2.1
  obtain ⟨b1, b2, b3, b4, b5, b6, b7, b8⟩ := sm_ok cn.2 h4
  refine ⟨by omega, b2, by omega, b4, by rw [nVal_app, nVal_app, nVal_op (Or.inr (Or.inl cc.1))]; omega, ?_, fun a => TyL_app (TyL_app (a8 a) (b8 (false :: a))) (TyL_1 (Or.inr (Or.inr (Or.inr (Or.inr (Or.inr ⟨cc.1, a, rfl, rfl⟩))))))⟩
  rw [List.length_append, List.length_append]
  show 3 * (t2.length + t3.length + 1) + 3 + 3 * d ≤ _
  omega
theorem pendB_ty {w : Int32} (hw : w = 0 ∨ w = 11) (a : List Bool) : TyL (pend w) (bse w true a) (true :: a) := by
  unfold pend bse
  by_cases e : w = 0
  · rw [if_pos e, if_pos e]; exact rfl
  · rw [if_neg e, if_neg e]
    exact TyL_1 (Or.inr (Or.inr (Or.inr (Or.inl ⟨Or.inr (hw.resolve_left e), a, rfl, rfl⟩))))
theorem wd_b {p i : Nat} (h : WDi B L p i) : p + lenJ i ≤ L := h.1
theorem len_s : lenJ 2 = 5 ∧ lenJ 3 = 2 ∧ lenJ 4 = 3 ∧ lenJ 5 = 2 ∧ lenJ 6 = 3 := by decide +kernel
theorem FT_ok : ∀ e, (∀ d p c p1 c1 ts, p ≤ L → d ≤ 10 → FT B L e 0 d p c 0 = .inr (p1, c1, ts) → FtO B L d p c p1 c1 ts)
    ∧ (∀ d p c p1 c1 ts, p ≤ L → d ≤ 10 → FT B L e 1 d p c 0 = .inr (p1, c1, ts) → FtO B L d p c p1 c1 ts)
    ∧ (∀ d p c p1 c1 ts w, p ≤ L → d ≤ 10 → (w = 0 ∨ w = 11) → c ≤ 60 → FT B L e 2 d p c w = .inr (p1, c1, ts) → p ≤ p1 ∧ p1 ≤ L ∧ c ≤ c1 ∧ c1 ≤ 60 ∧ nVal ts ≤ c1 - c ∧ 3 * ts.length ≤ 14 * (c1 - c) + (if w = 0 then 0 else 3) ∧ ∀ a, TyL ts (bse w true a) (true :: a)) := by
  intro e
  obtain ⟨z2, z3, z4, z5, z6⟩ := len_s
  induction e with
  | zero => exact ⟨fun d p c p1 c1 ts _ _ h => (by rw [FT_z] at h; cases h), fun d p c p1 c1 ts _ _ h => (by rw [FT_z] at h; cases h), fun d p c p1 c1 ts w _ _ _ _ h => (by rw [FT_z] at h; cases h)⟩
  | succ e ih =>
    obtain ⟨ih0, ih1, ih2⟩ := ih
    refine ⟨fun d p c p1 c1 ts hp hd h => ?_, fun d p c p1 c1 ts hp hd h => ?_, fun d p c p1 c1 ts w hp hd hw hc h => ?_⟩
    · have hs := sk_b (B := B) hp
      rw [FT_0] at h
      by_cases x1 : WDi B L (sk B L p) 6
      · rw [if_pos x1] at h
        have hl := wd_b x1
        by_cases x2 : 10 ≤ d
        · rw [if_pos x2] at h; cases h
        · rw [if_neg x2] at h
          obtain ⟨p2, c2, t2, ev, h⟩ := bnd_go h
          obtain ⟨rfl, rfl, rfl⟩ := inr3 h
          obtain ⟨f1, f2, f3, f4, f5, f6, f7⟩ := ih0 (d + 1) _ c _ _ _ (by omega) (by omega) ev
          refine ⟨by omega, f2, f3, f4, by rw [nVal_app, nVal_op (Or.inr (Or.inr (Or.inl rfl)))]; omega, ?_, fun a => TyL_app (f7 a) (TyL_1 (Or.inr (Or.inr (Or.inl ⟨rfl, a, rfl, rfl⟩))))⟩
          rw [List.length_append]
          show 3 * (t2.length + 1) + 3 + 3 * d ≤ _
          omega
      · rw [if_neg x1] at h
        by_cases x3 : chI B L (sk B L p) = 91
        · rw [if_pos x3] at h
          have hl := ch_lt x3 (by decide)
          by_cases x2 : 10 ≤ d
          · rw [if_pos x2] at h; cases h
          · rw [if_neg x2] at h
            obtain ⟨p2, c2, t2, ev, h⟩ := bnd_go h
            by_cases x4 : chI B L (sk B L p2) = 93
            · rw [if_pos x4] at h
              obtain ⟨rfl, rfl, rfl⟩ := inr3 h
              have hl2 := ch_lt x4 (by decide)
              obtain ⟨f1, f2, f3, f4, f5, f6, f7⟩ := ih1 (d + 1) _ c _ _ _ (by omega) (by omega) ev
              have hs2 := sk_b (B := B) f2
              exact ⟨by omega, by omega, f3, f4, f5, by omega, f7⟩
            · rw [if_neg x4] at h; cases h
        · rw [if_neg x3] at h
          exact cm_ok hp hd h
    · rw [FT_1] at h
      obtain ⟨p2, c2, t2, ev, h⟩ := bnd_go h
      obtain ⟨us, h1, rfl⟩ := pre_inr h
      obtain ⟨f1, f2, f3, f4, f5, f6, f7⟩ := ih0 d p c _ _ _ hp hd ev
      obtain ⟨g1, g2, g3, g4, g5, g6, g7⟩ := ih2 d p2 c2 _ _ _ 0 f2 hd (Or.inl rfl) f4 h1
      rw [if_pos rfl] at g6
      refine ⟨by omega, g2, by omega, g4, by rw [nVal_app]; omega, by rw [List.length_append]; omega, fun a => TyL_app (f7 a) ?_⟩
      have := g7 a
      unfold bse at this
      rw [if_pos rfl] at this
      exact this
    · have hs := sk_b (B := B) hp
      have w1 : w ≠ 1 := by rcases hw with z | z <;> (rw [z]; decide)
      rw [FT_2] at h
      by_cases x1 : WDi B L (sk B L p) 4
      · rw [if_pos x1] at h
        have hl := wd_b x1
        obtain ⟨p2, c2, t2, ev, h⟩ := bnd_go h
        obtain ⟨us, h1, rfl⟩ := pre_inr h
        obtain ⟨f1, f2, f3, f4, f5, f6, f7⟩ := ih0 d _ c _ _ _ (by omega) hd ev
        obtain ⟨g1, g2, g3, g4, g5, g6, g7⟩ := ih2 d p2 c2 _ _ _ w f2 hd hw f4 h1
        refine ⟨by omega, g2, by omega, g4, by rw [nVal_app, nVal_app, nVal_op (Or.inr (Or.inr (Or.inr (Or.inl rfl))))]; omega, ?_, fun a => TyL_app (TyL_app (f7 (bse w true a)) ?_) (g7 a)⟩
        · rw [List.length_append, List.length_append]
          show 3 * (t2.length + 1 + us.length) ≤ _
          omega
        · unfold bse
          by_cases e0 : w = 0
          · rw [if_pos e0]; exact TyL_1 (Or.inr (Or.inr (Or.inr (Or.inl ⟨Or.inl rfl, a, rfl, rfl⟩))))
          · rw [if_neg e0]; exact TyL_1 (Or.inr (Or.inr (Or.inr (Or.inl ⟨Or.inl rfl, true :: a, rfl, rfl⟩))))
      · rw [if_neg x1] at h
        by_cases x2 : WDi B L (sk B L p) 5
        · rw [if_pos x2] at h
          have hl := wd_b x2
          obtain ⟨p2, c2, t2, ev, h⟩ := bnd_go h
          obtain ⟨us, h1, rfl⟩ := pre_inr h
          obtain ⟨f1, f2, f3, f4, f5, f6, f7⟩ := ih0 d _ c _ _ _ (by omega) hd ev
          obtain ⟨g1, g2, g3, g4, g5, g6, g7⟩ := ih2 d p2 c2 _ _ _ 11 f2 hd (Or.inr rfl) f4 h1
          rw [if_neg (by decide)] at g6
          refine ⟨by omega, g2, by omega, g4, by rw [nVal_app, nVal_app, pend_nv w1]; omega, ?_, fun a => TyL_app (TyL_app (pendB_ty hw a) (f7 (true :: a))) ?_⟩
          · rw [List.length_append, List.length_append, pend_len]
            by_cases e0 : w = 0
            · rw [if_pos e0, if_pos e0]; omega
            · rw [if_neg e0, if_neg e0]; omega
          · have := g7 a
            unfold bse at this
            rw [if_neg (by decide)] at this
            exact this
        · rw [if_neg x2] at h
          obtain ⟨rfl, rfl, rfl⟩ := inr3 h
          refine ⟨hs.1, hs.2, Nat.le_refl _, hc, by rw [pend_nv w1]; omega, ?_, pendB_ty hw⟩
          rw [pend_len]
          by_cases e0 : w = 0
          · rw [if_pos e0, if_pos e0]; omega
          · rw [if_neg e0, if_neg e0]; omega
end T45
