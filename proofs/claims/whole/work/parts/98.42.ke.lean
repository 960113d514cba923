/-! ===== clauses of rules ===== -/
section T48
variable {B : Nat → Nat} {L : Nat}
theorem rc_go {n p c p1 c1 : Nat} {cl : Cls} (h : rcF B L n p c = .inr (p1, c1, cl)) : WDi B L (sk B L p) 2 ∧ n < 12 ∧ ∃ p2 c2 t2, smF B L (sk B L p + 5) c = .inr (p2, c2, t2) ∧
    ((WDi B L (sk B L p2) 3 ∧ ∃ t3, tsF B L (sk B L p2 + 2) c2 = .inr (p1, c1, t3) ∧ cl = (t2, t3)) ∨ (¬ WDi B L (sk B L p2) 3 ∧ p1 = sk B L p2 ∧ c1 = c2 ∧ cl = (t2, []))) := by
  unfold rcF at h
  by_cases x1 : WDi B L (sk B L p) 2
  · rw [if_pos x1] at h
    by_cases x2 : 12 ≤ n
    · rw [if_pos x2] at h; cases h
    · rw [if_neg x2] at h
      refine ⟨x1, by omega, ?_⟩
      cases ev : smF B L (sk B L p + 5) c with
      | inl f => rw [ev] at h; cases h
      | inr a =>
        obtain ⟨p2, c2, t2⟩ := a
        rw [ev] at h
        simp only at h
        by_cases x3 : WDi B L (sk B L p2) 3
        · rw [if_pos x3] at h
          cases ew : tsF B L (sk B L p2 + 2) c2 with
          | inl f => rw [ew] at h; cases h
          | inr b =>
            obtain ⟨p3, c3, t3⟩ := b
            rw [ew] at h
            injection h with h
            injection h with h1 h
            injection h with h2 h3
            refine ⟨p2, c2, t2, rfl, Or.inl ⟨x3, t3, ?_, h3.symm⟩⟩
            rw [ew, show p1 = p3 from h1.symm, show c1 = c3 from h2.symm]
        · rw [if_neg x3] at h
          injection h with h
          injection h with h1 h
          injection h with h2 h3
          exact ⟨p2, c2, t2, rfl, Or.inr ⟨x3, h1.symm, h2.symm, h3.symm⟩⟩
  · rw [if_neg x1] at h; cases h
theorem ty_ne {ts : List Tok} (h : TyL ts [] [true]) : ts ≠ [] := fun e => by
  rw [e] at h
  cases h
theorem rc_ok {n p c p1 c1 : Nat} {cl : Cls} (hp : p ≤ L) (hc : c ≤ 60) (h : rcF B L n p c = .inr (p1, c1, cl)) : p < p1 ∧ p1 ≤ L ∧ n < 12 ∧ c < c1 ∧ c1 ≤ 60 ∧ ClsOk cl ∧ 3 * (cl.1.length + cl.2.length) ≤ 14 * (c1 - c) ∧ (cl.2 = [] → sk B L p1 = p1) := by
  obtain ⟨x1, x2, p2, c2, t2, e2, hh⟩ := rc_go h
  have hs := sk_b (B := B) hp
  have hb := wd_b x1
  obtain ⟨z2, z3, z4, z5, z6⟩ := len_s
  obtain ⟨a1, a2, a3, a4, a5, a6, a7, a8⟩ := sm_ok (by omega) e2
  rcases hh with ⟨x3, t3, e3, rfl⟩ | ⟨x3, e1, e3, rfl⟩
  · have hb3 := wd_b x3
    obtain ⟨f1, f2, f3, f4, f5, f6, f7⟩ := (FT_ok (3 * L + 3)).2.1 _ _ _ _ _ _ (by omega) (by omega) e3
    have hs2 := sk_b (B := B) a2
    exact ⟨by omega, f2, x2, by omega, f4, ⟨a8 [], Or.inr (f7 []), by show nVal t2 + nVal t3 ≤ 60; omega⟩, by show 3 * (t2.length + t3.length) ≤ _; omega, fun z => absurd z (ty_ne (f7 []))⟩
  · rw [e1, e3]
    have hs2 := sk_b (B := B) a2
    exact ⟨by omega, hs2.2, x2, by omega, a4, ⟨a8 [], Or.inl rfl, by show nVal t2 + 0 ≤ 60; omega⟩, by show 3 * (t2.length + 0) ≤ _; omega, fun _ => sk_sk B L p2⟩
theorem rl_go {e n p c p1 c1 : Nat} {cl : Cls} (h : rcF B L n p c = .inr (p1, c1, cl)) : rlF B L (e + 1) n p c = if L ≤ sk B L p1 then .inr [cl] else if B (sk B L p1) = 59 then (match rlF B L e (n + 1) (sk B L p1 + 1) c1 with
      | .inl f => .inl f
      | .inr cs => .inr (cl :: cs)) else .inl (1 + 8 * sk B L p1) := by
  simp only [rlF, h]
  rfl
theorem rl_no {e n p c f : Nat} (h : rcF B L n p c = .inl f) : rlF B L (e + 1) n p c = .inl f := by
  simp only [rlF, h]
theorem rl_ok : ∀ e n p c cs, p ≤ L → c ≤ 60 → e + n = 12 → rlF B L (e + 1) n p c = .inr cs → (∀ cl ∈ cs, ClsOk cl) ∧ cs.length + n ≤ 12 := by
  intro e
  induction e with
  | zero =>
    intro n p c cs hp hc hn h
    cases ev : rcF B L n p c with
    | inl f => rw [rl_no ev] at h; cases h
    | inr a =>
      obtain ⟨p1, c1, cl⟩ := a
      have := rc_ok hp hc ev
      omega
  | succ e ih =>
    intro n p c cs hp hc hn h
    cases ev : rcF B L n p c with
    | inl f => rw [rl_no ev] at h; cases h
    | inr a =>
      obtain ⟨p1, c1, cl⟩ := a
      obtain ⟨o1, o2, o3, o4, o5, o6, o7, o8⟩ := rc_ok hp hc ev
      rw [rl_go ev] at h
      have hs := sk_b (B := B) o2
      by_cases x1 : L ≤ sk B L p1
      · rw [if_pos x1] at h
        cases h
        refine ⟨fun d hd => ?_, by show 1 + n ≤ 12; omega⟩
        rw [List.mem_singleton] at hd
        rw [hd]; exact o6
      · rw [if_neg x1] at h
        by_cases x2 : B (sk B L p1) = 59
        · rw [if_pos x2] at h
          cases ew : rlF B L (e + 1) (n + 1) (sk B L p1 + 1) c1 with
          | inl f => rw [ew] at h; cases h
          | inr ds =>
            rw [ew] at h
            cases h
            obtain ⟨i1, i2⟩ := ih (n + 1) _ c1 ds (by omega) o5 (by omega) ew
            refine ⟨fun d hd => ?_, by show ds.length + 1 + n ≤ 12; omega⟩
            rcases List.mem_cons.mp hd with z | z
            · rw [z]; exact o6
            · exact i1 d z
        · rw [if_neg x2] at h; cases h
end T48
section T49
variable {X : pX} {B : Nat → Nat} {L r : Nat} {m : pMem} {Q : Option Value → pMem → Prop}
/-- one clause, from its loop's head on -/
theorem g_cClause {n p c : Nat} {us : List Int32} {m2 : pMem} (h : KS B L p c r us m2) (hc : c ≤ 60) (hn : n ≤ 12) (hu : 3 * us.length ≤ 14 * c + 3 * n) (T : Kk r m m2)
    (k1 : ∀ p1 c1 cl, rcF B L n p c = .inr (p1, c1, cl) → ∀ m3 x, KS B L p1 c1 r (us ++ encC cl) m3 → Kk r m m3 → Go X 40 mX7_read Q 140 [(0, .ref 10), (2, .int (nI n)), (4, .int x)] [] m3)
    (k0 : ∀ f, rcF B L n p c = .inl f → ∀ m3, CF f m3 → Kk r m m3 → Q (some (.int 0)) m3) : Go X 40 mX7_read Q 26 [(0, .ref 10), (2, .int (nI n))] [] m2 := by
  have hL := h.1.2.1.1
  have hl := h.1.2.2.2.2
  have hs := sk_b (B := B) hl
  obtain ⟨z2, z3, z4, z5, z6⟩ := len_s
  have n12 : nI n < (12 : Int32) ↔ n < 12 := nI_ltI (b := 12) (by omega) (by decide)
  unfold rcF at k1 k0
  refine bX7_read_26 h.1.1 (fun z => absurd z (nI_nlt (a := 12) (b := n) hn (by decide))) (fun _ => s_next h.1 (fun m3 h3 t3 => bX7_read_39 h3.1 ?_))
  rw [h3.2.2.1]
  have K3 := KS_tk t3 h3 h
  refine s_tw (k := 3) h3 (by decide) (fun x1 m4 h4 t4 => ?_) (fun x1 m4 h4 t4 => ?_)
  · rw [sk_sk] at x1 h4
    have x1 : WDi B L (sk B L p) 2 := x1
    have hb := wd_b x1
    have h4 : CS B L (sk B L p + 5) m4 := h4
    rw [if_pos x1] at k1 k0
    have K4 := KS_tk t4 h4 K3
    have T4 := T.tr ((t3.tr t4).kk r)
    refine bX7_read_57 h4.1 (fun _ z => ?_) (fun _ z => ?_) (fun z => absurd z (by decide))
    · rw [if_neg (by have := n12.mp z; omega)] at k1 k0
      refine s_cSum K4 hc (by omega) (fun p5 c5 ts5 e5 m5 h5 t5 => ?_) (fun f ef m5 h5 t5 => ?_)
      · rw [e5] at k1 k0
        simp only at k1 k0
        obtain ⟨a1, a2, a3, a4, a5, a6, a7, a8⟩ := sm_ok (by omega) e5
        have hs5 := sk_b (B := B) a2
        refine bX7_read_90 h5.1.1 (fun _ => s_tw (k := 4) h5.1 (by decide) (fun x2 m6 h6 t6 => ?_) (fun x2 m6 h6 t6 => ?_)) (fun z => absurd z (by decide))
        · have x2 : WDi B L (sk B L p5) 3 := x2
          have hb2 := wd_b x2
          have h6 : CS B L (sk B L p5 + 2) m6 := h6
          rw [if_pos x2] at k1 k0
          have K6 := KS_tk t6 h6 h5
          have T6 := T4.tr (t5.tr (t6.kk r))
          refine bX7_read_104 h6.1 (fun z => absurd z (by decide)) (fun _ => s_cTest K6 a4 (by rw [List.length_append, List.length_map]; omega) (fun p7 c7 ts7 e7 m7 h7 t7 => ?_) (fun f ef m7 h7 t7 => ?_))
          · rw [e7] at k1
            simp only at k1
            obtain ⟨f1, f2, f3, f4, f5, f6, f7⟩ := (FT_ok (3 * L + 3)).2.1 _ _ _ _ _ _ (by omega) (by omega) e7
            refine bX7_read_116 h7.1.1 (fun _ => bX7_read_121 h7.1.1 h7.2.2.2.1 h7.2.2.2.2.sh (fun z => absurd z (by decide)) (fun _ => s_rAdd h7 (by rw [List.length_append, List.length_append, List.length_map, List.length_map]; omega) (fun m8 h8 t8 => k1 _ _ _ rfl m8 _ ?_ (T6.tr (t7.tr t8))))) (fun z => absurd z (by decide))
            have e8 : us ++ encC (ts5, ts7) = us ++ ts5.map enc ++ ts7.map enc ++ [-35] := by
              unfold encC
              rw [if_neg (ty_ne (f7 []))]
              simp only [List.append_assoc]
            rw [e8]; exact h8
          · rw [ef] at k0
            exact bX7_read_116 h7.1 (fun z => absurd rfl z) (fun _ => k0 f rfl m7 h7 (T6.tr t7))
        · have x2 : ¬ WDi B L (sk B L p5) 3 := x2
          rw [if_neg x2] at k1 k0
          have K6 := KS_tk t6 h6 h5
          have T6 := T4.tr (t5.tr (t6.kk r))
          refine bX7_read_104 h6.1 (fun _ => bX7_read_121 h6.1 K6.2.2.2.1 h.2.2.2.2.sh (fun _ => s_rAdd K6 (by rw [List.length_append, List.length_map]; omega) (fun m8 h8 t8 => k1 _ _ _ rfl m8 _ ?_ (T6.tr t8))) (fun z => absurd rfl z)) (fun z => absurd rfl z)
          have e8 : us ++ encC (ts5, []) = us ++ ts5.map enc ++ [-34] := by
            unfold encC
            rw [if_pos rfl]
            simp only [List.append_assoc]
          rw [e8]; exact h8
      · rw [ef] at k0
        exact bX7_read_90 h5.1 (fun z => absurd rfl z) (fun _ => k0 f rfl m5 h5 (T4.tr t5))
    · have z : 12 ≤ n := Nat.not_lt.mp fun w => z (n12.mpr w)
      rw [if_pos z] at k0
      refine s_fail (k := 4) h4.1 h4.2.2.2.1 (by omega) (by decide) (fun m5 h5 t5 => bX7_read_85 h5.1 (Or.inl rfl) (k0 _ rfl m5 ?_ (T4.tr (t5.kk r))))
      rw [show 5 + 8 * sk B L p = 1 + 8 * sk B L p + 4 by omega]; exact h5
  · rw [sk_sk] at x1 h4
    have x1 : ¬ WDi B L (sk B L p) 2 := x1
    rw [if_neg x1] at k0
    refine bX7_read_57 h4.1 (fun z => absurd rfl z) (fun z => absurd rfl z) (fun _ => ?_)
    exact s_fail (k := 0) h4.1 h4.2.2.2.1 (by omega) (by decide) (fun m5 h5 t5 => bX7_read_69 h5.1 (Or.inl rfl) (k0 _ rfl m5 h5 (T.tr ((t3.tr (t4.tr t5)).kk r))))
theorem encC_len (cl : Cls) : (encC cl).length = cl.1.length + cl.2.length + 1 := by
  unfold encC
  by_cases e : cl.2 = []
  · rw [if_pos e, e]; simp
  · rw [if_neg e]; simp; omega
theorem g_cRead : ∀ e n p c us (m2 : pMem), e + n = 12 → KS B L p c r us m2 → c ≤ 60 → 3 * us.length ≤ 14 * c + 3 * n → Kk r m m2 → (∀ cs, rlF B L (e + 1) n p c = .inr cs → ∀ m3, Wf m3 → SZ r (us ++ encR cs) m3 → (us ++ encR cs).length ≤ 400 → Kk r m m3 → Q (some (.int 1)) m3) → (∀ f, rlF B L (e + 1) n p c = .inl f → ∀ m3, CF f m3 → Kk r m m3 → Q (some (.int 0)) m3) → Go X 40 mX7_read Q 26 [(0, .ref 10), (2, .int (nI n))] [] m2 := by
  intro e
  induction e with
  | zero =>
    intro n p c us m2 hn h hc hu T k1 k0
    refine g_cClause h hc (by omega) (by omega) T (fun p1 c1 cl ec m3 x h3 T3 => ?_) (fun f ef m3 h3 T3 => k0 f (rl_no ef) m3 h3 T3)
    have := rc_ok h.1.2.2.2.2 hc ec
    omega
  | succ e ih =>
    intro n p c us m2 hn h hc hu T k1 k0
    refine g_cClause h hc (by omega) (by omega) T (fun p1 c1 cl ec m3 x h3 T3 => ?_) (fun f ef m3 h3 T3 => k0 f (rl_no ef) m3 h3 T3)
    obtain ⟨o1, o2, o3, o4, o5, o6, o7, o8⟩ := rc_ok h.1.2.2.2.2 hc ec
    have rg := rl_go (e := e + 1) ec
    have hL := h3.1.2.1.1
    have hs := sk_b (B := B) o2
    have lc := encC_len cl
    refine bX7_read_140 h3.1.1 (s_next h3.1 (fun m4 h4 t4 => ?_))
    have K4 := KS_tk t4 h4 h3
    have T4 := T3.tr (t4.kk r)
    refine bX7_read_147 h4.1 (fun z => ?_) (fun z => ?_)
    · have hlt : sk B L p1 < L := Nat.lt_of_not_le fun w => z (ch_end w)
      rw [if_neg (Nat.not_le.mpr hlt)] at rg
      have hb := CS_ch h4 hlt
      refine s_ts h4 (by decide) (fun y m5 h5 t5 => ?_) (fun y m5 h5 t5 => ?_)
      · rw [sk_sk] at y h5
        rw [hb.2.2, show (59 : Int32) = nI 59 from rfl, nI_eq (by omega) (by decide)] at y
        rw [if_pos y] at rg
        refine bX7_read_162 h5.1 (fun _ => ?_) (fun w => absurd w (by decide))
        rw [nI_1]
        refine ih (n + 1) _ c1 _ m5 (by omega) (KS_tk t5 h5 K4) o5 (by rw [List.length_append, lc]; omega) (T4.tr (t5.kk r)) (fun cs e6 m6 hW6 h6 l6 T6 => ?_) (fun f ef m6 h6 T6 => ?_)
        · rw [e6] at rg
          have ea : us ++ encR (cl :: cs) = us ++ encC cl ++ encR cs := by
            show us ++ (encC cl ++ encR cs) = _
            rw [List.append_assoc]
          exact k1 _ rg m6 hW6 (by rw [ea]; exact h6) (by rw [ea]; exact l6) T6
        · rw [ef] at rg
          exact k0 f rg m6 h6 T6
      · rw [sk_sk] at y h5
        rw [hb.2.2, show (59 : Int32) = nI 59 from rfl] at y
        rw [if_neg (fun w => y (by rw [w]))] at rg
        refine bX7_read_162 h5.1 (fun w => absurd rfl w) (fun _ => ?_)
        rw [h5.2.2.1]
        exact s_fail (k := 0) h5.1 h5.2.2.2.1 (by omega) (by decide) (fun m6 h6 t6 => bX7_read_180 h6.1 (Or.inl rfl) (k0 _ rg m6 h6 (T4.tr ((t5.tr t6).kk r))))
    · have hl2 := (ch_M h4).mp z
      rw [if_pos hl2] at rg
      have ea : us ++ encR [cl] = us ++ encC cl := by
        show us ++ (encC cl ++ []) = _
        rw [List.append_nil]
      exact k1 _ rg m4 h4.1 (by rw [ea]; exact K4.2.2.1) (by rw [ea, List.length_append, lc]; omega) T4
theorem Wf_uR {m : pMem} {r : Nat} (h : Wf m) : Wf (uR m 10 1 (some r)) := by
  have e : ∀ a k, ¬ (a = 10 ∧ k = 1) → mR (uR m 10 1 (some r)) a k = mR m a k := fun a k z => by rw [mR_uR, if_neg z]
  have s10 : SH[10]? = some (.inl 7) := by decide +kernel
  have ne : ∀ {a ci : Nat}, SH[a]? = some (.inl ci) → ci ≠ 7 → a ≠ 10 := fun c hc z => by
    rw [z, s10] at c
    injection c with c
    injection c with c
    exact hc c.symm
  have ne9 : ∀ {a ci : Nat}, SH[a]? = some (.inl ci) → a ≠ 9 := fun c z => by
    rw [z, sh9x] at c
    injection c with c
    cases c
  obtain ⟨h0, h1, h2, h3, h4, h5, h6, h7, h8, h9, h10, h11, h12, hR1, hR2, hR3, hR4, hR5⟩ := h
  refine ⟨fun a c => ?_, fun a c => ?_, fun a c => ?_, fun a c => ?_, fun a c => ?_, fun a c => ?_, fun a c => ?_, fun a c => ?_, fun a c => ?_, fun a c => ?_, fun a c => ?_, fun a c => ?_, fun a c => ?_, fun i hi => ?_, fun a c i hi => ?_, fun i hi => ?_, fun i hi => ?_, fun i hi => ?_⟩
  · have z := ne c (by decide)
    have e2 : ∀ k, mR (uR m 10 1 (some r)) a k = mR m a k := fun k => e a k (fun y => z y.1)
    simp only [e2]; exact h0 a c
  · have z := ne c (by decide)
    have e2 : ∀ k, mR (uR m 10 1 (some r)) a k = mR m a k := fun k => e a k (fun y => z y.1)
    simp only [e2]; exact h1 a c
  · have z := ne c (by decide)
    have e2 : ∀ k, mR (uR m 10 1 (some r)) a k = mR m a k := fun k => e a k (fun y => z y.1)
    simp only [e2]; exact h2 a c
  · have z := ne c (by decide)
    have e2 : ∀ k, mR (uR m 10 1 (some r)) a k = mR m a k := fun k => e a k (fun y => z y.1)
    simp only [e2]; exact h3 a c
  · have z := ne c (by decide)
    have e2 : ∀ k, mR (uR m 10 1 (some r)) a k = mR m a k := fun k => e a k (fun y => z y.1)
    simp only [e2]; exact h4 a c
  · have z := ne c (by decide)
    have e2 : ∀ k, mR (uR m 10 1 (some r)) a k = mR m a k := fun k => e a k (fun y => z y.1)
    simp only [e2]; exact h5 a c
  · have z := ne c (by decide)
    have e2 : ∀ k, mR (uR m 10 1 (some r)) a k = mR m a k := fun k => e a k (fun y => z y.1)
    simp only [e2]; exact h6 a c
  · rw [e a 0 (by omega)]; exact h7 a c
  · have z := ne c (by decide)
    have e2 : ∀ k, mR (uR m 10 1 (some r)) a k = mR m a k := fun k => e a k (fun y => z y.1)
    simp only [e2]; exact h8 a c
  · have z := ne c (by decide)
    have e2 : ∀ k, mR (uR m 10 1 (some r)) a k = mR m a k := fun k => e a k (fun y => z y.1)
    simp only [e2]; exact h9 a c
  · have z := ne c (by decide)
    have e2 : ∀ k, mR (uR m 10 1 (some r)) a k = mR m a k := fun k => e a k (fun y => z y.1)
    simp only [e2]; exact h10 a c
  · have z := ne c (by decide)
    have e2 : ∀ k, mR (uR m 10 1 (some r)) a k = mR m a k := fun k => e a k (fun y => z y.1)
    simp only [e2]; exact h11 a c
  · have z := ne c (by decide)
    have e2 : ∀ k, mR (uR m 10 1 (some r)) a k = mR m a k := fun k => e a k (fun y => z y.1)
    simp only [e2]; exact h12 a c
  · rw [e 11 i (by omega)]; exact hR1 i hi
  · have z := ne9 c
    rw [e (a + 1) i (by omega)]; exact hR2 a c i hi
  · rw [e 126 i (by omega)]; exact hR3 i hi
  · rw [e 517 i (by omega)]; exact hR4 i hi
  · rw [e 527 i (by omega)]; exact hR5 i hi
theorem s_cRead (hr : isRu r) (hW : Wf m) (ht : TpC m B L) (k1 : ∀ cs, rlF B L 13 0 0 0 = .inr cs → ∀ m3, Wf m3 → SZ r (encR cs) m3 → (encR cs).length ≤ 400 → Kk r (uR m 10 1 (some r)) m3 → Q (some (.int 1)) m3) (k0 : ∀ f, rlF B L 13 0 0 0 = .inl f → ∀ m3, CF f m3 → Kk r (uR m 10 1 (some r)) m3 → Q (some (.int 0)) m3) : Cl X 40 mX7_read [.ref 10, .ref r] m Q := by
  have hW1 := Wf_uR (r := r) hW
  have e10 : mR (uR m 10 1 (some r)) 10 1 = some r := by rw [mR_uR, if_pos ⟨rfl, rfl⟩]
  refine pCl_of (by decide +kernel) (Nat.le_of_ble_eq_true rfl) rfl (bX7_read_0 hW hr.sh e10 hr.sh (pCl_of (by decide +kernel) (Nat.le_of_ble_eq_true rfl) rfl (bX6_clear_0 hW1 hr.sh ?_)))
  have hr' := hr
  obtain ⟨i, hi, ri⟩ := hr'
  refine bX7_read_12 (hW1.sm (fun _ _ => rfl)) hr.sh (pCl_of (by decide +kernel) (Nat.le_of_ble_eq_true rfl) rfl (bX9_rewind_0 (hW1.sm (fun _ _ => rfl)) ?_))
  obtain ⟨m1, hm1⟩ : ∃ m1, m1 = uI (uI (uI (uI (uR m 10 1 (some r)) r 2 (0 : Int32)) 10 2 (0 : Int32)) 1 2 (0 : Int32)) 1 3 (0 : Int32) := ⟨_, rfl⟩
  rw [← hm1]
  have R1 : ∀ x y, mR m1 x y = mR (uR m 10 1 (some r)) x y := fun x y => by rw [hm1]; rfl
  have hW2 : Wf m1 := hW1.sm R1
  have o1 : ∀ a k, ¬ (a = r ∧ k = 2) → ¬ (a = 10 ∧ k = 2) → ¬ (a = 1 ∧ (k = 2 ∨ k = 3)) → mI m1 a k = mI m a k := fun a k z1 z2 z3 => by
    rw [hm1, mI_uI, if_neg (by omega), mI_uI, if_neg (by omega), mI_uI, if_neg (by omega), mI_uI, if_neg (by omega)]; rfl
  refine bX7_read_24 hW2 hr.sh (g_cRead (r := r) (m := uR m 10 1 (some r)) 12 0 0 0 [] m1 rfl ⟨⟨hW2, ⟨ht.1, ?_, fun j hj => ⟨(ht.2.2 j hj).1, ?_⟩⟩, ?_, ?_, Nat.zero_le _⟩, ?_, ⟨?_, fun j hj => absurd hj (Nat.not_lt_zero _)⟩, (R1 _ _).trans e10, hr⟩ (by decide) (by decide) ⟨fun a k z => ?_, R1⟩ ?_ k0)
  · rw [o1 _ _ (by omega) (by omega) (by omega)]; exact ht.2.1
  · rw [o1 _ _ (by omega) (by omega) (by omega)]; exact (ht.2.2 j hj).2
  · rw [hm1, mI_uI, if_neg (by omega), mI_uI, if_pos ⟨rfl, rfl⟩]; rfl
  · rw [hm1, mI_uI, if_pos ⟨rfl, rfl⟩]
  · rw [hm1, mI_uI, if_neg (by omega), mI_uI, if_neg (by omega), mI_uI, if_pos ⟨rfl, rfl⟩]; rfl
  · rw [hm1, mI_uI, if_neg (by omega), mI_uI, if_neg (by omega), mI_uI, if_neg (by omega), mI_uI, if_pos ⟨rfl, rfl⟩]; rfl
  · rw [o1 a k (by omega) (by omega) (by omega)]; rfl
  · intro cs e m3 hW3 h3 l3 T3
    rw [List.nil_append] at h3 l3
    exact k1 cs e m3 hW3 h3 l3 T3
end T49
