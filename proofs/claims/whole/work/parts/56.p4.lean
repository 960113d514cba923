/-! ===== roads and states; a day of these ===== -/
/-- hands, the town, furlongs, paces, weights, worths -/
abbrev RD : Type := Int32 × Int32 × Row × Row × Row × Row
/-- the day, places, how far, where -/
abbrev ST : Type := Int32 × Row × Row × Row
/-- what a rule says of words, if there is one -/
abbrev EV : Type := Option (Row → Int64)
def evE (E : EV) (rd : RD) (dy : Int32) (n : Nat) : Row → Nat → Row → Nat → Bool := fun pl q wh t => match E with
  | none => false
  | some f => decide (0 < f (wds rd.2.2.2.2.1 rd.2.2.2.2.2 rd.2.2.1 rd.2.2.2.1 rd.2.1 dy pl wh n q t))
def dayD (E : EV) (rd : RD) (n T : Nat) (s : ST) : Nat → DS := dayL E.isSome (evE E rd s.1 n) rd.2.2.1 rd.2.2.2.1 rd.2.2.2.2.1 rd.1 rd.2.1 n T (0, s.2)
def dayF (E : EV) (rd : RD) (n T P : Nat) (s : ST) : Int32 × ST := ((dayD E rd n T s P).1, s.1 + 1, (dayD E rd n T s P).2)
/-- n days -/
def dayN (E : EV) (rd : RD) (n T P : Nat) (s : ST) : Nat → ST
  | 0 => s
  | k + 1 => (dayF E rd n T P (dayN E rd n T P s k)).2
/-- rows that agree below T; the first one has nothing behind -/
def AgW (T : Nat) (w w2 : Row) : Prop := (∀ t, t < T → w t = w2 t) ∧ ∀ t, T ≤ t → t < 6 → w t = -1
def AgR (n : Nat) (w w2 : Row) : Prop := ∀ t, t < n → w t = w2 t
theorem cnt_ag {T : Nat} {w w2 : Row} {v : Int32} (h : AgW T w w2) (hv : v ≠ -1) (hT : T ≤ 6) : cnt w v 6 = cnt w2 v T := by
  have a1 : ∀ k, k ≤ T → cnt w v k = cnt w2 v k := by
    intro k
    induction k with
    | zero => intro _; rfl
    | succ k ih => intro hk; unfold cnt; rw [ih (by omega), h.1 k (by omega)]
  have a2 : ∀ k, T ≤ k → k ≤ 6 → cnt w v k = cnt w v T := by
    intro k
    induction k with
    | zero => intro h1 _; rw [show T = 0 by omega]
    | succ k ih =>
      intro h1 h2
      by_cases e : T = k + 1
      · rw [e]
      · have e1 : cnt w v (k + 1) = cnt w v k + (if w k = v then 1 else 0) := rfl
        rw [e1, ih (by omega) (by omega), if_neg (fun z => hv (by rw [← z, h.2 k (by omega) (by omega)]))]
        rfl
  rw [a2 6 hT (Nat.le_refl 6), a1 T (Nat.le_refl T)]
theorem dSum_ag {T : Nat} {g g2 w w2 : Row} {v : Int32} (h : AgW T w w2) (hg : AgR T g g2) (hv : v ≠ -1) (hT : T ≤ 6) : dSum g w v 6 = dSum g2 w2 v T := by
  have a1 : ∀ k, k ≤ T → dSum g w v k = dSum g2 w2 v k := by
    intro k
    induction k with
    | zero => intro _; rfl
    | succ k ih => intro hk; unfold dSum; rw [ih (by omega), h.1 k (by omega), hg k (by omega)]
  have a2 : ∀ k, T ≤ k → k ≤ 6 → dSum g w v k = dSum g w v T := by
    intro k
    induction k with
    | zero => intro h1 _; rw [show T = 0 by omega]
    | succ k ih =>
      intro h1 h2
      by_cases e : T = k + 1
      · rw [e]
      · have e1 : dSum g w v (k + 1) = if w k = v then dSum g w v k + g k else dSum g w v k := rfl
        rw [e1, ih (by omega) (by omega), if_neg (fun z => hv (by rw [← z, h.2 k (by omega) (by omega)]))]
  rw [a2 6 hT (Nat.le_refl 6), a1 T (Nat.le_refl T)]
theorem tAt_ag {T : Nat} {w w2 : Row} {v : Int32} (h : AgW T w w2) (hv : v ≠ -1) (hT : T ≤ 6) : tAt w v 6 = tAt w2 v T := by
  have a1 : ∀ k, k ≤ T → tAt w v k = tAt w2 v k := by
    intro k
    induction k with
    | zero => intro _; rfl
    | succ k ih => intro hk; unfold tAt; rw [ih (by omega), h.1 k (by omega)]
  have a2 : ∀ k, T ≤ k → k ≤ 6 → tAt w v k = tAt w v T := by
    intro k
    induction k with
    | zero => intro h1 _; rw [show T = 0 by omega]
    | succ k ih =>
      intro h1 h2
      by_cases e : T = k + 1
      · rw [e]
      · have e1 : tAt w v (k + 1) = if w k = v then tAt w v k ||| ((1 : Int32) <<< (nI k &&& 31)) else tAt w v k := rfl
        rw [e1, ih (by omega) (by omega), if_neg (fun z => hv (by rw [← z, h.2 k (by omega) (by omega)]))]
  rw [a2 6 hT (Nat.le_refl 6), a1 T (Nat.le_refl T)]
theorem AgW.upd {T t : Nat} {w w2 : Row} {v : Int32} (h : AgW T w w2) (ht : t < T) : AgW T (upd w t v) (upd w2 t v) := by
  refine ⟨fun k hk => ?_, fun k hk h6 => ?_⟩
  · by_cases e : k = t
    · subst e; rw [pk_us, pk_us]
    · rw [pk_un e, pk_un e]; exact h.1 k hk
  · rw [pk_un (by omega)]; exact h.2 k hk h6
theorem AgR.upd {n t : Nat} {w w2 : Row} {v : Int32} (h : AgR n w w2) : AgR n (upd w t v) (upd w2 t v) := by
  intro k hk
  by_cases e : k = t
  · subst e; rw [pk_us, pk_us]
  · rw [pk_un e, pk_un e]; exact h k hk
theorem nI_neM {q : Nat} (h : q < 2 ^ 31) : nI q ≠ -1 := by
  intro e
  have h1 := nI_pos h
  rw [e] at h1
  exact h1 (by decide)
theorem lie_neM : ∀ p, p ≤ 8 → (10 : Int32) + nI p ≠ -1 := by decide +kernel
theorem pk_ag {ev ev2 : Row → Nat → Bool} {H q l : Int32} {T : Nat} (hT : T ≤ 6) (hq : q ≠ -1) (he : ∀ w w2 t, AgW T w w2 → t < T → ev w t = ev2 w2 t) {w w2 : Row} (h : AgW T w w2) :
    ∀ t, t ≤ T → AgW T (pk ev H q l 6 t w) (pk ev2 H q l T t w2) := by
  intro t
  induction t with
  | zero => intro _; exact h
  | succ t ih =>
    intro ht
    have i1 := ih (by omega)
    unfold pk
    generalize pk ev H q l 6 t w = a at i1 ⊢
    generalize pk ev2 H q l T t w2 = b at i1 ⊢
    rw [← i1.1 t (by omega), he a b t i1 (by omega), cnt_ag i1 hq hT]
    by_cases c1 : a t = q ∨ a t = l
    · rw [if_pos c1, if_pos c1]
      by_cases c2 : ev2 b t = true
      · rw [if_pos c2, if_pos c2]
        by_cases c3 : nI (cnt b q T) < H
        · rw [if_pos c3, if_pos c3]; exact i1.upd (by omega)
        · rw [if_neg c3, if_neg c3]; exact i1
      · rw [if_neg c2, if_neg c2]; exact i1.upd (by omega)
    · rw [if_neg c1, if_neg c1]; exact i1
/-- roads that agree -/
def AgD (Sg P T : Nat) (r r2 : RD) : Prop := r.1 = r2.1 ∧ r.2.1 = nI Sg ∧ r2.2.1 = nI Sg ∧ AgR Sg r.2.2.1 r2.2.2.1 ∧ AgR P r.2.2.2.1 r2.2.2.2.1 ∧ AgR T r.2.2.2.2.1 r2.2.2.2.2.1 ∧ AgR T r.2.2.2.2.2 r2.2.2.2.2.2
/-- states that agree -/
def AgS (T : Nat) (s s2 : Row × Row × Row) : Prop := AgR 4 s.1 s2.1 ∧ AgR 4 s.2.1 s2.2.1 ∧ AgW T s.2.2 s2.2.2
/-- rules that say the same -/
def AgE (E E2 : EV) : Prop := E.isSome = E2.isSome ∧ ∀ f f2, E = some f → E2 = some f2 → ∀ w w2, AgR 12 w w2 → f w = f2 w2
theorem wds_ag {we wo fu pa we2 wo2 fu2 pa2 pl wh pl2 wh2 : Row} {S dy : Int32} {Sg T q t p : Nat} (hT : T ≤ 6) (hq : q < 4) (ht : t < T) (hw : AgW T wh wh2) (h1 : AgR T we we2) (h2 : AgR T wo wo2) (h3 : AgR Sg fu fu2) (h4 : pa q = pa2 q) (h5 : AgR 4 pl pl2) (hp : pl q = nI p) (hps : p < Sg) (hS : Sg ≤ 8) :
    AgR 12 (wds we wo fu pa S dy pl wh 6 q t) (wds we2 wo2 fu2 pa2 S dy pl2 wh2 T q t) := by
  have e5 := h5 q hq
  have hq1 := nI_neM (q := q) (by omega)
  intro j hj
  have hy : j = 0 ∨ j = 1 ∨ j = 2 ∨ j = 3 ∨ j = 4 ∨ j = 5 ∨ j = 6 ∨ j = 7 ∨ j = 8 ∨ j = 9 ∨ j = 10 ∨ j = 11 := by omega
  rcases hy with rfl | rfl | rfl | rfl | rfl | rfl | rfl | rfl | rfl | rfl | rfl | rfl
  · rfl
  · rfl
  · exact h1 t ht
  · exact h2 t ht
  · show (if wh t = nI q then (1 : Int32) else 0) = if wh2 t = nI q then 1 else 0
    rw [hw.1 t ht]
  · show nI (cnt wh (nI q) 6) = nI (cnt wh2 (nI q) T)
    rw [cnt_ag hw hq1 hT]
  · exact dSum_ag hw h1 hq1 hT
  · exact e5
  · show S - pl q = S - pl2 q
    rw [e5]
  · exact h4
  · show fu (pl q).toNatClampNeg = fu2 (pl2 q).toNatClampNeg
    rw [← e5, hp, nI_clamp (by omega)]
    exact h3 p hps
  · rfl
theorem dayS_ag {E E2 : EV} {rd rd2 : RD} {dy : Int32} {Sg P T q : Nat} {s s2 : DS} (hE : AgE E E2) (hr : AgD Sg P T rd rd2) (hS : Sg ≤ 8) (hP : P ≤ 4) (hT : T ≤ 6) (hq : q < P) (h0 : s.1 = s2.1) (h : AgS T s.2 s2.2) (hpl : ∃ p, p ≤ Sg ∧ s.2.1 q = nI p) :
    (dayS E.isSome (evE E rd dy 6) rd.2.2.1 rd.2.2.2.1 rd.2.2.2.2.1 rd.1 rd.2.1 6 T s q).1 = (dayS E2.isSome (evE E2 rd2 dy T) rd2.2.2.1 rd2.2.2.2.1 rd2.2.2.2.2.1 rd2.1 rd2.2.1 T T s2 q).1
    ∧ AgS T (dayS E.isSome (evE E rd dy 6) rd.2.2.1 rd.2.2.2.1 rd.2.2.2.2.1 rd.1 rd.2.1 6 T s q).2 (dayS E2.isSome (evE E2 rd2 dy T) rd2.2.2.1 rd2.2.2.2.1 rd2.2.2.2.2.1 rd2.1 rd2.2.1 T T s2 q).2 := by
  obtain ⟨p, hp, ep⟩ := hpl
  obtain ⟨come, pl, go, wh⟩ := s
  obtain ⟨come2, pl2, go2, wh2⟩ := s2
  obtain ⟨H, S, fu, pa, we, wo⟩ := rd
  obtain ⟨H2, S2, fu2, pa2, we2, wo2⟩ := rd2
  obtain ⟨r1, r2, r3, r4, r5, r6, r7⟩ := hr
  obtain ⟨s1, s3, s4⟩ := h
  simp only at h0 ep r1 r2 r3 r4 r5 r6 r7 s1 s3 s4 ⊢
  have q1 := s1 q (by omega)
  have q2 := s3 q (by omega)
  have q3 := r5 q hq
  subst h0; subst r1; subst r2; subst r3
  have hq1 := nI_neM (q := q) (by omega)
  unfold dayS
  simp only [← q1, ← q2, ← q3, ← hE.1]
  by_cases c1 : pl q < nI Sg
  · rw [if_pos c1, if_pos c1]
    have hps : p < Sg := by rw [ep] at c1; exact nI_lt' (by omega) (by omega) c1
    have hf : fu (pl q).toNatClampNeg = fu2 (pl q).toNatClampNeg := by rw [ep, nI_clamp (by omega)]; exact r4 p hps
    have hw : AgW T (if E.isSome = true ∧ go q = 0 then pk (evE E (H, nI Sg, fu, pa, we, wo) dy 6 pl q) H (nI q) (10 + pl q) 6 T wh else wh) (if E.isSome = true ∧ go q = 0 then pk (evE E2 (H, nI Sg, fu2, pa2, we2, wo2) dy T pl2 q) H (nI q) (10 + pl q) T T wh2 else wh2) := by
      by_cases c2 : E.isSome = true ∧ go q = 0
      · rw [if_pos c2, if_pos c2]
        refine pk_ag hT hq1 (fun w w2 t hw ht => ?_) s4 T (Nat.le_refl T)
        have c3 := c2.1
        cases hE1 : E with
        | none => rw [hE1] at c3; cases c3
        | some f =>
          cases hE2 : E2 with
          | none => have := hE.1; rw [hE1, hE2] at this; cases this
          | some f2 =>
            have e := hE.2 f f2 hE1 hE2 _ _ (wds_ag (S := nI Sg) (dy := dy) (fu := fu) (pa := pa) hT (by omega) ht hw r6 r7 r4 q3 s1 ep hps hS)
            show decide (0 < f _) = decide (0 < f2 _)
            rw [e]
      · rw [if_neg c2, if_neg c2]; exact s4
    generalize (if E.isSome = true ∧ go q = 0 then pk (evE E (H, nI Sg, fu, pa, we, wo) dy 6 pl q) H (nI q) (10 + pl q) 6 T wh else wh) = a at hw ⊢
    generalize (if E.isSome = true ∧ go q = 0 then pk (evE E2 (H, nI Sg, fu2, pa2, we2, wo2) dy T pl2 q) H (nI q) (10 + pl q) T T wh2 else wh2) = b at hw ⊢
    rw [← dSum_ag hw r6 hq1 hT, ← hf]
    by_cases c3 : fu (pl q).toNatClampNeg + dSum we a (nI q) 6 ≤ go q + pa q
    · rw [if_pos c3, if_pos c3]
      exact ⟨rfl, s1.upd, s3.upd, hw⟩
    · rw [if_neg c3, if_neg c3]
      exact ⟨rfl, s1, s3.upd, hw⟩
  · rw [if_neg c1, if_neg c1]
    exact ⟨rfl, s1, s3, s4⟩
theorem dayD_ag {E E2 : EV} {rd rd2 : RD} {Sg P T : Nat} {s s2 : ST} (hE : AgE E E2) (hr : AgD Sg P T rd rd2) (hS : Sg ≤ 8) (hP : P ≤ 4) (hT : T ≤ 6) (h0 : s.1 = s2.1) (h : AgS T s.2 s2.2) (hpl : plOk s.2.1 P Sg) :
    ∀ q, q ≤ P → (dayD E rd 6 T s q).1 = (dayD E2 rd2 T T s2 q).1 ∧ AgS T (dayD E rd 6 T s q).2 (dayD E2 rd2 T T s2 q).2 := by
  obtain ⟨d, s⟩ := s
  obtain ⟨d2, s2⟩ := s2
  simp only at h0
  subst h0
  intro q
  induction q with
  | zero => intro _; exact ⟨rfl, h⟩
  | succ q ih =>
    intro hq
    obtain ⟨i1, i2⟩ := ih (by omega)
    exact dayS_ag (dy := d) (q := q) hE hr hS hP hT (by omega) i1 i2 (by
      obtain ⟨p, hp, ep⟩ := hpl q (by omega)
      exact ⟨p, hp, (dayL_keep _ _ _ _ _ _ _ _ _ _ q q (Nat.le_refl q)).trans ep⟩)
/-- whole states that agree -/
def AgT (T : Nat) (s s2 : ST) : Prop := s.1 = s2.1 ∧ AgS T s.2 s2.2
theorem dayF_ag {E E2 : EV} {rd rd2 : RD} {Sg P T : Nat} {s s2 : ST} (hE : AgE E E2) (hr : AgD Sg P T rd rd2) (hS : Sg ≤ 8) (hP : P ≤ 4) (hT : T ≤ 6) (h : AgT T s s2) (hpl : plOk s.2.1 P Sg) :
    (dayF E rd 6 T P s).1 = (dayF E2 rd2 T T P s2).1 ∧ AgT T (dayF E rd 6 T P s).2 (dayF E2 rd2 T T P s2).2 := by
  obtain ⟨a, b⟩ := dayD_ag hE hr hS hP hT h.1 h.2 hpl P (Nat.le_refl P)
  exact ⟨a, by show s.1 + 1 = s2.1 + 1; rw [h.1], b⟩
theorem dayF_pl {E : EV} {rd : RD} {n Sg P T : Nat} {s : ST} (hr : rd.2.1 = nI Sg) (hS : Sg ≤ 8) (hpl : plOk s.2.1 P Sg) : plOk (dayF E rd n T P s).2.2.1 P Sg := by
  have key : ∀ i, i ≤ P → plOk (dayD E rd n T s i).2.1 P Sg := by
    intro i
    induction i with
    | zero => intro _; exact hpl
    | succ i ih =>
      intro hi q hq
      have i1 := ih (by omega) q hq
      show ∃ p, p ≤ Sg ∧ (dayS E.isSome (evE E rd s.1 n) rd.2.2.1 rd.2.2.2.1 rd.2.2.2.2.1 rd.1 rd.2.1 n T (dayD E rd n T s i) i).2.1 q = nI p
      by_cases e : q = i
      · subst e
        obtain ⟨p, hp, ep⟩ := i1
        unfold dayS
        by_cases c1 : (dayD E rd n T s q).2.1 q < rd.2.1
        · rw [if_pos c1]
          rw [ep, hr] at c1
          have hps := nI_lt' (by omega) (by omega) c1
          simp only
          by_cases c3 : rd.2.2.1 ((dayD E rd n T s q).2.1 q).toNatClampNeg + dSum rd.2.2.2.2.1 (if E.isSome = true ∧ (dayD E rd n T s q).2.2.1 q = 0 then pk (evE E rd s.1 n (dayD E rd n T s q).2.1 q) rd.1 (nI q) (10 + (dayD E rd n T s q).2.1 q) n T (dayD E rd n T s q).2.2.2 else (dayD E rd n T s q).2.2.2) (nI q) n ≤ (dayD E rd n T s q).2.2.1 q + rd.2.2.2.1 q
          · rw [if_pos c3]
            refine ⟨p + 1, by omega, ?_⟩
            simp only
            rw [pk_us, ep, nI_1]
          · rw [if_neg c3]; exact ⟨p, hp, ep⟩
        · rw [if_neg c1]; exact ⟨p, hp, ep⟩
      · rw [dayS_pl _ _ _ _ _ _ _ _ _ _ _ _ e]; exact i1
  exact key P (Nat.le_refl P)
theorem dayN_pl {E : EV} {rd : RD} {n Sg P T : Nat} {s : ST} (hr : rd.2.1 = nI Sg) (hS : Sg ≤ 8) (hpl : plOk s.2.1 P Sg) : ∀ k, plOk (dayN E rd n T P s k).2.1 P Sg
  | 0 => hpl
  | k + 1 => dayF_pl hr hS (dayN_pl hr hS hpl k)
theorem dayN_ag {E E2 : EV} {rd rd2 : RD} {Sg P T : Nat} {s s2 : ST} (hE : AgE E E2) (hr : AgD Sg P T rd rd2) (hS : Sg ≤ 8) (hP : P ≤ 4) (hT : T ≤ 6) (h : AgT T s s2) (hpl : plOk s.2.1 P Sg) : ∀ k, AgT T (dayN E rd 6 T P s k) (dayN E2 rd2 T T P s2 k)
  | 0 => h
  | k + 1 => (dayF_ag hE hr hS hP hT (dayN_ag hE hr hS hP hT h hpl k) (dayN_pl hr.2.1 hS hpl k)).2
