/-! ===== the model reads clauses ===== -/
def sub (es : List Tok) (a n : Nat) : List Tok := (es.drop a).take n
theorem sub_app {es ts : List Tok} {a n : Nat} (h : a + n ≤ es.length) : sub (es ++ ts) a n = sub es a n := by
  unfold sub
  rw [List.drop_append_of_le_length (by omega), List.take_append_of_le_length (by rw [List.length_drop]; omega)]
theorem sub_1 {es t1 t2 : List Tok} : sub (es ++ t1 ++ t2) es.length t1.length = t1 := by
  unfold sub
  rw [List.append_assoc, List.drop_left, List.take_left]
theorem sub_2 {es t1 t2 : List Tok} : sub (es ++ t1 ++ t2) (es.length + t1.length) t2.length = t2 := by
  unfold sub
  rw [← List.length_append, List.drop_left, List.take_length]
theorem seg_EN {m : pMem} {i : Nat} {es : List Tok} (h : EN i es m) : ∀ n a, a + n ≤ es.length → seg (mI m 555) (mI m 556) (300 * i + a) n = sub es a n := by
  intro n
  induction n with
  | zero => intro a _; unfold sub; rw [List.take_zero]; rfl
  | succ n ih =>
    intro a ha
    have hl : a < es.length := by omega
    have e1 : sub es a (n + 1) = es[a] :: sub es (a + 1) n := by
      unfold sub
      rw [List.drop_eq_getElem_cons hl, List.take_succ_cons]
    have e2 := h.2 a hl
    have e3 : es.getD a (0, 0) = es[a] := by rw [List.getD_eq_getElem?_getD, List.getElem?_eq_getElem hl]; rfl
    rw [e3] at e2
    rw [e1, ← ih (a + 1) (by omega)]
    show (mI m 555 (300 * i + a), mI m 556 (300 * i + a)) :: seg (mI m 555) (mI m 556) (300 * i + a + 1) n = _
    rw [e2.1, e2.2, Nat.add_assoc]
def MCl (i : Nat) (cs : List Cls) (es : List Tok) (m : pMem) : Prop := ∀ q, q < cs.length → ∃ a b e, a ≤ b ∧ b ≤ e ∧ e ≤ es.length ∧ mI m 558 (12 * i + q) = nI a ∧ mI m 559 (12 * i + q) = nI b ∧ mI m 560 (12 * i + q) = nI e ∧ sub es a (b - a) = (cs.getD q ([], [])).1 ∧ sub es b (e - b) = (cs.getD q ([], [])).2
def Wk (i : Nat) (m m2 : pMem) : Prop := Same (fun a k => (a = 535 ∧ (k = 20 ∨ k = 21 ∨ k = 24 ∨ k = 25 ∨ k = 26 ∨ k = 27)) ∨ ((a = 555 ∨ a = 556) ∧ 300 * i ≤ k) ∨ a = 561 ∨ (558 ≤ a ∧ a ≤ 560 ∧ 12 * i ≤ k)) m m2
theorem Wk.tr {i : Nat} {m m2 m3 : pMem} (h : Wk i m m2) (h2 : Wk i m2 m3) : Wk i m m3 := Same.tr h h2
theorem Nk.wk {i : Nat} {m m2 : pMem} (h : Nk i m m2) : Wk i m m2 := Same.mo h (fun _ _ z => by omega)
theorem Vk.wk {i : Nat} {m m2 : pMem} (h : Vk i m m2) : Wk i m m2 := h.nk.wk
theorem Mk.wk {m m2 : pMem} (i : Nat) (h : Mk m m2) : Wk i m m2 := (h.nk i).wk
theorem MCl_up {i : Nat} {cs : List Cls} {es ts : List Tok} {m m2 : pMem} (h : MCl i cs es m) (hc : ∀ a k, 558 ≤ a → a ≤ 560 → k < 12 * i + cs.length → mI m2 a k = mI m a k) : MCl i cs (es ++ ts) m2 := by
  intro q hq
  obtain ⟨a, b, e, h1, h2, h3, h4, h5, h6, h7, h8⟩ := h q hq
  exact ⟨a, b, e, h1, h2, by rw [List.length_append]; omega, (hc _ _ (by omega) (by omega) (by omega)).trans h4, (hc _ _ (by omega) (by omega) (by omega)).trans h5, (hc _ _ (by omega) (by omega) (by omega)).trans h6, (sub_app (by omega)).trans h7, (sub_app (by omega)).trans h8⟩
theorem MCl_add {i : Nat} {cs : List Cls} {es : List Tok} {cl : Cls} {m : pMem} (h : MCl i cs (es ++ cl.1 ++ cl.2) m) (h1 : mI m 558 (12 * i + cs.length) = nI es.length) (h2 : mI m 559 (12 * i + cs.length) = nI (es ++ cl.1).length) (h3 : mI m 560 (12 * i + cs.length) = nI (es ++ cl.1 ++ cl.2).length) : MCl i (cs ++ [cl]) (es ++ cl.1 ++ cl.2) m := by
  intro q hq
  rw [List.length_append] at hq
  have hq : q < cs.length + 1 := hq
  by_cases e : q = cs.length
  · subst e
    refine ⟨es.length, (es ++ cl.1).length, (es ++ cl.1 ++ cl.2).length, by rw [List.length_append]; omega, by rw [List.length_append (as := es ++ cl.1)]; omega, Nat.le_refl _, h1, h2, h3, ?_, ?_⟩
    · rw [gd_eq, List.length_append, Nat.add_sub_cancel_left]; exact sub_1
    · rw [gd_eq, List.length_append (as := es ++ cl.1), Nat.add_sub_cancel_left, List.length_append]; exact sub_2
  · obtain ⟨a, b, e', g⟩ := h q (by omega)
    refine ⟨a, b, e', ?_⟩
    rw [gd_lt (by omega)]; exact g
theorem NS_wx {B : Nat → Nat} {L p c i a k : Nat} {es : List Tok} {v : Int32} {m : pMem} (h : NS B L p c i es m) (ha : 557 ≤ a ∧ a ≤ 560) : NS B L p c i es (uI m a k v) := by
  obtain ⟨h1, hc, ⟨e1, e2⟩, hs, h12, hi⟩ := h
  refine ⟨MS_wr h1 (by omega), ?_, ⟨?_, fun j hj => ?_⟩, ?_, ?_, hi⟩
  · rw [mI_uI, if_neg (by omega)]; exact hc
  · rw [mI_uI, if_neg (by omega)]; exact e1
  · rw [mI_uI, if_neg (by omega), mI_uI, if_neg (by omega)]; exact e2 j hj
  · rw [mI_uI, if_neg (by omega)]; exact hs
  · rw [mI_uI, if_neg (by omega)]; exact h12
section T55
variable {X : pX} {Q : Option Value → pMem → Prop} {m : pMem} {B : Nat → Nat} {L i : Nat}
theorem s_mClause {n p c : Nat} {es : List Tok} {cs : List Cls} (h : NS B L p c i es m) (hd : mI m 535 25 = 0) (hp : p ≤ L) (hc : c ≤ 60) (hu : 3 * es.length ≤ 14 * c) (hn : n ≤ 12) (hcs : cs.length = n) (hm : MCl i cs es m)
    (k1 : ∀ p1 c1 cl, rcF B L n p c = .inr (p1, c1, cl) → ∀ m2, NS B L p1 c1 i (es ++ cl.1 ++ cl.2) m2 → mI m2 535 25 = 0 → MCl i (cs ++ [cl]) (es ++ cl.1 ++ cl.2) m2 → Wk i m m2 → Q none m2)
    (k0 : ∀ f, rcF B L n p c = .inl f → 0 < f → ∀ m2 q, MS B L q f m2 → q ≤ 700 → Wk i m m2 → Q none m2) : Cl X 12 mX12_ruleClause [.ref 535, .int (nI n)] m Q := by
  have hL := h.1.2.1.1
  have hs := sk_b (B := B) hp
  have hi := h.2.2.2.2.2
  obtain ⟨z2, z3, z4, z5, z6⟩ := len_s
  have n12 : nI n = (12 : Int32) ↔ n = 12 := nI_eq (b := 12) (by omega) (by decide)
  unfold rcF at k1 k0
  refine pCl_of (by decide +kernel) (Nat.le_of_ble_eq_true rfl) rfl (bX12_ruleClause_0 h.1.1 (s_blanks h.1 (fun m2 h2 t2 => bX12_ruleClause_4 h2.1 ?_)))
  rw [h2.2.2.1]
  have N2 := NS_mk t2 h2 h
  refine s_stood (k := 24) h2 (by decide) (fun w => ?_) (fun w => ?_)
  · have w := wd_same.2.2.2.1.mp w
    have hb := wd_b w
    rw [if_pos w] at k1 k0
    have ex : (12 : Int32) * mI m2 535 22 + nI n = nI (12 * i + n) := by rw [N2.2.2.2.1, show (12 : Int32) = nI 12 from rfl, nI_mul, nI_add]
    refine bX12_ruleClause_16 h2.1 (fun _ z => ?_) (fun _ z => ?_) (fun _ z => ?_) (fun z => absurd z (by decide))
    · have z : n ≠ 12 := fun y => z (n12.mpr y)
      rw [ex]; exact vp_in_nI (by omega) (by decide)
    · have z : n ≠ 12 := fun y => z (n12.mpr y)
      rw [if_neg (by omega)] at k1 k0
      rw [ex, nI_clamp (by omega), h2.2.2.1, show (5 : Int32) = nI 5 from rfl, nI_add, N2.2.2.1.1]
      have vx : vp_in (nI (12 * i + n)) 72 := vp_in_nI (by omega) (by decide)
      have a := MS_at (q := sk B L p + 5) h2 (by omega)
      have Na := NS_mk a.2 a.1 N2
      have N3 := NS_wx (a := 558) (k := 12 * i + n) (v := nI es.length) Na (by omega)
      have W3 : Wk i m (uI (uI m2 535 20 (nI (sk B L p + 5))) 558 (12 * i + n) (nI es.length)) := Same.uI ((t2.tr a.2).wk i) (by omega)
      have c3 : mI (uI (uI m2 535 20 (nI (sk B L p + 5))) 558 (12 * i + n) (nI es.length)) 558 (12 * i + n) = nI es.length := by rw [mI_uI, if_pos ⟨rfl, rfl⟩]
      have o3 : ∀ a k, 558 ≤ a → a ≤ 560 → ¬ (a = 558 ∧ k = 12 * i + n) → mI (uI (uI m2 535 20 (nI (sk B L p + 5))) 558 (12 * i + n) (nI es.length)) a k = mI m a k := fun a k y1 y2 y3 => by rw [mI_uI, if_neg y3, mI_uI, if_neg (by omega)]; exact t2.1 a k (by omega)
      have d3 : mI (uI (uI m2 535 20 (nI (sk B L p + 5))) 558 (12 * i + n) (nI es.length)) 535 25 = 0 := by rw [mI_uI, if_neg (by omega), mI_uI, if_neg (by omega)]; exact (t2.1 _ _ (by omega)).trans hd
      generalize uI (uI m2 535 20 (nI (sk B L p + 5))) 558 (12 * i + n) (nI es.length) = m3 at N3 W3 c3 o3 d3 ⊢
      refine s_mSum N3 (by omega) hc (by omega) (fun p4 c4 ts4 e4 m4 h4 T4 => ?_) (fun f e4 hf m4 q h4 hq T4 => ?_)
      · rw [e4] at k1 k0
        simp only at k1 k0
        obtain ⟨a1, a2, a3, a4, a5, a6, a7, a8⟩ := sm_ok (by omega) e4
        have hs4 := sk_b (B := B) a2
        refine bX12_ruleClause_73 h4.1.1 vx (fun _ => vx) (fun y => absurd (MS_f0 h4.1) y) (fun _ => ?_)
        rw [nI_clamp (by omega), h4.2.2.1.1]
        have N5 := NS_wx (a := 559) (k := 12 * i + n) (v := nI (es ++ ts4).length) h4 (by omega)
        have W5 : Wk i m (uI m4 559 (12 * i + n) (nI (es ++ ts4).length)) := Same.uI (W3.tr T4.wk) (by omega)
        have c5 : mI (uI m4 559 (12 * i + n) (nI (es ++ ts4).length)) 558 (12 * i + n) = nI es.length ∧ mI (uI m4 559 (12 * i + n) (nI (es ++ ts4).length)) 559 (12 * i + n) = nI (es ++ ts4).length := ⟨by rw [mI_uI, if_neg (by omega)]; exact (T4.1 _ _ (by omega)).trans c3, by rw [mI_uI, if_pos ⟨rfl, rfl⟩]⟩
        have o5 : ∀ a k, 558 ≤ a → a ≤ 560 → k < 12 * i + n → mI (uI m4 559 (12 * i + n) (nI (es ++ ts4).length)) a k = mI m a k := fun a k y1 y2 y3 => by rw [mI_uI, if_neg (by omega)]; exact (T4.1 _ _ (by omega)).trans (o3 a k y1 y2 (by omega))
        have d5 : mI (uI m4 559 (12 * i + n) (nI (es ++ ts4).length)) 535 25 = 0 := by rw [mI_uI, if_neg (by omega)]; exact (T4.1 _ _ (by omega)).trans d3
        generalize uI m4 559 (12 * i + n) (nI (es ++ ts4).length) = m5 at N5 W5 c5 o5 d5 ⊢
        -- the end
        have fin : ∀ (m7 : pMem) (p7 c7 : Nat) (ts7 : List Tok), NS B L p7 c7 i (es ++ ts4 ++ ts7) m7 → mI m7 535 25 = 0 → Nk i m5 m7 → (∀ m8, NS B L p7 c7 i (es ++ ts4 ++ ts7) m8 → mI m8 535 25 = 0 → MCl i (cs ++ [(ts4, ts7)]) (es ++ ts4 ++ ts7) m8 → Wk i m m8 → Q none m8) → Q none (uI m7 560 (nI (12 * i + n)).toNatClampNeg (mI m7 535 24)) := by
          intro m7 p7 c7 ts7 h7 d7 T7 kk
          rw [nI_clamp (by omega), h7.2.2.1.1]
          refine kk _ (NS_wx h7 (by omega)) (by rw [mI_uI, if_neg (by omega)]; exact d7) (MCl_add (cl := (ts4, ts7)) ?_ ?_ ?_ ?_) (Same.uI (W5.tr T7.wk) (by omega))
          · have : MCl i cs (es ++ (ts4 ++ ts7)) (uI m7 560 (12 * i + n) (nI (es ++ ts4 ++ ts7).length)) := MCl_up hm (fun a k y1 y2 y3 => by rw [mI_uI, if_neg (by omega)]; exact (T7.1 _ _ (by omega)).trans (o5 a k y1 y2 (by omega)))
            rw [← List.append_assoc] at this
            exact this
          · rw [hcs, mI_uI, if_neg (by omega)]; exact (T7.1 _ _ (by omega)).trans c5.1
          · rw [hcs, mI_uI, if_neg (by omega)]; exact (T7.1 _ _ (by omega)).trans c5.2
          · rw [hcs, mI_uI, if_pos ⟨rfl, rfl⟩]
        refine s_takes (k := 25) N5.1 (by decide) (fun w m6 h6 t6 => ?_) (fun w m6 h6 t6 => ?_)
        · have w := wd_same.2.2.2.2.mp w
          have hb6 := wd_b w
          have h6 : MS B L (sk B L p4 + 2) 0 m6 := h6
          rw [if_pos w] at k1 k0
          have N6 := NS_mk t6 h6 N5
          refine bX12_ruleClause_97 h6.1 (fun y => absurd y (by decide)) (fun y => absurd y (by decide)) (fun _ => s_mTest N6 ((t6.1 _ _ (by omega)).trans d5) (by omega) a4 (by rw [List.length_append]; omega) (fun p7 c7 ts7 e7 m7 h7 d7 T7 => ?_) (fun f e7 hf m7 q h7 hq T7 => ?_))
          · rw [e7] at k1
            simp only at k1
            exact bX12_ruleClause_104 h7.1.1 vx (fin m7 p7 c7 ts7 h7 d7 ((t6.nk i).tr T7) (fun m8 h8 d8 c8 W8 => k1 _ _ _ rfl m8 h8 d8 c8 W8))
          · rw [e7] at k0
            exact bX12_ruleClause_104 h7.1 vx (k0 f rfl hf _ q (MS_wr h7 (by omega)) hq (Same.uI (W5.tr ((t6.wk i).tr T7.wk)) (by rw [nI_clamp (by omega)]; omega)))
        · have w : ¬ WDi B L (sk B L p4) 3 := fun y => w (wd_same.2.2.2.2.mpr y)
          rw [if_neg w] at k1 k0
          have N6 := NS_mk t6 h6 N5
          refine bX12_ruleClause_97 h6.1 (fun _ => vx) (fun _ => ?_) (fun y => absurd rfl y)
          exact fin m6 (sk B L p4) c4 [] (by rw [List.append_nil]; exact N6) ((t6.1 _ _ (by omega)).trans d5) (t6.nk i) (fun m8 h8 d8 c8 W8 => k1 _ _ _ rfl m8 h8 d8 c8 W8)
      · rw [e4] at k0
        refine bX12_ruleClause_73 h4.1 vx (fun _ => vx) (fun _ => ?_) (fun y => absurd y (MS_f1 h4 (by omega)))
        refine k0 f rfl hf _ q (MS_wr (MS_wr h4 (by omega)) (by omega)) (by omega) (Same.uI (Same.uI (W3.tr T4.wk) ?_) ?_) <;> (rw [nI_clamp (by omega)]; omega)
    · have z := n12.mp z
      rw [if_pos (by omega)] at k0
      refine s_fails (k := 4) h2 (fun _ => by omega) (by decide) (fun m3 h3 t3 => bX12_ruleClause_38 h3.1 ?_)
      rw [if_pos rfl] at h3
      refine k0 _ rfl (by omega) m3 (sk B L p) ?_ (by omega) ((t2.tr t3).wk i)
      rw [show 5 + 8 * sk B L p = 1 + 8 * sk B L p + 4 by omega]; exact h3
  · have w : ¬ WDi B L (sk B L p) 2 := fun y => w (wd_same.2.2.2.1.mpr y)
    rw [if_neg w] at k0
    refine bX12_ruleClause_16 h2.1 (fun y => absurd rfl y) (fun y => absurd rfl y) (fun y => absurd rfl y) (fun _ => ?_)
    refine s_fails (k := 0) h2 (fun _ => by omega) (by decide) (fun m3 h3 t3 => bX12_ruleClause_25 h3.1 ?_)
    rw [if_pos rfl] at h3
    exact k0 _ rfl (by omega) m3 _ h3 (by omega) ((t2.tr t3).wk i)
theorem g_mRule {m0 : pMem} : ∀ e n p c es cs (m : pMem), e + n = 12 → NS B L p c i es m → mI m 535 25 = 0 → p ≤ L → c ≤ 60 → 3 * es.length ≤ 14 * c → cs.length = n → MCl i cs es m → Wk i m0 m →
    (∀ ds, rlF B L (e + 1) n p c = .inr ds → ∀ m2 es2, Wf m2 → mI m2 535 21 = 0 → mI m2 535 22 = nI i → EN i es2 m2 → es2.length ≤ 300 → MCl i (cs ++ ds) es2 m2 → Wk i m0 m2 → Go X 13 mX12_rule Q 27 [(0, .ref 535), (1, .int (nI (cs ++ ds).length)), (2, .int (0 : Int32))] [] m2) →
    (∀ f, rlF B L (e + 1) n p c = .inl f → 0 < f → f < 10000 → ∀ m2 x, Wf m2 → mI m2 535 21 = nI f → Wk i m0 m2 → Go X 13 mX12_rule Q 27 [(0, .ref 535), (1, .int x), (2, .int (0 : Int32))] [] m2) → Go X 13 mX12_rule Q 27 [(0, .ref 535), (1, .int (nI n)), (2, .int (1 : Int32))] [] m := by
  intro e
  induction e with
  | zero =>
    intro n p c es cs m hn h hd hp hc hu hcs hm T k1 k0
    refine bX12_rule_27 h.1.1 (fun z => absurd z (by decide)) (fun z => absurd z (by decide)) (fun z => absurd z (by decide)) (fun _ => s_mClause h hd hp hc hu (by omega) hcs hm (fun p1 c1 cl ec m2 h2 d2 c2 T2 => ?_) (fun f ec hf m2 q h2 hq T2 => ?_))
    · have := rc_ok hp hc ec
      omega
    · exact bX12_rule_36 h2.1 (s_goesOnD h2 (by omega) (by omega) (fun m3 q3 h3 t3 => bX12_rule_43 h3.1 (k0 f (rl_no ec) hf h3.2.2.2.2.2 m3 _ h3.1 h3.2.2.2.1 (T.tr (T2.tr (t3.wk i))))))
  | succ e ih =>
    intro n p c es cs m hn h hd hp hc hu hcs hm T k1 k0
    refine bX12_rule_27 h.1.1 (fun z => absurd z (by decide)) (fun z => absurd z (by decide)) (fun z => absurd z (by decide)) (fun _ => s_mClause h hd hp hc hu (by omega) hcs hm (fun p1 c1 cl ec m2 h2 d2 c2 T2 => ?_) (fun f ec hf m2 q h2 hq T2 => ?_))
    · obtain ⟨o1, o2, o3, o4, o5, o6, o7, o8⟩ := rc_ok hp hc ec
      have rg := rl_go (e := e + 1) ec
      have hL := h2.1.2.1.1
      have hs := sk_b (B := B) o2
      have le : (es ++ cl.1 ++ cl.2).length = es.length + cl.1.length + cl.2.length := by rw [List.length_append, List.length_append]
      have lcs : (cs ++ [cl]).length = n + 1 := by rw [List.length_append, hcs]; rfl
      refine bX12_rule_36 h2.1.1 (s_goesOn h2.1 o2 (fun x1 x2 m3 h3 t3 => bX12_rule_43 h3.1 ?_) (fun x1 m3 q3 h3 t3 => bX12_rule_43 h3.1 ?_) (fun x1 x2 m3 q3 h3 t3 => bX12_rule_43 h3.1 ?_))
      · rw [if_neg (Nat.not_le.mpr x1), if_pos x2] at rg
        rw [nI_1]
        refine ih (n + 1) _ c1 _ (cs ++ [cl]) m3 (by omega) (NS_mk t3 h3 h2) ((t3.1 _ _ (by omega)).trans d2) (by omega) o5 (by rw [le]; omega) lcs ?_ (T.tr (T2.tr (t3.wk i))) (fun ds e4 m4 es4 hW4 f4 s4 en4 l4 c4 T4 => ?_) (fun f e4 hf hf2 m4 x hW4 f4 T4 => ?_)
        · have := MCl_up (ts := []) (m2 := m3) c2 (fun a k y1 y2 _ => t3.1 a k (by omega))
          rw [List.append_nil] at this
          exact this
        · rw [e4] at rg
          have ea : cs ++ [cl] ++ ds = cs ++ (cl :: ds) := by rw [List.append_assoc]; rfl
          rw [ea] at c4 ⊢
          exact k1 _ rg m4 es4 hW4 f4 s4 en4 l4 c4 T4
        · rw [e4] at rg
          exact k0 f rg hf hf2 m4 x hW4 f4 T4
      · rw [if_pos x1] at rg
        rw [nI_1, ← lcs]
        have N3 := NS_mk t3 h3 h2
        have := MCl_up (ts := []) (m2 := m3) c2 (fun a k y1 y2 _ => t3.1 a k (by omega))
        rw [List.append_nil] at this
        exact k1 _ rg m3 _ h3.1 h3.2.2.2.1 N3.2.2.2.1 N3.2.2.1 (by rw [le]; omega) this (T.tr (T2.tr (t3.wk i)))
      · rw [if_neg (Nat.not_le.mpr x1), if_neg x2] at rg
        exact k0 _ rg (by omega) (by omega) m3 _ h3.1 h3.2.2.2.1 (T.tr (T2.tr (t3.wk i)))
    · exact bX12_rule_36 h2.1 (s_goesOnD h2 (by omega) (by omega) (fun m3 q3 h3 t3 => bX12_rule_43 h3.1 (k0 f (rl_no ec) hf h3.2.2.2.2.2 m3 _ h3.1 h3.2.2.2.1 (T.tr (T2.tr (t3.wk i))))))
theorem RuleM_of {m : pMem} {i : Nat} {cs : List Cls} {es : List Tok} (h1 : mI m 557 i = nI cs.length) (h2 : cs.length ≤ 12) (h : EN i es m) (hl : es.length ≤ 300) (hm : MCl i cs es m) : RuleM m i cs := by
  refine ⟨h1, h2, fun q hq => ?_⟩
  obtain ⟨a, b, e, g1, g2, g3, g4, g5, g6, g7, g8⟩ := hm q hq
  exact ⟨a, b, e, g1, g2, by omega, g4, g5, g6, (seg_EN h _ _ (by omega)).trans g7, (seg_EN h _ _ (by omega)).trans g8⟩
theorem RuleM_c2 {m m2 : pMem} {i : Nat} {cs : List Cls} (h7 : mI m2 557 i = mI m 557 i) (h8 : ∀ a q, 558 ≤ a → a ≤ 560 → q < 12 → mI m2 a (12 * i + q) = mI m a (12 * i + q)) (h5 : ∀ k, k < 300 → mI m2 555 (300 * i + k) = mI m 555 (300 * i + k) ∧ mI m2 556 (300 * i + k) = mI m 556 (300 * i + k)) (h : RuleM m i cs) : RuleM m2 i cs := by
  obtain ⟨r1, r2, r3⟩ := h
  refine ⟨h7.trans r1, r2, fun q hq => ?_⟩
  obtain ⟨a, b, e, g1, g2, g3, g4, g5, g6, g7, g8⟩ := r3 q hq
  refine ⟨a, b, e, g1, g2, g3, (h8 _ _ (by omega) (by omega) (by omega)).trans g4, (h8 _ _ (by omega) (by omega) (by omega)).trans g5, (h8 _ _ (by omega) (by omega) (by omega)).trans g6, ?_, ?_⟩
  · rw [← g7]
    exact seg_congr _ _ (fun j hj => by rw [Nat.add_assoc]; exact h5 (a + j) (by omega))
  · rw [← g8]
    exact seg_congr _ _ (fun j hj => by rw [Nat.add_assoc]; exact h5 (b + j) (by omega))
theorem RulesI_k {m m2 : pMem} {nr : Nat} (h : RulesI m nr) (h4 : mI m2 0 4 = mI m 0 4) (h23 : mI m2 535 23 = mI m 535 23) (hc : ∀ j, j < nr → (∀ k, mI m2 (12 + 3 * j + 1) k = mI m (12 + 3 * j + 1) k) ∧ mI m2 (12 + 3 * j) 2 = mI m (12 + 3 * j) 2)
    (h7 : ∀ j, j < nr → mI m2 557 j = mI m 557 j) (h8 : ∀ a k, 558 ≤ a → a ≤ 560 → k < 12 * nr → mI m2 a k = mI m a k) (h5 : ∀ k, k < 300 * nr → mI m2 555 k = mI m 555 k ∧ mI m2 556 k = mI m 556 k) : ∀ j, j < nr → ∃ cs, RuleM m2 j cs ∧ RuleC m2 (12 + 3 * j) cs ∧ ∀ c ∈ cs, ClsOk c := by
  intro j hj
  obtain ⟨cs, x, y, z⟩ := h.2.2.2 j hj
  exact ⟨cs, RuleM_c2 (h7 j hj) (fun a q y1 y2 y3 => h8 _ _ y1 y2 (by omega)) (fun k hk => h5 _ (by omega)) x, RuleC_congr (hc j hj).1 (hc j hj).2 y, z⟩
end T55
