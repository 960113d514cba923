/-! ===== the model: a day ===== -/
theorem SamS.sm {m m2 : pMem} (h : SamS m m2) {E : Nat → Nat → Prop} : Same E m m2 := ⟨fun a k _ => h.1 a k, h.2.1⟩
section S12
variable {X : pX} {Q : Option Value → pMem → Prop} {m : pMem}
theorem s_wanted {i : Nat} {w : Row} {cs : List Cls} (hW : Wf m) (hi : i < 6) (hf : mI m 536 8 = nI i) (hr : RuleM m i cs) (ok : ∀ c ∈ cs, ClsOk c) (hw : AskM m w)
    (h : ∀ m2, SamS m m2 → Q (some (.long (evR w cs))) m2) : Cl X 3 mX12_wanted [.ref 535] m Q := by
  obtain ⟨hn, h12, hc⟩ := hr
  refine pCl_of (by decide +kernel) (Nat.le_of_ble_eq_true rfl) rfl (bX12_wanted_0 hW ?_)
  have e12 : ∀ c, ((12 : Int32) * nI i) + nI c = nI (12 * i + c) := by
    intro c
    rw [show (12 : Int32) = nI 12 from rfl, nI_mul, nI_add]
  have c1 : (nI i).toNatClampNeg = i := nI_clamp (by omega)
  have start : ((12 : Int32) * (mI m 536 8)) = nI (12 * i + 0) := by rw [hf, ← e12 0, nI_0, Int32.add_zero]
  rw [start, hf]
  refine upTo (P := fun c => ∀ m1, SamS m m1 → evR w (cs.drop c) = evR w cs → Go X 3 mX12_wanted Q 13 [(0, .ref 535), (1, .int (nI i)), (2, .int (nI (12 * i + c)))] [] m1) cs.length ?_ ?_ 0 (Nat.zero_le _) m SamS.rf rfl
  · intro m1 hm he
    have e7 : mI m1 557 (nI i).toNatClampNeg = nI cs.length := by rw [c1, hm.1]; exact hn
    rw [List.drop_length] at he
    have := h m1 hm
    rw [← he] at this
    refine bX12_wanted_13 (hW.sm hm.2.1) (vp_in_nI hi (by decide)) (fun _ => this) ?_ ?_ ?_ ?_ <;> (rw [e7, e12]; intro z; exact absurd (Int32.le_refl _) z)
  · intro c hcl ih m1 hm he
    have hW1 := hW.sm hm.2.1
    have e7 : mI m1 557 (nI i).toNatClampNeg = nI cs.length := by rw [c1, hm.1]; exact hn
    have cc : (nI (12 * i + c)).toNatClampNeg = 12 * i + c := nI_clamp (by omega)
    have hlt : ¬ ((12 : Int32) * nI i) + mI m1 557 (nI i).toNatClampNeg ≤ nI (12 * i + c) := by rw [e7, e12]; exact nI_ge (by omega) (by omega)
    have v72 : vp_in (nI (12 * i + c)) 72 := vp_in_nI (by omega) (by decide)
    obtain ⟨a, b, e, hab, hbe, he3, ea, eb, ee, s1, s2⟩ := hc c hcl
    have dr : cs.drop c = cs.getD c ([], []) :: cs.drop (c + 1) := by
      rw [List.drop_eq_getElem_cons hcl]
      simp [List.getD, List.getElem?_eq_getElem hcl]
    obtain ⟨k1, k2, k3⟩ := ok (cs.getD c ([], [])) (by
      have : cs.getD c ([], []) = cs[c] := by simp [List.getD, List.getElem?_eq_getElem hcl]
      rw [this]; exact List.getElem_mem hcl)
    generalize cs.getD c ([], []) = cl at *
    rw [dr] at he
    have ea1 : mI m1 558 (nI (12 * i + c)).toNatClampNeg = nI a := by rw [cc, hm.1]; exact ea
    have eb1 : mI m1 559 (nI (12 * i + c)).toNatClampNeg = nI b := by rw [cc, hm.1]; exact eb
    have ee1 : mI m1 560 (nI (12 * i + c)).toNatClampNeg = nI e := by rw [cc, hm.1]; exact ee
    have hw1 : ∀ m3, SamS m m3 → AskM m3 w := fun m3 h3 j hj => (h3.2.2 562 j (by decide)).trans (hw j hj)
    -- the sum
    have sumk : ∀ m3, SamS m m3 → evR w cs = (evT w cl.1 []).headD 0 → Go X 3 mX12_wanted Q 65 [(0, .ref 535), (1, .int (nI i)), (2, .int (nI (12 * i + c)))] [] m3 := by
      intro m3 h3 hv
      refine bX12_wanted_65 (hW.sm h3.2.1) v72 ?_
      have ea3 : mI m3 558 (nI (12 * i + c)).toNatClampNeg = nI a := by rw [cc, h3.1]; exact ea
      have eb3 : mI m3 559 (nI (12 * i + c)).toNatClampNeg = nI b := by rw [cc, h3.1]; exact eb
      rw [ea3, eb3]
      refine s_answer (b := [false]) (hW.sm h3.2.1) hi hab (by omega) (hw1 m3 h3) (by rw [h3.row, h3.row, s1]; exact k1) rfl (fun m4 h4 => ?_)
      rw [h3.row, h3.row, s1, ← hv]
      exact bX12_wanted_82 (hW.sm (h3.tr h4).2.1) (h m4 (h3.tr h4))
    by_cases hbe2 : b = e
    · have c2 : cl.2 = [] := by rw [← s2, hbe2, Nat.sub_self]; rfl
      have hv : evR w cs = (evT w cl.1 []).headD 0 := by rw [← he]; unfold evR; rw [if_pos (Or.inl c2)]
      refine bX12_wanted_13 hW1 (vp_in_nI hi (by decide)) (fun z => absurd z hlt) (fun _ => v72) (fun _ _ => sumk m1 hm hv) ?_ ?_ <;> (intro _ z; exact absurd (by rw [eb1, ee1, hbe2]) z)
    · have c2 : cl.2 ≠ [] := by
        intro z
        have := congrArg List.length s2
        rw [seg_len, z] at this
        have : e - b = 0 := this
        omega
      have hne : ¬ mI m1 559 (nI (12 * i + c)).toNatClampNeg = mI m1 560 (nI (12 * i + c)).toNatClampNeg := by
        rw [eb1, ee1]; exact fun z => hbe2 ((nI_eq (by omega) (by omega)).mp z)
      refine bX12_wanted_13 hW1 (vp_in_nI hi (by decide)) (fun z => absurd z hlt) (fun _ => v72) (fun _ z => absurd z hne) (fun _ _ => v72) (fun _ _ => ?_)
      rw [eb1, ee1]
      refine s_answer (b := [true]) hW1 hi hbe he3 (hw1 m1 hm) (by rw [hm.row, hm.row, s2]; exact k2.resolve_left c2) rfl (fun m3 h3 => ?_)
      rw [hm.row, hm.row, s2]
      refine bX12_wanted_60 (hW1.sm h3.2.1) (fun z => ?_) (fun z => ?_)
      · have z2 : ¬ (evT w cl.2 []).headD 0 = 1 := fun y => z ((lg_cmp_eq _ _).mpr y)
        rw [nI_1]
        refine ih m3 (hm.tr h3) ?_
        rw [← he]
        show evR w (cs.drop (c + 1)) = if cl.2 = [] ∨ (evT w cl.2 []).headD 0 = 1 then (evT w cl.1 []).headD 0 else evR w (cs.drop (c + 1))
        rw [if_neg (fun y => y.elim c2 z2)]
      · have z2 : (evT w cl.2 []).headD 0 = 1 := (lg_cmp_eq _ _).mp z
        refine sumk m3 (hm.tr h3) ?_
        rw [← he]
        show (if cl.2 = [] ∨ (evT w cl.2 []).headD 0 = 1 then (evT w cl.1 []).headD 0 else evR w (cs.drop (c + 1))) = (evT w cl.1 []).headD 0
        rw [if_pos (Or.inr z2)]
end S12
/-- the model's road, state, rule -/
def mRd (m : pMem) : RD := (mI m 536 1, mI m 536 2, mI m 540, mI m 541, mI m 542, mI m 543)
def mSt (m : pMem) : ST := (mI m 536 5, mI m 537, mI m 538, mI m 539)
def okE (m : pMem) (E : EV) : Prop := (mI m 536 8 = -1 ∧ E = none) ∨ ∃ i cs, i < 6 ∧ mI m 536 8 = nI i ∧ RuleM m i cs ∧ (∀ c ∈ cs, ClsOk c) ∧ E = some (fun w => evR w cs)
def okM (m : pMem) (P Sg T : Nat) : Prop := mI m 536 3 = nI P ∧ P ≤ 4 ∧ mI m 536 2 = nI Sg ∧ Sg ≤ 8 ∧ mI m 536 4 = nI T ∧ T ≤ 6
theorem RuleM_congr {m m2 : pMem} {i : Nat} {cs : List Cls} (si : ∀ a k, 555 ≤ a → a ≤ 560 → mI m2 a k = mI m a k) (h : RuleM m i cs) : RuleM m2 i cs := by
  obtain ⟨b1, b2, b3⟩ := h
  have r5 : mI m2 555 = mI m 555 := funext fun k => si 555 k (by decide) (by decide)
  have r6 : mI m2 556 = mI m 556 := funext fun k => si 556 k (by decide) (by decide)
  have r7 : mI m2 557 = mI m 557 := funext fun k => si 557 k (by decide) (by decide)
  have r8 : mI m2 558 = mI m 558 := funext fun k => si 558 k (by decide) (by decide)
  have r9 : mI m2 559 = mI m 559 := funext fun k => si 559 k (by decide) (by decide)
  have r0 : mI m2 560 = mI m 560 := funext fun k => si 560 k (by decide) (by decide)
  unfold RuleM
  rw [r5, r6, r7, r8, r9, r0]
  exact ⟨b1, b2, b3⟩
theorem z64 : (0 : Int64) = (0 : Int32).toInt64 := by decide
theorem o64 : (1 : Int64) = (1 : Int32).toInt64 := by decide
theorem uL_1 (m : pMem) (a k : Nat) (v : Int64) : (uL m a k v).1 = m.1 := rfl
theorem uL_22 (m : pMem) (a k : Nat) (v : Int64) : (uL m a k v).2.2 = m.2.2 := rfl
section S13
variable {X : pX} {Q : Option Value → pMem → Prop} {m : pMem}
theorem s_wants {i q t p P Sg T : Nat} {cs : List Cls} (hW : Wf m) (hi : i < 6) (hf : mI m 536 8 = nI i) (hr : RuleM m i cs) (ok : ∀ c ∈ cs, ClsOk c) (hd : okM m P Sg T) (hq : q < P) (ht : t < T) (hp : mI m 537 q = nI p) (hps : p < Sg)
    (h1 : ∀ m2, Same (fun _ _ => False) m m2 → 0 < evR (wds (mI m 542) (mI m 543) (mI m 540) (mI m 541) (mI m 536 2) (mI m 536 5) (mI m 537) (mI m 539) T q t) cs → Q (some (.int 1)) m2)
    (h0 : ∀ m2, Same (fun _ _ => False) m m2 → ¬ 0 < evR (wds (mI m 542) (mI m 543) (mI m 540) (mI m 541) (mI m 536 2) (mI m 536 5) (mI m 537) (mI m 539) T q t) cs → Q (some (.int 0)) m2) : Cl X 4 mX12_wants [.ref 535, .int (nI q), .int (nI t)] m Q := by
  obtain ⟨hP, hP4, hS, h8, hT, h6⟩ := hd
  have eq : (nI q).toNatClampNeg = q := nI_clamp (by omega)
  have et : (nI t).toNatClampNeg = t := nI_clamp (by omega)
  have eT : (nI T).toNatClampNeg = T := nI_clamp (by omega)
  have vT : ∀ m2, (∀ a k, mI m2 a k = mI m a k) → vp_in (mI m2 536 4) 7 := fun m2 z => by rw [z, hT]; exact vp_in_nI (by omega) (by decide)
  have sameI : ∀ m2 : pMem, m2.1 = m.1 → ∀ a k, mI m2 a k = mI m a k := fun m2 z a k => congrFun (congrFun z a) k
  have nxt : ∀ (y0 : Int64) (m2 : pMem), m2.1 = m.1 → m2.2.2 = m.2.2 → y0 = (if mI m 539 t = nI q then (1 : Int32) else 0).toInt64 → mL m2 562 0 = (nI q).toInt64 → mL m2 562 1 = (nI t).toInt64 → mL m2 562 2 = (mI m 542 t).toInt64 → mL m2 562 3 = (mI m 543 t).toInt64 →
      Go X 4 mX12_wants Q 62 [(0, .ref 535), (1, .int (nI q))] [.long y0, .int (4 : Int32), .ref 562] m2 := by
    intro y0 m2 e1 e2 ey a0 a1 a2 a3
    have si := sameI m2 e1
    have r542 : mI m2 542 = mI m 542 := funext fun k => si 542 k
    have r539 : mI m2 539 = mI m 539 := funext fun k => si 539 k
    have sr : ∀ a k, mR m2 a k = mR m a k := fun a k => congrFun (congrFun e2 a) k
    refine bX12_wants_62 (hW.sm sr) (s12_37 sh535) (vT m2 si) (by rw [si 536 4, hT, eT]; exact tAt_sm _ _ T h6) (vp_in_nI (by omega) (by decide)) (by rw [eq, si, hp]; exact vp_in_nI (by omega) (by decide)) ?_
    refine s_wanted (i := i) (cs := cs) (w := wds (mI m 542) (mI m 543) (mI m 540) (mI m 541) (mI m 536 2) (mI m 536 5) (mI m 537) (mI m 539) T q t) ?_ hi ((si 536 8).trans hf) ?_ ok ?_ (fun m3 h3 => ?_)
    · exact hW.sm sr
    · obtain ⟨b1, b2, b3⟩ := hr
      exact RuleM_congr (m := m) (fun a k _ _ => si a k) ⟨b1, b2, b3⟩
    · rw [si 536 4, hT, eT, r539, r542, pcI_t _ _ T h6, wSum_t h6 T (Nat.le_refl T), eq, si 537 q, hp, nI_clamp (by omega), si 540 p, si 536 2, si 541 q, si 536 5]
      intro j hj
      have hy : j = 0 ∨ j = 1 ∨ j = 2 ∨ j = 3 ∨ j = 4 ∨ j = 5 ∨ j = 6 ∨ j = 7 ∨ j = 8 ∨ j = 9 ∨ j = 10 ∨ j = 11 := by omega
      simp only [mL_uL]
      rcases hy with rfl | rfl | rfl | rfl | rfl | rfl | rfl | rfl | rfl | rfl | rfl | rfl
      · simp [wds, a0]
      · simp [wds, a1]
      · simp [wds, a2]
      · simp [wds, a3]
      · simp [wds, ey]
      · simp [wds]
      · simp [wds]
      · simp [wds, hp]
      · simp [wds, hp]
      · simp [wds]
      · simp [wds, hp, nI_clamp (show p < 2 ^ 31 by omega)]
      · simp [wds]
    · have sm : Same (fun _ _ => False) m m3 := ⟨fun a k _ => (h3.1 a k).trans (si a k), fun a k => (h3.2.1 a k).trans (sr a k)⟩
      refine bX12_wants_179 (hW.sm sm.2) (fun z => h0 m3 sm ?_) (fun z => h1 m3 sm ?_)
      · exact Int64.not_lt.mpr ((lg_cmp_le _ _).mp z)
      · exact Int64.not_le.mp (fun y => z ((lg_cmp_le _ _).mpr y))
  refine pCl_of (by decide +kernel) (Nat.le_of_ble_eq_true rfl) rfl (bX12_wants_0 hW (vp_in_nI (by omega) (by decide)) (fun z => ?_) (fun z => ?_))
  · rw [et] at z ⊢
    refine nxt 0 _ (by rw [uL_1, uL_1, uL_1, uL_1]) (by rw [uL_22, uL_22, uL_22, uL_22]) (by rw [if_neg z]; exact z64) ?_ ?_ ?_ ?_
    · rw [mL_uL, if_neg (by omega), mL_uL, if_neg (by omega), mL_uL, if_neg (by omega), mL_uL, if_pos ⟨rfl, rfl⟩]
    · rw [mL_uL, if_neg (by omega), mL_uL, if_neg (by omega), mL_uL, if_pos ⟨rfl, rfl⟩]
    · rw [mL_uL, if_neg (by omega), mL_uL, if_pos ⟨rfl, rfl⟩]
    · rw [mL_uL, if_pos ⟨rfl, rfl⟩]
  · rw [et] at z ⊢
    refine nxt 1 _ (by rw [uL_1, uL_1, uL_1, uL_1]) (by rw [uL_22, uL_22, uL_22, uL_22]) (by rw [if_pos z]; exact o64) ?_ ?_ ?_ ?_
    · rw [mL_uL, if_neg (by omega), mL_uL, if_neg (by omega), mL_uL, if_neg (by omega), mL_uL, if_pos ⟨rfl, rfl⟩]
    · rw [mL_uL, if_neg (by omega), mL_uL, if_neg (by omega), mL_uL, if_pos ⟨rfl, rfl⟩]
    · rw [mL_uL, if_neg (by omega), mL_uL, if_pos ⟨rfl, rfl⟩]
    · rw [mL_uL, if_pos ⟨rfl, rfl⟩]
end S13
