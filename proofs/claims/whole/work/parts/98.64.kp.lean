/-- the past, its first i rows made -/
def mP (m : pMem) (a i : Nat) : pMem := (m.1, m.2.1, fun x y => if x = a ∧ y = 0 then some (a + 1) else if x = a + 1 ∧ y < i then some (a + 2 + 4 * y) else if a + 2 ≤ x ∧ x < a + 2 + 4 * i ∧ (x - (a + 2)) % 4 = 0 ∧ 1 ≤ y ∧ y ≤ 3 then some (x + y) else m.2.2 x y)
theorem mI_mP (m : pMem) (a i x y : Nat) : mI (mP m a i) x y = mI m x y := rfl
theorem mL_mP (m : pMem) (a i x y : Nat) : mL (mP m a i) x y = mL m x y := rfl
theorem mR_mP (m : pMem) (a i x y : Nat) : mR (mP m a i) x y = if x = a ∧ y = 0 then some (a + 1) else if x = a + 1 ∧ y < i then some (a + 2 + 4 * y) else if a + 2 ≤ x ∧ x < a + 2 + 4 * i ∧ (x - (a + 2)) % 4 = 0 ∧ 1 ≤ y ∧ y ≤ 3 then some (x + y) else mR m x y := rfl
theorem mR_uFk (m : pMem) (a n : Nat) (v : Int32) (x y : Nat) : mR (uF m a n v) x y = mR m x y := rfl
theorem Zr_mP {m : pMem} {a i : Nat} (h : Zr m (a + 1)) : Zr (mP m a i) (a + 2 + 4 * i) := fun x hx y => by
  refine ⟨(h x (by omega) y).1, (h x (by omega) y).2.1, ?_⟩
  rw [mR_mP, if_neg (by omega), if_neg (by omega), if_neg (by omega)]
  exact (h x (by omega) y).2.2
theorem mP_0 (m : pMem) (a : Nat) : uR m a 0 (some (a + 1)) = mP m a 0 := by
  refine Prod.ext rfl (Prod.ext rfl (funext fun x => funext fun y => ?_))
  show (if x = a ∧ y = 0 then some (a + 1) else m.2.2 x y) = if x = a ∧ y = 0 then some (a + 1) else if x = a + 1 ∧ y < 0 then some (a + 2 + 4 * y) else if a + 2 ≤ x ∧ x < a + 2 + 4 * 0 ∧ (x - (a + 2)) % 4 = 0 ∧ 1 ≤ y ∧ y ≤ 3 then some (x + y) else m.2.2 x y
  by_cases h : x = a ∧ y = 0
  · rw [if_pos h, if_pos h]
  · rw [if_neg h, if_neg h, if_neg (by omega), if_neg (by omega)]
theorem mP_s (m : pMem) (a i : Nat) : uR (uR (uR (uR (mP m a i) (a + 2 + 4 * i) 1 (some (a + 2 + 4 * i + 1))) (a + 2 + 4 * i) 2 (some (a + 2 + 4 * i + 2))) (a + 2 + 4 * i) 3 (some (a + 2 + 4 * i + 3))) (a + 1) i (some (a + 2 + 4 * i)) = mP m a (i + 1) := by
  refine Prod.ext rfl (Prod.ext rfl (funext fun x => funext fun y => ?_))
  show mR (uR (uR (uR (uR (mP m a i) (a + 2 + 4 * i) 1 (some (a + 2 + 4 * i + 1))) (a + 2 + 4 * i) 2 (some (a + 2 + 4 * i + 2))) (a + 2 + 4 * i) 3 (some (a + 2 + 4 * i + 3))) (a + 1) i (some (a + 2 + 4 * i))) x y = mR (mP m a (i + 1)) x y
  rw [mR_uR, mR_uR, mR_uR, mR_uR, mR_mP, mR_mP]
  by_cases h0 : x = a ∧ y = 0
  · rw [if_neg (by omega), if_neg (by omega), if_neg (by omega), if_neg (by omega), if_pos h0, if_pos h0]
  · by_cases h1 : x = a + 1 ∧ y = i
    · obtain ⟨rfl, rfl⟩ := h1
      rw [if_pos ⟨rfl, rfl⟩, if_neg h0, if_pos (by omega)]
    · rw [if_neg h1]
      by_cases h2 : x = a + 2 + 4 * i
      · subst h2
        by_cases h3 : y = 3
        · subst h3
          rw [if_pos ⟨rfl, rfl⟩, if_neg h0, if_neg (by omega), if_pos (by omega)]
        · rw [if_neg (by omega)]
          by_cases h4 : y = 2
          · subst h4
            rw [if_pos ⟨rfl, rfl⟩, if_neg h0, if_neg (by omega), if_pos (by omega)]
          · rw [if_neg (by omega)]
            by_cases h5 : y = 1
            · subst h5
              rw [if_pos ⟨rfl, rfl⟩, if_neg h0, if_neg (by omega), if_pos (by omega)]
            · rw [if_neg (by omega), if_neg h0, if_neg (by omega), if_neg (by omega), if_neg h0, if_neg (by omega), if_neg (by omega)]
      · rw [if_neg (by omega), if_neg (by omega), if_neg (by omega), if_neg h0, if_neg h0]
        by_cases h6 : x = a + 1 ∧ y < i
        · rw [if_pos h6, if_pos (by omega)]
        · rw [if_neg h6, if_neg (c := x = a + 1 ∧ y < i + 1) (by omega)]
          by_cases h7 : a + 2 ≤ x ∧ x < a + 2 + 4 * i ∧ (x - (a + 2)) % 4 = 0 ∧ 1 ≤ y ∧ y ≤ 3
          · rw [if_pos h7, if_pos (by omega)]
          · rw [if_neg h7, if_neg (by omega)]
theorem kX2_init {X : pX} {Q : Option Value → pMem → Prop} {m : pMem} {a : Nat} (c : SH[a]? = some (.inl 2)) (hz : Zr m (a + 1)) (hn : a + 2 + 4 * 20 ≤ 572) (h : Q none (mP m a 20)) : pCl X mX2_init 2 (SK (a + 1)) (SK (a + 2 + 4 * 20)) [.ref a] m Q := by
  refine pCl_of (by decide +kernel) (Nat.le_of_ble_eq_true rfl) rfl ?_
  refine g_aload_n 0 dX2_init_0 rfl rfl ?_
  refine g_objInit dX2_init_1 oiX2_1 (Nat.le_of_ble_eq_true rfl) ⟨Nat.le_of_ble_eq_true rfl, Nat.le_of_ble_eq_true rfl⟩ ?_
  refine g_aload_n 0 dX2_init_4 rfl rfl ?_
  refine g_bipush (v := 20) dX2_init_5 (by decide) ?_
  refine K_newq (KR_f (by omega) (by omega) (by omega)) (s2_0 c) hz dX2_init_7 (by decide) nqX2_9 (fun _ h => h.2.2.1) (by decide) (by decide) (by decide) ?_
  refine g_putR dX2_init_10 fl2_11 rfl (fun _ => ⟨rfl, fun C T N h => by cases h; rfl⟩) (SK_get (by omega) c) ?_
  rw [mP_0]
  refine g_iconst (v := 0) dX2_init_13 (by decide) ?_
  refine g_istore_n (ls2 := [(1, .int (0 : Int32)), (0, .ref a)]) dX2_init_14 rfl (by decide) rfl ?_
  refine upTo (P := fun t => pGo X mX2_init (prm 2 (SK (a + 1)) (SK (a + 2 + 4 * 20))) (SK (a + 1)).length (psl (SK (a + 1))) (pZ X (prm 2 (SK (a + 1)) (SK (a + 2 + 4 * 20))) (SK (a + 2 + 4 * 20)) Q) 15 [(1, .int (nI t)), (0, .ref a)] [] (SK (a + 2 + 4 * t)) (mP m a t)) 20 ?_ (fun t ht ih => ?_) 0 (by decide)
  · refine g_iload_n 0 dX2_init_15 rfl rfl ?_
    refine g_bipush (v := 20) dX2_init_16 (by decide) ?_
    refine g_icmp_ge 40 dX2_init_18 (by decide) (fun _ => ?_) (fun q => absurd (by decide) q)
    exact g_vret dX2_init_40 rfl enK h
  · have cr := shRows c ht
    have zt := Zr_mP (i := t) hz
    refine g_iload_n 0 dX2_init_15 rfl rfl ?_
    refine g_bipush (v := 20) dX2_init_16 (by decide) ?_
    refine g_icmp_ge 40 dX2_init_18 (by decide) (fun q => absurd q (nI_ge ht (by decide))) (fun _ => ?_)
    refine g_aload_n 1 dX2_init_21 rfl rfl ?_
    refine g_getR dX2_init_22 fl2_11 rfl (SK_get (by omega) c) (by rw [mR_mP, if_pos ⟨rfl, rfl⟩]) ?_
    refine g_iload_n 0 dX2_init_25 rfl rfl ?_
    refine K_new (KR_f (by omega) (by omega) (by omega)) cr zt dX2_init_26 pCk8 nwX2_9 ?_
    refine g_dup dX2_init_29 rfl ?_
    refine g_callI (As := []) (a := a + 2 + 4 * t) (st := [.ref (a + 2 + 4 * t), .int (nI t), .ref (a + 1)]) dX2_init_30 clX2_15 rfl rfl (Nat.le_of_ble_eq_true rfl) (rmK (by decide) (by decide) (by omega) (by omega) (by omega) (by omega)) (kX8_init cr (Zr_up zt (by omega)) (by omega) ?_)
    refine g_aast (j := t) dX2_init_33 (SK_get (by omega) (s2_0 c)) (by decide) pCk8 (SK_get (by omega) cr) (vp_in_nI ht (by decide)) (nI_clamp (by omega)) ?_
    rw [mP_s]
    refine g_iinc (v := nI t + (1 : Int32)) (ls2 := [(1, .int (nI t + (1 : Int32))), (0, .ref a)]) 0 dX2_init_34 rfl rfl (by decide) rfl ?_
    refine g_goto 15 dX2_init_37 (by decide) ?_
    rw [nI_1]
    exact ih
