/-! ===== the model's tape ===== -/
def Mk (m m2 : pMem) : Prop := Same (fun a k => a = 535 ∧ (k = 20 ∨ k = 21)) m m2
theorem Mk.rf {m : pMem} : Mk m m := Same.rf
theorem Mk.tr {m m2 m3 : pMem} (h : Mk m m2) (h2 : Mk m2 m3) : Mk m m3 := Same.tr h h2
/-- the model reads at p; f is its fault, or 0 -/
def MS (B : Nat → Nat) (L p f : Nat) (m : pMem) : Prop := Wf m ∧ TpM m B L ∧ mI m 535 20 = nI p ∧ mI m 535 21 = nI f ∧ p < 1000000 ∧ f < 10000
theorem MS_at {B : Nat → Nat} {L p q f : Nat} {m : pMem} (h : MS B L p f m) (hq : q < 1000000) : MS B L q f (uI m 535 20 (nI q)) ∧ Mk m (uI m 535 20 (nI q)) := by
  obtain ⟨hW, ⟨hL, t1, t2⟩, hp, hf, hl, hf2⟩ := h
  refine ⟨⟨hW.sm (fun _ _ => rfl), ⟨hL, ?_, fun j hj => ?_⟩, ?_, ?_, hq, hf2⟩, Same.uI Same.rf ⟨rfl, Or.inl rfl⟩⟩
  · rw [mI_uI, if_neg (by omega)]; exact t1
  · rw [mI_uI, if_neg (by omega)]; exact t2 j hj
  · rw [mI_uI, if_pos ⟨rfl, rfl⟩]
  · rw [mI_uI, if_neg (by omega)]; exact hf
theorem MS_fl {B : Nat → Nat} {L p f g : Nat} {m : pMem} (h : MS B L p f m) (hg : g < 10000) : MS B L p g (uI m 535 21 (nI g)) ∧ Mk m (uI m 535 21 (nI g)) := by
  obtain ⟨hW, ⟨hL, t1, t2⟩, hp, hf, hl, hf2⟩ := h
  refine ⟨⟨hW.sm (fun _ _ => rfl), ⟨hL, ?_, fun j hj => ?_⟩, ?_, ?_, hl, hg⟩, Same.uI Same.rf ⟨rfl, Or.inr rfl⟩⟩
  · rw [mI_uI, if_neg (by omega)]; exact t1
  · rw [mI_uI, if_neg (by omega)]; exact t2 j hj
  · rw [mI_uI, if_neg (by omega)]; exact hp
  · rw [mI_uI, if_pos ⟨rfl, rfl⟩]
theorem MS_ch {B : Nat → Nat} {L p f : Nat} {m : pMem} (h : MS B L p f m) {q : Nat} (hq : q < L) : B q < 256 ∧ mI m 554 q = (nI (B q)).toInt8.toInt32 := ⟨(h.2.1.2.2 q hq).1, (h.2.1.2.2 q hq).2⟩
section T41
variable {X : pX} {Q : Option Value → pMem → Prop} {m : pMem} {B : Nat → Nat} {L p f : Nat}
theorem s_sign (h : MS B L p f m) (k : Q (some (.int (chI B L p))) m) : Cl X 0 mX12_sign [.ref 535] m Q := by
  have hL := h.2.1.1
  have hp := h.2.2.2.2.1
  refine pCl_of (by decide +kernel) (Nat.le_of_ble_eq_true rfl) rfl (bX12_sign_0 h.1 (fun z => ?_) (fun z => ?_) (fun z => ?_))
  · rw [h.2.1.2.1, h.2.2.1] at z
    rw [← ch_end (B := B) (nI_le' (by omega) (by omega) z)]; exact k
  · rw [h.2.1.2.1, h.2.2.1] at z
    rw [h.2.2.1]
    exact vp_in_nI (by have := Nat.lt_of_not_le fun w => z (nI_le w (by omega)); omega) (by decide)
  · rw [h.2.1.2.1, h.2.2.1] at z
    have hl : p < L := Nat.lt_of_not_le fun w => z (nI_le w (by omega))
    rw [h.2.2.1, nI_clamp (by omega), (MS_ch h hl).2, byte_and _ (MS_ch h hl).1, ← ch_in hl]; exact k
theorem s_fails {q k : Nat} (h : MS B L p f m) (hq : f = 0 → q ≤ 1000) (hk : k < 5) (kk : ∀ m2, MS B L p (if f = 0 then 1 + 8 * q + k else f) m2 → Mk m m2 → Q none m2) : Cl X 0 mX12_fails [.ref 535, .int (nI k), .int (nI q)] m Q := by
  refine pCl_of (by decide +kernel) (Nat.le_of_ble_eq_true rfl) rfl (bX12_fails_0 h.1 (fun z => ?_) (fun z => ?_))
  · have hf : f ≠ 0 := fun e => z (by rw [h.2.2.2.1, e]; rfl)
    rw [if_neg hf] at kk
    have a := MS_fl (g := f) h h.2.2.2.2.2
    rw [h.2.2.2.1]
    exact kk _ a.1 a.2
  · have hf : f = 0 := by
      rw [h.2.2.2.1, show (0 : Int32) = nI 0 from rfl, nI_eq (by have := h.2.2.2.2.2; omega) (by decide)] at z
      exact z
    rw [if_pos hf] at kk
    have a := MS_fl (g := 1 + 8 * q + k) h (by have := hq hf; omega)
    rw [show (8 : Int32) = nI 8 from rfl, nI_mul, show (1 : Int32) = nI 1 from rfl, nI_add, nI_add]
    exact kk _ a.1 a.2
theorem g_blanks : ∀ n p (m : pMem), L - p = n → MS B L p f m → (∀ m2, MS B L (sk B L p) f m2 → Mk m m2 → Q none m2) → Go X 1 mX12_blanks Q 0 [(0, .ref 535)] [] m := by
  intro n
  induction n with
  | zero =>
    intro p m hn h k
    rw [sk_ge (by omega)] at k
    refine bX12_blanks_0 h.1 (s_sign h (bX12_blanks_4 h.1 (fun _ => k m h Mk.rf) (fun z => ?_)))
    rw [ch_end (by omega)] at z
    exact absurd z (by decide)
  | succ n ih =>
    intro p m hn h k
    have hL := h.2.1.1
    have hp : p < L := by omega
    by_cases c : B p = 32
    · rw [sk_yes hp c] at k
      refine bX12_blanks_0 h.1 (s_sign h (bX12_blanks_4 h.1 (fun z => ?_) (fun _ => ?_)))
      · exact absurd (by rw [ch_in hp, c]; rfl) z
      · rw [h.2.2.1, nI_1]
        have a := MS_at (q := p + 1) h (by omega)
        exact ih (p + 1) _ (by omega) a.1 (fun m2 h2 t2 => k m2 h2 (a.2.tr t2))
    · rw [sk_no (fun z => c z.2)] at k
      refine bX12_blanks_0 h.1 (s_sign h (bX12_blanks_4 h.1 (fun _ => k m h Mk.rf) (fun z => ?_)))
      rw [ch_in hp, show (32 : Int32) = nI 32 from rfl, nI_eq (by have := (MS_ch h hp).1; omega) (by decide)] at z
      exact absurd z c
theorem s_blanks (h : MS B L p f m) (k : ∀ m2, MS B L (sk B L p) f m2 → Mk m m2 → Q none m2) : Cl X 1 mX12_blanks [.ref 535] m Q :=
  pCl_of (by decide +kernel) (Nat.le_of_ble_eq_true rfl) rfl (g_blanks (L - p) p m rfl h k)
theorem s_mDig (h : MS B L p f m) (k1 : isDg (chI B L p) → Q (some (.int 1)) m) (k0 : ¬ isDg (chI B L p) → Q (some (.int 0)) m) : Cl X 1 mX12_isDigit [.ref 535] m Q :=
  pCl_of (by decide +kernel) (Nat.le_of_ble_eq_true rfl) rfl (bX12_isDigit_0 h.1 (s_sign h (bX12_isDigit_4 h.1 (fun z => k1 z) (fun z => k0 z))))
theorem s_stood {k : Nat} (h : MS B L p f m) (hk : 8 ≤ k ∧ k ≤ 25) (k1 : WD B L p (lenJ (k - 1)) (bytJ (k - 1)) → Q (some (.int 1)) m) (k0 : ¬ WD B L p (lenJ (k - 1)) (bytJ (k - 1)) → Q (some (.int 0)) m) : Cl X 5 mX12_stood [.ref 535, .retAddr k] m Q := by
  have hL := h.2.1.1
  have hp := h.2.2.2.2.1
  have hk2 : 1 ≤ k ∧ k ≤ 25 := by omega
  have hJ := lenJ_65 (k - 1) (by omega)
  have hbs := byt_small (k - 1) (by omega)
  have small : ∀ j, j < lenJ (k - 1) → ∃ c, c < 128 ∧ bytJ (k - 1) j = nI c ∧ 97 ≤ c ∧ c ≤ 122 := fun j hj => by
    obtain ⟨c, c1, c2, c3⟩ := hbs j hj
    exact ⟨c, c1, c2, by omega, by omega⟩
  have letter : ∀ j, j < lenJ (k - 1) → isLt (bytJ (k - 1) j) := fun j hj => by
    obtain ⟨c, c1, c2, c3, c4⟩ := small j hj
    rw [c2]
    exact ⟨nI_nlt (a := c) (b := 97) c3 (by omega), nI_nlt (a := 122) (b := c) c4 (by omega)⟩
  -- a word that is not: all is skipped
  have dead : ∀ x4, ¬ WD B L p (lenJ (k - 1)) (bytJ (k - 1)) → Go X 5 mX12_stood Q 63 [(0, .ref 535), (1, .retAddr k), (3, .int 0), (4, .int x4)] [] m := fun x4 hn =>
    bX12_stood_63 h.1 hk2 (s_length hk2 (bX12_stood_69 h.1 (fun _ => Or.inl rfl) (fun _ => k0 hn) (fun _ _ => Or.inl rfl) (fun _ _ => k0 hn) (fun _ z => absurd rfl z) (fun _ z => absurd rfl z) (fun _ z => absurd rfl z)))
  have fin : ∀ e, p ≤ e → (∀ j, p ≤ j → j < e → j < L ∧ isLt (nI (B j))) → ¬ isLt (chI B L e) → e < 1000000 → Cl X 1 mJ0_length_8abf5 [.retAddr k] m (fun v m2 => Go X 5 mX12_stood Q 51 [(0, .ref 535), (1, .retAddr k), (2, .int (nI e))] (v.toList ++ [.int (nI e - (mI m 535 20))]) m2) := by
    intro e pe hall hno he
    refine s_length hk2 ?_
    have ed : nI e - mI m 535 20 = nI (e - p) := by rw [h.2.2.1, show e = (e - p) + p by omega, ← nI_add, Int32.add_sub_cancel, Nat.add_sub_cancel]
    rw [ed]
    refine bX12_stood_51 h.1 (fun z => dead _ (fun w => ?_)) (fun z => ?_)
    · have hne : e - p ≠ lenJ (k - 1) := fun y => z (by rw [y])
      obtain ⟨w1, w2, w3⟩ := w
      rcases Nat.lt_or_ge (e - p) (lenJ (k - 1)) with c | c
      · have := w2 (e - p) c
        rw [show p + (e - p) = e by omega] at this
        rw [ch_in (by omega), this] at hno
        exact hno (letter _ c)
      · have := hall (p + lenJ (k - 1)) (by omega) (by omega)
        rw [ch_in this.1] at w3
        exact w3 this.2
    · rw [nI_eq (by omega) (by omega)] at z
      have main : ∀ i, i ≤ lenJ (k - 1) → (∀ j, j < i → nI (B (p + j)) = bytJ (k - 1) j) → Go X 5 mX12_stood Q 63 [(0, .ref 535), (1, .retAddr k), (3, .int 1), (4, .int (nI i))] [] m := by
        refine upTo (P := fun i => (∀ j, j < i → nI (B (p + j)) = bytJ (k - 1) j) → Go X 5 mX12_stood Q 63 [(0, .ref 535), (1, .retAddr k), (3, .int 1), (4, .int (nI i))] [] m) (lenJ (k - 1)) ?_ ?_
        · intro hm
          have hw : WD B L p (lenJ (k - 1)) (bytJ (k - 1)) := ⟨by have := hall (e - 1) (by omega) (by omega); omega, hm, by rw [show p + lenJ (k - 1) = e by omega]; exact hno⟩
          refine bX12_stood_63 h.1 hk2 (s_length hk2 (bX12_stood_69 h.1 (fun _ => Or.inr rfl) (fun _ => k1 hw) (fun w => absurd (nI_le (Nat.le_refl _) (by omega)) w) (fun w => absurd (nI_le (Nat.le_refl _) (by omega)) w) (fun w => absurd (nI_le (Nat.le_refl _) (by omega)) w) (fun w => absurd (nI_le (Nat.le_refl _) (by omega)) w) (fun w => absurd (nI_le (Nat.le_refl _) (by omega)) w)))
        · intro i hi ih hm
          have hin := hall (p + i) (by omega) (by omega)
          have hb := MS_ch h hin.1
          have ep : mI m 535 20 + nI i = nI (p + i) := by rw [h.2.2.1, nI_add]
          obtain ⟨c, c1, c2, c3, c4⟩ := small i hi
          refine bX12_stood_63 h.1 hk2 (s_length hk2 (bX12_stood_69 h.1 (fun w => absurd w (nI_ge hi (by omega))) (fun w => absurd w (nI_ge hi (by omega))) (fun _ w => absurd w (by decide)) (fun _ w => absurd w (by decide)) (fun _ _ => ?_) (fun _ _ => hk2) (fun _ _ => s_charAt hk2 (vp_in_nI hi (by omega)) (bX12_stood_94 h.1 (fun w => dead _ (fun y => w ?_)) (fun w => ?_)))))
          · rw [ep]; exact vp_in_nI (by omega) (by decide)
          · rw [ep, nI_clamp (by omega), hb.2, nI_clamp (by omega), c2, byte_eq _ hb.1 _ c1, ← c2]
            exact y.2.1 i hi
          · rw [ep, nI_clamp (by omega), hb.2, nI_clamp (by omega), c2, byte_eq _ hb.1 _ c1, ← c2] at w
            rw [nI_1]
            refine ih (fun j hj => ?_)
            by_cases ej : j = i
            · subst ej; exact w
            · exact hm j (by omega)
      exact main 0 (Nat.zero_le _) (fun j hj => absurd hj (by omega))
  have run : ∀ n e, L - e = n → p ≤ e → e < 1000000 → (∀ j, p ≤ j → j < e → j < L ∧ isLt (nI (B j))) → Go X 5 mX12_stood Q 5 [(0, .ref 535), (1, .retAddr k), (2, .int (nI e))] [] m := by
    intro n
    induction n with
    | zero =>
      intro e hn pe he hall
      have c : mI m 535 19 ≤ nI e := by rw [h.2.1.2.1]; exact nI_le (by omega) (by omega)
      exact bX12_stood_5 h.1 (fun _ => hk2) (fun _ => fin e pe hall (by rw [ch_end (by omega)]; exact lt_M) he) (fun z => absurd c z) (fun z => absurd c z) (fun z => absurd c z) (fun z => absurd c z) (fun z => absurd c z) (fun z => absurd c z) (fun z => absurd c z)
    | succ n ih =>
      intro e hn pe he hall
      have hl : e < L := by omega
      have c : ¬ mI m 535 19 ≤ nI e := by rw [h.2.1.2.1]; exact nI_ge hl (by omega)
      have hb := MS_ch h hl
      have ve : vp_in (nI e) 400 := vp_in_nI (by omega) (by decide)
      have eb : mI m 554 (nI e).toNatClampNeg = (nI (B e)).toInt8.toInt32 := by rw [nI_clamp (by omega)]; exact hb.2
      have lt := byte_lt _ hb.1
      refine bX12_stood_5 h.1 (fun z => absurd z c) (fun z => absurd z c) (fun _ => ve) (fun _ _ => hk2) (fun _ z => fin e pe hall ?_ he) (fun _ _ => ve) (fun _ _ _ => hk2) (fun _ _ z => fin e pe hall ?_ he) (fun _ z1 z2 => ?_)
      · rw [eb] at z
        rw [ch_in hl]; exact lt.mp (Or.inl z)
      · rw [eb] at z
        rw [ch_in hl]; exact lt.mp (Or.inr z)
      · rw [eb] at z1 z2
        have hlt : isLt (nI (B e)) := Classical.byContradiction fun w => (lt.mpr w).elim z1 z2
        rw [nI_1]
        refine ih (e + 1) (by omega) (by omega) (by omega) (fun j h1 h2 => ?_)
        by_cases ej : j = e
        · subst ej; exact ⟨hl, hlt⟩
        · exact hall j h1 (by omega)
  refine pCl_of (by decide +kernel) (Nat.le_of_ble_eq_true rfl) rfl (bX12_stood_0 h.1 ?_)
  rw [h.2.2.1]
  exact run (L - p) p rfl (Nat.le_refl _) hp (fun j h1 h2 => absurd h2 (by omega))
theorem s_takes {k : Nat} (h : MS B L p f m) (hk : 8 ≤ k ∧ k ≤ 25) (k1 : WD B L (sk B L p) (lenJ (k - 1)) (bytJ (k - 1)) → ∀ m2, MS B L (sk B L p + lenJ (k - 1)) f m2 → Mk m m2 → Q (some (.int 1)) m2) (k0 : ¬ WD B L (sk B L p) (lenJ (k - 1)) (bytJ (k - 1)) → ∀ m2, MS B L (sk B L p) f m2 → Mk m m2 → Q (some (.int 0)) m2) : Cl X 6 mX12_takes [.ref 535, .retAddr k] m Q := by
  have hk2 : 1 ≤ k ∧ k ≤ 25 := by omega
  refine pCl_of (by decide +kernel) (Nat.le_of_ble_eq_true rfl) rfl (bX12_takes_0 h.1 (s_blanks h (fun m2 h2 t2 => bX12_takes_4 h2.1 ?_)))
  have hL := h2.2.1.1
  refine s_stood h2 hk (fun w => bX12_takes_9 h2.1 (fun z => absurd z (by decide)) (fun z => absurd z (by decide)) (fun _ => hk2) (fun _ => s_length hk2 (bX12_takes_23 h2.1 (Or.inr rfl) ?_))) (fun w => bX12_takes_9 h2.1 (fun _ => Or.inl rfl) (fun _ => ?_) (fun z => absurd rfl z) (fun z => absurd rfl z))
  · rw [h2.2.2.1, nI_add]
    have a := MS_at (q := sk B L p + lenJ (k - 1)) h2 (by have := w.1; omega)
    exact k1 w _ a.1 (t2.tr a.2)
  · have a := MS_at (q := sk B L p) h2 h2.2.2.2.2.1
    rw [h2.2.2.1, show nI (sk B L p) + (0 : Int32) = nI (sk B L p) from Int32.add_zero _]
    exact k0 w _ a.1 (t2.tr a.2)
theorem nd_p (h : ¬ nd B L p = p) : p < L ∧ 48 ≤ B p ∧ B p ≤ 57 := by
  refine Classical.byContradiction fun w => h (nd_no w)
theorem nd_dg (hB : p < L → B p < 256) : isDg (chI B L p) ↔ ¬ nd B L p = p := by
  refine ⟨fun d e => ?_, fun d => ?_⟩
  · by_cases hp : p < L
    · rw [ch_in hp] at d
      have y := (dg_nI (hB hp)).mp d
      rw [nd_yes ⟨hp, y⟩] at e
      have := (nd_b (B := B) (L := L) (p := p + 1) (by omega)).1
      omega
    · rw [ch_end (by omega)] at d
      exact dg_M d
  · have := nd_p d
    rw [ch_in this.1]
    exact (dg_nI (hB this.1)).mpr this.2
/-- what digits alone find wrong -/
def dgF (B : Nat → Nat) (L p : Nat) : Nat := if nd B L p = p then 1 + 8 * p else if 5 < nd B L p - p then 2 + 8 * p else 0
theorem s_digits (h : MS B L p f m) (hp : f = 0 → p ≤ L) (k : ∀ m2 v, MS B L (nd B L p) (if f = 0 then dgF B L p else f) m2 → Mk m m2 → (¬ nd B L p = p → v = nI (nv B L p)) → Q (some (.int v)) m2) : Cl X 2 mX12_digits [.ref 535, .int (99999 : Int32)] m Q := by
  have hL := h.2.1.1
  have hp2 := h.2.2.2.2.1
  refine pCl_of (by decide +kernel) (Nat.le_of_ble_eq_true rfl) rfl (bX12_digits_0 h.1 ?_)
  by_cases d : nd B L p = p
  · refine s_mDig h (fun z => absurd d ((nd_dg (fun hl => (MS_ch h hl).1)).mp z)) (fun _ => bX12_digits_4 h.1 (fun z => absurd rfl z) (fun _ => ?_))
    rw [h.2.2.1]
    refine s_fails (k := 0) h (fun e => by have := hp e; omega) (by decide) (fun m2 h2 t2 => bX12_digits_16 h2.1 (k m2 0 ?_ t2 (fun w => absurd d w)))
    rw [d]
    unfold dgF
    rw [if_pos d]
    exact h2
  · obtain ⟨hl, hd⟩ := nd_p d
    have nb := nd_b (B := B) (L := L) (p := p) (by omega)
    refine s_mDig h (fun _ => bX12_digits_4 h.1 (fun _ => ?_) (fun z => absurd z (by decide))) (fun z => absurd ((nd_dg (fun hl => (MS_ch h hl).1)).mpr d) z)
    have main : ∀ n, n ≤ nd B L p - p → ∀ m2, MS B L (p + n) f m2 → Mk m m2 → Go X 2 mX12_digits Q 25 [(0, .ref 535), (1, .int (99999 : Int32)), (2, .int (nI p)), (3, .int (nI (nvF B p (min 5 n))))] [] m2 := by
      refine upTo (P := fun n => ∀ m2, MS B L (p + n) f m2 → Mk m m2 → Go X 2 mX12_digits Q 25 [(0, .ref 535), (1, .int (99999 : Int32)), (2, .int (nI p)), (3, .int (nI (nvF B p (min 5 n))))] [] m2) (nd B L p - p) ?_ ?_
      · intro m2 h2 t2
        have e : p + (nd B L p - p) = nd B L p := by omega
        rw [e] at h2
        have hv := nv_lt (B := B) (L := L) (p := p)
        have stop : ¬ isDg (chI B L (nd B L p)) := fun y => by
          have y := (nd_dg (fun hl => (MS_ch h hl).1)).mp y
          have := nd_st (B := B) (L := L) p (nd B L p - p) (by omega)
          rw [e] at this
          exact y this
        have eq2 : mI m2 535 20 - nI p = nI (nd B L p - p) := by
          rw [h2.2.2.1, ← e, show p + (nd B L p - p) = (nd B L p - p) + p by omega, ← nI_add, Int32.add_sub_cancel, Nat.add_sub_cancel]
        refine bX12_digits_25 h2.1 (s_mDig h2 (fun y => absurd y stop) (fun _ => bX12_digits_29 h2.1 (fun _ z => ?_) (fun _ z _ => ?_) (fun _ _ z => ?_) (fun z => absurd rfl z) (fun z => absurd rfl z)))
        · rw [eq2] at z
          have z := nI_lt' (a := 5) (by decide) (by omega) z
          refine s_fails (k := 1) h2 (fun e => by have := hp e; omega) (by decide) (fun m3 h3 t3 => bX12_digits_93 h3.1 (k m3 _ ?_ (t2.tr t3) (fun _ => rfl)))
          unfold dgF
          rw [if_neg d, if_pos z, show 2 + 8 * p = 1 + 8 * p + 1 by omega]
          exact h3
        · rw [eq2] at z
          have z : ¬ 5 < nd B L p - p := fun w => z (nI_lt (a := 5) w (by omega))
          refine k m2 _ ?_ t2 (fun _ => rfl)
          unfold dgF
          rw [if_neg d, if_neg z]
          by_cases e0 : f = 0
          · rw [if_pos e0]; rw [e0] at h2; exact h2
          · rw [if_neg e0]; exact h2
        · exact absurd (nI_le (b := 99999) (by have : nvF B p (min 5 (nd B L p - p)) < 100000 := hv; omega) (by decide)) z
      · intro n hn ih m2 h2 t2
        have dd := ndD (B := B) (L := L) (L - p) p rfl n (by omega)
        have dg : isDg (chI B L (p + n)) := by rw [ch_in dd.1]; exact (dg_nI (MS_ch h dd.1).1).mpr dd.2
        have e4 : mI m2 535 20 - nI p = nI n := by rw [h2.2.2.1, show p + n = n + p by omega, ← nI_add, Int32.add_sub_cancel]
        have a := MS_at (q := p + (n + 1)) h2 (by omega)
        refine bX12_digits_25 h2.1 (s_mDig h2 (fun _ => bX12_digits_29 h2.1 (fun z => absurd z (by decide)) (fun z => absurd z (by decide)) (fun z => absurd z (by decide)) (fun _ z => ?_) (fun _ z => ?_)) (fun y => absurd dg y))
        · rw [e4] at z
          have z := nI_le' (a := 5) (by decide) (by omega) z
          have := ih _ a.1 (t2.tr a.2)
          rw [show min 5 (n + 1) = min 5 n by omega] at this
          rw [h2.2.2.1, nI_1]
          exact this
        · rw [e4] at z
          have z : n < 5 := Nat.lt_of_not_le fun w => z (nI_le (a := 5) w (by omega))
          refine s_sign h2 (bX12_digits_50 h2.1 ?_)
          have := ih _ a.1 (t2.tr a.2)
          rw [show min 5 (n + 1) = n + 1 by omega] at this
          rw [h2.2.2.1, nI_1, show min 5 n = n by omega, ch_in dd.1, show (10 : Int32) = nI 10 from rfl, nI_mul, nI_add]
          have e5 : nI (10 * nvF B p n + B (p + n)) - (48 : Int32) = nI (nvF B p (n + 1)) := by
            have q : nvF B p (n + 1) = nvF B p n * 10 + B (p + n) - 48 := rfl
            rw [q, show 10 * nvF B p n + B (p + n) = (nvF B p n * 10 + B (p + n) - 48) + 48 by omega, ← nI_add, show (48 : Int32) = nI 48 from rfl, Int32.add_sub_cancel]
          rw [e5]
          exact this
    have h0 := main 0 (Nat.zero_le _) m h Mk.rf
    rw [h.2.2.1]
    exact h0
end T41
