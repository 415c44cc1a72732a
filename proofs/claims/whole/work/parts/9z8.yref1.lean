/-! ===== the reference reads statements: what its cells hold ===== -/
/-- how much of a cell a bank has -/
def bsz (k : Nat) : Nat := [0, 0, 1, 6, 6, 1, 8, 8, 1, 48, 1, 6, 6, 24, 24, 36, 1, 1, 3, 2, 2, 1600, 1600, 6, 8, 6, 6].getD k 0
def inb (k b j : Nat) : Prop := bsz k * b ≤ j ∧ j < bsz k * b + bsz k
/-- what reading may touch; bank b is the one in the making -/
def frG (b : Nat) (S Z : xSt) : Prop := (∀ k j, ¬ (k = 0 ∧ ((2 ≤ j ∧ j ≤ 9) ∨ j = 12 ∨ (39 ≤ j ∧ j ≤ 52))) → ¬ (27 ≤ k ∧ k ≤ 32) → ¬ (2 ≤ k ∧ k ≤ 22 ∧ inb k b j) → Z.1 k j = S.1 k j) ∧ (∀ k j, ¬ (k = 0 ∧ j = 7) → ¬ (23 ≤ k ∧ k ≤ 26 ∧ inb k b j) → Z.2.1 k j = S.2.1 k j) ∧ Z.2.2 = S.2.2
def mI (S : xSt) (b : Nat) (Y : Nat → Nat → Nat) : Prop :=
  (S.1 2 b = nI (Y 2 0) ∧ S.1 5 b = nI (Y 2 1) ∧ S.1 8 b = nI (Y 2 2) ∧ S.1 10 b = nI (Y 2 3)) ∧
  (∀ k, k < Y 2 0 → S.1 3 (6 * b + k) = nI (Y 3 k) ∧ S.1 4 (6 * b + k) = nI (Y 4 k)) ∧
  (∀ t, t < Y 2 1 → S.1 6 (8 * b + t) = nI (Y 5 t) ∧ S.1 7 (8 * b + t) = nI (Y 6 t)) ∧
  (∀ g t, g < Y 2 2 → t < Y 2 1 → S.1 9 (8 * (6 * b + g) + t) = nI (Y 7 (8 * g + t))) ∧
  (∀ j, j < Y 2 3 → S.1 11 (6 * b + j) = nI (Y 8 j) ∧ S.1 12 (6 * b + j) = nI (Y 9 j) ∧ ∀ s, s < Y 9 j → S.1 13 (4 * (6 * b + j) + s) = nI (Y 10 (4 * j + s)) ∧ S.1 14 (4 * (6 * b + j) + s) = nI (Y 11 (4 * j + s))) ∧
  (∀ a c, a < Y 2 0 → c < Y 2 0 → S.1 15 (6 * (6 * b + a) + c) = nI (Y 12 (6 * a + c))) ∧
  (S.1 16 b = nI (Y 0 15) ∧ S.1 17 b = nI (Y 0 16)) ∧ (S.1 18 (3 * b) = nI (Y 0 14) ∧ S.1 18 (3 * b + 1) = nI (Y 0 17) ∧ S.1 18 (3 * b + 2) = nI (Y 0 18)) ∧ mN S b Y
def mRl (S : xSt) (b : Nat) (Y : Nat → Nat → Nat) : Prop :=
  (Y 14 3 < Y 14 4 → S.1 19 (2 * b + 1) = nI (Y 14 3) ∧ S.1 20 (2 * b + 1) = nI (Y 14 4)) ∧ (¬ Y 14 3 < Y 14 4 → S.1 19 (2 * b + 1) = qm1) ∧
  (Y 14 5 < Y 14 6 → S.1 19 (2 * b) = nI (Y 14 5) ∧ S.1 20 (2 * b) = nI (Y 14 6)) ∧ (¬ Y 14 5 < Y 14 6 → S.1 19 (2 * b) = qm1)
def mkM (S : xSt) (b : Nat) (f : Nat → Nat) (L e : Nat) (Y : Nat → Nat → Nat) (cc : List (Nat × Nat)) : Prop := tkM S f L e ∧ e ≤ L ∧ S.1 0 8 = nI 0 ∧ S.1 0 40 = nI b ∧ S.1 0 39 = nI cc.length ∧ mCode (S.1 21) (S.1 22) (1600 * b) cc ∧ cc.length ≤ e ∧ mI S b Y ∧ mRl S b Y
section Q9z8
variable {S Z V W : xSt} {n L e m o b d t k a s w lo hi j r kd pl : Nat} {u : Option Nat} {f : Nat → Nat} {cc mc wc : List (Nat × Nat)} {Y Y' : Nat → Nat → Nat}
theorem frG_refl : frG b S S := ⟨fun _ _ _ _ _ => rfl, fun _ _ _ _ => rfl, rfl⟩
theorem frG_trans (h1 : frG b S Z) (h2 : frG b Z V) : frG b S V := ⟨fun k j x y z => (h2.1 k j x y z).trans (h1.1 k j x y z), fun k j x y => (h2.2.1 k j x y).trans (h1.2.1 k j x y), h2.2.2.trans h1.2.2⟩
theorem frG_M (h : frM S Z) : frG b S Z := ⟨fun k j x y z => h.1 k j (by omega), fun k j x y => h.2.1 k j x, h.2.2⟩
theorem frG_N (h : frN b S Z) : frG b S Z := ⟨fun k j x y z => h.1 k j (by omega) y (fun hh => z (by
  rcases hh.1 with h1 | h1
  · subst h1; exact ⟨by decide, by decide, by unfold inb; show 1600 * b ≤ j ∧ j < 1600 * b + 1600; omega⟩
  · subst h1; exact ⟨by decide, by decide, by unfold inb; show 1600 * b ≤ j ∧ j < 1600 * b + 1600; omega⟩)), fun k j x y => h.2.1 k j x, h.2.2⟩
theorem frG_fl : frG b S (flR S kd pl) := ⟨fun k j x y z => by unfold flR; rw [quI_k (by omega), quI_k (by omega)], fun _ _ _ _ => rfl, rfl⟩
theorem frG_up {x : Int32} (hk : 2 ≤ k ∧ k ≤ 22) (hj : inb k b j) : frG b S (xuI S k j x) := ⟨fun k' j' a1 a2 a3 => quI_k (fun hh => a3 (by rw [hh.1, hh.2]; exact ⟨hk.1, hk.2, hj⟩)), fun _ _ _ _ => rfl, rfl⟩
theorem frG_0 {x : Int32} (hj : 39 ≤ j ∧ j ≤ 52) : frG b S (xuI S 0 j x) := ⟨fun k' j' a1 a2 a3 => quI_k (by omega), fun _ _ _ _ => rfl, rfl⟩
theorem frG_upL {x : Int64} (hk : 23 ≤ k ∧ k ≤ 26) (hj : inb k b j) : frG b S (xuL S k j x) := ⟨fun _ _ _ _ _ => rfl, fun k' j' a1 a2 => by
  show (xuL S k j x).2.1 k' j' = _
  unfold xuL
  simp only
  by_cases h1 : k' = k
  · by_cases h2 : j' = j
    · exact absurd (by rw [h1, h2]; exact ⟨hk.1, hk.2, hj⟩) a2
    · rw [if_pos h1, if_neg h2]
  · rw [if_neg h1], rfl⟩
theorem m_many2 (hb : b < 2) (h : S.1 2 b = nI (Y 2 0) ∧ S.1 5 b = nI (Y 2 1) ∧ S.1 8 b = nI (Y 2 2) ∧ S.1 10 b = nI (Y 2 3)) (hs : s < 4) : fX12_manyOf 0 (nI b) (nI s) S = some (nI (Y 2 s)) := by
  obtain ⟨e0, e1, e2, e3⟩ := h
  rcases (by omega : s = 0 ∨ s = 1 ∨ s = 2 ∨ s = 3) with rfl | rfl | rfl | rfl
  · simp (disch := (first | assumption | omega | exact hB _ _ | exact hYB _ _ | (simp only [yc, yd, sh, sv, ne_eq]; omega) | (simp (disch := omega) only [↓nm_1, ↓nm_2, nI_add, pk_mul, pk_sub, Nat.add_sub_cancel, qm1_add, qm2_add, nI_clamp, ni_0, ni_1, ni_2, e0]; refine qin_nI ?_ ?_ <;> first | omega | exact hB _ _ | exact hYB _ _) | (refine qin_nI ?_ ?_ <;> omega) | fail)) only [↓km0_gd, ↓km0_gI, ↓km0_gM, ↓km0_pI, ↓km0_pM, ↓km0_pZ, ↓km0_gL, ↓km0_pL, ↓km0_gF14, ↓km0_gF17, ↓km0_gF20, ↓km0_gF22, ↓km2_al, ↓km2_as, ↓km2_ln, ↓km5_al, ↓km5_as, ↓km5_ln, ↓km8_al, ↓km8_as, ↓km8_ln, ↓km10_al, ↓km10_as, ↓km10_ln, ↓qb_so, ↓nm_1, ↓nm_2, ↓reduceIte, if_true, if_false, not_true_eq_false, not_false_eq_true, and_true, true_and, and_false, false_and, or_true, true_or, or_false, false_or, eq_self, ne_eq, quI_s, quI_n, quI2, quL1, quL2, quL3, quR1, quR2, quR3, nI_add, pk_mul, pk_sub, Nat.add_sub_cancel, qm1_add, qm2_add, nI_leI, nI_ltI, nI_eq, nI_m1, nI_m1', nI_clamp, nI_bit, nI_one_shl, nI_m1l, nI_m1lt, nI_m1lt', nI_m1le', oI_some, oI_none, ni_0, ni_1, ni_2, fX12_manyOf, qle_t, qle_f, qlt_t, qlt_f, qeq_t, qeq_f, e0]
  · simp (disch := (first | assumption | omega | exact hB _ _ | exact hYB _ _ | (simp only [yc, yd, sh, sv, ne_eq]; omega) | (simp (disch := omega) only [↓nm_1, ↓nm_2, nI_add, pk_mul, pk_sub, Nat.add_sub_cancel, qm1_add, qm2_add, nI_clamp, ni_0, ni_1, ni_2, e1]; refine qin_nI ?_ ?_ <;> first | omega | exact hB _ _ | exact hYB _ _) | (refine qin_nI ?_ ?_ <;> omega) | fail)) only [↓km0_gd, ↓km0_gI, ↓km0_gM, ↓km0_pI, ↓km0_pM, ↓km0_pZ, ↓km0_gL, ↓km0_pL, ↓km0_gF14, ↓km0_gF17, ↓km0_gF20, ↓km0_gF22, ↓km2_al, ↓km2_as, ↓km2_ln, ↓km5_al, ↓km5_as, ↓km5_ln, ↓km8_al, ↓km8_as, ↓km8_ln, ↓km10_al, ↓km10_as, ↓km10_ln, ↓qb_so, ↓nm_1, ↓nm_2, ↓reduceIte, if_true, if_false, not_true_eq_false, not_false_eq_true, and_true, true_and, and_false, false_and, or_true, true_or, or_false, false_or, eq_self, ne_eq, quI_s, quI_n, quI2, quL1, quL2, quL3, quR1, quR2, quR3, nI_add, pk_mul, pk_sub, Nat.add_sub_cancel, qm1_add, qm2_add, nI_leI, nI_ltI, nI_eq, nI_m1, nI_m1', nI_clamp, nI_bit, nI_one_shl, nI_m1l, nI_m1lt, nI_m1lt', nI_m1le', oI_some, oI_none, ni_0, ni_1, ni_2, fX12_manyOf, qle_t, qle_f, qlt_t, qlt_f, qeq_t, qeq_f, e1]
  · simp (disch := (first | assumption | omega | exact hB _ _ | exact hYB _ _ | (simp only [yc, yd, sh, sv, ne_eq]; omega) | (simp (disch := omega) only [↓nm_1, ↓nm_2, nI_add, pk_mul, pk_sub, Nat.add_sub_cancel, qm1_add, qm2_add, nI_clamp, ni_0, ni_1, ni_2, e2]; refine qin_nI ?_ ?_ <;> first | omega | exact hB _ _ | exact hYB _ _) | (refine qin_nI ?_ ?_ <;> omega) | fail)) only [↓km0_gd, ↓km0_gI, ↓km0_gM, ↓km0_pI, ↓km0_pM, ↓km0_pZ, ↓km0_gL, ↓km0_pL, ↓km0_gF14, ↓km0_gF17, ↓km0_gF20, ↓km0_gF22, ↓km2_al, ↓km2_as, ↓km2_ln, ↓km5_al, ↓km5_as, ↓km5_ln, ↓km8_al, ↓km8_as, ↓km8_ln, ↓km10_al, ↓km10_as, ↓km10_ln, ↓qb_so, ↓nm_1, ↓nm_2, ↓reduceIte, if_true, if_false, not_true_eq_false, not_false_eq_true, and_true, true_and, and_false, false_and, or_true, true_or, or_false, false_or, eq_self, ne_eq, quI_s, quI_n, quI2, quL1, quL2, quL3, quR1, quR2, quR3, nI_add, pk_mul, pk_sub, Nat.add_sub_cancel, qm1_add, qm2_add, nI_leI, nI_ltI, nI_eq, nI_m1, nI_m1', nI_clamp, nI_bit, nI_one_shl, nI_m1l, nI_m1lt, nI_m1lt', nI_m1le', oI_some, oI_none, ni_0, ni_1, ni_2, fX12_manyOf, qle_t, qle_f, qlt_t, qlt_f, qeq_t, qeq_f, e2]
  · simp (disch := (first | assumption | omega | exact hB _ _ | exact hYB _ _ | (simp only [yc, yd, sh, sv, ne_eq]; omega) | (simp (disch := omega) only [↓nm_1, ↓nm_2, nI_add, pk_mul, pk_sub, Nat.add_sub_cancel, qm1_add, qm2_add, nI_clamp, ni_0, ni_1, ni_2, e3]; refine qin_nI ?_ ?_ <;> first | omega | exact hB _ _ | exact hYB _ _) | (refine qin_nI ?_ ?_ <;> omega) | fail)) only [↓km0_gd, ↓km0_gI, ↓km0_gM, ↓km0_pI, ↓km0_pM, ↓km0_pZ, ↓km0_gL, ↓km0_pL, ↓km0_gF14, ↓km0_gF17, ↓km0_gF20, ↓km0_gF22, ↓km2_al, ↓km2_as, ↓km2_ln, ↓km5_al, ↓km5_as, ↓km5_ln, ↓km8_al, ↓km8_as, ↓km8_ln, ↓km10_al, ↓km10_as, ↓km10_ln, ↓qb_so, ↓nm_1, ↓nm_2, ↓reduceIte, if_true, if_false, not_true_eq_false, not_false_eq_true, and_true, true_and, and_false, false_and, or_true, true_or, or_false, false_or, eq_self, ne_eq, quI_s, quI_n, quI2, quL1, quL2, quL3, quR1, quR2, quR3, nI_add, pk_mul, pk_sub, Nat.add_sub_cancel, qm1_add, qm2_add, nI_leI, nI_ltI, nI_eq, nI_m1, nI_m1', nI_clamp, nI_bit, nI_one_shl, nI_m1l, nI_m1lt, nI_m1lt', nI_m1le', oI_some, oI_none, ni_0, ni_1, ni_2, fX12_manyOf, qle_t, qle_f, qlt_t, qlt_f, qeq_t, qeq_f, e3]
theorem m_nmdL (hb : b < 2) (hY : yrOk Y) (hn : yJn Y) (hs : s < 4) (h40 : S.1 0 40 = nI b) (hI : mI S b Y) (hw : s_nmOk w) (hw2 : w < 2 ^ 30) : ∀ (k i q : Nat), i + k = Y 2 s → k < q → fX12_named_L3 n 0 (nI s) (lN (s_long w)) S q (nI i) = some (match s_fdL Y s w k i with | none => .inl () | some x => .inr (nI x))
  | 0, i, q, hi, hq => by
    obtain ⟨q, rfl⟩ : ∃ q', q = q' + 1 := ⟨q - 1, by omega⟩
    have e1 := m_many2 hb hI.1 hs
    have hB := hY.2.2.2.2.2.2.2.2.2.2.2.1 2 s
    have hi' : Y 2 s ≤ i := by omega
    show fX12_named_L3b n 0 (nI s) (lN (s_long w)) S _ (nI i) = some (.inl ())
    simp (disch := (first | assumption | omega | exact hB _ _ | exact hYB _ _ | (simp only [yc, yd, sh, sv, ne_eq]; omega) | (simp (disch := omega) only [↓nm_1, ↓nm_2, nI_add, pk_mul, pk_sub, Nat.add_sub_cancel, qm1_add, qm2_add, nI_clamp, ni_0, ni_1, h40, e1, hi']; refine qin_nI ?_ ?_ <;> first | omega | exact hB _ _ | exact hYB _ _) | (refine qin_nI ?_ ?_ <;> omega) | fail)) only [↓km0_gd, ↓km0_gI, ↓km0_gM, ↓km0_pI, ↓km0_pM, ↓km0_pZ, ↓km0_gL, ↓km0_pL, ↓qb_so, ↓nm_1, ↓nm_2, ↓reduceIte, if_true, if_false, not_true_eq_false, not_false_eq_true, and_true, true_and, and_false, false_and, or_true, true_or, or_false, false_or, eq_self, ne_eq, quI_s, quI_n, quI2, quL1, quL2, quL3, quR1, quR2, quR3, nI_add, pk_mul, pk_sub, Nat.add_sub_cancel, qm1_add, qm2_add, nI_leI, nI_ltI, nI_eq, nI_m1, nI_m1', nI_clamp, nI_bit, nI_one_shl, nI_m1l, nI_m1lt, nI_m1lt', nI_m1le', oI_some, oI_none, ni_0, ni_1, fX12_named_L3b, qle_t, qle_f, qlt_t, qlt_f, qeq_t, qeq_f, h40, e1, hi']
  | k + 1, i, q, hi, hq => by
    obtain ⟨q, rfl⟩ : ∃ q', q = q' + 1 := ⟨q - 1, by omega⟩
    have ih := m_nmdL hb hY hn hs h40 hI hw hw2 k (i + 1) q (by omega) (by omega)
    have e1 := m_many2 hb hI.1 hs
    have hB := hY.2.2.2.2.2.2.2.2.2.2.2.1 2 s
    have hi' : ¬ Y 2 s ≤ i := by omega
    have e2 := m_nm (s := s) (i := i) hb hI.2.2.2.2.2.2.2.2 hY hs (by omega)
    obtain ⟨n1, n2⟩ := hn.2.2 s i hs (by omega)
    have key : lg_cmp (lN (s_long (Y 1 (8 * s + i)))) (lN (s_long w)) = nI 0 ↔ Y 1 (8 * s + i) = w := by
      rw [lgc_eq, pk_lEQ (s_long_lt n1) (s_long_lt hw)]
      constructor
      · intro hh; exact w_inj n2 hw2 n1 hw hh
      · intro hh; rw [hh]
    show fX12_named_L3b n 0 (nI s) (lN (s_long w)) S _ (nI i) = some _
    unfold s_fdL
    by_cases hx : Y 1 (8 * s + i) = w
    · rw [if_pos hx]
      have hk := key.mpr hx
      simp (disch := (first | assumption | omega | exact hB _ _ | exact hYB _ _ | (simp only [yc, yd, sh, sv, ne_eq]; omega) | (simp (disch := omega) only [↓nm_1, ↓nm_2, nI_add, pk_mul, pk_sub, Nat.add_sub_cancel, qm1_add, qm2_add, nI_clamp, ni_0, ni_1, h40, e1, hi', e2, hk]; refine qin_nI ?_ ?_ <;> first | omega | exact hB _ _ | exact hYB _ _) | (refine qin_nI ?_ ?_ <;> omega) | fail)) only [↓km0_gd, ↓km0_gI, ↓km0_gM, ↓km0_pI, ↓km0_pM, ↓km0_pZ, ↓km0_gL, ↓km0_pL, ↓qb_so, ↓nm_1, ↓nm_2, ↓reduceIte, if_true, if_false, not_true_eq_false, not_false_eq_true, and_true, true_and, and_false, false_and, or_true, true_or, or_false, false_or, eq_self, ne_eq, quI_s, quI_n, quI2, quL1, quL2, quL3, quR1, quR2, quR3, nI_add, pk_mul, pk_sub, Nat.add_sub_cancel, qm1_add, qm2_add, nI_leI, nI_ltI, nI_eq, nI_m1, nI_m1', nI_clamp, nI_bit, nI_one_shl, nI_m1l, nI_m1lt, nI_m1lt', nI_m1le', oI_some, oI_none, ni_0, ni_1, fX12_named_L3b, qle_t, qle_f, qlt_t, qlt_f, qeq_t, qeq_f, h40, e1, hi', e2, hk]
    · rw [if_neg hx]
      have hk := mt key.mp hx
      simp (disch := (first | assumption | omega | exact hB _ _ | exact hYB _ _ | (simp only [yc, yd, sh, sv, ne_eq]; omega) | (simp (disch := omega) only [↓nm_1, ↓nm_2, nI_add, pk_mul, pk_sub, Nat.add_sub_cancel, qm1_add, qm2_add, nI_clamp, ni_0, ni_1, h40, e1, hi', e2, hk, ih]; refine qin_nI ?_ ?_ <;> first | omega | exact hB _ _ | exact hYB _ _) | (refine qin_nI ?_ ?_ <;> omega) | fail)) only [↓km0_gd, ↓km0_gI, ↓km0_gM, ↓km0_pI, ↓km0_pM, ↓km0_pZ, ↓km0_gL, ↓km0_pL, ↓qb_so, ↓nm_1, ↓nm_2, ↓reduceIte, if_true, if_false, not_true_eq_false, not_false_eq_true, and_true, true_and, and_false, false_and, or_true, true_or, or_false, false_or, eq_self, ne_eq, quI_s, quI_n, quI2, quL1, quL2, quL3, quR1, quR2, quR3, nI_add, pk_mul, pk_sub, Nat.add_sub_cancel, qm1_add, qm2_add, nI_leI, nI_ltI, nI_eq, nI_m1, nI_m1', nI_clamp, nI_bit, nI_one_shl, nI_m1l, nI_m1lt, nI_m1lt', nI_m1le', oI_some, oI_none, ni_0, ni_1, fX12_named_L3b, qle_t, qle_f, qlt_t, qlt_f, qeq_t, qeq_f, h40, e1, hi', e2, hk, ih]
theorem m_nmd (hN : 2000 ≤ n) (hb : b < 2) (hY : yrOk Y) (hn : yJn Y) (hs : s < 4) (h40 : S.1 0 40 = nI b) (hI : mI S b Y) (hw : s_nmOk w) (hw2 : w < 2 ^ 30) : fX12_named n 0 (nI s) (lN (s_long w)) S = some (oI (s_fd Y s w)) := by
  have h8 : Y 2 s ≤ 8 := by
    obtain ⟨a0, a1, a2, a3⟩ := hY.1
    rcases (by omega : s = 0 ∨ s = 1 ∨ s = 2 ∨ s = 3) with rfl | rfl | rfl | rfl <;> omega
  have e1 := m_nmdL (n := n) hb hY hn hs h40 hI hw hw2 (Y 2 s) 0 n (by omega) (by omega)
  unfold s_fd
  cases hx : s_fdL Y s w (Y 2 s) 0 with
  | none =>
    rw [hx] at e1
    simp (disch := (first | assumption | omega | exact hB _ _ | exact hYB _ _ | (simp only [yc, yd, sh, sv, ne_eq]; omega) | (simp (disch := omega) only [↓nm_1, ↓nm_2, nI_add, pk_mul, pk_sub, Nat.add_sub_cancel, qm1_add, qm2_add, nI_clamp, ni_0, ni_1, e1]; refine qin_nI ?_ ?_ <;> first | omega | exact hB _ _ | exact hYB _ _) | (refine qin_nI ?_ ?_ <;> omega) | fail)) only [↓km0_gd, ↓km0_gI, ↓km0_gM, ↓km0_pI, ↓km0_pM, ↓km0_pZ, ↓km0_gL, ↓km0_pL, ↓qb_so, ↓nm_1, ↓nm_2, ↓reduceIte, if_true, if_false, not_true_eq_false, not_false_eq_true, and_true, true_and, and_false, false_and, or_true, true_or, or_false, false_or, eq_self, ne_eq, quI_s, quI_n, quI2, quL1, quL2, quL3, quR1, quR2, quR3, nI_add, pk_mul, pk_sub, Nat.add_sub_cancel, qm1_add, qm2_add, nI_leI, nI_ltI, nI_eq, nI_m1, nI_m1', nI_clamp, nI_bit, nI_one_shl, nI_m1l, nI_m1lt, nI_m1lt', nI_m1le', oI_some, oI_none, ni_0, ni_1, fX12_named, qle_t, qle_f, qlt_t, qlt_f, qeq_t, qeq_f, e1]
    rfl
  | some x =>
    rw [hx] at e1
    simp (disch := (first | assumption | omega | exact hB _ _ | exact hYB _ _ | (simp only [yc, yd, sh, sv, ne_eq]; omega) | (simp (disch := omega) only [↓nm_1, ↓nm_2, nI_add, pk_mul, pk_sub, Nat.add_sub_cancel, qm1_add, qm2_add, nI_clamp, ni_0, ni_1, e1]; refine qin_nI ?_ ?_ <;> first | omega | exact hB _ _ | exact hYB _ _) | (refine qin_nI ?_ ?_ <;> omega) | fail)) only [↓km0_gd, ↓km0_gI, ↓km0_gM, ↓km0_pI, ↓km0_pM, ↓km0_pZ, ↓km0_gL, ↓km0_pL, ↓qb_so, ↓nm_1, ↓nm_2, ↓reduceIte, if_true, if_false, not_true_eq_false, not_false_eq_true, and_true, true_and, and_false, false_and, or_true, true_or, or_false, false_or, eq_self, ne_eq, quI_s, quI_n, quI2, quL1, quL2, quL3, quR1, quR2, quR3, nI_add, pk_mul, pk_sub, Nat.add_sub_cancel, qm1_add, qm2_add, nI_leI, nI_ltI, nI_eq, nI_m1, nI_m1', nI_clamp, nI_bit, nI_one_shl, nI_m1l, nI_m1lt, nI_m1lt', nI_m1le', oI_some, oI_none, ni_0, ni_1, fX12_named, qle_t, qle_f, qlt_t, qlt_f, qeq_t, qeq_f, e1]
    rfl
theorem m_ownX (x : Int64) : ∃ v, v ≤ 1 ∧ fX12_isOwn 0 x S = some (nI v) := by
  unfold fX12_isOwn
  rw [if_pos (by rfl)]
  by_cases h0 : lg_cmp x (1802071652 : Int64) = 0
  · exact ⟨1, by decide, by rw [if_pos h0]; rfl⟩
  rw [if_neg h0]
  by_cases h1 : lg_cmp x (491328337011 : Int64) = 0
  · exact ⟨1, by decide, by rw [if_pos h1]; rfl⟩
  rw [if_neg h1]
  by_cases h2 : lg_cmp x (28518 : Int64) = 0
  · exact ⟨1, by decide, by rw [if_pos h2]; rfl⟩
  rw [if_neg h2]
  by_cases h3 : lg_cmp x (1953460076 : Int64) = 0
  · exact ⟨1, by decide, by rw [if_pos h3]; rfl⟩
  rw [if_neg h3]
  by_cases h4 : lg_cmp x (26995 : Int64) = 0
  · exact ⟨1, by decide, by rw [if_pos h4]; rfl⟩
  rw [if_neg h4]
  by_cases h5 : lg_cmp x (2003792494 : Int64) = 0
  · exact ⟨1, by decide, by rw [if_pos h5]; rfl⟩
  rw [if_neg h5]
  by_cases h6 : lg_cmp x (1751215716 : Int64) = 0
  · exact ⟨1, by decide, by rw [if_pos h6]; rfl⟩
  rw [if_neg h6]
  by_cases h7 : lg_cmp x (461414299507 : Int64) = 0
  · exact ⟨1, by decide, by rw [if_pos h7]; rfl⟩
  rw [if_neg h7]
  by_cases h8 : lg_cmp x (6975330 : Int64) = 0
  · exact ⟨1, by decide, by rw [if_pos h8]; rfl⟩
  rw [if_neg h8]
  by_cases h9 : lg_cmp x (25209 : Int64) = 0
  · exact ⟨1, by decide, by rw [if_pos h9]; rfl⟩
  rw [if_neg h9]
  by_cases h10 : lg_cmp x (1685022067 : Int64) = 0
  · exact ⟨1, by decide, by rw [if_pos h10]; rfl⟩
  rw [if_neg h10]
  by_cases h11 : lg_cmp x (126879549252979 : Int64) = 0
  · exact ⟨1, by decide, by rw [if_pos h11]; rfl⟩
  rw [if_neg h11]
  by_cases h12 : lg_cmp x (6713202 : Int64) = 0
  · exact ⟨1, by decide, by rw [if_pos h12]; rfl⟩
  rw [if_neg h12]
  by_cases h13 : lg_cmp x (24948 : Int64) = 0
  · exact ⟨1, by decide, by rw [if_pos h13]; rfl⟩
  rw [if_neg h13]
  by_cases h14 : lg_cmp x (7168377 : Int64) = 0
  · exact ⟨1, by decide, by rw [if_pos h14]; rfl⟩
  rw [if_neg h14]
  by_cases h15 : lg_cmp x (512801993331 : Int64) = 0
  · exact ⟨1, by decide, by rw [if_pos h15]; rfl⟩
  rw [if_neg h15]
  by_cases h16 : lg_cmp x (108243466677107 : Int64) = 0
  · exact ⟨1, by decide, by rw [if_pos h16]; rfl⟩
  rw [if_neg h16]
  by_cases h17 : lg_cmp x (495756866664 : Int64) = 0
  · exact ⟨1, by decide, by rw [if_pos h17]; rfl⟩
  rw [if_neg h17]
  by_cases h18 : lg_cmp x (1718185573 : Int64) = 0
  · exact ⟨1, by decide, by rw [if_pos h18]; rfl⟩
  rw [if_neg h18]
  by_cases h19 : lg_cmp x (440006570868 : Int64) = 0
  · exact ⟨1, by decide, by rw [if_pos h19]; rfl⟩
  rw [if_neg h19]
  by_cases h20 : lg_cmp x (1919251316 : Int64) = 0
  · exact ⟨1, by decide, by rw [if_pos h20]; rfl⟩
  rw [if_neg h20]
  by_cases h21 : lg_cmp x (448546566771 : Int64) = 0
  · exact ⟨1, by decide, by rw [if_pos h21]; rfl⟩
  rw [if_neg h21]
  by_cases h22 : lg_cmp x (6578553 : Int64) = 0
  · exact ⟨1, by decide, by rw [if_pos h22]; rfl⟩
  rw [if_neg h22]
  by_cases h23 : lg_cmp x (1818326117 : Int64) = 0
  · exact ⟨1, by decide, by rw [if_pos h23]; rfl⟩
  rw [if_neg h23]
  by_cases h24 : lg_cmp x (1970496868 : Int64) = 0
  · exact ⟨1, by decide, by rw [if_pos h24]; rfl⟩
  rw [if_neg h24]
  by_cases h25 : lg_cmp x (26982 : Int64) = 0
  · exact ⟨1, by decide, by rw [if_pos h25]; rfl⟩
  rw [if_neg h25]
  by_cases h26 : lg_cmp x (28530 : Int64) = 0
  · exact ⟨1, by decide, by rw [if_pos h26]; rfl⟩
  rw [if_neg h26]
  by_cases h27 : lg_cmp x (6385252 : Int64) = 0
  · exact ⟨1, by decide, by rw [if_pos h27]; rfl⟩
  rw [if_neg h27]
  by_cases h28 : lg_cmp x (7237492 : Int64) = 0
  · exact ⟨1, by decide, by rw [if_pos h28]; rfl⟩
  rw [if_neg h28]
  by_cases h29 : lg_cmp x (6384748 : Int64) = 0
  · exact ⟨1, by decide, by rw [if_pos h29]; rfl⟩
  rw [if_neg h29]
  by_cases h30 : lg_cmp x (7170414 : Int64) = 0
  · exact ⟨1, by decide, by rw [if_pos h30]; rfl⟩
  rw [if_neg h30]
  by_cases h31 : lg_cmp x (7168376 : Int64) = 0
  · exact ⟨1, by decide, by rw [if_pos h31]; rfl⟩
  rw [if_neg h31]
  exact ⟨0, by decide, rfl⟩
theorem m_ownF {x : Int64} (h : ∀ k, k < 32 → x ≠ lN (s_oc k)) : fX12_isOwn 0 x S = some (nI 0) := by
  unfold fX12_isOwn
  rw [if_pos (by rfl)]
  rw [if_neg (show ¬ (lg_cmp x (1802071652 : Int64) = 0) from fun hh => h 0 (by decide) ((lgc_eq x (1802071652 : Int64)).mp hh))]
  rw [if_neg (show ¬ (lg_cmp x (491328337011 : Int64) = 0) from fun hh => h 1 (by decide) ((lgc_eq x (491328337011 : Int64)).mp hh))]
  rw [if_neg (show ¬ (lg_cmp x (28518 : Int64) = 0) from fun hh => h 2 (by decide) ((lgc_eq x (28518 : Int64)).mp hh))]
  rw [if_neg (show ¬ (lg_cmp x (1953460076 : Int64) = 0) from fun hh => h 3 (by decide) ((lgc_eq x (1953460076 : Int64)).mp hh))]
  rw [if_neg (show ¬ (lg_cmp x (26995 : Int64) = 0) from fun hh => h 4 (by decide) ((lgc_eq x (26995 : Int64)).mp hh))]
  rw [if_neg (show ¬ (lg_cmp x (2003792494 : Int64) = 0) from fun hh => h 5 (by decide) ((lgc_eq x (2003792494 : Int64)).mp hh))]
  rw [if_neg (show ¬ (lg_cmp x (1751215716 : Int64) = 0) from fun hh => h 6 (by decide) ((lgc_eq x (1751215716 : Int64)).mp hh))]
  rw [if_neg (show ¬ (lg_cmp x (461414299507 : Int64) = 0) from fun hh => h 7 (by decide) ((lgc_eq x (461414299507 : Int64)).mp hh))]
  rw [if_neg (show ¬ (lg_cmp x (6975330 : Int64) = 0) from fun hh => h 8 (by decide) ((lgc_eq x (6975330 : Int64)).mp hh))]
  rw [if_neg (show ¬ (lg_cmp x (25209 : Int64) = 0) from fun hh => h 9 (by decide) ((lgc_eq x (25209 : Int64)).mp hh))]
  rw [if_neg (show ¬ (lg_cmp x (1685022067 : Int64) = 0) from fun hh => h 10 (by decide) ((lgc_eq x (1685022067 : Int64)).mp hh))]
  rw [if_neg (show ¬ (lg_cmp x (126879549252979 : Int64) = 0) from fun hh => h 11 (by decide) ((lgc_eq x (126879549252979 : Int64)).mp hh))]
  rw [if_neg (show ¬ (lg_cmp x (6713202 : Int64) = 0) from fun hh => h 12 (by decide) ((lgc_eq x (6713202 : Int64)).mp hh))]
  rw [if_neg (show ¬ (lg_cmp x (24948 : Int64) = 0) from fun hh => h 13 (by decide) ((lgc_eq x (24948 : Int64)).mp hh))]
  rw [if_neg (show ¬ (lg_cmp x (7168377 : Int64) = 0) from fun hh => h 14 (by decide) ((lgc_eq x (7168377 : Int64)).mp hh))]
  rw [if_neg (show ¬ (lg_cmp x (512801993331 : Int64) = 0) from fun hh => h 15 (by decide) ((lgc_eq x (512801993331 : Int64)).mp hh))]
  rw [if_neg (show ¬ (lg_cmp x (108243466677107 : Int64) = 0) from fun hh => h 16 (by decide) ((lgc_eq x (108243466677107 : Int64)).mp hh))]
  rw [if_neg (show ¬ (lg_cmp x (495756866664 : Int64) = 0) from fun hh => h 17 (by decide) ((lgc_eq x (495756866664 : Int64)).mp hh))]
  rw [if_neg (show ¬ (lg_cmp x (1718185573 : Int64) = 0) from fun hh => h 18 (by decide) ((lgc_eq x (1718185573 : Int64)).mp hh))]
  rw [if_neg (show ¬ (lg_cmp x (440006570868 : Int64) = 0) from fun hh => h 19 (by decide) ((lgc_eq x (440006570868 : Int64)).mp hh))]
  rw [if_neg (show ¬ (lg_cmp x (1919251316 : Int64) = 0) from fun hh => h 20 (by decide) ((lgc_eq x (1919251316 : Int64)).mp hh))]
  rw [if_neg (show ¬ (lg_cmp x (448546566771 : Int64) = 0) from fun hh => h 21 (by decide) ((lgc_eq x (448546566771 : Int64)).mp hh))]
  rw [if_neg (show ¬ (lg_cmp x (6578553 : Int64) = 0) from fun hh => h 22 (by decide) ((lgc_eq x (6578553 : Int64)).mp hh))]
  rw [if_neg (show ¬ (lg_cmp x (1818326117 : Int64) = 0) from fun hh => h 23 (by decide) ((lgc_eq x (1818326117 : Int64)).mp hh))]
  rw [if_neg (show ¬ (lg_cmp x (1970496868 : Int64) = 0) from fun hh => h 24 (by decide) ((lgc_eq x (1970496868 : Int64)).mp hh))]
  rw [if_neg (show ¬ (lg_cmp x (26982 : Int64) = 0) from fun hh => h 25 (by decide) ((lgc_eq x (26982 : Int64)).mp hh))]
  rw [if_neg (show ¬ (lg_cmp x (28530 : Int64) = 0) from fun hh => h 26 (by decide) ((lgc_eq x (28530 : Int64)).mp hh))]
  rw [if_neg (show ¬ (lg_cmp x (6385252 : Int64) = 0) from fun hh => h 27 (by decide) ((lgc_eq x (6385252 : Int64)).mp hh))]
  rw [if_neg (show ¬ (lg_cmp x (7237492 : Int64) = 0) from fun hh => h 28 (by decide) ((lgc_eq x (7237492 : Int64)).mp hh))]
  rw [if_neg (show ¬ (lg_cmp x (6384748 : Int64) = 0) from fun hh => h 29 (by decide) ((lgc_eq x (6384748 : Int64)).mp hh))]
  rw [if_neg (show ¬ (lg_cmp x (7170414 : Int64) = 0) from fun hh => h 30 (by decide) ((lgc_eq x (7170414 : Int64)).mp hh))]
  rw [if_neg (show ¬ (lg_cmp x (7168376 : Int64) = 0) from fun hh => h 31 (by decide) ((lgc_eq x (7168376 : Int64)).mp hh))]
  rfl
theorem m_ownT {x : Int64} (hk : k < 32) (hx : x = lN (s_oc k)) : fX12_isOwn 0 x S = some (nI 1) := by
  obtain ⟨v, v1, v2⟩ := m_ownX (S := S) x
  rcases (by omega : v = 0 ∨ v = 1) with rfl | rfl
  · exfalso
    revert v2
    subst hx
    revert k
    have hall : (List.range 32).all (fun k => decide (fX12_isOwn 0 (lN (s_oc k)) S = some (nI 1))) = true := by rfl
    intro k hk h2
    have := List.all_eq_true.mp hall k (List.mem_range.mpr hk)
    rw [of_decide_eq_true this] at h2
    revert h2
    decide
  · exact v2
end Q9z8

