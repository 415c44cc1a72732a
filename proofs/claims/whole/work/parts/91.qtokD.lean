/-! ===== the reference reads a token ===== -/
def txM (S : xSt) (f : Nat → Nat) (L : Nat) : Prop := (∀ i, i < 1600 → S.1 1 i = nI (f i)) ∧ S.1 0 2 = nI L ∧ L ≤ 1600 ∧ (∀ i, f i < 256) ∧ S.1 0 9 = qm1
def frM (S Z : xSt) : Prop := (∀ k j, ¬ (k = 0 ∧ ((3 ≤ j ∧ j ≤ 6) ∨ j = 12)) → Z.1 k j = S.1 k j) ∧ (∀ k j, ¬ (k = 0 ∧ j = 7) → Z.2.1 k j = S.2.1 k j) ∧ Z.2.2 = S.2.2
def tkM (S : xSt) (f : Nat → Nat) (L e : Nat) : Prop := txM S f L ∧ S.1 0 3 = nI (kT f L e) ∧ S.1 0 4 = nI (kS f L e) ∧ S.1 0 5 = nI (kE f L e) ∧ S.1 0 12 = oI (kW f L e) ∧ (kT f L e = 2 ∨ kT f L e = 3 → S.1 0 6 = nI (kV f L e)) ∧ (kT f L e = 1 → S.2.1 0 7 = lN (s_wd f (kS f L e) (kM f L e 6) 0 0))
section Q91
variable {S Z V : xSt} {n L e : Nat} {f : Nat → Nat}
theorem frM_refl : frM S S := ⟨fun _ _ _ => rfl, fun _ _ _ => rfl, rfl⟩
theorem frM_trans (h1 : frM S Z) (h2 : frM Z V) : frM S V := ⟨fun k j hk => (h2.1 k j hk).trans (h1.1 k j hk), fun k j hk => (h2.2.1 k j hk).trans (h1.2.1 k j hk), h2.2.2.trans h1.2.2⟩
theorem frM_up {j : Nat} {x : Int32} (h : (3 ≤ j ∧ j ≤ 6) ∨ j = 12) : frM S (xuI S 0 j x) := ⟨fun k j' hk => quI_k (by omega), fun _ _ _ => rfl, rfl⟩
theorem frM_upL {x : Int64} : frM S (xuL S 0 7 x) := ⟨fun _ _ _ => rfl, fun k j hk => by
  rw [quL2]
  by_cases h1 : k = 0
  · rw [if_pos h1, if_neg (fun e => hk ⟨h1, e⟩)]
  · rw [if_neg h1], rfl⟩
theorem txM_fr (h : txM S f L) (hf : frM S Z) : txM Z f L := ⟨fun i hi => by rw [hf.1 1 i (by omega)]; exact h.1 i hi, by rw [hf.1 0 2 (by omega)]; exact h.2.1, h.2.2.1, h.2.2.2.1, by rw [hf.1 0 9 (by omega)]; exact h.2.2.2.2⟩
theorem m_isL {c : Nat} (hc : c < 256) : fX12_isLetter (nI c) S = some (nI (if isL c = true then 1 else 0)) := by
  by_cases h1 : c < 97
  · rw [if_neg (fun hh => by have := isL_iff.mp hh; omega)]
    simp (disch := (first | assumption | omega | exact hB _ _ | exact hYB _ _ | (simp only [yc, yd, sh, sv, ne_eq]; omega) | (simp (disch := omega) only [↓nm_1, ↓nm_2, nI_add, pk_mul, pk_sub, Nat.add_sub_cancel, qm1_add, qm2_add, nI_clamp, ni_0, ni_1, ni_97, ni_122, h1]; refine qin_nI ?_ ?_ <;> first | omega | exact hB _ _ | exact hYB _ _) | (refine qin_nI ?_ ?_ <;> omega) | fail)) only [↓km0_gd, ↓km0_gI, ↓km0_gM, ↓km0_pI, ↓km0_pM, ↓km0_pZ, ↓km0_gL, ↓km0_pL, ↓qb_so, ↓nm_1, ↓nm_2, ↓reduceIte, if_true, if_false, not_true_eq_false, not_false_eq_true, and_true, true_and, and_false, false_and, or_true, true_or, or_false, false_or, eq_self, ne_eq, quI_s, quI_n, quI2, quL1, quL2, quL3, quR1, quR2, quR3, nI_add, pk_mul, pk_sub, Nat.add_sub_cancel, qm1_add, qm2_add, nI_leI, nI_ltI, nI_eq, nI_m1, nI_m1', nI_clamp, nI_bit, nI_one_shl, nI_m1l, nI_m1lt, nI_m1lt', nI_m1le', oI_some, oI_none, ni_0, ni_1, ni_97, ni_122, fX12_isLetter, qle_t, qle_f, qlt_t, qlt_f, qeq_t, qeq_f, h1]
  · by_cases h2 : 122 < c
    · rw [if_neg (fun hh => by have := isL_iff.mp hh; omega)]
      simp (disch := (first | assumption | omega | exact hB _ _ | exact hYB _ _ | (simp only [yc, yd, sh, sv, ne_eq]; omega) | (simp (disch := omega) only [↓nm_1, ↓nm_2, nI_add, pk_mul, pk_sub, Nat.add_sub_cancel, qm1_add, qm2_add, nI_clamp, ni_0, ni_1, ni_97, ni_122, h1, h2]; refine qin_nI ?_ ?_ <;> first | omega | exact hB _ _ | exact hYB _ _) | (refine qin_nI ?_ ?_ <;> omega) | fail)) only [↓km0_gd, ↓km0_gI, ↓km0_gM, ↓km0_pI, ↓km0_pM, ↓km0_pZ, ↓km0_gL, ↓km0_pL, ↓qb_so, ↓nm_1, ↓nm_2, ↓reduceIte, if_true, if_false, not_true_eq_false, not_false_eq_true, and_true, true_and, and_false, false_and, or_true, true_or, or_false, false_or, eq_self, ne_eq, quI_s, quI_n, quI2, quL1, quL2, quL3, quR1, quR2, quR3, nI_add, pk_mul, pk_sub, Nat.add_sub_cancel, qm1_add, qm2_add, nI_leI, nI_ltI, nI_eq, nI_m1, nI_m1', nI_clamp, nI_bit, nI_one_shl, nI_m1l, nI_m1lt, nI_m1lt', nI_m1le', oI_some, oI_none, ni_0, ni_1, ni_97, ni_122, fX12_isLetter, qle_t, qle_f, qlt_t, qlt_f, qeq_t, qeq_f, h1, h2]
    · rw [if_pos (isL_iff.mpr (by omega))]
      simp (disch := (first | assumption | omega | exact hB _ _ | exact hYB _ _ | (simp only [yc, yd, sh, sv, ne_eq]; omega) | (simp (disch := omega) only [↓nm_1, ↓nm_2, nI_add, pk_mul, pk_sub, Nat.add_sub_cancel, qm1_add, qm2_add, nI_clamp, ni_0, ni_1, ni_97, ni_122, h1, h2]; refine qin_nI ?_ ?_ <;> first | omega | exact hB _ _ | exact hYB _ _) | (refine qin_nI ?_ ?_ <;> omega) | fail)) only [↓km0_gd, ↓km0_gI, ↓km0_gM, ↓km0_pI, ↓km0_pM, ↓km0_pZ, ↓km0_gL, ↓km0_pL, ↓qb_so, ↓nm_1, ↓nm_2, ↓reduceIte, if_true, if_false, not_true_eq_false, not_false_eq_true, and_true, true_and, and_false, false_and, or_true, true_or, or_false, false_or, eq_self, ne_eq, quI_s, quI_n, quI2, quL1, quL2, quL3, quR1, quR2, quR3, nI_add, pk_mul, pk_sub, Nat.add_sub_cancel, qm1_add, qm2_add, nI_leI, nI_ltI, nI_eq, nI_m1, nI_m1', nI_clamp, nI_bit, nI_one_shl, nI_m1l, nI_m1lt, nI_m1lt', nI_m1le', oI_some, oI_none, ni_0, ni_1, ni_97, ni_122, fX12_isLetter, qle_t, qle_f, qlt_t, qlt_f, qeq_t, qeq_f, h1, h2]
theorem m_isG {c : Nat} (hc : c < 256) : fX12_isDigit (nI c) S = some (nI (if isG c = true then 1 else 0)) := by
  by_cases h1 : c < 48
  · rw [if_neg (fun hh => by have := isG_iff.mp hh; omega)]
    simp (disch := (first | assumption | omega | exact hB _ _ | exact hYB _ _ | (simp only [yc, yd, sh, sv, ne_eq]; omega) | (simp (disch := omega) only [↓nm_1, ↓nm_2, nI_add, pk_mul, pk_sub, Nat.add_sub_cancel, qm1_add, qm2_add, nI_clamp, ni_0, ni_1, ni_48, ni_57, h1]; refine qin_nI ?_ ?_ <;> first | omega | exact hB _ _ | exact hYB _ _) | (refine qin_nI ?_ ?_ <;> omega) | fail)) only [↓km0_gd, ↓km0_gI, ↓km0_gM, ↓km0_pI, ↓km0_pM, ↓km0_pZ, ↓km0_gL, ↓km0_pL, ↓qb_so, ↓nm_1, ↓nm_2, ↓reduceIte, if_true, if_false, not_true_eq_false, not_false_eq_true, and_true, true_and, and_false, false_and, or_true, true_or, or_false, false_or, eq_self, ne_eq, quI_s, quI_n, quI2, quL1, quL2, quL3, quR1, quR2, quR3, nI_add, pk_mul, pk_sub, Nat.add_sub_cancel, qm1_add, qm2_add, nI_leI, nI_ltI, nI_eq, nI_m1, nI_m1', nI_clamp, nI_bit, nI_one_shl, nI_m1l, nI_m1lt, nI_m1lt', nI_m1le', oI_some, oI_none, ni_0, ni_1, ni_48, ni_57, fX12_isDigit, qle_t, qle_f, qlt_t, qlt_f, qeq_t, qeq_f, h1]
  · by_cases h2 : 57 < c
    · rw [if_neg (fun hh => by have := isG_iff.mp hh; omega)]
      simp (disch := (first | assumption | omega | exact hB _ _ | exact hYB _ _ | (simp only [yc, yd, sh, sv, ne_eq]; omega) | (simp (disch := omega) only [↓nm_1, ↓nm_2, nI_add, pk_mul, pk_sub, Nat.add_sub_cancel, qm1_add, qm2_add, nI_clamp, ni_0, ni_1, ni_48, ni_57, h1, h2]; refine qin_nI ?_ ?_ <;> first | omega | exact hB _ _ | exact hYB _ _) | (refine qin_nI ?_ ?_ <;> omega) | fail)) only [↓km0_gd, ↓km0_gI, ↓km0_gM, ↓km0_pI, ↓km0_pM, ↓km0_pZ, ↓km0_gL, ↓km0_pL, ↓qb_so, ↓nm_1, ↓nm_2, ↓reduceIte, if_true, if_false, not_true_eq_false, not_false_eq_true, and_true, true_and, and_false, false_and, or_true, true_or, or_false, false_or, eq_self, ne_eq, quI_s, quI_n, quI2, quL1, quL2, quL3, quR1, quR2, quR3, nI_add, pk_mul, pk_sub, Nat.add_sub_cancel, qm1_add, qm2_add, nI_leI, nI_ltI, nI_eq, nI_m1, nI_m1', nI_clamp, nI_bit, nI_one_shl, nI_m1l, nI_m1lt, nI_m1lt', nI_m1le', oI_some, oI_none, ni_0, ni_1, ni_48, ni_57, fX12_isDigit, qle_t, qle_f, qlt_t, qlt_f, qeq_t, qeq_f, h1, h2]
    · rw [if_pos (isG_iff.mpr (by omega))]
      simp (disch := (first | assumption | omega | exact hB _ _ | exact hYB _ _ | (simp only [yc, yd, sh, sv, ne_eq]; omega) | (simp (disch := omega) only [↓nm_1, ↓nm_2, nI_add, pk_mul, pk_sub, Nat.add_sub_cancel, qm1_add, qm2_add, nI_clamp, ni_0, ni_1, ni_48, ni_57, h1, h2]; refine qin_nI ?_ ?_ <;> first | omega | exact hB _ _ | exact hYB _ _) | (refine qin_nI ?_ ?_ <;> omega) | fail)) only [↓km0_gd, ↓km0_gI, ↓km0_gM, ↓km0_pI, ↓km0_pM, ↓km0_pZ, ↓km0_gL, ↓km0_pL, ↓qb_so, ↓nm_1, ↓nm_2, ↓reduceIte, if_true, if_false, not_true_eq_false, not_false_eq_true, and_true, true_and, and_false, false_and, or_true, true_or, or_false, false_or, eq_self, ne_eq, quI_s, quI_n, quI2, quL1, quL2, quL3, quR1, quR2, quR3, nI_add, pk_mul, pk_sub, Nat.add_sub_cancel, qm1_add, qm2_add, nI_leI, nI_ltI, nI_eq, nI_m1, nI_m1', nI_clamp, nI_bit, nI_one_shl, nI_m1l, nI_m1lt, nI_m1lt', nI_m1le', oI_some, oI_none, ni_0, ni_1, ni_48, ni_57, fX12_isDigit, qle_t, qle_f, qlt_t, qlt_f, qeq_t, qeq_f, h1, h2]
theorem m_skL (ht : txM S f L) : ∀ (k q a : Nat), L ≤ a + k → k < q → a ≤ 1600 → fX12_ahead_L5 n 0 q (nI a) S = some (nI (s_sk f L k a), S)
  | 0, q, a, hk, hq, ha => by
    obtain ⟨q, rfl⟩ : ∃ q', q = q' + 1 := ⟨q - 1, by omega⟩
    have h2 := ht.2.1
    have hL := ht.2.2.1
    have hl : L ≤ a := by omega
    show fX12_ahead_L5b _ _ _ _ _ = some (nI a, S)
    simp (disch := (first | assumption | omega | exact hB _ _ | exact hYB _ _ | (simp only [yc, yd, sh, sv, ne_eq]; omega) | (simp (disch := omega) only [↓nm_1, ↓nm_2, nI_add, pk_mul, pk_sub, Nat.add_sub_cancel, qm1_add, qm2_add, nI_clamp, ni_0, ni_1, ni_10, ni_32, h2, hl]; refine qin_nI ?_ ?_ <;> first | omega | exact hB _ _ | exact hYB _ _) | (refine qin_nI ?_ ?_ <;> omega) | fail)) only [↓km0_gd, ↓km0_gI, ↓km0_gM, ↓km0_pI, ↓km0_pM, ↓km0_pZ, ↓km0_gL, ↓km0_pL, ↓km0_gF0, ↓km1_al, ↓km1_as, ↓km1_ln, ↓qb_so, ↓nm_1, ↓nm_2, ↓reduceIte, if_true, if_false, not_true_eq_false, not_false_eq_true, and_true, true_and, and_false, false_and, or_true, true_or, or_false, false_or, eq_self, ne_eq, quI_s, quI_n, quI2, quL1, quL2, quL3, quR1, quR2, quR3, nI_add, pk_mul, pk_sub, Nat.add_sub_cancel, qm1_add, qm2_add, nI_leI, nI_ltI, nI_eq, nI_m1, nI_m1', nI_clamp, nI_bit, nI_one_shl, nI_m1l, nI_m1lt, nI_m1lt', nI_m1le', oI_some, oI_none, ni_0, ni_1, ni_10, ni_32, fX12_ahead_L5b, qle_t, qle_f, qlt_t, qlt_f, qeq_t, qeq_f, h2, hl]
  | k + 1, q, a, hk, hq, ha => by
    obtain ⟨q, rfl⟩ : ∃ q', q = q' + 1 := ⟨q - 1, by omega⟩
    have h2 := ht.2.1
    have hL := ht.2.2.1
    have hf := ht.2.2.2.1 a
    show fX12_ahead_L5b _ _ _ _ _ = _
    unfold s_sk
    by_cases hl : a < L
    · have h1 := ht.1 a (by omega)
      have hl2 : ¬ L ≤ a := by omega
      have IH := m_skL ht k q (a + 1) (by omega) (by omega) (by omega)
      rw [if_pos hl]
      by_cases h32 : f a = 32
      · rw [if_pos h32]
        simp (disch := (first | assumption | omega | exact hB _ _ | exact hYB _ _ | (simp only [yc, yd, sh, sv, ne_eq]; omega) | (simp (disch := omega) only [↓nm_1, ↓nm_2, nI_add, pk_mul, pk_sub, Nat.add_sub_cancel, qm1_add, qm2_add, nI_clamp, ni_0, ni_1, ni_10, ni_32, h2, hl2, h1, h32, IH]; refine qin_nI ?_ ?_ <;> first | omega | exact hB _ _ | exact hYB _ _) | (refine qin_nI ?_ ?_ <;> omega) | fail)) only [↓km0_gd, ↓km0_gI, ↓km0_gM, ↓km0_pI, ↓km0_pM, ↓km0_pZ, ↓km0_gL, ↓km0_pL, ↓km0_gF0, ↓km1_al, ↓km1_as, ↓km1_ln, ↓qb_so, ↓nm_1, ↓nm_2, ↓reduceIte, if_true, if_false, not_true_eq_false, not_false_eq_true, and_true, true_and, and_false, false_and, or_true, true_or, or_false, false_or, eq_self, ne_eq, quI_s, quI_n, quI2, quL1, quL2, quL3, quR1, quR2, quR3, nI_add, pk_mul, pk_sub, Nat.add_sub_cancel, qm1_add, qm2_add, nI_leI, nI_ltI, nI_eq, nI_m1, nI_m1', nI_clamp, nI_bit, nI_one_shl, nI_m1l, nI_m1lt, nI_m1lt', nI_m1le', oI_some, oI_none, ni_0, ni_1, ni_10, ni_32, fX12_ahead_L5b, qle_t, qle_f, qlt_t, qlt_f, qeq_t, qeq_f, h2, hl2, h1, h32, IH]
      · rw [if_neg h32]
        by_cases h10 : f a = 10
        · rw [if_pos h10]
          simp (disch := (first | assumption | omega | exact hB _ _ | exact hYB _ _ | (simp only [yc, yd, sh, sv, ne_eq]; omega) | (simp (disch := omega) only [↓nm_1, ↓nm_2, nI_add, pk_mul, pk_sub, Nat.add_sub_cancel, qm1_add, qm2_add, nI_clamp, ni_0, ni_1, ni_10, ni_32, h2, hl2, h1, h32, h10, IH]; refine qin_nI ?_ ?_ <;> first | omega | exact hB _ _ | exact hYB _ _) | (refine qin_nI ?_ ?_ <;> omega) | fail)) only [↓km0_gd, ↓km0_gI, ↓km0_gM, ↓km0_pI, ↓km0_pM, ↓km0_pZ, ↓km0_gL, ↓km0_pL, ↓km0_gF0, ↓km1_al, ↓km1_as, ↓km1_ln, ↓qb_so, ↓nm_1, ↓nm_2, ↓reduceIte, if_true, if_false, not_true_eq_false, not_false_eq_true, and_true, true_and, and_false, false_and, or_true, true_or, or_false, false_or, eq_self, ne_eq, quI_s, quI_n, quI2, quL1, quL2, quL3, quR1, quR2, quR3, nI_add, pk_mul, pk_sub, Nat.add_sub_cancel, qm1_add, qm2_add, nI_leI, nI_ltI, nI_eq, nI_m1, nI_m1', nI_clamp, nI_bit, nI_one_shl, nI_m1l, nI_m1lt, nI_m1lt', nI_m1le', oI_some, oI_none, ni_0, ni_1, ni_10, ni_32, fX12_ahead_L5b, qle_t, qle_f, qlt_t, qlt_f, qeq_t, qeq_f, h2, hl2, h1, h32, h10, IH]
        · rw [if_neg h10]
          simp (disch := (first | assumption | omega | exact hB _ _ | exact hYB _ _ | (simp only [yc, yd, sh, sv, ne_eq]; omega) | (simp (disch := omega) only [↓nm_1, ↓nm_2, nI_add, pk_mul, pk_sub, Nat.add_sub_cancel, qm1_add, qm2_add, nI_clamp, ni_0, ni_1, ni_10, ni_32, h2, hl2, h1, h32, h10]; refine qin_nI ?_ ?_ <;> first | omega | exact hB _ _ | exact hYB _ _) | (refine qin_nI ?_ ?_ <;> omega) | fail)) only [↓km0_gd, ↓km0_gI, ↓km0_gM, ↓km0_pI, ↓km0_pM, ↓km0_pZ, ↓km0_gL, ↓km0_pL, ↓km0_gF0, ↓km1_al, ↓km1_as, ↓km1_ln, ↓qb_so, ↓nm_1, ↓nm_2, ↓reduceIte, if_true, if_false, not_true_eq_false, not_false_eq_true, and_true, true_and, and_false, false_and, or_true, true_or, or_false, false_or, eq_self, ne_eq, quI_s, quI_n, quI2, quL1, quL2, quL3, quR1, quR2, quR3, nI_add, pk_mul, pk_sub, Nat.add_sub_cancel, qm1_add, qm2_add, nI_leI, nI_ltI, nI_eq, nI_m1, nI_m1', nI_clamp, nI_bit, nI_one_shl, nI_m1l, nI_m1lt, nI_m1lt', nI_m1le', oI_some, oI_none, ni_0, ni_1, ni_10, ni_32, fX12_ahead_L5b, qle_t, qle_f, qlt_t, qlt_f, qeq_t, qeq_f, h2, hl2, h1, h32, h10]
    · rw [if_neg hl]
      have hl2 : L ≤ a := by omega
      simp (disch := (first | assumption | omega | exact hB _ _ | exact hYB _ _ | (simp only [yc, yd, sh, sv, ne_eq]; omega) | (simp (disch := omega) only [↓nm_1, ↓nm_2, nI_add, pk_mul, pk_sub, Nat.add_sub_cancel, qm1_add, qm2_add, nI_clamp, ni_0, ni_1, ni_10, ni_32, h2, hl2]; refine qin_nI ?_ ?_ <;> first | omega | exact hB _ _ | exact hYB _ _) | (refine qin_nI ?_ ?_ <;> omega) | fail)) only [↓km0_gd, ↓km0_gI, ↓km0_gM, ↓km0_pI, ↓km0_pM, ↓km0_pZ, ↓km0_gL, ↓km0_pL, ↓km0_gF0, ↓km1_al, ↓km1_as, ↓km1_ln, ↓qb_so, ↓nm_1, ↓nm_2, ↓reduceIte, if_true, if_false, not_true_eq_false, not_false_eq_true, and_true, true_and, and_false, false_and, or_true, true_or, or_false, false_or, eq_self, ne_eq, quI_s, quI_n, quI2, quL1, quL2, quL3, quR1, quR2, quR3, nI_add, pk_mul, pk_sub, Nat.add_sub_cancel, qm1_add, qm2_add, nI_leI, nI_ltI, nI_eq, nI_m1, nI_m1', nI_clamp, nI_bit, nI_one_shl, nI_m1l, nI_m1lt, nI_m1lt', nI_m1le', oI_some, oI_none, ni_0, ni_1, ni_10, ni_32, fX12_ahead_L5b, qle_t, qle_f, qlt_t, qlt_f, qeq_t, qeq_f, h2, hl2]
theorem s_wd_lt : ∀ (k i w s : Nat), i + k ≤ 6 → (∀ x, f x < 256) → w < 256 ^ i → s_wd f s k i w < 256 ^ (i + k)
  | 0, i, w, s, _, _, h => h
  | k + 1, i, w, s, hk, hl, h => by
    unfold s_wd
    have hc := hl (s + i)
    have := s_wd_lt k (i + 1) (w * 256 + f (s + i)) s (by omega) hl (by rw [Nat.pow_succ]; omega)
    rw [show i + (k + 1) = i + 1 + k by omega]
    exact this
theorem lN_bv (w : Nat) : (lN w).toBitVec = BitVec.ofNat 64 w := rfl
theorem lN_cat {w c : Nat} (hw : w < 2 ^ 40) (hc : c < 256) : (lN w <<< ((nI 8).toInt64 &&& 63)) ||| (nI c).toInt64 = lN (w * 256 + c) := by
  have ec : (nI c).toInt64 = lN c := nI_l (by omega)
  have e8 : (nI 8).toInt64 &&& 63 = 8 := by decide
  rw [e8, ec]
  apply Int64.toBitVec_inj.mp
  show ((lN w).toBitVec <<< ((8 : Int64).toBitVec.smod 64)) ||| (lN c).toBitVec = (lN (w * 256 + c)).toBitVec
  rw [lN_bv, lN_bv, lN_bv]
  apply BitVec.eq_of_toNat_eq
  have e9 : ((8 : Int64).toBitVec.smod 64) = 8#64 := by decide
  rw [e9, BitVec.toNat_or, BitVec.toNat_ofNat, BitVec.toNat_ofNat]
  have e10 : (BitVec.ofNat 64 w <<< 8#64).toNat = w * 256 := by
    rw [BitVec.shiftLeft_eq', BitVec.toNat_shiftLeft, BitVec.toNat_ofNat, Nat.mod_eq_of_lt (show w < 2 ^ 64 by omega)]
    show (w <<< 8) % 2 ^ 64 = _
    rw [Nat.shiftLeft_eq, Nat.mod_eq_of_lt (by omega)]
  rw [e10, Nat.mod_eq_of_lt (by omega : c < 2 ^ 64), Nat.mod_eq_of_lt (by omega : w * 256 + c < 2 ^ 64)]
  have := Nat.two_pow_add_eq_or_of_lt (i := 8) (b := c) hc w
  rw [Nat.mul_comm w 256]
  exact this.symm
theorem s_wd_sn {s : Nat} : ∀ (k i w : Nat), s_wd f s (k + 1) i w = s_wd f s k i w * 256 + f (s + i + k)
  | 0, i, w => rfl
  | k + 1, i, w => by
    show s_wd f s (k + 1) (i + 1) (w * 256 + f (s + i)) = _
    rw [s_wd_sn k (i + 1)]
    show _ = s_wd f s k (i + 1) (w * 256 + f (s + i)) * 256 + _
    rw [show s + (i + 1) + k = s + i + (k + 1) by omega]
theorem s_nv_sn {s : Nat} : ∀ (k i w : Nat), s_nv f s (k + 1) i w = s_nv f s k i w * 10 + (f (s + i + k) - 48)
  | 0, i, w => rfl
  | k + 1, i, w => by
    show s_nv f s (k + 1) (i + 1) (w * 10 + (f (s + i) - 48)) = _
    rw [s_nv_sn k (i + 1)]
    show _ = s_nv f s k (i + 1) (w * 10 + (f (s + i) - 48)) * 10 + _
    rw [show s + (i + 1) + k = s + i + (k + 1) by omega]
def mn2 (a m : Nat) : Nat := if a < m then a else m
def s_lx (o : Option Nat) (s m l : Nat) : Option Nat := match o with | some x => some x | none => if m < l then some (s + m) else none
theorem m_wdL {s : Nat} (hs : s ≤ 1600) : ∀ (k i q : Nat) (o : Option Nat) (S : xSt), L ≤ s + i + k → k < q → s + i ≤ 1600 → txM S f L → S.2.1 0 7 = lN (s_wd f s (mn2 i 6) 0 0) → S.1 0 12 = oI o → (∀ x, o = some x → x < 2 ^ 31) → (6 < i → o ≠ none) →
    ∃ Z, fX12_ahead_L204 n 0 (nI 1) (nI 0) (nI 6) q (nI (s + i)) (nI i) S = some (nI (s_end isL f L k (s + i)), Z) ∧ Z.2.1 0 7 = lN (s_wd f s (mn2 (s_end isL f L k (s + i) - s) 6) 0 0) ∧ Z.1 0 12 = oI (s_lx o s 6 (s_end isL f L k (s + i) - s)) ∧ (∀ k j, ¬ (k = 0 ∧ j = 12) → Z.1 k j = S.1 k j) ∧ (∀ k j, ¬ (k = 0 ∧ j = 7) → Z.2.1 k j = S.2.1 k j) ∧ Z.2.2 = S.2.2
  | k, i, q, o, S, hk, hq, hsi, ht, h7, h12, ho, h6 => by
    obtain ⟨q, rfl⟩ : ∃ q', q = q' + 1 := ⟨q - 1, by omega⟩
    have h2 := ht.2.1
    have hL := ht.2.2.1
    have hf := ht.2.2.2.1 (s + i)
    have eg : ∀ j, s + i - s = i := fun _ => by omega
    have elx : s_lx o s 6 i = o := by
      cases o with
      | some x => rfl
      | none =>
        unfold s_lx
        by_cases hi : 6 < i
        · exact absurd rfl (h6 hi)
        · rw [if_neg hi]
    have stop : s_end isL f L k (s + i) = s + i → fX12_ahead_L204b n 0 (nI 1) (nI 0) (nI 6) (fX12_ahead_L204 n 0 (nI 1) (nI 0) (nI 6) q) (nI (s + i)) (nI i) S = some (nI (s + i), S) → ∃ Z, fX12_ahead_L204 n 0 (nI 1) (nI 0) (nI 6) (q + 1) (nI (s + i)) (nI i) S = some (nI (s_end isL f L k (s + i)), Z) ∧ Z.2.1 0 7 = lN (s_wd f s (mn2 (s_end isL f L k (s + i) - s) 6) 0 0) ∧ Z.1 0 12 = oI (s_lx o s 6 (s_end isL f L k (s + i) - s)) ∧ (∀ k j, ¬ (k = 0 ∧ j = 12) → Z.1 k j = S.1 k j) ∧ (∀ k j, ¬ (k = 0 ∧ j = 7) → Z.2.1 k j = S.2.1 k j) ∧ Z.2.2 = S.2.2 := by
      intro a1 a2
      rw [a1, show s + i - s = i by omega, elx]
      exact ⟨S, a2, h7, h12, fun _ _ _ => rfl, fun _ _ _ => rfl, rfl⟩
    by_cases hl : s + i < L
    · have h1 := ht.1 (s + i) (by omega)
      have hl2 : ¬ L ≤ s + i := by omega
      obtain ⟨k, rfl⟩ : ∃ k', k = k' + 1 := ⟨k - 1, by omega⟩
      have e1 := m_isL (S := S) hf
      by_cases hc : isL (f (s + i)) = true
      · rw [if_pos hc] at e1
        have es : s_end isL f L (k + 1) (s + i) = s_end isL f L k (s + (i + 1)) := by
          show (if s + i < L then _ else _) = _
          rw [if_pos hl, if_pos hc]; rfl
        have hge := s_end_ge (p := isL) (f := f) (L := L) k (s + (i + 1))
        -- where it becomes too long
        obtain ⟨S1, o1, s1a, s1b, s1c, ho1, h61, elx2, b243⟩ : ∃ (S1 : xSt) (o1 : Option Nat), S1.1 0 12 = oI o1 ∧ (∀ k j, ¬ (k = 0 ∧ j = 12) → S1.1 k j = S.1 k j) ∧ S1.2 = S.2 ∧ (∀ x, o1 = some x → x < 2 ^ 31) ∧ (6 < i + 1 → o1 ≠ none) ∧ (∀ l, i + 1 ≤ l → s_lx o1 s 6 l = s_lx o s 6 l) ∧ (∀ V, fX12_ahead_B263_204 n (fX12_ahead_L204 n 0 (nI 1) (nI 0) (nI 6) q) 0 (nI (s + i)) (nI 1) (nI 0) (nI 6) (nI i) S1 = V → fX12_ahead_L204b n 0 (nI 1) (nI 0) (nI 6) (fX12_ahead_L204 n 0 (nI 1) (nI 0) (nI 6) q) (nI (s + i)) (nI i) S = V) := by
          by_cases hi : i = 6
          · have h1' : S.1 1 (s + 6) = nI (f (s + 6)) := by rw [← hi]; exact h1
            have e1' : fX12_isLetter (nI (f (s + 6))) S = some (nI 1) := by rw [← hi]; exact e1
            cases ho' : o with
            | none =>
              rw [ho'] at h12
              have h12' : S.1 0 12 = qm1 := h12
              refine ⟨xuI S 0 12 (nI (s + i)), some (s + i), quI_e, fun k j hk => quI_k hk, rfl, fun x hx => by cases hx; omega, fun _ hh => (by cases hh), fun l hl => ?_, fun V hV => ?_⟩
              · unfold s_lx; simp only; rw [if_pos (by omega), hi]
              · rw [← hV]
                simp (disch := (first | assumption | omega | exact hB _ _ | exact hYB _ _ | (simp only [yc, yd, sh, sv, ne_eq]; omega) | (simp (disch := omega) only [↓nm_1, ↓nm_2, nI_add, pk_mul, pk_sub, Nat.add_sub_cancel, qm1_add, qm2_add, nI_clamp, ni_0, ni_1, h2, hl2, hi, h1', e1', h12']; refine qin_nI ?_ ?_ <;> first | omega | exact hB _ _ | exact hYB _ _) | (refine qin_nI ?_ ?_ <;> omega) | fail)) only [↓km0_gd, ↓km0_gI, ↓km0_gM, ↓km0_pI, ↓km0_pM, ↓km0_pZ, ↓km0_gL, ↓km0_pL, ↓km0_gF0, ↓km1_al, ↓km1_as, ↓km1_ln, ↓qb_so, ↓nm_1, ↓nm_2, ↓reduceIte, if_true, if_false, not_true_eq_false, not_false_eq_true, and_true, true_and, and_false, false_and, or_true, true_or, or_false, false_or, eq_self, ne_eq, quI_s, quI_n, quI2, quL1, quL2, quL3, quR1, quR2, quR3, nI_add, pk_mul, pk_sub, Nat.add_sub_cancel, qm1_add, qm2_add, nI_leI, nI_ltI, nI_eq, nI_m1, nI_m1', nI_clamp, nI_bit, nI_one_shl, nI_m1l, nI_m1lt, nI_m1lt', nI_m1le', oI_some, oI_none, ni_0, ni_1, fX12_ahead_L204b, fX12_ahead_B243_204, qle_t, qle_f, qlt_t, qlt_f, qeq_t, qeq_f, h2, hl2, hi, h1', e1', h12']
            | some x =>
              have hx := ho x ho'
              rw [ho'] at h12
              have h12' : S.1 0 12 = nI x := h12
              refine ⟨S, some x, h12, fun _ _ _ => rfl, rfl, fun y hy => by cases hy; exact hx, fun _ hh => (by cases hh), fun l hl => rfl, fun V hV => ?_⟩
              rw [← hV]
              simp (disch := (first | assumption | omega | exact hB _ _ | exact hYB _ _ | (simp only [yc, yd, sh, sv, ne_eq]; omega) | (simp (disch := omega) only [↓nm_1, ↓nm_2, nI_add, pk_mul, pk_sub, Nat.add_sub_cancel, qm1_add, qm2_add, nI_clamp, ni_0, ni_1, h2, hl2, hi, h1', e1', h12']; refine qin_nI ?_ ?_ <;> first | omega | exact hB _ _ | exact hYB _ _) | (refine qin_nI ?_ ?_ <;> omega) | fail)) only [↓km0_gd, ↓km0_gI, ↓km0_gM, ↓km0_pI, ↓km0_pM, ↓km0_pZ, ↓km0_gL, ↓km0_pL, ↓km0_gF0, ↓km1_al, ↓km1_as, ↓km1_ln, ↓qb_so, ↓nm_1, ↓nm_2, ↓reduceIte, if_true, if_false, not_true_eq_false, not_false_eq_true, and_true, true_and, and_false, false_and, or_true, true_or, or_false, false_or, eq_self, ne_eq, quI_s, quI_n, quI2, quL1, quL2, quL3, quR1, quR2, quR3, nI_add, pk_mul, pk_sub, Nat.add_sub_cancel, qm1_add, qm2_add, nI_leI, nI_ltI, nI_eq, nI_m1, nI_m1', nI_clamp, nI_bit, nI_one_shl, nI_m1l, nI_m1lt, nI_m1lt', nI_m1le', oI_some, oI_none, ni_0, ni_1, fX12_ahead_L204b, fX12_ahead_B243_204, qle_t, qle_f, qlt_t, qlt_f, qeq_t, qeq_f, h2, hl2, hi, h1', e1', h12']
          · refine ⟨S, o, h12, fun _ _ _ => rfl, rfl, ho, fun h => h6 (by omega), fun l hl => rfl, fun V hV => ?_⟩
            rw [← hV]
            simp (disch := (first | assumption | omega | exact hB _ _ | exact hYB _ _ | (simp only [yc, yd, sh, sv, ne_eq]; omega) | (simp (disch := omega) only [↓nm_1, ↓nm_2, nI_add, pk_mul, pk_sub, Nat.add_sub_cancel, qm1_add, qm2_add, nI_clamp, ni_0, ni_1, h2, hl2, h1, e1, hi]; refine qin_nI ?_ ?_ <;> first | omega | exact hB _ _ | exact hYB _ _) | (refine qin_nI ?_ ?_ <;> omega) | fail)) only [↓km0_gd, ↓km0_gI, ↓km0_gM, ↓km0_pI, ↓km0_pM, ↓km0_pZ, ↓km0_gL, ↓km0_pL, ↓km0_gF0, ↓km1_al, ↓km1_as, ↓km1_ln, ↓qb_so, ↓nm_1, ↓nm_2, ↓reduceIte, if_true, if_false, not_true_eq_false, not_false_eq_true, and_true, true_and, and_false, false_and, or_true, true_or, or_false, false_or, eq_self, ne_eq, quI_s, quI_n, quI2, quL1, quL2, quL3, quR1, quR2, quR3, nI_add, pk_mul, pk_sub, Nat.add_sub_cancel, qm1_add, qm2_add, nI_leI, nI_ltI, nI_eq, nI_m1, nI_m1', nI_clamp, nI_bit, nI_one_shl, nI_m1l, nI_m1lt, nI_m1lt', nI_m1le', oI_some, oI_none, ni_0, ni_1, fX12_ahead_L204b, fX12_ahead_B243_204, qle_t, qle_f, qlt_t, qlt_f, qeq_t, qeq_f, h2, hl2, h1, e1, hi]
        have g1 : S1.1 1 (s + i) = nI (f (s + i)) := by rw [s1b 1 (s + i) (by omega)]; exact h1
        have g7 : S1.2.1 0 7 = lN (s_wd f s (mn2 i 6) 0 0) := by rw [s1c]; exact h7
        obtain ⟨S2, s2a, s2b, s2c, s2d, b263⟩ : ∃ S2 : xSt, S2.1 = S1.1 ∧ S2.2.1 0 7 = lN (s_wd f s (mn2 (i + 1) 6) 0 0) ∧ (∀ k j, ¬ (k = 0 ∧ j = 7) → S2.2.1 k j = S.2.1 k j) ∧ S2.2.2 = S.2.2 ∧ (∀ V, fX12_ahead_L204 n 0 (nI 1) (nI 0) (nI 6) q (nI (s + i + 1)) (nI (i + 1)) S2 = V → fX12_ahead_B263_204 n (fX12_ahead_L204 n 0 (nI 1) (nI 0) (nI 6) q) 0 (nI (s + i)) (nI 1) (nI 0) (nI 6) (nI i) S1 = V) := by
          by_cases hi : i < 6
          · have hi2 : ¬ 6 ≤ i := by omega
            have ew := s_wd_lt (f := f) i 0 0 s (by omega) ht.2.2.2.1 (by decide)
            rw [Nat.zero_add] at ew
            have ew2 : 256 ^ i ≤ 256 ^ 5 := Nat.pow_le_pow_right (by decide) (by omega)
            have ec := lN_cat (w := s_wd f s i 0 0) (c := f (s + i)) (by omega) hf
            have hm2 : mn2 i 6 = i := by unfold mn2; rw [if_pos hi]
            have hm : mn2 (i + 1) 6 = i + 1 := by unfold mn2; split <;> omega
            rw [hm2] at g7
            refine ⟨xuL S1 0 7 (lN (s_wd f s i 0 0 * 256 + f (s + i))), rfl, ?_, fun k j hk => by rw [frM_upL.2.1 k j hk, s1c], by show S1.2.2 = _; rw [s1c], fun V hV => ?_⟩
            · rw [quL2, if_pos rfl, if_pos rfl, hm, s_wd_sn]; rfl
            · rw [← hV]
              simp (disch := (first | assumption | omega | exact hB _ _ | exact hYB _ _ | (simp only [yc, yd, sh, sv, ne_eq]; omega) | (simp (disch := omega) only [↓nm_1, ↓nm_2, nI_add, pk_mul, pk_sub, Nat.add_sub_cancel, qm1_add, qm2_add, nI_clamp, ni_0, ni_1, ni_8, ni_10, ni_48, hi2, g7, g1, ec]; refine qin_nI ?_ ?_ <;> first | omega | exact hB _ _ | exact hYB _ _) | (refine qin_nI ?_ ?_ <;> omega) | fail)) only [↓km0_gd, ↓km0_gI, ↓km0_gM, ↓km0_pI, ↓km0_pM, ↓km0_pZ, ↓km0_gL, ↓km0_pL, ↓km0_gF0, ↓km1_al, ↓km1_as, ↓km1_ln, ↓qb_so, ↓nm_1, ↓nm_2, ↓reduceIte, if_true, if_false, not_true_eq_false, not_false_eq_true, and_true, true_and, and_false, false_and, or_true, true_or, or_false, false_or, eq_self, ne_eq, quI_s, quI_n, quI2, quL1, quL2, quL3, quR1, quR2, quR3, nI_add, pk_mul, pk_sub, Nat.add_sub_cancel, qm1_add, qm2_add, nI_leI, nI_ltI, nI_eq, nI_m1, nI_m1', nI_clamp, nI_bit, nI_one_shl, nI_m1l, nI_m1lt, nI_m1lt', nI_m1le', oI_some, oI_none, ni_0, ni_1, ni_8, ni_10, ni_48, fX12_ahead_B263_204, fX12_ahead_B293_204, qle_t, qle_f, qlt_t, qlt_f, qeq_t, qeq_f, hi2, g7, g1, ec]
          · have hi2 : 6 ≤ i := by omega
            have hm2 : mn2 i 6 = 6 := by unfold mn2; rw [if_neg hi]
            have hm : mn2 (i + 1) 6 = 6 := by unfold mn2; rw [if_neg (by omega)]
            rw [hm2] at g7
            refine ⟨S1, rfl, by rw [hm]; exact g7, fun k j hk => by rw [s1c], by rw [s1c], fun V hV => ?_⟩
            rw [← hV]
            simp (disch := (first | assumption | omega | exact hB _ _ | exact hYB _ _ | (simp only [yc, yd, sh, sv, ne_eq]; omega) | (simp (disch := omega) only [↓nm_1, ↓nm_2, nI_add, pk_mul, pk_sub, Nat.add_sub_cancel, qm1_add, qm2_add, nI_clamp, ni_0, ni_1, ni_8, ni_10, ni_48, hi2]; refine qin_nI ?_ ?_ <;> first | omega | exact hB _ _ | exact hYB _ _) | (refine qin_nI ?_ ?_ <;> omega) | fail)) only [↓km0_gd, ↓km0_gI, ↓km0_gM, ↓km0_pI, ↓km0_pM, ↓km0_pZ, ↓km0_gL, ↓km0_pL, ↓km0_gF0, ↓km1_al, ↓km1_as, ↓km1_ln, ↓qb_so, ↓nm_1, ↓nm_2, ↓reduceIte, if_true, if_false, not_true_eq_false, not_false_eq_true, and_true, true_and, and_false, false_and, or_true, true_or, or_false, false_or, eq_self, ne_eq, quI_s, quI_n, quI2, quL1, quL2, quL3, quR1, quR2, quR3, nI_add, pk_mul, pk_sub, Nat.add_sub_cancel, qm1_add, qm2_add, nI_leI, nI_ltI, nI_eq, nI_m1, nI_m1', nI_clamp, nI_bit, nI_one_shl, nI_m1l, nI_m1lt, nI_m1lt', nI_m1le', oI_some, oI_none, ni_0, ni_1, ni_8, ni_10, ni_48, fX12_ahead_B263_204, fX12_ahead_B293_204, qle_t, qle_f, qlt_t, qlt_f, qeq_t, qeq_f, hi2]
        have ht2 : txM S2 f L := ⟨fun x hx => by rw [s2a, s1b 1 x (by omega)]; exact ht.1 x hx, by rw [s2a, s1b 0 2 (by omega)]; exact h2, hL, ht.2.2.2.1, by rw [s2a, s1b 0 9 (by omega)]; exact ht.2.2.2.2⟩
        obtain ⟨Z, e2, z1, z2, z3, z4, z5⟩ := m_wdL hs k (i + 1) q o1 S2 (by omega) (by omega) (by omega) ht2 s2b (by rw [s2a]; exact s1a) ho1 h61
        rw [es]
        rw [elx2 _ (by omega)] at z2
        refine ⟨Z, ?_, z1, z2, fun k j hk => by rw [z3 k j hk, s2a, s1b k j hk], fun k j hk => by rw [z4 k j hk, s2c k j hk], by rw [z5, s2d]⟩
        exact b243 _ (b263 _ e2)
      · rw [if_neg hc] at e1
        refine stop (by show (if s + i < L then _ else _) = _; rw [if_pos hl, if_neg hc]) ?_
        simp (disch := (first | assumption | omega | exact hB _ _ | exact hYB _ _ | (simp only [yc, yd, sh, sv, ne_eq]; omega) | (simp (disch := omega) only [↓nm_1, ↓nm_2, nI_add, pk_mul, pk_sub, Nat.add_sub_cancel, qm1_add, qm2_add, nI_clamp, ni_0, ni_1, h2, hl2, h1, e1]; refine qin_nI ?_ ?_ <;> first | omega | exact hB _ _ | exact hYB _ _) | (refine qin_nI ?_ ?_ <;> omega) | fail)) only [↓km0_gd, ↓km0_gI, ↓km0_gM, ↓km0_pI, ↓km0_pM, ↓km0_pZ, ↓km0_gL, ↓km0_pL, ↓km0_gF0, ↓km1_al, ↓km1_as, ↓km1_ln, ↓qb_so, ↓nm_1, ↓nm_2, ↓reduceIte, if_true, if_false, not_true_eq_false, not_false_eq_true, and_true, true_and, and_false, false_and, or_true, true_or, or_false, false_or, eq_self, ne_eq, quI_s, quI_n, quI2, quL1, quL2, quL3, quR1, quR2, quR3, nI_add, pk_mul, pk_sub, Nat.add_sub_cancel, qm1_add, qm2_add, nI_leI, nI_ltI, nI_eq, nI_m1, nI_m1', nI_clamp, nI_bit, nI_one_shl, nI_m1l, nI_m1lt, nI_m1lt', nI_m1le', oI_some, oI_none, ni_0, ni_1, fX12_ahead_L204b, qle_t, qle_f, qlt_t, qlt_f, qeq_t, qeq_f, h2, hl2, h1, e1]
    · have hl2 : L ≤ s + i := by omega
      refine stop ?_ ?_
      · cases k with
        | zero => rfl
        | succ k => show (if s + i < L then _ else _) = _; rw [if_neg hl]
      · simp (disch := (first | assumption | omega | exact hB _ _ | exact hYB _ _ | (simp only [yc, yd, sh, sv, ne_eq]; omega) | (simp (disch := omega) only [↓nm_1, ↓nm_2, nI_add, pk_mul, pk_sub, Nat.add_sub_cancel, qm1_add, qm2_add, nI_clamp, ni_0, ni_1, h2, hl2]; refine qin_nI ?_ ?_ <;> first | omega | exact hB _ _ | exact hYB _ _) | (refine qin_nI ?_ ?_ <;> omega) | fail)) only [↓km0_gd, ↓km0_gI, ↓km0_gM, ↓km0_pI, ↓km0_pM, ↓km0_pZ, ↓km0_gL, ↓km0_pL, ↓km0_gF0, ↓km1_al, ↓km1_as, ↓km1_ln, ↓qb_so, ↓nm_1, ↓nm_2, ↓reduceIte, if_true, if_false, not_true_eq_false, not_false_eq_true, and_true, true_and, and_false, false_and, or_true, true_or, or_false, false_or, eq_self, ne_eq, quI_s, quI_n, quI2, quL1, quL2, quL3, quR1, quR2, quR3, nI_add, pk_mul, pk_sub, Nat.add_sub_cancel, qm1_add, qm2_add, nI_leI, nI_ltI, nI_eq, nI_m1, nI_m1', nI_clamp, nI_bit, nI_one_shl, nI_m1l, nI_m1lt, nI_m1lt', nI_m1le', oI_some, oI_none, ni_0, ni_1, fX12_ahead_L204b, qle_t, qle_f, qlt_t, qlt_f, qeq_t, qeq_f, h2, hl2]
  termination_by k => k
end Q91

