/-! ===== the reference: a layer is copied ===== -/
section Q37
variable {S : xSt} {b n to fm : Nat} {Y D : Nat → Nat → Nat} {mc wc : List (Nat × Nat)} {R row : Nat → Nat}
theorem m_cp50 (ht : to < 22) (hf : fm < 22) (hne : to ≠ fm) : ∀ (k i q : Nat) (S : xSt), i + k = 8 → k < q → ∃ Z, fX12_copies_L50 n 0 (nI to) (nI fm) q (nI i) S = some Z ∧ mFq (fun k j => k = 36 ∧ 8 * to + i ≤ j ∧ j < 8 * to + 8) S Z ∧ ∀ x, i ≤ x → x < 8 → Z.1 36 (8 * to + x) = S.1 36 (8 * fm + x)
  | 0, i, q, S, hk, hq => by
    obtain ⟨q, rfl⟩ : ∃ q', q = q' + 1 := ⟨q - 1, by omega⟩
    refine ⟨S, ?_, mFq_refl, fun x h1 h2 => by omega⟩
    show fX12_copies_L50b _ _ _ _ _ _ _ = _
    simp (disch := (first | assumption | omega | exact hB _ _ | exact hYB _ _ | (simp only [yc, yd, sh, sv, ne_eq]; omega) | (simp (disch := omega) only [↓nm_1, ↓nm_2, nI_add, pk_mul, pk_sub, Nat.add_sub_cancel, qm1_add, qm2_add, nI_clamp, ni_0, ni_1, ni_8]; refine qin_nI ?_ ?_ <;> first | omega | exact hB _ _ | exact hYB _ _) | (refine qin_nI ?_ ?_ <;> omega) | fail)) only [↓km0_gd, ↓km0_gI, ↓km0_gM, ↓km0_pI, ↓km0_pM, ↓km0_pZ, ↓km0_gL, ↓km0_pL, ↓km0_gF56, ↓km36_al, ↓km36_as, ↓km36_ln, ↓qb_so, ↓nm_1, ↓nm_2, ↓reduceIte, if_true, if_false, not_true_eq_false, not_false_eq_true, and_true, true_and, and_false, false_and, or_true, true_or, or_false, false_or, eq_self, ne_eq, quI_s, quI_n, quI2, quL1, quL2, quL3, quR1, quR2, quR3, nI_add, pk_mul, pk_sub, Nat.add_sub_cancel, qm1_add, qm2_add, nI_leI, nI_ltI, nI_eq, nI_m1, nI_m1', nI_clamp, nI_bit, nI_one_shl, nI_m1l, nI_m1lt, nI_m1lt', nI_m1le', oI_some, oI_none, ni_0, ni_1, ni_8, fX12_copies_L50b, qle_t, qle_f, qlt_t, qlt_f, qeq_t, qeq_f]
  | k + 1, i, q, S, hk, hq => by
    obtain ⟨q, rfl⟩ : ∃ q', q = q' + 1 := ⟨q - 1, by omega⟩
    obtain ⟨Z, e, f, hz⟩ := m_cp50 ht hf hne k (i + 1) q (xuI S 36 (8 * to + i) (S.1 36 (8 * fm + i))) (by omega) (by omega)
    refine ⟨Z, ?_, mFq_trans (mFq_upd (by omega)) (mFq_mono f (fun k j h => by omega)), fun x h1 h2 => ?_⟩
    · show fX12_copies_L50b _ _ _ _ _ _ _ = _
      simp (disch := (first | assumption | omega | exact hB _ _ | exact hYB _ _ | (simp only [yc, yd, sh, sv, ne_eq]; omega) | (simp (disch := omega) only [↓nm_1, ↓nm_2, nI_add, pk_mul, pk_sub, Nat.add_sub_cancel, qm1_add, qm2_add, nI_clamp, ni_0, ni_1, ni_8, e]; refine qin_nI ?_ ?_ <;> first | omega | exact hB _ _ | exact hYB _ _) | (refine qin_nI ?_ ?_ <;> omega) | fail)) only [↓km0_gd, ↓km0_gI, ↓km0_gM, ↓km0_pI, ↓km0_pM, ↓km0_pZ, ↓km0_gL, ↓km0_pL, ↓km0_gF56, ↓km36_al, ↓km36_as, ↓km36_ln, ↓qb_so, ↓nm_1, ↓nm_2, ↓reduceIte, if_true, if_false, not_true_eq_false, not_false_eq_true, and_true, true_and, and_false, false_and, or_true, true_or, or_false, false_or, eq_self, ne_eq, quI_s, quI_n, quI2, quL1, quL2, quL3, quR1, quR2, quR3, nI_add, pk_mul, pk_sub, Nat.add_sub_cancel, qm1_add, qm2_add, nI_leI, nI_ltI, nI_eq, nI_m1, nI_m1', nI_clamp, nI_bit, nI_one_shl, nI_m1l, nI_m1lt, nI_m1lt', nI_m1le', oI_some, oI_none, ni_0, ni_1, ni_8, fX12_copies_L50b, qle_t, qle_f, qlt_t, qlt_f, qeq_t, qeq_f, e]
    · by_cases hx : x = i
      · subst hx
        rw [f.1 _ _ (by omega), quI_e]
      · rw [hz x (by omega) h2, quI_k (by omega)]
theorem m_cp86 (ht : to < 22) (hf : fm < 22) (hne : to ≠ fm) : ∀ (k i q : Nat) (S : xSt), i + k = 48 → k < q → ∃ Z, fX12_copies_L86 n 0 (nI to) (nI fm) q (nI i) S = some Z ∧ mFq (fun k j => k = 39 ∧ 48 * to + i ≤ j ∧ j < 48 * to + 48) S Z ∧ ∀ x, i ≤ x → x < 48 → Z.1 39 (48 * to + x) = S.1 39 (48 * fm + x)
  | 0, i, q, S, hk, hq => by
    obtain ⟨q, rfl⟩ : ∃ q', q = q' + 1 := ⟨q - 1, by omega⟩
    refine ⟨S, ?_, mFq_refl, fun x h1 h2 => by omega⟩
    show fX12_copies_L86b _ _ _ _ _ _ _ = _
    simp (disch := (first | assumption | omega | exact hB _ _ | exact hYB _ _ | (simp only [yc, yd, sh, sv, ne_eq]; omega) | (simp (disch := omega) only [↓nm_1, ↓nm_2, nI_add, pk_mul, pk_sub, Nat.add_sub_cancel, qm1_add, qm2_add, nI_clamp, ni_0, ni_1, ni_48]; refine qin_nI ?_ ?_ <;> first | omega | exact hB _ _ | exact hYB _ _) | (refine qin_nI ?_ ?_ <;> omega) | fail)) only [↓km0_gd, ↓km0_gI, ↓km0_gM, ↓km0_pI, ↓km0_pM, ↓km0_pZ, ↓km0_gL, ↓km0_pL, ↓km0_gF59, ↓km39_al, ↓km39_as, ↓km39_ln, ↓qb_so, ↓nm_1, ↓nm_2, ↓reduceIte, if_true, if_false, not_true_eq_false, not_false_eq_true, and_true, true_and, and_false, false_and, or_true, true_or, or_false, false_or, eq_self, ne_eq, quI_s, quI_n, quI2, quL1, quL2, quL3, quR1, quR2, quR3, nI_add, pk_mul, pk_sub, Nat.add_sub_cancel, qm1_add, qm2_add, nI_leI, nI_ltI, nI_eq, nI_m1, nI_m1', nI_clamp, nI_bit, nI_one_shl, nI_m1l, nI_m1lt, nI_m1lt', nI_m1le', oI_some, oI_none, ni_0, ni_1, ni_48, fX12_copies_L86b, qle_t, qle_f, qlt_t, qlt_f, qeq_t, qeq_f]
  | k + 1, i, q, S, hk, hq => by
    obtain ⟨q, rfl⟩ : ∃ q', q = q' + 1 := ⟨q - 1, by omega⟩
    obtain ⟨Z, e, f, hz⟩ := m_cp86 ht hf hne k (i + 1) q (xuI S 39 (48 * to + i) (S.1 39 (48 * fm + i))) (by omega) (by omega)
    refine ⟨Z, ?_, mFq_trans (mFq_upd (by omega)) (mFq_mono f (fun k j h => by omega)), fun x h1 h2 => ?_⟩
    · show fX12_copies_L86b _ _ _ _ _ _ _ = _
      simp (disch := (first | assumption | omega | exact hB _ _ | exact hYB _ _ | (simp only [yc, yd, sh, sv, ne_eq]; omega) | (simp (disch := omega) only [↓nm_1, ↓nm_2, nI_add, pk_mul, pk_sub, Nat.add_sub_cancel, qm1_add, qm2_add, nI_clamp, ni_0, ni_1, ni_48, e]; refine qin_nI ?_ ?_ <;> first | omega | exact hB _ _ | exact hYB _ _) | (refine qin_nI ?_ ?_ <;> omega) | fail)) only [↓km0_gd, ↓km0_gI, ↓km0_gM, ↓km0_pI, ↓km0_pM, ↓km0_pZ, ↓km0_gL, ↓km0_pL, ↓km0_gF59, ↓km39_al, ↓km39_as, ↓km39_ln, ↓qb_so, ↓nm_1, ↓nm_2, ↓reduceIte, if_true, if_false, not_true_eq_false, not_false_eq_true, and_true, true_and, and_false, false_and, or_true, true_or, or_false, false_or, eq_self, ne_eq, quI_s, quI_n, quI2, quL1, quL2, quL3, quR1, quR2, quR3, nI_add, pk_mul, pk_sub, Nat.add_sub_cancel, qm1_add, qm2_add, nI_leI, nI_ltI, nI_eq, nI_m1, nI_m1', nI_clamp, nI_bit, nI_one_shl, nI_m1l, nI_m1lt, nI_m1lt', nI_m1le', oI_some, oI_none, ni_0, ni_1, ni_48, fX12_copies_L86b, qle_t, qle_f, qlt_t, qlt_f, qeq_t, qeq_f, e]
    · by_cases hx : x = i
      · subst hx
        rw [f.1 _ _ (by omega), quI_e]
      · rw [hz x (by omega) h2, quI_k (by omega)]
theorem m_cp122 (ht : to < 22) (hf : fm < 22) (hne : to ≠ fm) : ∀ (k i q : Nat) (S : xSt), i + k = 6 → k < q → ∃ Z, fX12_copies_L122 n 0 (nI to) (nI fm) q (nI i) S = some Z ∧ mFq (fun k j => (k = 40 ∨ k = 41) ∧ 6 * to + i ≤ j ∧ j < 6 * to + 6) S Z ∧ (∀ x, i ≤ x → x < 6 → Z.1 40 (6 * to + x) = S.1 40 (6 * fm + x)) ∧ ∀ x, i ≤ x → x < 6 → Z.1 41 (6 * to + x) = S.1 41 (6 * fm + x)
  | 0, i, q, S, hk, hq => by
    obtain ⟨q, rfl⟩ : ∃ q', q = q' + 1 := ⟨q - 1, by omega⟩
    refine ⟨S, ?_, mFq_refl, fun x h1 h2 => by omega, fun x h1 h2 => by omega⟩
    show fX12_copies_L122b _ _ _ _ _ _ _ = _
    simp (disch := (first | assumption | omega | exact hB _ _ | exact hYB _ _ | (simp only [yc, yd, sh, sv, ne_eq]; omega) | (simp (disch := omega) only [↓nm_1, ↓nm_2, nI_add, pk_mul, pk_sub, Nat.add_sub_cancel, qm1_add, qm2_add, nI_clamp, ni_0, ni_1, ni_6]; refine qin_nI ?_ ?_ <;> first | omega | exact hB _ _ | exact hYB _ _) | (refine qin_nI ?_ ?_ <;> omega) | fail)) only [↓km0_gd, ↓km0_gI, ↓km0_gM, ↓km0_pI, ↓km0_pM, ↓km0_pZ, ↓km0_gL, ↓km0_pL, ↓km0_gF60, ↓km0_gF61, ↓km40_al, ↓km40_as, ↓km40_ln, ↓km41_al, ↓km41_as, ↓km41_ln, ↓qb_so, ↓nm_1, ↓nm_2, ↓reduceIte, if_true, if_false, not_true_eq_false, not_false_eq_true, and_true, true_and, and_false, false_and, or_true, true_or, or_false, false_or, eq_self, ne_eq, quI_s, quI_n, quI2, quL1, quL2, quL3, quR1, quR2, quR3, nI_add, pk_mul, pk_sub, Nat.add_sub_cancel, qm1_add, qm2_add, nI_leI, nI_ltI, nI_eq, nI_m1, nI_m1', nI_clamp, nI_bit, nI_one_shl, nI_m1l, nI_m1lt, nI_m1lt', nI_m1le', oI_some, oI_none, ni_0, ni_1, ni_6, fX12_copies_L122b, qle_t, qle_f, qlt_t, qlt_f, qeq_t, qeq_f]
  | k + 1, i, q, S, hk, hq => by
    obtain ⟨q, rfl⟩ : ∃ q', q = q' + 1 := ⟨q - 1, by omega⟩
    obtain ⟨Z, e, f, hz, hz2⟩ := m_cp122 ht hf hne k (i + 1) q (xuI (xuI S 40 (6 * to + i) (S.1 40 (6 * fm + i))) 41 (6 * to + i) (S.1 41 (6 * fm + i))) (by omega) (by omega)
    refine ⟨Z, ?_, mFq_trans (mFq_trans (mFq_upd (by omega)) (mFq_upd (by omega))) (mFq_mono f (fun k j h => by omega)), fun x h1 h2 => ?_, fun x h1 h2 => ?_⟩
    · show fX12_copies_L122b _ _ _ _ _ _ _ = _
      simp (disch := (first | assumption | omega | exact hB _ _ | exact hYB _ _ | (simp only [yc, yd, sh, sv, ne_eq]; omega) | (simp (disch := omega) only [↓nm_1, ↓nm_2, nI_add, pk_mul, pk_sub, Nat.add_sub_cancel, qm1_add, qm2_add, nI_clamp, ni_0, ni_1, ni_6, e]; refine qin_nI ?_ ?_ <;> first | omega | exact hB _ _ | exact hYB _ _) | (refine qin_nI ?_ ?_ <;> omega) | fail)) only [↓km0_gd, ↓km0_gI, ↓km0_gM, ↓km0_pI, ↓km0_pM, ↓km0_pZ, ↓km0_gL, ↓km0_pL, ↓km0_gF60, ↓km0_gF61, ↓km40_al, ↓km40_as, ↓km40_ln, ↓km41_al, ↓km41_as, ↓km41_ln, ↓qb_so, ↓nm_1, ↓nm_2, ↓reduceIte, if_true, if_false, not_true_eq_false, not_false_eq_true, and_true, true_and, and_false, false_and, or_true, true_or, or_false, false_or, eq_self, ne_eq, quI_s, quI_n, quI2, quL1, quL2, quL3, quR1, quR2, quR3, nI_add, pk_mul, pk_sub, Nat.add_sub_cancel, qm1_add, qm2_add, nI_leI, nI_ltI, nI_eq, nI_m1, nI_m1', nI_clamp, nI_bit, nI_one_shl, nI_m1l, nI_m1lt, nI_m1lt', nI_m1le', oI_some, oI_none, ni_0, ni_1, ni_6, fX12_copies_L122b, qle_t, qle_f, qlt_t, qlt_f, qeq_t, qeq_f, e]
    · by_cases hx : x = i
      · subst hx
        rw [f.1 _ _ (by omega), quI_k (by omega), quI_e]
      · rw [hz x (by omega) h2, quI_k (by omega), quI_k (by omega)]
    · by_cases hx : x = i
      · subst hx
        rw [f.1 _ _ (by omega), quI_e]
      · rw [hz2 x (by omega) h2, quI_k (by omega), quI_k (by omega)]
theorem m_cp192 (ht : to < 22) (hf : fm < 22) (hne : to ≠ fm) {m : Nat} (hm : m ≤ 60) : ∀ (k i q : Nat) (S : xSt), S.1 42 fm = nI m → i + k = 4 * m → k < q → ∃ Z, fX12_copies_L192 n 0 (nI to) (nI fm) q (nI i) S = some Z ∧ mFq (fun k j => k = 43 ∧ 240 * to + i ≤ j ∧ j < 240 * to + 4 * m) S Z ∧ ∀ x, i ≤ x → x < 4 * m → Z.1 43 (240 * to + x) = S.1 43 (240 * fm + x)
  | 0, i, q, S, h42, hk, hq => by
    obtain ⟨q, rfl⟩ : ∃ q', q = q' + 1 := ⟨q - 1, by omega⟩
    refine ⟨S, ?_, mFq_refl, fun x h1 h2 => by omega⟩
    show fX12_copies_L192b _ _ _ _ _ _ _ = _
    simp (disch := (first | assumption | omega | exact hB _ _ | exact hYB _ _ | (simp only [yc, yd, sh, sv, ne_eq]; omega) | (simp (disch := omega) only [↓nm_1, ↓nm_2, nI_add, pk_mul, pk_sub, Nat.add_sub_cancel, qm1_add, qm2_add, nI_clamp, ni_0, ni_1, ni_4, ni_240, h42]; refine qin_nI ?_ ?_ <;> first | omega | exact hB _ _ | exact hYB _ _) | (refine qin_nI ?_ ?_ <;> omega) | fail)) only [↓km0_gd, ↓km0_gI, ↓km0_gM, ↓km0_pI, ↓km0_pM, ↓km0_pZ, ↓km0_gL, ↓km0_pL, ↓km0_gF62, ↓km0_gF63, ↓km42_al, ↓km42_as, ↓km42_ln, ↓km43_al, ↓km43_as, ↓km43_ln, ↓qb_so, ↓nm_1, ↓nm_2, ↓reduceIte, if_true, if_false, not_true_eq_false, not_false_eq_true, and_true, true_and, and_false, false_and, or_true, true_or, or_false, false_or, eq_self, ne_eq, quI_s, quI_n, quI2, quL1, quL2, quL3, quR1, quR2, quR3, nI_add, pk_mul, pk_sub, Nat.add_sub_cancel, qm1_add, qm2_add, nI_leI, nI_ltI, nI_eq, nI_m1, nI_m1', nI_clamp, nI_bit, nI_one_shl, nI_m1l, nI_m1lt, nI_m1lt', nI_m1le', oI_some, oI_none, ni_0, ni_1, ni_4, ni_240, fX12_copies_L192b, qle_t, qle_f, qlt_t, qlt_f, qeq_t, qeq_f, h42]
  | k + 1, i, q, S, h42, hk, hq => by
    obtain ⟨q, rfl⟩ : ∃ q', q = q' + 1 := ⟨q - 1, by omega⟩
    obtain ⟨Z, e, f, hz⟩ := m_cp192 ht hf hne hm k (i + 1) q (xuI S 43 (240 * to + i) (S.1 43 (240 * fm + i))) (by rw [quI_k (by omega)]; exact h42) (by omega) (by omega)
    refine ⟨Z, ?_, mFq_trans (mFq_upd (by omega)) (mFq_mono f (fun k j h => by omega)), fun x h1 h2 => ?_⟩
    · show fX12_copies_L192b _ _ _ _ _ _ _ = _
      simp (disch := (first | assumption | omega | exact hB _ _ | exact hYB _ _ | (simp only [yc, yd, sh, sv, ne_eq]; omega) | (simp (disch := omega) only [↓nm_1, ↓nm_2, nI_add, pk_mul, pk_sub, Nat.add_sub_cancel, qm1_add, qm2_add, nI_clamp, ni_0, ni_1, ni_4, ni_240, h42, e]; refine qin_nI ?_ ?_ <;> first | omega | exact hB _ _ | exact hYB _ _) | (refine qin_nI ?_ ?_ <;> omega) | fail)) only [↓km0_gd, ↓km0_gI, ↓km0_gM, ↓km0_pI, ↓km0_pM, ↓km0_pZ, ↓km0_gL, ↓km0_pL, ↓km0_gF62, ↓km0_gF63, ↓km42_al, ↓km42_as, ↓km42_ln, ↓km43_al, ↓km43_as, ↓km43_ln, ↓qb_so, ↓nm_1, ↓nm_2, ↓reduceIte, if_true, if_false, not_true_eq_false, not_false_eq_true, and_true, true_and, and_false, false_and, or_true, true_or, or_false, false_or, eq_self, ne_eq, quI_s, quI_n, quI2, quL1, quL2, quL3, quR1, quR2, quR3, nI_add, pk_mul, pk_sub, Nat.add_sub_cancel, qm1_add, qm2_add, nI_leI, nI_ltI, nI_eq, nI_m1, nI_m1', nI_clamp, nI_bit, nI_one_shl, nI_m1l, nI_m1lt, nI_m1lt', nI_m1le', oI_some, oI_none, ni_0, ni_1, ni_4, ni_240, fX12_copies_L192b, qle_t, qle_f, qlt_t, qlt_f, qeq_t, qeq_f, h42, e]
    · by_cases hx : x = i
      · subst hx
        rw [f.1 _ _ (by omega), quI_e]
      · rw [hz x (by omega) h2, quI_k (by omega)]
/-- what copying into a layer touches -/
def pQ (v k j : Nat) : Prop := ((k = 34 ∨ k = 35 ∨ k = 37 ∨ k = 38 ∨ k = 42) ∧ j = v) ∨ (k = 36 ∧ 8 * v ≤ j ∧ j < 8 * v + 8) ∨ (k = 39 ∧ 48 * v ≤ j ∧ j < 48 * v + 48) ∨ ((k = 40 ∨ k = 41) ∧ 6 * v ≤ j ∧ j < 6 * v + 6) ∨ (k = 43 ∧ 240 * v ≤ j ∧ j < 240 * v + 240)
theorem m_copies (hn : 2000 ≤ n) (ht : to < 22) (hf : fm < 22) (hne : to ≠ fm) (hY : yrOk Y) (hm : D 0 4 ≤ 60) (h : mD S fm Y D) : ∃ Z, fX12_copies n 0 (nI to) (nI fm) S = some Z ∧ mFq (pQ to) S Z ∧ mD Z to Y D := by
  have h8 : Y 2 1 ≤ 8 := hY.1.2.1
  have h62 : Y 2 2 ≤ 6 := hY.1.2.2.1
  have h6 : Y 2 3 ≤ 6 := hY.1.2.2.2
  obtain ⟨⟨a0, a1, a2, a3, a4⟩, a5, a6, a7, a8, a9⟩ := h
  obtain ⟨Z1, e1, f1, z1⟩ := m_cp50 (n := n) ht hf hne 8 0 n (xuI (xuI (xuI (xuI S 34 to (nI (D 0 0))) 35 to (nI (D 0 1))) 37 to (nI (D 0 2))) 38 to (nI (D 0 3))) (by omega) (by omega)
  obtain ⟨Z2, e2, f2, z2⟩ := m_cp86 (n := n) ht hf hne 48 0 n Z1 (by omega) (by omega)
  obtain ⟨Z3, e3, f3, z3, z3'⟩ := m_cp122 (n := n) ht hf hne 6 0 n Z2 (by omega) (by omega)
  have f0 : mFq (pQ to) S (xuI (xuI (xuI (xuI S 34 to (nI (D 0 0))) 35 to (nI (D 0 1))) 37 to (nI (D 0 2))) 38 to (nI (D 0 3))) := mFq_trans (mFq_trans (mFq_trans (mFq_upd (by unfold pQ; omega)) (mFq_upd (by unfold pQ; omega))) (mFq_upd (by unfold pQ; omega))) (mFq_upd (by unfold pQ; omega))
  have k42 : Z3.1 42 fm = nI (D 0 4) := by
    rw [f3.1 _ _ (by omega), f2.1 _ _ (by omega), f1.1 _ _ (by omega), f0.1 _ _ (by unfold pQ; omega)]; exact a4
  obtain ⟨Z4, e4, f4, z4⟩ := m_cp192 (n := n) ht hf hne hm (4 * D 0 4) 0 n (xuI Z3 42 to (nI (D 0 4))) (by rw [quI_k (by omega)]; exact k42) (by omega) (by omega)
  refine ⟨Z4, ?_, ?_, ?_⟩
  · simp (disch := (first | assumption | omega | exact hB _ _ | exact hYB _ _ | (simp only [yc, yd, sh, sv, ne_eq]; omega) | (simp (disch := omega) only [↓nm_1, ↓nm_2, nI_add, pk_mul, pk_sub, Nat.add_sub_cancel, qm1_add, qm2_add, nI_clamp, ni_0, ni_1, a0, a1, a2, a3, e1, e2, e3, k42, e4]; refine qin_nI ?_ ?_ <;> first | omega | exact hB _ _ | exact hYB _ _) | (refine qin_nI ?_ ?_ <;> omega) | fail)) only [↓km0_gd, ↓km0_gI, ↓km0_gM, ↓km0_pI, ↓km0_pM, ↓km0_pZ, ↓km0_gL, ↓km0_pL, ↓km0_gF54, ↓km0_gF55, ↓km0_gF57, ↓km0_gF58, ↓km0_gF62, ↓km34_al, ↓km34_as, ↓km34_ln, ↓km35_al, ↓km35_as, ↓km35_ln, ↓km37_al, ↓km37_as, ↓km37_ln, ↓km38_al, ↓km38_as, ↓km38_ln, ↓km42_al, ↓km42_as, ↓km42_ln, ↓qb_so, ↓nm_1, ↓nm_2, ↓reduceIte, if_true, if_false, not_true_eq_false, not_false_eq_true, and_true, true_and, and_false, false_and, or_true, true_or, or_false, false_or, eq_self, ne_eq, quI_s, quI_n, quI2, quL1, quL2, quL3, quR1, quR2, quR3, nI_add, pk_mul, pk_sub, Nat.add_sub_cancel, qm1_add, qm2_add, nI_leI, nI_ltI, nI_eq, nI_m1, nI_m1', nI_clamp, nI_bit, nI_one_shl, nI_m1l, nI_m1lt, nI_m1lt', nI_m1le', oI_some, oI_none, ni_0, ni_1, fX12_copies, qle_t, qle_f, qlt_t, qlt_f, qeq_t, qeq_f, a0, a1, a2, a3, e1, e2, e3, k42, e4]
  · exact mFq_trans f0 (mFq_trans (mFq_mono f1 (fun k j h => by unfold pQ; omega)) (mFq_trans (mFq_mono f2 (fun k j h => by unfold pQ; omega)) (mFq_trans (mFq_mono f3 (fun k j h => by unfold pQ; omega)) (mFq_trans (mFq_upd (by unfold pQ; omega)) (mFq_mono f4 (fun k j h => by unfold pQ; omega))))))
  · refine ⟨⟨?_, ?_, ?_, ?_, ?_⟩, fun t ht' => ?_, fun g t hg ht' => ?_, fun j hj => ?_, fun j hj => ?_, fun k hk => ?_⟩
    · rw [f4.1 _ _ (by omega), quI_k (by omega), f3.1 _ _ (by omega), f2.1 _ _ (by omega), f1.1 _ _ (by omega), quI_k (by omega), quI_k (by omega), quI_k (by omega), quI_e]
    · rw [f4.1 _ _ (by omega), quI_k (by omega), f3.1 _ _ (by omega), f2.1 _ _ (by omega), f1.1 _ _ (by omega), quI_k (by omega), quI_k (by omega), quI_e]
    · rw [f4.1 _ _ (by omega), quI_k (by omega), f3.1 _ _ (by omega), f2.1 _ _ (by omega), f1.1 _ _ (by omega), quI_k (by omega), quI_e]
    · rw [f4.1 _ _ (by omega), quI_k (by omega), f3.1 _ _ (by omega), f2.1 _ _ (by omega), f1.1 _ _ (by omega), quI_e]
    · rw [f4.1 _ _ (by omega), quI_e]
    · rw [f4.1 _ _ (by omega), quI_k (by omega), f3.1 _ _ (by omega), f2.1 _ _ (by omega), z1 t (by omega) (by omega), f0.1 _ _ (by unfold pQ; omega)]; exact a5 t ht'
    · rw [f4.1 _ _ (by omega), quI_k (by omega), f3.1 _ _ (by omega), Nat.add_assoc, z2 (8 * g + t) (by omega) (by omega), f1.1 _ _ (by omega), f0.1 _ _ (by unfold pQ; omega), ← Nat.add_assoc]; exact a6 g t hg ht'
    · rw [f4.1 _ _ (by omega), quI_k (by omega), z3 j (by omega) (by omega), f2.1 _ _ (by omega), f1.1 _ _ (by omega), f0.1 _ _ (by unfold pQ; omega)]; exact a7 j hj
    · rw [f4.1 _ _ (by omega), quI_k (by omega), z3' j (by omega) (by omega), f2.1 _ _ (by omega), f1.1 _ _ (by omega), f0.1 _ _ (by unfold pQ; omega)]; exact a8 j hj
    · rw [z4 k (by omega) hk, quI_k (by omega), f3.1 _ _ (by omega), f2.1 _ _ (by omega), f1.1 _ _ (by omega), f0.1 _ _ (by unfold pQ; omega)]; exact a9 k hk
end Q37

