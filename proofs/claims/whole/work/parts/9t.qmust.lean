/-! ===== the reference takes a word ===== -/
section Q9t
variable {S Z V : xSt} {n L e k lo hi : Nat} {f : Nat → Nat}
def flR (S : xSt) (kd pl : Nat) : xSt := xuI (xuI S 0 8 (nI kd)) 0 9 (nI pl)
theorem flR_8 {kd pl : Nat} : (flR S kd pl).1 0 8 = nI kd := by unfold flR; rw [quI_k (by omega), quI_e]
theorem m_lexw (he : e ≤ L) (h : tkM S f L e) (h8 : S.1 0 8 = nI 0) (hw : kW f L e ≠ none) : fX12_lex 0 S = some (flR S 1 (kP f L e)) := by
  cases hw' : kW f L e with
  | none => exact absurd hw' hw
  | some p =>
    have hp := kP_lt he hw'
    have hL := h.1.2.2.1
    have z12 := h.2.2.2.2.1
    rw [hw'] at z12
    have hP : kP f L e = p := by unfold kP; rw [hw']
    rw [hP]
    exact m_lex1 (by omega) (show S.1 0 12 = nI p from z12) h8
theorem m_mustW (hn : 2000 ≤ n) (he : e ≤ L) (h : tkM S f L e) (h8 : S.1 0 8 = nI 0) (hk : k < 32) : (iw f L e k → ∃ Z, fX12_must_ n 0 (lN (s_oc k)) S = some Z ∧ tkM Z f L (kE f L e) ∧ frM S Z) ∧ (¬ iw f L e k → fX12_must_ n 0 (lN (s_oc k)) S = some (flR S 1 (kP f L e))) := by
  have hL := h.1.2.2.1
  by_cases hw : kW f L e = none
  · have z12 := h.2.2.2.2.1
    rw [hw] at z12
    have l1 := m_lex0 z12
    have e1 := m_isW hL h hw hk
    refine ⟨fun hi => ?_, fun hi => ?_⟩
    · rw [if_pos hi] at e1
      obtain ⟨Z, x1, x2, x3⟩ := m_ahead hn h.1 h.2.2.2.1 (kE_le he)
      refine ⟨Z, ?_, x2, x3⟩
      simp (disch := (first | assumption | omega | exact hB _ _ | exact hYB _ _ | (simp only [yc, yd, sh, sv, ne_eq]; omega) | (simp (disch := omega) only [↓nm_1, ↓nm_2, nI_add, pk_mul, pk_sub, Nat.add_sub_cancel, qm1_add, qm2_add, nI_clamp, ni_0, ni_1, l1, h8, e1, x1]; refine qin_nI ?_ ?_ <;> first | omega | exact hB _ _ | exact hYB _ _) | (refine qin_nI ?_ ?_ <;> omega) | fail)) only [↓km0_gd, ↓km0_gI, ↓km0_gM, ↓km0_pI, ↓km0_pM, ↓km0_pZ, ↓km0_gL, ↓km0_pL, ↓qb_so, ↓nm_1, ↓nm_2, ↓reduceIte, if_true, if_false, not_true_eq_false, not_false_eq_true, and_true, true_and, and_false, false_and, or_true, true_or, or_false, false_or, eq_self, ne_eq, quI_s, quI_n, quI2, quL1, quL2, quL3, quR1, quR2, quR3, nI_add, pk_mul, pk_sub, Nat.add_sub_cancel, qm1_add, qm2_add, nI_leI, nI_ltI, nI_eq, nI_m1, nI_m1', nI_clamp, nI_bit, nI_one_shl, nI_m1l, nI_m1lt, nI_m1lt', nI_m1le', oI_some, oI_none, ni_0, ni_1, fX12_must_, qle_t, qle_f, qlt_t, qlt_f, qeq_t, qeq_f, l1, h8, e1, x1]
    · rw [if_neg hi] at e1
      have hP : kP f L e = kS f L e := by unfold kP; rw [hw]
      have b1 := m_blame (k := 1) (p := kS f L e) h8
      have h4 := h.2.2.1
      rw [hP]
      unfold flR
      simp (disch := (first | assumption | omega | exact hB _ _ | exact hYB _ _ | (simp only [yc, yd, sh, sv, ne_eq]; omega) | (simp (disch := omega) only [↓nm_1, ↓nm_2, nI_add, pk_mul, pk_sub, Nat.add_sub_cancel, qm1_add, qm2_add, nI_clamp, ni_0, ni_1, l1, h8, e1, h4, b1]; refine qin_nI ?_ ?_ <;> first | omega | exact hB _ _ | exact hYB _ _) | (refine qin_nI ?_ ?_ <;> omega) | fail)) only [↓km0_gd, ↓km0_gI, ↓km0_gM, ↓km0_pI, ↓km0_pM, ↓km0_pZ, ↓km0_gL, ↓km0_pL, ↓qb_so, ↓nm_1, ↓nm_2, ↓reduceIte, if_true, if_false, not_true_eq_false, not_false_eq_true, and_true, true_and, and_false, false_and, or_true, true_or, or_false, false_or, eq_self, ne_eq, quI_s, quI_n, quI2, quL1, quL2, quL3, quR1, quR2, quR3, nI_add, pk_mul, pk_sub, Nat.add_sub_cancel, qm1_add, qm2_add, nI_leI, nI_ltI, nI_eq, nI_m1, nI_m1', nI_clamp, nI_bit, nI_one_shl, nI_m1l, nI_m1lt, nI_m1lt', nI_m1le', oI_some, oI_none, ni_0, ni_1, fX12_must_, qle_t, qle_f, qlt_t, qlt_f, qeq_t, qeq_f, l1, h8, e1, h4, b1]
  · refine ⟨fun hi => absurd hi.1 hw, fun _ => ?_⟩
    have l1 := m_lexw he h h8 hw
    have y8 := flR_8 (S := S) (kd := 1) (pl := kP f L e)
    simp (disch := (first | assumption | omega | exact hB _ _ | exact hYB _ _ | (simp only [yc, yd, sh, sv, ne_eq]; omega) | (simp (disch := omega) only [↓nm_1, ↓nm_2, nI_add, pk_mul, pk_sub, Nat.add_sub_cancel, qm1_add, qm2_add, nI_clamp, ni_0, ni_1, l1, y8]; refine qin_nI ?_ ?_ <;> first | omega | exact hB _ _ | exact hYB _ _) | (refine qin_nI ?_ ?_ <;> omega) | fail)) only [↓km0_gd, ↓km0_gI, ↓km0_gM, ↓km0_pI, ↓km0_pM, ↓km0_pZ, ↓km0_gL, ↓km0_pL, ↓qb_so, ↓nm_1, ↓nm_2, ↓reduceIte, if_true, if_false, not_true_eq_false, not_false_eq_true, and_true, true_and, and_false, false_and, or_true, true_or, or_false, false_or, eq_self, ne_eq, quI_s, quI_n, quI2, quL1, quL2, quL3, quR1, quR2, quR3, nI_add, pk_mul, pk_sub, Nat.add_sub_cancel, qm1_add, qm2_add, nI_leI, nI_ltI, nI_eq, nI_m1, nI_m1', nI_clamp, nI_bit, nI_one_shl, nI_m1l, nI_m1lt, nI_m1lt', nI_m1le', oI_some, oI_none, ni_0, ni_1, fX12_must_, qle_t, qle_f, qlt_t, qlt_f, qeq_t, qeq_f, l1, y8]
end Q9t

