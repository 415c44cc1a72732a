/-! ===== the reference: a whole day ===== -/
section Q35
variable {S : xSt} {b v n fr : Nat} {Y D : Nat → Nat → Nat} {mc wc : List (Nat × Nat)} {R row : Nat → Nat}
theorem m_jobsL (hb : b < 2) (hv : v < 22) (hY : yrOk Y) (hK : kOk mc wc) (hRb : ∀ k, R k < 2 ^ 31) (hn : 2000 ≤ n) (hfr : fr ≤ 1) (hrow : ∀ i, i < Y 2 3 → row i < Y 2 3) : ∀ (k i q : Nat) (D : Nat → Nat → Nat) (S : xSt), i + k = Y 2 3 → k < q → mW S b v Y mc wc R row fr D → dOk Y D →
    ∃ Z, fX12_passes_L98 n 0 (nI v) q (nI i) S = some Z ∧ mW Z b v Y mc wc R row fr (s_jobsL Y mc wc R row fr k i D) ∧ mFq (mQ v) S Z
  | 0, i, q, D, S, hk, hq, h, hD => by
    obtain ⟨q, rfl⟩ : ∃ q', q = q' + 1 := ⟨q - 1, by omega⟩
    have h6 : Y 2 3 ≤ 6 := hY.1.2.2.2
    have hbk := h.1.1
    have e1 := h.1.2.1.2.2.2
    refine ⟨S, ?_, h, mFq_refl⟩
    show fX12_passes_L98b _ _ _ _ _ _ = _
    simp (disch := (first | assumption | omega | exact hB _ _ | exact hYB _ _ | (simp only [yc, yd, sh, sv, ne_eq]; omega) | (simp (disch := omega) only [↓nm_1, ↓nm_2, nI_add, pk_mul, pk_sub, Nat.add_sub_cancel, qm1_add, qm2_add, nI_clamp, ni_0, ni_1, hbk, e1]; refine qin_nI ?_ ?_ <;> first | omega | exact hB _ _ | exact hYB _ _) | (refine qin_nI ?_ ?_ <;> omega) | fail)) only [↓km0_gd, ↓km0_gI, ↓km0_gM, ↓km0_pI, ↓km0_pM, ↓km0_pZ, ↓km0_gL, ↓km0_pL, ↓km0_gF22, ↓km0_gF72, ↓km10_al, ↓km10_as, ↓km10_ln, ↓km46_al, ↓km46_as, ↓km46_ln, ↓qb_so, ↓nm_1, ↓nm_2, ↓reduceIte, if_true, if_false, not_true_eq_false, not_false_eq_true, and_true, true_and, and_false, false_and, or_true, true_or, or_false, false_or, eq_self, ne_eq, quI_s, quI_n, quI2, quL1, quL2, quL3, quR1, quR2, quR3, nI_add, pk_mul, pk_sub, Nat.add_sub_cancel, qm1_add, qm2_add, nI_leI, nI_ltI, nI_eq, nI_m1, nI_m1', nI_clamp, nI_bit, nI_one_shl, nI_m1l, nI_m1lt, nI_m1lt', nI_m1le', oI_some, oI_none, ni_0, ni_1, fX12_passes_L98b, qle_t, qle_f, qlt_t, qlt_f, qeq_t, qeq_f, hbk, e1]
  | k + 1, i, q, D, S, hk, hq, h, hD => by
    obtain ⟨q, rfl⟩ : ∃ q', q = q' + 1 := ⟨q - 1, by omega⟩
    have h6 : Y 2 3 ≤ 6 := hY.1.2.2.2
    have hbk := h.1.1
    have e1 := h.1.2.1.2.2.2
    obtain ⟨Z1, e, w1, f1⟩ := m_works (n := n) (j := row i) hb hv h hY hD hK hRb hn hfr (hrow i (by omega))
    obtain ⟨Z, e2, w2, f2⟩ := m_jobsL hb hv hY hK hRb hn hfr hrow k (i + 1) q _ Z1 (by omega) (by omega) w1 (s_step_ok hY hD (hrow i (by omega)))
    refine ⟨Z, ?_, w2, mFq_trans f1 f2⟩
    show fX12_passes_L98b _ _ _ _ _ _ = _
    rcases h.2.2.2.2 with ⟨o1, o2⟩ | ⟨o1, o2⟩
    · rw [o2 i (by omega)] at e
      simp (disch := (first | assumption | omega | exact hB _ _ | exact hYB _ _ | (simp only [yc, yd, sh, sv, ne_eq]; omega) | (simp (disch := omega) only [↓nm_1, ↓nm_2, nI_add, pk_mul, pk_sub, Nat.add_sub_cancel, qm1_add, qm2_add, nI_clamp, ni_0, ni_1, hbk, e1, o1, e, e2]; refine qin_nI ?_ ?_ <;> first | omega | exact hB _ _ | exact hYB _ _) | (refine qin_nI ?_ ?_ <;> omega) | fail)) only [↓km0_gd, ↓km0_gI, ↓km0_gM, ↓km0_pI, ↓km0_pM, ↓km0_pZ, ↓km0_gL, ↓km0_pL, ↓km0_gF22, ↓km0_gF72, ↓km10_al, ↓km10_as, ↓km10_ln, ↓km46_al, ↓km46_as, ↓km46_ln, ↓qb_so, ↓nm_1, ↓nm_2, ↓reduceIte, if_true, if_false, not_true_eq_false, not_false_eq_true, and_true, true_and, and_false, false_and, or_true, true_or, or_false, false_or, eq_self, ne_eq, quI_s, quI_n, quI2, quL1, quL2, quL3, quR1, quR2, quR3, nI_add, pk_mul, pk_sub, Nat.add_sub_cancel, qm1_add, qm2_add, nI_leI, nI_ltI, nI_eq, nI_m1, nI_m1', nI_clamp, nI_bit, nI_one_shl, nI_m1l, nI_m1lt, nI_m1lt', nI_m1le', oI_some, oI_none, ni_0, ni_1, fX12_passes_L98b, qle_t, qle_f, qlt_t, qlt_f, qeq_t, qeq_f, hbk, e1, o1, e, e2]
    · have o3 := o2 i (by omega)
      simp (disch := (first | assumption | omega | exact hB _ _ | exact hYB _ _ | (simp only [yc, yd, sh, sv, ne_eq]; omega) | (simp (disch := omega) only [↓nm_1, ↓nm_2, nI_add, pk_mul, pk_sub, Nat.add_sub_cancel, qm1_add, qm2_add, nI_clamp, ni_0, ni_1, hbk, e1, o1, o3, e, e2]; refine qin_nI ?_ ?_ <;> first | omega | exact hB _ _ | exact hYB _ _) | (refine qin_nI ?_ ?_ <;> omega) | fail)) only [↓km0_gd, ↓km0_gI, ↓km0_gM, ↓km0_pI, ↓km0_pM, ↓km0_pZ, ↓km0_gL, ↓km0_pL, ↓km0_gF22, ↓km0_gF72, ↓km10_al, ↓km10_as, ↓km10_ln, ↓km46_al, ↓km46_as, ↓km46_ln, ↓qb_so, ↓nm_1, ↓nm_2, ↓reduceIte, if_true, if_false, not_true_eq_false, not_false_eq_true, and_true, true_and, and_false, false_and, or_true, true_or, or_false, false_or, eq_self, ne_eq, quI_s, quI_n, quI2, quL1, quL2, quL3, quR1, quR2, quR3, nI_add, pk_mul, pk_sub, Nat.add_sub_cancel, qm1_add, qm2_add, nI_leI, nI_ltI, nI_eq, nI_m1, nI_m1', nI_clamp, nI_bit, nI_one_shl, nI_m1l, nI_m1lt, nI_m1lt', nI_m1le', oI_some, oI_none, ni_0, ni_1, fX12_passes_L98b, qle_t, qle_f, qlt_t, qlt_f, qeq_t, qeq_f, hbk, e1, o1, o3, e, e2]
theorem m_paysL (hb : b < 2) (hv : v < 22) (hY : yrOk Y) : ∀ (k j q : Nat) (D : Nat → Nat → Nat) (S : xSt), j + k = Y 2 3 → k < q → mW S b v Y mc wc R row fr D → dOk Y D → D 5 2 ≤ 6000 * D 0 0 + 999 * j →
    ∃ Z, fX12_passes_L141 n 0 (nI v) q (nI j) S = some Z ∧ mW Z b v Y mc wc R row fr (s_paysL Y k j D) ∧ mFq (mQ v) S Z
  | 0, j, q, D, S, hk, hq, h, hD, hl => by
    obtain ⟨q, rfl⟩ : ∃ q', q = q' + 1 := ⟨q - 1, by omega⟩
    have h6 : Y 2 3 ≤ 6 := hY.1.2.2.2
    have hbk := h.1.1
    have e1 := h.1.2.1.2.2.2
    refine ⟨S, ?_, h, mFq_refl⟩
    show fX12_passes_L141b _ _ _ _ _ _ = _
    simp (disch := (first | assumption | omega | exact hB _ _ | exact hYB _ _ | (simp only [yc, yd, sh, sv, ne_eq]; omega) | (simp (disch := omega) only [↓nm_1, ↓nm_2, nI_add, pk_mul, pk_sub, Nat.add_sub_cancel, qm1_add, qm2_add, nI_clamp, ni_0, ni_1, hbk, e1]; refine qin_nI ?_ ?_ <;> first | omega | exact hB _ _ | exact hYB _ _) | (refine qin_nI ?_ ?_ <;> omega) | fail)) only [↓km0_gd, ↓km0_gI, ↓km0_gM, ↓km0_pI, ↓km0_pM, ↓km0_pZ, ↓km0_gL, ↓km0_pL, ↓km0_gF22, ↓km10_al, ↓km10_as, ↓km10_ln, ↓qb_so, ↓nm_1, ↓nm_2, ↓reduceIte, if_true, if_false, not_true_eq_false, not_false_eq_true, and_true, true_and, and_false, false_and, or_true, true_or, or_false, false_or, eq_self, ne_eq, quI_s, quI_n, quI2, quL1, quL2, quL3, quR1, quR2, quR3, nI_add, pk_mul, pk_sub, Nat.add_sub_cancel, qm1_add, qm2_add, nI_leI, nI_ltI, nI_eq, nI_m1, nI_m1', nI_clamp, nI_bit, nI_one_shl, nI_m1l, nI_m1lt, nI_m1lt', nI_m1le', oI_some, oI_none, ni_0, ni_1, fX12_passes_L141b, qle_t, qle_f, qlt_t, qlt_f, qeq_t, qeq_f, hbk, e1]
  | k + 1, j, q, D, S, hk, hq, h, hD, hl => by
    obtain ⟨q, rfl⟩ : ∃ q', q = q' + 1 := ⟨q - 1, by omega⟩
    have h6 : Y 2 3 ≤ 6 := hY.1.2.2.2
    have hbk := h.1.1
    have e1 := h.1.2.1.2.2.2
    have b3 : D 0 1 ≤ 9999 := hD.2.1
    have b17 : Y 0 17 ≤ 100 := hY.2.2.2.2.2.2.2.2.2.1
    have hl9 := s_late_le hD j
    have e2 := m_late (j := j) hb hv h.1 h.2.1 hY hD (by omega)
    have hto := dOk_told hY hD
    obtain ⟨o1, o2, o3⟩ := s_pays_ok hY hD hl (by omega)
    have s1 := mW_free (i := 2) (x := D 5 2 + s_late Y D j) (by decide) h
    by_cases hc : s_late Y D j ≤ 0
    · have ed : s_pays Y D j = dU D 5 2 (D 5 2 + s_late Y D j) := by unfold s_pays; rw [if_pos hc]
      rw [ed] at o1 o2
      obtain ⟨Z, e3, hz, hf⟩ := m_paysL hb hv hY k (j + 1) q _ _ (by omega) (by omega) s1 o1 o2
      refine ⟨Z, ?_, by unfold s_paysL; rw [ed]; exact hz, hf⟩
      show fX12_passes_L141b _ _ _ _ _ _ = _
      simp (disch := (first | assumption | omega | exact hB _ _ | exact hYB _ _ | (simp only [yc, yd, sh, sv, ne_eq]; omega) | (simp (disch := omega) only [↓nm_1, ↓nm_2, nI_add, pk_mul, pk_sub, Nat.add_sub_cancel, qm1_add, qm2_add, nI_clamp, ni_0, ni_1, hbk, e1, e2, e3, hc]; refine qin_nI ?_ ?_ <;> first | omega | exact hB _ _ | exact hYB _ _) | (refine qin_nI ?_ ?_ <;> omega) | fail)) only [↓km0_gd, ↓km0_gI, ↓km0_gM, ↓km0_pI, ↓km0_pM, ↓km0_pZ, ↓km0_gL, ↓km0_pL, ↓km0_gF22, ↓km10_al, ↓km10_as, ↓km10_ln, ↓qb_so, ↓nm_1, ↓nm_2, ↓reduceIte, if_true, if_false, not_true_eq_false, not_false_eq_true, and_true, true_and, and_false, false_and, or_true, true_or, or_false, false_or, eq_self, ne_eq, quI_s, quI_n, quI2, quL1, quL2, quL3, quR1, quR2, quR3, nI_add, pk_mul, pk_sub, Nat.add_sub_cancel, qm1_add, qm2_add, nI_leI, nI_ltI, nI_eq, nI_m1, nI_m1', nI_clamp, nI_bit, nI_one_shl, nI_m1l, nI_m1lt, nI_m1lt', nI_m1le', oI_some, oI_none, ni_0, ni_1, fX12_passes_L141b, qle_t, qle_f, qlt_t, qlt_f, qeq_t, qeq_f, hbk, e1, e2, e3, hc]
    · have ed : s_pays Y D j = s_pay Y (dU D 5 2 (D 5 2 + s_late Y D j)) := by unfold s_pays; rw [if_neg hc]
      rw [ed] at o1 o2
      have s2 := mW_0 (k := 35) (i := 1) (x := if D 0 1 + Y 0 17 < 9999 then D 0 1 + Y 0 17 else 9999) hY hv (by show D 0 4 ≤ 60; omega) (by decide) rfl s1
      have ep := m_pays (D := D) hb hv h.1 h.2.1.1.2.1 (by omega)
      obtain ⟨Z, e3, hz, hf⟩ := m_paysL hb hv hY k (j + 1) q _ _ (by omega) (by omega) s2 o1 o2
      refine ⟨Z, ?_, by unfold s_paysL; rw [ed]; exact hz, mFq_trans (mFq_upd (by unfold mQ; omega)) hf⟩
      show fX12_passes_L141b _ _ _ _ _ _ = _
      simp (disch := (first | assumption | omega | exact hB _ _ | exact hYB _ _ | (simp only [yc, yd, sh, sv, ne_eq]; omega) | (simp (disch := omega) only [↓nm_1, ↓nm_2, nI_add, pk_mul, pk_sub, Nat.add_sub_cancel, qm1_add, qm2_add, nI_clamp, ni_0, ni_1, hbk, e1, e2, ep, e3, hc]; refine qin_nI ?_ ?_ <;> first | omega | exact hB _ _ | exact hYB _ _) | (refine qin_nI ?_ ?_ <;> omega) | fail)) only [↓km0_gd, ↓km0_gI, ↓km0_gM, ↓km0_pI, ↓km0_pM, ↓km0_pZ, ↓km0_gL, ↓km0_pL, ↓km0_gF22, ↓km10_al, ↓km10_as, ↓km10_ln, ↓qb_so, ↓nm_1, ↓nm_2, ↓reduceIte, if_true, if_false, not_true_eq_false, not_false_eq_true, and_true, true_and, and_false, false_and, or_true, true_or, or_false, false_or, eq_self, ne_eq, quI_s, quI_n, quI2, quL1, quL2, quL3, quR1, quR2, quR3, nI_add, pk_mul, pk_sub, Nat.add_sub_cancel, qm1_add, qm2_add, nI_leI, nI_ltI, nI_eq, nI_m1, nI_m1', nI_clamp, nI_bit, nI_one_shl, nI_m1l, nI_m1lt, nI_m1lt', nI_m1le', oI_some, oI_none, ni_0, ni_1, fX12_passes_L141b, qle_t, qle_f, qlt_t, qlt_f, qeq_t, qeq_f, hbk, e1, e2, ep, e3, hc]
theorem m_mendL (hb : b < 2) (hv : v < 22) (hY : yrOk Y) (h60 : D 0 4 ≤ 60) (hB : ∀ c j, D c j < 2 ^ 31) : ∀ (k m q : Nat) (S : xSt), m + k = Y 2 1 → k < q → mW S b v Y mc wc R row fr (s_mendT D m) →
    ∃ Z, fX12_passes_L45 n 0 (nI v) q (nI m) S = some Z ∧ mW Z b v Y mc wc R row fr (s_mendT D (Y 2 1)) ∧ mFq (mQ v) S Z
  | 0, m, q, S, hk, hq, h => by
    obtain ⟨q, rfl⟩ : ∃ q', q = q' + 1 := ⟨q - 1, by omega⟩
    have h8 : Y 2 1 ≤ 8 := hY.1.2.1
    have hbk := h.1.1
    have e1 := h.1.2.1.2.1
    have hm : m = Y 2 1 := by omega
    refine ⟨S, ?_, by rw [← hm]; exact h, mFq_refl⟩
    show fX12_passes_L45b _ _ _ _ _ _ = _
    simp (disch := (first | assumption | omega | exact hB _ _ | exact hYB _ _ | (simp only [yc, yd, sh, sv, ne_eq]; omega) | (simp (disch := omega) only [↓nm_1, ↓nm_2, nI_add, pk_mul, pk_sub, Nat.add_sub_cancel, qm1_add, qm2_add, nI_clamp, ni_0, ni_1, ni_8, hbk, e1]; refine qin_nI ?_ ?_ <;> first | omega | exact hB _ _ | exact hYB _ _) | (refine qin_nI ?_ ?_ <;> omega) | fail)) only [↓km0_gd, ↓km0_gI, ↓km0_gM, ↓km0_pI, ↓km0_pM, ↓km0_pZ, ↓km0_gL, ↓km0_pL, ↓km0_gF17, ↓km0_gF56, ↓km0_gF57, ↓km5_al, ↓km5_as, ↓km5_ln, ↓km36_al, ↓km36_as, ↓km36_ln, ↓km37_al, ↓km37_as, ↓km37_ln, ↓qb_so, ↓nm_1, ↓nm_2, ↓reduceIte, if_true, if_false, not_true_eq_false, not_false_eq_true, and_true, true_and, and_false, false_and, or_true, true_or, or_false, false_or, eq_self, ne_eq, quI_s, quI_n, quI2, quL1, quL2, quL3, quR1, quR2, quR3, nI_add, pk_mul, pk_sub, Nat.add_sub_cancel, qm1_add, qm2_add, nI_leI, nI_ltI, nI_eq, nI_m1, nI_m1', nI_clamp, nI_bit, nI_one_shl, nI_m1l, nI_m1lt, nI_m1lt', nI_m1le', oI_some, oI_none, ni_0, ni_1, ni_8, fX12_passes_L45b, qle_t, qle_f, qlt_t, qlt_f, qeq_t, qeq_f, hbk, e1]
  | k + 1, m, q, S, hk, hq, h => by
    obtain ⟨q, rfl⟩ : ∃ q', q = q' + 1 := ⟨q - 1, by omega⟩
    have h8 : Y 2 1 ≤ 8 := hY.1.2.1
    have hbk := h.1.1
    have e1 := h.1.2.1.2.1
    have e37 : S.1 37 v = nI (D 0 2) := h.2.1.1.2.2.1
    show ∃ Z, fX12_passes_L45b _ _ _ _ _ _ = _ ∧ _
    cases hu : (D 0 2).testBit m with
    | true =>
      have h2 := mW_1 (t := m) (x := 0) hY hv (by exact h60) (by omega) h
      rw [s_mendT_t hu] at h2
      obtain ⟨Z, e, hz, hf⟩ := m_mendL hb hv hY h60 hB k (m + 1) q _ (by omega) (by omega) h2
      refine ⟨Z, ?_, hz, mFq_trans (mFq_upd (by unfold mQ; omega)) hf⟩
      simp (disch := (first | assumption | omega | exact hB _ _ | exact hYB _ _ | (simp only [yc, yd, sh, sv, ne_eq]; omega) | (simp (disch := omega) only [↓nm_1, ↓nm_2, nI_add, pk_mul, pk_sub, Nat.add_sub_cancel, qm1_add, qm2_add, nI_clamp, ni_0, ni_1, ni_8, hbk, e1, e37, qbit_t hu, e]; refine qin_nI ?_ ?_ <;> first | omega | exact hB _ _ | exact hYB _ _) | (refine qin_nI ?_ ?_ <;> omega) | fail)) only [↓km0_gd, ↓km0_gI, ↓km0_gM, ↓km0_pI, ↓km0_pM, ↓km0_pZ, ↓km0_gL, ↓km0_pL, ↓km0_gF17, ↓km0_gF56, ↓km0_gF57, ↓km5_al, ↓km5_as, ↓km5_ln, ↓km36_al, ↓km36_as, ↓km36_ln, ↓km37_al, ↓km37_as, ↓km37_ln, ↓qb_so, ↓nm_1, ↓nm_2, ↓reduceIte, if_true, if_false, not_true_eq_false, not_false_eq_true, and_true, true_and, and_false, false_and, or_true, true_or, or_false, false_or, eq_self, ne_eq, quI_s, quI_n, quI2, quL1, quL2, quL3, quR1, quR2, quR3, nI_add, pk_mul, pk_sub, Nat.add_sub_cancel, qm1_add, qm2_add, nI_leI, nI_ltI, nI_eq, nI_m1, nI_m1', nI_clamp, nI_bit, nI_one_shl, nI_m1l, nI_m1lt, nI_m1lt', nI_m1le', oI_some, oI_none, ni_0, ni_1, ni_8, fX12_passes_L45b, fX12_has2, qle_t, qle_f, qlt_t, qlt_f, qeq_t, qeq_f, hbk, e1, e37, qbit_t hu, e]
    | false =>
      rw [s_mendT_f hu] at h
      obtain ⟨Z, e, hz, hf⟩ := m_mendL hb hv hY h60 hB k (m + 1) q _ (by omega) (by omega) h
      refine ⟨Z, ?_, hz, hf⟩
      simp (disch := (first | assumption | omega | exact hB _ _ | exact hYB _ _ | (simp only [yc, yd, sh, sv, ne_eq]; omega) | (simp (disch := omega) only [↓nm_1, ↓nm_2, nI_add, pk_mul, pk_sub, Nat.add_sub_cancel, qm1_add, qm2_add, nI_clamp, ni_0, ni_1, ni_8, hbk, e1, e37, qbit_f hu, e]; refine qin_nI ?_ ?_ <;> first | omega | exact hB _ _ | exact hYB _ _) | (refine qin_nI ?_ ?_ <;> omega) | fail)) only [↓km0_gd, ↓km0_gI, ↓km0_gM, ↓km0_pI, ↓km0_pM, ↓km0_pZ, ↓km0_gL, ↓km0_pL, ↓km0_gF17, ↓km0_gF56, ↓km0_gF57, ↓km5_al, ↓km5_as, ↓km5_ln, ↓km36_al, ↓km36_as, ↓km36_ln, ↓km37_al, ↓km37_as, ↓km37_ln, ↓qb_so, ↓nm_1, ↓nm_2, ↓reduceIte, if_true, if_false, not_true_eq_false, not_false_eq_true, and_true, true_and, and_false, false_and, or_true, true_or, or_false, false_or, eq_self, ne_eq, quI_s, quI_n, quI2, quL1, quL2, quL3, quR1, quR2, quR3, nI_add, pk_mul, pk_sub, Nat.add_sub_cancel, qm1_add, qm2_add, nI_leI, nI_ltI, nI_eq, nI_m1, nI_m1', nI_clamp, nI_bit, nI_one_shl, nI_m1l, nI_m1lt, nI_m1lt', nI_m1le', oI_some, oI_none, ni_0, ni_1, ni_8, fX12_passes_L45b, fX12_has2, qle_t, qle_f, qlt_t, qlt_f, qeq_t, qeq_f, hbk, e1, e37, qbit_f hu, e]
theorem s_mend_eqT (hY : yrOk Y) (hD : dOk Y D) : s_mendT D (Y 2 1) = (fun c t => if c = 1 then (if (D 0 2).testBit t = true then 0 else D c t) else D c t) := by
  funext c t
  unfold s_mendT
  by_cases hc : c = 1
  · rw [if_pos hc, if_pos hc]
    by_cases ht : (D 0 2).testBit t = true
    · have : t < Y 2 1 := by
        rcases Nat.lt_or_ge t (Y 2 1) with h | h
        · exact h
        · rw [Nat.testBit_lt_two_pow (Nat.lt_of_lt_of_le hD.2.2.1 (Nat.pow_le_pow_right (by decide) h))] at ht; cases ht
      rw [if_pos ht, if_pos ⟨this, ht⟩]
    · rw [if_neg ht, if_neg (fun h => ht h.2)]
  · rw [if_neg hc, if_neg hc]
/-- the frost of a day is told at its beginning -/
theorem mW_frost {fr' : Nat} (h : mW S b v Y mc wc R row fr' D) : mW (xuI S 0 75 (nI fr)) b v Y mc wc R row fr D := by
  have hf : mFq (fun k' j' => k' = 0 ∧ j' = 75) S (xuI S 0 75 (nI fr)) := mFq_upd ⟨rfl, rfl⟩
  obtain ⟨h1, h2, ⟨h3, h4, h5'⟩, h6, h7⟩ := h
  refine ⟨mY_fr hf (fun k' j' a1 a2 => by omega) (by omega) h1, ?_, ⟨?_, ?_, ?_⟩, mR_fr hf (by omega) (by omega) h6, mO_fr hf (by omega) (fun i => by omega) h7⟩
  · obtain ⟨⟨a0, a1, a2, a3, a4⟩, a5, a6, a7, a8, a9⟩ := h2
    refine ⟨⟨?_, ?_, ?_, ?_, ?_⟩, fun t' ht' => ?_, fun g' t' hg' ht' => ?_, fun j hj => ?_, fun j hj => ?_, fun k' hk' => ?_⟩
    · rw [quI_k (by omega)]; exact a0
    · rw [quI_k (by omega)]; exact a1
    · rw [quI_k (by omega)]; exact a2
    · rw [quI_k (by omega)]; exact a3
    · rw [quI_k (by omega)]; exact a4
    · rw [quI_k (by omega)]; exact a5 t' ht'
    · rw [quI_k (by omega)]; exact a6 g' t' hg' ht'
    · rw [quI_k (by omega)]; exact a7 j hj
    · rw [quI_k (by omega)]; exact a8 j hj
    · rw [quI_k (by omega)]; exact a9 k' hk'
  · rw [quI_k (by omega)]; exact h3
  · rw [quI_k (by omega)]; exact h4
  · rw [quI_e]
theorem m_day (hb : b < 2) (hv : v < 22) {fr' : Nat} (h : mW S b v Y mc wc R row fr' D) (hY : yrOk Y) (hD : dOk Y (s_fresh D)) (hB : ∀ c j, D c j < 2 ^ 31) (hK : kOk mc wc) (hRb : ∀ k, R k < 2 ^ 31) (hn : 2000 ≤ n) (hfr : fr ≤ 1) (hrow : ∀ i, i < Y 2 3 → row i < Y 2 3) (h999 : D 0 0 ≤ 999) (hl : D 5 2 ≤ 6000 * D 0 0) :
    ∃ Z, fX12_passes n 0 (nI v) (nI fr) S = some (nI (s_pc (s_day Y mc wc R row fr D 5 0)), Z) ∧ mW Z b v Y mc wc R row fr (s_day Y mc wc R row fr D) ∧ mFq (mQ v) S Z ∧ (D 0 0 < 999 → dOk Y (s_day Y mc wc R row fr D)) := by
  have hYB := yrOk_B hY
  have h6 : Y 2 3 ≤ 6 := hY.1.2.2.2
  have h8 : Y 2 1 ≤ 8 := hY.1.2.1
  have hto : D 0 4 ≤ 24 := (by have := dOk_told hY hD; exact this)
  have hsm := hY.2.2.2.2.2.2.2.2.1
  have w1 := mW_frost (fr := fr) (mW_5 (i := 1) (x := 0) (by decide) (mW_5 (i := 0) (x := 0) (by decide) h))
  have f1 : mFq (mQ v) S (xuI (xuI (xuI S 0 73 (nI 0)) 0 74 (nI 0)) 0 75 (nI fr)) := mFq_trans (mFq_trans (mFq_upd (by unfold mQ; omega)) (mFq_upd (by unfold mQ; omega))) (mFq_upd (by unfold mQ; omega))
  have d1 : dOk Y (dU (dU D 5 0 0) 5 1 0) := hD
  have d0 := s_mend_ok hY d1
  have key : ∃ Z1, fX12_passes n 0 (nI v) (nI fr) S = fX12_passes_B96 n 0 (nI v) Z1 ∧ mW Z1 b v Y mc wc R row fr (s_fresh (s_mend Y D)) ∧ mFq (mQ v) S Z1 := by
    have hbk := h.1.1
    have e16 := h.1.2.2.2.2.2.2.2.1.1
    have e17 := h.1.2.2.2.2.2.2.2.1.2
    have e34 := h.2.1.1.1
    have em := pk_rem (a := D 0 0) (d := Y 0 16) (hB _ _) (by omega) (by omega)
    have b2 : D 0 0 % Y 0 16 < 2 ^ 31 := Nat.lt_of_lt_of_le (Nat.mod_lt _ (by omega)) (by omega)
    have b3 : Y 0 15 < 2 ^ 31 := hYB _ _
    have hz : nI fr = 0 ∨ nI fr = 1 := by
      rcases (by omega : fr = 0 ∨ fr = 1) with rfl | rfl
      · exact Or.inl rfl
      · exact Or.inr rfl
    have eF : s_fresh (s_mend Y D) = s_mend Y (dU (dU D 5 0 0) 5 1 0) := s_mend_fr
    have e00 : dU (dU D 5 0 0) 5 1 0 0 0 = D 0 0 := rfl
    by_cases hc : D 0 0 % Y 0 16 = Y 0 15
    · have h0 : s_mendT (dU (dU D 5 0 0) 5 1 0) 0 = dU (dU D 5 0 0) 5 1 0 := by
        funext c t
        unfold s_mendT
        split
        · rw [if_neg (by omega)]
        · rfl
      obtain ⟨Z, e, hz1, hf⟩ := m_mendL (n := n) (D := dU (dU D 5 0 0) 5 1 0) (fr := fr) hb hv hY (by show D 0 4 ≤ 60; omega) (dOk_B d1) (Y 2 1) 0 n _ (by omega) (by omega) (by rw [h0]; exact w1)
      have e' : fX12_passes_L45 n 0 (nI v) n (nI 0) (xuI (xuI (xuI S 0 73 (nI 0)) 0 74 (nI 0)) 0 75 (nI fr)) = some Z := e
      have hz2 := mW_0 (k := 37) (i := 2) (x := 0) hY hv (by show D 0 4 ≤ 60; omega) (by decide) rfl hz1
      rw [s_mend_eqT hY d1] at hz2
      have em2 : s_mend Y (dU (dU D 5 0 0) 5 1 0) = dU (fun c t => if c = 1 then (if ((dU (dU D 5 0 0) 5 1 0) 0 2).testBit t = true then 0 else (dU (dU D 5 0 0) 5 1 0) c t) else (dU (dU D 5 0 0) 5 1 0) c t) 0 2 0 := by
        show (if D 0 0 % Y 0 16 = Y 0 15 then _ else _) = _
        rw [if_pos hc]
      refine ⟨_, ?_, by rw [eF, em2]; exact hz2, mFq_trans (mFq_trans f1 hf) (mFq_upd (by unfold mQ; omega))⟩
      simp (disch := (first | assumption | omega | exact hB _ _ | exact hYB _ _ | (simp only [yc, yd, sh, sv, ne_eq]; omega) | (simp (disch := omega) only [↓nm_1, ↓nm_2, nI_add, pk_mul, pk_sub, Nat.add_sub_cancel, qm1_add, qm2_add, nI_clamp, ni_0, ni_1, hz, hbk, e16, e17, e34, em, hc, e']; refine qin_nI ?_ ?_ <;> first | omega | exact hB _ _ | exact hYB _ _) | (refine qin_nI ?_ ?_ <;> omega) | fail)) only [↓km0_gd, ↓km0_gI, ↓km0_gM, ↓km0_pI, ↓km0_pM, ↓km0_pZ, ↓km0_gL, ↓km0_pL, ↓km0_gF28, ↓km0_gF29, ↓km0_gF54, ↓km0_gF57, ↓km16_al, ↓km16_as, ↓km16_ln, ↓km17_al, ↓km17_as, ↓km17_ln, ↓km34_al, ↓km34_as, ↓km34_ln, ↓km37_al, ↓km37_as, ↓km37_ln, ↓qb_so, ↓nm_1, ↓nm_2, ↓reduceIte, if_true, if_false, not_true_eq_false, not_false_eq_true, and_true, true_and, and_false, false_and, or_true, true_or, or_false, false_or, eq_self, ne_eq, quI_s, quI_n, quI2, quL1, quL2, quL3, quR1, quR2, quR3, nI_add, pk_mul, pk_sub, Nat.add_sub_cancel, qm1_add, qm2_add, nI_leI, nI_ltI, nI_eq, nI_m1, nI_m1', nI_clamp, nI_bit, nI_one_shl, nI_m1l, nI_m1lt, nI_m1lt', nI_m1le', oI_some, oI_none, ni_0, ni_1, fX12_passes, qle_t, qle_f, qlt_t, qlt_f, qeq_t, qeq_f, hz, hbk, e16, e17, e34, em, hc, e']
    · have em2 : s_mend Y (dU (dU D 5 0 0) 5 1 0) = dU (dU D 5 0 0) 5 1 0 := by
        show (if D 0 0 % Y 0 16 = Y 0 15 then _ else _) = _
        rw [if_neg hc]
      refine ⟨xuI (xuI (xuI S 0 73 (nI 0)) 0 74 (nI 0)) 0 75 (nI fr), ?_, by rw [eF, em2]; exact w1, f1⟩
      simp (disch := (first | assumption | omega | exact hB _ _ | exact hYB _ _ | (simp only [yc, yd, sh, sv, ne_eq]; omega) | (simp (disch := omega) only [↓nm_1, ↓nm_2, nI_add, pk_mul, pk_sub, Nat.add_sub_cancel, qm1_add, qm2_add, nI_clamp, ni_0, ni_1, hz, hbk, e16, e17, e34, em, hc]; refine qin_nI ?_ ?_ <;> first | omega | exact hB _ _ | exact hYB _ _) | (refine qin_nI ?_ ?_ <;> omega) | fail)) only [↓km0_gd, ↓km0_gI, ↓km0_gM, ↓km0_pI, ↓km0_pM, ↓km0_pZ, ↓km0_gL, ↓km0_pL, ↓km0_gF28, ↓km0_gF29, ↓km0_gF54, ↓km0_gF57, ↓km16_al, ↓km16_as, ↓km16_ln, ↓km17_al, ↓km17_as, ↓km17_ln, ↓km34_al, ↓km34_as, ↓km34_ln, ↓km37_al, ↓km37_as, ↓km37_ln, ↓qb_so, ↓nm_1, ↓nm_2, ↓reduceIte, if_true, if_false, not_true_eq_false, not_false_eq_true, and_true, true_and, and_false, false_and, or_true, true_or, or_false, false_or, eq_self, ne_eq, quI_s, quI_n, quI2, quL1, quL2, quL3, quR1, quR2, quR3, nI_add, pk_mul, pk_sub, Nat.add_sub_cancel, qm1_add, qm2_add, nI_leI, nI_ltI, nI_eq, nI_m1, nI_m1', nI_clamp, nI_bit, nI_one_shl, nI_m1l, nI_m1lt, nI_m1lt', nI_m1le', oI_some, oI_none, ni_0, ni_1, fX12_passes, qle_t, qle_f, qlt_t, qlt_f, qeq_t, qeq_f, hz, hbk, e16, e17, e34, em, hc]
  obtain ⟨Z1, e1, w2, f2⟩ := key
  have d2 : dOk Y (s_fresh (s_mend Y D)) := by rw [show s_fresh (s_mend Y D) = s_mend Y (s_fresh D) from s_mend_fr]; exact d0
  obtain ⟨Z2, e2, w4, f3⟩ := m_jobsL (n := n) hb hv hY hK hRb hn hfr hrow (Y 2 3) 0 n (s_fresh (s_mend Y D)) Z1 (by omega) (by omega) w2 d2
  have d3 := s_jobsL_ok (mc := mc) (wc := wc) (R := R) (fr := fr) hY hrow (Y 2 3) 0 (s_fresh (s_mend Y D)) (by omega) d2
  obtain ⟨q0, q52⟩ := s_jobsL_00 (Y := Y) (mc := mc) (wc := wc) (R := R) (row := row) (fr := fr) (Y 2 3) 0 (s_fresh (s_mend Y D))
  have q0' : s_jobsL Y mc wc R row fr (Y 2 3) 0 (s_fresh (s_mend Y D)) 0 0 = D 0 0 := q0.trans (s_mend_0 (by decide))
  have q52' : s_jobsL Y mc wc R row fr (Y 2 3) 0 (s_fresh (s_mend Y D)) 5 2 = D 5 2 := q52.trans s_mend_5
  obtain ⟨Z3, e3, w5, f4⟩ := m_paysL (n := n) hb hv hY (Y 2 3) 0 n _ Z2 (by omega) (by omega) w4 d3 (by rw [q0', q52']; omega)
  obtain ⟨d4, l4, z4⟩ := s_paysL_ok hY (Y 2 3) 0 _ (by omega) d3 (by rw [q0', q52']; omega)
  rw [q0'] at l4 z4
  have t4 := dOk_told hY d4
  have w6 := mW_0 (k := 34) (i := 0) (x := D 0 0 + 1) hY hv (by omega) (by decide) rfl w5
  have e34 : Z3.1 34 v = nI (D 0 0) := by rw [w5.2.1.1.1, z4]
  have u73 := w5.2.2.1.1
  have es : s_day Y mc wc R row fr D = dU (s_paysL Y (Y 2 3) 0 (s_jobsL Y mc wc R row fr (Y 2 3) 0 (s_fresh (s_mend Y D)))) 0 0 (D 0 0 + 1) := by
    unfold s_day
    simp only
    rw [z4]
  have hu : s_paysL Y (Y 2 3) 0 (s_jobsL Y mc wc R row fr (Y 2 3) 0 (s_fresh (s_mend Y D))) 5 0 < 256 := s_2pow8 d4.2.2.2.2.2.2.2.2.2.2.1 h8
  have eb := m_bits (n := n) (S := xuI Z3 34 v (nI (D 0 0 + 1))) hn hu
  refine ⟨xuI Z3 34 v (nI (D 0 0 + 1)), ?_, by rw [es]; exact w6, mFq_trans f2 (mFq_trans f3 (mFq_trans f4 (mFq_upd (by unfold mQ; omega)))), fun h998 => by rw [es]; exact dOk_u d4 (dV_00 (by omega) (by rw [z4]; omega))⟩
  rw [e1, es, dU_c (by decide)]
  simp (disch := (first | assumption | omega | exact hB _ _ | exact hYB _ _ | (simp only [yc, yd, sh, sv, ne_eq]; omega) | (simp (disch := omega) only [↓nm_1, ↓nm_2, nI_add, pk_mul, pk_sub, Nat.add_sub_cancel, qm1_add, qm2_add, nI_clamp, ni_0, ni_1, e2, e3, e34, u73, eb]; refine qin_nI ?_ ?_ <;> first | omega | exact hB _ _ | exact hYB _ _) | (refine qin_nI ?_ ?_ <;> omega) | fail)) only [↓km0_gd, ↓km0_gI, ↓km0_gM, ↓km0_pI, ↓km0_pM, ↓km0_pZ, ↓km0_gL, ↓km0_pL, ↓km0_gF54, ↓km34_al, ↓km34_as, ↓km34_ln, ↓qb_so, ↓nm_1, ↓nm_2, ↓reduceIte, if_true, if_false, not_true_eq_false, not_false_eq_true, and_true, true_and, and_false, false_and, or_true, true_or, or_false, false_or, eq_self, ne_eq, quI_s, quI_n, quI2, quL1, quL2, quL3, quR1, quR2, quR3, nI_add, pk_mul, pk_sub, Nat.add_sub_cancel, qm1_add, qm2_add, nI_leI, nI_ltI, nI_eq, nI_m1, nI_m1', nI_clamp, nI_bit, nI_one_shl, nI_m1l, nI_m1lt, nI_m1lt', nI_m1le', oI_some, oI_none, ni_0, ni_1, fX12_passes_B96, qle_t, qle_f, qlt_t, qlt_f, qeq_t, qeq_f, e2, e3, e34, u73, eb]
end Q35

