/-! ===== the class's whole day ===== -/
section Q29
variable {S : xSt} {b w n : Nat} {Y D : Nat → Nat → Nat} {mc wc : List (Nat × Nat)} {R row : Nat → Nat}
theorem c_jobsL (hb : b < 2) (hw : w < 2) (hY : yrOk Y) (hK : kOk mc wc) (hR : ∀ k, R k < 2 ^ 31) (hn : 2000 ≤ n) {fr : Nat} (hfr : fr ≤ 1) (hrow : ∀ i, i < Y 2 3 → row i < Y 2 3) : ∀ (k i q : Nat) (D : Nat → Nat → Nat) (S : xSt), i + k = Y 2 3 → k < q → cW S b w Y mc wc R row D → dOk Y D → cG S w D fr →
    ∃ Z, fX6_passDay_L37 n (sh w 0) q (nI i) S = some Z ∧ cW Z b w Y mc wc R row (s_jobsL Y mc wc R row fr k i D) ∧ qFr (dP b w) S Z
  | 0, i, q, D, S, hk, hq, h, hD, hG => by
    obtain ⟨q, rfl⟩ : ∃ q', q = q' + 1 := ⟨q - 1, by omega⟩
    have h6 : Y 2 3 ≤ 6 := hY.1.2.2.2
    have hr := h.2.1.1
    have e1 := c_count (s := 3) hb h.1 (by decide)
    refine ⟨S, ?_, h, qFr_refl⟩
    show fX6_passDay_L37b _ _ _ _ _ = _
    simp (disch := (first | assumption | omega | exact hB _ _ | exact hYB _ _ | (simp only [yc, yd, sh, sv, ne_eq]; omega) | (simp (disch := omega) only [↓nm_1, ↓nm_2, nI_add, pk_mul, pk_sub, Nat.add_sub_cancel, qm1_add, qm2_add, nI_clamp, ni_0, ni_1, ni_3, hr, e1]; refine qin_nI ?_ ?_ <;> first | omega | exact hB _ _ | exact hYB _ _) | (refine qin_nI ?_ ?_ <;> omega) | fail)) only [↓yc0_gd hb, ↓yc0_gI hb, ↓yc0_gM hb, ↓yc0_pI hb, ↓yc0_pM hb, ↓yc0_pZ hb, ↓yc0_gF0 hb, ↓yc0_gF1 hb, ↓yc0_gF2 hb, ↓yc0_gF3 hb, ↓yc0_gF4 hb, ↓yc0_gF5 hb, ↓yc0_gF6 hb, ↓yc0_gF7 hb, ↓yc0_gF8 hb, ↓yc0_gF9 hb, ↓yc0_gF10 hb, ↓yc0_gF11 hb, ↓yc0_gF12 hb, ↓yc0_gF13 hb, ↓yc1_al hb, ↓yc1_as hb, ↓yc1_ln hb, ↓yc2_al hb, ↓yc2_as hb, ↓yc2_ln hb, ↓yc3_al hb, ↓yc3_as hb, ↓yc3_ln hb, ↓yc4_al hb, ↓yc4_as hb, ↓yc4_ln hb, ↓yc5_al hb, ↓yc5_as hb, ↓yc5_ln hb, ↓yc6_al hb, ↓yc6_as hb, ↓yc6_ln hb, ↓yc7_al hb, ↓yc7_as hb, ↓yc7_ln hb, ↓yc8_al hb, ↓yc8_as hb, ↓yc8_ln hb, ↓yc9_al hb, ↓yc9_as hb, ↓yc9_ln hb, ↓yc10_al hb, ↓yc10_as hb, ↓yc10_ln hb, ↓yc11_al hb, ↓yc11_as hb, ↓yc11_ln hb, ↓yc12_al hb, ↓yc12_as hb, ↓yc12_ln hb, ↓yc13_al hb, ↓yc13_as hb, ↓yc13_ln hb, ↓yc14_gd hb, ↓yc14_gI hb, ↓yc14_gM hb, ↓yc14_pI hb, ↓yc14_pM hb, ↓yc14_pZ hb, ↓yc14_gF0 hb, ↓yc14_gF1 hb, ↓yc15_al hb, ↓yc15_as hb, ↓yc15_ln hb, ↓yc16_al hb, ↓yc16_as hb, ↓yc16_ln hb, ↓yd0_gd hw, ↓yd0_gI hw, ↓yd0_gM hw, ↓yd0_pI hw, ↓yd0_pM hw, ↓yd0_pZ hw, ↓yd0_gF5 hw, ↓yd0_gF6 hw, ↓yd0_gF7 hw, ↓yd0_gF8 hw, ↓yd1_al hw, ↓yd1_as hw, ↓yd1_ln hw, ↓yd2_al hw, ↓yd2_as hw, ↓yd2_ln hw, ↓yd3_al hw, ↓yd3_as hw, ↓yd3_ln hw, ↓yd4_al hw, ↓yd4_as hw, ↓yd4_ln hw, ↓sh0_gd hw, ↓sh0_gI hw, ↓sh0_gM hw, ↓sh0_pI hw, ↓sh0_pM hw, ↓sh0_pZ hw, ↓sh0_gF0 hw, ↓sh0_gF1 hw, ↓sh0_gF2 hw, ↓sh0_gF3 hw, ↓sh1_al hw, ↓sh1_as hw, ↓sh1_ln hw, ↓sh2_al hw, ↓sh2_as hw, ↓sh2_ln hw, ↓sh3_al hw, ↓sh3_as hw, ↓sh3_ln hw, ↓qb_so, ↓nm_1, ↓nm_2, ↓reduceIte, if_true, if_false, not_true_eq_false, not_false_eq_true, and_true, true_and, and_false, false_and, or_true, true_or, or_false, false_or, eq_self, ne_eq, quI_s, quI_n, quI2, quL1, quL2, quL3, quR1, quR2, quR3, nI_add, pk_mul, pk_sub, Nat.add_sub_cancel, qm1_add, qm2_add, nI_leI, nI_ltI, nI_eq, nI_m1, nI_m1', nI_clamp, nI_bit, nI_one_shl, nI_m1l, nI_m1lt, nI_m1lt', nI_m1le', oI_some, oI_none, ni_0, ni_1, ni_3, fX6_passDay_L37b, qle_t, qle_f, qlt_t, qlt_f, qeq_t, qeq_f, hr, e1]
  | k + 1, i, q, D, S, hk, hq, h, hD, hG => by
    obtain ⟨q, rfl⟩ : ∃ q', q = q' + 1 := ⟨q - 1, by omega⟩
    have h6 : Y 2 3 ≤ 6 := hY.1.2.2.2
    have hr := h.2.1.1
    have hro := h.2.2.2.1
    have e1 := c_count (s := 3) hb h.1 (by decide)
    obtain ⟨Z1, e, hw1, hf1, hG1⟩ := c_work (n := n) (j := row i) hb hw h hY hD hK hR hn hfr hG (hrow i (by omega))
    obtain ⟨Z, e2, hw2, hf2⟩ := c_jobsL hb hw hY hK hR hn hfr hrow k (i + 1) q _ Z1 (by omega) (by omega) hw1 (s_step_ok hY hD (hrow i (by omega))) hG1
    refine ⟨Z, ?_, hw2, qFr_trans hf1 hf2⟩
    show fX6_passDay_L37b _ _ _ _ _ = _
    simp (disch := (first | assumption | omega | exact hB _ _ | exact hYB _ _ | (simp only [yc, yd, sh, sv, ne_eq]; omega) | (simp (disch := omega) only [↓nm_1, ↓nm_2, nI_add, pk_mul, pk_sub, Nat.add_sub_cancel, qm1_add, qm2_add, nI_clamp, ni_0, ni_1, ni_3, hr, hro, e1, e, e2]; refine qin_nI ?_ ?_ <;> first | omega | exact hB _ _ | exact hYB _ _) | (refine qin_nI ?_ ?_ <;> omega) | fail)) only [↓yc0_gd hb, ↓yc0_gI hb, ↓yc0_gM hb, ↓yc0_pI hb, ↓yc0_pM hb, ↓yc0_pZ hb, ↓yc0_gF0 hb, ↓yc0_gF1 hb, ↓yc0_gF2 hb, ↓yc0_gF3 hb, ↓yc0_gF4 hb, ↓yc0_gF5 hb, ↓yc0_gF6 hb, ↓yc0_gF7 hb, ↓yc0_gF8 hb, ↓yc0_gF9 hb, ↓yc0_gF10 hb, ↓yc0_gF11 hb, ↓yc0_gF12 hb, ↓yc0_gF13 hb, ↓yc1_al hb, ↓yc1_as hb, ↓yc1_ln hb, ↓yc2_al hb, ↓yc2_as hb, ↓yc2_ln hb, ↓yc3_al hb, ↓yc3_as hb, ↓yc3_ln hb, ↓yc4_al hb, ↓yc4_as hb, ↓yc4_ln hb, ↓yc5_al hb, ↓yc5_as hb, ↓yc5_ln hb, ↓yc6_al hb, ↓yc6_as hb, ↓yc6_ln hb, ↓yc7_al hb, ↓yc7_as hb, ↓yc7_ln hb, ↓yc8_al hb, ↓yc8_as hb, ↓yc8_ln hb, ↓yc9_al hb, ↓yc9_as hb, ↓yc9_ln hb, ↓yc10_al hb, ↓yc10_as hb, ↓yc10_ln hb, ↓yc11_al hb, ↓yc11_as hb, ↓yc11_ln hb, ↓yc12_al hb, ↓yc12_as hb, ↓yc12_ln hb, ↓yc13_al hb, ↓yc13_as hb, ↓yc13_ln hb, ↓yc14_gd hb, ↓yc14_gI hb, ↓yc14_gM hb, ↓yc14_pI hb, ↓yc14_pM hb, ↓yc14_pZ hb, ↓yc14_gF0 hb, ↓yc14_gF1 hb, ↓yc15_al hb, ↓yc15_as hb, ↓yc15_ln hb, ↓yc16_al hb, ↓yc16_as hb, ↓yc16_ln hb, ↓yd0_gd hw, ↓yd0_gI hw, ↓yd0_gM hw, ↓yd0_pI hw, ↓yd0_pM hw, ↓yd0_pZ hw, ↓yd0_gF5 hw, ↓yd0_gF6 hw, ↓yd0_gF7 hw, ↓yd0_gF8 hw, ↓yd1_al hw, ↓yd1_as hw, ↓yd1_ln hw, ↓yd2_al hw, ↓yd2_as hw, ↓yd2_ln hw, ↓yd3_al hw, ↓yd3_as hw, ↓yd3_ln hw, ↓yd4_al hw, ↓yd4_as hw, ↓yd4_ln hw, ↓sh0_gd hw, ↓sh0_gI hw, ↓sh0_gM hw, ↓sh0_pI hw, ↓sh0_pM hw, ↓sh0_pZ hw, ↓sh0_gF0 hw, ↓sh0_gF1 hw, ↓sh0_gF2 hw, ↓sh0_gF3 hw, ↓sh1_al hw, ↓sh1_as hw, ↓sh1_ln hw, ↓sh2_al hw, ↓sh2_as hw, ↓sh2_ln hw, ↓sh3_al hw, ↓sh3_as hw, ↓sh3_ln hw, ↓qb_so, ↓nm_1, ↓nm_2, ↓reduceIte, if_true, if_false, not_true_eq_false, not_false_eq_true, and_true, true_and, and_false, false_and, or_true, true_or, or_false, false_or, eq_self, ne_eq, quI_s, quI_n, quI2, quL1, quL2, quL3, quR1, quR2, quR3, nI_add, pk_mul, pk_sub, Nat.add_sub_cancel, qm1_add, qm2_add, nI_leI, nI_ltI, nI_eq, nI_m1, nI_m1', nI_clamp, nI_bit, nI_one_shl, nI_m1l, nI_m1lt, nI_m1lt', nI_m1le', oI_some, oI_none, ni_0, ni_1, ni_3, fX6_passDay_L37b, qle_t, qle_f, qlt_t, qlt_f, qeq_t, qeq_f, hr, hro, e1, e, e2]
theorem c_paysL (hb : b < 2) (hw : w < 2) (hY : yrOk Y) : ∀ (k j q : Nat) (D : Nat → Nat → Nat) (S : xSt), j + k = Y 2 3 → k < q → cW S b w Y mc wc R row D → dOk Y D → D 5 2 ≤ 6000 * D 0 0 + 999 * j →
    ∃ Z, fX6_payForLate_L2 n (sh w 0) q (nI j) S = some Z ∧ cW Z b w Y mc wc R row (s_paysL Y k j D) ∧ qFr (eP w) S Z
  | 0, j, q, D, S, hk, hq, h, hD, hl => by
    obtain ⟨q, rfl⟩ : ∃ q', q = q' + 1 := ⟨q - 1, by omega⟩
    have h6 : Y 2 3 ≤ 6 := hY.1.2.2.2
    have hr := h.2.1.1
    have e1 := c_count (s := 3) hb h.1 (by decide)
    refine ⟨S, ?_, h, qFr_refl⟩
    show fX6_payForLate_L2b _ _ _ _ _ = _
    simp (disch := (first | assumption | omega | exact hB _ _ | exact hYB _ _ | (simp only [yc, yd, sh, sv, ne_eq]; omega) | (simp (disch := omega) only [↓nm_1, ↓nm_2, nI_add, pk_mul, pk_sub, Nat.add_sub_cancel, qm1_add, qm2_add, nI_clamp, ni_0, ni_1, ni_3, hr, e1]; refine qin_nI ?_ ?_ <;> first | omega | exact hB _ _ | exact hYB _ _) | (refine qin_nI ?_ ?_ <;> omega) | fail)) only [↓yc0_gd hb, ↓yc0_gI hb, ↓yc0_gM hb, ↓yc0_pI hb, ↓yc0_pM hb, ↓yc0_pZ hb, ↓yc0_gF0 hb, ↓yc0_gF1 hb, ↓yc0_gF2 hb, ↓yc0_gF3 hb, ↓yc0_gF4 hb, ↓yc0_gF5 hb, ↓yc0_gF6 hb, ↓yc0_gF7 hb, ↓yc0_gF8 hb, ↓yc0_gF9 hb, ↓yc0_gF10 hb, ↓yc0_gF11 hb, ↓yc0_gF12 hb, ↓yc0_gF13 hb, ↓yc1_al hb, ↓yc1_as hb, ↓yc1_ln hb, ↓yc2_al hb, ↓yc2_as hb, ↓yc2_ln hb, ↓yc3_al hb, ↓yc3_as hb, ↓yc3_ln hb, ↓yc4_al hb, ↓yc4_as hb, ↓yc4_ln hb, ↓yc5_al hb, ↓yc5_as hb, ↓yc5_ln hb, ↓yc6_al hb, ↓yc6_as hb, ↓yc6_ln hb, ↓yc7_al hb, ↓yc7_as hb, ↓yc7_ln hb, ↓yc8_al hb, ↓yc8_as hb, ↓yc8_ln hb, ↓yc9_al hb, ↓yc9_as hb, ↓yc9_ln hb, ↓yc10_al hb, ↓yc10_as hb, ↓yc10_ln hb, ↓yc11_al hb, ↓yc11_as hb, ↓yc11_ln hb, ↓yc12_al hb, ↓yc12_as hb, ↓yc12_ln hb, ↓yc13_al hb, ↓yc13_as hb, ↓yc13_ln hb, ↓yc14_gd hb, ↓yc14_gI hb, ↓yc14_gM hb, ↓yc14_pI hb, ↓yc14_pM hb, ↓yc14_pZ hb, ↓yc14_gF0 hb, ↓yc14_gF1 hb, ↓yc15_al hb, ↓yc15_as hb, ↓yc15_ln hb, ↓yc16_al hb, ↓yc16_as hb, ↓yc16_ln hb, ↓yd0_gd hw, ↓yd0_gI hw, ↓yd0_gM hw, ↓yd0_pI hw, ↓yd0_pM hw, ↓yd0_pZ hw, ↓yd0_gF5 hw, ↓yd0_gF6 hw, ↓yd0_gF7 hw, ↓yd0_gF8 hw, ↓yd1_al hw, ↓yd1_as hw, ↓yd1_ln hw, ↓yd2_al hw, ↓yd2_as hw, ↓yd2_ln hw, ↓yd3_al hw, ↓yd3_as hw, ↓yd3_ln hw, ↓yd4_al hw, ↓yd4_as hw, ↓yd4_ln hw, ↓sh0_gd hw, ↓sh0_gI hw, ↓sh0_gM hw, ↓sh0_pI hw, ↓sh0_pM hw, ↓sh0_pZ hw, ↓sh0_gF0 hw, ↓sh0_gF1 hw, ↓sh0_gF2 hw, ↓sh0_gF3 hw, ↓sh1_al hw, ↓sh1_as hw, ↓sh1_ln hw, ↓sh2_al hw, ↓sh2_as hw, ↓sh2_ln hw, ↓sh3_al hw, ↓sh3_as hw, ↓sh3_ln hw, ↓qb_so, ↓nm_1, ↓nm_2, ↓reduceIte, if_true, if_false, not_true_eq_false, not_false_eq_true, and_true, true_and, and_false, false_and, or_true, true_or, or_false, false_or, eq_self, ne_eq, quI_s, quI_n, quI2, quL1, quL2, quL3, quR1, quR2, quR3, nI_add, pk_mul, pk_sub, Nat.add_sub_cancel, qm1_add, qm2_add, nI_leI, nI_ltI, nI_eq, nI_m1, nI_m1', nI_clamp, nI_bit, nI_one_shl, nI_m1l, nI_m1lt, nI_m1lt', nI_m1le', oI_some, oI_none, ni_0, ni_1, ni_3, fX6_payForLate_L2b, qle_t, qle_f, qlt_t, qlt_f, qeq_t, qeq_f, hr, e1]
  | k + 1, j, q, D, S, hk, hq, h, hD, hl => by
    obtain ⟨q, rfl⟩ : ∃ q', q = q' + 1 := ⟨q - 1, by omega⟩
    have hYB := yrOk_B hY
    have hB := dOk_B hD
    have h6 : Y 2 3 ≤ 6 := hY.1.2.2.2
    have hr := h.2.1.1
    have hr5 := h.2.1.2
    have hy := h.1.1
    have u9 := h.2.2.2.2.2.1.2.2.1
    have e1 := c_count (s := 3) hb h.1 (by decide)
    have b999 : D 0 0 ≤ 999 := hD.1
    have b4 := hD.2.2.2.2.2.2.2.1
    have b3 : D 0 1 ≤ 9999 := hD.2.1
    have b17 : Y 0 17 ≤ 100 := hY.2.2.2.2.2.2.2.2.2.1
    have hl9 := s_late_le hD j
    have e2 := c_late (j := j) hb hw h.1 h.2.2.2.2.1 hYB hB (by omega) (fun j => by have := b4 j; omega) (by omega) (by omega)
    obtain ⟨o1, o2, o3⟩ := s_pays_ok hY hD hl (by omega)
    have s1 := cW_5 (j := 2) (v := D 5 2 + s_late Y D j) hb hw (by decide) h
    by_cases hc : s_late Y D j ≤ 0
    · have ed : s_pays Y D j = dU D 5 2 (D 5 2 + s_late Y D j) := by unfold s_pays; rw [if_pos hc]
      rw [ed] at o1 o2
      obtain ⟨Z, e3, hz, hf⟩ := c_paysL hb hw hY k (j + 1) q _ _ (by omega) (by omega) s1 o1 o2
      refine ⟨Z, ?_, by unfold s_paysL; rw [ed]; exact hz, qFr_trans (qFr_upd eP_s) hf⟩
      show fX6_payForLate_L2b _ _ _ _ _ = _
      have e3' : fX6_payForLate_L2 n (sh w 0) q (nI (j + 1)) (xuI S (sh w 0) 9 (nI (D 5 2 + s_late Y D j))) = some Z := e3
      simp (disch := (first | assumption | omega | exact hB _ _ | exact hYB _ _ | (simp only [yc, yd, sh, sv, ne_eq]; omega) | (simp (disch := omega) only [↓nm_1, ↓nm_2, nI_add, pk_mul, pk_sub, Nat.add_sub_cancel, qm1_add, qm2_add, nI_clamp, ni_0, ni_1, ni_3, hr, hr5, u9, e1, e2, e3', hc]; refine qin_nI ?_ ?_ <;> first | omega | exact hB _ _ | exact hYB _ _) | (refine qin_nI ?_ ?_ <;> omega) | fail)) only [↓yc0_gd hb, ↓yc0_gI hb, ↓yc0_gM hb, ↓yc0_pI hb, ↓yc0_pM hb, ↓yc0_pZ hb, ↓yc0_gF0 hb, ↓yc0_gF1 hb, ↓yc0_gF2 hb, ↓yc0_gF3 hb, ↓yc0_gF4 hb, ↓yc0_gF5 hb, ↓yc0_gF6 hb, ↓yc0_gF7 hb, ↓yc0_gF8 hb, ↓yc0_gF9 hb, ↓yc0_gF10 hb, ↓yc0_gF11 hb, ↓yc0_gF12 hb, ↓yc0_gF13 hb, ↓yc1_al hb, ↓yc1_as hb, ↓yc1_ln hb, ↓yc2_al hb, ↓yc2_as hb, ↓yc2_ln hb, ↓yc3_al hb, ↓yc3_as hb, ↓yc3_ln hb, ↓yc4_al hb, ↓yc4_as hb, ↓yc4_ln hb, ↓yc5_al hb, ↓yc5_as hb, ↓yc5_ln hb, ↓yc6_al hb, ↓yc6_as hb, ↓yc6_ln hb, ↓yc7_al hb, ↓yc7_as hb, ↓yc7_ln hb, ↓yc8_al hb, ↓yc8_as hb, ↓yc8_ln hb, ↓yc9_al hb, ↓yc9_as hb, ↓yc9_ln hb, ↓yc10_al hb, ↓yc10_as hb, ↓yc10_ln hb, ↓yc11_al hb, ↓yc11_as hb, ↓yc11_ln hb, ↓yc12_al hb, ↓yc12_as hb, ↓yc12_ln hb, ↓yc13_al hb, ↓yc13_as hb, ↓yc13_ln hb, ↓yc14_gd hb, ↓yc14_gI hb, ↓yc14_gM hb, ↓yc14_pI hb, ↓yc14_pM hb, ↓yc14_pZ hb, ↓yc14_gF0 hb, ↓yc14_gF1 hb, ↓yc15_al hb, ↓yc15_as hb, ↓yc15_ln hb, ↓yc16_al hb, ↓yc16_as hb, ↓yc16_ln hb, ↓yd0_gd hw, ↓yd0_gI hw, ↓yd0_gM hw, ↓yd0_pI hw, ↓yd0_pM hw, ↓yd0_pZ hw, ↓yd0_gF5 hw, ↓yd0_gF6 hw, ↓yd0_gF7 hw, ↓yd0_gF8 hw, ↓yd1_al hw, ↓yd1_as hw, ↓yd1_ln hw, ↓yd2_al hw, ↓yd2_as hw, ↓yd2_ln hw, ↓yd3_al hw, ↓yd3_as hw, ↓yd3_ln hw, ↓yd4_al hw, ↓yd4_as hw, ↓yd4_ln hw, ↓sh0_gd hw, ↓sh0_gI hw, ↓sh0_gM hw, ↓sh0_pI hw, ↓sh0_pM hw, ↓sh0_pZ hw, ↓sh0_gF0 hw, ↓sh0_gF1 hw, ↓sh0_gF2 hw, ↓sh0_gF3 hw, ↓sh1_al hw, ↓sh1_as hw, ↓sh1_ln hw, ↓sh2_al hw, ↓sh2_as hw, ↓sh2_ln hw, ↓sh3_al hw, ↓sh3_as hw, ↓sh3_ln hw, ↓qb_so, ↓nm_1, ↓nm_2, ↓reduceIte, if_true, if_false, not_true_eq_false, not_false_eq_true, and_true, true_and, and_false, false_and, or_true, true_or, or_false, false_or, eq_self, ne_eq, quI_s, quI_n, quI2, quL1, quL2, quL3, quR1, quR2, quR3, nI_add, pk_mul, pk_sub, Nat.add_sub_cancel, qm1_add, qm2_add, nI_leI, nI_ltI, nI_eq, nI_m1, nI_m1', nI_clamp, nI_bit, nI_one_shl, nI_m1l, nI_m1lt, nI_m1lt', nI_m1le', oI_some, oI_none, ni_0, ni_1, ni_3, fX6_payForLate_L2b, qle_t, qle_f, qlt_t, qlt_f, qeq_t, qeq_f, hr, hr5, u9, e1, e2, e3', hc]
    · have ed : s_pays Y D j = s_pay Y (dU D 5 2 (D 5 2 + s_late Y D j)) := by unfold s_pays; rw [if_neg hc]
      rw [ed] at o1 o2
      have s2 := cW_0 (j := 1) (v := if D 0 1 + Y 0 17 < 9999 then D 0 1 + Y 0 17 else 9999) hb hw (by decide) s1
      have ep := c_pay (f := Y 0 17) hw s1.2.2.2.2.1 (show D 0 1 + Y 0 17 < 2 ^ 31 by omega)
      have ep' : fX8_pay (yd w 0) (nI (Y 0 17)) (xuI S (sh w 0) 9 (nI (D 5 2 + s_late Y D j))) = some (xuI (xuI S (sh w 0) 9 (nI (D 5 2 + s_late Y D j))) (yd w 0) 1 (nI (if D 0 1 + Y 0 17 < 9999 then D 0 1 + Y 0 17 else 9999))) := ep
      obtain ⟨Z, e3, hz, hf⟩ := c_paysL hb hw hY k (j + 1) q _ _ (by omega) (by omega) s2 o1 o2
      have e3' : fX6_payForLate_L2 n (sh w 0) q (nI (j + 1)) (xuI (xuI S (sh w 0) 9 (nI (D 5 2 + s_late Y D j))) (yd w 0) 1 (nI (if D 0 1 + Y 0 17 < 9999 then D 0 1 + Y 0 17 else 9999))) = some Z := e3
      refine ⟨Z, ?_, by unfold s_paysL; rw [ed]; exact hz, qFr_trans (qFr_trans (qFr_upd eP_s) (qFr_upd (eP_y (by decide)))) hf⟩
      show fX6_payForLate_L2b _ _ _ _ _ = _
      simp (disch := (first | assumption | omega | exact hB _ _ | exact hYB _ _ | (simp only [yc, yd, sh, sv, ne_eq]; omega) | (simp (disch := omega) only [↓nm_1, ↓nm_2, nI_add, pk_mul, pk_sub, Nat.add_sub_cancel, qm1_add, qm2_add, nI_clamp, ni_0, ni_1, ni_3, hr, hr5, hy, u9, e1, e2, ep', e3', hc]; refine qin_nI ?_ ?_ <;> first | omega | exact hB _ _ | exact hYB _ _) | (refine qin_nI ?_ ?_ <;> omega) | fail)) only [↓yc0_gd hb, ↓yc0_gI hb, ↓yc0_gM hb, ↓yc0_pI hb, ↓yc0_pM hb, ↓yc0_pZ hb, ↓yc0_gF0 hb, ↓yc0_gF1 hb, ↓yc0_gF2 hb, ↓yc0_gF3 hb, ↓yc0_gF4 hb, ↓yc0_gF5 hb, ↓yc0_gF6 hb, ↓yc0_gF7 hb, ↓yc0_gF8 hb, ↓yc0_gF9 hb, ↓yc0_gF10 hb, ↓yc0_gF11 hb, ↓yc0_gF12 hb, ↓yc0_gF13 hb, ↓yc1_al hb, ↓yc1_as hb, ↓yc1_ln hb, ↓yc2_al hb, ↓yc2_as hb, ↓yc2_ln hb, ↓yc3_al hb, ↓yc3_as hb, ↓yc3_ln hb, ↓yc4_al hb, ↓yc4_as hb, ↓yc4_ln hb, ↓yc5_al hb, ↓yc5_as hb, ↓yc5_ln hb, ↓yc6_al hb, ↓yc6_as hb, ↓yc6_ln hb, ↓yc7_al hb, ↓yc7_as hb, ↓yc7_ln hb, ↓yc8_al hb, ↓yc8_as hb, ↓yc8_ln hb, ↓yc9_al hb, ↓yc9_as hb, ↓yc9_ln hb, ↓yc10_al hb, ↓yc10_as hb, ↓yc10_ln hb, ↓yc11_al hb, ↓yc11_as hb, ↓yc11_ln hb, ↓yc12_al hb, ↓yc12_as hb, ↓yc12_ln hb, ↓yc13_al hb, ↓yc13_as hb, ↓yc13_ln hb, ↓yc14_gd hb, ↓yc14_gI hb, ↓yc14_gM hb, ↓yc14_pI hb, ↓yc14_pM hb, ↓yc14_pZ hb, ↓yc14_gF0 hb, ↓yc14_gF1 hb, ↓yc15_al hb, ↓yc15_as hb, ↓yc15_ln hb, ↓yc16_al hb, ↓yc16_as hb, ↓yc16_ln hb, ↓yd0_gd hw, ↓yd0_gI hw, ↓yd0_gM hw, ↓yd0_pI hw, ↓yd0_pM hw, ↓yd0_pZ hw, ↓yd0_gF5 hw, ↓yd0_gF6 hw, ↓yd0_gF7 hw, ↓yd0_gF8 hw, ↓yd1_al hw, ↓yd1_as hw, ↓yd1_ln hw, ↓yd2_al hw, ↓yd2_as hw, ↓yd2_ln hw, ↓yd3_al hw, ↓yd3_as hw, ↓yd3_ln hw, ↓yd4_al hw, ↓yd4_as hw, ↓yd4_ln hw, ↓sh0_gd hw, ↓sh0_gI hw, ↓sh0_gM hw, ↓sh0_pI hw, ↓sh0_pM hw, ↓sh0_pZ hw, ↓sh0_gF0 hw, ↓sh0_gF1 hw, ↓sh0_gF2 hw, ↓sh0_gF3 hw, ↓sh1_al hw, ↓sh1_as hw, ↓sh1_ln hw, ↓sh2_al hw, ↓sh2_as hw, ↓sh2_ln hw, ↓sh3_al hw, ↓sh3_as hw, ↓sh3_ln hw, ↓qb_so, ↓nm_1, ↓nm_2, ↓reduceIte, if_true, if_false, not_true_eq_false, not_false_eq_true, and_true, true_and, and_false, false_and, or_true, true_or, or_false, false_or, eq_self, ne_eq, quI_s, quI_n, quI2, quL1, quL2, quL3, quR1, quR2, quR3, nI_add, pk_mul, pk_sub, Nat.add_sub_cancel, qm1_add, qm2_add, nI_leI, nI_ltI, nI_eq, nI_m1, nI_m1', nI_clamp, nI_bit, nI_one_shl, nI_m1l, nI_m1lt, nI_m1lt', nI_m1le', oI_some, oI_none, ni_0, ni_1, ni_3, fX6_payForLate_L2b, qle_t, qle_f, qlt_t, qlt_f, qeq_t, qeq_f, hr, hr5, hy, u9, e1, e2, ep', e3', hc]
def s_mendT (D : Nat → Nat → Nat) (m : Nat) : Nat → Nat → Nat := fun c t => if c = 1 then (if t < m ∧ (D 0 2).testBit t = true then 0 else D c t) else D c t
theorem s_mendT_t {D : Nat → Nat → Nat} {m : Nat} (h : (D 0 2).testBit m = true) : dU (s_mendT D m) 1 m 0 = s_mendT D (m + 1) := by
  funext c t
  unfold dU s_mendT
  by_cases hc : c = 1
  · subst hc
    simp only [if_true]
    by_cases ht : t = m
    · subst ht
      rw [if_pos rfl, if_pos ⟨by omega, h⟩]
    · rw [if_neg ht]
      by_cases h2 : t < m ∧ (D 0 2).testBit t = true
      · rw [if_pos h2, if_pos ⟨by omega, h2.2⟩]
      · rw [if_neg h2, if_neg (fun h3 => h2 ⟨by omega, h3.2⟩)]
  · rw [if_neg hc, if_neg hc, if_neg hc]
theorem s_mendT_f {D : Nat → Nat → Nat} {m : Nat} (h : (D 0 2).testBit m = false) : s_mendT D m = s_mendT D (m + 1) := by
  funext c t
  unfold s_mendT
  by_cases hc : c = 1
  · rw [if_pos hc, if_pos hc]
    by_cases h2 : t < m ∧ (D 0 2).testBit t = true
    · rw [if_pos h2, if_pos ⟨by omega, h2.2⟩]
    · rw [if_neg h2, if_neg]
      intro h3
      by_cases ht : t = m
      · subst ht; rw [h] at h3; cases h3.2
      · exact h2 ⟨by omega, h3.2⟩
  · rw [if_neg hc, if_neg hc]
theorem c_mendL (hb : b < 2) (hw : w < 2) (hB : ∀ c j, D c j < 2 ^ 31) : ∀ (k m q : Nat) (S : xSt), m + k = 8 → k < q → cW S b w Y mc wc R row (s_mendT D m) →
    ∃ Z, fX6_mend_L38 n (sh w 0) q (nI m) S = some Z ∧ cW Z b w Y mc wc R row (s_mendT D 8) ∧ qFr (eP w) S Z
  | 0, m, q, S, hk, hq, h => by
    obtain ⟨q, rfl⟩ : ∃ q', q = q' + 1 := ⟨q - 1, by omega⟩
    obtain rfl : m = 8 := by omega
    refine ⟨S, ?_, h, qFr_refl⟩
    show fX6_mend_L38b _ _ _ _ _ = _
    simp (disch := (first | assumption | omega | exact hB _ _ | exact hYB _ _ | (simp only [yc, yd, sh, sv, ne_eq]; omega) | (simp (disch := omega) only [↓nm_1, ↓nm_2, nI_add, pk_mul, pk_sub, Nat.add_sub_cancel, qm1_add, qm2_add, nI_clamp, ni_0, ni_1, ni_8]; refine qin_nI ?_ ?_ <;> first | omega | exact hB _ _ | exact hYB _ _) | (refine qin_nI ?_ ?_ <;> omega) | fail)) only [↓yc0_gd hb, ↓yc0_gI hb, ↓yc0_gM hb, ↓yc0_pI hb, ↓yc0_pM hb, ↓yc0_pZ hb, ↓yc0_gF0 hb, ↓yc0_gF1 hb, ↓yc0_gF2 hb, ↓yc0_gF3 hb, ↓yc0_gF4 hb, ↓yc0_gF5 hb, ↓yc0_gF6 hb, ↓yc0_gF7 hb, ↓yc0_gF8 hb, ↓yc0_gF9 hb, ↓yc0_gF10 hb, ↓yc0_gF11 hb, ↓yc0_gF12 hb, ↓yc0_gF13 hb, ↓yc1_al hb, ↓yc1_as hb, ↓yc1_ln hb, ↓yc2_al hb, ↓yc2_as hb, ↓yc2_ln hb, ↓yc3_al hb, ↓yc3_as hb, ↓yc3_ln hb, ↓yc4_al hb, ↓yc4_as hb, ↓yc4_ln hb, ↓yc5_al hb, ↓yc5_as hb, ↓yc5_ln hb, ↓yc6_al hb, ↓yc6_as hb, ↓yc6_ln hb, ↓yc7_al hb, ↓yc7_as hb, ↓yc7_ln hb, ↓yc8_al hb, ↓yc8_as hb, ↓yc8_ln hb, ↓yc9_al hb, ↓yc9_as hb, ↓yc9_ln hb, ↓yc10_al hb, ↓yc10_as hb, ↓yc10_ln hb, ↓yc11_al hb, ↓yc11_as hb, ↓yc11_ln hb, ↓yc12_al hb, ↓yc12_as hb, ↓yc12_ln hb, ↓yc13_al hb, ↓yc13_as hb, ↓yc13_ln hb, ↓yc14_gd hb, ↓yc14_gI hb, ↓yc14_gM hb, ↓yc14_pI hb, ↓yc14_pM hb, ↓yc14_pZ hb, ↓yc14_gF0 hb, ↓yc14_gF1 hb, ↓yc15_al hb, ↓yc15_as hb, ↓yc15_ln hb, ↓yc16_al hb, ↓yc16_as hb, ↓yc16_ln hb, ↓yd0_gd hw, ↓yd0_gI hw, ↓yd0_gM hw, ↓yd0_pI hw, ↓yd0_pM hw, ↓yd0_pZ hw, ↓yd0_gF5 hw, ↓yd0_gF6 hw, ↓yd0_gF7 hw, ↓yd0_gF8 hw, ↓yd1_al hw, ↓yd1_as hw, ↓yd1_ln hw, ↓yd2_al hw, ↓yd2_as hw, ↓yd2_ln hw, ↓yd3_al hw, ↓yd3_as hw, ↓yd3_ln hw, ↓yd4_al hw, ↓yd4_as hw, ↓yd4_ln hw, ↓sh0_gd hw, ↓sh0_gI hw, ↓sh0_gM hw, ↓sh0_pI hw, ↓sh0_pM hw, ↓sh0_pZ hw, ↓sh0_gF0 hw, ↓sh0_gF1 hw, ↓sh0_gF2 hw, ↓sh0_gF3 hw, ↓sh1_al hw, ↓sh1_as hw, ↓sh1_ln hw, ↓sh2_al hw, ↓sh2_as hw, ↓sh2_ln hw, ↓sh3_al hw, ↓sh3_as hw, ↓sh3_ln hw, ↓qb_so, ↓nm_1, ↓nm_2, ↓reduceIte, if_true, if_false, not_true_eq_false, not_false_eq_true, and_true, true_and, and_false, false_and, or_true, true_or, or_false, false_or, eq_self, ne_eq, quI_s, quI_n, quI2, quL1, quL2, quL3, quR1, quR2, quR3, nI_add, pk_mul, pk_sub, Nat.add_sub_cancel, qm1_add, qm2_add, nI_leI, nI_ltI, nI_eq, nI_m1, nI_m1', nI_clamp, nI_bit, nI_one_shl, nI_m1l, nI_m1lt, nI_m1lt', nI_m1le', oI_some, oI_none, ni_0, ni_1, ni_8, fX6_mend_L38b, qle_t, qle_f, qlt_t, qlt_f, qeq_t, qeq_f]
  | k + 1, m, q, S, hk, hq, h => by
    obtain ⟨q, rfl⟩ : ∃ q', q = q' + 1 := ⟨q - 1, by omega⟩
    have hr5 := h.2.1.2
    have hd0 : S.1 (yd w 0) 2 = nI (D 0 2) := h.2.2.2.2.1.1 2 (by decide)
    show ∃ Z, fX6_mend_L38b _ _ _ _ _ = _ ∧ _
    cases hu : (D 0 2).testBit m with
    | true =>
      have h2 := cW_d (c := 1) (j := m) (v := 0) hb hw (by decide) (by decide) h
      rw [s_mendT_t hu] at h2
      obtain ⟨Z, e, hz, hf⟩ := c_mendL hb hw hB k (m + 1) q _ (by omega) (by omega) h2
      refine ⟨Z, ?_, hz, qFr_trans (qFr_upd (eP_y (by decide))) hf⟩
      simp (disch := (first | assumption | omega | exact hB _ _ | exact hYB _ _ | (simp only [yc, yd, sh, sv, ne_eq]; omega) | (simp (disch := omega) only [↓nm_1, ↓nm_2, nI_add, pk_mul, pk_sub, Nat.add_sub_cancel, qm1_add, qm2_add, nI_clamp, ni_0, ni_1, ni_8, hr5, hd0, qbit_t hu, e]; refine qin_nI ?_ ?_ <;> first | omega | exact hB _ _ | exact hYB _ _) | (refine qin_nI ?_ ?_ <;> omega) | fail)) only [↓yc0_gd hb, ↓yc0_gI hb, ↓yc0_gM hb, ↓yc0_pI hb, ↓yc0_pM hb, ↓yc0_pZ hb, ↓yc0_gF0 hb, ↓yc0_gF1 hb, ↓yc0_gF2 hb, ↓yc0_gF3 hb, ↓yc0_gF4 hb, ↓yc0_gF5 hb, ↓yc0_gF6 hb, ↓yc0_gF7 hb, ↓yc0_gF8 hb, ↓yc0_gF9 hb, ↓yc0_gF10 hb, ↓yc0_gF11 hb, ↓yc0_gF12 hb, ↓yc0_gF13 hb, ↓yc1_al hb, ↓yc1_as hb, ↓yc1_ln hb, ↓yc2_al hb, ↓yc2_as hb, ↓yc2_ln hb, ↓yc3_al hb, ↓yc3_as hb, ↓yc3_ln hb, ↓yc4_al hb, ↓yc4_as hb, ↓yc4_ln hb, ↓yc5_al hb, ↓yc5_as hb, ↓yc5_ln hb, ↓yc6_al hb, ↓yc6_as hb, ↓yc6_ln hb, ↓yc7_al hb, ↓yc7_as hb, ↓yc7_ln hb, ↓yc8_al hb, ↓yc8_as hb, ↓yc8_ln hb, ↓yc9_al hb, ↓yc9_as hb, ↓yc9_ln hb, ↓yc10_al hb, ↓yc10_as hb, ↓yc10_ln hb, ↓yc11_al hb, ↓yc11_as hb, ↓yc11_ln hb, ↓yc12_al hb, ↓yc12_as hb, ↓yc12_ln hb, ↓yc13_al hb, ↓yc13_as hb, ↓yc13_ln hb, ↓yc14_gd hb, ↓yc14_gI hb, ↓yc14_gM hb, ↓yc14_pI hb, ↓yc14_pM hb, ↓yc14_pZ hb, ↓yc14_gF0 hb, ↓yc14_gF1 hb, ↓yc15_al hb, ↓yc15_as hb, ↓yc15_ln hb, ↓yc16_al hb, ↓yc16_as hb, ↓yc16_ln hb, ↓yd0_gd hw, ↓yd0_gI hw, ↓yd0_gM hw, ↓yd0_pI hw, ↓yd0_pM hw, ↓yd0_pZ hw, ↓yd0_gF5 hw, ↓yd0_gF6 hw, ↓yd0_gF7 hw, ↓yd0_gF8 hw, ↓yd1_al hw, ↓yd1_as hw, ↓yd1_ln hw, ↓yd2_al hw, ↓yd2_as hw, ↓yd2_ln hw, ↓yd3_al hw, ↓yd3_as hw, ↓yd3_ln hw, ↓yd4_al hw, ↓yd4_as hw, ↓yd4_ln hw, ↓sh0_gd hw, ↓sh0_gI hw, ↓sh0_gM hw, ↓sh0_pI hw, ↓sh0_pM hw, ↓sh0_pZ hw, ↓sh0_gF0 hw, ↓sh0_gF1 hw, ↓sh0_gF2 hw, ↓sh0_gF3 hw, ↓sh1_al hw, ↓sh1_as hw, ↓sh1_ln hw, ↓sh2_al hw, ↓sh2_as hw, ↓sh2_ln hw, ↓sh3_al hw, ↓sh3_as hw, ↓sh3_ln hw, ↓qb_so, ↓nm_1, ↓nm_2, ↓reduceIte, if_true, if_false, not_true_eq_false, not_false_eq_true, and_true, true_and, and_false, false_and, or_true, true_or, or_false, false_or, eq_self, ne_eq, quI_s, quI_n, quI2, quL1, quL2, quL3, quR1, quR2, quR3, nI_add, pk_mul, pk_sub, Nat.add_sub_cancel, qm1_add, qm2_add, nI_leI, nI_ltI, nI_eq, nI_m1, nI_m1', nI_clamp, nI_bit, nI_one_shl, nI_m1l, nI_m1lt, nI_m1lt', nI_m1le', oI_some, oI_none, ni_0, ni_1, ni_8, fX6_mend_L38b, qle_t, qle_f, qlt_t, qlt_f, qeq_t, qeq_f, hr5, hd0, qbit_t hu, e]
    | false =>
      rw [s_mendT_f hu] at h
      obtain ⟨Z, e, hz, hf⟩ := c_mendL hb hw hB k (m + 1) q _ (by omega) (by omega) h
      refine ⟨Z, ?_, hz, hf⟩
      simp (disch := (first | assumption | omega | exact hB _ _ | exact hYB _ _ | (simp only [yc, yd, sh, sv, ne_eq]; omega) | (simp (disch := omega) only [↓nm_1, ↓nm_2, nI_add, pk_mul, pk_sub, Nat.add_sub_cancel, qm1_add, qm2_add, nI_clamp, ni_0, ni_1, ni_8, hr5, hd0, qbit_f hu, e]; refine qin_nI ?_ ?_ <;> first | omega | exact hB _ _ | exact hYB _ _) | (refine qin_nI ?_ ?_ <;> omega) | fail)) only [↓yc0_gd hb, ↓yc0_gI hb, ↓yc0_gM hb, ↓yc0_pI hb, ↓yc0_pM hb, ↓yc0_pZ hb, ↓yc0_gF0 hb, ↓yc0_gF1 hb, ↓yc0_gF2 hb, ↓yc0_gF3 hb, ↓yc0_gF4 hb, ↓yc0_gF5 hb, ↓yc0_gF6 hb, ↓yc0_gF7 hb, ↓yc0_gF8 hb, ↓yc0_gF9 hb, ↓yc0_gF10 hb, ↓yc0_gF11 hb, ↓yc0_gF12 hb, ↓yc0_gF13 hb, ↓yc1_al hb, ↓yc1_as hb, ↓yc1_ln hb, ↓yc2_al hb, ↓yc2_as hb, ↓yc2_ln hb, ↓yc3_al hb, ↓yc3_as hb, ↓yc3_ln hb, ↓yc4_al hb, ↓yc4_as hb, ↓yc4_ln hb, ↓yc5_al hb, ↓yc5_as hb, ↓yc5_ln hb, ↓yc6_al hb, ↓yc6_as hb, ↓yc6_ln hb, ↓yc7_al hb, ↓yc7_as hb, ↓yc7_ln hb, ↓yc8_al hb, ↓yc8_as hb, ↓yc8_ln hb, ↓yc9_al hb, ↓yc9_as hb, ↓yc9_ln hb, ↓yc10_al hb, ↓yc10_as hb, ↓yc10_ln hb, ↓yc11_al hb, ↓yc11_as hb, ↓yc11_ln hb, ↓yc12_al hb, ↓yc12_as hb, ↓yc12_ln hb, ↓yc13_al hb, ↓yc13_as hb, ↓yc13_ln hb, ↓yc14_gd hb, ↓yc14_gI hb, ↓yc14_gM hb, ↓yc14_pI hb, ↓yc14_pM hb, ↓yc14_pZ hb, ↓yc14_gF0 hb, ↓yc14_gF1 hb, ↓yc15_al hb, ↓yc15_as hb, ↓yc15_ln hb, ↓yc16_al hb, ↓yc16_as hb, ↓yc16_ln hb, ↓yd0_gd hw, ↓yd0_gI hw, ↓yd0_gM hw, ↓yd0_pI hw, ↓yd0_pM hw, ↓yd0_pZ hw, ↓yd0_gF5 hw, ↓yd0_gF6 hw, ↓yd0_gF7 hw, ↓yd0_gF8 hw, ↓yd1_al hw, ↓yd1_as hw, ↓yd1_ln hw, ↓yd2_al hw, ↓yd2_as hw, ↓yd2_ln hw, ↓yd3_al hw, ↓yd3_as hw, ↓yd3_ln hw, ↓yd4_al hw, ↓yd4_as hw, ↓yd4_ln hw, ↓sh0_gd hw, ↓sh0_gI hw, ↓sh0_gM hw, ↓sh0_pI hw, ↓sh0_pM hw, ↓sh0_pZ hw, ↓sh0_gF0 hw, ↓sh0_gF1 hw, ↓sh0_gF2 hw, ↓sh0_gF3 hw, ↓sh1_al hw, ↓sh1_as hw, ↓sh1_ln hw, ↓sh2_al hw, ↓sh2_as hw, ↓sh2_ln hw, ↓sh3_al hw, ↓sh3_as hw, ↓sh3_ln hw, ↓qb_so, ↓nm_1, ↓nm_2, ↓reduceIte, if_true, if_false, not_true_eq_false, not_false_eq_true, and_true, true_and, and_false, false_and, or_true, true_or, or_false, false_or, eq_self, ne_eq, quI_s, quI_n, quI2, quL1, quL2, quL3, quR1, quR2, quR3, nI_add, pk_mul, pk_sub, Nat.add_sub_cancel, qm1_add, qm2_add, nI_leI, nI_ltI, nI_eq, nI_m1, nI_m1', nI_clamp, nI_bit, nI_one_shl, nI_m1l, nI_m1lt, nI_m1lt', nI_m1le', oI_some, oI_none, ni_0, ni_1, ni_8, fX6_mend_L38b, qle_t, qle_f, qlt_t, qlt_f, qeq_t, qeq_f, hr5, hd0, qbit_f hu, e]
theorem s_mend_eq (hY : yrOk Y) (hu2 : D 0 2 < 2 ^ Y 2 1) : dU (s_mendT D 8) 0 2 0 = dU (fun c t => if c = 1 then (if (D 0 2).testBit t = true then 0 else D c t) else D c t) 0 2 0 := by
  have hu : D 0 2 < 2 ^ 8 := Nat.lt_of_lt_of_le hu2 (Nat.pow_le_pow_right (by decide) hY.1.2.1)
  have : s_mendT D 8 = (fun c t => if c = 1 then (if (D 0 2).testBit t = true then 0 else D c t) else D c t) := by
    funext c t
    unfold s_mendT
    by_cases hc : c = 1
    · rw [if_pos hc, if_pos hc]
      by_cases ht : (D 0 2).testBit t = true
      · have : t < 8 := by
          rcases Nat.lt_or_ge t 8 with h | h
          · exact h
          · rw [Nat.testBit_lt_two_pow (Nat.lt_of_lt_of_le hu (Nat.pow_le_pow_right (by decide) h))] at ht; cases ht
        rw [if_pos ht, if_pos ⟨this, ht⟩]
      · rw [if_neg ht, if_neg (fun h => ht h.2)]
    · rw [if_neg hc, if_neg hc]
  rw [this]
theorem c_mend (hb : b < 2) (hw : w < 2) (h : cW S b w Y mc wc R row D) (hY : yrOk Y) (hB : ∀ c j, D c j < 2 ^ 31) (hu2 : D 0 2 < 2 ^ Y 2 1) (hn : 2000 ≤ n) :
    ∃ Z, fX6_mend n (sh w 0) S = some Z ∧ cW Z b w Y mc wc R row (s_mend Y D) ∧ qFr (eP w) S Z := by
  have hYB := yrOk_B hY
  have hr := h.2.1.1
  have hr5 := h.2.1.2
  have hy := h.1.1
  have hd0 := h.2.2.2.2.1.1
  have hsm := hY.2.2.2.2.2.2.2.2.1
  have em := pk_rem (a := D 0 0) (d := Y 0 16) (hB _ _) (by omega) (by omega)
  have b2 : D 0 0 % Y 0 16 < 2 ^ 31 := Nat.lt_of_lt_of_le (Nat.mod_lt _ (by omega)) (by omega)
  have b3 : Y 0 15 < 2 ^ 31 := hYB _ _
  unfold s_mend
  by_cases hc : D 0 0 % Y 0 16 = Y 0 15
  · rw [if_pos hc]
    have h0 : s_mendT D 0 = D := by
      funext c t
      unfold s_mendT
      split
      · rw [if_neg (by omega)]
      · rfl
    obtain ⟨Z, e, hz, hf⟩ := c_mendL (n := n) (D := D) hb hw hB 8 0 n S (by omega) (by omega) (by rw [h0]; exact h)
    have hz2 := cW_0 (j := 2) (v := 0) hb hw (by decide) hz
    rw [s_mend_eq hY hu2] at hz2
    have hr5' := hz.2.1.2
    refine ⟨_, ?_, hz2, qFr_trans hf (qFr_upd (eP_y (by decide)))⟩
    simp (disch := (first | assumption | omega | exact hB _ _ | exact hYB _ _ | (simp only [yc, yd, sh, sv, ne_eq]; omega) | (simp (disch := omega) only [↓nm_1, ↓nm_2, nI_add, pk_mul, pk_sub, Nat.add_sub_cancel, qm1_add, qm2_add, nI_clamp, ni_0, ni_1, hr, hr5, hy, hd0, em, hc, e, hr5']; refine qin_nI ?_ ?_ <;> first | omega | exact hB _ _ | exact hYB _ _) | (refine qin_nI ?_ ?_ <;> omega) | fail)) only [↓yc0_gd hb, ↓yc0_gI hb, ↓yc0_gM hb, ↓yc0_pI hb, ↓yc0_pM hb, ↓yc0_pZ hb, ↓yc0_gF0 hb, ↓yc0_gF1 hb, ↓yc0_gF2 hb, ↓yc0_gF3 hb, ↓yc0_gF4 hb, ↓yc0_gF5 hb, ↓yc0_gF6 hb, ↓yc0_gF7 hb, ↓yc0_gF8 hb, ↓yc0_gF9 hb, ↓yc0_gF10 hb, ↓yc0_gF11 hb, ↓yc0_gF12 hb, ↓yc0_gF13 hb, ↓yc1_al hb, ↓yc1_as hb, ↓yc1_ln hb, ↓yc2_al hb, ↓yc2_as hb, ↓yc2_ln hb, ↓yc3_al hb, ↓yc3_as hb, ↓yc3_ln hb, ↓yc4_al hb, ↓yc4_as hb, ↓yc4_ln hb, ↓yc5_al hb, ↓yc5_as hb, ↓yc5_ln hb, ↓yc6_al hb, ↓yc6_as hb, ↓yc6_ln hb, ↓yc7_al hb, ↓yc7_as hb, ↓yc7_ln hb, ↓yc8_al hb, ↓yc8_as hb, ↓yc8_ln hb, ↓yc9_al hb, ↓yc9_as hb, ↓yc9_ln hb, ↓yc10_al hb, ↓yc10_as hb, ↓yc10_ln hb, ↓yc11_al hb, ↓yc11_as hb, ↓yc11_ln hb, ↓yc12_al hb, ↓yc12_as hb, ↓yc12_ln hb, ↓yc13_al hb, ↓yc13_as hb, ↓yc13_ln hb, ↓yc14_gd hb, ↓yc14_gI hb, ↓yc14_gM hb, ↓yc14_pI hb, ↓yc14_pM hb, ↓yc14_pZ hb, ↓yc14_gF0 hb, ↓yc14_gF1 hb, ↓yc15_al hb, ↓yc15_as hb, ↓yc15_ln hb, ↓yc16_al hb, ↓yc16_as hb, ↓yc16_ln hb, ↓yd0_gd hw, ↓yd0_gI hw, ↓yd0_gM hw, ↓yd0_pI hw, ↓yd0_pM hw, ↓yd0_pZ hw, ↓yd0_gF5 hw, ↓yd0_gF6 hw, ↓yd0_gF7 hw, ↓yd0_gF8 hw, ↓yd1_al hw, ↓yd1_as hw, ↓yd1_ln hw, ↓yd2_al hw, ↓yd2_as hw, ↓yd2_ln hw, ↓yd3_al hw, ↓yd3_as hw, ↓yd3_ln hw, ↓yd4_al hw, ↓yd4_as hw, ↓yd4_ln hw, ↓sh0_gd hw, ↓sh0_gI hw, ↓sh0_gM hw, ↓sh0_pI hw, ↓sh0_pM hw, ↓sh0_pZ hw, ↓sh0_gF0 hw, ↓sh0_gF1 hw, ↓sh0_gF2 hw, ↓sh0_gF3 hw, ↓sh1_al hw, ↓sh1_as hw, ↓sh1_ln hw, ↓sh2_al hw, ↓sh2_as hw, ↓sh2_ln hw, ↓sh3_al hw, ↓sh3_as hw, ↓sh3_ln hw, ↓qb_so, ↓nm_1, ↓nm_2, ↓reduceIte, if_true, if_false, not_true_eq_false, not_false_eq_true, and_true, true_and, and_false, false_and, or_true, true_or, or_false, false_or, eq_self, ne_eq, quI_s, quI_n, quI2, quL1, quL2, quL3, quR1, quR2, quR3, nI_add, pk_mul, pk_sub, Nat.add_sub_cancel, qm1_add, qm2_add, nI_leI, nI_ltI, nI_eq, nI_m1, nI_m1', nI_clamp, nI_bit, nI_one_shl, nI_m1l, nI_m1lt, nI_m1lt', nI_m1le', oI_some, oI_none, ni_0, ni_1, fX6_mend, qle_t, qle_f, qlt_t, qlt_f, qeq_t, qeq_f, hr, hr5, hy, hd0, em, hc, e, hr5']
  · rw [if_neg hc]
    refine ⟨S, ?_, h, qFr_refl⟩
    simp (disch := (first | assumption | omega | exact hB _ _ | exact hYB _ _ | (simp only [yc, yd, sh, sv, ne_eq]; omega) | (simp (disch := omega) only [↓nm_1, ↓nm_2, nI_add, pk_mul, pk_sub, Nat.add_sub_cancel, qm1_add, qm2_add, nI_clamp, ni_0, ni_1, hr, hr5, hy, hd0, em, hc]; refine qin_nI ?_ ?_ <;> first | omega | exact hB _ _ | exact hYB _ _) | (refine qin_nI ?_ ?_ <;> omega) | fail)) only [↓yc0_gd hb, ↓yc0_gI hb, ↓yc0_gM hb, ↓yc0_pI hb, ↓yc0_pM hb, ↓yc0_pZ hb, ↓yc0_gF0 hb, ↓yc0_gF1 hb, ↓yc0_gF2 hb, ↓yc0_gF3 hb, ↓yc0_gF4 hb, ↓yc0_gF5 hb, ↓yc0_gF6 hb, ↓yc0_gF7 hb, ↓yc0_gF8 hb, ↓yc0_gF9 hb, ↓yc0_gF10 hb, ↓yc0_gF11 hb, ↓yc0_gF12 hb, ↓yc0_gF13 hb, ↓yc1_al hb, ↓yc1_as hb, ↓yc1_ln hb, ↓yc2_al hb, ↓yc2_as hb, ↓yc2_ln hb, ↓yc3_al hb, ↓yc3_as hb, ↓yc3_ln hb, ↓yc4_al hb, ↓yc4_as hb, ↓yc4_ln hb, ↓yc5_al hb, ↓yc5_as hb, ↓yc5_ln hb, ↓yc6_al hb, ↓yc6_as hb, ↓yc6_ln hb, ↓yc7_al hb, ↓yc7_as hb, ↓yc7_ln hb, ↓yc8_al hb, ↓yc8_as hb, ↓yc8_ln hb, ↓yc9_al hb, ↓yc9_as hb, ↓yc9_ln hb, ↓yc10_al hb, ↓yc10_as hb, ↓yc10_ln hb, ↓yc11_al hb, ↓yc11_as hb, ↓yc11_ln hb, ↓yc12_al hb, ↓yc12_as hb, ↓yc12_ln hb, ↓yc13_al hb, ↓yc13_as hb, ↓yc13_ln hb, ↓yc14_gd hb, ↓yc14_gI hb, ↓yc14_gM hb, ↓yc14_pI hb, ↓yc14_pM hb, ↓yc14_pZ hb, ↓yc14_gF0 hb, ↓yc14_gF1 hb, ↓yc15_al hb, ↓yc15_as hb, ↓yc15_ln hb, ↓yc16_al hb, ↓yc16_as hb, ↓yc16_ln hb, ↓yd0_gd hw, ↓yd0_gI hw, ↓yd0_gM hw, ↓yd0_pI hw, ↓yd0_pM hw, ↓yd0_pZ hw, ↓yd0_gF5 hw, ↓yd0_gF6 hw, ↓yd0_gF7 hw, ↓yd0_gF8 hw, ↓yd1_al hw, ↓yd1_as hw, ↓yd1_ln hw, ↓yd2_al hw, ↓yd2_as hw, ↓yd2_ln hw, ↓yd3_al hw, ↓yd3_as hw, ↓yd3_ln hw, ↓yd4_al hw, ↓yd4_as hw, ↓yd4_ln hw, ↓sh0_gd hw, ↓sh0_gI hw, ↓sh0_gM hw, ↓sh0_pI hw, ↓sh0_pM hw, ↓sh0_pZ hw, ↓sh0_gF0 hw, ↓sh0_gF1 hw, ↓sh0_gF2 hw, ↓sh0_gF3 hw, ↓sh1_al hw, ↓sh1_as hw, ↓sh1_ln hw, ↓sh2_al hw, ↓sh2_as hw, ↓sh2_ln hw, ↓sh3_al hw, ↓sh3_as hw, ↓sh3_ln hw, ↓qb_so, ↓nm_1, ↓nm_2, ↓reduceIte, if_true, if_false, not_true_eq_false, not_false_eq_true, and_true, true_and, and_false, false_and, or_true, true_or, or_false, false_or, eq_self, ne_eq, quI_s, quI_n, quI2, quL1, quL2, quL3, quR1, quR2, quR3, nI_add, pk_mul, pk_sub, Nat.add_sub_cancel, qm1_add, qm2_add, nI_leI, nI_ltI, nI_eq, nI_m1, nI_m1', nI_clamp, nI_bit, nI_one_shl, nI_m1l, nI_m1lt, nI_m1lt', nI_m1le', oI_some, oI_none, ni_0, ni_1, fX6_mend, qle_t, qle_f, qlt_t, qlt_f, qeq_t, qeq_f, hr, hr5, hy, hd0, em, hc]
theorem s_mend_ok (hY : yrOk Y) (h : dOk Y D) : dOk Y (s_mend Y D) := by
  unfold s_mend
  split
  · have : dOk Y (fun c t => if c = 1 then (if (D 0 2).testBit t = true then 0 else D c t) else D c t) := by
      obtain ⟨a0, a1, a2, a3, a4, a5, a6, a7, a8, a9, a10⟩ := h
      have hs : ∀ n, s_sum (fun c t => if c = 1 then (if (D 0 2).testBit t = true then 0 else D c t) else D c t) n = s_sum D n := by
        intro n
        induction n with
        | zero => rfl
        | succ n ih => unfold s_sum; rw [ih]; rfl
      refine ⟨a0, a1, a2, a3, fun t => ?_, a5, a6, a7, by rw [hs]; exact a8, fun c j => ?_, a10.1, a10.2.1, by rw [hs]; exact a10.2.2.1, a10.2.2.2.1, fun t ht => ?_, a10.2.2.2.2.2.1, a10.2.2.2.2.2.2.1, a10.2.2.2.2.2.2.2⟩
      · show (if (D 0 2).testBit t = true then 0 else D 1 t) ≤ 100
        split
        · omega
        · exact a4 t
      · show (if c = 1 then (if (D 0 2).testBit j = true then 0 else D c j) else D c j) < 2 ^ 31
        repeat' split
        · decide
        · exact a9 _ _
        · exact a9 _ _
      · show (if (D 0 2).testBit t = true then 0 else D 1 t) = 0
        split
        · rfl
        · exact a10.2.2.2.2.1 t ht
    exact dOk_u this (dV_02 hY (Nat.two_pow_pos _))
  · exact h
theorem s_fresh_ok (hY : yrOk Y) (h : dOk Y D) : dOk Y (s_fresh D) := dOk_u (dOk_u h (dV_50 hY (Nat.two_pow_pos _))) (dV_51 hY (Nat.two_pow_pos _))
theorem s_mend_0 {i : Nat} (h : i ≠ 2) : s_mend Y D 0 i = D 0 i := by
  unfold s_mend
  split
  · rw [dU_j h]; rfl
  · rfl
theorem s_mend_5 {i : Nat} : s_mend Y D 5 i = D 5 i := by
  unfold s_mend
  split
  · rw [dU_c (by decide)]; rfl
  · rfl
theorem s_step_00 {fr j : Nat} : s_step Y mc wc R fr D j 0 0 = D 0 0 ∧ s_step Y mc wc R fr D j 5 2 = D 5 2 := by
  have key : ∀ t g, s_use Y wc R D fr j t g 0 0 = D 0 0 ∧ s_use Y wc R D fr j t g 5 2 = D 5 2 := by
    intro t g
    unfold s_use s_use3 s_keep s_use2 s_use1 s_pay
    try dsimp only
    repeat' split
    all_goals first | exact ⟨rfl, rfl⟩ | simp [dU]
  unfold s_step
  split
  · cases s_tool Y mc R D fr j with
    | none => exact ⟨rfl, rfl⟩
    | some t =>
      cases hg : s_hand Y D t with
      | none => simp only [hg, and_self]
      | some g => simp only [hg]; exact key t g
  · exact ⟨rfl, rfl⟩
theorem s_jobsL_00 {fr : Nat} : ∀ (k i : Nat) (D : Nat → Nat → Nat), s_jobsL Y mc wc R row fr k i D 0 0 = D 0 0 ∧ s_jobsL Y mc wc R row fr k i D 5 2 = D 5 2
  | 0, i, D => ⟨rfl, rfl⟩
  | k + 1, i, D => by
    unfold s_jobsL
    obtain ⟨a, b⟩ := s_jobsL_00 (fr := fr) k (i + 1) (s_step Y mc wc R fr D (row i))
    obtain ⟨c, d⟩ := s_step_00 (Y := Y) (mc := mc) (wc := wc) (R := R) (D := D) (fr := fr) (j := row i)
    exact ⟨a.trans c, b.trans d⟩
theorem s_mend_fr : dU (dU (s_mend Y D) 5 0 0) 5 1 0 = s_mend Y (dU (dU D 5 0 0) 5 1 0) := by
  have e0 : dU (dU D 5 0 0) 5 1 0 0 0 = D 0 0 := rfl
  have e2 : dU (dU D 5 0 0) 5 1 0 0 2 = D 0 2 := rfl
  unfold s_mend
  rw [e0, e2]
  split
  · funext c t
    unfold dU
    by_cases h5 : c = 5
    · subst h5; simp
    · simp [h5]
  · rfl
theorem c_day (hb : b < 2) (hw : w < 2) (h : cW S b w Y mc wc R row D) (hY : yrOk Y) (hD : dOk Y (s_fresh D)) (hB : ∀ c j, D c j < 2 ^ 31) (hK : kOk mc wc) (hR : ∀ k, R k < 2 ^ 31) (hn : 2000 ≤ n) {fr : Nat} (hfr : fr ≤ 1) (hrow : ∀ i, i < Y 2 3 → row i < Y 2 3) (h999 : D 0 0 < 999) (hl : D 5 2 ≤ 6000 * D 0 0) :
    ∃ Z, fX6_passDay n (sh w 0) (nI fr) S = some Z ∧ cW Z b w Y mc wc R row (s_day Y mc wc R row fr D) ∧ qFr (dP b w) S Z ∧ dOk Y (s_day Y mc wc R row fr D) ∧ s_day Y mc wc R row fr D 5 2 ≤ 6000 * s_day Y mc wc R row fr D 0 0 ∧ s_day Y mc wc R row fr D 0 0 = D 0 0 + 1 := by
  have h6 : Y 2 3 ≤ 6 := hY.1.2.2.2
  obtain ⟨Z1, e1, w1, f1⟩ := c_mend (n := n) hb hw h hY hB (show D 0 2 < 2 ^ Y 2 1 from hD.2.2.1) hn
  have w2 := cW_5 (j := 1) (v := 0) hb hw (by decide) (cW_5 (j := 0) (v := 0) hb hw (by decide) w1)
  have d2 : dOk Y (s_fresh (s_mend Y D)) := by rw [show s_fresh (s_mend Y D) = s_mend Y (s_fresh D) from s_mend_fr]; exact s_mend_ok hY hD
  have w3 := cW_f (j := 6) (x := nI fr) hb hw (cW_f (j := 4) (x := nI (D 0 0)) hb hw w2)
  have hG : cG (xuI (xuI (xuI (xuI Z1 (sh w 0) (7 + 0) (nI 0)) (sh w 0) (7 + 1) (nI 0)) (sh w 3) 4 (nI (D 0 0))) (sh w 3) 6 (nI fr)) w (s_fresh (s_mend Y D)) fr := by
    unfold cG
    simp only [quI_s]
    refine ⟨?_, rfl⟩
    show nI (D 0 0) = nI (s_mend Y D 0 0)
    rw [s_mend_0 (by decide)]
  obtain ⟨Z2, e2, w4, f2⟩ := c_jobsL (n := n) hb hw hY hK hR hn hfr hrow (Y 2 3) 0 n (s_fresh (s_mend Y D)) _ (by omega) (by omega) w3 d2 hG
  have d3 := s_jobsL_ok (mc := mc) (wc := wc) (R := R) (fr := fr) hY hrow (Y 2 3) 0 (s_fresh (s_mend Y D)) (by omega) d2
  obtain ⟨q0, q52⟩ := s_jobsL_00 (Y := Y) (mc := mc) (wc := wc) (R := R) (row := row) (fr := fr) (Y 2 3) 0 (s_fresh (s_mend Y D))
  have q0' : s_jobsL Y mc wc R row fr (Y 2 3) 0 (s_fresh (s_mend Y D)) 0 0 = D 0 0 := q0.trans (s_mend_0 (by decide))
  have q52' : s_jobsL Y mc wc R row fr (Y 2 3) 0 (s_fresh (s_mend Y D)) 5 2 = D 5 2 := q52.trans s_mend_5
  obtain ⟨Z3, e3, w5, f3⟩ := c_paysL (n := n) hb hw hY (Y 2 3) 0 n _ Z2 (by omega) (by omega) w4 d3 (by rw [q0', q52']; omega)
  obtain ⟨d4, l4, z4⟩ := s_paysL_ok hY (Y 2 3) 0 _ (by omega) d3 (by rw [q0', q52']; omega)
  rw [q0'] at l4 z4
  have w6 := cW_0 (j := 0) (v := D 0 0 + 1) hb hw (by decide) w5
  have hr5 := w1.2.1.2
  have hd1 : Z1.1 (yd w 0) 0 = nI (D 0 0) := by rw [w1.2.2.2.2.1.1 0 (by decide), s_mend_0 (by decide)]
  have hr5b := w5.2.1.2
  have hd5 : Z3.1 (yd w 0) 0 = nI (D 0 0) := by rw [w5.2.2.2.2.1.1 0 (by decide), z4]
  have e2' : fX6_passDay_L37 n (sh w 0) n (nI 0) (xuI (xuI (xuI (xuI Z1 (sh w 0) 7 (nI 0)) (sh w 0) 8 (nI 0)) (sh w 3) 4 (nI (D 0 0))) (sh w 3) 6 (nI fr)) = some Z2 := e2
  have em : (if D 0 0 + 1 < 999 then D 0 0 + 1 else 999) = D 0 0 + 1 := by split <;> omega
  have es : s_day Y mc wc R row fr D = dU (s_paysL Y (Y 2 3) 0 (s_jobsL Y mc wc R row fr (Y 2 3) 0 (s_fresh (s_mend Y D)))) 0 0 (D 0 0 + 1) := by
    unfold s_day
    simp only
    rw [z4]
  refine ⟨xuI Z3 (yd w 0) 0 (nI (D 0 0 + 1)), ?_, by rw [es]; exact w6, ?_, ?_, ?_, ?_⟩
  · simp (disch := (first | assumption | omega | exact hB _ _ | exact hYB _ _ | (simp only [yc, yd, sh, sv, ne_eq]; omega) | (simp (disch := omega) only [↓nm_1, ↓nm_2, nI_add, pk_mul, pk_sub, Nat.add_sub_cancel, qm1_add, qm2_add, nI_clamp, ni_0, ni_1, ni_4, ni_6, ni_999, e1, hr5, hd1, e2', e3, hr5b, hd5, nI_ite, em]; refine qin_nI ?_ ?_ <;> first | omega | exact hB _ _ | exact hYB _ _) | (refine qin_nI ?_ ?_ <;> omega) | fail)) only [↓yc0_gd hb, ↓yc0_gI hb, ↓yc0_gM hb, ↓yc0_pI hb, ↓yc0_pM hb, ↓yc0_pZ hb, ↓yc0_gF0 hb, ↓yc0_gF1 hb, ↓yc0_gF2 hb, ↓yc0_gF3 hb, ↓yc0_gF4 hb, ↓yc0_gF5 hb, ↓yc0_gF6 hb, ↓yc0_gF7 hb, ↓yc0_gF8 hb, ↓yc0_gF9 hb, ↓yc0_gF10 hb, ↓yc0_gF11 hb, ↓yc0_gF12 hb, ↓yc0_gF13 hb, ↓yc1_al hb, ↓yc1_as hb, ↓yc1_ln hb, ↓yc2_al hb, ↓yc2_as hb, ↓yc2_ln hb, ↓yc3_al hb, ↓yc3_as hb, ↓yc3_ln hb, ↓yc4_al hb, ↓yc4_as hb, ↓yc4_ln hb, ↓yc5_al hb, ↓yc5_as hb, ↓yc5_ln hb, ↓yc6_al hb, ↓yc6_as hb, ↓yc6_ln hb, ↓yc7_al hb, ↓yc7_as hb, ↓yc7_ln hb, ↓yc8_al hb, ↓yc8_as hb, ↓yc8_ln hb, ↓yc9_al hb, ↓yc9_as hb, ↓yc9_ln hb, ↓yc10_al hb, ↓yc10_as hb, ↓yc10_ln hb, ↓yc11_al hb, ↓yc11_as hb, ↓yc11_ln hb, ↓yc12_al hb, ↓yc12_as hb, ↓yc12_ln hb, ↓yc13_al hb, ↓yc13_as hb, ↓yc13_ln hb, ↓yc14_gd hb, ↓yc14_gI hb, ↓yc14_gM hb, ↓yc14_pI hb, ↓yc14_pM hb, ↓yc14_pZ hb, ↓yc14_gF0 hb, ↓yc14_gF1 hb, ↓yc15_al hb, ↓yc15_as hb, ↓yc15_ln hb, ↓yc16_al hb, ↓yc16_as hb, ↓yc16_ln hb, ↓yd0_gd hw, ↓yd0_gI hw, ↓yd0_gM hw, ↓yd0_pI hw, ↓yd0_pM hw, ↓yd0_pZ hw, ↓yd0_gF5 hw, ↓yd0_gF6 hw, ↓yd0_gF7 hw, ↓yd0_gF8 hw, ↓yd1_al hw, ↓yd1_as hw, ↓yd1_ln hw, ↓yd2_al hw, ↓yd2_as hw, ↓yd2_ln hw, ↓yd3_al hw, ↓yd3_as hw, ↓yd3_ln hw, ↓yd4_al hw, ↓yd4_as hw, ↓yd4_ln hw, ↓sh0_gd hw, ↓sh0_gI hw, ↓sh0_gM hw, ↓sh0_pI hw, ↓sh0_pM hw, ↓sh0_pZ hw, ↓sh0_gF0 hw, ↓sh0_gF1 hw, ↓sh0_gF2 hw, ↓sh0_gF3 hw, ↓sh1_al hw, ↓sh1_as hw, ↓sh1_ln hw, ↓sh2_al hw, ↓sh2_as hw, ↓sh2_ln hw, ↓sh3_al hw, ↓sh3_as hw, ↓sh3_ln hw, ↓qb_so, ↓nm_1, ↓nm_2, ↓reduceIte, if_true, if_false, not_true_eq_false, not_false_eq_true, and_true, true_and, and_false, false_and, or_true, true_or, or_false, false_or, eq_self, ne_eq, quI_s, quI_n, quI2, quL1, quL2, quL3, quR1, quR2, quR3, nI_add, pk_mul, pk_sub, Nat.add_sub_cancel, qm1_add, qm2_add, nI_leI, nI_ltI, nI_eq, nI_m1, nI_m1', nI_clamp, nI_bit, nI_one_shl, nI_m1l, nI_m1lt, nI_m1lt', nI_m1le', oI_some, oI_none, ni_0, ni_1, ni_4, ni_6, ni_999, fX6_passDay, fX6_payForLate, qle_t, qle_f, qlt_t, qlt_f, qeq_t, qeq_f, e1, hr5, hd1, e2', e3, hr5b, hd5, nI_ite, em]
  · exact qFr_trans (qFr_mono f1 (fun k hk => dP_e hk)) (qFr_trans (qFr_trans (qFr_trans (qFr_trans (qFr_trans (qFr_upd (dP_e eP_s)) (qFr_upd (dP_e eP_s))) (qFr_upd (dP_f (Or.inl rfl)))) (qFr_upd (dP_f (Or.inl rfl)))) f2) (qFr_trans (qFr_mono f3 (fun k hk => dP_e hk)) (qFr_upd (dP_e (eP_y (by decide))))))
  · rw [es]; exact dOk_u d4 (dV_00 (by omega) (by rw [z4]; omega))
  · rw [es, dU_s, dU_c (by decide)]; omega
  · rw [es, dU_s]
end Q29

