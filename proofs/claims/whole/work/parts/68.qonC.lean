/-! ===== on: the reference ===== -/
def s_b1 (x t : Nat) : Nat := if x = 1 then 2 ^ t else 0
def oT (k j : Nat) : Prop := (k = 36 ∧ 8 ≤ j ∧ j < 16) ∨ ((k = 37 ∨ k = 38) ∧ j = 1)
section Q68
variable {S T Z V : xSt} {b n a s : Nat} {Y D E U : Nat → Nat → Nat} {mc wc : List (Nat × Nat)} {R row : Nat → Nat} {P : Nat → Nat → Nat → Nat} {G G' : Nat → Nat → Nat}
theorem s_b1_mn {x t : Nat} (h : x ≤ 1) : s_b1 x t = s_mn 1 x * 2 ^ t := by
  rcases (by omega : x = 0 ∨ x = 1) with rfl | rfl
  · show 0 = 0 * 2 ^ t; omega
  · show 2 ^ t = 1 * 2 ^ t; omega
theorem s_b1_lt {x t : Nat} : s_b1 x t < 2 ^ (t + 1) := by
  unfold s_b1
  have := Nat.two_pow_pos t
  rw [Nat.pow_succ]
  split <;> omega
theorem m_2by (t : ∀ i, i < 1600 → S.1 1 i = nI (G 0 i)) (hG : ∀ i, G 0 i < 256) (ha : a + 1 < 1600) : fX12_twoBytes 0 (nI a) S = some (nI (s_two G a)) := by
  have g1 := hG a
  have g2 := hG (a + 1)
  have e := nI_two g1 g2
  unfold s_two
  simp (disch := (first | assumption | omega | exact hB _ _ | exact hYB _ _ | (simp only [yc, yd, sh, sv, ne_eq]; omega) | (simp (disch := omega) only [↓nm_1, ↓nm_2, nI_add, pk_mul, pk_sub, Nat.add_sub_cancel, qm1_add, qm2_add, nI_clamp, ni_0, ni_1, ni_8, t, e]; refine qin_nI ?_ ?_ <;> first | omega | exact hB _ _ | exact hYB _ _) | (refine qin_nI ?_ ?_ <;> omega) | fail)) only [↓km0_gd, ↓km0_gI, ↓km0_gM, ↓km0_pI, ↓km0_pM, ↓km0_pZ, ↓km0_gL, ↓km0_pL, ↓km0_gF0, ↓km1_al, ↓km1_as, ↓km1_ln, ↓qb_so, ↓nm_1, ↓nm_2, ↓reduceIte, if_true, if_false, not_true_eq_false, not_false_eq_true, and_true, true_and, and_false, false_and, or_true, true_or, or_false, false_or, eq_self, ne_eq, quI_s, quI_n, quI2, quL1, quL2, quL3, quR1, quR2, quR3, nI_add, pk_mul, pk_sub, Nat.add_sub_cancel, qm1_add, qm2_add, nI_leI, nI_ltI, nI_eq, nI_m1, nI_m1', nI_clamp, nI_bit, nI_one_shl, nI_m1l, nI_m1lt, nI_m1lt', nI_m1le', oI_some, oI_none, ni_0, ni_1, ni_8, fX12_twoBytes, qle_t, qle_f, qlt_t, qlt_f, qeq_t, qeq_f, t, e]
theorem m_B69 (ht : ∀ i, i < 1600 → S.1 1 i = nI (G 0 i)) (hG : ∀ i, G 0 i < 256) (ha : a + 2 < 1600) {u y : Nat} (hu : u < 2 ^ 31) (hy : y < 2 ^ 31) : ∃ v, fX12_toolOn_B69 0 (nI a) 38 (nI 1) (nI u) (nI y) S = some (nI v, xuI S 38 1 (nI (u ||| y))) ∧ v ≤ 1 ∧ (v = 1 ↔ G 0 a ≤ 100 ∧ G 0 (a + 1) ≤ 1 ∧ G 0 (a + 2) ≤ 1) := by
  have g1 := hG a
  have g2 := hG (a + 1)
  have g3 := hG (a + 2)
  have e := nI_or hu hy
  by_cases h1 : 100 < G 0 a
  · refine ⟨0, ?_, by decide, by omega⟩
    simp (disch := (first | assumption | omega | exact hB _ _ | exact hYB _ _ | (simp only [yc, yd, sh, sv, ne_eq]; omega) | (simp (disch := omega) only [↓nm_1, ↓nm_2, nI_add, pk_mul, pk_sub, Nat.add_sub_cancel, qm1_add, qm2_add, nI_clamp, ni_0, ni_1, ni_2, ni_100, e, ht, h1]; refine qin_nI ?_ ?_ <;> first | omega | exact hB _ _ | exact hYB _ _) | (refine qin_nI ?_ ?_ <;> omega) | fail)) only [↓km0_gd, ↓km0_gI, ↓km0_gM, ↓km0_pI, ↓km0_pM, ↓km0_pZ, ↓km0_gL, ↓km0_pL, ↓km0_gF0, ↓km1_al, ↓km1_as, ↓km1_ln, ↓km38_al, ↓km38_as, ↓km38_ln, ↓qb_so, ↓nm_1, ↓nm_2, ↓reduceIte, if_true, if_false, not_true_eq_false, not_false_eq_true, and_true, true_and, and_false, false_and, or_true, true_or, or_false, false_or, eq_self, ne_eq, quI_s, quI_n, quI2, quL1, quL2, quL3, quR1, quR2, quR3, nI_add, pk_mul, pk_sub, Nat.add_sub_cancel, qm1_add, qm2_add, nI_leI, nI_ltI, nI_eq, nI_m1, nI_m1', nI_clamp, nI_bit, nI_one_shl, nI_m1l, nI_m1lt, nI_m1lt', nI_m1le', oI_some, oI_none, ni_0, ni_1, ni_2, ni_100, fX12_toolOn_B69, qle_t, qle_f, qlt_t, qlt_f, qeq_t, qeq_f, e, ht, h1]
  · by_cases h2 : 2 ≤ G 0 (a + 1)
    · refine ⟨0, ?_, by decide, by omega⟩
      simp (disch := (first | assumption | omega | exact hB _ _ | exact hYB _ _ | (simp only [yc, yd, sh, sv, ne_eq]; omega) | (simp (disch := omega) only [↓nm_1, ↓nm_2, nI_add, pk_mul, pk_sub, Nat.add_sub_cancel, qm1_add, qm2_add, nI_clamp, ni_0, ni_1, ni_2, ni_100, e, ht, h1, h2]; refine qin_nI ?_ ?_ <;> first | omega | exact hB _ _ | exact hYB _ _) | (refine qin_nI ?_ ?_ <;> omega) | fail)) only [↓km0_gd, ↓km0_gI, ↓km0_gM, ↓km0_pI, ↓km0_pM, ↓km0_pZ, ↓km0_gL, ↓km0_pL, ↓km0_gF0, ↓km1_al, ↓km1_as, ↓km1_ln, ↓km38_al, ↓km38_as, ↓km38_ln, ↓qb_so, ↓nm_1, ↓nm_2, ↓reduceIte, if_true, if_false, not_true_eq_false, not_false_eq_true, and_true, true_and, and_false, false_and, or_true, true_or, or_false, false_or, eq_self, ne_eq, quI_s, quI_n, quI2, quL1, quL2, quL3, quR1, quR2, quR3, nI_add, pk_mul, pk_sub, Nat.add_sub_cancel, qm1_add, qm2_add, nI_leI, nI_ltI, nI_eq, nI_m1, nI_m1', nI_clamp, nI_bit, nI_one_shl, nI_m1l, nI_m1lt, nI_m1lt', nI_m1le', oI_some, oI_none, ni_0, ni_1, ni_2, ni_100, fX12_toolOn_B69, qle_t, qle_f, qlt_t, qlt_f, qeq_t, qeq_f, e, ht, h1, h2]
    · by_cases h3 : 2 ≤ G 0 (a + 2)
      · refine ⟨0, ?_, by decide, by omega⟩
        simp (disch := (first | assumption | omega | exact hB _ _ | exact hYB _ _ | (simp only [yc, yd, sh, sv, ne_eq]; omega) | (simp (disch := omega) only [↓nm_1, ↓nm_2, nI_add, pk_mul, pk_sub, Nat.add_sub_cancel, qm1_add, qm2_add, nI_clamp, ni_0, ni_1, ni_2, ni_100, e, ht, h1, h2, h3]; refine qin_nI ?_ ?_ <;> first | omega | exact hB _ _ | exact hYB _ _) | (refine qin_nI ?_ ?_ <;> omega) | fail)) only [↓km0_gd, ↓km0_gI, ↓km0_gM, ↓km0_pI, ↓km0_pM, ↓km0_pZ, ↓km0_gL, ↓km0_pL, ↓km0_gF0, ↓km1_al, ↓km1_as, ↓km1_ln, ↓km38_al, ↓km38_as, ↓km38_ln, ↓qb_so, ↓nm_1, ↓nm_2, ↓reduceIte, if_true, if_false, not_true_eq_false, not_false_eq_true, and_true, true_and, and_false, false_and, or_true, true_or, or_false, false_or, eq_self, ne_eq, quI_s, quI_n, quI2, quL1, quL2, quL3, quR1, quR2, quR3, nI_add, pk_mul, pk_sub, Nat.add_sub_cancel, qm1_add, qm2_add, nI_leI, nI_ltI, nI_eq, nI_m1, nI_m1', nI_clamp, nI_bit, nI_one_shl, nI_m1l, nI_m1lt, nI_m1lt', nI_m1le', oI_some, oI_none, ni_0, ni_1, ni_2, ni_100, fX12_toolOn_B69, qle_t, qle_f, qlt_t, qlt_f, qeq_t, qeq_f, e, ht, h1, h2, h3]
      · refine ⟨1, ?_, by decide, by omega⟩
        simp (disch := (first | assumption | omega | exact hB _ _ | exact hYB _ _ | (simp only [yc, yd, sh, sv, ne_eq]; omega) | (simp (disch := omega) only [↓nm_1, ↓nm_2, nI_add, pk_mul, pk_sub, Nat.add_sub_cancel, qm1_add, qm2_add, nI_clamp, ni_0, ni_1, ni_2, ni_100, e, ht, h1, h2, h3]; refine qin_nI ?_ ?_ <;> first | omega | exact hB _ _ | exact hYB _ _) | (refine qin_nI ?_ ?_ <;> omega) | fail)) only [↓km0_gd, ↓km0_gI, ↓km0_gM, ↓km0_pI, ↓km0_pM, ↓km0_pZ, ↓km0_gL, ↓km0_pL, ↓km0_gF0, ↓km1_al, ↓km1_as, ↓km1_ln, ↓km38_al, ↓km38_as, ↓km38_ln, ↓qb_so, ↓nm_1, ↓nm_2, ↓reduceIte, if_true, if_false, not_true_eq_false, not_false_eq_true, and_true, true_and, and_false, false_and, or_true, true_or, or_false, false_or, eq_self, ne_eq, quI_s, quI_n, quI2, quL1, quL2, quL3, quR1, quR2, quR3, nI_add, pk_mul, pk_sub, Nat.add_sub_cancel, qm1_add, qm2_add, nI_leI, nI_ltI, nI_eq, nI_m1, nI_m1', nI_clamp, nI_bit, nI_one_shl, nI_m1l, nI_m1lt, nI_m1lt', nI_m1le', oI_some, oI_none, ni_0, ni_1, ni_2, ni_100, fX12_toolOn_B69, qle_t, qle_f, qlt_t, qlt_f, qeq_t, qeq_f, e, ht, h1, h2, h3]
theorem m_B41 (ht : ∀ i, i < 1600 → S.1 1 i = nI (G 0 i)) (hG : ∀ i, G 0 i < 256) (ha : a + 2 < 1600) {t u x u3 : Nat} (h8 : t < 8) (hu : u < 2 ^ 31) (hx : x < 2 ^ 31) (hu3 : u3 < 2 ^ 31) (h3 : S.1 38 1 = nI u3) : ∃ v, fX12_toolOn_B41 0 (nI t) (nI a) 37 (nI 1) (nI u) (nI x) S = some (nI v, xuI (xuI S 37 1 (nI (u ||| x))) 38 1 (nI (u3 ||| s_b1 (G 0 (a + 2)) t))) ∧ v ≤ 1 ∧ (v = 1 ↔ G 0 a ≤ 100 ∧ G 0 (a + 1) ≤ 1 ∧ G 0 (a + 2) ≤ 1) := by
  have g3 := hG (a + 2)
  have e := nI_or hu hx
  have p : 2 ^ (t + 1) ≤ 2 ^ 8 := Nat.pow_le_pow_right (by decide) (by omega)
  have hb1 := s_b1_lt (x := G 0 (a + 2)) (t := t)
  obtain ⟨v, e2, hv, hi⟩ := m_B69 (S := xuI S 37 1 (nI (u ||| x))) (y := s_b1 (G 0 (a + 2)) t) (fun i hi => by rw [quI_n (by decide)]; exact ht i hi) hG ha hu3 (by omega)
  refine ⟨v, ?_, hv, hi⟩
  unfold s_b1 at e2 ⊢
  by_cases h1 : G 0 (a + 2) = 1
  · rw [if_pos h1] at e2
    simp (disch := (first | assumption | omega | exact hB _ _ | exact hYB _ _ | (simp only [yc, yd, sh, sv, ne_eq]; omega) | (simp (disch := omega) only [↓nm_1, ↓nm_2, nI_add, pk_mul, pk_sub, Nat.add_sub_cancel, qm1_add, qm2_add, nI_clamp, ni_0, ni_1, ni_2, e, h3, ht, h1, e2]; refine qin_nI ?_ ?_ <;> first | omega | exact hB _ _ | exact hYB _ _) | (refine qin_nI ?_ ?_ <;> omega) | fail)) only [↓km0_gd, ↓km0_gI, ↓km0_gM, ↓km0_pI, ↓km0_pM, ↓km0_pZ, ↓km0_gL, ↓km0_pL, ↓km0_gF0, ↓km0_gF58, ↓km1_al, ↓km1_as, ↓km1_ln, ↓km38_al, ↓km38_as, ↓km38_ln, ↓km37_al, ↓km37_as, ↓km37_ln, ↓qb_so, ↓nm_1, ↓nm_2, ↓reduceIte, if_true, if_false, not_true_eq_false, not_false_eq_true, and_true, true_and, and_false, false_and, or_true, true_or, or_false, false_or, eq_self, ne_eq, quI_s, quI_n, quI2, quL1, quL2, quL3, quR1, quR2, quR3, nI_add, pk_mul, pk_sub, Nat.add_sub_cancel, qm1_add, qm2_add, nI_leI, nI_ltI, nI_eq, nI_m1, nI_m1', nI_clamp, nI_bit, nI_one_shl, nI_m1l, nI_m1lt, nI_m1lt', nI_m1le', oI_some, oI_none, ni_0, ni_1, ni_2, fX12_toolOn_B41, qle_t, qle_f, qlt_t, qlt_f, qeq_t, qeq_f, e, h3, ht, h1, e2]
  · rw [if_neg h1] at e2
    simp (disch := (first | assumption | omega | exact hB _ _ | exact hYB _ _ | (simp only [yc, yd, sh, sv, ne_eq]; omega) | (simp (disch := omega) only [↓nm_1, ↓nm_2, nI_add, pk_mul, pk_sub, Nat.add_sub_cancel, qm1_add, qm2_add, nI_clamp, ni_0, ni_1, ni_2, e, h3, ht, h1, e2]; refine qin_nI ?_ ?_ <;> first | omega | exact hB _ _ | exact hYB _ _) | (refine qin_nI ?_ ?_ <;> omega) | fail)) only [↓km0_gd, ↓km0_gI, ↓km0_gM, ↓km0_pI, ↓km0_pM, ↓km0_pZ, ↓km0_gL, ↓km0_pL, ↓km0_gF0, ↓km0_gF58, ↓km1_al, ↓km1_as, ↓km1_ln, ↓km38_al, ↓km38_as, ↓km38_ln, ↓km37_al, ↓km37_as, ↓km37_ln, ↓qb_so, ↓nm_1, ↓nm_2, ↓reduceIte, if_true, if_false, not_true_eq_false, not_false_eq_true, and_true, true_and, and_false, false_and, or_true, true_or, or_false, false_or, eq_self, ne_eq, quI_s, quI_n, quI2, quL1, quL2, quL3, quR1, quR2, quR3, nI_add, pk_mul, pk_sub, Nat.add_sub_cancel, qm1_add, qm2_add, nI_leI, nI_ltI, nI_eq, nI_m1, nI_m1', nI_clamp, nI_bit, nI_one_shl, nI_m1l, nI_m1lt, nI_m1lt', nI_m1le', oI_some, oI_none, ni_0, ni_1, ni_2, fX12_toolOn_B41, qle_t, qle_f, qlt_t, qlt_f, qeq_t, qeq_f, e, h3, ht, h1, e2]
theorem m_tool1 (ht : ∀ i, i < 1600 → S.1 1 i = nI (G 0 i)) (hG : ∀ i, G 0 i < 256) (ha : a + 2 < 1600) {t u2 u3 : Nat} (h8 : t < 8) (hu2 : u2 < 2 ^ 31) (hu3 : u3 < 2 ^ 31) (h2 : S.1 37 1 = nI u2) (h3 : S.1 38 1 = nI u3) : ∃ v, fX12_toolOn 0 (nI t) (nI a) S = some (nI v, xuI (xuI (xuI S 36 (8 + t) (nI (G 0 a))) 37 1 (nI (u2 ||| s_b1 (G 0 (a + 1)) t))) 38 1 (nI (u3 ||| s_b1 (G 0 (a + 2)) t))) ∧ v ≤ 1 ∧ (v = 1 ↔ G 0 a ≤ 100 ∧ G 0 (a + 1) ≤ 1 ∧ G 0 (a + 2) ≤ 1) := by
  have g1 := hG a
  have g2 := hG (a + 1)
  have p : 2 ^ (t + 1) ≤ 2 ^ 8 := Nat.pow_le_pow_right (by decide) (by omega)
  have hb1 := s_b1_lt (x := G 0 (a + 1)) (t := t)
  obtain ⟨v, e2, hv, hi⟩ := m_B41 (S := xuI S 36 (8 + t) (nI (G 0 a))) (u := u2) (x := s_b1 (G 0 (a + 1)) t) (fun i hi => by rw [quI_n (by decide)]; exact ht i hi) hG ha h8 hu2 (by omega) hu3 (by rw [quI_n (by decide)]; exact h3)
  refine ⟨v, ?_, hv, hi⟩
  unfold s_b1 at e2 ⊢
  by_cases h1 : G 0 (a + 1) = 1
  · rw [if_pos h1] at e2 ⊢
    simp (disch := (first | assumption | omega | exact hB _ _ | exact hYB _ _ | (simp only [yc, yd, sh, sv, ne_eq]; omega) | (simp (disch := omega) only [↓nm_1, ↓nm_2, nI_add, pk_mul, pk_sub, Nat.add_sub_cancel, qm1_add, qm2_add, nI_clamp, ni_0, ni_1, ni_8, ht, h2, h1, e2]; refine qin_nI ?_ ?_ <;> first | omega | exact hB _ _ | exact hYB _ _) | (refine qin_nI ?_ ?_ <;> omega) | fail)) only [↓km0_gd, ↓km0_gI, ↓km0_gM, ↓km0_pI, ↓km0_pM, ↓km0_pZ, ↓km0_gL, ↓km0_pL, ↓km0_gF0, ↓km0_gF56, ↓km0_gF57, ↓km1_al, ↓km1_as, ↓km1_ln, ↓km36_al, ↓km36_as, ↓km36_ln, ↓km37_al, ↓km37_as, ↓km37_ln, ↓qb_so, ↓nm_1, ↓nm_2, ↓reduceIte, if_true, if_false, not_true_eq_false, not_false_eq_true, and_true, true_and, and_false, false_and, or_true, true_or, or_false, false_or, eq_self, ne_eq, quI_s, quI_n, quI2, quL1, quL2, quL3, quR1, quR2, quR3, nI_add, pk_mul, pk_sub, Nat.add_sub_cancel, qm1_add, qm2_add, nI_leI, nI_ltI, nI_eq, nI_m1, nI_m1', nI_clamp, nI_bit, nI_one_shl, nI_m1l, nI_m1lt, nI_m1lt', nI_m1le', oI_some, oI_none, ni_0, ni_1, ni_8, fX12_toolOn, qle_t, qle_f, qlt_t, qlt_f, qeq_t, qeq_f, ht, h2, h1, e2]
  · rw [if_neg h1] at e2 ⊢
    simp (disch := (first | assumption | omega | exact hB _ _ | exact hYB _ _ | (simp only [yc, yd, sh, sv, ne_eq]; omega) | (simp (disch := omega) only [↓nm_1, ↓nm_2, nI_add, pk_mul, pk_sub, Nat.add_sub_cancel, qm1_add, qm2_add, nI_clamp, ni_0, ni_1, ni_8, ht, h2, h1, e2]; refine qin_nI ?_ ?_ <;> first | omega | exact hB _ _ | exact hYB _ _) | (refine qin_nI ?_ ?_ <;> omega) | fail)) only [↓km0_gd, ↓km0_gI, ↓km0_gM, ↓km0_pI, ↓km0_pM, ↓km0_pZ, ↓km0_gL, ↓km0_pL, ↓km0_gF0, ↓km0_gF56, ↓km0_gF57, ↓km1_al, ↓km1_as, ↓km1_ln, ↓km36_al, ↓km36_as, ↓km36_ln, ↓km37_al, ↓km37_as, ↓km37_ln, ↓qb_so, ↓nm_1, ↓nm_2, ↓reduceIte, if_true, if_false, not_true_eq_false, not_false_eq_true, and_true, true_and, and_false, false_and, or_true, true_or, or_false, false_or, eq_self, ne_eq, quI_s, quI_n, quI2, quL1, quL2, quL3, quR1, quR2, quR3, nI_add, pk_mul, pk_sub, Nat.add_sub_cancel, qm1_add, qm2_add, nI_leI, nI_ltI, nI_eq, nI_m1, nI_m1', nI_clamp, nI_bit, nI_one_shl, nI_m1l, nI_m1lt, nI_m1lt', nI_m1le', oI_some, oI_none, ni_0, ni_1, ni_8, fX12_toolOn, qle_t, qle_f, qlt_t, qlt_f, qeq_t, qeq_f, ht, h2, h1, e2]
theorem m_onT (hG : ∀ i, G 0 i < 256) (h8 : Y 2 1 ≤ 8) (a3 : Int32) : ∀ (k t q u2 u3 : Nat) (S : xSt), t + k = Y 2 1 → k < q → (∀ i, i < 1600 → S.1 1 i = nI (G 0 i)) → S.1 37 1 = nI u2 → S.1 38 1 = nI u3 → u2 < 2 ^ t → u3 < 2 ^ t →
    ((∀ x, t ≤ x → x < Y 2 1 → tOK G x) ∧ ∃ Z, fX12_comesOn_L178 n 0 (nI (Y 2 1)) a3 q (nI t) S = some (.inl Z) ∧ Z.1 37 1 = nI (s_btL (fun x => G 0 (4 + 3 * x + 1)) k t u2) ∧ Z.1 38 1 = nI (s_btL (fun x => G 0 (4 + 3 * x + 2)) k t u3) ∧ (∀ j, j < Y 2 1 → Z.1 36 (8 + j) = if t ≤ j then nI (G 0 (4 + 3 * j)) else S.1 36 (8 + j)) ∧ mFq oT S Z) ∨
    ((¬ ∀ x, t ≤ x → x < Y 2 1 → tOK G x) ∧ ∃ Z, fX12_comesOn_L178 n 0 (nI (Y 2 1)) a3 q (nI t) S = some (.inr (nI 0, Z)) ∧ mFq oT S Z)
  | 0, t, q, u2, u3, S, hk, hq, ht, h2, h3, hu2, hu3 => by
    obtain ⟨q, rfl⟩ : ∃ q', q = q' + 1 := ⟨q - 1, by omega⟩
    refine Or.inl ⟨fun x h1 h2 => by omega, S, ?_, h2, h3, fun j hj => by rw [if_neg (by omega)], mFq_refl⟩
    show fX12_comesOn_L178b _ _ _ _ _ _ _ = _
    simp (disch := (first | assumption | omega | exact hB _ _ | exact hYB _ _ | (simp only [yc, yd, sh, sv, ne_eq]; omega) | (simp (disch := omega) only [↓nm_1, ↓nm_2, nI_add, pk_mul, pk_sub, Nat.add_sub_cancel, qm1_add, qm2_add, nI_clamp, ni_0, ni_1, ni_3, ni_4]; refine qin_nI ?_ ?_ <;> first | omega | exact hB _ _ | exact hYB _ _) | (refine qin_nI ?_ ?_ <;> omega) | fail)) only [↓km0_gd, ↓km0_gI, ↓km0_gM, ↓km0_pI, ↓km0_pM, ↓km0_pZ, ↓km0_gL, ↓km0_pL, ↓qb_so, ↓nm_1, ↓nm_2, ↓reduceIte, if_true, if_false, not_true_eq_false, not_false_eq_true, and_true, true_and, and_false, false_and, or_true, true_or, or_false, false_or, eq_self, ne_eq, quI_s, quI_n, quI2, quL1, quL2, quL3, quR1, quR2, quR3, nI_add, pk_mul, pk_sub, Nat.add_sub_cancel, qm1_add, qm2_add, nI_leI, nI_ltI, nI_eq, nI_m1, nI_m1', nI_clamp, nI_bit, nI_one_shl, nI_m1l, nI_m1lt, nI_m1lt', nI_m1le', oI_some, oI_none, ni_0, ni_1, ni_3, ni_4, fX12_comesOn_L178b, qle_t, qle_f, qlt_t, qlt_f, qeq_t, qeq_f]
  | k + 1, t, q, u2, u3, S, hk, hq, ht, h2, h3, hu2, hu3 => by
    obtain ⟨q, rfl⟩ : ∃ q', q = q' + 1 := ⟨q - 1, by omega⟩
    have p : 2 ^ t ≤ 2 ^ 8 := Nat.pow_le_pow_right (by decide) (by omega)
    obtain ⟨v, e1, hv, hi⟩ := m_tool1 (a := 4 + 3 * t) ht hG (by omega) (by omega : t < 8) (by omega) (by omega) h2 h3
    have f1 : mFq oT S (xuI (xuI (xuI S 36 (8 + t) (nI (G 0 (4 + 3 * t)))) 37 1 (nI (u2 ||| s_b1 (G 0 (4 + 3 * t + 1)) t))) 38 1 (nI (u3 ||| s_b1 (G 0 (4 + 3 * t + 2)) t))) := mFq_trans (mFq_trans (mFq_upd (by unfold oT; omega)) (mFq_upd (by unfold oT; omega))) (mFq_upd (by unfold oT; omega))
    rcases (by omega : v = 0 ∨ v = 1) with rfl | rfl
    · refine Or.inr ⟨fun hh => by have := hi.mpr (hh t (Nat.le_refl _) (by omega)); omega, _, ?_, f1⟩
      show fX12_comesOn_L178b _ _ _ _ _ _ _ = _
      simp (disch := (first | assumption | omega | exact hB _ _ | exact hYB _ _ | (simp only [yc, yd, sh, sv, ne_eq]; omega) | (simp (disch := omega) only [↓nm_1, ↓nm_2, nI_add, pk_mul, pk_sub, Nat.add_sub_cancel, qm1_add, qm2_add, nI_clamp, ni_0, ni_1, ni_3, ni_4, e1]; refine qin_nI ?_ ?_ <;> first | omega | exact hB _ _ | exact hYB _ _) | (refine qin_nI ?_ ?_ <;> omega) | fail)) only [↓km0_gd, ↓km0_gI, ↓km0_gM, ↓km0_pI, ↓km0_pM, ↓km0_pZ, ↓km0_gL, ↓km0_pL, ↓qb_so, ↓nm_1, ↓nm_2, ↓reduceIte, if_true, if_false, not_true_eq_false, not_false_eq_true, and_true, true_and, and_false, false_and, or_true, true_or, or_false, false_or, eq_self, ne_eq, quI_s, quI_n, quI2, quL1, quL2, quL3, quR1, quR2, quR3, nI_add, pk_mul, pk_sub, Nat.add_sub_cancel, qm1_add, qm2_add, nI_leI, nI_ltI, nI_eq, nI_m1, nI_m1', nI_clamp, nI_bit, nI_one_shl, nI_m1l, nI_m1lt, nI_m1lt', nI_m1le', oI_some, oI_none, ni_0, ni_1, ni_3, ni_4, fX12_comesOn_L178b, qle_t, qle_f, qlt_t, qlt_f, qeq_t, qeq_f, e1]
    · have hok := hi.mp rfl
      have y1 : u2 < 2 ^ (t + 1) := by rw [Nat.pow_succ]; omega
      have y2 : u3 < 2 ^ (t + 1) := by rw [Nat.pow_succ]; omega
      have IH := m_onT hG h8 a3 k (t + 1) q (u2 ||| s_b1 (G 0 (4 + 3 * t + 1)) t) (u3 ||| s_b1 (G 0 (4 + 3 * t + 2)) t) _ (by omega) (by omega) (fun i hi => by rw [f1.1 1 i (by unfold oT; omega)]; exact ht i hi) (by rw [quI_n (by decide), quI_e]) (by rw [quI_e]) (Nat.or_lt_two_pow y1 s_b1_lt) (Nat.or_lt_two_pow y2 s_b1_lt)
      rcases IH with ⟨o1, Z, e2, z2, z3, z4, f2⟩ | ⟨o1, Z, e2, f2⟩
      · refine Or.inl ⟨fun x hx1 hx2 => ?_, Z, ?_, ?_, ?_, fun j hj => ?_, mFq_trans f1 f2⟩
        · by_cases hx : x = t
          · rw [hx]; exact hok
          · exact o1 x (by omega) hx2
        · show fX12_comesOn_L178b _ _ _ _ _ _ _ = _
          simp (disch := (first | assumption | omega | exact hB _ _ | exact hYB _ _ | (simp only [yc, yd, sh, sv, ne_eq]; omega) | (simp (disch := omega) only [↓nm_1, ↓nm_2, nI_add, pk_mul, pk_sub, Nat.add_sub_cancel, qm1_add, qm2_add, nI_clamp, ni_0, ni_1, ni_3, ni_4, e1, e2]; refine qin_nI ?_ ?_ <;> first | omega | exact hB _ _ | exact hYB _ _) | (refine qin_nI ?_ ?_ <;> omega) | fail)) only [↓km0_gd, ↓km0_gI, ↓km0_gM, ↓km0_pI, ↓km0_pM, ↓km0_pZ, ↓km0_gL, ↓km0_pL, ↓qb_so, ↓nm_1, ↓nm_2, ↓reduceIte, if_true, if_false, not_true_eq_false, not_false_eq_true, and_true, true_and, and_false, false_and, or_true, true_or, or_false, false_or, eq_self, ne_eq, quI_s, quI_n, quI2, quL1, quL2, quL3, quR1, quR2, quR3, nI_add, pk_mul, pk_sub, Nat.add_sub_cancel, qm1_add, qm2_add, nI_leI, nI_ltI, nI_eq, nI_m1, nI_m1', nI_clamp, nI_bit, nI_one_shl, nI_m1l, nI_m1lt, nI_m1lt', nI_m1le', oI_some, oI_none, ni_0, ni_1, ni_3, ni_4, fX12_comesOn_L178b, qle_t, qle_f, qlt_t, qlt_f, qeq_t, qeq_f, e1, e2]
        · rw [z2, s_b1_mn hok.2.1]; rfl
        · rw [z3, s_b1_mn hok.2.2]; rfl
        · rw [z4 j hj]
          by_cases hx : t + 1 ≤ j
          · rw [if_pos hx, if_pos (by omega)]
          · rw [if_neg hx, quI_n (by decide), quI_n (by decide), quI_s]
            by_cases hx2 : j = t
            · rw [hx2, if_pos rfl, if_pos (Nat.le_refl _)]
            · rw [if_neg (by omega), if_neg (by omega)]
      · refine Or.inr ⟨fun hh => o1 (fun x hx1 hx2 => hh x (by omega) hx2), Z, ?_, mFq_trans f1 f2⟩
        show fX12_comesOn_L178b _ _ _ _ _ _ _ = _
        simp (disch := (first | assumption | omega | exact hB _ _ | exact hYB _ _ | (simp only [yc, yd, sh, sv, ne_eq]; omega) | (simp (disch := omega) only [↓nm_1, ↓nm_2, nI_add, pk_mul, pk_sub, Nat.add_sub_cancel, qm1_add, qm2_add, nI_clamp, ni_0, ni_1, ni_3, ni_4, e1, e2]; refine qin_nI ?_ ?_ <;> first | omega | exact hB _ _ | exact hYB _ _) | (refine qin_nI ?_ ?_ <;> omega) | fail)) only [↓km0_gd, ↓km0_gI, ↓km0_gM, ↓km0_pI, ↓km0_pM, ↓km0_pZ, ↓km0_gL, ↓km0_pL, ↓qb_so, ↓nm_1, ↓nm_2, ↓reduceIte, if_true, if_false, not_true_eq_false, not_false_eq_true, and_true, true_and, and_false, false_and, or_true, true_or, or_false, false_or, eq_self, ne_eq, quI_s, quI_n, quI2, quL1, quL2, quL3, quR1, quR2, quR3, nI_add, pk_mul, pk_sub, Nat.add_sub_cancel, qm1_add, qm2_add, nI_leI, nI_ltI, nI_eq, nI_m1, nI_m1', nI_clamp, nI_bit, nI_one_shl, nI_m1l, nI_m1lt, nI_m1lt', nI_m1le', oI_some, oI_none, ni_0, ni_1, ni_3, ni_4, fX12_comesOn_L178b, qle_t, qle_f, qlt_t, qlt_f, qeq_t, qeq_f, e1, e2]
theorem m_onK (hb : b < 2) (hG : ∀ i, G 0 i < 256) (hY : yrOk Y) {g A : Nat} (hg : g < 6) (hA : A + 8 < 1600) : ∀ (k t q f : Nat) (S : xSt), t + k = Y 2 1 → k < q → f ≤ 1 → (∀ i, i < 1600 → S.1 1 i = nI (G 0 i)) → mY S b Y mc wc →
    ∃ Z v, fX12_handOn_L5 n 0 (nI g) (nI A) q (nI f) (nI t) S = some (nI v, Z) ∧ v ≤ 1 ∧ (v = 1 ↔ f = 1 ∧ ∀ x, t ≤ x → x < Y 2 1 → G 0 (A + x) ≤ 9) ∧ (∀ i, Z.1 39 i = if 48 + 8 * g + t ≤ i ∧ i < 48 + 8 * g + Y 2 1 then nI (G 0 (A + (i - (48 + 8 * g)))) else S.1 39 i) ∧ mFq (fun k j => k = 39 ∧ 48 + 8 * g ≤ j ∧ j < 48 + 8 * g + 8) S Z
  | 0, t, q, f, S, hk, hq, hf, ht, hm => by
    obtain ⟨q, rfl⟩ : ∃ q', q = q' + 1 := ⟨q - 1, by omega⟩
    have h8 : Y 2 1 ≤ 8 := hY.1.2.1
    have mb := hm.1
    have m1 := hm.2.1.2.1
    refine ⟨S, f, ?_, hf, ⟨fun hs => ⟨hs, fun x h1 h2 => by omega⟩, fun hs => hs.1⟩, fun i => by rw [if_neg (by omega)], mFq_refl⟩
    show fX12_handOn_L5b _ _ _ _ _ _ _ _ = _
    simp (disch := (first | assumption | omega | exact hB _ _ | exact hYB _ _ | (simp only [yc, yd, sh, sv, ne_eq]; omega) | (simp (disch := omega) only [↓nm_1, ↓nm_2, nI_add, pk_mul, pk_sub, Nat.add_sub_cancel, qm1_add, qm2_add, nI_clamp, ni_0, ni_1, ni_8, ni_9, ni_48, mb, m1]; refine qin_nI ?_ ?_ <;> first | omega | exact hB _ _ | exact hYB _ _) | (refine qin_nI ?_ ?_ <;> omega) | fail)) only [↓km0_gd, ↓km0_gI, ↓km0_gM, ↓km0_pI, ↓km0_pM, ↓km0_pZ, ↓km0_gL, ↓km0_pL, ↓km0_gF0, ↓km0_gF17, ↓km0_gF59, ↓km1_al, ↓km1_as, ↓km1_ln, ↓km5_al, ↓km5_as, ↓km5_ln, ↓km39_al, ↓km39_as, ↓km39_ln, ↓qb_so, ↓nm_1, ↓nm_2, ↓reduceIte, if_true, if_false, not_true_eq_false, not_false_eq_true, and_true, true_and, and_false, false_and, or_true, true_or, or_false, false_or, eq_self, ne_eq, quI_s, quI_n, quI2, quL1, quL2, quL3, quR1, quR2, quR3, nI_add, pk_mul, pk_sub, Nat.add_sub_cancel, qm1_add, qm2_add, nI_leI, nI_ltI, nI_eq, nI_m1, nI_m1', nI_clamp, nI_bit, nI_one_shl, nI_m1l, nI_m1lt, nI_m1lt', nI_m1le', oI_some, oI_none, ni_0, ni_1, ni_8, ni_9, ni_48, fX12_handOn_L5b, qle_t, qle_f, qlt_t, qlt_f, qeq_t, qeq_f, mb, m1]
  | k + 1, t, q, f, S, hk, hq, hf, ht, hm => by
    obtain ⟨q, rfl⟩ : ∃ q', q = q' + 1 := ⟨q - 1, by omega⟩
    have h8 : Y 2 1 ≤ 8 := hY.1.2.1
    have mb := hm.1
    have m1 := hm.2.1.2.1
    have g1 := hG (A + t)
    have f1 : mFq (fun k j => k = 39 ∧ 48 + 8 * g ≤ j ∧ j < 48 + 8 * g + 8) S (xuI S 39 (48 + 8 * g + t) (nI (G 0 (A + t)))) := mFq_upd (by omega)
    have ht' : ∀ i, i < 1600 → (xuI S 39 (48 + 8 * g + t) (nI (G 0 (A + t)))).1 1 i = nI (G 0 i) := fun i hi => by rw [quI_n (by decide)]; exact ht i hi
    have hm' : mY (xuI S 39 (48 + 8 * g + t) (nI (G 0 (A + t)))) b Y mc wc := mY_fr f1 (fun k j a1 a2 => by omega) (by omega) hm
    have fin : ∀ f', f' ≤ 1 → (f' = 1 ↔ f = 1 ∧ G 0 (A + t) ≤ 9) → (∀ V, fX12_handOn_L5 n 0 (nI g) (nI A) q (nI f') (nI (t + 1)) (xuI S 39 (48 + 8 * g + t) (nI (G 0 (A + t)))) = V → fX12_handOn_L5 n 0 (nI g) (nI A) (q + 1) (nI f) (nI t) S = V) → ∃ Z v, fX12_handOn_L5 n 0 (nI g) (nI A) (q + 1) (nI f) (nI t) S = some (nI v, Z) ∧ v ≤ 1 ∧ (v = 1 ↔ f = 1 ∧ ∀ x, t ≤ x → x < Y 2 1 → G 0 (A + x) ≤ 9) ∧ (∀ i, Z.1 39 i = if 48 + 8 * g + t ≤ i ∧ i < 48 + 8 * g + Y 2 1 then nI (G 0 (A + (i - (48 + 8 * g)))) else S.1 39 i) ∧ mFq (fun k j => k = 39 ∧ 48 + 8 * g ≤ j ∧ j < 48 + 8 * g + 8) S Z := by
      intro f' hf' hi hV
      obtain ⟨Z, v, e1, hv, hi2, z1, f2⟩ := m_onK hb hG hY hg hA k (t + 1) q f' _ (by omega) (by omega) hf' ht' hm'
      refine ⟨Z, v, hV _ e1, hv, ?_, fun i => ?_, mFq_trans f1 f2⟩
      · rw [hi2, hi]
        constructor
        · rintro ⟨⟨a1, a2⟩, a3⟩
          refine ⟨a1, fun x hx1 hx2 => ?_⟩
          by_cases hx : x = t
          · rw [hx]; exact a2
          · exact a3 x (by omega) hx2
        · rintro ⟨a1, a2⟩
          exact ⟨⟨a1, a2 t (Nat.le_refl _) (by omega)⟩, fun x hx1 hx2 => a2 x (by omega) hx2⟩
      · rw [z1]
        by_cases hx : 48 + 8 * g + (t + 1) ≤ i ∧ i < 48 + 8 * g + Y 2 1
        · rw [if_pos hx, if_pos ⟨by omega, hx.2⟩]
        · rw [if_neg hx, quI_s]
          by_cases hx2 : i = 48 + 8 * g + t
          · rw [if_pos hx2, if_pos ⟨by omega, by omega⟩, show i - (48 + 8 * g) = t by omega]
          · rw [if_neg hx2, if_neg (by omega)]
    rcases (by omega : f = 0 ∨ f = 1) with rfl | rfl
    · refine fin 0 (by decide) (by omega) (fun V hV => ?_)
      rw [← hV]
      show fX12_handOn_L5b _ _ _ _ _ _ _ _ = _
      simp (disch := (first | assumption | omega | exact hB _ _ | exact hYB _ _ | (simp only [yc, yd, sh, sv, ne_eq]; omega) | (simp (disch := omega) only [↓nm_1, ↓nm_2, nI_add, pk_mul, pk_sub, Nat.add_sub_cancel, qm1_add, qm2_add, nI_clamp, ni_0, ni_1, ni_8, ni_9, ni_48, mb, m1, ht]; refine qin_nI ?_ ?_ <;> first | omega | exact hB _ _ | exact hYB _ _) | (refine qin_nI ?_ ?_ <;> omega) | fail)) only [↓km0_gd, ↓km0_gI, ↓km0_gM, ↓km0_pI, ↓km0_pM, ↓km0_pZ, ↓km0_gL, ↓km0_pL, ↓km0_gF0, ↓km0_gF17, ↓km0_gF59, ↓km1_al, ↓km1_as, ↓km1_ln, ↓km5_al, ↓km5_as, ↓km5_ln, ↓km39_al, ↓km39_as, ↓km39_ln, ↓qb_so, ↓nm_1, ↓nm_2, ↓reduceIte, if_true, if_false, not_true_eq_false, not_false_eq_true, and_true, true_and, and_false, false_and, or_true, true_or, or_false, false_or, eq_self, ne_eq, quI_s, quI_n, quI2, quL1, quL2, quL3, quR1, quR2, quR3, nI_add, pk_mul, pk_sub, Nat.add_sub_cancel, qm1_add, qm2_add, nI_leI, nI_ltI, nI_eq, nI_m1, nI_m1', nI_clamp, nI_bit, nI_one_shl, nI_m1l, nI_m1lt, nI_m1lt', nI_m1le', oI_some, oI_none, ni_0, ni_1, ni_8, ni_9, ni_48, fX12_handOn_L5b, qle_t, qle_f, qlt_t, qlt_f, qeq_t, qeq_f, mb, m1, ht]
    · by_cases h9 : 9 < G 0 (A + t)
      · refine fin 0 (by decide) (by omega) (fun V hV => ?_)
        rw [← hV]
        show fX12_handOn_L5b _ _ _ _ _ _ _ _ = _
        simp (disch := (first | assumption | omega | exact hB _ _ | exact hYB _ _ | (simp only [yc, yd, sh, sv, ne_eq]; omega) | (simp (disch := omega) only [↓nm_1, ↓nm_2, nI_add, pk_mul, pk_sub, Nat.add_sub_cancel, qm1_add, qm2_add, nI_clamp, ni_0, ni_1, ni_8, ni_9, ni_48, mb, m1, ht, ht', h9]; refine qin_nI ?_ ?_ <;> first | omega | exact hB _ _ | exact hYB _ _) | (refine qin_nI ?_ ?_ <;> omega) | fail)) only [↓km0_gd, ↓km0_gI, ↓km0_gM, ↓km0_pI, ↓km0_pM, ↓km0_pZ, ↓km0_gL, ↓km0_pL, ↓km0_gF0, ↓km0_gF17, ↓km0_gF59, ↓km1_al, ↓km1_as, ↓km1_ln, ↓km5_al, ↓km5_as, ↓km5_ln, ↓km39_al, ↓km39_as, ↓km39_ln, ↓qb_so, ↓nm_1, ↓nm_2, ↓reduceIte, if_true, if_false, not_true_eq_false, not_false_eq_true, and_true, true_and, and_false, false_and, or_true, true_or, or_false, false_or, eq_self, ne_eq, quI_s, quI_n, quI2, quL1, quL2, quL3, quR1, quR2, quR3, nI_add, pk_mul, pk_sub, Nat.add_sub_cancel, qm1_add, qm2_add, nI_leI, nI_ltI, nI_eq, nI_m1, nI_m1', nI_clamp, nI_bit, nI_one_shl, nI_m1l, nI_m1lt, nI_m1lt', nI_m1le', oI_some, oI_none, ni_0, ni_1, ni_8, ni_9, ni_48, fX12_handOn_L5b, qle_t, qle_f, qlt_t, qlt_f, qeq_t, qeq_f, mb, m1, ht, ht', h9]
      · refine fin 1 (by decide) (by omega) (fun V hV => ?_)
        rw [← hV]
        show fX12_handOn_L5b _ _ _ _ _ _ _ _ = _
        simp (disch := (first | assumption | omega | exact hB _ _ | exact hYB _ _ | (simp only [yc, yd, sh, sv, ne_eq]; omega) | (simp (disch := omega) only [↓nm_1, ↓nm_2, nI_add, pk_mul, pk_sub, Nat.add_sub_cancel, qm1_add, qm2_add, nI_clamp, ni_0, ni_1, ni_8, ni_9, ni_48, mb, m1, ht, ht', h9]; refine qin_nI ?_ ?_ <;> first | omega | exact hB _ _ | exact hYB _ _) | (refine qin_nI ?_ ?_ <;> omega) | fail)) only [↓km0_gd, ↓km0_gI, ↓km0_gM, ↓km0_pI, ↓km0_pM, ↓km0_pZ, ↓km0_gL, ↓km0_pL, ↓km0_gF0, ↓km0_gF17, ↓km0_gF59, ↓km1_al, ↓km1_as, ↓km1_ln, ↓km5_al, ↓km5_as, ↓km5_ln, ↓km39_al, ↓km39_as, ↓km39_ln, ↓qb_so, ↓nm_1, ↓nm_2, ↓reduceIte, if_true, if_false, not_true_eq_false, not_false_eq_true, and_true, true_and, and_false, false_and, or_true, true_or, or_false, false_or, eq_self, ne_eq, quI_s, quI_n, quI2, quL1, quL2, quL3, quR1, quR2, quR3, nI_add, pk_mul, pk_sub, Nat.add_sub_cancel, qm1_add, qm2_add, nI_leI, nI_ltI, nI_eq, nI_m1, nI_m1', nI_clamp, nI_bit, nI_one_shl, nI_m1l, nI_m1lt, nI_m1lt', nI_m1le', oI_some, oI_none, ni_0, ni_1, ni_8, ni_9, ni_48, fX12_handOn_L5b, qle_t, qle_f, qlt_t, qlt_f, qeq_t, qeq_f, mb, m1, ht, ht', h9]
theorem m_onH (hb : b < 2) (hG : ∀ i, G 0 i < 256) (hY : yrOk Y) (hn : 2000 ≤ n) (a3 : Int32) : ∀ (k g q : Nat) (S : xSt), g + k = Y 2 2 → k < q → (∀ i, i < 1600 → S.1 1 i = nI (G 0 i)) → mY S b Y mc wc →
    ((∀ h, g ≤ h → h < Y 2 2 → ∀ x, x < Y 2 1 → G 0 (4 + 3 * Y 2 1 + Y 2 1 * h + x) ≤ 9) ∧ ∃ Z, fX12_comesOn_L210 n 0 (nI (Y 2 1)) a3 q (nI g) S = some (.inl Z) ∧ (∀ h x, h < Y 2 2 → x < Y 2 1 → Z.1 39 (48 + 8 * h + x) = if g ≤ h then nI (G 0 (4 + 3 * Y 2 1 + Y 2 1 * h + x)) else S.1 39 (48 + 8 * h + x)) ∧ mFq (fun k j => k = 39 ∧ 48 ≤ j ∧ j < 96) S Z) ∨
    ((¬ ∀ h, g ≤ h → h < Y 2 2 → ∀ x, x < Y 2 1 → G 0 (4 + 3 * Y 2 1 + Y 2 1 * h + x) ≤ 9) ∧ ∃ Z, fX12_comesOn_L210 n 0 (nI (Y 2 1)) a3 q (nI g) S = some (.inr (nI 0, Z)) ∧ mFq (fun k j => k = 39 ∧ 48 ≤ j ∧ j < 96) S Z)
  | 0, g, q, S, hk, hq, ht, hm => by
    obtain ⟨q, rfl⟩ : ∃ q', q = q' + 1 := ⟨q - 1, by omega⟩
    have h62 : Y 2 2 ≤ 6 := hY.1.2.2.1
    have mb := hm.1
    have m1 := hm.2.1.2.2.1
    refine Or.inl ⟨fun x h1 h2 => by omega, S, ?_, fun h x hh hx => by rw [if_neg (by omega)], mFq_refl⟩
    show fX12_comesOn_L210b _ _ _ _ _ _ _ = _
    simp (disch := (first | assumption | omega | exact hB _ _ | exact hYB _ _ | (simp only [yc, yd, sh, sv, ne_eq]; omega) | (simp (disch := omega) only [↓nm_1, ↓nm_2, nI_add, pk_mul, pk_sub, Nat.add_sub_cancel, qm1_add, qm2_add, nI_clamp, ni_0, ni_1, ni_3, ni_4, mb, m1]; refine qin_nI ?_ ?_ <;> first | omega | exact hB _ _ | exact hYB _ _) | (refine qin_nI ?_ ?_ <;> omega) | fail)) only [↓km0_gd, ↓km0_gI, ↓km0_gM, ↓km0_pI, ↓km0_pM, ↓km0_pZ, ↓km0_gL, ↓km0_pL, ↓km0_gF20, ↓km8_al, ↓km8_as, ↓km8_ln, ↓qb_so, ↓nm_1, ↓nm_2, ↓reduceIte, if_true, if_false, not_true_eq_false, not_false_eq_true, and_true, true_and, and_false, false_and, or_true, true_or, or_false, false_or, eq_self, ne_eq, quI_s, quI_n, quI2, quL1, quL2, quL3, quR1, quR2, quR3, nI_add, pk_mul, pk_sub, Nat.add_sub_cancel, qm1_add, qm2_add, nI_leI, nI_ltI, nI_eq, nI_m1, nI_m1', nI_clamp, nI_bit, nI_one_shl, nI_m1l, nI_m1lt, nI_m1lt', nI_m1le', oI_some, oI_none, ni_0, ni_1, ni_3, ni_4, fX12_comesOn_L210b, qle_t, qle_f, qlt_t, qlt_f, qeq_t, qeq_f, mb, m1]
  | k + 1, g, q, S, hk, hq, ht, hm => by
    obtain ⟨q, rfl⟩ : ∃ q', q = q' + 1 := ⟨q - 1, by omega⟩
    have h8 : Y 2 1 ≤ 8 := hY.1.2.1
    have h62 : Y 2 2 ≤ 6 := hY.1.2.2.1
    have mb := hm.1
    have m1 := hm.2.1.2.2.1
    have hmul : Y 2 1 * g ≤ 8 * 6 := Nat.mul_le_mul h8 (by omega)
    obtain ⟨Z1, v, e1, hv, hi, z1, f1⟩ := m_onK (n := n) (g := g) (A := 4 + 3 * Y 2 1 + Y 2 1 * g) hb hG hY (by omega) (by omega) (Y 2 1) 0 n 1 S (by omega) (by omega) (by decide) ht hm
    have f1' : mFq (fun k j => k = 39 ∧ 48 ≤ j ∧ j < 96) S Z1 := mFq_mono f1 (fun k j hh => by omega)
    rcases (by omega : v = 0 ∨ v = 1) with rfl | rfl
    · refine Or.inr ⟨fun hh => by have := hi.mpr ⟨rfl, fun x _ hx => hh g (Nat.le_refl _) (by omega) x hx⟩; omega, Z1, ?_, f1'⟩
      show fX12_comesOn_L210b _ _ _ _ _ _ _ = _
      simp (disch := (first | assumption | omega | exact hB _ _ | exact hYB _ _ | (simp only [yc, yd, sh, sv, ne_eq]; omega) | (simp (disch := omega) only [↓nm_1, ↓nm_2, nI_add, pk_mul, pk_sub, Nat.add_sub_cancel, qm1_add, qm2_add, nI_clamp, ni_0, ni_1, ni_3, ni_4, mb, m1, e1]; refine qin_nI ?_ ?_ <;> first | omega | exact hB _ _ | exact hYB _ _) | (refine qin_nI ?_ ?_ <;> omega) | fail)) only [↓km0_gd, ↓km0_gI, ↓km0_gM, ↓km0_pI, ↓km0_pM, ↓km0_pZ, ↓km0_gL, ↓km0_pL, ↓km0_gF20, ↓km8_al, ↓km8_as, ↓km8_ln, ↓qb_so, ↓nm_1, ↓nm_2, ↓reduceIte, if_true, if_false, not_true_eq_false, not_false_eq_true, and_true, true_and, and_false, false_and, or_true, true_or, or_false, false_or, eq_self, ne_eq, quI_s, quI_n, quI2, quL1, quL2, quL3, quR1, quR2, quR3, nI_add, pk_mul, pk_sub, Nat.add_sub_cancel, qm1_add, qm2_add, nI_leI, nI_ltI, nI_eq, nI_m1, nI_m1', nI_clamp, nI_bit, nI_one_shl, nI_m1l, nI_m1lt, nI_m1lt', nI_m1le', oI_some, oI_none, ni_0, ni_1, ni_3, ni_4, fX12_comesOn_L210b, fX12_handOn, qle_t, qle_f, qlt_t, qlt_f, qeq_t, qeq_f, mb, m1, e1]
    · have hok := (hi.mp rfl).2
      have IH := m_onH hb hG hY hn a3 k (g + 1) q Z1 (by omega) (by omega) (fun i hi => by rw [f1.1 1 i (by omega)]; exact ht i hi) (mY_fr f1 (fun k j a1 a2 => by omega) (by omega) hm)
      rcases IH with ⟨o1, Z, e2, z2, f2⟩ | ⟨o1, Z, e2, f2⟩
      · refine Or.inl ⟨fun h hx1 hx2 x hx => ?_, Z, ?_, fun h x hh hx => ?_, mFq_trans f1' f2⟩
        · by_cases e : h = g
          · rw [e]; exact hok x (Nat.zero_le _) hx
          · exact o1 h (by omega) hx2 x hx
        · show fX12_comesOn_L210b _ _ _ _ _ _ _ = _
          simp (disch := (first | assumption | omega | exact hB _ _ | exact hYB _ _ | (simp only [yc, yd, sh, sv, ne_eq]; omega) | (simp (disch := omega) only [↓nm_1, ↓nm_2, nI_add, pk_mul, pk_sub, Nat.add_sub_cancel, qm1_add, qm2_add, nI_clamp, ni_0, ni_1, ni_3, ni_4, mb, m1, e1, e2]; refine qin_nI ?_ ?_ <;> first | omega | exact hB _ _ | exact hYB _ _) | (refine qin_nI ?_ ?_ <;> omega) | fail)) only [↓km0_gd, ↓km0_gI, ↓km0_gM, ↓km0_pI, ↓km0_pM, ↓km0_pZ, ↓km0_gL, ↓km0_pL, ↓km0_gF20, ↓km8_al, ↓km8_as, ↓km8_ln, ↓qb_so, ↓nm_1, ↓nm_2, ↓reduceIte, if_true, if_false, not_true_eq_false, not_false_eq_true, and_true, true_and, and_false, false_and, or_true, true_or, or_false, false_or, eq_self, ne_eq, quI_s, quI_n, quI2, quL1, quL2, quL3, quR1, quR2, quR3, nI_add, pk_mul, pk_sub, Nat.add_sub_cancel, qm1_add, qm2_add, nI_leI, nI_ltI, nI_eq, nI_m1, nI_m1', nI_clamp, nI_bit, nI_one_shl, nI_m1l, nI_m1lt, nI_m1lt', nI_m1le', oI_some, oI_none, ni_0, ni_1, ni_3, ni_4, fX12_comesOn_L210b, fX12_handOn, qle_t, qle_f, qlt_t, qlt_f, qeq_t, qeq_f, mb, m1, e1, e2]
        · rw [z2 h x hh hx]
          by_cases e : g + 1 ≤ h
          · rw [if_pos e, if_pos (by omega)]
          · rw [if_neg e, z1]
            by_cases e2 : h = g
            · subst e2
              rw [if_pos ⟨by omega, by omega⟩, if_pos (Nat.le_refl _), show 48 + 8 * h + x - (48 + 8 * h) = x by omega]
            · rw [if_neg (by omega), if_neg (by omega)]
      · refine Or.inr ⟨fun hh => o1 (fun h hx1 hx2 x hx => hh h (by omega) hx2 x hx), Z, ?_, mFq_trans f1' f2⟩
        show fX12_comesOn_L210b _ _ _ _ _ _ _ = _
        simp (disch := (first | assumption | omega | exact hB _ _ | exact hYB _ _ | (simp only [yc, yd, sh, sv, ne_eq]; omega) | (simp (disch := omega) only [↓nm_1, ↓nm_2, nI_add, pk_mul, pk_sub, Nat.add_sub_cancel, qm1_add, qm2_add, nI_clamp, ni_0, ni_1, ni_3, ni_4, mb, m1, e1, e2]; refine qin_nI ?_ ?_ <;> first | omega | exact hB _ _ | exact hYB _ _) | (refine qin_nI ?_ ?_ <;> omega) | fail)) only [↓km0_gd, ↓km0_gI, ↓km0_gM, ↓km0_pI, ↓km0_pM, ↓km0_pZ, ↓km0_gL, ↓km0_pL, ↓km0_gF20, ↓km8_al, ↓km8_as, ↓km8_ln, ↓qb_so, ↓nm_1, ↓nm_2, ↓reduceIte, if_true, if_false, not_true_eq_false, not_false_eq_true, and_true, true_and, and_false, false_and, or_true, true_or, or_false, false_or, eq_self, ne_eq, quI_s, quI_n, quI2, quL1, quL2, quL3, quR1, quR2, quR3, nI_add, pk_mul, pk_sub, Nat.add_sub_cancel, qm1_add, qm2_add, nI_leI, nI_ltI, nI_eq, nI_m1, nI_m1', nI_clamp, nI_bit, nI_one_shl, nI_m1l, nI_m1lt, nI_m1lt', nI_m1le', oI_some, oI_none, ni_0, ni_1, ni_3, ni_4, fX12_comesOn_L210b, fX12_handOn, qle_t, qle_f, qlt_t, qlt_f, qeq_t, qeq_f, mb, m1, e1, e2]
theorem m_job1 (hb : b < 2) (hY : yrOk Y) (ht : ∀ i, i < 1600 → S.1 1 i = nI (G 0 i)) (hG : ∀ i, G 0 i < 256) (hm : mY S b Y mc wc) {A j : Nat} (ha : A + 3 * j + 2 < 1600) (hj : j < Y 2 3) : ∃ v, fX12_jobOn 0 (nI j) (nI (A + 3 * j)) S = some (nI v, xuI (xuI S 40 (6 + j) (nI (G 0 (A + 3 * j)))) 41 (6 + j) (nI (s_two G (A + 3 * j + 1)))) ∧ v ≤ 1 ∧ (v = 1 ↔ jOK Y G A j) := by
  have h6 : Y 2 3 ≤ 6 := hY.1.2.2.2
  have g1 := hG (A + 3 * j)
  have hYB := yrOk_B hY
  have e1 := m_2by (S := xuI S 40 (6 + j) (nI (G 0 (A + 3 * j)))) (a := A + 3 * j + 1) (fun i hi => by rw [quI_n (by decide)]; exact ht i hi) hG (by omega)
  have f1 : mFq (pQ 1) S (xuI (xuI S 40 (6 + j) (nI (G 0 (A + 3 * j)))) 41 (6 + j) (nI (s_two G (A + 3 * j + 1)))) := mFq_trans (mFq_upd (by unfold pQ; omega)) (mFq_upd (by unfold pQ; omega))
  have ht2 : ∀ i, i < 1600 → (xuI (xuI S 40 (6 + j) (nI (G 0 (A + 3 * j)))) 41 (6 + j) (nI (s_two G (A + 3 * j + 1)))).1 1 i = nI (G 0 i) := fun i hi => by rw [quI_n (by decide), quI_n (by decide)]; exact ht i hi
  have e2 := m_2by (a := A + 3 * j + 1) ht2 hG (by omega)
  have e3 := m_stepsOf hb (mY_fr f1 (fun k j a1 a2 => by unfold pQ; omega) (by unfold pQ; omega) hm) hY hj
  have hl := s_two_lt (a := A + 3 * j + 1) hG
  by_cases h1 : Y 9 j < G 0 (A + 3 * j)
  · refine ⟨0, ?_, by decide, by unfold jOK; omega⟩
    simp (disch := (first | assumption | omega | exact hB _ _ | exact hYB _ _ | (simp only [yc, yd, sh, sv, ne_eq]; omega) | (simp (disch := omega) only [↓nm_1, ↓nm_2, nI_add, pk_mul, pk_sub, Nat.add_sub_cancel, qm1_add, qm2_add, nI_clamp, ni_0, ni_1, ni_6, ni_999, ht, e1, ht2, e3, h1]; refine qin_nI ?_ ?_ <;> first | omega | exact hB _ _ | exact hYB _ _) | (refine qin_nI ?_ ?_ <;> omega) | fail)) only [↓km0_gd, ↓km0_gI, ↓km0_gM, ↓km0_pI, ↓km0_pM, ↓km0_pZ, ↓km0_gL, ↓km0_pL, ↓km0_gF0, ↓km0_gF60, ↓km0_gF61, ↓km1_al, ↓km1_as, ↓km1_ln, ↓km40_al, ↓km40_as, ↓km40_ln, ↓km41_al, ↓km41_as, ↓km41_ln, ↓qb_so, ↓nm_1, ↓nm_2, ↓reduceIte, if_true, if_false, not_true_eq_false, not_false_eq_true, and_true, true_and, and_false, false_and, or_true, true_or, or_false, false_or, eq_self, ne_eq, quI_s, quI_n, quI2, quL1, quL2, quL3, quR1, quR2, quR3, nI_add, pk_mul, pk_sub, Nat.add_sub_cancel, qm1_add, qm2_add, nI_leI, nI_ltI, nI_eq, nI_m1, nI_m1', nI_clamp, nI_bit, nI_one_shl, nI_m1l, nI_m1lt, nI_m1lt', nI_m1le', oI_some, oI_none, ni_0, ni_1, ni_6, ni_999, fX12_jobOn, qle_t, qle_f, qlt_t, qlt_f, qeq_t, qeq_f, ht, e1, ht2, e3, h1]
  · by_cases h2 : 999 < s_two G (A + 3 * j + 1)
    · refine ⟨0, ?_, by decide, by unfold jOK; omega⟩
      simp (disch := (first | assumption | omega | exact hB _ _ | exact hYB _ _ | (simp only [yc, yd, sh, sv, ne_eq]; omega) | (simp (disch := omega) only [↓nm_1, ↓nm_2, nI_add, pk_mul, pk_sub, Nat.add_sub_cancel, qm1_add, qm2_add, nI_clamp, ni_0, ni_1, ni_6, ni_999, ht, e1, ht2, e3, h1, e2, h2]; refine qin_nI ?_ ?_ <;> first | omega | exact hB _ _ | exact hYB _ _) | (refine qin_nI ?_ ?_ <;> omega) | fail)) only [↓km0_gd, ↓km0_gI, ↓km0_gM, ↓km0_pI, ↓km0_pM, ↓km0_pZ, ↓km0_gL, ↓km0_pL, ↓km0_gF0, ↓km0_gF60, ↓km0_gF61, ↓km1_al, ↓km1_as, ↓km1_ln, ↓km40_al, ↓km40_as, ↓km40_ln, ↓km41_al, ↓km41_as, ↓km41_ln, ↓qb_so, ↓nm_1, ↓nm_2, ↓reduceIte, if_true, if_false, not_true_eq_false, not_false_eq_true, and_true, true_and, and_false, false_and, or_true, true_or, or_false, false_or, eq_self, ne_eq, quI_s, quI_n, quI2, quL1, quL2, quL3, quR1, quR2, quR3, nI_add, pk_mul, pk_sub, Nat.add_sub_cancel, qm1_add, qm2_add, nI_leI, nI_ltI, nI_eq, nI_m1, nI_m1', nI_clamp, nI_bit, nI_one_shl, nI_m1l, nI_m1lt, nI_m1lt', nI_m1le', oI_some, oI_none, ni_0, ni_1, ni_6, ni_999, fX12_jobOn, qle_t, qle_f, qlt_t, qlt_f, qeq_t, qeq_f, ht, e1, ht2, e3, h1, e2, h2]
    · refine ⟨1, ?_, by decide, by unfold jOK; omega⟩
      simp (disch := (first | assumption | omega | exact hB _ _ | exact hYB _ _ | (simp only [yc, yd, sh, sv, ne_eq]; omega) | (simp (disch := omega) only [↓nm_1, ↓nm_2, nI_add, pk_mul, pk_sub, Nat.add_sub_cancel, qm1_add, qm2_add, nI_clamp, ni_0, ni_1, ni_6, ni_999, ht, e1, ht2, e3, h1, e2, h2]; refine qin_nI ?_ ?_ <;> first | omega | exact hB _ _ | exact hYB _ _) | (refine qin_nI ?_ ?_ <;> omega) | fail)) only [↓km0_gd, ↓km0_gI, ↓km0_gM, ↓km0_pI, ↓km0_pM, ↓km0_pZ, ↓km0_gL, ↓km0_pL, ↓km0_gF0, ↓km0_gF60, ↓km0_gF61, ↓km1_al, ↓km1_as, ↓km1_ln, ↓km40_al, ↓km40_as, ↓km40_ln, ↓km41_al, ↓km41_as, ↓km41_ln, ↓qb_so, ↓nm_1, ↓nm_2, ↓reduceIte, if_true, if_false, not_true_eq_false, not_false_eq_true, and_true, true_and, and_false, false_and, or_true, true_or, or_false, false_or, eq_self, ne_eq, quI_s, quI_n, quI2, quL1, quL2, quL3, quR1, quR2, quR3, nI_add, pk_mul, pk_sub, Nat.add_sub_cancel, qm1_add, qm2_add, nI_leI, nI_ltI, nI_eq, nI_m1, nI_m1', nI_clamp, nI_bit, nI_one_shl, nI_m1l, nI_m1lt, nI_m1lt', nI_m1le', oI_some, oI_none, ni_0, ni_1, ni_6, ni_999, fX12_jobOn, qle_t, qle_f, qlt_t, qlt_f, qeq_t, qeq_f, ht, e1, ht2, e3, h1, e2, h2]
theorem m_onJ (hb : b < 2) (hG : ∀ i, G 0 i < 256) (hY : yrOk Y) {A : Nat} (hA : A + 30 < 1600) : ∀ (k t q : Nat) (S : xSt), t + k = Y 2 3 → k < q → (∀ i, i < 1600 → S.1 1 i = nI (G 0 i)) → mY S b Y mc wc →
    ((∀ x, t ≤ x → x < Y 2 3 → jOK Y G A x) ∧ ∃ Z, fX12_comesOn_L254 n 0 (nI A) q (nI t) S = some (.inl Z) ∧ (∀ j, j < Y 2 3 → Z.1 40 (6 + j) = if t ≤ j then nI (G 0 (A + 3 * j)) else S.1 40 (6 + j)) ∧ (∀ j, j < Y 2 3 → Z.1 41 (6 + j) = if t ≤ j then nI (s_two G (A + 3 * j + 1)) else S.1 41 (6 + j)) ∧ mFq (fun k j => (k = 40 ∨ k = 41) ∧ 6 ≤ j ∧ j < 12) S Z) ∨
    ((¬ ∀ x, t ≤ x → x < Y 2 3 → jOK Y G A x) ∧ ∃ Z, fX12_comesOn_L254 n 0 (nI A) q (nI t) S = some (.inr (nI 0, Z)) ∧ mFq (fun k j => (k = 40 ∨ k = 41) ∧ 6 ≤ j ∧ j < 12) S Z)
  | 0, t, q, S, hk, hq, ht, hm => by
    obtain ⟨q, rfl⟩ : ∃ q', q = q' + 1 := ⟨q - 1, by omega⟩
    have h6 : Y 2 3 ≤ 6 := hY.1.2.2.2
    have mb := hm.1
    have m1 := hm.2.1.2.2.2
    refine Or.inl ⟨fun x h1 h2 => by omega, S, ?_, fun j hj => by rw [if_neg (by omega)], fun j hj => by rw [if_neg (by omega)], mFq_refl⟩
    show fX12_comesOn_L254b _ _ _ _ _ _ = _
    simp (disch := (first | assumption | omega | exact hB _ _ | exact hYB _ _ | (simp only [yc, yd, sh, sv, ne_eq]; omega) | (simp (disch := omega) only [↓nm_1, ↓nm_2, nI_add, pk_mul, pk_sub, Nat.add_sub_cancel, qm1_add, qm2_add, nI_clamp, ni_0, ni_1, ni_3, mb, m1]; refine qin_nI ?_ ?_ <;> first | omega | exact hB _ _ | exact hYB _ _) | (refine qin_nI ?_ ?_ <;> omega) | fail)) only [↓km0_gd, ↓km0_gI, ↓km0_gM, ↓km0_pI, ↓km0_pM, ↓km0_pZ, ↓km0_gL, ↓km0_pL, ↓km0_gF22, ↓km10_al, ↓km10_as, ↓km10_ln, ↓qb_so, ↓nm_1, ↓nm_2, ↓reduceIte, if_true, if_false, not_true_eq_false, not_false_eq_true, and_true, true_and, and_false, false_and, or_true, true_or, or_false, false_or, eq_self, ne_eq, quI_s, quI_n, quI2, quL1, quL2, quL3, quR1, quR2, quR3, nI_add, pk_mul, pk_sub, Nat.add_sub_cancel, qm1_add, qm2_add, nI_leI, nI_ltI, nI_eq, nI_m1, nI_m1', nI_clamp, nI_bit, nI_one_shl, nI_m1l, nI_m1lt, nI_m1lt', nI_m1le', oI_some, oI_none, ni_0, ni_1, ni_3, fX12_comesOn_L254b, qle_t, qle_f, qlt_t, qlt_f, qeq_t, qeq_f, mb, m1]
  | k + 1, t, q, S, hk, hq, ht, hm => by
    obtain ⟨q, rfl⟩ : ∃ q', q = q' + 1 := ⟨q - 1, by omega⟩
    have h6 : Y 2 3 ≤ 6 := hY.1.2.2.2
    have mb := hm.1
    have m1 := hm.2.1.2.2.2
    obtain ⟨v, e1, hv, hi⟩ := m_job1 (A := A) (j := t) hb hY ht hG hm (by omega) (by omega)
    have f1 : mFq (fun k j => (k = 40 ∨ k = 41) ∧ 6 ≤ j ∧ j < 12) S (xuI (xuI S 40 (6 + t) (nI (G 0 (A + 3 * t)))) 41 (6 + t) (nI (s_two G (A + 3 * t + 1)))) := mFq_trans (mFq_upd (by omega)) (mFq_upd (by omega))
    rcases (by omega : v = 0 ∨ v = 1) with rfl | rfl
    · refine Or.inr ⟨fun hh => by have := hi.mpr (hh t (Nat.le_refl _) (by omega)); omega, _, ?_, f1⟩
      show fX12_comesOn_L254b _ _ _ _ _ _ = _
      simp (disch := (first | assumption | omega | exact hB _ _ | exact hYB _ _ | (simp only [yc, yd, sh, sv, ne_eq]; omega) | (simp (disch := omega) only [↓nm_1, ↓nm_2, nI_add, pk_mul, pk_sub, Nat.add_sub_cancel, qm1_add, qm2_add, nI_clamp, ni_0, ni_1, ni_3, mb, m1, e1]; refine qin_nI ?_ ?_ <;> first | omega | exact hB _ _ | exact hYB _ _) | (refine qin_nI ?_ ?_ <;> omega) | fail)) only [↓km0_gd, ↓km0_gI, ↓km0_gM, ↓km0_pI, ↓km0_pM, ↓km0_pZ, ↓km0_gL, ↓km0_pL, ↓km0_gF22, ↓km10_al, ↓km10_as, ↓km10_ln, ↓qb_so, ↓nm_1, ↓nm_2, ↓reduceIte, if_true, if_false, not_true_eq_false, not_false_eq_true, and_true, true_and, and_false, false_and, or_true, true_or, or_false, false_or, eq_self, ne_eq, quI_s, quI_n, quI2, quL1, quL2, quL3, quR1, quR2, quR3, nI_add, pk_mul, pk_sub, Nat.add_sub_cancel, qm1_add, qm2_add, nI_leI, nI_ltI, nI_eq, nI_m1, nI_m1', nI_clamp, nI_bit, nI_one_shl, nI_m1l, nI_m1lt, nI_m1lt', nI_m1le', oI_some, oI_none, ni_0, ni_1, ni_3, fX12_comesOn_L254b, qle_t, qle_f, qlt_t, qlt_f, qeq_t, qeq_f, mb, m1, e1]
    · have hok := hi.mp rfl
      have IH := m_onJ hb hG hY hA k (t + 1) q _ (by omega) (by omega) (fun i hi => by rw [f1.1 1 i (by omega)]; exact ht i hi) (mY_fr f1 (fun k j a1 a2 => by omega) (by omega) hm)
      rcases IH with ⟨o1, Z, e2, z2, z3, f2⟩ | ⟨o1, Z, e2, f2⟩
      · refine Or.inl ⟨fun x hx1 hx2 => ?_, Z, ?_, fun j hj => ?_, fun j hj => ?_, mFq_trans f1 f2⟩
        · by_cases hx : x = t
          · rw [hx]; exact hok
          · exact o1 x (by omega) hx2
        · show fX12_comesOn_L254b _ _ _ _ _ _ = _
          simp (disch := (first | assumption | omega | exact hB _ _ | exact hYB _ _ | (simp only [yc, yd, sh, sv, ne_eq]; omega) | (simp (disch := omega) only [↓nm_1, ↓nm_2, nI_add, pk_mul, pk_sub, Nat.add_sub_cancel, qm1_add, qm2_add, nI_clamp, ni_0, ni_1, ni_3, mb, m1, e1, e2]; refine qin_nI ?_ ?_ <;> first | omega | exact hB _ _ | exact hYB _ _) | (refine qin_nI ?_ ?_ <;> omega) | fail)) only [↓km0_gd, ↓km0_gI, ↓km0_gM, ↓km0_pI, ↓km0_pM, ↓km0_pZ, ↓km0_gL, ↓km0_pL, ↓km0_gF22, ↓km10_al, ↓km10_as, ↓km10_ln, ↓qb_so, ↓nm_1, ↓nm_2, ↓reduceIte, if_true, if_false, not_true_eq_false, not_false_eq_true, and_true, true_and, and_false, false_and, or_true, true_or, or_false, false_or, eq_self, ne_eq, quI_s, quI_n, quI2, quL1, quL2, quL3, quR1, quR2, quR3, nI_add, pk_mul, pk_sub, Nat.add_sub_cancel, qm1_add, qm2_add, nI_leI, nI_ltI, nI_eq, nI_m1, nI_m1', nI_clamp, nI_bit, nI_one_shl, nI_m1l, nI_m1lt, nI_m1lt', nI_m1le', oI_some, oI_none, ni_0, ni_1, ni_3, fX12_comesOn_L254b, qle_t, qle_f, qlt_t, qlt_f, qeq_t, qeq_f, mb, m1, e1, e2]
        · rw [z2 j hj]
          by_cases hx : t + 1 ≤ j
          · rw [if_pos hx, if_pos (by omega)]
          · rw [if_neg hx, quI_n (by decide), quI_s]
            by_cases hx2 : j = t
            · rw [hx2, if_pos rfl, if_pos (Nat.le_refl _)]
            · rw [if_neg (by omega), if_neg (by omega)]
        · rw [z3 j hj]
          by_cases hx : t + 1 ≤ j
          · rw [if_pos hx, if_pos (by omega)]
          · rw [if_neg hx, quI_s]
            by_cases hx2 : j = t
            · rw [hx2, if_pos rfl, if_pos (Nat.le_refl _)]
            · rw [if_neg (by omega), if_neg (by omega), quI_n (by decide)]
      · refine Or.inr ⟨fun hh => o1 (fun x hx1 hx2 => hh x (by omega) hx2), Z, ?_, mFq_trans f1 f2⟩
        show fX12_comesOn_L254b _ _ _ _ _ _ = _
        simp (disch := (first | assumption | omega | exact hB _ _ | exact hYB _ _ | (simp only [yc, yd, sh, sv, ne_eq]; omega) | (simp (disch := omega) only [↓nm_1, ↓nm_2, nI_add, pk_mul, pk_sub, Nat.add_sub_cancel, qm1_add, qm2_add, nI_clamp, ni_0, ni_1, ni_3, mb, m1, e1, e2]; refine qin_nI ?_ ?_ <;> first | omega | exact hB _ _ | exact hYB _ _) | (refine qin_nI ?_ ?_ <;> omega) | fail)) only [↓km0_gd, ↓km0_gI, ↓km0_gM, ↓km0_pI, ↓km0_pM, ↓km0_pZ, ↓km0_gL, ↓km0_pL, ↓km0_gF22, ↓km10_al, ↓km10_as, ↓km10_ln, ↓qb_so, ↓nm_1, ↓nm_2, ↓reduceIte, if_true, if_false, not_true_eq_false, not_false_eq_true, and_true, true_and, and_false, false_and, or_true, true_or, or_false, false_or, eq_self, ne_eq, quI_s, quI_n, quI2, quL1, quL2, quL3, quR1, quR2, quR3, nI_add, pk_mul, pk_sub, Nat.add_sub_cancel, qm1_add, qm2_add, nI_leI, nI_ltI, nI_eq, nI_m1, nI_m1', nI_clamp, nI_bit, nI_one_shl, nI_m1l, nI_m1lt, nI_m1lt', nI_m1le', oI_some, oI_none, ni_0, ni_1, ni_3, fX12_comesOn_L254b, qle_t, qle_f, qlt_t, qlt_f, qeq_t, qeq_f, mb, m1, e1, e2]
theorem m_sm2 (ht : ∀ i, i < 1600 → S.1 1 i = nI (G 0 i)) (hf : ∀ i, G 0 i < 256) {N : Nat} (hN : N ≤ 1600) (hN1 : 1 ≤ N) (a2 a3 : Int32) : ∀ (k i q c : Nat), i + k = N - 1 → k < q → c < 251 → fX12_comesOn_L79 n 0 (nI N) a2 a3 q (nI c) (nI i) S = some (nI (s_smL (G 0) k i c), S)
  | 0, i, q, c, hk0, hq, hc => by
    obtain ⟨q, rfl⟩ : ∃ q', q = q' + 1 := ⟨q - 1, by omega⟩
    show fX12_comesOn_L79b _ _ _ _ _ _ _ _ _ = _
    simp (disch := (first | assumption | omega | exact hB _ _ | exact hYB _ _ | (simp only [yc, yd, sh, sv, ne_eq]; omega) | (simp (disch := omega) only [↓nm_1, ↓nm_2, nI_add, pk_mul, pk_sub, Nat.add_sub_cancel, qm1_add, qm2_add, nI_clamp, ni_0, ni_1, ni_5, ni_251, s_smL]; refine qin_nI ?_ ?_ <;> first | omega | exact hB _ _ | exact hYB _ _) | (refine qin_nI ?_ ?_ <;> omega) | fail)) only [↓km0_gd, ↓km0_gI, ↓km0_gM, ↓km0_pI, ↓km0_pM, ↓km0_pZ, ↓km0_gL, ↓km0_pL, ↓km0_gF0, ↓km1_al, ↓km1_as, ↓km1_ln, ↓qb_so, ↓nm_1, ↓nm_2, ↓reduceIte, if_true, if_false, not_true_eq_false, not_false_eq_true, and_true, true_and, and_false, false_and, or_true, true_or, or_false, false_or, eq_self, ne_eq, quI_s, quI_n, quI2, quL1, quL2, quL3, quR1, quR2, quR3, nI_add, pk_mul, pk_sub, Nat.add_sub_cancel, qm1_add, qm2_add, nI_leI, nI_ltI, nI_eq, nI_m1, nI_m1', nI_clamp, nI_bit, nI_one_shl, nI_m1l, nI_m1lt, nI_m1lt', nI_m1le', oI_some, oI_none, ni_0, ni_1, ni_5, ni_251, fX12_comesOn_L79b, qle_t, qle_f, qlt_t, qlt_f, qeq_t, qeq_f, s_smL]
  | k + 1, i, q, c, hk0, hq, hc => by
    obtain ⟨q, rfl⟩ : ∃ q', q = q' + 1 := ⟨q - 1, by omega⟩
    have h1 := hf i
    have hm : (5 * c + G 0 i) % 251 < 251 := Nat.mod_lt _ (by decide)
    have IH := m_sm2 ht hf hN hN1 a2 a3 k (i + 1) q ((5 * c + G 0 i) % 251) (by omega) (by omega) hm
    have e3 := pk_rem (a := 5 * c + G 0 i) (d := 251) (by omega) (by decide) (by decide)
    show fX12_comesOn_L79b _ _ _ _ _ _ _ _ _ = _
    simp (disch := (first | assumption | omega | exact hB _ _ | exact hYB _ _ | (simp only [yc, yd, sh, sv, ne_eq]; omega) | (simp (disch := omega) only [↓nm_1, ↓nm_2, nI_add, pk_mul, pk_sub, Nat.add_sub_cancel, qm1_add, qm2_add, nI_clamp, ni_0, ni_1, ni_5, ni_251, ht, e3, s_smL, IH]; refine qin_nI ?_ ?_ <;> first | omega | exact hB _ _ | exact hYB _ _) | (refine qin_nI ?_ ?_ <;> omega) | fail)) only [↓km0_gd, ↓km0_gI, ↓km0_gM, ↓km0_pI, ↓km0_pM, ↓km0_pZ, ↓km0_gL, ↓km0_pL, ↓km0_gF0, ↓km1_al, ↓km1_as, ↓km1_ln, ↓qb_so, ↓nm_1, ↓nm_2, ↓reduceIte, if_true, if_false, not_true_eq_false, not_false_eq_true, and_true, true_and, and_false, false_and, or_true, true_or, or_false, false_or, eq_self, ne_eq, quI_s, quI_n, quI2, quL1, quL2, quL3, quR1, quR2, quR3, nI_add, pk_mul, pk_sub, Nat.add_sub_cancel, qm1_add, qm2_add, nI_leI, nI_ltI, nI_eq, nI_m1, nI_m1', nI_clamp, nI_bit, nI_one_shl, nI_m1l, nI_m1lt, nI_m1lt', nI_m1le', oI_some, oI_none, ni_0, ni_1, ni_5, ni_251, fX12_comesOn_L79b, qle_t, qle_f, qlt_t, qlt_f, qeq_t, qeq_f, ht, e3, s_smL, IH]
end Q68

