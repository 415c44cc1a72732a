/-! ===== the reference: a step is worked, a day passes ===== -/
section Q34
variable {S : xSt} {b v n fr : Nat} {Y D : Nat → Nat → Nat} {mc wc : List (Nat × Nat)} {R row : Nat → Nat}
theorem m_B237 (hb : b < 2) (hv : v < 22) (h : mW S b v Y mc wc R row fr D) (hY : yrOk Y) (hB : ∀ c j, D c j < 2 ^ 31) (hto : D 0 4 < 59) {j t g : Nat} (hj : j < Y 2 3) (ht : t < 8) (hg : g < 6) :
    ∃ Z, fX12_works_B237 n 0 (nI v) (nI j) (nI t) (nI g) S = some Z ∧ mW Z b v Y mc wc R row fr (s_use3 D j t g) ∧ mFq (mQ v) S Z := by
  have h6 : Y 2 3 ≤ 6 := hY.1.2.2.2
  have p1 : 2 ^ t < 2 ^ 31 := Nat.pow_lt_pow_right (by decide) (by omega)
  have p2 : 2 ^ g < 2 ^ 31 := Nat.pow_lt_pow_right (by decide) (by omega)
  obtain ⟨u73, u74, u75⟩ := h.2.2.1
  have e3 := h.2.1.2.2.2.1 j hj
  have e42 := h.2.1.1.2.2.2.2
  have e34 := h.2.1.1.1
  have s1 := mW_5 (i := 0) (x := D 5 0 ||| 2 ^ t) (by decide) h
  have s2 := mW_5 (i := 1) (x := D 5 1 ||| 2 ^ g) (by decide) s1
  have s3 := mW_3 (i := j) (x := D 3 j + 1) hY hv (by show D 0 4 ≤ 60; omega) (by omega) s2
  have s4 := mW_free (i := 3) (x := D 5 3 + 1) (by decide) s3
  obtain ⟨s5, f5⟩ := mW_keep (j := j) (t := t) (g := g) hY hv (by show D 0 4 ≤ 59; omega) s4
  have f3 : mFq (mQ v) S (xuI (xuI (xuI S 0 (73 + 0) (nI (D 5 0 ||| 2 ^ t))) 0 (73 + 1) (nI (D 5 1 ||| 2 ^ g))) 40 (6 * v + j) (nI (D 3 j + 1))) := mFq_trans (mFq_trans (mFq_upd (by unfold mQ; omega)) (mFq_upd (by unfold mQ; omega))) (mFq_upd (by unfold mQ; omega))
  have hk : 4 * (60 * v + D 0 4) = 240 * v + 4 * D 0 4 := by omega
  refine ⟨_, ?_, s5, mFq_trans f3 f5⟩
  have q0 : dU (dU (dU (dU D 5 0 (D 5 0 ||| 2 ^ t)) 5 1 (D 5 1 ||| 2 ^ g)) 3 j (D 3 j + 1)) 5 3 (D 5 3 + 1) 0 4 = D 0 4 := rfl
  have q1 : dU (dU (dU (dU D 5 0 (D 5 0 ||| 2 ^ t)) 5 1 (D 5 1 ||| 2 ^ g)) 3 j (D 3 j + 1)) 5 3 (D 5 3 + 1) 0 0 = D 0 0 := rfl
  rw [q0, q1]
  simp (disch := (first | assumption | omega | exact hB _ _ | exact hYB _ _ | (simp only [yc, yd, sh, sv, ne_eq]; omega) | (simp (disch := omega) only [↓nm_1, ↓nm_2, nI_add, pk_mul, pk_sub, Nat.add_sub_cancel, qm1_add, qm2_add, nI_clamp, ni_0, ni_1, ni_2, ni_3, ni_4, ni_6, ni_60, ni_240, u73, u74, e3, e42, e34, nI_or, hk]; refine qin_nI ?_ ?_ <;> first | omega | exact hB _ _ | exact hYB _ _) | (refine qin_nI ?_ ?_ <;> omega) | fail)) only [↓km0_gd, ↓km0_gI, ↓km0_gM, ↓km0_pI, ↓km0_pM, ↓km0_pZ, ↓km0_gL, ↓km0_pL, ↓km0_gF54, ↓km0_gF60, ↓km0_gF62, ↓km0_gF63, ↓km34_al, ↓km34_as, ↓km34_ln, ↓km40_al, ↓km40_as, ↓km40_ln, ↓km42_al, ↓km42_as, ↓km42_ln, ↓km43_al, ↓km43_as, ↓km43_ln, ↓qb_so, ↓nm_1, ↓nm_2, ↓reduceIte, if_true, if_false, not_true_eq_false, not_false_eq_true, and_true, true_and, and_false, false_and, or_true, true_or, or_false, false_or, eq_self, ne_eq, quI_s, quI_n, quI2, quL1, quL2, quL3, quR1, quR2, quR3, nI_add, pk_mul, pk_sub, Nat.add_sub_cancel, qm1_add, qm2_add, nI_leI, nI_ltI, nI_eq, nI_m1, nI_m1', nI_clamp, nI_bit, nI_one_shl, nI_m1l, nI_m1lt, nI_m1lt', nI_m1le', oI_some, oI_none, ni_0, ni_1, ni_2, ni_3, ni_4, ni_6, ni_60, ni_240, fX12_works_B237, fX12_writesDown, fX12_writesDown_B66, qle_t, qle_f, qlt_t, qlt_f, qeq_t, qeq_f, u73, u74, e3, e42, e34, nI_or, hk]
theorem m_pays (hb : b < 2) (hv : v < 22) (h : mY S b Y mc wc) (hd : S.1 35 v = nI (D 0 1)) (h1 : D 0 1 + Y 0 17 < 2 ^ 31) : fX12_pays 0 (nI v) S = some (xuI S 35 v (nI (if D 0 1 + Y 0 17 < 9999 then D 0 1 + Y 0 17 else 9999))) := by
  have e := (m_told hb h).2.1
  by_cases hc : D 0 1 + Y 0 17 ≤ 9999
  · have : (if D 0 1 + Y 0 17 < 9999 then D 0 1 + Y 0 17 else 9999) = D 0 1 + Y 0 17 := by split <;> omega
    rw [this]
    simp (disch := (first | assumption | omega | exact hB _ _ | exact hYB _ _ | (simp only [yc, yd, sh, sv, ne_eq]; omega) | (simp (disch := omega) only [↓nm_1, ↓nm_2, nI_add, pk_mul, pk_sub, Nat.add_sub_cancel, qm1_add, qm2_add, nI_clamp, ni_0, ni_1, ni_9999, hd, e, hc]; refine qin_nI ?_ ?_ <;> first | omega | exact hB _ _ | exact hYB _ _) | (refine qin_nI ?_ ?_ <;> omega) | fail)) only [↓km0_gd, ↓km0_gI, ↓km0_gM, ↓km0_pI, ↓km0_pM, ↓km0_pZ, ↓km0_gL, ↓km0_pL, ↓km0_gF55, ↓km35_al, ↓km35_as, ↓km35_ln, ↓qb_so, ↓nm_1, ↓nm_2, ↓reduceIte, if_true, if_false, not_true_eq_false, not_false_eq_true, and_true, true_and, and_false, false_and, or_true, true_or, or_false, false_or, eq_self, ne_eq, quI_s, quI_n, quI2, quL1, quL2, quL3, quR1, quR2, quR3, nI_add, pk_mul, pk_sub, Nat.add_sub_cancel, qm1_add, qm2_add, nI_leI, nI_ltI, nI_eq, nI_m1, nI_m1', nI_clamp, nI_bit, nI_one_shl, nI_m1l, nI_m1lt, nI_m1lt', nI_m1le', oI_some, oI_none, ni_0, ni_1, ni_9999, fX12_pays, qle_t, qle_f, qlt_t, qlt_f, qeq_t, qeq_f, hd, e, hc]
  · have : (if D 0 1 + Y 0 17 < 9999 then D 0 1 + Y 0 17 else 9999) = 9999 := by split <;> omega
    rw [this]
    simp (disch := (first | assumption | omega | exact hB _ _ | exact hYB _ _ | (simp only [yc, yd, sh, sv, ne_eq]; omega) | (simp (disch := omega) only [↓nm_1, ↓nm_2, nI_add, pk_mul, pk_sub, Nat.add_sub_cancel, qm1_add, qm2_add, nI_clamp, ni_0, ni_1, ni_9999, hd, e, hc]; refine qin_nI ?_ ?_ <;> first | omega | exact hB _ _ | exact hYB _ _) | (refine qin_nI ?_ ?_ <;> omega) | fail)) only [↓km0_gd, ↓km0_gI, ↓km0_gM, ↓km0_pI, ↓km0_pM, ↓km0_pZ, ↓km0_gL, ↓km0_pL, ↓km0_gF55, ↓km35_al, ↓km35_as, ↓km35_ln, ↓qb_so, ↓nm_1, ↓nm_2, ↓reduceIte, if_true, if_false, not_true_eq_false, not_false_eq_true, and_true, true_and, and_false, false_and, or_true, true_or, or_false, false_or, eq_self, ne_eq, quI_s, quI_n, quI2, quL1, quL2, quL3, quR1, quR2, quR3, nI_add, pk_mul, pk_sub, Nat.add_sub_cancel, qm1_add, qm2_add, nI_leI, nI_ltI, nI_eq, nI_m1, nI_m1', nI_clamp, nI_bit, nI_one_shl, nI_m1l, nI_m1lt, nI_m1lt', nI_m1le', oI_some, oI_none, ni_0, ni_1, ni_9999, fX12_pays, qle_t, qle_f, qlt_t, qlt_f, qeq_t, qeq_f, hd, e, hc]
theorem m_B210 (hb : b < 2) (hv : v < 22) (h : mW S b v Y mc wc R row fr D) (hY : yrOk Y) (hB : ∀ c j, D c j < 2 ^ 31) (hto : D 0 4 < 59) {j t g : Nat} (hj : j < Y 2 3) (ht : t < Y 2 1) (hg : g < 6) :
    ∃ Z, fX12_works_B210 n 0 (nI v) (nI j) (nI t) (nI g) (nI (8 * v + t)) S = some Z ∧ mW Z b v Y mc wc R row fr (s_use3 (if D 1 t < Y 0 14 then D else dU D 0 2 (D 0 2 ||| 2 ^ t)) j t g) ∧ mFq (mQ v) S Z := by
  have hYB := yrOk_B hY
  have h8 : Y 2 1 ≤ 8 := hY.1.2.1
  have p1 : 2 ^ t < 2 ^ 31 := Nat.pow_lt_pow_right (by decide) (by omega)
  have e1 := h.2.1.2.1 t ht
  have e14 := (m_told hb h.1).1
  have e37 := h.2.1.1.2.2.1
  by_cases hc : D 1 t < Y 0 14
  · obtain ⟨Z, e, hz⟩ := m_B237 (n := n) (j := j) (t := t) (g := g) hb hv h hY hB hto hj (by omega) hg
    rw [if_pos hc]
    refine ⟨Z, ?_, hz⟩
    simp (disch := (first | assumption | omega | exact hB _ _ | exact hYB _ _ | (simp only [yc, yd, sh, sv, ne_eq]; omega) | (simp (disch := omega) only [↓nm_1, ↓nm_2, nI_add, pk_mul, pk_sub, Nat.add_sub_cancel, qm1_add, qm2_add, nI_clamp, ni_0, ni_1, e1, e14, hc, e]; refine qin_nI ?_ ?_ <;> first | omega | exact hB _ _ | exact hYB _ _) | (refine qin_nI ?_ ?_ <;> omega) | fail)) only [↓km0_gd, ↓km0_gI, ↓km0_gM, ↓km0_pI, ↓km0_pM, ↓km0_pZ, ↓km0_gL, ↓km0_pL, ↓km0_gF56, ↓km0_gF57, ↓km36_al, ↓km36_as, ↓km36_ln, ↓km37_al, ↓km37_as, ↓km37_ln, ↓qb_so, ↓nm_1, ↓nm_2, ↓reduceIte, if_true, if_false, not_true_eq_false, not_false_eq_true, and_true, true_and, and_false, false_and, or_true, true_or, or_false, false_or, eq_self, ne_eq, quI_s, quI_n, quI2, quL1, quL2, quL3, quR1, quR2, quR3, nI_add, pk_mul, pk_sub, Nat.add_sub_cancel, qm1_add, qm2_add, nI_leI, nI_ltI, nI_eq, nI_m1, nI_m1', nI_clamp, nI_bit, nI_one_shl, nI_m1l, nI_m1lt, nI_m1lt', nI_m1le', oI_some, oI_none, ni_0, ni_1, fX12_works_B210, qle_t, qle_f, qlt_t, qlt_f, qeq_t, qeq_f, e1, e14, hc, e]
  · have h2 := mW_0 (k := 37) (i := 2) (x := D 0 2 ||| 2 ^ t) hY hv (by show D 0 4 ≤ 60; omega) (by decide) rfl h
    obtain ⟨Z, e, hz, hf⟩ := m_B237 (n := n) (j := j) (t := t) (g := g) hb hv h2 hY (dU_B hB (Nat.or_lt_two_pow (hB _ _) p1)) hto hj (by omega) hg
    rw [if_neg hc]
    refine ⟨Z, ?_, hz, mFq_trans (mFq_upd (by unfold mQ; omega)) hf⟩
    simp (disch := (first | assumption | omega | exact hB _ _ | exact hYB _ _ | (simp only [yc, yd, sh, sv, ne_eq]; omega) | (simp (disch := omega) only [↓nm_1, ↓nm_2, nI_add, pk_mul, pk_sub, Nat.add_sub_cancel, qm1_add, qm2_add, nI_clamp, ni_0, ni_1, e1, e14, e37, hc, e, nI_or]; refine qin_nI ?_ ?_ <;> first | omega | exact hB _ _ | exact hYB _ _) | (refine qin_nI ?_ ?_ <;> omega) | fail)) only [↓km0_gd, ↓km0_gI, ↓km0_gM, ↓km0_pI, ↓km0_pM, ↓km0_pZ, ↓km0_gL, ↓km0_pL, ↓km0_gF56, ↓km0_gF57, ↓km36_al, ↓km36_as, ↓km36_ln, ↓km37_al, ↓km37_as, ↓km37_ln, ↓qb_so, ↓nm_1, ↓nm_2, ↓reduceIte, if_true, if_false, not_true_eq_false, not_false_eq_true, and_true, true_and, and_false, false_and, or_true, true_or, or_false, false_or, eq_self, ne_eq, quI_s, quI_n, quI2, quL1, quL2, quL3, quR1, quR2, quR3, nI_add, pk_mul, pk_sub, Nat.add_sub_cancel, qm1_add, qm2_add, nI_leI, nI_ltI, nI_eq, nI_m1, nI_m1', nI_clamp, nI_bit, nI_one_shl, nI_m1l, nI_m1lt, nI_m1lt', nI_m1le', oI_some, oI_none, ni_0, ni_1, fX12_works_B210, qle_t, qle_f, qlt_t, qlt_f, qeq_t, qeq_f, e1, e14, e37, hc, e, nI_or]
theorem m_B96 (hb : b < 2) (hv : v < 22) (h : mW S b v Y mc wc R row fr D) (hY : yrOk Y) (hD : dOk Y D) (hRb : ∀ k, R k < 2 ^ 31) {j t g wear : Nat} (hj : j < Y 2 3) (ht : t < Y 2 1) (hg : g < Y 2 2) (hd : D 3 j < Y 9 j) (hk : Y 5 t = s_kind Y D j) (hwe : wear ≤ 99) :
    ∃ Z, fX12_works_B96 n 0 (nI v) (nI j) (nI t) (nI g) (lN wear) S = some Z ∧ mW Z b v Y mc wc R row fr (s_use3 (s_use2 Y (s_use1 D t g wear) t (s_rest Y R D (s_kind Y D j))) j t g) ∧ mFq (mQ v) S Z := by
  have hYB := yrOk_B hY
  have hB := dOk_B hD
  have hto := dOk_told hY hD
  have h8 : Y 2 1 ≤ 8 := hY.1.2.1
  have h62 : Y 2 2 ≤ 6 := hY.1.2.2.1
  have hst := hY.2.2.2.2.2.1 j hj
  have b1 : D 1 t ≤ 100 := hD.2.2.2.2.1 t
  have b2 : D 2 (8 * g + t) ≤ 9 := hD.2.2.2.2.2.1 _
  have b3 : D 0 1 ≤ 9999 := hD.2.1
  have b4 : Y 0 17 ≤ 100 := hY.2.2.2.2.2.2.2.2.2.1
  have e1 := h.2.1.2.1 t ht
  have e2 := h.2.1.2.2.1 g t hg ht
  have s1 := mW_1 (t := t) (x := if D 1 t + wear < 100 then D 1 t + wear else 100) hY hv (by show D 0 4 ≤ 60; omega) (by omega) h
  have s2 := mW_2 (g := g) (t := t) (x := if D 2 (8 * g + t) + 1 < 9 then D 2 (8 * g + t) + 1 else 9) hY hv (by show D 0 4 ≤ 60; omega) (by omega) (by omega) s1
  have hB1 : ∀ c j, s_use1 D t g wear c j < 2 ^ 31 := dU_B (dU_B hB (by split <;> omega)) (by split <;> omega)
  have hD1 : dOk Y (s_use1 D t g wear) := s_use1_ok hD (by omega) (by omega)
  have fr1 : mFq (mQ v) S (xuI (xuI S 36 (8 * v + t) (nI (if D 1 t + wear < 100 then D 1 t + wear else 100))) 39 (48 * v + 8 * g + t) (nI (if D 2 (8 * g + t) + 1 < 9 then D 2 (8 * g + t) + 1 else 9))) := mFq_trans (mFq_upd (by unfold mQ; omega)) (mFq_upd (by unfold mQ; omega))
  have ek := m_kot hb s2.1 hY ht
  have ed := s2.2.1.1.1
  have er := m_rest (D := s_use1 D t g wear) (k := Y 5 t) hb s2.1 hY hD1 s2.2.2.2.1 hRb (by rw [hk]; exact (hst.2.2 _ hd).1)
  rw [hk] at er
  have er' : s_rest Y R (s_use1 D t g wear) (s_kind Y D j) = s_rest Y R D (s_kind Y D j) := rfl
  have ed' : s_use1 D t g wear 0 0 = D 0 0 := rfl
  rw [er', ed'] at er
  have ed0 := h.2.1.1.1
  have hre : s_rest Y R D (s_kind Y D j) = 0 ∨ s_rest Y R D (s_kind Y D j) = 1 := by unfold s_rest; split <;> simp
  have w1 : (if D 1 t + wear ≤ 100 then nI (D 1 t + wear) else nI 100) = nI (if D 1 t + wear < 100 then D 1 t + wear else 100) := by
    split
    · split
      · rfl
      · congr 1; omega
    · rw [if_neg (by omega)]
  have ew : fX12_works_B96 n 0 (nI v) (nI j) (nI t) (nI g) (lN wear) S = fX12_works_B139 n 0 (nI v) (nI j) (nI t) (nI g) (nI (8 * v + t)) 36 (nI (8 * v + t)) (nI (if D 1 t + wear < 100 then D 1 t + wear else 100)) S := by
    rw [← w1]
    by_cases hc : D 1 t + wear ≤ 100
    · simp (disch := (first | assumption | omega | exact hB _ _ | exact hYB _ _ | (simp only [yc, yd, sh, sv, ne_eq]; omega) | (simp (disch := omega) only [↓nm_1, ↓nm_2, nI_add, pk_mul, pk_sub, Nat.add_sub_cancel, qm1_add, qm2_add, nI_clamp, ni_0, ni_1, ni_8, ni_100, e1, lN_i, hc]; refine qin_nI ?_ ?_ <;> first | omega | exact hB _ _ | exact hYB _ _) | (refine qin_nI ?_ ?_ <;> omega) | fail)) only [↓km0_gd, ↓km0_gI, ↓km0_gM, ↓km0_pI, ↓km0_pM, ↓km0_pZ, ↓km0_gL, ↓km0_pL, ↓km0_gF56, ↓km36_al, ↓km36_as, ↓km36_ln, ↓qb_so, ↓nm_1, ↓nm_2, ↓reduceIte, if_true, if_false, not_true_eq_false, not_false_eq_true, and_true, true_and, and_false, false_and, or_true, true_or, or_false, false_or, eq_self, ne_eq, quI_s, quI_n, quI2, quL1, quL2, quL3, quR1, quR2, quR3, nI_add, pk_mul, pk_sub, Nat.add_sub_cancel, qm1_add, qm2_add, nI_leI, nI_ltI, nI_eq, nI_m1, nI_m1', nI_clamp, nI_bit, nI_one_shl, nI_m1l, nI_m1lt, nI_m1lt', nI_m1le', oI_some, oI_none, ni_0, ni_1, ni_8, ni_100, fX12_works_B96, qle_t, qle_f, qlt_t, qlt_f, qeq_t, qeq_f, e1, lN_i, hc]
    · simp (disch := (first | assumption | omega | exact hB _ _ | exact hYB _ _ | (simp only [yc, yd, sh, sv, ne_eq]; omega) | (simp (disch := omega) only [↓nm_1, ↓nm_2, nI_add, pk_mul, pk_sub, Nat.add_sub_cancel, qm1_add, qm2_add, nI_clamp, ni_0, ni_1, ni_8, ni_100, e1, lN_i, hc]; refine qin_nI ?_ ?_ <;> first | omega | exact hB _ _ | exact hYB _ _) | (refine qin_nI ?_ ?_ <;> omega) | fail)) only [↓km0_gd, ↓km0_gI, ↓km0_gM, ↓km0_pI, ↓km0_pM, ↓km0_pZ, ↓km0_gL, ↓km0_pL, ↓km0_gF56, ↓km36_al, ↓km36_as, ↓km36_ln, ↓qb_so, ↓nm_1, ↓nm_2, ↓reduceIte, if_true, if_false, not_true_eq_false, not_false_eq_true, and_true, true_and, and_false, false_and, or_true, true_or, or_false, false_or, eq_self, ne_eq, quI_s, quI_n, quI2, quL1, quL2, quL3, quR1, quR2, quR3, nI_add, pk_mul, pk_sub, Nat.add_sub_cancel, qm1_add, qm2_add, nI_leI, nI_ltI, nI_eq, nI_m1, nI_m1', nI_clamp, nI_bit, nI_one_shl, nI_m1l, nI_m1lt, nI_m1lt', nI_m1le', oI_some, oI_none, ni_0, ni_1, ni_8, ni_100, fX12_works_B96, qle_t, qle_f, qlt_t, qlt_f, qeq_t, qeq_f, e1, lN_i, hc]
  have ew2 : fX12_works_B139 n 0 (nI v) (nI j) (nI t) (nI g) (nI (8 * v + t)) 36 (nI (8 * v + t)) (nI (if D 1 t + wear < 100 then D 1 t + wear else 100)) S = fX12_works_B186 n 0 (nI v) (nI j) (nI t) (nI g) (nI (8 * v + t)) 39 (nI (48 * v + 8 * g + t)) (nI (if D 2 (8 * g + t) + 1 < 9 then D 2 (8 * g + t) + 1 else 9)) (xuI S 36 (8 * v + t) (nI (if D 1 t + wear < 100 then D 1 t + wear else 100))) := by
    by_cases hc : 9 ≤ D 2 (8 * g + t)
    · rw [if_neg (show ¬ D 2 (8 * g + t) + 1 < 9 by omega)]
      simp (disch := (first | assumption | omega | exact hB _ _ | exact hYB _ _ | (simp only [yc, yd, sh, sv, ne_eq]; omega) | (simp (disch := omega) only [↓nm_1, ↓nm_2, nI_add, pk_mul, pk_sub, Nat.add_sub_cancel, qm1_add, qm2_add, nI_clamp, ni_0, ni_1, ni_8, ni_9, ni_48, e2, hc]; refine qin_nI ?_ ?_ <;> first | omega | exact hB _ _ | exact hYB _ _) | (refine qin_nI ?_ ?_ <;> omega) | fail)) only [↓km0_gd, ↓km0_gI, ↓km0_gM, ↓km0_pI, ↓km0_pM, ↓km0_pZ, ↓km0_gL, ↓km0_pL, ↓km0_gF59, ↓km39_al, ↓km39_as, ↓km39_ln, ↓km36_al, ↓km36_as, ↓km36_ln, ↓qb_so, ↓nm_1, ↓nm_2, ↓reduceIte, if_true, if_false, not_true_eq_false, not_false_eq_true, and_true, true_and, and_false, false_and, or_true, true_or, or_false, false_or, eq_self, ne_eq, quI_s, quI_n, quI2, quL1, quL2, quL3, quR1, quR2, quR3, nI_add, pk_mul, pk_sub, Nat.add_sub_cancel, qm1_add, qm2_add, nI_leI, nI_ltI, nI_eq, nI_m1, nI_m1', nI_clamp, nI_bit, nI_one_shl, nI_m1l, nI_m1lt, nI_m1lt', nI_m1le', oI_some, oI_none, ni_0, ni_1, ni_8, ni_9, ni_48, fX12_works_B139, qle_t, qle_f, qlt_t, qlt_f, qeq_t, qeq_f, e2, hc]
    · have : (if D 2 (8 * g + t) + 1 < 9 then D 2 (8 * g + t) + 1 else 9) = D 2 (8 * g + t) + 1 := by split <;> omega
      rw [this]
      simp (disch := (first | assumption | omega | exact hB _ _ | exact hYB _ _ | (simp only [yc, yd, sh, sv, ne_eq]; omega) | (simp (disch := omega) only [↓nm_1, ↓nm_2, nI_add, pk_mul, pk_sub, Nat.add_sub_cancel, qm1_add, qm2_add, nI_clamp, ni_0, ni_1, ni_8, ni_9, ni_48, e2, hc]; refine qin_nI ?_ ?_ <;> first | omega | exact hB _ _ | exact hYB _ _) | (refine qin_nI ?_ ?_ <;> omega) | fail)) only [↓km0_gd, ↓km0_gI, ↓km0_gM, ↓km0_pI, ↓km0_pM, ↓km0_pZ, ↓km0_gL, ↓km0_pL, ↓km0_gF59, ↓km39_al, ↓km39_as, ↓km39_ln, ↓km36_al, ↓km36_as, ↓km36_ln, ↓qb_so, ↓nm_1, ↓nm_2, ↓reduceIte, if_true, if_false, not_true_eq_false, not_false_eq_true, and_true, true_and, and_false, false_and, or_true, true_or, or_false, false_or, eq_self, ne_eq, quI_s, quI_n, quI2, quL1, quL2, quL3, quR1, quR2, quR3, nI_add, pk_mul, pk_sub, Nat.add_sub_cancel, qm1_add, qm2_add, nI_leI, nI_ltI, nI_eq, nI_m1, nI_m1', nI_clamp, nI_bit, nI_one_shl, nI_m1l, nI_m1lt, nI_m1lt', nI_m1le', oI_some, oI_none, ni_0, ni_1, ni_8, ni_9, ni_48, fX12_works_B139, qle_t, qle_f, qlt_t, qlt_f, qeq_t, qeq_f, e2, hc]
  rw [ew, ew2]
  rcases hre with hre | hre <;> rw [hre] at er ⊢
  · obtain ⟨Z, e, hz, hf⟩ := m_B210 (n := n) (j := j) (t := t) (g := g) hb hv s2 hY hB1 (by show D 0 4 < 59; omega) hj ht (by omega)
    refine ⟨Z, ?_, hz, mFq_trans fr1 hf⟩
    simp (disch := (first | assumption | omega | exact hB _ _ | exact hYB _ _ | (simp only [yc, yd, sh, sv, ne_eq]; omega) | (simp (disch := omega) only [↓nm_1, ↓nm_2, nI_add, pk_mul, pk_sub, Nat.add_sub_cancel, qm1_add, qm2_add, nI_clamp, ni_0, ni_1, ek, ed0, hk, er, e]; refine qin_nI ?_ ?_ <;> first | omega | exact hB _ _ | exact hYB _ _) | (refine qin_nI ?_ ?_ <;> omega) | fail)) only [↓km0_gd, ↓km0_gI, ↓km0_gM, ↓km0_pI, ↓km0_pM, ↓km0_pZ, ↓km0_gL, ↓km0_pL, ↓km0_gF54, ↓km34_al, ↓km34_as, ↓km34_ln, ↓km39_al, ↓km39_as, ↓km39_ln, ↓qb_so, ↓nm_1, ↓nm_2, ↓reduceIte, if_true, if_false, not_true_eq_false, not_false_eq_true, and_true, true_and, and_false, false_and, or_true, true_or, or_false, false_or, eq_self, ne_eq, quI_s, quI_n, quI2, quL1, quL2, quL3, quR1, quR2, quR3, nI_add, pk_mul, pk_sub, Nat.add_sub_cancel, qm1_add, qm2_add, nI_leI, nI_ltI, nI_eq, nI_m1, nI_m1', nI_clamp, nI_bit, nI_one_shl, nI_m1l, nI_m1lt, nI_m1lt', nI_m1le', oI_some, oI_none, ni_0, ni_1, fX12_works_B186, qle_t, qle_f, qlt_t, qlt_f, qeq_t, qeq_f, ek, ed0, hk, er, e]
  · have s3 := mW_0 (k := 35) (i := 1) (x := if D 0 1 + Y 0 17 < 9999 then D 0 1 + Y 0 17 else 9999) hY hv (by show D 0 4 ≤ 60; omega) (by decide) rfl s2
    have ep := m_pays (D := D) hb hv s2.1 s2.2.1.1.2.1 (by omega)
    obtain ⟨Z, e, hz, hf⟩ := m_B210 (n := n) (j := j) (t := t) (g := g) hb hv s3 hY (dU_B hB1 (by split <;> omega)) (by show D 0 4 < 59; omega) hj ht (by omega)
    refine ⟨Z, ?_, hz, mFq_trans fr1 (mFq_trans (mFq_upd (by unfold mQ; omega)) hf)⟩
    simp (disch := (first | assumption | omega | exact hB _ _ | exact hYB _ _ | (simp only [yc, yd, sh, sv, ne_eq]; omega) | (simp (disch := omega) only [↓nm_1, ↓nm_2, nI_add, pk_mul, pk_sub, Nat.add_sub_cancel, qm1_add, qm2_add, nI_clamp, ni_0, ni_1, ek, ed0, hk, er, ep, e]; refine qin_nI ?_ ?_ <;> first | omega | exact hB _ _ | exact hYB _ _) | (refine qin_nI ?_ ?_ <;> omega) | fail)) only [↓km0_gd, ↓km0_gI, ↓km0_gM, ↓km0_pI, ↓km0_pM, ↓km0_pZ, ↓km0_gL, ↓km0_pL, ↓km0_gF54, ↓km34_al, ↓km34_as, ↓km34_ln, ↓km39_al, ↓km39_as, ↓km39_ln, ↓qb_so, ↓nm_1, ↓nm_2, ↓reduceIte, if_true, if_false, not_true_eq_false, not_false_eq_true, and_true, true_and, and_false, false_and, or_true, true_or, or_false, false_or, eq_self, ne_eq, quI_s, quI_n, quI2, quL1, quL2, quL3, quR1, quR2, quR3, nI_add, pk_mul, pk_sub, Nat.add_sub_cancel, qm1_add, qm2_add, nI_leI, nI_ltI, nI_eq, nI_m1, nI_m1', nI_clamp, nI_bit, nI_one_shl, nI_m1l, nI_m1lt, nI_m1lt', nI_m1le', oI_some, oI_none, ni_0, ni_1, fX12_works_B186, qle_t, qle_f, qlt_t, qlt_f, qeq_t, qeq_f, ek, ed0, hk, er, ep, e]
theorem m_B66 {x : Int64} {a1 a2 a3 a4 : Int32} : fX12_works_B66 n 0 a1 a2 a3 a4 x S = fX12_works_B96 n 0 a1 a2 a3 a4 (lN (s_cl x)) S := by
  unfold fX12_works_B66
  by_cases h0 : x < 0
  · have e : s_cl x = 0 := by unfold s_cl; rw [if_pos h0]
    rw [if_neg (fun hh => by have h1 := (lg_cmp_ge x 0).mp hh; rw [Int64.lt_iff_toInt_lt] at h0; rw [Int64.le_iff_toInt_le] at h1; omega), e]
    rfl
  · have h0' : 0 ≤ x := by rw [Int64.lt_iff_toInt_lt] at h0; rw [Int64.le_iff_toInt_le]; omega
    rw [if_pos ((lg_cmp_ge x 0).mpr h0')]
    by_cases h9 : 99 < x
    · have e : s_cl x = 99 := by unfold s_cl; rw [if_neg h0, if_pos h9]
      rw [if_neg (fun hh => by have h1 := (lg_cmp_le x 99).mp hh; rw [Int64.lt_iff_toInt_lt] at h9; rw [Int64.le_iff_toInt_le] at h1; omega), e]
      rfl
    · have h9' : x ≤ 99 := by rw [Int64.lt_iff_toInt_lt] at h9; rw [Int64.le_iff_toInt_le]; omega
      rw [if_pos ((lg_cmp_le x 99).mpr h9'), lN_cl h0 h9]
theorem aQ_m {k i : Nat} (h : aQ k i) : mQ v k i := by unfold aQ at h; unfold mQ; omega
theorem m_works (hb : b < 2) (hv : v < 22) (h : mW S b v Y mc wc R row fr D) (hY : yrOk Y) (hD : dOk Y D) (hK : kOk mc wc) (hRb : ∀ k, R k < 2 ^ 31) (hn : 2000 ≤ n) (hfr : fr ≤ 1) {j : Nat} (hj : j < Y 2 3) :
    ∃ Z, fX12_works n 0 (nI v) (nI j) S = some Z ∧ mW Z b v Y mc wc R row fr (s_step Y mc wc R fr D j) ∧ mFq (mQ v) S Z := by
  have h60 : D 0 4 ≤ 60 := by have := dOk_told hY hD; omega
  have e1 := m_isDone hb hv h.1 h.2.1 hY hD hj
  unfold s_step
  by_cases hd : D 3 j < Y 9 j
  · have hst := hY.2.2.2.2.2.1 j hj
    have h11 := (hst.2.2 _ hd).2.2
    obtain ⟨Z1, et, f1⟩ := m_tool (n := n) hb hv h hY hD hK hRb hn hfr hj hd
    have w1 := mW_a hY f1 h60 h
    rw [if_pos hd]
    cases ho : s_tool Y mc R D fr j with
    | none =>
      rw [ho, oI_none] at et
      refine ⟨Z1, ?_, w1, mFq_mono f1 (fun k i hh => aQ_m hh)⟩
      simp (disch := (first | assumption | omega | exact hB _ _ | exact hYB _ _ | (simp only [yc, yd, sh, sv, ne_eq]; omega) | (simp (disch := omega) only [↓nm_1, ↓nm_2, nI_add, pk_mul, pk_sub, Nat.add_sub_cancel, qm1_add, qm2_add, nI_clamp, ni_0, ni_1, ni_4, e1, hd, et]; refine qin_nI ?_ ?_ <;> first | omega | exact hB _ _ | exact hYB _ _) | (refine qin_nI ?_ ?_ <;> omega) | fail)) only [↓km0_gd, ↓km0_gI, ↓km0_gM, ↓km0_pI, ↓km0_pM, ↓km0_pZ, ↓km0_gL, ↓km0_pL, ↓km0_gF68, ↓km45_al, ↓km45_as, ↓km45_ln, ↓qb_so, ↓nm_1, ↓nm_2, ↓reduceIte, if_true, if_false, not_true_eq_false, not_false_eq_true, and_true, true_and, and_false, false_and, or_true, true_or, or_false, false_or, eq_self, ne_eq, quI_s, quI_n, quI2, quL1, quL2, quL3, quR1, quR2, quR3, nI_add, pk_mul, pk_sub, Nat.add_sub_cancel, qm1_add, qm2_add, nI_leI, nI_ltI, nI_eq, nI_m1, nI_m1', nI_clamp, nI_bit, nI_one_shl, nI_m1l, nI_m1lt, nI_m1lt', nI_m1le', oI_some, oI_none, ni_0, ni_1, ni_4, fX12_works, fX12_works_B19, qle_t, qle_f, qlt_t, qlt_f, qeq_t, qeq_f, e1, hd, et]
    | some t =>
      obtain ⟨ht, hk, _, g, hg⟩ := s_tool_P ho
      have hg6 := (s_hand_lt hg).1
      have h8 : Y 2 1 ≤ 8 := hY.1.2.1
      rw [ho, oI_some] at et
      have eh := m_hand (n := n) hb hv w1 hY hD hn ht
      rw [hg, oI_some] at eh
      have el := m_tells hb hv w1 hY hD hRb hj ht hg6 hd hk
      have hf6 := fun cs hcs => m_fa6 (S := Z1) (Y := Y) (R := R) (D := D) (fr := fr) (j := j) (t := t) (g := g) (cs := cs) hcs
      have f45 : (tlC Z1 (nI (s_rest Y R D (s_kind Y D j))) (nI (D 1 t)) (nI (D 2 (8 * g + t))) (nI (Y 11 (4 * j + D 3 j))) (nI (D 0 0)) (nI (s_late Y D j))).1 45 4 = nI (Y 11 (4 * j + D 3 j)) := by rw [tl_facts]; rfl
      generalize hT : tlC Z1 (nI (s_rest Y R D (s_kind Y D j))) (nI (D 1 t)) (nI (D 2 (8 * g + t))) (nI (Y 11 (4 * j + D 3 j))) (nI (D 0 0)) (nI (s_late Y D j)) = T at el hf6 f45
      have fT : mFq aQ Z1 T := by rw [← hT]; exact tlC_fr
      have wT := mW_a hY fT h60 w1
      have eW := m_isTold (wh := 0) hb (by decide) wT.1.1 wT.1.2.2.2.2.2.2.2.2.2.2
      simp only [hg]
      unfold s_use s_wear
      by_cases hm : wc = []
      · obtain ⟨Z, e, hz, hf⟩ := m_B96 (n := n) (j := j) (t := t) (g := g) (wear := Y 11 (4 * j + D 3 j)) hb hv wT hY hD hRb hj ht hg6 hd hk (by omega)
        rw [if_pos hm]
        refine ⟨Z, ?_, hz, mFq_trans (mFq_mono (mFq_trans f1 fT) (fun k i hh => aQ_m hh)) hf⟩
        have hnl := nI_l (n := Y 11 (4 * j + D 3 j)) (by omega)
        have hcl := s_cl_lN (w := Y 11 (4 * j + D 3 j)) (by omega)
        simp (disch := (first | assumption | omega | exact hB _ _ | exact hYB _ _ | (simp only [yc, yd, sh, sv, ne_eq]; omega) | (simp (disch := omega) only [↓nm_1, ↓nm_2, nI_add, pk_mul, pk_sub, Nat.add_sub_cancel, qm1_add, qm2_add, nI_clamp, ni_0, ni_1, ni_4, e1, hd, et, eh, el, eW, hm, f45, hnl, m_B66, hcl, e]; refine qin_nI ?_ ?_ <;> first | omega | exact hB _ _ | exact hYB _ _) | (refine qin_nI ?_ ?_ <;> omega) | fail)) only [↓km0_gd, ↓km0_gI, ↓km0_gM, ↓km0_pI, ↓km0_pM, ↓km0_pZ, ↓km0_gL, ↓km0_pL, ↓km0_gF68, ↓km45_al, ↓km45_as, ↓km45_ln, ↓qb_so, ↓nm_1, ↓nm_2, ↓reduceIte, if_true, if_false, not_true_eq_false, not_false_eq_true, and_true, true_and, and_false, false_and, or_true, true_or, or_false, false_or, eq_self, ne_eq, quI_s, quI_n, quI2, quL1, quL2, quL3, quR1, quR2, quR3, nI_add, pk_mul, pk_sub, Nat.add_sub_cancel, qm1_add, qm2_add, nI_leI, nI_ltI, nI_eq, nI_m1, nI_m1', nI_clamp, nI_bit, nI_one_shl, nI_m1l, nI_m1lt, nI_m1lt', nI_m1le', oI_some, oI_none, ni_0, ni_1, ni_4, fX12_works, fX12_works_B19, qle_t, qle_f, qlt_t, qlt_f, qeq_t, qeq_f, e1, hd, et, eh, el, eW, hm, f45, hnl, m_B66, hcl, e]
      · obtain ⟨p, k1, k2, k3, k4⟩ := wT.1.2.2.2.2.2.2.2.2.2.2.2 hm
        obtain ⟨⟨V, er, fV⟩, hv'⟩ := m_run (n := n) (wh := 0) (to := p + wc.length) (p := p) (φ := s_ph Y R D fr j t g) hb (by decide) (s_ph_b hY hD hfr h11) k3 (c := wc) (S := T) wT.1.1 k1 k2 (hf6 wc hK.2.2) (hK.2.1 hm) k4 rfl hn
        have fV' : mFq aQ T V := mFq_mono fV (fun k i hh => hh.elim)
        obtain ⟨Z, e, hz, hf⟩ := m_B96 (n := n) (j := j) (t := t) (g := g) (wear := s_cl (eVal (s_ph Y R D fr j t g) wc)) hb hv (mW_a hY fV' h60 wT) hY hD hRb hj ht hg6 hd hk (s_cl_le _)
        rw [if_neg hm]
        refine ⟨Z, ?_, hz, mFq_trans (mFq_mono (mFq_trans (mFq_trans f1 fT) fV') (fun k i hh => aQ_m hh)) hf⟩
        simp (disch := (first | assumption | omega | exact hB _ _ | exact hYB _ _ | (simp only [yc, yd, sh, sv, ne_eq]; omega) | (simp (disch := omega) only [↓nm_1, ↓nm_2, nI_add, pk_mul, pk_sub, Nat.add_sub_cancel, qm1_add, qm2_add, nI_clamp, ni_0, ni_1, ni_4, e1, hd, et, eh, el, eW, hm, er, m_B66, e]; refine qin_nI ?_ ?_ <;> first | omega | exact hB _ _ | exact hYB _ _) | (refine qin_nI ?_ ?_ <;> omega) | fail)) only [↓km0_gd, ↓km0_gI, ↓km0_gM, ↓km0_pI, ↓km0_pM, ↓km0_pZ, ↓km0_gL, ↓km0_pL, ↓km0_gF68, ↓km45_al, ↓km45_as, ↓km45_ln, ↓qb_so, ↓nm_1, ↓nm_2, ↓reduceIte, if_true, if_false, not_true_eq_false, not_false_eq_true, and_true, true_and, and_false, false_and, or_true, true_or, or_false, false_or, eq_self, ne_eq, quI_s, quI_n, quI2, quL1, quL2, quL3, quR1, quR2, quR3, nI_add, pk_mul, pk_sub, Nat.add_sub_cancel, qm1_add, qm2_add, nI_leI, nI_ltI, nI_eq, nI_m1, nI_m1', nI_clamp, nI_bit, nI_one_shl, nI_m1l, nI_m1lt, nI_m1lt', nI_m1le', oI_some, oI_none, ni_0, ni_1, ni_4, fX12_works, fX12_works_B19, qle_t, qle_f, qlt_t, qlt_f, qeq_t, qeq_f, e1, hd, et, eh, el, eW, hm, er, m_B66, e]
  · rw [if_neg hd]
    refine ⟨S, ?_, h, mFq_refl⟩
    simp (disch := (first | assumption | omega | exact hB _ _ | exact hYB _ _ | (simp only [yc, yd, sh, sv, ne_eq]; omega) | (simp (disch := omega) only [↓nm_1, ↓nm_2, nI_add, pk_mul, pk_sub, Nat.add_sub_cancel, qm1_add, qm2_add, nI_clamp, ni_0, ni_1, ni_4, e1, hd]; refine qin_nI ?_ ?_ <;> first | omega | exact hB _ _ | exact hYB _ _) | (refine qin_nI ?_ ?_ <;> omega) | fail)) only [↓km0_gd, ↓km0_gI, ↓km0_gM, ↓km0_pI, ↓km0_pM, ↓km0_pZ, ↓km0_gL, ↓km0_pL, ↓km0_gF68, ↓km45_al, ↓km45_as, ↓km45_ln, ↓qb_so, ↓nm_1, ↓nm_2, ↓reduceIte, if_true, if_false, not_true_eq_false, not_false_eq_true, and_true, true_and, and_false, false_and, or_true, true_or, or_false, false_or, eq_self, ne_eq, quI_s, quI_n, quI2, quL1, quL2, quL3, quR1, quR2, quR3, nI_add, pk_mul, pk_sub, Nat.add_sub_cancel, qm1_add, qm2_add, nI_leI, nI_ltI, nI_eq, nI_m1, nI_m1', nI_clamp, nI_bit, nI_one_shl, nI_m1l, nI_m1lt, nI_m1lt', nI_m1le', oI_some, oI_none, ni_0, ni_1, ni_4, fX12_works, fX12_works_B19, qle_t, qle_f, qlt_t, qlt_f, qeq_t, qeq_f, e1, hd]
end Q34

