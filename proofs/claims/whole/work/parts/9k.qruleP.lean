/-! ===== the reference reads a rule: it compares ===== -/
section Q9k
variable {S Z V : xSt} {n L e m o b d t k a A D K H B r : Nat} {f : Nat → Nat} {c c' : List (Nat × Nat)} {P P' p : List Nat} {o' D' K' H' B' A' : Nat}
theorem stX_half (h : stX S b f L m e c P o D K H B A) : stX (xuI S 28 (D - 1) (nI k)) b f L m e c P o D K k B A ∧ frN b S (xuI S 28 (D - 1) (nI k)) ∧ frD D S (xuI S 28 (D - 1) (nI k)) := by
  obtain ⟨g1, g2, g3, g4, g5, g6, g7, g8, g9, g10, g11, g12⟩ := h
  have hk : ∀ i j, ¬ (i = 28 ∧ j = D - 1) → (xuI S 28 (D - 1) (nI k)).1 i j = S.1 i j := fun i j x => quI_k x
  exact ⟨⟨tkM_same g1 (fun k j x => hk k j (by omega)) rfl, g2, by rw [hk _ _ (by omega)]; exact g3, by rw [hk _ _ (by omega)]; exact g4, cdM_fr g5 (fun k j x y => hk k j (by omega)), ⟨by rw [hk _ _ (by omega)]; exact g6.1, by rw [hk _ _ (by omega)]; exact g6.2.1, quI_e, by rw [hk _ _ (by omega)]; exact g6.2.2.2.1, by rw [hk _ _ (by omega)]; exact g6.2.2.2.2⟩, g7, g8, g9, g10, g11, g12⟩, ⟨fun k j x y z => hk k j (by omega), fun _ _ _ => rfl, rfl⟩, fun k j x y z => hk k j (by omega)⟩
theorem stX_bare (h : stX S b f L m e c P o D K H B A) : stX (xuI S 29 (D - 1) (nI k)) b f L m e c P o D K H k A ∧ frN b S (xuI S 29 (D - 1) (nI k)) ∧ frD D S (xuI S 29 (D - 1) (nI k)) := by
  obtain ⟨g1, g2, g3, g4, g5, g6, g7, g8, g9, g10, g11, g12⟩ := h
  have hk : ∀ i j, ¬ (i = 29 ∧ j = D - 1) → (xuI S 29 (D - 1) (nI k)).1 i j = S.1 i j := fun i j x => quI_k x
  exact ⟨⟨tkM_same g1 (fun k j x => hk k j (by omega)) rfl, g2, by rw [hk _ _ (by omega)]; exact g3, by rw [hk _ _ (by omega)]; exact g4, cdM_fr g5 (fun k j x y => hk k j (by omega)), ⟨by rw [hk _ _ (by omega)]; exact g6.1, by rw [hk _ _ (by omega)]; exact g6.2.1, by rw [hk _ _ (by omega)]; exact g6.2.2.1, quI_e, by rw [hk _ _ (by omega)]; exact g6.2.2.2.2⟩, g7, g8, g9, g10, g11, g12⟩, ⟨fun k j x y z => hk k j (by omega), fun _ _ _ => rfl, rfl⟩, fun k j x y z => hk k j (by omega)⟩
/-- no operator of sums -/
theorem g_188 (h : stM S b f L m e c P o D K H B A) (hw : kW f L e = none) (hK : K ≤ 6) (hH : H ≤ 2) (hx : H < 2 → ¬ ig f L e 43 ∧ ¬ ig f L e 45 ∧ ¬ ig f L e 42 ∧ ¬ ig f L e 47 ∧ ¬ ig f L e 37) : fX12_goesOn n 0 S = fX12_goesOn_B188 n 0 (nI (D - 1)) (nI K) (nI (if K = 1 ∨ K = 5 ∨ K = 6 then 1 else 0)) S := by
  obtain ⟨g1, g2, g3, g4, g5, g6, g7, g8, g9, g10, g11, g12⟩ := h
  have z12 := g1.2.2.2.2.1
  rw [hw] at z12
  have l1 := m_lex0 z12
  have i1 := o_isTest (S := S) hK
  have h47 := g6.1
  have h27 := g6.2.1
  have h28 := g6.2.2.1
  have hD : D ≤ 8 := by omega
  by_cases hH2 : 2 ≤ H
  · simp (disch := (first | assumption | omega | exact hB _ _ | exact hYB _ _ | (simp only [yc, yd, sh, sv, ne_eq]; omega) | (simp (disch := omega) only [↓nm_1, ↓nm_2, nI_add, pk_mul, pk_sub, Nat.add_sub_cancel, qm1_add, qm2_add, nI_clamp, ni_0, ni_1, ni_2, ni_37, ni_42, ni_43, ni_45, ni_47, l1, g3, h47, h27, h28, i1, hH2]; refine qin_nI ?_ ?_ <;> first | omega | exact hB _ _ | exact hYB _ _) | (refine qin_nI ?_ ?_ <;> omega) | fail)) only [↓km0_gd, ↓km0_gI, ↓km0_gM, ↓km0_pI, ↓km0_pM, ↓km0_pZ, ↓km0_gL, ↓km0_pL, ↓km0_gF42, ↓km0_gF43, ↓km27_al, ↓km27_as, ↓km27_ln, ↓km28_al, ↓km28_as, ↓km28_ln, ↓qb_so, ↓nm_1, ↓nm_2, ↓reduceIte, if_true, if_false, not_true_eq_false, not_false_eq_true, and_true, true_and, and_false, false_and, or_true, true_or, or_false, false_or, eq_self, ne_eq, quI_s, quI_n, quI2, quL1, quL2, quL3, quR1, quR2, quR3, nI_add, pk_mul, pk_sub, Nat.add_sub_cancel, qm1_add, qm2_add, nI_leI, nI_ltI, nI_eq, nI_m1, nI_m1', nI_clamp, nI_bit, nI_one_shl, nI_m1l, nI_m1lt, nI_m1lt', nI_m1le', oI_some, oI_none, ni_0, ni_1, ni_2, ni_37, ni_42, ni_43, ni_45, ni_47, fX12_goesOn, qle_t, qle_f, qlt_t, qlt_f, qeq_t, qeq_f, l1, g3, h47, h27, h28, i1, hH2]
  · obtain ⟨x1, x2, x3, x4, x5⟩ := hx (by omega)
    have a0 := m_isS g1 (k := 43) (by decide)
    rw [if_neg x1] at a0
    have a1 := m_isS g1 (k := 45) (by decide)
    rw [if_neg x2] at a1
    have a2 := m_isS g1 (k := 42) (by decide)
    rw [if_neg x3] at a2
    have a3 := m_isS g1 (k := 47) (by decide)
    rw [if_neg x4] at a3
    have a4 := m_isS g1 (k := 37) (by decide)
    rw [if_neg x5] at a4
    simp (disch := (first | assumption | omega | exact hB _ _ | exact hYB _ _ | (simp only [yc, yd, sh, sv, ne_eq]; omega) | (simp (disch := omega) only [↓nm_1, ↓nm_2, nI_add, pk_mul, pk_sub, Nat.add_sub_cancel, qm1_add, qm2_add, nI_clamp, ni_0, ni_1, ni_2, ni_37, ni_42, ni_43, ni_45, ni_47, l1, g3, h47, h27, h28, i1, hH2, a0, a1, a2, a3, a4]; refine qin_nI ?_ ?_ <;> first | omega | exact hB _ _ | exact hYB _ _) | (refine qin_nI ?_ ?_ <;> omega) | fail)) only [↓km0_gd, ↓km0_gI, ↓km0_gM, ↓km0_pI, ↓km0_pM, ↓km0_pZ, ↓km0_gL, ↓km0_pL, ↓km0_gF42, ↓km0_gF43, ↓km27_al, ↓km27_as, ↓km27_ln, ↓km28_al, ↓km28_as, ↓km28_ln, ↓qb_so, ↓nm_1, ↓nm_2, ↓reduceIte, if_true, if_false, not_true_eq_false, not_false_eq_true, and_true, true_and, and_false, false_and, or_true, true_or, or_false, false_or, eq_self, ne_eq, quI_s, quI_n, quI2, quL1, quL2, quL3, quR1, quR2, quR3, nI_add, pk_mul, pk_sub, Nat.add_sub_cancel, qm1_add, qm2_add, nI_leI, nI_ltI, nI_eq, nI_m1, nI_m1', nI_clamp, nI_bit, nI_one_shl, nI_m1l, nI_m1lt, nI_m1lt', nI_m1le', oI_some, oI_none, ni_0, ni_1, ni_2, ni_37, ni_42, ni_43, ni_45, ni_47, fX12_goesOn, qle_t, qle_f, qlt_t, qlt_f, qeq_t, qeq_f, l1, g3, h47, h27, h28, i1, hH2, a0, a1, a2, a3, a4]
theorem g_jh2 {q : Nat} (hb : b < 2) (hn : 2000 ≤ n) (h : stM S b f L m e c (p ++ P) o D K H B A) (hA : A ≤ P.length) (hp : ∀ x, x ∈ p → 5 ≤ rkq x) (hP : A < P.length → ∀ x X, P = x :: X → rkq x < 5) (hl : P.length < 100) (hq : isP q) (hq2 : q ≠ 2) (hT : kT f L e ≠ 0) :
    ∃ Z Y X, fX12_joins n 0 (nI 5) S = some Z ∧ tkM Z f L e ∧ fX12_holdsBack 0 (nI (mSort (q, 0))) Z = some Y ∧ fX12_ahead n 0 (xuI Y 28 (D - 1) (nI 1)) = some X ∧ stM (xuI X 0 51 (nI 0)) b f L m (kE f L e) (c ++ em p) (q :: P) (o - nots p) D K 1 B A ∧ frN b S (xuI X 0 51 (nI 0)) ∧ frD D S (xuI X 0 51 (nI 0)) := by
  obtain ⟨Z, z1, z2, z3, z4⟩ := s_join hb (by decide) hn h hA hp hP
  obtain ⟨Y, y1, y2, y3, y4⟩ := s_hold z2 hq hq2 hl
  have u := stX_half (k := 1) y2
  obtain ⟨X, x1, x2, x3⟩ := s_ahead hn u.1 hT
  have s3 := s_flag (x := nI 0) x2
  exact ⟨Z, Y, X, z1, z2.1, y1, x1, s3.1, frN_trans z3 (frN_trans ⟨fun k j x y z => y3 k j (by omega) (by omega), fun k j _ => by rw [y4], by rw [y4]⟩ (frN_trans u.2.1 (frN_trans (frN_M x3) s3.2.1))), frD_trans (frD_J z4) (frD_trans (fun k j a1 a2 a3 => y3 k j (by omega) (by omega)) (frD_trans u.2.2 (frD_trans (frD_M x3) s3.2.2)))⟩
theorem g_cmp60 (hb : b < 2) (hn : 2000 ≤ n) (h : stM S b f L m e c (p ++ P) o D K 0 B A) (hi : ig f L e 60) (hK : K ≤ 6) (ht : isTs K) (hA : A ≤ P.length) (hp : ∀ x, x ∈ p → 5 ≤ rkq x) (hP : A < P.length → ∀ x X, P = x :: X → rkq x < 5) (hl : P.length < 100) : ∃ Z, fX12_goesOn n 0 S = some (nI 1, xuI Z 0 51 (nI 0)) ∧ stM (xuI Z 0 51 (nI 0)) b f L m (kE f L e) (c ++ em p) (11 :: P) (o - nots p) D K 1 B A ∧ frN b S (xuI Z 0 51 (nI 0)) ∧ frD D S (xuI Z 0 51 (nI 0)) := by
  obtain ⟨Z, Y, X, z1, z2, y1, x1, s1, s2, s3⟩ := g_jh2 (q := 11) hb hn h hA hp hP hl (by unfold isP; omega) (by decide) (ig_T hi)
  have ms : mSort (11, 0) = 38 := rfl
  rw [ms] at y1
  refine ⟨X, ?_, s1, s2, s3⟩
  rw [g_188 h (ig_W hi) hK (by decide) (fun _ => ⟨ig_one hi (by decide), ig_one hi (by decide), ig_one hi (by decide), ig_one hi (by decide), ig_one hi (by decide)⟩), if_pos (show K = 1 ∨ K = 5 ∨ K = 6 from ht)]
  obtain ⟨g1, g2, g3, g4, g5, g6, g7, g8, g9, g10, g11, g12⟩ := h
  have h28 := g6.2.2.1
  have hD : D ≤ 8 := by omega
  have a0 := m_isS g1 (k := 60) (by decide)
  have b0 := m_isS z2 (k := 60) (by decide)
  rw [if_pos hi] at a0 b0
  have a1 := m_isS g1 (k := 62) (by decide)
  have b1 := m_isS z2 (k := 62) (by decide)
  rw [if_neg (ig_one hi (by decide))] at a1 b1
  have a2 := m_isS g1 (k := 61) (by decide)
  have b2 := m_isS z2 (k := 61) (by decide)
  rw [if_neg (ig_one hi (by decide))] at a2 b2
  have q1 : fX12_goesOn_B188 n 0 (nI (D - 1)) (nI K) (nI 1) S = fX12_goesOn_B228 n 0 (nI (D - 1)) S := by
    simp (disch := (first | assumption | omega | exact hB _ _ | exact hYB _ _ | (simp only [yc, yd, sh, sv, ne_eq]; omega) | (simp (disch := omega) only [↓nm_1, ↓nm_2, nI_add, pk_mul, pk_sub, Nat.add_sub_cancel, qm1_add, qm2_add, nI_clamp, ni_0, ni_1, ni_60, ni_61, ni_62, h28, a0]; refine qin_nI ?_ ?_ <;> first | omega | exact hB _ _ | exact hYB _ _) | (refine qin_nI ?_ ?_ <;> omega) | fail)) only [↓km0_gd, ↓km0_gI, ↓km0_gM, ↓km0_pI, ↓km0_pM, ↓km0_pZ, ↓km0_gL, ↓km0_pL, ↓km0_gF43, ↓km28_al, ↓km28_as, ↓km28_ln, ↓qb_so, ↓nm_1, ↓nm_2, ↓reduceIte, if_true, if_false, not_true_eq_false, not_false_eq_true, and_true, true_and, and_false, false_and, or_true, true_or, or_false, false_or, eq_self, ne_eq, quI_s, quI_n, quI2, quL1, quL2, quL3, quR1, quR2, quR3, nI_add, pk_mul, pk_sub, Nat.add_sub_cancel, qm1_add, qm2_add, nI_leI, nI_ltI, nI_eq, nI_m1, nI_m1', nI_clamp, nI_bit, nI_one_shl, nI_m1l, nI_m1lt, nI_m1lt', nI_m1le', oI_some, oI_none, ni_0, ni_1, ni_60, ni_61, ni_62, fX12_goesOn_B188, qle_t, qle_f, qlt_t, qlt_f, qeq_t, qeq_f, h28, a0]
  have q2 : fX12_goesOn_B228 n 0 (nI (D - 1)) S = fX12_goesOn_B264 n 0 (nI (D - 1)) 0 (nI 38) Z := by
    simp (disch := (first | assumption | omega | exact hB _ _ | exact hYB _ _ | (simp only [yc, yd, sh, sv, ne_eq]; omega) | (simp (disch := omega) only [↓nm_1, ↓nm_2, nI_add, pk_mul, pk_sub, Nat.add_sub_cancel, qm1_add, qm2_add, nI_clamp, ni_0, ni_1, ni_5, ni_38, ni_39, ni_40, ni_60, ni_62, z1, b0]; refine qin_nI ?_ ?_ <;> first | omega | exact hB _ _ | exact hYB _ _) | (refine qin_nI ?_ ?_ <;> omega) | fail)) only [↓km0_gd, ↓km0_gI, ↓km0_gM, ↓km0_pI, ↓km0_pM, ↓km0_pZ, ↓km0_gL, ↓km0_pL, ↓qb_so, ↓nm_1, ↓nm_2, ↓reduceIte, if_true, if_false, not_true_eq_false, not_false_eq_true, and_true, true_and, and_false, false_and, or_true, true_or, or_false, false_or, eq_self, ne_eq, quI_s, quI_n, quI2, quL1, quL2, quL3, quR1, quR2, quR3, nI_add, pk_mul, pk_sub, Nat.add_sub_cancel, qm1_add, qm2_add, nI_leI, nI_ltI, nI_eq, nI_m1, nI_m1', nI_clamp, nI_bit, nI_one_shl, nI_m1l, nI_m1lt, nI_m1lt', nI_m1le', oI_some, oI_none, ni_0, ni_1, ni_5, ni_38, ni_39, ni_40, ni_60, ni_62, fX12_goesOn_B228, qle_t, qle_f, qlt_t, qlt_f, qeq_t, qeq_f, z1, b0]
  rw [q1, q2]
  simp (disch := (first | assumption | omega | exact hB _ _ | exact hYB _ _ | (simp only [yc, yd, sh, sv, ne_eq]; omega) | (simp (disch := omega) only [↓nm_1, ↓nm_2, nI_add, pk_mul, pk_sub, Nat.add_sub_cancel, qm1_add, qm2_add, nI_clamp, ni_0, ni_1, y1, x1, m_pZ0]; refine qin_nI ?_ ?_ <;> first | omega | exact hB _ _ | exact hYB _ _) | (refine qin_nI ?_ ?_ <;> omega) | fail)) only [↓km0_gd, ↓km0_gI, ↓km0_gM, ↓km0_pI, ↓km0_pM, ↓km0_pZ, ↓km0_gL, ↓km0_pL, ↓km0_gF43, ↓km28_al, ↓km28_as, ↓km28_ln, ↓qb_so, ↓nm_1, ↓nm_2, ↓reduceIte, if_true, if_false, not_true_eq_false, not_false_eq_true, and_true, true_and, and_false, false_and, or_true, true_or, or_false, false_or, eq_self, ne_eq, quI_s, quI_n, quI2, quL1, quL2, quL3, quR1, quR2, quR3, nI_add, pk_mul, pk_sub, Nat.add_sub_cancel, qm1_add, qm2_add, nI_leI, nI_ltI, nI_eq, nI_m1, nI_m1', nI_clamp, nI_bit, nI_one_shl, nI_m1l, nI_m1lt, nI_m1lt', nI_m1le', oI_some, oI_none, ni_0, ni_1, fX12_goesOn_B264, qle_t, qle_f, qlt_t, qlt_f, qeq_t, qeq_f, y1, x1, m_pZ0]
theorem g_cmp62 (hb : b < 2) (hn : 2000 ≤ n) (h : stM S b f L m e c (p ++ P) o D K 0 B A) (hi : ig f L e 62) (hK : K ≤ 6) (ht : isTs K) (hA : A ≤ P.length) (hp : ∀ x, x ∈ p → 5 ≤ rkq x) (hP : A < P.length → ∀ x X, P = x :: X → rkq x < 5) (hl : P.length < 100) : ∃ Z, fX12_goesOn n 0 S = some (nI 1, xuI Z 0 51 (nI 0)) ∧ stM (xuI Z 0 51 (nI 0)) b f L m (kE f L e) (c ++ em p) (12 :: P) (o - nots p) D K 1 B A ∧ frN b S (xuI Z 0 51 (nI 0)) ∧ frD D S (xuI Z 0 51 (nI 0)) := by
  obtain ⟨Z, Y, X, z1, z2, y1, x1, s1, s2, s3⟩ := g_jh2 (q := 12) hb hn h hA hp hP hl (by unfold isP; omega) (by decide) (ig_T hi)
  have ms : mSort (12, 0) = 39 := rfl
  rw [ms] at y1
  refine ⟨X, ?_, s1, s2, s3⟩
  rw [g_188 h (ig_W hi) hK (by decide) (fun _ => ⟨ig_one hi (by decide), ig_one hi (by decide), ig_one hi (by decide), ig_one hi (by decide), ig_one hi (by decide)⟩), if_pos (show K = 1 ∨ K = 5 ∨ K = 6 from ht)]
  obtain ⟨g1, g2, g3, g4, g5, g6, g7, g8, g9, g10, g11, g12⟩ := h
  have h28 := g6.2.2.1
  have hD : D ≤ 8 := by omega
  have a0 := m_isS g1 (k := 60) (by decide)
  have b0 := m_isS z2 (k := 60) (by decide)
  rw [if_neg (ig_one hi (by decide))] at a0 b0
  have a1 := m_isS g1 (k := 62) (by decide)
  have b1 := m_isS z2 (k := 62) (by decide)
  rw [if_pos hi] at a1 b1
  have a2 := m_isS g1 (k := 61) (by decide)
  have b2 := m_isS z2 (k := 61) (by decide)
  rw [if_neg (ig_one hi (by decide))] at a2 b2
  have q1 : fX12_goesOn_B188 n 0 (nI (D - 1)) (nI K) (nI 1) S = fX12_goesOn_B228 n 0 (nI (D - 1)) S := by
    simp (disch := (first | assumption | omega | exact hB _ _ | exact hYB _ _ | (simp only [yc, yd, sh, sv, ne_eq]; omega) | (simp (disch := omega) only [↓nm_1, ↓nm_2, nI_add, pk_mul, pk_sub, Nat.add_sub_cancel, qm1_add, qm2_add, nI_clamp, ni_0, ni_1, ni_60, ni_61, ni_62, h28, a0, a1]; refine qin_nI ?_ ?_ <;> first | omega | exact hB _ _ | exact hYB _ _) | (refine qin_nI ?_ ?_ <;> omega) | fail)) only [↓km0_gd, ↓km0_gI, ↓km0_gM, ↓km0_pI, ↓km0_pM, ↓km0_pZ, ↓km0_gL, ↓km0_pL, ↓km0_gF43, ↓km28_al, ↓km28_as, ↓km28_ln, ↓qb_so, ↓nm_1, ↓nm_2, ↓reduceIte, if_true, if_false, not_true_eq_false, not_false_eq_true, and_true, true_and, and_false, false_and, or_true, true_or, or_false, false_or, eq_self, ne_eq, quI_s, quI_n, quI2, quL1, quL2, quL3, quR1, quR2, quR3, nI_add, pk_mul, pk_sub, Nat.add_sub_cancel, qm1_add, qm2_add, nI_leI, nI_ltI, nI_eq, nI_m1, nI_m1', nI_clamp, nI_bit, nI_one_shl, nI_m1l, nI_m1lt, nI_m1lt', nI_m1le', oI_some, oI_none, ni_0, ni_1, ni_60, ni_61, ni_62, fX12_goesOn_B188, qle_t, qle_f, qlt_t, qlt_f, qeq_t, qeq_f, h28, a0, a1]
  have q2 : fX12_goesOn_B228 n 0 (nI (D - 1)) S = fX12_goesOn_B264 n 0 (nI (D - 1)) 0 (nI 39) Z := by
    simp (disch := (first | assumption | omega | exact hB _ _ | exact hYB _ _ | (simp only [yc, yd, sh, sv, ne_eq]; omega) | (simp (disch := omega) only [↓nm_1, ↓nm_2, nI_add, pk_mul, pk_sub, Nat.add_sub_cancel, qm1_add, qm2_add, nI_clamp, ni_0, ni_1, ni_5, ni_38, ni_39, ni_40, ni_60, ni_62, z1, b0, b1]; refine qin_nI ?_ ?_ <;> first | omega | exact hB _ _ | exact hYB _ _) | (refine qin_nI ?_ ?_ <;> omega) | fail)) only [↓km0_gd, ↓km0_gI, ↓km0_gM, ↓km0_pI, ↓km0_pM, ↓km0_pZ, ↓km0_gL, ↓km0_pL, ↓qb_so, ↓nm_1, ↓nm_2, ↓reduceIte, if_true, if_false, not_true_eq_false, not_false_eq_true, and_true, true_and, and_false, false_and, or_true, true_or, or_false, false_or, eq_self, ne_eq, quI_s, quI_n, quI2, quL1, quL2, quL3, quR1, quR2, quR3, nI_add, pk_mul, pk_sub, Nat.add_sub_cancel, qm1_add, qm2_add, nI_leI, nI_ltI, nI_eq, nI_m1, nI_m1', nI_clamp, nI_bit, nI_one_shl, nI_m1l, nI_m1lt, nI_m1lt', nI_m1le', oI_some, oI_none, ni_0, ni_1, ni_5, ni_38, ni_39, ni_40, ni_60, ni_62, fX12_goesOn_B228, qle_t, qle_f, qlt_t, qlt_f, qeq_t, qeq_f, z1, b0, b1]
  rw [q1, q2]
  simp (disch := (first | assumption | omega | exact hB _ _ | exact hYB _ _ | (simp only [yc, yd, sh, sv, ne_eq]; omega) | (simp (disch := omega) only [↓nm_1, ↓nm_2, nI_add, pk_mul, pk_sub, Nat.add_sub_cancel, qm1_add, qm2_add, nI_clamp, ni_0, ni_1, y1, x1, m_pZ0]; refine qin_nI ?_ ?_ <;> first | omega | exact hB _ _ | exact hYB _ _) | (refine qin_nI ?_ ?_ <;> omega) | fail)) only [↓km0_gd, ↓km0_gI, ↓km0_gM, ↓km0_pI, ↓km0_pM, ↓km0_pZ, ↓km0_gL, ↓km0_pL, ↓km0_gF43, ↓km28_al, ↓km28_as, ↓km28_ln, ↓qb_so, ↓nm_1, ↓nm_2, ↓reduceIte, if_true, if_false, not_true_eq_false, not_false_eq_true, and_true, true_and, and_false, false_and, or_true, true_or, or_false, false_or, eq_self, ne_eq, quI_s, quI_n, quI2, quL1, quL2, quL3, quR1, quR2, quR3, nI_add, pk_mul, pk_sub, Nat.add_sub_cancel, qm1_add, qm2_add, nI_leI, nI_ltI, nI_eq, nI_m1, nI_m1', nI_clamp, nI_bit, nI_one_shl, nI_m1l, nI_m1lt, nI_m1lt', nI_m1le', oI_some, oI_none, ni_0, ni_1, fX12_goesOn_B264, qle_t, qle_f, qlt_t, qlt_f, qeq_t, qeq_f, y1, x1, m_pZ0]
theorem g_cmp61 (hb : b < 2) (hn : 2000 ≤ n) (h : stM S b f L m e c (p ++ P) o D K 0 B A) (hi : ig f L e 61) (hK : K ≤ 6) (ht : isTs K) (hA : A ≤ P.length) (hp : ∀ x, x ∈ p → 5 ≤ rkq x) (hP : A < P.length → ∀ x X, P = x :: X → rkq x < 5) (hl : P.length < 100) : ∃ Z, fX12_goesOn n 0 S = some (nI 1, xuI Z 0 51 (nI 0)) ∧ stM (xuI Z 0 51 (nI 0)) b f L m (kE f L e) (c ++ em p) (13 :: P) (o - nots p) D K 1 B A ∧ frN b S (xuI Z 0 51 (nI 0)) ∧ frD D S (xuI Z 0 51 (nI 0)) := by
  obtain ⟨Z, Y, X, z1, z2, y1, x1, s1, s2, s3⟩ := g_jh2 (q := 13) hb hn h hA hp hP hl (by unfold isP; omega) (by decide) (ig_T hi)
  have ms : mSort (13, 0) = 40 := rfl
  rw [ms] at y1
  refine ⟨X, ?_, s1, s2, s3⟩
  rw [g_188 h (ig_W hi) hK (by decide) (fun _ => ⟨ig_one hi (by decide), ig_one hi (by decide), ig_one hi (by decide), ig_one hi (by decide), ig_one hi (by decide)⟩), if_pos (show K = 1 ∨ K = 5 ∨ K = 6 from ht)]
  obtain ⟨g1, g2, g3, g4, g5, g6, g7, g8, g9, g10, g11, g12⟩ := h
  have h28 := g6.2.2.1
  have hD : D ≤ 8 := by omega
  have a0 := m_isS g1 (k := 60) (by decide)
  have b0 := m_isS z2 (k := 60) (by decide)
  rw [if_neg (ig_one hi (by decide))] at a0 b0
  have a1 := m_isS g1 (k := 62) (by decide)
  have b1 := m_isS z2 (k := 62) (by decide)
  rw [if_neg (ig_one hi (by decide))] at a1 b1
  have a2 := m_isS g1 (k := 61) (by decide)
  have b2 := m_isS z2 (k := 61) (by decide)
  rw [if_pos hi] at a2 b2
  have q1 : fX12_goesOn_B188 n 0 (nI (D - 1)) (nI K) (nI 1) S = fX12_goesOn_B228 n 0 (nI (D - 1)) S := by
    simp (disch := (first | assumption | omega | exact hB _ _ | exact hYB _ _ | (simp only [yc, yd, sh, sv, ne_eq]; omega) | (simp (disch := omega) only [↓nm_1, ↓nm_2, nI_add, pk_mul, pk_sub, Nat.add_sub_cancel, qm1_add, qm2_add, nI_clamp, ni_0, ni_1, ni_60, ni_61, ni_62, h28, a0, a1, a2]; refine qin_nI ?_ ?_ <;> first | omega | exact hB _ _ | exact hYB _ _) | (refine qin_nI ?_ ?_ <;> omega) | fail)) only [↓km0_gd, ↓km0_gI, ↓km0_gM, ↓km0_pI, ↓km0_pM, ↓km0_pZ, ↓km0_gL, ↓km0_pL, ↓km0_gF43, ↓km28_al, ↓km28_as, ↓km28_ln, ↓qb_so, ↓nm_1, ↓nm_2, ↓reduceIte, if_true, if_false, not_true_eq_false, not_false_eq_true, and_true, true_and, and_false, false_and, or_true, true_or, or_false, false_or, eq_self, ne_eq, quI_s, quI_n, quI2, quL1, quL2, quL3, quR1, quR2, quR3, nI_add, pk_mul, pk_sub, Nat.add_sub_cancel, qm1_add, qm2_add, nI_leI, nI_ltI, nI_eq, nI_m1, nI_m1', nI_clamp, nI_bit, nI_one_shl, nI_m1l, nI_m1lt, nI_m1lt', nI_m1le', oI_some, oI_none, ni_0, ni_1, ni_60, ni_61, ni_62, fX12_goesOn_B188, qle_t, qle_f, qlt_t, qlt_f, qeq_t, qeq_f, h28, a0, a1, a2]
  have q2 : fX12_goesOn_B228 n 0 (nI (D - 1)) S = fX12_goesOn_B264 n 0 (nI (D - 1)) 0 (nI 40) Z := by
    simp (disch := (first | assumption | omega | exact hB _ _ | exact hYB _ _ | (simp only [yc, yd, sh, sv, ne_eq]; omega) | (simp (disch := omega) only [↓nm_1, ↓nm_2, nI_add, pk_mul, pk_sub, Nat.add_sub_cancel, qm1_add, qm2_add, nI_clamp, ni_0, ni_1, ni_5, ni_38, ni_39, ni_40, ni_60, ni_62, z1, b0, b1]; refine qin_nI ?_ ?_ <;> first | omega | exact hB _ _ | exact hYB _ _) | (refine qin_nI ?_ ?_ <;> omega) | fail)) only [↓km0_gd, ↓km0_gI, ↓km0_gM, ↓km0_pI, ↓km0_pM, ↓km0_pZ, ↓km0_gL, ↓km0_pL, ↓qb_so, ↓nm_1, ↓nm_2, ↓reduceIte, if_true, if_false, not_true_eq_false, not_false_eq_true, and_true, true_and, and_false, false_and, or_true, true_or, or_false, false_or, eq_self, ne_eq, quI_s, quI_n, quI2, quL1, quL2, quL3, quR1, quR2, quR3, nI_add, pk_mul, pk_sub, Nat.add_sub_cancel, qm1_add, qm2_add, nI_leI, nI_ltI, nI_eq, nI_m1, nI_m1', nI_clamp, nI_bit, nI_one_shl, nI_m1l, nI_m1lt, nI_m1lt', nI_m1le', oI_some, oI_none, ni_0, ni_1, ni_5, ni_38, ni_39, ni_40, ni_60, ni_62, fX12_goesOn_B228, qle_t, qle_f, qlt_t, qlt_f, qeq_t, qeq_f, z1, b0, b1]
  rw [q1, q2]
  simp (disch := (first | assumption | omega | exact hB _ _ | exact hYB _ _ | (simp only [yc, yd, sh, sv, ne_eq]; omega) | (simp (disch := omega) only [↓nm_1, ↓nm_2, nI_add, pk_mul, pk_sub, Nat.add_sub_cancel, qm1_add, qm2_add, nI_clamp, ni_0, ni_1, y1, x1, m_pZ0]; refine qin_nI ?_ ?_ <;> first | omega | exact hB _ _ | exact hYB _ _) | (refine qin_nI ?_ ?_ <;> omega) | fail)) only [↓km0_gd, ↓km0_gI, ↓km0_gM, ↓km0_pI, ↓km0_pM, ↓km0_pZ, ↓km0_gL, ↓km0_pL, ↓km0_gF43, ↓km28_al, ↓km28_as, ↓km28_ln, ↓qb_so, ↓nm_1, ↓nm_2, ↓reduceIte, if_true, if_false, not_true_eq_false, not_false_eq_true, and_true, true_and, and_false, false_and, or_true, true_or, or_false, false_or, eq_self, ne_eq, quI_s, quI_n, quI2, quL1, quL2, quL3, quR1, quR2, quR3, nI_add, pk_mul, pk_sub, Nat.add_sub_cancel, qm1_add, qm2_add, nI_leI, nI_ltI, nI_eq, nI_m1, nI_m1', nI_clamp, nI_bit, nI_one_shl, nI_m1l, nI_m1lt, nI_m1lt', nI_m1le', oI_some, oI_none, ni_0, ni_1, fX12_goesOn_B264, qle_t, qle_f, qlt_t, qlt_f, qeq_t, qeq_f, y1, x1, m_pZ0]
end Q9k

