/-! ===== the reference reads a rule: commas, and the end ===== -/
section Q9m
variable {S Z V : xSt} {n L e m o b d t k a A D K H B r : Nat} {f : Nat → Nat} {c c' : List (Nat × Nat)} {P P' p : List Nat} {o' D' K' H' B' A' : Nat}
theorem g_422 (h : stM S b f L m e c P o D K H B A) (hw : kW f L e = none) (hK : K ≤ 6) (hH : H ≤ 2) (hx : H < 2 → ¬ ig f L e 43 ∧ ¬ ig f L e 45 ∧ ¬ ig f L e 42 ∧ ¬ ig f L e 47 ∧ ¬ ig f L e 37) (ht : isTs K → 1 ≤ H ∧ ¬ iw f L e 27 ∧ ¬ iw f L e 26) : fX12_goesOn n 0 S = fX12_goesOn_B422 n 0 (nI (D - 1)) (nI K) S := by
  rw [g_188 h hw hK hH hx]
  obtain ⟨g1, g2, g3, g4, g5, g6, g7, g8, g9, g10, g11, g12⟩ := h
  have hL := g1.1.2.2.1
  have h28 := g6.2.2.1
  have hD : D ≤ 8 := by omega
  by_cases hk : K = 1 ∨ K = 5 ∨ K = 6
  · obtain ⟨t1, t2, t3⟩ := ht hk
    rw [if_pos hk]
    have hH1 : ¬ H = 0 := by omega
    have w1 := w_l27 hL g1 hw
    have w2 := w_l26 hL g1 hw
    rw [if_neg t2] at w1
    rw [if_neg t3] at w2
    simp (disch := (first | assumption | omega | exact hB _ _ | exact hYB _ _ | (simp only [yc, yd, sh, sv, ne_eq]; omega) | (simp (disch := omega) only [↓nm_1, ↓nm_2, nI_add, pk_mul, pk_sub, Nat.add_sub_cancel, qm1_add, qm2_add, nI_clamp, ni_0, ni_1, ni_60, ni_61, ni_62, h28, hH1, w1, w2]; refine qin_nI ?_ ?_ <;> first | omega | exact hB _ _ | exact hYB _ _) | (refine qin_nI ?_ ?_ <;> omega) | fail)) only [↓km0_gd, ↓km0_gI, ↓km0_gM, ↓km0_pI, ↓km0_pM, ↓km0_pZ, ↓km0_gL, ↓km0_pL, ↓km0_gF43, ↓km28_al, ↓km28_as, ↓km28_ln, ↓qb_so, ↓nm_1, ↓nm_2, ↓reduceIte, if_true, if_false, not_true_eq_false, not_false_eq_true, and_true, true_and, and_false, false_and, or_true, true_or, or_false, false_or, eq_self, ne_eq, quI_s, quI_n, quI2, quL1, quL2, quL3, quR1, quR2, quR3, nI_add, pk_mul, pk_sub, Nat.add_sub_cancel, qm1_add, qm2_add, nI_leI, nI_ltI, nI_eq, nI_m1, nI_m1', nI_clamp, nI_bit, nI_one_shl, nI_m1l, nI_m1lt, nI_m1lt', nI_m1le', oI_some, oI_none, ni_0, ni_1, ni_60, ni_61, ni_62, fX12_goesOn_B188, fX12_goesOn_B285, fX12_goesOn_B400, qle_t, qle_f, qlt_t, qlt_f, qeq_t, qeq_f, h28, hH1, w1, w2]
  · rw [if_neg hk]
    simp (disch := (first | assumption | omega | exact hB _ _ | exact hYB _ _ | (simp only [yc, yd, sh, sv, ne_eq]; omega) | (simp (disch := omega) only [↓nm_1, ↓nm_2, nI_add, pk_mul, pk_sub, Nat.add_sub_cancel, qm1_add, qm2_add, nI_clamp, ni_0, ni_1, ni_60, ni_61, ni_62]; refine qin_nI ?_ ?_ <;> first | omega | exact hB _ _ | exact hYB _ _) | (refine qin_nI ?_ ?_ <;> omega) | fail)) only [↓km0_gd, ↓km0_gI, ↓km0_gM, ↓km0_pI, ↓km0_pM, ↓km0_pZ, ↓km0_gL, ↓km0_pL, ↓km0_gF43, ↓km28_al, ↓km28_as, ↓km28_ln, ↓qb_so, ↓nm_1, ↓nm_2, ↓reduceIte, if_true, if_false, not_true_eq_false, not_false_eq_true, and_true, true_and, and_false, false_and, or_true, true_or, or_false, false_or, eq_self, ne_eq, quI_s, quI_n, quI2, quL1, quL2, quL3, quR1, quR2, quR3, nI_add, pk_mul, pk_sub, Nat.add_sub_cancel, qm1_add, qm2_add, nI_leI, nI_ltI, nI_eq, nI_m1, nI_m1', nI_clamp, nI_bit, nI_one_shl, nI_m1l, nI_m1lt, nI_m1lt', nI_m1le', oI_some, oI_none, ni_0, ni_1, ni_60, ni_61, ni_62, fX12_goesOn_B188, fX12_goesOn_B285, fX12_goesOn_B400, qle_t, qle_f, qlt_t, qlt_f, qeq_t, qeq_f]
/-- the rule ends -/
theorem g_end (hb : b < 2) (hn : 2000 ≤ n) (h : stM S b f L m e c p o D K H B 0) (hK : K ≤ 1) (hp : ∀ x, x ∈ p → 1 ≤ rkq x) (h422 : fX12_goesOn n 0 S = fX12_goesOn_B422 n 0 (nI (D - 1)) (nI K) S) : ∃ Z, fX12_goesOn n 0 S = some (nI 0, Z) ∧ stM Z b f L m e (c ++ em p) [] (o - nots p) D K H B 0 ∧ frN b S Z := by
  have h' : stM S b f L m e c (p ++ []) o D K H B 0 := by rw [List.append_nil]; exact h
  obtain ⟨Z, z1, z2, z3, z4⟩ := s_join (r := 1) hb (by decide) hn h' (Nat.zero_le _) hp (fun hh => absurd hh (Nat.lt_irrefl _))
  have h8 := h.2.2.1
  refine ⟨Z, ?_, z2, z3⟩
  rw [h422]
  have hK2 : ¬ 2 ≤ K := by omega
  simp (disch := (first | assumption | omega | exact hB _ _ | exact hYB _ _ | (simp only [yc, yd, sh, sv, ne_eq]; omega) | (simp (disch := omega) only [↓nm_1, ↓nm_2, nI_add, pk_mul, pk_sub, Nat.add_sub_cancel, qm1_add, qm2_add, nI_clamp, ni_0, ni_1, ni_2, ni_3, ni_5, ni_6, ni_41, ni_93, hK2, h8, z1]; refine qin_nI ?_ ?_ <;> first | omega | exact hB _ _ | exact hYB _ _) | (refine qin_nI ?_ ?_ <;> omega) | fail)) only [↓km0_gd, ↓km0_gI, ↓km0_gM, ↓km0_pI, ↓km0_pM, ↓km0_pZ, ↓km0_gL, ↓km0_pL, ↓qb_so, ↓nm_1, ↓nm_2, ↓reduceIte, if_true, if_false, not_true_eq_false, not_false_eq_true, and_true, true_and, and_false, false_and, or_true, true_or, or_false, false_or, eq_self, ne_eq, quI_s, quI_n, quI2, quL1, quL2, quL3, quR1, quR2, quR3, nI_add, pk_mul, pk_sub, Nat.add_sub_cancel, qm1_add, qm2_add, nI_leI, nI_ltI, nI_eq, nI_m1, nI_m1', nI_clamp, nI_bit, nI_one_shl, nI_m1l, nI_m1lt, nI_m1lt', nI_m1le', oI_some, oI_none, ni_0, ni_1, ni_2, ni_3, ni_5, ni_6, ni_41, ni_93, fX12_goesOn_B422, qle_t, qle_f, qlt_t, qlt_f, qeq_t, qeq_f, hK2, h8, z1]
theorem stX_kind (h : stX S b f L m e c P o D K H B A) : stX (xuI S 27 (D - 1) (nI k)) b f L m e c P o D k H B A ∧ frN b S (xuI S 27 (D - 1) (nI k)) ∧ frD D S (xuI S 27 (D - 1) (nI k)) := by
  obtain ⟨g1, g2, g3, g4, g5, g6, g7, g8, g9, g10, g11, g12⟩ := h
  have hk : ∀ i j, ¬ (i = 27 ∧ j = D - 1) → (xuI S 27 (D - 1) (nI k)).1 i j = S.1 i j := fun i j x => quI_k x
  exact ⟨⟨tkM_same g1 (fun k j x => hk k j (by omega)) rfl, g2, by rw [hk _ _ (by omega)]; exact g3, by rw [hk _ _ (by omega)]; exact g4, cdM_fr g5 (fun k j x y => hk k j (by omega)), ⟨by rw [hk _ _ (by omega)]; exact g6.1, quI_e, by rw [hk _ _ (by omega)]; exact g6.2.2.1, by rw [hk _ _ (by omega)]; exact g6.2.2.2.1, by rw [hk _ _ (by omega)]; exact g6.2.2.2.2⟩, g7, g8, g9, g10, g11, g12⟩, ⟨fun k j x y z => hk k j (by omega), fun _ _ _ => rfl, rfl⟩, fun k j x y z => hk k j (by omega)⟩
theorem g_comma (hb : b < 2) (hn : 2000 ≤ n) (h : stM S b f L m e c (p ++ P) o D K H B P.length) (hK : K = 3 ∨ K = 6) (hi : ig f L e 44) (hp : ∀ x, x ∈ p → 1 ≤ rkq x) (h422 : fX12_goesOn n 0 S = fX12_goesOn_B422 n 0 (nI (D - 1)) (nI K) S) : ∃ Z, fX12_goesOn n 0 S = some (nI 1, xuI Z 0 51 (nI 0)) ∧ stM (xuI Z 0 51 (nI 0)) b f L m (kE f L e) (c ++ em p) P (o - nots p) D (if K = 3 then 4 else 3) 0 B P.length ∧ frN b S (xuI Z 0 51 (nI 0)) ∧ frD D S (xuI Z 0 51 (nI 0)) := by
  obtain ⟨Z, z1, z2, z3, z4⟩ := s_join (r := 1) hb (by decide) hn h (Nat.le_refl _) hp (fun hh => absurd hh (Nat.lt_irrefl _))
  have u := stX_kind (k := if K = 3 then 4 else 3) (stX_of z2)
  have v := stX_half (k := 0) u.1
  obtain ⟨X, x1, x2, x3⟩ := s_ahead hn v.1 (ig_T hi)
  have s3 := s_flag (x := nI 0) x2
  refine ⟨X, ?_, s3.1, frN_trans z3 (frN_trans u.2.1 (frN_trans v.2.1 (frN_trans (frN_M x3) s3.2.1))), frD_trans (frD_J z4) (frD_trans u.2.2 (frD_trans v.2.2 (frD_trans (frD_M x3) s3.2.2)))⟩
  rw [h422]
  have h8 := h.2.2.1
  have s1 := m_isS h.1 (k := 44) (by decide)
  rw [if_pos hi] at s1
  have hD : D ≤ 8 := by have := h.2.2.2.2.2.2.2.2.2.2; omega
  rcases hK with rfl | rfl
  · rw [if_pos rfl] at x1
    simp (disch := (first | assumption | omega | exact hB _ _ | exact hYB _ _ | (simp only [yc, yd, sh, sv, ne_eq]; omega) | (simp (disch := omega) only [↓nm_1, ↓nm_2, nI_add, pk_mul, pk_sub, Nat.add_sub_cancel, qm1_add, qm2_add, nI_clamp, ni_0, ni_1, ni_2, ni_3, ni_4, ni_5, ni_6, ni_41, ni_44, ni_93, s1, h8, z1, x1, m_pZ0]; refine qin_nI ?_ ?_ <;> first | omega | exact hB _ _ | exact hYB _ _) | (refine qin_nI ?_ ?_ <;> omega) | fail)) only [↓km0_gd, ↓km0_gI, ↓km0_gM, ↓km0_pI, ↓km0_pM, ↓km0_pZ, ↓km0_gL, ↓km0_pL, ↓km0_gF42, ↓km0_gF43, ↓km27_al, ↓km27_as, ↓km27_ln, ↓km28_al, ↓km28_as, ↓km28_ln, ↓qb_so, ↓nm_1, ↓nm_2, ↓reduceIte, if_true, if_false, not_true_eq_false, not_false_eq_true, and_true, true_and, and_false, false_and, or_true, true_or, or_false, false_or, eq_self, ne_eq, quI_s, quI_n, quI2, quL1, quL2, quL3, quR1, quR2, quR3, nI_add, pk_mul, pk_sub, Nat.add_sub_cancel, qm1_add, qm2_add, nI_leI, nI_ltI, nI_eq, nI_m1, nI_m1', nI_clamp, nI_bit, nI_one_shl, nI_m1l, nI_m1lt, nI_m1lt', nI_m1le', oI_some, oI_none, ni_0, ni_1, ni_2, ni_3, ni_4, ni_5, ni_6, ni_41, ni_44, ni_93, fX12_goesOn_B422, fX12_goesOn_B452, fX12_goesOn_B470, fX12_goesOn_B499, qle_t, qle_f, qlt_t, qlt_f, qeq_t, qeq_f, s1, h8, z1, x1, m_pZ0]
  · rw [if_neg (by decide)] at x1
    simp (disch := (first | assumption | omega | exact hB _ _ | exact hYB _ _ | (simp only [yc, yd, sh, sv, ne_eq]; omega) | (simp (disch := omega) only [↓nm_1, ↓nm_2, nI_add, pk_mul, pk_sub, Nat.add_sub_cancel, qm1_add, qm2_add, nI_clamp, ni_0, ni_1, ni_2, ni_3, ni_4, ni_5, ni_6, ni_41, ni_44, ni_93, s1, h8, z1, x1, m_pZ0]; refine qin_nI ?_ ?_ <;> first | omega | exact hB _ _ | exact hYB _ _) | (refine qin_nI ?_ ?_ <;> omega) | fail)) only [↓km0_gd, ↓km0_gI, ↓km0_gM, ↓km0_pI, ↓km0_pM, ↓km0_pZ, ↓km0_gL, ↓km0_pL, ↓km0_gF42, ↓km0_gF43, ↓km27_al, ↓km27_as, ↓km27_ln, ↓km28_al, ↓km28_as, ↓km28_ln, ↓qb_so, ↓nm_1, ↓nm_2, ↓reduceIte, if_true, if_false, not_true_eq_false, not_false_eq_true, and_true, true_and, and_false, false_and, or_true, true_or, or_false, false_or, eq_self, ne_eq, quI_s, quI_n, quI2, quL1, quL2, quL3, quR1, quR2, quR3, nI_add, pk_mul, pk_sub, Nat.add_sub_cancel, qm1_add, qm2_add, nI_leI, nI_ltI, nI_eq, nI_m1, nI_m1', nI_clamp, nI_bit, nI_one_shl, nI_m1l, nI_m1lt, nI_m1lt', nI_m1le', oI_some, oI_none, ni_0, ni_1, ni_2, ni_3, ni_4, ni_5, ni_6, ni_41, ni_44, ni_93, fX12_goesOn_B422, fX12_goesOn_B452, fX12_goesOn_B470, fX12_goesOn_B499, qle_t, qle_f, qlt_t, qlt_f, qeq_t, qeq_f, s1, h8, z1, x1, m_pZ0]
end Q9m

