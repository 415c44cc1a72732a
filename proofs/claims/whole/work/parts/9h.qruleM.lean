/-! ===== the reference reads a rule: how an operand begins ===== -/
section Q9h
variable {S Z V : xSt} {n L e m o b d t k a A D K H B r : Nat} {f : Nat → Nat} {c c' : List (Nat × Nat)} {P P' : List Nat} {o' D' K' H' B' A' : Nat}
def isTs (K : Nat) : Prop := K = 1 ∨ K = 5 ∨ K = 6
theorem kP_lt (he : e ≤ L) {p : Nat} (hw : kW f L e = some p) : p ≤ 2 * L + 6 := by
  have hke := kE_le (f := f) he
  have hse : kS f L e ≤ L := s_sk_le (f := f) (L := L) 1600 _ he
  unfold kW at hw
  repeat' split at hw
  all_goals first | (cases hw; omega) | cases hw
theorem o_wrong (h : stM S b f L m e c P o D K H B A) (hw : kW f L e ≠ none) : ∃ Z, fX12_operand n 0 S = some (nI 1, Z) ∧ flM b S 1 (kP f L e) Z := by
  cases hw' : kW f L e with
  | none => exact absurd hw' hw
  | some p =>
    have hp := kP_lt h.2.1 hw'
    have hL := h.1.1.2.2.1
    have z12 := h.1.2.2.2.2.1
    rw [hw'] at z12
    have l1 := m_lex1 (by omega) (show S.1 0 12 = nI p from z12) h.2.2.1
    have hP : kP f L e = p := by unfold kP; rw [hw']
    rw [hP]
    refine ⟨_, ?_, flM_up⟩
    simp (disch := (first | assumption | omega | exact hB _ _ | exact hYB _ _ | (simp only [yc, yd, sh, sv, ne_eq]; omega) | (simp (disch := omega) only [↓nm_1, ↓nm_2, nI_add, pk_mul, pk_sub, Nat.add_sub_cancel, qm1_add, qm2_add, nI_clamp, ni_0, ni_1, l1]; refine qin_nI ?_ ?_ <;> first | omega | exact hB _ _ | exact hYB _ _) | (refine qin_nI ?_ ?_ <;> omega) | fail)) only [↓km0_gd, ↓km0_gI, ↓km0_gM, ↓km0_pI, ↓km0_pM, ↓km0_pZ, ↓km0_gL, ↓km0_pL, ↓km0_gF42, ↓km0_gF44, ↓km27_al, ↓km27_as, ↓km27_ln, ↓km29_zl, ↓km29_zs0, ↓km29_zs1, ↓qb_so, ↓nm_1, ↓nm_2, ↓reduceIte, if_true, if_false, not_true_eq_false, not_false_eq_true, and_true, true_and, and_false, false_and, or_true, true_or, or_false, false_or, eq_self, ne_eq, quI_s, quI_n, quI2, quL1, quL2, quL3, quR1, quR2, quR3, nI_add, pk_mul, pk_sub, Nat.add_sub_cancel, qm1_add, qm2_add, nI_leI, nI_ltI, nI_eq, nI_m1, nI_m1', nI_clamp, nI_bit, nI_one_shl, nI_m1l, nI_m1lt, nI_m1lt', nI_m1le', oI_some, oI_none, ni_0, ni_1, fX12_operand, qle_t, qle_f, qlt_t, qlt_f, qeq_t, qeq_f, l1]
theorem o_isTest (hK : K ≤ 6) : fX12_isTest (nI K) S = some (nI (if K = 1 ∨ K = 5 ∨ K = 6 then 1 else 0)) := by
  rcases (by omega : K = 0 ∨ K = 1 ∨ K = 2 ∨ K = 3 ∨ K = 4 ∨ K = 5 ∨ K = 6) with rfl | rfl | rfl | rfl | rfl | rfl | rfl <;> rfl
theorem stM_bare (h : stM S b f L m e c P o D K H B A) : stM (xuI S 29 (D - 1) (nI 0)) b f L m e c P o D K H 0 A ∧ frN b S (xuI S 29 (D - 1) (nI 0)) ∧ frD D S (xuI S 29 (D - 1) (nI 0)) := by
  obtain ⟨g1, g2, g3, g4, g5, g6, g7, g8, g9, g10, g11, g12⟩ := h
  have hk : ∀ k j, ¬ (k = 29 ∧ j = D - 1) → (xuI S 29 (D - 1) (nI 0)).1 k j = S.1 k j := fun k j x => quI_k x
  exact ⟨⟨tkM_same g1 (fun k j x => hk k j (by omega)) rfl, g2, by rw [hk _ _ (by omega)]; exact g3, by rw [hk _ _ (by omega)]; exact g4, cdM_fr g5 (fun k j x y => hk k j (by omega)), ⟨by rw [hk _ _ (by omega)]; exact g6.1, by rw [hk _ _ (by omega)]; exact g6.2.1, by rw [hk _ _ (by omega)]; exact g6.2.2.1, quI_e, by rw [hk _ _ (by omega)]; exact g6.2.2.2.2⟩, g7, g8, g9, g10, g11, g12⟩, ⟨fun k j x y z => hk k j (by omega), fun _ _ _ => rfl, rfl⟩, fun k j x y z => hk k j (by omega)⟩
/-- where no fact begins -/
theorem o_in (h : stM S b f L m e c P o D K H B A) (hw : kW f L e = none) (hK : K ≤ 6) (hB : B ≤ 1) (hc : isTs K → B = 1 → ¬ iw f L e 28 ∧ ¬ ig f L e 91 ∧ ¬ iw f L e 29) : fX12_operand n 0 S = fX12_operand_B171 n 0 (xuI S 29 (D - 1) (nI 0)) := by
  have h0 := stM_bare h
  obtain ⟨g1, g2, g3, g4, g5, g6, g7, g8, g9, g10, g11, g12⟩ := h
  have hL := g1.1.2.2.1
  have z12 := g1.2.2.2.2.1
  rw [hw] at z12
  have l1 := m_lex0 z12
  have i1 := o_isTest (S := S) hK
  have h47 := g6.1
  have h27 := g6.2.1
  have h29 := g6.2.2.2.1
  have hD : D ≤ 8 := by omega
  have zz := fun (g : xSt → Option (Int32 × xSt)) => m_zs0 (S := S) (g := g) (by omega : D - 1 < 20)
  by_cases ht : K = 1 ∨ K = 5 ∨ K = 6
  · rw [if_pos ht] at i1
    rcases (by omega : B = 0 ∨ B = 1) with rfl | rfl
    · simp (disch := (first | assumption | omega | exact hB _ _ | exact hYB _ _ | (simp only [yc, yd, sh, sv, ne_eq]; omega) | (simp (disch := omega) only [↓nm_1, ↓nm_2, nI_add, pk_mul, pk_sub, Nat.add_sub_cancel, qm1_add, qm2_add, nI_clamp, ni_0, ni_1, ni_2, ni_5, ni_7, ni_30, ni_91, l1, g3, h47, h27, h29, i1, zz]; refine qin_nI ?_ ?_ <;> first | omega | exact hB _ _ | exact hYB _ _) | (refine qin_nI ?_ ?_ <;> omega) | fail)) only [↓km0_gd, ↓km0_gI, ↓km0_gM, ↓km0_pI, ↓km0_pM, ↓km0_pZ, ↓km0_gL, ↓km0_pL, ↓km0_gF42, ↓km0_gF43, ↓km0_gF44, ↓km27_al, ↓km27_as, ↓km27_ln, ↓km28_al, ↓km28_as, ↓km28_ln, ↓km29_zl, ↓km29_zs0, ↓km29_zs1, ↓qb_so, ↓nm_1, ↓nm_2, ↓reduceIte, if_true, if_false, not_true_eq_false, not_false_eq_true, and_true, true_and, and_false, false_and, or_true, true_or, or_false, false_or, eq_self, ne_eq, quI_s, quI_n, quI2, quL1, quL2, quL3, quR1, quR2, quR3, nI_add, pk_mul, pk_sub, Nat.add_sub_cancel, qm1_add, qm2_add, nI_leI, nI_ltI, nI_eq, nI_m1, nI_m1', nI_clamp, nI_bit, nI_one_shl, nI_m1l, nI_m1lt, nI_m1lt', nI_m1le', oI_some, oI_none, ni_0, ni_1, ni_2, ni_5, ni_7, ni_30, ni_91, fX12_operand, fX12_operand_B45, fX12_operand_B46, fX12_operand_B110, fX12_operand_B137, qle_t, qle_f, qlt_t, qlt_f, qeq_t, qeq_f, l1, g3, h47, h27, h29, i1, zz]
    · obtain ⟨c1, c2, c3⟩ := hc ht rfl
      have e1 := w_l28 hL g1 hw
      have e2 := m_isS h0.1.1 (k := 91) (by decide)
      have e3 := w_l29 hL h0.1.1 hw
      rw [if_neg c1] at e1
      rw [if_neg c2] at e2
      rw [if_neg c3] at e3
      simp (disch := (first | assumption | omega | exact hB _ _ | exact hYB _ _ | (simp only [yc, yd, sh, sv, ne_eq]; omega) | (simp (disch := omega) only [↓nm_1, ↓nm_2, nI_add, pk_mul, pk_sub, Nat.add_sub_cancel, qm1_add, qm2_add, nI_clamp, ni_0, ni_1, ni_2, ni_5, ni_7, ni_30, ni_91, l1, g3, h47, h27, h29, i1, zz, e1, e2, e3]; refine qin_nI ?_ ?_ <;> first | omega | exact hB _ _ | exact hYB _ _) | (refine qin_nI ?_ ?_ <;> omega) | fail)) only [↓km0_gd, ↓km0_gI, ↓km0_gM, ↓km0_pI, ↓km0_pM, ↓km0_pZ, ↓km0_gL, ↓km0_pL, ↓km0_gF42, ↓km0_gF43, ↓km0_gF44, ↓km27_al, ↓km27_as, ↓km27_ln, ↓km28_al, ↓km28_as, ↓km28_ln, ↓km29_zl, ↓km29_zs0, ↓km29_zs1, ↓qb_so, ↓nm_1, ↓nm_2, ↓reduceIte, if_true, if_false, not_true_eq_false, not_false_eq_true, and_true, true_and, and_false, false_and, or_true, true_or, or_false, false_or, eq_self, ne_eq, quI_s, quI_n, quI2, quL1, quL2, quL3, quR1, quR2, quR3, nI_add, pk_mul, pk_sub, Nat.add_sub_cancel, qm1_add, qm2_add, nI_leI, nI_ltI, nI_eq, nI_m1, nI_m1', nI_clamp, nI_bit, nI_one_shl, nI_m1l, nI_m1lt, nI_m1lt', nI_m1le', oI_some, oI_none, ni_0, ni_1, ni_2, ni_5, ni_7, ni_30, ni_91, fX12_operand, fX12_operand_B45, fX12_operand_B46, fX12_operand_B110, fX12_operand_B137, qle_t, qle_f, qlt_t, qlt_f, qeq_t, qeq_f, l1, g3, h47, h27, h29, i1, zz, e1, e2, e3]
  · rw [if_neg ht] at i1
    simp (disch := (first | assumption | omega | exact hB _ _ | exact hYB _ _ | (simp only [yc, yd, sh, sv, ne_eq]; omega) | (simp (disch := omega) only [↓nm_1, ↓nm_2, nI_add, pk_mul, pk_sub, Nat.add_sub_cancel, qm1_add, qm2_add, nI_clamp, ni_0, ni_1, ni_2, ni_5, ni_7, ni_30, ni_91, l1, g3, h47, h27, i1, zz]; refine qin_nI ?_ ?_ <;> first | omega | exact hB _ _ | exact hYB _ _) | (refine qin_nI ?_ ?_ <;> omega) | fail)) only [↓km0_gd, ↓km0_gI, ↓km0_gM, ↓km0_pI, ↓km0_pM, ↓km0_pZ, ↓km0_gL, ↓km0_pL, ↓km0_gF42, ↓km0_gF43, ↓km0_gF44, ↓km27_al, ↓km27_as, ↓km27_ln, ↓km28_al, ↓km28_as, ↓km28_ln, ↓km29_zl, ↓km29_zs0, ↓km29_zs1, ↓qb_so, ↓nm_1, ↓nm_2, ↓reduceIte, if_true, if_false, not_true_eq_false, not_false_eq_true, and_true, true_and, and_false, false_and, or_true, true_or, or_false, false_or, eq_self, ne_eq, quI_s, quI_n, quI2, quL1, quL2, quL3, quR1, quR2, quR3, nI_add, pk_mul, pk_sub, Nat.add_sub_cancel, qm1_add, qm2_add, nI_leI, nI_ltI, nI_eq, nI_m1, nI_m1', nI_clamp, nI_bit, nI_one_shl, nI_m1l, nI_m1lt, nI_m1lt', nI_m1le', oI_some, oI_none, ni_0, ni_1, ni_2, ni_5, ni_7, ni_30, ni_91, fX12_operand, fX12_operand_B45, fX12_operand_B46, fX12_operand_B110, fX12_operand_B137, qle_t, qle_f, qlt_t, qlt_f, qeq_t, qeq_f, l1, g3, h47, h27, i1, zz]
end Q9h

