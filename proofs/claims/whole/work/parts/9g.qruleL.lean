/-! ===== the reference reads a rule: min, max, if ===== -/
section Q9g
variable {S Z V : xSt} {n L e m o b d t k a A D K H B r : Nat} {f : Nat → Nat} {c c' : List (Nat × Nat)} {P P' : List Nat} {o' D' K' H' B' A' : Nat}
theorem stX_of (h : stM S b f L m e c P o D K H B A) : stX S b f L m e c P o D K H B A := by
  obtain ⟨g1, g2, g3, g4, g5, g6, g7, g8, g9, g10, g11, g12⟩ := h
  exact ⟨g1, g2, g3, g4, g5, g6, by omega, g8, g9, g10, g11, g12⟩
theorem o_opens1 {kd : Nat} (h8 : S.1 0 8 = nI kd) (hk : 0 < kd) (hk2 : kd < 100) (h48 : S.1 0 48 = nI o) (ho : o ≤ 7) (h4 : S.1 0 4 = nI a) : fX12_opens n 0 (nI K') S = some S := by
  have hk0 : ¬ kd ≤ 0 := by omega
  have e1 := m_blame1 (x := nI 5) (y := nI a) h8 hk hk2
  by_cases h7 : o = 7
  · simp (disch := (first | assumption | omega | exact hB _ _ | exact hYB _ _ | (simp only [yc, yd, sh, sv, ne_eq]; omega) | (simp (disch := omega) only [↓nm_1, ↓nm_2, nI_add, pk_mul, pk_sub, Nat.add_sub_cancel, qm1_add, qm2_add, nI_clamp, ni_0, ni_1, ni_5, ni_7, h48, h7, h8, hk0, h4, e1]; refine qin_nI ?_ ?_ <;> first | omega | exact hB _ _ | exact hYB _ _) | (refine qin_nI ?_ ?_ <;> omega) | fail)) only [↓km0_gd, ↓km0_gI, ↓km0_gM, ↓km0_pI, ↓km0_pM, ↓km0_pZ, ↓km0_gL, ↓km0_pL, ↓qb_so, ↓nm_1, ↓nm_2, ↓reduceIte, if_true, if_false, not_true_eq_false, not_false_eq_true, and_true, true_and, and_false, false_and, or_true, true_or, or_false, false_or, eq_self, ne_eq, quI_s, quI_n, quI2, quL1, quL2, quL3, quR1, quR2, quR3, nI_add, pk_mul, pk_sub, Nat.add_sub_cancel, qm1_add, qm2_add, nI_leI, nI_ltI, nI_eq, nI_m1, nI_m1', nI_clamp, nI_bit, nI_one_shl, nI_m1l, nI_m1lt, nI_m1lt', nI_m1le', oI_some, oI_none, ni_0, ni_1, ni_5, ni_7, fX12_opens, fX12_opens_B18, qle_t, qle_f, qlt_t, qlt_f, qeq_t, qeq_f, h48, h7, h8, hk0, h4, e1]
  · simp (disch := (first | assumption | omega | exact hB _ _ | exact hYB _ _ | (simp only [yc, yd, sh, sv, ne_eq]; omega) | (simp (disch := omega) only [↓nm_1, ↓nm_2, nI_add, pk_mul, pk_sub, Nat.add_sub_cancel, qm1_add, qm2_add, nI_clamp, ni_0, ni_1, ni_5, ni_7, h48, h7, h8, hk0]; refine qin_nI ?_ ?_ <;> first | omega | exact hB _ _ | exact hYB _ _) | (refine qin_nI ?_ ?_ <;> omega) | fail)) only [↓km0_gd, ↓km0_gI, ↓km0_gM, ↓km0_pI, ↓km0_pM, ↓km0_pZ, ↓km0_gL, ↓km0_pL, ↓qb_so, ↓nm_1, ↓nm_2, ↓reduceIte, if_true, if_false, not_true_eq_false, not_false_eq_true, and_true, true_and, and_false, false_and, or_true, true_or, or_false, false_or, eq_self, ne_eq, quI_s, quI_n, quI2, quL1, quL2, quL3, quR1, quR2, quR3, nI_add, pk_mul, pk_sub, Nat.add_sub_cancel, qm1_add, qm2_add, nI_leI, nI_ltI, nI_eq, nI_m1, nI_m1', nI_clamp, nI_bit, nI_one_shl, nI_m1l, nI_m1lt, nI_m1lt', nI_m1le', oI_some, oI_none, ni_0, ni_1, ni_5, ni_7, fX12_opens, fX12_opens_B18, qle_t, qle_f, qlt_t, qlt_f, qeq_t, qeq_f, h48, h7, h8, hk0]
theorem o_B249 {q : Nat} (hn : 2000 ≤ n) (h : stM S b f L m e c P o D K H B A) (hT : kT f L e ≠ 0) (hq : (q = 9 ∧ K' = 3) ∨ (q = 10 ∧ K' = 3) ∨ (q = 3 ∧ K' = 6)) :
    (ig f L (kE f L e) 40 → o < 7 → ∃ Z, fX12_operand_B249 n 0 (nI (mSort (q, 0))) S = some (nI 0, Z) ∧ stM Z b f L m (kE f L (kE f L e)) c P (o + 1) (D + 1) K' 0 1 P.length ∧ Z.1 30 D = nI (mSort (q, 0)) ∧ frN b S Z ∧ (∀ k j, 27 ≤ k → k ≤ 31 → j < D → Z.1 k j = S.1 k j) ∧ Z.1 0 51 = S.1 0 51) ∧
    (ig f L (kE f L e) 40 → o = 7 → ∃ Z, fX12_operand_B249 n 0 (nI (mSort (q, 0))) S = some (nI 0, Z) ∧ flM b S 5 (kS f L (kE f L e)) Z) ∧
    (¬ ig f L (kE f L e) 40 → ∃ Z, fX12_operand_B249 n 0 (nI (mSort (q, 0))) S = some (nI 0, Z) ∧ flM b S 1 (kP f L (kE f L e)) Z) := by
  obtain ⟨Z, z1, z2, z3⟩ := s_ahead hn (stX_of h) hT
  have hD : D ≤ 8 := by have := h.2.2.2.2.2.2.2.2.2.2; omega
  have z8 := z2.2.2.1
  have z4 := z2.1.2.2.1
  have z12 := z2.1.2.2.2.2.1
  have z48 := z2.2.2.2.2.1.2.2.2.1
  have z51 : Z.1 0 51 = S.1 0 51 := z3.1 _ _ (by omega)
  have ho : o ≤ 7 := h.2.2.2.2.2.2.2.2.2.2.1
  have eS := m_isS z2.1 (k := 40) (by decide)
  have hms : mSort (q, 0) < 50 ∧ (mSort (q, 0) = 44 ↔ K' = 6) ∧ (mSort (q, 0) ≠ 44 → K' = 3) := by
    rcases hq with ⟨rfl, rfl⟩ | ⟨rfl, rfl⟩ | ⟨rfl, rfl⟩
    · exact ⟨by decide, by decide, by decide⟩
    · exact ⟨by decide, by decide, by decide⟩
    · exact ⟨by decide, by decide, by decide⟩
  have e276 : ∀ V, fX12_operand_B276 n 0 (nI (mSort (q, 0))) V = fX12_operand_B289 n 0 (nI (mSort (q, 0))) 0 (nI K') V := by
    intro V
    rcases hq with ⟨rfl, rfl⟩ | ⟨rfl, rfl⟩ | ⟨rfl, rfl⟩ <;> rfl
  have flt : ∀ p, p < 2 ^ 31 → fX12_operand_B276 n 0 (nI (mSort (q, 0))) (xuI (xuI Z 0 8 (nI 1)) 0 9 (nI p)) = some (nI 0, xuI (xuI Z 0 8 (nI 1)) 0 9 (nI p)) := by
    intro p hp
    have y8 : (xuI (xuI Z 0 8 (nI 1)) 0 9 (nI p)).1 0 8 = nI 1 := by rw [quI_k (by omega), quI_e]
    have e1 := o_opens1 (n := n) (K' := K') y8 (by decide) (by decide) (by rw [quI_k (by omega), quI_k (by omega)]; exact z48) ho (by rw [quI_k (by omega), quI_k (by omega)]; exact z4)
    rw [e276]
    simp (disch := (first | assumption | omega | exact hB _ _ | exact hYB _ _ | (simp only [yc, yd, sh, sv, ne_eq]; omega) | (simp (disch := omega) only [↓nm_1, ↓nm_2, nI_add, pk_mul, pk_sub, Nat.add_sub_cancel, qm1_add, qm2_add, nI_clamp, ni_0, ni_1, e1]; refine qin_nI ?_ ?_ <;> first | omega | exact hB _ _ | exact hYB _ _) | (refine qin_nI ?_ ?_ <;> omega) | fail)) only [↓km0_gd, ↓km0_gI, ↓km0_gM, ↓km0_pI, ↓km0_pM, ↓km0_pZ, ↓km0_gL, ↓km0_pL, ↓km0_gF45, ↓km30_al, ↓km30_as, ↓km30_ln, ↓qb_so, ↓nm_1, ↓nm_2, ↓reduceIte, if_true, if_false, not_true_eq_false, not_false_eq_true, and_true, true_and, and_false, false_and, or_true, true_or, or_false, false_or, eq_self, ne_eq, quI_s, quI_n, quI2, quL1, quL2, quL3, quR1, quR2, quR3, nI_add, pk_mul, pk_sub, Nat.add_sub_cancel, qm1_add, qm2_add, nI_leI, nI_ltI, nI_eq, nI_m1, nI_m1', nI_clamp, nI_bit, nI_one_shl, nI_m1l, nI_m1lt, nI_m1lt', nI_m1le', oI_some, oI_none, ni_0, ni_1, fX12_operand_B289, qle_t, qle_f, qlt_t, qlt_f, qeq_t, qeq_f, e1]
  refine ⟨fun hg h7 => ?_, fun hg h7 => ?_, fun hg => ?_⟩
  · rw [if_pos hg] at eS
    have hw := ig_W hg
    rw [hw] at z12
    have l1 := m_lex0 z12
    obtain ⟨W, w1, w2, w3, w4, w5⟩ := o_opens (K' := K') hn z2 (ig_T hg) h7
    have w8 := w2.2.2.1
    have w47 := w2.2.2.2.2.2.1.1
    have hk : ∀ k j, ¬ (k = 30 ∧ j = D) → (xuI W 30 D (nI (mSort (q, 0)))).1 k j = W.1 k j := fun k j x => quI_k x
    refine ⟨xuI W 30 D (nI (mSort (q, 0))), ?_, ?_, quI_e, ?_, ?_, ?_⟩
    · simp (disch := (first | assumption | omega | exact hB _ _ | exact hYB _ _ | (simp only [yc, yd, sh, sv, ne_eq]; omega) | (simp (disch := omega) only [↓nm_1, ↓nm_2, nI_add, pk_mul, pk_sub, Nat.add_sub_cancel, qm1_add, qm2_add, nI_clamp, ni_0, ni_1, ni_40, z1, l1, eS, e276, w1, w8, w47]; refine qin_nI ?_ ?_ <;> first | omega | exact hB _ _ | exact hYB _ _) | (refine qin_nI ?_ ?_ <;> omega) | fail)) only [↓km0_gd, ↓km0_gI, ↓km0_gM, ↓km0_pI, ↓km0_pM, ↓km0_pZ, ↓km0_gL, ↓km0_pL, ↓km0_gF45, ↓km30_al, ↓km30_as, ↓km30_ln, ↓qb_so, ↓nm_1, ↓nm_2, ↓reduceIte, if_true, if_false, not_true_eq_false, not_false_eq_true, and_true, true_and, and_false, false_and, or_true, true_or, or_false, false_or, eq_self, ne_eq, quI_s, quI_n, quI2, quL1, quL2, quL3, quR1, quR2, quR3, nI_add, pk_mul, pk_sub, Nat.add_sub_cancel, qm1_add, qm2_add, nI_leI, nI_ltI, nI_eq, nI_m1, nI_m1', nI_clamp, nI_bit, nI_one_shl, nI_m1l, nI_m1lt, nI_m1lt', nI_m1le', oI_some, oI_none, ni_0, ni_1, ni_40, fX12_operand_B249, fX12_operand_B289, qle_t, qle_f, qlt_t, qlt_f, qeq_t, qeq_f, z1, l1, eS, e276, w1, w8, w47]
    · obtain ⟨g1, g2, g3, g4, g5, g6, g7, g8, g9, g10, g11, g12⟩ := w2
      exact ⟨tkM_same g1 (fun k j x => hk k j (by omega)) rfl, g2, by rw [hk _ _ (by omega)]; exact g3, by rw [hk _ _ (by omega)]; exact g4, cdM_fr g5 (fun k j x y => hk k j (by omega)), ⟨by rw [hk _ _ (by omega)]; exact g6.1, by rw [hk _ _ (by omega)]; exact g6.2.1, by rw [hk _ _ (by omega)]; exact g6.2.2.1, by rw [hk _ _ (by omega)]; exact g6.2.2.2.1, by rw [hk _ _ (by omega)]; exact g6.2.2.2.2⟩, g7, g8, g9, g10, g11, g12⟩
    · exact frN_trans (frN_M z3) (frN_trans w3 ⟨fun k j x y z => hk k j (by omega), fun _ _ _ => rfl, rfl⟩)
    · intro k j x y z
      rw [hk _ _ (by omega), w4 k j x y z, z3.1 k j (by omega)]
    · rw [hk _ _ (by omega), w5, z51]
  · subst h7
    rw [if_pos hg] at eS
    have hw := ig_W hg
    rw [hw] at z12
    have l1 := m_lex0 z12
    obtain ⟨W, w1, w2⟩ := o_opensF (n := n) (K' := K') z2
    have w8 := w2.1
    refine ⟨W, ?_, flM_pre (frN_M z3) w2⟩
    simp (disch := (first | assumption | omega | exact hB _ _ | exact hYB _ _ | (simp only [yc, yd, sh, sv, ne_eq]; omega) | (simp (disch := omega) only [↓nm_1, ↓nm_2, nI_add, pk_mul, pk_sub, Nat.add_sub_cancel, qm1_add, qm2_add, nI_clamp, ni_0, ni_1, ni_40, z1, l1, eS, e276, w1, w8]; refine qin_nI ?_ ?_ <;> first | omega | exact hB _ _ | exact hYB _ _) | (refine qin_nI ?_ ?_ <;> omega) | fail)) only [↓km0_gd, ↓km0_gI, ↓km0_gM, ↓km0_pI, ↓km0_pM, ↓km0_pZ, ↓km0_gL, ↓km0_pL, ↓km0_gF45, ↓km30_al, ↓km30_as, ↓km30_ln, ↓qb_so, ↓nm_1, ↓nm_2, ↓reduceIte, if_true, if_false, not_true_eq_false, not_false_eq_true, and_true, true_and, and_false, false_and, or_true, true_or, or_false, false_or, eq_self, ne_eq, quI_s, quI_n, quI2, quL1, quL2, quL3, quR1, quR2, quR3, nI_add, pk_mul, pk_sub, Nat.add_sub_cancel, qm1_add, qm2_add, nI_leI, nI_ltI, nI_eq, nI_m1, nI_m1', nI_clamp, nI_bit, nI_one_shl, nI_m1l, nI_m1lt, nI_m1lt', nI_m1le', oI_some, oI_none, ni_0, ni_1, ni_40, fX12_operand_B249, fX12_operand_B289, qle_t, qle_f, qlt_t, qlt_f, qeq_t, qeq_f, z1, l1, eS, e276, w1, w8]
  · rw [if_neg hg] at eS
    cases hw : kW f L (kE f L e) with
    | none =>
      have hP : kP f L (kE f L e) = kS f L (kE f L e) := by unfold kP; rw [hw]
      rw [hw] at z12
      have l1 := m_lex0 z12
      have b1 := m_blame (k := 1) (p := kS f L (kE f L e)) z8
      have hse : kS f L (kE f L e) ≤ L := s_sk_le (f := f) (L := L) 1600 _ z2.2.1
      have hL := z2.1.1.2.2.1
      have f1 := flt (kS f L (kE f L e)) (by omega)
      rw [hP]
      refine ⟨_, ?_, flM_pre (frN_M z3) flM_up⟩
      simp (disch := (first | assumption | omega | exact hB _ _ | exact hYB _ _ | (simp only [yc, yd, sh, sv, ne_eq]; omega) | (simp (disch := omega) only [↓nm_1, ↓nm_2, nI_add, pk_mul, pk_sub, Nat.add_sub_cancel, qm1_add, qm2_add, nI_clamp, ni_0, ni_1, ni_40, z1, l1, eS, z4, b1, f1]; refine qin_nI ?_ ?_ <;> first | omega | exact hB _ _ | exact hYB _ _) | (refine qin_nI ?_ ?_ <;> omega) | fail)) only [↓km0_gd, ↓km0_gI, ↓km0_gM, ↓km0_pI, ↓km0_pM, ↓km0_pZ, ↓km0_gL, ↓km0_pL, ↓qb_so, ↓nm_1, ↓nm_2, ↓reduceIte, if_true, if_false, not_true_eq_false, not_false_eq_true, and_true, true_and, and_false, false_and, or_true, true_or, or_false, false_or, eq_self, ne_eq, quI_s, quI_n, quI2, quL1, quL2, quL3, quR1, quR2, quR3, nI_add, pk_mul, pk_sub, Nat.add_sub_cancel, qm1_add, qm2_add, nI_leI, nI_ltI, nI_eq, nI_m1, nI_m1', nI_clamp, nI_bit, nI_one_shl, nI_m1l, nI_m1lt, nI_m1lt', nI_m1le', oI_some, oI_none, ni_0, ni_1, ni_40, fX12_operand_B249, qle_t, qle_f, qlt_t, qlt_f, qeq_t, qeq_f, z1, l1, eS, z4, b1, f1]
    | some p =>
      have hP : kP f L (kE f L e) = p := by unfold kP; rw [hw]
      rw [hw] at z12
      have z12' : Z.1 0 12 = nI p := z12
      have hp : p < 2 ^ 31 := by
        have hke := kE_le (f := f) (L := L) z2.2.1
        have hL := z2.1.1.2.2.1
        have hse : kS f L (kE f L e) ≤ L := s_sk_le (f := f) (L := L) 1600 _ z2.2.1
        unfold kW at hw
        repeat' split at hw
        all_goals first | (cases hw; omega) | cases hw
      have l1 := m_lex1 hp z12' z8
      have y8 : (xuI (xuI Z 0 8 (nI 1)) 0 9 (nI p)).1 0 8 = nI 1 := by rw [quI_k (by omega), quI_e]
      have eS' : fX12_isSign 0 (nI 40) (xuI (xuI Z 0 8 (nI 1)) 0 9 (nI p)) = some (nI 0) := by
        have t1 : fX12_isSign 0 (nI 40) (xuI (xuI Z 0 8 (nI 1)) 0 9 (nI p)) = fX12_isSign 0 (nI 40) Z := rfl
        have := m_isS z2.1 (k := 40) (by decide)
        rw [if_neg hg] at this
        rw [t1]
        exact this
      have b1 := fun y => m_blame1 (x := nI 1) (y := y) y8 (by decide) (by decide)
      have f1 := flt p hp
      rw [hP]
      refine ⟨_, ?_, flM_pre (frN_M z3) flM_up⟩
      simp (disch := (first | assumption | omega | exact hB _ _ | exact hYB _ _ | (simp only [yc, yd, sh, sv, ne_eq]; omega) | (simp (disch := omega) only [↓nm_1, ↓nm_2, nI_add, pk_mul, pk_sub, Nat.add_sub_cancel, qm1_add, qm2_add, nI_clamp, ni_0, ni_1, ni_40, z1, l1, eS', b1, f1]; refine qin_nI ?_ ?_ <;> first | omega | exact hB _ _ | exact hYB _ _) | (refine qin_nI ?_ ?_ <;> omega) | fail)) only [↓km0_gd, ↓km0_gI, ↓km0_gM, ↓km0_pI, ↓km0_pM, ↓km0_pZ, ↓km0_gL, ↓km0_pL, ↓qb_so, ↓nm_1, ↓nm_2, ↓reduceIte, if_true, if_false, not_true_eq_false, not_false_eq_true, and_true, true_and, and_false, false_and, or_true, true_or, or_false, false_or, eq_self, ne_eq, quI_s, quI_n, quI2, quL1, quL2, quL3, quR1, quR2, quR3, nI_add, pk_mul, pk_sub, Nat.add_sub_cancel, qm1_add, qm2_add, nI_leI, nI_ltI, nI_eq, nI_m1, nI_m1', nI_clamp, nI_bit, nI_one_shl, nI_m1l, nI_m1lt, nI_m1lt', nI_m1le', oI_some, oI_none, ni_0, ni_1, ni_40, fX12_operand_B249, qle_t, qle_f, qlt_t, qlt_f, qeq_t, qeq_f, z1, l1, eS', b1, f1]
end Q9g

