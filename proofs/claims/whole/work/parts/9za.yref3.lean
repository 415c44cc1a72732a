/-! ===== the reference: one that is asked for, a round, opening a statement ===== -/
section Q9za
variable {S Z V W : xSt} {n L e m o b d t k a s w lo hi j r kd pl : Nat} {u : Option Nat} {f : Nat → Nat} {cc mc wc : List (Nat × Nat)} {Y Y' : Nat → Nat → Nat}
theorem mt_A {x : Int32} (hn : 2000 ≤ n) (hb : b < 2) (hY : yrOk Y) (hN : yJn Y) (hs : s < 4) (hx : ∀ i V, i < 8 → fX12_has2 x (nI i) V = some (nI (if u = some i then 1 else 0))) (h40 : S.1 0 40 = nI b) (hI : mI S b Y) (he : e ≤ L) (h : tkM S f L e) (h8 : S.1 0 8 = nI 0) : nOk S f L e (tA f L Y s u e) (fX12_askedBut n 0 (nI s) x S) := by
  have hke := kE_from (f := f) he
  have hL := h.1.2.2.1
  have h3 := h.2.1
  have h4 := h.2.2.1
  have t3 := kT_le (f := f) (L := L) (e := e)
  have hs8 : Y 2 s ≤ 8 := by
    obtain ⟨a0, a1, a2, a3⟩ := hY.1
    rcases (by omega : s = 0 ∨ s = 1 ∨ s = 2 ∨ s = 3) with rfl | rfl | rfl | rfl <;> omega
  have b3 := m_blame (k := 3) (p := kS f L e) h8
  have y3 : (xuI (xuI S 0 8 (nI 3)) 0 9 (nI (kS f L e))).1 0 8 = nI 3 := flR_8
  unfold tA
  by_cases hw : kW f L e = none
  · have z12 := h.2.2.2.2.1
    rw [hw] at z12
    have l1 := m_lex0 z12
    by_cases hi : isNm f L e
    · rw [if_pos hi]
      obtain ⟨g7, q2, q3, q4⟩ := nm_tok (V := S) hL h hi
      rw [hi.2.1] at h3
      have e1 := m_nmd hn hb hY hN hs h40 hI q2 q3
      cases hf : s_fd Y s (kV f L e) with
      | none =>
        rw [hf] at e1
        have e1' : fX12_named n 0 (nI s) (lN (s_long (kV f L e))) S = some qm1 := e1
        refine ⟨⟨by decide, by decide⟩, nI 0, ?_⟩
        unfold flR
        simp (maxSteps := 3000000) (disch := (first | assumption | omega | exact hB _ _ | exact hYB _ _ | (simp only [yc, yd, sh, sv, ne_eq]; omega) | (simp (disch := omega) only [↓nm_1, ↓nm_2, nI_add, pk_mul, pk_sub, Nat.add_sub_cancel, qm1_add, qm2_add, nI_clamp, ni_0, ni_1, ni_3, l1, h8, h3, h4, g7, q4, e1', b3, y3]; refine qin_nI ?_ ?_ <;> first | omega | exact hB _ _ | exact hYB _ _) | (refine qin_nI ?_ ?_ <;> omega) | fail)) only [↓km0_gd, ↓km0_gI, ↓km0_gM, ↓km0_pI, ↓km0_pM, ↓km0_pZ, ↓km0_gL, ↓km0_pL, ↓qb_so, ↓nm_1, ↓nm_2, ↓reduceIte, if_true, if_false, not_true_eq_false, not_false_eq_true, and_true, true_and, and_false, false_and, or_true, true_or, or_false, false_or, eq_self, ne_eq, quI_s, quI_n, quI2, quL1, quL2, quL3, quR1, quR2, quR3, nI_add, pk_mul, pk_sub, Nat.add_sub_cancel, qm1_add, qm2_add, nI_leI, nI_ltI, nI_eq, nI_m1, nI_m1', nI_clamp, nI_bit, nI_one_shl, nI_m1l, nI_m1lt, nI_m1lt', nI_m1le', oI_some, oI_none, ni_0, ni_1, ni_3, fX12_askedBut, fX12_askedBut_B41, fX12_askedBut_B61, fX12_askedBut_B82, fX12_askedBut_B91, qle_t, qle_f, qlt_t, qlt_f, qeq_t, qeq_f, l1, h8, h3, h4, g7, q4, e1', b3, y3]
      | some i =>
        rw [hf] at e1
        have hil := s_fd_lt hf
        have i8 : i < 8 := by omega
        have e1' : fX12_named n 0 (nI s) (lN (s_long (kV f L e))) S = some (nI i) := e1
        have hx' := hx i S i8
        show nOk S f L e (if u = some i then .inl (3, kS f L e) else .inr (i, kE f L e)) _
        by_cases hu : u = some i
        · rw [if_pos hu] at hx' ⊢
          refine ⟨⟨by decide, by decide⟩, nI 0, ?_⟩
          unfold flR
          simp (maxSteps := 3000000) (disch := (first | assumption | omega | exact hB _ _ | exact hYB _ _ | (simp only [yc, yd, sh, sv, ne_eq]; omega) | (simp (disch := omega) only [↓nm_1, ↓nm_2, nI_add, pk_mul, pk_sub, Nat.add_sub_cancel, qm1_add, qm2_add, nI_clamp, ni_0, ni_1, ni_3, l1, h8, h3, h4, g7, q4, e1', hx', b3, y3]; refine qin_nI ?_ ?_ <;> first | omega | exact hB _ _ | exact hYB _ _) | (refine qin_nI ?_ ?_ <;> omega) | fail)) only [↓km0_gd, ↓km0_gI, ↓km0_gM, ↓km0_pI, ↓km0_pM, ↓km0_pZ, ↓km0_gL, ↓km0_pL, ↓qb_so, ↓nm_1, ↓nm_2, ↓reduceIte, if_true, if_false, not_true_eq_false, not_false_eq_true, and_true, true_and, and_false, false_and, or_true, true_or, or_false, false_or, eq_self, ne_eq, quI_s, quI_n, quI2, quL1, quL2, quL3, quR1, quR2, quR3, nI_add, pk_mul, pk_sub, Nat.add_sub_cancel, qm1_add, qm2_add, nI_leI, nI_ltI, nI_eq, nI_m1, nI_m1', nI_clamp, nI_bit, nI_one_shl, nI_m1l, nI_m1lt, nI_m1lt', nI_m1le', oI_some, oI_none, ni_0, ni_1, ni_3, fX12_askedBut, fX12_askedBut_B41, fX12_askedBut_B61, fX12_askedBut_B82, fX12_askedBut_B91, qle_t, qle_f, qlt_t, qlt_f, qeq_t, qeq_f, l1, h8, h3, h4, g7, q4, e1', hx', b3, y3]
        · rw [if_neg hu] at hx' ⊢
          obtain ⟨Z, z1, z2, z3⟩ := m_ahead hn h.1 h.2.2.2.1 hke.2
          have z8 : Z.1 0 8 = nI 0 := by rw [z3.1 _ _ (by omega)]; exact h8
          refine ⟨Z, ?_, z2, hke.2, hke.1, z3⟩
          simp (maxSteps := 3000000) (disch := (first | assumption | omega | exact hB _ _ | exact hYB _ _ | (simp only [yc, yd, sh, sv, ne_eq]; omega) | (simp (disch := omega) only [↓nm_1, ↓nm_2, nI_add, pk_mul, pk_sub, Nat.add_sub_cancel, qm1_add, qm2_add, nI_clamp, ni_0, ni_1, l1, h8, h3, h4, g7, q4, e1', hx', z1, z8]; refine qin_nI ?_ ?_ <;> first | omega | exact hB _ _ | exact hYB _ _) | (refine qin_nI ?_ ?_ <;> omega) | fail)) only [↓km0_gd, ↓km0_gI, ↓km0_gM, ↓km0_pI, ↓km0_pM, ↓km0_pZ, ↓km0_gL, ↓km0_pL, ↓qb_so, ↓nm_1, ↓nm_2, ↓reduceIte, if_true, if_false, not_true_eq_false, not_false_eq_true, and_true, true_and, and_false, false_and, or_true, true_or, or_false, false_or, eq_self, ne_eq, quI_s, quI_n, quI2, quL1, quL2, quL3, quR1, quR2, quR3, nI_add, pk_mul, pk_sub, Nat.add_sub_cancel, qm1_add, qm2_add, nI_leI, nI_ltI, nI_eq, nI_m1, nI_m1', nI_clamp, nI_bit, nI_one_shl, nI_m1l, nI_m1lt, nI_m1lt', nI_m1le', oI_some, oI_none, ni_0, ni_1, fX12_askedBut, fX12_askedBut_B41, fX12_askedBut_B61, fX12_askedBut_B91, qle_t, qle_f, qlt_t, qlt_f, qeq_t, qeq_f, l1, h8, h3, h4, g7, q4, e1', hx', z1, z8]
    · rw [if_neg hi, wk_none hw]
      refine ⟨⟨by decide, by decide⟩, nI 0, ?_⟩
      have b1 := m_blame (k := 1) (p := kS f L e) h8
      have y8 : (xuI (xuI S 0 8 (nI 1)) 0 9 (nI (kS f L e))).1 0 8 = nI 1 := flR_8
      by_cases hT : kT f L e = 1
      · have q4 := nm_not (V := S) hL h hw hT hi
        rw [hT] at h3
        unfold flR
        simp (maxSteps := 3000000) (disch := (first | assumption | omega | exact hB _ _ | exact hYB _ _ | (simp only [yc, yd, sh, sv, ne_eq]; omega) | (simp (disch := omega) only [↓nm_1, ↓nm_2, nI_add, pk_mul, pk_sub, Nat.add_sub_cancel, qm1_add, qm2_add, nI_clamp, ni_0, ni_1, l1, h8, h3, h4, q4, b1, y8]; refine qin_nI ?_ ?_ <;> first | omega | exact hB _ _ | exact hYB _ _) | (refine qin_nI ?_ ?_ <;> omega) | fail)) only [↓km0_gd, ↓km0_gI, ↓km0_gM, ↓km0_pI, ↓km0_pM, ↓km0_pZ, ↓km0_gL, ↓km0_pL, ↓qb_so, ↓nm_1, ↓nm_2, ↓reduceIte, if_true, if_false, not_true_eq_false, not_false_eq_true, and_true, true_and, and_false, false_and, or_true, true_or, or_false, false_or, eq_self, ne_eq, quI_s, quI_n, quI2, quL1, quL2, quL3, quR1, quR2, quR3, nI_add, pk_mul, pk_sub, Nat.add_sub_cancel, qm1_add, qm2_add, nI_leI, nI_ltI, nI_eq, nI_m1, nI_m1', nI_clamp, nI_bit, nI_one_shl, nI_m1l, nI_m1lt, nI_m1lt', nI_m1le', oI_some, oI_none, ni_0, ni_1, fX12_askedBut, fX12_askedBut_B32, fX12_askedBut_B41, fX12_askedBut_B61, fX12_askedBut_B91, qle_t, qle_f, qlt_t, qlt_f, qeq_t, qeq_f, l1, h8, h3, h4, q4, b1, y8]
      · unfold flR
        simp (maxSteps := 3000000) (disch := (first | assumption | omega | exact hB _ _ | exact hYB _ _ | (simp only [yc, yd, sh, sv, ne_eq]; omega) | (simp (disch := omega) only [↓nm_1, ↓nm_2, nI_add, pk_mul, pk_sub, Nat.add_sub_cancel, qm1_add, qm2_add, nI_clamp, ni_0, ni_1, l1, h8, h3, h4, hT, b1, y8]; refine qin_nI ?_ ?_ <;> first | omega | exact hB _ _ | exact hYB _ _) | (refine qin_nI ?_ ?_ <;> omega) | fail)) only [↓km0_gd, ↓km0_gI, ↓km0_gM, ↓km0_pI, ↓km0_pM, ↓km0_pZ, ↓km0_gL, ↓km0_pL, ↓qb_so, ↓nm_1, ↓nm_2, ↓reduceIte, if_true, if_false, not_true_eq_false, not_false_eq_true, and_true, true_and, and_false, false_and, or_true, true_or, or_false, false_or, eq_self, ne_eq, quI_s, quI_n, quI2, quL1, quL2, quL3, quR1, quR2, quR3, nI_add, pk_mul, pk_sub, Nat.add_sub_cancel, qm1_add, qm2_add, nI_leI, nI_ltI, nI_eq, nI_m1, nI_m1', nI_clamp, nI_bit, nI_one_shl, nI_m1l, nI_m1lt, nI_m1lt', nI_m1le', oI_some, oI_none, ni_0, ni_1, fX12_askedBut, fX12_askedBut_B32, fX12_askedBut_B41, fX12_askedBut_B61, fX12_askedBut_B91, qle_t, qle_f, qlt_t, qlt_f, qeq_t, qeq_f, l1, h8, h3, h4, hT, b1, y8]
  · rw [if_neg (fun hh => hw hh.1)]
    have l1 := m_lexw he h h8 hw
    have y8 := flR_8 (S := S) (kd := 1) (pl := kP f L e)
    refine ⟨⟨by decide, by decide⟩, nI 0, ?_⟩
    simp (maxSteps := 3000000) (disch := (first | assumption | omega | exact hB _ _ | exact hYB _ _ | (simp only [yc, yd, sh, sv, ne_eq]; omega) | (simp (disch := omega) only [↓nm_1, ↓nm_2, nI_add, pk_mul, pk_sub, Nat.add_sub_cancel, qm1_add, qm2_add, nI_clamp, ni_0, ni_1, l1, y8]; refine qin_nI ?_ ?_ <;> first | omega | exact hB _ _ | exact hYB _ _) | (refine qin_nI ?_ ?_ <;> omega) | fail)) only [↓km0_gd, ↓km0_gI, ↓km0_gM, ↓km0_pI, ↓km0_pM, ↓km0_pZ, ↓km0_gL, ↓km0_pL, ↓qb_so, ↓nm_1, ↓nm_2, ↓reduceIte, if_true, if_false, not_true_eq_false, not_false_eq_true, and_true, true_and, and_false, false_and, or_true, true_or, or_false, false_or, eq_self, ne_eq, quI_s, quI_n, quI2, quL1, quL2, quL3, quR1, quR2, quR3, nI_add, pk_mul, pk_sub, Nat.add_sub_cancel, qm1_add, qm2_add, nI_leI, nI_ltI, nI_eq, nI_m1, nI_m1', nI_clamp, nI_bit, nI_one_shl, nI_m1l, nI_m1lt, nI_m1lt', nI_m1le', oI_some, oI_none, ni_0, ni_1, fX12_askedBut, qle_t, qle_f, qlt_t, qlt_f, qeq_t, qeq_f, l1, y8]
theorem has0 (i : Nat) (V : xSt) (hi : i < 8) : fX12_has2 (nI 0) (nI i) V = some (nI (if (none : Option Nat) = some i then 1 else 0)) := by
  rw [if_neg (by intro h; cases h)]
  rcases (by omega : i = 0 ∨ i = 1 ∨ i = 2 ∨ i = 3 ∨ i = 4 ∨ i = 5 ∨ i = 6 ∨ i = 7) with rfl | rfl | rfl | rfl | rfl | rfl | rfl | rfl <;> rfl
theorem has1 {a : Nat} (ha : a < 6) (i : Nat) (V : xSt) (hi : i < 8) : fX12_has2 (nI 1 <<< (nI a &&& 31)) (nI i) V = some (nI (if some a = some i then 1 else 0)) := by
  rcases (by omega : a = 0 ∨ a = 1 ∨ a = 2 ∨ a = 3 ∨ a = 4 ∨ a = 5) with rfl | rfl | rfl | rfl | rfl | rfl <;>
  rcases (by omega : i = 0 ∨ i = 1 ∨ i = 2 ∨ i = 3 ∨ i = 4 ∨ i = 5 ∨ i = 6 ∨ i = 7) with rfl | rfl | rfl | rfl | rfl | rfl | rfl | rfl <;> rfl
/-- a statement is opened -/
theorem mt_C {x : Nat} (hn : 2000 ≤ n) (he : e ≤ L) (h : tkM S f L e) (h8 : S.1 0 8 = nI 0) (hx : x ≤ 1) : (x = 1 → fX12_counts n 0 (nI x) S = some (nI 0, flR S 6 (kS f L e))) ∧ (x = 0 → ∃ Z, fX12_counts n 0 (nI x) S = some (nI 1, Z) ∧ tkM Z f L (kE f L e) ∧ frM S Z) := by
  have hke := kE_from (f := f) he
  have h4 := h.2.2.1
  refine ⟨fun hx => ?_, fun hx => ?_⟩
  · subst hx
    have b1 := m_blame (k := 6) (p := kS f L e) h8
    have y8 : (xuI (xuI S 0 8 (nI 6)) 0 9 (nI (kS f L e))).1 0 8 = nI 6 := flR_8
    unfold flR
    simp (disch := (first | assumption | omega | exact hB _ _ | exact hYB _ _ | (simp only [yc, yd, sh, sv, ne_eq]; omega) | (simp (disch := omega) only [↓nm_1, ↓nm_2, nI_add, pk_mul, pk_sub, Nat.add_sub_cancel, qm1_add, qm2_add, nI_clamp, ni_0, ni_1, ni_6, h8, h4, b1, y8]; refine qin_nI ?_ ?_ <;> first | omega | exact hB _ _ | exact hYB _ _) | (refine qin_nI ?_ ?_ <;> omega) | fail)) only [↓km0_gd, ↓km0_gI, ↓km0_gM, ↓km0_pI, ↓km0_pM, ↓km0_pZ, ↓km0_gL, ↓km0_pL, ↓qb_so, ↓nm_1, ↓nm_2, ↓reduceIte, if_true, if_false, not_true_eq_false, not_false_eq_true, and_true, true_and, and_false, false_and, or_true, true_or, or_false, false_or, eq_self, ne_eq, quI_s, quI_n, quI2, quL1, quL2, quL3, quR1, quR2, quR3, nI_add, pk_mul, pk_sub, Nat.add_sub_cancel, qm1_add, qm2_add, nI_leI, nI_ltI, nI_eq, nI_m1, nI_m1', nI_clamp, nI_bit, nI_one_shl, nI_m1l, nI_m1lt, nI_m1lt', nI_m1le', oI_some, oI_none, ni_0, ni_1, ni_6, fX12_counts, fX12_counts_B21, qle_t, qle_f, qlt_t, qlt_f, qeq_t, qeq_f, h8, h4, b1, y8]
  · subst hx
    obtain ⟨Z, z1, z2, z3⟩ := m_ahead hn h.1 h.2.2.2.1 hke.2
    have z8 : Z.1 0 8 = nI 0 := by rw [z3.1 _ _ (by omega)]; exact h8
    refine ⟨Z, ?_, z2, z3⟩
    simp (disch := (first | assumption | omega | exact hB _ _ | exact hYB _ _ | (simp only [yc, yd, sh, sv, ne_eq]; omega) | (simp (disch := omega) only [↓nm_1, ↓nm_2, nI_add, pk_mul, pk_sub, Nat.add_sub_cancel, qm1_add, qm2_add, nI_clamp, ni_0, ni_1, ni_6, h8, z1, z8]; refine qin_nI ?_ ?_ <;> first | omega | exact hB _ _ | exact hYB _ _) | (refine qin_nI ?_ ?_ <;> omega) | fail)) only [↓km0_gd, ↓km0_gI, ↓km0_gM, ↓km0_pI, ↓km0_pM, ↓km0_pZ, ↓km0_gL, ↓km0_pL, ↓qb_so, ↓nm_1, ↓nm_2, ↓reduceIte, if_true, if_false, not_true_eq_false, not_false_eq_true, and_true, true_and, and_false, false_and, or_true, true_or, or_false, false_or, eq_self, ne_eq, quI_s, quI_n, quI2, quL1, quL2, quL3, quR1, quR2, quR3, nI_add, pk_mul, pk_sub, Nat.add_sub_cancel, qm1_add, qm2_add, nI_leI, nI_ltI, nI_eq, nI_m1, nI_m1', nI_clamp, nI_bit, nI_one_shl, nI_m1l, nI_m1lt, nI_m1lt', nI_m1le', oI_some, oI_none, ni_0, ni_1, ni_6, fX12_counts, fX12_counts_B21, qle_t, qle_f, qlt_t, qlt_f, qeq_t, qeq_f, h8, z1, z8]
/-- a day, and of how many -/
def rOk (S : xSt) (b : Nat) (f : Nat → Nat) (L e : Nat) (R : Sum (Nat × Nat) (Nat × Nat × Nat)) (F : Option (Int32 × xSt)) : Prop := match R with
  | .inl (kd, pl) => (0 < kd ∧ kd < 100) ∧ ∃ v Z, F = some (v, Z) ∧ Z.1 0 8 = nI kd ∧ Z.1 0 9 = nI pl ∧ (∀ k j, ¬ (k = 0 ∧ ((3 ≤ j ∧ j ≤ 9) ∨ j = 12 ∨ j = 52)) → Z.1 k j = S.1 k j) ∧ (∀ k j, ¬ (k = 0 ∧ j = 7) → Z.2.1 k j = S.2.1 k j) ∧ Z.2.2 = S.2.2
  | .inr (d, v, e') => ∃ Z, F = some (nI v, Z) ∧ Z.1 0 52 = nI d ∧ tkM Z f L e' ∧ e' ≤ L ∧ e ≤ e' ∧ (∀ k j, ¬ (k = 0 ∧ ((3 ≤ j ∧ j ≤ 6) ∨ j = 12 ∨ j = 52)) → Z.1 k j = S.1 k j) ∧ (∀ k j, ¬ (k = 0 ∧ j = 7) → Z.2.1 k j = S.2.1 k j) ∧ Z.2.2 = S.2.2
def tR (f : Nat → Nat) (L e : Nat) : Sum (Nat × Nat) (Nat × Nat × Nat) := zB (tN f L 0 9999 e) fun d => zB (tW f L 2 d.2) fun e => zB (tN f L (s_lr d.1) 30 e) fun r => .inr (d.1, r.1, r.2)
theorem flR_k {k j : Nat} (h : ¬ (k = 0 ∧ (j = 8 ∨ j = 9))) : (flR S kd pl).1 k j = S.1 k j := by unfold flR; rw [quI_k (by omega), quI_k (by omega)]
theorem flR_9 : (flR S kd pl).1 0 9 = nI pl := by unfold flR; rw [quI_e]
theorem mt_R (hn : 2000 ≤ n) (he : e ≤ L) (h : tkM S f L e) (h8 : S.1 0 8 = nI 0) : rOk S b f L e (tR f L e) (fX12_round n 0 S) := by
  have a1 := mt_N (lo := 0) (hi := 9999) hn he h h8 (by decide) (by decide)
  unfold tR
  cases h1 : tN f L 0 9999 e with
  | inl x =>
    obtain ⟨kd, pl⟩ := x
    rw [h1] at a1
    obtain ⟨⟨k0, k1⟩, v, a2⟩ := a1
    have y8 : (xuI (flR S kd pl) 0 52 v).1 0 8 = nI kd := by rw [quI_k (by omega)]; exact flR_8
    have n2 := f_must_ (n := n) (x := 28518) y8 k0 k1
    have n3 := f_num (n := n) (x := nI 2) (y := nI 30) y8 k0 k1
    have n4 := f_num (n := n) (x := v + nI 1) (y := nI 30) y8 k0 k1
    have y52 : (xuI (flR S kd pl) 0 52 v).1 0 52 = v := quI_e
    refine ⟨⟨k0, k1⟩, nI 0, xuI (flR S kd pl) 0 52 v, ?_, y8, by rw [quI_k (by omega)]; exact flR_9, fun k j hk => by rw [quI_k (by omega), flR_k (by omega)], fun _ _ _ => rfl, rfl⟩
    by_cases hv : nI 2 ≤ v
    · simp (disch := (first | assumption | omega | exact hB _ _ | exact hYB _ _ | (simp only [yc, yd, sh, sv, ne_eq]; omega) | (simp (disch := omega) only [↓nm_1, ↓nm_2, nI_add, pk_mul, pk_sub, Nat.add_sub_cancel, qm1_add, qm2_add, nI_clamp, ni_0, ni_1, ni_2, ni_30, ni_9999, a2, n2, y52, hv, n4]; refine qin_nI ?_ ?_ <;> first | omega | exact hB _ _ | exact hYB _ _) | (refine qin_nI ?_ ?_ <;> omega) | fail)) only [↓km0_gd, ↓km0_gI, ↓km0_gM, ↓km0_pI, ↓km0_pM, ↓km0_pZ, ↓km0_gL, ↓km0_pL, ↓qb_so, ↓nm_1, ↓nm_2, ↓reduceIte, if_true, if_false, not_true_eq_false, not_false_eq_true, and_true, true_and, and_false, false_and, or_true, true_or, or_false, false_or, eq_self, ne_eq, quI_s, quI_n, quI2, quL1, quL2, quL3, quR1, quR2, quR3, nI_add, pk_mul, pk_sub, Nat.add_sub_cancel, qm1_add, qm2_add, nI_leI, nI_ltI, nI_eq, nI_m1, nI_m1', nI_clamp, nI_bit, nI_one_shl, nI_m1l, nI_m1lt, nI_m1lt', nI_m1le', oI_some, oI_none, ni_0, ni_1, ni_2, ni_30, ni_9999, fX12_round, qle_t, qle_f, qlt_t, qlt_f, qeq_t, qeq_f, a2, n2, y52, hv, n4]
    · simp (disch := (first | assumption | omega | exact hB _ _ | exact hYB _ _ | (simp only [yc, yd, sh, sv, ne_eq]; omega) | (simp (disch := omega) only [↓nm_1, ↓nm_2, nI_add, pk_mul, pk_sub, Nat.add_sub_cancel, qm1_add, qm2_add, nI_clamp, ni_0, ni_1, ni_2, ni_30, ni_9999, a2, n2, y52, hv, n3]; refine qin_nI ?_ ?_ <;> first | omega | exact hB _ _ | exact hYB _ _) | (refine qin_nI ?_ ?_ <;> omega) | fail)) only [↓km0_gd, ↓km0_gI, ↓km0_gM, ↓km0_pI, ↓km0_pM, ↓km0_pZ, ↓km0_gL, ↓km0_pL, ↓qb_so, ↓nm_1, ↓nm_2, ↓reduceIte, if_true, if_false, not_true_eq_false, not_false_eq_true, and_true, true_and, and_false, false_and, or_true, true_or, or_false, false_or, eq_self, ne_eq, quI_s, quI_n, quI2, quL1, quL2, quL3, quR1, quR2, quR3, nI_add, pk_mul, pk_sub, Nat.add_sub_cancel, qm1_add, qm2_add, nI_leI, nI_ltI, nI_eq, nI_m1, nI_m1', nI_clamp, nI_bit, nI_one_shl, nI_m1l, nI_m1lt, nI_m1lt', nI_m1le', oI_some, oI_none, ni_0, ni_1, ni_2, ni_30, ni_9999, fX12_round, qle_t, qle_f, qlt_t, qlt_f, qeq_t, qeq_f, a2, n2, y52, hv, n3]
  | inr x =>
    obtain ⟨d, e1⟩ := x
    have hd := (tN_i h1).2.2.1
    rw [h1] at a1
    obtain ⟨A, a2, a3, a4, a5, a6⟩ := a1
    have t3 : tkM (xuI A 0 52 (nI d)) f L e1 := tkM_same a3 (fun k j hk => quI_k (by omega)) rfl
    have t8 : (xuI A 0 52 (nI d)).1 0 8 = nI 0 := by rw [quI_k (by omega), a6.1 _ _ (by omega)]; exact h8
    have b1 := mt_W (k := 2) hn a4 t3 t8 (by decide)
    show rOk S b f L e (zB (tW f L 2 e1) fun e => zB (tN f L (s_lr d) 30 e) fun r => .inr (d, r.1, r.2)) _
    cases h2 : tW f L 2 e1 with
    | inl x =>
      obtain ⟨kd, pl⟩ := x
      rw [h2] at b1
      obtain ⟨⟨k0, k1⟩, b2⟩ := b1
      have b2' : fX12_must_ n 0 (28518 : Int64) (xuI A 0 52 (nI d)) = some (flR (xuI A 0 52 (nI d)) kd pl) := b2
      have y8 : (flR (xuI A 0 52 (nI d)) kd pl).1 0 8 = nI kd := flR_8
      have y52 : (flR (xuI A 0 52 (nI d)) kd pl).1 0 52 = nI d := by rw [flR_k (by omega)]; exact quI_e
      have n3 := f_num (n := n) (x := nI 2) (y := nI 30) y8 k0 k1
      have n4 := f_num (n := n) (x := nI (d + 1)) (y := nI 30) y8 k0 k1
      refine ⟨⟨k0, k1⟩, nI 0, flR (xuI A 0 52 (nI d)) kd pl, ?_, y8, flR_9, fun k j hk => by rw [flR_k (by omega), quI_k (by omega), a6.1 _ _ (by omega)], fun k j hk => a6.2.1 k j hk, a6.2.2⟩
      by_cases hv : 2 ≤ d
      · simp (disch := (first | assumption | omega | exact hB _ _ | exact hYB _ _ | (simp only [yc, yd, sh, sv, ne_eq]; omega) | (simp (disch := omega) only [↓nm_1, ↓nm_2, nI_add, pk_mul, pk_sub, Nat.add_sub_cancel, qm1_add, qm2_add, nI_clamp, ni_0, ni_1, ni_2, ni_30, ni_9999, a2, b2', y52, hv, n4]; refine qin_nI ?_ ?_ <;> first | omega | exact hB _ _ | exact hYB _ _) | (refine qin_nI ?_ ?_ <;> omega) | fail)) only [↓km0_gd, ↓km0_gI, ↓km0_gM, ↓km0_pI, ↓km0_pM, ↓km0_pZ, ↓km0_gL, ↓km0_pL, ↓qb_so, ↓nm_1, ↓nm_2, ↓reduceIte, if_true, if_false, not_true_eq_false, not_false_eq_true, and_true, true_and, and_false, false_and, or_true, true_or, or_false, false_or, eq_self, ne_eq, quI_s, quI_n, quI2, quL1, quL2, quL3, quR1, quR2, quR3, nI_add, pk_mul, pk_sub, Nat.add_sub_cancel, qm1_add, qm2_add, nI_leI, nI_ltI, nI_eq, nI_m1, nI_m1', nI_clamp, nI_bit, nI_one_shl, nI_m1l, nI_m1lt, nI_m1lt', nI_m1le', oI_some, oI_none, ni_0, ni_1, ni_2, ni_30, ni_9999, fX12_round, qle_t, qle_f, qlt_t, qlt_f, qeq_t, qeq_f, a2, b2', y52, hv, n4]
      · simp (disch := (first | assumption | omega | exact hB _ _ | exact hYB _ _ | (simp only [yc, yd, sh, sv, ne_eq]; omega) | (simp (disch := omega) only [↓nm_1, ↓nm_2, nI_add, pk_mul, pk_sub, Nat.add_sub_cancel, qm1_add, qm2_add, nI_clamp, ni_0, ni_1, ni_2, ni_30, ni_9999, a2, b2', y52, hv, n3]; refine qin_nI ?_ ?_ <;> first | omega | exact hB _ _ | exact hYB _ _) | (refine qin_nI ?_ ?_ <;> omega) | fail)) only [↓km0_gd, ↓km0_gI, ↓km0_gM, ↓km0_pI, ↓km0_pM, ↓km0_pZ, ↓km0_gL, ↓km0_pL, ↓qb_so, ↓nm_1, ↓nm_2, ↓reduceIte, if_true, if_false, not_true_eq_false, not_false_eq_true, and_true, true_and, and_false, false_and, or_true, true_or, or_false, false_or, eq_self, ne_eq, quI_s, quI_n, quI2, quL1, quL2, quL3, quR1, quR2, quR3, nI_add, pk_mul, pk_sub, Nat.add_sub_cancel, qm1_add, qm2_add, nI_leI, nI_ltI, nI_eq, nI_m1, nI_m1', nI_clamp, nI_bit, nI_one_shl, nI_m1l, nI_m1lt, nI_m1lt', nI_m1le', oI_some, oI_none, ni_0, ni_1, ni_2, ni_30, ni_9999, fX12_round, qle_t, qle_f, qlt_t, qlt_f, qeq_t, qeq_f, a2, b2', y52, hv, n3]
    | inr e2 =>
      rw [h2] at b1
      obtain ⟨B, b2, b3, b4, b5, b6⟩ := b1
      have b2' : fX12_must_ n 0 (28518 : Int64) (xuI A 0 52 (nI d)) = some B := b2
      have B8 : B.1 0 8 = nI 0 := by rw [b6.1 _ _ (by omega)]; exact t8
      have B52 : B.1 0 52 = nI d := by rw [b6.1 _ _ (by omega)]; exact quI_e
      have hl := s_lr_ok (d := d)
      have c1 := mt_N (lo := s_lr d) (hi := 30) hn b4 b3 B8 (by omega) (by decide)
      have q1 : fX12_round n 0 S = fX12_number n 0 (nI (s_lr d)) (nI 30) B := by
        by_cases hv : 2 ≤ d
        · have : s_lr d = d + 1 := by unfold s_lr; rw [if_pos (by omega)]
          rw [this]
          simp (disch := (first | assumption | omega | exact hB _ _ | exact hYB _ _ | (simp only [yc, yd, sh, sv, ne_eq]; omega) | (simp (disch := omega) only [↓nm_1, ↓nm_2, nI_add, pk_mul, pk_sub, Nat.add_sub_cancel, qm1_add, qm2_add, nI_clamp, ni_0, ni_1, ni_2, ni_30, ni_9999, a2, b2', B52, hv]; refine qin_nI ?_ ?_ <;> first | omega | exact hB _ _ | exact hYB _ _) | (refine qin_nI ?_ ?_ <;> omega) | fail)) only [↓km0_gd, ↓km0_gI, ↓km0_gM, ↓km0_pI, ↓km0_pM, ↓km0_pZ, ↓km0_gL, ↓km0_pL, ↓qb_so, ↓nm_1, ↓nm_2, ↓reduceIte, if_true, if_false, not_true_eq_false, not_false_eq_true, and_true, true_and, and_false, false_and, or_true, true_or, or_false, false_or, eq_self, ne_eq, quI_s, quI_n, quI2, quL1, quL2, quL3, quR1, quR2, quR3, nI_add, pk_mul, pk_sub, Nat.add_sub_cancel, qm1_add, qm2_add, nI_leI, nI_ltI, nI_eq, nI_m1, nI_m1', nI_clamp, nI_bit, nI_one_shl, nI_m1l, nI_m1lt, nI_m1lt', nI_m1le', oI_some, oI_none, ni_0, ni_1, ni_2, ni_30, ni_9999, fX12_round, qle_t, qle_f, qlt_t, qlt_f, qeq_t, qeq_f, a2, b2', B52, hv]
          cases fX12_number n 0 (nI (d + 1)) (nI 30) B <;> rfl
        · have : s_lr d = 2 := by unfold s_lr; split <;> omega
          rw [this]
          simp (disch := (first | assumption | omega | exact hB _ _ | exact hYB _ _ | (simp only [yc, yd, sh, sv, ne_eq]; omega) | (simp (disch := omega) only [↓nm_1, ↓nm_2, nI_add, pk_mul, pk_sub, Nat.add_sub_cancel, qm1_add, qm2_add, nI_clamp, ni_0, ni_1, ni_2, ni_30, ni_9999, a2, b2', B52, hv]; refine qin_nI ?_ ?_ <;> first | omega | exact hB _ _ | exact hYB _ _) | (refine qin_nI ?_ ?_ <;> omega) | fail)) only [↓km0_gd, ↓km0_gI, ↓km0_gM, ↓km0_pI, ↓km0_pM, ↓km0_pZ, ↓km0_gL, ↓km0_pL, ↓qb_so, ↓nm_1, ↓nm_2, ↓reduceIte, if_true, if_false, not_true_eq_false, not_false_eq_true, and_true, true_and, and_false, false_and, or_true, true_or, or_false, false_or, eq_self, ne_eq, quI_s, quI_n, quI2, quL1, quL2, quL3, quR1, quR2, quR3, nI_add, pk_mul, pk_sub, Nat.add_sub_cancel, qm1_add, qm2_add, nI_leI, nI_ltI, nI_eq, nI_m1, nI_m1', nI_clamp, nI_bit, nI_one_shl, nI_m1l, nI_m1lt, nI_m1lt', nI_m1le', oI_some, oI_none, ni_0, ni_1, ni_2, ni_30, ni_9999, fX12_round, qle_t, qle_f, qlt_t, qlt_f, qeq_t, qeq_f, a2, b2', B52, hv]
          cases fX12_number n 0 (nI 2) (nI 30) B <;> rfl
      have fk : ∀ k j, ¬ (k = 0 ∧ ((3 ≤ j ∧ j ≤ 6) ∨ j = 12 ∨ j = 52)) → B.1 k j = S.1 k j := fun k j hk => by rw [b6.1 _ _ (by omega), quI_k (by omega), a6.1 _ _ (by omega)]
      have fl : ∀ k j, ¬ (k = 0 ∧ j = 7) → B.2.1 k j = S.2.1 k j := fun k j hk => (b6.2.1 k j hk).trans (a6.2.1 k j hk)
      have f2 : B.2.2 = S.2.2 := b6.2.2.trans a6.2.2
      rw [q1]
      show rOk S b f L e (zB (tN f L (s_lr d) 30 e2) fun r => .inr (d, r.1, r.2)) _
      cases h3 : tN f L (s_lr d) 30 e2 with
      | inl x =>
        obtain ⟨kd, pl⟩ := x
        rw [h3] at c1
        obtain ⟨⟨k0, k1⟩, v, c2⟩ := c1
        exact ⟨⟨k0, k1⟩, v, flR B kd pl, c2, flR_8, flR_9, fun k j hk => by rw [flR_k (by omega), fk k j (by omega)], fl, f2⟩
      | inr x =>
        obtain ⟨v, e3⟩ := x
        rw [h3] at c1
        obtain ⟨C, c2, c3, c4, c5, c6⟩ := c1
        exact ⟨C, c2, by rw [c6.1 _ _ (by omega)]; exact B52, c3, c4, by omega, fun k j hk => by rw [c6.1 _ _ (by omega), fk k j hk], fun k j hk => (c6.2.1 k j hk).trans (fl k j hk), c6.2.2.trans f2⟩
end Q9za

