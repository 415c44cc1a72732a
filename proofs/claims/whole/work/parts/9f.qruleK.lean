/-! ===== the reference reads a rule: what an operand is ===== -/
section Q9f
variable {S Z V : xSt} {n L e m o b d t k a A D K H B r : Nat} {f : Nat → Nat} {c c' : List (Nat × Nat)} {P P' : List Nat} {o' D' K' H' B' A' : Nat}
theorem w_l25 (hL : L ≤ 1600) (h : tkM S f L e) (hw : kW f L e = none) : fX12_isWord 0 (26982 : Int64) S = some (nI (if iw f L e 25 then 1 else 0)) := by
  have e1 := m_isW hL h hw (k := 25) (by decide)
  have e2 : lN (s_oc 25) = (26982 : Int64) := by decide
  rw [e2] at e1
  exact e1
theorem w_l30 (hL : L ≤ 1600) (h : tkM S f L e) (hw : kW f L e = none) : fX12_isWord 0 (7170414 : Int64) S = some (nI (if iw f L e 30 then 1 else 0)) := by
  have e1 := m_isW hL h hw (k := 30) (by decide)
  have e2 : lN (s_oc 30) = (7170414 : Int64) := by decide
  rw [e2] at e1
  exact e1
theorem w_l31 (hL : L ≤ 1600) (h : tkM S f L e) (hw : kW f L e = none) : fX12_isWord 0 (7168376 : Int64) S = some (nI (if iw f L e 31 then 1 else 0)) := by
  have e1 := m_isW hL h hw (k := 31) (by decide)
  have e2 : lN (s_oc 31) = (7168376 : Int64) := by decide
  rw [e2] at e1
  exact e1
theorem w_l20 (hL : L ≤ 1600) (h : tkM S f L e) (hw : kW f L e = none) : fX12_isWord 0 (1919251316 : Int64) S = some (nI (if iw f L e 20 then 1 else 0)) := by
  have e1 := m_isW hL h hw (k := 20) (by decide)
  have e2 : lN (s_oc 20) = (1919251316 : Int64) := by decide
  rw [e2] at e1
  exact e1
theorem w_l5 (hL : L ≤ 1600) (h : tkM S f L e) (hw : kW f L e = none) : fX12_isWord 0 (2003792494 : Int64) S = some (nI (if iw f L e 5 then 1 else 0)) := by
  have e1 := m_isW hL h hw (k := 5) (by decide)
  have e2 : lN (s_oc 5) = (2003792494 : Int64) := by decide
  rw [e2] at e1
  exact e1
theorem w_l7 (hL : L ≤ 1600) (h : tkM S f L e) (hw : kW f L e = none) : fX12_isWord 0 (461414299507 : Int64) S = some (nI (if iw f L e 7 then 1 else 0)) := by
  have e1 := m_isW hL h hw (k := 7) (by decide)
  have e2 : lN (s_oc 7) = (461414299507 : Int64) := by decide
  rw [e2] at e1
  exact e1
theorem w_l21 (hL : L ≤ 1600) (h : tkM S f L e) (hw : kW f L e = none) : fX12_isWord 0 (448546566771 : Int64) S = some (nI (if iw f L e 21 then 1 else 0)) := by
  have e1 := m_isW hL h hw (k := 21) (by decide)
  have e2 : lN (s_oc 21) = (448546566771 : Int64) := by decide
  rw [e2] at e1
  exact e1
theorem w_l22 (hL : L ≤ 1600) (h : tkM S f L e) (hw : kW f L e = none) : fX12_isWord 0 (6578553 : Int64) S = some (nI (if iw f L e 22 then 1 else 0)) := by
  have e1 := m_isW hL h hw (k := 22) (by decide)
  have e2 : lN (s_oc 22) = (6578553 : Int64) := by decide
  rw [e2] at e1
  exact e1
theorem w_l23 (hL : L ≤ 1600) (h : tkM S f L e) (hw : kW f L e = none) : fX12_isWord 0 (1818326117 : Int64) S = some (nI (if iw f L e 23 then 1 else 0)) := by
  have e1 := m_isW hL h hw (k := 23) (by decide)
  have e2 : lN (s_oc 23) = (1818326117 : Int64) := by decide
  rw [e2] at e1
  exact e1
theorem w_l19 (hL : L ≤ 1600) (h : tkM S f L e) (hw : kW f L e = none) : fX12_isWord 0 (440006570868 : Int64) S = some (nI (if iw f L e 19 then 1 else 0)) := by
  have e1 := m_isW hL h hw (k := 19) (by decide)
  have e2 : lN (s_oc 19) = (440006570868 : Int64) := by decide
  rw [e2] at e1
  exact e1
theorem w_l24 (hL : L ≤ 1600) (h : tkM S f L e) (hw : kW f L e = none) : fX12_isWord 0 (1970496868 : Int64) S = some (nI (if iw f L e 24 then 1 else 0)) := by
  have e1 := m_isW hL h hw (k := 24) (by decide)
  have e2 : lN (s_oc 24) = (1970496868 : Int64) := by decide
  rw [e2] at e1
  exact e1
theorem w_l28 (hL : L ≤ 1600) (h : tkM S f L e) (hw : kW f L e = none) : fX12_isWord 0 (7237492 : Int64) S = some (nI (if iw f L e 28 then 1 else 0)) := by
  have e1 := m_isW hL h hw (k := 28) (by decide)
  have e2 : lN (s_oc 28) = (7237492 : Int64) := by decide
  rw [e2] at e1
  exact e1
theorem w_l29 (hL : L ≤ 1600) (h : tkM S f L e) (hw : kW f L e = none) : fX12_isWord 0 (6384748 : Int64) S = some (nI (if iw f L e 29 then 1 else 0)) := by
  have e1 := m_isW hL h hw (k := 29) (by decide)
  have e2 : lN (s_oc 29) = (6384748 : Int64) := by decide
  rw [e2] at e1
  exact e1
theorem w_l26 (hL : L ≤ 1600) (h : tkM S f L e) (hw : kW f L e = none) : fX12_isWord 0 (28530 : Int64) S = some (nI (if iw f L e 26 then 1 else 0)) := by
  have e1 := m_isW hL h hw (k := 26) (by decide)
  have e2 : lN (s_oc 26) = (28530 : Int64) := by decide
  rw [e2] at e1
  exact e1
theorem w_l27 (hL : L ≤ 1600) (h : tkM S f L e) (hw : kW f L e = none) : fX12_isWord 0 (6385252 : Int64) S = some (nI (if iw f L e 27 then 1 else 0)) := by
  have e1 := m_isW hL h hw (k := 27) (by decide)
  have e2 : lN (s_oc 27) = (6385252 : Int64) := by decide
  rw [e2] at e1
  exact e1
theorem iw_one {j : Nat} (hj : j < 32) (hk : k < 32) (h : iw f L e k) (hne : k ≠ j) : ¬ iw f L e j := fun h2 => hne ((own_k hk).2.2.2 j hj (by rw [← h.2.2, ← h2.2.2]))
theorem iw_ig (h : iw f L e k) {j : Nat} : ¬ ig f L e j := fun h2 => by have := h.2.1; have := h2.1; omega
theorem iN_iw (h : iN f L e) {j : Nat} : ¬ iw f L e j := fun h2 => by have := h.2; have := h2.2.1; omega
theorem iN_ig (h : iN f L e) {j : Nat} : ¬ ig f L e j := fun h2 => by have := h.2; have := h2.1; omega
theorem o_num (hn : 2000 ≤ n) (hb : b < 2) (h : stM S b f L m e c P o D K H B A) (hN : iN f L e) :
    ∃ Z, fX12_operand_B171 n 0 S = some (nI 1, Z) ∧ stM Z b f L m (kE f L e) (c ++ [(0, kV f L e)]) P o D K H B A ∧ frN b S Z ∧ frD D S Z := by
  have hL := h.1.1.2.2.1
  have hw := hN.1
  have e1 := m_isS h.1 (k := 40) (by decide)
  have e2 := w_l30 hL h.1 hw
  have e3 := w_l31 hL h.1 hw
  have e4 := w_l25 hL h.1 hw
  rw [if_neg (iN_ig hN)] at e1
  rw [if_neg (iN_iw hN)] at e2 e3 e4
  have h3 := h.1.2.1
  rw [hN.2] at h3
  obtain ⟨Z, z1, z2, z3, z4⟩ := o_add (x := (0, kV f L e)) hn hb h (iN_T hN) (fun _ => h.1.2.2.2.2.2.1 (Or.inl hN.2))
  have ms : mSort (0, kV f L e) = 0 := rfl
  rw [ms] at z1
  refine ⟨Z, ?_, z2, z3, z4⟩
  simp (maxSteps := 3000000) (disch := (first | assumption | omega | exact hB _ _ | exact hYB _ _ | (simp only [yc, yd, sh, sv, ne_eq]; omega) | (simp (disch := omega) only [↓nm_1, ↓nm_2, nI_add, pk_mul, pk_sub, Nat.add_sub_cancel, qm1_add, qm2_add, nI_clamp, ni_0, ni_1, ni_2, ni_3, ni_4, ni_5, ni_6, ni_7, ni_8, ni_40, e1, e2, e3, e4, h3, z1]; refine qin_nI ?_ ?_ <;> first | omega | exact hB _ _ | exact hYB _ _) | (refine qin_nI ?_ ?_ <;> omega) | fail)) only [↓km0_gd, ↓km0_gI, ↓km0_gM, ↓km0_pI, ↓km0_pM, ↓km0_pZ, ↓km0_gL, ↓km0_pL, ↓qb_so, ↓nm_1, ↓nm_2, ↓reduceIte, if_true, if_false, not_true_eq_false, not_false_eq_true, and_true, true_and, and_false, false_and, or_true, true_or, or_false, false_or, eq_self, ne_eq, quI_s, quI_n, quI2, quL1, quL2, quL3, quR1, quR2, quR3, nI_add, pk_mul, pk_sub, Nat.add_sub_cancel, qm1_add, qm2_add, nI_leI, nI_ltI, nI_eq, nI_m1, nI_m1', nI_clamp, nI_bit, nI_one_shl, nI_m1l, nI_m1lt, nI_m1lt', nI_m1le', oI_some, oI_none, ni_0, ni_1, ni_2, ni_3, ni_4, ni_5, ni_6, ni_7, ni_8, ni_40, fX12_operand_B171, fX12_operand_B441, fX12_operand_B457, qle_t, qle_f, qlt_t, qlt_f, qeq_t, qeq_f, e1, e2, e3, e4, h3, z1]
theorem o_par (hn : 2000 ≤ n) (h : stM S b f L m e c P o D K H B A) (hg : ig f L e 40) (ho : o < 7) : ∃ Z, fX12_operand_B171 n 0 S = some (nI 0, Z) ∧ stM Z b f L m (kE f L e) c P (o + 1) (D + 1) 2 0 1 P.length ∧ frN b S Z ∧ (∀ k j, 27 ≤ k → k ≤ 31 → j < D → Z.1 k j = S.1 k j) ∧ Z.1 0 51 = S.1 0 51 := by
  have e1 := m_isS h.1 (k := 40) (by decide)
  rw [if_pos hg] at e1
  obtain ⟨Z, z1, z2, z3, z4, z5⟩ := o_opens (K' := 2) hn h (ig_T hg) ho
  refine ⟨Z, ?_, z2, z3, z4, z5⟩
  simp (disch := (first | assumption | omega | exact hB _ _ | exact hYB _ _ | (simp only [yc, yd, sh, sv, ne_eq]; omega) | (simp (disch := omega) only [↓nm_1, ↓nm_2, nI_add, pk_mul, pk_sub, Nat.add_sub_cancel, qm1_add, qm2_add, nI_clamp, ni_0, ni_1, ni_2, ni_3, ni_4, ni_5, ni_6, ni_7, ni_8, ni_40, e1, z1]; refine qin_nI ?_ ?_ <;> first | omega | exact hB _ _ | exact hYB _ _) | (refine qin_nI ?_ ?_ <;> omega) | fail)) only [↓km0_gd, ↓km0_gI, ↓km0_gM, ↓km0_pI, ↓km0_pM, ↓km0_pZ, ↓km0_gL, ↓km0_pL, ↓qb_so, ↓nm_1, ↓nm_2, ↓reduceIte, if_true, if_false, not_true_eq_false, not_false_eq_true, and_true, true_and, and_false, false_and, or_true, true_or, or_false, false_or, eq_self, ne_eq, quI_s, quI_n, quI2, quL1, quL2, quL3, quR1, quR2, quR3, nI_add, pk_mul, pk_sub, Nat.add_sub_cancel, qm1_add, qm2_add, nI_leI, nI_ltI, nI_eq, nI_m1, nI_m1', nI_clamp, nI_bit, nI_one_shl, nI_m1l, nI_m1lt, nI_m1lt', nI_m1le', oI_some, oI_none, ni_0, ni_1, ni_2, ni_3, ni_4, ni_5, ni_6, ni_7, ni_8, ni_40, fX12_operand_B171, qle_t, qle_f, qlt_t, qlt_f, qeq_t, qeq_f, e1, z1]
theorem o_parF (h : stM S b f L m e c P 7 D K H B A) (hg : ig f L e 40) : ∃ Z, fX12_operand_B171 n 0 S = some (nI 0, Z) ∧ flM b S 5 (kS f L e) Z := by
  have e1 := m_isS h.1 (k := 40) (by decide)
  rw [if_pos hg] at e1
  obtain ⟨Z, z1, z2⟩ := o_opensF (n := n) (K' := 2) h
  refine ⟨Z, ?_, z2⟩
  simp (disch := (first | assumption | omega | exact hB _ _ | exact hYB _ _ | (simp only [yc, yd, sh, sv, ne_eq]; omega) | (simp (disch := omega) only [↓nm_1, ↓nm_2, nI_add, pk_mul, pk_sub, Nat.add_sub_cancel, qm1_add, qm2_add, nI_clamp, ni_0, ni_1, ni_2, ni_3, ni_4, ni_5, ni_6, ni_7, ni_8, ni_40, e1, z1]; refine qin_nI ?_ ?_ <;> first | omega | exact hB _ _ | exact hYB _ _) | (refine qin_nI ?_ ?_ <;> omega) | fail)) only [↓km0_gd, ↓km0_gI, ↓km0_gM, ↓km0_pI, ↓km0_pM, ↓km0_pZ, ↓km0_gL, ↓km0_pL, ↓qb_so, ↓nm_1, ↓nm_2, ↓reduceIte, if_true, if_false, not_true_eq_false, not_false_eq_true, and_true, true_and, and_false, false_and, or_true, true_or, or_false, false_or, eq_self, ne_eq, quI_s, quI_n, quI2, quL1, quL2, quL3, quR1, quR2, quR3, nI_add, pk_mul, pk_sub, Nat.add_sub_cancel, qm1_add, qm2_add, nI_leI, nI_ltI, nI_eq, nI_m1, nI_m1', nI_clamp, nI_bit, nI_one_shl, nI_m1l, nI_m1lt, nI_m1lt', nI_m1le', oI_some, oI_none, ni_0, ni_1, ni_2, ni_3, ni_4, ni_5, ni_6, ni_7, ni_8, ni_40, fX12_operand_B171, qle_t, qle_f, qlt_t, qlt_f, qeq_t, qeq_f, e1, z1]
theorem o_bad (h : stM S b f L m e c P o D K H B A) : fX12_operand_B457 n 0 qm1 S = some (nI 1, xuI (xuI S 0 8 (nI 1)) 0 9 (nI (kS f L e))) := by
  have h4 := h.1.2.2.1
  have e1 := m_blame (k := 1) (p := kS f L e) h.2.2.1
  simp (disch := (first | assumption | omega | exact hB _ _ | exact hYB _ _ | (simp only [yc, yd, sh, sv, ne_eq]; omega) | (simp (disch := omega) only [↓nm_1, ↓nm_2, nI_add, pk_mul, pk_sub, Nat.add_sub_cancel, qm1_add, qm2_add, nI_clamp, ni_0, ni_1, h4, e1]; refine qin_nI ?_ ?_ <;> first | omega | exact hB _ _ | exact hYB _ _) | (refine qin_nI ?_ ?_ <;> omega) | fail)) only [↓km0_gd, ↓km0_gI, ↓km0_gM, ↓km0_pI, ↓km0_pM, ↓km0_pZ, ↓km0_gL, ↓km0_pL, ↓qb_so, ↓nm_1, ↓nm_2, ↓reduceIte, if_true, if_false, not_true_eq_false, not_false_eq_true, and_true, true_and, and_false, false_and, or_true, true_or, or_false, false_or, eq_self, ne_eq, quI_s, quI_n, quI2, quL1, quL2, quL3, quR1, quR2, quR3, nI_add, pk_mul, pk_sub, Nat.add_sub_cancel, qm1_add, qm2_add, nI_leI, nI_ltI, nI_eq, nI_m1, nI_m1', nI_clamp, nI_bit, nI_one_shl, nI_m1l, nI_m1lt, nI_m1lt', nI_m1le', oI_some, oI_none, ni_0, ni_1, fX12_operand_B457, fX12_operand_B471, qle_t, qle_f, qlt_t, qlt_f, qeq_t, qeq_f, h4, e1]
theorem o_fc (hn : 2000 ≤ n) (hb : b < 2) (hm : m < 2) (h : stM S b f L m e c P o D K H B A) (hw : kW f L e = none) (w0 : ¬ iN f L e) (w1 : ¬ ig f L e 40) (w2 : ¬ iw f L e 30) (w3 : ¬ iw f L e 31) (w4 : ¬ iw f L e 25) :
    (∀ j, pFc f L m e = some j → ∃ Z, fX12_operand_B171 n 0 S = some (nI 1, Z) ∧ stM Z b f L m (kE f L e) (c ++ [(1, j)]) P o D K H B A ∧ frN b S Z ∧ frD D S Z) ∧ (pFc f L m e = none → ∃ Z, fX12_operand_B171 n 0 S = some (nI 1, Z) ∧ flM b S 1 (kS f L e) Z) := by
  have hL := h.1.1.2.2.1
  have e1 := m_isS h.1 (k := 40) (by decide)
  have e2 := w_l30 hL h.1 hw
  have e3 := w_l31 hL h.1 hw
  have e4 := w_l25 hL h.1 hw
  rw [if_neg w1] at e1
  rw [if_neg w2] at e2
  rw [if_neg w3] at e3
  rw [if_neg w4] at e4
  have h3 := h.1.2.1
  have h41 := h.2.2.2.1
  have t3 : kT f L e ≤ 3 := by
    unfold kT
    repeat' split
    all_goals omega
  have t2 : ¬ kT f L e = 2 := fun hh => w0 ⟨hw, hh⟩
  have a1 := w_l20 hL h.1 hw
  have a2 := w_l5 hL h.1 hw
  have a3 := w_l7 hL h.1 hw
  have a4 := w_l21 hL h.1 hw
  have a5 := w_l22 hL h.1 hw
  have a6 := w_l23 hL h.1 hw
  have a7 := w_l19 hL h.1 hw
  have a8 := w_l24 hL h.1 hw
  have bad := o_bad (n := n) h
  have good : ∀ j, kT f L e ≠ 0 → ∃ Z, fX12_operand_B471 n 0 (nI (j + 1)) S = some (nI 1, Z) ∧ stM Z b f L m (kE f L e) (c ++ [(1, j)]) P o D K H B A ∧ frN b S Z ∧ frD D S Z := fun j hT => o_add (x := (1, j)) hn hb h hT (fun hh => by cases hh)
  by_cases i20 : iw f L e 20
  · have i := i20
    rw [if_pos i] at a1
    have hp : pFc f L m e = some 0 := by unfold pFc; rw [if_neg (iw_one (by decide) (by decide) i (by decide) : ¬ iw f L e 5), if_neg (iw_one (by decide) (by decide) i (by decide) : ¬ iw f L e 7), if_neg (iw_one (by decide) (by decide) i (by decide) : ¬ iw f L e 19), if_pos i]
    refine ⟨fun j hj => ?_, fun hh => (by rw [hp] at hh; cases hh)⟩
    rw [hp] at hj
    cases hj
    obtain ⟨Z, z1, z2⟩ := good 0 (iw_T i)
    refine ⟨Z, ?_, z2⟩
    simp (maxSteps := 3000000) (disch := (first | assumption | omega | exact hB _ _ | exact hYB _ _ | (simp only [yc, yd, sh, sv, ne_eq]; omega) | (simp (disch := omega) only [↓nm_1, ↓nm_2, nI_add, pk_mul, pk_sub, Nat.add_sub_cancel, qm1_add, qm2_add, nI_clamp, ni_0, ni_1, ni_2, ni_3, ni_4, ni_5, ni_6, ni_7, ni_8, ni_40, e1, e2, e3, e4, h3, t2, a1, z1]; refine qin_nI ?_ ?_ <;> first | omega | exact hB _ _ | exact hYB _ _) | (refine qin_nI ?_ ?_ <;> omega) | fail)) only [↓km0_gd, ↓km0_gI, ↓km0_gM, ↓km0_pI, ↓km0_pM, ↓km0_pZ, ↓km0_gL, ↓km0_pL, ↓qb_so, ↓nm_1, ↓nm_2, ↓reduceIte, if_true, if_false, not_true_eq_false, not_false_eq_true, and_true, true_and, and_false, false_and, or_true, true_or, or_false, false_or, eq_self, ne_eq, quI_s, quI_n, quI2, quL1, quL2, quL3, quR1, quR2, quR3, nI_add, pk_mul, pk_sub, Nat.add_sub_cancel, qm1_add, qm2_add, nI_leI, nI_ltI, nI_eq, nI_m1, nI_m1', nI_clamp, nI_bit, nI_one_shl, nI_m1l, nI_m1lt, nI_m1lt', nI_m1le', oI_some, oI_none, ni_0, ni_1, ni_2, ni_3, ni_4, ni_5, ni_6, ni_7, ni_8, ni_40, fX12_operand_B171, fX12_operand_B441, fX12_operand_B457, qle_t, qle_f, qlt_t, qlt_f, qeq_t, qeq_f, e1, e2, e3, e4, h3, t2, a1, z1]
  rw [if_neg i20] at a1
  by_cases i5 : iw f L e 5
  · have i := i5
    rw [if_pos i] at a2
    have hp : pFc f L m e = some 1 := by unfold pFc; rw [if_pos i]
    refine ⟨fun j hj => ?_, fun hh => (by rw [hp] at hh; cases hh)⟩
    rw [hp] at hj
    cases hj
    obtain ⟨Z, z1, z2⟩ := good 1 (iw_T i)
    refine ⟨Z, ?_, z2⟩
    simp (maxSteps := 3000000) (disch := (first | assumption | omega | exact hB _ _ | exact hYB _ _ | (simp only [yc, yd, sh, sv, ne_eq]; omega) | (simp (disch := omega) only [↓nm_1, ↓nm_2, nI_add, pk_mul, pk_sub, Nat.add_sub_cancel, qm1_add, qm2_add, nI_clamp, ni_0, ni_1, ni_2, ni_3, ni_4, ni_5, ni_6, ni_7, ni_8, ni_40, e1, e2, e3, e4, h3, t2, a1, a2, z1]; refine qin_nI ?_ ?_ <;> first | omega | exact hB _ _ | exact hYB _ _) | (refine qin_nI ?_ ?_ <;> omega) | fail)) only [↓km0_gd, ↓km0_gI, ↓km0_gM, ↓km0_pI, ↓km0_pM, ↓km0_pZ, ↓km0_gL, ↓km0_pL, ↓qb_so, ↓nm_1, ↓nm_2, ↓reduceIte, if_true, if_false, not_true_eq_false, not_false_eq_true, and_true, true_and, and_false, false_and, or_true, true_or, or_false, false_or, eq_self, ne_eq, quI_s, quI_n, quI2, quL1, quL2, quL3, quR1, quR2, quR3, nI_add, pk_mul, pk_sub, Nat.add_sub_cancel, qm1_add, qm2_add, nI_leI, nI_ltI, nI_eq, nI_m1, nI_m1', nI_clamp, nI_bit, nI_one_shl, nI_m1l, nI_m1lt, nI_m1lt', nI_m1le', oI_some, oI_none, ni_0, ni_1, ni_2, ni_3, ni_4, ni_5, ni_6, ni_7, ni_8, ni_40, fX12_operand_B171, fX12_operand_B441, fX12_operand_B457, qle_t, qle_f, qlt_t, qlt_f, qeq_t, qeq_f, e1, e2, e3, e4, h3, t2, a1, a2, z1]
  rw [if_neg i5] at a2
  by_cases i7 : iw f L e 7
  · have i := i7
    rw [if_pos i] at a3
    have hp : pFc f L m e = some 2 := by unfold pFc; rw [if_neg (iw_one (by decide) (by decide) i (by decide) : ¬ iw f L e 5), if_pos i]
    refine ⟨fun j hj => ?_, fun hh => (by rw [hp] at hh; cases hh)⟩
    rw [hp] at hj
    cases hj
    obtain ⟨Z, z1, z2⟩ := good 2 (iw_T i)
    refine ⟨Z, ?_, z2⟩
    simp (maxSteps := 3000000) (disch := (first | assumption | omega | exact hB _ _ | exact hYB _ _ | (simp only [yc, yd, sh, sv, ne_eq]; omega) | (simp (disch := omega) only [↓nm_1, ↓nm_2, nI_add, pk_mul, pk_sub, Nat.add_sub_cancel, qm1_add, qm2_add, nI_clamp, ni_0, ni_1, ni_2, ni_3, ni_4, ni_5, ni_6, ni_7, ni_8, ni_40, e1, e2, e3, e4, h3, t2, a1, a2, a3, z1]; refine qin_nI ?_ ?_ <;> first | omega | exact hB _ _ | exact hYB _ _) | (refine qin_nI ?_ ?_ <;> omega) | fail)) only [↓km0_gd, ↓km0_gI, ↓km0_gM, ↓km0_pI, ↓km0_pM, ↓km0_pZ, ↓km0_gL, ↓km0_pL, ↓qb_so, ↓nm_1, ↓nm_2, ↓reduceIte, if_true, if_false, not_true_eq_false, not_false_eq_true, and_true, true_and, and_false, false_and, or_true, true_or, or_false, false_or, eq_self, ne_eq, quI_s, quI_n, quI2, quL1, quL2, quL3, quR1, quR2, quR3, nI_add, pk_mul, pk_sub, Nat.add_sub_cancel, qm1_add, qm2_add, nI_leI, nI_ltI, nI_eq, nI_m1, nI_m1', nI_clamp, nI_bit, nI_one_shl, nI_m1l, nI_m1lt, nI_m1lt', nI_m1le', oI_some, oI_none, ni_0, ni_1, ni_2, ni_3, ni_4, ni_5, ni_6, ni_7, ni_8, ni_40, fX12_operand_B171, fX12_operand_B441, fX12_operand_B457, qle_t, qle_f, qlt_t, qlt_f, qeq_t, qeq_f, e1, e2, e3, e4, h3, t2, a1, a2, a3, z1]
  rw [if_neg i7] at a3
  by_cases i21 : iw f L e 21
  · have i := i21
    rw [if_pos i] at a4
    have hp : pFc f L m e = some 3 := by unfold pFc; rw [if_neg (iw_one (by decide) (by decide) i (by decide) : ¬ iw f L e 5), if_neg (iw_one (by decide) (by decide) i (by decide) : ¬ iw f L e 7), if_neg (iw_one (by decide) (by decide) i (by decide) : ¬ iw f L e 19), if_neg (iw_one (by decide) (by decide) i (by decide) : ¬ iw f L e 20), if_pos i]
    refine ⟨fun j hj => ?_, fun hh => (by rw [hp] at hh; cases hh)⟩
    rw [hp] at hj
    cases hj
    obtain ⟨Z, z1, z2⟩ := good 3 (iw_T i)
    refine ⟨Z, ?_, z2⟩
    simp (maxSteps := 3000000) (disch := (first | assumption | omega | exact hB _ _ | exact hYB _ _ | (simp only [yc, yd, sh, sv, ne_eq]; omega) | (simp (disch := omega) only [↓nm_1, ↓nm_2, nI_add, pk_mul, pk_sub, Nat.add_sub_cancel, qm1_add, qm2_add, nI_clamp, ni_0, ni_1, ni_2, ni_3, ni_4, ni_5, ni_6, ni_7, ni_8, ni_40, e1, e2, e3, e4, h3, t2, a1, a2, a3, a4, z1]; refine qin_nI ?_ ?_ <;> first | omega | exact hB _ _ | exact hYB _ _) | (refine qin_nI ?_ ?_ <;> omega) | fail)) only [↓km0_gd, ↓km0_gI, ↓km0_gM, ↓km0_pI, ↓km0_pM, ↓km0_pZ, ↓km0_gL, ↓km0_pL, ↓qb_so, ↓nm_1, ↓nm_2, ↓reduceIte, if_true, if_false, not_true_eq_false, not_false_eq_true, and_true, true_and, and_false, false_and, or_true, true_or, or_false, false_or, eq_self, ne_eq, quI_s, quI_n, quI2, quL1, quL2, quL3, quR1, quR2, quR3, nI_add, pk_mul, pk_sub, Nat.add_sub_cancel, qm1_add, qm2_add, nI_leI, nI_ltI, nI_eq, nI_m1, nI_m1', nI_clamp, nI_bit, nI_one_shl, nI_m1l, nI_m1lt, nI_m1lt', nI_m1le', oI_some, oI_none, ni_0, ni_1, ni_2, ni_3, ni_4, ni_5, ni_6, ni_7, ni_8, ni_40, fX12_operand_B171, fX12_operand_B441, fX12_operand_B457, qle_t, qle_f, qlt_t, qlt_f, qeq_t, qeq_f, e1, e2, e3, e4, h3, t2, a1, a2, a3, a4, z1]
  rw [if_neg i21] at a4
  by_cases i22 : iw f L e 22
  · have i := i22
    rw [if_pos i] at a5
    have hp : pFc f L m e = some 4 := by unfold pFc; rw [if_neg (iw_one (by decide) (by decide) i (by decide) : ¬ iw f L e 5), if_neg (iw_one (by decide) (by decide) i (by decide) : ¬ iw f L e 7), if_neg (iw_one (by decide) (by decide) i (by decide) : ¬ iw f L e 19), if_neg (iw_one (by decide) (by decide) i (by decide) : ¬ iw f L e 20), if_neg (iw_one (by decide) (by decide) i (by decide) : ¬ iw f L e 21), if_pos i]
    refine ⟨fun j hj => ?_, fun hh => (by rw [hp] at hh; cases hh)⟩
    rw [hp] at hj
    cases hj
    obtain ⟨Z, z1, z2⟩ := good 4 (iw_T i)
    refine ⟨Z, ?_, z2⟩
    simp (maxSteps := 3000000) (disch := (first | assumption | omega | exact hB _ _ | exact hYB _ _ | (simp only [yc, yd, sh, sv, ne_eq]; omega) | (simp (disch := omega) only [↓nm_1, ↓nm_2, nI_add, pk_mul, pk_sub, Nat.add_sub_cancel, qm1_add, qm2_add, nI_clamp, ni_0, ni_1, ni_2, ni_3, ni_4, ni_5, ni_6, ni_7, ni_8, ni_40, e1, e2, e3, e4, h3, t2, a1, a2, a3, a4, a5, z1]; refine qin_nI ?_ ?_ <;> first | omega | exact hB _ _ | exact hYB _ _) | (refine qin_nI ?_ ?_ <;> omega) | fail)) only [↓km0_gd, ↓km0_gI, ↓km0_gM, ↓km0_pI, ↓km0_pM, ↓km0_pZ, ↓km0_gL, ↓km0_pL, ↓qb_so, ↓nm_1, ↓nm_2, ↓reduceIte, if_true, if_false, not_true_eq_false, not_false_eq_true, and_true, true_and, and_false, false_and, or_true, true_or, or_false, false_or, eq_self, ne_eq, quI_s, quI_n, quI2, quL1, quL2, quL3, quR1, quR2, quR3, nI_add, pk_mul, pk_sub, Nat.add_sub_cancel, qm1_add, qm2_add, nI_leI, nI_ltI, nI_eq, nI_m1, nI_m1', nI_clamp, nI_bit, nI_one_shl, nI_m1l, nI_m1lt, nI_m1lt', nI_m1le', oI_some, oI_none, ni_0, ni_1, ni_2, ni_3, ni_4, ni_5, ni_6, ni_7, ni_8, ni_40, fX12_operand_B171, fX12_operand_B441, fX12_operand_B457, qle_t, qle_f, qlt_t, qlt_f, qeq_t, qeq_f, e1, e2, e3, e4, h3, t2, a1, a2, a3, a4, a5, z1]
  rw [if_neg i22] at a5
  by_cases i23 : iw f L e 23
  · have i := i23
    rw [if_pos i] at a6
    have hp : pFc f L m e = some 5 := by unfold pFc; rw [if_neg (iw_one (by decide) (by decide) i (by decide) : ¬ iw f L e 5), if_neg (iw_one (by decide) (by decide) i (by decide) : ¬ iw f L e 7), if_neg (iw_one (by decide) (by decide) i (by decide) : ¬ iw f L e 19), if_neg (iw_one (by decide) (by decide) i (by decide) : ¬ iw f L e 20), if_neg (iw_one (by decide) (by decide) i (by decide) : ¬ iw f L e 21), if_neg (iw_one (by decide) (by decide) i (by decide) : ¬ iw f L e 22), if_pos i]
    refine ⟨fun j hj => ?_, fun hh => (by rw [hp] at hh; cases hh)⟩
    rw [hp] at hj
    cases hj
    obtain ⟨Z, z1, z2⟩ := good 5 (iw_T i)
    refine ⟨Z, ?_, z2⟩
    simp (maxSteps := 3000000) (disch := (first | assumption | omega | exact hB _ _ | exact hYB _ _ | (simp only [yc, yd, sh, sv, ne_eq]; omega) | (simp (disch := omega) only [↓nm_1, ↓nm_2, nI_add, pk_mul, pk_sub, Nat.add_sub_cancel, qm1_add, qm2_add, nI_clamp, ni_0, ni_1, ni_2, ni_3, ni_4, ni_5, ni_6, ni_7, ni_8, ni_40, e1, e2, e3, e4, h3, t2, a1, a2, a3, a4, a5, a6, z1]; refine qin_nI ?_ ?_ <;> first | omega | exact hB _ _ | exact hYB _ _) | (refine qin_nI ?_ ?_ <;> omega) | fail)) only [↓km0_gd, ↓km0_gI, ↓km0_gM, ↓km0_pI, ↓km0_pM, ↓km0_pZ, ↓km0_gL, ↓km0_pL, ↓qb_so, ↓nm_1, ↓nm_2, ↓reduceIte, if_true, if_false, not_true_eq_false, not_false_eq_true, and_true, true_and, and_false, false_and, or_true, true_or, or_false, false_or, eq_self, ne_eq, quI_s, quI_n, quI2, quL1, quL2, quL3, quR1, quR2, quR3, nI_add, pk_mul, pk_sub, Nat.add_sub_cancel, qm1_add, qm2_add, nI_leI, nI_ltI, nI_eq, nI_m1, nI_m1', nI_clamp, nI_bit, nI_one_shl, nI_m1l, nI_m1lt, nI_m1lt', nI_m1le', oI_some, oI_none, ni_0, ni_1, ni_2, ni_3, ni_4, ni_5, ni_6, ni_7, ni_8, ni_40, fX12_operand_B171, fX12_operand_B441, fX12_operand_B457, qle_t, qle_f, qlt_t, qlt_f, qeq_t, qeq_f, e1, e2, e3, e4, h3, t2, a1, a2, a3, a4, a5, a6, z1]
  rw [if_neg i23] at a6
  by_cases i19 : iw f L e 19
  · have i := i19
    rw [if_pos i] at a7
    rcases (by omega : m = 0 ∨ m = 1) with rfl | rfl
    · have hp : pFc f L 0 e = none := by unfold pFc; rw [if_neg (iw_one (by decide) (by decide) i (by decide) : ¬ iw f L e 5), if_neg (iw_one (by decide) (by decide) i (by decide) : ¬ iw f L e 7), if_pos i, if_pos rfl]
      refine ⟨fun j hj => (by rw [hp] at hj; cases hj), fun _ => ⟨_, ?_, flM_up⟩⟩
      simp (maxSteps := 3000000) (disch := (first | assumption | omega | exact hB _ _ | exact hYB _ _ | (simp only [yc, yd, sh, sv, ne_eq]; omega) | (simp (disch := omega) only [↓nm_1, ↓nm_2, nI_add, pk_mul, pk_sub, Nat.add_sub_cancel, qm1_add, qm2_add, nI_clamp, ni_0, ni_1, ni_2, ni_3, ni_4, ni_5, ni_6, ni_7, ni_8, ni_40, e1, e2, e3, e4, h3, t2, a1, a2, a3, a4, a5, a6, a7, h41, bad]; refine qin_nI ?_ ?_ <;> first | omega | exact hB _ _ | exact hYB _ _) | (refine qin_nI ?_ ?_ <;> omega) | fail)) only [↓km0_gd, ↓km0_gI, ↓km0_gM, ↓km0_pI, ↓km0_pM, ↓km0_pZ, ↓km0_gL, ↓km0_pL, ↓qb_so, ↓nm_1, ↓nm_2, ↓reduceIte, if_true, if_false, not_true_eq_false, not_false_eq_true, and_true, true_and, and_false, false_and, or_true, true_or, or_false, false_or, eq_self, ne_eq, quI_s, quI_n, quI2, quL1, quL2, quL3, quR1, quR2, quR3, nI_add, pk_mul, pk_sub, Nat.add_sub_cancel, qm1_add, qm2_add, nI_leI, nI_ltI, nI_eq, nI_m1, nI_m1', nI_clamp, nI_bit, nI_one_shl, nI_m1l, nI_m1lt, nI_m1lt', nI_m1le', oI_some, oI_none, ni_0, ni_1, ni_2, ni_3, ni_4, ni_5, ni_6, ni_7, ni_8, ni_40, fX12_operand_B171, fX12_operand_B441, qle_t, qle_f, qlt_t, qlt_f, qeq_t, qeq_f, e1, e2, e3, e4, h3, t2, a1, a2, a3, a4, a5, a6, a7, h41, bad]
    · have hp : pFc f L 1 e = some 6 := by unfold pFc; rw [if_neg (iw_one (by decide) (by decide) i (by decide) : ¬ iw f L e 5), if_neg (iw_one (by decide) (by decide) i (by decide) : ¬ iw f L e 7), if_pos i, if_neg (by decide)]
      refine ⟨fun j hj => ?_, fun hh => (by rw [hp] at hh; cases hh)⟩
      rw [hp] at hj
      cases hj
      obtain ⟨Z, z1, z2⟩ := good 6 (iw_T i)
      refine ⟨Z, ?_, z2⟩
      simp (maxSteps := 3000000) (disch := (first | assumption | omega | exact hB _ _ | exact hYB _ _ | (simp only [yc, yd, sh, sv, ne_eq]; omega) | (simp (disch := omega) only [↓nm_1, ↓nm_2, nI_add, pk_mul, pk_sub, Nat.add_sub_cancel, qm1_add, qm2_add, nI_clamp, ni_0, ni_1, ni_2, ni_3, ni_4, ni_5, ni_6, ni_7, ni_8, ni_40, e1, e2, e3, e4, h3, t2, a1, a2, a3, a4, a5, a6, a7, h41, z1]; refine qin_nI ?_ ?_ <;> first | omega | exact hB _ _ | exact hYB _ _) | (refine qin_nI ?_ ?_ <;> omega) | fail)) only [↓km0_gd, ↓km0_gI, ↓km0_gM, ↓km0_pI, ↓km0_pM, ↓km0_pZ, ↓km0_gL, ↓km0_pL, ↓qb_so, ↓nm_1, ↓nm_2, ↓reduceIte, if_true, if_false, not_true_eq_false, not_false_eq_true, and_true, true_and, and_false, false_and, or_true, true_or, or_false, false_or, eq_self, ne_eq, quI_s, quI_n, quI2, quL1, quL2, quL3, quR1, quR2, quR3, nI_add, pk_mul, pk_sub, Nat.add_sub_cancel, qm1_add, qm2_add, nI_leI, nI_ltI, nI_eq, nI_m1, nI_m1', nI_clamp, nI_bit, nI_one_shl, nI_m1l, nI_m1lt, nI_m1lt', nI_m1le', oI_some, oI_none, ni_0, ni_1, ni_2, ni_3, ni_4, ni_5, ni_6, ni_7, ni_8, ni_40, fX12_operand_B171, fX12_operand_B441, fX12_operand_B457, qle_t, qle_f, qlt_t, qlt_f, qeq_t, qeq_f, e1, e2, e3, e4, h3, t2, a1, a2, a3, a4, a5, a6, a7, h41, z1]
  rw [if_neg i19] at a7
  by_cases i24 : iw f L e 24
  · have i := i24
    rw [if_pos i] at a8
    rcases (by omega : m = 0 ∨ m = 1) with rfl | rfl
    · have hp : pFc f L 0 e = none := by unfold pFc; rw [if_neg (iw_one (by decide) (by decide) i (by decide) : ¬ iw f L e 5), if_neg (iw_one (by decide) (by decide) i (by decide) : ¬ iw f L e 7), if_neg (iw_one (by decide) (by decide) i (by decide) : ¬ iw f L e 19), if_neg (iw_one (by decide) (by decide) i (by decide) : ¬ iw f L e 20), if_neg (iw_one (by decide) (by decide) i (by decide) : ¬ iw f L e 21), if_neg (iw_one (by decide) (by decide) i (by decide) : ¬ iw f L e 22), if_neg (iw_one (by decide) (by decide) i (by decide) : ¬ iw f L e 23), if_pos i, if_pos rfl]
      refine ⟨fun j hj => (by rw [hp] at hj; cases hj), fun _ => ⟨_, ?_, flM_up⟩⟩
      simp (maxSteps := 3000000) (disch := (first | assumption | omega | exact hB _ _ | exact hYB _ _ | (simp only [yc, yd, sh, sv, ne_eq]; omega) | (simp (disch := omega) only [↓nm_1, ↓nm_2, nI_add, pk_mul, pk_sub, Nat.add_sub_cancel, qm1_add, qm2_add, nI_clamp, ni_0, ni_1, ni_2, ni_3, ni_4, ni_5, ni_6, ni_7, ni_8, ni_40, e1, e2, e3, e4, h3, t2, a1, a2, a3, a4, a5, a6, a7, a8, h41, bad]; refine qin_nI ?_ ?_ <;> first | omega | exact hB _ _ | exact hYB _ _) | (refine qin_nI ?_ ?_ <;> omega) | fail)) only [↓km0_gd, ↓km0_gI, ↓km0_gM, ↓km0_pI, ↓km0_pM, ↓km0_pZ, ↓km0_gL, ↓km0_pL, ↓qb_so, ↓nm_1, ↓nm_2, ↓reduceIte, if_true, if_false, not_true_eq_false, not_false_eq_true, and_true, true_and, and_false, false_and, or_true, true_or, or_false, false_or, eq_self, ne_eq, quI_s, quI_n, quI2, quL1, quL2, quL3, quR1, quR2, quR3, nI_add, pk_mul, pk_sub, Nat.add_sub_cancel, qm1_add, qm2_add, nI_leI, nI_ltI, nI_eq, nI_m1, nI_m1', nI_clamp, nI_bit, nI_one_shl, nI_m1l, nI_m1lt, nI_m1lt', nI_m1le', oI_some, oI_none, ni_0, ni_1, ni_2, ni_3, ni_4, ni_5, ni_6, ni_7, ni_8, ni_40, fX12_operand_B171, fX12_operand_B441, qle_t, qle_f, qlt_t, qlt_f, qeq_t, qeq_f, e1, e2, e3, e4, h3, t2, a1, a2, a3, a4, a5, a6, a7, a8, h41, bad]
    · have hp : pFc f L 1 e = some 7 := by unfold pFc; rw [if_neg (iw_one (by decide) (by decide) i (by decide) : ¬ iw f L e 5), if_neg (iw_one (by decide) (by decide) i (by decide) : ¬ iw f L e 7), if_neg (iw_one (by decide) (by decide) i (by decide) : ¬ iw f L e 19), if_neg (iw_one (by decide) (by decide) i (by decide) : ¬ iw f L e 20), if_neg (iw_one (by decide) (by decide) i (by decide) : ¬ iw f L e 21), if_neg (iw_one (by decide) (by decide) i (by decide) : ¬ iw f L e 22), if_neg (iw_one (by decide) (by decide) i (by decide) : ¬ iw f L e 23), if_pos i, if_neg (by decide)]
      refine ⟨fun j hj => ?_, fun hh => (by rw [hp] at hh; cases hh)⟩
      rw [hp] at hj
      cases hj
      obtain ⟨Z, z1, z2⟩ := good 7 (iw_T i)
      refine ⟨Z, ?_, z2⟩
      simp (maxSteps := 3000000) (disch := (first | assumption | omega | exact hB _ _ | exact hYB _ _ | (simp only [yc, yd, sh, sv, ne_eq]; omega) | (simp (disch := omega) only [↓nm_1, ↓nm_2, nI_add, pk_mul, pk_sub, Nat.add_sub_cancel, qm1_add, qm2_add, nI_clamp, ni_0, ni_1, ni_2, ni_3, ni_4, ni_5, ni_6, ni_7, ni_8, ni_40, e1, e2, e3, e4, h3, t2, a1, a2, a3, a4, a5, a6, a7, a8, h41, z1]; refine qin_nI ?_ ?_ <;> first | omega | exact hB _ _ | exact hYB _ _) | (refine qin_nI ?_ ?_ <;> omega) | fail)) only [↓km0_gd, ↓km0_gI, ↓km0_gM, ↓km0_pI, ↓km0_pM, ↓km0_pZ, ↓km0_gL, ↓km0_pL, ↓qb_so, ↓nm_1, ↓nm_2, ↓reduceIte, if_true, if_false, not_true_eq_false, not_false_eq_true, and_true, true_and, and_false, false_and, or_true, true_or, or_false, false_or, eq_self, ne_eq, quI_s, quI_n, quI2, quL1, quL2, quL3, quR1, quR2, quR3, nI_add, pk_mul, pk_sub, Nat.add_sub_cancel, qm1_add, qm2_add, nI_leI, nI_ltI, nI_eq, nI_m1, nI_m1', nI_clamp, nI_bit, nI_one_shl, nI_m1l, nI_m1lt, nI_m1lt', nI_m1le', oI_some, oI_none, ni_0, ni_1, ni_2, ni_3, ni_4, ni_5, ni_6, ni_7, ni_8, ni_40, fX12_operand_B171, fX12_operand_B441, fX12_operand_B457, qle_t, qle_f, qlt_t, qlt_f, qeq_t, qeq_f, e1, e2, e3, e4, h3, t2, a1, a2, a3, a4, a5, a6, a7, a8, h41, z1]
  rw [if_neg i24] at a8
  have hp : pFc f L m e = none := by unfold pFc; rw [if_neg i5, if_neg i7, if_neg i19, if_neg i20, if_neg i21, if_neg i22, if_neg i23, if_neg i24]
  refine ⟨fun j hj => (by rw [hp] at hj; cases hj), fun _ => ⟨_, ?_, flM_up⟩⟩
  simp (maxSteps := 3000000) (disch := (first | assumption | omega | exact hB _ _ | exact hYB _ _ | (simp only [yc, yd, sh, sv, ne_eq]; omega) | (simp (disch := omega) only [↓nm_1, ↓nm_2, nI_add, pk_mul, pk_sub, Nat.add_sub_cancel, qm1_add, qm2_add, nI_clamp, ni_0, ni_1, ni_2, ni_3, ni_4, ni_5, ni_6, ni_7, ni_8, ni_40, e1, e2, e3, e4, h3, t2, a1, a2, a3, a4, a5, a6, a7, a8, bad]; refine qin_nI ?_ ?_ <;> first | omega | exact hB _ _ | exact hYB _ _) | (refine qin_nI ?_ ?_ <;> omega) | fail)) only [↓km0_gd, ↓km0_gI, ↓km0_gM, ↓km0_pI, ↓km0_pM, ↓km0_pZ, ↓km0_gL, ↓km0_pL, ↓qb_so, ↓nm_1, ↓nm_2, ↓reduceIte, if_true, if_false, not_true_eq_false, not_false_eq_true, and_true, true_and, and_false, false_and, or_true, true_or, or_false, false_or, eq_self, ne_eq, quI_s, quI_n, quI2, quL1, quL2, quL3, quR1, quR2, quR3, nI_add, pk_mul, pk_sub, Nat.add_sub_cancel, qm1_add, qm2_add, nI_leI, nI_ltI, nI_eq, nI_m1, nI_m1', nI_clamp, nI_bit, nI_one_shl, nI_m1l, nI_m1lt, nI_m1lt', nI_m1le', oI_some, oI_none, ni_0, ni_1, ni_2, ni_3, ni_4, ni_5, ni_6, ni_7, ni_8, ni_40, fX12_operand_B171, fX12_operand_B441, qle_t, qle_f, qlt_t, qlt_f, qeq_t, qeq_f, e1, e2, e3, e4, h3, t2, a1, a2, a3, a4, a5, a6, a7, a8, bad]
end Q9f

