/-! ===== the reference takes a word, a number, a name ===== -/
def nOk (S : xSt) (f : Nat → Nat) (L e : Nat) (R : Sum (Nat × Nat) (Nat × Nat)) (F : Option (Int32 × xSt)) : Prop := match R with
  | .inl (kd, pl) => (0 < kd ∧ kd < 100) ∧ ∃ v, F = some (v, flR S kd pl)
  | .inr (v, e') => ∃ Z, F = some (nI v, Z) ∧ tkM Z f L e' ∧ e' ≤ L ∧ e ≤ e' ∧ frM S Z
def wOk (S : xSt) (f : Nat → Nat) (L e : Nat) (R : Sum (Nat × Nat) Nat) (F : Option xSt) : Prop := match R with
  | .inl (kd, pl) => (0 < kd ∧ kd < 100) ∧ F = some (flR S kd pl)
  | .inr e' => ∃ Z, F = some Z ∧ tkM Z f L e' ∧ e' ≤ L ∧ e ≤ e' ∧ frM S Z
def aOk (S : xSt) (f : Nat → Nat) (L e : Nat) (R : Sum (Nat × Nat) (Nat × Nat)) (F : Option (Int64 × xSt)) : Prop := match R with
  | .inl (kd, pl) => (0 < kd ∧ kd < 100) ∧ ∃ v, F = some (v, flR S kd pl)
  | .inr (v, e') => ∃ Z, F = some (lN (s_long v), Z) ∧ tkM Z f L e' ∧ e' ≤ L ∧ e ≤ e' ∧ frM S Z
section Q9z9
variable {S Z V W : xSt} {n L e m o b d t k a s w lo hi j r kd pl : Nat} {u : Option Nat} {f : Nat → Nat} {cc mc wc : List (Nat × Nat)} {Y Y' : Nat → Nat → Nat}
theorem f_lex (h8 : S.1 0 8 = nI kd) (h0 : 0 < kd) (h1 : kd < 100) : fX12_lex 0 S = some S := by
  by_cases h12 : S.1 0 12 = qm1
  · exact m_lex0 h12
  · have b1 := m_blame1 (x := nI 1) (y := S.1 0 12) h8 h0 h1
    simp (disch := (first | assumption | omega | exact hB _ _ | exact hYB _ _ | (simp only [yc, yd, sh, sv, ne_eq]; omega) | (simp (disch := omega) only [↓nm_1, ↓nm_2, nI_add, pk_mul, pk_sub, Nat.add_sub_cancel, qm1_add, qm2_add, nI_clamp, ni_0, ni_1, h12, b1]; refine qin_nI ?_ ?_ <;> first | omega | exact hB _ _ | exact hYB _ _) | (refine qin_nI ?_ ?_ <;> omega) | fail)) only [↓km0_gd, ↓km0_gI, ↓km0_gM, ↓km0_pI, ↓km0_pM, ↓km0_pZ, ↓km0_gL, ↓km0_pL, ↓qb_so, ↓nm_1, ↓nm_2, ↓reduceIte, if_true, if_false, not_true_eq_false, not_false_eq_true, and_true, true_and, and_false, false_and, or_true, true_or, or_false, false_or, eq_self, ne_eq, quI_s, quI_n, quI2, quL1, quL2, quL3, quR1, quR2, quR3, nI_add, pk_mul, pk_sub, Nat.add_sub_cancel, qm1_add, qm2_add, nI_leI, nI_ltI, nI_eq, nI_m1, nI_m1', nI_clamp, nI_bit, nI_one_shl, nI_m1l, nI_m1lt, nI_m1lt', nI_m1le', oI_some, oI_none, ni_0, ni_1, fX12_lex, qle_t, qle_f, qlt_t, qlt_f, qeq_t, qeq_f, h12, b1]
theorem f_must_ {x : Int64} (h8 : S.1 0 8 = nI kd) (h0 : 0 < kd) (h1 : kd < 100) : fX12_must_ n 0 x S = some S := by
  have l1 := f_lex h8 h0 h1
  have k0 : ¬ kd = 0 := by omega
  simp (disch := (first | assumption | omega | exact hB _ _ | exact hYB _ _ | (simp only [yc, yd, sh, sv, ne_eq]; omega) | (simp (disch := omega) only [↓nm_1, ↓nm_2, nI_add, pk_mul, pk_sub, Nat.add_sub_cancel, qm1_add, qm2_add, nI_clamp, ni_0, ni_1, l1, h8, k0]; refine qin_nI ?_ ?_ <;> first | omega | exact hB _ _ | exact hYB _ _) | (refine qin_nI ?_ ?_ <;> omega) | fail)) only [↓km0_gd, ↓km0_gI, ↓km0_gM, ↓km0_pI, ↓km0_pM, ↓km0_pZ, ↓km0_gL, ↓km0_pL, ↓qb_so, ↓nm_1, ↓nm_2, ↓reduceIte, if_true, if_false, not_true_eq_false, not_false_eq_true, and_true, true_and, and_false, false_and, or_true, true_or, or_false, false_or, eq_self, ne_eq, quI_s, quI_n, quI2, quL1, quL2, quL3, quR1, quR2, quR3, nI_add, pk_mul, pk_sub, Nat.add_sub_cancel, qm1_add, qm2_add, nI_leI, nI_ltI, nI_eq, nI_m1, nI_m1', nI_clamp, nI_bit, nI_one_shl, nI_m1l, nI_m1lt, nI_m1lt', nI_m1le', oI_some, oI_none, ni_0, ni_1, fX12_must_, qle_t, qle_f, qlt_t, qlt_f, qeq_t, qeq_f, l1, h8, k0]
theorem f_num {x y : Int32} (h8 : S.1 0 8 = nI kd) (h0 : 0 < kd) (h1 : kd < 100) : fX12_number n 0 x y S = some (nI 0, S) := by
  have l1 := f_lex h8 h0 h1
  have k0 : ¬ kd = 0 := by omega
  simp (disch := (first | assumption | omega | exact hB _ _ | exact hYB _ _ | (simp only [yc, yd, sh, sv, ne_eq]; omega) | (simp (disch := omega) only [↓nm_1, ↓nm_2, nI_add, pk_mul, pk_sub, Nat.add_sub_cancel, qm1_add, qm2_add, nI_clamp, ni_0, ni_1, ni_2, l1, h8, k0]; refine qin_nI ?_ ?_ <;> first | omega | exact hB _ _ | exact hYB _ _) | (refine qin_nI ?_ ?_ <;> omega) | fail)) only [↓km0_gd, ↓km0_gI, ↓km0_gM, ↓km0_pI, ↓km0_pM, ↓km0_pZ, ↓km0_gL, ↓km0_pL, ↓qb_so, ↓nm_1, ↓nm_2, ↓reduceIte, if_true, if_false, not_true_eq_false, not_false_eq_true, and_true, true_and, and_false, false_and, or_true, true_or, or_false, false_or, eq_self, ne_eq, quI_s, quI_n, quI2, quL1, quL2, quL3, quR1, quR2, quR3, nI_add, pk_mul, pk_sub, Nat.add_sub_cancel, qm1_add, qm2_add, nI_leI, nI_ltI, nI_eq, nI_m1, nI_m1', nI_clamp, nI_bit, nI_one_shl, nI_m1l, nI_m1lt, nI_m1lt', nI_m1le', oI_some, oI_none, ni_0, ni_1, ni_2, fX12_number, qle_t, qle_f, qlt_t, qlt_f, qeq_t, qeq_f, l1, h8, k0]
theorem f_fresh (h8 : S.1 0 8 = nI kd) (h0 : 0 < kd) (h1 : kd < 100) : fX12_fresh n 0 S = some (0, S) := by
  have l1 := f_lex h8 h0 h1
  have k0 : ¬ kd = 0 := by omega
  simp (disch := (first | assumption | omega | exact hB _ _ | exact hYB _ _ | (simp only [yc, yd, sh, sv, ne_eq]; omega) | (simp (disch := omega) only [↓nm_1, ↓nm_2, nI_add, pk_mul, pk_sub, Nat.add_sub_cancel, qm1_add, qm2_add, nI_clamp, ni_0, ni_1, l1, h8, k0]; refine qin_nI ?_ ?_ <;> first | omega | exact hB _ _ | exact hYB _ _) | (refine qin_nI ?_ ?_ <;> omega) | fail)) only [↓km0_gd, ↓km0_gI, ↓km0_gM, ↓km0_pI, ↓km0_pM, ↓km0_pZ, ↓km0_gL, ↓km0_pL, ↓qb_so, ↓nm_1, ↓nm_2, ↓reduceIte, if_true, if_false, not_true_eq_false, not_false_eq_true, and_true, true_and, and_false, false_and, or_true, true_or, or_false, false_or, eq_self, ne_eq, quI_s, quI_n, quI2, quL1, quL2, quL3, quR1, quR2, quR3, nI_add, pk_mul, pk_sub, Nat.add_sub_cancel, qm1_add, qm2_add, nI_leI, nI_ltI, nI_eq, nI_m1, nI_m1', nI_clamp, nI_bit, nI_one_shl, nI_m1l, nI_m1lt, nI_m1lt', nI_m1le', oI_some, oI_none, ni_0, ni_1, fX12_fresh, qle_t, qle_f, qlt_t, qlt_f, qeq_t, qeq_f, l1, h8, k0]
theorem f_ask {x y : Int32} (h8 : S.1 0 8 = nI kd) (h0 : 0 < kd) (h1 : kd < 100) : fX12_askedBut n 0 x y S = some (nI 0, S) := by
  have l1 := f_lex h8 h0 h1
  have k0 : ¬ kd = 0 := by omega
  simp (disch := (first | assumption | omega | exact hB _ _ | exact hYB _ _ | (simp only [yc, yd, sh, sv, ne_eq]; omega) | (simp (disch := omega) only [↓nm_1, ↓nm_2, nI_add, pk_mul, pk_sub, Nat.add_sub_cancel, qm1_add, qm2_add, nI_clamp, ni_0, ni_1, l1, h8, k0]; refine qin_nI ?_ ?_ <;> first | omega | exact hB _ _ | exact hYB _ _) | (refine qin_nI ?_ ?_ <;> omega) | fail)) only [↓km0_gd, ↓km0_gI, ↓km0_gM, ↓km0_pI, ↓km0_pM, ↓km0_pZ, ↓km0_gL, ↓km0_pL, ↓qb_so, ↓nm_1, ↓nm_2, ↓reduceIte, if_true, if_false, not_true_eq_false, not_false_eq_true, and_true, true_and, and_false, false_and, or_true, true_or, or_false, false_or, eq_self, ne_eq, quI_s, quI_n, quI2, quL1, quL2, quL3, quR1, quR2, quR3, nI_add, pk_mul, pk_sub, Nat.add_sub_cancel, qm1_add, qm2_add, nI_leI, nI_ltI, nI_eq, nI_m1, nI_m1', nI_clamp, nI_bit, nI_one_shl, nI_m1l, nI_m1lt, nI_m1lt', nI_m1le', oI_some, oI_none, ni_0, ni_1, fX12_askedBut, qle_t, qle_f, qlt_t, qlt_f, qeq_t, qeq_f, l1, h8, k0]
theorem f_round (h8 : S.1 0 8 = nI kd) (h0 : 0 < kd) (h1 : kd < 100) : fX12_round n 0 S = some (nI 0, xuI S 0 52 (nI 0)) := by
  have n1 := f_num (n := n) (x := nI 0) (y := nI 9999) h8 h0 h1
  have h8' : (xuI S 0 52 (nI 0)).1 0 8 = nI kd := by rw [quI_k (by omega)]; exact h8
  have n2 := f_must_ (n := n) (x := 28518) h8' h0 h1
  have n3 := f_num (n := n) (x := nI 2) (y := nI 30) h8' h0 h1
  simp (disch := (first | assumption | omega | exact hB _ _ | exact hYB _ _ | (simp only [yc, yd, sh, sv, ne_eq]; omega) | (simp (disch := omega) only [↓nm_1, ↓nm_2, nI_add, pk_mul, pk_sub, Nat.add_sub_cancel, qm1_add, qm2_add, nI_clamp, ni_0, ni_1, ni_2, ni_30, ni_9999, n1, n2, n3]; refine qin_nI ?_ ?_ <;> first | omega | exact hB _ _ | exact hYB _ _) | (refine qin_nI ?_ ?_ <;> omega) | fail)) only [↓km0_gd, ↓km0_gI, ↓km0_gM, ↓km0_pI, ↓km0_pM, ↓km0_pZ, ↓km0_gL, ↓km0_pL, ↓qb_so, ↓nm_1, ↓nm_2, ↓reduceIte, if_true, if_false, not_true_eq_false, not_false_eq_true, and_true, true_and, and_false, false_and, or_true, true_or, or_false, false_or, eq_self, ne_eq, quI_s, quI_n, quI2, quL1, quL2, quL3, quR1, quR2, quR3, nI_add, pk_mul, pk_sub, Nat.add_sub_cancel, qm1_add, qm2_add, nI_leI, nI_ltI, nI_eq, nI_m1, nI_m1', nI_clamp, nI_bit, nI_one_shl, nI_m1l, nI_m1lt, nI_m1lt', nI_m1le', oI_some, oI_none, ni_0, ni_1, ni_2, ni_30, ni_9999, fX12_round, qle_t, qle_f, qlt_t, qlt_f, qeq_t, qeq_f, n1, n2, n3]
theorem wk_none (hw : kW f L e = none) : kP f L e = kS f L e := by unfold kP; rw [hw]
theorem mt_W (hn : 2000 ≤ n) (he : e ≤ L) (h : tkM S f L e) (h8 : S.1 0 8 = nI 0) (hk : k < 32) : wOk S f L e (tW f L k e) (fX12_must_ n 0 (lN (s_oc k)) S) := by
  obtain ⟨a1, a2⟩ := m_mustW hn he h h8 hk
  unfold tW
  have hke := kE_from (f := f) he
  by_cases hi : iw f L e k
  · rw [if_pos hi]
    obtain ⟨Z, z1, z2, z3⟩ := a1 hi
    exact ⟨Z, z1, z2, hke.2, hke.1, z3⟩
  · rw [if_neg hi]
    exact ⟨⟨by decide, by decide⟩, a2 hi⟩
theorem mt_N (hn : 2000 ≤ n) (he : e ≤ L) (h : tkM S f L e) (h8 : S.1 0 8 = nI 0) (hlo : lo < 100000) (hhi : hi < 100000) : nOk S f L e (tN f L lo hi e) (fX12_number n 0 (nI lo) (nI hi) S) := by
  have hke := kE_from (f := f) he
  have h3 := h.2.1
  have h4 := h.2.2.1
  have t3 := kT_le (f := f) (L := L) (e := e)
  unfold tN
  by_cases hw : kW f L e = none
  · have z12 := h.2.2.2.2.1
    rw [hw] at z12
    have l1 := m_lex0 z12
    by_cases hT : kT f L e = 2
    · have hi' : iN f L e := ⟨hw, hT⟩
      rw [if_pos hi']
      have h6 := h.2.2.2.2.2.1 (Or.inl hT)
      have hv := kV_num hT
      rw [hT] at h3
      by_cases hr : lo ≤ kV f L e ∧ kV f L e ≤ hi
      · rw [if_pos hr]
        obtain ⟨Z, z1, z2, z3⟩ := m_ahead hn h.1 h.2.2.2.1 hke.2
        refine ⟨Z, ?_, z2, hke.2, hke.1, z3⟩
        have r1 := hr.1
        have r2 : ¬ hi < kV f L e := by omega
        have r3 := hr.2
        have r4 : ¬ kV f L e < lo := by omega
        have q1 : fX12_is (nI (kV f L e)) (nI lo) (nI hi) S = some (nI 1) := by
          simp (disch := (first | assumption | omega | exact hB _ _ | exact hYB _ _ | (simp only [yc, yd, sh, sv, ne_eq]; omega) | (simp (disch := omega) only [↓nm_1, ↓nm_2, nI_add, pk_mul, pk_sub, Nat.add_sub_cancel, qm1_add, qm2_add, nI_clamp, ni_0, ni_1, r1, r2, r3, r4]; refine qin_nI ?_ ?_ <;> first | omega | exact hB _ _ | exact hYB _ _) | (refine qin_nI ?_ ?_ <;> omega) | fail)) only [↓km0_gd, ↓km0_gI, ↓km0_gM, ↓km0_pI, ↓km0_pM, ↓km0_pZ, ↓km0_gL, ↓km0_pL, ↓qb_so, ↓nm_1, ↓nm_2, ↓reduceIte, if_true, if_false, not_true_eq_false, not_false_eq_true, and_true, true_and, and_false, false_and, or_true, true_or, or_false, false_or, eq_self, ne_eq, quI_s, quI_n, quI2, quL1, quL2, quL3, quR1, quR2, quR3, nI_add, pk_mul, pk_sub, Nat.add_sub_cancel, qm1_add, qm2_add, nI_leI, nI_ltI, nI_eq, nI_m1, nI_m1', nI_clamp, nI_bit, nI_one_shl, nI_m1l, nI_m1lt, nI_m1lt', nI_m1le', oI_some, oI_none, ni_0, ni_1, fX12_is, qle_t, qle_f, qlt_t, qlt_f, qeq_t, qeq_f, r1, r2, r3, r4]
        simp (disch := (first | assumption | omega | exact hB _ _ | exact hYB _ _ | (simp only [yc, yd, sh, sv, ne_eq]; omega) | (simp (disch := omega) only [↓nm_1, ↓nm_2, nI_add, pk_mul, pk_sub, Nat.add_sub_cancel, qm1_add, qm2_add, nI_clamp, ni_0, ni_1, ni_2, ni_4, l1, h8, h3, h6, q1, z1]; refine qin_nI ?_ ?_ <;> first | omega | exact hB _ _ | exact hYB _ _) | (refine qin_nI ?_ ?_ <;> omega) | fail)) only [↓km0_gd, ↓km0_gI, ↓km0_gM, ↓km0_pI, ↓km0_pM, ↓km0_pZ, ↓km0_gL, ↓km0_pL, ↓qb_so, ↓nm_1, ↓nm_2, ↓reduceIte, if_true, if_false, not_true_eq_false, not_false_eq_true, and_true, true_and, and_false, false_and, or_true, true_or, or_false, false_or, eq_self, ne_eq, quI_s, quI_n, quI2, quL1, quL2, quL3, quR1, quR2, quR3, nI_add, pk_mul, pk_sub, Nat.add_sub_cancel, qm1_add, qm2_add, nI_leI, nI_ltI, nI_eq, nI_m1, nI_m1', nI_clamp, nI_bit, nI_one_shl, nI_m1l, nI_m1lt, nI_m1lt', nI_m1le', oI_some, oI_none, ni_0, ni_1, ni_2, ni_4, fX12_number, fX12_number_B30, qle_t, qle_f, qlt_t, qlt_f, qeq_t, qeq_f, l1, h8, h3, h6, q1, z1]
      · rw [if_neg hr]
        have q1 : fX12_is (nI (kV f L e)) (nI lo) (nI hi) S = some (nI 0) := by
          by_cases r1 : kV f L e < lo
          · have r2 : ¬ lo ≤ kV f L e := by omega
            simp (disch := (first | assumption | omega | exact hB _ _ | exact hYB _ _ | (simp only [yc, yd, sh, sv, ne_eq]; omega) | (simp (disch := omega) only [↓nm_1, ↓nm_2, nI_add, pk_mul, pk_sub, Nat.add_sub_cancel, qm1_add, qm2_add, nI_clamp, ni_0, ni_1, r1, r2]; refine qin_nI ?_ ?_ <;> first | omega | exact hB _ _ | exact hYB _ _) | (refine qin_nI ?_ ?_ <;> omega) | fail)) only [↓km0_gd, ↓km0_gI, ↓km0_gM, ↓km0_pI, ↓km0_pM, ↓km0_pZ, ↓km0_gL, ↓km0_pL, ↓qb_so, ↓nm_1, ↓nm_2, ↓reduceIte, if_true, if_false, not_true_eq_false, not_false_eq_true, and_true, true_and, and_false, false_and, or_true, true_or, or_false, false_or, eq_self, ne_eq, quI_s, quI_n, quI2, quL1, quL2, quL3, quR1, quR2, quR3, nI_add, pk_mul, pk_sub, Nat.add_sub_cancel, qm1_add, qm2_add, nI_leI, nI_ltI, nI_eq, nI_m1, nI_m1', nI_clamp, nI_bit, nI_one_shl, nI_m1l, nI_m1lt, nI_m1lt', nI_m1le', oI_some, oI_none, ni_0, ni_1, fX12_is, qle_t, qle_f, qlt_t, qlt_f, qeq_t, qeq_f, r1, r2]
          · have r2 : lo ≤ kV f L e := by omega
            have r3 : hi < kV f L e := by omega
            have r4 : ¬ kV f L e ≤ hi := by omega
            simp (disch := (first | assumption | omega | exact hB _ _ | exact hYB _ _ | (simp only [yc, yd, sh, sv, ne_eq]; omega) | (simp (disch := omega) only [↓nm_1, ↓nm_2, nI_add, pk_mul, pk_sub, Nat.add_sub_cancel, qm1_add, qm2_add, nI_clamp, ni_0, ni_1, r1, r2, r3, r4]; refine qin_nI ?_ ?_ <;> first | omega | exact hB _ _ | exact hYB _ _) | (refine qin_nI ?_ ?_ <;> omega) | fail)) only [↓km0_gd, ↓km0_gI, ↓km0_gM, ↓km0_pI, ↓km0_pM, ↓km0_pZ, ↓km0_gL, ↓km0_pL, ↓qb_so, ↓nm_1, ↓nm_2, ↓reduceIte, if_true, if_false, not_true_eq_false, not_false_eq_true, and_true, true_and, and_false, false_and, or_true, true_or, or_false, false_or, eq_self, ne_eq, quI_s, quI_n, quI2, quL1, quL2, quL3, quR1, quR2, quR3, nI_add, pk_mul, pk_sub, Nat.add_sub_cancel, qm1_add, qm2_add, nI_leI, nI_ltI, nI_eq, nI_m1, nI_m1', nI_clamp, nI_bit, nI_one_shl, nI_m1l, nI_m1lt, nI_m1lt', nI_m1le', oI_some, oI_none, ni_0, ni_1, fX12_is, qle_t, qle_f, qlt_t, qlt_f, qeq_t, qeq_f, r1, r2, r3, r4]
        have b1 := m_blame (k := 4) (p := kS f L e) h8
        refine ⟨⟨by decide, by decide⟩, nI (kV f L e), ?_⟩
        unfold flR
        simp (disch := (first | assumption | omega | exact hB _ _ | exact hYB _ _ | (simp only [yc, yd, sh, sv, ne_eq]; omega) | (simp (disch := omega) only [↓nm_1, ↓nm_2, nI_add, pk_mul, pk_sub, Nat.add_sub_cancel, qm1_add, qm2_add, nI_clamp, ni_0, ni_1, ni_2, ni_4, l1, h8, h3, h4, h6, q1, b1]; refine qin_nI ?_ ?_ <;> first | omega | exact hB _ _ | exact hYB _ _) | (refine qin_nI ?_ ?_ <;> omega) | fail)) only [↓km0_gd, ↓km0_gI, ↓km0_gM, ↓km0_pI, ↓km0_pM, ↓km0_pZ, ↓km0_gL, ↓km0_pL, ↓qb_so, ↓nm_1, ↓nm_2, ↓reduceIte, if_true, if_false, not_true_eq_false, not_false_eq_true, and_true, true_and, and_false, false_and, or_true, true_or, or_false, false_or, eq_self, ne_eq, quI_s, quI_n, quI2, quL1, quL2, quL3, quR1, quR2, quR3, nI_add, pk_mul, pk_sub, Nat.add_sub_cancel, qm1_add, qm2_add, nI_leI, nI_ltI, nI_eq, nI_m1, nI_m1', nI_clamp, nI_bit, nI_one_shl, nI_m1l, nI_m1lt, nI_m1lt', nI_m1le', oI_some, oI_none, ni_0, ni_1, ni_2, ni_4, fX12_number, fX12_number_B30, qle_t, qle_f, qlt_t, qlt_f, qeq_t, qeq_f, l1, h8, h3, h4, h6, q1, b1]
    · rw [if_neg (fun hh => hT hh.2)]
      have b1 := m_blame (k := 1) (p := kS f L e) h8
      refine ⟨⟨by decide, by decide⟩, S.1 0 6, ?_⟩
      rw [wk_none hw]
      unfold flR
      simp (disch := (first | assumption | omega | exact hB _ _ | exact hYB _ _ | (simp only [yc, yd, sh, sv, ne_eq]; omega) | (simp (disch := omega) only [↓nm_1, ↓nm_2, nI_add, pk_mul, pk_sub, Nat.add_sub_cancel, qm1_add, qm2_add, nI_clamp, ni_0, ni_1, ni_2, ni_4, l1, h8, h3, h4, hT, b1]; refine qin_nI ?_ ?_ <;> first | omega | exact hB _ _ | exact hYB _ _) | (refine qin_nI ?_ ?_ <;> omega) | fail)) only [↓km0_gd, ↓km0_gI, ↓km0_gM, ↓km0_pI, ↓km0_pM, ↓km0_pZ, ↓km0_gL, ↓km0_pL, ↓qb_so, ↓nm_1, ↓nm_2, ↓reduceIte, if_true, if_false, not_true_eq_false, not_false_eq_true, and_true, true_and, and_false, false_and, or_true, true_or, or_false, false_or, eq_self, ne_eq, quI_s, quI_n, quI2, quL1, quL2, quL3, quR1, quR2, quR3, nI_add, pk_mul, pk_sub, Nat.add_sub_cancel, qm1_add, qm2_add, nI_leI, nI_ltI, nI_eq, nI_m1, nI_m1', nI_clamp, nI_bit, nI_one_shl, nI_m1l, nI_m1lt, nI_m1lt', nI_m1le', oI_some, oI_none, ni_0, ni_1, ni_2, ni_4, fX12_number, fX12_number_B30, qle_t, qle_f, qlt_t, qlt_f, qeq_t, qeq_f, l1, h8, h3, h4, hT, b1]
  · rw [if_neg (fun hh => hw hh.1)]
    have l1 := m_lexw he h h8 hw
    have y8 := flR_8 (S := S) (kd := 1) (pl := kP f L e)
    refine ⟨⟨by decide, by decide⟩, nI 0, ?_⟩
    simp (disch := (first | assumption | omega | exact hB _ _ | exact hYB _ _ | (simp only [yc, yd, sh, sv, ne_eq]; omega) | (simp (disch := omega) only [↓nm_1, ↓nm_2, nI_add, pk_mul, pk_sub, Nat.add_sub_cancel, qm1_add, qm2_add, nI_clamp, ni_0, ni_1, ni_2, l1, y8]; refine qin_nI ?_ ?_ <;> first | omega | exact hB _ _ | exact hYB _ _) | (refine qin_nI ?_ ?_ <;> omega) | fail)) only [↓km0_gd, ↓km0_gI, ↓km0_gM, ↓km0_pI, ↓km0_pM, ↓km0_pZ, ↓km0_gL, ↓km0_pL, ↓qb_so, ↓nm_1, ↓nm_2, ↓reduceIte, if_true, if_false, not_true_eq_false, not_false_eq_true, and_true, true_and, and_false, false_and, or_true, true_or, or_false, false_or, eq_self, ne_eq, quI_s, quI_n, quI2, quL1, quL2, quL3, quR1, quR2, quR3, nI_add, pk_mul, pk_sub, Nat.add_sub_cancel, qm1_add, qm2_add, nI_leI, nI_ltI, nI_eq, nI_m1, nI_m1', nI_clamp, nI_bit, nI_one_shl, nI_m1l, nI_m1lt, nI_m1lt', nI_m1le', oI_some, oI_none, ni_0, ni_1, ni_2, fX12_number, qle_t, qle_f, qlt_t, qlt_f, qeq_t, qeq_f, l1, y8]
/-- a name's token -/
theorem nm_tok (hL : L ≤ 1600) (h : tkM S f L e) (hi : isNm f L e) : S.2.1 0 7 = lN (s_long (kV f L e)) ∧ s_nmOk (kV f L e) ∧ kV f L e < 2 ^ 30 ∧ fX12_isOwn 0 (lN (s_long (kV f L e))) V = some (nI 0) := by
  obtain ⟨q1, q2, q3⟩ := k_word hL hi.2.1 hi.1
  have g7 := h.2.2.2.2.2.2 hi.2.1
  rw [← q1] at g7
  refine ⟨g7, q2, q3, m_ownF (fun k hk hh => ?_)⟩
  obtain ⟨o1, o2, o3, o4⟩ := own_k hk
  rw [← o1] at hh
  have := w_inj q3 o2 q2 o3 ((pk_lEQ (s_long_lt q2) (s_long_lt o3)).mp hh)
  have h3 := hi.2.2
  rw [s_ow_iff.mpr ⟨hk, this.symm⟩] at h3
  cases h3
/-- no name's token, but right -/
theorem nm_not (hL : L ≤ 1600) (h : tkM S f L e) (hw : kW f L e = none) (hT : kT f L e = 1) (hi : ¬ isNm f L e) : fX12_isOwn 0 (S.2.1 0 7) V = some (nI 1) := by
  obtain ⟨q1, q2, q3⟩ := k_word hL hT hw
  have g7 := h.2.2.2.2.2.2 hT
  rw [← q1] at g7
  cases hx : s_ow (kV f L e) with
  | none => exact absurd ⟨hw, hT, hx⟩ hi
  | some k =>
    obtain ⟨hk, hk2⟩ := s_ow_iff.mp hx
    refine m_ownT hk ?_
    rw [g7, ← hk2, (own_k hk).1]
theorem mt_F (hn : 2000 ≤ n) (hb : b < 2) (hY : yrOk Y) (hN : yJn Y) (h40 : S.1 0 40 = nI b) (hI : mI S b Y) (he : e ≤ L) (h : tkM S f L e) (h8 : S.1 0 8 = nI 0) : aOk S f L e (tF f L Y e) (fX12_fresh n 0 S) := by
  have hke := kE_from (f := f) he
  have hL := h.1.2.2.1
  have h3 := h.2.1
  have h4 := h.2.2.1
  have t3 := kT_le (f := f) (L := L) (e := e)
  unfold tF
  by_cases hw : kW f L e = none
  · have z12 := h.2.2.2.2.1
    rw [hw] at z12
    have l1 := m_lex0 z12
    by_cases hi : isNm f L e
    · rw [if_pos hi]
      obtain ⟨g7, q2, q3, q4⟩ := nm_tok (V := S) hL h hi
      rw [hi.2.1] at h3
      have gen : ∀ (k i q : Nat), i + k = 4 → k < q → fX12_fresh_L43 n 0 q (nI i) S = some (if s_gvL Y (kV f L e) k i = true then flR S 2 (kS f L e) else S) := by
        intro k
        induction k with
        | zero =>
          intro i q hik hq
          obtain ⟨q, rfl⟩ : ∃ q', q = q' + 1 := ⟨q - 1, by omega⟩
          have hi4 : i = 4 := by omega
          subst hi4
          show fX12_fresh_L43b n 0 _ (nI 4) S = some S
          simp (disch := (first | assumption | omega | exact hB _ _ | exact hYB _ _ | (simp only [yc, yd, sh, sv, ne_eq]; omega) | (simp (disch := omega) only [↓nm_1, ↓nm_2, nI_add, pk_mul, pk_sub, Nat.add_sub_cancel, qm1_add, qm2_add, nI_clamp, ni_0, ni_1, ni_2, ni_3]; refine qin_nI ?_ ?_ <;> first | omega | exact hB _ _ | exact hYB _ _) | (refine qin_nI ?_ ?_ <;> omega) | fail)) only [↓km0_gd, ↓km0_gI, ↓km0_gM, ↓km0_pI, ↓km0_pM, ↓km0_pZ, ↓km0_gL, ↓km0_pL, ↓qb_so, ↓nm_1, ↓nm_2, ↓reduceIte, if_true, if_false, not_true_eq_false, not_false_eq_true, and_true, true_and, and_false, false_and, or_true, true_or, or_false, false_or, eq_self, ne_eq, quI_s, quI_n, quI2, quL1, quL2, quL3, quR1, quR2, quR3, nI_add, pk_mul, pk_sub, Nat.add_sub_cancel, qm1_add, qm2_add, nI_leI, nI_ltI, nI_eq, nI_m1, nI_m1', nI_clamp, nI_bit, nI_one_shl, nI_m1l, nI_m1lt, nI_m1lt', nI_m1le', oI_some, oI_none, ni_0, ni_1, ni_2, ni_3, fX12_fresh_L43b, qle_t, qle_f, qlt_t, qlt_f, qeq_t, qeq_f]
        | succ k ih =>
          intro i q hik hq
          obtain ⟨q, rfl⟩ : ∃ q', q = q' + 1 := ⟨q - 1, by omega⟩
          have e1 := m_nmd hn hb hY hN (by omega : i < 4) h40 hI q2 q3
          have i4 : ¬ 3 < i := by omega
          show fX12_fresh_L43b n 0 _ (nI i) S = _
          unfold s_gvL
          cases hx : s_fd Y i (kV f L e) with
          | none =>
            rw [hx] at e1
            have e1' : fX12_named n 0 (nI i) (lN (s_long (kV f L e))) S = some qm1 := e1
            have ih' := ih (i + 1) q (by omega) (by omega)
            simp (disch := (first | assumption | omega | exact hB _ _ | exact hYB _ _ | (simp only [yc, yd, sh, sv, ne_eq]; omega) | (simp (disch := omega) only [↓nm_1, ↓nm_2, nI_add, pk_mul, pk_sub, Nat.add_sub_cancel, qm1_add, qm2_add, nI_clamp, ni_0, ni_1, ni_2, ni_3, i4, h8, g7, e1', ih']; refine qin_nI ?_ ?_ <;> first | omega | exact hB _ _ | exact hYB _ _) | (refine qin_nI ?_ ?_ <;> omega) | fail)) only [↓km0_gd, ↓km0_gI, ↓km0_gM, ↓km0_pI, ↓km0_pM, ↓km0_pZ, ↓km0_gL, ↓km0_pL, ↓qb_so, ↓nm_1, ↓nm_2, ↓reduceIte, if_true, if_false, not_true_eq_false, not_false_eq_true, and_true, true_and, and_false, false_and, or_true, true_or, or_false, false_or, eq_self, ne_eq, quI_s, quI_n, quI2, quL1, quL2, quL3, quR1, quR2, quR3, nI_add, pk_mul, pk_sub, Nat.add_sub_cancel, qm1_add, qm2_add, nI_leI, nI_ltI, nI_eq, nI_m1, nI_m1', nI_clamp, nI_bit, nI_one_shl, nI_m1l, nI_m1lt, nI_m1lt', nI_m1le', oI_some, oI_none, ni_0, ni_1, ni_2, ni_3, fX12_fresh_L43b, qle_t, qle_f, qlt_t, qlt_f, qeq_t, qeq_f, i4, h8, g7, e1', ih']
            rfl
          | some x =>
            rw [hx] at e1
            have hxl := s_fd_lt hx
            have hB := hY.2.2.2.2.2.2.2.2.2.2.2.1 2 i
            have e1' : fX12_named n 0 (nI i) (lN (s_long (kV f L e))) S = some (nI x) := e1
            have b1 := m_blame (k := 2) (p := kS f L e) h8
            have y8 : (xuI (xuI S 0 8 (nI 2)) 0 9 (nI (kS f L e))).1 0 8 = nI 2 := flR_8
            have hx31 : x < 2 ^ 31 := by omega
            obtain ⟨q, rfl⟩ : ∃ q', q = q' + 1 := ⟨q - 1, by omega⟩
            have s2 : fX12_fresh_L43 n 0 (q + 1) (nI (i + 1)) (xuI (xuI S 0 8 (nI 2)) 0 9 (nI (kS f L e))) = some (xuI (xuI S 0 8 (nI 2)) 0 9 (nI (kS f L e))) := by
              show fX12_fresh_L43b n 0 _ (nI (i + 1)) _ = _
              by_cases i3 : 3 < i + 1
              · simp (disch := (first | assumption | omega | exact hB _ _ | exact hYB _ _ | (simp only [yc, yd, sh, sv, ne_eq]; omega) | (simp (disch := omega) only [↓nm_1, ↓nm_2, nI_add, pk_mul, pk_sub, Nat.add_sub_cancel, qm1_add, qm2_add, nI_clamp, ni_0, ni_1, ni_2, ni_3, i3]; refine qin_nI ?_ ?_ <;> first | omega | exact hB _ _ | exact hYB _ _) | (refine qin_nI ?_ ?_ <;> omega) | fail)) only [↓km0_gd, ↓km0_gI, ↓km0_gM, ↓km0_pI, ↓km0_pM, ↓km0_pZ, ↓km0_gL, ↓km0_pL, ↓qb_so, ↓nm_1, ↓nm_2, ↓reduceIte, if_true, if_false, not_true_eq_false, not_false_eq_true, and_true, true_and, and_false, false_and, or_true, true_or, or_false, false_or, eq_self, ne_eq, quI_s, quI_n, quI2, quL1, quL2, quL3, quR1, quR2, quR3, nI_add, pk_mul, pk_sub, Nat.add_sub_cancel, qm1_add, qm2_add, nI_leI, nI_ltI, nI_eq, nI_m1, nI_m1', nI_clamp, nI_bit, nI_one_shl, nI_m1l, nI_m1lt, nI_m1lt', nI_m1le', oI_some, oI_none, ni_0, ni_1, ni_2, ni_3, fX12_fresh_L43b, qle_t, qle_f, qlt_t, qlt_f, qeq_t, qeq_f, i3]
              · simp (disch := (first | assumption | omega | exact hB _ _ | exact hYB _ _ | (simp only [yc, yd, sh, sv, ne_eq]; omega) | (simp (disch := omega) only [↓nm_1, ↓nm_2, nI_add, pk_mul, pk_sub, Nat.add_sub_cancel, qm1_add, qm2_add, nI_clamp, ni_0, ni_1, ni_2, ni_3, i3, y8]; refine qin_nI ?_ ?_ <;> first | omega | exact hB _ _ | exact hYB _ _) | (refine qin_nI ?_ ?_ <;> omega) | fail)) only [↓km0_gd, ↓km0_gI, ↓km0_gM, ↓km0_pI, ↓km0_pM, ↓km0_pZ, ↓km0_gL, ↓km0_pL, ↓qb_so, ↓nm_1, ↓nm_2, ↓reduceIte, if_true, if_false, not_true_eq_false, not_false_eq_true, and_true, true_and, and_false, false_and, or_true, true_or, or_false, false_or, eq_self, ne_eq, quI_s, quI_n, quI2, quL1, quL2, quL3, quR1, quR2, quR3, nI_add, pk_mul, pk_sub, Nat.add_sub_cancel, qm1_add, qm2_add, nI_leI, nI_ltI, nI_eq, nI_m1, nI_m1', nI_clamp, nI_bit, nI_one_shl, nI_m1l, nI_m1lt, nI_m1lt', nI_m1le', oI_some, oI_none, ni_0, ni_1, ni_2, ni_3, fX12_fresh_L43b, qle_t, qle_f, qlt_t, qlt_f, qeq_t, qeq_f, i3, y8]
            simp (disch := (first | assumption | omega | exact hB _ _ | exact hYB _ _ | (simp only [yc, yd, sh, sv, ne_eq]; omega) | (simp (disch := omega) only [↓nm_1, ↓nm_2, nI_add, pk_mul, pk_sub, Nat.add_sub_cancel, qm1_add, qm2_add, nI_clamp, ni_0, ni_1, ni_2, ni_3, i4, h8, g7, e1', h4, b1, s2]; refine qin_nI ?_ ?_ <;> first | omega | exact hB _ _ | exact hYB _ _) | (refine qin_nI ?_ ?_ <;> omega) | fail)) only [↓km0_gd, ↓km0_gI, ↓km0_gM, ↓km0_pI, ↓km0_pM, ↓km0_pZ, ↓km0_gL, ↓km0_pL, ↓qb_so, ↓nm_1, ↓nm_2, ↓reduceIte, if_true, if_false, not_true_eq_false, not_false_eq_true, and_true, true_and, and_false, false_and, or_true, true_or, or_false, false_or, eq_self, ne_eq, quI_s, quI_n, quI2, quL1, quL2, quL3, quR1, quR2, quR3, nI_add, pk_mul, pk_sub, Nat.add_sub_cancel, qm1_add, qm2_add, nI_leI, nI_ltI, nI_eq, nI_m1, nI_m1', nI_clamp, nI_bit, nI_one_shl, nI_m1l, nI_m1lt, nI_m1lt', nI_m1le', oI_some, oI_none, ni_0, ni_1, ni_2, ni_3, fX12_fresh_L43b, qle_t, qle_f, qlt_t, qlt_f, qeq_t, qeq_f, i4, h8, g7, e1', h4, b1, s2]
            rfl
      have g1 := gen 4 0 n (by omega) (by omega)
      unfold s_gv
      by_cases hx : s_gvL Y (kV f L e) 4 0 = true
      · rw [if_pos hx] at g1 ⊢
        refine ⟨⟨by decide, by decide⟩, lN (s_long (kV f L e)), ?_⟩
        have y8 := flR_8 (S := S) (kd := 2) (pl := kS f L e)
        have y7 : (flR S 2 (kS f L e)).2.1 0 7 = lN (s_long (kV f L e)) := g7
        simp (disch := (first | assumption | omega | exact hB _ _ | exact hYB _ _ | (simp only [yc, yd, sh, sv, ne_eq]; omega) | (simp (disch := omega) only [↓nm_1, ↓nm_2, nI_add, pk_mul, pk_sub, Nat.add_sub_cancel, qm1_add, qm2_add, nI_clamp, ni_0, ni_1, l1, h8, h3, g7, q4, g1, y8, y7]; refine qin_nI ?_ ?_ <;> first | omega | exact hB _ _ | exact hYB _ _) | (refine qin_nI ?_ ?_ <;> omega) | fail)) only [↓km0_gd, ↓km0_gI, ↓km0_gM, ↓km0_pI, ↓km0_pM, ↓km0_pZ, ↓km0_gL, ↓km0_pL, ↓qb_so, ↓nm_1, ↓nm_2, ↓reduceIte, if_true, if_false, not_true_eq_false, not_false_eq_true, and_true, true_and, and_false, false_and, or_true, true_or, or_false, false_or, eq_self, ne_eq, quI_s, quI_n, quI2, quL1, quL2, quL3, quR1, quR2, quR3, nI_add, pk_mul, pk_sub, Nat.add_sub_cancel, qm1_add, qm2_add, nI_leI, nI_ltI, nI_eq, nI_m1, nI_m1', nI_clamp, nI_bit, nI_one_shl, nI_m1l, nI_m1lt, nI_m1lt', nI_m1le', oI_some, oI_none, ni_0, ni_1, fX12_fresh, fX12_fresh_B41, qle_t, qle_f, qlt_t, qlt_f, qeq_t, qeq_f, l1, h8, h3, g7, q4, g1, y8, y7]
      · rw [if_neg hx] at g1 ⊢
        obtain ⟨Z, z1, z2, z3⟩ := m_ahead hn h.1 h.2.2.2.1 hke.2
        refine ⟨Z, ?_, z2, hke.2, hke.1, z3⟩
        simp (disch := (first | assumption | omega | exact hB _ _ | exact hYB _ _ | (simp only [yc, yd, sh, sv, ne_eq]; omega) | (simp (disch := omega) only [↓nm_1, ↓nm_2, nI_add, pk_mul, pk_sub, Nat.add_sub_cancel, qm1_add, qm2_add, nI_clamp, ni_0, ni_1, l1, h8, h3, g7, q4, g1, z1]; refine qin_nI ?_ ?_ <;> first | omega | exact hB _ _ | exact hYB _ _) | (refine qin_nI ?_ ?_ <;> omega) | fail)) only [↓km0_gd, ↓km0_gI, ↓km0_gM, ↓km0_pI, ↓km0_pM, ↓km0_pZ, ↓km0_gL, ↓km0_pL, ↓qb_so, ↓nm_1, ↓nm_2, ↓reduceIte, if_true, if_false, not_true_eq_false, not_false_eq_true, and_true, true_and, and_false, false_and, or_true, true_or, or_false, false_or, eq_self, ne_eq, quI_s, quI_n, quI2, quL1, quL2, quL3, quR1, quR2, quR3, nI_add, pk_mul, pk_sub, Nat.add_sub_cancel, qm1_add, qm2_add, nI_leI, nI_ltI, nI_eq, nI_m1, nI_m1', nI_clamp, nI_bit, nI_one_shl, nI_m1l, nI_m1lt, nI_m1lt', nI_m1le', oI_some, oI_none, ni_0, ni_1, fX12_fresh, fX12_fresh_B41, qle_t, qle_f, qlt_t, qlt_f, qeq_t, qeq_f, l1, h8, h3, g7, q4, g1, z1]
    · rw [if_neg hi, wk_none hw]
      refine ⟨⟨by decide, by decide⟩, S.2.1 0 7, ?_⟩
      have b1 := m_blame (k := 1) (p := kS f L e) h8
      have y8 : (xuI (xuI S 0 8 (nI 1)) 0 9 (nI (kS f L e))).1 0 8 = nI 1 := flR_8
      obtain ⟨n, rfl⟩ : ∃ n', n = n' + 1 := ⟨n - 1, by omega⟩
      have s2 : fX12_fresh_L43 (n + 1) 0 (n + 1) (nI 0) (xuI (xuI S 0 8 (nI 1)) 0 9 (nI (kS f L e))) = some (xuI (xuI S 0 8 (nI 1)) 0 9 (nI (kS f L e))) := by
        show fX12_fresh_L43b (n + 1) 0 _ (nI 0) _ = _
        simp (disch := (first | assumption | omega | exact hB _ _ | exact hYB _ _ | (simp only [yc, yd, sh, sv, ne_eq]; omega) | (simp (disch := omega) only [↓nm_1, ↓nm_2, nI_add, pk_mul, pk_sub, Nat.add_sub_cancel, qm1_add, qm2_add, nI_clamp, ni_0, ni_1, ni_2, ni_3, y8]; refine qin_nI ?_ ?_ <;> first | omega | exact hB _ _ | exact hYB _ _) | (refine qin_nI ?_ ?_ <;> omega) | fail)) only [↓km0_gd, ↓km0_gI, ↓km0_gM, ↓km0_pI, ↓km0_pM, ↓km0_pZ, ↓km0_gL, ↓km0_pL, ↓qb_so, ↓nm_1, ↓nm_2, ↓reduceIte, if_true, if_false, not_true_eq_false, not_false_eq_true, and_true, true_and, and_false, false_and, or_true, true_or, or_false, false_or, eq_self, ne_eq, quI_s, quI_n, quI2, quL1, quL2, quL3, quR1, quR2, quR3, nI_add, pk_mul, pk_sub, Nat.add_sub_cancel, qm1_add, qm2_add, nI_leI, nI_ltI, nI_eq, nI_m1, nI_m1', nI_clamp, nI_bit, nI_one_shl, nI_m1l, nI_m1lt, nI_m1lt', nI_m1le', oI_some, oI_none, ni_0, ni_1, ni_2, ni_3, fX12_fresh_L43b, qle_t, qle_f, qlt_t, qlt_f, qeq_t, qeq_f, y8]
      by_cases hT : kT f L e = 1
      · have q4 := nm_not (V := S) hL h hw hT hi
        rw [hT] at h3
        unfold flR
        simp (disch := (first | assumption | omega | exact hB _ _ | exact hYB _ _ | (simp only [yc, yd, sh, sv, ne_eq]; omega) | (simp (disch := omega) only [↓nm_1, ↓nm_2, nI_add, pk_mul, pk_sub, Nat.add_sub_cancel, qm1_add, qm2_add, nI_clamp, ni_0, ni_1, l1, h8, h3, h4, q4, b1, s2, y8]; refine qin_nI ?_ ?_ <;> first | omega | exact hB _ _ | exact hYB _ _) | (refine qin_nI ?_ ?_ <;> omega) | fail)) only [↓km0_gd, ↓km0_gI, ↓km0_gM, ↓km0_pI, ↓km0_pM, ↓km0_pZ, ↓km0_gL, ↓km0_pL, ↓qb_so, ↓nm_1, ↓nm_2, ↓reduceIte, if_true, if_false, not_true_eq_false, not_false_eq_true, and_true, true_and, and_false, false_and, or_true, true_or, or_false, false_or, eq_self, ne_eq, quI_s, quI_n, quI2, quL1, quL2, quL3, quR1, quR2, quR3, nI_add, pk_mul, pk_sub, Nat.add_sub_cancel, qm1_add, qm2_add, nI_leI, nI_ltI, nI_eq, nI_m1, nI_m1', nI_clamp, nI_bit, nI_one_shl, nI_m1l, nI_m1lt, nI_m1lt', nI_m1le', oI_some, oI_none, ni_0, ni_1, fX12_fresh, fX12_fresh_B32, fX12_fresh_B41, qle_t, qle_f, qlt_t, qlt_f, qeq_t, qeq_f, l1, h8, h3, h4, q4, b1, s2, y8]
      · unfold flR
        simp (disch := (first | assumption | omega | exact hB _ _ | exact hYB _ _ | (simp only [yc, yd, sh, sv, ne_eq]; omega) | (simp (disch := omega) only [↓nm_1, ↓nm_2, nI_add, pk_mul, pk_sub, Nat.add_sub_cancel, qm1_add, qm2_add, nI_clamp, ni_0, ni_1, l1, h8, h3, h4, hT, b1, s2, y8]; refine qin_nI ?_ ?_ <;> first | omega | exact hB _ _ | exact hYB _ _) | (refine qin_nI ?_ ?_ <;> omega) | fail)) only [↓km0_gd, ↓km0_gI, ↓km0_gM, ↓km0_pI, ↓km0_pM, ↓km0_pZ, ↓km0_gL, ↓km0_pL, ↓qb_so, ↓nm_1, ↓nm_2, ↓reduceIte, if_true, if_false, not_true_eq_false, not_false_eq_true, and_true, true_and, and_false, false_and, or_true, true_or, or_false, false_or, eq_self, ne_eq, quI_s, quI_n, quI2, quL1, quL2, quL3, quR1, quR2, quR3, nI_add, pk_mul, pk_sub, Nat.add_sub_cancel, qm1_add, qm2_add, nI_leI, nI_ltI, nI_eq, nI_m1, nI_m1', nI_clamp, nI_bit, nI_one_shl, nI_m1l, nI_m1lt, nI_m1lt', nI_m1le', oI_some, oI_none, ni_0, ni_1, fX12_fresh, fX12_fresh_B32, fX12_fresh_B41, qle_t, qle_f, qlt_t, qlt_f, qeq_t, qeq_f, l1, h8, h3, h4, hT, b1, s2, y8]
  · rw [if_neg (fun hh => hw hh.1)]
    have l1 := m_lexw he h h8 hw
    have y8 := flR_8 (S := S) (kd := 1) (pl := kP f L e)
    refine ⟨⟨by decide, by decide⟩, 0, ?_⟩
    simp (disch := (first | assumption | omega | exact hB _ _ | exact hYB _ _ | (simp only [yc, yd, sh, sv, ne_eq]; omega) | (simp (disch := omega) only [↓nm_1, ↓nm_2, nI_add, pk_mul, pk_sub, Nat.add_sub_cancel, qm1_add, qm2_add, nI_clamp, ni_0, ni_1, l1, y8]; refine qin_nI ?_ ?_ <;> first | omega | exact hB _ _ | exact hYB _ _) | (refine qin_nI ?_ ?_ <;> omega) | fail)) only [↓km0_gd, ↓km0_gI, ↓km0_gM, ↓km0_pI, ↓km0_pM, ↓km0_pZ, ↓km0_gL, ↓km0_pL, ↓qb_so, ↓nm_1, ↓nm_2, ↓reduceIte, if_true, if_false, not_true_eq_false, not_false_eq_true, and_true, true_and, and_false, false_and, or_true, true_or, or_false, false_or, eq_self, ne_eq, quI_s, quI_n, quI2, quL1, quL2, quL3, quR1, quR2, quR3, nI_add, pk_mul, pk_sub, Nat.add_sub_cancel, qm1_add, qm2_add, nI_leI, nI_ltI, nI_eq, nI_m1, nI_m1', nI_clamp, nI_bit, nI_one_shl, nI_m1l, nI_m1lt, nI_m1lt', nI_m1le', oI_some, oI_none, ni_0, ni_1, fX12_fresh, qle_t, qle_f, qlt_t, qlt_f, qeq_t, qeq_f, l1, y8]
end Q9z9

