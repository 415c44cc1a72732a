/-! ===== the reference: what ends a statement, all statements ===== -/
def mRy (S : xSt) (b : Nat) (f : Nat → Nat) (L : Nat) (R : Sum (Nat × Nat) (Nat × (Nat → Nat → Nat) × List (Nat × Nat))) (F : Option (Int32 × xSt)) : Prop := match R with
  | .inl (kd, pl) => ∃ c Z, F = some (c, Z) ∧ (0 < kd ∧ kd < 100) ∧ Z.1 0 8 = nI kd ∧ Z.1 0 9 = nI pl ∧ frG b S Z
  | .inr (c', Y', cc') => ∃ Z e', F = some (nI c', Z) ∧ mkM Z b f L e' Y' cc' ∧ frG b S Z
section Q9zj
variable {S Z V W : xSt} {n L e m o b d t k a s w lo hi j r kd pl K c : Nat} {u : Option Nat} {f : Nat → Nat} {cc mc wc : List (Nat × Nat)} {Y Y' : Nat → Nat → Nat} {F : Option (Int32 × xSt)}
theorem mRy_pre {R : Sum (Nat × Nat) (Nat × (Nat → Nat → Nat) × List (Nat × Nat))} (h : frG b S Z) (h1 : mRy Z b f L R F) : mRy S b f L R F := by
  match R, h1 with
  | .inl (kd, pl), ⟨c, V, x1, x2, x3, x4, x5⟩ => exact ⟨c, V, x1, x2, x3, x4, frG_trans h x5⟩
  | .inr (c', Y', cc'), ⟨V, e', x1, x2, x3⟩ => exact ⟨V, e', x1, x2, frG_trans h x3⟩
theorem m_fnL {x : Int32} (ht : txM S f L) : ∀ (k q a : Nat), L ≤ a + k → k < q → a ≤ 1600 → fX12_finishes_L17 n 0 x q (nI a) S = some (nI (s_sk f L k a), S)
  | 0, q, a, hk, hq, ha => by
    obtain ⟨q, rfl⟩ : ∃ q', q = q' + 1 := ⟨q - 1, by omega⟩
    have h2 := ht.2.1
    have hL := ht.2.2.1
    have hl : L ≤ a := by omega
    show fX12_finishes_L17b _ _ _ _ _ _ = some (nI a, S)
    simp (disch := (first | assumption | omega | exact hB _ _ | exact hYB _ _ | (simp only [yc, yd, sh, sv, ne_eq]; omega) | (simp (disch := omega) only [↓nm_1, ↓nm_2, nI_add, pk_mul, pk_sub, Nat.add_sub_cancel, qm1_add, qm2_add, nI_clamp, ni_0, ni_1, ni_10, ni_32, h2, hl]; refine qin_nI ?_ ?_ <;> first | omega | exact hB _ _ | exact hYB _ _) | (refine qin_nI ?_ ?_ <;> omega) | fail)) only [↓km0_gd, ↓km0_gI, ↓km0_gM, ↓km0_pI, ↓km0_pM, ↓km0_pZ, ↓km0_gL, ↓km0_pL, ↓km0_gF0, ↓km1_al, ↓km1_as, ↓km1_ln, ↓qb_so, ↓nm_1, ↓nm_2, ↓reduceIte, if_true, if_false, not_true_eq_false, not_false_eq_true, and_true, true_and, and_false, false_and, or_true, true_or, or_false, false_or, eq_self, ne_eq, quI_s, quI_n, quI2, quL1, quL2, quL3, quR1, quR2, quR3, nI_add, pk_mul, pk_sub, Nat.add_sub_cancel, qm1_add, qm2_add, nI_leI, nI_ltI, nI_eq, nI_m1, nI_m1', nI_clamp, nI_bit, nI_one_shl, nI_m1l, nI_m1lt, nI_m1lt', nI_m1le', oI_some, oI_none, ni_0, ni_1, ni_10, ni_32, fX12_finishes_L17b, qle_t, qle_f, qlt_t, qlt_f, qeq_t, qeq_f, h2, hl]
  | k + 1, q, a, hk, hq, ha => by
    obtain ⟨q, rfl⟩ : ∃ q', q = q' + 1 := ⟨q - 1, by omega⟩
    have h2 := ht.2.1
    have hL := ht.2.2.1
    have hf := ht.2.2.2.1 a
    show fX12_finishes_L17b _ _ _ _ _ _ = _
    unfold s_sk
    by_cases hl : a < L
    · have h1 := ht.1 a (by omega)
      have hl2 : ¬ L ≤ a := by omega
      have IH := m_fnL (x := x) ht k q (a + 1) (by omega) (by omega) (by omega)
      rw [if_pos hl]
      by_cases h32 : f a = 32
      · rw [if_pos h32]
        simp (disch := (first | assumption | omega | exact hB _ _ | exact hYB _ _ | (simp only [yc, yd, sh, sv, ne_eq]; omega) | (simp (disch := omega) only [↓nm_1, ↓nm_2, nI_add, pk_mul, pk_sub, Nat.add_sub_cancel, qm1_add, qm2_add, nI_clamp, ni_0, ni_1, ni_10, ni_32, h2, hl2, h1, h32, IH]; refine qin_nI ?_ ?_ <;> first | omega | exact hB _ _ | exact hYB _ _) | (refine qin_nI ?_ ?_ <;> omega) | fail)) only [↓km0_gd, ↓km0_gI, ↓km0_gM, ↓km0_pI, ↓km0_pM, ↓km0_pZ, ↓km0_gL, ↓km0_pL, ↓km0_gF0, ↓km1_al, ↓km1_as, ↓km1_ln, ↓qb_so, ↓nm_1, ↓nm_2, ↓reduceIte, if_true, if_false, not_true_eq_false, not_false_eq_true, and_true, true_and, and_false, false_and, or_true, true_or, or_false, false_or, eq_self, ne_eq, quI_s, quI_n, quI2, quL1, quL2, quL3, quR1, quR2, quR3, nI_add, pk_mul, pk_sub, Nat.add_sub_cancel, qm1_add, qm2_add, nI_leI, nI_ltI, nI_eq, nI_m1, nI_m1', nI_clamp, nI_bit, nI_one_shl, nI_m1l, nI_m1lt, nI_m1lt', nI_m1le', oI_some, oI_none, ni_0, ni_1, ni_10, ni_32, fX12_finishes_L17b, qle_t, qle_f, qlt_t, qlt_f, qeq_t, qeq_f, h2, hl2, h1, h32, IH]
      · rw [if_neg h32]
        by_cases h10 : f a = 10
        · rw [if_pos h10]
          simp (disch := (first | assumption | omega | exact hB _ _ | exact hYB _ _ | (simp only [yc, yd, sh, sv, ne_eq]; omega) | (simp (disch := omega) only [↓nm_1, ↓nm_2, nI_add, pk_mul, pk_sub, Nat.add_sub_cancel, qm1_add, qm2_add, nI_clamp, ni_0, ni_1, ni_10, ni_32, h2, hl2, h1, h32, h10, IH]; refine qin_nI ?_ ?_ <;> first | omega | exact hB _ _ | exact hYB _ _) | (refine qin_nI ?_ ?_ <;> omega) | fail)) only [↓km0_gd, ↓km0_gI, ↓km0_gM, ↓km0_pI, ↓km0_pM, ↓km0_pZ, ↓km0_gL, ↓km0_pL, ↓km0_gF0, ↓km1_al, ↓km1_as, ↓km1_ln, ↓qb_so, ↓nm_1, ↓nm_2, ↓reduceIte, if_true, if_false, not_true_eq_false, not_false_eq_true, and_true, true_and, and_false, false_and, or_true, true_or, or_false, false_or, eq_self, ne_eq, quI_s, quI_n, quI2, quL1, quL2, quL3, quR1, quR2, quR3, nI_add, pk_mul, pk_sub, Nat.add_sub_cancel, qm1_add, qm2_add, nI_leI, nI_ltI, nI_eq, nI_m1, nI_m1', nI_clamp, nI_bit, nI_one_shl, nI_m1l, nI_m1lt, nI_m1lt', nI_m1le', oI_some, oI_none, ni_0, ni_1, ni_10, ni_32, fX12_finishes_L17b, qle_t, qle_f, qlt_t, qlt_f, qeq_t, qeq_f, h2, hl2, h1, h32, h10, IH]
        · rw [if_neg h10]
          simp (disch := (first | assumption | omega | exact hB _ _ | exact hYB _ _ | (simp only [yc, yd, sh, sv, ne_eq]; omega) | (simp (disch := omega) only [↓nm_1, ↓nm_2, nI_add, pk_mul, pk_sub, Nat.add_sub_cancel, qm1_add, qm2_add, nI_clamp, ni_0, ni_1, ni_10, ni_32, h2, hl2, h1, h32, h10]; refine qin_nI ?_ ?_ <;> first | omega | exact hB _ _ | exact hYB _ _) | (refine qin_nI ?_ ?_ <;> omega) | fail)) only [↓km0_gd, ↓km0_gI, ↓km0_gM, ↓km0_pI, ↓km0_pM, ↓km0_pZ, ↓km0_gL, ↓km0_pL, ↓km0_gF0, ↓km1_al, ↓km1_as, ↓km1_ln, ↓qb_so, ↓nm_1, ↓nm_2, ↓reduceIte, if_true, if_false, not_true_eq_false, not_false_eq_true, and_true, true_and, and_false, false_and, or_true, true_or, or_false, false_or, eq_self, ne_eq, quI_s, quI_n, quI2, quL1, quL2, quL3, quR1, quR2, quR3, nI_add, pk_mul, pk_sub, Nat.add_sub_cancel, qm1_add, qm2_add, nI_leI, nI_ltI, nI_eq, nI_m1, nI_m1', nI_clamp, nI_bit, nI_one_shl, nI_m1l, nI_m1lt, nI_m1lt', nI_m1le', oI_some, oI_none, ni_0, ni_1, ni_10, ni_32, fX12_finishes_L17b, qle_t, qle_f, qlt_t, qlt_f, qeq_t, qeq_f, h2, hl2, h1, h32, h10]
    · have hl2 : L ≤ a := by omega
      rw [if_neg hl]
      simp (disch := (first | assumption | omega | exact hB _ _ | exact hYB _ _ | (simp only [yc, yd, sh, sv, ne_eq]; omega) | (simp (disch := omega) only [↓nm_1, ↓nm_2, nI_add, pk_mul, pk_sub, Nat.add_sub_cancel, qm1_add, qm2_add, nI_clamp, ni_0, ni_1, ni_10, ni_32, h2, hl2]; refine qin_nI ?_ ?_ <;> first | omega | exact hB _ _ | exact hYB _ _) | (refine qin_nI ?_ ?_ <;> omega) | fail)) only [↓km0_gd, ↓km0_gI, ↓km0_gM, ↓km0_pI, ↓km0_pM, ↓km0_pZ, ↓km0_gL, ↓km0_pL, ↓km0_gF0, ↓km1_al, ↓km1_as, ↓km1_ln, ↓qb_so, ↓nm_1, ↓nm_2, ↓reduceIte, if_true, if_false, not_true_eq_false, not_false_eq_true, and_true, true_and, and_false, false_and, or_true, true_or, or_false, false_or, eq_self, ne_eq, quI_s, quI_n, quI2, quL1, quL2, quL3, quR1, quR2, quR3, nI_add, pk_mul, pk_sub, Nat.add_sub_cancel, qm1_add, qm2_add, nI_leI, nI_ltI, nI_eq, nI_m1, nI_m1', nI_clamp, nI_bit, nI_one_shl, nI_m1l, nI_m1lt, nI_m1lt', nI_m1le', oI_some, oI_none, ni_0, ni_1, ni_10, ni_32, fX12_finishes_L17b, qle_t, qle_f, qlt_t, qlt_f, qeq_t, qeq_f, h2, hl2]
theorem m_finF {x : Int32} (h8 : S.1 0 8 = nI kd) (h0 : 0 < kd) (h1 : kd < 100) : fX12_finishes n 0 x S = some S := by
  have l1 := f_lex h8 h0 h1
  have kn : ¬ kd = 0 := by omega
  simp (disch := (first | assumption | omega | exact hB _ _ | exact hYB _ _ | (simp only [yc, yd, sh, sv, ne_eq]; omega) | (simp (disch := omega) only [↓nm_1, ↓nm_2, nI_add, pk_mul, pk_sub, Nat.add_sub_cancel, qm1_add, qm2_add, nI_clamp, ni_0, ni_1, l1, h8, kn]; refine qin_nI ?_ ?_ <;> first | omega | exact hB _ _ | exact hYB _ _) | (refine qin_nI ?_ ?_ <;> omega) | fail)) only [↓km0_gd, ↓km0_gI, ↓km0_gM, ↓km0_pI, ↓km0_pM, ↓km0_pZ, ↓km0_gL, ↓km0_pL, ↓qb_so, ↓nm_1, ↓nm_2, ↓reduceIte, if_true, if_false, not_true_eq_false, not_false_eq_true, and_true, true_and, and_false, false_and, or_true, true_or, or_false, false_or, eq_self, ne_eq, quI_s, quI_n, quI2, quL1, quL2, quL3, quR1, quR2, quR3, nI_add, pk_mul, pk_sub, Nat.add_sub_cancel, qm1_add, qm2_add, nI_leI, nI_ltI, nI_eq, nI_m1, nI_m1', nI_clamp, nI_bit, nI_one_shl, nI_m1l, nI_m1lt, nI_m1lt', nI_m1le', oI_some, oI_none, ni_0, ni_1, fX12_finishes, qle_t, qle_f, qlt_t, qlt_f, qeq_t, qeq_f, l1, h8, kn]
theorem f_must {x : Nat} (hx : x < 256) (ht : fX12_isSign 0 (nI x) S = fX12_isSign 0 (nI x) V) (hv : tkM V f L e) (h8 : S.1 0 8 = nI kd) (h0 : 0 < kd) (h1 : kd < 100) : fX12_must n 0 (nI x) S = some S := by
  have l1 := f_lex h8 h0 h1
  have kn : ¬ kd = 0 := by omega
  have e1 := m_isS hv hx
  rw [← ht] at e1
  have b1 := m_blame1 (x := nI 1) (y := S.1 0 4) h8 h0 h1
  by_cases hi : ig f L e x
  · rw [if_pos hi] at e1
    simp (disch := (first | assumption | omega | exact hB _ _ | exact hYB _ _ | (simp only [yc, yd, sh, sv, ne_eq]; omega) | (simp (disch := omega) only [↓nm_1, ↓nm_2, nI_add, pk_mul, pk_sub, Nat.add_sub_cancel, qm1_add, qm2_add, nI_clamp, ni_0, ni_1, l1, e1, h8, kn]; refine qin_nI ?_ ?_ <;> first | omega | exact hB _ _ | exact hYB _ _) | (refine qin_nI ?_ ?_ <;> omega) | fail)) only [↓km0_gd, ↓km0_gI, ↓km0_gM, ↓km0_pI, ↓km0_pM, ↓km0_pZ, ↓km0_gL, ↓km0_pL, ↓qb_so, ↓nm_1, ↓nm_2, ↓reduceIte, if_true, if_false, not_true_eq_false, not_false_eq_true, and_true, true_and, and_false, false_and, or_true, true_or, or_false, false_or, eq_self, ne_eq, quI_s, quI_n, quI2, quL1, quL2, quL3, quR1, quR2, quR3, nI_add, pk_mul, pk_sub, Nat.add_sub_cancel, qm1_add, qm2_add, nI_leI, nI_ltI, nI_eq, nI_m1, nI_m1', nI_clamp, nI_bit, nI_one_shl, nI_m1l, nI_m1lt, nI_m1lt', nI_m1le', oI_some, oI_none, ni_0, ni_1, fX12_must, qle_t, qle_f, qlt_t, qlt_f, qeq_t, qeq_f, l1, e1, h8, kn]
  · rw [if_neg hi] at e1
    simp (disch := (first | assumption | omega | exact hB _ _ | exact hYB _ _ | (simp only [yc, yd, sh, sv, ne_eq]; omega) | (simp (disch := omega) only [↓nm_1, ↓nm_2, nI_add, pk_mul, pk_sub, Nat.add_sub_cancel, qm1_add, qm2_add, nI_clamp, ni_0, ni_1, l1, e1, b1, h8, kn]; refine qin_nI ?_ ?_ <;> first | omega | exact hB _ _ | exact hYB _ _) | (refine qin_nI ?_ ?_ <;> omega) | fail)) only [↓km0_gd, ↓km0_gI, ↓km0_gM, ↓km0_pI, ↓km0_pM, ↓km0_pZ, ↓km0_gL, ↓km0_pL, ↓qb_so, ↓nm_1, ↓nm_2, ↓reduceIte, if_true, if_false, not_true_eq_false, not_false_eq_true, and_true, true_and, and_false, false_and, or_true, true_or, or_false, false_or, eq_self, ne_eq, quI_s, quI_n, quI2, quL1, quL2, quL3, quR1, quR2, quR3, nI_add, pk_mul, pk_sub, Nat.add_sub_cancel, qm1_add, qm2_add, nI_leI, nI_ltI, nI_eq, nI_m1, nI_m1', nI_clamp, nI_bit, nI_one_shl, nI_m1l, nI_m1lt, nI_m1lt', nI_m1le', oI_some, oI_none, ni_0, ni_1, fX12_must, qle_t, qle_f, qlt_t, qlt_f, qeq_t, qeq_f, l1, e1, b1, h8, kn]
theorem m_fin (hn : 2000 ≤ n) (he : e ≤ L) (ht : tkM S f L e) (h8 : S.1 0 8 = nI 0) (hc : c ≤ 80) :
    (¬ ig f L e 59 → fX12_finishes n 0 (nI c) S = some (flR S 1 (kP f L e))) ∧
    (ig f L e 59 → c = 80 → kT f L (kE f L e) ≠ 0 → fX12_finishes n 0 (nI c) S = some (flR S 6 (kS f L (kE f L e)))) ∧
    (ig f L e 59 → (c = 80 → kT f L (kE f L e) = 0) → ∃ Z, fX12_finishes n 0 (nI c) S = some Z ∧ tkM Z f L (kE f L e) ∧ frM S Z) := by
  have hL := ht.1.2.2.1
  have hke := kE_from (f := f) he
  have h5 := ht.2.2.2.1
  have h4 := ht.2.2.1
  have h2 := ht.1.2.1
  have l17 := m_fnL (n := n) (x := nI c) ht.1 1600 n (kE f L e) (by omega) (by omega) (by omega)
  have l17' : fX12_finishes_L17 n 0 (nI c) n (nI (kE f L e)) S = some (nI (kS f L (kE f L e)), S) := l17
  have hks : kS f L (kE f L e) ≤ L := by
    have := kE_le (f := f) (e := kE f L e) hke.2
    have := kE_ge (f := f) (L := L) (e := kE f L e)
    omega
  have e1 := m_isS ht (k := 59) (by decide)
  by_cases hw : kW f L e = none
  · have z12 := ht.2.2.2.2.1
    rw [hw] at z12
    have l1 := m_lex0 z12
    by_cases hi : ig f L e 59
    · rw [if_pos hi] at e1
      refine ⟨fun hh => absurd hi hh, fun _ hc80 hT => ?_, fun _ hcT => ?_⟩
      · subst hc80
        have hs := kS_lt hT
        have hl : ¬ L ≤ kS f L (kE f L e) := by omega
        have b1 := m_blame (k := 6) (p := kS f L (kE f L e)) h8
        have y8 : (flR S 6 (kS f L (kE f L e))).1 0 8 = nI 6 := flR_8
        have m1 := f_must (n := n) (x := 59) (S := flR S 6 (kS f L (kE f L e))) (V := S) (by decide) rfl ht y8 (by decide) (by decide)
        have m1' : fX12_must n 0 (nI 59) (xuI (xuI S 0 8 (nI 6)) 0 9 (nI (kS f L (kE f L e)))) = some (xuI (xuI S 0 8 (nI 6)) 0 9 (nI (kS f L (kE f L e)))) := m1
        unfold flR
        simp (disch := (first | assumption | omega | exact hB _ _ | exact hYB _ _ | (simp only [yc, yd, sh, sv, ne_eq]; omega) | (simp (disch := omega) only [↓nm_1, ↓nm_2, nI_add, pk_mul, pk_sub, Nat.add_sub_cancel, qm1_add, qm2_add, nI_clamp, ni_0, ni_1, ni_6, ni_59, ni_80, l1, h8, h5, l17', e1, h2, hl, b1, m1']; refine qin_nI ?_ ?_ <;> first | omega | exact hB _ _ | exact hYB _ _) | (refine qin_nI ?_ ?_ <;> omega) | fail)) only [↓km0_gd, ↓km0_gI, ↓km0_gM, ↓km0_pI, ↓km0_pM, ↓km0_pZ, ↓km0_gL, ↓km0_pL, ↓qb_so, ↓nm_1, ↓nm_2, ↓reduceIte, if_true, if_false, not_true_eq_false, not_false_eq_true, and_true, true_and, and_false, false_and, or_true, true_or, or_false, false_or, eq_self, ne_eq, quI_s, quI_n, quI2, quL1, quL2, quL3, quR1, quR2, quR3, nI_add, pk_mul, pk_sub, Nat.add_sub_cancel, qm1_add, qm2_add, nI_leI, nI_ltI, nI_eq, nI_m1, nI_m1', nI_clamp, nI_bit, nI_one_shl, nI_m1l, nI_m1lt, nI_m1lt', nI_m1le', oI_some, oI_none, ni_0, ni_1, ni_6, ni_59, ni_80, fX12_finishes, fX12_finishes_B53, qle_t, qle_f, qlt_t, qlt_f, qeq_t, qeq_f, l1, h8, h5, l17', e1, h2, hl, b1, m1']
      · obtain ⟨Z, z1, z2, z3⟩ := m_ahead hn ht.1 h5 hke.2
        have m1 : fX12_must n 0 (nI 59) S = some Z := by
          simp (disch := (first | assumption | omega | exact hB _ _ | exact hYB _ _ | (simp only [yc, yd, sh, sv, ne_eq]; omega) | (simp (disch := omega) only [↓nm_1, ↓nm_2, nI_add, pk_mul, pk_sub, Nat.add_sub_cancel, qm1_add, qm2_add, nI_clamp, ni_0, ni_1, l1, e1, h8, z1]; refine qin_nI ?_ ?_ <;> first | omega | exact hB _ _ | exact hYB _ _) | (refine qin_nI ?_ ?_ <;> omega) | fail)) only [↓km0_gd, ↓km0_gI, ↓km0_gM, ↓km0_pI, ↓km0_pM, ↓km0_pZ, ↓km0_gL, ↓km0_pL, ↓qb_so, ↓nm_1, ↓nm_2, ↓reduceIte, if_true, if_false, not_true_eq_false, not_false_eq_true, and_true, true_and, and_false, false_and, or_true, true_or, or_false, false_or, eq_self, ne_eq, quI_s, quI_n, quI2, quL1, quL2, quL3, quR1, quR2, quR3, nI_add, pk_mul, pk_sub, Nat.add_sub_cancel, qm1_add, qm2_add, nI_leI, nI_ltI, nI_eq, nI_m1, nI_m1', nI_clamp, nI_bit, nI_one_shl, nI_m1l, nI_m1lt, nI_m1lt', nI_m1le', oI_some, oI_none, ni_0, ni_1, fX12_must, qle_t, qle_f, qlt_t, qlt_f, qeq_t, qeq_f, l1, e1, h8, z1]
        refine ⟨Z, ?_, z2, z3⟩
        by_cases hc80 : c = 80
        · subst hc80
          have hT := hcT rfl
          have hl : L ≤ kS f L (kE f L e) := by
            unfold kT at hT
            by_cases hx : kS f L (kE f L e) < L
            · rw [if_pos hx] at hT
              split at hT
              · cases hT
              · split at hT <;> cases hT
            · omega
          simp (disch := (first | assumption | omega | exact hB _ _ | exact hYB _ _ | (simp only [yc, yd, sh, sv, ne_eq]; omega) | (simp (disch := omega) only [↓nm_1, ↓nm_2, nI_add, pk_mul, pk_sub, Nat.add_sub_cancel, qm1_add, qm2_add, nI_clamp, ni_0, ni_1, ni_6, ni_59, ni_80, l1, h8, h5, l17', e1, h2, hl, m1]; refine qin_nI ?_ ?_ <;> first | omega | exact hB _ _ | exact hYB _ _) | (refine qin_nI ?_ ?_ <;> omega) | fail)) only [↓km0_gd, ↓km0_gI, ↓km0_gM, ↓km0_pI, ↓km0_pM, ↓km0_pZ, ↓km0_gL, ↓km0_pL, ↓qb_so, ↓nm_1, ↓nm_2, ↓reduceIte, if_true, if_false, not_true_eq_false, not_false_eq_true, and_true, true_and, and_false, false_and, or_true, true_or, or_false, false_or, eq_self, ne_eq, quI_s, quI_n, quI2, quL1, quL2, quL3, quR1, quR2, quR3, nI_add, pk_mul, pk_sub, Nat.add_sub_cancel, qm1_add, qm2_add, nI_leI, nI_ltI, nI_eq, nI_m1, nI_m1', nI_clamp, nI_bit, nI_one_shl, nI_m1l, nI_m1lt, nI_m1lt', nI_m1le', oI_some, oI_none, ni_0, ni_1, ni_6, ni_59, ni_80, fX12_finishes, fX12_finishes_B53, qle_t, qle_f, qlt_t, qlt_f, qeq_t, qeq_f, l1, h8, h5, l17', e1, h2, hl, m1]
        · simp (disch := (first | assumption | omega | exact hB _ _ | exact hYB _ _ | (simp only [yc, yd, sh, sv, ne_eq]; omega) | (simp (disch := omega) only [↓nm_1, ↓nm_2, nI_add, pk_mul, pk_sub, Nat.add_sub_cancel, qm1_add, qm2_add, nI_clamp, ni_0, ni_1, ni_6, ni_59, ni_80, l1, h8, h5, l17', e1, hc80, m1]; refine qin_nI ?_ ?_ <;> first | omega | exact hB _ _ | exact hYB _ _) | (refine qin_nI ?_ ?_ <;> omega) | fail)) only [↓km0_gd, ↓km0_gI, ↓km0_gM, ↓km0_pI, ↓km0_pM, ↓km0_pZ, ↓km0_gL, ↓km0_pL, ↓qb_so, ↓nm_1, ↓nm_2, ↓reduceIte, if_true, if_false, not_true_eq_false, not_false_eq_true, and_true, true_and, and_false, false_and, or_true, true_or, or_false, false_or, eq_self, ne_eq, quI_s, quI_n, quI2, quL1, quL2, quL3, quR1, quR2, quR3, nI_add, pk_mul, pk_sub, Nat.add_sub_cancel, qm1_add, qm2_add, nI_leI, nI_ltI, nI_eq, nI_m1, nI_m1', nI_clamp, nI_bit, nI_one_shl, nI_m1l, nI_m1lt, nI_m1lt', nI_m1le', oI_some, oI_none, ni_0, ni_1, ni_6, ni_59, ni_80, fX12_finishes, fX12_finishes_B53, qle_t, qle_f, qlt_t, qlt_f, qeq_t, qeq_f, l1, h8, h5, l17', e1, hc80, m1]
    · rw [if_neg hi] at e1
      refine ⟨fun _ => ?_, fun hh => absurd hh hi, fun hh => absurd hh hi⟩
      have b1 := m_blame (k := 1) (p := kS f L e) h8
      have y8 : (xuI (xuI S 0 8 (nI 1)) 0 9 (nI (kS f L e))).1 0 8 = nI 1 := flR_8
      have m1 : fX12_must n 0 (nI 59) S = some (flR S 1 (kS f L e)) := by
        unfold flR
        simp (disch := (first | assumption | omega | exact hB _ _ | exact hYB _ _ | (simp only [yc, yd, sh, sv, ne_eq]; omega) | (simp (disch := omega) only [↓nm_1, ↓nm_2, nI_add, pk_mul, pk_sub, Nat.add_sub_cancel, qm1_add, qm2_add, nI_clamp, ni_0, ni_1, l1, e1, h4, b1, y8]; refine qin_nI ?_ ?_ <;> first | omega | exact hB _ _ | exact hYB _ _) | (refine qin_nI ?_ ?_ <;> omega) | fail)) only [↓km0_gd, ↓km0_gI, ↓km0_gM, ↓km0_pI, ↓km0_pM, ↓km0_pZ, ↓km0_gL, ↓km0_pL, ↓qb_so, ↓nm_1, ↓nm_2, ↓reduceIte, if_true, if_false, not_true_eq_false, not_false_eq_true, and_true, true_and, and_false, false_and, or_true, true_or, or_false, false_or, eq_self, ne_eq, quI_s, quI_n, quI2, quL1, quL2, quL3, quR1, quR2, quR3, nI_add, pk_mul, pk_sub, Nat.add_sub_cancel, qm1_add, qm2_add, nI_leI, nI_ltI, nI_eq, nI_m1, nI_m1', nI_clamp, nI_bit, nI_one_shl, nI_m1l, nI_m1lt, nI_m1lt', nI_m1le', oI_some, oI_none, ni_0, ni_1, fX12_must, qle_t, qle_f, qlt_t, qlt_f, qeq_t, qeq_f, l1, e1, h4, b1, y8]
      rw [wk_none hw]
      simp (disch := (first | assumption | omega | exact hB _ _ | exact hYB _ _ | (simp only [yc, yd, sh, sv, ne_eq]; omega) | (simp (disch := omega) only [↓nm_1, ↓nm_2, nI_add, pk_mul, pk_sub, Nat.add_sub_cancel, qm1_add, qm2_add, nI_clamp, ni_0, ni_1, ni_6, ni_59, ni_80, l1, h8, h5, l17', e1, m1]; refine qin_nI ?_ ?_ <;> first | omega | exact hB _ _ | exact hYB _ _) | (refine qin_nI ?_ ?_ <;> omega) | fail)) only [↓km0_gd, ↓km0_gI, ↓km0_gM, ↓km0_pI, ↓km0_pM, ↓km0_pZ, ↓km0_gL, ↓km0_pL, ↓qb_so, ↓nm_1, ↓nm_2, ↓reduceIte, if_true, if_false, not_true_eq_false, not_false_eq_true, and_true, true_and, and_false, false_and, or_true, true_or, or_false, false_or, eq_self, ne_eq, quI_s, quI_n, quI2, quL1, quL2, quL3, quR1, quR2, quR3, nI_add, pk_mul, pk_sub, Nat.add_sub_cancel, qm1_add, qm2_add, nI_leI, nI_ltI, nI_eq, nI_m1, nI_m1', nI_clamp, nI_bit, nI_one_shl, nI_m1l, nI_m1lt, nI_m1lt', nI_m1le', oI_some, oI_none, ni_0, ni_1, ni_6, ni_59, ni_80, fX12_finishes, fX12_finishes_B53, qle_t, qle_f, qlt_t, qlt_f, qeq_t, qeq_f, l1, h8, h5, l17', e1, m1]
  · have l1 := m_lexw he ht h8 hw
    have y8 := flR_8 (S := S) (kd := 1) (pl := kP f L e)
    refine ⟨fun _ => ?_, fun hh => absurd (ig_W hh) hw, fun hh => absurd (ig_W hh) hw⟩
    simp (disch := (first | assumption | omega | exact hB _ _ | exact hYB _ _ | (simp only [yc, yd, sh, sv, ne_eq]; omega) | (simp (disch := omega) only [↓nm_1, ↓nm_2, nI_add, pk_mul, pk_sub, Nat.add_sub_cancel, qm1_add, qm2_add, nI_clamp, ni_0, ni_1, l1, y8]; refine qin_nI ?_ ?_ <;> first | omega | exact hB _ _ | exact hYB _ _) | (refine qin_nI ?_ ?_ <;> omega) | fail)) only [↓km0_gd, ↓km0_gI, ↓km0_gM, ↓km0_pI, ↓km0_pM, ↓km0_pZ, ↓km0_gL, ↓km0_pL, ↓qb_so, ↓nm_1, ↓nm_2, ↓reduceIte, if_true, if_false, not_true_eq_false, not_false_eq_true, and_true, true_and, and_false, false_and, or_true, true_or, or_false, false_or, eq_self, ne_eq, quI_s, quI_n, quI2, quL1, quL2, quL3, quR1, quR2, quR3, nI_add, pk_mul, pk_sub, Nat.add_sub_cancel, qm1_add, qm2_add, nI_leI, nI_ltI, nI_eq, nI_m1, nI_m1', nI_clamp, nI_bit, nI_one_shl, nI_m1l, nI_m1lt, nI_m1lt', nI_m1le', oI_some, oI_none, ni_0, ni_1, fX12_finishes, qle_t, qle_f, qlt_t, qlt_f, qeq_t, qeq_f, l1, y8]
theorem m_yL (hn : 2000 ≤ n) (hb : b < 2) : ∀ (k c q : Nat) (Y : Nat → Nat → Nat) (cc mc wc : List (Nat × Nat)) (S : xSt) (e : Nat), c + k = 80 → k + 1 < q → (k = 0 → kT f L e = 0) → yJa Y cc mc wc → mkM S b f L e Y cc → mRy S b f L (zL f L k c Y cc e) (fX12_year_L123 n 0 q (nI c) S)
  | k, c, q, Y, cc, mc, wc, S, e, hk, hq, hk0, hJ, h => by
    obtain ⟨q, rfl⟩ : ∃ q', q = q' + 1 := ⟨q - 1, by omega⟩
    have hL := h.1.1.2.2.1
    have h8 := h.2.2.1
    have h3 := h.1.2.1
    have t3 := kT_le (f := f) (L := L) (e := e)
    show mRy S b f L (zL f L k c Y cc e) (fX12_year_L123b n 0 (fX12_year_L123 n 0 q) (nI c) S)
    unfold zL
    by_cases hT : kT f L e = 0
    · rw [if_pos hT]
      rw [hT] at h3
      refine ⟨S, e, ?_, h, frG_refl⟩
      simp (disch := (first | assumption | omega | exact hB _ _ | exact hYB _ _ | (simp only [yc, yd, sh, sv, ne_eq]; omega) | (simp (disch := omega) only [↓nm_1, ↓nm_2, nI_add, pk_mul, pk_sub, Nat.add_sub_cancel, qm1_add, qm2_add, nI_clamp, ni_0, ni_1, h8, h3]; refine qin_nI ?_ ?_ <;> first | omega | exact hB _ _ | exact hYB _ _) | (refine qin_nI ?_ ?_ <;> omega) | fail)) only [↓km0_gd, ↓km0_gI, ↓km0_gM, ↓km0_pI, ↓km0_pM, ↓km0_pZ, ↓km0_gL, ↓km0_pL, ↓qb_so, ↓nm_1, ↓nm_2, ↓reduceIte, if_true, if_false, not_true_eq_false, not_false_eq_true, and_true, true_and, and_false, false_and, or_true, true_or, or_false, false_or, eq_self, ne_eq, quI_s, quI_n, quI2, quL1, quL2, quL3, quR1, quR2, quR3, nI_add, pk_mul, pk_sub, Nat.add_sub_cancel, qm1_add, qm2_add, nI_leI, nI_ltI, nI_eq, nI_m1, nI_m1', nI_clamp, nI_bit, nI_one_shl, nI_m1l, nI_m1lt, nI_m1lt', nI_m1le', oI_some, oI_none, ni_0, ni_1, fX12_year_L123b, qle_t, qle_f, qlt_t, qlt_f, qeq_t, qeq_f, h8, h3]
    rw [if_neg hT]
    match k, hk, hq, hk0 with
    | 0, hk, hq, hk0 => exact absurd (hk0 rfl) hT
    | k + 1, hk, hq, hk0 =>
      have st := m_stmt hn hb hJ.1 hJ.2.1 h
      show mRy S b f L (zB (zT f L Y cc e) fun x => zL f L k (c + 1) x.2.1 x.2.2 x.1) _
      -- a fault that stands ends it
      have flt : ∀ {A Z : xSt} {kd pl : Nat}, fX12_statement n 0 S = some A → fX12_finishes n 0 (nI (c + 1)) A = some Z → 0 < kd → kd < 100 → Z.1 0 8 = nI kd → fX12_year_L123b n 0 (fX12_year_L123 n 0 q) (nI c) S = some (nI (c + 1), Z) := by
        intro A Z kd pl s1 s2 k0 k1 z8
        obtain ⟨q, rfl⟩ : ∃ q', q = q' + 1 := ⟨q - 1, by omega⟩
        have kn : ¬ kd = 0 := by omega
        have s3 : fX12_year_L123 n 0 (q + 1) (nI (c + 1)) Z = some (nI (c + 1), Z) := by
          show fX12_year_L123b n 0 _ (nI (c + 1)) Z = _
          simp (disch := (first | assumption | omega | exact hB _ _ | exact hYB _ _ | (simp only [yc, yd, sh, sv, ne_eq]; omega) | (simp (disch := omega) only [↓nm_1, ↓nm_2, nI_add, pk_mul, pk_sub, Nat.add_sub_cancel, qm1_add, qm2_add, nI_clamp, ni_0, ni_1, z8, kn]; refine qin_nI ?_ ?_ <;> first | omega | exact hB _ _ | exact hYB _ _) | (refine qin_nI ?_ ?_ <;> omega) | fail)) only [↓km0_gd, ↓km0_gI, ↓km0_gM, ↓km0_pI, ↓km0_pM, ↓km0_pZ, ↓km0_gL, ↓km0_pL, ↓qb_so, ↓nm_1, ↓nm_2, ↓reduceIte, if_true, if_false, not_true_eq_false, not_false_eq_true, and_true, true_and, and_false, false_and, or_true, true_or, or_false, false_or, eq_self, ne_eq, quI_s, quI_n, quI2, quL1, quL2, quL3, quR1, quR2, quR3, nI_add, pk_mul, pk_sub, Nat.add_sub_cancel, qm1_add, qm2_add, nI_leI, nI_ltI, nI_eq, nI_m1, nI_m1', nI_clamp, nI_bit, nI_one_shl, nI_m1l, nI_m1lt, nI_m1lt', nI_m1le', oI_some, oI_none, ni_0, ni_1, fX12_year_L123b, qle_t, qle_f, qlt_t, qlt_f, qeq_t, qeq_f, z8, kn]
        simp (disch := (first | assumption | omega | exact hB _ _ | exact hYB _ _ | (simp only [yc, yd, sh, sv, ne_eq]; omega) | (simp (disch := omega) only [↓nm_1, ↓nm_2, nI_add, pk_mul, pk_sub, Nat.add_sub_cancel, qm1_add, qm2_add, nI_clamp, ni_0, ni_1, h8, h3, hT, s1, s2, s3]; refine qin_nI ?_ ?_ <;> first | omega | exact hB _ _ | exact hYB _ _) | (refine qin_nI ?_ ?_ <;> omega) | fail)) only [↓km0_gd, ↓km0_gI, ↓km0_gM, ↓km0_pI, ↓km0_pM, ↓km0_pZ, ↓km0_gL, ↓km0_pL, ↓qb_so, ↓nm_1, ↓nm_2, ↓reduceIte, if_true, if_false, not_true_eq_false, not_false_eq_true, and_true, true_and, and_false, false_and, or_true, true_or, or_false, false_or, eq_self, ne_eq, quI_s, quI_n, quI2, quL1, quL2, quL3, quR1, quR2, quR3, nI_add, pk_mul, pk_sub, Nat.add_sub_cancel, qm1_add, qm2_add, nI_leI, nI_ltI, nI_eq, nI_m1, nI_m1', nI_clamp, nI_bit, nI_one_shl, nI_m1l, nI_m1lt, nI_m1lt', nI_m1le', oI_some, oI_none, ni_0, ni_1, fX12_year_L123b, qle_t, qle_f, qlt_t, qlt_f, qeq_t, qeq_f, h8, h3, hT, s1, s2, s3]
      unfold zT
      rcases st with st | ⟨Z, e', x1, x2, x3, x4, x5, x6, x7⟩ | ⟨Z, e', Y', cc', x1, x2, x3, x4, x5, x6⟩
      · cases hz : zS f L Y cc e with
        | inl x =>
          obtain ⟨kd, pl⟩ := x
          rw [hz] at st
          obtain ⟨Z, z1, ⟨k0, k1⟩, z2, z3, z4⟩ := st
          exact ⟨nI (c + 1), Z, flt (pl := pl) z1 (m_finF z2 k0 k1) k0 k1 z2, ⟨k0, k1⟩, z2, z3, z4⟩
        | inr x =>
          obtain ⟨e1, Y1, cc1⟩ := x
          obtain ⟨mc', wc', hJ'⟩ := J_S hJ hL h.2.1 h.2.2.2.2.2.2.1 hz
          rw [hz] at st
          obtain ⟨Z, z1, z2, z3⟩ := st
          obtain ⟨f1, f2, f3⟩ := m_fin (c := c + 1) hn z2.2.1 z2.1 z2.2.2.1 (by omega)
          show mRy S b f L (zB (if ig f L e1 59 then .inr (kE f L e1, Y1, cc1) else .inl (1, kP f L e1)) fun x => zL f L k (c + 1) x.2.1 x.2.2 x.1) _
          by_cases hi : ig f L e1 59
          · rw [if_pos hi]
            by_cases h80 : c + 1 = 80 ∧ kT f L (kE f L e1) ≠ 0
            · have g1 := f2 hi h80.1 h80.2
              have hk' : k = 0 := by omega
              subst hk'
              show mRy S b f L (zL f L 0 (c + 1) Y1 cc1 (kE f L e1)) _
              unfold zL
              rw [if_neg h80.2]
              exact ⟨nI (c + 1), _, flt (pl := 0) z1 g1 (by decide) (by decide) flR_8, ⟨by decide, by decide⟩, flR_8, flR_9, frG_trans z3 frG_fl⟩
            · obtain ⟨V, v1, v2, v3⟩ := f3 hi (fun hh => by
                by_cases hx : kT f L (kE f L e1) = 0
                · exact hx
                · exact absurd ⟨hh, hx⟩ h80)
              have hke := kE_from (f := f) z2.2.1
              have hV := mkM_M z2 hJ'.1 v2 hke.1 hke.2 v3
              refine mRy_pre (frG_trans z3 (frG_M v3)) ?_
              have q1 : fX12_year_L123b n 0 (fX12_year_L123 n 0 q) (nI c) S = fX12_year_L123 n 0 q (nI (c + 1)) V := by
                simp (disch := (first | assumption | omega | exact hB _ _ | exact hYB _ _ | (simp only [yc, yd, sh, sv, ne_eq]; omega) | (simp (disch := omega) only [↓nm_1, ↓nm_2, nI_add, pk_mul, pk_sub, Nat.add_sub_cancel, qm1_add, qm2_add, nI_clamp, ni_0, ni_1, h8, h3, hT, z1, v1]; refine qin_nI ?_ ?_ <;> first | omega | exact hB _ _ | exact hYB _ _) | (refine qin_nI ?_ ?_ <;> omega) | fail)) only [↓km0_gd, ↓km0_gI, ↓km0_gM, ↓km0_pI, ↓km0_pM, ↓km0_pZ, ↓km0_gL, ↓km0_pL, ↓qb_so, ↓nm_1, ↓nm_2, ↓reduceIte, if_true, if_false, not_true_eq_false, not_false_eq_true, and_true, true_and, and_false, false_and, or_true, true_or, or_false, false_or, eq_self, ne_eq, quI_s, quI_n, quI2, quL1, quL2, quL3, quR1, quR2, quR3, nI_add, pk_mul, pk_sub, Nat.add_sub_cancel, qm1_add, qm2_add, nI_leI, nI_ltI, nI_eq, nI_m1, nI_m1', nI_clamp, nI_bit, nI_one_shl, nI_m1l, nI_m1lt, nI_m1lt', nI_m1le', oI_some, oI_none, ni_0, ni_1, fX12_year_L123b, qle_t, qle_f, qlt_t, qlt_f, qeq_t, qeq_f, h8, h3, hT, z1, v1]
              rw [q1]
              exact m_yL hn hb k (c + 1) q Y1 cc1 mc' wc' V (kE f L e1) (by omega) (by omega) (fun hk' => by
                by_cases hx : kT f L (kE f L e1) = 0
                · exact hx
                · exact absurd ⟨by omega, hx⟩ h80) hJ' hV
          · rw [if_neg hi]
            have g1 := f1 hi
            exact ⟨nI (c + 1), _, flt (pl := 0) z1 g1 (by decide) (by decide) flR_8, ⟨by decide, by decide⟩, flR_8, flR_9, frG_trans z3 frG_fl⟩
      · obtain ⟨f1, _, _⟩ := m_fin (c := c + 1) hn x3 x2 x4 (by omega)
        rw [x6]
        have g1 := f1 x5
        exact ⟨nI (c + 1), _, flt (pl := 0) x1 g1 (by decide) (by decide) flR_8, ⟨by decide, by decide⟩, flR_8, flR_9, frG_trans x7 frG_fl⟩
      · rw [x2]
        have hig : ¬ ig f L e' 59 := fun hh => x3 (ig_W hh)
        show mRy S b f L (zB (if ig f L e' 59 then .inr (kE f L e', Y', cc') else .inl (1, kP f L e')) fun x => zL f L k (c + 1) x.2.1 x.2.2 x.1) _
        rw [if_neg hig]
        exact ⟨nI (c + 1), Z, flt (pl := 0) x1 (m_finF x4 (by decide) (by decide)) (by decide) (by decide) x4, ⟨by decide, by decide⟩, x4, x5, x6⟩
end Q9zj

