/-! ===== the reference reads a rule: not, brackets, all ===== -/
section Q9i
variable {S Z V : xSt} {n L e m o b d t k a A D K H B r : Nat} {f : Nat → Nat} {c c' : List (Nat × Nat)} {P P' : List Nat} {o' D' K' H' B' A' : Nat}
theorem o_w30 (h : stM S b f L m e c P o D K H B A) (hi : iw f L e 30) : fX12_operand_B171 n 0 S = fX12_operand_B249 n 0 (nI (mSort (9, 0))) S := by
  have hL := h.1.1.2.2.1
  have e1 := m_isS h.1 (k := 40) (by decide)
  have e2 := w_l30 hL h.1 hi.1
  rw [if_neg (iw_ig hi)] at e1
  rw [if_pos hi] at e2
  have ms : mSort (9, 0) = 36 := rfl
  rw [ms]
  simp (disch := (first | assumption | omega | exact hB _ _ | exact hYB _ _ | (simp only [yc, yd, sh, sv, ne_eq]; omega) | (simp (disch := omega) only [↓nm_1, ↓nm_2, nI_add, pk_mul, pk_sub, Nat.add_sub_cancel, qm1_add, qm2_add, nI_clamp, ni_0, ni_1, ni_2, ni_3, ni_4, ni_5, ni_6, ni_7, ni_8, ni_36, ni_37, ni_40, ni_44, e1, e2]; refine qin_nI ?_ ?_ <;> first | omega | exact hB _ _ | exact hYB _ _) | (refine qin_nI ?_ ?_ <;> omega) | fail)) only [↓km0_gd, ↓km0_gI, ↓km0_gM, ↓km0_pI, ↓km0_pM, ↓km0_pZ, ↓km0_gL, ↓km0_pL, ↓qb_so, ↓nm_1, ↓nm_2, ↓reduceIte, if_true, if_false, not_true_eq_false, not_false_eq_true, and_true, true_and, and_false, false_and, or_true, true_or, or_false, false_or, eq_self, ne_eq, quI_s, quI_n, quI2, quL1, quL2, quL3, quR1, quR2, quR3, nI_add, pk_mul, pk_sub, Nat.add_sub_cancel, qm1_add, qm2_add, nI_leI, nI_ltI, nI_eq, nI_m1, nI_m1', nI_clamp, nI_bit, nI_one_shl, nI_m1l, nI_m1lt, nI_m1lt', nI_m1le', oI_some, oI_none, ni_0, ni_1, ni_2, ni_3, ni_4, ni_5, ni_6, ni_7, ni_8, ni_36, ni_37, ni_40, ni_44, fX12_operand_B171, fX12_operand_B217, qle_t, qle_f, qlt_t, qlt_f, qeq_t, qeq_f, e1, e2]
theorem o_w31 (h : stM S b f L m e c P o D K H B A) (hi : iw f L e 31) : fX12_operand_B171 n 0 S = fX12_operand_B249 n 0 (nI (mSort (10, 0))) S := by
  have hL := h.1.1.2.2.1
  have e1 := m_isS h.1 (k := 40) (by decide)
  have e2 := w_l30 hL h.1 hi.1
  have e3 := w_l31 hL h.1 hi.1
  rw [if_neg (iw_ig hi)] at e1
  rw [if_neg (iw_one (by decide) (by decide) hi (by decide))] at e2
  rw [if_pos hi] at e3
  have ms : mSort (10, 0) = 37 := rfl
  rw [ms]
  simp (disch := (first | assumption | omega | exact hB _ _ | exact hYB _ _ | (simp only [yc, yd, sh, sv, ne_eq]; omega) | (simp (disch := omega) only [↓nm_1, ↓nm_2, nI_add, pk_mul, pk_sub, Nat.add_sub_cancel, qm1_add, qm2_add, nI_clamp, ni_0, ni_1, ni_2, ni_3, ni_4, ni_5, ni_6, ni_7, ni_8, ni_36, ni_37, ni_40, ni_44, e1, e2, e3]; refine qin_nI ?_ ?_ <;> first | omega | exact hB _ _ | exact hYB _ _) | (refine qin_nI ?_ ?_ <;> omega) | fail)) only [↓km0_gd, ↓km0_gI, ↓km0_gM, ↓km0_pI, ↓km0_pM, ↓km0_pZ, ↓km0_gL, ↓km0_pL, ↓qb_so, ↓nm_1, ↓nm_2, ↓reduceIte, if_true, if_false, not_true_eq_false, not_false_eq_true, and_true, true_and, and_false, false_and, or_true, true_or, or_false, false_or, eq_self, ne_eq, quI_s, quI_n, quI2, quL1, quL2, quL3, quR1, quR2, quR3, nI_add, pk_mul, pk_sub, Nat.add_sub_cancel, qm1_add, qm2_add, nI_leI, nI_ltI, nI_eq, nI_m1, nI_m1', nI_clamp, nI_bit, nI_one_shl, nI_m1l, nI_m1lt, nI_m1lt', nI_m1le', oI_some, oI_none, ni_0, ni_1, ni_2, ni_3, ni_4, ni_5, ni_6, ni_7, ni_8, ni_36, ni_37, ni_40, ni_44, fX12_operand_B171, fX12_operand_B217, qle_t, qle_f, qlt_t, qlt_f, qeq_t, qeq_f, e1, e2, e3]
theorem o_w25 (h : stM S b f L m e c P o D K H B A) (hi : iw f L e 25) : fX12_operand_B171 n 0 S = fX12_operand_B249 n 0 (nI (mSort (3, 0))) S := by
  have hL := h.1.1.2.2.1
  have e1 := m_isS h.1 (k := 40) (by decide)
  have e2 := w_l30 hL h.1 hi.1
  have e3 := w_l31 hL h.1 hi.1
  have e4 := w_l25 hL h.1 hi.1
  rw [if_neg (iw_ig hi)] at e1
  rw [if_neg (iw_one (by decide) (by decide) hi (by decide))] at e2 e3
  rw [if_pos hi] at e4
  have ms : mSort (3, 0) = 44 := rfl
  rw [ms]
  simp (disch := (first | assumption | omega | exact hB _ _ | exact hYB _ _ | (simp only [yc, yd, sh, sv, ne_eq]; omega) | (simp (disch := omega) only [↓nm_1, ↓nm_2, nI_add, pk_mul, pk_sub, Nat.add_sub_cancel, qm1_add, qm2_add, nI_clamp, ni_0, ni_1, ni_2, ni_3, ni_4, ni_5, ni_6, ni_7, ni_8, ni_36, ni_37, ni_40, ni_44, e1, e2, e3, e4]; refine qin_nI ?_ ?_ <;> first | omega | exact hB _ _ | exact hYB _ _) | (refine qin_nI ?_ ?_ <;> omega) | fail)) only [↓km0_gd, ↓km0_gI, ↓km0_gM, ↓km0_pI, ↓km0_pM, ↓km0_pZ, ↓km0_gL, ↓km0_pL, ↓qb_so, ↓nm_1, ↓nm_2, ↓reduceIte, if_true, if_false, not_true_eq_false, not_false_eq_true, and_true, true_and, and_false, false_and, or_true, true_or, or_false, false_or, eq_self, ne_eq, quI_s, quI_n, quI2, quL1, quL2, quL3, quR1, quR2, quR3, nI_add, pk_mul, pk_sub, Nat.add_sub_cancel, qm1_add, qm2_add, nI_leI, nI_ltI, nI_eq, nI_m1, nI_m1', nI_clamp, nI_bit, nI_one_shl, nI_m1l, nI_m1lt, nI_m1lt', nI_m1le', oI_some, oI_none, ni_0, ni_1, ni_2, ni_3, ni_4, ni_5, ni_6, ni_7, ni_8, ni_36, ni_37, ni_40, ni_44, fX12_operand_B171, fX12_operand_B217, qle_t, qle_f, qlt_t, qlt_f, qeq_t, qeq_f, e1, e2, e3, e4]
theorem o_br (h : stM S b f L m e c P o D K H 1 A) (hK : K ≤ 6) (ht : isTs K) (hi : ig f L e 91) : fX12_operand n 0 S = (fX12_opens n 0 (nI 5) (xuI S 29 (D - 1) (nI 0))).bind fun Z => some (nI 0, Z) := by
  have h0 := stM_bare h
  have hw := ig_W hi
  obtain ⟨g1, g2, g3, g4, g5, g6, g7, g8, g9, g10, g11, g12⟩ := h
  have hL := g1.1.2.2.1
  have z12 := g1.2.2.2.2.1
  rw [hw] at z12
  have l1 := m_lex0 z12
  have i1 := o_isTest (S := S) hK
  have h47 := g6.1
  have h27 := g6.2.1
  have h29 := g6.2.2.2.1
  have hD : D ≤ 8 := by omega
  have zz := fun (g : xSt → Option (Int32 × xSt)) => m_zs0 (S := S) (g := g) (by omega : D - 1 < 20)
  rw [if_pos (show K = 1 ∨ K = 5 ∨ K = 6 from ht)] at i1
  have e1 := w_l28 hL g1 hw
  have e2 := m_isS h0.1.1 (k := 91) (by decide)
  rw [if_neg (fun hh => iw_ig hh hi)] at e1
  rw [if_pos hi] at e2
  simp (disch := (first | assumption | omega | exact hB _ _ | exact hYB _ _ | (simp only [yc, yd, sh, sv, ne_eq]; omega) | (simp (disch := omega) only [↓nm_1, ↓nm_2, nI_add, pk_mul, pk_sub, Nat.add_sub_cancel, qm1_add, qm2_add, nI_clamp, ni_0, ni_1, ni_5, ni_7, ni_91, l1, g3, h47, h27, h29, i1, zz, e1, e2]; refine qin_nI ?_ ?_ <;> first | omega | exact hB _ _ | exact hYB _ _) | (refine qin_nI ?_ ?_ <;> omega) | fail)) only [↓km0_gd, ↓km0_gI, ↓km0_gM, ↓km0_pI, ↓km0_pM, ↓km0_pZ, ↓km0_gL, ↓km0_pL, ↓km0_gF42, ↓km0_gF44, ↓km27_al, ↓km27_as, ↓km27_ln, ↓km29_zl, ↓km29_zs0, ↓km29_zs1, ↓qb_so, ↓nm_1, ↓nm_2, ↓reduceIte, if_true, if_false, not_true_eq_false, not_false_eq_true, and_true, true_and, and_false, false_and, or_true, true_or, or_false, false_or, eq_self, ne_eq, quI_s, quI_n, quI2, quL1, quL2, quL3, quR1, quR2, quR3, nI_add, pk_mul, pk_sub, Nat.add_sub_cancel, qm1_add, qm2_add, nI_leI, nI_ltI, nI_eq, nI_m1, nI_m1', nI_clamp, nI_bit, nI_one_shl, nI_m1l, nI_m1lt, nI_m1lt', nI_m1le', oI_some, oI_none, ni_0, ni_1, ni_5, ni_7, ni_91, fX12_operand, fX12_operand_B45, fX12_operand_B46, fX12_operand_B110, qle_t, qle_f, qlt_t, qlt_f, qeq_t, qeq_f, l1, g3, h47, h27, h29, i1, zz, e1, e2]
theorem o_all (hn : 2000 ≤ n) (hb : b < 2) (h : stM S b f L m e c P o D K H 1 A) (hK : K ≤ 6) (ht : isTs K) (hi : iw f L e 29) : ∃ Z, fX12_operand n 0 S = some (nI 1, Z) ∧ stM Z b f L m (kE f L e) (c ++ [(16, 0)]) P o D K 2 0 A ∧ frN b S Z ∧ frD D S Z := by
  have h0 := stM_bare h
  have hw := hi.1
  have hT := iw_T hi
  obtain ⟨g1, g2, g3, g4, g5, g6, g7, g8, g9, g10, g11, g12⟩ := h
  have hL := g1.1.2.2.1
  have hs1 := kS_lt hT
  have hs2 := kS_ge (f := f) (L := L) (e := e)
  have z12 := g1.2.2.2.2.1
  rw [hw] at z12
  have l1 := m_lex0 z12
  have i1 := o_isTest (S := S) hK
  have h47 := g6.1
  have h27 := g6.2.1
  have h29 := g6.2.2.2.1
  have hD : D ≤ 8 := by omega
  have zz := fun (g : xSt → Option (Int32 × xSt)) => m_zs0 (S := S) (g := g) (by omega : D - 1 < 20)
  rw [if_pos (show K = 1 ∨ K = 5 ∨ K = 6 from ht)] at i1
  have e1 := w_l28 hL g1 hw
  have e2 := m_isS h0.1.1 (k := 91) (by decide)
  have e3 := w_l29 hL h0.1.1 hw
  rw [if_neg (iw_one (by decide) (by decide) hi (by decide))] at e1
  rw [if_neg (iw_ig hi)] at e2
  rw [if_pos hi] at e3
  obtain ⟨Z, z1, z2, z3, z4, z5⟩ := m_add (x := (16, 0)) (y := nI 0) hb h0.1.2.2.2.2.1 (by omega) (fun hh => by cases hh)
  have ms : mSort (16, 0) = 30 := rfl
  rw [ms] at z1
  have hk : ∀ k j, ¬ (k = 28 ∧ j = D - 1) → (xuI Z 28 (D - 1) (nI 2)).1 k j = Z.1 k j := fun k j x => quI_k x
  have t6 := h0.1.2.2.2.2.2.1
  have hX : stX (xuI Z 28 (D - 1) (nI 2)) b f L m e (c ++ [(16, 0)]) P o D K 2 0 A := stX_mk h0.1 (fun k j a1 a2 a3 a4 => by rw [hk k j (by omega), z4 k j (by omega) a2 a3]) z5 (cdM_fr z2 (fun k j x y => hk k j (by omega))) ⟨by rw [hk _ _ (by omega), z4 _ _ (by omega) (by decide) (by decide)]; exact t6.1, by rw [hk _ _ (by omega), z4 _ _ (by omega) (by decide) (by decide)]; exact t6.2.1, quI_e, by rw [hk _ _ (by omega), z4 _ _ (by omega) (by decide) (by decide)]; exact t6.2.2.2.1, by rw [hk _ _ (by omega), z4 _ _ (by omega) (by decide) (by decide)]; exact t6.2.2.2.2⟩ (by rw [List.length_append]; simp only [List.length_cons, List.length_nil]; omega) g8 g9 g10 g11 g12
  obtain ⟨W, w1, w2, w3⟩ := s_ahead hn hX hT
  refine ⟨W, ?_, w2, frN_trans h0.2.1 (frN_trans z3 (frN_trans ⟨fun k j x y z => hk k j (by omega), fun _ _ _ => rfl, rfl⟩ (frN_M w3))), frD_trans h0.2.2 (frD_trans (fun k j a1 a2 _ => z4 k j (by omega) (by omega) (by omega)) (frD_trans (fun k j a1 a2 a3 => hk k j (by omega)) (frD_M w3)))⟩
  simp (disch := (first | assumption | omega | exact hB _ _ | exact hYB _ _ | (simp only [yc, yd, sh, sv, ne_eq]; omega) | (simp (disch := omega) only [↓nm_1, ↓nm_2, nI_add, pk_mul, pk_sub, Nat.add_sub_cancel, qm1_add, qm2_add, nI_clamp, ni_0, ni_1, ni_2, ni_5, ni_7, ni_30, ni_91, l1, g3, h47, h27, h29, i1, zz, e1, e2, e3, z1, w1]; refine qin_nI ?_ ?_ <;> first | omega | exact hB _ _ | exact hYB _ _) | (refine qin_nI ?_ ?_ <;> omega) | fail)) only [↓km0_gd, ↓km0_gI, ↓km0_gM, ↓km0_pI, ↓km0_pM, ↓km0_pZ, ↓km0_gL, ↓km0_pL, ↓km0_gF42, ↓km0_gF43, ↓km0_gF44, ↓km27_al, ↓km27_as, ↓km27_ln, ↓km28_al, ↓km28_as, ↓km28_ln, ↓km29_zl, ↓km29_zs0, ↓km29_zs1, ↓qb_so, ↓nm_1, ↓nm_2, ↓reduceIte, if_true, if_false, not_true_eq_false, not_false_eq_true, and_true, true_and, and_false, false_and, or_true, true_or, or_false, false_or, eq_self, ne_eq, quI_s, quI_n, quI2, quL1, quL2, quL3, quR1, quR2, quR3, nI_add, pk_mul, pk_sub, Nat.add_sub_cancel, qm1_add, qm2_add, nI_leI, nI_ltI, nI_eq, nI_m1, nI_m1', nI_clamp, nI_bit, nI_one_shl, nI_m1l, nI_m1lt, nI_m1lt', nI_m1le', oI_some, oI_none, ni_0, ni_1, ni_2, ni_5, ni_7, ni_30, ni_91, fX12_operand, fX12_operand_B45, fX12_operand_B46, fX12_operand_B110, fX12_operand_B137, qle_t, qle_f, qlt_t, qlt_f, qeq_t, qeq_f, l1, g3, h47, h27, h29, i1, zz, e1, e2, e3, z1, w1]
theorem o_not (hn : 2000 ≤ n) (h : stM S b f L m e c P o D K H 1 A) (hK : K ≤ 6) (ht : isTs K) (hi : iw f L e 28) (ho : o < 7) (hP : P.length < 100) : ∃ Z, fX12_operand n 0 S = some (nI 0, Z) ∧ stM Z b f L m (kE f L e) c (2 :: P) (o + 1) D K H 1 A ∧ frN b S Z ∧ frD D S Z := by
  have hst := h
  have hw := hi.1
  have hT := iw_T hi
  obtain ⟨g1, g2, g3, g4, g5, g6, g7, g8, g9, g10, g11, g12⟩ := h
  have hL := g1.1.2.2.1
  have z12 := g1.2.2.2.2.1
  rw [hw] at z12
  have l1 := m_lex0 z12
  have i1 := o_isTest (S := S) hK
  have h47 := g6.1
  have h27 := g6.2.1
  have h29 := g6.2.2.2.1
  have h48 := g5.2.2.2.1
  have hD : D ≤ 8 := by omega
  rw [if_pos (show K = 1 ∨ K = 5 ∨ K = 6 from ht)] at i1
  have e1 := w_l28 hL g1 hw
  rw [if_pos hi] at e1
  have ho7 : ¬ o = 7 := by omega
  have s1 : cdM (xuI S 0 48 (nI (o + 1))) b c P (o + 1) := by
    obtain ⟨c1, c2, c3, c4, c5, c6, c7⟩ := g5
    exact ⟨by rw [quI_k (by omega)]; exact c1, by rw [quI_k (by omega)]; exact c2, mCode_eq c3 (fun j _ _ => ⟨quI_k (by omega), quI_k (by omega)⟩), quI_e, by rw [quI_k (by omega)]; exact c5, pSt_eq c6 (fun j _ => quI_k (by omega)), c7⟩
  obtain ⟨p1, p2⟩ := m_hold (q := 2) s1 (Or.inl rfl) (by omega)
  have ms : mSort (2, 0) = 43 := rfl
  rw [ms] at p1 p2
  have hk : ∀ k j, ¬ (k = 0 ∧ (j = 48 ∨ j = 50)) → ¬ (k = 32) → (xuI (xuI (xuI S 0 48 (nI (o + 1))) 32 P.length (nI 43)) 0 50 (nI (P.length + 1))).1 k j = S.1 k j := fun k j x y => by rw [quI_k (by omega), quI_k (by omega), quI_k (by omega)]
  have hX : stX (xuI (xuI (xuI S 0 48 (nI (o + 1))) 32 P.length (nI 43)) 0 50 (nI (P.length + 1))) b f L m e c (2 :: P) (o + 1) D K H 1 A := stX_mk hst (fun k j a1 a2 a3 a4 => hk k j (by omega) (by omega)) rfl p2 ⟨by rw [hk _ _ (by omega) (by omega)]; exact g6.1, by rw [hk _ _ (by omega) (by omega)]; exact g6.2.1, by rw [hk _ _ (by omega) (by omega)]; exact g6.2.2.1, by rw [hk _ _ (by omega) (by omega)]; exact g6.2.2.2.1, by rw [hk _ _ (by omega) (by omega)]; exact g6.2.2.2.2⟩ (by rw [List.length_cons]; omega) (by rw [List.length_cons]; omega) (by rw [List.length_cons]; omega) g10 (by omega) (by
    have : nots (2 :: P) = nots P + 1 := by unfold nots; rw [List.filter_cons_of_pos (by decide)]; rfl
    omega)
  obtain ⟨W, w1, w2, w3⟩ := s_ahead hn hX hT
  refine ⟨W, ?_, w2, frN_trans ⟨fun k j x y z => hk k j (by omega) (by omega), fun _ _ _ => rfl, rfl⟩ (frN_M w3), frD_trans (fun k j a1 a2 a3 => hk k j (by omega) (by omega)) (frD_M w3)⟩
  simp (disch := (first | assumption | omega | exact hB _ _ | exact hYB _ _ | (simp only [yc, yd, sh, sv, ne_eq]; omega) | (simp (disch := omega) only [↓nm_1, ↓nm_2, nI_add, pk_mul, pk_sub, Nat.add_sub_cancel, qm1_add, qm2_add, nI_clamp, ni_0, ni_1, ni_5, ni_7, ni_43, l1, g3, h47, h27, h29, h48, ho7, i1, e1, p1, w1]; refine qin_nI ?_ ?_ <;> first | omega | exact hB _ _ | exact hYB _ _) | (refine qin_nI ?_ ?_ <;> omega) | fail)) only [↓km0_gd, ↓km0_gI, ↓km0_gM, ↓km0_pI, ↓km0_pM, ↓km0_pZ, ↓km0_gL, ↓km0_pL, ↓km0_gF42, ↓km0_gF44, ↓km27_al, ↓km27_as, ↓km27_ln, ↓km29_zl, ↓km29_zs0, ↓km29_zs1, ↓qb_so, ↓nm_1, ↓nm_2, ↓reduceIte, if_true, if_false, not_true_eq_false, not_false_eq_true, and_true, true_and, and_false, false_and, or_true, true_or, or_false, false_or, eq_self, ne_eq, quI_s, quI_n, quI2, quL1, quL2, quL3, quR1, quR2, quR3, nI_add, pk_mul, pk_sub, Nat.add_sub_cancel, qm1_add, qm2_add, nI_leI, nI_ltI, nI_eq, nI_m1, nI_m1', nI_clamp, nI_bit, nI_one_shl, nI_m1l, nI_m1lt, nI_m1lt', nI_m1le', oI_some, oI_none, ni_0, ni_1, ni_5, ni_7, ni_43, fX12_operand, fX12_operand_B45, fX12_operand_B46, fX12_operand_B79, qle_t, qle_f, qlt_t, qlt_f, qeq_t, qeq_f, l1, g3, h47, h27, h29, h48, ho7, i1, e1, p1, w1]
theorem o_notF (h : stM S b f L m e c P 7 D K H 1 A) (hK : K ≤ 6) (ht : isTs K) (hi : iw f L e 28) : ∃ Z, fX12_operand n 0 S = some (nI 1, Z) ∧ flM b S 5 (kS f L e) Z := by
  have hw := hi.1
  obtain ⟨g1, g2, g3, g4, g5, g6, g7, g8, g9, g10, g11, g12⟩ := h
  have hL := g1.1.2.2.1
  have z12 := g1.2.2.2.2.1
  rw [hw] at z12
  have l1 := m_lex0 z12
  have i1 := o_isTest (S := S) hK
  have h47 := g6.1
  have h27 := g6.2.1
  have h29 := g6.2.2.2.1
  have h48 := g5.2.2.2.1
  have h4 := g1.2.2.1
  have hD : D ≤ 8 := by omega
  rw [if_pos (show K = 1 ∨ K = 5 ∨ K = 6 from ht)] at i1
  have e1 := w_l28 hL g1 hw
  rw [if_pos hi] at e1
  have b1 := m_blame (k := 5) (p := kS f L e) g3
  refine ⟨_, ?_, flM_up⟩
  simp (disch := (first | assumption | omega | exact hB _ _ | exact hYB _ _ | (simp only [yc, yd, sh, sv, ne_eq]; omega) | (simp (disch := omega) only [↓nm_1, ↓nm_2, nI_add, pk_mul, pk_sub, Nat.add_sub_cancel, qm1_add, qm2_add, nI_clamp, ni_0, ni_1, ni_5, ni_7, ni_43, l1, g3, h47, h27, h29, h48, i1, e1, h4, b1]; refine qin_nI ?_ ?_ <;> first | omega | exact hB _ _ | exact hYB _ _) | (refine qin_nI ?_ ?_ <;> omega) | fail)) only [↓km0_gd, ↓km0_gI, ↓km0_gM, ↓km0_pI, ↓km0_pM, ↓km0_pZ, ↓km0_gL, ↓km0_pL, ↓km0_gF42, ↓km0_gF44, ↓km27_al, ↓km27_as, ↓km27_ln, ↓km29_zl, ↓km29_zs0, ↓km29_zs1, ↓qb_so, ↓nm_1, ↓nm_2, ↓reduceIte, if_true, if_false, not_true_eq_false, not_false_eq_true, and_true, true_and, and_false, false_and, or_true, true_or, or_false, false_or, eq_self, ne_eq, quI_s, quI_n, quI2, quL1, quL2, quL3, quR1, quR2, quR3, nI_add, pk_mul, pk_sub, Nat.add_sub_cancel, qm1_add, qm2_add, nI_leI, nI_ltI, nI_eq, nI_m1, nI_m1', nI_clamp, nI_bit, nI_one_shl, nI_m1l, nI_m1lt, nI_m1lt', nI_m1le', oI_some, oI_none, ni_0, ni_1, ni_5, ni_7, ni_43, fX12_operand, fX12_operand_B45, fX12_operand_B46, fX12_operand_B79, qle_t, qle_f, qlt_t, qlt_f, qeq_t, qeq_f, l1, g3, h47, h27, h29, h48, i1, e1, h4, b1]
end Q9i

