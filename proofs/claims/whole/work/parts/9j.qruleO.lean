/-! ===== the reference reads a rule: it goes on with an operator ===== -/
section Q9j
variable {S Z V : xSt} {n L e m o b d t k a A D K H B r : Nat} {f : Nat → Nat} {c c' : List (Nat × Nat)} {P P' p : List Nat} {o' D' K' H' B' A' : Nat}
theorem ig_one {j : Nat} (h : ig f L e k) (hne : k ≠ j) : ¬ ig f L e j := fun h2 => hne (h.2.symm.trans h2.2)
theorem s_flag {x : Int32} (h : stM S b f L m e c P o D K H B A) : stM (xuI S 0 51 x) b f L m e c P o D K H B A ∧ frN b S (xuI S 0 51 x) ∧ frD D S (xuI S 0 51 x) := by
  obtain ⟨g1, g2, g3, g4, g5, g6, g7, g8, g9, g10, g11, g12⟩ := h
  have hk : ∀ k j, ¬ (k = 0 ∧ j = 51) → (xuI S 0 51 x).1 k j = S.1 k j := fun k j x => quI_k x
  exact ⟨⟨tkM_same g1 (fun k j x => hk k j (by omega)) rfl, g2, by rw [hk _ _ (by omega)]; exact g3, by rw [hk _ _ (by omega)]; exact g4, cdM_fr g5 (fun k j x y => hk k j (by omega)), ⟨by rw [hk _ _ (by omega)]; exact g6.1, by rw [hk _ _ (by omega)]; exact g6.2.1, by rw [hk _ _ (by omega)]; exact g6.2.2.1, by rw [hk _ _ (by omega)]; exact g6.2.2.2.1, by rw [hk _ _ (by omega)]; exact g6.2.2.2.2⟩, g7, g8, g9, g10, g11, g12⟩, ⟨fun k j x y z => hk k j (by omega), fun _ _ _ => rfl, rfl⟩, fun k j x y z => hk k j (by omega)⟩
theorem s_hold {q : Nat} (h : stM S b f L m e c P o D K H B A) (hq : isP q) (hq2 : q ≠ 2) (hP : P.length < 100) : ∃ Z, fX12_holdsBack 0 (nI (mSort (q, 0))) S = some Z ∧ stX Z b f L m e c (q :: P) o D K H B A ∧ (∀ k j, ¬ (k = 0 ∧ j = 50) → k ≠ 32 → Z.1 k j = S.1 k j) ∧ Z.2 = S.2 := by
  obtain ⟨p1, p2⟩ := m_hold (q := q) h.2.2.2.2.1 hq (by omega)
  have hk : ∀ k j, ¬ (k = 0 ∧ j = 50) → k ≠ 32 → (xuI (xuI S 32 P.length (nI (mSort (q, 0)))) 0 50 (nI (P.length + 1))).1 k j = S.1 k j := fun k j x y => by rw [quI_k (by omega), quI_k (by omega)]
  have hn : nots (q :: P) = nots P := by unfold nots; rw [List.filter_cons_of_neg (by simp only [decide_eq_true_eq]; exact hq2)]
  have hst := h
  obtain ⟨g1, g2, g3, g4, g5, g6, g7, g8, g9, g10, g11, g12⟩ := h
  refine ⟨_, p1, stX_mk hst (fun k j a1 a2 a3 a4 => hk k j (by omega) (by omega)) rfl p2 ⟨by rw [hk _ _ (by omega) (by omega)]; exact g6.1, by rw [hk _ _ (by omega) (by omega)]; exact g6.2.1, by rw [hk _ _ (by omega) (by omega)]; exact g6.2.2.1, by rw [hk _ _ (by omega) (by omega)]; exact g6.2.2.2.1, by rw [hk _ _ (by omega) (by omega)]; exact g6.2.2.2.2⟩ (by rw [List.length_cons]; omega) (by rw [List.length_cons]; omega) (by rw [List.length_cons]; omega) g10 g11 (by omega), hk, rfl⟩
theorem g_wrong (h : stM S b f L m e c P o D K H B A) (hw : kW f L e ≠ none) : ∃ Z, fX12_goesOn n 0 S = some (nI 0, Z) ∧ flM b S 1 (kP f L e) Z := by
  cases hw' : kW f L e with
  | none => exact absurd hw' hw
  | some p =>
    have hp := kP_lt h.2.1 hw'
    have hL := h.1.1.2.2.1
    have z12 := h.1.2.2.2.2.1
    rw [hw'] at z12
    have l1 := m_lex1 (by omega) (show S.1 0 12 = nI p from z12) h.2.2.1
    have hP : kP f L e = p := by unfold kP; rw [hw']
    rw [hP]
    refine ⟨_, ?_, flM_up⟩
    simp (disch := (first | assumption | omega | exact hB _ _ | exact hYB _ _ | (simp only [yc, yd, sh, sv, ne_eq]; omega) | (simp (disch := omega) only [↓nm_1, ↓nm_2, nI_add, pk_mul, pk_sub, Nat.add_sub_cancel, qm1_add, qm2_add, nI_clamp, ni_0, ni_1, ni_2, ni_37, ni_42, ni_43, ni_45, ni_47, l1]; refine qin_nI ?_ ?_ <;> first | omega | exact hB _ _ | exact hYB _ _) | (refine qin_nI ?_ ?_ <;> omega) | fail)) only [↓km0_gd, ↓km0_gI, ↓km0_gM, ↓km0_pI, ↓km0_pM, ↓km0_pZ, ↓km0_gL, ↓km0_pL, ↓km0_gF42, ↓km0_gF43, ↓km27_al, ↓km27_as, ↓km27_ln, ↓km28_al, ↓km28_as, ↓km28_ln, ↓qb_so, ↓nm_1, ↓nm_2, ↓reduceIte, if_true, if_false, not_true_eq_false, not_false_eq_true, and_true, true_and, and_false, false_and, or_true, true_or, or_false, false_or, eq_self, ne_eq, quI_s, quI_n, quI2, quL1, quL2, quL3, quR1, quR2, quR3, nI_add, pk_mul, pk_sub, Nat.add_sub_cancel, qm1_add, qm2_add, nI_leI, nI_ltI, nI_eq, nI_m1, nI_m1', nI_clamp, nI_bit, nI_one_shl, nI_m1l, nI_m1lt, nI_m1lt', nI_m1le', oI_some, oI_none, ni_0, ni_1, ni_2, ni_37, ni_42, ni_43, ni_45, ni_47, fX12_goesOn, qle_t, qle_f, qlt_t, qlt_f, qeq_t, qeq_f, l1]
/-- joined, held back, a token further -/
theorem g_jh {q : Nat} (hb : b < 2) (hr : r ≤ 6) (hn : 2000 ≤ n) (h : stM S b f L m e c (p ++ P) o D K H B A) (hA : A ≤ P.length) (hp : ∀ x, x ∈ p → r ≤ rkq x) (hP : A < P.length → ∀ x X, P = x :: X → rkq x < r) (hl : P.length < 100) (hq : isP q) (hq2 : q ≠ 2) (hT : kT f L e ≠ 0) :
    ∃ Z Y X, fX12_joins n 0 (nI r) S = some Z ∧ tkM Z f L e ∧ fX12_holdsBack 0 (nI (mSort (q, 0))) Z = some Y ∧ fX12_ahead n 0 Y = some X ∧ stM (xuI X 0 51 (nI 0)) b f L m (kE f L e) (c ++ em p) (q :: P) (o - nots p) D K H B A ∧ frN b S (xuI X 0 51 (nI 0)) ∧ frD D S (xuI X 0 51 (nI 0)) := by
  obtain ⟨Z, z1, z2, z3, z4⟩ := s_join hb hr hn h hA hp hP
  obtain ⟨Y, y1, y2, y3, y4⟩ := s_hold z2 hq hq2 hl
  obtain ⟨X, x1, x2, x3⟩ := s_ahead hn y2 hT
  have s3 := s_flag (x := nI 0) x2
  exact ⟨Z, Y, X, z1, z2.1, y1, x1, s3.1, frN_trans z3 (frN_trans ⟨fun k j x y z => y3 k j (by omega) (by omega), fun k j _ => by rw [y4], by rw [y4]⟩ (frN_trans (frN_M x3) s3.2.1)), frD_trans (frD_J z4) (frD_trans (fun k j a1 a2 a3 => y3 k j (by omega) (by omega)) (frD_trans (frD_M x3) s3.2.2))⟩
theorem g_op43 (hb : b < 2) (hn : 2000 ≤ n) (h : stM S b f L m e c (p ++ P) o D K H B A) (hi : ig f L e 43) (hH : H < 2) (hK : K ≤ 6) (hA : A ≤ P.length) (hp : ∀ x, x ∈ p → 5 ≤ rkq x) (hP : A < P.length → ∀ x X, P = x :: X → rkq x < 5) (hl : P.length < 100) : ∃ Z, fX12_goesOn n 0 S = some (nI 1, xuI Z 0 51 (nI 0)) ∧ stM (xuI Z 0 51 (nI 0)) b f L m (kE f L e) (c ++ em p) (4 :: P) (o - nots p) D K H B A ∧ frN b S (xuI Z 0 51 (nI 0)) ∧ frD D S (xuI Z 0 51 (nI 0)) := by
  obtain ⟨Z, Y, X, z1, z2, y1, x1, s1, s2, s3⟩ := g_jh (q := 4) hb (by decide) hn h hA hp hP hl (by unfold isP; omega) (by decide) (ig_T hi)
  have ms : mSort (4, 0) = 31 := rfl
  rw [ms] at y1
  have y1 : fX12_holdsBack 0 (31 : Int32) Z = some Y := y1
  refine ⟨X, ?_, s1, s2, s3⟩
  obtain ⟨g1, g2, g3, g4, g5, g6, g7, g8, g9, g10, g11, g12⟩ := h
  have z12 := g1.2.2.2.2.1
  rw [ig_W hi] at z12
  have l1 := m_lex0 z12
  have i1 := o_isTest (S := S) hK
  have hit : (if K = 1 ∨ K = 5 ∨ K = 6 then 1 else 0) ≤ 1 := by split <;> decide
  have h47 := g6.1
  have h27 := g6.2.1
  have h28 := g6.2.2.1
  have hD : D ≤ 8 := by omega
  have hH2 : ¬ 2 ≤ H := by omega
  have a0 := m_isS g1 (k := 43) (by decide)
  have b0 := m_isS z2 (k := 43) (by decide)
  rw [if_pos hi] at a0 b0
  have a1 := m_isS g1 (k := 45) (by decide)
  have b1 := m_isS z2 (k := 45) (by decide)
  rw [if_neg (ig_one hi (by decide))] at a1 b1
  have a2 := m_isS g1 (k := 42) (by decide)
  have b2 := m_isS z2 (k := 42) (by decide)
  rw [if_neg (ig_one hi (by decide))] at a2 b2
  have a3 := m_isS g1 (k := 47) (by decide)
  have b3 := m_isS z2 (k := 47) (by decide)
  rw [if_neg (ig_one hi (by decide))] at a3 b3
  have a4 := m_isS g1 (k := 37) (by decide)
  have b4 := m_isS z2 (k := 37) (by decide)
  rw [if_neg (ig_one hi (by decide))] at a4 b4
  have q1 : fX12_goesOn n 0 S = fX12_goesOn_B87 n 0 S := by
    simp (disch := (first | assumption | omega | exact hB _ _ | exact hYB _ _ | (simp only [yc, yd, sh, sv, ne_eq]; omega) | (simp (disch := omega) only [↓nm_1, ↓nm_2, nI_add, pk_mul, pk_sub, Nat.add_sub_cancel, qm1_add, qm2_add, nI_clamp, ni_0, ni_1, ni_2, ni_37, ni_42, ni_43, ni_45, ni_47, l1, g3, h47, h27, h28, i1, hH2, a0]; refine qin_nI ?_ ?_ <;> first | omega | exact hB _ _ | exact hYB _ _) | (refine qin_nI ?_ ?_ <;> omega) | fail)) only [↓km0_gd, ↓km0_gI, ↓km0_gM, ↓km0_pI, ↓km0_pM, ↓km0_pZ, ↓km0_gL, ↓km0_pL, ↓km0_gF42, ↓km0_gF43, ↓km27_al, ↓km27_as, ↓km27_ln, ↓km28_al, ↓km28_as, ↓km28_ln, ↓qb_so, ↓nm_1, ↓nm_2, ↓reduceIte, if_true, if_false, not_true_eq_false, not_false_eq_true, and_true, true_and, and_false, false_and, or_true, true_or, or_false, false_or, eq_self, ne_eq, quI_s, quI_n, quI2, quL1, quL2, quL3, quR1, quR2, quR3, nI_add, pk_mul, pk_sub, Nat.add_sub_cancel, qm1_add, qm2_add, nI_leI, nI_ltI, nI_eq, nI_m1, nI_m1', nI_clamp, nI_bit, nI_one_shl, nI_m1l, nI_m1lt, nI_m1lt', nI_m1le', oI_some, oI_none, ni_0, ni_1, ni_2, ni_37, ni_42, ni_43, ni_45, ni_47, fX12_goesOn, qle_t, qle_f, qlt_t, qlt_f, qeq_t, qeq_f, l1, g3, h47, h27, h28, i1, hH2, a0]
  have q2 : fX12_goesOn_B87 n 0 S = fX12_goesOn_B112 n 0 0 (nI 5) S := by
    simp (disch := (first | assumption | omega | exact hB _ _ | exact hYB _ _ | (simp only [yc, yd, sh, sv, ne_eq]; omega) | (simp (disch := omega) only [↓nm_1, ↓nm_2, nI_add, pk_mul, pk_sub, Nat.add_sub_cancel, qm1_add, qm2_add, nI_clamp, ni_0, ni_1, ni_5, ni_6, ni_43, ni_45, a0]; refine qin_nI ?_ ?_ <;> first | omega | exact hB _ _ | exact hYB _ _) | (refine qin_nI ?_ ?_ <;> omega) | fail)) only [↓km0_gd, ↓km0_gI, ↓km0_gM, ↓km0_pI, ↓km0_pM, ↓km0_pZ, ↓km0_gL, ↓km0_pL, ↓qb_so, ↓nm_1, ↓nm_2, ↓reduceIte, if_true, if_false, not_true_eq_false, not_false_eq_true, and_true, true_and, and_false, false_and, or_true, true_or, or_false, false_or, eq_self, ne_eq, quI_s, quI_n, quI2, quL1, quL2, quL3, quR1, quR2, quR3, nI_add, pk_mul, pk_sub, Nat.add_sub_cancel, qm1_add, qm2_add, nI_leI, nI_ltI, nI_eq, nI_m1, nI_m1', nI_clamp, nI_bit, nI_one_shl, nI_m1l, nI_m1lt, nI_m1lt', nI_m1le', oI_some, oI_none, ni_0, ni_1, ni_5, ni_6, ni_43, ni_45, fX12_goesOn_B87, fX12_goesOn_B106, qle_t, qle_f, qlt_t, qlt_f, qeq_t, qeq_f, a0]
  rw [q1, q2]
  simp (disch := (first | assumption | omega | exact hB _ _ | exact hYB _ _ | (simp only [yc, yd, sh, sv, ne_eq]; omega) | (simp (disch := omega) only [↓nm_1, ↓nm_2, nI_add, pk_mul, pk_sub, Nat.add_sub_cancel, qm1_add, qm2_add, nI_clamp, ni_0, ni_1, ni_32, ni_33, ni_34, ni_35, ni_42, ni_43, ni_45, ni_47, z1, b0, y1, x1, m_pZ0]; refine qin_nI ?_ ?_ <;> first | omega | exact hB _ _ | exact hYB _ _) | (refine qin_nI ?_ ?_ <;> omega) | fail)) only [↓km0_gd, ↓km0_gI, ↓km0_gM, ↓km0_pI, ↓km0_pM, ↓km0_pZ, ↓km0_gL, ↓km0_pL, ↓qb_so, ↓nm_1, ↓nm_2, ↓reduceIte, if_true, if_false, not_true_eq_false, not_false_eq_true, and_true, true_and, and_false, false_and, or_true, true_or, or_false, false_or, eq_self, ne_eq, quI_s, quI_n, quI2, quL1, quL2, quL3, quR1, quR2, quR3, nI_add, pk_mul, pk_sub, Nat.add_sub_cancel, qm1_add, qm2_add, nI_leI, nI_ltI, nI_eq, nI_m1, nI_m1', nI_clamp, nI_bit, nI_one_shl, nI_m1l, nI_m1lt, nI_m1lt', nI_m1le', oI_some, oI_none, ni_0, ni_1, ni_32, ni_33, ni_34, ni_35, ni_42, ni_43, ni_45, ni_47, fX12_goesOn_B112, qle_t, qle_f, qlt_t, qlt_f, qeq_t, qeq_f, z1, b0, y1, x1, m_pZ0]
theorem g_op45 (hb : b < 2) (hn : 2000 ≤ n) (h : stM S b f L m e c (p ++ P) o D K H B A) (hi : ig f L e 45) (hH : H < 2) (hK : K ≤ 6) (hA : A ≤ P.length) (hp : ∀ x, x ∈ p → 5 ≤ rkq x) (hP : A < P.length → ∀ x X, P = x :: X → rkq x < 5) (hl : P.length < 100) : ∃ Z, fX12_goesOn n 0 S = some (nI 1, xuI Z 0 51 (nI 0)) ∧ stM (xuI Z 0 51 (nI 0)) b f L m (kE f L e) (c ++ em p) (5 :: P) (o - nots p) D K H B A ∧ frN b S (xuI Z 0 51 (nI 0)) ∧ frD D S (xuI Z 0 51 (nI 0)) := by
  obtain ⟨Z, Y, X, z1, z2, y1, x1, s1, s2, s3⟩ := g_jh (q := 5) hb (by decide) hn h hA hp hP hl (by unfold isP; omega) (by decide) (ig_T hi)
  have ms : mSort (5, 0) = 32 := rfl
  rw [ms] at y1
  refine ⟨X, ?_, s1, s2, s3⟩
  obtain ⟨g1, g2, g3, g4, g5, g6, g7, g8, g9, g10, g11, g12⟩ := h
  have z12 := g1.2.2.2.2.1
  rw [ig_W hi] at z12
  have l1 := m_lex0 z12
  have i1 := o_isTest (S := S) hK
  have hit : (if K = 1 ∨ K = 5 ∨ K = 6 then 1 else 0) ≤ 1 := by split <;> decide
  have h47 := g6.1
  have h27 := g6.2.1
  have h28 := g6.2.2.1
  have hD : D ≤ 8 := by omega
  have hH2 : ¬ 2 ≤ H := by omega
  have a0 := m_isS g1 (k := 43) (by decide)
  have b0 := m_isS z2 (k := 43) (by decide)
  rw [if_neg (ig_one hi (by decide))] at a0 b0
  have a1 := m_isS g1 (k := 45) (by decide)
  have b1 := m_isS z2 (k := 45) (by decide)
  rw [if_pos hi] at a1 b1
  have a2 := m_isS g1 (k := 42) (by decide)
  have b2 := m_isS z2 (k := 42) (by decide)
  rw [if_neg (ig_one hi (by decide))] at a2 b2
  have a3 := m_isS g1 (k := 47) (by decide)
  have b3 := m_isS z2 (k := 47) (by decide)
  rw [if_neg (ig_one hi (by decide))] at a3 b3
  have a4 := m_isS g1 (k := 37) (by decide)
  have b4 := m_isS z2 (k := 37) (by decide)
  rw [if_neg (ig_one hi (by decide))] at a4 b4
  have q1 : fX12_goesOn n 0 S = fX12_goesOn_B87 n 0 S := by
    simp (disch := (first | assumption | omega | exact hB _ _ | exact hYB _ _ | (simp only [yc, yd, sh, sv, ne_eq]; omega) | (simp (disch := omega) only [↓nm_1, ↓nm_2, nI_add, pk_mul, pk_sub, Nat.add_sub_cancel, qm1_add, qm2_add, nI_clamp, ni_0, ni_1, ni_2, ni_37, ni_42, ni_43, ni_45, ni_47, l1, g3, h47, h27, h28, i1, hH2, a0, a1]; refine qin_nI ?_ ?_ <;> first | omega | exact hB _ _ | exact hYB _ _) | (refine qin_nI ?_ ?_ <;> omega) | fail)) only [↓km0_gd, ↓km0_gI, ↓km0_gM, ↓km0_pI, ↓km0_pM, ↓km0_pZ, ↓km0_gL, ↓km0_pL, ↓km0_gF42, ↓km0_gF43, ↓km27_al, ↓km27_as, ↓km27_ln, ↓km28_al, ↓km28_as, ↓km28_ln, ↓qb_so, ↓nm_1, ↓nm_2, ↓reduceIte, if_true, if_false, not_true_eq_false, not_false_eq_true, and_true, true_and, and_false, false_and, or_true, true_or, or_false, false_or, eq_self, ne_eq, quI_s, quI_n, quI2, quL1, quL2, quL3, quR1, quR2, quR3, nI_add, pk_mul, pk_sub, Nat.add_sub_cancel, qm1_add, qm2_add, nI_leI, nI_ltI, nI_eq, nI_m1, nI_m1', nI_clamp, nI_bit, nI_one_shl, nI_m1l, nI_m1lt, nI_m1lt', nI_m1le', oI_some, oI_none, ni_0, ni_1, ni_2, ni_37, ni_42, ni_43, ni_45, ni_47, fX12_goesOn, qle_t, qle_f, qlt_t, qlt_f, qeq_t, qeq_f, l1, g3, h47, h27, h28, i1, hH2, a0, a1]
  have q2 : fX12_goesOn_B87 n 0 S = fX12_goesOn_B112 n 0 0 (nI 5) S := by
    simp (disch := (first | assumption | omega | exact hB _ _ | exact hYB _ _ | (simp only [yc, yd, sh, sv, ne_eq]; omega) | (simp (disch := omega) only [↓nm_1, ↓nm_2, nI_add, pk_mul, pk_sub, Nat.add_sub_cancel, qm1_add, qm2_add, nI_clamp, ni_0, ni_1, ni_5, ni_6, ni_43, ni_45, a0, a1]; refine qin_nI ?_ ?_ <;> first | omega | exact hB _ _ | exact hYB _ _) | (refine qin_nI ?_ ?_ <;> omega) | fail)) only [↓km0_gd, ↓km0_gI, ↓km0_gM, ↓km0_pI, ↓km0_pM, ↓km0_pZ, ↓km0_gL, ↓km0_pL, ↓qb_so, ↓nm_1, ↓nm_2, ↓reduceIte, if_true, if_false, not_true_eq_false, not_false_eq_true, and_true, true_and, and_false, false_and, or_true, true_or, or_false, false_or, eq_self, ne_eq, quI_s, quI_n, quI2, quL1, quL2, quL3, quR1, quR2, quR3, nI_add, pk_mul, pk_sub, Nat.add_sub_cancel, qm1_add, qm2_add, nI_leI, nI_ltI, nI_eq, nI_m1, nI_m1', nI_clamp, nI_bit, nI_one_shl, nI_m1l, nI_m1lt, nI_m1lt', nI_m1le', oI_some, oI_none, ni_0, ni_1, ni_5, ni_6, ni_43, ni_45, fX12_goesOn_B87, fX12_goesOn_B106, qle_t, qle_f, qlt_t, qlt_f, qeq_t, qeq_f, a0, a1]
  rw [q1, q2]
  simp (disch := (first | assumption | omega | exact hB _ _ | exact hYB _ _ | (simp only [yc, yd, sh, sv, ne_eq]; omega) | (simp (disch := omega) only [↓nm_1, ↓nm_2, nI_add, pk_mul, pk_sub, Nat.add_sub_cancel, qm1_add, qm2_add, nI_clamp, ni_0, ni_1, ni_32, ni_33, ni_34, ni_35, ni_42, ni_43, ni_45, ni_47, z1, b0, b1, y1, x1, m_pZ0]; refine qin_nI ?_ ?_ <;> first | omega | exact hB _ _ | exact hYB _ _) | (refine qin_nI ?_ ?_ <;> omega) | fail)) only [↓km0_gd, ↓km0_gI, ↓km0_gM, ↓km0_pI, ↓km0_pM, ↓km0_pZ, ↓km0_gL, ↓km0_pL, ↓qb_so, ↓nm_1, ↓nm_2, ↓reduceIte, if_true, if_false, not_true_eq_false, not_false_eq_true, and_true, true_and, and_false, false_and, or_true, true_or, or_false, false_or, eq_self, ne_eq, quI_s, quI_n, quI2, quL1, quL2, quL3, quR1, quR2, quR3, nI_add, pk_mul, pk_sub, Nat.add_sub_cancel, qm1_add, qm2_add, nI_leI, nI_ltI, nI_eq, nI_m1, nI_m1', nI_clamp, nI_bit, nI_one_shl, nI_m1l, nI_m1lt, nI_m1lt', nI_m1le', oI_some, oI_none, ni_0, ni_1, ni_32, ni_33, ni_34, ni_35, ni_42, ni_43, ni_45, ni_47, fX12_goesOn_B112, qle_t, qle_f, qlt_t, qlt_f, qeq_t, qeq_f, z1, b0, b1, y1, x1, m_pZ0]
theorem g_op42 (hb : b < 2) (hn : 2000 ≤ n) (h : stM S b f L m e c (p ++ P) o D K H B A) (hi : ig f L e 42) (hH : H < 2) (hK : K ≤ 6) (hA : A ≤ P.length) (hp : ∀ x, x ∈ p → 6 ≤ rkq x) (hP : A < P.length → ∀ x X, P = x :: X → rkq x < 6) (hl : P.length < 100) : ∃ Z, fX12_goesOn n 0 S = some (nI 1, xuI Z 0 51 (nI 0)) ∧ stM (xuI Z 0 51 (nI 0)) b f L m (kE f L e) (c ++ em p) (6 :: P) (o - nots p) D K H B A ∧ frN b S (xuI Z 0 51 (nI 0)) ∧ frD D S (xuI Z 0 51 (nI 0)) := by
  obtain ⟨Z, Y, X, z1, z2, y1, x1, s1, s2, s3⟩ := g_jh (q := 6) hb (by decide) hn h hA hp hP hl (by unfold isP; omega) (by decide) (ig_T hi)
  have ms : mSort (6, 0) = 33 := rfl
  rw [ms] at y1
  refine ⟨X, ?_, s1, s2, s3⟩
  obtain ⟨g1, g2, g3, g4, g5, g6, g7, g8, g9, g10, g11, g12⟩ := h
  have z12 := g1.2.2.2.2.1
  rw [ig_W hi] at z12
  have l1 := m_lex0 z12
  have i1 := o_isTest (S := S) hK
  have hit : (if K = 1 ∨ K = 5 ∨ K = 6 then 1 else 0) ≤ 1 := by split <;> decide
  have h47 := g6.1
  have h27 := g6.2.1
  have h28 := g6.2.2.1
  have hD : D ≤ 8 := by omega
  have hH2 : ¬ 2 ≤ H := by omega
  have a0 := m_isS g1 (k := 43) (by decide)
  have b0 := m_isS z2 (k := 43) (by decide)
  rw [if_neg (ig_one hi (by decide))] at a0 b0
  have a1 := m_isS g1 (k := 45) (by decide)
  have b1 := m_isS z2 (k := 45) (by decide)
  rw [if_neg (ig_one hi (by decide))] at a1 b1
  have a2 := m_isS g1 (k := 42) (by decide)
  have b2 := m_isS z2 (k := 42) (by decide)
  rw [if_pos hi] at a2 b2
  have a3 := m_isS g1 (k := 47) (by decide)
  have b3 := m_isS z2 (k := 47) (by decide)
  rw [if_neg (ig_one hi (by decide))] at a3 b3
  have a4 := m_isS g1 (k := 37) (by decide)
  have b4 := m_isS z2 (k := 37) (by decide)
  rw [if_neg (ig_one hi (by decide))] at a4 b4
  have q1 : fX12_goesOn n 0 S = fX12_goesOn_B87 n 0 S := by
    simp (disch := (first | assumption | omega | exact hB _ _ | exact hYB _ _ | (simp only [yc, yd, sh, sv, ne_eq]; omega) | (simp (disch := omega) only [↓nm_1, ↓nm_2, nI_add, pk_mul, pk_sub, Nat.add_sub_cancel, qm1_add, qm2_add, nI_clamp, ni_0, ni_1, ni_2, ni_37, ni_42, ni_43, ni_45, ni_47, l1, g3, h47, h27, h28, i1, hH2, a0, a1, a2]; refine qin_nI ?_ ?_ <;> first | omega | exact hB _ _ | exact hYB _ _) | (refine qin_nI ?_ ?_ <;> omega) | fail)) only [↓km0_gd, ↓km0_gI, ↓km0_gM, ↓km0_pI, ↓km0_pM, ↓km0_pZ, ↓km0_gL, ↓km0_pL, ↓km0_gF42, ↓km0_gF43, ↓km27_al, ↓km27_as, ↓km27_ln, ↓km28_al, ↓km28_as, ↓km28_ln, ↓qb_so, ↓nm_1, ↓nm_2, ↓reduceIte, if_true, if_false, not_true_eq_false, not_false_eq_true, and_true, true_and, and_false, false_and, or_true, true_or, or_false, false_or, eq_self, ne_eq, quI_s, quI_n, quI2, quL1, quL2, quL3, quR1, quR2, quR3, nI_add, pk_mul, pk_sub, Nat.add_sub_cancel, qm1_add, qm2_add, nI_leI, nI_ltI, nI_eq, nI_m1, nI_m1', nI_clamp, nI_bit, nI_one_shl, nI_m1l, nI_m1lt, nI_m1lt', nI_m1le', oI_some, oI_none, ni_0, ni_1, ni_2, ni_37, ni_42, ni_43, ni_45, ni_47, fX12_goesOn, qle_t, qle_f, qlt_t, qlt_f, qeq_t, qeq_f, l1, g3, h47, h27, h28, i1, hH2, a0, a1, a2]
  have q2 : fX12_goesOn_B87 n 0 S = fX12_goesOn_B112 n 0 0 (nI 6) S := by
    simp (disch := (first | assumption | omega | exact hB _ _ | exact hYB _ _ | (simp only [yc, yd, sh, sv, ne_eq]; omega) | (simp (disch := omega) only [↓nm_1, ↓nm_2, nI_add, pk_mul, pk_sub, Nat.add_sub_cancel, qm1_add, qm2_add, nI_clamp, ni_0, ni_1, ni_5, ni_6, ni_43, ni_45, a0, a1]; refine qin_nI ?_ ?_ <;> first | omega | exact hB _ _ | exact hYB _ _) | (refine qin_nI ?_ ?_ <;> omega) | fail)) only [↓km0_gd, ↓km0_gI, ↓km0_gM, ↓km0_pI, ↓km0_pM, ↓km0_pZ, ↓km0_gL, ↓km0_pL, ↓qb_so, ↓nm_1, ↓nm_2, ↓reduceIte, if_true, if_false, not_true_eq_false, not_false_eq_true, and_true, true_and, and_false, false_and, or_true, true_or, or_false, false_or, eq_self, ne_eq, quI_s, quI_n, quI2, quL1, quL2, quL3, quR1, quR2, quR3, nI_add, pk_mul, pk_sub, Nat.add_sub_cancel, qm1_add, qm2_add, nI_leI, nI_ltI, nI_eq, nI_m1, nI_m1', nI_clamp, nI_bit, nI_one_shl, nI_m1l, nI_m1lt, nI_m1lt', nI_m1le', oI_some, oI_none, ni_0, ni_1, ni_5, ni_6, ni_43, ni_45, fX12_goesOn_B87, fX12_goesOn_B106, qle_t, qle_f, qlt_t, qlt_f, qeq_t, qeq_f, a0, a1]
  rw [q1, q2]
  simp (disch := (first | assumption | omega | exact hB _ _ | exact hYB _ _ | (simp only [yc, yd, sh, sv, ne_eq]; omega) | (simp (disch := omega) only [↓nm_1, ↓nm_2, nI_add, pk_mul, pk_sub, Nat.add_sub_cancel, qm1_add, qm2_add, nI_clamp, ni_0, ni_1, ni_32, ni_33, ni_34, ni_35, ni_42, ni_43, ni_45, ni_47, z1, b0, b1, b2, y1, x1, m_pZ0]; refine qin_nI ?_ ?_ <;> first | omega | exact hB _ _ | exact hYB _ _) | (refine qin_nI ?_ ?_ <;> omega) | fail)) only [↓km0_gd, ↓km0_gI, ↓km0_gM, ↓km0_pI, ↓km0_pM, ↓km0_pZ, ↓km0_gL, ↓km0_pL, ↓qb_so, ↓nm_1, ↓nm_2, ↓reduceIte, if_true, if_false, not_true_eq_false, not_false_eq_true, and_true, true_and, and_false, false_and, or_true, true_or, or_false, false_or, eq_self, ne_eq, quI_s, quI_n, quI2, quL1, quL2, quL3, quR1, quR2, quR3, nI_add, pk_mul, pk_sub, Nat.add_sub_cancel, qm1_add, qm2_add, nI_leI, nI_ltI, nI_eq, nI_m1, nI_m1', nI_clamp, nI_bit, nI_one_shl, nI_m1l, nI_m1lt, nI_m1lt', nI_m1le', oI_some, oI_none, ni_0, ni_1, ni_32, ni_33, ni_34, ni_35, ni_42, ni_43, ni_45, ni_47, fX12_goesOn_B112, qle_t, qle_f, qlt_t, qlt_f, qeq_t, qeq_f, z1, b0, b1, b2, y1, x1, m_pZ0]
theorem g_op47 (hb : b < 2) (hn : 2000 ≤ n) (h : stM S b f L m e c (p ++ P) o D K H B A) (hi : ig f L e 47) (hH : H < 2) (hK : K ≤ 6) (hA : A ≤ P.length) (hp : ∀ x, x ∈ p → 6 ≤ rkq x) (hP : A < P.length → ∀ x X, P = x :: X → rkq x < 6) (hl : P.length < 100) : ∃ Z, fX12_goesOn n 0 S = some (nI 1, xuI Z 0 51 (nI 0)) ∧ stM (xuI Z 0 51 (nI 0)) b f L m (kE f L e) (c ++ em p) (7 :: P) (o - nots p) D K H B A ∧ frN b S (xuI Z 0 51 (nI 0)) ∧ frD D S (xuI Z 0 51 (nI 0)) := by
  obtain ⟨Z, Y, X, z1, z2, y1, x1, s1, s2, s3⟩ := g_jh (q := 7) hb (by decide) hn h hA hp hP hl (by unfold isP; omega) (by decide) (ig_T hi)
  have ms : mSort (7, 0) = 34 := rfl
  rw [ms] at y1
  refine ⟨X, ?_, s1, s2, s3⟩
  obtain ⟨g1, g2, g3, g4, g5, g6, g7, g8, g9, g10, g11, g12⟩ := h
  have z12 := g1.2.2.2.2.1
  rw [ig_W hi] at z12
  have l1 := m_lex0 z12
  have i1 := o_isTest (S := S) hK
  have hit : (if K = 1 ∨ K = 5 ∨ K = 6 then 1 else 0) ≤ 1 := by split <;> decide
  have h47 := g6.1
  have h27 := g6.2.1
  have h28 := g6.2.2.1
  have hD : D ≤ 8 := by omega
  have hH2 : ¬ 2 ≤ H := by omega
  have a0 := m_isS g1 (k := 43) (by decide)
  have b0 := m_isS z2 (k := 43) (by decide)
  rw [if_neg (ig_one hi (by decide))] at a0 b0
  have a1 := m_isS g1 (k := 45) (by decide)
  have b1 := m_isS z2 (k := 45) (by decide)
  rw [if_neg (ig_one hi (by decide))] at a1 b1
  have a2 := m_isS g1 (k := 42) (by decide)
  have b2 := m_isS z2 (k := 42) (by decide)
  rw [if_neg (ig_one hi (by decide))] at a2 b2
  have a3 := m_isS g1 (k := 47) (by decide)
  have b3 := m_isS z2 (k := 47) (by decide)
  rw [if_pos hi] at a3 b3
  have a4 := m_isS g1 (k := 37) (by decide)
  have b4 := m_isS z2 (k := 37) (by decide)
  rw [if_neg (ig_one hi (by decide))] at a4 b4
  have q1 : fX12_goesOn n 0 S = fX12_goesOn_B87 n 0 S := by
    simp (disch := (first | assumption | omega | exact hB _ _ | exact hYB _ _ | (simp only [yc, yd, sh, sv, ne_eq]; omega) | (simp (disch := omega) only [↓nm_1, ↓nm_2, nI_add, pk_mul, pk_sub, Nat.add_sub_cancel, qm1_add, qm2_add, nI_clamp, ni_0, ni_1, ni_2, ni_37, ni_42, ni_43, ni_45, ni_47, l1, g3, h47, h27, h28, i1, hH2, a0, a1, a2, a3]; refine qin_nI ?_ ?_ <;> first | omega | exact hB _ _ | exact hYB _ _) | (refine qin_nI ?_ ?_ <;> omega) | fail)) only [↓km0_gd, ↓km0_gI, ↓km0_gM, ↓km0_pI, ↓km0_pM, ↓km0_pZ, ↓km0_gL, ↓km0_pL, ↓km0_gF42, ↓km0_gF43, ↓km27_al, ↓km27_as, ↓km27_ln, ↓km28_al, ↓km28_as, ↓km28_ln, ↓qb_so, ↓nm_1, ↓nm_2, ↓reduceIte, if_true, if_false, not_true_eq_false, not_false_eq_true, and_true, true_and, and_false, false_and, or_true, true_or, or_false, false_or, eq_self, ne_eq, quI_s, quI_n, quI2, quL1, quL2, quL3, quR1, quR2, quR3, nI_add, pk_mul, pk_sub, Nat.add_sub_cancel, qm1_add, qm2_add, nI_leI, nI_ltI, nI_eq, nI_m1, nI_m1', nI_clamp, nI_bit, nI_one_shl, nI_m1l, nI_m1lt, nI_m1lt', nI_m1le', oI_some, oI_none, ni_0, ni_1, ni_2, ni_37, ni_42, ni_43, ni_45, ni_47, fX12_goesOn, qle_t, qle_f, qlt_t, qlt_f, qeq_t, qeq_f, l1, g3, h47, h27, h28, i1, hH2, a0, a1, a2, a3]
  have q2 : fX12_goesOn_B87 n 0 S = fX12_goesOn_B112 n 0 0 (nI 6) S := by
    simp (disch := (first | assumption | omega | exact hB _ _ | exact hYB _ _ | (simp only [yc, yd, sh, sv, ne_eq]; omega) | (simp (disch := omega) only [↓nm_1, ↓nm_2, nI_add, pk_mul, pk_sub, Nat.add_sub_cancel, qm1_add, qm2_add, nI_clamp, ni_0, ni_1, ni_5, ni_6, ni_43, ni_45, a0, a1]; refine qin_nI ?_ ?_ <;> first | omega | exact hB _ _ | exact hYB _ _) | (refine qin_nI ?_ ?_ <;> omega) | fail)) only [↓km0_gd, ↓km0_gI, ↓km0_gM, ↓km0_pI, ↓km0_pM, ↓km0_pZ, ↓km0_gL, ↓km0_pL, ↓qb_so, ↓nm_1, ↓nm_2, ↓reduceIte, if_true, if_false, not_true_eq_false, not_false_eq_true, and_true, true_and, and_false, false_and, or_true, true_or, or_false, false_or, eq_self, ne_eq, quI_s, quI_n, quI2, quL1, quL2, quL3, quR1, quR2, quR3, nI_add, pk_mul, pk_sub, Nat.add_sub_cancel, qm1_add, qm2_add, nI_leI, nI_ltI, nI_eq, nI_m1, nI_m1', nI_clamp, nI_bit, nI_one_shl, nI_m1l, nI_m1lt, nI_m1lt', nI_m1le', oI_some, oI_none, ni_0, ni_1, ni_5, ni_6, ni_43, ni_45, fX12_goesOn_B87, fX12_goesOn_B106, qle_t, qle_f, qlt_t, qlt_f, qeq_t, qeq_f, a0, a1]
  rw [q1, q2]
  simp (disch := (first | assumption | omega | exact hB _ _ | exact hYB _ _ | (simp only [yc, yd, sh, sv, ne_eq]; omega) | (simp (disch := omega) only [↓nm_1, ↓nm_2, nI_add, pk_mul, pk_sub, Nat.add_sub_cancel, qm1_add, qm2_add, nI_clamp, ni_0, ni_1, ni_32, ni_33, ni_34, ni_35, ni_42, ni_43, ni_45, ni_47, z1, b0, b1, b2, b3, y1, x1, m_pZ0]; refine qin_nI ?_ ?_ <;> first | omega | exact hB _ _ | exact hYB _ _) | (refine qin_nI ?_ ?_ <;> omega) | fail)) only [↓km0_gd, ↓km0_gI, ↓km0_gM, ↓km0_pI, ↓km0_pM, ↓km0_pZ, ↓km0_gL, ↓km0_pL, ↓qb_so, ↓nm_1, ↓nm_2, ↓reduceIte, if_true, if_false, not_true_eq_false, not_false_eq_true, and_true, true_and, and_false, false_and, or_true, true_or, or_false, false_or, eq_self, ne_eq, quI_s, quI_n, quI2, quL1, quL2, quL3, quR1, quR2, quR3, nI_add, pk_mul, pk_sub, Nat.add_sub_cancel, qm1_add, qm2_add, nI_leI, nI_ltI, nI_eq, nI_m1, nI_m1', nI_clamp, nI_bit, nI_one_shl, nI_m1l, nI_m1lt, nI_m1lt', nI_m1le', oI_some, oI_none, ni_0, ni_1, ni_32, ni_33, ni_34, ni_35, ni_42, ni_43, ni_45, ni_47, fX12_goesOn_B112, qle_t, qle_f, qlt_t, qlt_f, qeq_t, qeq_f, z1, b0, b1, b2, b3, y1, x1, m_pZ0]
theorem g_op37 (hb : b < 2) (hn : 2000 ≤ n) (h : stM S b f L m e c (p ++ P) o D K H B A) (hi : ig f L e 37) (hH : H < 2) (hK : K ≤ 6) (hA : A ≤ P.length) (hp : ∀ x, x ∈ p → 6 ≤ rkq x) (hP : A < P.length → ∀ x X, P = x :: X → rkq x < 6) (hl : P.length < 100) : ∃ Z, fX12_goesOn n 0 S = some (nI 1, xuI Z 0 51 (nI 0)) ∧ stM (xuI Z 0 51 (nI 0)) b f L m (kE f L e) (c ++ em p) (8 :: P) (o - nots p) D K H B A ∧ frN b S (xuI Z 0 51 (nI 0)) ∧ frD D S (xuI Z 0 51 (nI 0)) := by
  obtain ⟨Z, Y, X, z1, z2, y1, x1, s1, s2, s3⟩ := g_jh (q := 8) hb (by decide) hn h hA hp hP hl (by unfold isP; omega) (by decide) (ig_T hi)
  have ms : mSort (8, 0) = 35 := rfl
  rw [ms] at y1
  refine ⟨X, ?_, s1, s2, s3⟩
  obtain ⟨g1, g2, g3, g4, g5, g6, g7, g8, g9, g10, g11, g12⟩ := h
  have z12 := g1.2.2.2.2.1
  rw [ig_W hi] at z12
  have l1 := m_lex0 z12
  have i1 := o_isTest (S := S) hK
  have hit : (if K = 1 ∨ K = 5 ∨ K = 6 then 1 else 0) ≤ 1 := by split <;> decide
  have h47 := g6.1
  have h27 := g6.2.1
  have h28 := g6.2.2.1
  have hD : D ≤ 8 := by omega
  have hH2 : ¬ 2 ≤ H := by omega
  have a0 := m_isS g1 (k := 43) (by decide)
  have b0 := m_isS z2 (k := 43) (by decide)
  rw [if_neg (ig_one hi (by decide))] at a0 b0
  have a1 := m_isS g1 (k := 45) (by decide)
  have b1 := m_isS z2 (k := 45) (by decide)
  rw [if_neg (ig_one hi (by decide))] at a1 b1
  have a2 := m_isS g1 (k := 42) (by decide)
  have b2 := m_isS z2 (k := 42) (by decide)
  rw [if_neg (ig_one hi (by decide))] at a2 b2
  have a3 := m_isS g1 (k := 47) (by decide)
  have b3 := m_isS z2 (k := 47) (by decide)
  rw [if_neg (ig_one hi (by decide))] at a3 b3
  have a4 := m_isS g1 (k := 37) (by decide)
  have b4 := m_isS z2 (k := 37) (by decide)
  rw [if_pos hi] at a4 b4
  have q1 : fX12_goesOn n 0 S = fX12_goesOn_B87 n 0 S := by
    simp (disch := (first | assumption | omega | exact hB _ _ | exact hYB _ _ | (simp only [yc, yd, sh, sv, ne_eq]; omega) | (simp (disch := omega) only [↓nm_1, ↓nm_2, nI_add, pk_mul, pk_sub, Nat.add_sub_cancel, qm1_add, qm2_add, nI_clamp, ni_0, ni_1, ni_2, ni_37, ni_42, ni_43, ni_45, ni_47, l1, g3, h47, h27, h28, i1, hH2, a0, a1, a2, a3, a4]; refine qin_nI ?_ ?_ <;> first | omega | exact hB _ _ | exact hYB _ _) | (refine qin_nI ?_ ?_ <;> omega) | fail)) only [↓km0_gd, ↓km0_gI, ↓km0_gM, ↓km0_pI, ↓km0_pM, ↓km0_pZ, ↓km0_gL, ↓km0_pL, ↓km0_gF42, ↓km0_gF43, ↓km27_al, ↓km27_as, ↓km27_ln, ↓km28_al, ↓km28_as, ↓km28_ln, ↓qb_so, ↓nm_1, ↓nm_2, ↓reduceIte, if_true, if_false, not_true_eq_false, not_false_eq_true, and_true, true_and, and_false, false_and, or_true, true_or, or_false, false_or, eq_self, ne_eq, quI_s, quI_n, quI2, quL1, quL2, quL3, quR1, quR2, quR3, nI_add, pk_mul, pk_sub, Nat.add_sub_cancel, qm1_add, qm2_add, nI_leI, nI_ltI, nI_eq, nI_m1, nI_m1', nI_clamp, nI_bit, nI_one_shl, nI_m1l, nI_m1lt, nI_m1lt', nI_m1le', oI_some, oI_none, ni_0, ni_1, ni_2, ni_37, ni_42, ni_43, ni_45, ni_47, fX12_goesOn, qle_t, qle_f, qlt_t, qlt_f, qeq_t, qeq_f, l1, g3, h47, h27, h28, i1, hH2, a0, a1, a2, a3, a4]
  have q2 : fX12_goesOn_B87 n 0 S = fX12_goesOn_B112 n 0 0 (nI 6) S := by
    simp (disch := (first | assumption | omega | exact hB _ _ | exact hYB _ _ | (simp only [yc, yd, sh, sv, ne_eq]; omega) | (simp (disch := omega) only [↓nm_1, ↓nm_2, nI_add, pk_mul, pk_sub, Nat.add_sub_cancel, qm1_add, qm2_add, nI_clamp, ni_0, ni_1, ni_5, ni_6, ni_43, ni_45, a0, a1]; refine qin_nI ?_ ?_ <;> first | omega | exact hB _ _ | exact hYB _ _) | (refine qin_nI ?_ ?_ <;> omega) | fail)) only [↓km0_gd, ↓km0_gI, ↓km0_gM, ↓km0_pI, ↓km0_pM, ↓km0_pZ, ↓km0_gL, ↓km0_pL, ↓qb_so, ↓nm_1, ↓nm_2, ↓reduceIte, if_true, if_false, not_true_eq_false, not_false_eq_true, and_true, true_and, and_false, false_and, or_true, true_or, or_false, false_or, eq_self, ne_eq, quI_s, quI_n, quI2, quL1, quL2, quL3, quR1, quR2, quR3, nI_add, pk_mul, pk_sub, Nat.add_sub_cancel, qm1_add, qm2_add, nI_leI, nI_ltI, nI_eq, nI_m1, nI_m1', nI_clamp, nI_bit, nI_one_shl, nI_m1l, nI_m1lt, nI_m1lt', nI_m1le', oI_some, oI_none, ni_0, ni_1, ni_5, ni_6, ni_43, ni_45, fX12_goesOn_B87, fX12_goesOn_B106, qle_t, qle_f, qlt_t, qlt_f, qeq_t, qeq_f, a0, a1]
  rw [q1, q2]
  simp (disch := (first | assumption | omega | exact hB _ _ | exact hYB _ _ | (simp only [yc, yd, sh, sv, ne_eq]; omega) | (simp (disch := omega) only [↓nm_1, ↓nm_2, nI_add, pk_mul, pk_sub, Nat.add_sub_cancel, qm1_add, qm2_add, nI_clamp, ni_0, ni_1, ni_32, ni_33, ni_34, ni_35, ni_42, ni_43, ni_45, ni_47, z1, b0, b1, b2, b3, y1, x1, m_pZ0]; refine qin_nI ?_ ?_ <;> first | omega | exact hB _ _ | exact hYB _ _) | (refine qin_nI ?_ ?_ <;> omega) | fail)) only [↓km0_gd, ↓km0_gI, ↓km0_gM, ↓km0_pI, ↓km0_pM, ↓km0_pZ, ↓km0_gL, ↓km0_pL, ↓qb_so, ↓nm_1, ↓nm_2, ↓reduceIte, if_true, if_false, not_true_eq_false, not_false_eq_true, and_true, true_and, and_false, false_and, or_true, true_or, or_false, false_or, eq_self, ne_eq, quI_s, quI_n, quI2, quL1, quL2, quL3, quR1, quR2, quR3, nI_add, pk_mul, pk_sub, Nat.add_sub_cancel, qm1_add, qm2_add, nI_leI, nI_ltI, nI_eq, nI_m1, nI_m1', nI_clamp, nI_bit, nI_one_shl, nI_m1l, nI_m1lt, nI_m1lt', nI_m1le', oI_some, oI_none, ni_0, ni_1, ni_32, ni_33, ni_34, ni_35, ni_42, ni_43, ni_45, ni_47, fX12_goesOn_B112, qle_t, qle_f, qlt_t, qlt_f, qeq_t, qeq_f, z1, b0, b1, b2, b3, y1, x1, m_pZ0]
end Q9j

