/-! ===== the reference reads a rule: it closes ===== -/
section Q9n
variable {S Z V : xSt} {n L e m o b d t k a A D K H B r K0 H0 B0 A0 : Nat} {f : Nat → Nat} {c c' : List (Nat × Nat)} {P P' p : List Nat} {o' D' K' H' B' A' : Nat}
theorem s_pop (h : stM Z b f L m e c P o D K H B A) (hD : 2 ≤ D) (c1 : Z.1 27 (D - 2) = nI K0) (c2 : Z.1 28 (D - 2) = nI H0) (c3 : Z.1 29 (D - 2) = nI B0) (c4 : Z.1 31 (D - 2) = nI A0) (hA : A0 ≤ P.length) : stM (xuI (xuI Z 0 47 (nI (D - 1))) 0 48 (nI (o - 1))) b f L m e c P (o - 1) (D - 1) K0 H0 B0 A0 ∧ frN b Z (xuI (xuI Z 0 47 (nI (D - 1))) 0 48 (nI (o - 1))) := by
  obtain ⟨g1, g2, g3, g4, g5, g6, g7, g8, g9, g10, g11, g12⟩ := h
  have hk : ∀ k j, ¬ (k = 0 ∧ (j = 47 ∨ j = 48)) → (xuI (xuI Z 0 47 (nI (D - 1))) 0 48 (nI (o - 1))).1 k j = Z.1 k j := fun k j x => by rw [quI_k (by omega), quI_k (by omega)]
  have hd : D - 1 - 1 = D - 2 := by omega
  refine ⟨⟨tkM_same g1 (fun k j x => hk k j (by omega)) rfl, g2, by rw [hk _ _ (by omega)]; exact g3, by rw [hk _ _ (by omega)]; exact g4, ?_, ⟨by rw [quI_k (by omega), quI_e], by rw [hk _ _ (by omega), hd]; exact c1, by rw [hk _ _ (by omega), hd]; exact c2, by rw [hk _ _ (by omega), hd]; exact c3, by rw [hk _ _ (by omega), hd]; exact c4⟩, by omega, hA, g9, by omega, by omega, by omega⟩, ⟨fun k j x y z => hk k j (by omega), fun _ _ _ => rfl, rfl⟩⟩
  obtain ⟨d1, d2, d3, d4, d5, d6, d7⟩ := g5
  exact ⟨by rw [hk _ _ (by omega)]; exact d1, by rw [hk _ _ (by omega)]; exact d2, mCode_eq d3 (fun j _ _ => ⟨hk _ _ (by omega), hk _ _ (by omega)⟩), quI_e, by rw [hk _ _ (by omega)]; exact d5, pSt_eq d6 (fun j _ => hk _ _ (by omega)), d7⟩
/-- a sum in brackets closes -/
theorem g_close2 (hb : b < 2) (hn : 2000 ≤ n) (h : stM S b f L m e c (p ++ P) o D 2 H B P.length) (hD : 2 ≤ D) (c1 : S.1 27 (D - 2) = nI K0) (c2 : S.1 28 (D - 2) = nI H0) (c3 : S.1 29 (D - 2) = nI B0) (c4 : S.1 31 (D - 2) = nI A0) (hA : A0 ≤ P.length) (hi : ig f L e 41) (hp : ∀ x, x ∈ p → 1 ≤ rkq x) (h422 : fX12_goesOn n 0 S = fX12_goesOn_B422 n 0 (nI (D - 1)) (nI 2) S) : ∃ Z, fX12_goesOn n 0 S = some (nI 1, Z) ∧ stM Z b f L m (kE f L e) (c ++ em p) P (o - nots p - 1) (D - 1) K0 H0 B0 A0 ∧ frN b S Z ∧ (∀ k j, 27 ≤ k → k ≤ 31 → Z.1 k j = S.1 k j) ∧ Z.1 0 51 = S.1 0 51 := by
  obtain ⟨Z, z1, z2, z3, z4⟩ := s_join (r := 1) hb (by decide) hn h (Nat.le_refl _) hp (fun hh => absurd hh (Nat.lt_irrefl _))
  have zk : ∀ k j, 27 ≤ k → Z.1 k j = S.1 k j := fun k j x => z4.1 k j (by omega) (by omega) (by omega)
  have u := s_pop (K0 := K0) (H0 := H0) (B0 := B0) (A0 := A0) z2 hD (by rw [zk _ _ (by decide)]; exact c1) (by rw [zk _ _ (by decide)]; exact c2) (by rw [zk _ _ (by decide)]; exact c3) (by rw [zk _ _ (by decide)]; exact c4) hA
  obtain ⟨X, x1, x2, x3⟩ := s_ahead hn (stX_of u.1) (ig_T hi)
  refine ⟨X, ?_, x2, frN_trans z3 (frN_trans u.2 (frN_M x3)), fun k j a1 a2 => by rw [x3.1 k j (by omega), quI_k (by omega), quI_k (by omega), zk k j a1], by rw [x3.1 _ _ (by omega), quI_k (by omega), quI_k (by omega), z4.1 _ _ (by omega) (by decide) (by decide)]⟩
  rw [h422]
  have h8 := h.2.2.1
  have s1 := m_isS h.1 (k := 41) (by decide)
  rw [if_pos hi] at s1
  have z47 := z2.2.2.2.2.2.1.1
  have z48 := z2.2.2.2.2.1.2.2.2.1
  have n12 := z2.2.2.2.2.2.2.2.2.2.2
  have ho1 : 1 ≤ o - nots p := by omega
  simp (disch := (first | assumption | omega | exact hB _ _ | exact hYB _ _ | (simp only [yc, yd, sh, sv, ne_eq]; omega) | (simp (disch := omega) only [↓nm_1, ↓nm_2, nI_add, pk_mul, pk_sub, Nat.add_sub_cancel, qm1_add, qm2_add, nI_clamp, ni_0, ni_1, ni_2, ni_3, ni_4, ni_5, ni_6, ni_41, ni_93, s1, h8, z1, z47, z48, x1]; refine qin_nI ?_ ?_ <;> first | omega | exact hB _ _ | exact hYB _ _) | (refine qin_nI ?_ ?_ <;> omega) | fail)) only [↓km0_gd, ↓km0_gI, ↓km0_gM, ↓km0_pI, ↓km0_pM, ↓km0_pZ, ↓km0_gL, ↓km0_pL, ↓km0_gF43, ↓km0_gF45, ↓km28_al, ↓km28_as, ↓km28_ln, ↓km30_al, ↓km30_as, ↓km30_ln, ↓qb_so, ↓nm_1, ↓nm_2, ↓reduceIte, if_true, if_false, not_true_eq_false, not_false_eq_true, and_true, true_and, and_false, false_and, or_true, true_or, or_false, false_or, eq_self, ne_eq, quI_s, quI_n, quI2, quL1, quL2, quL3, quR1, quR2, quR3, nI_add, pk_mul, pk_sub, Nat.add_sub_cancel, qm1_add, qm2_add, nI_leI, nI_ltI, nI_eq, nI_m1, nI_m1', nI_clamp, nI_bit, nI_one_shl, nI_m1l, nI_m1lt, nI_m1lt', nI_m1le', oI_some, oI_none, ni_0, ni_1, ni_2, ni_3, ni_4, ni_5, ni_6, ni_41, ni_93, fX12_goesOn_B422, fX12_goesOn_B531, fX12_goesOn_B546, fX12_goesOn_B596, qle_t, qle_f, qlt_t, qlt_f, qeq_t, qeq_f, s1, h8, z1, z47, z48, x1]
/-- a test in brackets closes -/
theorem g_close5 (hb : b < 2) (hn : 2000 ≤ n) (h : stM S b f L m e c (p ++ P) o D 5 H B P.length) (hD : 2 ≤ D) (c1 : S.1 27 (D - 2) = nI K0) (c2 : S.1 28 (D - 2) = nI H0) (c3 : S.1 29 (D - 2) = nI B0) (c4 : S.1 31 (D - 2) = nI A0) (hA : A0 ≤ P.length) (hi : ig f L e 93) (hp : ∀ x, x ∈ p → 1 ≤ rkq x) (h422 : fX12_goesOn n 0 S = fX12_goesOn_B422 n 0 (nI (D - 1)) (nI 5) S) : ∃ Z, fX12_goesOn n 0 S = some (nI 1, Z) ∧ stM Z b f L m (kE f L e) (c ++ em p) P (o - nots p - 1) (D - 1) K0 2 B0 A0 ∧ frN b S Z ∧ (∀ k j, 27 ≤ k → k ≤ 31 → ¬ (k = 28 ∧ j = D - 2) → Z.1 k j = S.1 k j) ∧ Z.1 0 51 = S.1 0 51 := by
  obtain ⟨Z, z1, z2, z3, z4⟩ := s_join (r := 1) hb (by decide) hn h (Nat.le_refl _) hp (fun hh => absurd hh (Nat.lt_irrefl _))
  have zk : ∀ k j, 27 ≤ k → Z.1 k j = S.1 k j := fun k j x => z4.1 k j (by omega) (by omega) (by omega)
  have u := s_pop (K0 := K0) (H0 := H0) (B0 := B0) (A0 := A0) z2 hD (by rw [zk _ _ (by decide)]; exact c1) (by rw [zk _ _ (by decide)]; exact c2) (by rw [zk _ _ (by decide)]; exact c3) (by rw [zk _ _ (by decide)]; exact c4) hA
  have v := stX_half (k := 2) (stX_of u.1)
  have hd : D - 1 - 1 = D - 2 := by omega
  obtain ⟨X, x1, x2, x3⟩ := s_ahead hn v.1 (ig_T hi)
  refine ⟨X, ?_, x2, frN_trans z3 (frN_trans u.2 (frN_trans v.2.1 (frN_M x3))), fun k j a1 a2 a3 => by rw [x3.1 k j (by omega), quI_k (by omega), quI_k (by omega), quI_k (by omega), zk k j a1], by rw [x3.1 _ _ (by omega), quI_k (by omega), quI_k (by omega), quI_k (by omega), z4.1 _ _ (by omega) (by decide) (by decide)]⟩
  rw [h422]
  have h8 := h.2.2.1
  have s1 := m_isS h.1 (k := 93) (by decide)
  rw [if_pos hi] at s1
  have z47 := z2.2.2.2.2.2.1.1
  have z48 := z2.2.2.2.2.1.2.2.2.1
  have n12 := z2.2.2.2.2.2.2.2.2.2.2
  have ho1 : 1 ≤ o - nots p := by omega
  have hD8 : D ≤ 8 := by omega
  simp (disch := (first | assumption | omega | exact hB _ _ | exact hYB _ _ | (simp only [yc, yd, sh, sv, ne_eq]; omega) | (simp (disch := omega) only [↓nm_1, ↓nm_2, nI_add, pk_mul, pk_sub, Nat.add_sub_cancel, qm1_add, qm2_add, nI_clamp, ni_0, ni_1, ni_2, ni_3, ni_4, ni_5, ni_6, ni_41, ni_93, s1, h8, z1, z47, z48, x1]; refine qin_nI ?_ ?_ <;> first | omega | exact hB _ _ | exact hYB _ _) | (refine qin_nI ?_ ?_ <;> omega) | fail)) only [↓km0_gd, ↓km0_gI, ↓km0_gM, ↓km0_pI, ↓km0_pM, ↓km0_pZ, ↓km0_gL, ↓km0_pL, ↓km0_gF43, ↓km0_gF45, ↓km28_al, ↓km28_as, ↓km28_ln, ↓km30_al, ↓km30_as, ↓km30_ln, ↓qb_so, ↓nm_1, ↓nm_2, ↓reduceIte, if_true, if_false, not_true_eq_false, not_false_eq_true, and_true, true_and, and_false, false_and, or_true, true_or, or_false, false_or, eq_self, ne_eq, quI_s, quI_n, quI2, quL1, quL2, quL3, quR1, quR2, quR3, nI_add, pk_mul, pk_sub, Nat.add_sub_cancel, qm1_add, qm2_add, nI_leI, nI_ltI, nI_eq, nI_m1, nI_m1', nI_clamp, nI_bit, nI_one_shl, nI_m1l, nI_m1lt, nI_m1lt', nI_m1le', oI_some, oI_none, ni_0, ni_1, ni_2, ni_3, ni_4, ni_5, ni_6, ni_41, ni_93, fX12_goesOn_B422, fX12_goesOn_B531, fX12_goesOn_B546, fX12_goesOn_B596, qle_t, qle_f, qlt_t, qlt_f, qeq_t, qeq_f, s1, h8, z1, z47, z48, x1]
end Q9n

