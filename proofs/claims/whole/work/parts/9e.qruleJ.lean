/-! ===== the reference reads a rule: it opens ===== -/
section Q9e
variable {S Z V : xSt} {n L e m o b d t k a A D K H B r : Nat} {f : Nat → Nat} {c c' : List (Nat × Nat)} {P P' : List Nat} {o' D' K' H' B' A' : Nat}
/-- a fault stands -/
def flM (b : Nat) (S : xSt) (kd pl : Nat) (Z : xSt) : Prop := Z.1 0 8 = nI kd ∧ Z.1 0 9 = nI pl ∧ frN b S Z
theorem flM_up {kd pl : Nat} : flM b S kd pl (xuI (xuI S 0 8 (nI kd)) 0 9 (nI pl)) := ⟨by rw [quI_k (by omega), quI_e], quI_e, fun k j x y z => by rw [quI_k (by omega), quI_k (by omega)], fun _ _ _ => rfl, rfl⟩
theorem flM_pre {kd pl : Nat} (h : frN b S V) (h1 : flM b V kd pl Z) : flM b S kd pl Z := ⟨h1.1, h1.2.1, frN_trans h h1.2.2⟩
theorem o_opens (hn : 2000 ≤ n) (h : stM S b f L m e c P o D K H B A) (hT : kT f L e ≠ 0) (ho : o < 7) : ∃ Z, fX12_opens n 0 (nI K') S = some Z ∧ stM Z b f L m (kE f L e) c P (o + 1) (D + 1) K' 0 1 P.length ∧ frN b S Z ∧ (∀ k j, 27 ≤ k → k ≤ 31 → j < D → Z.1 k j = S.1 k j) ∧ Z.1 0 51 = S.1 0 51 := by
  obtain ⟨g1, g2, g3, g4, g5, g6, g7, g8, g9, g10, g11, g12⟩ := h
  have h48 := g5.2.2.2.1
  have hg := kE_gt hT
  have hke := kE_from (f := f) g2
  have ho7 : ¬ o = 7 := by omega
  obtain ⟨Z, z1, z2, z3⟩ := m_ahead (S := xuI S 0 48 (nI (o + 1))) hn ⟨fun i hi => by rw [quI_k (by omega)]; exact g1.1.1 i hi, by rw [quI_k (by omega)]; exact g1.1.2.1, g1.1.2.2.1, g1.1.2.2.2⟩ (by rw [quI_k (by omega)]; exact g1.2.2.2.1) hke.2
  have zk : ∀ k j, ¬ (k = 0 ∧ ((3 ≤ j ∧ j ≤ 6) ∨ j = 12)) → ¬ (k = 0 ∧ j = 48) → Z.1 k j = S.1 k j := fun k j x y => by rw [z3.1 k j x, quI_k y]
  have z47 : Z.1 0 47 = nI D := by rw [zk _ _ (by omega) (by omega)]; exact g6.1
  have z50 : Z.1 0 50 = nI P.length := by rw [zk _ _ (by omega) (by omega)]; exact g5.2.2.2.2.1
  have p1 := m_push (K := K') (S := Z) (by omega : D < 20) z47 z50
  have wk : ∀ k j, ¬ (k = 0 ∧ j = 47) → ¬ ((k = 27 ∨ k = 28 ∨ k = 29 ∨ k = 31) ∧ j = D) → (xuI (xuI (xuI (xuI (xuI Z 27 D (nI K')) 28 D (nI 0)) 29 D (nI 1)) 31 D (nI P.length)) 0 47 (nI (D + 1))).1 k j = Z.1 k j := fun k j x y => by rw [quI_k x, quI_k (by omega), quI_k (by omega), quI_k (by omega), quI_k (by omega)]
  have hk : ∀ k j, ¬ (k = 0 ∧ ((3 ≤ j ∧ j ≤ 6) ∨ j = 12)) → ¬ (k = 0 ∧ (j = 47 ∨ j = 48)) → ¬ ((k = 27 ∨ k = 28 ∨ k = 29 ∨ k = 31) ∧ j = D) → (xuI (xuI (xuI (xuI (xuI Z 27 D (nI K')) 28 D (nI 0)) 29 D (nI 1)) 31 D (nI P.length)) 0 47 (nI (D + 1))).1 k j = S.1 k j := fun k j x y z => by rw [wk k j (by omega) z, zk k j x (by omega)]
  refine ⟨xuI (xuI (xuI (xuI (xuI Z 27 D (nI K')) 28 D (nI 0)) 29 D (nI 1)) 31 D (nI P.length)) 0 47 (nI (D + 1)), ?_, ⟨?_, hke.2, ?_, ?_, ?_, ?_, ?_, Nat.le_refl _, g9, by omega, by omega, by omega⟩, ⟨?_, ?_, ?_⟩, ?_, ?_⟩
  · simp (disch := (first | assumption | omega | exact hB _ _ | exact hYB _ _ | (simp only [yc, yd, sh, sv, ne_eq]; omega) | (simp (disch := omega) only [↓nm_1, ↓nm_2, nI_add, pk_mul, pk_sub, Nat.add_sub_cancel, qm1_add, qm2_add, nI_clamp, ni_0, ni_1, ni_5, ni_7, h48, ho7, g3, z1, p1]; refine qin_nI ?_ ?_ <;> first | omega | exact hB _ _ | exact hYB _ _) | (refine qin_nI ?_ ?_ <;> omega) | fail)) only [↓km0_gd, ↓km0_gI, ↓km0_gM, ↓km0_pI, ↓km0_pM, ↓km0_pZ, ↓km0_gL, ↓km0_pL, ↓qb_so, ↓nm_1, ↓nm_2, ↓reduceIte, if_true, if_false, not_true_eq_false, not_false_eq_true, and_true, true_and, and_false, false_and, or_true, true_or, or_false, false_or, eq_self, ne_eq, quI_s, quI_n, quI2, quL1, quL2, quL3, quR1, quR2, quR3, nI_add, pk_mul, pk_sub, Nat.add_sub_cancel, qm1_add, qm2_add, nI_leI, nI_ltI, nI_eq, nI_m1, nI_m1', nI_clamp, nI_bit, nI_one_shl, nI_m1l, nI_m1lt, nI_m1lt', nI_m1le', oI_some, oI_none, ni_0, ni_1, ni_5, ni_7, fX12_opens, fX12_opens_B18, qle_t, qle_f, qlt_t, qlt_f, qeq_t, qeq_f, h48, ho7, g3, z1, p1]
  · exact tkM_same z2 (fun k j x => wk k j (by omega) (by omega)) rfl
  · rw [hk _ _ (by omega) (by omega) (by omega)]; exact g3
  · rw [hk _ _ (by omega) (by omega) (by omega)]; exact g4
  · obtain ⟨c1, c2, c3, c4, c5, c6, c7⟩ := g5
    exact ⟨by rw [hk _ _ (by omega) (by omega) (by omega)]; exact c1, by rw [hk _ _ (by omega) (by omega) (by omega)]; exact c2, mCode_eq c3 (fun j _ _ => ⟨hk _ _ (by omega) (by omega) (by omega), hk _ _ (by omega) (by omega) (by omega)⟩), by rw [wk _ _ (by omega) (by omega), z3.1 _ _ (by omega), quI_e], by rw [hk _ _ (by omega) (by omega) (by omega)]; exact c5, pSt_eq c6 (fun j _ => hk _ _ (by omega) (by omega) (by omega)), c7⟩
  · refine ⟨quI_e, ?_, ?_, ?_, ?_⟩
    · rw [Nat.add_sub_cancel, quI_k (by omega), quI_k (by omega), quI_k (by omega), quI_k (by omega), quI_e]
    · rw [Nat.add_sub_cancel, quI_k (by omega), quI_k (by omega), quI_k (by omega), quI_e]
    · rw [Nat.add_sub_cancel, quI_k (by omega), quI_k (by omega), quI_e]
    · rw [Nat.add_sub_cancel, quI_k (by omega), quI_e]
  · omega
  · intro k j x y z
    exact hk k j (by omega) (by omega) (by omega)
  · intro k j x
    exact z3.2.1 k j x
  · exact z3.2.2
  · intro k j x y z
    exact hk k j (by omega) (by omega) (by omega)
  · rw [hk _ _ (by omega) (by omega) (by omega)]
theorem o_opensF (h : stM S b f L m e c P 7 D K H B A) : ∃ Z, fX12_opens n 0 (nI K') S = some Z ∧ flM b S 5 (kS f L e) Z := by
  obtain ⟨g1, g2, g3, g4, g5, g6, g7, g8, g9, g10, g11, g12⟩ := h
  have h48 := g5.2.2.2.1
  have h4 := g1.2.2.1
  have e1 := m_blame (k := 5) (p := kS f L e) g3
  refine ⟨_, ?_, flM_up⟩
  simp (disch := (first | assumption | omega | exact hB _ _ | exact hYB _ _ | (simp only [yc, yd, sh, sv, ne_eq]; omega) | (simp (disch := omega) only [↓nm_1, ↓nm_2, nI_add, pk_mul, pk_sub, Nat.add_sub_cancel, qm1_add, qm2_add, nI_clamp, ni_0, ni_1, ni_5, ni_7, h48, h4, e1]; refine qin_nI ?_ ?_ <;> first | omega | exact hB _ _ | exact hYB _ _) | (refine qin_nI ?_ ?_ <;> omega) | fail)) only [↓km0_gd, ↓km0_gI, ↓km0_gM, ↓km0_pI, ↓km0_pM, ↓km0_pZ, ↓km0_gL, ↓km0_pL, ↓qb_so, ↓nm_1, ↓nm_2, ↓reduceIte, if_true, if_false, not_true_eq_false, not_false_eq_true, and_true, true_and, and_false, false_and, or_true, true_or, or_false, false_or, eq_self, ne_eq, quI_s, quI_n, quI2, quL1, quL2, quL3, quR1, quR2, quR3, nI_add, pk_mul, pk_sub, Nat.add_sub_cancel, qm1_add, qm2_add, nI_leI, nI_ltI, nI_eq, nI_m1, nI_m1', nI_clamp, nI_bit, nI_one_shl, nI_m1l, nI_m1lt, nI_m1lt', nI_m1le', oI_some, oI_none, ni_0, ni_1, ni_5, ni_7, fX12_opens, fX12_opens_B18, qle_t, qle_f, qlt_t, qlt_f, qeq_t, qeq_f, h48, h4, e1]
end Q9e

