/-! ===== year: the class ===== -/
section Q9zm
variable {S Z V W : xSt} {n L e m o b d t k a s w lo hi j r kd pl c : Nat} {f : Nat → Nat} {cc mc wc mc' wc' : List (Nat × Nat)} {Y Y' D : Nat → Nat → Nat} {P : Nat → Nat → Nat → Nat} {G : Nat → Nat → Nat}
theorem s_dn_c {c j : Nat} (h : c = 0 ∨ c = 3 ∨ c = 5) : s_dn Y D c j = 0 := by unfold s_dn; rw [if_neg (by omega), if_neg (by omega), if_neg (by omega), if_neg (by omega)]
/-- the state behind a year that was read -/
def cEnd (A : xSt) (b : Nat) : xSt := xuI (xuI (xuR (xuI (xuI (xuI A 41 2 (nI 0)) 41 3 (nI 0)) 0 13 (nI 0)) 148 3 (yc b 0)) 148 7 (nI 0)) 148 11 (nI 0)
theorem c_yT {x : Int32} (hn : 2000 ≤ n) (hb : b < 2) (h2 : Z.2.2 0 2 = yc (1 - b) 0) (h3 : Z.2.2 0 3 = yc b 0) :
    ∃ A, ((xgM tC 11 2 0 Z).bind fun r5 => (xgM tC 11 3 0 Z).bind fun r6 => (xpM tC 11 2 0 r6 Z).bind fun S7 => (xpM tC 11 3 0 r5 S7).bind fun S8 => (xgF tC 11 4 0 S8).bind fun r9 => (xgM tC 11 2 0 S8).bind fun r10 => (fX8_start n r9 r10 S8).bind fun S11 => (xgF tC 11 5 0 S11).bind fun r12 => (fX3_clear r12 S11).bind fun S13 => (xpI tC 11 13 0 ((0 : Int32)) S13).bind fun S14 => (xgF tC 11 7 0 S14).bind fun r15 => (xgM tC 11 2 0 S14).bind fun r16 => (fX0_turnTo r15 r16 S14).bind fun S17 => some (x, S17)) = some (x, cEnd A b) ∧
    (∀ j, j < 5 → A.1 36 j = nI 0) ∧ (∀ j, A.1 37 j = if j < 8 then Z.1 (yc b 6) j else Z.1 37 j) ∧ (∀ j, A.1 38 j = if j < 48 then Z.1 (yc b 7) j else Z.1 38 j) ∧ (∀ j, A.1 39 j = if j < 6 then nI 0 else Z.1 39 j) ∧ (∀ j, A.1 40 j = if j < 6 then Z.1 (yc b 8) j else Z.1 40 j) ∧ (∀ k, ¬ (36 ≤ k ∧ k ≤ 40) → A.1 k = Z.1 k) ∧ A.2.1 = Z.2.1 ∧ A.2.2 0 2 = yc b 0 ∧ A.2.2 0 3 = yc (1 - b) 0 ∧ (∀ k j, k ≠ 0 → A.2.2 k j = Z.2.2 k j) := by
  obtain ⟨A, a1, a2, a3, a4, a5, a6, a7, a8⟩ := c_start (n := n) (S := xuR (xuR Z 0 2 (yc b 0)) 0 3 (yc (1 - b) 0)) hn hb
  have r2 : A.2.2 0 2 = yc b 0 := by rw [a8]; show (xuR (xuR Z 0 2 (yc b 0)) 0 3 (yc (1 - b) 0)).2.2 0 2 = _; rw [quR3, if_pos rfl, if_neg (by decide)]; exact quR_e
  have r3 : A.2.2 0 3 = yc (1 - b) 0 := by rw [a8]; exact quR_e
  have q2 : (xuR (xuR Z 0 2 (yc b 0)) 0 3 (yc (1 - b) 0)).2.2 0 2 = yc b 0 := by rw [quR3, if_pos rfl, if_neg (by decide)]; exact quR_e
  refine ⟨A, ?_, a2, a3, a4, a5, a6, a7, by rw [a8]; rfl, r2, r3, fun k j hk => by rw [a8]; show (xuR (xuR Z 0 2 (yc b 0)) 0 3 (yc (1 - b) 0)).2.2 k j = _; rw [quR3, if_neg hk, quR3, if_neg hk]⟩
  have a1' : fX8_start n (yd 0 0) (yc b 0) (xuR (xuR Z 0 2 (yc b 0)) 0 3 (yc (1 - b) 0)) = some A := a1
  unfold cEnd
  simp (maxSteps := 3000000) (disch := (first | assumption | omega | exact hB _ _ | exact hYB _ _ | (simp only [yc, yd, sh, sv, ne_eq]; omega) | (simp (disch := omega) only [↓nm_1, ↓nm_2, nI_add, pk_mul, pk_sub, Nat.add_sub_cancel, qm1_add, qm2_add, nI_clamp, ni_0, ni_1, h2, h3, q2, a1', r2]; refine qin_nI ?_ ?_ <;> first | omega | exact hB _ _ | exact hYB _ _) | (refine qin_nI ?_ ?_ <;> omega) | fail)) only [↓kc0_gd, ↓kc0_gI, ↓kc0_gM, ↓kc0_pI, ↓kc0_pM, ↓kc0_pZ, ↓kc0_gF0, ↓kc0_gF4, ↓kc0_gF5, ↓kc0_gF6, ↓kc0_gF7, ↓kc0_gF8, ↓kc0_gF9, ↓kc0_gF10, ↓kc0_gF11, ↓kc0_gF12, ↓kc0_gF14, ↓kc1_al, ↓kc1_as, ↓kc1_ln, ↓kc41_gd, ↓kc41_gI, ↓kc41_gM, ↓kc41_pI, ↓kc41_pM, ↓kc41_pZ, ↓kc41_gF0, ↓kc41_gF1, ↓kc42_ql, ↓kc43_al, ↓kc43_as, ↓kc43_ln, ↓kc148_gd, ↓kc148_gI, ↓kc148_gM, ↓kc148_pI, ↓kc148_pM, ↓kc148_pZ, ↓kc148_gF0, ↓kc148_gF1, ↓kc148_gF2, ↓kc148_gF4, ↓kc148_gF5, ↓kc154_al, ↓kc154_as, ↓kc154_ln, ↓kc155_al, ↓kc155_as, ↓kc155_ln, ↓kc160_gd, ↓kc160_gI, ↓kc160_gM, ↓kc160_pI, ↓kc160_pM, ↓kc160_pZ, ↓kc160_gF0, ↓kc160_gF1, ↓kc161_al, ↓kc161_as, ↓kc161_ln, ↓kc162_gd, ↓kc162_gI, ↓kc162_gM, ↓kc162_pI, ↓kc162_pM, ↓kc162_pZ, ↓kc162_gF0, ↓kc162_gF1, ↓kc163_gd, ↓kc163_gI, ↓kc163_gM, ↓kc163_pI, ↓kc163_pM, ↓kc163_pZ, ↓kc163_gF0, ↓kc164_gd, ↓kc164_gI, ↓kc164_gM, ↓kc164_pI, ↓kc164_pM, ↓kc164_pZ, ↓kc164_gF0, ↓kc164_gF1, ↓kc164_gF2, ↓kc164_gF3, ↓kc165_al, ↓kc165_as, ↓kc165_ln, ↓kc166_al, ↓kc166_as, ↓kc166_ln, ↓kc167_al, ↓kc167_as, ↓kc167_ln, ↓kc168_al, ↓kc168_as, ↓kc168_ln, ↓kc169_gd, ↓kc169_gI, ↓kc169_gM, ↓kc169_pI, ↓kc169_pM, ↓kc169_pZ, ↓kc169_gF0, ↓kc169_gF2, ↓kc170_al, ↓kc170_as, ↓kc170_ln, ↓kc171_gd, ↓kc171_gI, ↓kc171_gM, ↓kc171_pI, ↓kc171_pM, ↓kc171_pZ, ↓kc171_gF5, ↓kc171_gF6, ↓kc171_gF7, ↓kc171_gF8, ↓kc172_al, ↓kc172_as, ↓kc172_ln, ↓kc173_al, ↓kc173_as, ↓kc173_ln, ↓kc174_al, ↓kc174_as, ↓kc174_ln, ↓kc175_al, ↓kc175_as, ↓kc175_ln, ↓kc176_al, ↓kc176_as, ↓kc176_ln, ↓kc177_al, ↓kc177_as, ↓kc177_ln, ↓qb_so, ↓nm_1, ↓nm_2, ↓reduceIte, if_true, if_false, not_true_eq_false, not_false_eq_true, and_true, true_and, and_false, false_and, or_true, true_or, or_false, false_or, eq_self, ne_eq, quI_s, quI_n, quI2, quL1, quL2, quL3, quR1, quR2, quR3, nI_add, pk_mul, pk_sub, Nat.add_sub_cancel, qm1_add, qm2_add, nI_leI, nI_ltI, nI_eq, nI_m1, nI_m1', nI_clamp, nI_bit, nI_one_shl, nI_m1l, nI_m1lt, nI_m1lt', nI_m1le', oI_some, oI_none, ni_0, ni_1, fX3_clear, fX0_turnTo, fX0_forget, qle_t, qle_f, qlt_t, qlt_f, qeq_t, qeq_f, h2, h3, q2, a1', r2]
theorem gC_Y {A : xSt} (hb : b < 2) (hI : gI Y mc wc D P G) (hf : frY (1 - b) S Z) (hm : mkC Z (1 - b) f L e Y' cc) (hL : L ≤ 1600) (hJ : yJa Y' cc mc' wc') (h : gC S b Y mc wc D P G)
    (a2 : ∀ j, j < 5 → A.1 36 j = nI 0) (a3 : ∀ j, A.1 37 j = if j < 8 then Z.1 (yc (1 - b) 6) j else Z.1 37 j) (a4 : ∀ j, A.1 38 j = if j < 48 then Z.1 (yc (1 - b) 7) j else Z.1 38 j) (a5 : ∀ j, A.1 39 j = if j < 6 then nI 0 else Z.1 39 j) (a6 : ∀ j, A.1 40 j = if j < 6 then Z.1 (yc (1 - b) 8) j else Z.1 40 j) (a7 : ∀ k, ¬ (36 ≤ k ∧ k ≤ 40) → A.1 k = Z.1 k) (a9 : A.2.2 0 2 = yc (1 - b) 0) (a10 : A.2.2 0 3 = yc b 0) (a11 : ∀ k j, k ≠ 0 → A.2.2 k j = Z.2.2 k j) :
    gC (cEnd A (1 - b)) (1 - b) Y' mc' wc' (s_dn Y' D) P (s_gY G) := by
  obtain ⟨⟨y1, y2, y3, y4, y5, y6, y7, y8⟩, ⟨h2a, h2b, h2c⟩, ⟨d1, d2, d3⟩, _, ⟨c0, h5a, h5b, h5c, h5d⟩, ⟨h6a, h6b, h6c, h6d, h6e, h6f, h6g⟩, ⟨h7a, h7b, h7c⟩, _, ⟨h9a, h9b, h9c, ⟨T, h9d, h9e⟩, h9f⟩, h10⟩ := h
  obtain ⟨m1, m2, m3, m4, m5, m6, m7, m8, m9, m10⟩ := hm
  obtain ⟨j1, j2, j3, j4, j5, j6, j7, j8⟩ := hJ
  have hZ := hI.2.2.1.2.2.2.2.2.2.2.2.2.2.2.2.2.2
  have b1 : 1 - (1 - b) = b := by omega
  -- the end's cells
  have w1 : ∀ k j, ¬ (k = 41 ∧ (j = 2 ∨ j = 3)) → ¬ (k = 0 ∧ j = 13) → ¬ (k = 148 ∧ (j = 7 ∨ j = 11)) → (cEnd A (1 - b)).1 k j = A.1 k j := fun k j g1 g2 g3 => by
    unfold cEnd
    rw [quI_k (by omega), quI_k (by omega)]
    show (xuI (xuI (xuI A 41 2 (nI 0)) 41 3 (nI 0)) 0 13 (nI 0)).1 k j = _
    rw [quI_k (by omega), quI_k (by omega), quI_k (by omega)]
  have e : ∀ k j, (k < 2 ∨ (41 ≤ k ∧ k ≤ 159) ∨ k = 161 ∨ 164 ≤ k) → ¬ (k = 41 ∧ (j = 2 ∨ j = 3)) → ¬ (k = 0 ∧ j = 13) → ¬ (k = 148 ∧ (j = 7 ∨ j = 11)) → (cEnd A (1 - b)).1 k j = S.1 k j := fun k j g0 g1 g2 g3 => by
    rw [w1 k j g1 g2 g3, a7 k (by omega), hf.1 k j (by omega) (by unfold yc; omega) (by omega)]
  have eZ : ∀ k j, 36 ≤ k → k ≤ 40 → Z.1 k j = S.1 k j := fun k j g1 g2 => hf.1 k j (by omega) (by unfold yc; omega) (by omega)
  have ey : ∀ c j, c ≤ 16 → (cEnd A (1 - b)).1 (yc b c) j = S.1 (yc b c) j := fun c j a2 => by
    rw [w1 _ _ (by unfold yc; omega) (by unfold yc; omega) (by unfold yc; omega), a7 _ (by unfold yc; omega), hf.1 _ j (by unfold yc; omega) (by unfold yc; omega) (by unfold yc; omega)]
  have ez : ∀ c j, c ≤ 16 → (cEnd A (1 - b)).1 (yc (1 - b) c) j = Z.1 (yc (1 - b) c) j := fun c j a2 => by
    rw [w1 _ _ (by unfold yc; omega) (by unfold yc; omega) (by unfold yc; omega), a7 _ (by unfold yc; omega)]
  have es : ∀ i c j, i < 20 → c ≤ 4 → (cEnd A (1 - b)).1 (sv i c) j = S.1 (sv i c) j := fun i c j a1 a2 => e _ _ (by unfold sv; omega) (by unfold sv; omega) (by unfold sv; omega) (by unfold sv; omega)
  have gg : ∀ c j, ¬ (c = 1 ∧ (j = 2 ∨ j = 4 ∨ j = 5 ∨ j = 6)) → s_gY G c j = G c j := fun c j hc => by unfold s_gY; rw [dU_at, if_neg (by omega), dU_at, if_neg (by omega), dU_at, if_neg (by omega), dU_at, if_neg (by omega)]
  have g2 : s_gY G 1 2 = 0 := by unfold s_gY; rw [dU_j (by decide), dU_j (by decide), dU_j (by decide), dU_s]
  have g4 : s_gY G 1 4 = 0 := by unfold s_gY; rw [dU_j (by decide), dU_j (by decide), dU_s]
  have g5 : s_gY G 1 5 = 0 := by unfold s_gY; rw [dU_j (by decide), dU_s]
  have g6 : s_gY G 1 6 = 0 := by unfold s_gY; rw [dU_s]
  have s1 := sbl_len j6
  have s2 := sbl_len j7
  have c160 : ∀ j, (cEnd A (1 - b)).1 160 j = Z.1 160 j := fun j => by rw [w1 _ _ (by omega) (by omega) (by omega), a7 _ (by omega)]
  refine ⟨⟨fun c j hc => by rw [ez c j (by omega)]; exact m3 c j hc, fun j => by rw [ez 14 j (by decide)]; exact m4 j, j4, j5, by omega, by omega, ?_, ?_⟩, ⟨?_, ?_, ?_⟩, ⟨fun j hj => ?_, fun c j hc hc2 => ?_, fun h0 => ⟨?_, fun k => ?_⟩⟩, ⟨Y, ?_, fun c j hc => by rw [b1, ey c j (by omega)]; exact y1 c j hc, fun j => by rw [b1, ey 14 j (by decide)]; exact y2 j⟩, ⟨0, by decide, ?_, ?_, fun i hi => by rw [g6] at hi; omega⟩, ⟨fun i => by rw [e _ _ (by omega) (by omega) (by omega) (by omega), gg _ _ (by omega)]; exact h6a i, by rw [e _ _ (by omega) (by omega) (by omega) (by omega), gg _ _ (by omega)]; exact h6b, by rw [e _ _ (by omega) (by omega) (by omega) (by omega), gg _ _ (by omega)]; exact h6c, ?_, by rw [e _ _ (by omega) (by omega) (by omega) (by omega), gg _ _ (by omega)]; exact h6e, by rw [c160, g4]; exact m9, by rw [c160, g5]; exact m10⟩, ⟨fun i hi => by rw [e _ _ (by omega) (by omega) (by omega) (by omega), gg _ _ (by omega)]; exact h7a i hi, fun i hi => by rw [g2] at hi; omega, fun i hi => by rw [gg _ _ (by omega)] at hi; rw [e _ _ (by omega) (by omega) (by omega) (by omega), gg _ _ (by omega)]; exact h7c i hi⟩, ⟨⟨0, ?_, Or.inl rfl⟩, ⟨0, ?_, Or.inl rfl⟩⟩, ⟨fun c j hc hc2 hj => ?_, fun c j hc hc2 hj => ?_, fun i hi c j hc hc2 hj => ?_, ⟨T, fun c j hc hc2 => ?_, h9e⟩, fun w hw => ?_⟩, fun k hk => by rw [e _ _ (by omega) (by omega) (by omega) (by omega)]; exact h10 k hk⟩
  · obtain ⟨u, v, hu, hp⟩ := j6
    rw [hu] at m5
    have := oCode_sub m5
    rw [Nat.zero_add, hp] at this
    exact oCode_eq this (fun j _ => ez 15 j (by decide))
  · obtain ⟨u, v, hu, hp⟩ := j7
    rw [hu] at m5
    have := oCode_sub m5
    rw [Nat.zero_add, hp] at this
    exact oCode_eq this (fun j _ => ez 15 j (by decide))
  · show (xuR (xuI (xuI (xuI A 41 2 (nI 0)) 41 3 (nI 0)) 0 13 (nI 0)) 148 3 (yc (1 - b) 0)).2.2 0 2 = _
    rw [quR3, if_neg (by decide)]; exact a9
  · show (xuR (xuI (xuI (xuI A 41 2 (nI 0)) 41 3 (nI 0)) 0 13 (nI 0)) 148 3 (yc (1 - b) 0)).2.2 0 3 = _
    rw [quR3, if_neg (by decide), b1]; exact a10
  · exact quR_e
  · rw [s_dn_c (Or.inl rfl)]
    show (cEnd A (1 - b)).1 36 j = _
    rw [w1 _ _ (by omega) (by omega) (by omega)]; exact a2 j (by omega)
  · show (cEnd A (1 - b)).1 (36 + 113 * 0 + c) j = _
    rw [w1 _ _ (by omega) (by omega) (by omega)]
    have dd := d2 c j hc hc2
    have hyd : yd 0 c = 36 + 113 * 0 + c := rfl
    rw [hyd] at dd
    rcases (by omega : c = 1 ∨ c = 2 ∨ c = 3 ∨ c = 4) with rfl | rfl | rfl | rfl
    · show A.1 37 j = nI (if j < 8 then Y' 6 j else 0)
      rw [a3 j]
      by_cases hj : j < 8
      · rw [if_pos hj, if_pos hj]; exact m3 6 j (by decide)
      · rw [if_neg hj, if_neg hj, eZ 37 j (by decide) (by decide)]
        have dd' : S.1 37 j = nI (D 1 j) := dd
        rw [dd', hZ.1 j (by omega)]
    · show A.1 38 j = nI (if j < 48 then Y' 7 j else 0)
      rw [a4 j]
      by_cases hj : j < 48
      · rw [if_pos hj, if_pos hj]; exact m3 7 j (by decide)
      · rw [if_neg hj, if_neg hj, eZ 38 j (by decide) (by decide)]
        have dd' : S.1 38 j = nI (D 2 j) := dd
        rw [dd', hZ.2.1 j (by omega)]
    · rw [s_dn_c (Or.inr (Or.inl rfl))]
      show A.1 39 j = nI 0
      rw [a5 j]
      by_cases hj : j < 6
      · rw [if_pos hj]
      · rw [if_neg hj, eZ 39 j (by decide) (by decide)]
        have dd' : S.1 39 j = nI (D 3 j) := dd
        rw [dd', hZ.2.2.1 j (by omega)]
    · show A.1 40 j = nI (if j < 6 then Y' 8 j else 0)
      rw [a6 j]
      by_cases hj : j < 6
      · rw [if_pos hj, if_pos hj]; exact m3 8 j (by decide)
      · rw [if_neg hj, if_neg hj, eZ 40 j (by decide) (by decide)]
        have dd' : S.1 40 j = nI (D 4 j) := dd
        rw [dd', hZ.2.2.2 j (by omega)]
  · rw [s_dn_c (Or.inl rfl)]
    show (cEnd A (1 - b)).1 36 4 = _
    rw [w1 _ _ (by omega) (by omega) (by omega)]; exact a2 4 (by omega)
  · show (cEnd A (1 - b)).1 43 k = nI (D 6 k)
    rw [e _ _ (by omega) (by omega) (by omega) (by omega)]; exact (d3 rfl).2 k
  · exact ⟨hI.1.2.2.2.1, hI.1.2.2.2.2.1, hI.1.2.2.2.2.2.2.1, hI.1.2.2.2.2.2.2.2.2.2.2.2.2.1, hI.1.2.2.2.2.2.2.2.2.2.2.2.2.2, hI.1.2.2.2.2.2.2.2.2.2.2.2.1⟩
  · rw [g6]
    unfold cEnd
    rw [quI_k (by omega), quI_k (by omega)]
    show (xuI (xuI (xuI A 41 2 (nI 0)) 41 3 (nI 0)) 0 13 (nI 0)).1 41 2 = _
    rw [quI_k (by omega), quI_k (by omega), quI_e]
  · rw [g6]
    unfold cEnd
    rw [quI_k (by omega), quI_k (by omega)]
    show (xuI (xuI (xuI A 41 2 (nI 0)) 41 3 (nI 0)) 0 13 (nI 0)).1 41 3 = _
    rw [quI_k (by omega), quI_e]
  · rw [g2]
    unfold cEnd
    rw [quI_k (by omega), quI_k (by omega)]
    show (xuI (xuI (xuI A 41 2 (nI 0)) 41 3 (nI 0)) 0 13 (nI 0)).1 0 13 = _
    rw [quI_e]
  · unfold cEnd
    rw [quI_k (by omega), quI_e]
  · unfold cEnd
    rw [quI_e]
  · have := h9a c j hc hc2 hj
    rw [e _ _ (by unfold yd; omega) (by unfold yd; omega) (by unfold yd; omega) (by unfold yd; omega)]
    exact this
  · rw [e _ _ (by omega) (by omega) (by omega) (by omega)]; exact h9b c j hc hc2 hj
  · have := es i c j hi hc2
    rw [sv_c] at this
    rw [this]; exact h9c i hi c j hc hc2 hj
  · rw [e _ _ (by omega) (by omega) (by omega) (by omega)]; exact h9d c j hc hc2
  · obtain ⟨u, u', a1, a2, a3, a4⟩ := h9f w hw
    exact ⟨u, u', a1, a2, by rw [e _ _ (by unfold sh; omega) (by unfold sh; omega) (by unfold sh; omega) (by unfold sh; omega)]; exact a3, by rw [e _ _ (by unfold sh; omega) (by unfold sh; omega) (by unfold sh; omega) (by unfold sh; omega)]; exact a4⟩
theorem gI_Y (hI : gI Y mc wc D P G) (hJ : yJa Y' cc mc' wc') : gI Y' mc' wc' (s_dn Y' D) P (s_gY G) := by
  obtain ⟨i1, i2, i3, i4, i5, i6, ⟨q1, q2, q3, q4, q5, q6, q7, q8, q9, q10⟩, i8⟩ := hI
  obtain ⟨j1, j2, j3⟩ := hJ
  have gg : ∀ c j, ¬ (c = 1 ∧ (j = 2 ∨ j = 4 ∨ j = 5 ∨ j = 6)) → s_gY G c j = G c j := fun c j hc => by unfold s_gY; rw [dU_at, if_neg (by omega), dU_at, if_neg (by omega), dU_at, if_neg (by omega), dU_at, if_neg (by omega)]
  have g2 : s_gY G 1 2 = 0 := by unfold s_gY; rw [dU_j (by decide), dU_j (by decide), dU_j (by decide), dU_s]
  have g4 : s_gY G 1 4 = 0 := by unfold s_gY; rw [dU_j (by decide), dU_j (by decide), dU_s]
  have g5 : s_gY G 1 5 = 0 := by unfold s_gY; rw [dU_j (by decide), dU_s]
  have g6 : s_gY G 1 6 = 0 := by unfold s_gY; rw [dU_s]
  have z : ∀ c j, c = 0 ∨ c = 3 ∨ c = 5 → s_dn Y' D c j = 0 := fun c j hc => s_dn_c hc
  refine ⟨j1, j3.2.2.2.2.2, ?_, fun j => z 5 j (by omega), fun i hi => by rw [g6] at hi; omega, fun i hi => by rw [g6] at hi; omega, ⟨by rw [g6]; decide, by rw [gg _ _ (by omega)]; exact q2, fun i => by rw [gg _ _ (by omega)]; exact q3 i, by rw [gg _ _ (by omega)]; exact q4, by rw [g2]; decide, by rw [gg _ _ (by omega)]; exact q6, fun i => by rw [gg _ _ (by omega)]; exact q7 i, fun i => by rw [gg _ _ (by omega)]; exact q8 i, by rw [g4]; decide, by rw [g5]; decide⟩, fun s i hs hi => (j2.2.2 s i hs hi).1⟩
  have hB := j1.2.2.2.2.2.2.2.2.2.2.2.1
  have hDB := i3.2.2.2.2.2.2.2.2.2.1
  refine ⟨by rw [z 0 0 (by omega)]; decide, by rw [z 0 1 (by omega)]; decide, by rw [z 0 2 (by omega)]; exact Nat.two_pow_pos _, by rw [z 0 3 (by omega)]; exact Nat.two_pow_pos _, fun t => ?_, fun i => ?_, fun j hj => by rw [z 3 j (by omega)]; exact Nat.zero_le _, fun j => ?_, by rw [z 0 4 (by omega)]; exact Nat.zero_le _, fun c j => ?_, by rw [z 5 0 (by omega)]; exact Nat.two_pow_pos _, by rw [z 5 1 (by omega)]; exact Nat.two_pow_pos _, by rw [z 5 3 (by omega)]; exact Nat.zero_le _, by rw [z 5 2 (by omega)]; exact Nat.zero_le _, fun t ht => ?_, fun i hi => ?_, fun j hj => z 3 j (by omega), fun j hj => ?_⟩
  · show (if t < 8 then Y' 6 t else 0) ≤ 100
    have := j1.2.2.2.2.2.2.2.2.2.2.2.2.1 t
    split <;> omega
  · show (if i < 48 then Y' 7 i else 0) ≤ 9
    have := j1.2.2.2.1 i
    split <;> omega
  · show (if j < 6 then Y' 8 j else 0) ≤ 999
    have := j1.2.2.2.2.1 j
    split <;> omega
  · unfold s_dn
    have h1 := hB 6 j
    have h2 := hB 7 j
    have h3 := hB 8 j
    have h4 := hDB 6 j
    repeat' split
    all_goals omega
  · show (if t < 8 then Y' 6 t else 0) = 0
    rw [if_neg (by omega)]
  · show (if i < 48 then Y' 7 i else 0) = 0
    rw [if_neg (by omega)]
  · show (if j < 6 then Y' 8 j else 0) = 0
    rw [if_neg (by omega)]
end Q9zm

