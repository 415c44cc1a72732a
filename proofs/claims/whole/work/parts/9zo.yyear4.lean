/-! ===== year: the reference begins it ===== -/
section Q9zo
variable {S Z V W : xSt} {n L e m o b d t k a s w lo hi j r kd pl c : Nat} {f : Nat → Nat} {cc mc wc mc' wc' : List (Nat × Nat)} {Y Y' D : Nat → Nat → Nat} {P : Nat → Nat → Nat → Nat} {G : Nat → Nat → Nat}
theorem m_begin (hn : 2000 ≤ n) (hb : b < 2) (h13 : S.1 0 13 = nI b) : ∃ Z, fX12_begin n 0 S = some Z ∧ (∀ k j, ¬ (k = 0 ∧ (j = 65 ∨ j = 83)) → ¬ (34 ≤ k ∧ k ≤ 42) → Z.1 k j = S.1 k j) ∧ Z.2 = S.2 ∧ Z.1 0 65 = nI 0 ∧ Z.1 0 83 = nI 0 ∧ (Z.1 34 0 = nI 0 ∧ Z.1 35 0 = nI 0 ∧ Z.1 37 0 = nI 0 ∧ Z.1 38 0 = nI 0 ∧ Z.1 42 0 = nI 0) ∧ (∀ j, j < 8 → Z.1 36 j = S.1 7 (8 * b + j)) ∧ (∀ j, j < 48 → Z.1 39 j = S.1 9 (48 * b + j)) ∧ (∀ j, j < 6 → Z.1 40 j = nI 0 ∧ Z.1 41 j = S.1 11 (6 * b + j)) := by
  obtain ⟨A, a1, a2, a3, a4⟩ := m_bg1 (n := n) hb 8 0 n (xuI (xuI (xuI (xuI S 34 0 (nI 0)) 35 0 (nI 0)) 37 0 (nI 0)) 38 0 (nI 0)) (by decide) (by omega) (by rw [quI_k (by omega), quI_k (by omega), quI_k (by omega), quI_k (by omega)]; exact h13)
  have a0 : ∀ k j, k ≠ 34 → k ≠ 35 → k ≠ 37 → k ≠ 38 → k ≠ 36 → A.1 k j = S.1 k j := fun k j g1 g2 g3 g4 g5 => by rw [a2 k j g5, quI_k (by omega), quI_k (by omega), quI_k (by omega), quI_k (by omega)]
  obtain ⟨B, b1, b2, b3, b4⟩ := m_bg2 (n := n) hb 48 0 n A (by decide) (by omega) (by rw [a0 _ _ (by decide) (by decide) (by decide) (by decide) (by decide)]; exact h13)
  have b0 : ∀ k j, k ≠ 34 → k ≠ 35 → k ≠ 37 → k ≠ 38 → k ≠ 36 → k ≠ 39 → B.1 k j = S.1 k j := fun k j g1 g2 g3 g4 g5 g6 => by rw [b2 k j g6, a0 k j g1 g2 g3 g4 g5]
  obtain ⟨C, c1, c2, c3, c4, c5⟩ := m_bg3 (n := n) hb 6 0 n B (by decide) (by omega) (by rw [b0 _ _ (by decide) (by decide) (by decide) (by decide) (by decide) (by decide)]; exact h13)
  have q : ∀ k j, k ≠ 0 → k ≠ 42 → (xuI (xuI (xuI C 42 0 (nI 0)) 0 65 (nI 0)) 0 83 (nI 0)).1 k j = C.1 k j := fun k j g1 g2 => by rw [quI_k (by omega), quI_k (by omega), quI_k (by omega)]
  refine ⟨xuI (xuI (xuI C 42 0 (nI 0)) 0 65 (nI 0)) 0 83 (nI 0), ?_, fun k j g1 g2 => ?_, ?_, ?_, quI_e, ⟨?_, ?_, ?_, ?_, ?_⟩, fun j hj => ?_, fun j hj => ?_, fun j hj => ⟨?_, ?_⟩⟩
  · simp (disch := (first | assumption | omega | exact hB _ _ | exact hYB _ _ | (simp only [yc, yd, sh, sv, ne_eq]; omega) | (simp (disch := omega) only [↓nm_1, ↓nm_2, nI_add, pk_mul, pk_sub, Nat.add_sub_cancel, qm1_add, qm2_add, nI_clamp, ni_0, ni_1, a1, b1, c1]; refine qin_nI ?_ ?_ <;> first | omega | exact hB _ _ | exact hYB _ _) | (refine qin_nI ?_ ?_ <;> omega) | fail)) only [↓km0_gd, ↓km0_gI, ↓km0_gM, ↓km0_pI, ↓km0_pM, ↓km0_pZ, ↓km0_gL, ↓km0_pL, ↓km0_gF54, ↓km0_gF55, ↓km0_gF57, ↓km0_gF58, ↓km0_gF62, ↓km34_al, ↓km34_as, ↓km34_ln, ↓km35_al, ↓km35_as, ↓km35_ln, ↓km37_al, ↓km37_as, ↓km37_ln, ↓km38_al, ↓km38_as, ↓km38_ln, ↓km42_al, ↓km42_as, ↓km42_ln, ↓qb_so, ↓nm_1, ↓nm_2, ↓reduceIte, if_true, if_false, not_true_eq_false, not_false_eq_true, and_true, true_and, and_false, false_and, or_true, true_or, or_false, false_or, eq_self, ne_eq, quI_s, quI_n, quI2, quL1, quL2, quL3, quR1, quR2, quR3, nI_add, pk_mul, pk_sub, Nat.add_sub_cancel, qm1_add, qm2_add, nI_leI, nI_ltI, nI_eq, nI_m1, nI_m1', nI_clamp, nI_bit, nI_one_shl, nI_m1l, nI_m1lt, nI_m1lt', nI_m1le', oI_some, oI_none, ni_0, ni_1, fX12_begin, qle_t, qle_f, qlt_t, qlt_f, qeq_t, qeq_f, a1, b1, c1]
  · rw [quI_k (by omega), quI_k (by omega), quI_k (by omega), c2 _ _ (by omega) (by omega), b0 _ _ (by omega) (by omega) (by omega) (by omega) (by omega) (by omega)]
  · show C.2 = S.2
    rw [c3, b3, a3]
    rfl
  · rw [quI_k (by omega), quI_e]
  · rw [q _ _ (by decide) (by decide), c2 _ _ (by decide) (by decide), b2 _ _ (by decide), a2 _ _ (by decide), quI_k (by omega), quI_k (by omega), quI_k (by omega), quI_e]
  · rw [q _ _ (by decide) (by decide), c2 _ _ (by decide) (by decide), b2 _ _ (by decide), a2 _ _ (by decide), quI_k (by omega), quI_k (by omega), quI_e]
  · rw [q _ _ (by decide) (by decide), c2 _ _ (by decide) (by decide), b2 _ _ (by decide), a2 _ _ (by decide), quI_k (by omega), quI_e]
  · rw [q _ _ (by decide) (by decide), c2 _ _ (by decide) (by decide), b2 _ _ (by decide), a2 _ _ (by decide), quI_e]
  · rw [quI_k (by omega), quI_k (by omega), quI_e]
  · rw [q _ _ (by decide) (by decide), c2 _ _ (by decide) (by decide), b2 _ _ (by decide), a4, if_pos (by omega), quI_k (by omega), quI_k (by omega), quI_k (by omega), quI_k (by omega)]
  · rw [q _ _ (by decide) (by decide), c2 _ _ (by decide) (by decide), b4, if_pos (by omega), a0 _ _ (by decide) (by decide) (by decide) (by decide) (by decide)]
  · rw [q _ _ (by decide) (by decide), c4, if_pos (by omega)]
  · rw [q _ _ (by decide) (by decide), c5, if_pos (by omega), b0 _ _ (by decide) (by decide) (by decide) (by decide) (by decide) (by decide)]
/-- from the year in the making to the year -/
theorem mY_of (hb : b < 2) (hm : mkM Z b f L e Y cc) (hL : L ≤ 1600) (hJ : yJa Y cc mc wc) (h13 : W.1 0 13 = nI b) (hk : ∀ k j, 2 ≤ k → k ≤ 22 → W.1 k j = Z.1 k j) (hl : W.2.1 = Z.2.1) : mY W b Y mc wc ∧ mN W b Y := by
  obtain ⟨i0, i1, i2, i3, i4, i5, i6, i7, i10⟩ := hm.2.2.2.2.2.2.2.1
  obtain ⟨r1, r2, r3, r4⟩ := hm.2.2.2.2.2.2.2.2
  have mcc := hm.2.2.2.2.2.1
  have hle := hm.2.2.2.2.2.2.1
  have heL := hm.2.1
  obtain ⟨j1, j2, j3, j4, j5, j6, j7, j8⟩ := hJ
  have s1 := sbl_len j6
  have s2 := sbl_len j7
  refine ⟨⟨h13, ?_, fun k hk' => ?_, fun t ht => ?_, fun g t hg ht => ?_, fun j hj => ?_, fun a c ha hc => ?_, ?_, ?_, ?_, ?_⟩, fun s i hs hi => by rw [hl]; exact i10 s i hs hi⟩
  · rw [hk _ _ (by decide) (by decide), hk _ _ (by decide) (by decide), hk _ _ (by decide) (by decide), hk _ _ (by decide) (by decide)]; exact i0
  · rw [hk _ _ (by decide) (by decide), hk _ _ (by decide) (by decide)]; exact i1 k hk'
  · rw [hk _ _ (by decide) (by decide), hk _ _ (by decide) (by decide)]; exact i2 t ht
  · rw [hk _ _ (by decide) (by decide)]; exact i3 g t hg ht
  · rw [hk _ _ (by decide) (by decide), hk _ _ (by decide) (by decide)]
    refine ⟨(i4 j hj).1, (i4 j hj).2.1, fun s hs => ?_⟩
    rw [hk _ _ (by decide) (by decide), hk _ _ (by decide) (by decide)]
    exact (i4 j hj).2.2 s hs
  · rw [hk _ _ (by decide) (by decide)]; exact i5 a c ha hc
  · rw [hk _ _ (by decide) (by decide), hk _ _ (by decide) (by decide)]; exact i6
  · rw [hk _ _ (by decide) (by decide), hk _ _ (by decide) (by decide), hk _ _ (by decide) (by decide)]; exact i7
  · refine ⟨fun hc => ?_, fun hc => ⟨Y 14 3, ?_, ?_, by omega, ?_⟩⟩
    · rw [hk _ _ (by decide) (by decide)]
      refine r2 (by rw [j4, hc]; simp)
    · rw [hk _ _ (by decide) (by decide)]
      exact (r1 (by rw [j4]; have : 0 < mc.length := (by cases mc with | nil => exact absurd rfl hc | cons x y => exact Nat.succ_pos _); omega)).1
    · rw [hk _ _ (by decide) (by decide), ← j4]
      exact (r1 (by rw [j4]; have : 0 < mc.length := (by cases mc with | nil => exact absurd rfl hc | cons x y => exact Nat.succ_pos _); omega)).2
    · obtain ⟨u, v, hu, hp⟩ := j6
      rw [hu] at mcc
      have := mCode_sub mcc
      rw [hp] at this
      exact mCode_eq this (fun j _ _ => ⟨hk _ _ (by decide) (by decide), hk _ _ (by decide) (by decide)⟩)
  · refine ⟨fun hc => ?_, fun hc => ⟨Y 14 5, ?_, ?_, by omega, ?_⟩⟩
    · rw [hk _ _ (by decide) (by decide)]
      refine r4 (by rw [j5, hc]; simp)
    · rw [hk _ _ (by decide) (by decide)]
      exact (r3 (by rw [j5]; have : 0 < wc.length := (by cases wc with | nil => exact absurd rfl hc | cons x y => exact Nat.succ_pos _); omega)).1
    · rw [hk _ _ (by decide) (by decide), ← j5]
      exact (r3 (by rw [j5]; have : 0 < wc.length := (by cases wc with | nil => exact absurd rfl hc | cons x y => exact Nat.succ_pos _); omega)).2
    · obtain ⟨u, v, hu, hp⟩ := j7
      rw [hu] at mcc
      have := mCode_sub mcc
      rw [hp] at this
      exact mCode_eq this (fun j _ _ => ⟨hk _ _ (by decide) (by decide), hk _ _ (by decide) (by decide)⟩)
theorem gM_Y (hn : 2000 ≤ n) (hb : b < 2) (hf : frG (1 - b) S Z) (hm : mkM Z (1 - b) f L e Y' cc) (hL : L ≤ 1600) (hJ : yJa Y' cc mc' wc') (h : gM S b Y mc wc D P G) :
    ∃ W, fX12_begin n 0 (xuI (xuI (xuI Z 0 10 (nI 0)) 0 11 qm1) 0 13 (nI (1 - b))) = some W ∧ gM W (1 - b) Y' mc' wc' (s_dn Y' D) P (s_gY G) := by
  obtain ⟨W, w1, w2, w3, w65, w83, ⟨w34, w35, w37, w38, w42⟩, w36, w39, w40⟩ := m_begin (n := n) (b := 1 - b) (S := xuI (xuI (xuI Z 0 10 (nI 0)) 0 11 qm1) 0 13 (nI (1 - b))) hn (by omega) quI_e
  refine ⟨W, w1, ?_⟩
  obtain ⟨_, _, _, ⟨f0, h4a, h4b, h4c, h4d⟩, ⟨h5a, h5b, h5c, h5d, h5e, h5f, h5g⟩, ⟨h6a, h6b, h6c⟩, h7a, h7b, u, u', fr, hu, hu', h73, h74, h75⟩ := h
  have zk : ∀ k j, ¬ (k = 0 ∧ (j = 10 ∨ j = 11 ∨ j = 13 ∨ j = 65 ∨ j = 83)) → ¬ (34 ≤ k ∧ k ≤ 42) → W.1 k j = Z.1 k j := fun k j g1 g2 => by rw [w2 k j (by omega) g2, quI_k (by omega), quI_k (by omega), quI_k (by omega)]
  have e : ∀ k j, (k = 0 ∧ (j = 1 ∨ (53 ≤ j ∧ j ≠ 65 ∧ j ≠ 83))) ∨ k = 1 ∨ k = 33 ∨ 43 ≤ k → W.1 k j = S.1 k j := fun k j g => by rw [zk k j (by omega) (by omega), hf.1 k j (by omega) (by omega) (by omega)]
  have wl : W.2.1 = Z.2.1 := by rw [w3]; rfl
  have W13 : W.1 0 13 = nI (1 - b) := by rw [w2 _ _ (by omega) (by omega), quI_e]
  obtain ⟨y1, y2⟩ := mY_of (W := W) (by omega) hm hL hJ W13 (fun k j g1 g2 => zk k j (by omega) (by omega)) wl
  obtain ⟨j1, j2, j3⟩ := hJ
  obtain ⟨c0, c1, c2, c3⟩ := j1.1
  obtain ⟨i0, i1, i2, i3, i4, i5, i6, i7, i10⟩ := hm.2.2.2.2.2.2.2.1
  have gg : ∀ c j, ¬ (c = 1 ∧ (j = 2 ∨ j = 4 ∨ j = 5 ∨ j = 6)) → s_gY G c j = G c j := fun c j hc => by unfold s_gY; rw [dU_at, if_neg (by omega), dU_at, if_neg (by omega), dU_at, if_neg (by omega), dU_at, if_neg (by omega)]
  have g2 : s_gY G 1 2 = 0 := by unfold s_gY; rw [dU_j (by decide), dU_j (by decide), dU_j (by decide), dU_s]
  have g4 : s_gY G 1 4 = 0 := by unfold s_gY; rw [dU_j (by decide), dU_j (by decide), dU_s]
  have g5 : s_gY G 1 5 = 0 := by unfold s_gY; rw [dU_j (by decide), dU_s]
  have g6 : s_gY G 1 6 = 0 := by unfold s_gY; rw [dU_s]
  have sk : ∀ k j, 1 ≤ k → k ≤ 22 → (xuI (xuI (xuI Z 0 10 (nI 0)) 0 11 qm1) 0 13 (nI (1 - b))).1 k j = Z.1 k j := fun k j g1 g2 => by rw [quI_k (by omega), quI_k (by omega), quI_k (by omega)]
  refine ⟨y1, y2, ⟨⟨?_, ?_, ?_, ?_, ?_⟩, fun t ht => ?_, fun g t hg ht => ?_, fun j hj => ?_, fun j hj => ?_, fun k hk => ?_⟩, ⟨f0, h4a, by rw [e _ _ (by omega)]; exact h4b, by rw [w65, g6], fun i hi => by rw [g6] at hi; omega⟩, ⟨fun i hi => by rw [e _ _ (by omega), gg _ _ (by omega)]; exact h5a i hi, by rw [e _ _ (by omega), gg _ _ (by omega)]; exact h5b, by rw [wl, hf.2.1 _ _ (by omega) (by omega), gg _ _ (by omega)]; exact h5c, by rw [w83, g2], by rw [e _ _ (by omega), gg _ _ (by omega)]; exact h5e, ?_, ?_⟩, ⟨fun i hi => by rw [e _ _ (by omega), gg _ _ (by omega)]; exact h6a i hi, fun i hi => by rw [g2] at hi; omega, fun i hi => by rw [gg _ _ (by omega)] at hi; rw [e _ _ (by omega), gg _ _ (by omega)]; exact h6c i hi⟩, by rw [e _ _ (by omega)]; exact h7a, by rw [e _ _ (by omega)]; exact h7b, u, u', fr, hu, hu', by rw [e _ _ (by omega)]; exact h73, by rw [e _ _ (by omega)]; exact h74, by rw [e _ _ (by omega)]; exact h75⟩
  · rw [s_dn_c (Or.inl rfl)]; exact w34
  · rw [s_dn_c (Or.inl rfl)]; exact w35
  · rw [s_dn_c (Or.inl rfl)]; exact w37
  · rw [s_dn_c (Or.inl rfl)]; exact w38
  · rw [s_dn_c (Or.inl rfl)]; exact w42
  · show W.1 36 (8 * 0 + t) = nI (if t < 8 then Y' 6 t else 0)
    rw [show 8 * 0 + t = t by omega, w36 t (by omega), if_pos (by omega), sk _ _ (by decide) (by decide)]
    exact (i2 t ht).2
  · show W.1 39 (48 * 0 + 8 * g + t) = nI (if 8 * g + t < 48 then Y' 7 (8 * g + t) else 0)
    rw [show 48 * 0 + 8 * g + t = 8 * g + t by omega, w39 _ (by omega), if_pos (by omega), sk _ _ (by decide) (by decide), show 48 * (1 - b) + (8 * g + t) = 8 * (6 * (1 - b) + g) + t by omega]
    exact i3 g t hg ht
  · rw [s_dn_c (Or.inr (Or.inl rfl)), show 6 * 0 + j = j by omega]
    exact (w40 j (by omega)).1
  · show W.1 41 (6 * 0 + j) = nI (if j < 6 then Y' 8 j else 0)
    rw [show 6 * 0 + j = j by omega, (w40 j (by omega)).2, if_pos (by omega), sk _ _ (by decide) (by decide)]
    exact (i4 j hj).1
  · rw [s_dn_c (Or.inl rfl)] at hk
    omega
  · rw [w2 _ _ (by omega) (by omega), quI_k (by omega), quI_k (by omega), quI_e, g4]
  · rw [w2 _ _ (by omega) (by omega), quI_k (by omega), quI_e, g5]; rfl
end Q9zo

