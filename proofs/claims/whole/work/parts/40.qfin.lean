/-! ===== all are finished: nothing changes any more ===== -/
section Q40
variable {S Z V : xSt} {b n : Nat} {Y D : Nat → Nat → Nat} {mc wc : List (Nat × Nat)} {R row : Nat → Nat} {P : Nat → Nat → Nat → Nat} {G : Nat → Nat → Nat}
theorem s_allL_iff : ∀ k j, s_allL Y D k j = true ↔ ∀ i, j ≤ i → i < j + k → ¬ D 3 i < Y 9 i
  | 0, j => by unfold s_allL; simp; intro i h1 h2; omega
  | k + 1, j => by
    unfold s_allL
    by_cases h : D 3 j < Y 9 j
    · rw [if_pos h]
      constructor
      · intro hh; cases hh
      · intro hh; exact absurd h (hh j (Nat.le_refl _) (by omega))
    · rw [if_neg h, s_allL_iff k (j + 1)]
      constructor
      · intro hh i h1 h2
        by_cases hi : i = j
        · subst hi; exact h
        · exact hh i (by omega) (by omega)
      · intro hh i h1 h2; exact hh i (by omega) (by omega)
theorem s_all_iff : s_all Y D = true ↔ ∀ i, i < Y 2 3 → ¬ D 3 i < Y 9 i := by
  unfold s_all
  rw [s_allL_iff]
  constructor
  · intro h i hi; exact h i (Nat.zero_le _) (by omega)
  · intro h i _ hi; exact h i (by omega)
theorem s_jobsL_fin {fr : Nat} (hrow : ∀ i, i < Y 2 3 → row i < Y 2 3) (h : ∀ i, i < Y 2 3 → ¬ D 3 i < Y 9 i) : ∀ k i, i + k = Y 2 3 → s_jobsL Y mc wc R row fr k i D = D
  | 0, i, _ => rfl
  | k + 1, i, hk => by
    unfold s_jobsL
    have e : s_step Y mc wc R fr D (row i) = D := by unfold s_step; rw [if_neg (h _ (hrow i (by omega)))]
    rw [e]
    exact s_jobsL_fin hrow h k (i + 1) (by omega)
theorem s_paysL_fin (h : ∀ i, i < Y 2 3 → ¬ D 3 i < Y 9 i) : ∀ k i, i + k = Y 2 3 → s_paysL Y k i D = D
  | 0, i, _ => rfl
  | k + 1, i, hk => by
    unfold s_paysL
    have e0 : s_late Y D i = 0 := by unfold s_late; rw [if_neg (h i (by omega))]
    have e : s_pays Y D i = D := by
      unfold s_pays
      rw [e0, if_pos (Nat.le_refl _), Nat.add_zero]
      exact dU_id
    rw [e]
    exact s_paysL_fin h k (i + 1) (by omega)
theorem s_mend_c {c i : Nat} (hc : c ≠ 1) (hc0 : ¬ (c = 0 ∧ i = 2)) : s_mend Y D c i = D c i := by
  unfold s_mend
  split
  · by_cases h0 : c = 0
    · subst h0; rw [dU_j (by omega)]; rfl
    · rw [dU_c h0]; simp only [if_neg hc]
  · rfl
/-- a day on which all are finished -/
theorem s_day_fin {fr : Nat} (hrow : ∀ i, i < Y 2 3 → row i < Y 2 3) (h : s_all Y D = true) : (∀ j, s_day Y mc wc R row fr D 3 j = D 3 j) ∧ s_day Y mc wc R row fr D 0 1 = D 0 1 ∧ s_day Y mc wc R row fr D 5 2 = D 5 2 ∧ s_all Y (s_day Y mc wc R row fr D) = true := by
  rw [s_all_iff] at h
  have e3 : ∀ j, s_fresh (s_mend Y D) 3 j = D 3 j := fun j => by
    unfold s_fresh; rw [dU_c (by decide), dU_c (by decide), s_mend_c (by decide) (by omega)]
  have h' : ∀ i, i < Y 2 3 → ¬ s_fresh (s_mend Y D) 3 i < Y 9 i := fun i hi => by rw [e3]; exact h i hi
  have e : s_day Y mc wc R row fr D = dU (s_fresh (s_mend Y D)) 0 0 (s_fresh (s_mend Y D) 0 0 + 1) := by
    unfold s_day
    simp only
    rw [s_jobsL_fin hrow h' _ _ (by omega), s_paysL_fin h' _ _ (by omega)]
  rw [e]
  refine ⟨fun j => by rw [dU_c (by decide)]; exact e3 j, ?_, ?_, ?_⟩
  · rw [dU_j (by decide)]; unfold s_fresh; rw [dU_c (by decide), dU_c (by decide), s_mend_c (by decide) (by omega)]
  · rw [dU_c (by decide)]; unfold s_fresh; rw [dU_j (by decide), dU_j (by decide), s_mend_c (by decide) (by omega)]
  · rw [s_all_iff]
    intro i hi
    rw [dU_c (by decide), e3]
    exact h i hi
theorem s_run_fin (hrow : ∀ i, i < Y 2 3 → row i < Y 2 3) : ∀ (k : Nat) (D : Nat → Nat → Nat), s_all Y D = true → (∀ j, s_run Y mc wc R row k D 3 j = D 3 j) ∧ s_run Y mc wc R row k D 0 1 = D 0 1 ∧ s_run Y mc wc R row k D 5 2 = D 5 2
  | 0, D, _ => ⟨fun _ => rfl, rfl, rfl⟩
  | k + 1, D, h => by
    obtain ⟨a1, a2, a3, a4⟩ := s_day_fin (mc := mc) (wc := wc) (R := R) (fr := 0) hrow h
    obtain ⟨b1, b2, b3⟩ := s_run_fin hrow k _ a4
    exact ⟨fun j => (b1 j).trans (a1 j), b2.trans a2, b3.trans a3⟩
theorem s_run_add : ∀ (k m : Nat) (D : Nat → Nat → Nat), s_run Y mc wc R row (k + m) D = s_run Y mc wc R row m (s_run Y mc wc R row k D)
  | 0, m, D => by rw [Nat.zero_add]; rfl
  | k + 1, m, D => by rw [Nat.add_right_comm, s_run_succ, s_run_succ]; exact s_run_add k m _
/-- what the class's pass leaves is as if all days had passed, as far as it is asked -/
theorem s_pass_eq (hrow : ∀ i, i < Y 2 3 → row i < Y 2 3) {m k : Nat} (hk : k ≤ m) (h : k = m ∨ s_all Y (s_run Y mc wc R row k D) = true) : (∀ j, s_run Y mc wc R row m D 3 j = s_run Y mc wc R row k D 3 j) ∧ s_run Y mc wc R row m D 0 1 = s_run Y mc wc R row k D 0 1 ∧ s_run Y mc wc R row m D 5 2 = s_run Y mc wc R row k D 5 2 := by
  rcases h with rfl | h
  · exact ⟨fun _ => rfl, rfl, rfl⟩
  · obtain ⟨x, rfl⟩ : ∃ x, m = k + x := ⟨m - k, by omega⟩
    have := s_run_fin (mc := mc) (wc := wc) (R := R) hrow x _ h
    rw [s_run_add]
    exact this
/-- a day keeps the bounds -/
theorem s_next (hY : yrOk Y) (hI : rI Y D) (hrow : ∀ i, i < Y 2 3 → row i < Y 2 3) {fr : Nat} (h999 : D 0 0 < 999) : rI Y (s_day Y mc wc R row fr D) ∧ s_day Y mc wc R row fr D 0 0 = D 0 0 + 1 ∧ dOk Y (s_day Y mc wc R row fr D) := by
  have h6 : Y 2 3 ≤ 6 := hY.1.2.2.2
  have d2 : dOk Y (s_fresh (s_mend Y D)) := by rw [show s_fresh (s_mend Y D) = s_mend Y (s_fresh D) from s_mend_fr]; exact s_mend_ok hY hI.1
  have d3 := s_jobsL_ok (mc := mc) (wc := wc) (R := R) (fr := fr) hY hrow (Y 2 3) 0 (s_fresh (s_mend Y D)) (by omega) d2
  obtain ⟨q0, q52⟩ := s_jobsL_00 (Y := Y) (mc := mc) (wc := wc) (R := R) (row := row) (fr := fr) (Y 2 3) 0 (s_fresh (s_mend Y D))
  have q0' : s_jobsL Y mc wc R row fr (Y 2 3) 0 (s_fresh (s_mend Y D)) 0 0 = D 0 0 := q0.trans (s_mend_0 (by decide))
  have q52' : s_jobsL Y mc wc R row fr (Y 2 3) 0 (s_fresh (s_mend Y D)) 5 2 = D 5 2 := q52.trans s_mend_5
  have hl := hI.2.2
  obtain ⟨d4, l4, z4⟩ := s_paysL_ok hY (Y 2 3) 0 _ (by omega) d3 (by rw [q0', q52']; omega)
  rw [q0'] at l4 z4
  have es : s_day Y mc wc R row fr D = dU (s_paysL Y (Y 2 3) 0 (s_jobsL Y mc wc R row fr (Y 2 3) 0 (s_fresh (s_mend Y D)))) 0 0 (D 0 0 + 1) := by
    unfold s_day
    simp only
    rw [z4]
  have ok : dOk Y (s_day Y mc wc R row fr D) := by rw [es]; exact dOk_u d4 (dV_00 (by omega) (by rw [z4]; omega))
  have e0 : s_day Y mc wc R row fr D 0 0 = D 0 0 + 1 := by rw [es, dU_s]
  refine ⟨⟨s_fresh_ok hY ok, dOk_B ok, ?_⟩, e0, ok⟩
  rw [e0, es, dU_c (by decide)]; omega
/-! the reference -/
theorem mY_q (hf : mFq (mQ 1) S Z) (h : mY S b Y mc wc) : mY Z b Y mc wc := mY_fr hf (fun k j h1 h2 => by unfold mQ; omega) (by unfold mQ; omega) h
theorem mD_q (hY : yrOk Y) {v : Nat} (hv : v ≠ 1) (hf : mFq (mQ 1) S Z) (h60 : D 0 4 ≤ 60) (h : mD S v Y D) : mD Z v Y D := mD_fr hY hf (fun k j h1 h2 h3 => by unfold mQ at h1 ⊢; omega) h60 h
theorem gM_scr (hf : mFq (mQ 1) S Z) (hI : gI Y mc wc D P G) (hu : ∃ u u' fr, u < 2 ^ 31 ∧ u' < 2 ^ 31 ∧ Z.1 0 73 = nI u ∧ Z.1 0 74 = nI u' ∧ Z.1 0 75 = nI fr) (h : gM S b Y mc wc D P G) : gM Z b Y mc wc D P G := by
  obtain ⟨h1, h2, h3, ⟨f0, h4a, h4b, h4c, h4d⟩, ⟨h5a, h5b, h5c, h5d, h5e, h5f, h5g⟩, ⟨h6a, h6b, h6c⟩, h7a, h7b, h7c⟩ := h
  have e : ∀ k j, ¬ mQ 1 k j → Z.1 k j = S.1 k j := hf.1
  have t0 := dOk_told hI.1 hI.2.2.1
  refine ⟨mY_q hf h1, fun s i hs hi => by rw [hf.2.1 _ (by omega)]; exact h2 s i hs hi, mD_q hI.1 (by decide) hf (by omega) h3, ⟨f0, h4a, by rw [e _ _ (by unfold mQ; omega)]; exact h4b, by rw [e _ _ (by unfold mQ; omega)]; exact h4c, fun i hi => ?_⟩, ⟨fun i hi => by rw [e _ _ (by unfold mQ; omega)]; exact h5a i hi, by rw [e _ _ (by unfold mQ; omega)]; exact h5b, by rw [hf.2.1 _ (by decide)]; exact h5c, by rw [e _ _ (by unfold mQ; omega)]; exact h5d, by rw [e _ _ (by unfold mQ; omega)]; exact h5e, by rw [e _ _ (by unfold mQ; omega)]; exact h5f, by rw [e _ _ (by unfold mQ; omega)]; exact h5g⟩, ⟨fun i hi => by rw [e _ _ (by unfold mQ; omega)]; exact h6a i hi, fun i hi => by rw [e _ _ (by unfold mQ; omega)]; exact h6b i hi, fun i hi => by rw [e _ _ (by unfold mQ; omega)]; exact h6c i hi⟩, by rw [e _ _ (by unfold mQ; omega)]; exact h7a, by rw [e _ _ (by unfold mQ; omega)]; exact h7b, hu⟩
  have t1 := dOk_told hI.1 (hI.2.2.2.2.1 i hi)
  exact mD_q hI.1 (by omega) hf (by omega) (h4d i hi)
theorem mR_0 (h : S.1 0 69 = qm1) : mR S Y (Y 3) := ⟨none, h, fun k hk => (by cases hk), fun k _ => ⟨fun hh => (by cases hh), fun _ => rfl⟩⟩
theorem mO_0 (h : S.1 0 71 = nI 0) : mO S Y (fun i => i) := Or.inl ⟨h, fun _ _ => rfl⟩
/-- a layer to be tried on -/
theorem m_try (hn : 2000 ≤ n) (h : gM S b Y mc wc D P G) (hI : gI Y mc wc D P G) : ∃ Z, fX12_copies n 0 (nI 1) (nI 0) S = some Z ∧ mV Z b 1 Y mc wc (Y 3) (fun i => i) (opn D) ∧ mFq (mQ 1) S Z := by
  have t0 := dOk_told hI.1 hI.2.2.1
  obtain ⟨Z, e, f, hd⟩ := m_copies (n := n) (to := 1) (fm := 0) hn (by decide) (by decide) (by decide) hI.1 (by omega) h.2.2.1
  have f' : mFq (mQ 1) S Z := mFq_mono f (fun k j hh => by unfold pQ at hh; unfold mQ; omega)
  obtain ⟨h69, h71, u, u', fr, hu, hu', h73, h74, h75⟩ := h.2.2.2.2.2.2
  have e0 : ∀ j, Z.1 0 j = S.1 0 j := fun j => f.1 _ _ (by unfold pQ; omega)
  refine ⟨Z, e, ⟨fr, u, u', hu, hu', mY_q f' h.1, hd, ⟨by rw [e0]; exact h73, by rw [e0]; exact h74, by rw [e0]; exact h75⟩, mR_0 (by rw [e0]; exact h69), mO_0 (by rw [e0]; exact h71)⟩, f'⟩
theorem gM_run (hf : mFq (mQ 1) S Z) (hI : gI Y mc wc D P G) {E : Nat → Nat → Nat} (hv : mV Z b 1 Y mc wc R row E) (h : gM S b Y mc wc D P G) : gM Z b Y mc wc D P G := by
  obtain ⟨fr, u, u', hu, hu', hw⟩ := hv
  exact gM_scr hf hI ⟨u, u', fr, hu, hu', hw.2.2.1.1, hw.2.2.1.2.1, hw.2.2.1.2.2⟩ h
theorem m_laterL (hb : b < 2) (hY : yrOk Y) (hK : kOk mc wc) (hR : ∀ k, R k < 2 ^ 31) (hn : 2000 ≤ n) (hrow : ∀ i, i < Y 2 3 → row i < Y 2 3) {N : Nat} (hN : N ≤ 100) (a2 : Int32) : ∀ (m i q : Nat) (D : Nat → Nat → Nat) (S : xSt), i + m = N → m < q → mV S b 1 Y mc wc R row D → rI Y D → D 0 0 + m ≤ 999 →
    ∃ Z, fX12_later_L34 n 0 (nI N) a2 q (nI i) S = some Z ∧ mV Z b 1 Y mc wc R row (s_run Y mc wc R row m D) ∧ mFq (mQ 1) S Z
  | 0, i, q, D, S, hk, hq, hv, hI, h9 => by
    obtain ⟨q, rfl⟩ : ∃ q', q = q' + 1 := ⟨q - 1, by omega⟩
    refine ⟨S, ?_, hv, mFq_refl⟩
    show fX12_later_L34b _ _ _ _ _ _ _ = _
    simp (disch := (first | assumption | omega | exact hB _ _ | exact hYB _ _ | (simp only [yc, yd, sh, sv, ne_eq]; omega) | (simp (disch := omega) only [↓nm_1, ↓nm_2, nI_add, pk_mul, pk_sub, Nat.add_sub_cancel, qm1_add, qm2_add, nI_clamp, ni_0, ni_1]; refine qin_nI ?_ ?_ <;> first | omega | exact hB _ _ | exact hYB _ _) | (refine qin_nI ?_ ?_ <;> omega) | fail)) only [↓km0_gd, ↓km0_gI, ↓km0_gM, ↓km0_pI, ↓km0_pM, ↓km0_pZ, ↓km0_gL, ↓km0_pL, ↓qb_so, ↓nm_1, ↓nm_2, ↓reduceIte, if_true, if_false, not_true_eq_false, not_false_eq_true, and_true, true_and, and_false, false_and, or_true, true_or, or_false, false_or, eq_self, ne_eq, quI_s, quI_n, quI2, quL1, quL2, quL3, quR1, quR2, quR3, nI_add, pk_mul, pk_sub, Nat.add_sub_cancel, qm1_add, qm2_add, nI_leI, nI_ltI, nI_eq, nI_m1, nI_m1', nI_clamp, nI_bit, nI_one_shl, nI_m1l, nI_m1lt, nI_m1lt', nI_m1le', oI_some, oI_none, ni_0, ni_1, fX12_later_L34b, qle_t, qle_f, qlt_t, qlt_f, qeq_t, qeq_f]
  | m + 1, i, q, D, S, hk, hq, hv, hI, h9 => by
    obtain ⟨q, rfl⟩ : ∃ q', q = q' + 1 := ⟨q - 1, by omega⟩
    obtain ⟨Z1, e1, w1, f1⟩ := m_day2 (n := n) (fr := 0) (v := 1) hb (by decide) hv hY hI hK hR hn (by decide) hrow (by omega)
    have nx := s_next hY hI hrow (mc := mc) (wc := wc) (R := R) (fr := 0) (by omega : D 0 0 < 999)
    obtain ⟨Z, e2, v2, f2⟩ := m_laterL hb hY hK hR hn hrow hN a2 m (i + 1) q _ Z1 (by omega) (by omega) (mV_of w1 nx.1.2.1) nx.1 (by omega)
    refine ⟨Z, ?_, v2, mFq_trans f1 f2⟩
    show fX12_later_L34b _ _ _ _ _ _ _ = _
    simp (disch := (first | assumption | omega | exact hB _ _ | exact hYB _ _ | (simp only [yc, yd, sh, sv, ne_eq]; omega) | (simp (disch := omega) only [↓nm_1, ↓nm_2, nI_add, pk_mul, pk_sub, Nat.add_sub_cancel, qm1_add, qm2_add, nI_clamp, ni_0, ni_1, e1, e2]; refine qin_nI ?_ ?_ <;> first | omega | exact hB _ _ | exact hYB _ _) | (refine qin_nI ?_ ?_ <;> omega) | fail)) only [↓km0_gd, ↓km0_gI, ↓km0_gM, ↓km0_pI, ↓km0_pM, ↓km0_pZ, ↓km0_gL, ↓km0_pL, ↓qb_so, ↓nm_1, ↓nm_2, ↓reduceIte, if_true, if_false, not_true_eq_false, not_false_eq_true, and_true, true_and, and_false, false_and, or_true, true_or, or_false, false_or, eq_self, ne_eq, quI_s, quI_n, quI2, quL1, quL2, quL3, quR1, quR2, quR3, nI_add, pk_mul, pk_sub, Nat.add_sub_cancel, qm1_add, qm2_add, nI_leI, nI_ltI, nI_eq, nI_m1, nI_m1', nI_clamp, nI_bit, nI_one_shl, nI_m1l, nI_m1lt, nI_m1lt', nI_m1le', oI_some, oI_none, ni_0, ni_1, fX12_later_L34b, qle_t, qle_f, qlt_t, qlt_f, qeq_t, qeq_f, e1, e2]
end Q40

