section Q49
variable {S Z V : xSt} {b n : Nat} {Y D E : Nat → Nat → Nat} {mc wc : List (Nat × Nat)} {R row : Nat → Nat} {P P' : Nat → Nat → Nat → Nat} {G G' : Nat → Nat → Nat}
def kQ (v k j : Nat) : Prop := pQ v k j ∨ (k = 0 ∧ (j = 64 ∨ j = 65))
theorem gM_P {v : Nat} (hv : 2 ≤ v) (hf : mFq (kQ v) S Z) (hI : gI Y mc wc D P G) (hp : ∃ f0, f0 < 20 ∧ Z.1 0 64 = nI f0 ∧ Z.1 0 65 = nI (G' 1 6) ∧ ∀ i, i < G' 1 6 → mD Z (2 + (f0 + i) % 20) Y (P' i)) (hG : ∀ c j, ¬ (c = 1 ∧ j = 6) → G' c j = G c j) (h : gM S b Y mc wc D P G) : gM Z b Y mc wc D P' G' := by
  obtain ⟨h1, h2, h3, _, ⟨h5a, h5b, h5c, h5d, h5e, h5f, h5g⟩, ⟨h6a, h6b, h6c⟩, h7a, h7b, u, u', fr, hu, hu', h73, h74, h75⟩ := h
  have t0 := dOk_told hI.1 hI.2.2.1
  have e : ∀ k j, ¬ kQ v k j → Z.1 k j = S.1 k j := hf.1
  have e0 : ∀ j, ¬ (j = 64 ∨ j = 65) → Z.1 0 j = S.1 0 j := fun j hj => e 0 j (by unfold kQ pQ; omega)
  refine ⟨mY_fr hf (fun k j a1 a2 => by unfold kQ pQ; omega) (by unfold kQ pQ; omega) h1, fun s i hs hi => by rw [hf.2.1 _ (by omega)]; exact h2 s i hs hi, mD_fr hI.1 hf (fun k j a1 a2 a3 => by unfold mQ at a1; unfold kQ pQ; omega) (by omega) h3, hp, ⟨fun i hi => by rw [e _ _ (by unfold kQ pQ; omega), hG _ _ (by omega)]; exact h5a i hi, by rw [e0 _ (by omega), hG _ _ (by omega)]; exact h5b, by rw [hf.2.1 _ (by decide), hG _ _ (by omega)]; exact h5c, by rw [e0 _ (by omega), hG _ _ (by omega)]; exact h5d, by rw [e0 _ (by omega), hG _ _ (by omega)]; exact h5e, by rw [e0 _ (by omega), hG _ _ (by omega)]; exact h5f, by rw [e0 _ (by omega), hG _ _ (by omega)]; exact h5g⟩, ⟨fun i hi => by rw [e _ _ (by unfold kQ pQ; omega), hG _ _ (by omega)]; exact h6a i hi, fun i hi => by rw [hG _ _ (by omega)] at hi; rw [e _ _ (by unfold kQ pQ; omega), hG _ _ (by omega)]; exact h6b i hi, fun i hi => by rw [hG _ _ (by omega)] at hi; rw [e _ _ (by unfold kQ pQ; omega), hG _ _ (by omega)]; exact h6c i hi⟩, by rw [e0 _ (by omega)]; exact h7a, by rw [e0 _ (by omega)]; exact h7b, u, u', fr, hu, hu', by rw [e0 _ (by omega)]; exact h73, by rw [e0 _ (by omega)]; exact h74, by rw [e0 _ (by omega)]; exact h75⟩
theorem m_keepsB (hn : 2000 ≤ n) (hY : yrOk Y) (hD4 : D 0 4 ≤ 60) {f0 m : Nat} (hf0 : f0 < 20) (hm : m < 20) (h64 : S.1 0 64 = nI f0) (h65 : S.1 0 65 = nI m) (hd : mD S 0 Y D) : ∃ Z1, fX12_keeps_B32 n 0 S = some (xuI Z1 0 65 (nI (m + 1))) ∧ mFq (pQ (2 + (f0 + m) % 20)) S Z1 ∧ mD Z1 (2 + (f0 + m) % 20) Y D := by
  have hx : (f0 + m) % 20 < 20 := Nat.mod_lt _ (by decide)
  obtain ⟨Z1, e1, f1, d1⟩ := m_copies (n := n) (to := 2 + (f0 + m) % 20) (fm := 0) hn (by omega) (by decide) (by omega) hY hD4 hd
  have em := pk_rem (a := f0 + m) (d := 20) (by omega) (by decide) (by decide)
  have k65 : Z1.1 0 65 = nI m := by rw [f1.1 _ _ (by unfold pQ; omega)]; exact h65
  refine ⟨Z1, ?_, f1, d1⟩
  simp (disch := (first | assumption | omega | exact hB _ _ | exact hYB _ _ | (simp only [yc, yd, sh, sv, ne_eq]; omega) | (simp (disch := omega) only [↓nm_1, ↓nm_2, nI_add, pk_mul, pk_sub, Nat.add_sub_cancel, qm1_add, qm2_add, nI_clamp, ni_0, ni_1, ni_2, ni_20, h65, h64, em, e1, k65]; refine qin_nI ?_ ?_ <;> first | omega | exact hB _ _ | exact hYB _ _) | (refine qin_nI ?_ ?_ <;> omega) | fail)) only [↓km0_gd, ↓km0_gI, ↓km0_gM, ↓km0_pI, ↓km0_pM, ↓km0_pZ, ↓km0_gL, ↓km0_pL, ↓qb_so, ↓nm_1, ↓nm_2, ↓reduceIte, if_true, if_false, not_true_eq_false, not_false_eq_true, and_true, true_and, and_false, false_and, or_true, true_or, or_false, false_or, eq_self, ne_eq, quI_s, quI_n, quI2, quL1, quL2, quL3, quR1, quR2, quR3, nI_add, pk_mul, pk_sub, Nat.add_sub_cancel, qm1_add, qm2_add, nI_leI, nI_ltI, nI_eq, nI_m1, nI_m1', nI_clamp, nI_bit, nI_one_shl, nI_m1l, nI_m1lt, nI_m1lt', nI_m1le', oI_some, oI_none, ni_0, ni_1, ni_2, ni_20, fX12_keeps_B32, fX12_slot, qle_t, qle_f, qlt_t, qlt_f, qeq_t, qeq_f, h65, h64, em, e1, k65]
theorem m_keeps (hn : 2000 ≤ n) (h : gM S b Y mc wc D P G) (hI : gI Y mc wc D P G) : ∃ Z, fX12_keeps n 0 S = some Z ∧ gM Z b Y mc wc D (pP P G D) (pG G) := by
  obtain ⟨f0, hf0, h64, h65, hsl⟩ := h.2.2.2.1
  have h20 := hI.2.2.2.2.2.2.1.1
  have t0 := dOk_told hI.1 hI.2.2.1
  have hG : ∀ c j, ¬ (c = 1 ∧ j = 6) → pG G c j = G c j := by
    intro c j hcj
    unfold pG
    rcases dU_cases (D := G) (c := 1) (j := 6) (v := if G 1 6 + 1 < 20 then G 1 6 + 1 else 20) (c' := c) (j' := j) with ⟨_, a1, a2⟩ | ⟨e, _⟩
    · exact absurd ⟨a1, a2⟩ hcj
    · exact e
  by_cases hl : G 1 6 < 20
  · obtain ⟨Z1, e1, f1, d1⟩ := m_keepsB (n := n) hn hI.1 (by omega : D 0 4 ≤ 60) hf0 hl h64 h65 h.2.2.1
    have hx : (f0 + G 1 6) % 20 < 20 := Nat.mod_lt _ (by decide)
    have ff : mFq (kQ (2 + (f0 + G 1 6) % 20)) S (xuI Z1 0 65 (nI (G 1 6 + 1))) := mFq_trans (mFq_mono f1 (fun k j hh => Or.inl hh)) (mFq_upd (by unfold kQ; omega))
    refine ⟨_, ?_, gM_P (by omega) ff hI ⟨f0, hf0, ?_, ?_, fun i hi => ?_⟩ hG h⟩
    · simp (disch := (first | assumption | omega | exact hB _ _ | exact hYB _ _ | (simp only [yc, yd, sh, sv, ne_eq]; omega) | (simp (disch := omega) only [↓nm_1, ↓nm_2, nI_add, pk_mul, pk_sub, Nat.add_sub_cancel, qm1_add, qm2_add, nI_clamp, ni_0, ni_1, ni_20, h65, e1]; refine qin_nI ?_ ?_ <;> first | omega | exact hB _ _ | exact hYB _ _) | (refine qin_nI ?_ ?_ <;> omega) | fail)) only [↓km0_gd, ↓km0_gI, ↓km0_gM, ↓km0_pI, ↓km0_pM, ↓km0_pZ, ↓km0_gL, ↓km0_pL, ↓qb_so, ↓nm_1, ↓nm_2, ↓reduceIte, if_true, if_false, not_true_eq_false, not_false_eq_true, and_true, true_and, and_false, false_and, or_true, true_or, or_false, false_or, eq_self, ne_eq, quI_s, quI_n, quI2, quL1, quL2, quL3, quR1, quR2, quR3, nI_add, pk_mul, pk_sub, Nat.add_sub_cancel, qm1_add, qm2_add, nI_leI, nI_ltI, nI_eq, nI_m1, nI_m1', nI_clamp, nI_bit, nI_one_shl, nI_m1l, nI_m1lt, nI_m1lt', nI_m1le', oI_some, oI_none, ni_0, ni_1, ni_20, fX12_keeps, qle_t, qle_f, qlt_t, qlt_f, qeq_t, qeq_f, h65, e1]
    · rw [quI_k (by omega), f1.1 _ _ (by unfold pQ; omega)]; exact h64
    · rw [quI_e, pG_6]; congr 1; split <;> omega
    · have hi' : i < G 1 6 + 1 := by rw [pG_6] at hi; split at hi <;> omega
      unfold pP
      simp only [if_pos hl]
      by_cases hig : i = G 1 6
      · rw [if_pos hig, hig]
        exact mD_fr hI.1 (mFq_upd (Q := fun k j => k = 0 ∧ j = 65) ⟨rfl, rfl⟩) (fun k j _ a2 a3 => by omega) (by omega) d1
      · rw [if_neg hig]
        have t1 := dOk_told hI.1 (hI.2.2.2.2.1 i (by omega))
        exact mD_fr hI.1 ff (fun k j a1 a2 a3 => by unfold mQ at a1; unfold kQ pQ; omega) (by omega) (hsl i (by omega))
  · have hm : G 1 6 = 20 := by omega
    rw [hm] at h65
    have em := pk_rem (a := f0 + 1) (d := 20) (by omega) (by decide) (by decide)
    have hd0 : mD (xuI (xuI S 0 64 (nI ((f0 + 1) % 20))) 0 65 (nI 19)) 0 Y D := mD_fr hI.1 (mFq_trans (mFq_upd (Q := fun k j => k = 0 ∧ (j = 64 ∨ j = 65)) (by omega)) (mFq_upd (by omega))) (fun k j _ a2 a3 => by omega) (by omega) h.2.2.1
    obtain ⟨Z1, e1, f1, d1⟩ := m_keepsB (n := n) (S := xuI (xuI S 0 64 (nI ((f0 + 1) % 20))) 0 65 (nI 19)) (f0 := (f0 + 1) % 20) (m := 19) hn hI.1 (by omega : D 0 4 ≤ 60) (Nat.mod_lt _ (by decide)) (by decide) (by rw [quI_k (by omega), quI_e]) quI_e hd0
    have ff : mFq (kQ (2 + ((f0 + 1) % 20 + 19) % 20)) S (xuI Z1 0 65 (nI (19 + 1))) := mFq_trans (mFq_trans (mFq_trans (mFq_upd (by unfold kQ; omega)) (mFq_upd (by unfold kQ; omega))) (mFq_mono f1 (fun k j hh => Or.inl hh))) (mFq_upd (by unfold kQ; omega))
    refine ⟨_, ?_, gM_P (by omega) ff hI ⟨(f0 + 1) % 20, Nat.mod_lt _ (by decide), ?_, ?_, fun i hi => ?_⟩ hG h⟩
    · simp (disch := (first | assumption | omega | exact hB _ _ | exact hYB _ _ | (simp only [yc, yd, sh, sv, ne_eq]; omega) | (simp (disch := omega) only [↓nm_1, ↓nm_2, nI_add, pk_mul, pk_sub, Nat.add_sub_cancel, qm1_add, qm2_add, nI_clamp, ni_0, ni_1, ni_20, h65, h64, em, e1]; refine qin_nI ?_ ?_ <;> first | omega | exact hB _ _ | exact hYB _ _) | (refine qin_nI ?_ ?_ <;> omega) | fail)) only [↓km0_gd, ↓km0_gI, ↓km0_gM, ↓km0_pI, ↓km0_pM, ↓km0_pZ, ↓km0_gL, ↓km0_pL, ↓qb_so, ↓nm_1, ↓nm_2, ↓reduceIte, if_true, if_false, not_true_eq_false, not_false_eq_true, and_true, true_and, and_false, false_and, or_true, true_or, or_false, false_or, eq_self, ne_eq, quI_s, quI_n, quI2, quL1, quL2, quL3, quR1, quR2, quR3, nI_add, pk_mul, pk_sub, Nat.add_sub_cancel, qm1_add, qm2_add, nI_leI, nI_ltI, nI_eq, nI_m1, nI_m1', nI_clamp, nI_bit, nI_one_shl, nI_m1l, nI_m1lt, nI_m1lt', nI_m1le', oI_some, oI_none, ni_0, ni_1, ni_20, fX12_keeps, qle_t, qle_f, qlt_t, qlt_f, qeq_t, qeq_f, h65, h64, em, e1]
    · rw [quI_k (by omega), f1.1 _ _ (by unfold pQ; omega), quI_k (by omega), quI_e]
    · rw [quI_e, pG_6]; congr 1; split <;> omega
    · have hi' : i < 20 := by rw [pG_6] at hi; split at hi <;> omega
      unfold pP
      simp only [if_neg hl]
      by_cases hig : i = 19
      · rw [if_pos hig, hig]
        exact mD_fr hI.1 (mFq_upd (Q := fun k j => k = 0 ∧ j = 65) ⟨rfl, rfl⟩) (fun k j _ a2 a3 => by omega) (by omega) d1
      · rw [if_neg hig]
        have t1 := dOk_told hI.1 (hI.2.2.2.2.1 (i + 1) (by omega))
        have hs := hsl (i + 1) (by omega)
        rw [show 2 + ((f0 + 1) % 20 + i) % 20 = 2 + (f0 + (i + 1)) % 20 by omega]
        exact mD_fr hI.1 ff (fun k j a1 a2 a3 => by unfold mQ at a1; unfold kQ pQ; omega) (by omega) hs
/-- now changes, nothing is remembered -/
theorem gC_D (hb : b < 2) (hf : ∀ k j, ¬ (36 ≤ k ∧ k ≤ 40 ∨ k = 43) → Z.1 k j = S.1 k j) (h2 : Z.2 = S.2) (h0 : S.1 148 7 = nI 0) (h1 : S.1 148 11 = nI 0) (hd : cD Z 0 E) (h : gC S b Y mc wc D P G) : gC Z b Y mc wc E P G := by
  obtain ⟨⟨y1, y2, y3, y4, y5, y6, y7, y8⟩, ⟨h2a, h2b, h2c⟩, _, ⟨Y', h4a, h4b, h4c⟩, ⟨c0, h5a, h5b, h5c, h5d⟩, ⟨a1, a2, a3, a4, a5, a6, a7⟩, ⟨b1, b2, b3⟩, _, ⟨h9a, h9b, h9c, ⟨T, h9d, h9e⟩, h9f⟩, h10⟩ := h
  have e : ∀ k, ¬ (36 ≤ k ∧ k ≤ 40 ∨ k = 43) → Z.1 k = S.1 k := fun k a => funext fun j => hf k j a
  have ey : ∀ b' c, b' < 2 → c ≤ 16 → Z.1 (yc b' c) = S.1 (yc b' c) := fun b' c a1 a2 => e _ (by unfold yc; omega)
  have es : ∀ i c, i < 20 → c ≤ 4 → Z.1 (sv i c) = S.1 (sv i c) := fun i c a1 a2 => e _ (by unfold sv; omega)
  refine ⟨⟨fun c j hc => by rw [ey b c hb (by omega)]; exact y1 c j hc, fun j => by rw [ey b 14 hb (by decide)]; exact y2 j, y3, y4, y5, y6, by rw [ey b 15 hb (by decide)]; exact y7, by rw [ey b 15 hb (by decide)]; exact y8⟩, ⟨by rw [h2]; exact h2a, by rw [h2]; exact h2b, by rw [h2]; exact h2c⟩, hd, ⟨Y', h4a, fun c j hc => by rw [ey _ c (by omega) (by omega)]; exact h4b c j hc, fun j => by rw [ey _ 14 (by omega) (by decide)]; exact h4c j⟩, ⟨c0, h5a, by rw [e 41 (by omega)]; exact h5b, by rw [e 41 (by omega)]; exact h5c, fun i hi => ?_⟩, ⟨fun i => by rw [e 1 (by omega)]; exact a1 i, by rw [e 0 (by omega)]; exact a2, by rw [e 0 (by omega)]; exact a3, by rw [e 0 (by omega)]; exact a4, by rw [e 169 (by omega)]; exact a5, by rw [e 160 (by omega)]; exact a6, by rw [e 160 (by omega)]; exact a7⟩, ⟨fun i hi => by rw [e 177 (by omega)]; exact b1 i hi, fun i hi => by rw [e 176 (by omega)]; exact b2 i hi, fun i hi => by rw [e 170 (by omega)]; exact b3 i hi⟩, ⟨⟨0, by rw [e 148 (by omega)]; exact h0, Or.inl rfl⟩, ⟨0, by rw [e 148 (by omega)]; exact h1, Or.inl rfl⟩⟩, ⟨fun c j hc hc2 hj => ?_, fun c j hc hc2 hj => ?_, fun i hi c j hc hc2 hj => ?_, ⟨T, fun c j hc hc2 => ?_, h9e⟩, fun w hw => ?_⟩, fun k hk => by rw [e 161 (by omega)]; exact h10 k hk⟩
  · obtain ⟨s1, s2⟩ := h5d i hi
    have hlt : (c0 + i) % 20 < 20 := Nat.mod_lt _ (by decide)
    exact ⟨fun j hj => by rw [es _ 0 hlt (by decide)]; exact s1 j hj, fun c j hc hc2 => by rw [es _ c hlt hc2]; exact s2 c j hc hc2⟩
  · rw [e _ (by unfold yd; omega)]; exact h9a c j hc hc2 hj
  · rw [e _ (by omega)]; exact h9b c j hc hc2 hj
  · have := es i c hi hc2; rw [sv_c] at this; rw [this]; exact h9c i hi c j hc hc2 hj
  · rw [e _ (by omega)]; exact h9d c j hc hc2
  · obtain ⟨u, u', a1, a2, a3, a4⟩ := h9f w hw
    have : Z.1 (sh w 0) = S.1 (sh w 0) := e _ (by unfold sh; omega)
    exact ⟨u, u', a1, a2, by rw [this]; exact a3, by rw [this]; exact a4⟩
theorem gM_D (hI : gI Y mc wc D P G) (hf : mFq (mQ 0) S Z) (hd : mD Z 0 Y E) (hu : mU Z) (h : gM S b Y mc wc D P G) : gM Z b Y mc wc E P G := by
  obtain ⟨h1, h2, h3, ⟨f0, h4a, h4b, h4c, h4d⟩, ⟨h5a, h5b, h5c, h5d, h5e, h5f, h5g⟩, ⟨h6a, h6b, h6c⟩, h7a, h7b, h7c⟩ := h
  have e : ∀ k j, ¬ mQ 0 k j → Z.1 k j = S.1 k j := hf.1
  refine ⟨mY_fr hf (fun k j h1 h2 => by unfold mQ; omega) (by unfold mQ; omega) h1, fun s i hs hi => by rw [hf.2.1 _ (by omega)]; exact h2 s i hs hi, hd, ⟨f0, h4a, by rw [e _ _ (by unfold mQ; omega)]; exact h4b, by rw [e _ _ (by unfold mQ; omega)]; exact h4c, fun i hi => ?_⟩, ⟨fun i hi => by rw [e _ _ (by unfold mQ; omega)]; exact h5a i hi, by rw [e _ _ (by unfold mQ; omega)]; exact h5b, by rw [hf.2.1 _ (by decide)]; exact h5c, by rw [e _ _ (by unfold mQ; omega)]; exact h5d, by rw [e _ _ (by unfold mQ; omega)]; exact h5e, by rw [e _ _ (by unfold mQ; omega)]; exact h5f, by rw [e _ _ (by unfold mQ; omega)]; exact h5g⟩, ⟨fun i hi => by rw [e _ _ (by unfold mQ; omega)]; exact h6a i hi, fun i hi => by rw [e _ _ (by unfold mQ; omega)]; exact h6b i hi, fun i hi => by rw [e _ _ (by unfold mQ; omega)]; exact h6c i hi⟩, by rw [e _ _ (by unfold mQ; omega)]; exact h7a, by rw [e _ _ (by unfold mQ; omega)]; exact h7b, hu⟩
  have t1 := dOk_told hI.1 (hI.2.2.2.2.1 i hi)
  exact mD_fr hI.1 hf (fun k j a1 a2 a3 => by unfold mQ at a1 ⊢; omega) (by omega) (h4d i hi)
end Q49

