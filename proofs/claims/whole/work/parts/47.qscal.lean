/-! ===== scalars change: feed, end, seed ===== -/
def gS (k j : Nat) : Prop := (k = 0 ∧ (j = 1 ∨ j = 13 ∨ j = 15)) ∨ k = 1 ∨ k = 169 ∨ k = 160 ∨ k = 170 ∨ k = 176 ∨ k = 177
def gT (k j : Nat) : Prop := (k = 0 ∧ (j = 1 ∨ j = 83 ∨ j = 86 ∨ j = 10 ∨ j = 11)) ∨ k = 1 ∨ k = 33 ∨ k = 54 ∨ k = 55
def gC6 (S : xSt) (G : Nat → Nat → Nat) : Prop :=
  ((∀ i, S.1 1 i = nI (G 0 i)) ∧ S.1 0 1 = nI (G 1 0) ∧ S.1 0 15 = nI (G 1 1) ∧ S.1 0 13 = nI (G 1 2) ∧ S.1 169 1 = nI (G 1 3) ∧ S.1 160 9 = nI (G 1 4) ∧ S.1 160 10 = oI (oP (G 1 5))) ∧
  ((∀ i, i < 6 → S.1 177 i = nI (G 2 i)) ∧ (∀ i, i < G 1 2 → S.1 176 i = nI (G 3 i)) ∧ (∀ i, i < G 1 3 → S.1 170 i = nI (G 4 i)))
def gM6 (S : xSt) (G : Nat → Nat → Nat) : Prop :=
  ((∀ i, i < 1600 → S.1 1 i = nI (G 0 i)) ∧ S.1 0 1 = nI (G 1 0) ∧ S.2.1 0 66 = lN (G 1 1) ∧ S.1 0 83 = nI (G 1 2) ∧ S.1 0 86 = nI (G 1 3) ∧ S.1 0 10 = nI (G 1 4) ∧ S.1 0 11 = oI (oP (G 1 5))) ∧
  ((∀ i, i < 6 → S.1 33 i = nI (G 2 i)) ∧ (∀ i, i < G 1 2 → S.1 54 i = nI (G 3 i)) ∧ (∀ i, i < G 1 3 → S.1 55 i = nI (G 4 i)))
section Q47
variable {S Z V : xSt} {b n : Nat} {Y D : Nat → Nat → Nat} {mc wc : List (Nat × Nat)} {R row : Nat → Nat} {P : Nat → Nat → Nat → Nat} {G G' : Nat → Nat → Nat}
theorem gC_G (hb : b < 2) (hf : ∀ k j, ¬ gS k j → Z.1 k j = S.1 k j) (h2 : Z.2 = S.2) (h6 : gC6 Z G') (hG : G' 1 6 = G 1 6) (h : gC S b Y mc wc D P G) : gC Z b Y mc wc D P G' := by
  obtain ⟨h1, ⟨h2a, h2b, h2c⟩, h3, ⟨Y', h4a, h4b, h4c⟩, ⟨c0, h5a, h5b, h5c, h5d⟩, _, _, ⟨⟨od, h8a, h8b⟩, ⟨md, h8c, h8d⟩⟩, ⟨h9a, h9b, h9c, ⟨T, h9d, h9e⟩, h9f⟩, h10⟩ := h
  have e : ∀ k, 2 ≤ k → k ≤ 159 → Z.1 k = S.1 k := fun k a1 a2 => funext fun j => hf k j (by unfold gS; omega)
  have e2 : ∀ k, k = 161 ∨ (171 ≤ k ∧ k ≤ 175) → Z.1 k = S.1 k := fun k a1 => funext fun j => hf k j (by unfold gS; omega)
  have ey : ∀ b' c, b' < 2 → c ≤ 16 → Z.1 (yc b' c) = S.1 (yc b' c) := fun b' c a1 a2 => e _ (by unfold yc; omega) (by unfold yc; omega)
  have ed : ∀ w c, w < 2 → c ≤ 4 → Z.1 (yd w c) = S.1 (yd w c) := fun w c a1 a2 => e _ (by unfold yd; omega) (by unfold yd; omega)
  have es : ∀ i c, i < 20 → c ≤ 4 → Z.1 (sv i c) = S.1 (sv i c) := fun i c a1 a2 => e _ (by unfold sv; omega) (by unfold sv; omega)
  obtain ⟨y1, y2, y3, y4, y5, y6, y7, y8⟩ := h1
  obtain ⟨d1, d2, d3⟩ := h3
  refine ⟨⟨fun c j hc => by rw [ey b c hb (by omega)]; exact y1 c j hc, fun j => by rw [ey b 14 hb (by decide)]; exact y2 j, y3, y4, y5, y6, by rw [ey b 15 hb (by decide)]; exact y7, by rw [ey b 15 hb (by decide)]; exact y8⟩, ⟨by rw [h2]; exact h2a, by rw [h2]; exact h2b, by rw [h2]; exact h2c⟩, ⟨fun j hj => by rw [ed 0 0 (by decide) (by decide)]; exact d1 j hj, fun c j hc hc2 => by rw [ed 0 c (by decide) hc2]; exact d2 c j hc hc2, fun h0 => ⟨by rw [ed 0 0 (by decide) (by decide)]; exact (d3 h0).1, fun k => by rw [e 43 (by decide) (by decide)]; exact (d3 h0).2 k⟩⟩, ⟨Y', h4a, fun c j hc => by rw [ey _ c (by omega) (by omega)]; exact h4b c j hc, fun j => by rw [ey _ 14 (by omega) (by decide)]; exact h4c j⟩, ⟨c0, h5a, by rw [e 41 (by decide) (by decide), hG]; exact h5b, by rw [e 41 (by decide) (by decide), hG]; exact h5c, fun i hi => ?_⟩, h6.1, h6.2, ⟨⟨od, by rw [e 148 (by decide) (by decide)]; exact h8a, by rw [e 148 (by decide) (by decide), e 155 (by decide) (by decide)]; exact h8b⟩, ⟨md, by rw [e 148 (by decide) (by decide)]; exact h8c, by rw [e 148 (by decide) (by decide)]; exact h8d⟩⟩, ⟨fun c j hc hc2 hj => ?_, fun c j hc hc2 hj => ?_, fun i hi c j hc hc2 hj => ?_, ⟨T, fun c j hc hc2 => ?_, h9e⟩, fun w hw => ?_⟩, fun k hk => by rw [e2 161 (Or.inl rfl)]; exact h10 k hk⟩
  · rw [hG] at hi
    obtain ⟨s1, s2⟩ := h5d i hi
    have hlt : (c0 + i) % 20 < 20 := Nat.mod_lt _ (by decide)
    exact ⟨fun j hj => by rw [es _ 0 hlt (by decide)]; exact s1 j hj, fun c j hc hc2 => by rw [es _ c hlt hc2]; exact s2 c j hc hc2⟩
  · have := ed 1 c (by decide) hc2; rw [yd_c] at this; rw [this]; exact h9a c j hc hc2 hj
  · rw [e2 _ (by omega)]; exact h9b c j hc hc2 hj
  · have := es i c hi hc2; rw [sv_c] at this; rw [this]; exact h9c i hi c j hc hc2 hj
  · rw [e2 _ (by omega)]; exact h9d c j hc hc2
  · obtain ⟨u, u', a1, a2, a3, a4⟩ := h9f w hw
    have : Z.1 (sh w 0) = S.1 (sh w 0) := e _ (by unfold sh; omega) (by unfold sh; omega)
    exact ⟨u, u', a1, a2, by rw [this]; exact a3, by rw [this]; exact a4⟩
theorem gM_G (hI : gI Y mc wc D P G) (hf : ∀ k j, ¬ gT k j → Z.1 k j = S.1 k j) (h21 : ∀ k j, ¬ (k = 0 ∧ j = 66) → Z.2.1 k j = S.2.1 k j) (h6 : gM6 Z G') (hG : G' 1 6 = G 1 6) (h : gM S b Y mc wc D P G) : gM Z b Y mc wc D P G' := by
  obtain ⟨h1, h2, h3, ⟨f0, h4a, h4b, h4c, h4d⟩, _, _, h7a, h7b, u, u', fr, hu, hu', h73, h74, h75⟩ := h
  have t0 := dOk_told hI.1 hI.2.2.1
  have hq : mFq gT S (Z.1, S.2) := ⟨hf, fun _ _ => rfl, rfl⟩
  have cp : ∀ v E, D 0 4 ≤ 60 → E 0 4 ≤ 60 → mD S v Y E → mD Z v Y E := fun v E _ hE hd => mD_fr (Z := (Z.1, S.2)) hI.1 hq (fun k j _ a1 a2 => by unfold gT; omega) hE hd
  have hy : mY Z b Y mc wc := by
    have e : ∀ k j, 2 ≤ k → k ≤ 32 → Z.1 k j = S.1 k j := fun k j a1 a2 => hf k j (by unfold gT; omega)
    have e21 : Z.1 21 = S.1 21 := funext fun j => e 21 j (by decide) (by decide)
    have e22 : Z.1 22 = S.1 22 := funext fun j => e 22 j (by decide) (by decide)
    have ko : ∀ wh cs, mKo S b wh cs → mKo Z b wh cs := fun wh cs hk => ⟨fun hc => by rw [e _ _ (by decide) (by decide)]; exact hk.1 hc, fun hc => by
      obtain ⟨p, a1, a2, a3, a4⟩ := hk.2 hc
      exact ⟨p, by rw [e _ _ (by decide) (by decide)]; exact a1, by rw [e _ _ (by decide) (by decide)]; exact a2, a3, by rw [e21, e22]; exact a4⟩⟩
    obtain ⟨h0, ⟨h1, h2, h3, h4⟩, h5, h6, h7, h8, h9, ⟨h10, h11⟩, ⟨h12, h13, h14⟩, h15, h16⟩ := h1
    refine ⟨by rw [hf _ _ (by unfold gT; omega)]; exact h0, ⟨?_, ?_, ?_, ?_⟩, fun k hk => ⟨?_, ?_⟩, fun t ht => ⟨?_, ?_⟩, fun g t hg ht => ?_, fun j hj => ⟨?_, ?_, fun s hs => ⟨?_, ?_⟩⟩, fun a c ha hc => ?_, ⟨?_, ?_⟩, ⟨?_, ?_, ?_⟩, ko _ _ h15, ko _ _ h16⟩
    all_goals rw [e _ _ (by decide) (by decide)]
    · exact h1
    · exact h2
    · exact h3
    · exact h4
    · exact (h5 k hk).1
    · exact (h5 k hk).2
    · exact (h6 t ht).1
    · exact (h6 t ht).2
    · exact h7 g t hg ht
    · exact (h8 j hj).1
    · exact (h8 j hj).2.1
    · exact ((h8 j hj).2.2 s hs).1
    · exact ((h8 j hj).2.2 s hs).2
    · exact h9 a c ha hc
    · exact h10
    · exact h11
    · exact h12
    · exact h13
    · exact h14
  have e0 : ∀ j, ¬ (j = 1 ∨ j = 83 ∨ j = 86 ∨ j = 10 ∨ j = 11) → Z.1 0 j = S.1 0 j := fun j hj => hf 0 j (by unfold gT; omega)
  refine ⟨hy, fun s i hs hi => by rw [h21 _ _ (by omega)]; exact h2 s i hs hi, cp 0 D (by omega) (by omega) h3, ⟨f0, h4a, by rw [e0 _ (by omega)]; exact h4b, by rw [e0 _ (by omega), hG]; exact h4c, fun i hi => ?_⟩, h6.1, h6.2, by rw [e0 _ (by omega)]; exact h7a, by rw [e0 _ (by omega)]; exact h7b, u, u', fr, hu, hu', by rw [e0 _ (by omega)]; exact h73, by rw [e0 _ (by omega)]; exact h74, by rw [e0 _ (by omega)]; exact h75⟩
  rw [hG] at hi
  have t1 := dOk_told hI.1 (hI.2.2.2.2.1 i hi)
  exact cp _ _ (by omega) (by omega) (h4d i hi)
def gRf (G : Nat → Nat → Nat) (i : Nat) : Nat → Nat → Nat := dU G 2 i (G 2 i + 1)
theorem c_refuse (hb : b < 2) (h : gC S b Y mc wc D P G) {i : Nat} (hi : i < 6) : fX11_refuse 0 (nI i) S = some (qm1, xuI S 177 i (nI (G 2 i + 1))) ∧ gC (xuI S 177 i (nI (G 2 i + 1))) b Y mc wc D P (gRf G i) := by
  have c1 := h.2.2.2.2.2.2.1.1
  refine ⟨?_, gC_G hb (fun k j hk => quI_n (fun e => hk (by unfold gS; omega))) rfl ?_ (by unfold gRf; rw [dU_c (by decide)]) h⟩
  · simp (disch := (first | assumption | omega | exact hB _ _ | exact hYB _ _ | (simp only [yc, yd, sh, sv, ne_eq]; omega) | (simp (disch := omega) only [↓nm_1, ↓nm_2, nI_add, pk_mul, pk_sub, Nat.add_sub_cancel, qm1_add, qm2_add, nI_clamp, ni_0, ni_1, ni_6, c1]; refine qin_nI ?_ ?_ <;> first | omega | exact hB _ _ | exact hYB _ _) | (refine qin_nI ?_ ?_ <;> omega) | fail)) only [↓kc0_gd, ↓kc0_gI, ↓kc0_gM, ↓kc0_pI, ↓kc0_pM, ↓kc0_pZ, ↓kc0_gF0, ↓kc0_gF4, ↓kc0_gF5, ↓kc0_gF6, ↓kc0_gF7, ↓kc0_gF8, ↓kc0_gF9, ↓kc0_gF10, ↓kc0_gF11, ↓kc0_gF12, ↓kc0_gF14, ↓kc1_al, ↓kc1_as, ↓kc1_ln, ↓kc41_gd, ↓kc41_gI, ↓kc41_gM, ↓kc41_pI, ↓kc41_pM, ↓kc41_pZ, ↓kc41_gF0, ↓kc41_gF1, ↓kc42_ql, ↓kc43_al, ↓kc43_as, ↓kc43_ln, ↓kc148_gd, ↓kc148_gI, ↓kc148_gM, ↓kc148_pI, ↓kc148_pM, ↓kc148_pZ, ↓kc148_gF0, ↓kc148_gF1, ↓kc148_gF2, ↓kc148_gF4, ↓kc148_gF5, ↓kc154_al, ↓kc154_as, ↓kc154_ln, ↓kc155_al, ↓kc155_as, ↓kc155_ln, ↓kc160_gd, ↓kc160_gI, ↓kc160_gM, ↓kc160_pI, ↓kc160_pM, ↓kc160_pZ, ↓kc160_gF0, ↓kc160_gF1, ↓kc161_al, ↓kc161_as, ↓kc161_ln, ↓kc162_gd, ↓kc162_gI, ↓kc162_gM, ↓kc162_pI, ↓kc162_pM, ↓kc162_pZ, ↓kc162_gF0, ↓kc162_gF1, ↓kc163_gd, ↓kc163_gI, ↓kc163_gM, ↓kc163_pI, ↓kc163_pM, ↓kc163_pZ, ↓kc163_gF0, ↓kc164_gd, ↓kc164_gI, ↓kc164_gM, ↓kc164_pI, ↓kc164_pM, ↓kc164_pZ, ↓kc164_gF0, ↓kc164_gF1, ↓kc164_gF2, ↓kc164_gF3, ↓kc165_al, ↓kc165_as, ↓kc165_ln, ↓kc166_al, ↓kc166_as, ↓kc166_ln, ↓kc167_al, ↓kc167_as, ↓kc167_ln, ↓kc168_al, ↓kc168_as, ↓kc168_ln, ↓kc169_gd, ↓kc169_gI, ↓kc169_gM, ↓kc169_pI, ↓kc169_pM, ↓kc169_pZ, ↓kc169_gF0, ↓kc169_gF2, ↓kc170_al, ↓kc170_as, ↓kc170_ln, ↓kc171_gd, ↓kc171_gI, ↓kc171_gM, ↓kc171_pI, ↓kc171_pM, ↓kc171_pZ, ↓kc171_gF5, ↓kc171_gF6, ↓kc171_gF7, ↓kc171_gF8, ↓kc172_al, ↓kc172_as, ↓kc172_ln, ↓kc173_al, ↓kc173_as, ↓kc173_ln, ↓kc174_al, ↓kc174_as, ↓kc174_ln, ↓kc175_al, ↓kc175_as, ↓kc175_ln, ↓kc176_al, ↓kc176_as, ↓kc176_ln, ↓kc177_al, ↓kc177_as, ↓kc177_ln, ↓qb_so, ↓nm_1, ↓nm_2, ↓reduceIte, if_true, if_false, not_true_eq_false, not_false_eq_true, and_true, true_and, and_false, false_and, or_true, true_or, or_false, false_or, eq_self, ne_eq, quI_s, quI_n, quI2, quL1, quL2, quL3, quR1, quR2, quR3, nI_add, pk_mul, pk_sub, Nat.add_sub_cancel, qm1_add, qm2_add, nI_leI, nI_ltI, nI_eq, nI_m1, nI_m1', nI_clamp, nI_bit, nI_one_shl, nI_m1l, nI_m1lt, nI_m1lt', nI_m1le', oI_some, oI_none, ni_0, ni_1, ni_6, fX11_refuse, qle_t, qle_f, qlt_t, qlt_f, qeq_t, qeq_f, c1]
  · obtain ⟨⟨a1, a2, a3, a4, a5, a6, a7⟩, b1, b2, b3⟩ := (⟨h.2.2.2.2.2.1, h.2.2.2.2.2.2.1⟩ : gC6 S G)
    refine ⟨⟨fun j => a1 j, a2, a3, a4, a5, a6, a7⟩, fun j hj => ?_, fun j hj => b2 j hj, fun j hj => b3 j hj⟩
    rw [quI_s]
    unfold gRf
    rw [dU_r]
    split
    · rfl
    · exact b1 j hj
theorem m_refuse (hI : gI Y mc wc D P G) (h : gM S b Y mc wc D P G) {i : Nat} (hi : i < 6) : fX12_refuses 0 (nI i) S = some (qm1, xuI S 33 i (nI (G 2 i + 1))) ∧ gM (xuI S 33 i (nI (G 2 i + 1))) b Y mc wc D P (gRf G i) := by
  have m1 := h.2.2.2.2.2.1.1
  refine ⟨?_, gM_G hI (fun k j hk => quI_n (fun e => hk (by unfold gT; omega))) (fun _ _ _ => rfl) ?_ (by unfold gRf; rw [dU_c (by decide)]) h⟩
  · simp (disch := (first | assumption | omega | exact hB _ _ | exact hYB _ _ | (simp only [yc, yd, sh, sv, ne_eq]; omega) | (simp (disch := omega) only [↓nm_1, ↓nm_2, nI_add, pk_mul, pk_sub, Nat.add_sub_cancel, qm1_add, qm2_add, nI_clamp, ni_0, ni_1, m1]; refine qin_nI ?_ ?_ <;> first | omega | exact hB _ _ | exact hYB _ _) | (refine qin_nI ?_ ?_ <;> omega) | fail)) only [↓km0_gd, ↓km0_gI, ↓km0_gM, ↓km0_pI, ↓km0_pM, ↓km0_pZ, ↓km0_gL, ↓km0_pL, ↓km0_gF53, ↓km33_al, ↓km33_as, ↓km33_ln, ↓qb_so, ↓nm_1, ↓nm_2, ↓reduceIte, if_true, if_false, not_true_eq_false, not_false_eq_true, and_true, true_and, and_false, false_and, or_true, true_or, or_false, false_or, eq_self, ne_eq, quI_s, quI_n, quI2, quL1, quL2, quL3, quR1, quR2, quR3, nI_add, pk_mul, pk_sub, Nat.add_sub_cancel, qm1_add, qm2_add, nI_leI, nI_ltI, nI_eq, nI_m1, nI_m1', nI_clamp, nI_bit, nI_one_shl, nI_m1l, nI_m1lt, nI_m1lt', nI_m1le', oI_some, oI_none, ni_0, ni_1, fX12_refuses, qle_t, qle_f, qlt_t, qlt_f, qeq_t, qeq_f, m1]
  · obtain ⟨⟨a1, a2, a3, a4, a5, a6, a7⟩, b1, b2, b3⟩ := (⟨h.2.2.2.2.1, h.2.2.2.2.2.1⟩ : gM6 S G)
    refine ⟨⟨fun j hj => a1 j hj, a2, a3, a4, a5, a6, a7⟩, fun j hj => ?_, fun j hj => b2 j hj, fun j hj => b3 j hj⟩
    rw [quI_s]
    unfold gRf
    rw [dU_r]
    split
    · rfl
    · exact b1 j hj
theorem gI_rf (hI : gI Y mc wc D P G) {i : Nat} : gI Y mc wc D P (gRf G i) := hI
theorem qL66 {S : xSt} {k j : Nat} {x : Int64} (hk : ¬ (k = 0 ∧ j = 66)) : (xuL S 0 66 x).2.1 k j = S.2.1 k j := by
  rw [quL2]
  by_cases h1 : k = 0
  · rw [if_pos h1, if_neg (fun e => hk ⟨h1, e⟩)]
  · rw [if_neg h1]
theorem e_seed : xEq27 gR := by
  intro S1 S2 h a
  obtain ⟨b, Y, mc, wc, D, P, G, hb, hC, hM, hI⟩ := id h
  by_cases h0 : a < 0
  · have h1 : (nI 0 ≤ a) = False := eq_false (fun hh => by rw [Int32.lt_iff_toInt_lt] at h0; rw [Int32.le_iff_toInt_le] at hh; have : (nI 0).toInt = (0 : Int32).toInt := (by decide); omega)
    obtain ⟨c1, g1⟩ := c_refuse (i := 5) hb hC (by decide)
    obtain ⟨m1, k1⟩ := m_refuse (i := 5) hI hM (by decide)
    refine ⟨nI 0, _, _, ?_, ?_, b, Y, mc, wc, D, P, gRf G 5, hb, g1, k1, gI_rf hI⟩
    · simp (disch := (first | assumption | omega | exact hB _ _ | exact hYB _ _ | (simp only [yc, yd, sh, sv, ne_eq]; omega) | (simp (disch := omega) only [↓nm_1, ↓nm_2, nI_add, pk_mul, pk_sub, Nat.add_sub_cancel, qm1_add, qm2_add, nI_clamp, ni_0, ni_1, ni_5, h1, c1]; refine qin_nI ?_ ?_ <;> first | omega | exact hB _ _ | exact hYB _ _) | (refine qin_nI ?_ ?_ <;> omega) | fail)) only [↓kc0_gd, ↓kc0_gI, ↓kc0_gM, ↓kc0_pI, ↓kc0_pM, ↓kc0_pZ, ↓kc0_gF0, ↓kc0_gF4, ↓kc0_gF5, ↓kc0_gF6, ↓kc0_gF7, ↓kc0_gF8, ↓kc0_gF9, ↓kc0_gF10, ↓kc0_gF11, ↓kc0_gF12, ↓kc0_gF14, ↓kc1_al, ↓kc1_as, ↓kc1_ln, ↓kc41_gd, ↓kc41_gI, ↓kc41_gM, ↓kc41_pI, ↓kc41_pM, ↓kc41_pZ, ↓kc41_gF0, ↓kc41_gF1, ↓kc42_ql, ↓kc43_al, ↓kc43_as, ↓kc43_ln, ↓kc148_gd, ↓kc148_gI, ↓kc148_gM, ↓kc148_pI, ↓kc148_pM, ↓kc148_pZ, ↓kc148_gF0, ↓kc148_gF1, ↓kc148_gF2, ↓kc148_gF4, ↓kc148_gF5, ↓kc154_al, ↓kc154_as, ↓kc154_ln, ↓kc155_al, ↓kc155_as, ↓kc155_ln, ↓kc160_gd, ↓kc160_gI, ↓kc160_gM, ↓kc160_pI, ↓kc160_pM, ↓kc160_pZ, ↓kc160_gF0, ↓kc160_gF1, ↓kc161_al, ↓kc161_as, ↓kc161_ln, ↓kc162_gd, ↓kc162_gI, ↓kc162_gM, ↓kc162_pI, ↓kc162_pM, ↓kc162_pZ, ↓kc162_gF0, ↓kc162_gF1, ↓kc163_gd, ↓kc163_gI, ↓kc163_gM, ↓kc163_pI, ↓kc163_pM, ↓kc163_pZ, ↓kc163_gF0, ↓kc164_gd, ↓kc164_gI, ↓kc164_gM, ↓kc164_pI, ↓kc164_pM, ↓kc164_pZ, ↓kc164_gF0, ↓kc164_gF1, ↓kc164_gF2, ↓kc164_gF3, ↓kc165_al, ↓kc165_as, ↓kc165_ln, ↓kc166_al, ↓kc166_as, ↓kc166_ln, ↓kc167_al, ↓kc167_as, ↓kc167_ln, ↓kc168_al, ↓kc168_as, ↓kc168_ln, ↓kc169_gd, ↓kc169_gI, ↓kc169_gM, ↓kc169_pI, ↓kc169_pM, ↓kc169_pZ, ↓kc169_gF0, ↓kc169_gF2, ↓kc170_al, ↓kc170_as, ↓kc170_ln, ↓kc171_gd, ↓kc171_gI, ↓kc171_gM, ↓kc171_pI, ↓kc171_pM, ↓kc171_pZ, ↓kc171_gF5, ↓kc171_gF6, ↓kc171_gF7, ↓kc171_gF8, ↓kc172_al, ↓kc172_as, ↓kc172_ln, ↓kc173_al, ↓kc173_as, ↓kc173_ln, ↓kc174_al, ↓kc174_as, ↓kc174_ln, ↓kc175_al, ↓kc175_as, ↓kc175_ln, ↓kc176_al, ↓kc176_as, ↓kc176_ln, ↓kc177_al, ↓kc177_as, ↓kc177_ln, ↓qb_so, ↓nm_1, ↓nm_2, ↓reduceIte, if_true, if_false, not_true_eq_false, not_false_eq_true, and_true, true_and, and_false, false_and, or_true, true_or, or_false, false_or, eq_self, ne_eq, quI_s, quI_n, quI2, quL1, quL2, quL3, quR1, quR2, quR3, nI_add, pk_mul, pk_sub, Nat.add_sub_cancel, qm1_add, qm2_add, nI_leI, nI_ltI, nI_eq, nI_m1, nI_m1', nI_clamp, nI_bit, nI_one_shl, nI_m1l, nI_m1lt, nI_m1lt', nI_m1le', oI_some, oI_none, ni_0, ni_1, ni_5, fX11_seed, fX11_turnDown, qle_t, qle_f, qlt_t, qlt_f, qeq_t, qeq_f, h1, c1]
    · have hq : (qm1 < nI 0) = True := by decide
      simp (disch := (first | assumption | omega | exact hB _ _ | exact hYB _ _ | (simp only [yc, yd, sh, sv, ne_eq]; omega) | (simp (disch := omega) only [↓nm_1, ↓nm_2, nI_add, pk_mul, pk_sub, Nat.add_sub_cancel, qm1_add, qm2_add, nI_clamp, ni_0, ni_1, ni_5, h1, m1, hq]; refine qin_nI ?_ ?_ <;> first | omega | exact hB _ _ | exact hYB _ _) | (refine qin_nI ?_ ?_ <;> omega) | fail)) only [↓km0_gd, ↓km0_gI, ↓km0_gM, ↓km0_pI, ↓km0_pM, ↓km0_pZ, ↓km0_gL, ↓km0_pL, ↓qb_so, ↓nm_1, ↓nm_2, ↓reduceIte, if_true, if_false, not_true_eq_false, not_false_eq_true, and_true, true_and, and_false, false_and, or_true, true_or, or_false, false_or, eq_self, ne_eq, quI_s, quI_n, quI2, quL1, quL2, quL3, quR1, quR2, quR3, nI_add, pk_mul, pk_sub, Nat.add_sub_cancel, qm1_add, qm2_add, nI_leI, nI_ltI, nI_eq, nI_m1, nI_m1', nI_clamp, nI_bit, nI_one_shl, nI_m1l, nI_m1lt, nI_m1lt', nI_m1le', oI_some, oI_none, ni_0, ni_1, ni_5, fX12_seed, qle_t, qle_f, qlt_t, qlt_f, qeq_t, qeq_f, h1, m1, hq]
  · obtain ⟨v, hv, rfl⟩ : ∃ v, v < 2 ^ 31 ∧ a = nI v := nI_of h0
    have hl := nI_l hv
    refine ⟨nI 1, xuI S1 0 15 (nI v), xuL S2 0 66 (lN v), ?_, ?_, b, Y, mc, wc, D, P, dU G 1 1 v, hb, ?_, ?_, ?_⟩
    · simp (disch := (first | assumption | omega | exact hB _ _ | exact hYB _ _ | (simp only [yc, yd, sh, sv, ne_eq]; omega) | (simp (disch := omega) only [↓nm_1, ↓nm_2, nI_add, pk_mul, pk_sub, Nat.add_sub_cancel, qm1_add, qm2_add, nI_clamp, ni_0, ni_1, ni_5]; refine qin_nI ?_ ?_ <;> first | omega | exact hB _ _ | exact hYB _ _) | (refine qin_nI ?_ ?_ <;> omega) | fail)) only [↓kc0_gd, ↓kc0_gI, ↓kc0_gM, ↓kc0_pI, ↓kc0_pM, ↓kc0_pZ, ↓kc0_gF0, ↓kc0_gF4, ↓kc0_gF5, ↓kc0_gF6, ↓kc0_gF7, ↓kc0_gF8, ↓kc0_gF9, ↓kc0_gF10, ↓kc0_gF11, ↓kc0_gF12, ↓kc0_gF14, ↓kc1_al, ↓kc1_as, ↓kc1_ln, ↓kc41_gd, ↓kc41_gI, ↓kc41_gM, ↓kc41_pI, ↓kc41_pM, ↓kc41_pZ, ↓kc41_gF0, ↓kc41_gF1, ↓kc42_ql, ↓kc43_al, ↓kc43_as, ↓kc43_ln, ↓kc148_gd, ↓kc148_gI, ↓kc148_gM, ↓kc148_pI, ↓kc148_pM, ↓kc148_pZ, ↓kc148_gF0, ↓kc148_gF1, ↓kc148_gF2, ↓kc148_gF4, ↓kc148_gF5, ↓kc154_al, ↓kc154_as, ↓kc154_ln, ↓kc155_al, ↓kc155_as, ↓kc155_ln, ↓kc160_gd, ↓kc160_gI, ↓kc160_gM, ↓kc160_pI, ↓kc160_pM, ↓kc160_pZ, ↓kc160_gF0, ↓kc160_gF1, ↓kc161_al, ↓kc161_as, ↓kc161_ln, ↓kc162_gd, ↓kc162_gI, ↓kc162_gM, ↓kc162_pI, ↓kc162_pM, ↓kc162_pZ, ↓kc162_gF0, ↓kc162_gF1, ↓kc163_gd, ↓kc163_gI, ↓kc163_gM, ↓kc163_pI, ↓kc163_pM, ↓kc163_pZ, ↓kc163_gF0, ↓kc164_gd, ↓kc164_gI, ↓kc164_gM, ↓kc164_pI, ↓kc164_pM, ↓kc164_pZ, ↓kc164_gF0, ↓kc164_gF1, ↓kc164_gF2, ↓kc164_gF3, ↓kc165_al, ↓kc165_as, ↓kc165_ln, ↓kc166_al, ↓kc166_as, ↓kc166_ln, ↓kc167_al, ↓kc167_as, ↓kc167_ln, ↓kc168_al, ↓kc168_as, ↓kc168_ln, ↓kc169_gd, ↓kc169_gI, ↓kc169_gM, ↓kc169_pI, ↓kc169_pM, ↓kc169_pZ, ↓kc169_gF0, ↓kc169_gF2, ↓kc170_al, ↓kc170_as, ↓kc170_ln, ↓kc171_gd, ↓kc171_gI, ↓kc171_gM, ↓kc171_pI, ↓kc171_pM, ↓kc171_pZ, ↓kc171_gF5, ↓kc171_gF6, ↓kc171_gF7, ↓kc171_gF8, ↓kc172_al, ↓kc172_as, ↓kc172_ln, ↓kc173_al, ↓kc173_as, ↓kc173_ln, ↓kc174_al, ↓kc174_as, ↓kc174_ln, ↓kc175_al, ↓kc175_as, ↓kc175_ln, ↓kc176_al, ↓kc176_as, ↓kc176_ln, ↓kc177_al, ↓kc177_as, ↓kc177_ln, ↓qb_so, ↓nm_1, ↓nm_2, ↓reduceIte, if_true, if_false, not_true_eq_false, not_false_eq_true, and_true, true_and, and_false, false_and, or_true, true_or, or_false, false_or, eq_self, ne_eq, quI_s, quI_n, quI2, quL1, quL2, quL3, quR1, quR2, quR3, nI_add, pk_mul, pk_sub, Nat.add_sub_cancel, qm1_add, qm2_add, nI_leI, nI_ltI, nI_eq, nI_m1, nI_m1', nI_clamp, nI_bit, nI_one_shl, nI_m1l, nI_m1lt, nI_m1lt', nI_m1le', oI_some, oI_none, ni_0, ni_1, ni_5, fX11_seed, qle_t, qle_f, qlt_t, qlt_f, qeq_t, qeq_f]
    · simp (disch := (first | assumption | omega | exact hB _ _ | exact hYB _ _ | (simp only [yc, yd, sh, sv, ne_eq]; omega) | (simp (disch := omega) only [↓nm_1, ↓nm_2, nI_add, pk_mul, pk_sub, Nat.add_sub_cancel, qm1_add, qm2_add, nI_clamp, ni_0, ni_1, ni_5, hl]; refine qin_nI ?_ ?_ <;> first | omega | exact hB _ _ | exact hYB _ _) | (refine qin_nI ?_ ?_ <;> omega) | fail)) only [↓km0_gd, ↓km0_gI, ↓km0_gM, ↓km0_pI, ↓km0_pM, ↓km0_pZ, ↓km0_gL, ↓km0_pL, ↓qb_so, ↓nm_1, ↓nm_2, ↓reduceIte, if_true, if_false, not_true_eq_false, not_false_eq_true, and_true, true_and, and_false, false_and, or_true, true_or, or_false, false_or, eq_self, ne_eq, quI_s, quI_n, quI2, quL1, quL2, quL3, quR1, quR2, quR3, nI_add, pk_mul, pk_sub, Nat.add_sub_cancel, qm1_add, qm2_add, nI_leI, nI_ltI, nI_eq, nI_m1, nI_m1', nI_clamp, nI_bit, nI_one_shl, nI_m1l, nI_m1lt, nI_m1lt', nI_m1le', oI_some, oI_none, ni_0, ni_1, ni_5, fX12_seed, qle_t, qle_f, qlt_t, qlt_f, qeq_t, qeq_f, hl]
    · refine gC_G hb (fun k j hk => quI_k (fun e => hk (by unfold gS; omega))) rfl ?_ (by rw [dU_j (by decide)]) hC
      obtain ⟨⟨a1, a2, a3, a4, a5, a6, a7⟩, b1, b2, b3⟩ := (⟨hC.2.2.2.2.2.1, hC.2.2.2.2.2.2.1⟩ : gC6 S1 G)
      refine ⟨⟨fun j => a1 j, ?_, ?_, ?_, a5, a6, a7⟩, fun j hj => b1 j hj, fun j hj => b2 j hj, fun j hj => b3 j hj⟩
      · rw [quI_k (by omega)]; exact a2
      · rw [quI_e, dU_s]
      · rw [quI_k (by omega)]; exact a4
    · refine gM_G (S := S2) hI (fun k j hk => rfl) (fun k j hk => qL66 hk) ?_ (by rw [dU_j (by decide)]) hM
      obtain ⟨⟨a1, a2, a3, a4, a5, a6, a7⟩, b1, b2, b3⟩ := (⟨hM.2.2.2.2.1, hM.2.2.2.2.2.1⟩ : gM6 S2 G)
      refine ⟨⟨fun j hj => a1 j hj, a2, ?_, a4, a5, a6, a7⟩, fun j hj => b1 j hj, fun j hj => b2 j hj, fun j hj => b3 j hj⟩
      rw [quL2, if_pos rfl, if_pos rfl, dU_s]
    · obtain ⟨i1, i2, i3, i4, i5, i6, ⟨q1, q2, q3, q4, q5⟩, i8⟩ := hI
      exact ⟨i1, i2, i3, i4, i5, i6, ⟨q1, q2, q3, hv, q5⟩, i8⟩
/-! the tape -/
def by8 (a : Int32) (s : Nat) : Nat := ((a >>> (nI s &&& 31)) &&& nI 255).toNatClampNeg
theorem by8_ok (a : Int32) (s : Nat) : (a >>> (nI s &&& 31)) &&& nI 255 = nI (by8 a s) ∧ by8 a s < 256 := by
  obtain ⟨j, hj, e⟩ := pk_andE (a >>> (nI s &&& 31)) (m := nI 255) 8 (by decide)
  unfold by8
  rw [e, nI_clamp (by omega)]
  exact ⟨rfl, hj⟩
def gB (G : Nat → Nat → Nat) (v : Nat) : Nat → Nat → Nat := dU (dU G 0 (G 1 0) v) 1 0 (G 1 0 + 1)
theorem gB_C (hb : b < 2) (h : gC S b Y mc wc D P G) {v : Nat} : gC (xuI (xuI S 1 (G 1 0) (nI v)) 0 1 (nI (G 1 0 + 1))) b Y mc wc D P (gB G v) := by
  have hg : ∀ c i, c ≠ 0 → ¬ (c = 1 ∧ i = 0) → gB G v c i = G c i := fun c i h1 h2 => by
    unfold gB
    rcases dU_cases (D := dU G 0 (G 1 0) v) (c := 1) (j := 0) (v := G 1 0 + 1) (c' := c) (j' := i) with ⟨_, a1, a2⟩ | ⟨e, _⟩
    · exact absurd ⟨a1, a2⟩ h2
    · rw [e, dU_c h1]
  refine gC_G (S := S) hb (fun k j hk => by rw [quI_k (fun e => hk (by unfold gS; omega)), quI_n (fun e => hk (by unfold gS; omega))]) rfl ?_ (hg 1 6 (by decide) (by omega)) h
  obtain ⟨⟨a1, a2, a3, a4, a5, a6, a7⟩, b1, b2, b3⟩ := (⟨h.2.2.2.2.2.1, h.2.2.2.2.2.2.1⟩ : gC6 S G)
  refine ⟨⟨fun j => ?_, ?_, ?_, ?_, ?_, ?_, ?_⟩, fun j hj => ?_, fun j hj => ?_, fun j hj => ?_⟩
  · rw [quI_n (by decide), quI_s]
    unfold gB
    rw [dU_c (by decide), dU_r]
    split
    · rfl
    · exact a1 j
  · rw [quI_e]; unfold gB; rw [dU_s]
  · rw [quI_k (by omega), quI_n (by decide), hg _ _ (by decide) (by omega)]; exact a3
  · rw [quI_k (by omega), quI_n (by decide), hg _ _ (by decide) (by omega)]; exact a4
  · rw [quI_n (by decide), quI_n (by decide), hg _ _ (by decide) (by omega)]; exact a5
  · rw [quI_n (by decide), quI_n (by decide), hg _ _ (by decide) (by omega)]; exact a6
  · rw [quI_n (by decide), quI_n (by decide), hg _ _ (by decide) (by omega)]; exact a7
  · rw [quI_n (by decide), quI_n (by decide), hg _ _ (by decide) (by omega)]; exact b1 j hj
  · rw [quI_n (by decide), quI_n (by decide), hg _ _ (by decide) (by omega)]; rw [hg _ _ (by decide) (by omega)] at hj; exact b2 j hj
  · rw [quI_n (by decide), quI_n (by decide), hg _ _ (by decide) (by omega)]; rw [hg _ _ (by decide) (by omega)] at hj; exact b3 j hj
theorem gB_M (hI : gI Y mc wc D P G) (h : gM S b Y mc wc D P G) {v : Nat} : gM (xuI (xuI S 1 (G 1 0) (nI v)) 0 1 (nI (G 1 0 + 1))) b Y mc wc D P (gB G v) := by
  have hg : ∀ c i, c ≠ 0 → ¬ (c = 1 ∧ i = 0) → gB G v c i = G c i := fun c i h1 h2 => by
    unfold gB
    rcases dU_cases (D := dU G 0 (G 1 0) v) (c := 1) (j := 0) (v := G 1 0 + 1) (c' := c) (j' := i) with ⟨_, a1, a2⟩ | ⟨e, _⟩
    · exact absurd ⟨a1, a2⟩ h2
    · rw [e, dU_c h1]
  refine gM_G (S := S) hI (fun k j hk => by rw [quI_k (fun e => hk (by unfold gT; omega)), quI_n (fun e => hk (by unfold gT; omega))]) (fun _ _ _ => rfl) ?_ (hg 1 6 (by decide) (by omega)) h
  obtain ⟨⟨a1, a2, a3, a4, a5, a6, a7⟩, b1, b2, b3⟩ := (⟨h.2.2.2.2.1, h.2.2.2.2.2.1⟩ : gM6 S G)
  refine ⟨⟨fun j hj => ?_, ?_, ?_, ?_, ?_, ?_, ?_⟩, fun j hj => ?_, fun j hj => ?_, fun j hj => ?_⟩
  · rw [quI_n (by decide), quI_s]
    unfold gB
    rw [dU_c (by decide), dU_r]
    split
    · rfl
    · exact a1 j hj
  · rw [quI_e]; unfold gB; rw [dU_s]
  · show S.2.1 0 66 = _; rw [hg _ _ (by decide) (by omega)]; exact a3
  · rw [quI_k (by omega), quI_n (by decide), hg _ _ (by decide) (by omega)]; exact a4
  · rw [quI_k (by omega), quI_n (by decide), hg _ _ (by decide) (by omega)]; exact a5
  · rw [quI_k (by omega), quI_n (by decide), hg _ _ (by decide) (by omega)]; exact a6
  · rw [quI_k (by omega), quI_n (by decide), hg _ _ (by decide) (by omega)]; exact a7
  · rw [quI_n (by decide), quI_n (by decide), hg _ _ (by decide) (by omega)]; exact b1 j hj
  · rw [quI_n (by decide), quI_n (by decide), hg _ _ (by decide) (by omega)]; rw [hg _ _ (by decide) (by omega)] at hj; exact b2 j hj
  · rw [quI_n (by decide), quI_n (by decide), hg _ _ (by decide) (by omega)]; rw [hg _ _ (by decide) (by omega)] at hj; exact b3 j hj
theorem gB_I (hI : gI Y mc wc D P G) {v : Nat} (hv : v < 256) (hl : G 1 0 < 1600) : gI Y mc wc D P (gB G v) := by
  have hg : ∀ c i, c ≠ 0 → ¬ (c = 1 ∧ i = 0) → gB G v c i = G c i := fun c i h1 h2 => by
    unfold gB
    rcases dU_cases (D := dU G 0 (G 1 0) v) (c := 1) (j := 0) (v := G 1 0 + 1) (c' := c) (j' := i) with ⟨_, a1, a2⟩ | ⟨e, _⟩
    · exact absurd ⟨a1, a2⟩ h2
    · rw [e, dU_c h1]
  obtain ⟨i1, i2, i3, i4, i5, i6, ⟨q1, q2, q3, q4, q5, q6, q7, q8, q9, q10⟩, i8⟩ := hI
  have e6 := hg 1 6 (by decide) (by omega)
  refine ⟨i1, i2, i3, i4, by rw [e6]; exact i5, by rw [e6]; exact i6, ⟨by rw [e6]; exact q1, ?_, fun i => ?_, ?_, ?_, ?_, fun i => ?_, fun i => ?_, ?_, ?_⟩, i8⟩
  · unfold gB; rw [dU_s]; omega
  · unfold gB
    rw [dU_c (by decide), dU_r]
    split
    · exact hv
    · exact q3 i
  all_goals rw [hg _ _ (by decide) (by omega)]
  · exact q4
  · exact q5
  · exact q6
  · exact q7 i
  · exact q8 i
  · exact q9
  · exact q10
def gW (G : Nat → Nat → Nat) (a : Int32) : Nat → Nat → Nat := gB (gB (gB (gB G (by8 a 24)) (by8 a 16)) (by8 a 8)) (by8 a 0)
theorem gB_10 {v : Nat} : gB G v 1 0 = G 1 0 + 1 := by unfold gB; rw [dU_s]
theorem c_putb (hb : b < 2) (h : gC S b Y mc wc D P G) (hl : G 1 0 < 1600) {a : Int32} {s q : Nat} (hs : s < 31) : fX11_putOnTape_L3 n 0 a (q + 1) (nI s) S = fX11_putOnTape_L3 n 0 a q (nI s + (-8 : Int32)) (xuI (xuI S 1 (G 1 0) (nI (by8 a s))) 0 1 (nI (G 1 0 + 1))) := by
  have c1 := h.2.2.2.2.2.1.2.1
  have e := (by8_ok a s).1
  show fX11_putOnTape_L3b _ _ _ _ _ _ = _
  simp (disch := (first | assumption | omega | exact hB _ _ | exact hYB _ _ | (simp only [yc, yd, sh, sv, ne_eq]; omega) | (simp (disch := omega) only [↓nm_1, ↓nm_2, nI_add, pk_mul, pk_sub, Nat.add_sub_cancel, qm1_add, qm2_add, nI_clamp, ni_0, ni_1, ni_255, ni_1600, c1, e]; refine qin_nI ?_ ?_ <;> first | omega | exact hB _ _ | exact hYB _ _) | (refine qin_nI ?_ ?_ <;> omega) | fail)) only [↓kc0_gd, ↓kc0_gI, ↓kc0_gM, ↓kc0_pI, ↓kc0_pM, ↓kc0_pZ, ↓kc0_gF0, ↓kc0_gF4, ↓kc0_gF5, ↓kc0_gF6, ↓kc0_gF7, ↓kc0_gF8, ↓kc0_gF9, ↓kc0_gF10, ↓kc0_gF11, ↓kc0_gF12, ↓kc0_gF14, ↓kc1_al, ↓kc1_as, ↓kc1_ln, ↓kc41_gd, ↓kc41_gI, ↓kc41_gM, ↓kc41_pI, ↓kc41_pM, ↓kc41_pZ, ↓kc41_gF0, ↓kc41_gF1, ↓kc42_ql, ↓kc43_al, ↓kc43_as, ↓kc43_ln, ↓kc148_gd, ↓kc148_gI, ↓kc148_gM, ↓kc148_pI, ↓kc148_pM, ↓kc148_pZ, ↓kc148_gF0, ↓kc148_gF1, ↓kc148_gF2, ↓kc148_gF4, ↓kc148_gF5, ↓kc154_al, ↓kc154_as, ↓kc154_ln, ↓kc155_al, ↓kc155_as, ↓kc155_ln, ↓kc160_gd, ↓kc160_gI, ↓kc160_gM, ↓kc160_pI, ↓kc160_pM, ↓kc160_pZ, ↓kc160_gF0, ↓kc160_gF1, ↓kc161_al, ↓kc161_as, ↓kc161_ln, ↓kc162_gd, ↓kc162_gI, ↓kc162_gM, ↓kc162_pI, ↓kc162_pM, ↓kc162_pZ, ↓kc162_gF0, ↓kc162_gF1, ↓kc163_gd, ↓kc163_gI, ↓kc163_gM, ↓kc163_pI, ↓kc163_pM, ↓kc163_pZ, ↓kc163_gF0, ↓kc164_gd, ↓kc164_gI, ↓kc164_gM, ↓kc164_pI, ↓kc164_pM, ↓kc164_pZ, ↓kc164_gF0, ↓kc164_gF1, ↓kc164_gF2, ↓kc164_gF3, ↓kc165_al, ↓kc165_as, ↓kc165_ln, ↓kc166_al, ↓kc166_as, ↓kc166_ln, ↓kc167_al, ↓kc167_as, ↓kc167_ln, ↓kc168_al, ↓kc168_as, ↓kc168_ln, ↓kc169_gd, ↓kc169_gI, ↓kc169_gM, ↓kc169_pI, ↓kc169_pM, ↓kc169_pZ, ↓kc169_gF0, ↓kc169_gF2, ↓kc170_al, ↓kc170_as, ↓kc170_ln, ↓kc171_gd, ↓kc171_gI, ↓kc171_gM, ↓kc171_pI, ↓kc171_pM, ↓kc171_pZ, ↓kc171_gF5, ↓kc171_gF6, ↓kc171_gF7, ↓kc171_gF8, ↓kc172_al, ↓kc172_as, ↓kc172_ln, ↓kc173_al, ↓kc173_as, ↓kc173_ln, ↓kc174_al, ↓kc174_as, ↓kc174_ln, ↓kc175_al, ↓kc175_as, ↓kc175_ln, ↓kc176_al, ↓kc176_as, ↓kc176_ln, ↓kc177_al, ↓kc177_as, ↓kc177_ln, ↓qb_so, ↓nm_1, ↓nm_2, ↓reduceIte, if_true, if_false, not_true_eq_false, not_false_eq_true, and_true, true_and, and_false, false_and, or_true, true_or, or_false, false_or, eq_self, ne_eq, quI_s, quI_n, quI2, quL1, quL2, quL3, quR1, quR2, quR3, nI_add, pk_mul, pk_sub, Nat.add_sub_cancel, qm1_add, qm2_add, nI_leI, nI_ltI, nI_eq, nI_m1, nI_m1', nI_clamp, nI_bit, nI_one_shl, nI_m1l, nI_m1lt, nI_m1lt', nI_m1le', oI_some, oI_none, ni_0, ni_1, ni_255, ni_1600, fX11_putOnTape_L3b, qle_t, qle_f, qlt_t, qlt_f, qeq_t, qeq_f, c1, e]
theorem m_putb (h : gM S b Y mc wc D P G) (hl : G 1 0 < 1600) {a : Int32} {s q : Nat} (hs : s < 31) : fX12_put_L3 n 0 a (q + 1) (nI s) S = fX12_put_L3 n 0 a q (nI s + (-8 : Int32)) (xuI (xuI S 1 (G 1 0) (nI (by8 a s))) 0 1 (nI (G 1 0 + 1))) := by
  have c1 := h.2.2.2.2.1.2.1
  have e := (by8_ok a s).1
  show fX12_put_L3b _ _ _ _ _ _ = _
  simp (disch := (first | assumption | omega | exact hB _ _ | exact hYB _ _ | (simp only [yc, yd, sh, sv, ne_eq]; omega) | (simp (disch := omega) only [↓nm_1, ↓nm_2, nI_add, pk_mul, pk_sub, Nat.add_sub_cancel, qm1_add, qm2_add, nI_clamp, ni_0, ni_1, ni_255, c1, e]; refine qin_nI ?_ ?_ <;> first | omega | exact hB _ _ | exact hYB _ _) | (refine qin_nI ?_ ?_ <;> omega) | fail)) only [↓km0_gd, ↓km0_gI, ↓km0_gM, ↓km0_pI, ↓km0_pM, ↓km0_pZ, ↓km0_gL, ↓km0_pL, ↓km0_gF0, ↓km1_al, ↓km1_as, ↓km1_ln, ↓qb_so, ↓nm_1, ↓nm_2, ↓reduceIte, if_true, if_false, not_true_eq_false, not_false_eq_true, and_true, true_and, and_false, false_and, or_true, true_or, or_false, false_or, eq_self, ne_eq, quI_s, quI_n, quI2, quL1, quL2, quL3, quR1, quR2, quR3, nI_add, pk_mul, pk_sub, Nat.add_sub_cancel, qm1_add, qm2_add, nI_leI, nI_ltI, nI_eq, nI_m1, nI_m1', nI_clamp, nI_bit, nI_one_shl, nI_m1l, nI_m1lt, nI_m1lt', nI_m1le', oI_some, oI_none, ni_0, ni_1, ni_255, fX12_put_L3b, qle_t, qle_f, qlt_t, qlt_f, qeq_t, qeq_f, c1, e]
theorem c_put (hb : b < 2) (hn : 2000 ≤ n) (h : gC S b Y mc wc D P G) (hl : G 1 0 + 4 ≤ 1600) (a : Int32) : ∃ Z, fX11_putOnTape n 0 a S = some Z ∧ gC Z b Y mc wc D P (gW G a) := by
  have g1 := gB_C (v := by8 a 24) hb h
  have g2 := gB_C (v := by8 a 16) hb g1
  have g3 := gB_C (v := by8 a 8) hb g2
  have g4 := gB_C (v := by8 a 0) hb g3
  obtain ⟨q, rfl⟩ : ∃ q, n = q + 1 + 1 + 1 + 1 + 1 := ⟨n - 5, by omega⟩
  refine ⟨_, ?_, g4⟩
  have s0 : nI 24 + (-8 : Int32) = nI 16 := by decide
  have s1 : nI 16 + (-8 : Int32) = nI 8 := by decide
  have s2 : nI 8 + (-8 : Int32) = nI 0 := by decide
  have hx : (nI 0 + (-8 : Int32) < nI 0) = True := by decide
  have e1 := c_putb (n := q + 1 + 1 + 1 + 1 + 1) (a := a) (s := 24) (q := q + 1 + 1 + 1 + 1) hb h (by omega) (by decide)
  have e2 := c_putb (n := q + 1 + 1 + 1 + 1 + 1) (a := a) (s := 16) (q := q + 1 + 1 + 1) hb g1 (by rw [gB_10]; omega) (by decide)
  have e3 := c_putb (n := q + 1 + 1 + 1 + 1 + 1) (a := a) (s := 8) (q := q + 1 + 1) hb g2 (by rw [gB_10, gB_10]; omega) (by decide)
  have e4 := c_putb (n := q + 1 + 1 + 1 + 1 + 1) (a := a) (s := 0) (q := q + 1) hb g3 (by rw [gB_10, gB_10, gB_10]; omega) (by decide)
  rw [s0, e2, s1, e3, s2, e4] at e1
  have e5 : ∀ V : xSt, fX11_putOnTape_L3 (q + 1 + 1 + 1 + 1 + 1) 0 a (q + 1) (nI 0 + (-8 : Int32)) V = some V := by
    intro V
    show fX11_putOnTape_L3b _ _ _ _ _ _ = _
    unfold fX11_putOnTape_L3b
    rw [if_pos (by decide)]
  rw [e5] at e1
  unfold fX11_putOnTape
  rw [kc0_gd]
  show (fX11_putOnTape_L3 _ 0 a _ (nI 24) S).bind _ = _
  rw [e1]
  rfl
theorem m_put (hn : 2000 ≤ n) (hI : gI Y mc wc D P G) (h : gM S b Y mc wc D P G) (hl : G 1 0 + 4 ≤ 1600) (a : Int32) : ∃ Z, fX12_put n 0 a S = some Z ∧ gM Z b Y mc wc D P (gW G a) ∧ gI Y mc wc D P (gW G a) ∧ gW G a 1 0 = G 1 0 + 4 := by
  have i1 := gB_I hI (by8_ok a 24).2 (by omega)
  have i2 := gB_I i1 (by8_ok a 16).2 (by rw [gB_10]; omega)
  have i3 := gB_I i2 (by8_ok a 8).2 (by rw [gB_10, gB_10]; omega)
  have i4 := gB_I i3 (by8_ok a 0).2 (by rw [gB_10, gB_10, gB_10]; omega)
  have g1 := gB_M (v := by8 a 24) hI h
  have g2 := gB_M (v := by8 a 16) i1 g1
  have g3 := gB_M (v := by8 a 8) i2 g2
  have g4 := gB_M (v := by8 a 0) i3 g3
  obtain ⟨q, rfl⟩ : ∃ q, n = q + 1 + 1 + 1 + 1 + 1 := ⟨n - 5, by omega⟩
  refine ⟨_, ?_, g4, i4, by unfold gW; rw [gB_10, gB_10, gB_10, gB_10]⟩
  have s0 : nI 24 + (-8 : Int32) = nI 16 := by decide
  have s1 : nI 16 + (-8 : Int32) = nI 8 := by decide
  have s2 : nI 8 + (-8 : Int32) = nI 0 := by decide
  have e1 := m_putb (n := q + 1 + 1 + 1 + 1 + 1) (a := a) (s := 24) (q := q + 1 + 1 + 1 + 1) h (by omega) (by decide)
  have e2 := m_putb (n := q + 1 + 1 + 1 + 1 + 1) (a := a) (s := 16) (q := q + 1 + 1 + 1) g1 (by rw [gB_10]; omega) (by decide)
  have e3 := m_putb (n := q + 1 + 1 + 1 + 1 + 1) (a := a) (s := 8) (q := q + 1 + 1) g2 (by rw [gB_10, gB_10]; omega) (by decide)
  have e4 := m_putb (n := q + 1 + 1 + 1 + 1 + 1) (a := a) (s := 0) (q := q + 1) g3 (by rw [gB_10, gB_10, gB_10]; omega) (by decide)
  rw [s0, e2, s1, e3, s2, e4] at e1
  have e5 : ∀ V : xSt, fX12_put_L3 (q + 1 + 1 + 1 + 1 + 1) 0 a (q + 1) (nI 0 + (-8 : Int32)) V = some V := by
    intro V
    show fX12_put_L3b _ _ _ _ _ _ = _
    unfold fX12_put_L3b
    rw [if_pos (by decide)]
  rw [e5] at e1
  unfold fX12_put
  rw [km0_gd]
  show (fX12_put_L3 _ 0 a _ (nI 24) S).bind _ = _
  rw [e1]
  rfl
theorem e_feed : xEq0 gR := by
  intro S1 S2 h a1 a2 a3 a4 a5
  obtain ⟨b, Y, mc, wc, D, P, G, hb, hC, hM, hI⟩ := id h
  have hn : 2000 ≤ xFU := by decide
  have c1 := hC.2.2.2.2.2.1.2.1
  have m1 := hM.2.2.2.2.1.2.1
  have hG := hI.2.2.2.2.2.2.1.2.1
  by_cases hl : G 1 0 + 20 ≤ 1600
  · obtain ⟨T1, t1, k1, i1, l1⟩ := m_put (n := xFU) hn hI hM (by omega) a1
    obtain ⟨T2, t2, k2, i2, l2⟩ := m_put (n := xFU) hn i1 k1 (by omega) a2
    obtain ⟨T3, t3, k3, i3, l3⟩ := m_put (n := xFU) hn i2 k2 (by omega) a3
    obtain ⟨T4, t4, k4, i4, l4⟩ := m_put (n := xFU) hn i3 k3 (by omega) a4
    obtain ⟨T5, t5, k5, i5, l5⟩ := m_put (n := xFU) hn i4 k4 (by omega) a5
    obtain ⟨Z1, z1, g1⟩ := c_put (n := xFU) hb hn hC (by omega) a1
    obtain ⟨Z2, z2, g2⟩ := c_put (n := xFU) hb hn g1 (by omega) a2
    obtain ⟨Z3, z3, g3⟩ := c_put (n := xFU) hb hn g2 (by omega) a3
    obtain ⟨Z4, z4, g4⟩ := c_put (n := xFU) hb hn g3 (by omega) a4
    obtain ⟨Z5, z5, g5⟩ := c_put (n := xFU) hb hn g4 (by omega) a5
    have c5 := g5.2.2.2.2.2.1.2.1
    have m5 := k5.2.2.2.2.1.2.1
    refine ⟨nI (gW (gW (gW (gW (gW G a1) a2) a3) a4) a5 1 0), Z5, T5, ?_, ?_, b, Y, mc, wc, D, P, _, hb, g5, k5, i5⟩
    · simp (disch := (first | assumption | omega | exact hB _ _ | exact hYB _ _ | (simp only [yc, yd, sh, sv, ne_eq]; omega) | (simp (disch := omega) only [↓nm_1, ↓nm_2, nI_add, pk_mul, pk_sub, Nat.add_sub_cancel, qm1_add, qm2_add, nI_clamp, ni_0, ni_1, ni_20, ni_1600, c1, hl, z1, z2, z3, z4, z5, c5]; refine qin_nI ?_ ?_ <;> first | omega | exact hB _ _ | exact hYB _ _) | (refine qin_nI ?_ ?_ <;> omega) | fail)) only [↓kc0_gd, ↓kc0_gI, ↓kc0_gM, ↓kc0_pI, ↓kc0_pM, ↓kc0_pZ, ↓kc0_gF0, ↓kc0_gF4, ↓kc0_gF5, ↓kc0_gF6, ↓kc0_gF7, ↓kc0_gF8, ↓kc0_gF9, ↓kc0_gF10, ↓kc0_gF11, ↓kc0_gF12, ↓kc0_gF14, ↓kc1_al, ↓kc1_as, ↓kc1_ln, ↓kc41_gd, ↓kc41_gI, ↓kc41_gM, ↓kc41_pI, ↓kc41_pM, ↓kc41_pZ, ↓kc41_gF0, ↓kc41_gF1, ↓kc42_ql, ↓kc43_al, ↓kc43_as, ↓kc43_ln, ↓kc148_gd, ↓kc148_gI, ↓kc148_gM, ↓kc148_pI, ↓kc148_pM, ↓kc148_pZ, ↓kc148_gF0, ↓kc148_gF1, ↓kc148_gF2, ↓kc148_gF4, ↓kc148_gF5, ↓kc154_al, ↓kc154_as, ↓kc154_ln, ↓kc155_al, ↓kc155_as, ↓kc155_ln, ↓kc160_gd, ↓kc160_gI, ↓kc160_gM, ↓kc160_pI, ↓kc160_pM, ↓kc160_pZ, ↓kc160_gF0, ↓kc160_gF1, ↓kc161_al, ↓kc161_as, ↓kc161_ln, ↓kc162_gd, ↓kc162_gI, ↓kc162_gM, ↓kc162_pI, ↓kc162_pM, ↓kc162_pZ, ↓kc162_gF0, ↓kc162_gF1, ↓kc163_gd, ↓kc163_gI, ↓kc163_gM, ↓kc163_pI, ↓kc163_pM, ↓kc163_pZ, ↓kc163_gF0, ↓kc164_gd, ↓kc164_gI, ↓kc164_gM, ↓kc164_pI, ↓kc164_pM, ↓kc164_pZ, ↓kc164_gF0, ↓kc164_gF1, ↓kc164_gF2, ↓kc164_gF3, ↓kc165_al, ↓kc165_as, ↓kc165_ln, ↓kc166_al, ↓kc166_as, ↓kc166_ln, ↓kc167_al, ↓kc167_as, ↓kc167_ln, ↓kc168_al, ↓kc168_as, ↓kc168_ln, ↓kc169_gd, ↓kc169_gI, ↓kc169_gM, ↓kc169_pI, ↓kc169_pM, ↓kc169_pZ, ↓kc169_gF0, ↓kc169_gF2, ↓kc170_al, ↓kc170_as, ↓kc170_ln, ↓kc171_gd, ↓kc171_gI, ↓kc171_gM, ↓kc171_pI, ↓kc171_pM, ↓kc171_pZ, ↓kc171_gF5, ↓kc171_gF6, ↓kc171_gF7, ↓kc171_gF8, ↓kc172_al, ↓kc172_as, ↓kc172_ln, ↓kc173_al, ↓kc173_as, ↓kc173_ln, ↓kc174_al, ↓kc174_as, ↓kc174_ln, ↓kc175_al, ↓kc175_as, ↓kc175_ln, ↓kc176_al, ↓kc176_as, ↓kc176_ln, ↓kc177_al, ↓kc177_as, ↓kc177_ln, ↓qb_so, ↓nm_1, ↓nm_2, ↓reduceIte, if_true, if_false, not_true_eq_false, not_false_eq_true, and_true, true_and, and_false, false_and, or_true, true_or, or_false, false_or, eq_self, ne_eq, quI_s, quI_n, quI2, quL1, quL2, quL3, quR1, quR2, quR3, nI_add, pk_mul, pk_sub, Nat.add_sub_cancel, qm1_add, qm2_add, nI_leI, nI_ltI, nI_eq, nI_m1, nI_m1', nI_clamp, nI_bit, nI_one_shl, nI_m1l, nI_m1lt, nI_m1lt', nI_m1le', oI_some, oI_none, ni_0, ni_1, ni_20, ni_1600, fX11_feed, qle_t, qle_f, qlt_t, qlt_f, qeq_t, qeq_f, c1, hl, z1, z2, z3, z4, z5, c5]
    · simp (disch := (first | assumption | omega | exact hB _ _ | exact hYB _ _ | (simp only [yc, yd, sh, sv, ne_eq]; omega) | (simp (disch := omega) only [↓nm_1, ↓nm_2, nI_add, pk_mul, pk_sub, Nat.add_sub_cancel, qm1_add, qm2_add, nI_clamp, ni_0, ni_1, ni_20, ni_1600, m1, hl, t1, t2, t3, t4, t5, m5]; refine qin_nI ?_ ?_ <;> first | omega | exact hB _ _ | exact hYB _ _) | (refine qin_nI ?_ ?_ <;> omega) | fail)) only [↓km0_gd, ↓km0_gI, ↓km0_gM, ↓km0_pI, ↓km0_pM, ↓km0_pZ, ↓km0_gL, ↓km0_pL, ↓qb_so, ↓nm_1, ↓nm_2, ↓reduceIte, if_true, if_false, not_true_eq_false, not_false_eq_true, and_true, true_and, and_false, false_and, or_true, true_or, or_false, false_or, eq_self, ne_eq, quI_s, quI_n, quI2, quL1, quL2, quL3, quR1, quR2, quR3, nI_add, pk_mul, pk_sub, Nat.add_sub_cancel, qm1_add, qm2_add, nI_leI, nI_ltI, nI_eq, nI_m1, nI_m1', nI_clamp, nI_bit, nI_one_shl, nI_m1l, nI_m1lt, nI_m1lt', nI_m1le', oI_some, oI_none, ni_0, ni_1, ni_20, ni_1600, fX12_feed, qle_t, qle_f, qlt_t, qlt_f, qeq_t, qeq_f, m1, hl, t1, t2, t3, t4, t5, m5]
  · obtain ⟨d1, g1⟩ := c_refuse (i := 0) hb hC (by decide)
    obtain ⟨e1, k1⟩ := m_refuse (i := 0) hI hM (by decide)
    refine ⟨qm1, _, _, ?_, ?_, b, Y, mc, wc, D, P, gRf G 0, hb, g1, k1, gI_rf hI⟩
    · simp (disch := (first | assumption | omega | exact hB _ _ | exact hYB _ _ | (simp only [yc, yd, sh, sv, ne_eq]; omega) | (simp (disch := omega) only [↓nm_1, ↓nm_2, nI_add, pk_mul, pk_sub, Nat.add_sub_cancel, qm1_add, qm2_add, nI_clamp, ni_0, ni_1, ni_20, ni_1600, c1, hl, d1]; refine qin_nI ?_ ?_ <;> first | omega | exact hB _ _ | exact hYB _ _) | (refine qin_nI ?_ ?_ <;> omega) | fail)) only [↓kc0_gd, ↓kc0_gI, ↓kc0_gM, ↓kc0_pI, ↓kc0_pM, ↓kc0_pZ, ↓kc0_gF0, ↓kc0_gF4, ↓kc0_gF5, ↓kc0_gF6, ↓kc0_gF7, ↓kc0_gF8, ↓kc0_gF9, ↓kc0_gF10, ↓kc0_gF11, ↓kc0_gF12, ↓kc0_gF14, ↓kc1_al, ↓kc1_as, ↓kc1_ln, ↓kc41_gd, ↓kc41_gI, ↓kc41_gM, ↓kc41_pI, ↓kc41_pM, ↓kc41_pZ, ↓kc41_gF0, ↓kc41_gF1, ↓kc42_ql, ↓kc43_al, ↓kc43_as, ↓kc43_ln, ↓kc148_gd, ↓kc148_gI, ↓kc148_gM, ↓kc148_pI, ↓kc148_pM, ↓kc148_pZ, ↓kc148_gF0, ↓kc148_gF1, ↓kc148_gF2, ↓kc148_gF4, ↓kc148_gF5, ↓kc154_al, ↓kc154_as, ↓kc154_ln, ↓kc155_al, ↓kc155_as, ↓kc155_ln, ↓kc160_gd, ↓kc160_gI, ↓kc160_gM, ↓kc160_pI, ↓kc160_pM, ↓kc160_pZ, ↓kc160_gF0, ↓kc160_gF1, ↓kc161_al, ↓kc161_as, ↓kc161_ln, ↓kc162_gd, ↓kc162_gI, ↓kc162_gM, ↓kc162_pI, ↓kc162_pM, ↓kc162_pZ, ↓kc162_gF0, ↓kc162_gF1, ↓kc163_gd, ↓kc163_gI, ↓kc163_gM, ↓kc163_pI, ↓kc163_pM, ↓kc163_pZ, ↓kc163_gF0, ↓kc164_gd, ↓kc164_gI, ↓kc164_gM, ↓kc164_pI, ↓kc164_pM, ↓kc164_pZ, ↓kc164_gF0, ↓kc164_gF1, ↓kc164_gF2, ↓kc164_gF3, ↓kc165_al, ↓kc165_as, ↓kc165_ln, ↓kc166_al, ↓kc166_as, ↓kc166_ln, ↓kc167_al, ↓kc167_as, ↓kc167_ln, ↓kc168_al, ↓kc168_as, ↓kc168_ln, ↓kc169_gd, ↓kc169_gI, ↓kc169_gM, ↓kc169_pI, ↓kc169_pM, ↓kc169_pZ, ↓kc169_gF0, ↓kc169_gF2, ↓kc170_al, ↓kc170_as, ↓kc170_ln, ↓kc171_gd, ↓kc171_gI, ↓kc171_gM, ↓kc171_pI, ↓kc171_pM, ↓kc171_pZ, ↓kc171_gF5, ↓kc171_gF6, ↓kc171_gF7, ↓kc171_gF8, ↓kc172_al, ↓kc172_as, ↓kc172_ln, ↓kc173_al, ↓kc173_as, ↓kc173_ln, ↓kc174_al, ↓kc174_as, ↓kc174_ln, ↓kc175_al, ↓kc175_as, ↓kc175_ln, ↓kc176_al, ↓kc176_as, ↓kc176_ln, ↓kc177_al, ↓kc177_as, ↓kc177_ln, ↓qb_so, ↓nm_1, ↓nm_2, ↓reduceIte, if_true, if_false, not_true_eq_false, not_false_eq_true, and_true, true_and, and_false, false_and, or_true, true_or, or_false, false_or, eq_self, ne_eq, quI_s, quI_n, quI2, quL1, quL2, quL3, quR1, quR2, quR3, nI_add, pk_mul, pk_sub, Nat.add_sub_cancel, qm1_add, qm2_add, nI_leI, nI_ltI, nI_eq, nI_m1, nI_m1', nI_clamp, nI_bit, nI_one_shl, nI_m1l, nI_m1lt, nI_m1lt', nI_m1le', oI_some, oI_none, ni_0, ni_1, ni_20, ni_1600, fX11_feed, qle_t, qle_f, qlt_t, qlt_f, qeq_t, qeq_f, c1, hl, d1]
    · simp (disch := (first | assumption | omega | exact hB _ _ | exact hYB _ _ | (simp only [yc, yd, sh, sv, ne_eq]; omega) | (simp (disch := omega) only [↓nm_1, ↓nm_2, nI_add, pk_mul, pk_sub, Nat.add_sub_cancel, qm1_add, qm2_add, nI_clamp, ni_0, ni_1, ni_20, ni_1600, m1, hl, e1]; refine qin_nI ?_ ?_ <;> first | omega | exact hB _ _ | exact hYB _ _) | (refine qin_nI ?_ ?_ <;> omega) | fail)) only [↓km0_gd, ↓km0_gI, ↓km0_gM, ↓km0_pI, ↓km0_pM, ↓km0_pZ, ↓km0_gL, ↓km0_pL, ↓qb_so, ↓nm_1, ↓nm_2, ↓reduceIte, if_true, if_false, not_true_eq_false, not_false_eq_true, and_true, true_and, and_false, false_and, or_true, true_or, or_false, false_or, eq_self, ne_eq, quI_s, quI_n, quI2, quL1, quL2, quL3, quR1, quR2, quR3, nI_add, pk_mul, pk_sub, Nat.add_sub_cancel, qm1_add, qm2_add, nI_leI, nI_ltI, nI_eq, nI_m1, nI_m1', nI_clamp, nI_bit, nI_one_shl, nI_m1l, nI_m1lt, nI_m1lt', nI_m1le', oI_some, oI_none, ni_0, ni_1, ni_20, ni_1600, fX12_feed, qle_t, qle_f, qlt_t, qlt_f, qeq_t, qeq_f, m1, hl, e1]
theorem e_end : xEq1 gR := by
  intro S1 S2 h a
  obtain ⟨b, Y, mc, wc, D, P, G, hb, hC, hM, hI⟩ := id h
  have c1 := hC.2.2.2.2.2.1.2.1
  have m1 := hM.2.2.2.2.1.2.1
  have hG := hI.2.2.2.2.2.2.1.2.1
  obtain ⟨d1, g1⟩ := c_refuse (i := 0) hb hC (by decide)
  obtain ⟨e1, k1⟩ := m_refuse (i := 0) hI hM (by decide)
  have hq : (qm1 < nI 0) = True := by decide
  rcases qargn a (G 1 0 + 1) (by omega) with ⟨i, hi, rfl⟩ | h0 | ⟨h0, h1, h2⟩
  · refine ⟨nI 1, xuI S1 0 1 (nI i), xuI S2 0 1 (nI i), ?_, ?_, b, Y, mc, wc, D, P, dU G 1 0 i, hb, ?_, ?_, ?_⟩
    · simp (disch := (first | assumption | omega | exact hB _ _ | exact hYB _ _ | (simp only [yc, yd, sh, sv, ne_eq]; omega) | (simp (disch := omega) only [↓nm_1, ↓nm_2, nI_add, pk_mul, pk_sub, Nat.add_sub_cancel, qm1_add, qm2_add, nI_clamp, ni_0, ni_1, c1]; refine qin_nI ?_ ?_ <;> first | omega | exact hB _ _ | exact hYB _ _) | (refine qin_nI ?_ ?_ <;> omega) | fail)) only [↓kc0_gd, ↓kc0_gI, ↓kc0_gM, ↓kc0_pI, ↓kc0_pM, ↓kc0_pZ, ↓kc0_gF0, ↓kc0_gF4, ↓kc0_gF5, ↓kc0_gF6, ↓kc0_gF7, ↓kc0_gF8, ↓kc0_gF9, ↓kc0_gF10, ↓kc0_gF11, ↓kc0_gF12, ↓kc0_gF14, ↓kc1_al, ↓kc1_as, ↓kc1_ln, ↓kc41_gd, ↓kc41_gI, ↓kc41_gM, ↓kc41_pI, ↓kc41_pM, ↓kc41_pZ, ↓kc41_gF0, ↓kc41_gF1, ↓kc42_ql, ↓kc43_al, ↓kc43_as, ↓kc43_ln, ↓kc148_gd, ↓kc148_gI, ↓kc148_gM, ↓kc148_pI, ↓kc148_pM, ↓kc148_pZ, ↓kc148_gF0, ↓kc148_gF1, ↓kc148_gF2, ↓kc148_gF4, ↓kc148_gF5, ↓kc154_al, ↓kc154_as, ↓kc154_ln, ↓kc155_al, ↓kc155_as, ↓kc155_ln, ↓kc160_gd, ↓kc160_gI, ↓kc160_gM, ↓kc160_pI, ↓kc160_pM, ↓kc160_pZ, ↓kc160_gF0, ↓kc160_gF1, ↓kc161_al, ↓kc161_as, ↓kc161_ln, ↓kc162_gd, ↓kc162_gI, ↓kc162_gM, ↓kc162_pI, ↓kc162_pM, ↓kc162_pZ, ↓kc162_gF0, ↓kc162_gF1, ↓kc163_gd, ↓kc163_gI, ↓kc163_gM, ↓kc163_pI, ↓kc163_pM, ↓kc163_pZ, ↓kc163_gF0, ↓kc164_gd, ↓kc164_gI, ↓kc164_gM, ↓kc164_pI, ↓kc164_pM, ↓kc164_pZ, ↓kc164_gF0, ↓kc164_gF1, ↓kc164_gF2, ↓kc164_gF3, ↓kc165_al, ↓kc165_as, ↓kc165_ln, ↓kc166_al, ↓kc166_as, ↓kc166_ln, ↓kc167_al, ↓kc167_as, ↓kc167_ln, ↓kc168_al, ↓kc168_as, ↓kc168_ln, ↓kc169_gd, ↓kc169_gI, ↓kc169_gM, ↓kc169_pI, ↓kc169_pM, ↓kc169_pZ, ↓kc169_gF0, ↓kc169_gF2, ↓kc170_al, ↓kc170_as, ↓kc170_ln, ↓kc171_gd, ↓kc171_gI, ↓kc171_gM, ↓kc171_pI, ↓kc171_pM, ↓kc171_pZ, ↓kc171_gF5, ↓kc171_gF6, ↓kc171_gF7, ↓kc171_gF8, ↓kc172_al, ↓kc172_as, ↓kc172_ln, ↓kc173_al, ↓kc173_as, ↓kc173_ln, ↓kc174_al, ↓kc174_as, ↓kc174_ln, ↓kc175_al, ↓kc175_as, ↓kc175_ln, ↓kc176_al, ↓kc176_as, ↓kc176_ln, ↓kc177_al, ↓kc177_as, ↓kc177_ln, ↓qb_so, ↓nm_1, ↓nm_2, ↓reduceIte, if_true, if_false, not_true_eq_false, not_false_eq_true, and_true, true_and, and_false, false_and, or_true, true_or, or_false, false_or, eq_self, ne_eq, quI_s, quI_n, quI2, quL1, quL2, quL3, quR1, quR2, quR3, nI_add, pk_mul, pk_sub, Nat.add_sub_cancel, qm1_add, qm2_add, nI_leI, nI_ltI, nI_eq, nI_m1, nI_m1', nI_clamp, nI_bit, nI_one_shl, nI_m1l, nI_m1lt, nI_m1lt', nI_m1le', oI_some, oI_none, ni_0, ni_1, fX11_end, qle_t, qle_f, qlt_t, qlt_f, qeq_t, qeq_f, c1]
    · simp (disch := (first | assumption | omega | exact hB _ _ | exact hYB _ _ | (simp only [yc, yd, sh, sv, ne_eq]; omega) | (simp (disch := omega) only [↓nm_1, ↓nm_2, nI_add, pk_mul, pk_sub, Nat.add_sub_cancel, qm1_add, qm2_add, nI_clamp, ni_0, ni_1, m1]; refine qin_nI ?_ ?_ <;> first | omega | exact hB _ _ | exact hYB _ _) | (refine qin_nI ?_ ?_ <;> omega) | fail)) only [↓km0_gd, ↓km0_gI, ↓km0_gM, ↓km0_pI, ↓km0_pM, ↓km0_pZ, ↓km0_gL, ↓km0_pL, ↓qb_so, ↓nm_1, ↓nm_2, ↓reduceIte, if_true, if_false, not_true_eq_false, not_false_eq_true, and_true, true_and, and_false, false_and, or_true, true_or, or_false, false_or, eq_self, ne_eq, quI_s, quI_n, quI2, quL1, quL2, quL3, quR1, quR2, quR3, nI_add, pk_mul, pk_sub, Nat.add_sub_cancel, qm1_add, qm2_add, nI_leI, nI_ltI, nI_eq, nI_m1, nI_m1', nI_clamp, nI_bit, nI_one_shl, nI_m1l, nI_m1lt, nI_m1lt', nI_m1le', oI_some, oI_none, ni_0, ni_1, fX12_end, qle_t, qle_f, qlt_t, qlt_f, qeq_t, qeq_f, m1]
    · refine gC_G hb (fun k j hk => quI_k (fun e => hk (by unfold gS; omega))) rfl ?_ (by rw [dU_j (by decide)]) hC
      obtain ⟨⟨a1, a2, a3, a4, a5, a6, a7⟩, b1, b2, b3⟩ := (⟨hC.2.2.2.2.2.1, hC.2.2.2.2.2.2.1⟩ : gC6 S1 G)
      refine ⟨⟨fun j => a1 j, ?_, ?_, ?_, a5, a6, a7⟩, fun j hj => b1 j hj, fun j hj => b2 j hj, fun j hj => b3 j hj⟩
      · rw [quI_e, dU_s]
      · rw [quI_k (by omega)]; exact a3
      · rw [quI_k (by omega)]; exact a4
    · refine gM_G (S := S2) hI (fun k j hk => quI_k (fun e => hk (by unfold gT; omega))) (fun _ _ _ => rfl) ?_ (by rw [dU_j (by decide)]) hM
      obtain ⟨⟨a1, a2, a3, a4, a5, a6, a7⟩, b1, b2, b3⟩ := (⟨hM.2.2.2.2.1, hM.2.2.2.2.2.1⟩ : gM6 S2 G)
      refine ⟨⟨fun j hj => a1 j hj, ?_, a3, ?_, ?_, ?_, ?_⟩, fun j hj => b1 j hj, fun j hj => b2 j hj, fun j hj => b3 j hj⟩
      · rw [quI_e, dU_s]
      · rw [quI_k (by omega)]; exact a4
      · rw [quI_k (by omega)]; exact a5
      · rw [quI_k (by omega)]; exact a6
      · rw [quI_k (by omega)]; exact a7
    · obtain ⟨i1, i2, i3, i4, i5, i6, ⟨q1, q2, q3, q4, q5⟩, i8⟩ := hI
      exact ⟨i1, i2, i3, i4, i5, i6, ⟨q1, by rw [dU_s]; omega, q3, q4, q5⟩, i8⟩
  · refine ⟨nI 0, _, _, ?_, ?_, b, Y, mc, wc, D, P, gRf G 0, hb, g1, k1, gI_rf hI⟩
    · simp (disch := (first | assumption | omega | exact hB _ _ | exact hYB _ _ | (simp only [yc, yd, sh, sv, ne_eq]; omega) | (simp (disch := omega) only [↓nm_1, ↓nm_2, nI_add, pk_mul, pk_sub, Nat.add_sub_cancel, qm1_add, qm2_add, nI_clamp, ni_0, ni_1, h0, d1]; refine qin_nI ?_ ?_ <;> first | omega | exact hB _ _ | exact hYB _ _) | (refine qin_nI ?_ ?_ <;> omega) | fail)) only [↓kc0_gd, ↓kc0_gI, ↓kc0_gM, ↓kc0_pI, ↓kc0_pM, ↓kc0_pZ, ↓kc0_gF0, ↓kc0_gF4, ↓kc0_gF5, ↓kc0_gF6, ↓kc0_gF7, ↓kc0_gF8, ↓kc0_gF9, ↓kc0_gF10, ↓kc0_gF11, ↓kc0_gF12, ↓kc0_gF14, ↓kc1_al, ↓kc1_as, ↓kc1_ln, ↓kc41_gd, ↓kc41_gI, ↓kc41_gM, ↓kc41_pI, ↓kc41_pM, ↓kc41_pZ, ↓kc41_gF0, ↓kc41_gF1, ↓kc42_ql, ↓kc43_al, ↓kc43_as, ↓kc43_ln, ↓kc148_gd, ↓kc148_gI, ↓kc148_gM, ↓kc148_pI, ↓kc148_pM, ↓kc148_pZ, ↓kc148_gF0, ↓kc148_gF1, ↓kc148_gF2, ↓kc148_gF4, ↓kc148_gF5, ↓kc154_al, ↓kc154_as, ↓kc154_ln, ↓kc155_al, ↓kc155_as, ↓kc155_ln, ↓kc160_gd, ↓kc160_gI, ↓kc160_gM, ↓kc160_pI, ↓kc160_pM, ↓kc160_pZ, ↓kc160_gF0, ↓kc160_gF1, ↓kc161_al, ↓kc161_as, ↓kc161_ln, ↓kc162_gd, ↓kc162_gI, ↓kc162_gM, ↓kc162_pI, ↓kc162_pM, ↓kc162_pZ, ↓kc162_gF0, ↓kc162_gF1, ↓kc163_gd, ↓kc163_gI, ↓kc163_gM, ↓kc163_pI, ↓kc163_pM, ↓kc163_pZ, ↓kc163_gF0, ↓kc164_gd, ↓kc164_gI, ↓kc164_gM, ↓kc164_pI, ↓kc164_pM, ↓kc164_pZ, ↓kc164_gF0, ↓kc164_gF1, ↓kc164_gF2, ↓kc164_gF3, ↓kc165_al, ↓kc165_as, ↓kc165_ln, ↓kc166_al, ↓kc166_as, ↓kc166_ln, ↓kc167_al, ↓kc167_as, ↓kc167_ln, ↓kc168_al, ↓kc168_as, ↓kc168_ln, ↓kc169_gd, ↓kc169_gI, ↓kc169_gM, ↓kc169_pI, ↓kc169_pM, ↓kc169_pZ, ↓kc169_gF0, ↓kc169_gF2, ↓kc170_al, ↓kc170_as, ↓kc170_ln, ↓kc171_gd, ↓kc171_gI, ↓kc171_gM, ↓kc171_pI, ↓kc171_pM, ↓kc171_pZ, ↓kc171_gF5, ↓kc171_gF6, ↓kc171_gF7, ↓kc171_gF8, ↓kc172_al, ↓kc172_as, ↓kc172_ln, ↓kc173_al, ↓kc173_as, ↓kc173_ln, ↓kc174_al, ↓kc174_as, ↓kc174_ln, ↓kc175_al, ↓kc175_as, ↓kc175_ln, ↓kc176_al, ↓kc176_as, ↓kc176_ln, ↓kc177_al, ↓kc177_as, ↓kc177_ln, ↓qb_so, ↓nm_1, ↓nm_2, ↓reduceIte, if_true, if_false, not_true_eq_false, not_false_eq_true, and_true, true_and, and_false, false_and, or_true, true_or, or_false, false_or, eq_self, ne_eq, quI_s, quI_n, quI2, quL1, quL2, quL3, quR1, quR2, quR3, nI_add, pk_mul, pk_sub, Nat.add_sub_cancel, qm1_add, qm2_add, nI_leI, nI_ltI, nI_eq, nI_m1, nI_m1', nI_clamp, nI_bit, nI_one_shl, nI_m1l, nI_m1lt, nI_m1lt', nI_m1le', oI_some, oI_none, ni_0, ni_1, fX11_end, fX11_turnDown, qle_t, qle_f, qlt_t, qlt_f, qeq_t, qeq_f, h0, d1]
    · simp (disch := (first | assumption | omega | exact hB _ _ | exact hYB _ _ | (simp only [yc, yd, sh, sv, ne_eq]; omega) | (simp (disch := omega) only [↓nm_1, ↓nm_2, nI_add, pk_mul, pk_sub, Nat.add_sub_cancel, qm1_add, qm2_add, nI_clamp, ni_0, ni_1, h0, e1, hq]; refine qin_nI ?_ ?_ <;> first | omega | exact hB _ _ | exact hYB _ _) | (refine qin_nI ?_ ?_ <;> omega) | fail)) only [↓km0_gd, ↓km0_gI, ↓km0_gM, ↓km0_pI, ↓km0_pM, ↓km0_pZ, ↓km0_gL, ↓km0_pL, ↓qb_so, ↓nm_1, ↓nm_2, ↓reduceIte, if_true, if_false, not_true_eq_false, not_false_eq_true, and_true, true_and, and_false, false_and, or_true, true_or, or_false, false_or, eq_self, ne_eq, quI_s, quI_n, quI2, quL1, quL2, quL3, quR1, quR2, quR3, nI_add, pk_mul, pk_sub, Nat.add_sub_cancel, qm1_add, qm2_add, nI_leI, nI_ltI, nI_eq, nI_m1, nI_m1', nI_clamp, nI_bit, nI_one_shl, nI_m1l, nI_m1lt, nI_m1lt', nI_m1le', oI_some, oI_none, ni_0, ni_1, fX12_end, qle_t, qle_f, qlt_t, qlt_f, qeq_t, qeq_f, h0, e1, hq]
  · have h3 : (a ≤ nI (G 1 0)) = False := eq_false (fun hh => by
      rw [Int32.le_iff_toInt_le, nI_toInt (by omega)] at hh h1
      omega)
    refine ⟨nI 0, _, _, ?_, ?_, b, Y, mc, wc, D, P, gRf G 0, hb, g1, k1, gI_rf hI⟩
    · simp (disch := (first | assumption | omega | exact hB _ _ | exact hYB _ _ | (simp only [yc, yd, sh, sv, ne_eq]; omega) | (simp (disch := omega) only [↓nm_1, ↓nm_2, nI_add, pk_mul, pk_sub, Nat.add_sub_cancel, qm1_add, qm2_add, nI_clamp, ni_0, ni_1, h0, c1, h3, d1]; refine qin_nI ?_ ?_ <;> first | omega | exact hB _ _ | exact hYB _ _) | (refine qin_nI ?_ ?_ <;> omega) | fail)) only [↓kc0_gd, ↓kc0_gI, ↓kc0_gM, ↓kc0_pI, ↓kc0_pM, ↓kc0_pZ, ↓kc0_gF0, ↓kc0_gF4, ↓kc0_gF5, ↓kc0_gF6, ↓kc0_gF7, ↓kc0_gF8, ↓kc0_gF9, ↓kc0_gF10, ↓kc0_gF11, ↓kc0_gF12, ↓kc0_gF14, ↓kc1_al, ↓kc1_as, ↓kc1_ln, ↓kc41_gd, ↓kc41_gI, ↓kc41_gM, ↓kc41_pI, ↓kc41_pM, ↓kc41_pZ, ↓kc41_gF0, ↓kc41_gF1, ↓kc42_ql, ↓kc43_al, ↓kc43_as, ↓kc43_ln, ↓kc148_gd, ↓kc148_gI, ↓kc148_gM, ↓kc148_pI, ↓kc148_pM, ↓kc148_pZ, ↓kc148_gF0, ↓kc148_gF1, ↓kc148_gF2, ↓kc148_gF4, ↓kc148_gF5, ↓kc154_al, ↓kc154_as, ↓kc154_ln, ↓kc155_al, ↓kc155_as, ↓kc155_ln, ↓kc160_gd, ↓kc160_gI, ↓kc160_gM, ↓kc160_pI, ↓kc160_pM, ↓kc160_pZ, ↓kc160_gF0, ↓kc160_gF1, ↓kc161_al, ↓kc161_as, ↓kc161_ln, ↓kc162_gd, ↓kc162_gI, ↓kc162_gM, ↓kc162_pI, ↓kc162_pM, ↓kc162_pZ, ↓kc162_gF0, ↓kc162_gF1, ↓kc163_gd, ↓kc163_gI, ↓kc163_gM, ↓kc163_pI, ↓kc163_pM, ↓kc163_pZ, ↓kc163_gF0, ↓kc164_gd, ↓kc164_gI, ↓kc164_gM, ↓kc164_pI, ↓kc164_pM, ↓kc164_pZ, ↓kc164_gF0, ↓kc164_gF1, ↓kc164_gF2, ↓kc164_gF3, ↓kc165_al, ↓kc165_as, ↓kc165_ln, ↓kc166_al, ↓kc166_as, ↓kc166_ln, ↓kc167_al, ↓kc167_as, ↓kc167_ln, ↓kc168_al, ↓kc168_as, ↓kc168_ln, ↓kc169_gd, ↓kc169_gI, ↓kc169_gM, ↓kc169_pI, ↓kc169_pM, ↓kc169_pZ, ↓kc169_gF0, ↓kc169_gF2, ↓kc170_al, ↓kc170_as, ↓kc170_ln, ↓kc171_gd, ↓kc171_gI, ↓kc171_gM, ↓kc171_pI, ↓kc171_pM, ↓kc171_pZ, ↓kc171_gF5, ↓kc171_gF6, ↓kc171_gF7, ↓kc171_gF8, ↓kc172_al, ↓kc172_as, ↓kc172_ln, ↓kc173_al, ↓kc173_as, ↓kc173_ln, ↓kc174_al, ↓kc174_as, ↓kc174_ln, ↓kc175_al, ↓kc175_as, ↓kc175_ln, ↓kc176_al, ↓kc176_as, ↓kc176_ln, ↓kc177_al, ↓kc177_as, ↓kc177_ln, ↓qb_so, ↓nm_1, ↓nm_2, ↓reduceIte, if_true, if_false, not_true_eq_false, not_false_eq_true, and_true, true_and, and_false, false_and, or_true, true_or, or_false, false_or, eq_self, ne_eq, quI_s, quI_n, quI2, quL1, quL2, quL3, quR1, quR2, quR3, nI_add, pk_mul, pk_sub, Nat.add_sub_cancel, qm1_add, qm2_add, nI_leI, nI_ltI, nI_eq, nI_m1, nI_m1', nI_clamp, nI_bit, nI_one_shl, nI_m1l, nI_m1lt, nI_m1lt', nI_m1le', oI_some, oI_none, ni_0, ni_1, fX11_end, fX11_turnDown, qle_t, qle_f, qlt_t, qlt_f, qeq_t, qeq_f, h0, c1, h3, d1]
    · simp (disch := (first | assumption | omega | exact hB _ _ | exact hYB _ _ | (simp only [yc, yd, sh, sv, ne_eq]; omega) | (simp (disch := omega) only [↓nm_1, ↓nm_2, nI_add, pk_mul, pk_sub, Nat.add_sub_cancel, qm1_add, qm2_add, nI_clamp, ni_0, ni_1, h0, m1, h3, e1, hq]; refine qin_nI ?_ ?_ <;> first | omega | exact hB _ _ | exact hYB _ _) | (refine qin_nI ?_ ?_ <;> omega) | fail)) only [↓km0_gd, ↓km0_gI, ↓km0_gM, ↓km0_pI, ↓km0_pM, ↓km0_pZ, ↓km0_gL, ↓km0_pL, ↓qb_so, ↓nm_1, ↓nm_2, ↓reduceIte, if_true, if_false, not_true_eq_false, not_false_eq_true, and_true, true_and, and_false, false_and, or_true, true_or, or_false, false_or, eq_self, ne_eq, quI_s, quI_n, quI2, quL1, quL2, quL3, quR1, quR2, quR3, nI_add, pk_mul, pk_sub, Nat.add_sub_cancel, qm1_add, qm2_add, nI_leI, nI_ltI, nI_eq, nI_m1, nI_m1', nI_clamp, nI_bit, nI_one_shl, nI_m1l, nI_m1lt, nI_m1lt', nI_m1le', oI_some, oI_none, ni_0, ni_1, fX12_end, qle_t, qle_f, qlt_t, qlt_f, qeq_t, qeq_f, h0, m1, h3, e1, hq]
end Q47

