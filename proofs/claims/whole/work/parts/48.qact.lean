/-! ===== an act begins: what was is kept ===== -/
def gPk (k j : Nat) : Prop := (44 ≤ k ∧ k ≤ 143) ∨ (k = 41 ∧ (j = 2 ∨ j = 3)) ∨ (k = 148 ∧ (j = 7 ∨ j = 11))
def pP (P : Nat → Nat → Nat → Nat) (G D : Nat → Nat → Nat) : Nat → Nat → Nat → Nat := fun i => if G 1 6 < 20 then (if i = G 1 6 then D else P i) else (if i = 19 then D else P (i + 1))
def pG (G : Nat → Nat → Nat) : Nat → Nat → Nat := dU G 1 6 (if G 1 6 + 1 < 20 then G 1 6 + 1 else 20)
section Q48
variable {S Z V : xSt} {b n : Nat} {Y D : Nat → Nat → Nat} {mc wc : List (Nat × Nat)} {R row : Nat → Nat} {P P' : Nat → Nat → Nat → Nat} {G G' : Nat → Nat → Nat}
theorem gC_P (hb : b < 2) (hf : ∀ k j, ¬ gPk k j → Z.1 k j = S.1 k j) (h2 : Z.2 = S.2) (hp : ∃ c0, c0 < 20 ∧ Z.1 41 2 = nI ((c0 + G' 1 6) % 20) ∧ Z.1 41 3 = nI (G' 1 6) ∧ ∀ i, i < G' 1 6 → cSv Z ((c0 + i) % 20) (P' i)) (h0 : Z.1 148 7 = nI 0) (h1 : Z.1 148 11 = nI 0) (hz : ∀ i, i < 20 → cZ Z (sv i 0)) (hG : ∀ c j, ¬ (c = 1 ∧ j = 6) → G' c j = G c j) (h : gC S b Y mc wc D P G) : gC Z b Y mc wc D P' G' := by
  obtain ⟨⟨y1, y2, y3, y4, y5, y6, y7, y8⟩, ⟨h2a, h2b, h2c⟩, ⟨d1, d2, d3⟩, ⟨Y', h4a, h4b, h4c⟩, _, ⟨a1, a2, a3, a4, a5, a6, a7⟩, ⟨b1, b2, b3⟩, _, ⟨h9a, h9b, h9c, ⟨T, h9d, h9e⟩, h9f⟩, h10⟩ := h
  have e : ∀ k, k ≤ 40 ∨ k = 43 ∨ (144 ≤ k ∧ k ≠ 148) → Z.1 k = S.1 k := fun k a => funext fun j => hf k j (by unfold gPk; omega)
  have ey : ∀ b' c, b' < 2 → c ≤ 16 → Z.1 (yc b' c) = S.1 (yc b' c) := fun b' c a1 a2 => e _ (by unfold yc; omega)
  have ed : ∀ w c, w < 2 → c ≤ 4 → Z.1 (yd w c) = S.1 (yd w c) := fun w c a1 a2 => e _ (by unfold yd; omega)
  refine ⟨⟨fun c j hc => by rw [ey b c hb (by omega)]; exact y1 c j hc, fun j => by rw [ey b 14 hb (by decide)]; exact y2 j, y3, y4, y5, y6, by rw [ey b 15 hb (by decide)]; exact y7, by rw [ey b 15 hb (by decide)]; exact y8⟩, ⟨by rw [h2]; exact h2a, by rw [h2]; exact h2b, by rw [h2]; exact h2c⟩, ⟨fun j hj => by rw [ed 0 0 (by decide) (by decide)]; exact d1 j hj, fun c j hc hc2 => by rw [ed 0 c (by decide) hc2]; exact d2 c j hc hc2, fun h0 => ⟨by rw [ed 0 0 (by decide) (by decide)]; exact (d3 h0).1, fun k => by rw [e 43 (by omega)]; exact (d3 h0).2 k⟩⟩, ⟨Y', h4a, fun c j hc => by rw [ey _ c (by omega) (by omega)]; exact h4b c j hc, fun j => by rw [ey _ 14 (by omega) (by decide)]; exact h4c j⟩, hp, ⟨fun i => by rw [e 1 (by omega), hG _ _ (by omega)]; exact a1 i, by rw [e 0 (by omega), hG _ _ (by omega)]; exact a2, by rw [e 0 (by omega), hG _ _ (by omega)]; exact a3, by rw [e 0 (by omega), hG _ _ (by omega)]; exact a4, by rw [e 169 (by omega), hG _ _ (by omega)]; exact a5, by rw [e 160 (by omega), hG _ _ (by omega)]; exact a6, by rw [e 160 (by omega), hG _ _ (by omega)]; exact a7⟩, ⟨fun i hi => by rw [e 177 (by omega), hG _ _ (by omega)]; exact b1 i hi, fun i hi => by rw [hG _ _ (by omega)] at hi; rw [e 176 (by omega), hG _ _ (by omega)]; exact b2 i hi, fun i hi => by rw [hG _ _ (by omega)] at hi; rw [e 170 (by omega), hG _ _ (by omega)]; exact b3 i hi⟩, ⟨⟨0, h0, Or.inl rfl⟩, ⟨0, h1, Or.inl rfl⟩⟩, ⟨fun c j hc hc2 hj => ?_, fun c j hc hc2 hj => ?_, hz, ⟨T, fun c j hc hc2 => ?_, h9e⟩, fun w hw => ?_⟩, fun k hk => by rw [e 161 (by omega)]; exact h10 k hk⟩
  · have := ed 1 c (by decide) hc2; rw [yd_c] at this; rw [this]; exact h9a c j hc hc2 hj
  · rw [e _ (by omega)]; exact h9b c j hc hc2 hj
  · rw [e _ (by omega)]; exact h9d c j hc hc2
  · obtain ⟨u, u', a1, a2, a3, a4⟩ := h9f w hw
    have : Z.1 (sh w 0) = S.1 (sh w 0) := e _ (by unfold sh; omega)
    exact ⟨u, u', a1, a2, by rw [this]; exact a3, by rw [this]; exact a4⟩
theorem pG_6 : pG G 1 6 = (if G 1 6 + 1 < 20 then G 1 6 + 1 else 20) := by unfold pG; rw [dU_s]
theorem c_begin (hb : b < 2) (h : gC S b Y mc wc D P G) (hI : gI Y mc wc D P G) : ∃ Z, fX11_beginAct 0 S = some Z ∧ gC Z b Y mc wc D (pP P G D) (pG G) ∧ Z.1 148 7 = nI 0 ∧ Z.1 148 11 = nI 0 := by
  obtain ⟨c0, hc0, h41, h43, hsv⟩ := h.2.2.2.2.1
  have h20 := hI.2.2.2.2.2.2.1.1
  have hx : (c0 + G 1 6) % 20 < 20 := Nat.mod_lt _ (by decide)
  obtain ⟨Z1, e1, f1, z0, zc⟩ := c_copy (S := S) (isYd_sv hx) (isYd_yd (w := 0) (by decide)) (by unfold yd sv; omega)
  have k41 : ∀ j, Z1.1 41 j = S.1 41 j := fun j => by rw [f1.1 41 (by unfold sv; omega)]
  have em := pk_rem (a := (c0 + G 1 6) % 20 + 1) (d := 20) (by omega) (by decide) (by decide)
  have ee : fX11_beginAct 0 S = some (xuI (xuI (xuI (xuI Z1 41 2 (nI (((c0 + G 1 6) % 20 + 1) % 20))) 41 3 (nI (if G 1 6 + 1 < 20 then G 1 6 + 1 else 20))) 148 7 (nI 0)) 148 11 (nI 0)) := by
    have k2 := k41 2
    have k3 := k41 3
    rw [h41] at k2
    rw [h43] at k3
    simp (disch := (first | assumption | omega | exact hB _ _ | exact hYB _ _ | (simp only [yc, yd, sh, sv, ne_eq]; omega) | (simp (disch := omega) only [↓nm_1, ↓nm_2, nI_add, pk_mul, pk_sub, Nat.add_sub_cancel, qm1_add, qm2_add, nI_clamp, ni_0, ni_1, ni_20, h41, e1, k2, k3, em, nI_ite]; refine qin_nI ?_ ?_ <;> first | omega | exact hB _ _ | exact hYB _ _) | (refine qin_nI ?_ ?_ <;> omega) | fail)) only [↓kc0_gd, ↓kc0_gI, ↓kc0_gM, ↓kc0_pI, ↓kc0_pM, ↓kc0_pZ, ↓kc0_gF0, ↓kc0_gF4, ↓kc0_gF5, ↓kc0_gF6, ↓kc0_gF7, ↓kc0_gF8, ↓kc0_gF9, ↓kc0_gF10, ↓kc0_gF11, ↓kc0_gF12, ↓kc0_gF14, ↓kc1_al, ↓kc1_as, ↓kc1_ln, ↓kc41_gd, ↓kc41_gI, ↓kc41_gM, ↓kc41_pI, ↓kc41_pM, ↓kc41_pZ, ↓kc41_gF0, ↓kc41_gF1, ↓kc42_ql, ↓kc43_al, ↓kc43_as, ↓kc43_ln, ↓kc148_gd, ↓kc148_gI, ↓kc148_gM, ↓kc148_pI, ↓kc148_pM, ↓kc148_pZ, ↓kc148_gF0, ↓kc148_gF1, ↓kc148_gF2, ↓kc148_gF4, ↓kc148_gF5, ↓kc154_al, ↓kc154_as, ↓kc154_ln, ↓kc155_al, ↓kc155_as, ↓kc155_ln, ↓kc160_gd, ↓kc160_gI, ↓kc160_gM, ↓kc160_pI, ↓kc160_pM, ↓kc160_pZ, ↓kc160_gF0, ↓kc160_gF1, ↓kc161_al, ↓kc161_as, ↓kc161_ln, ↓kc162_gd, ↓kc162_gI, ↓kc162_gM, ↓kc162_pI, ↓kc162_pM, ↓kc162_pZ, ↓kc162_gF0, ↓kc162_gF1, ↓kc163_gd, ↓kc163_gI, ↓kc163_gM, ↓kc163_pI, ↓kc163_pM, ↓kc163_pZ, ↓kc163_gF0, ↓kc164_gd, ↓kc164_gI, ↓kc164_gM, ↓kc164_pI, ↓kc164_pM, ↓kc164_pZ, ↓kc164_gF0, ↓kc164_gF1, ↓kc164_gF2, ↓kc164_gF3, ↓kc165_al, ↓kc165_as, ↓kc165_ln, ↓kc166_al, ↓kc166_as, ↓kc166_ln, ↓kc167_al, ↓kc167_as, ↓kc167_ln, ↓kc168_al, ↓kc168_as, ↓kc168_ln, ↓kc169_gd, ↓kc169_gI, ↓kc169_gM, ↓kc169_pI, ↓kc169_pM, ↓kc169_pZ, ↓kc169_gF0, ↓kc169_gF2, ↓kc170_al, ↓kc170_as, ↓kc170_ln, ↓kc171_gd, ↓kc171_gI, ↓kc171_gM, ↓kc171_pI, ↓kc171_pM, ↓kc171_pZ, ↓kc171_gF5, ↓kc171_gF6, ↓kc171_gF7, ↓kc171_gF8, ↓kc172_al, ↓kc172_as, ↓kc172_ln, ↓kc173_al, ↓kc173_as, ↓kc173_ln, ↓kc174_al, ↓kc174_as, ↓kc174_ln, ↓kc175_al, ↓kc175_as, ↓kc175_ln, ↓kc176_al, ↓kc176_as, ↓kc176_ln, ↓kc177_al, ↓kc177_as, ↓kc177_ln, ↓qb_so, ↓nm_1, ↓nm_2, ↓reduceIte, if_true, if_false, not_true_eq_false, not_false_eq_true, and_true, true_and, and_false, false_and, or_true, true_or, or_false, false_or, eq_self, ne_eq, quI_s, quI_n, quI2, quL1, quL2, quL3, quR1, quR2, quR3, nI_add, pk_mul, pk_sub, Nat.add_sub_cancel, qm1_add, qm2_add, nI_leI, nI_ltI, nI_eq, nI_m1, nI_m1', nI_clamp, nI_bit, nI_one_shl, nI_m1l, nI_m1lt, nI_m1lt', nI_m1le', oI_some, oI_none, ni_0, ni_1, ni_20, fX11_beginAct, fX3_save, fX3_saveAt, fX0_forget, qle_t, qle_f, qlt_t, qlt_f, qeq_t, qeq_f, h41, e1, k2, k3, em, nI_ite]
  have fr : ∀ k j, ¬ gPk k j → (xuI (xuI (xuI (xuI Z1 41 2 (nI (((c0 + G 1 6) % 20 + 1) % 20))) 41 3 (nI (if G 1 6 + 1 < 20 then G 1 6 + 1 else 20))) 148 7 (nI 0)) 148 11 (nI 0)).1 k j = S.1 k j := by
    intro k j hk
    rw [quI_k (fun e => hk (by unfold gPk; omega)), quI_k (fun e => hk (by unfold gPk; omega)), quI_k (fun e => hk (by unfold gPk; omega)), quI_k (fun e => hk (by unfold gPk; omega)), f1.1 k (fun e => hk (by unfold sv at e; unfold gPk; omega))]
  have ksv : ∀ i c j, i < 20 → c ≤ 4 → (xuI (xuI (xuI (xuI Z1 41 2 (nI (((c0 + G 1 6) % 20 + 1) % 20))) 41 3 (nI (if G 1 6 + 1 < 20 then G 1 6 + 1 else 20))) 148 7 (nI 0)) 148 11 (nI 0)).1 (sv i c) j = Z1.1 (sv i c) j := by
    intro i c j hi hc
    rw [quI_n (by unfold sv; omega), quI_n (by unfold sv; omega), quI_n (by unfold sv; omega), quI_n (by unfold sv; omega)]
  have ks1 : ∀ i c, i < 20 → c ≤ 4 → i ≠ (c0 + G 1 6) % 20 → Z1.1 (sv i c) = S.1 (sv i c) := fun i c hi hc hne => f1.1 _ (by unfold sv; omega)
  have hnew : cSv Z1 ((c0 + G 1 6) % 20) D := by
    refine ⟨fun j hj => ?_, fun c j hc hc2 => ?_⟩
    · rw [z0 j hj]
      rcases (by omega : j < 4 ∨ j = 4) with h4 | rfl
      · exact h.2.2.1.1 j h4
      · exact (h.2.2.1.2.2 rfl).1
    · rw [sv_c, zc c j hc hc2]
      split
      · rw [← yd_c]; exact h.2.2.1.2.1 c j hc hc2
      · rename_i hj
        rw [h.2.2.2.2.2.2.2.2.1.2.2.1 _ hx c j hc hc2 hj, yl_Z (dOk_Z hI.2.2.1) hc hc2 hj]
  have cs : ∀ i E, i < 20 → cSv Z1 i E → cSv (xuI (xuI (xuI (xuI Z1 41 2 (nI (((c0 + G 1 6) % 20 + 1) % 20))) 41 3 (nI (if G 1 6 + 1 < 20 then G 1 6 + 1 else 20))) 148 7 (nI 0)) 148 11 (nI 0)) i E := fun i E hi hE => ⟨fun j hj => by rw [ksv i 0 j hi (by decide)]; exact hE.1 j hj, fun c j hc hc2 => by rw [ksv i c j hi hc2]; exact hE.2 c j hc hc2⟩
  have old : ∀ i E, i < 20 → i ≠ (c0 + G 1 6) % 20 → cSv S i E → cSv Z1 i E := fun i E hi hne hE => ⟨fun j hj => by rw [ks1 i 0 hi (by decide) hne]; exact hE.1 j hj, fun c j hc hc2 => by rw [ks1 i c hi hc2 hne]; exact hE.2 c j hc hc2⟩
  refine ⟨_, ee, gC_P hb fr (by show Z1.2 = S.2; exact f1.2) ?_ ?_ ?_ ?_ ?_ h, ?_, ?_⟩
  · by_cases hl : G 1 6 < 20
    · refine ⟨c0, hc0, ?_, ?_, fun i hi => ?_⟩
      · rw [quI_n (by decide), quI_n (by decide), quI_k (by omega), quI_e, pG_6]; congr 1; split <;> omega
      · rw [quI_n (by decide), quI_n (by decide), quI_e, pG_6]
      · have hi' : i < G 1 6 + 1 := by rw [pG_6] at hi; split at hi <;> omega
        unfold pP
        simp only [if_pos hl]
        by_cases hig : i = G 1 6
        · rw [if_pos hig, hig]; exact cs _ _ hx hnew
        · rw [if_neg hig]; exact cs _ _ (Nat.mod_lt _ (by decide)) (old _ _ (Nat.mod_lt _ (by decide)) (by omega) (hsv i (by omega)))
    · have hm : G 1 6 = 20 := by omega
      refine ⟨(c0 + 1) % 20, Nat.mod_lt _ (by decide), ?_, ?_, fun i hi => ?_⟩
      · rw [quI_n (by decide), quI_n (by decide), quI_k (by omega), quI_e, pG_6]; congr 1; split <;> omega
      · rw [quI_n (by decide), quI_n (by decide), quI_e, pG_6]
      · have hi' : i < 20 := by rw [pG_6] at hi; split at hi <;> omega
        unfold pP
        simp only [if_neg hl]
        by_cases hig : i = 19
        · rw [if_pos hig, hig, show ((c0 + 1) % 20 + 19) % 20 = (c0 + G 1 6) % 20 by omega]; exact cs _ _ hx hnew
        · rw [if_neg hig, show ((c0 + 1) % 20 + i) % 20 = (c0 + (i + 1)) % 20 by omega]; exact cs _ _ (Nat.mod_lt _ (by decide)) (old _ _ (Nat.mod_lt _ (by decide)) (by omega) (hsv (i + 1) (by omega)))
  · rw [quI_k (by omega), quI_e]
  · rw [quI_e]
  · intro i hi c j hc hc2 hj
    rw [← sv_c, ksv i c j hi hc2]
    by_cases hne : i = (c0 + G 1 6) % 20
    · subst hne
      rw [hnew.2 c j hc hc2, yl_Z (dOk_Z hI.2.2.1) hc hc2 hj]
    · rw [ks1 i c hi hc2 hne, sv_c]; exact h.2.2.2.2.2.2.2.2.1.2.2.1 i hi c j hc hc2 hj
  · intro c j hcj
    unfold pG
    rcases dU_cases (D := G) (c := 1) (j := 6) (v := if G 1 6 + 1 < 20 then G 1 6 + 1 else 20) (c' := c) (j' := j) with ⟨_, a1, a2⟩ | ⟨e, _⟩
    · exact absurd ⟨a1, a2⟩ hcj
    · exact e
  · rw [quI_k (by omega), quI_e]
  · rw [quI_e]
theorem gI_P (hI : gI Y mc wc D P G) : gI Y mc wc D (pP P G D) (pG G) := by
  obtain ⟨i1, i2, i3, i4, i5, i6, ⟨q1, q2, q3, q4, q5, q6, q7, q8, q9, q10⟩, i8⟩ := hI
  have hG : ∀ c j, ¬ (c = 1 ∧ j = 6) → pG G c j = G c j := by
    intro c j hcj
    unfold pG
    rcases dU_cases (D := G) (c := 1) (j := 6) (v := if G 1 6 + 1 < 20 then G 1 6 + 1 else 20) (c' := c) (j' := j) with ⟨_, a1, a2⟩ | ⟨e, _⟩
    · exact absurd ⟨a1, a2⟩ hcj
    · exact e
  have pr : pre D D := ⟨Nat.le_refl _, fun _ _ => rfl⟩
  refine ⟨i1, i2, i3, i4, fun i hi => ?_, fun i hi => ⟨?_, fun j hij hj => ?_⟩, ⟨by rw [pG_6]; split <;> omega, by rw [hG _ _ (by omega)]; exact q2, fun i => by rw [hG _ _ (by omega)]; exact q3 i, by rw [hG _ _ (by omega)]; exact q4, by rw [hG _ _ (by omega)]; exact q5, by rw [hG _ _ (by omega)]; exact q6, fun i => by rw [hG _ _ (by omega)]; exact q7 i, fun i => by rw [hG _ _ (by omega)]; exact q8 i, by rw [hG _ _ (by omega)]; exact q9, by rw [hG _ _ (by omega)]; exact q10⟩, i8⟩
  · rw [pG_6] at hi
    unfold pP
    repeat' split
    · exact i3
    · exact i5 i (by split at hi <;> omega)
    · exact i3
    · exact i5 (i + 1) (by split at hi <;> omega)
  · rw [pG_6] at hi
    unfold pP
    repeat' split
    · exact pr
    · exact (i6 i (by split at hi <;> omega)).1
    · exact pr
    · exact (i6 (i + 1) (by split at hi <;> omega)).1
  · rw [pG_6] at hi hj
    by_cases hl : G 1 6 < 20
    · unfold pP
      simp only [if_pos hl]
      by_cases h1 : i = G 1 6
      · exfalso; split at hj <;> omega
      · rw [if_neg h1]
        by_cases h2 : j = G 1 6
        · rw [if_pos h2]; exact (i6 i (by omega)).1
        · rw [if_neg h2]; exact (i6 i (by split at hj <;> omega)).2 j hij (by split at hj <;> omega)
    · unfold pP
      simp only [if_neg hl]
      by_cases h1 : i = 19
      · exfalso; split at hj <;> omega
      · rw [if_neg h1]
        by_cases h2 : j = 19
        · rw [if_pos h2]; exact (i6 (i + 1) (by omega)).1
        · rw [if_neg h2]; exact (i6 (i + 1) (by split at hj <;> omega)).2 (j + 1) (by omega) (by split at hj <;> omega)
end Q48

