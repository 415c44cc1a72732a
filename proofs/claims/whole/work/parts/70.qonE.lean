section Q70
variable {S T Z V : xSt} {b n a s : Nat} {Y D E U : Nat → Nat → Nat} {mc wc : List (Nat × Nat)} {R row : Nat → Nat} {P : Nat → Nat → Nat → Nat} {G G' : Nat → Nat → Nat}
theorem m_comes (hb : b < 2) (hn : 2000 ≤ n) (h : gM S b Y mc wc D P G) (hI : gI Y mc wc D P G) {L : Nat} (hL : L ≤ 1600) : ∃ Z v, fX12_comesOn n 0 (nI L) S = some (nI v, Z) ∧ v ≤ 1 ∧ (v = 1 ↔ onOK Y G L) ∧ mFq (pQ 1) S Z ∧ (v = 1 → ∀ U, onU Y G U → mD Z 1 Y (onE D U)) := by
  have h8 : Y 2 1 ≤ 8 := hI.1.1.2.1
  have h62 : Y 2 2 ≤ 6 := hI.1.1.2.2.1
  have h6 : Y 2 3 ≤ 6 := hI.1.1.2.2.2
  have hG := hI.2.2.2.2.2.2.1.2.2.1
  have hm48 : Y 2 1 * Y 2 2 ≤ 8 * 6 := Nat.mul_le_mul h8 h62
  have mb := h.1.1
  have m1 := h.1.2.1.2.1
  have m2 := h.1.2.1.2.2.1
  have m3 := h.1.2.1.2.2.2
  have t := h.2.2.2.2.1.1
  have t0 := m_2by (S := S) (a := 0) t hG (by decide)
  have t2 := m_2by (S := S) (a := 2) t hG (by decide)
  have l0 := s_two_lt (a := 0) hG
  have l2 := s_two_lt (a := 2) hG
  have no : ∀ Z, mFq (pQ 1) S Z → ¬ onOK Y G L → fX12_comesOn n 0 (nI L) S = some (nI 0, Z) → ∃ Z v, fX12_comesOn n 0 (nI L) S = some (nI v, Z) ∧ v ≤ 1 ∧ (v = 1 ↔ onOK Y G L) ∧ mFq (pQ 1) S Z ∧ (v = 1 → ∀ U, onU Y G U → mD Z 1 Y (onE D U)) := fun Z f1 f2 f3 => ⟨Z, 0, f3, by decide, ⟨fun hh => (by cases hh), fun hh => absurd hh f2⟩, f1, fun hh => by cases hh⟩
  by_cases hs : L = 4 + 3 * Y 2 1 + Y 2 1 * Y 2 2 + 3 * Y 2 3 + 1
  · have hl95 : L ≤ 95 := by omega
    have g1 := hG (L - 1)
    by_cases h0 : 999 < s_two G 0
    · refine no S mFq_refl (fun hh => by have := hh.2.2.1; omega) ?_
      simp (disch := (first | assumption | omega | exact hB _ _ | exact hYB _ _ | (simp only [yc, yd, sh, sv, ne_eq]; omega) | (simp (disch := omega) only [↓nm_1, ↓nm_2, nI_add, pk_mul, pk_sub, Nat.add_sub_cancel, qm1_add, qm2_add, nI_clamp, ni_0, ni_1, ni_2, ni_3, ni_4, ni_157, ni_999, ni_9999, mb, m1, m2, m3, hs, t0, h0]; refine qin_nI ?_ ?_ <;> first | omega | exact hB _ _ | exact hYB _ _) | (refine qin_nI ?_ ?_ <;> omega) | fail)) only [↓km0_gd, ↓km0_gI, ↓km0_gM, ↓km0_pI, ↓km0_pM, ↓km0_pZ, ↓km0_gL, ↓km0_pL, ↓km0_gF0, ↓km0_gF17, ↓km0_gF20, ↓km0_gF22, ↓km0_gF54, ↓km0_gF55, ↓km0_gF57, ↓km0_gF58, ↓km0_gF62, ↓km1_al, ↓km1_as, ↓km1_ln, ↓km5_al, ↓km5_as, ↓km5_ln, ↓km8_al, ↓km8_as, ↓km8_ln, ↓km10_al, ↓km10_as, ↓km10_ln, ↓km34_al, ↓km34_as, ↓km34_ln, ↓km35_al, ↓km35_as, ↓km35_ln, ↓km37_al, ↓km37_as, ↓km37_ln, ↓km38_al, ↓km38_as, ↓km38_ln, ↓km42_al, ↓km42_as, ↓km42_ln, ↓qb_so, ↓nm_1, ↓nm_2, ↓reduceIte, if_true, if_false, not_true_eq_false, not_false_eq_true, and_true, true_and, and_false, false_and, or_true, true_or, or_false, false_or, eq_self, ne_eq, quI_s, quI_n, quI2, quL1, quL2, quL3, quR1, quR2, quR3, nI_add, pk_mul, pk_sub, Nat.add_sub_cancel, qm1_add, qm2_add, nI_leI, nI_ltI, nI_eq, nI_m1, nI_m1', nI_clamp, nI_bit, nI_one_shl, nI_m1l, nI_m1lt, nI_m1lt', nI_m1le', oI_some, oI_none, ni_0, ni_1, ni_2, ni_3, ni_4, ni_157, ni_999, ni_9999, fX12_comesOn, qle_t, qle_f, qlt_t, qlt_f, qeq_t, qeq_f, mb, m1, m2, m3, hs, t0, h0]
    · by_cases h2 : s_two G 2 ≤ 9999
      · have sm := m_sm2 (n := n) (S := S) t hG hL (by omega) (nI (Y 2 1)) (nI (4 + 3 * Y 2 1 + Y 2 1 * Y 2 2)) (L - 1) 0 n 157 (by omega) (by omega) (by decide)
        obtain ⟨_, smb⟩ := c_smL (n := n) (S := ((fun _ i => nI (G 0 i)), S.2)) (f := G 0) (a := 1) (N := L - 1) (len := 1600) rfl rfl (by omega) (by decide) (fun i _ => rfl) hG (L - 1) 0 n 157 (by omega) (by omega) (by decide)
        have esz : nI (4 + 3 * Y 2 1 + Y 2 1 * Y 2 2 + 3 * Y 2 3 + 1) = nI L := by rw [hs]
        by_cases hsum : G 0 (L - 1) = s_smL (G 0) (L - 1) 0 157
        · have td := dOk_told hI.1 hI.2.2.1
          obtain ⟨Z1, e1, f1, d1⟩ := m_copies (n := n) (to := 1) (fm := 0) hn (by decide) (by decide) (by decide) hI.1 (by omega) h.2.2.1
          let S33 : xSt := xuI (xuI (xuI (xuI (xuI Z1 34 1 (nI (s_two G 0))) 35 1 (nI (s_two G 2))) 37 1 (nI 0)) 38 1 (nI 0)) 42 1 (nI 0)
          have f2 : mFq (pQ 1) Z1 S33 := mFq_trans (mFq_trans (mFq_trans (mFq_trans (mFq_upd (by unfold pQ; omega)) (mFq_upd (by unfold pQ; omega))) (mFq_upd (by unfold pQ; omega))) (mFq_upd (by unfold pQ; omega))) (mFq_upd (by unfold pQ; omega))
          have fA := mFq_trans f1 f2
          have tz : ∀ i, i < 1600 → Z1.1 1 i = nI (G 0 i) := fun i hi => by rw [f1.1 1 i (by unfold pQ; omega)]; exact t i hi
          have tA : ∀ i, i < 1600 → S33.1 1 i = nI (G 0 i) := fun i hi => by rw [fA.1 1 i (by unfold pQ; omega)]; exact t i hi
          have w0 := m_2by (S := Z1) (a := 0) tz hG (by decide)
          have w2 := m_2by (S := xuI Z1 34 1 (nI (s_two G 0))) (a := 2) (fun i hi => by rw [quI_n (by decide)]; exact tz i hi) hG (by decide)
          have hpre : ∀ V, (fX12_comesOn_L178 n 0 (nI (Y 2 1)) (nI (4 + 3 * Y 2 1 + Y 2 1 * Y 2 2)) n (nI 0) S33).bind (fun z38 => xel z38 (fun ez38 => (fX12_comesOn_L210 n 0 (nI (Y 2 1)) (nI (4 + 3 * Y 2 1 + Y 2 1 * Y 2 2)) n (nI 0) ez38).bind fun z46 => xel z46 (fun ez46 => (fX12_comesOn_L254 n 0 (nI (4 + 3 * Y 2 1 + Y 2 1 * Y 2 2)) n (nI 0) ez46).bind fun z54 => xel z54 (fun ez54 => some (nI 1, ez54)) (fun r => some r)) (fun r => some r)) (fun r => some r)) = V → fX12_comesOn n 0 (nI L) S = V := by
            intro V hV
            rw [← hV]
            simp (disch := (first | assumption | omega | exact hB _ _ | exact hYB _ _ | (simp only [yc, yd, sh, sv, ne_eq]; omega) | (simp (disch := omega) only [↓nm_1, ↓nm_2, nI_add, pk_mul, pk_sub, Nat.add_sub_cancel, qm1_add, qm2_add, nI_clamp, ni_0, ni_1, ni_2, ni_3, ni_4, ni_157, ni_999, ni_9999, mb, m1, m2, m3, esz, t0, h0, t2, h2, sm, t, hsum, e1, w0, w2]; refine qin_nI ?_ ?_ <;> first | omega | exact hB _ _ | exact hYB _ _) | (refine qin_nI ?_ ?_ <;> omega) | fail)) only [↓km0_gd, ↓km0_gI, ↓km0_gM, ↓km0_pI, ↓km0_pM, ↓km0_pZ, ↓km0_gL, ↓km0_pL, ↓km0_gF0, ↓km0_gF17, ↓km0_gF20, ↓km0_gF22, ↓km0_gF54, ↓km0_gF55, ↓km0_gF57, ↓km0_gF58, ↓km0_gF62, ↓km1_al, ↓km1_as, ↓km1_ln, ↓km5_al, ↓km5_as, ↓km5_ln, ↓km8_al, ↓km8_as, ↓km8_ln, ↓km10_al, ↓km10_as, ↓km10_ln, ↓km34_al, ↓km34_as, ↓km34_ln, ↓km35_al, ↓km35_as, ↓km35_ln, ↓km37_al, ↓km37_as, ↓km37_ln, ↓km38_al, ↓km38_as, ↓km38_ln, ↓km42_al, ↓km42_as, ↓km42_ln, ↓qb_so, ↓nm_1, ↓nm_2, ↓reduceIte, if_true, if_false, not_true_eq_false, not_false_eq_true, and_true, true_and, and_false, false_and, or_true, true_or, or_false, false_or, eq_self, ne_eq, quI_s, quI_n, quI2, quL1, quL2, quL3, quR1, quR2, quR3, nI_add, pk_mul, pk_sub, Nat.add_sub_cancel, qm1_add, qm2_add, nI_leI, nI_ltI, nI_eq, nI_m1, nI_m1', nI_clamp, nI_bit, nI_one_shl, nI_m1l, nI_m1lt, nI_m1lt', nI_m1le', oI_some, oI_none, ni_0, ni_1, ni_2, ni_3, ni_4, ni_157, ni_999, ni_9999, fX12_comesOn, qle_t, qle_f, qlt_t, qlt_f, qeq_t, qeq_f, mb, m1, m2, m3, esz, t0, h0, t2, h2, sm, t, hsum, e1, w0, w2]
            rfl
          rcases m_onT (n := n) hG h8 (nI (4 + 3 * Y 2 1 + Y 2 1 * Y 2 2)) (Y 2 1) 0 n 0 0 S33 (by omega) (by omega) tA (by rw [quI_n (by decide), quI_n (by decide), quI_e]) (by rw [quI_n (by decide), quI_e]) (Nat.two_pow_pos 0) (Nat.two_pow_pos 0) with ⟨o1, Z2, e2, z37, z38, z36, f3⟩ | ⟨o1, Z2, e2, f3⟩
          · have f3' : mFq (pQ 1) S33 Z2 := mFq_mono f3 (fun k j hh => by unfold oT at hh; unfold pQ; omega)
            have fB := mFq_trans fA f3'
            rcases m_onH (n := n) (mc := mc) (wc := wc) hb hG hI.1 hn (nI (4 + 3 * Y 2 1 + Y 2 1 * Y 2 2)) (Y 2 2) 0 n Z2 (by omega) (by omega) (fun i hi => by rw [fB.1 1 i (by unfold pQ; omega)]; exact t i hi) (mY_fr fB (fun k j a1 a2 => by unfold pQ; omega) (by unfold pQ; omega) h.1) with ⟨o2, Z3, e3, z39, f4⟩ | ⟨o2, Z3, e3, f4⟩
            · have f4' : mFq (pQ 1) Z2 Z3 := mFq_mono f4 (fun k j hh => by unfold pQ; omega)
              have fC := mFq_trans fB f4'
              rcases m_onJ (n := n) (mc := mc) (wc := wc) (A := 4 + 3 * Y 2 1 + Y 2 1 * Y 2 2) hb hG hI.1 (by omega) (Y 2 3) 0 n Z3 (by omega) (by omega) (fun i hi => by rw [fC.1 1 i (by unfold pQ; omega)]; exact t i hi) (mY_fr fC (fun k j a1 a2 => by unfold pQ; omega) (by unfold pQ; omega) h.1) with ⟨o3, Z4, e4, z40, z41, f5⟩ | ⟨o3, Z4, e4, f5⟩
              · have f5' : mFq (pQ 1) Z3 Z4 := mFq_mono f5 (fun k j hh => by unfold pQ; omega)
                refine ⟨Z4, 1, hpre _ ?_, by decide, ?_, mFq_trans fC f5', fun _ U hU => ?_⟩
                · rw [e2]
                  show (fX12_comesOn_L210 _ _ _ _ _ _ _).bind _ = _
                  rw [e3]
                  show (fX12_comesOn_L254 _ _ _ _ _ _).bind _ = _
                  rw [e4]
                  rfl
                · constructor
                  · intro _; exact ⟨hs, hsum.symm, by omega, h2, fun x hx => o1 x (Nat.zero_le _) hx, fun g hg => o2 g (Nat.zero_le _) hg, fun x hx => o3 x (Nat.zero_le _) hx⟩
                  · intro _; rfl
                · obtain ⟨v0, v1, v2, v3, v4, v5, v6, v7⟩ := hU
                  have k5 : ∀ k j, k ≠ 40 → k ≠ 41 → Z4.1 k j = Z3.1 k j := fun k j a1 a2 => f5.1 k j (by omega)
                  have k4 : ∀ k j, k ≠ 39 → Z3.1 k j = Z2.1 k j := fun k j a1 => f4.1 k j (by omega)
                  have k3 : ∀ k j, k ≠ 36 → k ≠ 37 → k ≠ 38 → Z2.1 k j = S33.1 k j := fun k j a1 a2 a3 => f3.1 k j (by unfold oT; omega)
                  refine ⟨⟨?_, ?_, ?_, ?_, ?_⟩, fun x hx => ?_, fun g x hg hx => ?_, fun j hj => ?_, fun j hj => ?_, fun k hk => ?_⟩
                  · rw [k5 34 1 (by decide) (by decide), k4 34 1 (by decide), k3 34 1 (by decide) (by decide) (by decide), quI_n (by decide), quI_n (by decide), quI_n (by decide), quI_n (by decide), quI_e]
                    show _ = nI (U 0 0)
                    rw [v0]
                  · rw [k5 35 1 (by decide) (by decide), k4 35 1 (by decide), k3 35 1 (by decide) (by decide) (by decide), quI_n (by decide), quI_n (by decide), quI_n (by decide), quI_e]
                    show _ = nI (U 0 1)
                    rw [v1]
                  · rw [k5 37 1 (by decide) (by decide), k4 37 1 (by decide), z37]
                    show _ = nI (U 0 2)
                    rw [v2]
                  · rw [k5 38 1 (by decide) (by decide), k4 38 1 (by decide), z38]
                    show _ = nI (U 0 3)
                    rw [v3]
                  · rw [k5 42 1 (by decide) (by decide), k4 42 1 (by decide), k3 42 1 (by decide) (by decide) (by decide), quI_e]
                    show _ = nI (U 0 4)
                    rw [v4]
                  · rw [k5 36 _ (by decide) (by decide), k4 36 _ (by decide), Nat.mul_one, z36 x hx, if_pos (Nat.zero_le _)]
                    show _ = nI (U 1 x)
                    rw [v5 x hx]
                  · rw [k5 39 _ (by decide) (by decide), Nat.mul_one, z39 g x hg hx, if_pos (Nat.zero_le _)]
                    show _ = nI (U 2 (8 * g + x))
                    rw [v6 g x hg hx]
                  · rw [Nat.mul_one, z40 j hj, if_pos (Nat.zero_le _)]
                    show _ = nI (U 3 j)
                    rw [(v7 j hj).1]
                  · rw [Nat.mul_one, z41 j hj, if_pos (Nat.zero_le _)]
                    show _ = nI (U 4 j)
                    rw [(v7 j hj).2]
                  · have hk' : k < 4 * U 0 4 := hk
                    rw [v4] at hk'
                    omega
              · have f5' : mFq (pQ 1) Z3 Z4 := mFq_mono f5 (fun k j hh => by unfold pQ; omega)
                refine no Z4 (mFq_trans fC f5') (fun hh => o3 (fun x _ hx => hh.2.2.2.2.2.2 x hx)) (hpre _ ?_)
                rw [e2]
                show (fX12_comesOn_L210 _ _ _ _ _ _ _).bind _ = _
                rw [e3]
                show (fX12_comesOn_L254 _ _ _ _ _ _).bind _ = _
                rw [e4]
                rfl
            · have f4' : mFq (pQ 1) Z2 Z3 := mFq_mono f4 (fun k j hh => by unfold pQ; omega)
              refine no Z3 (mFq_trans fB f4') (fun hh => o2 (fun g _ hg => hh.2.2.2.2.2.1 g hg)) (hpre _ ?_)
              rw [e2]
              show (fX12_comesOn_L210 _ _ _ _ _ _ _).bind _ = _
              rw [e3]
              rfl
          · have f3' : mFq (pQ 1) S33 Z2 := mFq_mono f3 (fun k j hh => by unfold oT at hh; unfold pQ; omega)
            refine no Z2 (mFq_trans fA f3') (fun hh => o1 (fun x _ hx => hh.2.2.2.2.1 x hx)) (hpre _ ?_)
            rw [e2]
            rfl
        · refine no S mFq_refl (fun hh => hsum hh.2.1.symm) ?_
          simp (disch := (first | assumption | omega | exact hB _ _ | exact hYB _ _ | (simp only [yc, yd, sh, sv, ne_eq]; omega) | (simp (disch := omega) only [↓nm_1, ↓nm_2, nI_add, pk_mul, pk_sub, Nat.add_sub_cancel, qm1_add, qm2_add, nI_clamp, ni_0, ni_1, ni_2, ni_3, ni_4, ni_157, ni_999, ni_9999, mb, m1, m2, m3, esz, t0, h0, t2, h2, sm, t, hsum]; refine qin_nI ?_ ?_ <;> first | omega | exact hB _ _ | exact hYB _ _) | (refine qin_nI ?_ ?_ <;> omega) | fail)) only [↓km0_gd, ↓km0_gI, ↓km0_gM, ↓km0_pI, ↓km0_pM, ↓km0_pZ, ↓km0_gL, ↓km0_pL, ↓km0_gF0, ↓km0_gF17, ↓km0_gF20, ↓km0_gF22, ↓km0_gF54, ↓km0_gF55, ↓km0_gF57, ↓km0_gF58, ↓km0_gF62, ↓km1_al, ↓km1_as, ↓km1_ln, ↓km5_al, ↓km5_as, ↓km5_ln, ↓km8_al, ↓km8_as, ↓km8_ln, ↓km10_al, ↓km10_as, ↓km10_ln, ↓km34_al, ↓km34_as, ↓km34_ln, ↓km35_al, ↓km35_as, ↓km35_ln, ↓km37_al, ↓km37_as, ↓km37_ln, ↓km38_al, ↓km38_as, ↓km38_ln, ↓km42_al, ↓km42_as, ↓km42_ln, ↓qb_so, ↓nm_1, ↓nm_2, ↓reduceIte, if_true, if_false, not_true_eq_false, not_false_eq_true, and_true, true_and, and_false, false_and, or_true, true_or, or_false, false_or, eq_self, ne_eq, quI_s, quI_n, quI2, quL1, quL2, quL3, quR1, quR2, quR3, nI_add, pk_mul, pk_sub, Nat.add_sub_cancel, qm1_add, qm2_add, nI_leI, nI_ltI, nI_eq, nI_m1, nI_m1', nI_clamp, nI_bit, nI_one_shl, nI_m1l, nI_m1lt, nI_m1lt', nI_m1le', oI_some, oI_none, ni_0, ni_1, ni_2, ni_3, ni_4, ni_157, ni_999, ni_9999, fX12_comesOn, qle_t, qle_f, qlt_t, qlt_f, qeq_t, qeq_f, mb, m1, m2, m3, esz, t0, h0, t2, h2, sm, t, hsum]
      · refine no S mFq_refl (fun hh => h2 hh.2.2.2.1) ?_
        simp (disch := (first | assumption | omega | exact hB _ _ | exact hYB _ _ | (simp only [yc, yd, sh, sv, ne_eq]; omega) | (simp (disch := omega) only [↓nm_1, ↓nm_2, nI_add, pk_mul, pk_sub, Nat.add_sub_cancel, qm1_add, qm2_add, nI_clamp, ni_0, ni_1, ni_2, ni_3, ni_4, ni_157, ni_999, ni_9999, mb, m1, m2, m3, hs, t0, h0, t2, h2]; refine qin_nI ?_ ?_ <;> first | omega | exact hB _ _ | exact hYB _ _) | (refine qin_nI ?_ ?_ <;> omega) | fail)) only [↓km0_gd, ↓km0_gI, ↓km0_gM, ↓km0_pI, ↓km0_pM, ↓km0_pZ, ↓km0_gL, ↓km0_pL, ↓km0_gF0, ↓km0_gF17, ↓km0_gF20, ↓km0_gF22, ↓km0_gF54, ↓km0_gF55, ↓km0_gF57, ↓km0_gF58, ↓km0_gF62, ↓km1_al, ↓km1_as, ↓km1_ln, ↓km5_al, ↓km5_as, ↓km5_ln, ↓km8_al, ↓km8_as, ↓km8_ln, ↓km10_al, ↓km10_as, ↓km10_ln, ↓km34_al, ↓km34_as, ↓km34_ln, ↓km35_al, ↓km35_as, ↓km35_ln, ↓km37_al, ↓km37_as, ↓km37_ln, ↓km38_al, ↓km38_as, ↓km38_ln, ↓km42_al, ↓km42_as, ↓km42_ln, ↓qb_so, ↓nm_1, ↓nm_2, ↓reduceIte, if_true, if_false, not_true_eq_false, not_false_eq_true, and_true, true_and, and_false, false_and, or_true, true_or, or_false, false_or, eq_self, ne_eq, quI_s, quI_n, quI2, quL1, quL2, quL3, quR1, quR2, quR3, nI_add, pk_mul, pk_sub, Nat.add_sub_cancel, qm1_add, qm2_add, nI_leI, nI_ltI, nI_eq, nI_m1, nI_m1', nI_clamp, nI_bit, nI_one_shl, nI_m1l, nI_m1lt, nI_m1lt', nI_m1le', oI_some, oI_none, ni_0, ni_1, ni_2, ni_3, ni_4, ni_157, ni_999, ni_9999, fX12_comesOn, qle_t, qle_f, qlt_t, qlt_f, qeq_t, qeq_f, mb, m1, m2, m3, hs, t0, h0, t2, h2]
  · refine no S mFq_refl (fun hh => hs hh.1) ?_
    simp (disch := (first | assumption | omega | exact hB _ _ | exact hYB _ _ | (simp only [yc, yd, sh, sv, ne_eq]; omega) | (simp (disch := omega) only [↓nm_1, ↓nm_2, nI_add, pk_mul, pk_sub, Nat.add_sub_cancel, qm1_add, qm2_add, nI_clamp, ni_0, ni_1, ni_2, ni_3, ni_4, ni_157, ni_999, ni_9999, mb, m1, m2, m3, hs]; refine qin_nI ?_ ?_ <;> first | omega | exact hB _ _ | exact hYB _ _) | (refine qin_nI ?_ ?_ <;> omega) | fail)) only [↓km0_gd, ↓km0_gI, ↓km0_gM, ↓km0_pI, ↓km0_pM, ↓km0_pZ, ↓km0_gL, ↓km0_pL, ↓km0_gF0, ↓km0_gF17, ↓km0_gF20, ↓km0_gF22, ↓km0_gF54, ↓km0_gF55, ↓km0_gF57, ↓km0_gF58, ↓km0_gF62, ↓km1_al, ↓km1_as, ↓km1_ln, ↓km5_al, ↓km5_as, ↓km5_ln, ↓km8_al, ↓km8_as, ↓km8_ln, ↓km10_al, ↓km10_as, ↓km10_ln, ↓km34_al, ↓km34_as, ↓km34_ln, ↓km35_al, ↓km35_as, ↓km35_ln, ↓km37_al, ↓km37_as, ↓km37_ln, ↓km38_al, ↓km38_as, ↓km38_ln, ↓km42_al, ↓km42_as, ↓km42_ln, ↓qb_so, ↓nm_1, ↓nm_2, ↓reduceIte, if_true, if_false, not_true_eq_false, not_false_eq_true, and_true, true_and, and_false, false_and, or_true, true_or, or_false, false_or, eq_self, ne_eq, quI_s, quI_n, quI2, quL1, quL2, quL3, quR1, quR2, quR3, nI_add, pk_mul, pk_sub, Nat.add_sub_cancel, qm1_add, qm2_add, nI_leI, nI_ltI, nI_eq, nI_m1, nI_m1', nI_clamp, nI_bit, nI_one_shl, nI_m1l, nI_m1lt, nI_m1lt', nI_m1le', oI_some, oI_none, ni_0, ni_1, ni_2, ni_3, ni_4, ni_157, ni_999, ni_9999, fX12_comesOn, qle_t, qle_f, qlt_t, qlt_f, qeq_t, qeq_f, mb, m1, m2, m3, hs]
theorem onE_ok (hI : gI Y mc wc D P G) {L : Nat} (hB : onB U) (hU : onU Y G U) (hO : onOK Y G L) : dOk Y (onE D U) := by
  obtain ⟨u1, u2, u4, u5, u6⟩ := hB
  obtain ⟨v0, v1, v2, v3, v4, v5, v6, v7⟩ := hU
  obtain ⟨_, _, o0, o1, o2, o3, o4⟩ := hO
  have h8 : Y 2 1 ≤ 8 := hI.1.1.2.1
  have p8 : 2 ^ Y 2 1 ≤ 2 ^ 8 := Nat.pow_le_pow_right (by decide) h8
  have b2 : U 0 2 < 2 ^ Y 2 1 := by rw [v2]; have := s_btL_lt (f := fun x => G 0 (4 + 3 * x + 1)) (Y 2 1) 0 0 (by decide); rw [Nat.zero_add] at this; exact this
  have b3 : U 0 3 < 2 ^ Y 2 1 := by rw [v3]; have := s_btL_lt (f := fun x => G 0 (4 + 3 * x + 2)) (Y 2 1) 0 0 (by decide); rw [Nat.zero_add] at this; exact this
  refine ⟨by show U 0 0 ≤ 999; omega, by show U 0 1 ≤ 9999; omega, b2, b3, fun t => u1 t, fun i => u2 i, fun j hj => ?_, fun j => u4 j, ?_, fun c j => ?_, Nat.two_pow_pos _, Nat.two_pow_pos _, Nat.zero_le _, Nat.zero_le _, fun t ht => ?_, fun i hi => ?_, fun j hj => ?_, fun j hj => ?_⟩
  · show U 3 j ≤ _; rw [(v7 j hj).1]; exact (o4 j hj).1
  · show U 0 4 ≤ _; rw [v4]; exact Nat.zero_le _
  · unfold onE
    split
    · split
      · rename_i hj
        rcases (by omega : j = 0 ∨ j = 1 ∨ j = 2 ∨ j = 3 ∨ j = 4) with rfl | rfl | rfl | rfl | rfl <;> omega
      · decide
    · split
      · exact u5 c j (by omega) (by omega)
      · split
        · exact dOk_B hI.2.2.1 6 j
        · decide
  · exact u6 1 t (by decide) (by decide) (by unfold yl; simp; omega)
  · exact u6 2 i (by decide) (by decide) (by unfold yl; simp; omega)
  · exact u6 3 j (by decide) (by decide) (by unfold yl; simp; omega)
  · exact u6 4 j (by decide) (by decide) (by unfold yl; simp; omega)
theorem gI_on (hI : gI Y mc wc D P G) (hd : dOk Y E) (h5 : ∀ j, E 5 j = 0) : gI Y mc wc E P (dU G 1 6 0) := by
  obtain ⟨i1, i2, i3, i4, i5, i6, ⟨q1, q2, q3, q4, q5, q6, q7, q8, q9, q10⟩, i8⟩ := hI
  exact ⟨i1, i2, hd, h5, fun i hi => absurd hi (Nat.not_lt_zero _), fun i hi => absurd hi (Nat.not_lt_zero _), ⟨Nat.zero_le _, q2, q3, q4, q5, q6, q7, q8, q9, q10⟩, i8⟩
theorem e_on : xEq31 gR := by
  intro S1 S2 h
  obtain ⟨b, Y, mc, wc, D, P, G, hb, hC, hM, hI⟩ := id h
  have hn : 2000 ≤ xFU := by decide
  have hw : (0 : Nat) < 2 := by decide
  have hL := hI.2.2.2.2.2.2.1.2.1
  obtain ⟨c1, g1⟩ := c_take hb hC
  have k1 := m_take hI hM
  have i1 := gI_take hI
  have m1 := hM.2.2.2.2.1.2.1
  have hr := hC.2.1.1
  obtain ⟨Z, v, ec, hv, hiff, gz, hz⟩ := c_read (n := xFU) hb hn g1 i1 hL
  obtain ⟨T, v', em, hv', hiff', ft, ht⟩ := m_comes (n := xFU) hb hn k1 i1 hL
  have evv : v' = v := by
    by_cases hh : onOK Y (dU G 1 0 0) (G 1 0)
    · rw [hiff.mpr hh, hiff'.mpr hh]
    · have := mt hiff.mp hh
      have := mt hiff'.mp hh
      omega
  subst evv
  have f' : mFq (mQ 1) (xuI S2 0 1 (nI 0)) T := mFq_mono ft (fun k j hh => by unfold pQ at hh; unfold mQ; omega)
  have kt : gM T b Y mc wc D P (dU G 1 0 0) := by
    obtain ⟨h69, h71, u, u', fr, hu, hu', h73, h74, h75⟩ := k1.2.2.2.2.2.2
    have e0 : ∀ j, T.1 0 j = (xuI S2 0 1 (nI 0)).1 0 j := fun j => ft.1 _ _ (by unfold pQ; omega)
    exact gM_scr f' i1 ⟨u, u', fr, hu, hu', by rw [e0]; exact h73, by rw [e0]; exact h74, by rw [e0]; exact h75⟩ k1
  rcases (by omega : v' = 0 ∨ v' = 1) with rfl | rfl
  · obtain ⟨d1, gg1⟩ := c_refuse (i := 5) hb gz (by decide)
    obtain ⟨d2, kk1⟩ := m_refuse (i := 5) i1 kt (by decide)
    have hq : (qm1 < nI 0) = True := by decide
    refine ⟨nI 0, _, _, ?_, ?_, b, Y, mc, wc, D, P, _, hb, gg1, kk1, gI_rf i1⟩
    · simp (disch := (first | assumption | omega | exact hB _ _ | exact hYB _ _ | (simp only [yc, yd, sh, sv, ne_eq]; omega) | (simp (disch := omega) only [↓nm_1, ↓nm_2, nI_add, pk_mul, pk_sub, Nat.add_sub_cancel, qm1_add, qm2_add, nI_clamp, ni_0, ni_1, ni_5, c1, hr, ec, d1]; refine qin_nI ?_ ?_ <;> first | omega | exact hB _ _ | exact hYB _ _) | (refine qin_nI ?_ ?_ <;> omega) | fail)) only [↓kc0_gd, ↓kc0_gI, ↓kc0_gM, ↓kc0_pI, ↓kc0_pM, ↓kc0_pZ, ↓kc0_gF0, ↓kc0_gF4, ↓kc0_gF5, ↓kc0_gF6, ↓kc0_gF7, ↓kc0_gF8, ↓kc0_gF9, ↓kc0_gF10, ↓kc0_gF11, ↓kc0_gF12, ↓kc0_gF14, ↓kc1_al, ↓kc1_as, ↓kc1_ln, ↓kc41_gd, ↓kc41_gI, ↓kc41_gM, ↓kc41_pI, ↓kc41_pM, ↓kc41_pZ, ↓kc41_gF0, ↓kc41_gF1, ↓kc42_ql, ↓kc43_al, ↓kc43_as, ↓kc43_ln, ↓kc148_gd, ↓kc148_gI, ↓kc148_gM, ↓kc148_pI, ↓kc148_pM, ↓kc148_pZ, ↓kc148_gF0, ↓kc148_gF1, ↓kc148_gF2, ↓kc148_gF4, ↓kc148_gF5, ↓kc154_al, ↓kc154_as, ↓kc154_ln, ↓kc155_al, ↓kc155_as, ↓kc155_ln, ↓kc160_gd, ↓kc160_gI, ↓kc160_gM, ↓kc160_pI, ↓kc160_pM, ↓kc160_pZ, ↓kc160_gF0, ↓kc160_gF1, ↓kc161_al, ↓kc161_as, ↓kc161_ln, ↓kc162_gd, ↓kc162_gI, ↓kc162_gM, ↓kc162_pI, ↓kc162_pM, ↓kc162_pZ, ↓kc162_gF0, ↓kc162_gF1, ↓kc163_gd, ↓kc163_gI, ↓kc163_gM, ↓kc163_pI, ↓kc163_pM, ↓kc163_pZ, ↓kc163_gF0, ↓kc164_gd, ↓kc164_gI, ↓kc164_gM, ↓kc164_pI, ↓kc164_pM, ↓kc164_pZ, ↓kc164_gF0, ↓kc164_gF1, ↓kc164_gF2, ↓kc164_gF3, ↓kc165_al, ↓kc165_as, ↓kc165_ln, ↓kc166_al, ↓kc166_as, ↓kc166_ln, ↓kc167_al, ↓kc167_as, ↓kc167_ln, ↓kc168_al, ↓kc168_as, ↓kc168_ln, ↓kc169_gd, ↓kc169_gI, ↓kc169_gM, ↓kc169_pI, ↓kc169_pM, ↓kc169_pZ, ↓kc169_gF0, ↓kc169_gF2, ↓kc170_al, ↓kc170_as, ↓kc170_ln, ↓kc171_gd, ↓kc171_gI, ↓kc171_gM, ↓kc171_pI, ↓kc171_pM, ↓kc171_pZ, ↓kc171_gF5, ↓kc171_gF6, ↓kc171_gF7, ↓kc171_gF8, ↓kc172_al, ↓kc172_as, ↓kc172_ln, ↓kc173_al, ↓kc173_as, ↓kc173_ln, ↓kc174_al, ↓kc174_as, ↓kc174_ln, ↓kc175_al, ↓kc175_as, ↓kc175_ln, ↓kc176_al, ↓kc176_as, ↓kc176_ln, ↓kc177_al, ↓kc177_as, ↓kc177_ln, ↓qb_so, ↓nm_1, ↓nm_2, ↓reduceIte, if_true, if_false, not_true_eq_false, not_false_eq_true, and_true, true_and, and_false, false_and, or_true, true_or, or_false, false_or, eq_self, ne_eq, quI_s, quI_n, quI2, quL1, quL2, quL3, quR1, quR2, quR3, nI_add, pk_mul, pk_sub, Nat.add_sub_cancel, qm1_add, qm2_add, nI_leI, nI_ltI, nI_eq, nI_m1, nI_m1', nI_clamp, nI_bit, nI_one_shl, nI_m1l, nI_m1lt, nI_m1lt', nI_m1le', oI_some, oI_none, ni_0, ni_1, ni_5, fX11_on, fX11_turnDown, qle_t, qle_f, qlt_t, qlt_f, qeq_t, qeq_f, c1, hr, ec, d1]
    · simp (disch := (first | assumption | omega | exact hB _ _ | exact hYB _ _ | (simp only [yc, yd, sh, sv, ne_eq]; omega) | (simp (disch := omega) only [↓nm_1, ↓nm_2, nI_add, pk_mul, pk_sub, Nat.add_sub_cancel, qm1_add, qm2_add, nI_clamp, ni_0, ni_1, ni_5, m1, em, d2, hq]; refine qin_nI ?_ ?_ <;> first | omega | exact hB _ _ | exact hYB _ _) | (refine qin_nI ?_ ?_ <;> omega) | fail)) only [↓km0_gd, ↓km0_gI, ↓km0_gM, ↓km0_pI, ↓km0_pM, ↓km0_pZ, ↓km0_gL, ↓km0_pL, ↓qb_so, ↓nm_1, ↓nm_2, ↓reduceIte, if_true, if_false, not_true_eq_false, not_false_eq_true, and_true, true_and, and_false, false_and, or_true, true_or, or_false, false_or, eq_self, ne_eq, quI_s, quI_n, quI2, quL1, quL2, quL3, quR1, quR2, quR3, nI_add, pk_mul, pk_sub, Nat.add_sub_cancel, qm1_add, qm2_add, nI_leI, nI_ltI, nI_eq, nI_m1, nI_m1', nI_clamp, nI_bit, nI_one_shl, nI_m1l, nI_m1lt, nI_m1lt', nI_m1le', oI_some, oI_none, ni_0, ni_1, ni_5, fX12_on, qle_t, qle_f, qlt_t, qlt_f, qeq_t, qeq_f, m1, em, d2, hq]
  · obtain ⟨U, hB, hU, z0, zc⟩ := hz rfl
    have hE := onE_ok i1 hB hU (hiff.mp rfl)
    have md := ht rfl U hU
    obtain ⟨Z1, e1, f1, y0, yc'⟩ := c_copy (S := Z) (isYd_yd (w := 0) (by decide)) isYd_t (by unfold yd; omega)
    have e1' : fX8_copy (yd 0 0) 171 Z = some Z1 := e1
    have gA : gC (xuI (xuI (xuI (xuI Z 41 2 (nI 0)) 41 3 (nI 0)) 148 7 (nI 0)) 148 11 (nI 0)) b Y mc wc D P (dU (dU G 1 0 0) 1 6 0) := by
      refine gC_P (S := Z) hb (fun k j hk => by rw [quI_k (fun e => hk (by unfold gPk; omega)), quI_k (fun e => hk (by unfold gPk; omega)), quI_k (fun e => hk (by unfold gPk; omega)), quI_k (fun e => hk (by unfold gPk; omega))]) rfl ⟨0, by decide, ?_, ?_, fun i hi => ?_⟩ ?_ ?_ (fun i hi c j hc hc2 hj => ?_) (fun c j hcj => ?_) gz
      · rw [quI_n (by decide), quI_n (by decide), quI_k (by omega), quI_e, dU_s]
      · rw [quI_n (by decide), quI_n (by decide), quI_e, dU_s]
      · rw [dU_s] at hi; omega
      · rw [quI_k (by omega), quI_e]
      · rw [quI_e]
      · rw [quI_n (by unfold sv; omega), quI_n (by unfold sv; omega), quI_n (by unfold sv; omega), quI_n (by unfold sv; omega)]; exact gz.2.2.2.2.2.2.2.2.1.2.2.1 i hi c j hc hc2 hj
      · rcases dU_cases (D := dU G 1 0 0) (c := 1) (j := 6) (v := 0) (c' := c) (j' := j) with ⟨_, a1, a2⟩ | ⟨e, _⟩
        · exact absurd ⟨a1, a2⟩ hcj
        · exact e
    have hd : cD (xuI (xuI (xuI (xuI Z1 41 2 (nI 0)) 41 3 (nI 0)) 148 7 (nI 0)) 148 11 (nI 0)) 0 (onE D U) := by
      have q4 : ∀ k j, k ≠ 41 → k ≠ 148 → (xuI (xuI (xuI (xuI Z1 41 2 (nI 0)) 41 3 (nI 0)) 148 7 (nI 0)) 148 11 (nI 0)).1 k j = Z1.1 k j := fun k j a1 a2 => by rw [quI_n a2, quI_n a2, quI_n a1, quI_n a1]
      refine ⟨fun j hj => ?_, fun c j hc hc2 => ?_, fun _ => ⟨?_, fun k => ?_⟩⟩
      · rw [q4 _ _ (by unfold yd; omega) (by unfold yd; omega), y0 j (by omega), z0 j (by omega)]
        show _ = nI (if j < 5 then U 0 j else 0)
        rw [if_pos (by omega)]
      · rw [q4 _ _ (by unfold yd; omega) (by unfold yd; omega), yd_c, yc' c j hc hc2]
        have ee : onE D U c j = U c j := by unfold onE; rw [if_neg (by omega), if_pos hc2]
        rw [ee]
        split
        · exact zc c j hc hc2
        · rename_i hj
          rw [← yd_c, gz.2.2.1.2.1 c j hc hc2, yl_Z (dOk_Z hI.2.2.1) hc hc2 hj, hB.2.2.2.2 c j hc hc2 hj]
      · rw [q4 _ _ (by unfold yd; omega) (by unfold yd; omega), y0 4 (by omega), z0 4 (by omega)]; rfl
      · rw [q4 _ _ (by omega) (by omega), f1.1 43 (by unfold yd; omega)]
        exact (gz.2.2.1.2.2 rfl).2 k
    have gZ : gC (xuI (xuI (xuI (xuI Z1 41 2 (nI 0)) 41 3 (nI 0)) 148 7 (nI 0)) 148 11 (nI 0)) b Y mc wc (onE D U) P (dU (dU G 1 0 0) 1 6 0) := by
      refine gC_D hb (fun k j hk => ?_) ?_ (by rw [quI_k (by omega), quI_e]) (by rw [quI_e]) hd gA
      · have ek : Z1.1 k = Z.1 k := f1.1 k (by unfold yd; omega)
        have q1 : ∀ (A B : xSt) (k' j' : Nat) (x : Int32), A.1 k j = B.1 k j → (xuI A k' j' x).1 k j = (xuI B k' j' x).1 k j := by
          intro A B k' j' x hAB
          by_cases hh : k = k' ∧ j = j'
          · obtain ⟨rfl, rfl⟩ := hh; rw [quI_e, quI_e]
          · rw [quI_k hh, quI_k hh, hAB]
        exact q1 _ _ _ _ _ (q1 _ _ _ _ _ (q1 _ _ _ _ _ (q1 _ _ _ _ _ (by rw [ek]))))
      · show Z1.2 = Z.2
        rw [f1.2]
    obtain ⟨T1, t1, tf, td⟩ := m_copies (n := xFU) (to := 0) (fm := 1) hn (by decide) (by decide) (by decide) hI.1 (by show U 0 4 ≤ 60; rw [hU.2.2.2.2.1]; omega) md
    have tf' : mFq (mQ 0) T T1 := mFq_mono tf (fun k j hh => by unfold pQ at hh; unfold mQ; omega)
    have kT1 : gM T1 b Y mc wc (onE D U) P (dU G 1 0 0) := gM_D i1 tf' td (mU_0 kt (fun j a1 a2 => tf.1 _ _ (by unfold pQ; omega))) kt
    have hI2 : gI Y mc wc (onE D U) P (dU (dU G 1 0 0) 1 6 0) := gI_on i1 hE (fun _ => rfl)
    have kT : gM (xuI T1 0 65 (nI 0)) b Y mc wc (onE D U) P (dU (dU G 1 0 0) 1 6 0) := by
      have ff : mFq (fun k j => k = 0 ∧ j = 65) T1 (xuI T1 0 65 (nI 0)) := mFq_upd ⟨rfl, rfl⟩
      obtain ⟨h1, h2, h3, ⟨f0, hf0, h64, _, _⟩, ⟨h5a, h5b, h5c, h5d, h5e, h5f, h5g⟩, ⟨h6a, h6b, h6c⟩, h7a, h7b, u, u', fr, hu, hu', h73, h74, h75⟩ := kT1
      have e0 : ∀ j, j ≠ 65 → (xuI T1 0 65 (nI 0)).1 0 j = T1.1 0 j := fun j hj => ff.1 0 j (by omega)
      have e : ∀ k j, 1 ≤ k → (xuI T1 0 65 (nI 0)).1 k j = T1.1 k j := fun k j a1 => ff.1 k j (by omega)
      refine ⟨mY_fr ff (fun k j a1 a2 => by omega) (by omega) h1, fun s i hs hi => by rw [ff.2.1 _ (by omega)]; exact h2 s i hs hi, mD_fr hI.1 ff (fun k j a1 a2 a3 => by omega) (by show U 0 4 ≤ 60; rw [hU.2.2.2.2.1]; omega) h3, ⟨f0, hf0, by rw [e0 _ (by decide)]; exact h64, by rw [quI_e, dU_s], fun i hi => by rw [dU_s] at hi; omega⟩, ⟨fun i hi => by rw [e _ _ (by decide)]; exact h5a i hi, by rw [e0 _ (by decide)]; exact h5b, by rw [ff.2.1 _ (by decide)]; exact h5c, by rw [e0 _ (by decide)]; exact h5d, by rw [e0 _ (by decide)]; exact h5e, by rw [e0 _ (by decide)]; exact h5f, by rw [e0 _ (by decide)]; exact h5g⟩, ⟨fun i hi => by rw [e _ _ (by decide)]; exact h6a i hi, fun i hi => by rw [e _ _ (by decide)]; exact h6b i hi, fun i hi => by rw [e _ _ (by decide)]; exact h6c i hi⟩, by rw [e0 _ (by decide)]; exact h7a, by rw [e0 _ (by decide)]; exact h7b, u, u', fr, hu, hu', by rw [e0 _ (by decide)]; exact h73, by rw [e0 _ (by decide)]; exact h74, by rw [e0 _ (by decide)]; exact h75⟩
    refine ⟨nI 1, _, _, ?_, ?_, b, Y, mc, wc, onE D U, P, _, hb, gZ, kT, hI2⟩
    · simp (disch := (first | assumption | omega | exact hB _ _ | exact hYB _ _ | (simp only [yc, yd, sh, sv, ne_eq]; omega) | (simp (disch := omega) only [↓nm_1, ↓nm_2, nI_add, pk_mul, pk_sub, Nat.add_sub_cancel, qm1_add, qm2_add, nI_clamp, ni_0, ni_1, ni_5, c1, hr, ec, e1']; refine qin_nI ?_ ?_ <;> first | omega | exact hB _ _ | exact hYB _ _) | (refine qin_nI ?_ ?_ <;> omega) | fail)) only [↓yd0_gd hw, ↓yd0_gI hw, ↓yd0_gM hw, ↓yd0_pI hw, ↓yd0_pM hw, ↓yd0_pZ hw, ↓yd0_gF5 hw, ↓yd0_gF6 hw, ↓yd0_gF7 hw, ↓yd0_gF8 hw, ↓yd1_al hw, ↓yd1_as hw, ↓yd1_ln hw, ↓yd2_al hw, ↓yd2_as hw, ↓yd2_ln hw, ↓yd3_al hw, ↓yd3_as hw, ↓yd3_ln hw, ↓yd4_al hw, ↓yd4_as hw, ↓yd4_ln hw, ↓sh0_gd hw, ↓sh0_gI hw, ↓sh0_gM hw, ↓sh0_pI hw, ↓sh0_pM hw, ↓sh0_pZ hw, ↓sh0_gF0 hw, ↓sh0_gF1 hw, ↓sh0_gF2 hw, ↓sh0_gF3 hw, ↓sh1_al hw, ↓sh1_as hw, ↓sh1_ln hw, ↓sh2_al hw, ↓sh2_as hw, ↓sh2_ln hw, ↓sh3_al hw, ↓sh3_as hw, ↓sh3_ln hw, ↓kc0_gd, ↓kc0_gI, ↓kc0_gM, ↓kc0_pI, ↓kc0_pM, ↓kc0_pZ, ↓kc0_gF0, ↓kc0_gF4, ↓kc0_gF5, ↓kc0_gF6, ↓kc0_gF7, ↓kc0_gF8, ↓kc0_gF9, ↓kc0_gF10, ↓kc0_gF11, ↓kc0_gF12, ↓kc0_gF14, ↓kc1_al, ↓kc1_as, ↓kc1_ln, ↓kc41_gd, ↓kc41_gI, ↓kc41_gM, ↓kc41_pI, ↓kc41_pM, ↓kc41_pZ, ↓kc41_gF0, ↓kc41_gF1, ↓kc42_ql, ↓kc43_al, ↓kc43_as, ↓kc43_ln, ↓kc148_gd, ↓kc148_gI, ↓kc148_gM, ↓kc148_pI, ↓kc148_pM, ↓kc148_pZ, ↓kc148_gF0, ↓kc148_gF1, ↓kc148_gF2, ↓kc148_gF4, ↓kc148_gF5, ↓kc154_al, ↓kc154_as, ↓kc154_ln, ↓kc155_al, ↓kc155_as, ↓kc155_ln, ↓kc160_gd, ↓kc160_gI, ↓kc160_gM, ↓kc160_pI, ↓kc160_pM, ↓kc160_pZ, ↓kc160_gF0, ↓kc160_gF1, ↓kc161_al, ↓kc161_as, ↓kc161_ln, ↓kc162_gd, ↓kc162_gI, ↓kc162_gM, ↓kc162_pI, ↓kc162_pM, ↓kc162_pZ, ↓kc162_gF0, ↓kc162_gF1, ↓kc163_gd, ↓kc163_gI, ↓kc163_gM, ↓kc163_pI, ↓kc163_pM, ↓kc163_pZ, ↓kc163_gF0, ↓kc164_gd, ↓kc164_gI, ↓kc164_gM, ↓kc164_pI, ↓kc164_pM, ↓kc164_pZ, ↓kc164_gF0, ↓kc164_gF1, ↓kc164_gF2, ↓kc164_gF3, ↓kc165_al, ↓kc165_as, ↓kc165_ln, ↓kc166_al, ↓kc166_as, ↓kc166_ln, ↓kc167_al, ↓kc167_as, ↓kc167_ln, ↓kc168_al, ↓kc168_as, ↓kc168_ln, ↓kc169_gd, ↓kc169_gI, ↓kc169_gM, ↓kc169_pI, ↓kc169_pM, ↓kc169_pZ, ↓kc169_gF0, ↓kc169_gF2, ↓kc170_al, ↓kc170_as, ↓kc170_ln, ↓kc171_gd, ↓kc171_gI, ↓kc171_gM, ↓kc171_pI, ↓kc171_pM, ↓kc171_pZ, ↓kc171_gF5, ↓kc171_gF6, ↓kc171_gF7, ↓kc171_gF8, ↓kc172_al, ↓kc172_as, ↓kc172_ln, ↓kc173_al, ↓kc173_as, ↓kc173_ln, ↓kc174_al, ↓kc174_as, ↓kc174_ln, ↓kc175_al, ↓kc175_as, ↓kc175_ln, ↓kc176_al, ↓kc176_as, ↓kc176_ln, ↓kc177_al, ↓kc177_as, ↓kc177_ln, ↓qb_so, ↓nm_1, ↓nm_2, ↓reduceIte, if_true, if_false, not_true_eq_false, not_false_eq_true, and_true, true_and, and_false, false_and, or_true, true_or, or_false, false_or, eq_self, ne_eq, quI_s, quI_n, quI2, quL1, quL2, quL3, quR1, quR2, quR3, nI_add, pk_mul, pk_sub, Nat.add_sub_cancel, qm1_add, qm2_add, nI_leI, nI_ltI, nI_eq, nI_m1, nI_m1', nI_clamp, nI_bit, nI_one_shl, nI_m1l, nI_m1lt, nI_m1lt', nI_m1le', oI_some, oI_none, ni_0, ni_1, ni_5, fX11_on, fX3_clear, fX0_forget, qle_t, qle_f, qlt_t, qlt_f, qeq_t, qeq_f, c1, hr, ec, e1']
    · simp (disch := (first | assumption | omega | exact hB _ _ | exact hYB _ _ | (simp only [yc, yd, sh, sv, ne_eq]; omega) | (simp (disch := omega) only [↓nm_1, ↓nm_2, nI_add, pk_mul, pk_sub, Nat.add_sub_cancel, qm1_add, qm2_add, nI_clamp, ni_0, ni_1, ni_5, m1, em, t1]; refine qin_nI ?_ ?_ <;> first | omega | exact hB _ _ | exact hYB _ _) | (refine qin_nI ?_ ?_ <;> omega) | fail)) only [↓km0_gd, ↓km0_gI, ↓km0_gM, ↓km0_pI, ↓km0_pM, ↓km0_pZ, ↓km0_gL, ↓km0_pL, ↓qb_so, ↓nm_1, ↓nm_2, ↓reduceIte, if_true, if_false, not_true_eq_false, not_false_eq_true, and_true, true_and, and_false, false_and, or_true, true_or, or_false, false_or, eq_self, ne_eq, quI_s, quI_n, quI2, quL1, quL2, quL3, quR1, quR2, quR3, nI_add, pk_mul, pk_sub, Nat.add_sub_cancel, qm1_add, qm2_add, nI_leI, nI_ltI, nI_eq, nI_m1, nI_m1', nI_clamp, nI_bit, nI_one_shl, nI_m1l, nI_m1lt, nI_m1lt', nI_m1le', oI_some, oI_none, ni_0, ni_1, ni_5, fX12_on, qle_t, qle_f, qlt_t, qlt_f, qeq_t, qeq_f, m1, em, t1]
end Q70

