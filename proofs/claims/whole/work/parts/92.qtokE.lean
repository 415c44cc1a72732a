section Q92
variable {S Z V : xSt} {n L e : Nat} {f : Nat → Nat}
theorem m_nmL {s : Nat} (hs : s ≤ 1600) : ∀ (k i q : Nat) (o : Option Nat) (S : xSt), L ≤ s + i + k → k < q → s + i ≤ 1600 → txM S f L → S.1 0 6 = nI (s_nv f s (mn2 i 4) 0 0) → S.1 0 12 = oI o → (∀ x, o = some x → x < 2 ^ 31) → (4 < i → o ≠ none) →
    ∃ Z, fX12_ahead_L204 n 0 (nI 0) (nI 1) (nI 4) q (nI (s + i)) (nI i) S = some (nI (s_end isG f L k (s + i)), Z) ∧ Z.1 0 6 = nI (s_nv f s (mn2 (s_end isG f L k (s + i) - s) 4) 0 0) ∧ Z.1 0 12 = oI (s_lx o s 4 (s_end isG f L k (s + i) - s)) ∧ (∀ k j, ¬ (k = 0 ∧ (j = 12 ∨ j = 6)) → Z.1 k j = S.1 k j) ∧ Z.2 = S.2
  | k, i, q, o, S, hk, hq, hsi, ht, h7, h12, ho, h6 => by
    obtain ⟨q, rfl⟩ : ∃ q', q = q' + 1 := ⟨q - 1, by omega⟩
    have h2 := ht.2.1
    have hL := ht.2.2.1
    have hf := ht.2.2.2.1 (s + i)
    have eg : ∀ j, s + i - s = i := fun _ => by omega
    have elx : s_lx o s 4 i = o := by
      cases o with
      | some x => rfl
      | none =>
        unfold s_lx
        by_cases hi : 4 < i
        · exact absurd rfl (h6 hi)
        · rw [if_neg hi]
    have stop : s_end isG f L k (s + i) = s + i → fX12_ahead_L204b n 0 (nI 0) (nI 1) (nI 4) (fX12_ahead_L204 n 0 (nI 0) (nI 1) (nI 4) q) (nI (s + i)) (nI i) S = some (nI (s + i), S) → ∃ Z, fX12_ahead_L204 n 0 (nI 0) (nI 1) (nI 4) (q + 1) (nI (s + i)) (nI i) S = some (nI (s_end isG f L k (s + i)), Z) ∧ Z.1 0 6 = nI (s_nv f s (mn2 (s_end isG f L k (s + i) - s) 4) 0 0) ∧ Z.1 0 12 = oI (s_lx o s 4 (s_end isG f L k (s + i) - s)) ∧ (∀ k j, ¬ (k = 0 ∧ (j = 12 ∨ j = 6)) → Z.1 k j = S.1 k j) ∧ Z.2 = S.2 := by
      intro a1 a2
      rw [a1, show s + i - s = i by omega, elx]
      exact ⟨S, a2, h7, h12, fun _ _ _ => rfl, rfl⟩
    by_cases hl : s + i < L
    · have h1 := ht.1 (s + i) (by omega)
      have hl2 : ¬ L ≤ s + i := by omega
      obtain ⟨k, rfl⟩ : ∃ k', k = k' + 1 := ⟨k - 1, by omega⟩
      have e1 := m_isG (S := S) hf
      by_cases hc : isG (f (s + i)) = true
      · rw [if_pos hc] at e1
        have es : s_end isG f L (k + 1) (s + i) = s_end isG f L k (s + (i + 1)) := by
          show (if s + i < L then _ else _) = _
          rw [if_pos hl, if_pos hc]; rfl
        have hge := s_end_ge (p := isG) (f := f) (L := L) k (s + (i + 1))
        -- where it becomes too long
        obtain ⟨S1, o1, s1a, s1b, s1c, ho1, h61, elx2, b243⟩ : ∃ (S1 : xSt) (o1 : Option Nat), S1.1 0 12 = oI o1 ∧ (∀ k j, ¬ (k = 0 ∧ j = 12) → S1.1 k j = S.1 k j) ∧ S1.2 = S.2 ∧ (∀ x, o1 = some x → x < 2 ^ 31) ∧ (4 < i + 1 → o1 ≠ none) ∧ (∀ l, i + 1 ≤ l → s_lx o1 s 4 l = s_lx o s 4 l) ∧ (∀ V, fX12_ahead_B263_204 n (fX12_ahead_L204 n 0 (nI 0) (nI 1) (nI 4) q) 0 (nI (s + i)) (nI 0) (nI 1) (nI 4) (nI i) S1 = V → fX12_ahead_L204b n 0 (nI 0) (nI 1) (nI 4) (fX12_ahead_L204 n 0 (nI 0) (nI 1) (nI 4) q) (nI (s + i)) (nI i) S = V) := by
          by_cases hi : i = 4
          · have h1' : S.1 1 (s + 4) = nI (f (s + 4)) := by rw [← hi]; exact h1
            have e1' : fX12_isDigit (nI (f (s + 4))) S = some (nI 1) := by rw [← hi]; exact e1
            cases ho' : o with
            | none =>
              rw [ho'] at h12
              have h12' : S.1 0 12 = qm1 := h12
              refine ⟨xuI S 0 12 (nI (s + i)), some (s + i), quI_e, fun k j hk => quI_k hk, rfl, fun x hx => by cases hx; omega, fun _ hh => (by cases hh), fun l hl => ?_, fun V hV => ?_⟩
              · unfold s_lx; simp only; rw [if_pos (by omega), hi]
              · rw [← hV]
                simp (disch := (first | assumption | omega | exact hB _ _ | exact hYB _ _ | (simp only [yc, yd, sh, sv, ne_eq]; omega) | (simp (disch := omega) only [↓nm_1, ↓nm_2, nI_add, pk_mul, pk_sub, Nat.add_sub_cancel, qm1_add, qm2_add, nI_clamp, ni_0, ni_1, h2, hl2, hi, h1', e1', h12']; refine qin_nI ?_ ?_ <;> first | omega | exact hB _ _ | exact hYB _ _) | (refine qin_nI ?_ ?_ <;> omega) | fail)) only [↓km0_gd, ↓km0_gI, ↓km0_gM, ↓km0_pI, ↓km0_pM, ↓km0_pZ, ↓km0_gL, ↓km0_pL, ↓km0_gF0, ↓km1_al, ↓km1_as, ↓km1_ln, ↓qb_so, ↓nm_1, ↓nm_2, ↓reduceIte, if_true, if_false, not_true_eq_false, not_false_eq_true, and_true, true_and, and_false, false_and, or_true, true_or, or_false, false_or, eq_self, ne_eq, quI_s, quI_n, quI2, quL1, quL2, quL3, quR1, quR2, quR3, nI_add, pk_mul, pk_sub, Nat.add_sub_cancel, qm1_add, qm2_add, nI_leI, nI_ltI, nI_eq, nI_m1, nI_m1', nI_clamp, nI_bit, nI_one_shl, nI_m1l, nI_m1lt, nI_m1lt', nI_m1le', oI_some, oI_none, ni_0, ni_1, fX12_ahead_L204b, fX12_ahead_B243_204, qle_t, qle_f, qlt_t, qlt_f, qeq_t, qeq_f, h2, hl2, hi, h1', e1', h12']
            | some x =>
              have hx := ho x ho'
              rw [ho'] at h12
              have h12' : S.1 0 12 = nI x := h12
              refine ⟨S, some x, h12, fun _ _ _ => rfl, rfl, fun y hy => by cases hy; exact hx, fun _ hh => (by cases hh), fun l hl => rfl, fun V hV => ?_⟩
              rw [← hV]
              simp (disch := (first | assumption | omega | exact hB _ _ | exact hYB _ _ | (simp only [yc, yd, sh, sv, ne_eq]; omega) | (simp (disch := omega) only [↓nm_1, ↓nm_2, nI_add, pk_mul, pk_sub, Nat.add_sub_cancel, qm1_add, qm2_add, nI_clamp, ni_0, ni_1, h2, hl2, hi, h1', e1', h12']; refine qin_nI ?_ ?_ <;> first | omega | exact hB _ _ | exact hYB _ _) | (refine qin_nI ?_ ?_ <;> omega) | fail)) only [↓km0_gd, ↓km0_gI, ↓km0_gM, ↓km0_pI, ↓km0_pM, ↓km0_pZ, ↓km0_gL, ↓km0_pL, ↓km0_gF0, ↓km1_al, ↓km1_as, ↓km1_ln, ↓qb_so, ↓nm_1, ↓nm_2, ↓reduceIte, if_true, if_false, not_true_eq_false, not_false_eq_true, and_true, true_and, and_false, false_and, or_true, true_or, or_false, false_or, eq_self, ne_eq, quI_s, quI_n, quI2, quL1, quL2, quL3, quR1, quR2, quR3, nI_add, pk_mul, pk_sub, Nat.add_sub_cancel, qm1_add, qm2_add, nI_leI, nI_ltI, nI_eq, nI_m1, nI_m1', nI_clamp, nI_bit, nI_one_shl, nI_m1l, nI_m1lt, nI_m1lt', nI_m1le', oI_some, oI_none, ni_0, ni_1, fX12_ahead_L204b, fX12_ahead_B243_204, qle_t, qle_f, qlt_t, qlt_f, qeq_t, qeq_f, h2, hl2, hi, h1', e1', h12']
          · refine ⟨S, o, h12, fun _ _ _ => rfl, rfl, ho, fun h => h6 (by omega), fun l hl => rfl, fun V hV => ?_⟩
            rw [← hV]
            simp (disch := (first | assumption | omega | exact hB _ _ | exact hYB _ _ | (simp only [yc, yd, sh, sv, ne_eq]; omega) | (simp (disch := omega) only [↓nm_1, ↓nm_2, nI_add, pk_mul, pk_sub, Nat.add_sub_cancel, qm1_add, qm2_add, nI_clamp, ni_0, ni_1, h2, hl2, h1, e1, hi]; refine qin_nI ?_ ?_ <;> first | omega | exact hB _ _ | exact hYB _ _) | (refine qin_nI ?_ ?_ <;> omega) | fail)) only [↓km0_gd, ↓km0_gI, ↓km0_gM, ↓km0_pI, ↓km0_pM, ↓km0_pZ, ↓km0_gL, ↓km0_pL, ↓km0_gF0, ↓km1_al, ↓km1_as, ↓km1_ln, ↓qb_so, ↓nm_1, ↓nm_2, ↓reduceIte, if_true, if_false, not_true_eq_false, not_false_eq_true, and_true, true_and, and_false, false_and, or_true, true_or, or_false, false_or, eq_self, ne_eq, quI_s, quI_n, quI2, quL1, quL2, quL3, quR1, quR2, quR3, nI_add, pk_mul, pk_sub, Nat.add_sub_cancel, qm1_add, qm2_add, nI_leI, nI_ltI, nI_eq, nI_m1, nI_m1', nI_clamp, nI_bit, nI_one_shl, nI_m1l, nI_m1lt, nI_m1lt', nI_m1le', oI_some, oI_none, ni_0, ni_1, fX12_ahead_L204b, fX12_ahead_B243_204, qle_t, qle_f, qlt_t, qlt_f, qeq_t, qeq_f, h2, hl2, h1, e1, hi]
        have g1 : S1.1 1 (s + i) = nI (f (s + i)) := by rw [s1b 1 (s + i) (by omega)]; exact h1
        have g7 : S1.1 0 6 = nI (s_nv f s (mn2 i 4) 0 0) := by rw [s1b 0 6 (by omega)]; exact h7
        have hcb := isG_iff.mp hc
        obtain ⟨S2, s2b, s2c, s2d, b263⟩ : ∃ S2 : xSt, S2.1 0 6 = nI (s_nv f s (mn2 (i + 1) 4) 0 0) ∧ (∀ k j, ¬ (k = 0 ∧ j = 6) → S2.1 k j = S1.1 k j) ∧ S2.2 = S.2 ∧ (∀ V, fX12_ahead_L204 n 0 (nI 0) (nI 1) (nI 4) q (nI (s + i + 1)) (nI (i + 1)) S2 = V → fX12_ahead_B263_204 n (fX12_ahead_L204 n 0 (nI 0) (nI 1) (nI 4) q) 0 (nI (s + i)) (nI 0) (nI 1) (nI 4) (nI i) S1 = V) := by
          by_cases hi : i < 4
          · have hi2 : ¬ 4 ≤ i := by omega
            have hm2 : mn2 i 4 = i := by unfold mn2; rw [if_pos hi]
            have hm : mn2 (i + 1) 4 = i + 1 := by unfold mn2; split <;> omega
            rw [hm2] at g7
            have ev : 10 * s_nv f s i 0 0 + f (s + i) - 48 = s_nv f s i 0 0 * 10 + (f (s + i) - 48) := by omega
            refine ⟨xuI S1 0 6 (nI (s_nv f s i 0 0 * 10 + (f (s + i) - 48))), ?_, fun k j hk => quI_k hk, by show S1.2 = _; rw [s1c], fun V hV => ?_⟩
            · rw [quI_e, hm, s_nv_sn]; rfl
            · rw [← hV]
              simp (disch := (first | assumption | omega | exact hB _ _ | exact hYB _ _ | (simp only [yc, yd, sh, sv, ne_eq]; omega) | (simp (disch := omega) only [↓nm_1, ↓nm_2, nI_add, pk_mul, pk_sub, Nat.add_sub_cancel, qm1_add, qm2_add, nI_clamp, ni_0, ni_1, ni_8, ni_10, ni_48, hi2, g7, g1, ev]; refine qin_nI ?_ ?_ <;> first | omega | exact hB _ _ | exact hYB _ _) | (refine qin_nI ?_ ?_ <;> omega) | fail)) only [↓km0_gd, ↓km0_gI, ↓km0_gM, ↓km0_pI, ↓km0_pM, ↓km0_pZ, ↓km0_gL, ↓km0_pL, ↓km0_gF0, ↓km1_al, ↓km1_as, ↓km1_ln, ↓qb_so, ↓nm_1, ↓nm_2, ↓reduceIte, if_true, if_false, not_true_eq_false, not_false_eq_true, and_true, true_and, and_false, false_and, or_true, true_or, or_false, false_or, eq_self, ne_eq, quI_s, quI_n, quI2, quL1, quL2, quL3, quR1, quR2, quR3, nI_add, pk_mul, pk_sub, Nat.add_sub_cancel, qm1_add, qm2_add, nI_leI, nI_ltI, nI_eq, nI_m1, nI_m1', nI_clamp, nI_bit, nI_one_shl, nI_m1l, nI_m1lt, nI_m1lt', nI_m1le', oI_some, oI_none, ni_0, ni_1, ni_8, ni_10, ni_48, fX12_ahead_B263_204, fX12_ahead_B293_204, qle_t, qle_f, qlt_t, qlt_f, qeq_t, qeq_f, hi2, g7, g1, ev]
          · have hi2 : 4 ≤ i := by omega
            have hm2 : mn2 i 4 = 4 := by unfold mn2; rw [if_neg hi]
            have hm : mn2 (i + 1) 4 = 4 := by unfold mn2; rw [if_neg (by omega)]
            rw [hm2] at g7
            refine ⟨S1, by rw [hm]; exact g7, fun k j hk => rfl, s1c, fun V hV => ?_⟩
            rw [← hV]
            simp (disch := (first | assumption | omega | exact hB _ _ | exact hYB _ _ | (simp only [yc, yd, sh, sv, ne_eq]; omega) | (simp (disch := omega) only [↓nm_1, ↓nm_2, nI_add, pk_mul, pk_sub, Nat.add_sub_cancel, qm1_add, qm2_add, nI_clamp, ni_0, ni_1, ni_8, ni_10, ni_48, hi2]; refine qin_nI ?_ ?_ <;> first | omega | exact hB _ _ | exact hYB _ _) | (refine qin_nI ?_ ?_ <;> omega) | fail)) only [↓km0_gd, ↓km0_gI, ↓km0_gM, ↓km0_pI, ↓km0_pM, ↓km0_pZ, ↓km0_gL, ↓km0_pL, ↓km0_gF0, ↓km1_al, ↓km1_as, ↓km1_ln, ↓qb_so, ↓nm_1, ↓nm_2, ↓reduceIte, if_true, if_false, not_true_eq_false, not_false_eq_true, and_true, true_and, and_false, false_and, or_true, true_or, or_false, false_or, eq_self, ne_eq, quI_s, quI_n, quI2, quL1, quL2, quL3, quR1, quR2, quR3, nI_add, pk_mul, pk_sub, Nat.add_sub_cancel, qm1_add, qm2_add, nI_leI, nI_ltI, nI_eq, nI_m1, nI_m1', nI_clamp, nI_bit, nI_one_shl, nI_m1l, nI_m1lt, nI_m1lt', nI_m1le', oI_some, oI_none, ni_0, ni_1, ni_8, ni_10, ni_48, fX12_ahead_B263_204, fX12_ahead_B293_204, qle_t, qle_f, qlt_t, qlt_f, qeq_t, qeq_f, hi2]
        have ht2 : txM S2 f L := ⟨fun x hx => by rw [s2c 1 x (by omega), s1b 1 x (by omega)]; exact ht.1 x hx, by rw [s2c 0 2 (by omega), s1b 0 2 (by omega)]; exact h2, hL, ht.2.2.2.1, by rw [s2c 0 9 (by omega), s1b 0 9 (by omega)]; exact ht.2.2.2.2⟩
        obtain ⟨Z, e2, z1, z2, z3, z4⟩ := m_nmL hs k (i + 1) q o1 S2 (by omega) (by omega) (by omega) ht2 s2b (by rw [s2c 0 12 (by omega)]; exact s1a) ho1 h61
        rw [es]
        rw [elx2 _ (by omega)] at z2
        refine ⟨Z, ?_, z1, z2, fun k j hk => by rw [z3 k j hk, s2c k j (by omega), s1b k j (by omega)], by rw [z4, s2d]⟩
        exact b243 _ (b263 _ e2)
      · rw [if_neg hc] at e1
        refine stop (by show (if s + i < L then _ else _) = _; rw [if_pos hl, if_neg hc]) ?_
        simp (disch := (first | assumption | omega | exact hB _ _ | exact hYB _ _ | (simp only [yc, yd, sh, sv, ne_eq]; omega) | (simp (disch := omega) only [↓nm_1, ↓nm_2, nI_add, pk_mul, pk_sub, Nat.add_sub_cancel, qm1_add, qm2_add, nI_clamp, ni_0, ni_1, h2, hl2, h1, e1]; refine qin_nI ?_ ?_ <;> first | omega | exact hB _ _ | exact hYB _ _) | (refine qin_nI ?_ ?_ <;> omega) | fail)) only [↓km0_gd, ↓km0_gI, ↓km0_gM, ↓km0_pI, ↓km0_pM, ↓km0_pZ, ↓km0_gL, ↓km0_pL, ↓km0_gF0, ↓km1_al, ↓km1_as, ↓km1_ln, ↓qb_so, ↓nm_1, ↓nm_2, ↓reduceIte, if_true, if_false, not_true_eq_false, not_false_eq_true, and_true, true_and, and_false, false_and, or_true, true_or, or_false, false_or, eq_self, ne_eq, quI_s, quI_n, quI2, quL1, quL2, quL3, quR1, quR2, quR3, nI_add, pk_mul, pk_sub, Nat.add_sub_cancel, qm1_add, qm2_add, nI_leI, nI_ltI, nI_eq, nI_m1, nI_m1', nI_clamp, nI_bit, nI_one_shl, nI_m1l, nI_m1lt, nI_m1lt', nI_m1le', oI_some, oI_none, ni_0, ni_1, fX12_ahead_L204b, qle_t, qle_f, qlt_t, qlt_f, qeq_t, qeq_f, h2, hl2, h1, e1]
    · have hl2 : L ≤ s + i := by omega
      refine stop ?_ ?_
      · cases k with
        | zero => rfl
        | succ k => show (if s + i < L then _ else _) = _; rw [if_neg hl]
      · simp (disch := (first | assumption | omega | exact hB _ _ | exact hYB _ _ | (simp only [yc, yd, sh, sv, ne_eq]; omega) | (simp (disch := omega) only [↓nm_1, ↓nm_2, nI_add, pk_mul, pk_sub, Nat.add_sub_cancel, qm1_add, qm2_add, nI_clamp, ni_0, ni_1, h2, hl2]; refine qin_nI ?_ ?_ <;> first | omega | exact hB _ _ | exact hYB _ _) | (refine qin_nI ?_ ?_ <;> omega) | fail)) only [↓km0_gd, ↓km0_gI, ↓km0_gM, ↓km0_pI, ↓km0_pM, ↓km0_pZ, ↓km0_gL, ↓km0_pL, ↓km0_gF0, ↓km1_al, ↓km1_as, ↓km1_ln, ↓qb_so, ↓nm_1, ↓nm_2, ↓reduceIte, if_true, if_false, not_true_eq_false, not_false_eq_true, and_true, true_and, and_false, false_and, or_true, true_or, or_false, false_or, eq_self, ne_eq, quI_s, quI_n, quI2, quL1, quL2, quL3, quR1, quR2, quR3, nI_add, pk_mul, pk_sub, Nat.add_sub_cancel, qm1_add, qm2_add, nI_leI, nI_ltI, nI_eq, nI_m1, nI_m1', nI_clamp, nI_bit, nI_one_shl, nI_m1l, nI_m1lt, nI_m1lt', nI_m1le', oI_some, oI_none, ni_0, ni_1, fX12_ahead_L204b, qle_t, qle_f, qlt_t, qlt_f, qeq_t, qeq_f, h2, hl2]
  termination_by k => k

theorem m_B98 {s : Nat} (ht : txM S f L) (hs : s < 1600) (a2 a3 : Int32) : ((sdB f s) ∧ fX12_ahead_B98 n 0 (nI s) a2 a3 S = fX12_ahead_B135 n 0 (nI s) a2 a3 (xuI S 0 12 (nI s))) ∨ (¬ sdB f s ∧ fX12_ahead_B98 n 0 (nI s) a2 a3 S = fX12_ahead_B135 n 0 (nI s) a2 a3 S) := by
  by_cases h0 : s ≤ 0
  · right
    refine ⟨fun hh => by have := hh.1; omega, ?_⟩
    simp (disch := (first | assumption | omega | exact hB _ _ | exact hYB _ _ | (simp only [yc, yd, sh, sv, ne_eq]; omega) | (simp (disch := omega) only [↓nm_1, ↓nm_2, nI_add, pk_mul, pk_sub, Nat.add_sub_cancel, qm1_add, qm2_add, nI_clamp, ni_0, ni_1, h0]; refine qin_nI ?_ ?_ <;> first | omega | exact hB _ _ | exact hYB _ _) | (refine qin_nI ?_ ?_ <;> omega) | fail)) only [↓km0_gd, ↓km0_gI, ↓km0_gM, ↓km0_pI, ↓km0_pM, ↓km0_pZ, ↓km0_gL, ↓km0_pL, ↓km0_gF0, ↓km1_al, ↓km1_as, ↓km1_ln, ↓qb_so, ↓nm_1, ↓nm_2, ↓reduceIte, if_true, if_false, not_true_eq_false, not_false_eq_true, and_true, true_and, and_false, false_and, or_true, true_or, or_false, false_or, eq_self, ne_eq, quI_s, quI_n, quI2, quL1, quL2, quL3, quR1, quR2, quR3, nI_add, pk_mul, pk_sub, Nat.add_sub_cancel, qm1_add, qm2_add, nI_leI, nI_ltI, nI_eq, nI_m1, nI_m1', nI_clamp, nI_bit, nI_one_shl, nI_m1l, nI_m1lt, nI_m1lt', nI_m1le', oI_some, oI_none, ni_0, ni_1, fX12_ahead_B98, qle_t, qle_f, qlt_t, qlt_f, qeq_t, qeq_f, h0]
  · have h1 := ht.1 (s - 1) (by omega)
    have hf := ht.2.2.2.1 (s - 1)
    have e1 := m_isL (S := S) hf
    have e2 := m_isG (S := S) hf
    cases hl : isL (f (s - 1)) with
    | true =>
      left
      rw [hl, if_pos rfl] at e1
      refine ⟨⟨by omega, by rw [hl]; rfl⟩, ?_⟩
      simp (disch := (first | assumption | omega | exact hB _ _ | exact hYB _ _ | (simp only [yc, yd, sh, sv, ne_eq]; omega) | (simp (disch := omega) only [↓nm_1, ↓nm_2, nI_add, pk_mul, pk_sub, Nat.add_sub_cancel, qm1_add, qm2_add, nI_clamp, ni_0, ni_1, h0, h1, e1]; refine qin_nI ?_ ?_ <;> first | omega | exact hB _ _ | exact hYB _ _) | (refine qin_nI ?_ ?_ <;> omega) | fail)) only [↓km0_gd, ↓km0_gI, ↓km0_gM, ↓km0_pI, ↓km0_pM, ↓km0_pZ, ↓km0_gL, ↓km0_pL, ↓km0_gF0, ↓km1_al, ↓km1_as, ↓km1_ln, ↓qb_so, ↓nm_1, ↓nm_2, ↓reduceIte, if_true, if_false, not_true_eq_false, not_false_eq_true, and_true, true_and, and_false, false_and, or_true, true_or, or_false, false_or, eq_self, ne_eq, quI_s, quI_n, quI2, quL1, quL2, quL3, quR1, quR2, quR3, nI_add, pk_mul, pk_sub, Nat.add_sub_cancel, qm1_add, qm2_add, nI_leI, nI_ltI, nI_eq, nI_m1, nI_m1', nI_clamp, nI_bit, nI_one_shl, nI_m1l, nI_m1lt, nI_m1lt', nI_m1le', oI_some, oI_none, ni_0, ni_1, fX12_ahead_B98, fX12_ahead_B130, qle_t, qle_f, qlt_t, qlt_f, qeq_t, qeq_f, h0, h1, e1]
    | false =>
      rw [hl] at e1
      have e1' : fX12_isLetter (nI (f (s - 1))) S = some (nI 0) := e1
      cases hg : isG (f (s - 1)) with
      | true =>
        left
        rw [hg, if_pos rfl] at e2
        refine ⟨⟨by omega, by rw [hl, hg]; rfl⟩, ?_⟩
        simp (disch := (first | assumption | omega | exact hB _ _ | exact hYB _ _ | (simp only [yc, yd, sh, sv, ne_eq]; omega) | (simp (disch := omega) only [↓nm_1, ↓nm_2, nI_add, pk_mul, pk_sub, Nat.add_sub_cancel, qm1_add, qm2_add, nI_clamp, ni_0, ni_1, h0, h1, e1', e2]; refine qin_nI ?_ ?_ <;> first | omega | exact hB _ _ | exact hYB _ _) | (refine qin_nI ?_ ?_ <;> omega) | fail)) only [↓km0_gd, ↓km0_gI, ↓km0_gM, ↓km0_pI, ↓km0_pM, ↓km0_pZ, ↓km0_gL, ↓km0_pL, ↓km0_gF0, ↓km1_al, ↓km1_as, ↓km1_ln, ↓qb_so, ↓nm_1, ↓nm_2, ↓reduceIte, if_true, if_false, not_true_eq_false, not_false_eq_true, and_true, true_and, and_false, false_and, or_true, true_or, or_false, false_or, eq_self, ne_eq, quI_s, quI_n, quI2, quL1, quL2, quL3, quR1, quR2, quR3, nI_add, pk_mul, pk_sub, Nat.add_sub_cancel, qm1_add, qm2_add, nI_leI, nI_ltI, nI_eq, nI_m1, nI_m1', nI_clamp, nI_bit, nI_one_shl, nI_m1l, nI_m1lt, nI_m1lt', nI_m1le', oI_some, oI_none, ni_0, ni_1, fX12_ahead_B98, fX12_ahead_B130, qle_t, qle_f, qlt_t, qlt_f, qeq_t, qeq_f, h0, h1, e1', e2]
      | false =>
        right
        rw [hg] at e2
        have e2' : fX12_isDigit (nI (f (s - 1))) S = some (nI 0) := e2
        refine ⟨fun hh => (by have := hh.2; rw [hl, hg] at this; cases this), ?_⟩
        simp (disch := (first | assumption | omega | exact hB _ _ | exact hYB _ _ | (simp only [yc, yd, sh, sv, ne_eq]; omega) | (simp (disch := omega) only [↓nm_1, ↓nm_2, nI_add, pk_mul, pk_sub, Nat.add_sub_cancel, qm1_add, qm2_add, nI_clamp, ni_0, ni_1, h0, h1, e1', e2']; refine qin_nI ?_ ?_ <;> first | omega | exact hB _ _ | exact hYB _ _) | (refine qin_nI ?_ ?_ <;> omega) | fail)) only [↓km0_gd, ↓km0_gI, ↓km0_gM, ↓km0_pI, ↓km0_pM, ↓km0_pZ, ↓km0_gL, ↓km0_pL, ↓km0_gF0, ↓km1_al, ↓km1_as, ↓km1_ln, ↓qb_so, ↓nm_1, ↓nm_2, ↓reduceIte, if_true, if_false, not_true_eq_false, not_false_eq_true, and_true, true_and, and_false, false_and, or_true, true_or, or_false, false_or, eq_self, ne_eq, quI_s, quI_n, quI2, quL1, quL2, quL3, quR1, quR2, quR3, nI_add, pk_mul, pk_sub, Nat.add_sub_cancel, qm1_add, qm2_add, nI_leI, nI_ltI, nI_eq, nI_m1, nI_m1', nI_clamp, nI_bit, nI_one_shl, nI_m1l, nI_m1lt, nI_m1lt', nI_m1le', oI_some, oI_none, ni_0, ni_1, fX12_ahead_B98, qle_t, qle_f, qlt_t, qlt_f, qeq_t, qeq_f, h0, h1, e1', e2']
theorem mn2_k {m : Nat} : mn2 (kE f L e - kS f L e) m = kM f L e m := rfl
theorem m_ahead {a : Nat} (hn : 2000 ≤ n) (ht : txM S f L) (h5 : S.1 0 5 = nI a) (ha : a ≤ L) : ∃ Z, fX12_ahead n 0 S = some Z ∧ tkM Z f L a ∧ frM S Z := by
  have hL := ht.2.2.1
  have e0 := m_skL (n := n) ht 1600 n a (by omega) (by omega) (by omega)
  have hse : s_sk f L 1600 a = kS f L a := rfl
  rw [hse] at e0
  have sle : kS f L a ≤ L := s_sk_le (f := f) (L := L) 1600 a ha
  let S16 : xSt := xuI (xuI (xuI (xuI S 0 4 (nI (kS f L a))) 0 5 (nI (kS f L a))) 0 3 (nI 0)) 0 12 qm1
  have f16 : frM S S16 := frM_trans (frM_trans (frM_trans (frM_up (by omega)) (frM_up (by omega))) (frM_up (by omega))) (frM_up (by omega))
  have ht16 := txM_fr ht f16
  have h216 := ht16.2.1
  by_cases hsl : kS f L a < L
  · have hf := ht.2.2.2.1 (kS f L a)
    have h116 := ht16.1 (kS f L a) (by omega)
    have eL := m_isL (S := S16) hf
    have eG := m_isG (S := S16) hf
    have ePre : ∀ (x y : Nat) V, fX12_isLetter (nI (f (kS f L a))) S16 = some (nI x) → fX12_isDigit (nI (f (kS f L a))) S16 = some (nI y) → x ≤ 1 → y ≤ 1 → (if x = 0 then (if y = 0 then fX12_ahead_B135 n 0 (nI (kS f L a)) (nI x) (nI y) S16 else fX12_ahead_B98 n 0 (nI (kS f L a)) (nI x) (nI y) S16) else fX12_ahead_B98 n 0 (nI (kS f L a)) (nI x) (nI y) S16) = V → fX12_ahead n 0 S = V := by
      intro x y V hx hy hx1 hy1 hV
      rw [← hV]
      have hx' : fX12_isLetter (nI (f (kS f L a))) (xuI (xuI (xuI (xuI S 0 4 (nI (kS f L a))) 0 5 (nI (kS f L a))) 0 3 (nI 0)) 0 12 qm1) = some (nI x) := hx
      have hy' : fX12_isDigit (nI (f (kS f L a))) (xuI (xuI (xuI (xuI S 0 4 (nI (kS f L a))) 0 5 (nI (kS f L a))) 0 3 (nI 0)) 0 12 qm1) = some (nI y) := hy
      have h2 := ht.2.1
      have h1 := ht.1 (kS f L a) (by omega)
      rcases (by omega : x = 0 ∨ x = 1) with rfl | rfl
      · rcases (by omega : y = 0 ∨ y = 1) with rfl | rfl
        · simp (disch := (first | assumption | omega | exact hB _ _ | exact hYB _ _ | (simp only [yc, yd, sh, sv, ne_eq]; omega) | (simp (disch := omega) only [↓nm_1, ↓nm_2, nI_add, pk_mul, pk_sub, Nat.add_sub_cancel, qm1_add, qm2_add, nI_clamp, ni_0, ni_1, h5, e0, h2, hsl, h1, hx', hy']; refine qin_nI ?_ ?_ <;> first | omega | exact hB _ _ | exact hYB _ _) | (refine qin_nI ?_ ?_ <;> omega) | fail)) only [↓km0_gd, ↓km0_gI, ↓km0_gM, ↓km0_pI, ↓km0_pM, ↓km0_pZ, ↓km0_gL, ↓km0_pL, ↓km0_gF0, ↓km1_al, ↓km1_as, ↓km1_ln, ↓qb_so, ↓nm_1, ↓nm_2, ↓reduceIte, if_true, if_false, not_true_eq_false, not_false_eq_true, and_true, true_and, and_false, false_and, or_true, true_or, or_false, false_or, eq_self, ne_eq, quI_s, quI_n, quI2, quL1, quL2, quL3, quR1, quR2, quR3, nI_add, pk_mul, pk_sub, Nat.add_sub_cancel, qm1_add, qm2_add, nI_leI, nI_ltI, nI_eq, nI_m1, nI_m1', nI_clamp, nI_bit, nI_one_shl, nI_m1l, nI_m1lt, nI_m1lt', nI_m1le', oI_some, oI_none, ni_0, ni_1, fX12_ahead, fX12_ahead_B41, qle_t, qle_f, qlt_t, qlt_f, qeq_t, qeq_f, h5, e0, h2, hsl, h1, hx', hy']
          rfl
        · simp (disch := (first | assumption | omega | exact hB _ _ | exact hYB _ _ | (simp only [yc, yd, sh, sv, ne_eq]; omega) | (simp (disch := omega) only [↓nm_1, ↓nm_2, nI_add, pk_mul, pk_sub, Nat.add_sub_cancel, qm1_add, qm2_add, nI_clamp, ni_0, ni_1, h5, e0, h2, hsl, h1, hx', hy']; refine qin_nI ?_ ?_ <;> first | omega | exact hB _ _ | exact hYB _ _) | (refine qin_nI ?_ ?_ <;> omega) | fail)) only [↓km0_gd, ↓km0_gI, ↓km0_gM, ↓km0_pI, ↓km0_pM, ↓km0_pZ, ↓km0_gL, ↓km0_pL, ↓km0_gF0, ↓km1_al, ↓km1_as, ↓km1_ln, ↓qb_so, ↓nm_1, ↓nm_2, ↓reduceIte, if_true, if_false, not_true_eq_false, not_false_eq_true, and_true, true_and, and_false, false_and, or_true, true_or, or_false, false_or, eq_self, ne_eq, quI_s, quI_n, quI2, quL1, quL2, quL3, quR1, quR2, quR3, nI_add, pk_mul, pk_sub, Nat.add_sub_cancel, qm1_add, qm2_add, nI_leI, nI_ltI, nI_eq, nI_m1, nI_m1', nI_clamp, nI_bit, nI_one_shl, nI_m1l, nI_m1lt, nI_m1lt', nI_m1le', oI_some, oI_none, ni_0, ni_1, fX12_ahead, fX12_ahead_B41, qle_t, qle_f, qlt_t, qlt_f, qeq_t, qeq_f, h5, e0, h2, hsl, h1, hx', hy']
          rfl
      · simp (disch := (first | assumption | omega | exact hB _ _ | exact hYB _ _ | (simp only [yc, yd, sh, sv, ne_eq]; omega) | (simp (disch := omega) only [↓nm_1, ↓nm_2, nI_add, pk_mul, pk_sub, Nat.add_sub_cancel, qm1_add, qm2_add, nI_clamp, ni_0, ni_1, h5, e0, h2, hsl, h1, hx', hy']; refine qin_nI ?_ ?_ <;> first | omega | exact hB _ _ | exact hYB _ _) | (refine qin_nI ?_ ?_ <;> omega) | fail)) only [↓km0_gd, ↓km0_gI, ↓km0_gM, ↓km0_pI, ↓km0_pM, ↓km0_pZ, ↓km0_gL, ↓km0_pL, ↓km0_gF0, ↓km1_al, ↓km1_as, ↓km1_ln, ↓qb_so, ↓nm_1, ↓nm_2, ↓reduceIte, if_true, if_false, not_true_eq_false, not_false_eq_true, and_true, true_and, and_false, false_and, or_true, true_or, or_false, false_or, eq_self, ne_eq, quI_s, quI_n, quI2, quL1, quL2, quL3, quR1, quR2, quR3, nI_add, pk_mul, pk_sub, Nat.add_sub_cancel, qm1_add, qm2_add, nI_leI, nI_ltI, nI_eq, nI_m1, nI_m1', nI_clamp, nI_bit, nI_one_shl, nI_m1l, nI_m1lt, nI_m1lt', nI_m1le', oI_some, oI_none, ni_0, ni_1, fX12_ahead, fX12_ahead_B41, qle_t, qle_f, qlt_t, qlt_f, qeq_t, qeq_f, h5, e0, h2, hsl, h1, hx', hy']
        rfl
    by_cases hw : isL (f (kS f L a)) = true
    · -- a word
      have nG : isG (f (kS f L a)) = false := by
        have := isL_iff.mp hw
        cases hg : isG (f (kS f L a)) with
        | false => rfl
        | true => have := isG_iff.mp hg; omega
      rw [if_pos hw] at eL
      rw [nG] at eG
      have eT : kT f L a = 1 := by unfold kT; rw [if_pos hsl, if_pos hw]
      have eE : kE f L a = s_end isL f L 1600 (kS f L a) := by unfold kE; rw [eT]; rfl
      have fin : ∀ (o : Option Nat) (S0 : xSt), (∀ x, o = some x → x < 2 ^ 31) → txM S0 f L → S0.1 0 12 = oI o → S0.1 0 4 = nI (kS f L a) → frM S S0 → s_lx o (kS f L a) 6 (kE f L a - kS f L a) = kW f L a → ∃ Z, fX12_ahead_B135 n 0 (nI (kS f L a)) (nI 1) (nI 0) S0 = some Z ∧ tkM Z f L a ∧ frM S Z := by
        intro o S0 ho ht0 h12 h4 f0 hx
        let S28 : xSt := xuI (xuI (xuI (xuL (xuI S0 0 6 (nI 0)) 0 7 (lN 0)) 0 3 (nI 3)) 0 5 (nI (kS f L a + 1))) 0 3 (nI 1)
        have f28 : frM S0 S28 := frM_trans (frM_trans (frM_trans (frM_trans (frM_up (by omega)) frM_upL) (frM_up (by omega))) (frM_up (by omega))) (frM_up (by omega))
        obtain ⟨Z, e2, z1, z2, z3, z4, z5⟩ := m_wdL (n := n) (f := f) (L := L) (s := kS f L a) (by omega) 1600 0 n o S28 (by omega) (by omega) (by omega) (txM_fr ht0 f28) (by show (lN 0) = _; rfl) (by rw [quI_k (by omega), quI_k (by omega), quI_k (by omega)]; show (xuI S0 0 6 (nI 0)).1 0 12 = _; rw [quI_k (by omega)]; exact h12) ho (fun h => by omega)
        rw [Nat.add_zero] at e2 z1 z2
        rw [← eE] at e2 z1 z2
        rw [hx] at z2
        have fz : frM S28 Z := ⟨fun k j hk => z3 k j (by omega), z4, z5⟩
        have z3' : Z.1 0 3 = nI 1 := by rw [z3 0 3 (by omega), quI_e]
        have z4' : Z.1 0 4 = nI (kS f L a) := by rw [z3 0 4 (by omega), quI_k (by omega), quI_k (by omega), quI_k (by omega)]; show (xuI S0 0 6 (nI 0)).1 0 4 = _; rw [quI_k (by omega)]; exact h4
        have fall : frM S (xuI Z 0 5 (nI (kE f L a))) := frM_trans f0 (frM_trans f28 (frM_trans fz (frM_up (by omega))))
        refine ⟨xuI Z 0 5 (nI (kE f L a)), ?_, ⟨txM_fr ht fall, ?_, ?_, quI_e, ?_, fun hh => by omega, fun _ => z1⟩, fall⟩
        · have e2' : fX12_ahead_L204 n 0 (nI 1) (nI 0) (nI 6) n (nI (kS f L a)) (nI 0) (xuI (xuI (xuI (xuL (xuI S0 0 6 (nI 0)) 0 7 (lN 0)) 0 3 (nI 3)) 0 5 (nI (kS f L a + 1))) 0 3 (nI 1)) = some (nI (kE f L a), Z) := e2
          have l0 : (0 : Int64) = lN 0 := rfl
          simp (disch := (first | assumption | omega | exact hB _ _ | exact hYB _ _ | (simp only [yc, yd, sh, sv, ne_eq]; omega) | (simp (disch := omega) only [↓nm_1, ↓nm_2, nI_add, pk_mul, pk_sub, Nat.add_sub_cancel, qm1_add, qm2_add, nI_clamp, ni_0, ni_1, ni_2, ni_3, ni_4, ni_6, l0, e2']; refine qin_nI ?_ ?_ <;> first | omega | exact hB _ _ | exact hYB _ _) | (refine qin_nI ?_ ?_ <;> omega) | fail)) only [↓km0_gd, ↓km0_gI, ↓km0_gM, ↓km0_pI, ↓km0_pM, ↓km0_pZ, ↓km0_gL, ↓km0_pL, ↓km0_gF0, ↓km1_al, ↓km1_as, ↓km1_ln, ↓qb_so, ↓nm_1, ↓nm_2, ↓reduceIte, if_true, if_false, not_true_eq_false, not_false_eq_true, and_true, true_and, and_false, false_and, or_true, true_or, or_false, false_or, eq_self, ne_eq, quI_s, quI_n, quI2, quL1, quL2, quL3, quR1, quR2, quR3, nI_add, pk_mul, pk_sub, Nat.add_sub_cancel, qm1_add, qm2_add, nI_leI, nI_ltI, nI_eq, nI_m1, nI_m1', nI_clamp, nI_bit, nI_one_shl, nI_m1l, nI_m1lt, nI_m1lt', nI_m1le', oI_some, oI_none, ni_0, ni_1, ni_2, ni_3, ni_4, ni_6, fX12_ahead_B135, fX12_ahead_B176, fX12_ahead_B186, fX12_ahead_B199, qle_t, qle_f, qlt_t, qlt_f, qeq_t, qeq_f, l0, e2']
        · rw [quI_k (by omega), z3', eT]
        · rw [quI_k (by omega), z4']
        · rw [quI_k (by omega), z2]
      rcases m_B98 (n := n) ht16 (by omega : kS f L a < 1600) (nI 1) (nI 0) with ⟨hsd, eb⟩ | ⟨hsd, eb⟩
      · obtain ⟨Z, e1, t1, f1⟩ := fin (some (kS f L a)) (xuI S16 0 12 (nI (kS f L a))) (fun x hx => by cases hx; omega) (txM_fr ht16 (frM_up (by omega))) quI_e (by rw [quI_k (by omega), quI_k (by omega), quI_k (by omega), quI_k (by omega), quI_e]) (frM_trans f16 (frM_up (by omega))) (kW_1 (Or.inl eT) hsd).symm
        refine ⟨Z, ePre 1 0 _ eL eG (by decide) (by decide) ?_, t1, f1⟩
        rw [if_neg (by decide), eb]
        exact e1
      · have hlx : s_lx none (kS f L a) 6 (kE f L a - kS f L a) = kW f L a := by
          show (if 6 < _ then _ else _) = _
          by_cases hlong : 6 < kE f L a - kS f L a
          · rw [if_pos hlong, kW_2 (m := 6) (Or.inl eT) hsd (by rw [eT]; rfl) hlong]
          · rw [if_neg hlong, kW_3 (m := 6) (Or.inl eT) hsd (by rw [eT]; rfl) hlong]
        obtain ⟨Z, e1, t1, f1⟩ := fin none S16 (fun x hx => by cases hx) ht16 quI_e (by rw [quI_k (by omega), quI_k (by omega), quI_k (by omega), quI_e]) f16 hlx
        refine ⟨Z, ePre 1 0 _ eL eG (by decide) (by decide) ?_, t1, f1⟩
        rw [if_neg (by decide), eb]
        exact e1
    · have nL : isL (f (kS f L a)) = false := by simpa using hw
      rw [nL] at eL
      by_cases hg : isG (f (kS f L a)) = true
      · -- a number
        rw [if_pos hg] at eG
        have eT : kT f L a = 2 := by unfold kT; rw [if_pos hsl, if_neg hw, if_pos hg]
        have eE : kE f L a = s_end isG f L 1600 (kS f L a) := by unfold kE; rw [eT]; rfl
        have eV : kV f L a = s_nv f (kS f L a) (kM f L a 4) 0 0 := by unfold kV; rw [eT]; rfl
        have fin : ∀ (o : Option Nat) (S0 : xSt), (∀ x, o = some x → x < 2 ^ 31) → txM S0 f L → S0.1 0 12 = oI o → S0.1 0 4 = nI (kS f L a) → frM S S0 → s_lx o (kS f L a) 4 (kE f L a - kS f L a) = kW f L a → ∃ Z, fX12_ahead_B135 n 0 (nI (kS f L a)) (nI 0) (nI 1) S0 = some Z ∧ tkM Z f L a ∧ frM S Z := by
          intro o S0 ho ht0 h12 h4 f0 hx
          let S28 : xSt := xuI (xuI (xuI (xuL (xuI S0 0 6 (nI 0)) 0 7 (lN 0)) 0 3 (nI 3)) 0 5 (nI (kS f L a + 1))) 0 3 (nI 2)
          have f28 : frM S0 S28 := frM_trans (frM_trans (frM_trans (frM_trans (frM_up (by omega)) frM_upL) (frM_up (by omega))) (frM_up (by omega))) (frM_up (by omega))
          obtain ⟨Z, e2, z1, z2, z3, z4⟩ := m_nmL (n := n) (f := f) (L := L) (s := kS f L a) (by omega) 1600 0 n o S28 (by omega) (by omega) (by omega) (txM_fr ht0 f28) (by rw [quI_k (by omega), quI_k (by omega), quI_k (by omega)]; show (xuI S0 0 6 (nI 0)).1 0 6 = _; rw [quI_e]; rfl) (by rw [quI_k (by omega), quI_k (by omega), quI_k (by omega)]; show (xuI S0 0 6 (nI 0)).1 0 12 = _; rw [quI_k (by omega)]; exact h12) ho (fun h => by omega)
          rw [Nat.add_zero] at e2 z1 z2
          rw [← eE] at e2 z1 z2
          rw [hx] at z2
          have fz : frM S28 Z := ⟨fun k j hk => z3 k j (by omega), fun _ _ _ => by rw [z4], by rw [z4]⟩
          have z3' : Z.1 0 3 = nI 2 := by rw [z3 0 3 (by omega), quI_e]
          have z4' : Z.1 0 4 = nI (kS f L a) := by rw [z3 0 4 (by omega), quI_k (by omega), quI_k (by omega), quI_k (by omega)]; show (xuI S0 0 6 (nI 0)).1 0 4 = _; rw [quI_k (by omega)]; exact h4
          have fall : frM S (xuI Z 0 5 (nI (kE f L a))) := frM_trans f0 (frM_trans f28 (frM_trans fz (frM_up (by omega))))
          refine ⟨xuI Z 0 5 (nI (kE f L a)), ?_, ⟨txM_fr ht fall, ?_, ?_, quI_e, ?_, fun _ => ?_, fun hh => by omega⟩, fall⟩
          · have e2' : fX12_ahead_L204 n 0 (nI 0) (nI 1) (nI 4) n (nI (kS f L a)) (nI 0) (xuI (xuI (xuI (xuL (xuI S0 0 6 (nI 0)) 0 7 (lN 0)) 0 3 (nI 3)) 0 5 (nI (kS f L a + 1))) 0 3 (nI 2)) = some (nI (kE f L a), Z) := e2
            have l0 : (0 : Int64) = lN 0 := rfl
            simp (disch := (first | assumption | omega | exact hB _ _ | exact hYB _ _ | (simp only [yc, yd, sh, sv, ne_eq]; omega) | (simp (disch := omega) only [↓nm_1, ↓nm_2, nI_add, pk_mul, pk_sub, Nat.add_sub_cancel, qm1_add, qm2_add, nI_clamp, ni_0, ni_1, ni_2, ni_3, ni_4, ni_6, l0, e2']; refine qin_nI ?_ ?_ <;> first | omega | exact hB _ _ | exact hYB _ _) | (refine qin_nI ?_ ?_ <;> omega) | fail)) only [↓km0_gd, ↓km0_gI, ↓km0_gM, ↓km0_pI, ↓km0_pM, ↓km0_pZ, ↓km0_gL, ↓km0_pL, ↓km0_gF0, ↓km1_al, ↓km1_as, ↓km1_ln, ↓qb_so, ↓nm_1, ↓nm_2, ↓reduceIte, if_true, if_false, not_true_eq_false, not_false_eq_true, and_true, true_and, and_false, false_and, or_true, true_or, or_false, false_or, eq_self, ne_eq, quI_s, quI_n, quI2, quL1, quL2, quL3, quR1, quR2, quR3, nI_add, pk_mul, pk_sub, Nat.add_sub_cancel, qm1_add, qm2_add, nI_leI, nI_ltI, nI_eq, nI_m1, nI_m1', nI_clamp, nI_bit, nI_one_shl, nI_m1l, nI_m1lt, nI_m1lt', nI_m1le', oI_some, oI_none, ni_0, ni_1, ni_2, ni_3, ni_4, ni_6, fX12_ahead_B135, fX12_ahead_B176, fX12_ahead_B186, fX12_ahead_B199, qle_t, qle_f, qlt_t, qlt_f, qeq_t, qeq_f, l0, e2']
          · rw [quI_k (by omega), z3', eT]
          · rw [quI_k (by omega), z4']
          · rw [quI_k (by omega), z2]
          · rw [quI_k (by omega), z1, eV]; rfl
        rcases m_B98 (n := n) ht16 (by omega : kS f L a < 1600) (nI 0) (nI 1) with ⟨hsd, eb⟩ | ⟨hsd, eb⟩
        · obtain ⟨Z, e1, t1, f1⟩ := fin (some (kS f L a)) (xuI S16 0 12 (nI (kS f L a))) (fun x hx => by cases hx; omega) (txM_fr ht16 (frM_up (by omega))) quI_e (by rw [quI_k (by omega), quI_k (by omega), quI_k (by omega), quI_k (by omega), quI_e]) (frM_trans f16 (frM_up (by omega))) (kW_1 (Or.inr eT) hsd).symm
          refine ⟨Z, ePre 0 1 _ eL eG (by decide) (by decide) ?_, t1, f1⟩
          rw [if_pos rfl, if_neg (by decide), eb]
          exact e1
        · have hlx : s_lx none (kS f L a) 4 (kE f L a - kS f L a) = kW f L a := by
            show (if 4 < _ then _ else _) = _
            by_cases hlong : 4 < kE f L a - kS f L a
            · rw [if_pos hlong, kW_2 (m := 4) (Or.inr eT) hsd (by rw [eT]; rfl) hlong]
            · rw [if_neg hlong, kW_3 (m := 4) (Or.inr eT) hsd (by rw [eT]; rfl) hlong]
          obtain ⟨Z, e1, t1, f1⟩ := fin none S16 (fun x hx => by cases hx) ht16 quI_e (by rw [quI_k (by omega), quI_k (by omega), quI_k (by omega), quI_e]) f16 hlx
          refine ⟨Z, ePre 0 1 _ eL eG (by decide) (by decide) ?_, t1, f1⟩
          rw [if_pos rfl, if_neg (by decide), eb]
          exact e1
      · -- a sign
        have nG : isG (f (kS f L a)) = false := by simpa using hg
        rw [nG] at eG
        have eT : kT f L a = 3 := by unfold kT; rw [if_pos hsl, if_neg hw, if_neg hg]
        have eE : kE f L a = kS f L a + 1 := by unfold kE; rw [eT]; rfl
        have eW : kW f L a = none := by unfold kW; rw [eT]; rfl
        have eV : kV f L a = f (kS f L a) := by unfold kV; rw [eT]; rfl
        have fall : frM S16 (xuI (xuI (xuI (xuL (xuI S16 0 6 (nI 0)) 0 7 (lN 0)) 0 3 (nI 3)) 0 5 (nI (kS f L a + 1))) 0 6 (nI (f (kS f L a)))) := frM_trans (frM_trans (frM_trans (frM_trans (frM_up (by omega)) frM_upL) (frM_up (by omega))) (frM_up (by omega))) (frM_up (by omega))
        refine ⟨_, ePre 0 0 _ eL eG (by decide) (by decide) ?_, ⟨txM_fr ht16 fall, ?_, ?_, ?_, ?_, fun _ => ?_, fun hh => by omega⟩, frM_trans f16 fall⟩
        · rw [if_pos rfl, if_pos rfl]
          have l0 : (0 : Int64) = lN 0 := rfl
          simp (disch := (first | assumption | omega | exact hB _ _ | exact hYB _ _ | (simp only [yc, yd, sh, sv, ne_eq]; omega) | (simp (disch := omega) only [↓nm_1, ↓nm_2, nI_add, pk_mul, pk_sub, Nat.add_sub_cancel, qm1_add, qm2_add, nI_clamp, ni_0, ni_1, ni_3, l0, h116]; refine qin_nI ?_ ?_ <;> first | omega | exact hB _ _ | exact hYB _ _) | (refine qin_nI ?_ ?_ <;> omega) | fail)) only [↓km0_gd, ↓km0_gI, ↓km0_gM, ↓km0_pI, ↓km0_pM, ↓km0_pZ, ↓km0_gL, ↓km0_pL, ↓km0_gF0, ↓km1_al, ↓km1_as, ↓km1_ln, ↓qb_so, ↓nm_1, ↓nm_2, ↓reduceIte, if_true, if_false, not_true_eq_false, not_false_eq_true, and_true, true_and, and_false, false_and, or_true, true_or, or_false, false_or, eq_self, ne_eq, quI_s, quI_n, quI2, quL1, quL2, quL3, quR1, quR2, quR3, nI_add, pk_mul, pk_sub, Nat.add_sub_cancel, qm1_add, qm2_add, nI_leI, nI_ltI, nI_eq, nI_m1, nI_m1', nI_clamp, nI_bit, nI_one_shl, nI_m1l, nI_m1lt, nI_m1lt', nI_m1le', oI_some, oI_none, ni_0, ni_1, ni_3, fX12_ahead_B135, qle_t, qle_f, qlt_t, qlt_f, qeq_t, qeq_f, l0, h116]
        · rw [quI_k (by omega), quI_k (by omega), quI_e, eT]
        · rw [quI_k (by omega), quI_k (by omega), quI_k (by omega)]; show (xuI S16 0 6 (nI 0)).1 0 4 = _; rw [quI_k (by omega), quI_k (by omega), quI_k (by omega), quI_k (by omega), quI_e]
        · rw [quI_k (by omega), quI_e, eE]
        · rw [quI_k (by omega), quI_k (by omega), quI_k (by omega)]; show (xuI S16 0 6 (nI 0)).1 0 12 = _; rw [quI_k (by omega), quI_e, eW]; rfl
        · rw [quI_e, eV]
  · -- the end
    have eT : kT f L a = 0 := by unfold kT; rw [if_neg hsl]
    have eE : kE f L a = kS f L a := by unfold kE; rw [eT]; rfl
    have eW : kW f L a = none := by unfold kW; rw [eT]; rfl
    have h2 := ht.2.1
    refine ⟨S16, ?_, ⟨ht16, ?_, ?_, ?_, ?_, fun hh => by omega, fun hh => by omega⟩, f16⟩
    · simp (disch := (first | assumption | omega | exact hB _ _ | exact hYB _ _ | (simp only [yc, yd, sh, sv, ne_eq]; omega) | (simp (disch := omega) only [↓nm_1, ↓nm_2, nI_add, pk_mul, pk_sub, Nat.add_sub_cancel, qm1_add, qm2_add, nI_clamp, ni_0, ni_1, h5, e0, h2, hsl]; refine qin_nI ?_ ?_ <;> first | omega | exact hB _ _ | exact hYB _ _) | (refine qin_nI ?_ ?_ <;> omega) | fail)) only [↓km0_gd, ↓km0_gI, ↓km0_gM, ↓km0_pI, ↓km0_pM, ↓km0_pZ, ↓km0_gL, ↓km0_pL, ↓km0_gF0, ↓km1_al, ↓km1_as, ↓km1_ln, ↓qb_so, ↓nm_1, ↓nm_2, ↓reduceIte, if_true, if_false, not_true_eq_false, not_false_eq_true, and_true, true_and, and_false, false_and, or_true, true_or, or_false, false_or, eq_self, ne_eq, quI_s, quI_n, quI2, quL1, quL2, quL3, quR1, quR2, quR3, nI_add, pk_mul, pk_sub, Nat.add_sub_cancel, qm1_add, qm2_add, nI_leI, nI_ltI, nI_eq, nI_m1, nI_m1', nI_clamp, nI_bit, nI_one_shl, nI_m1l, nI_m1lt, nI_m1lt', nI_m1le', oI_some, oI_none, ni_0, ni_1, fX12_ahead, fX12_ahead_B41, qle_t, qle_f, qlt_t, qlt_f, qeq_t, qeq_f, h5, e0, h2, hsl]
      rfl
    · rw [quI_k (by omega), quI_e, eT]
    · rw [quI_k (by omega), quI_k (by omega), quI_k (by omega), quI_e]
    · rw [quI_k (by omega), quI_k (by omega), quI_e, eE]
    · rw [quI_e, eW]; rfl
end Q92

