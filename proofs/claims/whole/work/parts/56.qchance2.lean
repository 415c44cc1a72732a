section Q56
variable {S Z V : xSt} {b n : Nat} {Y D E A : Nat → Nat → Nat} {mc wc : List (Nat × Nat)} {R row : Nat → Nat} {P P' : Nat → Nat → Nat → Nat} {G G' : Nat → Nat → Nat}
theorem opn_mV (h : mV S b 0 Y mc wc R row D) : mV S b 0 Y mc wc R row (opn D) := by
  obtain ⟨fr, u, u', hu, hu', hmw⟩ := h
  refine ⟨fr, u, u', hu, hu', ?_⟩
  have w2 := mW_free (i := 3) (x := 0) (by decide) (mW_free (i := 2) (x := 0) (by decide) hmw)
  have ec : dU (dU (dU (dU D 5 0 u) 5 1 u') 5 2 0) 5 3 0 = dU (dU (opn D) 5 0 u) 5 1 u' := by
    funext c j
    unfold opn dU
    by_cases h5 : c = 5
    · subst h5
      simp only [if_true]
      rcases (by omega : j = 0 ∨ j = 1 ∨ j = 2 ∨ j = 3 ∨ 4 ≤ j) with rfl | rfl | rfl | rfl | hj
      · rfl
      · rfl
      · rfl
      · rfl
      · rw [if_neg (by omega), if_neg (by omega), if_neg (by omega), if_neg (by omega), if_neg (by omega), if_neg (by omega), if_neg (by omega), if_neg (by omega)]
    · simp only [if_neg h5]
  rw [ec] at w2
  exact w2
theorem s_chS_lt : ∀ (m s : Nat), s < 2 ^ 31 → s_chS m s < 2 ^ 31
  | 0, s, h => h
  | m + 1, s, _ => s_chS_lt m (s_sd s) (s_sd_lt s)
/-- now has gone on, and the seed -/
theorem gC_WS (hb : b < 2) (hf : cSd b S Z) (h0 : S.1 148 7 = nI 0) (h1 : S.1 148 11 = nI 0) (hv : cV Z b 0 Y mc wc R row E) {s : Nat} (hs : Z.1 0 15 = nI s) (h : gC S b Y mc wc D P G) : gC Z b Y mc wc (clr E) P (dU G 1 1 s) := by
  have h15 := h.2.2.2.2.2.1.2.2.1
  have hq : qNn b S (xuI Z 0 15 (nI (G 1 1))) := by
    refine ⟨fun k hk => funext fun j => ?_, hf.2.1, hf.2.2⟩
    by_cases e : k = 0 ∧ j = 15
    · obtain ⟨rfl, rfl⟩ := e; rw [quI_e]; exact h15.symm
    · rw [quI_k e]; exact hf.1 k j hk e
  have g1 := gC_W hb hq h0 h1 (cV_0 (j := 15) (x := nI (G 1 1)) hb hv) h
  refine gC_G hb (fun k j hk => (quI_k (fun e => hk (by unfold gS; omega))).symm) rfl ?_ (by rw [dU_j (by decide)]) g1
  obtain ⟨⟨a1, a2, a3, a4, a5, a6, a7⟩, b1, b2, b3⟩ := (⟨g1.2.2.2.2.2.1, g1.2.2.2.2.2.2.1⟩ : gC6 (xuI Z 0 15 (nI (G 1 1))) G)
  rw [quI_k (by omega)] at a2 a4
  refine ⟨⟨fun j => a1 j, a2, ?_, a4, a5, a6, a7⟩, fun j hj => b1 j hj, fun j hj => b2 j hj, fun j hj => b3 j hj⟩
  rw [dU_s]; exact hs
theorem gM_DS (hI : gI Y mc wc D P G) (hI2 : gI Y mc wc (clr E) P G) (hf : mSd S Z) (hd : mD Z 0 Y (clr E)) (hu : mU Z) {s : Nat} (hs : Z.2.1 0 66 = lN s) (h : gM S b Y mc wc D P G) : gM Z b Y mc wc (clr E) P (dU G 1 1 s) := by
  have h66 := h.2.2.2.2.1.2.2.1
  have hq : mFq (mQ 0) S (xuL Z 0 66 (lN (G 1 1))) := by
    refine ⟨hf.1, fun k hk => funext fun j => ?_, hf.2.2⟩
    by_cases e : k = 0 ∧ j = 66
    · obtain ⟨rfl, rfl⟩ := e; rw [quL2, if_pos rfl, if_pos rfl]; exact h66.symm
    · rw [qL66 e]; exact hf.2.1 k j hk e
  have g1 : gM (xuL Z 0 66 (lN (G 1 1))) b Y mc wc (clr E) P G := gM_D hI hq hd hu h
  refine gM_G (S := xuL Z 0 66 (lN (G 1 1))) hI2 (fun k j hk => rfl) (fun k j hk => (qL66 hk).symm) ?_ (by rw [dU_j (by decide)]) g1
  obtain ⟨⟨a1, a2, a3, a4, a5, a6, a7⟩, b1, b2, b3⟩ := (⟨g1.2.2.2.2.1, g1.2.2.2.2.2.1⟩ : gM6 (xuL Z 0 66 (lN (G 1 1))) G)
  refine ⟨⟨fun j hj => a1 j hj, a2, ?_, a4, a5, a6, a7⟩, fun j hj => b1 j hj, fun j hj => b2 j hj, fun j hj => b3 j hj⟩
  rw [dU_s]; exact hs
theorem gI_S (hI : gI Y mc wc D P G) {s : Nat} (hs : s < 2 ^ 31) : gI Y mc wc D P (dU G 1 1 s) := by
  obtain ⟨i1, i2, i3, i4, i5, i6, ⟨q1, q2, q3, q4, q5⟩, i8⟩ := hI
  exact ⟨i1, i2, i3, i4, i5, i6, ⟨q1, q2, q3, hs, q5⟩, i8⟩
theorem e_chance : xEq22 gR := by
  intro S1 S2 h a
  obtain ⟨b, Y, mc, wc, D, P, G, hb, hC, hM, hI⟩ := id h
  have h99 : D 0 0 ≤ 999 := hI.2.2.1.1
  have hn : 2000 ≤ xFU := by decide
  have hx60 : xFU = 60000 := rfl
  have hw : (0 : Nat) < 2 := by decide
  rcases c_can (a := a) (m := 100) hb hC.2.2.1 h99 (by decide) with ⟨i, hi1, hi2, hi3, rfl, e1⟩ | ⟨e1, hx⟩
  · have m1 := m_can1 (l := 1) (i := i) (m := 100) hM.2.2.1 hi1 hi2 (by decide) hi3
    obtain ⟨Z1, c1, g1, z7, z11⟩ := c_begin hb hC hI
    obtain ⟨T1, t1, k1⟩ := m_keeps (n := xFU) hn hM hI
    have iz := gI_P hI
    obtain ⟨Z2, c2, v2, f2⟩ := c_open (n := xFU) (w := 0) hb (by decide) hn g1.1 g1.2.2.1 (g1.2.2.2.2.2.2.2.2.1.2.2.2.2 0 (by decide))
    have c2' : fX6_open xFU (sh 0 0) (yc b 0) (yd 0 0) (nI 1) Z1 = some Z2 := c2
    have f2' : qNn b Z1 Z2 := ⟨fun k hk => f2.1 k (fun hh => hk (by unfold hP sh at hh; unfold nP; omega)), f2.2.1, f2.2.2⟩
    obtain ⟨o1, o2⟩ := opn_I hI.1 hI.2.2.1 hI.2.2.2.1
    have hsd : pG G 1 1 < 2 ^ 31 := iz.2.2.2.2.2.2.1.2.2.2.1
    have s15 : Z2.1 0 15 = nI (pG G 1 1) := by rw [f2'.1 0 (by unfold nP yc; omega)]; exact g1.2.2.2.2.2.1.2.2.1
    have r2 : Z2.2.2 0 2 = yc b 0 := by rw [f2'.2.2 0 2 (by unfold sh; omega)]; exact g1.2.1.1
    obtain ⟨Z, c3, v3, f3, x3, I3, p3⟩ := c_chL (n := xFU) hb hI.1 hI.2.1 (Y3_lt hI.1) hn id_row hi2 i 0 xFU 0 (pG G 1 1) (opn D) Z2 (by omega) (by omega) hsd s15 r2 v2 o1 hi3
    obtain ⟨T, t2, tv, tf, tx⟩ := m_chL (n := xFU) hb hI.1 hI.2.1 (Y3_lt hI.1) hn id_row hi2 i 0 xFU 0 (pG G 1 1) (opn D) T1 (by omega) (by omega) hsd k1.2.2.2.2.1.2.2.1 (opn_mV (gM_V k1)) o1 hi3
    have pr : pre D (s_chD Y mc wc (Y 3) (fun i => i) i (pG G 1 1) (opn D)) := pre_trans (pre_nK ⟨rfl, fun _ => rfl⟩) p3
    have hr1 := g1.2.1.1
    have md : mD T 0 Y (clr (s_chD Y mc wc (Y 3) (fun i => i) i (pG G 1 1) (opn D))) := by
      obtain ⟨fr', x, x', _, _, hmw2⟩ := id tv
      exact hmw2.2.1
    have mu : mU T := by
      obtain ⟨fr', x, x', hx1, hx2, hmw2⟩ := id tv
      exact ⟨x, x', fr', hx1, hx2, hmw2.2.2.1.1, hmw2.2.2.1.2.1, hmw2.2.2.1.2.2⟩
    have i2 := gI_run iz I3 pr
    refine ⟨nI (s_chF Y i (pG G 1 1) 0), Z, T, ?_, ?_, b, Y, mc, wc, clr (s_chD Y mc wc (Y 3) (fun i => i) i (pG G 1 1) (opn D)), pP P G D, dU (pG G) 1 1 (s_chS i (pG G 1 1)), hb, ?_, gM_DS iz i2 tf md mu tx k1, gI_S i2 (s_chS_lt _ _ hsd)⟩
    · simp (disch := (first | assumption | omega | exact hB _ _ | exact hYB _ _ | (simp only [yc, yd, sh, sv, ne_eq]; omega) | (simp (disch := omega) only [↓nm_1, ↓nm_2, nI_add, pk_mul, pk_sub, Nat.add_sub_cancel, qm1_add, qm2_add, nI_clamp, ni_0, ni_1, ni_2, ni_100, e1, c1, hr1, c2', c3]; refine qin_nI ?_ ?_ <;> first | omega | exact hB _ _ | exact hYB _ _) | (refine qin_nI ?_ ?_ <;> omega) | fail)) only [↓yd0_gd hw, ↓yd0_gI hw, ↓yd0_gM hw, ↓yd0_pI hw, ↓yd0_pM hw, ↓yd0_pZ hw, ↓yd0_gF5 hw, ↓yd0_gF6 hw, ↓yd0_gF7 hw, ↓yd0_gF8 hw, ↓yd1_al hw, ↓yd1_as hw, ↓yd1_ln hw, ↓yd2_al hw, ↓yd2_as hw, ↓yd2_ln hw, ↓yd3_al hw, ↓yd3_as hw, ↓yd3_ln hw, ↓yd4_al hw, ↓yd4_as hw, ↓yd4_ln hw, ↓sh0_gd hw, ↓sh0_gI hw, ↓sh0_gM hw, ↓sh0_pI hw, ↓sh0_pM hw, ↓sh0_pZ hw, ↓sh0_gF0 hw, ↓sh0_gF1 hw, ↓sh0_gF2 hw, ↓sh0_gF3 hw, ↓sh1_al hw, ↓sh1_as hw, ↓sh1_ln hw, ↓sh2_al hw, ↓sh2_as hw, ↓sh2_ln hw, ↓sh3_al hw, ↓sh3_as hw, ↓sh3_ln hw, ↓kc0_gd, ↓kc0_gI, ↓kc0_gM, ↓kc0_pI, ↓kc0_pM, ↓kc0_pZ, ↓kc0_gF0, ↓kc0_gF4, ↓kc0_gF5, ↓kc0_gF6, ↓kc0_gF7, ↓kc0_gF8, ↓kc0_gF9, ↓kc0_gF10, ↓kc0_gF11, ↓kc0_gF12, ↓kc0_gF14, ↓kc1_al, ↓kc1_as, ↓kc1_ln, ↓kc41_gd, ↓kc41_gI, ↓kc41_gM, ↓kc41_pI, ↓kc41_pM, ↓kc41_pZ, ↓kc41_gF0, ↓kc41_gF1, ↓kc42_ql, ↓kc43_al, ↓kc43_as, ↓kc43_ln, ↓kc148_gd, ↓kc148_gI, ↓kc148_gM, ↓kc148_pI, ↓kc148_pM, ↓kc148_pZ, ↓kc148_gF0, ↓kc148_gF1, ↓kc148_gF2, ↓kc148_gF4, ↓kc148_gF5, ↓kc154_al, ↓kc154_as, ↓kc154_ln, ↓kc155_al, ↓kc155_as, ↓kc155_ln, ↓kc160_gd, ↓kc160_gI, ↓kc160_gM, ↓kc160_pI, ↓kc160_pM, ↓kc160_pZ, ↓kc160_gF0, ↓kc160_gF1, ↓kc161_al, ↓kc161_as, ↓kc161_ln, ↓kc162_gd, ↓kc162_gI, ↓kc162_gM, ↓kc162_pI, ↓kc162_pM, ↓kc162_pZ, ↓kc162_gF0, ↓kc162_gF1, ↓kc163_gd, ↓kc163_gI, ↓kc163_gM, ↓kc163_pI, ↓kc163_pM, ↓kc163_pZ, ↓kc163_gF0, ↓kc164_gd, ↓kc164_gI, ↓kc164_gM, ↓kc164_pI, ↓kc164_pM, ↓kc164_pZ, ↓kc164_gF0, ↓kc164_gF1, ↓kc164_gF2, ↓kc164_gF3, ↓kc165_al, ↓kc165_as, ↓kc165_ln, ↓kc166_al, ↓kc166_as, ↓kc166_ln, ↓kc167_al, ↓kc167_as, ↓kc167_ln, ↓kc168_al, ↓kc168_as, ↓kc168_ln, ↓kc169_gd, ↓kc169_gI, ↓kc169_gM, ↓kc169_pI, ↓kc169_pM, ↓kc169_pZ, ↓kc169_gF0, ↓kc169_gF2, ↓kc170_al, ↓kc170_as, ↓kc170_ln, ↓kc171_gd, ↓kc171_gI, ↓kc171_gM, ↓kc171_pI, ↓kc171_pM, ↓kc171_pZ, ↓kc171_gF5, ↓kc171_gF6, ↓kc171_gF7, ↓kc171_gF8, ↓kc172_al, ↓kc172_as, ↓kc172_ln, ↓kc173_al, ↓kc173_as, ↓kc173_ln, ↓kc174_al, ↓kc174_as, ↓kc174_ln, ↓kc175_al, ↓kc175_as, ↓kc175_ln, ↓kc176_al, ↓kc176_as, ↓kc176_ln, ↓kc177_al, ↓kc177_as, ↓kc177_ln, ↓qb_so, ↓nm_1, ↓nm_2, ↓reduceIte, if_true, if_false, not_true_eq_false, not_false_eq_true, and_true, true_and, and_false, false_and, or_true, true_or, or_false, false_or, eq_self, ne_eq, quI_s, quI_n, quI2, quL1, quL2, quL3, quR1, quR2, quR3, nI_add, pk_mul, pk_sub, Nat.add_sub_cancel, qm1_add, qm2_add, nI_leI, nI_ltI, nI_eq, nI_m1, nI_m1', nI_clamp, nI_bit, nI_one_shl, nI_m1l, nI_m1lt, nI_m1lt', nI_m1le', oI_some, oI_none, ni_0, ni_1, ni_2, ni_100, fX11_chance, qle_t, qle_f, qlt_t, qlt_f, qeq_t, qeq_f, e1, c1, hr1, c2', c3]
    · simp (disch := (first | assumption | omega | exact hB _ _ | exact hYB _ _ | (simp only [yc, yd, sh, sv, ne_eq]; omega) | (simp (disch := omega) only [↓nm_1, ↓nm_2, nI_add, pk_mul, pk_sub, Nat.add_sub_cancel, qm1_add, qm2_add, nI_clamp, ni_0, ni_1, ni_2, ni_100, m1, t1, t2]; refine qin_nI ?_ ?_ <;> first | omega | exact hB _ _ | exact hYB _ _) | (refine qin_nI ?_ ?_ <;> omega) | fail)) only [↓km0_gd, ↓km0_gI, ↓km0_gM, ↓km0_pI, ↓km0_pM, ↓km0_pZ, ↓km0_gL, ↓km0_pL, ↓qb_so, ↓nm_1, ↓nm_2, ↓reduceIte, if_true, if_false, not_true_eq_false, not_false_eq_true, and_true, true_and, and_false, false_and, or_true, true_or, or_false, false_or, eq_self, ne_eq, quI_s, quI_n, quI2, quL1, quL2, quL3, quR1, quR2, quR3, nI_add, pk_mul, pk_sub, Nat.add_sub_cancel, qm1_add, qm2_add, nI_leI, nI_ltI, nI_eq, nI_m1, nI_m1', nI_clamp, nI_bit, nI_one_shl, nI_m1l, nI_m1lt, nI_m1lt', nI_m1le', oI_some, oI_none, ni_0, ni_1, ni_2, ni_100, fX12_chance, qle_t, qle_f, qlt_t, qlt_f, qeq_t, qeq_f, m1, t1, t2]
    · exact gC_WS hb (cSd_trans (cSd_n f2') f3) z7 z11 v3 x3 g1
  · have m1 : fX12_isAhead 0 a (nI 1) (nI 100) S2 = some (nI 0) := by
      rcases hx with hx | ⟨i, hi1, hi2, hi3, rfl⟩
      · exact m_can0 hx
      · exact m_can9 hM.2.2.1 hi1 hi2 (by decide) hi3 h99
    obtain ⟨d1, g1⟩ := c_refuse (i := 2) hb hC (by decide)
    obtain ⟨e2, k1⟩ := m_refuse (i := 2) hI hM (by decide)
    refine ⟨qm1, _, _, ?_, ?_, b, Y, mc, wc, D, P, gRf G 2, hb, g1, k1, gI_rf hI⟩
    · simp (disch := (first | assumption | omega | exact hB _ _ | exact hYB _ _ | (simp only [yc, yd, sh, sv, ne_eq]; omega) | (simp (disch := omega) only [↓nm_1, ↓nm_2, nI_add, pk_mul, pk_sub, Nat.add_sub_cancel, qm1_add, qm2_add, nI_clamp, ni_0, ni_1, ni_2, ni_100, e1, d1]; refine qin_nI ?_ ?_ <;> first | omega | exact hB _ _ | exact hYB _ _) | (refine qin_nI ?_ ?_ <;> omega) | fail)) only [↓kc0_gd, ↓kc0_gI, ↓kc0_gM, ↓kc0_pI, ↓kc0_pM, ↓kc0_pZ, ↓kc0_gF0, ↓kc0_gF4, ↓kc0_gF5, ↓kc0_gF6, ↓kc0_gF7, ↓kc0_gF8, ↓kc0_gF9, ↓kc0_gF10, ↓kc0_gF11, ↓kc0_gF12, ↓kc0_gF14, ↓kc1_al, ↓kc1_as, ↓kc1_ln, ↓kc41_gd, ↓kc41_gI, ↓kc41_gM, ↓kc41_pI, ↓kc41_pM, ↓kc41_pZ, ↓kc41_gF0, ↓kc41_gF1, ↓kc42_ql, ↓kc43_al, ↓kc43_as, ↓kc43_ln, ↓kc148_gd, ↓kc148_gI, ↓kc148_gM, ↓kc148_pI, ↓kc148_pM, ↓kc148_pZ, ↓kc148_gF0, ↓kc148_gF1, ↓kc148_gF2, ↓kc148_gF4, ↓kc148_gF5, ↓kc154_al, ↓kc154_as, ↓kc154_ln, ↓kc155_al, ↓kc155_as, ↓kc155_ln, ↓kc160_gd, ↓kc160_gI, ↓kc160_gM, ↓kc160_pI, ↓kc160_pM, ↓kc160_pZ, ↓kc160_gF0, ↓kc160_gF1, ↓kc161_al, ↓kc161_as, ↓kc161_ln, ↓kc162_gd, ↓kc162_gI, ↓kc162_gM, ↓kc162_pI, ↓kc162_pM, ↓kc162_pZ, ↓kc162_gF0, ↓kc162_gF1, ↓kc163_gd, ↓kc163_gI, ↓kc163_gM, ↓kc163_pI, ↓kc163_pM, ↓kc163_pZ, ↓kc163_gF0, ↓kc164_gd, ↓kc164_gI, ↓kc164_gM, ↓kc164_pI, ↓kc164_pM, ↓kc164_pZ, ↓kc164_gF0, ↓kc164_gF1, ↓kc164_gF2, ↓kc164_gF3, ↓kc165_al, ↓kc165_as, ↓kc165_ln, ↓kc166_al, ↓kc166_as, ↓kc166_ln, ↓kc167_al, ↓kc167_as, ↓kc167_ln, ↓kc168_al, ↓kc168_as, ↓kc168_ln, ↓kc169_gd, ↓kc169_gI, ↓kc169_gM, ↓kc169_pI, ↓kc169_pM, ↓kc169_pZ, ↓kc169_gF0, ↓kc169_gF2, ↓kc170_al, ↓kc170_as, ↓kc170_ln, ↓kc171_gd, ↓kc171_gI, ↓kc171_gM, ↓kc171_pI, ↓kc171_pM, ↓kc171_pZ, ↓kc171_gF5, ↓kc171_gF6, ↓kc171_gF7, ↓kc171_gF8, ↓kc172_al, ↓kc172_as, ↓kc172_ln, ↓kc173_al, ↓kc173_as, ↓kc173_ln, ↓kc174_al, ↓kc174_as, ↓kc174_ln, ↓kc175_al, ↓kc175_as, ↓kc175_ln, ↓kc176_al, ↓kc176_as, ↓kc176_ln, ↓kc177_al, ↓kc177_as, ↓kc177_ln, ↓qb_so, ↓nm_1, ↓nm_2, ↓reduceIte, if_true, if_false, not_true_eq_false, not_false_eq_true, and_true, true_and, and_false, false_and, or_true, true_or, or_false, false_or, eq_self, ne_eq, quI_s, quI_n, quI2, quL1, quL2, quL3, quR1, quR2, quR3, nI_add, pk_mul, pk_sub, Nat.add_sub_cancel, qm1_add, qm2_add, nI_leI, nI_ltI, nI_eq, nI_m1, nI_m1', nI_clamp, nI_bit, nI_one_shl, nI_m1l, nI_m1lt, nI_m1lt', nI_m1le', oI_some, oI_none, ni_0, ni_1, ni_2, ni_100, fX11_chance, qle_t, qle_f, qlt_t, qlt_f, qeq_t, qeq_f, e1, d1]
    · simp (disch := (first | assumption | omega | exact hB _ _ | exact hYB _ _ | (simp only [yc, yd, sh, sv, ne_eq]; omega) | (simp (disch := omega) only [↓nm_1, ↓nm_2, nI_add, pk_mul, pk_sub, Nat.add_sub_cancel, qm1_add, qm2_add, nI_clamp, ni_0, ni_1, ni_2, ni_100, m1, e2]; refine qin_nI ?_ ?_ <;> first | omega | exact hB _ _ | exact hYB _ _) | (refine qin_nI ?_ ?_ <;> omega) | fail)) only [↓km0_gd, ↓km0_gI, ↓km0_gM, ↓km0_pI, ↓km0_pM, ↓km0_pZ, ↓km0_gL, ↓km0_pL, ↓qb_so, ↓nm_1, ↓nm_2, ↓reduceIte, if_true, if_false, not_true_eq_false, not_false_eq_true, and_true, true_and, and_false, false_and, or_true, true_or, or_false, false_or, eq_self, ne_eq, quI_s, quI_n, quI2, quL1, quL2, quL3, quR1, quR2, quR3, nI_add, pk_mul, pk_sub, Nat.add_sub_cancel, qm1_add, qm2_add, nI_leI, nI_ltI, nI_eq, nI_m1, nI_m1', nI_clamp, nI_bit, nI_one_shl, nI_m1l, nI_m1lt, nI_m1lt', nI_m1le', oI_some, oI_none, ni_0, ni_1, ni_2, ni_100, fX12_chance, qle_t, qle_f, qlt_t, qlt_f, qeq_t, qeq_f, m1, e2]
end Q56

