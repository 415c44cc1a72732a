section Q63
variable {S Z V : xSt} {b n : Nat} {Y D E : Nat → Nat → Nat} {mc wc : List (Nat × Nat)} {R row : Nat → Nat} {P : Nat → Nat → Nat → Nat} {G G' : Nat → Nat → Nat}
/-- the cells that shavings may touch -/
def qSh (b : Nat) (S Z : xSt) : Prop := (∀ k j, ¬ aP b k → ¬ (k = 0 ∧ j = 13) → k ≠ 176 → Z.1 k j = S.1 k j) ∧ Z.2.1 = S.2.1 ∧ ∀ k j, ¬ aM k j → Z.2.2 k j = S.2.2 k j
theorem qSh_trans (h1 : qSh b S Z) (h2 : qSh b Z V) : qSh b S V := ⟨fun k j a1 a2 a3 => (h2.1 k j a1 a2 a3).trans (h1.1 k j a1 a2 a3), h2.2.1.trans h1.2.1, fun k j hk => (h2.2.2 k j hk).trans (h1.2.2 k j hk)⟩
theorem qSh_of (h : qFn b S Z) : qSh b S Z := ⟨fun k j a1 _ _ => by rw [h.1 k a1], h.2.1, h.2.2⟩
theorem cV_sh (hb : b < 2) {c x y : Int32} {p : Nat} (h : cV S b 1 Y mc wc R row D) : cV (xuI (xuI S 176 p x) 0 13 y) b 1 Y mc wc R row D := by
  obtain ⟨u, u', hu, hu', hw⟩ := h
  refine ⟨u, u', hu, hu', ?_⟩
  have e : ∀ k, 2 ≤ k → k ≤ 160 → (xuI (xuI S 176 p x) 0 13 y).1 k = S.1 k := fun k a1 a2 => funext fun j => by rw [quI_n (by omega), quI_n (by omega)]
  obtain ⟨⟨y1, y2, y3, y4, y5, y6, y7, y8⟩, w2, w3, w4, ⟨d1, d2, d3⟩, ⟨w6, w7, w8, w9⟩, w10⟩ := hw
  have ey : ∀ c, c ≤ 16 → (xuI (xuI S 176 p x) 0 13 y).1 (yc b c) = S.1 (yc b c) := fun c hc => e _ (by unfold yc; omega) (by unfold yc; omega)
  have es : ∀ c, c ≤ 3 → (xuI (xuI S 176 p x) 0 13 y).1 (sh 1 c) = S.1 (sh 1 c) := fun c hc => e _ (by unfold sh; omega) (by unfold sh; omega)
  have ed : ∀ c, c ≤ 4 → (xuI (xuI S 176 p x) 0 13 y).1 (yd 1 c) = S.1 (yd 1 c) := fun c hc => e _ (by unfold yd; omega) (by unfold yd; omega)
  refine ⟨⟨fun c j hc => by rw [ey c (by omega)]; exact y1 c j hc, fun j => by rw [ey 14 (by decide)]; exact y2 j, y3, y4, y5, y6, by rw [ey 15 (by decide)]; exact y7, by rw [ey 15 (by decide)]; exact y8⟩, w2, fun k hk => by rw [es 1 (by decide)]; exact w3 k hk, fun k hk => by rw [es 2 (by decide)]; exact w4 k hk, ⟨fun j hj => by rw [ed 0 (by decide)]; exact d1 j hj, fun c j hc hc2 => by rw [ed c hc2]; exact d2 c j hc hc2, fun h0 => by cases h0⟩, ⟨by rw [es 0 (by decide)]; exact w6, by rw [es 0 (by decide)]; exact w7, by rw [es 0 (by decide)]; exact w8, by rw [es 0 (by decide)]; exact w9⟩, by rw [es 0 (by decide)]; exact w10⟩
theorem c_svL (hb : b < 2) (hY : yrOk Y) (hK : kOk mc wc) (hn : 2000 ≤ n) {N K : Nat} (hN : N ≤ 61) (hKK : K ≤ 16) (hG : ∀ i, G 0 i < 256) (h8 : ∀ x, x < 2 * K → x % 2 = 0 → G 0 x < 31) {a2 : Int32} (hlt : ∀ x, x ≤ 61 → (a2 < nI x ↔ N ≤ x)) : ∀ (m i q c : Nat) (D : Nat → Nat → Nat) (S : xSt), i + m = N → m < q → c ≤ i → cV S b 1 Y mc wc (Y 3) (fun i => i) D → rI Y D → dZ D → D 0 0 + m ≤ 999 → (∀ i, S.1 1 i = nI (G 0 i)) → S.1 0 13 = nI c →
    ∃ Z D', fX11_shavings_L50 n 0 (nI (2 * K)) a2 q (nI i) S = some Z ∧ cV Z b 1 Y mc wc (Y 3) (fun i => i) D' ∧ dZ D' ∧ qSh b S Z ∧ Z.1 0 13 = nI (c + (s_sv Y mc wc G K m i D).length) ∧ (∀ x, x < c → Z.1 176 x = S.1 176 x) ∧ (∀ x, x < (s_sv Y mc wc G K m i D).length → Z.1 176 (c + x) = nI ((s_sv Y mc wc G K m i D).getD x 0))
  | 0, i, q, c, D, S, hk, hq, hc, hv, hI, hz, h9, t, h13 => by
    obtain ⟨q, rfl⟩ : ∃ q', q = q' + 1 := ⟨q - 1, by omega⟩
    refine ⟨S, D, ?_, hv, hz, ⟨fun _ _ _ _ _ => rfl, rfl, fun _ _ _ => rfl⟩, by rw [h13]; rfl, fun _ _ => rfl, fun x hx => absurd hx (Nat.not_lt_zero _)⟩
    have l1 : (a2 < nI i) = True := eq_true ((hlt i (by omega)).mpr (by omega))
    show fX11_shavings_L50b _ _ _ _ _ _ _ = _
    simp (disch := (first | assumption | omega | exact hB _ _ | exact hYB _ _ | (simp only [yc, yd, sh, sv, ne_eq]; omega) | (simp (disch := omega) only [↓nm_1, ↓nm_2, nI_add, pk_mul, pk_sub, Nat.add_sub_cancel, qm1_add, qm2_add, nI_clamp, ni_0, ni_1, ni_60, l1]; refine qin_nI ?_ ?_ <;> first | omega | exact hB _ _ | exact hYB _ _) | (refine qin_nI ?_ ?_ <;> omega) | fail)) only [↓kc0_gd, ↓kc0_gI, ↓kc0_gM, ↓kc0_pI, ↓kc0_pM, ↓kc0_pZ, ↓kc0_gF0, ↓kc0_gF4, ↓kc0_gF5, ↓kc0_gF6, ↓kc0_gF7, ↓kc0_gF8, ↓kc0_gF9, ↓kc0_gF10, ↓kc0_gF11, ↓kc0_gF12, ↓kc0_gF14, ↓kc1_al, ↓kc1_as, ↓kc1_ln, ↓kc41_gd, ↓kc41_gI, ↓kc41_gM, ↓kc41_pI, ↓kc41_pM, ↓kc41_pZ, ↓kc41_gF0, ↓kc41_gF1, ↓kc42_ql, ↓kc43_al, ↓kc43_as, ↓kc43_ln, ↓kc148_gd, ↓kc148_gI, ↓kc148_gM, ↓kc148_pI, ↓kc148_pM, ↓kc148_pZ, ↓kc148_gF0, ↓kc148_gF1, ↓kc148_gF2, ↓kc148_gF4, ↓kc148_gF5, ↓kc154_al, ↓kc154_as, ↓kc154_ln, ↓kc155_al, ↓kc155_as, ↓kc155_ln, ↓kc160_gd, ↓kc160_gI, ↓kc160_gM, ↓kc160_pI, ↓kc160_pM, ↓kc160_pZ, ↓kc160_gF0, ↓kc160_gF1, ↓kc161_al, ↓kc161_as, ↓kc161_ln, ↓kc162_gd, ↓kc162_gI, ↓kc162_gM, ↓kc162_pI, ↓kc162_pM, ↓kc162_pZ, ↓kc162_gF0, ↓kc162_gF1, ↓kc163_gd, ↓kc163_gI, ↓kc163_gM, ↓kc163_pI, ↓kc163_pM, ↓kc163_pZ, ↓kc163_gF0, ↓kc164_gd, ↓kc164_gI, ↓kc164_gM, ↓kc164_pI, ↓kc164_pM, ↓kc164_pZ, ↓kc164_gF0, ↓kc164_gF1, ↓kc164_gF2, ↓kc164_gF3, ↓kc165_al, ↓kc165_as, ↓kc165_ln, ↓kc166_al, ↓kc166_as, ↓kc166_ln, ↓kc167_al, ↓kc167_as, ↓kc167_ln, ↓kc168_al, ↓kc168_as, ↓kc168_ln, ↓kc169_gd, ↓kc169_gI, ↓kc169_gM, ↓kc169_pI, ↓kc169_pM, ↓kc169_pZ, ↓kc169_gF0, ↓kc169_gF2, ↓kc170_al, ↓kc170_as, ↓kc170_ln, ↓kc171_gd, ↓kc171_gI, ↓kc171_gM, ↓kc171_pI, ↓kc171_pM, ↓kc171_pZ, ↓kc171_gF5, ↓kc171_gF6, ↓kc171_gF7, ↓kc171_gF8, ↓kc172_al, ↓kc172_as, ↓kc172_ln, ↓kc173_al, ↓kc173_as, ↓kc173_ln, ↓kc174_al, ↓kc174_as, ↓kc174_ln, ↓kc175_al, ↓kc175_as, ↓kc175_ln, ↓kc176_al, ↓kc176_as, ↓kc176_ln, ↓kc177_al, ↓kc177_as, ↓kc177_ln, ↓qb_so, ↓nm_1, ↓nm_2, ↓reduceIte, if_true, if_false, not_true_eq_false, not_false_eq_true, and_true, true_and, and_false, false_and, or_true, true_or, or_false, false_or, eq_self, ne_eq, quI_s, quI_n, quI2, quL1, quL2, quL3, quR1, quR2, quR3, nI_add, pk_mul, pk_sub, Nat.add_sub_cancel, qm1_add, qm2_add, nI_leI, nI_ltI, nI_eq, nI_m1, nI_m1', nI_clamp, nI_bit, nI_one_shl, nI_m1l, nI_m1lt, nI_m1lt', nI_m1le', oI_some, oI_none, ni_0, ni_1, ni_60, fX11_shavings_L50b, qle_t, qle_f, qlt_t, qlt_f, qeq_t, qeq_f, l1]
  | m + 1, i, q, c, D, S, hk, hq, hc, hv, hI, hz, h9, t, h13 => by
    obtain ⟨q, rfl⟩ : ∃ q', q = q' + 1 := ⟨q - 1, by omega⟩
    have hw : (1 : Nat) < 2 := by decide
    have l1 : (a2 < nI i) = False := eq_false (fun hh => by have := (hlt i (by omega)).mp hh; omega)
    obtain ⟨Z1, e1, w1, f1, d1, I1, t1⟩ := c_day2 (n := n) (fr := 0) hb (by decide) hv hY hI hK (Y3_lt hY) hn (by decide) id_row (by omega)
    have u7 := w1.2.2.2.2.2.1.1
    have f1' : qSh b S Z1 := qSh_of (qFn_d f1)
    have t' : ∀ i, Z1.1 1 i = nI (G 0 i) := fun i => by rw [f1'.1 1 i (by unfold aP yc; omega) (by omega) (by omega)]; exact t i
    have h13' : Z1.1 0 13 = nI c := by rw [f1.1 0 (by unfold dP yc sh yd; omega)]; exact h13
    have e176 : Z1.1 176 = S.1 176 := f1.1 176 (by unfold dP yc sh yd; omega)
    have hu : s_day Y mc wc (Y 3) (fun i => i) 0 D 5 0 < 2 ^ 31 := dOk_B d1 5 0
    have e2 := c_ft (n := n) t' hG hu hKK hn h8
    show ∃ Z D', fX11_shavings_L50b _ _ _ _ _ _ _ = _ ∧ _
    by_cases hs : s_ftL G (s_day Y mc wc (Y 3) (fun i => i) 0 D 5 0) K 0 = true
    · rw [if_pos hs] at e2
      obtain ⟨Z, D', e3, v3, z3, f3, x3, y3, w3⟩ := c_svL hb hY hK hn hN hKK hG h8 hlt m (i + 1) q (c + 1) _ (xuI (xuI Z1 176 c (nI i)) 0 13 (nI (c + 1))) (by omega) (by omega) (by omega) (cV_sh (c := 0) hb (cV_of w1 (dOk_B d1))) I1 (dOk_Z d1) (by omega) (fun i => by rw [quI_n (by decide), quI_n (by decide)]; exact t' i) (by rw [quI_e])
      have fs : qSh b Z1 (xuI (xuI Z1 176 c (nI i)) 0 13 (nI (c + 1))) := ⟨fun k j a1 a2 a3 => by rw [quI_k a2, quI_n a3], rfl, fun _ _ _ => rfl⟩
      refine ⟨Z, D', ?_, v3, z3, qSh_trans f1' (qSh_trans fs f3), ?_, fun x hx => ?_, fun x hx => ?_⟩
      · simp (disch := (first | assumption | omega | exact hB _ _ | exact hYB _ _ | (simp only [yc, yd, sh, sv, ne_eq]; omega) | (simp (disch := omega) only [↓nm_1, ↓nm_2, nI_add, pk_mul, pk_sub, Nat.add_sub_cancel, qm1_add, qm2_add, nI_clamp, ni_0, ni_1, ni_60, l1, e1, u7, e2, h13', e3]; refine qin_nI ?_ ?_ <;> first | omega | exact hB _ _ | exact hYB _ _) | (refine qin_nI ?_ ?_ <;> omega) | fail)) only [↓yd0_gd hw, ↓yd0_gI hw, ↓yd0_gM hw, ↓yd0_pI hw, ↓yd0_pM hw, ↓yd0_pZ hw, ↓yd0_gF5 hw, ↓yd0_gF6 hw, ↓yd0_gF7 hw, ↓yd0_gF8 hw, ↓yd1_al hw, ↓yd1_as hw, ↓yd1_ln hw, ↓yd2_al hw, ↓yd2_as hw, ↓yd2_ln hw, ↓yd3_al hw, ↓yd3_as hw, ↓yd3_ln hw, ↓yd4_al hw, ↓yd4_as hw, ↓yd4_ln hw, ↓sh0_gd hw, ↓sh0_gI hw, ↓sh0_gM hw, ↓sh0_pI hw, ↓sh0_pM hw, ↓sh0_pZ hw, ↓sh0_gF0 hw, ↓sh0_gF1 hw, ↓sh0_gF2 hw, ↓sh0_gF3 hw, ↓sh1_al hw, ↓sh1_as hw, ↓sh1_ln hw, ↓sh2_al hw, ↓sh2_as hw, ↓sh2_ln hw, ↓sh3_al hw, ↓sh3_as hw, ↓sh3_ln hw, ↓kc0_gd, ↓kc0_gI, ↓kc0_gM, ↓kc0_pI, ↓kc0_pM, ↓kc0_pZ, ↓kc0_gF0, ↓kc0_gF4, ↓kc0_gF5, ↓kc0_gF6, ↓kc0_gF7, ↓kc0_gF8, ↓kc0_gF9, ↓kc0_gF10, ↓kc0_gF11, ↓kc0_gF12, ↓kc0_gF14, ↓kc1_al, ↓kc1_as, ↓kc1_ln, ↓kc41_gd, ↓kc41_gI, ↓kc41_gM, ↓kc41_pI, ↓kc41_pM, ↓kc41_pZ, ↓kc41_gF0, ↓kc41_gF1, ↓kc42_ql, ↓kc43_al, ↓kc43_as, ↓kc43_ln, ↓kc148_gd, ↓kc148_gI, ↓kc148_gM, ↓kc148_pI, ↓kc148_pM, ↓kc148_pZ, ↓kc148_gF0, ↓kc148_gF1, ↓kc148_gF2, ↓kc148_gF4, ↓kc148_gF5, ↓kc154_al, ↓kc154_as, ↓kc154_ln, ↓kc155_al, ↓kc155_as, ↓kc155_ln, ↓kc160_gd, ↓kc160_gI, ↓kc160_gM, ↓kc160_pI, ↓kc160_pM, ↓kc160_pZ, ↓kc160_gF0, ↓kc160_gF1, ↓kc161_al, ↓kc161_as, ↓kc161_ln, ↓kc162_gd, ↓kc162_gI, ↓kc162_gM, ↓kc162_pI, ↓kc162_pM, ↓kc162_pZ, ↓kc162_gF0, ↓kc162_gF1, ↓kc163_gd, ↓kc163_gI, ↓kc163_gM, ↓kc163_pI, ↓kc163_pM, ↓kc163_pZ, ↓kc163_gF0, ↓kc164_gd, ↓kc164_gI, ↓kc164_gM, ↓kc164_pI, ↓kc164_pM, ↓kc164_pZ, ↓kc164_gF0, ↓kc164_gF1, ↓kc164_gF2, ↓kc164_gF3, ↓kc165_al, ↓kc165_as, ↓kc165_ln, ↓kc166_al, ↓kc166_as, ↓kc166_ln, ↓kc167_al, ↓kc167_as, ↓kc167_ln, ↓kc168_al, ↓kc168_as, ↓kc168_ln, ↓kc169_gd, ↓kc169_gI, ↓kc169_gM, ↓kc169_pI, ↓kc169_pM, ↓kc169_pZ, ↓kc169_gF0, ↓kc169_gF2, ↓kc170_al, ↓kc170_as, ↓kc170_ln, ↓kc171_gd, ↓kc171_gI, ↓kc171_gM, ↓kc171_pI, ↓kc171_pM, ↓kc171_pZ, ↓kc171_gF5, ↓kc171_gF6, ↓kc171_gF7, ↓kc171_gF8, ↓kc172_al, ↓kc172_as, ↓kc172_ln, ↓kc173_al, ↓kc173_as, ↓kc173_ln, ↓kc174_al, ↓kc174_as, ↓kc174_ln, ↓kc175_al, ↓kc175_as, ↓kc175_ln, ↓kc176_al, ↓kc176_as, ↓kc176_ln, ↓kc177_al, ↓kc177_as, ↓kc177_ln, ↓qb_so, ↓nm_1, ↓nm_2, ↓reduceIte, if_true, if_false, not_true_eq_false, not_false_eq_true, and_true, true_and, and_false, false_and, or_true, true_or, or_false, false_or, eq_self, ne_eq, quI_s, quI_n, quI2, quL1, quL2, quL3, quR1, quR2, quR3, nI_add, pk_mul, pk_sub, Nat.add_sub_cancel, qm1_add, qm2_add, nI_leI, nI_ltI, nI_eq, nI_m1, nI_m1', nI_clamp, nI_bit, nI_one_shl, nI_m1l, nI_m1lt, nI_m1lt', nI_m1le', oI_some, oI_none, ni_0, ni_1, ni_60, fX11_shavings_L50b, fX0_toolsOfNextDay, qle_t, qle_f, qlt_t, qlt_f, qeq_t, qeq_f, l1, e1, u7, e2, h13', e3]
      · rw [x3, s_sv, if_pos hs, List.length_cons]; congr 1; omega
      · rw [y3 x (by omega), quI_n (by decide), quI_k (by omega), e176]
      · rw [s_sv, if_pos hs] at hx ⊢
        rw [List.length_cons] at hx
        cases x with
        | zero => rw [Nat.add_zero, y3 c (by omega), quI_n (by decide), quI_e]; rfl
        | succ x => rw [show c + (x + 1) = c + 1 + x by omega, w3 x (by omega)]; rfl
    · rw [if_neg hs] at e2
      obtain ⟨Z, D', e3, v3, z3, f3, x3, y3, w3⟩ := c_svL hb hY hK hn hN hKK hG h8 hlt m (i + 1) q c _ Z1 (by omega) (by omega) (by omega) (cV_of w1 (dOk_B d1)) I1 (dOk_Z d1) (by omega) t' h13'
      refine ⟨Z, D', ?_, v3, z3, qSh_trans f1' f3, ?_, fun x hx => ?_, fun x hx => ?_⟩
      · simp (disch := (first | assumption | omega | exact hB _ _ | exact hYB _ _ | (simp only [yc, yd, sh, sv, ne_eq]; omega) | (simp (disch := omega) only [↓nm_1, ↓nm_2, nI_add, pk_mul, pk_sub, Nat.add_sub_cancel, qm1_add, qm2_add, nI_clamp, ni_0, ni_1, ni_60, l1, e1, u7, e2, e3]; refine qin_nI ?_ ?_ <;> first | omega | exact hB _ _ | exact hYB _ _) | (refine qin_nI ?_ ?_ <;> omega) | fail)) only [↓yd0_gd hw, ↓yd0_gI hw, ↓yd0_gM hw, ↓yd0_pI hw, ↓yd0_pM hw, ↓yd0_pZ hw, ↓yd0_gF5 hw, ↓yd0_gF6 hw, ↓yd0_gF7 hw, ↓yd0_gF8 hw, ↓yd1_al hw, ↓yd1_as hw, ↓yd1_ln hw, ↓yd2_al hw, ↓yd2_as hw, ↓yd2_ln hw, ↓yd3_al hw, ↓yd3_as hw, ↓yd3_ln hw, ↓yd4_al hw, ↓yd4_as hw, ↓yd4_ln hw, ↓sh0_gd hw, ↓sh0_gI hw, ↓sh0_gM hw, ↓sh0_pI hw, ↓sh0_pM hw, ↓sh0_pZ hw, ↓sh0_gF0 hw, ↓sh0_gF1 hw, ↓sh0_gF2 hw, ↓sh0_gF3 hw, ↓sh1_al hw, ↓sh1_as hw, ↓sh1_ln hw, ↓sh2_al hw, ↓sh2_as hw, ↓sh2_ln hw, ↓sh3_al hw, ↓sh3_as hw, ↓sh3_ln hw, ↓kc0_gd, ↓kc0_gI, ↓kc0_gM, ↓kc0_pI, ↓kc0_pM, ↓kc0_pZ, ↓kc0_gF0, ↓kc0_gF4, ↓kc0_gF5, ↓kc0_gF6, ↓kc0_gF7, ↓kc0_gF8, ↓kc0_gF9, ↓kc0_gF10, ↓kc0_gF11, ↓kc0_gF12, ↓kc0_gF14, ↓kc1_al, ↓kc1_as, ↓kc1_ln, ↓kc41_gd, ↓kc41_gI, ↓kc41_gM, ↓kc41_pI, ↓kc41_pM, ↓kc41_pZ, ↓kc41_gF0, ↓kc41_gF1, ↓kc42_ql, ↓kc43_al, ↓kc43_as, ↓kc43_ln, ↓kc148_gd, ↓kc148_gI, ↓kc148_gM, ↓kc148_pI, ↓kc148_pM, ↓kc148_pZ, ↓kc148_gF0, ↓kc148_gF1, ↓kc148_gF2, ↓kc148_gF4, ↓kc148_gF5, ↓kc154_al, ↓kc154_as, ↓kc154_ln, ↓kc155_al, ↓kc155_as, ↓kc155_ln, ↓kc160_gd, ↓kc160_gI, ↓kc160_gM, ↓kc160_pI, ↓kc160_pM, ↓kc160_pZ, ↓kc160_gF0, ↓kc160_gF1, ↓kc161_al, ↓kc161_as, ↓kc161_ln, ↓kc162_gd, ↓kc162_gI, ↓kc162_gM, ↓kc162_pI, ↓kc162_pM, ↓kc162_pZ, ↓kc162_gF0, ↓kc162_gF1, ↓kc163_gd, ↓kc163_gI, ↓kc163_gM, ↓kc163_pI, ↓kc163_pM, ↓kc163_pZ, ↓kc163_gF0, ↓kc164_gd, ↓kc164_gI, ↓kc164_gM, ↓kc164_pI, ↓kc164_pM, ↓kc164_pZ, ↓kc164_gF0, ↓kc164_gF1, ↓kc164_gF2, ↓kc164_gF3, ↓kc165_al, ↓kc165_as, ↓kc165_ln, ↓kc166_al, ↓kc166_as, ↓kc166_ln, ↓kc167_al, ↓kc167_as, ↓kc167_ln, ↓kc168_al, ↓kc168_as, ↓kc168_ln, ↓kc169_gd, ↓kc169_gI, ↓kc169_gM, ↓kc169_pI, ↓kc169_pM, ↓kc169_pZ, ↓kc169_gF0, ↓kc169_gF2, ↓kc170_al, ↓kc170_as, ↓kc170_ln, ↓kc171_gd, ↓kc171_gI, ↓kc171_gM, ↓kc171_pI, ↓kc171_pM, ↓kc171_pZ, ↓kc171_gF5, ↓kc171_gF6, ↓kc171_gF7, ↓kc171_gF8, ↓kc172_al, ↓kc172_as, ↓kc172_ln, ↓kc173_al, ↓kc173_as, ↓kc173_ln, ↓kc174_al, ↓kc174_as, ↓kc174_ln, ↓kc175_al, ↓kc175_as, ↓kc175_ln, ↓kc176_al, ↓kc176_as, ↓kc176_ln, ↓kc177_al, ↓kc177_as, ↓kc177_ln, ↓qb_so, ↓nm_1, ↓nm_2, ↓reduceIte, if_true, if_false, not_true_eq_false, not_false_eq_true, and_true, true_and, and_false, false_and, or_true, true_or, or_false, false_or, eq_self, ne_eq, quI_s, quI_n, quI2, quL1, quL2, quL3, quR1, quR2, quR3, nI_add, pk_mul, pk_sub, Nat.add_sub_cancel, qm1_add, qm2_add, nI_leI, nI_ltI, nI_eq, nI_m1, nI_m1', nI_clamp, nI_bit, nI_one_shl, nI_m1l, nI_m1lt, nI_m1lt', nI_m1le', oI_some, oI_none, ni_0, ni_1, ni_60, fX11_shavings_L50b, fX0_toolsOfNextDay, qle_t, qle_f, qlt_t, qlt_f, qeq_t, qeq_f, l1, e1, u7, e2, e3]
      · rw [x3, s_sv, if_neg hs]
      · rw [y3 x hx, e176]
      · rw [s_sv, if_neg hs] at hx ⊢
        exact w3 x hx
/-- the reference -/
def mSh (S Z : xSt) : Prop := (∀ k j, ¬ mQ 1 k j → ¬ (k = 0 ∧ j = 83) → k ≠ 54 → Z.1 k j = S.1 k j) ∧ (∀ k, k ≠ 44 → Z.2.1 k = S.2.1 k) ∧ Z.2.2 = S.2.2
theorem mSh_trans (h1 : mSh S Z) (h2 : mSh Z V) : mSh S V := ⟨fun k j a1 a2 a3 => (h2.1 k j a1 a2 a3).trans (h1.1 k j a1 a2 a3), fun k hk => (h2.2.1 k hk).trans (h1.2.1 k hk), h2.2.2.trans h1.2.2⟩
theorem mSh_of (h : mFq (mQ 1) S Z) : mSh S Z := ⟨fun k j a1 _ _ => h.1 k j a1, h.2.1, h.2.2⟩
theorem mV_sh (hY : yrOk Y) {x y : Int32} {p : Nat} (hD : D 0 4 ≤ 60) (h : mV S b 1 Y mc wc R row D) : mV (xuI (xuI S 54 p x) 0 83 y) b 1 Y mc wc R row D := by
  obtain ⟨fr, u, u', hu, hu', w1, w2, ⟨w3, w4, w5⟩, ⟨o, w6, w7⟩, w8⟩ := h
  have hq : mFq (fun k j => (k = 0 ∧ j = 83) ∨ k = 54) S (xuI (xuI S 54 p x) 0 83 y) := mFq_trans (mFq_upd (Or.inr rfl)) (mFq_upd (Or.inl ⟨rfl, rfl⟩))
  have e0 : ∀ j, j ≠ 83 → (xuI (xuI S 54 p x) 0 83 y).1 0 j = S.1 0 j := fun j hj => hq.1 0 j (by omega)
  have e46 : ∀ j, (xuI (xuI S 54 p x) 0 83 y).1 46 j = S.1 46 j := fun j => hq.1 46 j (by omega)
  refine ⟨fr, u, u', hu, hu', mY_fr hq (fun k j a1 a2 => by omega) (by omega) w1, mD_fr hY hq (fun k j a1 a2 a3 => by omega) hD w2, ⟨by rw [e0 _ (by decide)]; exact w3, by rw [e0 _ (by decide)]; exact w4, by rw [e0 _ (by decide)]; exact w5⟩, ⟨o, by rw [e0 _ (by decide)]; exact w6, w7.1, fun k hk => ⟨fun ho => by rw [e0 _ (by decide)]; exact (w7.2 k hk).1 ho, (w7.2 k hk).2⟩⟩, ?_⟩
  rcases w8 with ⟨a1, a2⟩ | ⟨a1, a2⟩
  · exact Or.inl ⟨by rw [e0 _ (by decide)]; exact a1, a2⟩
  · exact Or.inr ⟨by rw [e0 _ (by decide)]; exact a1, fun i hi => by rw [e46]; exact a2 i hi⟩
theorem m_svL (hb : b < 2) (hY : yrOk Y) (hK : kOk mc wc) (hn : 2000 ≤ n) {N K d0 : Nat} (hN : N ≤ 61) (hKK : K ≤ 16) (hG : ∀ i, G 0 i < 256) (h8 : ∀ x, x < 2 * K → x % 2 = 0 → G 0 x < 31) (hd9 : d0 + N ≤ 999) (hlast : N = 61 ∨ d0 + N = 999) : ∀ (m i q c : Nat) (D : Nat → Nat → Nat) (S : xSt), i + m = N → m < q → c ≤ i → mV S b 1 Y mc wc (Y 3) (fun i => i) D → rI Y D → D 0 0 + m ≤ 999 → (∀ i, i < 1600 → S.1 1 i = nI (G 0 i)) → S.1 0 83 = nI c → S.1 34 0 = nI d0 →
    ∃ Z D', fX12_shavings_L103 n 0 (nI (2 * K)) q (nI i) S = some Z ∧ mV Z b 1 Y mc wc (Y 3) (fun i => i) D' ∧ mSh S Z ∧ Z.1 0 83 = nI (c + (s_sv Y mc wc G K m i D).length) ∧ (∀ x, x < c → Z.1 54 x = S.1 54 x) ∧ (∀ x, x < (s_sv Y mc wc G K m i D).length → Z.1 54 (c + x) = nI ((s_sv Y mc wc G K m i D).getD x 0))
  | 0, i, q, c, D, S, hk, hq, hc, hv, hI, h9, t, h13, h34 => by
    obtain ⟨q, rfl⟩ : ∃ q', q = q' + 1 := ⟨q - 1, by omega⟩
    refine ⟨S, D, ?_, hv, ⟨fun _ _ _ _ _ => rfl, fun _ _ => rfl, rfl⟩, by rw [h13]; rfl, fun _ _ => rfl, fun x hx => absurd hx (Nat.not_lt_zero _)⟩
    have l1 : fX12_isAhead 0 (nI (i + 1)) (nI 1) (nI 61) S = some (nI 0) := by
      by_cases hx : N = 61
      · exact m_can0 (Or.inr ((nI_ltI (by decide) (by omega)).mpr (by omega)))
      · have hx2 := hlast.resolve_left hx
        simp (disch := (first | assumption | omega | exact hB _ _ | exact hYB _ _ | (simp only [yc, yd, sh, sv, ne_eq]; omega) | (simp (disch := omega) only [↓nm_1, ↓nm_2, nI_add, pk_mul, pk_sub, Nat.add_sub_cancel, qm1_add, qm2_add, nI_clamp, ni_0, ni_1, ni_999, h34]; refine qin_nI ?_ ?_ <;> first | omega | exact hB _ _ | exact hYB _ _) | (refine qin_nI ?_ ?_ <;> omega) | fail)) only [↓km0_gd, ↓km0_gI, ↓km0_gM, ↓km0_pI, ↓km0_pM, ↓km0_pZ, ↓km0_gL, ↓km0_pL, ↓km0_gF54, ↓km34_al, ↓km34_as, ↓km34_ln, ↓qb_so, ↓nm_1, ↓nm_2, ↓reduceIte, if_true, if_false, not_true_eq_false, not_false_eq_true, and_true, true_and, and_false, false_and, or_true, true_or, or_false, false_or, eq_self, ne_eq, quI_s, quI_n, quI2, quL1, quL2, quL3, quR1, quR2, quR3, nI_add, pk_mul, pk_sub, Nat.add_sub_cancel, qm1_add, qm2_add, nI_leI, nI_ltI, nI_eq, nI_m1, nI_m1', nI_clamp, nI_bit, nI_one_shl, nI_m1l, nI_m1lt, nI_m1lt', nI_m1le', oI_some, oI_none, ni_0, ni_1, ni_999, fX12_isAhead, fX12_is, qle_t, qle_f, qlt_t, qlt_f, qeq_t, qeq_f, h34]
    show fX12_shavings_L103b _ _ _ _ _ _ = _
    simp (disch := (first | assumption | omega | exact hB _ _ | exact hYB _ _ | (simp only [yc, yd, sh, sv, ne_eq]; omega) | (simp (disch := omega) only [↓nm_1, ↓nm_2, nI_add, pk_mul, pk_sub, Nat.add_sub_cancel, qm1_add, qm2_add, nI_clamp, ni_0, ni_1, ni_61, l1]; refine qin_nI ?_ ?_ <;> first | omega | exact hB _ _ | exact hYB _ _) | (refine qin_nI ?_ ?_ <;> omega) | fail)) only [↓km0_gd, ↓km0_gI, ↓km0_gM, ↓km0_pI, ↓km0_pM, ↓km0_pZ, ↓km0_gL, ↓km0_pL, ↓km0_gF84, ↓km54_al, ↓km54_as, ↓km54_ln, ↓qb_so, ↓nm_1, ↓nm_2, ↓reduceIte, if_true, if_false, not_true_eq_false, not_false_eq_true, and_true, true_and, and_false, false_and, or_true, true_or, or_false, false_or, eq_self, ne_eq, quI_s, quI_n, quI2, quL1, quL2, quL3, quR1, quR2, quR3, nI_add, pk_mul, pk_sub, Nat.add_sub_cancel, qm1_add, qm2_add, nI_leI, nI_ltI, nI_eq, nI_m1, nI_m1', nI_clamp, nI_bit, nI_one_shl, nI_m1l, nI_m1lt, nI_m1lt', nI_m1le', oI_some, oI_none, ni_0, ni_1, ni_61, fX12_shavings_L103b, qle_t, qle_f, qlt_t, qlt_f, qeq_t, qeq_f, l1]
  | m + 1, i, q, c, D, S, hk, hq, hc, hv, hI, h9, t, h13, h34 => by
    obtain ⟨q, rfl⟩ : ∃ q', q = q' + 1 := ⟨q - 1, by omega⟩
    have l1 : fX12_isAhead 0 (nI (i + 1)) (nI 1) (nI 61) S = some (nI 1) := by
      simp (disch := (first | assumption | omega | exact hB _ _ | exact hYB _ _ | (simp only [yc, yd, sh, sv, ne_eq]; omega) | (simp (disch := omega) only [↓nm_1, ↓nm_2, nI_add, pk_mul, pk_sub, Nat.add_sub_cancel, qm1_add, qm2_add, nI_clamp, ni_0, ni_1, ni_999, h34]; refine qin_nI ?_ ?_ <;> first | omega | exact hB _ _ | exact hYB _ _) | (refine qin_nI ?_ ?_ <;> omega) | fail)) only [↓km0_gd, ↓km0_gI, ↓km0_gM, ↓km0_pI, ↓km0_pM, ↓km0_pZ, ↓km0_gL, ↓km0_pL, ↓km0_gF54, ↓km34_al, ↓km34_as, ↓km34_ln, ↓qb_so, ↓nm_1, ↓nm_2, ↓reduceIte, if_true, if_false, not_true_eq_false, not_false_eq_true, and_true, true_and, and_false, false_and, or_true, true_or, or_false, false_or, eq_self, ne_eq, quI_s, quI_n, quI2, quL1, quL2, quL3, quR1, quR2, quR3, nI_add, pk_mul, pk_sub, Nat.add_sub_cancel, qm1_add, qm2_add, nI_leI, nI_ltI, nI_eq, nI_m1, nI_m1', nI_clamp, nI_bit, nI_one_shl, nI_m1l, nI_m1lt, nI_m1lt', nI_m1le', oI_some, oI_none, ni_0, ni_1, ni_999, fX12_isAhead, fX12_is, qle_t, qle_f, qlt_t, qlt_f, qeq_t, qeq_f, h34]
    obtain ⟨Z1, e1, w1, f1⟩ := m_day2 (n := n) (fr := 0) (v := 1) hb (by decide) hv hY hI hK (Y3_lt hY) hn (by decide) id_row (by omega)
    have nx := s_next hY hI id_row (mc := mc) (wc := wc) (R := Y 3) (fr := 0) (by omega : D 0 0 < 999)
    have f1' : mSh S Z1 := mSh_of f1
    have t' : ∀ i, i < 1600 → Z1.1 1 i = nI (G 0 i) := fun i hi => by rw [f1.1 1 i (by unfold mQ; omega)]; exact t i hi
    have h13' : Z1.1 0 83 = nI c := by rw [f1.1 0 83 (by unfold mQ; omega)]; exact h13
    have h34' : Z1.1 34 0 = nI d0 := by rw [f1.1 34 0 (by unfold mQ; omega)]; exact h34
    have e54 : ∀ x, Z1.1 54 x = S.1 54 x := fun x => f1.1 54 x (by unfold mQ; omega)
    have hu : s_day Y mc wc (Y 3) (fun i => i) 0 D 5 0 < 2 ^ 31 := dOk_B nx.2.2 5 0
    have e2 := m_ftL (n := n) t' hG (nI i) w1.2.2.1.1 hu (L := 2 * K) (by omega) h8 K 0 n 1 (by omega) (by omega) (by decide) (by omega)
    have t4 := dOk_told hY nx.2.2
    rw [if_pos rfl] at e2
    show ∃ Z D', fX12_shavings_L103b _ _ _ _ _ _ = _ ∧ _
    by_cases hs : s_ftL G (s_day Y mc wc (Y 3) (fun i => i) 0 D 5 0) K 0 = true
    · rw [if_pos hs] at e2
      obtain ⟨Z, D', e3, v3, f3, x3, y3, w3⟩ := m_svL hb hY hK hn hN hKK hG h8 hd9 hlast m (i + 1) q (c + 1) _ (xuI (xuI Z1 54 c (nI i)) 0 83 (nI (c + 1))) (by omega) (by omega) (by omega) (mV_sh hY (by omega) (mV_of w1 nx.1.2.1)) nx.1 (by omega) (fun i hi => by rw [quI_n (by decide), quI_n (by decide)]; exact t' i hi) (by rw [quI_e]) (by rw [quI_n (by decide), quI_n (by decide)]; exact h34')
      have fs : mSh Z1 (xuI (xuI Z1 54 c (nI i)) 0 83 (nI (c + 1))) := ⟨fun k j a1 a2 a3 => by rw [quI_k a2, quI_n a3], fun _ _ => rfl, rfl⟩
      refine ⟨Z, D', ?_, v3, mSh_trans f1' (mSh_trans fs f3), ?_, fun x hx => ?_, fun x hx => ?_⟩
      · simp (disch := (first | assumption | omega | exact hB _ _ | exact hYB _ _ | (simp only [yc, yd, sh, sv, ne_eq]; omega) | (simp (disch := omega) only [↓nm_1, ↓nm_2, nI_add, pk_mul, pk_sub, Nat.add_sub_cancel, qm1_add, qm2_add, nI_clamp, ni_0, ni_1, ni_61, l1, e1, e2, h13', e3]; refine qin_nI ?_ ?_ <;> first | omega | exact hB _ _ | exact hYB _ _) | (refine qin_nI ?_ ?_ <;> omega) | fail)) only [↓km0_gd, ↓km0_gI, ↓km0_gM, ↓km0_pI, ↓km0_pM, ↓km0_pZ, ↓km0_gL, ↓km0_pL, ↓km0_gF84, ↓km54_al, ↓km54_as, ↓km54_ln, ↓qb_so, ↓nm_1, ↓nm_2, ↓reduceIte, if_true, if_false, not_true_eq_false, not_false_eq_true, and_true, true_and, and_false, false_and, or_true, true_or, or_false, false_or, eq_self, ne_eq, quI_s, quI_n, quI2, quL1, quL2, quL3, quR1, quR2, quR3, nI_add, pk_mul, pk_sub, Nat.add_sub_cancel, qm1_add, qm2_add, nI_leI, nI_ltI, nI_eq, nI_m1, nI_m1', nI_clamp, nI_bit, nI_one_shl, nI_m1l, nI_m1lt, nI_m1lt', nI_m1le', oI_some, oI_none, ni_0, ni_1, ni_61, fX12_shavings_L103b, qle_t, qle_f, qlt_t, qlt_f, qeq_t, qeq_f, l1, e1, e2, h13', e3]
      · rw [x3, s_sv, if_pos hs, List.length_cons]; congr 1; omega
      · rw [y3 x (by omega), quI_n (by decide), quI_k (by omega), e54]
      · rw [s_sv, if_pos hs] at hx ⊢
        rw [List.length_cons] at hx
        cases x with
        | zero => rw [Nat.add_zero, y3 c (by omega), quI_n (by decide), quI_e]; rfl
        | succ x => rw [show c + (x + 1) = c + 1 + x by omega, w3 x (by omega)]; rfl
    · rw [if_neg hs] at e2
      obtain ⟨Z, D', e3, v3, f3, x3, y3, w3⟩ := m_svL hb hY hK hn hN hKK hG h8 hd9 hlast m (i + 1) q c _ Z1 (by omega) (by omega) (by omega) (mV_of w1 nx.1.2.1) nx.1 (by omega) t' h13' h34'
      refine ⟨Z, D', ?_, v3, mSh_trans f1' f3, ?_, fun x hx => ?_, fun x hx => ?_⟩
      · simp (disch := (first | assumption | omega | exact hB _ _ | exact hYB _ _ | (simp only [yc, yd, sh, sv, ne_eq]; omega) | (simp (disch := omega) only [↓nm_1, ↓nm_2, nI_add, pk_mul, pk_sub, Nat.add_sub_cancel, qm1_add, qm2_add, nI_clamp, ni_0, ni_1, ni_61, l1, e1, e2, e3]; refine qin_nI ?_ ?_ <;> first | omega | exact hB _ _ | exact hYB _ _) | (refine qin_nI ?_ ?_ <;> omega) | fail)) only [↓km0_gd, ↓km0_gI, ↓km0_gM, ↓km0_pI, ↓km0_pM, ↓km0_pZ, ↓km0_gL, ↓km0_pL, ↓km0_gF84, ↓km54_al, ↓km54_as, ↓km54_ln, ↓qb_so, ↓nm_1, ↓nm_2, ↓reduceIte, if_true, if_false, not_true_eq_false, not_false_eq_true, and_true, true_and, and_false, false_and, or_true, true_or, or_false, false_or, eq_self, ne_eq, quI_s, quI_n, quI2, quL1, quL2, quL3, quR1, quR2, quR3, nI_add, pk_mul, pk_sub, Nat.add_sub_cancel, qm1_add, qm2_add, nI_leI, nI_ltI, nI_eq, nI_m1, nI_m1', nI_clamp, nI_bit, nI_one_shl, nI_m1l, nI_m1lt, nI_m1lt', nI_m1le', oI_some, oI_none, ni_0, ni_1, ni_61, fX12_shavings_L103b, qle_t, qle_f, qlt_t, qlt_f, qeq_t, qeq_f, l1, e1, e2, e3]
      · rw [x3, s_sv, if_neg hs]
      · rw [y3 x hx, e54]
      · rw [s_sv, if_neg hs] at hx ⊢
        exact w3 x hx
theorem s_sv_len {K : Nat} : ∀ (m i : Nat) (D : Nat → Nat → Nat), (s_sv Y mc wc G K m i D).length ≤ m ∧ ∀ x, (s_sv Y mc wc G K m i D).getD x 0 < i + m + 1
  | 0, i, D => ⟨Nat.le_refl _, fun x => by show ([] : List Nat).getD x 0 < _; simp⟩
  | m + 1, i, D => by
    obtain ⟨a1, a2⟩ := s_sv_len (K := K) m (i + 1) (s_day Y mc wc (Y 3) (fun i => i) 0 D)
    unfold s_sv
    split
    · refine ⟨by rw [List.length_cons]; omega, fun x => ?_⟩
      cases x with
      | zero => show i < _; omega
      | succ x => have := a2 x; show List.getD _ x 0 < _; omega
    · exact ⟨by omega, fun x => by have := a2 x; omega⟩
def s_svG (G : Nat → Nat → Nat) (l : List Nat) : Nat → Nat → Nat := fun c j => if c = 3 then l.getD j 0 else if c = 1 ∧ j = 2 then l.length else G c j
end Q63

