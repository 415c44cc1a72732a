/-! ===== makeshift: the class and the reference measure the ways ===== -/
def pE (S : xSt) (b : Nat) (E : Nat → Nat) : Prop := ∀ k, k < 6 → S.1 (yc b 13) k = nI (E k)
def cFx (x : Nat) : Nat := if x = 1000000 then 100000000 else x / 8
def mE (S : xSt) (E : Nat → Nat) : Prop := ∀ k, k < 6 → S.1 48 k = nI (cFx (E k)) ∧ S.1 49 k = nI (E k % 8)
section Q73
variable {S T Z V : xSt} {b n a s : Nat} {Y D U : Nat → Nat → Nat} {E : Nat → Nat} {mc wc : List (Nat × Nat)} {R row : Nat → Nat} {P : Nat → Nat → Nat → Nat} {G G' : Nat → Nat → Nat}
theorem c_fillL {a len : Nat} {v : Int32} (hk : tC.1 a = 13) (hl : tC.2.1 a = len) (hlen : len < 2 ^ 31) : ∀ (k i q : Nat) (S : xSt), i + k = len → k < q → ∃ Z, fJ7_fill_53178_L5 n a v (nI len) q (nI i) S = some Z ∧ qFr (fun k => k = a) S Z ∧ ∀ j, Z.1 a j = if i ≤ j ∧ j < len then v else S.1 a j
  | 0, i, q, S, hi, hq => by
    obtain ⟨q, rfl⟩ : ∃ q', q = q' + 1 := ⟨q - 1, by omega⟩
    refine ⟨S, ?_, qFr_refl, fun j => by rw [if_neg (by omega)]⟩
    show fJ7_fill_53178_L5b _ _ _ _ _ _ _ = _
    unfold fJ7_fill_53178_L5b
    rw [if_pos ((nI_leI hlen (by omega)).mpr (by omega))]
  | k + 1, i, q, S, hi, hq => by
    obtain ⟨q, rfl⟩ : ∃ q', q = q' + 1 := ⟨q - 1, by omega⟩
    obtain ⟨Z, e, f, hz⟩ := c_fillL hk hl hlen k (i + 1) q (xuI S a i v) (by omega) (by omega)
    refine ⟨Z, ?_, qFr_trans (qFr_upd rfl) f, fun j => ?_⟩
    · show fJ7_fill_53178_L5b _ _ _ _ _ _ _ = _
      unfold fJ7_fill_53178_L5b
      rw [if_neg (fun hh => by have := (nI_leI hlen (by omega)).mp hh; omega)]
      rw [qb_as hk (by rw [hl]; exact qin_nI (by omega) hlen), nI_clamp (by omega)]
      show fJ7_fill_53178_L5 n a v (nI len) q (nI i + nI 1) (xuI S a i v) = _
      rw [nI_add]
      exact e
    · rw [hz j, quI_s]
      by_cases h1 : i + 1 ≤ j ∧ j < len
      · rw [if_pos h1, if_pos ⟨by omega, h1.2⟩]
      · rw [if_neg h1]
        by_cases h2 : j = i
        · rw [if_pos h2, if_pos ⟨by omega, by omega⟩]
        · rw [if_neg h2, if_neg (by omega)]
theorem c_fill {a len : Nat} {v : Int32} (hk : tC.1 a = 13) (hl : tC.2.1 a = len) (hlen : len < 2000) (hn : 2000 ≤ n) : ∃ Z, fJ7_fill_53178 n a v S = some Z ∧ qFr (fun k => k = a) S Z ∧ ∀ j, Z.1 a j = if j < len then v else S.1 a j := by
  obtain ⟨Z, e, f, hz⟩ := c_fillL (n := n) (v := v) hk hl (by omega) len 0 n S (by omega) (by omega)
  refine ⟨Z, ?_, f, fun j => by rw [hz j]; simp only [Nat.zero_le, true_and]⟩
  unfold fJ7_fill_53178 xlen
  rw [if_pos ⟨by omega, by omega⟩, hl]
  show (fJ7_fill_53178_L5 n a v (nI len) n (nI 0) S).bind _ = _
  rw [e]
  rfl
theorem cY_13 (hf : qFr (fun k => k = yc b 13) S Z) (h : cY S b Y mc wc) : cY Z b Y mc wc := by
  have e : ∀ c, c ≠ 13 → Z.1 (yc b c) = S.1 (yc b c) := fun c hc => hf.1 _ (by unfold yc; omega)
  obtain ⟨h1, h2, h3, h4, h5, h6, h7, h8⟩ := h
  refine ⟨fun c j hc => by rw [e c (by omega)]; exact h1 c j hc, fun j => by rw [e 14 (by decide)]; exact h2 j, h3, h4, h5, h6, by rw [e 15 (by decide)]; exact h7, by rw [e 15 (by decide)]; exact h8⟩
theorem c_lo (hb : b < 2) (hy : cY S b Y mc wc) (hY : yrOk Y) (hE : ∀ k, E k ≤ 1000000) (hp : pE S b E) {sd : Nat} (ha : a < 6) (hs : sd < 6) : fX9_lengthOver (yc b 0) (nI sd) (nI a) S = some (nI (s_cd (Y 12) E sd a)) := by
  have h12 := hy.1 12
  have p9 := hY.2.2.2.2.2.2.1 (6 * a + sd)
  have ea := hE a
  have hpa := hp a ha
  unfold s_cd
  by_cases h0 : Y 12 (6 * a + sd) = 0
  · simp (disch := (first | assumption | omega | exact hB _ _ | exact hYB _ _ | (simp only [yc, yd, sh, sv, ne_eq]; omega) | (simp (disch := omega) only [↓nm_1, ↓nm_2, nI_add, pk_mul, pk_sub, Nat.add_sub_cancel, qm1_add, qm2_add, nI_clamp, ni_0, ni_1, ni_6, ni_8, ni_1000000, h12, Nat.mul_comm a 6, h0]; refine qin_nI ?_ ?_ <;> first | omega | exact hB _ _ | exact hYB _ _) | (refine qin_nI ?_ ?_ <;> omega) | fail)) only [↓yc0_gd hb, ↓yc0_gI hb, ↓yc0_gM hb, ↓yc0_pI hb, ↓yc0_pM hb, ↓yc0_pZ hb, ↓yc0_gF0 hb, ↓yc0_gF1 hb, ↓yc0_gF2 hb, ↓yc0_gF3 hb, ↓yc0_gF4 hb, ↓yc0_gF5 hb, ↓yc0_gF6 hb, ↓yc0_gF7 hb, ↓yc0_gF8 hb, ↓yc0_gF9 hb, ↓yc0_gF10 hb, ↓yc0_gF11 hb, ↓yc0_gF12 hb, ↓yc0_gF13 hb, ↓yc1_al hb, ↓yc1_as hb, ↓yc1_ln hb, ↓yc2_al hb, ↓yc2_as hb, ↓yc2_ln hb, ↓yc3_al hb, ↓yc3_as hb, ↓yc3_ln hb, ↓yc4_al hb, ↓yc4_as hb, ↓yc4_ln hb, ↓yc5_al hb, ↓yc5_as hb, ↓yc5_ln hb, ↓yc6_al hb, ↓yc6_as hb, ↓yc6_ln hb, ↓yc7_al hb, ↓yc7_as hb, ↓yc7_ln hb, ↓yc8_al hb, ↓yc8_as hb, ↓yc8_ln hb, ↓yc9_al hb, ↓yc9_as hb, ↓yc9_ln hb, ↓yc10_al hb, ↓yc10_as hb, ↓yc10_ln hb, ↓yc11_al hb, ↓yc11_as hb, ↓yc11_ln hb, ↓yc12_al hb, ↓yc12_as hb, ↓yc12_ln hb, ↓yc13_al hb, ↓yc13_as hb, ↓yc13_ln hb, ↓yc14_gd hb, ↓yc14_gI hb, ↓yc14_gM hb, ↓yc14_pI hb, ↓yc14_pM hb, ↓yc14_pZ hb, ↓yc14_gF0 hb, ↓yc14_gF1 hb, ↓yc15_al hb, ↓yc15_as hb, ↓yc15_ln hb, ↓yc16_al hb, ↓yc16_as hb, ↓yc16_ln hb, ↓qb_so, ↓nm_1, ↓nm_2, ↓reduceIte, if_true, if_false, not_true_eq_false, not_false_eq_true, and_true, true_and, and_false, false_and, or_true, true_or, or_false, false_or, eq_self, ne_eq, quI_s, quI_n, quI2, quL1, quL2, quL3, quR1, quR2, quR3, nI_add, pk_mul, pk_sub, Nat.add_sub_cancel, qm1_add, qm2_add, nI_leI, nI_ltI, nI_eq, nI_m1, nI_m1', nI_clamp, nI_bit, nI_one_shl, nI_m1l, nI_m1lt, nI_m1lt', nI_m1le', oI_some, oI_none, ni_0, ni_1, ni_6, ni_8, ni_1000000, fX9_lengthOver, qle_t, qle_f, qlt_t, qlt_f, qeq_t, qeq_f, h12, Nat.mul_comm a 6, h0]
  · simp (disch := (first | assumption | omega | exact hB _ _ | exact hYB _ _ | (simp only [yc, yd, sh, sv, ne_eq]; omega) | (simp (disch := omega) only [↓nm_1, ↓nm_2, nI_add, pk_mul, pk_sub, Nat.add_sub_cancel, qm1_add, qm2_add, nI_clamp, ni_0, ni_1, ni_6, ni_8, ni_1000000, h12, Nat.mul_comm a 6, h0, hpa, Nat.mul_comm (Y 12 (6 * a + sd)) 8]; refine qin_nI ?_ ?_ <;> first | omega | exact hB _ _ | exact hYB _ _) | (refine qin_nI ?_ ?_ <;> omega) | fail)) only [↓yc0_gd hb, ↓yc0_gI hb, ↓yc0_gM hb, ↓yc0_pI hb, ↓yc0_pM hb, ↓yc0_pZ hb, ↓yc0_gF0 hb, ↓yc0_gF1 hb, ↓yc0_gF2 hb, ↓yc0_gF3 hb, ↓yc0_gF4 hb, ↓yc0_gF5 hb, ↓yc0_gF6 hb, ↓yc0_gF7 hb, ↓yc0_gF8 hb, ↓yc0_gF9 hb, ↓yc0_gF10 hb, ↓yc0_gF11 hb, ↓yc0_gF12 hb, ↓yc0_gF13 hb, ↓yc1_al hb, ↓yc1_as hb, ↓yc1_ln hb, ↓yc2_al hb, ↓yc2_as hb, ↓yc2_ln hb, ↓yc3_al hb, ↓yc3_as hb, ↓yc3_ln hb, ↓yc4_al hb, ↓yc4_as hb, ↓yc4_ln hb, ↓yc5_al hb, ↓yc5_as hb, ↓yc5_ln hb, ↓yc6_al hb, ↓yc6_as hb, ↓yc6_ln hb, ↓yc7_al hb, ↓yc7_as hb, ↓yc7_ln hb, ↓yc8_al hb, ↓yc8_as hb, ↓yc8_ln hb, ↓yc9_al hb, ↓yc9_as hb, ↓yc9_ln hb, ↓yc10_al hb, ↓yc10_as hb, ↓yc10_ln hb, ↓yc11_al hb, ↓yc11_as hb, ↓yc11_ln hb, ↓yc12_al hb, ↓yc12_as hb, ↓yc12_ln hb, ↓yc13_al hb, ↓yc13_as hb, ↓yc13_ln hb, ↓yc14_gd hb, ↓yc14_gI hb, ↓yc14_gM hb, ↓yc14_pI hb, ↓yc14_pM hb, ↓yc14_pZ hb, ↓yc14_gF0 hb, ↓yc14_gF1 hb, ↓yc15_al hb, ↓yc15_as hb, ↓yc15_ln hb, ↓yc16_al hb, ↓yc16_as hb, ↓yc16_ln hb, ↓qb_so, ↓nm_1, ↓nm_2, ↓reduceIte, if_true, if_false, not_true_eq_false, not_false_eq_true, and_true, true_and, and_false, false_and, or_true, true_or, or_false, false_or, eq_self, ne_eq, quI_s, quI_n, quI2, quL1, quL2, quL3, quR1, quR2, quR3, nI_add, pk_mul, pk_sub, Nat.add_sub_cancel, qm1_add, qm2_add, nI_leI, nI_ltI, nI_eq, nI_m1, nI_m1', nI_clamp, nI_bit, nI_one_shl, nI_m1l, nI_m1lt, nI_m1lt', nI_m1le', oI_some, oI_none, ni_0, ni_1, ni_6, ni_8, ni_1000000, fX9_lengthOver, qle_t, qle_f, qlt_t, qlt_f, qeq_t, qeq_f, h12, Nat.mul_comm a 6, h0, hpa, Nat.mul_comm (Y 12 (6 * a + sd)) 8]
theorem pE_rx (hE : ∀ k, E k ≤ 1000000) (hp : pE S b E) {sd : Nat} (hs : sd < 6) : pE (xuI S (yc b 13) sd (nI (if s_cd (Y 12) E sd a < E sd then s_cd (Y 12) E sd a else E sd))) b (s_rx (Y 12) E sd a) := by
  intro k hk
  rw [quI_s]
  unfold s_rx
  split
  · rfl
  · exact hp k hk
theorem c_rA (hb : b < 2) (hY : yrOk Y) {sd : Nat} (hs : sd < Y 2 0) (a2 : Int32) : ∀ (k a q : Nat) (E : Nat → Nat) (S : xSt), a + k = Y 2 0 → k < q → (∀ k, E k ≤ 1000000) → cY S b Y mc wc → pE S b E →
    ∃ Z, fX9_measurePathsTo_L47 n (yc b 0) a2 (nI sd) q (nI a) S = some Z ∧ pE Z b (s_rA (Y 12) sd k a E) ∧ qFr (fun k => k = yc b 13) S Z ∧ ∀ x, s_rA (Y 12) sd k a E x ≤ 1000000
  | 0, a, q, E, S, hk, hq, hE, hy, hp => by
    obtain ⟨q, rfl⟩ : ∃ q', q = q' + 1 := ⟨q - 1, by omega⟩
    have h6 : Y 2 0 ≤ 6 := hY.1.1
    have e1 := c_count (s := 0) hb hy (by decide)
    refine ⟨S, ?_, hp, qFr_refl, hE⟩
    show fX9_measurePathsTo_L47b _ _ _ _ _ _ _ = _
    simp (disch := (first | assumption | omega | exact hB _ _ | exact hYB _ _ | (simp only [yc, yd, sh, sv, ne_eq]; omega) | (simp (disch := omega) only [↓nm_1, ↓nm_2, nI_add, pk_mul, pk_sub, Nat.add_sub_cancel, qm1_add, qm2_add, nI_clamp, ni_0, ni_1, e1]; refine qin_nI ?_ ?_ <;> first | omega | exact hB _ _ | exact hYB _ _) | (refine qin_nI ?_ ?_ <;> omega) | fail)) only [↓yc0_gd hb, ↓yc0_gI hb, ↓yc0_gM hb, ↓yc0_pI hb, ↓yc0_pM hb, ↓yc0_pZ hb, ↓yc0_gF0 hb, ↓yc0_gF1 hb, ↓yc0_gF2 hb, ↓yc0_gF3 hb, ↓yc0_gF4 hb, ↓yc0_gF5 hb, ↓yc0_gF6 hb, ↓yc0_gF7 hb, ↓yc0_gF8 hb, ↓yc0_gF9 hb, ↓yc0_gF10 hb, ↓yc0_gF11 hb, ↓yc0_gF12 hb, ↓yc0_gF13 hb, ↓yc1_al hb, ↓yc1_as hb, ↓yc1_ln hb, ↓yc2_al hb, ↓yc2_as hb, ↓yc2_ln hb, ↓yc3_al hb, ↓yc3_as hb, ↓yc3_ln hb, ↓yc4_al hb, ↓yc4_as hb, ↓yc4_ln hb, ↓yc5_al hb, ↓yc5_as hb, ↓yc5_ln hb, ↓yc6_al hb, ↓yc6_as hb, ↓yc6_ln hb, ↓yc7_al hb, ↓yc7_as hb, ↓yc7_ln hb, ↓yc8_al hb, ↓yc8_as hb, ↓yc8_ln hb, ↓yc9_al hb, ↓yc9_as hb, ↓yc9_ln hb, ↓yc10_al hb, ↓yc10_as hb, ↓yc10_ln hb, ↓yc11_al hb, ↓yc11_as hb, ↓yc11_ln hb, ↓yc12_al hb, ↓yc12_as hb, ↓yc12_ln hb, ↓yc13_al hb, ↓yc13_as hb, ↓yc13_ln hb, ↓yc14_gd hb, ↓yc14_gI hb, ↓yc14_gM hb, ↓yc14_pI hb, ↓yc14_pM hb, ↓yc14_pZ hb, ↓yc14_gF0 hb, ↓yc14_gF1 hb, ↓yc15_al hb, ↓yc15_as hb, ↓yc15_ln hb, ↓yc16_al hb, ↓yc16_as hb, ↓yc16_ln hb, ↓qb_so, ↓nm_1, ↓nm_2, ↓reduceIte, if_true, if_false, not_true_eq_false, not_false_eq_true, and_true, true_and, and_false, false_and, or_true, true_or, or_false, false_or, eq_self, ne_eq, quI_s, quI_n, quI2, quL1, quL2, quL3, quR1, quR2, quR3, nI_add, pk_mul, pk_sub, Nat.add_sub_cancel, qm1_add, qm2_add, nI_leI, nI_ltI, nI_eq, nI_m1, nI_m1', nI_clamp, nI_bit, nI_one_shl, nI_m1l, nI_m1lt, nI_m1lt', nI_m1le', oI_some, oI_none, ni_0, ni_1, fX9_measurePathsTo_L47b, qle_t, qle_f, qlt_t, qlt_f, qeq_t, qeq_f, e1]
  | k + 1, a, q, E, S, hk, hq, hE, hy, hp => by
    obtain ⟨q, rfl⟩ : ∃ q', q = q' + 1 := ⟨q - 1, by omega⟩
    have h6 : Y 2 0 ≤ 6 := hY.1.1
    have e1 := c_count (s := 0) hb hy (by decide)
    have e2 := c_lo (a := a) (sd := sd) hb hy hY hE hp (by omega) (by omega)
    have hps := hp sd (by omega)
    have hes := hE sd
    have p9 := hY.2.2.2.2.2.2.1 (6 * a + sd)
    have ea := hE a
    have hcd : s_cd (Y 12) E sd a < 2 ^ 31 := by unfold s_cd; split <;> omega
    have hE' : ∀ x, s_rx (Y 12) E sd a x ≤ 1000000 := fun x => Nat.le_trans (s_rx_le x) (hE x)
    have f1 : qFr (fun k => k = yc b 13) S (xuI S (yc b 13) sd (nI (if s_cd (Y 12) E sd a < E sd then s_cd (Y 12) E sd a else E sd))) := qFr_upd rfl
    obtain ⟨Z, e3, p3, f3, b3⟩ := c_rA hb hY hs a2 k (a + 1) q (s_rx (Y 12) E sd a) (xuI S (yc b 13) sd (nI (if s_cd (Y 12) E sd a < E sd then s_cd (Y 12) E sd a else E sd))) (by omega) (by omega) hE' (cY_13 f1 hy) (pE_rx hE hp (by omega))
    refine ⟨Z, ?_, p3, qFr_trans f1 f3, b3⟩
    show fX9_measurePathsTo_L47b _ _ _ _ _ _ _ = _
    by_cases hc : s_cd (Y 12) E sd a < E sd
    · rw [if_pos hc] at e3
      simp (disch := (first | assumption | omega | exact hB _ _ | exact hYB _ _ | (simp only [yc, yd, sh, sv, ne_eq]; omega) | (simp (disch := omega) only [↓nm_1, ↓nm_2, nI_add, pk_mul, pk_sub, Nat.add_sub_cancel, qm1_add, qm2_add, nI_clamp, ni_0, ni_1, e1, hps, e2, hc, e3]; refine qin_nI ?_ ?_ <;> first | omega | exact hB _ _ | exact hYB _ _) | (refine qin_nI ?_ ?_ <;> omega) | fail)) only [↓yc0_gd hb, ↓yc0_gI hb, ↓yc0_gM hb, ↓yc0_pI hb, ↓yc0_pM hb, ↓yc0_pZ hb, ↓yc0_gF0 hb, ↓yc0_gF1 hb, ↓yc0_gF2 hb, ↓yc0_gF3 hb, ↓yc0_gF4 hb, ↓yc0_gF5 hb, ↓yc0_gF6 hb, ↓yc0_gF7 hb, ↓yc0_gF8 hb, ↓yc0_gF9 hb, ↓yc0_gF10 hb, ↓yc0_gF11 hb, ↓yc0_gF12 hb, ↓yc0_gF13 hb, ↓yc1_al hb, ↓yc1_as hb, ↓yc1_ln hb, ↓yc2_al hb, ↓yc2_as hb, ↓yc2_ln hb, ↓yc3_al hb, ↓yc3_as hb, ↓yc3_ln hb, ↓yc4_al hb, ↓yc4_as hb, ↓yc4_ln hb, ↓yc5_al hb, ↓yc5_as hb, ↓yc5_ln hb, ↓yc6_al hb, ↓yc6_as hb, ↓yc6_ln hb, ↓yc7_al hb, ↓yc7_as hb, ↓yc7_ln hb, ↓yc8_al hb, ↓yc8_as hb, ↓yc8_ln hb, ↓yc9_al hb, ↓yc9_as hb, ↓yc9_ln hb, ↓yc10_al hb, ↓yc10_as hb, ↓yc10_ln hb, ↓yc11_al hb, ↓yc11_as hb, ↓yc11_ln hb, ↓yc12_al hb, ↓yc12_as hb, ↓yc12_ln hb, ↓yc13_al hb, ↓yc13_as hb, ↓yc13_ln hb, ↓yc14_gd hb, ↓yc14_gI hb, ↓yc14_gM hb, ↓yc14_pI hb, ↓yc14_pM hb, ↓yc14_pZ hb, ↓yc14_gF0 hb, ↓yc14_gF1 hb, ↓yc15_al hb, ↓yc15_as hb, ↓yc15_ln hb, ↓yc16_al hb, ↓yc16_as hb, ↓yc16_ln hb, ↓qb_so, ↓nm_1, ↓nm_2, ↓reduceIte, if_true, if_false, not_true_eq_false, not_false_eq_true, and_true, true_and, and_false, false_and, or_true, true_or, or_false, false_or, eq_self, ne_eq, quI_s, quI_n, quI2, quL1, quL2, quL3, quR1, quR2, quR3, nI_add, pk_mul, pk_sub, Nat.add_sub_cancel, qm1_add, qm2_add, nI_leI, nI_ltI, nI_eq, nI_m1, nI_m1', nI_clamp, nI_bit, nI_one_shl, nI_m1l, nI_m1lt, nI_m1lt', nI_m1le', oI_some, oI_none, ni_0, ni_1, fX9_measurePathsTo_L47b, qle_t, qle_f, qlt_t, qlt_f, qeq_t, qeq_f, e1, hps, e2, hc, e3]
    · rw [if_neg hc] at e3
      simp (disch := (first | assumption | omega | exact hB _ _ | exact hYB _ _ | (simp only [yc, yd, sh, sv, ne_eq]; omega) | (simp (disch := omega) only [↓nm_1, ↓nm_2, nI_add, pk_mul, pk_sub, Nat.add_sub_cancel, qm1_add, qm2_add, nI_clamp, ni_0, ni_1, e1, hps, e2, hc, e3]; refine qin_nI ?_ ?_ <;> first | omega | exact hB _ _ | exact hYB _ _) | (refine qin_nI ?_ ?_ <;> omega) | fail)) only [↓yc0_gd hb, ↓yc0_gI hb, ↓yc0_gM hb, ↓yc0_pI hb, ↓yc0_pM hb, ↓yc0_pZ hb, ↓yc0_gF0 hb, ↓yc0_gF1 hb, ↓yc0_gF2 hb, ↓yc0_gF3 hb, ↓yc0_gF4 hb, ↓yc0_gF5 hb, ↓yc0_gF6 hb, ↓yc0_gF7 hb, ↓yc0_gF8 hb, ↓yc0_gF9 hb, ↓yc0_gF10 hb, ↓yc0_gF11 hb, ↓yc0_gF12 hb, ↓yc0_gF13 hb, ↓yc1_al hb, ↓yc1_as hb, ↓yc1_ln hb, ↓yc2_al hb, ↓yc2_as hb, ↓yc2_ln hb, ↓yc3_al hb, ↓yc3_as hb, ↓yc3_ln hb, ↓yc4_al hb, ↓yc4_as hb, ↓yc4_ln hb, ↓yc5_al hb, ↓yc5_as hb, ↓yc5_ln hb, ↓yc6_al hb, ↓yc6_as hb, ↓yc6_ln hb, ↓yc7_al hb, ↓yc7_as hb, ↓yc7_ln hb, ↓yc8_al hb, ↓yc8_as hb, ↓yc8_ln hb, ↓yc9_al hb, ↓yc9_as hb, ↓yc9_ln hb, ↓yc10_al hb, ↓yc10_as hb, ↓yc10_ln hb, ↓yc11_al hb, ↓yc11_as hb, ↓yc11_ln hb, ↓yc12_al hb, ↓yc12_as hb, ↓yc12_ln hb, ↓yc13_al hb, ↓yc13_as hb, ↓yc13_ln hb, ↓yc14_gd hb, ↓yc14_gI hb, ↓yc14_gM hb, ↓yc14_pI hb, ↓yc14_pM hb, ↓yc14_pZ hb, ↓yc14_gF0 hb, ↓yc14_gF1 hb, ↓yc15_al hb, ↓yc15_as hb, ↓yc15_ln hb, ↓yc16_al hb, ↓yc16_as hb, ↓yc16_ln hb, ↓qb_so, ↓nm_1, ↓nm_2, ↓reduceIte, if_true, if_false, not_true_eq_false, not_false_eq_true, and_true, true_and, and_false, false_and, or_true, true_or, or_false, false_or, eq_self, ne_eq, quI_s, quI_n, quI2, quL1, quL2, quL3, quR1, quR2, quR3, nI_add, pk_mul, pk_sub, Nat.add_sub_cancel, qm1_add, qm2_add, nI_leI, nI_ltI, nI_eq, nI_m1, nI_m1', nI_clamp, nI_bit, nI_one_shl, nI_m1l, nI_m1lt, nI_m1lt', nI_m1le', oI_some, oI_none, ni_0, ni_1, fX9_measurePathsTo_L47b, qle_t, qle_f, qlt_t, qlt_f, qeq_t, qeq_f, e1, hps, e2, hc, e3]
theorem c_rB (hb : b < 2) (hY : yrOk Y) (hn : 2000 ≤ n) (a2 : Int32) : ∀ (k sd q : Nat) (E : Nat → Nat) (S : xSt), sd + k = Y 2 0 → k < q → (∀ k, E k ≤ 1000000) → cY S b Y mc wc → pE S b E →
    ∃ Z, fX9_measurePathsTo_L35 n (yc b 0) a2 q (nI sd) S = some Z ∧ pE Z b (s_rB (Y 12) (Y 2 0) k sd E) ∧ qFr (fun k => k = yc b 13) S Z ∧ ∀ x, s_rB (Y 12) (Y 2 0) k sd E x ≤ 1000000
  | 0, sd, q, E, S, hk, hq, hE, hy, hp => by
    obtain ⟨q, rfl⟩ : ∃ q', q = q' + 1 := ⟨q - 1, by omega⟩
    have h6 : Y 2 0 ≤ 6 := hY.1.1
    have e1 := c_count (s := 0) hb hy (by decide)
    refine ⟨S, ?_, hp, qFr_refl, hE⟩
    show fX9_measurePathsTo_L35b _ _ _ _ _ _ = _
    simp (disch := (first | assumption | omega | exact hB _ _ | exact hYB _ _ | (simp only [yc, yd, sh, sv, ne_eq]; omega) | (simp (disch := omega) only [↓nm_1, ↓nm_2, nI_add, pk_mul, pk_sub, Nat.add_sub_cancel, qm1_add, qm2_add, nI_clamp, ni_0, ni_1, e1]; refine qin_nI ?_ ?_ <;> first | omega | exact hB _ _ | exact hYB _ _) | (refine qin_nI ?_ ?_ <;> omega) | fail)) only [↓yc0_gd hb, ↓yc0_gI hb, ↓yc0_gM hb, ↓yc0_pI hb, ↓yc0_pM hb, ↓yc0_pZ hb, ↓yc0_gF0 hb, ↓yc0_gF1 hb, ↓yc0_gF2 hb, ↓yc0_gF3 hb, ↓yc0_gF4 hb, ↓yc0_gF5 hb, ↓yc0_gF6 hb, ↓yc0_gF7 hb, ↓yc0_gF8 hb, ↓yc0_gF9 hb, ↓yc0_gF10 hb, ↓yc0_gF11 hb, ↓yc0_gF12 hb, ↓yc0_gF13 hb, ↓yc1_al hb, ↓yc1_as hb, ↓yc1_ln hb, ↓yc2_al hb, ↓yc2_as hb, ↓yc2_ln hb, ↓yc3_al hb, ↓yc3_as hb, ↓yc3_ln hb, ↓yc4_al hb, ↓yc4_as hb, ↓yc4_ln hb, ↓yc5_al hb, ↓yc5_as hb, ↓yc5_ln hb, ↓yc6_al hb, ↓yc6_as hb, ↓yc6_ln hb, ↓yc7_al hb, ↓yc7_as hb, ↓yc7_ln hb, ↓yc8_al hb, ↓yc8_as hb, ↓yc8_ln hb, ↓yc9_al hb, ↓yc9_as hb, ↓yc9_ln hb, ↓yc10_al hb, ↓yc10_as hb, ↓yc10_ln hb, ↓yc11_al hb, ↓yc11_as hb, ↓yc11_ln hb, ↓yc12_al hb, ↓yc12_as hb, ↓yc12_ln hb, ↓yc13_al hb, ↓yc13_as hb, ↓yc13_ln hb, ↓yc14_gd hb, ↓yc14_gI hb, ↓yc14_gM hb, ↓yc14_pI hb, ↓yc14_pM hb, ↓yc14_pZ hb, ↓yc14_gF0 hb, ↓yc14_gF1 hb, ↓yc15_al hb, ↓yc15_as hb, ↓yc15_ln hb, ↓yc16_al hb, ↓yc16_as hb, ↓yc16_ln hb, ↓qb_so, ↓nm_1, ↓nm_2, ↓reduceIte, if_true, if_false, not_true_eq_false, not_false_eq_true, and_true, true_and, and_false, false_and, or_true, true_or, or_false, false_or, eq_self, ne_eq, quI_s, quI_n, quI2, quL1, quL2, quL3, quR1, quR2, quR3, nI_add, pk_mul, pk_sub, Nat.add_sub_cancel, qm1_add, qm2_add, nI_leI, nI_ltI, nI_eq, nI_m1, nI_m1', nI_clamp, nI_bit, nI_one_shl, nI_m1l, nI_m1lt, nI_m1lt', nI_m1le', oI_some, oI_none, ni_0, ni_1, fX9_measurePathsTo_L35b, qle_t, qle_f, qlt_t, qlt_f, qeq_t, qeq_f, e1]
  | k + 1, sd, q, E, S, hk, hq, hE, hy, hp => by
    obtain ⟨q, rfl⟩ : ∃ q', q = q' + 1 := ⟨q - 1, by omega⟩
    have h6 : Y 2 0 ≤ 6 := hY.1.1
    have e1 := c_count (s := 0) hb hy (by decide)
    obtain ⟨Z1, e2, p2, f2, b2⟩ := c_rA (n := n) (sd := sd) hb hY (by omega) a2 (Y 2 0) 0 n E S (by omega) (by omega) hE hy hp
    obtain ⟨Z, e3, p3, f3, b3⟩ := c_rB hb hY hn a2 k (sd + 1) q _ Z1 (by omega) (by omega) b2 (cY_13 f2 hy) p2
    refine ⟨Z, ?_, p3, qFr_trans f2 f3, b3⟩
    show fX9_measurePathsTo_L35b _ _ _ _ _ _ = _
    simp (disch := (first | assumption | omega | exact hB _ _ | exact hYB _ _ | (simp only [yc, yd, sh, sv, ne_eq]; omega) | (simp (disch := omega) only [↓nm_1, ↓nm_2, nI_add, pk_mul, pk_sub, Nat.add_sub_cancel, qm1_add, qm2_add, nI_clamp, ni_0, ni_1, e1, e2, e3]; refine qin_nI ?_ ?_ <;> first | omega | exact hB _ _ | exact hYB _ _) | (refine qin_nI ?_ ?_ <;> omega) | fail)) only [↓yc0_gd hb, ↓yc0_gI hb, ↓yc0_gM hb, ↓yc0_pI hb, ↓yc0_pM hb, ↓yc0_pZ hb, ↓yc0_gF0 hb, ↓yc0_gF1 hb, ↓yc0_gF2 hb, ↓yc0_gF3 hb, ↓yc0_gF4 hb, ↓yc0_gF5 hb, ↓yc0_gF6 hb, ↓yc0_gF7 hb, ↓yc0_gF8 hb, ↓yc0_gF9 hb, ↓yc0_gF10 hb, ↓yc0_gF11 hb, ↓yc0_gF12 hb, ↓yc0_gF13 hb, ↓yc1_al hb, ↓yc1_as hb, ↓yc1_ln hb, ↓yc2_al hb, ↓yc2_as hb, ↓yc2_ln hb, ↓yc3_al hb, ↓yc3_as hb, ↓yc3_ln hb, ↓yc4_al hb, ↓yc4_as hb, ↓yc4_ln hb, ↓yc5_al hb, ↓yc5_as hb, ↓yc5_ln hb, ↓yc6_al hb, ↓yc6_as hb, ↓yc6_ln hb, ↓yc7_al hb, ↓yc7_as hb, ↓yc7_ln hb, ↓yc8_al hb, ↓yc8_as hb, ↓yc8_ln hb, ↓yc9_al hb, ↓yc9_as hb, ↓yc9_ln hb, ↓yc10_al hb, ↓yc10_as hb, ↓yc10_ln hb, ↓yc11_al hb, ↓yc11_as hb, ↓yc11_ln hb, ↓yc12_al hb, ↓yc12_as hb, ↓yc12_ln hb, ↓yc13_al hb, ↓yc13_as hb, ↓yc13_ln hb, ↓yc14_gd hb, ↓yc14_gI hb, ↓yc14_gM hb, ↓yc14_pI hb, ↓yc14_pM hb, ↓yc14_pZ hb, ↓yc14_gF0 hb, ↓yc14_gF1 hb, ↓yc15_al hb, ↓yc15_as hb, ↓yc15_ln hb, ↓yc16_al hb, ↓yc16_as hb, ↓yc16_ln hb, ↓qb_so, ↓nm_1, ↓nm_2, ↓reduceIte, if_true, if_false, not_true_eq_false, not_false_eq_true, and_true, true_and, and_false, false_and, or_true, true_or, or_false, false_or, eq_self, ne_eq, quI_s, quI_n, quI2, quL1, quL2, quL3, quR1, quR2, quR3, nI_add, pk_mul, pk_sub, Nat.add_sub_cancel, qm1_add, qm2_add, nI_leI, nI_ltI, nI_eq, nI_m1, nI_m1', nI_clamp, nI_bit, nI_one_shl, nI_m1l, nI_m1lt, nI_m1lt', nI_m1le', oI_some, oI_none, ni_0, ni_1, fX9_measurePathsTo_L35b, qle_t, qle_f, qlt_t, qlt_f, qeq_t, qeq_f, e1, e2, e3]
theorem c_rN (hb : b < 2) (hY : yrOk Y) (hn : 2000 ≤ n) : ∀ (k i q : Nat) (E : Nat → Nat) (S : xSt), i + k = 6 → k < q → (∀ k, E k ≤ 1000000) → cY S b Y mc wc → pE S b E →
    ∃ Z, fX9_measurePathsTo_L27 n (yc b 0) q (nI i) S = some Z ∧ pE Z b (s_rN (Y 12) (Y 2 0) k E) ∧ qFr (fun k => k = yc b 13) S Z
  | 0, i, q, E, S, hk, hq, hE, hy, hp => by
    obtain ⟨q, rfl⟩ : ∃ q', q = q' + 1 := ⟨q - 1, by omega⟩
    refine ⟨S, ?_, hp, qFr_refl⟩
    show fX9_measurePathsTo_L27b _ _ _ _ _ = _
    simp (disch := (first | assumption | omega | exact hB _ _ | exact hYB _ _ | (simp only [yc, yd, sh, sv, ne_eq]; omega) | (simp (disch := omega) only [↓nm_1, ↓nm_2, nI_add, pk_mul, pk_sub, Nat.add_sub_cancel, qm1_add, qm2_add, nI_clamp, ni_0, ni_1, ni_6]; refine qin_nI ?_ ?_ <;> first | omega | exact hB _ _ | exact hYB _ _) | (refine qin_nI ?_ ?_ <;> omega) | fail)) only [↓yc0_gd hb, ↓yc0_gI hb, ↓yc0_gM hb, ↓yc0_pI hb, ↓yc0_pM hb, ↓yc0_pZ hb, ↓yc0_gF0 hb, ↓yc0_gF1 hb, ↓yc0_gF2 hb, ↓yc0_gF3 hb, ↓yc0_gF4 hb, ↓yc0_gF5 hb, ↓yc0_gF6 hb, ↓yc0_gF7 hb, ↓yc0_gF8 hb, ↓yc0_gF9 hb, ↓yc0_gF10 hb, ↓yc0_gF11 hb, ↓yc0_gF12 hb, ↓yc0_gF13 hb, ↓yc1_al hb, ↓yc1_as hb, ↓yc1_ln hb, ↓yc2_al hb, ↓yc2_as hb, ↓yc2_ln hb, ↓yc3_al hb, ↓yc3_as hb, ↓yc3_ln hb, ↓yc4_al hb, ↓yc4_as hb, ↓yc4_ln hb, ↓yc5_al hb, ↓yc5_as hb, ↓yc5_ln hb, ↓yc6_al hb, ↓yc6_as hb, ↓yc6_ln hb, ↓yc7_al hb, ↓yc7_as hb, ↓yc7_ln hb, ↓yc8_al hb, ↓yc8_as hb, ↓yc8_ln hb, ↓yc9_al hb, ↓yc9_as hb, ↓yc9_ln hb, ↓yc10_al hb, ↓yc10_as hb, ↓yc10_ln hb, ↓yc11_al hb, ↓yc11_as hb, ↓yc11_ln hb, ↓yc12_al hb, ↓yc12_as hb, ↓yc12_ln hb, ↓yc13_al hb, ↓yc13_as hb, ↓yc13_ln hb, ↓yc14_gd hb, ↓yc14_gI hb, ↓yc14_gM hb, ↓yc14_pI hb, ↓yc14_pM hb, ↓yc14_pZ hb, ↓yc14_gF0 hb, ↓yc14_gF1 hb, ↓yc15_al hb, ↓yc15_as hb, ↓yc15_ln hb, ↓yc16_al hb, ↓yc16_as hb, ↓yc16_ln hb, ↓qb_so, ↓nm_1, ↓nm_2, ↓reduceIte, if_true, if_false, not_true_eq_false, not_false_eq_true, and_true, true_and, and_false, false_and, or_true, true_or, or_false, false_or, eq_self, ne_eq, quI_s, quI_n, quI2, quL1, quL2, quL3, quR1, quR2, quR3, nI_add, pk_mul, pk_sub, Nat.add_sub_cancel, qm1_add, qm2_add, nI_leI, nI_ltI, nI_eq, nI_m1, nI_m1', nI_clamp, nI_bit, nI_one_shl, nI_m1l, nI_m1lt, nI_m1lt', nI_m1le', oI_some, oI_none, ni_0, ni_1, ni_6, fX9_measurePathsTo_L27b, qle_t, qle_f, qlt_t, qlt_f, qeq_t, qeq_f]
  | k + 1, i, q, E, S, hk, hq, hE, hy, hp => by
    obtain ⟨q, rfl⟩ : ∃ q', q = q' + 1 := ⟨q - 1, by omega⟩
    have h6 : Y 2 0 ≤ 6 := hY.1.1
    obtain ⟨Z1, e2, p2, f2, b2⟩ := c_rB (n := n) hb hY hn (nI i) (Y 2 0) 0 n E S (by omega) (by omega) hE hy hp
    obtain ⟨Z, e3, p3, f3⟩ := c_rN hb hY hn k (i + 1) q _ Z1 (by omega) (by omega) b2 (cY_13 f2 hy) p2
    refine ⟨Z, ?_, p3, qFr_trans f2 f3⟩
    show fX9_measurePathsTo_L27b _ _ _ _ _ = _
    simp (disch := (first | assumption | omega | exact hB _ _ | exact hYB _ _ | (simp only [yc, yd, sh, sv, ne_eq]; omega) | (simp (disch := omega) only [↓nm_1, ↓nm_2, nI_add, pk_mul, pk_sub, Nat.add_sub_cancel, qm1_add, qm2_add, nI_clamp, ni_0, ni_1, ni_6, e2, e3]; refine qin_nI ?_ ?_ <;> first | omega | exact hB _ _ | exact hYB _ _) | (refine qin_nI ?_ ?_ <;> omega) | fail)) only [↓yc0_gd hb, ↓yc0_gI hb, ↓yc0_gM hb, ↓yc0_pI hb, ↓yc0_pM hb, ↓yc0_pZ hb, ↓yc0_gF0 hb, ↓yc0_gF1 hb, ↓yc0_gF2 hb, ↓yc0_gF3 hb, ↓yc0_gF4 hb, ↓yc0_gF5 hb, ↓yc0_gF6 hb, ↓yc0_gF7 hb, ↓yc0_gF8 hb, ↓yc0_gF9 hb, ↓yc0_gF10 hb, ↓yc0_gF11 hb, ↓yc0_gF12 hb, ↓yc0_gF13 hb, ↓yc1_al hb, ↓yc1_as hb, ↓yc1_ln hb, ↓yc2_al hb, ↓yc2_as hb, ↓yc2_ln hb, ↓yc3_al hb, ↓yc3_as hb, ↓yc3_ln hb, ↓yc4_al hb, ↓yc4_as hb, ↓yc4_ln hb, ↓yc5_al hb, ↓yc5_as hb, ↓yc5_ln hb, ↓yc6_al hb, ↓yc6_as hb, ↓yc6_ln hb, ↓yc7_al hb, ↓yc7_as hb, ↓yc7_ln hb, ↓yc8_al hb, ↓yc8_as hb, ↓yc8_ln hb, ↓yc9_al hb, ↓yc9_as hb, ↓yc9_ln hb, ↓yc10_al hb, ↓yc10_as hb, ↓yc10_ln hb, ↓yc11_al hb, ↓yc11_as hb, ↓yc11_ln hb, ↓yc12_al hb, ↓yc12_as hb, ↓yc12_ln hb, ↓yc13_al hb, ↓yc13_as hb, ↓yc13_ln hb, ↓yc14_gd hb, ↓yc14_gI hb, ↓yc14_gM hb, ↓yc14_pI hb, ↓yc14_pM hb, ↓yc14_pZ hb, ↓yc14_gF0 hb, ↓yc14_gF1 hb, ↓yc15_al hb, ↓yc15_as hb, ↓yc15_ln hb, ↓yc16_al hb, ↓yc16_as hb, ↓yc16_ln hb, ↓qb_so, ↓nm_1, ↓nm_2, ↓reduceIte, if_true, if_false, not_true_eq_false, not_false_eq_true, and_true, true_and, and_false, false_and, or_true, true_or, or_false, false_or, eq_self, ne_eq, quI_s, quI_n, quI2, quL1, quL2, quL3, quR1, quR2, quR3, nI_add, pk_mul, pk_sub, Nat.add_sub_cancel, qm1_add, qm2_add, nI_leI, nI_ltI, nI_eq, nI_m1, nI_m1', nI_clamp, nI_bit, nI_one_shl, nI_m1l, nI_m1lt, nI_m1lt', nI_m1le', oI_some, oI_none, ni_0, ni_1, ni_6, fX9_measurePathsTo_L27b, qle_t, qle_f, qlt_t, qlt_f, qeq_t, qeq_f, e2, e3]
theorem c_measure (hb : b < 2) (hY : yrOk Y) (hn : 2000 ≤ n) (hy : cY S b Y mc wc) {l : Nat} (hl : l < Y 2 0) : ∃ Z, fX9_measurePathsTo n (yc b 0) (nI l) S = some Z ∧ pE Z b (s_E (Y 12) (Y 2 0) l) ∧ qFr (fun k => k = yc b 13) S Z := by
  have h6 : Y 2 0 ≤ 6 := hY.1.1
  have hYB := yrOk_B hY
  obtain ⟨Z1, e1, f1, z1⟩ := c_fill (n := n) (S := S) (v := nI 1000000) (yc13_k hb) (yc13_l hb) (by decide) hn
  have y1 := cY_13 f1 hy
  have e2 := c_holds_t (s := 0) hb y1 hYB (by decide) hl
  have f2 : qFr (fun k => k = yc b 13) Z1 (xuI Z1 (yc b 13) l (nI 0)) := qFr_upd rfl
  obtain ⟨Z, e3, p3, f3⟩ := c_rN (n := n) hb hY hn 6 0 n (s_E0 l) (xuI Z1 (yc b 13) l (nI 0)) (by omega) (by omega) (fun k => by unfold s_E0; split <;> omega) (cY_13 f2 y1) (fun k hk => by
    rw [quI_s, z1 k, if_pos hk]
    unfold s_E0
    split <;> rfl)
  refine ⟨Z, ?_, p3, qFr_trans f1 (qFr_trans f2 f3)⟩
  simp (disch := (first | assumption | omega | exact hB _ _ | exact hYB _ _ | (simp only [yc, yd, sh, sv, ne_eq]; omega) | (simp (disch := omega) only [↓nm_1, ↓nm_2, nI_add, pk_mul, pk_sub, Nat.add_sub_cancel, qm1_add, qm2_add, nI_clamp, ni_0, ni_1, ni_1000000, e1, e2, e3]; refine qin_nI ?_ ?_ <;> first | omega | exact hB _ _ | exact hYB _ _) | (refine qin_nI ?_ ?_ <;> omega) | fail)) only [↓yc0_gd hb, ↓yc0_gI hb, ↓yc0_gM hb, ↓yc0_pI hb, ↓yc0_pM hb, ↓yc0_pZ hb, ↓yc0_gF0 hb, ↓yc0_gF1 hb, ↓yc0_gF2 hb, ↓yc0_gF3 hb, ↓yc0_gF4 hb, ↓yc0_gF5 hb, ↓yc0_gF6 hb, ↓yc0_gF7 hb, ↓yc0_gF8 hb, ↓yc0_gF9 hb, ↓yc0_gF10 hb, ↓yc0_gF11 hb, ↓yc0_gF12 hb, ↓yc0_gF13 hb, ↓yc1_al hb, ↓yc1_as hb, ↓yc1_ln hb, ↓yc2_al hb, ↓yc2_as hb, ↓yc2_ln hb, ↓yc3_al hb, ↓yc3_as hb, ↓yc3_ln hb, ↓yc4_al hb, ↓yc4_as hb, ↓yc4_ln hb, ↓yc5_al hb, ↓yc5_as hb, ↓yc5_ln hb, ↓yc6_al hb, ↓yc6_as hb, ↓yc6_ln hb, ↓yc7_al hb, ↓yc7_as hb, ↓yc7_ln hb, ↓yc8_al hb, ↓yc8_as hb, ↓yc8_ln hb, ↓yc9_al hb, ↓yc9_as hb, ↓yc9_ln hb, ↓yc10_al hb, ↓yc10_as hb, ↓yc10_ln hb, ↓yc11_al hb, ↓yc11_as hb, ↓yc11_ln hb, ↓yc12_al hb, ↓yc12_as hb, ↓yc12_ln hb, ↓yc13_al hb, ↓yc13_as hb, ↓yc13_ln hb, ↓yc14_gd hb, ↓yc14_gI hb, ↓yc14_gM hb, ↓yc14_pI hb, ↓yc14_pM hb, ↓yc14_pZ hb, ↓yc14_gF0 hb, ↓yc14_gF1 hb, ↓yc15_al hb, ↓yc15_as hb, ↓yc15_ln hb, ↓yc16_al hb, ↓yc16_as hb, ↓yc16_ln hb, ↓qb_so, ↓nm_1, ↓nm_2, ↓reduceIte, if_true, if_false, not_true_eq_false, not_false_eq_true, and_true, true_and, and_false, false_and, or_true, true_or, or_false, false_or, eq_self, ne_eq, quI_s, quI_n, quI2, quL1, quL2, quL3, quR1, quR2, quR3, nI_add, pk_mul, pk_sub, Nat.add_sub_cancel, qm1_add, qm2_add, nI_leI, nI_ltI, nI_eq, nI_m1, nI_m1', nI_clamp, nI_bit, nI_one_shl, nI_m1l, nI_m1lt, nI_m1lt', nI_m1le', oI_some, oI_none, ni_0, ni_1, ni_1000000, fX9_measurePathsTo, fX9_measurePathsTo_B25, qle_t, qle_f, qlt_t, qlt_f, qeq_t, qeq_f, e1, e2, e3]
/-! the reference -/
def eQ (k j : Nat) : Prop := k = 48 ∨ k = 49
theorem m_serves (hb : b < 2) (hm : mY S b Y mc wc) {c : Nat} (h6 : Y 2 0 ≤ 6) (ha : a < Y 2 0) (hc : c < Y 2 0) : fX12_serves 0 (nI a) (nI c) S = some (nI (Y 12 (6 * a + c))) := by
  have mb := hm.1
  have h9 := hm.2.2.2.2.2.2.1 a c ha hc
  simp (disch := (first | assumption | omega | exact hB _ _ | exact hYB _ _ | (simp only [yc, yd, sh, sv, ne_eq]; omega) | (simp (disch := omega) only [↓nm_1, ↓nm_2, nI_add, pk_mul, pk_sub, Nat.add_sub_cancel, qm1_add, qm2_add, nI_clamp, ni_0, ni_1, ni_6, mb, h9]; refine qin_nI ?_ ?_ <;> first | omega | exact hB _ _ | exact hYB _ _) | (refine qin_nI ?_ ?_ <;> omega) | fail)) only [↓km0_gd, ↓km0_gI, ↓km0_gM, ↓km0_pI, ↓km0_pM, ↓km0_pZ, ↓km0_gL, ↓km0_pL, ↓km0_gF27, ↓km15_al, ↓km15_as, ↓km15_ln, ↓qb_so, ↓nm_1, ↓nm_2, ↓reduceIte, if_true, if_false, not_true_eq_false, not_false_eq_true, and_true, true_and, and_false, false_and, or_true, true_or, or_false, false_or, eq_self, ne_eq, quI_s, quI_n, quI2, quL1, quL2, quL3, quR1, quR2, quR3, nI_add, pk_mul, pk_sub, Nat.add_sub_cancel, qm1_add, qm2_add, nI_leI, nI_ltI, nI_eq, nI_m1, nI_m1', nI_clamp, nI_bit, nI_one_shl, nI_m1l, nI_m1lt, nI_m1lt', nI_m1le', oI_some, oI_none, ni_0, ni_1, ni_6, fX12_serves, qle_t, qle_f, qlt_t, qlt_f, qeq_t, qeq_f, mb, h9]
theorem m_rA (hb : b < 2) (hY : yrOk Y) {sd l : Nat} (hs : sd < Y 2 0) (hl : l < Y 2 0) (a2 : Int32) : ∀ (k a q : Nat) (E : Nat → Nat) (S : xSt), a + k = Y 2 0 → k < q → wB (Y 12) (Y 2 0) l E → mY S b Y mc wc → mE S E →
    ∃ Z, fX12_findsMakeshifts_L65 n 0 a2 (nI sd) q (nI a) S = some Z ∧ mE Z (s_rA (Y 12) sd k a E) ∧ mFq eQ S Z ∧ wB (Y 12) (Y 2 0) l (s_rA (Y 12) sd k a E)
  | 0, a, q, E, S, hk, hq, hE, hm, hp => by
    obtain ⟨q, rfl⟩ : ∃ q', q = q' + 1 := ⟨q - 1, by omega⟩
    have h6 : Y 2 0 ≤ 6 := hY.1.1
    have mb := hm.1
    have m1 := hm.2.1.1
    refine ⟨S, ?_, hp, mFq_refl, hE⟩
    show fX12_findsMakeshifts_L65b _ _ _ _ _ _ _ = _
    simp (disch := (first | assumption | omega | exact hB _ _ | exact hYB _ _ | (simp only [yc, yd, sh, sv, ne_eq]; omega) | (simp (disch := omega) only [↓nm_1, ↓nm_2, nI_add, pk_mul, pk_sub, Nat.add_sub_cancel, qm1_add, qm2_add, nI_clamp, ni_0, ni_1, ni_100000000, mb, m1]; refine qin_nI ?_ ?_ <;> first | omega | exact hB _ _ | exact hYB _ _) | (refine qin_nI ?_ ?_ <;> omega) | fail)) only [↓km0_gd, ↓km0_gI, ↓km0_gM, ↓km0_pI, ↓km0_pM, ↓km0_pZ, ↓km0_gL, ↓km0_pL, ↓km0_gF14, ↓km0_gF77, ↓km0_gF78, ↓km2_al, ↓km2_as, ↓km2_ln, ↓km48_al, ↓km48_as, ↓km48_ln, ↓km49_al, ↓km49_as, ↓km49_ln, ↓qb_so, ↓nm_1, ↓nm_2, ↓reduceIte, if_true, if_false, not_true_eq_false, not_false_eq_true, and_true, true_and, and_false, false_and, or_true, true_or, or_false, false_or, eq_self, ne_eq, quI_s, quI_n, quI2, quL1, quL2, quL3, quR1, quR2, quR3, nI_add, pk_mul, pk_sub, Nat.add_sub_cancel, qm1_add, qm2_add, nI_leI, nI_ltI, nI_eq, nI_m1, nI_m1', nI_clamp, nI_bit, nI_one_shl, nI_m1l, nI_m1lt, nI_m1lt', nI_m1le', oI_some, oI_none, ni_0, ni_1, ni_100000000, fX12_findsMakeshifts_L65b, qle_t, qle_f, qlt_t, qlt_f, qeq_t, qeq_f, mb, m1]
  | k + 1, a, q, E, S, hk, hq, hE, hm, hp => by
    obtain ⟨q, rfl⟩ : ∃ q', q = q' + 1 := ⟨q - 1, by omega⟩
    have h6 : Y 2 0 ≤ 6 := hY.1.1
    have ha : a < Y 2 0 := by omega
    have mb := hm.1
    have m1 := hm.2.1.1
    have es := m_serves (a := a) (c := sd) hb hm h6 ha hs
    have hp9 : ∀ i, Y 12 i ≤ 99 := hY.2.2.2.2.2.2.1
    have p9 := hp9 (6 * a + sd)
    obtain ⟨ea1, ea2⟩ := hp a (by omega)
    obtain ⟨eb1, eb2⟩ := hp sd (by omega)
    have hE' := wB_rx h6 hp9 ha hs hl hE
    have hEa := hE.1 a
    have hEb := hE.1 sd
    -- nothing is mended
    have keep : s_rx (Y 12) E sd a = E → (∀ V, fX12_findsMakeshifts_L65 n 0 a2 (nI sd) q (nI (a + 1)) S = V → fX12_findsMakeshifts_L65 n 0 a2 (nI sd) (q + 1) (nI a) S = V) → ∃ Z, fX12_findsMakeshifts_L65 n 0 a2 (nI sd) (q + 1) (nI a) S = some Z ∧ mE Z (s_rA (Y 12) sd (k + 1) a E) ∧ mFq eQ S Z ∧ wB (Y 12) (Y 2 0) l (s_rA (Y 12) sd (k + 1) a E) := by
      intro e1 e2
      obtain ⟨Z, e3, p3, f3, b3⟩ := m_rA hb hY hs hl a2 k (a + 1) q E S (by omega) (by omega) hE hm hp
      have er : s_rA (Y 12) sd (k + 1) a E = s_rA (Y 12) sd k (a + 1) E := by
        show s_rA (Y 12) sd k (a + 1) (s_rx (Y 12) E sd a) = _
        rw [e1]
      rw [er]
      exact ⟨Z, e2 _ e3, p3, f3, b3⟩
    have same : ¬ s_cd (Y 12) E sd a < E sd → s_rx (Y 12) E sd a = E := by
      intro hc
      funext x
      unfold s_rx
      by_cases e : x = sd
      · subst e; rw [if_pos rfl, if_neg hc]
      · rw [if_neg e]
    by_cases h0 : Y 12 (6 * a + sd) = 0
    · refine keep (same (by unfold s_cd; rw [if_pos h0]; omega)) (fun V hV => ?_)
      rw [← hV]
      show fX12_findsMakeshifts_L65b _ _ _ _ _ _ _ = _
      simp (disch := (first | assumption | omega | exact hB _ _ | exact hYB _ _ | (simp only [yc, yd, sh, sv, ne_eq]; omega) | (simp (disch := omega) only [↓nm_1, ↓nm_2, nI_add, pk_mul, pk_sub, Nat.add_sub_cancel, qm1_add, qm2_add, nI_clamp, ni_0, ni_1, ni_100000000, mb, m1, es, h0]; refine qin_nI ?_ ?_ <;> first | omega | exact hB _ _ | exact hYB _ _) | (refine qin_nI ?_ ?_ <;> omega) | fail)) only [↓km0_gd, ↓km0_gI, ↓km0_gM, ↓km0_pI, ↓km0_pM, ↓km0_pZ, ↓km0_gL, ↓km0_pL, ↓km0_gF14, ↓km0_gF77, ↓km0_gF78, ↓km2_al, ↓km2_as, ↓km2_ln, ↓km48_al, ↓km48_as, ↓km48_ln, ↓km49_al, ↓km49_as, ↓km49_ln, ↓qb_so, ↓nm_1, ↓nm_2, ↓reduceIte, if_true, if_false, not_true_eq_false, not_false_eq_true, and_true, true_and, and_false, false_and, or_true, true_or, or_false, false_or, eq_self, ne_eq, quI_s, quI_n, quI2, quL1, quL2, quL3, quR1, quR2, quR3, nI_add, pk_mul, pk_sub, Nat.add_sub_cancel, qm1_add, qm2_add, nI_leI, nI_ltI, nI_eq, nI_m1, nI_m1', nI_clamp, nI_bit, nI_one_shl, nI_m1l, nI_m1lt, nI_m1lt', nI_m1le', oI_some, oI_none, ni_0, ni_1, ni_100000000, fX12_findsMakeshifts_L65b, qle_t, qle_f, qlt_t, qlt_f, qeq_t, qeq_f, mb, m1, es, h0]
    · have hcd : s_cd (Y 12) E sd a = 8 * Y 12 (6 * a + sd) + 1 + E a := by unfold s_cd; rw [if_neg h0]
      by_cases hu : E a = 1000000
      · refine keep (same (by omega)) (fun V hV => ?_)
        have cfa : cFx (E a) = 100000000 := by unfold cFx; rw [if_pos hu]
        rw [← hV]
        show fX12_findsMakeshifts_L65b _ _ _ _ _ _ _ = _
        simp (disch := (first | assumption | omega | exact hB _ _ | exact hYB _ _ | (simp only [yc, yd, sh, sv, ne_eq]; omega) | (simp (disch := omega) only [↓nm_1, ↓nm_2, nI_add, pk_mul, pk_sub, Nat.add_sub_cancel, qm1_add, qm2_add, nI_clamp, ni_0, ni_1, ni_100000000, mb, m1, es, h0, ea1, cfa]; refine qin_nI ?_ ?_ <;> first | omega | exact hB _ _ | exact hYB _ _) | (refine qin_nI ?_ ?_ <;> omega) | fail)) only [↓km0_gd, ↓km0_gI, ↓km0_gM, ↓km0_pI, ↓km0_pM, ↓km0_pZ, ↓km0_gL, ↓km0_pL, ↓km0_gF14, ↓km0_gF77, ↓km0_gF78, ↓km2_al, ↓km2_as, ↓km2_ln, ↓km48_al, ↓km48_as, ↓km48_ln, ↓km49_al, ↓km49_as, ↓km49_ln, ↓qb_so, ↓nm_1, ↓nm_2, ↓reduceIte, if_true, if_false, not_true_eq_false, not_false_eq_true, and_true, true_and, and_false, false_and, or_true, true_or, or_false, false_or, eq_self, ne_eq, quI_s, quI_n, quI2, quL1, quL2, quL3, quR1, quR2, quR3, nI_add, pk_mul, pk_sub, Nat.add_sub_cancel, qm1_add, qm2_add, nI_leI, nI_ltI, nI_eq, nI_m1, nI_m1', nI_clamp, nI_bit, nI_one_shl, nI_m1l, nI_m1lt, nI_m1lt', nI_m1le', oI_some, oI_none, ni_0, ni_1, ni_100000000, fX12_findsMakeshifts_L65b, qle_t, qle_f, qlt_t, qlt_f, qeq_t, qeq_f, mb, m1, es, h0, ea1, cfa]
      · have cfa : cFx (E a) = E a / 8 := by unfold cFx; rw [if_neg hu]
        obtain ⟨ma, mb5⟩ := wB_m h6 hE ha (by omega)
        have hfar : (E a / 8 = 100000000) = False := eq_false (by omega)
        have cfb : cFx (E sd) ≤ 100000000 := by unfold cFx; split <;> omega
        have better : s_cd (Y 12) E sd a < E sd ↔ (E a / 8 + Y 12 (6 * a + sd) < cFx (E sd) ∨ (E a / 8 + Y 12 (6 * a + sd) = cFx (E sd) ∧ E a % 8 + 1 < E sd % 8)) := by
          rw [hcd]
          unfold cFx
          by_cases hub : E sd = 1000000
          · rw [if_pos hub]; omega
          · rw [if_neg hub]
            have := wB_m h6 hE hs (by omega)
            omega
        by_cases hc : s_cd (Y 12) E sd a < E sd
        · have er : s_rA (Y 12) sd (k + 1) a E = s_rA (Y 12) sd k (a + 1) (s_rx (Y 12) E sd a) := rfl
          have hab : a ≠ sd := by intro e; subst e; omega
          have f1 : mFq eQ S (xuI (xuI S 48 sd (nI (E a / 8 + Y 12 (6 * a + sd)))) 49 sd (nI (E a % 8 + 1))) := mFq_trans (mFq_upd (by unfold eQ; omega)) (mFq_upd (by unfold eQ; omega))
          have hp' : mE (xuI (xuI S 48 sd (nI (E a / 8 + Y 12 (6 * a + sd)))) 49 sd (nI (E a % 8 + 1))) (s_rx (Y 12) E sd a) := by
            intro x hx
            by_cases e : x = sd
            · subst e
              have ev : s_rx (Y 12) E x a x = 8 * Y 12 (6 * a + x) + 1 + E a := by unfold s_rx; rw [if_pos rfl, if_pos hc, hcd]
              have ec : cFx (8 * Y 12 (6 * a + x) + 1 + E a) = E a / 8 + Y 12 (6 * a + x) := by unfold cFx; rw [if_neg (by omega)]; omega
              rw [ev, ec]
              refine ⟨by rw [quI_n (by decide), quI_e], by rw [quI_e]; congr 1; omega⟩
            · rw [s_rx_n e]
              exact ⟨by rw [quI_n (by decide), quI_k (by omega)]; exact (hp x hx).1, by rw [quI_k (by omega), quI_n (by decide)]; exact (hp x hx).2⟩
          obtain ⟨Z, e3, p3, f3, b3⟩ := m_rA hb hY hs hl a2 k (a + 1) q _ _ (by omega) (by omega) hE' (mY_fr f1 (fun k j a1 a2 => by unfold eQ; omega) (by unfold eQ; omega) hm) hp'
          rw [er]
          refine ⟨Z, ?_, p3, mFq_trans f1 f3, b3⟩
          have eq1 : fX12_isBetter 0 (nI (E a / 8 + Y 12 (6 * a + sd))) (nI (E a % 8 + 1)) (nI sd) S = some (nI 1) := by
            rcases better.mp hc with hx | ⟨hx1, hx2⟩
            · simp (disch := (first | assumption | omega | exact hB _ _ | exact hYB _ _ | (simp only [yc, yd, sh, sv, ne_eq]; omega) | (simp (disch := omega) only [↓nm_1, ↓nm_2, nI_add, pk_mul, pk_sub, Nat.add_sub_cancel, qm1_add, qm2_add, nI_clamp, ni_0, ni_1, eb1, hx]; refine qin_nI ?_ ?_ <;> first | omega | exact hB _ _ | exact hYB _ _) | (refine qin_nI ?_ ?_ <;> omega) | fail)) only [↓km0_gd, ↓km0_gI, ↓km0_gM, ↓km0_pI, ↓km0_pM, ↓km0_pZ, ↓km0_gL, ↓km0_pL, ↓km0_gF77, ↓km0_gF78, ↓km48_al, ↓km48_as, ↓km48_ln, ↓km49_al, ↓km49_as, ↓km49_ln, ↓qb_so, ↓nm_1, ↓nm_2, ↓reduceIte, if_true, if_false, not_true_eq_false, not_false_eq_true, and_true, true_and, and_false, false_and, or_true, true_or, or_false, false_or, eq_self, ne_eq, quI_s, quI_n, quI2, quL1, quL2, quL3, quR1, quR2, quR3, nI_add, pk_mul, pk_sub, Nat.add_sub_cancel, qm1_add, qm2_add, nI_leI, nI_ltI, nI_eq, nI_m1, nI_m1', nI_clamp, nI_bit, nI_one_shl, nI_m1l, nI_m1lt, nI_m1lt', nI_m1le', oI_some, oI_none, ni_0, ni_1, fX12_isBetter, qle_t, qle_f, qlt_t, qlt_f, qeq_t, qeq_f, eb1, hx]
            · have hx3 : ¬ (E a / 8 + Y 12 (6 * a + sd) < cFx (E sd)) := by omega
              simp (disch := (first | assumption | omega | exact hB _ _ | exact hYB _ _ | (simp only [yc, yd, sh, sv, ne_eq]; omega) | (simp (disch := omega) only [↓nm_1, ↓nm_2, nI_add, pk_mul, pk_sub, Nat.add_sub_cancel, qm1_add, qm2_add, nI_clamp, ni_0, ni_1, eb1, eb2, hx3, hx1]; refine qin_nI ?_ ?_ <;> first | omega | exact hB _ _ | exact hYB _ _) | (refine qin_nI ?_ ?_ <;> omega) | fail)) only [↓km0_gd, ↓km0_gI, ↓km0_gM, ↓km0_pI, ↓km0_pM, ↓km0_pZ, ↓km0_gL, ↓km0_pL, ↓km0_gF77, ↓km0_gF78, ↓km48_al, ↓km48_as, ↓km48_ln, ↓km49_al, ↓km49_as, ↓km49_ln, ↓qb_so, ↓nm_1, ↓nm_2, ↓reduceIte, if_true, if_false, not_true_eq_false, not_false_eq_true, and_true, true_and, and_false, false_and, or_true, true_or, or_false, false_or, eq_self, ne_eq, quI_s, quI_n, quI2, quL1, quL2, quL3, quR1, quR2, quR3, nI_add, pk_mul, pk_sub, Nat.add_sub_cancel, qm1_add, qm2_add, nI_leI, nI_ltI, nI_eq, nI_m1, nI_m1', nI_clamp, nI_bit, nI_one_shl, nI_m1l, nI_m1lt, nI_m1lt', nI_m1le', oI_some, oI_none, ni_0, ni_1, fX12_isBetter, qle_t, qle_f, qlt_t, qlt_f, qeq_t, qeq_f, eb1, eb2, hx3, hx1]
          show fX12_findsMakeshifts_L65b _ _ _ _ _ _ _ = _
          simp (disch := (first | assumption | omega | exact hB _ _ | exact hYB _ _ | (simp only [yc, yd, sh, sv, ne_eq]; omega) | (simp (disch := omega) only [↓nm_1, ↓nm_2, nI_add, pk_mul, pk_sub, Nat.add_sub_cancel, qm1_add, qm2_add, nI_clamp, ni_0, ni_1, ni_100000000, mb, m1, es, h0, ea1, ea2, cfa, hfar, eq1, e3]; refine qin_nI ?_ ?_ <;> first | omega | exact hB _ _ | exact hYB _ _) | (refine qin_nI ?_ ?_ <;> omega) | fail)) only [↓km0_gd, ↓km0_gI, ↓km0_gM, ↓km0_pI, ↓km0_pM, ↓km0_pZ, ↓km0_gL, ↓km0_pL, ↓km0_gF14, ↓km0_gF77, ↓km0_gF78, ↓km2_al, ↓km2_as, ↓km2_ln, ↓km48_al, ↓km48_as, ↓km48_ln, ↓km49_al, ↓km49_as, ↓km49_ln, ↓qb_so, ↓nm_1, ↓nm_2, ↓reduceIte, if_true, if_false, not_true_eq_false, not_false_eq_true, and_true, true_and, and_false, false_and, or_true, true_or, or_false, false_or, eq_self, ne_eq, quI_s, quI_n, quI2, quL1, quL2, quL3, quR1, quR2, quR3, nI_add, pk_mul, pk_sub, Nat.add_sub_cancel, qm1_add, qm2_add, nI_leI, nI_ltI, nI_eq, nI_m1, nI_m1', nI_clamp, nI_bit, nI_one_shl, nI_m1l, nI_m1lt, nI_m1lt', nI_m1le', oI_some, oI_none, ni_0, ni_1, ni_100000000, fX12_findsMakeshifts_L65b, qle_t, qle_f, qlt_t, qlt_f, qeq_t, qeq_f, mb, m1, es, h0, ea1, ea2, cfa, hfar, eq1, e3]
        · refine keep (same hc) (fun V hV => ?_)
          have hnb := mt better.mpr hc
          have eq1 : fX12_isBetter 0 (nI (E a / 8 + Y 12 (6 * a + sd))) (nI (E a % 8 + 1)) (nI sd) S = some (nI 0) := by
            have hx3 : ¬ (E a / 8 + Y 12 (6 * a + sd) < cFx (E sd)) := fun hh => hnb (Or.inl hh)
            by_cases hx1 : E a / 8 + Y 12 (6 * a + sd) = cFx (E sd)
            · have hx2 : E sd % 8 ≤ E a % 8 + 1 := by
                apply Nat.le_of_not_lt
                intro hh
                exact hnb (Or.inr ⟨hx1, hh⟩)
              simp (disch := (first | assumption | omega | exact hB _ _ | exact hYB _ _ | (simp only [yc, yd, sh, sv, ne_eq]; omega) | (simp (disch := omega) only [↓nm_1, ↓nm_2, nI_add, pk_mul, pk_sub, Nat.add_sub_cancel, qm1_add, qm2_add, nI_clamp, ni_0, ni_1, eb1, eb2, hx3, hx1, hx2]; refine qin_nI ?_ ?_ <;> first | omega | exact hB _ _ | exact hYB _ _) | (refine qin_nI ?_ ?_ <;> omega) | fail)) only [↓km0_gd, ↓km0_gI, ↓km0_gM, ↓km0_pI, ↓km0_pM, ↓km0_pZ, ↓km0_gL, ↓km0_pL, ↓km0_gF77, ↓km0_gF78, ↓km48_al, ↓km48_as, ↓km48_ln, ↓km49_al, ↓km49_as, ↓km49_ln, ↓qb_so, ↓nm_1, ↓nm_2, ↓reduceIte, if_true, if_false, not_true_eq_false, not_false_eq_true, and_true, true_and, and_false, false_and, or_true, true_or, or_false, false_or, eq_self, ne_eq, quI_s, quI_n, quI2, quL1, quL2, quL3, quR1, quR2, quR3, nI_add, pk_mul, pk_sub, Nat.add_sub_cancel, qm1_add, qm2_add, nI_leI, nI_ltI, nI_eq, nI_m1, nI_m1', nI_clamp, nI_bit, nI_one_shl, nI_m1l, nI_m1lt, nI_m1lt', nI_m1le', oI_some, oI_none, ni_0, ni_1, fX12_isBetter, qle_t, qle_f, qlt_t, qlt_f, qeq_t, qeq_f, eb1, eb2, hx3, hx1, hx2]
            · simp (disch := (first | assumption | omega | exact hB _ _ | exact hYB _ _ | (simp only [yc, yd, sh, sv, ne_eq]; omega) | (simp (disch := omega) only [↓nm_1, ↓nm_2, nI_add, pk_mul, pk_sub, Nat.add_sub_cancel, qm1_add, qm2_add, nI_clamp, ni_0, ni_1, eb1, eb2, hx3, hx1]; refine qin_nI ?_ ?_ <;> first | omega | exact hB _ _ | exact hYB _ _) | (refine qin_nI ?_ ?_ <;> omega) | fail)) only [↓km0_gd, ↓km0_gI, ↓km0_gM, ↓km0_pI, ↓km0_pM, ↓km0_pZ, ↓km0_gL, ↓km0_pL, ↓km0_gF77, ↓km0_gF78, ↓km48_al, ↓km48_as, ↓km48_ln, ↓km49_al, ↓km49_as, ↓km49_ln, ↓qb_so, ↓nm_1, ↓nm_2, ↓reduceIte, if_true, if_false, not_true_eq_false, not_false_eq_true, and_true, true_and, and_false, false_and, or_true, true_or, or_false, false_or, eq_self, ne_eq, quI_s, quI_n, quI2, quL1, quL2, quL3, quR1, quR2, quR3, nI_add, pk_mul, pk_sub, Nat.add_sub_cancel, qm1_add, qm2_add, nI_leI, nI_ltI, nI_eq, nI_m1, nI_m1', nI_clamp, nI_bit, nI_one_shl, nI_m1l, nI_m1lt, nI_m1lt', nI_m1le', oI_some, oI_none, ni_0, ni_1, fX12_isBetter, qle_t, qle_f, qlt_t, qlt_f, qeq_t, qeq_f, eb1, eb2, hx3, hx1]
          rw [← hV]
          show fX12_findsMakeshifts_L65b _ _ _ _ _ _ _ = _
          simp (disch := (first | assumption | omega | exact hB _ _ | exact hYB _ _ | (simp only [yc, yd, sh, sv, ne_eq]; omega) | (simp (disch := omega) only [↓nm_1, ↓nm_2, nI_add, pk_mul, pk_sub, Nat.add_sub_cancel, qm1_add, qm2_add, nI_clamp, ni_0, ni_1, ni_100000000, mb, m1, es, h0, ea1, ea2, cfa, hfar, eq1]; refine qin_nI ?_ ?_ <;> first | omega | exact hB _ _ | exact hYB _ _) | (refine qin_nI ?_ ?_ <;> omega) | fail)) only [↓km0_gd, ↓km0_gI, ↓km0_gM, ↓km0_pI, ↓km0_pM, ↓km0_pZ, ↓km0_gL, ↓km0_pL, ↓km0_gF14, ↓km0_gF77, ↓km0_gF78, ↓km2_al, ↓km2_as, ↓km2_ln, ↓km48_al, ↓km48_as, ↓km48_ln, ↓km49_al, ↓km49_as, ↓km49_ln, ↓qb_so, ↓nm_1, ↓nm_2, ↓reduceIte, if_true, if_false, not_true_eq_false, not_false_eq_true, and_true, true_and, and_false, false_and, or_true, true_or, or_false, false_or, eq_self, ne_eq, quI_s, quI_n, quI2, quL1, quL2, quL3, quR1, quR2, quR3, nI_add, pk_mul, pk_sub, Nat.add_sub_cancel, qm1_add, qm2_add, nI_leI, nI_ltI, nI_eq, nI_m1, nI_m1', nI_clamp, nI_bit, nI_one_shl, nI_m1l, nI_m1lt, nI_m1lt', nI_m1le', oI_some, oI_none, ni_0, ni_1, ni_100000000, fX12_findsMakeshifts_L65b, qle_t, qle_f, qlt_t, qlt_f, qeq_t, qeq_f, mb, m1, es, h0, ea1, ea2, cfa, hfar, eq1]
end Q73

