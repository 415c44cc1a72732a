theorem s_cl_le (x : Int64) : s_cl x ≤ 99 := by
  unfold s_cl
  split
  · omega
  · split
    · exact Nat.le_refl _
    · rename_i h1 h2
      rw [Int64.lt_iff_toInt_lt] at h2
      have : (99 : Int64).toInt = 99 := by decide
      omega
theorem s_cl_32 {x : Int64} (hx : eV false x) : (if nI 0 < (if x.toInt32 < nI 99 then x.toInt32 else nI 99) then (if x.toInt32 < nI 99 then x.toInt32 else nI 99) else nI 0) = nI (s_cl x) := by
  have e := e32 hx
  have a : (99 : Int64).toInt = 99 := by decide
  have a0 : (0 : Int64).toInt = 0 := by decide
  have z9 : (nI 99).toInt = 99 := by decide
  have z0 : (nI 0).toInt = 0 := by decide
  apply Int32.toInt_inj.mp
  unfold s_cl
  rw [nI_toInt (by have := s_cl_le x; unfold s_cl at this; omega)]
  simp only [Int32.lt_iff_toInt_lt, Int64.lt_iff_toInt_lt, a, a0, z9, z0]
  by_cases h1 : x.toInt < 0
  · rw [if_pos h1]
    have h2 : x.toInt32.toInt < 99 := by omega
    simp only [h2, if_true]
    rw [if_neg (by omega)]
    exact z0
  · rw [if_neg h1]
    by_cases h2 : 99 < x.toInt
    · rw [if_pos h2]
      have h3 : ¬ x.toInt32.toInt < 99 := by omega
      simp only [h3, if_false, z9]
      rw [if_pos (by omega)]
      exact z9
    · rw [if_neg h2]
      by_cases h3 : x.toInt32.toInt < 99
      · simp only [h3, if_true]
        split <;> omega
      · simp only [h3, if_false, z9]
        rw [if_pos (by omega), z9]
        omega
theorem c_cl9 {v : Nat} (h : v ≤ 9) : (if (0 : Int32) < (if nI v < (99 : Int32) then nI v else (99 : Int32)) then (if nI v < (99 : Int32) then nI v else (99 : Int32)) else (0 : Int32)) = nI v := by
  rcases (by omega : v = 0 ∨ v = 1 ∨ v = 2 ∨ v = 3 ∨ v = 4 ∨ v = 5 ∨ v = 6 ∨ v = 7 ∨ v = 8 ∨ v = 9) with rfl | rfl | rfl | rfl | rfl | rfl | rfl | rfl | rfl | rfl <;> decide
def cG (S : xSt) (w : Nat) (D : Nat → Nat → Nat) (fr : Nat) : Prop := S.1 (sh w 3) 4 = nI (D 0 0) ∧ S.1 (sh w 3) 6 = nI fr
section Q27
variable {S : xSt} {b w n : Nat} {Y D : Nat → Nat → Nat} {mc wc : List (Nat × Nat)} {R row : Nat → Nat}
theorem dP_e {k : Nat} (h : eP w k) : dP b w k := by
  rcases h with h | h | h
  · exact Or.inl h
  · exact Or.inr (Or.inr (Or.inl h))
  · exact Or.inr (Or.inr (Or.inr (Or.inr h)))
theorem dP_f {k : Nat} (h : fP b w k) : dP b w k := by
  rcases h with h | h
  · exact Or.inr (Or.inl h)
  · exact Or.inr (Or.inr (Or.inr (Or.inl h)))
theorem eP_n3 : ¬ eP w (sh w 3) := by unfold eP; simp only [sh, yd]; omega
theorem c_use (hb : b < 2) (hw : w < 2) (h : cW S b w Y mc wc R row D) (hY : yrOk Y) (hD : dOk Y D) (hK : kOk mc wc) (hn : 2000 ≤ n) {fr j t g : Nat} (hfr : fr ≤ 1) (hh9 : Y 11 (4 * j + D 3 j) ≤ 9) (hF : cF S w Y R D fr j) (hj : j < 6) (ht : t < 8) (hg : g < 6) :
    ∃ Z, fX6_useTool n (sh w 0) (nI j) (nI t) (nI g) S = some Z ∧ cW Z b w Y mc wc R row (s_use Y wc R D fr j t g) ∧ qFr (dP b w) S Z ∧ Z.1 (sh w 3) 4 = nI (D 0 0) ∧ Z.1 (sh w 3) 6 = nI fr := by
  have hYB := yrOk_B hY
  have et := c_tell hb hw h ht hg
  have hW2 : cW (xuI (xuI S (sh w 3) 1 (nI (D 1 t))) (sh w 3) 2 (nI (D 2 (8 * g + t)))) b w Y mc wc R row D := cW_f hb hw (cW_f hb hw h)
  have hF2 : cF (xuI (xuI S (sh w 3) 1 (nI (D 1 t))) (sh w 3) 2 (nI (D 2 (8 * g + t)))) w Y R D fr j := cF_up hF
  have hfr2 : qFr (fP b w) S (xuI (xuI S (sh w 3) 1 (nI (D 1 t))) (sh w 3) 2 (nI (D 2 (8 * g + t)))) := qFr_trans (qFr_upd (Or.inl rfl)) (qFr_upd (Or.inl rfl))
  have hfa := c_facts (t := t) (g := g) hw hF
  generalize hV : xuI (xuI S (sh w 3) 1 (nI (D 1 t))) (sh w 3) 2 (nI (D 2 (8 * g + t))) = V at et hW2 hF2 hfr2 hfa
  have hy14 := hW2.1.2.1
  have hlen := hW2.1.2.2.2.1
  have hle := hW2.1.2.2.2.2.2.1
  have hr := hW2.2.1.1
  have hre : s_rest Y R D (s_kind Y D j) ≤ 1 := by unfold s_rest; split <;> omega
  by_cases hm : wc = []
  · subst hm
    have hl0 : Y 14 6 ≤ Y 14 5 := by simp only [List.length_nil] at hlen; omega
    have f3 := hF2.2.1
    obtain ⟨Z, e, hz, hf⟩ := c_B72 (n := n) (j := j) (t := t) (g := g) (wear := Y 11 (4 * j + D 3 j)) hb hw hW2 hY hD hj ht hg (s0 := nI (Y 11 (4 * j + D 3 j))) (c_cl9 hh9) (by omega) hre hF2.1
    have hw0 : s_use Y [] R D fr j t g = s_use3 (s_use2 Y (s_use1 D t g (Y 11 (4 * j + D 3 j))) t (s_rest Y R D (s_kind Y D j))) j t g := by unfold s_use s_wear; rw [if_pos rfl]
    refine ⟨Z, ?_, by rw [hw0]; exact hz, qFr_trans (qFr_mono hfr2 (fun k hk => dP_f hk)) (qFr_mono hf (fun k hk => dP_e hk)), by rw [hf.1 _ eP_n3]; exact hF2.2.2.1, by rw [hf.1 _ eP_n3]; exact hF2.2.2.2.2.1⟩
    simp (disch := (first | assumption | omega | exact hB _ _ | exact hYB _ _ | (simp only [yc, yd, sh, sv, ne_eq]; omega) | (simp (disch := omega) only [↓nm_1, ↓nm_2, nI_add, pk_mul, pk_sub, Nat.add_sub_cancel, qm1_add, qm2_add, nI_clamp, ni_0, ni_1, ni_3, ni_6, ni_8, et, hr, hy14, f3, e]; refine qin_nI ?_ ?_ <;> first | omega | exact hB _ _ | exact hYB _ _) | (refine qin_nI ?_ ?_ <;> omega) | fail)) only [↓yc0_gd hb, ↓yc0_gI hb, ↓yc0_gM hb, ↓yc0_pI hb, ↓yc0_pM hb, ↓yc0_pZ hb, ↓yc0_gF0 hb, ↓yc0_gF1 hb, ↓yc0_gF2 hb, ↓yc0_gF3 hb, ↓yc0_gF4 hb, ↓yc0_gF5 hb, ↓yc0_gF6 hb, ↓yc0_gF7 hb, ↓yc0_gF8 hb, ↓yc0_gF9 hb, ↓yc0_gF10 hb, ↓yc0_gF11 hb, ↓yc0_gF12 hb, ↓yc0_gF13 hb, ↓yc1_al hb, ↓yc1_as hb, ↓yc1_ln hb, ↓yc2_al hb, ↓yc2_as hb, ↓yc2_ln hb, ↓yc3_al hb, ↓yc3_as hb, ↓yc3_ln hb, ↓yc4_al hb, ↓yc4_as hb, ↓yc4_ln hb, ↓yc5_al hb, ↓yc5_as hb, ↓yc5_ln hb, ↓yc6_al hb, ↓yc6_as hb, ↓yc6_ln hb, ↓yc7_al hb, ↓yc7_as hb, ↓yc7_ln hb, ↓yc8_al hb, ↓yc8_as hb, ↓yc8_ln hb, ↓yc9_al hb, ↓yc9_as hb, ↓yc9_ln hb, ↓yc10_al hb, ↓yc10_as hb, ↓yc10_ln hb, ↓yc11_al hb, ↓yc11_as hb, ↓yc11_ln hb, ↓yc12_al hb, ↓yc12_as hb, ↓yc12_ln hb, ↓yc13_al hb, ↓yc13_as hb, ↓yc13_ln hb, ↓yc14_gd hb, ↓yc14_gI hb, ↓yc14_gM hb, ↓yc14_pI hb, ↓yc14_pM hb, ↓yc14_pZ hb, ↓yc14_gF0 hb, ↓yc14_gF1 hb, ↓yc15_al hb, ↓yc15_as hb, ↓yc15_ln hb, ↓yc16_al hb, ↓yc16_as hb, ↓yc16_ln hb, ↓yd0_gd hw, ↓yd0_gI hw, ↓yd0_gM hw, ↓yd0_pI hw, ↓yd0_pM hw, ↓yd0_pZ hw, ↓yd0_gF5 hw, ↓yd0_gF6 hw, ↓yd0_gF7 hw, ↓yd0_gF8 hw, ↓yd1_al hw, ↓yd1_as hw, ↓yd1_ln hw, ↓yd2_al hw, ↓yd2_as hw, ↓yd2_ln hw, ↓yd3_al hw, ↓yd3_as hw, ↓yd3_ln hw, ↓yd4_al hw, ↓yd4_as hw, ↓yd4_ln hw, ↓sh0_gd hw, ↓sh0_gI hw, ↓sh0_gM hw, ↓sh0_pI hw, ↓sh0_pM hw, ↓sh0_pZ hw, ↓sh0_gF0 hw, ↓sh0_gF1 hw, ↓sh0_gF2 hw, ↓sh0_gF3 hw, ↓sh1_al hw, ↓sh1_as hw, ↓sh1_ln hw, ↓sh2_al hw, ↓sh2_as hw, ↓sh2_ln hw, ↓sh3_al hw, ↓sh3_as hw, ↓sh3_ln hw, ↓qb_so, ↓nm_1, ↓nm_2, ↓reduceIte, if_true, if_false, not_true_eq_false, not_false_eq_true, and_true, true_and, and_false, false_and, or_true, true_or, or_false, false_or, eq_self, ne_eq, quI_s, quI_n, quI2, quL1, quL2, quL3, quR1, quR2, quR3, nI_add, pk_mul, pk_sub, Nat.add_sub_cancel, qm1_add, qm2_add, nI_leI, nI_ltI, nI_eq, nI_m1, nI_m1', nI_clamp, nI_bit, nI_one_shl, nI_m1l, nI_m1lt, nI_m1lt', nI_m1le', oI_some, oI_none, ni_0, ni_1, ni_3, ni_6, ni_8, fX6_useTool, fX1_hasWears, qle_t, qle_f, qlt_t, qlt_f, qeq_t, qeq_f, et, hr, hy14, f3, e]
  · have hl0 : Y 14 5 < Y 14 6 := by have := List.length_pos_iff.mpr hm; omega
    obtain ⟨⟨Z1, e1, hfz⟩, hv⟩ := c_run (n := n) (w := w) (b := b) (to := Y 14 6) (p := Y 14 5) hw hb (s_ph_b (t := t) (g := g) hY hD hfr hh9) hle (S := V) hfa (hK.2.1 hm) hW2.1.2.2.2.2.2.2.2 (by omega) (by omega)
    have e1' : fX1_run n (yc b 14) (nI (Y 14 5)) (nI (Y 14 6)) (sh w 3) V = some ((eVal (s_ph Y R D fr j t g) wc).toInt32, Z1) := e1
    have hfz' : qFr (fP b w) V Z1 := qFr_mono hfz (fun k hk => Or.inr hk)
    have hF3 : cF Z1 w Y R D fr j := cF_fr hfz (by simp only [sh]; omega) hF2
    obtain ⟨Z, e, hz, hf⟩ := c_B72 (n := n) (j := j) (t := t) (g := g) (wear := s_cl (eVal (s_ph Y R D fr j t g) wc)) hb hw (cW_fP hb hw hfz' hW2) hY hD hj ht hg (s0 := (eVal (s_ph Y R D fr j t g) wc).toInt32) (s_cl_32 hv) (s_cl_le _) hre hF3.1
    have hw0 : s_use Y wc R D fr j t g = s_use3 (s_use2 Y (s_use1 D t g (s_cl (eVal (s_ph Y R D fr j t g) wc))) t (s_rest Y R D (s_kind Y D j))) j t g := by unfold s_use s_wear; rw [if_neg hm]
    refine ⟨Z, ?_, by rw [hw0]; exact hz, qFr_trans (qFr_mono (qFr_trans hfr2 hfz') (fun k hk => dP_f hk)) (qFr_mono hf (fun k hk => dP_e hk)), by rw [hf.1 _ eP_n3]; exact hF3.2.2.1, by rw [hf.1 _ eP_n3]; exact hF3.2.2.2.2.1⟩
    simp (disch := (first | assumption | omega | exact hB _ _ | exact hYB _ _ | (simp only [yc, yd, sh, sv, ne_eq]; omega) | (simp (disch := omega) only [↓nm_1, ↓nm_2, nI_add, pk_mul, pk_sub, Nat.add_sub_cancel, qm1_add, qm2_add, nI_clamp, ni_0, ni_1, ni_3, ni_6, ni_8, et, hr, hy14, e1', e]; refine qin_nI ?_ ?_ <;> first | omega | exact hB _ _ | exact hYB _ _) | (refine qin_nI ?_ ?_ <;> omega) | fail)) only [↓yc0_gd hb, ↓yc0_gI hb, ↓yc0_gM hb, ↓yc0_pI hb, ↓yc0_pM hb, ↓yc0_pZ hb, ↓yc0_gF0 hb, ↓yc0_gF1 hb, ↓yc0_gF2 hb, ↓yc0_gF3 hb, ↓yc0_gF4 hb, ↓yc0_gF5 hb, ↓yc0_gF6 hb, ↓yc0_gF7 hb, ↓yc0_gF8 hb, ↓yc0_gF9 hb, ↓yc0_gF10 hb, ↓yc0_gF11 hb, ↓yc0_gF12 hb, ↓yc0_gF13 hb, ↓yc1_al hb, ↓yc1_as hb, ↓yc1_ln hb, ↓yc2_al hb, ↓yc2_as hb, ↓yc2_ln hb, ↓yc3_al hb, ↓yc3_as hb, ↓yc3_ln hb, ↓yc4_al hb, ↓yc4_as hb, ↓yc4_ln hb, ↓yc5_al hb, ↓yc5_as hb, ↓yc5_ln hb, ↓yc6_al hb, ↓yc6_as hb, ↓yc6_ln hb, ↓yc7_al hb, ↓yc7_as hb, ↓yc7_ln hb, ↓yc8_al hb, ↓yc8_as hb, ↓yc8_ln hb, ↓yc9_al hb, ↓yc9_as hb, ↓yc9_ln hb, ↓yc10_al hb, ↓yc10_as hb, ↓yc10_ln hb, ↓yc11_al hb, ↓yc11_as hb, ↓yc11_ln hb, ↓yc12_al hb, ↓yc12_as hb, ↓yc12_ln hb, ↓yc13_al hb, ↓yc13_as hb, ↓yc13_ln hb, ↓yc14_gd hb, ↓yc14_gI hb, ↓yc14_gM hb, ↓yc14_pI hb, ↓yc14_pM hb, ↓yc14_pZ hb, ↓yc14_gF0 hb, ↓yc14_gF1 hb, ↓yc15_al hb, ↓yc15_as hb, ↓yc15_ln hb, ↓yc16_al hb, ↓yc16_as hb, ↓yc16_ln hb, ↓yd0_gd hw, ↓yd0_gI hw, ↓yd0_gM hw, ↓yd0_pI hw, ↓yd0_pM hw, ↓yd0_pZ hw, ↓yd0_gF5 hw, ↓yd0_gF6 hw, ↓yd0_gF7 hw, ↓yd0_gF8 hw, ↓yd1_al hw, ↓yd1_as hw, ↓yd1_ln hw, ↓yd2_al hw, ↓yd2_as hw, ↓yd2_ln hw, ↓yd3_al hw, ↓yd3_as hw, ↓yd3_ln hw, ↓yd4_al hw, ↓yd4_as hw, ↓yd4_ln hw, ↓sh0_gd hw, ↓sh0_gI hw, ↓sh0_gM hw, ↓sh0_pI hw, ↓sh0_pM hw, ↓sh0_pZ hw, ↓sh0_gF0 hw, ↓sh0_gF1 hw, ↓sh0_gF2 hw, ↓sh0_gF3 hw, ↓sh1_al hw, ↓sh1_as hw, ↓sh1_ln hw, ↓sh2_al hw, ↓sh2_as hw, ↓sh2_ln hw, ↓sh3_al hw, ↓sh3_as hw, ↓sh3_ln hw, ↓qb_so, ↓nm_1, ↓nm_2, ↓reduceIte, if_true, if_false, not_true_eq_false, not_false_eq_true, and_true, true_and, and_false, false_and, or_true, true_or, or_false, false_or, eq_self, ne_eq, quI_s, quI_n, quI2, quL1, quL2, quL3, quR1, quR2, quR3, nI_add, pk_mul, pk_sub, Nat.add_sub_cancel, qm1_add, qm2_add, nI_leI, nI_ltI, nI_eq, nI_m1, nI_m1', nI_clamp, nI_bit, nI_one_shl, nI_m1l, nI_m1lt, nI_m1lt', nI_m1le', oI_some, oI_none, ni_0, ni_1, ni_3, ni_6, ni_8, fX6_useTool, fX1_hasWears, qle_t, qle_f, qlt_t, qlt_f, qeq_t, qeq_f, et, hr, hy14, e1', e]
theorem s_2pow8 {n a : Nat} (h : a < 2 ^ n) (hn : n ≤ 8) : a < 256 := Nat.lt_of_lt_of_le h (Nat.pow_le_pow_right (by decide) hn)
theorem c_work (hb : b < 2) (hw : w < 2) (h : cW S b w Y mc wc R row D) (hY : yrOk Y) (hD : dOk Y D) (hK : kOk mc wc) (hR : ∀ k, R k < 2 ^ 31) (hn : 2000 ≤ n) {fr j : Nat} (hfr : fr ≤ 1) (hG : cG S w D fr) (hj : j < Y 2 3) :
    ∃ Z, fX6_workStep n (sh w 0) (nI j) S = some Z ∧ cW Z b w Y mc wc R row (s_step Y mc wc R fr D j) ∧ qFr (dP b w) S Z ∧ cG Z w (s_step Y mc wc R fr D j) fr := by
  have hYB := yrOk_B hY
  have hB := dOk_B hD
  have h6 : Y 2 3 ≤ 6 := hY.1.2.2.2
  have h60 : Y 2 0 ≤ 6 := hY.1.1
  have hr := h.2.1.1
  have hr5 := h.2.1.2
  have hd1 := h.2.2.2.2.1.2.1
  have e1 := c_holds_t (s := 3) hb h.1 hYB (by decide) hj
  have e2 := c_fin (j := j) hb hw h.1 h.2.2.2.2.1 hYB hB (by omega)
  unfold s_step
  by_cases hf : D 3 j < Y 9 j
  · obtain ⟨hk, hh9, hd4⟩ := s_step_lt hD hj hY hf
    have e3 := c_kindOf hb h.1 hY hj hf
    have e4 := c_holds_t (s := 0) hb h.1 hYB (by decide) hk
    have e5 := c_rest hb hw h hY hD hR hk
    rw [if_pos hf]
    have hre : s_rest Y R D (s_kind Y D j) = 0 ∨ s_rest Y R D (s_kind Y D j) = 1 := by unfold s_rest; split <;> simp
    -- the facts
    have w1 : cW (xuI S (sh w 3) 0 (nI (s_rest Y R D (s_kind Y D j)))) b w Y mc wc R row D := cW_f hb hw h
    have g1 := c_hours hb w1.1 hY hj hf
    have w2 : cW (xuI (xuI S (sh w 3) 0 (nI (s_rest Y R D (s_kind Y D j)))) (sh w 3) 3 (nI (Y 11 (4 * j + D 3 j)))) b w Y mc wc R row D := cW_f hb hw w1
    have b999 : D 0 0 ≤ 999 := hD.1
    have b4 := hD.2.2.2.2.2.2.2.1
    have g2 := c_late (j := j) hb hw w2.1 w2.2.2.2.2.1 hYB hB (by omega) (fun j => by have := b4 j; omega) (by omega) hj
    have w3 : cW (xuI (xuI (xuI S (sh w 3) 0 (nI (s_rest Y R D (s_kind Y D j)))) (sh w 3) 3 (nI (Y 11 (4 * j + D 3 j)))) (sh w 3) 5 (nI (s_late Y D j))) b w Y mc wc R row D := cW_f hb hw w2
    have u7 := h.2.2.2.2.2.1.1
    have hu : D 5 0 < 256 := s_2pow8 hD.2.2.2.2.2.2.2.2.2.2.1 hY.1.2.1
    have w4 : cW (xuI (xuI (xuI (xuI S (sh w 3) 0 (nI (s_rest Y R D (s_kind Y D j)))) (sh w 3) 3 (nI (Y 11 (4 * j + D 3 j)))) (sh w 3) 5 (nI (s_late Y D j))) (sh w 3) 7 (nI (s_pc (D 5 0)))) b w Y mc wc R row D := cW_f hb hw w3
    have hF : cF (xuI (xuI (xuI (xuI S (sh w 3) 0 (nI (s_rest Y R D (s_kind Y D j)))) (sh w 3) 3 (nI (Y 11 (4 * j + D 3 j)))) (sh w 3) 5 (nI (s_late Y D j))) (sh w 3) 7 (nI (s_pc (D 5 0)))) w Y R D fr j := by
      obtain ⟨q4, q6⟩ := hG
      unfold cF
      simp only [quI_s]
      exact ⟨rfl, rfl, q4, rfl, q6, rfl⟩
    have fr4 : qFr (fP b w) S (xuI (xuI (xuI (xuI S (sh w 3) 0 (nI (s_rest Y R D (s_kind Y D j)))) (sh w 3) 3 (nI (Y 11 (4 * j + D 3 j)))) (sh w 3) 5 (nI (s_late Y D j))) (sh w 3) 7 (nI (s_pc (D 5 0)))) := qFr_trans (qFr_trans (qFr_trans (qFr_upd (Or.inl rfl)) (qFr_upd (Or.inl rfl))) (qFr_upd (Or.inl rfl))) (qFr_upd (Or.inl rfl))
    have e77 : fX6_workStep n (sh w 0) (nI j) S = fX6_workStep_B77 n (sh w 0) (nI j) (nI (s_kind Y D j)) (sh w 3) (nI 0) (nI (s_rest Y R D (s_kind Y D j))) S := by
      unfold s_kind at e4 e5 hre ⊢
      rcases hre with hre | hre <;> rw [hre] at e5 ⊢
      · simp (disch := (first | assumption | omega | exact hB _ _ | exact hYB _ _ | (simp only [yc, yd, sh, sv, ne_eq]; omega) | (simp (disch := omega) only [↓nm_1, ↓nm_2, nI_add, pk_mul, pk_sub, Nat.add_sub_cancel, qm1_add, qm2_add, nI_clamp, ni_0, ni_1, ni_3, hr, hr5, hd1, e1, e2, hf, e3, e4, e5]; refine qin_nI ?_ ?_ <;> first | omega | exact hB _ _ | exact hYB _ _) | (refine qin_nI ?_ ?_ <;> omega) | fail)) only [↓yc0_gd hb, ↓yc0_gI hb, ↓yc0_gM hb, ↓yc0_pI hb, ↓yc0_pM hb, ↓yc0_pZ hb, ↓yc0_gF0 hb, ↓yc0_gF1 hb, ↓yc0_gF2 hb, ↓yc0_gF3 hb, ↓yc0_gF4 hb, ↓yc0_gF5 hb, ↓yc0_gF6 hb, ↓yc0_gF7 hb, ↓yc0_gF8 hb, ↓yc0_gF9 hb, ↓yc0_gF10 hb, ↓yc0_gF11 hb, ↓yc0_gF12 hb, ↓yc0_gF13 hb, ↓yc1_al hb, ↓yc1_as hb, ↓yc1_ln hb, ↓yc2_al hb, ↓yc2_as hb, ↓yc2_ln hb, ↓yc3_al hb, ↓yc3_as hb, ↓yc3_ln hb, ↓yc4_al hb, ↓yc4_as hb, ↓yc4_ln hb, ↓yc5_al hb, ↓yc5_as hb, ↓yc5_ln hb, ↓yc6_al hb, ↓yc6_as hb, ↓yc6_ln hb, ↓yc7_al hb, ↓yc7_as hb, ↓yc7_ln hb, ↓yc8_al hb, ↓yc8_as hb, ↓yc8_ln hb, ↓yc9_al hb, ↓yc9_as hb, ↓yc9_ln hb, ↓yc10_al hb, ↓yc10_as hb, ↓yc10_ln hb, ↓yc11_al hb, ↓yc11_as hb, ↓yc11_ln hb, ↓yc12_al hb, ↓yc12_as hb, ↓yc12_ln hb, ↓yc13_al hb, ↓yc13_as hb, ↓yc13_ln hb, ↓yc14_gd hb, ↓yc14_gI hb, ↓yc14_gM hb, ↓yc14_pI hb, ↓yc14_pM hb, ↓yc14_pZ hb, ↓yc14_gF0 hb, ↓yc14_gF1 hb, ↓yc15_al hb, ↓yc15_as hb, ↓yc15_ln hb, ↓yc16_al hb, ↓yc16_as hb, ↓yc16_ln hb, ↓yd0_gd hw, ↓yd0_gI hw, ↓yd0_gM hw, ↓yd0_pI hw, ↓yd0_pM hw, ↓yd0_pZ hw, ↓yd0_gF5 hw, ↓yd0_gF6 hw, ↓yd0_gF7 hw, ↓yd0_gF8 hw, ↓yd1_al hw, ↓yd1_as hw, ↓yd1_ln hw, ↓yd2_al hw, ↓yd2_as hw, ↓yd2_ln hw, ↓yd3_al hw, ↓yd3_as hw, ↓yd3_ln hw, ↓yd4_al hw, ↓yd4_as hw, ↓yd4_ln hw, ↓sh0_gd hw, ↓sh0_gI hw, ↓sh0_gM hw, ↓sh0_pI hw, ↓sh0_pM hw, ↓sh0_pZ hw, ↓sh0_gF0 hw, ↓sh0_gF1 hw, ↓sh0_gF2 hw, ↓sh0_gF3 hw, ↓sh1_al hw, ↓sh1_as hw, ↓sh1_ln hw, ↓sh2_al hw, ↓sh2_as hw, ↓sh2_ln hw, ↓sh3_al hw, ↓sh3_as hw, ↓sh3_ln hw, ↓qb_so, ↓nm_1, ↓nm_2, ↓reduceIte, if_true, if_false, not_true_eq_false, not_false_eq_true, and_true, true_and, and_false, false_and, or_true, true_or, or_false, false_or, eq_self, ne_eq, quI_s, quI_n, quI2, quL1, quL2, quL3, quR1, quR2, quR3, nI_add, pk_mul, pk_sub, Nat.add_sub_cancel, qm1_add, qm2_add, nI_leI, nI_ltI, nI_eq, nI_m1, nI_m1', nI_clamp, nI_bit, nI_one_shl, nI_m1l, nI_m1lt, nI_m1lt', nI_m1le', oI_some, oI_none, ni_0, ni_1, ni_3, fX6_workStep, qle_t, qle_f, qlt_t, qlt_f, qeq_t, qeq_f, hr, hr5, hd1, e1, e2, hf, e3, e4, e5]
      · simp (disch := (first | assumption | omega | exact hB _ _ | exact hYB _ _ | (simp only [yc, yd, sh, sv, ne_eq]; omega) | (simp (disch := omega) only [↓nm_1, ↓nm_2, nI_add, pk_mul, pk_sub, Nat.add_sub_cancel, qm1_add, qm2_add, nI_clamp, ni_0, ni_1, ni_3, hr, hr5, hd1, e1, e2, hf, e3, e4, e5]; refine qin_nI ?_ ?_ <;> first | omega | exact hB _ _ | exact hYB _ _) | (refine qin_nI ?_ ?_ <;> omega) | fail)) only [↓yc0_gd hb, ↓yc0_gI hb, ↓yc0_gM hb, ↓yc0_pI hb, ↓yc0_pM hb, ↓yc0_pZ hb, ↓yc0_gF0 hb, ↓yc0_gF1 hb, ↓yc0_gF2 hb, ↓yc0_gF3 hb, ↓yc0_gF4 hb, ↓yc0_gF5 hb, ↓yc0_gF6 hb, ↓yc0_gF7 hb, ↓yc0_gF8 hb, ↓yc0_gF9 hb, ↓yc0_gF10 hb, ↓yc0_gF11 hb, ↓yc0_gF12 hb, ↓yc0_gF13 hb, ↓yc1_al hb, ↓yc1_as hb, ↓yc1_ln hb, ↓yc2_al hb, ↓yc2_as hb, ↓yc2_ln hb, ↓yc3_al hb, ↓yc3_as hb, ↓yc3_ln hb, ↓yc4_al hb, ↓yc4_as hb, ↓yc4_ln hb, ↓yc5_al hb, ↓yc5_as hb, ↓yc5_ln hb, ↓yc6_al hb, ↓yc6_as hb, ↓yc6_ln hb, ↓yc7_al hb, ↓yc7_as hb, ↓yc7_ln hb, ↓yc8_al hb, ↓yc8_as hb, ↓yc8_ln hb, ↓yc9_al hb, ↓yc9_as hb, ↓yc9_ln hb, ↓yc10_al hb, ↓yc10_as hb, ↓yc10_ln hb, ↓yc11_al hb, ↓yc11_as hb, ↓yc11_ln hb, ↓yc12_al hb, ↓yc12_as hb, ↓yc12_ln hb, ↓yc13_al hb, ↓yc13_as hb, ↓yc13_ln hb, ↓yc14_gd hb, ↓yc14_gI hb, ↓yc14_gM hb, ↓yc14_pI hb, ↓yc14_pM hb, ↓yc14_pZ hb, ↓yc14_gF0 hb, ↓yc14_gF1 hb, ↓yc15_al hb, ↓yc15_as hb, ↓yc15_ln hb, ↓yc16_al hb, ↓yc16_as hb, ↓yc16_ln hb, ↓yd0_gd hw, ↓yd0_gI hw, ↓yd0_gM hw, ↓yd0_pI hw, ↓yd0_pM hw, ↓yd0_pZ hw, ↓yd0_gF5 hw, ↓yd0_gF6 hw, ↓yd0_gF7 hw, ↓yd0_gF8 hw, ↓yd1_al hw, ↓yd1_as hw, ↓yd1_ln hw, ↓yd2_al hw, ↓yd2_as hw, ↓yd2_ln hw, ↓yd3_al hw, ↓yd3_as hw, ↓yd3_ln hw, ↓yd4_al hw, ↓yd4_as hw, ↓yd4_ln hw, ↓sh0_gd hw, ↓sh0_gI hw, ↓sh0_gM hw, ↓sh0_pI hw, ↓sh0_pM hw, ↓sh0_pZ hw, ↓sh0_gF0 hw, ↓sh0_gF1 hw, ↓sh0_gF2 hw, ↓sh0_gF3 hw, ↓sh1_al hw, ↓sh1_as hw, ↓sh1_ln hw, ↓sh2_al hw, ↓sh2_as hw, ↓sh2_ln hw, ↓sh3_al hw, ↓sh3_as hw, ↓sh3_ln hw, ↓qb_so, ↓nm_1, ↓nm_2, ↓reduceIte, if_true, if_false, not_true_eq_false, not_false_eq_true, and_true, true_and, and_false, false_and, or_true, true_or, or_false, false_or, eq_self, ne_eq, quI_s, quI_n, quI2, quL1, quL2, quL3, quR1, quR2, quR3, nI_add, pk_mul, pk_sub, Nat.add_sub_cancel, qm1_add, qm2_add, nI_leI, nI_ltI, nI_eq, nI_m1, nI_m1', nI_clamp, nI_bit, nI_one_shl, nI_m1l, nI_m1lt, nI_m1lt', nI_m1le', oI_some, oI_none, ni_0, ni_1, ni_3, fX6_workStep, qle_t, qle_f, qlt_t, qlt_f, qeq_t, qeq_f, hr, hr5, hd1, e1, e2, hf, e3, e4, e5]
    generalize hV : xuI (xuI (xuI (xuI S (sh w 3) 0 (nI (s_rest Y R D (s_kind Y D j)))) (sh w 3) 3 (nI (Y 11 (4 * j + D 3 j)))) (sh w 3) 5 (nI (s_late Y D j))) (sh w 3) 7 (nI (s_pc (D 5 0))) = V at w4 hF fr4
    obtain ⟨Z1, et, hf1, hF1⟩ := c_tool (n := n) (j := j) hb hw w4 hY hD hK hn hfr hh9 hF
    have w5 := cW_fP hb hw hf1 w4
    have eb : fX6_workStep_B77 n (sh w 0) (nI j) (nI (s_kind Y D j)) (sh w 3) (nI 0) (nI (s_rest Y R D (s_kind Y D j))) S = (fX6_chooseTool n (sh w 0) (nI (s_kind Y D j)) V).bind fun q32 => if q32.1 = (-1 : Int32) then (some q32.2) else ((fX6_chooseHand n (sh w 0) q32.1 q32.2).bind fun v33 => (fX6_useTool n (sh w 0) (nI j) q32.1 v33 q32.2).bind fun S34 => some S34) := by
      rw [← hV]
      simp (disch := (first | assumption | omega | exact hB _ _ | exact hYB _ _ | (simp only [yc, yd, sh, sv, ne_eq]; omega) | (simp (disch := omega) only [↓nm_1, ↓nm_2, nI_add, pk_mul, pk_sub, Nat.add_sub_cancel, qm1_add, qm2_add, nI_clamp, ni_0, ni_1, ni_3, ni_5, ni_7, hr, hr5, hd1, g1, g2, u7, c_bc hu]; refine qin_nI ?_ ?_ <;> first | omega | exact hB _ _ | exact hYB _ _) | (refine qin_nI ?_ ?_ <;> omega) | fail)) only [↓yc0_gd hb, ↓yc0_gI hb, ↓yc0_gM hb, ↓yc0_pI hb, ↓yc0_pM hb, ↓yc0_pZ hb, ↓yc0_gF0 hb, ↓yc0_gF1 hb, ↓yc0_gF2 hb, ↓yc0_gF3 hb, ↓yc0_gF4 hb, ↓yc0_gF5 hb, ↓yc0_gF6 hb, ↓yc0_gF7 hb, ↓yc0_gF8 hb, ↓yc0_gF9 hb, ↓yc0_gF10 hb, ↓yc0_gF11 hb, ↓yc0_gF12 hb, ↓yc0_gF13 hb, ↓yc1_al hb, ↓yc1_as hb, ↓yc1_ln hb, ↓yc2_al hb, ↓yc2_as hb, ↓yc2_ln hb, ↓yc3_al hb, ↓yc3_as hb, ↓yc3_ln hb, ↓yc4_al hb, ↓yc4_as hb, ↓yc4_ln hb, ↓yc5_al hb, ↓yc5_as hb, ↓yc5_ln hb, ↓yc6_al hb, ↓yc6_as hb, ↓yc6_ln hb, ↓yc7_al hb, ↓yc7_as hb, ↓yc7_ln hb, ↓yc8_al hb, ↓yc8_as hb, ↓yc8_ln hb, ↓yc9_al hb, ↓yc9_as hb, ↓yc9_ln hb, ↓yc10_al hb, ↓yc10_as hb, ↓yc10_ln hb, ↓yc11_al hb, ↓yc11_as hb, ↓yc11_ln hb, ↓yc12_al hb, ↓yc12_as hb, ↓yc12_ln hb, ↓yc13_al hb, ↓yc13_as hb, ↓yc13_ln hb, ↓yc14_gd hb, ↓yc14_gI hb, ↓yc14_gM hb, ↓yc14_pI hb, ↓yc14_pM hb, ↓yc14_pZ hb, ↓yc14_gF0 hb, ↓yc14_gF1 hb, ↓yc15_al hb, ↓yc15_as hb, ↓yc15_ln hb, ↓yc16_al hb, ↓yc16_as hb, ↓yc16_ln hb, ↓yd0_gd hw, ↓yd0_gI hw, ↓yd0_gM hw, ↓yd0_pI hw, ↓yd0_pM hw, ↓yd0_pZ hw, ↓yd0_gF5 hw, ↓yd0_gF6 hw, ↓yd0_gF7 hw, ↓yd0_gF8 hw, ↓yd1_al hw, ↓yd1_as hw, ↓yd1_ln hw, ↓yd2_al hw, ↓yd2_as hw, ↓yd2_ln hw, ↓yd3_al hw, ↓yd3_as hw, ↓yd3_ln hw, ↓yd4_al hw, ↓yd4_as hw, ↓yd4_ln hw, ↓sh0_gd hw, ↓sh0_gI hw, ↓sh0_gM hw, ↓sh0_pI hw, ↓sh0_pM hw, ↓sh0_pZ hw, ↓sh0_gF0 hw, ↓sh0_gF1 hw, ↓sh0_gF2 hw, ↓sh0_gF3 hw, ↓sh1_al hw, ↓sh1_as hw, ↓sh1_ln hw, ↓sh2_al hw, ↓sh2_as hw, ↓sh2_ln hw, ↓sh3_al hw, ↓sh3_as hw, ↓sh3_ln hw, ↓qb_so, ↓nm_1, ↓nm_2, ↓reduceIte, if_true, if_false, not_true_eq_false, not_false_eq_true, and_true, true_and, and_false, false_and, or_true, true_or, or_false, false_or, eq_self, ne_eq, quI_s, quI_n, quI2, quL1, quL2, quL3, quR1, quR2, quR3, nI_add, pk_mul, pk_sub, Nat.add_sub_cancel, qm1_add, qm2_add, nI_leI, nI_ltI, nI_eq, nI_m1, nI_m1', nI_clamp, nI_bit, nI_one_shl, nI_m1l, nI_m1lt, nI_m1lt', nI_m1le', oI_some, oI_none, ni_0, ni_1, ni_3, ni_5, ni_7, fX6_workStep_B77, hr, hr5, hd1, g1, g2, u7, c_bc hu]
    rw [e77, eb, et]
    cases ho : s_tool Y mc R D fr j with
    | none =>
      refine ⟨Z1, rfl, w5, qFr_mono (qFr_trans fr4 hf1) (fun k hk => dP_f hk), hF1.2.2.1, hF1.2.2.2.2.1⟩
    | some t =>
      obtain ⟨ht, _, _, g, hg⟩ := s_tool_P ho
      have h8 : Y 2 1 ≤ 8 := hY.1.2.1
      have hg6 := (s_hand_lt hg).1
      have h62 : Y 2 2 ≤ 6 := hY.1.2.2.1
      have eh := c_hand (n := n) (t := t) hb hw w5 hY hD hn (by omega)
      rw [hg, oI_some] at eh
      obtain ⟨Z, eu, hz, hfz, hz4, hz6⟩ := c_use (n := n) (j := j) (t := t) (g := g) hb hw w5 hY hD hK hn hfr hh9 hF1 (by omega) (by omega) (by omega)
      simp only [hg]
      refine ⟨Z, ?_, hz, qFr_trans (qFr_mono (qFr_trans fr4 hf1) (fun k hk => dP_f hk)) hfz, ?_, hz6⟩
      · simp (disch := (first | assumption | omega | exact hB _ _ | exact hYB _ _ | (simp only [yc, yd, sh, sv, ne_eq]; omega) | (simp (disch := omega) only [↓nm_1, ↓nm_2, nI_add, pk_mul, pk_sub, Nat.add_sub_cancel, qm1_add, qm2_add, nI_clamp, ni_0, ni_1, oI_some, eh, eu]; refine qin_nI ?_ ?_ <;> first | omega | exact hB _ _ | exact hYB _ _) | (refine qin_nI ?_ ?_ <;> omega) | fail)) only [↓qb_so, ↓nm_1, ↓nm_2, ↓reduceIte, if_true, if_false, not_true_eq_false, not_false_eq_true, and_true, true_and, and_false, false_and, or_true, true_or, or_false, false_or, eq_self, ne_eq, quI_s, quI_n, quI2, quL1, quL2, quL3, quR1, quR2, quR3, nI_add, pk_mul, pk_sub, Nat.add_sub_cancel, qm1_add, qm2_add, nI_leI, nI_ltI, nI_eq, nI_m1, nI_m1', nI_clamp, nI_bit, nI_one_shl, nI_m1l, nI_m1lt, nI_m1lt', nI_m1le', oI_some, oI_none, ni_0, ni_1, qle_t, qle_f, qlt_t, qlt_f, qeq_t, qeq_f, oI_some, eh, eu]
      · rw [hz4]
        congr 1
        show D 0 0 = s_use3 _ j t g 0 0
        unfold s_use3 s_keep s_use2 s_use1 s_pay
        simp only
        repeat' split
        all_goals first | rfl | simp [dU]
  · rw [if_neg hf]
    refine ⟨S, ?_, h, qFr_refl, hG⟩
    simp (disch := (first | assumption | omega | exact hB _ _ | exact hYB _ _ | (simp only [yc, yd, sh, sv, ne_eq]; omega) | (simp (disch := omega) only [↓nm_1, ↓nm_2, nI_add, pk_mul, pk_sub, Nat.add_sub_cancel, qm1_add, qm2_add, nI_clamp, ni_0, ni_1, ni_3, hr, hr5, e1, e2, hf]; refine qin_nI ?_ ?_ <;> first | omega | exact hB _ _ | exact hYB _ _) | (refine qin_nI ?_ ?_ <;> omega) | fail)) only [↓yc0_gd hb, ↓yc0_gI hb, ↓yc0_gM hb, ↓yc0_pI hb, ↓yc0_pM hb, ↓yc0_pZ hb, ↓yc0_gF0 hb, ↓yc0_gF1 hb, ↓yc0_gF2 hb, ↓yc0_gF3 hb, ↓yc0_gF4 hb, ↓yc0_gF5 hb, ↓yc0_gF6 hb, ↓yc0_gF7 hb, ↓yc0_gF8 hb, ↓yc0_gF9 hb, ↓yc0_gF10 hb, ↓yc0_gF11 hb, ↓yc0_gF12 hb, ↓yc0_gF13 hb, ↓yc1_al hb, ↓yc1_as hb, ↓yc1_ln hb, ↓yc2_al hb, ↓yc2_as hb, ↓yc2_ln hb, ↓yc3_al hb, ↓yc3_as hb, ↓yc3_ln hb, ↓yc4_al hb, ↓yc4_as hb, ↓yc4_ln hb, ↓yc5_al hb, ↓yc5_as hb, ↓yc5_ln hb, ↓yc6_al hb, ↓yc6_as hb, ↓yc6_ln hb, ↓yc7_al hb, ↓yc7_as hb, ↓yc7_ln hb, ↓yc8_al hb, ↓yc8_as hb, ↓yc8_ln hb, ↓yc9_al hb, ↓yc9_as hb, ↓yc9_ln hb, ↓yc10_al hb, ↓yc10_as hb, ↓yc10_ln hb, ↓yc11_al hb, ↓yc11_as hb, ↓yc11_ln hb, ↓yc12_al hb, ↓yc12_as hb, ↓yc12_ln hb, ↓yc13_al hb, ↓yc13_as hb, ↓yc13_ln hb, ↓yc14_gd hb, ↓yc14_gI hb, ↓yc14_gM hb, ↓yc14_pI hb, ↓yc14_pM hb, ↓yc14_pZ hb, ↓yc14_gF0 hb, ↓yc14_gF1 hb, ↓yc15_al hb, ↓yc15_as hb, ↓yc15_ln hb, ↓yc16_al hb, ↓yc16_as hb, ↓yc16_ln hb, ↓yd0_gd hw, ↓yd0_gI hw, ↓yd0_gM hw, ↓yd0_pI hw, ↓yd0_pM hw, ↓yd0_pZ hw, ↓yd0_gF5 hw, ↓yd0_gF6 hw, ↓yd0_gF7 hw, ↓yd0_gF8 hw, ↓yd1_al hw, ↓yd1_as hw, ↓yd1_ln hw, ↓yd2_al hw, ↓yd2_as hw, ↓yd2_ln hw, ↓yd3_al hw, ↓yd3_as hw, ↓yd3_ln hw, ↓yd4_al hw, ↓yd4_as hw, ↓yd4_ln hw, ↓sh0_gd hw, ↓sh0_gI hw, ↓sh0_gM hw, ↓sh0_pI hw, ↓sh0_pM hw, ↓sh0_pZ hw, ↓sh0_gF0 hw, ↓sh0_gF1 hw, ↓sh0_gF2 hw, ↓sh0_gF3 hw, ↓sh1_al hw, ↓sh1_as hw, ↓sh1_ln hw, ↓sh2_al hw, ↓sh2_as hw, ↓sh2_ln hw, ↓sh3_al hw, ↓sh3_as hw, ↓sh3_ln hw, ↓qb_so, ↓nm_1, ↓nm_2, ↓reduceIte, if_true, if_false, not_true_eq_false, not_false_eq_true, and_true, true_and, and_false, false_and, or_true, true_or, or_false, false_or, eq_self, ne_eq, quI_s, quI_n, quI2, quL1, quL2, quL3, quR1, quR2, quR3, nI_add, pk_mul, pk_sub, Nat.add_sub_cancel, qm1_add, qm2_add, nI_leI, nI_ltI, nI_eq, nI_m1, nI_m1', nI_clamp, nI_bit, nI_one_shl, nI_m1l, nI_m1lt, nI_m1lt', nI_m1le', oI_some, oI_none, ni_0, ni_1, ni_3, fX6_workStep, qle_t, qle_f, qlt_t, qlt_f, qeq_t, qeq_f, hr, hr5, e1, e2, hf]
end Q27

