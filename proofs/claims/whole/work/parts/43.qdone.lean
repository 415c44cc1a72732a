/-! ===== a job's end ===== -/
section Q43
variable {S Z V : xSt} {b n : Nat} {Y D : Nat → Nat → Nat} {mc wc : List (Nat × Nat)} {R row : Nat → Nat} {P : Nat → Nat → Nat → Nat} {G : Nat → Nat → Nat}
theorem s_use_3 {fr j' t g j : Nat} (h : j ≠ j') : s_use Y wc R D fr j' t g 3 j = D 3 j := by
  have e : s_use Y wc R D fr j' t g 3 j = s_use2 Y (s_use1 D t g (s_wear Y wc R D fr j' t g)) t (s_rest Y R D (s_kind Y D j')) 3 j := by
    unfold s_use s_use3 s_keep
    rw [dU_c (by decide), dU_c (by decide), dU_c (by decide), dU_c (by decide), dU_c (by decide), dU_c (by decide), dU_j h, dU_c (by decide), dU_c (by decide)]
  rw [e, s_use2_3]
  rfl
theorem s_step_fin {fr j' j : Nat} (h : ¬ D 3 j < Y 9 j) : s_step Y mc wc R fr D j' 3 j = D 3 j := by
  unfold s_step
  split
  · rename_i hd
    have hne : j ≠ j' := fun e => h (by rw [e]; exact hd)
    cases s_tool Y mc R D fr j' with
    | none => rfl
    | some t =>
      cases hg : s_hand Y D t with
      | none => simp only [hg]
      | some g => simp only [hg]; exact s_use_3 hne
  · rfl
theorem s_jobsL_3 {fr j : Nat} : ∀ (k i : Nat) (D : Nat → Nat → Nat), ¬ D 3 j < Y 9 j → s_jobsL Y mc wc R row fr k i D 3 j = D 3 j
  | 0, i, D, _ => rfl
  | k + 1, i, D, h => by
    unfold s_jobsL
    have e := s_step_fin (mc := mc) (wc := wc) (R := R) (fr := fr) (j' := row i) h
    rw [s_jobsL_3 k (i + 1) _ (by rw [e]; exact h), e]
theorem s_day_3 {fr j : Nat} (h : ¬ D 3 j < Y 9 j) : s_day Y mc wc R row fr D 3 j = D 3 j := by
  have e0 : s_fresh (s_mend Y D) 3 j = D 3 j := by unfold s_fresh; rw [dU_c (by decide), dU_c (by decide), s_mend_c (by decide) (by omega)]
  unfold s_day
  rw [dU_c (by decide), (s_paysL_l (Y := Y) (Y 2 3) 0 _).1.1 j, s_jobsL_3 _ _ _ (by rw [e0]; exact h), e0]
theorem s_run_3 {j : Nat} : ∀ (k : Nat) (D : Nat → Nat → Nat), ¬ D 3 j < Y 9 j → s_run Y mc wc R row k D 3 j = D 3 j
  | 0, D, _ => rfl
  | k + 1, D, h => by
    have e := s_day_3 (mc := mc) (wc := wc) (R := R) (row := row) (fr := 0) h
    rw [s_run_succ, s_run_3 k _ (by rw [e]; exact h), e]
/-- is a job finished behind so many days -/
def s_fin (Y D : Nat → Nat → Nat) (j : Nat) : Bool := decide (¬ D 3 j < Y 9 j)
theorem s_fin_add {j k m : Nat} (hk : k ≤ m) (h : k = m ∨ s_fin Y (s_run Y mc wc R row k D) j = true) : s_fin Y (s_run Y mc wc R row m D) j = s_fin Y (s_run Y mc wc R row k D) j := by
  rcases h with rfl | h
  · rfl
  · obtain ⟨x, rfl⟩ : ∃ x, m = k + x := ⟨m - k, by omega⟩
    rw [s_run_add]
    unfold s_fin at h ⊢
    rw [s_run_3 x _ (of_decide_eq_true h)]
theorem c_idbL (hb : b < 2) (hY : yrOk Y) (hK : kOk mc wc) (hR : ∀ k, R k < 2 ^ 31) (hn : 2000 ≤ n) (hrow : ∀ i, i < Y 2 3 → row i < Y 2 3) {N j : Nat} (hN : N ≤ 100) (hj : j < Y 2 3) : ∀ (m i q : Nat) (D : Nat → Nat → Nat) (S : xSt), i + m = N → m < q → cV S b 1 Y mc wc R row D → rI Y D → dZ D → D 0 0 + m ≤ 999 → S.2.2 148 3 = yc b 0 →
    ∃ Z k, fX0_isDoneBehind_L20 n 148 (nI j) (nI N) q (nI i) S = some Z ∧ k ≤ m ∧ cV Z b 1 Y mc wc R row (s_run Y mc wc R row k D) ∧ rI Y (s_run Y mc wc R row k D) ∧ dZ (s_run Y mc wc R row k D) ∧ qFr (dP b 1) S Z ∧ (k = m ∨ s_fin Y (s_run Y mc wc R row k D) j = true)
  | 0, i, q, D, S, hk, hq, hv, hI, hz, h9, hr => by
    obtain ⟨q, rfl⟩ : ∃ q', q = q' + 1 := ⟨q - 1, by omega⟩
    refine ⟨S, 0, ?_, Nat.le_refl _, hv, hI, hz, qFr_refl, Or.inl rfl⟩
    show fX0_isDoneBehind_L20b _ _ _ _ _ _ _ = _
    simp (disch := (first | assumption | omega | exact hB _ _ | exact hYB _ _ | (simp only [yc, yd, sh, sv, ne_eq]; omega) | (simp (disch := omega) only [↓nm_1, ↓nm_2, nI_add, pk_mul, pk_sub, Nat.add_sub_cancel, qm1_add, qm2_add, nI_clamp, ni_0, ni_1]; refine qin_nI ?_ ?_ <;> first | omega | exact hB _ _ | exact hYB _ _) | (refine qin_nI ?_ ?_ <;> omega) | fail)) only [↓kc0_gd, ↓kc0_gI, ↓kc0_gM, ↓kc0_pI, ↓kc0_pM, ↓kc0_pZ, ↓kc0_gF0, ↓kc0_gF4, ↓kc0_gF5, ↓kc0_gF6, ↓kc0_gF7, ↓kc0_gF8, ↓kc0_gF9, ↓kc0_gF10, ↓kc0_gF11, ↓kc0_gF12, ↓kc0_gF14, ↓kc1_al, ↓kc1_as, ↓kc1_ln, ↓kc41_gd, ↓kc41_gI, ↓kc41_gM, ↓kc41_pI, ↓kc41_pM, ↓kc41_pZ, ↓kc41_gF0, ↓kc41_gF1, ↓kc42_ql, ↓kc43_al, ↓kc43_as, ↓kc43_ln, ↓kc148_gd, ↓kc148_gI, ↓kc148_gM, ↓kc148_pI, ↓kc148_pM, ↓kc148_pZ, ↓kc148_gF0, ↓kc148_gF1, ↓kc148_gF2, ↓kc148_gF4, ↓kc148_gF5, ↓kc154_al, ↓kc154_as, ↓kc154_ln, ↓kc155_al, ↓kc155_as, ↓kc155_ln, ↓kc160_gd, ↓kc160_gI, ↓kc160_gM, ↓kc160_pI, ↓kc160_pM, ↓kc160_pZ, ↓kc160_gF0, ↓kc160_gF1, ↓kc161_al, ↓kc161_as, ↓kc161_ln, ↓kc162_gd, ↓kc162_gI, ↓kc162_gM, ↓kc162_pI, ↓kc162_pM, ↓kc162_pZ, ↓kc162_gF0, ↓kc162_gF1, ↓kc163_gd, ↓kc163_gI, ↓kc163_gM, ↓kc163_pI, ↓kc163_pM, ↓kc163_pZ, ↓kc163_gF0, ↓kc164_gd, ↓kc164_gI, ↓kc164_gM, ↓kc164_pI, ↓kc164_pM, ↓kc164_pZ, ↓kc164_gF0, ↓kc164_gF1, ↓kc164_gF2, ↓kc164_gF3, ↓kc165_al, ↓kc165_as, ↓kc165_ln, ↓kc166_al, ↓kc166_as, ↓kc166_ln, ↓kc167_al, ↓kc167_as, ↓kc167_ln, ↓kc168_al, ↓kc168_as, ↓kc168_ln, ↓kc169_gd, ↓kc169_gI, ↓kc169_gM, ↓kc169_pI, ↓kc169_pM, ↓kc169_pZ, ↓kc169_gF0, ↓kc169_gF2, ↓kc170_al, ↓kc170_as, ↓kc170_ln, ↓kc171_gd, ↓kc171_gI, ↓kc171_gM, ↓kc171_pI, ↓kc171_pM, ↓kc171_pZ, ↓kc171_gF5, ↓kc171_gF6, ↓kc171_gF7, ↓kc171_gF8, ↓kc172_al, ↓kc172_as, ↓kc172_ln, ↓kc173_al, ↓kc173_as, ↓kc173_ln, ↓kc174_al, ↓kc174_as, ↓kc174_ln, ↓kc175_al, ↓kc175_as, ↓kc175_ln, ↓kc176_al, ↓kc176_as, ↓kc176_ln, ↓kc177_al, ↓kc177_as, ↓kc177_ln, ↓qb_so, ↓nm_1, ↓nm_2, ↓reduceIte, if_true, if_false, not_true_eq_false, not_false_eq_true, and_true, true_and, and_false, false_and, or_true, true_or, or_false, false_or, eq_self, ne_eq, quI_s, quI_n, quI2, quL1, quL2, quL3, quR1, quR2, quR3, nI_add, pk_mul, pk_sub, Nat.add_sub_cancel, qm1_add, qm2_add, nI_leI, nI_ltI, nI_eq, nI_m1, nI_m1', nI_clamp, nI_bit, nI_one_shl, nI_m1l, nI_m1lt, nI_m1lt', nI_m1le', oI_some, oI_none, ni_0, ni_1, fX0_isDoneBehind_L20b, qle_t, qle_f, qlt_t, qlt_f, qeq_t, qeq_f]
  | m + 1, i, q, D, S, hk, hq, hv, hI, hz, h9, hr => by
    obtain ⟨q, rfl⟩ : ∃ q', q = q' + 1 := ⟨q - 1, by omega⟩
    have hw : (1 : Nat) < 2 := by decide
    have hYB := yrOk_B hY
    have h6 : Y 2 3 ≤ 6 := hY.1.2.2.2
    obtain ⟨u, u', hu, hu', hcw⟩ := id hv
    have ef := c_fin (j := j) (w := 1) hb (by decide) hcw.1 hcw.2.2.2.2.1 hYB (dU_B (dU_B hI.2.1 hu) hu') (by omega)
    have ef' : fX8_isFinished (yd 1 0) (nI j) (yc b 0) S = some (nI (if D 3 j < Y 9 j then 0 else 1)) := ef
    show ∃ Z k, fX0_isDoneBehind_L20b _ _ _ _ _ _ _ = _ ∧ _
    by_cases hf : D 3 j < Y 9 j
    · obtain ⟨Z1, e1, w1, f1, d1, I1, t1⟩ := c_day2 (n := n) (fr := 0) hb (by decide) hv hY hI hK hR hn (by decide) hrow (by omega)
      obtain ⟨Z, k, e2, hk2, v2, I2, z2, f2, o2⟩ := c_idbL hb hY hK hR hn hrow hN hj m (i + 1) q _ Z1 (by omega) (by omega) (cV_of w1 (dOk_B d1)) I1 (dOk_Z d1) (by omega) (by rw [f1.2]; exact hr)
      refine ⟨Z, k + 1, ?_, by omega, v2, I2, z2, qFr_trans f1 f2, ?_⟩
      · simp (disch := (first | assumption | omega | exact hB _ _ | exact hYB _ _ | (simp only [yc, yd, sh, sv, ne_eq]; omega) | (simp (disch := omega) only [↓nm_1, ↓nm_2, nI_add, pk_mul, pk_sub, Nat.add_sub_cancel, qm1_add, qm2_add, nI_clamp, ni_0, ni_1, hr, ef', hf, e1, e2]; refine qin_nI ?_ ?_ <;> first | omega | exact hB _ _ | exact hYB _ _) | (refine qin_nI ?_ ?_ <;> omega) | fail)) only [↓yd0_gd hw, ↓yd0_gI hw, ↓yd0_gM hw, ↓yd0_pI hw, ↓yd0_pM hw, ↓yd0_pZ hw, ↓yd0_gF5 hw, ↓yd0_gF6 hw, ↓yd0_gF7 hw, ↓yd0_gF8 hw, ↓yd1_al hw, ↓yd1_as hw, ↓yd1_ln hw, ↓yd2_al hw, ↓yd2_as hw, ↓yd2_ln hw, ↓yd3_al hw, ↓yd3_as hw, ↓yd3_ln hw, ↓yd4_al hw, ↓yd4_as hw, ↓yd4_ln hw, ↓sh0_gd hw, ↓sh0_gI hw, ↓sh0_gM hw, ↓sh0_pI hw, ↓sh0_pM hw, ↓sh0_pZ hw, ↓sh0_gF0 hw, ↓sh0_gF1 hw, ↓sh0_gF2 hw, ↓sh0_gF3 hw, ↓sh1_al hw, ↓sh1_as hw, ↓sh1_ln hw, ↓sh2_al hw, ↓sh2_as hw, ↓sh2_ln hw, ↓sh3_al hw, ↓sh3_as hw, ↓sh3_ln hw, ↓kc0_gd, ↓kc0_gI, ↓kc0_gM, ↓kc0_pI, ↓kc0_pM, ↓kc0_pZ, ↓kc0_gF0, ↓kc0_gF4, ↓kc0_gF5, ↓kc0_gF6, ↓kc0_gF7, ↓kc0_gF8, ↓kc0_gF9, ↓kc0_gF10, ↓kc0_gF11, ↓kc0_gF12, ↓kc0_gF14, ↓kc1_al, ↓kc1_as, ↓kc1_ln, ↓kc41_gd, ↓kc41_gI, ↓kc41_gM, ↓kc41_pI, ↓kc41_pM, ↓kc41_pZ, ↓kc41_gF0, ↓kc41_gF1, ↓kc42_ql, ↓kc43_al, ↓kc43_as, ↓kc43_ln, ↓kc148_gd, ↓kc148_gI, ↓kc148_gM, ↓kc148_pI, ↓kc148_pM, ↓kc148_pZ, ↓kc148_gF0, ↓kc148_gF1, ↓kc148_gF2, ↓kc148_gF4, ↓kc148_gF5, ↓kc154_al, ↓kc154_as, ↓kc154_ln, ↓kc155_al, ↓kc155_as, ↓kc155_ln, ↓kc160_gd, ↓kc160_gI, ↓kc160_gM, ↓kc160_pI, ↓kc160_pM, ↓kc160_pZ, ↓kc160_gF0, ↓kc160_gF1, ↓kc161_al, ↓kc161_as, ↓kc161_ln, ↓kc162_gd, ↓kc162_gI, ↓kc162_gM, ↓kc162_pI, ↓kc162_pM, ↓kc162_pZ, ↓kc162_gF0, ↓kc162_gF1, ↓kc163_gd, ↓kc163_gI, ↓kc163_gM, ↓kc163_pI, ↓kc163_pM, ↓kc163_pZ, ↓kc163_gF0, ↓kc164_gd, ↓kc164_gI, ↓kc164_gM, ↓kc164_pI, ↓kc164_pM, ↓kc164_pZ, ↓kc164_gF0, ↓kc164_gF1, ↓kc164_gF2, ↓kc164_gF3, ↓kc165_al, ↓kc165_as, ↓kc165_ln, ↓kc166_al, ↓kc166_as, ↓kc166_ln, ↓kc167_al, ↓kc167_as, ↓kc167_ln, ↓kc168_al, ↓kc168_as, ↓kc168_ln, ↓kc169_gd, ↓kc169_gI, ↓kc169_gM, ↓kc169_pI, ↓kc169_pM, ↓kc169_pZ, ↓kc169_gF0, ↓kc169_gF2, ↓kc170_al, ↓kc170_as, ↓kc170_ln, ↓kc171_gd, ↓kc171_gI, ↓kc171_gM, ↓kc171_pI, ↓kc171_pM, ↓kc171_pZ, ↓kc171_gF5, ↓kc171_gF6, ↓kc171_gF7, ↓kc171_gF8, ↓kc172_al, ↓kc172_as, ↓kc172_ln, ↓kc173_al, ↓kc173_as, ↓kc173_ln, ↓kc174_al, ↓kc174_as, ↓kc174_ln, ↓kc175_al, ↓kc175_as, ↓kc175_ln, ↓kc176_al, ↓kc176_as, ↓kc176_ln, ↓kc177_al, ↓kc177_as, ↓kc177_ln, ↓qb_so, ↓nm_1, ↓nm_2, ↓reduceIte, if_true, if_false, not_true_eq_false, not_false_eq_true, and_true, true_and, and_false, false_and, or_true, true_or, or_false, false_or, eq_self, ne_eq, quI_s, quI_n, quI2, quL1, quL2, quL3, quR1, quR2, quR3, nI_add, pk_mul, pk_sub, Nat.add_sub_cancel, qm1_add, qm2_add, nI_leI, nI_ltI, nI_eq, nI_m1, nI_m1', nI_clamp, nI_bit, nI_one_shl, nI_m1l, nI_m1lt, nI_m1lt', nI_m1le', oI_some, oI_none, ni_0, ni_1, fX0_isDoneBehind_L20b, qle_t, qle_f, qlt_t, qlt_f, qeq_t, qeq_f, hr, ef', hf, e1, e2]
      · rcases o2 with o2 | o2
        · exact Or.inl (by omega)
        · exact Or.inr o2
    · refine ⟨S, 0, ?_, by omega, hv, hI, hz, qFr_refl, Or.inr (decide_eq_true hf)⟩
      simp (disch := (first | assumption | omega | exact hB _ _ | exact hYB _ _ | (simp only [yc, yd, sh, sv, ne_eq]; omega) | (simp (disch := omega) only [↓nm_1, ↓nm_2, nI_add, pk_mul, pk_sub, Nat.add_sub_cancel, qm1_add, qm2_add, nI_clamp, ni_0, ni_1, hr, ef', hf]; refine qin_nI ?_ ?_ <;> first | omega | exact hB _ _ | exact hYB _ _) | (refine qin_nI ?_ ?_ <;> omega) | fail)) only [↓yd0_gd hw, ↓yd0_gI hw, ↓yd0_gM hw, ↓yd0_pI hw, ↓yd0_pM hw, ↓yd0_pZ hw, ↓yd0_gF5 hw, ↓yd0_gF6 hw, ↓yd0_gF7 hw, ↓yd0_gF8 hw, ↓yd1_al hw, ↓yd1_as hw, ↓yd1_ln hw, ↓yd2_al hw, ↓yd2_as hw, ↓yd2_ln hw, ↓yd3_al hw, ↓yd3_as hw, ↓yd3_ln hw, ↓yd4_al hw, ↓yd4_as hw, ↓yd4_ln hw, ↓sh0_gd hw, ↓sh0_gI hw, ↓sh0_gM hw, ↓sh0_pI hw, ↓sh0_pM hw, ↓sh0_pZ hw, ↓sh0_gF0 hw, ↓sh0_gF1 hw, ↓sh0_gF2 hw, ↓sh0_gF3 hw, ↓sh1_al hw, ↓sh1_as hw, ↓sh1_ln hw, ↓sh2_al hw, ↓sh2_as hw, ↓sh2_ln hw, ↓sh3_al hw, ↓sh3_as hw, ↓sh3_ln hw, ↓kc0_gd, ↓kc0_gI, ↓kc0_gM, ↓kc0_pI, ↓kc0_pM, ↓kc0_pZ, ↓kc0_gF0, ↓kc0_gF4, ↓kc0_gF5, ↓kc0_gF6, ↓kc0_gF7, ↓kc0_gF8, ↓kc0_gF9, ↓kc0_gF10, ↓kc0_gF11, ↓kc0_gF12, ↓kc0_gF14, ↓kc1_al, ↓kc1_as, ↓kc1_ln, ↓kc41_gd, ↓kc41_gI, ↓kc41_gM, ↓kc41_pI, ↓kc41_pM, ↓kc41_pZ, ↓kc41_gF0, ↓kc41_gF1, ↓kc42_ql, ↓kc43_al, ↓kc43_as, ↓kc43_ln, ↓kc148_gd, ↓kc148_gI, ↓kc148_gM, ↓kc148_pI, ↓kc148_pM, ↓kc148_pZ, ↓kc148_gF0, ↓kc148_gF1, ↓kc148_gF2, ↓kc148_gF4, ↓kc148_gF5, ↓kc154_al, ↓kc154_as, ↓kc154_ln, ↓kc155_al, ↓kc155_as, ↓kc155_ln, ↓kc160_gd, ↓kc160_gI, ↓kc160_gM, ↓kc160_pI, ↓kc160_pM, ↓kc160_pZ, ↓kc160_gF0, ↓kc160_gF1, ↓kc161_al, ↓kc161_as, ↓kc161_ln, ↓kc162_gd, ↓kc162_gI, ↓kc162_gM, ↓kc162_pI, ↓kc162_pM, ↓kc162_pZ, ↓kc162_gF0, ↓kc162_gF1, ↓kc163_gd, ↓kc163_gI, ↓kc163_gM, ↓kc163_pI, ↓kc163_pM, ↓kc163_pZ, ↓kc163_gF0, ↓kc164_gd, ↓kc164_gI, ↓kc164_gM, ↓kc164_pI, ↓kc164_pM, ↓kc164_pZ, ↓kc164_gF0, ↓kc164_gF1, ↓kc164_gF2, ↓kc164_gF3, ↓kc165_al, ↓kc165_as, ↓kc165_ln, ↓kc166_al, ↓kc166_as, ↓kc166_ln, ↓kc167_al, ↓kc167_as, ↓kc167_ln, ↓kc168_al, ↓kc168_as, ↓kc168_ln, ↓kc169_gd, ↓kc169_gI, ↓kc169_gM, ↓kc169_pI, ↓kc169_pM, ↓kc169_pZ, ↓kc169_gF0, ↓kc169_gF2, ↓kc170_al, ↓kc170_as, ↓kc170_ln, ↓kc171_gd, ↓kc171_gI, ↓kc171_gM, ↓kc171_pI, ↓kc171_pM, ↓kc171_pZ, ↓kc171_gF5, ↓kc171_gF6, ↓kc171_gF7, ↓kc171_gF8, ↓kc172_al, ↓kc172_as, ↓kc172_ln, ↓kc173_al, ↓kc173_as, ↓kc173_ln, ↓kc174_al, ↓kc174_as, ↓kc174_ln, ↓kc175_al, ↓kc175_as, ↓kc175_ln, ↓kc176_al, ↓kc176_as, ↓kc176_ln, ↓kc177_al, ↓kc177_as, ↓kc177_ln, ↓qb_so, ↓nm_1, ↓nm_2, ↓reduceIte, if_true, if_false, not_true_eq_false, not_false_eq_true, and_true, true_and, and_false, false_and, or_true, true_or, or_false, false_or, eq_self, ne_eq, quI_s, quI_n, quI2, quL1, quL2, quL3, quR1, quR2, quR3, nI_add, pk_mul, pk_sub, Nat.add_sub_cancel, qm1_add, qm2_add, nI_leI, nI_ltI, nI_eq, nI_m1, nI_m1', nI_clamp, nI_bit, nI_one_shl, nI_m1l, nI_m1lt, nI_m1lt', nI_m1le', oI_some, oI_none, ni_0, ni_1, fX0_isDoneBehind_L20b, qle_t, qle_f, qlt_t, qlt_f, qeq_t, qeq_f, hr, ef', hf]
/-- some tools are held, too -/
def hld (D : Nat → Nat → Nat) (s : Nat) : Nat → Nat → Nat := dU (opn D) 0 3 (D 0 3 ||| s)
def s_dby (Y : Nat → Nat → Nat) (mc wc : List (Nat × Nat)) (D : Nat → Nat → Nat) (j m s : Nat) : Bool := s_fin Y (s_run Y mc wc (Y 3) (fun i => i) m (hld D s)) j
theorem hld_I (hY : yrOk Y) (h : dOk Y D) (h5 : ∀ j, D 5 j = 0) {s : Nat} (hs : s < 2 ^ Y 2 1) : rI Y (hld D s) ∧ dZ (hld D s) := by
  have o : dOk Y (opn D) := dOk_u (dOk_u h (dV_52 (by decide) (by omega))) (dV_53 (by decide) (by omega))
  have o2 : dOk Y (hld D s) := dOk_u o (dV_03 hY (Nat.or_lt_two_pow h.2.2.2.1 hs))
  refine ⟨⟨s_fresh_ok hY o2, dOk_B o2, ?_⟩, dOk_Z o2⟩
  show 0 ≤ _
  omega
theorem c_idb (hb : b < 2) (hn : 2000 ≤ n) (h : gC S b Y mc wc D P G) (hI : gI Y mc wc D P G) {m j s : Nat} (hj : j < Y 2 3) (hm : m ≤ 100) (h9 : D 0 0 + m ≤ 999) (hs : s < 2 ^ Y 2 1) :
    ∃ Z, fX0_isDoneBehind n 148 (nI j) (nI m) (nI s) S = some (nI (if s_dby Y mc wc D j m s = true then 1 else 0), Z) ∧ gC Z b Y mc wc D P G := by
  have hYB := yrOk_B hI.1
  have hB := dOk_B hI.2.2.1
  have h6 : Y 2 3 ≤ 6 := hI.1.1.2.2.2
  have hs31 : s < 2 ^ 31 := s_lt31 hI.1.1.2.1 hs
  have hw : (1 : Nat) < 2 := by decide
  obtain ⟨Z1, e1, v1, f1⟩ := c_restart hb hn h hI
  obtain ⟨o1, o2⟩ := hld_I hI.1 hI.2.2.1 hI.2.2.2.1 hs
  have hr : Z1.2.2 148 3 = yc b 0 := by rw [f1.2.2 _ _ (by unfold aM sh; omega)]; exact h.2.1.2.2
  obtain ⟨u, u', hu, hu', hcw⟩ := v1
  have w2 := cW_0 (j := 3) (v := D 0 3 ||| s) hb (by decide) (by decide) hcw
  have ec : dU (dU (dU (opn D) 5 0 u) 5 1 u') 0 3 (D 0 3 ||| s) = dU (dU (hld D s) 5 0 u) 5 1 u' := by
    funext c i
    unfold hld dU
    by_cases h0 : c = 0
    · subst h0; simp
    · simp [h0]
  rw [ec] at w2
  have ed : Z1.1 (yd 1 0) 3 = nI (D 0 3) := hcw.2.2.2.2.1.1 3 (by decide)
  have f2 : qFn b Z1 (xuI Z1 (yd 1 0) 3 (nI (D 0 3 ||| s))) := ⟨fun k hk => quI1f (fun e => hk (by rw [e]; unfold aP yd; omega)), rfl, fun _ _ _ => rfl⟩
  obtain ⟨Z, k, e2, hk, v3, I3, z3, f3, hx⟩ := c_idbL (n := n) hb hI.1 hI.2.1 (Y3_lt hI.1) hn id_row hm hj m 0 n (hld D s) (xuI Z1 (yd 1 0) 3 (nI (D 0 3 ||| s))) (by omega) (by omega) ⟨u, u', hu, hu', w2⟩ o1 o2 (by exact h9) hr
  have gz := gC_run hb (qFn_trans f1 (qFn_trans f2 (qFn_d f3))) v3 z3 h
  refine ⟨Z, ?_, gz⟩
  have hzr : Z.2.2 148 3 = yc b 0 := gz.2.1.2.2
  obtain ⟨x, x', hx1, hx2, hcz⟩ := v3
  have ef := c_fin (j := j) (w := 1) hb (by decide) hcz.1 hcz.2.2.2.2.1 hYB (dU_B (dU_B I3.2.1 hx1) hx2) (by omega)
  have ef' : fX8_isFinished (yd 1 0) (nI j) (yc b 0) Z = some (nI (if s_run Y mc wc (Y 3) (fun i => i) k (hld D s) 3 j < Y 9 j then 0 else 1)) := ef
  have eq : s_dby Y mc wc D j m s = s_fin Y (s_run Y mc wc (Y 3) (fun i => i) k (hld D s)) j := s_fin_add hk hx
  rw [eq]
  unfold s_fin
  have z0 : (nI 0 = 0 ∨ nI 0 = 1) = True := eq_true (Or.inl rfl)
  have z1 : (nI 1 = 0 ∨ nI 1 = 1) = True := eq_true (Or.inr rfl)
  by_cases hf : s_run Y mc wc (Y 3) (fun i => i) k (hld D s) 3 j < Y 9 j
  · simp (disch := (first | assumption | omega | exact hB _ _ | exact hYB _ _ | (simp only [yc, yd, sh, sv, ne_eq]; omega) | (simp (disch := omega) only [↓nm_1, ↓nm_2, nI_add, pk_mul, pk_sub, Nat.add_sub_cancel, qm1_add, qm2_add, nI_clamp, ni_0, ni_1, e1, ed, nI_or, e2, hzr, ef', hf, not_true_eq_false, decide_false, Bool.false_eq_true]; refine qin_nI ?_ ?_ <;> first | omega | exact hB _ _ | exact hYB _ _) | (refine qin_nI ?_ ?_ <;> omega) | fail)) only [↓yd0_gd hw, ↓yd0_gI hw, ↓yd0_gM hw, ↓yd0_pI hw, ↓yd0_pM hw, ↓yd0_pZ hw, ↓yd0_gF5 hw, ↓yd0_gF6 hw, ↓yd0_gF7 hw, ↓yd0_gF8 hw, ↓yd1_al hw, ↓yd1_as hw, ↓yd1_ln hw, ↓yd2_al hw, ↓yd2_as hw, ↓yd2_ln hw, ↓yd3_al hw, ↓yd3_as hw, ↓yd3_ln hw, ↓yd4_al hw, ↓yd4_as hw, ↓yd4_ln hw, ↓sh0_gd hw, ↓sh0_gI hw, ↓sh0_gM hw, ↓sh0_pI hw, ↓sh0_pM hw, ↓sh0_pZ hw, ↓sh0_gF0 hw, ↓sh0_gF1 hw, ↓sh0_gF2 hw, ↓sh0_gF3 hw, ↓sh1_al hw, ↓sh1_as hw, ↓sh1_ln hw, ↓sh2_al hw, ↓sh2_as hw, ↓sh2_ln hw, ↓sh3_al hw, ↓sh3_as hw, ↓sh3_ln hw, ↓kc0_gd, ↓kc0_gI, ↓kc0_gM, ↓kc0_pI, ↓kc0_pM, ↓kc0_pZ, ↓kc0_gF0, ↓kc0_gF4, ↓kc0_gF5, ↓kc0_gF6, ↓kc0_gF7, ↓kc0_gF8, ↓kc0_gF9, ↓kc0_gF10, ↓kc0_gF11, ↓kc0_gF12, ↓kc0_gF14, ↓kc1_al, ↓kc1_as, ↓kc1_ln, ↓kc41_gd, ↓kc41_gI, ↓kc41_gM, ↓kc41_pI, ↓kc41_pM, ↓kc41_pZ, ↓kc41_gF0, ↓kc41_gF1, ↓kc42_ql, ↓kc43_al, ↓kc43_as, ↓kc43_ln, ↓kc148_gd, ↓kc148_gI, ↓kc148_gM, ↓kc148_pI, ↓kc148_pM, ↓kc148_pZ, ↓kc148_gF0, ↓kc148_gF1, ↓kc148_gF2, ↓kc148_gF4, ↓kc148_gF5, ↓kc154_al, ↓kc154_as, ↓kc154_ln, ↓kc155_al, ↓kc155_as, ↓kc155_ln, ↓kc160_gd, ↓kc160_gI, ↓kc160_gM, ↓kc160_pI, ↓kc160_pM, ↓kc160_pZ, ↓kc160_gF0, ↓kc160_gF1, ↓kc161_al, ↓kc161_as, ↓kc161_ln, ↓kc162_gd, ↓kc162_gI, ↓kc162_gM, ↓kc162_pI, ↓kc162_pM, ↓kc162_pZ, ↓kc162_gF0, ↓kc162_gF1, ↓kc163_gd, ↓kc163_gI, ↓kc163_gM, ↓kc163_pI, ↓kc163_pM, ↓kc163_pZ, ↓kc163_gF0, ↓kc164_gd, ↓kc164_gI, ↓kc164_gM, ↓kc164_pI, ↓kc164_pM, ↓kc164_pZ, ↓kc164_gF0, ↓kc164_gF1, ↓kc164_gF2, ↓kc164_gF3, ↓kc165_al, ↓kc165_as, ↓kc165_ln, ↓kc166_al, ↓kc166_as, ↓kc166_ln, ↓kc167_al, ↓kc167_as, ↓kc167_ln, ↓kc168_al, ↓kc168_as, ↓kc168_ln, ↓kc169_gd, ↓kc169_gI, ↓kc169_gM, ↓kc169_pI, ↓kc169_pM, ↓kc169_pZ, ↓kc169_gF0, ↓kc169_gF2, ↓kc170_al, ↓kc170_as, ↓kc170_ln, ↓kc171_gd, ↓kc171_gI, ↓kc171_gM, ↓kc171_pI, ↓kc171_pM, ↓kc171_pZ, ↓kc171_gF5, ↓kc171_gF6, ↓kc171_gF7, ↓kc171_gF8, ↓kc172_al, ↓kc172_as, ↓kc172_ln, ↓kc173_al, ↓kc173_as, ↓kc173_ln, ↓kc174_al, ↓kc174_as, ↓kc174_ln, ↓kc175_al, ↓kc175_as, ↓kc175_ln, ↓kc176_al, ↓kc176_as, ↓kc176_ln, ↓kc177_al, ↓kc177_as, ↓kc177_ln, ↓qb_so, ↓nm_1, ↓nm_2, ↓reduceIte, if_true, if_false, not_true_eq_false, not_false_eq_true, and_true, true_and, and_false, false_and, or_true, true_or, or_false, false_or, eq_self, ne_eq, quI_s, quI_n, quI2, quL1, quL2, quL3, quR1, quR2, quR3, nI_add, pk_mul, pk_sub, Nat.add_sub_cancel, qm1_add, qm2_add, nI_leI, nI_ltI, nI_eq, nI_m1, nI_m1', nI_clamp, nI_bit, nI_one_shl, nI_m1l, nI_m1lt, nI_m1lt', nI_m1le', oI_some, oI_none, ni_0, ni_1, fX0_isDoneBehind, qle_t, qle_f, qlt_t, qlt_f, qeq_t, qeq_f, e1, ed, nI_or, e2, hzr, ef', hf, not_true_eq_false, decide_false, Bool.false_eq_true]
  · simp (disch := (first | assumption | omega | exact hB _ _ | exact hYB _ _ | (simp only [yc, yd, sh, sv, ne_eq]; omega) | (simp (disch := omega) only [↓nm_1, ↓nm_2, nI_add, pk_mul, pk_sub, Nat.add_sub_cancel, qm1_add, qm2_add, nI_clamp, ni_0, ni_1, e1, ed, nI_or, e2, hzr, ef', hf, not_false_eq_true, decide_true, Nat.one_ne_zero]; refine qin_nI ?_ ?_ <;> first | omega | exact hB _ _ | exact hYB _ _) | (refine qin_nI ?_ ?_ <;> omega) | fail)) only [↓yd0_gd hw, ↓yd0_gI hw, ↓yd0_gM hw, ↓yd0_pI hw, ↓yd0_pM hw, ↓yd0_pZ hw, ↓yd0_gF5 hw, ↓yd0_gF6 hw, ↓yd0_gF7 hw, ↓yd0_gF8 hw, ↓yd1_al hw, ↓yd1_as hw, ↓yd1_ln hw, ↓yd2_al hw, ↓yd2_as hw, ↓yd2_ln hw, ↓yd3_al hw, ↓yd3_as hw, ↓yd3_ln hw, ↓yd4_al hw, ↓yd4_as hw, ↓yd4_ln hw, ↓sh0_gd hw, ↓sh0_gI hw, ↓sh0_gM hw, ↓sh0_pI hw, ↓sh0_pM hw, ↓sh0_pZ hw, ↓sh0_gF0 hw, ↓sh0_gF1 hw, ↓sh0_gF2 hw, ↓sh0_gF3 hw, ↓sh1_al hw, ↓sh1_as hw, ↓sh1_ln hw, ↓sh2_al hw, ↓sh2_as hw, ↓sh2_ln hw, ↓sh3_al hw, ↓sh3_as hw, ↓sh3_ln hw, ↓kc0_gd, ↓kc0_gI, ↓kc0_gM, ↓kc0_pI, ↓kc0_pM, ↓kc0_pZ, ↓kc0_gF0, ↓kc0_gF4, ↓kc0_gF5, ↓kc0_gF6, ↓kc0_gF7, ↓kc0_gF8, ↓kc0_gF9, ↓kc0_gF10, ↓kc0_gF11, ↓kc0_gF12, ↓kc0_gF14, ↓kc1_al, ↓kc1_as, ↓kc1_ln, ↓kc41_gd, ↓kc41_gI, ↓kc41_gM, ↓kc41_pI, ↓kc41_pM, ↓kc41_pZ, ↓kc41_gF0, ↓kc41_gF1, ↓kc42_ql, ↓kc43_al, ↓kc43_as, ↓kc43_ln, ↓kc148_gd, ↓kc148_gI, ↓kc148_gM, ↓kc148_pI, ↓kc148_pM, ↓kc148_pZ, ↓kc148_gF0, ↓kc148_gF1, ↓kc148_gF2, ↓kc148_gF4, ↓kc148_gF5, ↓kc154_al, ↓kc154_as, ↓kc154_ln, ↓kc155_al, ↓kc155_as, ↓kc155_ln, ↓kc160_gd, ↓kc160_gI, ↓kc160_gM, ↓kc160_pI, ↓kc160_pM, ↓kc160_pZ, ↓kc160_gF0, ↓kc160_gF1, ↓kc161_al, ↓kc161_as, ↓kc161_ln, ↓kc162_gd, ↓kc162_gI, ↓kc162_gM, ↓kc162_pI, ↓kc162_pM, ↓kc162_pZ, ↓kc162_gF0, ↓kc162_gF1, ↓kc163_gd, ↓kc163_gI, ↓kc163_gM, ↓kc163_pI, ↓kc163_pM, ↓kc163_pZ, ↓kc163_gF0, ↓kc164_gd, ↓kc164_gI, ↓kc164_gM, ↓kc164_pI, ↓kc164_pM, ↓kc164_pZ, ↓kc164_gF0, ↓kc164_gF1, ↓kc164_gF2, ↓kc164_gF3, ↓kc165_al, ↓kc165_as, ↓kc165_ln, ↓kc166_al, ↓kc166_as, ↓kc166_ln, ↓kc167_al, ↓kc167_as, ↓kc167_ln, ↓kc168_al, ↓kc168_as, ↓kc168_ln, ↓kc169_gd, ↓kc169_gI, ↓kc169_gM, ↓kc169_pI, ↓kc169_pM, ↓kc169_pZ, ↓kc169_gF0, ↓kc169_gF2, ↓kc170_al, ↓kc170_as, ↓kc170_ln, ↓kc171_gd, ↓kc171_gI, ↓kc171_gM, ↓kc171_pI, ↓kc171_pM, ↓kc171_pZ, ↓kc171_gF5, ↓kc171_gF6, ↓kc171_gF7, ↓kc171_gF8, ↓kc172_al, ↓kc172_as, ↓kc172_ln, ↓kc173_al, ↓kc173_as, ↓kc173_ln, ↓kc174_al, ↓kc174_as, ↓kc174_ln, ↓kc175_al, ↓kc175_as, ↓kc175_ln, ↓kc176_al, ↓kc176_as, ↓kc176_ln, ↓kc177_al, ↓kc177_as, ↓kc177_ln, ↓qb_so, ↓nm_1, ↓nm_2, ↓reduceIte, if_true, if_false, not_true_eq_false, not_false_eq_true, and_true, true_and, and_false, false_and, or_true, true_or, or_false, false_or, eq_self, ne_eq, quI_s, quI_n, quI2, quL1, quL2, quL3, quR1, quR2, quR3, nI_add, pk_mul, pk_sub, Nat.add_sub_cancel, qm1_add, qm2_add, nI_leI, nI_ltI, nI_eq, nI_m1, nI_m1', nI_clamp, nI_bit, nI_one_shl, nI_m1l, nI_m1lt, nI_m1lt', nI_m1le', oI_some, oI_none, ni_0, ni_1, fX0_isDoneBehind, qle_t, qle_f, qlt_t, qlt_f, qeq_t, qeq_f, e1, ed, nI_or, e2, hzr, ef', hf, not_false_eq_true, decide_true, Nat.one_ne_zero]
end Q43

