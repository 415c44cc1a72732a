/-! ===== on: what the class reads ===== -/
def s_mn (m x : Nat) : Nat := if m < x then m else x
def s_two (G : Nat → Nat → Nat) (a : Nat) : Nat := 2 ^ 8 * G 0 a + G 0 (a + 1)
def s_btL (f : Nat → Nat) : Nat → Nat → Nat → Nat
  | 0, _, u => u
  | k + 1, t, u => s_btL f k (t + 1) (u ||| s_mn 1 (f t) * 2 ^ t)
/-- the class reads: where it is, whether it is sound, what it has told -/
def rdC (S : xSt) (G : Nat → Nat → Nat) (a s : Nat) (U : Nat → Nat → Nat) : Prop := S.1 169 3 = nI a ∧ S.1 169 4 = nI s ∧ s ≤ 1 ∧ (∀ i, S.1 1 i = nI (G 0 i)) ∧ (∀ j, j < 5 → S.1 171 j = nI (U 0 j)) ∧ ∀ c j, 1 ≤ c → c ≤ 4 → S.1 (171 + c) j = nI (U c j)
def frO (S Z : xSt) : Prop := (∀ k j, ¬ ((k = 169 ∧ (j = 3 ∨ j = 4)) ∨ (171 ≤ k ∧ k ≤ 175)) → Z.1 k j = S.1 k j) ∧ Z.2 = S.2
def tOK (G : Nat → Nat → Nat) (t : Nat) : Prop := G 0 (4 + 3 * t) ≤ 100 ∧ G 0 (4 + 3 * t + 1) ≤ 1 ∧ G 0 (4 + 3 * t + 2) ≤ 1
section Q66
variable {S T Z V : xSt} {b n a s : Nat} {Y D E U : Nat → Nat → Nat} {mc wc : List (Nat × Nat)} {R row : Nat → Nat} {P : Nat → Nat → Nat → Nat} {G G' : Nat → Nat → Nat}
theorem frO_refl : frO S S := ⟨fun _ _ _ => rfl, rfl⟩
theorem frO_trans (h1 : frO S Z) (h2 : frO Z V) : frO S V := ⟨fun k j hk => (h2.1 k j hk).trans (h1.1 k j hk), h2.2.trans h1.2⟩
theorem s_mn_le {m x : Nat} : s_mn m x ≤ m := by unfold s_mn; split <;> omega
theorem s_mn_eq {m x : Nat} (h : x ≤ m) : s_mn m x = x := by unfold s_mn; rw [if_neg (by omega)]
theorem rd_up (h : rdC S G a s U) {c j x : Nat} (hc : c ≤ 4) : rdC (xuI S (171 + c) j (nI x)) G a s (dU U c j x) := by
  obtain ⟨h1, h2, h3, h4, h5, h6⟩ := h
  refine ⟨by rw [quI_n (by omega)]; exact h1, by rw [quI_n (by omega)]; exact h2, h3, fun i => by rw [quI_n (by omega)]; exact h4 i, fun i hi => ?_, fun c' i hc1 hc2 => ?_⟩
  · by_cases e : (0 = c) ∧ i = j
    · obtain ⟨rfl, rfl⟩ := e; rw [quI_e, dU_s]
    · rw [quI_k (by omega), h5 i hi]
      rcases dU_cases (D := U) (c := c) (j := j) (v := x) (c' := 0) (j' := i) with ⟨_, a1, a2⟩ | ⟨e', _⟩
      · exact absurd ⟨a1, a2⟩ e
      · rw [e']
  · by_cases e : c' = c ∧ i = j
    · obtain ⟨rfl, rfl⟩ := e; rw [quI_e, dU_s]
    · rw [quI_k (by omega), h6 c' i hc1 hc2]
      rcases dU_cases (D := U) (c := c) (j := j) (v := x) (c' := c') (j' := i) with ⟨_, a1, a2⟩ | ⟨e', _⟩
      · exact absurd ⟨a1, a2⟩ e
      · rw [e']
theorem frO_up {c j x : Nat} (hc : c ≤ 4) : frO S (xuI S (171 + c) j (nI x)) := ⟨fun k j' hk => quI_n (by omega), rfl⟩
theorem pZ169 {v : Nat} {f : xSt → Option (Int32 × xSt)} (hv : v ≤ 1) : (xpZ tC 4 4 169 (nI v) S).bind f = f (xuI S 169 4 (nI v)) := by
  refine qb_pZ rfl ?_
  rcases (by omega : v = 0 ∨ v = 1) with rfl | rfl
  · exact Or.inl rfl
  · exact Or.inr rfl
theorem c_bnd (h : rdC S G a s U) {x m : Nat} (hx : x < 2 ^ 31) (hm : m < 2 ^ 31) : ∃ Z s', fX4_bounded 169 (nI x) (nI m) S = some (nI (s_mn m x), Z) ∧ rdC Z G a s' U ∧ frO S Z ∧ (s' = 1 ↔ s = 1 ∧ x ≤ m) := by
  obtain ⟨h1, h2, h3, h4, h5, h6⟩ := h
  have fin : ∀ v, v ≤ 1 → rdC (xuI S 169 4 (nI v)) G a v U ∧ frO S (xuI S 169 4 (nI v)) := fun v hv => ⟨⟨by rw [quI_k (by omega)]; exact h1, quI_e, hv, fun i => by rw [quI_n (by omega)]; exact h4 i, fun i hi => by rw [quI_n (by omega)]; exact h5 i hi, fun c i hc1 hc2 => by rw [quI_n (by omega)]; exact h6 c i hc1 hc2⟩, fun k j hk => quI_k (by omega), rfl⟩
  rcases (by omega : s = 0 ∨ s = 1) with rfl | rfl
  · obtain ⟨f1, f2⟩ := fin 0 (by decide)
    refine ⟨_, 0, ?_, f1, f2, by omega⟩
    simp (disch := (first | assumption | omega | exact hB _ _ | exact hYB _ _ | (simp only [yc, yd, sh, sv, ne_eq]; omega) | (simp (disch := omega) only [↓nm_1, ↓nm_2, nI_add, pk_mul, pk_sub, Nat.add_sub_cancel, qm1_add, qm2_add, nI_clamp, ni_0, ni_1, h2, nI_ite, pZ169]; refine qin_nI ?_ ?_ <;> first | omega | exact hB _ _ | exact hYB _ _) | (refine qin_nI ?_ ?_ <;> omega) | fail)) only [↓kc0_gd, ↓kc0_gI, ↓kc0_gM, ↓kc0_pI, ↓kc0_pM, ↓kc0_pZ, ↓kc0_gF0, ↓kc0_gF4, ↓kc0_gF5, ↓kc0_gF6, ↓kc0_gF7, ↓kc0_gF8, ↓kc0_gF9, ↓kc0_gF10, ↓kc0_gF11, ↓kc0_gF12, ↓kc0_gF14, ↓kc1_al, ↓kc1_as, ↓kc1_ln, ↓kc41_gd, ↓kc41_gI, ↓kc41_gM, ↓kc41_pI, ↓kc41_pM, ↓kc41_pZ, ↓kc41_gF0, ↓kc41_gF1, ↓kc42_ql, ↓kc43_al, ↓kc43_as, ↓kc43_ln, ↓kc148_gd, ↓kc148_gI, ↓kc148_gM, ↓kc148_pI, ↓kc148_pM, ↓kc148_pZ, ↓kc148_gF0, ↓kc148_gF1, ↓kc148_gF2, ↓kc148_gF4, ↓kc148_gF5, ↓kc154_al, ↓kc154_as, ↓kc154_ln, ↓kc155_al, ↓kc155_as, ↓kc155_ln, ↓kc160_gd, ↓kc160_gI, ↓kc160_gM, ↓kc160_pI, ↓kc160_pM, ↓kc160_pZ, ↓kc160_gF0, ↓kc160_gF1, ↓kc161_al, ↓kc161_as, ↓kc161_ln, ↓kc162_gd, ↓kc162_gI, ↓kc162_gM, ↓kc162_pI, ↓kc162_pM, ↓kc162_pZ, ↓kc162_gF0, ↓kc162_gF1, ↓kc163_gd, ↓kc163_gI, ↓kc163_gM, ↓kc163_pI, ↓kc163_pM, ↓kc163_pZ, ↓kc163_gF0, ↓kc164_gd, ↓kc164_gI, ↓kc164_gM, ↓kc164_pI, ↓kc164_pM, ↓kc164_pZ, ↓kc164_gF0, ↓kc164_gF1, ↓kc164_gF2, ↓kc164_gF3, ↓kc165_al, ↓kc165_as, ↓kc165_ln, ↓kc166_al, ↓kc166_as, ↓kc166_ln, ↓kc167_al, ↓kc167_as, ↓kc167_ln, ↓kc168_al, ↓kc168_as, ↓kc168_ln, ↓kc169_gd, ↓kc169_gI, ↓kc169_gM, ↓kc169_pI, ↓kc169_pM, ↓kc169_pZ, ↓kc169_gF0, ↓kc169_gF2, ↓kc170_al, ↓kc170_as, ↓kc170_ln, ↓kc171_gd, ↓kc171_gI, ↓kc171_gM, ↓kc171_pI, ↓kc171_pM, ↓kc171_pZ, ↓kc171_gF5, ↓kc171_gF6, ↓kc171_gF7, ↓kc171_gF8, ↓kc172_al, ↓kc172_as, ↓kc172_ln, ↓kc173_al, ↓kc173_as, ↓kc173_ln, ↓kc174_al, ↓kc174_as, ↓kc174_ln, ↓kc175_al, ↓kc175_as, ↓kc175_ln, ↓kc176_al, ↓kc176_as, ↓kc176_ln, ↓kc177_al, ↓kc177_as, ↓kc177_ln, ↓qb_so, ↓nm_1, ↓nm_2, ↓reduceIte, if_true, if_false, not_true_eq_false, not_false_eq_true, and_true, true_and, and_false, false_and, or_true, true_or, or_false, false_or, eq_self, ne_eq, quI_s, quI_n, quI2, quL1, quL2, quL3, quR1, quR2, quR3, nI_add, pk_mul, pk_sub, Nat.add_sub_cancel, qm1_add, qm2_add, nI_leI, nI_ltI, nI_eq, nI_m1, nI_m1', nI_clamp, nI_bit, nI_one_shl, nI_m1l, nI_m1lt, nI_m1lt', nI_m1le', oI_some, oI_none, ni_0, ni_1, fX4_bounded, qle_t, qle_f, qlt_t, qlt_f, qeq_t, qeq_f, h2, nI_ite, pZ169]
    rfl
  · by_cases hxm : m < x
    · obtain ⟨f1, f2⟩ := fin 0 (by decide)
      refine ⟨_, 0, ?_, f1, f2, by omega⟩
      unfold s_mn
      simp (disch := (first | assumption | omega | exact hB _ _ | exact hYB _ _ | (simp only [yc, yd, sh, sv, ne_eq]; omega) | (simp (disch := omega) only [↓nm_1, ↓nm_2, nI_add, pk_mul, pk_sub, Nat.add_sub_cancel, qm1_add, qm2_add, nI_clamp, ni_0, ni_1, h2, hxm, pZ169]; refine qin_nI ?_ ?_ <;> first | omega | exact hB _ _ | exact hYB _ _) | (refine qin_nI ?_ ?_ <;> omega) | fail)) only [↓kc0_gd, ↓kc0_gI, ↓kc0_gM, ↓kc0_pI, ↓kc0_pM, ↓kc0_pZ, ↓kc0_gF0, ↓kc0_gF4, ↓kc0_gF5, ↓kc0_gF6, ↓kc0_gF7, ↓kc0_gF8, ↓kc0_gF9, ↓kc0_gF10, ↓kc0_gF11, ↓kc0_gF12, ↓kc0_gF14, ↓kc1_al, ↓kc1_as, ↓kc1_ln, ↓kc41_gd, ↓kc41_gI, ↓kc41_gM, ↓kc41_pI, ↓kc41_pM, ↓kc41_pZ, ↓kc41_gF0, ↓kc41_gF1, ↓kc42_ql, ↓kc43_al, ↓kc43_as, ↓kc43_ln, ↓kc148_gd, ↓kc148_gI, ↓kc148_gM, ↓kc148_pI, ↓kc148_pM, ↓kc148_pZ, ↓kc148_gF0, ↓kc148_gF1, ↓kc148_gF2, ↓kc148_gF4, ↓kc148_gF5, ↓kc154_al, ↓kc154_as, ↓kc154_ln, ↓kc155_al, ↓kc155_as, ↓kc155_ln, ↓kc160_gd, ↓kc160_gI, ↓kc160_gM, ↓kc160_pI, ↓kc160_pM, ↓kc160_pZ, ↓kc160_gF0, ↓kc160_gF1, ↓kc161_al, ↓kc161_as, ↓kc161_ln, ↓kc162_gd, ↓kc162_gI, ↓kc162_gM, ↓kc162_pI, ↓kc162_pM, ↓kc162_pZ, ↓kc162_gF0, ↓kc162_gF1, ↓kc163_gd, ↓kc163_gI, ↓kc163_gM, ↓kc163_pI, ↓kc163_pM, ↓kc163_pZ, ↓kc163_gF0, ↓kc164_gd, ↓kc164_gI, ↓kc164_gM, ↓kc164_pI, ↓kc164_pM, ↓kc164_pZ, ↓kc164_gF0, ↓kc164_gF1, ↓kc164_gF2, ↓kc164_gF3, ↓kc165_al, ↓kc165_as, ↓kc165_ln, ↓kc166_al, ↓kc166_as, ↓kc166_ln, ↓kc167_al, ↓kc167_as, ↓kc167_ln, ↓kc168_al, ↓kc168_as, ↓kc168_ln, ↓kc169_gd, ↓kc169_gI, ↓kc169_gM, ↓kc169_pI, ↓kc169_pM, ↓kc169_pZ, ↓kc169_gF0, ↓kc169_gF2, ↓kc170_al, ↓kc170_as, ↓kc170_ln, ↓kc171_gd, ↓kc171_gI, ↓kc171_gM, ↓kc171_pI, ↓kc171_pM, ↓kc171_pZ, ↓kc171_gF5, ↓kc171_gF6, ↓kc171_gF7, ↓kc171_gF8, ↓kc172_al, ↓kc172_as, ↓kc172_ln, ↓kc173_al, ↓kc173_as, ↓kc173_ln, ↓kc174_al, ↓kc174_as, ↓kc174_ln, ↓kc175_al, ↓kc175_as, ↓kc175_ln, ↓kc176_al, ↓kc176_as, ↓kc176_ln, ↓kc177_al, ↓kc177_as, ↓kc177_ln, ↓qb_so, ↓nm_1, ↓nm_2, ↓reduceIte, if_true, if_false, not_true_eq_false, not_false_eq_true, and_true, true_and, and_false, false_and, or_true, true_or, or_false, false_or, eq_self, ne_eq, quI_s, quI_n, quI2, quL1, quL2, quL3, quR1, quR2, quR3, nI_add, pk_mul, pk_sub, Nat.add_sub_cancel, qm1_add, qm2_add, nI_leI, nI_ltI, nI_eq, nI_m1, nI_m1', nI_clamp, nI_bit, nI_one_shl, nI_m1l, nI_m1lt, nI_m1lt', nI_m1le', oI_some, oI_none, ni_0, ni_1, fX4_bounded, qle_t, qle_f, qlt_t, qlt_f, qeq_t, qeq_f, h2, hxm, pZ169]
    · obtain ⟨f1, f2⟩ := fin 1 (by decide)
      refine ⟨_, 1, ?_, f1, f2, by omega⟩
      unfold s_mn
      simp (disch := (first | assumption | omega | exact hB _ _ | exact hYB _ _ | (simp only [yc, yd, sh, sv, ne_eq]; omega) | (simp (disch := omega) only [↓nm_1, ↓nm_2, nI_add, pk_mul, pk_sub, Nat.add_sub_cancel, qm1_add, qm2_add, nI_clamp, ni_0, ni_1, h2, hxm, pZ169]; refine qin_nI ?_ ?_ <;> first | omega | exact hB _ _ | exact hYB _ _) | (refine qin_nI ?_ ?_ <;> omega) | fail)) only [↓kc0_gd, ↓kc0_gI, ↓kc0_gM, ↓kc0_pI, ↓kc0_pM, ↓kc0_pZ, ↓kc0_gF0, ↓kc0_gF4, ↓kc0_gF5, ↓kc0_gF6, ↓kc0_gF7, ↓kc0_gF8, ↓kc0_gF9, ↓kc0_gF10, ↓kc0_gF11, ↓kc0_gF12, ↓kc0_gF14, ↓kc1_al, ↓kc1_as, ↓kc1_ln, ↓kc41_gd, ↓kc41_gI, ↓kc41_gM, ↓kc41_pI, ↓kc41_pM, ↓kc41_pZ, ↓kc41_gF0, ↓kc41_gF1, ↓kc42_ql, ↓kc43_al, ↓kc43_as, ↓kc43_ln, ↓kc148_gd, ↓kc148_gI, ↓kc148_gM, ↓kc148_pI, ↓kc148_pM, ↓kc148_pZ, ↓kc148_gF0, ↓kc148_gF1, ↓kc148_gF2, ↓kc148_gF4, ↓kc148_gF5, ↓kc154_al, ↓kc154_as, ↓kc154_ln, ↓kc155_al, ↓kc155_as, ↓kc155_ln, ↓kc160_gd, ↓kc160_gI, ↓kc160_gM, ↓kc160_pI, ↓kc160_pM, ↓kc160_pZ, ↓kc160_gF0, ↓kc160_gF1, ↓kc161_al, ↓kc161_as, ↓kc161_ln, ↓kc162_gd, ↓kc162_gI, ↓kc162_gM, ↓kc162_pI, ↓kc162_pM, ↓kc162_pZ, ↓kc162_gF0, ↓kc162_gF1, ↓kc163_gd, ↓kc163_gI, ↓kc163_gM, ↓kc163_pI, ↓kc163_pM, ↓kc163_pZ, ↓kc163_gF0, ↓kc164_gd, ↓kc164_gI, ↓kc164_gM, ↓kc164_pI, ↓kc164_pM, ↓kc164_pZ, ↓kc164_gF0, ↓kc164_gF1, ↓kc164_gF2, ↓kc164_gF3, ↓kc165_al, ↓kc165_as, ↓kc165_ln, ↓kc166_al, ↓kc166_as, ↓kc166_ln, ↓kc167_al, ↓kc167_as, ↓kc167_ln, ↓kc168_al, ↓kc168_as, ↓kc168_ln, ↓kc169_gd, ↓kc169_gI, ↓kc169_gM, ↓kc169_pI, ↓kc169_pM, ↓kc169_pZ, ↓kc169_gF0, ↓kc169_gF2, ↓kc170_al, ↓kc170_as, ↓kc170_ln, ↓kc171_gd, ↓kc171_gI, ↓kc171_gM, ↓kc171_pI, ↓kc171_pM, ↓kc171_pZ, ↓kc171_gF5, ↓kc171_gF6, ↓kc171_gF7, ↓kc171_gF8, ↓kc172_al, ↓kc172_as, ↓kc172_ln, ↓kc173_al, ↓kc173_as, ↓kc173_ln, ↓kc174_al, ↓kc174_as, ↓kc174_ln, ↓kc175_al, ↓kc175_as, ↓kc175_ln, ↓kc176_al, ↓kc176_as, ↓kc176_ln, ↓kc177_al, ↓kc177_as, ↓kc177_ln, ↓qb_so, ↓nm_1, ↓nm_2, ↓reduceIte, if_true, if_false, not_true_eq_false, not_false_eq_true, and_true, true_and, and_false, false_and, or_true, true_or, or_false, false_or, eq_self, ne_eq, quI_s, quI_n, quI2, quL1, quL2, quL3, quR1, quR2, quR3, nI_add, pk_mul, pk_sub, Nat.add_sub_cancel, qm1_add, qm2_add, nI_leI, nI_ltI, nI_eq, nI_m1, nI_m1', nI_clamp, nI_bit, nI_one_shl, nI_m1l, nI_m1lt, nI_m1lt', nI_m1le', oI_some, oI_none, ni_0, ni_1, fX4_bounded, qle_t, qle_f, qlt_t, qlt_f, qeq_t, qeq_f, h2, hxm, pZ169]
theorem c_tk (h : rdC S G a s U) (hG : ∀ i, G 0 i < 256) (ha : a < 1600) {m : Nat} (hm : m < 2 ^ 31) : ∃ Z s', fX4_take 169 1 (nI m) S = some (nI (s_mn m (G 0 a)), Z) ∧ rdC Z G (a + 1) s' U ∧ frO S Z ∧ (s' = 1 ↔ s = 1 ∧ G 0 a ≤ m) := by
  have g1 := hG a
  have h' : rdC (xuI S 169 3 (nI (a + 1))) G (a + 1) s U := by
    obtain ⟨h1, h2, h3, h4, h5, h6⟩ := h
    exact ⟨quI_e, by rw [quI_k (by omega)]; exact h2, h3, fun i => by rw [quI_n (by omega)]; exact h4 i, fun i hi => by rw [quI_n (by omega)]; exact h5 i hi, fun c i hc1 hc2 => by rw [quI_n (by omega)]; exact h6 c i hc1 hc2⟩
  obtain ⟨Z, s', e, hr, hf, hs⟩ := c_bnd h' (x := G 0 a) (by omega) hm
  have h1 := h.1
  have h4 := h.2.2.2.1
  refine ⟨Z, s', ?_, hr, frO_trans ⟨fun k j hk => quI_k (by omega), rfl⟩ hf, hs⟩
  simp (disch := (first | assumption | omega | exact hB _ _ | exact hYB _ _ | (simp only [yc, yd, sh, sv, ne_eq]; omega) | (simp (disch := omega) only [↓nm_1, ↓nm_2, nI_add, pk_mul, pk_sub, Nat.add_sub_cancel, qm1_add, qm2_add, nI_clamp, ni_0, ni_1, h1, h4, e]; refine qin_nI ?_ ?_ <;> first | omega | exact hB _ _ | exact hYB _ _) | (refine qin_nI ?_ ?_ <;> omega) | fail)) only [↓kc0_gd, ↓kc0_gI, ↓kc0_gM, ↓kc0_pI, ↓kc0_pM, ↓kc0_pZ, ↓kc0_gF0, ↓kc0_gF4, ↓kc0_gF5, ↓kc0_gF6, ↓kc0_gF7, ↓kc0_gF8, ↓kc0_gF9, ↓kc0_gF10, ↓kc0_gF11, ↓kc0_gF12, ↓kc0_gF14, ↓kc1_al, ↓kc1_as, ↓kc1_ln, ↓kc41_gd, ↓kc41_gI, ↓kc41_gM, ↓kc41_pI, ↓kc41_pM, ↓kc41_pZ, ↓kc41_gF0, ↓kc41_gF1, ↓kc42_ql, ↓kc43_al, ↓kc43_as, ↓kc43_ln, ↓kc148_gd, ↓kc148_gI, ↓kc148_gM, ↓kc148_pI, ↓kc148_pM, ↓kc148_pZ, ↓kc148_gF0, ↓kc148_gF1, ↓kc148_gF2, ↓kc148_gF4, ↓kc148_gF5, ↓kc154_al, ↓kc154_as, ↓kc154_ln, ↓kc155_al, ↓kc155_as, ↓kc155_ln, ↓kc160_gd, ↓kc160_gI, ↓kc160_gM, ↓kc160_pI, ↓kc160_pM, ↓kc160_pZ, ↓kc160_gF0, ↓kc160_gF1, ↓kc161_al, ↓kc161_as, ↓kc161_ln, ↓kc162_gd, ↓kc162_gI, ↓kc162_gM, ↓kc162_pI, ↓kc162_pM, ↓kc162_pZ, ↓kc162_gF0, ↓kc162_gF1, ↓kc163_gd, ↓kc163_gI, ↓kc163_gM, ↓kc163_pI, ↓kc163_pM, ↓kc163_pZ, ↓kc163_gF0, ↓kc164_gd, ↓kc164_gI, ↓kc164_gM, ↓kc164_pI, ↓kc164_pM, ↓kc164_pZ, ↓kc164_gF0, ↓kc164_gF1, ↓kc164_gF2, ↓kc164_gF3, ↓kc165_al, ↓kc165_as, ↓kc165_ln, ↓kc166_al, ↓kc166_as, ↓kc166_ln, ↓kc167_al, ↓kc167_as, ↓kc167_ln, ↓kc168_al, ↓kc168_as, ↓kc168_ln, ↓kc169_gd, ↓kc169_gI, ↓kc169_gM, ↓kc169_pI, ↓kc169_pM, ↓kc169_pZ, ↓kc169_gF0, ↓kc169_gF2, ↓kc170_al, ↓kc170_as, ↓kc170_ln, ↓kc171_gd, ↓kc171_gI, ↓kc171_gM, ↓kc171_pI, ↓kc171_pM, ↓kc171_pZ, ↓kc171_gF5, ↓kc171_gF6, ↓kc171_gF7, ↓kc171_gF8, ↓kc172_al, ↓kc172_as, ↓kc172_ln, ↓kc173_al, ↓kc173_as, ↓kc173_ln, ↓kc174_al, ↓kc174_as, ↓kc174_ln, ↓kc175_al, ↓kc175_as, ↓kc175_ln, ↓kc176_al, ↓kc176_as, ↓kc176_ln, ↓kc177_al, ↓kc177_as, ↓kc177_ln, ↓qb_so, ↓nm_1, ↓nm_2, ↓reduceIte, if_true, if_false, not_true_eq_false, not_false_eq_true, and_true, true_and, and_false, false_and, or_true, true_or, or_false, false_or, eq_self, ne_eq, quI_s, quI_n, quI2, quL1, quL2, quL3, quR1, quR2, quR3, nI_add, pk_mul, pk_sub, Nat.add_sub_cancel, qm1_add, qm2_add, nI_leI, nI_ltI, nI_eq, nI_m1, nI_m1', nI_clamp, nI_bit, nI_one_shl, nI_m1l, nI_m1lt, nI_m1lt', nI_m1le', oI_some, oI_none, ni_0, ni_1, fX4_take, qle_t, qle_f, qlt_t, qlt_f, qeq_t, qeq_f, h1, h4, e]
theorem nI_two {x y : Nat} (hx : x < 256) (hy : y < 256) : (nI x <<< (nI 8 &&& 31)) ||| nI y = nI (2 ^ 8 * x + y) := by
  rw [nI_shl (by decide) (by omega), nI_or (by omega) (by omega), Nat.two_pow_add_eq_or_of_lt (i := 8) hy x, Nat.mul_comm]
theorem s_two_lt (hG : ∀ i, G 0 i < 256) : s_two G a < 65536 := by
  have h1 := hG a
  have h2 := hG (a + 1)
  unfold s_two
  omega
theorem c_tk2 (h : rdC S G a s U) (hG : ∀ i, G 0 i < 256) (ha : a + 1 < 1600) {m : Nat} (hm : m < 2 ^ 31) : ∃ Z s', fX4_takeTwo 169 1 (nI m) S = some (nI (s_mn m (s_two G a)), Z) ∧ rdC Z G (a + 2) s' U ∧ frO S Z ∧ (s' = 1 ↔ s = 1 ∧ s_two G a ≤ m) := by
  have g1 := hG a
  have g2 := hG (a + 1)
  obtain ⟨Z1, s1, e1, r1, f1, q1⟩ := c_tk h hG (by omega) (m := 255) (by decide)
  obtain ⟨Z2, s2, e2, r2, f2, q2⟩ := c_tk r1 hG (by omega) (m := 255) (by decide)
  rw [s_mn_eq (by omega)] at e1 e2
  have hl := s_two_lt (a := a) hG
  obtain ⟨Z3, s3, e3, r3, f3, q3⟩ := c_bnd r2 (x := s_two G a) (by omega) hm
  have e4 := nI_two g1 g2
  have e3' : fX4_bounded 169 (nI (2 ^ 8 * G 0 a + G 0 (a + 1))) (nI m) Z2 = some (nI (s_mn m (s_two G a)), Z3) := e3
  refine ⟨Z3, s3, ?_, r3, frO_trans f1 (frO_trans f2 f3), ?_⟩
  · simp (disch := (first | assumption | omega | exact hB _ _ | exact hYB _ _ | (simp only [yc, yd, sh, sv, ne_eq]; omega) | (simp (disch := omega) only [↓nm_1, ↓nm_2, nI_add, pk_mul, pk_sub, Nat.add_sub_cancel, qm1_add, qm2_add, nI_clamp, ni_0, ni_1, ni_8, ni_255, e1, e2, e4, e3']; refine qin_nI ?_ ?_ <;> first | omega | exact hB _ _ | exact hYB _ _) | (refine qin_nI ?_ ?_ <;> omega) | fail)) only [↓kc0_gd, ↓kc0_gI, ↓kc0_gM, ↓kc0_pI, ↓kc0_pM, ↓kc0_pZ, ↓kc0_gF0, ↓kc0_gF4, ↓kc0_gF5, ↓kc0_gF6, ↓kc0_gF7, ↓kc0_gF8, ↓kc0_gF9, ↓kc0_gF10, ↓kc0_gF11, ↓kc0_gF12, ↓kc0_gF14, ↓kc1_al, ↓kc1_as, ↓kc1_ln, ↓kc41_gd, ↓kc41_gI, ↓kc41_gM, ↓kc41_pI, ↓kc41_pM, ↓kc41_pZ, ↓kc41_gF0, ↓kc41_gF1, ↓kc42_ql, ↓kc43_al, ↓kc43_as, ↓kc43_ln, ↓kc148_gd, ↓kc148_gI, ↓kc148_gM, ↓kc148_pI, ↓kc148_pM, ↓kc148_pZ, ↓kc148_gF0, ↓kc148_gF1, ↓kc148_gF2, ↓kc148_gF4, ↓kc148_gF5, ↓kc154_al, ↓kc154_as, ↓kc154_ln, ↓kc155_al, ↓kc155_as, ↓kc155_ln, ↓kc160_gd, ↓kc160_gI, ↓kc160_gM, ↓kc160_pI, ↓kc160_pM, ↓kc160_pZ, ↓kc160_gF0, ↓kc160_gF1, ↓kc161_al, ↓kc161_as, ↓kc161_ln, ↓kc162_gd, ↓kc162_gI, ↓kc162_gM, ↓kc162_pI, ↓kc162_pM, ↓kc162_pZ, ↓kc162_gF0, ↓kc162_gF1, ↓kc163_gd, ↓kc163_gI, ↓kc163_gM, ↓kc163_pI, ↓kc163_pM, ↓kc163_pZ, ↓kc163_gF0, ↓kc164_gd, ↓kc164_gI, ↓kc164_gM, ↓kc164_pI, ↓kc164_pM, ↓kc164_pZ, ↓kc164_gF0, ↓kc164_gF1, ↓kc164_gF2, ↓kc164_gF3, ↓kc165_al, ↓kc165_as, ↓kc165_ln, ↓kc166_al, ↓kc166_as, ↓kc166_ln, ↓kc167_al, ↓kc167_as, ↓kc167_ln, ↓kc168_al, ↓kc168_as, ↓kc168_ln, ↓kc169_gd, ↓kc169_gI, ↓kc169_gM, ↓kc169_pI, ↓kc169_pM, ↓kc169_pZ, ↓kc169_gF0, ↓kc169_gF2, ↓kc170_al, ↓kc170_as, ↓kc170_ln, ↓kc171_gd, ↓kc171_gI, ↓kc171_gM, ↓kc171_pI, ↓kc171_pM, ↓kc171_pZ, ↓kc171_gF5, ↓kc171_gF6, ↓kc171_gF7, ↓kc171_gF8, ↓kc172_al, ↓kc172_as, ↓kc172_ln, ↓kc173_al, ↓kc173_as, ↓kc173_ln, ↓kc174_al, ↓kc174_as, ↓kc174_ln, ↓kc175_al, ↓kc175_as, ↓kc175_ln, ↓kc176_al, ↓kc176_as, ↓kc176_ln, ↓kc177_al, ↓kc177_as, ↓kc177_ln, ↓qb_so, ↓nm_1, ↓nm_2, ↓reduceIte, if_true, if_false, not_true_eq_false, not_false_eq_true, and_true, true_and, and_false, false_and, or_true, true_or, or_false, false_or, eq_self, ne_eq, quI_s, quI_n, quI2, quL1, quL2, quL3, quR1, quR2, quR3, nI_add, pk_mul, pk_sub, Nat.add_sub_cancel, qm1_add, qm2_add, nI_leI, nI_ltI, nI_eq, nI_m1, nI_m1', nI_clamp, nI_bit, nI_one_shl, nI_m1l, nI_m1lt, nI_m1lt', nI_m1le', oI_some, oI_none, ni_0, ni_1, ni_8, ni_255, fX4_takeTwo, qle_t, qle_f, qlt_t, qlt_f, qeq_t, qeq_f, e1, e2, e4, e3']
  · rw [q3, q2, q1]
    constructor
    · intro hh; exact ⟨hh.1.1.1, hh.2⟩
    · intro hh; exact ⟨⟨⟨hh.1, by omega⟩, by omega⟩, hh.2⟩
theorem cY_frO (hb : b < 2) (hf : frO S Z) (h : cY S b Y mc wc) : cY Z b Y mc wc := by
  have e : ∀ c, c ≤ 16 → Z.1 (yc b c) = S.1 (yc b c) := fun c hc => funext fun j => hf.1 _ j (by unfold yc; omega)
  obtain ⟨h1, h2, h3, h4, h5, h6, h7, h8⟩ := h
  refine ⟨fun c j hc => by rw [e c (by omega)]; exact h1 c j hc, fun j => by rw [e 14 (by decide)]; exact h2 j, h3, h4, h5, h6, by rw [e 15 (by decide)]; exact h7, by rw [e 15 (by decide)]; exact h8⟩
theorem s_btL_lt {f : Nat → Nat} : ∀ (k t u : Nat), u < 2 ^ t → s_btL f k t u < 2 ^ (t + k)
  | 0, t, u, h => h
  | k + 1, t, u, h => by
    have h1 : s_mn 1 (f t) * 2 ^ t < 2 ^ (t + 1) := by
      have := s_mn_le (m := 1) (x := f t)
      have h2 : s_mn 1 (f t) * 2 ^ t ≤ 1 * 2 ^ t := Nat.mul_le_mul_right _ this
      rw [Nat.pow_succ]
      have := Nat.two_pow_pos t
      omega
    have h2 : u < 2 ^ (t + 1) := by rw [Nat.pow_succ]; omega
    have := s_btL_lt (f := f) k (t + 1) _ (Nat.or_lt_two_pow h2 h1)
    unfold s_btL
    rw [show t + (k + 1) = t + 1 + k by omega]
    exact this
theorem c_rdT (hb : b < 2) (hG : ∀ i, G 0 i < 256) (h8 : Y 2 1 ≤ 8) : ∀ (k t q s : Nat) (S : xSt) (U : Nat → Nat → Nat), t + k = Y 2 1 → k < q → rdC S G (4 + 3 * t) s U → cY S b Y mc wc → U 0 2 < 2 ^ t → U 0 3 < 2 ^ t →
    ∃ Z s' U', fX4_read_L98 n 169 (yc b 0) 1 q (nI t) S = some Z ∧ rdC Z G (4 + 3 * Y 2 1) s' U' ∧ frO S Z ∧ (s' = 1 ↔ s = 1 ∧ ∀ x, t ≤ x → x < Y 2 1 → tOK G x) ∧ U' 0 2 = s_btL (fun x => G 0 (4 + 3 * x + 1)) k t (U 0 2) ∧ U' 0 3 = s_btL (fun x => G 0 (4 + 3 * x + 2)) k t (U 0 3) ∧ (∀ j, U' 1 j = if t ≤ j ∧ j < Y 2 1 then s_mn 100 (G 0 (4 + 3 * j)) else U 1 j) ∧ ∀ c j, c ≠ 1 → ¬ (c = 0 ∧ (j = 2 ∨ j = 3)) → U' c j = U c j
  | 0, t, q, s, S, U, hk, hq, h, hy, hu2, hu3 => by
    obtain ⟨q, rfl⟩ : ∃ q', q = q' + 1 := ⟨q - 1, by omega⟩
    have e1 := c_count (s := 1) hb hy (by decide)
    refine ⟨S, s, U, ?_, by rw [← hk]; exact h, frO_refl, ⟨fun hs => ⟨hs, fun x h1 h2 => by omega⟩, fun hs => hs.1⟩, rfl, rfl, fun j => by rw [if_neg (by omega)], fun _ _ _ _ => rfl⟩
    show fX4_read_L98b _ _ _ _ _ _ _ = _
    simp (disch := (first | assumption | omega | exact hB _ _ | exact hYB _ _ | (simp only [yc, yd, sh, sv, ne_eq]; omega) | (simp (disch := omega) only [↓nm_1, ↓nm_2, nI_add, pk_mul, pk_sub, Nat.add_sub_cancel, qm1_add, qm2_add, nI_clamp, ni_0, ni_1, ni_100, e1]; refine qin_nI ?_ ?_ <;> first | omega | exact hB _ _ | exact hYB _ _) | (refine qin_nI ?_ ?_ <;> omega) | fail)) only [↓kc0_gd, ↓kc0_gI, ↓kc0_gM, ↓kc0_pI, ↓kc0_pM, ↓kc0_pZ, ↓kc0_gF0, ↓kc0_gF4, ↓kc0_gF5, ↓kc0_gF6, ↓kc0_gF7, ↓kc0_gF8, ↓kc0_gF9, ↓kc0_gF10, ↓kc0_gF11, ↓kc0_gF12, ↓kc0_gF14, ↓kc1_al, ↓kc1_as, ↓kc1_ln, ↓kc41_gd, ↓kc41_gI, ↓kc41_gM, ↓kc41_pI, ↓kc41_pM, ↓kc41_pZ, ↓kc41_gF0, ↓kc41_gF1, ↓kc42_ql, ↓kc43_al, ↓kc43_as, ↓kc43_ln, ↓kc148_gd, ↓kc148_gI, ↓kc148_gM, ↓kc148_pI, ↓kc148_pM, ↓kc148_pZ, ↓kc148_gF0, ↓kc148_gF1, ↓kc148_gF2, ↓kc148_gF4, ↓kc148_gF5, ↓kc154_al, ↓kc154_as, ↓kc154_ln, ↓kc155_al, ↓kc155_as, ↓kc155_ln, ↓kc160_gd, ↓kc160_gI, ↓kc160_gM, ↓kc160_pI, ↓kc160_pM, ↓kc160_pZ, ↓kc160_gF0, ↓kc160_gF1, ↓kc161_al, ↓kc161_as, ↓kc161_ln, ↓kc162_gd, ↓kc162_gI, ↓kc162_gM, ↓kc162_pI, ↓kc162_pM, ↓kc162_pZ, ↓kc162_gF0, ↓kc162_gF1, ↓kc163_gd, ↓kc163_gI, ↓kc163_gM, ↓kc163_pI, ↓kc163_pM, ↓kc163_pZ, ↓kc163_gF0, ↓kc164_gd, ↓kc164_gI, ↓kc164_gM, ↓kc164_pI, ↓kc164_pM, ↓kc164_pZ, ↓kc164_gF0, ↓kc164_gF1, ↓kc164_gF2, ↓kc164_gF3, ↓kc165_al, ↓kc165_as, ↓kc165_ln, ↓kc166_al, ↓kc166_as, ↓kc166_ln, ↓kc167_al, ↓kc167_as, ↓kc167_ln, ↓kc168_al, ↓kc168_as, ↓kc168_ln, ↓kc169_gd, ↓kc169_gI, ↓kc169_gM, ↓kc169_pI, ↓kc169_pM, ↓kc169_pZ, ↓kc169_gF0, ↓kc169_gF2, ↓kc170_al, ↓kc170_as, ↓kc170_ln, ↓kc171_gd, ↓kc171_gI, ↓kc171_gM, ↓kc171_pI, ↓kc171_pM, ↓kc171_pZ, ↓kc171_gF5, ↓kc171_gF6, ↓kc171_gF7, ↓kc171_gF8, ↓kc172_al, ↓kc172_as, ↓kc172_ln, ↓kc173_al, ↓kc173_as, ↓kc173_ln, ↓kc174_al, ↓kc174_as, ↓kc174_ln, ↓kc175_al, ↓kc175_as, ↓kc175_ln, ↓kc176_al, ↓kc176_as, ↓kc176_ln, ↓kc177_al, ↓kc177_as, ↓kc177_ln, ↓qb_so, ↓nm_1, ↓nm_2, ↓reduceIte, if_true, if_false, not_true_eq_false, not_false_eq_true, and_true, true_and, and_false, false_and, or_true, true_or, or_false, false_or, eq_self, ne_eq, quI_s, quI_n, quI2, quL1, quL2, quL3, quR1, quR2, quR3, nI_add, pk_mul, pk_sub, Nat.add_sub_cancel, qm1_add, qm2_add, nI_leI, nI_ltI, nI_eq, nI_m1, nI_m1', nI_clamp, nI_bit, nI_one_shl, nI_m1l, nI_m1lt, nI_m1lt', nI_m1le', oI_some, oI_none, ni_0, ni_1, ni_100, fX4_read_L98b, qle_t, qle_f, qlt_t, qlt_f, qeq_t, qeq_f, e1]
  | k + 1, t, q, s, S, U, hk, hq, h, hy, hu2, hu3 => by
    obtain ⟨q, rfl⟩ : ∃ q', q = q' + 1 := ⟨q - 1, by omega⟩
    have ht : t < 8 := by omega
    have p8 : 2 ^ t ≤ 2 ^ 8 := Nat.pow_le_pow_right (by decide) (by omega)
    have e1 := c_count (s := 1) hb hy (by decide)
    obtain ⟨Z1, s1, t1, r1, f1, q1⟩ := c_tk h hG (by omega) (m := 100) (by decide)
    have r1' := rd_up r1 (c := 1) (j := t) (x := s_mn 100 (G 0 (4 + 3 * t))) (by decide)
    obtain ⟨Z2, s2, t2, r2, f2, q2⟩ := c_tk r1' hG (by omega) (m := 1) (by decide)
    have m1 := s_mn_le (m := 1) (x := G 0 (4 + 3 * t + 1))
    have m2 := s_mn_le (m := 1) (x := G 0 (4 + 3 * t + 2))
    have w1 : s_mn 1 (G 0 (4 + 3 * t + 1)) * 2 ^ t ≤ 1 * 2 ^ t := Nat.mul_le_mul_right _ m1
    have w2 : s_mn 1 (G 0 (4 + 3 * t + 2)) * 2 ^ t ≤ 1 * 2 ^ t := Nat.mul_le_mul_right _ m2
    have r2' := rd_up r2 (c := 0) (j := 2) (x := U 0 2 ||| s_mn 1 (G 0 (4 + 3 * t + 1)) * 2 ^ t) (by decide)
    obtain ⟨Z3, s3, t3, r3, f3, q3⟩ := c_tk r2' hG (by omega) (m := 1) (by decide)
    have r3' := rd_up r3 (c := 0) (j := 3) (x := U 0 3 ||| s_mn 1 (G 0 (4 + 3 * t + 2)) * 2 ^ t) (by decide)
    have x1 : s_mn 1 (G 0 (4 + 3 * t + 1)) * 2 ^ t < 2 ^ (t + 1) := by rw [Nat.pow_succ]; have := Nat.two_pow_pos t; omega
    have x2 : s_mn 1 (G 0 (4 + 3 * t + 2)) * 2 ^ t < 2 ^ (t + 1) := by rw [Nat.pow_succ]; have := Nat.two_pow_pos t; omega
    have y1 : U 0 2 < 2 ^ (t + 1) := by rw [Nat.pow_succ]; omega
    have y2 : U 0 3 < 2 ^ (t + 1) := by rw [Nat.pow_succ]; omega
    have fr : frO S (xuI Z3 (171 + 0) 3 (nI (U 0 3 ||| s_mn 1 (G 0 (4 + 3 * t + 2)) * 2 ^ t))) := frO_trans f1 (frO_trans (frO_up (by decide)) (frO_trans f2 (frO_trans (frO_up (by decide)) (frO_trans f3 (frO_up (by decide))))))
    obtain ⟨Z, s', U', e4, r4, f4, q4, b2, b3, v1, v2⟩ := c_rdT hb hG h8 k (t + 1) q s3 _ _ (by omega) (by omega) (show rdC _ G (4 + 3 * (t + 1)) s3 _ from r3') (cY_frO hb fr hy) (by rw [dU_j (by decide), dU_s]; exact Nat.or_lt_two_pow y1 x1) (by rw [dU_s]; exact Nat.or_lt_two_pow y2 x2)
    have o1 := nI_shl (u := s_mn 1 (G 0 (4 + 3 * t + 1))) (t := t) (by omega) (by omega)
    have o2 := nI_shl (u := s_mn 1 (G 0 (4 + 3 * t + 2))) (t := t) (by omega) (by omega)
    have o3 := nI_or (a := U 0 2) (b := s_mn 1 (G 0 (4 + 3 * t + 1)) * 2 ^ t) (by omega) (by omega)
    have o4 := nI_or (a := U 0 3) (b := s_mn 1 (G 0 (4 + 3 * t + 2)) * 2 ^ t) (by omega) (by omega)
    have z2 : Z1.1 171 2 = nI (U 0 2) := r1.2.2.2.2.1 2 (by decide)
    have z3 : Z2.1 171 3 = nI (U 0 3) := by rw [r2.2.2.2.2.1 3 (by decide), dU_c (by decide)]
    refine ⟨Z, s', U', ?_, r4, frO_trans fr f4, ?_, ?_, ?_, fun j => ?_, fun c j h1 h2 => ?_⟩
    · show fX4_read_L98b _ _ _ _ _ _ _ = _
      simp (disch := (first | assumption | omega | exact hB _ _ | exact hYB _ _ | (simp only [yc, yd, sh, sv, ne_eq]; omega) | (simp (disch := omega) only [↓nm_1, ↓nm_2, nI_add, pk_mul, pk_sub, Nat.add_sub_cancel, qm1_add, qm2_add, nI_clamp, ni_0, ni_1, ni_100, e1, t1, z2, t2, o1, o3, z3, t3, o2, o4, e4]; refine qin_nI ?_ ?_ <;> first | omega | exact hB _ _ | exact hYB _ _) | (refine qin_nI ?_ ?_ <;> omega) | fail)) only [↓kc0_gd, ↓kc0_gI, ↓kc0_gM, ↓kc0_pI, ↓kc0_pM, ↓kc0_pZ, ↓kc0_gF0, ↓kc0_gF4, ↓kc0_gF5, ↓kc0_gF6, ↓kc0_gF7, ↓kc0_gF8, ↓kc0_gF9, ↓kc0_gF10, ↓kc0_gF11, ↓kc0_gF12, ↓kc0_gF14, ↓kc1_al, ↓kc1_as, ↓kc1_ln, ↓kc41_gd, ↓kc41_gI, ↓kc41_gM, ↓kc41_pI, ↓kc41_pM, ↓kc41_pZ, ↓kc41_gF0, ↓kc41_gF1, ↓kc42_ql, ↓kc43_al, ↓kc43_as, ↓kc43_ln, ↓kc148_gd, ↓kc148_gI, ↓kc148_gM, ↓kc148_pI, ↓kc148_pM, ↓kc148_pZ, ↓kc148_gF0, ↓kc148_gF1, ↓kc148_gF2, ↓kc148_gF4, ↓kc148_gF5, ↓kc154_al, ↓kc154_as, ↓kc154_ln, ↓kc155_al, ↓kc155_as, ↓kc155_ln, ↓kc160_gd, ↓kc160_gI, ↓kc160_gM, ↓kc160_pI, ↓kc160_pM, ↓kc160_pZ, ↓kc160_gF0, ↓kc160_gF1, ↓kc161_al, ↓kc161_as, ↓kc161_ln, ↓kc162_gd, ↓kc162_gI, ↓kc162_gM, ↓kc162_pI, ↓kc162_pM, ↓kc162_pZ, ↓kc162_gF0, ↓kc162_gF1, ↓kc163_gd, ↓kc163_gI, ↓kc163_gM, ↓kc163_pI, ↓kc163_pM, ↓kc163_pZ, ↓kc163_gF0, ↓kc164_gd, ↓kc164_gI, ↓kc164_gM, ↓kc164_pI, ↓kc164_pM, ↓kc164_pZ, ↓kc164_gF0, ↓kc164_gF1, ↓kc164_gF2, ↓kc164_gF3, ↓kc165_al, ↓kc165_as, ↓kc165_ln, ↓kc166_al, ↓kc166_as, ↓kc166_ln, ↓kc167_al, ↓kc167_as, ↓kc167_ln, ↓kc168_al, ↓kc168_as, ↓kc168_ln, ↓kc169_gd, ↓kc169_gI, ↓kc169_gM, ↓kc169_pI, ↓kc169_pM, ↓kc169_pZ, ↓kc169_gF0, ↓kc169_gF2, ↓kc170_al, ↓kc170_as, ↓kc170_ln, ↓kc171_gd, ↓kc171_gI, ↓kc171_gM, ↓kc171_pI, ↓kc171_pM, ↓kc171_pZ, ↓kc171_gF5, ↓kc171_gF6, ↓kc171_gF7, ↓kc171_gF8, ↓kc172_al, ↓kc172_as, ↓kc172_ln, ↓kc173_al, ↓kc173_as, ↓kc173_ln, ↓kc174_al, ↓kc174_as, ↓kc174_ln, ↓kc175_al, ↓kc175_as, ↓kc175_ln, ↓kc176_al, ↓kc176_as, ↓kc176_ln, ↓kc177_al, ↓kc177_as, ↓kc177_ln, ↓qb_so, ↓nm_1, ↓nm_2, ↓reduceIte, if_true, if_false, not_true_eq_false, not_false_eq_true, and_true, true_and, and_false, false_and, or_true, true_or, or_false, false_or, eq_self, ne_eq, quI_s, quI_n, quI2, quL1, quL2, quL3, quR1, quR2, quR3, nI_add, pk_mul, pk_sub, Nat.add_sub_cancel, qm1_add, qm2_add, nI_leI, nI_ltI, nI_eq, nI_m1, nI_m1', nI_clamp, nI_bit, nI_one_shl, nI_m1l, nI_m1lt, nI_m1lt', nI_m1le', oI_some, oI_none, ni_0, ni_1, ni_100, fX4_read_L98b, qle_t, qle_f, qlt_t, qlt_f, qeq_t, qeq_f, e1, t1, z2, t2, o1, o3, z3, t3, o2, o4, e4]
    · rw [q4, q3, q2, q1]
      constructor
      · rintro ⟨⟨⟨⟨a1, a2⟩, a3⟩, a4⟩, a5⟩
        refine ⟨a1, fun x hx1 hx2 => ?_⟩
        by_cases hx : x = t
        · rw [hx]; exact ⟨a2, a3, a4⟩
        · exact a5 x (by omega) hx2
      · rintro ⟨a1, a2⟩
        obtain ⟨c1, c2, c3⟩ := a2 t (Nat.le_refl _) (by omega)
        exact ⟨⟨⟨⟨a1, c1⟩, c2⟩, c3⟩, fun x hx1 hx2 => a2 x (by omega) hx2⟩
    · rw [b2, dU_j (by decide), dU_s]; rfl
    · rw [b3, dU_s]; rfl
    · rw [v1]
      by_cases hj : t + 1 ≤ j ∧ j < Y 2 1
      · rw [if_pos hj, if_pos ⟨by omega, hj.2⟩]
      · rw [if_neg hj, dU_c (by decide), dU_c (by decide), dU_r]
        by_cases hx : j = t
        · rw [if_pos hx, if_pos ⟨by omega, by omega⟩, hx]
        · rw [if_neg hx, if_neg (by omega)]
    · rw [v2 c j h1 h2]
      by_cases h0 : c = 0
      · subst h0; rw [dU_j (by omega), dU_j (by omega), dU_c (by decide)]
      · rw [dU_c h0, dU_c h0, dU_c h1]
end Q66

