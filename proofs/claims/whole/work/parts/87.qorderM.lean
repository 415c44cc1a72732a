/-! ===== order: the reference ===== -/
def s_orD (m : Nat) : Nat → Nat → Nat → Nat
  | 0, _, s => s
  | k + 1, w, s => s_orD m k (w / m) (s ||| 2 ^ (w % m))
def wQ (k j : Nat) : Prop := mQ 1 k j ∨ vQ k j ∨ k = 47
def oW (S0 S : xSt) : Prop := mFq wQ S0 S ∧ mU S ∧ S.1 0 69 = qm1 ∧ S.1 0 71 = nI 1
def s_ws (m w k : Nat) : List (List Nat) := ((List.range' w k).map (s_dig m m)).filter (s_isR m)
section Q87
variable {S0 S Z V T : xSt} {b n m : Nat} {Y D E : Nat → Nat → Nat} {mc wc : List (Nat × Nat)} {R row row' : Nat → Nat} {P : Nat → Nat → Nat → Nat} {G : Nat → Nat → Nat} {l : List Nat}
theorem s_orD_bit : ∀ (k w s x : Nat), (s_orD m k w s).testBit x = (s.testBit x || decide (x ∈ s_dig m k w))
  | 0, w, s, x => by unfold s_orD s_dig; simp
  | k + 1, w, s, x => by
    unfold s_orD s_dig
    rw [s_orD_bit k, Nat.testBit_or, Nat.testBit_two_pow]
    simp only [List.mem_append, List.mem_singleton]
    by_cases h1 : x ∈ s_dig m k (w / m)
    · simp [h1]
    · by_cases h2 : w % m = x
      · subst h2; simp [h1]
      · have h3 : ¬ x = w % m := fun e => h2 e.symm
        simp [h1, h2, h3]
theorem s_orD_lt (hm : 0 < m) : ∀ (k w s : Nat), s < 2 ^ m → s_orD m k w s < 2 ^ m
  | 0, w, s, h => h
  | k + 1, w, s, h => s_orD_lt hm k (w / m) _ (Nat.or_lt_two_pow h (Nat.pow_lt_pow_right (by decide) (Nat.mod_lt _ hm)))
theorem s_dig_lt (hm : 0 < m) : ∀ (k w x : Nat), x ∈ s_dig m k w → x < m
  | 0, w, x, h => by cases h
  | k + 1, w, x, h => by
    unfold s_dig at h
    rw [List.mem_append, List.mem_singleton] at h
    rcases h with h | h
    · exact s_dig_lt hm k _ x h
    · rw [h]; exact Nat.mod_lt _ hm
theorem s_isR_iff (hm : 0 < m) {w : Nat} : s_orD m m w 0 = 2 ^ m - 1 ↔ s_isR m (s_dig m m w) = true := by
  unfold s_isR
  rw [List.all_eq_true]
  constructor
  · intro h x hx
    rw [List.mem_range] at hx
    have := s_orD_bit (m := m) m w 0 x
    rw [h, Nat.testBit_two_pow_sub_one] at this
    simp [hx] at this
    simp [this]
  · intro h
    apply Nat.eq_of_testBit_eq
    intro x
    rw [s_orD_bit, Nat.testBit_two_pow_sub_one, Nat.zero_testBit, Bool.false_or]
    by_cases hx : x < m
    · have := h x (List.mem_range.mpr hx)
      simp at this
      simp [this, hx]
    · have : ¬ x ∈ s_dig m m w := fun hh => hx (s_dig_lt hm m w x hh)
      simp [this, hx]
theorem s_rw_lt (hm : 0 < m) {w x : Nat} (hx : x < m) : s_rw (s_dig m m w) x < m := by
  unfold s_rw
  have hl := s_dig_len (m := m) m w
  rw [List.getD_eq_getElem?_getD, List.getElem?_eq_getElem (by omega)]
  exact s_dig_lt hm m w _ (List.getElem_mem _)
theorem m_rowL (hb : b < 2) (hY : yrOk Y) (hm0 : 0 < Y 2 3) : ∀ (k w s q : Nat) (S : xSt), k ≤ Y 2 3 → k < q → w < 2 ^ 31 → s < 2 ^ Y 2 3 → mY S b Y mc wc →
    ∃ Z, fX12_isRow_L17 n 0 q (nI w) (nI s) (ixD k) S = some (nI (s_orD (Y 2 3) k w s), Z) ∧ (∀ x, x < k → Z.1 46 x = nI ((s_dig (Y 2 3) k w).getD x 0)) ∧ (∀ x, k ≤ x → Z.1 46 x = S.1 46 x) ∧ mFq (fun k j => k = 46) S Z
  | 0, w, s, q, S, hk, hq, hw, hs, hm => by
    obtain ⟨q, rfl⟩ : ∃ q', q = q' + 1 := ⟨q - 1, by omega⟩
    have e : (qm1 < nI 0) = True := by decide
    refine ⟨S, ?_, fun x hx => by omega, fun _ _ => rfl, mFq_refl⟩
    show fX12_isRow_L17b _ _ _ _ _ qm1 _ = some (nI s, S)
    simp (disch := (first | assumption | omega | exact hB _ _ | exact hYB _ _ | (simp only [yc, yd, sh, sv, ne_eq]; omega) | (simp (disch := omega) only [↓nm_1, ↓nm_2, nI_add, pk_mul, pk_sub, Nat.add_sub_cancel, qm1_add, qm2_add, nI_clamp, ni_0, ni_1, e]; refine qin_nI ?_ ?_ <;> first | omega | exact hB _ _ | exact hYB _ _) | (refine qin_nI ?_ ?_ <;> omega) | fail)) only [↓km0_gd, ↓km0_gI, ↓km0_gM, ↓km0_pI, ↓km0_pM, ↓km0_pZ, ↓km0_gL, ↓km0_pL, ↓km0_gF22, ↓km0_gF72, ↓km10_al, ↓km10_as, ↓km10_ln, ↓km46_al, ↓km46_as, ↓km46_ln, ↓qb_so, ↓nm_1, ↓nm_2, ↓reduceIte, if_true, if_false, not_true_eq_false, not_false_eq_true, and_true, true_and, and_false, false_and, or_true, true_or, or_false, false_or, eq_self, ne_eq, quI_s, quI_n, quI2, quL1, quL2, quL3, quR1, quR2, quR3, nI_add, pk_mul, pk_sub, Nat.add_sub_cancel, qm1_add, qm2_add, nI_leI, nI_ltI, nI_eq, nI_m1, nI_m1', nI_clamp, nI_bit, nI_one_shl, nI_m1l, nI_m1lt, nI_m1lt', nI_m1le', oI_some, oI_none, ni_0, ni_1, fX12_isRow_L17b, qle_t, qle_f, qlt_t, qlt_f, qeq_t, qeq_f, e]
  | k + 1, w, s, q, S, hk, hq, hw, hs, hm => by
    obtain ⟨q, rfl⟩ : ∃ q', q = q' + 1 := ⟨q - 1, by omega⟩
    have h6 : Y 2 3 ≤ 6 := hY.1.2.2.2
    have mb := hm.1
    have m1 := hm.2.1.2.2.2
    have er := pk_rem (a := w) (d := Y 2 3) hw hm0 (by omega)
    have ed := pk_div (a := w) (d := Y 2 3) hw hm0 (by omega)
    have er2 : nI w - nI (w / Y 2 3 * Y 2 3) = nI (w % Y 2 3) := by rw [← er, ed, pk_mul]
    have hmod : w % Y 2 3 < Y 2 3 := Nat.mod_lt _ hm0
    have hne : ¬ Y 2 3 = 0 := by omega
    have hwd : w / Y 2 3 < 2 ^ 31 := Nat.lt_of_le_of_lt (Nat.div_le_self _ _) hw
    have p6 : 2 ^ Y 2 3 ≤ 2 ^ 6 := Nat.pow_le_pow_right (by decide) h6
    have pm : 2 ^ (w % Y 2 3) < 2 ^ Y 2 3 := Nat.pow_lt_pow_right (by decide) hmod
    have eo := nI_or (a := s) (b := 2 ^ (w % Y 2 3)) (by omega) (by omega)
    have em : nI k + qm1 = ixD k := by
      show nI k + (-1 : Int32) = ixD k
      unfold ixD
      split
      · rename_i e; rw [e]; decide
      · rename_i e
        obtain ⟨k', rfl⟩ : ∃ k', k = k' + 1 := ⟨k - 1, by omega⟩
        rw [pk_m1]; rfl
    have f1 : mFq (fun k j => k = 46) S (xuI S 46 k (nI (w % Y 2 3))) := mFq_upd rfl
    obtain ⟨Z, e2, z2, z3, f2⟩ := m_rowL hb hY hm0 k (w / Y 2 3) (s ||| 2 ^ (w % Y 2 3)) q (xuI S 46 k (nI (w % Y 2 3))) (by omega) (by omega) hwd (Nat.or_lt_two_pow hs pm) (mY_fr f1 (fun k j a1 a2 => by omega) (by omega) hm)
    refine ⟨Z, ?_, fun x hx => ?_, fun x hx => ?_, mFq_trans f1 f2⟩
    · show fX12_isRow_L17b _ _ _ _ _ (nI k) _ = _
      simp (disch := (first | assumption | omega | exact hB _ _ | exact hYB _ _ | (simp only [yc, yd, sh, sv, ne_eq]; omega) | (simp (disch := omega) only [↓nm_1, ↓nm_2, nI_add, pk_mul, pk_sub, Nat.add_sub_cancel, qm1_add, qm2_add, nI_clamp, ni_0, ni_1, mb, m1, hne, er2, eo, ed, ↓em, e2]; refine qin_nI ?_ ?_ <;> first | omega | exact hB _ _ | exact hYB _ _) | (refine qin_nI ?_ ?_ <;> omega) | fail)) only [↓km0_gd, ↓km0_gI, ↓km0_gM, ↓km0_pI, ↓km0_pM, ↓km0_pZ, ↓km0_gL, ↓km0_pL, ↓km0_gF22, ↓km0_gF72, ↓km10_al, ↓km10_as, ↓km10_ln, ↓km46_al, ↓km46_as, ↓km46_ln, ↓qb_so, ↓nm_1, ↓nm_2, ↓reduceIte, if_true, if_false, not_true_eq_false, not_false_eq_true, and_true, true_and, and_false, false_and, or_true, true_or, or_false, false_or, eq_self, ne_eq, quI_s, quI_n, quI2, quL1, quL2, quL3, quR1, quR2, quR3, nI_add, pk_mul, pk_sub, Nat.add_sub_cancel, qm1_add, qm2_add, nI_leI, nI_ltI, nI_eq, nI_m1, nI_m1', nI_clamp, nI_bit, nI_one_shl, nI_m1l, nI_m1lt, nI_m1lt', nI_m1le', oI_some, oI_none, ni_0, ni_1, fX12_isRow_L17b, qle_t, qle_f, qlt_t, qlt_f, qeq_t, qeq_f, mb, m1, hne, er2, eo, ed, ↓em, e2]
      rfl
    · have hl := s_dig_len (m := Y 2 3) k (w / Y 2 3)
      have eg : (s_dig (Y 2 3) (k + 1) w).getD x 0 = if x < k then (s_dig (Y 2 3) k (w / Y 2 3)).getD x 0 else w % Y 2 3 := by
        show (s_dig (Y 2 3) k (w / Y 2 3) ++ [w % Y 2 3]).getD x 0 = _
        rw [List.getD_eq_getElem?_getD]
        by_cases hx2 : x < k
        · rw [if_pos hx2, List.getElem?_append_left (by omega), List.getD_eq_getElem?_getD]
        · rw [if_neg hx2, List.getElem?_append_right (by omega), hl, show x - k = 0 by omega]
          rfl
      rw [eg]
      by_cases hx2 : x < k
      · rw [if_pos hx2]; exact z2 x hx2
      · rw [if_neg hx2, z3 x (by omega), show x = k by omega, quI_e]
    · rw [z3 x (by omega), quI_k (by omega)]
theorem m_isRow (hb : b < 2) (hY : yrOk Y) (hn : 2000 ≤ n) (hm : mY S b Y mc wc) {w : Nat} (hw : w < 2 ^ 31) : ∃ Z, fX12_isRow n 0 (nI w) S = some (nI (if s_isR (Y 2 3) (s_dig (Y 2 3) (Y 2 3) w) = true then 1 else 0), Z) ∧ (∀ x, x < Y 2 3 → Z.1 46 x = nI ((s_dig (Y 2 3) (Y 2 3) w).getD x 0)) ∧ mFq (fun k j => k = 46) S Z := by
  obtain ⟨n', rfl⟩ : ∃ n', n = n' + 1 := ⟨n - 1, by omega⟩
  have h6 : Y 2 3 ≤ 6 := hY.1.2.2.2
  have mb := hm.1
  have m1 := hm.2.1.2.2.2
  by_cases h0 : Y 2 3 = 0
  · rw [h0] at m1
    rw [h0]
    refine ⟨S, ?_, fun x hx => by omega, mFq_refl⟩
    have e : (qm1 < nI 0) = True := by decide
    have e1 : nI 0 - nI 1 = qm1 := by decide
    have e3 : fX12_isRow_L17 (n' + 1) 0 (n' + 1) (nI w) (nI 0) qm1 S = some (nI 0, S) := by
      show fX12_isRow_L17b _ _ _ _ _ _ _ = _
      simp (disch := (first | assumption | omega | exact hB _ _ | exact hYB _ _ | (simp only [yc, yd, sh, sv, ne_eq]; omega) | (simp (disch := omega) only [↓nm_1, ↓nm_2, nI_add, pk_mul, pk_sub, Nat.add_sub_cancel, qm1_add, qm2_add, nI_clamp, ni_0, ni_1, e]; refine qin_nI ?_ ?_ <;> first | omega | exact hB _ _ | exact hYB _ _) | (refine qin_nI ?_ ?_ <;> omega) | fail)) only [↓km0_gd, ↓km0_gI, ↓km0_gM, ↓km0_pI, ↓km0_pM, ↓km0_pZ, ↓km0_gL, ↓km0_pL, ↓km0_gF22, ↓km0_gF72, ↓km10_al, ↓km10_as, ↓km10_ln, ↓km46_al, ↓km46_as, ↓km46_ln, ↓qb_so, ↓nm_1, ↓nm_2, ↓reduceIte, if_true, if_false, not_true_eq_false, not_false_eq_true, and_true, true_and, and_false, false_and, or_true, true_or, or_false, false_or, eq_self, ne_eq, quI_s, quI_n, quI2, quL1, quL2, quL3, quR1, quR2, quR3, nI_add, pk_mul, pk_sub, Nat.add_sub_cancel, qm1_add, qm2_add, nI_leI, nI_ltI, nI_eq, nI_m1, nI_m1', nI_clamp, nI_bit, nI_one_shl, nI_m1l, nI_m1lt, nI_m1lt', nI_m1le', oI_some, oI_none, ni_0, ni_1, fX12_isRow_L17b, qle_t, qle_f, qlt_t, qlt_f, qeq_t, qeq_f, e]
    have e4 : s_isR 0 (s_dig 0 0 w) = true := rfl
    rw [if_pos e4]
    have e5 : nI (2 ^ 0) - nI 1 = nI 0 := by decide
    simp (disch := (first | assumption | omega | exact hB _ _ | exact hYB _ _ | (simp only [yc, yd, sh, sv, ne_eq]; omega) | (simp (disch := omega) only [↓nm_1, ↓nm_2, nI_add, pk_mul, pk_sub, Nat.add_sub_cancel, qm1_add, qm2_add, nI_clamp, ni_0, ni_1, mb, m1, ↓e1, e3, e5]; refine qin_nI ?_ ?_ <;> first | omega | exact hB _ _ | exact hYB _ _) | (refine qin_nI ?_ ?_ <;> omega) | fail)) only [↓km0_gd, ↓km0_gI, ↓km0_gM, ↓km0_pI, ↓km0_pM, ↓km0_pZ, ↓km0_gL, ↓km0_pL, ↓km0_gF22, ↓km10_al, ↓km10_as, ↓km10_ln, ↓qb_so, ↓nm_1, ↓nm_2, ↓reduceIte, if_true, if_false, not_true_eq_false, not_false_eq_true, and_true, true_and, and_false, false_and, or_true, true_or, or_false, false_or, eq_self, ne_eq, quI_s, quI_n, quI2, quL1, quL2, quL3, quR1, quR2, quR3, nI_add, pk_mul, pk_sub, Nat.add_sub_cancel, qm1_add, qm2_add, nI_leI, nI_ltI, nI_eq, nI_m1, nI_m1', nI_clamp, nI_bit, nI_one_shl, nI_m1l, nI_m1lt, nI_m1lt', nI_m1le', oI_some, oI_none, ni_0, ni_1, fX12_isRow, qle_t, qle_f, qlt_t, qlt_f, qeq_t, qeq_f, mb, m1, ↓e1, e3, e5]
  · obtain ⟨Z, e2, z2, _, f2⟩ := m_rowL (n := n' + 1) hb hY (by omega) (Y 2 3) w 0 (n' + 1) S (Nat.le_refl _) (by omega) hw (Nat.two_pow_pos _) hm
    have ei : ixD (Y 2 3) = nI (Y 2 3 - 1) := by unfold ixD; rw [if_neg h0]
    rw [ei] at e2
    have hm2 := mY_fr f2 (fun k j a1 a2 => by omega) (by omega) hm
    have mb2 := hm2.1
    have m12 := hm2.2.1.2.2.2
    have iff := s_isR_iff (m := Y 2 3) (w := w) (by omega)
    have olt := s_orD_lt (m := Y 2 3) (by omega) (Y 2 3) w 0 (Nat.two_pow_pos _)
    have p6 : 2 ^ Y 2 3 ≤ 2 ^ 6 := Nat.pow_le_pow_right (by decide) h6
    have p1 := Nat.two_pow_pos (Y 2 3)
    refine ⟨Z, ?_, z2, f2⟩
    by_cases hr : s_isR (Y 2 3) (s_dig (Y 2 3) (Y 2 3) w) = true
    · have hx := iff.mpr hr
      rw [if_pos hr]
      simp (disch := (first | assumption | omega | exact hB _ _ | exact hYB _ _ | (simp only [yc, yd, sh, sv, ne_eq]; omega) | (simp (disch := omega) only [↓nm_1, ↓nm_2, nI_add, pk_mul, pk_sub, Nat.add_sub_cancel, qm1_add, qm2_add, nI_clamp, ni_0, ni_1, mb, m1, e2, mb2, m12, hx]; refine qin_nI ?_ ?_ <;> first | omega | exact hB _ _ | exact hYB _ _) | (refine qin_nI ?_ ?_ <;> omega) | fail)) only [↓km0_gd, ↓km0_gI, ↓km0_gM, ↓km0_pI, ↓km0_pM, ↓km0_pZ, ↓km0_gL, ↓km0_pL, ↓km0_gF22, ↓km10_al, ↓km10_as, ↓km10_ln, ↓qb_so, ↓nm_1, ↓nm_2, ↓reduceIte, if_true, if_false, not_true_eq_false, not_false_eq_true, and_true, true_and, and_false, false_and, or_true, true_or, or_false, false_or, eq_self, ne_eq, quI_s, quI_n, quI2, quL1, quL2, quL3, quR1, quR2, quR3, nI_add, pk_mul, pk_sub, Nat.add_sub_cancel, qm1_add, qm2_add, nI_leI, nI_ltI, nI_eq, nI_m1, nI_m1', nI_clamp, nI_bit, nI_one_shl, nI_m1l, nI_m1lt, nI_m1lt', nI_m1le', oI_some, oI_none, ni_0, ni_1, fX12_isRow, qle_t, qle_f, qlt_t, qlt_f, qeq_t, qeq_f, mb, m1, e2, mb2, m12, hx]
    · have hx := mt iff.mp hr
      rw [if_neg hr]
      simp (disch := (first | assumption | omega | exact hB _ _ | exact hYB _ _ | (simp only [yc, yd, sh, sv, ne_eq]; omega) | (simp (disch := omega) only [↓nm_1, ↓nm_2, nI_add, pk_mul, pk_sub, Nat.add_sub_cancel, qm1_add, qm2_add, nI_clamp, ni_0, ni_1, mb, m1, e2, mb2, m12, hx]; refine qin_nI ?_ ?_ <;> first | omega | exact hB _ _ | exact hYB _ _) | (refine qin_nI ?_ ?_ <;> omega) | fail)) only [↓km0_gd, ↓km0_gI, ↓km0_gM, ↓km0_pI, ↓km0_pM, ↓km0_pZ, ↓km0_gL, ↓km0_pL, ↓km0_gF22, ↓km10_al, ↓km10_as, ↓km10_ln, ↓qb_so, ↓nm_1, ↓nm_2, ↓reduceIte, if_true, if_false, not_true_eq_false, not_false_eq_true, and_true, true_and, and_false, false_and, or_true, true_or, or_false, false_or, eq_self, ne_eq, quI_s, quI_n, quI2, quL1, quL2, quL3, quR1, quR2, quR3, nI_add, pk_mul, pk_sub, Nat.add_sub_cancel, qm1_add, qm2_add, nI_leI, nI_ltI, nI_eq, nI_m1, nI_m1', nI_clamp, nI_bit, nI_one_shl, nI_m1l, nI_m1lt, nI_m1lt', nI_m1le', oI_some, oI_none, ni_0, ni_1, fX12_isRow, qle_t, qle_f, qlt_t, qlt_f, qeq_t, qeq_f, mb, m1, e2, mb2, m12, hx]
theorem m_118 (hb : b < 2) (hY : yrOk Y) (a1 a2 a3 a4 a5 : Int32) (g : Nat → Nat) : ∀ (k j q : Nat) (S : xSt), j + k = Y 2 3 → k < q → mY S b Y mc wc → (∀ x, x < Y 2 3 → S.1 46 x = nI (g x)) → (∀ x, x < j → S.1 47 x = nI (g x)) → ∃ Z, fX12_order_L118 n 0 a1 a2 a3 a4 a5 q (nI j) S = some Z ∧ (∀ x, x < Y 2 3 → Z.1 47 x = nI (g x)) ∧ mFq (fun k j => k = 47) S Z
  | 0, j, q, S, hk, hq, hm, h1, h2 => by
    obtain ⟨q, rfl⟩ : ∃ q', q = q' + 1 := ⟨q - 1, by omega⟩
    have h6 : Y 2 3 ≤ 6 := hY.1.2.2.2
    have mb := hm.1
    have m1 := hm.2.1.2.2.2
    refine ⟨S, ?_, fun x hx => h2 x (by omega), mFq_refl⟩
    show fX12_order_L118b _ _ _ _ _ _ _ _ _ _ = _
    simp (disch := (first | assumption | omega | exact hB _ _ | exact hYB _ _ | (simp only [yc, yd, sh, sv, ne_eq]; omega) | (simp (disch := omega) only [↓nm_1, ↓nm_2, nI_add, pk_mul, pk_sub, Nat.add_sub_cancel, qm1_add, qm2_add, nI_clamp, ni_0, ni_1, mb, m1]; refine qin_nI ?_ ?_ <;> first | omega | exact hB _ _ | exact hYB _ _) | (refine qin_nI ?_ ?_ <;> omega) | fail)) only [↓km0_gd, ↓km0_gI, ↓km0_gM, ↓km0_pI, ↓km0_pM, ↓km0_pZ, ↓km0_gL, ↓km0_pL, ↓km0_gF22, ↓km0_gF72, ↓km0_gF76, ↓km10_al, ↓km10_as, ↓km10_ln, ↓km46_al, ↓km46_as, ↓km46_ln, ↓km47_al, ↓km47_as, ↓km47_ln, ↓qb_so, ↓nm_1, ↓nm_2, ↓reduceIte, if_true, if_false, not_true_eq_false, not_false_eq_true, and_true, true_and, and_false, false_and, or_true, true_or, or_false, false_or, eq_self, ne_eq, quI_s, quI_n, quI2, quL1, quL2, quL3, quR1, quR2, quR3, nI_add, pk_mul, pk_sub, Nat.add_sub_cancel, qm1_add, qm2_add, nI_leI, nI_ltI, nI_eq, nI_m1, nI_m1', nI_clamp, nI_bit, nI_one_shl, nI_m1l, nI_m1lt, nI_m1lt', nI_m1le', oI_some, oI_none, ni_0, ni_1, fX12_order_L118b, qle_t, qle_f, qlt_t, qlt_f, qeq_t, qeq_f, mb, m1]
  | k + 1, j, q, S, hk, hq, hm, h1, h2 => by
    obtain ⟨q, rfl⟩ : ∃ q', q = q' + 1 := ⟨q - 1, by omega⟩
    have h6 : Y 2 3 ≤ 6 := hY.1.2.2.2
    have mb := hm.1
    have m1 := hm.2.1.2.2.2
    have h1j := h1 j (by omega)
    have f1 : mFq (fun k j => k = 47) S (xuI S 47 j (nI (g j))) := mFq_upd rfl
    obtain ⟨Z, e2, z2, f2⟩ := m_118 hb hY a1 a2 a3 a4 a5 g k (j + 1) q (xuI S 47 j (nI (g j))) (by omega) (by omega) (mY_fr f1 (fun k j a1 a2 => by omega) (by omega) hm) (fun x hx => by rw [quI_n (by decide)]; exact h1 x hx) (fun x hx => by
      rw [quI_s]
      split
      · rename_i e; rw [e]
      · exact h2 x (by omega))
    refine ⟨Z, ?_, z2, mFq_trans f1 f2⟩
    show fX12_order_L118b _ _ _ _ _ _ _ _ _ _ = _
    simp (disch := (first | assumption | omega | exact hB _ _ | exact hYB _ _ | (simp only [yc, yd, sh, sv, ne_eq]; omega) | (simp (disch := omega) only [↓nm_1, ↓nm_2, nI_add, pk_mul, pk_sub, Nat.add_sub_cancel, qm1_add, qm2_add, nI_clamp, ni_0, ni_1, mb, m1, h1j, e2]; refine qin_nI ?_ ?_ <;> first | omega | exact hB _ _ | exact hYB _ _) | (refine qin_nI ?_ ?_ <;> omega) | fail)) only [↓km0_gd, ↓km0_gI, ↓km0_gM, ↓km0_pI, ↓km0_pM, ↓km0_pZ, ↓km0_gL, ↓km0_pL, ↓km0_gF22, ↓km0_gF72, ↓km0_gF76, ↓km10_al, ↓km10_as, ↓km10_ln, ↓km46_al, ↓km46_as, ↓km46_ln, ↓km47_al, ↓km47_as, ↓km47_ln, ↓qb_so, ↓nm_1, ↓nm_2, ↓reduceIte, if_true, if_false, not_true_eq_false, not_false_eq_true, and_true, true_and, and_false, false_and, or_true, true_or, or_false, false_or, eq_self, ne_eq, quI_s, quI_n, quI2, quL1, quL2, quL3, quR1, quR2, quR3, nI_add, pk_mul, pk_sub, Nat.add_sub_cancel, qm1_add, qm2_add, nI_leI, nI_ltI, nI_eq, nI_m1, nI_m1', nI_clamp, nI_bit, nI_one_shl, nI_m1l, nI_m1lt, nI_m1lt', nI_m1le', oI_some, oI_none, ni_0, ni_1, fX12_order_L118b, qle_t, qle_f, qlt_t, qlt_f, qeq_t, qeq_f, mb, m1, h1j, e2]
theorem oW_M (hI : gI Y mc wc D P G) (h : gM S0 b Y mc wc D P G) (hw : oW S0 S) : gM (xuI S 0 71 (nI 0)) b Y mc wc D P G := by
  obtain ⟨h1, ⟨u, u', fr, a1, a2, a3, a4, a5⟩, h3, h4⟩ := hw
  refine gM_sc2 (S := S0) (mFq_trans h1 (mFq_upd (by unfold vQ; omega))) hI ⟨u, u', fr, a1, a2, by rw [quI_k (by omega)]; exact a3, by rw [quI_k (by omega)]; exact a4, by rw [quI_k (by omega)]; exact a5⟩ (by rw [quI_k (by omega)]; exact h3) quI_e h
theorem oW_y (hI : gI Y mc wc D P G) (h : gM S0 b Y mc wc D P G) (hw : oW S0 S) : mY S b Y mc wc := mY_fr hw.1 (fun k j a1 a2 => by unfold wQ mQ vQ; omega) (by unfold wQ mQ vQ; omega) h.1
theorem s_ws_s {w k : Nat} : s_ws m w (k + 1) = (if s_isR m (s_dig m m w) = true then s_dig m m w :: s_ws m (w + 1) k else s_ws m (w + 1) k) := by
  unfold s_ws
  rw [List.range'_succ, List.map_cons, List.filter_cons]
theorem m_orL (hb : b < 2) (hn : 2000 ≤ n) (h : gM S0 b Y mc wc D P G) (hI : gI Y mc wc D P G) {N W : Nat} (hN : N ≤ 30) (hW : W ≤ 46656) (h9 : D 0 0 + N ≤ 999) (a2 : Int32) : ∀ (k w q v : Nat) (o : List Nat) (S : xSt), w + k = W → k < q → v ≤ 100000000 → oW S0 S → (v = 100000000 ∨ ∀ x, x < Y 2 3 → S.1 47 x = nI (s_rw o x)) →
    ∃ Z, fX12_order_L76 n 0 (nI N) a2 (nI W) q (nI v) (nI w) S = some (nI (s_oF (fun l => s_ltn Y mc wc (Y 3) (s_rw l) D N) (s_ws (Y 2 3) w k) v o).1, Z) ∧ oW S0 Z ∧ ((s_oF (fun l => s_ltn Y mc wc (Y 3) (s_rw l) D N) (s_ws (Y 2 3) w k) v o).1 = 100000000 ∨ ∀ x, x < Y 2 3 → Z.1 47 x = nI (s_rw (s_oF (fun l => s_ltn Y mc wc (Y 3) (s_rw l) D N) (s_ws (Y 2 3) w k) v o).2 x))
  | 0, w, q, v, o, S, hk, hq, hv, hg, hs => by
    obtain ⟨q, rfl⟩ : ∃ q', q = q' + 1 := ⟨q - 1, by omega⟩
    refine ⟨S, ?_, hg, hs⟩
    show fX12_order_L76b _ _ _ _ _ _ _ _ _ = _
    simp (disch := (first | assumption | omega | exact hB _ _ | exact hYB _ _ | (simp only [yc, yd, sh, sv, ne_eq]; omega) | (simp (disch := omega) only [↓nm_1, ↓nm_2, nI_add, pk_mul, pk_sub, Nat.add_sub_cancel, qm1_add, qm2_add, nI_clamp, ni_0, ni_1]; refine qin_nI ?_ ?_ <;> first | omega | exact hB _ _ | exact hYB _ _) | (refine qin_nI ?_ ?_ <;> omega) | fail)) only [↓km0_gd, ↓km0_gI, ↓km0_gM, ↓km0_pI, ↓km0_pM, ↓km0_pZ, ↓km0_gL, ↓km0_pL, ↓qb_so, ↓nm_1, ↓nm_2, ↓reduceIte, if_true, if_false, not_true_eq_false, not_false_eq_true, and_true, true_and, and_false, false_and, or_true, true_or, or_false, false_or, eq_self, ne_eq, quI_s, quI_n, quI2, quL1, quL2, quL3, quR1, quR2, quR3, nI_add, pk_mul, pk_sub, Nat.add_sub_cancel, qm1_add, qm2_add, nI_leI, nI_ltI, nI_eq, nI_m1, nI_m1', nI_clamp, nI_bit, nI_one_shl, nI_m1l, nI_m1lt, nI_m1lt', nI_m1le', oI_some, oI_none, ni_0, ni_1, fX12_order_L76b, qle_t, qle_f, qlt_t, qlt_f, qeq_t, qeq_f]
    rfl
  | k + 1, w, q, v, o, S, hk, hq, hv, hg, hs => by
    obtain ⟨q, rfl⟩ : ∃ q', q = q' + 1 := ⟨q - 1, by omega⟩
    have hm := oW_y hI h hg
    obtain ⟨Z1, e1, z1, f1⟩ := m_isRow (n := n) (w := w) hb hI.1 hn hm (by omega)
    have hg1 : oW S0 Z1 := by
      obtain ⟨a1, ⟨u, u', fr, b1, b2, b3, b4, b5⟩, a3, a4⟩ := hg
      exact ⟨mFq_trans a1 (mFq_mono f1 (fun k j hh => Or.inr (Or.inl (Or.inr hh)))), ⟨u, u', fr, b1, b2, by rw [f1.1 0 73 (by omega)]; exact b3, by rw [f1.1 0 74 (by omega)]; exact b4, by rw [f1.1 0 75 (by omega)]; exact b5⟩, by rw [f1.1 0 69 (by omega)]; exact a3, by rw [f1.1 0 71 (by omega)]; exact a4⟩
    have hs1 : v = 100000000 ∨ ∀ x, x < Y 2 3 → Z1.1 47 x = nI (s_rw o x) := hs.elim Or.inl (fun e => Or.inr (fun x hx => by rw [f1.1 47 x (by omega)]; exact e x hx))
    have hwW : ¬ W ≤ w := by omega
    show ∃ Z, fX12_order_L76b _ _ _ _ _ _ _ _ _ = _ ∧ _
    rw [s_ws_s]
    by_cases hr : s_isR (Y 2 3) (s_dig (Y 2 3) (Y 2 3) w) = true
    · rw [if_pos hr] at e1 ⊢
      have h6 : Y 2 3 ≤ 6 := hI.1.1.2.2.2
      have hrow : ∀ x, x < Y 2 3 → s_rw (s_dig (Y 2 3) (Y 2 3) w) x < Y 2 3 := fun x hx => s_rw_lt (by omega) hx
      have g1 := oW_M hI h hg1
      have fv : mFq vQ (xuI Z1 0 71 (nI 0)) Z1 := by
        refine ⟨fun k j hk => ?_, fun _ _ => rfl, rfl⟩
        rw [quI_k (fun e => hk (by unfold vQ; omega))]
      obtain ⟨Z2, e2, f2, u2⟩ := m_lateR (n := n) (S := xuI Z1 0 71 (nI 0)) (T := Z1) (R := Y 3) (row := s_rw (s_dig (Y 2 3) (Y 2 3) w)) (m := N) hb hn g1 hI fv (mR_0 hg1.2.2.1) (Or.inr ⟨hg1.2.2.2, fun x hx => z1 x hx⟩) (Y3_lt hI.1) hrow (by omega) h9
      have lup := s_ltn_lt (mc := mc) (wc := wc) (R := Y 3) (row := s_rw (s_dig (Y 2 3) (Y 2 3) w)) hI hrow h9
      have hg2 : oW S0 Z2 := ⟨mFq_trans hg1.1 (mFq_mono f2 (fun k j hh => Or.inl hh)), u2, by rw [f2.1 0 69 (by unfold mQ; omega)]; exact hg1.2.2.1, by rw [f2.1 0 71 (by unfold mQ; omega)]; exact hg1.2.2.2⟩
      have z2 : ∀ x, x < Y 2 3 → Z2.1 46 x = nI (s_rw (s_dig (Y 2 3) (Y 2 3) w) x) := fun x hx => by rw [f2.1 46 x (by unfold mQ; omega)]; exact z1 x hx
      have hs2 : v = 100000000 ∨ ∀ x, x < Y 2 3 → Z2.1 47 x = nI (s_rw o x) := hs1.elim Or.inl (fun e => Or.inr (fun x hx => by rw [f2.1 47 x (by unfold mQ; omega)]; exact e x hx))
      by_cases hlt : s_ltn Y mc wc (Y 3) (s_rw (s_dig (Y 2 3) (Y 2 3) w)) D N < v
      · obtain ⟨Z3, e3, z3, f3⟩ := m_118 (n := n) hb hI.1 (nI N) a2 (nI W) (nI (s_ltn Y mc wc (Y 3) (s_rw (s_dig (Y 2 3) (Y 2 3) w)) D N)) (nI w) (s_rw (s_dig (Y 2 3) (Y 2 3) w)) (Y 2 3) 0 n Z2 (by omega) (by omega) (oW_y hI h hg2) z2 (fun x hx => by omega)
        have hg3 : oW S0 Z3 := by
          obtain ⟨a1, ⟨u, u', fr, b1, b2, b3, b4, b5⟩, a3, a4⟩ := hg2
          exact ⟨mFq_trans a1 (mFq_mono f3 (fun k j hh => Or.inr (Or.inr hh))), ⟨u, u', fr, b1, b2, by rw [f3.1 0 73 (by omega)]; exact b3, by rw [f3.1 0 74 (by omega)]; exact b4, by rw [f3.1 0 75 (by omega)]; exact b5⟩, by rw [f3.1 0 69 (by omega)]; exact a3, by rw [f3.1 0 71 (by omega)]; exact a4⟩
        obtain ⟨Z, e4, g4, s4⟩ := m_orL hb hn h hI hN hW h9 a2 k (w + 1) q _ (s_dig (Y 2 3) (Y 2 3) w) Z3 (by omega) (by omega) (by omega : s_ltn Y mc wc (Y 3) (s_rw (s_dig (Y 2 3) (Y 2 3) w)) D N ≤ 100000000) hg3 (Or.inr z3)
        have es : s_oF (fun l => s_ltn Y mc wc (Y 3) (s_rw l) D N) (s_dig (Y 2 3) (Y 2 3) w :: s_ws (Y 2 3) (w + 1) k) v o = s_oF (fun l => s_ltn Y mc wc (Y 3) (s_rw l) D N) (s_ws (Y 2 3) (w + 1) k) (s_ltn Y mc wc (Y 3) (s_rw (s_dig (Y 2 3) (Y 2 3) w)) D N) (s_dig (Y 2 3) (Y 2 3) w) := by
          show (if s_ltn Y mc wc (Y 3) (s_rw (s_dig (Y 2 3) (Y 2 3) w)) D N < v then _ else _) = _
          rw [if_pos hlt]
        rw [es]
        refine ⟨Z, ?_, g4, s4⟩
        simp (disch := (first | assumption | omega | exact hB _ _ | exact hYB _ _ | (simp only [yc, yd, sh, sv, ne_eq]; omega) | (simp (disch := omega) only [↓nm_1, ↓nm_2, nI_add, pk_mul, pk_sub, Nat.add_sub_cancel, qm1_add, qm2_add, nI_clamp, ni_0, ni_1, hwW, e1, e2, hlt, e3]; refine qin_nI ?_ ?_ <;> first | omega | exact hB _ _ | exact hYB _ _) | (refine qin_nI ?_ ?_ <;> omega) | fail)) only [↓km0_gd, ↓km0_gI, ↓km0_gM, ↓km0_pI, ↓km0_pM, ↓km0_pZ, ↓km0_gL, ↓km0_pL, ↓qb_so, ↓nm_1, ↓nm_2, ↓reduceIte, if_true, if_false, not_true_eq_false, not_false_eq_true, and_true, true_and, and_false, false_and, or_true, true_or, or_false, false_or, eq_self, ne_eq, quI_s, quI_n, quI2, quL1, quL2, quL3, quR1, quR2, quR3, nI_add, pk_mul, pk_sub, Nat.add_sub_cancel, qm1_add, qm2_add, nI_leI, nI_ltI, nI_eq, nI_m1, nI_m1', nI_clamp, nI_bit, nI_one_shl, nI_m1l, nI_m1lt, nI_m1lt', nI_m1le', oI_some, oI_none, ni_0, ni_1, fX12_order_L76b, qle_t, qle_f, qlt_t, qlt_f, qeq_t, qeq_f, hwW, e1, e2, hlt, e3]
        exact e4
      · obtain ⟨Z, e4, g4, s4⟩ := m_orL hb hn h hI hN hW h9 a2 k (w + 1) q v o Z2 (by omega) (by omega) hv hg2 hs2
        have es : s_oF (fun l => s_ltn Y mc wc (Y 3) (s_rw l) D N) (s_dig (Y 2 3) (Y 2 3) w :: s_ws (Y 2 3) (w + 1) k) v o = s_oF (fun l => s_ltn Y mc wc (Y 3) (s_rw l) D N) (s_ws (Y 2 3) (w + 1) k) v o := by
          show (if s_ltn Y mc wc (Y 3) (s_rw (s_dig (Y 2 3) (Y 2 3) w)) D N < v then _ else _) = _
          rw [if_neg hlt]
        rw [es]
        refine ⟨Z, ?_, g4, s4⟩
        simp (disch := (first | assumption | omega | exact hB _ _ | exact hYB _ _ | (simp only [yc, yd, sh, sv, ne_eq]; omega) | (simp (disch := omega) only [↓nm_1, ↓nm_2, nI_add, pk_mul, pk_sub, Nat.add_sub_cancel, qm1_add, qm2_add, nI_clamp, ni_0, ni_1, hwW, e1, e2, hlt]; refine qin_nI ?_ ?_ <;> first | omega | exact hB _ _ | exact hYB _ _) | (refine qin_nI ?_ ?_ <;> omega) | fail)) only [↓km0_gd, ↓km0_gI, ↓km0_gM, ↓km0_pI, ↓km0_pM, ↓km0_pZ, ↓km0_gL, ↓km0_pL, ↓qb_so, ↓nm_1, ↓nm_2, ↓reduceIte, if_true, if_false, not_true_eq_false, not_false_eq_true, and_true, true_and, and_false, false_and, or_true, true_or, or_false, false_or, eq_self, ne_eq, quI_s, quI_n, quI2, quL1, quL2, quL3, quR1, quR2, quR3, nI_add, pk_mul, pk_sub, Nat.add_sub_cancel, qm1_add, qm2_add, nI_leI, nI_ltI, nI_eq, nI_m1, nI_m1', nI_clamp, nI_bit, nI_one_shl, nI_m1l, nI_m1lt, nI_m1lt', nI_m1le', oI_some, oI_none, ni_0, ni_1, fX12_order_L76b, qle_t, qle_f, qlt_t, qlt_f, qeq_t, qeq_f, hwW, e1, e2, hlt]
        exact e4
    · rw [if_neg hr] at e1 ⊢
      obtain ⟨Z, e4, g4, s4⟩ := m_orL hb hn h hI hN hW h9 a2 k (w + 1) q v o Z1 (by omega) (by omega) hv hg1 hs1
      refine ⟨Z, ?_, g4, s4⟩
      simp (disch := (first | assumption | omega | exact hB _ _ | exact hYB _ _ | (simp only [yc, yd, sh, sv, ne_eq]; omega) | (simp (disch := omega) only [↓nm_1, ↓nm_2, nI_add, pk_mul, pk_sub, Nat.add_sub_cancel, qm1_add, qm2_add, nI_clamp, ni_0, ni_1, hwW, e1]; refine qin_nI ?_ ?_ <;> first | omega | exact hB _ _ | exact hYB _ _) | (refine qin_nI ?_ ?_ <;> omega) | fail)) only [↓km0_gd, ↓km0_gI, ↓km0_gM, ↓km0_pI, ↓km0_pM, ↓km0_pZ, ↓km0_gL, ↓km0_pL, ↓qb_so, ↓nm_1, ↓nm_2, ↓reduceIte, if_true, if_false, not_true_eq_false, not_false_eq_true, and_true, true_and, and_false, false_and, or_true, true_or, or_false, false_or, eq_self, ne_eq, quI_s, quI_n, quI2, quL1, quL2, quL3, quR1, quR2, quR3, nI_add, pk_mul, pk_sub, Nat.add_sub_cancel, qm1_add, qm2_add, nI_leI, nI_ltI, nI_eq, nI_m1, nI_m1', nI_clamp, nI_bit, nI_one_shl, nI_m1l, nI_m1lt, nI_m1lt', nI_m1le', oI_some, oI_none, ni_0, ni_1, fX12_order_L76b, qle_t, qle_f, qlt_t, qlt_f, qeq_t, qeq_f, hwW, e1]
      exact e4
theorem m_ways (hb : b < 2) (hY : yrOk Y) (hm : mY S b Y mc wc) (a1 a2 : Int32) : ∀ (k j q v : Nat), j + k = Y 2 3 → k < q → fX12_order_L31 n 0 a1 a2 q (nI v) (nI j) S = some (nI (v * Y 2 3 ^ k), S)
  | 0, j, q, v, hk, hq => by
    obtain ⟨q, rfl⟩ : ∃ q', q = q' + 1 := ⟨q - 1, by omega⟩
    have h6 : Y 2 3 ≤ 6 := hY.1.2.2.2
    have mb := hm.1
    have m1 := hm.2.1.2.2.2
    rw [Nat.pow_zero, Nat.mul_one]
    show fX12_order_L31b _ _ _ _ _ _ _ _ = _
    simp (disch := (first | assumption | omega | exact hB _ _ | exact hYB _ _ | (simp only [yc, yd, sh, sv, ne_eq]; omega) | (simp (disch := omega) only [↓nm_1, ↓nm_2, nI_add, pk_mul, pk_sub, Nat.add_sub_cancel, qm1_add, qm2_add, nI_clamp, ni_0, ni_1, mb, m1]; refine qin_nI ?_ ?_ <;> first | omega | exact hB _ _ | exact hYB _ _) | (refine qin_nI ?_ ?_ <;> omega) | fail)) only [↓km0_gd, ↓km0_gI, ↓km0_gM, ↓km0_pI, ↓km0_pM, ↓km0_pZ, ↓km0_gL, ↓km0_pL, ↓km0_gF22, ↓km10_al, ↓km10_as, ↓km10_ln, ↓qb_so, ↓nm_1, ↓nm_2, ↓reduceIte, if_true, if_false, not_true_eq_false, not_false_eq_true, and_true, true_and, and_false, false_and, or_true, true_or, or_false, false_or, eq_self, ne_eq, quI_s, quI_n, quI2, quL1, quL2, quL3, quR1, quR2, quR3, nI_add, pk_mul, pk_sub, Nat.add_sub_cancel, qm1_add, qm2_add, nI_leI, nI_ltI, nI_eq, nI_m1, nI_m1', nI_clamp, nI_bit, nI_one_shl, nI_m1l, nI_m1lt, nI_m1lt', nI_m1le', oI_some, oI_none, ni_0, ni_1, fX12_order_L31b, qle_t, qle_f, qlt_t, qlt_f, qeq_t, qeq_f, mb, m1]
  | k + 1, j, q, v, hk, hq => by
    obtain ⟨q, rfl⟩ : ∃ q', q = q' + 1 := ⟨q - 1, by omega⟩
    have h6 : Y 2 3 ≤ 6 := hY.1.2.2.2
    have mb := hm.1
    have m1 := hm.2.1.2.2.2
    have IH := m_ways hb hY hm a1 a2 k (j + 1) q (v * Y 2 3) (by omega) (by omega)
    rw [show v * Y 2 3 ^ (k + 1) = v * Y 2 3 * Y 2 3 ^ k by rw [Nat.pow_succ, Nat.mul_comm (Y 2 3 ^ k), Nat.mul_assoc]]
    show fX12_order_L31b _ _ _ _ _ _ _ _ = _
    simp (disch := (first | assumption | omega | exact hB _ _ | exact hYB _ _ | (simp only [yc, yd, sh, sv, ne_eq]; omega) | (simp (disch := omega) only [↓nm_1, ↓nm_2, nI_add, pk_mul, pk_sub, Nat.add_sub_cancel, qm1_add, qm2_add, nI_clamp, ni_0, ni_1, mb, m1, IH]; refine qin_nI ?_ ?_ <;> first | omega | exact hB _ _ | exact hYB _ _) | (refine qin_nI ?_ ?_ <;> omega) | fail)) only [↓km0_gd, ↓km0_gI, ↓km0_gM, ↓km0_pI, ↓km0_pM, ↓km0_pZ, ↓km0_gL, ↓km0_pL, ↓km0_gF22, ↓km10_al, ↓km10_as, ↓km10_ln, ↓qb_so, ↓nm_1, ↓nm_2, ↓reduceIte, if_true, if_false, not_true_eq_false, not_false_eq_true, and_true, true_and, and_false, false_and, or_true, true_or, or_false, false_or, eq_self, ne_eq, quI_s, quI_n, quI2, quL1, quL2, quL3, quR1, quR2, quR3, nI_add, pk_mul, pk_sub, Nat.add_sub_cancel, qm1_add, qm2_add, nI_leI, nI_ltI, nI_eq, nI_m1, nI_m1', nI_clamp, nI_bit, nI_one_shl, nI_m1l, nI_m1lt, nI_m1lt', nI_m1le', oI_some, oI_none, ni_0, ni_1, fX12_order_L31b, qle_t, qle_f, qlt_t, qlt_f, qeq_t, qeq_f, mb, m1, IH]
theorem m_pZ71 {β : Type} {f : xSt → Option β} {v : Nat} (hv : v ≤ 1) : (xpZ tM 12 71 0 (nI v) S).bind f = f (xuI S 0 71 (nI v)) := by
  refine qb_pZ rfl ?_
  rcases (by omega : v = 0 ∨ v = 1) with rfl | rfl
  · exact Or.inl rfl
  · exact Or.inr rfl
theorem m_order (hb : b < 2) (h : gM S b Y mc wc D P G) (hI : gI Y mc wc D P G) {N : Nat} (hN : N ≤ 30) (h9 : D 0 0 + N ≤ 999) {a2 : Int32} (ha : a2 = qm1 ∨ ∃ j, j < Y 2 3 ∧ a2 = nI j) : ∃ r Z, fX12_order_B26 xFU 0 (nI N) a2 S = some (r, Z) ∧ gM Z b Y mc wc D P G ∧ (a2 = qm1 → r = nI (s_oB Y mc wc D N).1) ∧ (∀ j, j < Y 2 3 → a2 = nI j → r = nI (s_rw (s_oB Y mc wc D N).2 j)) := by
  have hn : 2000 ≤ xFU := by decide
  have hx : xFU = 60000 := rfl
  have h6 : Y 2 3 ≤ 6 := hI.1.1.2.2.2
  have hW : Y 2 3 ^ Y 2 3 ≤ 46656 := by
    rcases (by omega : Y 2 3 = 0 ∨ Y 2 3 = 1 ∨ Y 2 3 = 2 ∨ Y 2 3 = 3 ∨ Y 2 3 = 4 ∨ Y 2 3 = 5 ∨ Y 2 3 = 6) with e | e | e | e | e | e | e <;> rw [e] <;> decide
  have e1 := m_ways (n := xFU) hb hI.1 h.1 (nI N) a2 (Y 2 3) 0 xFU 1 (by omega) (by omega)
  rw [Nat.one_mul] at e1
  have hg0 : oW S (xuI S 0 71 (nI 1)) := by
    obtain ⟨h69, h71, u, u', fr, hu, hu', h73, h74, h75⟩ := h.2.2.2.2.2.2
    exact ⟨mFq_upd (by unfold wQ vQ; omega), ⟨u, u', fr, hu, hu', by rw [quI_k (by omega)]; exact h73, by rw [quI_k (by omega)]; exact h74, by rw [quI_k (by omega)]; exact h75⟩, by rw [quI_k (by omega)]; exact h69, quI_e⟩
  obtain ⟨Z, e2, g2, s2⟩ := m_orL (n := xFU) (N := N) (W := Y 2 3 ^ Y 2 3) hb hn h hI hN hW h9 a2 (Y 2 3 ^ Y 2 3) 0 xFU 100000000 [] (xuI S 0 71 (nI 1)) (by omega) (by omega) (Nat.le_refl _) hg0 (Or.inl rfl)
  have eB : s_oF (fun l => s_ltn Y mc wc (Y 3) (s_rw l) D N) (s_ws (Y 2 3) 0 (Y 2 3 ^ Y 2 3)) 100000000 [] = s_oB Y mc wc D N := by
    unfold s_oB s_rows s_ws
    rw [List.range_eq_range']
  rw [eB] at e2 s2
  obtain ⟨_, _, lt8⟩ := oB_of (mc := mc) (wc := wc) (n := N) hI (by omega) h9
  have z47 : ∀ x, x < Y 2 3 → Z.1 47 x = nI (s_rw (s_oB Y mc wc D N).2 x) := s2.elim (fun e => by omega) id
  have gz := oW_M hI h g2
  rcases ha with rfl | ⟨j, hj, rfl⟩
  · refine ⟨nI (s_oB Y mc wc D N).1, _, ?_, gz, fun _ => rfl, fun j hj e => ?_⟩
    · simp (disch := (first | assumption | omega | exact hB _ _ | exact hYB _ _ | (simp only [yc, yd, sh, sv, ne_eq]; omega) | (simp (disch := omega) only [↓nm_1, ↓nm_2, nI_add, pk_mul, pk_sub, Nat.add_sub_cancel, qm1_add, qm2_add, nI_clamp, ni_0, ni_1, ni_100000000, e1, m_pZ71, e2]; refine qin_nI ?_ ?_ <;> first | omega | exact hB _ _ | exact hYB _ _) | (refine qin_nI ?_ ?_ <;> omega) | fail)) only [↓km0_gd, ↓km0_gI, ↓km0_gM, ↓km0_pI, ↓km0_pM, ↓km0_pZ, ↓km0_gL, ↓km0_pL, ↓km0_gF76, ↓km47_al, ↓km47_as, ↓km47_ln, ↓qb_so, ↓nm_1, ↓nm_2, ↓reduceIte, if_true, if_false, not_true_eq_false, not_false_eq_true, and_true, true_and, and_false, false_and, or_true, true_or, or_false, false_or, eq_self, ne_eq, quI_s, quI_n, quI2, quL1, quL2, quL3, quR1, quR2, quR3, nI_add, pk_mul, pk_sub, Nat.add_sub_cancel, qm1_add, qm2_add, nI_leI, nI_ltI, nI_eq, nI_m1, nI_m1', nI_clamp, nI_bit, nI_one_shl, nI_m1l, nI_m1lt, nI_m1lt', nI_m1le', oI_some, oI_none, ni_0, ni_1, ni_100000000, fX12_order_B26, qle_t, qle_f, qlt_t, qlt_f, qeq_t, qeq_f, e1, m_pZ71, e2]
    · have := nI_m1' (a := j) (by omega)
      rw [this] at e
      exact e.elim
  · have zj := z47 j hj
    refine ⟨nI (s_rw (s_oB Y mc wc D N).2 j), _, ?_, gz, fun e => ?_, fun j' hj' e => ?_⟩
    · simp (disch := (first | assumption | omega | exact hB _ _ | exact hYB _ _ | (simp only [yc, yd, sh, sv, ne_eq]; omega) | (simp (disch := omega) only [↓nm_1, ↓nm_2, nI_add, pk_mul, pk_sub, Nat.add_sub_cancel, qm1_add, qm2_add, nI_clamp, ni_0, ni_1, ni_100000000, e1, m_pZ71, e2, zj]; refine qin_nI ?_ ?_ <;> first | omega | exact hB _ _ | exact hYB _ _) | (refine qin_nI ?_ ?_ <;> omega) | fail)) only [↓km0_gd, ↓km0_gI, ↓km0_gM, ↓km0_pI, ↓km0_pM, ↓km0_pZ, ↓km0_gL, ↓km0_pL, ↓km0_gF76, ↓km47_al, ↓km47_as, ↓km47_ln, ↓qb_so, ↓nm_1, ↓nm_2, ↓reduceIte, if_true, if_false, not_true_eq_false, not_false_eq_true, and_true, true_and, and_false, false_and, or_true, true_or, or_false, false_or, eq_self, ne_eq, quI_s, quI_n, quI2, quL1, quL2, quL3, quR1, quR2, quR3, nI_add, pk_mul, pk_sub, Nat.add_sub_cancel, qm1_add, qm2_add, nI_leI, nI_ltI, nI_eq, nI_m1, nI_m1', nI_clamp, nI_bit, nI_one_shl, nI_m1l, nI_m1lt, nI_m1lt', nI_m1le', oI_some, oI_none, ni_0, ni_1, ni_100000000, fX12_order_B26, qle_t, qle_f, qlt_t, qlt_f, qeq_t, qeq_f, e1, m_pZ71, e2, zj]
    · have := nI_m1 (a := j) (by omega)
      rw [this] at e
      exact e.elim
    · rw [(nI_eq (by omega) (by omega)).mp e]
theorem e_order : xEq13 gR := by
  intro S1 S2 h a a2
  obtain ⟨b, Y, mc, wc, D, P, G, hb, hC, hM, hI⟩ := id h
  have h99 : D 0 0 ≤ 999 := hI.2.2.1.1
  have hYB := yrOk_B hI.1
  have h6 : Y 2 3 ≤ 6 := hI.1.1.2.2.2
  have hn : 2000 ≤ xFU := by decide
  have hr := hC.2.1.1
  have ask : (a2 = qm1 ∨ ∃ j, j < Y 2 3 ∧ a2 = nI j) ∨ (a2 ≠ qm1 ∧ (a2 < nI 0 ∨ nI (Y 2 3) ≤ a2)) := by
    by_cases h1 : a2 = qm1
    · exact Or.inl (Or.inl h1)
    · rcases qargo a2 (Y 2 3) (by omega) with h2 | h2
      · exact Or.inl (Or.inr h2)
      · exact Or.inr ⟨h1, h2⟩
  rcases c_can (a := a) (m := 30) hb hC.2.2.1 h99 (by decide) with ⟨i, hi1, hi2, hi3, rfl, e1⟩ | ⟨e1, hx⟩
  · have m1 := m_can1 (l := 1) (i := i) (m := 30) hM.2.2.1 hi1 hi2 (by decide) hi3
    rcases ask with ha2 | ⟨ha2, ha3⟩
    · obtain ⟨Z, c1, gz, z6, z155⟩ := c_findOrder (n := xFU) hb hn hC hI hi1 hi2 hi3
      obtain ⟨r, T, t1, gt, r1, r2⟩ := m_order (N := i) hb hM hI hi2 hi3 ha2
      have fin : gR Z T := ⟨b, Y, mc, wc, D, P, G, hb, gz, gt, hI⟩
      rcases ha2 with rfl | ⟨j, hj, rfl⟩
      · rw [r1 rfl] at t1
        refine ⟨nI (s_oB Y mc wc D i).1, Z, T, ?_, ?_, fin⟩
        · simp (disch := (first | assumption | omega | exact hB _ _ | exact hYB _ _ | (simp only [yc, yd, sh, sv, ne_eq]; omega) | (simp (disch := omega) only [↓nm_1, ↓nm_2, nI_add, pk_mul, pk_sub, Nat.add_sub_cancel, qm1_add, qm2_add, nI_clamp, ni_0, ni_1, ni_3, ni_30, e1, c1, z6]; refine qin_nI ?_ ?_ <;> first | omega | exact hB _ _ | exact hYB _ _) | (refine qin_nI ?_ ?_ <;> omega) | fail)) only [↓kc0_gd, ↓kc0_gI, ↓kc0_gM, ↓kc0_pI, ↓kc0_pM, ↓kc0_pZ, ↓kc0_gF0, ↓kc0_gF4, ↓kc0_gF5, ↓kc0_gF6, ↓kc0_gF7, ↓kc0_gF8, ↓kc0_gF9, ↓kc0_gF10, ↓kc0_gF11, ↓kc0_gF12, ↓kc0_gF14, ↓kc1_al, ↓kc1_as, ↓kc1_ln, ↓kc41_gd, ↓kc41_gI, ↓kc41_gM, ↓kc41_pI, ↓kc41_pM, ↓kc41_pZ, ↓kc41_gF0, ↓kc41_gF1, ↓kc42_ql, ↓kc43_al, ↓kc43_as, ↓kc43_ln, ↓kc148_gd, ↓kc148_gI, ↓kc148_gM, ↓kc148_pI, ↓kc148_pM, ↓kc148_pZ, ↓kc148_gF0, ↓kc148_gF1, ↓kc148_gF2, ↓kc148_gF4, ↓kc148_gF5, ↓kc154_al, ↓kc154_as, ↓kc154_ln, ↓kc155_al, ↓kc155_as, ↓kc155_ln, ↓kc160_gd, ↓kc160_gI, ↓kc160_gM, ↓kc160_pI, ↓kc160_pM, ↓kc160_pZ, ↓kc160_gF0, ↓kc160_gF1, ↓kc161_al, ↓kc161_as, ↓kc161_ln, ↓kc162_gd, ↓kc162_gI, ↓kc162_gM, ↓kc162_pI, ↓kc162_pM, ↓kc162_pZ, ↓kc162_gF0, ↓kc162_gF1, ↓kc163_gd, ↓kc163_gI, ↓kc163_gM, ↓kc163_pI, ↓kc163_pM, ↓kc163_pZ, ↓kc163_gF0, ↓kc164_gd, ↓kc164_gI, ↓kc164_gM, ↓kc164_pI, ↓kc164_pM, ↓kc164_pZ, ↓kc164_gF0, ↓kc164_gF1, ↓kc164_gF2, ↓kc164_gF3, ↓kc165_al, ↓kc165_as, ↓kc165_ln, ↓kc166_al, ↓kc166_as, ↓kc166_ln, ↓kc167_al, ↓kc167_as, ↓kc167_ln, ↓kc168_al, ↓kc168_as, ↓kc168_ln, ↓kc169_gd, ↓kc169_gI, ↓kc169_gM, ↓kc169_pI, ↓kc169_pM, ↓kc169_pZ, ↓kc169_gF0, ↓kc169_gF2, ↓kc170_al, ↓kc170_as, ↓kc170_ln, ↓kc171_gd, ↓kc171_gI, ↓kc171_gM, ↓kc171_pI, ↓kc171_pM, ↓kc171_pZ, ↓kc171_gF5, ↓kc171_gF6, ↓kc171_gF7, ↓kc171_gF8, ↓kc172_al, ↓kc172_as, ↓kc172_ln, ↓kc173_al, ↓kc173_as, ↓kc173_ln, ↓kc174_al, ↓kc174_as, ↓kc174_ln, ↓kc175_al, ↓kc175_as, ↓kc175_ln, ↓kc176_al, ↓kc176_as, ↓kc176_ln, ↓kc177_al, ↓kc177_as, ↓kc177_ln, ↓qb_so, ↓nm_1, ↓nm_2, ↓reduceIte, if_true, if_false, not_true_eq_false, not_false_eq_true, and_true, true_and, and_false, false_and, or_true, true_or, or_false, false_or, eq_self, ne_eq, quI_s, quI_n, quI2, quL1, quL2, quL3, quR1, quR2, quR3, nI_add, pk_mul, pk_sub, Nat.add_sub_cancel, qm1_add, qm2_add, nI_leI, nI_ltI, nI_eq, nI_m1, nI_m1', nI_clamp, nI_bit, nI_one_shl, nI_m1l, nI_m1lt, nI_m1lt', nI_m1le', oI_some, oI_none, ni_0, ni_1, ni_3, ni_30, fX11_order, fX11_order_B17, fX11_order_B22, qle_t, qle_f, qlt_t, qlt_f, qeq_t, qeq_f, e1, c1, z6]
        · simp (disch := (first | assumption | omega | exact hB _ _ | exact hYB _ _ | (simp only [yc, yd, sh, sv, ne_eq]; omega) | (simp (disch := omega) only [↓nm_1, ↓nm_2, nI_add, pk_mul, pk_sub, Nat.add_sub_cancel, qm1_add, qm2_add, nI_clamp, ni_0, ni_1, ni_30, m1, t1]; refine qin_nI ?_ ?_ <;> first | omega | exact hB _ _ | exact hYB _ _) | (refine qin_nI ?_ ?_ <;> omega) | fail)) only [↓km0_gd, ↓km0_gI, ↓km0_gM, ↓km0_pI, ↓km0_pM, ↓km0_pZ, ↓km0_gL, ↓km0_pL, ↓qb_so, ↓nm_1, ↓nm_2, ↓reduceIte, if_true, if_false, not_true_eq_false, not_false_eq_true, and_true, true_and, and_false, false_and, or_true, true_or, or_false, false_or, eq_self, ne_eq, quI_s, quI_n, quI2, quL1, quL2, quL3, quR1, quR2, quR3, nI_add, pk_mul, pk_sub, Nat.add_sub_cancel, qm1_add, qm2_add, nI_leI, nI_ltI, nI_eq, nI_m1, nI_m1', nI_clamp, nI_bit, nI_one_shl, nI_m1l, nI_m1lt, nI_m1lt', nI_m1le', oI_some, oI_none, ni_0, ni_1, ni_30, fX12_order, qle_t, qle_f, qlt_t, qlt_f, qeq_t, qeq_f, m1, t1]
      · rw [r2 j hj rfl] at t1
        have e3 := c_holds_t (s := 3) hb hC.1 hYB (by decide) hj
        have m3 := m_isJob hb hM.1 hI.1 hj
        have zj := z155 j hj
        refine ⟨nI (s_rw (s_oB Y mc wc D i).2 j), Z, T, ?_, ?_, fin⟩
        · simp (disch := (first | assumption | omega | exact hB _ _ | exact hYB _ _ | (simp only [yc, yd, sh, sv, ne_eq]; omega) | (simp (disch := omega) only [↓nm_1, ↓nm_2, nI_add, pk_mul, pk_sub, Nat.add_sub_cancel, qm1_add, qm2_add, nI_clamp, ni_0, ni_1, ni_3, ni_30, hr, e3, e1, c1, zj]; refine qin_nI ?_ ?_ <;> first | omega | exact hB _ _ | exact hYB _ _) | (refine qin_nI ?_ ?_ <;> omega) | fail)) only [↓kc0_gd, ↓kc0_gI, ↓kc0_gM, ↓kc0_pI, ↓kc0_pM, ↓kc0_pZ, ↓kc0_gF0, ↓kc0_gF4, ↓kc0_gF5, ↓kc0_gF6, ↓kc0_gF7, ↓kc0_gF8, ↓kc0_gF9, ↓kc0_gF10, ↓kc0_gF11, ↓kc0_gF12, ↓kc0_gF14, ↓kc1_al, ↓kc1_as, ↓kc1_ln, ↓kc41_gd, ↓kc41_gI, ↓kc41_gM, ↓kc41_pI, ↓kc41_pM, ↓kc41_pZ, ↓kc41_gF0, ↓kc41_gF1, ↓kc42_ql, ↓kc43_al, ↓kc43_as, ↓kc43_ln, ↓kc148_gd, ↓kc148_gI, ↓kc148_gM, ↓kc148_pI, ↓kc148_pM, ↓kc148_pZ, ↓kc148_gF0, ↓kc148_gF1, ↓kc148_gF2, ↓kc148_gF4, ↓kc148_gF5, ↓kc154_al, ↓kc154_as, ↓kc154_ln, ↓kc155_al, ↓kc155_as, ↓kc155_ln, ↓kc160_gd, ↓kc160_gI, ↓kc160_gM, ↓kc160_pI, ↓kc160_pM, ↓kc160_pZ, ↓kc160_gF0, ↓kc160_gF1, ↓kc161_al, ↓kc161_as, ↓kc161_ln, ↓kc162_gd, ↓kc162_gI, ↓kc162_gM, ↓kc162_pI, ↓kc162_pM, ↓kc162_pZ, ↓kc162_gF0, ↓kc162_gF1, ↓kc163_gd, ↓kc163_gI, ↓kc163_gM, ↓kc163_pI, ↓kc163_pM, ↓kc163_pZ, ↓kc163_gF0, ↓kc164_gd, ↓kc164_gI, ↓kc164_gM, ↓kc164_pI, ↓kc164_pM, ↓kc164_pZ, ↓kc164_gF0, ↓kc164_gF1, ↓kc164_gF2, ↓kc164_gF3, ↓kc165_al, ↓kc165_as, ↓kc165_ln, ↓kc166_al, ↓kc166_as, ↓kc166_ln, ↓kc167_al, ↓kc167_as, ↓kc167_ln, ↓kc168_al, ↓kc168_as, ↓kc168_ln, ↓kc169_gd, ↓kc169_gI, ↓kc169_gM, ↓kc169_pI, ↓kc169_pM, ↓kc169_pZ, ↓kc169_gF0, ↓kc169_gF2, ↓kc170_al, ↓kc170_as, ↓kc170_ln, ↓kc171_gd, ↓kc171_gI, ↓kc171_gM, ↓kc171_pI, ↓kc171_pM, ↓kc171_pZ, ↓kc171_gF5, ↓kc171_gF6, ↓kc171_gF7, ↓kc171_gF8, ↓kc172_al, ↓kc172_as, ↓kc172_ln, ↓kc173_al, ↓kc173_as, ↓kc173_ln, ↓kc174_al, ↓kc174_as, ↓kc174_ln, ↓kc175_al, ↓kc175_as, ↓kc175_ln, ↓kc176_al, ↓kc176_as, ↓kc176_ln, ↓kc177_al, ↓kc177_as, ↓kc177_ln, ↓qb_so, ↓nm_1, ↓nm_2, ↓reduceIte, if_true, if_false, not_true_eq_false, not_false_eq_true, and_true, true_and, and_false, false_and, or_true, true_or, or_false, false_or, eq_self, ne_eq, quI_s, quI_n, quI2, quL1, quL2, quL3, quR1, quR2, quR3, nI_add, pk_mul, pk_sub, Nat.add_sub_cancel, qm1_add, qm2_add, nI_leI, nI_ltI, nI_eq, nI_m1, nI_m1', nI_clamp, nI_bit, nI_one_shl, nI_m1l, nI_m1lt, nI_m1lt', nI_m1le', oI_some, oI_none, ni_0, ni_1, ni_3, ni_30, fX11_order, fX11_order_B17, fX11_order_B22, qle_t, qle_f, qlt_t, qlt_f, qeq_t, qeq_f, hr, e3, e1, c1, zj]
        · simp (disch := (first | assumption | omega | exact hB _ _ | exact hYB _ _ | (simp only [yc, yd, sh, sv, ne_eq]; omega) | (simp (disch := omega) only [↓nm_1, ↓nm_2, nI_add, pk_mul, pk_sub, Nat.add_sub_cancel, qm1_add, qm2_add, nI_clamp, ni_0, ni_1, ni_30, m1, m3, t1]; refine qin_nI ?_ ?_ <;> first | omega | exact hB _ _ | exact hYB _ _) | (refine qin_nI ?_ ?_ <;> omega) | fail)) only [↓km0_gd, ↓km0_gI, ↓km0_gM, ↓km0_pI, ↓km0_pM, ↓km0_pZ, ↓km0_gL, ↓km0_pL, ↓qb_so, ↓nm_1, ↓nm_2, ↓reduceIte, if_true, if_false, not_true_eq_false, not_false_eq_true, and_true, true_and, and_false, false_and, or_true, true_or, or_false, false_or, eq_self, ne_eq, quI_s, quI_n, quI2, quL1, quL2, quL3, quR1, quR2, quR3, nI_add, pk_mul, pk_sub, Nat.add_sub_cancel, qm1_add, qm2_add, nI_leI, nI_ltI, nI_eq, nI_m1, nI_m1', nI_clamp, nI_bit, nI_one_shl, nI_m1l, nI_m1lt, nI_m1lt', nI_m1le', oI_some, oI_none, ni_0, ni_1, ni_30, fX12_order, qle_t, qle_f, qlt_t, qlt_f, qeq_t, qeq_f, m1, m3, t1]
    · have e3 := c_holds_f (s := 3) hb hC.1 hYB (by decide) ha3
      have e4 := m_isJob_f hb hM.1 ha3
      refine ⟨qm1, S1, S2, ?_, ?_, h⟩
      · simp (disch := (first | assumption | omega | exact hB _ _ | exact hYB _ _ | (simp only [yc, yd, sh, sv, ne_eq]; omega) | (simp (disch := omega) only [↓nm_1, ↓nm_2, nI_add, pk_mul, pk_sub, Nat.add_sub_cancel, qm1_add, qm2_add, nI_clamp, ni_0, ni_1, ni_3, ni_30, ha2, hr, e3]; refine qin_nI ?_ ?_ <;> first | omega | exact hB _ _ | exact hYB _ _) | (refine qin_nI ?_ ?_ <;> omega) | fail)) only [↓kc0_gd, ↓kc0_gI, ↓kc0_gM, ↓kc0_pI, ↓kc0_pM, ↓kc0_pZ, ↓kc0_gF0, ↓kc0_gF4, ↓kc0_gF5, ↓kc0_gF6, ↓kc0_gF7, ↓kc0_gF8, ↓kc0_gF9, ↓kc0_gF10, ↓kc0_gF11, ↓kc0_gF12, ↓kc0_gF14, ↓kc1_al, ↓kc1_as, ↓kc1_ln, ↓kc41_gd, ↓kc41_gI, ↓kc41_gM, ↓kc41_pI, ↓kc41_pM, ↓kc41_pZ, ↓kc41_gF0, ↓kc41_gF1, ↓kc42_ql, ↓kc43_al, ↓kc43_as, ↓kc43_ln, ↓kc148_gd, ↓kc148_gI, ↓kc148_gM, ↓kc148_pI, ↓kc148_pM, ↓kc148_pZ, ↓kc148_gF0, ↓kc148_gF1, ↓kc148_gF2, ↓kc148_gF4, ↓kc148_gF5, ↓kc154_al, ↓kc154_as, ↓kc154_ln, ↓kc155_al, ↓kc155_as, ↓kc155_ln, ↓kc160_gd, ↓kc160_gI, ↓kc160_gM, ↓kc160_pI, ↓kc160_pM, ↓kc160_pZ, ↓kc160_gF0, ↓kc160_gF1, ↓kc161_al, ↓kc161_as, ↓kc161_ln, ↓kc162_gd, ↓kc162_gI, ↓kc162_gM, ↓kc162_pI, ↓kc162_pM, ↓kc162_pZ, ↓kc162_gF0, ↓kc162_gF1, ↓kc163_gd, ↓kc163_gI, ↓kc163_gM, ↓kc163_pI, ↓kc163_pM, ↓kc163_pZ, ↓kc163_gF0, ↓kc164_gd, ↓kc164_gI, ↓kc164_gM, ↓kc164_pI, ↓kc164_pM, ↓kc164_pZ, ↓kc164_gF0, ↓kc164_gF1, ↓kc164_gF2, ↓kc164_gF3, ↓kc165_al, ↓kc165_as, ↓kc165_ln, ↓kc166_al, ↓kc166_as, ↓kc166_ln, ↓kc167_al, ↓kc167_as, ↓kc167_ln, ↓kc168_al, ↓kc168_as, ↓kc168_ln, ↓kc169_gd, ↓kc169_gI, ↓kc169_gM, ↓kc169_pI, ↓kc169_pM, ↓kc169_pZ, ↓kc169_gF0, ↓kc169_gF2, ↓kc170_al, ↓kc170_as, ↓kc170_ln, ↓kc171_gd, ↓kc171_gI, ↓kc171_gM, ↓kc171_pI, ↓kc171_pM, ↓kc171_pZ, ↓kc171_gF5, ↓kc171_gF6, ↓kc171_gF7, ↓kc171_gF8, ↓kc172_al, ↓kc172_as, ↓kc172_ln, ↓kc173_al, ↓kc173_as, ↓kc173_ln, ↓kc174_al, ↓kc174_as, ↓kc174_ln, ↓kc175_al, ↓kc175_as, ↓kc175_ln, ↓kc176_al, ↓kc176_as, ↓kc176_ln, ↓kc177_al, ↓kc177_as, ↓kc177_ln, ↓qb_so, ↓nm_1, ↓nm_2, ↓reduceIte, if_true, if_false, not_true_eq_false, not_false_eq_true, and_true, true_and, and_false, false_and, or_true, true_or, or_false, false_or, eq_self, ne_eq, quI_s, quI_n, quI2, quL1, quL2, quL3, quR1, quR2, quR3, nI_add, pk_mul, pk_sub, Nat.add_sub_cancel, qm1_add, qm2_add, nI_leI, nI_ltI, nI_eq, nI_m1, nI_m1', nI_clamp, nI_bit, nI_one_shl, nI_m1l, nI_m1lt, nI_m1lt', nI_m1le', oI_some, oI_none, ni_0, ni_1, ni_3, ni_30, fX11_order, fX11_order_B22, qle_t, qle_f, qlt_t, qlt_f, qeq_t, qeq_f, ha2, hr, e3]
      · simp (disch := (first | assumption | omega | exact hB _ _ | exact hYB _ _ | (simp only [yc, yd, sh, sv, ne_eq]; omega) | (simp (disch := omega) only [↓nm_1, ↓nm_2, nI_add, pk_mul, pk_sub, Nat.add_sub_cancel, qm1_add, qm2_add, nI_clamp, ni_0, ni_1, ni_30, m1, ha2, e4]; refine qin_nI ?_ ?_ <;> first | omega | exact hB _ _ | exact hYB _ _) | (refine qin_nI ?_ ?_ <;> omega) | fail)) only [↓km0_gd, ↓km0_gI, ↓km0_gM, ↓km0_pI, ↓km0_pM, ↓km0_pZ, ↓km0_gL, ↓km0_pL, ↓qb_so, ↓nm_1, ↓nm_2, ↓reduceIte, if_true, if_false, not_true_eq_false, not_false_eq_true, and_true, true_and, and_false, false_and, or_true, true_or, or_false, false_or, eq_self, ne_eq, quI_s, quI_n, quI2, quL1, quL2, quL3, quR1, quR2, quR3, nI_add, pk_mul, pk_sub, Nat.add_sub_cancel, qm1_add, qm2_add, nI_leI, nI_ltI, nI_eq, nI_m1, nI_m1', nI_clamp, nI_bit, nI_one_shl, nI_m1l, nI_m1lt, nI_m1lt', nI_m1le', oI_some, oI_none, ni_0, ni_1, ni_30, fX12_order, qle_t, qle_f, qlt_t, qlt_f, qeq_t, qeq_f, m1, ha2, e4]
  · have m1 : fX12_isAhead 0 a (nI 1) (nI 30) S2 = some (nI 0) := by
      rcases hx with hx | ⟨i, hi1, hi2, hi3, rfl⟩
      · exact m_can0 hx
      · exact m_can9 hM.2.2.1 hi1 hi2 (by decide) hi3 h99
    refine ⟨qm1, S1, S2, ?_, ?_, h⟩
    · rcases ask with (rfl | ⟨j, hj, rfl⟩) | ⟨ha2, ha3⟩
      · simp (disch := (first | assumption | omega | exact hB _ _ | exact hYB _ _ | (simp only [yc, yd, sh, sv, ne_eq]; omega) | (simp (disch := omega) only [↓nm_1, ↓nm_2, nI_add, pk_mul, pk_sub, Nat.add_sub_cancel, qm1_add, qm2_add, nI_clamp, ni_0, ni_1, ni_3, ni_30, e1]; refine qin_nI ?_ ?_ <;> first | omega | exact hB _ _ | exact hYB _ _) | (refine qin_nI ?_ ?_ <;> omega) | fail)) only [↓kc0_gd, ↓kc0_gI, ↓kc0_gM, ↓kc0_pI, ↓kc0_pM, ↓kc0_pZ, ↓kc0_gF0, ↓kc0_gF4, ↓kc0_gF5, ↓kc0_gF6, ↓kc0_gF7, ↓kc0_gF8, ↓kc0_gF9, ↓kc0_gF10, ↓kc0_gF11, ↓kc0_gF12, ↓kc0_gF14, ↓kc1_al, ↓kc1_as, ↓kc1_ln, ↓kc41_gd, ↓kc41_gI, ↓kc41_gM, ↓kc41_pI, ↓kc41_pM, ↓kc41_pZ, ↓kc41_gF0, ↓kc41_gF1, ↓kc42_ql, ↓kc43_al, ↓kc43_as, ↓kc43_ln, ↓kc148_gd, ↓kc148_gI, ↓kc148_gM, ↓kc148_pI, ↓kc148_pM, ↓kc148_pZ, ↓kc148_gF0, ↓kc148_gF1, ↓kc148_gF2, ↓kc148_gF4, ↓kc148_gF5, ↓kc154_al, ↓kc154_as, ↓kc154_ln, ↓kc155_al, ↓kc155_as, ↓kc155_ln, ↓kc160_gd, ↓kc160_gI, ↓kc160_gM, ↓kc160_pI, ↓kc160_pM, ↓kc160_pZ, ↓kc160_gF0, ↓kc160_gF1, ↓kc161_al, ↓kc161_as, ↓kc161_ln, ↓kc162_gd, ↓kc162_gI, ↓kc162_gM, ↓kc162_pI, ↓kc162_pM, ↓kc162_pZ, ↓kc162_gF0, ↓kc162_gF1, ↓kc163_gd, ↓kc163_gI, ↓kc163_gM, ↓kc163_pI, ↓kc163_pM, ↓kc163_pZ, ↓kc163_gF0, ↓kc164_gd, ↓kc164_gI, ↓kc164_gM, ↓kc164_pI, ↓kc164_pM, ↓kc164_pZ, ↓kc164_gF0, ↓kc164_gF1, ↓kc164_gF2, ↓kc164_gF3, ↓kc165_al, ↓kc165_as, ↓kc165_ln, ↓kc166_al, ↓kc166_as, ↓kc166_ln, ↓kc167_al, ↓kc167_as, ↓kc167_ln, ↓kc168_al, ↓kc168_as, ↓kc168_ln, ↓kc169_gd, ↓kc169_gI, ↓kc169_gM, ↓kc169_pI, ↓kc169_pM, ↓kc169_pZ, ↓kc169_gF0, ↓kc169_gF2, ↓kc170_al, ↓kc170_as, ↓kc170_ln, ↓kc171_gd, ↓kc171_gI, ↓kc171_gM, ↓kc171_pI, ↓kc171_pM, ↓kc171_pZ, ↓kc171_gF5, ↓kc171_gF6, ↓kc171_gF7, ↓kc171_gF8, ↓kc172_al, ↓kc172_as, ↓kc172_ln, ↓kc173_al, ↓kc173_as, ↓kc173_ln, ↓kc174_al, ↓kc174_as, ↓kc174_ln, ↓kc175_al, ↓kc175_as, ↓kc175_ln, ↓kc176_al, ↓kc176_as, ↓kc176_ln, ↓kc177_al, ↓kc177_as, ↓kc177_ln, ↓qb_so, ↓nm_1, ↓nm_2, ↓reduceIte, if_true, if_false, not_true_eq_false, not_false_eq_true, and_true, true_and, and_false, false_and, or_true, true_or, or_false, false_or, eq_self, ne_eq, quI_s, quI_n, quI2, quL1, quL2, quL3, quR1, quR2, quR3, nI_add, pk_mul, pk_sub, Nat.add_sub_cancel, qm1_add, qm2_add, nI_leI, nI_ltI, nI_eq, nI_m1, nI_m1', nI_clamp, nI_bit, nI_one_shl, nI_m1l, nI_m1lt, nI_m1lt', nI_m1le', oI_some, oI_none, ni_0, ni_1, ni_3, ni_30, fX11_order, fX11_order_B17, fX11_order_B22, qle_t, qle_f, qlt_t, qlt_f, qeq_t, qeq_f, e1]
      · have e3 := c_holds_t (s := 3) hb hC.1 hYB (by decide) hj
        simp (disch := (first | assumption | omega | exact hB _ _ | exact hYB _ _ | (simp only [yc, yd, sh, sv, ne_eq]; omega) | (simp (disch := omega) only [↓nm_1, ↓nm_2, nI_add, pk_mul, pk_sub, Nat.add_sub_cancel, qm1_add, qm2_add, nI_clamp, ni_0, ni_1, ni_3, ni_30, hr, e3, e1]; refine qin_nI ?_ ?_ <;> first | omega | exact hB _ _ | exact hYB _ _) | (refine qin_nI ?_ ?_ <;> omega) | fail)) only [↓kc0_gd, ↓kc0_gI, ↓kc0_gM, ↓kc0_pI, ↓kc0_pM, ↓kc0_pZ, ↓kc0_gF0, ↓kc0_gF4, ↓kc0_gF5, ↓kc0_gF6, ↓kc0_gF7, ↓kc0_gF8, ↓kc0_gF9, ↓kc0_gF10, ↓kc0_gF11, ↓kc0_gF12, ↓kc0_gF14, ↓kc1_al, ↓kc1_as, ↓kc1_ln, ↓kc41_gd, ↓kc41_gI, ↓kc41_gM, ↓kc41_pI, ↓kc41_pM, ↓kc41_pZ, ↓kc41_gF0, ↓kc41_gF1, ↓kc42_ql, ↓kc43_al, ↓kc43_as, ↓kc43_ln, ↓kc148_gd, ↓kc148_gI, ↓kc148_gM, ↓kc148_pI, ↓kc148_pM, ↓kc148_pZ, ↓kc148_gF0, ↓kc148_gF1, ↓kc148_gF2, ↓kc148_gF4, ↓kc148_gF5, ↓kc154_al, ↓kc154_as, ↓kc154_ln, ↓kc155_al, ↓kc155_as, ↓kc155_ln, ↓kc160_gd, ↓kc160_gI, ↓kc160_gM, ↓kc160_pI, ↓kc160_pM, ↓kc160_pZ, ↓kc160_gF0, ↓kc160_gF1, ↓kc161_al, ↓kc161_as, ↓kc161_ln, ↓kc162_gd, ↓kc162_gI, ↓kc162_gM, ↓kc162_pI, ↓kc162_pM, ↓kc162_pZ, ↓kc162_gF0, ↓kc162_gF1, ↓kc163_gd, ↓kc163_gI, ↓kc163_gM, ↓kc163_pI, ↓kc163_pM, ↓kc163_pZ, ↓kc163_gF0, ↓kc164_gd, ↓kc164_gI, ↓kc164_gM, ↓kc164_pI, ↓kc164_pM, ↓kc164_pZ, ↓kc164_gF0, ↓kc164_gF1, ↓kc164_gF2, ↓kc164_gF3, ↓kc165_al, ↓kc165_as, ↓kc165_ln, ↓kc166_al, ↓kc166_as, ↓kc166_ln, ↓kc167_al, ↓kc167_as, ↓kc167_ln, ↓kc168_al, ↓kc168_as, ↓kc168_ln, ↓kc169_gd, ↓kc169_gI, ↓kc169_gM, ↓kc169_pI, ↓kc169_pM, ↓kc169_pZ, ↓kc169_gF0, ↓kc169_gF2, ↓kc170_al, ↓kc170_as, ↓kc170_ln, ↓kc171_gd, ↓kc171_gI, ↓kc171_gM, ↓kc171_pI, ↓kc171_pM, ↓kc171_pZ, ↓kc171_gF5, ↓kc171_gF6, ↓kc171_gF7, ↓kc171_gF8, ↓kc172_al, ↓kc172_as, ↓kc172_ln, ↓kc173_al, ↓kc173_as, ↓kc173_ln, ↓kc174_al, ↓kc174_as, ↓kc174_ln, ↓kc175_al, ↓kc175_as, ↓kc175_ln, ↓kc176_al, ↓kc176_as, ↓kc176_ln, ↓kc177_al, ↓kc177_as, ↓kc177_ln, ↓qb_so, ↓nm_1, ↓nm_2, ↓reduceIte, if_true, if_false, not_true_eq_false, not_false_eq_true, and_true, true_and, and_false, false_and, or_true, true_or, or_false, false_or, eq_self, ne_eq, quI_s, quI_n, quI2, quL1, quL2, quL3, quR1, quR2, quR3, nI_add, pk_mul, pk_sub, Nat.add_sub_cancel, qm1_add, qm2_add, nI_leI, nI_ltI, nI_eq, nI_m1, nI_m1', nI_clamp, nI_bit, nI_one_shl, nI_m1l, nI_m1lt, nI_m1lt', nI_m1le', oI_some, oI_none, ni_0, ni_1, ni_3, ni_30, fX11_order, fX11_order_B17, fX11_order_B22, qle_t, qle_f, qlt_t, qlt_f, qeq_t, qeq_f, hr, e3, e1]
      · have e3 := c_holds_f (s := 3) hb hC.1 hYB (by decide) ha3
        simp (disch := (first | assumption | omega | exact hB _ _ | exact hYB _ _ | (simp only [yc, yd, sh, sv, ne_eq]; omega) | (simp (disch := omega) only [↓nm_1, ↓nm_2, nI_add, pk_mul, pk_sub, Nat.add_sub_cancel, qm1_add, qm2_add, nI_clamp, ni_0, ni_1, ni_3, ni_30, ha2, hr, e3]; refine qin_nI ?_ ?_ <;> first | omega | exact hB _ _ | exact hYB _ _) | (refine qin_nI ?_ ?_ <;> omega) | fail)) only [↓kc0_gd, ↓kc0_gI, ↓kc0_gM, ↓kc0_pI, ↓kc0_pM, ↓kc0_pZ, ↓kc0_gF0, ↓kc0_gF4, ↓kc0_gF5, ↓kc0_gF6, ↓kc0_gF7, ↓kc0_gF8, ↓kc0_gF9, ↓kc0_gF10, ↓kc0_gF11, ↓kc0_gF12, ↓kc0_gF14, ↓kc1_al, ↓kc1_as, ↓kc1_ln, ↓kc41_gd, ↓kc41_gI, ↓kc41_gM, ↓kc41_pI, ↓kc41_pM, ↓kc41_pZ, ↓kc41_gF0, ↓kc41_gF1, ↓kc42_ql, ↓kc43_al, ↓kc43_as, ↓kc43_ln, ↓kc148_gd, ↓kc148_gI, ↓kc148_gM, ↓kc148_pI, ↓kc148_pM, ↓kc148_pZ, ↓kc148_gF0, ↓kc148_gF1, ↓kc148_gF2, ↓kc148_gF4, ↓kc148_gF5, ↓kc154_al, ↓kc154_as, ↓kc154_ln, ↓kc155_al, ↓kc155_as, ↓kc155_ln, ↓kc160_gd, ↓kc160_gI, ↓kc160_gM, ↓kc160_pI, ↓kc160_pM, ↓kc160_pZ, ↓kc160_gF0, ↓kc160_gF1, ↓kc161_al, ↓kc161_as, ↓kc161_ln, ↓kc162_gd, ↓kc162_gI, ↓kc162_gM, ↓kc162_pI, ↓kc162_pM, ↓kc162_pZ, ↓kc162_gF0, ↓kc162_gF1, ↓kc163_gd, ↓kc163_gI, ↓kc163_gM, ↓kc163_pI, ↓kc163_pM, ↓kc163_pZ, ↓kc163_gF0, ↓kc164_gd, ↓kc164_gI, ↓kc164_gM, ↓kc164_pI, ↓kc164_pM, ↓kc164_pZ, ↓kc164_gF0, ↓kc164_gF1, ↓kc164_gF2, ↓kc164_gF3, ↓kc165_al, ↓kc165_as, ↓kc165_ln, ↓kc166_al, ↓kc166_as, ↓kc166_ln, ↓kc167_al, ↓kc167_as, ↓kc167_ln, ↓kc168_al, ↓kc168_as, ↓kc168_ln, ↓kc169_gd, ↓kc169_gI, ↓kc169_gM, ↓kc169_pI, ↓kc169_pM, ↓kc169_pZ, ↓kc169_gF0, ↓kc169_gF2, ↓kc170_al, ↓kc170_as, ↓kc170_ln, ↓kc171_gd, ↓kc171_gI, ↓kc171_gM, ↓kc171_pI, ↓kc171_pM, ↓kc171_pZ, ↓kc171_gF5, ↓kc171_gF6, ↓kc171_gF7, ↓kc171_gF8, ↓kc172_al, ↓kc172_as, ↓kc172_ln, ↓kc173_al, ↓kc173_as, ↓kc173_ln, ↓kc174_al, ↓kc174_as, ↓kc174_ln, ↓kc175_al, ↓kc175_as, ↓kc175_ln, ↓kc176_al, ↓kc176_as, ↓kc176_ln, ↓kc177_al, ↓kc177_as, ↓kc177_ln, ↓qb_so, ↓nm_1, ↓nm_2, ↓reduceIte, if_true, if_false, not_true_eq_false, not_false_eq_true, and_true, true_and, and_false, false_and, or_true, true_or, or_false, false_or, eq_self, ne_eq, quI_s, quI_n, quI2, quL1, quL2, quL3, quR1, quR2, quR3, nI_add, pk_mul, pk_sub, Nat.add_sub_cancel, qm1_add, qm2_add, nI_leI, nI_ltI, nI_eq, nI_m1, nI_m1', nI_clamp, nI_bit, nI_one_shl, nI_m1l, nI_m1lt, nI_m1lt', nI_m1le', oI_some, oI_none, ni_0, ni_1, ni_3, ni_30, fX11_order, fX11_order_B22, qle_t, qle_f, qlt_t, qlt_f, qeq_t, qeq_f, ha2, hr, e3]
    · simp (disch := (first | assumption | omega | exact hB _ _ | exact hYB _ _ | (simp only [yc, yd, sh, sv, ne_eq]; omega) | (simp (disch := omega) only [↓nm_1, ↓nm_2, nI_add, pk_mul, pk_sub, Nat.add_sub_cancel, qm1_add, qm2_add, nI_clamp, ni_0, ni_1, ni_30, m1]; refine qin_nI ?_ ?_ <;> first | omega | exact hB _ _ | exact hYB _ _) | (refine qin_nI ?_ ?_ <;> omega) | fail)) only [↓km0_gd, ↓km0_gI, ↓km0_gM, ↓km0_pI, ↓km0_pM, ↓km0_pZ, ↓km0_gL, ↓km0_pL, ↓qb_so, ↓nm_1, ↓nm_2, ↓reduceIte, if_true, if_false, not_true_eq_false, not_false_eq_true, and_true, true_and, and_false, false_and, or_true, true_or, or_false, false_or, eq_self, ne_eq, quI_s, quI_n, quI2, quL1, quL2, quL3, quR1, quR2, quR3, nI_add, pk_mul, pk_sub, Nat.add_sub_cancel, qm1_add, qm2_add, nI_leI, nI_ltI, nI_eq, nI_m1, nI_m1', nI_clamp, nI_bit, nI_one_shl, nI_m1l, nI_m1lt, nI_m1lt', nI_m1le', oI_some, oI_none, ni_0, ni_1, ni_30, fX12_order, qle_t, qle_f, qlt_t, qlt_f, qeq_t, qeq_f, m1]
end Q87

