def s_nxL (p E : Nat → Nat) (at' : Nat) : Nat → Nat → Nat
  | 0, a => a
  | k + 1, a => if p (6 * a + at') ≠ 0 ∧ 8 * p (6 * a + at') + 1 + E a = E at' then a else s_nxL p E at' k (a + 1)
def s_nx (p E : Nat → Nat) (n at' : Nat) : Nat := s_nxL p E at' n 0
def s_wk (p E : Nat → Nat) (n : Nat) : Nat → Nat → Nat
  | 0, x => x
  | r + 1, x => s_wk p E n r (s_nx p E n x)
/-- the ways at the end -/
def wF (p : Nat → Nat) (n l : Nat) (E : Nat → Nat) : Prop := wB p n l E ∧ ∀ k, k < n → k ≠ l → E k < 1000000 → ∃ a, a < n ∧ p (6 * a + k) ≠ 0 ∧ 8 * p (6 * a + k) + 1 + E a = E k
section Q74
variable {S T Z V : xSt} {b n a s l x : Nat} {Y D U : Nat → Nat → Nat} {p E : Nat → Nat} {mc wc : List (Nat × Nat)} {R row : Nat → Nat} {P : Nat → Nat → Nat → Nat} {G G' : Nat → Nat → Nat}
theorem m_rB (hb : b < 2) (hY : yrOk Y) (hn : 2000 ≤ n) (hl : l < Y 2 0) (a2 : Int32) : ∀ (k sd q : Nat) (E : Nat → Nat) (S : xSt), sd + k = Y 2 0 → k < q → wB (Y 12) (Y 2 0) l E → mY S b Y mc wc → mE S E →
    ∃ Z, fX12_findsMakeshifts_L49 n 0 a2 q (nI sd) S = some Z ∧ mE Z (s_rB (Y 12) (Y 2 0) k sd E) ∧ mFq eQ S Z ∧ wB (Y 12) (Y 2 0) l (s_rB (Y 12) (Y 2 0) k sd E)
  | 0, sd, q, E, S, hk, hq, hE, hm, hp => by
    obtain ⟨q, rfl⟩ : ∃ q', q = q' + 1 := ⟨q - 1, by omega⟩
    have h6 : Y 2 0 ≤ 6 := hY.1.1
    have mb := hm.1
    have m1 := hm.2.1.1
    refine ⟨S, ?_, hp, mFq_refl, hE⟩
    show fX12_findsMakeshifts_L49b _ _ _ _ _ _ = _
    simp (disch := (first | assumption | omega | exact hB _ _ | exact hYB _ _ | (simp only [yc, yd, sh, sv, ne_eq]; omega) | (simp (disch := omega) only [↓nm_1, ↓nm_2, nI_add, pk_mul, pk_sub, Nat.add_sub_cancel, qm1_add, qm2_add, nI_clamp, ni_0, ni_1, mb, m1]; refine qin_nI ?_ ?_ <;> first | omega | exact hB _ _ | exact hYB _ _) | (refine qin_nI ?_ ?_ <;> omega) | fail)) only [↓km0_gd, ↓km0_gI, ↓km0_gM, ↓km0_pI, ↓km0_pM, ↓km0_pZ, ↓km0_gL, ↓km0_pL, ↓km0_gF14, ↓km2_al, ↓km2_as, ↓km2_ln, ↓qb_so, ↓nm_1, ↓nm_2, ↓reduceIte, if_true, if_false, not_true_eq_false, not_false_eq_true, and_true, true_and, and_false, false_and, or_true, true_or, or_false, false_or, eq_self, ne_eq, quI_s, quI_n, quI2, quL1, quL2, quL3, quR1, quR2, quR3, nI_add, pk_mul, pk_sub, Nat.add_sub_cancel, qm1_add, qm2_add, nI_leI, nI_ltI, nI_eq, nI_m1, nI_m1', nI_clamp, nI_bit, nI_one_shl, nI_m1l, nI_m1lt, nI_m1lt', nI_m1le', oI_some, oI_none, ni_0, ni_1, fX12_findsMakeshifts_L49b, qle_t, qle_f, qlt_t, qlt_f, qeq_t, qeq_f, mb, m1]
  | k + 1, sd, q, E, S, hk, hq, hE, hm, hp => by
    obtain ⟨q, rfl⟩ : ∃ q', q = q' + 1 := ⟨q - 1, by omega⟩
    have h6 : Y 2 0 ≤ 6 := hY.1.1
    have mb := hm.1
    have m1 := hm.2.1.1
    obtain ⟨Z1, e2, p2, f2, b2⟩ := m_rA (n := n) (sd := sd) hb hY (by omega) hl a2 (Y 2 0) 0 n E S (by omega) (by omega) hE hm hp
    obtain ⟨Z, e3, p3, f3, b3⟩ := m_rB hb hY hn hl a2 k (sd + 1) q _ Z1 (by omega) (by omega) b2 (mY_fr f2 (fun k j a1 a2 => by unfold eQ; omega) (by unfold eQ; omega) hm) p2
    refine ⟨Z, ?_, p3, mFq_trans f2 f3, b3⟩
    show fX12_findsMakeshifts_L49b _ _ _ _ _ _ = _
    simp (disch := (first | assumption | omega | exact hB _ _ | exact hYB _ _ | (simp only [yc, yd, sh, sv, ne_eq]; omega) | (simp (disch := omega) only [↓nm_1, ↓nm_2, nI_add, pk_mul, pk_sub, Nat.add_sub_cancel, qm1_add, qm2_add, nI_clamp, ni_0, ni_1, mb, m1, e2, e3]; refine qin_nI ?_ ?_ <;> first | omega | exact hB _ _ | exact hYB _ _) | (refine qin_nI ?_ ?_ <;> omega) | fail)) only [↓km0_gd, ↓km0_gI, ↓km0_gM, ↓km0_pI, ↓km0_pM, ↓km0_pZ, ↓km0_gL, ↓km0_pL, ↓km0_gF14, ↓km2_al, ↓km2_as, ↓km2_ln, ↓qb_so, ↓nm_1, ↓nm_2, ↓reduceIte, if_true, if_false, not_true_eq_false, not_false_eq_true, and_true, true_and, and_false, false_and, or_true, true_or, or_false, false_or, eq_self, ne_eq, quI_s, quI_n, quI2, quL1, quL2, quL3, quR1, quR2, quR3, nI_add, pk_mul, pk_sub, Nat.add_sub_cancel, qm1_add, qm2_add, nI_leI, nI_ltI, nI_eq, nI_m1, nI_m1', nI_clamp, nI_bit, nI_one_shl, nI_m1l, nI_m1lt, nI_m1lt', nI_m1le', oI_some, oI_none, ni_0, ni_1, fX12_findsMakeshifts_L49b, qle_t, qle_f, qlt_t, qlt_f, qeq_t, qeq_f, mb, m1, e2, e3]
theorem m_rN (hb : b < 2) (hY : yrOk Y) (hn : 2000 ≤ n) (hl : l < Y 2 0) : ∀ (k i q : Nat) (E : Nat → Nat) (S : xSt), i + k = 6 → k < q → wB (Y 12) (Y 2 0) l E → mY S b Y mc wc → mE S E →
    ∃ Z, fX12_findsMakeshifts_L41 n 0 q (nI i) S = some Z ∧ mE Z (s_rN (Y 12) (Y 2 0) k E) ∧ mFq eQ S Z
  | 0, i, q, E, S, hk, hq, hE, hm, hp => by
    obtain ⟨q, rfl⟩ : ∃ q', q = q' + 1 := ⟨q - 1, by omega⟩
    refine ⟨S, ?_, hp, mFq_refl⟩
    show fX12_findsMakeshifts_L41b _ _ _ _ _ = _
    simp (disch := (first | assumption | omega | exact hB _ _ | exact hYB _ _ | (simp only [yc, yd, sh, sv, ne_eq]; omega) | (simp (disch := omega) only [↓nm_1, ↓nm_2, nI_add, pk_mul, pk_sub, Nat.add_sub_cancel, qm1_add, qm2_add, nI_clamp, ni_0, ni_1, ni_6]; refine qin_nI ?_ ?_ <;> first | omega | exact hB _ _ | exact hYB _ _) | (refine qin_nI ?_ ?_ <;> omega) | fail)) only [↓km0_gd, ↓km0_gI, ↓km0_gM, ↓km0_pI, ↓km0_pM, ↓km0_pZ, ↓km0_gL, ↓km0_pL, ↓qb_so, ↓nm_1, ↓nm_2, ↓reduceIte, if_true, if_false, not_true_eq_false, not_false_eq_true, and_true, true_and, and_false, false_and, or_true, true_or, or_false, false_or, eq_self, ne_eq, quI_s, quI_n, quI2, quL1, quL2, quL3, quR1, quR2, quR3, nI_add, pk_mul, pk_sub, Nat.add_sub_cancel, qm1_add, qm2_add, nI_leI, nI_ltI, nI_eq, nI_m1, nI_m1', nI_clamp, nI_bit, nI_one_shl, nI_m1l, nI_m1lt, nI_m1lt', nI_m1le', oI_some, oI_none, ni_0, ni_1, ni_6, fX12_findsMakeshifts_L41b, qle_t, qle_f, qlt_t, qlt_f, qeq_t, qeq_f]
  | k + 1, i, q, E, S, hk, hq, hE, hm, hp => by
    obtain ⟨q, rfl⟩ : ∃ q', q = q' + 1 := ⟨q - 1, by omega⟩
    have h6 : Y 2 0 ≤ 6 := hY.1.1
    obtain ⟨Z1, e2, p2, f2, b2⟩ := m_rB (n := n) hb hY hn hl (nI i) (Y 2 0) 0 n E S (by omega) (by omega) hE hm hp
    obtain ⟨Z, e3, p3, f3⟩ := m_rN hb hY hn hl k (i + 1) q _ Z1 (by omega) (by omega) b2 (mY_fr f2 (fun k j a1 a2 => by unfold eQ; omega) (by unfold eQ; omega) hm) p2
    refine ⟨Z, ?_, p3, mFq_trans f2 f3⟩
    show fX12_findsMakeshifts_L41b _ _ _ _ _ = _
    simp (disch := (first | assumption | omega | exact hB _ _ | exact hYB _ _ | (simp only [yc, yd, sh, sv, ne_eq]; omega) | (simp (disch := omega) only [↓nm_1, ↓nm_2, nI_add, pk_mul, pk_sub, Nat.add_sub_cancel, qm1_add, qm2_add, nI_clamp, ni_0, ni_1, ni_6, e2, e3]; refine qin_nI ?_ ?_ <;> first | omega | exact hB _ _ | exact hYB _ _) | (refine qin_nI ?_ ?_ <;> omega) | fail)) only [↓km0_gd, ↓km0_gI, ↓km0_gM, ↓km0_pI, ↓km0_pM, ↓km0_pZ, ↓km0_gL, ↓km0_pL, ↓qb_so, ↓nm_1, ↓nm_2, ↓reduceIte, if_true, if_false, not_true_eq_false, not_false_eq_true, and_true, true_and, and_false, false_and, or_true, true_or, or_false, false_or, eq_self, ne_eq, quI_s, quI_n, quI2, quL1, quL2, quL3, quR1, quR2, quR3, nI_add, pk_mul, pk_sub, Nat.add_sub_cancel, qm1_add, qm2_add, nI_leI, nI_ltI, nI_eq, nI_m1, nI_m1', nI_clamp, nI_bit, nI_one_shl, nI_m1l, nI_m1lt, nI_m1lt', nI_m1le', oI_some, oI_none, ni_0, ni_1, ni_6, fX12_findsMakeshifts_L41b, qle_t, qle_f, qlt_t, qlt_f, qeq_t, qeq_f, e2, e3]
theorem m_E0 {l : Nat} (hl : l < 6) : ∀ (k i q : Nat) (S : xSt), i + k = 6 → k < q → (∀ x, x < i → S.1 48 x = nI (cFx (s_E0 l x)) ∧ S.1 49 x = nI (s_E0 l x % 8)) → ∃ Z, fX12_findsMakeshifts_L2 n 0 (nI l) q (nI i) S = some Z ∧ mE Z (s_E0 l) ∧ mFq eQ S Z
  | 0, i, q, S, hk, hq, h => by
    obtain ⟨q, rfl⟩ : ∃ q', q = q' + 1 := ⟨q - 1, by omega⟩
    refine ⟨S, ?_, fun x hx => h x (by omega), mFq_refl⟩
    show fX12_findsMakeshifts_L2b _ _ _ _ _ _ = _
    simp (disch := (first | assumption | omega | exact hB _ _ | exact hYB _ _ | (simp only [yc, yd, sh, sv, ne_eq]; omega) | (simp (disch := omega) only [↓nm_1, ↓nm_2, nI_add, pk_mul, pk_sub, Nat.add_sub_cancel, qm1_add, qm2_add, nI_clamp, ni_0, ni_1, ni_6, ni_100000000]; refine qin_nI ?_ ?_ <;> first | omega | exact hB _ _ | exact hYB _ _) | (refine qin_nI ?_ ?_ <;> omega) | fail)) only [↓km0_gd, ↓km0_gI, ↓km0_gM, ↓km0_pI, ↓km0_pM, ↓km0_pZ, ↓km0_gL, ↓km0_pL, ↓km0_gF77, ↓km0_gF78, ↓km48_al, ↓km48_as, ↓km48_ln, ↓km49_al, ↓km49_as, ↓km49_ln, ↓qb_so, ↓nm_1, ↓nm_2, ↓reduceIte, if_true, if_false, not_true_eq_false, not_false_eq_true, and_true, true_and, and_false, false_and, or_true, true_or, or_false, false_or, eq_self, ne_eq, quI_s, quI_n, quI2, quL1, quL2, quL3, quR1, quR2, quR3, nI_add, pk_mul, pk_sub, Nat.add_sub_cancel, qm1_add, qm2_add, nI_leI, nI_ltI, nI_eq, nI_m1, nI_m1', nI_clamp, nI_bit, nI_one_shl, nI_m1l, nI_m1lt, nI_m1lt', nI_m1le', oI_some, oI_none, ni_0, ni_1, ni_6, ni_100000000, fX12_findsMakeshifts_L2b, qle_t, qle_f, qlt_t, qlt_f, qeq_t, qeq_f]
  | k + 1, i, q, S, hk, hq, h => by
    obtain ⟨q, rfl⟩ : ∃ q', q = q' + 1 := ⟨q - 1, by omega⟩
    have f1 : mFq eQ S (xuI (xuI S 48 i (nI (cFx (s_E0 l i)))) 49 i (nI 0)) := mFq_trans (mFq_upd (by unfold eQ; omega)) (mFq_upd (by unfold eQ; omega))
    obtain ⟨Z, e1, p1, f2⟩ := m_E0 hl k (i + 1) q (xuI (xuI S 48 i (nI (cFx (s_E0 l i)))) 49 i (nI 0)) (by omega) (by omega) (fun x hx => by
      by_cases e : x = i
      · subst e
        refine ⟨by rw [quI_n (by decide), quI_e], ?_⟩
        rw [quI_e]
        unfold s_E0
        split <;> rfl
      · exact ⟨by rw [quI_n (by decide), quI_k (by omega)]; exact (h x (by omega)).1, by rw [quI_k (by omega), quI_n (by decide)]; exact (h x (by omega)).2⟩)
    refine ⟨Z, ?_, p1, mFq_trans f1 f2⟩
    show fX12_findsMakeshifts_L2b _ _ _ _ _ _ = _
    by_cases e : i = l
    · have ee : cFx (s_E0 l i) = 0 := by unfold s_E0; rw [if_pos e]; rfl
      rw [ee] at e1
      simp (disch := (first | assumption | omega | exact hB _ _ | exact hYB _ _ | (simp only [yc, yd, sh, sv, ne_eq]; omega) | (simp (disch := omega) only [↓nm_1, ↓nm_2, nI_add, pk_mul, pk_sub, Nat.add_sub_cancel, qm1_add, qm2_add, nI_clamp, ni_0, ni_1, ni_6, ni_100000000, e, ↓e1]; refine qin_nI ?_ ?_ <;> first | omega | exact hB _ _ | exact hYB _ _) | (refine qin_nI ?_ ?_ <;> omega) | fail)) only [↓km0_gd, ↓km0_gI, ↓km0_gM, ↓km0_pI, ↓km0_pM, ↓km0_pZ, ↓km0_gL, ↓km0_pL, ↓km0_gF77, ↓km0_gF78, ↓km48_al, ↓km48_as, ↓km48_ln, ↓km49_al, ↓km49_as, ↓km49_ln, ↓qb_so, ↓nm_1, ↓nm_2, ↓reduceIte, if_true, if_false, not_true_eq_false, not_false_eq_true, and_true, true_and, and_false, false_and, or_true, true_or, or_false, false_or, eq_self, ne_eq, quI_s, quI_n, quI2, quL1, quL2, quL3, quR1, quR2, quR3, nI_add, pk_mul, pk_sub, Nat.add_sub_cancel, qm1_add, qm2_add, nI_leI, nI_ltI, nI_eq, nI_m1, nI_m1', nI_clamp, nI_bit, nI_one_shl, nI_m1l, nI_m1lt, nI_m1lt', nI_m1le', oI_some, oI_none, ni_0, ni_1, ni_6, ni_100000000, fX12_findsMakeshifts_L2b, qle_t, qle_f, qlt_t, qlt_f, qeq_t, qeq_f, e, ↓e1]
      subst e
      exact e1
    · have ee : cFx (s_E0 l i) = 100000000 := by unfold s_E0; rw [if_neg e]; rfl
      rw [ee] at e1
      simp (disch := (first | assumption | omega | exact hB _ _ | exact hYB _ _ | (simp only [yc, yd, sh, sv, ne_eq]; omega) | (simp (disch := omega) only [↓nm_1, ↓nm_2, nI_add, pk_mul, pk_sub, Nat.add_sub_cancel, qm1_add, qm2_add, nI_clamp, ni_0, ni_1, ni_6, ni_100000000, e, e1]; refine qin_nI ?_ ?_ <;> first | omega | exact hB _ _ | exact hYB _ _) | (refine qin_nI ?_ ?_ <;> omega) | fail)) only [↓km0_gd, ↓km0_gI, ↓km0_gM, ↓km0_pI, ↓km0_pM, ↓km0_pZ, ↓km0_gL, ↓km0_pL, ↓km0_gF77, ↓km0_gF78, ↓km48_al, ↓km48_as, ↓km48_ln, ↓km49_al, ↓km49_as, ↓km49_ln, ↓qb_so, ↓nm_1, ↓nm_2, ↓reduceIte, if_true, if_false, not_true_eq_false, not_false_eq_true, and_true, true_and, and_false, false_and, or_true, true_or, or_false, false_or, eq_self, ne_eq, quI_s, quI_n, quI2, quL1, quL2, quL3, quR1, quR2, quR3, nI_add, pk_mul, pk_sub, Nat.add_sub_cancel, qm1_add, qm2_add, nI_leI, nI_ltI, nI_eq, nI_m1, nI_m1', nI_clamp, nI_bit, nI_one_shl, nI_m1l, nI_m1lt, nI_m1lt', nI_m1le', oI_some, oI_none, ni_0, ni_1, ni_6, ni_100000000, fX12_findsMakeshifts_L2b, qle_t, qle_f, qlt_t, qlt_f, qeq_t, qeq_f, e, e1]
theorem m_finds (hb : b < 2) (hY : yrOk Y) (hn : 2000 ≤ n) (hl : l < Y 2 0) (hm : mY S b Y mc wc) : ∃ Z, fX12_findsMakeshifts n 0 (nI l) S = some Z ∧ mE Z (s_E (Y 12) (Y 2 0) l) ∧ mFq eQ S Z := by
  have h6 : Y 2 0 ≤ 6 := hY.1.1
  obtain ⟨Z1, e1, p1, f1⟩ := m_E0 (n := n) (l := l) (by omega) 6 0 n S (by omega) (by omega) (fun x hx => by omega)
  obtain ⟨Z, e2, p2, f2⟩ := m_rN (n := n) hb hY hn hl 6 0 n (s_E0 l) Z1 (by omega) (by omega) (wB_0 hl) (mY_fr f1 (fun k j a1 a2 => by unfold eQ; omega) (by unfold eQ; omega) hm) p1
  refine ⟨Z, ?_, p2, mFq_trans f1 f2⟩
  simp (disch := (first | assumption | omega | exact hB _ _ | exact hYB _ _ | (simp only [yc, yd, sh, sv, ne_eq]; omega) | (simp (disch := omega) only [↓nm_1, ↓nm_2, nI_add, pk_mul, pk_sub, Nat.add_sub_cancel, qm1_add, qm2_add, nI_clamp, ni_0, ni_1, e1, e2]; refine qin_nI ?_ ?_ <;> first | omega | exact hB _ _ | exact hYB _ _) | (refine qin_nI ?_ ?_ <;> omega) | fail)) only [↓km0_gd, ↓km0_gI, ↓km0_gM, ↓km0_pI, ↓km0_pM, ↓km0_pZ, ↓km0_gL, ↓km0_pL, ↓qb_so, ↓nm_1, ↓nm_2, ↓reduceIte, if_true, if_false, not_true_eq_false, not_false_eq_true, and_true, true_and, and_false, false_and, or_true, true_or, or_false, false_or, eq_self, ne_eq, quI_s, quI_n, quI2, quL1, quL2, quL3, quR1, quR2, quR3, nI_add, pk_mul, pk_sub, Nat.add_sub_cancel, qm1_add, qm2_add, nI_leI, nI_ltI, nI_eq, nI_m1, nI_m1', nI_clamp, nI_bit, nI_one_shl, nI_m1l, nI_m1lt, nI_m1lt', nI_m1le', oI_some, oI_none, ni_0, ni_1, fX12_findsMakeshifts, qle_t, qle_f, qlt_t, qlt_f, qeq_t, qeq_f, e1, e2]
/-! the walk -/
theorem s_nxL_ok : ∀ (k a : Nat), (∃ y, a ≤ y ∧ y < a + k ∧ p (6 * y + x) ≠ 0 ∧ 8 * p (6 * y + x) + 1 + E y = E x) → s_nxL p E x k a < a + k ∧ p (6 * s_nxL p E x k a + x) ≠ 0 ∧ 8 * p (6 * s_nxL p E x k a + x) + 1 + E (s_nxL p E x k a) = E x
  | 0, a, ⟨y, h1, h2, _⟩ => by omega
  | k + 1, a, ⟨y, h1, h2, h3, h4⟩ => by
    unfold s_nxL
    by_cases hc : p (6 * a + x) ≠ 0 ∧ 8 * p (6 * a + x) + 1 + E a = E x
    · rw [if_pos hc]; exact ⟨by omega, hc.1, hc.2⟩
    · rw [if_neg hc]
      have hy : y ≠ a := by intro e; subst e; exact hc ⟨h3, h4⟩
      obtain ⟨q1, q2, q3⟩ := s_nxL_ok k (a + 1) ⟨y, by omega, by omega, h3, h4⟩
      exact ⟨by omega, q2, q3⟩
theorem s_nx_ok {n : Nat} (hn : n ≤ 6) (h : wF p n l E) (hx : x < n) (hxl : x ≠ l) (hE : E x < 1000000) : s_nx p E n x < n ∧ E (s_nx p E n x) < 1000000 ∧ E (s_nx p E n x) % 8 + 1 = E x % 8 := by
  obtain ⟨y, y1, y2, y3⟩ := h.2 x hx hxl hE
  obtain ⟨q1, q2, q3⟩ := s_nxL_ok (p := p) (E := E) (x := x) n 0 ⟨y, Nat.zero_le _, by omega, y2, y3⟩
  have e1 : s_nx p E n x < n := by unfold s_nx; omega
  have e2 : E (s_nx p E n x) < 1000000 := by unfold s_nx; omega
  refine ⟨e1, e2, ?_⟩
  have := wB_m hn h.1 e1 e2
  have hx2 := wB_m hn h.1 hx hE
  unfold s_nx at *
  omega
theorem w_m0 {n : Nat} (hn : n ≤ 6) (h : wF p n l E) (hx : x < n) (hE : E x < 1000000) : x = l ↔ E x % 8 = 0 := by
  constructor
  · intro e; subst e; rw [h.1.2.1]
  · intro e
    apply Classical.byContradiction
    intro hxl
    have := (s_nx_ok hn h hx hxl hE).2.2
    omega
theorem c_nxL (hb : b < 2) (hY : yrOk Y) (hy : cY S b Y mc wc) (h : wF (Y 12) (Y 2 0) l E) (hp : pE S b E) (hx : x < Y 2 0) (hE : E x < 1000000) : ∀ (k a q : Nat), a + k = Y 2 0 → k < q → (∃ y, a ≤ y ∧ y < a + k ∧ Y 12 (6 * y + x) ≠ 0 ∧ 8 * Y 12 (6 * y + x) + 1 + E y = E x) → fX9_nextOnPath_L18 n (yc b 0) (nI x) S q (nI a) = some (.inr (nI (s_nxL (Y 12) E x k a)))
  | 0, a, q, hk, hq, ⟨y, h1, h2, _⟩ => by omega
  | k + 1, a, q, hk, hq, ⟨y, h1, h2, h3, h4⟩ => by
    obtain ⟨q, rfl⟩ : ∃ q', q = q' + 1 := ⟨q - 1, by omega⟩
    have h6 : Y 2 0 ≤ 6 := hY.1.1
    have e1 := c_count (s := 0) hb hy (by decide)
    have e2 := c_lo (a := a) (sd := x) hb hy hY h.1.1 hp (by omega) (by omega)
    have hpx := hp x (by omega)
    have p9 := hY.2.2.2.2.2.2.1 (6 * a + x)
    have ea := h.1.1 a
    have hcd : s_cd (Y 12) E x a < 2 ^ 31 := by unfold s_cd; split <;> omega
    show fX9_nextOnPath_L18b _ _ _ _ _ _ = _
    unfold s_nxL
    by_cases hc : Y 12 (6 * a + x) ≠ 0 ∧ 8 * Y 12 (6 * a + x) + 1 + E a = E x
    · have hcx : s_cd (Y 12) E x a = E x := by unfold s_cd; rw [if_neg hc.1]; exact hc.2
      rw [if_pos hc]
      simp (disch := (first | assumption | omega | exact hB _ _ | exact hYB _ _ | (simp only [yc, yd, sh, sv, ne_eq]; omega) | (simp (disch := omega) only [↓nm_1, ↓nm_2, nI_add, pk_mul, pk_sub, Nat.add_sub_cancel, qm1_add, qm2_add, nI_clamp, ni_0, ni_1, e1, e2, hpx, hcx]; refine qin_nI ?_ ?_ <;> first | omega | exact hB _ _ | exact hYB _ _) | (refine qin_nI ?_ ?_ <;> omega) | fail)) only [↓yc0_gd hb, ↓yc0_gI hb, ↓yc0_gM hb, ↓yc0_pI hb, ↓yc0_pM hb, ↓yc0_pZ hb, ↓yc0_gF0 hb, ↓yc0_gF1 hb, ↓yc0_gF2 hb, ↓yc0_gF3 hb, ↓yc0_gF4 hb, ↓yc0_gF5 hb, ↓yc0_gF6 hb, ↓yc0_gF7 hb, ↓yc0_gF8 hb, ↓yc0_gF9 hb, ↓yc0_gF10 hb, ↓yc0_gF11 hb, ↓yc0_gF12 hb, ↓yc0_gF13 hb, ↓yc1_al hb, ↓yc1_as hb, ↓yc1_ln hb, ↓yc2_al hb, ↓yc2_as hb, ↓yc2_ln hb, ↓yc3_al hb, ↓yc3_as hb, ↓yc3_ln hb, ↓yc4_al hb, ↓yc4_as hb, ↓yc4_ln hb, ↓yc5_al hb, ↓yc5_as hb, ↓yc5_ln hb, ↓yc6_al hb, ↓yc6_as hb, ↓yc6_ln hb, ↓yc7_al hb, ↓yc7_as hb, ↓yc7_ln hb, ↓yc8_al hb, ↓yc8_as hb, ↓yc8_ln hb, ↓yc9_al hb, ↓yc9_as hb, ↓yc9_ln hb, ↓yc10_al hb, ↓yc10_as hb, ↓yc10_ln hb, ↓yc11_al hb, ↓yc11_as hb, ↓yc11_ln hb, ↓yc12_al hb, ↓yc12_as hb, ↓yc12_ln hb, ↓yc13_al hb, ↓yc13_as hb, ↓yc13_ln hb, ↓yc14_gd hb, ↓yc14_gI hb, ↓yc14_gM hb, ↓yc14_pI hb, ↓yc14_pM hb, ↓yc14_pZ hb, ↓yc14_gF0 hb, ↓yc14_gF1 hb, ↓yc15_al hb, ↓yc15_as hb, ↓yc15_ln hb, ↓yc16_al hb, ↓yc16_as hb, ↓yc16_ln hb, ↓qb_so, ↓nm_1, ↓nm_2, ↓reduceIte, if_true, if_false, not_true_eq_false, not_false_eq_true, and_true, true_and, and_false, false_and, or_true, true_or, or_false, false_or, eq_self, ne_eq, quI_s, quI_n, quI2, quL1, quL2, quL3, quR1, quR2, quR3, nI_add, pk_mul, pk_sub, Nat.add_sub_cancel, qm1_add, qm2_add, nI_leI, nI_ltI, nI_eq, nI_m1, nI_m1', nI_clamp, nI_bit, nI_one_shl, nI_m1l, nI_m1lt, nI_m1lt', nI_m1le', oI_some, oI_none, ni_0, ni_1, fX9_nextOnPath_L18b, qle_t, qle_f, qlt_t, qlt_f, qeq_t, qeq_f, e1, e2, hpx, hcx]
    · have hcx : ¬ s_cd (Y 12) E x a = E x := by
        unfold s_cd
        split
        · omega
        · rename_i h0; exact fun hh => hc ⟨h0, hh⟩
      have hy2 : y ≠ a := by intro e; subst e; exact hc ⟨h3, h4⟩
      have IH := c_nxL hb hY hy h hp hx hE k (a + 1) q (by omega) (by omega) ⟨y, by omega, by omega, h3, h4⟩
      rw [if_neg hc]
      simp (disch := (first | assumption | omega | exact hB _ _ | exact hYB _ _ | (simp only [yc, yd, sh, sv, ne_eq]; omega) | (simp (disch := omega) only [↓nm_1, ↓nm_2, nI_add, pk_mul, pk_sub, Nat.add_sub_cancel, qm1_add, qm2_add, nI_clamp, ni_0, ni_1, e1, e2, hpx, hcx, IH]; refine qin_nI ?_ ?_ <;> first | omega | exact hB _ _ | exact hYB _ _) | (refine qin_nI ?_ ?_ <;> omega) | fail)) only [↓yc0_gd hb, ↓yc0_gI hb, ↓yc0_gM hb, ↓yc0_pI hb, ↓yc0_pM hb, ↓yc0_pZ hb, ↓yc0_gF0 hb, ↓yc0_gF1 hb, ↓yc0_gF2 hb, ↓yc0_gF3 hb, ↓yc0_gF4 hb, ↓yc0_gF5 hb, ↓yc0_gF6 hb, ↓yc0_gF7 hb, ↓yc0_gF8 hb, ↓yc0_gF9 hb, ↓yc0_gF10 hb, ↓yc0_gF11 hb, ↓yc0_gF12 hb, ↓yc0_gF13 hb, ↓yc1_al hb, ↓yc1_as hb, ↓yc1_ln hb, ↓yc2_al hb, ↓yc2_as hb, ↓yc2_ln hb, ↓yc3_al hb, ↓yc3_as hb, ↓yc3_ln hb, ↓yc4_al hb, ↓yc4_as hb, ↓yc4_ln hb, ↓yc5_al hb, ↓yc5_as hb, ↓yc5_ln hb, ↓yc6_al hb, ↓yc6_as hb, ↓yc6_ln hb, ↓yc7_al hb, ↓yc7_as hb, ↓yc7_ln hb, ↓yc8_al hb, ↓yc8_as hb, ↓yc8_ln hb, ↓yc9_al hb, ↓yc9_as hb, ↓yc9_ln hb, ↓yc10_al hb, ↓yc10_as hb, ↓yc10_ln hb, ↓yc11_al hb, ↓yc11_as hb, ↓yc11_ln hb, ↓yc12_al hb, ↓yc12_as hb, ↓yc12_ln hb, ↓yc13_al hb, ↓yc13_as hb, ↓yc13_ln hb, ↓yc14_gd hb, ↓yc14_gI hb, ↓yc14_gM hb, ↓yc14_pI hb, ↓yc14_pM hb, ↓yc14_pZ hb, ↓yc14_gF0 hb, ↓yc14_gF1 hb, ↓yc15_al hb, ↓yc15_as hb, ↓yc15_ln hb, ↓yc16_al hb, ↓yc16_as hb, ↓yc16_ln hb, ↓qb_so, ↓nm_1, ↓nm_2, ↓reduceIte, if_true, if_false, not_true_eq_false, not_false_eq_true, and_true, true_and, and_false, false_and, or_true, true_or, or_false, false_or, eq_self, ne_eq, quI_s, quI_n, quI2, quL1, quL2, quL3, quR1, quR2, quR3, nI_add, pk_mul, pk_sub, Nat.add_sub_cancel, qm1_add, qm2_add, nI_leI, nI_ltI, nI_eq, nI_m1, nI_m1', nI_clamp, nI_bit, nI_one_shl, nI_m1l, nI_m1lt, nI_m1lt', nI_m1le', oI_some, oI_none, ni_0, ni_1, fX9_nextOnPath_L18b, qle_t, qle_f, qlt_t, qlt_f, qeq_t, qeq_f, e1, e2, hpx, hcx, IH]
theorem c_price (hb : b < 2) (hY : yrOk Y) (hy : cY S b Y mc wc) (h : wF (Y 12) (Y 2 0) l E) (hp : pE S b E) (hx : x < Y 2 0) : fX9_pathPrice (yc b 0) (nI x) S = some (if E x < 1000000 then nI (E x / 8) else qm1) := by
  have h6 : Y 2 0 ≤ 6 := hY.1.1
  have hYB := yrOk_B hY
  have e1 := c_holds_t (s := 0) hb hy hYB (by decide) hx
  have hpx := hp x (by omega)
  have ex := h.1.1 x
  have ed := pk_div (a := E x) (d := 8) (by omega) (by decide) (by decide)
  by_cases hE : E x < 1000000
  · rw [if_pos hE]
    have hE2 : ¬ 1000000 ≤ E x := by omega
    simp (disch := (first | assumption | omega | exact hB _ _ | exact hYB _ _ | (simp only [yc, yd, sh, sv, ne_eq]; omega) | (simp (disch := omega) only [↓nm_1, ↓nm_2, nI_add, pk_mul, pk_sub, Nat.add_sub_cancel, qm1_add, qm2_add, nI_clamp, ni_0, ni_1, ni_8, ni_1000000, e1, hpx, hE2, ed]; refine qin_nI ?_ ?_ <;> first | omega | exact hB _ _ | exact hYB _ _) | (refine qin_nI ?_ ?_ <;> omega) | fail)) only [↓yc0_gd hb, ↓yc0_gI hb, ↓yc0_gM hb, ↓yc0_pI hb, ↓yc0_pM hb, ↓yc0_pZ hb, ↓yc0_gF0 hb, ↓yc0_gF1 hb, ↓yc0_gF2 hb, ↓yc0_gF3 hb, ↓yc0_gF4 hb, ↓yc0_gF5 hb, ↓yc0_gF6 hb, ↓yc0_gF7 hb, ↓yc0_gF8 hb, ↓yc0_gF9 hb, ↓yc0_gF10 hb, ↓yc0_gF11 hb, ↓yc0_gF12 hb, ↓yc0_gF13 hb, ↓yc1_al hb, ↓yc1_as hb, ↓yc1_ln hb, ↓yc2_al hb, ↓yc2_as hb, ↓yc2_ln hb, ↓yc3_al hb, ↓yc3_as hb, ↓yc3_ln hb, ↓yc4_al hb, ↓yc4_as hb, ↓yc4_ln hb, ↓yc5_al hb, ↓yc5_as hb, ↓yc5_ln hb, ↓yc6_al hb, ↓yc6_as hb, ↓yc6_ln hb, ↓yc7_al hb, ↓yc7_as hb, ↓yc7_ln hb, ↓yc8_al hb, ↓yc8_as hb, ↓yc8_ln hb, ↓yc9_al hb, ↓yc9_as hb, ↓yc9_ln hb, ↓yc10_al hb, ↓yc10_as hb, ↓yc10_ln hb, ↓yc11_al hb, ↓yc11_as hb, ↓yc11_ln hb, ↓yc12_al hb, ↓yc12_as hb, ↓yc12_ln hb, ↓yc13_al hb, ↓yc13_as hb, ↓yc13_ln hb, ↓yc14_gd hb, ↓yc14_gI hb, ↓yc14_gM hb, ↓yc14_pI hb, ↓yc14_pM hb, ↓yc14_pZ hb, ↓yc14_gF0 hb, ↓yc14_gF1 hb, ↓yc15_al hb, ↓yc15_as hb, ↓yc15_ln hb, ↓yc16_al hb, ↓yc16_as hb, ↓yc16_ln hb, ↓qb_so, ↓nm_1, ↓nm_2, ↓reduceIte, if_true, if_false, not_true_eq_false, not_false_eq_true, and_true, true_and, and_false, false_and, or_true, true_or, or_false, false_or, eq_self, ne_eq, quI_s, quI_n, quI2, quL1, quL2, quL3, quR1, quR2, quR3, nI_add, pk_mul, pk_sub, Nat.add_sub_cancel, qm1_add, qm2_add, nI_leI, nI_ltI, nI_eq, nI_m1, nI_m1', nI_clamp, nI_bit, nI_one_shl, nI_m1l, nI_m1lt, nI_m1lt', nI_m1le', oI_some, oI_none, ni_0, ni_1, ni_8, ni_1000000, fX9_pathPrice, qle_t, qle_f, qlt_t, qlt_f, qeq_t, qeq_f, e1, hpx, hE2, ed]
  · rw [if_neg hE]
    have hE2 : 1000000 ≤ E x := by omega
    simp (disch := (first | assumption | omega | exact hB _ _ | exact hYB _ _ | (simp only [yc, yd, sh, sv, ne_eq]; omega) | (simp (disch := omega) only [↓nm_1, ↓nm_2, nI_add, pk_mul, pk_sub, Nat.add_sub_cancel, qm1_add, qm2_add, nI_clamp, ni_0, ni_1, ni_8, ni_1000000, e1, hpx, hE2]; refine qin_nI ?_ ?_ <;> first | omega | exact hB _ _ | exact hYB _ _) | (refine qin_nI ?_ ?_ <;> omega) | fail)) only [↓yc0_gd hb, ↓yc0_gI hb, ↓yc0_gM hb, ↓yc0_pI hb, ↓yc0_pM hb, ↓yc0_pZ hb, ↓yc0_gF0 hb, ↓yc0_gF1 hb, ↓yc0_gF2 hb, ↓yc0_gF3 hb, ↓yc0_gF4 hb, ↓yc0_gF5 hb, ↓yc0_gF6 hb, ↓yc0_gF7 hb, ↓yc0_gF8 hb, ↓yc0_gF9 hb, ↓yc0_gF10 hb, ↓yc0_gF11 hb, ↓yc0_gF12 hb, ↓yc0_gF13 hb, ↓yc1_al hb, ↓yc1_as hb, ↓yc1_ln hb, ↓yc2_al hb, ↓yc2_as hb, ↓yc2_ln hb, ↓yc3_al hb, ↓yc3_as hb, ↓yc3_ln hb, ↓yc4_al hb, ↓yc4_as hb, ↓yc4_ln hb, ↓yc5_al hb, ↓yc5_as hb, ↓yc5_ln hb, ↓yc6_al hb, ↓yc6_as hb, ↓yc6_ln hb, ↓yc7_al hb, ↓yc7_as hb, ↓yc7_ln hb, ↓yc8_al hb, ↓yc8_as hb, ↓yc8_ln hb, ↓yc9_al hb, ↓yc9_as hb, ↓yc9_ln hb, ↓yc10_al hb, ↓yc10_as hb, ↓yc10_ln hb, ↓yc11_al hb, ↓yc11_as hb, ↓yc11_ln hb, ↓yc12_al hb, ↓yc12_as hb, ↓yc12_ln hb, ↓yc13_al hb, ↓yc13_as hb, ↓yc13_ln hb, ↓yc14_gd hb, ↓yc14_gI hb, ↓yc14_gM hb, ↓yc14_pI hb, ↓yc14_pM hb, ↓yc14_pZ hb, ↓yc14_gF0 hb, ↓yc14_gF1 hb, ↓yc15_al hb, ↓yc15_as hb, ↓yc15_ln hb, ↓yc16_al hb, ↓yc16_as hb, ↓yc16_ln hb, ↓qb_so, ↓nm_1, ↓nm_2, ↓reduceIte, if_true, if_false, not_true_eq_false, not_false_eq_true, and_true, true_and, and_false, false_and, or_true, true_or, or_false, false_or, eq_self, ne_eq, quI_s, quI_n, quI2, quL1, quL2, quL3, quR1, quR2, quR3, nI_add, pk_mul, pk_sub, Nat.add_sub_cancel, qm1_add, qm2_add, nI_leI, nI_ltI, nI_eq, nI_m1, nI_m1', nI_clamp, nI_bit, nI_one_shl, nI_m1l, nI_m1lt, nI_m1lt', nI_m1le', oI_some, oI_none, ni_0, ni_1, ni_8, ni_1000000, fX9_pathPrice, qle_t, qle_f, qlt_t, qlt_f, qeq_t, qeq_f, e1, hpx, hE2]
theorem c_nx (hb : b < 2) (hY : yrOk Y) (hn : 2000 ≤ n) (hy : cY S b Y mc wc) (h : wF (Y 12) (Y 2 0) l E) (hp : pE S b E) (hl : l < Y 2 0) (hx : x < Y 2 0) (hE : E x < 1000000) : fX9_nextOnPath n (yc b 0) (nI x) (nI l) S = some (if x = l then qm1 else nI (s_nx (Y 12) E (Y 2 0) x)) := by
  have h6 : Y 2 0 ≤ 6 := hY.1.1
  by_cases hxl : x = l
  · rw [if_pos hxl]
    simp (disch := (first | assumption | omega | exact hB _ _ | exact hYB _ _ | (simp only [yc, yd, sh, sv, ne_eq]; omega) | (simp (disch := omega) only [↓nm_1, ↓nm_2, nI_add, pk_mul, pk_sub, Nat.add_sub_cancel, qm1_add, qm2_add, nI_clamp, ni_0, ni_1, hxl]; refine qin_nI ?_ ?_ <;> first | omega | exact hB _ _ | exact hYB _ _) | (refine qin_nI ?_ ?_ <;> omega) | fail)) only [↓yc0_gd hb, ↓yc0_gI hb, ↓yc0_gM hb, ↓yc0_pI hb, ↓yc0_pM hb, ↓yc0_pZ hb, ↓yc0_gF0 hb, ↓yc0_gF1 hb, ↓yc0_gF2 hb, ↓yc0_gF3 hb, ↓yc0_gF4 hb, ↓yc0_gF5 hb, ↓yc0_gF6 hb, ↓yc0_gF7 hb, ↓yc0_gF8 hb, ↓yc0_gF9 hb, ↓yc0_gF10 hb, ↓yc0_gF11 hb, ↓yc0_gF12 hb, ↓yc0_gF13 hb, ↓yc1_al hb, ↓yc1_as hb, ↓yc1_ln hb, ↓yc2_al hb, ↓yc2_as hb, ↓yc2_ln hb, ↓yc3_al hb, ↓yc3_as hb, ↓yc3_ln hb, ↓yc4_al hb, ↓yc4_as hb, ↓yc4_ln hb, ↓yc5_al hb, ↓yc5_as hb, ↓yc5_ln hb, ↓yc6_al hb, ↓yc6_as hb, ↓yc6_ln hb, ↓yc7_al hb, ↓yc7_as hb, ↓yc7_ln hb, ↓yc8_al hb, ↓yc8_as hb, ↓yc8_ln hb, ↓yc9_al hb, ↓yc9_as hb, ↓yc9_ln hb, ↓yc10_al hb, ↓yc10_as hb, ↓yc10_ln hb, ↓yc11_al hb, ↓yc11_as hb, ↓yc11_ln hb, ↓yc12_al hb, ↓yc12_as hb, ↓yc12_ln hb, ↓yc13_al hb, ↓yc13_as hb, ↓yc13_ln hb, ↓yc14_gd hb, ↓yc14_gI hb, ↓yc14_gM hb, ↓yc14_pI hb, ↓yc14_pM hb, ↓yc14_pZ hb, ↓yc14_gF0 hb, ↓yc14_gF1 hb, ↓yc15_al hb, ↓yc15_as hb, ↓yc15_ln hb, ↓yc16_al hb, ↓yc16_as hb, ↓yc16_ln hb, ↓qb_so, ↓nm_1, ↓nm_2, ↓reduceIte, if_true, if_false, not_true_eq_false, not_false_eq_true, and_true, true_and, and_false, false_and, or_true, true_or, or_false, false_or, eq_self, ne_eq, quI_s, quI_n, quI2, quL1, quL2, quL3, quR1, quR2, quR3, nI_add, pk_mul, pk_sub, Nat.add_sub_cancel, qm1_add, qm2_add, nI_leI, nI_ltI, nI_eq, nI_m1, nI_m1', nI_clamp, nI_bit, nI_one_shl, nI_m1l, nI_m1lt, nI_m1lt', nI_m1le', oI_some, oI_none, ni_0, ni_1, fX9_nextOnPath, qle_t, qle_f, qlt_t, qlt_f, qeq_t, qeq_f, hxl]
  · rw [if_neg hxl]
    have e1 := c_price hb hY hy h hp hx
    rw [if_pos hE] at e1
    obtain ⟨y, y1, y2, y3⟩ := h.2 x hx hxl hE
    have e2 := c_nxL (n := n) hb hY hy h hp hx hE (Y 2 0) 0 n (by omega) (by omega) ⟨y, Nat.zero_le _, by omega, y2, y3⟩
    have hd : E x / 8 < 2 ^ 31 := by omega
    unfold s_nx
    simp (disch := (first | assumption | omega | exact hB _ _ | exact hYB _ _ | (simp only [yc, yd, sh, sv, ne_eq]; omega) | (simp (disch := omega) only [↓nm_1, ↓nm_2, nI_add, pk_mul, pk_sub, Nat.add_sub_cancel, qm1_add, qm2_add, nI_clamp, ni_0, ni_1, hxl, e1, e2, xel]; refine qin_nI ?_ ?_ <;> first | omega | exact hB _ _ | exact hYB _ _) | (refine qin_nI ?_ ?_ <;> omega) | fail)) only [↓yc0_gd hb, ↓yc0_gI hb, ↓yc0_gM hb, ↓yc0_pI hb, ↓yc0_pM hb, ↓yc0_pZ hb, ↓yc0_gF0 hb, ↓yc0_gF1 hb, ↓yc0_gF2 hb, ↓yc0_gF3 hb, ↓yc0_gF4 hb, ↓yc0_gF5 hb, ↓yc0_gF6 hb, ↓yc0_gF7 hb, ↓yc0_gF8 hb, ↓yc0_gF9 hb, ↓yc0_gF10 hb, ↓yc0_gF11 hb, ↓yc0_gF12 hb, ↓yc0_gF13 hb, ↓yc1_al hb, ↓yc1_as hb, ↓yc1_ln hb, ↓yc2_al hb, ↓yc2_as hb, ↓yc2_ln hb, ↓yc3_al hb, ↓yc3_as hb, ↓yc3_ln hb, ↓yc4_al hb, ↓yc4_as hb, ↓yc4_ln hb, ↓yc5_al hb, ↓yc5_as hb, ↓yc5_ln hb, ↓yc6_al hb, ↓yc6_as hb, ↓yc6_ln hb, ↓yc7_al hb, ↓yc7_as hb, ↓yc7_ln hb, ↓yc8_al hb, ↓yc8_as hb, ↓yc8_ln hb, ↓yc9_al hb, ↓yc9_as hb, ↓yc9_ln hb, ↓yc10_al hb, ↓yc10_as hb, ↓yc10_ln hb, ↓yc11_al hb, ↓yc11_as hb, ↓yc11_ln hb, ↓yc12_al hb, ↓yc12_as hb, ↓yc12_ln hb, ↓yc13_al hb, ↓yc13_as hb, ↓yc13_ln hb, ↓yc14_gd hb, ↓yc14_gI hb, ↓yc14_gM hb, ↓yc14_pI hb, ↓yc14_pM hb, ↓yc14_pZ hb, ↓yc14_gF0 hb, ↓yc14_gF1 hb, ↓yc15_al hb, ↓yc15_as hb, ↓yc15_ln hb, ↓yc16_al hb, ↓yc16_as hb, ↓yc16_ln hb, ↓qb_so, ↓nm_1, ↓nm_2, ↓reduceIte, if_true, if_false, not_true_eq_false, not_false_eq_true, and_true, true_and, and_false, false_and, or_true, true_or, or_false, false_or, eq_self, ne_eq, quI_s, quI_n, quI2, quL1, quL2, quL3, quR1, quR2, quR3, nI_add, pk_mul, pk_sub, Nat.add_sub_cancel, qm1_add, qm2_add, nI_leI, nI_ltI, nI_eq, nI_m1, nI_m1', nI_clamp, nI_bit, nI_one_shl, nI_m1l, nI_m1lt, nI_m1lt', nI_m1le', oI_some, oI_none, ni_0, ni_1, fX9_nextOnPath, qle_t, qle_f, qlt_t, qlt_f, qeq_t, qeq_f, hxl, e1, e2, xel]
theorem c_pk (hb : b < 2) (hY : yrOk Y) (hn : 2000 ≤ n) (hy : cY S b Y mc wc) (h : wF (Y 12) (Y 2 0) l E) (hp : pE S b E) (hl : l < Y 2 0) {k : Nat} (hk : k < 2 ^ 31) : ∀ (r i q x : Nat), i + r = k + 1 → E x % 8 < q → x < Y 2 0 → E x < 1000000 → i + E x % 8 ≤ 5 → fX9_pathKind_L6 n (yc b 0) (nI l) (nI k) S q (nI x) (nI i) = some (if r ≤ E x % 8 then .inl (nI (s_wk (Y 12) E (Y 2 0) r x)) else .inr qm1)
  | 0, i, q, x, hr, hq, hx, hE, hi => by
    obtain ⟨q, rfl⟩ : ∃ q', q = q' + 1 := ⟨q - 1, by omega⟩
    rw [if_pos (Nat.zero_le _)]
    show fX9_pathKind_L6b _ _ _ _ _ _ _ _ = _
    simp (disch := (first | assumption | omega | exact hB _ _ | exact hYB _ _ | (simp only [yc, yd, sh, sv, ne_eq]; omega) | (simp (disch := omega) only [↓nm_1, ↓nm_2, nI_add, pk_mul, pk_sub, Nat.add_sub_cancel, qm1_add, qm2_add, nI_clamp, ni_0, ni_1, ni_6, s_wk]; refine qin_nI ?_ ?_ <;> first | omega | exact hB _ _ | exact hYB _ _) | (refine qin_nI ?_ ?_ <;> omega) | fail)) only [↓yc0_gd hb, ↓yc0_gI hb, ↓yc0_gM hb, ↓yc0_pI hb, ↓yc0_pM hb, ↓yc0_pZ hb, ↓yc0_gF0 hb, ↓yc0_gF1 hb, ↓yc0_gF2 hb, ↓yc0_gF3 hb, ↓yc0_gF4 hb, ↓yc0_gF5 hb, ↓yc0_gF6 hb, ↓yc0_gF7 hb, ↓yc0_gF8 hb, ↓yc0_gF9 hb, ↓yc0_gF10 hb, ↓yc0_gF11 hb, ↓yc0_gF12 hb, ↓yc0_gF13 hb, ↓yc1_al hb, ↓yc1_as hb, ↓yc1_ln hb, ↓yc2_al hb, ↓yc2_as hb, ↓yc2_ln hb, ↓yc3_al hb, ↓yc3_as hb, ↓yc3_ln hb, ↓yc4_al hb, ↓yc4_as hb, ↓yc4_ln hb, ↓yc5_al hb, ↓yc5_as hb, ↓yc5_ln hb, ↓yc6_al hb, ↓yc6_as hb, ↓yc6_ln hb, ↓yc7_al hb, ↓yc7_as hb, ↓yc7_ln hb, ↓yc8_al hb, ↓yc8_as hb, ↓yc8_ln hb, ↓yc9_al hb, ↓yc9_as hb, ↓yc9_ln hb, ↓yc10_al hb, ↓yc10_as hb, ↓yc10_ln hb, ↓yc11_al hb, ↓yc11_as hb, ↓yc11_ln hb, ↓yc12_al hb, ↓yc12_as hb, ↓yc12_ln hb, ↓yc13_al hb, ↓yc13_as hb, ↓yc13_ln hb, ↓yc14_gd hb, ↓yc14_gI hb, ↓yc14_gM hb, ↓yc14_pI hb, ↓yc14_pM hb, ↓yc14_pZ hb, ↓yc14_gF0 hb, ↓yc14_gF1 hb, ↓yc15_al hb, ↓yc15_as hb, ↓yc15_ln hb, ↓yc16_al hb, ↓yc16_as hb, ↓yc16_ln hb, ↓qb_so, ↓nm_1, ↓nm_2, ↓reduceIte, if_true, if_false, not_true_eq_false, not_false_eq_true, and_true, true_and, and_false, false_and, or_true, true_or, or_false, false_or, eq_self, ne_eq, quI_s, quI_n, quI2, quL1, quL2, quL3, quR1, quR2, quR3, nI_add, pk_mul, pk_sub, Nat.add_sub_cancel, qm1_add, qm2_add, nI_leI, nI_ltI, nI_eq, nI_m1, nI_m1', nI_clamp, nI_bit, nI_one_shl, nI_m1l, nI_m1lt, nI_m1lt', nI_m1le', oI_some, oI_none, ni_0, ni_1, ni_6, fX9_pathKind_L6b, qle_t, qle_f, qlt_t, qlt_f, qeq_t, qeq_f, s_wk]
  | r + 1, i, q, x, hr, hq, hx, hE, hi => by
    obtain ⟨q, rfl⟩ : ∃ q', q = q' + 1 := ⟨q - 1, by omega⟩
    have h6 : Y 2 0 ≤ 6 := hY.1.1
    have e1 := c_nx (n := n) hb hY hn hy h hp hl hx hE
    show fX9_pathKind_L6b _ _ _ _ _ _ _ _ = _
    by_cases hxl : x = l
    · have m0 := (w_m0 h6 h hx hE).mp hxl
      rw [if_pos hxl] at e1
      rw [if_neg (by omega)]
      simp (disch := (first | assumption | omega | exact hB _ _ | exact hYB _ _ | (simp only [yc, yd, sh, sv, ne_eq]; omega) | (simp (disch := omega) only [↓nm_1, ↓nm_2, nI_add, pk_mul, pk_sub, Nat.add_sub_cancel, qm1_add, qm2_add, nI_clamp, ni_0, ni_1, ni_6, e1]; refine qin_nI ?_ ?_ <;> first | omega | exact hB _ _ | exact hYB _ _) | (refine qin_nI ?_ ?_ <;> omega) | fail)) only [↓yc0_gd hb, ↓yc0_gI hb, ↓yc0_gM hb, ↓yc0_pI hb, ↓yc0_pM hb, ↓yc0_pZ hb, ↓yc0_gF0 hb, ↓yc0_gF1 hb, ↓yc0_gF2 hb, ↓yc0_gF3 hb, ↓yc0_gF4 hb, ↓yc0_gF5 hb, ↓yc0_gF6 hb, ↓yc0_gF7 hb, ↓yc0_gF8 hb, ↓yc0_gF9 hb, ↓yc0_gF10 hb, ↓yc0_gF11 hb, ↓yc0_gF12 hb, ↓yc0_gF13 hb, ↓yc1_al hb, ↓yc1_as hb, ↓yc1_ln hb, ↓yc2_al hb, ↓yc2_as hb, ↓yc2_ln hb, ↓yc3_al hb, ↓yc3_as hb, ↓yc3_ln hb, ↓yc4_al hb, ↓yc4_as hb, ↓yc4_ln hb, ↓yc5_al hb, ↓yc5_as hb, ↓yc5_ln hb, ↓yc6_al hb, ↓yc6_as hb, ↓yc6_ln hb, ↓yc7_al hb, ↓yc7_as hb, ↓yc7_ln hb, ↓yc8_al hb, ↓yc8_as hb, ↓yc8_ln hb, ↓yc9_al hb, ↓yc9_as hb, ↓yc9_ln hb, ↓yc10_al hb, ↓yc10_as hb, ↓yc10_ln hb, ↓yc11_al hb, ↓yc11_as hb, ↓yc11_ln hb, ↓yc12_al hb, ↓yc12_as hb, ↓yc12_ln hb, ↓yc13_al hb, ↓yc13_as hb, ↓yc13_ln hb, ↓yc14_gd hb, ↓yc14_gI hb, ↓yc14_gM hb, ↓yc14_pI hb, ↓yc14_pM hb, ↓yc14_pZ hb, ↓yc14_gF0 hb, ↓yc14_gF1 hb, ↓yc15_al hb, ↓yc15_as hb, ↓yc15_ln hb, ↓yc16_al hb, ↓yc16_as hb, ↓yc16_ln hb, ↓qb_so, ↓nm_1, ↓nm_2, ↓reduceIte, if_true, if_false, not_true_eq_false, not_false_eq_true, and_true, true_and, and_false, false_and, or_true, true_or, or_false, false_or, eq_self, ne_eq, quI_s, quI_n, quI2, quL1, quL2, quL3, quR1, quR2, quR3, nI_add, pk_mul, pk_sub, Nat.add_sub_cancel, qm1_add, qm2_add, nI_leI, nI_ltI, nI_eq, nI_m1, nI_m1', nI_clamp, nI_bit, nI_one_shl, nI_m1l, nI_m1lt, nI_m1lt', nI_m1le', oI_some, oI_none, ni_0, ni_1, ni_6, fX9_pathKind_L6b, qle_t, qle_f, qlt_t, qlt_f, qeq_t, qeq_f, e1]
    · rw [if_neg hxl] at e1
      obtain ⟨n1, n2, n3⟩ := s_nx_ok h6 h hx hxl hE
      have IH := c_pk hb hY hn hy h hp hl hk r (i + 1) q (s_nx (Y 12) E (Y 2 0) x) (by omega) (by omega) n1 n2 (by omega)
      have n4 : s_nx (Y 12) E (Y 2 0) x < 2 ^ 31 := by omega
      by_cases hrm : r + 1 ≤ E x % 8
      · rw [if_pos hrm]
        rw [if_pos (by omega)] at IH
        simp (disch := (first | assumption | omega | exact hB _ _ | exact hYB _ _ | (simp only [yc, yd, sh, sv, ne_eq]; omega) | (simp (disch := omega) only [↓nm_1, ↓nm_2, nI_add, pk_mul, pk_sub, Nat.add_sub_cancel, qm1_add, qm2_add, nI_clamp, ni_0, ni_1, ni_6, e1, IH, s_wk]; refine qin_nI ?_ ?_ <;> first | omega | exact hB _ _ | exact hYB _ _) | (refine qin_nI ?_ ?_ <;> omega) | fail)) only [↓yc0_gd hb, ↓yc0_gI hb, ↓yc0_gM hb, ↓yc0_pI hb, ↓yc0_pM hb, ↓yc0_pZ hb, ↓yc0_gF0 hb, ↓yc0_gF1 hb, ↓yc0_gF2 hb, ↓yc0_gF3 hb, ↓yc0_gF4 hb, ↓yc0_gF5 hb, ↓yc0_gF6 hb, ↓yc0_gF7 hb, ↓yc0_gF8 hb, ↓yc0_gF9 hb, ↓yc0_gF10 hb, ↓yc0_gF11 hb, ↓yc0_gF12 hb, ↓yc0_gF13 hb, ↓yc1_al hb, ↓yc1_as hb, ↓yc1_ln hb, ↓yc2_al hb, ↓yc2_as hb, ↓yc2_ln hb, ↓yc3_al hb, ↓yc3_as hb, ↓yc3_ln hb, ↓yc4_al hb, ↓yc4_as hb, ↓yc4_ln hb, ↓yc5_al hb, ↓yc5_as hb, ↓yc5_ln hb, ↓yc6_al hb, ↓yc6_as hb, ↓yc6_ln hb, ↓yc7_al hb, ↓yc7_as hb, ↓yc7_ln hb, ↓yc8_al hb, ↓yc8_as hb, ↓yc8_ln hb, ↓yc9_al hb, ↓yc9_as hb, ↓yc9_ln hb, ↓yc10_al hb, ↓yc10_as hb, ↓yc10_ln hb, ↓yc11_al hb, ↓yc11_as hb, ↓yc11_ln hb, ↓yc12_al hb, ↓yc12_as hb, ↓yc12_ln hb, ↓yc13_al hb, ↓yc13_as hb, ↓yc13_ln hb, ↓yc14_gd hb, ↓yc14_gI hb, ↓yc14_gM hb, ↓yc14_pI hb, ↓yc14_pM hb, ↓yc14_pZ hb, ↓yc14_gF0 hb, ↓yc14_gF1 hb, ↓yc15_al hb, ↓yc15_as hb, ↓yc15_ln hb, ↓yc16_al hb, ↓yc16_as hb, ↓yc16_ln hb, ↓qb_so, ↓nm_1, ↓nm_2, ↓reduceIte, if_true, if_false, not_true_eq_false, not_false_eq_true, and_true, true_and, and_false, false_and, or_true, true_or, or_false, false_or, eq_self, ne_eq, quI_s, quI_n, quI2, quL1, quL2, quL3, quR1, quR2, quR3, nI_add, pk_mul, pk_sub, Nat.add_sub_cancel, qm1_add, qm2_add, nI_leI, nI_ltI, nI_eq, nI_m1, nI_m1', nI_clamp, nI_bit, nI_one_shl, nI_m1l, nI_m1lt, nI_m1lt', nI_m1le', oI_some, oI_none, ni_0, ni_1, ni_6, fX9_pathKind_L6b, qle_t, qle_f, qlt_t, qlt_f, qeq_t, qeq_f, e1, IH, s_wk]
      · rw [if_neg hrm]
        rw [if_neg (by omega)] at IH
        simp (disch := (first | assumption | omega | exact hB _ _ | exact hYB _ _ | (simp only [yc, yd, sh, sv, ne_eq]; omega) | (simp (disch := omega) only [↓nm_1, ↓nm_2, nI_add, pk_mul, pk_sub, Nat.add_sub_cancel, qm1_add, qm2_add, nI_clamp, ni_0, ni_1, ni_6, e1, IH]; refine qin_nI ?_ ?_ <;> first | omega | exact hB _ _ | exact hYB _ _) | (refine qin_nI ?_ ?_ <;> omega) | fail)) only [↓yc0_gd hb, ↓yc0_gI hb, ↓yc0_gM hb, ↓yc0_pI hb, ↓yc0_pM hb, ↓yc0_pZ hb, ↓yc0_gF0 hb, ↓yc0_gF1 hb, ↓yc0_gF2 hb, ↓yc0_gF3 hb, ↓yc0_gF4 hb, ↓yc0_gF5 hb, ↓yc0_gF6 hb, ↓yc0_gF7 hb, ↓yc0_gF8 hb, ↓yc0_gF9 hb, ↓yc0_gF10 hb, ↓yc0_gF11 hb, ↓yc0_gF12 hb, ↓yc0_gF13 hb, ↓yc1_al hb, ↓yc1_as hb, ↓yc1_ln hb, ↓yc2_al hb, ↓yc2_as hb, ↓yc2_ln hb, ↓yc3_al hb, ↓yc3_as hb, ↓yc3_ln hb, ↓yc4_al hb, ↓yc4_as hb, ↓yc4_ln hb, ↓yc5_al hb, ↓yc5_as hb, ↓yc5_ln hb, ↓yc6_al hb, ↓yc6_as hb, ↓yc6_ln hb, ↓yc7_al hb, ↓yc7_as hb, ↓yc7_ln hb, ↓yc8_al hb, ↓yc8_as hb, ↓yc8_ln hb, ↓yc9_al hb, ↓yc9_as hb, ↓yc9_ln hb, ↓yc10_al hb, ↓yc10_as hb, ↓yc10_ln hb, ↓yc11_al hb, ↓yc11_as hb, ↓yc11_ln hb, ↓yc12_al hb, ↓yc12_as hb, ↓yc12_ln hb, ↓yc13_al hb, ↓yc13_as hb, ↓yc13_ln hb, ↓yc14_gd hb, ↓yc14_gI hb, ↓yc14_gM hb, ↓yc14_pI hb, ↓yc14_pM hb, ↓yc14_pZ hb, ↓yc14_gF0 hb, ↓yc14_gF1 hb, ↓yc15_al hb, ↓yc15_as hb, ↓yc15_ln hb, ↓yc16_al hb, ↓yc16_as hb, ↓yc16_ln hb, ↓qb_so, ↓nm_1, ↓nm_2, ↓reduceIte, if_true, if_false, not_true_eq_false, not_false_eq_true, and_true, true_and, and_false, false_and, or_true, true_or, or_false, false_or, eq_self, ne_eq, quI_s, quI_n, quI2, quL1, quL2, quL3, quR1, quR2, quR3, nI_add, pk_mul, pk_sub, Nat.add_sub_cancel, qm1_add, qm2_add, nI_leI, nI_ltI, nI_eq, nI_m1, nI_m1', nI_clamp, nI_bit, nI_one_shl, nI_m1l, nI_m1lt, nI_m1lt', nI_m1le', oI_some, oI_none, ni_0, ni_1, ni_6, fX9_pathKind_L6b, qle_t, qle_f, qlt_t, qlt_f, qeq_t, qeq_f, e1, IH]
theorem m_nxL (hb : b < 2) (hY : yrOk Y) (hm : mY S b Y mc wc) (h : wF (Y 12) (Y 2 0) l E) (hp : mE S E) (hx : x < Y 2 0) (hE : E x < 1000000) (a3 a5 : Int32) : ∀ (k a q : Nat), a + k = Y 2 0 → k < q → (∃ y, a ≤ y ∧ y < a + k ∧ Y 12 (6 * y + x) ≠ 0 ∧ 8 * Y 12 (6 * y + x) + 1 + E y = E x) → fX12_makeshift_L81 n 0 a3 (nI x) a5 q (nI a) S = some (nI (s_nxL (Y 12) E x k a), S)
  | 0, a, q, hk, hq, ⟨y, h1, h2, _⟩ => by omega
  | k + 1, a, q, hk, hq, ⟨y, h1, h2, h3, h4⟩ => by
    obtain ⟨q, rfl⟩ : ∃ q', q = q' + 1 := ⟨q - 1, by omega⟩
    have h6 : Y 2 0 ≤ 6 := hY.1.1
    have ha : a < Y 2 0 := by omega
    have es := m_serves (a := a) (c := x) hb hm h6 ha hx
    obtain ⟨ea1, ea2⟩ := hp a (by omega)
    obtain ⟨ex1, ex2⟩ := hp x (by omega)
    have p9 := hY.2.2.2.2.2.2.1 (6 * a + x)
    have ea := h.1.1 a
    obtain ⟨mx, lx⟩ := wB_m h6 h.1 hx hE
    have cfx : cFx (E x) = E x / 8 := by unfold cFx; rw [if_neg (by omega)]
    have cfa : cFx (E a) ≤ 100000000 := by unfold cFx; split <;> omega
    have key : (8 * Y 12 (6 * a + x) + 1 + E a = E x) ↔ (cFx (E a) + Y 12 (6 * a + x) = E x / 8 ∧ E a % 8 + 1 = E x % 8) := by
      unfold cFx
      by_cases hu : E a = 1000000
      · rw [if_pos hu]; omega
      · rw [if_neg hu]
        have := wB_m h6 h.1 ha (by omega)
        omega
    show fX12_makeshift_L81b _ _ _ _ _ _ _ _ = _
    unfold s_nxL
    by_cases h0 : Y 12 (6 * a + x) = 0
    · have hy2 : y ≠ a := by intro e; subst e; exact h3 h0
      have IH := m_nxL hb hY hm h hp hx hE a3 a5 k (a + 1) q (by omega) (by omega) ⟨y, by omega, by omega, h3, h4⟩
      rw [if_neg (fun hh => hh.1 h0)]
      simp (disch := (first | assumption | omega | exact hB _ _ | exact hYB _ _ | (simp only [yc, yd, sh, sv, ne_eq]; omega) | (simp (disch := omega) only [↓nm_1, ↓nm_2, nI_add, pk_mul, pk_sub, Nat.add_sub_cancel, qm1_add, qm2_add, nI_clamp, ni_0, ni_1, es, h0, IH]; refine qin_nI ?_ ?_ <;> first | omega | exact hB _ _ | exact hYB _ _) | (refine qin_nI ?_ ?_ <;> omega) | fail)) only [↓km0_gd, ↓km0_gI, ↓km0_gM, ↓km0_pI, ↓km0_pM, ↓km0_pZ, ↓km0_gL, ↓km0_pL, ↓km0_gF77, ↓km0_gF78, ↓km48_al, ↓km48_as, ↓km48_ln, ↓km49_al, ↓km49_as, ↓km49_ln, ↓qb_so, ↓nm_1, ↓nm_2, ↓reduceIte, if_true, if_false, not_true_eq_false, not_false_eq_true, and_true, true_and, and_false, false_and, or_true, true_or, or_false, false_or, eq_self, ne_eq, quI_s, quI_n, quI2, quL1, quL2, quL3, quR1, quR2, quR3, nI_add, pk_mul, pk_sub, Nat.add_sub_cancel, qm1_add, qm2_add, nI_leI, nI_ltI, nI_eq, nI_m1, nI_m1', nI_clamp, nI_bit, nI_one_shl, nI_m1l, nI_m1lt, nI_m1lt', nI_m1le', oI_some, oI_none, ni_0, ni_1, fX12_makeshift_L81b, qle_t, qle_f, qlt_t, qlt_f, qeq_t, qeq_f, es, h0, IH]
    · by_cases hc : 8 * Y 12 (6 * a + x) + 1 + E a = E x
      · obtain ⟨k1, k2⟩ := key.mp hc
        rw [if_pos ⟨h0, hc⟩]
        simp (disch := (first | assumption | omega | exact hB _ _ | exact hYB _ _ | (simp only [yc, yd, sh, sv, ne_eq]; omega) | (simp (disch := omega) only [↓nm_1, ↓nm_2, nI_add, pk_mul, pk_sub, Nat.add_sub_cancel, qm1_add, qm2_add, nI_clamp, ni_0, ni_1, es, h0, ea1, ex1, cfx, k1, ea2, ex2, k2]; refine qin_nI ?_ ?_ <;> first | omega | exact hB _ _ | exact hYB _ _) | (refine qin_nI ?_ ?_ <;> omega) | fail)) only [↓km0_gd, ↓km0_gI, ↓km0_gM, ↓km0_pI, ↓km0_pM, ↓km0_pZ, ↓km0_gL, ↓km0_pL, ↓km0_gF77, ↓km0_gF78, ↓km48_al, ↓km48_as, ↓km48_ln, ↓km49_al, ↓km49_as, ↓km49_ln, ↓qb_so, ↓nm_1, ↓nm_2, ↓reduceIte, if_true, if_false, not_true_eq_false, not_false_eq_true, and_true, true_and, and_false, false_and, or_true, true_or, or_false, false_or, eq_self, ne_eq, quI_s, quI_n, quI2, quL1, quL2, quL3, quR1, quR2, quR3, nI_add, pk_mul, pk_sub, Nat.add_sub_cancel, qm1_add, qm2_add, nI_leI, nI_ltI, nI_eq, nI_m1, nI_m1', nI_clamp, nI_bit, nI_one_shl, nI_m1l, nI_m1lt, nI_m1lt', nI_m1le', oI_some, oI_none, ni_0, ni_1, fX12_makeshift_L81b, qle_t, qle_f, qlt_t, qlt_f, qeq_t, qeq_f, es, h0, ea1, ex1, cfx, k1, ea2, ex2, k2]
      · have hy2 : y ≠ a := by intro e; subst e; exact hc h4
        have IH := m_nxL hb hY hm h hp hx hE a3 a5 k (a + 1) q (by omega) (by omega) ⟨y, by omega, by omega, h3, h4⟩
        rw [if_neg (fun hh => hc hh.2)]
        by_cases k1 : cFx (E a) + Y 12 (6 * a + x) = E x / 8
        · have k2 : ¬ E a % 8 + 1 = E x % 8 := fun hh => hc (key.mpr ⟨k1, hh⟩)
          simp (disch := (first | assumption | omega | exact hB _ _ | exact hYB _ _ | (simp only [yc, yd, sh, sv, ne_eq]; omega) | (simp (disch := omega) only [↓nm_1, ↓nm_2, nI_add, pk_mul, pk_sub, Nat.add_sub_cancel, qm1_add, qm2_add, nI_clamp, ni_0, ni_1, es, h0, ea1, ex1, cfx, k1, ea2, ex2, k2, IH]; refine qin_nI ?_ ?_ <;> first | omega | exact hB _ _ | exact hYB _ _) | (refine qin_nI ?_ ?_ <;> omega) | fail)) only [↓km0_gd, ↓km0_gI, ↓km0_gM, ↓km0_pI, ↓km0_pM, ↓km0_pZ, ↓km0_gL, ↓km0_pL, ↓km0_gF77, ↓km0_gF78, ↓km48_al, ↓km48_as, ↓km48_ln, ↓km49_al, ↓km49_as, ↓km49_ln, ↓qb_so, ↓nm_1, ↓nm_2, ↓reduceIte, if_true, if_false, not_true_eq_false, not_false_eq_true, and_true, true_and, and_false, false_and, or_true, true_or, or_false, false_or, eq_self, ne_eq, quI_s, quI_n, quI2, quL1, quL2, quL3, quR1, quR2, quR3, nI_add, pk_mul, pk_sub, Nat.add_sub_cancel, qm1_add, qm2_add, nI_leI, nI_ltI, nI_eq, nI_m1, nI_m1', nI_clamp, nI_bit, nI_one_shl, nI_m1l, nI_m1lt, nI_m1lt', nI_m1le', oI_some, oI_none, ni_0, ni_1, fX12_makeshift_L81b, qle_t, qle_f, qlt_t, qlt_f, qeq_t, qeq_f, es, h0, ea1, ex1, cfx, k1, ea2, ex2, k2, IH]
        · simp (disch := (first | assumption | omega | exact hB _ _ | exact hYB _ _ | (simp only [yc, yd, sh, sv, ne_eq]; omega) | (simp (disch := omega) only [↓nm_1, ↓nm_2, nI_add, pk_mul, pk_sub, Nat.add_sub_cancel, qm1_add, qm2_add, nI_clamp, ni_0, ni_1, es, h0, ea1, ex1, cfx, k1, IH]; refine qin_nI ?_ ?_ <;> first | omega | exact hB _ _ | exact hYB _ _) | (refine qin_nI ?_ ?_ <;> omega) | fail)) only [↓km0_gd, ↓km0_gI, ↓km0_gM, ↓km0_pI, ↓km0_pM, ↓km0_pZ, ↓km0_gL, ↓km0_pL, ↓km0_gF77, ↓km0_gF78, ↓km48_al, ↓km48_as, ↓km48_ln, ↓km49_al, ↓km49_as, ↓km49_ln, ↓qb_so, ↓nm_1, ↓nm_2, ↓reduceIte, if_true, if_false, not_true_eq_false, not_false_eq_true, and_true, true_and, and_false, false_and, or_true, true_or, or_false, false_or, eq_self, ne_eq, quI_s, quI_n, quI2, quL1, quL2, quL3, quR1, quR2, quR3, nI_add, pk_mul, pk_sub, Nat.add_sub_cancel, qm1_add, qm2_add, nI_leI, nI_ltI, nI_eq, nI_m1, nI_m1', nI_clamp, nI_bit, nI_one_shl, nI_m1l, nI_m1lt, nI_m1lt', nI_m1le', oI_some, oI_none, ni_0, ni_1, fX12_makeshift_L81b, qle_t, qle_f, qlt_t, qlt_f, qeq_t, qeq_f, es, h0, ea1, ex1, cfx, k1, IH]
theorem m_pk (hb : b < 2) (hY : yrOk Y) (hn : 2000 ≤ n) (hm : mY S b Y mc wc) (h : wF (Y 12) (Y 2 0) l E) (hp : mE S E) {k : Nat} (hk : k < 100) : ∀ (r i q x : Nat), i + r = k + 1 → r < q → x < Y 2 0 → E x < 1000000 → r ≤ E x % 8 → fX12_makeshift_L72 n 0 (nI k) q (nI x) (nI i) S = some (nI (s_wk (Y 12) E (Y 2 0) r x), S)
  | 0, i, q, x, hr, hq, hx, hE, hi => by
    obtain ⟨q, rfl⟩ : ∃ q', q = q' + 1 := ⟨q - 1, by omega⟩
    show fX12_makeshift_L72b _ _ _ _ _ _ _ = _
    simp (disch := (first | assumption | omega | exact hB _ _ | exact hYB _ _ | (simp only [yc, yd, sh, sv, ne_eq]; omega) | (simp (disch := omega) only [↓nm_1, ↓nm_2, nI_add, pk_mul, pk_sub, Nat.add_sub_cancel, qm1_add, qm2_add, nI_clamp, ni_0, ni_1, s_wk]; refine qin_nI ?_ ?_ <;> first | omega | exact hB _ _ | exact hYB _ _) | (refine qin_nI ?_ ?_ <;> omega) | fail)) only [↓km0_gd, ↓km0_gI, ↓km0_gM, ↓km0_pI, ↓km0_pM, ↓km0_pZ, ↓km0_gL, ↓km0_pL, ↓qb_so, ↓nm_1, ↓nm_2, ↓reduceIte, if_true, if_false, not_true_eq_false, not_false_eq_true, and_true, true_and, and_false, false_and, or_true, true_or, or_false, false_or, eq_self, ne_eq, quI_s, quI_n, quI2, quL1, quL2, quL3, quR1, quR2, quR3, nI_add, pk_mul, pk_sub, Nat.add_sub_cancel, qm1_add, qm2_add, nI_leI, nI_ltI, nI_eq, nI_m1, nI_m1', nI_clamp, nI_bit, nI_one_shl, nI_m1l, nI_m1lt, nI_m1lt', nI_m1le', oI_some, oI_none, ni_0, ni_1, fX12_makeshift_L72b, qle_t, qle_f, qlt_t, qlt_f, qeq_t, qeq_f, s_wk]
  | r + 1, i, q, x, hr, hq, hx, hE, hi => by
    obtain ⟨q, rfl⟩ : ∃ q', q = q' + 1 := ⟨q - 1, by omega⟩
    have h6 : Y 2 0 ≤ 6 := hY.1.1
    have hxl : x ≠ l := fun e => by have := (w_m0 h6 h hx hE).mp e; omega
    obtain ⟨n1, n2, n3⟩ := s_nx_ok h6 h hx hxl hE
    obtain ⟨y, y1, y2, y3⟩ := h.2 x hx hxl hE
    have e1 := m_nxL (n := n) hb hY hm h hp hx hE (nI k) (nI i) (Y 2 0) 0 n (by omega) (by omega) ⟨y, Nat.zero_le _, by omega, y2, y3⟩
    have IH := m_pk hb hY hn hm h hp hk r (i + 1) q (s_nx (Y 12) E (Y 2 0) x) (by omega) (by omega) n1 n2 (by omega)
    unfold s_nx at IH
    show fX12_makeshift_L72b _ _ _ _ _ _ _ = _
    simp (disch := (first | assumption | omega | exact hB _ _ | exact hYB _ _ | (simp only [yc, yd, sh, sv, ne_eq]; omega) | (simp (disch := omega) only [↓nm_1, ↓nm_2, nI_add, pk_mul, pk_sub, Nat.add_sub_cancel, qm1_add, qm2_add, nI_clamp, ni_0, ni_1, e1, IH, s_wk, s_nx]; refine qin_nI ?_ ?_ <;> first | omega | exact hB _ _ | exact hYB _ _) | (refine qin_nI ?_ ?_ <;> omega) | fail)) only [↓km0_gd, ↓km0_gI, ↓km0_gM, ↓km0_pI, ↓km0_pM, ↓km0_pZ, ↓km0_gL, ↓km0_pL, ↓qb_so, ↓nm_1, ↓nm_2, ↓reduceIte, if_true, if_false, not_true_eq_false, not_false_eq_true, and_true, true_and, and_false, false_and, or_true, true_or, or_false, false_or, eq_self, ne_eq, quI_s, quI_n, quI2, quL1, quL2, quL3, quR1, quR2, quR3, nI_add, pk_mul, pk_sub, Nat.add_sub_cancel, qm1_add, qm2_add, nI_leI, nI_ltI, nI_eq, nI_m1, nI_m1', nI_clamp, nI_bit, nI_one_shl, nI_m1l, nI_m1lt, nI_m1lt', nI_m1le', oI_some, oI_none, ni_0, ni_1, fX12_makeshift_L72b, qle_t, qle_f, qlt_t, qlt_f, qeq_t, qeq_f, e1, IH, s_wk, s_nx]
end Q74

