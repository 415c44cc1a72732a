section Q77
variable {S T Z V : xSt} {b n a s l x : Nat} {Y D U : Nat → Nat → Nat} {f : Nat → Nat} {mc wc : List (Nat × Nat)} {P : Nat → Nat → Nat → Nat} {G G' : Nat → Nat → Nat} {left h : Nat}
def lIn (Y : Nat → Nat → Nat) (left : Nat) : Prop := ∀ x, left.testBit x = true → x < Y 2 2 ∧ x < Y 2 1
def rQ (k j : Nat) : Prop := k = 50 ∨ k = 51 ∨ k = 52 ∨ k = 53
theorem s_ptL_stop : ∀ (k best o : Nat), (∀ x, o ≤ x → left.testBit x = false) → s_ptL D left h k best o = best
  | 0, best, o, _ => rfl
  | k + 1, best, o, hx => by
    unfold s_ptL
    rw [hx o (Nat.le_refl _)]
    exact s_ptL_stop k best (o + 1) (fun x h1 => hx x (by omega))
theorem m_ptL (hb : b < 2) (hY : yrOk Y) (hm : mY S b Y mc wc) (hd : mD S 0 Y D) (hB : ∀ c j, D c j < 2 ^ 31) (hl : left < 64) (hi : lIn Y left) (hh : left.testBit h = true) : ∀ (k o q best : Nat), o + k = Y 2 2 → k < q → left.testBit best = true → fX12_pointed_L5 n 0 (nI h) (nI left) S q (nI best) (nI o) = some (nI (s_ptL D left h (6 - o) best o))
  | 0, o, q, best, hk, hq, ht => by
    obtain ⟨q, rfl⟩ : ∃ q', q = q' + 1 := ⟨q - 1, by omega⟩
    have h62 : Y 2 2 ≤ 6 := hY.1.2.2.1
    have mb := hm.1
    have m1 := hm.2.1.2.2.1
    rw [s_ptL_stop _ _ _ (fun x hx => by
      by_cases e : left.testBit x = true
      · have := (hi x e).1; omega
      · simpa using e)]
    show fX12_pointed_L5b _ _ _ _ _ _ _ _ = _
    simp (disch := (first | assumption | omega | exact hB _ _ | exact hYB _ _ | (simp only [yc, yd, sh, sv, ne_eq]; omega) | (simp (disch := omega) only [↓nm_1, ↓nm_2, nI_add, pk_mul, pk_sub, Nat.add_sub_cancel, qm1_add, qm2_add, nI_clamp, ni_0, ni_1, mb, m1]; refine qin_nI ?_ ?_ <;> first | omega | exact hB _ _ | exact hYB _ _) | (refine qin_nI ?_ ?_ <;> omega) | fail)) only [↓km0_gd, ↓km0_gI, ↓km0_gM, ↓km0_pI, ↓km0_pM, ↓km0_pZ, ↓km0_gL, ↓km0_pL, ↓km0_gF20, ↓km8_al, ↓km8_as, ↓km8_ln, ↓qb_so, ↓nm_1, ↓nm_2, ↓reduceIte, if_true, if_false, not_true_eq_false, not_false_eq_true, and_true, true_and, and_false, false_and, or_true, true_or, or_false, false_or, eq_self, ne_eq, quI_s, quI_n, quI2, quL1, quL2, quL3, quR1, quR2, quR3, nI_add, pk_mul, pk_sub, Nat.add_sub_cancel, qm1_add, qm2_add, nI_leI, nI_ltI, nI_eq, nI_m1, nI_m1', nI_clamp, nI_bit, nI_one_shl, nI_m1l, nI_m1lt, nI_m1lt', nI_m1le', oI_some, oI_none, ni_0, ni_1, fX12_pointed_L5b, qle_t, qle_f, qlt_t, qlt_f, qeq_t, qeq_f, mb, m1]
  | k + 1, o, q, best, hk, hq, ht => by
    obtain ⟨q, rfl⟩ : ∃ q', q = q' + 1 := ⟨q - 1, by omega⟩
    have h62 : Y 2 2 ≤ 6 := hY.1.2.2.1
    have mb := hm.1
    have m1 := hm.2.1.2.2.1
    rw [show 6 - o = (6 - (o + 1)) + 1 by omega]
    show fX12_pointed_L5b _ _ _ _ _ _ _ _ = _
    unfold s_ptL
    by_cases e : left.testBit o = true
    · have q2 : qbit left o = 1 := by unfold qbit; rw [if_pos e]
      have k1 := m_known (v := 0) (by decide) hd hY (hi h hh).1 (hi o e).2
      have k2 := m_known (v := 0) (by decide) hd hY (hi h hh).1 (hi best ht).2
      have b1 := hB 2 (8 * h + o)
      have b2 := hB 2 (8 * h + best)
      rw [if_pos e]
      by_cases hc : D 2 (8 * h + o) ≤ D 2 (8 * h + best)
      · have IH := m_ptL hb hY hm hd hB hl hi hh k (o + 1) q best (by omega) (by omega) ht
        rw [if_pos hc]
        simp (disch := (first | assumption | omega | exact hB _ _ | exact hYB _ _ | (simp only [yc, yd, sh, sv, ne_eq]; omega) | (simp (disch := omega) only [↓nm_1, ↓nm_2, nI_add, pk_mul, pk_sub, Nat.add_sub_cancel, qm1_add, qm2_add, nI_clamp, ni_0, ni_1, mb, m1, q2, k1, k2, hc, IH]; refine qin_nI ?_ ?_ <;> first | omega | exact hB _ _ | exact hYB _ _) | (refine qin_nI ?_ ?_ <;> omega) | fail)) only [↓km0_gd, ↓km0_gI, ↓km0_gM, ↓km0_pI, ↓km0_pM, ↓km0_pZ, ↓km0_gL, ↓km0_pL, ↓km0_gF20, ↓km8_al, ↓km8_as, ↓km8_ln, ↓qb_so, ↓nm_1, ↓nm_2, ↓reduceIte, if_true, if_false, not_true_eq_false, not_false_eq_true, and_true, true_and, and_false, false_and, or_true, true_or, or_false, false_or, eq_self, ne_eq, quI_s, quI_n, quI2, quL1, quL2, quL3, quR1, quR2, quR3, nI_add, pk_mul, pk_sub, Nat.add_sub_cancel, qm1_add, qm2_add, nI_leI, nI_ltI, nI_eq, nI_m1, nI_m1', nI_clamp, nI_bit, nI_one_shl, nI_m1l, nI_m1lt, nI_m1lt', nI_m1le', oI_some, oI_none, ni_0, ni_1, fX12_pointed_L5b, fX12_has2, qle_t, qle_f, qlt_t, qlt_f, qeq_t, qeq_f, mb, m1, q2, k1, k2, hc, IH]
      · have IH := m_ptL hb hY hm hd hB hl hi hh k (o + 1) q o (by omega) (by omega) e
        rw [if_neg hc]
        simp (disch := (first | assumption | omega | exact hB _ _ | exact hYB _ _ | (simp only [yc, yd, sh, sv, ne_eq]; omega) | (simp (disch := omega) only [↓nm_1, ↓nm_2, nI_add, pk_mul, pk_sub, Nat.add_sub_cancel, qm1_add, qm2_add, nI_clamp, ni_0, ni_1, mb, m1, q2, k1, k2, hc, IH]; refine qin_nI ?_ ?_ <;> first | omega | exact hB _ _ | exact hYB _ _) | (refine qin_nI ?_ ?_ <;> omega) | fail)) only [↓km0_gd, ↓km0_gI, ↓km0_gM, ↓km0_pI, ↓km0_pM, ↓km0_pZ, ↓km0_gL, ↓km0_pL, ↓km0_gF20, ↓km8_al, ↓km8_as, ↓km8_ln, ↓qb_so, ↓nm_1, ↓nm_2, ↓reduceIte, if_true, if_false, not_true_eq_false, not_false_eq_true, and_true, true_and, and_false, false_and, or_true, true_or, or_false, false_or, eq_self, ne_eq, quI_s, quI_n, quI2, quL1, quL2, quL3, quR1, quR2, quR3, nI_add, pk_mul, pk_sub, Nat.add_sub_cancel, qm1_add, qm2_add, nI_leI, nI_ltI, nI_eq, nI_m1, nI_m1', nI_clamp, nI_bit, nI_one_shl, nI_m1l, nI_m1lt, nI_m1lt', nI_m1le', oI_some, oI_none, ni_0, ni_1, fX12_pointed_L5b, fX12_has2, qle_t, qle_f, qlt_t, qlt_f, qeq_t, qeq_f, mb, m1, q2, k1, k2, hc, IH]
    · have q2 : qbit left o = 0 := by unfold qbit; rw [if_neg e]
      have IH := m_ptL hb hY hm hd hB hl hi hh k (o + 1) q best (by omega) (by omega) ht
      rw [if_neg e]
      simp (disch := (first | assumption | omega | exact hB _ _ | exact hYB _ _ | (simp only [yc, yd, sh, sv, ne_eq]; omega) | (simp (disch := omega) only [↓nm_1, ↓nm_2, nI_add, pk_mul, pk_sub, Nat.add_sub_cancel, qm1_add, qm2_add, nI_clamp, ni_0, ni_1, mb, m1, q2, IH]; refine qin_nI ?_ ?_ <;> first | omega | exact hB _ _ | exact hYB _ _) | (refine qin_nI ?_ ?_ <;> omega) | fail)) only [↓km0_gd, ↓km0_gI, ↓km0_gM, ↓km0_pI, ↓km0_pM, ↓km0_pZ, ↓km0_gL, ↓km0_pL, ↓km0_gF20, ↓km8_al, ↓km8_as, ↓km8_ln, ↓qb_so, ↓nm_1, ↓nm_2, ↓reduceIte, if_true, if_false, not_true_eq_false, not_false_eq_true, and_true, true_and, and_false, false_and, or_true, true_or, or_false, false_or, eq_self, ne_eq, quI_s, quI_n, quI2, quL1, quL2, quL3, quR1, quR2, quR3, nI_add, pk_mul, pk_sub, Nat.add_sub_cancel, qm1_add, qm2_add, nI_leI, nI_ltI, nI_eq, nI_m1, nI_m1', nI_clamp, nI_bit, nI_one_shl, nI_m1l, nI_m1lt, nI_m1lt', nI_m1le', oI_some, oI_none, ni_0, ni_1, fX12_pointed_L5b, fX12_has2, qle_t, qle_f, qlt_t, qlt_f, qeq_t, qeq_f, mb, m1, q2, IH]
theorem m_ptA (hb : b < 2) (hY : yrOk Y) (hB : ∀ c j, D c j < 2 ^ 31) (hD4 : D 0 4 ≤ 60) (hl : left < 64) (hi : lIn Y left) (hn : 2000 ≤ n) (a1 a2 a4 : Int32) : ∀ (k i q : Nat) (S : xSt), i + k = Y 2 2 → k < q → mY S b Y mc wc → mD S 0 Y D → (∀ x, x < i → S.1 50 x = nI (s_pt D left x)) →
    ∃ Z, fX12_loan_L82 n 0 a1 a2 (nI left) a4 q (nI i) S = some Z ∧ (∀ x, x < Y 2 2 → Z.1 50 x = nI (s_pt D left x)) ∧ mFq (fun k j => k = 50) S Z
  | 0, i, q, S, hk, hq, hm, hd, hs => by
    obtain ⟨q, rfl⟩ : ∃ q', q = q' + 1 := ⟨q - 1, by omega⟩
    have h62 : Y 2 2 ≤ 6 := hY.1.2.2.1
    have mb := hm.1
    have m1 := hm.2.1.2.2.1
    refine ⟨S, ?_, fun x hx => hs x (by omega), mFq_refl⟩
    show fX12_loan_L82b _ _ _ _ _ _ _ _ _ = _
    simp (disch := (first | assumption | omega | exact hB _ _ | exact hYB _ _ | (simp only [yc, yd, sh, sv, ne_eq]; omega) | (simp (disch := omega) only [↓nm_1, ↓nm_2, nI_add, pk_mul, pk_sub, Nat.add_sub_cancel, qm1_add, qm2_add, nI_clamp, ni_0, ni_1, mb, m1]; refine qin_nI ?_ ?_ <;> first | omega | exact hB _ _ | exact hYB _ _) | (refine qin_nI ?_ ?_ <;> omega) | fail)) only [↓km0_gd, ↓km0_gI, ↓km0_gM, ↓km0_pI, ↓km0_pM, ↓km0_pZ, ↓km0_gL, ↓km0_pL, ↓km0_gF20, ↓km0_gF79, ↓km8_al, ↓km8_as, ↓km8_ln, ↓km50_al, ↓km50_as, ↓km50_ln, ↓qb_so, ↓nm_1, ↓nm_2, ↓reduceIte, if_true, if_false, not_true_eq_false, not_false_eq_true, and_true, true_and, and_false, false_and, or_true, true_or, or_false, false_or, eq_self, ne_eq, quI_s, quI_n, quI2, quL1, quL2, quL3, quR1, quR2, quR3, nI_add, pk_mul, pk_sub, Nat.add_sub_cancel, qm1_add, qm2_add, nI_leI, nI_ltI, nI_eq, nI_m1, nI_m1', nI_clamp, nI_bit, nI_one_shl, nI_m1l, nI_m1lt, nI_m1lt', nI_m1le', oI_some, oI_none, ni_0, ni_1, fX12_loan_L82b, qle_t, qle_f, qlt_t, qlt_f, qeq_t, qeq_f, mb, m1]
  | k + 1, i, q, S, hk, hq, hm, hd, hs => by
    obtain ⟨q, rfl⟩ : ∃ q', q = q' + 1 := ⟨q - 1, by omega⟩
    have h62 : Y 2 2 ≤ 6 := hY.1.2.2.1
    have mb := hm.1
    have m1 := hm.2.1.2.2.1
    have f1 : mFq (fun k j => k = 50) S (xuI S 50 i (nI (s_pt D left i))) := mFq_upd rfl
    obtain ⟨Z, e2, z2, f2⟩ := m_ptA hb hY hB hD4 hl hi hn a1 a2 a4 k (i + 1) q (xuI S 50 i (nI (s_pt D left i))) (by omega) (by omega) (mY_fr f1 (fun k j a1 a2 => by omega) (by omega) hm) (mD_fr hY f1 (fun k j a1 a2 a3 => by omega) hD4 hd) (fun x hx => by
      by_cases e : x = i
      · subst e; exact quI_e
      · rw [quI_k (by omega)]; exact hs x (by omega))
    refine ⟨Z, ?_, z2, mFq_trans f1 f2⟩
    show fX12_loan_L82b _ _ _ _ _ _ _ _ _ = _
    by_cases e : left.testBit i = true
    · have q2 : qbit left i = 1 := by unfold qbit; rw [if_pos e]
      have e1 := m_ptL (n := n) hb hY hm hd hB hl hi e (Y 2 2) 0 n i (by omega) (by omega) e
      have ep : fX12_pointed n 0 (nI i) (nI left) S = some (nI (s_pt D left i)) := by
        unfold s_pt
        rw [if_pos e]
        have e1' : fX12_pointed_L5 n 0 (nI i) (nI left) S n (nI i) (nI 0) = some (nI (s_ptL D left i 6 i 0)) := e1
        simp (disch := (first | assumption | omega | exact hB _ _ | exact hYB _ _ | (simp only [yc, yd, sh, sv, ne_eq]; omega) | (simp (disch := omega) only [↓nm_1, ↓nm_2, nI_add, pk_mul, pk_sub, Nat.add_sub_cancel, qm1_add, qm2_add, nI_clamp, ni_0, ni_1, e1']; refine qin_nI ?_ ?_ <;> first | omega | exact hB _ _ | exact hYB _ _) | (refine qin_nI ?_ ?_ <;> omega) | fail)) only [↓km0_gd, ↓km0_gI, ↓km0_gM, ↓km0_pI, ↓km0_pM, ↓km0_pZ, ↓km0_gL, ↓km0_pL, ↓qb_so, ↓nm_1, ↓nm_2, ↓reduceIte, if_true, if_false, not_true_eq_false, not_false_eq_true, and_true, true_and, and_false, false_and, or_true, true_or, or_false, false_or, eq_self, ne_eq, quI_s, quI_n, quI2, quL1, quL2, quL3, quR1, quR2, quR3, nI_add, pk_mul, pk_sub, Nat.add_sub_cancel, qm1_add, qm2_add, nI_leI, nI_ltI, nI_eq, nI_m1, nI_m1', nI_clamp, nI_bit, nI_one_shl, nI_m1l, nI_m1lt, nI_m1lt', nI_m1le', oI_some, oI_none, ni_0, ni_1, fX12_pointed, qle_t, qle_f, qlt_t, qlt_f, qeq_t, qeq_f, e1']
      simp (disch := (first | assumption | omega | exact hB _ _ | exact hYB _ _ | (simp only [yc, yd, sh, sv, ne_eq]; omega) | (simp (disch := omega) only [↓nm_1, ↓nm_2, nI_add, pk_mul, pk_sub, Nat.add_sub_cancel, qm1_add, qm2_add, nI_clamp, ni_0, ni_1, mb, m1, q2, ep, e2]; refine qin_nI ?_ ?_ <;> first | omega | exact hB _ _ | exact hYB _ _) | (refine qin_nI ?_ ?_ <;> omega) | fail)) only [↓km0_gd, ↓km0_gI, ↓km0_gM, ↓km0_pI, ↓km0_pM, ↓km0_pZ, ↓km0_gL, ↓km0_pL, ↓km0_gF20, ↓km0_gF79, ↓km8_al, ↓km8_as, ↓km8_ln, ↓km50_al, ↓km50_as, ↓km50_ln, ↓qb_so, ↓nm_1, ↓nm_2, ↓reduceIte, if_true, if_false, not_true_eq_false, not_false_eq_true, and_true, true_and, and_false, false_and, or_true, true_or, or_false, false_or, eq_self, ne_eq, quI_s, quI_n, quI2, quL1, quL2, quL3, quR1, quR2, quR3, nI_add, pk_mul, pk_sub, Nat.add_sub_cancel, qm1_add, qm2_add, nI_leI, nI_ltI, nI_eq, nI_m1, nI_m1', nI_clamp, nI_bit, nI_one_shl, nI_m1l, nI_m1lt, nI_m1lt', nI_m1le', oI_some, oI_none, ni_0, ni_1, fX12_loan_L82b, fX12_has2, qle_t, qle_f, qlt_t, qlt_f, qeq_t, qeq_f, mb, m1, q2, ep, e2]
    · have q2 : qbit left i = 0 := by unfold qbit; rw [if_neg e]
      have ep : s_pt D left i = i := by unfold s_pt; rw [if_neg e]
      rw [ep] at e2
      simp (disch := (first | assumption | omega | exact hB _ _ | exact hYB _ _ | (simp only [yc, yd, sh, sv, ne_eq]; omega) | (simp (disch := omega) only [↓nm_1, ↓nm_2, nI_add, pk_mul, pk_sub, Nat.add_sub_cancel, qm1_add, qm2_add, nI_clamp, ni_0, ni_1, mb, m1, q2, e2]; refine qin_nI ?_ ?_ <;> first | omega | exact hB _ _ | exact hYB _ _) | (refine qin_nI ?_ ?_ <;> omega) | fail)) only [↓km0_gd, ↓km0_gI, ↓km0_gM, ↓km0_pI, ↓km0_pM, ↓km0_pZ, ↓km0_gL, ↓km0_pL, ↓km0_gF20, ↓km0_gF79, ↓km8_al, ↓km8_as, ↓km8_ln, ↓km50_al, ↓km50_as, ↓km50_ln, ↓qb_so, ↓nm_1, ↓nm_2, ↓reduceIte, if_true, if_false, not_true_eq_false, not_false_eq_true, and_true, true_and, and_false, false_and, or_true, true_or, or_false, false_or, eq_self, ne_eq, quI_s, quI_n, quI2, quL1, quL2, quL3, quR1, quR2, quR3, nI_add, pk_mul, pk_sub, Nat.add_sub_cancel, qm1_add, qm2_add, nI_leI, nI_ltI, nI_eq, nI_m1, nI_m1', nI_clamp, nI_bit, nI_one_shl, nI_m1l, nI_m1lt, nI_m1lt', nI_m1le', oI_some, oI_none, ni_0, ni_1, fX12_loan_L82b, fX12_has2, qle_t, qle_f, qlt_t, qlt_f, qeq_t, qeq_f, mb, m1, q2, e2]
theorem m_rgL (hs : ∀ x, left.testBit x = true → S.1 50 x = nI (f x)) (hf : ∀ x, left.testBit x = true → left.testBit (f x) = true) (hl : ∀ x, left.testBit x = true → x < 6) (hh : h < 6) : ∀ (k x z q : Nat), z + k = 7 → k < q → left.testBit x = true → 1 ≤ z → fX12_ringAt_L9 n 0 (nI h) S q (nI (f x)) (nI z) = some (if s_rg f h k x z = 0 then .inl () else .inr (nI (s_rg f h k x z)))
  | 0, x, z, q, hk, hq, hx, hz => by
    obtain ⟨q, rfl⟩ : ∃ q', q = q' + 1 := ⟨q - 1, by omega⟩
    show fX12_ringAt_L9b _ _ _ _ _ _ _ = _
    simp (disch := (first | assumption | omega | exact hB _ _ | exact hYB _ _ | (simp only [yc, yd, sh, sv, ne_eq]; omega) | (simp (disch := omega) only [↓nm_1, ↓nm_2, nI_add, pk_mul, pk_sub, Nat.add_sub_cancel, qm1_add, qm2_add, nI_clamp, ni_0, ni_1, ni_6, s_rg]; refine qin_nI ?_ ?_ <;> first | omega | exact hB _ _ | exact hYB _ _) | (refine qin_nI ?_ ?_ <;> omega) | fail)) only [↓km0_gd, ↓km0_gI, ↓km0_gM, ↓km0_pI, ↓km0_pM, ↓km0_pZ, ↓km0_gL, ↓km0_pL, ↓km0_gF79, ↓km50_al, ↓km50_as, ↓km50_ln, ↓qb_so, ↓nm_1, ↓nm_2, ↓reduceIte, if_true, if_false, not_true_eq_false, not_false_eq_true, and_true, true_and, and_false, false_and, or_true, true_or, or_false, false_or, eq_self, ne_eq, quI_s, quI_n, quI2, quL1, quL2, quL3, quR1, quR2, quR3, nI_add, pk_mul, pk_sub, Nat.add_sub_cancel, qm1_add, qm2_add, nI_leI, nI_ltI, nI_eq, nI_m1, nI_m1', nI_clamp, nI_bit, nI_one_shl, nI_m1l, nI_m1lt, nI_m1lt', nI_m1le', oI_some, oI_none, ni_0, ni_1, ni_6, fX12_ringAt_L9b, qle_t, qle_f, qlt_t, qlt_f, qeq_t, qeq_f, s_rg]
  | k + 1, x, z, q, hk, hq, hx, hz => by
    obtain ⟨q, rfl⟩ : ∃ q', q = q' + 1 := ⟨q - 1, by omega⟩
    have hfx := hf x hx
    have hsx := hs (f x) hfx
    have hlt := hl (f x) hfx
    have IH := m_rgL hs hf hl hh k (f x) (z + 1) q (by omega) (by omega) hfx (by omega)
    show fX12_ringAt_L9b _ _ _ _ _ _ _ = _
    unfold s_rg
    by_cases e : f x = h
    · rw [if_pos e]
      simp (disch := (first | assumption | omega | exact hB _ _ | exact hYB _ _ | (simp only [yc, yd, sh, sv, ne_eq]; omega) | (simp (disch := omega) only [↓nm_1, ↓nm_2, nI_add, pk_mul, pk_sub, Nat.add_sub_cancel, qm1_add, qm2_add, nI_clamp, ni_0, ni_1, ni_6, e]; refine qin_nI ?_ ?_ <;> first | omega | exact hB _ _ | exact hYB _ _) | (refine qin_nI ?_ ?_ <;> omega) | fail)) only [↓km0_gd, ↓km0_gI, ↓km0_gM, ↓km0_pI, ↓km0_pM, ↓km0_pZ, ↓km0_gL, ↓km0_pL, ↓km0_gF79, ↓km50_al, ↓km50_as, ↓km50_ln, ↓qb_so, ↓nm_1, ↓nm_2, ↓reduceIte, if_true, if_false, not_true_eq_false, not_false_eq_true, and_true, true_and, and_false, false_and, or_true, true_or, or_false, false_or, eq_self, ne_eq, quI_s, quI_n, quI2, quL1, quL2, quL3, quR1, quR2, quR3, nI_add, pk_mul, pk_sub, Nat.add_sub_cancel, qm1_add, qm2_add, nI_leI, nI_ltI, nI_eq, nI_m1, nI_m1', nI_clamp, nI_bit, nI_one_shl, nI_m1l, nI_m1lt, nI_m1lt', nI_m1le', oI_some, oI_none, ni_0, ni_1, ni_6, fX12_ringAt_L9b, qle_t, qle_f, qlt_t, qlt_f, qeq_t, qeq_f, e]
    · rw [if_neg e]
      simp (disch := (first | assumption | omega | exact hB _ _ | exact hYB _ _ | (simp only [yc, yd, sh, sv, ne_eq]; omega) | (simp (disch := omega) only [↓nm_1, ↓nm_2, nI_add, pk_mul, pk_sub, Nat.add_sub_cancel, qm1_add, qm2_add, nI_clamp, ni_0, ni_1, ni_6, e, hsx, IH]; refine qin_nI ?_ ?_ <;> first | omega | exact hB _ _ | exact hYB _ _) | (refine qin_nI ?_ ?_ <;> omega) | fail)) only [↓km0_gd, ↓km0_gI, ↓km0_gM, ↓km0_pI, ↓km0_pM, ↓km0_pZ, ↓km0_gL, ↓km0_pL, ↓km0_gF79, ↓km50_al, ↓km50_as, ↓km50_ln, ↓qb_so, ↓nm_1, ↓nm_2, ↓reduceIte, if_true, if_false, not_true_eq_false, not_false_eq_true, and_true, true_and, and_false, false_and, or_true, true_or, or_false, false_or, eq_self, ne_eq, quI_s, quI_n, quI2, quL1, quL2, quL3, quR1, quR2, quR3, nI_add, pk_mul, pk_sub, Nat.add_sub_cancel, qm1_add, qm2_add, nI_leI, nI_ltI, nI_eq, nI_m1, nI_m1', nI_clamp, nI_bit, nI_one_shl, nI_m1l, nI_m1lt, nI_m1lt', nI_m1le', oI_some, oI_none, ni_0, ni_1, ni_6, fX12_ringAt_L9b, qle_t, qle_f, qlt_t, qlt_f, qeq_t, qeq_f, e, hsx, IH]
theorem m_rg (hs : ∀ x, left.testBit x = true → S.1 50 x = nI (f x)) (hf : ∀ x, left.testBit x = true → left.testBit (f x) = true) (hl : ∀ x, left.testBit x = true → x < 6) (hh : left.testBit h = true) (hn : 2000 ≤ n) : fX12_ringAt n 0 (nI h) S = some (nI (s_ring f h)) := by
  have h6 := hl h hh
  have hsh := hs h hh
  have e := m_rgL (n := n) hs hf hl h6 6 h 1 n (by omega) (by omega) hh (by decide)
  unfold s_ring
  by_cases h0 : s_rg f h 6 h 1 = 0
  · rw [if_pos h0] at e
    rw [h0]
    simp (disch := (first | assumption | omega | exact hB _ _ | exact hYB _ _ | (simp only [yc, yd, sh, sv, ne_eq]; omega) | (simp (disch := omega) only [↓nm_1, ↓nm_2, nI_add, pk_mul, pk_sub, Nat.add_sub_cancel, qm1_add, qm2_add, nI_clamp, ni_0, ni_1, hsh, e, xel]; refine qin_nI ?_ ?_ <;> first | omega | exact hB _ _ | exact hYB _ _) | (refine qin_nI ?_ ?_ <;> omega) | fail)) only [↓km0_gd, ↓km0_gI, ↓km0_gM, ↓km0_pI, ↓km0_pM, ↓km0_pZ, ↓km0_gL, ↓km0_pL, ↓km0_gF79, ↓km50_al, ↓km50_as, ↓km50_ln, ↓qb_so, ↓nm_1, ↓nm_2, ↓reduceIte, if_true, if_false, not_true_eq_false, not_false_eq_true, and_true, true_and, and_false, false_and, or_true, true_or, or_false, false_or, eq_self, ne_eq, quI_s, quI_n, quI2, quL1, quL2, quL3, quR1, quR2, quR3, nI_add, pk_mul, pk_sub, Nat.add_sub_cancel, qm1_add, qm2_add, nI_leI, nI_ltI, nI_eq, nI_m1, nI_m1', nI_clamp, nI_bit, nI_one_shl, nI_m1l, nI_m1lt, nI_m1lt', nI_m1le', oI_some, oI_none, ni_0, ni_1, fX12_ringAt, qle_t, qle_f, qlt_t, qlt_f, qeq_t, qeq_f, hsh, e, xel]
  · rw [if_neg h0] at e
    simp (disch := (first | assumption | omega | exact hB _ _ | exact hYB _ _ | (simp only [yc, yd, sh, sv, ne_eq]; omega) | (simp (disch := omega) only [↓nm_1, ↓nm_2, nI_add, pk_mul, pk_sub, Nat.add_sub_cancel, qm1_add, qm2_add, nI_clamp, ni_0, ni_1, hsh, e, xel]; refine qin_nI ?_ ?_ <;> first | omega | exact hB _ _ | exact hYB _ _) | (refine qin_nI ?_ ?_ <;> omega) | fail)) only [↓km0_gd, ↓km0_gI, ↓km0_gM, ↓km0_pI, ↓km0_pM, ↓km0_pZ, ↓km0_gL, ↓km0_pL, ↓km0_gF79, ↓km50_al, ↓km50_as, ↓km50_ln, ↓qb_so, ↓nm_1, ↓nm_2, ↓reduceIte, if_true, if_false, not_true_eq_false, not_false_eq_true, and_true, true_and, and_false, false_and, or_true, true_or, or_false, false_or, eq_self, ne_eq, quI_s, quI_n, quI2, quL1, quL2, quL3, quR1, quR2, quR3, nI_add, pk_mul, pk_sub, Nat.add_sub_cancel, qm1_add, qm2_add, nI_leI, nI_ltI, nI_eq, nI_m1, nI_m1', nI_clamp, nI_bit, nI_one_shl, nI_m1l, nI_m1lt, nI_m1lt', nI_m1le', oI_some, oI_none, ni_0, ni_1, fX12_ringAt, qle_t, qle_f, qlt_t, qlt_f, qeq_t, qeq_f, hsh, e, xel]
theorem m_clL (hb : b < 2) (hY : yrOk Y) (hf : ∀ x, left.testBit x = true → left.testBit (f x) = true) (hl : left < 64) (hi : lIn Y left) (hn : 2000 ≤ n) {t : Nat} (ht : t < 100) (a1 a2 : Int32) : ∀ (k i q o : Nat) (S : xSt), i + k = Y 2 2 → k < q → o < 2 ^ i → mY S b Y mc wc → (∀ x, left.testBit x = true → S.1 50 x = nI (f x)) →
    ∃ Z, fX12_loan_L136 n 0 a1 a2 (nI left) (nI t) q (nI o) (nI i) S = some (nI (s_lvL f left (6 - i) i o), Z) ∧ (∀ x, x < 6 → Z.1 51 x = if i ≤ x ∧ s_lv f left x = true then nI (f x) else S.1 51 x) ∧ (∀ x, x < 6 → Z.1 52 x = if i ≤ x ∧ s_lv f left x = true then nI t else S.1 52 x) ∧ (∀ x, x < 6 → Z.1 53 x = if i ≤ x ∧ s_lv f left x = true then nI (s_ring f x) else S.1 53 x) ∧ mFq (fun k j => k = 51 ∨ k = 52 ∨ k = 53) S Z
  | 0, i, q, o, S, hk, hq, ho, hm, hs => by
    obtain ⟨q, rfl⟩ : ∃ q', q = q' + 1 := ⟨q - 1, by omega⟩
    have h62 : Y 2 2 ≤ 6 := hY.1.2.2.1
    have mb := hm.1
    have m1 := hm.2.1.2.2.1
    have no : ∀ x, i ≤ x → s_lv f left x = false := by
      intro x hx
      unfold s_lv
      by_cases e : left.testBit x = true
      · have := (hi x e).1; omega
      · have e : left.testBit x = false := by simpa using e
        rw [e]; rfl
    have stop : ∀ k i o, (∀ x, i ≤ x → s_lv f left x = false) → s_lvL f left k i o = o := by
      intro k
      induction k with
      | zero => intro i o _; rfl
      | succ k ih => intro i o hx; unfold s_lvL; rw [hx i (Nat.le_refl _)]; exact ih (i + 1) o (fun x h1 => hx x (by omega))
    rw [stop _ _ _ no]
    have nf : ∀ x, ¬ (i ≤ x ∧ s_lv f left x = true) := fun x hx => by rw [no x hx.1] at hx; exact absurd hx.2 (by decide)
    refine ⟨S, ?_, fun x _ => by rw [if_neg (nf x)], fun x _ => by rw [if_neg (nf x)], fun x _ => by rw [if_neg (nf x)], mFq_refl⟩
    show fX12_loan_L136b _ _ _ _ _ _ _ _ _ _ = _
    simp (disch := (first | assumption | omega | exact hB _ _ | exact hYB _ _ | (simp only [yc, yd, sh, sv, ne_eq]; omega) | (simp (disch := omega) only [↓nm_1, ↓nm_2, nI_add, pk_mul, pk_sub, Nat.add_sub_cancel, qm1_add, qm2_add, nI_clamp, ni_0, ni_1, mb, m1]; refine qin_nI ?_ ?_ <;> first | omega | exact hB _ _ | exact hYB _ _) | (refine qin_nI ?_ ?_ <;> omega) | fail)) only [↓km0_gd, ↓km0_gI, ↓km0_gM, ↓km0_pI, ↓km0_pM, ↓km0_pZ, ↓km0_gL, ↓km0_pL, ↓km0_gF20, ↓km0_gF79, ↓km0_gF80, ↓km0_gF81, ↓km0_gF82, ↓km8_al, ↓km8_as, ↓km8_ln, ↓km50_al, ↓km50_as, ↓km50_ln, ↓km51_al, ↓km51_as, ↓km51_ln, ↓km52_al, ↓km52_as, ↓km52_ln, ↓km53_al, ↓km53_as, ↓km53_ln, ↓qb_so, ↓nm_1, ↓nm_2, ↓reduceIte, if_true, if_false, not_true_eq_false, not_false_eq_true, and_true, true_and, and_false, false_and, or_true, true_or, or_false, false_or, eq_self, ne_eq, quI_s, quI_n, quI2, quL1, quL2, quL3, quR1, quR2, quR3, nI_add, pk_mul, pk_sub, Nat.add_sub_cancel, qm1_add, qm2_add, nI_leI, nI_ltI, nI_eq, nI_m1, nI_m1', nI_clamp, nI_bit, nI_one_shl, nI_m1l, nI_m1lt, nI_m1lt', nI_m1le', oI_some, oI_none, ni_0, ni_1, fX12_loan_L136b, qle_t, qle_f, qlt_t, qlt_f, qeq_t, qeq_f, mb, m1]
  | k + 1, i, q, o, S, hk, hq, ho, hm, hs => by
    obtain ⟨q, rfl⟩ : ∃ q', q = q' + 1 := ⟨q - 1, by omega⟩
    have h62 : Y 2 2 ≤ 6 := hY.1.2.2.1
    have i6 : i < 6 := by omega
    have mb := hm.1
    have m1 := hm.2.1.2.2.1
    have hl6 : ∀ x, left.testBit x = true → x < 6 := fun x hx => by have := (hi x hx).1; omega
    have p2 : 2 ^ i ≤ 2 ^ 6 := Nat.pow_le_pow_right (by decide) (by omega)
    have hoi : o < 2 ^ (i + 1) := by rw [Nat.pow_succ]; omega
    have e6 : 6 - i = (6 - (i + 1)) + 1 := by omega
    have skip : s_lv f left i = false → (∀ V, fX12_loan_L136 n 0 a1 a2 (nI left) (nI t) q (nI o) (nI (i + 1)) S = V → fX12_loan_L136 n 0 a1 a2 (nI left) (nI t) (q + 1) (nI o) (nI i) S = V) → ∃ Z, fX12_loan_L136 n 0 a1 a2 (nI left) (nI t) (q + 1) (nI o) (nI i) S = some (nI (s_lvL f left (6 - i) i o), Z) ∧ (∀ x, x < 6 → Z.1 51 x = if i ≤ x ∧ s_lv f left x = true then nI (f x) else S.1 51 x) ∧ (∀ x, x < 6 → Z.1 52 x = if i ≤ x ∧ s_lv f left x = true then nI t else S.1 52 x) ∧ (∀ x, x < 6 → Z.1 53 x = if i ≤ x ∧ s_lv f left x = true then nI (s_ring f x) else S.1 53 x) ∧ mFq (fun k j => k = 51 ∨ k = 52 ∨ k = 53) S Z := by
      intro hv hV
      obtain ⟨Z, e1, z1, z2, z3, f1⟩ := m_clL hb hY hf hl hi hn ht a1 a2 k (i + 1) q o S (by omega) (by omega) hoi hm hs
      have ex : s_lvL f left (6 - i) i o = s_lvL f left (6 - (i + 1)) (i + 1) o := by
        rw [e6]
        show s_lvL f left (6 - (i + 1)) (i + 1) (if s_lv f left i = true then o ||| 2 ^ i else o) = _
        rw [hv]; rfl
      have ec : ∀ x, (i ≤ x ∧ s_lv f left x = true) = (i + 1 ≤ x ∧ s_lv f left x = true) := by
        intro x
        apply propext
        constructor
        · rintro ⟨a1, a3⟩
          refine ⟨?_, a3⟩
          by_cases e : x = i
          · subst e; rw [hv] at a3; cases a3
          · omega
        · rintro ⟨a1, a3⟩; exact ⟨by omega, a3⟩
      refine ⟨Z, ?_, fun x hx => by rw [z1 x hx]; simp only [ec x], fun x hx => by rw [z2 x hx]; simp only [ec x], fun x hx => by rw [z3 x hx]; simp only [ec x], f1⟩
      rw [ex]
      exact hV _ e1
    by_cases hb2 : left.testBit i = true
    · have q1 : qbit left i = 1 := by unfold qbit; rw [if_pos hb2]
      have er := m_rg (n := n) hs hf hl6 hb2 hn
      have hsi := hs i hb2
      have hfi := hl6 _ (hf i hb2)
      have rb : s_ring f i ≤ 7 := s_rg_le 6 i 1
      by_cases hr : s_ring f i = 0
      · refine skip (by unfold s_lv; rw [hb2, hr]; rfl) (fun V hV => ?_)
        rw [← hV]
        show fX12_loan_L136b _ _ _ _ _ _ _ _ _ _ = _
        simp (disch := (first | assumption | omega | exact hB _ _ | exact hYB _ _ | (simp only [yc, yd, sh, sv, ne_eq]; omega) | (simp (disch := omega) only [↓nm_1, ↓nm_2, nI_add, pk_mul, pk_sub, Nat.add_sub_cancel, qm1_add, qm2_add, nI_clamp, ni_0, ni_1, mb, m1, q1, er, hr]; refine qin_nI ?_ ?_ <;> first | omega | exact hB _ _ | exact hYB _ _) | (refine qin_nI ?_ ?_ <;> omega) | fail)) only [↓km0_gd, ↓km0_gI, ↓km0_gM, ↓km0_pI, ↓km0_pM, ↓km0_pZ, ↓km0_gL, ↓km0_pL, ↓km0_gF20, ↓km0_gF79, ↓km0_gF80, ↓km0_gF81, ↓km0_gF82, ↓km8_al, ↓km8_as, ↓km8_ln, ↓km50_al, ↓km50_as, ↓km50_ln, ↓km51_al, ↓km51_as, ↓km51_ln, ↓km52_al, ↓km52_as, ↓km52_ln, ↓km53_al, ↓km53_as, ↓km53_ln, ↓qb_so, ↓nm_1, ↓nm_2, ↓reduceIte, if_true, if_false, not_true_eq_false, not_false_eq_true, and_true, true_and, and_false, false_and, or_true, true_or, or_false, false_or, eq_self, ne_eq, quI_s, quI_n, quI2, quL1, quL2, quL3, quR1, quR2, quR3, nI_add, pk_mul, pk_sub, Nat.add_sub_cancel, qm1_add, qm2_add, nI_leI, nI_ltI, nI_eq, nI_m1, nI_m1', nI_clamp, nI_bit, nI_one_shl, nI_m1l, nI_m1lt, nI_m1lt', nI_m1le', oI_some, oI_none, ni_0, ni_1, fX12_loan_L136b, fX12_has2, qle_t, qle_f, qlt_t, qlt_f, qeq_t, qeq_f, mb, m1, q1, er, hr]
      · have hv : s_lv f left i = true := by unfold s_lv; rw [hb2]; simp; omega
        have f0 : mFq (fun k j => k = 51 ∨ k = 52 ∨ k = 53) S (xuI (xuI S 51 i (nI (f i))) 52 i (nI t)) := mFq_trans (mFq_upd (by omega)) (mFq_upd (by omega))
        have er2 := m_rg (n := n) (S := xuI (xuI S 51 i (nI (f i))) 52 i (nI t)) (fun x hx => by rw [f0.1 50 x (by omega)]; exact hs x hx) hf hl6 hb2 hn
        have f1 : mFq (fun k j => k = 51 ∨ k = 52 ∨ k = 53) S (xuI (xuI (xuI S 51 i (nI (f i))) 52 i (nI t)) 53 i (nI (s_ring f i))) := mFq_trans f0 (mFq_upd (by omega))
        have o2 : 2 ^ i < 2 ^ (i + 1) := Nat.pow_lt_pow_right (by decide) (by omega)
        obtain ⟨Z, e1, z1, z2, z3, f2⟩ := m_clL hb hY hf hl hi hn ht a1 a2 k (i + 1) q (o ||| 2 ^ i) _ (by omega) (by omega) (Nat.or_lt_two_pow hoi o2) (mY_fr f1 (fun k j a1 a2 => by omega) (by omega) hm) (fun x hx => by rw [f1.1 50 x (by omega)]; exact hs x hx)
        have ex : s_lvL f left (6 - i) i o = s_lvL f left (6 - (i + 1)) (i + 1) (o ||| 2 ^ i) := by
          rw [e6]
          show s_lvL f left (6 - (i + 1)) (i + 1) (if s_lv f left i = true then o ||| 2 ^ i else o) = _
          rw [hv]; rfl
        have eo := nI_or (a := o) (b := 2 ^ i) (by omega) (by omega)
        refine ⟨Z, ?_, fun x hx => ?_, fun x hx => ?_, fun x hx => ?_, mFq_trans f1 f2⟩
        · rw [ex]
          show fX12_loan_L136b _ _ _ _ _ _ _ _ _ _ = _
          simp (disch := (first | assumption | omega | exact hB _ _ | exact hYB _ _ | (simp only [yc, yd, sh, sv, ne_eq]; omega) | (simp (disch := omega) only [↓nm_1, ↓nm_2, nI_add, pk_mul, pk_sub, Nat.add_sub_cancel, qm1_add, qm2_add, nI_clamp, ni_0, ni_1, mb, m1, q1, er, hr, hsi, er2, eo, e1]; refine qin_nI ?_ ?_ <;> first | omega | exact hB _ _ | exact hYB _ _) | (refine qin_nI ?_ ?_ <;> omega) | fail)) only [↓km0_gd, ↓km0_gI, ↓km0_gM, ↓km0_pI, ↓km0_pM, ↓km0_pZ, ↓km0_gL, ↓km0_pL, ↓km0_gF20, ↓km0_gF79, ↓km0_gF80, ↓km0_gF81, ↓km0_gF82, ↓km8_al, ↓km8_as, ↓km8_ln, ↓km50_al, ↓km50_as, ↓km50_ln, ↓km51_al, ↓km51_as, ↓km51_ln, ↓km52_al, ↓km52_as, ↓km52_ln, ↓km53_al, ↓km53_as, ↓km53_ln, ↓qb_so, ↓nm_1, ↓nm_2, ↓reduceIte, if_true, if_false, not_true_eq_false, not_false_eq_true, and_true, true_and, and_false, false_and, or_true, true_or, or_false, false_or, eq_self, ne_eq, quI_s, quI_n, quI2, quL1, quL2, quL3, quR1, quR2, quR3, nI_add, pk_mul, pk_sub, Nat.add_sub_cancel, qm1_add, qm2_add, nI_leI, nI_ltI, nI_eq, nI_m1, nI_m1', nI_clamp, nI_bit, nI_one_shl, nI_m1l, nI_m1lt, nI_m1lt', nI_m1le', oI_some, oI_none, ni_0, ni_1, fX12_loan_L136b, fX12_has2, qle_t, qle_f, qlt_t, qlt_f, qeq_t, qeq_f, mb, m1, q1, er, hr, hsi, er2, eo, e1]
        · rw [z1 x hx]
          by_cases e : x = i
          · subst e
            rw [if_neg (by omega), if_pos ⟨by omega, hv⟩, quI_n (by decide), quI_n (by decide), quI_e]
          · rw [quI_n (by decide), quI_n (by decide), quI_k (by omega)]
            by_cases h2 : i + 1 ≤ x ∧ s_lv f left x = true
            · rw [if_pos h2, if_pos ⟨by omega, h2.2⟩]
            · rw [if_neg h2, if_neg (fun hh => h2 ⟨by omega, hh.2⟩)]
        · rw [z2 x hx]
          by_cases e : x = i
          · subst e
            rw [if_neg (by omega), if_pos ⟨by omega, hv⟩, quI_n (by decide), quI_e]
          · rw [quI_n (by decide), quI_k (by omega), quI_n (by decide)]
            by_cases h2 : i + 1 ≤ x ∧ s_lv f left x = true
            · rw [if_pos h2, if_pos ⟨by omega, h2.2⟩]
            · rw [if_neg h2, if_neg (fun hh => h2 ⟨by omega, hh.2⟩)]
        · rw [z3 x hx]
          by_cases e : x = i
          · subst e
            rw [if_neg (by omega), if_pos ⟨by omega, hv⟩, quI_e]
          · rw [quI_k (by omega), quI_n (by decide), quI_n (by decide)]
            by_cases h2 : i + 1 ≤ x ∧ s_lv f left x = true
            · rw [if_pos h2, if_pos ⟨by omega, h2.2⟩]
            · rw [if_neg h2, if_neg (fun hh => h2 ⟨by omega, hh.2⟩)]
    · have q1 : qbit left i = 0 := by unfold qbit; rw [if_neg hb2]
      refine skip (by unfold s_lv; have : left.testBit i = false := by simpa using hb2
                      rw [this]; rfl) (fun V hV => ?_)
      rw [← hV]
      show fX12_loan_L136b _ _ _ _ _ _ _ _ _ _ = _
      simp (disch := (first | assumption | omega | exact hB _ _ | exact hYB _ _ | (simp only [yc, yd, sh, sv, ne_eq]; omega) | (simp (disch := omega) only [↓nm_1, ↓nm_2, nI_add, pk_mul, pk_sub, Nat.add_sub_cancel, qm1_add, qm2_add, nI_clamp, ni_0, ni_1, mb, m1, q1]; refine qin_nI ?_ ?_ <;> first | omega | exact hB _ _ | exact hYB _ _) | (refine qin_nI ?_ ?_ <;> omega) | fail)) only [↓km0_gd, ↓km0_gI, ↓km0_gM, ↓km0_pI, ↓km0_pM, ↓km0_pZ, ↓km0_gL, ↓km0_pL, ↓km0_gF20, ↓km0_gF79, ↓km0_gF80, ↓km0_gF81, ↓km0_gF82, ↓km8_al, ↓km8_as, ↓km8_ln, ↓km50_al, ↓km50_as, ↓km50_ln, ↓km51_al, ↓km51_as, ↓km51_ln, ↓km52_al, ↓km52_as, ↓km52_ln, ↓km53_al, ↓km53_as, ↓km53_ln, ↓qb_so, ↓nm_1, ↓nm_2, ↓reduceIte, if_true, if_false, not_true_eq_false, not_false_eq_true, and_true, true_and, and_false, false_and, or_true, true_or, or_false, false_or, eq_self, ne_eq, quI_s, quI_n, quI2, quL1, quL2, quL3, quR1, quR2, quR3, nI_add, pk_mul, pk_sub, Nat.add_sub_cancel, qm1_add, qm2_add, nI_leI, nI_ltI, nI_eq, nI_m1, nI_m1', nI_clamp, nI_bit, nI_one_shl, nI_m1l, nI_m1lt, nI_m1lt', nI_m1le', oI_some, oI_none, ni_0, ni_1, fX12_loan_L136b, fX12_has2, qle_t, qle_f, qlt_t, qlt_f, qeq_t, qeq_f, mb, m1, q1]
/-- both settle alike -/
def ladd (S T : xSt) (m left : Nat) : Prop := ∀ x, x < m → left.testBit x = false → S.1 165 x = T.1 51 x ∧ S.1 166 x = T.1 52 x ∧ S.1 167 x = T.1 53 x
theorem j_loan (hb : b < 2) (hn : 2000 ≤ n) {m : Nat} (hm6 : m ≤ 6) (a1 a2 : Int32) : ∀ (c left t q q' : Nat) (S T : xSt), s_bc left 6 ≤ c → c + t = m + 1 → 1 ≤ t → c < q → c < q' → left < 64 → lIn Y left → gJ S T b Y mc wc D P G → ladd S T m left →
    ∃ Z V, fX2_settle_L29 n 164 (yd 0 0) (nI m) q (nI left) (nI t) S = some Z ∧ fX12_loan_L75 n 0 a1 a2 q' (nI left) (nI t) T = some V ∧ gJ Z V b Y mc wc D P G ∧ ladd Z V m 0
  | c, left, t, q, q', S, T, hc, hct, ht1, hq, hq', hl, hi, hj, hla => by
    obtain ⟨q, rfl⟩ : ∃ q2, q = q2 + 1 := ⟨q - 1, by omega⟩
    obtain ⟨q', rfl⟩ : ∃ q2, q' = q2 + 1 := ⟨q' - 1, by omega⟩
    by_cases h0 : left = 0
    · subst h0
      refine ⟨S, T, ?_, ?_, hj, hla⟩
      · show fX2_settle_L29b _ _ _ _ _ _ _ _ = _
        by_cases hx : m < t
        · simp (disch := (first | assumption | omega | exact hB _ _ | exact hYB _ _ | (simp only [yc, yd, sh, sv, ne_eq]; omega) | (simp (disch := omega) only [↓nm_1, ↓nm_2, nI_add, pk_mul, pk_sub, Nat.add_sub_cancel, qm1_add, qm2_add, nI_clamp, ni_0, ni_1, hx]; refine qin_nI ?_ ?_ <;> first | omega | exact hB _ _ | exact hYB _ _) | (refine qin_nI ?_ ?_ <;> omega) | fail)) only [↓kc0_gd, ↓kc0_gI, ↓kc0_gM, ↓kc0_pI, ↓kc0_pM, ↓kc0_pZ, ↓kc0_gF0, ↓kc0_gF4, ↓kc0_gF5, ↓kc0_gF6, ↓kc0_gF7, ↓kc0_gF8, ↓kc0_gF9, ↓kc0_gF10, ↓kc0_gF11, ↓kc0_gF12, ↓kc0_gF14, ↓kc1_al, ↓kc1_as, ↓kc1_ln, ↓kc41_gd, ↓kc41_gI, ↓kc41_gM, ↓kc41_pI, ↓kc41_pM, ↓kc41_pZ, ↓kc41_gF0, ↓kc41_gF1, ↓kc42_ql, ↓kc43_al, ↓kc43_as, ↓kc43_ln, ↓kc148_gd, ↓kc148_gI, ↓kc148_gM, ↓kc148_pI, ↓kc148_pM, ↓kc148_pZ, ↓kc148_gF0, ↓kc148_gF1, ↓kc148_gF2, ↓kc148_gF4, ↓kc148_gF5, ↓kc154_al, ↓kc154_as, ↓kc154_ln, ↓kc155_al, ↓kc155_as, ↓kc155_ln, ↓kc160_gd, ↓kc160_gI, ↓kc160_gM, ↓kc160_pI, ↓kc160_pM, ↓kc160_pZ, ↓kc160_gF0, ↓kc160_gF1, ↓kc161_al, ↓kc161_as, ↓kc161_ln, ↓kc162_gd, ↓kc162_gI, ↓kc162_gM, ↓kc162_pI, ↓kc162_pM, ↓kc162_pZ, ↓kc162_gF0, ↓kc162_gF1, ↓kc163_gd, ↓kc163_gI, ↓kc163_gM, ↓kc163_pI, ↓kc163_pM, ↓kc163_pZ, ↓kc163_gF0, ↓kc164_gd, ↓kc164_gI, ↓kc164_gM, ↓kc164_pI, ↓kc164_pM, ↓kc164_pZ, ↓kc164_gF0, ↓kc164_gF1, ↓kc164_gF2, ↓kc164_gF3, ↓kc165_al, ↓kc165_as, ↓kc165_ln, ↓kc166_al, ↓kc166_as, ↓kc166_ln, ↓kc167_al, ↓kc167_as, ↓kc167_ln, ↓kc168_al, ↓kc168_as, ↓kc168_ln, ↓kc169_gd, ↓kc169_gI, ↓kc169_gM, ↓kc169_pI, ↓kc169_pM, ↓kc169_pZ, ↓kc169_gF0, ↓kc169_gF2, ↓kc170_al, ↓kc170_as, ↓kc170_ln, ↓kc171_gd, ↓kc171_gI, ↓kc171_gM, ↓kc171_pI, ↓kc171_pM, ↓kc171_pZ, ↓kc171_gF5, ↓kc171_gF6, ↓kc171_gF7, ↓kc171_gF8, ↓kc172_al, ↓kc172_as, ↓kc172_ln, ↓kc173_al, ↓kc173_as, ↓kc173_ln, ↓kc174_al, ↓kc174_as, ↓kc174_ln, ↓kc175_al, ↓kc175_as, ↓kc175_ln, ↓kc176_al, ↓kc176_as, ↓kc176_ln, ↓kc177_al, ↓kc177_as, ↓kc177_ln, ↓qb_so, ↓nm_1, ↓nm_2, ↓reduceIte, if_true, if_false, not_true_eq_false, not_false_eq_true, and_true, true_and, and_false, false_and, or_true, true_or, or_false, false_or, eq_self, ne_eq, quI_s, quI_n, quI2, quL1, quL2, quL3, quR1, quR2, quR3, nI_add, pk_mul, pk_sub, Nat.add_sub_cancel, qm1_add, qm2_add, nI_leI, nI_ltI, nI_eq, nI_m1, nI_m1', nI_clamp, nI_bit, nI_one_shl, nI_m1l, nI_m1lt, nI_m1lt', nI_m1le', oI_some, oI_none, ni_0, ni_1, fX2_settle_L29b, qle_t, qle_f, qlt_t, qlt_f, qeq_t, qeq_f, hx]
        · simp (disch := (first | assumption | omega | exact hB _ _ | exact hYB _ _ | (simp only [yc, yd, sh, sv, ne_eq]; omega) | (simp (disch := omega) only [↓nm_1, ↓nm_2, nI_add, pk_mul, pk_sub, Nat.add_sub_cancel, qm1_add, qm2_add, nI_clamp, ni_0, ni_1, hx]; refine qin_nI ?_ ?_ <;> first | omega | exact hB _ _ | exact hYB _ _) | (refine qin_nI ?_ ?_ <;> omega) | fail)) only [↓kc0_gd, ↓kc0_gI, ↓kc0_gM, ↓kc0_pI, ↓kc0_pM, ↓kc0_pZ, ↓kc0_gF0, ↓kc0_gF4, ↓kc0_gF5, ↓kc0_gF6, ↓kc0_gF7, ↓kc0_gF8, ↓kc0_gF9, ↓kc0_gF10, ↓kc0_gF11, ↓kc0_gF12, ↓kc0_gF14, ↓kc1_al, ↓kc1_as, ↓kc1_ln, ↓kc41_gd, ↓kc41_gI, ↓kc41_gM, ↓kc41_pI, ↓kc41_pM, ↓kc41_pZ, ↓kc41_gF0, ↓kc41_gF1, ↓kc42_ql, ↓kc43_al, ↓kc43_as, ↓kc43_ln, ↓kc148_gd, ↓kc148_gI, ↓kc148_gM, ↓kc148_pI, ↓kc148_pM, ↓kc148_pZ, ↓kc148_gF0, ↓kc148_gF1, ↓kc148_gF2, ↓kc148_gF4, ↓kc148_gF5, ↓kc154_al, ↓kc154_as, ↓kc154_ln, ↓kc155_al, ↓kc155_as, ↓kc155_ln, ↓kc160_gd, ↓kc160_gI, ↓kc160_gM, ↓kc160_pI, ↓kc160_pM, ↓kc160_pZ, ↓kc160_gF0, ↓kc160_gF1, ↓kc161_al, ↓kc161_as, ↓kc161_ln, ↓kc162_gd, ↓kc162_gI, ↓kc162_gM, ↓kc162_pI, ↓kc162_pM, ↓kc162_pZ, ↓kc162_gF0, ↓kc162_gF1, ↓kc163_gd, ↓kc163_gI, ↓kc163_gM, ↓kc163_pI, ↓kc163_pM, ↓kc163_pZ, ↓kc163_gF0, ↓kc164_gd, ↓kc164_gI, ↓kc164_gM, ↓kc164_pI, ↓kc164_pM, ↓kc164_pZ, ↓kc164_gF0, ↓kc164_gF1, ↓kc164_gF2, ↓kc164_gF3, ↓kc165_al, ↓kc165_as, ↓kc165_ln, ↓kc166_al, ↓kc166_as, ↓kc166_ln, ↓kc167_al, ↓kc167_as, ↓kc167_ln, ↓kc168_al, ↓kc168_as, ↓kc168_ln, ↓kc169_gd, ↓kc169_gI, ↓kc169_gM, ↓kc169_pI, ↓kc169_pM, ↓kc169_pZ, ↓kc169_gF0, ↓kc169_gF2, ↓kc170_al, ↓kc170_as, ↓kc170_ln, ↓kc171_gd, ↓kc171_gI, ↓kc171_gM, ↓kc171_pI, ↓kc171_pM, ↓kc171_pZ, ↓kc171_gF5, ↓kc171_gF6, ↓kc171_gF7, ↓kc171_gF8, ↓kc172_al, ↓kc172_as, ↓kc172_ln, ↓kc173_al, ↓kc173_as, ↓kc173_ln, ↓kc174_al, ↓kc174_as, ↓kc174_ln, ↓kc175_al, ↓kc175_as, ↓kc175_ln, ↓kc176_al, ↓kc176_as, ↓kc176_ln, ↓kc177_al, ↓kc177_as, ↓kc177_ln, ↓qb_so, ↓nm_1, ↓nm_2, ↓reduceIte, if_true, if_false, not_true_eq_false, not_false_eq_true, and_true, true_and, and_false, false_and, or_true, true_or, or_false, false_or, eq_self, ne_eq, quI_s, quI_n, quI2, quL1, quL2, quL3, quR1, quR2, quR3, nI_add, pk_mul, pk_sub, Nat.add_sub_cancel, qm1_add, qm2_add, nI_leI, nI_ltI, nI_eq, nI_m1, nI_m1', nI_clamp, nI_bit, nI_one_shl, nI_m1l, nI_m1lt, nI_m1lt', nI_m1le', oI_some, oI_none, ni_0, ni_1, fX2_settle_L29b, qle_t, qle_f, qlt_t, qlt_f, qeq_t, qeq_f, hx]
      · show fX12_loan_L75b _ _ _ _ _ _ _ _ = _
        simp (disch := (first | assumption | omega | exact hB _ _ | exact hYB _ _ | (simp only [yc, yd, sh, sv, ne_eq]; omega) | (simp (disch := omega) only [↓nm_1, ↓nm_2, nI_add, pk_mul, pk_sub, Nat.add_sub_cancel, qm1_add, qm2_add, nI_clamp, ni_0, ni_1]; refine qin_nI ?_ ?_ <;> first | omega | exact hB _ _ | exact hYB _ _) | (refine qin_nI ?_ ?_ <;> omega) | fail)) only [↓km0_gd, ↓km0_gI, ↓km0_gM, ↓km0_pI, ↓km0_pM, ↓km0_pZ, ↓km0_gL, ↓km0_pL, ↓qb_so, ↓nm_1, ↓nm_2, ↓reduceIte, if_true, if_false, not_true_eq_false, not_false_eq_true, and_true, true_and, and_false, false_and, or_true, true_or, or_false, false_or, eq_self, ne_eq, quI_s, quI_n, quI2, quL1, quL2, quL3, quR1, quR2, quR3, nI_add, pk_mul, pk_sub, Nat.add_sub_cancel, qm1_add, qm2_add, nI_leI, nI_ltI, nI_eq, nI_m1, nI_m1', nI_clamp, nI_bit, nI_one_shl, nI_m1l, nI_m1lt, nI_m1lt', nI_m1le', oI_some, oI_none, ni_0, ni_1, fX12_loan_L75b, qle_t, qle_f, qlt_t, qlt_f, qeq_t, qeq_f]
    · obtain ⟨g, hg, hgl⟩ := s_bc_ne hl h0
      obtain ⟨C, M, I⟩ := hj
      have hB := dOk_B I.2.2.1
      have t4 := dOk_told I.1 I.2.2.1
      have hcp : 1 ≤ c := by
        apply Nat.le_of_not_lt
        intro hh
        exact h0 (s_bc_0 hl (by omega))
      have htm : t ≤ m := by omega
      obtain ⟨Z1, e1, z1, f1⟩ := c_ptA (n := n) (D := D) hB hl hn 6 0 n S (by omega) (by omega) C.2.2.1 (fun x hx => by omega)
      have ep : fX2_pointAll n 164 (nI left) (yd 0 0) S = some Z1 := by
        simp (disch := (first | assumption | omega | exact hB _ _ | exact hYB _ _ | (simp only [yc, yd, sh, sv, ne_eq]; omega) | (simp (disch := omega) only [↓nm_1, ↓nm_2, nI_add, pk_mul, pk_sub, Nat.add_sub_cancel, qm1_add, qm2_add, nI_clamp, ni_0, ni_1, e1]; refine qin_nI ?_ ?_ <;> first | omega | exact hB _ _ | exact hYB _ _) | (refine qin_nI ?_ ?_ <;> omega) | fail)) only [↓kc0_gd, ↓kc0_gI, ↓kc0_gM, ↓kc0_pI, ↓kc0_pM, ↓kc0_pZ, ↓kc0_gF0, ↓kc0_gF4, ↓kc0_gF5, ↓kc0_gF6, ↓kc0_gF7, ↓kc0_gF8, ↓kc0_gF9, ↓kc0_gF10, ↓kc0_gF11, ↓kc0_gF12, ↓kc0_gF14, ↓kc1_al, ↓kc1_as, ↓kc1_ln, ↓kc41_gd, ↓kc41_gI, ↓kc41_gM, ↓kc41_pI, ↓kc41_pM, ↓kc41_pZ, ↓kc41_gF0, ↓kc41_gF1, ↓kc42_ql, ↓kc43_al, ↓kc43_as, ↓kc43_ln, ↓kc148_gd, ↓kc148_gI, ↓kc148_gM, ↓kc148_pI, ↓kc148_pM, ↓kc148_pZ, ↓kc148_gF0, ↓kc148_gF1, ↓kc148_gF2, ↓kc148_gF4, ↓kc148_gF5, ↓kc154_al, ↓kc154_as, ↓kc154_ln, ↓kc155_al, ↓kc155_as, ↓kc155_ln, ↓kc160_gd, ↓kc160_gI, ↓kc160_gM, ↓kc160_pI, ↓kc160_pM, ↓kc160_pZ, ↓kc160_gF0, ↓kc160_gF1, ↓kc161_al, ↓kc161_as, ↓kc161_ln, ↓kc162_gd, ↓kc162_gI, ↓kc162_gM, ↓kc162_pI, ↓kc162_pM, ↓kc162_pZ, ↓kc162_gF0, ↓kc162_gF1, ↓kc163_gd, ↓kc163_gI, ↓kc163_gM, ↓kc163_pI, ↓kc163_pM, ↓kc163_pZ, ↓kc163_gF0, ↓kc164_gd, ↓kc164_gI, ↓kc164_gM, ↓kc164_pI, ↓kc164_pM, ↓kc164_pZ, ↓kc164_gF0, ↓kc164_gF1, ↓kc164_gF2, ↓kc164_gF3, ↓kc165_al, ↓kc165_as, ↓kc165_ln, ↓kc166_al, ↓kc166_as, ↓kc166_ln, ↓kc167_al, ↓kc167_as, ↓kc167_ln, ↓kc168_al, ↓kc168_as, ↓kc168_ln, ↓kc169_gd, ↓kc169_gI, ↓kc169_gM, ↓kc169_pI, ↓kc169_pM, ↓kc169_pZ, ↓kc169_gF0, ↓kc169_gF2, ↓kc170_al, ↓kc170_as, ↓kc170_ln, ↓kc171_gd, ↓kc171_gI, ↓kc171_gM, ↓kc171_pI, ↓kc171_pM, ↓kc171_pZ, ↓kc171_gF5, ↓kc171_gF6, ↓kc171_gF7, ↓kc171_gF8, ↓kc172_al, ↓kc172_as, ↓kc172_ln, ↓kc173_al, ↓kc173_as, ↓kc173_ln, ↓kc174_al, ↓kc174_as, ↓kc174_ln, ↓kc175_al, ↓kc175_as, ↓kc175_ln, ↓kc176_al, ↓kc176_as, ↓kc176_ln, ↓kc177_al, ↓kc177_as, ↓kc177_ln, ↓qb_so, ↓nm_1, ↓nm_2, ↓reduceIte, if_true, if_false, not_true_eq_false, not_false_eq_true, and_true, true_and, and_false, false_and, or_true, true_or, or_false, false_or, eq_self, ne_eq, quI_s, quI_n, quI2, quL1, quL2, quL3, quR1, quR2, quR3, nI_add, pk_mul, pk_sub, Nat.add_sub_cancel, qm1_add, qm2_add, nI_leI, nI_ltI, nI_eq, nI_m1, nI_m1', nI_clamp, nI_bit, nI_one_shl, nI_m1l, nI_m1lt, nI_m1lt', nI_m1le', oI_some, oI_none, ni_0, ni_1, fX2_pointAll, qle_t, qle_f, qlt_t, qlt_f, qeq_t, qeq_f, e1]
      have hf6 : ∀ x, x < 6 → s_pt D left x < 6 := fun x hx => (s_pt_in hx).1
      have hl6 : ∀ x, left.testBit x = true → x < 6 := fun x hx => by have := (hi x hx).1; have : Y 2 2 ≤ 6 := I.1.1.2.2.1; omega
      have hfl : ∀ x, left.testBit x = true → left.testBit (s_pt D left x) = true := fun x hx => (s_pt_in (hl6 x hx)).2 hx
      obtain ⟨Z2, e2, y1, y2, y3, f2⟩ := c_clL (n := n) (f := s_pt D left) (left := left) (t := t) hf6 hl hn (by omega) 6 0 n 0 Z1 (by omega) (by omega) (by decide) z1
      obtain ⟨V1, d1, w1, k1⟩ := m_ptA (n := n) hb I.1 hB (by omega) hl hi hn a1 a2 (nI t) (Y 2 2) 0 n T (by omega) (by have : Y 2 2 ≤ 6 := I.1.1.2.2.1; omega) M.1 M.2.2.1 (fun x hx => by omega)
      obtain ⟨V2, d2, x1, x2, x3, k2⟩ := m_clL (n := n) (mc := mc) (wc := wc) (f := s_pt D left) (t := t) hb I.1 hfl hl hi hn (by omega) a1 a2 (Y 2 2) 0 n 0 V1 (by omega) (by have : Y 2 2 ≤ 6 := I.1.1.2.2.1; omega) (by decide) (mY_fr k1 (fun k j a1 a2 => by omega) (by omega) M.1) (fun x hx => w1 x (hi x hx).1)
      have gz : gC Z2 b Y mc wc D P G := gC_J hb (fun k hk => by rw [f2.1 k (by unfold jK at hk; omega), f1.1 k (by unfold jK at hk; omega)]) (by rw [f2.2, f1.2]) C
      have gt : gM V2 b Y mc wc D P G := gM_J I (mFq_trans (mFq_mono k1 (fun k j hh => by unfold jM; omega)) (mFq_mono k2 (fun k j hh => by unfold jM; omega))) M
      have ho : s_lvL (s_pt D left) left 6 0 0 < 64 := s_out_lt
      have hnb : ∀ x, (s_nxt left (s_out (s_pt D left) left)).testBit x = (left.testBit x && !(s_lv (s_pt D left) left x)) := by
        intro x
        rw [s_nxt_bit, s_out_bit]
        by_cases hx : left.testBit x = true
        · have := hl6 x hx
          simp [this]
        · have : left.testBit x = false := by simpa using hx
          rw [this]; rfl
      have hsub : ∀ x, (s_nxt left (s_out (s_pt D left) left)).testBit x = true → left.testBit x = true := by
        intro x hx
        rw [hnb] at hx
        cases h : left.testBit x with
        | true => rfl
        | false => rw [h] at hx; cases hx
      obtain ⟨g2, hg2, hlv⟩ := s_some (D := D) hg hgl
      have hlt := s_bc_lt (l := left) (l' := s_nxt left (s_out (s_pt D left) left)) (x := g2) hsub (by unfold s_lv at hlv; cases h : left.testBit g2 with
        | true => rfl
        | false => rw [h] at hlv; cases hlv) (by rw [hnb, hlv]; simp) 6 hg2
      have la : ladd Z2 V2 m (s_nxt left (s_out (s_pt D left) left)) := by
        intro x hx hb0
        rw [hnb] at hb0
        by_cases hv : s_lv (s_pt D left) left x = true
        · refine ⟨?_, ?_, ?_⟩
          · rw [y1 x, x1 x (by omega), if_pos ⟨Nat.zero_le _, by omega, hv⟩, if_pos ⟨Nat.zero_le _, hv⟩]
          · rw [y2 x, x2 x (by omega), if_pos ⟨Nat.zero_le _, by omega, hv⟩, if_pos ⟨Nat.zero_le _, hv⟩]
          · rw [y3 x, x3 x (by omega), if_pos ⟨Nat.zero_le _, by omega, hv⟩, if_pos ⟨Nat.zero_le _, hv⟩]
        · have hv' : s_lv (s_pt D left) left x = false := by simpa using hv
          rw [hv'] at hb0
          have hlx : left.testBit x = false := by simpa using hb0
          obtain ⟨r1, r2, r3⟩ := hla x hx hlx
          refine ⟨?_, ?_, ?_⟩
          · rw [y1 x, x1 x (by omega), if_neg (fun hh => hv hh.2.2), if_neg (fun hh => hv hh.2), f1.1 165 (by omega), k1.1 51 x (by omega)]; exact r1
          · rw [y2 x, x2 x (by omega), if_neg (fun hh => hv hh.2.2), if_neg (fun hh => hv hh.2), f1.1 166 (by omega), k1.1 52 x (by omega)]; exact r2
          · rw [y3 x, x3 x (by omega), if_neg (fun hh => hv hh.2.2), if_neg (fun hh => hv hh.2), f1.1 167 (by omega), k1.1 53 x (by omega)]; exact r3
      obtain ⟨Z, V, s1, s2, s3, s4⟩ := j_loan hb hn hm6 a1 a2 (c - 1) (s_nxt left (s_out (s_pt D left) left)) (t + 1) q q' Z2 V2 (by omega) (by omega) (by omega) (by omega) (by omega) (s_nxt_lt hl) (fun x hx => hi x (hsub x hx)) ⟨gz, gt, I⟩ la
      have en := nI_nxt (l := left) (o := s_lvL (s_pt D left) left 6 0 0) hl ho
      refine ⟨Z, V, ?_, ?_, s3, s4⟩
      · have s1' : fX2_settle_L29 n 164 (yd 0 0) (nI m) q (nI (s_nxt left (s_lvL (s_pt D left) left 6 0 0))) (nI (t + 1)) Z2 = some Z := s1
        show fX2_settle_L29b _ _ _ _ _ _ _ _ = _
        simp (disch := (first | assumption | omega | exact hB _ _ | exact hYB _ _ | (simp only [yc, yd, sh, sv, ne_eq]; omega) | (simp (disch := omega) only [↓nm_1, ↓nm_2, nI_add, pk_mul, pk_sub, Nat.add_sub_cancel, qm1_add, qm2_add, nI_clamp, ni_0, ni_1, h0, ep, e2, en, s1']; refine qin_nI ?_ ?_ <;> first | omega | exact hB _ _ | exact hYB _ _) | (refine qin_nI ?_ ?_ <;> omega) | fail)) only [↓kc0_gd, ↓kc0_gI, ↓kc0_gM, ↓kc0_pI, ↓kc0_pM, ↓kc0_pZ, ↓kc0_gF0, ↓kc0_gF4, ↓kc0_gF5, ↓kc0_gF6, ↓kc0_gF7, ↓kc0_gF8, ↓kc0_gF9, ↓kc0_gF10, ↓kc0_gF11, ↓kc0_gF12, ↓kc0_gF14, ↓kc1_al, ↓kc1_as, ↓kc1_ln, ↓kc41_gd, ↓kc41_gI, ↓kc41_gM, ↓kc41_pI, ↓kc41_pM, ↓kc41_pZ, ↓kc41_gF0, ↓kc41_gF1, ↓kc42_ql, ↓kc43_al, ↓kc43_as, ↓kc43_ln, ↓kc148_gd, ↓kc148_gI, ↓kc148_gM, ↓kc148_pI, ↓kc148_pM, ↓kc148_pZ, ↓kc148_gF0, ↓kc148_gF1, ↓kc148_gF2, ↓kc148_gF4, ↓kc148_gF5, ↓kc154_al, ↓kc154_as, ↓kc154_ln, ↓kc155_al, ↓kc155_as, ↓kc155_ln, ↓kc160_gd, ↓kc160_gI, ↓kc160_gM, ↓kc160_pI, ↓kc160_pM, ↓kc160_pZ, ↓kc160_gF0, ↓kc160_gF1, ↓kc161_al, ↓kc161_as, ↓kc161_ln, ↓kc162_gd, ↓kc162_gI, ↓kc162_gM, ↓kc162_pI, ↓kc162_pM, ↓kc162_pZ, ↓kc162_gF0, ↓kc162_gF1, ↓kc163_gd, ↓kc163_gI, ↓kc163_gM, ↓kc163_pI, ↓kc163_pM, ↓kc163_pZ, ↓kc163_gF0, ↓kc164_gd, ↓kc164_gI, ↓kc164_gM, ↓kc164_pI, ↓kc164_pM, ↓kc164_pZ, ↓kc164_gF0, ↓kc164_gF1, ↓kc164_gF2, ↓kc164_gF3, ↓kc165_al, ↓kc165_as, ↓kc165_ln, ↓kc166_al, ↓kc166_as, ↓kc166_ln, ↓kc167_al, ↓kc167_as, ↓kc167_ln, ↓kc168_al, ↓kc168_as, ↓kc168_ln, ↓kc169_gd, ↓kc169_gI, ↓kc169_gM, ↓kc169_pI, ↓kc169_pM, ↓kc169_pZ, ↓kc169_gF0, ↓kc169_gF2, ↓kc170_al, ↓kc170_as, ↓kc170_ln, ↓kc171_gd, ↓kc171_gI, ↓kc171_gM, ↓kc171_pI, ↓kc171_pM, ↓kc171_pZ, ↓kc171_gF5, ↓kc171_gF6, ↓kc171_gF7, ↓kc171_gF8, ↓kc172_al, ↓kc172_as, ↓kc172_ln, ↓kc173_al, ↓kc173_as, ↓kc173_ln, ↓kc174_al, ↓kc174_as, ↓kc174_ln, ↓kc175_al, ↓kc175_as, ↓kc175_ln, ↓kc176_al, ↓kc176_as, ↓kc176_ln, ↓kc177_al, ↓kc177_as, ↓kc177_ln, ↓qb_so, ↓nm_1, ↓nm_2, ↓reduceIte, if_true, if_false, not_true_eq_false, not_false_eq_true, and_true, true_and, and_false, false_and, or_true, true_or, or_false, false_or, eq_self, ne_eq, quI_s, quI_n, quI2, quL1, quL2, quL3, quR1, quR2, quR3, nI_add, pk_mul, pk_sub, Nat.add_sub_cancel, qm1_add, qm2_add, nI_leI, nI_ltI, nI_eq, nI_m1, nI_m1', nI_clamp, nI_bit, nI_one_shl, nI_m1l, nI_m1lt, nI_m1lt', nI_m1le', oI_some, oI_none, ni_0, ni_1, fX2_settle_L29b, fX2_closeRings, qle_t, qle_f, qlt_t, qlt_f, qeq_t, qeq_f, h0, ep, e2, en, s1']
      · have s2' : fX12_loan_L75 n 0 a1 a2 q' (nI (s_nxt left (s_lvL (s_pt D left) left 6 0 0))) (nI (t + 1)) V2 = some V := s2
        have d2' : fX12_loan_L136 n 0 a1 a2 (nI left) (nI t) n (nI 0) (nI 0) V1 = some (nI (s_lvL (s_pt D left) left 6 0 0), V2) := d2
        show fX12_loan_L75b _ _ _ _ _ _ _ _ = _
        simp (disch := (first | assumption | omega | exact hB _ _ | exact hYB _ _ | (simp only [yc, yd, sh, sv, ne_eq]; omega) | (simp (disch := omega) only [↓nm_1, ↓nm_2, nI_add, pk_mul, pk_sub, Nat.add_sub_cancel, qm1_add, qm2_add, nI_clamp, ni_0, ni_1, h0, d1, d2', en, s2']; refine qin_nI ?_ ?_ <;> first | omega | exact hB _ _ | exact hYB _ _) | (refine qin_nI ?_ ?_ <;> omega) | fail)) only [↓km0_gd, ↓km0_gI, ↓km0_gM, ↓km0_pI, ↓km0_pM, ↓km0_pZ, ↓km0_gL, ↓km0_pL, ↓qb_so, ↓nm_1, ↓nm_2, ↓reduceIte, if_true, if_false, not_true_eq_false, not_false_eq_true, and_true, true_and, and_false, false_and, or_true, true_or, or_false, false_or, eq_self, ne_eq, quI_s, quI_n, quI2, quL1, quL2, quL3, quR1, quR2, quR3, nI_add, pk_mul, pk_sub, Nat.add_sub_cancel, qm1_add, qm2_add, nI_leI, nI_ltI, nI_eq, nI_m1, nI_m1', nI_clamp, nI_bit, nI_one_shl, nI_m1l, nI_m1lt, nI_m1lt', nI_m1le', oI_some, oI_none, ni_0, ni_1, fX12_loan_L75b, qle_t, qle_f, qlt_t, qlt_f, qeq_t, qeq_f, h0, d1, d2', en, s2']
end Q77

