/-! ===== the reference reads a rule: an operand ===== -/
/-- as stM, where the token is about to go -/
def stX (S : xSt) (b : Nat) (f : Nat → Nat) (L m e : Nat) (c : List (Nat × Nat)) (P : List Nat) (o D K H B A : Nat) : Prop := tkM S f L e ∧ e ≤ L ∧ S.1 0 8 = nI 0 ∧ S.1 0 41 = nI m ∧ cdM S b c P o ∧ tpM S D K H B A ∧ c.length + P.length + D ≤ e + 2 ∧ A ≤ P.length ∧ P.length ≤ 100 ∧ 1 ≤ D ∧ o ≤ 7 ∧ nots P + D = o + 1
section Q9d
variable {S Z V : xSt} {n L e m o b d t k a A D K H B r : Nat} {f : Nat → Nat} {c c' : List (Nat × Nat)} {P P' : List Nat} {o' D' K' H' B' A' : Nat}
theorem stX_mk (h : stM S b f L m e c P o D K H B A) (hk : ∀ k j, ¬ (k = 0 ∧ (j = 39 ∨ 47 ≤ j ∧ j ≤ 51)) → k ≠ 21 → k ≠ 22 → ¬ (27 ≤ k ∧ k ≤ 32) → Z.1 k j = S.1 k j) (h2 : Z.2 = S.2) (hc : cdM Z b c' P' o') (ht : tpM Z D' K' H' B' A') (n1 : c'.length + P'.length + D' ≤ c.length + P.length + D + 1) (n2 : A' ≤ P'.length) (n3 : P'.length ≤ 100) (n4 : 1 ≤ D') (n5 : o' ≤ 7) (n6 : nots P' + D' = o' + 1) : stX Z b f L m e c' P' o' D' K' H' B' A' := by
  obtain ⟨g1, g2, g3, g4, g5, g6, g7, g8, g9, g10, g11, g12⟩ := h
  exact ⟨tkM_same g1 (fun k j x => hk k j (by omega) (by omega) (by omega) (by omega)) (by rw [h2]), g2, by rw [hk _ _ (by omega) (by omega) (by omega) (by omega)]; exact g3, by rw [hk _ _ (by omega) (by omega) (by omega) (by omega)]; exact g4, hc, ht, by omega, n2, n3, n4, n5, n6⟩
theorem cdM_fr (h : cdM S b c P o) (hk : ∀ k j, ¬ (k = 0 ∧ ((3 ≤ j ∧ j ≤ 9) ∨ j = 12 ∨ j = 47 ∨ j = 51)) → ¬ (27 ≤ k ∧ k ≤ 31) → Z.1 k j = S.1 k j) : cdM Z b c P o := by
  obtain ⟨h1, h2, h3, h4, h5, h6, h7⟩ := h
  exact ⟨by rw [hk _ _ (by omega) (by omega)]; exact h1, by rw [hk _ _ (by omega) (by omega)]; exact h2, mCode_eq h3 (fun j _ _ => ⟨hk _ _ (by omega) (by omega), hk _ _ (by omega) (by omega)⟩), by rw [hk _ _ (by omega) (by omega)]; exact h4, by rw [hk _ _ (by omega) (by omega)]; exact h5, pSt_eq h6 (fun j _ => hk _ _ (by omega) (by omega)), h7⟩
theorem s_ahead (hn : 2000 ≤ n) (h : stX S b f L m e c P o D K H B A) (hT : kT f L e ≠ 0) : ∃ Z, fX12_ahead n 0 S = some Z ∧ stM Z b f L m (kE f L e) c P o D K H B A ∧ frM S Z := by
  obtain ⟨g1, g2, g3, g4, g5, g6, g7, g8, g9, g10, g11, g12⟩ := h
  have hke := kE_from (f := f) g2
  have hg := kE_gt hT
  obtain ⟨Z, z1, z2, z3⟩ := m_ahead hn g1.1 g1.2.2.2.1 hke.2
  refine ⟨Z, z1, ⟨z2, hke.2, by rw [z3.1 _ _ (by omega)]; exact g3, by rw [z3.1 _ _ (by omega)]; exact g4, cdM_fr g5 (fun k j x y => z3.1 k j (by omega)), ⟨by rw [z3.1 _ _ (by omega)]; exact g6.1, by rw [z3.1 _ _ (by omega)]; exact g6.2.1, by rw [z3.1 _ _ (by omega)]; exact g6.2.2.1, by rw [z3.1 _ _ (by omega)]; exact g6.2.2.2.1, by rw [z3.1 _ _ (by omega)]; exact g6.2.2.2.2⟩, by omega, g8, g9, g10, g11, g12⟩, z3⟩
theorem m_isW (hL : L ≤ 1600) (h : tkM S f L e) (hw : kW f L e = none) {k : Nat} (hk : k < 32) : fX12_isWord 0 (lN (s_oc k)) S = some (nI (if iw f L e k then 1 else 0)) := by
  have e1 := m_isWord hL h hw hk
  rw [e1]
  by_cases hi : iw f L e k
  · rw [if_pos hi, if_pos hi.2]
  · rw [if_neg hi, if_neg (fun hh => hi ⟨hw, hh⟩)]
theorem m_isS (h : tkM S f L e) {k : Nat} (hk : k < 256) : fX12_isSign 0 (nI k) S = some (nI (if ig f L e k then 1 else 0)) := m_isSign h hk
/-- a number or a fact is written down -/
theorem o_add {x : Nat × Nat} (hn : 2000 ≤ n) (hb : b < 2) (h : stM S b f L m e c P o D K H B A) (hT : kT f L e ≠ 0) (hx : x.1 = 0 → S.1 0 6 = nI x.2) :
    ∃ Z, fX12_operand_B471 n 0 (nI (mSort x)) S = some (nI 1, Z) ∧ stM Z b f L m (kE f L e) (c ++ [x]) P o D K H B A ∧ frN b S Z ∧ frD D S Z := by
  have h8 := h.2.2.1
  have hL := h.1.1.2.2.1
  have hg := kS_lt hT
  have hs := kS_ge (f := f) (L := L) (e := e)
  have n7 := h.2.2.2.2.2.2.1
  have nD := h.2.2.2.2.2.2.2.2.2.1
  obtain ⟨Z, z1, z2, z3, z4, z5⟩ := m_add (x := x) (y := S.1 0 6) hb h.2.2.2.2.1 (by omega) hx
  obtain ⟨g1, g2, g3, g4, g5, g6, g7, g8, g9, g10, g11, g12⟩ := h
  have hX : stX Z b f L m e (c ++ [x]) P o D K H B A := stX_mk (S := S) ⟨g1, g2, g3, g4, g5, g6, g7, g8, g9, g10, g11, g12⟩ (fun k j a1 a2 a3 a4 => z4 k j (by omega) a2 a3) z5 z2 ⟨by rw [z4 _ _ (by omega) (by decide) (by decide)]; exact g6.1, by rw [z4 _ _ (by omega) (by decide) (by decide)]; exact g6.2.1, by rw [z4 _ _ (by omega) (by decide) (by decide)]; exact g6.2.2.1, by rw [z4 _ _ (by omega) (by decide) (by decide)]; exact g6.2.2.2.1, by rw [z4 _ _ (by omega) (by decide) (by decide)]; exact g6.2.2.2.2⟩ (by rw [List.length_append]; simp only [List.length_cons, List.length_nil]; omega) g8 g9 g10 g11 g12
  obtain ⟨W, w1, w2, w3⟩ := s_ahead hn hX hT
  refine ⟨W, ?_, w2, frN_trans z3 (frN_M w3), frD_trans (fun k j a1 a2 _ => z4 k j (by omega) (by omega) (by omega)) (frD_M w3)⟩
  simp (disch := (first | assumption | omega | exact hB _ _ | exact hYB _ _ | (simp only [yc, yd, sh, sv, ne_eq]; omega) | (simp (disch := omega) only [↓nm_1, ↓nm_2, nI_add, pk_mul, pk_sub, Nat.add_sub_cancel, qm1_add, qm2_add, nI_clamp, ni_0, ni_1, h8, z1, w1]; refine qin_nI ?_ ?_ <;> first | omega | exact hB _ _ | exact hYB _ _) | (refine qin_nI ?_ ?_ <;> omega) | fail)) only [↓km0_gd, ↓km0_gI, ↓km0_gM, ↓km0_pI, ↓km0_pM, ↓km0_pZ, ↓km0_gL, ↓km0_pL, ↓qb_so, ↓nm_1, ↓nm_2, ↓reduceIte, if_true, if_false, not_true_eq_false, not_false_eq_true, and_true, true_and, and_false, false_and, or_true, true_or, or_false, false_or, eq_self, ne_eq, quI_s, quI_n, quI2, quL1, quL2, quL3, quR1, quR2, quR3, nI_add, pk_mul, pk_sub, Nat.add_sub_cancel, qm1_add, qm2_add, nI_leI, nI_ltI, nI_eq, nI_m1, nI_m1', nI_clamp, nI_bit, nI_one_shl, nI_m1l, nI_m1lt, nI_m1lt', nI_m1le', oI_some, oI_none, ni_0, ni_1, fX12_operand_B471, qle_t, qle_f, qlt_t, qlt_f, qeq_t, qeq_f, h8, z1, w1]
end Q9d

