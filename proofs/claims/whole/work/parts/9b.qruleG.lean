/-! ===== the reference reads a rule: joining, holding back, opening ===== -/
section Q9b
variable {S Z V : xSt} {n L e m o b d t k a A D K H B r : Nat} {f : Nat → Nat} {c : List (Nat × Nat)} {P : List Nat}
/-- what joining leaves -/
def frJ (S Z : xSt) : Prop := (∀ k j, ¬ (k = 0 ∧ (j = 39 ∨ j = 48 ∨ j = 50)) → k ≠ 21 → k ≠ 22 → Z.1 k j = S.1 k j) ∧ Z.2 = S.2
theorem frJ_refl : frJ S S := ⟨fun _ _ _ _ _ => rfl, rfl⟩
theorem frJ_trans (h1 : frJ S Z) (h2 : frJ Z V) : frJ S V := ⟨fun k j x y z => (h2.1 k j x y z).trans (h1.1 k j x y z), h2.2.trans h1.2⟩
theorem rkq_le (q : Nat) : rkq q ≤ 6 := by
  unfold rkq
  repeat' split
  all_goals omega
theorem m_joinsL (hb : b < 2) (hr : r ≤ 6) (hD : 1 ≤ D) (hD2 : D ≤ 20) : ∀ (p : List Nat) (q : Nat) (c : List (Nat × Nat)) (o : Nat) (S : xSt), p.length < q → cdM S b c (p ++ P) o → S.1 0 47 = nI D → S.1 31 (D - 1) = nI A → A ≤ P.length → (p ++ P).length ≤ 400 → c.length + p.length ≤ 1600 → (∀ x, x ∈ p → r ≤ rkq x) → (A < P.length → ∀ x X, P = x :: X → rkq x < r) → nots p ≤ o → o ≤ 7 →
    ∃ Z, fX12_joins_L0 n 0 (nI r) q S = some Z ∧ cdM Z b (c ++ em p) P (o - nots p) ∧ frN b S Z ∧ frJ S Z
  | [], q, c, o, S, hq, h, h47, h31, hA, hl, hc, hp, hP, hno, ho => by
    obtain ⟨q, rfl⟩ : ∃ q', q = q' + 1 := ⟨q - 1, by omega⟩
    have hl' : P.length ≤ 400 := hl
    refine ⟨S, ?_, by rw [show em [] = [] from rfl, List.append_nil]; exact h, frN_refl, frJ_refl⟩
    obtain ⟨h1, h2, h3, h4, h5, h6, h7⟩ := h
    have h5' : S.1 0 50 = nI P.length := h5
    show fX12_joins_L0b n 0 (nI r) _ S = some S
    by_cases hA2 : P.length ≤ A
    · simp (disch := (first | assumption | omega | exact hB _ _ | exact hYB _ _ | (simp only [yc, yd, sh, sv, ne_eq]; omega) | (simp (disch := omega) only [↓nm_1, ↓nm_2, nI_add, pk_mul, pk_sub, Nat.add_sub_cancel, qm1_add, qm2_add, nI_clamp, ni_0, ni_1, ni_43, h47, h31, h5', hA2]; refine qin_nI ?_ ?_ <;> first | omega | exact hB _ _ | exact hYB _ _) | (refine qin_nI ?_ ?_ <;> omega) | fail)) only [↓km0_gd, ↓km0_gI, ↓km0_gM, ↓km0_pI, ↓km0_pM, ↓km0_pZ, ↓km0_gL, ↓km0_pL, ↓km0_gF46, ↓km0_gF49, ↓km31_al, ↓km31_as, ↓km31_ln, ↓km32_al, ↓km32_as, ↓km32_ln, ↓qb_so, ↓nm_1, ↓nm_2, ↓reduceIte, if_true, if_false, not_true_eq_false, not_false_eq_true, and_true, true_and, and_false, false_and, or_true, true_or, or_false, false_or, eq_self, ne_eq, quI_s, quI_n, quI2, quL1, quL2, quL3, quR1, quR2, quR3, nI_add, pk_mul, pk_sub, Nat.add_sub_cancel, qm1_add, qm2_add, nI_leI, nI_ltI, nI_eq, nI_m1, nI_m1', nI_clamp, nI_bit, nI_one_shl, nI_m1l, nI_m1lt, nI_m1lt', nI_m1le', oI_some, oI_none, ni_0, ni_1, ni_43, fX12_joins_L0b, qle_t, qle_f, qlt_t, qlt_f, qeq_t, qeq_f, h47, h31, h5', hA2]
    · match P, hA2, hP (by omega), h5', h6, h7, hl' with
      | [], hA2, _, _, _, _, _ => exact absurd (Nat.zero_le _) hA2
      | x :: X, hA2, hP, h5', h6, h7, hl' =>
        have hk := rkq_le x
        have r1 := hP x X rfl
        have e1 := m_rank (S := S) (h7 x (List.mem_cons_self ..))
        have h32 : S.1 32 X.length = nI (mSort (x, 0)) := h6.1
        rw [List.length_cons] at h5' hA2 hl'
        simp (disch := (first | assumption | omega | exact hB _ _ | exact hYB _ _ | (simp only [yc, yd, sh, sv, ne_eq]; omega) | (simp (disch := omega) only [↓nm_1, ↓nm_2, nI_add, pk_mul, pk_sub, Nat.add_sub_cancel, qm1_add, qm2_add, nI_clamp, ni_0, ni_1, ni_43, h47, h31, h5', hA2, h32, e1, r1]; refine qin_nI ?_ ?_ <;> first | omega | exact hB _ _ | exact hYB _ _) | (refine qin_nI ?_ ?_ <;> omega) | fail)) only [↓km0_gd, ↓km0_gI, ↓km0_gM, ↓km0_pI, ↓km0_pM, ↓km0_pZ, ↓km0_gL, ↓km0_pL, ↓km0_gF46, ↓km0_gF49, ↓km31_al, ↓km31_as, ↓km31_ln, ↓km32_al, ↓km32_as, ↓km32_ln, ↓qb_so, ↓nm_1, ↓nm_2, ↓reduceIte, if_true, if_false, not_true_eq_false, not_false_eq_true, and_true, true_and, and_false, false_and, or_true, true_or, or_false, false_or, eq_self, ne_eq, quI_s, quI_n, quI2, quL1, quL2, quL3, quR1, quR2, quR3, nI_add, pk_mul, pk_sub, Nat.add_sub_cancel, qm1_add, qm2_add, nI_leI, nI_ltI, nI_eq, nI_m1, nI_m1', nI_clamp, nI_bit, nI_one_shl, nI_m1l, nI_m1lt, nI_m1lt', nI_m1le', oI_some, oI_none, ni_0, ni_1, ni_43, fX12_joins_L0b, qle_t, qle_f, qlt_t, qlt_f, qeq_t, qeq_f, h47, h31, h5', hA2, h32, e1, r1]
  | x :: p, q, c, o, S, hq, h, h47, h31, hA, hl, hc, hp, hP, hno, ho => by
    obtain ⟨q, rfl⟩ : ∃ q', q = q' + 1 := ⟨q - 1, by omega⟩
    obtain ⟨h1, h2, h3, h4, h5, h6, h7⟩ := h
    have hx := h7 x (List.mem_cons_self ..)
    have e1 := m_rank (S := S) hx
    have r1 : r ≤ rkq x := hp x (List.mem_cons_self ..)
    have r1' : ¬ rkq x < r := by omega
    have hk := rkq_le x
    have h32 : S.1 32 (p ++ P).length = nI (mSort (x, 0)) := h6.1
    have h5' : S.1 0 50 = nI ((p ++ P).length + 1) := h5
    have hlen : (p ++ P).length = p.length + P.length := List.length_append
    have hl' : (p ++ P).length + 1 ≤ 400 := hl
    have hA2 : ¬ (p ++ P).length + 1 ≤ A := by omega
    have hc' : c.length + p.length + 1 ≤ 1600 := by rw [List.length_cons] at hc; omega
    show ∃ Z, fX12_joins_L0b n 0 (nI r) (fX12_joins_L0 n 0 (nI r) q) S = some Z ∧ _
    have s1 : cdM (xuI S 0 50 (nI (p ++ P).length)) b c (p ++ P) o := ⟨by rw [quI_k (by omega)]; exact h1, by rw [quI_k (by omega)]; exact h2, mCode_eq h3 (fun j _ _ => ⟨quI_k (by omega), quI_k (by omega)⟩), by rw [quI_k (by omega)]; exact h4, quI_e, pSt_eq h6.2 (fun j _ => quI_k (by omega)), fun q hq => h7 q (List.mem_cons_of_mem _ hq)⟩
    obtain ⟨Z, z1, z2, z3, z4, z5⟩ := m_add (x := (x, 0)) (y := nI 0) hb s1 (by omega) (fun _ => rfl)
    have z32 : Z.1 32 (p ++ P).length = nI (mSort (x, 0)) := by rw [z4 _ _ (by omega) (by decide) (by decide), quI_k (by omega)]; exact h32
    have z50 : Z.1 0 50 = nI (p ++ P).length := z2.2.2.2.2.1
    have z48 : Z.1 0 48 = nI o := z2.2.2.2.1
    have f1 : frN b S Z := frN_trans ⟨fun k j a1 a2 a3 => quI_k (by omega), fun _ _ _ => rfl, rfl⟩ z3
    have f2 : frJ S Z := ⟨fun k j a1 a2 a3 => by rw [z4 k j (by omega) a2 a3, quI_k (by omega)], z5⟩
    have hs := mSort_lt hx
    by_cases hx2 : x = 2
    · subst hx2
      have n1 : nots (2 :: p) = nots p + 1 := by unfold nots; rw [List.filter_cons_of_pos (by decide)]; rfl
      have s2 : cdM (xuI Z 0 48 (nI (o - 1))) b (c ++ [(2, 0)]) (p ++ P) (o - 1) := by
        obtain ⟨g1, g2, g3, g4, g5, g6, g7⟩ := z2
        exact ⟨by rw [quI_k (by omega)]; exact g1, by rw [quI_k (by omega)]; exact g2, mCode_eq g3 (fun j _ _ => ⟨quI_k (by omega), quI_k (by omega)⟩), quI_e, by rw [quI_k (by omega)]; exact g5, pSt_eq g6 (fun j _ => quI_k (by omega)), g7⟩
      obtain ⟨W, w1, w2, w3, w4⟩ := m_joinsL hb hr hD hD2 p q (c ++ [(2, 0)]) (o - 1) (xuI Z 0 48 (nI (o - 1))) (by rw [List.length_cons] at hq; omega) s2 (by rw [quI_k (by omega), f2.1 _ _ (by omega) (by decide) (by decide)]; exact h47) (by rw [quI_k (by omega), f2.1 _ _ (by omega) (by decide) (by decide)]; exact h31) hA (by omega) (by rw [List.length_append]; simp only [List.length_cons, List.length_nil]; omega) (fun y hy => hp y (List.mem_cons_of_mem _ hy)) hP (by omega) (by omega)
      refine ⟨W, ?_, ?_, frN_trans f1 (frN_trans ⟨fun k j a1 a2 a3 => quI_k (by omega), fun _ _ _ => rfl, rfl⟩ w3), frJ_trans f2 (frJ_trans ⟨fun k j a1 a2 a3 => quI_k (by omega), rfl⟩ w4)⟩
      · have ms : mSort (2, 0) = 43 := rfl
        rw [ms] at h32 z32 z1 e1
        have ho1 : 1 ≤ o := by omega
        simp (disch := (first | assumption | omega | exact hB _ _ | exact hYB _ _ | (simp only [yc, yd, sh, sv, ne_eq]; omega) | (simp (disch := omega) only [↓nm_1, ↓nm_2, nI_add, pk_mul, pk_sub, Nat.add_sub_cancel, qm1_add, qm2_add, nI_clamp, ni_0, ni_1, ni_43, h47, h31, h5', hA2, h32, e1, r1', z1, z32, z50, z48, w1]; refine qin_nI ?_ ?_ <;> first | omega | exact hB _ _ | exact hYB _ _) | (refine qin_nI ?_ ?_ <;> omega) | fail)) only [↓km0_gd, ↓km0_gI, ↓km0_gM, ↓km0_pI, ↓km0_pM, ↓km0_pZ, ↓km0_gL, ↓km0_pL, ↓km0_gF46, ↓km0_gF49, ↓km31_al, ↓km31_as, ↓km31_ln, ↓km32_al, ↓km32_as, ↓km32_ln, ↓qb_so, ↓nm_1, ↓nm_2, ↓reduceIte, if_true, if_false, not_true_eq_false, not_false_eq_true, and_true, true_and, and_false, false_and, or_true, true_or, or_false, false_or, eq_self, ne_eq, quI_s, quI_n, quI2, quL1, quL2, quL3, quR1, quR2, quR3, nI_add, pk_mul, pk_sub, Nat.add_sub_cancel, qm1_add, qm2_add, nI_leI, nI_ltI, nI_eq, nI_m1, nI_m1', nI_clamp, nI_bit, nI_one_shl, nI_m1l, nI_m1lt, nI_m1lt', nI_m1le', oI_some, oI_none, ni_0, ni_1, ni_43, fX12_joins_L0b, qle_t, qle_f, qlt_t, qlt_f, qeq_t, qeq_f, h47, h31, h5', hA2, h32, e1, r1', z1, z32, z50, z48, w1]
      · rw [n1, show o - (nots p + 1) = o - 1 - nots p by omega]
        rw [List.append_assoc] at w2
        exact w2
    · have n1 : nots (x :: p) = nots p := by unfold nots; rw [List.filter_cons_of_neg (by simp only [decide_eq_true_eq]; exact hx2)]
      obtain ⟨W, w1, w2, w3, w4⟩ := m_joinsL hb hr hD hD2 p q (c ++ [(x, 0)]) o Z (by rw [List.length_cons] at hq; omega) z2 (by rw [f2.1 _ _ (by omega) (by decide) (by decide)]; exact h47) (by rw [f2.1 _ _ (by omega) (by decide) (by decide)]; exact h31) hA (by omega) (by rw [List.length_append]; simp only [List.length_cons, List.length_nil]; omega) (fun y hy => hp y (List.mem_cons_of_mem _ hy)) hP (by omega) (by omega)
      have ms : ¬ mSort (x, 0) = 43 := by
        unfold isP at hx
        unfold mSort
        simp only
        repeat' split
        all_goals omega
      refine ⟨W, ?_, ?_, frN_trans f1 w3, frJ_trans f2 w4⟩
      · simp (disch := (first | assumption | omega | exact hB _ _ | exact hYB _ _ | (simp only [yc, yd, sh, sv, ne_eq]; omega) | (simp (disch := omega) only [↓nm_1, ↓nm_2, nI_add, pk_mul, pk_sub, Nat.add_sub_cancel, qm1_add, qm2_add, nI_clamp, ni_0, ni_1, ni_43, h47, h31, h5', hA2, h32, e1, r1', z1, z32, z50, ms, w1]; refine qin_nI ?_ ?_ <;> first | omega | exact hB _ _ | exact hYB _ _) | (refine qin_nI ?_ ?_ <;> omega) | fail)) only [↓km0_gd, ↓km0_gI, ↓km0_gM, ↓km0_pI, ↓km0_pM, ↓km0_pZ, ↓km0_gL, ↓km0_pL, ↓km0_gF46, ↓km0_gF49, ↓km31_al, ↓km31_as, ↓km31_ln, ↓km32_al, ↓km32_as, ↓km32_ln, ↓qb_so, ↓nm_1, ↓nm_2, ↓reduceIte, if_true, if_false, not_true_eq_false, not_false_eq_true, and_true, true_and, and_false, false_and, or_true, true_or, or_false, false_or, eq_self, ne_eq, quI_s, quI_n, quI2, quL1, quL2, quL3, quR1, quR2, quR3, nI_add, pk_mul, pk_sub, Nat.add_sub_cancel, qm1_add, qm2_add, nI_leI, nI_ltI, nI_eq, nI_m1, nI_m1', nI_clamp, nI_bit, nI_one_shl, nI_m1l, nI_m1lt, nI_m1lt', nI_m1le', oI_some, oI_none, ni_0, ni_1, ni_43, fX12_joins_L0b, qle_t, qle_f, qlt_t, qlt_f, qeq_t, qeq_f, h47, h31, h5', hA2, h32, e1, r1', z1, z32, z50, ms, w1]
      · rw [n1]
        rw [List.append_assoc] at w2
        exact w2
/-- all that holds between two steps -/
def stM (S : xSt) (b : Nat) (f : Nat → Nat) (L m e : Nat) (c : List (Nat × Nat)) (P : List Nat) (o D K H B A : Nat) : Prop := tkM S f L e ∧ e ≤ L ∧ S.1 0 8 = nI 0 ∧ S.1 0 41 = nI m ∧ cdM S b c P o ∧ tpM S D K H B A ∧ c.length + P.length + D ≤ e + 1 ∧ A ≤ P.length ∧ P.length ≤ 100 ∧ 1 ≤ D ∧ o ≤ 7 ∧ nots P + D = o + 1
/-- the frames below are as they were, and the operation of the one on top -/
def frD (D : Nat) (S Z : xSt) : Prop := ∀ k j, 27 ≤ k → k ≤ 31 → (j + 1 < D ∨ (j + 1 = D ∧ k = 30)) → Z.1 k j = S.1 k j
theorem frD_refl : frD D S S := fun _ _ _ _ _ => rfl
theorem frD_trans (h1 : frD D S Z) (h2 : frD D Z V) : frD D S V := fun k j x y z => (h2 k j x y z).trans (h1 k j x y z)
theorem frD_J (h : frJ S Z) : frD D S Z := fun k j x y _ => h.1 k j (by omega) (by omega) (by omega)
theorem frD_M (h : frM S Z) : frD D S Z := fun k j x y _ => h.1 k j (by omega)
theorem tkM_same (h : tkM S f L e) (h1 : ∀ k j, k = 1 ∨ k = 0 ∧ ((2 ≤ j ∧ j ≤ 6) ∨ j = 9 ∨ j = 12) → Z.1 k j = S.1 k j) (h2 : Z.2.1 0 7 = S.2.1 0 7) : tkM Z f L e := by
  obtain ⟨⟨a1, a2, a3, a4⟩, b2, b3, b4, b5, b6, b7⟩ := h
  refine ⟨⟨fun i hi => by rw [h1 1 i (Or.inl rfl)]; exact a1 i hi, by rw [h1 0 2 (by omega)]; exact a2, a3, a4.1, by rw [h1 0 9 (by omega)]; exact a4.2⟩, by rw [h1 0 3 (by omega)]; exact b2, by rw [h1 0 4 (by omega)]; exact b3, by rw [h1 0 5 (by omega)]; exact b4, by rw [h1 0 12 (by omega)]; exact b5, fun hh => by rw [h1 0 6 (by omega)]; exact b6 hh, fun hh => by rw [h2]; exact b7 hh⟩
theorem nots_app {p : List Nat} : nots (p ++ P) = nots p + nots P := by unfold nots; rw [List.filter_append, List.length_append]
theorem s_join {p : List Nat} (hb : b < 2) (hr : r ≤ 6) (hn : 2000 ≤ n) (h : stM S b f L m e c (p ++ P) o D K H B A) (hA : A ≤ P.length) (hp : ∀ x, x ∈ p → r ≤ rkq x) (hP : A < P.length → ∀ x X, P = x :: X → rkq x < r) :
    ∃ Z, fX12_joins n 0 (nI r) S = some Z ∧ stM Z b f L m e (c ++ em p) P (o - nots p) D K H B A ∧ frN b S Z ∧ frJ S Z := by
  obtain ⟨h1, h2, h3, h4, h5, h6, h7, h8, h9, h10, h11, h12⟩ := h
  have hL := h1.1.2.2.1
  have na := nots_app (p := p) (P := P)
  have la : (p ++ P).length = p.length + P.length := List.length_append
  have lem : (em p).length = p.length := by unfold em; rw [List.length_map]
  obtain ⟨Z, z1, z2, z3, z4⟩ := m_joinsL (n := n) hb hr h10 (by omega) p n c o S (by omega) h5 h6.1 h6.2.2.2.2 hA (by omega) (by omega) hp hP (by omega) h11
  refine ⟨Z, ?_, ⟨tkM_same h1 (fun k j hk => z4.1 k j (by omega) (by omega) (by omega)) (by rw [z4.2]), h2, ?_, ?_, z2, ⟨?_, ?_, ?_, ?_, ?_⟩, ?_, hA, by omega, h10, by omega, by omega⟩, z3, z4⟩
  · simp (disch := (first | assumption | omega | exact hB _ _ | exact hYB _ _ | (simp only [yc, yd, sh, sv, ne_eq]; omega) | (simp (disch := omega) only [↓nm_1, ↓nm_2, nI_add, pk_mul, pk_sub, Nat.add_sub_cancel, qm1_add, qm2_add, nI_clamp, ni_0, ni_1, z1]; refine qin_nI ?_ ?_ <;> first | omega | exact hB _ _ | exact hYB _ _) | (refine qin_nI ?_ ?_ <;> omega) | fail)) only [↓km0_gd, ↓km0_gI, ↓km0_gM, ↓km0_pI, ↓km0_pM, ↓km0_pZ, ↓km0_gL, ↓km0_pL, ↓qb_so, ↓nm_1, ↓nm_2, ↓reduceIte, if_true, if_false, not_true_eq_false, not_false_eq_true, and_true, true_and, and_false, false_and, or_true, true_or, or_false, false_or, eq_self, ne_eq, quI_s, quI_n, quI2, quL1, quL2, quL3, quR1, quR2, quR3, nI_add, pk_mul, pk_sub, Nat.add_sub_cancel, qm1_add, qm2_add, nI_leI, nI_ltI, nI_eq, nI_m1, nI_m1', nI_clamp, nI_bit, nI_one_shl, nI_m1l, nI_m1lt, nI_m1lt', nI_m1le', oI_some, oI_none, ni_0, ni_1, fX12_joins, qle_t, qle_f, qlt_t, qlt_f, qeq_t, qeq_f, z1]
  · rw [z4.1 _ _ (by omega) (by decide) (by decide)]; exact h3
  · rw [z4.1 _ _ (by omega) (by decide) (by decide)]; exact h4
  · rw [z4.1 _ _ (by omega) (by decide) (by decide)]; exact h6.1
  · rw [z4.1 _ _ (by omega) (by decide) (by decide)]; exact h6.2.1
  · rw [z4.1 _ _ (by omega) (by decide) (by decide)]; exact h6.2.2.1
  · rw [z4.1 _ _ (by omega) (by decide) (by decide)]; exact h6.2.2.2.1
  · rw [z4.1 _ _ (by omega) (by decide) (by decide)]; exact h6.2.2.2.2
  · rw [List.length_append, lem]; omega
theorem m_hold {q : Nat} (h : cdM S b c P o) (hq : isP q) (hl : P.length < 400) : fX12_holdsBack 0 (nI (mSort (q, 0))) S = some (xuI (xuI S 32 P.length (nI (mSort (q, 0)))) 0 50 (nI (P.length + 1))) ∧ cdM (xuI (xuI S 32 P.length (nI (mSort (q, 0)))) 0 50 (nI (P.length + 1))) b c (q :: P) o := by
  obtain ⟨h1, h2, h3, h4, h5, h6, h7⟩ := h
  have key : ∀ k j, ¬ (k = 0 ∧ j = 50) → ¬ (k = 32 ∧ j = P.length) → (xuI (xuI S 32 P.length (nI (mSort (q, 0)))) 0 50 (nI (P.length + 1))).1 k j = S.1 k j := fun k j x y => by rw [quI_k x, quI_k y]
  refine ⟨?_, ?_, ?_, ?_, ?_, ?_, ⟨?_, ?_⟩, ?_⟩
  · simp (disch := (first | assumption | omega | exact hB _ _ | exact hYB _ _ | (simp only [yc, yd, sh, sv, ne_eq]; omega) | (simp (disch := omega) only [↓nm_1, ↓nm_2, nI_add, pk_mul, pk_sub, Nat.add_sub_cancel, qm1_add, qm2_add, nI_clamp, ni_0, ni_1, h5]; refine qin_nI ?_ ?_ <;> first | omega | exact hB _ _ | exact hYB _ _) | (refine qin_nI ?_ ?_ <;> omega) | fail)) only [↓km0_gd, ↓km0_gI, ↓km0_gM, ↓km0_pI, ↓km0_pM, ↓km0_pZ, ↓km0_gL, ↓km0_pL, ↓km0_gF49, ↓km32_al, ↓km32_as, ↓km32_ln, ↓qb_so, ↓nm_1, ↓nm_2, ↓reduceIte, if_true, if_false, not_true_eq_false, not_false_eq_true, and_true, true_and, and_false, false_and, or_true, true_or, or_false, false_or, eq_self, ne_eq, quI_s, quI_n, quI2, quL1, quL2, quL3, quR1, quR2, quR3, nI_add, pk_mul, pk_sub, Nat.add_sub_cancel, qm1_add, qm2_add, nI_leI, nI_ltI, nI_eq, nI_m1, nI_m1', nI_clamp, nI_bit, nI_one_shl, nI_m1l, nI_m1lt, nI_m1lt', nI_m1le', oI_some, oI_none, ni_0, ni_1, fX12_holdsBack, qle_t, qle_f, qlt_t, qlt_f, qeq_t, qeq_f, h5]
  · rw [key _ _ (by omega) (by omega)]; exact h1
  · rw [key _ _ (by omega) (by omega)]; exact h2
  · exact mCode_eq h3 (fun j _ _ => ⟨key _ _ (by omega) (by omega), key _ _ (by omega) (by omega)⟩)
  · rw [key _ _ (by omega) (by omega)]; exact h4
  · exact quI_e
  · rw [quI_k (by omega), quI_e]
  · exact pSt_eq h6 (fun j hj => key _ _ (by omega) (by omega))
  · intro x hx
    rcases List.mem_cons.mp hx with rfl | hx
    · exact hq
    · exact h7 x hx
theorem m_zs1 {β : Type} {g : xSt → Option β} (hD : D < 20) : (xzs tM 29 (nI D) (nI 1) S).bind g = g (xuI S 29 D (nI 1)) := by
  have h1 : qin (nI D) (tM.2.1 29) := qin_nI (n := 20) hD (by decide)
  have := qb_zs1 (T := tM) (k := 29) (S := S) (f := g) (by decide) h1
  rw [nI_clamp (by omega)] at this
  exact this
theorem m_zs0 {β : Type} {g : xSt → Option β} (hD : D < 20) : (xzs tM 29 (nI D) (nI 0) S).bind g = g (xuI S 29 D (nI 0)) := by
  have h1 : qin (nI D) (tM.2.1 29) := qin_nI (n := 20) hD (by decide)
  have := qb_zs0 (T := tM) (k := 29) (S := S) (f := g) (by decide) h1
  rw [nI_clamp (by omega)] at this
  exact this
theorem m_push (hD : D < 20) (h47 : S.1 0 47 = nI D) (h50 : S.1 0 50 = nI a) : fX12_pushes 0 (nI K) S = some (xuI (xuI (xuI (xuI (xuI S 27 D (nI K)) 28 D (nI 0)) 29 D (nI 1)) 31 D (nI a)) 0 47 (nI (D + 1))) := by
  simp (disch := (first | assumption | omega | exact hB _ _ | exact hYB _ _ | (simp only [yc, yd, sh, sv, ne_eq]; omega) | (simp (disch := omega) only [↓nm_1, ↓nm_2, nI_add, pk_mul, pk_sub, Nat.add_sub_cancel, qm1_add, qm2_add, nI_clamp, ni_0, ni_1, h47, h50, m_zs1 hD]; refine qin_nI ?_ ?_ <;> first | omega | exact hB _ _ | exact hYB _ _) | (refine qin_nI ?_ ?_ <;> omega) | fail)) only [↓km0_gd, ↓km0_gI, ↓km0_gM, ↓km0_pI, ↓km0_pM, ↓km0_pZ, ↓km0_gL, ↓km0_pL, ↓km0_gF42, ↓km0_gF43, ↓km0_gF44, ↓km0_gF46, ↓km27_al, ↓km27_as, ↓km27_ln, ↓km28_al, ↓km28_as, ↓km28_ln, ↓km29_zl, ↓km29_zs0, ↓km29_zs1, ↓km31_al, ↓km31_as, ↓km31_ln, ↓qb_so, ↓nm_1, ↓nm_2, ↓reduceIte, if_true, if_false, not_true_eq_false, not_false_eq_true, and_true, true_and, and_false, false_and, or_true, true_or, or_false, false_or, eq_self, ne_eq, quI_s, quI_n, quI2, quL1, quL2, quL3, quR1, quR2, quR3, nI_add, pk_mul, pk_sub, Nat.add_sub_cancel, qm1_add, qm2_add, nI_leI, nI_ltI, nI_eq, nI_m1, nI_m1', nI_clamp, nI_bit, nI_one_shl, nI_m1l, nI_m1lt, nI_m1lt', nI_m1le', oI_some, oI_none, ni_0, ni_1, fX12_pushes, qle_t, qle_f, qlt_t, qlt_f, qeq_t, qeq_f, h47, h50, m_zs1 hD]
end Q9b

