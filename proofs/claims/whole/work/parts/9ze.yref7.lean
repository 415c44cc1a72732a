/-! ===== the reference reads statements: hands, tools ===== -/
section Q9ze
variable {S Z V W : xSt} {n L e m o b d t k a s w lo hi j r kd pl : Nat} {u : Option Nat} {f : Nat → Nat} {cc mc wc : List (Nat × Nat)} {Y Y' : Nat → Nat → Nat} {F : Option xSt} {R : YS}
theorem m_hdL {K : Nat} (hb : b < 2) (hK : K < 6) : ∀ (k i q : Nat) (S : xSt), i + k = 8 → k < q → ∃ Z, fX12_handing_L57 n 0 (nI (6 * b + K)) q (nI i) S = some Z ∧ (∀ k j, k ≠ 9 → Z.1 k j = S.1 k j) ∧ Z.2 = S.2 ∧ (∀ j, Z.1 9 j = if 8 * (6 * b + K) + i ≤ j ∧ j < 8 * (6 * b + K) + 8 then nI 0 else S.1 9 j)
  | 0, i, q, S, hi, hq => by
    obtain ⟨q, rfl⟩ : ∃ q', q = q' + 1 := ⟨q - 1, by omega⟩
    have hi6 : i = 8 := by omega
    subst hi6
    refine ⟨S, ?_, fun _ _ _ => rfl, rfl, fun j => by rw [if_neg (by omega)]⟩
    show fX12_handing_L57b n 0 (nI (6 * b + K)) _ (nI 8) S = some S
    simp (disch := (first | assumption | omega | exact hB _ _ | exact hYB _ _ | (simp only [yc, yd, sh, sv, ne_eq]; omega) | (simp (disch := omega) only [↓nm_1, ↓nm_2, nI_add, pk_mul, pk_sub, Nat.add_sub_cancel, qm1_add, qm2_add, nI_clamp, ni_0, ni_1, ni_8]; refine qin_nI ?_ ?_ <;> first | omega | exact hB _ _ | exact hYB _ _) | (refine qin_nI ?_ ?_ <;> omega) | fail)) only [↓km0_gd, ↓km0_gI, ↓km0_gM, ↓km0_pI, ↓km0_pM, ↓km0_pZ, ↓km0_gL, ↓km0_pL, ↓km0_gF21, ↓km9_al, ↓km9_as, ↓km9_ln, ↓qb_so, ↓nm_1, ↓nm_2, ↓reduceIte, if_true, if_false, not_true_eq_false, not_false_eq_true, and_true, true_and, and_false, false_and, or_true, true_or, or_false, false_or, eq_self, ne_eq, quI_s, quI_n, quI2, quL1, quL2, quL3, quR1, quR2, quR3, nI_add, pk_mul, pk_sub, Nat.add_sub_cancel, qm1_add, qm2_add, nI_leI, nI_ltI, nI_eq, nI_m1, nI_m1', nI_clamp, nI_bit, nI_one_shl, nI_m1l, nI_m1lt, nI_m1lt', nI_m1le', oI_some, oI_none, ni_0, ni_1, ni_8, fX12_handing_L57b, qle_t, qle_f, qlt_t, qlt_f, qeq_t, qeq_f]
  | k + 1, i, q, S, hi, hq => by
    obtain ⟨q, rfl⟩ : ∃ q', q = q' + 1 := ⟨q - 1, by omega⟩
    have i6 : ¬ 8 ≤ i := by omega
    have i6' : i < 8 := by omega
    obtain ⟨Z, z1, z2, z3, z4⟩ := m_hdL hb hK k (i + 1) q (xuI S 9 (8 * (6 * b + K) + i) (nI 0)) (by omega) (by omega)
    refine ⟨Z, ?_, fun k j hk => by rw [z2 k j hk, quI_k (by omega)], z3, fun j => ?_⟩
    · show fX12_handing_L57b n 0 (nI (6 * b + K)) _ (nI i) S = some Z
      simp (disch := (first | assumption | omega | exact hB _ _ | exact hYB _ _ | (simp only [yc, yd, sh, sv, ne_eq]; omega) | (simp (disch := omega) only [↓nm_1, ↓nm_2, nI_add, pk_mul, pk_sub, Nat.add_sub_cancel, qm1_add, qm2_add, nI_clamp, ni_0, ni_1, ni_8, i6, z1]; refine qin_nI ?_ ?_ <;> first | omega | exact hB _ _ | exact hYB _ _) | (refine qin_nI ?_ ?_ <;> omega) | fail)) only [↓km0_gd, ↓km0_gI, ↓km0_gM, ↓km0_pI, ↓km0_pM, ↓km0_pZ, ↓km0_gL, ↓km0_pL, ↓km0_gF21, ↓km9_al, ↓km9_as, ↓km9_ln, ↓qb_so, ↓nm_1, ↓nm_2, ↓reduceIte, if_true, if_false, not_true_eq_false, not_false_eq_true, and_true, true_and, and_false, false_and, or_true, true_or, or_false, false_or, eq_self, ne_eq, quI_s, quI_n, quI2, quL1, quL2, quL3, quR1, quR2, quR3, nI_add, pk_mul, pk_sub, Nat.add_sub_cancel, qm1_add, qm2_add, nI_leI, nI_ltI, nI_eq, nI_m1, nI_m1', nI_clamp, nI_bit, nI_one_shl, nI_m1l, nI_m1lt, nI_m1lt', nI_m1le', oI_some, oI_none, ni_0, ni_1, ni_8, fX12_handing_L57b, qle_t, qle_f, qlt_t, qlt_f, qeq_t, qeq_f, i6, z1]
    · rw [z4 j, quI_s]
      by_cases h1 : 8 * (6 * b + K) + (i + 1) ≤ j ∧ j < 8 * (6 * b + K) + 8
      · rw [if_pos h1, if_pos (by omega)]
      · rw [if_neg h1]
        by_cases h2 : j = 8 * (6 * b + K) + i
        · rw [if_pos h2, if_pos (by omega)]
        · rw [if_neg h2, if_neg (by omega)]
theorem hd_fin (hb : b < 2) (hY : yrOk Y) (hN : yJn Y) (hf : Y 2 2 < 6) (h : mkM Z b f L e Y cc) (h9 : ∀ t, t < 8 → Z.1 9 (8 * (6 * b + Y 2 2) + t) = nI 0) (hx : Z.2.1 25 (6 * b + Y 2 2) = lN (s_long w)) : mkM (xuI Z 8 b (nI (Y 2 2 + 1))) b f L e (s_gi Y 2 w) cc := by
  obtain ⟨i0, i1, i2, i3, i4, i5, i6, i7, i10⟩ := h.2.2.2.2.2.2.2.1
  obtain ⟨c0, c1, c2, c3⟩ := hY.1
  refine mkM_of h (tkM_same h.1 (fun k j hk => quI_k (by omega)) rfl) (Nat.le_refl _) h.2.1 (fun j hj => quI_k (by omega)) (fun k j x y => quI_k (by omega)) ?_ ?_
  · refine ⟨⟨i0.1, i0.2.1, quI_e, i0.2.2.2⟩, i1, i2, fun g t hg ht => ?_, i4, i5, i6, i7, ?_⟩
    · have hg' : g < Y 2 2 + 1 := hg
      have ht' : t < Y 2 1 := ht
      show Z.1 9 (8 * (6 * b + g) + t) = nI (Y 7 (8 * g + t))
      by_cases hx : g = Y 2 2
      · subst hx
        rw [h9 t (by omega), hN.2.1 _ t (by omega) (by omega) (Or.inl (Nat.le_refl _))]
      · exact i3 g t (by omega) ht'
    · exact mN_gi (Z := Z) (s := 2) i10 (by decide) (by omega) (y88 hY) hx
  · funext x; rw [s_gi_c (by decide) (by decide)]
theorem m_rHand (hn : 2000 ≤ n) (hb : b < 2) (hY : yrOk Y) (hN : yJn Y) (h : mkM S b f L e Y cc) : mSo S b f L cc (zHand f L Y e) (fX12_handing n 0 S) := by
  have s40 := h.2.2.2.1
  have s2 := h.2.2.2.2.2.2.2.1.1.2.2.1
  obtain ⟨c0, c1, c2, c3⟩ := hY.1
  have hke := kE_from (f := f) h.2.1
  unfold zHand tO
  by_cases hf : 6 ≤ Y 2 2
  · rw [if_pos hf]
    have a1 := (mt_C (x := 1) hn h.2.1 h.1 h.2.2.1 (by decide)).1 rfl
    have hf6 : Y 2 2 = 6 := by omega
    rw [hf6] at s2
    refine ⟨flR S 6 (kS f L e), ?_, ⟨by decide, by decide⟩, flR_8, flR_9, frG_fl⟩
    simp (disch := (first | assumption | omega | exact hB _ _ | exact hYB _ _ | (simp only [yc, yd, sh, sv, ne_eq]; omega) | (simp (disch := omega) only [↓nm_1, ↓nm_2, nI_add, pk_mul, pk_sub, Nat.add_sub_cancel, qm1_add, qm2_add, nI_clamp, ni_0, ni_1, ni_6, s40, s2, a1]; refine qin_nI ?_ ?_ <;> first | omega | exact hB _ _ | exact hYB _ _) | (refine qin_nI ?_ ?_ <;> omega) | fail)) only [↓km0_gd, ↓km0_gI, ↓km0_gM, ↓km0_pI, ↓km0_pM, ↓km0_pZ, ↓km0_gL, ↓km0_pL, ↓km0_gF20, ↓km0_gF37, ↓km8_al, ↓km8_as, ↓km8_ln, ↓km25_ll, ↓km25_ls, ↓qb_so, ↓nm_1, ↓nm_2, ↓reduceIte, if_true, if_false, not_true_eq_false, not_false_eq_true, and_true, true_and, and_false, false_and, or_true, true_or, or_false, false_or, eq_self, ne_eq, quI_s, quI_n, quI2, quL1, quL2, quL3, quR1, quR2, quR3, nI_add, pk_mul, pk_sub, Nat.add_sub_cancel, qm1_add, qm2_add, nI_leI, nI_ltI, nI_eq, nI_m1, nI_m1', nI_clamp, nI_bit, nI_one_shl, nI_m1l, nI_m1lt, nI_m1lt', nI_m1le', oI_some, oI_none, ni_0, ni_1, ni_6, fX12_handing, fX12_handing_B20, qle_t, qle_f, qlt_t, qlt_f, qeq_t, qeq_f, s40, s2, a1]
  rw [if_neg hf]
  have hf' : Y 2 2 < 6 := by omega
  have hf6 : ¬ Y 2 2 = 6 := by omega
  obtain ⟨A, a1, a2, a3⟩ := (mt_C (x := 0) hn h.2.1 h.1 h.2.2.1 (by decide)).2 rfl
  have hA := mkM_M h hY a2 hke.1 hke.2 a3
  have A40 := hA.2.2.2.1
  have A2 := hA.2.2.2.2.2.2.2.1.1.2.2.1
  refine mSo_pre (frG_M a3) ?_
  show mSo A b f L cc (zB (tF f L Y (kE f L e)) _) _
  have b1 := mt_F hn hb hY hN A40 hA.2.2.2.2.2.2.2.1 hke.2 a2 hA.2.2.1
  have fz : ∀ {C Z : xSt}, (∀ k j, k ≠ 9 → Z.1 k j = C.1 k j) → Z.2 = C.2 → (∀ j, Z.1 9 j = if 8 * (6 * b + Y 2 2) + 0 ≤ j ∧ j < 8 * (6 * b + Y 2 2) + 8 then nI 0 else C.1 9 j) → frG b C Z := by
    intro C Z z2 z3 z4
    refine ⟨fun k j g1 g2 g3 => ?_, fun k j _ _ => by rw [z3], by rw [z3]⟩
    by_cases hk : k = 9
    · subst hk
      rw [z4 j, if_neg (fun hh => g3 ⟨by decide, by decide, inb_ok (a := 48) rfl (by omega) (by omega)⟩)]
    · exact z2 k j hk
  cases h1 : tF f L Y (kE f L e) with
  | inl x =>
    obtain ⟨kd, pl⟩ := x
    rw [h1] at b1
    obtain ⟨⟨k0, k1⟩, v, b2⟩ := b1
    have kn : ¬ kd = 0 := by omega
    obtain ⟨Z, z1, z2, z3, z4⟩ := m_hdL (n := n) hb hf' 8 0 n (xuL (flR A kd pl) 25 (6 * b + Y 2 2) v) (by decide) (by omega)
    have Z8 : Z.1 0 8 = nI kd := by rw [z2 _ _ (by decide)]; exact flR_8 (S := A) (kd := kd) (pl := pl)
    have Z9 : Z.1 0 9 = nI pl := by rw [z2 _ _ (by decide)]; exact flR_9 (S := A) (kd := kd) (pl := pl)
    refine ⟨Z, ?_, ⟨k0, k1⟩, Z8, Z9, frG_trans frG_fl (frG_trans (frG_upL (by decide) (inb_ok (a := 6) rfl (by omega) (by omega))) (fz z2 z3 z4))⟩
    simp (disch := (first | assumption | omega | exact hB _ _ | exact hYB _ _ | (simp only [yc, yd, sh, sv, ne_eq]; omega) | (simp (disch := omega) only [↓nm_1, ↓nm_2, nI_add, pk_mul, pk_sub, Nat.add_sub_cancel, qm1_add, qm2_add, nI_clamp, ni_0, ni_1, ni_6, s40, s2, hf6, a1, A40, A2, b2, z1, Z8, kn]; refine qin_nI ?_ ?_ <;> first | omega | exact hB _ _ | exact hYB _ _) | (refine qin_nI ?_ ?_ <;> omega) | fail)) only [↓km0_gd, ↓km0_gI, ↓km0_gM, ↓km0_pI, ↓km0_pM, ↓km0_pZ, ↓km0_gL, ↓km0_pL, ↓km0_gF20, ↓km0_gF37, ↓km8_al, ↓km8_as, ↓km8_ln, ↓km25_ll, ↓km25_ls, ↓qb_so, ↓nm_1, ↓nm_2, ↓reduceIte, if_true, if_false, not_true_eq_false, not_false_eq_true, and_true, true_and, and_false, false_and, or_true, true_or, or_false, false_or, eq_self, ne_eq, quI_s, quI_n, quI2, quL1, quL2, quL3, quR1, quR2, quR3, nI_add, pk_mul, pk_sub, Nat.add_sub_cancel, qm1_add, qm2_add, nI_leI, nI_ltI, nI_eq, nI_m1, nI_m1', nI_clamp, nI_bit, nI_one_shl, nI_m1l, nI_m1lt, nI_m1lt', nI_m1le', oI_some, oI_none, ni_0, ni_1, ni_6, fX12_handing, fX12_handing_B20, qle_t, qle_f, qlt_t, qlt_f, qeq_t, qeq_f, s40, s2, hf6, a1, A40, A2, b2, z1, Z8, kn]
  | inr x =>
    obtain ⟨w, e1⟩ := x
    rw [h1] at b1
    obtain ⟨B, b2, b3, b4, b5, b6⟩ := b1
    have hB0 := mkM_M hA hY b3 b5 b4 b6
    have hB : mkM (xuL B 25 (6 * b + Y 2 2) (lN (s_long w))) b f L e1 Y cc := mkM_nm (s := 2) hB0 hY (by decide)
    have hx : (xuL B 25 (6 * b + Y 2 2) (lN (s_long w))).2.1 25 (6 * b + Y 2 2) = lN (s_long w) := by unfold xuL; simp only [if_true]
    refine mSo_pre (frG_trans (frG_M b6) (frG_upL (k := 25) (j := 6 * b + Y 2 2) (x := lN (s_long w)) (by decide) (inb_ok (a := 6) rfl (by omega) (by omega)))) ?_
    revert hB hx
    generalize hC : xuL B 25 (6 * b + Y 2 2) (lN (s_long w)) = C
    intro hB hx
    obtain ⟨Z, z1, z2, z3, z4⟩ := m_hdL (n := n) hb hf' 8 0 n C (by decide) (by omega)
    have hZ : mkM Z b f L e1 Y cc := mkM_of hB (tkM_same hB.1 (fun k j hk => z2 k j (by omega)) (by rw [z3])) (Nat.le_refl _) hB.2.1 (fun j hj => z2 _ _ (by decide)) (fun k j x y => z2 _ _ (by omega)) (mI_eq hB.2.2.2.2.2.2.2.1 (fun j hj => (hY.2.2.2.2.2.1 j hj).2.1) (fun k j hk => by
      by_cases h9 : k = 9
      · subst h9
        rw [z4 j, if_neg]
        unfold vis at hk
        rcases hk with hk | hk | hk | hk | hk | hk | hk | hk
        · omega
        · omega
        · omega
        · obtain ⟨_, g, t, hg, ht, hj⟩ := hk
          omega
        · omega
        · omega
        · omega
        · omega
      · exact z2 k j h9) (fun s i hs hi => by rw [z3])) rfl
    have Z8 := hZ.2.2.1
    have Z40 := hZ.2.2.2.1
    have Z2 := hZ.2.2.2.2.2.2.2.1.1.2.2.1
    refine ⟨xuI Z 8 b (nI (Y 2 2 + 1)), ?_, hd_fin hb hY hN hf' hZ (fun t ht => by rw [z4, if_pos (by omega)]) (by rw [z3]; exact hx), frG_trans (fz z2 z3 z4) (frG_up (by decide) (inb_ok (a := 1) rfl (by omega) (by omega)))⟩
    simp (disch := (first | assumption | omega | exact hB _ _ | exact hYB _ _ | (simp only [yc, yd, sh, sv, ne_eq]; omega) | (simp (disch := omega) only [↓nm_1, ↓nm_2, nI_add, pk_mul, pk_sub, Nat.add_sub_cancel, qm1_add, qm2_add, nI_clamp, ni_0, ni_1, ni_6, s40, s2, hf6, a1, A40, A2, b2, hC, z1, Z8, Z40, Z2]; refine qin_nI ?_ ?_ <;> first | omega | exact hB _ _ | exact hYB _ _) | (refine qin_nI ?_ ?_ <;> omega) | fail)) only [↓km0_gd, ↓km0_gI, ↓km0_gM, ↓km0_pI, ↓km0_pM, ↓km0_pZ, ↓km0_gL, ↓km0_pL, ↓km0_gF20, ↓km0_gF37, ↓km8_al, ↓km8_as, ↓km8_ln, ↓km25_ll, ↓km25_ls, ↓qb_so, ↓nm_1, ↓nm_2, ↓reduceIte, if_true, if_false, not_true_eq_false, not_false_eq_true, and_true, true_and, and_false, false_and, or_true, true_or, or_false, false_or, eq_self, ne_eq, quI_s, quI_n, quI2, quL1, quL2, quL3, quR1, quR2, quR3, nI_add, pk_mul, pk_sub, Nat.add_sub_cancel, qm1_add, qm2_add, nI_leI, nI_ltI, nI_eq, nI_m1, nI_m1', nI_clamp, nI_bit, nI_one_shl, nI_m1l, nI_m1lt, nI_m1lt', nI_m1le', oI_some, oI_none, ni_0, ni_1, ni_6, fX12_handing, fX12_handing_B20, qle_t, qle_f, qlt_t, qlt_f, qeq_t, qeq_f, s40, s2, hf6, a1, A40, A2, b2, hC, z1, Z8, Z40, Z2]
theorem m_toL {K : Nat} (hb : b < 2) (hK : K < 8) : ∀ (k i q : Nat) (S : xSt), i + k = 6 → k < q → S.1 0 40 = nI b → S.1 5 b = nI K → ∃ Z, fX12_tooling_L96 n 0 q (nI i) S = some Z ∧ (∀ k j, k ≠ 9 → Z.1 k j = S.1 k j) ∧ Z.2 = S.2 ∧ (∀ j, (∀ o, o < 6 → j ≠ 8 * (6 * b + o) + K) → Z.1 9 j = S.1 9 j) ∧ (∀ o, i ≤ o → o < 6 → Z.1 9 (8 * (6 * b + o) + K) = nI 0) ∧ (∀ j, S.1 9 j = nI 0 → Z.1 9 j = nI 0)
  | 0, i, q, S, hi, hq, h40, h2 => by
    obtain ⟨q, rfl⟩ : ∃ q', q = q' + 1 := ⟨q - 1, by omega⟩
    have hi6 : i = 6 := by omega
    subst hi6
    refine ⟨S, ?_, fun _ _ _ => rfl, rfl, fun _ _ => rfl, fun o h1 h2 => absurd h2 (by omega), fun _ h => h⟩
    show fX12_tooling_L96b n 0 _ (nI 6) S = some S
    simp (disch := (first | assumption | omega | exact hB _ _ | exact hYB _ _ | (simp only [yc, yd, sh, sv, ne_eq]; omega) | (simp (disch := omega) only [↓nm_1, ↓nm_2, nI_add, pk_mul, pk_sub, Nat.add_sub_cancel, qm1_add, qm2_add, nI_clamp, ni_0, ni_1, ni_6, ni_8]; refine qin_nI ?_ ?_ <;> first | omega | exact hB _ _ | exact hYB _ _) | (refine qin_nI ?_ ?_ <;> omega) | fail)) only [↓km0_gd, ↓km0_gI, ↓km0_gM, ↓km0_pI, ↓km0_pM, ↓km0_pZ, ↓km0_gL, ↓km0_pL, ↓km0_gF17, ↓km0_gF21, ↓km5_al, ↓km5_as, ↓km5_ln, ↓km9_al, ↓km9_as, ↓km9_ln, ↓qb_so, ↓nm_1, ↓nm_2, ↓reduceIte, if_true, if_false, not_true_eq_false, not_false_eq_true, and_true, true_and, and_false, false_and, or_true, true_or, or_false, false_or, eq_self, ne_eq, quI_s, quI_n, quI2, quL1, quL2, quL3, quR1, quR2, quR3, nI_add, pk_mul, pk_sub, Nat.add_sub_cancel, qm1_add, qm2_add, nI_leI, nI_ltI, nI_eq, nI_m1, nI_m1', nI_clamp, nI_bit, nI_one_shl, nI_m1l, nI_m1lt, nI_m1lt', nI_m1le', oI_some, oI_none, ni_0, ni_1, ni_6, ni_8, fX12_tooling_L96b, qle_t, qle_f, qlt_t, qlt_f, qeq_t, qeq_f]
  | k + 1, i, q, S, hi, hq, h40, h2 => by
    obtain ⟨q, rfl⟩ : ∃ q', q = q' + 1 := ⟨q - 1, by omega⟩
    have i6 : ¬ 6 ≤ i := by omega
    have i6' : i < 6 := by omega
    obtain ⟨Z, z1, z2, z3, z5, z6, z7⟩ := m_toL hb hK k (i + 1) q (xuI S 9 (8 * (6 * b + i) + K) (nI 0)) (by omega) (by omega) (by rw [quI_k (by omega)]; exact h40) (by rw [quI_k (by omega)]; exact h2)
    refine ⟨Z, ?_, fun k j hk => by rw [z2 k j hk, quI_k (by omega)], z3, fun j hj => ?_, fun o h1 h2 => ?_, fun j hj => z7 j ?_⟩
    · show fX12_tooling_L96b n 0 _ (nI i) S = some Z
      simp (disch := (first | assumption | omega | exact hB _ _ | exact hYB _ _ | (simp only [yc, yd, sh, sv, ne_eq]; omega) | (simp (disch := omega) only [↓nm_1, ↓nm_2, nI_add, pk_mul, pk_sub, Nat.add_sub_cancel, qm1_add, qm2_add, nI_clamp, ni_0, ni_1, ni_6, ni_8, i6, h40, h2, z1]; refine qin_nI ?_ ?_ <;> first | omega | exact hB _ _ | exact hYB _ _) | (refine qin_nI ?_ ?_ <;> omega) | fail)) only [↓km0_gd, ↓km0_gI, ↓km0_gM, ↓km0_pI, ↓km0_pM, ↓km0_pZ, ↓km0_gL, ↓km0_pL, ↓km0_gF17, ↓km0_gF21, ↓km5_al, ↓km5_as, ↓km5_ln, ↓km9_al, ↓km9_as, ↓km9_ln, ↓qb_so, ↓nm_1, ↓nm_2, ↓reduceIte, if_true, if_false, not_true_eq_false, not_false_eq_true, and_true, true_and, and_false, false_and, or_true, true_or, or_false, false_or, eq_self, ne_eq, quI_s, quI_n, quI2, quL1, quL2, quL3, quR1, quR2, quR3, nI_add, pk_mul, pk_sub, Nat.add_sub_cancel, qm1_add, qm2_add, nI_leI, nI_ltI, nI_eq, nI_m1, nI_m1', nI_clamp, nI_bit, nI_one_shl, nI_m1l, nI_m1lt, nI_m1lt', nI_m1le', oI_some, oI_none, ni_0, ni_1, ni_6, ni_8, fX12_tooling_L96b, qle_t, qle_f, qlt_t, qlt_f, qeq_t, qeq_f, i6, h40, h2, z1]
    · have := hj i i6'
      rw [z5 j hj, quI_k (by omega)]
    · by_cases hx : o = i
      · subst hx
        exact z7 _ quI_e
      · exact z6 o (by omega) h2
    · rw [quI_s]
      split
      · rfl
      · exact hj
theorem to_fin (hb : b < 2) (hY : yrOk Y) (hN : yJn Y) (hf : Y 2 1 < 8) (h : mkM Z b f L e Y cc) (h6 : Z.1 6 (8 * b + Y 2 1) = nI k) (h7 : Z.1 7 (8 * b + Y 2 1) = nI r) (h9 : ∀ o, o < 6 → Z.1 9 (8 * (6 * b + o) + Y 2 1) = nI 0) (hx : Z.2.1 24 (8 * b + Y 2 1) = lN (s_long w)) : mkM (xuI Z 5 b (nI (Y 2 1 + 1))) b f L e (dU (dU (s_gi Y 1 w) 5 (Y 2 1) k) 6 (Y 2 1) r) cc := by
  obtain ⟨i0, i1, i2, i3, i4, i5, i6, i7, i10⟩ := h.2.2.2.2.2.2.2.1
  obtain ⟨c0, c1, c2, c3⟩ := hY.1
  refine mkM_of h (tkM_same h.1 (fun k j hk => quI_k (by omega)) rfl) (Nat.le_refl _) h.2.1 (fun j hj => quI_k (by omega)) (fun k j x y => quI_k (by omega)) ?_ ?_
  · refine ⟨⟨i0.1, quI_e, i0.2.2.1, i0.2.2.2⟩, i1, fun t ht => ?_, fun g t hg ht => ?_, i4, i5, i6, i7, ?_⟩
    · have ht' : t < Y 2 1 + 1 := ht
      show Z.1 6 (8 * b + t) = _ ∧ Z.1 7 (8 * b + t) = _
      by_cases hx : t = Y 2 1
      · subst hx
        rw [dU_c (by decide), dU_s, dU_s]
        exact ⟨h6, h7⟩
      · rw [dU_c (by decide), dU_j hx, s_gi_c (by decide) (by decide), dU_j hx, dU_c (by decide), s_gi_c (by decide) (by decide)]
        exact i2 t (by omega)
    · have hg' : g < Y 2 2 := hg
      have ht' : t < Y 2 1 + 1 := ht
      show Z.1 9 (8 * (6 * b + g) + t) = nI (Y 7 (8 * g + t))
      by_cases hx : t = Y 2 1
      · subst hx
        rw [h9 g (by omega), hN.2.1 g _ (by omega) (by omega) (Or.inr (Nat.le_refl _))]
      · exact i3 g t hg' (by omega)
    · exact mN_gi (Z := Z) (s := 1) i10 (by decide) (by omega) (y88 hY) hx
  · funext x; rw [dU_c (by decide), dU_c (by decide), s_gi_c (by decide) (by decide)]
theorem m_toT {K : Nat} (hn : 2000 ≤ n) (hb : b < 2) (hK : K < 8) (h40 : S.1 0 40 = nI b) (h2 : S.1 5 b = nI K) : ∃ Z, fX12_tooling_L96 n 0 n (nI 0) S = some Z ∧ frG b S Z ∧ (∀ k j, k ≠ 9 → Z.1 k j = S.1 k j) ∧ Z.2 = S.2 ∧ (∀ j, (∀ o, o < 6 → j ≠ 8 * (6 * b + o) + K) → Z.1 9 j = S.1 9 j) ∧ (∀ o, o < 6 → Z.1 9 (8 * (6 * b + o) + K) = nI 0) := by
  obtain ⟨Z, z1, z2, z3, z5, z6, z7⟩ := m_toL (n := n) hb hK 6 0 n S (by decide) (by omega) h40 h2
  refine ⟨Z, z1, ⟨fun k j g1 g2 g3 => ?_, fun k j _ _ => by rw [z3], by rw [z3]⟩, z2, z3, z5, fun o ho => z6 o (by omega) ho⟩
  by_cases hk : k = 9
  · subst hk
    exact z5 j (fun o ho hh => g3 ⟨by decide, by decide, inb_ok (a := 48) rfl (by omega) (by omega)⟩)
  · exact z2 k j hk
/-- the rest of a tool, where a fault stands -/
theorem to_flt {x y : Int32} (hn : 2000 ≤ n) (hb : b < 2) (hK : k < 8) (h8 : S.1 0 8 = nI kd) (h9 : S.1 0 9 = nI pl) (h40 : S.1 0 40 = nI b) (h5 : S.1 5 b = nI k) : ∃ Z, fX12_tooling_L96 n 0 n (nI 0) (xuI (xuI S 6 (8 * b + k) x) 7 (8 * b + k) y) = some Z ∧ Z.1 0 8 = nI kd ∧ Z.1 0 9 = nI pl ∧ frG b S Z := by
  obtain ⟨Z, z1, z2, z3, _⟩ := m_toT (S := xuI (xuI S 6 (8 * b + k) x) 7 (8 * b + k) y) hn hb hK (by rw [quI_k (by omega), quI_k (by omega)]; exact h40) (by rw [quI_k (by omega), quI_k (by omega)]; exact h5)
  exact ⟨Z, z1, by rw [z3 _ _ (by decide), quI_k (by omega), quI_k (by omega)]; exact h8, by rw [z3 _ _ (by decide), quI_k (by omega), quI_k (by omega)]; exact h9, frG_trans (frG_up (by decide) (inb_ok (a := 8) rfl (by omega) (by omega))) (frG_trans (frG_up (by decide) (inb_ok (a := 8) rfl (by omega) (by omega))) z2)⟩
theorem m_rTool (hn : 2000 ≤ n) (hb : b < 2) (hY : yrOk Y) (hN : yJn Y) (h : mkM S b f L e Y cc) : mSo S b f L cc (zTool f L Y e) (fX12_tooling n 0 S) := by
  have s40 := h.2.2.2.1
  have s2 := h.2.2.2.2.2.2.2.1.1.2.1
  obtain ⟨c0, c1, c2, c3⟩ := hY.1
  have hke := kE_from (f := f) h.2.1
  unfold zTool tO
  by_cases hf : 8 ≤ Y 2 1
  · rw [if_pos hf]
    have a1 := (mt_C (x := 1) hn h.2.1 h.1 h.2.2.1 (by decide)).1 rfl
    have hf6 : Y 2 1 = 8 := by omega
    rw [hf6] at s2
    refine ⟨flR S 6 (kS f L e), ?_, ⟨by decide, by decide⟩, flR_8, flR_9, frG_fl⟩
    simp (disch := (first | assumption | omega | exact hB _ _ | exact hYB _ _ | (simp only [yc, yd, sh, sv, ne_eq]; omega) | (simp (disch := omega) only [↓nm_1, ↓nm_2, nI_add, pk_mul, pk_sub, Nat.add_sub_cancel, qm1_add, qm2_add, nI_clamp, ni_0, ni_1, ni_8, ni_99, s40, s2, a1]; refine qin_nI ?_ ?_ <;> first | omega | exact hB _ _ | exact hYB _ _) | (refine qin_nI ?_ ?_ <;> omega) | fail)) only [↓km0_gd, ↓km0_gI, ↓km0_gM, ↓km0_pI, ↓km0_pM, ↓km0_pZ, ↓km0_gL, ↓km0_pL, ↓km0_gF17, ↓km0_gF18, ↓km0_gF19, ↓km0_gF36, ↓km5_al, ↓km5_as, ↓km5_ln, ↓km6_al, ↓km6_as, ↓km6_ln, ↓km7_al, ↓km7_as, ↓km7_ln, ↓km24_ll, ↓km24_ls, ↓qb_so, ↓nm_1, ↓nm_2, ↓reduceIte, if_true, if_false, not_true_eq_false, not_false_eq_true, and_true, true_and, and_false, false_and, or_true, true_or, or_false, false_or, eq_self, ne_eq, quI_s, quI_n, quI2, quL1, quL2, quL3, quR1, quR2, quR3, nI_add, pk_mul, pk_sub, Nat.add_sub_cancel, qm1_add, qm2_add, nI_leI, nI_ltI, nI_eq, nI_m1, nI_m1', nI_clamp, nI_bit, nI_one_shl, nI_m1l, nI_m1lt, nI_m1lt', nI_m1le', oI_some, oI_none, ni_0, ni_1, ni_8, ni_99, fX12_tooling, fX12_tooling_B20, qle_t, qle_f, qlt_t, qlt_f, qeq_t, qeq_f, s40, s2, a1]
  rw [if_neg hf]
  have hf' : Y 2 1 < 8 := by omega
  have hf6 : ¬ Y 2 1 = 8 := by omega
  obtain ⟨A, a1, a2, a3⟩ := (mt_C (x := 0) hn h.2.1 h.1 h.2.2.1 (by decide)).2 rfl
  have hA := mkM_M h hY a2 hke.1 hke.2 a3
  have A40 := hA.2.2.2.1
  have A2 := hA.2.2.2.2.2.2.2.1.1.2.1
  refine mSo_pre (frG_M a3) ?_
  show mSo A b f L cc (zB (tF f L Y (kE f L e)) _) _
  have b1 := mt_F hn hb hY hN A40 hA.2.2.2.2.2.2.2.1 hke.2 a2 hA.2.2.1
  cases h1 : tF f L Y (kE f L e) with
  | inl x =>
    obtain ⟨kd, pl⟩ := x
    rw [h1] at b1
    obtain ⟨⟨k0, k1⟩, v, b2⟩ := b1
    have kn : ¬ kd = 0 := by omega
    have y8 : (xuL (flR A kd pl) 24 (8 * b + Y 2 1) v).1 0 8 = nI kd := flR_8 (S := A) (kd := kd) (pl := pl)
    have y9 : (xuL (flR A kd pl) 24 (8 * b + Y 2 1) v).1 0 9 = nI pl := flR_9 (S := A) (kd := kd) (pl := pl)
    have y40 : (xuL (flR A kd pl) 24 (8 * b + Y 2 1) v).1 0 40 = nI b := by show (flR A kd pl).1 0 40 = _; rw [flR_k (by omega)]; exact A40
    have y5 : (xuL (flR A kd pl) 24 (8 * b + Y 2 1) v).1 5 b = nI (Y 2 1) := by show (flR A kd pl).1 5 b = _; rw [flR_k (by omega)]; exact A2
    have n0 := f_must_ (n := n) (x := 26995) y8 k0 k1
    have n1 := f_ask (n := n) (x := nI 0) (y := nI 0) y8 k0 k1
    have y8' : (xuI (xuL (flR A kd pl) 24 (8 * b + Y 2 1) v) 6 (8 * b + Y 2 1) (nI 0)).1 0 8 = nI kd := by rw [quI_k (by omega)]; exact y8
    have n2 := f_must_ (n := n) (x := 2003792494) y8' k0 k1
    have n3 := f_num (n := n) (x := nI 0) (y := nI 99) y8' k0 k1
    obtain ⟨Z, z1, Z8, Z9, z4⟩ := to_flt (x := nI 0) (y := nI 0) hn hb hf' y8 y9 y40 y5
    refine ⟨Z, ?_, ⟨k0, k1⟩, Z8, Z9, frG_trans frG_fl (frG_trans (frG_upL (by decide) (inb_ok (a := 8) rfl (by omega) (by omega))) z4)⟩
    simp (maxSteps := 3000000) (disch := (first | assumption | omega | exact hB _ _ | exact hYB _ _ | (simp only [yc, yd, sh, sv, ne_eq]; omega) | (simp (disch := omega) only [↓nm_1, ↓nm_2, nI_add, pk_mul, pk_sub, Nat.add_sub_cancel, qm1_add, qm2_add, nI_clamp, ni_0, ni_1, ni_8, ni_99, s40, s2, hf6, a1, A40, A2, b2, n0, n1, n2, n3, z1, Z8, kn]; refine qin_nI ?_ ?_ <;> first | omega | exact hB _ _ | exact hYB _ _) | (refine qin_nI ?_ ?_ <;> omega) | fail)) only [↓km0_gd, ↓km0_gI, ↓km0_gM, ↓km0_pI, ↓km0_pM, ↓km0_pZ, ↓km0_gL, ↓km0_pL, ↓km0_gF17, ↓km0_gF18, ↓km0_gF19, ↓km0_gF36, ↓km5_al, ↓km5_as, ↓km5_ln, ↓km6_al, ↓km6_as, ↓km6_ln, ↓km7_al, ↓km7_as, ↓km7_ln, ↓km24_ll, ↓km24_ls, ↓qb_so, ↓nm_1, ↓nm_2, ↓reduceIte, if_true, if_false, not_true_eq_false, not_false_eq_true, and_true, true_and, and_false, false_and, or_true, true_or, or_false, false_or, eq_self, ne_eq, quI_s, quI_n, quI2, quL1, quL2, quL3, quR1, quR2, quR3, nI_add, pk_mul, pk_sub, Nat.add_sub_cancel, qm1_add, qm2_add, nI_leI, nI_ltI, nI_eq, nI_m1, nI_m1', nI_clamp, nI_bit, nI_one_shl, nI_m1l, nI_m1lt, nI_m1lt', nI_m1le', oI_some, oI_none, ni_0, ni_1, ni_8, ni_99, fX12_tooling, fX12_tooling_B20, qle_t, qle_f, qlt_t, qlt_f, qeq_t, qeq_f, s40, s2, hf6, a1, A40, A2, b2, n0, n1, n2, n3, z1, Z8, kn]
  | inr x =>
    obtain ⟨w, e1⟩ := x
    rw [h1] at b1
    obtain ⟨B, b2, b3, b4, b5, b6⟩ := b1
    have hB0 := mkM_M hA hY b3 b5 b4 b6
    have hB : mkM (xuL B 24 (8 * b + Y 2 1) (lN (s_long w))) b f L e1 Y cc := mkM_nm (s := 1) hB0 hY (by decide)
    have hx : (xuL B 24 (8 * b + Y 2 1) (lN (s_long w))).2.1 24 (8 * b + Y 2 1) = lN (s_long w) := by unfold xuL; simp only [if_true]
    refine mSo_pre (frG_trans (frG_M b6) (frG_upL (k := 24) (j := 8 * b + Y 2 1) (x := lN (s_long w)) (by decide) (inb_ok (a := 8) rfl (by omega) (by omega)))) ?_
    revert hB hx
    generalize hC : xuL B 24 (8 * b + Y 2 1) (lN (s_long w)) = C
    intro hB hx
    have C40 := hB.2.2.2.1
    have C5 := hB.2.2.2.2.2.2.2.1.1.2.1
    have g1 := mt_W (k := 4) hn hB.2.1 hB.1 hB.2.2.1 (by decide)
    have q0 : fX12_tooling n 0 S = (fX12_must_ n 0 ((26995 : Int64)) C).bind fun S13 => (fX12_askedBut n 0 (nI 0) (nI 0) S13).bind fun q15 => (xas tM 6 (nI (8 * b + Y 2 1)) q15.1 q15.2).bind fun S16 => (fX12_must_ n 0 ((2003792494 : Int64)) S16).bind fun S17 => (fX12_number n 0 (nI 0) (nI 99) S17).bind fun q19 => (xas tM 7 (nI (8 * b + Y 2 1)) q19.1 q19.2).bind fun S20 => (fX12_tooling_L96 n 0 n (nI 0) S20).bind fun z29 => if z29.1 0 8 = nI 0 then (xal tM 5 (z29.1 0 40) z29).bind fun v33 => (xas tM 5 (z29.1 0 40) (v33 + nI 1) z29).bind fun S34 => some S34 else some z29 := by
      simp (maxSteps := 3000000) (disch := (first | assumption | omega | exact hB _ _ | exact hYB _ _ | (simp only [yc, yd, sh, sv, ne_eq]; omega) | (simp (disch := omega) only [↓nm_1, ↓nm_2, nI_add, pk_mul, pk_sub, Nat.add_sub_cancel, qm1_add, qm2_add, nI_clamp, ni_0, ni_1, ni_8, ni_99, s40, s2, hf6, a1, A40, A2, b2, hC]; refine qin_nI ?_ ?_ <;> first | omega | exact hB _ _ | exact hYB _ _) | (refine qin_nI ?_ ?_ <;> omega) | fail)) only [↓km0_gd, ↓km0_gI, ↓km0_gM, ↓km0_pI, ↓km0_pM, ↓km0_pZ, ↓km0_gL, ↓km0_pL, ↓km0_gF17, ↓km0_gF18, ↓km0_gF19, ↓km0_gF36, ↓km5_al, ↓km5_as, ↓km5_ln, ↓km6_al, ↓km6_as, ↓km6_ln, ↓km7_al, ↓km7_as, ↓km7_ln, ↓km24_ll, ↓km24_ls, ↓qb_so, ↓nm_1, ↓nm_2, ↓reduceIte, if_true, if_false, not_true_eq_false, not_false_eq_true, and_true, true_and, and_false, false_and, or_true, true_or, or_false, false_or, eq_self, ne_eq, quI_s, quI_n, quI2, quL1, quL2, quL3, quR1, quR2, quR3, nI_add, pk_mul, pk_sub, Nat.add_sub_cancel, qm1_add, qm2_add, nI_leI, nI_ltI, nI_eq, nI_m1, nI_m1', nI_clamp, nI_bit, nI_one_shl, nI_m1l, nI_m1lt, nI_m1lt', nI_m1le', oI_some, oI_none, ni_0, ni_1, ni_8, ni_99, fX12_tooling, fX12_tooling_B20, qle_t, qle_f, qlt_t, qlt_f, qeq_t, qeq_f, s40, s2, hf6, a1, A40, A2, b2, hC]
    rw [q0]
    show mSo C b f L cc (zB (tW f L 4 e1) fun e => zB (tA f L Y 0 none e) fun k => zB (tW f L 5 k.2) fun e => zB (tN f L 0 99 e) fun r => .inr (r.2, dU (dU (s_gi Y 1 w) 5 (Y 2 1) k.1) 6 (Y 2 1) r.1)) _
    cases h2 : tW f L 4 e1 with
    | inl x =>
      obtain ⟨kd, pl⟩ := x
      rw [h2] at g1
      obtain ⟨⟨k0, k1⟩, g2⟩ := g1
      have g2' : fX12_must_ n 0 (26995 : Int64) C = some (flR C kd pl) := g2
      have kn : ¬ kd = 0 := by omega
      have y8 : (flR C kd pl).1 0 8 = nI kd := flR_8
      have y40 : (flR C kd pl).1 0 40 = nI b := by rw [flR_k (by omega)]; exact C40
      have y5 : (flR C kd pl).1 5 b = nI (Y 2 1) := by rw [flR_k (by omega)]; exact C5
      have n1 := f_ask (n := n) (x := nI 0) (y := nI 0) y8 k0 k1
      have y8' : (xuI (flR C kd pl) 6 (8 * b + Y 2 1) (nI 0)).1 0 8 = nI kd := by rw [quI_k (by omega)]; exact y8
      have n2 := f_must_ (n := n) (x := 2003792494) y8' k0 k1
      have n3 := f_num (n := n) (x := nI 0) (y := nI 99) y8' k0 k1
      obtain ⟨Z, z1, Z8, Z9, z4⟩ := to_flt (x := nI 0) (y := nI 0) hn hb hf' y8 flR_9 y40 y5
      refine ⟨Z, ?_, ⟨k0, k1⟩, Z8, Z9, frG_trans frG_fl z4⟩
      rw [g2']
      simp (disch := (first | assumption | omega | exact hB _ _ | exact hYB _ _ | (simp only [yc, yd, sh, sv, ne_eq]; omega) | (simp (disch := omega) only [↓nm_1, ↓nm_2, nI_add, pk_mul, pk_sub, Nat.add_sub_cancel, qm1_add, qm2_add, nI_clamp, ni_0, ni_1, n1, n2, n3, z1, Z8, kn]; refine qin_nI ?_ ?_ <;> first | omega | exact hB _ _ | exact hYB _ _) | (refine qin_nI ?_ ?_ <;> omega) | fail)) only [↓km0_gd, ↓km0_gI, ↓km0_gM, ↓km0_pI, ↓km0_pM, ↓km0_pZ, ↓km0_gL, ↓km0_pL, ↓km5_al, ↓km5_as, ↓km5_ln, ↓km6_al, ↓km6_as, ↓km6_ln, ↓km7_al, ↓km7_as, ↓km7_ln, ↓qb_so, ↓nm_1, ↓nm_2, ↓reduceIte, if_true, if_false, not_true_eq_false, not_false_eq_true, and_true, true_and, and_false, false_and, or_true, true_or, or_false, false_or, eq_self, ne_eq, quI_s, quI_n, quI2, quL1, quL2, quL3, quR1, quR2, quR3, nI_add, pk_mul, pk_sub, Nat.add_sub_cancel, qm1_add, qm2_add, nI_leI, nI_ltI, nI_eq, nI_m1, nI_m1', nI_clamp, nI_bit, nI_one_shl, nI_m1l, nI_m1lt, nI_m1lt', nI_m1le', oI_some, oI_none, ni_0, ni_1, qle_t, qle_f, qlt_t, qlt_f, qeq_t, qeq_f, n1, n2, n3, z1, Z8, kn]
    | inr e2 =>
      rw [h2] at g1
      obtain ⟨D, g2, g3, g4, g5, g6⟩ := g1
      have g2' : fX12_must_ n 0 (26995 : Int64) C = some D := g2
      have hD := mkM_M hB hY g3 g5 g4 g6
      have hxD : D.2.1 24 (8 * b + Y 2 1) = lN (s_long w) := by rw [g6.2.1 _ _ (by omega)]; exact hx
      refine mSo_pre (frG_M g6) ?_
      rw [g2']
      have k1 := mt_A (s := 0) (u := none) (x := nI 0) hn hb hY hN (by decide) has0 hD.2.2.2.1 hD.2.2.2.2.2.2.2.1 g4 g3 hD.2.2.1
      show mSo D b f L cc (zB (tA f L Y 0 none e2) fun k => zB (tW f L 5 k.2) fun e => zB (tN f L 0 99 e) fun r => .inr (r.2, dU (dU (s_gi Y 1 w) 5 (Y 2 1) k.1) 6 (Y 2 1) r.1)) _
      cases h3 : tA f L Y 0 none e2 with
      | inl x =>
        obtain ⟨kd, pl⟩ := x
        rw [h3] at k1
        obtain ⟨⟨k0, k1'⟩, v, k2⟩ := k1
        have kn : ¬ kd = 0 := by omega
        have y8 : (flR D kd pl).1 0 8 = nI kd := flR_8
        have y40 : (flR D kd pl).1 0 40 = nI b := by rw [flR_k (by omega)]; exact hD.2.2.2.1
        have y5 : (flR D kd pl).1 5 b = nI (Y 2 1) := by rw [flR_k (by omega)]; exact hD.2.2.2.2.2.2.2.1.1.2.1
        have y8' : (xuI (flR D kd pl) 6 (8 * b + Y 2 1) v).1 0 8 = nI kd := by rw [quI_k (by omega)]; exact y8
        have n2 := f_must_ (n := n) (x := 2003792494) y8' k0 k1'
        have n3 := f_num (n := n) (x := nI 0) (y := nI 99) y8' k0 k1'
        obtain ⟨Z, z1, Z8, Z9, z4⟩ := to_flt (x := v) (y := nI 0) hn hb hf' y8 flR_9 y40 y5
        refine ⟨Z, ?_, ⟨k0, k1'⟩, Z8, Z9, frG_trans frG_fl z4⟩
        simp (disch := (first | assumption | omega | exact hB _ _ | exact hYB _ _ | (simp only [yc, yd, sh, sv, ne_eq]; omega) | (simp (disch := omega) only [↓nm_1, ↓nm_2, nI_add, pk_mul, pk_sub, Nat.add_sub_cancel, qm1_add, qm2_add, nI_clamp, ni_0, ni_1, k2, n2, n3, z1, Z8, kn]; refine qin_nI ?_ ?_ <;> first | omega | exact hB _ _ | exact hYB _ _) | (refine qin_nI ?_ ?_ <;> omega) | fail)) only [↓km0_gd, ↓km0_gI, ↓km0_gM, ↓km0_pI, ↓km0_pM, ↓km0_pZ, ↓km0_gL, ↓km0_pL, ↓km5_al, ↓km5_as, ↓km5_ln, ↓km6_al, ↓km6_as, ↓km6_ln, ↓km7_al, ↓km7_as, ↓km7_ln, ↓qb_so, ↓nm_1, ↓nm_2, ↓reduceIte, if_true, if_false, not_true_eq_false, not_false_eq_true, and_true, true_and, and_false, false_and, or_true, true_or, or_false, false_or, eq_self, ne_eq, quI_s, quI_n, quI2, quL1, quL2, quL3, quR1, quR2, quR3, nI_add, pk_mul, pk_sub, Nat.add_sub_cancel, qm1_add, qm2_add, nI_leI, nI_ltI, nI_eq, nI_m1, nI_m1', nI_clamp, nI_bit, nI_one_shl, nI_m1l, nI_m1lt, nI_m1lt', nI_m1le', oI_some, oI_none, ni_0, ni_1, qle_t, qle_f, qlt_t, qlt_f, qeq_t, qeq_f, k2, n2, n3, z1, Z8, kn]
      | inr x =>
        obtain ⟨k, e3⟩ := x
        have hk := (tA_i h3).1
        rw [h3] at k1
        obtain ⟨E, k2, k3, k4, k5, k6⟩ := k1
        have hE0 := mkM_M hD hY k3 k5 k4 k6
        have hE : mkM (xuI E 6 (8 * b + Y 2 1) (nI k)) b f L e3 Y cc := mkM_fr hE0 hY (by decide) (by unfold vis; omega)
        have hxE : (xuI E 6 (8 * b + Y 2 1) (nI k)).2.1 24 (8 * b + Y 2 1) = lN (s_long w) := by show E.2.1 24 _ = _; rw [k6.2.1 _ _ (by omega)]; exact hxD
        have hx6 : (xuI E 6 (8 * b + Y 2 1) (nI k)).1 6 (8 * b + Y 2 1) = nI k := quI_e
        refine mSo_pre (frG_trans (frG_M k6) (frG_up (k := 6) (j := 8 * b + Y 2 1) (x := nI k) (by decide) (inb_ok (a := 8) rfl (by omega) (by omega)))) ?_
        have q1 : ∀ {β : Type} (g : xSt → Option β), (xas tM 6 (nI (8 * b + Y 2 1)) (nI k) E).bind g = g (xuI E 6 (8 * b + Y 2 1) (nI k)) := fun g => by
          simp (disch := (first | assumption | omega | exact hB _ _ | exact hYB _ _ | (simp only [yc, yd, sh, sv, ne_eq]; omega) | (simp (disch := omega) only [↓nm_1, ↓nm_2, nI_add, pk_mul, pk_sub, Nat.add_sub_cancel, qm1_add, qm2_add, nI_clamp, ni_0, ni_1]; refine qin_nI ?_ ?_ <;> first | omega | exact hB _ _ | exact hYB _ _) | (refine qin_nI ?_ ?_ <;> omega) | fail)) only [↓km0_gd, ↓km0_gI, ↓km0_gM, ↓km0_pI, ↓km0_pM, ↓km0_pZ, ↓km0_gL, ↓km0_pL, ↓km6_al, ↓km6_as, ↓km6_ln, ↓qb_so, ↓nm_1, ↓nm_2, ↓reduceIte, if_true, if_false, not_true_eq_false, not_false_eq_true, and_true, true_and, and_false, false_and, or_true, true_or, or_false, false_or, eq_self, ne_eq, quI_s, quI_n, quI2, quL1, quL2, quL3, quR1, quR2, quR3, nI_add, pk_mul, pk_sub, Nat.add_sub_cancel, qm1_add, qm2_add, nI_leI, nI_ltI, nI_eq, nI_m1, nI_m1', nI_clamp, nI_bit, nI_one_shl, nI_m1l, nI_m1lt, nI_m1lt', nI_m1le', oI_some, oI_none, ni_0, ni_1, qle_t, qle_f, qlt_t, qlt_f, qeq_t, qeq_f]
        show mSo _ b f L cc _ ((fX12_askedBut n 0 (nI 0) (nI 0) D).bind _)
        rw [k2]
        show mSo _ b f L cc _ ((xas tM 6 (nI (8 * b + Y 2 1)) (nI k) E).bind _)
        rw [q1]
        revert hE hxE hx6
        generalize xuI E 6 (8 * b + Y 2 1) (nI k) = G
        intro hG hxG hx6
        have l1 := mt_W (k := 5) hn hG.2.1 hG.1 hG.2.2.1 (by decide)
        show mSo G b f L cc (zB (tW f L 5 e3) fun e => zB (tN f L 0 99 e) fun r => .inr (r.2, dU (dU (s_gi Y 1 w) 5 (Y 2 1) k) 6 (Y 2 1) r.1)) _
        cases h4 : tW f L 5 e3 with
        | inl x =>
          obtain ⟨kd, pl⟩ := x
          rw [h4] at l1
          obtain ⟨⟨k0, k1'⟩, l2⟩ := l1
          have l2' : fX12_must_ n 0 (2003792494 : Int64) G = some (flR G kd pl) := l2
          have kn : ¬ kd = 0 := by omega
          have y8 : (flR G kd pl).1 0 8 = nI kd := flR_8
          have n3 := f_num (n := n) (x := nI 0) (y := nI 99) y8 k0 k1'
          obtain ⟨Z, z1, z2, z3, _⟩ := m_toT (S := xuI (flR G kd pl) 7 (8 * b + Y 2 1) (nI 0)) hn hb hf' (by rw [quI_k (by omega), flR_k (by omega)]; exact hG.2.2.2.1) (by rw [quI_k (by omega), flR_k (by omega)]; exact hG.2.2.2.2.2.2.2.1.1.2.1)
          have Z8 : Z.1 0 8 = nI kd := by rw [z3 _ _ (by decide), quI_k (by omega)]; exact y8
          have Z9 : Z.1 0 9 = nI pl := by rw [z3 _ _ (by decide), quI_k (by omega)]; exact flR_9
          refine ⟨Z, ?_, ⟨k0, k1'⟩, Z8, Z9, frG_trans frG_fl (frG_trans (frG_up (by decide) (inb_ok (a := 8) rfl (by omega) (by omega))) z2)⟩
          simp (disch := (first | assumption | omega | exact hB _ _ | exact hYB _ _ | (simp only [yc, yd, sh, sv, ne_eq]; omega) | (simp (disch := omega) only [↓nm_1, ↓nm_2, nI_add, pk_mul, pk_sub, Nat.add_sub_cancel, qm1_add, qm2_add, nI_clamp, ni_0, ni_1, l2', n3, z1, Z8, kn]; refine qin_nI ?_ ?_ <;> first | omega | exact hB _ _ | exact hYB _ _) | (refine qin_nI ?_ ?_ <;> omega) | fail)) only [↓km0_gd, ↓km0_gI, ↓km0_gM, ↓km0_pI, ↓km0_pM, ↓km0_pZ, ↓km0_gL, ↓km0_pL, ↓km5_al, ↓km5_as, ↓km5_ln, ↓km7_al, ↓km7_as, ↓km7_ln, ↓qb_so, ↓nm_1, ↓nm_2, ↓reduceIte, if_true, if_false, not_true_eq_false, not_false_eq_true, and_true, true_and, and_false, false_and, or_true, true_or, or_false, false_or, eq_self, ne_eq, quI_s, quI_n, quI2, quL1, quL2, quL3, quR1, quR2, quR3, nI_add, pk_mul, pk_sub, Nat.add_sub_cancel, qm1_add, qm2_add, nI_leI, nI_ltI, nI_eq, nI_m1, nI_m1', nI_clamp, nI_bit, nI_one_shl, nI_m1l, nI_m1lt, nI_m1lt', nI_m1le', oI_some, oI_none, ni_0, ni_1, qle_t, qle_f, qlt_t, qlt_f, qeq_t, qeq_f, l2', n3, z1, Z8, kn]
        | inr e4 =>
          rw [h4] at l1
          obtain ⟨H, l2, l3, l4, l5, l6⟩ := l1
          have l2' : fX12_must_ n 0 (2003792494 : Int64) G = some H := l2
          have hH := mkM_M hG hY l3 l5 l4 l6
          refine mSo_pre (frG_M l6) ?_
          have o1 := mt_N (lo := 0) (hi := 99) hn l4 l3 hH.2.2.1 (by omega) (by decide)
          show mSo H b f L cc (zB (tN f L 0 99 e4) fun r => .inr (r.2, dU (dU (s_gi Y 1 w) 5 (Y 2 1) k) 6 (Y 2 1) r.1)) _
          cases h5 : tN f L 0 99 e4 with
          | inl x =>
            obtain ⟨kd, pl⟩ := x
            rw [h5] at o1
            obtain ⟨⟨k0, k1'⟩, v', o2⟩ := o1
            have y8 : (flR H kd pl).1 0 8 = nI kd := flR_8
            have kn : ¬ kd = 0 := by omega
            obtain ⟨Z, z1, z2, z3, _⟩ := m_toT (S := xuI (flR H kd pl) 7 (8 * b + Y 2 1) v') hn hb hf' (by rw [quI_k (by omega), flR_k (by omega)]; exact hH.2.2.2.1) (by rw [quI_k (by omega), flR_k (by omega)]; exact hH.2.2.2.2.2.2.2.1.1.2.1)
            have Z8 : Z.1 0 8 = nI kd := by rw [z3 _ _ (by decide), quI_k (by omega)]; exact y8
            have Z9 : Z.1 0 9 = nI pl := by rw [z3 _ _ (by decide), quI_k (by omega)]; exact flR_9
            refine ⟨Z, ?_, ⟨k0, k1'⟩, Z8, Z9, frG_trans frG_fl (frG_trans (frG_up (by decide) (inb_ok (a := 8) rfl (by omega) (by omega))) z2)⟩
            simp (disch := (first | assumption | omega | exact hB _ _ | exact hYB _ _ | (simp only [yc, yd, sh, sv, ne_eq]; omega) | (simp (disch := omega) only [↓nm_1, ↓nm_2, nI_add, pk_mul, pk_sub, Nat.add_sub_cancel, qm1_add, qm2_add, nI_clamp, ni_0, ni_1, l2', o2, z1, Z8, kn]; refine qin_nI ?_ ?_ <;> first | omega | exact hB _ _ | exact hYB _ _) | (refine qin_nI ?_ ?_ <;> omega) | fail)) only [↓km0_gd, ↓km0_gI, ↓km0_gM, ↓km0_pI, ↓km0_pM, ↓km0_pZ, ↓km0_gL, ↓km0_pL, ↓km5_al, ↓km5_as, ↓km5_ln, ↓km7_al, ↓km7_as, ↓km7_ln, ↓qb_so, ↓nm_1, ↓nm_2, ↓reduceIte, if_true, if_false, not_true_eq_false, not_false_eq_true, and_true, true_and, and_false, false_and, or_true, true_or, or_false, false_or, eq_self, ne_eq, quI_s, quI_n, quI2, quL1, quL2, quL3, quR1, quR2, quR3, nI_add, pk_mul, pk_sub, Nat.add_sub_cancel, qm1_add, qm2_add, nI_leI, nI_ltI, nI_eq, nI_m1, nI_m1', nI_clamp, nI_bit, nI_one_shl, nI_m1l, nI_m1lt, nI_m1lt', nI_m1le', oI_some, oI_none, ni_0, ni_1, qle_t, qle_f, qlt_t, qlt_f, qeq_t, qeq_f, l2', o2, z1, Z8, kn]
          | inr x =>
            obtain ⟨r, e5⟩ := x
            rw [h5] at o1
            obtain ⟨J, o2, o3, o4, o5, o6⟩ := o1
            have hJ0 := mkM_M hH hY o3 o5 o4 o6
            have hJ : mkM (xuI J 7 (8 * b + Y 2 1) (nI r)) b f L e5 Y cc := mkM_fr hJ0 hY (by decide) (by unfold vis; omega)
            obtain ⟨Z, z1, z2, z3, z4, z5, z6⟩ := m_toT (S := xuI J 7 (8 * b + Y 2 1) (nI r)) hn hb hf' hJ.2.2.2.1 hJ.2.2.2.2.2.2.2.1.1.2.1
            have hZ : mkM Z b f L e5 Y cc := mkM_of hJ (tkM_same hJ.1 (fun k j hk => z3 k j (by omega)) (by rw [z4])) (Nat.le_refl _) hJ.2.1 (fun j hj => z3 _ _ (by decide)) (fun k j x y => z3 _ _ (by omega)) (mI_eq hJ.2.2.2.2.2.2.2.1 (fun j hj => (hY.2.2.2.2.2.1 j hj).2.1) (fun k j hk => by
              by_cases h9 : k = 9
              · subst h9
                refine z5 j (fun o ho => ?_)
                unfold vis at hk
                rcases hk with hk | hk | hk | hk | hk | hk | hk | hk
                · omega
                · omega
                · omega
                · obtain ⟨_, g, t, hg, ht, hj⟩ := hk
                  omega
                · omega
                · omega
                · omega
                · omega
              · exact z3 k j h9) (fun s i hs hi => by rw [z4])) rfl
            have Z8 := hZ.2.2.1
            have Z40 := hZ.2.2.2.1
            have Z2 := hZ.2.2.2.2.2.2.2.1.1.2.1
            have Z6 : Z.1 6 (8 * b + Y 2 1) = nI k := by rw [z3 _ _ (by decide), quI_k (by omega), o6.1 _ _ (by omega), l6.1 _ _ (by omega)]; exact hx6
            have Z7 : Z.1 7 (8 * b + Y 2 1) = nI r := by rw [z3 _ _ (by decide), quI_e]
            have ZN : Z.2.1 24 (8 * b + Y 2 1) = lN (s_long w) := by rw [z4]; show J.2.1 24 _ = _; rw [o6.2.1 _ _ (by omega), l6.2.1 _ _ (by omega)]; exact hxG
            refine ⟨xuI Z 5 b (nI (Y 2 1 + 1)), ?_, to_fin hb hY hN hf' hZ Z6 Z7 z6 ZN, frG_trans (frG_M o6) (frG_trans (frG_up (by decide) (inb_ok (a := 8) rfl (by omega) (by omega))) (frG_trans z2 (frG_up (by decide) (inb_ok (a := 1) rfl (by omega) (by omega)))))⟩
            simp (disch := (first | assumption | omega | exact hB _ _ | exact hYB _ _ | (simp only [yc, yd, sh, sv, ne_eq]; omega) | (simp (disch := omega) only [↓nm_1, ↓nm_2, nI_add, pk_mul, pk_sub, Nat.add_sub_cancel, qm1_add, qm2_add, nI_clamp, ni_0, ni_1, l2', o2, z1, Z8, Z40, Z2]; refine qin_nI ?_ ?_ <;> first | omega | exact hB _ _ | exact hYB _ _) | (refine qin_nI ?_ ?_ <;> omega) | fail)) only [↓km0_gd, ↓km0_gI, ↓km0_gM, ↓km0_pI, ↓km0_pM, ↓km0_pZ, ↓km0_gL, ↓km0_pL, ↓km5_al, ↓km5_as, ↓km5_ln, ↓km7_al, ↓km7_as, ↓km7_ln, ↓qb_so, ↓nm_1, ↓nm_2, ↓reduceIte, if_true, if_false, not_true_eq_false, not_false_eq_true, and_true, true_and, and_false, false_and, or_true, true_or, or_false, false_or, eq_self, ne_eq, quI_s, quI_n, quI2, quL1, quL2, quL3, quR1, quR2, quR3, nI_add, pk_mul, pk_sub, Nat.add_sub_cancel, qm1_add, qm2_add, nI_leI, nI_ltI, nI_eq, nI_m1, nI_m1', nI_clamp, nI_bit, nI_one_shl, nI_m1l, nI_m1lt, nI_m1lt', nI_m1le', oI_some, oI_none, ni_0, ni_1, qle_t, qle_f, qlt_t, qlt_f, qeq_t, qeq_f, l2', o2, z1, Z8, Z40, Z2]
end Q9ze

