/-! ===== year: the reference ===== -/
section Q9zn
variable {S Z V W : xSt} {n L e m o b d t k a s w lo hi j r kd pl c : Nat} {f : Nat → Nat} {cc mc wc mc' wc' : List (Nat × Nat)} {Y Y' D : Nat → Nat → Nat} {P : Nat → Nat → Nat → Nat} {G : Nat → Nat → Nat}
/-- the other bank -/
theorem nb_k {p : Nat} (hb : b < 2) (h : bsz k = a) (h1 : a * b ≤ j) (h2 : j < a * b + a) : ¬ inb k (1 - b) j := by
  unfold inb
  rw [h]
  rcases (by omega : b = 0 ∨ b = 1) with rfl | rfl <;> simp at * <;> omega
/-- what the reference keeps of the year that goes on -/
theorem mY_G (hb : b < 2) (hY : yrOk Y) (hf : frG (1 - b) S Z) (h : mY S b Y mc wc) (hN : mN S b Y) : mY Z b Y mc wc ∧ mN Z b Y := by
  obtain ⟨h0, ⟨h1, h2, h3, h4⟩, h5, h6, h7, h8, h9, ⟨h10, h11⟩, ⟨h12, h13, h14⟩, h15, h16⟩ := h
  obtain ⟨c0, c1, c2, c3⟩ := hY.1
  have e : ∀ k j, 2 ≤ k → k ≤ 22 → ¬ inb k (1 - b) j → Z.1 k j = S.1 k j := fun k j g1 g2 g3 => hf.1 k j (by omega) (by omega) (fun hh => g3 hh.2.2)
  have ko : ∀ wh cs, wh < 2 → mKo S b wh cs → mKo Z b wh cs := fun wh cs hwh hk => ⟨fun hc => by rw [e _ _ (by decide) (by decide) (nb_k (p := 0) hb (a := 2) rfl (by omega) (by omega))]; exact hk.1 hc, fun hc => by
      obtain ⟨p, a1, a2, a3, a4⟩ := hk.2 hc
      refine ⟨p, by rw [e _ _ (by decide) (by decide) (nb_k (p := 0) hb (a := 2) rfl (by omega) (by omega))]; exact a1, by rw [e _ _ (by decide) (by decide) (nb_k (p := 0) hb (a := 2) rfl (by omega) (by omega))]; exact a2, a3, mCode_eq a4 (fun j g1 g2 => ⟨?_, ?_⟩)⟩
      · exact e _ _ (by decide) (by decide) (nb_k (p := 0) hb (a := 1600) rfl (by omega) (by omega))
      · exact e _ _ (by decide) (by decide) (nb_k (p := 0) hb (a := 1600) rfl (by omega) (by omega))⟩
  refine ⟨⟨by rw [hf.1 _ _ (by omega) (by omega) (by omega)]; exact h0, ⟨?_, ?_, ?_, ?_⟩, fun k hk => ⟨?_, ?_⟩, fun t ht => ⟨?_, ?_⟩, fun g t hg ht => ?_, fun j hj => ⟨?_, ?_, fun s hs => ⟨?_, ?_⟩⟩, fun a c ha hc => ?_, ⟨?_, ?_⟩, ⟨?_, ?_, ?_⟩, ko _ _ (by decide) h15, ko _ _ (by decide) h16⟩, fun s i hs hi => ?_⟩
  · rw [e _ _ (by decide) (by decide) (nb_k (p := 0) hb (a := 1) rfl (by omega) (by omega))]; exact h1
  · rw [e _ _ (by decide) (by decide) (nb_k (p := 0) hb (a := 1) rfl (by omega) (by omega))]; exact h2
  · rw [e _ _ (by decide) (by decide) (nb_k (p := 0) hb (a := 1) rfl (by omega) (by omega))]; exact h3
  · rw [e _ _ (by decide) (by decide) (nb_k (p := 0) hb (a := 1) rfl (by omega) (by omega))]; exact h4
  · rw [e _ _ (by decide) (by decide) (nb_k (p := 0) hb (a := 6) rfl (by omega) (by omega))]; exact (h5 k hk).1
  · rw [e _ _ (by decide) (by decide) (nb_k (p := 0) hb (a := 6) rfl (by omega) (by omega))]; exact (h5 k hk).2
  · rw [e _ _ (by decide) (by decide) (nb_k (p := 0) hb (a := 8) rfl (by omega) (by omega))]; exact (h6 t ht).1
  · rw [e _ _ (by decide) (by decide) (nb_k (p := 0) hb (a := 8) rfl (by omega) (by omega))]; exact (h6 t ht).2
  · rw [e _ _ (by decide) (by decide) (nb_k (p := 0) hb (a := 48) rfl (by omega) (by omega))]; exact h7 g t hg ht
  · rw [e _ _ (by decide) (by decide) (nb_k (p := 0) hb (a := 6) rfl (by omega) (by omega))]; exact (h8 j hj).1
  · rw [e _ _ (by decide) (by decide) (nb_k (p := 0) hb (a := 6) rfl (by omega) (by omega))]; exact (h8 j hj).2.1
  · have h94 := (hY.2.2.2.2.2.1 j hj).2.1
    rw [e _ _ (by decide) (by decide) (nb_k (p := 0) hb (a := 24) rfl (by omega) (by omega))]; exact ((h8 j hj).2.2 s hs).1
  · have h94 := (hY.2.2.2.2.2.1 j hj).2.1
    rw [e _ _ (by decide) (by decide) (nb_k (p := 0) hb (a := 24) rfl (by omega) (by omega))]; exact ((h8 j hj).2.2 s hs).2
  · rw [e _ _ (by decide) (by decide) (nb_k (p := 0) hb (a := 36) rfl (by omega) (by omega))]; exact h9 a c ha hc
  · rw [e _ _ (by decide) (by decide) (nb_k (p := 0) hb (a := 1) rfl (by omega) (by omega))]; exact h10
  · rw [e _ _ (by decide) (by decide) (nb_k (p := 0) hb (a := 1) rfl (by omega) (by omega))]; exact h11
  · rw [e _ _ (by decide) (by decide) (nb_k (p := 0) hb (a := 3) rfl (by omega) (by omega))]; exact h12
  · rw [e _ _ (by decide) (by decide) (nb_k (p := 0) hb (a := 3) rfl (by omega) (by omega))]; exact h13
  · rw [e _ _ (by decide) (by decide) (nb_k (p := 0) hb (a := 3) rfl (by omega) (by omega))]; exact h14
  · rw [hf.2.1 _ _ (by omega) (fun hh => ?_)]
    · exact hN s i hs hi
    · rcases (by omega : s = 0 ∨ s = 1 ∨ s = 2 ∨ s = 3) with rfl | rfl | rfl | rfl
      · exact nb_k (p := 0) hb (k := 23) (a := 6) rfl (show 6 * b ≤ 6 * b + i by omega) (show 6 * b + i < 6 * b + 6 by omega) hh.2.2
      · exact nb_k (p := 0) hb (k := 24) (a := 8) rfl (show 8 * b ≤ 8 * b + i by omega) (show 8 * b + i < 8 * b + 8 by omega) hh.2.2
      · exact nb_k (p := 0) hb (k := 25) (a := 6) rfl (show 6 * b ≤ 6 * b + i by omega) (show 6 * b + i < 6 * b + 6 by omega) hh.2.2
      · exact nb_k (p := 0) hb (k := 26) (a := 6) rfl (show 6 * b ≤ 6 * b + i by omega) (show 6 * b + i < 6 * b + 6 by omega) hh.2.2
theorem gM_F (hb : b < 2) (hI : gI Y mc wc D P G) (hf : frG (1 - b) S Z) (h8 : Z.1 0 8 = nI kd) (h9 : Z.1 0 9 = nI pl) (h : gM S b Y mc wc D P G) : gM (xuI (xuI Z 0 10 (nI kd)) 0 11 (nI pl)) b Y mc wc D P (s_gF G kd pl) := by
  have hfr : gM Z b Y mc wc D P G := by
    obtain ⟨h1, h2, h3, ⟨f0, h4a, h4b, h4c, h4d⟩, ⟨h5a, h5b, h5c, h5d, h5e, h5f, h5g⟩, ⟨h6a, h6b, h6c⟩, h7a, h7b, u, u', fr, hu, hu', h73, h74, h75⟩ := h
    obtain ⟨y1, y2⟩ := mY_G hb hI.1 hf h1 h2
    have e : ∀ k j, (k = 0 ∧ (j = 1 ∨ j = 10 ∨ j = 11 ∨ 53 ≤ j)) ∨ k = 1 ∨ 33 ≤ k → Z.1 k j = S.1 k j := fun k j g => hf.1 k j (by omega) (by omega) (by omega)
    have cp : ∀ v E, mD S v Y E → mD Z v Y E := fun v E hd => by
      obtain ⟨⟨a1, a2, a3, a4, a5⟩, a6, a7, a8, a9, a10⟩ := hd
      exact ⟨⟨by rw [e _ _ (by omega)]; exact a1, by rw [e _ _ (by omega)]; exact a2, by rw [e _ _ (by omega)]; exact a3, by rw [e _ _ (by omega)]; exact a4, by rw [e _ _ (by omega)]; exact a5⟩, fun t ht => by rw [e _ _ (by omega)]; exact a6 t ht, fun g t hg ht => by rw [e _ _ (by omega)]; exact a7 g t hg ht, fun j hj => by rw [e _ _ (by omega)]; exact a8 j hj, fun j hj => by rw [e _ _ (by omega)]; exact a9 j hj, fun k hk => by rw [e _ _ (by omega)]; exact a10 k hk⟩
    exact ⟨y1, y2, cp 0 D h3, ⟨f0, h4a, by rw [e _ _ (by omega)]; exact h4b, by rw [e _ _ (by omega)]; exact h4c, fun i hi => cp _ _ (h4d i hi)⟩, ⟨fun i hi => by rw [e _ _ (by omega)]; exact h5a i hi, by rw [e _ _ (by omega)]; exact h5b, by rw [hf.2.1 _ _ (by omega) (by omega)]; exact h5c, by rw [e _ _ (by omega)]; exact h5d, by rw [e _ _ (by omega)]; exact h5e, by rw [e _ _ (by omega)]; exact h5f, by rw [e _ _ (by omega)]; exact h5g⟩, ⟨fun i hi => by rw [e _ _ (by omega)]; exact h6a i hi, fun i hi => by rw [e _ _ (by omega)]; exact h6b i hi, fun i hi => by rw [e _ _ (by omega)]; exact h6c i hi⟩, by rw [e _ _ (by omega)]; exact h7a, by rw [e _ _ (by omega)]; exact h7b, u, u', fr, hu, hu', by rw [e _ _ (by omega)]; exact h73, by rw [e _ _ (by omega)]; exact h74, by rw [e _ _ (by omega)]; exact h75⟩
  have gg : ∀ c j, ¬ (c = 1 ∧ (j = 4 ∨ j = 5)) → s_gF G kd pl c j = G c j := fun c j hc => by unfold s_gF; rw [dU_at, if_neg (by omega), dU_at, if_neg (by omega)]
  refine gM_G (S := Z) hI (fun k j hk => by rw [quI_k (fun hh => hk (by unfold gT; omega)), quI_k (fun hh => hk (by unfold gT; omega))]) (fun _ _ _ => rfl) ?_ (gg _ _ (by omega)) hfr
  obtain ⟨⟨a1, a2, a3, a4, a5, a6, a7⟩, b1, b2, b3⟩ := (⟨hfr.2.2.2.2.1, hfr.2.2.2.2.2.1⟩ : gM6 Z G)
  refine ⟨⟨fun i hi => by rw [quI_k (by omega), quI_k (by omega), gg _ _ (by omega)]; exact a1 i hi, by rw [quI_k (by omega), quI_k (by omega), gg _ _ (by omega)]; exact a2, by rw [gg _ _ (by omega)]; exact a3, by rw [quI_k (by omega), quI_k (by omega), gg _ _ (by omega)]; exact a4, by rw [quI_k (by omega), quI_k (by omega), gg _ _ (by omega)]; exact a5, ?_, ?_⟩, fun i hi => by rw [quI_k (by omega), quI_k (by omega), gg _ _ (by omega)]; exact b1 i hi, fun i hi => by rw [gg _ _ (by omega)] at hi; rw [quI_k (by omega), quI_k (by omega), gg _ _ (by omega)]; exact b2 i hi, fun i hi => by rw [gg _ _ (by omega)] at hi; rw [quI_k (by omega), quI_k (by omega), gg _ _ (by omega)]; exact b3 i hi⟩
  · rw [quI_k (by omega), quI_e]; unfold s_gF; rw [dU_j (by decide), dU_s]
  · rw [quI_e]; unfold s_gF; rw [dU_s]; rfl
theorem m_bg1 (hb : b < 2) : ∀ (k i q : Nat) (S : xSt), i + k = 8 → k < q → S.1 0 13 = nI b → ∃ Z, fX12_begin_L30 n 0 q (nI i) S = some Z ∧ (∀ k j, k ≠ 36 → Z.1 k j = S.1 k j) ∧ Z.2 = S.2 ∧ (∀ j, Z.1 36 j = if i ≤ j ∧ j < 8 then S.1 7 (8 * b + j) else S.1 36 j)
  | 0, i, q, S, hi, hq, h13 => by
    obtain ⟨q, rfl⟩ : ∃ q', q = q' + 1 := ⟨q - 1, by omega⟩
    have hi6 : i = 8 := by omega
    subst hi6
    refine ⟨S, ?_, fun _ _ _ => rfl, rfl, fun j => by rw [if_neg (by omega)]⟩
    show fX12_begin_L30b n 0 _ (nI 8) S = some S
    simp (disch := (first | assumption | omega | exact hB _ _ | exact hYB _ _ | (simp only [yc, yd, sh, sv, ne_eq]; omega) | (simp (disch := omega) only [↓nm_1, ↓nm_2, nI_add, pk_mul, pk_sub, Nat.add_sub_cancel, qm1_add, qm2_add, nI_clamp, ni_0, ni_1, ni_8]; refine qin_nI ?_ ?_ <;> first | omega | exact hB _ _ | exact hYB _ _) | (refine qin_nI ?_ ?_ <;> omega) | fail)) only [↓km0_gd, ↓km0_gI, ↓km0_gM, ↓km0_pI, ↓km0_pM, ↓km0_pZ, ↓km0_gL, ↓km0_pL, ↓km0_gF19, ↓km0_gF56, ↓km7_al, ↓km7_as, ↓km7_ln, ↓km36_al, ↓km36_as, ↓km36_ln, ↓qb_so, ↓nm_1, ↓nm_2, ↓reduceIte, if_true, if_false, not_true_eq_false, not_false_eq_true, and_true, true_and, and_false, false_and, or_true, true_or, or_false, false_or, eq_self, ne_eq, quI_s, quI_n, quI2, quL1, quL2, quL3, quR1, quR2, quR3, nI_add, pk_mul, pk_sub, Nat.add_sub_cancel, qm1_add, qm2_add, nI_leI, nI_ltI, nI_eq, nI_m1, nI_m1', nI_clamp, nI_bit, nI_one_shl, nI_m1l, nI_m1lt, nI_m1lt', nI_m1le', oI_some, oI_none, ni_0, ni_1, ni_8, fX12_begin_L30b, qle_t, qle_f, qlt_t, qlt_f, qeq_t, qeq_f]
  | k + 1, i, q, S, hi, hq, h13 => by
    obtain ⟨q, rfl⟩ : ∃ q', q = q' + 1 := ⟨q - 1, by omega⟩
    have i6 : ¬ 8 ≤ i := by omega
    have i6' : i < 8 := by omega
    obtain ⟨Z, z1, z2, z3, z4⟩ := m_bg1 hb k (i + 1) q (xuI S 36 i (S.1 7 (8 * b + i))) (by omega) (by omega) (by rw [quI_k (by omega)]; exact h13)
    refine ⟨Z, ?_, fun k j hk => by rw [z2 k j hk, quI_k (by omega)], z3, fun j => ?_⟩
    · show fX12_begin_L30b n 0 _ (nI i) S = some Z
      simp (disch := (first | assumption | omega | exact hB _ _ | exact hYB _ _ | (simp only [yc, yd, sh, sv, ne_eq]; omega) | (simp (disch := omega) only [↓nm_1, ↓nm_2, nI_add, pk_mul, pk_sub, Nat.add_sub_cancel, qm1_add, qm2_add, nI_clamp, ni_0, ni_1, ni_8, i6, h13, z1]; refine qin_nI ?_ ?_ <;> first | omega | exact hB _ _ | exact hYB _ _) | (refine qin_nI ?_ ?_ <;> omega) | fail)) only [↓km0_gd, ↓km0_gI, ↓km0_gM, ↓km0_pI, ↓km0_pM, ↓km0_pZ, ↓km0_gL, ↓km0_pL, ↓km0_gF19, ↓km0_gF56, ↓km7_al, ↓km7_as, ↓km7_ln, ↓km36_al, ↓km36_as, ↓km36_ln, ↓qb_so, ↓nm_1, ↓nm_2, ↓reduceIte, if_true, if_false, not_true_eq_false, not_false_eq_true, and_true, true_and, and_false, false_and, or_true, true_or, or_false, false_or, eq_self, ne_eq, quI_s, quI_n, quI2, quL1, quL2, quL3, quR1, quR2, quR3, nI_add, pk_mul, pk_sub, Nat.add_sub_cancel, qm1_add, qm2_add, nI_leI, nI_ltI, nI_eq, nI_m1, nI_m1', nI_clamp, nI_bit, nI_one_shl, nI_m1l, nI_m1lt, nI_m1lt', nI_m1le', oI_some, oI_none, ni_0, ni_1, ni_8, fX12_begin_L30b, qle_t, qle_f, qlt_t, qlt_f, qeq_t, qeq_f, i6, h13, z1]
    · rw [z4 j, quI_k (by omega), quI_s]
      by_cases h1 : i + 1 ≤ j ∧ j < 8
      · rw [if_pos h1, if_pos (by omega)]
      · rw [if_neg h1]
        by_cases h2 : j = i
        · rw [if_pos h2, if_pos (by omega), h2]
        · rw [if_neg h2, if_neg (by omega)]
theorem m_bg2 (hb : b < 2) : ∀ (k i q : Nat) (S : xSt), i + k = 48 → k < q → S.1 0 13 = nI b → ∃ Z, fX12_begin_L64 n 0 q (nI i) S = some Z ∧ (∀ k j, k ≠ 39 → Z.1 k j = S.1 k j) ∧ Z.2 = S.2 ∧ (∀ j, Z.1 39 j = if i ≤ j ∧ j < 48 then S.1 9 (48 * b + j) else S.1 39 j)
  | 0, i, q, S, hi, hq, h13 => by
    obtain ⟨q, rfl⟩ : ∃ q', q = q' + 1 := ⟨q - 1, by omega⟩
    have hi6 : i = 48 := by omega
    subst hi6
    refine ⟨S, ?_, fun _ _ _ => rfl, rfl, fun j => by rw [if_neg (by omega)]⟩
    show fX12_begin_L64b n 0 _ (nI 48) S = some S
    simp (disch := (first | assumption | omega | exact hB _ _ | exact hYB _ _ | (simp only [yc, yd, sh, sv, ne_eq]; omega) | (simp (disch := omega) only [↓nm_1, ↓nm_2, nI_add, pk_mul, pk_sub, Nat.add_sub_cancel, qm1_add, qm2_add, nI_clamp, ni_0, ni_1, ni_48]; refine qin_nI ?_ ?_ <;> first | omega | exact hB _ _ | exact hYB _ _) | (refine qin_nI ?_ ?_ <;> omega) | fail)) only [↓km0_gd, ↓km0_gI, ↓km0_gM, ↓km0_pI, ↓km0_pM, ↓km0_pZ, ↓km0_gL, ↓km0_pL, ↓km0_gF21, ↓km0_gF59, ↓km9_al, ↓km9_as, ↓km9_ln, ↓km39_al, ↓km39_as, ↓km39_ln, ↓qb_so, ↓nm_1, ↓nm_2, ↓reduceIte, if_true, if_false, not_true_eq_false, not_false_eq_true, and_true, true_and, and_false, false_and, or_true, true_or, or_false, false_or, eq_self, ne_eq, quI_s, quI_n, quI2, quL1, quL2, quL3, quR1, quR2, quR3, nI_add, pk_mul, pk_sub, Nat.add_sub_cancel, qm1_add, qm2_add, nI_leI, nI_ltI, nI_eq, nI_m1, nI_m1', nI_clamp, nI_bit, nI_one_shl, nI_m1l, nI_m1lt, nI_m1lt', nI_m1le', oI_some, oI_none, ni_0, ni_1, ni_48, fX12_begin_L64b, qle_t, qle_f, qlt_t, qlt_f, qeq_t, qeq_f]
  | k + 1, i, q, S, hi, hq, h13 => by
    obtain ⟨q, rfl⟩ : ∃ q', q = q' + 1 := ⟨q - 1, by omega⟩
    have i6 : ¬ 48 ≤ i := by omega
    have i6' : i < 48 := by omega
    obtain ⟨Z, z1, z2, z3, z4⟩ := m_bg2 hb k (i + 1) q (xuI S 39 i (S.1 9 (48 * b + i))) (by omega) (by omega) (by rw [quI_k (by omega)]; exact h13)
    refine ⟨Z, ?_, fun k j hk => by rw [z2 k j hk, quI_k (by omega)], z3, fun j => ?_⟩
    · show fX12_begin_L64b n 0 _ (nI i) S = some Z
      simp (disch := (first | assumption | omega | exact hB _ _ | exact hYB _ _ | (simp only [yc, yd, sh, sv, ne_eq]; omega) | (simp (disch := omega) only [↓nm_1, ↓nm_2, nI_add, pk_mul, pk_sub, Nat.add_sub_cancel, qm1_add, qm2_add, nI_clamp, ni_0, ni_1, ni_48, i6, h13, z1]; refine qin_nI ?_ ?_ <;> first | omega | exact hB _ _ | exact hYB _ _) | (refine qin_nI ?_ ?_ <;> omega) | fail)) only [↓km0_gd, ↓km0_gI, ↓km0_gM, ↓km0_pI, ↓km0_pM, ↓km0_pZ, ↓km0_gL, ↓km0_pL, ↓km0_gF21, ↓km0_gF59, ↓km9_al, ↓km9_as, ↓km9_ln, ↓km39_al, ↓km39_as, ↓km39_ln, ↓qb_so, ↓nm_1, ↓nm_2, ↓reduceIte, if_true, if_false, not_true_eq_false, not_false_eq_true, and_true, true_and, and_false, false_and, or_true, true_or, or_false, false_or, eq_self, ne_eq, quI_s, quI_n, quI2, quL1, quL2, quL3, quR1, quR2, quR3, nI_add, pk_mul, pk_sub, Nat.add_sub_cancel, qm1_add, qm2_add, nI_leI, nI_ltI, nI_eq, nI_m1, nI_m1', nI_clamp, nI_bit, nI_one_shl, nI_m1l, nI_m1lt, nI_m1lt', nI_m1le', oI_some, oI_none, ni_0, ni_1, ni_48, fX12_begin_L64b, qle_t, qle_f, qlt_t, qlt_f, qeq_t, qeq_f, i6, h13, z1]
    · rw [z4 j, quI_k (by omega), quI_s]
      by_cases h1 : i + 1 ≤ j ∧ j < 48
      · rw [if_pos h1, if_pos (by omega)]
      · rw [if_neg h1]
        by_cases h2 : j = i
        · rw [if_pos h2, if_pos (by omega), h2]
        · rw [if_neg h2, if_neg (by omega)]
theorem m_bg3 (hb : b < 2) : ∀ (k i q : Nat) (S : xSt), i + k = 6 → k < q → S.1 0 13 = nI b → ∃ Z, fX12_begin_L98 n 0 q (nI i) S = some Z ∧ (∀ k j, k ≠ 40 → k ≠ 41 → Z.1 k j = S.1 k j) ∧ Z.2 = S.2 ∧ (∀ j, Z.1 40 j = if i ≤ j ∧ j < 6 then nI 0 else S.1 40 j) ∧ (∀ j, Z.1 41 j = if i ≤ j ∧ j < 6 then S.1 11 (6 * b + j) else S.1 41 j)
  | 0, i, q, S, hi, hq, h13 => by
    obtain ⟨q, rfl⟩ : ∃ q', q = q' + 1 := ⟨q - 1, by omega⟩
    have hi6 : i = 6 := by omega
    subst hi6
    refine ⟨S, ?_, fun _ _ _ _ => rfl, rfl, fun j => by rw [if_neg (by omega)], fun j => by rw [if_neg (by omega)]⟩
    show fX12_begin_L98b n 0 _ (nI 6) S = some S
    simp (disch := (first | assumption | omega | exact hB _ _ | exact hYB _ _ | (simp only [yc, yd, sh, sv, ne_eq]; omega) | (simp (disch := omega) only [↓nm_1, ↓nm_2, nI_add, pk_mul, pk_sub, Nat.add_sub_cancel, qm1_add, qm2_add, nI_clamp, ni_0, ni_1, ni_6]; refine qin_nI ?_ ?_ <;> first | omega | exact hB _ _ | exact hYB _ _) | (refine qin_nI ?_ ?_ <;> omega) | fail)) only [↓km0_gd, ↓km0_gI, ↓km0_gM, ↓km0_pI, ↓km0_pM, ↓km0_pZ, ↓km0_gL, ↓km0_pL, ↓km0_gF23, ↓km0_gF60, ↓km0_gF61, ↓km11_al, ↓km11_as, ↓km11_ln, ↓km40_al, ↓km40_as, ↓km40_ln, ↓km41_al, ↓km41_as, ↓km41_ln, ↓qb_so, ↓nm_1, ↓nm_2, ↓reduceIte, if_true, if_false, not_true_eq_false, not_false_eq_true, and_true, true_and, and_false, false_and, or_true, true_or, or_false, false_or, eq_self, ne_eq, quI_s, quI_n, quI2, quL1, quL2, quL3, quR1, quR2, quR3, nI_add, pk_mul, pk_sub, Nat.add_sub_cancel, qm1_add, qm2_add, nI_leI, nI_ltI, nI_eq, nI_m1, nI_m1', nI_clamp, nI_bit, nI_one_shl, nI_m1l, nI_m1lt, nI_m1lt', nI_m1le', oI_some, oI_none, ni_0, ni_1, ni_6, fX12_begin_L98b, qle_t, qle_f, qlt_t, qlt_f, qeq_t, qeq_f]
  | k + 1, i, q, S, hi, hq, h13 => by
    obtain ⟨q, rfl⟩ : ∃ q', q = q' + 1 := ⟨q - 1, by omega⟩
    have i6 : ¬ 6 ≤ i := by omega
    have i6' : i < 6 := by omega
    obtain ⟨Z, z1, z2, z3, z4, z5⟩ := m_bg3 hb k (i + 1) q (xuI (xuI S 40 i (nI 0)) 41 i (S.1 11 (6 * b + i))) (by omega) (by omega) (by rw [quI_k (by omega), quI_k (by omega)]; exact h13)
    refine ⟨Z, ?_, fun k j hk hk2 => by rw [z2 k j hk hk2, quI_k (by omega), quI_k (by omega)], z3, fun j => ?_, fun j => ?_⟩
    · show fX12_begin_L98b n 0 _ (nI i) S = some Z
      simp (disch := (first | assumption | omega | exact hB _ _ | exact hYB _ _ | (simp only [yc, yd, sh, sv, ne_eq]; omega) | (simp (disch := omega) only [↓nm_1, ↓nm_2, nI_add, pk_mul, pk_sub, Nat.add_sub_cancel, qm1_add, qm2_add, nI_clamp, ni_0, ni_1, ni_6, i6, h13, z1]; refine qin_nI ?_ ?_ <;> first | omega | exact hB _ _ | exact hYB _ _) | (refine qin_nI ?_ ?_ <;> omega) | fail)) only [↓km0_gd, ↓km0_gI, ↓km0_gM, ↓km0_pI, ↓km0_pM, ↓km0_pZ, ↓km0_gL, ↓km0_pL, ↓km0_gF23, ↓km0_gF60, ↓km0_gF61, ↓km11_al, ↓km11_as, ↓km11_ln, ↓km40_al, ↓km40_as, ↓km40_ln, ↓km41_al, ↓km41_as, ↓km41_ln, ↓qb_so, ↓nm_1, ↓nm_2, ↓reduceIte, if_true, if_false, not_true_eq_false, not_false_eq_true, and_true, true_and, and_false, false_and, or_true, true_or, or_false, false_or, eq_self, ne_eq, quI_s, quI_n, quI2, quL1, quL2, quL3, quR1, quR2, quR3, nI_add, pk_mul, pk_sub, Nat.add_sub_cancel, qm1_add, qm2_add, nI_leI, nI_ltI, nI_eq, nI_m1, nI_m1', nI_clamp, nI_bit, nI_one_shl, nI_m1l, nI_m1lt, nI_m1lt', nI_m1le', oI_some, oI_none, ni_0, ni_1, ni_6, fX12_begin_L98b, qle_t, qle_f, qlt_t, qlt_f, qeq_t, qeq_f, i6, h13, z1]
    · rw [z4 j, quI_k (by omega), quI_s]
      by_cases h1 : i + 1 ≤ j ∧ j < 6
      · rw [if_pos h1, if_pos (by omega)]
      · rw [if_neg h1]
        by_cases h2 : j = i
        · rw [if_pos h2, if_pos (by omega)]
        · rw [if_neg h2, if_neg (by omega)]
    · rw [z5 j, quI_k (by omega), quI_k (by omega), quI_s, quI_k (by omega)]
      by_cases h1 : i + 1 ≤ j ∧ j < 6
      · rw [if_pos h1, if_pos (by omega)]
      · rw [if_neg h1]
        by_cases h2 : j = i
        · rw [if_pos h2, if_pos (by omega), h2]
        · rw [if_neg h2, if_neg (by omega)]
end Q9zn

