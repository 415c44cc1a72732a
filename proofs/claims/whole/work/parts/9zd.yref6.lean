/-! ===== the reference reads statements: kinds ===== -/
section Q9zd
variable {S Z V W : xSt} {n L e m o b d t k a s w lo hi j r kd pl : Nat} {u : Option Nat} {f : Nat → Nat} {cc mc wc : List (Nat × Nat)} {Y Y' : Nat → Nat → Nat} {F : Option xSt} {R : YS}
theorem mN_gi (h : mN Z b Y) (hs : s < 4) (h7 : Y 2 s ≤ 7) (h8 : ∀ s, s < 4 → Y 2 s ≤ 8) (hx : Z.2.1 (23 + s) (s_cap s * b + Y 2 s) = lN (s_long w)) : mN Z b (s_gi Y s w) := by
  intro t i ht hi
  by_cases hts : t = s
  · subst hts
    have h2 : s_gi Y t w 2 t = Y 2 t + 1 := by unfold s_gi; rw [dU_s]
    rw [h2] at hi
    by_cases hix : i = Y 2 t
    · subst hix
      rw [hx]
      unfold s_gi
      rw [dU_c (by decide), dU_s]
    · have : s_gi Y t w 1 (8 * t + i) = Y 1 (8 * t + i) := by unfold s_gi; rw [dU_c (by decide), dU_j (by omega)]
      rw [this]
      exact h t i ht (by omega)
  · rw [s_gi_2 hts] at hi
    have := h8 t ht
    have h1 : s_gi Y s w 1 (8 * t + i) = Y 1 (8 * t + i) := by unfold s_gi; rw [dU_c (by decide), dU_j (by omega)]
    rw [h1]
    exact h t i ht hi
theorem y88 (h : yrOk Y) : ∀ s, s < 4 → Y 2 s ≤ 8 := fun s hs => by
  obtain ⟨a0, a1, a2, a3⟩ := h.1
  rcases (by omega : s = 0 ∨ s = 1 ∨ s = 2 ∨ s = 3) with rfl | rfl | rfl | rfl <;> omega
/-- zeros where a new kind's row and column are -/
theorem m_kdT {K : Nat} {v x : Int32} (hn : 2000 ≤ n) (hb : b < 2) (hK : K < 6) (h40 : S.1 0 40 = nI b) (h2 : S.1 2 b = nI K) : ∃ Z, fX12_kinding_L84 n 0 (nI (6 * b + K)) n (nI 0) (xuI (xuI S 4 (6 * b + K) v) 3 (6 * b + K) x) = some Z ∧ frG b S Z ∧ (∀ k j, k ≠ 15 → k ≠ 3 → k ≠ 4 → Z.1 k j = S.1 k j) ∧ Z.2 = S.2 ∧ (∀ j, j ≠ 6 * b + K → Z.1 3 j = S.1 3 j ∧ Z.1 4 j = S.1 4 j) ∧ Z.1 3 (6 * b + K) = x ∧ Z.1 4 (6 * b + K) = v ∧ (∀ j, (∀ o, o < 6 → j ≠ 6 * (6 * b + K) + o ∧ j ≠ 6 * (6 * b + o) + K) → Z.1 15 j = S.1 15 j) ∧ (∀ o, o < 6 → Z.1 15 (6 * (6 * b + K) + o) = nI 0 ∧ Z.1 15 (6 * (6 * b + o) + K) = nI 0) := by
  obtain ⟨Z, z1, z2, z3, z4, z5, z6, z7⟩ := m_kdL (n := n) hb hK 6 0 n (xuI (xuI S 4 (6 * b + K) v) 3 (6 * b + K) x) (by decide) (by omega) (by rw [quI_k (by omega), quI_k (by omega)]; exact h40) (by rw [quI_k (by omega), quI_k (by omega)]; exact h2)
  refine ⟨Z, z1, ?_, fun k j g1 g2 g3 => by rw [z2 k j g1, quI_k (by omega), quI_k (by omega)], z3, fun j hj => ⟨?_, ?_⟩, ?_, ?_, fun j hj => ?_, fun o ho => z6 o (by omega) ho⟩
  · refine frG_trans (frG_up (k := 4) (j := 6 * b + K) (x := v) (by decide) (inb_ok (a := 6) rfl (by omega) (by omega))) (frG_trans (frG_up (k := 3) (j := 6 * b + K) (x := x) (by decide) (inb_ok (a := 6) rfl (by omega) (by omega))) ⟨fun k j g1 g2 g3 => ?_, fun k j _ _ => by rw [z3], by rw [z3]⟩)
    by_cases hk : k = 15
    · subst hk
      exact z4 j (fun hh => g3 ⟨by decide, by decide, hh⟩)
    · exact z2 k j hk
  · rw [z2 3 j (by decide), quI_k (by omega), quI_k (by omega)]
  · rw [z2 4 j (by decide), quI_k (by omega), quI_k (by omega)]
  · rw [z2 3 _ (by decide), quI_e]
  · rw [z2 4 _ (by decide), quI_k (by omega), quI_e]
  · rw [z5 j hj, quI_k (by omega), quI_k (by omega)]
theorem kd_fin (hb : b < 2) (hY : yrOk Y) (hN : yJn Y) (hf : Y 2 0 < 6) (h : mkM Z b f L e Y cc) (h3 : Z.1 3 (6 * b + Y 2 0) = nI d) (h4 : Z.1 4 (6 * b + Y 2 0) = nI r) (h15 : ∀ o, o < 6 → Z.1 15 (6 * (6 * b + Y 2 0) + o) = nI 0 ∧ Z.1 15 (6 * (6 * b + o) + Y 2 0) = nI 0) (hx : Z.2.1 23 (6 * b + Y 2 0) = lN (s_long w)) : mkM (xuI Z 2 b (nI (Y 2 0 + 1))) b f L e (dU (dU (s_gi Y 0 w) 3 (Y 2 0) d) 4 (Y 2 0) r) cc := by
  obtain ⟨i0, i1, i2, i3, i4, i5, i6, i7, i10⟩ := h.2.2.2.2.2.2.2.1
  refine mkM_of h (tkM_same h.1 (fun k j hk => quI_k (by omega)) rfl) (Nat.le_refl _) h.2.1 (fun j hj => quI_k (by omega)) (fun k j x y => quI_k (by omega)) ?_ ?_
  · refine ⟨⟨quI_e, i0.2.1, i0.2.2.1, i0.2.2.2⟩, fun k hk => ?_, i2, i3, i4, fun a c ha hc => ?_, i6, i7, ?_⟩
    · have hk' : k < Y 2 0 + 1 := hk
      show Z.1 3 (6 * b + k) = _ ∧ Z.1 4 (6 * b + k) = _
      by_cases hx : k = Y 2 0
      · subst hx
        rw [dU_c (by decide), dU_s, dU_s]
        exact ⟨h3, h4⟩
      · rw [dU_c (by decide), dU_j hx, s_gi_c (by decide) (by decide), dU_j hx, dU_c (by decide), s_gi_c (by decide) (by decide)]
        exact i1 k (by omega)
    · have ha' : a < Y 2 0 + 1 := ha
      have hc' : c < Y 2 0 + 1 := hc
      show Z.1 15 (6 * (6 * b + a) + c) = nI (Y 12 (6 * a + c))
      by_cases hax : a = Y 2 0
      · subst hax
        rw [(h15 c (by omega)).1, hN.1 _ c (by omega) (by omega) (Or.inl (Nat.le_refl _))]
      · by_cases hcx : c = Y 2 0
        · subst hcx
          rw [(h15 a (by omega)).2, hN.1 a _ (by omega) (by omega) (Or.inr (Nat.le_refl _))]
        · exact i5 a c (by omega) (by omega)
    · exact mN_gi (Z := Z) i10 (by decide) (by omega) (y88 hY) hx
  · funext x; rw [dU_c (by decide), dU_c (by decide), s_gi_c (by decide) (by decide)]
theorem m_kind (hn : 2000 ≤ n) (hb : b < 2) (hY : yrOk Y) (hN : yJn Y) (h : mkM S b f L e Y cc) : mSo S b f L cc (zKind f L Y e) (fX12_kinding n 0 S) := by
  have s40 := h.2.2.2.1
  have s2 := h.2.2.2.2.2.2.2.1.1.1
  obtain ⟨c0, c1, c2, c3⟩ := hY.1
  have hke := kE_from (f := f) h.2.1
  rw [zKind_R]
  unfold tO
  by_cases hf : 6 ≤ Y 2 0
  · rw [if_pos hf]
    have a1 := (mt_C (x := 1) hn h.2.1 h.1 h.2.2.1 (by decide)).1 rfl
    have hf6 : Y 2 0 = 6 := by omega
    rw [hf6] at s2
    refine ⟨flR S 6 (kS f L e), ?_, ⟨by decide, by decide⟩, flR_8, flR_9, frG_fl⟩
    simp (disch := (first | assumption | omega | exact hB _ _ | exact hYB _ _ | (simp only [yc, yd, sh, sv, ne_eq]; omega) | (simp (disch := omega) only [↓nm_1, ↓nm_2, nI_add, pk_mul, pk_sub, Nat.add_sub_cancel, qm1_add, qm2_add, nI_clamp, ni_0, ni_1, ni_6, s40, s2, a1]; refine qin_nI ?_ ?_ <;> first | omega | exact hB _ _ | exact hYB _ _) | (refine qin_nI ?_ ?_ <;> omega) | fail)) only [↓km0_gd, ↓km0_gI, ↓km0_gM, ↓km0_pI, ↓km0_pM, ↓km0_pZ, ↓km0_gL, ↓km0_pL, ↓km0_gF14, ↓km0_gF15, ↓km0_gF16, ↓km0_gF35, ↓km2_al, ↓km2_as, ↓km2_ln, ↓km3_al, ↓km3_as, ↓km3_ln, ↓km4_al, ↓km4_as, ↓km4_ln, ↓km23_ll, ↓km23_ls, ↓qb_so, ↓nm_1, ↓nm_2, ↓reduceIte, if_true, if_false, not_true_eq_false, not_false_eq_true, and_true, true_and, and_false, false_and, or_true, true_or, or_false, false_or, eq_self, ne_eq, quI_s, quI_n, quI2, quL1, quL2, quL3, quR1, quR2, quR3, nI_add, pk_mul, pk_sub, Nat.add_sub_cancel, qm1_add, qm2_add, nI_leI, nI_ltI, nI_eq, nI_m1, nI_m1', nI_clamp, nI_bit, nI_one_shl, nI_m1l, nI_m1lt, nI_m1lt', nI_m1le', oI_some, oI_none, ni_0, ni_1, ni_6, fX12_kinding, fX12_kinding_B20, qle_t, qle_f, qlt_t, qlt_f, qeq_t, qeq_f, s40, s2, a1]
  rw [if_neg hf]
  have hf' : Y 2 0 < 6 := by omega
  have hf6 : ¬ Y 2 0 = 6 := by omega
  obtain ⟨A, a1, a2, a3⟩ := (mt_C (x := 0) hn h.2.1 h.1 h.2.2.1 (by decide)).2 rfl
  have hA := mkM_M h hY a2 hke.1 hke.2 a3
  have A40 := hA.2.2.2.1
  have A2 := hA.2.2.2.2.2.2.2.1.1.1
  refine mSo_pre (frG_M a3) ?_
  show mSo A b f L cc (zB (tF f L Y (kE f L e)) _) _
  have b1 := mt_F hn hb hY hN A40 hA.2.2.2.2.2.2.2.1 hke.2 a2 hA.2.2.1
  cases h1 : tF f L Y (kE f L e) with
  | inl x =>
    obtain ⟨kd, pl⟩ := x
    rw [h1] at b1
    obtain ⟨⟨k0, k1⟩, v, b2⟩ := b1
    have y8 : (xuL (flR A kd pl) 23 (6 * b + Y 2 0) v).1 0 8 = nI kd := flR_8 (S := A) (kd := kd) (pl := pl)
    have kn : ¬ kd = 0 := by omega
    have n0 := f_must_ (n := n) (x := 491328337011) y8 k0 k1
    have n1 := f_round (n := n) y8 k0 k1
    have q40 : (xuI (xuL (flR A kd pl) 23 (6 * b + Y 2 0) v) 0 52 (nI 0)).1 0 40 = nI b := by rw [quI_k (by omega)]; show (flR A kd pl).1 0 40 = _; rw [flR_k (by omega)]; exact A40
    have q2 : (xuI (xuL (flR A kd pl) 23 (6 * b + Y 2 0) v) 0 52 (nI 0)).1 2 b = nI (Y 2 0) := by rw [quI_k (by omega)]; show (flR A kd pl).1 2 b = _; rw [flR_k (by omega)]; exact A2
    obtain ⟨Z, z1, z2, z3, z4, z5, z6, z7, z8, z9⟩ := m_kdT (v := nI 0) (x := nI 0) hn hb hf' q40 q2
    have Z8 : Z.1 0 8 = nI kd := by rw [z3 _ _ (by decide) (by decide) (by decide), quI_k (by omega)]; exact y8
    have Z9 : Z.1 0 9 = nI pl := by rw [z3 _ _ (by decide) (by decide) (by decide), quI_k (by omega)]; exact flR_9 (S := A) (kd := kd) (pl := pl)
    refine ⟨Z, ?_, ⟨k0, k1⟩, Z8, Z9, frG_trans frG_fl (frG_trans (frG_upL (by decide) (inb_ok (a := 6) rfl (by omega) (by omega))) (frG_trans (frG_0 (by decide)) z2))⟩
    simp (disch := (first | assumption | omega | exact hB _ _ | exact hYB _ _ | (simp only [yc, yd, sh, sv, ne_eq]; omega) | (simp (disch := omega) only [↓nm_1, ↓nm_2, nI_add, pk_mul, pk_sub, Nat.add_sub_cancel, qm1_add, qm2_add, nI_clamp, ni_0, ni_1, ni_6, s40, s2, hf6, a1, A40, A2, b2, n0, n1, z1, Z8, kn]; refine qin_nI ?_ ?_ <;> first | omega | exact hB _ _ | exact hYB _ _) | (refine qin_nI ?_ ?_ <;> omega) | fail)) only [↓km0_gd, ↓km0_gI, ↓km0_gM, ↓km0_pI, ↓km0_pM, ↓km0_pZ, ↓km0_gL, ↓km0_pL, ↓km0_gF14, ↓km0_gF15, ↓km0_gF16, ↓km0_gF35, ↓km2_al, ↓km2_as, ↓km2_ln, ↓km3_al, ↓km3_as, ↓km3_ln, ↓km4_al, ↓km4_as, ↓km4_ln, ↓km23_ll, ↓km23_ls, ↓qb_so, ↓nm_1, ↓nm_2, ↓reduceIte, if_true, if_false, not_true_eq_false, not_false_eq_true, and_true, true_and, and_false, false_and, or_true, true_or, or_false, false_or, eq_self, ne_eq, quI_s, quI_n, quI2, quL1, quL2, quL3, quR1, quR2, quR3, nI_add, pk_mul, pk_sub, Nat.add_sub_cancel, qm1_add, qm2_add, nI_leI, nI_ltI, nI_eq, nI_m1, nI_m1', nI_clamp, nI_bit, nI_one_shl, nI_m1l, nI_m1lt, nI_m1lt', nI_m1le', oI_some, oI_none, ni_0, ni_1, ni_6, fX12_kinding, fX12_kinding_B20, qle_t, qle_f, qlt_t, qlt_f, qeq_t, qeq_f, s40, s2, hf6, a1, A40, A2, b2, n0, n1, z1, Z8, kn]
  | inr x =>
    obtain ⟨w, e1⟩ := x
    rw [h1] at b1
    obtain ⟨B, b2, b3, b4, b5, b6⟩ := b1
    have hB0 := mkM_M hA hY b3 b5 b4 b6
    have hB : mkM (xuL B 23 (6 * b + Y 2 0) (lN (s_long w))) b f L e1 Y cc := mkM_nm (s := 0) hB0 hY (by decide)
    have hx : (xuL B 23 (6 * b + Y 2 0) (lN (s_long w))).2.1 23 (6 * b + Y 2 0) = lN (s_long w) := by unfold xuL; simp only [if_true]
    refine mSo_pre (frG_trans (frG_M b6) (frG_upL (k := 23) (j := 6 * b + Y 2 0) (x := lN (s_long w)) (by decide) (inb_ok (a := 6) rfl (by omega) (by omega)))) ?_
    revert hB hx
    generalize hC : xuL B 23 (6 * b + Y 2 0) (lN (s_long w)) = C
    intro hB hx
    have g1 := mt_W (k := 1) hn hB.2.1 hB.1 hB.2.2.1 (by decide)
    show mSo C b f L cc (zB (tW f L 1 e1) fun e => zB (tR f L e) fun x => .inr (x.2.2, dU (dU (s_gi Y 0 w) 3 (Y 2 0) x.1) 4 (Y 2 0) x.2.1)) _
    cases h2 : tW f L 1 e1 with
    | inl x =>
      obtain ⟨kd, pl⟩ := x
      rw [h2] at g1
      obtain ⟨⟨k0, k1⟩, g2⟩ := g1
      have g2' : fX12_must_ n 0 (491328337011 : Int64) C = some (flR C kd pl) := g2
      have y8 : (flR C kd pl).1 0 8 = nI kd := flR_8
      have kn : ¬ kd = 0 := by omega
      have n1 := f_round (n := n) y8 k0 k1
      have q40 : (xuI (flR C kd pl) 0 52 (nI 0)).1 0 40 = nI b := by rw [quI_k (by omega), flR_k (by omega)]; exact hB.2.2.2.1
      have q2 : (xuI (flR C kd pl) 0 52 (nI 0)).1 2 b = nI (Y 2 0) := by rw [quI_k (by omega), flR_k (by omega)]; exact hB.2.2.2.2.2.2.2.1.1.1
      obtain ⟨Z, z1, z2, z3, z4, z5, z6, z7, z8, z9⟩ := m_kdT (v := nI 0) (x := nI 0) hn hb hf' q40 q2
      have Z8 : Z.1 0 8 = nI kd := by rw [z3 _ _ (by decide) (by decide) (by decide), quI_k (by omega)]; exact y8
      have Z9 : Z.1 0 9 = nI pl := by rw [z3 _ _ (by decide) (by decide) (by decide), quI_k (by omega)]; exact flR_9
      refine ⟨Z, ?_, ⟨k0, k1⟩, Z8, Z9, frG_trans frG_fl (frG_trans (frG_0 (by decide)) z2)⟩
      simp (disch := (first | assumption | omega | exact hB _ _ | exact hYB _ _ | (simp only [yc, yd, sh, sv, ne_eq]; omega) | (simp (disch := omega) only [↓nm_1, ↓nm_2, nI_add, pk_mul, pk_sub, Nat.add_sub_cancel, qm1_add, qm2_add, nI_clamp, ni_0, ni_1, ni_6, s40, s2, hf6, a1, A40, A2, b2, hC, g2', n1, z1, Z8, kn]; refine qin_nI ?_ ?_ <;> first | omega | exact hB _ _ | exact hYB _ _) | (refine qin_nI ?_ ?_ <;> omega) | fail)) only [↓km0_gd, ↓km0_gI, ↓km0_gM, ↓km0_pI, ↓km0_pM, ↓km0_pZ, ↓km0_gL, ↓km0_pL, ↓km0_gF14, ↓km0_gF15, ↓km0_gF16, ↓km0_gF35, ↓km2_al, ↓km2_as, ↓km2_ln, ↓km3_al, ↓km3_as, ↓km3_ln, ↓km4_al, ↓km4_as, ↓km4_ln, ↓km23_ll, ↓km23_ls, ↓qb_so, ↓nm_1, ↓nm_2, ↓reduceIte, if_true, if_false, not_true_eq_false, not_false_eq_true, and_true, true_and, and_false, false_and, or_true, true_or, or_false, false_or, eq_self, ne_eq, quI_s, quI_n, quI2, quL1, quL2, quL3, quR1, quR2, quR3, nI_add, pk_mul, pk_sub, Nat.add_sub_cancel, qm1_add, qm2_add, nI_leI, nI_ltI, nI_eq, nI_m1, nI_m1', nI_clamp, nI_bit, nI_one_shl, nI_m1l, nI_m1lt, nI_m1lt', nI_m1le', oI_some, oI_none, ni_0, ni_1, ni_6, fX12_kinding, fX12_kinding_B20, qle_t, qle_f, qlt_t, qlt_f, qeq_t, qeq_f, s40, s2, hf6, a1, A40, A2, b2, hC, g2', n1, z1, Z8, kn]
    | inr e2 =>
      rw [h2] at g1
      obtain ⟨D, g2, g3, g4, g5, g6⟩ := g1
      have g2' : fX12_must_ n 0 (491328337011 : Int64) C = some D := g2
      have hD := mkM_M hB hY g3 g5 g4 g6
      have hxD : D.2.1 23 (6 * b + Y 2 0) = lN (s_long w) := by rw [g6.2.1 _ _ (by omega)]; exact hx
      refine mSo_pre (frG_M g6) ?_
      have k1 := mt_R (b := b) hn g4 g3 hD.2.2.1
      show mSo D b f L cc (zB (tR f L e2) fun x => .inr (x.2.2, dU (dU (s_gi Y 0 w) 3 (Y 2 0) x.1) 4 (Y 2 0) x.2.1)) _
      cases h3 : tR f L e2 with
      | inl x =>
        obtain ⟨kd, pl⟩ := x
        rw [h3] at k1
        obtain ⟨⟨k0, k1'⟩, v, E, k2, k3, k4, k5, k6, k7⟩ := k1
        have kn : ¬ kd = 0 := by omega
        have q40 : E.1 0 40 = nI b := by rw [k5 _ _ (by omega)]; exact hD.2.2.2.1
        have q2 : E.1 2 b = nI (Y 2 0) := by rw [k5 _ _ (by omega)]; exact hD.2.2.2.2.2.2.2.1.1.1
        obtain ⟨Z, z1, z2, z3, z4, z5, z6, z7, z8, z9⟩ := m_kdT (v := v) (x := E.1 0 52) hn hb hf' q40 q2
        have Z8 : Z.1 0 8 = nI kd := by rw [z3 _ _ (by decide) (by decide) (by decide)]; exact k3
        have Z9 : Z.1 0 9 = nI pl := by rw [z3 _ _ (by decide) (by decide) (by decide)]; exact k4
        refine ⟨Z, ?_, ⟨k0, k1'⟩, Z8, Z9, frG_trans (frG_r k5 k6 k7) z2⟩
        simp (disch := (first | assumption | omega | exact hB _ _ | exact hYB _ _ | (simp only [yc, yd, sh, sv, ne_eq]; omega) | (simp (disch := omega) only [↓nm_1, ↓nm_2, nI_add, pk_mul, pk_sub, Nat.add_sub_cancel, qm1_add, qm2_add, nI_clamp, ni_0, ni_1, ni_6, s40, s2, hf6, a1, A40, A2, b2, hC, g2', k2, z1, Z8, kn]; refine qin_nI ?_ ?_ <;> first | omega | exact hB _ _ | exact hYB _ _) | (refine qin_nI ?_ ?_ <;> omega) | fail)) only [↓km0_gd, ↓km0_gI, ↓km0_gM, ↓km0_pI, ↓km0_pM, ↓km0_pZ, ↓km0_gL, ↓km0_pL, ↓km0_gF14, ↓km0_gF15, ↓km0_gF16, ↓km0_gF35, ↓km2_al, ↓km2_as, ↓km2_ln, ↓km3_al, ↓km3_as, ↓km3_ln, ↓km4_al, ↓km4_as, ↓km4_ln, ↓km23_ll, ↓km23_ls, ↓qb_so, ↓nm_1, ↓nm_2, ↓reduceIte, if_true, if_false, not_true_eq_false, not_false_eq_true, and_true, true_and, and_false, false_and, or_true, true_or, or_false, false_or, eq_self, ne_eq, quI_s, quI_n, quI2, quL1, quL2, quL3, quR1, quR2, quR3, nI_add, pk_mul, pk_sub, Nat.add_sub_cancel, qm1_add, qm2_add, nI_leI, nI_ltI, nI_eq, nI_m1, nI_m1', nI_clamp, nI_bit, nI_one_shl, nI_m1l, nI_m1lt, nI_m1lt', nI_m1le', oI_some, oI_none, ni_0, ni_1, ni_6, fX12_kinding, fX12_kinding_B20, qle_t, qle_f, qlt_t, qlt_f, qeq_t, qeq_f, s40, s2, hf6, a1, A40, A2, b2, hC, g2', k2, z1, Z8, kn]
      | inr x =>
        obtain ⟨d, r, e3⟩ := x
        rw [h3] at k1
        obtain ⟨E, k2, k52, k3, k4, k5, k6, k7, k8⟩ := k1
        have hE : mkM E b f L e3 Y cc := mkM_of hD k3 k5 k4 (fun j hj => k6 _ _ (by omega)) (fun k j x y => k6 _ _ (by omega)) (mI_eq hD.2.2.2.2.2.2.2.1 (fun j hj => (hY.2.2.2.2.2.1 j hj).2.1) (fun k j hk => k6 _ _ (by unfold vis at hk; omega)) (fun s i hs hi => k7 _ _ (by omega))) rfl
        obtain ⟨Z, z1, z2, z3, z4, z5, z6, z7, z8, z9⟩ := m_kdT (v := nI r) (x := nI d) hn hb hf' hE.2.2.2.1 hE.2.2.2.2.2.2.2.1.1.1
        have hZ : mkM Z b f L e3 Y cc := mkM_of hE (tkM_same hE.1 (fun k j hk => z3 k j (by omega) (by omega) (by omega)) (by rw [z4])) (Nat.le_refl _) hE.2.1 (fun j hj => z3 _ _ (by decide) (by decide) (by decide)) (fun k j x y => z3 _ _ (by omega) (by omega) (by omega)) (mI_eq hE.2.2.2.2.2.2.2.1 (fun j hj => (hY.2.2.2.2.2.1 j hj).2.1) (fun k j hk => by
          by_cases h15 : k = 15
          · subst h15
            refine z8 j (fun o ho => ?_)
            unfold vis at hk
            rcases hk with hk | hk | hk | hk | hk | hk | hk | hk
            · omega
            · omega
            · omega
            · omega
            · omega
            · omega
            · obtain ⟨_, a, c, ha, hc, hj⟩ := hk
              omega
            · omega
          · by_cases h34 : k = 3 ∨ k = 4
            · have hj : j ≠ 6 * b + Y 2 0 := by unfold vis at hk; omega
              rcases h34 with rfl | rfl
              · exact (z5 j hj).1
              · exact (z5 j hj).2
            · exact z3 k j h15 (by omega) (by omega)) (fun s i hs hi => by rw [z4])) rfl
        have Z8 := hZ.2.2.1
        have Z40 := hZ.2.2.2.1
        have Z2 := hZ.2.2.2.2.2.2.2.1.1.1
        refine ⟨xuI Z 2 b (nI (Y 2 0 + 1)), ?_, kd_fin hb hY hN hf' hZ z6 z7 z9 (by rw [z4, k7 _ _ (by omega)]; exact hxD), frG_trans (frG_r (fun k j hk => k6 k j (by omega)) k7 k8) (frG_trans z2 (frG_up (by decide) (inb_ok (a := 1) rfl (by omega) (by omega))))⟩
        simp (disch := (first | assumption | omega | exact hB _ _ | exact hYB _ _ | (simp only [yc, yd, sh, sv, ne_eq]; omega) | (simp (disch := omega) only [↓nm_1, ↓nm_2, nI_add, pk_mul, pk_sub, Nat.add_sub_cancel, qm1_add, qm2_add, nI_clamp, ni_0, ni_1, ni_6, s40, s2, hf6, a1, A40, A2, b2, hC, g2', k2, k52, z1, Z8, Z40, Z2]; refine qin_nI ?_ ?_ <;> first | omega | exact hB _ _ | exact hYB _ _) | (refine qin_nI ?_ ?_ <;> omega) | fail)) only [↓km0_gd, ↓km0_gI, ↓km0_gM, ↓km0_pI, ↓km0_pM, ↓km0_pZ, ↓km0_gL, ↓km0_pL, ↓km0_gF14, ↓km0_gF15, ↓km0_gF16, ↓km0_gF35, ↓km2_al, ↓km2_as, ↓km2_ln, ↓km3_al, ↓km3_as, ↓km3_ln, ↓km4_al, ↓km4_as, ↓km4_ln, ↓km23_ll, ↓km23_ls, ↓qb_so, ↓nm_1, ↓nm_2, ↓reduceIte, if_true, if_false, not_true_eq_false, not_false_eq_true, and_true, true_and, and_false, false_and, or_true, true_or, or_false, false_or, eq_self, ne_eq, quI_s, quI_n, quI2, quL1, quL2, quL3, quR1, quR2, quR3, nI_add, pk_mul, pk_sub, Nat.add_sub_cancel, qm1_add, qm2_add, nI_leI, nI_ltI, nI_eq, nI_m1, nI_m1', nI_clamp, nI_bit, nI_one_shl, nI_m1l, nI_m1lt, nI_m1lt', nI_m1le', oI_some, oI_none, ni_0, ni_1, ni_6, fX12_kinding, fX12_kinding_B20, qle_t, qle_f, qlt_t, qlt_f, qeq_t, qeq_f, s40, s2, hf6, a1, A40, A2, b2, hC, g2', k2, k52, z1, Z8, Z40, Z2]
end Q9zd

