/-! ===== year ===== -/
section Q9zp
variable {S Z V W : xSt} {n L e m o b d t k a s w lo hi j r kd pl c : Nat} {f : Nat → Nat} {cc mc wc mc' wc' : List (Nat × Nat)} {Y Y' D : Nat → Nat → Nat} {P : Nat → Nat → Nat → Nat} {G : Nat → Nat → Nat}
/-- the reference begins to read -/
theorem m_y0 (hn : 2000 ≤ n) (hb : b < 2) (h13 : S.1 0 13 = nI b) (ht : ∀ i, i < 1600 → S.1 1 i = nI (f i)) (hf : ∀ i, f i < 256) (hL : L ≤ 1600) (h1 : S.1 0 1 = nI L) :
    ∃ Z, fX12_year n 0 S = (fX12_year_L123 n 0 n (nI 0) Z).bind (fun z38 => fX12_year_B152 n 0 z38.1 z38.2) ∧ mkM Z (1 - b) f L 0 (s_clr Y) [] ∧ frG (1 - b) (xuI S 0 1 (nI 0)) Z := by
  have b2 : 1 - b < 2 := by omega
  have e40 : nI 1 - nI b = nI (1 - b) := by
    rcases (by omega : b = 0 ∨ b = 1) with rfl | rfl <;> rfl
  generalize hb' : 1 - b = c at *
  generalize hA : xuI (xuI (xuI (xuI (xuI (xuI (xuI (xuI (xuI (xuI (xuI (xuI (xuI (xuI (xuI (xuI (xuI (xuI S 0 2 (nI L)) 0 1 (nI 0)) 0 5 (nI 0)) 0 8 (nI 0)) 0 9 qm1) 0 40 (nI c)) 2 c (nI 0)) 5 c (nI 0)) 8 c (nI 0)) 10 c (nI 0)) 18 (3 * c) (nI 100)) 18 (3 * c + 1) (nI 5)) 18 (3 * c + 2) (nI 0)) 16 c (nI 0)) 17 c (nI 9)) 19 (2 * c) qm1) 19 (2 * c + 1) qm1) 0 39 (nI 0) = A
  have kk : ∀ k j, ¬ (k = 0 ∧ (j = 1 ∨ j = 2 ∨ j = 5 ∨ j = 8 ∨ j = 9 ∨ j = 39 ∨ j = 40)) → ¬ ((k = 2 ∨ k = 5 ∨ k = 8 ∨ k = 10 ∨ k = 16 ∨ k = 17) ∧ j = c) → ¬ (k = 18 ∧ 3 * c ≤ j ∧ j ≤ 3 * c + 2) → ¬ (k = 19 ∧ 2 * c ≤ j ∧ j ≤ 2 * c + 1) → A.1 k j = S.1 k j := fun k j g1 g2 g3 g4 => by
    rw [← hA]
    repeat rw [quI_k (by omega)]
  have A2 : A.2 = S.2 := by rw [← hA]; rfl
  have z1 : A.1 0 1 = nI 0 := by
    rw [← hA]
    repeat rw [quI_k (by omega)]
    rw [quI_e]
  have z2 : A.1 0 2 = nI L := by
    rw [← hA]
    repeat rw [quI_k (by omega)]
    rw [quI_e]
  have z5 : A.1 0 5 = nI 0 := by
    rw [← hA]
    repeat rw [quI_k (by omega)]
    rw [quI_e]
  have z8 : A.1 0 8 = nI 0 := by
    rw [← hA]
    repeat rw [quI_k (by omega)]
    rw [quI_e]
  have z9 : A.1 0 9 = qm1 := by
    rw [← hA]
    repeat rw [quI_k (by omega)]
    rw [quI_e]
  have z40 : A.1 0 40 = nI c := by
    rw [← hA]
    repeat rw [quI_k (by omega)]
    rw [quI_e]
  have z39 : A.1 0 39 = nI 0 := by
    rw [← hA]
    rw [quI_e]
  have y2 : A.1 2 c = nI 0 := by
    rw [← hA]
    repeat rw [quI_k (by omega)]
    rw [quI_e]
  have y5 : A.1 5 c = nI 0 := by
    rw [← hA]
    repeat rw [quI_k (by omega)]
    rw [quI_e]
  have y8 : A.1 8 c = nI 0 := by
    rw [← hA]
    repeat rw [quI_k (by omega)]
    rw [quI_e]
  have y10 : A.1 10 c = nI 0 := by
    rw [← hA]
    repeat rw [quI_k (by omega)]
    rw [quI_e]
  have x0 : A.1 18 (3 * c) = nI 100 := by
    rw [← hA]
    repeat rw [quI_k (by omega)]
    rw [quI_e]
  have x1 : A.1 18 (3 * c + 1) = nI 5 := by
    rw [← hA]
    repeat rw [quI_k (by omega)]
    rw [quI_e]
  have x2 : A.1 18 (3 * c + 2) = nI 0 := by
    rw [← hA]
    repeat rw [quI_k (by omega)]
    rw [quI_e]
  have x16 : A.1 16 c = nI 0 := by
    rw [← hA]
    repeat rw [quI_k (by omega)]
    rw [quI_e]
  have x17 : A.1 17 c = nI 9 := by
    rw [← hA]
    repeat rw [quI_k (by omega)]
    rw [quI_e]
  have x19 : A.1 19 (2 * c) = qm1 := by
    rw [← hA]
    repeat rw [quI_k (by omega)]
    rw [quI_e]
  have x19' : A.1 19 (2 * c + 1) = qm1 := by
    rw [← hA]
    repeat rw [quI_k (by omega)]
    rw [quI_e]
  have htx : txM A f L := ⟨fun i hi => by rw [kk _ _ (by omega) (by omega) (by omega) (by omega)]; exact ht i hi, z2, hL, hf, z9⟩
  obtain ⟨Z, w1, w2, w3⟩ := m_ahead (a := 0) hn htx z5 (by omega)
  have zk : ∀ k j, ¬ (k = 0 ∧ ((3 ≤ j ∧ j ≤ 6) ∨ j = 12)) → Z.1 k j = A.1 k j := w3.1
  have cl2 : ∀ s, s < 4 → s_clr Y 2 s = 0 := fun s hs => by unfold s_clr; rw [if_pos (by omega)]
  refine ⟨Z, ?_, ⟨w2, by omega, by rw [zk _ _ (by omega)]; exact z8, by rw [zk _ _ (by omega)]; exact z40, by rw [zk _ _ (by omega)]; exact z39, trivial, by decide, ?_, ?_⟩, ?_⟩
  · have q1 : fX12_year n 0 S = (fX12_ahead n 0 A).bind fun S30 => (fX12_year_L123 n 0 n (nI 0) S30).bind fun z38 => fX12_year_B152 n 0 z38.1 z38.2 := by
      simp (maxSteps := 3000000) (disch := (first | assumption | omega | exact hB _ _ | exact hYB _ _ | (simp only [yc, yd, sh, sv, ne_eq]; omega) | (simp (disch := omega) only [↓nm_1, ↓nm_2, nI_add, pk_mul, pk_sub, Nat.add_sub_cancel, qm1_add, qm2_add, nI_clamp, ni_0, ni_1, ni_2, ni_3, ni_5, ni_9, ni_100, h1, h13, e40, Nat.add_zero, hA]; refine qin_nI ?_ ?_ <;> first | omega | exact hB _ _ | exact hYB _ _) | (refine qin_nI ?_ ?_ <;> omega) | fail)) only [↓km0_gd, ↓km0_gI, ↓km0_gM, ↓km0_pI, ↓km0_pM, ↓km0_pZ, ↓km0_gL, ↓km0_pL, ↓km0_gF14, ↓km0_gF17, ↓km0_gF20, ↓km0_gF22, ↓km0_gF28, ↓km0_gF29, ↓km0_gF30, ↓km0_gF31, ↓km2_al, ↓km2_as, ↓km2_ln, ↓km5_al, ↓km5_as, ↓km5_ln, ↓km8_al, ↓km8_as, ↓km8_ln, ↓km10_al, ↓km10_as, ↓km10_ln, ↓km16_al, ↓km16_as, ↓km16_ln, ↓km17_al, ↓km17_as, ↓km17_ln, ↓km18_al, ↓km18_as, ↓km18_ln, ↓km19_al, ↓km19_as, ↓km19_ln, ↓qb_so, ↓nm_1, ↓nm_2, ↓reduceIte, if_true, if_false, not_true_eq_false, not_false_eq_true, and_true, true_and, and_false, false_and, or_true, true_or, or_false, false_or, eq_self, ne_eq, quI_s, quI_n, quI2, quL1, quL2, quL3, quR1, quR2, quR3, nI_add, pk_mul, pk_sub, Nat.add_sub_cancel, qm1_add, qm2_add, nI_leI, nI_ltI, nI_eq, nI_m1, nI_m1', nI_clamp, nI_bit, nI_one_shl, nI_m1l, nI_m1lt, nI_m1lt', nI_m1le', oI_some, oI_none, ni_0, ni_1, ni_2, ni_3, ni_5, ni_9, ni_100, fX12_year, fX12_isDefault, qle_t, qle_f, qlt_t, qlt_f, qeq_t, qeq_f, h1, h13, e40, Nat.add_zero, hA]
    rw [q1, w1]
    rfl
  · refine ⟨⟨?_, ?_, ?_, ?_⟩, fun k hk => ?_, fun t ht => ?_, fun g t hg ht => ?_, fun j hj => ?_, fun a c ha hc => ?_, ⟨?_, ?_⟩, ⟨?_, ?_, ?_⟩, fun s i hs hi => ?_⟩
    · rw [cl2 0 (by decide), zk _ _ (by omega)]; exact y2
    · rw [cl2 1 (by decide), zk _ _ (by omega)]; exact y5
    · rw [cl2 2 (by decide), zk _ _ (by omega)]; exact y8
    · rw [cl2 3 (by decide), zk _ _ (by omega)]; exact y10
    · rw [cl2 0 (by decide)] at hk; omega
    · rw [cl2 1 (by decide)] at ht; omega
    · rw [cl2 1 (by decide)] at ht; omega
    · rw [cl2 3 (by decide)] at hj; omega
    · rw [cl2 0 (by decide)] at ha; omega
    · rw [zk _ _ (by omega)]; exact x16
    · rw [zk _ _ (by omega)]; exact x17
    · rw [zk _ _ (by omega)]; exact x0
    · rw [zk _ _ (by omega)]; exact x1
    · rw [zk _ _ (by omega)]; exact x2
    · rw [cl2 s hs] at hi; omega
  · have c14 : ∀ j, 2 ≤ j → j ≤ 6 → s_clr Y 14 j = 0 := fun j g1 g2 => by unfold s_clr; rw [if_pos (by omega)]
    unfold mRl
    rw [c14 3 (by decide) (by decide), c14 4 (by decide) (by decide), c14 5 (by decide) (by decide), c14 6 (by decide) (by decide)]
    refine ⟨fun hh => absurd hh (by decide), fun _ => ?_, fun hh => absurd hh (by decide), fun _ => ?_⟩
    · rw [zk _ _ (by omega)]; exact x19'
    · rw [zk _ _ (by omega)]; exact x19
  · refine frG_trans ⟨fun k j g1 g2 g3 => ?_, fun k j _ _ => by rw [A2]; rfl, by rw [A2]; rfl⟩ (frG_M w3)
    by_cases h01 : k = 0 ∧ j = 1
    · rw [h01.1, h01.2, z1, quI_e]
    · rw [quI_k h01]
      have ib : ∀ a, bsz k = a → 2 ≤ k → k ≤ 22 → ¬ (a * c ≤ j ∧ j < a * c + a) := fun a ha hk1 hk2 hh => g3 ⟨hk1, hk2, inb_ok ha hh.1 hh.2⟩
      refine kk k j (by omega) (fun hh => ?_) (fun hh => ?_) (fun hh => ?_)
      · rcases hh.1 with h1 | h1 | h1 | h1 | h1 | h1
        · subst h1; exact ib 1 rfl (by decide) (by decide) (by omega)
        · subst h1; exact ib 1 rfl (by decide) (by decide) (by omega)
        · subst h1; exact ib 1 rfl (by decide) (by decide) (by omega)
        · subst h1; exact ib 1 rfl (by decide) (by decide) (by omega)
        · subst h1; exact ib 1 rfl (by decide) (by decide) (by omega)
        · subst h1; exact ib 1 rfl (by decide) (by decide) (by omega)
      · obtain ⟨h1, h2⟩ := hh
        subst h1; exact ib 3 rfl (by decide) (by decide) (by omega)
      · obtain ⟨h1, h2⟩ := hh
        subst h1; exact ib 2 rfl (by decide) (by decide) (by omega)
theorem gI_F (hI : gI Y mc wc D P G) (hk : kd ≤ 6) (hp : pl ≤ 1600) : gI Y mc wc D P (s_gF G kd pl) := by
  obtain ⟨i1, i2, i3, i4, i5, i6, ⟨q1, q2, q3, q4, q5, q6, q7, q8, q9, q10⟩, i8⟩ := hI
  have gg : ∀ c j, ¬ (c = 1 ∧ (j = 4 ∨ j = 5)) → s_gF G kd pl c j = G c j := fun c j hc => by unfold s_gF; rw [dU_at, if_neg (by omega), dU_at, if_neg (by omega)]
  have g4 : s_gF G kd pl 1 4 = kd := by unfold s_gF; rw [dU_j (by decide), dU_s]
  have g5 : s_gF G kd pl 1 5 = pl + 1 := by unfold s_gF; rw [dU_s]
  refine ⟨i1, i2, i3, i4, fun i hi => i5 i (by rw [gg _ _ (by omega)] at hi; exact hi), fun i hi => ?_, ⟨by rw [gg _ _ (by omega)]; exact q1, by rw [gg _ _ (by omega)]; exact q2, fun i => by rw [gg _ _ (by omega)]; exact q3 i, by rw [gg _ _ (by omega)]; exact q4, by rw [gg _ _ (by omega)]; exact q5, by rw [gg _ _ (by omega)]; exact q6, fun i => by rw [gg _ _ (by omega)]; exact q7 i, fun i => by rw [gg _ _ (by omega)]; exact q8 i, by rw [g4]; exact hk, by rw [g5]; omega⟩, i8⟩
  rw [gg _ _ (by omega)] at hi
  refine ⟨(i6 i hi).1, fun j hj hj2 => ?_⟩
  rw [gg _ _ (by omega)] at hj2
  exact (i6 i hi).2 j hj hj2
theorem e_year : xEq2 gR := by
  intro S1 S2 h
  obtain ⟨b, Y, mc, wc, D, P, G, hb, hC, hM, hI⟩ := id h
  have hn : 2000 ≤ xFU := by decide
  have hL := hI.2.2.2.2.2.2.1.2.1
  have hG := hI.2.2.2.2.2.2.1.2.2.1
  obtain ⟨c1, g1⟩ := c_take hb hC
  have k1 := m_take hI hM
  have i1 := gI_take hI
  have m1 := hM.2.2.2.2.1.2.1
  have m13 := hM.1.1
  have mt := hM.2.2.2.2.1.1
  have b1 : 1 - b < 2 := by omega
  have h2b' : S1.2.2 0 3 = yc (1 - b) 0 := hC.2.1.2.1
  -- the class reads
  obtain ⟨_, ⟨h2a, h2b, h2c⟩, _, ⟨Ys, hs1, hs2, hs3⟩, _, ⟨h6a, _⟩, _, _, _, h10⟩ := id g1
  obtain ⟨A, a1, a2, a3, a4, a5⟩ := c_readY (n := xFU) (L := G 1 0) (f := G 0) hn b1 hs2 hs3 h6a hG hL h10
  have cl := c_loop (n := xFU) hn b1 80 0 xFU (s_clr Ys) [] [] [] A 0 (by decide) (by decide) (clr_J hs1) a2
  -- the reference reads
  obtain ⟨B, e1, e2, e3⟩ := m_y0 (n := xFU) (Y := Ys) (f := G 0) hn hb m13 mt hG hL m1
  have ml := m_yL (n := xFU) hn b1 80 0 xFU (s_clr Ys) [] [] [] B 0 (by decide) (by decide) (fun hh => absurd hh (by decide)) (clr_J hs1) e2
  have fA : ∀ {Z : xSt}, frB (1 - b) A Z → frY (1 - b) (xuI S1 0 1 (nI 0)) Z := fun {Z} hf => ⟨fun k j g1 g2 g3 => by rw [hf.1 k j (by omega) g2 g3, a3 k j g1 g2], by rw [hf.2.1, a4], fun k j g1 g2 => by rw [hf.2.2 k j g1, a5 k j g2]⟩
  have bnd := zL_F (f := G 0) (L := G 1 0) 80 0 (s_clr Ys) [] 0 (Nat.zero_le _)
  revert cl ml bnd
  match zL (G 0) (G 1 0) 80 0 (s_clr Ys) [] 0 with
  | .inl (kd, pl) =>
    intro ⟨Z1, z1, z2, z3⟩ ⟨c, Z2, y1, ⟨k0, k1'⟩, y2, y3, y4⟩ bnd
    obtain ⟨q1, q2⟩ := bnd kd pl rfl
    have gc := gC_F hb (fA z3) z2 g1
    have gm := gM_F hb i1 (frG_trans e3 y4) y2 y3 k1
    have gi := gI_F i1 q1 (by omega : pl ≤ 1600)
    obtain ⟨d1, gg1⟩ := c_refuse (i := 1) hb gc (by decide)
    obtain ⟨d2, kk1⟩ := m_refuse (i := 1) gi gm (by decide)
    have kn : ¬ kd = 0 := by omega
    refine ⟨qm1, _, _, ?_, ?_, b, Y, mc, wc, D, P, _, hb, gg1, kk1, gI_rf gi⟩
    · rw [← a1] at z1
      simp (disch := (first | assumption | omega | exact hB _ _ | exact hYB _ _ | (simp only [yc, yd, sh, sv, ne_eq]; omega) | (simp (disch := omega) only [↓nm_1, ↓nm_2, nI_add, pk_mul, pk_sub, Nat.add_sub_cancel, qm1_add, qm2_add, nI_clamp, ni_0, ni_1, c1, h2b', z1, d1]; refine qin_nI ?_ ?_ <;> first | omega | exact hB _ _ | exact hYB _ _) | (refine qin_nI ?_ ?_ <;> omega) | fail)) only [↓kc0_gd, ↓kc0_gI, ↓kc0_gM, ↓kc0_pI, ↓kc0_pM, ↓kc0_pZ, ↓kc0_gF0, ↓kc0_gF4, ↓kc0_gF5, ↓kc0_gF6, ↓kc0_gF7, ↓kc0_gF8, ↓kc0_gF9, ↓kc0_gF10, ↓kc0_gF11, ↓kc0_gF12, ↓kc0_gF14, ↓kc1_al, ↓kc1_as, ↓kc1_ln, ↓kc41_gd, ↓kc41_gI, ↓kc41_gM, ↓kc41_pI, ↓kc41_pM, ↓kc41_pZ, ↓kc41_gF0, ↓kc41_gF1, ↓kc42_ql, ↓kc43_al, ↓kc43_as, ↓kc43_ln, ↓kc148_gd, ↓kc148_gI, ↓kc148_gM, ↓kc148_pI, ↓kc148_pM, ↓kc148_pZ, ↓kc148_gF0, ↓kc148_gF1, ↓kc148_gF2, ↓kc148_gF4, ↓kc148_gF5, ↓kc154_al, ↓kc154_as, ↓kc154_ln, ↓kc155_al, ↓kc155_as, ↓kc155_ln, ↓kc160_gd, ↓kc160_gI, ↓kc160_gM, ↓kc160_pI, ↓kc160_pM, ↓kc160_pZ, ↓kc160_gF0, ↓kc160_gF1, ↓kc161_al, ↓kc161_as, ↓kc161_ln, ↓kc162_gd, ↓kc162_gI, ↓kc162_gM, ↓kc162_pI, ↓kc162_pM, ↓kc162_pZ, ↓kc162_gF0, ↓kc162_gF1, ↓kc163_gd, ↓kc163_gI, ↓kc163_gM, ↓kc163_pI, ↓kc163_pM, ↓kc163_pZ, ↓kc163_gF0, ↓kc164_gd, ↓kc164_gI, ↓kc164_gM, ↓kc164_pI, ↓kc164_pM, ↓kc164_pZ, ↓kc164_gF0, ↓kc164_gF1, ↓kc164_gF2, ↓kc164_gF3, ↓kc165_al, ↓kc165_as, ↓kc165_ln, ↓kc166_al, ↓kc166_as, ↓kc166_ln, ↓kc167_al, ↓kc167_as, ↓kc167_ln, ↓kc168_al, ↓kc168_as, ↓kc168_ln, ↓kc169_gd, ↓kc169_gI, ↓kc169_gM, ↓kc169_pI, ↓kc169_pM, ↓kc169_pZ, ↓kc169_gF0, ↓kc169_gF2, ↓kc170_al, ↓kc170_as, ↓kc170_ln, ↓kc171_gd, ↓kc171_gI, ↓kc171_gM, ↓kc171_pI, ↓kc171_pM, ↓kc171_pZ, ↓kc171_gF5, ↓kc171_gF6, ↓kc171_gF7, ↓kc171_gF8, ↓kc172_al, ↓kc172_as, ↓kc172_ln, ↓kc173_al, ↓kc173_as, ↓kc173_ln, ↓kc174_al, ↓kc174_as, ↓kc174_ln, ↓kc175_al, ↓kc175_as, ↓kc175_ln, ↓kc176_al, ↓kc176_as, ↓kc176_ln, ↓kc177_al, ↓kc177_as, ↓kc177_ln, ↓qb_so, ↓nm_1, ↓nm_2, ↓reduceIte, if_true, if_false, not_true_eq_false, not_false_eq_true, and_true, true_and, and_false, false_and, or_true, true_or, or_false, false_or, eq_self, ne_eq, quI_s, quI_n, quI2, quL1, quL2, quL3, quR1, quR2, quR3, nI_add, pk_mul, pk_sub, Nat.add_sub_cancel, qm1_add, qm2_add, nI_leI, nI_ltI, nI_eq, nI_m1, nI_m1', nI_clamp, nI_bit, nI_one_shl, nI_m1l, nI_m1lt, nI_m1lt', nI_m1le', oI_some, oI_none, ni_0, ni_1, fX11_year, qle_t, qle_f, qlt_t, qlt_f, qeq_t, qeq_f, c1, h2b', z1, d1]
    · rw [e1, y1]
      show fX12_year_B152 xFU 0 c Z2 = _
      simp (disch := (first | assumption | omega | exact hB _ _ | exact hYB _ _ | (simp only [yc, yd, sh, sv, ne_eq]; omega) | (simp (disch := omega) only [↓nm_1, ↓nm_2, nI_add, pk_mul, pk_sub, Nat.add_sub_cancel, qm1_add, qm2_add, nI_clamp, ni_0, ni_1, y2, y3, kn, d2]; refine qin_nI ?_ ?_ <;> first | omega | exact hB _ _ | exact hYB _ _) | (refine qin_nI ?_ ?_ <;> omega) | fail)) only [↓km0_gd, ↓km0_gI, ↓km0_gM, ↓km0_pI, ↓km0_pM, ↓km0_pZ, ↓km0_gL, ↓km0_pL, ↓qb_so, ↓nm_1, ↓nm_2, ↓reduceIte, if_true, if_false, not_true_eq_false, not_false_eq_true, and_true, true_and, and_false, false_and, or_true, true_or, or_false, false_or, eq_self, ne_eq, quI_s, quI_n, quI2, quL1, quL2, quL3, quR1, quR2, quR3, nI_add, pk_mul, pk_sub, Nat.add_sub_cancel, qm1_add, qm2_add, nI_leI, nI_ltI, nI_eq, nI_m1, nI_m1', nI_clamp, nI_bit, nI_one_shl, nI_m1l, nI_m1lt, nI_m1lt', nI_m1le', oI_some, oI_none, ni_0, ni_1, fX12_year_B152, qle_t, qle_f, qlt_t, qlt_f, qeq_t, qeq_f, y2, y3, kn, d2]
  | .inr (c, Y', cc) =>
    intro ⟨Z1, e', mc', wc', z1, zc, z2, z3, z4⟩ ⟨Z2, e'', y1, y2, y3⟩ _
    have fz := fA z4
    have r2 : Z1.2.2 0 2 = yc (1 - (1 - b)) 0 := by rw [fz.2.2 _ _ (by omega) (by omega), show 1 - (1 - b) = b by omega]; exact h2a
    have r3 : Z1.2.2 0 3 = yc (1 - b) 0 := by rw [fz.2.2 _ _ (by omega) (by omega)]; exact h2b
    obtain ⟨T, t1, t2, t3, t4, t5, t6, t7, t8, t9, t10, t11⟩ := c_yT (n := xFU) (x := nI c) hn b1 r2 r3
    have gc := gC_Y hb i1 fz z2 hL z3 g1 t2 t3 t4 t5 t6 t7 t9 (by rw [t10, show 1 - (1 - b) = b by omega]) t11
    obtain ⟨W, w1, w2⟩ := gM_Y (n := xFU) hn hb (frG_trans e3 y3) y2 hL z3 k1
    have u8 := y2.2.2.1
    have u9 := y2.1.1.2.2.2.2
    have u40 := y2.2.2.2.1
    refine ⟨nI c, _, _, ?_, ?_, 1 - b, Y', mc', wc', _, P, _, b1, gc, w2, gI_Y i1 z3⟩
    · rw [← a1] at z1
      rw [← t1]
      simp (disch := (first | assumption | omega | exact hB _ _ | exact hYB _ _ | (simp only [yc, yd, sh, sv, ne_eq]; omega) | (simp (disch := omega) only [↓nm_1, ↓nm_2, nI_add, pk_mul, pk_sub, Nat.add_sub_cancel, qm1_add, qm2_add, nI_clamp, ni_0, ni_1, c1, h2b', z1]; refine qin_nI ?_ ?_ <;> first | omega | exact hB _ _ | exact hYB _ _) | (refine qin_nI ?_ ?_ <;> omega) | fail)) only [↓kc0_gd, ↓kc0_gI, ↓kc0_gM, ↓kc0_pI, ↓kc0_pM, ↓kc0_pZ, ↓kc0_gF0, ↓kc0_gF4, ↓kc0_gF5, ↓kc0_gF6, ↓kc0_gF7, ↓kc0_gF8, ↓kc0_gF9, ↓kc0_gF10, ↓kc0_gF11, ↓kc0_gF12, ↓kc0_gF14, ↓kc1_al, ↓kc1_as, ↓kc1_ln, ↓kc41_gd, ↓kc41_gI, ↓kc41_gM, ↓kc41_pI, ↓kc41_pM, ↓kc41_pZ, ↓kc41_gF0, ↓kc41_gF1, ↓kc42_ql, ↓kc43_al, ↓kc43_as, ↓kc43_ln, ↓kc148_gd, ↓kc148_gI, ↓kc148_gM, ↓kc148_pI, ↓kc148_pM, ↓kc148_pZ, ↓kc148_gF0, ↓kc148_gF1, ↓kc148_gF2, ↓kc148_gF4, ↓kc148_gF5, ↓kc154_al, ↓kc154_as, ↓kc154_ln, ↓kc155_al, ↓kc155_as, ↓kc155_ln, ↓kc160_gd, ↓kc160_gI, ↓kc160_gM, ↓kc160_pI, ↓kc160_pM, ↓kc160_pZ, ↓kc160_gF0, ↓kc160_gF1, ↓kc161_al, ↓kc161_as, ↓kc161_ln, ↓kc162_gd, ↓kc162_gI, ↓kc162_gM, ↓kc162_pI, ↓kc162_pM, ↓kc162_pZ, ↓kc162_gF0, ↓kc162_gF1, ↓kc163_gd, ↓kc163_gI, ↓kc163_gM, ↓kc163_pI, ↓kc163_pM, ↓kc163_pZ, ↓kc163_gF0, ↓kc164_gd, ↓kc164_gI, ↓kc164_gM, ↓kc164_pI, ↓kc164_pM, ↓kc164_pZ, ↓kc164_gF0, ↓kc164_gF1, ↓kc164_gF2, ↓kc164_gF3, ↓kc165_al, ↓kc165_as, ↓kc165_ln, ↓kc166_al, ↓kc166_as, ↓kc166_ln, ↓kc167_al, ↓kc167_as, ↓kc167_ln, ↓kc168_al, ↓kc168_as, ↓kc168_ln, ↓kc169_gd, ↓kc169_gI, ↓kc169_gM, ↓kc169_pI, ↓kc169_pM, ↓kc169_pZ, ↓kc169_gF0, ↓kc169_gF2, ↓kc170_al, ↓kc170_as, ↓kc170_ln, ↓kc171_gd, ↓kc171_gI, ↓kc171_gM, ↓kc171_pI, ↓kc171_pM, ↓kc171_pZ, ↓kc171_gF5, ↓kc171_gF6, ↓kc171_gF7, ↓kc171_gF8, ↓kc172_al, ↓kc172_as, ↓kc172_ln, ↓kc173_al, ↓kc173_as, ↓kc173_ln, ↓kc174_al, ↓kc174_as, ↓kc174_ln, ↓kc175_al, ↓kc175_as, ↓kc175_ln, ↓kc176_al, ↓kc176_as, ↓kc176_ln, ↓kc177_al, ↓kc177_as, ↓kc177_ln, ↓qb_so, ↓nm_1, ↓nm_2, ↓reduceIte, if_true, if_false, not_true_eq_false, not_false_eq_true, and_true, true_and, and_false, false_and, or_true, true_or, or_false, false_or, eq_self, ne_eq, quI_s, quI_n, quI2, quL1, quL2, quL3, quR1, quR2, quR3, nI_add, pk_mul, pk_sub, Nat.add_sub_cancel, qm1_add, qm2_add, nI_leI, nI_ltI, nI_eq, nI_m1, nI_m1', nI_clamp, nI_bit, nI_one_shl, nI_m1l, nI_m1lt, nI_m1lt', nI_m1le', oI_some, oI_none, ni_0, ni_1, fX11_year, qle_t, qle_f, qlt_t, qlt_f, qeq_t, qeq_f, c1, h2b', z1]
    · rw [e1, y1]
      show fX12_year_B152 xFU 0 (nI c) Z2 = _
      simp (disch := (first | assumption | omega | exact hB _ _ | exact hYB _ _ | (simp only [yc, yd, sh, sv, ne_eq]; omega) | (simp (disch := omega) only [↓nm_1, ↓nm_2, nI_add, pk_mul, pk_sub, Nat.add_sub_cancel, qm1_add, qm2_add, nI_clamp, ni_0, ni_1, u8, u9, u40, w1]; refine qin_nI ?_ ?_ <;> first | omega | exact hB _ _ | exact hYB _ _) | (refine qin_nI ?_ ?_ <;> omega) | fail)) only [↓km0_gd, ↓km0_gI, ↓km0_gM, ↓km0_pI, ↓km0_pM, ↓km0_pZ, ↓km0_gL, ↓km0_pL, ↓qb_so, ↓nm_1, ↓nm_2, ↓reduceIte, if_true, if_false, not_true_eq_false, not_false_eq_true, and_true, true_and, and_false, false_and, or_true, true_or, or_false, false_or, eq_self, ne_eq, quI_s, quI_n, quI2, quL1, quL2, quL3, quR1, quR2, quR3, nI_add, pk_mul, pk_sub, Nat.add_sub_cancel, qm1_add, qm2_add, nI_leI, nI_ltI, nI_eq, nI_m1, nI_m1', nI_clamp, nI_bit, nI_one_shl, nI_m1l, nI_m1lt, nI_m1lt', nI_m1le', oI_some, oI_none, ni_0, ni_1, fX12_year_B152, qle_t, qle_f, qlt_t, qlt_f, qeq_t, qeq_f, u8, u9, u40, w1]
end Q9zp

