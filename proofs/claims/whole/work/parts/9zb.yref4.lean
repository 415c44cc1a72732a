/-! ===== the reference reads statements: settings, knows, serves ===== -/
/-- what is told of the year in bank b -/
def vis (b : Nat) (Y : Nat → Nat → Nat) (k j : Nat) : Prop :=
  ((k = 2 ∨ k = 5 ∨ k = 8 ∨ k = 10 ∨ k = 16 ∨ k = 17) ∧ j = b) ∨ ((k = 3 ∨ k = 4) ∧ 6 * b ≤ j ∧ j < 6 * b + Y 2 0) ∨ ((k = 6 ∨ k = 7) ∧ 8 * b ≤ j ∧ j < 8 * b + Y 2 1) ∨ (k = 9 ∧ ∃ g t, g < Y 2 2 ∧ t < Y 2 1 ∧ j = 8 * (6 * b + g) + t) ∨ ((k = 11 ∨ k = 12) ∧ 6 * b ≤ j ∧ j < 6 * b + Y 2 3) ∨ ((k = 13 ∨ k = 14) ∧ 4 * (6 * b) ≤ j ∧ j < 4 * (6 * b + Y 2 3)) ∨ (k = 15 ∧ ∃ a c, a < Y 2 0 ∧ c < Y 2 0 ∧ j = 6 * (6 * b + a) + c) ∨ (k = 18 ∧ 3 * b ≤ j ∧ j ≤ 3 * b + 2)
def mSo (S : xSt) (b : Nat) (f : Nat → Nat) (L : Nat) (cc : List (Nat × Nat)) (R : YS) (F : Option xSt) : Prop := match R with
  | .inl (kd, pl) => ∃ Z, F = some Z ∧ (0 < kd ∧ kd < 100) ∧ Z.1 0 8 = nI kd ∧ Z.1 0 9 = nI pl ∧ frG b S Z
  | .inr (e', Y') => ∃ Z, F = some Z ∧ mkM Z b f L e' Y' cc ∧ frG b S Z
section Q9zb
variable {S Z V W : xSt} {n L e m o b d t k a s w lo hi j r kd pl : Nat} {u : Option Nat} {f : Nat → Nat} {cc mc wc : List (Nat × Nat)} {Y Y' : Nat → Nat → Nat} {F : Option xSt} {R : YS}
theorem mSo_pre (h : frG b S Z) (h1 : mSo Z b f L cc R F) : mSo S b f L cc R F := by
  match R, h1 with
  | .inl (kd, pl), ⟨V, x1, x0, x2, x3, x4⟩ => exact ⟨V, x1, x0, x2, x3, frG_trans h x4⟩
  | .inr (e', Y'), ⟨V, x1, x2, x3⟩ => exact ⟨V, x1, x2, frG_trans h x3⟩
theorem mI_eq (h : mI S b Y) (h9 : ∀ j, j < Y 2 3 → Y 9 j ≤ 4) (hv : ∀ k j, vis b Y k j → Z.1 k j = S.1 k j) (hl : ∀ s i, s < 4 → i < Y 2 s → Z.2.1 (23 + s) (s_cap s * b + i) = S.2.1 (23 + s) (s_cap s * b + i)) : mI Z b Y := by
  obtain ⟨⟨a0, a1, a2, a3⟩, b1, c1, d1, e1, f1, ⟨g1, g2⟩, ⟨h1, h2, h3⟩, n1⟩ := h
  refine ⟨⟨?_, ?_, ?_, ?_⟩, fun k hk => ?_, fun t ht => ?_, fun g t hg ht => ?_, fun j hj => ?_, fun a c ha hc => ?_, ⟨?_, ?_⟩, ⟨?_, ?_, ?_⟩, fun s i hs hi => ?_⟩
  · rw [hv _ _ (by unfold vis; omega)]; exact a0
  · rw [hv _ _ (by unfold vis; omega)]; exact a1
  · rw [hv _ _ (by unfold vis; omega)]; exact a2
  · rw [hv _ _ (by unfold vis; omega)]; exact a3
  · rw [hv 3 _ (by unfold vis; omega), hv 4 _ (by unfold vis; omega)]; exact b1 k hk
  · rw [hv 6 _ (by unfold vis; omega), hv 7 _ (by unfold vis; omega)]; exact c1 t ht
  · rw [hv 9 _ (Or.inr (Or.inr (Or.inr (Or.inl ⟨rfl, g, t, hg, ht, rfl⟩))))]; exact d1 g t hg ht
  · rw [hv 11 _ (by unfold vis; omega), hv 12 _ (by unfold vis; omega)]
    refine ⟨(e1 j hj).1, (e1 j hj).2.1, fun s hs => ?_⟩
    have := h9 j hj
    rw [hv 13 _ (by unfold vis; omega), hv 14 _ (by unfold vis; omega)]
    exact (e1 j hj).2.2 s hs
  · rw [hv 15 _ (Or.inr (Or.inr (Or.inr (Or.inr (Or.inr (Or.inr (Or.inl ⟨rfl, a, c, ha, hc, rfl⟩)))))))]; exact f1 a c ha hc
  · rw [hv _ _ (by unfold vis; omega)]; exact g1
  · rw [hv _ _ (by unfold vis; omega)]; exact g2
  · rw [hv _ _ (by unfold vis; omega)]; exact h1
  · rw [hv _ _ (by unfold vis; omega)]; exact h2
  · rw [hv _ _ (by unfold vis; omega)]; exact h3
  · rw [hl s i hs hi]; exact n1 s i hs hi
theorem mRl_eq (h : mRl S b Y) (hr : ∀ k j, 19 ≤ k → k ≤ 20 → Z.1 k j = S.1 k j) (hY : Y' 14 = Y 14) : mRl Z b Y' := by
  unfold mRl
  rw [hY, hr 19 _ (by decide) (by decide), hr 20 _ (by decide) (by decide), hr 19 _ (by decide) (by decide), hr 20 _ (by decide) (by decide)]
  exact h
/-- all but what is told of the year stays -/
theorem mkM_of {e' : Nat} (h : mkM S b f L e Y cc) (ht : tkM Z f L e') (he : e ≤ e') (hL : e' ≤ L) (h0 : ∀ j, j = 8 ∨ j = 39 ∨ j = 40 → Z.1 0 j = S.1 0 j) (hr : ∀ k j, 19 ≤ k → k ≤ 22 → Z.1 k j = S.1 k j) (hI : mI Z b Y') (hY : Y' 14 = Y 14) : mkM Z b f L e' Y' cc := by
  obtain ⟨h1, h2, h3, h4, h5, h6, h7, h8, h9⟩ := h
  exact ⟨ht, hL, by rw [h0 _ (by omega)]; exact h3, by rw [h0 _ (by omega)]; exact h4, by rw [h0 _ (by omega)]; exact h5, mCode_eq h6 (fun j _ _ => ⟨hr _ _ (by decide) (by decide), hr _ _ (by decide) (by decide)⟩), by omega, hI, mRl_eq h9 (fun k j x y => hr k j x (by omega)) hY⟩
theorem mkM_M {e' : Nat} (h : mkM S b f L e Y cc) (hY : yrOk Y) (ht : tkM Z f L e') (he : e ≤ e') (hL : e' ≤ L) (hf : frM S Z) : mkM Z b f L e' Y cc :=
  mkM_of h ht he hL (fun j hj => hf.1 _ _ (by omega)) (fun k j x y => hf.1 _ _ (by omega)) (mI_eq h.2.2.2.2.2.2.2.1 (fun j hj => (hY.2.2.2.2.2.1 j hj).2.1) (fun k j hk => hf.1 _ _ (by unfold vis at hk; omega)) (fun s i hs hi => hf.2.1 _ _ (by omega))) rfl
theorem inb_ok (h : bsz k = a) (h1 : a * b ≤ j) (h2 : j < a * b + a) : inb k b j := by unfold inb; rw [h]; exact ⟨h1, h2⟩
theorem m_tell {c p : Nat} (hn : 2000 ≤ n) (hb : b < 2) (hY : yrOk Y) (h : mkM S b f L e Y cc) (hlo : lo ≤ 1) (hp : (p = 0 ∧ c = 14) ∨ (p = 1 ∧ c = 17) ∨ (p = 2 ∧ c = 18)) : mSo S b f L cc (zSet f L Y lo c e) (fX12_telling n 0 (nI p) (nI lo) (nI 100) S) := by
  obtain ⟨A, a1, a2, a3⟩ := (mt_C (x := 0) hn h.2.1 h.1 h.2.2.1 (by decide)).2 rfl
  have hke := kE_from (f := f) h.2.1
  have hA := mkM_M h hY a2 hke.1 hke.2 a3
  refine mSo_pre (frG_M a3) ?_
  have b1 := mt_N (lo := lo) (hi := 100) hn hke.2 a2 hA.2.2.1 (by omega) (by decide)
  unfold zSet
  cases h1 : tN f L lo 100 (kE f L e) with
  | inl x =>
    obtain ⟨kd, pl⟩ := x
    rw [h1] at b1
    obtain ⟨⟨k0, k1⟩, v, b2⟩ := b1
    have y8 : (flR A kd pl).1 0 8 = nI kd := flR_8
    have kn : ¬ kd = 0 := by omega
    refine ⟨flR A kd pl, ?_, ⟨k0, k1⟩, y8, flR_9, frG_fl⟩
    simp (disch := (first | assumption | omega | exact hB _ _ | exact hYB _ _ | (simp only [yc, yd, sh, sv, ne_eq]; omega) | (simp (disch := omega) only [↓nm_1, ↓nm_2, nI_add, pk_mul, pk_sub, Nat.add_sub_cancel, qm1_add, qm2_add, nI_clamp, ni_0, ni_1, ni_3, a1, b2, y8, kn]; refine qin_nI ?_ ?_ <;> first | omega | exact hB _ _ | exact hYB _ _) | (refine qin_nI ?_ ?_ <;> omega) | fail)) only [↓km0_gd, ↓km0_gI, ↓km0_gM, ↓km0_pI, ↓km0_pM, ↓km0_pZ, ↓km0_gL, ↓km0_pL, ↓km0_gF30, ↓km18_al, ↓km18_as, ↓km18_ln, ↓qb_so, ↓nm_1, ↓nm_2, ↓reduceIte, if_true, if_false, not_true_eq_false, not_false_eq_true, and_true, true_and, and_false, false_and, or_true, true_or, or_false, false_or, eq_self, ne_eq, quI_s, quI_n, quI2, quL1, quL2, quL3, quR1, quR2, quR3, nI_add, pk_mul, pk_sub, Nat.add_sub_cancel, qm1_add, qm2_add, nI_leI, nI_ltI, nI_eq, nI_m1, nI_m1', nI_clamp, nI_bit, nI_one_shl, nI_m1l, nI_m1lt, nI_m1lt', nI_m1le', oI_some, oI_none, ni_0, ni_1, ni_3, fX12_telling, qle_t, qle_f, qlt_t, qlt_f, qeq_t, qeq_f, a1, b2, y8, kn]
  | inr x =>
    obtain ⟨v, e1⟩ := x
    have hv := (tN_i h1).2.2.1
    rw [h1] at b1
    obtain ⟨B, b2, b3, b4, b5, b6⟩ := b1
    have hB := mkM_M hA hY b3 b5 b4 b6
    have y8 := hB.2.2.1
    have y40 := hB.2.2.2.1
    refine ⟨xuI B 18 (3 * b + p) (nI v), ?_, ?_, frG_trans (frG_M b6) (frG_up (by decide) (inb_ok (a := 3) rfl (by omega) (by omega)))⟩
    · simp (disch := (first | assumption | omega | exact hB _ _ | exact hYB _ _ | (simp only [yc, yd, sh, sv, ne_eq]; omega) | (simp (disch := omega) only [↓nm_1, ↓nm_2, nI_add, pk_mul, pk_sub, Nat.add_sub_cancel, qm1_add, qm2_add, nI_clamp, ni_0, ni_1, ni_3, a1, b2, y8, y40]; refine qin_nI ?_ ?_ <;> first | omega | exact hB _ _ | exact hYB _ _) | (refine qin_nI ?_ ?_ <;> omega) | fail)) only [↓km0_gd, ↓km0_gI, ↓km0_gM, ↓km0_pI, ↓km0_pM, ↓km0_pZ, ↓km0_gL, ↓km0_pL, ↓km0_gF30, ↓km18_al, ↓km18_as, ↓km18_ln, ↓qb_so, ↓nm_1, ↓nm_2, ↓reduceIte, if_true, if_false, not_true_eq_false, not_false_eq_true, and_true, true_and, and_false, false_and, or_true, true_or, or_false, false_or, eq_self, ne_eq, quI_s, quI_n, quI2, quL1, quL2, quL3, quR1, quR2, quR3, nI_add, pk_mul, pk_sub, Nat.add_sub_cancel, qm1_add, qm2_add, nI_leI, nI_ltI, nI_eq, nI_m1, nI_m1', nI_clamp, nI_bit, nI_one_shl, nI_m1l, nI_m1lt, nI_m1lt', nI_m1le', oI_some, oI_none, ni_0, ni_1, ni_3, fX12_telling, qle_t, qle_f, qlt_t, qlt_f, qeq_t, qeq_f, a1, b2, y8, y40]
    · obtain ⟨i0, i1, i2, i3, i4, i5, i6, ⟨i7, i8, i9⟩, i10⟩ := hB.2.2.2.2.2.2.2.1
      refine mkM_of hB (tkM_same hB.1 (fun k j hk => quI_k (by omega)) rfl) (Nat.le_refl _) hB.2.1 (fun j hj => quI_k (by omega)) (fun k j x y => quI_k (by omega)) ?_ ?_
      · rcases hp with ⟨rfl, rfl⟩ | ⟨rfl, rfl⟩ | ⟨rfl, rfl⟩
        · exact ⟨i0, i1, i2, i3, i4, i5, i6, ⟨by rw [dU_s]; exact quI_e, by rw [quI_k (by omega)]; exact i8, by rw [quI_k (by omega)]; exact i9⟩, i10⟩
        · exact ⟨i0, i1, i2, i3, i4, i5, i6, ⟨by rw [quI_k (by omega)]; exact i7, by rw [dU_s]; exact quI_e, by rw [quI_k (by omega)]; exact i9⟩, i10⟩
        · exact ⟨i0, i1, i2, i3, i4, i5, i6, ⟨by rw [quI_k (by omega)]; exact i7, by rw [quI_k (by omega)]; exact i8, by rw [dU_s]; exact quI_e⟩, i10⟩
      · funext x; rw [dU_c (by decide)]
theorem zSmith_R : zSmith f L Y e = zB (tR f L (kE f L e)) fun x => .inr (x.2.2, dU (dU Y 0 15 x.1) 0 16 x.2.1) := by
  unfold zSmith tR
  cases tN f L 0 9999 (kE f L e) with
  | inl x => rfl
  | inr x =>
    show zB (tW f L 2 x.2) _ = zB (zB (tW f L 2 x.2) _) _
    cases tW f L 2 x.2 with
    | inl y => rfl
    | inr y =>
      show zB (tN f L (s_lr x.1) 30 y) _ = zB (zB (tN f L (s_lr x.1) 30 y) _) _
      cases tN f L (s_lr x.1) 30 y <;> rfl
/-- the frame of a round -/
theorem frG_r (h1 : ∀ k j, ¬ (k = 0 ∧ ((3 ≤ j ∧ j ≤ 9) ∨ j = 12 ∨ j = 52)) → Z.1 k j = S.1 k j) (h2 : ∀ k j, ¬ (k = 0 ∧ j = 7) → Z.2.1 k j = S.2.1 k j) (h3 : Z.2.2 = S.2.2) : frG b S Z := ⟨fun k j x y z => h1 k j (by omega), fun k j x y => h2 k j x, h3⟩
theorem tR_i {x : Nat × Nat × Nat} (h : tR f L e = .inr x) : x.1 < 10000 ∧ x.1 + 1 ≤ x.2.1 ∧ 2 ≤ x.2.1 ∧ x.2.1 ≤ 30 := by
  unfold tR at h
  obtain ⟨d, h1, h⟩ := zB_i h
  obtain ⟨e1, h2, h⟩ := zB_i h
  obtain ⟨r, h3, h⟩ := zB_i h
  cases h
  have a1 := tN_i h1
  have a3 := tN_i h3
  have hl := s_lr_ok (d := d.1)
  exact ⟨a1.2.2.1, by show d.1 + 1 ≤ r.1; omega, by show 2 ≤ r.1; omega, a3.2.1⟩
theorem m_smith (hn : 2000 ≤ n) (hb : b < 2) (hY : yrOk Y) (h : mkM S b f L e Y cc) : mSo S b f L cc (zSmith f L Y e) (fX12_smithing n 0 S) := by
  obtain ⟨A, a1, a2, a3⟩ := (mt_C (x := 0) hn h.2.1 h.1 h.2.2.1 (by decide)).2 rfl
  have hke := kE_from (f := f) h.2.1
  have hA := mkM_M h hY a2 hke.1 hke.2 a3
  refine mSo_pre (frG_M a3) ?_
  have b1 := mt_R (b := b) hn hke.2 a2 hA.2.2.1
  rw [zSmith_R]
  cases h1 : tR f L (kE f L e) with
  | inl x =>
    obtain ⟨kd, pl⟩ := x
    rw [h1] at b1
    obtain ⟨⟨k0, k1⟩, v, B, b2, b3, b4, b5, b6, b7⟩ := b1
    have kn : ¬ kd = 0 := by omega
    refine ⟨B, ?_, ⟨k0, k1⟩, b3, b4, frG_r b5 b6 b7⟩
    simp (disch := (first | assumption | omega | exact hB _ _ | exact hYB _ _ | (simp only [yc, yd, sh, sv, ne_eq]; omega) | (simp (disch := omega) only [↓nm_1, ↓nm_2, nI_add, pk_mul, pk_sub, Nat.add_sub_cancel, qm1_add, qm2_add, nI_clamp, ni_0, ni_1, a1, b2, b3, kn]; refine qin_nI ?_ ?_ <;> first | omega | exact hB _ _ | exact hYB _ _) | (refine qin_nI ?_ ?_ <;> omega) | fail)) only [↓km0_gd, ↓km0_gI, ↓km0_gM, ↓km0_pI, ↓km0_pM, ↓km0_pZ, ↓km0_gL, ↓km0_pL, ↓km0_gF28, ↓km0_gF29, ↓km16_al, ↓km16_as, ↓km16_ln, ↓km17_al, ↓km17_as, ↓km17_ln, ↓qb_so, ↓nm_1, ↓nm_2, ↓reduceIte, if_true, if_false, not_true_eq_false, not_false_eq_true, and_true, true_and, and_false, false_and, or_true, true_or, or_false, false_or, eq_self, ne_eq, quI_s, quI_n, quI2, quL1, quL2, quL3, quR1, quR2, quR3, nI_add, pk_mul, pk_sub, Nat.add_sub_cancel, qm1_add, qm2_add, nI_leI, nI_ltI, nI_eq, nI_m1, nI_m1', nI_clamp, nI_bit, nI_one_shl, nI_m1l, nI_m1lt, nI_m1lt', nI_m1le', oI_some, oI_none, ni_0, ni_1, fX12_smithing, qle_t, qle_f, qlt_t, qlt_f, qeq_t, qeq_f, a1, b2, b3, kn]
  | inr x =>
    obtain ⟨d, v, e1⟩ := x
    rw [h1] at b1
    obtain ⟨B, b2, b52, b3, b4, b5, b6, b7, b8⟩ := b1
    have hB : mkM B b f L e1 Y cc := mkM_of hA b3 b5 b4 (fun j hj => b6 _ _ (by omega)) (fun k j x y => b6 _ _ (by omega)) (mI_eq hA.2.2.2.2.2.2.2.1 (fun j hj => (hY.2.2.2.2.2.1 j hj).2.1) (fun k j hk => b6 _ _ (by unfold vis at hk; omega)) (fun s i hs hi => b7 _ _ (by omega))) rfl
    have y8 := hB.2.2.1
    have y40 := hB.2.2.2.1
    refine ⟨xuI (xuI B 16 b (nI d)) 17 b (nI v), ?_, ?_, frG_trans (frG_r (fun k j hk => b6 k j (by omega)) b7 b8) (frG_trans (frG_up (by decide) (inb_ok (a := 1) rfl (by omega) (by omega))) (frG_up (by decide) (inb_ok (a := 1) rfl (by omega) (by omega))))⟩
    · simp (disch := (first | assumption | omega | exact hB _ _ | exact hYB _ _ | (simp only [yc, yd, sh, sv, ne_eq]; omega) | (simp (disch := omega) only [↓nm_1, ↓nm_2, nI_add, pk_mul, pk_sub, Nat.add_sub_cancel, qm1_add, qm2_add, nI_clamp, ni_0, ni_1, a1, b2, y8, y40, b52]; refine qin_nI ?_ ?_ <;> first | omega | exact hB _ _ | exact hYB _ _) | (refine qin_nI ?_ ?_ <;> omega) | fail)) only [↓km0_gd, ↓km0_gI, ↓km0_gM, ↓km0_pI, ↓km0_pM, ↓km0_pZ, ↓km0_gL, ↓km0_pL, ↓km0_gF28, ↓km0_gF29, ↓km16_al, ↓km16_as, ↓km16_ln, ↓km17_al, ↓km17_as, ↓km17_ln, ↓qb_so, ↓nm_1, ↓nm_2, ↓reduceIte, if_true, if_false, not_true_eq_false, not_false_eq_true, and_true, true_and, and_false, false_and, or_true, true_or, or_false, false_or, eq_self, ne_eq, quI_s, quI_n, quI2, quL1, quL2, quL3, quR1, quR2, quR3, nI_add, pk_mul, pk_sub, Nat.add_sub_cancel, qm1_add, qm2_add, nI_leI, nI_ltI, nI_eq, nI_m1, nI_m1', nI_clamp, nI_bit, nI_one_shl, nI_m1l, nI_m1lt, nI_m1lt', nI_m1le', oI_some, oI_none, ni_0, ni_1, fX12_smithing, qle_t, qle_f, qlt_t, qlt_f, qeq_t, qeq_f, a1, b2, y8, y40, b52]
    · obtain ⟨i0, i1, i2, i3, i4, i5, i6, i7, i10⟩ := hB.2.2.2.2.2.2.2.1
      refine mkM_of hB (tkM_same hB.1 (fun k j hk => by rw [quI_k (by omega), quI_k (by omega)]) rfl) (Nat.le_refl _) hB.2.1 (fun j hj => by rw [quI_k (by omega), quI_k (by omega)]) (fun k j x y => by rw [quI_k (by omega), quI_k (by omega)]) ?_ ?_
      · exact ⟨i0, i1, i2, i3, i4, i5, ⟨by rw [quI_k (by omega), quI_e, dU_j (by decide), dU_s], by rw [quI_e, dU_s]⟩, i7, i10⟩
      · funext x; rw [dU_c (by decide), dU_c (by decide)]
theorem m_knows (hn : 2000 ≤ n) (hb : b < 2) (hY : yrOk Y) (hN : yJn Y) (h : mkM S b f L e Y cc) : mSo S b f L cc (zKnows f L Y e) (fX12_knowing n 0 S) := by
  obtain ⟨A, a1, a2, a3⟩ := (mt_C (x := 0) hn h.2.1 h.1 h.2.2.1 (by decide)).2 rfl
  have hke := kE_from (f := f) h.2.1
  have hA := mkM_M h hY a2 hke.1 hke.2 a3
  refine mSo_pre (frG_M a3) ?_
  obtain ⟨c0, c1, c2, c3⟩ := hY.1
  have b1 := mt_A (s := 2) (u := none) (x := nI 0) hn hb hY hN (by decide) has0 hA.2.2.2.1 hA.2.2.2.2.2.2.2.1 hke.2 a2 hA.2.2.1
  unfold zKnows
  cases h1 : tA f L Y 2 none (kE f L e) with
  | inl x =>
    obtain ⟨kd, pl⟩ := x
    rw [h1] at b1
    obtain ⟨⟨k0, k1⟩, v, b2⟩ := b1
    have y8 : (flR A kd pl).1 0 8 = nI kd := flR_8
    have kn : ¬ kd = 0 := by omega
    have n1 := f_ask (n := n) (x := nI 1) (y := nI 0) y8 k0 k1
    have n2 := f_num (n := n) (x := nI 0) (y := nI 9) y8 k0 k1
    refine ⟨flR A kd pl, ?_, ⟨k0, k1⟩, y8, flR_9, frG_fl⟩
    simp (disch := (first | assumption | omega | exact hB _ _ | exact hYB _ _ | (simp only [yc, yd, sh, sv, ne_eq]; omega) | (simp (disch := omega) only [↓nm_1, ↓nm_2, nI_add, pk_mul, pk_sub, Nat.add_sub_cancel, qm1_add, qm2_add, nI_clamp, ni_0, ni_1, ni_2, ni_6, ni_8, ni_9, a1, b2, n1, n2, y8, kn]; refine qin_nI ?_ ?_ <;> first | omega | exact hB _ _ | exact hYB _ _) | (refine qin_nI ?_ ?_ <;> omega) | fail)) only [↓km0_gd, ↓km0_gI, ↓km0_gM, ↓km0_pI, ↓km0_pM, ↓km0_pZ, ↓km0_gL, ↓km0_pL, ↓km0_gF21, ↓km9_al, ↓km9_as, ↓km9_ln, ↓qb_so, ↓nm_1, ↓nm_2, ↓reduceIte, if_true, if_false, not_true_eq_false, not_false_eq_true, and_true, true_and, and_false, false_and, or_true, true_or, or_false, false_or, eq_self, ne_eq, quI_s, quI_n, quI2, quL1, quL2, quL3, quR1, quR2, quR3, nI_add, pk_mul, pk_sub, Nat.add_sub_cancel, qm1_add, qm2_add, nI_leI, nI_ltI, nI_eq, nI_m1, nI_m1', nI_clamp, nI_bit, nI_one_shl, nI_m1l, nI_m1lt, nI_m1lt', nI_m1le', oI_some, oI_none, ni_0, ni_1, ni_2, ni_6, ni_8, ni_9, fX12_knowing, qle_t, qle_f, qlt_t, qlt_f, qeq_t, qeq_f, a1, b2, n1, n2, y8, kn]
  | inr x =>
    obtain ⟨v, e1⟩ := x
    have hv := (tA_i h1).1
    rw [h1] at b1
    obtain ⟨B, b2, b3, b4, b5, b6⟩ := b1
    have hB := mkM_M hA hY b3 b5 b4 b6
    refine mSo_pre (frG_M b6) ?_
    have g1 := mt_A (s := 1) (u := none) (x := nI 0) hn hb hY hN (by decide) has0 hB.2.2.2.1 hB.2.2.2.2.2.2.2.1 b4 b3 hB.2.2.1
    show mSo B b f L cc (zB (tA f L Y 1 none e1) fun t => zB (tN f L 0 9 t.2) fun r => .inr (r.2, dU Y 7 (8 * v + t.1) r.1)) _
    cases h2 : tA f L Y 1 none e1 with
    | inl x =>
      obtain ⟨kd, pl⟩ := x
      rw [h2] at g1
      obtain ⟨⟨k0, k1⟩, v', g2⟩ := g1
      have y8 : (flR B kd pl).1 0 8 = nI kd := flR_8
      have kn : ¬ kd = 0 := by omega
      have n2 := f_num (n := n) (x := nI 0) (y := nI 9) y8 k0 k1
      refine ⟨flR B kd pl, ?_, ⟨k0, k1⟩, y8, flR_9, frG_fl⟩
      simp (disch := (first | assumption | omega | exact hB _ _ | exact hYB _ _ | (simp only [yc, yd, sh, sv, ne_eq]; omega) | (simp (disch := omega) only [↓nm_1, ↓nm_2, nI_add, pk_mul, pk_sub, Nat.add_sub_cancel, qm1_add, qm2_add, nI_clamp, ni_0, ni_1, ni_2, ni_6, ni_8, ni_9, a1, b2, g2, n2, y8, kn]; refine qin_nI ?_ ?_ <;> first | omega | exact hB _ _ | exact hYB _ _) | (refine qin_nI ?_ ?_ <;> omega) | fail)) only [↓km0_gd, ↓km0_gI, ↓km0_gM, ↓km0_pI, ↓km0_pM, ↓km0_pZ, ↓km0_gL, ↓km0_pL, ↓km0_gF21, ↓km9_al, ↓km9_as, ↓km9_ln, ↓qb_so, ↓nm_1, ↓nm_2, ↓reduceIte, if_true, if_false, not_true_eq_false, not_false_eq_true, and_true, true_and, and_false, false_and, or_true, true_or, or_false, false_or, eq_self, ne_eq, quI_s, quI_n, quI2, quL1, quL2, quL3, quR1, quR2, quR3, nI_add, pk_mul, pk_sub, Nat.add_sub_cancel, qm1_add, qm2_add, nI_leI, nI_ltI, nI_eq, nI_m1, nI_m1', nI_clamp, nI_bit, nI_one_shl, nI_m1l, nI_m1lt, nI_m1lt', nI_m1le', oI_some, oI_none, ni_0, ni_1, ni_2, ni_6, ni_8, ni_9, fX12_knowing, qle_t, qle_f, qlt_t, qlt_f, qeq_t, qeq_f, a1, b2, g2, n2, y8, kn]
    | inr x =>
      obtain ⟨t, e2⟩ := x
      have ht := (tA_i h2).1
      rw [h2] at g1
      obtain ⟨C, g2, g3, g4, g5, g6⟩ := g1
      have hC := mkM_M hB hY g3 g5 g4 g6
      refine mSo_pre (frG_M g6) ?_
      have k1 := mt_N (lo := 0) (hi := 9) hn g4 g3 hC.2.2.1 (by omega) (by decide)
      show mSo C b f L cc (zB (tN f L 0 9 e2) fun r => .inr (r.2, dU Y 7 (8 * v + t) r.1)) _
      cases h3 : tN f L 0 9 e2 with
      | inl x =>
        obtain ⟨kd, pl⟩ := x
        rw [h3] at k1
        obtain ⟨⟨k0, k1'⟩, v', k2⟩ := k1
        have y8 : (flR C kd pl).1 0 8 = nI kd := flR_8
        have kn : ¬ kd = 0 := by omega
        refine ⟨flR C kd pl, ?_, ⟨k0, k1'⟩, y8, flR_9, frG_fl⟩
        simp (disch := (first | assumption | omega | exact hB _ _ | exact hYB _ _ | (simp only [yc, yd, sh, sv, ne_eq]; omega) | (simp (disch := omega) only [↓nm_1, ↓nm_2, nI_add, pk_mul, pk_sub, Nat.add_sub_cancel, qm1_add, qm2_add, nI_clamp, ni_0, ni_1, ni_2, ni_6, ni_8, ni_9, a1, b2, g2, k2, y8, kn]; refine qin_nI ?_ ?_ <;> first | omega | exact hB _ _ | exact hYB _ _) | (refine qin_nI ?_ ?_ <;> omega) | fail)) only [↓km0_gd, ↓km0_gI, ↓km0_gM, ↓km0_pI, ↓km0_pM, ↓km0_pZ, ↓km0_gL, ↓km0_pL, ↓km0_gF21, ↓km9_al, ↓km9_as, ↓km9_ln, ↓qb_so, ↓nm_1, ↓nm_2, ↓reduceIte, if_true, if_false, not_true_eq_false, not_false_eq_true, and_true, true_and, and_false, false_and, or_true, true_or, or_false, false_or, eq_self, ne_eq, quI_s, quI_n, quI2, quL1, quL2, quL3, quR1, quR2, quR3, nI_add, pk_mul, pk_sub, Nat.add_sub_cancel, qm1_add, qm2_add, nI_leI, nI_ltI, nI_eq, nI_m1, nI_m1', nI_clamp, nI_bit, nI_one_shl, nI_m1l, nI_m1lt, nI_m1lt', nI_m1le', oI_some, oI_none, ni_0, ni_1, ni_2, ni_6, ni_8, ni_9, fX12_knowing, qle_t, qle_f, qlt_t, qlt_f, qeq_t, qeq_f, a1, b2, g2, k2, y8, kn]
      | inr x =>
        obtain ⟨r, e3⟩ := x
        rw [h3] at k1
        obtain ⟨D, k2, k3, k4, k5, k6⟩ := k1
        have hD := mkM_M hC hY k3 k5 k4 k6
        have y8 := hD.2.2.1
        have y40 := hD.2.2.2.1
        have v6 : v < 6 := by omega
        have t8 : t < 8 := by omega
        refine ⟨xuI D 9 (8 * (6 * b + v) + t) (nI r), ?_, ?_, frG_trans (frG_M k6) (frG_up (by decide) (inb_ok (a := 48) rfl (by omega) (by omega)))⟩
        · simp (disch := (first | assumption | omega | exact hB _ _ | exact hYB _ _ | (simp only [yc, yd, sh, sv, ne_eq]; omega) | (simp (disch := omega) only [↓nm_1, ↓nm_2, nI_add, pk_mul, pk_sub, Nat.add_sub_cancel, qm1_add, qm2_add, nI_clamp, ni_0, ni_1, ni_2, ni_6, ni_8, ni_9, a1, b2, g2, k2, y8, y40]; refine qin_nI ?_ ?_ <;> first | omega | exact hB _ _ | exact hYB _ _) | (refine qin_nI ?_ ?_ <;> omega) | fail)) only [↓km0_gd, ↓km0_gI, ↓km0_gM, ↓km0_pI, ↓km0_pM, ↓km0_pZ, ↓km0_gL, ↓km0_pL, ↓km0_gF21, ↓km9_al, ↓km9_as, ↓km9_ln, ↓qb_so, ↓nm_1, ↓nm_2, ↓reduceIte, if_true, if_false, not_true_eq_false, not_false_eq_true, and_true, true_and, and_false, false_and, or_true, true_or, or_false, false_or, eq_self, ne_eq, quI_s, quI_n, quI2, quL1, quL2, quL3, quR1, quR2, quR3, nI_add, pk_mul, pk_sub, Nat.add_sub_cancel, qm1_add, qm2_add, nI_leI, nI_ltI, nI_eq, nI_m1, nI_m1', nI_clamp, nI_bit, nI_one_shl, nI_m1l, nI_m1lt, nI_m1lt', nI_m1le', oI_some, oI_none, ni_0, ni_1, ni_2, ni_6, ni_8, ni_9, fX12_knowing, qle_t, qle_f, qlt_t, qlt_f, qeq_t, qeq_f, a1, b2, g2, k2, y8, y40]
        · obtain ⟨i0, i1, i2, i3, i4, i5, i6, i7, i10⟩ := hD.2.2.2.2.2.2.2.1
          refine mkM_of hD (tkM_same hD.1 (fun k j hk => quI_k (by omega)) rfl) (Nat.le_refl _) hD.2.1 (fun j hj => quI_k (by omega)) (fun k j x y => quI_k (by omega)) ?_ ?_
          · refine ⟨i0, i1, i2, fun g t' hg ht' => ?_, i4, i5, i6, i7, i10⟩
            have hg' : g < Y 2 2 := hg
            have ht'' : t' < Y 2 1 := ht'
            rw [quI_s]
            by_cases hx : g = v ∧ t' = t
            · rw [if_pos (by omega), hx.1, hx.2, dU_s]
            · rw [if_neg (by omega), dU_j (by omega)]
              exact i3 g t' hg' ht''
          · funext x; rw [dU_c (by decide)]
end Q9zb

