/-! ===== the reference's reckons ===== -/
def mFq (Q : Nat → Nat → Prop) (S Z : xSt) : Prop := (∀ k j, ¬ Q k j → Z.1 k j = S.1 k j) ∧ (∀ k, k ≠ 44 → Z.2.1 k = S.2.1 k) ∧ Z.2.2 = S.2.2
theorem mFq_refl {Q : Nat → Nat → Prop} {S : xSt} : mFq Q S S := ⟨fun _ _ _ => rfl, fun _ _ => rfl, rfl⟩
theorem mFq_trans {Q : Nat → Nat → Prop} {S Z V : xSt} (h1 : mFq Q S Z) (h2 : mFq Q Z V) : mFq Q S V :=
  ⟨fun k j hk => (h2.1 k j hk).trans (h1.1 k j hk), fun k hk => (h2.2.1 k hk).trans (h1.2.1 k hk), h2.2.2.trans h1.2.2⟩
theorem mFq_mono {Q Q' : Nat → Nat → Prop} {S Z : xSt} (h : mFq Q S Z) (hp : ∀ k j, Q k j → Q' k j) : mFq Q' S Z := ⟨fun k j hk => h.1 k j (fun hh => hk (hp k j hh)), h.2⟩
theorem mFq_upd {Q : Nat → Nat → Prop} {S : xSt} {k j : Nat} {v : Int32} (h : Q k j) : mFq Q S (xuI S k j v) := by
  refine ⟨fun k' j' hk' => ?_, fun _ _ => rfl, rfl⟩
  rw [quI1]
  by_cases h1 : k' = k
  · rw [if_pos h1]
    by_cases h2 : j' = j
    · subst h1; subst h2; exact absurd h hk'
    · rw [if_neg h2]
  · rw [if_neg h1]
theorem mFq_updL {Q : Nat → Nat → Prop} {S : xSt} {j : Nat} {v : Int64} : mFq Q S (xuL S 44 j v) := by
  refine ⟨fun _ _ _ => rfl, fun k hk => ?_, rfl⟩
  funext j'
  rw [quL2, if_neg hk]
theorem lgc_eq (x y : Int64) : (lg_cmp x y = nI 0) ↔ x = y := lg_cmp_eq x y
theorem lgc_le (x y : Int64) : (lg_cmp x y ≤ nI 0) ↔ x ≤ y := lg_cmp_le x y
theorem lgc_ge (x y : Int64) : (nI 0 ≤ lg_cmp x y) ↔ y ≤ x := lg_cmp_ge x y
theorem lgc_lt (x y : Int64) : (lg_cmp x y < nI 0) ↔ x < y := lg_cmp_lt x y
theorem lgc_gt (x y : Int64) : (nI 0 < lg_cmp x y) ↔ y < x := lg_cmp_gt x y
def qN (_ _ : Nat) : Prop := False
theorem mSt_l {f : Nat → Int64} {l : List Int64} {x : Int64} (h : mSt f l) : mSt (fun j => if j = l.length then x else f j) (x :: l) := mSt_push h
section Q30
variable {b n wh : Nat} {φ : Nat → Nat}
theorem m_r0 (hb : b < 2) (hwh : wh < 2) {S : xSt} {p to : Nat} (hbk : S.1 0 13 = nI b) (hto : S.1 20 (2 * b + wh) = nI to) (hp : p < 1600 * b + to) (hto2 : to ≤ 1600) (rec : Int32 → Int32 → xSt → Option xSt) {v m : Nat} (hv : v < 10000) (hm : m < 64) (hc : S.1 21 p = nI 0) (hcv : S.1 22 p = nI v) : fX12_reckons_L25b n 0 (nI wh) rec (nI m) (nI p) S = rec (nI (m + 1)) (nI (p + 1)) (xuL S 44 m (lN v)) := by
  have hnl := nI_l (n := v) (by omega)
  simp (disch := (first | assumption | omega | exact hB _ _ | exact hYB _ _ | (simp only [yc, yd, sh, sv, ne_eq]; omega) | (simp (disch := omega) only [↓nm_1, ↓nm_2, nI_add, pk_mul, pk_sub, Nat.add_sub_cancel, qm1_add, qm2_add, nI_clamp, ni_0, ni_1, ni_2, ni_30, ni_43, ni_44, ni_1600, hbk, hto, hc, hcv, hnl]; refine qin_nI ?_ ?_ <;> first | omega | exact hB _ _ | exact hYB _ _) | (refine qin_nI ?_ ?_ <;> omega) | fail)) only [↓km0_gd, ↓km0_gI, ↓km0_gM, ↓km0_pI, ↓km0_pM, ↓km0_pZ, ↓km0_gL, ↓km0_pL, ↓km0_gF32, ↓km0_gF33, ↓km0_gF34, ↓km0_gF67, ↓km0_gF68, ↓km20_al, ↓km20_as, ↓km20_ln, ↓km21_al, ↓km21_as, ↓km21_ln, ↓km22_al, ↓km22_as, ↓km22_ln, ↓km44_ll, ↓km44_ls, ↓km45_al, ↓km45_as, ↓km45_ln, ↓qb_so, ↓nm_1, ↓nm_2, ↓reduceIte, if_true, if_false, not_true_eq_false, not_false_eq_true, and_true, true_and, and_false, false_and, or_true, true_or, or_false, false_or, eq_self, ne_eq, quI_s, quI_n, quI2, quL1, quL2, quL3, quR1, quR2, quR3, nI_add, pk_mul, pk_sub, Nat.add_sub_cancel, qm1_add, qm2_add, nI_leI, nI_ltI, nI_eq, nI_m1, nI_m1', nI_clamp, nI_bit, nI_one_shl, nI_m1l, nI_m1lt, nI_m1lt', nI_m1le', oI_some, oI_none, ni_0, ni_1, ni_2, ni_30, ni_43, ni_44, ni_1600, fX12_reckons_L25b, qle_t, qle_f, qlt_t, qlt_f, qeq_t, qeq_f, hbk, hto, hc, hcv, hnl]
theorem m_r16 (hb : b < 2) (hwh : wh < 2) {S : xSt} {p to : Nat} (hbk : S.1 0 13 = nI b) (hto : S.1 20 (2 * b + wh) = nI to) (hp : p < 1600 * b + to) (hto2 : to ≤ 1600) (rec : Int32 → Int32 → xSt → Option xSt) {m : Nat} (hm : m < 64) (hc : S.1 21 p = nI 30) : fX12_reckons_L25b n 0 (nI wh) rec (nI m) (nI p) S = rec (nI (m + 1)) (nI (p + 1)) (xuL S 44 m 1) := by
  simp (disch := (first | assumption | omega | exact hB _ _ | exact hYB _ _ | (simp only [yc, yd, sh, sv, ne_eq]; omega) | (simp (disch := omega) only [↓nm_1, ↓nm_2, nI_add, pk_mul, pk_sub, Nat.add_sub_cancel, qm1_add, qm2_add, nI_clamp, ni_0, ni_1, ni_2, ni_30, ni_43, ni_44, ni_1600, hbk, hto, hc]; refine qin_nI ?_ ?_ <;> first | omega | exact hB _ _ | exact hYB _ _) | (refine qin_nI ?_ ?_ <;> omega) | fail)) only [↓km0_gd, ↓km0_gI, ↓km0_gM, ↓km0_pI, ↓km0_pM, ↓km0_pZ, ↓km0_gL, ↓km0_pL, ↓km0_gF32, ↓km0_gF33, ↓km0_gF34, ↓km0_gF67, ↓km0_gF68, ↓km20_al, ↓km20_as, ↓km20_ln, ↓km21_al, ↓km21_as, ↓km21_ln, ↓km22_al, ↓km22_as, ↓km22_ln, ↓km44_ll, ↓km44_ls, ↓km45_al, ↓km45_as, ↓km45_ln, ↓qb_so, ↓nm_1, ↓nm_2, ↓reduceIte, if_true, if_false, not_true_eq_false, not_false_eq_true, and_true, true_and, and_false, false_and, or_true, true_or, or_false, false_or, eq_self, ne_eq, quI_s, quI_n, quI2, quL1, quL2, quL3, quR1, quR2, quR3, nI_add, pk_mul, pk_sub, Nat.add_sub_cancel, qm1_add, qm2_add, nI_leI, nI_ltI, nI_eq, nI_m1, nI_m1', nI_clamp, nI_bit, nI_one_shl, nI_m1l, nI_m1lt, nI_m1lt', nI_m1le', oI_some, oI_none, ni_0, ni_1, ni_2, ni_30, ni_43, ni_44, ni_1600, fX12_reckons_L25b, qle_t, qle_f, qlt_t, qlt_f, qeq_t, qeq_f, hbk, hto, hc]
theorem m_r1 (hb : b < 2) (hwh : wh < 2) {S : xSt} {p to : Nat} (hbk : S.1 0 13 = nI b) (hto : S.1 20 (2 * b + wh) = nI to) (hp : p < 1600 * b + to) (hto2 : to ≤ 1600) (rec : Int32 → Int32 → xSt → Option xSt) {v m f : Nat} (hv : v < 8) (hm : m < 64) (hf : f < 1000000) (hc : S.1 21 p = nI (v + 1)) (hcv : S.1 45 (v + 1) = nI f) : fX12_reckons_L25b n 0 (nI wh) rec (nI m) (nI p) S = rec (nI (m + 1)) (nI (p + 1)) (xuL S 44 m (lN f)) := by
  have hnl := nI_l (n := f) (by omega)
  simp (disch := (first | assumption | omega | exact hB _ _ | exact hYB _ _ | (simp only [yc, yd, sh, sv, ne_eq]; omega) | (simp (disch := omega) only [↓nm_1, ↓nm_2, nI_add, pk_mul, pk_sub, Nat.add_sub_cancel, qm1_add, qm2_add, nI_clamp, ni_0, ni_1, ni_2, ni_30, ni_43, ni_44, ni_1600, hbk, hto, hc, hcv, hnl]; refine qin_nI ?_ ?_ <;> first | omega | exact hB _ _ | exact hYB _ _) | (refine qin_nI ?_ ?_ <;> omega) | fail)) only [↓km0_gd, ↓km0_gI, ↓km0_gM, ↓km0_pI, ↓km0_pM, ↓km0_pZ, ↓km0_gL, ↓km0_pL, ↓km0_gF32, ↓km0_gF33, ↓km0_gF34, ↓km0_gF67, ↓km0_gF68, ↓km20_al, ↓km20_as, ↓km20_ln, ↓km21_al, ↓km21_as, ↓km21_ln, ↓km22_al, ↓km22_as, ↓km22_ln, ↓km44_ll, ↓km44_ls, ↓km45_al, ↓km45_as, ↓km45_ln, ↓qb_so, ↓nm_1, ↓nm_2, ↓reduceIte, if_true, if_false, not_true_eq_false, not_false_eq_true, and_true, true_and, and_false, false_and, or_true, true_or, or_false, false_or, eq_self, ne_eq, quI_s, quI_n, quI2, quL1, quL2, quL3, quR1, quR2, quR3, nI_add, pk_mul, pk_sub, Nat.add_sub_cancel, qm1_add, qm2_add, nI_leI, nI_ltI, nI_eq, nI_m1, nI_m1', nI_clamp, nI_bit, nI_one_shl, nI_m1l, nI_m1lt, nI_m1lt', nI_m1le', oI_some, oI_none, ni_0, ni_1, ni_2, ni_30, ni_43, ni_44, ni_1600, fX12_reckons_L25b, qle_t, qle_f, qlt_t, qlt_f, qeq_t, qeq_f, hbk, hto, hc, hcv, hnl]
theorem m_r2 (hb : b < 2) (hwh : wh < 2) {S : xSt} {p to : Nat} (hbk : S.1 0 13 = nI b) (hto : S.1 20 (2 * b + wh) = nI to) (hp : p < 1600 * b + to) (hto2 : to ≤ 1600) (rec : Int32 → Int32 → xSt → Option xSt) {m : Nat} {a : Int64} (hm : m < 63) (hc : S.1 21 p = nI 43) (hs : S.2.1 44 m = a) : fX12_reckons_L25b n 0 (nI wh) rec (nI (m + 1)) (nI p) S = rec (nI (m + 1)) (nI (p + 1)) (xuL S 44 m (1 - a)) := by
  simp (disch := (first | assumption | omega | exact hB _ _ | exact hYB _ _ | (simp only [yc, yd, sh, sv, ne_eq]; omega) | (simp (disch := omega) only [↓nm_1, ↓nm_2, nI_add, pk_mul, pk_sub, Nat.add_sub_cancel, qm1_add, qm2_add, nI_clamp, ni_0, ni_1, ni_2, ni_30, ni_43, ni_44, ni_1600, hbk, hto, hc, hs]; refine qin_nI ?_ ?_ <;> first | omega | exact hB _ _ | exact hYB _ _) | (refine qin_nI ?_ ?_ <;> omega) | fail)) only [↓km0_gd, ↓km0_gI, ↓km0_gM, ↓km0_pI, ↓km0_pM, ↓km0_pZ, ↓km0_gL, ↓km0_pL, ↓km0_gF32, ↓km0_gF33, ↓km0_gF34, ↓km0_gF67, ↓km0_gF68, ↓km20_al, ↓km20_as, ↓km20_ln, ↓km21_al, ↓km21_as, ↓km21_ln, ↓km22_al, ↓km22_as, ↓km22_ln, ↓km44_ll, ↓km44_ls, ↓km45_al, ↓km45_as, ↓km45_ln, ↓qb_so, ↓nm_1, ↓nm_2, ↓reduceIte, if_true, if_false, not_true_eq_false, not_false_eq_true, and_true, true_and, and_false, false_and, or_true, true_or, or_false, false_or, eq_self, ne_eq, quI_s, quI_n, quI2, quL1, quL2, quL3, quR1, quR2, quR3, nI_add, pk_mul, pk_sub, Nat.add_sub_cancel, qm1_add, qm2_add, nI_leI, nI_ltI, nI_eq, nI_m1, nI_m1', nI_clamp, nI_bit, nI_one_shl, nI_m1l, nI_m1lt, nI_m1lt', nI_m1le', oI_some, oI_none, ni_0, ni_1, ni_2, ni_30, ni_43, ni_44, ni_1600, fX12_reckons_L25b, qle_t, qle_f, qlt_t, qlt_f, qeq_t, qeq_f, hbk, hto, hc, hs]
theorem m_r3 (hb : b < 2) (hwh : wh < 2) {S : xSt} {p to : Nat} (hbk : S.1 0 13 = nI b) (hto : S.1 20 (2 * b + wh) = nI to) (hp : p < 1600 * b + to) (hto2 : to ≤ 1600) (rec : Int32 → Int32 → xSt → Option xSt) {m : Nat} {a x y : Int64} (hm : m < 61) (hc : S.1 21 p = nI 44) (s0 : S.2.1 44 (m + 1 + 1) = y) (s1 : S.2.1 44 (m + 1) = x) (s2 : S.2.1 44 m = a) : fX12_reckons_L25b n 0 (nI wh) rec (nI (m + 1 + 1 + 1)) (nI p) S = rec (nI (m + 1)) (nI (p + 1)) (xuL S 44 m (if a = 1 then x else y)) := by
  have s0' : ∀ i, i = m + 1 + 1 → S.2.1 44 i = y := fun i hi => by rw [hi]; exact s0
  have s1' : ∀ i, i = m + 1 → S.2.1 44 i = x := fun i hi => by rw [hi]; exact s1
  clear s0 s1
  by_cases ha : a = 1
  · rw [if_pos ha]
    rw [ha] at s2
    have e : lg_cmp 1 1 = nI 0 := (lgc_eq 1 1).mpr rfl
    simp (disch := (first | assumption | omega | exact hB _ _ | exact hYB _ _ | (simp only [yc, yd, sh, sv, ne_eq]; omega) | (simp (disch := omega) only [↓nm_1, ↓nm_2, nI_add, pk_mul, pk_sub, Nat.add_sub_cancel, qm1_add, qm2_add, nI_clamp, ni_0, ni_1, ni_2, ni_30, ni_43, ni_44, ni_1600, hbk, hto, hc, s0', s1', s2, e]; refine qin_nI ?_ ?_ <;> first | omega | exact hB _ _ | exact hYB _ _) | (refine qin_nI ?_ ?_ <;> omega) | fail)) only [↓km0_gd, ↓km0_gI, ↓km0_gM, ↓km0_pI, ↓km0_pM, ↓km0_pZ, ↓km0_gL, ↓km0_pL, ↓km0_gF32, ↓km0_gF33, ↓km0_gF34, ↓km0_gF67, ↓km0_gF68, ↓km20_al, ↓km20_as, ↓km20_ln, ↓km21_al, ↓km21_as, ↓km21_ln, ↓km22_al, ↓km22_as, ↓km22_ln, ↓km44_ll, ↓km44_ls, ↓km45_al, ↓km45_as, ↓km45_ln, ↓qb_so, ↓nm_1, ↓nm_2, ↓reduceIte, if_true, if_false, not_true_eq_false, not_false_eq_true, and_true, true_and, and_false, false_and, or_true, true_or, or_false, false_or, eq_self, ne_eq, quI_s, quI_n, quI2, quL1, quL2, quL3, quR1, quR2, quR3, nI_add, pk_mul, pk_sub, Nat.add_sub_cancel, qm1_add, qm2_add, nI_leI, nI_ltI, nI_eq, nI_m1, nI_m1', nI_clamp, nI_bit, nI_one_shl, nI_m1l, nI_m1lt, nI_m1lt', nI_m1le', oI_some, oI_none, ni_0, ni_1, ni_2, ni_30, ni_43, ni_44, ni_1600, fX12_reckons_L25b, qle_t, qle_f, qlt_t, qlt_f, qeq_t, qeq_f, hbk, hto, hc, s0', s1', s2, e]
  · rw [if_neg ha]
    have e : (lg_cmp a 1 = nI 0) = False := eq_false (fun h => ha ((lgc_eq a 1).mp h))
    simp (disch := (first | assumption | omega | exact hB _ _ | exact hYB _ _ | (simp only [yc, yd, sh, sv, ne_eq]; omega) | (simp (disch := omega) only [↓nm_1, ↓nm_2, nI_add, pk_mul, pk_sub, Nat.add_sub_cancel, qm1_add, qm2_add, nI_clamp, ni_0, ni_1, ni_2, ni_30, ni_43, ni_44, ni_1600, hbk, hto, hc, s0', s1', s2, e]; refine qin_nI ?_ ?_ <;> first | omega | exact hB _ _ | exact hYB _ _) | (refine qin_nI ?_ ?_ <;> omega) | fail)) only [↓km0_gd, ↓km0_gI, ↓km0_gM, ↓km0_pI, ↓km0_pM, ↓km0_pZ, ↓km0_gL, ↓km0_pL, ↓km0_gF32, ↓km0_gF33, ↓km0_gF34, ↓km0_gF67, ↓km0_gF68, ↓km20_al, ↓km20_as, ↓km20_ln, ↓km21_al, ↓km21_as, ↓km21_ln, ↓km22_al, ↓km22_as, ↓km22_ln, ↓km44_ll, ↓km44_ls, ↓km45_al, ↓km45_as, ↓km45_ln, ↓qb_so, ↓nm_1, ↓nm_2, ↓reduceIte, if_true, if_false, not_true_eq_false, not_false_eq_true, and_true, true_and, and_false, false_and, or_true, true_or, or_false, false_or, eq_self, ne_eq, quI_s, quI_n, quI2, quL1, quL2, quL3, quR1, quR2, quR3, nI_add, pk_mul, pk_sub, Nat.add_sub_cancel, qm1_add, qm2_add, nI_leI, nI_ltI, nI_eq, nI_m1, nI_m1', nI_clamp, nI_bit, nI_one_shl, nI_m1l, nI_m1lt, nI_m1lt', nI_m1le', oI_some, oI_none, ni_0, ni_1, ni_2, ni_30, ni_43, ni_44, ni_1600, fX12_reckons_L25b, qle_t, qle_f, qlt_t, qlt_f, qeq_t, qeq_f, hbk, hto, hc, s0', s1', s2, e]
theorem m_r4 (hb : b < 2) (hwh : wh < 2) {S : xSt} {p to : Nat} (hbk : S.1 0 13 = nI b) (hto : S.1 20 (2 * b + wh) = nI to) (hp : p < 1600 * b + to) (hto2 : to ≤ 1600) (rec : Int32 → Int32 → xSt → Option xSt) {m op : Nat} {x y : Int64} (hm : m < 62) (h4 : 4 ≤ op) (h15 : op ≤ 15) (hc : S.1 21 p = nI (op + 27)) (s0 : S.2.1 44 (m + 1) = y) (s1 : S.2.1 44 m = x) : fX12_reckons_L25b n 0 (nI wh) rec (nI (m + 1 + 1)) (nI p) S = rec (nI (m + 1)) (nI (p + 1)) (xuL S 44 m (e2 op x y)) := by
  have e := fun S => m_two (S := S) (a := x) (b := y) h4 h15
  have s0' : ∀ i, i = m + 1 → S.2.1 44 i = y := fun i hi => by rw [hi]; exact s0
  clear s0
  simp (disch := (first | assumption | omega | exact hB _ _ | exact hYB _ _ | (simp only [yc, yd, sh, sv, ne_eq]; omega) | (simp (disch := omega) only [↓nm_1, ↓nm_2, nI_add, pk_mul, pk_sub, Nat.add_sub_cancel, qm1_add, qm2_add, nI_clamp, ni_0, ni_1, ni_2, ni_30, ni_43, ni_44, ni_1600, hbk, hto, hc, s0', s1, e]; refine qin_nI ?_ ?_ <;> first | omega | exact hB _ _ | exact hYB _ _) | (refine qin_nI ?_ ?_ <;> omega) | fail)) only [↓km0_gd, ↓km0_gI, ↓km0_gM, ↓km0_pI, ↓km0_pM, ↓km0_pZ, ↓km0_gL, ↓km0_pL, ↓km0_gF32, ↓km0_gF33, ↓km0_gF34, ↓km0_gF67, ↓km0_gF68, ↓km20_al, ↓km20_as, ↓km20_ln, ↓km21_al, ↓km21_as, ↓km21_ln, ↓km22_al, ↓km22_as, ↓km22_ln, ↓km44_ll, ↓km44_ls, ↓km45_al, ↓km45_as, ↓km45_ln, ↓qb_so, ↓nm_1, ↓nm_2, ↓reduceIte, if_true, if_false, not_true_eq_false, not_false_eq_true, and_true, true_and, and_false, false_and, or_true, true_or, or_false, false_or, eq_self, ne_eq, quI_s, quI_n, quI2, quL1, quL2, quL3, quR1, quR2, quR3, nI_add, pk_mul, pk_sub, Nat.add_sub_cancel, qm1_add, qm2_add, nI_leI, nI_ltI, nI_eq, nI_m1, nI_m1', nI_clamp, nI_bit, nI_one_shl, nI_m1l, nI_m1lt, nI_m1lt', nI_m1le', oI_some, oI_none, ni_0, ni_1, ni_2, ni_30, ni_43, ni_44, ni_1600, fX12_reckons_L25b, qle_t, qle_f, qlt_t, qlt_f, qeq_t, qeq_f, hbk, hto, hc, s0', s1, e]
theorem m_run1 (hb : b < 2) (hwh : wh < 2) {S : xSt} {o : Nat × Nat} {s s' : List Bool} {l : List Int64} (hφ : ∀ i, φ i < 1000000) (ht : t1 o s = some s') (hl : eVs s l) (hlen : s.length < 64) (hst : mSt (S.2.1 44) l) {p to : Nat} (hbk : S.1 0 13 = nI b) (hto : S.1 20 (2 * b + wh) = nI to) (hp : p < 1600 * b + to) (hto2 : to ≤ 1600)
    (hc : S.1 21 p = nI (mSort o)) (hcv : o.1 = 0 → S.1 22 p = nI o.2) (hfa : o.1 = 1 → S.1 45 (o.2 + 1) = nI (φ o.2)) (rec : Int32 → Int32 → xSt → Option xSt) :
    ∃ Z, fX12_reckons_L25b n 0 (nI wh) rec (nI l.length) (nI p) S = rec (nI (e1 φ o l).length) (nI (p + 1)) Z ∧ mFq qN S Z ∧ mSt (Z.2.1 44) (e1 φ o l) := by
  have hll : l.length < 64 := by rw [← eVs_len hl]; exact hlen
  obtain ⟨op, v⟩ := o
  unfold t1 at ht
  simp only at ht hcv hfa
  split at ht
  · cases ht
  rename_i hv0
  have hv : v < 10000 := by omega
  split at ht
  · rename_i h0
    subst h0
    refine ⟨_, m_r0 hb hwh hbk hto hp hto2 rec hv hll (hc.trans (congrArg nI (show mSort (0, v) = 0 from rfl))) (hcv rfl), mFq_updL, ?_⟩
    rw [quL2s]
    exact mSt_push hst
  rename_i h0
  split at ht
  · rename_i h1
    subst h1
    refine ⟨_, m_r16 hb hwh hbk hto hp hto2 rec hll (hc.trans (congrArg nI (show mSort (16, v) = 30 from rfl))), mFq_updL, ?_⟩
    rw [quL2s]
    exact mSt_push hst
  rename_i h1
  split at ht
  · rename_i h2
    subst h2
    split at ht
    · rename_i hv8
      refine ⟨_, m_r1 hb hwh hbk hto hp hto2 rec hv8 hll (hφ v) (hc.trans (congrArg nI (show mSort (1, v) = v + 1 from rfl))) (hfa rfl), mFq_updL, ?_⟩
      rw [quL2s]
      exact mSt_push hst
    · cases ht
  rename_i h2
  split at ht
  · rename_i h3
    subst h3
    split at ht
    · cases ht
      cases l with
      | nil => cases hl
      | cons a r =>
        have hr : r.length < 63 := by have := hll; simp only [List.length_cons] at this; omega
        refine ⟨_, m_r2 hb hwh hbk hto hp hto2 rec hr (hc.trans (congrArg nI (show mSort (2, v) = 43 from rfl))) hst.1, mFq_updL, ?_⟩
        rw [quL2s]
        exact mSt_push hst.2
    · cases ht
  rename_i h3
  split at ht
  · rename_i h4
    subst h4
    split at ht
    · cases ht
      match l, hl, hst, hll with
      | y :: x :: a :: r, hl, hst, hll =>
        have hr : r.length < 61 := by have := hll; simp only [List.length_cons] at this; omega
        refine ⟨_, m_r3 hb hwh hbk hto hp hto2 rec hr (hc.trans (congrArg nI (show mSort (3, v) = 44 from rfl))) hst.1 hst.2.1 hst.2.2.1, mFq_updL, ?_⟩
        rw [quL2s]
        exact mSt_push hst.2.2.2
    · cases ht
  rename_i h4
  have key : op ≤ 15 ∧ 4 ≤ op ∧ ∃ y x r, l = y :: x :: r := by
    split at ht
    · split at ht
      · match l, hl with
        | y :: x :: r, hl => exact ⟨by omega, by omega, y, x, r, rfl⟩
      · cases ht
    split at ht
    · split at ht
      · match l, hl with
        | y :: x :: r, hl => exact ⟨by omega, by omega, y, x, r, rfl⟩
      · cases ht
    split at ht
    · split at ht
      · match l, hl with
        | y :: x :: r, hl => exact ⟨by omega, by omega, y, x, r, rfl⟩
      · cases ht
    cases ht
  obtain ⟨h15, h44, y, x, r, rfl⟩ := key
  have hc' : S.1 21 p = nI (op + 27) := by rw [hc]; unfold mSort; simp only [h0, h1, h2, h3, h4, if_false]
  have hr : r.length < 62 := by have := hll; simp only [List.length_cons] at this; omega
  have ee : e1 φ (op, v) (y :: x :: r) = e2 op x y :: r := by
    unfold e1
    simp only [h0, h1, h2, h3, h4, if_false]
  rw [ee]
  refine ⟨_, m_r4 hb hwh hbk hto hp hto2 rec hr h44 h15 hc' hst.1 hst.2.1, mFq_updL, ?_⟩
  rw [quL2s]
  exact mSt_push hst.2.2
theorem m_runL (hb : b < 2) (hwh : wh < 2) (hφ : ∀ i, φ i < 1000000) {to : Nat} (hto2 : to ≤ 1600) : ∀ (c : List (Nat × Nat)) (p q : Nat) (l : List Int64) (s s' : List Bool) (S : xSt), S.1 0 13 = nI b → S.1 20 (2 * b + wh) = nI to → mFa (S.1 45) φ c → tRun c s = some s' → eVs s l → mCode (S.1 21) (S.1 22) p c → mSt (S.2.1 44) l → p + c.length = 1600 * b + to → c.length < q →
    ∃ Z, fX12_reckons_L25 n 0 (nI wh) q (nI l.length) (nI p) S = some Z ∧ mFq qN S Z ∧ mSt (Z.2.1 44) (eRun φ c l)
  | [], p, q, l, s, s', S, hbk, hto, hF, ht, hl, hc, hst, hp, hq => by
    obtain ⟨q, rfl⟩ : ∃ q', q = q' + 1 := ⟨q - 1, by simp only [List.length_nil] at hq; omega⟩
    simp only [List.length_nil] at hp
    refine ⟨S, ?_, mFq_refl, hst⟩
    show fX12_reckons_L25b _ _ _ _ _ _ _ = _
    simp (disch := (first | assumption | omega | exact hB _ _ | exact hYB _ _ | (simp only [yc, yd, sh, sv, ne_eq]; omega) | (simp (disch := omega) only [↓nm_1, ↓nm_2, nI_add, pk_mul, pk_sub, Nat.add_sub_cancel, qm1_add, qm2_add, nI_clamp, ni_0, ni_1, ni_2, ni_30, ni_43, ni_44, ni_1600, hbk, hto]; refine qin_nI ?_ ?_ <;> first | omega | exact hB _ _ | exact hYB _ _) | (refine qin_nI ?_ ?_ <;> omega) | fail)) only [↓km0_gd, ↓km0_gI, ↓km0_gM, ↓km0_pI, ↓km0_pM, ↓km0_pZ, ↓km0_gL, ↓km0_pL, ↓km0_gF32, ↓km0_gF33, ↓km0_gF34, ↓km0_gF67, ↓km0_gF68, ↓km20_al, ↓km20_as, ↓km20_ln, ↓km21_al, ↓km21_as, ↓km21_ln, ↓km22_al, ↓km22_as, ↓km22_ln, ↓km44_ll, ↓km44_ls, ↓km45_al, ↓km45_as, ↓km45_ln, ↓qb_so, ↓nm_1, ↓nm_2, ↓reduceIte, if_true, if_false, not_true_eq_false, not_false_eq_true, and_true, true_and, and_false, false_and, or_true, true_or, or_false, false_or, eq_self, ne_eq, quI_s, quI_n, quI2, quL1, quL2, quL3, quR1, quR2, quR3, nI_add, pk_mul, pk_sub, Nat.add_sub_cancel, qm1_add, qm2_add, nI_leI, nI_ltI, nI_eq, nI_m1, nI_m1', nI_clamp, nI_bit, nI_one_shl, nI_m1l, nI_m1lt, nI_m1lt', nI_m1le', oI_some, oI_none, ni_0, ni_1, ni_2, ni_30, ni_43, ni_44, ni_1600, fX12_reckons_L25b, qle_t, qle_f, qlt_t, qlt_f, qeq_t, qeq_f, hbk, hto]
  | o :: c, p, q, l, s, s', S, hbk, hto, hF, ht, hl, hc, hst, hp, hq => by
    obtain ⟨q, rfl⟩ : ∃ q', q = q' + 1 := ⟨q - 1, by simp only [List.length_cons] at hq; omega⟩
    simp only [List.length_cons] at hp hq
    unfold tRun at ht
    split at ht
    · rename_i hlen
      cases h1 : t1 o s with
      | none => rw [h1] at ht; cases ht
      | some s1 =>
        rw [h1] at ht
        obtain ⟨Z, e, hfr, hst1⟩ := m_run1 (n := n) hb hwh hφ h1 hl hlen hst (p := p) (to := to) hbk hto (by omega) hto2 hc.1 hc.2.1 (hF o (List.mem_cons_self)) (fX12_reckons_L25 n 0 (nI wh) q)
        have k1 : ∀ k j, Z.1 k j = S.1 k j := fun k j => hfr.1 k j (fun h => h)
        have k2 : ∀ k, Z.1 k = S.1 k := fun k => funext (k1 k)
        obtain ⟨V, e2, hfr2, hst2⟩ := m_runL hb hwh hφ hto2 c (p + 1) q (e1 φ o l) s1 s' Z (by rw [k1]; exact hbk) (by rw [k1]; exact hto) (by rw [k2]; exact fun o' ho' => hF o' (List.mem_cons_of_mem _ ho')) ht (e1_ok hφ h1 hl) (by rw [k2, k2]; exact hc.2.2) hst1 (by omega) (by omega)
        exact ⟨V, e.trans e2, mFq_trans hfr hfr2, hst2⟩
    · cases ht
theorem m_run (hb : b < 2) (hwh : wh < 2) (hφ : ∀ i, φ i < 1000000) {to p : Nat} (hto2 : to ≤ 1600) {c : List (Nat × Nat)} {t : Bool} {S : xSt} (hbk : S.1 0 13 = nI b) (hfrom : S.1 19 (2 * b + wh) = nI p) (hto : S.1 20 (2 * b + wh) = nI to) (hF : mFa (S.1 45) φ c) (ht : tRun c [] = some [t]) (hc : mCode (S.1 21) (S.1 22) (1600 * b + p) c) (hp : p + c.length = to) (hn : 2000 ≤ n) :
    (∃ Z, fX12_reckons n 0 (nI wh) S = some (eVal φ c, Z) ∧ mFq qN S Z) ∧ eV t (eVal φ c) := by
  obtain ⟨Z, e, hfr, hst⟩ := m_runL (n := n) hb hwh hφ hto2 c (1600 * b + p) n [] [] [t] S hbk hto hF ht trivial hc trivial (by omega) (by omega)
  have hv := eRun_ok hφ ht (l := []) trivial
  cases h : eRun φ c [] with
  | nil => rw [h] at hv; cases hv
  | cons x r =>
    rw [h] at hv hst
    have h2 := hv.2
    cases r with
    | cons y r => cases h2
    | nil =>
      have ev : eVal φ c = x := by unfold eVal; rw [h]
      rw [ev]
      refine ⟨⟨Z, ?_, hfr⟩, hv.1⟩
      have hs := hst.1
      simp only [List.length_nil] at hs e
      simp (disch := (first | assumption | omega | exact hB _ _ | exact hYB _ _ | (simp only [yc, yd, sh, sv, ne_eq]; omega) | (simp (disch := omega) only [↓nm_1, ↓nm_2, nI_add, pk_mul, pk_sub, Nat.add_sub_cancel, qm1_add, qm2_add, nI_clamp, ni_0, ni_1, ni_2, ni_1600, hbk, hfrom, e, hs]; refine qin_nI ?_ ?_ <;> first | omega | exact hB _ _ | exact hYB _ _) | (refine qin_nI ?_ ?_ <;> omega) | fail)) only [↓km0_gd, ↓km0_gI, ↓km0_gM, ↓km0_pI, ↓km0_pM, ↓km0_pZ, ↓km0_gL, ↓km0_pL, ↓km0_gF31, ↓km0_gF67, ↓km19_al, ↓km19_as, ↓km19_ln, ↓km44_ll, ↓km44_ls, ↓qb_so, ↓nm_1, ↓nm_2, ↓reduceIte, if_true, if_false, not_true_eq_false, not_false_eq_true, and_true, true_and, and_false, false_and, or_true, true_or, or_false, false_or, eq_self, ne_eq, quI_s, quI_n, quI2, quL1, quL2, quL3, quR1, quR2, quR3, nI_add, pk_mul, pk_sub, Nat.add_sub_cancel, qm1_add, qm2_add, nI_leI, nI_ltI, nI_eq, nI_m1, nI_m1', nI_clamp, nI_bit, nI_one_shl, nI_m1l, nI_m1lt, nI_m1lt', nI_m1le', oI_some, oI_none, ni_0, ni_1, ni_2, ni_1600, fX12_reckons, qle_t, qle_f, qlt_t, qlt_f, qeq_t, qeq_f, hbk, hfrom, e, hs]
end Q30

