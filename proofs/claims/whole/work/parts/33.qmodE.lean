theorem tRun_8 : ∀ {c : List (Nat × Nat)} {s s' : List Bool}, tRun c s = some s' → ∀ o, o ∈ c → o.1 = 1 → o.2 < 8
  | [], s, s', _, o, ho, _ => by cases ho
  | a :: c, s, s', h, o, ho, h1 => by
    unfold tRun at h
    split at h
    · cases h2 : t1 a s with
      | none => rw [h2] at h; cases h
      | some s1 =>
        rw [h2] at h
        rcases List.mem_cons.mp ho with rfl | ho
        · unfold t1 at h2
          rw [h1] at h2
          split at h2
          · cases h2
          · simp only [if_false, Nat.one_ne_zero, show ¬ (1 = 16) by decide, if_true] at h2
            split at h2
            · assumption
            · cases h2
        · exact tRun_8 (c := c) h o ho h1
    · cases h
theorem lN_cl {x : Int64} (h0 : ¬ x < 0) (h9 : ¬ 99 < x) : lN (s_cl x) = x := by
  unfold s_cl
  rw [if_neg h0, if_neg h9]
  rw [Int64.lt_iff_toInt_lt] at h0 h9
  have a : (99 : Int64).toInt = 99 := by decide
  have a0 : (0 : Int64).toInt = 0 := by decide
  apply Int64.toInt_inj.mp
  rw [lN_toInt (by omega)]
  omega
theorem s_cl_lN {w : Nat} (h : w ≤ 99) : s_cl (lN w) = w := by
  have e := lN_toInt (n := w) (by omega)
  have a : (99 : Int64).toInt = 99 := by decide
  have a0 : (0 : Int64).toInt = 0 := by decide
  unfold s_cl
  rw [if_neg (by rw [Int64.lt_iff_toInt_lt]; omega), if_neg (by rw [Int64.lt_iff_toInt_lt]; omega)]
  omega
section Q33
variable {S : xSt} {b v n fr : Nat} {Y D : Nat → Nat → Nat} {mc wc : List (Nat × Nat)} {R row : Nat → Nat}
theorem m_isTold {wh : Nat} {cs : List (Nat × Nat)} (hb : b < 2) (hwh : wh < 2) (hbk : S.1 0 13 = nI b) (h : mKo S b wh cs) : fX12_isTold 0 (nI wh) S = some (nI (if cs = [] then 0 else 1)) := by
  by_cases hc : cs = []
  · have e := h.1 hc
    simp (disch := (first | assumption | omega | exact hB _ _ | exact hYB _ _ | (simp only [yc, yd, sh, sv, ne_eq]; omega) | (simp (disch := omega) only [↓nm_1, ↓nm_2, nI_add, pk_mul, pk_sub, Nat.add_sub_cancel, qm1_add, qm2_add, nI_clamp, ni_0, ni_1, ni_2, hbk, e, hc]; refine qin_nI ?_ ?_ <;> first | omega | exact hB _ _ | exact hYB _ _) | (refine qin_nI ?_ ?_ <;> omega) | fail)) only [↓km0_gd, ↓km0_gI, ↓km0_gM, ↓km0_pI, ↓km0_pM, ↓km0_pZ, ↓km0_gL, ↓km0_pL, ↓km0_gF31, ↓km19_al, ↓km19_as, ↓km19_ln, ↓qb_so, ↓nm_1, ↓nm_2, ↓reduceIte, if_true, if_false, not_true_eq_false, not_false_eq_true, and_true, true_and, and_false, false_and, or_true, true_or, or_false, false_or, eq_self, ne_eq, quI_s, quI_n, quI2, quL1, quL2, quL3, quR1, quR2, quR3, nI_add, pk_mul, pk_sub, Nat.add_sub_cancel, qm1_add, qm2_add, nI_leI, nI_ltI, nI_eq, nI_m1, nI_m1', nI_clamp, nI_bit, nI_one_shl, nI_m1l, nI_m1lt, nI_m1lt', nI_m1le', oI_some, oI_none, ni_0, ni_1, ni_2, fX12_isTold, qle_t, qle_f, qlt_t, qlt_f, qeq_t, qeq_f, hbk, e, hc]
  · obtain ⟨p, e, _, hp, _⟩ := h.2 hc
    simp (disch := (first | assumption | omega | exact hB _ _ | exact hYB _ _ | (simp only [yc, yd, sh, sv, ne_eq]; omega) | (simp (disch := omega) only [↓nm_1, ↓nm_2, nI_add, pk_mul, pk_sub, Nat.add_sub_cancel, qm1_add, qm2_add, nI_clamp, ni_0, ni_1, ni_2, hbk, e, hc]; refine qin_nI ?_ ?_ <;> first | omega | exact hB _ _ | exact hYB _ _) | (refine qin_nI ?_ ?_ <;> omega) | fail)) only [↓km0_gd, ↓km0_gI, ↓km0_gM, ↓km0_pI, ↓km0_pM, ↓km0_pZ, ↓km0_gL, ↓km0_pL, ↓km0_gF31, ↓km19_al, ↓km19_as, ↓km19_ln, ↓qb_so, ↓nm_1, ↓nm_2, ↓reduceIte, if_true, if_false, not_true_eq_false, not_false_eq_true, and_true, true_and, and_false, false_and, or_true, true_or, or_false, false_or, eq_self, ne_eq, quI_s, quI_n, quI2, quL1, quL2, quL3, quR1, quR2, quR3, nI_add, pk_mul, pk_sub, Nat.add_sub_cancel, qm1_add, qm2_add, nI_leI, nI_ltI, nI_eq, nI_m1, nI_m1', nI_clamp, nI_bit, nI_one_shl, nI_m1l, nI_m1lt, nI_m1lt', nI_m1le', oI_some, oI_none, ni_0, ni_1, ni_2, fX12_isTold, qle_t, qle_f, qlt_t, qlt_f, qeq_t, qeq_f, hbk, e, hc]
theorem tl_facts {a1 a2 a3 a4 a5 a6 : Int32} : (tlC S a1 a2 a3 a4 a5 a6).1 45 = fun i => if i = 6 then a6 else if i = 5 then a5 else if i = 4 then a4 else if i = 3 then a3 else if i = 2 then a2 else if i = 1 then a1 else S.1 45 i := by
  funext i
  unfold tlC
  rw [quI_s, quI_s, quI_s, quI_s, quI_s, quI_s]
theorem m_fa6 {j t g : Nat} {cs : List (Nat × Nat)} (h : ∀ o, o ∈ cs → o.1 = 1 → o.2 < 6) : mFa ((tlC S (nI (s_rest Y R D (s_kind Y D j))) (nI (D 1 t)) (nI (D 2 (8 * g + t))) (nI (Y 11 (4 * j + D 3 j))) (nI (D 0 0)) (nI (s_late Y D j))).1 45) (s_ph Y R D fr j t g) cs := by
  intro o ho h1
  have h2 := h o ho h1
  rw [tl_facts]
  rcases (by omega : o.2 = 0 ∨ o.2 = 1 ∨ o.2 = 2 ∨ o.2 = 3 ∨ o.2 = 4 ∨ o.2 = 5) with e | e | e | e | e | e <;> rw [e] <;> rfl
theorem m_fa8 {j t g : Nat} {cs : List (Nat × Nat)} (h : ∀ o, o ∈ cs → o.1 = 1 → o.2 < 8) : mFa ((xuI (xuI (tlC S (nI (s_rest Y R D (s_kind Y D j))) (nI (D 1 t)) (nI (D 2 (8 * g + t))) (nI (Y 11 (4 * j + D 3 j))) (nI (D 0 0)) (nI (s_late Y D j))) 45 7 (nI fr)) 45 8 (nI (s_pc (D 5 0)))).1 45) (s_ph Y R D fr j t g) cs := by
  intro o ho h1
  have h2 := h o ho h1
  rw [quI_s, quI_s, tl_facts]
  rcases (by omega : o.2 = 0 ∨ o.2 = 1 ∨ o.2 = 2 ∨ o.2 = 3 ∨ o.2 = 4 ∨ o.2 = 5 ∨ o.2 = 6 ∨ o.2 = 7) with e | e | e | e | e | e | e | e <;> rw [e] <;> rfl
theorem m_allowed (hb : b < 2) (hv : v < 22) (h : mW S b v Y mc wc R row fr D) (hY : yrOk Y) (hD : dOk Y D) (hK : kOk mc wc) (hRb : ∀ k, R k < 2 ^ 31) (hn : 2000 ≤ n) (hfr : fr ≤ 1) {j t g : Nat} (hj : j < Y 2 3) (ht : t < Y 2 1) (hg : g < Y 2 2) (hd : D 3 j < Y 9 j) (hk : Y 5 t = s_kind Y D j) :
    ∃ Z, fX12_isAllowed n 0 (nI v) (nI j) (nI t) (nI g) S = some (nI (if s_may Y mc R D fr j t g = true then 1 else 0), Z) ∧ mFq aQ S Z := by
  have h60 : D 0 4 ≤ 60 := by have := dOk_told hY hD; omega
  have hst := hY.2.2.2.2.2.1 j hj
  have eT := m_isTold (wh := 1) hb (by decide) h.1.1 h.1.2.2.2.2.2.2.2.2.2.1
  unfold s_may
  by_cases hm : mc = []
  · have ek := m_kot hb h.1 hY ht
    have ed := h.2.1.1.1
    have er := m_rest (k := Y 5 t) hb h.1 hY hD h.2.2.2.1 hRb (by rw [hk]; exact (hst.2.2 _ hd).1)
    rw [hk] at er
    refine ⟨S, ?_, mFq_refl⟩
    have hre : s_rest Y R D (s_kind Y D j) = 0 ∨ s_rest Y R D (s_kind Y D j) = 1 := by unfold s_rest; split <;> simp
    rcases hre with hre | hre <;> rw [hre] at er ⊢
    · simp (disch := (first | assumption | omega | exact hB _ _ | exact hYB _ _ | (simp only [yc, yd, sh, sv, ne_eq]; omega) | (simp (disch := omega) only [↓nm_1, ↓nm_2, nI_add, pk_mul, pk_sub, Nat.add_sub_cancel, qm1_add, qm2_add, nI_clamp, ni_0, ni_1, ni_7, eT, hm, ek, ed, hk, er, decide_true]; refine qin_nI ?_ ?_ <;> first | omega | exact hB _ _ | exact hYB _ _) | (refine qin_nI ?_ ?_ <;> omega) | fail)) only [↓km0_gd, ↓km0_gI, ↓km0_gM, ↓km0_pI, ↓km0_pM, ↓km0_pZ, ↓km0_gL, ↓km0_pL, ↓km0_gF54, ↓km0_gF68, ↓km34_al, ↓km34_as, ↓km34_ln, ↓km45_al, ↓km45_as, ↓km45_ln, ↓qb_so, ↓nm_1, ↓nm_2, ↓reduceIte, if_true, if_false, not_true_eq_false, not_false_eq_true, and_true, true_and, and_false, false_and, or_true, true_or, or_false, false_or, eq_self, ne_eq, quI_s, quI_n, quI2, quL1, quL2, quL3, quR1, quR2, quR3, nI_add, pk_mul, pk_sub, Nat.add_sub_cancel, qm1_add, qm2_add, nI_leI, nI_ltI, nI_eq, nI_m1, nI_m1', nI_clamp, nI_bit, nI_one_shl, nI_m1l, nI_m1lt, nI_m1lt', nI_m1le', oI_some, oI_none, ni_0, ni_1, ni_7, fX12_isAllowed, qle_t, qle_f, qlt_t, qlt_f, qeq_t, qeq_f, eT, hm, ek, ed, hk, er, decide_true]
    · simp (disch := (first | assumption | omega | exact hB _ _ | exact hYB _ _ | (simp only [yc, yd, sh, sv, ne_eq]; omega) | (simp (disch := omega) only [↓nm_1, ↓nm_2, nI_add, pk_mul, pk_sub, Nat.add_sub_cancel, qm1_add, qm2_add, nI_clamp, ni_0, ni_1, ni_7, eT, hm, ek, ed, hk, er, Nat.one_ne_zero, decide_false, Bool.false_eq_true]; refine qin_nI ?_ ?_ <;> first | omega | exact hB _ _ | exact hYB _ _) | (refine qin_nI ?_ ?_ <;> omega) | fail)) only [↓km0_gd, ↓km0_gI, ↓km0_gM, ↓km0_pI, ↓km0_pM, ↓km0_pZ, ↓km0_gL, ↓km0_pL, ↓km0_gF54, ↓km0_gF68, ↓km34_al, ↓km34_as, ↓km34_ln, ↓km45_al, ↓km45_as, ↓km45_ln, ↓qb_so, ↓nm_1, ↓nm_2, ↓reduceIte, if_true, if_false, not_true_eq_false, not_false_eq_true, and_true, true_and, and_false, false_and, or_true, true_or, or_false, false_or, eq_self, ne_eq, quI_s, quI_n, quI2, quL1, quL2, quL3, quR1, quR2, quR3, nI_add, pk_mul, pk_sub, Nat.add_sub_cancel, qm1_add, qm2_add, nI_leI, nI_ltI, nI_eq, nI_m1, nI_m1', nI_clamp, nI_bit, nI_one_shl, nI_m1l, nI_m1lt, nI_m1lt', nI_m1le', oI_some, oI_none, ni_0, ni_1, ni_7, fX12_isAllowed, qle_t, qle_f, qlt_t, qlt_f, qeq_t, qeq_f, eT, hm, ek, ed, hk, er, Nat.one_ne_zero, decide_false, Bool.false_eq_true]
  · obtain ⟨p, k1, k2, k3, k4⟩ := h.1.2.2.2.2.2.2.2.2.2.1.2 hm
    have et := m_tells hb hv h hY hD hRb hj ht hg hd hk
    have hf6 := fun cs hcs => m_fa8 (S := S) (Y := Y) (R := R) (D := D) (fr := fr) (j := j) (t := t) (g := g) (cs := cs) hcs
    generalize hT : tlC S (nI (s_rest Y R D (s_kind Y D j))) (nI (D 1 t)) (nI (D 2 (8 * g + t))) (nI (Y 11 (4 * j + D 3 j))) (nI (D 0 0)) (nI (s_late Y D j)) = T at et hf6
    have fT : mFq aQ S T := by rw [← hT]; exact tlC_fr
    have wT := mW_a hY fT h60 h
    have u75 := wT.2.2.1.2.2
    have f2 : mFq aQ S (xuI (xuI T 45 7 (nI fr)) 45 8 (nI (s_pc (D 5 0)))) := mFq_trans (mFq_trans fT (mFq_upd rfl)) (mFq_upd rfl)
    have eq1 : ∀ k i, k ≠ 45 → (xuI (xuI T 45 7 (nI fr)) 45 8 (nI (s_pc (D 5 0)))).1 k i = S.1 k i := fun k i hk => f2.1 k i hk
    have hu : D 5 0 < 256 := s_2pow8 hD.2.2.2.2.2.2.2.2.2.2.1 hY.1.2.1
    have eb := m_bits (n := n) (S := xuI T 45 7 (nI fr)) hn hu
    have u73 : T.1 0 73 = nI (D 5 0) := wT.2.2.1.1
    obtain ⟨⟨Z, e, hfz⟩, hv'⟩ := m_run (n := n) (wh := 1) (to := p + mc.length) (p := p) (φ := s_ph Y R D fr j t g) hb (by decide) (s_ph_b hY hD hfr (hst.2.2 _ hd).2.2) k3 (c := mc) (S := xuI (xuI T 45 7 (nI fr)) 45 8 (nI (s_pc (D 5 0)))) (by rw [eq1 _ _ (by decide)]; exact h.1.1) (by rw [eq1 _ _ (by decide)]; exact k1) (by rw [eq1 _ _ (by decide)]; exact k2) (hf6 mc (tRun_8 (hK.1 hm))) (hK.1 hm) (by rw [show (xuI (xuI T 45 7 (nI fr)) 45 8 (nI (s_pc (D 5 0)))).1 21 = S.1 21 from funext fun i => eq1 _ _ (by decide), show (xuI (xuI T 45 7 (nI fr)) 45 8 (nI (s_pc (D 5 0)))).1 22 = S.1 22 from funext fun i => eq1 _ _ (by decide)]; exact k4) rfl hn
    refine ⟨Z, ?_, mFq_trans f2 (mFq_mono hfz (fun k i hh => hh.elim))⟩
    rw [eV_t] at hv'
    have hfr2 : fr = 0 ∨ fr = 1 := by omega
    rcases hv' with hv' | hv'
    · have hz1 : (lg_cmp (0 : Int64) 1 = nI 0) = False := eq_false (fun hh => by have := (lgc_eq 0 1).mp hh; revert this; decide)
      have hz2 : ((0 : Int64) = 1) = False := by decide
      rw [hv'] at e
      rcases hfr2 with hfr2 | hfr2 <;> rw [hfr2] at e u75 eb hv' ⊢
      · simp (disch := (first | assumption | omega | exact hB _ _ | exact hYB _ _ | (simp only [yc, yd, sh, sv, ne_eq]; omega) | (simp (disch := omega) only [↓nm_1, ↓nm_2, nI_add, pk_mul, pk_sub, Nat.add_sub_cancel, qm1_add, qm2_add, nI_clamp, ni_0, ni_1, ni_7, ni_8, eT, hm, et, u75, u73, eb, e, hz1, hv', hz2, decide_false, Bool.false_eq_true]; refine qin_nI ?_ ?_ <;> first | omega | exact hB _ _ | exact hYB _ _) | (refine qin_nI ?_ ?_ <;> omega) | fail)) only [↓km0_gd, ↓km0_gI, ↓km0_gM, ↓km0_pI, ↓km0_pM, ↓km0_pZ, ↓km0_gL, ↓km0_pL, ↓km0_gF54, ↓km0_gF68, ↓km34_al, ↓km34_as, ↓km34_ln, ↓km45_al, ↓km45_as, ↓km45_ln, ↓qb_so, ↓nm_1, ↓nm_2, ↓reduceIte, if_true, if_false, not_true_eq_false, not_false_eq_true, and_true, true_and, and_false, false_and, or_true, true_or, or_false, false_or, eq_self, ne_eq, quI_s, quI_n, quI2, quL1, quL2, quL3, quR1, quR2, quR3, nI_add, pk_mul, pk_sub, Nat.add_sub_cancel, qm1_add, qm2_add, nI_leI, nI_ltI, nI_eq, nI_m1, nI_m1', nI_clamp, nI_bit, nI_one_shl, nI_m1l, nI_m1lt, nI_m1lt', nI_m1le', oI_some, oI_none, ni_0, ni_1, ni_7, ni_8, fX12_isAllowed, fX12_isAllowed_B59, qle_t, qle_f, qlt_t, qlt_f, qeq_t, qeq_f, eT, hm, et, u75, u73, eb, e, hz1, hv', hz2, decide_false, Bool.false_eq_true]
      · simp (disch := (first | assumption | omega | exact hB _ _ | exact hYB _ _ | (simp only [yc, yd, sh, sv, ne_eq]; omega) | (simp (disch := omega) only [↓nm_1, ↓nm_2, nI_add, pk_mul, pk_sub, Nat.add_sub_cancel, qm1_add, qm2_add, nI_clamp, ni_0, ni_1, ni_7, ni_8, eT, hm, et, u75, u73, eb, e, hz1, hv', hz2, decide_false, Bool.false_eq_true]; refine qin_nI ?_ ?_ <;> first | omega | exact hB _ _ | exact hYB _ _) | (refine qin_nI ?_ ?_ <;> omega) | fail)) only [↓km0_gd, ↓km0_gI, ↓km0_gM, ↓km0_pI, ↓km0_pM, ↓km0_pZ, ↓km0_gL, ↓km0_pL, ↓km0_gF54, ↓km0_gF68, ↓km34_al, ↓km34_as, ↓km34_ln, ↓km45_al, ↓km45_as, ↓km45_ln, ↓qb_so, ↓nm_1, ↓nm_2, ↓reduceIte, if_true, if_false, not_true_eq_false, not_false_eq_true, and_true, true_and, and_false, false_and, or_true, true_or, or_false, false_or, eq_self, ne_eq, quI_s, quI_n, quI2, quL1, quL2, quL3, quR1, quR2, quR3, nI_add, pk_mul, pk_sub, Nat.add_sub_cancel, qm1_add, qm2_add, nI_leI, nI_ltI, nI_eq, nI_m1, nI_m1', nI_clamp, nI_bit, nI_one_shl, nI_m1l, nI_m1lt, nI_m1lt', nI_m1le', oI_some, oI_none, ni_0, ni_1, ni_7, ni_8, fX12_isAllowed, fX12_isAllowed_B59, qle_t, qle_f, qlt_t, qlt_f, qeq_t, qeq_f, eT, hm, et, u75, u73, eb, e, hz1, hv', hz2, decide_false, Bool.false_eq_true]
    · have hz1 : lg_cmp (1 : Int64) 1 = nI 0 := (lgc_eq 1 1).mpr rfl
      rw [hv'] at e
      rcases hfr2 with hfr2 | hfr2 <;> rw [hfr2] at e u75 eb hv' ⊢
      · simp (disch := (first | assumption | omega | exact hB _ _ | exact hYB _ _ | (simp only [yc, yd, sh, sv, ne_eq]; omega) | (simp (disch := omega) only [↓nm_1, ↓nm_2, nI_add, pk_mul, pk_sub, Nat.add_sub_cancel, qm1_add, qm2_add, nI_clamp, ni_0, ni_1, ni_7, ni_8, eT, hm, et, u75, u73, eb, e, hz1, hv', decide_true]; refine qin_nI ?_ ?_ <;> first | omega | exact hB _ _ | exact hYB _ _) | (refine qin_nI ?_ ?_ <;> omega) | fail)) only [↓km0_gd, ↓km0_gI, ↓km0_gM, ↓km0_pI, ↓km0_pM, ↓km0_pZ, ↓km0_gL, ↓km0_pL, ↓km0_gF54, ↓km0_gF68, ↓km34_al, ↓km34_as, ↓km34_ln, ↓km45_al, ↓km45_as, ↓km45_ln, ↓qb_so, ↓nm_1, ↓nm_2, ↓reduceIte, if_true, if_false, not_true_eq_false, not_false_eq_true, and_true, true_and, and_false, false_and, or_true, true_or, or_false, false_or, eq_self, ne_eq, quI_s, quI_n, quI2, quL1, quL2, quL3, quR1, quR2, quR3, nI_add, pk_mul, pk_sub, Nat.add_sub_cancel, qm1_add, qm2_add, nI_leI, nI_ltI, nI_eq, nI_m1, nI_m1', nI_clamp, nI_bit, nI_one_shl, nI_m1l, nI_m1lt, nI_m1lt', nI_m1le', oI_some, oI_none, ni_0, ni_1, ni_7, ni_8, fX12_isAllowed, fX12_isAllowed_B59, qle_t, qle_f, qlt_t, qlt_f, qeq_t, qeq_f, eT, hm, et, u75, u73, eb, e, hz1, hv', decide_true]
      · simp (disch := (first | assumption | omega | exact hB _ _ | exact hYB _ _ | (simp only [yc, yd, sh, sv, ne_eq]; omega) | (simp (disch := omega) only [↓nm_1, ↓nm_2, nI_add, pk_mul, pk_sub, Nat.add_sub_cancel, qm1_add, qm2_add, nI_clamp, ni_0, ni_1, ni_7, ni_8, eT, hm, et, u75, u73, eb, e, hz1, hv', decide_true]; refine qin_nI ?_ ?_ <;> first | omega | exact hB _ _ | exact hYB _ _) | (refine qin_nI ?_ ?_ <;> omega) | fail)) only [↓km0_gd, ↓km0_gI, ↓km0_gM, ↓km0_pI, ↓km0_pM, ↓km0_pZ, ↓km0_gL, ↓km0_pL, ↓km0_gF54, ↓km0_gF68, ↓km34_al, ↓km34_as, ↓km34_ln, ↓km45_al, ↓km45_as, ↓km45_ln, ↓qb_so, ↓nm_1, ↓nm_2, ↓reduceIte, if_true, if_false, not_true_eq_false, not_false_eq_true, and_true, true_and, and_false, false_and, or_true, true_or, or_false, false_or, eq_self, ne_eq, quI_s, quI_n, quI2, quL1, quL2, quL3, quR1, quR2, quR3, nI_add, pk_mul, pk_sub, Nat.add_sub_cancel, qm1_add, qm2_add, nI_leI, nI_ltI, nI_eq, nI_m1, nI_m1', nI_clamp, nI_bit, nI_one_shl, nI_m1l, nI_m1lt, nI_m1lt', nI_m1le', oI_some, oI_none, ni_0, ni_1, ni_7, ni_8, fX12_isAllowed, fX12_isAllowed_B59, qle_t, qle_f, qlt_t, qlt_f, qeq_t, qeq_f, eT, hm, et, u75, u73, eb, e, hz1, hv', decide_true]
theorem m_toolL (hb : b < 2) (hv : v < 22) (hY : yrOk Y) (hD : dOk Y D) (hK : kOk mc wc) (hRb : ∀ k, R k < 2 ^ 31) (hn : 2000 ≤ n) (hfr : fr ≤ 1) {j : Nat} (hj : j < Y 2 3) (hd : D 3 j < Y 9 j) : ∀ (k t q : Nat) (best : Option Nat) (S : xSt), mW S b v Y mc wc R row fr D → t + k = Y 2 1 → k < q → (∀ x, best = some x → x < Y 2 1) →
    ∃ Z, fX12_bestTool_L5 n 0 (nI v) (nI j) q (oI best) (nI t) S = some (oI (s_toolL Y mc R D fr j k best t), Z) ∧ mFq aQ S Z
  | 0, t, q, best, S, h, hk, hq, hx => by
    obtain ⟨q, rfl⟩ : ∃ q', q = q' + 1 := ⟨q - 1, by omega⟩
    have h8 : Y 2 1 ≤ 8 := hY.1.2.1
    have hbk := h.1.1
    have e1 := h.1.2.1.2.1
    refine ⟨S, ?_, mFq_refl⟩
    show fX12_bestTool_L5b _ _ _ _ _ _ _ _ = _
    simp (disch := (first | assumption | omega | exact hB _ _ | exact hYB _ _ | (simp only [yc, yd, sh, sv, ne_eq]; omega) | (simp (disch := omega) only [↓nm_1, ↓nm_2, nI_add, pk_mul, pk_sub, Nat.add_sub_cancel, qm1_add, qm2_add, nI_clamp, ni_0, ni_1, ni_8, hbk, e1, s_toolL]; refine qin_nI ?_ ?_ <;> first | omega | exact hB _ _ | exact hYB _ _) | (refine qin_nI ?_ ?_ <;> omega) | fail)) only [↓km0_gd, ↓km0_gI, ↓km0_gM, ↓km0_pI, ↓km0_pM, ↓km0_pZ, ↓km0_gL, ↓km0_pL, ↓km0_gF17, ↓km0_gF25, ↓km0_gF56, ↓km0_gF57, ↓km0_gF58, ↓km5_al, ↓km5_as, ↓km5_ln, ↓km13_al, ↓km13_as, ↓km13_ln, ↓km36_al, ↓km36_as, ↓km36_ln, ↓km37_al, ↓km37_as, ↓km37_ln, ↓km38_al, ↓km38_as, ↓km38_ln, ↓qb_so, ↓nm_1, ↓nm_2, ↓reduceIte, if_true, if_false, not_true_eq_false, not_false_eq_true, and_true, true_and, and_false, false_and, or_true, true_or, or_false, false_or, eq_self, ne_eq, quI_s, quI_n, quI2, quL1, quL2, quL3, quR1, quR2, quR3, nI_add, pk_mul, pk_sub, Nat.add_sub_cancel, qm1_add, qm2_add, nI_leI, nI_ltI, nI_eq, nI_m1, nI_m1', nI_clamp, nI_bit, nI_one_shl, nI_m1l, nI_m1lt, nI_m1lt', nI_m1le', oI_some, oI_none, ni_0, ni_1, ni_8, fX12_bestTool_L5b, qle_t, qle_f, qlt_t, qlt_f, qeq_t, qeq_f, hbk, e1, s_toolL]
  | k + 1, t, q, best, S, h, hk, hq, hx => by
    obtain ⟨q, rfl⟩ : ∃ q', q = q' + 1 := ⟨q - 1, by omega⟩
    have hYB := yrOk_B hY
    have hB := dOk_B hD
    have h8 : Y 2 1 ≤ 8 := hY.1.2.1
    have h6 : Y 2 3 ≤ 6 := hY.1.2.2.2
    have h60 : D 0 4 ≤ 60 := by have := dOk_told hY hD; omega
    have hst := hY.2.2.2.2.2.1 j hj
    have hbk := h.1.1
    have e1 := h.1.2.1.2.1
    have ht : t < Y 2 1 := by omega
    have ek := m_kot hb h.1 hY ht
    have est := m_stp hb hv h.1 h.2.1 hY hj
    have esk := ((h.1.2.2.2.2.2.1 j hj).2.2 _ hd).1
    have ebr := h.2.1.1.2.2.1
    have ehe := h.2.1.1.2.2.2.1
    have u73 := h.2.2.1.1
    have o1 := nI_or (a := D 0 2) (b := D 0 3) (hB _ _) (hB _ _)
    have o2 := nI_or (a := D 0 2 ||| D 0 3) (b := D 5 0) (Nat.or_lt_two_pow (hB _ _) (hB _ _)) (hB _ _)
    have hu31 : D 0 2 ||| D 0 3 ||| D 5 0 < 2 ^ 31 := Nat.or_lt_two_pow (Nat.or_lt_two_pow (hB _ _) (hB _ _)) (hB _ _)
    have eh := m_hand (n := n) hb hv h hY hD hn ht
    have same : fX12_bestTool_L5b n 0 (nI v) (nI j) (fX12_bestTool_L5 n 0 (nI v) (nI j) q) (oI best) (nI t) S = fX12_bestTool_L5 n 0 (nI v) (nI j) q (oI best) (nI (t + 1)) S → s_fits Y mc R D fr j best t = false → ∃ Z, fX12_bestTool_L5b n 0 (nI v) (nI j) (fX12_bestTool_L5 n 0 (nI v) (nI j) q) (oI best) (nI t) S = some (oI (s_toolL Y mc R D fr j (k + 1) best t), Z) ∧ mFq aQ S Z := by
      intro e hf
      obtain ⟨Z, eZ, hz⟩ := m_toolL hb hv hY hD hK hRb hn hfr hj hd k (t + 1) q best S h (by omega) (by omega) hx
      refine ⟨Z, ?_, hz⟩
      rw [e, eZ]
      show _ = some (oI (s_toolL Y mc R D fr j k (if s_fits Y mc R D fr j best t = true then some t else best) (t + 1)), Z)
      rw [hf]
      rfl
    show ∃ Z, fX12_bestTool_L5b _ _ _ _ _ _ _ _ = _ ∧ _
    have ek5 : Y 5 t < 2 ^ 31 := hYB _ _
    have ek10 : Y 10 (4 * j + D 3 j) < 2 ^ 31 := hYB _ _
    by_cases h1 : Y 5 t = s_kind Y D j
    · have h1' : Y 5 t = Y 10 (4 * j + D 3 j) := h1
      cases h2 : (D 0 2 ||| D 0 3 ||| D 5 0).testBit t with
      | true =>
        refine same ?_ (by unfold s_fits; rw [if_pos h1, if_pos h2])
        simp (disch := (first | assumption | omega | exact hB _ _ | exact hYB _ _ | (simp only [yc, yd, sh, sv, ne_eq]; omega) | (simp (disch := omega) only [↓nm_1, ↓nm_2, nI_add, pk_mul, pk_sub, Nat.add_sub_cancel, qm1_add, qm2_add, nI_clamp, ni_0, ni_1, ni_8, hbk, e1, ek, est, esk, h1', ebr, ehe, u73, o1, o2, qbit_t h2]; refine qin_nI ?_ ?_ <;> first | omega | exact hB _ _ | exact hYB _ _) | (refine qin_nI ?_ ?_ <;> omega) | fail)) only [↓km0_gd, ↓km0_gI, ↓km0_gM, ↓km0_pI, ↓km0_pM, ↓km0_pZ, ↓km0_gL, ↓km0_pL, ↓km0_gF17, ↓km0_gF25, ↓km0_gF56, ↓km0_gF57, ↓km0_gF58, ↓km5_al, ↓km5_as, ↓km5_ln, ↓km13_al, ↓km13_as, ↓km13_ln, ↓km36_al, ↓km36_as, ↓km36_ln, ↓km37_al, ↓km37_as, ↓km37_ln, ↓km38_al, ↓km38_as, ↓km38_ln, ↓qb_so, ↓nm_1, ↓nm_2, ↓reduceIte, if_true, if_false, not_true_eq_false, not_false_eq_true, and_true, true_and, and_false, false_and, or_true, true_or, or_false, false_or, eq_self, ne_eq, quI_s, quI_n, quI2, quL1, quL2, quL3, quR1, quR2, quR3, nI_add, pk_mul, pk_sub, Nat.add_sub_cancel, qm1_add, qm2_add, nI_leI, nI_ltI, nI_eq, nI_m1, nI_m1', nI_clamp, nI_bit, nI_one_shl, nI_m1l, nI_m1lt, nI_m1lt', nI_m1le', oI_some, oI_none, ni_0, ni_1, ni_8, fX12_bestTool_L5b, fX12_has2, qle_t, qle_f, qlt_t, qlt_f, qeq_t, qeq_f, hbk, e1, ek, est, esk, h1', ebr, ehe, u73, o1, o2, qbit_t h2]
      | false =>
        cases h4 : s_hand Y D t with
        | none =>
          rw [h4, oI_none] at eh
          refine same ?_ ?_
          · simp (disch := (first | assumption | omega | exact hB _ _ | exact hYB _ _ | (simp only [yc, yd, sh, sv, ne_eq]; omega) | (simp (disch := omega) only [↓nm_1, ↓nm_2, nI_add, pk_mul, pk_sub, Nat.add_sub_cancel, qm1_add, qm2_add, nI_clamp, ni_0, ni_1, ni_8, hbk, e1, ek, est, esk, h1', ebr, ehe, u73, o1, o2, qbit_f h2, eh]; refine qin_nI ?_ ?_ <;> first | omega | exact hB _ _ | exact hYB _ _) | (refine qin_nI ?_ ?_ <;> omega) | fail)) only [↓km0_gd, ↓km0_gI, ↓km0_gM, ↓km0_pI, ↓km0_pM, ↓km0_pZ, ↓km0_gL, ↓km0_pL, ↓km0_gF17, ↓km0_gF25, ↓km0_gF56, ↓km0_gF57, ↓km0_gF58, ↓km5_al, ↓km5_as, ↓km5_ln, ↓km13_al, ↓km13_as, ↓km13_ln, ↓km36_al, ↓km36_as, ↓km36_ln, ↓km37_al, ↓km37_as, ↓km37_ln, ↓km38_al, ↓km38_as, ↓km38_ln, ↓qb_so, ↓nm_1, ↓nm_2, ↓reduceIte, if_true, if_false, not_true_eq_false, not_false_eq_true, and_true, true_and, and_false, false_and, or_true, true_or, or_false, false_or, eq_self, ne_eq, quI_s, quI_n, quI2, quL1, quL2, quL3, quR1, quR2, quR3, nI_add, pk_mul, pk_sub, Nat.add_sub_cancel, qm1_add, qm2_add, nI_leI, nI_ltI, nI_eq, nI_m1, nI_m1', nI_clamp, nI_bit, nI_one_shl, nI_m1l, nI_m1lt, nI_m1lt', nI_m1le', oI_some, oI_none, ni_0, ni_1, ni_8, fX12_bestTool_L5b, fX12_has2, qle_t, qle_f, qlt_t, qlt_f, qeq_t, qeq_f, hbk, e1, ek, est, esk, h1', ebr, ehe, u73, o1, o2, qbit_f h2, eh]
          · unfold s_fits
            rw [if_pos h1, if_neg (by rw [h2]; decide)]
            split
            · rw [h4]
            · rfl
        | some g =>
          rw [h4, oI_some] at eh
          have hg := (s_hand_lt h4).1
          have h62 : Y 2 2 ≤ 6 := hY.1.2.2.1
          have e0 : fX12_bestTool_L5b n 0 (nI v) (nI j) (fX12_bestTool_L5 n 0 (nI v) (nI j) q) (oI best) (nI t) S = if s_better D best t = true then fX12_bestTool_B113_5 n (fX12_bestTool_L5 n 0 (nI v) (nI j) q) 0 (nI v) (nI j) (oI best) (nI t) S else fX12_bestTool_L5 n 0 (nI v) (nI j) q (oI best) (nI (t + 1)) S := by
            unfold s_better
            cases best with
            | none => simp (disch := (first | assumption | omega | exact hB _ _ | exact hYB _ _ | (simp only [yc, yd, sh, sv, ne_eq]; omega) | (simp (disch := omega) only [↓nm_1, ↓nm_2, nI_add, pk_mul, pk_sub, Nat.add_sub_cancel, qm1_add, qm2_add, nI_clamp, ni_0, ni_1, ni_8, hbk, e1, ek, est, esk, h1', ebr, ehe, u73, o1, o2, qbit_f h2, eh]; refine qin_nI ?_ ?_ <;> first | omega | exact hB _ _ | exact hYB _ _) | (refine qin_nI ?_ ?_ <;> omega) | fail)) only [↓km0_gd, ↓km0_gI, ↓km0_gM, ↓km0_pI, ↓km0_pM, ↓km0_pZ, ↓km0_gL, ↓km0_pL, ↓km0_gF17, ↓km0_gF25, ↓km0_gF56, ↓km0_gF57, ↓km0_gF58, ↓km5_al, ↓km5_as, ↓km5_ln, ↓km13_al, ↓km13_as, ↓km13_ln, ↓km36_al, ↓km36_as, ↓km36_ln, ↓km37_al, ↓km37_as, ↓km37_ln, ↓km38_al, ↓km38_as, ↓km38_ln, ↓qb_so, ↓nm_1, ↓nm_2, ↓reduceIte, if_true, if_false, not_true_eq_false, not_false_eq_true, and_true, true_and, and_false, false_and, or_true, true_or, or_false, false_or, eq_self, ne_eq, quI_s, quI_n, quI2, quL1, quL2, quL3, quR1, quR2, quR3, nI_add, pk_mul, pk_sub, Nat.add_sub_cancel, qm1_add, qm2_add, nI_leI, nI_ltI, nI_eq, nI_m1, nI_m1', nI_clamp, nI_bit, nI_one_shl, nI_m1l, nI_m1lt, nI_m1lt', nI_m1le', oI_some, oI_none, ni_0, ni_1, ni_8, fX12_bestTool_L5b, fX12_has2, qle_t, qle_f, qlt_t, qlt_f, qeq_t, qeq_f, hbk, e1, ek, est, esk, h1', ebr, ehe, u73, o1, o2, qbit_f h2, eh]
            | some x =>
              have hx8 := hx x rfl
              have w1 := h.2.1.2.1 t ht
              have w2 := h.2.1.2.1 x hx8
              have b1 := hB 1 t
              have b2 := hB 1 x
              by_cases hc : D 1 t < D 1 x
              · simp (disch := (first | assumption | omega | exact hB _ _ | exact hYB _ _ | (simp only [yc, yd, sh, sv, ne_eq]; omega) | (simp (disch := omega) only [↓nm_1, ↓nm_2, nI_add, pk_mul, pk_sub, Nat.add_sub_cancel, qm1_add, qm2_add, nI_clamp, ni_0, ni_1, ni_8, hbk, e1, ek, est, esk, h1', ebr, ehe, u73, o1, o2, qbit_f h2, eh, w1, w2, hc, decide_true]; refine qin_nI ?_ ?_ <;> first | omega | exact hB _ _ | exact hYB _ _) | (refine qin_nI ?_ ?_ <;> omega) | fail)) only [↓km0_gd, ↓km0_gI, ↓km0_gM, ↓km0_pI, ↓km0_pM, ↓km0_pZ, ↓km0_gL, ↓km0_pL, ↓km0_gF17, ↓km0_gF25, ↓km0_gF56, ↓km0_gF57, ↓km0_gF58, ↓km5_al, ↓km5_as, ↓km5_ln, ↓km13_al, ↓km13_as, ↓km13_ln, ↓km36_al, ↓km36_as, ↓km36_ln, ↓km37_al, ↓km37_as, ↓km37_ln, ↓km38_al, ↓km38_as, ↓km38_ln, ↓qb_so, ↓nm_1, ↓nm_2, ↓reduceIte, if_true, if_false, not_true_eq_false, not_false_eq_true, and_true, true_and, and_false, false_and, or_true, true_or, or_false, false_or, eq_self, ne_eq, quI_s, quI_n, quI2, quL1, quL2, quL3, quR1, quR2, quR3, nI_add, pk_mul, pk_sub, Nat.add_sub_cancel, qm1_add, qm2_add, nI_leI, nI_ltI, nI_eq, nI_m1, nI_m1', nI_clamp, nI_bit, nI_one_shl, nI_m1l, nI_m1lt, nI_m1lt', nI_m1le', oI_some, oI_none, ni_0, ni_1, ni_8, fX12_bestTool_L5b, fX12_has2, qle_t, qle_f, qlt_t, qlt_f, qeq_t, qeq_f, hbk, e1, ek, est, esk, h1', ebr, ehe, u73, o1, o2, qbit_f h2, eh, w1, w2, hc, decide_true]
              · simp (disch := (first | assumption | omega | exact hB _ _ | exact hYB _ _ | (simp only [yc, yd, sh, sv, ne_eq]; omega) | (simp (disch := omega) only [↓nm_1, ↓nm_2, nI_add, pk_mul, pk_sub, Nat.add_sub_cancel, qm1_add, qm2_add, nI_clamp, ni_0, ni_1, ni_8, hbk, e1, ek, est, esk, h1', ebr, ehe, u73, o1, o2, qbit_f h2, eh, w1, w2, hc, decide_false, Bool.false_eq_true]; refine qin_nI ?_ ?_ <;> first | omega | exact hB _ _ | exact hYB _ _) | (refine qin_nI ?_ ?_ <;> omega) | fail)) only [↓km0_gd, ↓km0_gI, ↓km0_gM, ↓km0_pI, ↓km0_pM, ↓km0_pZ, ↓km0_gL, ↓km0_pL, ↓km0_gF17, ↓km0_gF25, ↓km0_gF56, ↓km0_gF57, ↓km0_gF58, ↓km5_al, ↓km5_as, ↓km5_ln, ↓km13_al, ↓km13_as, ↓km13_ln, ↓km36_al, ↓km36_as, ↓km36_ln, ↓km37_al, ↓km37_as, ↓km37_ln, ↓km38_al, ↓km38_as, ↓km38_ln, ↓qb_so, ↓nm_1, ↓nm_2, ↓reduceIte, if_true, if_false, not_true_eq_false, not_false_eq_true, and_true, true_and, and_false, false_and, or_true, true_or, or_false, false_or, eq_self, ne_eq, quI_s, quI_n, quI2, quL1, quL2, quL3, quR1, quR2, quR3, nI_add, pk_mul, pk_sub, Nat.add_sub_cancel, qm1_add, qm2_add, nI_leI, nI_ltI, nI_eq, nI_m1, nI_m1', nI_clamp, nI_bit, nI_one_shl, nI_m1l, nI_m1lt, nI_m1lt', nI_m1le', oI_some, oI_none, ni_0, ni_1, ni_8, fX12_bestTool_L5b, fX12_has2, qle_t, qle_f, qlt_t, qlt_f, qeq_t, qeq_f, hbk, e1, ek, est, esk, h1', ebr, ehe, u73, o1, o2, qbit_f h2, eh, w1, w2, hc, decide_false, Bool.false_eq_true]
          cases h3 : s_better D best t with
          | false =>
            rw [h3] at e0
            exact same e0 (by unfold s_fits; rw [if_pos h1, if_neg (by rw [h2]; decide), if_neg (by rw [h3]; decide)])
          | true =>
            rw [h3, if_pos rfl] at e0
            obtain ⟨V, eV1, hfv⟩ := m_allowed (n := n) (t := t) (g := g) hb hv h hY hD hK hRb hn hfr hj ht hg hd h1
            have hfit : s_fits Y mc R D fr j best t = s_may Y mc R D fr j t g := by
              unfold s_fits
              rw [if_pos h1, if_neg (by rw [h2]; decide), if_pos h3, h4]
            obtain ⟨Z, eZ, hfz⟩ := m_toolL hb hv hY hD hK hRb hn hfr hj hd k (t + 1) q (if s_fits Y mc R D fr j best t = true then some t else best) V (mW_a hY hfv h60 h) (by omega) (by omega) (by
              intro x hxx
              split at hxx
              · cases hxx; exact ht
              · exact hx x hxx)
            refine ⟨Z, ?_, mFq_trans hfv hfz⟩
            rw [e0]
            show _ = some (oI (s_toolL Y mc R D fr j k (if s_fits Y mc R D fr j best t = true then some t else best) (t + 1)), Z)
            rw [← eZ, hfit]
            cases hmy : s_may Y mc R D fr j t g with
            | true =>
              rw [hmy] at eV1
              simp (disch := (first | assumption | omega | exact hB _ _ | exact hYB _ _ | (simp only [yc, yd, sh, sv, ne_eq]; omega) | (simp (disch := omega) only [↓nm_1, ↓nm_2, nI_add, pk_mul, pk_sub, Nat.add_sub_cancel, qm1_add, qm2_add, nI_clamp, ni_0, ni_1, eh, eV1, oI_some]; refine qin_nI ?_ ?_ <;> first | omega | exact hB _ _ | exact hYB _ _) | (refine qin_nI ?_ ?_ <;> omega) | fail)) only [↓km0_gd, ↓km0_gI, ↓km0_gM, ↓km0_pI, ↓km0_pM, ↓km0_pZ, ↓km0_gL, ↓km0_pL, ↓qb_so, ↓nm_1, ↓nm_2, ↓reduceIte, if_true, if_false, not_true_eq_false, not_false_eq_true, and_true, true_and, and_false, false_and, or_true, true_or, or_false, false_or, eq_self, ne_eq, quI_s, quI_n, quI2, quL1, quL2, quL3, quR1, quR2, quR3, nI_add, pk_mul, pk_sub, Nat.add_sub_cancel, qm1_add, qm2_add, nI_leI, nI_ltI, nI_eq, nI_m1, nI_m1', nI_clamp, nI_bit, nI_one_shl, nI_m1l, nI_m1lt, nI_m1lt', nI_m1le', oI_some, oI_none, ni_0, ni_1, fX12_bestTool_B113_5, qle_t, qle_f, qlt_t, qlt_f, qeq_t, qeq_f, eh, eV1, oI_some]
            | false =>
              rw [hmy] at eV1
              simp (disch := (first | assumption | omega | exact hB _ _ | exact hYB _ _ | (simp only [yc, yd, sh, sv, ne_eq]; omega) | (simp (disch := omega) only [↓nm_1, ↓nm_2, nI_add, pk_mul, pk_sub, Nat.add_sub_cancel, qm1_add, qm2_add, nI_clamp, ni_0, ni_1, eh, eV1, Bool.false_eq_true]; refine qin_nI ?_ ?_ <;> first | omega | exact hB _ _ | exact hYB _ _) | (refine qin_nI ?_ ?_ <;> omega) | fail)) only [↓km0_gd, ↓km0_gI, ↓km0_gM, ↓km0_pI, ↓km0_pM, ↓km0_pZ, ↓km0_gL, ↓km0_pL, ↓qb_so, ↓nm_1, ↓nm_2, ↓reduceIte, if_true, if_false, not_true_eq_false, not_false_eq_true, and_true, true_and, and_false, false_and, or_true, true_or, or_false, false_or, eq_self, ne_eq, quI_s, quI_n, quI2, quL1, quL2, quL3, quR1, quR2, quR3, nI_add, pk_mul, pk_sub, Nat.add_sub_cancel, qm1_add, qm2_add, nI_leI, nI_ltI, nI_eq, nI_m1, nI_m1', nI_clamp, nI_bit, nI_one_shl, nI_m1l, nI_m1lt, nI_m1lt', nI_m1le', oI_some, oI_none, ni_0, ni_1, fX12_bestTool_B113_5, qle_t, qle_f, qlt_t, qlt_f, qeq_t, qeq_f, eh, eV1, Bool.false_eq_true]
    · have h1' : ¬ Y 5 t = Y 10 (4 * j + D 3 j) := h1
      refine same ?_ (by unfold s_fits; rw [if_neg h1])
      simp (disch := (first | assumption | omega | exact hB _ _ | exact hYB _ _ | (simp only [yc, yd, sh, sv, ne_eq]; omega) | (simp (disch := omega) only [↓nm_1, ↓nm_2, nI_add, pk_mul, pk_sub, Nat.add_sub_cancel, qm1_add, qm2_add, nI_clamp, ni_0, ni_1, ni_8, hbk, e1, ek, est, esk, h1']; refine qin_nI ?_ ?_ <;> first | omega | exact hB _ _ | exact hYB _ _) | (refine qin_nI ?_ ?_ <;> omega) | fail)) only [↓km0_gd, ↓km0_gI, ↓km0_gM, ↓km0_pI, ↓km0_pM, ↓km0_pZ, ↓km0_gL, ↓km0_pL, ↓km0_gF17, ↓km0_gF25, ↓km0_gF56, ↓km0_gF57, ↓km0_gF58, ↓km5_al, ↓km5_as, ↓km5_ln, ↓km13_al, ↓km13_as, ↓km13_ln, ↓km36_al, ↓km36_as, ↓km36_ln, ↓km37_al, ↓km37_as, ↓km37_ln, ↓km38_al, ↓km38_as, ↓km38_ln, ↓qb_so, ↓nm_1, ↓nm_2, ↓reduceIte, if_true, if_false, not_true_eq_false, not_false_eq_true, and_true, true_and, and_false, false_and, or_true, true_or, or_false, false_or, eq_self, ne_eq, quI_s, quI_n, quI2, quL1, quL2, quL3, quR1, quR2, quR3, nI_add, pk_mul, pk_sub, Nat.add_sub_cancel, qm1_add, qm2_add, nI_leI, nI_ltI, nI_eq, nI_m1, nI_m1', nI_clamp, nI_bit, nI_one_shl, nI_m1l, nI_m1lt, nI_m1lt', nI_m1le', oI_some, oI_none, ni_0, ni_1, ni_8, fX12_bestTool_L5b, fX12_has2, qle_t, qle_f, qlt_t, qlt_f, qeq_t, qeq_f, hbk, e1, ek, est, esk, h1']
theorem m_tool (hb : b < 2) (hv : v < 22) (h : mW S b v Y mc wc R row fr D) (hY : yrOk Y) (hD : dOk Y D) (hK : kOk mc wc) (hRb : ∀ k, R k < 2 ^ 31) (hn : 2000 ≤ n) (hfr : fr ≤ 1) {j : Nat} (hj : j < Y 2 3) (hd : D 3 j < Y 9 j) :
    ∃ Z, fX12_bestTool n 0 (nI v) (nI j) S = some (oI (s_tool Y mc R D fr j), Z) ∧ mFq aQ S Z := by
  have h8 : Y 2 1 ≤ 8 := hY.1.2.1
  obtain ⟨Z, e, hz⟩ := m_toolL (n := n) hb hv hY hD hK hRb hn hfr hj hd (Y 2 1) 0 n none S h (by omega) (by omega) (fun x hx => by cases hx)
  rw [oI_none] at e
  refine ⟨Z, ?_, hz⟩
  simp (disch := (first | assumption | omega | exact hB _ _ | exact hYB _ _ | (simp only [yc, yd, sh, sv, ne_eq]; omega) | (simp (disch := omega) only [↓nm_1, ↓nm_2, nI_add, pk_mul, pk_sub, Nat.add_sub_cancel, qm1_add, qm2_add, nI_clamp, ni_0, ni_1, e]; refine qin_nI ?_ ?_ <;> first | omega | exact hB _ _ | exact hYB _ _) | (refine qin_nI ?_ ?_ <;> omega) | fail)) only [↓km0_gd, ↓km0_gI, ↓km0_gM, ↓km0_pI, ↓km0_pM, ↓km0_pZ, ↓km0_gL, ↓km0_pL, ↓qb_so, ↓nm_1, ↓nm_2, ↓reduceIte, if_true, if_false, not_true_eq_false, not_false_eq_true, and_true, true_and, and_false, false_and, or_true, true_or, or_false, false_or, eq_self, ne_eq, quI_s, quI_n, quI2, quL1, quL2, quL3, quR1, quR2, quR3, nI_add, pk_mul, pk_sub, Nat.add_sub_cancel, qm1_add, qm2_add, nI_leI, nI_ltI, nI_eq, nI_m1, nI_m1', nI_clamp, nI_bit, nI_one_shl, nI_m1l, nI_m1lt, nI_m1lt', nI_m1le', oI_some, oI_none, ni_0, ni_1, fX12_bestTool, qle_t, qle_f, qlt_t, qlt_f, qeq_t, qeq_f, e]
  rfl
end Q33

