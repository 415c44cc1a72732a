/-! ===== a yard is copied, a shop is opened ===== -/
def isYd (k : Nat) : Prop := tC.1 k = 8 ∧ (tC.2.2.1 k 5 = k + 1 ∧ tC.2.2.1 k 6 = k + 2 ∧ tC.2.2.1 k 7 = k + 3 ∧ tC.2.2.1 k 8 = k + 4) ∧ (tC.1 (k + 1) = 13 ∧ tC.1 (k + 2) = 13 ∧ tC.1 (k + 3) = 13 ∧ tC.1 (k + 4) = 13) ∧ (tC.2.1 (k + 1) = 8 ∧ tC.2.1 (k + 2) = 48 ∧ tC.2.1 (k + 3) = 6 ∧ tC.2.1 (k + 4) = 6)
theorem isYd_yd {w : Nat} (hw : w < 2) : isYd (yd w 0) := by
  rcases (by omega : w = 0 ∨ w = 1) with rfl | rfl <;> exact ⟨rfl, ⟨rfl, rfl, rfl, rfl⟩, ⟨rfl, rfl, rfl, rfl⟩, rfl, rfl, rfl, rfl⟩
theorem isYd_t : isYd 171 := ⟨rfl, ⟨rfl, rfl, rfl, rfl⟩, ⟨rfl, rfl, rfl, rfl⟩, rfl, rfl, rfl, rfl⟩
theorem isYd_sv {i : Nat} (hi : i < 20) : isYd (sv i 0) := by
  rcases (by omega : i = 0 ∨ i = 1 ∨ i = 2 ∨ i = 3 ∨ i = 4 ∨ i = 5 ∨ i = 6 ∨ i = 7 ∨ i = 8 ∨ i = 9 ∨ i = 10 ∨ i = 11 ∨ i = 12 ∨ i = 13 ∨ i = 14 ∨ i = 15 ∨ i = 16 ∨ i = 17 ∨ i = 18 ∨ i = 19) with rfl | rfl | rfl | rfl | rfl | rfl | rfl | rfl | rfl | rfl | rfl | rfl | rfl | rfl | rfl | rfl | rfl | rfl | rfl | rfl <;> exact ⟨rfl, ⟨rfl, rfl, rfl, rfl⟩, ⟨rfl, rfl, rfl, rfl⟩, rfl, rfl, rfl, rfl⟩
theorem quA_s {S : xSt} {k j : Nat} {f : Nat → Int32} : (xuA S k f).1 k j = f j := by rw [quA1, if_pos rfl]
theorem quA_n {S : xSt} {k k' j : Nat} {f : Nat → Int32} (h : k' ≠ k) : (xuA S k f).1 k' j = S.1 k' j := by rw [quA1, if_neg h]
theorem qFr_updA {P : Nat → Prop} {S : xSt} {k : Nat} {f : Nat → Int32} (h : P k) : qFr P S (xuA S k f) := by
  refine ⟨fun k' hk' => ?_, rfl⟩
  funext j'
  rw [quA_n (fun e : k' = k => hk' (by rw [e]; exact h))]
theorem qb_cp {T : xTb} {k0 k1 m : Nat} {S : xSt} {β : Type} {f : xSt → Option β} (h0 : T.1 k0 = 13) (h1 : T.1 k1 = 13) (l0 : m ≤ T.2.1 k0) (l1 : m ≤ T.2.1 k1) (hm : m < 2 ^ 31) : (xcp T k0 (0 : Int32) k1 (0 : Int32) (nI m) S).bind f = f (xuA S k1 (fun j => if j < m then S.1 k0 j else S.1 k1 j)) := by
  have c0 : (0 : Int32).toNatClampNeg = 0 := by decide
  have c1 := nI_clamp hm
  unfold xcp
  rw [if_pos ⟨⟨h0, h1⟩, ⟨by decide, by decide, nI_pos hm⟩, by rw [c0, c1]; omega, by rw [c0, c1]; omega⟩, c0, c1]
  show f _ = f _
  congr 1
  congr 1
  funext j
  unfold va_cpy
  by_cases hj : j < m
  · rw [if_pos ⟨Nat.zero_le _, by omega⟩, if_pos hj, Nat.zero_add, Nat.sub_zero]
  · rw [if_neg (by omega), if_neg hj]
def yl (c : Nat) : Nat := if c = 1 then 8 else if c = 2 then 48 else 6
theorem c_copy {S : xSt} {k0 k1 : Nat} (h0 : isYd k0) (h1 : isYd k1) (hd : k0 + 4 < k1 ∨ k1 + 4 < k0) :
    ∃ Z, fX8_copy k0 k1 S = some Z ∧ qFr (fun k => k0 ≤ k ∧ k ≤ k0 + 4) S Z ∧ (∀ j, j < 5 → Z.1 k0 j = S.1 k1 j) ∧ (∀ c j, 1 ≤ c → c ≤ 4 → Z.1 (k0 + c) j = if j < yl c then S.1 (k1 + c) j else S.1 (k0 + c) j) := by
  obtain ⟨a0, ⟨r1, r2, r3, r4⟩, ⟨t1, t2, t3, t4⟩, l1, l2, l3, l4⟩ := h0
  obtain ⟨b0, ⟨p1, p2, p3, p4⟩, ⟨u1, u2, u3, u4⟩, m1, m2, m3, m4⟩ := h1
  refine ⟨xuA (xuA (xuA (xuA (xuI (xuI (xuI (xuI (xuI S k0 0 (S.1 k1 0)) k0 1 (S.1 k1 1)) k0 2 (S.1 k1 2)) k0 3 (S.1 k1 3)) k0 4 (S.1 k1 4)) (k0 + 1) (fun j => if j < 8 then S.1 (k1 + 1) j else S.1 (k0 + 1) j)) (k0 + 2) (fun j => if j < 48 then S.1 (k1 + 2) j else S.1 (k0 + 2) j)) (k0 + 3) (fun j => if j < 6 then S.1 (k1 + 3) j else S.1 (k0 + 3) j)) (k0 + 4) (fun j => if j < 6 then S.1 (k1 + 4) j else S.1 (k0 + 4) j), ?_, ?_, ?_, ?_⟩
  · unfold fX8_copy
    rw [if_pos a0, qb_gI b0, qb_pI a0, qb_gI b0, qb_pI a0, qb_gI b0, qb_pI a0, qb_gI b0, qb_pI a0, qb_gI b0, qb_pI a0]
    rw [qb_gF b0, qb_gF a0, p1, r1, show (8 : Int32) = nI 8 from rfl, qb_cp u1 t1 (by omega) (by omega) (by decide)]
    rw [qb_gF b0, qb_gF a0, p2, r2, show (48 : Int32) = nI 48 from rfl, qb_cp u2 t2 (by omega) (by omega) (by decide)]
    rw [qb_gF b0, qb_gF a0, p3, r3, show (6 : Int32) = nI 6 from rfl, qb_cp u3 t3 (by omega) (by omega) (by decide)]
    rw [qb_gF b0, qb_gF a0, p4, r4, qb_cp u4 t4 (by omega) (by omega) (by decide)]
    have n : ∀ (S : xSt) (k j k' j' : Nat) (v : Int32), k' ≠ k → (xuI S k j v).1 k' j' = S.1 k' j' := fun S k j k' j' v h => quI_n h
    simp (disch := omega) only [quI_n, quA_n]
  · exact qFr_trans (qFr_trans (qFr_trans (qFr_trans (qFr_trans (qFr_trans (qFr_trans (qFr_trans (qFr_upd (by omega)) (qFr_upd (by omega))) (qFr_upd (by omega))) (qFr_upd (by omega))) (qFr_upd (by omega))) (qFr_updA (by omega))) (qFr_updA (by omega))) (qFr_updA (by omega))) (qFr_updA (by omega))
  · intro j hj
    rw [quA_n (by omega), quA_n (by omega), quA_n (by omega), quA_n (by omega), quI_s, quI_s, quI_s, quI_s, quI_s]
    rcases (by omega : j = 0 ∨ j = 1 ∨ j = 2 ∨ j = 3 ∨ j = 4) with rfl | rfl | rfl | rfl | rfl <;> rfl
  · intro c j hc hc2
    rcases (by omega : c = 1 ∨ c = 2 ∨ c = 3 ∨ c = 4) with rfl | rfl | rfl | rfl
    · rw [quA_n (by omega), quA_n (by omega), quA_n (by omega), quA_s]; rfl
    · rw [quA_n (by omega), quA_n (by omega), quA_s]; rfl
    · rw [quA_n (by omega), quA_s]; rfl
    · rw [quA_s]; rfl
theorem yl_Z {D : Nat → Nat → Nat} (h : dZ D) {c j : Nat} (hc : 1 ≤ c) (hc2 : c ≤ 4) (hj : ¬ j < yl c) : D c j = 0 := by
  rcases (by omega : c = 1 ∨ c = 2 ∨ c = 3 ∨ c = 4) with rfl | rfl | rfl | rfl
  · exact h.1 j (by unfold yl at hj; simp at hj; omega)
  · exact h.2.1 j (by unfold yl at hj; simp at hj; omega)
  · exact h.2.2.1 j (by unfold yl at hj; simp at hj; omega)
  · exact h.2.2.2 j (by unfold yl at hj; simp at hj; omega)
/-- behind its rows' ends a yard holds 0 -/
def cZ (S : xSt) (k : Nat) : Prop := ∀ c j, 1 ≤ c → c ≤ 4 → ¬ j < yl c → S.1 (k + c) j = nI 0
theorem yd_c {w c : Nat} : yd w c = yd w 0 + c := by unfold yd; omega
theorem sv_c {i c : Nat} : sv i c = sv i 0 + c := by unfold sv; omega
/-- what is used of tools and hands is told anew each day -/
def cV (S : xSt) (b w : Nat) (Y : Nat → Nat → Nat) (mc wc : List (Nat × Nat)) (R row : Nat → Nat) (D : Nat → Nat → Nat) : Prop := ∃ u u', u < 2 ^ 31 ∧ u' < 2 ^ 31 ∧ cW S b w Y mc wc R row (dU (dU D 5 0 u) 5 1 u')
def rI (Y D : Nat → Nat → Nat) : Prop := dOk Y (s_fresh D) ∧ (∀ c j, D c j < 2 ^ 31) ∧ D 5 2 ≤ 6000 * D 0 0
section Q36
variable {S : xSt} {b w n : Nat} {Y D : Nat → Nat → Nat} {mc wc : List (Nat × Nat)} {R row : Nat → Nat}
theorem dU_id {c j : Nat} : dU D c j (D c j) = D := by
  funext c' j'
  unfold dU
  split
  · split
    · rename_i h1 h2; rw [h1, h2]
    · rfl
  · rfl
theorem s_fresh_u {u u' : Nat} : s_fresh (dU (dU D 5 0 u) 5 1 u') = s_fresh D := by
  funext c j
  unfold s_fresh dU
  by_cases h5 : c = 5
  · subst h5
    by_cases h1 : j = 1
    · simp [h1]
    · by_cases h0 : j = 0
      · simp [h0]
      · simp [h0, h1]
  · simp [h5]
theorem s_day_u {fr u u' : Nat} : s_day Y mc wc R row fr (dU (dU D 5 0 u) 5 1 u') = s_day Y mc wc R row fr D := by
  have e : ∀ E, s_fresh (s_mend Y E) = s_mend Y (s_fresh E) := fun E => s_mend_fr
  unfold s_day
  rw [e, e, s_fresh_u]
theorem cV_of (h : cW S b w Y mc wc R row D) (hB : ∀ c j, D c j < 2 ^ 31) : cV S b w Y mc wc R row D := by
  refine ⟨D 5 0, D 5 1, hB _ _, hB _ _, ?_⟩
  have e1 : dU D 5 0 (D 5 0) = D := dU_id
  rw [e1]
  have e2 : dU D 5 1 (D 5 1) = D := dU_id
  rw [e2]
  exact h
theorem c_day2 (hb : b < 2) (hw : w < 2) (h : cV S b w Y mc wc R row D) (hY : yrOk Y) (hI : rI Y D) (hK : kOk mc wc) (hR : ∀ k, R k < 2 ^ 31) (hn : 2000 ≤ n) {fr : Nat} (hfr : fr ≤ 1) (hrow : ∀ i, i < Y 2 3 → row i < Y 2 3) (h999 : D 0 0 < 999) :
    ∃ Z, fX6_passDay n (sh w 0) (nI fr) S = some Z ∧ cW Z b w Y mc wc R row (s_day Y mc wc R row fr D) ∧ qFr (dP b w) S Z ∧ dOk Y (s_day Y mc wc R row fr D) ∧ rI Y (s_day Y mc wc R row fr D) ∧ s_day Y mc wc R row fr D 0 0 = D 0 0 + 1 := by
  obtain ⟨u, u', hu, hu', h⟩ := h
  obtain ⟨Z, e, h1, h2, h3, h4, h5⟩ := c_day (n := n) (fr := fr) hb hw h hY (by rw [s_fresh_u]; exact hI.1) (dU_B (dU_B hI.2.1 hu) hu') hK hR hn hfr hrow h999 hI.2.2
  rw [s_day_u] at h1 h3 h4 h5
  exact ⟨Z, e, h1, h2, h3, ⟨s_fresh_ok hY h3, dOk_B h3, h4⟩, h5⟩
def mV (S : xSt) (b v : Nat) (Y : Nat → Nat → Nat) (mc wc : List (Nat × Nat)) (R row : Nat → Nat) (D : Nat → Nat → Nat) : Prop := ∃ fr u u', u < 2 ^ 31 ∧ u' < 2 ^ 31 ∧ mW S b v Y mc wc R row fr (dU (dU D 5 0 u) 5 1 u')
theorem mV_of {v fr : Nat} (h : mW S b v Y mc wc R row fr D) (hB : ∀ c j, D c j < 2 ^ 31) : mV S b v Y mc wc R row D := by
  refine ⟨fr, D 5 0, D 5 1, hB _ _, hB _ _, ?_⟩
  have e1 : dU D 5 0 (D 5 0) = D := dU_id
  rw [e1]
  have e2 : dU D 5 1 (D 5 1) = D := dU_id
  rw [e2]
  exact h
theorem m_day2 {v : Nat} (hb : b < 2) (hv : v < 22) (h : mV S b v Y mc wc R row D) (hY : yrOk Y) (hI : rI Y D) (hK : kOk mc wc) (hR : ∀ k, R k < 2 ^ 31) (hn : 2000 ≤ n) {fr : Nat} (hfr : fr ≤ 1) (hrow : ∀ i, i < Y 2 3 → row i < Y 2 3) (h999 : D 0 0 ≤ 999) :
    ∃ Z, fX12_passes n 0 (nI v) (nI fr) S = some (nI (s_pc (s_day Y mc wc R row fr D 5 0)), Z) ∧ mW Z b v Y mc wc R row fr (s_day Y mc wc R row fr D) ∧ mFq (mQ v) S Z := by
  obtain ⟨fr', u, u', hu, hu', h⟩ := h
  obtain ⟨Z, e, h1, h2, h3⟩ := m_day (n := n) (fr := fr) hb hv h hY (by rw [s_fresh_u]; exact hI.1) (dU_B (dU_B hI.2.1 hu) hu') hK hR hn hfr hrow h999 hI.2.2
  rw [s_day_u] at h1 e
  exact ⟨Z, e, h1, h2⟩
/-- the shop is opened on the trial or on now -/
theorem c_openL (hw : w < 2) : ∀ (k i q : Nat) (S : xSt), i + k = 6 → k < q → (∀ x, x < i → S.1 (sh w 2) x = nI x) → ∃ Z, fX6_open_L36 n (sh w 0) q (nI i) S = some Z ∧ qFr (fun k => k = sh w 2) S Z ∧ ∀ x, x < 6 → Z.1 (sh w 2) x = nI x
  | 0, i, q, S, hk, hq, h => by
    obtain ⟨q, rfl⟩ : ∃ q', q = q' + 1 := ⟨q - 1, by omega⟩
    refine ⟨S, ?_, qFr_refl, fun x hx => h x (by omega)⟩
    show fX6_open_L36b _ _ _ _ _ = _
    simp (disch := (first | assumption | omega | exact hB _ _ | exact hYB _ _ | (simp only [yc, yd, sh, sv, ne_eq]; omega) | (simp (disch := omega) only [↓nm_1, ↓nm_2, nI_add, pk_mul, pk_sub, Nat.add_sub_cancel, qm1_add, qm2_add, nI_clamp, ni_0, ni_1, ni_6]; refine qin_nI ?_ ?_ <;> first | omega | exact hB _ _ | exact hYB _ _) | (refine qin_nI ?_ ?_ <;> omega) | fail)) only [↓yd0_gd hw, ↓yd0_gI hw, ↓yd0_gM hw, ↓yd0_pI hw, ↓yd0_pM hw, ↓yd0_pZ hw, ↓yd0_gF5 hw, ↓yd0_gF6 hw, ↓yd0_gF7 hw, ↓yd0_gF8 hw, ↓yd1_al hw, ↓yd1_as hw, ↓yd1_ln hw, ↓yd2_al hw, ↓yd2_as hw, ↓yd2_ln hw, ↓yd3_al hw, ↓yd3_as hw, ↓yd3_ln hw, ↓yd4_al hw, ↓yd4_as hw, ↓yd4_ln hw, ↓sh0_gd hw, ↓sh0_gI hw, ↓sh0_gM hw, ↓sh0_pI hw, ↓sh0_pM hw, ↓sh0_pZ hw, ↓sh0_gF0 hw, ↓sh0_gF1 hw, ↓sh0_gF2 hw, ↓sh0_gF3 hw, ↓sh1_al hw, ↓sh1_as hw, ↓sh1_ln hw, ↓sh2_al hw, ↓sh2_as hw, ↓sh2_ln hw, ↓sh3_al hw, ↓sh3_as hw, ↓sh3_ln hw, ↓qb_so, ↓nm_1, ↓nm_2, ↓reduceIte, if_true, if_false, not_true_eq_false, not_false_eq_true, and_true, true_and, and_false, false_and, or_true, true_or, or_false, false_or, eq_self, ne_eq, quI_s, quI_n, quI2, quL1, quL2, quL3, quR1, quR2, quR3, nI_add, pk_mul, pk_sub, Nat.add_sub_cancel, qm1_add, qm2_add, nI_leI, nI_ltI, nI_eq, nI_m1, nI_m1', nI_clamp, nI_bit, nI_one_shl, nI_m1l, nI_m1lt, nI_m1lt', nI_m1le', oI_some, oI_none, ni_0, ni_1, ni_6, fX6_open_L36b, qle_t, qle_f, qlt_t, qlt_f, qeq_t, qeq_f]
  | k + 1, i, q, S, hk, hq, h => by
    obtain ⟨q, rfl⟩ : ∃ q', q = q' + 1 := ⟨q - 1, by omega⟩
    obtain ⟨Z, e, hf, hz⟩ := c_openL hw k (i + 1) q (xuI S (sh w 2) i (nI i)) (by omega) (by omega) (fun x hx => by
      rw [quI_s]
      split
      · rename_i e; rw [e]
      · exact h x (by omega))
    refine ⟨Z, ?_, qFr_trans (qFr_upd rfl) hf, hz⟩
    show fX6_open_L36b _ _ _ _ _ = _
    simp (disch := (first | assumption | omega | exact hB _ _ | exact hYB _ _ | (simp only [yc, yd, sh, sv, ne_eq]; omega) | (simp (disch := omega) only [↓nm_1, ↓nm_2, nI_add, pk_mul, pk_sub, Nat.add_sub_cancel, qm1_add, qm2_add, nI_clamp, ni_0, ni_1, ni_6, e]; refine qin_nI ?_ ?_ <;> first | omega | exact hB _ _ | exact hYB _ _) | (refine qin_nI ?_ ?_ <;> omega) | fail)) only [↓yd0_gd hw, ↓yd0_gI hw, ↓yd0_gM hw, ↓yd0_pI hw, ↓yd0_pM hw, ↓yd0_pZ hw, ↓yd0_gF5 hw, ↓yd0_gF6 hw, ↓yd0_gF7 hw, ↓yd0_gF8 hw, ↓yd1_al hw, ↓yd1_as hw, ↓yd1_ln hw, ↓yd2_al hw, ↓yd2_as hw, ↓yd2_ln hw, ↓yd3_al hw, ↓yd3_as hw, ↓yd3_ln hw, ↓yd4_al hw, ↓yd4_as hw, ↓yd4_ln hw, ↓sh0_gd hw, ↓sh0_gI hw, ↓sh0_gM hw, ↓sh0_pI hw, ↓sh0_pM hw, ↓sh0_pZ hw, ↓sh0_gF0 hw, ↓sh0_gF1 hw, ↓sh0_gF2 hw, ↓sh0_gF3 hw, ↓sh1_al hw, ↓sh1_as hw, ↓sh1_ln hw, ↓sh2_al hw, ↓sh2_as hw, ↓sh2_ln hw, ↓sh3_al hw, ↓sh3_as hw, ↓sh3_ln hw, ↓qb_so, ↓nm_1, ↓nm_2, ↓reduceIte, if_true, if_false, not_true_eq_false, not_false_eq_true, and_true, true_and, and_false, false_and, or_true, true_or, or_false, false_or, eq_self, ne_eq, quI_s, quI_n, quI2, quL1, quL2, quL3, quR1, quR2, quR3, nI_add, pk_mul, pk_sub, Nat.add_sub_cancel, qm1_add, qm2_add, nI_leI, nI_ltI, nI_eq, nI_m1, nI_m1', nI_clamp, nI_bit, nI_one_shl, nI_m1l, nI_m1lt, nI_m1lt', nI_m1le', oI_some, oI_none, ni_0, ni_1, ni_6, fX6_open_L36b, qle_t, qle_f, qlt_t, qlt_f, qeq_t, qeq_f, e]
def opn (D : Nat → Nat → Nat) : Nat → Nat → Nat := dU (dU D 5 2 0) 5 3 0
/-- the cells of a shop -/
def hP (w k : Nat) : Prop := k = sh w 0 ∨ k = sh w 1 ∨ k = sh w 2
def qFm (P : Nat → Prop) (M : Nat → Nat → Prop) (S Z : xSt) : Prop := (∀ k, ¬ P k → Z.1 k = S.1 k) ∧ Z.2.1 = S.2.1 ∧ ∀ k j, ¬ M k j → Z.2.2 k j = S.2.2 k j
theorem c_open (hb : b < 2) (hw : w < 2) (hn : 2000 ≤ n) (hy : cY S b Y mc wc) (hd : cD S w D) (hus : ∃ u u', u < 2 ^ 31 ∧ u' < 2 ^ 31 ∧ S.1 (sh w 0) 7 = nI u ∧ S.1 (sh w 0) 8 = nI u') :
    ∃ Z, fX6_open n (sh w 0) (yc b 0) (yd w 0) (nI (1 - w)) S = some Z ∧ cV Z b w Y mc wc (Y 3) (fun i => i) (opn D) ∧ qFm (hP w) (fun k j => k = sh w 0 ∧ (j = 4 ∨ j = 5)) S Z := by
  obtain ⟨u, u', hu, hu', u7, u8⟩ := hus
  have hkz : nI (1 - w) = 0 ∨ nI (1 - w) = 1 := by
    rcases (by omega : w = 0 ∨ w = 1) with rfl | rfl
    · exact Or.inr rfl
    · exact Or.inl rfl
  have t1 := yc3_k hb
  have t2 := sh1_k hw
  have l1 := yc3_l hb
  have l2 := sh1_l hw
  have n1 : sh w 1 ≠ sh w 0 := by unfold sh; omega
  have n3 : yc b 3 ≠ sh w 0 := by unfold yc sh; omega
  obtain ⟨Z, e, hf, hz⟩ := c_openL (n := n) hw 6 0 n (xuA (xuI (xuR (xuR S (sh w 0) 4 (yc b 0)) (sh w 0) 5 (yd w 0)) (sh w 0) 6 (nI (1 - w))) (sh w 1) (fun j => if j < 6 then S.1 (yc b 3) j else S.1 (sh w 1) j)) (by omega) (by omega) (fun x hx => by omega)
  have eo : fX6_open n (sh w 0) (yc b 0) (yd w 0) (nI (1 - w)) S = some (xuI (xuI Z (sh w 0) 9 (nI 0)) (sh w 0) 10 (nI 0)) := by
    unfold fX6_open
    rw [sh0_gd hw, sh0_pM hw, sh0_pM hw, sh0_pZ hw hkz, sh0_gM hw]
    rw [show (xuI (xuR (xuR S (sh w 0) 4 (yc b 0)) (sh w 0) 5 (yd w 0)) (sh w 0) 6 (nI (1 - w))).2.2 (sh w 0) 4 = yc b 0 from by rw [quI2, quR3, if_pos rfl, if_neg (by decide), quR3, if_pos rfl, if_pos rfl]]
    rw [yc0_gF2 hb, sh0_gF0 hw, show (6 : Int32) = nI 6 from rfl, qb_cp t1 t2 (by omega) (by omega) (by decide)]
    rw [show (fun j => if j < 6 then (xuI (xuR (xuR S (sh w 0) 4 (yc b 0)) (sh w 0) 5 (yd w 0)) (sh w 0) 6 (nI (1 - w))).1 (yc b 3) j else (xuI (xuR (xuR S (sh w 0) 4 (yc b 0)) (sh w 0) 5 (yd w 0)) (sh w 0) 6 (nI (1 - w))).1 (sh w 1) j) = (fun j => if j < 6 then S.1 (yc b 3) j else S.1 (sh w 1) j) from by funext j; rw [quI_n n3, quI_n n1]; rfl]
    show (fX6_open_L36 n (sh w 0) n (nI 0) _).bind _ = _
    rw [e]
    show (xpI tC 6 9 (sh w 0) (nI 0) Z).bind _ = _
    rw [sh0_pI hw]
    show (xpI tC 6 10 (sh w 0) (nI 0) _).bind _ = _
    rw [sh0_pI hw]
  have n2 : ∀ c, c ≠ 2 → sh w c ≠ sh w 2 := fun c hc => by unfold sh; omega
  have k1 : ∀ k j, k ≠ sh w 0 → k ≠ sh w 1 → k ≠ sh w 2 → (xuI (xuI Z (sh w 0) 9 (nI 0)) (sh w 0) 10 (nI 0)).1 k j = S.1 k j := by
    intro k j h0 h1 h2
    rw [quI_n h0, quI_n h0, qFr_c hf h2, quA_n h1, quI_n h0]
    rfl
  have z2 : Z.2.2 = (xuR (xuR S (sh w 0) 4 (yc b 0)) (sh w 0) 5 (yd w 0)).2.2 := by rw [hf.2]; rfl
  have z0 : ∀ j, j ≠ 6 → Z.1 (sh w 0) j = S.1 (sh w 0) j := by
    intro j hj
    rw [qFr_c hf (n2 0 (by decide)), quA_n (Ne.symm n1), quI_s, if_neg hj]
    rfl
  have z6 : Z.1 (sh w 0) 6 = nI (1 - w) := by rw [qFr_c hf (n2 0 (by decide)), quA_n (Ne.symm n1), quI_s, if_pos rfl]
  have fz : ∀ c, c ≤ 16 → yc b c ≠ sh w 0 ∧ yc b c ≠ sh w 1 ∧ yc b c ≠ sh w 2 := fun c hc => by unfold yc sh; omega
  have fd : ∀ c, c ≤ 4 → yd w c ≠ sh w 0 ∧ yd w c ≠ sh w 1 ∧ yd w c ≠ sh w 2 := fun c hc => by unfold yd sh; omega
  refine ⟨_, eo, ⟨u, u', hu, hu', ?_, ⟨?_, ?_⟩, fun k hk => ?_, fun i hi => ?_, ⟨fun j hj => ?_, fun c j hc hc2 => ?_, fun h0 => ⟨?_, fun k => ?_⟩⟩, ⟨?_, ?_, ?_, ?_⟩, ?_⟩, fun k hk => ?_, ?_, fun k j hkj => ?_⟩
  · obtain ⟨y1, y2, y3, y4, y5, y6, y7, y8⟩ := hy
    have e15 : (xuI (xuI Z (sh w 0) 9 (nI 0)) (sh w 0) 10 (nI 0)).1 (yc b 15) = S.1 (yc b 15) := funext fun j => by obtain ⟨a, b', c'⟩ := fz 15 (by decide); exact k1 _ _ a b' c'
    refine ⟨fun c j hc => ?_, fun j => ?_, y3, y4, y5, y6, by rw [e15]; exact y7, by rw [e15]; exact y8⟩
    · obtain ⟨a, b', c'⟩ := fz c (by omega); rw [k1 _ _ a b' c']; exact y1 c j hc
    · obtain ⟨a, b', c'⟩ := fz 14 (by decide); rw [k1 _ _ a b' c']; exact y2 j
  · show Z.2.2 (sh w 0) 4 = yc b 0
    rw [z2, quR3, if_pos rfl, if_neg (by decide), quR3, if_pos rfl, if_pos rfl]
  · show Z.2.2 (sh w 0) 5 = yd w 0
    rw [z2, quR3, if_pos rfl, if_pos rfl]
  · rw [quI_n n1, quI_n n1, qFr_c hf (n2 1 (by decide)), quA_s]
    show (if k < 6 then S.1 (yc b 3) k else S.1 (sh w 1) k) = _
    rw [if_pos hk]
    exact hy.1 3 k (by decide)
  · rw [quI_n (by unfold sh; omega), quI_n (by unfold sh; omega)]
    exact hz i hi
  · obtain ⟨a, b', c'⟩ := fd 0 (by decide); rw [k1 _ _ a b' c']; exact hd.1 j hj
  · obtain ⟨a, b', c'⟩ := fd c hc2; rw [k1 _ _ a b' c']
    rw [show dU (dU (opn D) 5 0 u) 5 1 u' c j = D c j from by unfold opn; rw [dU_c (by omega), dU_c (by omega), dU_c (by omega), dU_c (by omega)]]
    exact hd.2.1 c j hc hc2
  · obtain ⟨a, b', c'⟩ := fd 0 (by decide); rw [k1 _ _ a b' c']; exact (hd.2.2 h0).1
  · rw [k1 _ _ (by unfold sh; omega) (by unfold sh; omega) (by unfold sh; omega)]; exact (hd.2.2 h0).2 k
  · rw [quI_s, if_neg (by decide), quI_s, if_neg (by decide), z0 7 (by decide)]; exact u7
  · rw [quI_s, if_neg (by decide), quI_s, if_neg (by decide), z0 8 (by decide)]; exact u8
  · rw [quI_s, if_neg (by decide), quI_s, if_pos rfl]; rfl
  · rw [quI_s, if_pos rfl]; rfl
  · rw [quI_s, if_neg (by decide), quI_s, if_neg (by decide)]; exact z6
  · funext j
    exact k1 k j (fun e => hk (Or.inl e)) (fun e => hk (Or.inr (Or.inl e))) (fun e => hk (Or.inr (Or.inr e)))
  · show Z.2.1 = S.2.1
    rw [hf.2]
    rfl
  · show Z.2.2 k j = S.2.2 k j
    rw [z2, quR3]
    by_cases hk : k = sh w 0
    · rw [if_pos hk, if_neg (fun e => hkj ⟨hk, Or.inr e⟩), quR3, if_pos hk, if_neg (fun e => hkj ⟨hk, Or.inl e⟩)]
    · rw [if_neg hk, quR3, if_neg hk]
end Q36

