theorem c_B126 (x : Int64) (S : xSt) : fX1_calculate_B126 x S = some ((eHeld x).toInt32) := by
  unfold fX1_calculate_B126 eHeld
  simp only [lg_cmp_le, lg_cmp_ge]
  by_cases h1 : x ≤ 1000000
  · by_cases h2 : -1000000 ≤ x <;> simp only [h1, h2, if_true, if_false]
  · simp only [h1, if_false]
theorem c_calc {op : Nat} {a b : Int64} {S : xSt} (h1 : 4 ≤ op) (h2 : op ≤ 8) : fX1_calculate (nI op) a b S = some ((e2 op a b).toInt32) := by
  rcases (by omega : op = 4 ∨ op = 5 ∨ op = 6 ∨ op = 7 ∨ op = 8) with rfl | rfl | rfl | rfl | rfl
  · exact c_B126 _ S
  · exact c_B126 _ S
  · exact c_B126 _ S
  all_goals
    unfold fX1_calculate fX1_calculate_B86 fX1_calculate_B68 fX1_calculate_B79 fX1_calculate_B86 fX1_calculate_B87 fX1_calculate_B105 fX1_calculate_B124
    simp only [lg_cmp_eq, lg_cmp_ge, c_B126]
    by_cases h0 : b = 0
    · subst h0; rfl
    · have q1 : (nI 7 = 4) = False := eq_false (by decide)
      have q2 : (nI 7 = 5) = False := eq_false (by decide)
      have q3 : (nI 7 = 6) = False := eq_false (by decide)
      have q4 : (nI 7 = 7) = True := eq_true (by decide)
      have p1 : (nI 8 = 4) = False := eq_false (by decide)
      have p2 : (nI 8 = 5) = False := eq_false (by decide)
      have p3 : (nI 8 = 6) = False := eq_false (by decide)
      have p4 : (nI 8 = 7) = False := eq_false (by decide)
      have r0 : ((0 : Int32) = 1) = False := eq_false (by decide)
      have r1 : ((1 : Int32) = 0) = False := eq_false (by decide)
      by_cases hr : a - a / b * b = 0 <;> by_cases ha : 0 ≤ a <;> by_cases hb : 0 ≤ b <;> simp only [q1, q2, q3, q4, p1, p2, p3, p4, r0, r1, h0, hr, ha, hb, if_true, if_false, e2, eFl, reduceIte, Nat.reduceEqDiff, iff_true, iff_false, true_iff, false_iff, not_true_eq_false, not_false_eq_true]
theorem e32_le {x y : Int64} (hx : eV false x) (hy : eV false y) : (x.toInt32 ≤ y.toInt32) = (x ≤ y) := by
  rw [Int32.le_iff_toInt_le, Int64.le_iff_toInt_le, e32 hx, e32 hy]
theorem e32_eq {x y : Int64} (hx : eV false x) (hy : eV false y) : (x.toInt32 = y.toInt32) = (x = y) := by
  rw [← Int32.toInt_inj, ← Int64.toInt_inj, e32 hx, e32 hy]
theorem c_cmp {op : Nat} {a b : Int64} {S : xSt} (ha : eV false a) (hb : eV false b) (hab : 14 ≤ op → eV true a ∧ eV true b) (h1 : 9 ≤ op) (h2 : op ≤ 15) : fX1_compare (nI op) a.toInt32 b.toInt32 S = some ((e2 op a b).toInt32) := by
  rcases (by omega : op = 9 ∨ op = 10 ∨ op = 11 ∨ op = 12 ∨ op = 13 ∨ op = 14 ∨ op = 15) with rfl | rfl | rfl | rfl | rfl | rfl | rfl
  · show (if b.toInt32 ≤ a.toInt32 then _ else _) = some ((if b ≤ a then b else a).toInt32)
    simp only [e32_le hb ha]; split <;> rfl
  · show (if a.toInt32 ≤ b.toInt32 then _ else _) = some ((if a ≤ b then b else a).toInt32)
    simp only [e32_le ha hb]; split <;> rfl
  · show (if b.toInt32 ≤ a.toInt32 then _ else _) = some ((if b ≤ a then (0 : Int64) else 1).toInt32)
    simp only [e32_le hb ha]; split <;> rfl
  · show (if a.toInt32 ≤ b.toInt32 then _ else _) = some ((if a ≤ b then (0 : Int64) else 1).toInt32)
    simp only [e32_le ha hb]; split <;> rfl
  · show (if a.toInt32 = b.toInt32 then _ else _) = some ((if a = b then (1 : Int64) else 0).toInt32)
    simp only [e32_eq ha hb]; split <;> rfl
  · obtain ⟨h3, h4⟩ := hab (by decide)
    rw [eV_t] at h3 h4
    rcases h3 with rfl | rfl <;> rcases h4 with rfl | rfl <;> rfl
  · obtain ⟨h3, h4⟩ := hab (by decide)
    rw [eV_t] at h3 h4
    rcases h3 with rfl | rfl <;> rcases h4 with rfl | rfl <;> rfl
theorem enc_op {op v : Nat} (h : op < 16) (hv : v < 10000) : nI (encC (op, v)) &&& 31 = nI op := by
  have e : encC (op, v) = v * 32 + op := by unfold encC; rw [if_neg (by simp only; omega)]
  rw [e, pk_andN (by omega) 5 (by decide)]
  congr 1
  omega
theorem enc_v {op v : Nat} (h : op < 16) (hv : v < 10000) : nI (encC (op, v)) >>> (nI 5 &&& 31) = nI v := by
  have e : encC (op, v) = v * 32 + op := by unfold encC; rw [if_neg (by simp only; omega)]
  rw [e, nI_shr (by omega) (by decide)]
  congr 1
  omega
theorem cSt_push {f : Nat → Int32} {l : List Int64} {x : Int64} (h : cSt f l) : cSt (fun j => if j = l.length then x.toInt32 else f j) (x :: l) :=
  ⟨if_pos rfl, cSt_upd h (Nat.le_refl _)⟩
theorem mSt_push {f : Nat → Int64} {l : List Int64} {x : Int64} (h : mSt f l) : mSt (fun j => if j = l.length then x else f j) (x :: l) :=
  ⟨if_pos rfl, mSt_upd h (Nat.le_refl _)⟩
section Q18
variable {w b : Nat} {S : xSt} {φ : Nat → Nat} {n : Nat}
set_option maxHeartbeats 4000000 in
theorem c_run1 (hw : w < 2) (hb : b < 2) (hF : ∀ j, j < 8 → S.1 (144 + 12 * w + 3) j = nI (φ j)) {o : Nat × Nat} {s s' : List Bool} {l : List Int64} (ht : t1 o s = some s') (hl : eVs s l) (hlen : s.length < 64) (hst : cSt (S.1 (2 + 17 * b + 16)) l) {i to : Nat} (hi : i < to) (hto : to ≤ 1600) (hc : S.1 (2 + 17 * b + 15) i = nI (encC o)) (rec : Int32 → Int32 → xSt → Option (Int32 × xSt)) :
    ∃ Z, fX1_run_L6b n (2 + 17 * b + 14) (nI to) (144 + 12 * w + 3) rec (nI l.length) (nI i) S = rec (nI (e1 φ o l).length) (nI (i + 1)) Z ∧ qFr (fun k => k = 2 + 17 * b + 16) S Z ∧ cSt (Z.1 (2 + 17 * b + 16)) (e1 φ o l) := by
  have hll : l.length < 64 := by rw [← eVs_len hl]; exact hlen
  obtain ⟨op, v⟩ := o
  unfold t1 at ht
  simp only at ht
  split at ht
  · cases ht
  rename_i hv0
  have hv : v < 10000 := by omega
  split at ht
  · rename_i h0
    subst h0
    refine ⟨xuI S (2 + 17 * b + 16) l.length (lN v).toInt32, ?_, qFr_upd rfl, ?_⟩
    · simp (disch := (first | assumption | omega | exact hB _ _ | exact hYB _ _ | (simp only [tk_sh hw, tr_sh0 hw, tr_sh1 hw, tr_sh2 hw, tr_sh3 hw, ta_sh1 hw, ta_sh2 hw, ta_sh3 hw, tl_sh1 hw, tl_sh2 hw, tl_sh3 hw, tk_yd hw, tr_yd5 hw, tr_yd6 hw, tr_yd7 hw, tr_yd8 hw, ta_yd1 hw, ta_yd2 hw, ta_yd3 hw, ta_yd4 hw, tl_yd1 hw, tl_yd2 hw, tl_yd3 hw, tl_yd4 hw, tk_yc hb, tr_yc0 hb, tr_yc1 hb, tr_yc2 hb, tr_yc3 hb, tr_yc4 hb, tr_yc5 hb, tr_yc6 hb, tr_yc7 hb, tr_yc8 hb, tr_yc9 hb, tr_yc10 hb, tr_yc11 hb, tr_yc12 hb, tr_yc13 hb, ta_yc1 hb, ta_yc2 hb, ta_yc3 hb, ta_yc4 hb, ta_yc5 hb, ta_yc6 hb, ta_yc7 hb, ta_yc8 hb, ta_yc9 hb, ta_yc10 hb, ta_yc11 hb, ta_yc12 hb, ta_yc13 hb, ta_yc15 hb, ta_yc16 hb, tl_yc1 hb, tl_yc2 hb, tl_yc3 hb, tl_yc4 hb, tl_yc5 hb, tl_yc6 hb, tl_yc7 hb, tl_yc8 hb, tl_yc9 hb, tl_yc10 hb, tl_yc11 hb, tl_yc12 hb, tl_yc13 hb, tl_yc15 hb, tl_yc16 hb, tk_co hb, tr_co0 hb, tr_co1 hb]; done) | (simp (disch := omega) only [↓nm_1, ↓nm_2, nI_add, pk_mul, pk_sub, Nat.add_sub_cancel, qm1_add, qm2_add, ni_0, ni_1, ni_5, ni_64, tk_sh hw, tr_sh0 hw, tr_sh1 hw, tr_sh2 hw, tr_sh3 hw, ta_sh1 hw, ta_sh2 hw, ta_sh3 hw, tl_sh1 hw, tl_sh2 hw, tl_sh3 hw, tk_yd hw, tr_yd5 hw, tr_yd6 hw, tr_yd7 hw, tr_yd8 hw, ta_yd1 hw, ta_yd2 hw, ta_yd3 hw, ta_yd4 hw, tl_yd1 hw, tl_yd2 hw, tl_yd3 hw, tl_yd4 hw, tk_yc hb, tr_yc0 hb, tr_yc1 hb, tr_yc2 hb, tr_yc3 hb, tr_yc4 hb, tr_yc5 hb, tr_yc6 hb, tr_yc7 hb, tr_yc8 hb, tr_yc9 hb, tr_yc10 hb, tr_yc11 hb, tr_yc12 hb, tr_yc13 hb, ta_yc1 hb, ta_yc2 hb, ta_yc3 hb, ta_yc4 hb, ta_yc5 hb, ta_yc6 hb, ta_yc7 hb, ta_yc8 hb, ta_yc9 hb, ta_yc10 hb, ta_yc11 hb, ta_yc12 hb, ta_yc13 hb, ta_yc15 hb, ta_yc16 hb, tl_yc1 hb, tl_yc2 hb, tl_yc3 hb, tl_yc4 hb, tl_yc5 hb, tl_yc6 hb, tl_yc7 hb, tl_yc8 hb, tl_yc9 hb, tl_yc10 hb, tl_yc11 hb, tl_yc12 hb, tl_yc13 hb, tl_yc15 hb, tl_yc16 hb, tk_co hb, tr_co0 hb, tr_co1 hb]; refine qin_nI ?_ ?_ <;> omega))) only [↓qb_gI, ↓qb_gL, ↓qb_gM, ↓qb_gF, ↓qb_pI, ↓qb_pL, ↓qb_pM, ↓qb_pZ0, ↓qb_pZ1, ↓qb_al, ↓qb_as, ↓qb_zl, ↓qb_zs0, ↓qb_zs1, ↓qb_ll, ↓qb_ls, ↓qb_ql, ↓qb_some, ↓qb_len13, ↓nm_1, ↓nm_2, ↓reduceIte, if_true, if_false, not_true_eq_false, not_false_eq_true, and_true, true_and, and_false, false_and, or_true, true_or, or_false, false_or, eq_self, ne_eq, quI1, quI2, quL1, quL2, quL3, quR1, quR2, quR3, nI_add, pk_mul, pk_sub, Nat.add_sub_cancel, qm1_add, qm2_add, nI_leI, nI_ltI, nI_eq, nI_m1, nI_m1', nI_clamp, nI_bit, nI_one_shl, nI_m1l, nI_m1lt, nI_m1lt', nI_m1le', ni_0, ni_1, ni_5, ni_64, tk_sh hw, tr_sh0 hw, tr_sh1 hw, tr_sh2 hw, tr_sh3 hw, ta_sh1 hw, ta_sh2 hw, ta_sh3 hw, tl_sh1 hw, tl_sh2 hw, tl_sh3 hw, tk_yd hw, tr_yd5 hw, tr_yd6 hw, tr_yd7 hw, tr_yd8 hw, ta_yd1 hw, ta_yd2 hw, ta_yd3 hw, ta_yd4 hw, tl_yd1 hw, tl_yd2 hw, tl_yd3 hw, tl_yd4 hw, tk_yc hb, tr_yc0 hb, tr_yc1 hb, tr_yc2 hb, tr_yc3 hb, tr_yc4 hb, tr_yc5 hb, tr_yc6 hb, tr_yc7 hb, tr_yc8 hb, tr_yc9 hb, tr_yc10 hb, tr_yc11 hb, tr_yc12 hb, tr_yc13 hb, ta_yc1 hb, ta_yc2 hb, ta_yc3 hb, ta_yc4 hb, ta_yc5 hb, ta_yc6 hb, ta_yc7 hb, ta_yc8 hb, ta_yc9 hb, ta_yc10 hb, ta_yc11 hb, ta_yc12 hb, ta_yc13 hb, ta_yc15 hb, ta_yc16 hb, tl_yc1 hb, tl_yc2 hb, tl_yc3 hb, tl_yc4 hb, tl_yc5 hb, tl_yc6 hb, tl_yc7 hb, tl_yc8 hb, tl_yc9 hb, tl_yc10 hb, tl_yc11 hb, tl_yc12 hb, tl_yc13 hb, tl_yc15 hb, tl_yc16 hb, tk_co hb, tr_co0 hb, tr_co1 hb, fX1_run_L6b, qle_t, qle_f, qlt_t, qlt_f, qeq_t, qeq_f, hc, enc_op (op := 0) (by decide) hv, enc_v (op := 0) (by decide) hv, e1, lN_i, List.length_cons]
    · rw [quI1s]
      exact cSt_push hst
  rename_i h0
  split at ht
  · rename_i h1
    subst h1
    have x1 : nI (encC (16, v)) &&& 31 = nI 0 := by rw [show encC (16, v) = 32 from rfl]; decide
    have x2 : nI (encC (16, v)) >>> (nI 5 &&& 31) = nI 1 := by rw [show encC (16, v) = 32 from rfl]; decide
    refine ⟨xuI S (2 + 17 * b + 16) l.length (1 : Int64).toInt32, ?_, qFr_upd rfl, ?_⟩
    · simp (disch := (first | assumption | omega | exact hB _ _ | exact hYB _ _ | (simp only [tk_sh hw, tr_sh0 hw, tr_sh1 hw, tr_sh2 hw, tr_sh3 hw, ta_sh1 hw, ta_sh2 hw, ta_sh3 hw, tl_sh1 hw, tl_sh2 hw, tl_sh3 hw, tk_yd hw, tr_yd5 hw, tr_yd6 hw, tr_yd7 hw, tr_yd8 hw, ta_yd1 hw, ta_yd2 hw, ta_yd3 hw, ta_yd4 hw, tl_yd1 hw, tl_yd2 hw, tl_yd3 hw, tl_yd4 hw, tk_yc hb, tr_yc0 hb, tr_yc1 hb, tr_yc2 hb, tr_yc3 hb, tr_yc4 hb, tr_yc5 hb, tr_yc6 hb, tr_yc7 hb, tr_yc8 hb, tr_yc9 hb, tr_yc10 hb, tr_yc11 hb, tr_yc12 hb, tr_yc13 hb, ta_yc1 hb, ta_yc2 hb, ta_yc3 hb, ta_yc4 hb, ta_yc5 hb, ta_yc6 hb, ta_yc7 hb, ta_yc8 hb, ta_yc9 hb, ta_yc10 hb, ta_yc11 hb, ta_yc12 hb, ta_yc13 hb, ta_yc15 hb, ta_yc16 hb, tl_yc1 hb, tl_yc2 hb, tl_yc3 hb, tl_yc4 hb, tl_yc5 hb, tl_yc6 hb, tl_yc7 hb, tl_yc8 hb, tl_yc9 hb, tl_yc10 hb, tl_yc11 hb, tl_yc12 hb, tl_yc13 hb, tl_yc15 hb, tl_yc16 hb, tk_co hb, tr_co0 hb, tr_co1 hb]; done) | (simp (disch := omega) only [↓nm_1, ↓nm_2, nI_add, pk_mul, pk_sub, Nat.add_sub_cancel, qm1_add, qm2_add, ni_0, ni_1, ni_5, ni_64, tk_sh hw, tr_sh0 hw, tr_sh1 hw, tr_sh2 hw, tr_sh3 hw, ta_sh1 hw, ta_sh2 hw, ta_sh3 hw, tl_sh1 hw, tl_sh2 hw, tl_sh3 hw, tk_yd hw, tr_yd5 hw, tr_yd6 hw, tr_yd7 hw, tr_yd8 hw, ta_yd1 hw, ta_yd2 hw, ta_yd3 hw, ta_yd4 hw, tl_yd1 hw, tl_yd2 hw, tl_yd3 hw, tl_yd4 hw, tk_yc hb, tr_yc0 hb, tr_yc1 hb, tr_yc2 hb, tr_yc3 hb, tr_yc4 hb, tr_yc5 hb, tr_yc6 hb, tr_yc7 hb, tr_yc8 hb, tr_yc9 hb, tr_yc10 hb, tr_yc11 hb, tr_yc12 hb, tr_yc13 hb, ta_yc1 hb, ta_yc2 hb, ta_yc3 hb, ta_yc4 hb, ta_yc5 hb, ta_yc6 hb, ta_yc7 hb, ta_yc8 hb, ta_yc9 hb, ta_yc10 hb, ta_yc11 hb, ta_yc12 hb, ta_yc13 hb, ta_yc15 hb, ta_yc16 hb, tl_yc1 hb, tl_yc2 hb, tl_yc3 hb, tl_yc4 hb, tl_yc5 hb, tl_yc6 hb, tl_yc7 hb, tl_yc8 hb, tl_yc9 hb, tl_yc10 hb, tl_yc11 hb, tl_yc12 hb, tl_yc13 hb, tl_yc15 hb, tl_yc16 hb, tk_co hb, tr_co0 hb, tr_co1 hb]; refine qin_nI ?_ ?_ <;> omega))) only [↓qb_gI, ↓qb_gL, ↓qb_gM, ↓qb_gF, ↓qb_pI, ↓qb_pL, ↓qb_pM, ↓qb_pZ0, ↓qb_pZ1, ↓qb_al, ↓qb_as, ↓qb_zl, ↓qb_zs0, ↓qb_zs1, ↓qb_ll, ↓qb_ls, ↓qb_ql, ↓qb_some, ↓qb_len13, ↓nm_1, ↓nm_2, ↓reduceIte, if_true, if_false, not_true_eq_false, not_false_eq_true, and_true, true_and, and_false, false_and, or_true, true_or, or_false, false_or, eq_self, ne_eq, quI1, quI2, quL1, quL2, quL3, quR1, quR2, quR3, nI_add, pk_mul, pk_sub, Nat.add_sub_cancel, qm1_add, qm2_add, nI_leI, nI_ltI, nI_eq, nI_m1, nI_m1', nI_clamp, nI_bit, nI_one_shl, nI_m1l, nI_m1lt, nI_m1lt', nI_m1le', ni_0, ni_1, ni_5, ni_64, tk_sh hw, tr_sh0 hw, tr_sh1 hw, tr_sh2 hw, tr_sh3 hw, ta_sh1 hw, ta_sh2 hw, ta_sh3 hw, tl_sh1 hw, tl_sh2 hw, tl_sh3 hw, tk_yd hw, tr_yd5 hw, tr_yd6 hw, tr_yd7 hw, tr_yd8 hw, ta_yd1 hw, ta_yd2 hw, ta_yd3 hw, ta_yd4 hw, tl_yd1 hw, tl_yd2 hw, tl_yd3 hw, tl_yd4 hw, tk_yc hb, tr_yc0 hb, tr_yc1 hb, tr_yc2 hb, tr_yc3 hb, tr_yc4 hb, tr_yc5 hb, tr_yc6 hb, tr_yc7 hb, tr_yc8 hb, tr_yc9 hb, tr_yc10 hb, tr_yc11 hb, tr_yc12 hb, tr_yc13 hb, ta_yc1 hb, ta_yc2 hb, ta_yc3 hb, ta_yc4 hb, ta_yc5 hb, ta_yc6 hb, ta_yc7 hb, ta_yc8 hb, ta_yc9 hb, ta_yc10 hb, ta_yc11 hb, ta_yc12 hb, ta_yc13 hb, ta_yc15 hb, ta_yc16 hb, tl_yc1 hb, tl_yc2 hb, tl_yc3 hb, tl_yc4 hb, tl_yc5 hb, tl_yc6 hb, tl_yc7 hb, tl_yc8 hb, tl_yc9 hb, tl_yc10 hb, tl_yc11 hb, tl_yc12 hb, tl_yc13 hb, tl_yc15 hb, tl_yc16 hb, tk_co hb, tr_co0 hb, tr_co1 hb, fX1_run_L6b, qle_t, qle_f, qlt_t, qlt_f, qeq_t, qeq_f, hc, x1, x2, e1, List.length_cons]
      rfl
    · rw [quI1s]
      exact cSt_push hst
  rename_i h1
  split at ht
  · rename_i h2
    subst h2
    split at ht
    · rename_i hv8
      have hf := hF v hv8
      refine ⟨xuI S (2 + 17 * b + 16) l.length (lN (φ v)).toInt32, ?_, qFr_upd rfl, ?_⟩
      · simp (disch := (first | assumption | omega | exact hB _ _ | exact hYB _ _ | (simp only [tk_sh hw, tr_sh0 hw, tr_sh1 hw, tr_sh2 hw, tr_sh3 hw, ta_sh1 hw, ta_sh2 hw, ta_sh3 hw, tl_sh1 hw, tl_sh2 hw, tl_sh3 hw, tk_yd hw, tr_yd5 hw, tr_yd6 hw, tr_yd7 hw, tr_yd8 hw, ta_yd1 hw, ta_yd2 hw, ta_yd3 hw, ta_yd4 hw, tl_yd1 hw, tl_yd2 hw, tl_yd3 hw, tl_yd4 hw, tk_yc hb, tr_yc0 hb, tr_yc1 hb, tr_yc2 hb, tr_yc3 hb, tr_yc4 hb, tr_yc5 hb, tr_yc6 hb, tr_yc7 hb, tr_yc8 hb, tr_yc9 hb, tr_yc10 hb, tr_yc11 hb, tr_yc12 hb, tr_yc13 hb, ta_yc1 hb, ta_yc2 hb, ta_yc3 hb, ta_yc4 hb, ta_yc5 hb, ta_yc6 hb, ta_yc7 hb, ta_yc8 hb, ta_yc9 hb, ta_yc10 hb, ta_yc11 hb, ta_yc12 hb, ta_yc13 hb, ta_yc15 hb, ta_yc16 hb, tl_yc1 hb, tl_yc2 hb, tl_yc3 hb, tl_yc4 hb, tl_yc5 hb, tl_yc6 hb, tl_yc7 hb, tl_yc8 hb, tl_yc9 hb, tl_yc10 hb, tl_yc11 hb, tl_yc12 hb, tl_yc13 hb, tl_yc15 hb, tl_yc16 hb, tk_co hb, tr_co0 hb, tr_co1 hb]; done) | (simp (disch := omega) only [↓nm_1, ↓nm_2, nI_add, pk_mul, pk_sub, Nat.add_sub_cancel, qm1_add, qm2_add, ni_0, ni_1, ni_5, ni_64, tk_sh hw, tr_sh0 hw, tr_sh1 hw, tr_sh2 hw, tr_sh3 hw, ta_sh1 hw, ta_sh2 hw, ta_sh3 hw, tl_sh1 hw, tl_sh2 hw, tl_sh3 hw, tk_yd hw, tr_yd5 hw, tr_yd6 hw, tr_yd7 hw, tr_yd8 hw, ta_yd1 hw, ta_yd2 hw, ta_yd3 hw, ta_yd4 hw, tl_yd1 hw, tl_yd2 hw, tl_yd3 hw, tl_yd4 hw, tk_yc hb, tr_yc0 hb, tr_yc1 hb, tr_yc2 hb, tr_yc3 hb, tr_yc4 hb, tr_yc5 hb, tr_yc6 hb, tr_yc7 hb, tr_yc8 hb, tr_yc9 hb, tr_yc10 hb, tr_yc11 hb, tr_yc12 hb, tr_yc13 hb, ta_yc1 hb, ta_yc2 hb, ta_yc3 hb, ta_yc4 hb, ta_yc5 hb, ta_yc6 hb, ta_yc7 hb, ta_yc8 hb, ta_yc9 hb, ta_yc10 hb, ta_yc11 hb, ta_yc12 hb, ta_yc13 hb, ta_yc15 hb, ta_yc16 hb, tl_yc1 hb, tl_yc2 hb, tl_yc3 hb, tl_yc4 hb, tl_yc5 hb, tl_yc6 hb, tl_yc7 hb, tl_yc8 hb, tl_yc9 hb, tl_yc10 hb, tl_yc11 hb, tl_yc12 hb, tl_yc13 hb, tl_yc15 hb, tl_yc16 hb, tk_co hb, tr_co0 hb, tr_co1 hb]; refine qin_nI ?_ ?_ <;> omega))) only [↓qb_gI, ↓qb_gL, ↓qb_gM, ↓qb_gF, ↓qb_pI, ↓qb_pL, ↓qb_pM, ↓qb_pZ0, ↓qb_pZ1, ↓qb_al, ↓qb_as, ↓qb_zl, ↓qb_zs0, ↓qb_zs1, ↓qb_ll, ↓qb_ls, ↓qb_ql, ↓qb_some, ↓qb_len13, ↓nm_1, ↓nm_2, ↓reduceIte, if_true, if_false, not_true_eq_false, not_false_eq_true, and_true, true_and, and_false, false_and, or_true, true_or, or_false, false_or, eq_self, ne_eq, quI1, quI2, quL1, quL2, quL3, quR1, quR2, quR3, nI_add, pk_mul, pk_sub, Nat.add_sub_cancel, qm1_add, qm2_add, nI_leI, nI_ltI, nI_eq, nI_m1, nI_m1', nI_clamp, nI_bit, nI_one_shl, nI_m1l, nI_m1lt, nI_m1lt', nI_m1le', ni_0, ni_1, ni_5, ni_64, tk_sh hw, tr_sh0 hw, tr_sh1 hw, tr_sh2 hw, tr_sh3 hw, ta_sh1 hw, ta_sh2 hw, ta_sh3 hw, tl_sh1 hw, tl_sh2 hw, tl_sh3 hw, tk_yd hw, tr_yd5 hw, tr_yd6 hw, tr_yd7 hw, tr_yd8 hw, ta_yd1 hw, ta_yd2 hw, ta_yd3 hw, ta_yd4 hw, tl_yd1 hw, tl_yd2 hw, tl_yd3 hw, tl_yd4 hw, tk_yc hb, tr_yc0 hb, tr_yc1 hb, tr_yc2 hb, tr_yc3 hb, tr_yc4 hb, tr_yc5 hb, tr_yc6 hb, tr_yc7 hb, tr_yc8 hb, tr_yc9 hb, tr_yc10 hb, tr_yc11 hb, tr_yc12 hb, tr_yc13 hb, ta_yc1 hb, ta_yc2 hb, ta_yc3 hb, ta_yc4 hb, ta_yc5 hb, ta_yc6 hb, ta_yc7 hb, ta_yc8 hb, ta_yc9 hb, ta_yc10 hb, ta_yc11 hb, ta_yc12 hb, ta_yc13 hb, ta_yc15 hb, ta_yc16 hb, tl_yc1 hb, tl_yc2 hb, tl_yc3 hb, tl_yc4 hb, tl_yc5 hb, tl_yc6 hb, tl_yc7 hb, tl_yc8 hb, tl_yc9 hb, tl_yc10 hb, tl_yc11 hb, tl_yc12 hb, tl_yc13 hb, tl_yc15 hb, tl_yc16 hb, tk_co hb, tr_co0 hb, tr_co1 hb, fX1_run_L6b, qle_t, qle_f, qlt_t, qlt_f, qeq_t, qeq_f, hc, enc_op (op := 1) (by decide) hv, enc_v (op := 1) (by decide) hv, e1, lN_i, List.length_cons, hf]
      · rw [quI1s]
        exact cSt_push hst
    · cases ht
  rename_i h2
  split at ht
  · rename_i h3
    subst h3
    split at ht
    · cases ht
      cases l with
      | nil => cases hl
      | cons a r =>
        have ha := hl.1
        have hr : r.length < 63 := by have := hll; simp only [List.length_cons] at this; omega
        have hs1 := hst.1
        have hv2 : (1 - a).toInt32 = nI 1 - a.toInt32 := by
          rw [eV_t] at ha
          rcases ha with rfl | rfl <;> rfl
        refine ⟨xuI S (2 + 17 * b + 16) r.length (1 - a).toInt32, ?_, qFr_upd rfl, ?_⟩
        · simp (disch := (first | assumption | omega | exact hB _ _ | exact hYB _ _ | (simp only [tk_sh hw, tr_sh0 hw, tr_sh1 hw, tr_sh2 hw, tr_sh3 hw, ta_sh1 hw, ta_sh2 hw, ta_sh3 hw, tl_sh1 hw, tl_sh2 hw, tl_sh3 hw, tk_yd hw, tr_yd5 hw, tr_yd6 hw, tr_yd7 hw, tr_yd8 hw, ta_yd1 hw, ta_yd2 hw, ta_yd3 hw, ta_yd4 hw, tl_yd1 hw, tl_yd2 hw, tl_yd3 hw, tl_yd4 hw, tk_yc hb, tr_yc0 hb, tr_yc1 hb, tr_yc2 hb, tr_yc3 hb, tr_yc4 hb, tr_yc5 hb, tr_yc6 hb, tr_yc7 hb, tr_yc8 hb, tr_yc9 hb, tr_yc10 hb, tr_yc11 hb, tr_yc12 hb, tr_yc13 hb, ta_yc1 hb, ta_yc2 hb, ta_yc3 hb, ta_yc4 hb, ta_yc5 hb, ta_yc6 hb, ta_yc7 hb, ta_yc8 hb, ta_yc9 hb, ta_yc10 hb, ta_yc11 hb, ta_yc12 hb, ta_yc13 hb, ta_yc15 hb, ta_yc16 hb, tl_yc1 hb, tl_yc2 hb, tl_yc3 hb, tl_yc4 hb, tl_yc5 hb, tl_yc6 hb, tl_yc7 hb, tl_yc8 hb, tl_yc9 hb, tl_yc10 hb, tl_yc11 hb, tl_yc12 hb, tl_yc13 hb, tl_yc15 hb, tl_yc16 hb, tk_co hb, tr_co0 hb, tr_co1 hb]; done) | (simp (disch := omega) only [↓nm_1, ↓nm_2, nI_add, pk_mul, pk_sub, Nat.add_sub_cancel, qm1_add, qm2_add, ni_0, ni_1, ni_2, ni_5, ni_64, tk_sh hw, tr_sh0 hw, tr_sh1 hw, tr_sh2 hw, tr_sh3 hw, ta_sh1 hw, ta_sh2 hw, ta_sh3 hw, tl_sh1 hw, tl_sh2 hw, tl_sh3 hw, tk_yd hw, tr_yd5 hw, tr_yd6 hw, tr_yd7 hw, tr_yd8 hw, ta_yd1 hw, ta_yd2 hw, ta_yd3 hw, ta_yd4 hw, tl_yd1 hw, tl_yd2 hw, tl_yd3 hw, tl_yd4 hw, tk_yc hb, tr_yc0 hb, tr_yc1 hb, tr_yc2 hb, tr_yc3 hb, tr_yc4 hb, tr_yc5 hb, tr_yc6 hb, tr_yc7 hb, tr_yc8 hb, tr_yc9 hb, tr_yc10 hb, tr_yc11 hb, tr_yc12 hb, tr_yc13 hb, ta_yc1 hb, ta_yc2 hb, ta_yc3 hb, ta_yc4 hb, ta_yc5 hb, ta_yc6 hb, ta_yc7 hb, ta_yc8 hb, ta_yc9 hb, ta_yc10 hb, ta_yc11 hb, ta_yc12 hb, ta_yc13 hb, ta_yc15 hb, ta_yc16 hb, tl_yc1 hb, tl_yc2 hb, tl_yc3 hb, tl_yc4 hb, tl_yc5 hb, tl_yc6 hb, tl_yc7 hb, tl_yc8 hb, tl_yc9 hb, tl_yc10 hb, tl_yc11 hb, tl_yc12 hb, tl_yc13 hb, tl_yc15 hb, tl_yc16 hb, tk_co hb, tr_co0 hb, tr_co1 hb]; refine qin_nI ?_ ?_ <;> omega))) only [↓qb_gI, ↓qb_gL, ↓qb_gM, ↓qb_gF, ↓qb_pI, ↓qb_pL, ↓qb_pM, ↓qb_pZ0, ↓qb_pZ1, ↓qb_al, ↓qb_as, ↓qb_zl, ↓qb_zs0, ↓qb_zs1, ↓qb_ll, ↓qb_ls, ↓qb_ql, ↓qb_some, ↓qb_len13, ↓nm_1, ↓nm_2, ↓reduceIte, if_true, if_false, not_true_eq_false, not_false_eq_true, and_true, true_and, and_false, false_and, or_true, true_or, or_false, false_or, eq_self, ne_eq, quI1, quI2, quL1, quL2, quL3, quR1, quR2, quR3, nI_add, pk_mul, pk_sub, Nat.add_sub_cancel, qm1_add, qm2_add, nI_leI, nI_ltI, nI_eq, nI_m1, nI_m1', nI_clamp, nI_bit, nI_one_shl, nI_m1l, nI_m1lt, nI_m1lt', nI_m1le', ni_0, ni_1, ni_2, ni_5, ni_64, tk_sh hw, tr_sh0 hw, tr_sh1 hw, tr_sh2 hw, tr_sh3 hw, ta_sh1 hw, ta_sh2 hw, ta_sh3 hw, tl_sh1 hw, tl_sh2 hw, tl_sh3 hw, tk_yd hw, tr_yd5 hw, tr_yd6 hw, tr_yd7 hw, tr_yd8 hw, ta_yd1 hw, ta_yd2 hw, ta_yd3 hw, ta_yd4 hw, tl_yd1 hw, tl_yd2 hw, tl_yd3 hw, tl_yd4 hw, tk_yc hb, tr_yc0 hb, tr_yc1 hb, tr_yc2 hb, tr_yc3 hb, tr_yc4 hb, tr_yc5 hb, tr_yc6 hb, tr_yc7 hb, tr_yc8 hb, tr_yc9 hb, tr_yc10 hb, tr_yc11 hb, tr_yc12 hb, tr_yc13 hb, ta_yc1 hb, ta_yc2 hb, ta_yc3 hb, ta_yc4 hb, ta_yc5 hb, ta_yc6 hb, ta_yc7 hb, ta_yc8 hb, ta_yc9 hb, ta_yc10 hb, ta_yc11 hb, ta_yc12 hb, ta_yc13 hb, ta_yc15 hb, ta_yc16 hb, tl_yc1 hb, tl_yc2 hb, tl_yc3 hb, tl_yc4 hb, tl_yc5 hb, tl_yc6 hb, tl_yc7 hb, tl_yc8 hb, tl_yc9 hb, tl_yc10 hb, tl_yc11 hb, tl_yc12 hb, tl_yc13 hb, tl_yc15 hb, tl_yc16 hb, tk_co hb, tr_co0 hb, tr_co1 hb, fX1_run_L6b, fX1_run_B112_6, qle_t, qle_f, qlt_t, qlt_f, qeq_t, qeq_f, hc, enc_op (op := 2) (by decide) hv, enc_v (op := 2) (by decide) hv, e1, List.length_cons, hs1, hv2]
        · rw [quI1s]
          exact cSt_push hst.2
    · cases ht
  rename_i h3
  split at ht
  · rename_i h4
    subst h4
    split at ht
    · cases ht
      match l, hl, hst, hll with
      | y :: x :: a :: r, hl, hst, hll =>
        have hr : r.length < 61 := by have := hll; simp only [List.length_cons] at this; omega
        have s0 := hst.1
        have s1 := hst.2.1
        have s2 := hst.2.2.1
        simp only [List.length_cons] at s0 s1
        have ha := hl.2.2.1
        rw [eV_t] at ha
        rcases ha with rfl | rfl
        · refine ⟨xuI S (2 + 17 * b + 16) r.length y.toInt32, ?_, qFr_upd rfl, ?_⟩
          · simp (disch := (first | assumption | omega | exact hB _ _ | exact hYB _ _ | (simp only [tk_sh hw, tr_sh0 hw, tr_sh1 hw, tr_sh2 hw, tr_sh3 hw, ta_sh1 hw, ta_sh2 hw, ta_sh3 hw, tl_sh1 hw, tl_sh2 hw, tl_sh3 hw, tk_yd hw, tr_yd5 hw, tr_yd6 hw, tr_yd7 hw, tr_yd8 hw, ta_yd1 hw, ta_yd2 hw, ta_yd3 hw, ta_yd4 hw, tl_yd1 hw, tl_yd2 hw, tl_yd3 hw, tl_yd4 hw, tk_yc hb, tr_yc0 hb, tr_yc1 hb, tr_yc2 hb, tr_yc3 hb, tr_yc4 hb, tr_yc5 hb, tr_yc6 hb, tr_yc7 hb, tr_yc8 hb, tr_yc9 hb, tr_yc10 hb, tr_yc11 hb, tr_yc12 hb, tr_yc13 hb, ta_yc1 hb, ta_yc2 hb, ta_yc3 hb, ta_yc4 hb, ta_yc5 hb, ta_yc6 hb, ta_yc7 hb, ta_yc8 hb, ta_yc9 hb, ta_yc10 hb, ta_yc11 hb, ta_yc12 hb, ta_yc13 hb, ta_yc15 hb, ta_yc16 hb, tl_yc1 hb, tl_yc2 hb, tl_yc3 hb, tl_yc4 hb, tl_yc5 hb, tl_yc6 hb, tl_yc7 hb, tl_yc8 hb, tl_yc9 hb, tl_yc10 hb, tl_yc11 hb, tl_yc12 hb, tl_yc13 hb, tl_yc15 hb, tl_yc16 hb, tk_co hb, tr_co0 hb, tr_co1 hb]; done) | (simp (disch := omega) only [↓nm_1, ↓nm_2, nI_add, pk_mul, pk_sub, Nat.add_sub_cancel, qm1_add, qm2_add, ni_0, ni_1, ni_2, ni_3, ni_5, ni_64, tk_sh hw, tr_sh0 hw, tr_sh1 hw, tr_sh2 hw, tr_sh3 hw, ta_sh1 hw, ta_sh2 hw, ta_sh3 hw, tl_sh1 hw, tl_sh2 hw, tl_sh3 hw, tk_yd hw, tr_yd5 hw, tr_yd6 hw, tr_yd7 hw, tr_yd8 hw, ta_yd1 hw, ta_yd2 hw, ta_yd3 hw, ta_yd4 hw, tl_yd1 hw, tl_yd2 hw, tl_yd3 hw, tl_yd4 hw, tk_yc hb, tr_yc0 hb, tr_yc1 hb, tr_yc2 hb, tr_yc3 hb, tr_yc4 hb, tr_yc5 hb, tr_yc6 hb, tr_yc7 hb, tr_yc8 hb, tr_yc9 hb, tr_yc10 hb, tr_yc11 hb, tr_yc12 hb, tr_yc13 hb, ta_yc1 hb, ta_yc2 hb, ta_yc3 hb, ta_yc4 hb, ta_yc5 hb, ta_yc6 hb, ta_yc7 hb, ta_yc8 hb, ta_yc9 hb, ta_yc10 hb, ta_yc11 hb, ta_yc12 hb, ta_yc13 hb, ta_yc15 hb, ta_yc16 hb, tl_yc1 hb, tl_yc2 hb, tl_yc3 hb, tl_yc4 hb, tl_yc5 hb, tl_yc6 hb, tl_yc7 hb, tl_yc8 hb, tl_yc9 hb, tl_yc10 hb, tl_yc11 hb, tl_yc12 hb, tl_yc13 hb, tl_yc15 hb, tl_yc16 hb, tk_co hb, tr_co0 hb, tr_co1 hb]; refine qin_nI ?_ ?_ <;> omega))) only [↓qb_gI, ↓qb_gL, ↓qb_gM, ↓qb_gF, ↓qb_pI, ↓qb_pL, ↓qb_pM, ↓qb_pZ0, ↓qb_pZ1, ↓qb_al, ↓qb_as, ↓qb_zl, ↓qb_zs0, ↓qb_zs1, ↓qb_ll, ↓qb_ls, ↓qb_ql, ↓qb_some, ↓qb_len13, ↓nm_1, ↓nm_2, ↓reduceIte, if_true, if_false, not_true_eq_false, not_false_eq_true, and_true, true_and, and_false, false_and, or_true, true_or, or_false, false_or, eq_self, ne_eq, quI1, quI2, quL1, quL2, quL3, quR1, quR2, quR3, nI_add, pk_mul, pk_sub, Nat.add_sub_cancel, qm1_add, qm2_add, nI_leI, nI_ltI, nI_eq, nI_m1, nI_m1', nI_clamp, nI_bit, nI_one_shl, nI_m1l, nI_m1lt, nI_m1lt', nI_m1le', ni_0, ni_1, ni_2, ni_3, ni_5, ni_64, tk_sh hw, tr_sh0 hw, tr_sh1 hw, tr_sh2 hw, tr_sh3 hw, ta_sh1 hw, ta_sh2 hw, ta_sh3 hw, tl_sh1 hw, tl_sh2 hw, tl_sh3 hw, tk_yd hw, tr_yd5 hw, tr_yd6 hw, tr_yd7 hw, tr_yd8 hw, ta_yd1 hw, ta_yd2 hw, ta_yd3 hw, ta_yd4 hw, tl_yd1 hw, tl_yd2 hw, tl_yd3 hw, tl_yd4 hw, tk_yc hb, tr_yc0 hb, tr_yc1 hb, tr_yc2 hb, tr_yc3 hb, tr_yc4 hb, tr_yc5 hb, tr_yc6 hb, tr_yc7 hb, tr_yc8 hb, tr_yc9 hb, tr_yc10 hb, tr_yc11 hb, tr_yc12 hb, tr_yc13 hb, ta_yc1 hb, ta_yc2 hb, ta_yc3 hb, ta_yc4 hb, ta_yc5 hb, ta_yc6 hb, ta_yc7 hb, ta_yc8 hb, ta_yc9 hb, ta_yc10 hb, ta_yc11 hb, ta_yc12 hb, ta_yc13 hb, ta_yc15 hb, ta_yc16 hb, tl_yc1 hb, tl_yc2 hb, tl_yc3 hb, tl_yc4 hb, tl_yc5 hb, tl_yc6 hb, tl_yc7 hb, tl_yc8 hb, tl_yc9 hb, tl_yc10 hb, tl_yc11 hb, tl_yc12 hb, tl_yc13 hb, tl_yc15 hb, tl_yc16 hb, tk_co hb, tr_co0 hb, tr_co1 hb, fX1_run_L6b, fX1_run_B112_6, fX1_run_B147_6, qle_t, qle_f, qlt_t, qlt_f, qeq_t, qeq_f, hc, enc_op (op := 3) (by decide) hv, enc_v (op := 3) (by decide) hv, e1, List.length_cons, s0, s1, s2]
            rfl
          · rw [quI1s]
            exact cSt_push hst.2.2.2
        · refine ⟨xuI S (2 + 17 * b + 16) r.length x.toInt32, ?_, qFr_upd rfl, ?_⟩
          · simp (disch := (first | assumption | omega | exact hB _ _ | exact hYB _ _ | (simp only [tk_sh hw, tr_sh0 hw, tr_sh1 hw, tr_sh2 hw, tr_sh3 hw, ta_sh1 hw, ta_sh2 hw, ta_sh3 hw, tl_sh1 hw, tl_sh2 hw, tl_sh3 hw, tk_yd hw, tr_yd5 hw, tr_yd6 hw, tr_yd7 hw, tr_yd8 hw, ta_yd1 hw, ta_yd2 hw, ta_yd3 hw, ta_yd4 hw, tl_yd1 hw, tl_yd2 hw, tl_yd3 hw, tl_yd4 hw, tk_yc hb, tr_yc0 hb, tr_yc1 hb, tr_yc2 hb, tr_yc3 hb, tr_yc4 hb, tr_yc5 hb, tr_yc6 hb, tr_yc7 hb, tr_yc8 hb, tr_yc9 hb, tr_yc10 hb, tr_yc11 hb, tr_yc12 hb, tr_yc13 hb, ta_yc1 hb, ta_yc2 hb, ta_yc3 hb, ta_yc4 hb, ta_yc5 hb, ta_yc6 hb, ta_yc7 hb, ta_yc8 hb, ta_yc9 hb, ta_yc10 hb, ta_yc11 hb, ta_yc12 hb, ta_yc13 hb, ta_yc15 hb, ta_yc16 hb, tl_yc1 hb, tl_yc2 hb, tl_yc3 hb, tl_yc4 hb, tl_yc5 hb, tl_yc6 hb, tl_yc7 hb, tl_yc8 hb, tl_yc9 hb, tl_yc10 hb, tl_yc11 hb, tl_yc12 hb, tl_yc13 hb, tl_yc15 hb, tl_yc16 hb, tk_co hb, tr_co0 hb, tr_co1 hb]; done) | (simp (disch := omega) only [↓nm_1, ↓nm_2, nI_add, pk_mul, pk_sub, Nat.add_sub_cancel, qm1_add, qm2_add, ni_0, ni_1, ni_2, ni_3, ni_5, ni_64, tk_sh hw, tr_sh0 hw, tr_sh1 hw, tr_sh2 hw, tr_sh3 hw, ta_sh1 hw, ta_sh2 hw, ta_sh3 hw, tl_sh1 hw, tl_sh2 hw, tl_sh3 hw, tk_yd hw, tr_yd5 hw, tr_yd6 hw, tr_yd7 hw, tr_yd8 hw, ta_yd1 hw, ta_yd2 hw, ta_yd3 hw, ta_yd4 hw, tl_yd1 hw, tl_yd2 hw, tl_yd3 hw, tl_yd4 hw, tk_yc hb, tr_yc0 hb, tr_yc1 hb, tr_yc2 hb, tr_yc3 hb, tr_yc4 hb, tr_yc5 hb, tr_yc6 hb, tr_yc7 hb, tr_yc8 hb, tr_yc9 hb, tr_yc10 hb, tr_yc11 hb, tr_yc12 hb, tr_yc13 hb, ta_yc1 hb, ta_yc2 hb, ta_yc3 hb, ta_yc4 hb, ta_yc5 hb, ta_yc6 hb, ta_yc7 hb, ta_yc8 hb, ta_yc9 hb, ta_yc10 hb, ta_yc11 hb, ta_yc12 hb, ta_yc13 hb, ta_yc15 hb, ta_yc16 hb, tl_yc1 hb, tl_yc2 hb, tl_yc3 hb, tl_yc4 hb, tl_yc5 hb, tl_yc6 hb, tl_yc7 hb, tl_yc8 hb, tl_yc9 hb, tl_yc10 hb, tl_yc11 hb, tl_yc12 hb, tl_yc13 hb, tl_yc15 hb, tl_yc16 hb, tk_co hb, tr_co0 hb, tr_co1 hb]; refine qin_nI ?_ ?_ <;> omega))) only [↓qb_gI, ↓qb_gL, ↓qb_gM, ↓qb_gF, ↓qb_pI, ↓qb_pL, ↓qb_pM, ↓qb_pZ0, ↓qb_pZ1, ↓qb_al, ↓qb_as, ↓qb_zl, ↓qb_zs0, ↓qb_zs1, ↓qb_ll, ↓qb_ls, ↓qb_ql, ↓qb_some, ↓qb_len13, ↓nm_1, ↓nm_2, ↓reduceIte, if_true, if_false, not_true_eq_false, not_false_eq_true, and_true, true_and, and_false, false_and, or_true, true_or, or_false, false_or, eq_self, ne_eq, quI1, quI2, quL1, quL2, quL3, quR1, quR2, quR3, nI_add, pk_mul, pk_sub, Nat.add_sub_cancel, qm1_add, qm2_add, nI_leI, nI_ltI, nI_eq, nI_m1, nI_m1', nI_clamp, nI_bit, nI_one_shl, nI_m1l, nI_m1lt, nI_m1lt', nI_m1le', ni_0, ni_1, ni_2, ni_3, ni_5, ni_64, tk_sh hw, tr_sh0 hw, tr_sh1 hw, tr_sh2 hw, tr_sh3 hw, ta_sh1 hw, ta_sh2 hw, ta_sh3 hw, tl_sh1 hw, tl_sh2 hw, tl_sh3 hw, tk_yd hw, tr_yd5 hw, tr_yd6 hw, tr_yd7 hw, tr_yd8 hw, ta_yd1 hw, ta_yd2 hw, ta_yd3 hw, ta_yd4 hw, tl_yd1 hw, tl_yd2 hw, tl_yd3 hw, tl_yd4 hw, tk_yc hb, tr_yc0 hb, tr_yc1 hb, tr_yc2 hb, tr_yc3 hb, tr_yc4 hb, tr_yc5 hb, tr_yc6 hb, tr_yc7 hb, tr_yc8 hb, tr_yc9 hb, tr_yc10 hb, tr_yc11 hb, tr_yc12 hb, tr_yc13 hb, ta_yc1 hb, ta_yc2 hb, ta_yc3 hb, ta_yc4 hb, ta_yc5 hb, ta_yc6 hb, ta_yc7 hb, ta_yc8 hb, ta_yc9 hb, ta_yc10 hb, ta_yc11 hb, ta_yc12 hb, ta_yc13 hb, ta_yc15 hb, ta_yc16 hb, tl_yc1 hb, tl_yc2 hb, tl_yc3 hb, tl_yc4 hb, tl_yc5 hb, tl_yc6 hb, tl_yc7 hb, tl_yc8 hb, tl_yc9 hb, tl_yc10 hb, tl_yc11 hb, tl_yc12 hb, tl_yc13 hb, tl_yc15 hb, tl_yc16 hb, tk_co hb, tr_co0 hb, tr_co1 hb, fX1_run_L6b, fX1_run_B112_6, fX1_run_B147_6, qle_t, qle_f, qlt_t, qlt_f, qeq_t, qeq_f, hc, enc_op (op := 3) (by decide) hv, enc_v (op := 3) (by decide) hv, e1, List.length_cons, s0, s1, s2]
            rfl
          · rw [quI1s]
            exact cSt_push hst.2.2.2
    · cases ht
  rename_i h4
  have key : op ≤ 15 ∧ ∃ y x r, l = y :: x :: r ∧ eV false x ∧ eV false y ∧ (14 ≤ op → eV true x ∧ eV true y) := by
    split at ht
    · split at ht
      · match l, hl with
        | y :: x :: r, hl => exact ⟨by omega, y, x, r, rfl, hl.2.1, hl.1, fun h => by omega⟩
      · cases ht
    split at ht
    · split at ht
      · match l, hl with
        | y :: x :: r, hl => exact ⟨by omega, y, x, r, rfl, hl.2.1, hl.1, fun h => by omega⟩
      · cases ht
    split at ht
    · split at ht
      · match l, hl with
        | y :: x :: r, hl => exact ⟨by omega, y, x, r, rfl, eV_ft hl.2.1, eV_ft hl.1, fun h => ⟨hl.2.1, hl.1⟩⟩
      · cases ht
    cases ht
  obtain ⟨h15, y, x, r, rfl, hx, hy, hxy⟩ := key
  have hr : r.length < 62 := by have := hll; simp only [List.length_cons] at this; omega
  have s0 := hst.1
  have s1 := hst.2.1
  simp only [List.length_cons] at s0
  refine ⟨xuI S (2 + 17 * b + 16) r.length (e2 op x y).toInt32, ?_, qFr_upd rfl, ?_⟩
  · by_cases h9 : 9 ≤ op
    · simp (disch := (first | assumption | omega | exact hB _ _ | exact hYB _ _ | (simp only [tk_sh hw, tr_sh0 hw, tr_sh1 hw, tr_sh2 hw, tr_sh3 hw, ta_sh1 hw, ta_sh2 hw, ta_sh3 hw, tl_sh1 hw, tl_sh2 hw, tl_sh3 hw, tk_yd hw, tr_yd5 hw, tr_yd6 hw, tr_yd7 hw, tr_yd8 hw, ta_yd1 hw, ta_yd2 hw, ta_yd3 hw, ta_yd4 hw, tl_yd1 hw, tl_yd2 hw, tl_yd3 hw, tl_yd4 hw, tk_yc hb, tr_yc0 hb, tr_yc1 hb, tr_yc2 hb, tr_yc3 hb, tr_yc4 hb, tr_yc5 hb, tr_yc6 hb, tr_yc7 hb, tr_yc8 hb, tr_yc9 hb, tr_yc10 hb, tr_yc11 hb, tr_yc12 hb, tr_yc13 hb, ta_yc1 hb, ta_yc2 hb, ta_yc3 hb, ta_yc4 hb, ta_yc5 hb, ta_yc6 hb, ta_yc7 hb, ta_yc8 hb, ta_yc9 hb, ta_yc10 hb, ta_yc11 hb, ta_yc12 hb, ta_yc13 hb, ta_yc15 hb, ta_yc16 hb, tl_yc1 hb, tl_yc2 hb, tl_yc3 hb, tl_yc4 hb, tl_yc5 hb, tl_yc6 hb, tl_yc7 hb, tl_yc8 hb, tl_yc9 hb, tl_yc10 hb, tl_yc11 hb, tl_yc12 hb, tl_yc13 hb, tl_yc15 hb, tl_yc16 hb, tk_co hb, tr_co0 hb, tr_co1 hb]; done) | (simp (disch := omega) only [↓nm_1, ↓nm_2, nI_add, pk_mul, pk_sub, Nat.add_sub_cancel, qm1_add, qm2_add, ni_0, ni_1, ni_2, ni_3, ni_5, ni_9, ni_64, tk_sh hw, tr_sh0 hw, tr_sh1 hw, tr_sh2 hw, tr_sh3 hw, ta_sh1 hw, ta_sh2 hw, ta_sh3 hw, tl_sh1 hw, tl_sh2 hw, tl_sh3 hw, tk_yd hw, tr_yd5 hw, tr_yd6 hw, tr_yd7 hw, tr_yd8 hw, ta_yd1 hw, ta_yd2 hw, ta_yd3 hw, ta_yd4 hw, tl_yd1 hw, tl_yd2 hw, tl_yd3 hw, tl_yd4 hw, tk_yc hb, tr_yc0 hb, tr_yc1 hb, tr_yc2 hb, tr_yc3 hb, tr_yc4 hb, tr_yc5 hb, tr_yc6 hb, tr_yc7 hb, tr_yc8 hb, tr_yc9 hb, tr_yc10 hb, tr_yc11 hb, tr_yc12 hb, tr_yc13 hb, ta_yc1 hb, ta_yc2 hb, ta_yc3 hb, ta_yc4 hb, ta_yc5 hb, ta_yc6 hb, ta_yc7 hb, ta_yc8 hb, ta_yc9 hb, ta_yc10 hb, ta_yc11 hb, ta_yc12 hb, ta_yc13 hb, ta_yc15 hb, ta_yc16 hb, tl_yc1 hb, tl_yc2 hb, tl_yc3 hb, tl_yc4 hb, tl_yc5 hb, tl_yc6 hb, tl_yc7 hb, tl_yc8 hb, tl_yc9 hb, tl_yc10 hb, tl_yc11 hb, tl_yc12 hb, tl_yc13 hb, tl_yc15 hb, tl_yc16 hb, tk_co hb, tr_co0 hb, tr_co1 hb]; refine qin_nI ?_ ?_ <;> omega))) only [↓qb_gI, ↓qb_gL, ↓qb_gM, ↓qb_gF, ↓qb_pI, ↓qb_pL, ↓qb_pM, ↓qb_pZ0, ↓qb_pZ1, ↓qb_al, ↓qb_as, ↓qb_zl, ↓qb_zs0, ↓qb_zs1, ↓qb_ll, ↓qb_ls, ↓qb_ql, ↓qb_some, ↓qb_len13, ↓nm_1, ↓nm_2, ↓reduceIte, if_true, if_false, not_true_eq_false, not_false_eq_true, and_true, true_and, and_false, false_and, or_true, true_or, or_false, false_or, eq_self, ne_eq, quI1, quI2, quL1, quL2, quL3, quR1, quR2, quR3, nI_add, pk_mul, pk_sub, Nat.add_sub_cancel, qm1_add, qm2_add, nI_leI, nI_ltI, nI_eq, nI_m1, nI_m1', nI_clamp, nI_bit, nI_one_shl, nI_m1l, nI_m1lt, nI_m1lt', nI_m1le', ni_0, ni_1, ni_2, ni_3, ni_5, ni_9, ni_64, tk_sh hw, tr_sh0 hw, tr_sh1 hw, tr_sh2 hw, tr_sh3 hw, ta_sh1 hw, ta_sh2 hw, ta_sh3 hw, tl_sh1 hw, tl_sh2 hw, tl_sh3 hw, tk_yd hw, tr_yd5 hw, tr_yd6 hw, tr_yd7 hw, tr_yd8 hw, ta_yd1 hw, ta_yd2 hw, ta_yd3 hw, ta_yd4 hw, tl_yd1 hw, tl_yd2 hw, tl_yd3 hw, tl_yd4 hw, tk_yc hb, tr_yc0 hb, tr_yc1 hb, tr_yc2 hb, tr_yc3 hb, tr_yc4 hb, tr_yc5 hb, tr_yc6 hb, tr_yc7 hb, tr_yc8 hb, tr_yc9 hb, tr_yc10 hb, tr_yc11 hb, tr_yc12 hb, tr_yc13 hb, ta_yc1 hb, ta_yc2 hb, ta_yc3 hb, ta_yc4 hb, ta_yc5 hb, ta_yc6 hb, ta_yc7 hb, ta_yc8 hb, ta_yc9 hb, ta_yc10 hb, ta_yc11 hb, ta_yc12 hb, ta_yc13 hb, ta_yc15 hb, ta_yc16 hb, tl_yc1 hb, tl_yc2 hb, tl_yc3 hb, tl_yc4 hb, tl_yc5 hb, tl_yc6 hb, tl_yc7 hb, tl_yc8 hb, tl_yc9 hb, tl_yc10 hb, tl_yc11 hb, tl_yc12 hb, tl_yc13 hb, tl_yc15 hb, tl_yc16 hb, tk_co hb, tr_co0 hb, tr_co1 hb, fX1_run_L6b, fX1_run_B112_6, fX1_run_B147_6, fX1_run_B205_6, qle_t, qle_f, qlt_t, qlt_f, qeq_t, qeq_f, hc, enc_op (op := op) (v := v) (by omega) hv, enc_v (op := op) (v := v) (by omega) hv, e1, List.length_cons, s0, s1, c_cmp hx hy hxy h9 h15]
    · simp (disch := (first | assumption | omega | exact hB _ _ | exact hYB _ _ | (simp only [tk_sh hw, tr_sh0 hw, tr_sh1 hw, tr_sh2 hw, tr_sh3 hw, ta_sh1 hw, ta_sh2 hw, ta_sh3 hw, tl_sh1 hw, tl_sh2 hw, tl_sh3 hw, tk_yd hw, tr_yd5 hw, tr_yd6 hw, tr_yd7 hw, tr_yd8 hw, ta_yd1 hw, ta_yd2 hw, ta_yd3 hw, ta_yd4 hw, tl_yd1 hw, tl_yd2 hw, tl_yd3 hw, tl_yd4 hw, tk_yc hb, tr_yc0 hb, tr_yc1 hb, tr_yc2 hb, tr_yc3 hb, tr_yc4 hb, tr_yc5 hb, tr_yc6 hb, tr_yc7 hb, tr_yc8 hb, tr_yc9 hb, tr_yc10 hb, tr_yc11 hb, tr_yc12 hb, tr_yc13 hb, ta_yc1 hb, ta_yc2 hb, ta_yc3 hb, ta_yc4 hb, ta_yc5 hb, ta_yc6 hb, ta_yc7 hb, ta_yc8 hb, ta_yc9 hb, ta_yc10 hb, ta_yc11 hb, ta_yc12 hb, ta_yc13 hb, ta_yc15 hb, ta_yc16 hb, tl_yc1 hb, tl_yc2 hb, tl_yc3 hb, tl_yc4 hb, tl_yc5 hb, tl_yc6 hb, tl_yc7 hb, tl_yc8 hb, tl_yc9 hb, tl_yc10 hb, tl_yc11 hb, tl_yc12 hb, tl_yc13 hb, tl_yc15 hb, tl_yc16 hb, tk_co hb, tr_co0 hb, tr_co1 hb]; done) | (simp (disch := omega) only [↓nm_1, ↓nm_2, nI_add, pk_mul, pk_sub, Nat.add_sub_cancel, qm1_add, qm2_add, ni_0, ni_1, ni_2, ni_3, ni_5, ni_9, ni_64, tk_sh hw, tr_sh0 hw, tr_sh1 hw, tr_sh2 hw, tr_sh3 hw, ta_sh1 hw, ta_sh2 hw, ta_sh3 hw, tl_sh1 hw, tl_sh2 hw, tl_sh3 hw, tk_yd hw, tr_yd5 hw, tr_yd6 hw, tr_yd7 hw, tr_yd8 hw, ta_yd1 hw, ta_yd2 hw, ta_yd3 hw, ta_yd4 hw, tl_yd1 hw, tl_yd2 hw, tl_yd3 hw, tl_yd4 hw, tk_yc hb, tr_yc0 hb, tr_yc1 hb, tr_yc2 hb, tr_yc3 hb, tr_yc4 hb, tr_yc5 hb, tr_yc6 hb, tr_yc7 hb, tr_yc8 hb, tr_yc9 hb, tr_yc10 hb, tr_yc11 hb, tr_yc12 hb, tr_yc13 hb, ta_yc1 hb, ta_yc2 hb, ta_yc3 hb, ta_yc4 hb, ta_yc5 hb, ta_yc6 hb, ta_yc7 hb, ta_yc8 hb, ta_yc9 hb, ta_yc10 hb, ta_yc11 hb, ta_yc12 hb, ta_yc13 hb, ta_yc15 hb, ta_yc16 hb, tl_yc1 hb, tl_yc2 hb, tl_yc3 hb, tl_yc4 hb, tl_yc5 hb, tl_yc6 hb, tl_yc7 hb, tl_yc8 hb, tl_yc9 hb, tl_yc10 hb, tl_yc11 hb, tl_yc12 hb, tl_yc13 hb, tl_yc15 hb, tl_yc16 hb, tk_co hb, tr_co0 hb, tr_co1 hb]; refine qin_nI ?_ ?_ <;> omega))) only [↓qb_gI, ↓qb_gL, ↓qb_gM, ↓qb_gF, ↓qb_pI, ↓qb_pL, ↓qb_pM, ↓qb_pZ0, ↓qb_pZ1, ↓qb_al, ↓qb_as, ↓qb_zl, ↓qb_zs0, ↓qb_zs1, ↓qb_ll, ↓qb_ls, ↓qb_ql, ↓qb_some, ↓qb_len13, ↓nm_1, ↓nm_2, ↓reduceIte, if_true, if_false, not_true_eq_false, not_false_eq_true, and_true, true_and, and_false, false_and, or_true, true_or, or_false, false_or, eq_self, ne_eq, quI1, quI2, quL1, quL2, quL3, quR1, quR2, quR3, nI_add, pk_mul, pk_sub, Nat.add_sub_cancel, qm1_add, qm2_add, nI_leI, nI_ltI, nI_eq, nI_m1, nI_m1', nI_clamp, nI_bit, nI_one_shl, nI_m1l, nI_m1lt, nI_m1lt', nI_m1le', ni_0, ni_1, ni_2, ni_3, ni_5, ni_9, ni_64, tk_sh hw, tr_sh0 hw, tr_sh1 hw, tr_sh2 hw, tr_sh3 hw, ta_sh1 hw, ta_sh2 hw, ta_sh3 hw, tl_sh1 hw, tl_sh2 hw, tl_sh3 hw, tk_yd hw, tr_yd5 hw, tr_yd6 hw, tr_yd7 hw, tr_yd8 hw, ta_yd1 hw, ta_yd2 hw, ta_yd3 hw, ta_yd4 hw, tl_yd1 hw, tl_yd2 hw, tl_yd3 hw, tl_yd4 hw, tk_yc hb, tr_yc0 hb, tr_yc1 hb, tr_yc2 hb, tr_yc3 hb, tr_yc4 hb, tr_yc5 hb, tr_yc6 hb, tr_yc7 hb, tr_yc8 hb, tr_yc9 hb, tr_yc10 hb, tr_yc11 hb, tr_yc12 hb, tr_yc13 hb, ta_yc1 hb, ta_yc2 hb, ta_yc3 hb, ta_yc4 hb, ta_yc5 hb, ta_yc6 hb, ta_yc7 hb, ta_yc8 hb, ta_yc9 hb, ta_yc10 hb, ta_yc11 hb, ta_yc12 hb, ta_yc13 hb, ta_yc15 hb, ta_yc16 hb, tl_yc1 hb, tl_yc2 hb, tl_yc3 hb, tl_yc4 hb, tl_yc5 hb, tl_yc6 hb, tl_yc7 hb, tl_yc8 hb, tl_yc9 hb, tl_yc10 hb, tl_yc11 hb, tl_yc12 hb, tl_yc13 hb, tl_yc15 hb, tl_yc16 hb, tk_co hb, tr_co0 hb, tr_co1 hb, fX1_run_L6b, fX1_run_B112_6, fX1_run_B147_6, fX1_run_B205_6, fX1_run_B254_6, qle_t, qle_f, qlt_t, qlt_f, qeq_t, qeq_f, hc, enc_op (op := op) (v := v) (by omega) hv, enc_v (op := op) (v := v) (by omega) hv, e1, List.length_cons, s0, s1, e3264 hx, e3264 hy, c_calc (a := x) (b := y) (op := op) (by omega) (by omega)]
  · rw [quI1s]
    have : e1 φ (op, v) (y :: x :: r) = e2 op x y :: r := by
      unfold e1
      simp only [h0, h1, h2, h3, h4, if_false]
    rw [this]
    exact cSt_push hst.2.2
end Q18

