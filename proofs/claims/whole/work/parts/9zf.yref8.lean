/-! ===== the reference reads statements: a job's steps ===== -/
def mJo (S : xSt) (b : Nat) (f : Nat → Nat) (L K : Nat) (Y : Nat → Nat → Nat) (cc : List (Nat × Nat)) (R : YS) (F : Option (Int32 × xSt)) : Prop := match R with
  | .inl (kd, pl) => (∃ c Z, F = some (nI c, Z) ∧ c ≤ 4 ∧ (0 < kd ∧ kd < 100) ∧ Z.1 0 8 = nI kd ∧ Z.1 0 9 = nI pl ∧ frG b S Z ∧ Z.1 0 40 = S.1 0 40 ∧ Z.1 10 b = S.1 10 b) ∨ (∃ c Z e', F = some (nI c, Z) ∧ c ≤ 4 ∧ mkM Z b f L e' Y cc ∧ ¬ ig f L e' 59 ∧ kd = 1 ∧ pl = kP f L e' ∧ frG b S Z)
  | .inr (e', Y') => ∃ c Z, F = some (nI c, Z) ∧ c ≤ 4 ∧ mkM Z b f L e' Y cc ∧ frG b S Z ∧ Y' 9 K = c ∧ (∀ s, s < c → Z.1 13 (4 * (6 * b + K) + s) = nI (Y' 10 (4 * K + s)) ∧ Z.1 14 (4 * (6 * b + K) + s) = nI (Y' 11 (4 * K + s))) ∧ (∀ j, Z.1 11 j = S.1 11 j) ∧ (∀ k j, 23 ≤ k → Z.2.1 k j = S.2.1 k j)
section Q9zf
variable {S Z V W : xSt} {n L e m o b d t k a s w lo hi j r kd pl K : Nat} {u : Option Nat} {f : Nat → Nat} {cc mc wc : List (Nat × Nat)} {Y Y' : Nat → Nat → Nat} {F : Option (Int32 × xSt)} {R : YS}
theorem mJo_pre (h : frG b S Z) (h4 : Z.1 0 40 = S.1 0 40) (h10 : Z.1 10 b = S.1 10 b) (h11 : ∀ j, Z.1 11 j = S.1 11 j) (hl : ∀ k j, 23 ≤ k → Z.2.1 k j = S.2.1 k j) (h1 : mJo Z b f L K Y cc R F) : mJo S b f L K Y cc R F := by
  match R, h1 with
  | .inl (kd, pl), Or.inl ⟨c, V, x1, x2, x3, x4, x5, x6, x7, x8⟩ => exact Or.inl ⟨c, V, x1, x2, x3, x4, x5, frG_trans h x6, x7.trans h4, x8.trans h10⟩
  | .inl (kd, pl), Or.inr ⟨c, V, e', x1, x2, x3, x4, x5, x6, x7⟩ => exact Or.inr ⟨c, V, e', x1, x2, x3, x4, x5, x6, frG_trans h x7⟩
  | .inr (e', Y'), ⟨c, V, x1, x2, x3, x4, x5, x6, x7, x8⟩ => exact ⟨c, V, x1, x2, x3, frG_trans h x4, x5, x6, fun j => (x7 j).trans (h11 j), fun k j hk => (x8 k j hk).trans (hl k j hk)⟩
theorem fd_eq (h1 : ∀ j, Y' 1 j = Y 1 j) (h2 : Y' 2 s = Y 2 s) : s_fd Y' s w = s_fd Y s w := by
  unfold s_fd
  rw [h2]
  have gen : ∀ (k i : Nat), s_fdL Y' s w k i = s_fdL Y s w k i := by
    intro k
    induction k with
    | zero => intro i; rfl
    | succ k ih => intro i; unfold s_fdL; rw [h1, ih (i + 1)]
  exact gen _ _
theorem tA_eq (h1 : ∀ j, Y' 1 j = Y 1 j) (h2 : Y' 2 s = Y 2 s) : tA f L Y' s u e = tA f L Y s u e := by
  unfold tA
  rw [fd_eq h1 h2]
/-- the loop is over -/
theorem j_end {st q : Nat} (hq : 0 < q) : fX12_jobbing_L87 n 0 (nI k) q (nI st) (nI 0) S = some (nI st, S) := by
  obtain ⟨q, rfl⟩ : ∃ q', q = q' + 1 := ⟨q - 1, by omega⟩
  show fX12_jobbing_L87b n 0 (nI k) _ (nI st) (nI 0) S = _
  simp (disch := (first | assumption | omega | exact hB _ _ | exact hYB _ _ | (simp only [yc, yd, sh, sv, ne_eq]; omega) | (simp (disch := omega) only [↓nm_1, ↓nm_2, nI_add, pk_mul, pk_sub, Nat.add_sub_cancel, qm1_add, qm2_add, nI_clamp, ni_0, ni_1, ni_4, ni_6, ni_9]; refine qin_nI ?_ ?_ <;> first | omega | exact hB _ _ | exact hYB _ _) | (refine qin_nI ?_ ?_ <;> omega) | fail)) only [↓km0_gd, ↓km0_gI, ↓km0_gM, ↓km0_pI, ↓km0_pM, ↓km0_pZ, ↓km0_gL, ↓km0_pL, ↓km0_gF25, ↓km0_gF26, ↓km13_al, ↓km13_as, ↓km13_ln, ↓km14_al, ↓km14_as, ↓km14_ln, ↓qb_so, ↓nm_1, ↓nm_2, ↓reduceIte, if_true, if_false, not_true_eq_false, not_false_eq_true, and_true, true_and, and_false, false_and, or_true, true_or, or_false, false_or, eq_self, ne_eq, quI_s, quI_n, quI2, quL1, quL2, quL3, quR1, quR2, quR3, nI_add, pk_mul, pk_sub, Nat.add_sub_cancel, qm1_add, qm2_add, nI_leI, nI_ltI, nI_eq, nI_m1, nI_m1', nI_clamp, nI_bit, nI_one_shl, nI_m1l, nI_m1lt, nI_m1lt', nI_m1le', oI_some, oI_none, ni_0, ni_1, ni_4, ni_6, ni_9, fX12_jobbing_L87b, qle_t, qle_f, qlt_t, qlt_f, qeq_t, qeq_f]
/-- what is behind a step -/
def jTl (n k q st : Nat) (S : xSt) : Option (Int32 × xSt) := if nI (st + 1) = nI 4 then (if S.1 0 3 = nI 1 then (fX12_blame 0 (nI 6) (S.1 0 4) S).bind fun S35 => fX12_jobbing_B151_87 n (fX12_jobbing_L87 n 0 (nI k) q) 0 (nI k) (nI (st + 1)) S35 else fX12_jobbing_B151_87 n (fX12_jobbing_L87 n 0 (nI k) q) 0 (nI k) (nI (st + 1)) S) else fX12_jobbing_B151_87 n (fX12_jobbing_L87 n 0 (nI k) q) 0 (nI k) (nI (st + 1)) S
theorem jT_flt {st q : Nat} (hq : 0 < q) (h8 : S.1 0 8 = nI kd) (h0 : 0 < kd) (h1 : kd < 100) (hst : st < 4) : jTl n k q st S = some (nI (st + 1), S) := by
  have e1 := j_end (n := n) (k := k) (st := st + 1) (S := S) hq
  have kn : ¬ kd = 0 := by omega
  have q1 : fX12_jobbing_B151_87 n (fX12_jobbing_L87 n 0 (nI k) q) 0 (nI k) (nI (st + 1)) S = some (nI (st + 1), S) := by
    simp (disch := (first | assumption | omega | exact hB _ _ | exact hYB _ _ | (simp only [yc, yd, sh, sv, ne_eq]; omega) | (simp (disch := omega) only [↓nm_1, ↓nm_2, nI_add, pk_mul, pk_sub, Nat.add_sub_cancel, qm1_add, qm2_add, nI_clamp, ni_0, ni_1, h8, kn, e1]; refine qin_nI ?_ ?_ <;> first | omega | exact hB _ _ | exact hYB _ _) | (refine qin_nI ?_ ?_ <;> omega) | fail)) only [↓km0_gd, ↓km0_gI, ↓km0_gM, ↓km0_pI, ↓km0_pM, ↓km0_pZ, ↓km0_gL, ↓km0_pL, ↓qb_so, ↓nm_1, ↓nm_2, ↓reduceIte, if_true, if_false, not_true_eq_false, not_false_eq_true, and_true, true_and, and_false, false_and, or_true, true_or, or_false, false_or, eq_self, ne_eq, quI_s, quI_n, quI2, quL1, quL2, quL3, quR1, quR2, quR3, nI_add, pk_mul, pk_sub, Nat.add_sub_cancel, qm1_add, qm2_add, nI_leI, nI_ltI, nI_eq, nI_m1, nI_m1', nI_clamp, nI_bit, nI_one_shl, nI_m1l, nI_m1lt, nI_m1lt', nI_m1le', oI_some, oI_none, ni_0, ni_1, fX12_jobbing_B151_87, qle_t, qle_f, qlt_t, qlt_f, qeq_t, qeq_f, h8, kn, e1]
  have b1 := m_blame1 (x := nI 6) (y := S.1 0 4) h8 h0 h1
  unfold jTl
  rw [b1, q1]
  show (if nI (st + 1) = nI 4 then (if S.1 0 3 = nI 1 then fX12_jobbing_B151_87 n (fX12_jobbing_L87 n 0 (nI k) q) 0 (nI k) (nI (st + 1)) S else _) else _) = _
  rw [q1]
  split
  · split <;> rfl
  · rfl
theorem m_jstp {st q : Nat} (hst : st < 4) (hk : k < 12) : fX12_jobbing_L87b n 0 (nI k) (fX12_jobbing_L87 n 0 (nI k) q) (nI st) (nI 1) S = (fX12_askedBut n 0 (nI 0) (nI 0) S).bind fun q20 => (xas tM 13 (nI (4 * k + st)) q20.1 q20.2).bind fun S21 => (fX12_number n 0 (nI 1) (nI 9) S21).bind fun q23 => (xas tM 14 (nI (4 * k + st)) q23.1 q23.2).bind fun S24 => jTl n k q st S24 := by
  unfold jTl
  simp (disch := (first | assumption | omega | exact hB _ _ | exact hYB _ _ | (simp only [yc, yd, sh, sv, ne_eq]; omega) | (simp (disch := omega) only [↓nm_1, ↓nm_2, nI_add, pk_mul, pk_sub, Nat.add_sub_cancel, qm1_add, qm2_add, nI_clamp, ni_0, ni_1, ni_4, ni_6, ni_9]; refine qin_nI ?_ ?_ <;> first | omega | exact hB _ _ | exact hYB _ _) | (refine qin_nI ?_ ?_ <;> omega) | fail)) only [↓km0_gd, ↓km0_gI, ↓km0_gM, ↓km0_pI, ↓km0_pM, ↓km0_pZ, ↓km0_gL, ↓km0_pL, ↓km0_gF25, ↓km0_gF26, ↓km13_al, ↓km13_as, ↓km13_ln, ↓km14_al, ↓km14_as, ↓km14_ln, ↓qb_so, ↓nm_1, ↓nm_2, ↓reduceIte, if_true, if_false, not_true_eq_false, not_false_eq_true, and_true, true_and, and_false, false_and, or_true, true_or, or_false, false_or, eq_self, ne_eq, quI_s, quI_n, quI2, quL1, quL2, quL3, quR1, quR2, quR3, nI_add, pk_mul, pk_sub, Nat.add_sub_cancel, qm1_add, qm2_add, nI_leI, nI_ltI, nI_eq, nI_m1, nI_m1', nI_clamp, nI_bit, nI_one_shl, nI_m1l, nI_m1lt, nI_m1lt', nI_m1le', oI_some, oI_none, ni_0, ni_1, ni_4, ni_6, ni_9, fX12_jobbing_L87b, qle_t, qle_f, qlt_t, qlt_f, qeq_t, qeq_f]
theorem m_steps (hn : 2000 ≤ n) (hb : b < 2) (hY : yrOk Y) (hN : yJn Y) (hf : Y 2 3 < 6) : ∀ (k st q : Nat) (Ys : Nat → Nat → Nat) (S : xSt) (e : Nat), st + k = 4 → 1 ≤ k → k < q → mkM S b f L e Y cc → (∀ j, Ys 1 j = Y 1 j ∨ 8 ≤ j) → Ys 2 0 = Y 2 0 → (∀ s, s < st → S.1 13 (4 * (6 * b + Y 2 3) + s) = nI (Ys 10 (4 * Y 2 3 + s)) ∧ S.1 14 (4 * (6 * b + Y 2 3) + s) = nI (Ys 11 (4 * Y 2 3 + s))) → mJo S b f L (Y 2 3) Y cc (zSteps f L (Y 2 3) k st Ys e) (fX12_jobbing_L87 n 0 (nI (6 * b + Y 2 3)) q (nI st) (nI 1) S)
  | 0, st, q, Ys, S, e, hst, h1, hq, h, hy1, hy2, hs => by omega
  | k + 1, st, q, Ys, S, e, hst, h1, hq, h, hy1, hy2, hs => by
    obtain ⟨q, rfl⟩ : ∃ q', q = q' + 1 := ⟨q - 1, by omega⟩
    have st4 : st < 4 := by omega
    obtain ⟨c0, c1, c2, c3⟩ := hY.1
    have hL := h.1.1.2.2.1
    have hK : 6 * b + Y 2 3 < 12 := by omega
    have tAe : ∀ e, tA f L Ys 0 none e = tA f L Y 0 none e := by
      intro e
      unfold tA s_fd
      rw [hy2]
      have gen : ∀ w (k i : Nat), i + k ≤ Y 2 0 → s_fdL Ys 0 w k i = s_fdL Y 0 w k i := by
        intro w k
        induction k with
        | zero => intro i _; rfl
        | succ k ih =>
          intro i hi
          unfold s_fdL
          have := (hy1 (8 * 0 + i)).resolve_right (by omega)
          rw [this, ih (i + 1) (by omega)]
      rw [gen _ _ _ (by omega)]
    show mJo S b f L (Y 2 3) Y cc _ (fX12_jobbing_L87b n 0 (nI (6 * b + Y 2 3)) (fX12_jobbing_L87 n 0 (nI (6 * b + Y 2 3)) q) (nI st) (nI 1) S)
    rw [m_jstp st4 hK]
    have b1 := mt_A (s := 0) (u := none) (x := nI 0) hn hb hY hN (by decide) has0 h.2.2.2.1 h.2.2.2.2.2.2.2.1 h.2.1 h.1 h.2.2.1
    unfold zSteps
    rw [tAe]
    have x13 : ∀ {β : Type} {T : xSt} (v : Int32) (g : xSt → Option β), (xas tM 13 (nI (4 * (6 * b + Y 2 3) + st)) v T).bind g = g (xuI T 13 (4 * (6 * b + Y 2 3) + st) v) := fun v g => by
      simp (disch := (first | assumption | omega | exact hB _ _ | exact hYB _ _ | (simp only [yc, yd, sh, sv, ne_eq]; omega) | (simp (disch := omega) only [↓nm_1, ↓nm_2, nI_add, pk_mul, pk_sub, Nat.add_sub_cancel, qm1_add, qm2_add, nI_clamp, ni_0, ni_1]; refine qin_nI ?_ ?_ <;> first | omega | exact hB _ _ | exact hYB _ _) | (refine qin_nI ?_ ?_ <;> omega) | fail)) only [↓km0_gd, ↓km0_gI, ↓km0_gM, ↓km0_pI, ↓km0_pM, ↓km0_pZ, ↓km0_gL, ↓km0_pL, ↓km13_al, ↓km13_as, ↓km13_ln, ↓qb_so, ↓nm_1, ↓nm_2, ↓reduceIte, if_true, if_false, not_true_eq_false, not_false_eq_true, and_true, true_and, and_false, false_and, or_true, true_or, or_false, false_or, eq_self, ne_eq, quI_s, quI_n, quI2, quL1, quL2, quL3, quR1, quR2, quR3, nI_add, pk_mul, pk_sub, Nat.add_sub_cancel, qm1_add, qm2_add, nI_leI, nI_ltI, nI_eq, nI_m1, nI_m1', nI_clamp, nI_bit, nI_one_shl, nI_m1l, nI_m1lt, nI_m1lt', nI_m1le', oI_some, oI_none, ni_0, ni_1, qle_t, qle_f, qlt_t, qlt_f, qeq_t, qeq_f]
    have x14 : ∀ {β : Type} {T : xSt} (v : Int32) (g : xSt → Option β), (xas tM 14 (nI (4 * (6 * b + Y 2 3) + st)) v T).bind g = g (xuI T 14 (4 * (6 * b + Y 2 3) + st) v) := fun v g => by
      simp (disch := (first | assumption | omega | exact hB _ _ | exact hYB _ _ | (simp only [yc, yd, sh, sv, ne_eq]; omega) | (simp (disch := omega) only [↓nm_1, ↓nm_2, nI_add, pk_mul, pk_sub, Nat.add_sub_cancel, qm1_add, qm2_add, nI_clamp, ni_0, ni_1]; refine qin_nI ?_ ?_ <;> first | omega | exact hB _ _ | exact hYB _ _) | (refine qin_nI ?_ ?_ <;> omega) | fail)) only [↓km0_gd, ↓km0_gI, ↓km0_gM, ↓km0_pI, ↓km0_pM, ↓km0_pZ, ↓km0_gL, ↓km0_pL, ↓km14_al, ↓km14_as, ↓km14_ln, ↓qb_so, ↓nm_1, ↓nm_2, ↓reduceIte, if_true, if_false, not_true_eq_false, not_false_eq_true, and_true, true_and, and_false, false_and, or_true, true_or, or_false, false_or, eq_self, ne_eq, quI_s, quI_n, quI2, quL1, quL2, quL3, quR1, quR2, quR3, nI_add, pk_mul, pk_sub, Nat.add_sub_cancel, qm1_add, qm2_add, nI_leI, nI_ltI, nI_eq, nI_m1, nI_m1', nI_clamp, nI_bit, nI_one_shl, nI_m1l, nI_m1lt, nI_m1lt', nI_m1le', oI_some, oI_none, ni_0, ni_1, qle_t, qle_f, qlt_t, qlt_f, qeq_t, qeq_f]
    have in13 : inb 13 b (4 * (6 * b + Y 2 3) + st) := inb_ok (a := 24) rfl (by omega) (by omega)
    have in14 : inb 14 b (4 * (6 * b + Y 2 3) + st) := inb_ok (a := 24) rfl (by omega) (by omega)
    have nv : ¬ vis b Y 13 (4 * (6 * b + Y 2 3) + st) := by unfold vis; omega
    have nv' : ¬ vis b Y 14 (4 * (6 * b + Y 2 3) + st) := by unfold vis; omega
    cases h2 : tA f L Y 0 none e with
    | inl x =>
      obtain ⟨kd, pl⟩ := x
      rw [h2] at b1
      obtain ⟨⟨k0, k1⟩, v, b2⟩ := b1
      rw [b2]
      show mJo S b f L (Y 2 3) Y cc _ ((xas tM 13 (nI (4 * (6 * b + Y 2 3) + st)) v (flR S kd pl)).bind _)
      rw [x13]
      have y8 : (xuI (flR S kd pl) 13 (4 * (6 * b + Y 2 3) + st) v).1 0 8 = nI kd := by rw [quI_k (by omega)]; exact flR_8
      have n1 := f_num (n := n) (x := nI 1) (y := nI 9) y8 k0 k1
      rw [n1]
      show mJo S b f L (Y 2 3) Y cc _ ((xas tM 14 (nI (4 * (6 * b + Y 2 3) + st)) (nI 0) (xuI (flR S kd pl) 13 (4 * (6 * b + Y 2 3) + st) v)).bind _)
      rw [x14]
      have y8' : (xuI (xuI (flR S kd pl) 13 (4 * (6 * b + Y 2 3) + st) v) 14 (4 * (6 * b + Y 2 3) + st) (nI 0)).1 0 8 = nI kd := by rw [quI_k (by omega)]; exact y8
      rw [jT_flt (by omega) y8' k0 k1 st4]
      exact Or.inl ⟨st + 1, _, rfl, by omega, ⟨k0, k1⟩, y8', by rw [quI_k (by omega), quI_k (by omega)]; exact flR_9, frG_trans frG_fl (frG_trans (frG_up (by decide) in13) (frG_up (by decide) in14)), by rw [quI_k (by omega), quI_k (by omega), flR_k (by omega)], by rw [quI_k (by omega), quI_k (by omega), flR_k (by omega)]⟩
    | inr x =>
      obtain ⟨a, e1⟩ := x
      rw [h2] at b1
      obtain ⟨B, b2, b3, b4, b5, b6⟩ := b1
      have hB0 := mkM_M h hY b3 b5 b4 b6
      have hB : mkM (xuI B 13 (4 * (6 * b + Y 2 3) + st) (nI a)) b f L e1 Y cc := mkM_fr hB0 hY (by decide) nv
      rw [b2]
      show mJo S b f L (Y 2 3) Y cc _ ((xas tM 13 (nI (4 * (6 * b + Y 2 3) + st)) (nI a) B).bind _)
      rw [x13]
      have g1 := mt_N (lo := 1) (hi := 9) hn hB.2.1 hB.1 hB.2.2.1 (by decide) (by decide)
      have frA : frG b S (xuI B 13 (4 * (6 * b + Y 2 3) + st) (nI a)) := frG_trans (frG_M b6) (frG_up (by decide) in13)
      show mJo S b f L (Y 2 3) Y cc (zB (tN f L 1 9 e1) fun h => if kT f L h.2 = 1 then zSteps f L (Y 2 3) k (st + 1) (dU (dU (dU Ys 10 (4 * Y 2 3 + st) a) 11 (4 * Y 2 3 + st) h.1) 9 (Y 2 3) (st + 1)) h.2 else .inr (h.2, dU (dU (dU Ys 10 (4 * Y 2 3 + st) a) 11 (4 * Y 2 3 + st) h.1) 9 (Y 2 3) (st + 1))) _
      cases h3 : tN f L 1 9 e1 with
      | inl x =>
        obtain ⟨kd, pl⟩ := x
        rw [h3] at g1
        obtain ⟨⟨k0, k1⟩, v, g2⟩ := g1
        rw [g2]
        show mJo S b f L (Y 2 3) Y cc _ ((xas tM 14 (nI (4 * (6 * b + Y 2 3) + st)) v (flR (xuI B 13 (4 * (6 * b + Y 2 3) + st) (nI a)) kd pl)).bind _)
        rw [x14]
        have y8' : (xuI (flR (xuI B 13 (4 * (6 * b + Y 2 3) + st) (nI a)) kd pl) 14 (4 * (6 * b + Y 2 3) + st) v).1 0 8 = nI kd := by rw [quI_k (by omega)]; exact flR_8
        rw [jT_flt (by omega) y8' k0 k1 st4]
        exact Or.inl ⟨st + 1, _, rfl, by omega, ⟨k0, k1⟩, y8', by rw [quI_k (by omega)]; exact flR_9, frG_trans frA (frG_trans frG_fl (frG_up (by decide) in14)), by rw [quI_k (by omega), flR_k (by omega), quI_k (by omega), b6.1 _ _ (by omega)], by rw [quI_k (by omega), flR_k (by omega), quI_k (by omega), b6.1 _ _ (by omega)]⟩
      | inr x =>
        obtain ⟨r, e2⟩ := x
        rw [h3] at g1
        obtain ⟨D, g2, g3, g4, g5, g6⟩ := g1
        have hD0 := mkM_M hB hY g3 g5 g4 g6
        have hD : mkM (xuI D 14 (4 * (6 * b + Y 2 3) + st) (nI r)) b f L e2 Y cc := mkM_fr hD0 hY (by decide) nv'
        rw [g2]
        show mJo S b f L (Y 2 3) Y cc _ ((xas tM 14 (nI (4 * (6 * b + Y 2 3) + st)) (nI r) D).bind _)
        rw [x14]
        have frD' : frG b S (xuI D 14 (4 * (6 * b + Y 2 3) + st) (nI r)) := frG_trans frA (frG_trans (frG_M g6) (frG_up (by decide) in14))
        have k40 : (xuI D 14 (4 * (6 * b + Y 2 3) + st) (nI r)).1 0 40 = S.1 0 40 := by rw [quI_k (by omega), g6.1 _ _ (by omega), quI_k (by omega), b6.1 _ _ (by omega)]
        have k10 : (xuI D 14 (4 * (6 * b + Y 2 3) + st) (nI r)).1 10 b = S.1 10 b := by rw [quI_k (by omega), g6.1 _ _ (by omega), quI_k (by omega), b6.1 _ _ (by omega)]
        have k11 : ∀ j, (xuI D 14 (4 * (6 * b + Y 2 3) + st) (nI r)).1 11 j = S.1 11 j := fun j => by rw [quI_k (by omega), g6.1 _ _ (by omega), quI_k (by omega), b6.1 _ _ (by omega)]
        have kL : ∀ k j, 23 ≤ k → (xuI D 14 (4 * (6 * b + Y 2 3) + st) (nI r)).2.1 k j = S.2.1 k j := fun k j hk => by
          show D.2.1 k j = _
          rw [g6.2.1 _ _ (by omega)]
          show B.2.1 k j = _
          rw [b6.2.1 _ _ (by omega)]
        have hs' : ∀ s, s < st + 1 → (xuI D 14 (4 * (6 * b + Y 2 3) + st) (nI r)).1 13 (4 * (6 * b + Y 2 3) + s) = nI ((dU (dU (dU Ys 10 (4 * Y 2 3 + st) a) 11 (4 * Y 2 3 + st) r) 9 (Y 2 3) (st + 1)) 10 (4 * Y 2 3 + s)) ∧ (xuI D 14 (4 * (6 * b + Y 2 3) + st) (nI r)).1 14 (4 * (6 * b + Y 2 3) + s) = nI ((dU (dU (dU Ys 10 (4 * Y 2 3 + st) a) 11 (4 * Y 2 3 + st) r) 9 (Y 2 3) (st + 1)) 11 (4 * Y 2 3 + s)) := by
          intro s hs2
          by_cases hx : s = st
          · subst hx
            rw [quI_k (by omega), g6.1 _ _ (by omega), quI_e, quI_e, dU_c (by decide), dU_c (by decide), dU_s, dU_c (by decide), dU_s]
            exact ⟨rfl, rfl⟩
          · have := hs s (by omega)
            rw [quI_k (by omega), g6.1 _ _ (by omega), quI_k (by omega), b6.1 _ _ (by omega), quI_k (by omega), g6.1 _ _ (by omega), quI_k (by omega), b6.1 _ _ (by omega), dU_c (by decide), dU_c (by decide), dU_j (by omega), dU_c (by decide), dU_j (by omega), dU_c (by decide)]
            exact this
        refine mJo_pre frD' k40 k10 k11 kL ?_
        revert hD hs'
        generalize xuI D 14 (4 * (6 * b + Y 2 3) + st) (nI r) = T
        intro hT hs'
        have T3 := hT.1.2.1
        have T4 := hT.1.2.2.1
        have T8 := hT.2.2.1
        have t3 := kT_le (f := f) (L := L) (e := e2)
        show mJo T b f L (Y 2 3) Y cc (if kT f L e2 = 1 then _ else _) _
        by_cases hT1 : kT f L e2 = 1
        · rw [if_pos hT1]
          rw [hT1] at T3
          have hg : ¬ ig f L e2 59 := fun hh => by have := hh.1; omega
          by_cases hst3 : st = 3
          · have hk0 : k = 0 := by omega
            subst hk0
            subst hst3
            have bl := m_blame (k := 6) (p := kS f L e2) T8
            have y8 : (flR T 6 (kS f L e2)).1 0 8 = nI 6 := flR_8
            have e9 := j_end (n := n) (k := 6 * b + Y 2 3) (st := 4) (S := flR T 6 (kS f L e2)) (q := q) (by omega)
            have q1 : jTl n (6 * b + Y 2 3) q 3 T = some (nI 4, flR T 6 (kS f L e2)) := by
              have q2 : fX12_jobbing_B151_87 n (fX12_jobbing_L87 n 0 (nI (6 * b + Y 2 3)) q) 0 (nI (6 * b + Y 2 3)) (nI 4) (flR T 6 (kS f L e2)) = some (nI 4, flR T 6 (kS f L e2)) := by
                simp (disch := (first | assumption | omega | exact hB _ _ | exact hYB _ _ | (simp only [yc, yd, sh, sv, ne_eq]; omega) | (simp (disch := omega) only [↓nm_1, ↓nm_2, nI_add, pk_mul, pk_sub, Nat.add_sub_cancel, qm1_add, qm2_add, nI_clamp, ni_0, ni_1, y8, e9]; refine qin_nI ?_ ?_ <;> first | omega | exact hB _ _ | exact hYB _ _) | (refine qin_nI ?_ ?_ <;> omega) | fail)) only [↓km0_gd, ↓km0_gI, ↓km0_gM, ↓km0_pI, ↓km0_pM, ↓km0_pZ, ↓km0_gL, ↓km0_pL, ↓qb_so, ↓nm_1, ↓nm_2, ↓reduceIte, if_true, if_false, not_true_eq_false, not_false_eq_true, and_true, true_and, and_false, false_and, or_true, true_or, or_false, false_or, eq_self, ne_eq, quI_s, quI_n, quI2, quL1, quL2, quL3, quR1, quR2, quR3, nI_add, pk_mul, pk_sub, Nat.add_sub_cancel, qm1_add, qm2_add, nI_leI, nI_ltI, nI_eq, nI_m1, nI_m1', nI_clamp, nI_bit, nI_one_shl, nI_m1l, nI_m1lt, nI_m1lt', nI_m1le', oI_some, oI_none, ni_0, ni_1, fX12_jobbing_B151_87, qle_t, qle_f, qlt_t, qlt_f, qeq_t, qeq_f, y8, e9]
              unfold jTl
              rw [if_pos rfl, T3, if_pos rfl, T4, bl]
              exact q2
            rw [q1]
            exact Or.inl ⟨4, _, rfl, by decide, ⟨by decide, by decide⟩, y8, flR_9, frG_fl, by rw [flR_k (by omega)], by rw [flR_k (by omega)]⟩
          · have st3 : ¬ st + 1 = 4 := by omega
            have st3' : ¬ (nI (st + 1) = nI 4) := fun hh => st3 (by have := congrArg Int32.toInt hh; rw [nI_toInt (by omega), nI_toInt (by decide)] at this; omega)
            obtain ⟨v, v1, v2⟩ := m_ownX (S := T) (T.2.1 0 7)
            obtain ⟨k, rfl⟩ : ∃ k', k = k' + 1 := ⟨k - 1, by omega⟩
            rcases (by omega : v = 0 ∨ v = 1) with rfl | rfl
            · have q1 : jTl n (6 * b + Y 2 3) q st T = fX12_jobbing_L87 n 0 (nI (6 * b + Y 2 3)) q (nI (st + 1)) (nI 1) T := by
                unfold jTl
                rw [if_neg st3']
                simp (disch := (first | assumption | omega | exact hB _ _ | exact hYB _ _ | (simp only [yc, yd, sh, sv, ne_eq]; omega) | (simp (disch := omega) only [↓nm_1, ↓nm_2, nI_add, pk_mul, pk_sub, Nat.add_sub_cancel, qm1_add, qm2_add, nI_clamp, ni_0, ni_1, T8, T3, v2]; refine qin_nI ?_ ?_ <;> first | omega | exact hB _ _ | exact hYB _ _) | (refine qin_nI ?_ ?_ <;> omega) | fail)) only [↓km0_gd, ↓km0_gI, ↓km0_gM, ↓km0_pI, ↓km0_pM, ↓km0_pZ, ↓km0_gL, ↓km0_pL, ↓qb_so, ↓nm_1, ↓nm_2, ↓reduceIte, if_true, if_false, not_true_eq_false, not_false_eq_true, and_true, true_and, and_false, false_and, or_true, true_or, or_false, false_or, eq_self, ne_eq, quI_s, quI_n, quI2, quL1, quL2, quL3, quR1, quR2, quR3, nI_add, pk_mul, pk_sub, Nat.add_sub_cancel, qm1_add, qm2_add, nI_leI, nI_ltI, nI_eq, nI_m1, nI_m1', nI_clamp, nI_bit, nI_one_shl, nI_m1l, nI_m1lt, nI_m1lt', nI_m1le', oI_some, oI_none, ni_0, ni_1, fX12_jobbing_B151_87, qle_t, qle_f, qlt_t, qlt_f, qeq_t, qeq_f, T8, T3, v2]
              rw [q1]
              exact m_steps hn hb hY hN hf (k + 1) (st + 1) q _ T e2 (by omega) (by omega) (by omega) hT (fun j => by rw [dU_c (by decide), dU_c (by decide), dU_c (by decide)]; exact hy1 j) (by rw [dU_c (by decide), dU_c (by decide), dU_c (by decide)]; exact hy2) hs'
            · have e9 := j_end (n := n) (k := 6 * b + Y 2 3) (st := st + 1) (S := T) (q := q) (by omega)
              have q1 : jTl n (6 * b + Y 2 3) q st T = some (nI (st + 1), T) := by
                unfold jTl
                rw [if_neg st3']
                simp (disch := (first | assumption | omega | exact hB _ _ | exact hYB _ _ | (simp only [yc, yd, sh, sv, ne_eq]; omega) | (simp (disch := omega) only [↓nm_1, ↓nm_2, nI_add, pk_mul, pk_sub, Nat.add_sub_cancel, qm1_add, qm2_add, nI_clamp, ni_0, ni_1, T8, T3, v2, e9]; refine qin_nI ?_ ?_ <;> first | omega | exact hB _ _ | exact hYB _ _) | (refine qin_nI ?_ ?_ <;> omega) | fail)) only [↓km0_gd, ↓km0_gI, ↓km0_gM, ↓km0_pI, ↓km0_pM, ↓km0_pZ, ↓km0_gL, ↓km0_pL, ↓qb_so, ↓nm_1, ↓nm_2, ↓reduceIte, if_true, if_false, not_true_eq_false, not_false_eq_true, and_true, true_and, and_false, false_and, or_true, true_or, or_false, false_or, eq_self, ne_eq, quI_s, quI_n, quI2, quL1, quL2, quL3, quR1, quR2, quR3, nI_add, pk_mul, pk_sub, Nat.add_sub_cancel, qm1_add, qm2_add, nI_leI, nI_ltI, nI_eq, nI_m1, nI_m1', nI_clamp, nI_bit, nI_one_shl, nI_m1l, nI_m1lt, nI_m1lt', nI_m1le', oI_some, oI_none, ni_0, ni_1, fX12_jobbing_B151_87, qle_t, qle_f, qlt_t, qlt_f, qeq_t, qeq_f, T8, T3, v2, e9]
              rw [q1]
              have hnm : ¬ isNm f L e2 := fun hi => by
                obtain ⟨g7, _, _, q4⟩ := nm_tok (V := T) hL hT.1 hi
                rw [← g7, v2] at q4
                revert q4
                decide
              unfold zSteps
              have hta : tA f L (dU (dU (dU Ys 10 (4 * Y 2 3 + st) a) 11 (4 * Y 2 3 + st) r) 9 (Y 2 3) (st + 1)) 0 none e2 = .inl (1, kP f L e2) := by unfold tA; rw [if_neg hnm]
              rw [hta]
              exact Or.inr ⟨st + 1, T, e2, rfl, by omega, hT, hg, rfl, rfl, frG_refl⟩
        · rw [if_neg hT1]
          have e9 := j_end (n := n) (k := 6 * b + Y 2 3) (st := st + 1) (S := T) (q := q) (by omega)
          have q2 : fX12_jobbing_B151_87 n (fX12_jobbing_L87 n 0 (nI (6 * b + Y 2 3)) q) 0 (nI (6 * b + Y 2 3)) (nI (st + 1)) T = some (nI (st + 1), T) := by
            simp (disch := (first | assumption | omega | exact hB _ _ | exact hYB _ _ | (simp only [yc, yd, sh, sv, ne_eq]; omega) | (simp (disch := omega) only [↓nm_1, ↓nm_2, nI_add, pk_mul, pk_sub, Nat.add_sub_cancel, qm1_add, qm2_add, nI_clamp, ni_0, ni_1, T8, T3, hT1, e9]; refine qin_nI ?_ ?_ <;> first | omega | exact hB _ _ | exact hYB _ _) | (refine qin_nI ?_ ?_ <;> omega) | fail)) only [↓km0_gd, ↓km0_gI, ↓km0_gM, ↓km0_pI, ↓km0_pM, ↓km0_pZ, ↓km0_gL, ↓km0_pL, ↓qb_so, ↓nm_1, ↓nm_2, ↓reduceIte, if_true, if_false, not_true_eq_false, not_false_eq_true, and_true, true_and, and_false, false_and, or_true, true_or, or_false, false_or, eq_self, ne_eq, quI_s, quI_n, quI2, quL1, quL2, quL3, quR1, quR2, quR3, nI_add, pk_mul, pk_sub, Nat.add_sub_cancel, qm1_add, qm2_add, nI_leI, nI_ltI, nI_eq, nI_m1, nI_m1', nI_clamp, nI_bit, nI_one_shl, nI_m1l, nI_m1lt, nI_m1lt', nI_m1le', oI_some, oI_none, ni_0, ni_1, fX12_jobbing_B151_87, qle_t, qle_f, qlt_t, qlt_f, qeq_t, qeq_f, T8, T3, hT1, e9]
          have T3' : ¬ (T.1 0 3 = nI 1) := fun hh => hT1 (by rw [T3] at hh; have := congrArg Int32.toInt hh; rw [nI_toInt (by omega), nI_toInt (by decide)] at this; omega)
          have q1 : jTl n (6 * b + Y 2 3) q st T = some (nI (st + 1), T) := by
            unfold jTl
            rw [if_neg T3', q2]
            split <;> rfl
          rw [q1]
          exact ⟨st + 1, T, rfl, by omega, hT, frG_refl, dU_s, hs', fun _ => rfl, fun _ _ _ => rfl⟩
end Q9zf

