/-! ===== the reference: rules, a statement, what ends it ===== -/
section Q9zi
variable {S Z V W : xSt} {n L e m o b d t k a s w lo hi j r kd pl K : Nat} {u : Option Nat} {f : Nat → Nat} {cc mc wc : List (Nat × Nat)} {Y Y' : Nat → Nat → Nat} {F : Option xSt}
theorem m_rdg {p q : Nat} (hn : 2000 ≤ n) (hb : b < 2) (hY : yrOk Y) (h : mkM S b f L e Y cc) (hp : (p = 3 ∧ q = 1 ∧ t = 0) ∨ (p = 5 ∧ q = 0 ∧ t = 4)) (hne : ∀ e e' c', pR f L q 80 t 0 0 e = .inr (e', c') → c' ≠ []) :
    mSp S b f L (zB (tO f L (Y 14 p < Y 14 (p + 1)) e) fun e => zB (pR f L q 80 t 0 0 e) fun x => .inr (x.1, dU (dU (dU Y 14 p cc.length) 14 2 (cc ++ x.2).length) 14 (p + 1) (cc ++ x.2).length, cc ++ x.2)) (fX12_reading n 0 (nI q) S) := by
  have s40 := h.2.2.2.1
  have hke := kE_from (f := f) h.2.1
  have hB := hY.2.2.2.2.2.2.2.2.2.2.2.1
  have hq2 : q < 2 := by omega
  obtain ⟨r1, r2, r3, r4⟩ := h.2.2.2.2.2.2.2.2
  have s19 : (Y 14 p < Y 14 (p + 1) → S.1 19 (2 * b + q) = nI (Y 14 p)) ∧ (¬ Y 14 p < Y 14 (p + 1) → S.1 19 (2 * b + q) = qm1) := by
    rcases hp with ⟨rfl, rfl, _⟩ | ⟨rfl, rfl, _⟩
    · exact ⟨fun hh => (r1 hh).1, r2⟩
    · exact ⟨fun hh => (r3 hh).1, r4⟩
  unfold tO
  by_cases hf : Y 14 p < Y 14 (p + 1)
  · rw [if_pos hf]
    have a1 := (mt_C (x := 1) hn h.2.1 h.1 h.2.2.1 (by decide)).1 rfl
    have s19' := s19.1 hf
    have hB1 := hB 14 p
    refine Or.inl ⟨flR S 6 (kS f L e), ?_, ⟨by decide, by decide⟩, flR_8, flR_9, frG_fl⟩
    simp (disch := (first | assumption | omega | exact hB _ _ | exact hYB _ _ | (simp only [yc, yd, sh, sv, ne_eq]; omega) | (simp (disch := omega) only [↓nm_1, ↓nm_2, nI_add, pk_mul, pk_sub, Nat.add_sub_cancel, qm1_add, qm2_add, nI_clamp, ni_0, ni_1, ni_2, s40, s19', a1]; refine qin_nI ?_ ?_ <;> first | omega | exact hB _ _ | exact hYB _ _) | (refine qin_nI ?_ ?_ <;> omega) | fail)) only [↓km0_gd, ↓km0_gI, ↓km0_gM, ↓km0_pI, ↓km0_pM, ↓km0_pZ, ↓km0_gL, ↓km0_pL, ↓km0_gF31, ↓km19_al, ↓km19_as, ↓km19_ln, ↓qb_so, ↓nm_1, ↓nm_2, ↓reduceIte, if_true, if_false, not_true_eq_false, not_false_eq_true, and_true, true_and, and_false, false_and, or_true, true_or, or_false, false_or, eq_self, ne_eq, quI_s, quI_n, quI2, quL1, quL2, quL3, quR1, quR2, quR3, nI_add, pk_mul, pk_sub, Nat.add_sub_cancel, qm1_add, qm2_add, nI_leI, nI_ltI, nI_eq, nI_m1, nI_m1', nI_clamp, nI_bit, nI_one_shl, nI_m1l, nI_m1lt, nI_m1lt', nI_m1le', oI_some, oI_none, ni_0, ni_1, ni_2, fX12_reading, fX12_reading_B25, qle_t, qle_f, qlt_t, qlt_f, qeq_t, qeq_f, s40, s19', a1]
  rw [if_neg hf]
  have s19' := s19.2 hf
  obtain ⟨A, a1, a2, a3⟩ := (mt_C (x := 0) hn h.2.1 h.1 h.2.2.1 (by decide)).2 rfl
  have hA := mkM_M h hY a2 hke.1 hke.2 a3
  have A40 := hA.2.2.2.1
  have A39 := hA.2.2.2.2.1
  refine mSp_pre (frG_M a3) ?_
  have in19 : inb 19 b (2 * b + q) := inb_ok (a := 2) rfl (by omega) (by omega)
  have in20 : inb 20 b (2 * b + q) := inb_ok (a := 2) rfl (by omega) (by omega)
  generalize hT : xuI (xuI A 0 41 (nI q)) 19 (2 * b + q) (nI cc.length) = T
  have kk : ∀ k j, ¬ (k = 0 ∧ j = 41) → ¬ (k = 19 ∧ j = 2 * b + q) → T.1 k j = A.1 k j := fun k j g1 g2 => by rw [← hT, quI_k g2, quI_k g1]
  have frT : frG b A T := by rw [← hT]; exact frG_trans (frG_0 (by decide)) (frG_up (by decide) in19)
  have rd := m_reads (m := q) (t := t) (cc := cc) hn hb (by omega) (tkM_same (Z := T) hA.1 (fun k j hk => kk k j (by omega) (by omega)) (by rw [← hT]; rfl)) hA.2.1 (by rw [kk _ _ (by omega) (by omega)]; exact hA.2.2.1) (by rw [← hT, quI_k (by omega), quI_e]) (by rw [kk _ _ (by omega) (by omega)]; exact A40) (by rw [kk _ _ (by omega) (by omega)]; exact A39) (mCode_eq hA.2.2.2.2.2.1 (fun j _ _ => ⟨kk _ _ (by omega) (by omega), kk _ _ (by omega) (by omega)⟩)) hA.2.2.2.2.2.2.1
  have q0 : fX12_reading n 0 (nI q) S = (fX12_reads n 0 (nI q) T).bind fun S14 => some (xuI S14 20 (2 * b + q) (S14.1 0 39)) := by
    rcases hp with ⟨rfl, rfl, _⟩ | ⟨rfl, rfl, _⟩
    · have e9 : ∀ {β : Type} (Z : xSt) (g : xSt → Option β), (xas tM 20 (nI (2 * b + 1)) (Z.1 0 39) Z).bind g = g (xuI Z 20 (2 * b + 1) (Z.1 0 39)) := fun Z g => by
        simp (disch := (first | assumption | omega | exact hB _ _ | exact hYB _ _ | (simp only [yc, yd, sh, sv, ne_eq]; omega) | (simp (disch := omega) only [↓nm_1, ↓nm_2, nI_add, pk_mul, pk_sub, Nat.add_sub_cancel, qm1_add, qm2_add, nI_clamp, ni_0, ni_1]; refine qin_nI ?_ ?_ <;> first | omega | exact hB _ _ | exact hYB _ _) | (refine qin_nI ?_ ?_ <;> omega) | fail)) only [↓km0_gd, ↓km0_gI, ↓km0_gM, ↓km0_pI, ↓km0_pM, ↓km0_pZ, ↓km0_gL, ↓km0_pL, ↓km20_al, ↓km20_as, ↓km20_ln, ↓qb_so, ↓nm_1, ↓nm_2, ↓reduceIte, if_true, if_false, not_true_eq_false, not_false_eq_true, and_true, true_and, and_false, false_and, or_true, true_or, or_false, false_or, eq_self, ne_eq, quI_s, quI_n, quI2, quL1, quL2, quL3, quR1, quR2, quR3, nI_add, pk_mul, pk_sub, Nat.add_sub_cancel, qm1_add, qm2_add, nI_leI, nI_ltI, nI_eq, nI_m1, nI_m1', nI_clamp, nI_bit, nI_one_shl, nI_m1l, nI_m1lt, nI_m1lt', nI_m1le', oI_some, oI_none, ni_0, ni_1, qle_t, qle_f, qlt_t, qlt_f, qeq_t, qeq_f]
      simp (maxSteps := 3000000) (disch := (first | assumption | omega | exact hB _ _ | exact hYB _ _ | (simp only [yc, yd, sh, sv, ne_eq]; omega) | (simp (disch := omega) only [↓nm_1, ↓nm_2, nI_add, pk_mul, pk_sub, Nat.add_sub_cancel, qm1_add, qm2_add, nI_clamp, ni_0, ni_1, ni_2, s40, s19', a1, A39, m_pZ1, hT, e9]; refine qin_nI ?_ ?_ <;> first | omega | exact hB _ _ | exact hYB _ _) | (refine qin_nI ?_ ?_ <;> omega) | fail)) only [↓km0_gd, ↓km0_gI, ↓km0_gM, ↓km0_pI, ↓km0_pM, ↓km0_pZ, ↓km0_gL, ↓km0_pL, ↓km0_gF31, ↓km0_gF32, ↓km19_al, ↓km19_as, ↓km19_ln, ↓km20_al, ↓km20_as, ↓km20_ln, ↓qb_so, ↓nm_1, ↓nm_2, ↓reduceIte, if_true, if_false, not_true_eq_false, not_false_eq_true, and_true, true_and, and_false, false_and, or_true, true_or, or_false, false_or, eq_self, ne_eq, quI_s, quI_n, quI2, quL1, quL2, quL3, quR1, quR2, quR3, nI_add, pk_mul, pk_sub, Nat.add_sub_cancel, qm1_add, qm2_add, nI_leI, nI_ltI, nI_eq, nI_m1, nI_m1', nI_clamp, nI_bit, nI_one_shl, nI_m1l, nI_m1lt, nI_m1lt', nI_m1le', oI_some, oI_none, ni_0, ni_1, ni_2, fX12_reading, fX12_reading_B25, fX12_reading_B43, qle_t, qle_f, qlt_t, qlt_f, qeq_t, qeq_f, s40, s19', a1, A39, m_pZ1, hT, e9]
    · have e9 : ∀ {β : Type} (Z : xSt) (g : xSt → Option β), (xas tM 20 (nI (2 * b)) (Z.1 0 39) Z).bind g = g (xuI Z 20 (2 * b) (Z.1 0 39)) := fun Z g => by
        simp (disch := (first | assumption | omega | exact hB _ _ | exact hYB _ _ | (simp only [yc, yd, sh, sv, ne_eq]; omega) | (simp (disch := omega) only [↓nm_1, ↓nm_2, nI_add, pk_mul, pk_sub, Nat.add_sub_cancel, qm1_add, qm2_add, nI_clamp, ni_0, ni_1]; refine qin_nI ?_ ?_ <;> first | omega | exact hB _ _ | exact hYB _ _) | (refine qin_nI ?_ ?_ <;> omega) | fail)) only [↓km0_gd, ↓km0_gI, ↓km0_gM, ↓km0_pI, ↓km0_pM, ↓km0_pZ, ↓km0_gL, ↓km0_pL, ↓km20_al, ↓km20_as, ↓km20_ln, ↓qb_so, ↓nm_1, ↓nm_2, ↓reduceIte, if_true, if_false, not_true_eq_false, not_false_eq_true, and_true, true_and, and_false, false_and, or_true, true_or, or_false, false_or, eq_self, ne_eq, quI_s, quI_n, quI2, quL1, quL2, quL3, quR1, quR2, quR3, nI_add, pk_mul, pk_sub, Nat.add_sub_cancel, qm1_add, qm2_add, nI_leI, nI_ltI, nI_eq, nI_m1, nI_m1', nI_clamp, nI_bit, nI_one_shl, nI_m1l, nI_m1lt, nI_m1lt', nI_m1le', oI_some, oI_none, ni_0, ni_1, qle_t, qle_f, qlt_t, qlt_f, qeq_t, qeq_f]
      have hT' : xuI (xuI A 0 41 (nI 0)) 19 (2 * b) (nI cc.length) = T := hT
      have s19'' : S.1 19 (2 * b) = qm1 := s19'
      simp (maxSteps := 3000000) (disch := (first | assumption | omega | exact hB _ _ | exact hYB _ _ | (simp only [yc, yd, sh, sv, ne_eq]; omega) | (simp (disch := omega) only [↓nm_1, ↓nm_2, nI_add, pk_mul, pk_sub, Nat.add_sub_cancel, qm1_add, qm2_add, nI_clamp, ni_0, ni_1, ni_2, s40, s19'', a1, A39, m_pZ0, hT', e9, Nat.add_zero]; refine qin_nI ?_ ?_ <;> first | omega | exact hB _ _ | exact hYB _ _) | (refine qin_nI ?_ ?_ <;> omega) | fail)) only [↓km0_gd, ↓km0_gI, ↓km0_gM, ↓km0_pI, ↓km0_pM, ↓km0_pZ, ↓km0_gL, ↓km0_pL, ↓km0_gF31, ↓km0_gF32, ↓km19_al, ↓km19_as, ↓km19_ln, ↓km20_al, ↓km20_as, ↓km20_ln, ↓qb_so, ↓nm_1, ↓nm_2, ↓reduceIte, if_true, if_false, not_true_eq_false, not_false_eq_true, and_true, true_and, and_false, false_and, or_true, true_or, or_false, false_or, eq_self, ne_eq, quI_s, quI_n, quI2, quL1, quL2, quL3, quR1, quR2, quR3, nI_add, pk_mul, pk_sub, Nat.add_sub_cancel, qm1_add, qm2_add, nI_leI, nI_ltI, nI_eq, nI_m1, nI_m1', nI_clamp, nI_bit, nI_one_shl, nI_m1l, nI_m1lt, nI_m1lt', nI_m1le', oI_some, oI_none, ni_0, ni_1, ni_2, fX12_reading, fX12_reading_B25, fX12_reading_B43, qle_t, qle_f, qlt_t, qlt_f, qeq_t, qeq_f, s40, s19'', a1, A39, m_pZ0, hT', e9, Nat.add_zero]
  rw [q0]
  show mSp A b f L (zB (pR f L q 80 t 0 0 (kE f L e)) _) _
  have hne' := hne (kE f L e)
  revert rd hne'
  match pR f L q 80 t 0 0 (kE f L e) with
  | .inl (kd, pl) =>
    intro ⟨Z, z1, z2, z3, z4, z5⟩ _
    refine Or.inl ⟨xuI Z 20 (2 * b + q) (Z.1 0 39), by rw [z1]; rfl, z2, by rw [quI_k (by omega)]; exact z3, by rw [quI_k (by omega)]; exact z4, frG_trans frT (frG_trans (frG_N z5) (frG_up (by decide) in20))⟩
  | .inr (e', c') =>
    intro rd hne'
    rcases rd with ⟨hw, Z, z1, z2, z3, z4⟩ | ⟨Z, z1, z2, z3, z4, z5, z6, z7, z8, z9⟩
    · exact Or.inr (Or.inr ⟨xuI Z 20 (2 * b + q) (Z.1 0 39), e', _, _, by rw [z1]; rfl, rfl, hw, by rw [quI_k (by omega)]; exact z2, by rw [quI_k (by omega)]; exact z3, frG_trans frT (frG_trans (frG_N z4) (frG_up (by decide) in20))⟩)
    · refine Or.inl ⟨xuI Z 20 (2 * b + q) (nI (cc ++ c').length), by rw [z1]; show some (xuI Z 20 (2 * b + q) (Z.1 0 39)) = _; rw [z6], rd_fin hb hY (by omega) (hne' e' c' rfl) hA z2 z3 z4 z5 z6 z7 z8 (by rw [hT]; exact z9), frG_trans frT (frG_trans (frG_N z9) (frG_up (by decide) in20))⟩
/-- a word of the reference, as a number -/
theorem w_k {x : Int64} (hk : k < 32) (hx : x = lN (s_oc k)) (h : tkM S f L e) (hw : kW f L e = none) : fX12_isWord 0 x S = some (nI (if iw f L e k then 1 else 0)) := by
  rw [hx]
  exact m_isW h.1.2.2.1 h hw hk
/-- a statement -/
theorem m_stmt (hn : 2000 ≤ n) (hb : b < 2) (hY : yrOk Y) (hN : yJn Y) (h : mkM S b f L e Y cc) : mSp S b f L (zS f L Y cc e) (fX12_statement n 0 S) := by
  have h8 := h.2.2.1
  have h4 := h.1.2.2.1
  have tm0 : tM.1 0 = 12 := rfl
  have le0 : (nI 0 ≤ (0 : Int32)) = True := eq_true (by decide)
  have z0 : (nI 0 = (0 : Int32)) = True := eq_true rfl
  have z1 : (nI 1 = (0 : Int32)) = False := eq_false (by decide)
  have z2 : (nI 1 ≤ (0 : Int32)) = False := eq_false (by decide)
  by_cases hw : kW f L e = none
  · have z12 := h.1.2.2.2.2.1
    rw [hw] at z12
    have l1 := m_lex0 z12
    have w0 := w_k (x := 1802071652) (k := 0) (by decide) rfl h.1 hw
    have w3 := w_k (x := 1953460076) (k := 3) (by decide) rfl h.1 hw
    have w6 := w_k (x := 1751215716) (k := 6) (by decide) rfl h.1 hw
    have w7 := w_k (x := 461414299507) (k := 7) (by decide) rfl h.1 hw
    have w8 := w_k (x := 6975330) (k := 8) (by decide) rfl h.1 hw
    have w11 := w_k (x := 126879549252979) (k := 11) (by decide) rfl h.1 hw
    have w14 := w_k (x := 7168377) (k := 14) (by decide) rfl h.1 hw
    have w15 := w_k (x := 512801993331) (k := 15) (by decide) rfl h.1 hw
    have w16 := w_k (x := 108243466677107) (k := 16) (by decide) rfl h.1 hw
    have w17 := w_k (x := 495756866664) (k := 17) (by decide) rfl h.1 hw
    have w18 := w_k (x := 1718185573) (k := 18) (by decide) rfl h.1 hw
    have w19 := w_k (x := 440006570868) (k := 19) (by decide) rfl h.1 hw
    have bs : ∀ (x : Option xSt), (x.bind fun S => some S) = x := fun x => by cases x <;> rfl
    unfold zS
    by_cases i0 : iw f L e 0
    · rw [if_pos i0] at w0 ⊢
      have q1 : fX12_statement n 0 S = fX12_kinding n 0 S := by
        simp only [fX12_statement, if_pos tm0, l1, h8, w0, bs, qb_so, qb_gI tm0, le0, z0, z1, z2, if_true, if_false]
      rw [q1]
      exact mSp_of (m_kind hn hb hY hN h)
    rw [if_neg i0] at w0 ⊢
    by_cases i3 : iw f L e 3
    · rw [if_pos i3] at w3 ⊢
      have q1 : fX12_statement n 0 S = fX12_tooling n 0 S := by
        simp only [fX12_statement, if_pos tm0, l1, h8, w0, w3, bs, qb_so, qb_gI tm0, le0, z0, z1, z2, if_true, if_false]
      rw [q1]
      exact mSp_of (m_rTool hn hb hY hN h)
    rw [if_neg i3] at w3 ⊢
    by_cases i6 : iw f L e 6
    · rw [if_pos i6] at w6 ⊢
      have q1 : fX12_statement n 0 S = fX12_handing n 0 S := by
        simp only [fX12_statement, if_pos tm0, l1, h8, w0, w3, w6, bs, qb_so, qb_gI tm0, le0, z0, z1, z2, if_true, if_false]
      rw [q1]
      exact mSp_of (m_rHand hn hb hY hN h)
    rw [if_neg i6] at w6 ⊢
    by_cases i7 : iw f L e 7
    · rw [if_pos i7] at w7 ⊢
      have q1 : fX12_statement n 0 S = fX12_knowing n 0 S := by
        simp only [fX12_statement, if_pos tm0, l1, h8, w0, w3, w6, w7, bs, qb_so, qb_gI tm0, le0, z0, z1, z2, if_true, if_false]
      rw [q1]
      exact mSp_of (m_knows hn hb hY hN h)
    rw [if_neg i7] at w7 ⊢
    by_cases i8 : iw f L e 8
    · rw [if_pos i8] at w8 ⊢
      have q1 : fX12_statement n 0 S = fX12_jobbing n 0 S := by
        simp only [fX12_statement, if_pos tm0, l1, h8, w0, w3, w6, w7, w8, bs, qb_so, qb_gI tm0, le0, z0, z1, z2, if_true, if_false]
      rw [q1]
      exact m_job hn hb hY hN h
    rw [if_neg i8] at w8 ⊢
    by_cases i11 : iw f L e 11
    · rw [if_pos i11] at w11 ⊢
      have q1 : fX12_statement n 0 S = fX12_serving n 0 S := by
        simp only [fX12_statement, if_pos tm0, l1, h8, w0, w3, w6, w7, w8, w11, bs, qb_so, qb_gI tm0, le0, z0, z1, z2, if_true, if_false]
      rw [q1]
      exact mSp_of (m_serv hn hb hY hN h)
    rw [if_neg i11] at w11 ⊢
    by_cases i14 : iw f L e 14
    · rw [if_pos i14] at w14 ⊢
      have q1 : fX12_statement n 0 S = fX12_reading n 0 (nI 1) S := by
        simp only [fX12_statement, if_pos tm0, l1, h8, w0, w3, w6, w7, w8, w11, w14, bs, qb_so, qb_gI tm0, le0, z0, z1, z2, if_true, if_false]
        rfl
      rw [q1]
      exact m_rdg (p := 3) (q := 1) (t := 0) hn hb hY h (Or.inl ⟨rfl, rfl, rfl⟩) (fun e e' c' hr => (pR_may hr).2)
    rw [if_neg i14] at w14 ⊢
    by_cases i15 : iw f L e 15
    · rw [if_pos i15] at w15 ⊢
      have q1 : fX12_statement n 0 S = fX12_reading n 0 (nI 0) S := by
        simp only [fX12_statement, if_pos tm0, l1, h8, w0, w3, w6, w7, w8, w11, w14, w15, bs, qb_so, qb_gI tm0, le0, z0, z1, z2, if_true, if_false]
        rfl
      rw [q1]
      exact m_rdg (p := 5) (q := 0) (t := 4) hn hb hY h (Or.inr ⟨rfl, rfl, rfl⟩) (fun e e' c' hr => (pR_wears hr).2.1)
    rw [if_neg i15] at w15 ⊢
    by_cases i16 : iw f L e 16
    · rw [if_pos i16] at w16 ⊢
      have q1 : fX12_statement n 0 S = fX12_telling n 0 (nI 0) (nI 1) (nI 100) S := by
        simp only [fX12_statement, if_pos tm0, l1, h8, w0, w3, w6, w7, w8, w11, w14, w15, w16, bs, qb_so, qb_gI tm0, le0, z0, z1, z2, if_true, if_false]
        rfl
      rw [q1]
      exact mSp_of (m_tell hn hb hY h (by decide) (Or.inl ⟨rfl, rfl⟩))
    rw [if_neg i16] at w16 ⊢
    by_cases i17 : iw f L e 17
    · rw [if_pos i17] at w17 ⊢
      have q1 : fX12_statement n 0 S = fX12_smithing n 0 S := by
        simp only [fX12_statement, if_pos tm0, l1, h8, w0, w3, w6, w7, w8, w11, w14, w15, w16, w17, bs, qb_so, qb_gI tm0, le0, z0, z1, z2, if_true, if_false]
      rw [q1]
      exact mSp_of (m_smith hn hb hY h)
    rw [if_neg i17] at w17 ⊢
    by_cases i18 : iw f L e 18
    · rw [if_pos i18] at w18 ⊢
      have q1 : fX12_statement n 0 S = fX12_telling n 0 (nI 1) (nI 0) (nI 100) S := by
        simp only [fX12_statement, if_pos tm0, l1, h8, w0, w3, w6, w7, w8, w11, w14, w15, w16, w17, w18, bs, qb_so, qb_gI tm0, le0, z0, z1, z2, if_true, if_false]
        rfl
      rw [q1]
      exact mSp_of (m_tell hn hb hY h (by decide) (Or.inr (Or.inl ⟨rfl, rfl⟩)))
    rw [if_neg i18] at w18 ⊢
    by_cases i19 : iw f L e 19
    · rw [if_pos i19] at w19 ⊢
      have q1 : fX12_statement n 0 S = fX12_telling n 0 (nI 2) (nI 0) (nI 100) S := by
        simp only [fX12_statement, if_pos tm0, l1, h8, w0, w3, w6, w7, w8, w11, w14, w15, w16, w17, w18, w19, bs, qb_so, qb_gI tm0, le0, z0, z1, z2, if_true, if_false]
        rfl
      rw [q1]
      exact mSp_of (m_tell hn hb hY h (by decide) (Or.inr (Or.inr ⟨rfl, rfl⟩)))
    rw [if_neg i19] at w19 ⊢
    rw [wk_none hw]
    have b1 : fX12_blame 0 (1 : Int32) (nI (kS f L e)) S = _ := m_blame (k := 1) (p := kS f L e) h8
    refine Or.inl ⟨flR S 1 (kS f L e), ?_, ⟨by decide, by decide⟩, flR_8, flR_9, frG_fl⟩
    unfold flR
    simp only [fX12_statement, if_pos tm0, l1, h8, w0, w3, w6, w7, w8, w11, w14, w15, w16, w17, w18, w19, h4, b1, qb_so, qb_gI tm0, le0, z0, z1, z2, if_true, if_false]
  · have l1 := m_lexw h.2.1 h.1 h8 hw
    have y8 := flR_8 (S := S) (kd := 1) (pl := kP f L e)
    have hz : zS f L Y cc e = .inl (1, kP f L e) := by
      unfold zS
      rw [if_neg (fun hh => hw hh.1), if_neg (fun hh => hw hh.1), if_neg (fun hh => hw hh.1), if_neg (fun hh => hw hh.1), if_neg (fun hh => hw hh.1), if_neg (fun hh => hw hh.1), if_neg (fun hh => hw hh.1), if_neg (fun hh => hw hh.1), if_neg (fun hh => hw hh.1), if_neg (fun hh => hw hh.1), if_neg (fun hh => hw hh.1), if_neg (fun hh => hw hh.1)]
    rw [hz]
    refine Or.inl ⟨flR S 1 (kP f L e), ?_, ⟨by decide, by decide⟩, y8, flR_9, frG_fl⟩
    simp only [fX12_statement, if_pos tm0, l1, y8, qb_so, qb_gI tm0, le0, z0, z1, z2, if_true, if_false]
end Q9zi

