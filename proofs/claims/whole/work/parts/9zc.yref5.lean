/-! ===== the reference reads statements: serves, kinds ===== -/
section Q9zc
variable {S Z V W : xSt} {n L e m o b d t k a s w lo hi j r kd pl : Nat} {u : Option Nat} {f : Nat → Nat} {cc mc wc : List (Nat × Nat)} {Y Y' : Nat → Nat → Nat} {F : Option xSt} {R : YS}
theorem m_serv (hn : 2000 ≤ n) (hb : b < 2) (hY : yrOk Y) (hN : yJn Y) (h : mkM S b f L e Y cc) : mSo S b f L cc (zServes f L Y e) (fX12_serving n 0 S) := by
  obtain ⟨A, a1, a2, a3⟩ := (mt_C (x := 0) hn h.2.1 h.1 h.2.2.1 (by decide)).2 rfl
  have hke := kE_from (f := f) h.2.1
  have hA := mkM_M h hY a2 hke.1 hke.2 a3
  refine mSo_pre (frG_M a3) ?_
  obtain ⟨c0, c1, c2, c3⟩ := hY.1
  have b1 := mt_A (s := 0) (u := none) (x := nI 0) hn hb hY hN (by decide) has0 hA.2.2.2.1 hA.2.2.2.2.2.2.2.1 hke.2 a2 hA.2.2.1
  unfold zServes
  cases h1 : tA f L Y 0 none (kE f L e) with
  | inl x =>
    obtain ⟨kd, pl⟩ := x
    rw [h1] at b1
    obtain ⟨⟨k0, k1⟩, v, b2⟩ := b1
    have y8 : (flR A kd pl).1 0 8 = nI kd := flR_8
    have kn : ¬ kd = 0 := by omega
    have n0 := f_must_ (n := n) (x := 6713202) y8 k0 k1
    have n1 := f_ask (n := n) (x := nI 0) (y := nI 1 <<< (v &&& 31)) y8 k0 k1
    have n3 := f_must_ (n := n) (x := 24948) y8 k0 k1
    have n2 := f_num (n := n) (x := nI 1) (y := nI 99) y8 k0 k1
    refine ⟨flR A kd pl, ?_, ⟨k0, k1⟩, y8, flR_9, frG_fl⟩
    simp (disch := (first | assumption | omega | exact hB _ _ | exact hYB _ _ | (simp only [yc, yd, sh, sv, ne_eq]; omega) | (simp (disch := omega) only [↓nm_1, ↓nm_2, nI_add, pk_mul, pk_sub, Nat.add_sub_cancel, qm1_add, qm2_add, nI_clamp, ni_0, ni_1, ni_6, ni_99, a1, b2, n0, n1, n3, n2, y8, kn]; refine qin_nI ?_ ?_ <;> first | omega | exact hB _ _ | exact hYB _ _) | (refine qin_nI ?_ ?_ <;> omega) | fail)) only [↓km0_gd, ↓km0_gI, ↓km0_gM, ↓km0_pI, ↓km0_pM, ↓km0_pZ, ↓km0_gL, ↓km0_pL, ↓km0_gF27, ↓km15_al, ↓km15_as, ↓km15_ln, ↓qb_so, ↓nm_1, ↓nm_2, ↓reduceIte, if_true, if_false, not_true_eq_false, not_false_eq_true, and_true, true_and, and_false, false_and, or_true, true_or, or_false, false_or, eq_self, ne_eq, quI_s, quI_n, quI2, quL1, quL2, quL3, quR1, quR2, quR3, nI_add, pk_mul, pk_sub, Nat.add_sub_cancel, qm1_add, qm2_add, nI_leI, nI_ltI, nI_eq, nI_m1, nI_m1', nI_clamp, nI_bit, nI_one_shl, nI_m1l, nI_m1lt, nI_m1lt', nI_m1le', oI_some, oI_none, ni_0, ni_1, ni_6, ni_99, fX12_serving, qle_t, qle_f, qlt_t, qlt_f, qeq_t, qeq_f, a1, b2, n0, n1, n3, n2, y8, kn]
  | inr x =>
    obtain ⟨v, e1⟩ := x
    have hv := (tA_i h1).1
    rw [h1] at b1
    obtain ⟨B, b2, b3, b4, b5, b6⟩ := b1
    have hB := mkM_M hA hY b3 b5 b4 b6
    refine mSo_pre (frG_M b6) ?_
    have g1 := mt_W (k := 12) hn b4 b3 hB.2.2.1 (by decide)
    show mSo B b f L cc (zB (tW f L 12 e1) fun e => zB (tA f L Y 0 (some v) e) fun c => zB (tW f L 13 c.2) fun e => zB (tN f L 1 99 e) fun r => .inr (r.2, dU Y 12 (6 * v + c.1) r.1)) _
    cases h2 : tW f L 12 e1 with
    | inl x =>
      obtain ⟨kd, pl⟩ := x
      rw [h2] at g1
      obtain ⟨⟨k0, k1⟩, g2⟩ := g1
      have g2' : fX12_must_ n 0 (6713202 : Int64) B = some (flR B kd pl) := g2
      have y8 : (flR B kd pl).1 0 8 = nI kd := flR_8
      have kn : ¬ kd = 0 := by omega
      have n1 := f_ask (n := n) (x := nI 0) (y := nI 1 <<< (nI v &&& 31)) y8 k0 k1
      have n3 := f_must_ (n := n) (x := 24948) y8 k0 k1
      have n2 := f_num (n := n) (x := nI 1) (y := nI 99) y8 k0 k1
      refine ⟨flR B kd pl, ?_, ⟨k0, k1⟩, y8, flR_9, frG_fl⟩
      have n1' : ∀ y, fX12_askedBut n 0 (nI 0) y (flR B kd pl) = some (nI 0, flR B kd pl) := fun y => f_ask y8 k0 k1
      simp (disch := (first | assumption | omega | exact hB _ _ | exact hYB _ _ | (simp only [yc, yd, sh, sv, ne_eq]; omega) | (simp (disch := omega) only [↓nm_1, ↓nm_2, nI_add, pk_mul, pk_sub, Nat.add_sub_cancel, qm1_add, qm2_add, nI_clamp, ni_0, ni_1, ni_6, ni_99, a1, b2, g2', n1', n3, n2, y8, kn]; refine qin_nI ?_ ?_ <;> first | omega | exact hB _ _ | exact hYB _ _) | (refine qin_nI ?_ ?_ <;> omega) | fail)) only [↓km0_gd, ↓km0_gI, ↓km0_gM, ↓km0_pI, ↓km0_pM, ↓km0_pZ, ↓km0_gL, ↓km0_pL, ↓km0_gF27, ↓km15_al, ↓km15_as, ↓km15_ln, ↓qb_so, ↓nm_1, ↓nm_2, ↓reduceIte, if_true, if_false, not_true_eq_false, not_false_eq_true, and_true, true_and, and_false, false_and, or_true, true_or, or_false, false_or, eq_self, ne_eq, quI_s, quI_n, quI2, quL1, quL2, quL3, quR1, quR2, quR3, nI_add, pk_mul, pk_sub, Nat.add_sub_cancel, qm1_add, qm2_add, nI_leI, nI_ltI, nI_eq, nI_m1, nI_m1', nI_clamp, nI_bit, nI_one_shl, nI_m1l, nI_m1lt, nI_m1lt', nI_m1le', oI_some, oI_none, ni_0, ni_1, ni_6, ni_99, fX12_serving, qle_t, qle_f, qlt_t, qlt_f, qeq_t, qeq_f, a1, b2, g2', n1', n3, n2, y8, kn]
    | inr e2 =>
      rw [h2] at g1
      obtain ⟨C, g2, g3, g4, g5, g6⟩ := g1
      have g2' : fX12_must_ n 0 (6713202 : Int64) B = some C := g2
      have hC := mkM_M hB hY g3 g5 g4 g6
      refine mSo_pre (frG_M g6) ?_
      have v6 : v < 6 := by omega
      have k1 := mt_A (s := 0) (u := some v) (x := nI 1 <<< (nI v &&& 31)) hn hb hY hN (by decide) (has1 v6) hC.2.2.2.1 hC.2.2.2.2.2.2.2.1 g4 g3 hC.2.2.1
      have q0 : fX12_serving n 0 S = (fX12_askedBut n 0 (nI 0) (nI 1 <<< (nI v &&& 31)) C).bind fun q4 => (fX12_must_ n 0 ((24948 : Int64)) q4.2).bind fun S5 => (fX12_number n 0 (nI 1) (nI 99) S5).bind fun q6 => if q6.2.1 0 8 = nI 0 then (xas tM 15 (nI 6 * (nI 6 * q6.2.1 0 40 + nI v) + q4.1) q6.1 q6.2).bind fun S10 => some S10 else some q6.2 := by
        unfold fX12_serving
        rw [if_pos (by rfl)]
        show (fX12_counts n 0 (nI 0) S).bind _ = _
        rw [a1]
        show (fX12_askedBut n 0 (nI 0) (nI 0) A).bind _ = _
        rw [b2]
        show (fX12_must_ n 0 (6713202 : Int64) B).bind _ = _
        rw [g2']
        rfl
      rw [q0]
      show mSo C b f L cc (zB (tA f L Y 0 (some v) e2) fun c => zB (tW f L 13 c.2) fun e => zB (tN f L 1 99 e) fun r => .inr (r.2, dU Y 12 (6 * v + c.1) r.1)) _
      cases h3 : tA f L Y 0 (some v) e2 with
      | inl x =>
        obtain ⟨kd, pl⟩ := x
        rw [h3] at k1
        obtain ⟨⟨k0, k1'⟩, v', k2⟩ := k1
        have y8 : (flR C kd pl).1 0 8 = nI kd := flR_8
        have kn : ¬ kd = 0 := by omega
        have n3 := f_must_ (n := n) (x := 24948) y8 k0 k1'
        have n2 := f_num (n := n) (x := nI 1) (y := nI 99) y8 k0 k1'
        refine ⟨flR C kd pl, ?_, ⟨k0, k1'⟩, y8, flR_9, frG_fl⟩
        rw [k2]
        simp (disch := (first | assumption | omega | exact hB _ _ | exact hYB _ _ | (simp only [yc, yd, sh, sv, ne_eq]; omega) | (simp (disch := omega) only [↓nm_1, ↓nm_2, nI_add, pk_mul, pk_sub, Nat.add_sub_cancel, qm1_add, qm2_add, nI_clamp, ni_0, ni_1, n3, n2, y8, kn]; refine qin_nI ?_ ?_ <;> first | omega | exact hB _ _ | exact hYB _ _) | (refine qin_nI ?_ ?_ <;> omega) | fail)) only [↓km0_gd, ↓km0_gI, ↓km0_gM, ↓km0_pI, ↓km0_pM, ↓km0_pZ, ↓km0_gL, ↓km0_pL, ↓qb_so, ↓nm_1, ↓nm_2, ↓reduceIte, if_true, if_false, not_true_eq_false, not_false_eq_true, and_true, true_and, and_false, false_and, or_true, true_or, or_false, false_or, eq_self, ne_eq, quI_s, quI_n, quI2, quL1, quL2, quL3, quR1, quR2, quR3, nI_add, pk_mul, pk_sub, Nat.add_sub_cancel, qm1_add, qm2_add, nI_leI, nI_ltI, nI_eq, nI_m1, nI_m1', nI_clamp, nI_bit, nI_one_shl, nI_m1l, nI_m1lt, nI_m1lt', nI_m1le', oI_some, oI_none, ni_0, ni_1, qle_t, qle_f, qlt_t, qlt_f, qeq_t, qeq_f, n3, n2, y8, kn]
      | inr x =>
        obtain ⟨c, e3⟩ := x
        have hc := (tA_i h3).1
        rw [h3] at k1
        obtain ⟨D, k2, k3, k4, k5, k6⟩ := k1
        have hD := mkM_M hC hY k3 k5 k4 k6
        refine mSo_pre (frG_M k6) ?_
        rw [k2]
        have l1 := mt_W (k := 13) hn k4 k3 hD.2.2.1 (by decide)
        show mSo D b f L cc (zB (tW f L 13 e3) fun e => zB (tN f L 1 99 e) fun r => .inr (r.2, dU Y 12 (6 * v + c) r.1)) _
        cases h4 : tW f L 13 e3 with
        | inl x =>
          obtain ⟨kd, pl⟩ := x
          rw [h4] at l1
          obtain ⟨⟨k0, k1'⟩, l2⟩ := l1
          have l2' : fX12_must_ n 0 (24948 : Int64) D = some (flR D kd pl) := l2
          have y8 : (flR D kd pl).1 0 8 = nI kd := flR_8
          have kn : ¬ kd = 0 := by omega
          have n2 := f_num (n := n) (x := nI 1) (y := nI 99) y8 k0 k1'
          refine ⟨flR D kd pl, ?_, ⟨k0, k1'⟩, y8, flR_9, frG_fl⟩
          simp (disch := (first | assumption | omega | exact hB _ _ | exact hYB _ _ | (simp only [yc, yd, sh, sv, ne_eq]; omega) | (simp (disch := omega) only [↓nm_1, ↓nm_2, nI_add, pk_mul, pk_sub, Nat.add_sub_cancel, qm1_add, qm2_add, nI_clamp, ni_0, ni_1, l2', n2, y8, kn]; refine qin_nI ?_ ?_ <;> first | omega | exact hB _ _ | exact hYB _ _) | (refine qin_nI ?_ ?_ <;> omega) | fail)) only [↓km0_gd, ↓km0_gI, ↓km0_gM, ↓km0_pI, ↓km0_pM, ↓km0_pZ, ↓km0_gL, ↓km0_pL, ↓qb_so, ↓nm_1, ↓nm_2, ↓reduceIte, if_true, if_false, not_true_eq_false, not_false_eq_true, and_true, true_and, and_false, false_and, or_true, true_or, or_false, false_or, eq_self, ne_eq, quI_s, quI_n, quI2, quL1, quL2, quL3, quR1, quR2, quR3, nI_add, pk_mul, pk_sub, Nat.add_sub_cancel, qm1_add, qm2_add, nI_leI, nI_ltI, nI_eq, nI_m1, nI_m1', nI_clamp, nI_bit, nI_one_shl, nI_m1l, nI_m1lt, nI_m1lt', nI_m1le', oI_some, oI_none, ni_0, ni_1, qle_t, qle_f, qlt_t, qlt_f, qeq_t, qeq_f, l2', n2, y8, kn]
        | inr e4 =>
          rw [h4] at l1
          obtain ⟨E, l2, l3, l4, l5, l6⟩ := l1
          have l2' : fX12_must_ n 0 (24948 : Int64) D = some E := l2
          have hE := mkM_M hD hY l3 l5 l4 l6
          refine mSo_pre (frG_M l6) ?_
          have o1 := mt_N (lo := 1) (hi := 99) hn l4 l3 hE.2.2.1 (by omega) (by decide)
          show mSo E b f L cc (zB (tN f L 1 99 e4) fun r => .inr (r.2, dU Y 12 (6 * v + c) r.1)) _
          cases h5 : tN f L 1 99 e4 with
          | inl x =>
            obtain ⟨kd, pl⟩ := x
            rw [h5] at o1
            obtain ⟨⟨k0, k1'⟩, v', o2⟩ := o1
            have y8 : (flR E kd pl).1 0 8 = nI kd := flR_8
            have kn : ¬ kd = 0 := by omega
            refine ⟨flR E kd pl, ?_, ⟨k0, k1'⟩, y8, flR_9, frG_fl⟩
            simp (disch := (first | assumption | omega | exact hB _ _ | exact hYB _ _ | (simp only [yc, yd, sh, sv, ne_eq]; omega) | (simp (disch := omega) only [↓nm_1, ↓nm_2, nI_add, pk_mul, pk_sub, Nat.add_sub_cancel, qm1_add, qm2_add, nI_clamp, ni_0, ni_1, l2', o2, y8, kn]; refine qin_nI ?_ ?_ <;> first | omega | exact hB _ _ | exact hYB _ _) | (refine qin_nI ?_ ?_ <;> omega) | fail)) only [↓km0_gd, ↓km0_gI, ↓km0_gM, ↓km0_pI, ↓km0_pM, ↓km0_pZ, ↓km0_gL, ↓km0_pL, ↓qb_so, ↓nm_1, ↓nm_2, ↓reduceIte, if_true, if_false, not_true_eq_false, not_false_eq_true, and_true, true_and, and_false, false_and, or_true, true_or, or_false, false_or, eq_self, ne_eq, quI_s, quI_n, quI2, quL1, quL2, quL3, quR1, quR2, quR3, nI_add, pk_mul, pk_sub, Nat.add_sub_cancel, qm1_add, qm2_add, nI_leI, nI_ltI, nI_eq, nI_m1, nI_m1', nI_clamp, nI_bit, nI_one_shl, nI_m1l, nI_m1lt, nI_m1lt', nI_m1le', oI_some, oI_none, ni_0, ni_1, qle_t, qle_f, qlt_t, qlt_f, qeq_t, qeq_f, l2', o2, y8, kn]
          | inr x =>
            obtain ⟨r, e5⟩ := x
            rw [h5] at o1
            obtain ⟨G, o2, o3, o4, o5, o6⟩ := o1
            have hG := mkM_M hE hY o3 o5 o4 o6
            have y8 := hG.2.2.1
            have y40 := hG.2.2.2.1
            have c6 : c < 6 := by omega
            refine ⟨xuI G 15 (6 * (6 * b + v) + c) (nI r), ?_, ?_, frG_trans (frG_M o6) (frG_up (by decide) (inb_ok (a := 36) rfl (by omega) (by omega)))⟩
            · simp (disch := (first | assumption | omega | exact hB _ _ | exact hYB _ _ | (simp only [yc, yd, sh, sv, ne_eq]; omega) | (simp (disch := omega) only [↓nm_1, ↓nm_2, nI_add, pk_mul, pk_sub, Nat.add_sub_cancel, qm1_add, qm2_add, nI_clamp, ni_0, ni_1, l2', o2, y8, y40]; refine qin_nI ?_ ?_ <;> first | omega | exact hB _ _ | exact hYB _ _) | (refine qin_nI ?_ ?_ <;> omega) | fail)) only [↓km0_gd, ↓km0_gI, ↓km0_gM, ↓km0_pI, ↓km0_pM, ↓km0_pZ, ↓km0_gL, ↓km0_pL, ↓km15_al, ↓km15_as, ↓km15_ln, ↓qb_so, ↓nm_1, ↓nm_2, ↓reduceIte, if_true, if_false, not_true_eq_false, not_false_eq_true, and_true, true_and, and_false, false_and, or_true, true_or, or_false, false_or, eq_self, ne_eq, quI_s, quI_n, quI2, quL1, quL2, quL3, quR1, quR2, quR3, nI_add, pk_mul, pk_sub, Nat.add_sub_cancel, qm1_add, qm2_add, nI_leI, nI_ltI, nI_eq, nI_m1, nI_m1', nI_clamp, nI_bit, nI_one_shl, nI_m1l, nI_m1lt, nI_m1lt', nI_m1le', oI_some, oI_none, ni_0, ni_1, qle_t, qle_f, qlt_t, qlt_f, qeq_t, qeq_f, l2', o2, y8, y40]
            · obtain ⟨i0, i1, i2, i3, i4, i5, i6, i7, i10⟩ := hG.2.2.2.2.2.2.2.1
              refine mkM_of hG (tkM_same hG.1 (fun k j hk => quI_k (by omega)) rfl) (Nat.le_refl _) hG.2.1 (fun j hj => quI_k (by omega)) (fun k j x y => quI_k (by omega)) ?_ ?_
              · refine ⟨i0, i1, i2, i3, i4, fun g t' hg ht' => ?_, i6, i7, i10⟩
                have hg' : g < Y 2 0 := hg
                have ht'' : t' < Y 2 0 := ht'
                rw [quI_s]
                by_cases hx : g = v ∧ t' = c
                · rw [if_pos (by omega), hx.1, hx.2, dU_s]
                · rw [if_neg (by omega), dU_j (by omega)]
                  exact i5 g t' hg' ht''
              · funext x; rw [dU_c (by decide)]
/-- a name is put where no one reads yet -/
theorem mkM_nm {x : Int64} (h : mkM S b f L e Y cc) (hY : yrOk Y) (hs : s < 4) : mkM (xuL S (23 + s) (s_cap s * b + Y 2 s) x) b f L e Y cc := by
  refine mkM_of h (tkM_same h.1 (fun k j hk => rfl) ?_) (Nat.le_refl _) h.2.1 (fun _ _ => rfl) (fun _ _ _ _ => rfl) (mI_eq h.2.2.2.2.2.2.2.1 (fun j hj => (hY.2.2.2.2.2.1 j hj).2.1) (fun _ _ _ => rfl) (fun t i ht hi => ?_)) rfl
  · show (xuL S (23 + s) (s_cap s * b + Y 2 s) x).2.1 0 7 = _
    unfold xuL
    simp only
    rw [if_neg (by omega)]
  · show (xuL S (23 + s) (s_cap s * b + Y 2 s) x).2.1 _ _ = _
    unfold xuL
    simp only
    by_cases h1 : 23 + t = 23 + s
    · have : t = s := by omega
      subst this
      rw [if_pos rfl, if_neg (by omega)]
    · rw [if_neg h1]
/-- a cell is put where no one reads yet -/
theorem mkM_fr {x : Int32} (h : mkM S b f L e Y cc) (hY : yrOk Y) (hk : 2 ≤ k ∧ k ≤ 18) (hv : ¬ vis b Y k j) : mkM (xuI S k j x) b f L e Y cc :=
  mkM_of h (tkM_same h.1 (fun k' j' hk' => quI_k (by omega)) rfl) (Nat.le_refl _) h.2.1 (fun j' hj => quI_k (by omega)) (fun k' j' a1 a2 => quI_k (by omega)) (mI_eq h.2.2.2.2.2.2.2.1 (fun j hj => (hY.2.2.2.2.2.1 j hj).2.1) (fun k' j' hk' => quI_k (fun hh => hv (by rw [← hh.1, ← hh.2]; exact hk'))) (fun _ _ _ _ => rfl)) rfl
theorem m_kdL {K : Nat} (hb : b < 2) (hK : K < 6) : ∀ (k i q : Nat) (S : xSt), i + k = 6 → k < q → S.1 0 40 = nI b → S.1 2 b = nI K → ∃ Z, fX12_kinding_L84 n 0 (nI (6 * b + K)) q (nI i) S = some Z ∧ (∀ k j, k ≠ 15 → Z.1 k j = S.1 k j) ∧ Z.2 = S.2 ∧ (∀ j, ¬ inb 15 b j → Z.1 15 j = S.1 15 j) ∧ (∀ j, (∀ o, o < 6 → j ≠ 6 * (6 * b + K) + o ∧ j ≠ 6 * (6 * b + o) + K) → Z.1 15 j = S.1 15 j) ∧ (∀ o, i ≤ o → o < 6 → Z.1 15 (6 * (6 * b + K) + o) = nI 0 ∧ Z.1 15 (6 * (6 * b + o) + K) = nI 0) ∧ (∀ j, S.1 15 j = nI 0 → Z.1 15 j = nI 0)
  | 0, i, q, S, hi, hq, h40, h2 => by
    obtain ⟨q, rfl⟩ : ∃ q', q = q' + 1 := ⟨q - 1, by omega⟩
    have hi6 : i = 6 := by omega
    subst hi6
    refine ⟨S, ?_, fun _ _ _ => rfl, rfl, fun _ _ => rfl, fun _ _ => rfl, fun o h1 h2 => absurd h2 (by omega), fun _ h => h⟩
    show fX12_kinding_L84b n 0 (nI (6 * b + K)) _ (nI 6) S = some S
    simp (disch := (first | assumption | omega | exact hB _ _ | exact hYB _ _ | (simp only [yc, yd, sh, sv, ne_eq]; omega) | (simp (disch := omega) only [↓nm_1, ↓nm_2, nI_add, pk_mul, pk_sub, Nat.add_sub_cancel, qm1_add, qm2_add, nI_clamp, ni_0, ni_1, ni_6]; refine qin_nI ?_ ?_ <;> first | omega | exact hB _ _ | exact hYB _ _) | (refine qin_nI ?_ ?_ <;> omega) | fail)) only [↓km0_gd, ↓km0_gI, ↓km0_gM, ↓km0_pI, ↓km0_pM, ↓km0_pZ, ↓km0_gL, ↓km0_pL, ↓km0_gF14, ↓km0_gF27, ↓km2_al, ↓km2_as, ↓km2_ln, ↓km15_al, ↓km15_as, ↓km15_ln, ↓qb_so, ↓nm_1, ↓nm_2, ↓reduceIte, if_true, if_false, not_true_eq_false, not_false_eq_true, and_true, true_and, and_false, false_and, or_true, true_or, or_false, false_or, eq_self, ne_eq, quI_s, quI_n, quI2, quL1, quL2, quL3, quR1, quR2, quR3, nI_add, pk_mul, pk_sub, Nat.add_sub_cancel, qm1_add, qm2_add, nI_leI, nI_ltI, nI_eq, nI_m1, nI_m1', nI_clamp, nI_bit, nI_one_shl, nI_m1l, nI_m1lt, nI_m1lt', nI_m1le', oI_some, oI_none, ni_0, ni_1, ni_6, fX12_kinding_L84b, qle_t, qle_f, qlt_t, qlt_f, qeq_t, qeq_f]
  | k + 1, i, q, S, hi, hq, h40, h2 => by
    obtain ⟨q, rfl⟩ : ∃ q', q = q' + 1 := ⟨q - 1, by omega⟩
    have i6 : ¬ 6 ≤ i := by omega
    have i6' : i < 6 := by omega
    obtain ⟨Z, z1, z2, z3, z4, z5, z6, z7⟩ := m_kdL hb hK k (i + 1) q (xuI (xuI S 15 (6 * (6 * b + K) + i) (nI 0)) 15 (6 * (6 * b + i) + K) (nI 0)) (by omega) (by omega) (by rw [quI_k (by omega), quI_k (by omega)]; exact h40) (by rw [quI_k (by omega), quI_k (by omega)]; exact h2)
    refine ⟨Z, ?_, fun k j hk => by rw [z2 k j hk, quI_k (by omega), quI_k (by omega)], z3, fun j hj => ?_, fun j hj => ?_, fun o h1 h2 => ?_, fun j hj => z7 j ?_⟩
    · show fX12_kinding_L84b n 0 (nI (6 * b + K)) _ (nI i) S = some Z
      simp (disch := (first | assumption | omega | exact hB _ _ | exact hYB _ _ | (simp only [yc, yd, sh, sv, ne_eq]; omega) | (simp (disch := omega) only [↓nm_1, ↓nm_2, nI_add, pk_mul, pk_sub, Nat.add_sub_cancel, qm1_add, qm2_add, nI_clamp, ni_0, ni_1, ni_6, i6, h40, h2, z1]; refine qin_nI ?_ ?_ <;> first | omega | exact hB _ _ | exact hYB _ _) | (refine qin_nI ?_ ?_ <;> omega) | fail)) only [↓km0_gd, ↓km0_gI, ↓km0_gM, ↓km0_pI, ↓km0_pM, ↓km0_pZ, ↓km0_gL, ↓km0_pL, ↓km0_gF14, ↓km0_gF27, ↓km2_al, ↓km2_as, ↓km2_ln, ↓km15_al, ↓km15_as, ↓km15_ln, ↓qb_so, ↓nm_1, ↓nm_2, ↓reduceIte, if_true, if_false, not_true_eq_false, not_false_eq_true, and_true, true_and, and_false, false_and, or_true, true_or, or_false, false_or, eq_self, ne_eq, quI_s, quI_n, quI2, quL1, quL2, quL3, quR1, quR2, quR3, nI_add, pk_mul, pk_sub, Nat.add_sub_cancel, qm1_add, qm2_add, nI_leI, nI_ltI, nI_eq, nI_m1, nI_m1', nI_clamp, nI_bit, nI_one_shl, nI_m1l, nI_m1lt, nI_m1lt', nI_m1le', oI_some, oI_none, ni_0, ni_1, ni_6, fX12_kinding_L84b, qle_t, qle_f, qlt_t, qlt_f, qeq_t, qeq_f, i6, h40, h2, z1]
    · rw [z4 j hj, quI_k (fun hh => hj (inb_ok (a := 36) rfl (by omega) (by omega))), quI_k (fun hh => hj (inb_ok (a := 36) rfl (by omega) (by omega)))]
    · have := hj i i6'
      rw [z5 j hj, quI_k (by omega), quI_k (by omega)]
    · by_cases hx : o = i
      · subst hx
        refine ⟨z7 _ ?_, z7 _ quI_e⟩
        rw [quI_s]
        split
        · rfl
        · exact quI_e
      · exact z6 o (by omega) h2
    · rw [quI_s]
      split
      · rfl
      · rw [quI_s]
        split
        · rfl
        · exact hj
theorem zKind_R : zKind f L Y e = zB (tO f L (6 ≤ Y 2 0) e) fun e => zB (tF f L Y e) fun w => zB (tW f L 1 w.2) fun e => zB (tR f L e) fun x => .inr (x.2.2, dU (dU (s_gi Y 0 w.1) 3 (Y 2 0) x.1) 4 (Y 2 0) x.2.1) := by
  unfold zKind tR
  cases tO f L (6 ≤ Y 2 0) e with
  | inl x => rfl
  | inr x =>
  show zB (tF f L Y x) _ = zB (tF f L Y x) _
  cases tF f L Y x with
  | inl y => rfl
  | inr y =>
  show zB (tW f L 1 y.2) _ = zB (tW f L 1 y.2) _
  cases tW f L 1 y.2 with
  | inl z => rfl
  | inr z =>
  show zB (tN f L 0 9999 z) _ = zB (zB (tN f L 0 9999 z) _) _
  cases tN f L 0 9999 z with
  | inl x => rfl
  | inr x =>
    show zB (tW f L 2 x.2) _ = zB (zB (tW f L 2 x.2) _) _
    cases tW f L 2 x.2 with
    | inl y => rfl
    | inr y =>
      show zB (tN f L (s_lr x.1) 30 y) _ = zB (zB (tN f L (s_lr x.1) 30 y) _) _
      cases tN f L (s_lr x.1) 30 y <;> rfl
end Q9zc

