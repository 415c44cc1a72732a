/-! ===== the reference reads a rule ===== -/
section Q9zh
variable {S Z V W : xSt} {n L e m o b d t k a s w lo hi j r kd pl K : Nat} {u : Option Nat} {f : Nat → Nat} {cc mc wc : List (Nat × Nat)} {Y Y' : Nat → Nat → Nat} {F : Option xSt}
def rdS (S : xSt) (b : Nat) (f : Nat → Nat) (L : Nat) (cc : List (Nat × Nat)) (R : PE) (F : Option xSt) : Prop := match R with
  | .inl (kd, pl) => ∃ Z, F = some Z ∧ (0 < kd ∧ kd < 100) ∧ Z.1 0 8 = nI kd ∧ Z.1 0 9 = nI pl ∧ frN b S Z
  | .inr (e', c') => (kW f L e' ≠ none ∧ ∃ Z, F = some Z ∧ Z.1 0 8 = nI 1 ∧ Z.1 0 9 = nI (kP f L e') ∧ frN b S Z) ∨ (∃ Z, F = some Z ∧ tkM Z f L e' ∧ e' ≤ L ∧ Z.1 0 8 = nI 0 ∧ Z.1 0 40 = nI b ∧ Z.1 0 39 = nI (cc ++ c').length ∧ mCode (Z.1 21) (Z.1 22) (1600 * b) (cc ++ c') ∧ (cc ++ c').length ≤ e' ∧ frN b S Z)
theorem m_reads (hn : 2000 ≤ n) (hb : b < 2) (hm : (m = 1 ∧ t = 0) ∨ (m = 0 ∧ t = 4)) (ht : tkM S f L e) (he : e ≤ L) (h8 : S.1 0 8 = nI 0) (h41 : S.1 0 41 = nI m) (h40 : S.1 0 40 = nI b) (h39 : S.1 0 39 = nI cc.length) (hc : mCode (S.1 21) (S.1 22) (1600 * b) cc) (hl : cc.length ≤ e) : rdS S b f L cc (pR f L m 80 t 0 0 e) (fX12_reads n 0 (nI m) S) := by
  have hL := ht.1.2.2.1
  have p1 := m_push (S := xuI (xuI (xuI (xuI S 0 47 (nI 0)) 0 48 (nI 0)) 0 50 (nI 0)) 0 51 (nI 0)) (D := 0) (a := 0) (K := m) (by decide) (by rw [quI_k (by omega), quI_k (by omega), quI_k (by omega), quI_e]) (by rw [quI_k (by omega), quI_e])
  generalize hT : xuI (xuI (xuI (xuI (xuI (xuI (xuI (xuI (xuI S 0 47 (nI 0)) 0 48 (nI 0)) 0 50 (nI 0)) 0 51 (nI 0)) 27 0 (nI m)) 28 0 (nI 0)) 29 0 (nI 1)) 31 0 (nI 0)) 0 47 (nI (0 + 1)) = T at p1
  have kk : ∀ k j, ¬ (k = 0 ∧ (j = 47 ∨ j = 48 ∨ j = 50 ∨ j = 51)) → ¬ ((k = 27 ∨ k = 28 ∨ k = 29 ∨ k = 31) ∧ j = 0) → T.1 k j = S.1 k j := fun k j g1 g2 => by
    rw [← hT, quI_k (by omega), quI_k (by omega), quI_k (by omega), quI_k (by omega), quI_k (by omega), quI_k (by omega), quI_k (by omega), quI_k (by omega), quI_k (by omega)]
  have T2 : T.2 = S.2 := by rw [← hT]; rfl
  have frT : frN b S T := ⟨fun k j g1 g2 g3 => kk k j (by omega) (by omega), fun k j _ => by rw [T2], by rw [T2]⟩
  have T51 : T.1 0 51 = nI 0 := by rw [← hT, quI_k (by omega), quI_k (by omega), quI_k (by omega), quI_k (by omega), quI_k (by omega), quI_e]
  have hst : stM T b f L m e cc [] 0 1 m 0 1 0 := by
    refine ⟨tkM_same ht (fun k j hk => kk k j (by omega) (by omega)) (by rw [T2]), he, by rw [kk _ _ (by omega) (by omega)]; exact h8, by rw [kk _ _ (by omega) (by omega)]; exact h41, ⟨by rw [kk _ _ (by omega) (by omega)]; exact h40, by rw [kk _ _ (by omega) (by omega)]; exact h39, mCode_eq hc (fun j _ _ => ⟨kk _ _ (by omega) (by omega), kk _ _ (by omega) (by omega)⟩), ?_, ?_, trivial, fun q hq => absurd hq List.not_mem_nil⟩, ⟨?_, ?_, ?_, ?_, ?_⟩, by show cc.length + 0 + 1 ≤ e + 1; omega, by decide, by decide, by decide, by decide, rfl⟩
    · rw [← hT, quI_k (by omega), quI_k (by omega), quI_k (by omega), quI_k (by omega), quI_k (by omega), quI_k (by omega), quI_k (by omega), quI_e]
    · rw [← hT, quI_k (by omega), quI_k (by omega), quI_k (by omega), quI_k (by omega), quI_k (by omega), quI_k (by omega), quI_e]; rfl
    · rw [← hT, quI_e]
    · rw [← hT, quI_k (by omega), quI_k (by omega), quI_k (by omega), quI_k (by omega), quI_e]
    · rw [← hT, quI_k (by omega), quI_k (by omega), quI_k (by omega), quI_e]
    · rw [← hT, quI_k (by omega), quI_k (by omega), quI_e]
    · rw [← hT, quI_k (by omega), quI_e]
  have q0 : fX12_reads n 0 (nI m) S = fX12_reads_L43 n 0 n (nI 1) T := by
    have q1 : fX12_reads n 0 (nI m) S = fX12_reads_B38 n 0 0 (nI m) (xuI (xuI (xuI (xuI S 0 47 (nI 0)) 0 48 (nI 0)) 0 50 (nI 0)) 0 51 (nI 0)) := by
      rcases hm with ⟨rfl, _⟩ | ⟨rfl, _⟩
      · simp (disch := (first | assumption | omega | exact hB _ _ | exact hYB _ _ | (simp only [yc, yd, sh, sv, ne_eq]; omega) | (simp (disch := omega) only [↓nm_1, ↓nm_2, nI_add, pk_mul, pk_sub, Nat.add_sub_cancel, qm1_add, qm2_add, nI_clamp, ni_0, ni_1, h8, m_pZ0]; refine qin_nI ?_ ?_ <;> first | omega | exact hB _ _ | exact hYB _ _) | (refine qin_nI ?_ ?_ <;> omega) | fail)) only [↓km0_gd, ↓km0_gI, ↓km0_gM, ↓km0_pI, ↓km0_pM, ↓km0_pZ, ↓km0_gL, ↓km0_pL, ↓qb_so, ↓nm_1, ↓nm_2, ↓reduceIte, if_true, if_false, not_true_eq_false, not_false_eq_true, and_true, true_and, and_false, false_and, or_true, true_or, or_false, false_or, eq_self, ne_eq, quI_s, quI_n, quI2, quL1, quL2, quL3, quR1, quR2, quR3, nI_add, pk_mul, pk_sub, Nat.add_sub_cancel, qm1_add, qm2_add, nI_leI, nI_ltI, nI_eq, nI_m1, nI_m1', nI_clamp, nI_bit, nI_one_shl, nI_m1l, nI_m1lt, nI_m1lt', nI_m1le', oI_some, oI_none, ni_0, ni_1, fX12_reads, qle_t, qle_f, qlt_t, qlt_f, qeq_t, qeq_f, h8, m_pZ0]
      · simp (disch := (first | assumption | omega | exact hB _ _ | exact hYB _ _ | (simp only [yc, yd, sh, sv, ne_eq]; omega) | (simp (disch := omega) only [↓nm_1, ↓nm_2, nI_add, pk_mul, pk_sub, Nat.add_sub_cancel, qm1_add, qm2_add, nI_clamp, ni_0, ni_1, h8, m_pZ0]; refine qin_nI ?_ ?_ <;> first | omega | exact hB _ _ | exact hYB _ _) | (refine qin_nI ?_ ?_ <;> omega) | fail)) only [↓km0_gd, ↓km0_gI, ↓km0_gM, ↓km0_pI, ↓km0_pM, ↓km0_pZ, ↓km0_gL, ↓km0_pL, ↓qb_so, ↓nm_1, ↓nm_2, ↓reduceIte, if_true, if_false, not_true_eq_false, not_false_eq_true, and_true, true_and, and_false, false_and, or_true, true_or, or_false, false_or, eq_self, ne_eq, quI_s, quI_n, quI2, quL1, quL2, quL3, quR1, quR2, quR3, nI_add, pk_mul, pk_sub, Nat.add_sub_cancel, qm1_add, qm2_add, nI_leI, nI_ltI, nI_eq, nI_m1, nI_m1', nI_clamp, nI_bit, nI_one_shl, nI_m1l, nI_m1lt, nI_m1lt', nI_m1le', oI_some, oI_none, ni_0, ni_1, fX12_reads, qle_t, qle_f, qlt_t, qlt_f, qeq_t, qeq_f, h8, m_pZ0]
    rw [q1]
    unfold fX12_reads_B38
    rw [p1]
    show (fX12_reads_L43 n 0 n (nI 1) T).bind _ = _
    cases fX12_reads_L43 n 0 n (nI 1) T <;> rfl
  rw [q0]
  have fin : ∀ {Q : Nat → Nat → Prop} {r : Nat}, m < 2 → 1 ≤ r → (∀ e H, Q e H → nx f L m e H) → iOk n b L T e cc (vM b f L m [] 0 1 m 0 r Q T) (pR f L m 80 t 0 0 e) → rdS S b f L cc (pR f L m 80 t 0 0 e) (fX12_reads_L43 n 0 n (nI 1) T) := by
    intro Q r hm2 hr hQ hi
    revert hi
    match pR f L m 80 t 0 0 e with
    | .inl (kd, pl) =>
      intro ⟨h0, k, hk, Z, z1, z2, z3, z4⟩
      have := z1 (n - k)
      rw [show n - k + k = n by omega] at this
      exact ⟨Z, this, h0, z2, z3, frN_trans frT z4⟩
    | .inr (e', c') =>
      intro ⟨k, Z, hk, z1, z2, c0, p0, H, x1, x2, x3, x4, x5, x6⟩
      have he' := x2.2.1
      have hs := z1 (n - k)
      rw [show n - k + k = n by omega] at hs
      obtain ⟨q, hq⟩ : ∃ q, n - k = q + 2 := ⟨n - k - 2, by omega⟩
      rw [hq] at hs
      rw [hs]
      by_cases hw : kW f L e' = none
      · have h422 := n_422 (n := n) x2 hw (by omega) (hQ _ _ x6)
        have x2' : stM Z b f L m e' c0 p0 (0 + nots p0) 1 m H 0 0 := by
          rw [List.append_nil] at x2
          exact x2
        obtain ⟨W, w1, w2, w3⟩ := g_end hb hn x2' (by omega) (fun x hx => by have := x4 x hx; omega) h422
        rw [← x1] at w2
        have hlen := w2.2.2.2.2.2.2.1
        exact Or.inr ⟨W, rd_goE x3 w1 q, w2.1, w2.2.1, w2.2.2.1, w2.2.2.2.2.1.1, w2.2.2.2.2.1.2.1, w2.2.2.2.2.1.2.2.1, by have : ([] : List Nat).length = 0 := rfl; omega, frN_trans frT (frN_trans z2 w3)⟩
      · obtain ⟨W, w1, w2⟩ := g_wrong (n := n) x2 hw
        exact Or.inl ⟨hw, W, rd_goE x3 w1 q, w2.1, w2.2.1, frN_trans frT (frN_trans z2 w2.2.2)⟩
  rcases hm with ⟨rfl, rfl⟩ | ⟨rfl, rfl⟩
  · have hj := (m_rule (f := f) (L := L) (m := 1) hn hb (by decide) 80 0 (by decide)).1 (by decide)
    exact fin (by decide) (Nat.le_refl _) (fun e H hq => nx_q0 hq) (hj e cc [] 1 1 0 T T hst T51 (by decide) (Or.inl rfl) (fun hh => absurd hh (by decide)) (by decide) frD_refl)
  · have hj := (m_rule (f := f) (L := L) (m := 0) hn hb (by decide) 80 0 (by decide)).2.2.2.2.1 (by decide)
    exact fin (by decide) (by decide : 1 ≤ 5) (fun e H hq => nx_q4 rfl hq (by unfold isTs; decide)) (hj e cc [] 1 0 0 1 0 T T hst T51 (by decide) (by decide) (by decide) (fun hh => absurd hh (by unfold isTs; decide)) (fun hh => absurd hh (by decide)) (by decide) frD_refl)
/-- p 3 may, 5 wears -/
theorem rd_fin {p q : Nat} {e' : Nat} {c' : List (Nat × Nat)} (hb : b < 2) (hY : yrOk Y) (hp : (p = 3 ∧ q = 1) ∨ (p = 5 ∧ q = 0)) (hne : c' ≠ []) (h : mkM S b f L e Y cc) (ht : tkM Z f L e') (he : e' ≤ L) (h8 : Z.1 0 8 = nI 0) (h40 : Z.1 0 40 = nI b) (h39 : Z.1 0 39 = nI (cc ++ c').length) (hc : mCode (Z.1 21) (Z.1 22) (1600 * b) (cc ++ c')) (hl : (cc ++ c').length ≤ e') (hf : frN b (xuI (xuI S 0 41 (nI m)) 19 (2 * b + q) (nI cc.length)) Z) : mkM (xuI Z 20 (2 * b + q) (nI (cc ++ c').length)) b f L e' (dU (dU (dU Y 14 p cc.length) 14 2 (cc ++ c').length) 14 (p + 1) (cc ++ c').length) (cc ++ c') := by
  have len : cc.length < (cc ++ c').length := by
    rw [List.length_append]
    have : 0 < c'.length := by
      cases c' with
      | nil => exact absurd rfl hne
      | cons x y => exact Nat.succ_pos _
    omega
  have kv : ∀ k j, vis b Y k j → Z.1 k j = S.1 k j := fun k j hk => by
    have h1 : 2 ≤ k ∧ k ≤ 18 := by unfold vis at hk; omega
    rw [hf.1 k j (by omega) (by omega) (by omega), quI_k (by omega), quI_k (by omega)]
  have k19 : Z.1 19 (2 * b + q) = nI cc.length := by rw [hf.1 _ _ (by omega) (by omega) (by omega), quI_e]
  have k19' : ∀ j, j ≠ 2 * b + q → Z.1 19 j = S.1 19 j := fun j hj => by rw [hf.1 _ _ (by omega) (by omega) (by omega), quI_k (by omega), quI_k (by omega)]
  have k20' : ∀ j, Z.1 20 j = S.1 20 j := fun j => by rw [hf.1 _ _ (by omega) (by omega) (by omega), quI_k (by omega), quI_k (by omega)]
  have hI : mI Z b Y := mI_eq h.2.2.2.2.2.2.2.1 (fun j hj => (hY.2.2.2.2.2.1 j hj).2.1) kv (fun s i hs hi => by rw [hf.2.1 _ _ (by omega)]; rfl)
  obtain ⟨r1, r2, r3, r4⟩ := h.2.2.2.2.2.2.2.2
  refine ⟨tkM_same ht (fun k j hk => quI_k (by omega)) rfl, he, by rw [quI_k (by omega)]; exact h8, by rw [quI_k (by omega)]; exact h40, by rw [quI_k (by omega)]; exact h39, mCode_eq hc (fun j _ _ => ⟨quI_k (by omega), quI_k (by omega)⟩), hl, ?_, ?_⟩
  · have hI2 : mI (xuI Z 20 (2 * b + q) (nI (cc ++ c').length)) b Y := mI_eq hI (fun j hj => (hY.2.2.2.2.2.1 j hj).2.1) (fun k j hk => quI_k (by unfold vis at hk; omega)) (fun _ _ _ _ => rfl)
    exact hI2
  · rcases hp with ⟨rfl, rfl⟩ | ⟨rfl, rfl⟩
    · have e3 : dU (dU (dU Y 14 3 cc.length) 14 2 (cc ++ c').length) 14 (3 + 1) (cc ++ c').length 14 3 = cc.length := by rw [dU_j (by decide), dU_j (by decide), dU_s]
      have e4 : dU (dU (dU Y 14 3 cc.length) 14 2 (cc ++ c').length) 14 (3 + 1) (cc ++ c').length 14 4 = (cc ++ c').length := dU_s
      have e5 : dU (dU (dU Y 14 3 cc.length) 14 2 (cc ++ c').length) 14 (3 + 1) (cc ++ c').length 14 5 = Y 14 5 := by rw [dU_j (by decide), dU_j (by decide), dU_j (by decide)]
      have e6 : dU (dU (dU Y 14 3 cc.length) 14 2 (cc ++ c').length) 14 (3 + 1) (cc ++ c').length 14 6 = Y 14 6 := by rw [dU_j (by decide), dU_j (by decide), dU_j (by decide)]
      unfold mRl
      rw [e3, e4, e5, e6]
      refine ⟨fun _ => ⟨by rw [quI_k (by omega)]; exact k19, quI_e⟩, fun hh => absurd len hh, fun hh => ⟨?_, ?_⟩, fun hh => ?_⟩
      · rw [quI_k (by omega), k19' _ (by omega)]; exact (r3 hh).1
      · rw [quI_k (by omega), k20']; exact (r3 hh).2
      · rw [quI_k (by omega), k19' _ (by omega)]; exact r4 hh
    · have e3 : dU (dU (dU Y 14 5 cc.length) 14 2 (cc ++ c').length) 14 (5 + 1) (cc ++ c').length 14 5 = cc.length := by rw [dU_j (by decide), dU_j (by decide), dU_s]
      have e4 : dU (dU (dU Y 14 5 cc.length) 14 2 (cc ++ c').length) 14 (5 + 1) (cc ++ c').length 14 6 = (cc ++ c').length := dU_s
      have e5 : dU (dU (dU Y 14 5 cc.length) 14 2 (cc ++ c').length) 14 (5 + 1) (cc ++ c').length 14 3 = Y 14 3 := by rw [dU_j (by decide), dU_j (by decide), dU_j (by decide)]
      have e6 : dU (dU (dU Y 14 5 cc.length) 14 2 (cc ++ c').length) 14 (5 + 1) (cc ++ c').length 14 4 = Y 14 4 := by rw [dU_j (by decide), dU_j (by decide), dU_j (by decide)]
      unfold mRl
      rw [e3, e4, e5, e6]
      refine ⟨fun hh => ⟨?_, ?_⟩, fun hh => ?_, fun _ => ⟨by rw [quI_k (by omega)]; exact k19, quI_e⟩, fun hh => absurd len hh⟩
      · rw [quI_k (by omega), k19' _ (by omega)]; exact (r1 hh).1
      · rw [quI_k (by omega), k20']; exact (r1 hh).2
      · rw [quI_k (by omega), k19' _ (by omega)]; exact r2 hh
end Q9zh

