/-! ===== undo ===== -/
def bk (D A : Nat → Nat → Nat) : Nat → Nat → Nat := fun c j => if c = 6 then D 6 j else if c = 5 then 0 else A c j
section Q53
variable {S Z V : xSt} {b n : Nat} {Y D E A : Nat → Nat → Nat} {mc wc : List (Nat × Nat)} {R row : Nat → Nat} {P P' : Nat → Nat → Nat → Nat} {G G' : Nat → Nat → Nat}
theorem bk_n {c j : Nat} (h6 : c ≠ 6) (h5 : c ≠ 5) : bk D A c j = A c j := by unfold bk; rw [if_neg h6, if_neg h5]
theorem bk_6 {j : Nat} : bk D A 6 j = D 6 j := rfl
theorem bk_ok (hB : ∀ c j, D c j < 2 ^ 31) (h : dOk Y A) : dOk Y (bk D A) := by
  obtain ⟨a0, a1, a2, a3, a4, a5, a6, a7, a8, a9, a10, a11, a12, a13, a14⟩ := h
  have hs : ∀ n, s_sum (bk D A) n = s_sum A n := by
    intro n
    induction n with
    | zero => rfl
    | succ n ih => unfold s_sum; rw [ih]; rfl
  refine ⟨a0, a1, a2, a3, a4, a5, a6, a7, by rw [hs]; exact a8, fun c j => ?_, Nat.two_pow_pos _, Nat.two_pow_pos _, Nat.zero_le _, Nat.zero_le _, a14⟩
  unfold bk
  repeat' split
  · exact hB _ _
  · decide
  · exact a9 c j
theorem gI_bk (hI : gI Y mc wc D P G) {m : Nat} (hm : G 1 6 = m + 1) : gI Y mc wc (bk D (P m)) P (dU G 1 6 m) := by
  obtain ⟨i1, i2, i3, i4, i5, i6, ⟨q1, q2, q3, q4, q5⟩, i8⟩ := hI
  have g6 : dU G 1 6 m 1 6 = m := dU_s
  refine ⟨i1, i2, bk_ok (dOk_B i3) (i5 m (by omega)), fun j => rfl, fun i hi => i5 i (by rw [g6] at hi; omega), fun i hi => ?_, ⟨by rw [g6]; omega, q2, q3, q4, q5⟩, i8⟩
  rw [g6] at hi
  have h1 := (i6 i (by omega)).2 m (by omega) (by omega)
  have h2 := (i6 m (by omega)).1
  refine ⟨⟨h1.1, fun k hk => ?_⟩, fun j hij hj => (i6 i (by omega)).2 j hij (by rw [g6] at hj; omega)⟩
  show P i 6 k = D 6 k
  rw [h1.2 k hk]
  exact h2.2 k (by have := h1.1; omega)
theorem e_undo : xEq26 gR := by
  intro S1 S2 h
  obtain ⟨b, Y, mc, wc, D, P, G, hb, hC, hM, hI⟩ := id h
  have hn : 2000 ≤ xFU := by decide
  obtain ⟨c0, hc0, h41, h43, hsv⟩ := hC.2.2.2.2.1
  obtain ⟨f0, hf0, h64, h65, hsl⟩ := hM.2.2.2.1
  have h20 := hI.2.2.2.2.2.2.1.1
  by_cases h0 : G 1 6 = 0
  · rw [h0] at h43 h65
    have ct := c_turn (i := 4) hb hC (by decide)
    obtain ⟨d1, g1⟩ := c_refuse (i := 4) hb hC (by decide)
    obtain ⟨e1, k1⟩ := m_refuse (i := 4) hI hM (by decide)
    have hq : (qm1 < nI 0) = True := by decide
    refine ⟨nI 0, _, _, ?_, ?_, b, Y, mc, wc, D, P, gRf G 4, hb, g1, k1, gI_rf hI⟩
    · have hx0 : (c0 + G 1 6) % 20 < 20 := Nat.mod_lt _ (by decide)
      have hx1 : ((c0 + G 1 6) % 20 + 20 - 1) % 20 < 20 := Nat.mod_lt _ (by decide)
      have em0 := pk_rem (a := (c0 + G 1 6) % 20 + 20 - 1) (d := 20) (by omega) (by decide) (by decide)
      simp (disch := (first | assumption | omega | exact hB _ _ | exact hYB _ _ | (simp only [yc, yd, sh, sv, ne_eq]; omega) | (simp (disch := omega) only [↓nm_1, ↓nm_2, nI_add, pk_mul, pk_sub, Nat.add_sub_cancel, qm1_add, qm2_add, nI_clamp, ni_0, ni_1, ni_4, ni_20, h41, h43, em0, ct]; refine qin_nI ?_ ?_ <;> first | omega | exact hB _ _ | exact hYB _ _) | (refine qin_nI ?_ ?_ <;> omega) | fail)) only [↓kc0_gd, ↓kc0_gI, ↓kc0_gM, ↓kc0_pI, ↓kc0_pM, ↓kc0_pZ, ↓kc0_gF0, ↓kc0_gF4, ↓kc0_gF5, ↓kc0_gF6, ↓kc0_gF7, ↓kc0_gF8, ↓kc0_gF9, ↓kc0_gF10, ↓kc0_gF11, ↓kc0_gF12, ↓kc0_gF14, ↓kc1_al, ↓kc1_as, ↓kc1_ln, ↓kc41_gd, ↓kc41_gI, ↓kc41_gM, ↓kc41_pI, ↓kc41_pM, ↓kc41_pZ, ↓kc41_gF0, ↓kc41_gF1, ↓kc42_ql, ↓kc43_al, ↓kc43_as, ↓kc43_ln, ↓kc148_gd, ↓kc148_gI, ↓kc148_gM, ↓kc148_pI, ↓kc148_pM, ↓kc148_pZ, ↓kc148_gF0, ↓kc148_gF1, ↓kc148_gF2, ↓kc148_gF4, ↓kc148_gF5, ↓kc154_al, ↓kc154_as, ↓kc154_ln, ↓kc155_al, ↓kc155_as, ↓kc155_ln, ↓kc160_gd, ↓kc160_gI, ↓kc160_gM, ↓kc160_pI, ↓kc160_pM, ↓kc160_pZ, ↓kc160_gF0, ↓kc160_gF1, ↓kc161_al, ↓kc161_as, ↓kc161_ln, ↓kc162_gd, ↓kc162_gI, ↓kc162_gM, ↓kc162_pI, ↓kc162_pM, ↓kc162_pZ, ↓kc162_gF0, ↓kc162_gF1, ↓kc163_gd, ↓kc163_gI, ↓kc163_gM, ↓kc163_pI, ↓kc163_pM, ↓kc163_pZ, ↓kc163_gF0, ↓kc164_gd, ↓kc164_gI, ↓kc164_gM, ↓kc164_pI, ↓kc164_pM, ↓kc164_pZ, ↓kc164_gF0, ↓kc164_gF1, ↓kc164_gF2, ↓kc164_gF3, ↓kc165_al, ↓kc165_as, ↓kc165_ln, ↓kc166_al, ↓kc166_as, ↓kc166_ln, ↓kc167_al, ↓kc167_as, ↓kc167_ln, ↓kc168_al, ↓kc168_as, ↓kc168_ln, ↓kc169_gd, ↓kc169_gI, ↓kc169_gM, ↓kc169_pI, ↓kc169_pM, ↓kc169_pZ, ↓kc169_gF0, ↓kc169_gF2, ↓kc170_al, ↓kc170_as, ↓kc170_ln, ↓kc171_gd, ↓kc171_gI, ↓kc171_gM, ↓kc171_pI, ↓kc171_pM, ↓kc171_pZ, ↓kc171_gF5, ↓kc171_gF6, ↓kc171_gF7, ↓kc171_gF8, ↓kc172_al, ↓kc172_as, ↓kc172_ln, ↓kc173_al, ↓kc173_as, ↓kc173_ln, ↓kc174_al, ↓kc174_as, ↓kc174_ln, ↓kc175_al, ↓kc175_as, ↓kc175_ln, ↓kc176_al, ↓kc176_as, ↓kc176_ln, ↓kc177_al, ↓kc177_as, ↓kc177_ln, ↓qb_so, ↓nm_1, ↓nm_2, ↓reduceIte, if_true, if_false, not_true_eq_false, not_false_eq_true, and_true, true_and, and_false, false_and, or_true, true_or, or_false, false_or, eq_self, ne_eq, quI_s, quI_n, quI2, quL1, quL2, quL3, quR1, quR2, quR3, nI_add, pk_mul, pk_sub, Nat.add_sub_cancel, qm1_add, qm2_add, nI_leI, nI_ltI, nI_eq, nI_m1, nI_m1', nI_clamp, nI_bit, nI_one_shl, nI_m1l, nI_m1lt, nI_m1lt', nI_m1le', oI_some, oI_none, ni_0, ni_1, ni_4, ni_20, fX11_undo, fX3_restore, fX3_saveAt, qle_t, qle_f, qlt_t, qlt_f, qeq_t, qeq_f, h41, h43, em0, ct]
    · simp (disch := (first | assumption | omega | exact hB _ _ | exact hYB _ _ | (simp only [yc, yd, sh, sv, ne_eq]; omega) | (simp (disch := omega) only [↓nm_1, ↓nm_2, nI_add, pk_mul, pk_sub, Nat.add_sub_cancel, qm1_add, qm2_add, nI_clamp, ni_0, ni_1, ni_4, h65, e1, hq]; refine qin_nI ?_ ?_ <;> first | omega | exact hB _ _ | exact hYB _ _) | (refine qin_nI ?_ ?_ <;> omega) | fail)) only [↓km0_gd, ↓km0_gI, ↓km0_gM, ↓km0_pI, ↓km0_pM, ↓km0_pZ, ↓km0_gL, ↓km0_pL, ↓qb_so, ↓nm_1, ↓nm_2, ↓reduceIte, if_true, if_false, not_true_eq_false, not_false_eq_true, and_true, true_and, and_false, false_and, or_true, true_or, or_false, false_or, eq_self, ne_eq, quI_s, quI_n, quI2, quL1, quL2, quL3, quR1, quR2, quR3, nI_add, pk_mul, pk_sub, Nat.add_sub_cancel, qm1_add, qm2_add, nI_leI, nI_ltI, nI_eq, nI_m1, nI_m1', nI_clamp, nI_bit, nI_one_shl, nI_m1l, nI_m1lt, nI_m1lt', nI_m1le', oI_some, oI_none, ni_0, ni_1, ni_4, fX12_undo, qle_t, qle_f, qlt_t, qlt_f, qeq_t, qeq_f, h65, e1, hq]
  · obtain ⟨m, hm⟩ : ∃ m, G 1 6 = m + 1 := ⟨G 1 6 - 1, by omega⟩
    rw [hm] at h41 h43 h65
    have hx : (c0 + m) % 20 < 20 := Nat.mod_lt _ (by decide)
    have hx1 : (c0 + (m + 1)) % 20 < 20 := Nat.mod_lt _ (by decide)
    have e20 : ((c0 + (m + 1)) % 20 + 20 - 1) % 20 = (c0 + m) % 20 := by omega
    have em := pk_rem (a := (c0 + (m + 1)) % 20 + 20 - 1) (d := 20) (by omega) (by decide) (by decide)
    rw [e20] at em
    obtain ⟨Z1, e1, f1, z0, zc⟩ := c_copy (S := xuI (xuI S1 41 2 (nI ((c0 + m) % 20))) 41 3 (nI m)) (isYd_yd (w := 0) (by decide)) (isYd_sv hx) (by unfold yd sv; omega)
    have hA := hsv m (by omega)
    have dA := hI.2.2.2.2.1 m (by omega)
    have ee : fX11_undo 0 S1 = some (nI 1, xuI (xuI Z1 148 7 (nI 0)) 148 11 (nI 0)) := by
      simp (disch := (first | assumption | omega | exact hB _ _ | exact hYB _ _ | (simp only [yc, yd, sh, sv, ne_eq]; omega) | (simp (disch := omega) only [↓nm_1, ↓nm_2, nI_add, pk_mul, pk_sub, Nat.add_sub_cancel, qm1_add, qm2_add, nI_clamp, ni_0, ni_1, ni_4, ni_20, h41, h43, em, e1]; refine qin_nI ?_ ?_ <;> first | omega | exact hB _ _ | exact hYB _ _) | (refine qin_nI ?_ ?_ <;> omega) | fail)) only [↓kc0_gd, ↓kc0_gI, ↓kc0_gM, ↓kc0_pI, ↓kc0_pM, ↓kc0_pZ, ↓kc0_gF0, ↓kc0_gF4, ↓kc0_gF5, ↓kc0_gF6, ↓kc0_gF7, ↓kc0_gF8, ↓kc0_gF9, ↓kc0_gF10, ↓kc0_gF11, ↓kc0_gF12, ↓kc0_gF14, ↓kc1_al, ↓kc1_as, ↓kc1_ln, ↓kc41_gd, ↓kc41_gI, ↓kc41_gM, ↓kc41_pI, ↓kc41_pM, ↓kc41_pZ, ↓kc41_gF0, ↓kc41_gF1, ↓kc42_ql, ↓kc43_al, ↓kc43_as, ↓kc43_ln, ↓kc148_gd, ↓kc148_gI, ↓kc148_gM, ↓kc148_pI, ↓kc148_pM, ↓kc148_pZ, ↓kc148_gF0, ↓kc148_gF1, ↓kc148_gF2, ↓kc148_gF4, ↓kc148_gF5, ↓kc154_al, ↓kc154_as, ↓kc154_ln, ↓kc155_al, ↓kc155_as, ↓kc155_ln, ↓kc160_gd, ↓kc160_gI, ↓kc160_gM, ↓kc160_pI, ↓kc160_pM, ↓kc160_pZ, ↓kc160_gF0, ↓kc160_gF1, ↓kc161_al, ↓kc161_as, ↓kc161_ln, ↓kc162_gd, ↓kc162_gI, ↓kc162_gM, ↓kc162_pI, ↓kc162_pM, ↓kc162_pZ, ↓kc162_gF0, ↓kc162_gF1, ↓kc163_gd, ↓kc163_gI, ↓kc163_gM, ↓kc163_pI, ↓kc163_pM, ↓kc163_pZ, ↓kc163_gF0, ↓kc164_gd, ↓kc164_gI, ↓kc164_gM, ↓kc164_pI, ↓kc164_pM, ↓kc164_pZ, ↓kc164_gF0, ↓kc164_gF1, ↓kc164_gF2, ↓kc164_gF3, ↓kc165_al, ↓kc165_as, ↓kc165_ln, ↓kc166_al, ↓kc166_as, ↓kc166_ln, ↓kc167_al, ↓kc167_as, ↓kc167_ln, ↓kc168_al, ↓kc168_as, ↓kc168_ln, ↓kc169_gd, ↓kc169_gI, ↓kc169_gM, ↓kc169_pI, ↓kc169_pM, ↓kc169_pZ, ↓kc169_gF0, ↓kc169_gF2, ↓kc170_al, ↓kc170_as, ↓kc170_ln, ↓kc171_gd, ↓kc171_gI, ↓kc171_gM, ↓kc171_pI, ↓kc171_pM, ↓kc171_pZ, ↓kc171_gF5, ↓kc171_gF6, ↓kc171_gF7, ↓kc171_gF8, ↓kc172_al, ↓kc172_as, ↓kc172_ln, ↓kc173_al, ↓kc173_as, ↓kc173_ln, ↓kc174_al, ↓kc174_as, ↓kc174_ln, ↓kc175_al, ↓kc175_as, ↓kc175_ln, ↓kc176_al, ↓kc176_as, ↓kc176_ln, ↓kc177_al, ↓kc177_as, ↓kc177_ln, ↓qb_so, ↓nm_1, ↓nm_2, ↓reduceIte, if_true, if_false, not_true_eq_false, not_false_eq_true, and_true, true_and, and_false, false_and, or_true, true_or, or_false, false_or, eq_self, ne_eq, quI_s, quI_n, quI2, quL1, quL2, quL3, quR1, quR2, quR3, nI_add, pk_mul, pk_sub, Nat.add_sub_cancel, qm1_add, qm2_add, nI_leI, nI_ltI, nI_eq, nI_m1, nI_m1', nI_clamp, nI_bit, nI_one_shl, nI_m1l, nI_m1lt, nI_m1lt', nI_m1le', oI_some, oI_none, ni_0, ni_1, ni_4, ni_20, fX11_undo, fX3_restore, fX3_saveAt, fX0_forget, qle_t, qle_f, qlt_t, qlt_f, qeq_t, qeq_f, h41, h43, em, e1]
    have k1 : ∀ k j, k ≠ 41 → Z1.1 k j = S1.1 k j ∨ (36 ≤ k ∧ k ≤ 40) := by
      intro k j hk
      by_cases hy : 36 ≤ k ∧ k ≤ 40
      · exact Or.inr hy
      · left
        rw [f1.1 k (by unfold yd; omega), quI_n hk, quI_n hk]
    have ks : ∀ i c j, i < 20 → c ≤ 4 → Z1.1 (sv i c) j = S1.1 (sv i c) j := by
      intro i c j hi hc
      rcases k1 (sv i c) j (by unfold sv; omega) with h | h
      · exact h
      · unfold sv at h; omega
    have k41 : ∀ j, Z1.1 41 j = (xuI (xuI S1 41 2 (nI ((c0 + m) % 20))) 41 3 (nI m)).1 41 j := fun j => by rw [f1.1 41 (by unfold yd; omega)]
    -- the class: first the past, then now
    have gA : gC (xuI (xuI (xuI (xuI S1 41 2 (nI ((c0 + m) % 20))) 41 3 (nI m)) 148 7 (nI 0)) 148 11 (nI 0)) b Y mc wc D P (dU G 1 6 m) := by
      refine gC_P (S := S1) hb (fun k j hk => by rw [quI_k (fun e => hk (by unfold gPk; omega)), quI_k (fun e => hk (by unfold gPk; omega)), quI_k (fun e => hk (by unfold gPk; omega)), quI_k (fun e => hk (by unfold gPk; omega))]) rfl ⟨c0, hc0, ?_, ?_, fun i hi => ?_⟩ ?_ ?_ (fun i hi c j hc hc2 hj => ?_) (fun c j hcj => ?_) hC
      · rw [quI_n (by decide), quI_n (by decide), quI_k (by omega), quI_e, dU_s]
      · rw [quI_n (by decide), quI_n (by decide), quI_e, dU_s]
      · rw [dU_s] at hi
        obtain ⟨s1, s2⟩ := hsv i (by omega)
        have hlt : (c0 + i) % 20 < 20 := Nat.mod_lt _ (by decide)
        refine ⟨fun j hj => ?_, fun c j hc hc2 => ?_⟩
        · rw [quI_n (by unfold sv; omega), quI_n (by unfold sv; omega), quI_n (by unfold sv; omega), quI_n (by unfold sv; omega)]; exact s1 j hj
        · rw [quI_n (by unfold sv; omega), quI_n (by unfold sv; omega), quI_n (by unfold sv; omega), quI_n (by unfold sv; omega)]; exact s2 c j hc hc2
      · rw [quI_k (by omega), quI_e]
      · rw [quI_e]
      · rw [quI_n (by unfold sv; omega), quI_n (by unfold sv; omega), quI_n (by unfold sv; omega), quI_n (by unfold sv; omega)]; exact hC.2.2.2.2.2.2.2.2.1.2.2.1 i hi c j hc hc2 hj
      · rcases dU_cases (D := G) (c := 1) (j := 6) (v := m) (c' := c) (j' := j) with ⟨_, a1, a2⟩ | ⟨e, _⟩
        · exact absurd ⟨a1, a2⟩ hcj
        · exact e
    have hd : cD (xuI (xuI Z1 148 7 (nI 0)) 148 11 (nI 0)) 0 (bk D (P m)) := by
      refine ⟨fun j hj => ?_, fun c j hc hc2 => ?_, fun _ => ⟨?_, fun k => ?_⟩⟩
      · rw [quI_n (by simp only [yd]; omega), quI_n (by simp only [yd]; omega), z0 j (by omega), quI_n (by simp only [sv]; omega), quI_n (by simp only [sv]; omega), bk_n (by decide) (by decide)]; exact hA.1 j (by omega)
      · rw [quI_n (by simp only [yd]; omega), quI_n (by simp only [yd]; omega), yd_c, zc c j hc hc2, bk_n (by omega) (by omega), ← sv_c, ← yd_c, quI_n (by simp only [sv]; omega), quI_n (by simp only [sv]; omega), quI_n (by simp only [yd]; omega), quI_n (by simp only [yd]; omega)]
        split
        · exact hA.2 c j hc hc2
        · rename_i hj
          rw [hC.2.2.1.2.1 c j hc hc2, yl_Z (dOk_Z hI.2.2.1) hc hc2 hj, yl_Z (dOk_Z dA) hc hc2 hj]
      · rw [quI_n (by simp only [yd]; omega), quI_n (by simp only [yd]; omega), z0 4 (by omega), quI_n (by simp only [sv]; omega), quI_n (by simp only [sv]; omega), bk_n (by decide) (by decide)]; exact hA.1 4 (by omega)
      · rw [quI_n (by decide), quI_n (by decide), bk_6]
        rcases k1 43 k (by decide) with h | h
        · rw [h]; exact (hC.2.2.1.2.2 rfl).2 k
        · omega
    have gZ : gC (xuI (xuI Z1 148 7 (nI 0)) 148 11 (nI 0)) b Y mc wc (bk D (P m)) P (dU G 1 6 m) := by
      refine gC_D hb (fun k j hk => ?_) ?_ (by rw [quI_k (by omega), quI_e]) (by rw [quI_e]) hd gA
      · by_cases h148 : k = 148
        · subst h148
          rw [quI_s, quI_s, quI_s, quI_s]
          split
          · rfl
          · split
            · rfl
            · rw [f1.1 148 (by unfold yd; omega)]
        · rw [quI_n h148, quI_n h148, quI_n h148, quI_n h148, f1.1 k (by unfold yd; omega)]
      · show Z1.2 = S1.2
        rw [f1.2]; rfl
    -- the reference
    have hy1 : (f0 + m) % 20 < 20 := Nat.mod_lt _ (by decide)
    have tm := dOk_told hI.1 dA
    have t0 := dOk_told hI.1 hI.2.2.1
    have emm := pk_rem (a := f0 + m) (d := 20) (by omega) (by decide) (by decide)
    have hs0 : mD (xuI S2 0 65 (nI m)) (2 + (f0 + m) % 20) Y (P m) := mD_fr hI.1 (mFq_upd (Q := fun k j => k = 0 ∧ j = 65) ⟨rfl, rfl⟩) (fun k j _ a2 a3 => by omega) (by omega) (hsl m (by omega))
    obtain ⟨T, t1, tf, td⟩ := m_copies (n := xFU) (to := 0) (fm := 2 + (f0 + m) % 20) hn (by decide) (by omega) (by omega) hI.1 (by omega) hs0
    have tt : fX12_undo xFU 0 S2 = some (nI 1, T) := by
      simp (disch := (first | assumption | omega | exact hB _ _ | exact hYB _ _ | (simp only [yc, yd, sh, sv, ne_eq]; omega) | (simp (disch := omega) only [↓nm_1, ↓nm_2, nI_add, pk_mul, pk_sub, Nat.add_sub_cancel, qm1_add, qm2_add, nI_clamp, ni_0, ni_1, ni_2, ni_4, ni_20, h65, h64, emm, t1]; refine qin_nI ?_ ?_ <;> first | omega | exact hB _ _ | exact hYB _ _) | (refine qin_nI ?_ ?_ <;> omega) | fail)) only [↓km0_gd, ↓km0_gI, ↓km0_gM, ↓km0_pI, ↓km0_pM, ↓km0_pZ, ↓km0_gL, ↓km0_pL, ↓qb_so, ↓nm_1, ↓nm_2, ↓reduceIte, if_true, if_false, not_true_eq_false, not_false_eq_true, and_true, true_and, and_false, false_and, or_true, true_or, or_false, false_or, eq_self, ne_eq, quI_s, quI_n, quI2, quL1, quL2, quL3, quR1, quR2, quR3, nI_add, pk_mul, pk_sub, Nat.add_sub_cancel, qm1_add, qm2_add, nI_leI, nI_ltI, nI_eq, nI_m1, nI_m1', nI_clamp, nI_bit, nI_one_shl, nI_m1l, nI_m1lt, nI_m1lt', nI_m1le', oI_some, oI_none, ni_0, ni_1, ni_2, ni_4, ni_20, fX12_undo, fX12_slot, qle_t, qle_f, qlt_t, qlt_f, qeq_t, qeq_f, h65, h64, emm, t1]
    have td' : mD T 0 Y (bk D (P m)) := by
      obtain ⟨a0, a5, a6, a7, a8, a9⟩ := td
      refine ⟨a0, a5, a6, a7, a8, fun k hk => ?_⟩
      rw [a9 k hk, bk_6]
      congr 1
      exact ((hI.2.2.2.2.2.1 m (by omega)).1).2 k hk
    have kT : gM T b Y mc wc (bk D (P m)) P (dU G 1 6 m) := by
      have ff : mFq (fun k j => pQ 0 k j ∨ (k = 0 ∧ j = 65)) S2 T := mFq_trans (mFq_upd (Or.inr ⟨rfl, rfl⟩)) (mFq_mono tf (fun k j hh => Or.inl hh))
      obtain ⟨h1, h2, h3, _, ⟨h5a, h5b, h5c, h5d, h5e, h5f, h5g⟩, ⟨h6a, h6b, h6c⟩, h7a, h7b, u, u', fr, hu, hu', h73, h74, h75⟩ := hM
      have e0 : ∀ j, j ≠ 65 → T.1 0 j = S2.1 0 j := fun j hj => ff.1 0 j (by unfold pQ; omega)
      have e : ∀ k j, 1 ≤ k → k ≤ 33 ∨ 44 ≤ k → T.1 k j = S2.1 k j := fun k j a1 a2 => ff.1 k j (by unfold pQ; omega)
      refine ⟨mY_fr ff (fun k j a1 a2 => by unfold pQ; omega) (by unfold pQ; omega) h1, fun s i hs hi => by rw [ff.2.1 _ (by omega)]; exact h2 s i hs hi, td', ⟨f0, hf0, by rw [e0 _ (by decide)]; exact h64, ?_, fun i hi => ?_⟩, ⟨fun i hi => by rw [e _ _ (by decide) (by omega)]; exact h5a i hi, by rw [e0 _ (by decide)]; exact h5b, by rw [ff.2.1 _ (by decide)]; exact h5c, by rw [e0 _ (by decide)]; exact h5d, by rw [e0 _ (by decide)]; exact h5e, by rw [e0 _ (by decide)]; exact h5f, by rw [e0 _ (by decide)]; exact h5g⟩, ⟨fun i hi => by rw [e _ _ (by decide) (by omega)]; exact h6a i hi, fun i hi => by rw [e _ _ (by decide) (by omega)]; exact h6b i hi, fun i hi => by rw [e _ _ (by decide) (by omega)]; exact h6c i hi⟩, by rw [e0 _ (by decide)]; exact h7a, by rw [e0 _ (by decide)]; exact h7b, u, u', fr, hu, hu', by rw [e0 _ (by decide)]; exact h73, by rw [e0 _ (by decide)]; exact h74, by rw [e0 _ (by decide)]; exact h75⟩
      · rw [tf.1 _ _ (by unfold pQ; omega), quI_e, dU_s]
      · rw [dU_s] at hi
        have t1 := dOk_told hI.1 (hI.2.2.2.2.1 i (by omega))
        exact mD_fr hI.1 ff (fun k j a1 a2 a3 => by unfold mQ at a1; unfold pQ; omega) (by omega) (hsl i (by omega))
    exact ⟨nI 1, _, T, ee, tt, b, Y, mc, wc, bk D (P m), P, dU G 1 6 m, hb, gZ, kT, gI_bk hI hm⟩
end Q53

