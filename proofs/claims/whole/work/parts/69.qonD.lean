/-! ===== on: class and reference together ===== -/
def onOK (Y G : Nat → Nat → Nat) (L : Nat) : Prop := L = 4 + 3 * Y 2 1 + Y 2 1 * Y 2 2 + 3 * Y 2 3 + 1 ∧ s_smL (G 0) (L - 1) 0 157 = G 0 (L - 1) ∧ s_two G 0 ≤ 999 ∧ s_two G 2 ≤ 9999 ∧ (∀ x, x < Y 2 1 → tOK G x) ∧ (∀ h, h < Y 2 2 → ∀ x, x < Y 2 1 → G 0 (4 + 3 * Y 2 1 + Y 2 1 * h + x) ≤ 9) ∧ (∀ x, x < Y 2 3 → jOK Y G (4 + 3 * Y 2 1 + Y 2 1 * Y 2 2) x)
/-- what an image tells of a yard -/
def onU (Y G U : Nat → Nat → Nat) : Prop := U 0 0 = s_two G 0 ∧ U 0 1 = s_two G 2 ∧ U 0 2 = s_btL (fun x => G 0 (4 + 3 * x + 1)) (Y 2 1) 0 0 ∧ U 0 3 = s_btL (fun x => G 0 (4 + 3 * x + 2)) (Y 2 1) 0 0 ∧ U 0 4 = 0 ∧ (∀ j, j < Y 2 1 → U 1 j = G 0 (4 + 3 * j)) ∧ (∀ h x, h < Y 2 2 → x < Y 2 1 → U 2 (8 * h + x) = G 0 (4 + 3 * Y 2 1 + Y 2 1 * h + x)) ∧ (∀ j, j < Y 2 3 → U 3 j = G 0 (4 + 3 * Y 2 1 + Y 2 1 * Y 2 2 + 3 * j) ∧ U 4 j = s_two G (4 + 3 * Y 2 1 + Y 2 1 * Y 2 2 + 3 * j + 1))
def onB (U : Nat → Nat → Nat) : Prop := (∀ t, U 1 t ≤ 100) ∧ (∀ i, U 2 i ≤ 9) ∧ (∀ j, U 4 j ≤ 999) ∧ (∀ c j, 1 ≤ c → c ≤ 4 → U c j < 2 ^ 31) ∧ ∀ c j, 1 ≤ c → c ≤ 4 → ¬ j < yl c → U c j = 0
def onE (D U : Nat → Nat → Nat) : Nat → Nat → Nat := fun c j => if c = 0 then (if j < 5 then U 0 j else 0) else if c ≤ 4 then U c j else if c = 6 then D 6 j else 0
section Q69
variable {S T Z V : xSt} {b n a s : Nat} {Y D E U : Nat → Nat → Nat} {mc wc : List (Nat × Nat)} {R row : Nat → Nat} {P : Nat → Nat → Nat → Nat} {G G' : Nat → Nat → Nat}
theorem nI_self (x : Int32) : nI x.toBitVec.toNat = x := by
  apply Int32.toBitVec_inj.mp
  rw [nI_bv]
  simp
theorem gC_T (hb : b < 2) (hf : frO S Z) (hU : onB U) (hu : ∀ c j, 1 ≤ c → c ≤ 4 → Z.1 (171 + c) j = nI (U c j)) (h : gC S b Y mc wc D P G) : gC Z b Y mc wc D P G := by
  obtain ⟨h1, ⟨h2a, h2b, h2c⟩, h3, ⟨Y', h4a, h4b, h4c⟩, ⟨c0, h5a, h5b, h5c, h5d⟩, ⟨h6a, h6b, h6c, h6d, h6e, h6f, h6g⟩, ⟨h7a, h7b, h7c⟩, ⟨⟨od, h8a, h8b⟩, ⟨md, h8c, h8d⟩⟩, ⟨h9a, h9b, h9c, ⟨T, h9d, h9e⟩, h9f⟩, h10⟩ := h
  obtain ⟨u1, u2, u4, u5, u6⟩ := hU
  have h2 := hf.2
  have e : ∀ k, k ≤ 168 → Z.1 k = S.1 k := fun k a1 => funext fun j => hf.1 k j (by omega)
  have e2 : ∀ k, k = 170 ∨ k = 176 ∨ k = 177 → Z.1 k = S.1 k := fun k a1 => funext fun j => hf.1 k j (by omega)
  have ey : ∀ b' c, b' < 2 → c ≤ 16 → Z.1 (yc b' c) = S.1 (yc b' c) := fun b' c a1 a2 => e _ (by unfold yc; omega)
  have ed : ∀ w c, w < 2 → c ≤ 4 → Z.1 (yd w c) = S.1 (yd w c) := fun w c a1 a2 => e _ (by unfold yd; omega)
  have es : ∀ i c, i < 20 → c ≤ 4 → Z.1 (sv i c) = S.1 (sv i c) := fun i c a1 a2 => e _ (by unfold sv; omega)
  obtain ⟨d1, d2, d3⟩ := h3
  refine ⟨cY_frO hb hf h1, ⟨by rw [h2]; exact h2a, by rw [h2]; exact h2b, by rw [h2]; exact h2c⟩, ⟨fun j hj => by rw [ed 0 0 (by decide) (by decide)]; exact d1 j hj, fun c j hc hc2 => by rw [ed 0 c (by decide) hc2]; exact d2 c j hc hc2, fun h0 => ⟨by rw [ed 0 0 (by decide) (by decide)]; exact (d3 h0).1, fun k => by rw [e 43 (by decide)]; exact (d3 h0).2 k⟩⟩, ⟨Y', h4a, fun c j hc => by rw [ey _ c (by omega) (by omega)]; exact h4b c j hc, fun j => by rw [ey _ 14 (by omega) (by decide)]; exact h4c j⟩, ⟨c0, h5a, by rw [e 41 (by decide)]; exact h5b, by rw [e 41 (by decide)]; exact h5c, fun i hi => ?_⟩, ⟨fun i => by rw [e 1 (by decide)]; exact h6a i, by rw [e 0 (by decide)]; exact h6b, by rw [e 0 (by decide)]; exact h6c, by rw [e 0 (by decide)]; exact h6d, by rw [hf.1 169 1 (by omega)]; exact h6e, by rw [e 160 (by decide)]; exact h6f, by rw [e 160 (by decide)]; exact h6g⟩, ⟨fun i hi => by rw [e2 177 (by omega)]; exact h7a i hi, fun i hi => by rw [e2 176 (by omega)]; exact h7b i hi, fun i hi => by rw [e2 170 (by omega)]; exact h7c i hi⟩, ⟨⟨od, by rw [e 148 (by decide)]; exact h8a, by rw [e 148 (by decide), e 155 (by decide)]; exact h8b⟩, ⟨md, by rw [e 148 (by decide)]; exact h8c, by rw [e 148 (by decide)]; exact h8d⟩⟩, ⟨fun c j hc hc2 hj => ?_, fun c j hc hc2 hj => ?_, fun i hi c j hc hc2 hj => ?_, ⟨fun c j => if 1 ≤ c ∧ c ≤ 4 then U c j else 0, fun c j hc hc2 => ?_, fun t => u1 t, fun i => u2 i, fun j => u4 j, fun c j => ?_⟩, fun w hw => ?_⟩, fun k hk => by rw [e 161 (by decide)]; exact h10 k hk⟩
  · obtain ⟨s1, s2⟩ := h5d i hi
    have hlt : (c0 + i) % 20 < 20 := Nat.mod_lt _ (by decide)
    exact ⟨fun j hj => by rw [es _ 0 hlt (by decide)]; exact s1 j hj, fun c j hc hc2 => by rw [es _ c hlt hc2]; exact s2 c j hc hc2⟩
  · have := ed 1 c (by decide) hc2; rw [yd_c] at this; rw [this]; exact h9a c j hc hc2 hj
  · rw [hu c j hc hc2, u6 c j hc hc2 hj]
  · have := es i c hi hc2; rw [sv_c] at this; rw [this]; exact h9c i hi c j hc hc2 hj
  · rw [hu c j hc hc2]; simp only [if_pos (And.intro hc hc2)]
  · show (if 1 ≤ c ∧ c ≤ 4 then U c j else 0) < _
    split
    · rename_i hc; exact u5 c j hc.1 hc.2
    · decide
  · obtain ⟨u, u', a1, a2, a3, a4⟩ := h9f w hw
    have : Z.1 (sh w 0) = S.1 (sh w 0) := e _ (by unfold sh; omega)
    exact ⟨u, u', a1, a2, by rw [this]; exact a3, by rw [this]; exact a4⟩
theorem c_read (hb : b < 2) (hn : 2000 ≤ n) (h : gC S b Y mc wc D P G) (hI : gI Y mc wc D P G) {L : Nat} (hL : L ≤ 1600) : ∃ Z v, fX4_read n 169 (yc b 0) 1 (nI L) S = some (nI v, Z) ∧ v ≤ 1 ∧ (v = 1 ↔ onOK Y G L) ∧ gC Z b Y mc wc D P G ∧ (v = 1 → ∃ U, onB U ∧ onU Y G U ∧ (∀ j, j < 5 → Z.1 171 j = nI (U 0 j)) ∧ ∀ c j, 1 ≤ c → c ≤ 4 → Z.1 (171 + c) j = nI (U c j)) := by
  have h8 : Y 2 1 ≤ 8 := hI.1.1.2.1
  have h62 : Y 2 2 ≤ 6 := hI.1.1.2.2.1
  have h6 : Y 2 3 ≤ 6 := hI.1.1.2.2.2
  have hG := hI.2.2.2.2.2.2.1.2.2.1
  have hYB := yrOk_B hI.1
  have hm48 : Y 2 1 * Y 2 2 ≤ 8 * 6 := Nat.mul_le_mul h8 h62
  have n1 := c_count (s := 1) hb h.1 (by decide)
  have n2 := c_count (s := 2) hb h.1 (by decide)
  have n3 := c_count (s := 3) hb h.1 (by decide)
  have esz : fX4_sizeOf (yc b 0) S = some (nI (4 + 3 * Y 2 1 + Y 2 1 * Y 2 2 + 3 * Y 2 3 + 1)) := by
    simp (disch := (first | assumption | omega | exact hB _ _ | exact hYB _ _ | (simp only [yc, yd, sh, sv, ne_eq]; omega) | (simp (disch := omega) only [↓nm_1, ↓nm_2, nI_add, pk_mul, pk_sub, Nat.add_sub_cancel, qm1_add, qm2_add, nI_clamp, ni_0, ni_1, ni_2, ni_3, ni_4, n1, n2, n3, Nat.mul_comm (Y 2 2) (Y 2 1)]; refine qin_nI ?_ ?_ <;> first | omega | exact hB _ _ | exact hYB _ _) | (refine qin_nI ?_ ?_ <;> omega) | fail)) only [↓kc0_gd, ↓kc0_gI, ↓kc0_gM, ↓kc0_pI, ↓kc0_pM, ↓kc0_pZ, ↓kc0_gF0, ↓kc0_gF4, ↓kc0_gF5, ↓kc0_gF6, ↓kc0_gF7, ↓kc0_gF8, ↓kc0_gF9, ↓kc0_gF10, ↓kc0_gF11, ↓kc0_gF12, ↓kc0_gF14, ↓kc1_al, ↓kc1_as, ↓kc1_ln, ↓kc41_gd, ↓kc41_gI, ↓kc41_gM, ↓kc41_pI, ↓kc41_pM, ↓kc41_pZ, ↓kc41_gF0, ↓kc41_gF1, ↓kc42_ql, ↓kc43_al, ↓kc43_as, ↓kc43_ln, ↓kc148_gd, ↓kc148_gI, ↓kc148_gM, ↓kc148_pI, ↓kc148_pM, ↓kc148_pZ, ↓kc148_gF0, ↓kc148_gF1, ↓kc148_gF2, ↓kc148_gF4, ↓kc148_gF5, ↓kc154_al, ↓kc154_as, ↓kc154_ln, ↓kc155_al, ↓kc155_as, ↓kc155_ln, ↓kc160_gd, ↓kc160_gI, ↓kc160_gM, ↓kc160_pI, ↓kc160_pM, ↓kc160_pZ, ↓kc160_gF0, ↓kc160_gF1, ↓kc161_al, ↓kc161_as, ↓kc161_ln, ↓kc162_gd, ↓kc162_gI, ↓kc162_gM, ↓kc162_pI, ↓kc162_pM, ↓kc162_pZ, ↓kc162_gF0, ↓kc162_gF1, ↓kc163_gd, ↓kc163_gI, ↓kc163_gM, ↓kc163_pI, ↓kc163_pM, ↓kc163_pZ, ↓kc163_gF0, ↓kc164_gd, ↓kc164_gI, ↓kc164_gM, ↓kc164_pI, ↓kc164_pM, ↓kc164_pZ, ↓kc164_gF0, ↓kc164_gF1, ↓kc164_gF2, ↓kc164_gF3, ↓kc165_al, ↓kc165_as, ↓kc165_ln, ↓kc166_al, ↓kc166_as, ↓kc166_ln, ↓kc167_al, ↓kc167_as, ↓kc167_ln, ↓kc168_al, ↓kc168_as, ↓kc168_ln, ↓kc169_gd, ↓kc169_gI, ↓kc169_gM, ↓kc169_pI, ↓kc169_pM, ↓kc169_pZ, ↓kc169_gF0, ↓kc169_gF2, ↓kc170_al, ↓kc170_as, ↓kc170_ln, ↓kc171_gd, ↓kc171_gI, ↓kc171_gM, ↓kc171_pI, ↓kc171_pM, ↓kc171_pZ, ↓kc171_gF5, ↓kc171_gF6, ↓kc171_gF7, ↓kc171_gF8, ↓kc172_al, ↓kc172_as, ↓kc172_ln, ↓kc173_al, ↓kc173_as, ↓kc173_ln, ↓kc174_al, ↓kc174_as, ↓kc174_ln, ↓kc175_al, ↓kc175_as, ↓kc175_ln, ↓kc176_al, ↓kc176_as, ↓kc176_ln, ↓kc177_al, ↓kc177_as, ↓kc177_ln, ↓qb_so, ↓nm_1, ↓nm_2, ↓reduceIte, if_true, if_false, not_true_eq_false, not_false_eq_true, and_true, true_and, and_false, false_and, or_true, true_or, or_false, false_or, eq_self, ne_eq, quI_s, quI_n, quI2, quL1, quL2, quL3, quR1, quR2, quR3, nI_add, pk_mul, pk_sub, Nat.add_sub_cancel, qm1_add, qm2_add, nI_leI, nI_ltI, nI_eq, nI_m1, nI_m1', nI_clamp, nI_bit, nI_one_shl, nI_m1l, nI_m1lt, nI_m1lt', nI_m1le', oI_some, oI_none, ni_0, ni_1, ni_2, ni_3, ni_4, fX4_sizeOf, qle_t, qle_f, qlt_t, qlt_f, qeq_t, qeq_f, n1, n2, n3, Nat.mul_comm (Y 2 2) (Y 2 1)]
  by_cases hs : L = 4 + 3 * Y 2 1 + Y 2 1 * Y 2 2 + 3 * Y 2 3 + 1
  · have hl95 : L ≤ 95 := by omega
    have t := h.2.2.2.2.2.1.1
    obtain ⟨sm, smb⟩ := c_smL (n := n) (S := S) (f := G 0) (a := 1) (N := L - 1) (len := 1600) rfl rfl (by omega) (by decide) (fun i _ => t i) hG (L - 1) 0 n 157 (by omega) (by omega) (by decide)
    have g1 := hG (L - 1)
    by_cases hsum : s_smL (G 0) (L - 1) 0 157 = G 0 (L - 1)
    · obtain ⟨T, td, t1, t2, t4, tb⟩ := h.2.2.2.2.2.2.2.2.1.2.2.2.1
      have cz := h.2.2.2.2.2.2.2.2.1.2.1
      let S12 : xSt := xuI (xuI (xuI (xuI (xuI S 169 3 (nI 0)) 169 4 (nI 1)) 171 4 (nI 0)) 171 2 (nI 0)) 171 3 (nI 0)
      let U0 : Nat → Nat → Nat := fun c j => if c = 0 then (if j = 2 ∨ j = 3 ∨ j = 4 then 0 else (S.1 171 j).toBitVec.toNat) else T c j
      have f0 : frO S S12 := ⟨fun k j hk => by rw [quI_n (by omega), quI_n (by omega), quI_n (by omega), quI_k (by omega), quI_k (by omega)], rfl⟩
      have r0 : rdC S12 G 0 1 U0 := by
        refine ⟨?_, ?_, by decide, fun i => ?_, fun j hj => ?_, fun c j hc hc2 => ?_⟩
        · rw [quI_n (by decide), quI_n (by decide), quI_n (by decide), quI_k (by decide), quI_e]
        · rw [quI_n (by decide), quI_n (by decide), quI_n (by decide), quI_e]
        · rw [f0.1 1 i (by omega)]; exact t i
        · rcases (by omega : j = 0 ∨ j = 1 ∨ j = 2 ∨ j = 3 ∨ j = 4) with rfl | rfl | rfl | rfl | rfl
          · rw [quI_k (by decide), quI_k (by decide), quI_k (by decide), quI_n (by decide), quI_n (by decide)]; exact (nI_self _).symm
          · rw [quI_k (by decide), quI_k (by decide), quI_k (by decide), quI_n (by decide), quI_n (by decide)]; exact (nI_self _).symm
          · rw [quI_k (by decide), quI_e]; rfl
          · rw [quI_e]; rfl
          · rw [quI_k (by decide), quI_k (by decide), quI_e]; rfl
        · rw [quI_n (by omega), quI_n (by omega), quI_n (by omega), quI_n (by omega), quI_n (by omega), td c j hc hc2]
          show nI (T c j) = nI (if c = 0 then _ else T c j)
          rw [if_neg (by omega)]
      obtain ⟨Z1, s1, e1, r1, f1, q1⟩ := c_tk2 r0 hG (by decide) (m := 999) (by decide)
      have r1' := rd_up r1 (c := 0) (j := 0) (x := s_mn 999 (s_two G 0)) (by decide)
      obtain ⟨Z2, s2, e2, r2, f2, q2⟩ := c_tk2 r1' hG (by decide) (m := 9999) (by decide)
      have r2' := rd_up r2 (c := 0) (j := 1) (x := s_mn 9999 (s_two G 2)) (by decide)
      have fA : frO S (xuI Z2 (171 + 0) 1 (nI (s_mn 9999 (s_two G 2)))) := frO_trans f0 (frO_trans f1 (frO_trans (frO_up (by decide)) (frO_trans f2 (frO_up (by decide)))))
      obtain ⟨Z3, s3, U3, e3, r3, f3, q3, a2, a3, a1, ao⟩ := c_rdT (n := n) (Y := Y) (mc := mc) (wc := wc) hb hG h8 (Y 2 1) 0 n s2 _ _ (by omega) (by omega) (show rdC _ G (4 + 3 * 0) s2 _ from r2') (cY_frO hb fA h.1) (by rw [dU_j (by decide), dU_j (by decide)]; exact Nat.two_pow_pos 0) (by rw [dU_j (by decide), dU_j (by decide)]; exact Nat.two_pow_pos 0)
      have fB := frO_trans fA f3
      obtain ⟨Z4, s4, U4, e4, r4, f4, q4, b2, bo⟩ := c_rdH (n := n) (Y := Y) (mc := mc) (wc := wc) hb hG h8 h62 hn (Y 2 2) 0 n s3 Z3 U3 (by omega) (by omega) (by rw [Nat.mul_zero, Nat.add_zero]; exact r3) (cY_frO hb fB h.1)
      have fC := frO_trans fB f4
      obtain ⟨Z5, s5, U5, e5, r5, f5, q5, c3, c4, co⟩ := c_rdJ (n := n) (Y := Y) (mc := mc) (wc := wc) (A := 4 + 3 * Y 2 1 + Y 2 1 * Y 2 2) hb hG h6 hYB (by omega) (Y 2 3) 0 n s4 Z4 U4 (by omega) (by omega) (by rw [Nat.mul_zero, Nat.add_zero]; exact r4) (cY_frO hb fC h.1)
      have fD := frO_trans fC f5
      have hiff : s5 = 1 ↔ onOK Y G L := by
        rw [q5, q4, q3, q2, q1]
        unfold onOK
        constructor
        · rintro ⟨⟨⟨⟨⟨_, x1⟩, x2⟩, x3⟩, x4⟩, x5⟩
          exact ⟨hs, hsum, x1, x2, fun x hx => x3 x (Nat.zero_le _) hx, fun g hg => x4 g (Nat.zero_le _) hg, fun x hx => x5 x (Nat.zero_le _) hx⟩
        · rintro ⟨_, _, x1, x2, x3, x4, x5⟩
          exact ⟨⟨⟨⟨⟨rfl, x1⟩, x2⟩, fun x _ hx => x3 x hx⟩, fun g _ hg => x4 g hg⟩, fun x _ hx => x5 x hx⟩
      have k1 : ∀ j, U5 1 j = if 0 ≤ j ∧ j < Y 2 1 then s_mn 100 (G 0 (4 + 3 * j)) else T 1 j := fun j => by rw [co 1 j (by decide) (by decide), bo 1 j (by decide), a1 j, dU_c (by decide), dU_c (by decide)]; rfl
      have k2 : ∀ i, U5 2 i = if 0 ≤ i / 8 ∧ i / 8 < Y 2 2 ∧ i % 8 < Y 2 1 then s_mn 9 (G 0 (4 + 3 * Y 2 1 + Y 2 1 * (i / 8) + i % 8)) else T 2 i := fun i => by rw [co 2 i (by decide) (by decide), b2 i, ao 2 i (by decide) (by omega), dU_c (by decide), dU_c (by decide)]; rfl
      have k3 : ∀ j, U5 3 j = if 0 ≤ j ∧ j < Y 2 3 then s_mn (Y 9 j) (G 0 (4 + 3 * Y 2 1 + Y 2 1 * Y 2 2 + 3 * j)) else T 3 j := fun j => by rw [c3 j, bo 3 j (by decide), ao 3 j (by decide) (by omega), dU_c (by decide), dU_c (by decide)]; rfl
      have k4 : ∀ j, U5 4 j = if 0 ≤ j ∧ j < Y 2 3 then s_mn 999 (s_two G (4 + 3 * Y 2 1 + Y 2 1 * Y 2 2 + 3 * j + 1)) else T 4 j := fun j => by rw [c4 j, bo 4 j (by decide), ao 4 j (by decide) (by omega), dU_c (by decide), dU_c (by decide)]; rfl
      have zT : ∀ c j, 1 ≤ c → c ≤ 4 → ¬ j < yl c → T c j = 0 := by
        intro c j hc hc2 hj
        have x1 := td c j hc hc2
        rw [cz c j hc hc2 hj] at x1
        exact ((nI_eq (by decide) (tb c j)).mp x1).symm
      have hB : onB U5 := by
        refine ⟨fun j => ?_, fun i => ?_, fun j => ?_, fun c j hc hc2 => ?_, fun c j hc hc2 hj => ?_⟩
        · rw [k1]; split
          · exact s_mn_le
          · exact t1 j
        · rw [k2]; split
          · exact s_mn_le
          · exact t2 i
        · rw [k4]; split
          · exact s_mn_le
          · exact t4 j
        · rcases (by omega : c = 1 ∨ c = 2 ∨ c = 3 ∨ c = 4) with rfl | rfl | rfl | rfl
          · rw [k1]; split
            · exact Nat.lt_of_le_of_lt s_mn_le (by decide)
            · exact tb 1 j
          · rw [k2]; split
            · exact Nat.lt_of_le_of_lt s_mn_le (by decide)
            · exact tb 2 j
          · rw [k3]; split
            · exact Nat.lt_of_le_of_lt s_mn_le (hYB 9 j)
            · exact tb 3 j
          · rw [k4]; split
            · exact Nat.lt_of_le_of_lt s_mn_le (by decide)
            · exact tb 4 j
        · rcases (by omega : c = 1 ∨ c = 2 ∨ c = 3 ∨ c = 4) with rfl | rfl | rfl | rfl
          · rw [k1, if_neg (by unfold yl at hj; simp at hj; omega)]; exact zT 1 j (by decide) (by decide) hj
          · rw [k2, if_neg (by unfold yl at hj; simp at hj; omega)]; exact zT 2 j (by decide) (by decide) hj
          · rw [k3, if_neg (by unfold yl at hj; simp at hj; omega)]; exact zT 3 j (by decide) (by decide) hj
          · rw [k4, if_neg (by unfold yl at hj; simp at hj; omega)]; exact zT 4 j (by decide) (by decide) hj
      refine ⟨Z5, s5, ?_, r5.2.2.1, hiff, gC_T hb fD hB r5.2.2.2.2.2 h, fun hv => ⟨U5, hB, ?_, r5.2.2.2.2.1, r5.2.2.2.2.2⟩⟩
      · have e1' : fX4_takeTwo 169 1 (nI 999) (xuI (xuI (xuI (xuI (xuI S 169 3 (nI 0)) 169 4 (nI 1)) 171 4 (nI 0)) 171 2 (nI 0)) 171 3 (nI 0)) = some (nI (s_mn 999 (s_two G 0)), Z1) := e1
        have z54 := r5.2.1
        have s51 := r5.2.2.1
        have fin : (s5 = 0 ∨ s5 = 1) = True := eq_true (by omega)
        unfold fX4_read
        rw [kc169_gd, esz]
        show (if nI L = nI (4 + 3 * Y 2 1 + Y 2 1 * Y 2 2 + 3 * Y 2 3 + 1) then _ else _) = _
        rw [if_pos (by rw [hs])]
        simp (disch := (first | assumption | omega | exact hB _ _ | exact hYB _ _ | (simp only [yc, yd, sh, sv, ne_eq]; omega) | (simp (disch := omega) only [↓nm_1, ↓nm_2, nI_add, pk_mul, pk_sub, Nat.add_sub_cancel, qm1_add, qm2_add, nI_clamp, ni_0, ni_1, ni_157, ni_999, ni_9999, sm, t, hsum, e1', e2, e3, e4, e5, z54, fin, pZ169]; refine qin_nI ?_ ?_ <;> first | omega | exact hB _ _ | exact hYB _ _) | (refine qin_nI ?_ ?_ <;> omega) | fail)) only [↓kc0_gd, ↓kc0_gI, ↓kc0_gM, ↓kc0_pI, ↓kc0_pM, ↓kc0_pZ, ↓kc0_gF0, ↓kc0_gF4, ↓kc0_gF5, ↓kc0_gF6, ↓kc0_gF7, ↓kc0_gF8, ↓kc0_gF9, ↓kc0_gF10, ↓kc0_gF11, ↓kc0_gF12, ↓kc0_gF14, ↓kc1_al, ↓kc1_as, ↓kc1_ln, ↓kc41_gd, ↓kc41_gI, ↓kc41_gM, ↓kc41_pI, ↓kc41_pM, ↓kc41_pZ, ↓kc41_gF0, ↓kc41_gF1, ↓kc42_ql, ↓kc43_al, ↓kc43_as, ↓kc43_ln, ↓kc148_gd, ↓kc148_gI, ↓kc148_gM, ↓kc148_pI, ↓kc148_pM, ↓kc148_pZ, ↓kc148_gF0, ↓kc148_gF1, ↓kc148_gF2, ↓kc148_gF4, ↓kc148_gF5, ↓kc154_al, ↓kc154_as, ↓kc154_ln, ↓kc155_al, ↓kc155_as, ↓kc155_ln, ↓kc160_gd, ↓kc160_gI, ↓kc160_gM, ↓kc160_pI, ↓kc160_pM, ↓kc160_pZ, ↓kc160_gF0, ↓kc160_gF1, ↓kc161_al, ↓kc161_as, ↓kc161_ln, ↓kc162_gd, ↓kc162_gI, ↓kc162_gM, ↓kc162_pI, ↓kc162_pM, ↓kc162_pZ, ↓kc162_gF0, ↓kc162_gF1, ↓kc163_gd, ↓kc163_gI, ↓kc163_gM, ↓kc163_pI, ↓kc163_pM, ↓kc163_pZ, ↓kc163_gF0, ↓kc164_gd, ↓kc164_gI, ↓kc164_gM, ↓kc164_pI, ↓kc164_pM, ↓kc164_pZ, ↓kc164_gF0, ↓kc164_gF1, ↓kc164_gF2, ↓kc164_gF3, ↓kc165_al, ↓kc165_as, ↓kc165_ln, ↓kc166_al, ↓kc166_as, ↓kc166_ln, ↓kc167_al, ↓kc167_as, ↓kc167_ln, ↓kc168_al, ↓kc168_as, ↓kc168_ln, ↓kc169_gd, ↓kc169_gI, ↓kc169_gM, ↓kc169_pI, ↓kc169_pM, ↓kc169_pZ, ↓kc169_gF0, ↓kc169_gF2, ↓kc170_al, ↓kc170_as, ↓kc170_ln, ↓kc171_gd, ↓kc171_gI, ↓kc171_gM, ↓kc171_pI, ↓kc171_pM, ↓kc171_pZ, ↓kc171_gF5, ↓kc171_gF6, ↓kc171_gF7, ↓kc171_gF8, ↓kc172_al, ↓kc172_as, ↓kc172_ln, ↓kc173_al, ↓kc173_as, ↓kc173_ln, ↓kc174_al, ↓kc174_as, ↓kc174_ln, ↓kc175_al, ↓kc175_as, ↓kc175_ln, ↓kc176_al, ↓kc176_as, ↓kc176_ln, ↓kc177_al, ↓kc177_as, ↓kc177_ln, ↓qb_so, ↓nm_1, ↓nm_2, ↓reduceIte, if_true, if_false, not_true_eq_false, not_false_eq_true, and_true, true_and, and_false, false_and, or_true, true_or, or_false, false_or, eq_self, ne_eq, quI_s, quI_n, quI2, quL1, quL2, quL3, quR1, quR2, quR3, nI_add, pk_mul, pk_sub, Nat.add_sub_cancel, qm1_add, qm2_add, nI_leI, nI_ltI, nI_eq, nI_m1, nI_m1', nI_clamp, nI_bit, nI_one_shl, nI_m1l, nI_m1lt, nI_m1lt', nI_m1le', oI_some, oI_none, ni_0, ni_1, ni_157, ni_999, ni_9999, fX4_read, fX4_sumOf, qle_t, qle_f, qlt_t, qlt_f, qeq_t, qeq_f, sm, t, hsum, e1', e2, e3, e4, e5, z54, fin, pZ169]
      · obtain ⟨_, _, o1, o2, o3, o4, o5⟩ := hiff.mp hv
        refine ⟨?_, ?_, ?_, ?_, ?_, fun j hj => ?_, fun g x hg hx => ?_, fun j hj => ⟨?_, ?_⟩⟩
        · rw [co 0 0 (by decide) (by decide), bo 0 0 (by decide), ao 0 0 (by decide) (by omega), dU_j (by decide), dU_s, s_mn_eq o1]
        · rw [co 0 1 (by decide) (by decide), bo 0 1 (by decide), ao 0 1 (by decide) (by omega), dU_s, s_mn_eq o2]
        · rw [co 0 2 (by decide) (by decide), bo 0 2 (by decide), a2, dU_j (by decide), dU_j (by decide)]; rfl
        · rw [co 0 3 (by decide) (by decide), bo 0 3 (by decide), a3, dU_j (by decide), dU_j (by decide)]; rfl
        · rw [co 0 4 (by decide) (by decide), bo 0 4 (by decide), ao 0 4 (by decide) (by omega), dU_j (by decide), dU_j (by decide)]; rfl
        · rw [k1, if_pos ⟨Nat.zero_le _, hj⟩, s_mn_eq (o3 j hj).1]
        · rw [k2, show (8 * g + x) / 8 = g by omega, show (8 * g + x) % 8 = x by omega, if_pos ⟨Nat.zero_le _, hg, hx⟩, s_mn_eq (o4 g hg x hx)]
        · rw [k3, if_pos ⟨Nat.zero_le _, hj⟩, s_mn_eq (o5 j hj).1]
        · rw [k4, if_pos ⟨Nat.zero_le _, hj⟩, s_mn_eq (o5 j hj).2]
    · refine ⟨S, 0, ?_, by decide, by constructor; (intro hh; cases hh); (intro hh; exact absurd hh.2.1 hsum), h, fun hh => by cases hh⟩
      unfold fX4_read
      rw [kc169_gd, esz]
      show (if nI L = nI (4 + 3 * Y 2 1 + Y 2 1 * Y 2 2 + 3 * Y 2 3 + 1) then _ else _) = _
      rw [if_pos (by rw [hs])]
      simp (disch := (first | assumption | omega | exact hB _ _ | exact hYB _ _ | (simp only [yc, yd, sh, sv, ne_eq]; omega) | (simp (disch := omega) only [↓nm_1, ↓nm_2, nI_add, pk_mul, pk_sub, Nat.add_sub_cancel, qm1_add, qm2_add, nI_clamp, ni_0, ni_1, ni_157, ni_999, ni_9999, sm, t, hsum]; refine qin_nI ?_ ?_ <;> first | omega | exact hB _ _ | exact hYB _ _) | (refine qin_nI ?_ ?_ <;> omega) | fail)) only [↓kc0_gd, ↓kc0_gI, ↓kc0_gM, ↓kc0_pI, ↓kc0_pM, ↓kc0_pZ, ↓kc0_gF0, ↓kc0_gF4, ↓kc0_gF5, ↓kc0_gF6, ↓kc0_gF7, ↓kc0_gF8, ↓kc0_gF9, ↓kc0_gF10, ↓kc0_gF11, ↓kc0_gF12, ↓kc0_gF14, ↓kc1_al, ↓kc1_as, ↓kc1_ln, ↓kc41_gd, ↓kc41_gI, ↓kc41_gM, ↓kc41_pI, ↓kc41_pM, ↓kc41_pZ, ↓kc41_gF0, ↓kc41_gF1, ↓kc42_ql, ↓kc43_al, ↓kc43_as, ↓kc43_ln, ↓kc148_gd, ↓kc148_gI, ↓kc148_gM, ↓kc148_pI, ↓kc148_pM, ↓kc148_pZ, ↓kc148_gF0, ↓kc148_gF1, ↓kc148_gF2, ↓kc148_gF4, ↓kc148_gF5, ↓kc154_al, ↓kc154_as, ↓kc154_ln, ↓kc155_al, ↓kc155_as, ↓kc155_ln, ↓kc160_gd, ↓kc160_gI, ↓kc160_gM, ↓kc160_pI, ↓kc160_pM, ↓kc160_pZ, ↓kc160_gF0, ↓kc160_gF1, ↓kc161_al, ↓kc161_as, ↓kc161_ln, ↓kc162_gd, ↓kc162_gI, ↓kc162_gM, ↓kc162_pI, ↓kc162_pM, ↓kc162_pZ, ↓kc162_gF0, ↓kc162_gF1, ↓kc163_gd, ↓kc163_gI, ↓kc163_gM, ↓kc163_pI, ↓kc163_pM, ↓kc163_pZ, ↓kc163_gF0, ↓kc164_gd, ↓kc164_gI, ↓kc164_gM, ↓kc164_pI, ↓kc164_pM, ↓kc164_pZ, ↓kc164_gF0, ↓kc164_gF1, ↓kc164_gF2, ↓kc164_gF3, ↓kc165_al, ↓kc165_as, ↓kc165_ln, ↓kc166_al, ↓kc166_as, ↓kc166_ln, ↓kc167_al, ↓kc167_as, ↓kc167_ln, ↓kc168_al, ↓kc168_as, ↓kc168_ln, ↓kc169_gd, ↓kc169_gI, ↓kc169_gM, ↓kc169_pI, ↓kc169_pM, ↓kc169_pZ, ↓kc169_gF0, ↓kc169_gF2, ↓kc170_al, ↓kc170_as, ↓kc170_ln, ↓kc171_gd, ↓kc171_gI, ↓kc171_gM, ↓kc171_pI, ↓kc171_pM, ↓kc171_pZ, ↓kc171_gF5, ↓kc171_gF6, ↓kc171_gF7, ↓kc171_gF8, ↓kc172_al, ↓kc172_as, ↓kc172_ln, ↓kc173_al, ↓kc173_as, ↓kc173_ln, ↓kc174_al, ↓kc174_as, ↓kc174_ln, ↓kc175_al, ↓kc175_as, ↓kc175_ln, ↓kc176_al, ↓kc176_as, ↓kc176_ln, ↓kc177_al, ↓kc177_as, ↓kc177_ln, ↓qb_so, ↓nm_1, ↓nm_2, ↓reduceIte, if_true, if_false, not_true_eq_false, not_false_eq_true, and_true, true_and, and_false, false_and, or_true, true_or, or_false, false_or, eq_self, ne_eq, quI_s, quI_n, quI2, quL1, quL2, quL3, quR1, quR2, quR3, nI_add, pk_mul, pk_sub, Nat.add_sub_cancel, qm1_add, qm2_add, nI_leI, nI_ltI, nI_eq, nI_m1, nI_m1', nI_clamp, nI_bit, nI_one_shl, nI_m1l, nI_m1lt, nI_m1lt', nI_m1le', oI_some, oI_none, ni_0, ni_1, ni_157, ni_999, ni_9999, fX4_read, fX4_sumOf, qle_t, qle_f, qlt_t, qlt_f, qeq_t, qeq_f, sm, t, hsum]
  · refine ⟨S, 0, ?_, by decide, by constructor; (intro hh; cases hh); (intro hh; exact absurd hh.1 hs), h, fun hh => by cases hh⟩
    unfold fX4_read
    rw [kc169_gd, esz]
    show (if nI L = nI (4 + 3 * Y 2 1 + Y 2 1 * Y 2 2 + 3 * Y 2 3 + 1) then _ else _) = _
    rw [if_neg (fun hh => hs ((nI_eq (by omega) (by omega)).mp hh))]
    rfl
end Q69

