/-! ===== days ===== -/
/-- the cells that days on now may touch -/
def nP (b k : Nat) : Prop := (36 ≤ k ∧ k ≤ 40) ∨ k = 43 ∨ (144 ≤ k ∧ k ≤ 147) ∨ k = yc b 16
section Q52
variable {S Z V : xSt} {b n : Nat} {Y D E : Nat → Nat → Nat} {mc wc : List (Nat × Nat)} {R row : Nat → Nat} {P P' : Nat → Nat → Nat → Nat} {G G' : Nat → Nat → Nat}
def qNn (b : Nat) (S Z : xSt) : Prop := qFm (nP b) (fun k j => k = sh 0 0 ∧ (j = 4 ∨ j = 5)) S Z
theorem qNn_trans (h1 : qNn b S Z) (h2 : qNn b Z V) : qNn b S V := ⟨fun k hk => (h2.1 k hk).trans (h1.1 k hk), h2.2.1.trans h1.2.1, fun k j hk => (h2.2.2 k j hk).trans (h1.2.2 k j hk)⟩
theorem qNn_d (h : qFr (dP b 0) S Z) : qNn b S Z := by
  refine ⟨fun k hk => h.1 k (fun hh => hk ?_), by rw [h.2], fun k j _ => by rw [h.2]⟩
  unfold dP at hh
  unfold nP
  simp only [sh, yd] at hh
  omega
theorem gC_W (hb : b < 2) (hf : qNn b S Z) (h0 : S.1 148 7 = nI 0) (h1 : S.1 148 11 = nI 0) (hv : cV Z b 0 Y mc wc R row E) (h : gC S b Y mc wc D P G) : gC Z b Y mc wc (clr E) P G := by
  obtain ⟨x, x', hx, hx', hw⟩ := hv
  obtain ⟨_, ⟨h2a, h2b, h2c⟩, _, ⟨Y', h4a, h4b, h4c⟩, ⟨c0, h5a, h5b, h5c, h5d⟩, ⟨a1, a2, a3, a4, a5, a6, a7⟩, ⟨b1, b2, b3⟩, _, ⟨h9a, h9b, h9c, ⟨T, h9d, h9e⟩, h9f⟩, h10⟩ := h
  have e : ∀ k, ¬ nP b k → Z.1 k = S.1 k := hf.1
  have m : ∀ k j, k ≠ sh 0 0 → Z.2.2 k j = S.2.2 k j := fun k j hk => hf.2.2 k j (fun hh => hk hh.1)
  have e2 : ∀ k, k < 36 → k ≠ yc b 16 → Z.1 k = S.1 k := fun k a1 a2 => e k (by unfold nP; omega)
  have e3 : ∀ k, k = 41 ∨ (44 ≤ k ∧ k ≤ 143) ∨ 148 ≤ k → Z.1 k = S.1 k := fun k a1 => e k (by unfold nP yc; omega)
  have es : ∀ i c, i < 20 → c ≤ 4 → Z.1 (sv i c) = S.1 (sv i c) := fun i c a1 a2 => e3 _ (by unfold sv; omega)
  have hd := hw.2.2.2.2.1
  refine ⟨hw.1, ⟨by rw [m _ _ (by unfold sh; omega)]; exact h2a, by rw [m _ _ (by unfold sh; omega)]; exact h2b, by rw [m _ _ (by unfold sh; omega)]; exact h2c⟩, ⟨fun j hj => ?_, fun c j hc hc2 => ?_, fun h0 => ⟨?_, fun k => ?_⟩⟩, ⟨Y', h4a, fun c j hc => by rw [e2 _ (by unfold yc; omega) (by unfold yc; omega)]; exact h4b c j hc, fun j => by rw [e2 _ (by unfold yc; omega) (by unfold yc; omega)]; exact h4c j⟩, ⟨c0, h5a, by rw [e3 41 (by omega)]; exact h5b, by rw [e3 41 (by omega)]; exact h5c, fun i hi => ?_⟩, ⟨fun i => by rw [e2 1 (by decide) (by unfold yc; omega)]; exact a1 i, by rw [e2 0 (by decide) (by unfold yc; omega)]; exact a2, by rw [e2 0 (by decide) (by unfold yc; omega)]; exact a3, by rw [e2 0 (by decide) (by unfold yc; omega)]; exact a4, by rw [e3 169 (by omega)]; exact a5, by rw [e3 160 (by omega)]; exact a6, by rw [e3 160 (by omega)]; exact a7⟩, ⟨fun i hi => by rw [e3 177 (by omega)]; exact b1 i hi, fun i hi => by rw [e3 176 (by omega)]; exact b2 i hi, fun i hi => by rw [e3 170 (by omega)]; exact b3 i hi⟩, ⟨⟨0, by rw [e3 148 (by omega)]; exact h0, Or.inl rfl⟩, ⟨0, by rw [e3 148 (by omega)]; exact h1, Or.inl rfl⟩⟩, ⟨fun c j hc hc2 hj => ?_, fun c j hc hc2 hj => ?_, fun i hi c j hc hc2 hj => ?_, ⟨T, fun c j hc hc2 => ?_, h9e⟩, fun w hw2 => ?_⟩, fun k hk => by rw [e3 161 (by omega)]; exact h10 k hk⟩
  · rw [hd.1 j hj]; rfl
  · rw [hd.2.1 c j hc hc2, clr_n (by omega), dU_c (by omega), dU_c (by omega)]
  · rw [(hd.2.2 rfl).1]; rfl
  · rw [(hd.2.2 rfl).2 k]; rfl
  · obtain ⟨s1, s2⟩ := h5d i hi
    have hlt : (c0 + i) % 20 < 20 := Nat.mod_lt _ (by decide)
    exact ⟨fun j hj => by rw [es _ 0 hlt (by decide)]; exact s1 j hj, fun c j hc hc2 => by rw [es _ c hlt hc2]; exact s2 c j hc hc2⟩
  · rw [e3 _ (by unfold yd; omega)]; exact h9a c j hc hc2 hj
  · rw [e3 _ (by omega)]; exact h9b c j hc hc2 hj
  · have := es i c hi hc2; rw [sv_c] at this; rw [this]; exact h9c i hi c j hc hc2 hj
  · rw [e3 _ (by omega)]; exact h9d c j hc hc2
  · rcases (by omega : w = 0 ∨ w = 1) with rfl | rfl
    · exact ⟨x, x', hx, hx', hw.2.2.2.2.2.1.1, hw.2.2.2.2.2.1.2.1⟩
    · obtain ⟨u, u', a1, a2, a3, a4⟩ := h9f 1 (by decide)
      have : Z.1 (sh 1 0) = S.1 (sh 1 0) := e3 _ (by unfold sh; omega)
      exact ⟨u, u', a1, a2, by rw [this]; exact a3, by rw [this]; exact a4⟩
theorem c_daysL (hb : b < 2) (hY : yrOk Y) (hK : kOk mc wc) (hR : ∀ k, R k < 2 ^ 31) (hn : 2000 ≤ n) (hrow : ∀ i, i < Y 2 3 → row i < Y 2 3) {N : Nat} (hN : N ≤ 100) : ∀ (m i q : Nat) (D : Nat → Nat → Nat) (S : xSt), i + m = N → m < q → cV S b 0 Y mc wc R row D → rI Y D → D 0 0 + m ≤ 999 →
    ∃ Z, fX11_days_L38 n 0 (nI N) q (nI i) S = some Z ∧ cV Z b 0 Y mc wc R row (s_run Y mc wc R row m D) ∧ qFr (dP b 0) S Z
  | 0, i, q, D, S, hk, hq, hv, hI, h9 => by
    obtain ⟨q, rfl⟩ : ∃ q', q = q' + 1 := ⟨q - 1, by omega⟩
    refine ⟨S, ?_, hv, qFr_refl⟩
    show fX11_days_L38b _ _ _ _ _ _ = _
    simp (disch := (first | assumption | omega | exact hB _ _ | exact hYB _ _ | (simp only [yc, yd, sh, sv, ne_eq]; omega) | (simp (disch := omega) only [↓nm_1, ↓nm_2, nI_add, pk_mul, pk_sub, Nat.add_sub_cancel, qm1_add, qm2_add, nI_clamp, ni_0, ni_1]; refine qin_nI ?_ ?_ <;> first | omega | exact hB _ _ | exact hYB _ _) | (refine qin_nI ?_ ?_ <;> omega) | fail)) only [↓kc0_gd, ↓kc0_gI, ↓kc0_gM, ↓kc0_pI, ↓kc0_pM, ↓kc0_pZ, ↓kc0_gF0, ↓kc0_gF4, ↓kc0_gF5, ↓kc0_gF6, ↓kc0_gF7, ↓kc0_gF8, ↓kc0_gF9, ↓kc0_gF10, ↓kc0_gF11, ↓kc0_gF12, ↓kc0_gF14, ↓kc1_al, ↓kc1_as, ↓kc1_ln, ↓kc41_gd, ↓kc41_gI, ↓kc41_gM, ↓kc41_pI, ↓kc41_pM, ↓kc41_pZ, ↓kc41_gF0, ↓kc41_gF1, ↓kc42_ql, ↓kc43_al, ↓kc43_as, ↓kc43_ln, ↓kc148_gd, ↓kc148_gI, ↓kc148_gM, ↓kc148_pI, ↓kc148_pM, ↓kc148_pZ, ↓kc148_gF0, ↓kc148_gF1, ↓kc148_gF2, ↓kc148_gF4, ↓kc148_gF5, ↓kc154_al, ↓kc154_as, ↓kc154_ln, ↓kc155_al, ↓kc155_as, ↓kc155_ln, ↓kc160_gd, ↓kc160_gI, ↓kc160_gM, ↓kc160_pI, ↓kc160_pM, ↓kc160_pZ, ↓kc160_gF0, ↓kc160_gF1, ↓kc161_al, ↓kc161_as, ↓kc161_ln, ↓kc162_gd, ↓kc162_gI, ↓kc162_gM, ↓kc162_pI, ↓kc162_pM, ↓kc162_pZ, ↓kc162_gF0, ↓kc162_gF1, ↓kc163_gd, ↓kc163_gI, ↓kc163_gM, ↓kc163_pI, ↓kc163_pM, ↓kc163_pZ, ↓kc163_gF0, ↓kc164_gd, ↓kc164_gI, ↓kc164_gM, ↓kc164_pI, ↓kc164_pM, ↓kc164_pZ, ↓kc164_gF0, ↓kc164_gF1, ↓kc164_gF2, ↓kc164_gF3, ↓kc165_al, ↓kc165_as, ↓kc165_ln, ↓kc166_al, ↓kc166_as, ↓kc166_ln, ↓kc167_al, ↓kc167_as, ↓kc167_ln, ↓kc168_al, ↓kc168_as, ↓kc168_ln, ↓kc169_gd, ↓kc169_gI, ↓kc169_gM, ↓kc169_pI, ↓kc169_pM, ↓kc169_pZ, ↓kc169_gF0, ↓kc169_gF2, ↓kc170_al, ↓kc170_as, ↓kc170_ln, ↓kc171_gd, ↓kc171_gI, ↓kc171_gM, ↓kc171_pI, ↓kc171_pM, ↓kc171_pZ, ↓kc171_gF5, ↓kc171_gF6, ↓kc171_gF7, ↓kc171_gF8, ↓kc172_al, ↓kc172_as, ↓kc172_ln, ↓kc173_al, ↓kc173_as, ↓kc173_ln, ↓kc174_al, ↓kc174_as, ↓kc174_ln, ↓kc175_al, ↓kc175_as, ↓kc175_ln, ↓kc176_al, ↓kc176_as, ↓kc176_ln, ↓kc177_al, ↓kc177_as, ↓kc177_ln, ↓qb_so, ↓nm_1, ↓nm_2, ↓reduceIte, if_true, if_false, not_true_eq_false, not_false_eq_true, and_true, true_and, and_false, false_and, or_true, true_or, or_false, false_or, eq_self, ne_eq, quI_s, quI_n, quI2, quL1, quL2, quL3, quR1, quR2, quR3, nI_add, pk_mul, pk_sub, Nat.add_sub_cancel, qm1_add, qm2_add, nI_leI, nI_ltI, nI_eq, nI_m1, nI_m1', nI_clamp, nI_bit, nI_one_shl, nI_m1l, nI_m1lt, nI_m1lt', nI_m1le', oI_some, oI_none, ni_0, ni_1, fX11_days_L38b, qle_t, qle_f, qlt_t, qlt_f, qeq_t, qeq_f]
  | m + 1, i, q, D, S, hk, hq, hv, hI, h9 => by
    obtain ⟨q, rfl⟩ : ∃ q', q = q' + 1 := ⟨q - 1, by omega⟩
    obtain ⟨Z1, e1, w1, f1, d1, I1, t1⟩ := c_day2 (n := n) (fr := 0) hb (by decide) hv hY hI hK hR hn (by decide) hrow (by omega)
    obtain ⟨Z, e2, v2, f2⟩ := c_daysL hb hY hK hR hn hrow hN m (i + 1) q _ Z1 (by omega) (by omega) (cV_of w1 (dOk_B d1)) I1 (by omega)
    refine ⟨Z, ?_, v2, qFr_trans f1 f2⟩
    show fX11_days_L38b _ _ _ _ _ _ = _
    simp (disch := (first | assumption | omega | exact hB _ _ | exact hYB _ _ | (simp only [yc, yd, sh, sv, ne_eq]; omega) | (simp (disch := omega) only [↓nm_1, ↓nm_2, nI_add, pk_mul, pk_sub, Nat.add_sub_cancel, qm1_add, qm2_add, nI_clamp, ni_0, ni_1, e1, e2]; refine qin_nI ?_ ?_ <;> first | omega | exact hB _ _ | exact hYB _ _) | (refine qin_nI ?_ ?_ <;> omega) | fail)) only [↓kc0_gd, ↓kc0_gI, ↓kc0_gM, ↓kc0_pI, ↓kc0_pM, ↓kc0_pZ, ↓kc0_gF0, ↓kc0_gF4, ↓kc0_gF5, ↓kc0_gF6, ↓kc0_gF7, ↓kc0_gF8, ↓kc0_gF9, ↓kc0_gF10, ↓kc0_gF11, ↓kc0_gF12, ↓kc0_gF14, ↓kc1_al, ↓kc1_as, ↓kc1_ln, ↓kc41_gd, ↓kc41_gI, ↓kc41_gM, ↓kc41_pI, ↓kc41_pM, ↓kc41_pZ, ↓kc41_gF0, ↓kc41_gF1, ↓kc42_ql, ↓kc43_al, ↓kc43_as, ↓kc43_ln, ↓kc148_gd, ↓kc148_gI, ↓kc148_gM, ↓kc148_pI, ↓kc148_pM, ↓kc148_pZ, ↓kc148_gF0, ↓kc148_gF1, ↓kc148_gF2, ↓kc148_gF4, ↓kc148_gF5, ↓kc154_al, ↓kc154_as, ↓kc154_ln, ↓kc155_al, ↓kc155_as, ↓kc155_ln, ↓kc160_gd, ↓kc160_gI, ↓kc160_gM, ↓kc160_pI, ↓kc160_pM, ↓kc160_pZ, ↓kc160_gF0, ↓kc160_gF1, ↓kc161_al, ↓kc161_as, ↓kc161_ln, ↓kc162_gd, ↓kc162_gI, ↓kc162_gM, ↓kc162_pI, ↓kc162_pM, ↓kc162_pZ, ↓kc162_gF0, ↓kc162_gF1, ↓kc163_gd, ↓kc163_gI, ↓kc163_gM, ↓kc163_pI, ↓kc163_pM, ↓kc163_pZ, ↓kc163_gF0, ↓kc164_gd, ↓kc164_gI, ↓kc164_gM, ↓kc164_pI, ↓kc164_pM, ↓kc164_pZ, ↓kc164_gF0, ↓kc164_gF1, ↓kc164_gF2, ↓kc164_gF3, ↓kc165_al, ↓kc165_as, ↓kc165_ln, ↓kc166_al, ↓kc166_as, ↓kc166_ln, ↓kc167_al, ↓kc167_as, ↓kc167_ln, ↓kc168_al, ↓kc168_as, ↓kc168_ln, ↓kc169_gd, ↓kc169_gI, ↓kc169_gM, ↓kc169_pI, ↓kc169_pM, ↓kc169_pZ, ↓kc169_gF0, ↓kc169_gF2, ↓kc170_al, ↓kc170_as, ↓kc170_ln, ↓kc171_gd, ↓kc171_gI, ↓kc171_gM, ↓kc171_pI, ↓kc171_pM, ↓kc171_pZ, ↓kc171_gF5, ↓kc171_gF6, ↓kc171_gF7, ↓kc171_gF8, ↓kc172_al, ↓kc172_as, ↓kc172_ln, ↓kc173_al, ↓kc173_as, ↓kc173_ln, ↓kc174_al, ↓kc174_as, ↓kc174_ln, ↓kc175_al, ↓kc175_as, ↓kc175_ln, ↓kc176_al, ↓kc176_as, ↓kc176_ln, ↓kc177_al, ↓kc177_as, ↓kc177_ln, ↓qb_so, ↓nm_1, ↓nm_2, ↓reduceIte, if_true, if_false, not_true_eq_false, not_false_eq_true, and_true, true_and, and_false, false_and, or_true, true_or, or_false, false_or, eq_self, ne_eq, quI_s, quI_n, quI2, quL1, quL2, quL3, quR1, quR2, quR3, nI_add, pk_mul, pk_sub, Nat.add_sub_cancel, qm1_add, qm2_add, nI_leI, nI_ltI, nI_eq, nI_m1, nI_m1', nI_clamp, nI_bit, nI_one_shl, nI_m1l, nI_m1lt, nI_m1lt', nI_m1le', oI_some, oI_none, ni_0, ni_1, fX11_days_L38b, qle_t, qle_f, qlt_t, qlt_f, qeq_t, qeq_f, e1, e2]
theorem m_daysL (hb : b < 2) (hY : yrOk Y) (hK : kOk mc wc) (hR : ∀ k, R k < 2 ^ 31) (hn : 2000 ≤ n) (hrow : ∀ i, i < Y 2 3 → row i < Y 2 3) {N : Nat} (hN : N ≤ 100) : ∀ (m i q : Nat) (D : Nat → Nat → Nat) (S : xSt), i + m = N → m < q → mV S b 0 Y mc wc R row D → rI Y D → D 0 0 + m ≤ 999 →
    ∃ Z, fX12_days_L25 n 0 (nI N) q (nI (D 5 3)) (nI i) S = some (nI (s_run Y mc wc R row m D 5 3), Z) ∧ mV Z b 0 Y mc wc R row (s_run Y mc wc R row m D) ∧ mFq (mQ 0) S Z
  | 0, i, q, D, S, hk, hq, hv, hI, h9 => by
    obtain ⟨q, rfl⟩ : ∃ q', q = q' + 1 := ⟨q - 1, by omega⟩
    refine ⟨S, ?_, hv, mFq_refl⟩
    show fX12_days_L25b _ _ _ _ _ _ _ = _
    simp (disch := (first | assumption | omega | exact hB _ _ | exact hYB _ _ | (simp only [yc, yd, sh, sv, ne_eq]; omega) | (simp (disch := omega) only [↓nm_1, ↓nm_2, nI_add, pk_mul, pk_sub, Nat.add_sub_cancel, qm1_add, qm2_add, nI_clamp, ni_0, ni_1, s_run]; refine qin_nI ?_ ?_ <;> first | omega | exact hB _ _ | exact hYB _ _) | (refine qin_nI ?_ ?_ <;> omega) | fail)) only [↓km0_gd, ↓km0_gI, ↓km0_gM, ↓km0_pI, ↓km0_pM, ↓km0_pZ, ↓km0_gL, ↓km0_pL, ↓qb_so, ↓nm_1, ↓nm_2, ↓reduceIte, if_true, if_false, not_true_eq_false, not_false_eq_true, and_true, true_and, and_false, false_and, or_true, true_or, or_false, false_or, eq_self, ne_eq, quI_s, quI_n, quI2, quL1, quL2, quL3, quR1, quR2, quR3, nI_add, pk_mul, pk_sub, Nat.add_sub_cancel, qm1_add, qm2_add, nI_leI, nI_ltI, nI_eq, nI_m1, nI_m1', nI_clamp, nI_bit, nI_one_shl, nI_m1l, nI_m1lt, nI_m1lt', nI_m1le', oI_some, oI_none, ni_0, ni_1, fX12_days_L25b, qle_t, qle_f, qlt_t, qlt_f, qeq_t, qeq_f, s_run]
  | m + 1, i, q, D, S, hk, hq, hv, hI, h9 => by
    obtain ⟨q, rfl⟩ : ∃ q', q = q' + 1 := ⟨q - 1, by omega⟩
    obtain ⟨Z1, e1, w1, f1⟩ := m_day2 (n := n) (fr := 0) (v := 0) hb (by decide) hv hY hI hK hR hn (by decide) hrow (by omega)
    have nx := s_next hY hI hrow (mc := mc) (wc := wc) (R := R) (fr := 0) (by omega : D 0 0 < 999)
    obtain ⟨Z, e2, v2, f2⟩ := m_daysL hb hY hK hR hn hrow hN m (i + 1) q _ Z1 (by omega) (by omega) (mV_of w1 nx.1.2.1) nx.1 (by omega)
    rw [s_day_wk hY hI hrow] at e2
    refine ⟨Z, ?_, v2, mFq_trans f1 f2⟩
    show fX12_days_L25b _ _ _ _ _ _ _ = _
    simp (disch := (first | assumption | omega | exact hB _ _ | exact hYB _ _ | (simp only [yc, yd, sh, sv, ne_eq]; omega) | (simp (disch := omega) only [↓nm_1, ↓nm_2, nI_add, pk_mul, pk_sub, Nat.add_sub_cancel, qm1_add, qm2_add, nI_clamp, ni_0, ni_1, e1, e2]; refine qin_nI ?_ ?_ <;> first | omega | exact hB _ _ | exact hYB _ _) | (refine qin_nI ?_ ?_ <;> omega) | fail)) only [↓km0_gd, ↓km0_gI, ↓km0_gM, ↓km0_pI, ↓km0_pM, ↓km0_pZ, ↓km0_gL, ↓km0_pL, ↓qb_so, ↓nm_1, ↓nm_2, ↓reduceIte, if_true, if_false, not_true_eq_false, not_false_eq_true, and_true, true_and, and_false, false_and, or_true, true_or, or_false, false_or, eq_self, ne_eq, quI_s, quI_n, quI2, quL1, quL2, quL3, quR1, quR2, quR3, nI_add, pk_mul, pk_sub, Nat.add_sub_cancel, qm1_add, qm2_add, nI_leI, nI_ltI, nI_eq, nI_m1, nI_m1', nI_clamp, nI_bit, nI_one_shl, nI_m1l, nI_m1lt, nI_m1lt', nI_m1le', oI_some, oI_none, ni_0, ni_1, fX12_days_L25b, qle_t, qle_f, qlt_t, qlt_f, qeq_t, qeq_f, e1, e2]
    rfl
theorem rI_ok (hI : rI Y D) : dOk Y (s_fresh D) := hI.1
theorem gI_run (hI : gI Y mc wc D P G) (hE : rI Y E) (hp : pre D E) : gI Y mc wc (clr E) P G := by
  obtain ⟨i1, i2, i3, i4, i5, i6, i7⟩ := hI
  have e : clr (s_fresh E) = clr E := by
    funext c j
    unfold clr
    split
    · rfl
    · rename_i h; unfold s_fresh; rw [dU_c h, dU_c h]
  refine ⟨i1, i2, by rw [← e]; exact clr_ok hE.1, fun j => rfl, i5, fun i hi => ⟨pre_trans (i6 i hi).1 hp, (i6 i hi).2⟩, i7⟩
theorem e_days : xEq21 gR := by
  intro S1 S2 h a
  obtain ⟨b, Y, mc, wc, D, P, G, hb, hC, hM, hI⟩ := id h
  have h99 : D 0 0 ≤ 999 := hI.2.2.1.1
  have hn : 2000 ≤ xFU := by decide
  have hx60 : xFU = 60000 := rfl
  have hw : (0 : Nat) < 2 := by decide
  rcases c_can (a := a) (m := 100) hb hC.2.2.1 h99 (by decide) with ⟨i, hi1, hi2, hi3, rfl, e1⟩ | ⟨e1, hx⟩
  · have m1 := m_can1 (l := 1) (i := i) (m := 100) hM.2.2.1 hi1 hi2 (by decide) hi3
    obtain ⟨Z1, c1, g1, z7, z11⟩ := c_begin hb hC hI
    obtain ⟨T1, t1, k1⟩ := m_keeps (n := xFU) hn hM hI
    have iz := gI_P hI
    obtain ⟨Z2, c2, v2, f2⟩ := c_open (n := xFU) (w := 0) hb (by decide) hn g1.1 g1.2.2.1 (g1.2.2.2.2.2.2.2.2.1.2.2.2.2 0 (by decide))
    have c2' : fX6_open xFU (sh 0 0) (yc b 0) (yd 0 0) (nI 1) Z1 = some Z2 := c2
    obtain ⟨o1, o2⟩ := opn_I hI.1 hI.2.2.1 hI.2.2.2.1
    obtain ⟨Z, c3, v3, f3⟩ := c_daysL (n := xFU) hb hI.1 hI.2.1 (Y3_lt hI.1) hn id_row hi2 i 0 xFU (opn D) Z2 (by omega) (by omega) v2 o1 hi3
    obtain ⟨fr, u, u', hu, hu', hmw⟩ := gM_V k1
    have mv : mV T1 b 0 Y mc wc (Y 3) (fun i => i) (opn D) := by
      refine ⟨fr, u, u', hu, hu', ?_⟩
      have w2 := mW_free (i := 3) (x := 0) (by decide) (mW_free (i := 2) (x := 0) (by decide) hmw)
      have ec : dU (dU (dU (dU D 5 0 u) 5 1 u') 5 2 0) 5 3 0 = dU (dU (opn D) 5 0 u) 5 1 u' := by
        funext c j
        unfold opn dU
        by_cases h5 : c = 5
        · subst h5
          simp only [if_true]
          rcases (by omega : j = 0 ∨ j = 1 ∨ j = 2 ∨ j = 3 ∨ 4 ≤ j) with rfl | rfl | rfl | rfl | hj
          · rfl
          · rfl
          · rfl
          · rfl
          · rw [if_neg (by omega), if_neg (by omega), if_neg (by omega), if_neg (by omega), if_neg (by omega), if_neg (by omega), if_neg (by omega), if_neg (by omega)]
        · simp only [if_neg h5]
      rw [ec] at w2
      exact w2
    obtain ⟨T, t2, tv, tf⟩ := m_daysL (n := xFU) hb hI.1 hI.2.1 (Y3_lt hI.1) hn id_row hi2 i 0 xFU (opn D) T1 (by omega) (by omega) mv o1 hi3
    obtain ⟨I3, _⟩ := s_run_I (mc := mc) (wc := wc) (R := Y 3) hI.1 id_row i (opn D) o1 hi3
    have pr : pre D (s_run Y mc wc (Y 3) (fun i => i) i (opn D)) := pre_trans (pre_nK ⟨rfl, fun _ => rfl⟩) (s_run_pre i (opn D))
    have u10 : Z.1 (sh 0 0) 10 = nI (s_run Y mc wc (Y 3) (fun i => i) i (opn D) 5 3) := by
      obtain ⟨x, x', _, _, hcw⟩ := v3
      exact hcw.2.2.2.2.2.1.2.2.2
    have hr1 := g1.2.1.1
    have md : mD T 0 Y (clr (s_run Y mc wc (Y 3) (fun i => i) i (opn D))) := by
      obtain ⟨fr', x, x', _, _, hmw2⟩ := id tv
      exact hmw2.2.1
    have mu : mU T := by
      obtain ⟨fr', x, x', hx1, hx2, hmw2⟩ := id tv
      exact ⟨x, x', fr', hx1, hx2, hmw2.2.2.1.1, hmw2.2.2.1.2.1, hmw2.2.2.1.2.2⟩
    refine ⟨nI (s_run Y mc wc (Y 3) (fun i => i) i (opn D) 5 3), Z, T, ?_, ?_, b, Y, mc, wc, clr (s_run Y mc wc (Y 3) (fun i => i) i (opn D)), pP P G D, pG G, hb, ?_, gM_D iz tf md mu k1, gI_run iz I3 pr⟩
    · simp (disch := (first | assumption | omega | exact hB _ _ | exact hYB _ _ | (simp only [yc, yd, sh, sv, ne_eq]; omega) | (simp (disch := omega) only [↓nm_1, ↓nm_2, nI_add, pk_mul, pk_sub, Nat.add_sub_cancel, qm1_add, qm2_add, nI_clamp, ni_0, ni_1, ni_2, ni_100, e1, c1, hr1, c2', c3, u10]; refine qin_nI ?_ ?_ <;> first | omega | exact hB _ _ | exact hYB _ _) | (refine qin_nI ?_ ?_ <;> omega) | fail)) only [↓yd0_gd hw, ↓yd0_gI hw, ↓yd0_gM hw, ↓yd0_pI hw, ↓yd0_pM hw, ↓yd0_pZ hw, ↓yd0_gF5 hw, ↓yd0_gF6 hw, ↓yd0_gF7 hw, ↓yd0_gF8 hw, ↓yd1_al hw, ↓yd1_as hw, ↓yd1_ln hw, ↓yd2_al hw, ↓yd2_as hw, ↓yd2_ln hw, ↓yd3_al hw, ↓yd3_as hw, ↓yd3_ln hw, ↓yd4_al hw, ↓yd4_as hw, ↓yd4_ln hw, ↓sh0_gd hw, ↓sh0_gI hw, ↓sh0_gM hw, ↓sh0_pI hw, ↓sh0_pM hw, ↓sh0_pZ hw, ↓sh0_gF0 hw, ↓sh0_gF1 hw, ↓sh0_gF2 hw, ↓sh0_gF3 hw, ↓sh1_al hw, ↓sh1_as hw, ↓sh1_ln hw, ↓sh2_al hw, ↓sh2_as hw, ↓sh2_ln hw, ↓sh3_al hw, ↓sh3_as hw, ↓sh3_ln hw, ↓kc0_gd, ↓kc0_gI, ↓kc0_gM, ↓kc0_pI, ↓kc0_pM, ↓kc0_pZ, ↓kc0_gF0, ↓kc0_gF4, ↓kc0_gF5, ↓kc0_gF6, ↓kc0_gF7, ↓kc0_gF8, ↓kc0_gF9, ↓kc0_gF10, ↓kc0_gF11, ↓kc0_gF12, ↓kc0_gF14, ↓kc1_al, ↓kc1_as, ↓kc1_ln, ↓kc41_gd, ↓kc41_gI, ↓kc41_gM, ↓kc41_pI, ↓kc41_pM, ↓kc41_pZ, ↓kc41_gF0, ↓kc41_gF1, ↓kc42_ql, ↓kc43_al, ↓kc43_as, ↓kc43_ln, ↓kc148_gd, ↓kc148_gI, ↓kc148_gM, ↓kc148_pI, ↓kc148_pM, ↓kc148_pZ, ↓kc148_gF0, ↓kc148_gF1, ↓kc148_gF2, ↓kc148_gF4, ↓kc148_gF5, ↓kc154_al, ↓kc154_as, ↓kc154_ln, ↓kc155_al, ↓kc155_as, ↓kc155_ln, ↓kc160_gd, ↓kc160_gI, ↓kc160_gM, ↓kc160_pI, ↓kc160_pM, ↓kc160_pZ, ↓kc160_gF0, ↓kc160_gF1, ↓kc161_al, ↓kc161_as, ↓kc161_ln, ↓kc162_gd, ↓kc162_gI, ↓kc162_gM, ↓kc162_pI, ↓kc162_pM, ↓kc162_pZ, ↓kc162_gF0, ↓kc162_gF1, ↓kc163_gd, ↓kc163_gI, ↓kc163_gM, ↓kc163_pI, ↓kc163_pM, ↓kc163_pZ, ↓kc163_gF0, ↓kc164_gd, ↓kc164_gI, ↓kc164_gM, ↓kc164_pI, ↓kc164_pM, ↓kc164_pZ, ↓kc164_gF0, ↓kc164_gF1, ↓kc164_gF2, ↓kc164_gF3, ↓kc165_al, ↓kc165_as, ↓kc165_ln, ↓kc166_al, ↓kc166_as, ↓kc166_ln, ↓kc167_al, ↓kc167_as, ↓kc167_ln, ↓kc168_al, ↓kc168_as, ↓kc168_ln, ↓kc169_gd, ↓kc169_gI, ↓kc169_gM, ↓kc169_pI, ↓kc169_pM, ↓kc169_pZ, ↓kc169_gF0, ↓kc169_gF2, ↓kc170_al, ↓kc170_as, ↓kc170_ln, ↓kc171_gd, ↓kc171_gI, ↓kc171_gM, ↓kc171_pI, ↓kc171_pM, ↓kc171_pZ, ↓kc171_gF5, ↓kc171_gF6, ↓kc171_gF7, ↓kc171_gF8, ↓kc172_al, ↓kc172_as, ↓kc172_ln, ↓kc173_al, ↓kc173_as, ↓kc173_ln, ↓kc174_al, ↓kc174_as, ↓kc174_ln, ↓kc175_al, ↓kc175_as, ↓kc175_ln, ↓kc176_al, ↓kc176_as, ↓kc176_ln, ↓kc177_al, ↓kc177_as, ↓kc177_ln, ↓qb_so, ↓nm_1, ↓nm_2, ↓reduceIte, if_true, if_false, not_true_eq_false, not_false_eq_true, and_true, true_and, and_false, false_and, or_true, true_or, or_false, false_or, eq_self, ne_eq, quI_s, quI_n, quI2, quL1, quL2, quL3, quR1, quR2, quR3, nI_add, pk_mul, pk_sub, Nat.add_sub_cancel, qm1_add, qm2_add, nI_leI, nI_ltI, nI_eq, nI_m1, nI_m1', nI_clamp, nI_bit, nI_one_shl, nI_m1l, nI_m1lt, nI_m1lt', nI_m1le', oI_some, oI_none, ni_0, ni_1, ni_2, ni_100, fX11_days, qle_t, qle_f, qlt_t, qlt_f, qeq_t, qeq_f, e1, c1, hr1, c2', c3, u10]
    · have t2' : fX12_days_L25 xFU 0 (nI i) xFU (nI 0) (nI 0) T1 = some (nI (s_run Y mc wc (Y 3) (fun i => i) i (opn D) 5 3), T) := t2
      simp (disch := (first | assumption | omega | exact hB _ _ | exact hYB _ _ | (simp only [yc, yd, sh, sv, ne_eq]; omega) | (simp (disch := omega) only [↓nm_1, ↓nm_2, nI_add, pk_mul, pk_sub, Nat.add_sub_cancel, qm1_add, qm2_add, nI_clamp, ni_0, ni_1, ni_2, ni_100, m1, t1, t2']; refine qin_nI ?_ ?_ <;> first | omega | exact hB _ _ | exact hYB _ _) | (refine qin_nI ?_ ?_ <;> omega) | fail)) only [↓km0_gd, ↓km0_gI, ↓km0_gM, ↓km0_pI, ↓km0_pM, ↓km0_pZ, ↓km0_gL, ↓km0_pL, ↓qb_so, ↓nm_1, ↓nm_2, ↓reduceIte, if_true, if_false, not_true_eq_false, not_false_eq_true, and_true, true_and, and_false, false_and, or_true, true_or, or_false, false_or, eq_self, ne_eq, quI_s, quI_n, quI2, quL1, quL2, quL3, quR1, quR2, quR3, nI_add, pk_mul, pk_sub, Nat.add_sub_cancel, qm1_add, qm2_add, nI_leI, nI_ltI, nI_eq, nI_m1, nI_m1', nI_clamp, nI_bit, nI_one_shl, nI_m1l, nI_m1lt, nI_m1lt', nI_m1le', oI_some, oI_none, ni_0, ni_1, ni_2, ni_100, fX12_days, qle_t, qle_f, qlt_t, qlt_f, qeq_t, qeq_f, m1, t1, t2']
    · exact gC_W hb (qNn_trans ⟨fun k hk => f2.1 k (fun hh => hk (by unfold hP sh at hh; unfold nP; omega)), f2.2.1, f2.2.2⟩ (qNn_d f3)) z7 z11 v3 g1
  · have m1 : fX12_isAhead 0 a (nI 1) (nI 100) S2 = some (nI 0) := by
      rcases hx with hx | ⟨i, hi1, hi2, hi3, rfl⟩
      · exact m_can0 hx
      · exact m_can9 hM.2.2.1 hi1 hi2 (by decide) hi3 h99
    obtain ⟨d1, g1⟩ := c_refuse (i := 2) hb hC (by decide)
    obtain ⟨e2, k1⟩ := m_refuse (i := 2) hI hM (by decide)
    refine ⟨qm1, _, _, ?_, ?_, b, Y, mc, wc, D, P, gRf G 2, hb, g1, k1, gI_rf hI⟩
    · simp (disch := (first | assumption | omega | exact hB _ _ | exact hYB _ _ | (simp only [yc, yd, sh, sv, ne_eq]; omega) | (simp (disch := omega) only [↓nm_1, ↓nm_2, nI_add, pk_mul, pk_sub, Nat.add_sub_cancel, qm1_add, qm2_add, nI_clamp, ni_0, ni_1, ni_2, ni_100, e1, d1]; refine qin_nI ?_ ?_ <;> first | omega | exact hB _ _ | exact hYB _ _) | (refine qin_nI ?_ ?_ <;> omega) | fail)) only [↓kc0_gd, ↓kc0_gI, ↓kc0_gM, ↓kc0_pI, ↓kc0_pM, ↓kc0_pZ, ↓kc0_gF0, ↓kc0_gF4, ↓kc0_gF5, ↓kc0_gF6, ↓kc0_gF7, ↓kc0_gF8, ↓kc0_gF9, ↓kc0_gF10, ↓kc0_gF11, ↓kc0_gF12, ↓kc0_gF14, ↓kc1_al, ↓kc1_as, ↓kc1_ln, ↓kc41_gd, ↓kc41_gI, ↓kc41_gM, ↓kc41_pI, ↓kc41_pM, ↓kc41_pZ, ↓kc41_gF0, ↓kc41_gF1, ↓kc42_ql, ↓kc43_al, ↓kc43_as, ↓kc43_ln, ↓kc148_gd, ↓kc148_gI, ↓kc148_gM, ↓kc148_pI, ↓kc148_pM, ↓kc148_pZ, ↓kc148_gF0, ↓kc148_gF1, ↓kc148_gF2, ↓kc148_gF4, ↓kc148_gF5, ↓kc154_al, ↓kc154_as, ↓kc154_ln, ↓kc155_al, ↓kc155_as, ↓kc155_ln, ↓kc160_gd, ↓kc160_gI, ↓kc160_gM, ↓kc160_pI, ↓kc160_pM, ↓kc160_pZ, ↓kc160_gF0, ↓kc160_gF1, ↓kc161_al, ↓kc161_as, ↓kc161_ln, ↓kc162_gd, ↓kc162_gI, ↓kc162_gM, ↓kc162_pI, ↓kc162_pM, ↓kc162_pZ, ↓kc162_gF0, ↓kc162_gF1, ↓kc163_gd, ↓kc163_gI, ↓kc163_gM, ↓kc163_pI, ↓kc163_pM, ↓kc163_pZ, ↓kc163_gF0, ↓kc164_gd, ↓kc164_gI, ↓kc164_gM, ↓kc164_pI, ↓kc164_pM, ↓kc164_pZ, ↓kc164_gF0, ↓kc164_gF1, ↓kc164_gF2, ↓kc164_gF3, ↓kc165_al, ↓kc165_as, ↓kc165_ln, ↓kc166_al, ↓kc166_as, ↓kc166_ln, ↓kc167_al, ↓kc167_as, ↓kc167_ln, ↓kc168_al, ↓kc168_as, ↓kc168_ln, ↓kc169_gd, ↓kc169_gI, ↓kc169_gM, ↓kc169_pI, ↓kc169_pM, ↓kc169_pZ, ↓kc169_gF0, ↓kc169_gF2, ↓kc170_al, ↓kc170_as, ↓kc170_ln, ↓kc171_gd, ↓kc171_gI, ↓kc171_gM, ↓kc171_pI, ↓kc171_pM, ↓kc171_pZ, ↓kc171_gF5, ↓kc171_gF6, ↓kc171_gF7, ↓kc171_gF8, ↓kc172_al, ↓kc172_as, ↓kc172_ln, ↓kc173_al, ↓kc173_as, ↓kc173_ln, ↓kc174_al, ↓kc174_as, ↓kc174_ln, ↓kc175_al, ↓kc175_as, ↓kc175_ln, ↓kc176_al, ↓kc176_as, ↓kc176_ln, ↓kc177_al, ↓kc177_as, ↓kc177_ln, ↓qb_so, ↓nm_1, ↓nm_2, ↓reduceIte, if_true, if_false, not_true_eq_false, not_false_eq_true, and_true, true_and, and_false, false_and, or_true, true_or, or_false, false_or, eq_self, ne_eq, quI_s, quI_n, quI2, quL1, quL2, quL3, quR1, quR2, quR3, nI_add, pk_mul, pk_sub, Nat.add_sub_cancel, qm1_add, qm2_add, nI_leI, nI_ltI, nI_eq, nI_m1, nI_m1', nI_clamp, nI_bit, nI_one_shl, nI_m1l, nI_m1lt, nI_m1lt', nI_m1le', oI_some, oI_none, ni_0, ni_1, ni_2, ni_100, fX11_days, qle_t, qle_f, qlt_t, qlt_f, qeq_t, qeq_f, e1, d1]
    · simp (disch := (first | assumption | omega | exact hB _ _ | exact hYB _ _ | (simp only [yc, yd, sh, sv, ne_eq]; omega) | (simp (disch := omega) only [↓nm_1, ↓nm_2, nI_add, pk_mul, pk_sub, Nat.add_sub_cancel, qm1_add, qm2_add, nI_clamp, ni_0, ni_1, ni_2, ni_100, m1, e2]; refine qin_nI ?_ ?_ <;> first | omega | exact hB _ _ | exact hYB _ _) | (refine qin_nI ?_ ?_ <;> omega) | fail)) only [↓km0_gd, ↓km0_gI, ↓km0_gM, ↓km0_pI, ↓km0_pM, ↓km0_pZ, ↓km0_gL, ↓km0_pL, ↓qb_so, ↓nm_1, ↓nm_2, ↓reduceIte, if_true, if_false, not_true_eq_false, not_false_eq_true, and_true, true_and, and_false, false_and, or_true, true_or, or_false, false_or, eq_self, ne_eq, quI_s, quI_n, quI2, quL1, quL2, quL3, quR1, quR2, quR3, nI_add, pk_mul, pk_sub, Nat.add_sub_cancel, qm1_add, qm2_add, nI_leI, nI_ltI, nI_eq, nI_m1, nI_m1', nI_clamp, nI_bit, nI_one_shl, nI_m1l, nI_m1lt, nI_m1lt', nI_m1le', oI_some, oI_none, ni_0, ni_1, ni_2, ni_100, fX12_days, qle_t, qle_f, qlt_t, qlt_f, qeq_t, qeq_f, m1, e2]
end Q52

