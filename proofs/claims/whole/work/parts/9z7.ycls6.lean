/-! ===== the class begins to read a year ===== -/
def s_clr (Y : Nat → Nat → Nat) : Nat → Nat → Nat := fun c j => if (c = 2 ∧ j < 4) ∨ (c = 7 ∧ j < 48) ∨ (c = 12 ∧ j < 36) ∨ (c = 14 ∧ 2 ≤ j ∧ j ≤ 6) ∨ (c = 0 ∧ (j = 15 ∨ j = 18)) then 0 else if c = 0 ∧ j = 14 then 100 else if c = 0 ∧ j = 16 then 9 else if c = 0 ∧ j = 17 then 5 else Y c j
section Q9z7
variable {S Z V W : xSt} {n L e m o b d t k a s w lo hi j r : Nat} {f : Nat → Nat} {cc mc wc : List (Nat × Nat)} {Y Y' : Nat → Nat → Nat}
theorem clr_J (hW : yWk Y) : yJa (s_clr Y) [] [] [] := by
  obtain ⟨h7, h8, h12, h6, h9, hB⟩ := hW
  have c2 : ∀ j, j < 4 → s_clr Y 2 j = 0 := fun j hj => by unfold s_clr; rw [if_pos (by omega)]
  have c7 : ∀ j, s_clr Y 7 j = if j < 48 then 0 else Y 7 j := fun j => by unfold s_clr; by_cases hj : j < 48; rw [if_pos (by omega), if_pos hj]; rw [if_neg (by omega), if_neg (by omega), if_neg (by omega), if_neg (by omega), if_neg hj]
  have c12 : ∀ j, s_clr Y 12 j = if j < 36 then 0 else Y 12 j := fun j => by unfold s_clr; by_cases hj : j < 36; rw [if_pos (by omega), if_pos hj]; rw [if_neg (by omega), if_neg (by omega), if_neg (by omega), if_neg (by omega), if_neg hj]
  have co : ∀ c j, c ≠ 2 → c ≠ 7 → c ≠ 12 → c ≠ 14 → c ≠ 0 → s_clr Y c j = Y c j := fun c j g1 g2 g3 g4 g5 => by unfold s_clr; rw [if_neg (by omega), if_neg (by omega), if_neg (by omega), if_neg (by omega)]
  have c14 : ∀ j, 2 ≤ j → j ≤ 6 → s_clr Y 14 j = 0 := fun j g1 g2 => by unfold s_clr; rw [if_pos (by omega)]
  refine ⟨⟨?_, ?_, ?_, ?_, ?_, ?_, ?_, ?_, ?_, ?_, ?_, ?_, ?_, ?_⟩, ⟨?_, ?_, ?_⟩, ?_, ?_, ?_, ?_, ?_, ?_⟩
  · rw [c2 0 (by decide), c2 1 (by decide), c2 2 (by decide), c2 3 (by decide)]; omega
  · intro k hk; rw [c2 0 (by decide)] at hk; omega
  · intro k hk; rw [c2 1 (by decide)] at hk; omega
  · intro i; rw [c7]; have := h7 i; split <;> omega
  · intro i; rw [co 8 i (by decide) (by decide) (by decide) (by decide) (by decide)]; exact h8 i
  · intro k hk; rw [c2 3 (by decide)] at hk; omega
  · intro i; rw [c12]; have := h12 i; split <;> omega
  · show (1 : Nat) ≤ 100 ∧ (100 : Nat) ≤ 100; decide
  · show (2 : Nat) ≤ 9 ∧ (9 : Nat) ≤ 30 ∧ (0 : Nat) < 9; decide
  · show (5 : Nat) ≤ 100; decide
  · show (0 : Nat) ≤ 100; decide
  · intro c j; have := hB c j; unfold s_clr; repeat' split
    all_goals omega
  · intro i; rw [co 6 i (by decide) (by decide) (by decide) (by decide) (by decide)]; exact h6 i
  · intro i; rw [co 9 i (by decide) (by decide) (by decide) (by decide) (by decide)]; exact h9 i
  · intro a c ha hc _; rw [c12, if_pos (by omega)]
  · intro a c ha hc _; rw [c7, if_pos (by omega)]
  · intro s i hs hi; rw [c2 s hs] at hi; omega
  · exact c14 2 (by decide) (by decide)
  · rw [c14 4 (by decide) (by decide), c14 3 (by decide) (by decide)]; rfl
  · rw [c14 6 (by decide) (by decide), c14 5 (by decide) (by decide)]; rfl
  · rw [c14 3 (by decide) (by decide)]; exact ⟨[], [], rfl, rfl⟩
  · rw [c14 5 (by decide) (by decide)]; exact ⟨[], [], rfl, rfl⟩
  · exact ⟨fun h => absurd rfl h, fun h => absurd rfl h, fun o ho => absurd ho List.not_mem_nil⟩
theorem c_clear (hn : 2000 ≤ n) (hb : b < 2) (h1 : ∀ c j, c ≤ 12 → S.1 (yc b c) j = nI (Y c j)) (h2 : ∀ j, S.1 (yc b 14) j = nI (Y 14 j)) : ∃ Z, fX9_clear n (yc b 0) S = some Z ∧ (∀ c j, c ≤ 12 → Z.1 (yc b c) j = nI (s_clr Y c j)) ∧ (∀ j, Z.1 (yc b 14) j = nI (s_clr Y 14 j)) ∧ (∀ k, ¬ (yc b 0 ≤ k ∧ k ≤ yc b 16) → Z.1 k = S.1 k) ∧ Z.2 = S.2 := by
  have hbb : b = 0 ∨ b = 1 := by omega
  obtain ⟨A, a1, a2, a3⟩ := c_fill (S := S) (n := n) (a := yc b 2) (len := 4) (v := nI 0) (by rcases hbb with rfl | rfl <;> rfl) (by rcases hbb with rfl | rfl <;> rfl) (by decide) hn
  obtain ⟨B, b1, b2, b3⟩ := c_fill (S := A) (n := n) (a := yc b 7) (len := 48) (v := nI 0) (by rcases hbb with rfl | rfl <;> rfl) (by rcases hbb with rfl | rfl <;> rfl) (by decide) hn
  obtain ⟨C, c1, c2, c3⟩ := c_fill (S := B) (n := n) (a := yc b 12) (len := 36) (v := nI 0) (by rcases hbb with rfl | rfl <;> rfl) (by rcases hbb with rfl | rfl <;> rfl) (by decide) hn
  have kc : ∀ k j, k ≠ yc b 2 → k ≠ yc b 7 → k ≠ yc b 12 → C.1 k j = S.1 k j := fun k j g1 g2 g3 => by rw [c2.1 k g3, b2.1 k g2, a2.1 k g1]
  refine ⟨xuI (xuI (xuI (xuI (xuI (xuI (xuI (xuI (xuI (xuI C (yc b 14) 2 (nI 0)) (yc b 14) 3 (nI 0)) (yc b 14) 4 (nI 0)) (yc b 14) 5 (nI 0)) (yc b 14) 6 (nI 0)) (yc b 0) 14 (nI 100)) (yc b 0) 15 (nI 0)) (yc b 0) 16 (nI 9)) (yc b 0) 17 (nI 5)) (yc b 0) 18 (nI 0), ?_, ?_, ?_, ?_, ?_⟩
  · simp (maxSteps := 3000000) (disch := (first | assumption | omega | exact hB _ _ | exact hYB _ _ | (simp only [yc, yd, sh, sv, ne_eq]; omega) | (simp (disch := omega) only [↓nm_1, ↓nm_2, nI_add, pk_mul, pk_sub, Nat.add_sub_cancel, qm1_add, qm2_add, nI_clamp, ni_0, ni_1, ni_5, ni_9, ni_100, a1, b1, c1]; refine qin_nI ?_ ?_ <;> first | omega | exact hB _ _ | exact hYB _ _) | (refine qin_nI ?_ ?_ <;> omega) | fail)) only [↓yc0_gd hb, ↓yc0_gI hb, ↓yc0_gM hb, ↓yc0_pI hb, ↓yc0_pM hb, ↓yc0_pZ hb, ↓yc0_gF0 hb, ↓yc0_gF1 hb, ↓yc0_gF2 hb, ↓yc0_gF3 hb, ↓yc0_gF4 hb, ↓yc0_gF5 hb, ↓yc0_gF6 hb, ↓yc0_gF7 hb, ↓yc0_gF8 hb, ↓yc0_gF9 hb, ↓yc0_gF10 hb, ↓yc0_gF11 hb, ↓yc0_gF12 hb, ↓yc0_gF13 hb, ↓yc1_al hb, ↓yc1_as hb, ↓yc1_ln hb, ↓yc2_al hb, ↓yc2_as hb, ↓yc2_ln hb, ↓yc3_al hb, ↓yc3_as hb, ↓yc3_ln hb, ↓yc4_al hb, ↓yc4_as hb, ↓yc4_ln hb, ↓yc5_al hb, ↓yc5_as hb, ↓yc5_ln hb, ↓yc6_al hb, ↓yc6_as hb, ↓yc6_ln hb, ↓yc7_al hb, ↓yc7_as hb, ↓yc7_ln hb, ↓yc8_al hb, ↓yc8_as hb, ↓yc8_ln hb, ↓yc9_al hb, ↓yc9_as hb, ↓yc9_ln hb, ↓yc10_al hb, ↓yc10_as hb, ↓yc10_ln hb, ↓yc11_al hb, ↓yc11_as hb, ↓yc11_ln hb, ↓yc12_al hb, ↓yc12_as hb, ↓yc12_ln hb, ↓yc13_al hb, ↓yc13_as hb, ↓yc13_ln hb, ↓yc14_gd hb, ↓yc14_gI hb, ↓yc14_gM hb, ↓yc14_pI hb, ↓yc14_pM hb, ↓yc14_pZ hb, ↓yc14_gF0 hb, ↓yc14_gF1 hb, ↓yc15_al hb, ↓yc15_as hb, ↓yc15_ln hb, ↓yc16_al hb, ↓yc16_as hb, ↓yc16_ln hb, ↓qb_so, ↓nm_1, ↓nm_2, ↓reduceIte, if_true, if_false, not_true_eq_false, not_false_eq_true, and_true, true_and, and_false, false_and, or_true, true_or, or_false, false_or, eq_self, ne_eq, quI_s, quI_n, quI2, quL1, quL2, quL3, quR1, quR2, quR3, nI_add, pk_mul, pk_sub, Nat.add_sub_cancel, qm1_add, qm2_add, nI_leI, nI_ltI, nI_eq, nI_m1, nI_m1', nI_clamp, nI_bit, nI_one_shl, nI_m1l, nI_m1lt, nI_m1lt', nI_m1le', oI_some, oI_none, ni_0, ni_1, ni_5, ni_9, ni_100, fX9_clear, fX1_clear, qle_t, qle_f, qlt_t, qlt_f, qeq_t, qeq_f, a1, b1, c1]
  · intro c j hc
    by_cases hc0 : c = 0
    · subst hc0
      rw [quI_s, quI_s, quI_s, quI_s, quI_s, quI_n (by unfold yc; omega), quI_n (by unfold yc; omega), quI_n (by unfold yc; omega), quI_n (by unfold yc; omega), quI_n (by unfold yc; omega), kc _ _ (by unfold yc; omega) (by unfold yc; omega) (by unfold yc; omega), h1 0 j hc]
      unfold s_clr
      rcases (by omega : j = 18 ∨ j = 17 ∨ j = 16 ∨ j = 15 ∨ j = 14 ∨ (j < 14 ∨ 18 < j)) with rfl | rfl | rfl | rfl | rfl | hj
      · rfl
      · rfl
      · rfl
      · rfl
      · rfl
      · rw [if_neg (by omega), if_neg (by omega), if_neg (by omega), if_neg (by omega), if_neg (by omega), if_neg (by omega), if_neg (by omega), if_neg (by omega), if_neg (by omega)]
    · rw [quI_n (by unfold yc; omega), quI_n (by unfold yc; omega), quI_n (by unfold yc; omega), quI_n (by unfold yc; omega), quI_n (by unfold yc; omega), quI_n (by unfold yc; omega), quI_n (by unfold yc; omega), quI_n (by unfold yc; omega), quI_n (by unfold yc; omega), quI_n (by unfold yc; omega)]
      by_cases g2 : c = 2
      · subst g2
        rw [c2.1 _ (by unfold yc; omega), b2.1 _ (by unfold yc; omega), a3, h1 2 j hc]
        unfold s_clr
        by_cases hj : j < 4
        · rw [if_pos hj, if_pos (by omega)]
        · rw [if_neg hj, if_neg (by omega), if_neg (by omega), if_neg (by omega), if_neg (by omega)]
      by_cases g7 : c = 7
      · subst g7
        rw [c2.1 _ (by unfold yc; omega), b3, a2.1 _ (by unfold yc; omega), h1 7 j hc]
        unfold s_clr
        by_cases hj : j < 48
        · rw [if_pos hj, if_pos (by omega)]
        · rw [if_neg hj, if_neg (by omega), if_neg (by omega), if_neg (by omega), if_neg (by omega)]
      by_cases g12 : c = 12
      · subst g12
        rw [c3, b2.1 _ (by unfold yc; omega), a2.1 _ (by unfold yc; omega), h1 12 j hc]
        unfold s_clr
        by_cases hj : j < 36
        · rw [if_pos hj, if_pos (by omega)]
        · rw [if_neg hj, if_neg (by omega), if_neg (by omega), if_neg (by omega), if_neg (by omega)]
      rw [kc _ _ (by unfold yc; omega) (by unfold yc; omega) (by unfold yc; omega), h1 c j hc]
      unfold s_clr
      rw [if_neg (by omega), if_neg (by omega), if_neg (by omega), if_neg (by omega)]
  · intro j
    rw [quI_n (by unfold yc; omega), quI_n (by unfold yc; omega), quI_n (by unfold yc; omega), quI_n (by unfold yc; omega), quI_n (by unfold yc; omega), quI_s, quI_s, quI_s, quI_s, quI_s, kc _ _ (by unfold yc; omega) (by unfold yc; omega) (by unfold yc; omega), h2 j]
    unfold s_clr
    rcases (by omega : j = 6 ∨ j = 5 ∨ j = 4 ∨ j = 3 ∨ j = 2 ∨ (j < 2 ∨ 6 < j)) with rfl | rfl | rfl | rfl | rfl | hj
    · rfl
    · rfl
    · rfl
    · rfl
    · rfl
    · rw [if_neg (by omega), if_neg (by omega), if_neg (by omega), if_neg (by omega), if_neg (by omega), if_neg (by omega), if_neg (by omega), if_neg (by omega), if_neg (by omega)]
  · intro k hk
    funext j
    rw [quI_k (by unfold yc at *; omega), quI_k (by unfold yc at *; omega), quI_k (by unfold yc at *; omega), quI_k (by unfold yc at *; omega), quI_k (by unfold yc at *; omega), quI_k (by unfold yc at *; omega), quI_k (by unfold yc at *; omega), quI_k (by unfold yc at *; omega), quI_k (by unfold yc at *; omega), quI_k (by unfold yc at *; omega)]
    exact kc k j (by unfold yc at *; omega) (by unfold yc at *; omega) (by unfold yc at *; omega)
  · show C.2 = S.2
    rw [c2.2, b2.2, a2.2]
theorem c_readY (hn : 2000 ≤ n) (hb : b < 2) (h1 : ∀ c j, c ≤ 12 → S.1 (yc b c) j = nI (Y c j)) (h2 : ∀ j, S.1 (yc b 14) j = nI (Y 14 j)) (ht : ∀ i, S.1 1 i = nI (f i)) (hf : ∀ i, f i < 256) (hL : L ≤ 1600) (ho : ∀ k, k < 32 → S.1 161 k = nI (s_own k)) :
    ∃ Z, fX10_read n 162 (yc b 0) (nI L) S = rF n n (nI 0) Z ∧ mkC Z b f L 0 (s_clr Y) [] ∧ (∀ k j, ¬ (k = 160 ∧ 2 ≤ j ∧ j ≤ 10) → ¬ (yc b 0 ≤ k ∧ k ≤ yc b 16) → Z.1 k j = S.1 k j) ∧ Z.2.1 = S.2.1 ∧ ∀ k j, ¬ (k = 162 ∧ j = 2) → Z.2.2 k j = S.2.2 k j := by
  obtain ⟨A, a1, a2, a3, a4, a5⟩ := c_clear (S := xuR S 162 2 (yc b 0)) hn hb h1 h2
  have hk : ∀ k j, ¬ (yc b 0 ≤ k ∧ k ≤ yc b 16) → A.1 k j = S.1 k j := fun k j hk => by rw [a4 k hk]; rfl
  have wk : ∀ k j, ¬ (k = 160 ∧ (j = 2 ∨ j = 3 ∨ j = 4 ∨ j = 9 ∨ j = 10)) → (xuI (xuI (xuI (xuI (xuI A 160 2 (nI L)) 160 3 (nI 0)) 160 4 (nI 3)) 160 9 (nI 0)) 160 10 qm1).1 k j = A.1 k j := fun k j hk => by rw [quI_k (by omega), quI_k (by omega), quI_k (by omega), quI_k (by omega), quI_k (by omega)]
  have htx : tx (xuI (xuI (xuI (xuI (xuI A 160 2 (nI L)) 160 3 (nI 0)) 160 4 (nI 3)) 160 9 (nI 0)) 160 10 qm1) f L := by
    refine ⟨fun i => ?_, ?_, hL, hf, fun k hk2 => ?_⟩
    · rw [wk _ _ (by omega), hk _ _ (by unfold yc; omega)]; exact ht i
    · rw [quI_k (by omega), quI_k (by omega), quI_k (by omega), quI_k (by omega), quI_e]
    · rw [wk _ _ (by omega), hk _ _ (by unfold yc; omega)]; exact ho k hk2
  obtain ⟨Z, z1, z2, z3⟩ := c_adv0 (a := 0) (ty := 3) hn htx (by rw [quI_k (by omega), quI_k (by omega), quI_k (by omega), quI_e]) (by omega) (by rw [quI_k (by omega), quI_k (by omega), quI_e]) (by decide) (by unfold sdB; omega)
  have r2 : A.2.2 162 2 = yc b 0 := by rw [a5]; exact quR_e
  have zk : ∀ c j, c ≤ 15 → Z.1 (yc b c) j = A.1 (yc b c) j := fun c j hc => by rw [z3.1 _ _ (by unfold yc; omega), wk _ _ (by unfold yc; omega)]
  refine ⟨Z, ?_, ⟨z2, by omega, fun c j hc => by rw [zk c j (by omega)]; exact a2 c j hc, fun j => by rw [zk 14 j (by decide)]; exact a3 j, trivial, rfl, by decide, ?_, ?_, ?_⟩, ?_, ?_, ?_⟩
  · have q1 : fX7_begin n 160 (nI L) A = some Z := by
      have l1 : ¬ 1600 < L := by omega
      by_cases l2 : 0 < L
      · simp (disch := (first | assumption | omega | exact hB _ _ | exact hYB _ _ | (simp only [yc, yd, sh, sv, ne_eq]; omega) | (simp (disch := omega) only [↓nm_1, ↓nm_2, nI_add, pk_mul, pk_sub, Nat.add_sub_cancel, qm1_add, qm2_add, nI_clamp, ni_0, ni_1, ni_3, l1, l2, z1]; refine qin_nI ?_ ?_ <;> first | omega | exact hB _ _ | exact hYB _ _) | (refine qin_nI ?_ ?_ <;> omega) | fail)) only [↓kc0_gd, ↓kc0_gI, ↓kc0_gM, ↓kc0_pI, ↓kc0_pM, ↓kc0_pZ, ↓kc0_gF0, ↓kc0_gF4, ↓kc0_gF5, ↓kc0_gF6, ↓kc0_gF7, ↓kc0_gF8, ↓kc0_gF9, ↓kc0_gF10, ↓kc0_gF11, ↓kc0_gF12, ↓kc0_gF14, ↓kc1_al, ↓kc1_as, ↓kc1_ln, ↓kc41_gd, ↓kc41_gI, ↓kc41_gM, ↓kc41_pI, ↓kc41_pM, ↓kc41_pZ, ↓kc41_gF0, ↓kc41_gF1, ↓kc42_ql, ↓kc43_al, ↓kc43_as, ↓kc43_ln, ↓kc148_gd, ↓kc148_gI, ↓kc148_gM, ↓kc148_pI, ↓kc148_pM, ↓kc148_pZ, ↓kc148_gF0, ↓kc148_gF1, ↓kc148_gF2, ↓kc148_gF4, ↓kc148_gF5, ↓kc154_al, ↓kc154_as, ↓kc154_ln, ↓kc155_al, ↓kc155_as, ↓kc155_ln, ↓kc160_gd, ↓kc160_gI, ↓kc160_gM, ↓kc160_pI, ↓kc160_pM, ↓kc160_pZ, ↓kc160_gF0, ↓kc160_gF1, ↓kc161_al, ↓kc161_as, ↓kc161_ln, ↓kc162_gd, ↓kc162_gI, ↓kc162_gM, ↓kc162_pI, ↓kc162_pM, ↓kc162_pZ, ↓kc162_gF0, ↓kc162_gF1, ↓kc163_gd, ↓kc163_gI, ↓kc163_gM, ↓kc163_pI, ↓kc163_pM, ↓kc163_pZ, ↓kc163_gF0, ↓kc164_gd, ↓kc164_gI, ↓kc164_gM, ↓kc164_pI, ↓kc164_pM, ↓kc164_pZ, ↓kc164_gF0, ↓kc164_gF1, ↓kc164_gF2, ↓kc164_gF3, ↓kc165_al, ↓kc165_as, ↓kc165_ln, ↓kc166_al, ↓kc166_as, ↓kc166_ln, ↓kc167_al, ↓kc167_as, ↓kc167_ln, ↓kc168_al, ↓kc168_as, ↓kc168_ln, ↓kc169_gd, ↓kc169_gI, ↓kc169_gM, ↓kc169_pI, ↓kc169_pM, ↓kc169_pZ, ↓kc169_gF0, ↓kc169_gF2, ↓kc170_al, ↓kc170_as, ↓kc170_ln, ↓kc171_gd, ↓kc171_gI, ↓kc171_gM, ↓kc171_pI, ↓kc171_pM, ↓kc171_pZ, ↓kc171_gF5, ↓kc171_gF6, ↓kc171_gF7, ↓kc171_gF8, ↓kc172_al, ↓kc172_as, ↓kc172_ln, ↓kc173_al, ↓kc173_as, ↓kc173_ln, ↓kc174_al, ↓kc174_as, ↓kc174_ln, ↓kc175_al, ↓kc175_as, ↓kc175_ln, ↓kc176_al, ↓kc176_as, ↓kc176_ln, ↓kc177_al, ↓kc177_as, ↓kc177_ln, ↓qb_so, ↓nm_1, ↓nm_2, ↓reduceIte, if_true, if_false, not_true_eq_false, not_false_eq_true, and_true, true_and, and_false, false_and, or_true, true_or, or_false, false_or, eq_self, ne_eq, quI_s, quI_n, quI2, quL1, quL2, quL3, quR1, quR2, quR3, nI_add, pk_mul, pk_sub, Nat.add_sub_cancel, qm1_add, qm2_add, nI_leI, nI_ltI, nI_eq, nI_m1, nI_m1', nI_clamp, nI_bit, nI_one_shl, nI_m1l, nI_m1lt, nI_m1lt', nI_m1le', oI_some, oI_none, ni_0, ni_1, ni_3, fX7_begin, qle_t, qle_f, qlt_t, qlt_f, qeq_t, qeq_f, l1, l2, z1]
      · have l3 : L = 0 := by omega
        subst l3
        simp (disch := (first | assumption | omega | exact hB _ _ | exact hYB _ _ | (simp only [yc, yd, sh, sv, ne_eq]; omega) | (simp (disch := omega) only [↓nm_1, ↓nm_2, nI_add, pk_mul, pk_sub, Nat.add_sub_cancel, qm1_add, qm2_add, nI_clamp, ni_0, ni_1, ni_3, z1]; refine qin_nI ?_ ?_ <;> first | omega | exact hB _ _ | exact hYB _ _) | (refine qin_nI ?_ ?_ <;> omega) | fail)) only [↓kc0_gd, ↓kc0_gI, ↓kc0_gM, ↓kc0_pI, ↓kc0_pM, ↓kc0_pZ, ↓kc0_gF0, ↓kc0_gF4, ↓kc0_gF5, ↓kc0_gF6, ↓kc0_gF7, ↓kc0_gF8, ↓kc0_gF9, ↓kc0_gF10, ↓kc0_gF11, ↓kc0_gF12, ↓kc0_gF14, ↓kc1_al, ↓kc1_as, ↓kc1_ln, ↓kc41_gd, ↓kc41_gI, ↓kc41_gM, ↓kc41_pI, ↓kc41_pM, ↓kc41_pZ, ↓kc41_gF0, ↓kc41_gF1, ↓kc42_ql, ↓kc43_al, ↓kc43_as, ↓kc43_ln, ↓kc148_gd, ↓kc148_gI, ↓kc148_gM, ↓kc148_pI, ↓kc148_pM, ↓kc148_pZ, ↓kc148_gF0, ↓kc148_gF1, ↓kc148_gF2, ↓kc148_gF4, ↓kc148_gF5, ↓kc154_al, ↓kc154_as, ↓kc154_ln, ↓kc155_al, ↓kc155_as, ↓kc155_ln, ↓kc160_gd, ↓kc160_gI, ↓kc160_gM, ↓kc160_pI, ↓kc160_pM, ↓kc160_pZ, ↓kc160_gF0, ↓kc160_gF1, ↓kc161_al, ↓kc161_as, ↓kc161_ln, ↓kc162_gd, ↓kc162_gI, ↓kc162_gM, ↓kc162_pI, ↓kc162_pM, ↓kc162_pZ, ↓kc162_gF0, ↓kc162_gF1, ↓kc163_gd, ↓kc163_gI, ↓kc163_gM, ↓kc163_pI, ↓kc163_pM, ↓kc163_pZ, ↓kc163_gF0, ↓kc164_gd, ↓kc164_gI, ↓kc164_gM, ↓kc164_pI, ↓kc164_pM, ↓kc164_pZ, ↓kc164_gF0, ↓kc164_gF1, ↓kc164_gF2, ↓kc164_gF3, ↓kc165_al, ↓kc165_as, ↓kc165_ln, ↓kc166_al, ↓kc166_as, ↓kc166_ln, ↓kc167_al, ↓kc167_as, ↓kc167_ln, ↓kc168_al, ↓kc168_as, ↓kc168_ln, ↓kc169_gd, ↓kc169_gI, ↓kc169_gM, ↓kc169_pI, ↓kc169_pM, ↓kc169_pZ, ↓kc169_gF0, ↓kc169_gF2, ↓kc170_al, ↓kc170_as, ↓kc170_ln, ↓kc171_gd, ↓kc171_gI, ↓kc171_gM, ↓kc171_pI, ↓kc171_pM, ↓kc171_pZ, ↓kc171_gF5, ↓kc171_gF6, ↓kc171_gF7, ↓kc171_gF8, ↓kc172_al, ↓kc172_as, ↓kc172_ln, ↓kc173_al, ↓kc173_as, ↓kc173_ln, ↓kc174_al, ↓kc174_as, ↓kc174_ln, ↓kc175_al, ↓kc175_as, ↓kc175_ln, ↓kc176_al, ↓kc176_as, ↓kc176_ln, ↓kc177_al, ↓kc177_as, ↓kc177_ln, ↓qb_so, ↓nm_1, ↓nm_2, ↓reduceIte, if_true, if_false, not_true_eq_false, not_false_eq_true, and_true, true_and, and_false, false_and, or_true, true_or, or_false, false_or, eq_self, ne_eq, quI_s, quI_n, quI2, quL1, quL2, quL3, quR1, quR2, quR3, nI_add, pk_mul, pk_sub, Nat.add_sub_cancel, qm1_add, qm2_add, nI_leI, nI_ltI, nI_eq, nI_m1, nI_m1', nI_clamp, nI_bit, nI_one_shl, nI_m1l, nI_m1lt, nI_m1lt', nI_m1le', oI_some, oI_none, ni_0, ni_1, ni_3, fX7_begin, qle_t, qle_f, qlt_t, qlt_f, qeq_t, qeq_f, z1]
    have r1 : (xuR S 162 2 (yc b 0)).2.2 162 2 = yc b 0 := quR_e
    unfold rF
    simp (disch := (first | assumption | omega | exact hB _ _ | exact hYB _ _ | (simp only [yc, yd, sh, sv, ne_eq]; omega) | (simp (disch := omega) only [↓nm_1, ↓nm_2, nI_add, pk_mul, pk_sub, Nat.add_sub_cancel, qm1_add, qm2_add, nI_clamp, ni_0, ni_1, ni_6, r1, a1, q1]; refine qin_nI ?_ ?_ <;> first | omega | exact hB _ _ | exact hYB _ _) | (refine qin_nI ?_ ?_ <;> omega) | fail)) only [↓kc0_gd, ↓kc0_gI, ↓kc0_gM, ↓kc0_pI, ↓kc0_pM, ↓kc0_pZ, ↓kc0_gF0, ↓kc0_gF4, ↓kc0_gF5, ↓kc0_gF6, ↓kc0_gF7, ↓kc0_gF8, ↓kc0_gF9, ↓kc0_gF10, ↓kc0_gF11, ↓kc0_gF12, ↓kc0_gF14, ↓kc1_al, ↓kc1_as, ↓kc1_ln, ↓kc41_gd, ↓kc41_gI, ↓kc41_gM, ↓kc41_pI, ↓kc41_pM, ↓kc41_pZ, ↓kc41_gF0, ↓kc41_gF1, ↓kc42_ql, ↓kc43_al, ↓kc43_as, ↓kc43_ln, ↓kc148_gd, ↓kc148_gI, ↓kc148_gM, ↓kc148_pI, ↓kc148_pM, ↓kc148_pZ, ↓kc148_gF0, ↓kc148_gF1, ↓kc148_gF2, ↓kc148_gF4, ↓kc148_gF5, ↓kc154_al, ↓kc154_as, ↓kc154_ln, ↓kc155_al, ↓kc155_as, ↓kc155_ln, ↓kc160_gd, ↓kc160_gI, ↓kc160_gM, ↓kc160_pI, ↓kc160_pM, ↓kc160_pZ, ↓kc160_gF0, ↓kc160_gF1, ↓kc161_al, ↓kc161_as, ↓kc161_ln, ↓kc162_gd, ↓kc162_gI, ↓kc162_gM, ↓kc162_pI, ↓kc162_pM, ↓kc162_pZ, ↓kc162_gF0, ↓kc162_gF1, ↓kc163_gd, ↓kc163_gI, ↓kc163_gM, ↓kc163_pI, ↓kc163_pM, ↓kc163_pZ, ↓kc163_gF0, ↓kc164_gd, ↓kc164_gI, ↓kc164_gM, ↓kc164_pI, ↓kc164_pM, ↓kc164_pZ, ↓kc164_gF0, ↓kc164_gF1, ↓kc164_gF2, ↓kc164_gF3, ↓kc165_al, ↓kc165_as, ↓kc165_ln, ↓kc166_al, ↓kc166_as, ↓kc166_ln, ↓kc167_al, ↓kc167_as, ↓kc167_ln, ↓kc168_al, ↓kc168_as, ↓kc168_ln, ↓kc169_gd, ↓kc169_gI, ↓kc169_gM, ↓kc169_pI, ↓kc169_pM, ↓kc169_pZ, ↓kc169_gF0, ↓kc169_gF2, ↓kc170_al, ↓kc170_as, ↓kc170_ln, ↓kc171_gd, ↓kc171_gI, ↓kc171_gM, ↓kc171_pI, ↓kc171_pM, ↓kc171_pZ, ↓kc171_gF5, ↓kc171_gF6, ↓kc171_gF7, ↓kc171_gF8, ↓kc172_al, ↓kc172_as, ↓kc172_ln, ↓kc173_al, ↓kc173_as, ↓kc173_ln, ↓kc174_al, ↓kc174_as, ↓kc174_ln, ↓kc175_al, ↓kc175_as, ↓kc175_ln, ↓kc176_al, ↓kc176_as, ↓kc176_ln, ↓kc177_al, ↓kc177_as, ↓kc177_ln, ↓qb_so, ↓nm_1, ↓nm_2, ↓reduceIte, if_true, if_false, not_true_eq_false, not_false_eq_true, and_true, true_and, and_false, false_and, or_true, true_or, or_false, false_or, eq_self, ne_eq, quI_s, quI_n, quI2, quL1, quL2, quL3, quR1, quR2, quR3, nI_add, pk_mul, pk_sub, Nat.add_sub_cancel, qm1_add, qm2_add, nI_leI, nI_ltI, nI_eq, nI_m1, nI_m1', nI_clamp, nI_bit, nI_one_shl, nI_m1l, nI_m1lt, nI_m1lt', nI_m1le', oI_some, oI_none, ni_0, ni_1, ni_6, fX10_read, qle_t, qle_f, qlt_t, qlt_f, qeq_t, qeq_f, r1, a1, q1]
  · rw [z3.2]; exact r2
  · rw [z3.1 _ _ (by omega), quI_k (by omega), quI_e]
  · rw [z3.1 _ _ (by omega), quI_e]
  · intro k j g1 g2
    rw [z3.1 _ _ (by omega), wk _ _ (by omega), hk _ _ g2]
  · rw [z3.2]; show A.2.1 = _; rw [a5]; rfl
  · intro k j g1
    rw [z3.2]
    show A.2.2 k j = _
    rw [a5, quR3]
    by_cases k1 : k = 162
    · rw [if_pos k1, if_neg (fun hh => g1 ⟨k1, hh⟩)]
    · rw [if_neg k1]
end Q9z7

