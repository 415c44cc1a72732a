/-! ===== the bounds are kept ===== -/
def dV (Y D : Nat → Nat → Nat) (c j v : Nat) : Prop :=
  v < 2 ^ 31 ∧ (c = 0 → j = 0 → v ≤ 999 ∧ D 0 0 ≤ v) ∧ (c = 0 → j = 1 → v ≤ 9999) ∧ (c = 0 → j = 2 → v < 2 ^ Y 2 1) ∧ (c = 0 → j = 3 → v < 2 ^ Y 2 1) ∧ (c = 0 → j = 4 → v ≤ s_sum D (Y 2 3)) ∧ (c = 1 → v ≤ 100) ∧ (c = 2 → v ≤ 9) ∧
  (c = 3 → D 3 j ≤ v ∧ (j < Y 2 3 → v ≤ Y 9 j)) ∧ (c = 4 → v ≤ 999) ∧ (c = 5 → j = 0 → v < 2 ^ Y 2 1) ∧ (c = 5 → j = 1 → v < 2 ^ Y 2 2) ∧ (c = 5 → j = 3 → v ≤ s_sum D (Y 2 3)) ∧ (c = 5 → j = 2 → v ≤ 6000 * (D 0 0 + 1)) ∧ (c = 1 → j < 8) ∧ (c = 2 → j < 48) ∧ (c = 3 → j < 6) ∧ (c = 4 → j < 6)
theorem s_sum_mono {D : Nat → Nat → Nat} {c j v : Nat} (h : c = 3 → D 3 j ≤ v) : ∀ n, s_sum D n ≤ s_sum (dU D c j v) n
  | 0 => Nat.le_refl _
  | n + 1 => by
    have := s_sum_mono (D := D) (c := c) (j := j) (v := v) h n
    unfold s_sum
    by_cases hc : c = 3
    · subst hc
      rw [dU_r]
      split
      · rename_i e; subst e; have := h rfl; omega
      · omega
    · rw [dU_c (by omega)]; omega
theorem dU_cases {D : Nat → Nat → Nat} {c j v c' j' : Nat} : (dU D c j v c' j' = v ∧ c' = c ∧ j' = j) ∨ (dU D c j v c' j' = D c' j' ∧ ¬ (c' = c ∧ j' = j)) := by
  by_cases h1 : c' = c
  · by_cases h2 : j' = j
    · subst h1; subst h2; exact Or.inl ⟨dU_s, rfl, rfl⟩
    · exact Or.inr ⟨dU_j h2, fun h => h2 h.2⟩
  · exact Or.inr ⟨dU_c h1, fun h => h1 h.1⟩
theorem dOk_u {Y D : Nat → Nat → Nat} (h : dOk Y D) {c j v : Nat} (hv : dV Y D c j v) : dOk Y (dU D c j v) := by
  obtain ⟨a0, a1, a2, a3, a4, a5, a6, a7, a8, a9, a10, a11, a12, a13, z1, z2, z3, z4⟩ := h
  obtain ⟨v0, v1, v2, v3, v4, v5, v6, v7, v8, v9, v10, v11, v12, v13, w1, w2, w3, w4⟩ := hv
  have hs := s_sum_mono (D := D) (c := c) (j := j) (v := v) (fun hc => (v8 hc).1) (Y 2 3)
  refine ⟨?_, ?_, ?_, ?_, fun t => ?_, fun i => ?_, fun i hi => ?_, fun i => ?_, ?_, dU_B a9 v0, ?_, ?_, ?_, ?_, fun t ht => ?_, fun t ht => ?_, fun t ht => ?_, fun t ht => ?_⟩
  · rcases dU_cases (D := D) (c := c) (j := j) (v := v) (c' := 0) (j' := 0) with ⟨e, hc, hj⟩ | ⟨e, _⟩ <;> rw [e]
    · exact (v1 hc.symm hj.symm).1
    · exact a0
  · rcases dU_cases (D := D) (c := c) (j := j) (v := v) (c' := 0) (j' := 1) with ⟨e, hc, hj⟩ | ⟨e, _⟩ <;> rw [e]
    · exact v2 hc.symm hj.symm
    · exact a1
  · rcases dU_cases (D := D) (c := c) (j := j) (v := v) (c' := 0) (j' := 2) with ⟨e, hc, hj⟩ | ⟨e, _⟩ <;> rw [e]
    · exact v3 hc.symm hj.symm
    · exact a2
  · rcases dU_cases (D := D) (c := c) (j := j) (v := v) (c' := 0) (j' := 3) with ⟨e, hc, hj⟩ | ⟨e, _⟩ <;> rw [e]
    · exact v4 hc.symm hj.symm
    · exact a3
  · rcases dU_cases (D := D) (c := c) (j := j) (v := v) (c' := 1) (j' := t) with ⟨e, hc, hj⟩ | ⟨e, _⟩ <;> rw [e]
    · exact v6 hc.symm
    · exact a4 t
  · rcases dU_cases (D := D) (c := c) (j := j) (v := v) (c' := 2) (j' := i) with ⟨e, hc, hj⟩ | ⟨e, _⟩ <;> rw [e]
    · exact v7 hc.symm
    · exact a5 i
  · rcases dU_cases (D := D) (c := c) (j := j) (v := v) (c' := 3) (j' := i) with ⟨e, hc, hj⟩ | ⟨e, _⟩ <;> rw [e]
    · subst hj; exact (v8 hc.symm).2 hi
    · exact a6 i hi
  · rcases dU_cases (D := D) (c := c) (j := j) (v := v) (c' := 4) (j' := i) with ⟨e, hc, hj⟩ | ⟨e, _⟩ <;> rw [e]
    · exact v9 hc.symm
    · exact a7 i
  · rcases dU_cases (D := D) (c := c) (j := j) (v := v) (c' := 0) (j' := 4) with ⟨e, hc, hj⟩ | ⟨e, _⟩ <;> rw [e]
    · have := v5 hc.symm hj.symm; omega
    · omega
  · rcases dU_cases (D := D) (c := c) (j := j) (v := v) (c' := 5) (j' := 0) with ⟨e, hc, hj⟩ | ⟨e, _⟩ <;> rw [e]
    · exact v10 hc.symm hj.symm
    · exact a10
  · rcases dU_cases (D := D) (c := c) (j := j) (v := v) (c' := 5) (j' := 1) with ⟨e, hc, hj⟩ | ⟨e, _⟩ <;> rw [e]
    · exact v11 hc.symm hj.symm
    · exact a11
  · rcases dU_cases (D := D) (c := c) (j := j) (v := v) (c' := 5) (j' := 3) with ⟨e, hc, hj⟩ | ⟨e, _⟩ <;> rw [e]
    · have := v12 hc.symm hj.symm; omega
    · omega
  · rcases dU_cases (D := D) (c := c) (j := j) (v := v) (c' := 5) (j' := 2) with ⟨e, hc, hj⟩ | ⟨e, _⟩ <;> rw [e]
    · have := v13 hc.symm hj.symm
      rw [dU_c (by omega)]
      exact this
    · rcases dU_cases (D := D) (c := c) (j := j) (v := v) (c' := 0) (j' := 0) with ⟨e, hc, hj⟩ | ⟨e, _⟩ <;> rw [e]
      · have := (v1 hc.symm hj.symm).2; omega
      · exact a13
  · rcases dU_cases (D := D) (c := c) (j := j) (v := v) (c' := 1) (j' := t) with ⟨e, hc, hj⟩ | ⟨e, _⟩ <;> rw [e]
    · have := w1 hc.symm; omega
    · exact z1 t ht
  · rcases dU_cases (D := D) (c := c) (j := j) (v := v) (c' := 2) (j' := t) with ⟨e, hc, hj⟩ | ⟨e, _⟩ <;> rw [e]
    · have := w2 hc.symm; omega
    · exact z2 t ht
  · rcases dU_cases (D := D) (c := c) (j := j) (v := v) (c' := 3) (j' := t) with ⟨e, hc, hj⟩ | ⟨e, _⟩ <;> rw [e]
    · have := w3 hc.symm; omega
    · exact z3 t ht
  · rcases dU_cases (D := D) (c := c) (j := j) (v := v) (c' := 4) (j' := t) with ⟨e, hc, hj⟩ | ⟨e, _⟩ <;> rw [e]
    · have := w4 hc.symm; omega
    · exact z4 t ht
/-- a value that no bound but the least speaks of -/
theorem dV_6 {Y D : Nat → Nat → Nat} {j v : Nat} (hv : v < 2 ^ 31) : dV Y D 6 j v := ⟨hv, by omega, by omega, by omega, by omega, by omega, by omega, by omega, by omega, by omega, by omega, by omega, by omega, by omega, by omega, by omega, by omega, by omega⟩
theorem dV_01 {Y D : Nat → Nat → Nat} {v : Nat} (hv : v ≤ 9999) : dV Y D 0 1 v := ⟨by omega, by omega, by omega, by omega, by omega, by omega, by omega, by omega, by omega, by omega, by omega, by omega, by omega, by omega, by omega, by omega, by omega, by omega⟩
theorem dV_1 {Y D : Nat → Nat → Nat} {t v : Nat} (ht : t < 8) (hv : v ≤ 100) : dV Y D 1 t v := ⟨by omega, by omega, by omega, by omega, by omega, by omega, by omega, by omega, by omega, by omega, by omega, by omega, by omega, by omega, by omega, by omega, by omega, by omega⟩
theorem dV_2 {Y D : Nat → Nat → Nat} {t v : Nat} (ht : t < 48) (hv : v ≤ 9) : dV Y D 2 t v := ⟨by omega, by omega, by omega, by omega, by omega, by omega, by omega, by omega, by omega, by omega, by omega, by omega, by omega, by omega, by omega, by omega, by omega, by omega⟩
theorem dV_4 {Y D : Nat → Nat → Nat} {t v : Nat} (ht : t < 6) (hv : v ≤ 999) : dV Y D 4 t v := ⟨by omega, by omega, by omega, by omega, by omega, by omega, by omega, by omega, by omega, by omega, by omega, by omega, by omega, by omega, by omega, by omega, by omega, by omega⟩
theorem s_lt31 {n v : Nat} (hn : n ≤ 8) (h : v < 2 ^ n) : v < 2 ^ 31 := Nat.lt_trans (s_2pow8 h hn) (by decide)
theorem dV_02 {Y D : Nat → Nat → Nat} {v : Nat} (hY : yrOk Y) (hv : v < 2 ^ Y 2 1) : dV Y D 0 2 v := ⟨s_lt31 hY.1.2.1 hv, by omega, by omega, fun _ _ => hv, by omega, by omega, by omega, by omega, by omega, by omega, by omega, by omega, by omega, by omega, by omega, by omega, by omega, by omega⟩
theorem dV_03 {Y D : Nat → Nat → Nat} {v : Nat} (hY : yrOk Y) (hv : v < 2 ^ Y 2 1) : dV Y D 0 3 v := ⟨s_lt31 hY.1.2.1 hv, by omega, by omega, by omega, fun _ _ => hv, by omega, by omega, by omega, by omega, by omega, by omega, by omega, by omega, by omega, by omega, by omega, by omega, by omega⟩
theorem dV_50 {Y D : Nat → Nat → Nat} {v : Nat} (hY : yrOk Y) (hv : v < 2 ^ Y 2 1) : dV Y D 5 0 v := ⟨s_lt31 hY.1.2.1 hv, by omega, by omega, by omega, by omega, by omega, by omega, by omega, by omega, by omega, fun _ _ => hv, by omega, by omega, by omega, by omega, by omega, by omega, by omega⟩
theorem dV_51 {Y D : Nat → Nat → Nat} {v : Nat} (hY : yrOk Y) (hv : v < 2 ^ Y 2 2) : dV Y D 5 1 v := ⟨s_lt31 (Nat.le_trans hY.1.2.2.1 (by decide)) hv, by omega, by omega, by omega, by omega, by omega, by omega, by omega, by omega, by omega, by omega, fun _ _ => hv, by omega, by omega, by omega, by omega, by omega, by omega⟩
theorem dV_00 {Y D : Nat → Nat → Nat} {v : Nat} (hv : v ≤ 999) (h2 : D 0 0 ≤ v) : dV Y D 0 0 v := ⟨by omega, fun _ _ => ⟨hv, h2⟩, by omega, by omega, by omega, by omega, by omega, by omega, by omega, by omega, by omega, by omega, by omega, by omega, by omega, by omega, by omega, by omega⟩
theorem dV_04 {Y D : Nat → Nat → Nat} {v : Nat} (h31 : v < 2 ^ 31) (hv : v ≤ s_sum D (Y 2 3)) : dV Y D 0 4 v := ⟨h31, by omega, by omega, by omega, by omega, fun _ _ => hv, by omega, by omega, by omega, by omega, by omega, by omega, by omega, by omega, by omega, by omega, by omega, by omega⟩
theorem dV_53 {Y D : Nat → Nat → Nat} {v : Nat} (h31 : v < 2 ^ 31) (hv : v ≤ s_sum D (Y 2 3)) : dV Y D 5 3 v := ⟨h31, by omega, by omega, by omega, by omega, by omega, by omega, by omega, by omega, by omega, by omega, by omega, fun _ _ => hv, by omega, by omega, by omega, by omega, by omega⟩
theorem dV_52 {Y D : Nat → Nat → Nat} {v : Nat} (h31 : v < 2 ^ 31) (hv : v ≤ 6000 * (D 0 0 + 1)) : dV Y D 5 2 v := ⟨h31, by omega, by omega, by omega, by omega, by omega, by omega, by omega, by omega, by omega, by omega, by omega, by omega, fun _ _ => hv, by omega, by omega, by omega, by omega⟩
theorem dV_3 {Y D : Nat → Nat → Nat} {j v : Nat} (hj6 : j < 6) (h31 : v < 2 ^ 31) (h1 : D 3 j ≤ v) (h2 : j < Y 2 3 → v ≤ Y 9 j) : dV Y D 3 j v := ⟨h31, by omega, by omega, by omega, by omega, by omega, by omega, by omega, fun _ => ⟨h1, h2⟩, by omega, by omega, by omega, by omega, by omega, by omega, by omega, by omega, by omega⟩
section Q28
variable {Y D : Nat → Nat → Nat} {mc wc : List (Nat × Nat)} {R row : Nat → Nat}
theorem dOk_sum (hY : yrOk Y) (h : dOk Y D) : s_sum D (Y 2 3) ≤ 24 := by
  have hj := hY.1.2.2.2
  have := s_sum_bound (Y := Y) (D := D) (m := Y 2 3) (fun j hj => Nat.le_trans (h.2.2.2.2.2.2.1 j hj) (hY.2.2.2.2.2.1 j hj).2.1) (Y 2 3) (Nat.le_refl _)
  omega
theorem s_pay_ok (hY : yrOk Y) (h : dOk Y D) : dOk Y (s_pay Y D) := dOk_u h (dV_01 (by split <;> omega))
theorem s_use1_ok (h : dOk Y D) {t g wear : Nat} (ht : t < 8) (hg : g < 6) : dOk Y (s_use1 D t g wear) := dOk_u (dOk_u h (dV_1 ht (by split <;> omega))) (dV_2 (by omega) (by split <;> omega))
theorem s_use2_ok (hY : yrOk Y) (h : dOk Y D) {t rest : Nat} (ht : t < Y 2 1) : dOk Y (s_use2 Y D t rest) := by
  have key : ∀ E, dOk Y E → dOk Y (if E 1 t < Y 0 14 then E else dU E 0 2 (E 0 2 ||| 2 ^ t)) := by
    intro E hE
    split
    · exact hE
    · exact dOk_u hE (dV_02 hY (s_or_lt hE.2.2.1 ht))
  unfold s_use2
  by_cases hr : rest = 1
  · simp only [if_pos hr]; exact key _ (s_pay_ok hY h)
  · simp only [if_neg hr]; exact key _ h
theorem s_keep_ok (hY : yrOk Y) (h : dOk Y D) {j t g : Nat} (hj : j < Y 2 3) (ht : t < Y 2 1) (hg : g < Y 2 2) (hto : D 0 4 + 1 ≤ s_sum D (Y 2 3)) : dOk Y (s_keep D j t g) := by
  have h6 : Y 2 3 ≤ 6 := hY.1.2.2.2
  have h8 : Y 2 1 ≤ 8 := hY.1.2.1
  have h62 : Y 2 2 ≤ 6 := hY.1.2.2.1
  have hb := dOk_B h 0 0
  have hs := dOk_sum hY h
  refine dOk_u (dOk_u (dOk_u (dOk_u (dOk_u h (dV_6 hb)) (dV_6 (by omega))) (dV_6 (by omega))) (dV_6 (by omega))) (dV_04 (by omega) ?_)
  rw [s_sum_dU (by decide), s_sum_dU (by decide), s_sum_dU (by decide), s_sum_dU (by decide)]
  exact hto
theorem s_use3_ok (hY : yrOk Y) (h : dOk Y D) {j t g : Nat} (hj : j < Y 2 3) (ht : t < Y 2 1) (hg : g < Y 2 2) (hd : D 3 j < Y 9 j) : dOk Y (s_use3 D j t g) := by
  have hs := dOk_sum hY h
  have h9 := (hY.2.2.2.2.2.1 j hj).2.1
  have o1 : dOk Y (dU (dU D 5 0 (D 5 0 ||| 2 ^ t)) 5 1 (D 5 1 ||| 2 ^ g)) := dOk_u (dOk_u h (dV_50 hY (s_or_lt h.2.2.2.2.2.2.2.2.2.2.1 ht))) (dV_51 hY (s_or_lt h.2.2.2.2.2.2.2.2.2.2.2.1 hg))
  have o2 : dOk Y (dU (dU (dU D 5 0 (D 5 0 ||| 2 ^ t)) 5 1 (D 5 1 ||| 2 ^ g)) 3 j (D 3 j + 1)) := dOk_u o1 (dV_3 (by have := hY.1.2.2.2; omega) (by omega) (by rw [dU_c (by decide), dU_c (by decide)]; omega) (fun _ => by omega))
  have e2 : s_sum (dU (dU (dU D 5 0 (D 5 0 ||| 2 ^ t)) 5 1 (D 5 1 ||| 2 ^ g)) 3 j (D 3 j + 1)) (Y 2 3) = s_sum D (Y 2 3) + 1 := by
    have := s_sum_up (D := dU (dU D 5 0 (D 5 0 ||| 2 ^ t)) 5 1 (D 5 1 ||| 2 ^ g)) (Y 2 3) hj
    have a1 := s_sum_dU (D := dU D 5 0 (D 5 0 ||| 2 ^ t)) (c := 5) (j := 1) (v := D 5 1 ||| 2 ^ g) (by decide) (Y 2 3)
    have a2 := s_sum_dU (D := D) (c := 5) (j := 0) (v := D 5 0 ||| 2 ^ t) (by decide) (Y 2 3)
    exact this.trans (by rw [a1, a2])
  have h53 := h.2.2.2.2.2.2.2.2.2.2.2.2.1
  have o3 := dOk_u o2 (dV_53 (v := D 5 3 + 1) (by omega) (by rw [e2]; omega))
  refine s_keep_ok hY o3 hj ht hg ?_
  rw [s_sum_dU (by decide), e2]
  have := h.2.2.2.2.2.2.2.2.1
  show D 0 4 + 1 ≤ _
  omega
theorem s_use2_3 {t rest i : Nat} : s_use2 Y D t rest 3 i = D 3 i := by
  unfold s_use2 s_pay
  try dsimp only
  repeat' split
  all_goals first | rfl | simp [dU]
theorem s_use_ok (hY : yrOk Y) (h : dOk Y D) {fr j t g : Nat} (hj : j < Y 2 3) (ht : t < Y 2 1) (hg : g < Y 2 2) (hd : D 3 j < Y 9 j) : dOk Y (s_use Y wc R D fr j t g) := by
  refine s_use3_ok hY (s_use2_ok hY (s_use1_ok h (by have := hY.1.2.1; omega) (by have := hY.1.2.2.1; omega)) ht) hj ht hg ?_
  rw [s_use2_3]
  exact hd
theorem s_step_ok (hY : yrOk Y) (h : dOk Y D) {fr j : Nat} (hj : j < Y 2 3) : dOk Y (s_step Y mc wc R fr D j) := by
  unfold s_step
  split
  · rename_i hd
    cases ho : s_tool Y mc R D fr j with
    | none => exact h
    | some t =>
      obtain ⟨ht, _, _, g, hg⟩ := s_tool_P ho
      simp only [hg]
      exact s_use_ok hY h hj ht (s_hand_lt hg).1 hd
  · exact h
theorem s_jobsL_ok (hY : yrOk Y) {fr : Nat} (hrow : ∀ i, i < Y 2 3 → row i < Y 2 3) : ∀ (k i : Nat) (D : Nat → Nat → Nat), i + k = Y 2 3 → dOk Y D → dOk Y (s_jobsL Y mc wc R row fr k i D)
  | 0, i, D, _, h => h
  | k + 1, i, D, hk, h => by
    unfold s_jobsL
    exact s_jobsL_ok hY hrow k (i + 1) _ (by omega) (s_step_ok hY h (hrow i (by omega)))
theorem s_late_le (h : dOk Y D) (j : Nat) : s_late Y D j ≤ 999 := by unfold s_late; have := h.1; split <;> omega
theorem s_pays_ok (hY : yrOk Y) (h : dOk Y D) {j : Nat} (hl : D 5 2 ≤ 6000 * D 0 0 + 999 * j) (hj : j < 6) : dOk Y (s_pays Y D j) ∧ s_pays Y D j 5 2 ≤ 6000 * s_pays Y D j 0 0 + 999 * (j + 1) ∧ s_pays Y D j 0 0 = D 0 0 := by
  have h1 := s_late_le h j
  have h0 := h.1
  have o : dOk Y (dU D 5 2 (D 5 2 + s_late Y D j)) := dOk_u h (dV_52 (by omega) (by omega))
  unfold s_pays
  split
  · refine ⟨o, ?_, rfl⟩
    rw [dU_s, dU_c (by decide)]; omega
  · refine ⟨s_pay_ok hY o, ?_, rfl⟩
    show dU D 5 2 (D 5 2 + s_late Y D j) 5 2 ≤ 6000 * D 0 0 + 999 * (j + 1)
    rw [dU_s]; omega
theorem s_paysL_ok (hY : yrOk Y) : ∀ (k j : Nat) (D : Nat → Nat → Nat), j + k ≤ 6 → dOk Y D → D 5 2 ≤ 6000 * D 0 0 + 999 * j → dOk Y (s_paysL Y k j D) ∧ s_paysL Y k j D 5 2 ≤ 6000 * D 0 0 + 999 * 6 ∧ s_paysL Y k j D 0 0 = D 0 0
  | 0, j, D, hk, h, hl => ⟨h, by unfold s_paysL; omega, rfl⟩
  | k + 1, j, D, hk, h, hl => by
    obtain ⟨a, b, c⟩ := s_pays_ok hY h hl (by omega)
    obtain ⟨a2, b2, c2⟩ := s_paysL_ok hY k (j + 1) (s_pays Y D j) (by omega) a b
    unfold s_paysL
    rw [c] at b2 c2
    exact ⟨a2, b2, c2⟩
end Q28

