/-! ===== what a day keeps, how many steps it works ===== -/
theorem s_pc_or : ∀ u, u < 256 → ∀ t, t < 8 → u.testBit t = false → s_pc (u ||| 2 ^ t) = s_pc u + 1 := by decide +kernel
section Q51
variable {S Z V : xSt} {b n : Nat} {Y D E : Nat → Nat → Nat} {mc wc : List (Nat × Nat)} {R row : Nat → Nat} {P P' : Nat → Nat → Nat → Nat} {G G' : Nat → Nat → Nat}
theorem pre_refl (D : Nat → Nat → Nat) : pre D D := ⟨Nat.le_refl _, fun _ _ => rfl⟩
theorem pre_trans {A B C : Nat → Nat → Nat} (h : pre A B) (g : pre B C) : pre A C := ⟨Nat.le_trans h.1 g.1, fun k hk => (h.2 k hk).trans (g.2 k (by have := h.1; omega))⟩
/-- what neither told nor kept rows know of -/
def nK (A B : Nat → Nat → Nat) : Prop := A 0 4 = B 0 4 ∧ ∀ k, A 6 k = B 6 k
theorem pre_nK {A B : Nat → Nat → Nat} (h : nK A B) : pre A B := ⟨by rw [h.1]; exact Nat.le_refl _, fun k _ => h.2 k⟩
theorem s_use2_nK {t rest : Nat} : nK D (s_use2 Y D t rest) := by
  unfold s_use2 s_pay
  try dsimp only
  repeat' split
  all_goals exact ⟨rfl, fun _ => rfl⟩
theorem s_keep_pre {j t g : Nat} : pre D (s_keep D j t g) := by
  unfold s_keep
  refine ⟨by rw [dU_s]; omega, fun k hk => ?_⟩
  rw [dU_c (by decide), dU_j (by omega), dU_j (by omega), dU_j (by omega), dU_j (by omega)]
theorem s_use_pre {fr j t g : Nat} : pre D (s_use Y wc R D fr j t g) := by
  unfold s_use s_use3
  refine pre_trans (pre_nK (B := s_use2 Y (s_use1 D t g (s_wear Y wc R D fr j t g)) t (s_rest Y R D (s_kind Y D j))) ?_) (pre_trans (pre_nK ?_) s_keep_pre)
  · have := s_use2_nK (Y := Y) (D := s_use1 D t g (s_wear Y wc R D fr j t g)) (t := t) (rest := s_rest Y R D (s_kind Y D j))
    exact ⟨this.1, this.2⟩
  · exact ⟨rfl, fun _ => rfl⟩
theorem s_step_pre {fr j : Nat} : pre D (s_step Y mc wc R fr D j) := by
  unfold s_step
  split
  · cases s_tool Y mc R D fr j with
    | none => exact pre_refl D
    | some t =>
      cases hg : s_hand Y D t with
      | none => simp only [hg]; exact pre_refl D
      | some g => simp only [hg]; exact s_use_pre
  · exact pre_refl D
theorem s_jobsL_pre {fr : Nat} : ∀ (k i : Nat) (D : Nat → Nat → Nat), pre D (s_jobsL Y mc wc R row fr k i D)
  | 0, i, D => pre_refl D
  | k + 1, i, D => by unfold s_jobsL; exact pre_trans s_step_pre (s_jobsL_pre k (i + 1) _)
theorem s_paysL_nK : ∀ (k j : Nat) (D : Nat → Nat → Nat), nK D (s_paysL Y k j D)
  | 0, j, D => ⟨rfl, fun _ => rfl⟩
  | k + 1, j, D => by
    have h1 : nK D (s_pays Y D j) := by unfold s_pays s_pay; split <;> exact ⟨rfl, fun _ => rfl⟩
    have h2 := s_paysL_nK k (j + 1) (s_pays Y D j)
    unfold s_paysL
    exact ⟨h1.1.trans h2.1, fun i => (h1.2 i).trans (h2.2 i)⟩
theorem s_day_pre {fr : Nat} : pre D (s_day Y mc wc R row fr D) := by
  have h1 : nK D (s_fresh (s_mend Y D)) := ⟨by unfold s_fresh; rw [dU_c (by decide), dU_c (by decide), s_mend_c (by decide) (by omega)], fun k => by unfold s_fresh; rw [dU_c (by decide), dU_c (by decide), s_mend_c (by decide) (by omega)]⟩
  have h2 := s_jobsL_pre (Y := Y) (mc := mc) (wc := wc) (R := R) (row := row) (fr := fr) (Y 2 3) 0 (s_fresh (s_mend Y D))
  have h3 := s_paysL_nK (Y := Y) (Y 2 3) 0 (s_jobsL Y mc wc R row fr (Y 2 3) 0 (s_fresh (s_mend Y D)))
  unfold s_day
  exact pre_trans (pre_nK h1) (pre_trans h2 (pre_trans (pre_nK h3) ⟨Nat.le_refl _, fun _ _ => rfl⟩))
theorem s_run_pre : ∀ (k : Nat) (D : Nat → Nat → Nat), pre D (s_run Y mc wc R row k D)
  | 0, D => pre_refl D
  | k + 1, D => by rw [s_run_succ]; exact pre_trans s_day_pre (s_run_pre k _)
/-- as many steps as tools used -/
def wk (A B : Nat → Nat → Nat) : Prop := B 5 3 + s_pc (A 5 0) = A 5 3 + s_pc (B 5 0)
theorem s_use_wk (hY : yrOk Y) (h : dOk Y D) {fr j t g : Nat} (ht : t < Y 2 1) (hbit : (D 5 0).testBit t = false) : wk D (s_use Y wc R D fr j t g) := by
  have h8 : Y 2 1 ≤ 8 := hY.1.2.1
  have hu : D 5 0 < 256 := s_2pow8 h.2.2.2.2.2.2.2.2.2.2.1 h8
  have e2 : ∀ i, s_use2 Y (s_use1 D t g (s_wear Y wc R D fr j t g)) t (s_rest Y R D (s_kind Y D j)) 5 i = D 5 i := by
    intro i
    unfold s_use2 s_pay
    try dsimp only
    repeat' split
    all_goals rfl
  have a0 : s_use Y wc R D fr j t g 5 0 = D 5 0 ||| 2 ^ t := by
    unfold s_use s_use3 s_keep
    rw [dU_c (by decide), dU_c (by decide), dU_c (by decide), dU_c (by decide), dU_c (by decide), dU_j (by decide), dU_c (by decide), dU_j (by decide), dU_s, e2]
  have a3 : s_use Y wc R D fr j t g 5 3 = D 5 3 + 1 := by
    unfold s_use s_use3 s_keep
    rw [dU_c (by decide), dU_c (by decide), dU_c (by decide), dU_c (by decide), dU_c (by decide), dU_s, e2]
  unfold wk
  rw [a0, a3, s_pc_or _ hu t (by omega) hbit]
  omega
theorem s_step_wk (hY : yrOk Y) (h : dOk Y D) {fr j : Nat} : wk D (s_step Y mc wc R fr D j) := by
  unfold s_step
  split
  · cases ho : s_tool Y mc R D fr j with
    | none => rfl
    | some t =>
      obtain ⟨ht, _, hbit, g, hg⟩ := s_tool_P ho
      simp only [hg]
      refine s_use_wk hY h ht ?_
      rw [Nat.testBit_or] at hbit
      simp only [Bool.or_eq_false_iff] at hbit
      exact hbit.2
  · rfl
theorem s_jobsL_wk (hY : yrOk Y) {fr : Nat} (hrow : ∀ i, i < Y 2 3 → row i < Y 2 3) : ∀ (k i : Nat) (D : Nat → Nat → Nat), i + k = Y 2 3 → dOk Y D → wk D (s_jobsL Y mc wc R row fr k i D)
  | 0, i, D, _, _ => rfl
  | k + 1, i, D, hk, h => by
    have h1 := s_step_wk (mc := mc) (wc := wc) (R := R) (fr := fr) (j := row i) hY h
    have h2 := s_jobsL_wk hY (fr := fr) hrow k (i + 1) _ (by omega) (s_step_ok (mc := mc) (wc := wc) (R := R) (fr := fr) hY h (hrow i (by omega)))
    unfold s_jobsL
    unfold wk at h1 h2 ⊢
    omega
theorem s_paysL_53 : ∀ (k j : Nat) (D : Nat → Nat → Nat), s_paysL Y k j D 5 3 = D 5 3 ∧ s_paysL Y k j D 5 0 = D 5 0
  | 0, j, D => ⟨rfl, rfl⟩
  | k + 1, j, D => by
    have h1 : s_pays Y D j 5 3 = D 5 3 ∧ s_pays Y D j 5 0 = D 5 0 := by unfold s_pays s_pay; split <;> exact ⟨rfl, rfl⟩
    obtain ⟨a, c⟩ := s_paysL_53 k (j + 1) (s_pays Y D j)
    unfold s_paysL
    exact ⟨a.trans h1.1, c.trans h1.2⟩
theorem s_day_wk {fr : Nat} (hY : yrOk Y) (hI : rI Y D) (hrow : ∀ i, i < Y 2 3 → row i < Y 2 3) : s_day Y mc wc R row fr D 5 3 = D 5 3 + s_pc (s_day Y mc wc R row fr D 5 0) := by
  have d2 : dOk Y (s_fresh (s_mend Y D)) := by rw [show s_fresh (s_mend Y D) = s_mend Y (s_fresh D) from s_mend_fr]; exact s_mend_ok hY hI.1
  have h1 := s_jobsL_wk (mc := mc) (wc := wc) (R := R) (fr := fr) hY hrow (Y 2 3) 0 (s_fresh (s_mend Y D)) (by omega) d2
  obtain ⟨a, c⟩ := s_paysL_53 (Y := Y) (Y 2 3) 0 (s_jobsL Y mc wc R row fr (Y 2 3) 0 (s_fresh (s_mend Y D)))
  have e3 : s_fresh (s_mend Y D) 5 3 = D 5 3 := by unfold s_fresh; rw [dU_j (by decide), dU_j (by decide), s_mend_5]
  have e0 : s_fresh (s_mend Y D) 5 0 = 0 := by unfold s_fresh; rw [dU_j (by decide), dU_s]
  unfold wk at h1
  rw [e3, e0, s_pc_0] at h1
  unfold s_day
  rw [dU_c (by decide), dU_c (by decide), a, c]
  omega
def clr (E : Nat → Nat → Nat) : Nat → Nat → Nat := fun c j => if c = 5 then 0 else E c j
theorem clr_n {c j : Nat} (h : c ≠ 5) : clr E c j = E c j := if_neg h
theorem clr_ok (h : dOk Y E) : dOk Y (clr E) := by
  obtain ⟨a0, a1, a2, a3, a4, a5, a6, a7, a8, a9, a10, a11, a12, a13, a14⟩ := h
  have hs : ∀ n, s_sum (clr E) n = s_sum E n := by
    intro n
    induction n with
    | zero => rfl
    | succ n ih => unfold s_sum; rw [ih]; rfl
  refine ⟨a0, a1, a2, a3, a4, a5, a6, a7, by rw [hs]; exact a8, fun c j => ?_, Nat.two_pow_pos _, Nat.two_pow_pos _, Nat.zero_le _, Nat.zero_le _, a14⟩
  unfold clr
  split
  · decide
  · exact a9 c j
end Q51

