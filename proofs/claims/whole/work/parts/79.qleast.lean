/-! ===== no row makes less late than a step of each job a day ===== -/
def s_t1 (Y D : Nat → Nat → Nat) (j i : Nat) : Nat := if D 3 j + i + 1 < Y 9 j then D 0 0 + i - D 4 j else 0
def s_g (Y D : Nat → Nat → Nat) (j : Nat) : Nat → Nat → Nat
  | 0, _ => 0
  | n + 1, i => s_t1 Y D j i + s_g Y D j n (i + 1)
def s_gJ (Y D : Nat → Nat → Nat) (n i : Nat) : Nat → Nat → Nat
  | 0, _ => 0
  | k + 1, j => s_g Y D j n i + s_gJ Y D n i k (j + 1)
def s_tJ (Y D : Nat → Nat → Nat) (i : Nat) : Nat → Nat → Nat
  | 0, _ => 0
  | k + 1, j => s_t1 Y D j i + s_tJ Y D i k (j + 1)
def s_lst (Y D : Nat → Nat → Nat) (n : Nat) : Nat := s_gJ Y D n 0 (Y 2 3) 0
def rInj (Y : Nat → Nat → Nat) (row : Nat → Nat) : Prop := ∀ x y, x < Y 2 3 → y < Y 2 3 → row x = row y → x = y
section Q79
variable {S Z V : xSt} {b n : Nat} {Y D E : Nat → Nat → Nat} {mc wc : List (Nat × Nat)} {R row : Nat → Nat} {P : Nat → Nat → Nat → Nat} {G : Nat → Nat → Nat}
theorem s_gJ_succ {i : Nat} : ∀ k j, s_gJ Y D (n + 1) i k j = s_tJ Y D i k j + s_gJ Y D n (i + 1) k j
  | 0, _ => rfl
  | k + 1, j => by
    unfold s_gJ s_tJ
    rw [s_gJ_succ k (j + 1)]
    show s_t1 Y D j i + s_g Y D j n (i + 1) + _ = _
    omega
theorem s_gJ_0 {i : Nat} : ∀ k j, s_gJ Y D 0 i k j = 0
  | 0, _ => rfl
  | k + 1, j => by unfold s_gJ; rw [s_gJ_0 k (j + 1)]; rfl
theorem s_use_3x {fr jj t h j : Nat} : s_use Y wc R D fr jj t h 3 j = if j = jj then D 3 jj + 1 else D 3 j := by
  have e2 : ∀ i, s_use2 Y (s_use1 D t h (s_wear Y wc R D fr jj t h)) t (s_rest Y R D (s_kind Y D jj)) 3 i = D 3 i := by
    intro i
    unfold s_use2 s_pay
    try dsimp only
    repeat' split
    all_goals rfl
  unfold s_use s_use3 s_keep
  rw [dU_c (by decide), dU_c (by decide), dU_c (by decide), dU_c (by decide), dU_c (by decide), dU_c (by decide), dU_r, dU_c (by decide), dU_c (by decide), e2, e2]
theorem s_use_4x {fr jj t h j : Nat} : s_use Y wc R D fr jj t h 4 j = D 4 j := by
  have e2 : ∀ i, s_use2 Y (s_use1 D t h (s_wear Y wc R D fr jj t h)) t (s_rest Y R D (s_kind Y D jj)) 4 i = D 4 i := by
    intro i
    unfold s_use2 s_pay
    try dsimp only
    repeat' split
    all_goals rfl
  unfold s_use s_use3 s_keep
  rw [dU_c (by decide), dU_c (by decide), dU_c (by decide), dU_c (by decide), dU_c (by decide), dU_c (by decide), dU_c (by decide), dU_c (by decide), dU_c (by decide), e2]
theorem s_step_34 {fr jj j : Nat} : (j ≠ jj → s_step Y mc wc R fr D jj 3 j = D 3 j) ∧ s_step Y mc wc R fr D jj 3 j ≤ D 3 j + 1 ∧ s_step Y mc wc R fr D jj 4 j = D 4 j := by
  unfold s_step
  split
  · cases ho : s_tool Y mc R D fr jj with
    | none => exact ⟨fun _ => rfl, Nat.le_succ _, rfl⟩
    | some t =>
      cases hh : s_hand Y D t with
      | none =>
        simp only [hh]
        exact ⟨fun _ => trivial, Nat.le_succ _, trivial⟩
      | some h =>
        simp only [hh]
        rw [s_use_3x, s_use_4x]
        refine ⟨fun hj => by rw [if_neg hj], ?_, rfl⟩
        split
        · rename_i e; rw [e]; exact Nat.le_refl _
        · omega
  · exact ⟨fun _ => rfl, Nat.le_succ _, rfl⟩
theorem s_jobsL_4 {fr j : Nat} : ∀ (k i : Nat) (D : Nat → Nat → Nat), s_jobsL Y mc wc R row fr k i D 4 j = D 4 j
  | 0, i, D => rfl
  | k + 1, i, D => by unfold s_jobsL; rw [s_jobsL_4 k (i + 1), s_step_34.2.2]
theorem s_jobsL_no {fr j : Nat} : ∀ (k i : Nat) (D : Nat → Nat → Nat), (∀ x, i ≤ x → x < i + k → row x ≠ j) → s_jobsL Y mc wc R row fr k i D 3 j = D 3 j
  | 0, i, D, _ => rfl
  | k + 1, i, D, h => by
    unfold s_jobsL
    rw [s_jobsL_no k (i + 1) _ (fun x h1 h2 => h x (by omega) (by omega)), s_step_34.1 (Ne.symm (h i (Nat.le_refl _) (by omega)))]
theorem s_jobsL_3x {fr j : Nat} (hinj : rInj Y row) : ∀ (k i : Nat) (D : Nat → Nat → Nat), i + k = Y 2 3 → s_jobsL Y mc wc R row fr k i D 3 j ≤ D 3 j + 1
  | 0, i, D, _ => by unfold s_jobsL; omega
  | k + 1, i, D, hk => by
    unfold s_jobsL
    by_cases e : row i = j
    · rw [s_jobsL_no k (i + 1) _ (fun x h1 h2 hx => by have := hinj i x (by omega) (by omega) (by rw [e, hx]); omega)]
      exact s_step_34.2.1
    · have := s_jobsL_3x (fr := fr) (j := j) hinj k (i + 1) (s_step Y mc wc R fr D (row i)) (by omega)
      rw [s_step_34.1 (Ne.symm e)] at this
      exact this
theorem s_day_34 {fr j : Nat} (hinj : rInj Y row) : s_day Y mc wc R row fr D 3 j ≤ D 3 j + 1 ∧ s_day Y mc wc R row fr D 4 j = D 4 j := by
  obtain ⟨l1, _⟩ := s_paysL_l (Y := Y) (Y 2 3) 0 (s_jobsL Y mc wc R row fr (Y 2 3) 0 (s_fresh (s_mend Y D)))
  unfold s_day
  rw [dU_c (by decide), dU_c (by decide), l1.1, l1.2.2, s_jobsL_4]
  have e : ∀ c, c ≠ 0 → c ≠ 1 → c ≠ 5 → s_fresh (s_mend Y D) c j = D c j := fun c h0 h1 h5 => by unfold s_fresh; rw [dU_c h5, dU_c h5, s_mend_c h1 (by omega)]
  have h3 := s_jobsL_3x (mc := mc) (wc := wc) (R := R) (fr := fr) (j := j) hinj (Y 2 3) 0 (s_fresh (s_mend Y D)) (by omega)
  rw [e 3 (by decide) (by decide) (by decide)] at h3
  exact ⟨h3, e 4 (by decide) (by decide) (by decide)⟩
theorem s_lsum_ge {i : Nat} (h3 : ∀ j, E 3 j ≤ D 3 j + i + 1) (h0 : E 0 0 = D 0 0 + i) (h4 : ∀ j, E 4 j = D 4 j) : ∀ k j, s_tJ Y D i k j ≤ s_lsum Y E k j
  | 0, _ => Nat.le_refl _
  | k + 1, j => by
    have := s_lsum_ge h3 h0 h4 k (j + 1)
    unfold s_tJ s_lsum
    have h1 : s_t1 Y D j i ≤ s_late Y E j := by
      unfold s_t1 s_late
      have := h3 j
      split
      · rw [if_pos (by omega), h0, h4]; exact Nat.le_refl _
      · exact Nat.zero_le _
    omega
theorem s_run_ge (hY : yrOk Y) (hrow : ∀ i, i < Y 2 3 → row i < Y 2 3) (hinj : rInj Y row) : ∀ (n i : Nat) (E : Nat → Nat → Nat), (∀ j, E 3 j ≤ D 3 j + i) → E 0 0 = D 0 0 + i → (∀ j, E 4 j = D 4 j) → rI Y E → E 0 0 + n ≤ 999 → E 5 2 + s_gJ Y D n i (Y 2 3) 0 ≤ s_run Y mc wc R row n E 5 2
  | 0, i, E, _, _, _, _, _ => by rw [s_gJ_0]; exact Nat.le_refl _
  | n + 1, i, E, h3, h0, h4, hI, h9 => by
    rw [s_run_succ, s_gJ_succ]
    have nx := s_next hY hI hrow (mc := mc) (wc := wc) (R := R) (fr := 0) (by omega : E 0 0 < 999)
    have e52 := s_day_52 (mc := mc) (wc := wc) (R := R) (fr := 0) hY hI hrow (by omega : E 0 0 < 999)
    have d34 : ∀ j, s_day Y mc wc R row 0 E 3 j ≤ E 3 j + 1 ∧ s_day Y mc wc R row 0 E 4 j = E 4 j := fun j => s_day_34 hinj
    have g1 := s_lsum_ge (Y := Y) (D := D) (E := dU (s_day Y mc wc R row 0 E) 0 0 (E 0 0)) (i := i) (fun j => by rw [dU_c (by decide)]; have := (d34 j).1; have := h3 j; omega) (by rw [dU_s]; exact h0) (fun j => by rw [dU_c (by decide), (d34 j).2]; exact h4 j) (Y 2 3) 0
    have IH := s_run_ge hY hrow hinj n (i + 1) (s_day Y mc wc R row 0 E) (fun j => by have := (d34 j).1; have := h3 j; omega) (by rw [nx.2.1]; omega) (fun j => by rw [(d34 j).2]; exact h4 j) nx.1 (by rw [nx.2.1]; omega)
    omega
/-- the least that can be late -/
theorem s_ltn_ge (hY : yrOk Y) (hD : dOk Y D) (h5 : ∀ j, D 5 j = 0) (hrow : ∀ i, i < Y 2 3 → row i < Y 2 3) (hinj : rInj Y row) (h9 : D 0 0 + n ≤ 999) : s_lst Y D n ≤ s_ltn Y mc wc R row D n := by
  have o := opn_I hY hD h5
  have := s_run_ge (mc := mc) (wc := wc) (R := R) (D := D) hY hrow hinj n 0 (opn D) (fun j => Nat.le_refl _) rfl (fun j => rfl) o.1 h9
  unfold s_lst s_ltn
  have e : opn D 5 2 = 0 := by unfold opn; rw [dU_j (by decide), dU_s]
  omega
theorem s_run_mono (hY : yrOk Y) (hrow : ∀ i, i < Y 2 3 → row i < Y 2 3) : ∀ (n : Nat) (E : Nat → Nat → Nat), rI Y E → E 0 0 + n ≤ 999 → E 5 2 ≤ s_run Y mc wc R row n E 5 2
  | 0, E, _, _ => Nat.le_refl _
  | n + 1, E, hI, h9 => by
    have nx := s_next hY hI hrow (mc := mc) (wc := wc) (R := R) (fr := 0) (by omega : E 0 0 < 999)
    have e52 := s_day_52 (mc := mc) (wc := wc) (R := R) (fr := 0) hY hI hrow (by omega : E 0 0 < 999)
    have IH := s_run_mono hY hrow n (s_day Y mc wc R row 0 E) nx.1 (by rw [nx.2.1]; omega)
    rw [s_run_succ]
    omega
/-- what the class's pass with a bound tells -/
theorem s_bound (hY : yrOk Y) (hrow : ∀ i, i < Y 2 3 → row i < Y 2 3) (hI : rI Y D) {m k bd : Nat} (hk : k ≤ m) (h9 : D 0 0 + m ≤ 999) (hbd : bd < 2 ^ 31) (h : k = m ∨ nI bd ≤ nI (s_run Y mc wc R row k D 5 2) ∨ s_all Y (s_run Y mc wc R row k D) = true) :
    (s_run Y mc wc R row k D 5 2 < bd ↔ s_run Y mc wc R row m D 5 2 < bd) ∧ (s_run Y mc wc R row k D 5 2 < bd → s_run Y mc wc R row k D 5 2 = s_run Y mc wc R row m D 5 2) := by
  obtain ⟨Ik, d0⟩ := s_run_I (mc := mc) (wc := wc) (R := R) hY hrow k D hI (by omega)
  have eq : (k = m ∨ s_all Y (s_run Y mc wc R row k D) = true) → s_run Y mc wc R row k D 5 2 = s_run Y mc wc R row m D 5 2 := fun hh => ((s_pass_eq (mc := mc) (wc := wc) (R := R) (D := D) hrow hk hh).2.2).symm
  rcases h with h | h | h
  · rw [eq (Or.inl h)]; exact ⟨Iff.rfl, fun _ => rfl⟩
  · have hb := (nI_leI hbd (Ik.2.1 5 2)).mp h
    have mo := s_run_mono (mc := mc) (wc := wc) (R := R) hY hrow (m - k) (s_run Y mc wc R row k D) Ik (by rw [d0]; omega)
    rw [← s_run_add, show k + (m - k) = m by omega] at mo
    exact ⟨⟨fun hh => by omega, fun hh => by omega⟩, fun hh => by omega⟩
  · rw [eq (Or.inr h)]; exact ⟨Iff.rfl, fun _ => rfl⟩
end Q79

