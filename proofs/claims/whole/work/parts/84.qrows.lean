/-! ===== order: a job that is done takes part in nothing ===== -/
section Q84
variable {S0 S Z V T : xSt} {b n m : Nat} {Y D E : Nat → Nat → Nat} {mc wc : List (Nat × Nat)} {R row row' : Nat → Nat} {P : Nat → Nat → Nat → Nat} {G : Nat → Nat → Nat} {f : List Nat → Nat}
theorem s_step_idf {fr j : Nat} (h : ¬ D 3 j < Y 9 j) : s_step Y mc wc R fr D j = D := by unfold s_step; rw [if_neg h]
theorem s_step_keep {fr j jj : Nat} (h : ¬ D 3 j < Y 9 j) : ¬ s_step Y mc wc R fr D jj 3 j < Y 9 j := by
  by_cases e : j = jj
  · subst e; rw [s_step_idf h]; exact h
  · rw [s_step_34.1 e]; exact h
theorem s_jobsL_cg {fr : Nat} : ∀ (k i : Nat) (D : Nat → Nat → Nat), (∀ x, i ≤ x → x < i + k → row x = row' x) → s_jobsL Y mc wc R row fr k i D = s_jobsL Y mc wc R row' fr k i D
  | 0, i, D, _ => rfl
  | k + 1, i, D, h => by
    unfold s_jobsL
    rw [h i (Nat.le_refl _) (by omega)]
    exact s_jobsL_cg k (i + 1) _ (fun x h1 h2 => h x (by omega) (by omega))
theorem s_jobsL_sw {fr p : Nat} (h1 : row' p = row (p + 1)) (h2 : row' (p + 1) = row p) (h3 : ∀ x, x ≠ p → x ≠ p + 1 → x < Y 2 3 → row' x = row x) : ∀ (k i : Nat) (D : Nat → Nat → Nat), i + k = Y 2 3 → i ≤ p → p + 1 < Y 2 3 → (¬ D 3 (row p) < Y 9 (row p) ∨ ¬ D 3 (row (p + 1)) < Y 9 (row (p + 1))) → s_jobsL Y mc wc R row' fr k i D = s_jobsL Y mc wc R row fr k i D
  | 0, i, D, hk, hi, hp, _ => by omega
  | k + 1, i, D, hk, hi, hp, hf => by
    by_cases e : i = p
    · subst e
      obtain ⟨k, rfl⟩ : ∃ k', k = k' + 1 := ⟨k - 1, by omega⟩
      show s_jobsL Y mc wc R row' fr k (i + 1 + 1) (s_step Y mc wc R fr (s_step Y mc wc R fr D (row' i)) (row' (i + 1))) = s_jobsL Y mc wc R row fr k (i + 1 + 1) (s_step Y mc wc R fr (s_step Y mc wc R fr D (row i)) (row (i + 1)))
      have e2 : s_step Y mc wc R fr (s_step Y mc wc R fr D (row' i)) (row' (i + 1)) = s_step Y mc wc R fr (s_step Y mc wc R fr D (row i)) (row (i + 1)) := by
        rw [h1, h2]
        rcases hf with hf | hf
        · rw [s_step_idf hf, s_step_idf (s_step_keep hf)]
        · rw [s_step_idf hf, s_step_idf (s_step_keep hf)]
      rw [e2]
      exact s_jobsL_cg k (i + 1 + 1) _ (fun x a1 a2 => h3 x (by omega) (by omega) (by omega))
    · show s_jobsL Y mc wc R row' fr k (i + 1) (s_step Y mc wc R fr D (row' i)) = s_jobsL Y mc wc R row fr k (i + 1) (s_step Y mc wc R fr D (row i))
      rw [h3 i e (by omega) (by omega)]
      refine s_jobsL_sw h1 h2 h3 k (i + 1) _ (by omega) (by omega) hp ?_
      rcases hf with hf | hf
      · exact Or.inl (s_step_keep hf)
      · exact Or.inr (s_step_keep hf)
theorem s_jobsL_kp {fr j : Nat} : ∀ (k i : Nat) (D : Nat → Nat → Nat), ¬ D 3 j < Y 9 j → ¬ s_jobsL Y mc wc R row fr k i D 3 j < Y 9 j
  | 0, i, D, h => h
  | k + 1, i, D, h => s_jobsL_kp k (i + 1) _ (s_step_keep h)
theorem s_f3 {j : Nat} : s_fresh (s_mend Y D) 3 j = D 3 j := by unfold s_fresh; rw [dU_c (by decide), dU_c (by decide), s_mend_c (by decide) (by omega)]
theorem s_day_kp {fr j : Nat} (h : ¬ D 3 j < Y 9 j) : ¬ s_day Y mc wc R row fr D 3 j < Y 9 j := by
  obtain ⟨l1, _⟩ := s_paysL_l (Y := Y) (Y 2 3) 0 (s_jobsL Y mc wc R row fr (Y 2 3) 0 (s_fresh (s_mend Y D)))
  unfold s_day
  rw [dU_c (by decide), l1.1]
  exact s_jobsL_kp _ _ _ (by rw [s_f3]; exact h)
theorem s_run_sw {p : Nat} (h1 : row' p = row (p + 1)) (h2 : row' (p + 1) = row p) (h3 : ∀ x, x ≠ p → x ≠ p + 1 → x < Y 2 3 → row' x = row x) (hp : p + 1 < Y 2 3) : ∀ (k : Nat) (D : Nat → Nat → Nat), (¬ D 3 (row p) < Y 9 (row p) ∨ ¬ D 3 (row (p + 1)) < Y 9 (row (p + 1))) → s_run Y mc wc R row' k D = s_run Y mc wc R row k D
  | 0, D, _ => rfl
  | k + 1, D, hf => by
    have e : s_day Y mc wc R row' 0 D = s_day Y mc wc R row 0 D := by
      unfold s_day
      rw [s_jobsL_sw (fr := 0) h1 h2 h3 (Y 2 3) 0 (s_fresh (s_mend Y D)) (by omega) (by omega) hp (by rw [s_f3, s_f3]; exact hf)]
    rw [s_run_succ, s_run_succ, e]
    refine s_run_sw h1 h2 h3 hp k _ ?_
    rcases hf with hf | hf
    · exact Or.inl (s_day_kp hf)
    · exact Or.inr (s_day_kp hf)
theorem s_run_cg : ∀ (k : Nat) (D : Nat → Nat → Nat), (∀ x, x < Y 2 3 → row x = row' x) → s_run Y mc wc R row k D = s_run Y mc wc R row' k D
  | 0, D, _ => rfl
  | k + 1, D, h => by
    have e : s_day Y mc wc R row 0 D = s_day Y mc wc R row' 0 D := by
      unfold s_day
      rw [s_jobsL_cg (fr := 0) (Y 2 3) 0 (s_fresh (s_mend Y D)) (fun x _ h2 => h x (by omega))]
    rw [s_run_succ, s_run_succ, e]
    exact s_run_cg k _ h
/-! folds -/
theorem s_oF_no : ∀ (l : List (List Nat)) (v : Nat) (o : List Nat), (∀ r, r ∈ l → v ≤ f r) → s_oF f l v o = (v, o)
  | [], v, o, _ => rfl
  | r :: rs, v, o, h => by
    show (if f r < v then _ else s_oF f rs v o) = _
    rw [if_neg (by have := h r List.mem_cons_self; omega)]
    exact s_oF_no rs v o (fun x hx => h x (List.mem_cons_of_mem _ hx))
theorem s_oF_map {g : List Nat → List Nat} : ∀ (l : List (List Nat)) (v : Nat) (o o' : List Nat), (∀ r, r ∈ l → f (g r) = f r) → o' = g o → s_oF f (l.map g) v o' = ((s_oF f l v o).1, g (s_oF f l v o).2)
  | [], v, o, o', _, e => by rw [e]; rfl
  | r :: rs, v, o, o', h, e => by
    have hr := h r List.mem_cons_self
    show (if f (g r) < v then s_oF f (rs.map g) (f (g r)) (g r) else s_oF f (rs.map g) v o') = _
    rw [hr]
    by_cases hc : f r < v
    · rw [if_pos hc, s_oF_map rs (f r) r (g r) (fun x hx => h x (List.mem_cons_of_mem _ hx)) rfl]
      show _ = ((if f r < v then s_oF f rs (f r) r else s_oF f rs v o).1, g (if f r < v then s_oF f rs (f r) r else s_oF f rs v o).2)
      rw [if_pos hc]
    · rw [if_neg hc, s_oF_map rs v o o' (fun x hx => h x (List.mem_cons_of_mem _ hx)) e]
      show _ = ((if f r < v then s_oF f rs (f r) r else s_oF f rs v o).1, g (if f r < v then s_oF f rs (f r) r else s_oF f rs v o).2)
      rw [if_neg hc]
theorem eqL_eq : ∀ (a c : List Nat), eqL a c = true → a = c
  | [], [], _ => rfl
  | a :: l, c :: k, h => by
    unfold eqL at h
    by_cases e : Nat.beq a c = true
    · rw [if_pos e] at h
      rw [Nat.eq_of_beq_eq_true e, eqL_eq l k h]
    · rw [if_neg e] at h; cases h
  | [], c :: k, h => by cases h
  | a :: l, [], h => by cases h
theorem okR_of {r : List Nat} (h : okR m r = true) : r.length = 6 ∧ (∀ x, x < m → r.getD x 0 < m) ∧ ∀ x y, x < m → y < m → r.getD x 0 = r.getD y 0 → x = y := by
  unfold okR at h
  rw [Bool.and_eq_true, List.all_eq_true] at h
  obtain ⟨h1, h2⟩ := h
  refine ⟨Nat.eq_of_beq_eq_true h1, fun x hx => ?_, fun x y hx hy e => ?_⟩
  · have := h2 x (List.mem_range.mpr hx)
    rw [Bool.and_eq_true] at this
    exact Nat.blt_eq.mp this.1
  · have := h2 x (List.mem_range.mpr hx)
    rw [Bool.and_eq_true, List.all_eq_true] at this
    have h3 := this.2 y (List.mem_range.mpr hy)
    by_cases e2 : Nat.beq x y = true
    · exact Nat.eq_of_beq_eq_true e2
    · rw [if_neg e2, e, Nat.beq_refl] at h3
      cases h3
theorem chkR_of : ∀ (prev l : List (List Nat)), chkR m prev l = true → ∀ pre r post, l = pre ++ r :: post → ∀ p, p + 1 < m → p < 5 → r.getD (p + 1) 0 < r.getD p 0 → rx r p (p + 1) ∈ prev ∨ rx r p (p + 1) ∈ pre
  | prev, [], _, pre, r, post, e, _, _, _, _ => by cases pre <;> cases e
  | prev, x :: xs, h, pre, r, post, e, p, hp, hp5, hf => by
    unfold chkR at h
    split at h
    · rename_i hc
      cases pre with
      | nil =>
        rw [List.nil_append] at e
        cases e
        rw [List.all_eq_true] at hc
        have h2 := hc p (List.mem_range.mpr hp5)
        rw [if_pos hp, if_pos hf, List.any_eq_true] at h2
        obtain ⟨y, hy, he⟩ := h2
        rw [eqL_eq _ _ he]
        exact Or.inl hy
      | cons y ys =>
        cases e
        rcases chkR_of (x :: prev) (ys ++ r :: post) h ys r post rfl p hp hp5 hf with h3 | h3
        · rcases List.mem_cons.mp h3 with h4 | h4
          · exact Or.inr (by rw [h4]; exact List.mem_cons_self)
          · exact Or.inl h4
        · exact Or.inr (List.mem_cons_of_mem _ h3)
    · cases h
theorem rx_get {r : List Nat} {i j x : Nat} (hi : i < r.length) (hj : j < r.length) : (rx r i j).getD x 0 = if x = j then r.getD i 0 else if x = i then r.getD j 0 else r.getD x 0 := by
  unfold rx
  simp only [List.getD_eq_getElem?_getD, List.getElem?_set, List.length_set]
  by_cases h1 : j = x
  · subst h1; simp [hj]
  · rw [if_neg h1, if_neg (Ne.symm h1)]
    by_cases h2 : i = x
    · subst h2; simp [hi]
    · rw [if_neg h2, if_neg (Ne.symm h2)]
theorem rx_len {r : List Nat} {i j : Nat} : (rx r i j).length = r.length := by unfold rx; rw [List.length_set, List.length_set]
theorem full_get {l : List Nat} (hl : l.length = m) {x : Nat} (hx : x < m) : s_rw (fullR m l) x = s_rw l x := by
  unfold s_rw fullR
  rw [List.getD_eq_getElem?_getD, List.getD_eq_getElem?_getD, List.getElem?_append_left (by omega)]
theorem s_dig_len : ∀ (k w : Nat), (s_dig m k w).length = k
  | 0, w => rfl
  | k + 1, w => by unfold s_dig; rw [List.length_append, s_dig_len k]; rfl
theorem s_rows_len {r : List Nat} (h : r ∈ s_rows m) : r.length = m := by
  unfold s_rows at h
  rw [List.mem_filter, List.mem_map] at h
  obtain ⟨⟨w, _, rfl⟩, _⟩ := h
  exact s_dig_len m w
def nxR (m k : Nat) (l : List Nat) : List (List Nat) := match nxtR m l with | none => [] | some l' => enumR m k l'
theorem enumR_ne {k : Nat} {l : List Nat} : enumR m (k + 1) l = l :: nxR m k l := rfl
theorem nxR_n {k : Nat} {l : List Nat} (h : nxtR m l = none) : nxR m k l = [] := by unfold nxR; rw [h]
theorem nxR_s {k : Nat} {l l' : List Nat} (h : nxtR m l = some l') : nxR m k l = enumR m k l' := by unfold nxR; rw [h]
theorem s_oF_le : ∀ (l : List (List Nat)) (v : Nat) (o : List Nat), (s_oF f l v o).1 ≤ v
  | [], v, o => Nat.le_refl _
  | r :: rs, v, o => by
    show (if f r < v then s_oF f rs (f r) r else s_oF f rs v o).1 ≤ v
    split
    · have := s_oF_le rs (f r) r; omega
    · exact s_oF_le rs v o
theorem s_oF_len {M : Nat} : ∀ (l : List (List Nat)) (v : Nat) (o : List Nat), (∀ r, r ∈ l → r.length = M) → o.length = M → (s_oF f l v o).2.length = M
  | [], v, o, _, ho => ho
  | r :: rs, v, o, hl, ho => by
    show (if f r < v then s_oF f rs (f r) r else s_oF f rs v o).2.length = M
    split
    · exact s_oF_len rs (f r) r (fun x hx => hl x (List.mem_cons_of_mem _ hx)) (hl r List.mem_cons_self)
    · exact s_oF_len rs v o (fun x hx => hl x (List.mem_cons_of_mem _ hx)) ho
/-- the class's fold over its rows is the reference's over its own -/
theorem oB_of (hI : gI Y mc wc D P G) (hn1 : n ≤ 100) (h9 : D 0 0 + n ≤ 999) : s_oF (fun l => s_ltn Y mc wc (Y 3) (s_rw l) D n) (cR (Y 2 3)) 1000000 [] = ((s_oB Y mc wc D n).1, fullR (Y 2 3) (s_oB Y mc wc D n).2) ∧ (s_oB Y mc wc D n).2.length = Y 2 3 ∧ (s_oB Y mc wc D n).1 < 1000000 := by
  have h6 : Y 2 3 ≤ 6 := hI.1.1.2.2.2
  obtain ⟨k1, k2, k3⟩ := cR_rows h6
  have len0 : ∀ r, r ∈ s_rows (Y 2 3) → r.length = Y 2 3 := fun r hr => s_rows_len hr
  have cg : ∀ r, r ∈ s_rows (Y 2 3) → s_ltn Y mc wc (Y 3) (s_rw (fullR (Y 2 3) r)) D n = s_ltn Y mc wc (Y 3) (s_rw r) D n := by
    intro r hr
    unfold s_ltn
    rw [s_run_cg n (opn D) (fun x hx => full_get (s_rows_len hr) hx)]
  unfold s_oB
  -- the first row is taken by both
  cases hs : s_rows (Y 2 3) with
  | nil =>
    rw [hs] at k1
    have : cR (Y 2 3) = idR :: (match nxtR (Y 2 3) idR with | none => [] | some l' => enumR (Y 2 3) 719 l') := rfl
    rw [this] at k1
    cases k1
  | cons r rs =>
    rw [hs] at k1 cg len0
    have hok := (okR_of (List.all_eq_true.mp k2 (fullR (Y 2 3) r) (by rw [k1]; exact List.mem_cons_self)))
    have lt1 := s_ltn_lt6 (mc := mc) (wc := wc) (R := Y 3) (row := s_rw (fullR (Y 2 3) r)) hI (fun i hi => hok.2.1 i hi) hn1 h9
    rw [cg r List.mem_cons_self] at lt1
    have lt8 : s_ltn Y mc wc (Y 3) (s_rw r) D n < 100000000 := by
      obtain ⟨o1, _⟩ := opn_I hI.1 hI.2.2.1 hI.2.2.2.1
      have hh := s_run_I (mc := mc) (wc := wc) (R := Y 3) (row := s_rw (fullR (Y 2 3) r)) hI.1 (fun i hi => hok.2.1 i hi) n (opn D) o1 h9
      have h1 := hh.1.2.2
      rw [hh.2] at h1
      have e := cg r List.mem_cons_self
      unfold s_ltn at e ⊢
      rw [← e]
      have : opn D 0 0 = D 0 0 := rfl
      omega
    refine ⟨?_, ?_, ?_⟩
    case refine_3 =>
      show (if s_ltn Y mc wc (Y 3) (s_rw r) D n < 100000000 then s_oF _ rs (s_ltn Y mc wc (Y 3) (s_rw r) D n) r else _).1 < _
      rw [if_pos lt8]
      exact Nat.lt_of_le_of_lt (s_oF_le rs _ _) lt1
    case refine_2 =>
      show (if s_ltn Y mc wc (Y 3) (s_rw r) D n < 100000000 then s_oF _ rs (s_ltn Y mc wc (Y 3) (s_rw r) D n) r else _).2.length = _
      rw [if_pos lt8]
      exact s_oF_len rs _ _ (fun x hx => len0 x (List.mem_cons_of_mem _ hx)) (len0 r List.mem_cons_self)
    rw [k1]
    show (if s_ltn Y mc wc (Y 3) (s_rw (fullR (Y 2 3) r)) D n < 1000000 then s_oF _ (rs.map (fullR (Y 2 3))) (s_ltn Y mc wc (Y 3) (s_rw (fullR (Y 2 3) r)) D n) (fullR (Y 2 3) r) else _) = ((if s_ltn Y mc wc (Y 3) (s_rw r) D n < 100000000 then s_oF _ rs (s_ltn Y mc wc (Y 3) (s_rw r) D n) r else _).1, fullR (Y 2 3) (if s_ltn Y mc wc (Y 3) (s_rw r) D n < 100000000 then s_oF _ rs (s_ltn Y mc wc (Y 3) (s_rw r) D n) r else _).2)
    rw [cg r List.mem_cons_self, if_pos (by omega), if_pos lt8]
    exact s_oF_map (f := fun l => s_ltn Y mc wc (Y 3) (s_rw l) D n) rs _ r _ (fun x hx => cg x (List.mem_cons_of_mem _ hx)) rfl
end Q84

