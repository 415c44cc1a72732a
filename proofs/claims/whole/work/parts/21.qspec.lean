/-! ===== what a day is, over plain numbers ===== -/
def dU (D : Nat → Nat → Nat) (c j v : Nat) : Nat → Nat → Nat := fun c' j' => if c' = c then (if j' = j then v else D c' j') else D c' j'
theorem dU_s {D : Nat → Nat → Nat} {c j v : Nat} : dU D c j v c j = v := by unfold dU; rw [if_pos rfl, if_pos rfl]
theorem dU_c {D : Nat → Nat → Nat} {c j v c' j' : Nat} (h : c' ≠ c) : dU D c j v c' j' = D c' j' := by unfold dU; rw [if_neg h]
theorem dU_j {D : Nat → Nat → Nat} {c j v c' j' : Nat} (h : j' ≠ j) : dU D c j v c' j' = D c' j' := by unfold dU; rw [if_neg h]; split <;> rfl
theorem dU_r {D : Nat → Nat → Nat} {c j v j' : Nat} : dU D c j v c j' = if j' = j then v else D c j' := by unfold dU; rw [if_pos rfl]
def s_pcL : Nat → Nat → Nat
  | 0, _ => 0
  | k + 1, n => n % 2 + s_pcL k (n / 2)
def s_pc (n : Nat) : Nat := s_pcL 8 n
def s_late (Y D : Nat → Nat → Nat) (j : Nat) : Nat := if D 3 j < Y 9 j then D 0 0 - D 4 j else 0
def s_rest (Y : Nat → Nat → Nat) (R : Nat → Nat) (D : Nat → Nat → Nat) (k : Nat) : Nat := if D 0 0 % Y 4 k = R k then 1 else 0
def s_kind (Y D : Nat → Nat → Nat) (j : Nat) : Nat := Y 10 (4 * j + D 3 j)
def s_ph (Y : Nat → Nat → Nat) (R : Nat → Nat) (D : Nat → Nat → Nat) (fr j t h : Nat) : Nat → Nat := fun i =>
  if i = 0 then s_rest Y R D (s_kind Y D j) else if i = 1 then D 1 t else if i = 2 then D 2 (8 * h + t) else if i = 3 then Y 11 (4 * j + D 3 j) else if i = 4 then D 0 0 else if i = 5 then s_late Y D j else if i = 6 then fr else if i = 7 then s_pc (D 5 0) else 0
def s_handL (D : Nat → Nat → Nat) (t : Nat) : Nat → Option Nat → Nat → Option Nat
  | 0, best, _ => best
  | k + 1, best, h => s_handL D t k (if (D 5 1).testBit h = true then best else match best with
    | none => some h
    | some g => if D 2 (8 * h + t) ≤ D 2 (8 * g + t) then some g else some h) (h + 1)
def s_hand (Y D : Nat → Nat → Nat) (t : Nat) : Option Nat := s_handL D t (Y 2 2) none 0
def s_may (Y : Nat → Nat → Nat) (mc : List (Nat × Nat)) (R : Nat → Nat) (D : Nat → Nat → Nat) (fr j t h : Nat) : Bool :=
  if mc = [] then decide (s_rest Y R D (s_kind Y D j) = 0) else decide (eVal (s_ph Y R D fr j t h) mc = 1)
def s_better (D : Nat → Nat → Nat) (best : Option Nat) (t : Nat) : Bool := match best with
  | none => true
  | some g => decide (D 1 t < D 1 g)
def s_fits (Y : Nat → Nat → Nat) (mc : List (Nat × Nat)) (R : Nat → Nat) (D : Nat → Nat → Nat) (fr j : Nat) (best : Option Nat) (t : Nat) : Bool :=
  if Y 5 t = s_kind Y D j then
    if (D 0 2 ||| D 0 3 ||| D 5 0).testBit t = true then false
    else if s_better D best t = true then
      match s_hand Y D t with
      | none => false
      | some h => s_may Y mc R D fr j t h
    else false
  else false
def s_toolL (Y : Nat → Nat → Nat) (mc : List (Nat × Nat)) (R : Nat → Nat) (D : Nat → Nat → Nat) (fr j : Nat) : Nat → Option Nat → Nat → Option Nat
  | 0, best, _ => best
  | k + 1, best, t => s_toolL Y mc R D fr j k (if s_fits Y mc R D fr j best t = true then some t else best) (t + 1)
def s_tool (Y : Nat → Nat → Nat) (mc : List (Nat × Nat)) (R : Nat → Nat) (D : Nat → Nat → Nat) (fr j : Nat) : Option Nat := s_toolL Y mc R D fr j (Y 2 1) none 0
def s_cl (x : Int64) : Nat := if x < 0 then 0 else if 99 < x then 99 else x.toInt.toNat
def s_wear (Y : Nat → Nat → Nat) (wc : List (Nat × Nat)) (R : Nat → Nat) (D : Nat → Nat → Nat) (fr j t h : Nat) : Nat :=
  if wc = [] then Y 11 (4 * j + D 3 j) else s_cl (eVal (s_ph Y R D fr j t h) wc)
def s_pay (Y D : Nat → Nat → Nat) : Nat → Nat → Nat := dU D 0 1 (if D 0 1 + Y 0 17 < 9999 then D 0 1 + Y 0 17 else 9999)
def s_keep (D : Nat → Nat → Nat) (j t h : Nat) : Nat → Nat → Nat :=
  dU (dU (dU (dU (dU D 6 (4 * D 0 4) (D 0 0)) 6 (4 * D 0 4 + 1) j) 6 (4 * D 0 4 + 2) t) 6 (4 * D 0 4 + 3) h) 0 4 (D 0 4 + 1)
def s_use1 (D : Nat → Nat → Nat) (t h wear : Nat) : Nat → Nat → Nat :=
  dU (dU D 1 t (if D 1 t + wear < 100 then D 1 t + wear else 100)) 2 (8 * h + t) (if D 2 (8 * h + t) + 1 < 9 then D 2 (8 * h + t) + 1 else 9)
def s_use2 (Y D : Nat → Nat → Nat) (t rest : Nat) : Nat → Nat → Nat :=
  let D1 := if rest = 1 then s_pay Y D else D
  if D1 1 t < Y 0 14 then D1 else dU D1 0 2 (D1 0 2 ||| 2 ^ t)
def s_use3 (D : Nat → Nat → Nat) (j t h : Nat) : Nat → Nat → Nat :=
  s_keep (dU (dU (dU (dU D 5 0 (D 5 0 ||| 2 ^ t)) 5 1 (D 5 1 ||| 2 ^ h)) 3 j (D 3 j + 1)) 5 3 (D 5 3 + 1)) j t h
def s_use (Y : Nat → Nat → Nat) (wc : List (Nat × Nat)) (R : Nat → Nat) (D : Nat → Nat → Nat) (fr j t h : Nat) : Nat → Nat → Nat :=
  s_use3 (s_use2 Y (s_use1 D t h (s_wear Y wc R D fr j t h)) t (s_rest Y R D (s_kind Y D j))) j t h
def s_step (Y : Nat → Nat → Nat) (mc wc : List (Nat × Nat)) (R : Nat → Nat) (fr : Nat) (D : Nat → Nat → Nat) (j : Nat) : Nat → Nat → Nat :=
  if D 3 j < Y 9 j then
    match s_tool Y mc R D fr j with
    | none => D
    | some t => match s_hand Y D t with
      | none => D
      | some h => s_use Y wc R D fr j t h
  else D
def s_jobsL (Y : Nat → Nat → Nat) (mc wc : List (Nat × Nat)) (R row : Nat → Nat) (fr : Nat) : Nat → Nat → (Nat → Nat → Nat) → (Nat → Nat → Nat)
  | 0, _, D => D
  | k + 1, i, D => s_jobsL Y mc wc R row fr k (i + 1) (s_step Y mc wc R fr D (row i))
def s_pays (Y D : Nat → Nat → Nat) (j : Nat) : Nat → Nat → Nat :=
  if s_late Y D j ≤ 0 then dU D 5 2 (D 5 2 + s_late Y D j) else s_pay Y (dU D 5 2 (D 5 2 + s_late Y D j))
def s_paysL (Y : Nat → Nat → Nat) : Nat → Nat → (Nat → Nat → Nat) → (Nat → Nat → Nat)
  | 0, _, D => D
  | k + 1, j, D => s_paysL Y k (j + 1) (s_pays Y D j)
def s_mend (Y D : Nat → Nat → Nat) : Nat → Nat → Nat :=
  if D 0 0 % Y 0 16 = Y 0 15 then dU (fun c t => if c = 1 then (if (D 0 2).testBit t = true then 0 else D c t) else D c t) 0 2 0 else D
def s_fresh (D : Nat → Nat → Nat) : Nat → Nat → Nat := dU (dU D 5 0 0) 5 1 0
def s_day (Y : Nat → Nat → Nat) (mc wc : List (Nat × Nat)) (R row : Nat → Nat) (fr : Nat) (D : Nat → Nat → Nat) : Nat → Nat → Nat :=
  let D1 := s_paysL Y (Y 2 3) 0 (s_jobsL Y mc wc R row fr (Y 2 3) 0 (s_fresh (s_mend Y D)))
  dU D1 0 0 (D1 0 0 + 1)
/-! bounds -/
def s_sum (D : Nat → Nat → Nat) : Nat → Nat
  | 0 => 0
  | n + 1 => s_sum D n + D 3 n
def yrOk (Y : Nat → Nat → Nat) : Prop :=
  (Y 2 0 ≤ 6 ∧ Y 2 1 ≤ 8 ∧ Y 2 2 ≤ 6 ∧ Y 2 3 ≤ 6) ∧ (∀ k, k < Y 2 0 → 2 ≤ Y 4 k ∧ Y 4 k ≤ 30 ∧ Y 3 k < Y 4 k) ∧ (∀ t, t < Y 2 1 → Y 5 t < Y 2 0 ∧ Y 6 t ≤ 99) ∧ (∀ i, Y 7 i ≤ 9) ∧ (∀ j, Y 8 j ≤ 999) ∧
  (∀ j, j < Y 2 3 → 1 ≤ Y 9 j ∧ Y 9 j ≤ 4 ∧ ∀ s, s < Y 9 j → Y 10 (4 * j + s) < Y 2 0 ∧ 1 ≤ Y 11 (4 * j + s) ∧ Y 11 (4 * j + s) ≤ 9) ∧ (∀ i, Y 12 i ≤ 99) ∧
  (1 ≤ Y 0 14 ∧ Y 0 14 ≤ 100) ∧ (2 ≤ Y 0 16 ∧ Y 0 16 ≤ 30 ∧ Y 0 15 < Y 0 16) ∧ Y 0 17 ≤ 100 ∧ Y 0 18 ≤ 100 ∧ (∀ c j, Y c j < 2 ^ 31) ∧ (∀ t, Y 6 t ≤ 99) ∧ (∀ j, Y 9 j ≤ 4)
def dZ (D : Nat → Nat → Nat) : Prop := (∀ t, 8 ≤ t → D 1 t = 0) ∧ (∀ i, 48 ≤ i → D 2 i = 0) ∧ (∀ j, 6 ≤ j → D 3 j = 0) ∧ (∀ j, 6 ≤ j → D 4 j = 0)
def dOk (Y D : Nat → Nat → Nat) : Prop :=
  D 0 0 ≤ 999 ∧ D 0 1 ≤ 9999 ∧ D 0 2 < 2 ^ Y 2 1 ∧ D 0 3 < 2 ^ Y 2 1 ∧ (∀ t, D 1 t ≤ 100) ∧ (∀ i, D 2 i ≤ 9) ∧ (∀ j, j < Y 2 3 → D 3 j ≤ Y 9 j) ∧ (∀ j, D 4 j ≤ 999) ∧ D 0 4 ≤ s_sum D (Y 2 3) ∧
  (∀ c j, D c j < 2 ^ 31) ∧ D 5 0 < 2 ^ Y 2 1 ∧ D 5 1 < 2 ^ Y 2 2 ∧ D 5 3 ≤ s_sum D (Y 2 3) ∧ D 5 2 ≤ 6000 * (D 0 0 + 1) ∧ dZ D
/-- codes that fit -/
def kOk (mc wc : List (Nat × Nat)) : Prop := (mc ≠ [] → tRun mc [] = some [true]) ∧ (wc ≠ [] → tRun wc [] = some [false]) ∧ (∀ o, o ∈ wc → o.1 = 1 → o.2 < 6)
theorem s_handL_lt {D : Nat → Nat → Nat} {t n : Nat} : ∀ (k h : Nat) (best : Option Nat), h + k = n → (∀ g, best = some g → g < n ∧ (D 5 1).testBit g = false) → ∀ g, s_handL D t k best h = some g → g < n ∧ (D 5 1).testBit g = false
  | 0, h, best, _, hb, g, e => hb g e
  | k + 1, h, best, hk, hb, g, e => by
    unfold s_handL at e
    refine s_handL_lt k (h + 1) _ (by omega) ?_ g e
    intro g2 e2
    by_cases hh : (D 5 1).testBit h = true
    · rw [if_pos hh] at e2; exact hb g2 e2
    · rw [if_neg hh] at e2
      have hf : (D 5 1).testBit h = false := by simpa using hh
      cases best with
      | none => cases e2; exact ⟨by omega, hf⟩
      | some g0 =>
        simp only at e2
        split at e2
        · cases e2; exact hb _ rfl
        · cases e2; exact ⟨by omega, hf⟩
theorem s_hand_lt {Y D : Nat → Nat → Nat} {t h : Nat} (e : s_hand Y D t = some h) : h < Y 2 2 ∧ (D 5 1).testBit h = false :=
  s_handL_lt (Y 2 2) 0 none (by omega) (fun _ h => by cases h) h e
def s_toolP (Y : Nat → Nat → Nat) (D : Nat → Nat → Nat) (j n t : Nat) : Prop := t < n ∧ Y 5 t = s_kind Y D j ∧ (D 0 2 ||| D 0 3 ||| D 5 0).testBit t = false ∧ ∃ h, s_hand Y D t = some h
theorem s_fitsP {Y : Nat → Nat → Nat} {mc : List (Nat × Nat)} {R : Nat → Nat} {D : Nat → Nat → Nat} {fr j t n : Nat} {best : Option Nat} (ht : t < n) (h : s_fits Y mc R D fr j best t = true) : s_toolP Y D j n t := by
  unfold s_fits at h
  by_cases h1 : Y 5 t = s_kind Y D j
  · rw [if_pos h1] at h
    by_cases h2 : (D 0 2 ||| D 0 3 ||| D 5 0).testBit t = true
    · rw [if_pos h2] at h; cases h
    · rw [if_neg h2] at h
      by_cases h4 : s_better D best t = true
      · rw [if_pos h4] at h
        cases h3 : s_hand Y D t with
        | none => rw [h3] at h; cases h
        | some g => exact ⟨ht, h1, by simpa using h2, g, h3⟩
      · rw [if_neg h4] at h; cases h
  · rw [if_neg h1] at h; cases h
theorem s_toolL_P {Y : Nat → Nat → Nat} {mc : List (Nat × Nat)} {R : Nat → Nat} {D : Nat → Nat → Nat} {fr j n : Nat} : ∀ (k t : Nat) (best : Option Nat), t + k = n → (∀ g, best = some g → s_toolP Y D j n g) → ∀ g, s_toolL Y mc R D fr j k best t = some g → s_toolP Y D j n g
  | 0, t, best, _, hb, g, e => hb g e
  | k + 1, t, best, hk, hb, g, e => by
    unfold s_toolL at e
    refine s_toolL_P k (t + 1) _ (by omega) ?_ g e
    intro g2 e2
    split at e2
    · rename_i hf; cases e2; exact s_fitsP (by omega) hf
    · exact hb g2 e2
theorem s_tool_P {Y : Nat → Nat → Nat} {mc : List (Nat × Nat)} {R : Nat → Nat} {D : Nat → Nat → Nat} {fr j t : Nat} (e : s_tool Y mc R D fr j = some t) : s_toolP Y D j (Y 2 1) t :=
  s_toolL_P (Y 2 1) 0 none (by omega) (fun _ h => by cases h) t e
theorem s_or_lt {a t n : Nat} (ha : a < 2 ^ n) (ht : t < n) : a ||| 2 ^ t < 2 ^ n := Nat.or_lt_two_pow ha (Nat.pow_lt_pow_right (by decide) ht)
theorem s_sum_dU {D : Nat → Nat → Nat} {c j v : Nat} (h : c ≠ 3) : ∀ n, s_sum (dU D c j v) n = s_sum D n
  | 0 => rfl
  | n + 1 => by unfold s_sum; rw [s_sum_dU h n, dU_c (Ne.symm h)]
theorem s_sum_le {D : Nat → Nat → Nat} {j v : Nat} : ∀ n, n ≤ j → s_sum (dU D 3 j v) n = s_sum D n
  | 0, _ => rfl
  | n + 1, h => by unfold s_sum; rw [s_sum_le n (by omega), dU_j (by omega)]
theorem s_sum_up {D : Nat → Nat → Nat} {j : Nat} : ∀ n, j < n → s_sum (dU D 3 j (D 3 j + 1)) n = s_sum D n + 1
  | 0, h => by omega
  | n + 1, h => by
    unfold s_sum
    by_cases hj : j = n
    · subst hj; rw [s_sum_le j (Nat.le_refl _), dU_s]; omega
    · rw [s_sum_up n (by omega), dU_j (by omega)]; omega
theorem s_sum_bound {Y D : Nat → Nat → Nat} {m : Nat} (h : ∀ j, j < m → D 3 j ≤ 4) : ∀ n, n ≤ m → s_sum D n ≤ 4 * n
  | 0, _ => Nat.le_refl _
  | n + 1, hn => by unfold s_sum; have := s_sum_bound (Y := Y) h n (by omega); have := h n (by omega); omega
theorem dOk_told {Y D : Nat → Nat → Nat} (hY : yrOk Y) (h : dOk Y D) : D 0 4 ≤ 24 := by
  obtain ⟨_, _, _, _, _, _, h3, _, ht, _⟩ := h
  have hj := hY.1.2.2.2
  have := s_sum_bound (Y := Y) (D := D) (m := Y 2 3) (fun j hj => Nat.le_trans (h3 j hj) (hY.2.2.2.2.2.1 j hj).2.1) (Y 2 3) (Nat.le_refl _)
  omega
theorem s_step_lt {Y D : Nat → Nat → Nat} (h : dOk Y D) {j : Nat} (hj : j < Y 2 3) (hY : yrOk Y) (hd : D 3 j < Y 9 j) : s_kind Y D j < Y 2 0 ∧ Y 11 (4 * j + D 3 j) ≤ 9 ∧ D 3 j < 4 := by
  have := (hY.2.2.2.2.2.1 j hj)
  have h2 := this.2.2 (D 3 j) hd
  exact ⟨h2.1, h2.2.2, by omega⟩

