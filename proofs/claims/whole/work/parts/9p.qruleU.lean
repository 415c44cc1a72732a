/-! ===== the codes of a rule are well made ===== -/
def offT (t : Nat) : Nat := if t = 0 then 8 else if t = 1 then 7 else if t = 2 then 6 else if t = 3 then 6 else if t = 4 then 5 else if t = 5 then 4 else 3
def pT (L : Nat) (p : PC) (t o x : Nat) : Prop := ∀ e e' c', p t o x e = .inr (e', c') → ∀ (s : List Bool) (w : List (Nat × Nat)), s.length + 5 * (7 - o) + offT t ≤ 63 → tRun (c' ++ w) (if t = 3 then false :: s else s) = tRun w (decide (t ≤ 3) :: s)
section Q9p
variable {L e m o b d t k a x : Nat} {f : Nat → Nat} {p : PC} {c : List (Nat × Nat)} {w : List (Nat × Nat)} {s s' : List Bool}
theorem tRun_1 {y : Nat × Nat} (hl : s.length < 64) (h : t1 y s = some s') : tRun (y :: w) s = tRun w s' := by
  show (if s.length < 64 then (t1 y s).bind (tRun w) else none) = _
  rw [if_pos hl, h]
  rfl
theorem pT_loop {sel : Nat → Option Nat} {z : Bool} (ho : ∀ e q, sel e = some q → ∀ s : List Bool, t1 (q, 0) (z :: z :: s) = some (z :: s)) {g : Nat → PE} (hg : ∀ e e' c', g e = .inr (e', c') → ∀ (s : List Bool) w, s.length + a ≤ 63 → tRun (c' ++ w) s = tRun w (z :: s)) (ha : 1 ≤ a) :
    ∀ (k e e' : Nat) (c' : List (Nat × Nat)), pLp f L g sel k e = .inr (e', c') → ∀ (s : List Bool) w, s.length + a + 1 ≤ 63 → tRun (c' ++ w) (z :: s) = tRun w (z :: s)
  | 0, e, e', c', h, s, w, hs => by cases h; rfl
  | k + 1, e, e', c', h, s, w, hs => by
    unfold pLp at h
    cases hq : sel e with
    | none => rw [hq] at h; cases h; rfl
    | some q =>
      rw [hq] at h
      obtain ⟨e1, c1, c2, x1, x2, x3⟩ := pB_inr h
      obtain ⟨e3, c3, c4, y1, y2, y3⟩ := pB_inr x1
      cases y2
      rw [x3, y3, List.append_assoc, List.append_assoc, hg _ _ _ y1 (z :: s) _ (by rw [List.length_cons]; omega)]
      show tRun ((q, 0) :: (c2 ++ w)) (z :: z :: s) = _
      rw [tRun_1 (by simp only [List.length_cons]; omega) (ho e q hq s)]
      exact pT_loop ho hg ha k e1 e' c2 x2 s w hs
theorem pO_o {e' : Nat} {c' : List (Nat × Nat)} (h : pO f L o e = .inr (e', c')) : c' = [] ∧ o < 7 := by
  unfold pO at h
  split at h
  · cases h; exact ⟨rfl, ‹_›⟩
  · cases h
theorem pSg_n {e' : Nat} {c' : List (Nat × Nat)} (h : pSg f L k e = .inr (e', c')) : c' = [] := (pSg_i h).1
theorem pT_sub {o' t' : Nat} (h : pT L p t' o' 0) (ht : t' ≠ 3) {e e' : Nat} {c' : List (Nat × Nat)} (hr : p t' o' 0 e = .inr (e', c')) (hs : s.length + 5 * (7 - o') + offT t' ≤ 63) : tRun (c' ++ w) s = tRun w (decide (t' ≤ 3) :: s) := by
  have := h e e' c' hr s w hs
  rw [if_neg ht] at this
  exact this
theorem pT_0 (h : pT L p 1 o 0) : pT L (pR1 f L m p) 0 o x := by
  intro e e' c' hr s w hs
  have hs' : s.length + 5 * (7 - o) + 8 ≤ 63 := hs
  obtain ⟨e1, c1, c2, x1, x2, x3⟩ := pB_inr (show pB (p 1 o 0 e) (pLp f L (p 1 o 0) (pOr f L) 1600) = _ from hr)
  rw [if_neg (by decide), x3, List.append_assoc, pT_sub h (by decide) x1 (by show s.length + 5 * (7 - o) + 7 ≤ 63; omega)]
  refine pT_loop (a := 5 * (7 - o) + 7) (z := true) (fun e q hq s => ?_) (fun e e' c' hr s w hs => pT_sub h (by decide) hr (by show s.length + 5 * (7 - o) + 7 ≤ 63; omega)) (by omega) 1600 e1 e' c2 x2 s w (by omega)
  unfold pOr at hq
  split at hq
  · cases hq; rfl
  · cases hq
theorem pT_1 (h : pT L p 2 o 0) : pT L (pR1 f L m p) 1 o x := by
  intro e e' c' hr s w hs
  have hs' : s.length + 5 * (7 - o) + 7 ≤ 63 := hs
  obtain ⟨e1, c1, c2, x1, x2, x3⟩ := pB_inr (show pB (p 2 o 0 e) (pLp f L (p 2 o 0) (pAnd f L) 1600) = _ from hr)
  rw [if_neg (by decide), x3, List.append_assoc, pT_sub h (by decide) x1 (by show s.length + 5 * (7 - o) + 6 ≤ 63; omega)]
  refine pT_loop (a := 5 * (7 - o) + 6) (z := true) (fun e q hq s => ?_) (fun e e' c' hr s w hs => pT_sub h (by decide) hr (by show s.length + 5 * (7 - o) + 6 ≤ 63; omega)) (by omega) 1600 e1 e' c2 x2 s w (by omega)
  unfold pAnd at hq
  split at hq
  · cases hq; rfl
  · cases hq
theorem pT_4 (h : pT L p 5 o 0) : pT L (pR1 f L m p) 4 o x := by
  intro e e' c' hr s w hs
  have hs' : s.length + 5 * (7 - o) + 5 ≤ 63 := hs
  obtain ⟨e1, c1, c2, x1, x2, x3⟩ := pB_inr (show pB (p 5 o 0 e) (pLp f L (p 5 o 0) (pAdd f L) 1600) = _ from hr)
  rw [if_neg (by decide), x3, List.append_assoc, pT_sub h (by decide) x1 (by show s.length + 5 * (7 - o) + 4 ≤ 63; omega)]
  refine pT_loop (a := 5 * (7 - o) + 4) (z := false) (fun e q hq s => ?_) (fun e e' c' hr s w hs => pT_sub h (by decide) hr (by show s.length + 5 * (7 - o) + 4 ≤ 63; omega)) (by omega) 1600 e1 e' c2 x2 s w (by omega)
  unfold pAdd at hq
  repeat' split at hq
  all_goals first | (cases hq; rfl) | cases hq
theorem pT_5 (h : pT L p 6 o 0) : pT L (pR1 f L m p) 5 o x := by
  intro e e' c' hr s w hs
  have hs' : s.length + 5 * (7 - o) + 4 ≤ 63 := hs
  obtain ⟨e1, c1, c2, x1, x2, x3⟩ := pB_inr (show pB (p 6 o 0 e) (pLp f L (p 6 o 0) (pMul f L) 1600) = _ from hr)
  rw [if_neg (by decide), x3, List.append_assoc, pT_sub h (by decide) x1 (by show s.length + 5 * (7 - o) + 3 ≤ 63; omega)]
  refine pT_loop (a := 5 * (7 - o) + 3) (z := false) (fun e q hq s => ?_) (fun e e' c' hr s w hs => pT_sub h (by decide) hr (by show s.length + 5 * (7 - o) + 3 ≤ 63; omega)) (by omega) 1600 e1 e' c2 x2 s w (by omega)
  unfold pMul at hq
  repeat' split at hq
  all_goals first | (cases hq; rfl) | cases hq
end Q9p

