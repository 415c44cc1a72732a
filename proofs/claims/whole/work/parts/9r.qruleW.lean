/-! ===== the facts of a rule ===== -/
def pA (m : Nat) (r : PE) : Prop := ∀ e' c', r = .inr (e', c') → ∀ y, y ∈ c' → y.1 = 1 → y.2 < (if m = 0 then 6 else 8)
section Q9r
variable {L e m o b d t k a x : Nat} {f : Nat → Nat} {p : PC} {r : PE} {g : Nat → PE}
theorem pA_B (h1 : pA m r) (h2 : ∀ e, pA m (g e)) : pA m (pB r g) := by
  intro e' c' hr y hy
  obtain ⟨e1, c1, c2, x1, x2, x3⟩ := pB_inr hr
  rw [x3] at hy
  rcases List.mem_append.mp hy with hy | hy
  · exact h1 e1 c1 x1 y hy
  · exact h2 e1 e' c2 x2 y hy
theorem pA_put {q : Nat} : pA m (pPut q e) := by
  intro e' c' hr y hy _
  cases hr
  rcases List.mem_singleton.mp hy with rfl
  show 0 < _
  split <;> decide
theorem pA_l {z : Nat × Nat} : pA m (.inl z) := fun e' c' hr => by cases hr
theorem pA_n : pA m (.inr (e, [])) := fun e' c' hr y hy => by cases hr; cases hy
theorem pA_1 {q : Nat} (hq : q ≠ 1) : pA m (.inr (e, [(q, k)])) := fun e' c' hr y hy h1 => by
  cases hr
  rcases List.mem_singleton.mp hy with rfl
  exact absurd h1 hq
theorem pA_O : pA m (pO f L o e) := by unfold pO; split; exact pA_n; exact pA_l
theorem pA_S : pA m (pSg f L k e) := by unfold pSg; split; exact pA_n; exact pA_l
theorem pA_L {sel : Nat → Option Nat} (hg : ∀ e, pA m (g e)) : ∀ k e, pA m (pLp f L g sel k e)
  | 0, e => pA_n
  | k + 1, e => by
    unfold pLp
    cases sel e with
    | none => exact pA_n
    | some q => exact pA_B (pA_B (hg _) (fun _ => pA_put)) (fun e => pA_L hg k e)
theorem pR1_A (ih : ∀ t o x e, pA m (p t o x e)) : ∀ t o x e, pA m (pR1 f L m p t o x e)
  | 0, o, x, e => pA_B (ih _ _ _ _) (fun e => pA_L (fun e => ih _ _ _ e) _ e)
  | 1, o, x, e => pA_B (ih _ _ _ _) (fun e => pA_L (fun e => ih _ _ _ e) _ e)
  | 2, o, x, e => by
    show pA m (pFact f L p o e)
    unfold pFact
    split
    · exact pA_B pA_O (fun e => pA_B (ih _ _ _ _) (fun _ => pA_put))
    split
    · exact pA_B pA_O (fun e => pA_B (ih _ _ _ _) (fun _ => pA_S))
    split
    · exact pA_1 (by decide)
    · exact pA_B (ih _ _ _ _) (fun e => ih _ _ _ _)
  | 3, o, x, e => by
    show pA m (pSnd f L p o e)
    unfold pSnd
    split
    · exact pA_l
    · exact pA_B (ih _ _ _ _) (fun _ => pA_put)
  | 4, o, x, e => pA_B (ih _ _ _ _) (fun e => pA_L (fun e => ih _ _ _ e) _ e)
  | 5, o, x, e => pA_B (ih _ _ _ _) (fun e => pA_L (fun e => ih _ _ _ e) _ e)
  | 6, o, x, e => by
    show pA m (pPart f L m p o e)
    unfold pPart
    split
    · exact pA_1 (by decide)
    split
    · exact pA_B pA_O (fun e => pA_B (ih _ _ _ _) (fun _ => pA_S))
    split
    · exact ih _ _ _ _
    split
    · exact ih _ _ _ _
    split
    · exact ih _ _ _ _
    cases hq : pFc f L m e with
    | none => exact pA_l
    | some j =>
      intro e' c' hr y hy _
      cases hr
      rcases List.mem_singleton.mp hy with rfl
      show j < _
      unfold pFc at hq
      by_cases hm : m = 0
      · rw [if_pos hm]
        simp only [hm, reduceIte] at hq
        repeat' split at hq
        all_goals first | (cases hq; decide) | cases hq
      · rw [if_neg hm]
        simp only [hm, if_false] at hq
        repeat' split at hq
        all_goals first | (cases hq; decide) | cases hq
  | 7, o, x, e => by
    show pA m (pTwo f L p o x e)
    unfold pTwo
    split
    · exact pA_B pA_O (fun e => pA_B (ih _ _ _ _) (fun e => pA_B pA_S (fun e => pA_B (ih _ _ _ _) (fun e => pA_B pA_S (fun _ => pA_put)))))
    · exact pA_l
  | 8, o, x, e => by
    show pA m (pIf f L p o e)
    unfold pIf
    split
    · exact pA_B pA_O (fun e => pA_B (ih _ _ _ _) (fun e => pA_B pA_S (fun e => pA_B (ih _ _ _ _) (fun e => pA_B pA_S (fun e => pA_B (ih _ _ _ _) (fun e => pA_B pA_S (fun _ => pA_put)))))))
    · exact pA_l
  | _ + 9, _, _, _ => pA_l
theorem pR_A : ∀ (d t o x e : Nat), pA m (pR f L m d t o x e)
  | 0, _, _, _, _ => pA_l
  | d + 1, t, o, x, e => pR1_A (fun t o x e => pR_A d t o x e) t o x e
/-- the codes that a may and a wears give -/
theorem pR_may {e' : Nat} {c' : List (Nat × Nat)} (h : pR f L m d 0 0 0 e = .inr (e', c')) : tRun c' [] = some [true] ∧ c' ≠ [] := by
  have h1 := pR_T (L := L) (f := f) (m := m) d 0 0 0 (by decide) (by omega) e e' c' h [] [] (by decide)
  rw [List.append_nil, if_neg (by decide)] at h1
  refine ⟨h1, fun hc => ?_⟩
  rw [hc] at h1
  cases h1
theorem pR_wears {e' : Nat} {c' : List (Nat × Nat)} (h : pR f L 0 d 4 0 0 e = .inr (e', c')) : tRun c' [] = some [false] ∧ c' ≠ [] ∧ ∀ y, y ∈ c' → y.1 = 1 → y.2 < 6 := by
  have h1 := pR_T (L := L) (f := f) (m := 0) d 4 0 0 (by decide) (by omega) e e' c' h [] [] (by decide)
  rw [List.append_nil, if_neg (by decide)] at h1
  refine ⟨h1, fun hc => ?_, fun y hy h2 => ?_⟩
  · rw [hc] at h1
    cases h1
  · have := pR_A (m := 0) d 4 0 0 e e' c' h y hy h2
    rw [if_pos rfl] at this
    exact this
end Q9r

