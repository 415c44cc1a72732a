/-! ===== the codes of a rule are well made: all of it ===== -/
section Q9q
variable {L e m o b d t k a x : Nat} {f : Nat → Nat} {p : PC} {c : List (Nat × Nat)} {w : List (Nat × Nat)} {s s' : List Bool}
theorem pT_3 (h : pT L p 4 o 0) : pT L (pR1 f L m p) 3 o x := by
  intro e e' c' hr s w hs
  have hs' : s.length + 5 * (7 - o) + 6 ≤ 63 := hs
  rw [if_pos rfl]
  have hr : pSnd f L p o e = .inr (e', c') := hr
  unfold pSnd at hr
  cases hq : pCmp f L e with
  | none => rw [hq] at hr; cases hr
  | some q =>
    rw [hq] at hr
    obtain ⟨e1, c1, c2, x1, x2, x3⟩ := pB_inr hr
    cases x2
    rw [x3, List.append_assoc, pT_sub h (by decide) x1 (by show (false :: s).length + 5 * (7 - o) + 5 ≤ 63; rw [List.length_cons]; omega)]
    refine tRun_1 (by simp only [List.length_cons]; omega) ?_
    unfold pCmp at hq
    repeat' split at hq
    all_goals first | (cases hq; rfl) | cases hq
theorem pT_2 (h2 : o < 7 → pT L p 2 (o + 1) 0) (h0 : o < 7 → pT L p 0 (o + 1) 0) (h4 : pT L p 4 o 0) (h3 : pT L p 3 o 0) : pT L (pR1 f L m p) 2 o x := by
  intro e e' c' hr s w hs
  have hs' : s.length + 5 * (7 - o) + 6 ≤ 63 := hs
  rw [if_neg (by decide)]
  have hr : pFact f L p o e = .inr (e', c') := hr
  unfold pFact at hr
  split at hr
  · obtain ⟨e1, c1, c2, x1, x2, x3⟩ := pB_inr hr
    obtain ⟨rfl, ho⟩ := pO_o x1
    obtain ⟨e3, c3, c4, y1, y2, y3⟩ := pB_inr x2
    cases y2
    rw [x3, y3, List.nil_append, List.append_assoc, pT_sub (h2 ho) (by decide) y1 (by show s.length + 5 * (7 - (o + 1)) + 6 ≤ 63; omega)]
    exact tRun_1 (by simp only [List.length_cons]; omega) rfl
  split at hr
  · obtain ⟨e1, c1, c2, x1, x2, x3⟩ := pB_inr hr
    obtain ⟨rfl, ho⟩ := pO_o x1
    obtain ⟨e3, c3, c4, y1, y2, y3⟩ := pB_inr x2
    have := pSg_n y2
    subst this
    rw [x3, y3, List.nil_append, List.append_nil, pT_sub (h0 ho) (by decide) y1 (by show s.length + 5 * (7 - (o + 1)) + 8 ≤ 63; omega)]
    rfl
  split at hr
  · cases hr
    exact tRun_1 (by omega) rfl
  · obtain ⟨e1, c1, c2, x1, x2, x3⟩ := pB_inr hr
    rw [x3, List.append_assoc, pT_sub h4 (by decide) x1 (by show s.length + 5 * (7 - o) + 5 ≤ 63; omega)]
    have := h3 e1 e' c2 x2 s w (by show s.length + 5 * (7 - o) + 6 ≤ 63; omega)
    rw [if_pos rfl] at this
    exact this
theorem pT_6 (h4 : o < 7 → pT L p 4 (o + 1) 0) (h7 : ∀ x, x = 9 ∨ x = 10 → pT L p 7 o x) (h8 : pT L p 8 o 0) : pT L (pR1 f L m p) 6 o x := by
  intro e e' c' hr s w hs
  have hs' : s.length + 5 * (7 - o) + 3 ≤ 63 := hs
  rw [if_neg (by decide)]
  have hr : pPart f L m p o e = .inr (e', c') := hr
  unfold pPart at hr
  split at hr
  · rename_i hN
    cases hr
    have hv := kV_num hN.2
    refine tRun_1 (by omega) ?_
    show (if 10000 ≤ kV f L e then none else some (false :: s)) = _
    rw [if_neg (by omega)]
    rfl
  split at hr
  · obtain ⟨e1, c1, c2, x1, x2, x3⟩ := pB_inr hr
    obtain ⟨rfl, ho⟩ := pO_o x1
    obtain ⟨e3, c3, c4, y1, y2, y3⟩ := pB_inr x2
    have := pSg_n y2
    subst this
    rw [x3, y3, List.nil_append, List.append_nil, pT_sub (h4 ho) (by decide) y1 (by show s.length + 5 * (7 - (o + 1)) + 5 ≤ 63; omega)]
    rfl
  split at hr
  · have := h7 9 (Or.inl rfl) e e' c' hr s w hs
    rw [if_neg (by decide)] at this
    exact this
  split at hr
  · have := h7 10 (Or.inr rfl) e e' c' hr s w hs
    rw [if_neg (by decide)] at this
    exact this
  split at hr
  · have := h8 e e' c' hr s w hs
    rw [if_neg (by decide)] at this
    exact this
  cases hq : pFc f L m e with
  | none => rw [hq] at hr; cases hr
  | some j =>
    rw [hq] at hr
    cases hr
    have hj : j < 8 := by
      unfold pFc at hq
      repeat' split at hq
      all_goals first | (cases hq; decide) | cases hq
    refine tRun_1 (by omega) ?_
    show (if 10000 ≤ j then none else if j < 8 then some (false :: s) else none) = _
    rw [if_neg (by omega), if_pos hj]
    rfl
theorem pT_7 (hx : x = 9 ∨ x = 10) (h4 : o < 7 → pT L p 4 (o + 1) 0) : pT L (pR1 f L m p) 7 o x := by
  intro e e' c' hr s w hs
  have hs' : s.length + 5 * (7 - o) + 3 ≤ 63 := hs
  rw [if_neg (by decide)]
  have hr : pTwo f L p o x e = .inr (e', c') := hr
  unfold pTwo at hr
  split at hr
  · obtain ⟨e1, c1, c2, x1, x2, x3⟩ := pB_inr hr
    obtain ⟨rfl, ho⟩ := pO_o x1
    obtain ⟨e3, c3, c4, y1, y2, y3⟩ := pB_inr x2
    obtain ⟨e5, c5, c6, z1, z2, z3⟩ := pB_inr y2
    obtain ⟨e7, c7, c8, u1, u2, u3⟩ := pB_inr z2
    obtain ⟨e9, c9, c10, v1, v2, v3⟩ := pB_inr u2
    have q1 := pSg_n z1
    have q2 := pSg_n v1
    subst q1 q2
    cases v2
    rw [x3, y3, z3, u3, v3, List.nil_append, List.nil_append, List.nil_append, List.append_assoc, List.append_assoc, pT_sub (h4 ho) (by decide) y1 (by show s.length + 5 * (7 - (o + 1)) + 5 ≤ 63; omega), pT_sub (h4 ho) (by decide) u1 (by show (false :: s).length + 5 * (7 - (o + 1)) + 5 ≤ 63; rw [List.length_cons]; omega)]
    refine tRun_1 (by simp only [List.length_cons]; omega) ?_
    rcases hx with rfl | rfl <;> rfl
  · cases hr
theorem pT_8 (h0 : o < 7 → pT L p 0 (o + 1) 0) (h4 : o < 7 → pT L p 4 (o + 1) 0) : pT L (pR1 f L m p) 8 o x := by
  intro e e' c' hr s w hs
  have hs' : s.length + 5 * (7 - o) + 3 ≤ 63 := hs
  rw [if_neg (by decide)]
  have hr : pIf f L p o e = .inr (e', c') := hr
  unfold pIf at hr
  split at hr
  · obtain ⟨e1, c1, c2, x1, x2, x3⟩ := pB_inr hr
    obtain ⟨rfl, ho⟩ := pO_o x1
    obtain ⟨e3, c3, c4, y1, y2, y3⟩ := pB_inr x2
    obtain ⟨e5, c5, c6, z1, z2, z3⟩ := pB_inr y2
    obtain ⟨e7, c7, c8, u1, u2, u3⟩ := pB_inr z2
    obtain ⟨e9, c9, c10, v1, v2, v3⟩ := pB_inr u2
    obtain ⟨e11, c11, c12, i1, i2, i3⟩ := pB_inr v2
    obtain ⟨e13, c13, c14, j1, j2, j3⟩ := pB_inr i2
    have q1 := pSg_n z1
    have q2 := pSg_n v1
    have q3 := pSg_n j1
    subst q1 q2 q3
    cases j2
    rw [x3, y3, z3, u3, v3, i3, j3, List.nil_append, List.nil_append, List.nil_append, List.nil_append, List.append_assoc, List.append_assoc, List.append_assoc, pT_sub (h0 ho) (by decide) y1 (by show s.length + 5 * (7 - (o + 1)) + 8 ≤ 63; omega), pT_sub (h4 ho) (by decide) u1 (by show (true :: s).length + 5 * (7 - (o + 1)) + 5 ≤ 63; rw [List.length_cons]; omega), pT_sub (h4 ho) (by decide) i1 (by show (false :: true :: s).length + 5 * (7 - (o + 1)) + 5 ≤ 63; simp only [List.length_cons]; omega)]
    exact tRun_1 (by simp only [List.length_cons]; omega) rfl
  · cases hr
theorem pR_T : ∀ (d t o x : Nat), t ≤ 8 → (t = 7 → x = 9 ∨ x = 10) → pT L (pR f L m d) t o x
  | 0, t, o, x, ht, hx => by intro e e' c' hr; cases hr
  | d + 1, t, o, x, ht, hx => by
    have ih : ∀ t o x, t ≤ 8 → (t = 7 → x = 9 ∨ x = 10) → pT L (pR f L m d) t o x := fun t o x h1 h2 => pR_T d t o x h1 h2
    show pT L (pR1 f L m (pR f L m d)) t o x
    rcases (by omega : t = 0 ∨ t = 1 ∨ t = 2 ∨ t = 3 ∨ t = 4 ∨ t = 5 ∨ t = 6 ∨ t = 7 ∨ t = 8) with rfl | rfl | rfl | rfl | rfl | rfl | rfl | rfl | rfl
    · exact pT_0 (ih 1 o 0 (by decide) (by omega))
    · exact pT_1 (ih 2 o 0 (by decide) (by omega))
    · exact pT_2 (fun _ => ih 2 (o + 1) 0 (by decide) (by omega)) (fun _ => ih 0 (o + 1) 0 (by decide) (by omega)) (ih 4 o 0 (by decide) (by omega)) (ih 3 o 0 (by decide) (by omega))
    · exact pT_3 (ih 4 o 0 (by decide) (by omega))
    · exact pT_4 (ih 5 o 0 (by decide) (by omega))
    · exact pT_5 (ih 6 o 0 (by decide) (by omega))
    · exact pT_6 (fun _ => ih 4 (o + 1) 0 (by decide) (by omega)) (fun x hx => ih 7 o x (by decide) (fun _ => hx)) (ih 8 o 0 (by decide) (by omega))
    · exact pT_7 (hx rfl) (fun _ => ih 4 (o + 1) 0 (by decide) (by omega))
    · exact pT_8 (fun _ => ih 0 (o + 1) 0 (by decide) (by omega)) (fun _ => ih 4 (o + 1) 0 (by decide) (by omega))
end Q9q

