/-! ===== the rules' reader, as both have it ===== -/
abbrev PE := Sum (Nat × Nat) (Nat × List (Nat × Nat))
def kP (f : Nat → Nat) (L e : Nat) : Nat := match kW f L e with | none => kS f L e | some p => p
abbrev iw (f : Nat → Nat) (L e k : Nat) : Prop := kW f L e = none ∧ kT f L e = 1 ∧ kV f L e = s_own k
abbrev ig (f : Nat → Nat) (L e c : Nat) : Prop := kT f L e = 3 ∧ kV f L e = c
abbrev iN (f : Nat → Nat) (L e : Nat) : Prop := kW f L e = none ∧ kT f L e = 2
def pB (r : PE) (g : Nat → PE) : PE := match r with
  | .inl x => .inl x
  | .inr (e, c) => (match g e with | .inl x => .inl x | .inr (e', c') => .inr (e', c ++ c'))
def pPut (o : Nat) (e : Nat) : PE := .inr (e, [(o, 0)])
def pHere (f : Nat → Nat) (L e : Nat) : PE := .inl (1, kP f L e)
def pO (f : Nat → Nat) (L o e : Nat) : PE := if o < 7 then .inr (kE f L e, []) else .inl (5, kS f L e)
def pSg (f : Nat → Nat) (L c e : Nat) : PE := if ig f L e c then .inr (kE f L e, []) else pHere f L e
def pCmp (f : Nat → Nat) (L e : Nat) : Option Nat := if ig f L e 60 then some 11 else if ig f L e 62 then some 12 else if ig f L e 61 then some 13 else none
def pMul (f : Nat → Nat) (L e : Nat) : Option Nat := if ig f L e 42 then some 6 else if ig f L e 47 then some 7 else if ig f L e 37 then some 8 else none
def pAdd (f : Nat → Nat) (L e : Nat) : Option Nat := if ig f L e 43 then some 4 else if ig f L e 45 then some 5 else none
def pOr (f : Nat → Nat) (L e : Nat) : Option Nat := if iw f L e 26 then some 15 else none
def pAnd (f : Nat → Nat) (L e : Nat) : Option Nat := if iw f L e 27 then some 14 else none
def pFc (f : Nat → Nat) (L m e : Nat) : Option Nat :=
  if iw f L e 5 then some 1 else if iw f L e 7 then some 2 else if iw f L e 19 then (if m = 0 then none else some 6) else if iw f L e 20 then some 0 else if iw f L e 21 then some 3 else if iw f L e 22 then some 4 else if iw f L e 23 then some 5 else if iw f L e 24 then (if m = 0 then none else some 7) else none
/-- a loop: while there is an operator, a further part and the operator -/
def pLp (f : Nat → Nat) (L : Nat) (p : Nat → PE) (sel : Nat → Option Nat) : Nat → Nat → PE
  | 0, e => .inr (e, [])
  | k + 1, e => match sel e with
    | none => .inr (e, [])
    | some o => pB (pB (p (kE f L e)) (pPut o)) (pLp f L p sel k)
abbrev PC := Nat → Nat → Nat → Nat → PE
def pFact (f : Nat → Nat) (L : Nat) (rc : PC) (o e : Nat) : PE :=
  if iw f L e 28 then pB (pO f L o e) (fun e => pB (rc 2 (o + 1) 0 e) (pPut 2))
  else if ig f L e 91 then pB (pO f L o e) (fun e => pB (rc 0 (o + 1) 0 e) (pSg f L 93))
  else if iw f L e 29 then .inr (kE f L e, [(16, 0)])
  else pB (rc 4 o 0 e) (rc 3 o 0)
def pSnd (f : Nat → Nat) (L : Nat) (rc : PC) (o e : Nat) : PE := match pCmp f L e with
  | none => pHere f L e
  | some q => pB (rc 4 o 0 (kE f L e)) (pPut q)
def pPart (f : Nat → Nat) (L m : Nat) (rc : PC) (o e : Nat) : PE :=
  if iN f L e then .inr (kE f L e, [(0, kV f L e)])
  else if ig f L e 40 then pB (pO f L o e) (fun e => pB (rc 4 (o + 1) 0 e) (pSg f L 41))
  else if iw f L e 30 then rc 7 o 9 e
  else if iw f L e 31 then rc 7 o 10 e
  else if iw f L e 25 then rc 8 o 0 e
  else (match pFc f L m e with
    | none => pHere f L e
    | some j => .inr (kE f L e, [(1, j)]))
def pTwo (f : Nat → Nat) (L : Nat) (rc : PC) (o b e : Nat) : PE :=
  if ig f L (kE f L e) 40 then pB (pO f L o (kE f L e)) (fun e => pB (rc 4 (o + 1) 0 e) (fun e => pB (pSg f L 44 e) (fun e => pB (rc 4 (o + 1) 0 e) (fun e => pB (pSg f L 41 e) (pPut b)))))
  else pHere f L (kE f L e)
def pIf (f : Nat → Nat) (L : Nat) (rc : PC) (o e : Nat) : PE :=
  if ig f L (kE f L e) 40 then pB (pO f L o (kE f L e)) (fun e => pB (rc 0 (o + 1) 0 e) (fun e => pB (pSg f L 44 e) (fun e => pB (rc 4 (o + 1) 0 e) (fun e => pB (pSg f L 44 e) (fun e => pB (rc 4 (o + 1) 0 e) (fun e => pB (pSg f L 41 e) (pPut 3)))))))
  else pHere f L (kE f L e)
/-- what is read: 0 test, 1 both, 2 fact, 3 second sum, 4 sum, 5 product, 6 part, 7 two, 8 if -/
def pR1 (f : Nat → Nat) (L m : Nat) (rc : PC) : PC
  | 0, o, _, e => pB (rc 1 o 0 e) (pLp f L (rc 1 o 0) (pOr f L) 1600)
  | 1, o, _, e => pB (rc 2 o 0 e) (pLp f L (rc 2 o 0) (pAnd f L) 1600)
  | 2, o, _, e => pFact f L rc o e
  | 3, o, _, e => pSnd f L rc o e
  | 4, o, _, e => pB (rc 5 o 0 e) (pLp f L (rc 5 o 0) (pAdd f L) 1600)
  | 5, o, _, e => pB (rc 6 o 0 e) (pLp f L (rc 6 o 0) (pMul f L) 1600)
  | 6, o, _, e => pPart f L m rc o e
  | 7, o, b, e => pTwo f L rc o b e
  | 8, o, _, e => pIf f L rc o e
  | _ + 9, _, _, _ => .inl (0, 0)
def pR (f : Nat → Nat) (L m : Nat) : Nat → PC
  | 0 => fun _ _ _ _ => .inl (0, 0)
  | d + 1 => pR1 f L m (pR f L m d)
/-- an answer leaves the rest of the text, and no more codes than bytes -/
def pW (L e a : Nat) (r : PE) : Prop := ∀ e' c, r = .inr (e', c) → e + c.length + a ≤ e' ∧ e' ≤ L
section Q94
variable {S Z V : xSt} {n L e m o b d t k a : Nat} {f : Nat → Nat} {r : PE} {g h : Nat → PE}
theorem pB_l {x : Nat × Nat} : pB (.inl x) g = .inl x := rfl
theorem pB_r {e : Nat} {c : List (Nat × Nat)} : pB (.inr (e, c)) g = (match g e with | .inl x => .inl x | .inr (e', c') => .inr (e', c ++ c')) := rfl
theorem pB_inr {e' : Nat} {c : List (Nat × Nat)} (hr : pB r g = .inr (e', c)) : ∃ e1 c1 c2, r = .inr (e1, c1) ∧ g e1 = .inr (e', c2) ∧ c = c1 ++ c2 := by
  match r, hr with
  | .inr (e1, c1), hr =>
    rw [pB_r] at hr
    cases hg : g e1 with
    | inl y => rw [hg] at hr; cases hr
    | inr y =>
      rw [hg] at hr
      cases hr
      exact ⟨e1, c1, y.2, rfl, hg, rfl⟩
theorem pB_assoc : pB (pB r g) h = pB r (fun e => pB (g e) h) := by
  match r with
  | .inl x => rfl
  | .inr (e1, c1) =>
    rw [pB_r, pB_r]
    match hg : g e1 with
    | .inl x => rfl
    | .inr (e2, c2) =>
      show pB (.inr (e2, c1 ++ c2)) h = _
      rw [pB_r, pB_r]
      match hh : h e2 with
      | .inl x => rfl
      | .inr (e3, c3) => simp only [List.append_assoc]
theorem pW_seq (h1 : pW L e a r) (h2 : ∀ e1, e1 ≤ L → pW L e1 0 (g e1)) : pW L e a (pB r g) := by
  intro e' c hr
  obtain ⟨e1, c1, c2, x1, x2, x3⟩ := pB_inr hr
  have y1 := h1 e1 c1 x1
  have y2 := h2 e1 y1.2 e' c2 x2
  rw [x3, List.length_append]
  omega
theorem pW_put (h1 : pW L e (a + 1) r) {q : Nat} : pW L e a (pB r (pPut q)) := by
  intro e' c hr
  obtain ⟨e1, c1, c2, x1, x2, x3⟩ := pB_inr hr
  have y1 := h1 e1 c1 x1
  cases x2
  rw [x3, List.length_append]
  exact ⟨by have := y1.1; simp only [List.length_cons, List.length_nil]; omega, y1.2⟩
theorem pW_le {e0 : Nat} (h0 : e0 ≤ e) (h1 : pW L e a r) : pW L e0 a r := fun e' c hr => by have := h1 e' c hr; omega
theorem pW_less (h1 : pW L e (a + 1) r) : pW L e a r := fun e' c hr => by have := h1 e' c hr; omega
theorem kE_gt (h : kT f L e ≠ 0) : e + 1 ≤ kE f L e := by
  have h1 := kS_ge (f := f) (L := L) (e := e)
  have h2 := kS_lt h
  have t3 : kT f L e ≤ 3 := by
    unfold kT
    repeat' split
    all_goals omega
  have gen : ∀ (p : Nat → Bool), p (f (kS f L e)) = true → kS f L e + 1 ≤ s_end p f L 1600 (kS f L e) := by
    intro p hp
    show _ ≤ (if kS f L e < L then _ else _)
    rw [if_pos h2, if_pos hp]
    exact s_end_ge 1599 _
  have k1 : kT f L e = 1 → isL (f (kS f L e)) = true := by
    intro hT
    unfold kT at hT
    rw [if_pos h2] at hT
    by_cases hx : isL (f (kS f L e)) = true
    · exact hx
    · rw [if_neg hx] at hT; split at hT <;> cases hT
  have k2 : kT f L e = 2 → isG (f (kS f L e)) = true := by
    intro hT
    unfold kT at hT
    rw [if_pos h2] at hT
    by_cases hx : isG (f (kS f L e)) = true
    · exact hx
    · rw [if_neg hx] at hT; split at hT <;> cases hT
  rcases (by omega : kT f L e = 1 ∨ kT f L e = 2 ∨ kT f L e = 3) with hT | hT | hT
  · have := gen isL (k1 hT)
    unfold kE
    rw [if_neg h, if_pos hT]
    omega
  · have := gen isG (k2 hT)
    unfold kE
    rw [if_neg h, if_neg (by omega), if_pos hT]
    omega
  · unfold kE
    rw [if_neg h, if_neg (by omega), if_neg (by omega)]
    omega
theorem iw_T (hi : iw f L e k) : kT f L e ≠ 0 := by have := hi.2.1; omega
theorem ig_T (hi : ig f L e k) : kT f L e ≠ 0 := by have := hi.1; omega
theorem iN_T (hi : iN f L e) : kT f L e ≠ 0 := by have := hi.2; omega
theorem ig_W (hi : ig f L e k) : kW f L e = none := by unfold kW; rw [hi.1]; rfl
theorem pOr_T {q : Nat} (hs : pOr f L e = some q) : kT f L e ≠ 0 := by
  unfold pOr at hs
  split at hs
  · exact iw_T ‹_›
  · cases hs
theorem pAnd_T {q : Nat} (hs : pAnd f L e = some q) : kT f L e ≠ 0 := by
  unfold pAnd at hs
  split at hs
  · exact iw_T ‹_›
  · cases hs
theorem pAdd_T {q : Nat} (hs : pAdd f L e = some q) : kT f L e ≠ 0 := by
  unfold pAdd at hs
  repeat' split at hs
  all_goals first | exact ig_T ‹_› | cases hs
theorem pMul_T {q : Nat} (hs : pMul f L e = some q) : kT f L e ≠ 0 := by
  unfold pMul at hs
  repeat' split at hs
  all_goals first | exact ig_T ‹_› | cases hs
theorem pCmp_T {q : Nat} (hs : pCmp f L e = some q) : kT f L e ≠ 0 := by
  unfold pCmp at hs
  repeat' split at hs
  all_goals first | exact ig_T ‹_› | cases hs
theorem pFc_T {q : Nat} (hs : pFc f L m e = some q) : kT f L e ≠ 0 := by
  unfold pFc at hs
  repeat' split at hs
  all_goals first | exact iw_T ‹_› | cases hs
theorem pW_O (he : e ≤ L) (hT : kT f L e ≠ 0) : pW L e 1 (pO f L o e) := by
  intro e' c hr
  unfold pO at hr
  split at hr
  · cases hr
    have := kE_gt hT
    have := kE_le (f := f) he
    show e + 0 + 1 ≤ _ ∧ _
    omega
  · cases hr
theorem pW_Sg (he : e ≤ L) : pW L e 0 (pSg f L k e) := by
  intro e' c hr
  unfold pSg at hr
  split at hr
  · cases hr
    have := kE_gt (ig_T ‹_›)
    have := kE_le (f := f) he
    show e + 0 + 0 ≤ _ ∧ _
    omega
  · cases hr
theorem pW_one (he : e ≤ L) (hT : kT f L e ≠ 0) {x : Nat × Nat} : pW L e 0 (.inr (kE f L e, [x])) := by
  intro e' c hr
  cases hr
  have := kE_gt hT
  have := kE_le (f := f) he
  show e + 1 + 0 ≤ _ ∧ _
  omega
theorem pW_H : pW L e a (pHere f L k) := fun e' c hr => by cases hr
theorem kE_to (hT : kT f L e ≠ 0) (h1 : pW L (kE f L e) 0 r) : pW L e 1 r := fun e' c hr => by
  have := h1 e' c hr
  have := kE_gt hT
  omega
theorem pLp_W {p : Nat → PE} {sel : Nat → Option Nat} (hp : ∀ e, e ≤ L → pW L e 0 (p e)) (hs : ∀ e q, sel e = some q → kT f L e ≠ 0) : ∀ k e, e ≤ L → pW L e 0 (pLp f L p sel k e)
  | 0, e, he => fun e' c hr => by
    cases hr
    exact ⟨by show e + 0 + 0 ≤ e; omega, he⟩
  | k + 1, e, he => by
    unfold pLp
    cases hq : sel e with
    | none =>
      intro e' c hr
      cases hr
      exact ⟨by show e + 0 + 0 ≤ e; omega, he⟩
    | some q =>
      exact pW_seq (pW_put (kE_to (hs e q hq) (hp _ (kE_le he)))) (fun e1 h1 => pLp_W hp hs k e1 h1)
theorem kE_from (he : e ≤ L) : e ≤ kE f L e ∧ kE f L e ≤ L := by
  have h1 := kS_ge (f := f) (L := L) (e := e)
  have h3 := kE_ge (f := f) (L := L) (e := e)
  exact ⟨by omega, kE_le he⟩
theorem pR1_W {rc : PC} (ih : ∀ (t o b e : Nat), e ≤ L → pW L e 0 (rc t o b e)) : ∀ (t o b e : Nat), e ≤ L → pW L e 0 (pR1 f L m rc t o b e)
  | 0, o, b, e, he => pW_seq (ih 1 o 0 e he) (fun e1 h1 => pLp_W (fun e he => ih 1 o 0 e he) (fun e q hq => pOr_T hq) 1600 e1 h1)
  | 1, o, b, e, he => pW_seq (ih 2 o 0 e he) (fun e1 h1 => pLp_W (fun e he => ih 2 o 0 e he) (fun e q hq => pAnd_T hq) 1600 e1 h1)
  | 2, o, b, e, he => by
    show pW L e 0 (pFact f L rc o e)
    unfold pFact
    split
    · rw [← pB_assoc]
      exact pW_put (pW_seq (pW_O he (iw_T ‹_›)) (fun e1 h1 => ih _ _ _ e1 h1))
    split
    · exact pW_less (pW_seq (pW_O he (ig_T ‹_›)) (fun e1 h1 => pW_seq (ih _ _ _ e1 h1) (fun e2 h2 => pW_Sg h2)))
    split
    · exact pW_one he (iw_T ‹_›)
    · exact pW_seq (ih _ _ _ e he) (fun e1 h1 => ih _ _ _ e1 h1)
  | 3, o, b, e, he => by
    show pW L e 0 (pSnd f L rc o e)
    unfold pSnd
    split
    · exact pW_H
    · exact pW_put (kE_to (pCmp_T ‹_›) (ih _ _ _ _ (kE_le he)))
  | 4, o, b, e, he => pW_seq (ih 5 o 0 e he) (fun e1 h1 => pLp_W (fun e he => ih 5 o 0 e he) (fun e q hq => pAdd_T hq) 1600 e1 h1)
  | 5, o, b, e, he => pW_seq (ih 6 o 0 e he) (fun e1 h1 => pLp_W (fun e he => ih 6 o 0 e he) (fun e q hq => pMul_T hq) 1600 e1 h1)
  | 6, o, b, e, he => by
    show pW L e 0 (pPart f L m rc o e)
    unfold pPart
    split
    · exact pW_one he (iN_T ‹_›)
    split
    · exact pW_less (pW_seq (pW_O he (ig_T ‹_›)) (fun e1 h1 => pW_seq (ih _ _ _ e1 h1) (fun e2 h2 => pW_Sg h2)))
    split
    · exact ih _ _ _ e he
    split
    · exact ih _ _ _ e he
    split
    · exact ih _ _ _ e he
    split
    · exact pW_H
    · exact pW_one he (pFc_T ‹_›)
  | 7, o, b, e, he => by
    show pW L e 0 (pTwo f L rc o b e)
    unfold pTwo
    split
    · obtain ⟨h0, h2⟩ := kE_from (f := f) he
      simp only [← pB_assoc]
      exact pW_le h0 (pW_put (pW_seq (pW_seq (pW_seq (pW_seq (pW_O h2 (ig_T ‹_›)) (fun e1 h1 => ih _ _ _ e1 h1)) (fun e2 h2 => pW_Sg h2)) (fun e1 h1 => ih _ _ _ e1 h1)) (fun e2 h2 => pW_Sg h2)))
    · exact pW_H
  | 8, o, b, e, he => by
    show pW L e 0 (pIf f L rc o e)
    unfold pIf
    split
    · obtain ⟨h0, h2⟩ := kE_from (f := f) he
      simp only [← pB_assoc]
      exact pW_le h0 (pW_put (pW_seq (pW_seq (pW_seq (pW_seq (pW_seq (pW_seq (pW_O h2 (ig_T ‹_›)) (fun e1 h1 => ih _ _ _ e1 h1)) (fun e2 h2 => pW_Sg h2)) (fun e1 h1 => ih _ _ _ e1 h1)) (fun e2 h2 => pW_Sg h2)) (fun e1 h1 => ih _ _ _ e1 h1)) (fun e2 h2 => pW_Sg h2)))
    · exact pW_H
  | _ + 9, _, _, _, _ => fun e' c hr => by cases hr
theorem pR_W : ∀ (d t o b e : Nat), e ≤ L → pW L e 0 (pR f L m d t o b e)
  | 0, _, _, _, _, _ => fun e' c hr => by cases hr
  | d + 1, t, o, b, e, he => pR1_W (pR_W d) t o b e he
end Q94

