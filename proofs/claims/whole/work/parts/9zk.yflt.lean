/-! ===== faults are within the text ===== -/
def pF (L : Nat) (r : PE) : Prop := match r with
  | .inl x => x.1 ≤ 6 ∧ x.2 ≤ L
  | .inr x => x.1 ≤ L
def zF {α : Type} (L : Nat) (pos : α → Nat) (r : Sum (Nat × Nat) α) : Prop := match r with
  | .inl x => x.1 ≤ 6 ∧ x.2 ≤ L
  | .inr a => pos a ≤ L
section Q9zk
variable {n L e m o b d t k a s w lo hi j r kd pl K c : Nat} {u : Option Nat} {f : Nat → Nat} {cc mc wc : List (Nat × Nat)} {Y Y' : Nat → Nat → Nat}
theorem kS_leL (he : e ≤ L) : kS f L e ≤ L := by
  have := kE_le (f := f) he
  have := kE_ge (f := f) (L := L) (e := e)
  omega
theorem kP_leL (he : e ≤ L) : kP f L e ≤ L := by
  have h1 := kS_leL (f := f) he
  have h2 := kE_le (f := f) he
  unfold kP
  cases hw : kW f L e with
  | none => exact h1
  | some p =>
    show p ≤ L
    unfold kW at hw
    repeat' split at hw
    all_goals first | (cases hw; omega) | cases hw
theorem pF_B {r : PE} {g : Nat → PE} (h : pF L r) (h2 : ∀ e, e ≤ L → pF L (g e)) : pF L (pB r g) := by
  match r, h with
  | .inl x, h => exact h
  | .inr (e1, c1), h =>
    rw [pB_r]
    have := h2 e1 h
    revert this
    match g e1 with
    | .inl x => exact fun h => h
    | .inr (e2, c2) => exact fun h => h
theorem pF_put (he : e ≤ L) {q : Nat} : pF L (pPut q e) := he
theorem pF_here (he : e ≤ L) : pF L (pHere f L e) := ⟨by dsimp only; decide, kP_leL he⟩
theorem pF_O (he : e ≤ L) : pF L (pO f L o e) := by
  unfold pO
  split
  · exact kE_le he
  · exact ⟨by dsimp only; decide, kS_leL he⟩
theorem pF_Sg (he : e ≤ L) : pF L (pSg f L k e) := by
  unfold pSg
  split
  · exact kE_le he
  · exact pF_here he
theorem pF_Lp {p : Nat → PE} {sel : Nat → Option Nat} (hp : ∀ e, e ≤ L → pF L (p e)) : ∀ k e, e ≤ L → pF L (pLp f L p sel k e)
  | 0, e, he => he
  | k + 1, e, he => by
    unfold pLp
    cases sel e with
    | none => exact he
    | some q => exact pF_B (pF_B (hp _ (kE_le he)) (fun e he => pF_put he)) (fun e he => pF_Lp hp k e he)
theorem pR1_F {rc : PC} (ih : ∀ (t o b e : Nat), e ≤ L → pF L (rc t o b e)) : ∀ (t o b e : Nat), e ≤ L → pF L (pR1 f L m rc t o b e)
  | 0, o, b, e, he => pF_B (ih 1 o 0 e he) (fun e1 h1 => pF_Lp (fun e he => ih 1 o 0 e he) 1600 e1 h1)
  | 1, o, b, e, he => pF_B (ih 2 o 0 e he) (fun e1 h1 => pF_Lp (fun e he => ih 2 o 0 e he) 1600 e1 h1)
  | 2, o, b, e, he => by
    show pF L (pFact f L rc o e)
    unfold pFact
    split
    · exact pF_B (pF_O he) (fun e h => pF_B (ih _ _ _ e h) (fun e h => pF_put h))
    split
    · exact pF_B (pF_O he) (fun e h => pF_B (ih _ _ _ e h) (fun e h => pF_Sg h))
    split
    · exact kE_le he
    · exact pF_B (ih _ _ _ e he) (fun e h => ih _ _ _ e h)
  | 3, o, b, e, he => by
    show pF L (pSnd f L rc o e)
    unfold pSnd
    split
    · exact pF_here he
    · exact pF_B (ih _ _ _ _ (kE_le he)) (fun e h => pF_put h)
  | 4, o, b, e, he => pF_B (ih 5 o 0 e he) (fun e1 h1 => pF_Lp (fun e he => ih 5 o 0 e he) 1600 e1 h1)
  | 5, o, b, e, he => pF_B (ih 6 o 0 e he) (fun e1 h1 => pF_Lp (fun e he => ih 6 o 0 e he) 1600 e1 h1)
  | 6, o, b, e, he => by
    show pF L (pPart f L m rc o e)
    unfold pPart
    split
    · exact kE_le he
    split
    · exact pF_B (pF_O he) (fun e h => pF_B (ih _ _ _ e h) (fun e h => pF_Sg h))
    split
    · exact ih _ _ _ e he
    split
    · exact ih _ _ _ e he
    split
    · exact ih _ _ _ e he
    split
    · exact pF_here he
    · exact kE_le he
  | 7, o, b, e, he => by
    show pF L (pTwo f L rc o b e)
    unfold pTwo
    split
    · exact pF_B (pF_O (kE_le he)) (fun e h => pF_B (ih _ _ _ e h) (fun e h => pF_B (pF_Sg h) (fun e h => pF_B (ih _ _ _ e h) (fun e h => pF_B (pF_Sg h) (fun e h => pF_put h)))))
    · exact pF_here (kE_le he)
  | 8, o, b, e, he => by
    show pF L (pIf f L rc o e)
    unfold pIf
    split
    · exact pF_B (pF_O (kE_le he)) (fun e h => pF_B (ih _ _ _ e h) (fun e h => pF_B (pF_Sg h) (fun e h => pF_B (ih _ _ _ e h) (fun e h => pF_B (pF_Sg h) (fun e h => pF_B (ih _ _ _ e h) (fun e h => pF_B (pF_Sg h) (fun e h => pF_put h)))))))
    · exact pF_here (kE_le he)
  | _ + 9, _, _, _, _ => ⟨by dsimp only; decide, Nat.zero_le _⟩
theorem pR_F : ∀ (d t o b e : Nat), e ≤ L → pF L (pR f L m d t o b e)
  | 0, _, _, _, _, _ => ⟨by dsimp only; decide, Nat.zero_le _⟩
  | d + 1, t, o, b, e, he => pR1_F (pR_F d) t o b e he
theorem zF_B {α β : Type} {pos : α → Nat} {pos' : β → Nat} {r : Sum (Nat × Nat) α} {g : α → Sum (Nat × Nat) β} (h : zF L pos r) (h2 : ∀ a, pos a ≤ L → zF L pos' (g a)) : zF L pos' (zB r g) := by
  match r, h with
  | .inl x, h => exact h
  | .inr a, h => exact h2 a h
theorem tW_F (he : e ≤ L) : zF L (fun e => e) (tW f L k e) := by
  unfold tW
  split
  · exact kE_le he
  · exact ⟨by dsimp only; decide, kP_leL he⟩
theorem tN_F (he : e ≤ L) : zF L (fun x => x.2) (tN f L lo hi e) := by
  unfold tN
  split
  · split
    · exact kE_le he
    · exact ⟨by dsimp only; decide, kS_leL he⟩
  · exact ⟨by dsimp only; decide, kP_leL he⟩
theorem tA_F (he : e ≤ L) : zF L (fun x => x.2) (tA f L Y s u e) := by
  unfold tA
  split
  · split
    · exact ⟨by dsimp only; decide, kS_leL he⟩
    · split
      · exact ⟨by dsimp only; decide, kS_leL he⟩
      · exact kE_le he
  · exact ⟨by dsimp only; decide, kP_leL he⟩
theorem tF_F (he : e ≤ L) : zF L (fun x => x.2) (tF f L Y e) := by
  unfold tF
  split
  · split
    · exact ⟨by dsimp only; decide, kS_leL he⟩
    · exact kE_le he
  · exact ⟨by dsimp only; decide, kP_leL he⟩
theorem tO_F {full : Prop} [Decidable full] (he : e ≤ L) : zF L (fun e => e) (tO f L full e) := by
  unfold tO
  split
  · exact ⟨by dsimp only; decide, kS_leL he⟩
  · exact kE_le he
theorem zSt_F : ∀ (k st : Nat) (Y : Nat → Nat → Nat) (e : Nat), e ≤ L → zF L (fun x => x.1) (zSteps f L j k st Y e)
  | 0, st, Y, e, he => ⟨by dsimp only; decide, kS_leL he⟩
  | k + 1, st, Y, e, he => by
    unfold zSteps
    refine zF_B (tA_F he) (fun a ha => zF_B (tN_F ha) (fun r hr => ?_))
    split
    · exact zSt_F k (st + 1) _ _ hr
    · exact hr
theorem zPl_F {r : YS} (h : zF L (fun x => x.1) r) : zF L (fun x => x.1) (zPl r cc) := zF_B h (fun _ h => h)
theorem zS_F (he : e ≤ L) : zF L (fun x => x.1) (zS f L Y cc e) := by
  have hk := kE_le (f := f) he
  unfold zS
  by_cases i0 : iw f L e 0
  · rw [if_pos i0]
    exact zPl_F (zF_B (tO_F he) (fun _ h => zF_B (tF_F h) (fun _ h => zF_B (tW_F h) (fun _ h => zF_B (tN_F h) (fun _ h => zF_B (tW_F h) (fun _ h => zF_B (tN_F h) (fun _ h => h)))))))
  rw [if_neg i0]
  by_cases i3 : iw f L e 3
  · rw [if_pos i3]
    exact zPl_F (zF_B (tO_F he) (fun _ h => zF_B (tF_F h) (fun _ h => zF_B (tW_F h) (fun _ h => zF_B (tA_F h) (fun _ h => zF_B (tW_F h) (fun _ h => zF_B (tN_F h) (fun _ h => h)))))))
  rw [if_neg i3]
  by_cases i6 : iw f L e 6
  · rw [if_pos i6]
    exact zPl_F (zF_B (tO_F he) (fun _ h => zF_B (tF_F h) (fun _ h => h)))
  rw [if_neg i6]
  by_cases i7 : iw f L e 7
  · rw [if_pos i7]
    exact zPl_F (zF_B (tA_F hk) (fun _ h => zF_B (tA_F h) (fun _ h => zF_B (tN_F h) (fun _ h => h))))
  rw [if_neg i7]
  by_cases i8 : iw f L e 8
  · rw [if_pos i8]
    exact zPl_F (zF_B (tO_F he) (fun _ h => zF_B (tF_F h) (fun _ h => zF_B (tW_F h) (fun _ h => zF_B (tN_F h) (fun _ h => zF_B (tW_F h) (fun _ h => zSt_F _ _ _ _ h))))))
  rw [if_neg i8]
  by_cases i11 : iw f L e 11
  · rw [if_pos i11]
    exact zPl_F (zF_B (tA_F hk) (fun _ h => zF_B (tW_F h) (fun _ h => zF_B (tA_F h) (fun _ h => zF_B (tW_F h) (fun _ h => zF_B (tN_F h) (fun _ h => h))))))
  rw [if_neg i11]
  by_cases i14 : iw f L e 14
  · rw [if_pos i14]
    refine zF_B (tO_F he) (fun e1 h => ?_)
    have := pR_F (f := f) (m := 1) 80 0 0 0 e1 h
    revert this
    match pR f L 1 80 0 0 0 e1 with
    | .inl x => exact fun h => h
    | .inr x => exact fun h => h
  rw [if_neg i14]
  by_cases i15 : iw f L e 15
  · rw [if_pos i15]
    refine zF_B (tO_F he) (fun e1 h => ?_)
    have := pR_F (f := f) (m := 0) 80 4 0 0 e1 h
    revert this
    match pR f L 0 80 4 0 0 e1 with
    | .inl x => exact fun h => h
    | .inr x => exact fun h => h
  rw [if_neg i15]
  by_cases i16 : iw f L e 16
  · rw [if_pos i16]
    exact zPl_F (zF_B (tN_F hk) (fun _ h => h))
  rw [if_neg i16]
  by_cases i17 : iw f L e 17
  · rw [if_pos i17]
    exact zPl_F (zF_B (tN_F hk) (fun _ h => zF_B (tW_F h) (fun _ h => zF_B (tN_F h) (fun _ h => h))))
  rw [if_neg i17]
  by_cases i18 : iw f L e 18
  · rw [if_pos i18]
    exact zPl_F (zF_B (tN_F hk) (fun _ h => h))
  rw [if_neg i18]
  by_cases i19 : iw f L e 19
  · rw [if_pos i19]
    exact zPl_F (zF_B (tN_F hk) (fun _ h => h))
  rw [if_neg i19]
  exact ⟨by dsimp only; decide, kP_leL he⟩
theorem zL_F : ∀ (k c : Nat) (Y : Nat → Nat → Nat) (cc : List (Nat × Nat)) (e : Nat), e ≤ L → ∀ kd pl, zL f L k c Y cc e = .inl (kd, pl) → kd ≤ 6 ∧ pl ≤ L
  | k, c, Y, cc, e, he, kd, pl, h => by
    unfold zL at h
    by_cases hT : kT f L e = 0
    · rw [if_pos hT] at h; cases h
    rw [if_neg hT] at h
    match k, h with
    | 0, h => cases h; exact ⟨by decide, kS_leL he⟩
    | k + 1, h =>
      have h' : zB (zT f L Y cc e) (fun x => zL f L k (c + 1) x.2.1 x.2.2 x.1) = .inl (kd, pl) := h
      have hS := zS_F (f := f) (Y := Y) (cc := cc) he
      unfold zT at h'
      revert h' hS
      cases zS f L Y cc e with
      | inl x => intro h' hS; cases h'; exact hS
      | inr x =>
        intro h' hS
        have hS' : x.1 ≤ L := hS
        have h'' : zB (if ig f L x.1 59 then .inr (kE f L x.1, x.2) else .inl (1, kP f L x.1)) (fun x => zL f L k (c + 1) x.2.1 x.2.2 x.1) = .inl (kd, pl) := h'
        by_cases hi : ig f L x.1 59
        · rw [if_pos hi] at h''
          exact zL_F k (c + 1) _ _ _ (kE_le hS') kd pl h''
        · rw [if_neg hi] at h''
          cases h''
          exact ⟨by decide, kP_leL hS'⟩
end Q9zk

