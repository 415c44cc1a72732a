/-! ===== the reference reads a rule as the plain reader does ===== -/
/-- the second sum -/
def j3 (n b : Nat) (f : Nat → Nat) (L m : Nat) (rc : PC) (o : Nat) : Prop := ∀ e cc P D K A S S0, A ≤ P.length → vM b f L m P o D K A 5 (q4 f L 0) S0 S e cc → K ≤ 6 → isTs K → hPr A 5 P → P.length ≤ 6 * o + 2 → iOk n b L S e cc (vM b f L m P o D K A 3 (q2 f L) S0) (rc 3 o 0 e)
section Q9w
variable {S Z V W S0 V0 : xSt} {n L e m o b d t k a A D K H B r r' x q K0 H0 A0 K2 : Nat} {f : Nat → Nat} {c cc : List (Nat × Nat)} {P P' p : List Nat} {R : PE} {g : Nat → PE} {E E' : xSt → Nat → List (Nat × Nat) → Prop} {Q Q' : Nat → Nat → Prop} {rc : PC}
/-- min, max, if: the bracket -/
theorem r_open {w : Nat} (hn : 2000 ≤ n) (hq : (q = 9 ∧ K2 = 3) ∨ (q = 10 ∧ K2 = 3) ∨ (q = 3 ∧ K2 = 6)) (h : stM S b f L m e c P o D K H B A) (h51 : S.1 0 51 = nI 0) (h0 : frD D S0 S) (hop : fX12_operand n 0 S = fX12_operand_B249 n 0 (nI (mSort (q, 0))) (xuI S 29 (D - 1) (nI 0))) (hi : iw f L e w)
    (hg : o < 7 → ∀ V, stM V b f L m (kE f L (kE f L e)) c P (o + 1) (D + 1) K2 0 1 P.length → V.1 0 51 = nI 0 → V.1 30 D = nI (mSort (q, 0)) → blw V D K H A → frD D S0 V → iOk n b L V (kE f L (kE f L e)) c E (g (kE f L (kE f L e)))) :
    iOk n b L S e c E (if ig f L (kE f L e) 40 then pB (pO f L o (kE f L e)) g else pHere f L (kE f L e)) := by
  have he := h.2.1
  have hD := h.2.2.2.2.2.2.2.2.2.1
  obtain ⟨h', f1, f2⟩ := stM_bare h
  obtain ⟨y1, y2, y3⟩ := o_B249 (q := q) (K' := K2) hn h' (iw_T hi) hq
  have hg1 := kE_gt (iw_T hi)
  by_cases w2 : ig f L (kE f L e) 40
  · rw [if_pos w2]
    unfold pO
    by_cases ho : o < 7
    · rw [if_pos ho]
      obtain ⟨Z, z1, z2, z30, z3, z4, z5⟩ := y1 w2 ho
      have hg2 := kE_gt (ig_T w2)
      obtain ⟨s1, s2, s3⟩ := s_flag (x := nI 0) z2
      have hl0 : blw (xuI Z 0 51 (nI 0)) D K H A := by
        obtain ⟨t1, t2, t3, t4, t5⟩ := h'.2.2.2.2.2.1
        refine ⟨?_, ?_, ?_, ?_⟩
        · rw [quI_k (by omega), z4 27 (D - 1) (by decide) (by decide) (by omega)]; exact t2
        · rw [quI_k (by omega), z4 28 (D - 1) (by decide) (by decide) (by omega)]; exact t3
        · rw [quI_k (by omega), z4 29 (D - 1) (by decide) (by decide) (by omega)]; exact t4
        · rw [quI_k (by omega), z4 31 (D - 1) (by decide) (by decide) (by omega)]; exact t5
      have f0 : frD D S0 (xuI Z 0 51 (nI 0)) := frD_trans h0 (frD_trans f2 (fun k j a1 a2 a3 => by rw [quI_k (by omega)]; exact z4 k j a1 a2 (by omega)))
      exact iOk_nil (rd_op (by decide) h51 (hop.trans z1) z2.2.2.1) (frN_trans f1 (frN_trans z3 s2)) (by omega) (hg ho _ s1 quI_e (by rw [quI_k (by omega)]; exact z30) hl0 f0)
    · rw [if_neg ho]
      have ho7 : o = 7 := by have := h.2.2.2.2.2.2.2.2.2.2.1; omega
      obtain ⟨Z, z1, z2⟩ := y2 w2 ho7
      exact iOk_opF he h51 (by decide) (hop.trans z1) (flM_pre f1 z2) (by decide) (by decide)
  · rw [if_neg w2]
    obtain ⟨Z, z1, z2⟩ := y3 w2
    exact iOk_opF he h51 (by decide) (hop.trans z1) (flM_pre f1 z2) (by decide) (by decide)
theorem nT2 : ¬ isTs 2 := by unfold isTs; decide
theorem nT3 : ¬ isTs 3 := by unfold isTs; decide
theorem nT4 : ¬ isTs 4 := by unfold isTs; decide
theorem r_two2 (hn : 2000 ≤ n) (hb : b < 2) (h4 : jS n b f L m rc 4 (o + 1) 5 3 5 (q4 f L)) (hq : q = 9 ∨ q = 10 ∨ q = 3) (h : stM V b f L m e c P (o + 1) (D + 1) 3 0 B P.length) (hB : B ≤ 1) (h51 : V.1 0 51 = nI 0) (h30 : V0.1 30 D = nI (mSort (q, 0))) (hl : blw V0 D K H A) (h0 : frD D S0 V0) (hv0 : frD (D + 1) V0 V) (hD : 1 ≤ D) (hA : A ≤ P.length) (hP : P.length ≤ 6 * o + 5) :
    iOk n b L V e c (vM b f L m P o D K A 7 (q6 H) S0) (pB (rc 4 (o + 1) 0 e) (fun e => pB (pSg f L 44 e) (fun e => pB (rc 4 (o + 1) 0 e) (fun e => pB (pSg f L 41 e) (pPut q))))) := by
  refine iOk_seq (h4 _ _ _ _ _ _ _ _ _ _ h h51 (by decide) (by decide) hB (fun hh => absurd hh nT3) (fun hh => absurd hh (Nat.lt_irrefl _)) (by omega) hv0) (fun W e1 c1 hv => ?_)
  refine iOk_seq (sgc (K2 := 4) hb hn hv (by decide) (fun e H hq => nx_q4 rfl hq nT3) (Or.inl ⟨rfl, rfl⟩)) (fun X e2 c2 hx => ?_)
  refine iOk_seq (h4 _ _ _ _ _ _ _ _ _ _ hx.1 hx.2.1 (by decide) (by decide) (by decide) (fun hh => absurd hh nT4) (fun hh => absurd hh (Nat.lt_irrefl _)) (by omega) hx.2.2) (fun Y e3 c3 hy => ?_)
  exact sg4 hb hn hy (by decide) (fun e H hq => nx_q4 rfl hq nT4) hD hl h0 hA h30 hq
theorem r_two (hn : 2000 ≤ n) (hb : b < 2) (h4 : o < 7 → jS n b f L m rc 4 (o + 1) 5 3 5 (q4 f L)) (hx : x = 9 ∧ k = 30 ∨ x = 10 ∧ k = 31) : jU n b f L m (pR1 f L m rc) 7 o x k := by
  intro e c P D K H B A S S0 h h51 hK hH hB hc hl h0 hi
  show iOk n b L S e c _ (pTwo f L rc o x e)
  have hD := h.2.2.2.2.2.2.2.2.2.1
  have hA := h.2.2.2.2.2.2.2.1
  have hin := o_in (n := n) h hi.1 hK hB hc
  have h' := (stM_bare h).1
  have hop : fX12_operand n 0 S = fX12_operand_B249 n 0 (nI (mSort (x, 0))) (xuI S 29 (D - 1) (nI 0)) := by
    rcases hx with ⟨rfl, rfl⟩ | ⟨rfl, rfl⟩
    · exact hin.trans (o_w30 h' hi)
    · exact hin.trans (o_w31 h' hi)
  unfold pTwo
  refine r_open (q := x) (K2 := 3) hn (by omega) h h51 h0 hop hi (fun ho V v1 v2 v3 v4 v5 => ?_)
  exact r_two2 hn hb (h4 ho) (by omega) v1 (by decide) v2 v3 v4 v5 frD_refl hD hA hl
theorem r_if (hn : 2000 ≤ n) (hb : b < 2) (h0' : o < 7 → jT n b f L m rc 0 (o + 1) 1 0 1 (q0 f L)) (h4 : o < 7 → jS n b f L m rc 4 (o + 1) 5 3 5 (q4 f L)) : jU n b f L m (pR1 f L m rc) 8 o 0 25 := by
  intro e c P D K H B A S S0 h h51 hK hH hB hc hl h0 hi
  show iOk n b L S e c _ (pIf f L rc o e)
  have hD := h.2.2.2.2.2.2.2.2.2.1
  have hA := h.2.2.2.2.2.2.2.1
  have hin := o_in (n := n) h hi.1 hK hB hc
  have h' := (stM_bare h).1
  have hop : fX12_operand n 0 S = fX12_operand_B249 n 0 (nI (mSort (3, 0))) (xuI S 29 (D - 1) (nI 0)) := hin.trans (o_w25 h' hi)
  unfold pIf
  refine r_open (q := 3) (K2 := 6) hn (by omega) h h51 h0 hop hi (fun ho V v1 v2 v3 v4 v5 => ?_)
  refine iOk_seq (h0' ho _ _ _ _ _ _ _ _ v1 v2 (by decide) (Or.inr (Or.inr rfl)) (fun hh => absurd hh (Nat.lt_irrefl _)) (by omega) frD_refl) (fun W e1 c1 hv => ?_)
  refine iOk_seq (sgc (K2 := 3) hb hn hv (by decide) (fun e H hq => nx_q0 hq) (Or.inr ⟨rfl, rfl⟩)) (fun X e2 c2 hx => ?_)
  exact r_two2 hn hb (h4 ho) (by omega) hx.1 (by decide) hx.2.1 v3 v4 v5 hx.2.2 hD hA hl
theorem vM_r (h : vM b f L m P o D K A r Q S0 S e cc) (hr : r' ≤ r) (hQ : ∀ e H, Q e H → Q' e H) : vM b f L m P o D K A r' Q' S0 S e cc := by
  obtain ⟨c0, p0, H, x1, x2, x3, x4, x5, x6⟩ := h
  exact ⟨c0, p0, H, x1, x2, x3, fun x hx => by have := x4 x hx; omega, x5, hQ _ _ x6⟩
theorem go_on {pp : Nat → PE} (hW : ∀ e, e ≤ L → pW L e 0 (pp e)) (he : e ≤ L) (hT : kT f L e ≠ 0) {e' : Nat} {c' : List (Nat × Nat)} (h : pB (pp (kE f L e)) (pPut q) = .inr (e', c')) : e < e' := by
  obtain ⟨e1, c1, c2, x1, x2, x3⟩ := pB_inr h
  have h1 := hW (kE f L e) (kE_le he) e1 c1 x1
  have h2 := kE_gt hT
  cases x2
  omega
/-- an operator of a sum -/
theorem st_op (hb : b < 2) (hn : 2000 ≤ n) (hr : (pMul f L e = some q ∧ r = 6) ∨ (pAdd f L e = some q ∧ r = 5)) (h : vM b f L m P o D K A r (q6 H) S0 S e cc) (hH : H < 2) (hK : K ≤ 6) (hP : hPr A r P) (hA : A ≤ P.length) (hl : P.length < 100) :
    ∃ Z, stps n 1 S Z ∧ stM Z b f L m (kE f L e) cc (q :: P) o D K H 0 A ∧ Z.1 0 51 = nI 0 ∧ frN b S Z ∧ frD D S0 Z ∧ kT f L e ≠ 0 ∧ r = rkq q ∧ nots [q] = 0 := by
  obtain ⟨c0, p0, H1, x1, x2, x3, x4, x5, x6⟩ := h
  have hH1 : H1 = H := x6
  subst hH1
  have hno : o + nots p0 - nots p0 = o := by omega
  have fin : ∀ Z, fX12_goesOn n 0 S = some (nI 1, xuI Z 0 51 (nI 0)) ∧ stM (xuI Z 0 51 (nI 0)) b f L m (kE f L e) (c0 ++ em p0) (q :: P) (o + nots p0 - nots p0) D K H1 0 A ∧ frN b S (xuI Z 0 51 (nI 0)) ∧ frD D S (xuI Z 0 51 (nI 0)) → q ≠ 2 → kT f L e ≠ 0 → r = rkq q → ∃ Z, stps n 1 S Z ∧ stM Z b f L m (kE f L e) cc (q :: P) o D K H1 0 A ∧ Z.1 0 51 = nI 0 ∧ frN b S Z ∧ frD D S0 Z ∧ kT f L e ≠ 0 ∧ r = rkq q ∧ nots [q] = 0 := by
    intro Z ⟨z1, z2, z3, z4⟩ hq hT hrk
    have n0 : nots [q] = 0 := by unfold nots; rw [List.filter_cons_of_neg (by simp only [decide_eq_true_eq]; exact hq)]; rfl
    rw [hno, ← x1] at z2
    exact ⟨_, rd_go x3 z1 z2.2.2.1, z2, quI_e, z3, frD_trans x5 z4, hT, hrk, n0⟩
  rcases hr with ⟨hs, rfl⟩ | ⟨hs, rfl⟩
  · unfold pMul at hs
    by_cases w1 : ig f L e 42
    · rw [if_pos w1] at hs
      cases hs
      obtain ⟨Z, z⟩ := g_op42 hb hn x2 w1 hH hK hA x4 hP hl
      exact fin Z z (by decide) (ig_T w1) rfl
    rw [if_neg w1] at hs
    by_cases w2 : ig f L e 47
    · rw [if_pos w2] at hs
      cases hs
      obtain ⟨Z, z⟩ := g_op47 hb hn x2 w2 hH hK hA x4 hP hl
      exact fin Z z (by decide) (ig_T w2) rfl
    rw [if_neg w2] at hs
    by_cases w3 : ig f L e 37
    · rw [if_pos w3] at hs
      cases hs
      obtain ⟨Z, z⟩ := g_op37 hb hn x2 w3 hH hK hA x4 hP hl
      exact fin Z z (by decide) (ig_T w3) rfl
    rw [if_neg w3] at hs
    cases hs
  · unfold pAdd at hs
    by_cases w1 : ig f L e 43
    · rw [if_pos w1] at hs
      cases hs
      obtain ⟨Z, z⟩ := g_op43 hb hn x2 w1 hH hK hA x4 hP hl
      exact fin Z z (by decide) (ig_T w1) rfl
    rw [if_neg w1] at hs
    by_cases w2 : ig f L e 45
    · rw [if_pos w2] at hs
      cases hs
      obtain ⟨Z, z⟩ := g_op45 hb hn x2 w2 hH hK hA x4 hP hl
      exact fin Z z (by decide) (ig_T w2) rfl
    rw [if_neg w2] at hs
    cases hs
end Q9w

