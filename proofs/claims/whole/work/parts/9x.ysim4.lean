/-! ===== the reference reads a rule as the plain reader does: sums, tests, all of it ===== -/
section Q9x
variable {S Z V W S0 V0 : xSt} {n L e m o b d t k a A D K H B r r' x q K0 H0 A0 K2 : Nat} {f : Nat → Nat} {c cc : List (Nat × Nat)} {P P' p : List Nat} {R : PE} {g : Nat → PE} {E E' : xSt → Nat → List (Nat × Nat) → Prop} {Q Q' : Nat → Nat → Prop} {rc : PC}
theorem hPr_up (h : hPr A r P) (hr : r ≤ r') : hPr A r' P := fun h1 x X hx => by have := h h1 x X hx; omega
theorem hPr_q (h : rkq q < r) : hPr A r (q :: P) := fun _ x X hx => by cases hx; exact h
theorem r_product (hn : 2000 ≤ n) (hb : b < 2) (hW : ∀ t o x e, e ≤ L → pW L e 0 (rc t o x e)) (h6 : jS n b f L m rc 6 o 7 5 7 q6) : jS n b f L m (pR1 f L m rc) 5 o 6 4 6 (q5 f L) := by
  intro e c P D K H B A S S0 h h51 hK hH hB hc hP hl h0
  show iOk n b L S e c _ (pB (rc 6 o 0 e) (pLp f L (rc 6 o 0) (pMul f L) 1600))
  have hL := h.1.1.2.2.1
  have ho := h.2.2.2.2.2.2.2.2.2.2.1
  have hA := h.2.2.2.2.2.2.2.1
  refine iOk_seq (h6 _ _ _ _ _ _ _ _ _ _ h h51 hK hH hB hc (fun _ x X _ => by have := rkq_le x; omega) (by omega) h0) (fun W e1 c1 hv => ?_)
  refine iOk_loop (Q := q6 H) (sel := pMul f L) (fun e q => pMul_T) (fun Z e2 cc q hv hs => ?_) (fun e e' c' q he hs hh => go_on (fun e => hW 6 o 0 e) he (pMul_T hs) hh) 1600 e1 W c1 (by omega) (vM_r hv (by decide) (fun _ _ h => h))
  obtain ⟨Y, y1, y2, y3, y4, y5, y6, y7, y8⟩ := st_op hb hn (Or.inl ⟨hs, rfl⟩) hv hH hK hP hA (by omega)
  have hg := kE_gt y6
  refine iOk_pre y1 y4 (by omega : 1 + e2 ≤ kE f L e2) (iOk_hold (r := 7) ?_ (by decide) (by omega))
  rw [y8]
  exact h6 _ _ _ _ _ _ _ _ _ _ y2 y3 hK hH (by decide) (fun _ hh => absurd hh (by decide)) (hPr_q (by have := rkq_le q; omega)) (by rw [List.length_cons]; omega) y5
theorem r_sum (hn : 2000 ≤ n) (hb : b < 2) (hW : ∀ t o x e, e ≤ L → pW L e 0 (rc t o x e)) (h5 : jS n b f L m rc 5 o 6 4 6 (q5 f L)) : jS n b f L m (pR1 f L m rc) 4 o 5 3 5 (q4 f L) := by
  intro e c P D K H B A S S0 h h51 hK hH hB hc hP hl h0
  show iOk n b L S e c _ (pB (rc 5 o 0 e) (pLp f L (rc 5 o 0) (pAdd f L) 1600))
  have hL := h.1.1.2.2.1
  have ho := h.2.2.2.2.2.2.2.2.2.2.1
  have hA := h.2.2.2.2.2.2.2.1
  refine iOk_seq (h5 _ _ _ _ _ _ _ _ _ _ h h51 hK hH hB hc (hPr_up hP (by decide)) (by omega) h0) (fun W e1 c1 hv => ?_)
  refine iOk_loop (Q := q5 f L H) (sel := pAdd f L) (fun e q => pAdd_T) (fun Z e2 cc q hv hs => ?_) (fun e e' c' q he hs hh => go_on (fun e => hW 5 o 0 e) he (pAdd_T hs) hh) 1600 e1 W c1 (by omega) (vM_r hv (by decide) (fun _ _ h => h))
  obtain ⟨Y, y1, y2, y3, y4, y5, y6, y7, y8⟩ := st_op hb hn (Or.inr ⟨hs, rfl⟩) (vM_r hv (Nat.le_refl _) (fun _ _ h => h.1)) hH hK hP hA (by omega)
  have hg := kE_gt y6
  refine iOk_pre y1 y4 (by omega : 1 + e2 ≤ kE f L e2) (iOk_hold (r := 6) ?_ (by decide) (by omega))
  rw [y8]
  exact h5 _ _ _ _ _ _ _ _ _ _ y2 y3 hK hH (by decide) (fun _ hh => absurd hh (by decide)) (hPr_q (by omega)) (by rw [List.length_cons]; omega) y5
/-- and, or -/
theorem st_wd (hb : b < 2) (hn : 2000 ≤ n) (hr : (pAnd f L e = some q ∧ r = 2) ∨ (pOr f L e = some q ∧ r = 1)) (h : vM b f L m P o D K A r (q2 f L) S0 S e cc) (hK : K ≤ 6) (ht : isTs K) (hP : hPr A r P) (hA : A ≤ P.length) (hl : P.length < 100) :
    ∃ Z, stps n 1 S Z ∧ stM Z b f L m (kE f L e) cc (q :: P) o D K 0 1 A ∧ Z.1 0 51 = nI 0 ∧ frN b S Z ∧ frD D S0 Z ∧ kT f L e ≠ 0 ∧ r = rkq q ∧ nots [q] = 0 := by
  obtain ⟨c0, p0, H1, x1, x2, x3, x4, x5, x6⟩ := h
  have hno : o + nots p0 - nots p0 = o := by omega
  rcases hr with ⟨hs, rfl⟩ | ⟨hs, rfl⟩
  · unfold pAnd at hs
    by_cases w1 : iw f L e 27
    · rw [if_pos w1] at hs
      cases hs
      obtain ⟨Z, z1, z2, z3, z4⟩ := g_and hb hn x2 w1 x6.1 x6.2.1 hK ht hA x4 hP hl
      rw [hno, ← x1] at z2
      exact ⟨_, rd_go x3 z1 z2.2.2.1, z2, quI_e, z3, frD_trans x5 z4, iw_T w1, rfl, rfl⟩
    rw [if_neg w1] at hs
    cases hs
  · unfold pOr at hs
    by_cases w1 : iw f L e 26
    · rw [if_pos w1] at hs
      cases hs
      obtain ⟨Z, z1, z2, z3, z4⟩ := g_or hb hn x2 w1 x6.1 x6.2.1 hK ht hA x4 hP hl
      rw [hno, ← x1] at z2
      exact ⟨_, rd_go x3 z1 z2.2.2.1, z2, quI_e, z3, frD_trans x5 z4, iw_T w1, rfl, rfl⟩
    rw [if_neg w1] at hs
    cases hs
theorem r_both (hn : 2000 ≤ n) (hb : b < 2) (hW : ∀ t o x e, e ≤ L → pW L e 0 (rc t o x e)) (h2 : jT n b f L m rc 2 o 5 2 3 (q2 f L)) : jT n b f L m (pR1 f L m rc) 1 o 2 1 2 (q1 f L) := by
  intro e c P D K A S S0 h h51 hK ht hP hl h0
  show iOk n b L S e c _ (pB (rc 2 o 0 e) (pLp f L (rc 2 o 0) (pAnd f L) 1600))
  have hL := h.1.1.2.2.1
  have ho := h.2.2.2.2.2.2.2.2.2.2.1
  have hA := h.2.2.2.2.2.2.2.1
  refine iOk_seq (h2 _ _ _ _ _ _ _ _ h h51 hK ht (hPr_up hP (by decide)) (by omega) h0) (fun W e1 c1 hv => ?_)
  refine iOk_loop (Q := q2 f L) (sel := pAnd f L) (fun e q => pAnd_T) (fun Z e2 cc q hv hs => ?_) (fun e e' c' q he hs hh => go_on (fun e => hW 2 o 0 e) he (pAnd_T hs) hh) 1600 e1 W c1 (by omega) (vM_r hv (by decide) (fun _ _ h => h))
  obtain ⟨Y, y1, y2, y3, y4, y5, y6, y7, y8⟩ := st_wd hb hn (Or.inl ⟨hs, rfl⟩) hv hK ht hP hA (by omega)
  have hg := kE_gt y6
  refine iOk_pre y1 y4 (by omega : 1 + e2 ≤ kE f L e2) (iOk_hold (r := 3) ?_ (by decide) (by omega))
  rw [y8]
  exact h2 _ _ _ _ _ _ _ _ y2 y3 hK ht (hPr_q (by omega)) (by rw [List.length_cons]; omega) y5
theorem r_test (hn : 2000 ≤ n) (hb : b < 2) (hW : ∀ t o x e, e ≤ L → pW L e 0 (rc t o x e)) (h1 : jT n b f L m rc 1 o 2 1 2 (q1 f L)) : jT n b f L m (pR1 f L m rc) 0 o 1 0 1 (q0 f L) := by
  intro e c P D K A S S0 h h51 hK ht hP hl h0
  show iOk n b L S e c _ (pB (rc 1 o 0 e) (pLp f L (rc 1 o 0) (pOr f L) 1600))
  have hL := h.1.1.2.2.1
  have ho := h.2.2.2.2.2.2.2.2.2.2.1
  have hA := h.2.2.2.2.2.2.2.1
  refine iOk_seq (h1 _ _ _ _ _ _ _ _ h h51 hK ht (hPr_up hP (by decide)) (by omega) h0) (fun W e1 c1 hv => ?_)
  refine iOk_loop (Q := q1 f L) (sel := pOr f L) (fun e q => pOr_T) (fun Z e2 cc q hv hs => ?_) (fun e e' c' q he hs hh => go_on (fun e => hW 1 o 0 e) he (pOr_T hs) hh) 1600 e1 W c1 (by omega) (vM_r hv (by decide) (fun _ _ h => h))
  obtain ⟨Y, y1, y2, y3, y4, y5, y6, y7, y8⟩ := st_wd hb hn (Or.inr ⟨hs, rfl⟩) (vM_r hv (Nat.le_refl _) (fun _ _ h => h.1)) hK ht hP hA (by omega)
  have hg := kE_gt y6
  refine iOk_pre y1 y4 (by omega : 1 + e2 ≤ kE f L e2) (iOk_hold (r := 2) ?_ (by decide) (by omega))
  rw [y8]
  exact h1 _ _ _ _ _ _ _ _ y2 y3 hK ht (hPr_q (by omega)) (by rw [List.length_cons]; omega) y5
theorem st_cmp (hb : b < 2) (hn : 2000 ≤ n) (hs : pCmp f L e = some q) (h : vM b f L m P o D K A 5 (q4 f L 0) S0 S e cc) (hK : K ≤ 6) (ht : isTs K) (hP : hPr A 5 P) (hA : A ≤ P.length) (hl : P.length < 100) :
    ∃ Z, stps n 1 S Z ∧ stM Z b f L m (kE f L e) cc (q :: P) o D K 1 0 A ∧ Z.1 0 51 = nI 0 ∧ frN b S Z ∧ frD D S0 Z ∧ kT f L e ≠ 0 ∧ 4 = rkq q ∧ nots [q] = 0 := by
  obtain ⟨c0, p0, H1, x1, x2, x3, x4, x5, x6⟩ := h
  have hno : o + nots p0 - nots p0 = o := by omega
  have hH : H1 = 0 := x6.1.1
  subst hH
  unfold pCmp at hs
  by_cases w1 : ig f L e 60
  · rw [if_pos w1] at hs
    cases hs
    obtain ⟨Z, z1, z2, z3, z4⟩ := g_cmp60 hb hn x2 w1 hK ht hA x4 hP hl
    rw [hno, ← x1] at z2
    exact ⟨_, rd_go x3 z1 z2.2.2.1, z2, quI_e, z3, frD_trans x5 z4, ig_T w1, rfl, rfl⟩
  rw [if_neg w1] at hs
  by_cases w2 : ig f L e 62
  · rw [if_pos w2] at hs
    cases hs
    obtain ⟨Z, z1, z2, z3, z4⟩ := g_cmp62 hb hn x2 w2 hK ht hA x4 hP hl
    rw [hno, ← x1] at z2
    exact ⟨_, rd_go x3 z1 z2.2.2.1, z2, quI_e, z3, frD_trans x5 z4, ig_T w2, rfl, rfl⟩
  rw [if_neg w2] at hs
  by_cases w3 : ig f L e 61
  · rw [if_pos w3] at hs
    cases hs
    obtain ⟨Z, z1, z2, z3, z4⟩ := g_cmp61 hb hn x2 w3 hK ht hA x4 hP hl
    rw [hno, ← x1] at z2
    exact ⟨_, rd_go x3 z1 z2.2.2.1, z2, quI_e, z3, frD_trans x5 z4, ig_T w3, rfl, rfl⟩
  rw [if_neg w3] at hs
  cases hs
theorem r_snd (hn : 2000 ≤ n) (hb : b < 2) (ho : o ≤ 7) (h4 : jS n b f L m rc 4 o 5 3 5 (q4 f L)) : j3 n b f L m (pR1 f L m rc) o := by
  intro e cc P D K A S S0 hA hv hK ht hP hl
  show iOk n b L S e cc _ (pSnd f L rc o e)
  unfold pSnd
  cases hs : pCmp f L e with
  | none =>
    obtain ⟨c0, p0, H1, x1, x2, x3, x4, x5, x6⟩ := hv
    have hH : H1 = 0 := x6.1.1
    subst hH
    show iOk n b L S e cc _ (pHere f L e)
    by_cases hw : kW f L e = none
    · obtain ⟨Z, z1, z2⟩ := g_half (n := n) x2 hw hK ht (nx_ops x6.1.2 x6.2) hs
      have : kP f L e = kS f L e := by unfold kP; rw [hw]
      unfold pHere
      rw [this]
      exact iOk_goF x2.2.1 x3 z1 z2
    · obtain ⟨Z, z1, z2⟩ := g_wrong (n := n) x2 hw
      exact iOk_goF x2.2.1 x3 z1 z2
  | some q =>
    obtain ⟨Y, y1, y2, y3, y4, y5, y6, y7, y8⟩ := st_cmp hb hn hs hv hK ht hP hA (by omega)
    have hg := kE_gt y6
    show iOk n b L S e cc _ (pB (rc 4 o 0 (kE f L e)) (pPut q))
    refine iOk_mono (E := vM b f L m P o D K A 3 (q4 f L 1) S0) ?_ (fun Z e1 c1 h => vM_r h (Nat.le_refl _) (fun e H h => ?_))
    · refine iOk_pre y1 y4 (by omega : 1 + e ≤ kE f L e) (iOk_hold (r := 5) ?_ (by decide) (by omega))
      rw [y8]
      exact h4 _ _ _ _ _ _ _ _ _ _ y2 y3 hK (by decide) (by decide) (fun _ hh => absurd hh (by decide)) (hPr_q (by omega)) (by rw [List.length_cons]; omega) y5
    · have h1 : H = 1 := h.1.1
      subst h1
      exact ⟨by decide, by decide, fun _ => ⟨h.1.2, h.2⟩⟩
theorem r_fact (hn : 2000 ≤ n) (hb : b < 2) (h2 : o < 7 → jT n b f L m rc 2 (o + 1) 5 2 3 (q2 f L)) (h0' : o < 7 → jT n b f L m rc 0 (o + 1) 1 0 1 (q0 f L)) (h4 : jS n b f L m rc 4 o 5 3 5 (q4 f L)) (h3 : j3 n b f L m rc o) : jT n b f L m (pR1 f L m rc) 2 o 5 2 3 (q2 f L) := by
  intro e c P D K A S S0 h h51 hK ht hP hl h0
  show iOk n b L S e c _ (pFact f L rc o e)
  have he := h.2.1
  have hD := h.2.2.2.2.2.2.2.2.2.1
  have ho7' := h.2.2.2.2.2.2.2.2.2.2.1
  have hA := h.2.2.2.2.2.2.2.1
  unfold pFact
  by_cases w1 : iw f L e 28
  · rw [if_pos w1]
    unfold pO
    by_cases ho : o < 7
    · rw [if_pos ho]
      obtain ⟨Z, z1, z2, z3, z4⟩ := o_not hn h hK ht w1 ho (by omega)
      have hg := kE_gt (iw_T w1)
      obtain ⟨s1, s2, s3⟩ := s_flag (x := nI 0) z2
      exact iOk_nil (rd_op (by decide) h51 z1 z2.2.2.1) (frN_trans z3 s2) (by omega) (iOk_hold (r := 3) (q := 2) (h2 ho _ _ _ _ _ _ _ _ s1 quI_e hK ht (hPr_q (by decide)) (by rw [List.length_cons]; omega) (frD_trans h0 (frD_trans z4 s3))) (by decide) (by decide))
    · rw [if_neg ho]
      have ho7 : o = 7 := by omega
      subst ho7
      obtain ⟨Z, z1, z2⟩ := o_notF (n := n) h hK ht w1
      exact iOk_opF he h51 (by decide) z1 z2 (by decide) (by decide)
  rw [if_neg w1]
  by_cases w2 : ig f L e 91
  · rw [if_pos w2]
    unfold pO
    have hop := o_br (n := n) h hK ht w2
    obtain ⟨h', f1, f2⟩ := stM_bare h
    by_cases ho : o < 7
    · rw [if_pos ho]
      obtain ⟨Z, z1, z2, z3, z4, z5⟩ := o_opens (K' := 5) hn h' (ig_T w2) ho
      rw [z1] at hop
      have hop2 : fX12_operand n 0 S = some (nI 0, Z) := hop
      have hg := kE_gt (ig_T w2)
      obtain ⟨s1, s2, s3⟩ := s_flag (x := nI 0) z2
      have hl0 : blw (xuI Z 0 51 (nI 0)) D K 0 A := by
        obtain ⟨t1, t2, t3, t4, t5⟩ := h'.2.2.2.2.2.1
        refine ⟨?_, ?_, ?_, ?_⟩
        · rw [quI_k (by omega), z4 27 (D - 1) (by decide) (by decide) (by omega)]; exact t2
        · rw [quI_k (by omega), z4 28 (D - 1) (by decide) (by decide) (by omega)]; exact t3
        · rw [quI_k (by omega), z4 29 (D - 1) (by decide) (by decide) (by omega)]; exact t4
        · rw [quI_k (by omega), z4 31 (D - 1) (by decide) (by decide) (by omega)]; exact t5
      have f0 : frD D S0 (xuI Z 0 51 (nI 0)) := frD_trans h0 (frD_trans f2 (fun k j a1 a2 a3 => by rw [quI_k (by omega)]; exact z4 k j a1 a2 (by omega)))
      refine iOk_nil (rd_op (by decide) h51 hop2 z2.2.2.1) (frN_trans f1 (frN_trans z3 s2)) (by omega) ?_
      refine iOk_seq (h0' ho _ _ _ _ _ _ _ _ s1 quI_e (by decide) (Or.inr (Or.inl rfl)) (fun hh => absurd hh (Nat.lt_irrefl _)) (by omega) frD_refl) (fun W e1 c1 hv => ?_)
      exact sg5 hb hn hv (by decide) (fun e H hq => nx_q0 hq) hD hl0 f0 hA
    · rw [if_neg ho]
      have ho7 : o = 7 := by omega
      subst ho7
      obtain ⟨Z, z1, z2⟩ := o_opensF (n := n) (K' := 5) h'
      rw [z1] at hop
      have hop2 : fX12_operand n 0 S = some (nI 0, Z) := hop
      exact iOk_opF he h51 (by decide) hop2 (flM_pre f1 z2) (by decide) (by decide)
  rw [if_neg w2]
  by_cases w3 : iw f L e 29
  · rw [if_pos w3]
    obtain ⟨Z, z1, z2, z3, z4⟩ := o_all hn hb h hK ht w3
    exact op_one h51 z1 (iw_T w3) z2 z3 z4 h0 ⟨by decide, by decide, fun hh => absurd hh (by decide)⟩
  rw [if_neg w3]
  refine iOk_seq (h4 _ _ _ _ _ _ _ _ _ _ h h51 hK (by decide) (by decide) (fun _ _ => ⟨w1, w2, w3⟩) hP (by omega) h0) (fun W e1 c1 hv => ?_)
  exact h3 _ _ _ _ _ _ _ _ hA hv hK ht hP hl
/-- all of it -/
def jAll (n b : Nat) (f : Nat → Nat) (L m d o : Nat) : Prop :=
  (nd 0 o ≤ d → jT n b f L m (pR f L m d) 0 o 1 0 1 (q0 f L)) ∧ (nd 1 o ≤ d → jT n b f L m (pR f L m d) 1 o 2 1 2 (q1 f L)) ∧ (nd 2 o ≤ d → jT n b f L m (pR f L m d) 2 o 5 2 3 (q2 f L)) ∧ (nd 3 o ≤ d → j3 n b f L m (pR f L m d) o) ∧ (nd 4 o ≤ d → jS n b f L m (pR f L m d) 4 o 5 3 5 (q4 f L)) ∧ (nd 5 o ≤ d → jS n b f L m (pR f L m d) 5 o 6 4 6 (q5 f L)) ∧ (nd 6 o ≤ d → jS n b f L m (pR f L m d) 6 o 7 5 7 q6) ∧ (nd 7 o ≤ d → jU n b f L m (pR f L m d) 7 o 9 30 ∧ jU n b f L m (pR f L m d) 7 o 10 31 ∧ jU n b f L m (pR f L m d) 8 o 0 25)
theorem m_rule (hn : 2000 ≤ n) (hb : b < 2) (hm : m < 2) : ∀ (d o : Nat), o ≤ 7 → jAll n b f L m d o
  | 0, o, ho => by
    refine ⟨?_, ?_, ?_, ?_, ?_, ?_, ?_, ?_⟩
    all_goals (intro hd; unfold nd at hd; split at hd <;> omega)
  | d + 1, o, ho => by
    have ih := m_rule hn hb hm d o ho
    have ih1 := fun (h : o < 7) => m_rule hn hb hm d (o + 1) (by omega)
    have hW := fun t o x e he => pR_W (f := f) (L := L) (m := m) d t o x e he
    refine ⟨?_, ?_, ?_, ?_, ?_, ?_, ?_, ?_⟩
    all_goals (intro hd; unfold nd at hd; simp only [Nat.reduceLT, reduceIte, Nat.reduceSub] at hd)
    · exact r_test hn hb hW (ih.2.1 (by unfold nd; simp only [Nat.reduceLT, reduceIte]; omega))
    · exact r_both hn hb hW (ih.2.2.1 (by unfold nd; simp only [Nat.reduceLT, reduceIte]; omega))
    · exact r_fact hn hb (fun h => (ih1 h).2.2.1 (by unfold nd; simp only [Nat.reduceLT, reduceIte]; omega)) (fun h => (ih1 h).1 (by unfold nd; simp only [Nat.reduceLT, reduceIte]; omega)) (ih.2.2.2.2.1 (by unfold nd; simp only [Nat.reduceLT, reduceIte]; omega)) (ih.2.2.2.1 (by unfold nd; simp only [Nat.reduceLT, reduceIte]; omega))
    · exact r_snd hn hb ho (ih.2.2.2.2.1 (by unfold nd; simp only [Nat.reduceLT, reduceIte]; omega))
    · exact r_sum hn hb hW (ih.2.2.2.2.2.1 (by unfold nd; simp only [Nat.reduceLT, reduceIte]; omega))
    · exact r_product hn hb hW (ih.2.2.2.2.2.2.1 (by unfold nd; simp only [Nat.reduceLT, reduceIte]; omega))
    · have h7 := ih.2.2.2.2.2.2.2 (by unfold nd; simp only [Nat.reduceLT, reduceIte]; omega)
      exact r_part hn hb hm (fun h => (ih1 h).2.2.2.2.1 (by unfold nd; simp only [Nat.reduceLT, reduceIte]; omega)) h7.1 h7.2.1 h7.2.2
    · have h4 := fun h => (ih1 h).2.2.2.2.1 (by unfold nd; simp only [Nat.reduceLT, reduceIte]; omega)
      have h0 := fun h => (ih1 h).1 (by unfold nd; simp only [Nat.reduceLT, reduceIte]; omega)
      exact ⟨r_two hn hb h4 (Or.inl ⟨rfl, rfl⟩), r_two hn hb h4 (Or.inr ⟨rfl, rfl⟩), r_if hn hb h0 h4⟩
end Q9x

