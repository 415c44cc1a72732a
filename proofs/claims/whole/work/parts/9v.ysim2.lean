/-! ===== the reference reads a rule as the plain reader does: signs that shut, parts ===== -/
/-- the frame below -/
def blw (Z : xSt) (D K0 H0 A0 : Nat) : Prop := Z.1 27 (D - 1) = nI K0 ∧ Z.1 28 (D - 1) = nI H0 ∧ Z.1 29 (D - 1) = nI 0 ∧ Z.1 31 (D - 1) = nI A0
/-- a test is read (0 test, 1 both, 2 fact) -/
def jT (n b : Nat) (f : Nat → Nat) (L m : Nat) (rc : PC) (t o rI bud rX : Nat) (Q : Nat → Nat → Prop) : Prop := ∀ e c P D K A S S0, stM S b f L m e c P o D K 0 1 A → S.1 0 51 = nI 0 → K ≤ 6 → isTs K → hPr A rI P → P.length ≤ 6 * o + bud → frD D S0 S → iOk n b L S e c (vM b f L m P o D K A rX Q S0) (rc t o 0 e)
/-- a sum is read (4 sum, 5 product, 6 part) -/
def jS (n b : Nat) (f : Nat → Nat) (L m : Nat) (rc : PC) (t o rI bud rX : Nat) (Q : Nat → Nat → Nat → Prop) : Prop := ∀ e c P D K H B A S S0, stM S b f L m e c P o D K H B A → S.1 0 51 = nI 0 → K ≤ 6 → H < 2 → B ≤ 1 → (isTs K → B = 1 → ¬ iw f L e 28 ∧ ¬ ig f L e 91 ∧ ¬ iw f L e 29) → hPr A rI P → P.length ≤ 6 * o + bud → frD D S0 S → iOk n b L S e c (vM b f L m P o D K A rX (Q H) S0) (rc t o 0 e)
/-- min, max, if -/
def jU (n b : Nat) (f : Nat → Nat) (L m : Nat) (rc : PC) (t o x w : Nat) : Prop := ∀ e c P D K H B A S S0, stM S b f L m e c P o D K H B A → S.1 0 51 = nI 0 → K ≤ 6 → H < 2 → B ≤ 1 → (isTs K → B = 1 → ¬ iw f L e 28 ∧ ¬ ig f L e 91 ∧ ¬ iw f L e 29) → P.length ≤ 6 * o + 5 → frD D S0 S → iw f L e w → iOk n b L S e c (vM b f L m P o D K A 7 (q6 H) S0) (rc t o x e)
section Q9v
variable {S Z V W S0 V0 : xSt} {n L e m o b d t k a A D K H B r r' x q K0 H0 A0 K2 : Nat} {f : Nat → Nat} {c cc : List (Nat × Nat)} {P P' p : List Nat} {R : PE} {g : Nat → PE} {E E' : xSt → Nat → List (Nat × Nat) → Prop} {Q Q' : Nat → Nat → Prop} {rc : PC}
theorem bl_of (hD : 1 ≤ D) (hl : blw V0 D K0 H0 A0) (h : frD (D + 1) V0 W) : W.1 27 (D + 1 - 2) = nI K0 ∧ W.1 28 (D + 1 - 2) = nI H0 ∧ W.1 29 (D + 1 - 2) = nI 0 ∧ W.1 31 (D + 1 - 2) = nI A0 := by
  have e : D + 1 - 2 = D - 1 := by omega
  rw [e]
  exact ⟨by rw [h 27 (D - 1) (by decide) (by decide) (by omega)]; exact hl.1, by rw [h 28 (D - 1) (by decide) (by decide) (by omega)]; exact hl.2.1, by rw [h 29 (D - 1) (by decide) (by decide) (by omega)]; exact hl.2.2.1, by rw [h 31 (D - 1) (by decide) (by decide) (by omega)]; exact hl.2.2.2⟩
theorem sg2 (hb : b < 2) (hn : 2000 ≤ n) (hv : vM b f L m P (o + 1) (D + 1) 2 P.length r Q V0 S e cc) (hr : 1 ≤ r) (hQ : ∀ e H, Q e H → nx f L 2 e H) (hD : 1 ≤ D) (hl : blw V0 D K0 H0 A0) (h0 : frD D S0 V0) (hA : A0 ≤ P.length) : iOk n b L S e cc (vM b f L m P o D K0 A0 7 (q6 H0) S0) (pSg f L 41 e) := by
  by_cases hi : ig f L e 41
  · obtain ⟨c0, p0, H, x1, x2, x3, x4, x5, x6⟩ := hv
    have h422 := n_422 (n := n) x2 (ig_W hi) (by decide) (hQ _ _ x6)
    obtain ⟨c1, c2, c3, c4⟩ := bl_of hD hl x5
    obtain ⟨Z, z1, z2, z3, z4, z5⟩ := g_close2 hb hn x2 (by omega) c1 c2 c3 c4 hA hi (fun x hx => by have := x4 x hx; omega) h422
    have hg := kE_gt (ig_T hi)
    unfold pSg
    rw [if_pos hi]
    refine iOk_one (rd_go x3 z1 z2.2.2.1) z3 (by omega) ⟨cc, [], H0, rfl, ?_, ?_, ?_, ?_, rfl⟩
    · have : o + 1 + nots p0 - nots p0 - 1 = o := by omega
      rw [this, ← x1] at z2
      exact z2
    · rw [z5]; exact x3
    · exact fun x hx => absurd hx List.not_mem_nil
    · exact fun k j a1 a2 a3 => by rw [z4 k j a1 a2, x5 k j a1 a2 (by omega)]; exact h0 k j a1 a2 a3
  · unfold pSg
    rw [if_neg hi]
    exact sg_bad hv hQ (by decide) (by decide) hi
theorem sg5 (hb : b < 2) (hn : 2000 ≤ n) (hv : vM b f L m P (o + 1) (D + 1) 5 P.length r Q V0 S e cc) (hr : 1 ≤ r) (hQ : ∀ e H, Q e H → nx f L 5 e H) (hD : 1 ≤ D) (hl : blw V0 D K0 H0 A0) (h0 : frD D S0 V0) (hA : A0 ≤ P.length) : iOk n b L S e cc (vM b f L m P o D K0 A0 3 (q2 f L) S0) (pSg f L 93 e) := by
  by_cases hi : ig f L e 93
  · obtain ⟨c0, p0, H, x1, x2, x3, x4, x5, x6⟩ := hv
    have h422 := n_422 (n := n) x2 (ig_W hi) (by decide) (hQ _ _ x6)
    obtain ⟨c1, c2, c3, c4⟩ := bl_of hD hl x5
    obtain ⟨Z, z1, z2, z3, z4, z5⟩ := g_close5 hb hn x2 (by omega) c1 c2 c3 c4 hA hi (fun x hx => by have := x4 x hx; omega) h422
    have hg := kE_gt (ig_T hi)
    unfold pSg
    rw [if_pos hi]
    refine iOk_one (rd_go x3 z1 z2.2.2.1) z3 (by omega) ⟨cc, [], 2, rfl, ?_, ?_, ?_, ?_, by omega, by omega, fun h => absurd h (by omega)⟩
    · have : o + 1 + nots p0 - nots p0 - 1 = o := by omega
      rw [this, ← x1] at z2
      exact z2
    · rw [z5]; exact x3
    · exact fun x hx => absurd hx List.not_mem_nil
    · exact fun k j a1 a2 a3 => by rw [z4 k j a1 a2 (by omega), x5 k j a1 a2 (by omega)]; exact h0 k j a1 a2 a3
  · unfold pSg
    rw [if_neg hi]
    exact sg_bad hv hQ (by decide) (by decide) hi
theorem sg4 (hb : b < 2) (hn : 2000 ≤ n) (hv : vM b f L m P (o + 1) (D + 1) 4 P.length r Q V0 S e cc) (hr : 1 ≤ r) (hQ : ∀ e H, Q e H → nx f L 4 e H) (hD : 1 ≤ D) (hl : blw V0 D K0 H0 A0) (h0 : frD D S0 V0) (hA : A0 ≤ P.length) (h30 : V0.1 30 D = nI (mSort (q, 0))) (hq : q = 9 ∨ q = 10 ∨ q = 3) : iOk n b L S e cc (vM b f L m P o D K0 A0 7 (q6 H0) S0) (pB (pSg f L 41 e) (pPut q)) := by
  by_cases hi : ig f L e 41
  · obtain ⟨c0, p0, H, x1, x2, x3, x4, x5, x6⟩ := hv
    have h422 := n_422 (n := n) x2 (ig_W hi) (by decide) (hQ _ _ x6)
    obtain ⟨c1, c2, c3, c4⟩ := bl_of hD hl x5
    obtain ⟨Z, z1, z2, z3, z4, z5⟩ := g_close4 hb hn x2 (by omega) c1 c2 c3 c4 (by rw [Nat.add_sub_cancel, x5 30 D (by decide) (by decide) (by omega)]; exact h30) hq hA hi (fun x hx => by have := x4 x hx; omega) h422
    have hg := kE_gt (ig_T hi)
    unfold pSg
    rw [if_pos hi]
    refine iOk_one (c1 := [(q, 0)]) (rd_go x3 z1 z2.2.2.1) z3 (by omega) ⟨cc ++ [(q, 0)], [], H0, by rw [show em [] = [] from rfl, List.append_nil], ?_, ?_, ?_, ?_, rfl⟩
    · have : o + 1 + nots p0 - nots p0 - 1 = o := by omega
      rw [this, ← x1] at z2
      exact z2
    · rw [z5]; exact x3
    · exact fun x hx => absurd hx List.not_mem_nil
    · exact fun k j a1 a2 a3 => by rw [z4 k j a1 a2, x5 k j a1 a2 (by omega)]; exact h0 k j a1 a2 a3
  · unfold pSg
    rw [if_neg hi]
    exact sg_bad hv hQ (by decide) (by decide) hi
/-- behind a comma -/
def cmE (b : Nat) (f : Nat → Nat) (L m : Nat) (P : List Nat) (o D K : Nat) (V0 Z : xSt) (e : Nat) (cc : List (Nat × Nat)) : Prop := stM Z b f L m e cc P o D K 0 0 P.length ∧ Z.1 0 51 = nI 0 ∧ frD D V0 Z
theorem sgc (hb : b < 2) (hn : 2000 ≤ n) (hv : vM b f L m P o D K P.length r Q V0 S e cc) (hr : 1 ≤ r) (hQ : ∀ e H, Q e H → nx f L K e H) (hK : K = 3 ∧ K2 = 4 ∨ K = 6 ∧ K2 = 3) : iOk n b L S e cc (cmE b f L m P o D K2 V0) (pSg f L 44 e) := by
  by_cases hi : ig f L e 44
  · obtain ⟨c0, p0, H, x1, x2, x3, x4, x5, x6⟩ := hv
    have h422 := n_422 (n := n) x2 (ig_W hi) (by omega) (hQ _ _ x6)
    obtain ⟨Z, z1, z2, z3, z4⟩ := g_comma hb hn x2 (by omega) hi (fun x hx => by have := x4 x hx; omega) h422
    have hg := kE_gt (ig_T hi)
    unfold pSg
    rw [if_pos hi]
    have hk2 : (if K = 3 then 4 else 3) = K2 := by split <;> omega
    refine iOk_one (rd_go x3 z1 z2.2.2.1) z3 (by omega) ⟨?_, quI_e, frD_trans x5 z4⟩
    have : o + nots p0 - nots p0 = o := by omega
    rw [this, ← x1, hk2] at z2
    rw [List.append_nil]
    exact z2
  · unfold pSg
    rw [if_neg hi]
    refine sg_bad hv hQ (by omega) (by omega) ?_
    rw [if_pos (by omega)]
    exact hi
theorem iOk_nil {e1 : Nat} (h : stps n k S V) (h1 : frN b S V) (hk : k + e ≤ e1) (h2 : iOk n b L V e1 cc E (g e1)) : iOk n b L S e cc E (pB (.inr (e1, [])) g) := by
  rw [pB_r]
  have h3 := iOk_pre h h1 hk h2
  revert h3
  match g e1 with
  | .inl (kd, pl) => exact fun h => h
  | .inr (e2, c2) => exact fun h => h
/-- an operand of one token -/
theorem op_one {y : Nat × Nat} (h51 : S.1 0 51 = nI 0) (h : fX12_operand n 0 S = some (nI 1, Z)) (hT : kT f L e ≠ 0) (hz : stM Z b f L m (kE f L e) (c ++ [y]) P o D K H 0 A) (f1 : frN b S Z) (f2 : frD D S Z) (h0 : frD D S0 S) (hQ : Q (kE f L e) H) : iOk n b L S e c (vM b f L m P o D K A r Q S0) (.inr (kE f L e, [y])) := by
  have hg := kE_gt hT
  obtain ⟨s1, s2, s3⟩ := s_flag (x := nI 1) hz
  exact iOk_one (rd_op (by decide) h51 h hz.2.2.1) (frN_trans f1 s2) (by omega) ⟨c ++ [y], [], H, by rw [show em [] = [] from rfl, List.append_nil], s1, quI_e, fun x hx => absurd hx List.not_mem_nil, frD_trans h0 (frD_trans f2 s3), hQ⟩
theorem no_fc (hw : kW f L e ≠ none) : pFc f L m e = none := by
  unfold pFc
  rw [if_neg (fun h => hw h.1), if_neg (fun h => hw h.1), if_neg (fun h => hw h.1), if_neg (fun h => hw h.1), if_neg (fun h => hw h.1), if_neg (fun h => hw h.1), if_neg (fun h => hw h.1), if_neg (fun h => hw h.1)]
theorem r_part (hn : 2000 ≤ n) (hb : b < 2) (hm : m < 2) (h4 : o < 7 → jS n b f L m rc 4 (o + 1) 5 3 5 (q4 f L)) (h7 : jU n b f L m rc 7 o 9 30) (h7' : jU n b f L m rc 7 o 10 31) (h8 : jU n b f L m rc 8 o 0 25) : jS n b f L m (pR1 f L m rc) 6 o 7 5 7 q6 := by
  intro e c P D K H B A S S0 h h51 hK hH hB hc _ hl h0
  show iOk n b L S e c _ (pPart f L m rc o e)
  have he := h.2.1
  have hD := h.2.2.2.2.2.2.2.2.2.1
  have hA := h.2.2.2.2.2.2.2.1
  unfold pPart
  by_cases hw : kW f L e = none
  · have hin := o_in (n := n) h hw hK hB hc
    obtain ⟨h', f1, f2⟩ := stM_bare h
    by_cases w1 : iN f L e
    · rw [if_pos w1]
      obtain ⟨Z, z1, z2, z3, z4⟩ := o_num hn hb h' w1
      exact op_one h51 (hin.trans z1) (iN_T w1) z2 (frN_trans f1 z3) (frD_trans f2 z4) h0 rfl
    rw [if_neg w1]
    by_cases w2 : ig f L e 40
    · rw [if_pos w2]
      unfold pO
      by_cases ho : o < 7
      · rw [if_pos ho]
        obtain ⟨Z, z1, z2, z3, z4, z5⟩ := o_par hn h' w2 ho
        have hg := kE_gt (ig_T w2)
        obtain ⟨s1, s2, s3⟩ := s_flag (x := nI 0) z2
        have hl0 : blw (xuI Z 0 51 (nI 0)) D K H A := by
          obtain ⟨t1, t2, t3, t4, t5⟩ := h'.2.2.2.2.2.1
          refine ⟨?_, ?_, ?_, ?_⟩
          · rw [quI_k (by omega), z4 27 (D - 1) (by decide) (by decide) (by omega)]; exact t2
          · rw [quI_k (by omega), z4 28 (D - 1) (by decide) (by decide) (by omega)]; exact t3
          · rw [quI_k (by omega), z4 29 (D - 1) (by decide) (by decide) (by omega)]; exact t4
          · rw [quI_k (by omega), z4 31 (D - 1) (by decide) (by decide) (by omega)]; exact t5
        have f0 : frD D S0 (xuI Z 0 51 (nI 0)) := frD_trans h0 (frD_trans f2 (fun k j a1 a2 a3 => by rw [quI_k (by omega)]; exact z4 k j a1 a2 (by omega)))
        refine iOk_nil (rd_op (by decide) h51 (hin.trans z1) z2.2.2.1) (frN_trans f1 (frN_trans z3 s2)) (by omega) ?_
        refine iOk_seq (h4 ho _ _ _ _ _ _ _ _ _ _ s1 quI_e (by decide) (by decide) (by decide) (fun hh => absurd hh (by unfold isTs; decide)) (fun hh => absurd hh (Nat.lt_irrefl _)) (by omega) frD_refl) (fun W e1 c1 hv => ?_)
        exact sg2 hb hn hv (by decide) (fun e H hq => nx_q4 rfl hq (by unfold isTs; decide)) hD hl0 f0 hA
      · rw [if_neg ho]
        have ho7 : o = 7 := by have := h.2.2.2.2.2.2.2.2.2.2.1; omega
        subst ho7
        obtain ⟨Z, z1, z2⟩ := o_parF (n := n) h' w2
        exact iOk_opF he h51 (by decide) (hin.trans z1) (flM_pre f1 z2) (by decide) (by decide)
    rw [if_neg w2]
    by_cases w3 : iw f L e 30
    · rw [if_pos w3]
      exact h7 _ _ _ _ _ _ _ _ _ _ h h51 hK hH hB hc hl h0 w3
    rw [if_neg w3]
    by_cases w4 : iw f L e 31
    · rw [if_pos w4]
      exact h7' _ _ _ _ _ _ _ _ _ _ h h51 hK hH hB hc hl h0 w4
    rw [if_neg w4]
    by_cases w5 : iw f L e 25
    · rw [if_pos w5]
      exact h8 _ _ _ _ _ _ _ _ _ _ h h51 hK hH hB hc hl h0 w5
    rw [if_neg w5]
    obtain ⟨y1, y2⟩ := o_fc hn hb hm h' hw w1 w2 w3 w4 w5
    cases hs : pFc f L m e with
    | none =>
      obtain ⟨Z, z1, z2⟩ := y2 hs
      have : kP f L e = kS f L e := by unfold kP; rw [hw]
      show iOk n b L S e c _ (pHere f L e)
      unfold pHere
      rw [this]
      exact iOk_opF he h51 (by decide) (hin.trans z1) (flM_pre f1 z2) (by decide) (by decide)
    | some j =>
      obtain ⟨Z, z1, z2, z3, z4⟩ := y1 j hs
      exact op_one h51 (hin.trans z1) (pFc_T hs) z2 (frN_trans f1 z3) (frD_trans f2 z4) h0 rfl
  · rw [if_neg (fun h => hw h.1), if_neg (fun h => hw (ig_W h)), if_neg (fun h => hw h.1), if_neg (fun h => hw h.1), if_neg (fun h => hw h.1), no_fc hw]
    obtain ⟨Z, z1, z2⟩ := o_wrong (n := n) h hw
    exact iOk_opF he h51 (by decide) z1 z2 (by decide) (by decide)
end Q9v

