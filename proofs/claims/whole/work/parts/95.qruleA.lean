/-! ===== the class reads a rule: what a step is ===== -/
def frR (b : Nat) (S Z : xSt) : Prop := (∀ k j, ¬ (k = 160 ∧ 3 ≤ j ∧ j ≤ 10) → ¬ (k = yc b 14 ∧ j = 2) → k ≠ yc b 15 → Z.1 k j = S.1 k j) ∧ Z.2 = S.2 ∧ ((∃ v, v ≤ 1600 ∧ S.1 (yc b 14) 2 = nI v) → ∃ v, v ≤ 1600 ∧ Z.1 (yc b 14) 2 = nI v)
def stC (S : xSt) (b : Nat) (f : Nat → Nat) (L m e : Nat) (c : List (Nat × Nat)) : Prop := tkC S f L e ∧ e ≤ L ∧ S.1 (yc b 14) 2 = nI c.length ∧ oCode (S.1 (yc b 15)) 0 c ∧ c.length ≤ e ∧ S.2.2 163 1 = yc b 14 ∧ S.1 163 2 = nI m ∧ S.1 160 9 = nI 0 ∧ S.1 160 10 = qm1
def cRs (S : xSt) (b : Nat) (f : Nat → Nat) (L m : Nat) (c : List (Nat × Nat)) (r : PE) (v : Int32) (Z : xSt) : Prop := match r with
  | .inl (k, p) => v = nI 0 ∧ Z.1 160 9 = nI k ∧ Z.1 160 10 = nI p ∧ frR b S Z
  | .inr (e', c') => v = nI 1 ∧ stC Z b f L m e' (c ++ c') ∧ frR b S Z
def cRd (S : xSt) (b : Nat) (f : Nat → Nat) (L m : Nat) (c : List (Nat × Nat)) (r : PE) (F : Option (Int32 × xSt)) : Prop := ∃ v Z, F = some (v, Z) ∧ cRs S b f L m c r v Z
section Q95
variable {S Z V : xSt} {n L e m o b d t k a : Nat} {f : Nat → Nat} {r : PE} {g : Nat → PE} {c : List (Nat × Nat)} {F : Option (Int32 × xSt)} {G : Int32 × xSt → Option (Int32 × xSt)}
theorem frR_refl : frR b S S := ⟨fun _ _ _ _ _ => rfl, rfl, fun h => h⟩
theorem frR_trans (h1 : frR b S Z) (h2 : frR b Z V) : frR b S V := ⟨fun k j x y z => (h2.1 k j x y z).trans (h1.1 k j x y z), h2.2.1.trans h1.2.1, fun h => h2.2.2 (h1.2.2 h)⟩
theorem frR_K (h : frK S Z) : frR b S Z := ⟨fun k j x y z => h.1 k j (by omega), h.2, fun hv => by rw [h.1 (yc b 14) 2 (by unfold yc; omega)]; exact hv⟩
theorem frR_up {j : Nat} {x : Int32} (h1 : 3 ≤ j) (h2 : j ≤ 10) : frR b S (xuI S 160 j x) := ⟨fun k j' hk _ _ => quI_k (by omega), rfl, fun hv => by rw [quI_k (by unfold yc; omega)]; exact hv⟩
theorem oCode_put {h : Nat → Int32} {x : Nat × Nat} : ∀ {c : List (Nat × Nat)} {p : Nat}, oCode h p c → h (p + c.length) = nI (encC x) → oCode h p (c ++ [x])
  | [], p, _, h2 => ⟨h2, trivial⟩
  | y :: c, p, h1, h2 => ⟨h1.1, oCode_put h1.2 (by rw [← h2, List.length_cons]; congr 1; omega)⟩
theorem oCode_eq {h h' : Nat → Int32} : ∀ {c : List (Nat × Nat)} {p : Nat}, oCode h p c → (∀ j, j < p + c.length → h' j = h j) → oCode h' p c
  | [], p, _, _ => trivial
  | y :: c, p, h1, h2 => ⟨by rw [h2 p (by rw [List.length_cons]; omega)]; exact h1.1, oCode_eq h1.2 (fun j hj => h2 j (by rw [List.length_cons]; omega))⟩
/-- the token stays where it is -/
theorem tkC_same (h : tkC S f L e) (h1 : ∀ k j, k = 1 ∨ k = 160 ∧ j ≤ 8 ∨ k = 161 → Z.1 k j = S.1 k j) : tkC Z f L e := by
  obtain ⟨⟨a1, a2, a3, a4, a5⟩, b2, b3, b4, b5⟩ := h
  refine ⟨⟨fun i => by rw [h1 1 i (Or.inl rfl)]; exact a1 i, by rw [h1 160 2 (by omega)]; exact a2, a3, a4, fun k hk => by rw [h1 161 k (by omega)]; exact a5 k hk⟩, by rw [h1 160 5 (by omega)]; exact b2, by rw [h1 160 4 (by omega)]; exact b3, by rw [h1 160 6 (by omega)]; exact b4, fun hw => ?_⟩
  rw [h1 160 3 (by omega), h1 160 7 (by omega), h1 160 8 (by omega)]
  exact b5 hw
theorem stC_tk (h : stC S b f L m e c) {e' : Nat} (ht : tkC Z f L e') (hf : frK S Z) (h0 : e ≤ e') (h1 : e' ≤ L) (hb : b < 2) : stC Z b f L m e' c := by
  obtain ⟨_, h2, h3, h4, h5, h6, h7⟩ := h
  refine ⟨ht, h1, ?_, ?_, by omega, by rw [hf.2]; exact h6, by rw [hf.1 163 2 (by omega)]; exact h7.1, by rw [hf.1 160 9 (by omega)]; exact h7.2.1, by rw [hf.1 160 10 (by omega)]; exact h7.2.2⟩
  · rw [hf.1 (yc b 14) 2 (by unfold yc; omega)]; exact h3
  · exact oCode_eq h4 (fun j _ => hf.1 (yc b 15) j (by unfold yc; omega))
theorem cRd_seq (h1 : cRd S b f L m c r F) (h0 : ∀ Z, G (nI 0, Z) = some (nI 0, Z)) (h2 : ∀ Z e' c', r = .inr (e', c') → stC Z b f L m e' (c ++ c') → frR b S Z → cRd Z b f L m (c ++ c') (g e') (G (nI 1, Z))) : cRd S b f L m c (pB r g) (F.bind G) := by
  obtain ⟨v, Z, x1, x2⟩ := h1
  rw [x1]
  show cRd S b f L m c (pB r g) (G (v, Z))
  match r, x2, h2 with
  | .inl (k, p), x2, _ =>
    obtain ⟨y1, y2, y3, y4⟩ := x2
    subst y1
    exact ⟨nI 0, Z, h0 Z, rfl, y2, y3, y4⟩
  | .inr (e', c'), x2, h2 =>
    obtain ⟨y1, y2, y3⟩ := x2
    subst y1
    obtain ⟨v', V, z1, z2⟩ := h2 Z e' c' rfl y2 y3
    refine ⟨v', V, z1, ?_⟩
    rw [pB_r]
    match g e', z2 with
    | .inl (k, p), z2 => exact ⟨z2.1, z2.2.1, z2.2.2.1, frR_trans y3 z2.2.2.2⟩
    | .inr (e2, c2), z2 => exact ⟨z2.1, by rw [← List.append_assoc]; exact z2.2.1, frR_trans y3 z2.2.2⟩
theorem c_cput0 {q v : Nat} {x : Nat × Nat} (hb : b < 2) (h : stC S b f L m e c) (hc : c.length < 1600) (hq : q < 32) (hv : v < 10000) (hx : encC x = v * 32 + q) : ∃ Z, fX1_put (yc b 14) (nI q) (nI v) S = some (nI 1, Z) ∧ tkC Z f L e ∧ Z.1 (yc b 14) 2 = nI (c ++ [x]).length ∧ oCode (Z.1 (yc b 15)) 0 (c ++ [x]) ∧ Z.2.2 163 1 = yc b 14 ∧ (Z.1 163 2 = nI m ∧ Z.1 160 9 = nI 0 ∧ Z.1 160 10 = qm1) ∧ frR b S Z := by
  obtain ⟨h1, h2, h3, h4, h5, h6, h7⟩ := h
  have ev : (nI v <<< (nI 5 &&& 31)) ||| nI q = nI (encC x) := by
    rw [nI_shl (by decide) (by omega), nI_or (by omega) (by omega), hx]
    congr 1
    have : v * 2 ^ 5 = 2 ^ 5 * v := Nat.mul_comm _ _
    rw [this, ← Nat.two_pow_add_eq_or_of_lt (by omega)]
  have fr : frR b S (xuI (xuI S (yc b 15) c.length (nI (encC x))) (yc b 14) 2 (nI (c.length + 1))) := ⟨fun k j a1 a2 a3 => by
    rw [quI_k (by intro hh; exact a2 hh), quI_k (by intro hh; exact a3 hh.1)], rfl, fun _ => ⟨c.length + 1, by omega, quI_e⟩⟩
  refine ⟨xuI (xuI S (yc b 15) c.length (nI (encC x))) (yc b 14) 2 (nI (c.length + 1)), ?_, ?_, ?_, ?_, h6, ?_, fr⟩
  · simp (disch := (first | assumption | omega | exact hB _ _ | exact hYB _ _ | (simp only [yc, yd, sh, sv, ne_eq]; omega) | (simp (disch := omega) only [↓nm_1, ↓nm_2, nI_add, pk_mul, pk_sub, Nat.add_sub_cancel, qm1_add, qm2_add, nI_clamp, ni_0, ni_1, ni_5, h3, ev]; refine qin_nI ?_ ?_ <;> first | omega | exact hB _ _ | exact hYB _ _) | (refine qin_nI ?_ ?_ <;> omega) | fail)) only [↓yc0_gd hb, ↓yc0_gI hb, ↓yc0_gM hb, ↓yc0_pI hb, ↓yc0_pM hb, ↓yc0_pZ hb, ↓yc0_gF0 hb, ↓yc0_gF1 hb, ↓yc0_gF2 hb, ↓yc0_gF3 hb, ↓yc0_gF4 hb, ↓yc0_gF5 hb, ↓yc0_gF6 hb, ↓yc0_gF7 hb, ↓yc0_gF8 hb, ↓yc0_gF9 hb, ↓yc0_gF10 hb, ↓yc0_gF11 hb, ↓yc0_gF12 hb, ↓yc0_gF13 hb, ↓yc1_al hb, ↓yc1_as hb, ↓yc1_ln hb, ↓yc2_al hb, ↓yc2_as hb, ↓yc2_ln hb, ↓yc3_al hb, ↓yc3_as hb, ↓yc3_ln hb, ↓yc4_al hb, ↓yc4_as hb, ↓yc4_ln hb, ↓yc5_al hb, ↓yc5_as hb, ↓yc5_ln hb, ↓yc6_al hb, ↓yc6_as hb, ↓yc6_ln hb, ↓yc7_al hb, ↓yc7_as hb, ↓yc7_ln hb, ↓yc8_al hb, ↓yc8_as hb, ↓yc8_ln hb, ↓yc9_al hb, ↓yc9_as hb, ↓yc9_ln hb, ↓yc10_al hb, ↓yc10_as hb, ↓yc10_ln hb, ↓yc11_al hb, ↓yc11_as hb, ↓yc11_ln hb, ↓yc12_al hb, ↓yc12_as hb, ↓yc12_ln hb, ↓yc13_al hb, ↓yc13_as hb, ↓yc13_ln hb, ↓yc14_gd hb, ↓yc14_gI hb, ↓yc14_gM hb, ↓yc14_pI hb, ↓yc14_pM hb, ↓yc14_pZ hb, ↓yc14_gF0 hb, ↓yc14_gF1 hb, ↓yc15_al hb, ↓yc15_as hb, ↓yc15_ln hb, ↓yc16_al hb, ↓yc16_as hb, ↓yc16_ln hb, ↓qb_so, ↓nm_1, ↓nm_2, ↓reduceIte, if_true, if_false, not_true_eq_false, not_false_eq_true, and_true, true_and, and_false, false_and, or_true, true_or, or_false, false_or, eq_self, ne_eq, quI_s, quI_n, quI2, quL1, quL2, quL3, quR1, quR2, quR3, nI_add, pk_mul, pk_sub, Nat.add_sub_cancel, qm1_add, qm2_add, nI_leI, nI_ltI, nI_eq, nI_m1, nI_m1', nI_clamp, nI_bit, nI_one_shl, nI_m1l, nI_m1lt, nI_m1lt', nI_m1le', oI_some, oI_none, ni_0, ni_1, ni_5, fX1_put, qle_t, qle_f, qlt_t, qlt_f, qeq_t, qeq_f, h3, ev]
  · refine tkC_same h1 (fun k j hk => ?_)
    rw [quI_k (by unfold yc; omega), quI_k (by unfold yc; omega)]
  · rw [quI_e, List.length_append]; rfl
  · refine oCode_put (oCode_eq h4 (fun j hj => ?_)) ?_
    · rw [quI_k (by unfold yc; omega), quI_k (by omega)]
    · rw [Nat.zero_add, quI_k (by unfold yc; omega), quI_e]
  · exact ⟨by rw [quI_k (by unfold yc; omega), quI_k (by unfold yc; omega)]; exact h7.1, by rw [quI_k (by unfold yc; omega), quI_k (by unfold yc; omega)]; exact h7.2.1, by rw [quI_k (by unfold yc; omega), quI_k (by unfold yc; omega)]; exact h7.2.2⟩
theorem c_cput {q v : Nat} {x : Nat × Nat} (hb : b < 2) (h : stC S b f L m e c) (hl : c.length < e) (hq : q < 32) (hv : v < 10000) (hx : encC x = v * 32 + q) : ∃ Z, fX1_put (yc b 14) (nI q) (nI v) S = some (nI 1, Z) ∧ stC Z b f L m e (c ++ [x]) ∧ frR b S Z := by
  have hL := h.1.1.2.2.1
  have h2 := h.2.1
  obtain ⟨Z, x1, x2, x3, x4, x5, x6, x7⟩ := c_cput0 hb h (by omega) hq hv hx
  exact ⟨Z, x1, ⟨x2, h2, x3, x4, by rw [List.length_append]; show c.length + 1 ≤ e; omega, x5, x6⟩, x7⟩
end Q95

