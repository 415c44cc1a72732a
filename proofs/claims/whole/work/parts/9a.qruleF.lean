/-! ===== the reference reads a rule: what its cells hold ===== -/
/-- what is held back, the last first -/
def pSt (h : Nat → Int32) : List Nat → Prop
  | [] => True
  | q :: P => h P.length = nI (mSort (q, 0)) ∧ pSt h P
def rkq (q : Nat) : Nat := if q = 15 then 1 else if q = 14 then 2 else if q = 2 then 3 else if 11 ≤ q then 4 else if q ≤ 5 then 5 else 6
/-- an operator that is held back -/
def isP (q : Nat) : Prop := q = 2 ∨ (4 ≤ q ∧ q ≤ 8) ∨ (11 ≤ q ∧ q ≤ 15)
def em (P : List Nat) : List (Nat × Nat) := P.map (fun q => (q, 0))
def nots (P : List Nat) : Nat := (P.filter (fun q => q = 2)).length
def frN (b : Nat) (S Z : xSt) : Prop := (∀ k j, ¬ (k = 0 ∧ ((3 ≤ j ∧ j ≤ 9) ∨ j = 12 ∨ j = 39 ∨ (47 ≤ j ∧ j ≤ 51))) → ¬ (27 ≤ k ∧ k ≤ 32) → ¬ ((k = 21 ∨ k = 22) ∧ 1600 * b ≤ j ∧ j < 1600 * b + 1600) → Z.1 k j = S.1 k j) ∧ (∀ k j, ¬ (k = 0 ∧ j = 7) → Z.2.1 k j = S.2.1 k j) ∧ Z.2.2 = S.2.2
/-- the codes, and what is held back -/
def cdM (S : xSt) (b : Nat) (c : List (Nat × Nat)) (P : List Nat) (o : Nat) : Prop := S.1 0 40 = nI b ∧ S.1 0 39 = nI c.length ∧ mCode (S.1 21) (S.1 22) (1600 * b) c ∧ S.1 0 48 = nI o ∧ S.1 0 50 = nI P.length ∧ pSt (S.1 32) P ∧ (∀ q, q ∈ P → isP q)
/-- the frame on top: how deep, its sort, how much of a fact there is, whether a fact may begin, its base -/
def tpM (S : xSt) (D K H B A : Nat) : Prop := S.1 0 47 = nI D ∧ S.1 27 (D - 1) = nI K ∧ S.1 28 (D - 1) = nI H ∧ S.1 29 (D - 1) = nI B ∧ S.1 31 (D - 1) = nI A
section Q9a
variable {S Z V : xSt} {n L e m o b d t k a A D K H B : Nat} {f : Nat → Nat} {c : List (Nat × Nat)} {P : List Nat}
theorem frN_refl : frN b S S := ⟨fun _ _ _ _ _ => rfl, fun _ _ _ => rfl, rfl⟩
theorem frN_trans (h1 : frN b S Z) (h2 : frN b Z V) : frN b S V := ⟨fun k j x y z => (h2.1 k j x y z).trans (h1.1 k j x y z), fun k j hk => (h2.2.1 k j hk).trans (h1.2.1 k j hk), h2.2.2.trans h1.2.2⟩
theorem frN_M (h : frM S Z) : frN b S Z := ⟨fun k j x y z => h.1 k j (by omega), h.2.1, h.2.2⟩
theorem mCode_put {h g : Nat → Int32} {x : Nat × Nat} : ∀ {c : List (Nat × Nat)} {p : Nat}, mCode h g p c → h (p + c.length) = nI (mSort x) → (x.1 = 0 → g (p + c.length) = nI x.2) → mCode h g p (c ++ [x])
  | [], p, _, h2, h3 => ⟨h2, h3, trivial⟩
  | y :: c, p, h1, h2, h3 => ⟨h1.1, h1.2.1, mCode_put h1.2.2 (by rw [← h2, List.length_cons]; congr 1; omega) (fun hx => by rw [← h3 hx, List.length_cons]; congr 1; omega)⟩
theorem mCode_eq {h g h' g' : Nat → Int32} : ∀ {c : List (Nat × Nat)} {p : Nat}, mCode h g p c → (∀ j, p ≤ j → j < p + c.length → h' j = h j ∧ g' j = g j) → mCode h' g' p c
  | [], p, _, _ => trivial
  | y :: c, p, h1, h2 => ⟨by rw [(h2 p (Nat.le_refl _) (by rw [List.length_cons]; omega)).1]; exact h1.1, fun hx => by rw [(h2 p (Nat.le_refl _) (by rw [List.length_cons]; omega)).2]; exact h1.2.1 hx, mCode_eq h1.2.2 (fun j h3 h4 => h2 j (by omega) (by rw [List.length_cons]; omega))⟩
theorem pSt_eq {h h' : Nat → Int32} : ∀ {P : List Nat}, pSt h P → (∀ j, j < P.length → h' j = h j) → pSt h' P
  | [], _, _ => trivial
  | q :: P, h1, h2 => ⟨by rw [h2 _ (by rw [List.length_cons]; omega)]; exact h1.1, pSt_eq h1.2 (fun j hj => h2 j (by rw [List.length_cons]; omega))⟩
theorem mSort_lt {q : Nat} (h : isP q) : mSort (q, 0) < 50 := by
  unfold mSort isP at *
  simp only
  repeat' split
  all_goals omega
theorem m_rank {q : Nat} (h : isP q) : fX12_rank (nI (mSort (q, 0))) S = some (nI (rkq q)) := by
  have : q = 2 ∨ q = 4 ∨ q = 5 ∨ q = 6 ∨ q = 7 ∨ q = 8 ∨ q = 11 ∨ q = 12 ∨ q = 13 ∨ q = 14 ∨ q = 15 := by unfold isP at h; omega
  rcases this with rfl | rfl | rfl | rfl | rfl | rfl | rfl | rfl | rfl | rfl | rfl <;> rfl
theorem m_blame {p : Nat} (h8 : S.1 0 8 = nI 0) : fX12_blame 0 (nI k) (nI p) S = some (xuI (xuI S 0 8 (nI k)) 0 9 (nI p)) := by
  simp (disch := (first | assumption | omega | exact hB _ _ | exact hYB _ _ | (simp only [yc, yd, sh, sv, ne_eq]; omega) | (simp (disch := omega) only [↓nm_1, ↓nm_2, nI_add, pk_mul, pk_sub, Nat.add_sub_cancel, qm1_add, qm2_add, nI_clamp, ni_0, ni_1, h8]; refine qin_nI ?_ ?_ <;> first | omega | exact hB _ _ | exact hYB _ _) | (refine qin_nI ?_ ?_ <;> omega) | fail)) only [↓km0_gd, ↓km0_gI, ↓km0_gM, ↓km0_pI, ↓km0_pM, ↓km0_pZ, ↓km0_gL, ↓km0_pL, ↓qb_so, ↓nm_1, ↓nm_2, ↓reduceIte, if_true, if_false, not_true_eq_false, not_false_eq_true, and_true, true_and, and_false, false_and, or_true, true_or, or_false, false_or, eq_self, ne_eq, quI_s, quI_n, quI2, quL1, quL2, quL3, quR1, quR2, quR3, nI_add, pk_mul, pk_sub, Nat.add_sub_cancel, qm1_add, qm2_add, nI_leI, nI_ltI, nI_eq, nI_m1, nI_m1', nI_clamp, nI_bit, nI_one_shl, nI_m1l, nI_m1lt, nI_m1lt', nI_m1le', oI_some, oI_none, ni_0, ni_1, fX12_blame, qle_t, qle_f, qlt_t, qlt_f, qeq_t, qeq_f, h8]
theorem m_blame1 {x y : Int32} {j : Nat} (h8 : S.1 0 8 = nI j) (h0 : 0 < j) (h1 : j < 100) : fX12_blame 0 x y S = some S := by
  have hj : ¬ j ≤ 0 := by omega
  simp (disch := (first | assumption | omega | exact hB _ _ | exact hYB _ _ | (simp only [yc, yd, sh, sv, ne_eq]; omega) | (simp (disch := omega) only [↓nm_1, ↓nm_2, nI_add, pk_mul, pk_sub, Nat.add_sub_cancel, qm1_add, qm2_add, nI_clamp, ni_0, ni_1, h8, hj]; refine qin_nI ?_ ?_ <;> first | omega | exact hB _ _ | exact hYB _ _) | (refine qin_nI ?_ ?_ <;> omega) | fail)) only [↓km0_gd, ↓km0_gI, ↓km0_gM, ↓km0_pI, ↓km0_pM, ↓km0_pZ, ↓km0_gL, ↓km0_pL, ↓qb_so, ↓nm_1, ↓nm_2, ↓reduceIte, if_true, if_false, not_true_eq_false, not_false_eq_true, and_true, true_and, and_false, false_and, or_true, true_or, or_false, false_or, eq_self, ne_eq, quI_s, quI_n, quI2, quL1, quL2, quL3, quR1, quR2, quR3, nI_add, pk_mul, pk_sub, Nat.add_sub_cancel, qm1_add, qm2_add, nI_leI, nI_ltI, nI_eq, nI_m1, nI_m1', nI_clamp, nI_bit, nI_one_shl, nI_m1l, nI_m1lt, nI_m1lt', nI_m1le', oI_some, oI_none, ni_0, ni_1, fX12_blame, qle_t, qle_f, qlt_t, qlt_f, qeq_t, qeq_f, h8, hj]
theorem m_lex0 (h12 : S.1 0 12 = qm1) : fX12_lex 0 S = some S := by
  simp (disch := (first | assumption | omega | exact hB _ _ | exact hYB _ _ | (simp only [yc, yd, sh, sv, ne_eq]; omega) | (simp (disch := omega) only [↓nm_1, ↓nm_2, nI_add, pk_mul, pk_sub, Nat.add_sub_cancel, qm1_add, qm2_add, nI_clamp, ni_0, ni_1, h12]; refine qin_nI ?_ ?_ <;> first | omega | exact hB _ _ | exact hYB _ _) | (refine qin_nI ?_ ?_ <;> omega) | fail)) only [↓km0_gd, ↓km0_gI, ↓km0_gM, ↓km0_pI, ↓km0_pM, ↓km0_pZ, ↓km0_gL, ↓km0_pL, ↓qb_so, ↓nm_1, ↓nm_2, ↓reduceIte, if_true, if_false, not_true_eq_false, not_false_eq_true, and_true, true_and, and_false, false_and, or_true, true_or, or_false, false_or, eq_self, ne_eq, quI_s, quI_n, quI2, quL1, quL2, quL3, quR1, quR2, quR3, nI_add, pk_mul, pk_sub, Nat.add_sub_cancel, qm1_add, qm2_add, nI_leI, nI_ltI, nI_eq, nI_m1, nI_m1', nI_clamp, nI_bit, nI_one_shl, nI_m1l, nI_m1lt, nI_m1lt', nI_m1le', oI_some, oI_none, ni_0, ni_1, fX12_lex, qle_t, qle_f, qlt_t, qlt_f, qeq_t, qeq_f, h12]
theorem m_lex1 {p : Nat} (hp : p < 2 ^ 31) (h12 : S.1 0 12 = nI p) (h8 : S.1 0 8 = nI 0) : fX12_lex 0 S = some (xuI (xuI S 0 8 (nI 1)) 0 9 (nI p)) := by
  have e1 := m_blame (k := 1) (p := p) h8
  simp (disch := (first | assumption | omega | exact hB _ _ | exact hYB _ _ | (simp only [yc, yd, sh, sv, ne_eq]; omega) | (simp (disch := omega) only [↓nm_1, ↓nm_2, nI_add, pk_mul, pk_sub, Nat.add_sub_cancel, qm1_add, qm2_add, nI_clamp, ni_0, ni_1, h12, e1]; refine qin_nI ?_ ?_ <;> first | omega | exact hB _ _ | exact hYB _ _) | (refine qin_nI ?_ ?_ <;> omega) | fail)) only [↓km0_gd, ↓km0_gI, ↓km0_gM, ↓km0_pI, ↓km0_pM, ↓km0_pZ, ↓km0_gL, ↓km0_pL, ↓qb_so, ↓nm_1, ↓nm_2, ↓reduceIte, if_true, if_false, not_true_eq_false, not_false_eq_true, and_true, true_and, and_false, false_and, or_true, true_or, or_false, false_or, eq_self, ne_eq, quI_s, quI_n, quI2, quL1, quL2, quL3, quR1, quR2, quR3, nI_add, pk_mul, pk_sub, Nat.add_sub_cancel, qm1_add, qm2_add, nI_leI, nI_ltI, nI_eq, nI_m1, nI_m1', nI_clamp, nI_bit, nI_one_shl, nI_m1l, nI_m1lt, nI_m1lt', nI_m1le', oI_some, oI_none, ni_0, ni_1, fX12_lex, qle_t, qle_f, qlt_t, qlt_f, qeq_t, qeq_f, h12, e1]
theorem m_add {x : Nat × Nat} {y : Int32} (hb : b < 2) (h : cdM S b c P o) (hc : c.length < 1600) (hx : x.1 = 0 → y = nI x.2) :
    ∃ Z, fX12_add 0 (nI (mSort x)) y S = some Z ∧ cdM Z b (c ++ [x]) P o ∧ frN b S Z ∧ (∀ k j, ¬ (k = 0 ∧ j = 39) → k ≠ 21 → k ≠ 22 → Z.1 k j = S.1 k j) ∧ Z.2 = S.2 := by
  obtain ⟨h1, h2, h3, h4, h5, h6, h7⟩ := h
  have hb2 : 1600 * b + c.length < 3200 := by omega
  have key : ∀ k j, ¬ (k = 0 ∧ j = 39) → ¬ (k = 21 ∧ j = 1600 * b + c.length) → ¬ (k = 22 ∧ j = 1600 * b + c.length) → (xuI (xuI (xuI S 21 (1600 * b + c.length) (nI (mSort x))) 22 (1600 * b + c.length) y) 0 39 (nI (c.length + 1))).1 k j = S.1 k j := fun k j x y z => by rw [quI_k x, quI_k z, quI_k y]
  refine ⟨xuI (xuI (xuI S 21 (1600 * b + c.length) (nI (mSort x))) 22 (1600 * b + c.length) y) 0 39 (nI (c.length + 1)), ?_, ⟨?_, ?_, ?_, ?_, ?_, ?_, h7⟩, ⟨?_, fun _ _ _ => rfl, rfl⟩, ?_, rfl⟩
  · simp (disch := (first | assumption | omega | exact hB _ _ | exact hYB _ _ | (simp only [yc, yd, sh, sv, ne_eq]; omega) | (simp (disch := omega) only [↓nm_1, ↓nm_2, nI_add, pk_mul, pk_sub, Nat.add_sub_cancel, qm1_add, qm2_add, nI_clamp, ni_0, ni_1, ni_1600, h1, h2]; refine qin_nI ?_ ?_ <;> first | omega | exact hB _ _ | exact hYB _ _) | (refine qin_nI ?_ ?_ <;> omega) | fail)) only [↓km0_gd, ↓km0_gI, ↓km0_gM, ↓km0_pI, ↓km0_pM, ↓km0_pZ, ↓km0_gL, ↓km0_pL, ↓km0_gF33, ↓km0_gF34, ↓km21_al, ↓km21_as, ↓km21_ln, ↓km22_al, ↓km22_as, ↓km22_ln, ↓qb_so, ↓nm_1, ↓nm_2, ↓reduceIte, if_true, if_false, not_true_eq_false, not_false_eq_true, and_true, true_and, and_false, false_and, or_true, true_or, or_false, false_or, eq_self, ne_eq, quI_s, quI_n, quI2, quL1, quL2, quL3, quR1, quR2, quR3, nI_add, pk_mul, pk_sub, Nat.add_sub_cancel, qm1_add, qm2_add, nI_leI, nI_ltI, nI_eq, nI_m1, nI_m1', nI_clamp, nI_bit, nI_one_shl, nI_m1l, nI_m1lt, nI_m1lt', nI_m1le', oI_some, oI_none, ni_0, ni_1, ni_1600, fX12_add, qle_t, qle_f, qlt_t, qlt_f, qeq_t, qeq_f, h1, h2]
  · rw [key _ _ (by omega) (by omega) (by omega)]; exact h1
  · rw [quI_e, List.length_append]; rfl
  · refine mCode_put (mCode_eq h3 (fun j j1 j2 => ⟨key _ _ (by omega) (by omega) (by omega), key _ _ (by omega) (by omega) (by omega)⟩)) ?_ (fun hx0 => ?_)
    · rw [quI_k (by omega), quI_k (by omega), quI_e]
    · rw [quI_k (by omega), quI_e]; exact hx hx0
  · rw [key _ _ (by omega) (by omega) (by omega)]; exact h4
  · rw [key _ _ (by omega) (by omega) (by omega)]; exact h5
  · exact pSt_eq h6 (fun j _ => key _ _ (by omega) (by omega) (by omega))
  · intro k j x1 x2 x3
    exact key k j (by omega) (by omega) (by omega)
  · intro k j x1 x2 x3
    exact key k j x1 (by omega) (by omega)
end Q9a

