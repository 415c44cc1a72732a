/-! ===== what statements keep, the class's loop ===== -/
section Q9z6
variable {S Z V W : xSt} {n L e m o b d t k a s w lo hi j r : Nat} {u : Option Nat} {f : Nat → Nat} {cc mc wc : List (Nat × Nat)} {Y Y' : Nat → Nat → Nat}
theorem yrOk_14 (h : yrOk Y) (h1 : ∀ c, c ≠ 14 → Y' c = Y c) (h2 : ∀ j, Y' 14 j < 2 ^ 31) : yrOk Y' := by
  obtain ⟨a, b2, c2, d7, d8, e9, e12, e14, e16, e17, e18, eB, e6, e94⟩ := h
  unfold yrOk
  rw [h1 2 (by decide), h1 4 (by decide), h1 3 (by decide), h1 5 (by decide), h1 6 (by decide), h1 7 (by decide), h1 8 (by decide), h1 9 (by decide), h1 10 (by decide), h1 11 (by decide), h1 12 (by decide), h1 0 (by decide)]
  refine ⟨a, b2, c2, d7, d8, e9, e12, e14, e16, e17, e18, fun c j => ?_, e6, e94⟩
  by_cases hc : c = 14
  · rw [hc]; exact h2 j
  · rw [h1 c hc]; exact eB c j
theorem sbl_app {x : List (Nat × Nat)} {p : Nat} {l : List (Nat × Nat)} (h : sbl cc p l) : sbl (cc ++ x) p l := by
  obtain ⟨u, v, h1, h2⟩ := h
  exact ⟨u, v ++ x, by rw [h1]; simp only [List.append_assoc], h2⟩
theorem sbl_new {x : List (Nat × Nat)} : sbl (cc ++ x) cc.length x := ⟨cc, [], by rw [List.append_nil], rfl⟩
theorem yJc_of (h : yJc Y cc mc wc) (h1 : Y' 14 = Y 14) : yJc Y' cc mc wc := by
  unfold yJc
  rw [h1]
  exact h
theorem zPl_i {r : YS} {e' : Nat} {cc' : List (Nat × Nat)} (h : zPl r cc = .inr (e', Y', cc')) : r = .inr (e', Y') ∧ cc' = cc := by
  obtain ⟨x, h1, h2⟩ := zB_i h
  cases h2
  exact ⟨h1, rfl⟩
theorem J_may {e' : Nat} {cc' : List (Nat × Nat)} (hJ : yJa Y cc mc wc) (hL : L ≤ 1600) (he : e ≤ L) (hc : cc.length ≤ e) (h : zMay f L Y cc e = .inr (e', Y', cc')) : ∃ mc' wc', yJa Y' cc' mc' wc' := by
  obtain ⟨j1, j2, j3, j4, j5, j6, j7, j8⟩ := hJ
  unfold zMay at h
  obtain ⟨e1, x1, h⟩ := zB_i h
  obtain ⟨x, x2, h⟩ := zB_i h
  have h1 := tO_i x1
  have he1 : e1 ≤ L := by rw [h1.2]; exact kE_le he
  have h3 := pR_W (f := f) (L := L) (m := 1) 80 0 0 0 e1 he1 x.1 x.2 x2
  have h4 := pR_may x2
  cases h
  refine ⟨x.2, wc, yrOk_14 j1 (fun c hc => by funext j; rw [dU_c hc, dU_c hc, dU_c hc]) (fun j => ?_), yJn_of j2 ?_ ?_ ?_ ?_, ?_, ?_, ?_, ?_, ?_, ?_⟩
  · have := j1.2.2.2.2.2.2.2.2.2.2.2.1 14 j
    have hl : (cc ++ x.2).length = cc.length + x.2.length := List.length_append
    simp only [dU_at]
    repeat' split
    all_goals omega
  · funext j; rw [dU_c (by decide), dU_c (by decide), dU_c (by decide)]
  · funext j; rw [dU_c (by decide), dU_c (by decide), dU_c (by decide)]
  · funext j; rw [dU_c (by decide), dU_c (by decide), dU_c (by decide)]
  · funext j; rw [dU_c (by decide), dU_c (by decide), dU_c (by decide)]
  · rw [dU_j (by decide), dU_s]
  · rw [dU_s, dU_j (by decide), dU_j (by decide), dU_s, List.length_append]
  · rw [dU_j (by decide), dU_j (by decide), dU_j (by decide), dU_j (by decide), dU_j (by decide), dU_j (by decide)]; exact j5
  · rw [dU_j (by decide), dU_j (by decide), dU_s]; exact sbl_new
  · rw [dU_j (by decide), dU_j (by decide), dU_j (by decide)]; exact sbl_app j7
  · exact ⟨fun _ => h4.1, j8.2.1, j8.2.2⟩
theorem J_wears {e' : Nat} {cc' : List (Nat × Nat)} (hJ : yJa Y cc mc wc) (hL : L ≤ 1600) (he : e ≤ L) (hc : cc.length ≤ e) (h : zWears f L Y cc e = .inr (e', Y', cc')) : ∃ mc' wc', yJa Y' cc' mc' wc' := by
  obtain ⟨j1, j2, j3, j4, j5, j6, j7, j8⟩ := hJ
  unfold zWears at h
  obtain ⟨e1, x1, h⟩ := zB_i h
  obtain ⟨x, x2, h⟩ := zB_i h
  have h1 := tO_i x1
  have he1 : e1 ≤ L := by rw [h1.2]; exact kE_le he
  have h3 := pR_W (f := f) (L := L) (m := 0) 80 4 0 0 e1 he1 x.1 x.2 x2
  have h4 := pR_wears x2
  cases h
  refine ⟨mc, x.2, yrOk_14 j1 (fun c hc => by funext j; rw [dU_c hc, dU_c hc, dU_c hc]) (fun j => ?_), yJn_of j2 ?_ ?_ ?_ ?_, ?_, ?_, ?_, ?_, ?_, ?_⟩
  · have := j1.2.2.2.2.2.2.2.2.2.2.2.1 14 j
    have hl : (cc ++ x.2).length = cc.length + x.2.length := List.length_append
    simp only [dU_at]
    repeat' split
    all_goals omega
  · funext j; rw [dU_c (by decide), dU_c (by decide), dU_c (by decide)]
  · funext j; rw [dU_c (by decide), dU_c (by decide), dU_c (by decide)]
  · funext j; rw [dU_c (by decide), dU_c (by decide), dU_c (by decide)]
  · funext j; rw [dU_c (by decide), dU_c (by decide), dU_c (by decide)]
  · rw [dU_j (by decide), dU_s]
  · rw [dU_j (by decide), dU_j (by decide), dU_j (by decide), dU_j (by decide), dU_j (by decide), dU_j (by decide)]; exact j4
  · rw [dU_s, dU_j (by decide), dU_j (by decide), dU_s, List.length_append]
  · rw [dU_j (by decide), dU_j (by decide), dU_j (by decide)]; exact sbl_app j6
  · rw [dU_j (by decide), dU_j (by decide), dU_s]; exact sbl_new
  · exact ⟨j8.1, fun _ => h4.1, h4.2.2⟩
/-- a statement keeps all that -/
theorem J_S {e' : Nat} {cc' : List (Nat × Nat)} (hJ : yJa Y cc mc wc) (hL : L ≤ 1600) (he : e ≤ L) (hc : cc.length ≤ e) (h : zS f L Y cc e = .inr (e', Y', cc')) : ∃ mc' wc', yJa Y' cc' mc' wc' := by
  have fin : ∀ {r : YS}, zPl r cc = .inr (e', Y', cc') → (r = .inr (e', Y') → (yrOk Y' ∧ yJn Y') ∧ Y' 14 = Y 14) → ∃ mc' wc', yJa Y' cc' mc' wc' := by
    intro r h1 h2
    obtain ⟨h3, h4⟩ := zPl_i h1
    obtain ⟨⟨h5, h6⟩, h7⟩ := h2 h3
    rw [h4]
    exact ⟨mc, wc, h5, h6, yJc_of hJ.2.2 h7⟩
  obtain ⟨j1, j2, j3⟩ := id hJ
  unfold zS at h
  by_cases w0 : iw f L e 0
  · rw [if_pos w0] at h
    refine fin h (fun h => ?_)
    unfold zKind at h
    obtain ⟨e1, x1, h⟩ := zB_i h
    obtain ⟨w, x2, h⟩ := zB_i h
    obtain ⟨e3, x3, h⟩ := zB_i h
    obtain ⟨d, x4, h⟩ := zB_i h
    obtain ⟨e5, x5, h⟩ := zB_i h
    obtain ⟨r, x6, h⟩ := zB_i h
    have h1 := tO_i x1
    have h2 := tF_i hL x2
    have h6 := tN_i x6
    have hl := s_lr_ok (d := d.1)
    cases h
    exact ⟨J_kind j1 j2 (by omega) (by omega) (by omega) h6.2.1 ⟨h2.1, h2.2.1⟩, by funext j; rw [dU_c (by decide), dU_c (by decide), s_gi_c (by decide) (by decide)]⟩
  rw [if_neg w0] at h
  by_cases w3 : iw f L e 3
  · rw [if_pos w3] at h
    refine fin h (fun h => ?_)
    unfold zTool at h
    obtain ⟨e1, x1, h⟩ := zB_i h
    obtain ⟨w, x2, h⟩ := zB_i h
    obtain ⟨e3, x3, h⟩ := zB_i h
    obtain ⟨d, x4, h⟩ := zB_i h
    obtain ⟨e5, x5, h⟩ := zB_i h
    obtain ⟨r, x6, h⟩ := zB_i h
    have h1 := tO_i x1
    have h2 := tF_i hL x2
    have h4 := tA_i x4
    have h6 := tN_i x6
    cases h
    exact ⟨J_tool j1 j2 (by omega) h4.1 h6.2.1 ⟨h2.1, h2.2.1⟩, by funext j; rw [dU_c (by decide), dU_c (by decide), s_gi_c (by decide) (by decide)]⟩
  rw [if_neg w3] at h
  by_cases w6 : iw f L e 6
  · rw [if_pos w6] at h
    refine fin h (fun h => ?_)
    unfold zHand at h
    obtain ⟨e1, x1, h⟩ := zB_i h
    obtain ⟨w, x2, h⟩ := zB_i h
    have h1 := tO_i x1
    have h2 := tF_i hL x2
    cases h
    exact ⟨J_hand j1 j2 (by omega) ⟨h2.1, h2.2.1⟩, by funext j; rw [s_gi_c (by decide) (by decide)]⟩
  rw [if_neg w6] at h
  by_cases w7 : iw f L e 7
  · rw [if_pos w7] at h
    refine fin h (fun h => ?_)
    unfold zKnows at h
    obtain ⟨a, x1, h⟩ := zB_i h
    obtain ⟨t, x2, h⟩ := zB_i h
    obtain ⟨r, x3, h⟩ := zB_i h
    have h1 := tA_i x1
    have h2 := tA_i x2
    have h3 := tN_i x3
    cases h
    exact ⟨J_knows j1 j2 h1.1 h2.1 h3.2.1, by funext j; rw [dU_c (by decide)]⟩
  rw [if_neg w7] at h
  by_cases w8 : iw f L e 8
  · rw [if_pos w8] at h
    refine fin h (fun h => ?_)
    unfold zJob at h
    obtain ⟨e1, x1, h⟩ := zB_i h
    obtain ⟨w, x2, h⟩ := zB_i h
    obtain ⟨e3, x3, h⟩ := zB_i h
    obtain ⟨d, x4, h⟩ := zB_i h
    obtain ⟨e5, x5, h⟩ := zB_i h
    have h1 := tO_i x1
    have h2 := tF_i hL x2
    have h4 := tN_i x4
    obtain ⟨g1, g2⟩ := J_jobS (d := d.1) j1 j2 (by omega) h4.2.1 ⟨h2.1, h2.2.1⟩
    obtain ⟨g3, g4⟩ := J_steps 4 0 _ _ _ _ h (by decide) g1
    refine ⟨⟨g3, yJn_of g2 (g4 1 (by decide) (by decide) (by decide)) (g4 2 (by decide) (by decide) (by decide)) (g4 7 (by decide) (by decide) (by decide)) (g4 12 (by decide) (by decide) (by decide))⟩, ?_⟩
    rw [g4 14 (by decide) (by decide) (by decide)]
    funext j; rw [dU_c (by decide), s_gi_c (by decide) (by decide)]
  rw [if_neg w8] at h
  by_cases w11 : iw f L e 11
  · rw [if_pos w11] at h
    refine fin h (fun h => ?_)
    unfold zServes at h
    obtain ⟨a, x1, h⟩ := zB_i h
    obtain ⟨e3, x3, h⟩ := zB_i h
    obtain ⟨c, x4, h⟩ := zB_i h
    obtain ⟨e5, x5, h⟩ := zB_i h
    obtain ⟨r, x6, h⟩ := zB_i h
    have h1 := tA_i x1
    have h4 := tA_i x4
    have h6 := tN_i x6
    cases h
    exact ⟨J_serves j1 j2 h1.1 h4.1 h6.2.1, by funext j; rw [dU_c (by decide)]⟩
  rw [if_neg w11] at h
  by_cases w14 : iw f L e 14
  · rw [if_pos w14] at h
    exact J_may hJ hL he hc h
  rw [if_neg w14] at h
  by_cases w15 : iw f L e 15
  · rw [if_pos w15] at h
    exact J_wears hJ hL he hc h
  rw [if_neg w15] at h
  by_cases w16 : iw f L e 16
  · rw [if_pos w16] at h
    refine fin h (fun h => ?_)
    unfold zSet at h
    obtain ⟨r, x6, h⟩ := zB_i h
    have h6 := tN_i x6
    cases h
    exact ⟨J_breaks j1 j2 h6.1 h6.2.1, by funext j; rw [dU_c (by decide)]⟩
  rw [if_neg w16] at h
  by_cases w17 : iw f L e 17
  · rw [if_pos w17] at h
    refine fin h (fun h => ?_)
    unfold zSmith at h
    obtain ⟨d, x4, h⟩ := zB_i h
    obtain ⟨e5, x5, h⟩ := zB_i h
    obtain ⟨r, x6, h⟩ := zB_i h
    have h6 := tN_i x6
    have hl := s_lr_ok (d := d.1)
    cases h
    exact ⟨J_smith j1 j2 (by omega) (by omega) h6.2.1, by funext j; rw [dU_c (by decide), dU_c (by decide)]⟩
  rw [if_neg w17] at h
  by_cases w18 : iw f L e 18
  · rw [if_pos w18] at h
    refine fin h (fun h => ?_)
    unfold zSet at h
    obtain ⟨r, x6, h⟩ := zB_i h
    have h6 := tN_i x6
    cases h
    exact ⟨J_fine j1 j2 h6.2.1, by funext j; rw [dU_c (by decide)]⟩
  rw [if_neg w18] at h
  by_cases w19 : iw f L e 19
  · rw [if_pos w19] at h
    refine fin h (fun h => ?_)
    unfold zSet at h
    obtain ⟨r, x6, h⟩ := zB_i h
    have h6 := tN_i x6
    cases h
    exact ⟨J_frost j1 j2 h6.2.1, by funext j; rw [dU_c (by decide)]⟩
  rw [if_neg w19] at h
  cases h
/-- the class's answer -/
def cRl (S : xSt) (b : Nat) (f : Nat → Nat) (L : Nat) (R : Sum (Nat × Nat) (Nat × (Nat → Nat → Nat) × List (Nat × Nat))) (F : Option (Int32 × xSt)) : Prop := match R with
  | .inl (kd, pl) => ∃ Z, F = some (qm1, Z) ∧ ftC b Z kd pl ∧ frB b S Z
  | .inr (c', Y', cc') => ∃ Z e' mc wc, F = some (nI c', Z) ∧ c' ≤ 80 ∧ mkC Z b f L e' Y' cc' ∧ yJa Y' cc' mc wc ∧ frB b S Z
theorem cRl_pre {R : Sum (Nat × Nat) (Nat × (Nat → Nat → Nat) × List (Nat × Nat))} {F : Option (Int32 × xSt)} (h : frB b S Z) (h1 : cRl Z b f L R F) : cRl S b f L R F := by
  match R, h1 with
  | .inl (kd, pl), ⟨V, x1, x2, x3⟩ => exact ⟨V, x1, x2, frB_trans h x3⟩
  | .inr (c', Y', cc'), ⟨V, e', mc, wc, x1, x2, x3, x4, x5⟩ => exact ⟨V, e', mc, wc, x1, x2, x3, x4, frB_trans h x5⟩
theorem c_takeSg (hn : 2000 ≤ n) (he : e ≤ L) (h : tkC S f L e) : (ig f L e 59 → ∃ Z, fX7_takeSign n 160 (nI 59) S = some (nI 1, Z) ∧ tkC Z f L (kE f L e) ∧ frK S Z) ∧ (¬ ig f L e 59 → fX7_takeSign n 160 (nI 59) S = some (nI 0, flC S 1 (kP f L e))) := by
  have e1 : fX7_isSign 160 (nI 59) S = some (nI (if ig f L e 59 then 1 else 0)) := c_isSign h (by decide)
  refine ⟨fun hi => ?_, fun hi => ?_⟩
  · rw [if_pos hi] at e1
    obtain ⟨Z, x1, x2, x3⟩ := c_adv hn he h (ig_W hi) (ig_T hi)
    refine ⟨Z, ?_, x2, x3⟩
    simp (disch := (first | assumption | omega | exact hB _ _ | exact hYB _ _ | (simp only [yc, yd, sh, sv, ne_eq]; omega) | (simp (disch := omega) only [↓nm_1, ↓nm_2, nI_add, pk_mul, pk_sub, Nat.add_sub_cancel, qm1_add, qm2_add, nI_clamp, ni_0, ni_1, e1, x1]; refine qin_nI ?_ ?_ <;> first | omega | exact hB _ _ | exact hYB _ _) | (refine qin_nI ?_ ?_ <;> omega) | fail)) only [↓kc0_gd, ↓kc0_gI, ↓kc0_gM, ↓kc0_pI, ↓kc0_pM, ↓kc0_pZ, ↓kc0_gF0, ↓kc0_gF4, ↓kc0_gF5, ↓kc0_gF6, ↓kc0_gF7, ↓kc0_gF8, ↓kc0_gF9, ↓kc0_gF10, ↓kc0_gF11, ↓kc0_gF12, ↓kc0_gF14, ↓kc1_al, ↓kc1_as, ↓kc1_ln, ↓kc41_gd, ↓kc41_gI, ↓kc41_gM, ↓kc41_pI, ↓kc41_pM, ↓kc41_pZ, ↓kc41_gF0, ↓kc41_gF1, ↓kc42_ql, ↓kc43_al, ↓kc43_as, ↓kc43_ln, ↓kc148_gd, ↓kc148_gI, ↓kc148_gM, ↓kc148_pI, ↓kc148_pM, ↓kc148_pZ, ↓kc148_gF0, ↓kc148_gF1, ↓kc148_gF2, ↓kc148_gF4, ↓kc148_gF5, ↓kc154_al, ↓kc154_as, ↓kc154_ln, ↓kc155_al, ↓kc155_as, ↓kc155_ln, ↓kc160_gd, ↓kc160_gI, ↓kc160_gM, ↓kc160_pI, ↓kc160_pM, ↓kc160_pZ, ↓kc160_gF0, ↓kc160_gF1, ↓kc161_al, ↓kc161_as, ↓kc161_ln, ↓kc162_gd, ↓kc162_gI, ↓kc162_gM, ↓kc162_pI, ↓kc162_pM, ↓kc162_pZ, ↓kc162_gF0, ↓kc162_gF1, ↓kc163_gd, ↓kc163_gI, ↓kc163_gM, ↓kc163_pI, ↓kc163_pM, ↓kc163_pZ, ↓kc163_gF0, ↓kc164_gd, ↓kc164_gI, ↓kc164_gM, ↓kc164_pI, ↓kc164_pM, ↓kc164_pZ, ↓kc164_gF0, ↓kc164_gF1, ↓kc164_gF2, ↓kc164_gF3, ↓kc165_al, ↓kc165_as, ↓kc165_ln, ↓kc166_al, ↓kc166_as, ↓kc166_ln, ↓kc167_al, ↓kc167_as, ↓kc167_ln, ↓kc168_al, ↓kc168_as, ↓kc168_ln, ↓kc169_gd, ↓kc169_gI, ↓kc169_gM, ↓kc169_pI, ↓kc169_pM, ↓kc169_pZ, ↓kc169_gF0, ↓kc169_gF2, ↓kc170_al, ↓kc170_as, ↓kc170_ln, ↓kc171_gd, ↓kc171_gI, ↓kc171_gM, ↓kc171_pI, ↓kc171_pM, ↓kc171_pZ, ↓kc171_gF5, ↓kc171_gF6, ↓kc171_gF7, ↓kc171_gF8, ↓kc172_al, ↓kc172_as, ↓kc172_ln, ↓kc173_al, ↓kc173_as, ↓kc173_ln, ↓kc174_al, ↓kc174_as, ↓kc174_ln, ↓kc175_al, ↓kc175_as, ↓kc175_ln, ↓kc176_al, ↓kc176_as, ↓kc176_ln, ↓kc177_al, ↓kc177_as, ↓kc177_ln, ↓qb_so, ↓nm_1, ↓nm_2, ↓reduceIte, if_true, if_false, not_true_eq_false, not_false_eq_true, and_true, true_and, and_false, false_and, or_true, true_or, or_false, false_or, eq_self, ne_eq, quI_s, quI_n, quI2, quL1, quL2, quL3, quR1, quR2, quR3, nI_add, pk_mul, pk_sub, Nat.add_sub_cancel, qm1_add, qm2_add, nI_leI, nI_ltI, nI_eq, nI_m1, nI_m1', nI_clamp, nI_bit, nI_one_shl, nI_m1l, nI_m1lt, nI_m1lt', nI_m1le', oI_some, oI_none, ni_0, ni_1, fX7_takeSign, qle_t, qle_f, qlt_t, qlt_f, qeq_t, qeq_f, e1, x1]
  · rw [if_neg hi] at e1
    have x1 := c_here2 h
    simp (disch := (first | assumption | omega | exact hB _ _ | exact hYB _ _ | (simp only [yc, yd, sh, sv, ne_eq]; omega) | (simp (disch := omega) only [↓nm_1, ↓nm_2, nI_add, pk_mul, pk_sub, Nat.add_sub_cancel, qm1_add, qm2_add, nI_clamp, ni_0, ni_1, e1, x1]; refine qin_nI ?_ ?_ <;> first | omega | exact hB _ _ | exact hYB _ _) | (refine qin_nI ?_ ?_ <;> omega) | fail)) only [↓kc0_gd, ↓kc0_gI, ↓kc0_gM, ↓kc0_pI, ↓kc0_pM, ↓kc0_pZ, ↓kc0_gF0, ↓kc0_gF4, ↓kc0_gF5, ↓kc0_gF6, ↓kc0_gF7, ↓kc0_gF8, ↓kc0_gF9, ↓kc0_gF10, ↓kc0_gF11, ↓kc0_gF12, ↓kc0_gF14, ↓kc1_al, ↓kc1_as, ↓kc1_ln, ↓kc41_gd, ↓kc41_gI, ↓kc41_gM, ↓kc41_pI, ↓kc41_pM, ↓kc41_pZ, ↓kc41_gF0, ↓kc41_gF1, ↓kc42_ql, ↓kc43_al, ↓kc43_as, ↓kc43_ln, ↓kc148_gd, ↓kc148_gI, ↓kc148_gM, ↓kc148_pI, ↓kc148_pM, ↓kc148_pZ, ↓kc148_gF0, ↓kc148_gF1, ↓kc148_gF2, ↓kc148_gF4, ↓kc148_gF5, ↓kc154_al, ↓kc154_as, ↓kc154_ln, ↓kc155_al, ↓kc155_as, ↓kc155_ln, ↓kc160_gd, ↓kc160_gI, ↓kc160_gM, ↓kc160_pI, ↓kc160_pM, ↓kc160_pZ, ↓kc160_gF0, ↓kc160_gF1, ↓kc161_al, ↓kc161_as, ↓kc161_ln, ↓kc162_gd, ↓kc162_gI, ↓kc162_gM, ↓kc162_pI, ↓kc162_pM, ↓kc162_pZ, ↓kc162_gF0, ↓kc162_gF1, ↓kc163_gd, ↓kc163_gI, ↓kc163_gM, ↓kc163_pI, ↓kc163_pM, ↓kc163_pZ, ↓kc163_gF0, ↓kc164_gd, ↓kc164_gI, ↓kc164_gM, ↓kc164_pI, ↓kc164_pM, ↓kc164_pZ, ↓kc164_gF0, ↓kc164_gF1, ↓kc164_gF2, ↓kc164_gF3, ↓kc165_al, ↓kc165_as, ↓kc165_ln, ↓kc166_al, ↓kc166_as, ↓kc166_ln, ↓kc167_al, ↓kc167_as, ↓kc167_ln, ↓kc168_al, ↓kc168_as, ↓kc168_ln, ↓kc169_gd, ↓kc169_gI, ↓kc169_gM, ↓kc169_pI, ↓kc169_pM, ↓kc169_pZ, ↓kc169_gF0, ↓kc169_gF2, ↓kc170_al, ↓kc170_as, ↓kc170_ln, ↓kc171_gd, ↓kc171_gI, ↓kc171_gM, ↓kc171_pI, ↓kc171_pM, ↓kc171_pZ, ↓kc171_gF5, ↓kc171_gF6, ↓kc171_gF7, ↓kc171_gF8, ↓kc172_al, ↓kc172_as, ↓kc172_ln, ↓kc173_al, ↓kc173_as, ↓kc173_ln, ↓kc174_al, ↓kc174_as, ↓kc174_ln, ↓kc175_al, ↓kc175_as, ↓kc175_ln, ↓kc176_al, ↓kc176_as, ↓kc176_ln, ↓kc177_al, ↓kc177_as, ↓kc177_ln, ↓qb_so, ↓nm_1, ↓nm_2, ↓reduceIte, if_true, if_false, not_true_eq_false, not_false_eq_true, and_true, true_and, and_false, false_and, or_true, true_or, or_false, false_or, eq_self, ne_eq, quI_s, quI_n, quI2, quL1, quL2, quL3, quR1, quR2, quR3, nI_add, pk_mul, pk_sub, Nat.add_sub_cancel, qm1_add, qm2_add, nI_leI, nI_ltI, nI_eq, nI_m1, nI_m1', nI_clamp, nI_bit, nI_one_shl, nI_m1l, nI_m1lt, nI_m1lt', nI_m1le', oI_some, oI_none, ni_0, ni_1, fX7_takeSign, qle_t, qle_f, qlt_t, qlt_f, qeq_t, qeq_f, e1, x1]
def rF (n q : Nat) (c : Int32) (S : xSt) : Option (Int32 × xSt) := (fX10_read_L22 n 162 q c S).bind fun z17 => xel z17 (fun ez17 => (xgF tC 10 0 162 ez17).bind fun r18 =>
  (xgF tC 10 0 162 ez17).bind fun r19 =>
  (xgI tC 7 5 r19 ez17).bind fun v20 =>
  (fX7_fail r18 ((6 : Int32)) v20 ez17).bind fun q21 =>
  some ((-1 : Int32), q21.2)) (fun r => some r)
theorem c_loop (hn : 2000 ≤ n) (hb : b < 2) : ∀ (k c q : Nat) (Y : Nat → Nat → Nat) (cc mc wc : List (Nat × Nat)) (S : xSt) (e : Nat), c + k = 80 → k < q → yJa Y cc mc wc → mkC S b f L e Y cc → cRl S b f L (zL f L k c Y cc e) (rF n q (nI c) S)
  | k, c, q, Y, cc, mc, wc, S, e, hk, hq, hJ, h => by
    obtain ⟨q, rfl⟩ : ∃ q', q = q' + 1 := ⟨q - 1, by omega⟩
    have hL := h.1.1.2.2.1
    have i4 : S.1 160 4 = nI (if kW f L e = none then kT f L e else 4) := h.1.2.2.1
    have i5 := h.1.2.1
    have t3 := kT_le (f := f) (L := L) (e := e)
    have c80 : ¬ 80 < c := by omega
    have hW : yWk Y := ⟨hJ.1.2.2.2.1, hJ.1.2.2.2.2.1, hJ.1.2.2.2.2.2.2.1, hJ.1.2.2.2.2.2.2.2.2.2.2.2.2.1, hJ.1.2.2.2.2.2.2.2.2.2.2.2.2.2, hJ.1.2.2.2.2.2.2.2.2.2.2.2.1⟩
    unfold zL
    by_cases hT : kT f L e = 0
    · have hw : kW f L e = none := by unfold kW; rw [if_neg (by omega)]
      rw [if_pos hw, hT] at i4
      rw [if_pos hT]
      refine ⟨S, e, mc, wc, ?_, by omega, h, hJ, frB_refl⟩
      have s1 : fX10_read_L22b n 162 (fX10_read_L22 n 162 q) (nI c) S = some (.inr (nI c, S)) := by
        simp (disch := (first | assumption | omega | exact hB _ _ | exact hYB _ _ | (simp only [yc, yd, sh, sv, ne_eq]; omega) | (simp (disch := omega) only [↓nm_1, ↓nm_2, nI_add, pk_mul, pk_sub, Nat.add_sub_cancel, qm1_add, qm2_add, nI_clamp, ni_0, ni_1, ni_59, ni_80, c80, i4]; refine qin_nI ?_ ?_ <;> first | omega | exact hB _ _ | exact hYB _ _) | (refine qin_nI ?_ ?_ <;> omega) | fail)) only [↓kc0_gd, ↓kc0_gI, ↓kc0_gM, ↓kc0_pI, ↓kc0_pM, ↓kc0_pZ, ↓kc0_gF0, ↓kc0_gF4, ↓kc0_gF5, ↓kc0_gF6, ↓kc0_gF7, ↓kc0_gF8, ↓kc0_gF9, ↓kc0_gF10, ↓kc0_gF11, ↓kc0_gF12, ↓kc0_gF14, ↓kc1_al, ↓kc1_as, ↓kc1_ln, ↓kc41_gd, ↓kc41_gI, ↓kc41_gM, ↓kc41_pI, ↓kc41_pM, ↓kc41_pZ, ↓kc41_gF0, ↓kc41_gF1, ↓kc42_ql, ↓kc43_al, ↓kc43_as, ↓kc43_ln, ↓kc148_gd, ↓kc148_gI, ↓kc148_gM, ↓kc148_pI, ↓kc148_pM, ↓kc148_pZ, ↓kc148_gF0, ↓kc148_gF1, ↓kc148_gF2, ↓kc148_gF4, ↓kc148_gF5, ↓kc154_al, ↓kc154_as, ↓kc154_ln, ↓kc155_al, ↓kc155_as, ↓kc155_ln, ↓kc160_gd, ↓kc160_gI, ↓kc160_gM, ↓kc160_pI, ↓kc160_pM, ↓kc160_pZ, ↓kc160_gF0, ↓kc160_gF1, ↓kc161_al, ↓kc161_as, ↓kc161_ln, ↓kc162_gd, ↓kc162_gI, ↓kc162_gM, ↓kc162_pI, ↓kc162_pM, ↓kc162_pZ, ↓kc162_gF0, ↓kc162_gF1, ↓kc163_gd, ↓kc163_gI, ↓kc163_gM, ↓kc163_pI, ↓kc163_pM, ↓kc163_pZ, ↓kc163_gF0, ↓kc164_gd, ↓kc164_gI, ↓kc164_gM, ↓kc164_pI, ↓kc164_pM, ↓kc164_pZ, ↓kc164_gF0, ↓kc164_gF1, ↓kc164_gF2, ↓kc164_gF3, ↓kc165_al, ↓kc165_as, ↓kc165_ln, ↓kc166_al, ↓kc166_as, ↓kc166_ln, ↓kc167_al, ↓kc167_as, ↓kc167_ln, ↓kc168_al, ↓kc168_as, ↓kc168_ln, ↓kc169_gd, ↓kc169_gI, ↓kc169_gM, ↓kc169_pI, ↓kc169_pM, ↓kc169_pZ, ↓kc169_gF0, ↓kc169_gF2, ↓kc170_al, ↓kc170_as, ↓kc170_ln, ↓kc171_gd, ↓kc171_gI, ↓kc171_gM, ↓kc171_pI, ↓kc171_pM, ↓kc171_pZ, ↓kc171_gF5, ↓kc171_gF6, ↓kc171_gF7, ↓kc171_gF8, ↓kc172_al, ↓kc172_as, ↓kc172_ln, ↓kc173_al, ↓kc173_as, ↓kc173_ln, ↓kc174_al, ↓kc174_as, ↓kc174_ln, ↓kc175_al, ↓kc175_as, ↓kc175_ln, ↓kc176_al, ↓kc176_as, ↓kc176_ln, ↓kc177_al, ↓kc177_as, ↓kc177_ln, ↓qb_so, ↓nm_1, ↓nm_2, ↓reduceIte, if_true, if_false, not_true_eq_false, not_false_eq_true, and_true, true_and, and_false, false_and, or_true, true_or, or_false, false_or, eq_self, ne_eq, quI_s, quI_n, quI2, quL1, quL2, quL3, quR1, quR2, quR3, nI_add, pk_mul, pk_sub, Nat.add_sub_cancel, qm1_add, qm2_add, nI_leI, nI_ltI, nI_eq, nI_m1, nI_m1', nI_clamp, nI_bit, nI_one_shl, nI_m1l, nI_m1lt, nI_m1lt', nI_m1le', oI_some, oI_none, ni_0, ni_1, ni_59, ni_80, fX10_read_L22b, qle_t, qle_f, qlt_t, qlt_f, qeq_t, qeq_f, c80, i4]
      unfold rF
      show (fX10_read_L22b n 162 (fX10_read_L22 n 162 q) (nI c) S).bind _ = _
      rw [s1]
      rfl
    rw [if_neg hT]
    obtain ⟨y, j4, jn, j5⟩ : ∃ y, S.1 160 4 = nI y ∧ y ≠ 0 ∧ y < 5 := by
      by_cases hw : kW f L e = none
      · rw [if_pos hw] at i4
        exact ⟨_, i4, hT, by omega⟩
      · rw [if_neg hw] at i4
        exact ⟨_, i4, by decide, by decide⟩
    match k, hk with
    | 0, hk =>
      have hc : c = 80 := by omega
      subst hc
      refine ⟨flC S 6 (kS f L e), ?_, ft_of hW h.2.2.1 h.2.2.2.1 hb, frB_fl⟩
      have s1 : fX10_read_L22b n 162 (fX10_read_L22 n 162 q) (nI 80) S = some (.inl S) := by
        simp (disch := (first | assumption | omega | exact hB _ _ | exact hYB _ _ | (simp only [yc, yd, sh, sv, ne_eq]; omega) | (simp (disch := omega) only [↓nm_1, ↓nm_2, nI_add, pk_mul, pk_sub, Nat.add_sub_cancel, qm1_add, qm2_add, nI_clamp, ni_0, ni_1, ni_59, ni_80, j4, jn]; refine qin_nI ?_ ?_ <;> first | omega | exact hB _ _ | exact hYB _ _) | (refine qin_nI ?_ ?_ <;> omega) | fail)) only [↓kc0_gd, ↓kc0_gI, ↓kc0_gM, ↓kc0_pI, ↓kc0_pM, ↓kc0_pZ, ↓kc0_gF0, ↓kc0_gF4, ↓kc0_gF5, ↓kc0_gF6, ↓kc0_gF7, ↓kc0_gF8, ↓kc0_gF9, ↓kc0_gF10, ↓kc0_gF11, ↓kc0_gF12, ↓kc0_gF14, ↓kc1_al, ↓kc1_as, ↓kc1_ln, ↓kc41_gd, ↓kc41_gI, ↓kc41_gM, ↓kc41_pI, ↓kc41_pM, ↓kc41_pZ, ↓kc41_gF0, ↓kc41_gF1, ↓kc42_ql, ↓kc43_al, ↓kc43_as, ↓kc43_ln, ↓kc148_gd, ↓kc148_gI, ↓kc148_gM, ↓kc148_pI, ↓kc148_pM, ↓kc148_pZ, ↓kc148_gF0, ↓kc148_gF1, ↓kc148_gF2, ↓kc148_gF4, ↓kc148_gF5, ↓kc154_al, ↓kc154_as, ↓kc154_ln, ↓kc155_al, ↓kc155_as, ↓kc155_ln, ↓kc160_gd, ↓kc160_gI, ↓kc160_gM, ↓kc160_pI, ↓kc160_pM, ↓kc160_pZ, ↓kc160_gF0, ↓kc160_gF1, ↓kc161_al, ↓kc161_as, ↓kc161_ln, ↓kc162_gd, ↓kc162_gI, ↓kc162_gM, ↓kc162_pI, ↓kc162_pM, ↓kc162_pZ, ↓kc162_gF0, ↓kc162_gF1, ↓kc163_gd, ↓kc163_gI, ↓kc163_gM, ↓kc163_pI, ↓kc163_pM, ↓kc163_pZ, ↓kc163_gF0, ↓kc164_gd, ↓kc164_gI, ↓kc164_gM, ↓kc164_pI, ↓kc164_pM, ↓kc164_pZ, ↓kc164_gF0, ↓kc164_gF1, ↓kc164_gF2, ↓kc164_gF3, ↓kc165_al, ↓kc165_as, ↓kc165_ln, ↓kc166_al, ↓kc166_as, ↓kc166_ln, ↓kc167_al, ↓kc167_as, ↓kc167_ln, ↓kc168_al, ↓kc168_as, ↓kc168_ln, ↓kc169_gd, ↓kc169_gI, ↓kc169_gM, ↓kc169_pI, ↓kc169_pM, ↓kc169_pZ, ↓kc169_gF0, ↓kc169_gF2, ↓kc170_al, ↓kc170_as, ↓kc170_ln, ↓kc171_gd, ↓kc171_gI, ↓kc171_gM, ↓kc171_pI, ↓kc171_pM, ↓kc171_pZ, ↓kc171_gF5, ↓kc171_gF6, ↓kc171_gF7, ↓kc171_gF8, ↓kc172_al, ↓kc172_as, ↓kc172_ln, ↓kc173_al, ↓kc173_as, ↓kc173_ln, ↓kc174_al, ↓kc174_as, ↓kc174_ln, ↓kc175_al, ↓kc175_as, ↓kc175_ln, ↓kc176_al, ↓kc176_as, ↓kc176_ln, ↓kc177_al, ↓kc177_as, ↓kc177_ln, ↓qb_so, ↓nm_1, ↓nm_2, ↓reduceIte, if_true, if_false, not_true_eq_false, not_false_eq_true, and_true, true_and, and_false, false_and, or_true, true_or, or_false, false_or, eq_self, ne_eq, quI_s, quI_n, quI2, quL1, quL2, quL3, quR1, quR2, quR3, nI_add, pk_mul, pk_sub, Nat.add_sub_cancel, qm1_add, qm2_add, nI_leI, nI_ltI, nI_eq, nI_m1, nI_m1', nI_clamp, nI_bit, nI_one_shl, nI_m1l, nI_m1lt, nI_m1lt', nI_m1le', oI_some, oI_none, ni_0, ni_1, ni_59, ni_80, fX10_read_L22b, qle_t, qle_f, qlt_t, qlt_f, qeq_t, qeq_f, j4, jn]
      have e2 : fX7_fail 160 (6 : Int32) (nI (kS f L e)) S = _ := c_fail (S := S) (k := 6) (p := kS f L e)
      unfold rF
      show (fX10_read_L22b n 162 (fX10_read_L22 n 162 q) (nI 80) S).bind _ = _
      rw [s1]
      show ((xgF tC 10 0 162 S).bind fun r18 => (xgF tC 10 0 162 S).bind fun r19 => (xgI tC 7 5 r19 S).bind fun v20 => (fX7_fail r18 ((6 : Int32)) v20 S).bind fun q21 => some ((-1 : Int32), q21.2)) = _
      unfold flC
      simp (disch := (first | assumption | omega | exact hB _ _ | exact hYB _ _ | (simp only [yc, yd, sh, sv, ne_eq]; omega) | (simp (disch := omega) only [↓nm_1, ↓nm_2, nI_add, pk_mul, pk_sub, Nat.add_sub_cancel, qm1_add, qm2_add, nI_clamp, ni_0, ni_1, i5, e2]; refine qin_nI ?_ ?_ <;> first | omega | exact hB _ _ | exact hYB _ _) | (refine qin_nI ?_ ?_ <;> omega) | fail)) only [↓kc0_gd, ↓kc0_gI, ↓kc0_gM, ↓kc0_pI, ↓kc0_pM, ↓kc0_pZ, ↓kc0_gF0, ↓kc0_gF4, ↓kc0_gF5, ↓kc0_gF6, ↓kc0_gF7, ↓kc0_gF8, ↓kc0_gF9, ↓kc0_gF10, ↓kc0_gF11, ↓kc0_gF12, ↓kc0_gF14, ↓kc1_al, ↓kc1_as, ↓kc1_ln, ↓kc41_gd, ↓kc41_gI, ↓kc41_gM, ↓kc41_pI, ↓kc41_pM, ↓kc41_pZ, ↓kc41_gF0, ↓kc41_gF1, ↓kc42_ql, ↓kc43_al, ↓kc43_as, ↓kc43_ln, ↓kc148_gd, ↓kc148_gI, ↓kc148_gM, ↓kc148_pI, ↓kc148_pM, ↓kc148_pZ, ↓kc148_gF0, ↓kc148_gF1, ↓kc148_gF2, ↓kc148_gF4, ↓kc148_gF5, ↓kc154_al, ↓kc154_as, ↓kc154_ln, ↓kc155_al, ↓kc155_as, ↓kc155_ln, ↓kc160_gd, ↓kc160_gI, ↓kc160_gM, ↓kc160_pI, ↓kc160_pM, ↓kc160_pZ, ↓kc160_gF0, ↓kc160_gF1, ↓kc161_al, ↓kc161_as, ↓kc161_ln, ↓kc162_gd, ↓kc162_gI, ↓kc162_gM, ↓kc162_pI, ↓kc162_pM, ↓kc162_pZ, ↓kc162_gF0, ↓kc162_gF1, ↓kc163_gd, ↓kc163_gI, ↓kc163_gM, ↓kc163_pI, ↓kc163_pM, ↓kc163_pZ, ↓kc163_gF0, ↓kc164_gd, ↓kc164_gI, ↓kc164_gM, ↓kc164_pI, ↓kc164_pM, ↓kc164_pZ, ↓kc164_gF0, ↓kc164_gF1, ↓kc164_gF2, ↓kc164_gF3, ↓kc165_al, ↓kc165_as, ↓kc165_ln, ↓kc166_al, ↓kc166_as, ↓kc166_ln, ↓kc167_al, ↓kc167_as, ↓kc167_ln, ↓kc168_al, ↓kc168_as, ↓kc168_ln, ↓kc169_gd, ↓kc169_gI, ↓kc169_gM, ↓kc169_pI, ↓kc169_pM, ↓kc169_pZ, ↓kc169_gF0, ↓kc169_gF2, ↓kc170_al, ↓kc170_as, ↓kc170_ln, ↓kc171_gd, ↓kc171_gI, ↓kc171_gM, ↓kc171_pI, ↓kc171_pM, ↓kc171_pZ, ↓kc171_gF5, ↓kc171_gF6, ↓kc171_gF7, ↓kc171_gF8, ↓kc172_al, ↓kc172_as, ↓kc172_ln, ↓kc173_al, ↓kc173_as, ↓kc173_ln, ↓kc174_al, ↓kc174_as, ↓kc174_ln, ↓kc175_al, ↓kc175_as, ↓kc175_ln, ↓kc176_al, ↓kc176_as, ↓kc176_ln, ↓kc177_al, ↓kc177_as, ↓kc177_ln, ↓qb_so, ↓nm_1, ↓nm_2, ↓reduceIte, if_true, if_false, not_true_eq_false, not_false_eq_true, and_true, true_and, and_false, false_and, or_true, true_or, or_false, false_or, eq_self, ne_eq, quI_s, quI_n, quI2, quL1, quL2, quL3, quR1, quR2, quR3, nI_add, pk_mul, pk_sub, Nat.add_sub_cancel, qm1_add, qm2_add, nI_leI, nI_ltI, nI_eq, nI_m1, nI_m1', nI_clamp, nI_bit, nI_one_shl, nI_m1l, nI_m1lt, nI_m1lt', nI_m1le', oI_some, oI_none, ni_0, ni_1, qle_t, qle_f, qlt_t, qlt_f, qeq_t, qeq_f, i5, e2]
    | k + 1, hk =>
      have c80' : ¬ c = 80 := by omega
      have h1 := c_stmt hn hb hJ.1 h
      show cRl S b f L (zB (zT f L Y cc e) fun x => zL f L k (c + 1) x.2.1 x.2.2 x.1) _
      unfold zT
      cases hz : zS f L Y cc e with
      | inl x =>
        obtain ⟨kd, pl⟩ := x
        rw [hz] at h1
        obtain ⟨Z, z1, z2, z3⟩ := h1
        refine ⟨Z, ?_, z2, z3⟩
        have s1 : fX10_read_L22b n 162 (fX10_read_L22 n 162 q) (nI c) S = some (.inr (qm1, Z)) := by
          simp (disch := (first | assumption | omega | exact hB _ _ | exact hYB _ _ | (simp only [yc, yd, sh, sv, ne_eq]; omega) | (simp (disch := omega) only [↓nm_1, ↓nm_2, nI_add, pk_mul, pk_sub, Nat.add_sub_cancel, qm1_add, qm2_add, nI_clamp, ni_0, ni_1, ni_59, ni_80, c80, j4, jn, c80', z1]; refine qin_nI ?_ ?_ <;> first | omega | exact hB _ _ | exact hYB _ _) | (refine qin_nI ?_ ?_ <;> omega) | fail)) only [↓kc0_gd, ↓kc0_gI, ↓kc0_gM, ↓kc0_pI, ↓kc0_pM, ↓kc0_pZ, ↓kc0_gF0, ↓kc0_gF4, ↓kc0_gF5, ↓kc0_gF6, ↓kc0_gF7, ↓kc0_gF8, ↓kc0_gF9, ↓kc0_gF10, ↓kc0_gF11, ↓kc0_gF12, ↓kc0_gF14, ↓kc1_al, ↓kc1_as, ↓kc1_ln, ↓kc41_gd, ↓kc41_gI, ↓kc41_gM, ↓kc41_pI, ↓kc41_pM, ↓kc41_pZ, ↓kc41_gF0, ↓kc41_gF1, ↓kc42_ql, ↓kc43_al, ↓kc43_as, ↓kc43_ln, ↓kc148_gd, ↓kc148_gI, ↓kc148_gM, ↓kc148_pI, ↓kc148_pM, ↓kc148_pZ, ↓kc148_gF0, ↓kc148_gF1, ↓kc148_gF2, ↓kc148_gF4, ↓kc148_gF5, ↓kc154_al, ↓kc154_as, ↓kc154_ln, ↓kc155_al, ↓kc155_as, ↓kc155_ln, ↓kc160_gd, ↓kc160_gI, ↓kc160_gM, ↓kc160_pI, ↓kc160_pM, ↓kc160_pZ, ↓kc160_gF0, ↓kc160_gF1, ↓kc161_al, ↓kc161_as, ↓kc161_ln, ↓kc162_gd, ↓kc162_gI, ↓kc162_gM, ↓kc162_pI, ↓kc162_pM, ↓kc162_pZ, ↓kc162_gF0, ↓kc162_gF1, ↓kc163_gd, ↓kc163_gI, ↓kc163_gM, ↓kc163_pI, ↓kc163_pM, ↓kc163_pZ, ↓kc163_gF0, ↓kc164_gd, ↓kc164_gI, ↓kc164_gM, ↓kc164_pI, ↓kc164_pM, ↓kc164_pZ, ↓kc164_gF0, ↓kc164_gF1, ↓kc164_gF2, ↓kc164_gF3, ↓kc165_al, ↓kc165_as, ↓kc165_ln, ↓kc166_al, ↓kc166_as, ↓kc166_ln, ↓kc167_al, ↓kc167_as, ↓kc167_ln, ↓kc168_al, ↓kc168_as, ↓kc168_ln, ↓kc169_gd, ↓kc169_gI, ↓kc169_gM, ↓kc169_pI, ↓kc169_pM, ↓kc169_pZ, ↓kc169_gF0, ↓kc169_gF2, ↓kc170_al, ↓kc170_as, ↓kc170_ln, ↓kc171_gd, ↓kc171_gI, ↓kc171_gM, ↓kc171_pI, ↓kc171_pM, ↓kc171_pZ, ↓kc171_gF5, ↓kc171_gF6, ↓kc171_gF7, ↓kc171_gF8, ↓kc172_al, ↓kc172_as, ↓kc172_ln, ↓kc173_al, ↓kc173_as, ↓kc173_ln, ↓kc174_al, ↓kc174_as, ↓kc174_ln, ↓kc175_al, ↓kc175_as, ↓kc175_ln, ↓kc176_al, ↓kc176_as, ↓kc176_ln, ↓kc177_al, ↓kc177_as, ↓kc177_ln, ↓qb_so, ↓nm_1, ↓nm_2, ↓reduceIte, if_true, if_false, not_true_eq_false, not_false_eq_true, and_true, true_and, and_false, false_and, or_true, true_or, or_false, false_or, eq_self, ne_eq, quI_s, quI_n, quI2, quL1, quL2, quL3, quR1, quR2, quR3, nI_add, pk_mul, pk_sub, Nat.add_sub_cancel, qm1_add, qm2_add, nI_leI, nI_ltI, nI_eq, nI_m1, nI_m1', nI_clamp, nI_bit, nI_one_shl, nI_m1l, nI_m1lt, nI_m1lt', nI_m1le', oI_some, oI_none, ni_0, ni_1, ni_59, ni_80, fX10_read_L22b, qle_t, qle_f, qlt_t, qlt_f, qeq_t, qeq_f, c80, j4, jn, c80', z1]
        unfold rF
        show (fX10_read_L22b n 162 (fX10_read_L22 n 162 q) (nI c) S).bind _ = _
        rw [s1]
        rfl
      | inr x =>
        obtain ⟨e1, Y1, cc1⟩ := x
        obtain ⟨mc', wc', hJ'⟩ := J_S hJ hL h.2.1 h.2.2.2.2.2.2.1 hz
        rw [hz] at h1
        obtain ⟨Z, z1, z2, z3⟩ := h1
        obtain ⟨a1, a2⟩ := c_takeSg hn z2.2.1 z2.1
        show cRl S b f L (zB (if ig f L e1 59 then .inr (kE f L e1, Y1, cc1) else .inl (1, kP f L e1)) fun x => zL f L k (c + 1) x.2.1 x.2.2 x.1) _
        by_cases hi : ig f L e1 59
        · rw [if_pos hi]
          obtain ⟨V, v1, v2, v3⟩ := a1 hi
          have s1 : fX10_read_L22b n 162 (fX10_read_L22 n 162 q) (nI c) S = fX10_read_L22 n 162 q (nI (c + 1)) V := by
            simp (disch := (first | assumption | omega | exact hB _ _ | exact hYB _ _ | (simp only [yc, yd, sh, sv, ne_eq]; omega) | (simp (disch := omega) only [↓nm_1, ↓nm_2, nI_add, pk_mul, pk_sub, Nat.add_sub_cancel, qm1_add, qm2_add, nI_clamp, ni_0, ni_1, ni_59, ni_80, c80, j4, jn, c80', z1, v1]; refine qin_nI ?_ ?_ <;> first | omega | exact hB _ _ | exact hYB _ _) | (refine qin_nI ?_ ?_ <;> omega) | fail)) only [↓kc0_gd, ↓kc0_gI, ↓kc0_gM, ↓kc0_pI, ↓kc0_pM, ↓kc0_pZ, ↓kc0_gF0, ↓kc0_gF4, ↓kc0_gF5, ↓kc0_gF6, ↓kc0_gF7, ↓kc0_gF8, ↓kc0_gF9, ↓kc0_gF10, ↓kc0_gF11, ↓kc0_gF12, ↓kc0_gF14, ↓kc1_al, ↓kc1_as, ↓kc1_ln, ↓kc41_gd, ↓kc41_gI, ↓kc41_gM, ↓kc41_pI, ↓kc41_pM, ↓kc41_pZ, ↓kc41_gF0, ↓kc41_gF1, ↓kc42_ql, ↓kc43_al, ↓kc43_as, ↓kc43_ln, ↓kc148_gd, ↓kc148_gI, ↓kc148_gM, ↓kc148_pI, ↓kc148_pM, ↓kc148_pZ, ↓kc148_gF0, ↓kc148_gF1, ↓kc148_gF2, ↓kc148_gF4, ↓kc148_gF5, ↓kc154_al, ↓kc154_as, ↓kc154_ln, ↓kc155_al, ↓kc155_as, ↓kc155_ln, ↓kc160_gd, ↓kc160_gI, ↓kc160_gM, ↓kc160_pI, ↓kc160_pM, ↓kc160_pZ, ↓kc160_gF0, ↓kc160_gF1, ↓kc161_al, ↓kc161_as, ↓kc161_ln, ↓kc162_gd, ↓kc162_gI, ↓kc162_gM, ↓kc162_pI, ↓kc162_pM, ↓kc162_pZ, ↓kc162_gF0, ↓kc162_gF1, ↓kc163_gd, ↓kc163_gI, ↓kc163_gM, ↓kc163_pI, ↓kc163_pM, ↓kc163_pZ, ↓kc163_gF0, ↓kc164_gd, ↓kc164_gI, ↓kc164_gM, ↓kc164_pI, ↓kc164_pM, ↓kc164_pZ, ↓kc164_gF0, ↓kc164_gF1, ↓kc164_gF2, ↓kc164_gF3, ↓kc165_al, ↓kc165_as, ↓kc165_ln, ↓kc166_al, ↓kc166_as, ↓kc166_ln, ↓kc167_al, ↓kc167_as, ↓kc167_ln, ↓kc168_al, ↓kc168_as, ↓kc168_ln, ↓kc169_gd, ↓kc169_gI, ↓kc169_gM, ↓kc169_pI, ↓kc169_pM, ↓kc169_pZ, ↓kc169_gF0, ↓kc169_gF2, ↓kc170_al, ↓kc170_as, ↓kc170_ln, ↓kc171_gd, ↓kc171_gI, ↓kc171_gM, ↓kc171_pI, ↓kc171_pM, ↓kc171_pZ, ↓kc171_gF5, ↓kc171_gF6, ↓kc171_gF7, ↓kc171_gF8, ↓kc172_al, ↓kc172_as, ↓kc172_ln, ↓kc173_al, ↓kc173_as, ↓kc173_ln, ↓kc174_al, ↓kc174_as, ↓kc174_ln, ↓kc175_al, ↓kc175_as, ↓kc175_ln, ↓kc176_al, ↓kc176_as, ↓kc176_ln, ↓kc177_al, ↓kc177_as, ↓kc177_ln, ↓qb_so, ↓nm_1, ↓nm_2, ↓reduceIte, if_true, if_false, not_true_eq_false, not_false_eq_true, and_true, true_and, and_false, false_and, or_true, true_or, or_false, false_or, eq_self, ne_eq, quI_s, quI_n, quI2, quL1, quL2, quL3, quR1, quR2, quR3, nI_add, pk_mul, pk_sub, Nat.add_sub_cancel, qm1_add, qm2_add, nI_leI, nI_ltI, nI_eq, nI_m1, nI_m1', nI_clamp, nI_bit, nI_one_shl, nI_m1l, nI_m1lt, nI_m1lt', nI_m1le', oI_some, oI_none, ni_0, ni_1, ni_59, ni_80, fX10_read_L22b, qle_t, qle_f, qlt_t, qlt_f, qeq_t, qeq_f, c80, j4, jn, c80', z1, v1]
          refine cRl_pre (frB_trans z3 (frB_K v3)) ?_
          have ih := c_loop hn hb k (c + 1) q Y1 cc1 mc' wc' V (kE f L e1) (by omega) (by omega) hJ' (mkC_K z2 v2 v3 hb)
          unfold rF at ih ⊢
          show cRl V b f L (zL f L k (c + 1) Y1 cc1 (kE f L e1)) ((fX10_read_L22b n 162 (fX10_read_L22 n 162 q) (nI c) S).bind _)
          rw [s1]
          exact ih
        · rw [if_neg hi]
          have hW1 : yWk Y1 := ⟨hJ'.1.2.2.2.1, hJ'.1.2.2.2.2.1, hJ'.1.2.2.2.2.2.2.1, hJ'.1.2.2.2.2.2.2.2.2.2.2.2.2.1, hJ'.1.2.2.2.2.2.2.2.2.2.2.2.2.2, hJ'.1.2.2.2.2.2.2.2.2.2.2.2.1⟩
          have v1 := a2 hi
          refine ⟨flC Z 1 (kP f L e1), ?_, ft_of hW1 z2.2.2.1 z2.2.2.2.1 hb, frB_trans z3 frB_fl⟩
          have s1 : fX10_read_L22b n 162 (fX10_read_L22 n 162 q) (nI c) S = some (.inr (qm1, flC Z 1 (kP f L e1))) := by
            simp (disch := (first | assumption | omega | exact hB _ _ | exact hYB _ _ | (simp only [yc, yd, sh, sv, ne_eq]; omega) | (simp (disch := omega) only [↓nm_1, ↓nm_2, nI_add, pk_mul, pk_sub, Nat.add_sub_cancel, qm1_add, qm2_add, nI_clamp, ni_0, ni_1, ni_59, ni_80, c80, j4, jn, c80', z1, v1]; refine qin_nI ?_ ?_ <;> first | omega | exact hB _ _ | exact hYB _ _) | (refine qin_nI ?_ ?_ <;> omega) | fail)) only [↓kc0_gd, ↓kc0_gI, ↓kc0_gM, ↓kc0_pI, ↓kc0_pM, ↓kc0_pZ, ↓kc0_gF0, ↓kc0_gF4, ↓kc0_gF5, ↓kc0_gF6, ↓kc0_gF7, ↓kc0_gF8, ↓kc0_gF9, ↓kc0_gF10, ↓kc0_gF11, ↓kc0_gF12, ↓kc0_gF14, ↓kc1_al, ↓kc1_as, ↓kc1_ln, ↓kc41_gd, ↓kc41_gI, ↓kc41_gM, ↓kc41_pI, ↓kc41_pM, ↓kc41_pZ, ↓kc41_gF0, ↓kc41_gF1, ↓kc42_ql, ↓kc43_al, ↓kc43_as, ↓kc43_ln, ↓kc148_gd, ↓kc148_gI, ↓kc148_gM, ↓kc148_pI, ↓kc148_pM, ↓kc148_pZ, ↓kc148_gF0, ↓kc148_gF1, ↓kc148_gF2, ↓kc148_gF4, ↓kc148_gF5, ↓kc154_al, ↓kc154_as, ↓kc154_ln, ↓kc155_al, ↓kc155_as, ↓kc155_ln, ↓kc160_gd, ↓kc160_gI, ↓kc160_gM, ↓kc160_pI, ↓kc160_pM, ↓kc160_pZ, ↓kc160_gF0, ↓kc160_gF1, ↓kc161_al, ↓kc161_as, ↓kc161_ln, ↓kc162_gd, ↓kc162_gI, ↓kc162_gM, ↓kc162_pI, ↓kc162_pM, ↓kc162_pZ, ↓kc162_gF0, ↓kc162_gF1, ↓kc163_gd, ↓kc163_gI, ↓kc163_gM, ↓kc163_pI, ↓kc163_pM, ↓kc163_pZ, ↓kc163_gF0, ↓kc164_gd, ↓kc164_gI, ↓kc164_gM, ↓kc164_pI, ↓kc164_pM, ↓kc164_pZ, ↓kc164_gF0, ↓kc164_gF1, ↓kc164_gF2, ↓kc164_gF3, ↓kc165_al, ↓kc165_as, ↓kc165_ln, ↓kc166_al, ↓kc166_as, ↓kc166_ln, ↓kc167_al, ↓kc167_as, ↓kc167_ln, ↓kc168_al, ↓kc168_as, ↓kc168_ln, ↓kc169_gd, ↓kc169_gI, ↓kc169_gM, ↓kc169_pI, ↓kc169_pM, ↓kc169_pZ, ↓kc169_gF0, ↓kc169_gF2, ↓kc170_al, ↓kc170_as, ↓kc170_ln, ↓kc171_gd, ↓kc171_gI, ↓kc171_gM, ↓kc171_pI, ↓kc171_pM, ↓kc171_pZ, ↓kc171_gF5, ↓kc171_gF6, ↓kc171_gF7, ↓kc171_gF8, ↓kc172_al, ↓kc172_as, ↓kc172_ln, ↓kc173_al, ↓kc173_as, ↓kc173_ln, ↓kc174_al, ↓kc174_as, ↓kc174_ln, ↓kc175_al, ↓kc175_as, ↓kc175_ln, ↓kc176_al, ↓kc176_as, ↓kc176_ln, ↓kc177_al, ↓kc177_as, ↓kc177_ln, ↓qb_so, ↓nm_1, ↓nm_2, ↓reduceIte, if_true, if_false, not_true_eq_false, not_false_eq_true, and_true, true_and, and_false, false_and, or_true, true_or, or_false, false_or, eq_self, ne_eq, quI_s, quI_n, quI2, quL1, quL2, quL3, quR1, quR2, quR3, nI_add, pk_mul, pk_sub, Nat.add_sub_cancel, qm1_add, qm2_add, nI_leI, nI_ltI, nI_eq, nI_m1, nI_m1', nI_clamp, nI_bit, nI_one_shl, nI_m1l, nI_m1lt, nI_m1lt', nI_m1le', oI_some, oI_none, ni_0, ni_1, ni_59, ni_80, fX10_read_L22b, qle_t, qle_f, qlt_t, qlt_f, qeq_t, qeq_f, c80, j4, jn, c80', z1, v1]
          unfold rF
          show (fX10_read_L22b n 162 (fX10_read_L22 n 162 q) (nI c) S).bind _ = _
          rw [s1]
          rfl
end Q9z6

