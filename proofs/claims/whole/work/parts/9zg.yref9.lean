/-! ===== the reference reads statements: jobs ===== -/
/-- how a statement of the reference answers R: as R says; or the fault is still to be told by what ends it; or it is told already -/
def mSp (S : xSt) (b : Nat) (f : Nat → Nat) (L : Nat) (R : ZS) (F : Option xSt) : Prop :=
  (match R with
  | .inl (kd, pl) => ∃ Z, F = some Z ∧ (0 < kd ∧ kd < 100) ∧ Z.1 0 8 = nI kd ∧ Z.1 0 9 = nI pl ∧ frG b S Z
  | .inr (e', Y', cc') => ∃ Z, F = some Z ∧ mkM Z b f L e' Y' cc' ∧ frG b S Z) ∨
  (∃ Z e', F = some Z ∧ tkM Z f L e' ∧ e' ≤ L ∧ Z.1 0 8 = nI 0 ∧ ¬ ig f L e' 59 ∧ R = .inl (1, kP f L e') ∧ frG b S Z) ∨
  (∃ Z e' Y' cc', F = some Z ∧ R = .inr (e', Y', cc') ∧ kW f L e' ≠ none ∧ Z.1 0 8 = nI 1 ∧ Z.1 0 9 = nI (kP f L e') ∧ frG b S Z)
section Q9zg
variable {S Z V W : xSt} {n L e m o b d t k a s w lo hi j r kd pl K : Nat} {u : Option Nat} {f : Nat → Nat} {cc mc wc : List (Nat × Nat)} {Y Y' : Nat → Nat → Nat} {F : Option xSt} {R : YS}
theorem mSp_of (h : mSo S b f L cc R F) : mSp S b f L (zPl R cc) F := by
  match R, h with
  | .inl (kd, pl), h => exact Or.inl h
  | .inr (e', Y'), h => exact Or.inl h
theorem mSp_pre {R : ZS} (h : frG b S Z) (h1 : mSp Z b f L R F) : mSp S b f L R F := by
  rcases h1 with h1 | ⟨V, e', x1, x2, x3, x4, x5, x6, x7⟩ | ⟨V, e', Y', cc', x1, x2, x3, x4, x5, x6⟩
  · match R, h1 with
    | .inl (kd, pl), ⟨V, x1, x2, x3, x4, x5⟩ => exact Or.inl ⟨V, x1, x2, x3, x4, frG_trans h x5⟩
    | .inr (e', Y', cc'), ⟨V, x1, x2, x3⟩ => exact Or.inl ⟨V, x1, x2, frG_trans h x3⟩
  · exact Or.inr (Or.inl ⟨V, e', x1, x2, x3, x4, x5, x6, frG_trans h x7⟩)
  · exact Or.inr (Or.inr ⟨V, e', Y', cc', x1, x2, x3, x4, x5, frG_trans h x6⟩)
theorem zSt_o : ∀ (k st : Nat) (Y : Nat → Nat → Nat) (e e' : Nat) (Y' : Nat → Nat → Nat), zSteps f L j k st Y e = .inr (e', Y') → st + k = 4 → (∀ j', j' ≠ j → Y' 9 j' = Y 9 j' ∧ ∀ s, s < 4 → Y' 10 (4 * j' + s) = Y 10 (4 * j' + s) ∧ Y' 11 (4 * j' + s) = Y 11 (4 * j' + s)) ∧ ∀ c, c ≠ 9 → c ≠ 10 → c ≠ 11 → Y' c = Y c
  | 0, st, Y, e, e', Y', h, _ => by cases h
  | k + 1, st, Y, e, e', Y', h, hst => by
    unfold zSteps at h
    obtain ⟨a, x1, h⟩ := zB_i h
    obtain ⟨r, x2, h⟩ := zB_i h
    have hc : (∀ j', j' ≠ j → dU (dU (dU Y 10 (4 * j + st) a.1) 11 (4 * j + st) r.1) 9 j (st + 1) 9 j' = Y 9 j' ∧ ∀ s, s < 4 → dU (dU (dU Y 10 (4 * j + st) a.1) 11 (4 * j + st) r.1) 9 j (st + 1) 10 (4 * j' + s) = Y 10 (4 * j' + s) ∧ dU (dU (dU Y 10 (4 * j + st) a.1) 11 (4 * j + st) r.1) 9 j (st + 1) 11 (4 * j' + s) = Y 11 (4 * j' + s)) ∧ ∀ c, c ≠ 9 → c ≠ 10 → c ≠ 11 → dU (dU (dU Y 10 (4 * j + st) a.1) 11 (4 * j + st) r.1) 9 j (st + 1) c = Y c :=
      ⟨fun j' hj => ⟨by rw [dU_j hj, dU_c (by decide), dU_c (by decide)], fun s hs => ⟨by rw [dU_c (by decide), dU_c (by decide), dU_j (by omega)], by rw [dU_c (by decide), dU_j (by omega), dU_c (by decide)]⟩⟩, fun c g1 g2 g3 => by funext x; rw [dU_c g1, dU_c g3, dU_c g2]⟩
    by_cases hT : kT f L r.2 = 1
    · rw [if_pos hT] at h
      obtain ⟨y1, y2⟩ := zSt_o k (st + 1) _ _ e' Y' h (by omega)
      exact ⟨fun j' hj => ⟨(y1 j' hj).1.trans (hc.1 j' hj).1, fun s hs => ⟨((y1 j' hj).2 s hs).1.trans ((hc.1 j' hj).2 s hs).1, ((y1 j' hj).2 s hs).2.trans ((hc.1 j' hj).2 s hs).2⟩⟩, fun c g1 g2 g3 => (y2 c g1 g2 g3).trans (hc.2 c g1 g2 g3)⟩
    · rw [if_neg hT] at h
      cases h
      exact hc
theorem jb_fin {c : Nat} (hb : b < 2) (hY : yrOk Y) (hf : Y 2 3 < 6) (h : mkM Z b f L e Y cc) (o1 : ∀ j', j' ≠ Y 2 3 → Y' 9 j' = Y 9 j' ∧ ∀ s, s < 4 → Y' 10 (4 * j' + s) = Y 10 (4 * j' + s) ∧ Y' 11 (4 * j' + s) = Y 11 (4 * j' + s)) (o2 : ∀ c, c ≠ 9 → c ≠ 10 → c ≠ 11 → Y' c = dU (s_gi Y 3 w) 8 (Y 2 3) d c) (h9 : Y' 9 (Y 2 3) = c) (hs : ∀ s, s < c → Z.1 13 (4 * (6 * b + Y 2 3) + s) = nI (Y' 10 (4 * Y 2 3 + s)) ∧ Z.1 14 (4 * (6 * b + Y 2 3) + s) = nI (Y' 11 (4 * Y 2 3 + s))) (h11 : Z.1 11 (6 * b + Y 2 3) = nI d) (hx : Z.2.1 26 (6 * b + Y 2 3) = lN (s_long w)) : mkM (xuI (xuI Z 12 (6 * b + Y 2 3) (nI c)) 10 b (nI (Y 2 3 + 1))) b f L e Y' cc := by
  obtain ⟨i0, i1, i2, i3, i4, i5, i6, i7, i10⟩ := h.2.2.2.2.2.2.2.1
  obtain ⟨c0, c1, c2, c3⟩ := hY.1
  have y2 : ∀ t, Y' 2 t = if t = 3 then Y 2 3 + 1 else Y 2 t := fun t => by
    rw [o2 2 (by decide) (by decide) (by decide), dU_c (by decide)]
    unfold s_gi
    by_cases ht : t = 3
    · subst ht; rw [dU_s, if_pos rfl]
    · rw [dU_j ht, dU_c (by decide), if_neg ht]
  have yo : ∀ c, c ≠ 9 → c ≠ 10 → c ≠ 11 → c ≠ 8 → c ≠ 1 → c ≠ 2 → Y' c = Y c := fun c g1 g2 g3 g4 g5 g6 => by
    rw [o2 c g1 g2 g3]; funext x; rw [dU_c g4, s_gi_c g5 g6]
  refine mkM_of h (tkM_same h.1 (fun k j hk => by rw [quI_k (by omega), quI_k (by omega)]) rfl) (Nat.le_refl _) h.2.1 (fun j hj => by rw [quI_k (by omega), quI_k (by omega)]) (fun k j x y => by rw [quI_k (by omega), quI_k (by omega)]) ?_ (yo 14 (by decide) (by decide) (by decide) (by decide) (by decide) (by decide))
  have kk : ∀ k j, k ≠ 12 → k ≠ 10 → (xuI (xuI Z 12 (6 * b + Y 2 3) (nI c)) 10 b (nI (Y 2 3 + 1))).1 k j = Z.1 k j := fun k j g1 g2 => by rw [quI_k (by omega), quI_k (by omega)]
  refine ⟨⟨?_, ?_, ?_, ?_⟩, ?_, ?_, ?_, fun j' hj => ?_, ?_, ?_, ?_, ?_⟩
  · rw [kk _ _ (by decide) (by decide), y2]; exact i0.1
  · rw [kk _ _ (by decide) (by decide), y2]; exact i0.2.1
  · rw [kk _ _ (by decide) (by decide), y2]; exact i0.2.2.1
  · rw [quI_e, y2, if_pos rfl]
  · intro k hk
    rw [y2] at hk
    rw [kk _ _ (by decide) (by decide), kk _ _ (by decide) (by decide), yo 3 (by decide) (by decide) (by decide) (by decide) (by decide) (by decide), yo 4 (by decide) (by decide) (by decide) (by decide) (by decide) (by decide)]
    exact i1 k hk
  · intro k hk
    rw [y2] at hk
    rw [kk _ _ (by decide) (by decide), kk _ _ (by decide) (by decide), yo 5 (by decide) (by decide) (by decide) (by decide) (by decide) (by decide), yo 6 (by decide) (by decide) (by decide) (by decide) (by decide) (by decide)]
    exact i2 k hk
  · intro g t hg ht
    rw [y2] at hg ht
    rw [kk _ _ (by decide) (by decide), yo 7 (by decide) (by decide) (by decide) (by decide) (by decide) (by decide)]
    exact i3 g t hg ht
  · rw [y2, if_pos rfl] at hj
    rw [kk 11 _ (by decide) (by decide), o2 8 (by decide) (by decide) (by decide)]
    by_cases hx : j' = Y 2 3
    · subst hx
      rw [dU_s, quI_k (by omega), quI_e, h9]
      refine ⟨h11, rfl, fun s hs2 => ?_⟩
      rw [kk 13 _ (by decide) (by decide), kk 14 _ (by decide) (by decide)]
      exact hs s hs2
    · have hi := i4 j' (by omega)
      have ho := o1 j' hx
      have h94 := (hY.2.2.2.2.2.1 j' (by omega)).2.1
      rw [dU_j hx, s_gi_c (by decide) (by decide), quI_k (by omega), quI_k (by omega), ho.1]
      refine ⟨hi.1, hi.2.1, fun s hs2 => ?_⟩
      rw [kk 13 _ (by decide) (by decide), kk 14 _ (by decide) (by decide), (ho.2 s (by omega)).1, (ho.2 s (by omega)).2]
      exact hi.2.2 s hs2
  · intro a c ha hc
    rw [y2] at ha hc
    rw [kk _ _ (by decide) (by decide), yo 12 (by decide) (by decide) (by decide) (by decide) (by decide) (by decide)]
    exact i5 a c ha hc
  · rw [kk _ _ (by decide) (by decide), kk _ _ (by decide) (by decide), yo 0 (by decide) (by decide) (by decide) (by decide) (by decide) (by decide)]; exact i6
  · rw [kk _ _ (by decide) (by decide), kk _ _ (by decide) (by decide), kk _ _ (by decide) (by decide), yo 0 (by decide) (by decide) (by decide) (by decide) (by decide) (by decide)]; exact i7
  · have hg := mN_gi (Z := Z) (s := 3) i10 (by decide) (by omega) (y88 hY) hx
    intro s i hs hi
    rw [o2 2 (by decide) (by decide) (by decide), dU_c (by decide)] at hi
    rw [o2 1 (by decide) (by decide) (by decide), dU_c (by decide)]
    exact hg s i hs hi
theorem j_flt (hn : 2000 ≤ n) (hk : k < 12) (h8 : S.1 0 8 = nI kd) (h0 : 0 < kd) (h1 : kd < 100) : fX12_jobbing_L87 n 0 (nI k) n (nI 0) (nI 1) S = some (nI 1, xuI (xuI S 13 (4 * k) (nI 0)) 14 (4 * k) (nI 0)) := by
  obtain ⟨n', hn'⟩ : ∃ n', n = n' + 1 := ⟨n - 1, by omega⟩
  have n1 := f_ask (n := n) (x := nI 0) (y := nI 0) h8 h0 h1
  have y8 : (xuI S 13 (4 * k) (nI 0)).1 0 8 = nI kd := by rw [quI_k (by omega)]; exact h8
  have n2 := f_num (n := n) (x := nI 1) (y := nI 9) y8 h0 h1
  have y8' : (xuI (xuI S 13 (4 * k) (nI 0)) 14 (4 * k) (nI 0)).1 0 8 = nI kd := by rw [quI_k (by omega)]; exact y8
  have t1 := jT_flt (n := n) (k := k) (q := n') (st := 0) (by omega) y8' h0 h1 (by decide)
  have m1 := m_jstp (n := n) (k := k) (q := n') (st := 0) (S := S) (by decide) hk
  have l1 : fX12_jobbing_L87 n 0 (nI k) n (nI 0) (nI 1) S = fX12_jobbing_L87b n 0 (nI k) (fX12_jobbing_L87 n 0 (nI k) n') (nI 0) (nI 1) S := by
    have : ∀ q, q = n' + 1 → fX12_jobbing_L87 n 0 (nI k) q (nI 0) (nI 1) S = fX12_jobbing_L87b n 0 (nI k) (fX12_jobbing_L87 n 0 (nI k) n') (nI 0) (nI 1) S := by
      intro q hq; subst hq; rfl
    exact this n hn'
  rw [l1, m1]
  simp (disch := (first | assumption | omega | exact hB _ _ | exact hYB _ _ | (simp only [yc, yd, sh, sv, ne_eq]; omega) | (simp (disch := omega) only [↓nm_1, ↓nm_2, nI_add, pk_mul, pk_sub, Nat.add_sub_cancel, qm1_add, qm2_add, nI_clamp, ni_0, ni_1, Nat.add_zero, n1, n2, t1]; refine qin_nI ?_ ?_ <;> first | omega | exact hB _ _ | exact hYB _ _) | (refine qin_nI ?_ ?_ <;> omega) | fail)) only [↓km0_gd, ↓km0_gI, ↓km0_gM, ↓km0_pI, ↓km0_pM, ↓km0_pZ, ↓km0_gL, ↓km0_pL, ↓km13_al, ↓km13_as, ↓km13_ln, ↓km14_al, ↓km14_as, ↓km14_ln, ↓qb_so, ↓nm_1, ↓nm_2, ↓reduceIte, if_true, if_false, not_true_eq_false, not_false_eq_true, and_true, true_and, and_false, false_and, or_true, true_or, or_false, false_or, eq_self, ne_eq, quI_s, quI_n, quI2, quL1, quL2, quL3, quR1, quR2, quR3, nI_add, pk_mul, pk_sub, Nat.add_sub_cancel, qm1_add, qm2_add, nI_leI, nI_ltI, nI_eq, nI_m1, nI_m1', nI_clamp, nI_bit, nI_one_shl, nI_m1l, nI_m1lt, nI_m1lt', nI_m1le', oI_some, oI_none, ni_0, ni_1, qle_t, qle_f, qlt_t, qlt_f, qeq_t, qeq_f, Nat.add_zero, n1, n2, t1]
theorem m_job (hn : 2000 ≤ n) (hb : b < 2) (hY : yrOk Y) (hN : yJn Y) (h : mkM S b f L e Y cc) : mSp S b f L (zPl (zJob f L Y e) cc) (fX12_jobbing n 0 S) := by
  have s40 := h.2.2.2.1
  have s2 := h.2.2.2.2.2.2.2.1.1.2.2.2
  obtain ⟨c0, c1, c2, c3⟩ := hY.1
  have hke := kE_from (f := f) h.2.1
  unfold zJob tO
  by_cases hf : 6 ≤ Y 2 3
  · rw [if_pos hf]
    have a1 := (mt_C (x := 1) hn h.2.1 h.1 h.2.2.1 (by decide)).1 rfl
    have hf6 : Y 2 3 = 6 := by omega
    rw [hf6] at s2
    refine Or.inl ⟨flR S 6 (kS f L e), ?_, ⟨by decide, by decide⟩, flR_8, flR_9, frG_fl⟩
    simp (disch := (first | assumption | omega | exact hB _ _ | exact hYB _ _ | (simp only [yc, yd, sh, sv, ne_eq]; omega) | (simp (disch := omega) only [↓nm_1, ↓nm_2, nI_add, pk_mul, pk_sub, Nat.add_sub_cancel, qm1_add, qm2_add, nI_clamp, ni_0, ni_1, ni_6, ni_999, s40, s2, a1]; refine qin_nI ?_ ?_ <;> first | omega | exact hB _ _ | exact hYB _ _) | (refine qin_nI ?_ ?_ <;> omega) | fail)) only [↓km0_gd, ↓km0_gI, ↓km0_gM, ↓km0_pI, ↓km0_pM, ↓km0_pZ, ↓km0_gL, ↓km0_pL, ↓km0_gF22, ↓km0_gF23, ↓km0_gF24, ↓km0_gF38, ↓km10_al, ↓km10_as, ↓km10_ln, ↓km11_al, ↓km11_as, ↓km11_ln, ↓km12_al, ↓km12_as, ↓km12_ln, ↓km26_ll, ↓km26_ls, ↓qb_so, ↓nm_1, ↓nm_2, ↓reduceIte, if_true, if_false, not_true_eq_false, not_false_eq_true, and_true, true_and, and_false, false_and, or_true, true_or, or_false, false_or, eq_self, ne_eq, quI_s, quI_n, quI2, quL1, quL2, quL3, quR1, quR2, quR3, nI_add, pk_mul, pk_sub, Nat.add_sub_cancel, qm1_add, qm2_add, nI_leI, nI_ltI, nI_eq, nI_m1, nI_m1', nI_clamp, nI_bit, nI_one_shl, nI_m1l, nI_m1lt, nI_m1lt', nI_m1le', oI_some, oI_none, ni_0, ni_1, ni_6, ni_999, fX12_jobbing, fX12_jobbing_B20, qle_t, qle_f, qlt_t, qlt_f, qeq_t, qeq_f, s40, s2, a1]
  rw [if_neg hf]
  have hf' : Y 2 3 < 6 := by omega
  have hf6 : ¬ Y 2 3 = 6 := by omega
  have hK : 6 * b + Y 2 3 < 12 := by omega
  have in26 : inb 26 b (6 * b + Y 2 3) := inb_ok (a := 6) rfl (by omega) (by omega)
  have in11 : inb 11 b (6 * b + Y 2 3) := inb_ok (a := 6) rfl (by omega) (by omega)
  have in12 : inb 12 b (6 * b + Y 2 3) := inb_ok (a := 6) rfl (by omega) (by omega)
  have in13 : inb 13 b (4 * (6 * b + Y 2 3)) := inb_ok (a := 24) rfl (by omega) (by omega)
  have in14 : inb 14 b (4 * (6 * b + Y 2 3)) := inb_ok (a := 24) rfl (by omega) (by omega)
  obtain ⟨A, a1, a2, a3⟩ := (mt_C (x := 0) hn h.2.1 h.1 h.2.2.1 (by decide)).2 rfl
  have hA := mkM_M h hY a2 hke.1 hke.2 a3
  have A40 := hA.2.2.2.1
  have A2 := hA.2.2.2.2.2.2.2.1.1.2.2.2
  refine mSp_pre (frG_M a3) ?_
  show mSp A b f L (zPl (zB (tF f L Y (kE f L e)) _) cc) _
  have b1 := mt_F hn hb hY hN A40 hA.2.2.2.2.2.2.2.1 hke.2 a2 hA.2.2.1
  -- the rest, where a fault stands
  have rest : ∀ {T : xSt} {v : Int32} {kd pl : Nat}, 0 < kd → kd < 100 → T.1 0 8 = nI kd → T.1 0 9 = nI pl → ∃ Z, ((xas tM 11 (nI (6 * b + Y 2 3)) v T).bind fun S16 => (fX12_must_ n 0 ((1685022067 : Int64)) S16).bind fun S17 => (fX12_jobbing_L87 n 0 (nI (6 * b + Y 2 3)) n (nI 0) (nI 1) S17).bind fun z39 => (xas tM 12 (nI (6 * b + Y 2 3)) z39.1 z39.2).bind fun S41 => if S41.1 0 8 = nI 0 then (xal tM 10 (S41.1 0 40) S41).bind fun v45 => (xas tM 10 (S41.1 0 40) (v45 + nI 1) S41).bind fun S46 => some S46 else some S41) = some Z ∧ Z.1 0 8 = nI kd ∧ Z.1 0 9 = nI pl ∧ frG b T Z := by
    intro T v kd pl k0 k1 t8 t9
    have kn : ¬ kd = 0 := by omega
    have y8 : (xuI T 11 (6 * b + Y 2 3) v).1 0 8 = nI kd := by rw [quI_k (by omega)]; exact t8
    have n1 := f_must_ (n := n) (x := 1685022067) y8 k0 k1
    have n2 := j_flt (n := n) hn hK y8 k0 k1
    have z8 : (xuI (xuI (xuI (xuI T 11 (6 * b + Y 2 3) v) 13 (4 * (6 * b + Y 2 3)) (nI 0)) 14 (4 * (6 * b + Y 2 3)) (nI 0)) 12 (6 * b + Y 2 3) (nI 1)).1 0 8 = nI kd := by rw [quI_k (by omega), quI_k (by omega), quI_k (by omega)]; exact y8
    refine ⟨xuI (xuI (xuI (xuI T 11 (6 * b + Y 2 3) v) 13 (4 * (6 * b + Y 2 3)) (nI 0)) 14 (4 * (6 * b + Y 2 3)) (nI 0)) 12 (6 * b + Y 2 3) (nI 1), ?_, z8, by rw [quI_k (by omega), quI_k (by omega), quI_k (by omega), quI_k (by omega)]; exact t9, frG_trans (frG_up (by decide) in11) (frG_trans (frG_up (by decide) in13) (frG_trans (frG_up (by decide) in14) (frG_up (by decide) in12)))⟩
    simp (disch := (first | assumption | omega | exact hB _ _ | exact hYB _ _ | (simp only [yc, yd, sh, sv, ne_eq]; omega) | (simp (disch := omega) only [↓nm_1, ↓nm_2, nI_add, pk_mul, pk_sub, Nat.add_sub_cancel, qm1_add, qm2_add, nI_clamp, ni_0, ni_1, n1, n2, z8, t8, kn]; refine qin_nI ?_ ?_ <;> first | omega | exact hB _ _ | exact hYB _ _) | (refine qin_nI ?_ ?_ <;> omega) | fail)) only [↓km0_gd, ↓km0_gI, ↓km0_gM, ↓km0_pI, ↓km0_pM, ↓km0_pZ, ↓km0_gL, ↓km0_pL, ↓km10_al, ↓km10_as, ↓km10_ln, ↓km11_al, ↓km11_as, ↓km11_ln, ↓km12_al, ↓km12_as, ↓km12_ln, ↓qb_so, ↓nm_1, ↓nm_2, ↓reduceIte, if_true, if_false, not_true_eq_false, not_false_eq_true, and_true, true_and, and_false, false_and, or_true, true_or, or_false, false_or, eq_self, ne_eq, quI_s, quI_n, quI2, quL1, quL2, quL3, quR1, quR2, quR3, nI_add, pk_mul, pk_sub, Nat.add_sub_cancel, qm1_add, qm2_add, nI_leI, nI_ltI, nI_eq, nI_m1, nI_m1', nI_clamp, nI_bit, nI_one_shl, nI_m1l, nI_m1lt, nI_m1lt', nI_m1le', oI_some, oI_none, ni_0, ni_1, qle_t, qle_f, qlt_t, qlt_f, qeq_t, qeq_f, n1, n2, z8, t8, kn]
  cases h1 : tF f L Y (kE f L e) with
  | inl x =>
    obtain ⟨kd, pl⟩ := x
    rw [h1] at b1
    obtain ⟨⟨k0, k1⟩, v, b2⟩ := b1
    have y8 : (xuL (flR A kd pl) 26 (6 * b + Y 2 3) v).1 0 8 = nI kd := flR_8 (S := A) (kd := kd) (pl := pl)
    have y9 : (xuL (flR A kd pl) 26 (6 * b + Y 2 3) v).1 0 9 = nI pl := flR_9 (S := A) (kd := kd) (pl := pl)
    have n0 := f_must_ (n := n) (x := 25209) y8 k0 k1
    have n1 := f_num (n := n) (x := nI 0) (y := nI 999) y8 k0 k1
    obtain ⟨Z, z1, z2, z3, z4⟩ := rest (v := nI 0) k0 k1 y8 y9
    refine Or.inl ⟨Z, ?_, ⟨k0, k1⟩, z2, z3, frG_trans frG_fl (frG_trans (frG_upL (by decide) in26) z4)⟩
    rw [← z1]
    simp (maxSteps := 3000000) (disch := (first | assumption | omega | exact hB _ _ | exact hYB _ _ | (simp only [yc, yd, sh, sv, ne_eq]; omega) | (simp (disch := omega) only [↓nm_1, ↓nm_2, nI_add, pk_mul, pk_sub, Nat.add_sub_cancel, qm1_add, qm2_add, nI_clamp, ni_0, ni_1, ni_6, ni_999, s40, s2, hf6, a1, A40, A2, b2, n0, n1]; refine qin_nI ?_ ?_ <;> first | omega | exact hB _ _ | exact hYB _ _) | (refine qin_nI ?_ ?_ <;> omega) | fail)) only [↓km0_gd, ↓km0_gI, ↓km0_gM, ↓km0_pI, ↓km0_pM, ↓km0_pZ, ↓km0_gL, ↓km0_pL, ↓km0_gF22, ↓km0_gF23, ↓km0_gF24, ↓km0_gF38, ↓km10_al, ↓km10_as, ↓km10_ln, ↓km11_al, ↓km11_as, ↓km11_ln, ↓km12_al, ↓km12_as, ↓km12_ln, ↓km26_ll, ↓km26_ls, ↓qb_so, ↓nm_1, ↓nm_2, ↓reduceIte, if_true, if_false, not_true_eq_false, not_false_eq_true, and_true, true_and, and_false, false_and, or_true, true_or, or_false, false_or, eq_self, ne_eq, quI_s, quI_n, quI2, quL1, quL2, quL3, quR1, quR2, quR3, nI_add, pk_mul, pk_sub, Nat.add_sub_cancel, qm1_add, qm2_add, nI_leI, nI_ltI, nI_eq, nI_m1, nI_m1', nI_clamp, nI_bit, nI_one_shl, nI_m1l, nI_m1lt, nI_m1lt', nI_m1le', oI_some, oI_none, ni_0, ni_1, ni_6, ni_999, fX12_jobbing, fX12_jobbing_B20, qle_t, qle_f, qlt_t, qlt_f, qeq_t, qeq_f, s40, s2, hf6, a1, A40, A2, b2, n0, n1]
  | inr x =>
    obtain ⟨w, e1⟩ := x
    rw [h1] at b1
    obtain ⟨B, b2, b3, b4, b5, b6⟩ := b1
    have hB0 := mkM_M hA hY b3 b5 b4 b6
    have hB : mkM (xuL B 26 (6 * b + Y 2 3) (lN (s_long w))) b f L e1 Y cc := mkM_nm (s := 3) hB0 hY (by decide)
    have hx : (xuL B 26 (6 * b + Y 2 3) (lN (s_long w))).2.1 26 (6 * b + Y 2 3) = lN (s_long w) := by unfold xuL; simp only [if_true]
    refine mSp_pre (frG_trans (frG_M b6) (frG_upL (k := 26) (j := 6 * b + Y 2 3) (x := lN (s_long w)) (by decide) in26)) ?_
    revert hB hx
    generalize hC : xuL B 26 (6 * b + Y 2 3) (lN (s_long w)) = C
    intro hB hx
    have g1 := mt_W (k := 9) hn hB.2.1 hB.1 hB.2.2.1 (by decide)
    have q0 : fX12_jobbing n 0 S = (fX12_must_ n 0 ((25209 : Int64)) C).bind fun S13 => (fX12_number n 0 (nI 0) (nI 999) S13).bind fun q15 => (xas tM 11 (nI (6 * b + Y 2 3)) q15.1 q15.2).bind fun S16 => (fX12_must_ n 0 ((1685022067 : Int64)) S16).bind fun S17 => (fX12_jobbing_L87 n 0 (nI (6 * b + Y 2 3)) n (nI 0) (nI 1) S17).bind fun z39 => (xas tM 12 (nI (6 * b + Y 2 3)) z39.1 z39.2).bind fun S41 => if S41.1 0 8 = nI 0 then (xal tM 10 (S41.1 0 40) S41).bind fun v45 => (xas tM 10 (S41.1 0 40) (v45 + nI 1) S41).bind fun S46 => some S46 else some S41 := by
      simp (maxSteps := 3000000) (disch := (first | assumption | omega | exact hB _ _ | exact hYB _ _ | (simp only [yc, yd, sh, sv, ne_eq]; omega) | (simp (disch := omega) only [↓nm_1, ↓nm_2, nI_add, pk_mul, pk_sub, Nat.add_sub_cancel, qm1_add, qm2_add, nI_clamp, ni_0, ni_1, ni_6, ni_999, s40, s2, hf6, a1, A40, A2, b2, hC]; refine qin_nI ?_ ?_ <;> first | omega | exact hB _ _ | exact hYB _ _) | (refine qin_nI ?_ ?_ <;> omega) | fail)) only [↓km0_gd, ↓km0_gI, ↓km0_gM, ↓km0_pI, ↓km0_pM, ↓km0_pZ, ↓km0_gL, ↓km0_pL, ↓km0_gF22, ↓km0_gF23, ↓km0_gF24, ↓km0_gF38, ↓km10_al, ↓km10_as, ↓km10_ln, ↓km11_al, ↓km11_as, ↓km11_ln, ↓km12_al, ↓km12_as, ↓km12_ln, ↓km26_ll, ↓km26_ls, ↓qb_so, ↓nm_1, ↓nm_2, ↓reduceIte, if_true, if_false, not_true_eq_false, not_false_eq_true, and_true, true_and, and_false, false_and, or_true, true_or, or_false, false_or, eq_self, ne_eq, quI_s, quI_n, quI2, quL1, quL2, quL3, quR1, quR2, quR3, nI_add, pk_mul, pk_sub, Nat.add_sub_cancel, qm1_add, qm2_add, nI_leI, nI_ltI, nI_eq, nI_m1, nI_m1', nI_clamp, nI_bit, nI_one_shl, nI_m1l, nI_m1lt, nI_m1lt', nI_m1le', oI_some, oI_none, ni_0, ni_1, ni_6, ni_999, fX12_jobbing, fX12_jobbing_B20, qle_t, qle_f, qlt_t, qlt_f, qeq_t, qeq_f, s40, s2, hf6, a1, A40, A2, b2, hC]
    rw [q0]
    show mSp C b f L (zPl (zB (tW f L 9 e1) fun e => zB (tN f L 0 999 e) fun d => zB (tW f L 10 d.2) fun e => zSteps f L (Y 2 3) 4 0 (dU (s_gi Y 3 w) 8 (Y 2 3) d.1) e) cc) _
    cases h2 : tW f L 9 e1 with
    | inl x =>
      obtain ⟨kd, pl⟩ := x
      rw [h2] at g1
      obtain ⟨⟨k0, k1⟩, g2⟩ := g1
      have g2' : fX12_must_ n 0 (25209 : Int64) C = some (flR C kd pl) := g2
      have n1 := f_num (n := n) (x := nI 0) (y := nI 999) (flR_8 (S := C) (kd := kd) (pl := pl)) k0 k1
      obtain ⟨Z, z1, z2, z3, z4⟩ := rest (v := nI 0) k0 k1 (flR_8 (S := C) (kd := kd) (pl := pl)) (flR_9 (S := C) (kd := kd) (pl := pl))
      refine Or.inl ⟨Z, ?_, ⟨k0, k1⟩, z2, z3, frG_trans frG_fl z4⟩
      rw [← z1, g2']
      show (fX12_number n 0 (nI 0) (nI 999) (flR C kd pl)).bind _ = _
      rw [n1]
      rfl
    | inr e2 =>
      rw [h2] at g1
      obtain ⟨D, g2, g3, g4, g5, g6⟩ := g1
      have g2' : fX12_must_ n 0 (25209 : Int64) C = some D := g2
      have hD := mkM_M hB hY g3 g5 g4 g6
      have hxD : D.2.1 26 (6 * b + Y 2 3) = lN (s_long w) := by rw [g6.2.1 _ _ (by omega)]; exact hx
      refine mSp_pre (frG_M g6) ?_
      rw [g2']
      have k1 := mt_N (lo := 0) (hi := 999) hn g4 g3 hD.2.2.1 (by decide) (by decide)
      show mSp D b f L (zPl (zB (tN f L 0 999 e2) fun d => zB (tW f L 10 d.2) fun e => zSteps f L (Y 2 3) 4 0 (dU (s_gi Y 3 w) 8 (Y 2 3) d.1) e) cc) ((fX12_number n 0 (nI 0) (nI 999) D).bind _)
      cases h3 : tN f L 0 999 e2 with
      | inl x =>
        obtain ⟨kd, pl⟩ := x
        rw [h3] at k1
        obtain ⟨⟨k0, k1'⟩, v, k2⟩ := k1
        obtain ⟨Z, z1, z2, z3, z4⟩ := rest (v := v) k0 k1' (flR_8 (S := D) (kd := kd) (pl := pl)) (flR_9 (S := D) (kd := kd) (pl := pl))
        refine Or.inl ⟨Z, ?_, ⟨k0, k1'⟩, z2, z3, frG_trans frG_fl z4⟩
        rw [← z1, k2]
        rfl
      | inr x =>
        obtain ⟨d, e3⟩ := x
        rw [h3] at k1
        obtain ⟨E, k2, k3, k4, k5, k6⟩ := k1
        have hE0 := mkM_M hD hY k3 k5 k4 k6
        have hE : mkM (xuI E 11 (6 * b + Y 2 3) (nI d)) b f L e3 Y cc := mkM_fr hE0 hY (by decide) (by unfold vis; omega)
        have hxE : (xuI E 11 (6 * b + Y 2 3) (nI d)).2.1 26 (6 * b + Y 2 3) = lN (s_long w) := by show E.2.1 26 _ = _; rw [k6.2.1 _ _ (by omega)]; exact hxD
        have hx11 : (xuI E 11 (6 * b + Y 2 3) (nI d)).1 11 (6 * b + Y 2 3) = nI d := quI_e
        refine mSp_pre (frG_trans (frG_M k6) (frG_up (k := 11) (j := 6 * b + Y 2 3) (x := nI d) (by decide) in11)) ?_
        have q1 : ∀ {β : Type} (g : xSt → Option β), (xas tM 11 (nI (6 * b + Y 2 3)) (nI d) E).bind g = g (xuI E 11 (6 * b + Y 2 3) (nI d)) := fun g => by
          simp (disch := (first | assumption | omega | exact hB _ _ | exact hYB _ _ | (simp only [yc, yd, sh, sv, ne_eq]; omega) | (simp (disch := omega) only [↓nm_1, ↓nm_2, nI_add, pk_mul, pk_sub, Nat.add_sub_cancel, qm1_add, qm2_add, nI_clamp, ni_0, ni_1]; refine qin_nI ?_ ?_ <;> first | omega | exact hB _ _ | exact hYB _ _) | (refine qin_nI ?_ ?_ <;> omega) | fail)) only [↓km0_gd, ↓km0_gI, ↓km0_gM, ↓km0_pI, ↓km0_pM, ↓km0_pZ, ↓km0_gL, ↓km0_pL, ↓km11_al, ↓km11_as, ↓km11_ln, ↓qb_so, ↓nm_1, ↓nm_2, ↓reduceIte, if_true, if_false, not_true_eq_false, not_false_eq_true, and_true, true_and, and_false, false_and, or_true, true_or, or_false, false_or, eq_self, ne_eq, quI_s, quI_n, quI2, quL1, quL2, quL3, quR1, quR2, quR3, nI_add, pk_mul, pk_sub, Nat.add_sub_cancel, qm1_add, qm2_add, nI_leI, nI_ltI, nI_eq, nI_m1, nI_m1', nI_clamp, nI_bit, nI_one_shl, nI_m1l, nI_m1lt, nI_m1lt', nI_m1le', oI_some, oI_none, ni_0, ni_1, qle_t, qle_f, qlt_t, qlt_f, qeq_t, qeq_f]
        rw [k2]
        show mSp _ b f L _ ((xas tM 11 (nI (6 * b + Y 2 3)) (nI d) E).bind _)
        rw [q1]
        revert hE hxE hx11
        generalize xuI E 11 (6 * b + Y 2 3) (nI d) = G
        intro hG hxG hx11
        have l1 := mt_W (k := 10) hn hG.2.1 hG.1 hG.2.2.1 (by decide)
        show mSp G b f L (zPl (zB (tW f L 10 e3) fun e => zSteps f L (Y 2 3) 4 0 (dU (s_gi Y 3 w) 8 (Y 2 3) d) e) cc) _
        cases h4 : tW f L 10 e3 with
        | inl x =>
          obtain ⟨kd, pl⟩ := x
          rw [h4] at l1
          obtain ⟨⟨k0, k1'⟩, l2⟩ := l1
          have l2' : fX12_must_ n 0 (1685022067 : Int64) G = some (flR G kd pl) := l2
          have kn : ¬ kd = 0 := by omega
          have n2 := j_flt (n := n) hn hK (flR_8 (S := G) (kd := kd) (pl := pl)) k0 k1'
          have z8 : (xuI (xuI (xuI (flR G kd pl) 13 (4 * (6 * b + Y 2 3)) (nI 0)) 14 (4 * (6 * b + Y 2 3)) (nI 0)) 12 (6 * b + Y 2 3) (nI 1)).1 0 8 = nI kd := by rw [quI_k (by omega), quI_k (by omega), quI_k (by omega)]; exact flR_8
          have f8 : (flR G kd pl).1 0 8 = nI kd := flR_8
          refine Or.inl ⟨xuI (xuI (xuI (flR G kd pl) 13 (4 * (6 * b + Y 2 3)) (nI 0)) 14 (4 * (6 * b + Y 2 3)) (nI 0)) 12 (6 * b + Y 2 3) (nI 1), ?_, ⟨k0, k1'⟩, z8, by rw [quI_k (by omega), quI_k (by omega), quI_k (by omega)]; exact flR_9, frG_trans frG_fl (frG_trans (frG_up (by decide) in13) (frG_trans (frG_up (by decide) in14) (frG_up (by decide) in12)))⟩
          simp (disch := (first | assumption | omega | exact hB _ _ | exact hYB _ _ | (simp only [yc, yd, sh, sv, ne_eq]; omega) | (simp (disch := omega) only [↓nm_1, ↓nm_2, nI_add, pk_mul, pk_sub, Nat.add_sub_cancel, qm1_add, qm2_add, nI_clamp, ni_0, ni_1, l2', n2, f8, kn]; refine qin_nI ?_ ?_ <;> first | omega | exact hB _ _ | exact hYB _ _) | (refine qin_nI ?_ ?_ <;> omega) | fail)) only [↓km0_gd, ↓km0_gI, ↓km0_gM, ↓km0_pI, ↓km0_pM, ↓km0_pZ, ↓km0_gL, ↓km0_pL, ↓km10_al, ↓km10_as, ↓km10_ln, ↓km12_al, ↓km12_as, ↓km12_ln, ↓qb_so, ↓nm_1, ↓nm_2, ↓reduceIte, if_true, if_false, not_true_eq_false, not_false_eq_true, and_true, true_and, and_false, false_and, or_true, true_or, or_false, false_or, eq_self, ne_eq, quI_s, quI_n, quI2, quL1, quL2, quL3, quR1, quR2, quR3, nI_add, pk_mul, pk_sub, Nat.add_sub_cancel, qm1_add, qm2_add, nI_leI, nI_ltI, nI_eq, nI_m1, nI_m1', nI_clamp, nI_bit, nI_one_shl, nI_m1l, nI_m1lt, nI_m1lt', nI_m1le', oI_some, oI_none, ni_0, ni_1, qle_t, qle_f, qlt_t, qlt_f, qeq_t, qeq_f, l2', n2, f8, kn]
        | inr e4 =>
          rw [h4] at l1
          obtain ⟨H, l2, l3, l4, l5, l6⟩ := l1
          have l2' : fX12_must_ n 0 (1685022067 : Int64) G = some H := l2
          have hH := mkM_M hG hY l3 l5 l4 l6
          have hxH : H.2.1 26 (6 * b + Y 2 3) = lN (s_long w) := by rw [l6.2.1 _ _ (by omega)]; exact hxG
          have h11H : H.1 11 (6 * b + Y 2 3) = nI d := by rw [l6.1 _ _ (by omega)]; exact hx11
          refine mSp_pre (frG_M l6) ?_
          rw [l2']
          have o1 := m_steps hn hb hY hN hf' 4 0 n (dU (s_gi Y 3 w) 8 (Y 2 3) d) H e4 (by decide) (by decide) (by omega) hH (fun j => by
            by_cases hj : 8 ≤ j
            · exact Or.inr hj
            · left; rw [dU_c (by decide)]; unfold s_gi; rw [dU_c (by decide), dU_j (by omega)]) (by rw [dU_c (by decide), s_gi_2 (by decide)]) (fun s hs => absurd hs (by omega))
          show mSp H b f L (zPl (zSteps f L (Y 2 3) 4 0 (dU (s_gi Y 3 w) 8 (Y 2 3) d) e4) cc) ((fX12_jobbing_L87 n 0 (nI (6 * b + Y 2 3)) n (nI 0) (nI 1) H).bind _)
          cases h5 : zSteps f L (Y 2 3) 4 0 (dU (s_gi Y 3 w) 8 (Y 2 3) d) e4 with
          | inl x =>
            obtain ⟨kd, pl⟩ := x
            rw [h5] at o1
            rcases o1 with ⟨c, Z, z1, zc, ⟨k0, k1'⟩, z2, z3, z4, z5, z6⟩ | ⟨c, Z, e', z1, zc, z2, z3, z4, z5, z6⟩
            · have kn : ¬ kd = 0 := by omega
              have z8 : (xuI Z 12 (6 * b + Y 2 3) (nI c)).1 0 8 = nI kd := by rw [quI_k (by omega)]; exact z2
              refine Or.inl ⟨xuI Z 12 (6 * b + Y 2 3) (nI c), ?_, ⟨k0, k1'⟩, z8, by rw [quI_k (by omega)]; exact z3, frG_trans z4 (frG_up (by decide) in12)⟩
              simp (disch := (first | assumption | omega | exact hB _ _ | exact hYB _ _ | (simp only [yc, yd, sh, sv, ne_eq]; omega) | (simp (disch := omega) only [↓nm_1, ↓nm_2, nI_add, pk_mul, pk_sub, Nat.add_sub_cancel, qm1_add, qm2_add, nI_clamp, ni_0, ni_1, z1, z2, kn]; refine qin_nI ?_ ?_ <;> first | omega | exact hB _ _ | exact hYB _ _) | (refine qin_nI ?_ ?_ <;> omega) | fail)) only [↓km0_gd, ↓km0_gI, ↓km0_gM, ↓km0_pI, ↓km0_pM, ↓km0_pZ, ↓km0_gL, ↓km0_pL, ↓km10_al, ↓km10_as, ↓km10_ln, ↓km12_al, ↓km12_as, ↓km12_ln, ↓qb_so, ↓nm_1, ↓nm_2, ↓reduceIte, if_true, if_false, not_true_eq_false, not_false_eq_true, and_true, true_and, and_false, false_and, or_true, true_or, or_false, false_or, eq_self, ne_eq, quI_s, quI_n, quI2, quL1, quL2, quL3, quR1, quR2, quR3, nI_add, pk_mul, pk_sub, Nat.add_sub_cancel, qm1_add, qm2_add, nI_leI, nI_ltI, nI_eq, nI_m1, nI_m1', nI_clamp, nI_bit, nI_one_shl, nI_m1l, nI_m1lt, nI_m1lt', nI_m1le', oI_some, oI_none, ni_0, ni_1, qle_t, qle_f, qlt_t, qlt_f, qeq_t, qeq_f, z1, z2, kn]
            · have z8 := z2.2.2.1
              have z40 := z2.2.2.2.1
              have z10 := z2.2.2.2.2.2.2.2.1.1.2.2.2
              refine Or.inr (Or.inl ⟨xuI (xuI Z 12 (6 * b + Y 2 3) (nI c)) 10 b (nI (Y 2 3 + 1)), e', ?_, tkM_same z2.1 (fun k j hk => by rw [quI_k (by omega), quI_k (by omega)]) rfl, z2.2.1, by rw [quI_k (by omega), quI_k (by omega)]; exact z8, z3, by rw [z4, z5]; rfl, frG_trans z6 (frG_trans (frG_up (by decide) in12) (frG_up (by decide) (inb_ok (a := 1) rfl (by omega) (by omega))))⟩)
              simp (disch := (first | assumption | omega | exact hB _ _ | exact hYB _ _ | (simp only [yc, yd, sh, sv, ne_eq]; omega) | (simp (disch := omega) only [↓nm_1, ↓nm_2, nI_add, pk_mul, pk_sub, Nat.add_sub_cancel, qm1_add, qm2_add, nI_clamp, ni_0, ni_1, z1, z8, z40, z10]; refine qin_nI ?_ ?_ <;> first | omega | exact hB _ _ | exact hYB _ _) | (refine qin_nI ?_ ?_ <;> omega) | fail)) only [↓km0_gd, ↓km0_gI, ↓km0_gM, ↓km0_pI, ↓km0_pM, ↓km0_pZ, ↓km0_gL, ↓km0_pL, ↓km10_al, ↓km10_as, ↓km10_ln, ↓km12_al, ↓km12_as, ↓km12_ln, ↓qb_so, ↓nm_1, ↓nm_2, ↓reduceIte, if_true, if_false, not_true_eq_false, not_false_eq_true, and_true, true_and, and_false, false_and, or_true, true_or, or_false, false_or, eq_self, ne_eq, quI_s, quI_n, quI2, quL1, quL2, quL3, quR1, quR2, quR3, nI_add, pk_mul, pk_sub, Nat.add_sub_cancel, qm1_add, qm2_add, nI_leI, nI_ltI, nI_eq, nI_m1, nI_m1', nI_clamp, nI_bit, nI_one_shl, nI_m1l, nI_m1lt, nI_m1lt', nI_m1le', oI_some, oI_none, ni_0, ni_1, qle_t, qle_f, qlt_t, qlt_f, qeq_t, qeq_f, z1, z8, z40, z10]
          | inr x =>
            obtain ⟨e', Y'⟩ := x
            obtain ⟨p1, p2⟩ := zSt_o 4 0 _ _ _ _ h5 (by decide)
            rw [h5] at o1
            obtain ⟨c, Z, z1, zc, z2, z3, z4, z5, z6, z7⟩ := o1
            have z8 := z2.2.2.1
            have z40 := z2.2.2.2.1
            have z10 := z2.2.2.2.2.2.2.2.1.1.2.2.2
            refine Or.inl ⟨xuI (xuI Z 12 (6 * b + Y 2 3) (nI c)) 10 b (nI (Y 2 3 + 1)), ?_, jb_fin hb hY hf' z2 (fun j' hj => ?_) p2 z4 z5 (by rw [z6]; exact h11H) (by rw [z7 _ _ (by decide)]; exact hxH), frG_trans z3 (frG_trans (frG_up (by decide) in12) (frG_up (by decide) (inb_ok (a := 1) rfl (by omega) (by omega))))⟩
            · simp (disch := (first | assumption | omega | exact hB _ _ | exact hYB _ _ | (simp only [yc, yd, sh, sv, ne_eq]; omega) | (simp (disch := omega) only [↓nm_1, ↓nm_2, nI_add, pk_mul, pk_sub, Nat.add_sub_cancel, qm1_add, qm2_add, nI_clamp, ni_0, ni_1, z1, z8, z40, z10]; refine qin_nI ?_ ?_ <;> first | omega | exact hB _ _ | exact hYB _ _) | (refine qin_nI ?_ ?_ <;> omega) | fail)) only [↓km0_gd, ↓km0_gI, ↓km0_gM, ↓km0_pI, ↓km0_pM, ↓km0_pZ, ↓km0_gL, ↓km0_pL, ↓km10_al, ↓km10_as, ↓km10_ln, ↓km12_al, ↓km12_as, ↓km12_ln, ↓qb_so, ↓nm_1, ↓nm_2, ↓reduceIte, if_true, if_false, not_true_eq_false, not_false_eq_true, and_true, true_and, and_false, false_and, or_true, true_or, or_false, false_or, eq_self, ne_eq, quI_s, quI_n, quI2, quL1, quL2, quL3, quR1, quR2, quR3, nI_add, pk_mul, pk_sub, Nat.add_sub_cancel, qm1_add, qm2_add, nI_leI, nI_ltI, nI_eq, nI_m1, nI_m1', nI_clamp, nI_bit, nI_one_shl, nI_m1l, nI_m1lt, nI_m1lt', nI_m1le', oI_some, oI_none, ni_0, ni_1, qle_t, qle_f, qlt_t, qlt_f, qeq_t, qeq_f, z1, z8, z40, z10]
            · have := p1 j' hj
              rw [dU_c (by decide), s_gi_c (by decide) (by decide)] at this
              refine ⟨this.1, fun s hs => ?_⟩
              have h6 := this.2 s hs
              rw [dU_c (by decide), s_gi_c (by decide) (by decide), dU_c (by decide), s_gi_c (by decide) (by decide)] at h6
              exact h6
end Q9zg

