def oCode (f : Nat → Int32) : Nat → List (Nat × Nat) → Prop
  | _, [] => True
  | p, o :: c => f p = nI (encC o) ∧ oCode f (p + 1) c
def mSort (o : Nat × Nat) : Nat := if o.1 = 0 then 0 else if o.1 = 16 then 30 else if o.1 = 1 then o.2 + 1 else if o.1 = 2 then 43 else if o.1 = 3 then 44 else o.1 + 27
def mCode (f g : Nat → Int32) : Nat → List (Nat × Nat) → Prop
  | _, [] => True
  | p, o :: c => f p = nI (mSort o) ∧ (o.1 = 0 → g p = nI o.2) ∧ mCode f g (p + 1) c
def mFa (f : Nat → Int32) (φ : Nat → Nat) (c : List (Nat × Nat)) : Prop := ∀ o, o ∈ c → o.1 = 1 → f (o.2 + 1) = nI (φ o.2)
def eVal (φ : Nat → Nat) (c : List (Nat × Nat)) : Int64 := match eRun φ c [] with | x :: _ => x | [] => 0
theorem eRun_ok {φ : Nat → Nat} (hφ : ∀ i, φ i < 1000000) : ∀ {c : List (Nat × Nat)} {s s' : List Bool} {l : List Int64}, tRun c s = some s' → eVs s l → eVs s' (eRun φ c l)
  | [], s, s', l, h, hl => by cases h; exact hl
  | o :: c, s, s', l, h, hl => by
    unfold tRun at h
    split at h
    · cases h1 : t1 o s with
      | none => rw [h1] at h; cases h
      | some s1 =>
        rw [h1] at h
        exact eRun_ok hφ (c := c) h (e1_ok hφ h1 hl)
    · cases h
section Q19
variable {w b : Nat} {φ : Nat → Nat} {n : Nat}
theorem c_runL (hw : w < 2) (hb : b < 2) (hφ : ∀ i, φ i < 1000000) {to : Nat} (hto : to ≤ 1600) : ∀ (c : List (Nat × Nat)) (p q : Nat) (l : List Int64) (s s' : List Bool) (S : xSt), (∀ j, j < 8 → S.1 (144 + 12 * w + 3) j = nI (φ j)) → tRun c s = some s' → eVs s l → oCode (S.1 (2 + 17 * b + 15)) p c → cSt (S.1 (2 + 17 * b + 16)) l → p + c.length = to → c.length < q →
    ∃ Z, fX1_run_L6 n (2 + 17 * b + 14) (nI to) (144 + 12 * w + 3) q (nI l.length) (nI p) S = some (nI (eRun φ c l).length, Z) ∧ qFr (fun k => k = 2 + 17 * b + 16) S Z ∧ cSt (Z.1 (2 + 17 * b + 16)) (eRun φ c l)
  | [], p, q, l, s, s', S, hF, ht, hl, hc, hst, hp, hq => by
    obtain ⟨q, rfl⟩ : ∃ q', q = q' + 1 := ⟨q - 1, by simp only [List.length_nil] at hq; omega⟩
    simp only [List.length_nil] at hp
    refine ⟨S, ?_, qFr_refl, hst⟩
    show fX1_run_L6b _ _ _ _ _ _ _ _ = _
    simp (disch := (first | assumption | omega | exact hB _ _ | exact hYB _ _ | (simp only [tk_sh hw, tr_sh0 hw, tr_sh1 hw, tr_sh2 hw, tr_sh3 hw, ta_sh1 hw, ta_sh2 hw, ta_sh3 hw, tl_sh1 hw, tl_sh2 hw, tl_sh3 hw, tk_yd hw, tr_yd5 hw, tr_yd6 hw, tr_yd7 hw, tr_yd8 hw, ta_yd1 hw, ta_yd2 hw, ta_yd3 hw, ta_yd4 hw, tl_yd1 hw, tl_yd2 hw, tl_yd3 hw, tl_yd4 hw, tk_yc hb, tr_yc0 hb, tr_yc1 hb, tr_yc2 hb, tr_yc3 hb, tr_yc4 hb, tr_yc5 hb, tr_yc6 hb, tr_yc7 hb, tr_yc8 hb, tr_yc9 hb, tr_yc10 hb, tr_yc11 hb, tr_yc12 hb, tr_yc13 hb, ta_yc1 hb, ta_yc2 hb, ta_yc3 hb, ta_yc4 hb, ta_yc5 hb, ta_yc6 hb, ta_yc7 hb, ta_yc8 hb, ta_yc9 hb, ta_yc10 hb, ta_yc11 hb, ta_yc12 hb, ta_yc13 hb, ta_yc15 hb, ta_yc16 hb, tl_yc1 hb, tl_yc2 hb, tl_yc3 hb, tl_yc4 hb, tl_yc5 hb, tl_yc6 hb, tl_yc7 hb, tl_yc8 hb, tl_yc9 hb, tl_yc10 hb, tl_yc11 hb, tl_yc12 hb, tl_yc13 hb, tl_yc15 hb, tl_yc16 hb, tk_co hb, tr_co0 hb, tr_co1 hb]; done) | (simp (disch := omega) only [↓nm_1, ↓nm_2, nI_add, pk_mul, pk_sub, Nat.add_sub_cancel, qm1_add, qm2_add, ni_0, ni_1, ni_5, ni_64, tk_sh hw, tr_sh0 hw, tr_sh1 hw, tr_sh2 hw, tr_sh3 hw, ta_sh1 hw, ta_sh2 hw, ta_sh3 hw, tl_sh1 hw, tl_sh2 hw, tl_sh3 hw, tk_yd hw, tr_yd5 hw, tr_yd6 hw, tr_yd7 hw, tr_yd8 hw, ta_yd1 hw, ta_yd2 hw, ta_yd3 hw, ta_yd4 hw, tl_yd1 hw, tl_yd2 hw, tl_yd3 hw, tl_yd4 hw, tk_yc hb, tr_yc0 hb, tr_yc1 hb, tr_yc2 hb, tr_yc3 hb, tr_yc4 hb, tr_yc5 hb, tr_yc6 hb, tr_yc7 hb, tr_yc8 hb, tr_yc9 hb, tr_yc10 hb, tr_yc11 hb, tr_yc12 hb, tr_yc13 hb, ta_yc1 hb, ta_yc2 hb, ta_yc3 hb, ta_yc4 hb, ta_yc5 hb, ta_yc6 hb, ta_yc7 hb, ta_yc8 hb, ta_yc9 hb, ta_yc10 hb, ta_yc11 hb, ta_yc12 hb, ta_yc13 hb, ta_yc15 hb, ta_yc16 hb, tl_yc1 hb, tl_yc2 hb, tl_yc3 hb, tl_yc4 hb, tl_yc5 hb, tl_yc6 hb, tl_yc7 hb, tl_yc8 hb, tl_yc9 hb, tl_yc10 hb, tl_yc11 hb, tl_yc12 hb, tl_yc13 hb, tl_yc15 hb, tl_yc16 hb, tk_co hb, tr_co0 hb, tr_co1 hb]; refine qin_nI ?_ ?_ <;> omega))) only [↓qb_gI, ↓qb_gL, ↓qb_gM, ↓qb_gF, ↓qb_pI, ↓qb_pL, ↓qb_pM, ↓qb_pZ0, ↓qb_pZ1, ↓qb_al, ↓qb_as, ↓qb_zl, ↓qb_zs0, ↓qb_zs1, ↓qb_ll, ↓qb_ls, ↓qb_ql, ↓qb_some, ↓qb_len13, ↓nm_1, ↓nm_2, ↓reduceIte, if_true, if_false, not_true_eq_false, not_false_eq_true, and_true, true_and, and_false, false_and, or_true, true_or, or_false, false_or, eq_self, ne_eq, quI1, quI2, quL1, quL2, quL3, quR1, quR2, quR3, nI_add, pk_mul, pk_sub, Nat.add_sub_cancel, qm1_add, qm2_add, nI_leI, nI_ltI, nI_eq, nI_m1, nI_m1', nI_clamp, nI_bit, nI_one_shl, nI_m1l, nI_m1lt, nI_m1lt', nI_m1le', ni_0, ni_1, ni_5, ni_64, tk_sh hw, tr_sh0 hw, tr_sh1 hw, tr_sh2 hw, tr_sh3 hw, ta_sh1 hw, ta_sh2 hw, ta_sh3 hw, tl_sh1 hw, tl_sh2 hw, tl_sh3 hw, tk_yd hw, tr_yd5 hw, tr_yd6 hw, tr_yd7 hw, tr_yd8 hw, ta_yd1 hw, ta_yd2 hw, ta_yd3 hw, ta_yd4 hw, tl_yd1 hw, tl_yd2 hw, tl_yd3 hw, tl_yd4 hw, tk_yc hb, tr_yc0 hb, tr_yc1 hb, tr_yc2 hb, tr_yc3 hb, tr_yc4 hb, tr_yc5 hb, tr_yc6 hb, tr_yc7 hb, tr_yc8 hb, tr_yc9 hb, tr_yc10 hb, tr_yc11 hb, tr_yc12 hb, tr_yc13 hb, ta_yc1 hb, ta_yc2 hb, ta_yc3 hb, ta_yc4 hb, ta_yc5 hb, ta_yc6 hb, ta_yc7 hb, ta_yc8 hb, ta_yc9 hb, ta_yc10 hb, ta_yc11 hb, ta_yc12 hb, ta_yc13 hb, ta_yc15 hb, ta_yc16 hb, tl_yc1 hb, tl_yc2 hb, tl_yc3 hb, tl_yc4 hb, tl_yc5 hb, tl_yc6 hb, tl_yc7 hb, tl_yc8 hb, tl_yc9 hb, tl_yc10 hb, tl_yc11 hb, tl_yc12 hb, tl_yc13 hb, tl_yc15 hb, tl_yc16 hb, tk_co hb, tr_co0 hb, tr_co1 hb, fX1_run_L6b, qle_t, qle_f, qlt_t, qlt_f, qeq_t, qeq_f, eRun]
  | o :: c, p, q, l, s, s', S, hF, ht, hl, hc, hst, hp, hq => by
    obtain ⟨q, rfl⟩ : ∃ q', q = q' + 1 := ⟨q - 1, by simp only [List.length_cons] at hq; omega⟩
    simp only [List.length_cons] at hp hq
    unfold tRun at ht
    split at ht
    · rename_i hlen
      cases h1 : t1 o s with
      | none => rw [h1] at ht; cases ht
      | some s1 =>
        rw [h1] at ht
        obtain ⟨Z, e, hfr, hst1⟩ := c_run1 (n := n) hw hb hF h1 hl hlen hst (i := p) (to := to) (by omega) hto hc.1 (fX1_run_L6 n (2 + 17 * b + 14) (nI to) (144 + 12 * w + 3) q)
        have k1 : Z.1 (144 + 12 * w + 3) = S.1 (144 + 12 * w + 3) := hfr.1 _ (by omega)
        have k2 : Z.1 (2 + 17 * b + 15) = S.1 (2 + 17 * b + 15) := hfr.1 _ (by omega)
        obtain ⟨V, e2, hfr2, hst2⟩ := c_runL hw hb hφ hto c (p + 1) q (e1 φ o l) s1 s' Z (by rw [k1]; exact hF) ht (e1_ok hφ h1 hl) (by rw [k2]; exact hc.2) hst1 (by omega) (by omega)
        exact ⟨V, e.trans e2, qFr_trans hfr hfr2, hst2⟩
    · cases ht
theorem c_run (hw : w < 2) (hb : b < 2) (hφ : ∀ i, φ i < 1000000) {to p : Nat} (hto : to ≤ 1600) {c : List (Nat × Nat)} {t : Bool} {S : xSt} (hF : ∀ j, j < 8 → S.1 (144 + 12 * w + 3) j = nI (φ j)) (ht : tRun c [] = some [t]) (hc : oCode (S.1 (2 + 17 * b + 15)) p c) (hp : p + c.length = to) (hn : 1600 < n) :
    (∃ Z, fX1_run n (2 + 17 * b + 14) (nI p) (nI to) (144 + 12 * w + 3) S = some ((eVal φ c).toInt32, Z) ∧ qFr (fun k => k = 2 + 17 * b + 16) S Z) ∧ eV t (eVal φ c) := by
  obtain ⟨Z, e, hfr, hst⟩ := c_runL (n := n) hw hb hφ hto c p n [] [] [t] S hF ht trivial hc trivial hp (by omega)
  have hv := eRun_ok hφ ht (l := []) trivial
  cases h : eRun φ c [] with
  | nil => rw [h] at hv; cases hv
  | cons x r =>
    rw [h] at hv hst e
    have h2 := hv.2
    cases r with
    | cons y r => cases h2
    | nil =>
      have ev : eVal φ c = x := by unfold eVal; rw [h]
      rw [ev]
      refine ⟨⟨Z, ?_, hfr⟩, hv.1⟩
      have hs := hst.1
      simp only [List.length_nil] at hs e
      simp (disch := (first | assumption | omega | exact hB _ _ | exact hYB _ _ | (simp only [tk_sh hw, tr_sh0 hw, tr_sh1 hw, tr_sh2 hw, tr_sh3 hw, ta_sh1 hw, ta_sh2 hw, ta_sh3 hw, tl_sh1 hw, tl_sh2 hw, tl_sh3 hw, tk_yd hw, tr_yd5 hw, tr_yd6 hw, tr_yd7 hw, tr_yd8 hw, ta_yd1 hw, ta_yd2 hw, ta_yd3 hw, ta_yd4 hw, tl_yd1 hw, tl_yd2 hw, tl_yd3 hw, tl_yd4 hw, tk_yc hb, tr_yc0 hb, tr_yc1 hb, tr_yc2 hb, tr_yc3 hb, tr_yc4 hb, tr_yc5 hb, tr_yc6 hb, tr_yc7 hb, tr_yc8 hb, tr_yc9 hb, tr_yc10 hb, tr_yc11 hb, tr_yc12 hb, tr_yc13 hb, ta_yc1 hb, ta_yc2 hb, ta_yc3 hb, ta_yc4 hb, ta_yc5 hb, ta_yc6 hb, ta_yc7 hb, ta_yc8 hb, ta_yc9 hb, ta_yc10 hb, ta_yc11 hb, ta_yc12 hb, ta_yc13 hb, ta_yc15 hb, ta_yc16 hb, tl_yc1 hb, tl_yc2 hb, tl_yc3 hb, tl_yc4 hb, tl_yc5 hb, tl_yc6 hb, tl_yc7 hb, tl_yc8 hb, tl_yc9 hb, tl_yc10 hb, tl_yc11 hb, tl_yc12 hb, tl_yc13 hb, tl_yc15 hb, tl_yc16 hb, tk_co hb, tr_co0 hb, tr_co1 hb]; done) | (simp (disch := omega) only [↓nm_1, ↓nm_2, nI_add, pk_mul, pk_sub, Nat.add_sub_cancel, qm1_add, qm2_add, ni_0, ni_1, tk_sh hw, tr_sh0 hw, tr_sh1 hw, tr_sh2 hw, tr_sh3 hw, ta_sh1 hw, ta_sh2 hw, ta_sh3 hw, tl_sh1 hw, tl_sh2 hw, tl_sh3 hw, tk_yd hw, tr_yd5 hw, tr_yd6 hw, tr_yd7 hw, tr_yd8 hw, ta_yd1 hw, ta_yd2 hw, ta_yd3 hw, ta_yd4 hw, tl_yd1 hw, tl_yd2 hw, tl_yd3 hw, tl_yd4 hw, tk_yc hb, tr_yc0 hb, tr_yc1 hb, tr_yc2 hb, tr_yc3 hb, tr_yc4 hb, tr_yc5 hb, tr_yc6 hb, tr_yc7 hb, tr_yc8 hb, tr_yc9 hb, tr_yc10 hb, tr_yc11 hb, tr_yc12 hb, tr_yc13 hb, ta_yc1 hb, ta_yc2 hb, ta_yc3 hb, ta_yc4 hb, ta_yc5 hb, ta_yc6 hb, ta_yc7 hb, ta_yc8 hb, ta_yc9 hb, ta_yc10 hb, ta_yc11 hb, ta_yc12 hb, ta_yc13 hb, ta_yc15 hb, ta_yc16 hb, tl_yc1 hb, tl_yc2 hb, tl_yc3 hb, tl_yc4 hb, tl_yc5 hb, tl_yc6 hb, tl_yc7 hb, tl_yc8 hb, tl_yc9 hb, tl_yc10 hb, tl_yc11 hb, tl_yc12 hb, tl_yc13 hb, tl_yc15 hb, tl_yc16 hb, tk_co hb, tr_co0 hb, tr_co1 hb]; refine qin_nI ?_ ?_ <;> omega))) only [↓qb_gI, ↓qb_gL, ↓qb_gM, ↓qb_gF, ↓qb_pI, ↓qb_pL, ↓qb_pM, ↓qb_pZ0, ↓qb_pZ1, ↓qb_al, ↓qb_as, ↓qb_zl, ↓qb_zs0, ↓qb_zs1, ↓qb_ll, ↓qb_ls, ↓qb_ql, ↓qb_some, ↓qb_len13, ↓nm_1, ↓nm_2, ↓reduceIte, if_true, if_false, not_true_eq_false, not_false_eq_true, and_true, true_and, and_false, false_and, or_true, true_or, or_false, false_or, eq_self, ne_eq, quI1, quI2, quL1, quL2, quL3, quR1, quR2, quR3, nI_add, pk_mul, pk_sub, Nat.add_sub_cancel, qm1_add, qm2_add, nI_leI, nI_ltI, nI_eq, nI_m1, nI_m1', nI_clamp, nI_bit, nI_one_shl, nI_m1l, nI_m1lt, nI_m1lt', nI_m1le', ni_0, ni_1, tk_sh hw, tr_sh0 hw, tr_sh1 hw, tr_sh2 hw, tr_sh3 hw, ta_sh1 hw, ta_sh2 hw, ta_sh3 hw, tl_sh1 hw, tl_sh2 hw, tl_sh3 hw, tk_yd hw, tr_yd5 hw, tr_yd6 hw, tr_yd7 hw, tr_yd8 hw, ta_yd1 hw, ta_yd2 hw, ta_yd3 hw, ta_yd4 hw, tl_yd1 hw, tl_yd2 hw, tl_yd3 hw, tl_yd4 hw, tk_yc hb, tr_yc0 hb, tr_yc1 hb, tr_yc2 hb, tr_yc3 hb, tr_yc4 hb, tr_yc5 hb, tr_yc6 hb, tr_yc7 hb, tr_yc8 hb, tr_yc9 hb, tr_yc10 hb, tr_yc11 hb, tr_yc12 hb, tr_yc13 hb, ta_yc1 hb, ta_yc2 hb, ta_yc3 hb, ta_yc4 hb, ta_yc5 hb, ta_yc6 hb, ta_yc7 hb, ta_yc8 hb, ta_yc9 hb, ta_yc10 hb, ta_yc11 hb, ta_yc12 hb, ta_yc13 hb, ta_yc15 hb, ta_yc16 hb, tl_yc1 hb, tl_yc2 hb, tl_yc3 hb, tl_yc4 hb, tl_yc5 hb, tl_yc6 hb, tl_yc7 hb, tl_yc8 hb, tl_yc9 hb, tl_yc10 hb, tl_yc11 hb, tl_yc12 hb, tl_yc13 hb, tl_yc15 hb, tl_yc16 hb, tk_co hb, tr_co0 hb, tr_co1 hb, fX1_run, qle_t, qle_f, qlt_t, qlt_f, qeq_t, qeq_f, e, hs, List.length_cons, List.length_nil]
end Q19
/-! ===== the reference's reckons ===== -/
def mFr (P : Nat → Prop) (S Z : xSt) : Prop := (∀ k, ¬ P k → Z.1 k = S.1 k) ∧ (∀ k, k ≠ 44 → Z.2.1 k = S.2.1 k) ∧ Z.2.2 = S.2.2
theorem mFr_refl {P : Nat → Prop} {S : xSt} : mFr P S S := ⟨fun _ _ => rfl, fun _ _ => rfl, rfl⟩
theorem mFr_trans {P : Nat → Prop} {S Z V : xSt} (h1 : mFr P S Z) (h2 : mFr P Z V) : mFr P S V :=
  ⟨fun k hk => (h2.1 k hk).trans (h1.1 k hk), fun k hk => (h2.2.1 k hk).trans (h1.2.1 k hk), h2.2.2.trans h1.2.2⟩
theorem mFr_mono {P P' : Nat → Prop} {S Z : xSt} (h : mFr P S Z) (hp : ∀ k, P k → P' k) : mFr P' S Z := ⟨fun k hk => h.1 k (fun hh => hk (hp k hh)), h.2⟩
theorem mFr_upd {P : Nat → Prop} {S : xSt} {k j : Nat} {v : Int32} (h : P k) : mFr P S (xuI S k j v) :=
  ⟨(qFr_upd h).1, fun _ _ => rfl, rfl⟩
theorem mFr_updL {P : Nat → Prop} {S : xSt} {j : Nat} {v : Int64} : mFr P S (xuL S 44 j v) := by
  refine ⟨fun _ _ => rfl, fun k hk => ?_, rfl⟩
  funext j'
  rw [quL2, if_neg hk]
theorem quL2s {S : xSt} {k j : Nat} {v : Int64} : (xuL S k j v).2.1 k = fun j' => if j' = j then v else S.2.1 k j' := by
  funext j'
  rw [quL2, if_pos rfl]
theorem m_held (x : Int64) (S : xSt) : fX12_held x S = some (eHeld x) := by
  unfold fX12_held eHeld
  simp only [lg_cmp_le, lg_cmp_ge]
  by_cases h1 : x ≤ 1000000
  · by_cases h2 : -1000000 ≤ x <;> simp only [h1, h2, if_true, if_false]
  · simp only [h1, if_false]
theorem m_floor (a b : Int64) (S : xSt) : fX12_floor a b S = some (eFl a b) := by
  unfold fX12_floor fX12_floor_B32
  simp only [lg_cmp_eq, lg_cmp_ge]
  by_cases h0 : b = 0
  · subst h0; rfl
  · have r0 : ((0 : Int32) = 1) = False := eq_false (by decide)
    have r1 : ((1 : Int32) = 0) = False := eq_false (by decide)
    by_cases hr : a - a / b * b = 0 <;> by_cases ha : 0 ≤ a <;> by_cases hb : 0 ≤ b <;> simp only [r0, r1, h0, hr, ha, hb, if_true, if_false, eFl, reduceIte, iff_true, iff_false, true_iff, false_iff, not_true_eq_false, not_false_eq_true, qb_some]
theorem m_two {op : Nat} {a b : Int64} {S : xSt} (h1 : 4 ≤ op) (h2 : op ≤ 15) : fX12_two (nI (op + 27)) a b S = some (e2 op a b) := by
  rcases (by omega : op = 4 ∨ op = 5 ∨ op = 6 ∨ op = 7 ∨ op = 8 ∨ op = 9 ∨ op = 10 ∨ op = 11 ∨ op = 12 ∨ op = 13 ∨ op = 14 ∨ op = 15) with rfl | rfl | rfl | rfl | rfl | rfl | rfl | rfl | rfl | rfl | rfl | rfl
  · show (fX12_held (a + b) S).bind _ = _; rw [m_held]; rfl
  · show (fX12_held (a - b) S).bind _ = _; rw [m_held]; rfl
  · show (fX12_held (a * b) S).bind _ = _; rw [m_held]; rfl
  · show (fX12_floor a b S).bind _ = _; rw [m_floor]; show (fX12_held _ S).bind _ = _; rw [m_held]; rfl
  · show (if lg_cmp b 0 = 0 then _ else _) = some (if b = 0 then 0 else _)
    simp only [lg_cmp_eq]
    by_cases h : b = 0
    · simp only [h, if_true]
    · simp only [h, if_false]
      rw [m_floor]; show (fX12_held _ S).bind _ = _; rw [m_held]; rfl
  · show (if 0 ≤ lg_cmp a b then _ else _) = some (if b ≤ a then b else a)
    simp only [lg_cmp_ge]; split <;> rfl
  · show (if lg_cmp a b ≤ 0 then _ else _) = some (if a ≤ b then b else a)
    simp only [lg_cmp_le]; split <;> rfl
  · show (if 0 ≤ lg_cmp a b then _ else _) = some (if b ≤ a then (0 : Int64) else 1)
    simp only [lg_cmp_ge]; split <;> rfl
  · show (if lg_cmp a b ≤ 0 then _ else _) = some (if a ≤ b then (0 : Int64) else 1)
    simp only [lg_cmp_le]; split <;> rfl
  · show (if lg_cmp a b = 0 then _ else _) = some (if a = b then (1 : Int64) else 0)
    simp only [lg_cmp_eq]; split <;> rfl
  · rfl
  · rfl

