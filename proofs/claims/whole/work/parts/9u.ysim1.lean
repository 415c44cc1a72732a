/-! ===== the reference reads a rule as the plain reader does: how its steps are strung together ===== -/
/-- from S, the text read to e, all codes so far cc: the steps answer as R says -/
def iOk (n b L : Nat) (S : xSt) (e : Nat) (cc : List (Nat × Nat)) (E : xSt → Nat → List (Nat × Nat) → Prop) (R : PE) : Prop := match R with
  | .inl (kd, pl) => (0 < kd ∧ kd < 100) ∧ ∃ k, k + e ≤ L + 2 ∧ stpF n k b S kd pl
  | .inr (e', c') => ∃ k Z, k + e ≤ e' ∧ stps n k S Z ∧ frN b S Z ∧ E Z e' (cc ++ c')
/-- between two steps: the codes, and what is held back above P, make cc -/
def vM (b : Nat) (f : Nat → Nat) (L m : Nat) (P : List Nat) (o D K A r : Nat) (Q : Nat → Nat → Prop) (S0 : xSt) (Z : xSt) (e : Nat) (cc : List (Nat × Nat)) : Prop := ∃ c0 p0 H, cc = c0 ++ em p0 ∧ stM Z b f L m e c0 (p0 ++ P) (o + nots p0) D K H 0 A ∧ Z.1 0 51 = nI 1 ∧ (∀ x, x ∈ p0 → r ≤ rkq x) ∧ frD D S0 Z ∧ Q e H
def hPr (A r : Nat) (P : List Nat) : Prop := A < P.length → ∀ x X, P = x :: X → rkq x < r
def q6 (H : Nat) (_ H' : Nat) : Prop := H' = H
def q5 (f : Nat → Nat) (L H : Nat) (e H' : Nat) : Prop := q6 H e H' ∧ pMul f L e = none
def q4 (f : Nat → Nat) (L H : Nat) (e H' : Nat) : Prop := q5 f L H e H' ∧ pAdd f L e = none
def q2 (f : Nat → Nat) (L : Nat) (e H' : Nat) : Prop := 1 ≤ H' ∧ H' ≤ 2 ∧ (H' < 2 → pMul f L e = none ∧ pAdd f L e = none)
def q1 (f : Nat → Nat) (L : Nat) (e H' : Nat) : Prop := q2 f L e H' ∧ pAnd f L e = none
def q0 (f : Nat → Nat) (L : Nat) (e H' : Nat) : Prop := q1 f L e H' ∧ pOr f L e = none
/-- what the token may not be, for a frame to be shut -/
def nx (f : Nat → Nat) (L K e H : Nat) : Prop := H ≤ 2 ∧ (H < 2 → ¬ ig f L e 43 ∧ ¬ ig f L e 45 ∧ ¬ ig f L e 42 ∧ ¬ ig f L e 47 ∧ ¬ ig f L e 37) ∧ (isTs K → 1 ≤ H ∧ ¬ iw f L e 27 ∧ ¬ iw f L e 26)
section Q9u
variable {S Z V W S0 V0 : xSt} {n L e m o b d t k a A D K H B r r' x q K0 H0 A0 : Nat} {f : Nat → Nat} {c cc : List (Nat × Nat)} {P P' p : List Nat} {R : PE} {g : Nat → PE} {E E' : xSt → Nat → List (Nat × Nat) → Prop} {Q Q' : Nat → Nat → Prop}
theorem iOk_seq (h : iOk n b L S e cc E R) (h2 : ∀ Z e1 c1, E Z e1 c1 → iOk n b L Z e1 c1 E' (g e1)) : iOk n b L S e cc E' (pB R g) := by
  match R, h with
  | .inl (kd, pl), h => exact h
  | .inr (e1, c1), h =>
    obtain ⟨k, Z, h3, h4, h5, h6⟩ := h
    have h7 := h2 Z e1 (cc ++ c1) h6
    rw [pB_r]
    revert h7
    match g e1 with
    | .inl (kd, pl) => exact fun ⟨h0, j, x1, x2⟩ => ⟨h0, j + k, by omega, stps_F h4 h5 x2⟩
    | .inr (e2, c2) => exact fun ⟨j, V, x1, x2, x3, x4⟩ => ⟨j + k, V, by omega, stps_trans h4 x2, frN_trans h5 x3, by rw [← List.append_assoc]; exact x4⟩
theorem iOk_mono (h : iOk n b L S e cc E R) (h2 : ∀ Z e1 c1, E Z e1 c1 → E' Z e1 c1) : iOk n b L S e cc E' R := by
  match R, h with
  | .inl (kd, pl), h => exact h
  | .inr (e1, c1), ⟨k, Z, h3, h4, h5, h6⟩ => exact ⟨k, Z, h3, h4, h5, h2 _ _ _ h6⟩
theorem iOk_pre {e1 : Nat} (h : stps n k S Z) (h1 : frN b S Z) (hk : k + e ≤ e1) (h2 : iOk n b L Z e1 cc E R) : iOk n b L S e cc E R := by
  match R, h2 with
  | .inl (kd, pl), ⟨h0, j, x1, x2⟩ => exact ⟨h0, j + k, by omega, stps_F h h1 x2⟩
  | .inr (e2, c1), ⟨j, V, x1, x2, x3, x4⟩ => exact ⟨j + k, V, by omega, stps_trans h x2, frN_trans h1 x3, x4⟩
/-- an answer at once -/
theorem iOk_one {e1 : Nat} {c1 : List (Nat × Nat)} (h : stps n k S Z) (h1 : frN b S Z) (hk : k + e ≤ e1) (h2 : E Z e1 (cc ++ c1)) : iOk n b L S e cc E (.inr (e1, c1)) := ⟨k, Z, hk, h, h1, h2⟩
theorem iOk_goF {kd pl : Nat} (he : e ≤ L) (h51 : S.1 0 51 = nI 1) (h : fX12_goesOn n 0 S = some (nI 0, Z)) (hf : flM b S kd pl Z) (hk : 0 < kd := by decide) (hk2 : kd < 100 := by decide) : iOk n b L S e cc E (.inl (kd, pl)) :=
  ⟨⟨hk, hk2⟩, 2, by omega, Z, rd_goE h51 h, hf.1, hf.2.1, hf.2.2⟩
theorem iOk_opF {kd pl v : Nat} (he : e ≤ L) (h51 : S.1 0 51 = nI 0) (hv : v ≤ 1) (h : fX12_operand n 0 S = some (nI v, Z)) (hf : flM b S kd pl Z) (hk : 0 < kd) (hk2 : kd < 100) : iOk n b L S e cc E (.inl (kd, pl)) :=
  ⟨⟨hk, hk2⟩, 2, by omega, xuI Z 0 51 (nI v), rd_opF hv h51 h hf.1 hk hk2, by rw [quI_k (by omega)]; exact hf.1, by rw [quI_k (by omega)]; exact hf.2.1, frN_trans hf.2.2 ⟨fun k j x y z => quI_k (by omega), fun _ _ _ => rfl, rfl⟩⟩
theorem em_app : em (p ++ P) = em p ++ em P := List.map_append
/-- what is held back is joined at last -/
theorem iOk_hold (h : iOk n b L S e cc (vM b f L m (q :: P) (o + nots [q]) D K A r Q S0) R) (hr : r' ≤ r) (hq : r' ≤ rkq q) : iOk n b L S e cc (vM b f L m P o D K A r' Q S0) (pB R (pPut q)) := by
  refine iOk_seq h (fun Z e1 c1 hv => ?_)
  obtain ⟨c0, p0, H, x1, x2, x3, x4, x5, x6⟩ := hv
  refine ⟨0, Z, by omega, stps_refl, frN_refl, c0, p0 ++ [q], H, ?_, ?_, x3, ?_, x5, x6⟩
  · rw [x1, em_app, List.append_assoc]; rfl
  · rw [List.append_assoc, nots_app, Nat.add_comm (nots p0), ← Nat.add_assoc]
    exact x2
  · intro x hx
    rcases List.mem_append.mp hx with hx | hx
    · have := x4 x hx; omega
    · rw [List.mem_singleton] at hx; subst hx; exact hq
theorem kT_end : kT f L L = 0 := by
  have := kS_ge (f := f) (L := L) (e := L)
  unfold kT
  rw [if_neg (by omega)]
/-- a loop -/
theorem iOk_loop {pp : Nat → PE} {sel : Nat → Option Nat} (hs : ∀ e q, sel e = some q → kT f L e ≠ 0)
    (hstep : ∀ Z e cc q, vM b f L m P o D K A r Q S0 Z e cc → sel e = some q → iOk n b L Z e cc (vM b f L m P o D K A r Q S0) (pB (pp (kE f L e)) (pPut q)))
    (hgo : ∀ e e' c' q, e ≤ L → sel e = some q → pB (pp (kE f L e)) (pPut q) = .inr (e', c') → e < e') :
    ∀ k e S cc, L ≤ k + e → vM b f L m P o D K A r Q S0 S e cc → iOk n b L S e cc (vM b f L m P o D K A r (fun e H => Q e H ∧ sel e = none) S0) (pLp f L pp sel k e)
  | 0, e, S, cc, hk, h => by
    obtain ⟨c0, p0, H, x1, x2, x3, x4, x5, x6⟩ := h
    have he : e = L := by have := x2.2.1; omega
    subst he
    have hsn : sel e = none := by
      cases hq : sel e with
      | none => rfl
      | some q => exact absurd kT_end (hs _ _ hq)
    exact ⟨0, S, by omega, stps_refl, frN_refl, c0, p0, H, by rw [List.append_nil]; exact x1, x2, x3, x4, x5, x6, hsn⟩
  | k + 1, e, S, cc, hk, h => by
    unfold pLp
    cases hq : sel e with
    | none =>
      obtain ⟨c0, p0, H, x1, x2, x3, x4, x5, x6⟩ := h
      exact ⟨0, S, by omega, stps_refl, frN_refl, c0, p0, H, by rw [List.append_nil]; exact x1, x2, x3, x4, x5, x6, hq⟩
    | some q =>
      have he : e ≤ L := by obtain ⟨c0, p0, H, x1, x2, x3, x4, x5, x6⟩ := h; exact x2.2.1
      have h1 := hstep S e cc q h hq
      have hg := fun e' c' => hgo e e' c' q he hq
      show iOk n b L S e cc _ (pB (pB (pp (kE f L e)) (pPut q)) (pLp f L pp sel k))
      revert h1 hg
      generalize pB (pp (kE f L e)) (pPut q) = R
      intro h1 hg
      match R, h1, hg with
      | .inl (kd, pl), h1, hg => exact h1
      | .inr (e1, c1), ⟨j, Z, x1, x2, x3, x4⟩, hg =>
        have := hg e1 c1 rfl
        have h7 := iOk_loop hs hstep hgo k e1 Z (cc ++ c1) (by omega) x4
        rw [pB_r]
        revert h7
        match pLp f L pp sel k e1 with
        | .inl (kd, pl) => exact fun ⟨h0, j2, y1, y2⟩ => ⟨h0, j2 + j, by omega, stps_F x2 x3 y2⟩
        | .inr (e2, c2) => exact fun ⟨j2, V, y1, y2, y3, y4⟩ => ⟨j2 + j, V, by omega, stps_trans x2 y2, frN_trans x3 y3, by rw [← List.append_assoc]; exact y4⟩
theorem nx_ops (h : pMul f L e = none) (h2 : pAdd f L e = none) : ¬ ig f L e 43 ∧ ¬ ig f L e 45 ∧ ¬ ig f L e 42 ∧ ¬ ig f L e 47 ∧ ¬ ig f L e 37 := by
  unfold pMul at h
  unfold pAdd at h2
  refine ⟨fun hh => ?_, fun hh => ?_, fun hh => ?_, fun hh => ?_, fun hh => ?_⟩
  · rw [if_pos hh] at h2; cases h2
  · rw [if_neg (ig_one hh (by decide)), if_pos hh] at h2; cases h2
  · rw [if_pos hh] at h; cases h
  · rw [if_neg (ig_one hh (by decide)), if_pos hh] at h; cases h
  · rw [if_neg (ig_one hh (by decide)), if_neg (ig_one hh (by decide)), if_pos hh] at h; cases h
theorem nx_q4 (hH : H0 = 0) (h : q4 f L H0 e H) (hK : ¬ isTs K) : nx f L K e H := by
  obtain ⟨⟨h1, h2⟩, h3⟩ := h
  unfold q6 at h1
  exact ⟨by omega, fun _ => nx_ops h2 h3, fun hh => absurd hh hK⟩
theorem nx_q0 (h : q0 f L e H) : nx f L K e H := by
  obtain ⟨⟨⟨h1, h2, h3⟩, h4⟩, h5⟩ := h
  refine ⟨h2, fun hh => nx_ops (h3 hh).1 (h3 hh).2, fun _ => ⟨h1, fun hh => ?_, fun hh => ?_⟩⟩
  · unfold pAnd at h4; rw [if_pos hh] at h4; cases h4
  · unfold pOr at h5; rw [if_pos hh] at h5; cases h5
theorem nx_ig (hi : ig f L e k) (hk : k ≠ 43 ∧ k ≠ 45 ∧ k ≠ 42 ∧ k ≠ 47 ∧ k ≠ 37) (hH : H ≤ 2) (ht : isTs K → 1 ≤ H) : nx f L K e H :=
  ⟨hH, fun _ => ⟨ig_one hi hk.1, ig_one hi hk.2.1, ig_one hi hk.2.2.1, ig_one hi hk.2.2.2.1, ig_one hi hk.2.2.2.2⟩, fun hh => ⟨ht hh, fun h2 => iw_ig h2 hi, fun h2 => iw_ig h2 hi⟩⟩
theorem n_422 (h : stM S b f L m e c P o D K H B A) (hw : kW f L e = none) (hK : K ≤ 6) (hx : nx f L K e H) : fX12_goesOn n 0 S = fX12_goesOn_B422 n 0 (nI (D - 1)) (nI K) S := g_422 h hw hK hx.1 hx.2.1 hx.2.2
/-- the sign that shuts isn't there -/
theorem sg_bad (hv : vM b f L m P o D K A r Q S0 S e cc) (hQ : ∀ e H, Q e H → nx f L K e H) (hK : 2 ≤ K) (hK6 : K ≤ 6) (hi : ¬ ig f L e (if K = 3 ∨ K = 6 then 44 else if K = 5 then 93 else 41)) : iOk n b L S e cc E (pHere f L e) := by
  obtain ⟨c0, p0, H, x1, x2, x3, x4, x5, x6⟩ := hv
  by_cases hw : kW f L e = none
  · obtain ⟨Z, z1, z2⟩ := g_shut (n := n) x2 hK hK6 hi (n_422 x2 hw hK6 (hQ _ _ x6))
    have : kP f L e = kS f L e := by unfold kP; rw [hw]
    unfold pHere
    rw [this]
    exact iOk_goF x2.2.1 x3 z1 z2
  · obtain ⟨Z, z1, z2⟩ := g_wrong (n := n) x2 hw
    exact iOk_goF x2.2.1 x3 z1 z2
end Q9u

