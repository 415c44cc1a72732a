/-! ===== the reference's day: what its cells hold ===== -/
def mKo (S : xSt) (b wh : Nat) (cs : List (Nat × Nat)) : Prop :=
  (cs = [] → S.1 19 (2 * b + wh) = qm1) ∧ (cs ≠ [] → ∃ p, S.1 19 (2 * b + wh) = nI p ∧ S.1 20 (2 * b + wh) = nI (p + cs.length) ∧ p + cs.length ≤ 1600 ∧ mCode (S.1 21) (S.1 22) (1600 * b + p) cs)
def mY (S : xSt) (b : Nat) (Y : Nat → Nat → Nat) (mc wc : List (Nat × Nat)) : Prop :=
  S.1 0 13 = nI b ∧ (S.1 2 b = nI (Y 2 0) ∧ S.1 5 b = nI (Y 2 1) ∧ S.1 8 b = nI (Y 2 2) ∧ S.1 10 b = nI (Y 2 3)) ∧
  (∀ k, k < Y 2 0 → S.1 3 (6 * b + k) = nI (Y 3 k) ∧ S.1 4 (6 * b + k) = nI (Y 4 k)) ∧
  (∀ t, t < Y 2 1 → S.1 6 (8 * b + t) = nI (Y 5 t) ∧ S.1 7 (8 * b + t) = nI (Y 6 t)) ∧
  (∀ g t, g < Y 2 2 → t < Y 2 1 → S.1 9 (8 * (6 * b + g) + t) = nI (Y 7 (8 * g + t))) ∧
  (∀ j, j < Y 2 3 → S.1 11 (6 * b + j) = nI (Y 8 j) ∧ S.1 12 (6 * b + j) = nI (Y 9 j) ∧ ∀ s, s < Y 9 j → S.1 13 (4 * (6 * b + j) + s) = nI (Y 10 (4 * j + s)) ∧ S.1 14 (4 * (6 * b + j) + s) = nI (Y 11 (4 * j + s))) ∧
  (∀ a c, a < Y 2 0 → c < Y 2 0 → S.1 15 (6 * (6 * b + a) + c) = nI (Y 12 (6 * a + c))) ∧
  (S.1 16 b = nI (Y 0 15) ∧ S.1 17 b = nI (Y 0 16)) ∧ (S.1 18 (3 * b) = nI (Y 0 14) ∧ S.1 18 (3 * b + 1) = nI (Y 0 17) ∧ S.1 18 (3 * b + 2) = nI (Y 0 18)) ∧ mKo S b 1 mc ∧ mKo S b 0 wc
def mD (S : xSt) (v : Nat) (Y D : Nat → Nat → Nat) : Prop :=
  (S.1 34 v = nI (D 0 0) ∧ S.1 35 v = nI (D 0 1) ∧ S.1 37 v = nI (D 0 2) ∧ S.1 38 v = nI (D 0 3) ∧ S.1 42 v = nI (D 0 4)) ∧ (∀ t, t < Y 2 1 → S.1 36 (8 * v + t) = nI (D 1 t)) ∧ (∀ g t, g < Y 2 2 → t < Y 2 1 → S.1 39 (48 * v + 8 * g + t) = nI (D 2 (8 * g + t))) ∧
  (∀ j, j < Y 2 3 → S.1 40 (6 * v + j) = nI (D 3 j)) ∧ (∀ j, j < Y 2 3 → S.1 41 (6 * v + j) = nI (D 4 j)) ∧ (∀ k, k < 4 * D 0 4 → S.1 43 (240 * v + k) = nI (D 6 k))
def mR (S : xSt) (Y : Nat → Nat → Nat) (R : Nat → Nat) : Prop := ∃ o : Option Nat, S.1 0 69 = oI o ∧ (∀ k, o = some k → k < 6) ∧ (∀ k, k < Y 2 0 → (o = some k → S.1 0 70 = nI (R k)) ∧ (o ≠ some k → R k = Y 3 k))
def mO (S : xSt) (Y : Nat → Nat → Nat) (row : Nat → Nat) : Prop := (S.1 0 71 = nI 0 ∧ ∀ i, i < Y 2 3 → row i = i) ∨ (S.1 0 71 = nI 1 ∧ ∀ i, i < Y 2 3 → S.1 46 i = nI (row i))
def mW (S : xSt) (b v : Nat) (Y : Nat → Nat → Nat) (mc wc : List (Nat × Nat)) (R row : Nat → Nat) (fr : Nat) (D : Nat → Nat → Nat) : Prop :=
  mY S b Y mc wc ∧ mD S v Y D ∧ (S.1 0 73 = nI (D 5 0) ∧ S.1 0 74 = nI (D 5 1) ∧ S.1 0 75 = nI fr) ∧ mR S Y R ∧ mO S Y row
/-- what a day of a layer may touch -/
def mQ (v k j : Nat) : Prop := (k = 0 ∧ 73 ≤ j ∧ j ≤ 75) ∨ ((k = 34 ∨ k = 35 ∨ k = 37 ∨ k = 38 ∨ k = 42) ∧ j = v) ∨ (k = 36 ∧ 8 * v ≤ j ∧ j < 8 * v + 8) ∨ (k = 39 ∧ 48 * v ≤ j ∧ j < 48 * v + 48) ∨ ((k = 40 ∨ k = 41) ∧ 6 * v ≤ j ∧ j < 6 * v + 6) ∨ (k = 43 ∧ 240 * v ≤ j ∧ j < 240 * v + 240) ∨ k = 45
section Q31
variable {S Z : xSt} {b v fr : Nat} {Y D : Nat → Nat → Nat} {mc wc : List (Nat × Nat)} {R row : Nat → Nat} {Q : Nat → Nat → Prop}
theorem mKo_fr {wh : Nat} {cs : List (Nat × Nat)} (hf : mFq Q S Z) (hq : ∀ k j, 1 ≤ k → k ≤ 33 → ¬ Q k j) (h : mKo S b wh cs) : mKo Z b wh cs := by
  have e21 : Z.1 21 = S.1 21 := funext fun j => hf.1 _ _ (hq 21 j (by decide) (by decide))
  have e22 : Z.1 22 = S.1 22 := funext fun j => hf.1 _ _ (hq 22 j (by decide) (by decide))
  refine ⟨fun hc => by rw [hf.1 _ _ (hq _ _ (by decide) (by decide))]; exact h.1 hc, fun hc => ?_⟩
  obtain ⟨p, h1, h2, h3, h4⟩ := h.2 hc
  exact ⟨p, by rw [hf.1 _ _ (hq _ _ (by decide) (by decide))]; exact h1, by rw [hf.1 _ _ (hq _ _ (by decide) (by decide))]; exact h2, h3, by rw [e21, e22]; exact h4⟩
theorem mY_fr (hf : mFq Q S Z) (hq : ∀ k j, 1 ≤ k → k ≤ 33 → ¬ Q k j) (hq0 : ¬ Q 0 13) (h : mY S b Y mc wc) : mY Z b Y mc wc := by
  have e : ∀ k j, 1 ≤ k → k ≤ 33 → Z.1 k j = S.1 k j := fun k j h1 h2 => hf.1 _ _ (hq k j h1 h2)
  obtain ⟨h0, ⟨h1, h2, h3, h4⟩, h5, h6, h7, h8, h9, ⟨h10, h11⟩, ⟨h12, h13, h14⟩, h15, h16⟩ := h
  refine ⟨by rw [hf.1 _ _ hq0]; exact h0, ⟨?_, ?_, ?_, ?_⟩, fun k hk => ⟨?_, ?_⟩, fun t ht => ⟨?_, ?_⟩, fun g t hg ht => ?_, fun j hj => ⟨?_, ?_, fun s hs => ⟨?_, ?_⟩⟩, fun a c ha hc => ?_, ⟨?_, ?_⟩, ⟨?_, ?_, ?_⟩, mKo_fr hf hq h15, mKo_fr hf hq h16⟩
  all_goals rw [e _ _ (by decide) (by decide)]
  · exact h1
  · exact h2
  · exact h3
  · exact h4
  · exact (h5 k hk).1
  · exact (h5 k hk).2
  · exact (h6 t ht).1
  · exact (h6 t ht).2
  · exact h7 g t hg ht
  · exact (h8 j hj).1
  · exact (h8 j hj).2.1
  · exact ((h8 j hj).2.2 s hs).1
  · exact ((h8 j hj).2.2 s hs).2
  · exact h9 a c ha hc
  · exact h10
  · exact h11
  · exact h12
  · exact h13
  · exact h14
theorem mD_fr (hY : yrOk Y) (hf : mFq Q S Z) (hq : ∀ k j, mQ v k j → 34 ≤ k → k ≤ 43 → ¬ Q k j) (h60 : D 0 4 ≤ 60) (h : mD S v Y D) : mD Z v Y D := by
  have h8 : Y 2 1 ≤ 8 := hY.1.2.1
  have h62 : Y 2 2 ≤ 6 := hY.1.2.2.1
  have h6 : Y 2 3 ≤ 6 := hY.1.2.2.2
  obtain ⟨⟨h0, h1, h2, h3, h4⟩, h5, h6', h7, h8', h9⟩ := h
  refine ⟨⟨?_, ?_, ?_, ?_, ?_⟩, fun t ht => ?_, fun g t hg ht => ?_, fun j hj => ?_, fun j hj => ?_, fun k hk => ?_⟩
  · rw [hf.1 _ _ (hq _ _ (by unfold mQ; omega) (by decide) (by decide))]; exact h0
  · rw [hf.1 _ _ (hq _ _ (by unfold mQ; omega) (by decide) (by decide))]; exact h1
  · rw [hf.1 _ _ (hq _ _ (by unfold mQ; omega) (by decide) (by decide))]; exact h2
  · rw [hf.1 _ _ (hq _ _ (by unfold mQ; omega) (by decide) (by decide))]; exact h3
  · rw [hf.1 _ _ (hq _ _ (by unfold mQ; omega) (by decide) (by decide))]; exact h4
  · rw [hf.1 _ _ (hq _ _ (by unfold mQ; omega) (by decide) (by decide))]; exact h5 t ht
  · rw [hf.1 _ _ (hq _ _ (by unfold mQ; omega) (by decide) (by decide))]; exact h6' g t hg ht
  · rw [hf.1 _ _ (hq _ _ (by unfold mQ; omega) (by decide) (by decide))]; exact h7 j hj
  · rw [hf.1 _ _ (hq _ _ (by unfold mQ; omega) (by decide) (by decide))]; exact h8' j hj
  · rw [hf.1 _ _ (hq _ _ (by unfold mQ; omega) (by decide) (by decide))]; exact h9 k hk
theorem mR_fr (hf : mFq Q S Z) (hq : ¬ Q 0 69) (hq2 : ¬ Q 0 70) (h : mR S Y R) : mR Z Y R := by
  obtain ⟨o, h1, h2, h3⟩ := h
  exact ⟨o, by rw [hf.1 _ _ hq]; exact h1, h2, fun k hk => ⟨fun e => by rw [hf.1 _ _ hq2]; exact (h3 k hk).1 e, (h3 k hk).2⟩⟩
theorem mO_fr (hf : mFq Q S Z) (hq : ¬ Q 0 71) (hq2 : ∀ i, ¬ Q 46 i) (h : mO S Y row) : mO Z Y row := by
  rcases h with ⟨h1, h2⟩ | ⟨h1, h2⟩
  · exact Or.inl ⟨by rw [hf.1 _ _ hq]; exact h1, h2⟩
  · exact Or.inr ⟨by rw [hf.1 _ _ hq]; exact h1, fun i hi => by rw [hf.1 _ _ (hq2 i)]; exact h2 i hi⟩
/-- only the asked row (45) and the stack -/
def aQ (k _j : Nat) : Prop := k = 45
theorem mW_a (hY : yrOk Y) (hf : mFq aQ S Z) (h60 : D 0 4 ≤ 60) (h : mW S b v Y mc wc R row fr D) : mW Z b v Y mc wc R row fr D := by
  obtain ⟨h1, h2, ⟨h3, h4, h5⟩, h6, h7⟩ := h
  refine ⟨mY_fr hf (fun k j h1 h2 => by unfold aQ; omega) (by unfold aQ; omega) h1, mD_fr hY hf (fun k j _ h1 h2 => by unfold aQ; omega) h60 h2, ⟨?_, ?_, ?_⟩, mR_fr hf (by unfold aQ; omega) (by unfold aQ; omega) h6, mO_fr hf (by unfold aQ; omega) (fun i => by unfold aQ; omega) h7⟩
  · rw [hf.1 _ _ (by unfold aQ; omega)]; exact h3
  · rw [hf.1 _ _ (by unfold aQ; omega)]; exact h4
  · rw [hf.1 _ _ (by unfold aQ; omega)]; exact h5
/-- an update of the day's cells, as the plain row has it -/
theorem mW_y {k j x c i : Nat} (hY : yrOk Y) (hv : v < 22) (h60 : D 0 4 ≤ 60) (hk : mQ v k j) (hk0 : k ≠ 45)
    (hE : mD (xuI S k j (nI x)) v Y (dU D c i x)) (h5 : (xuI S k j (nI x)).1 0 73 = nI (dU D c i x 5 0) ∧ (xuI S k j (nI x)).1 0 74 = nI (dU D c i x 5 1)) (h75 : k = 0 → j ≠ 75)
    (h : mW S b v Y mc wc R row fr D) : mW (xuI S k j (nI x)) b v Y mc wc R row fr (dU D c i x) := by
  have hf : mFq (fun k' j' => k' = k ∧ j' = j) S (xuI S k j (nI x)) := mFq_upd ⟨rfl, rfl⟩
  obtain ⟨h1, h2, ⟨h3, h4, h5'⟩, h6, h7⟩ := h
  refine ⟨mY_fr hf (fun k' j' a1 a2 => by unfold mQ at hk; omega) (by unfold mQ at hk; omega) h1, hE, ⟨h5.1, h5.2, ?_⟩, mR_fr hf (by unfold mQ at hk; omega) (by unfold mQ at hk; omega) h6, mO_fr hf (by unfold mQ at hk; omega) (fun i => by unfold mQ at hk; omega) h7⟩
  rw [hf.1 _ _ (by omega)]; exact h5'
theorem quI_k {S : xSt} {k j k' j' : Nat} {x : Int32} (h : ¬ (k' = k ∧ j' = j)) : (xuI S k j x).1 k' j' = S.1 k' j' := (mFq_upd (Q := fun a b => a = k ∧ b = j) ⟨rfl, rfl⟩).1 k' j' h
theorem quI_e {S : xSt} {k j : Nat} {x : Int32} : (xuI S k j x).1 k j = x := by rw [quI_s, if_pos rfl]
theorem mW_1 {t x : Nat} (hY : yrOk Y) (hv : v < 22) (h60 : D 0 4 ≤ 60) (ht : t < 8) (h : mW S b v Y mc wc R row fr D) : mW (xuI S 36 (8 * v + t) (nI x)) b v Y mc wc R row fr (dU D 1 t x) := by
  have h8 : Y 2 1 ≤ 8 := hY.1.2.1
  refine mW_y hY hv h60 (by unfold mQ; omega) (by decide) ?_ ⟨?_, ?_⟩ (by omega) h
  · obtain ⟨⟨a0, a1, a2, a3, a4⟩, a5, a6, a7, a8, a9⟩ := h.2.1
    refine ⟨⟨?_, ?_, ?_, ?_, ?_⟩, fun t' ht' => ?_, fun g t hg ht => ?_, fun j hj => ?_, fun j hj => ?_, fun k hk => ?_⟩
    · rw [quI_k (by omega), dU_c (by decide)]; exact a0
    · rw [quI_k (by omega), dU_c (by decide)]; exact a1
    · rw [quI_k (by omega), dU_c (by decide)]; exact a2
    · rw [quI_k (by omega), dU_c (by decide)]; exact a3
    · rw [quI_k (by omega), dU_c (by decide)]; exact a4
    · by_cases e : t' = t
      · subst e; rw [quI_e, dU_s]
      · rw [quI_k (by omega), dU_j e]; exact a5 t' ht'
    · rw [quI_k (by omega), dU_c (by decide)]; exact a6 g t hg ht
    · rw [quI_k (by omega), dU_c (by decide)]; exact a7 j hj
    · rw [quI_k (by omega), dU_c (by decide)]; exact a8 j hj
    · rw [quI_k (by omega), dU_c (by decide)]; exact a9 k (by rw [dU_c (by decide)] at hk; exact hk)
  · rw [quI_k (by omega), dU_c (by decide)]; exact h.2.2.1.1
  · rw [quI_k (by omega), dU_c (by decide)]; exact h.2.2.1.2.1
theorem mW_2 {g t x : Nat} (hY : yrOk Y) (hv : v < 22) (h60 : D 0 4 ≤ 60) (hg : g < 6) (ht : t < 8) (h : mW S b v Y mc wc R row fr D) : mW (xuI S 39 (48 * v + 8 * g + t) (nI x)) b v Y mc wc R row fr (dU D 2 (8 * g + t) x) := by
  have h8 : Y 2 1 ≤ 8 := hY.1.2.1
  have h62 : Y 2 2 ≤ 6 := hY.1.2.2.1
  refine mW_y hY hv h60 (by unfold mQ; omega) (by decide) ?_ ⟨?_, ?_⟩ (by omega) h
  · obtain ⟨⟨a0, a1, a2, a3, a4⟩, a5, a6, a7, a8, a9⟩ := h.2.1
    refine ⟨⟨?_, ?_, ?_, ?_, ?_⟩, fun t' ht' => ?_, fun g' t' hg' ht' => ?_, fun j hj => ?_, fun j hj => ?_, fun k hk => ?_⟩
    · rw [quI_k (by omega), dU_c (by decide)]; exact a0
    · rw [quI_k (by omega), dU_c (by decide)]; exact a1
    · rw [quI_k (by omega), dU_c (by decide)]; exact a2
    · rw [quI_k (by omega), dU_c (by decide)]; exact a3
    · rw [quI_k (by omega), dU_c (by decide)]; exact a4
    · rw [quI_k (by omega), dU_c (by decide)]; exact a5 t' ht'
    · by_cases e : 8 * g' + t' = 8 * g + t
      · rw [show 48 * v + 8 * g' + t' = 48 * v + 8 * g + t by omega, e, quI_e, dU_s]
      · rw [quI_k (by omega), dU_j e]; exact a6 g' t' hg' ht'
    · rw [quI_k (by omega), dU_c (by decide)]; exact a7 j hj
    · rw [quI_k (by omega), dU_c (by decide)]; exact a8 j hj
    · rw [quI_k (by omega), dU_c (by decide)]; exact a9 k (by rw [dU_c (by decide)] at hk; exact hk)
  · rw [quI_k (by omega), dU_c (by decide)]; exact h.2.2.1.1
  · rw [quI_k (by omega), dU_c (by decide)]; exact h.2.2.1.2.1
theorem mW_3 {i x : Nat} (hY : yrOk Y) (hv : v < 22) (h60 : D 0 4 ≤ 60) (hi : i < 6) (h : mW S b v Y mc wc R row fr D) : mW (xuI S 40 (6 * v + i) (nI x)) b v Y mc wc R row fr (dU D 3 i x) := by
  have h6 : Y 2 3 ≤ 6 := hY.1.2.2.2
  refine mW_y hY hv h60 (by unfold mQ; omega) (by decide) ?_ ⟨?_, ?_⟩ (by omega) h
  · obtain ⟨⟨a0, a1, a2, a3, a4⟩, a5, a6, a7, a8, a9⟩ := h.2.1
    refine ⟨⟨?_, ?_, ?_, ?_, ?_⟩, fun t' ht' => ?_, fun g' t' hg' ht' => ?_, fun j hj => ?_, fun j hj => ?_, fun k hk => ?_⟩
    · rw [quI_k (by omega), dU_c (by decide)]; exact a0
    · rw [quI_k (by omega), dU_c (by decide)]; exact a1
    · rw [quI_k (by omega), dU_c (by decide)]; exact a2
    · rw [quI_k (by omega), dU_c (by decide)]; exact a3
    · rw [quI_k (by omega), dU_c (by decide)]; exact a4
    · rw [quI_k (by omega), dU_c (by decide)]; exact a5 t' ht'
    · rw [quI_k (by omega), dU_c (by decide)]; exact a6 g' t' hg' ht'
    · by_cases e : j = i
      · subst e; rw [quI_e, dU_s]
      · rw [quI_k (by omega), dU_j e]; exact a7 j hj
    · rw [quI_k (by omega), dU_c (by decide)]; exact a8 j hj
    · rw [quI_k (by omega), dU_c (by decide)]; exact a9 k (by rw [dU_c (by decide)] at hk; exact hk)
  · rw [quI_k (by omega), dU_c (by decide)]; exact h.2.2.1.1
  · rw [quI_k (by omega), dU_c (by decide)]; exact h.2.2.1.2.1
/-- day, fines, broken, held: their cells -/
def m0c (i : Nat) : Nat := if i = 0 then 34 else if i = 1 then 35 else if i = 2 then 37 else 38
theorem mW_0 {k i x : Nat} (hY : yrOk Y) (hv : v < 22) (h60 : D 0 4 ≤ 60) (hi : i < 4) (hk : k = m0c i) (h : mW S b v Y mc wc R row fr D) : mW (xuI S k v (nI x)) b v Y mc wc R row fr (dU D 0 i x) := by
  have hk2 : (i = 0 ∧ k = 34) ∨ (i = 1 ∧ k = 35) ∨ (i = 2 ∧ k = 37) ∨ (i = 3 ∧ k = 38) := by
    unfold m0c at hk
    repeat' split at hk
    all_goals omega
  refine mW_y hY hv h60 (by unfold mQ; omega) (by omega) ?_ ⟨?_, ?_⟩ (by omega) h
  · obtain ⟨⟨a0, a1, a2, a3, a4⟩, a5, a6, a7, a8, a9⟩ := h.2.1
    refine ⟨⟨?_, ?_, ?_, ?_, ?_⟩, fun t' ht' => ?_, fun g' t' hg' ht' => ?_, fun j hj => ?_, fun j hj => ?_, fun k' hk' => ?_⟩
    · by_cases e : i = 0
      · subst e; rw [show k = 34 by omega, quI_e, dU_s]
      · rw [quI_k (by omega), dU_j (by omega)]; exact a0
    · by_cases e : i = 1
      · subst e; rw [show k = 35 by omega, quI_e, dU_s]
      · rw [quI_k (by omega), dU_j (by omega)]; exact a1
    · by_cases e : i = 2
      · subst e; rw [show k = 37 by omega, quI_e, dU_s]
      · rw [quI_k (by omega), dU_j (by omega)]; exact a2
    · by_cases e : i = 3
      · subst e; rw [show k = 38 by omega, quI_e, dU_s]
      · rw [quI_k (by omega), dU_j (by omega)]; exact a3
    · rw [quI_k (by omega), dU_j (by omega)]; exact a4
    · rw [quI_k (by omega), dU_c (by decide)]; exact a5 t' ht'
    · rw [quI_k (by omega), dU_c (by decide)]; exact a6 g' t' hg' ht'
    · rw [quI_k (by omega), dU_c (by decide)]; exact a7 j hj
    · rw [quI_k (by omega), dU_c (by decide)]; exact a8 j hj
    · rw [quI_k (by omega), dU_c (by decide)]; exact a9 k' (by rw [dU_j (by omega)] at hk'; exact hk')
  · rw [quI_k (by omega), dU_c (by decide)]; exact h.2.2.1.1
  · rw [quI_k (by omega), dU_c (by decide)]; exact h.2.2.1.2.1
theorem mD_dU5 {i x : Nat} (h : mD S v Y D) : mD S v Y (dU D 5 i x) := h
theorem mW_5 {i x : Nat} (hi : i < 2) (h : mW S b v Y mc wc R row fr D) : mW (xuI S 0 (73 + i) (nI x)) b v Y mc wc R row fr (dU D 5 i x) := by
  have hf : mFq (fun k' j' => k' = 0 ∧ j' = 73 + i) S (xuI S 0 (73 + i) (nI x)) := mFq_upd ⟨rfl, rfl⟩
  obtain ⟨h1, h2, ⟨h3, h4, h5'⟩, h6, h7⟩ := h
  refine ⟨mY_fr hf (fun k' j' a1 a2 => by omega) (by omega) h1, ?_, ⟨?_, ?_, ?_⟩, mR_fr hf (by omega) (by omega) h6, mO_fr hf (by omega) (fun i => by omega) h7⟩
  · obtain ⟨⟨a0, a1, a2, a3, a4⟩, a5, a6, a7, a8, a9⟩ := h2
    refine ⟨⟨?_, ?_, ?_, ?_, ?_⟩, fun t' ht' => ?_, fun g' t' hg' ht' => ?_, fun j hj => ?_, fun j hj => ?_, fun k' hk' => ?_⟩
    · rw [quI_k (by omega), dU_c (by decide)]; exact a0
    · rw [quI_k (by omega), dU_c (by decide)]; exact a1
    · rw [quI_k (by omega), dU_c (by decide)]; exact a2
    · rw [quI_k (by omega), dU_c (by decide)]; exact a3
    · rw [quI_k (by omega), dU_c (by decide)]; exact a4
    · rw [quI_k (by omega), dU_c (by decide)]; exact a5 t' ht'
    · rw [quI_k (by omega), dU_c (by decide)]; exact a6 g' t' hg' ht'
    · rw [quI_k (by omega), dU_c (by decide)]; exact a7 j hj
    · rw [quI_k (by omega), dU_c (by decide)]; exact a8 j hj
    · rw [quI_k (by omega), dU_c (by decide)]; exact a9 k' (by rw [dU_c (by decide)] at hk'; exact hk')
  · by_cases e : i = 0
    · subst e; rw [quI_e, dU_s]
    · rw [quI_k (by omega), dU_j (by omega)]; exact h3
  · by_cases e : i = 1
    · subst e; rw [quI_e, dU_s]
    · rw [quI_k (by omega), dU_j (by omega)]; exact h4
  · rw [quI_k (by omega)]; exact h5'
/-- lateness and count of steps are the class's own -/
theorem mW_free {i x : Nat} (hi : 2 ≤ i) (h : mW S b v Y mc wc R row fr D) : mW S b v Y mc wc R row fr (dU D 5 i x) := by
  obtain ⟨h1, h2, ⟨h3, h4, h5⟩, h6⟩ := h
  refine ⟨h1, ?_, ⟨by rw [dU_j (by omega)]; exact h3, by rw [dU_j (by omega)]; exact h4, h5⟩, h6⟩
  obtain ⟨⟨a0, a1, a2, a3, a4⟩, a5, a6, a7, a8, a9⟩ := h2
  refine ⟨⟨?_, ?_, ?_, ?_, ?_⟩, fun t' ht' => ?_, fun g' t' hg' ht' => ?_, fun j hj => ?_, fun j hj => ?_, fun k' hk' => ?_⟩
  · rw [dU_c (by decide)]; exact a0
  · rw [dU_c (by decide)]; exact a1
  · rw [dU_c (by decide)]; exact a2
  · rw [dU_c (by decide)]; exact a3
  · rw [dU_c (by decide)]; exact a4
  · rw [dU_c (by decide)]; exact a5 t' ht'
  · rw [dU_c (by decide)]; exact a6 g' t' hg' ht'
  · rw [dU_c (by decide)]; exact a7 j hj
  · rw [dU_c (by decide)]; exact a8 j hj
  · rw [dU_c (by decide)]; exact a9 k' (by rw [dU_c (by decide)] at hk'; exact hk')
theorem mW_keep {j t g : Nat} (hY : yrOk Y) (hv : v < 22) (h59 : D 0 4 ≤ 59) (h : mW S b v Y mc wc R row fr D) :
    mW (xuI (xuI (xuI (xuI (xuI S 43 (240 * v + 4 * D 0 4) (nI (D 0 0))) 43 (240 * v + 4 * D 0 4 + 1) (nI j)) 43 (240 * v + 4 * D 0 4 + 2) (nI t)) 43 (240 * v + 4 * D 0 4 + 3) (nI g)) 42 v (nI (D 0 4 + 1))) b v Y mc wc R row fr (s_keep D j t g) ∧
    mFq (mQ v) S (xuI (xuI (xuI (xuI (xuI S 43 (240 * v + 4 * D 0 4) (nI (D 0 0))) 43 (240 * v + 4 * D 0 4 + 1) (nI j)) 43 (240 * v + 4 * D 0 4 + 2) (nI t)) 43 (240 * v + 4 * D 0 4 + 3) (nI g)) 42 v (nI (D 0 4 + 1))) := by
  have hf : mFq (fun k i => (k = 43 ∧ 240 * v + 4 * D 0 4 ≤ i ∧ i < 240 * v + 240) ∨ (k = 42 ∧ i = v)) S (xuI (xuI (xuI (xuI (xuI S 43 (240 * v + 4 * D 0 4) (nI (D 0 0))) 43 (240 * v + 4 * D 0 4 + 1) (nI j)) 43 (240 * v + 4 * D 0 4 + 2) (nI t)) 43 (240 * v + 4 * D 0 4 + 3) (nI g)) 42 v (nI (D 0 4 + 1))) :=
    mFq_trans (mFq_trans (mFq_trans (mFq_trans (mFq_upd (by omega)) (mFq_upd (by omega))) (mFq_upd (by omega))) (mFq_upd (by omega))) (mFq_upd (by omega))
  refine ⟨?_, mFq_mono hf (fun k i hh => by unfold mQ; omega)⟩
  obtain ⟨h1, h2, ⟨h3, h4, h5⟩, h6, h7⟩ := h
  obtain ⟨⟨a0, a1, a2, a3, a4⟩, a5, a6, a7, a8, a9⟩ := h2
  have eo : ∀ c i, c ≠ 6 → ¬ (c = 0 ∧ i = 4) → s_keep D j t g c i = D c i := by
    intro c i hc hi
    unfold s_keep
    by_cases e : c = 0
    · subst e; rw [dU_j (by omega), dU_c (by decide), dU_c (by decide), dU_c (by decide), dU_c (by decide)]
    · rw [dU_c e, dU_c hc, dU_c hc, dU_c hc, dU_c hc]
  refine ⟨mY_fr hf (fun k' j' b1 b2 => by omega) (by omega) h1, ⟨⟨?_, ?_, ?_, ?_, ?_⟩, fun t' ht' => ?_, fun g' t' hg' ht' => ?_, fun j' hj' => ?_, fun j' hj' => ?_, fun k' hk' => ?_⟩, ⟨?_, ?_, ?_⟩, mR_fr hf (by omega) (by omega) h6, mO_fr hf (by omega) (fun i => by omega) h7⟩
  · rw [hf.1 _ _ (by omega), eo _ _ (by decide) (by omega)]; exact a0
  · rw [hf.1 _ _ (by omega), eo _ _ (by decide) (by omega)]; exact a1
  · rw [hf.1 _ _ (by omega), eo _ _ (by decide) (by omega)]; exact a2
  · rw [hf.1 _ _ (by omega), eo _ _ (by decide) (by omega)]; exact a3
  · rw [quI_e]; unfold s_keep; rw [dU_s]
  · rw [hf.1 _ _ (by omega), eo _ _ (by decide) (by omega)]; exact a5 t' ht'
  · rw [hf.1 _ _ (by omega), eo _ _ (by decide) (by omega)]; exact a6 g' t' hg' ht'
  · rw [hf.1 _ _ (by omega), eo _ _ (by decide) (by omega)]; exact a7 j' hj'
  · rw [hf.1 _ _ (by omega), eo _ _ (by decide) (by omega)]; exact a8 j' hj'
  · have hk2 : k' < 4 * (D 0 4 + 1) := by unfold s_keep at hk'; rw [dU_s] at hk'; exact hk'
    unfold s_keep
    rw [quI_k (by omega), dU_c (by decide)]
    by_cases e3 : k' = 4 * D 0 4 + 3
    · subst e3; rw [show 240 * v + (4 * D 0 4 + 3) = 240 * v + 4 * D 0 4 + 3 by omega, quI_e, dU_s]
    · rw [quI_k (by omega), dU_j e3]
      by_cases e2 : k' = 4 * D 0 4 + 2
      · subst e2; rw [show 240 * v + (4 * D 0 4 + 2) = 240 * v + 4 * D 0 4 + 2 by omega, quI_e, dU_s]
      · rw [quI_k (by omega), dU_j e2]
        by_cases e1 : k' = 4 * D 0 4 + 1
        · subst e1; rw [show 240 * v + (4 * D 0 4 + 1) = 240 * v + 4 * D 0 4 + 1 by omega, quI_e, dU_s]
        · rw [quI_k (by omega), dU_j e1]
          by_cases e0 : k' = 4 * D 0 4
          · subst e0; rw [quI_e, dU_s]
          · rw [quI_k (by omega), dU_j e0]; exact a9 k' (by omega)
  · rw [hf.1 _ _ (by omega), eo _ _ (by decide) (by omega)]; exact h3
  · rw [hf.1 _ _ (by omega), eo _ _ (by decide) (by omega)]; exact h4
  · rw [hf.1 _ _ (by omega)]; exact h5
end Q31

