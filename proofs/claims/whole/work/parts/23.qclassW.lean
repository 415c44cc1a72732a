theorem nI_ite {c : Prop} [Decidable c] {a b : Nat} : (if c then nI a else nI b) = nI (if c then a else b) := by split <;> rfl
theorem qbit_t {u t : Nat} (h : u.testBit t = true) : qbit u t = 1 := by unfold qbit; rw [if_pos h]
theorem qbit_f {u t : Nat} (h : u.testBit t = false) : qbit u t = 0 := by unfold qbit; rw [h]; rfl
theorem qFr_c {P : Nat → Prop} {S Z : xSt} (h : qFr P S Z) {k j : Nat} (hk : ¬ P k) : Z.1 k j = S.1 k j := by rw [h.1 k hk]
def dP (b w k : Nat) : Prop := k = sh w 0 ∨ k = sh w 3 ∨ (yd w 0 ≤ k ∧ k ≤ yd w 4) ∨ k = yc b 16 ∨ (w = 0 ∧ k = 43)
section Q23
variable {S Z : xSt} {b w n : Nat} {Y D : Nat → Nat → Nat} {mc wc : List (Nat × Nat)} {R row : Nat → Nat}
theorem cY_fr {P : Nat → Prop} (hf : qFr P S Z) (h : cY S b Y mc wc) (hp : ∀ c, c ≤ 15 → ¬ P (yc b c)) : cY Z b Y mc wc := by
  obtain ⟨h1, h2, h3, h4, h5, h6, h7, h8⟩ := h
  refine ⟨fun c j hc => by rw [qFr_c hf (hp c (by omega))]; exact h1 c j hc, fun j => by rw [qFr_c hf (hp 14 (by omega))]; exact h2 j, h3, h4, h5, h6, ?_, ?_⟩
  · rw [hf.1 _ (hp 15 (by omega))]; exact h7
  · rw [hf.1 _ (hp 15 (by omega))]; exact h8
theorem cD_fr {P : Nat → Prop} (hf : qFr P S Z) (h : cD S w D) (hp : ∀ c, c ≤ 4 → ¬ P (yd w c)) (hk : w = 0 → ¬ P 43) : cD Z w D := by
  obtain ⟨h1, h2, h3⟩ := h
  refine ⟨fun j hj => by rw [qFr_c hf (hp 0 (by omega))]; exact h1 j hj, fun c j hc hc2 => by rw [qFr_c hf (hp c hc2)]; exact h2 c j hc hc2, fun h0 => ⟨by rw [qFr_c hf (hp 0 (by omega))]; exact (h3 h0).1, fun k => by rw [qFr_c hf (hk h0)]; exact (h3 h0).2 k⟩⟩
/-- what touches neither year nor yard nor the shop's own row leaves all as it is -/
theorem cW_fr {P : Nat → Prop} (hf : qFr P S Z) (h : cW S b w Y mc wc R row D) (hp : ∀ c, c ≤ 15 → ¬ P (yc b c)) (hp2 : ∀ c, c ≤ 4 → ¬ P (yd w c)) (hk : w = 0 → ¬ P 43) (hs0 : ¬ P (sh w 0)) (hs1 : ¬ P (sh w 1)) (hs2 : ¬ P (sh w 2)) : cW Z b w Y mc wc R row D := by
  obtain ⟨h1, ⟨h2, h2b⟩, h3, h4, h5, ⟨h6, h7, h8, h9⟩, h10⟩ := h
  refine ⟨cY_fr hf h1 hp, ⟨by rw [hf.2]; exact h2, by rw [hf.2]; exact h2b⟩, fun k hk => by rw [qFr_c hf hs1]; exact h3 k hk, fun k hk => by rw [qFr_c hf hs2]; exact h4 k hk, cD_fr hf h5 hp2 hk, ⟨?_, ?_, ?_, ?_⟩, ?_⟩ <;> rw [qFr_c hf hs0] <;> assumption
theorem cW_f {j : Nat} {x : Int32} (hb : b < 2) (hw : w < 2) (h : cW S b w Y mc wc R row D) : cW (xuI S (sh w 3) j x) b w Y mc wc R row D := by
  exact cW_fr (P := fun k => k = sh w 3) (qFr_upd rfl) h (fun c hc => by simp only [yc, sh]; omega) (fun c hc => by simp only [yd, sh]; omega) (fun h0 => by simp only [sh]; omega) (by simp only [sh]; omega) (by simp only [sh]; omega) (by simp only [sh]; omega)
theorem cW_st (hb : b < 2) (hw : w < 2) (hf : qFr (fun k => k = yc b 16) S Z) (h : cW S b w Y mc wc R row D) : cW Z b w Y mc wc R row D := by
  exact cW_fr hf h (fun c hc => by simp only [yc]; omega) (fun c hc => by simp only [yd, yc]; omega) (fun h0 => by simp only [yc]; omega) (by simp only [sh, yc]; omega) (by simp only [sh, yc]; omega) (by simp only [sh, yc]; omega)
theorem cW_d {c j v : Nat} (hb : b < 2) (hw : w < 2) (hc : 1 ≤ c) (hc2 : c ≤ 4) (h : cW S b w Y mc wc R row D) : cW (xuI S (yd w c) j (nI v)) b w Y mc wc R row (dU D c j v) := by
  obtain ⟨h1, ⟨h2, h2b⟩, h3, h4, ⟨d1, d2, d3⟩, ⟨h6, h7, h8, h9⟩, h10⟩ := h
  have hf : qFr (fun k => k = yd w c) S (xuI S (yd w c) j (nI v)) := qFr_upd rfl
  have n1 : ∀ c', c' ≤ 2 → ¬ sh w c' = yd w c := by intro c' h'; simp only [yd, sh]; omega
  refine ⟨cY_fr hf h1 (by intro c' h'; simp only [yc, yd]; omega), ⟨h2, h2b⟩, fun k hk => by rw [qFr_c hf (n1 1 (by omega))]; exact h3 k hk, fun k hk => by rw [qFr_c hf (n1 2 (by omega))]; exact h4 k hk, ⟨fun i hi => ?_, fun c' i h1 h2 => ?_, fun h0 => ⟨?_, fun k => ?_⟩⟩, ⟨?_, ?_, ?_, ?_⟩, ?_⟩
  · rw [qFr_c hf (by simp only [yd]; omega), dU_c (by omega)]; exact d1 i hi
  · by_cases e : c' = c
    · subst e
      rw [quI_s, dU_r]
      split
      · rfl
      · exact d2 _ _ h1 h2
    · rw [qFr_c hf (by simp only [yd]; omega), dU_c e]; exact d2 _ _ h1 h2
  · rw [qFr_c hf (by simp only [yd]; omega), dU_c (by omega)]; exact (d3 h0).1
  · rw [qFr_c hf (by simp only [yd]; omega), dU_c (by omega)]; exact (d3 h0).2 k
  · rw [qFr_c hf (n1 0 (by omega)), dU_c (by omega)]; exact h6
  · rw [qFr_c hf (n1 0 (by omega)), dU_c (by omega)]; exact h7
  · rw [qFr_c hf (n1 0 (by omega)), dU_c (by omega)]; exact h8
  · rw [qFr_c hf (n1 0 (by omega)), dU_c (by omega)]; exact h9
  · rw [qFr_c hf (n1 0 (by omega))]; exact h10
theorem cW_0 {j v : Nat} (hb : b < 2) (hw : w < 2) (hj : j < 4) (h : cW S b w Y mc wc R row D) : cW (xuI S (yd w 0) j (nI v)) b w Y mc wc R row (dU D 0 j v) := by
  obtain ⟨h1, ⟨h2, h2b⟩, h3, h4, ⟨d1, d2, d3⟩, ⟨h6, h7, h8, h9⟩, h10⟩ := h
  have hf : qFr (fun k => k = yd w 0) S (xuI S (yd w 0) j (nI v)) := qFr_upd rfl
  have n1 : ∀ c', c' ≤ 2 → ¬ sh w c' = yd w 0 := by intro c' h'; simp only [yd, sh]; omega
  refine ⟨cY_fr hf h1 (by intro c' h'; simp only [yc, yd]; omega), ⟨h2, h2b⟩, fun k hk => by rw [qFr_c hf (n1 1 (by omega))]; exact h3 k hk, fun k hk => by rw [qFr_c hf (n1 2 (by omega))]; exact h4 k hk, ⟨fun i hi => ?_, fun c' i h1 h2 => ?_, fun h0 => ⟨?_, fun k => ?_⟩⟩, ⟨?_, ?_, ?_, ?_⟩, ?_⟩
  · rw [quI_s, dU_r]
    split
    · rfl
    · exact d1 _ hi
  · rw [qFr_c hf (by simp only [yd]; omega), dU_c (by omega)]; exact d2 _ _ h1 h2
  · rw [quI_s, if_neg (by omega), dU_j (by omega)]; exact (d3 h0).1
  · rw [qFr_c hf (by simp only [yd]; omega), dU_c (by omega)]; exact (d3 h0).2 k
  · rw [qFr_c hf (n1 0 (by omega)), dU_c (by omega)]; exact h6
  · rw [qFr_c hf (n1 0 (by omega)), dU_c (by omega)]; exact h7
  · rw [qFr_c hf (n1 0 (by omega)), dU_c (by omega)]; exact h8
  · rw [qFr_c hf (n1 0 (by omega)), dU_c (by omega)]; exact h9
  · rw [qFr_c hf (n1 0 (by omega))]; exact h10
theorem cW_5 {j v : Nat} (hb : b < 2) (hw : w < 2) (hj : j < 4) (h : cW S b w Y mc wc R row D) : cW (xuI S (sh w 0) (7 + j) (nI v)) b w Y mc wc R row (dU D 5 j v) := by
  obtain ⟨h1, ⟨h2, h2b⟩, h3, h4, ⟨d1, d2, d3⟩, ⟨h6, h7, h8, h9⟩, h10⟩ := h
  have hf : qFr (fun k => k = sh w 0) S (xuI S (sh w 0) (7 + j) (nI v)) := qFr_upd rfl
  have n1 : ∀ c', c' ≤ 2 → 1 ≤ c' → ¬ sh w c' = sh w 0 := by intro c' h' h''; simp only [sh]; omega
  refine ⟨cY_fr hf h1 (by intro c' h'; simp only [yc, sh]; omega), ⟨h2, h2b⟩, fun k hk => by rw [qFr_c hf (n1 1 (by omega) (by omega))]; exact h3 k hk, fun k hk => by rw [qFr_c hf (n1 2 (by omega) (by omega))]; exact h4 k hk, ⟨fun i hi => ?_, fun c' i h1 h2 => ?_, fun h0 => ⟨?_, fun k => ?_⟩⟩, ⟨?_, ?_, ?_, ?_⟩, ?_⟩
  · rw [qFr_c hf (by simp only [yd, sh]; omega), dU_c (by omega)]; exact d1 i hi
  · rw [qFr_c hf (by simp only [yd, sh]; omega), dU_c (by omega)]; exact d2 _ _ h1 h2
  · rw [qFr_c hf (by simp only [yd, sh]; omega), dU_c (by omega)]; exact (d3 h0).1
  · rw [qFr_c hf (by simp only [sh]; omega), dU_c (by omega)]; exact (d3 h0).2 k
  · rw [quI_s, dU_r]; by_cases e : j = 0
    · rw [if_pos (by omega), if_pos (by omega)]
    · rw [if_neg (by omega), if_neg (by omega)]; exact h6
  · rw [quI_s, dU_r]; by_cases e : j = 1
    · rw [if_pos (by omega), if_pos (by omega)]
    · rw [if_neg (by omega), if_neg (by omega)]; exact h7
  · rw [quI_s, dU_r]; by_cases e : j = 2
    · rw [if_pos (by omega), if_pos (by omega)]
    · rw [if_neg (by omega), if_neg (by omega)]; exact h8
  · rw [quI_s, dU_r]; by_cases e : j = 3
    · rw [if_pos (by omega), if_pos (by omega)]
    · rw [if_neg (by omega), if_neg (by omega)]; exact h9
  · rw [quI_s, if_neg (by omega)]; exact h10
/-- the kept rows: of now alone -/
theorem cW_k {k v : Nat} (hb : b < 2) (h : cW S b 0 Y mc wc R row D) : cW (xuI S 43 k (nI v)) b 0 Y mc wc R row (dU D 6 k v) := by
  obtain ⟨h1, ⟨h2, h2b⟩, h3, h4, ⟨d1, d2, d3⟩, ⟨h6, h7, h8, h9⟩, h10⟩ := h
  have hf : qFr (fun k => k = 43) S (xuI S 43 k (nI v)) := qFr_upd rfl
  have n1 : ∀ c', c' ≤ 2 → ¬ sh 0 c' = 43 := by intro c' h'; simp only [sh]; omega
  refine ⟨cY_fr hf h1 (by intro c' h'; simp only [yc]; omega), ⟨h2, h2b⟩, fun k hk => by rw [qFr_c hf (n1 1 (by omega))]; exact h3 k hk, fun k hk => by rw [qFr_c hf (n1 2 (by omega))]; exact h4 k hk, ⟨fun i hi => ?_, fun c' i h1 h2 => ?_, fun h0 => ⟨?_, fun k' => ?_⟩⟩, ⟨?_, ?_, ?_, ?_⟩, ?_⟩
  · rw [qFr_c hf (by simp only [yd]; omega), dU_c (by omega)]; exact d1 i hi
  · rw [qFr_c hf (by simp only [yd]; omega), dU_c (by omega)]; exact d2 _ _ h1 h2
  · rw [qFr_c hf (by simp only [yd]; omega), dU_c (by omega)]; exact (d3 h0).1
  · rw [quI_s, dU_r]
    split
    · rfl
    · exact (d3 h0).2 _
  · rw [qFr_c hf (n1 0 (by omega)), dU_c (by omega)]; exact h6
  · rw [qFr_c hf (n1 0 (by omega)), dU_c (by omega)]; exact h7
  · rw [qFr_c hf (n1 0 (by omega)), dU_c (by omega)]; exact h8
  · rw [qFr_c hf (n1 0 (by omega)), dU_c (by omega)]; exact h9
  · rw [qFr_c hf (n1 0 (by omega))]; exact h10
theorem cW_told {v : Nat} (hb : b < 2) (h : cW S b 0 Y mc wc R row D) : cW (xuI S (yd 0 0) 4 (nI v)) b 0 Y mc wc R row (dU D 0 4 v) := by
  obtain ⟨h1, ⟨h2, h2b⟩, h3, h4, ⟨d1, d2, d3⟩, ⟨h6, h7, h8, h9⟩, h10⟩ := h
  have hf : qFr (fun k => k = yd 0 0) S (xuI S (yd 0 0) 4 (nI v)) := qFr_upd rfl
  have n1 : ∀ c', c' ≤ 2 → ¬ sh 0 c' = yd 0 0 := by intro c' h'; simp only [sh, yd]; omega
  refine ⟨cY_fr hf h1 (by intro c' h'; simp only [yc, yd]; omega), ⟨h2, h2b⟩, fun k hk => by rw [qFr_c hf (n1 1 (by omega))]; exact h3 k hk, fun k hk => by rw [qFr_c hf (n1 2 (by omega))]; exact h4 k hk, ⟨fun i hi => ?_, fun c' i h1 h2 => ?_, fun h0 => ⟨?_, fun k' => ?_⟩⟩, ⟨?_, ?_, ?_, ?_⟩, ?_⟩
  · rw [quI_s, if_neg (by omega), dU_j (by omega)]; exact d1 i hi
  · rw [qFr_c hf (by simp only [yd]; omega), dU_c (by omega)]; exact d2 _ _ h1 h2
  · rw [quI_s, if_pos rfl, dU_s]
  · rw [qFr_c hf (by simp only [yd]; omega), dU_c (by omega)]; exact (d3 h0).2 _
  · rw [qFr_c hf (n1 0 (by omega)), dU_c (by omega)]; exact h6
  · rw [qFr_c hf (n1 0 (by omega)), dU_c (by omega)]; exact h7
  · rw [qFr_c hf (n1 0 (by omega)), dU_c (by omega)]; exact h8
  · rw [qFr_c hf (n1 0 (by omega)), dU_c (by omega)]; exact h9
  · rw [qFr_c hf (n1 0 (by omega))]; exact h10
/-- of the trial none are kept -/
theorem cW_nk {c k v : Nat} (hck : c = 6 ∨ (c = 0 ∧ k = 4)) (h : cW S b 1 Y mc wc R row D) : cW S b 1 Y mc wc R row (dU D c k v) := by
  obtain ⟨h1, h2, h3, h4, ⟨d1, d2, d3⟩, ⟨h6, h7, h8, h9⟩, h10⟩ := h
  refine ⟨h1, h2, h3, h4, ⟨fun i hi => ?_, fun c' i h1 h2 => ?_, fun h0 => by cases h0⟩, ⟨?_, ?_, ?_, ?_⟩, h10⟩
  · rw [show dU D c k v 0 i = D 0 i from by rcases hck with h | ⟨h, hk⟩; exact dU_c (by omega); exact dU_j (by omega)]; exact d1 i hi
  · rw [dU_c (by omega)]; exact d2 _ _ h1 h2
  · rw [dU_c (by omega)]; exact h6
  · rw [dU_c (by omega)]; exact h7
  · rw [dU_c (by omega)]; exact h8
  · rw [dU_c (by omega)]; exact h9
end Q23

