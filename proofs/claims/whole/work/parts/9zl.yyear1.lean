/-! ===== year: the class ===== -/
/-- the yard at the beginning of a year -/
def s_dn (Y D : Nat → Nat → Nat) : Nat → Nat → Nat := fun c j => if c = 1 then (if j < 8 then Y 6 j else 0) else if c = 2 then (if j < 48 then Y 7 j else 0) else if c = 4 then (if j < 6 then Y 8 j else 0) else if c = 6 then D 6 j else 0
/-- what a year changes of the scalars -/
def s_gF (G : Nat → Nat → Nat) (kd pl : Nat) : Nat → Nat → Nat := dU (dU G 1 4 kd) 1 5 (pl + 1)
def s_gY (G : Nat → Nat → Nat) : Nat → Nat → Nat := dU (dU (dU (dU G 1 2 0) 1 4 0) 1 5 0) 1 6 0
/-- what reading leaves alone in the class; bank b is read -/
def frY (b : Nat) (S Z : xSt) : Prop := (∀ k j, ¬ (k = 160 ∧ 2 ≤ j ∧ j ≤ 10) → ¬ (yc b 0 ≤ k ∧ k ≤ yc b 16) → ¬ (k = 163 ∧ j = 2) → Z.1 k j = S.1 k j) ∧ Z.2.1 = S.2.1 ∧ ∀ k j, ¬ (k = 163 ∧ j = 1) → ¬ (k = 162 ∧ j = 2) → Z.2.2 k j = S.2.2 k j
section Q9zl
variable {S Z V W : xSt} {n L e m o b d t k a s w lo hi j r kd pl c : Nat} {f : Nat → Nat} {cc mc wc mc' wc' : List (Nat × Nat)} {Y Y' D : Nat → Nat → Nat} {P : Nat → Nat → Nat → Nat} {G : Nat → Nat → Nat}
theorem gC_F (hb : b < 2) (hf : frY (1 - b) S Z) (hft : ftC (1 - b) Z kd pl) (h : gC S b Y mc wc D P G) : gC Z b Y mc wc D P (s_gF G kd pl) := by
  obtain ⟨⟨y1, y2, y3, y4, y5, y6, y7, y8⟩, ⟨h2a, h2b, h2c⟩, ⟨d1, d2, d3⟩, _, ⟨c0, h5a, h5b, h5c, h5d⟩, ⟨h6a, h6b, h6c, h6d, h6e, h6f, h6g⟩, ⟨h7a, h7b, h7c⟩, ⟨⟨od, h8a, h8b⟩, ⟨md, h8c, h8d⟩⟩, ⟨h9a, h9b, h9c, ⟨T, h9d, h9e⟩, h9f⟩, h10⟩ := h
  obtain ⟨f1, f2, Ys, f3, f4, f5⟩ := hft
  have e : ∀ k, (k < 2 ∨ (36 ≤ k ∧ k ≤ 159) ∨ k = 161 ∨ 164 ≤ k) → Z.1 k = S.1 k := fun k a1 => funext fun j => hf.1 k j (by omega) (by unfold yc; omega) (by omega)
  have ey : ∀ c, c ≤ 16 → Z.1 (yc b c) = S.1 (yc b c) := fun c a2 => funext fun j => hf.1 _ j (by unfold yc; omega) (by unfold yc; omega) (by unfold yc; omega)
  have ed : ∀ w c, w < 2 → c ≤ 4 → Z.1 (yd w c) = S.1 (yd w c) := fun w c a1 a2 => e _ (by unfold yd; omega)
  have es : ∀ i c, i < 20 → c ≤ 4 → Z.1 (sv i c) = S.1 (sv i c) := fun i c a1 a2 => e _ (by unfold sv; omega)
  have g6 : s_gF G kd pl 1 6 = G 1 6 := by unfold s_gF; rw [dU_j (by decide), dU_j (by decide)]
  have gg : ∀ c j, ¬ (c = 1 ∧ (j = 4 ∨ j = 5)) → s_gF G kd pl c j = G c j := fun c j hc => by unfold s_gF; rw [dU_at, if_neg (by omega), dU_at, if_neg (by omega)]
  refine ⟨⟨fun c j hc => by rw [ey c (by omega)]; exact y1 c j hc, fun j => by rw [ey 14 (by decide)]; exact y2 j, y3, y4, y5, y6, by rw [ey 15 (by decide)]; exact y7, by rw [ey 15 (by decide)]; exact y8⟩, ⟨by rw [hf.2.2 _ _ (by omega) (by omega)]; exact h2a, by rw [hf.2.2 _ _ (by omega) (by omega)]; exact h2b, by rw [hf.2.2 _ _ (by omega) (by omega)]; exact h2c⟩, ⟨fun j hj => by rw [ed 0 0 (by decide) (by decide)]; exact d1 j hj, fun c j hc hc2 => by rw [ed 0 c (by decide) hc2]; exact d2 c j hc hc2, fun h0 => ⟨by rw [ed 0 0 (by decide) (by decide)]; exact (d3 h0).1, fun k => by rw [e 43 (by omega)]; exact (d3 h0).2 k⟩⟩, ⟨Ys, f3, f4, f5⟩, ⟨c0, h5a, by rw [e 41 (by omega), g6]; exact h5b, by rw [e 41 (by omega), g6]; exact h5c, fun i hi => ?_⟩, ⟨fun i => by rw [e 1 (by omega), gg _ _ (by omega)]; exact h6a i, by rw [e 0 (by omega), gg _ _ (by omega)]; exact h6b, by rw [e 0 (by omega), gg _ _ (by omega)]; exact h6c, by rw [e 0 (by omega), gg _ _ (by omega)]; exact h6d, by rw [e 169 (by omega), gg _ _ (by omega)]; exact h6e, ?_, ?_⟩, ⟨fun i hi => by rw [e 177 (by omega), gg _ _ (by omega)]; exact h7a i hi, fun i hi => by rw [gg _ _ (by omega)] at hi; rw [e 176 (by omega), gg _ _ (by omega)]; exact h7b i hi, fun i hi => by rw [gg _ _ (by omega)] at hi; rw [e 170 (by omega), gg _ _ (by omega)]; exact h7c i hi⟩, ⟨⟨od, by rw [e 148 (by omega)]; exact h8a, ?_⟩, ⟨md, by rw [e 148 (by omega)]; exact h8c, ?_⟩⟩, ⟨fun c j hc hc2 hj => ?_, fun c j hc hc2 hj => ?_, fun i hi c j hc hc2 hj => ?_, ⟨T, fun c j hc hc2 => ?_, h9e⟩, fun w hw => ?_⟩, fun k hk => by rw [e 161 (by omega)]; exact h10 k hk⟩
  · rw [g6] at hi
    obtain ⟨s1, s2⟩ := h5d i hi
    have hlt : (c0 + i) % 20 < 20 := Nat.mod_lt _ (by decide)
    exact ⟨fun j hj => by rw [es _ 0 hlt (by decide)]; exact s1 j hj, fun c j hc hc2 => by rw [es _ c hlt hc2]; exact s2 c j hc hc2⟩
  · rw [f1]; unfold s_gF; rw [dU_j (by decide), dU_s]
  · rw [f2]; unfold s_gF; rw [dU_s]; rfl
  · rw [e 148 (by omega), e 155 (by omega)]; exact h8b
  · rw [e 148 (by omega)]; exact h8d
  · have := ed 1 c (by decide) hc2; rw [yd_c] at this; rw [this]; exact h9a c j hc hc2 hj
  · rw [e _ (by omega)]; exact h9b c j hc hc2 hj
  · have := es i c hi hc2; rw [sv_c] at this; rw [this]; exact h9c i hi c j hc hc2 hj
  · rw [e _ (by omega)]; exact h9d c j hc hc2
  · obtain ⟨u, u', a1, a2, a3, a4⟩ := h9f w hw
    have : Z.1 (sh w 0) = S.1 (sh w 0) := e _ (by unfold sh; omega)
    exact ⟨u, u', a1, a2, by rw [this]; exact a3, by rw [this]; exact a4⟩
theorem c_start (hn : 2000 ≤ n) (hb : b < 2) : ∃ A, fX8_start n 36 (yc b 0) S = some A ∧ (∀ j, j < 5 → A.1 36 j = nI 0) ∧ (∀ j, A.1 37 j = if j < 8 then S.1 (yc b 6) j else S.1 37 j) ∧ (∀ j, A.1 38 j = if j < 48 then S.1 (yc b 7) j else S.1 38 j) ∧ (∀ j, A.1 39 j = if j < 6 then nI 0 else S.1 39 j) ∧ (∀ j, A.1 40 j = if j < 6 then S.1 (yc b 8) j else S.1 40 j) ∧ (∀ k, ¬ (36 ≤ k ∧ k ≤ 40) → A.1 k = S.1 k) ∧ A.2 = S.2 := by
  have hbb : b = 0 ∨ b = 1 := by omega
  have n36 : tC.1 36 = 8 := rfl
  have n9 : tC.1 (yc b 0) = 9 := by rcases hbb with rfl | rfl <;> rfl
  have fx : ∀ c, c ≤ 8 → 6 ≤ c → tC.1 (yc b c) = 13 := fun c h1 h2 => by rcases (by omega : c = 6 ∨ c = 7 ∨ c = 8) with rfl | rfl | rfl <;> rcases hbb with rfl | rfl <;> rfl
  have g5 : tC.2.2.1 (yc b 0) 5 = yc b 6 := by rcases hbb with rfl | rfl <;> rfl
  have g6 : tC.2.2.1 (yc b 0) 6 = yc b 7 := by rcases hbb with rfl | rfl <;> rfl
  have g7 : tC.2.2.1 (yc b 0) 7 = yc b 8 := by rcases hbb with rfl | rfl <;> rfl
  have l6 : tC.2.1 (yc b 6) = 8 := by rcases hbb with rfl | rfl <;> rfl
  have l7 : tC.2.1 (yc b 7) = 48 := by rcases hbb with rfl | rfl <;> rfl
  have l8 : tC.2.1 (yc b 8) = 6 := by rcases hbb with rfl | rfl <;> rfl
  have k5 : tC.2.2.1 36 5 = 37 := rfl
  have k6 : tC.2.2.1 36 6 = 38 := rfl
  have k7 : tC.2.2.1 36 7 = 39 := rfl
  have k8 : tC.2.2.1 36 8 = 40 := rfl
  obtain ⟨B, b1, b2, b3⟩ := c_fill (S := xuA (xuA (xuI (xuI (xuI (xuI (xuI S 36 0 0) 36 1 0) 36 2 0) 36 3 0) 36 4 0) 37 (fun j => if j < 8 then (xuI (xuI (xuI (xuI (xuI S 36 0 0) 36 1 0) 36 2 0) 36 3 0) 36 4 0).1 (yc b 6) j else (xuI (xuI (xuI (xuI (xuI S 36 0 0) 36 1 0) 36 2 0) 36 3 0) 36 4 0).1 37 j)) 38 (fun j => if j < 48 then (xuA (xuI (xuI (xuI (xuI (xuI S 36 0 0) 36 1 0) 36 2 0) 36 3 0) 36 4 0) 37 (fun j => if j < 8 then (xuI (xuI (xuI (xuI (xuI S 36 0 0) 36 1 0) 36 2 0) 36 3 0) 36 4 0).1 (yc b 6) j else (xuI (xuI (xuI (xuI (xuI S 36 0 0) 36 1 0) 36 2 0) 36 3 0) 36 4 0).1 37 j)).1 (yc b 7) j else (xuA (xuI (xuI (xuI (xuI (xuI S 36 0 0) 36 1 0) 36 2 0) 36 3 0) 36 4 0) 37 (fun j => if j < 8 then (xuI (xuI (xuI (xuI (xuI S 36 0 0) 36 1 0) 36 2 0) 36 3 0) 36 4 0).1 (yc b 6) j else (xuI (xuI (xuI (xuI (xuI S 36 0 0) 36 1 0) 36 2 0) 36 3 0) 36 4 0).1 37 j)).1 38 j)) (n := n) (a := 39) (len := 6) (v := 0) rfl rfl (by decide) hn
  refine ⟨xuA B 40 (fun j => if j < 6 then B.1 (yc b 8) j else B.1 40 j), ?_, ?_, ?_, ?_, ?_, ?_, ?_, ?_⟩
  · unfold fX8_start
    rw [if_pos n36, qb_pI n36, qb_pI n36, qb_pI n36, qb_pI n36, qb_pI n36]
    rw [qb_gF n9, qb_gF n36, g5, k5, show (8 : Int32) = nI 8 from rfl, qb_cp (fx 6 (by decide) (by decide)) rfl (by rw [l6]; decide) (by decide) (by decide)]
    rw [qb_gF n9, qb_gF n36, g6, k6, show (48 : Int32) = nI 48 from rfl, qb_cp (fx 7 (by decide) (by decide)) rfl (by rw [l7]; decide) (by decide) (by decide)]
    rw [qb_gF n36, k7, b1, qb_so, qb_gF n9, qb_gF n36, g7, k8, show (6 : Int32) = nI 6 from rfl, qb_cp (fx 8 (by decide) (by decide)) rfl (by rw [l8]; decide) (by decide) (by decide)]
  · intro j hj
    rw [quA_n (by decide), b2.1 36 (by decide), quA_n (by decide), quA_n (by decide), quI_s, quI_s, quI_s, quI_s, quI_s]
    rcases (by omega : j = 0 ∨ j = 1 ∨ j = 2 ∨ j = 3 ∨ j = 4) with rfl | rfl | rfl | rfl | rfl <;> rfl
  · intro j
    rw [quA_n (by decide), b2.1 37 (by decide), quA_n (by decide), quA_s, quI_n (by unfold yc; omega), quI_n (by unfold yc; omega), quI_n (by unfold yc; omega), quI_n (by unfold yc; omega), quI_n (by unfold yc; omega), quI_n (by decide), quI_n (by decide), quI_n (by decide), quI_n (by decide), quI_n (by decide)]
  · intro j
    rw [quA_n (by decide), b2.1 38 (by decide), quA_s, quA_n (by unfold yc; omega), quI_n (by unfold yc; omega), quI_n (by unfold yc; omega), quI_n (by unfold yc; omega), quI_n (by unfold yc; omega), quI_n (by unfold yc; omega), quA_n (by decide), quI_n (by decide), quI_n (by decide), quI_n (by decide), quI_n (by decide), quI_n (by decide)]
  · intro j
    rw [quA_n (by decide), b3, quA_n (by decide), quA_n (by decide), quI_n (by decide), quI_n (by decide), quI_n (by decide), quI_n (by decide), quI_n (by decide)]
    rfl
  · intro j
    have e8 : B.1 (yc b 8) j = S.1 (yc b 8) j := by
      rw [b2.1 _ (by unfold yc; omega), quA_n (by unfold yc; omega), quA_n (by unfold yc; omega), quI_n (by unfold yc; omega), quI_n (by unfold yc; omega), quI_n (by unfold yc; omega), quI_n (by unfold yc; omega), quI_n (by unfold yc; omega)]
    have e40 : B.1 40 j = S.1 40 j := by
      rw [b2.1 _ (by decide), quA_n (by decide), quA_n (by decide), quI_n (by decide), quI_n (by decide), quI_n (by decide), quI_n (by decide), quI_n (by decide)]
    rw [quA_s, e8, e40]
  · intro k hk
    funext j
    rw [quA_n (by omega), b2.1 _ (by omega), quA_n (by omega), quA_n (by omega), quI_n (by omega), quI_n (by omega), quI_n (by omega), quI_n (by omega), quI_n (by omega)]
  · show B.2 = S.2
    rw [b2.2]
    rfl
theorem oCode_sub {h : Nat → Int32} {v : List (Nat × Nat)} : ∀ {u l : List (Nat × Nat)} {p : Nat}, oCode h p (u ++ (l ++ v)) → oCode h (p + u.length) l
  | [], [], p, _ => trivial
  | [], x :: l, p, h1 => ⟨h1.1, by
      have := oCode_sub (u := []) (l := l) h1.2
      rw [List.length_nil, Nat.add_zero] at this ⊢
      exact this⟩
  | y :: u, l, p, h1 => by
      have := oCode_sub (u := u) (l := l) h1.2
      rw [List.length_cons, show p + (u.length + 1) = p + 1 + u.length by omega]
      exact this
theorem mCode_sub {h g : Nat → Int32} {v : List (Nat × Nat)} : ∀ {u l : List (Nat × Nat)} {p : Nat}, mCode h g p (u ++ (l ++ v)) → mCode h g (p + u.length) l
  | [], [], p, _ => trivial
  | [], x :: l, p, h1 => ⟨h1.1, h1.2.1, by
      have := mCode_sub (u := []) (l := l) h1.2.2
      rw [List.length_nil, Nat.add_zero] at this ⊢
      exact this⟩
  | y :: u, l, p, h1 => by
      have := mCode_sub (u := u) (l := l) h1.2.2
      rw [List.length_cons, show p + (u.length + 1) = p + 1 + u.length by omega]
      exact this
theorem sbl_len {p : Nat} {l : List (Nat × Nat)} (h : sbl cc p l) : p + l.length ≤ cc.length := by
  obtain ⟨u, v, h1, h2⟩ := h
  rw [h1, List.length_append, List.length_append]
  omega
end Q9zl

