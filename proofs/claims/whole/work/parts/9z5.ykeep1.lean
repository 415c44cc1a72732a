/-! ===== what statements keep ===== -/
def sbl (cc : List (Nat × Nat)) (p : Nat) (l : List (Nat × Nat)) : Prop := ∃ u v, cc = u ++ (l ++ v) ∧ u.length = p
def yJn (Y : Nat → Nat → Nat) : Prop := (∀ a c, a < 6 → c < 6 → (Y 2 0 ≤ a ∨ Y 2 0 ≤ c) → Y 12 (6 * a + c) = 0) ∧ (∀ g t, g < 6 → t < 8 → (Y 2 2 ≤ g ∨ Y 2 1 ≤ t) → Y 7 (8 * g + t) = 0) ∧ (∀ s i, s < 4 → i < Y 2 s → s_nmOk (Y 1 (8 * s + i)) ∧ Y 1 (8 * s + i) < 2 ^ 30)
def yJc (Y : Nat → Nat → Nat) (cc mc wc : List (Nat × Nat)) : Prop := Y 14 2 = cc.length ∧ Y 14 4 = Y 14 3 + mc.length ∧ Y 14 6 = Y 14 5 + wc.length ∧ sbl cc (Y 14 3) mc ∧ sbl cc (Y 14 5) wc ∧ kOk mc wc
def yJa (Y : Nat → Nat → Nat) (cc mc wc : List (Nat × Nat)) : Prop := yrOk Y ∧ yJn Y ∧ yJc Y cc mc wc
section Q9z5
variable {n L e m o b d t k a s w lo hi j r : Nat} {u : Option Nat} {f : Nat → Nat} {cc mc wc : List (Nat × Nat)} {Y Y' : Nat → Nat → Nat}
theorem zB_i {α β : Type} {r : Sum (Nat × Nat) α} {g : α → Sum (Nat × Nat) β} {y : β} (h : zB r g = .inr y) : ∃ x, r = .inr x ∧ g x = .inr y := by
  match r, h with
  | .inr x, h => exact ⟨x, rfl, h⟩
theorem tN_i {x : Nat × Nat} (h : tN f L lo hi e = .inr x) : lo ≤ x.1 ∧ x.1 ≤ hi ∧ x.1 < 10000 ∧ x.2 = kE f L e ∧ kT f L e ≠ 0 := by
  unfold tN at h
  by_cases h1 : iN f L e
  · rw [if_pos h1] at h
    by_cases h2 : lo ≤ kV f L e ∧ kV f L e ≤ hi
    · rw [if_pos h2] at h
      cases h
      exact ⟨h2.1, h2.2, kV_num h1.2, rfl, iN_T h1⟩
    · rw [if_neg h2] at h; cases h
  · rw [if_neg h1] at h; cases h
theorem tA_i {x : Nat × Nat} (h : tA f L Y s u e = .inr x) : x.1 < Y 2 s ∧ u ≠ some x.1 ∧ x.2 = kE f L e := by
  unfold tA at h
  by_cases h1 : isNm f L e
  · rw [if_pos h1] at h
    cases h2 : s_fd Y s (kV f L e) with
    | none => rw [h2] at h; cases h
    | some i =>
      rw [h2] at h
      have h' : (if u = some i then (Sum.inl (3, kS f L e) : Sum (Nat × Nat) (Nat × Nat)) else .inr (i, kE f L e)) = .inr x := h
      by_cases h3 : u = some i
      · rw [if_pos h3] at h'; cases h'
      · rw [if_neg h3] at h'
        cases h'
        exact ⟨s_fd_lt h2, h3, rfl⟩
  · rw [if_neg h1] at h; cases h
theorem tF_i {x : Nat × Nat} (hL : L ≤ 1600) (h : tF f L Y e = .inr x) : s_nmOk x.1 ∧ x.1 < 2 ^ 30 ∧ x.2 = kE f L e := by
  unfold tF at h
  by_cases h1 : isNm f L e
  · rw [if_pos h1] at h
    by_cases h2 : s_gv Y (kV f L e) = true
    · rw [if_pos h2] at h; cases h
    · rw [if_neg h2] at h
      cases h
      have := k_word hL h1.2.1 h1.1
      exact ⟨this.2.1, this.2.2, rfl⟩
  · rw [if_neg h1] at h; cases h
theorem tO_i {full : Prop} [Decidable full] {x : Nat} (h : tO f L full e = .inr x) : ¬ full ∧ x = kE f L e := by
  unfold tO at h
  by_cases h1 : full
  · rw [if_pos h1] at h; cases h
  · rw [if_neg h1] at h
    cases h
    exact ⟨h1, rfl⟩
theorem nm_gi (h : yJn Y) (hs : s < 4) (h8 : Y 2 s ≤ 7) (h88 : ∀ s, s < 4 → Y 2 s ≤ 8) (hw : s_nmOk w ∧ w < 2 ^ 30) : ∀ t i, t < 4 → i < s_gi Y s w 2 t → s_nmOk (s_gi Y s w 1 (8 * t + i)) ∧ s_gi Y s w 1 (8 * t + i) < 2 ^ 30 := by
  intro t i ht hi
  have h1 : s_gi Y s w 1 (8 * t + i) = if 8 * t + i = 8 * s + Y 2 s then w else Y 1 (8 * t + i) := by unfold s_gi; rw [dU_c (by decide)]; unfold dU; rw [if_pos rfl]
  rw [h1]
  by_cases hts : t = s
  · subst hts
    have h2 : s_gi Y t w 2 t = Y 2 t + 1 := by unfold s_gi; rw [dU_s]
    rw [h2] at hi
    by_cases hx : i = Y 2 t
    · rw [if_pos (by omega)]; exact hw
    · rw [if_neg (by omega)]; exact h.2.2 t i ht (by omega)
  · rw [s_gi_2 hts] at hi
    have := h88 t ht
    rw [if_neg (by omega)]
    exact h.2.2 t i ht hi
theorem dU_at {c j v c' j' : Nat} : dU Y c j v c' j' = if c' = c ∧ j' = j then v else Y c' j' := by
  unfold dU
  by_cases h1 : c' = c
  · by_cases h2 : j' = j
    · rw [if_pos h1, if_pos h2, if_pos ⟨h1, h2⟩]
    · rw [if_pos h1, if_neg h2, if_neg (by omega)]
  · rw [if_neg h1, if_neg (by omega)]
theorem gi_at {c' j' : Nat} : s_gi Y s w c' j' = if c' = 2 ∧ j' = s then Y 2 s + 1 else if c' = 1 ∧ j' = 8 * s + Y 2 s then w else Y c' j' := by
  unfold s_gi
  rw [dU_at, dU_at]
theorem J_kind (h : yrOk Y) (hn : yJn Y) (hf : Y 2 0 < 6) (hd : d + 1 ≤ r) (r1 : 2 ≤ r) (r2 : r ≤ 30) (hw : s_nmOk w ∧ w < 2 ^ 30) : yrOk (dU (dU (s_gi Y 0 w) 3 (Y 2 0) d) 4 (Y 2 0) r) ∧ yJn (dU (dU (s_gi Y 0 w) 3 (Y 2 0) d) 4 (Y 2 0) r) := by
  have h88 : ∀ s, s < 4 → Y 2 s ≤ 8 := fun s hs => by
    obtain ⟨a0, a1, a2, a3⟩ := h.1
    rcases (by omega : s = 0 ∨ s = 1 ∨ s = 2 ∨ s = 3) with rfl | rfl | rfl | rfl <;> omega
  have hnm := nm_gi hn (by decide : 0 < 4) (by omega) h88 hw
  obtain ⟨⟨a0, a1, a2, a3⟩, b2, c2, d7, d8, e9, e12, e14, e16, e17, e18, eB, e6, e94⟩ := h
  obtain ⟨z1, z2, z3⟩ := hn
  refine ⟨⟨?_, ?_, ?_, ?_, ?_, ?_, ?_, ?_, ?_, ?_, ?_, ?_, ?_, ?_⟩, ?_, ?_, ?_⟩
  · simp [dU_at, gi_at]; omega
  · intro k hk
    simp [dU_at, gi_at] at hk ⊢
    by_cases hx : k = Y 2 0
    · simp [hx]; omega
    · have := b2 k (by omega); simp [hx]; omega
  · intro t ht
    simp [dU_at, gi_at] at ht ⊢
    have := c2 t ht; omega
  · intro i; simp [dU_at, gi_at]; exact d7 i
  · intro i; simp [dU_at, gi_at]; exact d8 i
  · intro j hj
    simp [dU_at, gi_at] at hj ⊢
    have h1 := e9 j hj
    refine ⟨h1.1, h1.2.1, fun s hs => ?_⟩
    have := h1.2.2 s hs; omega
  · intro i; simp [dU_at, gi_at]; exact e12 i
  · simp [dU_at, gi_at]; exact e14
  · simp [dU_at, gi_at]; exact e16
  · simp [dU_at, gi_at]; exact e17
  · simp [dU_at, gi_at]; exact e18
  · intro c j
    have := eB c j
    simp only [dU_at, gi_at]
    repeat' split
    all_goals omega
  · intro i; simp [dU_at, gi_at]; exact e6 i
  · intro i; simp [dU_at, gi_at]; exact e94 i
  · intro a c ha hc hx
    simp [dU_at, gi_at] at hx ⊢
    exact z1 a c ha hc (by omega)
  · intro g t hg ht hx
    simp [dU_at, gi_at] at hx ⊢
    exact z2 g t hg ht (by omega)
  · intro t i ht hi
    rw [dU_c (by decide), dU_c (by decide)] at hi ⊢
    exact hnm t i ht hi
theorem J_tool (h : yrOk Y) (hn : yJn Y) (hf : Y 2 1 < 8) (hk : k < Y 2 0) (r2 : r ≤ 99) (hw : s_nmOk w ∧ w < 2 ^ 30) : yrOk (dU (dU (s_gi Y 1 w) 5 (Y 2 1) k) 6 (Y 2 1) r) ∧ yJn (dU (dU (s_gi Y 1 w) 5 (Y 2 1) k) 6 (Y 2 1) r) := by
  have h88 : ∀ s, s < 4 → Y 2 s ≤ 8 := fun s hs => by
    obtain ⟨a0, a1, a2, a3⟩ := h.1
    rcases (by omega : s = 0 ∨ s = 1 ∨ s = 2 ∨ s = 3) with rfl | rfl | rfl | rfl <;> omega
  have hnm := nm_gi hn (by decide : 1 < 4) (by omega) h88 hw
  obtain ⟨⟨a0, a1, a2, a3⟩, b2, c2, d7, d8, e9, e12, e14, e16, e17, e18, eB, e6, e94⟩ := h
  obtain ⟨z1, z2, z3⟩ := hn
  refine ⟨⟨?_, ?_, ?_, ?_, ?_, ?_, ?_, ?_, ?_, ?_, ?_, ?_, ?_, ?_⟩, ?_, ?_, ?_⟩
  · simp [dU_at, gi_at]; omega
  · intro k hk
    simp [dU_at, gi_at] at hk ⊢
    exact b2 k hk
  · intro t ht
    simp [dU_at, gi_at] at ht ⊢
    by_cases hx : t = Y 2 1
    · simp [hx]; omega
    · have := c2 t (by omega); simp [hx]; omega
  · intro i; simp [dU_at, gi_at]; exact d7 i
  · intro i; simp [dU_at, gi_at]; exact d8 i
  · intro j hj
    simp [dU_at, gi_at] at hj ⊢
    exact e9 j hj
  · intro i; simp [dU_at, gi_at]; exact e12 i
  · simp [dU_at, gi_at]; exact e14
  · simp [dU_at, gi_at]; exact e16
  · simp [dU_at, gi_at]; exact e17
  · simp [dU_at, gi_at]; exact e18
  · intro c j
    have := eB c j
    simp only [dU_at, gi_at]
    repeat' split
    all_goals omega
  · intro i; simp [dU_at, gi_at]; have := e6 i; split <;> omega
  · intro i; simp [dU_at, gi_at]; exact e94 i
  · intro a c ha hc hx
    simp [dU_at, gi_at] at hx ⊢
    exact z1 a c ha hc (by omega)
  · intro g t hg ht hx
    simp [dU_at, gi_at] at hx ⊢
    exact z2 g t hg ht (by omega)
  · intro t i ht hi
    rw [dU_c (by decide), dU_c (by decide)] at hi ⊢
    exact hnm t i ht hi
theorem J_hand (h : yrOk Y) (hn : yJn Y) (hf : Y 2 2 < 6) (hw : s_nmOk w ∧ w < 2 ^ 30) : yrOk (s_gi Y 2 w) ∧ yJn (s_gi Y 2 w) := by
  have h88 : ∀ s, s < 4 → Y 2 s ≤ 8 := fun s hs => by
    obtain ⟨a0, a1, a2, a3⟩ := h.1
    rcases (by omega : s = 0 ∨ s = 1 ∨ s = 2 ∨ s = 3) with rfl | rfl | rfl | rfl <;> omega
  have hnm := nm_gi hn (by decide : 2 < 4) (by omega) h88 hw
  obtain ⟨⟨a0, a1, a2, a3⟩, b2, c2, d7, d8, e9, e12, e14, e16, e17, e18, eB, e6, e94⟩ := h
  obtain ⟨z1, z2, z3⟩ := hn
  refine ⟨⟨?_, ?_, ?_, ?_, ?_, ?_, ?_, ?_, ?_, ?_, ?_, ?_, ?_, ?_⟩, ?_, ?_, ?_⟩
  · simp [dU_at, gi_at]; omega
  · intro k hk
    simp [dU_at, gi_at] at hk ⊢
    exact b2 k hk
  · intro t ht
    simp [dU_at, gi_at] at ht ⊢
    exact c2 t ht
  · intro i; simp [dU_at, gi_at]; exact d7 i
  · intro i; simp [dU_at, gi_at]; exact d8 i
  · intro j hj
    simp [dU_at, gi_at] at hj ⊢
    exact e9 j hj
  · intro i; simp [dU_at, gi_at]; exact e12 i
  · simp [dU_at, gi_at]; exact e14
  · simp [dU_at, gi_at]; exact e16
  · simp [dU_at, gi_at]; exact e17
  · simp [dU_at, gi_at]; exact e18
  · intro c j
    have := eB c j
    simp only [dU_at, gi_at]
    repeat' split
    all_goals omega
  · intro i; simp [dU_at, gi_at]; exact e6 i
  · intro i; simp [dU_at, gi_at]; exact e94 i
  · intro a c ha hc hx
    simp [dU_at, gi_at] at hx ⊢
    exact z1 a c ha hc (by omega)
  · intro g t hg ht hx
    simp [dU_at, gi_at] at hx ⊢
    exact z2 g t hg ht (by omega)
  · exact hnm
theorem J_knows (h : yrOk Y) (hn : yJn Y) (ha : a < Y 2 2) (ht : t < Y 2 1) (r2 : r ≤ 9) : yrOk (dU Y 7 (8 * a + t) r) ∧ yJn (dU Y 7 (8 * a + t) r) := by
  have h88 : ∀ s, s < 4 → Y 2 s ≤ 8 := fun s hs => by
    obtain ⟨a0, a1, a2, a3⟩ := h.1
    rcases (by omega : s = 0 ∨ s = 1 ∨ s = 2 ∨ s = 3) with rfl | rfl | rfl | rfl <;> omega
  obtain ⟨⟨a0, a1, a2, a3⟩, b2, c2, d7, d8, e9, e12, e14, e16, e17, e18, eB, e6, e94⟩ := h
  obtain ⟨z1, z2, z3⟩ := hn
  refine ⟨⟨?_, ?_, ?_, ?_, ?_, ?_, ?_, ?_, ?_, ?_, ?_, ?_, ?_, ?_⟩, ?_, ?_, ?_⟩
  · simp [dU_at, gi_at]; omega
  · intro k hk
    simp [dU_at, gi_at] at hk ⊢
    exact b2 k hk
  · intro t ht
    simp [dU_at, gi_at] at ht ⊢
    exact c2 t ht
  · intro i; simp [dU_at, gi_at]; have := d7 i; split <;> omega
  · intro i; simp [dU_at, gi_at]; exact d8 i
  · intro j hj
    simp [dU_at, gi_at] at hj ⊢
    exact e9 j hj
  · intro i; simp [dU_at, gi_at]; exact e12 i
  · simp [dU_at, gi_at]; exact e14
  · simp [dU_at, gi_at]; exact e16
  · simp [dU_at, gi_at]; exact e17
  · simp [dU_at, gi_at]; exact e18
  · intro c j
    have := eB c j
    simp only [dU_at, gi_at]
    repeat' split
    all_goals omega
  · intro i; simp [dU_at, gi_at]; exact e6 i
  · intro i; simp [dU_at, gi_at]; exact e94 i
  · intro a c ha hc hx
    simp [dU_at, gi_at] at hx ⊢
    exact z1 a c ha hc (by omega)
  · intro g t' hg ht' hx
    simp [dU_at, gi_at] at hx ⊢
    rw [if_neg (by omega)]
    exact z2 g t' hg ht' hx
  · intro t i ht hi
    rw [dU_c (by decide)] at hi ⊢
    exact z3 t i ht hi
theorem J_serves (h : yrOk Y) (hn : yJn Y) (ha : a < Y 2 0) (ht : t < Y 2 0) (r2 : r ≤ 99) : yrOk (dU Y 12 (6 * a + t) r) ∧ yJn (dU Y 12 (6 * a + t) r) := by
  have h88 : ∀ s, s < 4 → Y 2 s ≤ 8 := fun s hs => by
    obtain ⟨a0, a1, a2, a3⟩ := h.1
    rcases (by omega : s = 0 ∨ s = 1 ∨ s = 2 ∨ s = 3) with rfl | rfl | rfl | rfl <;> omega
  obtain ⟨⟨a0, a1, a2, a3⟩, b2, c2, d7, d8, e9, e12, e14, e16, e17, e18, eB, e6, e94⟩ := h
  obtain ⟨z1, z2, z3⟩ := hn
  refine ⟨⟨?_, ?_, ?_, ?_, ?_, ?_, ?_, ?_, ?_, ?_, ?_, ?_, ?_, ?_⟩, ?_, ?_, ?_⟩
  · simp [dU_at, gi_at]; omega
  · intro k hk
    simp [dU_at, gi_at] at hk ⊢
    exact b2 k hk
  · intro t ht
    simp [dU_at, gi_at] at ht ⊢
    exact c2 t ht
  · intro i; simp [dU_at, gi_at]; exact d7 i
  · intro i; simp [dU_at, gi_at]; exact d8 i
  · intro j hj
    simp [dU_at, gi_at] at hj ⊢
    exact e9 j hj
  · intro i; simp [dU_at, gi_at]; have := e12 i; split <;> omega
  · simp [dU_at, gi_at]; exact e14
  · simp [dU_at, gi_at]; exact e16
  · simp [dU_at, gi_at]; exact e17
  · simp [dU_at, gi_at]; exact e18
  · intro c j
    have := eB c j
    simp only [dU_at, gi_at]
    repeat' split
    all_goals omega
  · intro i; simp [dU_at, gi_at]; exact e6 i
  · intro i; simp [dU_at, gi_at]; exact e94 i
  · intro a' c ha' hc hx
    simp [dU_at, gi_at] at hx ⊢
    rw [if_neg (by omega)]
    exact z1 a' c ha' hc hx
  · intro g t hg ht hx
    simp [dU_at, gi_at] at hx ⊢
    exact z2 g t hg ht (by omega)
  · intro t i ht hi
    rw [dU_c (by decide)] at hi ⊢
    exact z3 t i ht hi
theorem J_breaks (h : yrOk Y) (hn : yJn Y) (r1 : 1 ≤ r) (r2 : r ≤ 100) : yrOk (dU Y 0 14 r) ∧ yJn (dU Y 0 14 r) := by
  have h88 : ∀ s, s < 4 → Y 2 s ≤ 8 := fun s hs => by
    obtain ⟨a0, a1, a2, a3⟩ := h.1
    rcases (by omega : s = 0 ∨ s = 1 ∨ s = 2 ∨ s = 3) with rfl | rfl | rfl | rfl <;> omega
  obtain ⟨⟨a0, a1, a2, a3⟩, b2, c2, d7, d8, e9, e12, e14, e16, e17, e18, eB, e6, e94⟩ := h
  obtain ⟨z1, z2, z3⟩ := hn
  refine ⟨⟨?_, ?_, ?_, ?_, ?_, ?_, ?_, ?_, ?_, ?_, ?_, ?_, ?_, ?_⟩, ?_, ?_, ?_⟩
  · simp [dU_at, gi_at]; omega
  · intro k hk
    simp [dU_at, gi_at] at hk ⊢
    exact b2 k hk
  · intro t ht
    simp [dU_at, gi_at] at ht ⊢
    exact c2 t ht
  · intro i; simp [dU_at, gi_at]; exact d7 i
  · intro i; simp [dU_at, gi_at]; exact d8 i
  · intro j hj
    simp [dU_at, gi_at] at hj ⊢
    exact e9 j hj
  · intro i; simp [dU_at, gi_at]; exact e12 i
  · simp [dU_at, gi_at]; omega
  · simp [dU_at, gi_at]; exact e16
  · simp [dU_at, gi_at]; exact e17
  · simp [dU_at, gi_at]; exact e18
  · intro c j
    have := eB c j
    simp only [dU_at, gi_at]
    repeat' split
    all_goals omega
  · intro i; simp [dU_at, gi_at]; exact e6 i
  · intro i; simp [dU_at, gi_at]; exact e94 i
  · intro a c ha hc hx
    simp [dU_at, gi_at] at hx ⊢
    exact z1 a c ha hc (by omega)
  · intro g t hg ht hx
    simp [dU_at, gi_at] at hx ⊢
    exact z2 g t hg ht (by omega)
  · intro t i ht hi
    rw [dU_c (by decide)] at hi ⊢
    exact z3 t i ht hi
theorem J_fine (h : yrOk Y) (hn : yJn Y) (r2 : r ≤ 100) : yrOk (dU Y 0 17 r) ∧ yJn (dU Y 0 17 r) := by
  have h88 : ∀ s, s < 4 → Y 2 s ≤ 8 := fun s hs => by
    obtain ⟨a0, a1, a2, a3⟩ := h.1
    rcases (by omega : s = 0 ∨ s = 1 ∨ s = 2 ∨ s = 3) with rfl | rfl | rfl | rfl <;> omega
  obtain ⟨⟨a0, a1, a2, a3⟩, b2, c2, d7, d8, e9, e12, e14, e16, e17, e18, eB, e6, e94⟩ := h
  obtain ⟨z1, z2, z3⟩ := hn
  refine ⟨⟨?_, ?_, ?_, ?_, ?_, ?_, ?_, ?_, ?_, ?_, ?_, ?_, ?_, ?_⟩, ?_, ?_, ?_⟩
  · simp [dU_at, gi_at]; omega
  · intro k hk
    simp [dU_at, gi_at] at hk ⊢
    exact b2 k hk
  · intro t ht
    simp [dU_at, gi_at] at ht ⊢
    exact c2 t ht
  · intro i; simp [dU_at, gi_at]; exact d7 i
  · intro i; simp [dU_at, gi_at]; exact d8 i
  · intro j hj
    simp [dU_at, gi_at] at hj ⊢
    exact e9 j hj
  · intro i; simp [dU_at, gi_at]; exact e12 i
  · simp [dU_at, gi_at]; exact e14
  · simp [dU_at, gi_at]; exact e16
  · simp [dU_at, gi_at]; omega
  · simp [dU_at, gi_at]; exact e18
  · intro c j
    have := eB c j
    simp only [dU_at, gi_at]
    repeat' split
    all_goals omega
  · intro i; simp [dU_at, gi_at]; exact e6 i
  · intro i; simp [dU_at, gi_at]; exact e94 i
  · intro a c ha hc hx
    simp [dU_at, gi_at] at hx ⊢
    exact z1 a c ha hc (by omega)
  · intro g t hg ht hx
    simp [dU_at, gi_at] at hx ⊢
    exact z2 g t hg ht (by omega)
  · intro t i ht hi
    rw [dU_c (by decide)] at hi ⊢
    exact z3 t i ht hi
theorem J_frost (h : yrOk Y) (hn : yJn Y) (r2 : r ≤ 100) : yrOk (dU Y 0 18 r) ∧ yJn (dU Y 0 18 r) := by
  have h88 : ∀ s, s < 4 → Y 2 s ≤ 8 := fun s hs => by
    obtain ⟨a0, a1, a2, a3⟩ := h.1
    rcases (by omega : s = 0 ∨ s = 1 ∨ s = 2 ∨ s = 3) with rfl | rfl | rfl | rfl <;> omega
  obtain ⟨⟨a0, a1, a2, a3⟩, b2, c2, d7, d8, e9, e12, e14, e16, e17, e18, eB, e6, e94⟩ := h
  obtain ⟨z1, z2, z3⟩ := hn
  refine ⟨⟨?_, ?_, ?_, ?_, ?_, ?_, ?_, ?_, ?_, ?_, ?_, ?_, ?_, ?_⟩, ?_, ?_, ?_⟩
  · simp [dU_at, gi_at]; omega
  · intro k hk
    simp [dU_at, gi_at] at hk ⊢
    exact b2 k hk
  · intro t ht
    simp [dU_at, gi_at] at ht ⊢
    exact c2 t ht
  · intro i; simp [dU_at, gi_at]; exact d7 i
  · intro i; simp [dU_at, gi_at]; exact d8 i
  · intro j hj
    simp [dU_at, gi_at] at hj ⊢
    exact e9 j hj
  · intro i; simp [dU_at, gi_at]; exact e12 i
  · simp [dU_at, gi_at]; exact e14
  · simp [dU_at, gi_at]; exact e16
  · simp [dU_at, gi_at]; exact e17
  · simp [dU_at, gi_at]; omega
  · intro c j
    have := eB c j
    simp only [dU_at, gi_at]
    repeat' split
    all_goals omega
  · intro i; simp [dU_at, gi_at]; exact e6 i
  · intro i; simp [dU_at, gi_at]; exact e94 i
  · intro a c ha hc hx
    simp [dU_at, gi_at] at hx ⊢
    exact z1 a c ha hc (by omega)
  · intro g t hg ht hx
    simp [dU_at, gi_at] at hx ⊢
    exact z2 g t hg ht (by omega)
  · intro t i ht hi
    rw [dU_c (by decide)] at hi ⊢
    exact z3 t i ht hi
theorem J_smith (h : yrOk Y) (hn : yJn Y) (hd : d + 1 ≤ r) (r1 : 2 ≤ r) (r2 : r ≤ 30) : yrOk (dU (dU Y 0 15 d) 0 16 r) ∧ yJn (dU (dU Y 0 15 d) 0 16 r) := by
  have h88 : ∀ s, s < 4 → Y 2 s ≤ 8 := fun s hs => by
    obtain ⟨a0, a1, a2, a3⟩ := h.1
    rcases (by omega : s = 0 ∨ s = 1 ∨ s = 2 ∨ s = 3) with rfl | rfl | rfl | rfl <;> omega
  obtain ⟨⟨a0, a1, a2, a3⟩, b2, c2, d7, d8, e9, e12, e14, e16, e17, e18, eB, e6, e94⟩ := h
  obtain ⟨z1, z2, z3⟩ := hn
  refine ⟨⟨?_, ?_, ?_, ?_, ?_, ?_, ?_, ?_, ?_, ?_, ?_, ?_, ?_, ?_⟩, ?_, ?_, ?_⟩
  · simp [dU_at, gi_at]; omega
  · intro k hk
    simp [dU_at, gi_at] at hk ⊢
    exact b2 k hk
  · intro t ht
    simp [dU_at, gi_at] at ht ⊢
    exact c2 t ht
  · intro i; simp [dU_at, gi_at]; exact d7 i
  · intro i; simp [dU_at, gi_at]; exact d8 i
  · intro j hj
    simp [dU_at, gi_at] at hj ⊢
    exact e9 j hj
  · intro i; simp [dU_at, gi_at]; exact e12 i
  · simp [dU_at, gi_at]; exact e14
  · simp [dU_at, gi_at]; omega
  · simp [dU_at, gi_at]; exact e17
  · simp [dU_at, gi_at]; exact e18
  · intro c j
    have := eB c j
    simp only [dU_at, gi_at]
    repeat' split
    all_goals omega
  · intro i; simp [dU_at, gi_at]; exact e6 i
  · intro i; simp [dU_at, gi_at]; exact e94 i
  · intro a c ha hc hx
    simp [dU_at, gi_at] at hx ⊢
    exact z1 a c ha hc (by omega)
  · intro g t hg ht hx
    simp [dU_at, gi_at] at hx ⊢
    exact z2 g t hg ht (by omega)
  · intro t i ht hi
    rw [dU_c (by decide), dU_c (by decide)] at hi ⊢
    exact z3 t i ht hi
/-- as yrOk, where job j is in the making: st steps of it -/
def yrS (Y : Nat → Nat → Nat) (j st : Nat) : Prop :=
  (Y 2 0 ≤ 6 ∧ Y 2 1 ≤ 8 ∧ Y 2 2 ≤ 6 ∧ Y 2 3 ≤ 6) ∧ (∀ k, k < Y 2 0 → 2 ≤ Y 4 k ∧ Y 4 k ≤ 30 ∧ Y 3 k < Y 4 k) ∧ (∀ t, t < Y 2 1 → Y 5 t < Y 2 0 ∧ Y 6 t ≤ 99) ∧ (∀ i, Y 7 i ≤ 9) ∧ (∀ j, Y 8 j ≤ 999) ∧
  ((∀ j', j' < Y 2 3 → j' ≠ j → 1 ≤ Y 9 j' ∧ Y 9 j' ≤ 4 ∧ ∀ s, s < Y 9 j' → Y 10 (4 * j' + s) < Y 2 0 ∧ 1 ≤ Y 11 (4 * j' + s) ∧ Y 11 (4 * j' + s) ≤ 9) ∧ ∀ s, s < st → Y 10 (4 * j + s) < Y 2 0 ∧ 1 ≤ Y 11 (4 * j + s) ∧ Y 11 (4 * j + s) ≤ 9) ∧ (∀ i, Y 12 i ≤ 99) ∧
  (1 ≤ Y 0 14 ∧ Y 0 14 ≤ 100) ∧ (2 ≤ Y 0 16 ∧ Y 0 16 ≤ 30 ∧ Y 0 15 < Y 0 16) ∧ Y 0 17 ≤ 100 ∧ Y 0 18 ≤ 100 ∧ (∀ c j, Y c j < 2 ^ 31) ∧ (∀ t, Y 6 t ≤ 99) ∧ (∀ j, Y 9 j ≤ 4)
theorem yrS_step {st v : Nat} (h : yrS Y j st) (hv : v < Y 2 0) (r1 : 1 ≤ r) (r2 : r ≤ 9) (hst : st < 4) : yrS (dU (dU (dU Y 10 (4 * j + st) v) 11 (4 * j + st) r) 9 j (st + 1)) j (st + 1) := by
  obtain ⟨⟨a0, a1, a2, a3⟩, b2, c2, d7, d8, ⟨e9, e9'⟩, e12, e14, e16, e17, e18, eB, e6, e94⟩ := h
  refine ⟨?_, ?_, ?_, ?_, ?_, ⟨?_, ?_⟩, ?_, ?_, ?_, ?_, ?_, ?_, ?_, ?_⟩
  · simp [dU_at]; omega
  · intro k hk; simp [dU_at] at hk ⊢; exact b2 k hk
  · intro k hk; simp [dU_at] at hk ⊢; exact c2 k hk
  · intro i; simp [dU_at]; exact d7 i
  · intro i; simp [dU_at]; exact d8 i
  · intro j' hj hjj
    have h9 : dU (dU (dU Y 10 (4 * j + st) v) 11 (4 * j + st) r) 9 j (st + 1) 9 j' = Y 9 j' := by rw [dU_j hjj, dU_c (by decide), dU_c (by decide)]
    have h2 : dU (dU (dU Y 10 (4 * j + st) v) 11 (4 * j + st) r) 9 j (st + 1) 2 = Y 2 := by funext x; rw [dU_c (by decide), dU_c (by decide), dU_c (by decide)]
    rw [h9, h2] at *
    have h1 := e9 j' hj hjj
    refine ⟨h1.1, h1.2.1, fun s hs => ?_⟩
    have h3 := h1.2.2 s hs
    have e10 : dU (dU (dU Y 10 (4 * j + st) v) 11 (4 * j + st) r) 9 j (st + 1) 10 (4 * j' + s) = Y 10 (4 * j' + s) := by rw [dU_c (by decide), dU_c (by decide), dU_j (by omega)]
    have e11 : dU (dU (dU Y 10 (4 * j + st) v) 11 (4 * j + st) r) 9 j (st + 1) 11 (4 * j' + s) = Y 11 (4 * j' + s) := by rw [dU_c (by decide), dU_j (by omega), dU_c (by decide)]
    rw [e10, e11]
    exact h3
  · intro s hs
    have h2 : dU (dU (dU Y 10 (4 * j + st) v) 11 (4 * j + st) r) 9 j (st + 1) 2 = Y 2 := by funext x; rw [dU_c (by decide), dU_c (by decide), dU_c (by decide)]
    rw [h2]
    by_cases hx : s = st
    · subst hx
      rw [dU_c (by decide), dU_c (by decide), dU_s, dU_c (by decide), dU_s]
      exact ⟨hv, r1, r2⟩
    · rw [dU_c (by decide), dU_c (by decide), dU_j (by omega), dU_c (by decide), dU_j (by omega), dU_c (by decide)]
      exact e9' s (by omega)
  · intro i; simp [dU_at]; exact e12 i
  · simp [dU_at]; exact e14
  · simp [dU_at]; exact e16
  · simp [dU_at]; exact e17
  · simp [dU_at]; exact e18
  · intro c j'
    have := eB c j'
    have := eB 2 0
    simp only [dU_at]
    repeat' split
    all_goals omega
  · intro i; simp [dU_at]; exact e6 i
  · intro i; simp [dU_at]; have := e94 i; split <;> omega
theorem yrS_end {st : Nat} (h : yrS Y j st) (h9 : Y 9 j = st) (h0 : 1 ≤ st) : yrOk Y := by
  obtain ⟨a, b2, c2, d7, d8, ⟨e9, e9'⟩, e12, e14, e16, e17, e18, eB, e6, e94⟩ := h
  refine ⟨a, b2, c2, d7, d8, fun j' hj => ?_, e12, e14, e16, e17, e18, eB, e6, e94⟩
  by_cases hx : j' = j
  · subst hx
    rw [h9]
    exact ⟨h0, by have := e94 j'; omega, e9'⟩
  · exact e9 j' hj hx
theorem J_steps : ∀ (k st : Nat) (Y : Nat → Nat → Nat) (e : Nat) (e' : Nat) (Y' : Nat → Nat → Nat), zSteps f L j k st Y e = .inr (e', Y') → st + k = 4 → yrS Y j st → yrOk Y' ∧ ∀ c, c ≠ 9 → c ≠ 10 → c ≠ 11 → Y' c = Y c
  | 0, st, Y, e, e', Y', h, _, _ => by cases h
  | k + 1, st, Y, e, e', Y', h, hst, hS => by
    unfold zSteps at h
    obtain ⟨a, x1, h⟩ := zB_i h
    obtain ⟨r, x2, h⟩ := zB_i h
    have h1 := tA_i x1
    have h2 := tN_i x2
    have hS2 := yrS_step hS h1.1 h2.1 h2.2.1 (by omega)
    have hc : ∀ c, c ≠ 9 → c ≠ 10 → c ≠ 11 → dU (dU (dU Y 10 (4 * j + st) a.1) 11 (4 * j + st) r.1) 9 j (st + 1) c = Y c := fun c g1 g2 g3 => by funext x; rw [dU_c g1, dU_c g3, dU_c g2]
    by_cases hT : kT f L r.2 = 1
    · rw [if_pos hT] at h
      obtain ⟨y1, y2⟩ := J_steps k (st + 1) _ _ e' Y' h (by omega) hS2
      exact ⟨y1, fun c g1 g2 g3 => (y2 c g1 g2 g3).trans (hc c g1 g2 g3)⟩
    · rw [if_neg hT] at h
      cases h
      exact ⟨yrS_end hS2 dU_s (by omega), hc⟩
theorem yJn_of (h : yJn Y) (h1 : Y' 1 = Y 1) (h2 : Y' 2 = Y 2) (h7 : Y' 7 = Y 7) (h12 : Y' 12 = Y 12) : yJn Y' := by
  unfold yJn
  rw [h1, h2, h7, h12]
  exact h
theorem J_jobS (h : yrOk Y) (hn : yJn Y) (hf : Y 2 3 < 6) (hd : d ≤ 999) (hw : s_nmOk w ∧ w < 2 ^ 30) : yrS (dU (s_gi Y 3 w) 8 (Y 2 3) d) (Y 2 3) 0 ∧ yJn (dU (s_gi Y 3 w) 8 (Y 2 3) d) := by
  have h88 : ∀ s, s < 4 → Y 2 s ≤ 8 := fun s hs => by
    obtain ⟨a0, a1, a2, a3⟩ := h.1
    rcases (by omega : s = 0 ∨ s = 1 ∨ s = 2 ∨ s = 3) with rfl | rfl | rfl | rfl <;> omega
  have hnm := nm_gi hn (by decide : 3 < 4) (by omega) h88 hw
  obtain ⟨⟨a0, a1, a2, a3⟩, b2, c2, d7, d8, e9, e12, e14, e16, e17, e18, eB, e6, e94⟩ := h
  obtain ⟨z1, z2, z3⟩ := hn
  refine ⟨⟨?_, ?_, ?_, ?_, ?_, ⟨?_, fun s hs => absurd hs (by omega)⟩, ?_, ?_, ?_, ?_, ?_, ?_, ?_, ?_⟩, ?_, ?_, ?_⟩
  · simp [dU_at, gi_at]; omega
  · intro k hk; simp [dU_at, gi_at] at hk ⊢; exact b2 k hk
  · intro k hk; simp [dU_at, gi_at] at hk ⊢; exact c2 k hk
  · intro i; simp [dU_at, gi_at]; exact d7 i
  · intro i; simp [dU_at, gi_at]; have := d8 i; split <;> omega
  · intro j' hj hjj; simp [dU_at, gi_at] at hj hjj ⊢; exact e9 j' (by omega)
  · intro i; simp [dU_at, gi_at]; exact e12 i
  · simp [dU_at, gi_at]; exact e14
  · simp [dU_at, gi_at]; exact e16
  · simp [dU_at, gi_at]; exact e17
  · simp [dU_at, gi_at]; exact e18
  · intro c j
    have := eB c j
    simp only [dU_at, gi_at]
    repeat' split
    all_goals omega
  · intro i; simp [dU_at, gi_at]; exact e6 i
  · intro i; simp [dU_at, gi_at]; exact e94 i
  · intro a c ha hc hx; simp [dU_at, gi_at] at hx ⊢; exact z1 a c ha hc hx
  · intro a c ha hc hx; simp [dU_at, gi_at] at hx ⊢; exact z2 a c ha hc hx
  · intro t i ht hi
    rw [dU_c (by decide)] at hi ⊢
    exact hnm t i ht hi
end Q9z5

