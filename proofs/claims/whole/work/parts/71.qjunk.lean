/-! ===== cells that are nobody's: rows that are written anew whenever they are asked for ===== -/
def jK (b k : Nat) : Prop := k = yc b 13 ∨ k = 154 ∨ (165 ≤ k ∧ k ≤ 168)
def jM (k j : Nat) : Prop := k = 46 ∨ k = 47 ∨ k = 48 ∨ k = 49 ∨ k = 50 ∨ k = 51 ∨ k = 52 ∨ k = 53
section Q71
variable {S T Z V : xSt} {b n a s : Nat} {Y D E U : Nat → Nat → Nat} {mc wc : List (Nat × Nat)} {R row : Nat → Nat} {P : Nat → Nat → Nat → Nat} {G G' : Nat → Nat → Nat}
theorem gC_J (hb : b < 2) (hf : ∀ k, ¬ jK b k → Z.1 k = S.1 k) (h2 : Z.2 = S.2) (h : gC S b Y mc wc D P G) : gC Z b Y mc wc D P G := by
  obtain ⟨⟨y1, y2, y3, y4, y5, y6, y7, y8⟩, ⟨h2a, h2b, h2c⟩, ⟨d1, d2, d3⟩, ⟨Y', h4a, h4b, h4c⟩, ⟨c0, h5a, h5b, h5c, h5d⟩, ⟨h6a, h6b, h6c, h6d, h6e, h6f, h6g⟩, ⟨h7a, h7b, h7c⟩, ⟨⟨od, h8a, h8b⟩, ⟨md, h8c, h8d⟩⟩, ⟨h9a, h9b, h9c, ⟨T, h9d, h9e⟩, h9f⟩, h10⟩ := h
  have e : ∀ k, ((36 ≤ k ∧ k ≤ 153) ∨ (155 ≤ k ∧ k ≤ 164) ∨ 169 ≤ k ∨ k < 2) → Z.1 k = S.1 k := fun k a1 => hf k (by unfold jK yc; omega)
  have ey : ∀ b' c, b' < 2 → c ≤ 16 → c ≠ 13 → Z.1 (yc b' c) = S.1 (yc b' c) := fun b' c a1 a2 a3 => hf _ (by unfold jK yc; omega)
  have ed : ∀ w c, w < 2 → c ≤ 4 → Z.1 (yd w c) = S.1 (yd w c) := fun w c a1 a2 => e _ (by unfold yd; omega)
  have es : ∀ i c, i < 20 → c ≤ 4 → Z.1 (sv i c) = S.1 (sv i c) := fun i c a1 a2 => e _ (by unfold sv; omega)
  refine ⟨⟨fun c j hc => by rw [ey b c hb (by omega) (by omega)]; exact y1 c j hc, fun j => by rw [ey b 14 hb (by decide) (by decide)]; exact y2 j, y3, y4, y5, y6, by rw [ey b 15 hb (by decide) (by decide)]; exact y7, by rw [ey b 15 hb (by decide) (by decide)]; exact y8⟩, ⟨by rw [h2]; exact h2a, by rw [h2]; exact h2b, by rw [h2]; exact h2c⟩, ⟨fun j hj => by rw [ed 0 0 (by decide) (by decide)]; exact d1 j hj, fun c j hc hc2 => by rw [ed 0 c (by decide) hc2]; exact d2 c j hc hc2, fun h0 => ⟨by rw [ed 0 0 (by decide) (by decide)]; exact (d3 h0).1, fun k => by rw [e 43 (by omega)]; exact (d3 h0).2 k⟩⟩, ⟨Y', h4a, fun c j hc => by rw [ey _ c (by omega) (by omega) (by omega)]; exact h4b c j hc, fun j => by rw [ey _ 14 (by omega) (by decide) (by decide)]; exact h4c j⟩, ⟨c0, h5a, by rw [e 41 (by omega)]; exact h5b, by rw [e 41 (by omega)]; exact h5c, fun i hi => ?_⟩, ⟨fun i => by rw [e 1 (by omega)]; exact h6a i, by rw [e 0 (by omega)]; exact h6b, by rw [e 0 (by omega)]; exact h6c, by rw [e 0 (by omega)]; exact h6d, by rw [e 169 (by omega)]; exact h6e, by rw [e 160 (by omega)]; exact h6f, by rw [e 160 (by omega)]; exact h6g⟩, ⟨fun i hi => by rw [e 177 (by omega)]; exact h7a i hi, fun i hi => by rw [e 176 (by omega)]; exact h7b i hi, fun i hi => by rw [e 170 (by omega)]; exact h7c i hi⟩, ⟨⟨od, by rw [e 148 (by omega)]; exact h8a, by rw [e 148 (by omega), e 155 (by omega)]; exact h8b⟩, ⟨md, by rw [e 148 (by omega)]; exact h8c, by rw [e 148 (by omega)]; exact h8d⟩⟩, ⟨fun c j hc hc2 hj => ?_, fun c j hc hc2 hj => ?_, fun i hi c j hc hc2 hj => ?_, ⟨T, fun c j hc hc2 => ?_, h9e⟩, fun w hw => ?_⟩, fun k hk => by rw [e 161 (by omega)]; exact h10 k hk⟩
  · obtain ⟨s1, s2⟩ := h5d i hi
    have hlt : (c0 + i) % 20 < 20 := Nat.mod_lt _ (by decide)
    exact ⟨fun j hj => by rw [es _ 0 hlt (by decide)]; exact s1 j hj, fun c j hc hc2 => by rw [es _ c hlt hc2]; exact s2 c j hc hc2⟩
  · have := ed 1 c (by decide) hc2; rw [yd_c] at this; rw [this]; exact h9a c j hc hc2 hj
  · rw [e _ (by omega)]; exact h9b c j hc hc2 hj
  · have := es i c hi hc2; rw [sv_c] at this; rw [this]; exact h9c i hi c j hc hc2 hj
  · rw [e _ (by omega)]; exact h9d c j hc hc2
  · obtain ⟨u, u', a1, a2, a3, a4⟩ := h9f w hw
    have : Z.1 (sh w 0) = S.1 (sh w 0) := e _ (by unfold sh; omega)
    exact ⟨u, u', a1, a2, by rw [this]; exact a3, by rw [this]; exact a4⟩
theorem gM_J (hI : gI Y mc wc D P G) (hf : mFq jM S Z) (h : gM S b Y mc wc D P G) : gM Z b Y mc wc D P G := by
  obtain ⟨h1, h2, h3, ⟨f0, h4a, h4b, h4c, h4d⟩, ⟨h5a, h5b, h5c, h5d, h5e, h5f, h5g⟩, ⟨h6a, h6b, h6c⟩, h7a, h7b, u, u', fr, hu, hu', h73, h74, h75⟩ := h
  have e : ∀ k j, ¬ jM k j → Z.1 k j = S.1 k j := hf.1
  have t0 := dOk_told hI.1 hI.2.2.1
  refine ⟨mY_fr hf (fun k j a1 a2 => by unfold jM; omega) (by unfold jM; omega) h1, fun s i hs hi => by rw [hf.2.1 _ (by omega)]; exact h2 s i hs hi, mD_fr hI.1 hf (fun k j a1 a2 a3 => by unfold mQ at a1; unfold jM; omega) (by omega) h3, ⟨f0, h4a, by rw [e _ _ (by unfold jM; omega)]; exact h4b, by rw [e _ _ (by unfold jM; omega)]; exact h4c, fun i hi => ?_⟩, ⟨fun i hi => by rw [e _ _ (by unfold jM; omega)]; exact h5a i hi, by rw [e _ _ (by unfold jM; omega)]; exact h5b, by rw [hf.2.1 _ (by decide)]; exact h5c, by rw [e _ _ (by unfold jM; omega)]; exact h5d, by rw [e _ _ (by unfold jM; omega)]; exact h5e, by rw [e _ _ (by unfold jM; omega)]; exact h5f, by rw [e _ _ (by unfold jM; omega)]; exact h5g⟩, ⟨fun i hi => by rw [e _ _ (by unfold jM; omega)]; exact h6a i hi, fun i hi => by rw [e _ _ (by unfold jM; omega)]; exact h6b i hi, fun i hi => by rw [e _ _ (by unfold jM; omega)]; exact h6c i hi⟩, by rw [e _ _ (by unfold jM; omega)]; exact h7a, by rw [e _ _ (by unfold jM; omega)]; exact h7b, u, u', fr, hu, hu', by rw [e _ _ (by unfold jM; omega)]; exact h73, by rw [e _ _ (by unfold jM; omega)]; exact h74, by rw [e _ _ (by unfold jM; omega)]; exact h75⟩
  have t1 := dOk_told hI.1 (hI.2.2.2.2.1 i hi)
  exact mD_fr hI.1 hf (fun k j a1 a2 a3 => by unfold mQ at a1; unfold jM; omega) (by omega) (h4d i hi)
end Q71

