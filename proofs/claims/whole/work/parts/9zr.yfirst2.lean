/-! ===== the two first states are alike ===== -/
/-- the bytes of the class's own words -/
def tkB : List Int32 := [107, 105, 110, 100, 32, 114, 101, 115, 116, 115, 32, 111, 102, 32, 116, 111, 111, 108, 32, 105, 115, 32, 119, 111, 114, 110, 32, 104, 97, 110, 100, 32, 107, 110, 111, 119, 115, 32, 106, 111, 98, 32, 98, 121, 32, 100, 111, 101, 115, 32, 115, 101, 114, 118, 101, 115, 32, 102, 111, 114, 32, 97, 116, 32, 109, 97, 121, 32, 119, 101, 97, 114, 115, 32, 98, 114, 101, 97, 107, 115, 32, 115, 109, 105, 116, 104, 32, 102, 105, 110, 101, 32, 102, 114, 111, 115, 116, 32, 114, 101, 115, 116, 32, 104, 111, 117, 114, 115, 32, 100, 97, 121, 32, 108, 97, 116, 101, 32, 117, 115, 101, 100, 32, 105, 102, 32, 111, 114, 32, 97, 110, 100, 32, 110, 111, 116, 32, 97, 108, 108, 32, 109, 105, 110, 32, 109, 97, 120, 32]
def Y00 : Nat → Nat → Nat := fun c j => if c = 0 then (if j = 14 then 100 else if j = 16 then 9 else if j = 17 then 5 else 0) else 0
def G00 : Nat → Nat → Nat := fun c j => if c = 1 ∧ j = 1 then 1 else 0
section Q9zr
variable {g : Nat → Int32} {k j : Nat}
theorem tk_ownB : (List.range 32).all (fun k => decide ((tkSt (fun j => tkB.getD j 0) 149).2.2.2 k = nI (s_own k))) = true := by decide +kernel
theorem tk_own (hk : k < 32) : (tkSt (fun j => tkB.getD j 0) 149).2.2.2 k = nI (s_own k) := by
  have := List.all_eq_true.mp tk_ownB k (List.mem_range.mpr hk)
  exact of_decide_eq_true this
theorem c0z (h : k ≠ 0 ∧ k ≠ 2 ∧ k ≠ 19 ∧ k ≠ 148 ∧ k ≠ 160 ∧ k ≠ 161) : (cS0 g).1 k j = nI 0 := by
  unfold cS0
  simp only
  rw [if_neg h.1, if_neg (by omega), if_neg (by omega), if_neg (by omega), if_neg (by omega)]
  rfl
theorem c0y (c b : Nat) (hb : b < 2) (hc : c ≤ 12) : (cS0 g).1 (yc b c) j = nI (Y00 c j) := by
  by_cases h : c = 0
  · subst h
    have : (cS0 g).1 (yc b 0) j = (if j = 14 then 100 else if j = 16 then 9 else if j = 17 then 5 else 0) := by
      rcases (by omega : b = 0 ∨ b = 1) with rfl | rfl <;> rfl
    rw [this]
    show _ = nI (if j = 14 then 100 else if j = 16 then 9 else if j = 17 then 5 else 0)
    repeat' split
    all_goals rfl
  · rw [c0z (by unfold yc; omega)]
    unfold Y00
    rw [if_neg h]
theorem Y00_W : yWk Y00 := by
  have h : ∀ c j, Y00 c j ≤ 100 := fun c j => by unfold Y00; (repeat' split) <;> omega
  have h0 : ∀ c j, c ≠ 0 → Y00 c j = 0 := fun c j hc => by unfold Y00; rw [if_neg hc]
  refine ⟨fun i => ?_, fun i => ?_, fun i => ?_, fun i => ?_, fun i => ?_, fun c j => ?_⟩
  · rw [h0 _ _ (by decide)]; decide
  · rw [h0 _ _ (by decide)]; decide
  · rw [h0 _ _ (by decide)]; decide
  · rw [h0 _ _ (by decide)]; decide
  · rw [h0 _ _ (by decide)]; decide
  · have := h c j; omega
theorem Y00_ok : yrOk Y00 := by
  obtain ⟨w1, w2, w3, w4, w5, w6⟩ := Y00_W
  have h2 : ∀ s, Y00 2 s = 0 := fun s => rfl
  refine ⟨⟨by rw [h2]; decide, by rw [h2]; decide, by rw [h2]; decide, by rw [h2]; decide⟩, fun k hk => by rw [h2] at hk; omega, fun k hk => by rw [h2] at hk; omega, w1, w2, fun k hk => by rw [h2] at hk; omega, w3, ?_, ?_, ?_, ?_, w6, w4, w5⟩
  · show (1 : Nat) ≤ 100 ∧ (100 : Nat) ≤ 100; decide
  · show (2 : Nat) ≤ 9 ∧ (9 : Nat) ≤ 30 ∧ (0 : Nat) < 9; decide
  · show (5 : Nat) ≤ 100; decide
  · show (0 : Nat) ≤ 100; decide
theorem gC_0 (hg : ∀ k, k < 32 → g k = nI (s_own k)) : gC (cS0 g) 0 Y00 [] [] (fun _ _ => 0) (fun _ _ _ => 0) G00 := by
  refine ⟨⟨fun c j hc => c0y c 0 (by decide) hc, fun j => c0z (by decide), rfl, rfl, by decide, by decide, trivial, trivial⟩, ⟨rfl, rfl, rfl⟩, ⟨fun j hj => c0z (by decide), fun c j hc hc2 => c0z (by unfold yd; omega), fun _ => ⟨c0z (by decide), fun k => c0z (by decide)⟩⟩, ⟨Y00, Y00_W, fun c j hc => c0y c 1 (by decide) hc, fun j => c0z (by decide)⟩, ⟨0, by decide, c0z (by decide), c0z (by decide), fun i hi => absurd hi (by unfold G00; rw [if_neg (by omega)]; omega)⟩, ⟨fun i => ?_, rfl, rfl, rfl, c0z (by decide), rfl, rfl⟩, ⟨fun i hi => ?_, fun i hi => absurd hi (by unfold G00; rw [if_neg (by omega)]; omega), fun i hi => absurd hi (by unfold G00; rw [if_neg (by omega)]; omega)⟩, ⟨⟨0, rfl, Or.inl rfl⟩, ⟨0, rfl, Or.inl rfl⟩⟩, ⟨fun c j hc hc2 hj => c0z (by unfold yd; omega), fun c j hc hc2 hj => c0z (by omega), fun i hi c j hc hc2 hj => c0z (by unfold sv; omega), ⟨fun _ _ => 0, fun c j hc hc2 => c0z (by omega), fun _ => Nat.zero_le _, fun _ => Nat.zero_le _, fun _ => Nat.zero_le _, fun _ _ => (by show (0 : Nat) < 2 ^ 31; decide)⟩, fun w hw => ⟨0, 0, by decide, by decide, c0z (by unfold sh; omega), c0z (by unfold sh; omega)⟩⟩, fun k hk => hg k hk⟩
  · rw [c0z (by decide)]; unfold G00; rw [if_neg (by omega)]
  · rw [c0z (by decide)]; unfold G00; rw [if_neg (by omega)]
theorem gM_0 : gM mS2 0 Y00 [] [] (fun _ _ => 0) (fun _ _ _ => 0) G00 := by
  have h2 : ∀ s, Y00 2 s = 0 := fun s => rfl
  have hz : ∀ {n : Nat}, ¬ n < Y00 2 0 := fun h => by rw [h2] at h; omega
  have hz1 : ∀ {n : Nat}, ¬ n < Y00 2 1 := fun h => by rw [h2] at h; omega
  have hz2 : ∀ {n : Nat}, ¬ n < Y00 2 2 := fun h => by rw [h2] at h; omega
  have hz3 : ∀ {n : Nat}, ¬ n < Y00 2 3 := fun h => by rw [h2] at h; omega
  refine ⟨⟨rfl, ⟨rfl, rfl, rfl, rfl⟩, fun k hk => absurd hk hz, fun k hk => absurd hk hz1, fun g t hg => absurd hg hz2, fun j hj => absurd hj hz3, fun a c ha => absurd ha hz, ⟨rfl, rfl⟩, ⟨rfl, rfl, rfl⟩, ⟨fun _ => rfl, fun h => absurd rfl h⟩, ⟨fun _ => rfl, fun h => absurd rfl h⟩⟩, fun s i hs hi => by rw [h2] at hi; omega, ⟨⟨rfl, rfl, rfl, rfl, rfl⟩, fun t ht => absurd ht hz1, fun g t hg => absurd hg hz2, fun j hj => absurd hj hz3, fun j hj => absurd hj hz3, fun k hk => absurd (show k < 0 from hk) (Nat.not_lt_zero _)⟩, ⟨0, by decide, rfl, rfl, fun i hi => absurd hi (by unfold G00; rw [if_neg (by omega)]; omega)⟩, ⟨fun i hi => ?_, rfl, rfl, rfl, rfl, rfl, rfl⟩, ⟨fun i hi => ?_, fun i hi => absurd hi (by unfold G00; rw [if_neg (by omega)]; omega), fun i hi => absurd hi (by unfold G00; rw [if_neg (by omega)]; omega)⟩, rfl, rfl, 0, 0, 0, by decide, by decide, rfl, rfl, rfl⟩
  · show mS2.1 1 i = nI (if 0 = 1 ∧ i = 1 then 1 else 0)
    rw [if_neg (by omega)]
    rfl
  · show mS2.1 33 i = nI (if 2 = 1 ∧ i = 1 then 1 else 0)
    rw [if_neg (by omega)]
    rfl
theorem gI_0 : gI Y00 [] [] (fun _ _ => 0) (fun _ _ _ => 0) G00 := by
  have h2 : ∀ s, Y00 2 s = 0 := fun s => rfl
  have hG : ∀ c j, G00 c j ≤ 1 := fun c j => by unfold G00; split <;> omega
  have g6 : G00 1 6 = 0 := rfl
  refine ⟨Y00_ok, ⟨fun h => absurd rfl h, fun h => absurd rfl h, fun o ho => absurd ho List.not_mem_nil⟩, ?_, fun _ => rfl, fun i hi => by rw [g6] at hi; omega, fun i hi => by rw [g6] at hi; omega, ⟨by rw [g6]; decide, by decide, fun i => by have := hG 0 i; omega, by decide, by decide, by decide, fun i => by have := hG 3 i; omega, fun i => by have := hG 4 i; omega, by decide, by decide⟩, fun s i hs hi => by rw [h2] at hi; omega⟩
  exact ⟨by decide, by decide, Nat.two_pow_pos _, Nat.two_pow_pos _, fun _ => Nat.zero_le _, fun _ => Nat.zero_le _, fun _ _ => Nat.zero_le _, fun _ => Nat.zero_le _, Nat.zero_le _, fun _ _ => (by show (0 : Nat) < 2 ^ 31; decide), Nat.two_pow_pos _, Nat.two_pow_pos _, Nat.zero_le _, Nat.zero_le _, fun _ _ => rfl, fun _ _ => rfl, fun _ _ => rfl, fun _ _ => rfl⟩
theorem gR_0 (hg : ∀ k, k < 32 → g k = nI (s_own k)) : gR (cS0 g) mS2 := ⟨0, Y00, [], [], _, _, G00, by decide, gC_0 hg, gM_0, gI_0⟩
theorem gR_E : xEq gR := ⟨e_feed, e_end, e_year, e_fault, e_has, e_letter, e_kind, e_tool, e_knows, e_job, e_later, e_done, e_late, e_order, e_moved, e_makeshift, e_hangs, e_guard, e_loan, e_shavings, e_when, e_days, e_chance, e_hold, e_swap, e_due, e_undo, e_seed, e_kept, e_image, e_octet, e_on, e_status⟩
end Q9zr

