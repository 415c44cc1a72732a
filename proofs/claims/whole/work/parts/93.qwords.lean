/-! ===== words ===== -/
section Q93
variable {S Z V : xSt} {n L e s : Nat} {f : Nat → Nat}
theorem w_long1 (hl : ∀ x, x < 1 → isL (f (s + x)) = true) : s_long (s_pk f s 1 0 0) = s_wd f s 1 0 0 ∧ s_nmOk (s_pk f s 1 0 0) ∧ s_pk f s 1 0 0 < 2 ^ 30 := by
  have b0 := isL_iff.mp (hl 0 (by decide))
  have ep : s_pk f s 1 0 0 = (f (s + 0) - 96) * 33554432 := by
    show (0 + (f (s + 0) - 96) * 2 ^ (5 * (5 - 0))) = _
    simp only [Nat.reducePow, Nat.reduceMul, Nat.reduceSub, Nat.zero_add]
  have ew : s_wd f s 1 0 0 = (0 * 256 + f (s + 0)) := rfl
  have t0 : s_lt1 (s_pk f s 1 0 0) 0 = f (s + 0) - 96 := by rw [ep]; unfold s_lt1; simp only [Nat.reducePow, Nat.reduceMul, Nat.reduceSub]; omega
  have t1 : s_lt1 (s_pk f s 1 0 0) 1 = 0 := by rw [ep]; unfold s_lt1; simp only [Nat.reducePow, Nat.reduceMul, Nat.reduceSub]; omega
  have t2 : s_lt1 (s_pk f s 1 0 0) 2 = 0 := by rw [ep]; unfold s_lt1; simp only [Nat.reducePow, Nat.reduceMul, Nat.reduceSub]; omega
  have t3 : s_lt1 (s_pk f s 1 0 0) 3 = 0 := by rw [ep]; unfold s_lt1; simp only [Nat.reducePow, Nat.reduceMul, Nat.reduceSub]; omega
  have t4 : s_lt1 (s_pk f s 1 0 0) 4 = 0 := by rw [ep]; unfold s_lt1; simp only [Nat.reducePow, Nat.reduceMul, Nat.reduceSub]; omega
  have t5 : s_lt1 (s_pk f s 1 0 0) 5 = 0 := by rw [ep]; unfold s_lt1; simp only [Nat.reducePow, Nat.reduceMul, Nat.reduceSub]; omega
  have n0 : ¬ f (s + 0) - 96 = 0 := by omega
  refine ⟨?_, ⟨1, by decide, by decide, fun k hk => ?_, fun k hk hk2 => ?_⟩, by rw [ep]; omega⟩
  · rw [ew]
    unfold s_long
    rw [s_longL, show 5 - 5 = 0 from rfl, t0, if_neg n0]
    rw [s_longL, show 5 - 4 = 1 from rfl, t1, if_pos rfl]
    omega
  · rcases (by omega : k = 0) with rfl
    · rw [t0]; omega
  · rcases (by omega : k = 1 ∨ k = 2 ∨ k = 3 ∨ k = 4 ∨ k = 5) with rfl | rfl | rfl | rfl | rfl
    · exact t1
    · exact t2
    · exact t3
    · exact t4
    · exact t5
theorem w_long2 (hl : ∀ x, x < 2 → isL (f (s + x)) = true) : s_long (s_pk f s 2 0 0) = s_wd f s 2 0 0 ∧ s_nmOk (s_pk f s 2 0 0) ∧ s_pk f s 2 0 0 < 2 ^ 30 := by
  have b0 := isL_iff.mp (hl 0 (by decide))
  have b1 := isL_iff.mp (hl 1 (by decide))
  have ep : s_pk f s 2 0 0 = (f (s + 0) - 96) * 33554432 + (f (s + 1) - 96) * 1048576 := by
    show ((0 + (f (s + 0) - 96) * 2 ^ (5 * (5 - 0))) + (f (s + 1) - 96) * 2 ^ (5 * (5 - 1))) = _
    simp only [Nat.reducePow, Nat.reduceMul, Nat.reduceSub, Nat.zero_add]
  have ew : s_wd f s 2 0 0 = ((0 * 256 + f (s + 0)) * 256 + f (s + 1)) := rfl
  have t0 : s_lt1 (s_pk f s 2 0 0) 0 = f (s + 0) - 96 := by rw [ep]; unfold s_lt1; simp only [Nat.reducePow, Nat.reduceMul, Nat.reduceSub]; omega
  have t1 : s_lt1 (s_pk f s 2 0 0) 1 = f (s + 1) - 96 := by rw [ep]; unfold s_lt1; simp only [Nat.reducePow, Nat.reduceMul, Nat.reduceSub]; omega
  have t2 : s_lt1 (s_pk f s 2 0 0) 2 = 0 := by rw [ep]; unfold s_lt1; simp only [Nat.reducePow, Nat.reduceMul, Nat.reduceSub]; omega
  have t3 : s_lt1 (s_pk f s 2 0 0) 3 = 0 := by rw [ep]; unfold s_lt1; simp only [Nat.reducePow, Nat.reduceMul, Nat.reduceSub]; omega
  have t4 : s_lt1 (s_pk f s 2 0 0) 4 = 0 := by rw [ep]; unfold s_lt1; simp only [Nat.reducePow, Nat.reduceMul, Nat.reduceSub]; omega
  have t5 : s_lt1 (s_pk f s 2 0 0) 5 = 0 := by rw [ep]; unfold s_lt1; simp only [Nat.reducePow, Nat.reduceMul, Nat.reduceSub]; omega
  have n0 : ¬ f (s + 0) - 96 = 0 := by omega
  have n1 : ¬ f (s + 1) - 96 = 0 := by omega
  refine ⟨?_, ⟨2, by decide, by decide, fun k hk => ?_, fun k hk hk2 => ?_⟩, by rw [ep]; omega⟩
  · rw [ew]
    unfold s_long
    rw [s_longL, show 5 - 5 = 0 from rfl, t0, if_neg n0]
    rw [s_longL, show 5 - 4 = 1 from rfl, t1, if_neg n1]
    rw [s_longL, show 5 - 3 = 2 from rfl, t2, if_pos rfl]
    omega
  · rcases (by omega : k = 0 ∨ k = 1) with rfl | rfl
    · rw [t0]; omega
    · rw [t1]; omega
  · rcases (by omega : k = 2 ∨ k = 3 ∨ k = 4 ∨ k = 5) with rfl | rfl | rfl | rfl
    · exact t2
    · exact t3
    · exact t4
    · exact t5
theorem w_long3 (hl : ∀ x, x < 3 → isL (f (s + x)) = true) : s_long (s_pk f s 3 0 0) = s_wd f s 3 0 0 ∧ s_nmOk (s_pk f s 3 0 0) ∧ s_pk f s 3 0 0 < 2 ^ 30 := by
  have b0 := isL_iff.mp (hl 0 (by decide))
  have b1 := isL_iff.mp (hl 1 (by decide))
  have b2 := isL_iff.mp (hl 2 (by decide))
  have ep : s_pk f s 3 0 0 = (f (s + 0) - 96) * 33554432 + (f (s + 1) - 96) * 1048576 + (f (s + 2) - 96) * 32768 := by
    show (((0 + (f (s + 0) - 96) * 2 ^ (5 * (5 - 0))) + (f (s + 1) - 96) * 2 ^ (5 * (5 - 1))) + (f (s + 2) - 96) * 2 ^ (5 * (5 - 2))) = _
    simp only [Nat.reducePow, Nat.reduceMul, Nat.reduceSub, Nat.zero_add]
  have ew : s_wd f s 3 0 0 = (((0 * 256 + f (s + 0)) * 256 + f (s + 1)) * 256 + f (s + 2)) := rfl
  have t0 : s_lt1 (s_pk f s 3 0 0) 0 = f (s + 0) - 96 := by rw [ep]; unfold s_lt1; simp only [Nat.reducePow, Nat.reduceMul, Nat.reduceSub]; omega
  have t1 : s_lt1 (s_pk f s 3 0 0) 1 = f (s + 1) - 96 := by rw [ep]; unfold s_lt1; simp only [Nat.reducePow, Nat.reduceMul, Nat.reduceSub]; omega
  have t2 : s_lt1 (s_pk f s 3 0 0) 2 = f (s + 2) - 96 := by rw [ep]; unfold s_lt1; simp only [Nat.reducePow, Nat.reduceMul, Nat.reduceSub]; omega
  have t3 : s_lt1 (s_pk f s 3 0 0) 3 = 0 := by rw [ep]; unfold s_lt1; simp only [Nat.reducePow, Nat.reduceMul, Nat.reduceSub]; omega
  have t4 : s_lt1 (s_pk f s 3 0 0) 4 = 0 := by rw [ep]; unfold s_lt1; simp only [Nat.reducePow, Nat.reduceMul, Nat.reduceSub]; omega
  have t5 : s_lt1 (s_pk f s 3 0 0) 5 = 0 := by rw [ep]; unfold s_lt1; simp only [Nat.reducePow, Nat.reduceMul, Nat.reduceSub]; omega
  have n0 : ¬ f (s + 0) - 96 = 0 := by omega
  have n1 : ¬ f (s + 1) - 96 = 0 := by omega
  have n2 : ¬ f (s + 2) - 96 = 0 := by omega
  refine ⟨?_, ⟨3, by decide, by decide, fun k hk => ?_, fun k hk hk2 => ?_⟩, by rw [ep]; omega⟩
  · rw [ew]
    unfold s_long
    rw [s_longL, show 5 - 5 = 0 from rfl, t0, if_neg n0]
    rw [s_longL, show 5 - 4 = 1 from rfl, t1, if_neg n1]
    rw [s_longL, show 5 - 3 = 2 from rfl, t2, if_neg n2]
    rw [s_longL, show 5 - 2 = 3 from rfl, t3, if_pos rfl]
    omega
  · rcases (by omega : k = 0 ∨ k = 1 ∨ k = 2) with rfl | rfl | rfl
    · rw [t0]; omega
    · rw [t1]; omega
    · rw [t2]; omega
  · rcases (by omega : k = 3 ∨ k = 4 ∨ k = 5) with rfl | rfl | rfl
    · exact t3
    · exact t4
    · exact t5
theorem w_long4 (hl : ∀ x, x < 4 → isL (f (s + x)) = true) : s_long (s_pk f s 4 0 0) = s_wd f s 4 0 0 ∧ s_nmOk (s_pk f s 4 0 0) ∧ s_pk f s 4 0 0 < 2 ^ 30 := by
  have b0 := isL_iff.mp (hl 0 (by decide))
  have b1 := isL_iff.mp (hl 1 (by decide))
  have b2 := isL_iff.mp (hl 2 (by decide))
  have b3 := isL_iff.mp (hl 3 (by decide))
  have ep : s_pk f s 4 0 0 = (f (s + 0) - 96) * 33554432 + (f (s + 1) - 96) * 1048576 + (f (s + 2) - 96) * 32768 + (f (s + 3) - 96) * 1024 := by
    show ((((0 + (f (s + 0) - 96) * 2 ^ (5 * (5 - 0))) + (f (s + 1) - 96) * 2 ^ (5 * (5 - 1))) + (f (s + 2) - 96) * 2 ^ (5 * (5 - 2))) + (f (s + 3) - 96) * 2 ^ (5 * (5 - 3))) = _
    simp only [Nat.reducePow, Nat.reduceMul, Nat.reduceSub, Nat.zero_add]
  have ew : s_wd f s 4 0 0 = ((((0 * 256 + f (s + 0)) * 256 + f (s + 1)) * 256 + f (s + 2)) * 256 + f (s + 3)) := rfl
  have t0 : s_lt1 (s_pk f s 4 0 0) 0 = f (s + 0) - 96 := by rw [ep]; unfold s_lt1; simp only [Nat.reducePow, Nat.reduceMul, Nat.reduceSub]; omega
  have t1 : s_lt1 (s_pk f s 4 0 0) 1 = f (s + 1) - 96 := by rw [ep]; unfold s_lt1; simp only [Nat.reducePow, Nat.reduceMul, Nat.reduceSub]; omega
  have t2 : s_lt1 (s_pk f s 4 0 0) 2 = f (s + 2) - 96 := by rw [ep]; unfold s_lt1; simp only [Nat.reducePow, Nat.reduceMul, Nat.reduceSub]; omega
  have t3 : s_lt1 (s_pk f s 4 0 0) 3 = f (s + 3) - 96 := by rw [ep]; unfold s_lt1; simp only [Nat.reducePow, Nat.reduceMul, Nat.reduceSub]; omega
  have t4 : s_lt1 (s_pk f s 4 0 0) 4 = 0 := by rw [ep]; unfold s_lt1; simp only [Nat.reducePow, Nat.reduceMul, Nat.reduceSub]; omega
  have t5 : s_lt1 (s_pk f s 4 0 0) 5 = 0 := by rw [ep]; unfold s_lt1; simp only [Nat.reducePow, Nat.reduceMul, Nat.reduceSub]; omega
  have n0 : ¬ f (s + 0) - 96 = 0 := by omega
  have n1 : ¬ f (s + 1) - 96 = 0 := by omega
  have n2 : ¬ f (s + 2) - 96 = 0 := by omega
  have n3 : ¬ f (s + 3) - 96 = 0 := by omega
  refine ⟨?_, ⟨4, by decide, by decide, fun k hk => ?_, fun k hk hk2 => ?_⟩, by rw [ep]; omega⟩
  · rw [ew]
    unfold s_long
    rw [s_longL, show 5 - 5 = 0 from rfl, t0, if_neg n0]
    rw [s_longL, show 5 - 4 = 1 from rfl, t1, if_neg n1]
    rw [s_longL, show 5 - 3 = 2 from rfl, t2, if_neg n2]
    rw [s_longL, show 5 - 2 = 3 from rfl, t3, if_neg n3]
    rw [s_longL, show 5 - 1 = 4 from rfl, t4, if_pos rfl]
    omega
  · rcases (by omega : k = 0 ∨ k = 1 ∨ k = 2 ∨ k = 3) with rfl | rfl | rfl | rfl
    · rw [t0]; omega
    · rw [t1]; omega
    · rw [t2]; omega
    · rw [t3]; omega
  · rcases (by omega : k = 4 ∨ k = 5) with rfl | rfl
    · exact t4
    · exact t5
theorem w_long5 (hl : ∀ x, x < 5 → isL (f (s + x)) = true) : s_long (s_pk f s 5 0 0) = s_wd f s 5 0 0 ∧ s_nmOk (s_pk f s 5 0 0) ∧ s_pk f s 5 0 0 < 2 ^ 30 := by
  have b0 := isL_iff.mp (hl 0 (by decide))
  have b1 := isL_iff.mp (hl 1 (by decide))
  have b2 := isL_iff.mp (hl 2 (by decide))
  have b3 := isL_iff.mp (hl 3 (by decide))
  have b4 := isL_iff.mp (hl 4 (by decide))
  have ep : s_pk f s 5 0 0 = (f (s + 0) - 96) * 33554432 + (f (s + 1) - 96) * 1048576 + (f (s + 2) - 96) * 32768 + (f (s + 3) - 96) * 1024 + (f (s + 4) - 96) * 32 := by
    show (((((0 + (f (s + 0) - 96) * 2 ^ (5 * (5 - 0))) + (f (s + 1) - 96) * 2 ^ (5 * (5 - 1))) + (f (s + 2) - 96) * 2 ^ (5 * (5 - 2))) + (f (s + 3) - 96) * 2 ^ (5 * (5 - 3))) + (f (s + 4) - 96) * 2 ^ (5 * (5 - 4))) = _
    simp only [Nat.reducePow, Nat.reduceMul, Nat.reduceSub, Nat.zero_add]
  have ew : s_wd f s 5 0 0 = (((((0 * 256 + f (s + 0)) * 256 + f (s + 1)) * 256 + f (s + 2)) * 256 + f (s + 3)) * 256 + f (s + 4)) := rfl
  have t0 : s_lt1 (s_pk f s 5 0 0) 0 = f (s + 0) - 96 := by rw [ep]; unfold s_lt1; simp only [Nat.reducePow, Nat.reduceMul, Nat.reduceSub]; omega
  have t1 : s_lt1 (s_pk f s 5 0 0) 1 = f (s + 1) - 96 := by rw [ep]; unfold s_lt1; simp only [Nat.reducePow, Nat.reduceMul, Nat.reduceSub]; omega
  have t2 : s_lt1 (s_pk f s 5 0 0) 2 = f (s + 2) - 96 := by rw [ep]; unfold s_lt1; simp only [Nat.reducePow, Nat.reduceMul, Nat.reduceSub]; omega
  have t3 : s_lt1 (s_pk f s 5 0 0) 3 = f (s + 3) - 96 := by rw [ep]; unfold s_lt1; simp only [Nat.reducePow, Nat.reduceMul, Nat.reduceSub]; omega
  have t4 : s_lt1 (s_pk f s 5 0 0) 4 = f (s + 4) - 96 := by rw [ep]; unfold s_lt1; simp only [Nat.reducePow, Nat.reduceMul, Nat.reduceSub]; omega
  have t5 : s_lt1 (s_pk f s 5 0 0) 5 = 0 := by rw [ep]; unfold s_lt1; simp only [Nat.reducePow, Nat.reduceMul, Nat.reduceSub]; omega
  have n0 : ¬ f (s + 0) - 96 = 0 := by omega
  have n1 : ¬ f (s + 1) - 96 = 0 := by omega
  have n2 : ¬ f (s + 2) - 96 = 0 := by omega
  have n3 : ¬ f (s + 3) - 96 = 0 := by omega
  have n4 : ¬ f (s + 4) - 96 = 0 := by omega
  refine ⟨?_, ⟨5, by decide, by decide, fun k hk => ?_, fun k hk hk2 => ?_⟩, by rw [ep]; omega⟩
  · rw [ew]
    unfold s_long
    rw [s_longL, show 5 - 5 = 0 from rfl, t0, if_neg n0]
    rw [s_longL, show 5 - 4 = 1 from rfl, t1, if_neg n1]
    rw [s_longL, show 5 - 3 = 2 from rfl, t2, if_neg n2]
    rw [s_longL, show 5 - 2 = 3 from rfl, t3, if_neg n3]
    rw [s_longL, show 5 - 1 = 4 from rfl, t4, if_neg n4]
    rw [s_longL, show 5 - 0 = 5 from rfl, t5, if_pos rfl]
    omega
  · rcases (by omega : k = 0 ∨ k = 1 ∨ k = 2 ∨ k = 3 ∨ k = 4) with rfl | rfl | rfl | rfl | rfl
    · rw [t0]; omega
    · rw [t1]; omega
    · rw [t2]; omega
    · rw [t3]; omega
    · rw [t4]; omega
  · rcases (by omega : k = 5) with rfl
    · exact t5
theorem w_long6 (hl : ∀ x, x < 6 → isL (f (s + x)) = true) : s_long (s_pk f s 6 0 0) = s_wd f s 6 0 0 ∧ s_nmOk (s_pk f s 6 0 0) ∧ s_pk f s 6 0 0 < 2 ^ 30 := by
  have b0 := isL_iff.mp (hl 0 (by decide))
  have b1 := isL_iff.mp (hl 1 (by decide))
  have b2 := isL_iff.mp (hl 2 (by decide))
  have b3 := isL_iff.mp (hl 3 (by decide))
  have b4 := isL_iff.mp (hl 4 (by decide))
  have b5 := isL_iff.mp (hl 5 (by decide))
  have ep : s_pk f s 6 0 0 = (f (s + 0) - 96) * 33554432 + (f (s + 1) - 96) * 1048576 + (f (s + 2) - 96) * 32768 + (f (s + 3) - 96) * 1024 + (f (s + 4) - 96) * 32 + (f (s + 5) - 96) * 1 := by
    show ((((((0 + (f (s + 0) - 96) * 2 ^ (5 * (5 - 0))) + (f (s + 1) - 96) * 2 ^ (5 * (5 - 1))) + (f (s + 2) - 96) * 2 ^ (5 * (5 - 2))) + (f (s + 3) - 96) * 2 ^ (5 * (5 - 3))) + (f (s + 4) - 96) * 2 ^ (5 * (5 - 4))) + (f (s + 5) - 96) * 2 ^ (5 * (5 - 5))) = _
    simp only [Nat.reducePow, Nat.reduceMul, Nat.reduceSub, Nat.zero_add]
  have ew : s_wd f s 6 0 0 = ((((((0 * 256 + f (s + 0)) * 256 + f (s + 1)) * 256 + f (s + 2)) * 256 + f (s + 3)) * 256 + f (s + 4)) * 256 + f (s + 5)) := rfl
  have t0 : s_lt1 (s_pk f s 6 0 0) 0 = f (s + 0) - 96 := by rw [ep]; unfold s_lt1; simp only [Nat.reducePow, Nat.reduceMul, Nat.reduceSub]; omega
  have t1 : s_lt1 (s_pk f s 6 0 0) 1 = f (s + 1) - 96 := by rw [ep]; unfold s_lt1; simp only [Nat.reducePow, Nat.reduceMul, Nat.reduceSub]; omega
  have t2 : s_lt1 (s_pk f s 6 0 0) 2 = f (s + 2) - 96 := by rw [ep]; unfold s_lt1; simp only [Nat.reducePow, Nat.reduceMul, Nat.reduceSub]; omega
  have t3 : s_lt1 (s_pk f s 6 0 0) 3 = f (s + 3) - 96 := by rw [ep]; unfold s_lt1; simp only [Nat.reducePow, Nat.reduceMul, Nat.reduceSub]; omega
  have t4 : s_lt1 (s_pk f s 6 0 0) 4 = f (s + 4) - 96 := by rw [ep]; unfold s_lt1; simp only [Nat.reducePow, Nat.reduceMul, Nat.reduceSub]; omega
  have t5 : s_lt1 (s_pk f s 6 0 0) 5 = f (s + 5) - 96 := by rw [ep]; unfold s_lt1; simp only [Nat.reducePow, Nat.reduceMul, Nat.reduceSub]; omega
  have n0 : ¬ f (s + 0) - 96 = 0 := by omega
  have n1 : ¬ f (s + 1) - 96 = 0 := by omega
  have n2 : ¬ f (s + 2) - 96 = 0 := by omega
  have n3 : ¬ f (s + 3) - 96 = 0 := by omega
  have n4 : ¬ f (s + 4) - 96 = 0 := by omega
  have n5 : ¬ f (s + 5) - 96 = 0 := by omega
  refine ⟨?_, ⟨6, by decide, by decide, fun k hk => ?_, fun k hk hk2 => ?_⟩, by rw [ep]; omega⟩
  · rw [ew]
    unfold s_long
    rw [s_longL, show 5 - 5 = 0 from rfl, t0, if_neg n0]
    rw [s_longL, show 5 - 4 = 1 from rfl, t1, if_neg n1]
    rw [s_longL, show 5 - 3 = 2 from rfl, t2, if_neg n2]
    rw [s_longL, show 5 - 2 = 3 from rfl, t3, if_neg n3]
    rw [s_longL, show 5 - 1 = 4 from rfl, t4, if_neg n4]
    rw [s_longL, show 5 - 0 = 5 from rfl, t5, if_neg n5]
    rw [s_longL]
    omega
  · rcases (by omega : k = 0 ∨ k = 1 ∨ k = 2 ∨ k = 3 ∨ k = 4 ∨ k = 5) with rfl | rfl | rfl | rfl | rfl | rfl
    · rw [t0]; omega
    · rw [t1]; omega
    · rw [t2]; omega
    · rw [t3]; omega
    · rw [t4]; omega
    · rw [t5]; omega
  · omega
theorem w_long {m : Nat} (h1 : 1 ≤ m) (h6 : m ≤ 6) (hl : ∀ x, x < m → isL (f (s + x)) = true) : s_long (s_pk f s m 0 0) = s_wd f s m 0 0 ∧ s_nmOk (s_pk f s m 0 0) ∧ s_pk f s m 0 0 < 2 ^ 30 := by
  rcases (by omega : m = 1 ∨ m = 2 ∨ m = 3 ∨ m = 4 ∨ m = 5 ∨ m = 6) with rfl | rfl | rfl | rfl | rfl | rfl
  · exact w_long1 hl
  · exact w_long2 hl
  · exact w_long3 hl
  · exact w_long4 hl
  · exact w_long5 hl
  · exact w_long6 hl
/-- letters out of a packed name -/
theorem w_lts {w : Nat} (hw : w < 2 ^ 30) : w = s_lt1 w 0 * 33554432 + s_lt1 w 1 * 1048576 + s_lt1 w 2 * 32768 + s_lt1 w 3 * 1024 + s_lt1 w 4 * 32 + s_lt1 w 5 := by
  unfold s_lt1
  simp only [Nat.reducePow, Nat.reduceMul, Nat.reduceSub]
  omega
theorem pre_inj {w v : Nat} : ∀ (m k : Nat), (∀ i, i < m → 1 ≤ s_lt1 w i ∧ s_lt1 w i ≤ 26) → (∀ i, i < k → 1 ≤ s_lt1 v i ∧ s_lt1 v i ≤ 26) → s_pre w m = s_pre v k → m = k ∧ ∀ i, i < m → s_lt1 w i = s_lt1 v i
  | 0, 0, _, _, _ => ⟨rfl, fun i hi => by omega⟩
  | 0, k + 1, _, hv, h => by
    have h' : 0 = 256 * s_pre v k + (96 + s_lt1 v k) := h
    omega
  | m + 1, 0, hw, _, h => by
    have h' : 256 * s_pre w m + (96 + s_lt1 w m) = 0 := h
    omega
  | m + 1, k + 1, hw, hv, h => by
    have h' : 256 * s_pre w m + (96 + s_lt1 w m) = 256 * s_pre v k + (96 + s_lt1 v k) := h
    have b1 := hw m (by omega)
    have b2 := hv k (by omega)
    obtain ⟨e1, e2⟩ := pre_inj m k (fun i hi => hw i (by omega)) (fun i hi => hv i (by omega)) (by omega)
    subst e1
    refine ⟨rfl, fun i hi => ?_⟩
    by_cases e : i = m
    · subst e; omega
    · exact e2 i (by omega)
theorem w_inj {w v : Nat} (hw : w < 2 ^ 30) (hv : v < 2 ^ 30) (nw : s_nmOk w) (nv : s_nmOk v) (h : s_long w = s_long v) : w = v := by
  obtain ⟨m, a1, a2, a3, a4, a5⟩ := s_long_pre nw
  obtain ⟨k, b1, b2, b3, b4, b5⟩ := s_long_pre nv
  rw [a5, b5] at h
  obtain ⟨e, el⟩ := pre_inj m k a3 b3 h
  subst e
  have eq : ∀ i, i < 6 → s_lt1 w i = s_lt1 v i := by
    intro i hi
    by_cases hm : i < m
    · exact el i hm
    · rw [a4 i (by omega) hi, b4 i (by omega) hi]
  rw [w_lts hw, w_lts hv, eq 0 (by decide), eq 1 (by decide), eq 2 (by decide), eq 3 (by decide), eq 4 (by decide), eq 5 (by decide)]
theorem s_long_lt {w : Nat} (nw : s_nmOk w) : s_long w < 2 ^ 63 := by
  obtain ⟨m, a1, a2, a3, a4, a5⟩ := s_long_pre nw
  have gen : ∀ k, k ≤ m → s_pre w k < 256 ^ k := by
    intro k
    induction k with
    | zero => intro _; exact Nat.one_pos
    | succ k ih =>
      intro hk
      have := ih (by omega)
      have := a3 k (by omega)
      show 256 * s_pre w k + (96 + s_lt1 w k) < 256 ^ (k + 1)
      rw [Nat.pow_succ]
      omega
  have h1 := gen m (Nat.le_refl _)
  have h2 : 256 ^ m ≤ 256 ^ 6 := Nat.pow_le_pow_right (by decide) a2
  rw [a5]
  omega
/-- the own words as the reference has them -/
def s_oc (k : Nat) : Nat := [1802071652, 491328337011, 28518, 1953460076, 26995, 2003792494, 1751215716, 461414299507, 6975330, 25209, 1685022067, 126879549252979, 6713202, 24948, 7168377, 512801993331, 108243466677107, 495756866664, 1718185573, 440006570868, 1919251316, 448546566771, 6578553, 1818326117, 1970496868, 26982, 28530, 6385252, 7237492, 6384748, 7170414, 7168376].getD k 0
theorem own_all : (List.range 32).all (fun k => decide (s_long (s_own k) = s_oc k) && decide (s_own k < 2 ^ 30) && (List.range 32).all (fun j => decide (k = j) || !decide (s_own k = s_own j))) = true := by decide +kernel
def s_nmB (w : Nat) : Bool := (List.range 7).any (fun m => decide (1 ≤ m) && (List.range m).all (fun k => decide (1 ≤ s_lt1 w k) && decide (s_lt1 w k ≤ 26)) && (List.range 6).all (fun k => decide (k < m) || decide (s_lt1 w k = 0)))
theorem s_nmB_ok {w : Nat} (h : s_nmB w = true) : s_nmOk w := by
  unfold s_nmB at h
  rw [List.any_eq_true] at h
  obtain ⟨m, hm, h⟩ := h
  rw [List.mem_range] at hm
  simp only [Bool.and_eq_true, List.all_eq_true, List.mem_range, decide_eq_true_eq, Bool.or_eq_true] at h
  refine ⟨m, h.1.1, by omega, fun k hk => h.1.2 k hk, fun k h1 h2 => ?_⟩
  rcases h.2 k h2 with h3 | h3
  · omega
  · exact h3
theorem own_nm : (List.range 32).all (fun k => s_nmB (s_own k)) = true := by decide +kernel
theorem own_k {k : Nat} (hk : k < 32) : s_long (s_own k) = s_oc k ∧ s_own k < 2 ^ 30 ∧ s_nmOk (s_own k) ∧ ∀ j, j < 32 → s_own k = s_own j → k = j := by
  have h := List.all_eq_true.mp own_all k (List.mem_range.mpr hk)
  have h2 := List.all_eq_true.mp own_nm k (List.mem_range.mpr hk)
  simp only [Bool.and_eq_true, List.all_eq_true, List.mem_range, decide_eq_true_eq, Bool.or_eq_true, Bool.not_eq_true', decide_eq_false_iff_not] at h
  refine ⟨h.1.1, h.1.2, s_nmB_ok h2, fun j hj e => ?_⟩
  rcases h.2 j hj with h3 | h3
  · exact h3
  · exact absurd e h3
theorem s_ownL_iff {w x : Nat} : ∀ (k i : Nat), i + k = 32 → (s_ownL w k i = some x ↔ i ≤ x ∧ x < 32 ∧ s_own x = w)
  | 0, i, hk => by
    unfold s_ownL
    constructor
    · intro h; cases h
    · intro h; omega
  | k + 1, i, hk => by
    unfold s_ownL
    by_cases hc : s_own i = w
    · rw [if_pos hc]
      constructor
      · intro h; cases h; exact ⟨Nat.le_refl _, by omega, hc⟩
      · rintro ⟨h1, h2, h3⟩
        have := (own_k (k := i) (by omega)).2.2.2 x h2 (by rw [hc, h3])
        rw [this]
    · rw [if_neg hc, s_ownL_iff k (i + 1) (by omega)]
      constructor
      · rintro ⟨h1, h2, h3⟩; exact ⟨by omega, h2, h3⟩
      · rintro ⟨h1, h2, h3⟩
        refine ⟨?_, h2, h3⟩
        by_cases e : i = x
        · subst e; exact absurd h3 hc
        · omega
theorem s_ow_iff {w x : Nat} : s_ow w = some x ↔ x < 32 ∧ s_own x = w := by
  unfold s_ow
  rw [s_ownL_iff 32 0 (by decide)]
  constructor
  · rintro ⟨_, h⟩; exact h
  · intro h; exact ⟨Nat.zero_le _, h⟩
/-- a word that is whole -/
theorem k_word (hL : L ≤ 1600) (hT : kT f L e = 1) (hW : kW f L e = none) : s_long (kV f L e) = s_wd f (kS f L e) (kM f L e 6) 0 0 ∧ s_nmOk (kV f L e) ∧ kV f L e < 2 ^ 30 := by
  have hs := kS_lt (f := f) (L := L) (e := e) (by omega)
  have hw : isL (f (kS f L e)) = true := by
    unfold kT at hT
    rw [if_pos hs] at hT
    by_cases h : isL (f (kS f L e)) = true
    · exact h
    · rw [if_neg h] at hT; split at hT <;> cases hT
  have eE : kE f L e = s_end isL f L 1600 (kS f L e) := by unfold kE; rw [hT]; rfl
  have hge := s_end_ge (p := isL) (f := f) (L := L) 1599 (kS f L e + 1)
  have e2 : s_end isL f L 1600 (kS f L e) = s_end isL f L 1599 (kS f L e + 1) := by
    show (if kS f L e < L then _ else _) = _
    rw [if_pos hs, if_pos hw]
  have hm : 1 ≤ kM f L e 6 ∧ kM f L e 6 ≤ 6 ∧ kM f L e 6 ≤ kE f L e - kS f L e := by
    unfold kM
    split <;> omega
  have := w_long (f := f) (s := kS f L e) hm.1 hm.2.1 (fun x hx => (s_end_all (p := isL) (f := f) (L := L) 1600 (kS f L e) (kS f L e + x) (by omega) (by rw [← eE]; omega)).1)
  unfold kV
  rw [if_pos hT]
  exact this
theorem c_isWord (h : tkC S f L e) {k : Nat} (hk : k < 32) : fX7_isWord 160 (nI k) S = some (nI (if kW f L e = none ∧ kT f L e = 1 ∧ kV f L e = s_own k then 1 else 0)) := by
  obtain ⟨h1, h2, h3, h4, h5⟩ := h
  by_cases hw : kW f L e = none
  · rw [hw, if_pos rfl] at h3
    have t3 : kT f L e ≤ 3 := by
      unfold kT
      repeat' split
      all_goals omega
    by_cases hT : kT f L e = 1
    · have h8 := (h5 hw).2.2 hT
      rw [hT] at h3
      by_cases hv : kV f L e = s_own k
      · rw [if_pos ⟨hw, hT, hv⟩]
        have e1 : s_ow (kV f L e) = some k := s_ow_iff.mpr ⟨hk, hv.symm⟩
        rw [e1] at h8
        have h8' : S.1 160 8 = nI k := h8
        simp (disch := (first | assumption | omega | exact hB _ _ | exact hYB _ _ | (simp only [yc, yd, sh, sv, ne_eq]; omega) | (simp (disch := omega) only [↓nm_1, ↓nm_2, nI_add, pk_mul, pk_sub, Nat.add_sub_cancel, qm1_add, qm2_add, nI_clamp, ni_0, ni_1, h3, h8']; refine qin_nI ?_ ?_ <;> first | omega | exact hB _ _ | exact hYB _ _) | (refine qin_nI ?_ ?_ <;> omega) | fail)) only [↓kc0_gd, ↓kc0_gI, ↓kc0_gM, ↓kc0_pI, ↓kc0_pM, ↓kc0_pZ, ↓kc0_gF0, ↓kc0_gF4, ↓kc0_gF5, ↓kc0_gF6, ↓kc0_gF7, ↓kc0_gF8, ↓kc0_gF9, ↓kc0_gF10, ↓kc0_gF11, ↓kc0_gF12, ↓kc0_gF14, ↓kc1_al, ↓kc1_as, ↓kc1_ln, ↓kc41_gd, ↓kc41_gI, ↓kc41_gM, ↓kc41_pI, ↓kc41_pM, ↓kc41_pZ, ↓kc41_gF0, ↓kc41_gF1, ↓kc42_ql, ↓kc43_al, ↓kc43_as, ↓kc43_ln, ↓kc148_gd, ↓kc148_gI, ↓kc148_gM, ↓kc148_pI, ↓kc148_pM, ↓kc148_pZ, ↓kc148_gF0, ↓kc148_gF1, ↓kc148_gF2, ↓kc148_gF4, ↓kc148_gF5, ↓kc154_al, ↓kc154_as, ↓kc154_ln, ↓kc155_al, ↓kc155_as, ↓kc155_ln, ↓kc160_gd, ↓kc160_gI, ↓kc160_gM, ↓kc160_pI, ↓kc160_pM, ↓kc160_pZ, ↓kc160_gF0, ↓kc160_gF1, ↓kc161_al, ↓kc161_as, ↓kc161_ln, ↓kc162_gd, ↓kc162_gI, ↓kc162_gM, ↓kc162_pI, ↓kc162_pM, ↓kc162_pZ, ↓kc162_gF0, ↓kc162_gF1, ↓kc163_gd, ↓kc163_gI, ↓kc163_gM, ↓kc163_pI, ↓kc163_pM, ↓kc163_pZ, ↓kc163_gF0, ↓kc164_gd, ↓kc164_gI, ↓kc164_gM, ↓kc164_pI, ↓kc164_pM, ↓kc164_pZ, ↓kc164_gF0, ↓kc164_gF1, ↓kc164_gF2, ↓kc164_gF3, ↓kc165_al, ↓kc165_as, ↓kc165_ln, ↓kc166_al, ↓kc166_as, ↓kc166_ln, ↓kc167_al, ↓kc167_as, ↓kc167_ln, ↓kc168_al, ↓kc168_as, ↓kc168_ln, ↓kc169_gd, ↓kc169_gI, ↓kc169_gM, ↓kc169_pI, ↓kc169_pM, ↓kc169_pZ, ↓kc169_gF0, ↓kc169_gF2, ↓kc170_al, ↓kc170_as, ↓kc170_ln, ↓kc171_gd, ↓kc171_gI, ↓kc171_gM, ↓kc171_pI, ↓kc171_pM, ↓kc171_pZ, ↓kc171_gF5, ↓kc171_gF6, ↓kc171_gF7, ↓kc171_gF8, ↓kc172_al, ↓kc172_as, ↓kc172_ln, ↓kc173_al, ↓kc173_as, ↓kc173_ln, ↓kc174_al, ↓kc174_as, ↓kc174_ln, ↓kc175_al, ↓kc175_as, ↓kc175_ln, ↓kc176_al, ↓kc176_as, ↓kc176_ln, ↓kc177_al, ↓kc177_as, ↓kc177_ln, ↓qb_so, ↓nm_1, ↓nm_2, ↓reduceIte, if_true, if_false, not_true_eq_false, not_false_eq_true, and_true, true_and, and_false, false_and, or_true, true_or, or_false, false_or, eq_self, ne_eq, quI_s, quI_n, quI2, quL1, quL2, quL3, quR1, quR2, quR3, nI_add, pk_mul, pk_sub, Nat.add_sub_cancel, qm1_add, qm2_add, nI_leI, nI_ltI, nI_eq, nI_m1, nI_m1', nI_clamp, nI_bit, nI_one_shl, nI_m1l, nI_m1lt, nI_m1lt', nI_m1le', oI_some, oI_none, ni_0, ni_1, fX7_isWord, qle_t, qle_f, qlt_t, qlt_f, qeq_t, qeq_f, h3, h8']
      · rw [if_neg (fun hh => hv hh.2.2)]
        cases ho : s_ow (kV f L e) with
        | none =>
          rw [ho] at h8
          have h8' : S.1 160 8 = qm1 := h8
          simp (disch := (first | assumption | omega | exact hB _ _ | exact hYB _ _ | (simp only [yc, yd, sh, sv, ne_eq]; omega) | (simp (disch := omega) only [↓nm_1, ↓nm_2, nI_add, pk_mul, pk_sub, Nat.add_sub_cancel, qm1_add, qm2_add, nI_clamp, ni_0, ni_1, h3, h8']; refine qin_nI ?_ ?_ <;> first | omega | exact hB _ _ | exact hYB _ _) | (refine qin_nI ?_ ?_ <;> omega) | fail)) only [↓kc0_gd, ↓kc0_gI, ↓kc0_gM, ↓kc0_pI, ↓kc0_pM, ↓kc0_pZ, ↓kc0_gF0, ↓kc0_gF4, ↓kc0_gF5, ↓kc0_gF6, ↓kc0_gF7, ↓kc0_gF8, ↓kc0_gF9, ↓kc0_gF10, ↓kc0_gF11, ↓kc0_gF12, ↓kc0_gF14, ↓kc1_al, ↓kc1_as, ↓kc1_ln, ↓kc41_gd, ↓kc41_gI, ↓kc41_gM, ↓kc41_pI, ↓kc41_pM, ↓kc41_pZ, ↓kc41_gF0, ↓kc41_gF1, ↓kc42_ql, ↓kc43_al, ↓kc43_as, ↓kc43_ln, ↓kc148_gd, ↓kc148_gI, ↓kc148_gM, ↓kc148_pI, ↓kc148_pM, ↓kc148_pZ, ↓kc148_gF0, ↓kc148_gF1, ↓kc148_gF2, ↓kc148_gF4, ↓kc148_gF5, ↓kc154_al, ↓kc154_as, ↓kc154_ln, ↓kc155_al, ↓kc155_as, ↓kc155_ln, ↓kc160_gd, ↓kc160_gI, ↓kc160_gM, ↓kc160_pI, ↓kc160_pM, ↓kc160_pZ, ↓kc160_gF0, ↓kc160_gF1, ↓kc161_al, ↓kc161_as, ↓kc161_ln, ↓kc162_gd, ↓kc162_gI, ↓kc162_gM, ↓kc162_pI, ↓kc162_pM, ↓kc162_pZ, ↓kc162_gF0, ↓kc162_gF1, ↓kc163_gd, ↓kc163_gI, ↓kc163_gM, ↓kc163_pI, ↓kc163_pM, ↓kc163_pZ, ↓kc163_gF0, ↓kc164_gd, ↓kc164_gI, ↓kc164_gM, ↓kc164_pI, ↓kc164_pM, ↓kc164_pZ, ↓kc164_gF0, ↓kc164_gF1, ↓kc164_gF2, ↓kc164_gF3, ↓kc165_al, ↓kc165_as, ↓kc165_ln, ↓kc166_al, ↓kc166_as, ↓kc166_ln, ↓kc167_al, ↓kc167_as, ↓kc167_ln, ↓kc168_al, ↓kc168_as, ↓kc168_ln, ↓kc169_gd, ↓kc169_gI, ↓kc169_gM, ↓kc169_pI, ↓kc169_pM, ↓kc169_pZ, ↓kc169_gF0, ↓kc169_gF2, ↓kc170_al, ↓kc170_as, ↓kc170_ln, ↓kc171_gd, ↓kc171_gI, ↓kc171_gM, ↓kc171_pI, ↓kc171_pM, ↓kc171_pZ, ↓kc171_gF5, ↓kc171_gF6, ↓kc171_gF7, ↓kc171_gF8, ↓kc172_al, ↓kc172_as, ↓kc172_ln, ↓kc173_al, ↓kc173_as, ↓kc173_ln, ↓kc174_al, ↓kc174_as, ↓kc174_ln, ↓kc175_al, ↓kc175_as, ↓kc175_ln, ↓kc176_al, ↓kc176_as, ↓kc176_ln, ↓kc177_al, ↓kc177_as, ↓kc177_ln, ↓qb_so, ↓nm_1, ↓nm_2, ↓reduceIte, if_true, if_false, not_true_eq_false, not_false_eq_true, and_true, true_and, and_false, false_and, or_true, true_or, or_false, false_or, eq_self, ne_eq, quI_s, quI_n, quI2, quL1, quL2, quL3, quR1, quR2, quR3, nI_add, pk_mul, pk_sub, Nat.add_sub_cancel, qm1_add, qm2_add, nI_leI, nI_ltI, nI_eq, nI_m1, nI_m1', nI_clamp, nI_bit, nI_one_shl, nI_m1l, nI_m1lt, nI_m1lt', nI_m1le', oI_some, oI_none, ni_0, ni_1, fX7_isWord, qle_t, qle_f, qlt_t, qlt_f, qeq_t, qeq_f, h3, h8']
        | some x =>
          rw [ho] at h8
          have h8' : S.1 160 8 = nI x := h8
          have hx := s_ow_iff.mp ho
          have hne : ¬ x = k := fun e => hv (by rw [← hx.2, e])
          simp (disch := (first | assumption | omega | exact hB _ _ | exact hYB _ _ | (simp only [yc, yd, sh, sv, ne_eq]; omega) | (simp (disch := omega) only [↓nm_1, ↓nm_2, nI_add, pk_mul, pk_sub, Nat.add_sub_cancel, qm1_add, qm2_add, nI_clamp, ni_0, ni_1, h3, h8', hne]; refine qin_nI ?_ ?_ <;> first | omega | exact hB _ _ | exact hYB _ _) | (refine qin_nI ?_ ?_ <;> omega) | fail)) only [↓kc0_gd, ↓kc0_gI, ↓kc0_gM, ↓kc0_pI, ↓kc0_pM, ↓kc0_pZ, ↓kc0_gF0, ↓kc0_gF4, ↓kc0_gF5, ↓kc0_gF6, ↓kc0_gF7, ↓kc0_gF8, ↓kc0_gF9, ↓kc0_gF10, ↓kc0_gF11, ↓kc0_gF12, ↓kc0_gF14, ↓kc1_al, ↓kc1_as, ↓kc1_ln, ↓kc41_gd, ↓kc41_gI, ↓kc41_gM, ↓kc41_pI, ↓kc41_pM, ↓kc41_pZ, ↓kc41_gF0, ↓kc41_gF1, ↓kc42_ql, ↓kc43_al, ↓kc43_as, ↓kc43_ln, ↓kc148_gd, ↓kc148_gI, ↓kc148_gM, ↓kc148_pI, ↓kc148_pM, ↓kc148_pZ, ↓kc148_gF0, ↓kc148_gF1, ↓kc148_gF2, ↓kc148_gF4, ↓kc148_gF5, ↓kc154_al, ↓kc154_as, ↓kc154_ln, ↓kc155_al, ↓kc155_as, ↓kc155_ln, ↓kc160_gd, ↓kc160_gI, ↓kc160_gM, ↓kc160_pI, ↓kc160_pM, ↓kc160_pZ, ↓kc160_gF0, ↓kc160_gF1, ↓kc161_al, ↓kc161_as, ↓kc161_ln, ↓kc162_gd, ↓kc162_gI, ↓kc162_gM, ↓kc162_pI, ↓kc162_pM, ↓kc162_pZ, ↓kc162_gF0, ↓kc162_gF1, ↓kc163_gd, ↓kc163_gI, ↓kc163_gM, ↓kc163_pI, ↓kc163_pM, ↓kc163_pZ, ↓kc163_gF0, ↓kc164_gd, ↓kc164_gI, ↓kc164_gM, ↓kc164_pI, ↓kc164_pM, ↓kc164_pZ, ↓kc164_gF0, ↓kc164_gF1, ↓kc164_gF2, ↓kc164_gF3, ↓kc165_al, ↓kc165_as, ↓kc165_ln, ↓kc166_al, ↓kc166_as, ↓kc166_ln, ↓kc167_al, ↓kc167_as, ↓kc167_ln, ↓kc168_al, ↓kc168_as, ↓kc168_ln, ↓kc169_gd, ↓kc169_gI, ↓kc169_gM, ↓kc169_pI, ↓kc169_pM, ↓kc169_pZ, ↓kc169_gF0, ↓kc169_gF2, ↓kc170_al, ↓kc170_as, ↓kc170_ln, ↓kc171_gd, ↓kc171_gI, ↓kc171_gM, ↓kc171_pI, ↓kc171_pM, ↓kc171_pZ, ↓kc171_gF5, ↓kc171_gF6, ↓kc171_gF7, ↓kc171_gF8, ↓kc172_al, ↓kc172_as, ↓kc172_ln, ↓kc173_al, ↓kc173_as, ↓kc173_ln, ↓kc174_al, ↓kc174_as, ↓kc174_ln, ↓kc175_al, ↓kc175_as, ↓kc175_ln, ↓kc176_al, ↓kc176_as, ↓kc176_ln, ↓kc177_al, ↓kc177_as, ↓kc177_ln, ↓qb_so, ↓nm_1, ↓nm_2, ↓reduceIte, if_true, if_false, not_true_eq_false, not_false_eq_true, and_true, true_and, and_false, false_and, or_true, true_or, or_false, false_or, eq_self, ne_eq, quI_s, quI_n, quI2, quL1, quL2, quL3, quR1, quR2, quR3, nI_add, pk_mul, pk_sub, Nat.add_sub_cancel, qm1_add, qm2_add, nI_leI, nI_ltI, nI_eq, nI_m1, nI_m1', nI_clamp, nI_bit, nI_one_shl, nI_m1l, nI_m1lt, nI_m1lt', nI_m1le', oI_some, oI_none, ni_0, ni_1, fX7_isWord, qle_t, qle_f, qlt_t, qlt_f, qeq_t, qeq_f, h3, h8', hne]
    · rw [if_neg (fun hh => hT hh.2.1)]
      simp (disch := (first | assumption | omega | exact hB _ _ | exact hYB _ _ | (simp only [yc, yd, sh, sv, ne_eq]; omega) | (simp (disch := omega) only [↓nm_1, ↓nm_2, nI_add, pk_mul, pk_sub, Nat.add_sub_cancel, qm1_add, qm2_add, nI_clamp, ni_0, ni_1, h3, hT]; refine qin_nI ?_ ?_ <;> first | omega | exact hB _ _ | exact hYB _ _) | (refine qin_nI ?_ ?_ <;> omega) | fail)) only [↓kc0_gd, ↓kc0_gI, ↓kc0_gM, ↓kc0_pI, ↓kc0_pM, ↓kc0_pZ, ↓kc0_gF0, ↓kc0_gF4, ↓kc0_gF5, ↓kc0_gF6, ↓kc0_gF7, ↓kc0_gF8, ↓kc0_gF9, ↓kc0_gF10, ↓kc0_gF11, ↓kc0_gF12, ↓kc0_gF14, ↓kc1_al, ↓kc1_as, ↓kc1_ln, ↓kc41_gd, ↓kc41_gI, ↓kc41_gM, ↓kc41_pI, ↓kc41_pM, ↓kc41_pZ, ↓kc41_gF0, ↓kc41_gF1, ↓kc42_ql, ↓kc43_al, ↓kc43_as, ↓kc43_ln, ↓kc148_gd, ↓kc148_gI, ↓kc148_gM, ↓kc148_pI, ↓kc148_pM, ↓kc148_pZ, ↓kc148_gF0, ↓kc148_gF1, ↓kc148_gF2, ↓kc148_gF4, ↓kc148_gF5, ↓kc154_al, ↓kc154_as, ↓kc154_ln, ↓kc155_al, ↓kc155_as, ↓kc155_ln, ↓kc160_gd, ↓kc160_gI, ↓kc160_gM, ↓kc160_pI, ↓kc160_pM, ↓kc160_pZ, ↓kc160_gF0, ↓kc160_gF1, ↓kc161_al, ↓kc161_as, ↓kc161_ln, ↓kc162_gd, ↓kc162_gI, ↓kc162_gM, ↓kc162_pI, ↓kc162_pM, ↓kc162_pZ, ↓kc162_gF0, ↓kc162_gF1, ↓kc163_gd, ↓kc163_gI, ↓kc163_gM, ↓kc163_pI, ↓kc163_pM, ↓kc163_pZ, ↓kc163_gF0, ↓kc164_gd, ↓kc164_gI, ↓kc164_gM, ↓kc164_pI, ↓kc164_pM, ↓kc164_pZ, ↓kc164_gF0, ↓kc164_gF1, ↓kc164_gF2, ↓kc164_gF3, ↓kc165_al, ↓kc165_as, ↓kc165_ln, ↓kc166_al, ↓kc166_as, ↓kc166_ln, ↓kc167_al, ↓kc167_as, ↓kc167_ln, ↓kc168_al, ↓kc168_as, ↓kc168_ln, ↓kc169_gd, ↓kc169_gI, ↓kc169_gM, ↓kc169_pI, ↓kc169_pM, ↓kc169_pZ, ↓kc169_gF0, ↓kc169_gF2, ↓kc170_al, ↓kc170_as, ↓kc170_ln, ↓kc171_gd, ↓kc171_gI, ↓kc171_gM, ↓kc171_pI, ↓kc171_pM, ↓kc171_pZ, ↓kc171_gF5, ↓kc171_gF6, ↓kc171_gF7, ↓kc171_gF8, ↓kc172_al, ↓kc172_as, ↓kc172_ln, ↓kc173_al, ↓kc173_as, ↓kc173_ln, ↓kc174_al, ↓kc174_as, ↓kc174_ln, ↓kc175_al, ↓kc175_as, ↓kc175_ln, ↓kc176_al, ↓kc176_as, ↓kc176_ln, ↓kc177_al, ↓kc177_as, ↓kc177_ln, ↓qb_so, ↓nm_1, ↓nm_2, ↓reduceIte, if_true, if_false, not_true_eq_false, not_false_eq_true, and_true, true_and, and_false, false_and, or_true, true_or, or_false, false_or, eq_self, ne_eq, quI_s, quI_n, quI2, quL1, quL2, quL3, quR1, quR2, quR3, nI_add, pk_mul, pk_sub, Nat.add_sub_cancel, qm1_add, qm2_add, nI_leI, nI_ltI, nI_eq, nI_m1, nI_m1', nI_clamp, nI_bit, nI_one_shl, nI_m1l, nI_m1lt, nI_m1lt', nI_m1le', oI_some, oI_none, ni_0, ni_1, fX7_isWord, qle_t, qle_f, qlt_t, qlt_f, qeq_t, qeq_f, h3, hT]
  · rw [if_neg hw] at h3
    rw [if_neg (fun hh => hw hh.1)]
    simp (disch := (first | assumption | omega | exact hB _ _ | exact hYB _ _ | (simp only [yc, yd, sh, sv, ne_eq]; omega) | (simp (disch := omega) only [↓nm_1, ↓nm_2, nI_add, pk_mul, pk_sub, Nat.add_sub_cancel, qm1_add, qm2_add, nI_clamp, ni_0, ni_1, h3]; refine qin_nI ?_ ?_ <;> first | omega | exact hB _ _ | exact hYB _ _) | (refine qin_nI ?_ ?_ <;> omega) | fail)) only [↓kc0_gd, ↓kc0_gI, ↓kc0_gM, ↓kc0_pI, ↓kc0_pM, ↓kc0_pZ, ↓kc0_gF0, ↓kc0_gF4, ↓kc0_gF5, ↓kc0_gF6, ↓kc0_gF7, ↓kc0_gF8, ↓kc0_gF9, ↓kc0_gF10, ↓kc0_gF11, ↓kc0_gF12, ↓kc0_gF14, ↓kc1_al, ↓kc1_as, ↓kc1_ln, ↓kc41_gd, ↓kc41_gI, ↓kc41_gM, ↓kc41_pI, ↓kc41_pM, ↓kc41_pZ, ↓kc41_gF0, ↓kc41_gF1, ↓kc42_ql, ↓kc43_al, ↓kc43_as, ↓kc43_ln, ↓kc148_gd, ↓kc148_gI, ↓kc148_gM, ↓kc148_pI, ↓kc148_pM, ↓kc148_pZ, ↓kc148_gF0, ↓kc148_gF1, ↓kc148_gF2, ↓kc148_gF4, ↓kc148_gF5, ↓kc154_al, ↓kc154_as, ↓kc154_ln, ↓kc155_al, ↓kc155_as, ↓kc155_ln, ↓kc160_gd, ↓kc160_gI, ↓kc160_gM, ↓kc160_pI, ↓kc160_pM, ↓kc160_pZ, ↓kc160_gF0, ↓kc160_gF1, ↓kc161_al, ↓kc161_as, ↓kc161_ln, ↓kc162_gd, ↓kc162_gI, ↓kc162_gM, ↓kc162_pI, ↓kc162_pM, ↓kc162_pZ, ↓kc162_gF0, ↓kc162_gF1, ↓kc163_gd, ↓kc163_gI, ↓kc163_gM, ↓kc163_pI, ↓kc163_pM, ↓kc163_pZ, ↓kc163_gF0, ↓kc164_gd, ↓kc164_gI, ↓kc164_gM, ↓kc164_pI, ↓kc164_pM, ↓kc164_pZ, ↓kc164_gF0, ↓kc164_gF1, ↓kc164_gF2, ↓kc164_gF3, ↓kc165_al, ↓kc165_as, ↓kc165_ln, ↓kc166_al, ↓kc166_as, ↓kc166_ln, ↓kc167_al, ↓kc167_as, ↓kc167_ln, ↓kc168_al, ↓kc168_as, ↓kc168_ln, ↓kc169_gd, ↓kc169_gI, ↓kc169_gM, ↓kc169_pI, ↓kc169_pM, ↓kc169_pZ, ↓kc169_gF0, ↓kc169_gF2, ↓kc170_al, ↓kc170_as, ↓kc170_ln, ↓kc171_gd, ↓kc171_gI, ↓kc171_gM, ↓kc171_pI, ↓kc171_pM, ↓kc171_pZ, ↓kc171_gF5, ↓kc171_gF6, ↓kc171_gF7, ↓kc171_gF8, ↓kc172_al, ↓kc172_as, ↓kc172_ln, ↓kc173_al, ↓kc173_as, ↓kc173_ln, ↓kc174_al, ↓kc174_as, ↓kc174_ln, ↓kc175_al, ↓kc175_as, ↓kc175_ln, ↓kc176_al, ↓kc176_as, ↓kc176_ln, ↓kc177_al, ↓kc177_as, ↓kc177_ln, ↓qb_so, ↓nm_1, ↓nm_2, ↓reduceIte, if_true, if_false, not_true_eq_false, not_false_eq_true, and_true, true_and, and_false, false_and, or_true, true_or, or_false, false_or, eq_self, ne_eq, quI_s, quI_n, quI2, quL1, quL2, quL3, quR1, quR2, quR3, nI_add, pk_mul, pk_sub, Nat.add_sub_cancel, qm1_add, qm2_add, nI_leI, nI_ltI, nI_eq, nI_m1, nI_m1', nI_clamp, nI_bit, nI_one_shl, nI_m1l, nI_m1lt, nI_m1lt', nI_m1le', oI_some, oI_none, ni_0, ni_1, fX7_isWord, qle_t, qle_f, qlt_t, qlt_f, qeq_t, qeq_f, h3]
theorem c_isSign (h : tkC S f L e) {c : Nat} (hc : c < 256) : fX7_isSign 160 (nI c) S = some (nI (if kT f L e = 3 ∧ kV f L e = c then 1 else 0)) := by
  obtain ⟨h1, h2, h3, h4, h5⟩ := h
  by_cases hT : kT f L e = 3
  · have hw : kW f L e = none := by unfold kW; rw [hT]; rfl
    have h7 := (h5 hw).2.1 (by omega)
    rw [hw, if_pos rfl, hT] at h3
    have hv : kV f L e < 256 := by unfold kV; rw [hT]; exact h1.2.2.2.1 _
    by_cases hx : kV f L e = c
    · rw [if_pos ⟨hT, hx⟩]
      simp (disch := (first | assumption | omega | exact hB _ _ | exact hYB _ _ | (simp only [yc, yd, sh, sv, ne_eq]; omega) | (simp (disch := omega) only [↓nm_1, ↓nm_2, nI_add, pk_mul, pk_sub, Nat.add_sub_cancel, qm1_add, qm2_add, nI_clamp, ni_0, ni_1, ni_3, h3, h7, hx]; refine qin_nI ?_ ?_ <;> first | omega | exact hB _ _ | exact hYB _ _) | (refine qin_nI ?_ ?_ <;> omega) | fail)) only [↓kc0_gd, ↓kc0_gI, ↓kc0_gM, ↓kc0_pI, ↓kc0_pM, ↓kc0_pZ, ↓kc0_gF0, ↓kc0_gF4, ↓kc0_gF5, ↓kc0_gF6, ↓kc0_gF7, ↓kc0_gF8, ↓kc0_gF9, ↓kc0_gF10, ↓kc0_gF11, ↓kc0_gF12, ↓kc0_gF14, ↓kc1_al, ↓kc1_as, ↓kc1_ln, ↓kc41_gd, ↓kc41_gI, ↓kc41_gM, ↓kc41_pI, ↓kc41_pM, ↓kc41_pZ, ↓kc41_gF0, ↓kc41_gF1, ↓kc42_ql, ↓kc43_al, ↓kc43_as, ↓kc43_ln, ↓kc148_gd, ↓kc148_gI, ↓kc148_gM, ↓kc148_pI, ↓kc148_pM, ↓kc148_pZ, ↓kc148_gF0, ↓kc148_gF1, ↓kc148_gF2, ↓kc148_gF4, ↓kc148_gF5, ↓kc154_al, ↓kc154_as, ↓kc154_ln, ↓kc155_al, ↓kc155_as, ↓kc155_ln, ↓kc160_gd, ↓kc160_gI, ↓kc160_gM, ↓kc160_pI, ↓kc160_pM, ↓kc160_pZ, ↓kc160_gF0, ↓kc160_gF1, ↓kc161_al, ↓kc161_as, ↓kc161_ln, ↓kc162_gd, ↓kc162_gI, ↓kc162_gM, ↓kc162_pI, ↓kc162_pM, ↓kc162_pZ, ↓kc162_gF0, ↓kc162_gF1, ↓kc163_gd, ↓kc163_gI, ↓kc163_gM, ↓kc163_pI, ↓kc163_pM, ↓kc163_pZ, ↓kc163_gF0, ↓kc164_gd, ↓kc164_gI, ↓kc164_gM, ↓kc164_pI, ↓kc164_pM, ↓kc164_pZ, ↓kc164_gF0, ↓kc164_gF1, ↓kc164_gF2, ↓kc164_gF3, ↓kc165_al, ↓kc165_as, ↓kc165_ln, ↓kc166_al, ↓kc166_as, ↓kc166_ln, ↓kc167_al, ↓kc167_as, ↓kc167_ln, ↓kc168_al, ↓kc168_as, ↓kc168_ln, ↓kc169_gd, ↓kc169_gI, ↓kc169_gM, ↓kc169_pI, ↓kc169_pM, ↓kc169_pZ, ↓kc169_gF0, ↓kc169_gF2, ↓kc170_al, ↓kc170_as, ↓kc170_ln, ↓kc171_gd, ↓kc171_gI, ↓kc171_gM, ↓kc171_pI, ↓kc171_pM, ↓kc171_pZ, ↓kc171_gF5, ↓kc171_gF6, ↓kc171_gF7, ↓kc171_gF8, ↓kc172_al, ↓kc172_as, ↓kc172_ln, ↓kc173_al, ↓kc173_as, ↓kc173_ln, ↓kc174_al, ↓kc174_as, ↓kc174_ln, ↓kc175_al, ↓kc175_as, ↓kc175_ln, ↓kc176_al, ↓kc176_as, ↓kc176_ln, ↓kc177_al, ↓kc177_as, ↓kc177_ln, ↓qb_so, ↓nm_1, ↓nm_2, ↓reduceIte, if_true, if_false, not_true_eq_false, not_false_eq_true, and_true, true_and, and_false, false_and, or_true, true_or, or_false, false_or, eq_self, ne_eq, quI_s, quI_n, quI2, quL1, quL2, quL3, quR1, quR2, quR3, nI_add, pk_mul, pk_sub, Nat.add_sub_cancel, qm1_add, qm2_add, nI_leI, nI_ltI, nI_eq, nI_m1, nI_m1', nI_clamp, nI_bit, nI_one_shl, nI_m1l, nI_m1lt, nI_m1lt', nI_m1le', oI_some, oI_none, ni_0, ni_1, ni_3, fX7_isSign, qle_t, qle_f, qlt_t, qlt_f, qeq_t, qeq_f, h3, h7, hx]
    · rw [if_neg (fun hh => hx hh.2)]
      simp (disch := (first | assumption | omega | exact hB _ _ | exact hYB _ _ | (simp only [yc, yd, sh, sv, ne_eq]; omega) | (simp (disch := omega) only [↓nm_1, ↓nm_2, nI_add, pk_mul, pk_sub, Nat.add_sub_cancel, qm1_add, qm2_add, nI_clamp, ni_0, ni_1, ni_3, h3, h7, hx]; refine qin_nI ?_ ?_ <;> first | omega | exact hB _ _ | exact hYB _ _) | (refine qin_nI ?_ ?_ <;> omega) | fail)) only [↓kc0_gd, ↓kc0_gI, ↓kc0_gM, ↓kc0_pI, ↓kc0_pM, ↓kc0_pZ, ↓kc0_gF0, ↓kc0_gF4, ↓kc0_gF5, ↓kc0_gF6, ↓kc0_gF7, ↓kc0_gF8, ↓kc0_gF9, ↓kc0_gF10, ↓kc0_gF11, ↓kc0_gF12, ↓kc0_gF14, ↓kc1_al, ↓kc1_as, ↓kc1_ln, ↓kc41_gd, ↓kc41_gI, ↓kc41_gM, ↓kc41_pI, ↓kc41_pM, ↓kc41_pZ, ↓kc41_gF0, ↓kc41_gF1, ↓kc42_ql, ↓kc43_al, ↓kc43_as, ↓kc43_ln, ↓kc148_gd, ↓kc148_gI, ↓kc148_gM, ↓kc148_pI, ↓kc148_pM, ↓kc148_pZ, ↓kc148_gF0, ↓kc148_gF1, ↓kc148_gF2, ↓kc148_gF4, ↓kc148_gF5, ↓kc154_al, ↓kc154_as, ↓kc154_ln, ↓kc155_al, ↓kc155_as, ↓kc155_ln, ↓kc160_gd, ↓kc160_gI, ↓kc160_gM, ↓kc160_pI, ↓kc160_pM, ↓kc160_pZ, ↓kc160_gF0, ↓kc160_gF1, ↓kc161_al, ↓kc161_as, ↓kc161_ln, ↓kc162_gd, ↓kc162_gI, ↓kc162_gM, ↓kc162_pI, ↓kc162_pM, ↓kc162_pZ, ↓kc162_gF0, ↓kc162_gF1, ↓kc163_gd, ↓kc163_gI, ↓kc163_gM, ↓kc163_pI, ↓kc163_pM, ↓kc163_pZ, ↓kc163_gF0, ↓kc164_gd, ↓kc164_gI, ↓kc164_gM, ↓kc164_pI, ↓kc164_pM, ↓kc164_pZ, ↓kc164_gF0, ↓kc164_gF1, ↓kc164_gF2, ↓kc164_gF3, ↓kc165_al, ↓kc165_as, ↓kc165_ln, ↓kc166_al, ↓kc166_as, ↓kc166_ln, ↓kc167_al, ↓kc167_as, ↓kc167_ln, ↓kc168_al, ↓kc168_as, ↓kc168_ln, ↓kc169_gd, ↓kc169_gI, ↓kc169_gM, ↓kc169_pI, ↓kc169_pM, ↓kc169_pZ, ↓kc169_gF0, ↓kc169_gF2, ↓kc170_al, ↓kc170_as, ↓kc170_ln, ↓kc171_gd, ↓kc171_gI, ↓kc171_gM, ↓kc171_pI, ↓kc171_pM, ↓kc171_pZ, ↓kc171_gF5, ↓kc171_gF6, ↓kc171_gF7, ↓kc171_gF8, ↓kc172_al, ↓kc172_as, ↓kc172_ln, ↓kc173_al, ↓kc173_as, ↓kc173_ln, ↓kc174_al, ↓kc174_as, ↓kc174_ln, ↓kc175_al, ↓kc175_as, ↓kc175_ln, ↓kc176_al, ↓kc176_as, ↓kc176_ln, ↓kc177_al, ↓kc177_as, ↓kc177_ln, ↓qb_so, ↓nm_1, ↓nm_2, ↓reduceIte, if_true, if_false, not_true_eq_false, not_false_eq_true, and_true, true_and, and_false, false_and, or_true, true_or, or_false, false_or, eq_self, ne_eq, quI_s, quI_n, quI2, quL1, quL2, quL3, quR1, quR2, quR3, nI_add, pk_mul, pk_sub, Nat.add_sub_cancel, qm1_add, qm2_add, nI_leI, nI_ltI, nI_eq, nI_m1, nI_m1', nI_clamp, nI_bit, nI_one_shl, nI_m1l, nI_m1lt, nI_m1lt', nI_m1le', oI_some, oI_none, ni_0, ni_1, ni_3, fX7_isSign, qle_t, qle_f, qlt_t, qlt_f, qeq_t, qeq_f, h3, h7, hx]
  · rw [if_neg (fun hh => hT hh.1)]
    have t3 : kT f L e ≤ 3 := by
      unfold kT
      repeat' split
      all_goals omega
    by_cases hw : kW f L e = none
    · rw [if_pos hw] at h3
      simp (disch := (first | assumption | omega | exact hB _ _ | exact hYB _ _ | (simp only [yc, yd, sh, sv, ne_eq]; omega) | (simp (disch := omega) only [↓nm_1, ↓nm_2, nI_add, pk_mul, pk_sub, Nat.add_sub_cancel, qm1_add, qm2_add, nI_clamp, ni_0, ni_1, ni_3, h3, hT]; refine qin_nI ?_ ?_ <;> first | omega | exact hB _ _ | exact hYB _ _) | (refine qin_nI ?_ ?_ <;> omega) | fail)) only [↓kc0_gd, ↓kc0_gI, ↓kc0_gM, ↓kc0_pI, ↓kc0_pM, ↓kc0_pZ, ↓kc0_gF0, ↓kc0_gF4, ↓kc0_gF5, ↓kc0_gF6, ↓kc0_gF7, ↓kc0_gF8, ↓kc0_gF9, ↓kc0_gF10, ↓kc0_gF11, ↓kc0_gF12, ↓kc0_gF14, ↓kc1_al, ↓kc1_as, ↓kc1_ln, ↓kc41_gd, ↓kc41_gI, ↓kc41_gM, ↓kc41_pI, ↓kc41_pM, ↓kc41_pZ, ↓kc41_gF0, ↓kc41_gF1, ↓kc42_ql, ↓kc43_al, ↓kc43_as, ↓kc43_ln, ↓kc148_gd, ↓kc148_gI, ↓kc148_gM, ↓kc148_pI, ↓kc148_pM, ↓kc148_pZ, ↓kc148_gF0, ↓kc148_gF1, ↓kc148_gF2, ↓kc148_gF4, ↓kc148_gF5, ↓kc154_al, ↓kc154_as, ↓kc154_ln, ↓kc155_al, ↓kc155_as, ↓kc155_ln, ↓kc160_gd, ↓kc160_gI, ↓kc160_gM, ↓kc160_pI, ↓kc160_pM, ↓kc160_pZ, ↓kc160_gF0, ↓kc160_gF1, ↓kc161_al, ↓kc161_as, ↓kc161_ln, ↓kc162_gd, ↓kc162_gI, ↓kc162_gM, ↓kc162_pI, ↓kc162_pM, ↓kc162_pZ, ↓kc162_gF0, ↓kc162_gF1, ↓kc163_gd, ↓kc163_gI, ↓kc163_gM, ↓kc163_pI, ↓kc163_pM, ↓kc163_pZ, ↓kc163_gF0, ↓kc164_gd, ↓kc164_gI, ↓kc164_gM, ↓kc164_pI, ↓kc164_pM, ↓kc164_pZ, ↓kc164_gF0, ↓kc164_gF1, ↓kc164_gF2, ↓kc164_gF3, ↓kc165_al, ↓kc165_as, ↓kc165_ln, ↓kc166_al, ↓kc166_as, ↓kc166_ln, ↓kc167_al, ↓kc167_as, ↓kc167_ln, ↓kc168_al, ↓kc168_as, ↓kc168_ln, ↓kc169_gd, ↓kc169_gI, ↓kc169_gM, ↓kc169_pI, ↓kc169_pM, ↓kc169_pZ, ↓kc169_gF0, ↓kc169_gF2, ↓kc170_al, ↓kc170_as, ↓kc170_ln, ↓kc171_gd, ↓kc171_gI, ↓kc171_gM, ↓kc171_pI, ↓kc171_pM, ↓kc171_pZ, ↓kc171_gF5, ↓kc171_gF6, ↓kc171_gF7, ↓kc171_gF8, ↓kc172_al, ↓kc172_as, ↓kc172_ln, ↓kc173_al, ↓kc173_as, ↓kc173_ln, ↓kc174_al, ↓kc174_as, ↓kc174_ln, ↓kc175_al, ↓kc175_as, ↓kc175_ln, ↓kc176_al, ↓kc176_as, ↓kc176_ln, ↓kc177_al, ↓kc177_as, ↓kc177_ln, ↓qb_so, ↓nm_1, ↓nm_2, ↓reduceIte, if_true, if_false, not_true_eq_false, not_false_eq_true, and_true, true_and, and_false, false_and, or_true, true_or, or_false, false_or, eq_self, ne_eq, quI_s, quI_n, quI2, quL1, quL2, quL3, quR1, quR2, quR3, nI_add, pk_mul, pk_sub, Nat.add_sub_cancel, qm1_add, qm2_add, nI_leI, nI_ltI, nI_eq, nI_m1, nI_m1', nI_clamp, nI_bit, nI_one_shl, nI_m1l, nI_m1lt, nI_m1lt', nI_m1le', oI_some, oI_none, ni_0, ni_1, ni_3, fX7_isSign, qle_t, qle_f, qlt_t, qlt_f, qeq_t, qeq_f, h3, hT]
    · rw [if_neg hw] at h3
      simp (disch := (first | assumption | omega | exact hB _ _ | exact hYB _ _ | (simp only [yc, yd, sh, sv, ne_eq]; omega) | (simp (disch := omega) only [↓nm_1, ↓nm_2, nI_add, pk_mul, pk_sub, Nat.add_sub_cancel, qm1_add, qm2_add, nI_clamp, ni_0, ni_1, ni_3, h3]; refine qin_nI ?_ ?_ <;> first | omega | exact hB _ _ | exact hYB _ _) | (refine qin_nI ?_ ?_ <;> omega) | fail)) only [↓kc0_gd, ↓kc0_gI, ↓kc0_gM, ↓kc0_pI, ↓kc0_pM, ↓kc0_pZ, ↓kc0_gF0, ↓kc0_gF4, ↓kc0_gF5, ↓kc0_gF6, ↓kc0_gF7, ↓kc0_gF8, ↓kc0_gF9, ↓kc0_gF10, ↓kc0_gF11, ↓kc0_gF12, ↓kc0_gF14, ↓kc1_al, ↓kc1_as, ↓kc1_ln, ↓kc41_gd, ↓kc41_gI, ↓kc41_gM, ↓kc41_pI, ↓kc41_pM, ↓kc41_pZ, ↓kc41_gF0, ↓kc41_gF1, ↓kc42_ql, ↓kc43_al, ↓kc43_as, ↓kc43_ln, ↓kc148_gd, ↓kc148_gI, ↓kc148_gM, ↓kc148_pI, ↓kc148_pM, ↓kc148_pZ, ↓kc148_gF0, ↓kc148_gF1, ↓kc148_gF2, ↓kc148_gF4, ↓kc148_gF5, ↓kc154_al, ↓kc154_as, ↓kc154_ln, ↓kc155_al, ↓kc155_as, ↓kc155_ln, ↓kc160_gd, ↓kc160_gI, ↓kc160_gM, ↓kc160_pI, ↓kc160_pM, ↓kc160_pZ, ↓kc160_gF0, ↓kc160_gF1, ↓kc161_al, ↓kc161_as, ↓kc161_ln, ↓kc162_gd, ↓kc162_gI, ↓kc162_gM, ↓kc162_pI, ↓kc162_pM, ↓kc162_pZ, ↓kc162_gF0, ↓kc162_gF1, ↓kc163_gd, ↓kc163_gI, ↓kc163_gM, ↓kc163_pI, ↓kc163_pM, ↓kc163_pZ, ↓kc163_gF0, ↓kc164_gd, ↓kc164_gI, ↓kc164_gM, ↓kc164_pI, ↓kc164_pM, ↓kc164_pZ, ↓kc164_gF0, ↓kc164_gF1, ↓kc164_gF2, ↓kc164_gF3, ↓kc165_al, ↓kc165_as, ↓kc165_ln, ↓kc166_al, ↓kc166_as, ↓kc166_ln, ↓kc167_al, ↓kc167_as, ↓kc167_ln, ↓kc168_al, ↓kc168_as, ↓kc168_ln, ↓kc169_gd, ↓kc169_gI, ↓kc169_gM, ↓kc169_pI, ↓kc169_pM, ↓kc169_pZ, ↓kc169_gF0, ↓kc169_gF2, ↓kc170_al, ↓kc170_as, ↓kc170_ln, ↓kc171_gd, ↓kc171_gI, ↓kc171_gM, ↓kc171_pI, ↓kc171_pM, ↓kc171_pZ, ↓kc171_gF5, ↓kc171_gF6, ↓kc171_gF7, ↓kc171_gF8, ↓kc172_al, ↓kc172_as, ↓kc172_ln, ↓kc173_al, ↓kc173_as, ↓kc173_ln, ↓kc174_al, ↓kc174_as, ↓kc174_ln, ↓kc175_al, ↓kc175_as, ↓kc175_ln, ↓kc176_al, ↓kc176_as, ↓kc176_ln, ↓kc177_al, ↓kc177_as, ↓kc177_ln, ↓qb_so, ↓nm_1, ↓nm_2, ↓reduceIte, if_true, if_false, not_true_eq_false, not_false_eq_true, and_true, true_and, and_false, false_and, or_true, true_or, or_false, false_or, eq_self, ne_eq, quI_s, quI_n, quI2, quL1, quL2, quL3, quR1, quR2, quR3, nI_add, pk_mul, pk_sub, Nat.add_sub_cancel, qm1_add, qm2_add, nI_leI, nI_ltI, nI_eq, nI_m1, nI_m1', nI_clamp, nI_bit, nI_one_shl, nI_m1l, nI_m1lt, nI_m1lt', nI_m1le', oI_some, oI_none, ni_0, ni_1, ni_3, fX7_isSign, qle_t, qle_f, qlt_t, qlt_f, qeq_t, qeq_f, h3]
theorem m_isSign (h : tkM S f L e) {c : Nat} (hc : c < 256) : fX12_isSign 0 (nI c) S = some (nI (if kT f L e = 3 ∧ kV f L e = c then 1 else 0)) := by
  obtain ⟨h1, h2, h3, h4, h5, h6, h7⟩ := h
  have t3 : kT f L e ≤ 3 := by
    unfold kT
    repeat' split
    all_goals omega
  by_cases hT : kT f L e = 3
  · have hv6 := h6 (Or.inr hT)
    rw [hT] at h2
    have hv : kV f L e < 256 := by unfold kV; rw [hT]; exact h1.2.2.2.1 _
    by_cases hx : kV f L e = c
    · rw [if_pos ⟨hT, hx⟩]
      simp (disch := (first | assumption | omega | exact hB _ _ | exact hYB _ _ | (simp only [yc, yd, sh, sv, ne_eq]; omega) | (simp (disch := omega) only [↓nm_1, ↓nm_2, nI_add, pk_mul, pk_sub, Nat.add_sub_cancel, qm1_add, qm2_add, nI_clamp, ni_0, ni_1, ni_3, h2, hv6, hx]; refine qin_nI ?_ ?_ <;> first | omega | exact hB _ _ | exact hYB _ _) | (refine qin_nI ?_ ?_ <;> omega) | fail)) only [↓km0_gd, ↓km0_gI, ↓km0_gM, ↓km0_pI, ↓km0_pM, ↓km0_pZ, ↓km0_gL, ↓km0_pL, ↓qb_so, ↓nm_1, ↓nm_2, ↓reduceIte, if_true, if_false, not_true_eq_false, not_false_eq_true, and_true, true_and, and_false, false_and, or_true, true_or, or_false, false_or, eq_self, ne_eq, quI_s, quI_n, quI2, quL1, quL2, quL3, quR1, quR2, quR3, nI_add, pk_mul, pk_sub, Nat.add_sub_cancel, qm1_add, qm2_add, nI_leI, nI_ltI, nI_eq, nI_m1, nI_m1', nI_clamp, nI_bit, nI_one_shl, nI_m1l, nI_m1lt, nI_m1lt', nI_m1le', oI_some, oI_none, ni_0, ni_1, ni_3, fX12_isSign, qle_t, qle_f, qlt_t, qlt_f, qeq_t, qeq_f, h2, hv6, hx]
    · rw [if_neg (fun hh => hx hh.2)]
      simp (disch := (first | assumption | omega | exact hB _ _ | exact hYB _ _ | (simp only [yc, yd, sh, sv, ne_eq]; omega) | (simp (disch := omega) only [↓nm_1, ↓nm_2, nI_add, pk_mul, pk_sub, Nat.add_sub_cancel, qm1_add, qm2_add, nI_clamp, ni_0, ni_1, ni_3, h2, hv6, hx]; refine qin_nI ?_ ?_ <;> first | omega | exact hB _ _ | exact hYB _ _) | (refine qin_nI ?_ ?_ <;> omega) | fail)) only [↓km0_gd, ↓km0_gI, ↓km0_gM, ↓km0_pI, ↓km0_pM, ↓km0_pZ, ↓km0_gL, ↓km0_pL, ↓qb_so, ↓nm_1, ↓nm_2, ↓reduceIte, if_true, if_false, not_true_eq_false, not_false_eq_true, and_true, true_and, and_false, false_and, or_true, true_or, or_false, false_or, eq_self, ne_eq, quI_s, quI_n, quI2, quL1, quL2, quL3, quR1, quR2, quR3, nI_add, pk_mul, pk_sub, Nat.add_sub_cancel, qm1_add, qm2_add, nI_leI, nI_ltI, nI_eq, nI_m1, nI_m1', nI_clamp, nI_bit, nI_one_shl, nI_m1l, nI_m1lt, nI_m1lt', nI_m1le', oI_some, oI_none, ni_0, ni_1, ni_3, fX12_isSign, qle_t, qle_f, qlt_t, qlt_f, qeq_t, qeq_f, h2, hv6, hx]
  · rw [if_neg (fun hh => hT hh.1)]
    simp (disch := (first | assumption | omega | exact hB _ _ | exact hYB _ _ | (simp only [yc, yd, sh, sv, ne_eq]; omega) | (simp (disch := omega) only [↓nm_1, ↓nm_2, nI_add, pk_mul, pk_sub, Nat.add_sub_cancel, qm1_add, qm2_add, nI_clamp, ni_0, ni_1, ni_3, h2, hT]; refine qin_nI ?_ ?_ <;> first | omega | exact hB _ _ | exact hYB _ _) | (refine qin_nI ?_ ?_ <;> omega) | fail)) only [↓km0_gd, ↓km0_gI, ↓km0_gM, ↓km0_pI, ↓km0_pM, ↓km0_pZ, ↓km0_gL, ↓km0_pL, ↓qb_so, ↓nm_1, ↓nm_2, ↓reduceIte, if_true, if_false, not_true_eq_false, not_false_eq_true, and_true, true_and, and_false, false_and, or_true, true_or, or_false, false_or, eq_self, ne_eq, quI_s, quI_n, quI2, quL1, quL2, quL3, quR1, quR2, quR3, nI_add, pk_mul, pk_sub, Nat.add_sub_cancel, qm1_add, qm2_add, nI_leI, nI_ltI, nI_eq, nI_m1, nI_m1', nI_clamp, nI_bit, nI_one_shl, nI_m1l, nI_m1lt, nI_m1lt', nI_m1le', oI_some, oI_none, ni_0, ni_1, ni_3, fX12_isSign, qle_t, qle_f, qlt_t, qlt_f, qeq_t, qeq_f, h2, hT]
theorem m_isWord (hL : L ≤ 1600) (h : tkM S f L e) (hw : kW f L e = none) {k : Nat} (hk : k < 32) : fX12_isWord 0 (lN (s_oc k)) S = some (nI (if kT f L e = 1 ∧ kV f L e = s_own k then 1 else 0)) := by
  obtain ⟨h1, h2, h3, h4, h5, h6, h7⟩ := h
  have t3 : kT f L e ≤ 3 := by
    unfold kT
    repeat' split
    all_goals omega
  by_cases hT : kT f L e = 1
  · have g7 := h7 hT
    obtain ⟨q1, q2, q3⟩ := k_word hL hT hw
    rw [← q1] at g7
    obtain ⟨o1, o2, o3, o4⟩ := own_k hk
    rw [hT] at h2
    have key : lg_cmp (lN (s_long (kV f L e))) (lN (s_oc k)) = nI 0 ↔ kV f L e = s_own k := by
      rw [lgc_eq, ← o1, pk_lEQ (s_long_lt q2) (s_long_lt o3)]
      constructor
      · intro hh; exact w_inj q3 o2 q2 o3 hh
      · intro hh; rw [hh]
    by_cases hv : kV f L e = s_own k
    · rw [if_pos ⟨hT, hv⟩]
      have hk2 := key.mpr hv
      simp (disch := (first | assumption | omega | exact hB _ _ | exact hYB _ _ | (simp only [yc, yd, sh, sv, ne_eq]; omega) | (simp (disch := omega) only [↓nm_1, ↓nm_2, nI_add, pk_mul, pk_sub, Nat.add_sub_cancel, qm1_add, qm2_add, nI_clamp, ni_0, ni_1, h2, g7, hk2]; refine qin_nI ?_ ?_ <;> first | omega | exact hB _ _ | exact hYB _ _) | (refine qin_nI ?_ ?_ <;> omega) | fail)) only [↓km0_gd, ↓km0_gI, ↓km0_gM, ↓km0_pI, ↓km0_pM, ↓km0_pZ, ↓km0_gL, ↓km0_pL, ↓qb_so, ↓nm_1, ↓nm_2, ↓reduceIte, if_true, if_false, not_true_eq_false, not_false_eq_true, and_true, true_and, and_false, false_and, or_true, true_or, or_false, false_or, eq_self, ne_eq, quI_s, quI_n, quI2, quL1, quL2, quL3, quR1, quR2, quR3, nI_add, pk_mul, pk_sub, Nat.add_sub_cancel, qm1_add, qm2_add, nI_leI, nI_ltI, nI_eq, nI_m1, nI_m1', nI_clamp, nI_bit, nI_one_shl, nI_m1l, nI_m1lt, nI_m1lt', nI_m1le', oI_some, oI_none, ni_0, ni_1, fX12_isWord, qle_t, qle_f, qlt_t, qlt_f, qeq_t, qeq_f, h2, g7, hk2]
    · rw [if_neg (fun hh => hv hh.2)]
      have hk2 := mt key.mp hv
      simp (disch := (first | assumption | omega | exact hB _ _ | exact hYB _ _ | (simp only [yc, yd, sh, sv, ne_eq]; omega) | (simp (disch := omega) only [↓nm_1, ↓nm_2, nI_add, pk_mul, pk_sub, Nat.add_sub_cancel, qm1_add, qm2_add, nI_clamp, ni_0, ni_1, h2, g7, hk2]; refine qin_nI ?_ ?_ <;> first | omega | exact hB _ _ | exact hYB _ _) | (refine qin_nI ?_ ?_ <;> omega) | fail)) only [↓km0_gd, ↓km0_gI, ↓km0_gM, ↓km0_pI, ↓km0_pM, ↓km0_pZ, ↓km0_gL, ↓km0_pL, ↓qb_so, ↓nm_1, ↓nm_2, ↓reduceIte, if_true, if_false, not_true_eq_false, not_false_eq_true, and_true, true_and, and_false, false_and, or_true, true_or, or_false, false_or, eq_self, ne_eq, quI_s, quI_n, quI2, quL1, quL2, quL3, quR1, quR2, quR3, nI_add, pk_mul, pk_sub, Nat.add_sub_cancel, qm1_add, qm2_add, nI_leI, nI_ltI, nI_eq, nI_m1, nI_m1', nI_clamp, nI_bit, nI_one_shl, nI_m1l, nI_m1lt, nI_m1lt', nI_m1le', oI_some, oI_none, ni_0, ni_1, fX12_isWord, qle_t, qle_f, qlt_t, qlt_f, qeq_t, qeq_f, h2, g7, hk2]
  · rw [if_neg (fun hh => hT hh.1)]
    simp (disch := (first | assumption | omega | exact hB _ _ | exact hYB _ _ | (simp only [yc, yd, sh, sv, ne_eq]; omega) | (simp (disch := omega) only [↓nm_1, ↓nm_2, nI_add, pk_mul, pk_sub, Nat.add_sub_cancel, qm1_add, qm2_add, nI_clamp, ni_0, ni_1, h2, hT]; refine qin_nI ?_ ?_ <;> first | omega | exact hB _ _ | exact hYB _ _) | (refine qin_nI ?_ ?_ <;> omega) | fail)) only [↓km0_gd, ↓km0_gI, ↓km0_gM, ↓km0_pI, ↓km0_pM, ↓km0_pZ, ↓km0_gL, ↓km0_pL, ↓qb_so, ↓nm_1, ↓nm_2, ↓reduceIte, if_true, if_false, not_true_eq_false, not_false_eq_true, and_true, true_and, and_false, false_and, or_true, true_or, or_false, false_or, eq_self, ne_eq, quI_s, quI_n, quI2, quL1, quL2, quL3, quR1, quR2, quR3, nI_add, pk_mul, pk_sub, Nat.add_sub_cancel, qm1_add, qm2_add, nI_leI, nI_ltI, nI_eq, nI_m1, nI_m1', nI_clamp, nI_bit, nI_one_shl, nI_m1l, nI_m1lt, nI_m1lt', nI_m1le', oI_some, oI_none, ni_0, ni_1, fX12_isWord, qle_t, qle_f, qlt_t, qlt_f, qeq_t, qeq_f, h2, hT]
end Q93

