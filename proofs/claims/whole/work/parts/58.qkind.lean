/-! ===== kind ===== -/
section Q58
variable {S Z V : xSt} {b n : Nat} {Y D E A : Nat → Nat → Nat} {mc wc : List (Nat × Nat)} {P : Nat → Nat → Nat → Nat} {G : Nat → Nat → Nat}
theorem q_xs {x y : Int32} : (0 ≤ x ^^^ y) ↔ ((x.toInt < 0) ↔ (y.toInt < 0)) := by
  have h := BitVec.msb_xor (x := x.toBitVec) (y := y.toBitVec)
  rw [BitVec.msb_eq_toInt, BitVec.msb_eq_toInt, BitVec.msb_eq_toInt] at h
  have e0 : (0 : Int32).toInt = 0 := by decide
  rw [Int32.le_iff_toInt_le, e0]
  have e : (x ^^^ y).toInt = (x.toBitVec ^^^ y.toBitVec).toInt := rfl
  have e1 : x.toBitVec.toInt = x.toInt := rfl
  have e2 : y.toBitVec.toInt = y.toInt := rfl
  rw [← e, e1, e2] at h
  by_cases h1 : x.toInt < 0 <;> by_cases h2 : y.toInt < 0 <;> simp [h1, h2] at h ⊢ <;> omega
theorem q_bm {k : Nat} (h : k < 2 ^ 30) : (-(k : Int)).bmod (2 ^ 32) = -(k : Int) := Int.bmod_eq_of_le (by omega) (by omega)
theorem q_fm {r d m : Nat} (hm : 0 < m) (hr : r < m) (hm2 : m < 2 ^ 20) (hd : d < 2 ^ 20) : fJ9_floorMod_7cf53 (nI r - nI d) (nI m) S = some (nI ((r + m - d % m) % m)) := by
  have er := nI_toInt (n := r) (by omega)
  have ed := nI_toInt (n := d) (by omega)
  have em := nI_toInt (n := m) (by omega)
  have ex : (nI r - nI d).toInt = (r : Int) - d := by
    rw [Int32.toInt_sub, er, ed, Int.bmod_eq_of_le (by omega) (by omega)]
  have hm0 : ¬ nI m = 0 := by
    intro e
    have := congrArg Int32.toInt e
    rw [em] at this
    have e0 : (0 : Int32).toInt = 0 := by decide
    omega
  have hxs := q_xs (x := nI r - nI d) (y := nI m)
  rw [ex, em] at hxs
  have hlt := Nat.mod_lt d hm
  unfold fJ9_floorMod_7cf53
  rw [if_neg hm0, qb_so]
  by_cases hdr : d ≤ r
  · rw [if_pos (hxs.mpr (by omega))]
    have eq1 : d % m = d := Nat.mod_eq_of_lt (by omega)
    have eq2 : (r + m - d % m) % m = r - d := by
      rw [eq1, show r + m - d = (r - d) + m by omega, Nat.add_mod_right, Nat.mod_eq_of_lt (by omega)]
    rw [eq2]
    congr 1
    apply Int32.toInt_inj.mp
    have e4 : ((nI r - nI d) / nI m).toInt = 0 := by
      rw [Int32.toInt_div, ex, em, show (r : Int) - d = ((r - d : Nat) : Int) by omega, Int.tdiv_eq_zero_of_lt (by omega) (by omega)]
      rfl
    have e5 : (nI r - nI d) / nI m = 0 := Int32.toInt_inj.mp e4
    rw [e5, Int32.zero_mul, Int32.sub_zero, ex, nI_toInt (by omega)]
    omega
  · rw [if_neg (fun hc => by have := hxs.mp hc; omega)]
    have hdd := Nat.div_add_mod (d - r) m
    have hml := Nat.mod_lt (d - r) hm
    have hq : (d - r) / m ≤ d - r := Nat.div_le_self _ _
    have e4 : ((nI r - nI d) / nI m).toInt = -(((d - r) / m : Nat) : Int) := by
      rw [Int32.toInt_div, ex, em, show (r : Int) - d = -((d - r : Nat) : Int) by omega, Int.neg_tdiv, ← Int.ofNat_tdiv, q_bm (Nat.lt_of_le_of_lt hq (by omega))]
    have hp : m * ((d - r) / m) ≤ d - r := by omega
    have e5 : ((nI r - nI d) / nI m * nI m).toInt = -((m * ((d - r) / m) : Nat) : Int) := by
      rw [Int32.toInt_mul, e4, em, show -(((d - r) / m : Nat) : Int) * (m : Int) = -((m * ((d - r) / m) : Nat) : Int) by rw [Int.neg_mul, Int.natCast_mul, Int.mul_comm], q_bm (Nat.lt_of_le_of_lt hp (by omega))]
    have e6 : (nI r - nI d - (nI r - nI d) / nI m * nI m).toInt = -(((d - r) % m : Nat) : Int) := by
      rw [Int32.toInt_sub, ex, e5, Int.bmod_eq_of_le (by omega) (by omega)]
      omega
    have hk : (r + m - d % m) % m = if (d - r) % m = 0 then 0 else m - (d - r) % m := by
      have g1 : (r + m - d % m + (d - r)) % m = 0 := by
        have : r + m - d % m + (d - r) = m * (d / m + 1) := by
          have := Nat.div_add_mod d m
          rw [Nat.mul_add, Nat.mul_one]
          omega
        rw [this, Nat.mul_mod_right]
      rw [Nat.add_mod] at g1
      have g2 := Nat.mod_lt (r + m - d % m) hm
      generalize (r + m - d % m) % m = u at g1 g2 ⊢
      generalize (d - r) % m = v at g1 hml ⊢
      by_cases hv : v = 0
      · rw [if_pos hv]
        rw [hv, Nat.add_zero, Nat.mod_eq_of_lt g2] at g1
        exact g1
      · rw [if_neg hv]
        by_cases hs : u + v < m
        · rw [Nat.mod_eq_of_lt hs] at g1
          omega
        · rw [Nat.mod_eq_sub_mod (by omega), Nat.mod_eq_of_lt (by omega)] at g1
          omega
    rw [hk]
    by_cases hv : (d - r) % m = 0
    · have e7 : nI r - nI d - (nI r - nI d) / nI m * nI m = 0 := by
        apply Int32.toInt_inj.mp
        rw [e6, hv]
        rfl
      rw [if_pos e7, if_pos hv, e7]
      rfl
    · have e7 : ¬ nI r - nI d - (nI r - nI d) / nI m * nI m = 0 := by
        intro e
        rw [e] at e6
        have e0 : (0 : Int32).toInt = 0 := by decide
        omega
      rw [if_neg e7, if_neg hv]
      congr 1
      apply Int32.toInt_inj.mp
      rw [Int32.toInt_add, e6, em, nI_toInt (by omega), Int.bmod_eq_of_le (by omega) (by omega)]
      omega
theorem c_dtr (hb : b < 2) (h : cY S b Y mc wc) (hY : yrOk Y) {k d : Nat} (hk : k < Y 2 0) (hd : d ≤ 999) : fX9_daysToRest (yc b 0) (nI k) (nI d) S = some (nI ((Y 3 k + Y 4 k - d % Y 4 k) % Y 4 k)) := by
  have hYB := yrOk_B hY
  have hy := h.1
  have h6 : Y 2 0 ≤ 6 := hY.1.1
  have h4 := hY.2.1 k hk
  have e1 := c_holds_t (s := 0) hb h hYB (by decide) hk
  have ef := q_fm (S := S) (r := Y 3 k) (d := d) (m := Y 4 k) (by omega) (by omega) (by omega) (by omega)
  simp (disch := (first | assumption | omega | exact hB _ _ | exact hYB _ _ | (simp only [yc, yd, sh, sv, ne_eq]; omega) | (simp (disch := omega) only [↓nm_1, ↓nm_2, nI_add, pk_mul, pk_sub, Nat.add_sub_cancel, qm1_add, qm2_add, nI_clamp, ni_0, ni_1, hy, e1, ef]; refine qin_nI ?_ ?_ <;> first | omega | exact hB _ _ | exact hYB _ _) | (refine qin_nI ?_ ?_ <;> omega) | fail)) only [↓yc0_gd hb, ↓yc0_gI hb, ↓yc0_gM hb, ↓yc0_pI hb, ↓yc0_pM hb, ↓yc0_pZ hb, ↓yc0_gF0 hb, ↓yc0_gF1 hb, ↓yc0_gF2 hb, ↓yc0_gF3 hb, ↓yc0_gF4 hb, ↓yc0_gF5 hb, ↓yc0_gF6 hb, ↓yc0_gF7 hb, ↓yc0_gF8 hb, ↓yc0_gF9 hb, ↓yc0_gF10 hb, ↓yc0_gF11 hb, ↓yc0_gF12 hb, ↓yc0_gF13 hb, ↓yc1_al hb, ↓yc1_as hb, ↓yc1_ln hb, ↓yc2_al hb, ↓yc2_as hb, ↓yc2_ln hb, ↓yc3_al hb, ↓yc3_as hb, ↓yc3_ln hb, ↓yc4_al hb, ↓yc4_as hb, ↓yc4_ln hb, ↓yc5_al hb, ↓yc5_as hb, ↓yc5_ln hb, ↓yc6_al hb, ↓yc6_as hb, ↓yc6_ln hb, ↓yc7_al hb, ↓yc7_as hb, ↓yc7_ln hb, ↓yc8_al hb, ↓yc8_as hb, ↓yc8_ln hb, ↓yc9_al hb, ↓yc9_as hb, ↓yc9_ln hb, ↓yc10_al hb, ↓yc10_as hb, ↓yc10_ln hb, ↓yc11_al hb, ↓yc11_as hb, ↓yc11_ln hb, ↓yc12_al hb, ↓yc12_as hb, ↓yc12_ln hb, ↓yc13_al hb, ↓yc13_as hb, ↓yc13_ln hb, ↓yc14_gd hb, ↓yc14_gI hb, ↓yc14_gM hb, ↓yc14_pI hb, ↓yc14_pM hb, ↓yc14_pZ hb, ↓yc14_gF0 hb, ↓yc14_gF1 hb, ↓yc15_al hb, ↓yc15_as hb, ↓yc15_ln hb, ↓yc16_al hb, ↓yc16_as hb, ↓yc16_ln hb, ↓qb_so, ↓nm_1, ↓nm_2, ↓reduceIte, if_true, if_false, not_true_eq_false, not_false_eq_true, and_true, true_and, and_false, false_and, or_true, true_or, or_false, false_or, eq_self, ne_eq, quI_s, quI_n, quI2, quL1, quL2, quL3, quR1, quR2, quR3, nI_add, pk_mul, pk_sub, Nat.add_sub_cancel, qm1_add, qm2_add, nI_leI, nI_ltI, nI_eq, nI_m1, nI_m1', nI_clamp, nI_bit, nI_one_shl, nI_m1l, nI_m1lt, nI_m1lt', nI_m1le', oI_some, oI_none, ni_0, ni_1, fX9_daysToRest, qle_t, qle_f, qlt_t, qlt_f, qeq_t, qeq_f, hy, e1, ef]
/-- the tools of a kind, by bits -/
def s_tb (Y : Nat → Nat → Nat) (k : Nat) : Nat → Nat
  | 0 => 0
  | t + 1 => s_tb Y k t ||| (if Y 5 t = k then 2 ^ t else 0)
theorem s_tb_lt {Y : Nat → Nat → Nat} {k : Nat} : ∀ t, s_tb Y k t < 2 ^ t
  | 0 => by decide
  | t + 1 => by
    have := s_tb_lt (Y := Y) (k := k) t
    rw [s_tb]
    apply Nat.or_lt_two_pow
    · exact Nat.lt_of_lt_of_le this (Nat.pow_le_pow_right (by decide) (by omega))
    · split
      · exact Nat.pow_lt_pow_right (by decide) (by omega)
      · exact Nat.two_pow_pos _
end Q58

