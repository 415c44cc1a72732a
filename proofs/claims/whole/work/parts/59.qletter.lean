/-! ===== letter ===== -/
section Q59
/-- the first i letters of a name as a number of bytes -/
def s_pre (w : Nat) : Nat → Nat
  | 0 => 0
  | i + 1 => 256 * s_pre w i + (96 + s_lt1 w i)
theorem s_longL_pre {w m : Nat} (hm : m ≤ 6) (h1 : ∀ k, k < m → 1 ≤ s_lt1 w k) (h2 : ∀ k, m ≤ k → k < 6 → s_lt1 w k = 0) : ∀ k i, i + k = 6 → i ≤ m → s_longL w k (s_pre w i) = s_pre w m
  | 0, i, hk, hi => by
    have : i = m := by omega
    rw [this]
    rfl
  | k + 1, i, hk, hi => by
    rw [s_longL, show 5 - k = i by omega]
    by_cases hc : i < m
    · have := h1 i hc
      rw [if_neg (by omega), ← s_longL_pre hm h1 h2 k (i + 1) (by omega) (by omega), s_pre, Nat.add_assoc]
    · rw [if_pos (h2 i (by omega) (by omega)), show i = m by omega]
theorem s_pre_div {w i : Nat} (h : s_lt1 w i ≤ 26) : s_pre w (i + 1) / 256 = s_pre w i := by
  rw [s_pre]
  omega
theorem s_pre_mod {w i : Nat} (h : s_lt1 w i ≤ 26) : s_pre w (i + 1) % 256 = 96 + s_lt1 w i := by
  rw [s_pre]
  omega
theorem s_pre_pos {w i : Nat} : 0 < s_pre w (i + 1) := by
  rw [s_pre]
  omega
theorem s_pre_lt {w m : Nat} (h : ∀ k, k < m → s_lt1 w k ≤ 26) : ∀ i, i ≤ m → s_pre w i < 256 ^ i
  | 0, _ => by rw [s_pre]; decide
  | i + 1, hi => by
    have IH := s_pre_lt h i (by omega)
    have := h i (by omega)
    rw [s_pre, Nat.pow_succ]
    omega
theorem s_pre_far {w m : Nat} (h : ∀ k, k < m → s_lt1 w k ≤ 26) : ∀ d i, i + d ≤ m → s_pre w (i + d) / 256 ^ d = s_pre w i
  | 0, i, _ => by rw [Nat.pow_zero, Nat.div_one, Nat.add_zero]
  | d + 1, i, hi => by
    rw [Nat.pow_succ, Nat.mul_comm, ← Nat.div_div_eq_div_mul, ← Nat.add_assoc, s_pre_div (h _ (by omega)), s_pre_far h d i (by omega)]
theorem s_long_pre {w : Nat} (h : s_nmOk w) : ∃ m, 1 ≤ m ∧ m ≤ 6 ∧ (∀ k, k < m → 1 ≤ s_lt1 w k ∧ s_lt1 w k ≤ 26) ∧ (∀ k, m ≤ k → k < 6 → s_lt1 w k = 0) ∧ s_long w = s_pre w m := by
  obtain ⟨m, h1, h2, h3, h4⟩ := h
  exact ⟨m, h1, h2, h3, h4, s_longL_pre h2 (fun k hk => (h3 k hk).1) h4 6 0 (by omega) (by omega)⟩
theorem lN_shrN {a : Nat} (ha : a < 2 ^ 63) (x : Int64) (d : Nat) (hx : (x.toBitVec.smod 64).toNat = d) : lN a >>> x = lN (a / 2 ^ d) := by
  have hle : a / 2 ^ d ≤ a := Nat.div_le_self _ _
  apply Int64.toInt_inj.mp
  rw [pk_lT (Nat.lt_of_le_of_lt hle ha)]
  have e : (lN a >>> x).toInt = ((lN a).toBitVec.sshiftRight (x.toBitVec.smod 64).toNat).toInt := rfl
  rw [e, hx, BitVec.toInt_sshiftRight, show (lN a).toBitVec.toInt = (lN a).toInt from rfl, pk_lT ha, Int.shiftRight_eq_div_pow]
  rfl
theorem lN_m255 {a : Nat} (ha : a < 2 ^ 63) : lN a &&& (255 : Int64) = lN (a % 256) := by
  apply Int64.toBitVec_inj.mp
  apply BitVec.eq_of_toNat_eq
  rw [Int64.toBitVec_and, BitVec.toNat_and]
  have tn : ∀ x, x < 2 ^ 64 → (lN x).toBitVec.toNat = x := fun x hx => Nat.mod_eq_of_lt hx
  have hl := Nat.mod_lt a (show 0 < 256 by decide)
  rw [tn a (by omega), tn (a % 256) (by omega), show (255 : Int64).toBitVec.toNat = 2 ^ 8 - 1 from rfl, Nat.and_two_pow_sub_one_eq_mod]
theorem m_ltL {S : xSt} {n w m : Nat} {a3 : Int32} {b4 : Int64} (hm : m ≤ 6) (h : ∀ k, k < m → s_lt1 w k ≤ 26) : ∀ (i c q : Nat), c + i = m → i < q → fX12_letter_L58 n a3 b4 S q (nI c) (lN (s_pre w i)) = some (nI m)
  | 0, c, q, hc, hq => by
    obtain ⟨q, rfl⟩ : ∃ q', q = q' + 1 := ⟨q - 1, by omega⟩
    show fX12_letter_L58b _ _ _ _ _ _ _ = _
    unfold fX12_letter_L58b
    rw [if_pos ((lg_cmp_le _ _).mpr (by rw [s_pre]; decide)), show c = m by omega]
  | i + 1, c, q, hc, hq => by
    obtain ⟨q, rfl⟩ : ∃ q', q = q' + 1 := ⟨q - 1, by omega⟩
    have hlt := s_pre_lt h (i + 1) (by omega)
    have h63 : s_pre w (i + 1) < 2 ^ 63 := Nat.lt_of_lt_of_le hlt (Nat.le_trans (Nat.pow_le_pow_right (by decide) (show i + 1 ≤ 6 by omega)) (by decide))
    have hp := s_pre_pos (w := w) (i := i)
    have hs : lN (s_pre w (i + 1)) >>> (((8 : Int32)).toInt64 &&& 63) = lN (s_pre w i) := by
      rw [lN_shrN h63 _ 8 (by decide), ← s_pre_div (h i (by omega))]
    show fX12_letter_L58b _ _ _ _ _ _ _ = _
    unfold fX12_letter_L58b
    rw [if_neg (fun hh => by
      have h1 := (lg_cmp_le _ _).mp hh
      rw [show (0 : Int64) = lN 0 from rfl, pk_lLE h63 (by decide)] at h1
      omega), qb_so, qb_so, hs, nI_1]
    exact m_ltL hm h i (c + 1) q (by omega) (by omega)
end Q59

