
def qOk {α : Type} (m : Option α) (Q : α → Prop) : Prop := ∃ z, m = some z ∧ Q z
theorem qok_some {α : Type} {z : α} {Q : α → Prop} (h : Q z) : qOk (some z) Q := ⟨z, rfl, h⟩
theorem qok_bind {α β : Type} {m : Option α} {f : α → Option β} {Q : β → Prop} (h : qOk m (fun z => qOk (f z) Q)) : qOk (m.bind f) Q := by
  obtain ⟨z, rfl, h⟩ := h; exact h
theorem qok_eq {α β : Type} {m : Option α} {f : α → Option β} {Q : β → Prop} {z : α} (e : m = some z) (h : qOk (f z) Q) : qOk (m.bind f) Q := by
  subst e; exact h
theorem qok_mono {α : Type} {m : Option α} {Q R : α → Prop} (h : qOk m Q) (k : ∀ z, Q z → R z) : qOk m R := by
  obtain ⟨z, e, h⟩ := h; exact ⟨z, e, k z h⟩
theorem qok_then {α β : Type} {m : Option α} {f : α → Option β} {Q : α → Prop} {R : β → Prop} (h : qOk m Q) (k : ∀ z, Q z → qOk (f z) R) : qOk (m.bind f) R := by
  obtain ⟨z, rfl, h⟩ := h; exact k z h
theorem qok_t {α : Type} {c : Prop} [Decidable c] {a b : Option α} {Q : α → Prop} (h : c) (k : qOk a Q) : qOk (if c then a else b) Q := by rw [if_pos h]; exact k
theorem qok_f {α : Type} {c : Prop} [Decidable c] {a b : Option α} {Q : α → Prop} (h : ¬ c) (k : qOk b Q) : qOk (if c then a else b) Q := by rw [if_neg h]; exact k
theorem qok_if {α : Type} {c : Prop} [Decidable c] {a b : Option α} {Q : α → Prop} (k1 : c → qOk a Q) (k2 : ¬ c → qOk b Q) : qOk (if c then a else b) Q := by
  by_cases h : c
  · rw [if_pos h]; exact k1 h
  · rw [if_neg h]; exact k2 h
theorem qle_t {a b : Nat} (h : a ≤ b) : (a ≤ b) = True := eq_true h
theorem qle_f {a b : Nat} (h : b < a) : (a ≤ b) = False := eq_false (Nat.not_le_of_lt h)
theorem qlt_t {a b : Nat} (h : a < b) : (a < b) = True := eq_true h
theorem qlt_f {a b : Nat} (h : b ≤ a) : (a < b) = False := eq_false (Nat.not_lt_of_le h)
theorem qeq_t {a b : Nat} (h : a = b) : (a = b) = True := eq_true h
theorem qeq_f {a b : Nat} (h : a ≠ b) : (a = b) = False := eq_false h
def qin (x : Int32) (n : Nat) : Prop := ¬ (x < 0 ∨ n ≤ x.toNatClampNeg)
theorem qin_nI {i n : Nat} (h : i < n) (hn : n < 2 ^ 31) : qin (nI i) n := nI_in h hn
def qm1 : Int32 := -1
def qm2 : Int32 := -2
theorem nm_1 : (-1 : Int32) = qm1 := rfl
theorem nm_2 : (-2 : Int32) = qm2 := rfl
theorem qm1_toInt : qm1.toInt = -1 := by decide
theorem nI_m1 {a : Nat} (h : a < 2 ^ 31) : (nI a = qm1) = False := by
  apply eq_false
  intro e
  have := congrArg Int32.toInt e
  rw [nI_toInt h, qm1_toInt] at this
  omega
theorem nI_m1' {a : Nat} (h : a < 2 ^ 31) : (qm1 = nI a) = False := by
  rw [← nI_m1 h]; exact propext ⟨Eq.symm, Eq.symm⟩
theorem nI_m1l {a : Nat} (h : a < 2 ^ 31) : (nI a ≤ qm1) = False := by
  apply eq_false
  intro e
  have := Int32.le_iff_toInt_le.mp e
  rw [nI_toInt h, qm1_toInt] at this
  omega
theorem nI_m1lt {a : Nat} (h : a < 2 ^ 31) : (nI a < qm1) = False := by
  apply eq_false
  intro e
  have := Int32.lt_iff_toInt_lt.mp e
  rw [nI_toInt h, qm1_toInt] at this
  omega
theorem nI_m1lt' {a : Nat} (h : a < 2 ^ 31) : (qm1 < nI a) = True := by
  apply eq_true
  apply Int32.lt_iff_toInt_lt.mpr
  rw [nI_toInt h, qm1_toInt]
  omega
theorem nI_m1le' {a : Nat} (h : a < 2 ^ 31) : (qm1 ≤ nI a) = True := by
  apply eq_true
  apply Int32.le_iff_toInt_le.mpr
  rw [nI_toInt h, qm1_toInt]
  omega
theorem qm1_add (n : Nat) : nI (n + 1) + qm1 = nI n := pk_m1 n
theorem qm2_add (n : Nat) : nI (n + 1 + 1) + qm2 = nI n := by
  show nI (n + 1 + 1) + (-2) = nI n
  rw [show (-2 : Int32) = -1 + -1 from rfl, ← Int32.add_assoc, pk_m1, pk_m1]
def oI : Option Nat → Int32
  | none => qm1
  | some n => nI n
theorem oI_some (n : Nat) : oI (some n) = nI n := rfl
theorem oI_none : oI none = qm1 := rfl
theorem oI_of {o : Option Nat} (h : o.isSome = false) : oI o = qm1 := by cases o with | none => rfl | some => cases h
section QBI
variable {T : xTb} {c j k : Nat} {S : xSt} {β : Type}
theorem qb_gI {f : Int32 → Option β} (h : T.1 k = c) : (xgI T c j k S).bind f = f (S.1 k j) := by unfold xgI; rw [if_pos h]; rfl
theorem qb_gL {f : Int64 → Option β} (h : T.1 k = c) : (xgL T c j k S).bind f = f (S.2.1 k j) := by unfold xgL; rw [if_pos h]; rfl
theorem qb_gM {f : Nat → Option β} (h : T.1 k = c) : (xgM T c j k S).bind f = f (S.2.2 k j) := by unfold xgM; rw [if_pos h]; rfl
theorem qb_gF {f : Nat → Option β} (h : T.1 k = c) : (xgF T c j k S).bind f = f (T.2.2.1 k j) := by unfold xgF; rw [if_pos h]; rfl
theorem qb_pI {f : xSt → Option β} {v : Int32} (h : T.1 k = c) : (xpI T c j k v S).bind f = f (xuI S k j v) := by unfold xpI; rw [if_pos h]; rfl
theorem qb_pL {f : xSt → Option β} {v : Int64} (h : T.1 k = c) : (xpL T c j k v S).bind f = f (xuL S k j v) := by unfold xpL; rw [if_pos h]; rfl
theorem qb_pM {f : xSt → Option β} {v : Nat} (h : T.1 k = c) : (xpM T c j k v S).bind f = f (xuR S k j v) := by unfold xpM; rw [if_pos h]; rfl
theorem qb_pZ0 {f : xSt → Option β} (h : T.1 k = c) : (xpZ T c j k 0 S).bind f = f (xuI S k j 0) := by unfold xpZ; rw [if_pos ⟨h, Or.inl rfl⟩]; rfl
theorem qb_pZ1 {f : xSt → Option β} (h : T.1 k = c) : (xpZ T c j k 1 S).bind f = f (xuI S k j 1) := by unfold xpZ; rw [if_pos ⟨h, Or.inr rfl⟩]; rfl
theorem qb_pZ {f : xSt → Option β} {v : Int32} (h : T.1 k = c) (hv : v = 0 ∨ v = 1) : (xpZ T c j k v S).bind f = f (xuI S k j v) := by unfold xpZ; rw [if_pos ⟨h, hv⟩]; rfl
theorem qb_al {f : Int32 → Option β} {x : Int32} (h : T.1 k = 13) (hi : qin x (T.2.1 k)) : (xal T k x S).bind f = f (S.1 k x.toNatClampNeg) := by unfold xal; rw [if_pos ⟨h, hi⟩]; rfl
theorem qb_as {f : xSt → Option β} {x v : Int32} (h : T.1 k = 13) (hi : qin x (T.2.1 k)) : (xas T k x v S).bind f = f (xuI S k x.toNatClampNeg v) := by unfold xas; rw [if_pos ⟨h, hi⟩]; rfl
theorem qb_zl {f : Int32 → Option β} {x : Int32} (h : T.1 k = 15) (hi : qin x (T.2.1 k)) : (xzl T k x S).bind f = f (S.1 k x.toNatClampNeg) := by unfold xzl; rw [if_pos ⟨h, hi⟩]; rfl
theorem qb_zs0 {f : xSt → Option β} {x : Int32} (h : T.1 k = 15) (hi : qin x (T.2.1 k)) : (xzs T k x 0 S).bind f = f (xuI S k x.toNatClampNeg 0) := by unfold xzs; rw [if_pos ⟨⟨h, Or.inl rfl⟩, hi⟩]; rfl
theorem qb_zs1 {f : xSt → Option β} {x : Int32} (h : T.1 k = 15) (hi : qin x (T.2.1 k)) : (xzs T k x 1 S).bind f = f (xuI S k x.toNatClampNeg 1) := by unfold xzs; rw [if_pos ⟨⟨h, Or.inr rfl⟩, hi⟩]; rfl
theorem qb_ll {f : Int64 → Option β} {x : Int32} (h : T.1 k = 14) (hi : qin x (T.2.1 k)) : (xll T k x S).bind f = f (S.2.1 k x.toNatClampNeg) := by unfold xll; rw [if_pos ⟨h, hi⟩]; rfl
theorem qb_ls {f : xSt → Option β} {x : Int32} {v : Int64} (h : T.1 k = 14) (hi : qin x (T.2.1 k)) : (xls T k x v S).bind f = f (xuL S k x.toNatClampNeg v) := by unfold xls; rw [if_pos ⟨h, hi⟩]; rfl
theorem qb_ql {f : Nat → Option β} {x : Int32} (h : T.1 k = 16) (hi : qin x (T.2.1 k)) : (xql T k x S).bind f = f (T.2.2.1 k x.toNatClampNeg) := by unfold xql; rw [if_pos ⟨h, hi⟩]; rfl
theorem qb_len {f : Int32 → Option β} {k : Nat} (h : 13 ≤ T.1 k) (h2 : T.1 k ≤ 16) : (xlen T k).bind f = f (nI (T.2.1 k)) := by unfold xlen; rw [if_pos ⟨h, h2⟩]; rfl
theorem qb_len13 {f : Int32 → Option β} {k : Nat} (h : T.1 k = 13) : (xlen T k).bind f = f (nI (T.2.1 k)) := by unfold xlen; rw [if_pos (by rw [h]; decide)]; rfl
theorem qb_some {α : Type} {f : α → Option β} {a : α} : (some a).bind f = f a := rfl
end QBI
theorem quI1 {S : xSt} {k j k' j' : Nat} {v : Int32} : (xuI S k j v).1 k' j' = if k' = k then (if j' = j then v else S.1 k' j') else S.1 k' j' := rfl
theorem quI2 {S : xSt} {k j : Nat} {v : Int32} : (xuI S k j v).2 = S.2 := rfl
theorem quL1 {S : xSt} {k j : Nat} {v : Int64} : (xuL S k j v).1 = S.1 := rfl
theorem quL2 {S : xSt} {k j k' j' : Nat} {v : Int64} : (xuL S k j v).2.1 k' j' = if k' = k then (if j' = j then v else S.2.1 k' j') else S.2.1 k' j' := rfl
theorem quL3 {S : xSt} {k j : Nat} {v : Int64} : (xuL S k j v).2.2 = S.2.2 := rfl
theorem quR1 {S : xSt} {k j v : Nat} : (xuR S k j v).1 = S.1 := rfl
theorem quR2 {S : xSt} {k j v : Nat} : (xuR S k j v).2.1 = S.2.1 := rfl
theorem quR3 {S : xSt} {k j k' j' v : Nat} : (xuR S k j v).2.2 k' j' = if k' = k then (if j' = j then v else S.2.2 k' j') else S.2.2 k' j' := rfl
theorem quA1 {S : xSt} {k k' j' : Nat} {f : Nat → Int32} : (xuA S k f).1 k' j' = if k' = k then f j' else S.1 k' j' := rfl
theorem quA2 {S : xSt} {k : Nat} {f : Nat → Int32} : (xuA S k f).2 = S.2 := rfl
theorem nI_tn {n : Nat} (h : n < 2 ^ 32) : (nI n).toBitVec.toNat = n := pk_tn h
theorem nI_bv (n : Nat) : (nI n).toBitVec = BitVec.ofNat 32 n := rfl
theorem nI_or {a b : Nat} (ha : a < 2 ^ 31) (hb : b < 2 ^ 31) : nI a ||| nI b = nI (a ||| b) := by
  apply Int32.toBitVec_inj.mp
  apply BitVec.eq_of_toNat_eq
  have h : a ||| b < 2 ^ 32 := Nat.lt_trans (Nat.or_lt_two_pow ha hb) (by decide)
  rw [Int32.toBitVec_or, BitVec.toNat_or, nI_tn (by omega), nI_tn (by omega), nI_tn h]
theorem nI_and {a b : Nat} (ha : a < 2 ^ 31) (hb : b < 2 ^ 31) : nI a &&& nI b = nI (a &&& b) := by
  apply Int32.toBitVec_inj.mp
  apply BitVec.eq_of_toNat_eq
  have h : a &&& b < 2 ^ 32 := Nat.lt_of_le_of_lt Nat.and_le_left (by omega)
  rw [Int32.toBitVec_and, BitVec.toNat_and, nI_tn (by omega), nI_tn (by omega), nI_tn h]
theorem nI_xor {a b : Nat} (ha : a < 2 ^ 31) (hb : b < 2 ^ 31) : nI a ^^^ nI b = nI (a ^^^ b) := by
  apply Int32.toBitVec_inj.mp
  apply BitVec.eq_of_toNat_eq
  have h : a ^^^ b < 2 ^ 32 := Nat.lt_trans (Nat.xor_lt_two_pow ha hb) (by decide)
  rw [Int32.toBitVec_xor, BitVec.toNat_xor, nI_tn (by omega), nI_tn (by omega), nI_tn h]
theorem nI_sh31 {t : Nat} (h : t < 31) : ((nI t &&& 31 : Int32).toBitVec.smod 32).toNat = t := by
  have e : (nI t &&& 31 : Int32) = nI t := by
    rw [show (31 : Int32) = nI 31 from rfl, nI_and (by omega) (by decide)]
    congr 1
    exact (Nat.and_two_pow_sub_one_eq_mod t 5).trans (Nat.mod_eq_of_lt (by omega))
  rw [e, nI_bv]
  have : ∀ t, t < 31 → ((BitVec.ofNat 32 t).smod 32).toNat = t := by decide
  exact this t h
theorem nI_shr {u t : Nat} (hu : u < 2 ^ 31) (ht : t < 31) : nI u >>> (nI t &&& 31) = nI (u / 2 ^ t) := pk_shrN hu _ t (nI_sh31 ht)
theorem nI_shl {u t : Nat} (ht : t < 31) (hu : u * 2 ^ t < 2 ^ 32) : nI u <<< (nI t &&& 31) = nI (u * 2 ^ t) := pk_shlN _ t (nI_sh31 ht) hu
def qbit (u t : Nat) : Nat := if u.testBit t then 1 else 0
theorem nI_bit {u t : Nat} (hu : u < 2 ^ 31) (ht : t < 31) : (nI u >>> (nI t &&& 31)) &&& nI 1 = nI (qbit u t) := by
  rw [nI_shr hu ht, nI_and (Nat.lt_of_le_of_lt (Nat.div_le_self _ _) hu) (by decide)]
  congr 1
  rw [Nat.and_one_is_mod]
  unfold qbit
  rw [Nat.testBit_eq_decide_div_mod_eq]
  have := Nat.mod_two_eq_zero_or_one (u / 2 ^ t)
  rcases this with h | h <;> simp [h]
theorem qbit_lt (u t : Nat) : qbit u t < 2 ^ 31 := by unfold qbit; split <;> decide
theorem qbit_0 {u t : Nat} : (qbit u t = 0) = (u.testBit t = false) := by unfold qbit; cases u.testBit t <;> simp
theorem qbit_1 {u t : Nat} : (qbit u t = 1) = (u.testBit t = true) := by unfold qbit; cases u.testBit t <;> simp
theorem nI_one_shl {t : Nat} (ht : t < 31) : nI 1 <<< (nI t &&& 31) = nI (2 ^ t) := by
  rw [nI_shl ht]
  · rw [Nat.one_mul]
  · rw [Nat.one_mul]; exact Nat.pow_lt_pow_right (by decide) (by omega)
theorem qpow_lt {t n : Nat} (h : t < n) : 2 ^ t < 2 ^ n := Nat.pow_lt_pow_right (by decide) h

theorem ni_0 : (0 : Int32) = nI 0 := rfl
theorem ni_1 : (1 : Int32) = nI 1 := rfl
theorem ni_2 : (2 : Int32) = nI 2 := rfl
theorem ni_3 : (3 : Int32) = nI 3 := rfl
theorem ni_4 : (4 : Int32) = nI 4 := rfl
theorem ni_5 : (5 : Int32) = nI 5 := rfl
theorem ni_6 : (6 : Int32) = nI 6 := rfl
theorem ni_7 : (7 : Int32) = nI 7 := rfl
theorem ni_8 : (8 : Int32) = nI 8 := rfl
theorem ni_9 : (9 : Int32) = nI 9 := rfl
theorem ni_10 : (10 : Int32) = nI 10 := rfl
theorem ni_11 : (11 : Int32) = nI 11 := rfl
theorem ni_12 : (12 : Int32) = nI 12 := rfl
theorem ni_13 : (13 : Int32) = nI 13 := rfl
theorem ni_14 : (14 : Int32) = nI 14 := rfl
theorem ni_15 : (15 : Int32) = nI 15 := rfl
theorem ni_16 : (16 : Int32) = nI 16 := rfl
theorem ni_17 : (17 : Int32) = nI 17 := rfl
theorem ni_18 : (18 : Int32) = nI 18 := rfl
theorem ni_19 : (19 : Int32) = nI 19 := rfl
theorem ni_20 : (20 : Int32) = nI 20 := rfl
theorem ni_21 : (21 : Int32) = nI 21 := rfl
theorem ni_22 : (22 : Int32) = nI 22 := rfl
theorem ni_23 : (23 : Int32) = nI 23 := rfl
theorem ni_24 : (24 : Int32) = nI 24 := rfl
theorem ni_25 : (25 : Int32) = nI 25 := rfl
theorem ni_26 : (26 : Int32) = nI 26 := rfl
theorem ni_27 : (27 : Int32) = nI 27 := rfl
theorem ni_28 : (28 : Int32) = nI 28 := rfl
theorem ni_29 : (29 : Int32) = nI 29 := rfl
theorem ni_30 : (30 : Int32) = nI 30 := rfl
theorem ni_31 : (31 : Int32) = nI 31 := rfl
theorem ni_32 : (32 : Int32) = nI 32 := rfl
theorem ni_33 : (33 : Int32) = nI 33 := rfl
theorem ni_34 : (34 : Int32) = nI 34 := rfl
theorem ni_35 : (35 : Int32) = nI 35 := rfl
theorem ni_36 : (36 : Int32) = nI 36 := rfl
theorem ni_37 : (37 : Int32) = nI 37 := rfl
theorem ni_38 : (38 : Int32) = nI 38 := rfl
theorem ni_39 : (39 : Int32) = nI 39 := rfl
theorem ni_40 : (40 : Int32) = nI 40 := rfl
theorem ni_41 : (41 : Int32) = nI 41 := rfl
theorem ni_42 : (42 : Int32) = nI 42 := rfl
theorem ni_43 : (43 : Int32) = nI 43 := rfl
theorem ni_44 : (44 : Int32) = nI 44 := rfl
theorem ni_45 : (45 : Int32) = nI 45 := rfl
theorem ni_47 : (47 : Int32) = nI 47 := rfl
theorem ni_48 : (48 : Int32) = nI 48 := rfl
theorem ni_57 : (57 : Int32) = nI 57 := rfl
theorem ni_59 : (59 : Int32) = nI 59 := rfl
theorem ni_60 : (60 : Int32) = nI 60 := rfl
theorem ni_61 : (61 : Int32) = nI 61 := rfl
theorem ni_62 : (62 : Int32) = nI 62 := rfl
theorem ni_63 : (63 : Int32) = nI 63 := rfl
theorem ni_64 : (64 : Int32) = nI 64 := rfl
theorem ni_80 : (80 : Int32) = nI 80 := rfl
theorem ni_91 : (91 : Int32) = nI 91 := rfl
theorem ni_93 : (93 : Int32) = nI 93 := rfl
theorem ni_95 : (95 : Int32) = nI 95 := rfl
theorem ni_97 : (97 : Int32) = nI 97 := rfl
theorem ni_99 : (99 : Int32) = nI 99 := rfl
theorem ni_100 : (100 : Int32) = nI 100 := rfl
theorem ni_122 : (122 : Int32) = nI 122 := rfl
theorem ni_157 : (157 : Int32) = nI 157 := rfl
theorem ni_240 : (240 : Int32) = nI 240 := rfl
theorem ni_251 : (251 : Int32) = nI 251 := rfl
theorem ni_255 : (255 : Int32) = nI 255 := rfl
theorem ni_720 : (720 : Int32) = nI 720 := rfl
theorem ni_998 : (998 : Int32) = nI 998 := rfl
theorem ni_999 : (999 : Int32) = nI 999 := rfl
theorem ni_1600 : (1600 : Int32) = nI 1600 := rfl
theorem ni_9999 : (9999 : Int32) = nI 9999 := rfl
theorem ni_1000000 : (1000000 : Int32) = nI 1000000 := rfl
theorem ni_100000000 : (100000000 : Int32) = nI 100000000 := rfl
theorem ni_252645135 : (252645135 : Int32) = nI 252645135 := rfl
theorem ni_858993459 : (858993459 : Int32) = nI 858993459 := rfl
theorem ni_1431655765 : (1431655765 : Int32) = nI 1431655765 := rfl
theorem ni_2147483647 : (2147483647 : Int32) = nI 2147483647 := rfl
theorem tk_sh {w : Nat} (hw : w < 2) : tC.1 (144 + 12 * w) = 6 := by rcases (by omega : w = 0 ∨ w = 1) with rfl | rfl <;> rfl
theorem tr_sh0 {w : Nat} (hw : w < 2) : tC.2.2.1 (144 + 12 * w) 0 = 144 + 12 * w + 1 := by rcases (by omega : w = 0 ∨ w = 1) with rfl | rfl <;> rfl
theorem ta_sh1 {w : Nat} (hw : w < 2) : tC.1 (144 + 12 * w + 1) = 13 := by rcases (by omega : w = 0 ∨ w = 1) with rfl | rfl <;> rfl
theorem tl_sh1 {w : Nat} (hw : w < 2) : tC.2.1 (144 + 12 * w + 1) = 6 := by rcases (by omega : w = 0 ∨ w = 1) with rfl | rfl <;> rfl
theorem tr_sh1 {w : Nat} (hw : w < 2) : tC.2.2.1 (144 + 12 * w) 1 = 144 + 12 * w + 2 := by rcases (by omega : w = 0 ∨ w = 1) with rfl | rfl <;> rfl
theorem ta_sh2 {w : Nat} (hw : w < 2) : tC.1 (144 + 12 * w + 2) = 13 := by rcases (by omega : w = 0 ∨ w = 1) with rfl | rfl <;> rfl
theorem tl_sh2 {w : Nat} (hw : w < 2) : tC.2.1 (144 + 12 * w + 2) = 6 := by rcases (by omega : w = 0 ∨ w = 1) with rfl | rfl <;> rfl
theorem tr_sh2 {w : Nat} (hw : w < 2) : tC.2.2.1 (144 + 12 * w) 2 = 144 + 12 * w + 3 := by rcases (by omega : w = 0 ∨ w = 1) with rfl | rfl <;> rfl
theorem ta_sh3 {w : Nat} (hw : w < 2) : tC.1 (144 + 12 * w + 3) = 13 := by rcases (by omega : w = 0 ∨ w = 1) with rfl | rfl <;> rfl
theorem tl_sh3 {w : Nat} (hw : w < 2) : tC.2.1 (144 + 12 * w + 3) = 8 := by rcases (by omega : w = 0 ∨ w = 1) with rfl | rfl <;> rfl
theorem tr_sh3 {w : Nat} (hw : w < 2) : tC.2.2.1 (144 + 12 * w) 3 = 41 := by rcases (by omega : w = 0 ∨ w = 1) with rfl | rfl <;> rfl
theorem tk_yd {w : Nat} (hw : w < 2) : tC.1 (36 + 113 * w) = 8 := by rcases (by omega : w = 0 ∨ w = 1) with rfl | rfl <;> rfl
theorem tr_yd5 {w : Nat} (hw : w < 2) : tC.2.2.1 (36 + 113 * w) 5 = 36 + 113 * w + 1 := by rcases (by omega : w = 0 ∨ w = 1) with rfl | rfl <;> rfl
theorem ta_yd1 {w : Nat} (hw : w < 2) : tC.1 (36 + 113 * w + 1) = 13 := by rcases (by omega : w = 0 ∨ w = 1) with rfl | rfl <;> rfl
theorem tl_yd1 {w : Nat} (hw : w < 2) : tC.2.1 (36 + 113 * w + 1) = 8 := by rcases (by omega : w = 0 ∨ w = 1) with rfl | rfl <;> rfl
theorem tr_yd6 {w : Nat} (hw : w < 2) : tC.2.2.1 (36 + 113 * w) 6 = 36 + 113 * w + 2 := by rcases (by omega : w = 0 ∨ w = 1) with rfl | rfl <;> rfl
theorem ta_yd2 {w : Nat} (hw : w < 2) : tC.1 (36 + 113 * w + 2) = 13 := by rcases (by omega : w = 0 ∨ w = 1) with rfl | rfl <;> rfl
theorem tl_yd2 {w : Nat} (hw : w < 2) : tC.2.1 (36 + 113 * w + 2) = 48 := by rcases (by omega : w = 0 ∨ w = 1) with rfl | rfl <;> rfl
theorem tr_yd7 {w : Nat} (hw : w < 2) : tC.2.2.1 (36 + 113 * w) 7 = 36 + 113 * w + 3 := by rcases (by omega : w = 0 ∨ w = 1) with rfl | rfl <;> rfl
theorem ta_yd3 {w : Nat} (hw : w < 2) : tC.1 (36 + 113 * w + 3) = 13 := by rcases (by omega : w = 0 ∨ w = 1) with rfl | rfl <;> rfl
theorem tl_yd3 {w : Nat} (hw : w < 2) : tC.2.1 (36 + 113 * w + 3) = 6 := by rcases (by omega : w = 0 ∨ w = 1) with rfl | rfl <;> rfl
theorem tr_yd8 {w : Nat} (hw : w < 2) : tC.2.2.1 (36 + 113 * w) 8 = 36 + 113 * w + 4 := by rcases (by omega : w = 0 ∨ w = 1) with rfl | rfl <;> rfl
theorem ta_yd4 {w : Nat} (hw : w < 2) : tC.1 (36 + 113 * w + 4) = 13 := by rcases (by omega : w = 0 ∨ w = 1) with rfl | rfl <;> rfl
theorem tl_yd4 {w : Nat} (hw : w < 2) : tC.2.1 (36 + 113 * w + 4) = 6 := by rcases (by omega : w = 0 ∨ w = 1) with rfl | rfl <;> rfl
theorem tk_yc {b : Nat} (hb : b < 2) : tC.1 (2 + 17 * b) = 9 := by rcases (by omega : b = 0 ∨ b = 1) with rfl | rfl <;> rfl
theorem tr_yc0 {b : Nat} (hb : b < 2) : tC.2.2.1 (2 + 17 * b) 0 = 2 + 17 * b + 1 := by rcases (by omega : b = 0 ∨ b = 1) with rfl | rfl <;> rfl
theorem ta_yc1 {b : Nat} (hb : b < 2) : tC.1 (2 + 17 * b + 1) = 13 := by rcases (by omega : b = 0 ∨ b = 1) with rfl | rfl <;> rfl
theorem tl_yc1 {b : Nat} (hb : b < 2) : tC.2.1 (2 + 17 * b + 1) = 32 := by rcases (by omega : b = 0 ∨ b = 1) with rfl | rfl <;> rfl
theorem tr_yc1 {b : Nat} (hb : b < 2) : tC.2.2.1 (2 + 17 * b) 1 = 2 + 17 * b + 2 := by rcases (by omega : b = 0 ∨ b = 1) with rfl | rfl <;> rfl
theorem ta_yc2 {b : Nat} (hb : b < 2) : tC.1 (2 + 17 * b + 2) = 13 := by rcases (by omega : b = 0 ∨ b = 1) with rfl | rfl <;> rfl
theorem tl_yc2 {b : Nat} (hb : b < 2) : tC.2.1 (2 + 17 * b + 2) = 4 := by rcases (by omega : b = 0 ∨ b = 1) with rfl | rfl <;> rfl
theorem tr_yc2 {b : Nat} (hb : b < 2) : tC.2.2.1 (2 + 17 * b) 2 = 2 + 17 * b + 3 := by rcases (by omega : b = 0 ∨ b = 1) with rfl | rfl <;> rfl
theorem ta_yc3 {b : Nat} (hb : b < 2) : tC.1 (2 + 17 * b + 3) = 13 := by rcases (by omega : b = 0 ∨ b = 1) with rfl | rfl <;> rfl
theorem tl_yc3 {b : Nat} (hb : b < 2) : tC.2.1 (2 + 17 * b + 3) = 6 := by rcases (by omega : b = 0 ∨ b = 1) with rfl | rfl <;> rfl
theorem tr_yc3 {b : Nat} (hb : b < 2) : tC.2.2.1 (2 + 17 * b) 3 = 2 + 17 * b + 4 := by rcases (by omega : b = 0 ∨ b = 1) with rfl | rfl <;> rfl
theorem ta_yc4 {b : Nat} (hb : b < 2) : tC.1 (2 + 17 * b + 4) = 13 := by rcases (by omega : b = 0 ∨ b = 1) with rfl | rfl <;> rfl
theorem tl_yc4 {b : Nat} (hb : b < 2) : tC.2.1 (2 + 17 * b + 4) = 6 := by rcases (by omega : b = 0 ∨ b = 1) with rfl | rfl <;> rfl
theorem tr_yc4 {b : Nat} (hb : b < 2) : tC.2.2.1 (2 + 17 * b) 4 = 2 + 17 * b + 5 := by rcases (by omega : b = 0 ∨ b = 1) with rfl | rfl <;> rfl
theorem ta_yc5 {b : Nat} (hb : b < 2) : tC.1 (2 + 17 * b + 5) = 13 := by rcases (by omega : b = 0 ∨ b = 1) with rfl | rfl <;> rfl
theorem tl_yc5 {b : Nat} (hb : b < 2) : tC.2.1 (2 + 17 * b + 5) = 8 := by rcases (by omega : b = 0 ∨ b = 1) with rfl | rfl <;> rfl
theorem tr_yc5 {b : Nat} (hb : b < 2) : tC.2.2.1 (2 + 17 * b) 5 = 2 + 17 * b + 6 := by rcases (by omega : b = 0 ∨ b = 1) with rfl | rfl <;> rfl
theorem ta_yc6 {b : Nat} (hb : b < 2) : tC.1 (2 + 17 * b + 6) = 13 := by rcases (by omega : b = 0 ∨ b = 1) with rfl | rfl <;> rfl
theorem tl_yc6 {b : Nat} (hb : b < 2) : tC.2.1 (2 + 17 * b + 6) = 8 := by rcases (by omega : b = 0 ∨ b = 1) with rfl | rfl <;> rfl
theorem tr_yc6 {b : Nat} (hb : b < 2) : tC.2.2.1 (2 + 17 * b) 6 = 2 + 17 * b + 7 := by rcases (by omega : b = 0 ∨ b = 1) with rfl | rfl <;> rfl
theorem ta_yc7 {b : Nat} (hb : b < 2) : tC.1 (2 + 17 * b + 7) = 13 := by rcases (by omega : b = 0 ∨ b = 1) with rfl | rfl <;> rfl
theorem tl_yc7 {b : Nat} (hb : b < 2) : tC.2.1 (2 + 17 * b + 7) = 48 := by rcases (by omega : b = 0 ∨ b = 1) with rfl | rfl <;> rfl
theorem tr_yc7 {b : Nat} (hb : b < 2) : tC.2.2.1 (2 + 17 * b) 7 = 2 + 17 * b + 8 := by rcases (by omega : b = 0 ∨ b = 1) with rfl | rfl <;> rfl
theorem ta_yc8 {b : Nat} (hb : b < 2) : tC.1 (2 + 17 * b + 8) = 13 := by rcases (by omega : b = 0 ∨ b = 1) with rfl | rfl <;> rfl
theorem tl_yc8 {b : Nat} (hb : b < 2) : tC.2.1 (2 + 17 * b + 8) = 6 := by rcases (by omega : b = 0 ∨ b = 1) with rfl | rfl <;> rfl
theorem tr_yc8 {b : Nat} (hb : b < 2) : tC.2.2.1 (2 + 17 * b) 8 = 2 + 17 * b + 9 := by rcases (by omega : b = 0 ∨ b = 1) with rfl | rfl <;> rfl
theorem ta_yc9 {b : Nat} (hb : b < 2) : tC.1 (2 + 17 * b + 9) = 13 := by rcases (by omega : b = 0 ∨ b = 1) with rfl | rfl <;> rfl
theorem tl_yc9 {b : Nat} (hb : b < 2) : tC.2.1 (2 + 17 * b + 9) = 6 := by rcases (by omega : b = 0 ∨ b = 1) with rfl | rfl <;> rfl
theorem tr_yc9 {b : Nat} (hb : b < 2) : tC.2.2.1 (2 + 17 * b) 9 = 2 + 17 * b + 10 := by rcases (by omega : b = 0 ∨ b = 1) with rfl | rfl <;> rfl
theorem ta_yc10 {b : Nat} (hb : b < 2) : tC.1 (2 + 17 * b + 10) = 13 := by rcases (by omega : b = 0 ∨ b = 1) with rfl | rfl <;> rfl
theorem tl_yc10 {b : Nat} (hb : b < 2) : tC.2.1 (2 + 17 * b + 10) = 24 := by rcases (by omega : b = 0 ∨ b = 1) with rfl | rfl <;> rfl
theorem tr_yc10 {b : Nat} (hb : b < 2) : tC.2.2.1 (2 + 17 * b) 10 = 2 + 17 * b + 11 := by rcases (by omega : b = 0 ∨ b = 1) with rfl | rfl <;> rfl
theorem ta_yc11 {b : Nat} (hb : b < 2) : tC.1 (2 + 17 * b + 11) = 13 := by rcases (by omega : b = 0 ∨ b = 1) with rfl | rfl <;> rfl
theorem tl_yc11 {b : Nat} (hb : b < 2) : tC.2.1 (2 + 17 * b + 11) = 24 := by rcases (by omega : b = 0 ∨ b = 1) with rfl | rfl <;> rfl
theorem tr_yc11 {b : Nat} (hb : b < 2) : tC.2.2.1 (2 + 17 * b) 11 = 2 + 17 * b + 12 := by rcases (by omega : b = 0 ∨ b = 1) with rfl | rfl <;> rfl
theorem ta_yc12 {b : Nat} (hb : b < 2) : tC.1 (2 + 17 * b + 12) = 13 := by rcases (by omega : b = 0 ∨ b = 1) with rfl | rfl <;> rfl
theorem tl_yc12 {b : Nat} (hb : b < 2) : tC.2.1 (2 + 17 * b + 12) = 36 := by rcases (by omega : b = 0 ∨ b = 1) with rfl | rfl <;> rfl
theorem tr_yc12 {b : Nat} (hb : b < 2) : tC.2.2.1 (2 + 17 * b) 12 = 2 + 17 * b + 13 := by rcases (by omega : b = 0 ∨ b = 1) with rfl | rfl <;> rfl
theorem ta_yc13 {b : Nat} (hb : b < 2) : tC.1 (2 + 17 * b + 13) = 13 := by rcases (by omega : b = 0 ∨ b = 1) with rfl | rfl <;> rfl
theorem tl_yc13 {b : Nat} (hb : b < 2) : tC.2.1 (2 + 17 * b + 13) = 6 := by rcases (by omega : b = 0 ∨ b = 1) with rfl | rfl <;> rfl
theorem tr_yc13 {b : Nat} (hb : b < 2) : tC.2.2.1 (2 + 17 * b) 13 = 2 + 17 * b + 14 := by rcases (by omega : b = 0 ∨ b = 1) with rfl | rfl <;> rfl
theorem tk_co {b : Nat} (hb : b < 2) : tC.1 (2 + 17 * b + 14) = 1 := by rcases (by omega : b = 0 ∨ b = 1) with rfl | rfl <;> rfl
theorem tr_co0 {b : Nat} (hb : b < 2) : tC.2.2.1 (2 + 17 * b + 14) 0 = 2 + 17 * b + 15 := by rcases (by omega : b = 0 ∨ b = 1) with rfl | rfl <;> rfl
theorem ta_yc15 {b : Nat} (hb : b < 2) : tC.1 (2 + 17 * b + 15) = 13 := by rcases (by omega : b = 0 ∨ b = 1) with rfl | rfl <;> rfl
theorem tl_yc15 {b : Nat} (hb : b < 2) : tC.2.1 (2 + 17 * b + 15) = 1600 := by rcases (by omega : b = 0 ∨ b = 1) with rfl | rfl <;> rfl
theorem tr_co1 {b : Nat} (hb : b < 2) : tC.2.2.1 (2 + 17 * b + 14) 1 = 2 + 17 * b + 16 := by rcases (by omega : b = 0 ∨ b = 1) with rfl | rfl <;> rfl
theorem ta_yc16 {b : Nat} (hb : b < 2) : tC.1 (2 + 17 * b + 16) = 13 := by rcases (by omega : b = 0 ∨ b = 1) with rfl | rfl <;> rfl
theorem tl_yc16 {b : Nat} (hb : b < 2) : tC.2.1 (2 + 17 * b + 16) = 64 := by rcases (by omega : b = 0 ∨ b = 1) with rfl | rfl <;> rfl
theorem tk_0 : tC.1 0 = 11 := rfl
theorem tr_0_0 : tC.2.2.1 0 0 = 1 := rfl
theorem tr_0_4 : tC.2.2.1 0 4 = 36 := rfl
theorem tr_0_5 : tC.2.2.1 0 5 = 41 := rfl
theorem tr_0_6 : tC.2.2.1 0 6 = 144 := rfl
theorem tr_0_7 : tC.2.2.1 0 7 = 148 := rfl
theorem tr_0_8 : tC.2.2.1 0 8 = 160 := rfl
theorem tr_0_9 : tC.2.2.1 0 9 = 162 := rfl
theorem tr_0_10 : tC.2.2.1 0 10 = 164 := rfl
theorem tr_0_11 : tC.2.2.1 0 11 = 169 := rfl
theorem tr_0_12 : tC.2.2.1 0 12 = 176 := rfl
theorem tr_0_14 : tC.2.2.1 0 14 = 177 := rfl
theorem tk_1 : tC.1 1 = 13 := rfl
theorem tl_1 : tC.2.1 1 = 1600 := rfl
theorem tk_36 : tC.1 36 = 8 := rfl
theorem tr_36_5 : tC.2.2.1 36 5 = 37 := rfl
theorem tr_36_6 : tC.2.2.1 36 6 = 38 := rfl
theorem tr_36_7 : tC.2.2.1 36 7 = 39 := rfl
theorem tr_36_8 : tC.2.2.1 36 8 = 40 := rfl
theorem tk_41 : tC.1 41 = 3 := rfl
theorem tr_41_0 : tC.2.2.1 41 0 = 42 := rfl
theorem tr_41_1 : tC.2.2.1 41 1 = 43 := rfl
theorem tk_42 : tC.1 42 = 16 := rfl
theorem tl_42 : tC.2.1 42 = 20 := rfl
theorem tk_43 : tC.1 43 = 13 := rfl
theorem tl_43 : tC.2.1 43 = 240 := rfl
theorem tk_144 : tC.1 144 = 6 := rfl
theorem tr_144_0 : tC.2.2.1 144 0 = 145 := rfl
theorem tr_144_1 : tC.2.2.1 144 1 = 146 := rfl
theorem tr_144_2 : tC.2.2.1 144 2 = 147 := rfl
theorem tr_144_3 : tC.2.2.1 144 3 = 41 := rfl
theorem tk_148 : tC.1 148 = 0 := rfl
theorem tr_148_0 : tC.2.2.1 148 0 = 36 := rfl
theorem tr_148_1 : tC.2.2.1 148 1 = 149 := rfl
theorem tr_148_2 : tC.2.2.1 148 2 = 156 := rfl
theorem tr_148_4 : tC.2.2.1 148 4 = 154 := rfl
theorem tr_148_5 : tC.2.2.1 148 5 = 155 := rfl
theorem tk_149 : tC.1 149 = 8 := rfl
theorem tr_149_5 : tC.2.2.1 149 5 = 150 := rfl
theorem tr_149_6 : tC.2.2.1 149 6 = 151 := rfl
theorem tr_149_7 : tC.2.2.1 149 7 = 152 := rfl
theorem tr_149_8 : tC.2.2.1 149 8 = 153 := rfl
theorem tk_154 : tC.1 154 = 13 := rfl
theorem tl_154 : tC.2.1 154 = 6 := rfl
theorem tk_155 : tC.1 155 = 13 := rfl
theorem tl_155 : tC.2.1 155 = 6 := rfl
theorem tk_156 : tC.1 156 = 6 := rfl
theorem tr_156_0 : tC.2.2.1 156 0 = 157 := rfl
theorem tr_156_1 : tC.2.2.1 156 1 = 158 := rfl
theorem tr_156_2 : tC.2.2.1 156 2 = 159 := rfl
theorem tr_156_3 : tC.2.2.1 156 3 = 41 := rfl
theorem tk_160 : tC.1 160 = 7 := rfl
theorem tr_160_0 : tC.2.2.1 160 0 = 1 := rfl
theorem tr_160_1 : tC.2.2.1 160 1 = 161 := rfl
theorem tk_161 : tC.1 161 = 13 := rfl
theorem tl_161 : tC.2.1 161 = 32 := rfl
theorem tk_162 : tC.1 162 = 10 := rfl
theorem tr_162_0 : tC.2.2.1 162 0 = 160 := rfl
theorem tr_162_1 : tC.2.2.1 162 1 = 163 := rfl
theorem tk_163 : tC.1 163 = 5 := rfl
theorem tr_163_0 : tC.2.2.1 163 0 = 160 := rfl
theorem tk_164 : tC.1 164 = 2 := rfl
theorem tr_164_0 : tC.2.2.1 164 0 = 165 := rfl
theorem tr_164_1 : tC.2.2.1 164 1 = 166 := rfl
theorem tr_164_2 : tC.2.2.1 164 2 = 167 := rfl
theorem tr_164_3 : tC.2.2.1 164 3 = 168 := rfl
theorem tk_165 : tC.1 165 = 13 := rfl
theorem tl_165 : tC.2.1 165 = 6 := rfl
theorem tk_166 : tC.1 166 = 13 := rfl
theorem tl_166 : tC.2.1 166 = 6 := rfl
theorem tk_167 : tC.1 167 = 13 := rfl
theorem tl_167 : tC.2.1 167 = 6 := rfl
theorem tk_168 : tC.1 168 = 13 := rfl
theorem tl_168 : tC.2.1 168 = 6 := rfl
theorem tk_169 : tC.1 169 = 4 := rfl
theorem tr_169_0 : tC.2.2.1 169 0 = 170 := rfl
theorem tr_169_2 : tC.2.2.1 169 2 = 171 := rfl
theorem tk_170 : tC.1 170 = 13 := rfl
theorem tl_170 : tC.2.1 170 = 95 := rfl
theorem tk_171 : tC.1 171 = 8 := rfl
theorem tr_171_5 : tC.2.2.1 171 5 = 172 := rfl
theorem tr_171_6 : tC.2.2.1 171 6 = 173 := rfl
theorem tr_171_7 : tC.2.2.1 171 7 = 174 := rfl
theorem tr_171_8 : tC.2.2.1 171 8 = 175 := rfl
theorem tk_176 : tC.1 176 = 13 := rfl
theorem tl_176 : tC.2.1 176 = 61 := rfl
theorem tk_177 : tC.1 177 = 13 := rfl
theorem tl_177 : tC.2.1 177 = 6 := rfl
theorem tk_37 : tC.1 37 = 13 := rfl
theorem tl_37 : tC.2.1 37 = 8 := rfl
theorem tk_38 : tC.1 38 = 13 := rfl
theorem tl_38 : tC.2.1 38 = 48 := rfl
theorem tk_39 : tC.1 39 = 13 := rfl
theorem tl_39 : tC.2.1 39 = 6 := rfl
theorem tk_40 : tC.1 40 = 13 := rfl
theorem tl_40 : tC.2.1 40 = 6 := rfl
theorem tk_145 : tC.1 145 = 13 := rfl
theorem tl_145 : tC.2.1 145 = 6 := rfl
theorem tk_146 : tC.1 146 = 13 := rfl
theorem tl_146 : tC.2.1 146 = 6 := rfl
theorem tk_147 : tC.1 147 = 13 := rfl
theorem tl_147 : tC.2.1 147 = 8 := rfl
theorem tk_150 : tC.1 150 = 13 := rfl
theorem tl_150 : tC.2.1 150 = 8 := rfl
theorem tk_151 : tC.1 151 = 13 := rfl
theorem tl_151 : tC.2.1 151 = 48 := rfl
theorem tk_152 : tC.1 152 = 13 := rfl
theorem tl_152 : tC.2.1 152 = 6 := rfl
theorem tk_153 : tC.1 153 = 13 := rfl
theorem tl_153 : tC.2.1 153 = 6 := rfl
theorem tk_157 : tC.1 157 = 13 := rfl
theorem tl_157 : tC.2.1 157 = 6 := rfl
theorem tk_158 : tC.1 158 = 13 := rfl
theorem tl_158 : tC.2.1 158 = 6 := rfl
theorem tk_159 : tC.1 159 = 13 := rfl
theorem tl_159 : tC.2.1 159 = 8 := rfl
theorem tk_172 : tC.1 172 = 13 := rfl
theorem tl_172 : tC.2.1 172 = 8 := rfl
theorem tk_173 : tC.1 173 = 13 := rfl
theorem tl_173 : tC.2.1 173 = 48 := rfl
theorem tk_174 : tC.1 174 = 13 := rfl
theorem tl_174 : tC.2.1 174 = 6 := rfl
theorem tk_175 : tC.1 175 = 13 := rfl
theorem tl_175 : tC.2.1 175 = 6 := rfl
theorem mr_0 : tM.2.2.1 0 0 = 1 := rfl
theorem mr_14 : tM.2.2.1 0 14 = 2 := rfl
theorem mr_15 : tM.2.2.1 0 15 = 3 := rfl
theorem mr_16 : tM.2.2.1 0 16 = 4 := rfl
theorem mr_17 : tM.2.2.1 0 17 = 5 := rfl
theorem mr_18 : tM.2.2.1 0 18 = 6 := rfl
theorem mr_19 : tM.2.2.1 0 19 = 7 := rfl
theorem mr_20 : tM.2.2.1 0 20 = 8 := rfl
theorem mr_21 : tM.2.2.1 0 21 = 9 := rfl
theorem mr_22 : tM.2.2.1 0 22 = 10 := rfl
theorem mr_23 : tM.2.2.1 0 23 = 11 := rfl
theorem mr_24 : tM.2.2.1 0 24 = 12 := rfl
theorem mr_25 : tM.2.2.1 0 25 = 13 := rfl
theorem mr_26 : tM.2.2.1 0 26 = 14 := rfl
theorem mr_27 : tM.2.2.1 0 27 = 15 := rfl
theorem mr_28 : tM.2.2.1 0 28 = 16 := rfl
theorem mr_29 : tM.2.2.1 0 29 = 17 := rfl
theorem mr_30 : tM.2.2.1 0 30 = 18 := rfl
theorem mr_31 : tM.2.2.1 0 31 = 19 := rfl
theorem mr_32 : tM.2.2.1 0 32 = 20 := rfl
theorem mr_33 : tM.2.2.1 0 33 = 21 := rfl
theorem mr_34 : tM.2.2.1 0 34 = 22 := rfl
theorem mr_35 : tM.2.2.1 0 35 = 23 := rfl
theorem mr_36 : tM.2.2.1 0 36 = 24 := rfl
theorem mr_37 : tM.2.2.1 0 37 = 25 := rfl
theorem mr_38 : tM.2.2.1 0 38 = 26 := rfl
theorem mr_42 : tM.2.2.1 0 42 = 27 := rfl
theorem mr_43 : tM.2.2.1 0 43 = 28 := rfl
theorem mr_44 : tM.2.2.1 0 44 = 29 := rfl
theorem mr_45 : tM.2.2.1 0 45 = 30 := rfl
theorem mr_46 : tM.2.2.1 0 46 = 31 := rfl
theorem mr_49 : tM.2.2.1 0 49 = 32 := rfl
theorem mr_53 : tM.2.2.1 0 53 = 33 := rfl
theorem mr_54 : tM.2.2.1 0 54 = 34 := rfl
theorem mr_55 : tM.2.2.1 0 55 = 35 := rfl
theorem mr_56 : tM.2.2.1 0 56 = 36 := rfl
theorem mr_57 : tM.2.2.1 0 57 = 37 := rfl
theorem mr_58 : tM.2.2.1 0 58 = 38 := rfl
theorem mr_59 : tM.2.2.1 0 59 = 39 := rfl
theorem mr_60 : tM.2.2.1 0 60 = 40 := rfl
theorem mr_61 : tM.2.2.1 0 61 = 41 := rfl
theorem mr_62 : tM.2.2.1 0 62 = 42 := rfl
theorem mr_63 : tM.2.2.1 0 63 = 43 := rfl
theorem mr_67 : tM.2.2.1 0 67 = 44 := rfl
theorem mr_68 : tM.2.2.1 0 68 = 45 := rfl
theorem mr_72 : tM.2.2.1 0 72 = 46 := rfl
theorem mr_76 : tM.2.2.1 0 76 = 47 := rfl
theorem mr_77 : tM.2.2.1 0 77 = 48 := rfl
theorem mr_78 : tM.2.2.1 0 78 = 49 := rfl
theorem mr_79 : tM.2.2.1 0 79 = 50 := rfl
theorem mr_80 : tM.2.2.1 0 80 = 51 := rfl
theorem mr_81 : tM.2.2.1 0 81 = 52 := rfl
theorem mr_82 : tM.2.2.1 0 82 = 53 := rfl
theorem mr_84 : tM.2.2.1 0 84 = 54 := rfl
theorem mr_85 : tM.2.2.1 0 85 = 55 := rfl
theorem mk_0 : tM.1 0 = 12 := rfl
theorem mk_1 : tM.1 1 = 13 := rfl
theorem ml_1 : tM.2.1 1 = 1800 := rfl
theorem mk_2 : tM.1 2 = 13 := rfl
theorem ml_2 : tM.2.1 2 = 2 := rfl
theorem mk_3 : tM.1 3 = 13 := rfl
theorem ml_3 : tM.2.1 3 = 12 := rfl
theorem mk_4 : tM.1 4 = 13 := rfl
theorem ml_4 : tM.2.1 4 = 12 := rfl
theorem mk_5 : tM.1 5 = 13 := rfl
theorem ml_5 : tM.2.1 5 = 2 := rfl
theorem mk_6 : tM.1 6 = 13 := rfl
theorem ml_6 : tM.2.1 6 = 16 := rfl
theorem mk_7 : tM.1 7 = 13 := rfl
theorem ml_7 : tM.2.1 7 = 16 := rfl
theorem mk_8 : tM.1 8 = 13 := rfl
theorem ml_8 : tM.2.1 8 = 2 := rfl
theorem mk_9 : tM.1 9 = 13 := rfl
theorem ml_9 : tM.2.1 9 = 96 := rfl
theorem mk_10 : tM.1 10 = 13 := rfl
theorem ml_10 : tM.2.1 10 = 2 := rfl
theorem mk_11 : tM.1 11 = 13 := rfl
theorem ml_11 : tM.2.1 11 = 12 := rfl
theorem mk_12 : tM.1 12 = 13 := rfl
theorem ml_12 : tM.2.1 12 = 12 := rfl
theorem mk_13 : tM.1 13 = 13 := rfl
theorem ml_13 : tM.2.1 13 = 48 := rfl
theorem mk_14 : tM.1 14 = 13 := rfl
theorem ml_14 : tM.2.1 14 = 48 := rfl
theorem mk_15 : tM.1 15 = 13 := rfl
theorem ml_15 : tM.2.1 15 = 72 := rfl
theorem mk_16 : tM.1 16 = 13 := rfl
theorem ml_16 : tM.2.1 16 = 2 := rfl
theorem mk_17 : tM.1 17 = 13 := rfl
theorem ml_17 : tM.2.1 17 = 2 := rfl
theorem mk_18 : tM.1 18 = 13 := rfl
theorem ml_18 : tM.2.1 18 = 6 := rfl
theorem mk_19 : tM.1 19 = 13 := rfl
theorem ml_19 : tM.2.1 19 = 4 := rfl
theorem mk_20 : tM.1 20 = 13 := rfl
theorem ml_20 : tM.2.1 20 = 4 := rfl
theorem mk_21 : tM.1 21 = 13 := rfl
theorem ml_21 : tM.2.1 21 = 3200 := rfl
theorem mk_22 : tM.1 22 = 13 := rfl
theorem ml_22 : tM.2.1 22 = 3200 := rfl
theorem mk_23 : tM.1 23 = 14 := rfl
theorem ml_23 : tM.2.1 23 = 12 := rfl
theorem mk_24 : tM.1 24 = 14 := rfl
theorem ml_24 : tM.2.1 24 = 16 := rfl
theorem mk_25 : tM.1 25 = 14 := rfl
theorem ml_25 : tM.2.1 25 = 12 := rfl
theorem mk_26 : tM.1 26 = 14 := rfl
theorem ml_26 : tM.2.1 26 = 12 := rfl
theorem mk_27 : tM.1 27 = 13 := rfl
theorem ml_27 : tM.2.1 27 = 20 := rfl
theorem mk_28 : tM.1 28 = 13 := rfl
theorem ml_28 : tM.2.1 28 = 20 := rfl
theorem mk_29 : tM.1 29 = 15 := rfl
theorem ml_29 : tM.2.1 29 = 20 := rfl
theorem mk_30 : tM.1 30 = 13 := rfl
theorem ml_30 : tM.2.1 30 = 20 := rfl
theorem mk_31 : tM.1 31 = 13 := rfl
theorem ml_31 : tM.2.1 31 = 20 := rfl
theorem mk_32 : tM.1 32 = 13 := rfl
theorem ml_32 : tM.2.1 32 = 500 := rfl
theorem mk_33 : tM.1 33 = 13 := rfl
theorem ml_33 : tM.2.1 33 = 6 := rfl
theorem mk_34 : tM.1 34 = 13 := rfl
theorem ml_34 : tM.2.1 34 = 22 := rfl
theorem mk_35 : tM.1 35 = 13 := rfl
theorem ml_35 : tM.2.1 35 = 22 := rfl
theorem mk_36 : tM.1 36 = 13 := rfl
theorem ml_36 : tM.2.1 36 = 176 := rfl
theorem mk_37 : tM.1 37 = 13 := rfl
theorem ml_37 : tM.2.1 37 = 22 := rfl
theorem mk_38 : tM.1 38 = 13 := rfl
theorem ml_38 : tM.2.1 38 = 22 := rfl
theorem mk_39 : tM.1 39 = 13 := rfl
theorem ml_39 : tM.2.1 39 = 1056 := rfl
theorem mk_40 : tM.1 40 = 13 := rfl
theorem ml_40 : tM.2.1 40 = 132 := rfl
theorem mk_41 : tM.1 41 = 13 := rfl
theorem ml_41 : tM.2.1 41 = 132 := rfl
theorem mk_42 : tM.1 42 = 13 := rfl
theorem ml_42 : tM.2.1 42 = 22 := rfl
theorem mk_43 : tM.1 43 = 13 := rfl
theorem ml_43 : tM.2.1 43 = 5280 := rfl
theorem mk_44 : tM.1 44 = 14 := rfl
theorem ml_44 : tM.2.1 44 = 500 := rfl
theorem mk_45 : tM.1 45 = 13 := rfl
theorem ml_45 : tM.2.1 45 = 12 := rfl
theorem mk_46 : tM.1 46 = 13 := rfl
theorem ml_46 : tM.2.1 46 = 6 := rfl
theorem mk_47 : tM.1 47 = 13 := rfl
theorem ml_47 : tM.2.1 47 = 6 := rfl
theorem mk_48 : tM.1 48 = 13 := rfl
theorem ml_48 : tM.2.1 48 = 6 := rfl
theorem mk_49 : tM.1 49 = 13 := rfl
theorem ml_49 : tM.2.1 49 = 6 := rfl
theorem mk_50 : tM.1 50 = 13 := rfl
theorem ml_50 : tM.2.1 50 = 6 := rfl
theorem mk_51 : tM.1 51 = 13 := rfl
theorem ml_51 : tM.2.1 51 = 6 := rfl
theorem mk_52 : tM.1 52 = 13 := rfl
theorem ml_52 : tM.2.1 52 = 6 := rfl
theorem mk_53 : tM.1 53 = 13 := rfl
theorem ml_53 : tM.2.1 53 = 6 := rfl
theorem mk_54 : tM.1 54 = 13 := rfl
theorem ml_54 : tM.2.1 54 = 61 := rfl
theorem mk_55 : tM.1 55 = 13 := rfl
theorem ml_55 : tM.2.1 55 = 110 := rfl
