/-! ===== statements, as both have them ===== -/
def zB {α β : Type} (r : Sum (Nat × Nat) α) (g : α → Sum (Nat × Nat) β) : Sum (Nat × Nat) β := match r with
  | .inl x => .inl x
  | .inr a => g a
abbrev isNm (f : Nat → Nat) (L e : Nat) : Prop := kW f L e = none ∧ kT f L e = 1 ∧ s_ow (kV f L e) = none
/-- which one of a sort has a name -/
def s_fdL (Y : Nat → Nat → Nat) (s w : Nat) : Nat → Nat → Option Nat
  | 0, _ => none
  | k + 1, i => if Y 1 (8 * s + i) = w then some i else s_fdL Y s w k (i + 1)
def s_fd (Y : Nat → Nat → Nat) (s w : Nat) : Option Nat := s_fdL Y s w (Y 2 s) 0
def s_gvL (Y : Nat → Nat → Nat) (w : Nat) : Nat → Nat → Bool
  | 0, _ => false
  | k + 1, s => (s_fd Y s w).isSome || s_gvL Y w k (s + 1)
def s_gv (Y : Nat → Nat → Nat) (w : Nat) : Bool := s_gvL Y w 4 0
def tW (f : Nat → Nat) (L k e : Nat) : Sum (Nat × Nat) Nat := if iw f L e k then .inr (kE f L e) else .inl (1, kP f L e)
def tN (f : Nat → Nat) (L lo hi e : Nat) : Sum (Nat × Nat) (Nat × Nat) := if iN f L e then (if lo ≤ kV f L e ∧ kV f L e ≤ hi then .inr (kV f L e, kE f L e) else .inl (4, kS f L e)) else .inl (1, kP f L e)
def tA (f : Nat → Nat) (L : Nat) (Y : Nat → Nat → Nat) (s : Nat) (u : Option Nat) (e : Nat) : Sum (Nat × Nat) (Nat × Nat) :=
  if isNm f L e then (match s_fd Y s (kV f L e) with
    | none => .inl (3, kS f L e)
    | some i => if u = some i then .inl (3, kS f L e) else .inr (i, kE f L e)) else .inl (1, kP f L e)
def tF (f : Nat → Nat) (L : Nat) (Y : Nat → Nat → Nat) (e : Nat) : Sum (Nat × Nat) (Nat × Nat) :=
  if isNm f L e then (if s_gv Y (kV f L e) = true then .inl (2, kS f L e) else .inr (kV f L e, kE f L e)) else .inl (1, kP f L e)
def tO (f : Nat → Nat) (L : Nat) (full : Prop) [Decidable full] (e : Nat) : Sum (Nat × Nat) Nat := if full then .inl (6, kS f L e) else .inr (kE f L e)
/-- a name is given -/
def s_gi (Y : Nat → Nat → Nat) (s w : Nat) : Nat → Nat → Nat := dU (dU Y 1 (8 * s + Y 2 s) w) 2 s (Y 2 s + 1)
def s_lr (d : Nat) : Nat := if 2 < d + 1 then d + 1 else 2
abbrev YS := Sum (Nat × Nat) (Nat × (Nat → Nat → Nat))
def zKind (f : Nat → Nat) (L : Nat) (Y : Nat → Nat → Nat) (e : Nat) : YS :=
  zB (tO f L (6 ≤ Y 2 0) e) fun e => zB (tF f L Y e) fun w => zB (tW f L 1 w.2) fun e => zB (tN f L 0 9999 e) fun d => zB (tW f L 2 d.2) fun e => zB (tN f L (s_lr d.1) 30 e) fun r => .inr (r.2, dU (dU (s_gi Y 0 w.1) 3 (Y 2 0) d.1) 4 (Y 2 0) r.1)
def zTool (f : Nat → Nat) (L : Nat) (Y : Nat → Nat → Nat) (e : Nat) : YS :=
  zB (tO f L (8 ≤ Y 2 1) e) fun e => zB (tF f L Y e) fun w => zB (tW f L 4 w.2) fun e => zB (tA f L Y 0 none e) fun k => zB (tW f L 5 k.2) fun e => zB (tN f L 0 99 e) fun r => .inr (r.2, dU (dU (s_gi Y 1 w.1) 5 (Y 2 1) k.1) 6 (Y 2 1) r.1)
def zHand (f : Nat → Nat) (L : Nat) (Y : Nat → Nat → Nat) (e : Nat) : YS :=
  zB (tO f L (6 ≤ Y 2 2) e) fun e => zB (tF f L Y e) fun w => .inr (w.2, s_gi Y 2 w.1)
def zKnows (f : Nat → Nat) (L : Nat) (Y : Nat → Nat → Nat) (e : Nat) : YS :=
  zB (tA f L Y 2 none (kE f L e)) fun h => zB (tA f L Y 1 none h.2) fun t => zB (tN f L 0 9 t.2) fun r => .inr (r.2, dU Y 7 (8 * h.1 + t.1) r.1)
/-- the steps of job j, from step st on -/
def zSteps (f : Nat → Nat) (L j : Nat) : Nat → Nat → (Nat → Nat → Nat) → Nat → YS
  | 0, _, _, e => .inl (6, kS f L e)
  | k + 1, st, Y, e => zB (tA f L Y 0 none e) fun a => zB (tN f L 1 9 a.2) fun h =>
      if kT f L h.2 = 1 then zSteps f L j k (st + 1) (dU (dU (dU Y 10 (4 * j + st) a.1) 11 (4 * j + st) h.1) 9 j (st + 1)) h.2
      else .inr (h.2, dU (dU (dU Y 10 (4 * j + st) a.1) 11 (4 * j + st) h.1) 9 j (st + 1))
def zJob (f : Nat → Nat) (L : Nat) (Y : Nat → Nat → Nat) (e : Nat) : YS :=
  zB (tO f L (6 ≤ Y 2 3) e) fun e => zB (tF f L Y e) fun w => zB (tW f L 9 w.2) fun e => zB (tN f L 0 999 e) fun d => zB (tW f L 10 d.2) fun e => zSteps f L (Y 2 3) 4 0 (dU (s_gi Y 3 w.1) 8 (Y 2 3) d.1) e
def zServes (f : Nat → Nat) (L : Nat) (Y : Nat → Nat → Nat) (e : Nat) : YS :=
  zB (tA f L Y 0 none (kE f L e)) fun a => zB (tW f L 12 a.2) fun e => zB (tA f L Y 0 (some a.1) e) fun c => zB (tW f L 13 c.2) fun e => zB (tN f L 1 99 e) fun r => .inr (r.2, dU Y 12 (6 * a.1 + c.1) r.1)
def zSet (f : Nat → Nat) (L : Nat) (Y : Nat → Nat → Nat) (lo c e : Nat) : YS :=
  zB (tN f L lo 100 (kE f L e)) fun r => .inr (r.2, dU Y 0 c r.1)
def zSmith (f : Nat → Nat) (L : Nat) (Y : Nat → Nat → Nat) (e : Nat) : YS :=
  zB (tN f L 0 9999 (kE f L e)) fun d => zB (tW f L 2 d.2) fun e => zB (tN f L (s_lr d.1) 30 e) fun r => .inr (r.2, dU (dU Y 0 15 d.1) 0 16 r.1)
abbrev ZS := Sum (Nat × Nat) (Nat × (Nat → Nat → Nat) × List (Nat × Nat))
def zPl (r : YS) (cc : List (Nat × Nat)) : ZS := zB r fun x => .inr (x.1, x.2, cc)
def zMay (f : Nat → Nat) (L : Nat) (Y : Nat → Nat → Nat) (cc : List (Nat × Nat)) (e : Nat) : ZS :=
  zB (tO f L (Y 14 3 < Y 14 4) e) fun e => zB (pR f L 1 80 0 0 0 e) fun x => .inr (x.1, dU (dU (dU Y 14 3 cc.length) 14 2 (cc ++ x.2).length) 14 4 (cc ++ x.2).length, cc ++ x.2)
def zWears (f : Nat → Nat) (L : Nat) (Y : Nat → Nat → Nat) (cc : List (Nat × Nat)) (e : Nat) : ZS :=
  zB (tO f L (Y 14 5 < Y 14 6) e) fun e => zB (pR f L 0 80 4 0 0 e) fun x => .inr (x.1, dU (dU (dU Y 14 5 cc.length) 14 2 (cc ++ x.2).length) 14 6 (cc ++ x.2).length, cc ++ x.2)
def zS (f : Nat → Nat) (L : Nat) (Y : Nat → Nat → Nat) (cc : List (Nat × Nat)) (e : Nat) : ZS :=
  if iw f L e 0 then zPl (zKind f L Y e) cc else if iw f L e 3 then zPl (zTool f L Y e) cc else if iw f L e 6 then zPl (zHand f L Y e) cc else if iw f L e 7 then zPl (zKnows f L Y e) cc
  else if iw f L e 8 then zPl (zJob f L Y e) cc else if iw f L e 11 then zPl (zServes f L Y e) cc else if iw f L e 14 then zMay f L Y cc e else if iw f L e 15 then zWears f L Y cc e
  else if iw f L e 16 then zPl (zSet f L Y 1 14 e) cc else if iw f L e 17 then zPl (zSmith f L Y e) cc else if iw f L e 18 then zPl (zSet f L Y 0 17 e) cc else if iw f L e 19 then zPl (zSet f L Y 0 18 e) cc
  else .inl (1, kP f L e)
/-- a statement and what ends it -/
def zT (f : Nat → Nat) (L : Nat) (Y : Nat → Nat → Nat) (cc : List (Nat × Nat)) (e : Nat) : ZS := zB (zS f L Y cc e) fun x => if ig f L x.1 59 then .inr (kE f L x.1, x.2) else .inl (1, kP f L x.1)
/-- statements, from count n on -/
def zL (f : Nat → Nat) (L : Nat) : Nat → Nat → (Nat → Nat → Nat) → List (Nat × Nat) → Nat → Sum (Nat × Nat) (Nat × (Nat → Nat → Nat) × List (Nat × Nat))
  | k, n, Y, cc, e => if kT f L e = 0 then .inr (n, Y, cc) else (match k with
    | 0 => .inl (6, kS f L e)
    | k + 1 => zB (zT f L Y cc e) fun x => zL f L k (n + 1) x.2.1 x.2.2 x.1)
/-! ===== the class: the year in the making ===== -/
/-- bank b is the one in the making -/
def mkC (S : xSt) (b : Nat) (f : Nat → Nat) (L e : Nat) (Y : Nat → Nat → Nat) (cc : List (Nat × Nat)) : Prop := tkC S f L e ∧ e ≤ L ∧ (∀ c j, c ≤ 12 → S.1 (yc b c) j = nI (Y c j)) ∧ (∀ j, S.1 (yc b 14) j = nI (Y 14 j)) ∧ oCode (S.1 (yc b 15)) 0 cc ∧ Y 14 2 = cc.length ∧ cc.length ≤ e ∧ S.2.2 162 2 = yc b 0 ∧ S.1 160 9 = nI 0 ∧ S.1 160 10 = qm1
def frB (b : Nat) (S Z : xSt) : Prop := (∀ k j, ¬ (k = 160 ∧ 3 ≤ j ∧ j ≤ 10) → ¬ (yc b 0 ≤ k ∧ k ≤ yc b 16) → ¬ (k = 163 ∧ j = 2) → Z.1 k j = S.1 k j) ∧ Z.2.1 = S.2.1 ∧ ∀ k j, ¬ (k = 163 ∧ j = 1) → Z.2.2 k j = S.2.2 k j
/-- a fault stands; the bank in the making keeps its bounds -/
def ftC (b : Nat) (Z : xSt) (kd pl : Nat) : Prop := Z.1 160 9 = nI kd ∧ Z.1 160 10 = nI pl ∧ ∃ Y, yWk Y ∧ (∀ c j, c ≤ 12 → Z.1 (yc b c) j = nI (Y c j)) ∧ ∀ j, Z.1 (yc b 14) j = nI (Y 14 j)
section Q9y
variable {S Z V W : xSt} {n L e m o b d t k a s w u lo hi : Nat} {f : Nat → Nat} {c cc : List (Nat × Nat)} {Y : Nat → Nat → Nat}
theorem frB_refl : frB b S S := ⟨fun _ _ _ _ _ => rfl, rfl, fun _ _ _ => rfl⟩
theorem frB_trans (h1 : frB b S Z) (h2 : frB b Z V) : frB b S V := ⟨fun k j x y z => (h2.1 k j x y z).trans (h1.1 k j x y z), h2.2.1.trans h1.2.1, fun k j hk => (h2.2.2 k j hk).trans (h1.2.2 k j hk)⟩
theorem frB_K (h : frK S Z) : frB b S Z := ⟨fun k j x y z => h.1 k j (by omega), by rw [h.2], fun k j _ => by rw [h.2]⟩
theorem frB_fl {kd pl : Nat} : frB b S (flC S kd pl) := ⟨fun k j x y z => by unfold flC; rw [quI_k (by omega), quI_k (by omega)], rfl, fun _ _ _ => rfl⟩
theorem frB_up {c j : Nat} {x : Int32} (hc : c ≤ 16) : frB b S (xuI S (yc b c) j x) := ⟨fun k j' h1 h2 h3 => quI_k (by unfold yc at *; omega), rfl, fun _ _ _ => rfl⟩
theorem ft_of {kd pl : Nat} (hW : yWk Y) (h1 : ∀ c j, c ≤ 12 → S.1 (yc b c) j = nI (Y c j)) (h2 : ∀ j, S.1 (yc b 14) j = nI (Y 14 j)) (hb : b < 2) : ftC b (flC S kd pl) kd pl := by
  unfold flC
  refine ⟨by rw [quI_k (by omega), quI_e], quI_e, Y, hW, fun c j hc => ?_, fun j => ?_⟩
  · rw [quI_k (by unfold yc; omega), quI_k (by unfold yc; omega)]; exact h1 c j hc
  · rw [quI_k (by unfold yc; omega), quI_k (by unfold yc; omega)]; exact h2 j
/-- the token goes on -/
theorem mkC_K (h : mkC S b f L e Y cc) (ht : tkC Z f L (kE f L e)) (hf : frK S Z) (hb : b < 2) : mkC Z b f L (kE f L e) Y cc := by
  obtain ⟨h1, h2, h3, h4, h5, h6, h7, h8⟩ := h
  have hke := kE_from (f := f) h2
  exact ⟨ht, hke.2, fun c j hc => by rw [hf.1 _ _ (by unfold yc; omega)]; exact h3 c j hc, fun j => by rw [hf.1 _ _ (by unfold yc; omega)]; exact h4 j, oCode_eq h5 (fun j _ => hf.1 _ _ (by unfold yc; omega)), h6, by omega, by rw [hf.2]; exact h8.1, by rw [hf.1 _ _ (by omega)]; exact h8.2.1, by rw [hf.1 _ _ (by omega)]; exact h8.2.2⟩
/-- a cell of the year is told -/
theorem mkC_up {c j v : Nat} (h : mkC S b f L e Y cc) (hc : c ≤ 12) (hb : b < 2) : mkC (xuI S (yc b c) j (nI v)) b f L e (dU Y c j v) cc := by
  obtain ⟨h1, h2, h3, h4, h5, h6, h7, h8⟩ := h
  refine ⟨tkC_same h1 (fun k j hk => quI_k (by unfold yc; omega)), h2, fun c' j' hc' => ?_, fun j' => ?_, oCode_eq h5 (fun j _ => quI_k (by unfold yc; omega)), ?_, h7, h8.1, by rw [quI_k (by unfold yc; omega)]; exact h8.2.1, by rw [quI_k (by unfold yc; omega)]; exact h8.2.2⟩
  · by_cases e1 : c' = c
    · subst e1
      by_cases e2 : j' = j
      · subst e2; rw [quI_e, dU_s]
      · rw [quI_k (by omega), dU_j e2]; exact h3 _ _ hc'
    · rw [quI_k (by unfold yc; omega), dU_c e1]; exact h3 _ _ hc'
  · rw [quI_k (by unfold yc; omega), dU_c (by omega)]; exact h4 j'
  · rw [dU_c (by omega)]; exact h6
theorem c_fdL (hb : b < 2) (hs : s < 4) (hY : ∀ c j, Y c j < 2 ^ 31) (h8 : Y 2 s ≤ 8) (h : ∀ c j, c ≤ 12 → S.1 (yc b c) j = nI (Y c j)) (hw : w < 2 ^ 31) : ∀ (k i q : Nat), i + k = Y 2 s → k < q → fX9_find_L2 n (yc b 0) (nI s) (nI w) S q (nI i) = some (match s_fdL Y s w k i with | none => .inl () | some x => .inr (nI x))
  | 0, i, q, hi, hq => by
    obtain ⟨q, rfl⟩ : ∃ q', q = q' + 1 := ⟨q - 1, by omega⟩
    show fX9_find_L2b n (yc b 0) (nI s) (nI w) S _ (nI i) = some (.inl ())
    have h2 := h 2
    have hi' : ¬ i < Y 2 s := by omega
    simp (disch := (first | assumption | omega | exact hB _ _ | exact hYB _ _ | (simp only [yc, yd, sh, sv, ne_eq]; omega) | (simp (disch := omega) only [↓nm_1, ↓nm_2, nI_add, pk_mul, pk_sub, Nat.add_sub_cancel, qm1_add, qm2_add, nI_clamp, ni_0, ni_1, ni_4, ni_8, h2, hi']; refine qin_nI ?_ ?_ <;> first | omega | exact hB _ _ | exact hYB _ _) | (refine qin_nI ?_ ?_ <;> omega) | fail)) only [↓yc0_gd hb, ↓yc0_gI hb, ↓yc0_gM hb, ↓yc0_pI hb, ↓yc0_pM hb, ↓yc0_pZ hb, ↓yc0_gF0 hb, ↓yc0_gF1 hb, ↓yc0_gF2 hb, ↓yc0_gF3 hb, ↓yc0_gF4 hb, ↓yc0_gF5 hb, ↓yc0_gF6 hb, ↓yc0_gF7 hb, ↓yc0_gF8 hb, ↓yc0_gF9 hb, ↓yc0_gF10 hb, ↓yc0_gF11 hb, ↓yc0_gF12 hb, ↓yc0_gF13 hb, ↓yc1_al hb, ↓yc1_as hb, ↓yc1_ln hb, ↓yc2_al hb, ↓yc2_as hb, ↓yc2_ln hb, ↓yc3_al hb, ↓yc3_as hb, ↓yc3_ln hb, ↓yc4_al hb, ↓yc4_as hb, ↓yc4_ln hb, ↓yc5_al hb, ↓yc5_as hb, ↓yc5_ln hb, ↓yc6_al hb, ↓yc6_as hb, ↓yc6_ln hb, ↓yc7_al hb, ↓yc7_as hb, ↓yc7_ln hb, ↓yc8_al hb, ↓yc8_as hb, ↓yc8_ln hb, ↓yc9_al hb, ↓yc9_as hb, ↓yc9_ln hb, ↓yc10_al hb, ↓yc10_as hb, ↓yc10_ln hb, ↓yc11_al hb, ↓yc11_as hb, ↓yc11_ln hb, ↓yc12_al hb, ↓yc12_as hb, ↓yc12_ln hb, ↓yc13_al hb, ↓yc13_as hb, ↓yc13_ln hb, ↓yc14_gd hb, ↓yc14_gI hb, ↓yc14_gM hb, ↓yc14_pI hb, ↓yc14_pM hb, ↓yc14_pZ hb, ↓yc14_gF0 hb, ↓yc14_gF1 hb, ↓yc15_al hb, ↓yc15_as hb, ↓yc15_ln hb, ↓yc16_al hb, ↓yc16_as hb, ↓yc16_ln hb, ↓qb_so, ↓nm_1, ↓nm_2, ↓reduceIte, if_true, if_false, not_true_eq_false, not_false_eq_true, and_true, true_and, and_false, false_and, or_true, true_or, or_false, false_or, eq_self, ne_eq, quI_s, quI_n, quI2, quL1, quL2, quL3, quR1, quR2, quR3, nI_add, pk_mul, pk_sub, Nat.add_sub_cancel, qm1_add, qm2_add, nI_leI, nI_ltI, nI_eq, nI_m1, nI_m1', nI_clamp, nI_bit, nI_one_shl, nI_m1l, nI_m1lt, nI_m1lt', nI_m1le', oI_some, oI_none, ni_0, ni_1, ni_4, ni_8, fX9_find_L2b, fX9_count, qle_t, qle_f, qlt_t, qlt_f, qeq_t, qeq_f, h2, hi']
  | k + 1, i, q, hi, hq => by
    obtain ⟨q, rfl⟩ : ∃ q', q = q' + 1 := ⟨q - 1, by omega⟩
    have ih := c_fdL hb hs hY h8 h hw k (i + 1) q (by omega) (by omega)
    show fX9_find_L2b n (yc b 0) (nI s) (nI w) S _ (nI i) = some _
    have h2 := h 2
    have h1 := h 1
    have hi' : i < Y 2 s := by omega
    have hY1 := hY 1 (8 * s + i)
    unfold s_fdL
    by_cases hx : Y 1 (8 * s + i) = w
    · rw [if_pos hx]
      simp (disch := (first | assumption | omega | exact hB _ _ | exact hYB _ _ | (simp only [yc, yd, sh, sv, ne_eq]; omega) | (simp (disch := omega) only [↓nm_1, ↓nm_2, nI_add, pk_mul, pk_sub, Nat.add_sub_cancel, qm1_add, qm2_add, nI_clamp, ni_0, ni_1, ni_4, ni_8, h2, h1, hi', hx, Nat.mul_comm s 8]; refine qin_nI ?_ ?_ <;> first | omega | exact hB _ _ | exact hYB _ _) | (refine qin_nI ?_ ?_ <;> omega) | fail)) only [↓yc0_gd hb, ↓yc0_gI hb, ↓yc0_gM hb, ↓yc0_pI hb, ↓yc0_pM hb, ↓yc0_pZ hb, ↓yc0_gF0 hb, ↓yc0_gF1 hb, ↓yc0_gF2 hb, ↓yc0_gF3 hb, ↓yc0_gF4 hb, ↓yc0_gF5 hb, ↓yc0_gF6 hb, ↓yc0_gF7 hb, ↓yc0_gF8 hb, ↓yc0_gF9 hb, ↓yc0_gF10 hb, ↓yc0_gF11 hb, ↓yc0_gF12 hb, ↓yc0_gF13 hb, ↓yc1_al hb, ↓yc1_as hb, ↓yc1_ln hb, ↓yc2_al hb, ↓yc2_as hb, ↓yc2_ln hb, ↓yc3_al hb, ↓yc3_as hb, ↓yc3_ln hb, ↓yc4_al hb, ↓yc4_as hb, ↓yc4_ln hb, ↓yc5_al hb, ↓yc5_as hb, ↓yc5_ln hb, ↓yc6_al hb, ↓yc6_as hb, ↓yc6_ln hb, ↓yc7_al hb, ↓yc7_as hb, ↓yc7_ln hb, ↓yc8_al hb, ↓yc8_as hb, ↓yc8_ln hb, ↓yc9_al hb, ↓yc9_as hb, ↓yc9_ln hb, ↓yc10_al hb, ↓yc10_as hb, ↓yc10_ln hb, ↓yc11_al hb, ↓yc11_as hb, ↓yc11_ln hb, ↓yc12_al hb, ↓yc12_as hb, ↓yc12_ln hb, ↓yc13_al hb, ↓yc13_as hb, ↓yc13_ln hb, ↓yc14_gd hb, ↓yc14_gI hb, ↓yc14_gM hb, ↓yc14_pI hb, ↓yc14_pM hb, ↓yc14_pZ hb, ↓yc14_gF0 hb, ↓yc14_gF1 hb, ↓yc15_al hb, ↓yc15_as hb, ↓yc15_ln hb, ↓yc16_al hb, ↓yc16_as hb, ↓yc16_ln hb, ↓qb_so, ↓nm_1, ↓nm_2, ↓reduceIte, if_true, if_false, not_true_eq_false, not_false_eq_true, and_true, true_and, and_false, false_and, or_true, true_or, or_false, false_or, eq_self, ne_eq, quI_s, quI_n, quI2, quL1, quL2, quL3, quR1, quR2, quR3, nI_add, pk_mul, pk_sub, Nat.add_sub_cancel, qm1_add, qm2_add, nI_leI, nI_ltI, nI_eq, nI_m1, nI_m1', nI_clamp, nI_bit, nI_one_shl, nI_m1l, nI_m1lt, nI_m1lt', nI_m1le', oI_some, oI_none, ni_0, ni_1, ni_4, ni_8, fX9_find_L2b, fX9_count, qle_t, qle_f, qlt_t, qlt_f, qeq_t, qeq_f, h2, h1, hi', hx, Nat.mul_comm s 8]
    · rw [if_neg hx]
      simp (disch := (first | assumption | omega | exact hB _ _ | exact hYB _ _ | (simp only [yc, yd, sh, sv, ne_eq]; omega) | (simp (disch := omega) only [↓nm_1, ↓nm_2, nI_add, pk_mul, pk_sub, Nat.add_sub_cancel, qm1_add, qm2_add, nI_clamp, ni_0, ni_1, ni_4, ni_8, h2, h1, hi', hx, Nat.mul_comm s 8, ih]; refine qin_nI ?_ ?_ <;> first | omega | exact hB _ _ | exact hYB _ _) | (refine qin_nI ?_ ?_ <;> omega) | fail)) only [↓yc0_gd hb, ↓yc0_gI hb, ↓yc0_gM hb, ↓yc0_pI hb, ↓yc0_pM hb, ↓yc0_pZ hb, ↓yc0_gF0 hb, ↓yc0_gF1 hb, ↓yc0_gF2 hb, ↓yc0_gF3 hb, ↓yc0_gF4 hb, ↓yc0_gF5 hb, ↓yc0_gF6 hb, ↓yc0_gF7 hb, ↓yc0_gF8 hb, ↓yc0_gF9 hb, ↓yc0_gF10 hb, ↓yc0_gF11 hb, ↓yc0_gF12 hb, ↓yc0_gF13 hb, ↓yc1_al hb, ↓yc1_as hb, ↓yc1_ln hb, ↓yc2_al hb, ↓yc2_as hb, ↓yc2_ln hb, ↓yc3_al hb, ↓yc3_as hb, ↓yc3_ln hb, ↓yc4_al hb, ↓yc4_as hb, ↓yc4_ln hb, ↓yc5_al hb, ↓yc5_as hb, ↓yc5_ln hb, ↓yc6_al hb, ↓yc6_as hb, ↓yc6_ln hb, ↓yc7_al hb, ↓yc7_as hb, ↓yc7_ln hb, ↓yc8_al hb, ↓yc8_as hb, ↓yc8_ln hb, ↓yc9_al hb, ↓yc9_as hb, ↓yc9_ln hb, ↓yc10_al hb, ↓yc10_as hb, ↓yc10_ln hb, ↓yc11_al hb, ↓yc11_as hb, ↓yc11_ln hb, ↓yc12_al hb, ↓yc12_as hb, ↓yc12_ln hb, ↓yc13_al hb, ↓yc13_as hb, ↓yc13_ln hb, ↓yc14_gd hb, ↓yc14_gI hb, ↓yc14_gM hb, ↓yc14_pI hb, ↓yc14_pM hb, ↓yc14_pZ hb, ↓yc14_gF0 hb, ↓yc14_gF1 hb, ↓yc15_al hb, ↓yc15_as hb, ↓yc15_ln hb, ↓yc16_al hb, ↓yc16_as hb, ↓yc16_ln hb, ↓qb_so, ↓nm_1, ↓nm_2, ↓reduceIte, if_true, if_false, not_true_eq_false, not_false_eq_true, and_true, true_and, and_false, false_and, or_true, true_or, or_false, false_or, eq_self, ne_eq, quI_s, quI_n, quI2, quL1, quL2, quL3, quR1, quR2, quR3, nI_add, pk_mul, pk_sub, Nat.add_sub_cancel, qm1_add, qm2_add, nI_leI, nI_ltI, nI_eq, nI_m1, nI_m1', nI_clamp, nI_bit, nI_one_shl, nI_m1l, nI_m1lt, nI_m1lt', nI_m1le', oI_some, oI_none, ni_0, ni_1, ni_4, ni_8, fX9_find_L2b, fX9_count, qle_t, qle_f, qlt_t, qlt_f, qeq_t, qeq_f, h2, h1, hi', hx, Nat.mul_comm s 8, ih]
end Q9y

