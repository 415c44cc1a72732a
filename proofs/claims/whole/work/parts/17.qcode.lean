/-! ===== the codes of may and wears: what they give ===== -/
def eHeld (x : Int64) : Int64 := if x ≤ 1000000 then (if -1000000 ≤ x then x else -1000000) else 1000000
def eFl (a b : Int64) : Int64 := if b = 0 then 0 else if a - a / b * b = 0 then a / b else if (0 ≤ a ↔ 0 ≤ b) then a / b else a / b - 1
def e2 (op : Nat) (a b : Int64) : Int64 :=
  if op = 4 then eHeld (a + b) else if op = 5 then eHeld (a - b) else if op = 6 then eHeld (a * b) else if op = 7 then eHeld (eFl a b)
  else if op = 8 then (if b = 0 then 0 else eHeld (a - b * eFl a b)) else if op = 9 then (if b ≤ a then b else a) else if op = 10 then (if a ≤ b then b else a)
  else if op = 11 then (if b ≤ a then 0 else 1) else if op = 12 then (if a ≤ b then 0 else 1) else if op = 13 then (if a = b then 1 else 0) else if op = 14 then a &&& b else a ||| b
def e1 (φ : Nat → Nat) (o : Nat × Nat) (l : List Int64) : List Int64 :=
  if o.1 = 0 then lN o.2 :: l else if o.1 = 16 then 1 :: l else if o.1 = 1 then lN (φ o.2) :: l
  else if o.1 = 2 then (match l with | a :: r => (1 - a) :: r | _ => l)
  else if o.1 = 3 then (match l with | c :: b :: a :: r => (if a = 1 then b else c) :: r | _ => l)
  else (match l with | b :: a :: r => e2 o.1 a b :: r | _ => l)
def eRun (φ : Nat → Nat) : List (Nat × Nat) → List Int64 → List Int64
  | [], l => l
  | o :: c, l => eRun φ c (e1 φ o l)
def t1 (o : Nat × Nat) (s : List Bool) : Option (List Bool) :=
  if 10000 ≤ o.2 then none else
  if o.1 = 0 then some (false :: s)
  else if o.1 = 16 then some (true :: s)
  else if o.1 = 1 then (if o.2 < 8 then some (false :: s) else none)
  else if o.1 = 2 then (match s with | true :: r => some (true :: r) | _ => none)
  else if o.1 = 3 then (match s with | false :: false :: true :: r => some (false :: r) | _ => none)
  else if o.1 ≤ 10 then (match s with | false :: false :: r => some (false :: r) | _ => none)
  else if o.1 ≤ 13 then (match s with | false :: false :: r => some (true :: r) | _ => none)
  else if o.1 ≤ 15 then (match s with | true :: true :: r => some (true :: r) | _ => none)
  else none
def tRun : List (Nat × Nat) → List Bool → Option (List Bool)
  | [], s => some s
  | o :: c, s => if s.length < 64 then (t1 o s).bind (tRun c) else none
def eV (t : Bool) (x : Int64) : Prop := match t with | true => x = 0 ∨ x = 1 | false => -1000000 ≤ x ∧ x ≤ 1000000
theorem eV_f {x : Int64} : eV false x = (-1000000 ≤ x ∧ x ≤ 1000000) := rfl
theorem eV_t {x : Int64} : eV true x = (x = 0 ∨ x = 1) := rfl
def eVs : List Bool → List Int64 → Prop
  | [], [] => True
  | t :: ts, x :: l => eV t x ∧ eVs ts l
  | _, _ => False
def encC (o : Nat × Nat) : Nat := if o.1 = 16 then 32 else o.2 * 32 + o.1
/-- the heap's row holds the list from its end on -/
def cSt (f : Nat → Int32) : List Int64 → Prop
  | [] => True
  | x :: l => f l.length = x.toInt32 ∧ cSt f l
def mSt (f : Nat → Int64) : List Int64 → Prop
  | [] => True
  | x :: l => f l.length = x ∧ mSt f l
/-- all but some cells is as it was -/
def qFr (P : Nat → Prop) (S Z : xSt) : Prop := (∀ k, ¬ P k → Z.1 k = S.1 k) ∧ Z.2 = S.2
theorem qFr_refl {P : Nat → Prop} {S : xSt} : qFr P S S := ⟨fun _ _ => rfl, rfl⟩
theorem qFr_trans {P : Nat → Prop} {S Z V : xSt} (h1 : qFr P S Z) (h2 : qFr P Z V) : qFr P S V :=
  ⟨fun k hk => (h2.1 k hk).trans (h1.1 k hk), h2.2.trans h1.2⟩
theorem qFr_mono {P P' : Nat → Prop} {S Z : xSt} (h : qFr P S Z) (hp : ∀ k, P k → P' k) : qFr P' S Z := ⟨fun k hk => h.1 k (fun hh => hk (hp k hh)), h.2⟩
theorem qFr_upd {P : Nat → Prop} {S : xSt} {k j : Nat} {v : Int32} (h : P k) : qFr P S (xuI S k j v) := by
  refine ⟨fun k' hk' => ?_, rfl⟩
  funext j'
  rw [quI1, if_neg (fun e : k' = k => hk' (by rw [e]; exact h))]
theorem quI1f {S : xSt} {k j k' : Nat} {v : Int32} (h : k' ≠ k) : (xuI S k j v).1 k' = S.1 k' := by
  funext j'
  rw [quI1, if_neg h]
theorem quI1s {S : xSt} {k j : Nat} {v : Int32} : (xuI S k j v).1 k = fun j' => if j' = j then v else S.1 k j' := by
  funext j'
  rw [quI1, if_pos rfl]
theorem cSt_upd {f : Nat → Int32} {i : Nat} {v : Int32} : ∀ {l : List Int64}, cSt f l → l.length ≤ i → cSt (fun j => if j = i then v else f j) l
  | [], _, _ => trivial
  | x :: l, h, hi => by
    have h0 : l.length < i := hi
    exact ⟨by simp only [if_neg (Nat.ne_of_lt h0)]; exact h.1, cSt_upd h.2 (by omega)⟩
theorem mSt_upd {f : Nat → Int64} {i : Nat} {v : Int64} : ∀ {l : List Int64}, mSt f l → l.length ≤ i → mSt (fun j => if j = i then v else f j) l
  | [], _, _ => trivial
  | x :: l, h, hi => by
    have h0 : l.length < i := hi
    exact ⟨by simp only [if_neg (Nat.ne_of_lt h0)]; exact h.1, mSt_upd h.2 (by omega)⟩
theorem eI {x : Int64} (h : eV false x) : -1000000 ≤ x.toInt ∧ x.toInt ≤ 1000000 := by
  simp only [eV_f, Int64.le_iff_toInt_le] at h
  have a : (-1000000 : Int64).toInt = -1000000 := by decide
  have b : (1000000 : Int64).toInt = 1000000 := by decide
  omega
theorem eV_of {x : Int64} (h1 : -1000000 ≤ x.toInt) (h2 : x.toInt ≤ 1000000) : eV false x := by
  simp only [eV_f, Int64.le_iff_toInt_le]
  have a : (-1000000 : Int64).toInt = -1000000 := by decide
  have b : (1000000 : Int64).toInt = 1000000 := by decide
  omega
theorem eV_ft {x : Int64} (h : eV true x) : eV false x := by
  rw [eV_t] at h
  rcases h with rfl | rfl <;> rw [eV_f] <;> decide
theorem e32 {x : Int64} (h : eV false x) : x.toInt32.toInt = x.toInt := by
  have := eI h
  rw [Int64.toInt_toInt32]
  exact Int.bmod_eq_of_le (by omega) (by omega)
theorem e3264 {x : Int64} (h : eV false x) : x.toInt32.toInt64 = x := by
  apply Int64.toInt_inj.mp
  rw [Int32.toInt_toInt64, e32 h]
theorem eH (x : Int64) : eV false (eHeld x) := by
  unfold eHeld
  by_cases h1 : x ≤ 1000000
  · rw [if_pos h1]
    by_cases h2 : -1000000 ≤ x
    · rw [if_pos h2]; exact ⟨h2, h1⟩
    · rw [if_neg h2, eV_f]; decide
  · rw [if_neg h1, eV_f]; decide
theorem eV_n {n : Nat} (h : n < 1000000) : eV false (lN n) := by
  have := lN_toInt (n := n) (by omega)
  exact eV_of (by omega) (by omega)
theorem e2V {op : Nat} {a b : Int64} (ha : eV false a) (hb : eV false b) (h : op ≤ 10) (h4 : 4 ≤ op) : eV false (e2 op a b) := by
  rcases (by omega : op = 4 ∨ op = 5 ∨ op = 6 ∨ op = 7 ∨ op = 8 ∨ op = 9 ∨ op = 10) with rfl | rfl | rfl | rfl | rfl | rfl | rfl
  · exact eH _
  · exact eH _
  · exact eH _
  · exact eH _
  · show eV false (if b = 0 then 0 else _)
    split
    · rw [eV_f]; decide
    · exact eH _
  · show eV false (if b ≤ a then b else a)
    split <;> assumption
  · show eV false (if a ≤ b then b else a)
    split <;> assumption
theorem e2T {op : Nat} {a b : Int64} (h : op ≤ 13) (h4 : 11 ≤ op) : eV true (e2 op a b) := by
  rcases (by omega : op = 11 ∨ op = 12 ∨ op = 13) with rfl | rfl | rfl
  · show eV true (if b ≤ a then 0 else 1)
    split <;> simp [eV_t]
  · show eV true (if a ≤ b then 0 else 1)
    split <;> simp [eV_t]
  · show eV true (if a = b then 1 else 0)
    split <;> simp [eV_t]
theorem e2B {op : Nat} {a b : Int64} (ha : eV true a) (hb : eV true b) (h : op ≤ 15) (h4 : 14 ≤ op) : eV true (e2 op a b) := by
  rw [eV_t] at ha hb
  rcases (by omega : op = 14 ∨ op = 15) with rfl | rfl <;> rcases ha with rfl | rfl <;> rcases hb with rfl | rfl <;> rw [eV_t] <;> decide
/-- a code that fits keeps what fits -/
theorem e1_ok {φ : Nat → Nat} (hφ : ∀ i, φ i < 1000000) {o : Nat × Nat} {s s' : List Bool} {l : List Int64} (h : t1 o s = some s') (hl : eVs s l) : eVs s' (e1 φ o l) := by
  unfold t1 at h
  unfold e1
  split at h
  · cases h
  rename_i hop
  split at h
  · rename_i h0
    cases h
    rw [if_pos h0]
    exact ⟨eV_n (by omega), hl⟩
  rename_i h0
  rw [if_neg h0]
  split at h
  · rename_i h1
    cases h
    rw [if_pos h1]
    exact ⟨Or.inr rfl, hl⟩
  rename_i h1
  rw [if_neg h1]
  split at h
  · rename_i h2
    split at h
    · cases h
      rw [if_pos h2]
      exact ⟨eV_n (hφ _), hl⟩
    · cases h
  rename_i h2
  rw [if_neg h2]
  split at h
  · rename_i h3
    rw [if_pos h3]
    split at h
    · cases h
      cases l with
      | nil => cases hl
      | cons a r =>
        refine ⟨?_, hl.2⟩
        have := hl.1
        rw [eV_t] at this ⊢
        rcases this with rfl | rfl
        · right; decide
        · left; decide
    · cases h
  rename_i h3
  rw [if_neg h3]
  split at h
  · rename_i h4
    rw [if_pos h4]
    split at h
    · cases h
      match l, hl with
      | c :: b :: a :: r, hl =>
        refine ⟨?_, hl.2.2.2⟩
        show eV false (if a = 1 then b else c)
        split
        · exact hl.2.1
        · exact hl.1
    · cases h
  rename_i h4
  rw [if_neg h4]
  split at h
  · split at h
    · cases h
      match l, hl with
      | b :: a :: r, hl => exact ⟨e2V hl.2.1 hl.1 (by assumption) (by omega), hl.2.2⟩
    · cases h
  split at h
  · split at h
    · cases h
      match l, hl with
      | b :: a :: r, hl => exact ⟨e2T (by assumption) (by omega), hl.2.2⟩
    · cases h
  split at h
  · split at h
    · cases h
      match l, hl with
      | b :: a :: r, hl => exact ⟨e2B hl.2.1 hl.1 (by assumption) (by omega), hl.2.2⟩
    · cases h
  cases h
theorem eVs_len : ∀ {s : List Bool} {l : List Int64}, eVs s l → s.length = l.length
  | [], [], _ => rfl
  | t :: ts, x :: l, h => by simp [eVs_len h.2]

