/-! ===== rows of jobs: the class's are the reference's ===== -/
def rx (l : List Nat) (i j : Nat) : List Nat := (l.set i (l.getD j 0)).set j (l.getD i 0)
def atL (l : List Nat) : Nat → Option Nat
  | 0 => none
  | k + 1 => if l.getD (k + 1) 0 < l.getD k 0 then atL l k else some k
def abL (l : List Nat) (a : Nat) : Nat → Nat
  | 0 => 0
  | k + 1 => if a < k + 1 then (if l.getD (k + 1) 0 < l.getD a 0 then abL l a k else k + 1) else k + 1
def rvL : Nat → List Nat → Nat → Nat → List Nat
  | 0, l, _, _ => l
  | k + 1, l, lo, hi => if lo < hi then rvL k (rx l lo hi) (lo + 1) (hi - 1) else l
def nxtR (m : Nat) (l : List Nat) : Option (List Nat) :=
  match atL l (m - 1) with
  | none => none
  | some a => some (rvL 6 (rx l a (abL l a (m - 1))) (a + 1) (m - 1))
def enumR (m : Nat) : Nat → List Nat → List (List Nat)
  | 0, _ => []
  | k + 1, l => l :: (match nxtR m l with
    | none => []
    | some l' => enumR m k l')
def idR : List Nat := [0, 1, 2, 3, 4, 5]
def cR (m : Nat) : List (List Nat) := enumR m 720 idR
def fullR (m : Nat) (l : List Nat) : List Nat := l ++ idR.drop m
def eqL : List Nat → List Nat → Bool
  | [], [] => true
  | a :: l, c :: k => if Nat.beq a c = true then eqL l k else false
  | _, _ => false
def okR (m : Nat) (r : List Nat) : Bool := Nat.beq r.length 6 && (List.range m).all (fun x => Nat.blt (r.getD x 0) m && (List.range m).all (fun y => if Nat.beq x y = true then true else !(Nat.beq (r.getD x 0) (r.getD y 0))))
def chkR (m : Nat) : List (List Nat) → List (List Nat) → Bool
  | _, [] => true
  | prev, r :: rs => if (List.range 5).all (fun p => if p + 1 < m then (if r.getD (p + 1) 0 < r.getD p 0 then prev.any (eqL (rx r p (p + 1))) else true) else true) = true then chkR m (r :: prev) rs else false
def rW (s n : Nat) : List (List Nat) := ((List.range' s n).map (s_dig 6 6)).filter (s_isR 6)
theorem rW_add (s a c : Nat) : rW s (a + c) = rW s a ++ rW (s + a) c := by
  unfold rW
  rw [← List.range'_append_1, List.map_append, List.filter_append]

theorem rW_0 : rW 0 1296 = [] := by decide +kernel
theorem rW_1 : rW 1296 1296 = (enumR 6 24 [0, 1, 2, 3, 4, 5]) := by decide +kernel
theorem rW_2 : rW 2592 1296 = (enumR 6 24 [0, 2, 1, 3, 4, 5]) := by decide +kernel
theorem rW_3 : rW 3888 1296 = (enumR 6 24 [0, 3, 1, 2, 4, 5]) := by decide +kernel
theorem rW_4 : rW 5184 1296 = (enumR 6 24 [0, 4, 1, 2, 3, 5]) := by decide +kernel
theorem rW_5 : rW 6480 1296 = (enumR 6 24 [0, 5, 1, 2, 3, 4]) := by decide +kernel
theorem rW_6 : rW 7776 1296 = (enumR 6 24 [1, 0, 2, 3, 4, 5]) := by decide +kernel
theorem rW_7 : rW 9072 1296 = [] := by decide +kernel
theorem rW_8 : rW 10368 1296 = (enumR 6 24 [1, 2, 0, 3, 4, 5]) := by decide +kernel
theorem rW_9 : rW 11664 1296 = (enumR 6 24 [1, 3, 0, 2, 4, 5]) := by decide +kernel
theorem rW_10 : rW 12960 1296 = (enumR 6 24 [1, 4, 0, 2, 3, 5]) := by decide +kernel
theorem rW_11 : rW 14256 1296 = (enumR 6 24 [1, 5, 0, 2, 3, 4]) := by decide +kernel
theorem rW_12 : rW 15552 1296 = (enumR 6 24 [2, 0, 1, 3, 4, 5]) := by decide +kernel
theorem rW_13 : rW 16848 1296 = (enumR 6 24 [2, 1, 0, 3, 4, 5]) := by decide +kernel
theorem rW_14 : rW 18144 1296 = [] := by decide +kernel
theorem rW_15 : rW 19440 1296 = (enumR 6 24 [2, 3, 0, 1, 4, 5]) := by decide +kernel
theorem rW_16 : rW 20736 1296 = (enumR 6 24 [2, 4, 0, 1, 3, 5]) := by decide +kernel
theorem rW_17 : rW 22032 1296 = (enumR 6 24 [2, 5, 0, 1, 3, 4]) := by decide +kernel
theorem rW_18 : rW 23328 1296 = (enumR 6 24 [3, 0, 1, 2, 4, 5]) := by decide +kernel
theorem rW_19 : rW 24624 1296 = (enumR 6 24 [3, 1, 0, 2, 4, 5]) := by decide +kernel
theorem rW_20 : rW 25920 1296 = (enumR 6 24 [3, 2, 0, 1, 4, 5]) := by decide +kernel
theorem rW_21 : rW 27216 1296 = [] := by decide +kernel
theorem rW_22 : rW 28512 1296 = (enumR 6 24 [3, 4, 0, 1, 2, 5]) := by decide +kernel
theorem rW_23 : rW 29808 1296 = (enumR 6 24 [3, 5, 0, 1, 2, 4]) := by decide +kernel
theorem rW_24 : rW 31104 1296 = (enumR 6 24 [4, 0, 1, 2, 3, 5]) := by decide +kernel
theorem rW_25 : rW 32400 1296 = (enumR 6 24 [4, 1, 0, 2, 3, 5]) := by decide +kernel
theorem rW_26 : rW 33696 1296 = (enumR 6 24 [4, 2, 0, 1, 3, 5]) := by decide +kernel
theorem rW_27 : rW 34992 1296 = (enumR 6 24 [4, 3, 0, 1, 2, 5]) := by decide +kernel
theorem rW_28 : rW 36288 1296 = [] := by decide +kernel
theorem rW_29 : rW 37584 1296 = (enumR 6 24 [4, 5, 0, 1, 2, 3]) := by decide +kernel
theorem rW_30 : rW 38880 1296 = (enumR 6 24 [5, 0, 1, 2, 3, 4]) := by decide +kernel
theorem rW_31 : rW 40176 1296 = (enumR 6 24 [5, 1, 0, 2, 3, 4]) := by decide +kernel
theorem rW_32 : rW 41472 1296 = (enumR 6 24 [5, 2, 0, 1, 3, 4]) := by decide +kernel
theorem rW_33 : rW 42768 1296 = (enumR 6 24 [5, 3, 0, 1, 2, 4]) := by decide +kernel
theorem rW_34 : rW 44064 1296 = (enumR 6 24 [5, 4, 0, 1, 2, 3]) := by decide +kernel
theorem rW_35 : rW 45360 1296 = [] := by decide +kernel
theorem rW_all : rW 0 46656 = [] ++ (enumR 6 24 [0, 1, 2, 3, 4, 5] ++ (enumR 6 24 [0, 2, 1, 3, 4, 5] ++ (enumR 6 24 [0, 3, 1, 2, 4, 5] ++ (enumR 6 24 [0, 4, 1, 2, 3, 5] ++ (enumR 6 24 [0, 5, 1, 2, 3, 4] ++ (enumR 6 24 [1, 0, 2, 3, 4, 5] ++ ([] ++ (enumR 6 24 [1, 2, 0, 3, 4, 5] ++ (enumR 6 24 [1, 3, 0, 2, 4, 5] ++ (enumR 6 24 [1, 4, 0, 2, 3, 5] ++ (enumR 6 24 [1, 5, 0, 2, 3, 4] ++ (enumR 6 24 [2, 0, 1, 3, 4, 5] ++ (enumR 6 24 [2, 1, 0, 3, 4, 5] ++ ([] ++ (enumR 6 24 [2, 3, 0, 1, 4, 5] ++ (enumR 6 24 [2, 4, 0, 1, 3, 5] ++ (enumR 6 24 [2, 5, 0, 1, 3, 4] ++ (enumR 6 24 [3, 0, 1, 2, 4, 5] ++ (enumR 6 24 [3, 1, 0, 2, 4, 5] ++ (enumR 6 24 [3, 2, 0, 1, 4, 5] ++ ([] ++ (enumR 6 24 [3, 4, 0, 1, 2, 5] ++ (enumR 6 24 [3, 5, 0, 1, 2, 4] ++ (enumR 6 24 [4, 0, 1, 2, 3, 5] ++ (enumR 6 24 [4, 1, 0, 2, 3, 5] ++ (enumR 6 24 [4, 2, 0, 1, 3, 5] ++ (enumR 6 24 [4, 3, 0, 1, 2, 5] ++ ([] ++ (enumR 6 24 [4, 5, 0, 1, 2, 3] ++ (enumR 6 24 [5, 0, 1, 2, 3, 4] ++ (enumR 6 24 [5, 1, 0, 2, 3, 4] ++ (enumR 6 24 [5, 2, 0, 1, 3, 4] ++ (enumR 6 24 [5, 3, 0, 1, 2, 4] ++ (enumR 6 24 [5, 4, 0, 1, 2, 3] ++ ([]))))))))))))))))))))))))))))))))))) := by
  rw [show rW 0 46656 = rW 0 1296 ++ rW 1296 45360 from rW_add 0 1296 45360, rW_0]
  rw [show rW 1296 45360 = rW 1296 1296 ++ rW 2592 44064 from rW_add 1296 1296 44064, rW_1]
  rw [show rW 2592 44064 = rW 2592 1296 ++ rW 3888 42768 from rW_add 2592 1296 42768, rW_2]
  rw [show rW 3888 42768 = rW 3888 1296 ++ rW 5184 41472 from rW_add 3888 1296 41472, rW_3]
  rw [show rW 5184 41472 = rW 5184 1296 ++ rW 6480 40176 from rW_add 5184 1296 40176, rW_4]
  rw [show rW 6480 40176 = rW 6480 1296 ++ rW 7776 38880 from rW_add 6480 1296 38880, rW_5]
  rw [show rW 7776 38880 = rW 7776 1296 ++ rW 9072 37584 from rW_add 7776 1296 37584, rW_6]
  rw [show rW 9072 37584 = rW 9072 1296 ++ rW 10368 36288 from rW_add 9072 1296 36288, rW_7]
  rw [show rW 10368 36288 = rW 10368 1296 ++ rW 11664 34992 from rW_add 10368 1296 34992, rW_8]
  rw [show rW 11664 34992 = rW 11664 1296 ++ rW 12960 33696 from rW_add 11664 1296 33696, rW_9]
  rw [show rW 12960 33696 = rW 12960 1296 ++ rW 14256 32400 from rW_add 12960 1296 32400, rW_10]
  rw [show rW 14256 32400 = rW 14256 1296 ++ rW 15552 31104 from rW_add 14256 1296 31104, rW_11]
  rw [show rW 15552 31104 = rW 15552 1296 ++ rW 16848 29808 from rW_add 15552 1296 29808, rW_12]
  rw [show rW 16848 29808 = rW 16848 1296 ++ rW 18144 28512 from rW_add 16848 1296 28512, rW_13]
  rw [show rW 18144 28512 = rW 18144 1296 ++ rW 19440 27216 from rW_add 18144 1296 27216, rW_14]
  rw [show rW 19440 27216 = rW 19440 1296 ++ rW 20736 25920 from rW_add 19440 1296 25920, rW_15]
  rw [show rW 20736 25920 = rW 20736 1296 ++ rW 22032 24624 from rW_add 20736 1296 24624, rW_16]
  rw [show rW 22032 24624 = rW 22032 1296 ++ rW 23328 23328 from rW_add 22032 1296 23328, rW_17]
  rw [show rW 23328 23328 = rW 23328 1296 ++ rW 24624 22032 from rW_add 23328 1296 22032, rW_18]
  rw [show rW 24624 22032 = rW 24624 1296 ++ rW 25920 20736 from rW_add 24624 1296 20736, rW_19]
  rw [show rW 25920 20736 = rW 25920 1296 ++ rW 27216 19440 from rW_add 25920 1296 19440, rW_20]
  rw [show rW 27216 19440 = rW 27216 1296 ++ rW 28512 18144 from rW_add 27216 1296 18144, rW_21]
  rw [show rW 28512 18144 = rW 28512 1296 ++ rW 29808 16848 from rW_add 28512 1296 16848, rW_22]
  rw [show rW 29808 16848 = rW 29808 1296 ++ rW 31104 15552 from rW_add 29808 1296 15552, rW_23]
  rw [show rW 31104 15552 = rW 31104 1296 ++ rW 32400 14256 from rW_add 31104 1296 14256, rW_24]
  rw [show rW 32400 14256 = rW 32400 1296 ++ rW 33696 12960 from rW_add 32400 1296 12960, rW_25]
  rw [show rW 33696 12960 = rW 33696 1296 ++ rW 34992 11664 from rW_add 33696 1296 11664, rW_26]
  rw [show rW 34992 11664 = rW 34992 1296 ++ rW 36288 10368 from rW_add 34992 1296 10368, rW_27]
  rw [show rW 36288 10368 = rW 36288 1296 ++ rW 37584 9072 from rW_add 36288 1296 9072, rW_28]
  rw [show rW 37584 9072 = rW 37584 1296 ++ rW 38880 7776 from rW_add 37584 1296 7776, rW_29]
  rw [show rW 38880 7776 = rW 38880 1296 ++ rW 40176 6480 from rW_add 38880 1296 6480, rW_30]
  rw [show rW 40176 6480 = rW 40176 1296 ++ rW 41472 5184 from rW_add 40176 1296 5184, rW_31]
  rw [show rW 41472 5184 = rW 41472 1296 ++ rW 42768 3888 from rW_add 41472 1296 3888, rW_32]
  rw [show rW 42768 3888 = rW 42768 1296 ++ rW 44064 2592 from rW_add 42768 1296 2592, rW_33]
  rw [show rW 44064 2592 = rW 44064 1296 ++ rW 45360 1296 from rW_add 44064 1296 1296, rW_34]
  rw [rW_35]
theorem cR_6a : cR 6 = [] ++ (enumR 6 24 [0, 1, 2, 3, 4, 5] ++ (enumR 6 24 [0, 2, 1, 3, 4, 5] ++ (enumR 6 24 [0, 3, 1, 2, 4, 5] ++ (enumR 6 24 [0, 4, 1, 2, 3, 5] ++ (enumR 6 24 [0, 5, 1, 2, 3, 4] ++ (enumR 6 24 [1, 0, 2, 3, 4, 5] ++ ([] ++ (enumR 6 24 [1, 2, 0, 3, 4, 5] ++ (enumR 6 24 [1, 3, 0, 2, 4, 5] ++ (enumR 6 24 [1, 4, 0, 2, 3, 5] ++ (enumR 6 24 [1, 5, 0, 2, 3, 4] ++ (enumR 6 24 [2, 0, 1, 3, 4, 5] ++ (enumR 6 24 [2, 1, 0, 3, 4, 5] ++ ([] ++ (enumR 6 24 [2, 3, 0, 1, 4, 5] ++ (enumR 6 24 [2, 4, 0, 1, 3, 5] ++ (enumR 6 24 [2, 5, 0, 1, 3, 4] ++ (enumR 6 24 [3, 0, 1, 2, 4, 5] ++ (enumR 6 24 [3, 1, 0, 2, 4, 5] ++ (enumR 6 24 [3, 2, 0, 1, 4, 5] ++ ([] ++ (enumR 6 24 [3, 4, 0, 1, 2, 5] ++ (enumR 6 24 [3, 5, 0, 1, 2, 4] ++ (enumR 6 24 [4, 0, 1, 2, 3, 5] ++ (enumR 6 24 [4, 1, 0, 2, 3, 5] ++ (enumR 6 24 [4, 2, 0, 1, 3, 5] ++ (enumR 6 24 [4, 3, 0, 1, 2, 5] ++ ([] ++ (enumR 6 24 [4, 5, 0, 1, 2, 3] ++ (enumR 6 24 [5, 0, 1, 2, 3, 4] ++ (enumR 6 24 [5, 1, 0, 2, 3, 4] ++ (enumR 6 24 [5, 2, 0, 1, 3, 4] ++ (enumR 6 24 [5, 3, 0, 1, 2, 4] ++ (enumR 6 24 [5, 4, 0, 1, 2, 3] ++ ([]))))))))))))))))))))))))))))))))))) := by decide +kernel
theorem fullR_6 (l : List Nat) : fullR 6 l = l := by unfold fullR; exact List.append_nil l
theorem cR_6 : cR 6 = (s_rows 6).map (fullR 6) := by
  have e : (s_rows 6).map (fullR 6) = s_rows 6 := by
    rw [show fullR 6 = id from funext fullR_6, List.map_id]
  have e2 : s_rows 6 = rW 0 46656 := by unfold s_rows rW; rw [List.range_eq_range']
  rw [e, e2, rW_all]
  exact cR_6a
theorem cR_0 : cR 0 = (s_rows 0).map (fullR 0) := by decide +kernel
theorem cR_1 : cR 1 = (s_rows 1).map (fullR 1) := by decide +kernel
theorem cR_2 : cR 2 = (s_rows 2).map (fullR 2) := by decide +kernel
theorem cR_3 : cR 3 = (s_rows 3).map (fullR 3) := by decide +kernel
theorem cR_4 : cR 4 = (s_rows 4).map (fullR 4) := by decide +kernel
theorem cR_5 : cR 5 = (s_rows 5).map (fullR 5) := by decide +kernel
theorem okR_0 : (cR 0).all (okR 0) = true := by decide +kernel
theorem chkR_0 : chkR 0 [] (cR 0) = true := by decide +kernel
theorem okR_1 : (cR 1).all (okR 1) = true := by decide +kernel
theorem chkR_1 : chkR 1 [] (cR 1) = true := by decide +kernel
theorem okR_2 : (cR 2).all (okR 2) = true := by decide +kernel
theorem chkR_2 : chkR 2 [] (cR 2) = true := by decide +kernel
theorem okR_3 : (cR 3).all (okR 3) = true := by decide +kernel
theorem chkR_3 : chkR 3 [] (cR 3) = true := by decide +kernel
theorem okR_4 : (cR 4).all (okR 4) = true := by decide +kernel
theorem chkR_4 : chkR 4 [] (cR 4) = true := by decide +kernel
theorem okR_5 : (cR 5).all (okR 5) = true := by decide +kernel
theorem chkR_5 : chkR 5 [] (cR 5) = true := by decide +kernel
theorem okR_6 : (cR 6).all (okR 6) = true := by decide +kernel
theorem chkR_6 : chkR 6 [] (cR 6) = true := by decide +kernel
theorem cR_rows {m : Nat} (h : m ≤ 6) : cR m = (s_rows m).map (fullR m) ∧ (cR m).all (okR m) = true ∧ chkR m [] (cR m) = true := by
  rcases (by omega : m = 0 ∨ m = 1 ∨ m = 2 ∨ m = 3 ∨ m = 4 ∨ m = 5 ∨ m = 6) with rfl | rfl | rfl | rfl | rfl | rfl | rfl
  · exact ⟨cR_0, okR_0, chkR_0⟩
  · exact ⟨cR_1, okR_1, chkR_1⟩
  · exact ⟨cR_2, okR_2, chkR_2⟩
  · exact ⟨cR_3, okR_3, chkR_3⟩
  · exact ⟨cR_4, okR_4, chkR_4⟩
  · exact ⟨cR_5, okR_5, chkR_5⟩
  · exact ⟨cR_6, okR_6, chkR_6⟩

