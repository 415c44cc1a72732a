/-! ===== the first state of the class ===== -/
def cS0 (g : Nat → Int32) : xSt := (fun k => if k = 0 then (fun j => if j = 15 then 1 else 0) else if k = 2 ∨ k = 19 then (fun j => if j = 14 then 100 else if j = 16 then 9 else if j = 17 then 5 else 0) else if k = 148 then (fun j => if j = 8 then -1 else 0) else if k = 160 then (fun j => if j = 8 ∨ j = 10 then -1 else 0) else if k = 161 then g else (fun _ => 0), fun _ _ => 0, fun k j => if k = 0 ∧ j = 2 then 2 else if k = 0 ∧ j = 3 then 19 else if k = 144 ∧ j = 4 then 2 else if k = 144 ∧ j = 5 then 36 else if k = 148 ∧ j = 3 then 2 else if k = 156 ∧ j = 4 then 2 else if k = 156 ∧ j = 5 then 149 else if k = 162 ∧ j = 2 then 19 else if k = 163 ∧ j = 1 then 33 else 0)
section Q9zq
variable {M : xMg} {a : Nat} {g : Nat → Int32}
def cM (M : xMg) (a : Nat) : xMg := (M.1, (fun k => a + k), M.2.2)
set_option maxRecDepth 100000 in
theorem c0_a : [.inr (11, [.ref (a + 1), .int 0, .ref (a + 2), .ref (a + 19), .ref (a + 36), .ref (a + 41), .ref (a + 144), .ref (a + 148), .ref (a + 160), .ref (a + 162), .ref (a + 164), .ref (a + 169), .ref (a + 176), .int 0, .ref (a + 177), .int 1]), yI M 1600] = (List.range' 0 2).map (xct tC (cM M a) (cS0 g)) := rfl
set_option maxRecDepth 100000 in
theorem c0_b : cYear M (a + 2) = (List.range' 2 17).map (xct tC (cM M a) (cS0 g)) := rfl
set_option maxRecDepth 100000 in
theorem c0_c : cYear M (a + 19) = (List.range' 19 17).map (xct tC (cM M a) (cS0 g)) := rfl
set_option maxRecDepth 100000 in
theorem c0_d : cYard M (a + 36) = (List.range' 36 5).map (xct tC (cM M a) (cS0 g)) := rfl
set_option maxRecDepth 100000 in
theorem c0_e : cShop M (a + 144) (a + 2) (a + 36) (a + 41) = (List.range' 144 4).map (xct tC (cM M a) (cS0 g)) := rfl
set_option maxRecDepth 100000 in
theorem c0_f : cAhead M (a + 148) (a + 2) (a + 36) (a + 41) = (List.range' 148 12).map (xct tC (cM M a) (cS0 g)) := rfl
set_option maxRecDepth 100000 in
theorem c0_g : tkCs M (a + 160) (a + 1) g = (List.range' 160 2).map (xct tC (cM M a) (cS0 g)) := rfl
set_option maxRecDepth 100000 in
theorem c0_h : cYearReader M (a + 162) (a + 160) (a + 19) (a + 19 + 14) = (List.range' 162 2).map (xct tC (cM M a) (cS0 g)) := rfl
set_option maxRecDepth 100000 in
theorem c0_i : cLoans M (a + 164) ++ cPicture M (a + 169) ++ [yI M 61] ++ [yI M 6] = (List.range' 164 14).map (xct tC (cM M a) (cS0 g)) := rfl
set_option maxRecDepth 100000 in
theorem c0_j : [yPo (a + 41)] = (List.range' 41 1).map (xct tC (cM M a) (cS0 g)) := rfl
set_option maxRecDepth 100000 in
theorem c0_k : [yI M 240] = (List.range' 43 1).map (xct tC (cM M a) (cS0 g)) := rfl
set_option maxRecDepth 100000 in
theorem c0_y0 : cYard M (a + 41 + 3 + 5 * 0) = (List.range' 44 5).map (xct tC (cM M a) (cS0 g)) := rfl
set_option maxRecDepth 100000 in
theorem c0_y1 : cYard M (a + 41 + 3 + 5 * 1) = (List.range' 49 5).map (xct tC (cM M a) (cS0 g)) := rfl
set_option maxRecDepth 100000 in
theorem c0_y2 : cYard M (a + 41 + 3 + 5 * 2) = (List.range' 54 5).map (xct tC (cM M a) (cS0 g)) := rfl
set_option maxRecDepth 100000 in
theorem c0_y3 : cYard M (a + 41 + 3 + 5 * 3) = (List.range' 59 5).map (xct tC (cM M a) (cS0 g)) := rfl
set_option maxRecDepth 100000 in
theorem c0_y4 : cYard M (a + 41 + 3 + 5 * 4) = (List.range' 64 5).map (xct tC (cM M a) (cS0 g)) := rfl
set_option maxRecDepth 100000 in
theorem c0_y5 : cYard M (a + 41 + 3 + 5 * 5) = (List.range' 69 5).map (xct tC (cM M a) (cS0 g)) := rfl
set_option maxRecDepth 100000 in
theorem c0_y6 : cYard M (a + 41 + 3 + 5 * 6) = (List.range' 74 5).map (xct tC (cM M a) (cS0 g)) := rfl
set_option maxRecDepth 100000 in
theorem c0_y7 : cYard M (a + 41 + 3 + 5 * 7) = (List.range' 79 5).map (xct tC (cM M a) (cS0 g)) := rfl
set_option maxRecDepth 100000 in
theorem c0_y8 : cYard M (a + 41 + 3 + 5 * 8) = (List.range' 84 5).map (xct tC (cM M a) (cS0 g)) := rfl
set_option maxRecDepth 100000 in
theorem c0_y9 : cYard M (a + 41 + 3 + 5 * 9) = (List.range' 89 5).map (xct tC (cM M a) (cS0 g)) := rfl
set_option maxRecDepth 100000 in
theorem c0_y10 : cYard M (a + 41 + 3 + 5 * 10) = (List.range' 94 5).map (xct tC (cM M a) (cS0 g)) := rfl
set_option maxRecDepth 100000 in
theorem c0_y11 : cYard M (a + 41 + 3 + 5 * 11) = (List.range' 99 5).map (xct tC (cM M a) (cS0 g)) := rfl
set_option maxRecDepth 100000 in
theorem c0_y12 : cYard M (a + 41 + 3 + 5 * 12) = (List.range' 104 5).map (xct tC (cM M a) (cS0 g)) := rfl
set_option maxRecDepth 100000 in
theorem c0_y13 : cYard M (a + 41 + 3 + 5 * 13) = (List.range' 109 5).map (xct tC (cM M a) (cS0 g)) := rfl
set_option maxRecDepth 100000 in
theorem c0_y14 : cYard M (a + 41 + 3 + 5 * 14) = (List.range' 114 5).map (xct tC (cM M a) (cS0 g)) := rfl
set_option maxRecDepth 100000 in
theorem c0_y15 : cYard M (a + 41 + 3 + 5 * 15) = (List.range' 119 5).map (xct tC (cM M a) (cS0 g)) := rfl
set_option maxRecDepth 100000 in
theorem c0_y16 : cYard M (a + 41 + 3 + 5 * 16) = (List.range' 124 5).map (xct tC (cM M a) (cS0 g)) := rfl
set_option maxRecDepth 100000 in
theorem c0_y17 : cYard M (a + 41 + 3 + 5 * 17) = (List.range' 129 5).map (xct tC (cM M a) (cS0 g)) := rfl
set_option maxRecDepth 100000 in
theorem c0_y18 : cYard M (a + 41 + 3 + 5 * 18) = (List.range' 134 5).map (xct tC (cM M a) (cS0 g)) := rfl
set_option maxRecDepth 100000 in
theorem c0_y19 : cYard M (a + 41 + 3 + 5 * 19) = (List.range' 139 5).map (xct tC (cM M a) (cS0 g)) := rfl
theorem c0_y : ∀ n, n < 20 → cYard M (a + 41 + 3 + 5 * n) = (List.range' (44 + 5 * n) 5).map (xct tC (cM M a) (cS0 g))
  | 0, _ => c0_y0
  | 1, _ => c0_y1
  | 2, _ => c0_y2
  | 3, _ => c0_y3
  | 4, _ => c0_y4
  | 5, _ => c0_y5
  | 6, _ => c0_y6
  | 7, _ => c0_y7
  | 8, _ => c0_y8
  | 9, _ => c0_y9
  | 10, _ => c0_y10
  | 11, _ => c0_y11
  | 12, _ => c0_y12
  | 13, _ => c0_y13
  | 14, _ => c0_y14
  | 15, _ => c0_y15
  | 16, _ => c0_y16
  | 17, _ => c0_y17
  | 18, _ => c0_y18
  | 19, _ => c0_y19
  | n + 20, h => absurd h (by omega)
theorem c0_Y : ∀ n, n ≤ 20 → cYards M (a + 41 + 3) n = (List.range' 44 (5 * n)).map (xct tC (cM M a) (cS0 g))
  | 0, _ => rfl
  | n + 1, h => by
    show cYards M (a + 41 + 3) n ++ cYard M (a + 41 + 3 + 5 * n) = _
    rw [c0_Y n (by omega), c0_y (g := g) n (by omega), ← List.map_append]
    congr 1
    have := List.range'_append_1 (s := 44) (m := 5 * n) (n := 5)
    rw [show 5 * (n + 1) = 5 * n + 5 by omega]
    exact this
theorem c0_l : cYards M (a + 41 + 3) 20 = (List.range' 44 100).map (xct tC (cM M a) (cS0 g)) := c0_Y 20 (Nat.le_refl _)
set_option maxRecDepth 100000 in
theorem r178 : List.range 178 = (List.range' 0 2 ++ List.range' 2 17 ++ List.range' 19 17 ++ List.range' 36 5 ++ List.range' 41 1) ++ (List.range' 42 1 ++ (List.range' 43 1 ++ List.range' 44 100 ++ List.range' 144 4 ++ List.range' 148 12 ++ List.range' 160 2 ++ List.range' 162 2 ++ List.range' 164 14)) := rfl
def cP1 (M : xMg) (a : Nat) : List va_E := [.inr (11, [.ref (a + 1), .int 0, .ref (a + 2), .ref (a + 19), .ref (a + 36), .ref (a + 41), .ref (a + 144), .ref (a + 148), .ref (a + 160), .ref (a + 162), .ref (a + 164), .ref (a + 169), .ref (a + 176), .int 0, .ref (a + 177), .int 1]), yI M 1600] ++ cYear M (a + 2) ++ cYear M (a + 19) ++ cYard M (a + 36) ++ [yPo (a + 41)]
def cP2 (M : xMg) (a : Nat) (g : Nat → Int32) : List va_E := [yI M 240] ++ cYards M (a + 41 + 3) 20 ++ cShop M (a + 144) (a + 2) (a + 36) (a + 41) ++ cAhead M (a + 148) (a + 2) (a + 36) (a + 41) ++ tkCs M (a + 160) (a + 1) g ++ cYearReader M (a + 162) (a + 160) (a + 19) (a + 19 + 14) ++ (cLoans M (a + 164) ++ cPicture M (a + 169) ++ [yI M 61] ++ [yI M 6])
theorem cTS_eq {f : Nat → Int32} {N : Nat} : cTS f N M a = cP1 M a ++ (ySv M (a + 41 + 3) 20 :: cP2 M a (tkSt f N).2.2.2) := by
  unfold cTS cP1 cP2 cPast tkCt
  simp only [List.cons_append, List.nil_append, List.append_assoc]
theorem c0_all : xcs tC (cM M a) (cS0 g) = cP1 M a ++ (xct tC (cM M a) (cS0 g) 42 :: cP2 M a g) := by
  show (List.range 178).map (xct tC (cM M a) (cS0 g)) = _
  rw [r178]
  simp only [List.map_append]
  rw [← c0_a, ← c0_b, ← c0_c, ← c0_d, ← c0_j, ← c0_k, ← c0_l, ← c0_e, ← c0_f, ← c0_g, ← c0_h, ← c0_i]
  rfl
end Q9zq

