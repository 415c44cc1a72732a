
abbrev yI (M : xMg) (n : Nat) : va_E := .inl (M.2.2.1, n, .inl (fun _ => 0))
abbrev yJ (M : xMg) (n : Nat) : va_E := .inl (M.2.2.2.1, n, .inr (.inl (fun _ => 0)))
abbrev yZ (M : xMg) (n : Nat) : va_E := .inl (M.2.2.2.2.1, n, .inl (fun _ => 0))
section YE
variable {Γ : xGm} {M : xMg} {a kc ks pc : Nat} {ex : va_W} {R : Room} {cc : ByteArray} {own : String} {L : Nat → Option Value} {st : List Value} {cs cs' : List va_E}
theorem y_newE {C : String} {Tt : u_T} {tt : Nat → FieldType} {c N idx n : Nat} {fs : List Value} (o : yOk Γ M a ex R cc own) (hc : xCls c C Tt N tt) (h1 : Cond.classLink own idx C ∈ xWS) (h2 : Cond.instantiable C N ∈ xWS) (h3 : Cond.initialized C ∈ xWS) (hfs : ∀ j, j < N → defaultValue (tt j) = vp_V fs j) (hR : kc + 1 ≤ R.cells ∧ ks + N ≤ R.slots) (hd : decode cc pc = .ok (.new idx, 3)) (hn : cs.length = n) (hcs : cs ++ [.inr (c, fs)] = cs') (k : yAt Γ M a ex (kc + 1) (ks + N) (pc + 3) L (.ref (a + n) :: st) cs') : yAt Γ M a ex kc ks pc L st cs := by
  subst hn; subst hcs; exact y_new o hc h1 h2 h3 hfs hR hd k
theorem y_newI {n : Int32} {N' p : Nat} (o : yOk Γ M a ex R cc own) (h1 : Cond.arrayClass (newarray.typeOf .int) ∈ xWS) (hn : ¬ n < 0) (hN : n.toNatClampNeg = N') (hbytes : N' ≤ 100000) (hR : kc + 1 ≤ R.cells ∧ ks + N' ≤ R.slots) (hd : decode cc pc = .ok (.newarray .int, 2)) (hp : cs.length = p) (hcs : cs ++ [yI M N'] = cs') (k : yAt Γ M a ex (kc + 1) (ks + N') (pc + 2) L (.ref (a + p) :: st) cs') : yAt Γ M a ex kc ks pc L (.int n :: st) cs := by
  subst hp; subst hcs
  exact y_newarr (ty := .int) (t0 := 0) (cA := M.2.2.1) (a0 := (N', .inl (fun _ => 0))) o rfl h1 rfl (fun h => h) (fun _ => rfl) hn hN (by show N' * 4 ≤ _; omega) hR hd k
theorem y_newJ {n : Int32} {N' p : Nat} (o : yOk Γ M a ex R cc own) (h1 : Cond.arrayClass (newarray.typeOf .long) ∈ xWS) (hn : ¬ n < 0) (hN : n.toNatClampNeg = N') (hbytes : N' ≤ 100000) (hR : kc + 1 ≤ R.cells ∧ ks + N' ≤ R.slots) (hd : decode cc pc = .ok (.newarray .long, 2)) (hp : cs.length = p) (hcs : cs ++ [yJ M N'] = cs') (k : yAt Γ M a ex (kc + 1) (ks + N') (pc + 2) L (.ref (a + p) :: st) cs') : yAt Γ M a ex kc ks pc L (.int n :: st) cs := by
  subst hp; subst hcs
  exact y_newarr (ty := .long) (t0 := 1) (cA := M.2.2.2.1) (a0 := (N', .inr (.inl (fun _ => 0)))) o rfl h1 rfl (fun h => h) (fun _ => rfl) hn hN (by show N' * 8 ≤ _; omega) hR hd k
theorem y_newZ {n : Int32} {N' p : Nat} (o : yOk Γ M a ex R cc own) (h1 : Cond.arrayClass (newarray.typeOf .boolean) ∈ xWS) (hn : ¬ n < 0) (hN : n.toNatClampNeg = N') (hbytes : N' ≤ 100000) (hR : kc + 1 ≤ R.cells ∧ ks + N' ≤ R.slots) (hd : decode cc pc = .ok (.newarray .boolean, 2)) (hp : cs.length = p) (hcs : cs ++ [yZ M N'] = cs') (k : yAt Γ M a ex (kc + 1) (ks + N') (pc + 2) L (.ref (a + p) :: st) cs') : yAt Γ M a ex kc ks pc L (.int n :: st) cs := by
  subst hp; subst hcs
  exact y_newarr (ty := .boolean) (t0 := 2) (cA := M.2.2.2.2.1) (a0 := (N', .inl (fun _ => 0))) o rfl h1 rfl (fun h => h) (fun _ => rfl) hn hN (by show N' * 1 ≤ _; omega) hR hd k
theorem y_putNE {c N j p idx : Nat} {C : String} {Tt : u_T} {tt : Nat → FieldType} {v : Value} {fs : List Value} (o : yOk Γ M a ex R cc own) (hc : xCls c C Tt N tt) (hj : j < N) (hl : Cond.fieldLink own idx (Tt j).1 (Tt j).2.1 (Tt j).2.2.1 ∈ xWS) (hfin : (Tt j).2.2.2 = false) (hp : cs[p]? = some (.inr (c, fs))) (hfl : j < fs.length) (hn : narrow (tt j) v = v) (hfit : fits (tt j) v = true) (hd : decode cc pc = .ok (.putfield idx, 3)) (hcs : cs.set p (.inr (c, fs.set j v)) = cs') (k : yAt Γ M a ex kc ks (pc + 3) L st cs') : yAt Γ M a ex kc ks pc L (v :: .ref (a + p) :: st) cs := by
  subst hcs; exact y_putN o hc hj hl hfin hp hfl hn hfit hd k
theorem y_putFE {c N j p idx : Nat} {C : String} {Tt : u_T} {tt : Nat → FieldType} {v : Value} {fs : List Value} (o : yOk Γ M a ex R cc own) (hin2 : Γ.1.2.2.2.2.2.2.2.2.1.name = "<init>") (hc : xCls c C Tt N tt) (hj : j < N) (hl : Cond.fieldLink own idx (Tt j).1 (Tt j).2.1 (Tt j).2.2.1 ∈ xWS) (hfin : (Tt j).2.2.2 = true) (hdecl : (Tt j).1 = own) (hp : cs[p]? = some (.inr (c, fs))) (hfl : j < fs.length) (hn : narrow (tt j) v = v) (hfit : fits (tt j) v = true) (hd : decode cc pc = .ok (.putfield idx, 3)) (hcs : cs.set p (.inr (c, fs.set j v)) = cs') (k : yAt Γ M a ex kc ks (pc + 3) L st cs') : yAt Γ M a ex kc ks pc L (v :: .ref (a + p) :: st) cs := by
  subst hcs; exact y_putF o hin2 hc hj hl hfin hdecl hp hfl hn hfit hd k
theorem y_callE {y : MethodName} {cc' : ByteArray} {mL d' mc ms n idx b : Nat} {As rest : List Value} {pre cs1 : List va_E} {x : va_E} {ex' : va_W} (o : yOk Γ M a ex R cc own) (hb : pre.length = b) (hM : yMet Γ.1.2.1 y cc' mL d' mc ms M (a + b) ex' (.ref (a + b) :: As) [x] cs1) (hy : xCaI y cc' mL n) (hlk : Cond.methodLink own idx y ∈ xWS) (hR : d' + 1 ≤ R.frames ∧ 8 + (mL + 11) + 64 * d' ≤ R.locals ∧ kc + mc ≤ R.cells ∧ ks + ms ≤ R.slots) (hcs : cs = pre ++ [x]) (hex : ∀ q ∈ ex', q ∈ ex ∨ q ∈ ywl a pre) (hn : As.length = n) (hst : st = As.reverse ++ .ref (a + b) :: rest) (hcat : (rest.map fun v => v.category).sum ≤ 8) (hd : decode cc pc = .ok (.invokespecial idx, 3)) (hcs' : pre ++ cs1 = cs') (k : yAt Γ M a ex (kc + mc) (ks + ms) (pc + 3) L rest cs') : yAt Γ M a ex kc ks pc L st cs := by
  subst hb; subst hcs'; exact y_call o hM hy hlk hR hcs hex hn hst hcat hd k
end YE
theorem dfX0 : ∀ j, j < 12 → defaultValue (tyX0 j) = vp_V [.null, .null, .null, .null, .null, .null, .int 0, .int 0, .int 0, .int 0, .int 0, .int 0] j := by
  have : (List.range 12).all (fun j => decide (defaultValue (tyX0 j) = vp_V [.null, .null, .null, .null, .null, .null, .int 0, .int 0, .int 0, .int 0, .int 0, .int 0] j)) = true := by decide +kernel
  intro j hj
  exact of_decide_eq_true (List.all_eq_true.mp this j (List.mem_range.mpr hj))
theorem inX0_w : Cond.instantiable RX0 12 ∈ xWS := xWS_in (inC2 (List.mem_of_getElem? (i := 61) (by decide +kernel))) (by decide +kernel)
theorem itX0_w : Cond.initialized RX0 ∈ xWS := xWS_in (inC1 (List.mem_of_getElem? (i := 7) (by decide +kernel))) (by decide +kernel)
theorem dfX1 : ∀ j, j < 7 → defaultValue (tyX1 j) = vp_V [.null, .null, .int 0, .int 0, .int 0, .int 0, .int 0] j := by
  have : (List.range 7).all (fun j => decide (defaultValue (tyX1 j) = vp_V [.null, .null, .int 0, .int 0, .int 0, .int 0, .int 0] j)) = true := by decide +kernel
  intro j hj
  exact of_decide_eq_true (List.all_eq_true.mp this j (List.mem_range.mpr hj))
theorem inX1_w : Cond.instantiable RX1 7 ∈ xWS := xWS_in (inC1 (List.mem_of_getElem? (i := 37) (by decide +kernel))) (by decide +kernel)
theorem itX1_w : Cond.initialized RX1 ∈ xWS := xWS_in (inC1 (List.mem_of_getElem? (i := 3) (by decide +kernel))) (by decide +kernel)
theorem dfX2 : ∀ j, j < 4 → defaultValue (tyX2 j) = vp_V [.null, .null, .null, .null] j := by
  have : (List.range 4).all (fun j => decide (defaultValue (tyX2 j) = vp_V [.null, .null, .null, .null] j)) = true := by decide +kernel
  intro j hj
  exact of_decide_eq_true (List.all_eq_true.mp this j (List.mem_range.mpr hj))
theorem inX2_w : Cond.instantiable RX2 4 ∈ xWS := xWS_in (inC3 (List.mem_of_getElem? (i := 8) (by decide +kernel))) (by decide +kernel)
theorem itX2_w : Cond.initialized RX2 ∈ xWS := xWS_in (inC1 (List.mem_of_getElem? (i := 15) (by decide +kernel))) (by decide +kernel)
theorem dfX3 : ∀ j, j < 4 → defaultValue (tyX3 j) = vp_V [.null, .null, .int 0, .int 0] j := by
  have : (List.range 4).all (fun j => decide (defaultValue (tyX3 j) = vp_V [.null, .null, .int 0, .int 0] j)) = true := by decide +kernel
  intro j hj
  exact of_decide_eq_true (List.all_eq_true.mp this j (List.mem_range.mpr hj))
theorem inX3_w : Cond.instantiable RX3 4 ∈ xWS := xWS_in (inC1 (List.mem_of_getElem? (i := 233) (by decide +kernel))) (by decide +kernel)
theorem itX3_w : Cond.initialized RX3 ∈ xWS := xWS_in (inC1 (List.mem_of_getElem? (i := 5) (by decide +kernel))) (by decide +kernel)
theorem dfX4 : ∀ j, j < 5 → defaultValue (tyX4 j) = vp_V [.null, .int 0, .null, .int 0, .int 0] j := by
  have : (List.range 5).all (fun j => decide (defaultValue (tyX4 j) = vp_V [.null, .int 0, .null, .int 0, .int 0] j)) = true := by decide +kernel
  intro j hj
  exact of_decide_eq_true (List.all_eq_true.mp this j (List.mem_range.mpr hj))
theorem inX4_w : Cond.instantiable RX4 5 ∈ xWS := xWS_in (inC3 (List.mem_of_getElem? (i := 30) (by decide +kernel))) (by decide +kernel)
theorem itX4_w : Cond.initialized RX4 ∈ xWS := xWS_in (inC1 (List.mem_of_getElem? (i := 16) (by decide +kernel))) (by decide +kernel)
theorem dfX5 : ∀ j, j < 3 → defaultValue (tyX5 j) = vp_V [.null, .null, .int 0] j := by
  have : (List.range 3).all (fun j => decide (defaultValue (tyX5 j) = vp_V [.null, .null, .int 0] j)) = true := by decide +kernel
  intro j hj
  exact of_decide_eq_true (List.all_eq_true.mp this j (List.mem_range.mpr hj))
theorem inX5_w : Cond.instantiable RX5 3 ∈ xWS := xWS_in (inC2 (List.mem_of_getElem? (i := 222) (by decide +kernel))) (by decide +kernel)
theorem itX5_w : Cond.initialized RX5 ∈ xWS := xWS_in (inC1 (List.mem_of_getElem? (i := 14) (by decide +kernel))) (by decide +kernel)
theorem dfX6 : ∀ j, j < 11 → defaultValue (tyX6 j) = vp_V [.null, .null, .null, .null, .null, .null, .int 0, .int 0, .int 0, .int 0, .int 0] j := by
  have : (List.range 11).all (fun j => decide (defaultValue (tyX6 j) = vp_V [.null, .null, .null, .null, .null, .null, .int 0, .int 0, .int 0, .int 0, .int 0] j)) = true := by decide +kernel
  intro j hj
  exact of_decide_eq_true (List.all_eq_true.mp this j (List.mem_range.mpr hj))
theorem inX6_w : Cond.instantiable RX6 11 ∈ xWS := xWS_in (inC2 (List.mem_of_getElem? (i := 16) (by decide +kernel))) (by decide +kernel)
theorem itX6_w : Cond.initialized RX6 ∈ xWS := xWS_in (inC1 (List.mem_of_getElem? (i := 6) (by decide +kernel))) (by decide +kernel)
theorem dfX7 : ∀ j, j < 11 → defaultValue (tyX7 j) = vp_V [.null, .null, .int 0, .int 0, .int 0, .int 0, .int 0, .int 0, .int 0, .int 0, .int 0] j := by
  have : (List.range 11).all (fun j => decide (defaultValue (tyX7 j) = vp_V [.null, .null, .int 0, .int 0, .int 0, .int 0, .int 0, .int 0, .int 0, .int 0, .int 0] j)) = true := by decide +kernel
  intro j hj
  exact of_decide_eq_true (List.all_eq_true.mp this j (List.mem_range.mpr hj))
theorem inX7_w : Cond.instantiable RX7 11 ∈ xWS := xWS_in (inC2 (List.mem_of_getElem? (i := 113) (by decide +kernel))) (by decide +kernel)
theorem itX7_w : Cond.initialized RX7 ∈ xWS := xWS_in (inC1 (List.mem_of_getElem? (i := 8) (by decide +kernel))) (by decide +kernel)
theorem dfX8 : ∀ j, j < 9 → defaultValue (tyX8 j) = vp_V [.int 0, .int 0, .int 0, .int 0, .int 0, .null, .null, .null, .null] j := by
  have : (List.range 9).all (fun j => decide (defaultValue (tyX8 j) = vp_V [.int 0, .int 0, .int 0, .int 0, .int 0, .null, .null, .null, .null] j)) = true := by decide +kernel
  intro j hj
  exact of_decide_eq_true (List.all_eq_true.mp this j (List.mem_range.mpr hj))
theorem inX8_w : Cond.instantiable RX8 9 ∈ xWS := xWS_in (inC1 (List.mem_of_getElem? (i := 169) (by decide +kernel))) (by decide +kernel)
theorem itX8_w : Cond.initialized RX8 ∈ xWS := xWS_in (inC1 (List.mem_of_getElem? (i := 4) (by decide +kernel))) (by decide +kernel)
theorem dfX9 : ∀ j, j < 19 → defaultValue (tyX9 j) = vp_V [.null, .null, .null, .null, .null, .null, .null, .null, .null, .null, .null, .null, .null, .null, .int 0, .int 0, .int 0, .int 0, .int 0] j := by
  have : (List.range 19).all (fun j => decide (defaultValue (tyX9 j) = vp_V [.null, .null, .null, .null, .null, .null, .null, .null, .null, .null, .null, .null, .null, .null, .int 0, .int 0, .int 0, .int 0, .int 0] j)) = true := by decide +kernel
  intro j hj
  exact of_decide_eq_true (List.all_eq_true.mp this j (List.mem_range.mpr hj))
theorem inX9_w : Cond.instantiable RX9 19 ∈ xWS := xWS_in (inC1 (List.mem_of_getElem? (i := 31) (by decide +kernel))) (by decide +kernel)
theorem itX9_w : Cond.initialized RX9 ∈ xWS := xWS_in (inC1 (List.mem_of_getElem? (i := 2) (by decide +kernel))) (by decide +kernel)
theorem dfX10 : ∀ j, j < 3 → defaultValue (tyX10 j) = vp_V [.null, .null, .null] j := by
  have : (List.range 3).all (fun j => decide (defaultValue (tyX10 j) = vp_V [.null, .null, .null] j)) = true := by decide +kernel
  intro j hj
  exact of_decide_eq_true (List.all_eq_true.mp this j (List.mem_range.mpr hj))
theorem inX10_w : Cond.instantiable RX10 3 ∈ xWS := xWS_in (inC2 (List.mem_of_getElem? (i := 216) (by decide +kernel))) (by decide +kernel)
theorem itX10_w : Cond.initialized RX10 ∈ xWS := xWS_in (inC1 (List.mem_of_getElem? (i := 13) (by decide +kernel))) (by decide +kernel)
theorem dfX11 : ∀ j, j < 16 → defaultValue (tyX11 j) = vp_V [.null, .int 0, .null, .null, .null, .null, .null, .null, .null, .null, .null, .null, .null, .int 0, .null, .int 0] j := by
  have : (List.range 16).all (fun j => decide (defaultValue (tyX11 j) = vp_V [.null, .int 0, .null, .null, .null, .null, .null, .null, .null, .null, .null, .null, .null, .int 0, .null, .int 0] j)) = true := by decide +kernel
  intro j hj
  exact of_decide_eq_true (List.all_eq_true.mp this j (List.mem_range.mpr hj))
theorem inX11_w : Cond.instantiable RX11 16 ∈ xWS := xWS_in (inC1 (List.mem_of_getElem? (i := 23) (by decide +kernel))) (by decide +kernel)
theorem itX11_w : Cond.initialized RX11 ∈ xWS := xWS_in (inC1 (List.mem_of_getElem? (i := 1) (by decide +kernel))) (by decide +kernel)
theorem dfX12 : ∀ j, j < 87 → defaultValue (tyX12 j) = vp_V [.null, .int 0, .int 0, .int 0, .int 0, .int 0, .int 0, .long 0, .int 0, .int 0, .int 0, .int 0, .int 0, .int 0, .null, .null, .null, .null, .null, .null, .null, .null, .null, .null, .null, .null, .null, .null, .null, .null, .null, .null, .null, .null, .null, .null, .null, .null, .null, .int 0, .int 0, .int 0, .null, .null, .null, .null, .null, .int 0, .int 0, .null, .int 0, .int 0, .int 0, .null, .null, .null, .null, .null, .null, .null, .null, .null, .null, .null, .int 0, .int 0, .long 0, .null, .null, .int 0, .int 0, .int 0, .null, .int 0, .int 0, .int 0, .null, .null, .null, .null, .null, .null, .null, .int 0, .null, .null, .int 0] j := by
  have : (List.range 87).all (fun j => decide (defaultValue (tyX12 j) = vp_V [.null, .int 0, .int 0, .int 0, .int 0, .int 0, .int 0, .long 0, .int 0, .int 0, .int 0, .int 0, .int 0, .int 0, .null, .null, .null, .null, .null, .null, .null, .null, .null, .null, .null, .null, .null, .null, .null, .null, .null, .null, .null, .null, .null, .null, .null, .null, .null, .int 0, .int 0, .int 0, .null, .null, .null, .null, .null, .int 0, .int 0, .null, .int 0, .int 0, .int 0, .null, .null, .null, .null, .null, .null, .null, .null, .null, .null, .null, .int 0, .int 0, .long 0, .null, .null, .int 0, .int 0, .int 0, .null, .int 0, .int 0, .int 0, .null, .null, .null, .null, .null, .null, .null, .int 0, .null, .null, .int 0] j)) = true := by decide +kernel
  intro j hj
  exact of_decide_eq_true (List.all_eq_true.mp this j (List.mem_range.mpr hj))
theorem inX12_w : Cond.instantiable RX12 87 ∈ xWS := xWS_in (inC6 (List.mem_of_getElem? (i := 167) (by decide +kernel))) (by decide +kernel)
theorem itX12_w : Cond.initialized RX12 ∈ xWS := xWS_in (inC1 (List.mem_of_getElem? (i := 17) (by decide +kernel))) (by decide +kernel)
theorem ar_int : Cond.arrayClass (newarray.typeOf .int) ∈ xWS := xWS_in (inC1 (List.mem_of_getElem? (i := 73) (by decide +kernel))) (by decide +kernel)
theorem ar_long : Cond.arrayClass (newarray.typeOf .long) ∈ xWS := xWS_in (inC7 (List.mem_of_getElem? (i := 198) (by decide +kernel))) (by decide +kernel)
theorem ar_boolean : Cond.arrayClass (newarray.typeOf .boolean) ∈ xWS := xWS_in (inC7 (List.mem_of_getElem? (i := 199) (by decide +kernel))) (by decide +kernel)
theorem w_oi1 : Cond.instanceMethod Lib.objectInit ∈ xWS := xWS_in (inC1 (List.mem_of_getElem? (i := 28) (by decide +kernel))) (by decide +kernel)
theorem w_oi2 : Cond.code Lib.objectInit ⟨#[0xb1]⟩ 1 none ∈ xWS := xWS_in (inC1 (List.mem_of_getElem? (i := 29) rfl)) rfl
theorem ymX8_3 : Cond.methodLink RX8 3 Lib.objectInit ∈ xWS := xWS_in (inC1 (List.mem_of_getElem? (i := 173) (by decide +kernel))) (by decide +kernel)
theorem ylX8_9 : Cond.fieldLink RX8 9 (TX8 5).1 (TX8 5).2.1 (TX8 5).2.2.1 ∈ xWS := xWS_in (inC1 (List.mem_of_getElem? (i := 197) (by decide +kernel))) (by decide +kernel)
theorem ylX8_15 : Cond.fieldLink RX8 15 (TX8 6).1 (TX8 6).2.1 (TX8 6).2.2.1 ∈ xWS := xWS_in (inC1 (List.mem_of_getElem? (i := 201) (by decide +kernel))) (by decide +kernel)
theorem ylX8_18 : Cond.fieldLink RX8 18 (TX8 7).1 (TX8 7).2.1 (TX8 7).2.2.1 ∈ xWS := xWS_in (inC1 (List.mem_of_getElem? (i := 204) (by decide +kernel))) (by decide +kernel)
theorem ylX8_21 : Cond.fieldLink RX8 21 (TX8 8).1 (TX8 8).2.1 (TX8 8).2.2.1 ∈ xWS := xWS_in (inC1 (List.mem_of_getElem? (i := 209) (by decide +kernel))) (by decide +kernel)
def cYard (M : xMg) (a : Nat) : List va_E := (.inr (8, [.int 0, .int 0, .int 0, .int 0, .int 0, .ref (a + 1), .ref (a + 2), .ref (a + 3), .ref (a + 4)]) :: ([yI M 8] ++ [yI M 48] ++ [yI M 6] ++ [yI M 6]) : List va_E)
set_option maxRecDepth 100000 in
theorem eX8_init : xCaI yX8_init cX8_init 1 0 := ⟨xWS_in (inC1 (List.mem_of_getElem? (i := 172) rfl)) rfl, xWS_in (inC1 (List.mem_of_getElem? (i := 171) (by decide +kernel))) (by decide +kernel), xWS_in (inC1 (List.mem_of_getElem? (i := 4) (by decide +kernel))) (by decide +kernel), rfl, by decide +kernel, by decide +kernel, by decide +kernel, by decide⟩
set_option maxHeartbeats 8000000 in
set_option maxRecDepth 100000 in
theorem yX8_init_ok (l : Launch) (M : xMg) (a : Nat) : yMet l yX8_init cX8_init 1 1 4 68 M a [] [.ref a] [.inr (8, [.int 0, .int 0, .int 0, .int 0, .int 0, .null, .null, .null, .null])] (cYard M a ) := by
  refine y_met (plainFor_of_name (by decide)) rfl (Nat.le_of_ble_eq_true rfl) (fun q h => absurd h List.not_mem_nil) (fun Γ hnL hl hlk hin hQ hret o => ?_)
  subst hl
  have o : yOk Γ M a _ (xrm2 1 4 68) cX8_init RX8 := o
  refine y_to (l := [(0, .ref a)]) ⟨rfl, trivial⟩ ?_
  refine y_aload_n (pc := 0) o dX8_init_0 rfl rfl ?_
  refine y_objInit (pc := 1) o ymX8_3 w_oi1 w_oi2 ⟨Nat.le_of_ble_eq_true rfl, Nat.le_of_ble_eq_true rfl⟩ (Nat.le_of_ble_eq_true rfl) dX8_init_1 ?_
  refine y_aload_n (pc := 4) o dX8_init_4 rfl rfl ?_
  refine y_bipush (pc := 5) (v := 8) o dX8_init_5 (by decide +kernel) ?_
  refine y_newI (pc := 7) (N' := 8) (p := 1) (cs' := (.inr (8, [.int 0, .int 0, .int 0, .int 0, .int 0, .null, .null, .null, .null]) :: ([yI M 8]) : List va_E)) o ar_int (by decide) rfl (by decide) ⟨Nat.le_of_ble_eq_true rfl, Nat.le_of_ble_eq_true rfl⟩ dX8_init_7 rfl rfl ?_
  refine y_putFE (pc := 9) (p := 0) (j := 5) (fs := [.int 0, .int 0, .int 0, .int 0, .int 0, .null, .null, .null, .null]) (cs' := (.inr (8, [.int 0, .int 0, .int 0, .int 0, .int 0, .ref (a + 1), .null, .null, .null]) :: ([yI M 8]) : List va_E)) o hin clX8 (by decide) ylX8_9 rfl rfl rfl (Nat.le_of_ble_eq_true rfl) rfl rfl dX8_init_9 rfl ?_
  refine y_aload_n (pc := 12) o dX8_init_12 rfl rfl ?_
  refine y_bipush (pc := 13) (v := 48) o dX8_init_13 (by decide +kernel) ?_
  refine y_newI (pc := 15) (N' := 48) (p := 2) (cs' := (.inr (8, [.int 0, .int 0, .int 0, .int 0, .int 0, .ref (a + 1), .null, .null, .null]) :: ([yI M 8] ++ [yI M 48]) : List va_E)) o ar_int (by decide) rfl (by decide) ⟨Nat.le_of_ble_eq_true rfl, Nat.le_of_ble_eq_true rfl⟩ dX8_init_15 rfl rfl ?_
  refine y_putFE (pc := 17) (p := 0) (j := 6) (fs := [.int 0, .int 0, .int 0, .int 0, .int 0, .ref (a + 1), .null, .null, .null]) (cs' := (.inr (8, [.int 0, .int 0, .int 0, .int 0, .int 0, .ref (a + 1), .ref (a + 2), .null, .null]) :: ([yI M 8] ++ [yI M 48]) : List va_E)) o hin clX8 (by decide) ylX8_15 rfl rfl rfl (Nat.le_of_ble_eq_true rfl) rfl rfl dX8_init_17 rfl ?_
  refine y_aload_n (pc := 20) o dX8_init_20 rfl rfl ?_
  refine y_bipush (pc := 21) (v := 6) o dX8_init_21 (by decide +kernel) ?_
  refine y_newI (pc := 23) (N' := 6) (p := 3) (cs' := (.inr (8, [.int 0, .int 0, .int 0, .int 0, .int 0, .ref (a + 1), .ref (a + 2), .null, .null]) :: ([yI M 8] ++ [yI M 48] ++ [yI M 6]) : List va_E)) o ar_int (by decide) rfl (by decide) ⟨Nat.le_of_ble_eq_true rfl, Nat.le_of_ble_eq_true rfl⟩ dX8_init_23 rfl rfl ?_
  refine y_putFE (pc := 25) (p := 0) (j := 7) (fs := [.int 0, .int 0, .int 0, .int 0, .int 0, .ref (a + 1), .ref (a + 2), .null, .null]) (cs' := (.inr (8, [.int 0, .int 0, .int 0, .int 0, .int 0, .ref (a + 1), .ref (a + 2), .ref (a + 3), .null]) :: ([yI M 8] ++ [yI M 48] ++ [yI M 6]) : List va_E)) o hin clX8 (by decide) ylX8_18 rfl rfl rfl (Nat.le_of_ble_eq_true rfl) rfl rfl dX8_init_25 rfl ?_
  refine y_aload_n (pc := 28) o dX8_init_28 rfl rfl ?_
  refine y_bipush (pc := 29) (v := 6) o dX8_init_29 (by decide +kernel) ?_
  refine y_newI (pc := 31) (N' := 6) (p := 4) (cs' := (.inr (8, [.int 0, .int 0, .int 0, .int 0, .int 0, .ref (a + 1), .ref (a + 2), .ref (a + 3), .null]) :: ([yI M 8] ++ [yI M 48] ++ [yI M 6] ++ [yI M 6]) : List va_E)) o ar_int (by decide) rfl (by decide) ⟨Nat.le_of_ble_eq_true rfl, Nat.le_of_ble_eq_true rfl⟩ dX8_init_31 rfl rfl ?_
  refine y_putFE (pc := 33) (p := 0) (j := 8) (fs := [.int 0, .int 0, .int 0, .int 0, .int 0, .ref (a + 1), .ref (a + 2), .ref (a + 3), .null]) (cs' := (.inr (8, [.int 0, .int 0, .int 0, .int 0, .int 0, .ref (a + 1), .ref (a + 2), .ref (a + 3), .ref (a + 4)]) :: ([yI M 8] ++ [yI M 48] ++ [yI M 6] ++ [yI M 6]) : List va_E)) o hin clX8 (by decide) ylX8_21 rfl rfl rfl (Nat.le_of_ble_eq_true rfl) rfl rfl dX8_init_33 rfl ?_
  exact y_vreturn (pc := 36) o hlk hQ hret dX8_init_36 rfl
theorem ymX1_3 : Cond.methodLink RX1 3 Lib.objectInit ∈ xWS := xWS_in (inC1 (List.mem_of_getElem? (i := 41) (by decide +kernel))) (by decide +kernel)
theorem ylX1_9 : Cond.fieldLink RX1 9 (TX1 0).1 (TX1 0).2.1 (TX1 0).2.2.1 ∈ xWS := xWS_in (inC1 (List.mem_of_getElem? (i := 42) (by decide +kernel))) (by decide +kernel)
theorem ylX1_15 : Cond.fieldLink RX1 15 (TX1 1).1 (TX1 1).2.1 (TX1 1).2.2.1 ∈ xWS := xWS_in (inC1 (List.mem_of_getElem? (i := 43) (by decide +kernel))) (by decide +kernel)
def cCode (M : xMg) (a : Nat) : List va_E := (.inr (1, [.ref (a + 1), .ref (a + 2), .int 0, .int 0, .int 0, .int 0, .int 0]) :: ([yI M 1600] ++ [yI M 64]) : List va_E)
set_option maxRecDepth 100000 in
theorem eX1_init : xCaI yX1_init cX1_init 1 0 := ⟨xWS_in (inC1 (List.mem_of_getElem? (i := 40) rfl)) rfl, xWS_in (inC1 (List.mem_of_getElem? (i := 39) (by decide +kernel))) (by decide +kernel), xWS_in (inC1 (List.mem_of_getElem? (i := 3) (by decide +kernel))) (by decide +kernel), rfl, by decide +kernel, by decide +kernel, by decide +kernel, by decide⟩
set_option maxHeartbeats 8000000 in
set_option maxRecDepth 100000 in
theorem yX1_init_ok (l : Launch) (M : xMg) (a : Nat) : yMet l yX1_init cX1_init 1 1 2 1664 M a [] [.ref a] [.inr (1, [.null, .null, .int 0, .int 0, .int 0, .int 0, .int 0])] (cCode M a ) := by
  refine y_met (plainFor_of_name (by decide)) rfl (Nat.le_of_ble_eq_true rfl) (fun q h => absurd h List.not_mem_nil) (fun Γ hnL hl hlk hin hQ hret o => ?_)
  subst hl
  have o : yOk Γ M a _ (xrm2 1 2 1664) cX1_init RX1 := o
  refine y_to (l := [(0, .ref a)]) ⟨rfl, trivial⟩ ?_
  refine y_aload_n (pc := 0) o dX1_init_0 rfl rfl ?_
  refine y_objInit (pc := 1) o ymX1_3 w_oi1 w_oi2 ⟨Nat.le_of_ble_eq_true rfl, Nat.le_of_ble_eq_true rfl⟩ (Nat.le_of_ble_eq_true rfl) dX1_init_1 ?_
  refine y_aload_n (pc := 4) o dX1_init_4 rfl rfl ?_
  refine y_sipush (pc := 5) (v := 1600) o dX1_init_5 (by decide +kernel) ?_
  refine y_newI (pc := 8) (N' := 1600) (p := 1) (cs' := (.inr (1, [.null, .null, .int 0, .int 0, .int 0, .int 0, .int 0]) :: ([yI M 1600]) : List va_E)) o ar_int (by decide) rfl (by decide) ⟨Nat.le_of_ble_eq_true rfl, Nat.le_of_ble_eq_true rfl⟩ dX1_init_8 rfl rfl ?_
  refine y_putFE (pc := 10) (p := 0) (j := 0) (fs := [.null, .null, .int 0, .int 0, .int 0, .int 0, .int 0]) (cs' := (.inr (1, [.ref (a + 1), .null, .int 0, .int 0, .int 0, .int 0, .int 0]) :: ([yI M 1600]) : List va_E)) o hin clX1 (by decide) ylX1_9 rfl rfl rfl (Nat.le_of_ble_eq_true rfl) rfl rfl dX1_init_10 rfl ?_
  refine y_aload_n (pc := 13) o dX1_init_13 rfl rfl ?_
  refine y_bipush (pc := 14) (v := 64) o dX1_init_14 (by decide +kernel) ?_
  refine y_newI (pc := 16) (N' := 64) (p := 2) (cs' := (.inr (1, [.ref (a + 1), .null, .int 0, .int 0, .int 0, .int 0, .int 0]) :: ([yI M 1600] ++ [yI M 64]) : List va_E)) o ar_int (by decide) rfl (by decide) ⟨Nat.le_of_ble_eq_true rfl, Nat.le_of_ble_eq_true rfl⟩ dX1_init_16 rfl rfl ?_
  refine y_putFE (pc := 18) (p := 0) (j := 1) (fs := [.ref (a + 1), .null, .int 0, .int 0, .int 0, .int 0, .int 0]) (cs' := (.inr (1, [.ref (a + 1), .ref (a + 2), .int 0, .int 0, .int 0, .int 0, .int 0]) :: ([yI M 1600] ++ [yI M 64]) : List va_E)) o hin clX1 (by decide) ylX1_15 rfl rfl rfl (Nat.le_of_ble_eq_true rfl) rfl rfl dX1_init_18 rfl ?_
  exact y_vreturn (pc := 21) o hlk hQ hret dX1_init_21 rfl
theorem ymX9_3 : Cond.methodLink RX9 3 Lib.objectInit ∈ xWS := xWS_in (inC1 (List.mem_of_getElem? (i := 35) (by decide +kernel))) (by decide +kernel)
theorem ylX9_9 : Cond.fieldLink RX9 9 (TX9 0).1 (TX9 0).2.1 (TX9 0).2.2.1 ∈ xWS := xWS_in (inC1 (List.mem_of_getElem? (i := 74) (by decide +kernel))) (by decide +kernel)
theorem ylX9_15 : Cond.fieldLink RX9 15 (TX9 1).1 (TX9 1).2.1 (TX9 1).2.2.1 ∈ xWS := xWS_in (inC1 (List.mem_of_getElem? (i := 75) (by decide +kernel))) (by decide +kernel)
theorem ylX9_18 : Cond.fieldLink RX9 18 (TX9 2).1 (TX9 2).2.1 (TX9 2).2.2.1 ∈ xWS := xWS_in (inC1 (List.mem_of_getElem? (i := 76) (by decide +kernel))) (by decide +kernel)
theorem ylX9_21 : Cond.fieldLink RX9 21 (TX9 3).1 (TX9 3).2.1 (TX9 3).2.2.1 ∈ xWS := xWS_in (inC1 (List.mem_of_getElem? (i := 80) (by decide +kernel))) (by decide +kernel)
theorem ylX9_24 : Cond.fieldLink RX9 24 (TX9 4).1 (TX9 4).2.1 (TX9 4).2.2.1 ∈ xWS := xWS_in (inC1 (List.mem_of_getElem? (i := 85) (by decide +kernel))) (by decide +kernel)
theorem ylX9_27 : Cond.fieldLink RX9 27 (TX9 5).1 (TX9 5).2.1 (TX9 5).2.2.1 ∈ xWS := xWS_in (inC1 (List.mem_of_getElem? (i := 89) (by decide +kernel))) (by decide +kernel)
theorem ylX9_30 : Cond.fieldLink RX9 30 (TX9 6).1 (TX9 6).2.1 (TX9 6).2.2.1 ∈ xWS := xWS_in (inC1 (List.mem_of_getElem? (i := 92) (by decide +kernel))) (by decide +kernel)
theorem ylX9_33 : Cond.fieldLink RX9 33 (TX9 7).1 (TX9 7).2.1 (TX9 7).2.2.1 ∈ xWS := xWS_in (inC1 (List.mem_of_getElem? (i := 95) (by decide +kernel))) (by decide +kernel)
theorem ylX9_36 : Cond.fieldLink RX9 36 (TX9 8).1 (TX9 8).2.1 (TX9 8).2.2.1 ∈ xWS := xWS_in (inC1 (List.mem_of_getElem? (i := 98) (by decide +kernel))) (by decide +kernel)
theorem ylX9_39 : Cond.fieldLink RX9 39 (TX9 9).1 (TX9 9).2.1 (TX9 9).2.2.1 ∈ xWS := xWS_in (inC1 (List.mem_of_getElem? (i := 104) (by decide +kernel))) (by decide +kernel)
theorem ylX9_42 : Cond.fieldLink RX9 42 (TX9 10).1 (TX9 10).2.1 (TX9 10).2.2.1 ∈ xWS := xWS_in (inC1 (List.mem_of_getElem? (i := 106) (by decide +kernel))) (by decide +kernel)
theorem ylX9_45 : Cond.fieldLink RX9 45 (TX9 11).1 (TX9 11).2.1 (TX9 11).2.2.1 ∈ xWS := xWS_in (inC1 (List.mem_of_getElem? (i := 108) (by decide +kernel))) (by decide +kernel)
theorem ylX9_48 : Cond.fieldLink RX9 48 (TX9 12).1 (TX9 12).2.1 (TX9 12).2.2.1 ∈ xWS := xWS_in (inC1 (List.mem_of_getElem? (i := 110) (by decide +kernel))) (by decide +kernel)
theorem ycX9_51 : Cond.classLink RX9 51 RX1 ∈ xWS := xWS_in (inC1 (List.mem_of_getElem? (i := 36) (by decide +kernel))) (by decide +kernel)
theorem ymX9_53 : Cond.methodLink RX9 53 yX1_init ∈ xWS := xWS_in (inC1 (List.mem_of_getElem? (i := 38) (by decide +kernel))) (by decide +kernel)
theorem ylX9_54 : Cond.fieldLink RX9 54 (TX9 13).1 (TX9 13).2.1 (TX9 13).2.2.1 ∈ xWS := xWS_in (inC1 (List.mem_of_getElem? (i := 112) (by decide +kernel))) (by decide +kernel)
theorem ylX9_58 : Cond.fieldLink RX9 58 (TX9 14).1 (TX9 14).2.1 (TX9 14).2.2.1 ∈ xWS := xWS_in (inC1 (List.mem_of_getElem? (i := 114) (by decide +kernel))) (by decide +kernel)
theorem ylX9_62 : Cond.fieldLink RX9 62 (TX9 15).1 (TX9 15).2.1 (TX9 15).2.2.1 ∈ xWS := xWS_in (inC1 (List.mem_of_getElem? (i := 117) (by decide +kernel))) (by decide +kernel)
theorem ylX9_65 : Cond.fieldLink RX9 65 (TX9 16).1 (TX9 16).2.1 (TX9 16).2.2.1 ∈ xWS := xWS_in (inC1 (List.mem_of_getElem? (i := 120) (by decide +kernel))) (by decide +kernel)
theorem ylX9_68 : Cond.fieldLink RX9 68 (TX9 17).1 (TX9 17).2.1 (TX9 17).2.2.1 ∈ xWS := xWS_in (inC1 (List.mem_of_getElem? (i := 123) (by decide +kernel))) (by decide +kernel)
theorem ylX9_71 : Cond.fieldLink RX9 71 (TX9 18).1 (TX9 18).2.1 (TX9 18).2.2.1 ∈ xWS := xWS_in (inC1 (List.mem_of_getElem? (i := 126) (by decide +kernel))) (by decide +kernel)
def cYear (M : xMg) (a : Nat) : List va_E := (.inr (9, [.ref (a + 1), .ref (a + 2), .ref (a + 3), .ref (a + 4), .ref (a + 5), .ref (a + 6), .ref (a + 7), .ref (a + 8), .ref (a + 9), .ref (a + 10), .ref (a + 11), .ref (a + 12), .ref (a + 13), .ref (a + 14), .int 100, .int 0, .int 9, .int 5, .int 0]) :: ([yI M 32] ++ [yI M 4] ++ [yI M 6] ++ [yI M 6] ++ [yI M 8] ++ [yI M 8] ++ [yI M 48] ++ [yI M 6] ++ [yI M 6] ++ [yI M 24] ++ [yI M 24] ++ [yI M 36] ++ [yI M 6] ++ cCode M (a + 14)) : List va_E)
set_option maxRecDepth 100000 in
theorem eX9_init : xCaI yX9_init cX9_init 1 0 := ⟨xWS_in (inC1 (List.mem_of_getElem? (i := 34) rfl)) rfl, xWS_in (inC1 (List.mem_of_getElem? (i := 33) (by decide +kernel))) (by decide +kernel), xWS_in (inC1 (List.mem_of_getElem? (i := 2) (by decide +kernel))) (by decide +kernel), rfl, by decide +kernel, by decide +kernel, by decide +kernel, by decide⟩
set_option maxHeartbeats 8000000 in
set_option maxRecDepth 100000 in
theorem yX9_init_ok (l : Launch) (M : xMg) (a : Nat) : yMet l yX9_init cX9_init 1 2 16 1885 M a [] [.ref a] [.inr (9, [.null, .null, .null, .null, .null, .null, .null, .null, .null, .null, .null, .null, .null, .null, .int 0, .int 0, .int 0, .int 0, .int 0])] (cYear M a ) := by
  refine y_met (plainFor_of_name (by decide)) rfl (Nat.le_of_ble_eq_true rfl) (fun q h => absurd h List.not_mem_nil) (fun Γ hnL hl hlk hin hQ hret o => ?_)
  subst hl
  have o : yOk Γ M a _ (xrm2 2 16 1885) cX9_init RX9 := o
  refine y_to (l := [(0, .ref a)]) ⟨rfl, trivial⟩ ?_
  refine y_aload_n (pc := 0) o dX9_init_0 rfl rfl ?_
  refine y_objInit (pc := 1) o ymX9_3 w_oi1 w_oi2 ⟨Nat.le_of_ble_eq_true rfl, Nat.le_of_ble_eq_true rfl⟩ (Nat.le_of_ble_eq_true rfl) dX9_init_1 ?_
  refine y_aload_n (pc := 4) o dX9_init_4 rfl rfl ?_
  refine y_bipush (pc := 5) (v := 32) o dX9_init_5 (by decide +kernel) ?_
  refine y_newI (pc := 7) (N' := 32) (p := 1) (cs' := (.inr (9, [.null, .null, .null, .null, .null, .null, .null, .null, .null, .null, .null, .null, .null, .null, .int 0, .int 0, .int 0, .int 0, .int 0]) :: ([yI M 32]) : List va_E)) o ar_int (by decide) rfl (by decide) ⟨Nat.le_of_ble_eq_true rfl, Nat.le_of_ble_eq_true rfl⟩ dX9_init_7 rfl rfl ?_
  refine y_putFE (pc := 9) (p := 0) (j := 0) (fs := [.null, .null, .null, .null, .null, .null, .null, .null, .null, .null, .null, .null, .null, .null, .int 0, .int 0, .int 0, .int 0, .int 0]) (cs' := (.inr (9, [.ref (a + 1), .null, .null, .null, .null, .null, .null, .null, .null, .null, .null, .null, .null, .null, .int 0, .int 0, .int 0, .int 0, .int 0]) :: ([yI M 32]) : List va_E)) o hin clX9 (by decide) ylX9_9 rfl rfl rfl (Nat.le_of_ble_eq_true rfl) rfl rfl dX9_init_9 rfl ?_
  refine y_aload_n (pc := 12) o dX9_init_12 rfl rfl ?_
  refine y_iconst (pc := 13) o dX9_init_13 ic_4 ?_
  refine y_newI (pc := 14) (N' := 4) (p := 2) (cs' := (.inr (9, [.ref (a + 1), .null, .null, .null, .null, .null, .null, .null, .null, .null, .null, .null, .null, .null, .int 0, .int 0, .int 0, .int 0, .int 0]) :: ([yI M 32] ++ [yI M 4]) : List va_E)) o ar_int (by decide) rfl (by decide) ⟨Nat.le_of_ble_eq_true rfl, Nat.le_of_ble_eq_true rfl⟩ dX9_init_14 rfl rfl ?_
  refine y_putFE (pc := 16) (p := 0) (j := 1) (fs := [.ref (a + 1), .null, .null, .null, .null, .null, .null, .null, .null, .null, .null, .null, .null, .null, .int 0, .int 0, .int 0, .int 0, .int 0]) (cs' := (.inr (9, [.ref (a + 1), .ref (a + 2), .null, .null, .null, .null, .null, .null, .null, .null, .null, .null, .null, .null, .int 0, .int 0, .int 0, .int 0, .int 0]) :: ([yI M 32] ++ [yI M 4]) : List va_E)) o hin clX9 (by decide) ylX9_15 rfl rfl rfl (Nat.le_of_ble_eq_true rfl) rfl rfl dX9_init_16 rfl ?_
  refine y_aload_n (pc := 19) o dX9_init_19 rfl rfl ?_
  refine y_bipush (pc := 20) (v := 6) o dX9_init_20 (by decide +kernel) ?_
  refine y_newI (pc := 22) (N' := 6) (p := 3) (cs' := (.inr (9, [.ref (a + 1), .ref (a + 2), .null, .null, .null, .null, .null, .null, .null, .null, .null, .null, .null, .null, .int 0, .int 0, .int 0, .int 0, .int 0]) :: ([yI M 32] ++ [yI M 4] ++ [yI M 6]) : List va_E)) o ar_int (by decide) rfl (by decide) ⟨Nat.le_of_ble_eq_true rfl, Nat.le_of_ble_eq_true rfl⟩ dX9_init_22 rfl rfl ?_
  refine y_putFE (pc := 24) (p := 0) (j := 2) (fs := [.ref (a + 1), .ref (a + 2), .null, .null, .null, .null, .null, .null, .null, .null, .null, .null, .null, .null, .int 0, .int 0, .int 0, .int 0, .int 0]) (cs' := (.inr (9, [.ref (a + 1), .ref (a + 2), .ref (a + 3), .null, .null, .null, .null, .null, .null, .null, .null, .null, .null, .null, .int 0, .int 0, .int 0, .int 0, .int 0]) :: ([yI M 32] ++ [yI M 4] ++ [yI M 6]) : List va_E)) o hin clX9 (by decide) ylX9_18 rfl rfl rfl (Nat.le_of_ble_eq_true rfl) rfl rfl dX9_init_24 rfl ?_
  refine y_aload_n (pc := 27) o dX9_init_27 rfl rfl ?_
  refine y_bipush (pc := 28) (v := 6) o dX9_init_28 (by decide +kernel) ?_
  refine y_newI (pc := 30) (N' := 6) (p := 4) (cs' := (.inr (9, [.ref (a + 1), .ref (a + 2), .ref (a + 3), .null, .null, .null, .null, .null, .null, .null, .null, .null, .null, .null, .int 0, .int 0, .int 0, .int 0, .int 0]) :: ([yI M 32] ++ [yI M 4] ++ [yI M 6] ++ [yI M 6]) : List va_E)) o ar_int (by decide) rfl (by decide) ⟨Nat.le_of_ble_eq_true rfl, Nat.le_of_ble_eq_true rfl⟩ dX9_init_30 rfl rfl ?_
  refine y_putFE (pc := 32) (p := 0) (j := 3) (fs := [.ref (a + 1), .ref (a + 2), .ref (a + 3), .null, .null, .null, .null, .null, .null, .null, .null, .null, .null, .null, .int 0, .int 0, .int 0, .int 0, .int 0]) (cs' := (.inr (9, [.ref (a + 1), .ref (a + 2), .ref (a + 3), .ref (a + 4), .null, .null, .null, .null, .null, .null, .null, .null, .null, .null, .int 0, .int 0, .int 0, .int 0, .int 0]) :: ([yI M 32] ++ [yI M 4] ++ [yI M 6] ++ [yI M 6]) : List va_E)) o hin clX9 (by decide) ylX9_21 rfl rfl rfl (Nat.le_of_ble_eq_true rfl) rfl rfl dX9_init_32 rfl ?_
  refine y_aload_n (pc := 35) o dX9_init_35 rfl rfl ?_
  refine y_bipush (pc := 36) (v := 8) o dX9_init_36 (by decide +kernel) ?_
  refine y_newI (pc := 38) (N' := 8) (p := 5) (cs' := (.inr (9, [.ref (a + 1), .ref (a + 2), .ref (a + 3), .ref (a + 4), .null, .null, .null, .null, .null, .null, .null, .null, .null, .null, .int 0, .int 0, .int 0, .int 0, .int 0]) :: ([yI M 32] ++ [yI M 4] ++ [yI M 6] ++ [yI M 6] ++ [yI M 8]) : List va_E)) o ar_int (by decide) rfl (by decide) ⟨Nat.le_of_ble_eq_true rfl, Nat.le_of_ble_eq_true rfl⟩ dX9_init_38 rfl rfl ?_
  refine y_putFE (pc := 40) (p := 0) (j := 4) (fs := [.ref (a + 1), .ref (a + 2), .ref (a + 3), .ref (a + 4), .null, .null, .null, .null, .null, .null, .null, .null, .null, .null, .int 0, .int 0, .int 0, .int 0, .int 0]) (cs' := (.inr (9, [.ref (a + 1), .ref (a + 2), .ref (a + 3), .ref (a + 4), .ref (a + 5), .null, .null, .null, .null, .null, .null, .null, .null, .null, .int 0, .int 0, .int 0, .int 0, .int 0]) :: ([yI M 32] ++ [yI M 4] ++ [yI M 6] ++ [yI M 6] ++ [yI M 8]) : List va_E)) o hin clX9 (by decide) ylX9_24 rfl rfl rfl (Nat.le_of_ble_eq_true rfl) rfl rfl dX9_init_40 rfl ?_
  refine y_aload_n (pc := 43) o dX9_init_43 rfl rfl ?_
  refine y_bipush (pc := 44) (v := 8) o dX9_init_44 (by decide +kernel) ?_
  refine y_newI (pc := 46) (N' := 8) (p := 6) (cs' := (.inr (9, [.ref (a + 1), .ref (a + 2), .ref (a + 3), .ref (a + 4), .ref (a + 5), .null, .null, .null, .null, .null, .null, .null, .null, .null, .int 0, .int 0, .int 0, .int 0, .int 0]) :: ([yI M 32] ++ [yI M 4] ++ [yI M 6] ++ [yI M 6] ++ [yI M 8] ++ [yI M 8]) : List va_E)) o ar_int (by decide) rfl (by decide) ⟨Nat.le_of_ble_eq_true rfl, Nat.le_of_ble_eq_true rfl⟩ dX9_init_46 rfl rfl ?_
  refine y_putFE (pc := 48) (p := 0) (j := 5) (fs := [.ref (a + 1), .ref (a + 2), .ref (a + 3), .ref (a + 4), .ref (a + 5), .null, .null, .null, .null, .null, .null, .null, .null, .null, .int 0, .int 0, .int 0, .int 0, .int 0]) (cs' := (.inr (9, [.ref (a + 1), .ref (a + 2), .ref (a + 3), .ref (a + 4), .ref (a + 5), .ref (a + 6), .null, .null, .null, .null, .null, .null, .null, .null, .int 0, .int 0, .int 0, .int 0, .int 0]) :: ([yI M 32] ++ [yI M 4] ++ [yI M 6] ++ [yI M 6] ++ [yI M 8] ++ [yI M 8]) : List va_E)) o hin clX9 (by decide) ylX9_27 rfl rfl rfl (Nat.le_of_ble_eq_true rfl) rfl rfl dX9_init_48 rfl ?_
  refine y_aload_n (pc := 51) o dX9_init_51 rfl rfl ?_
  refine y_bipush (pc := 52) (v := 48) o dX9_init_52 (by decide +kernel) ?_
  refine y_newI (pc := 54) (N' := 48) (p := 7) (cs' := (.inr (9, [.ref (a + 1), .ref (a + 2), .ref (a + 3), .ref (a + 4), .ref (a + 5), .ref (a + 6), .null, .null, .null, .null, .null, .null, .null, .null, .int 0, .int 0, .int 0, .int 0, .int 0]) :: ([yI M 32] ++ [yI M 4] ++ [yI M 6] ++ [yI M 6] ++ [yI M 8] ++ [yI M 8] ++ [yI M 48]) : List va_E)) o ar_int (by decide) rfl (by decide) ⟨Nat.le_of_ble_eq_true rfl, Nat.le_of_ble_eq_true rfl⟩ dX9_init_54 rfl rfl ?_
  refine y_putFE (pc := 56) (p := 0) (j := 6) (fs := [.ref (a + 1), .ref (a + 2), .ref (a + 3), .ref (a + 4), .ref (a + 5), .ref (a + 6), .null, .null, .null, .null, .null, .null, .null, .null, .int 0, .int 0, .int 0, .int 0, .int 0]) (cs' := (.inr (9, [.ref (a + 1), .ref (a + 2), .ref (a + 3), .ref (a + 4), .ref (a + 5), .ref (a + 6), .ref (a + 7), .null, .null, .null, .null, .null, .null, .null, .int 0, .int 0, .int 0, .int 0, .int 0]) :: ([yI M 32] ++ [yI M 4] ++ [yI M 6] ++ [yI M 6] ++ [yI M 8] ++ [yI M 8] ++ [yI M 48]) : List va_E)) o hin clX9 (by decide) ylX9_30 rfl rfl rfl (Nat.le_of_ble_eq_true rfl) rfl rfl dX9_init_56 rfl ?_
  refine y_aload_n (pc := 59) o dX9_init_59 rfl rfl ?_
  refine y_bipush (pc := 60) (v := 6) o dX9_init_60 (by decide +kernel) ?_
  refine y_newI (pc := 62) (N' := 6) (p := 8) (cs' := (.inr (9, [.ref (a + 1), .ref (a + 2), .ref (a + 3), .ref (a + 4), .ref (a + 5), .ref (a + 6), .ref (a + 7), .null, .null, .null, .null, .null, .null, .null, .int 0, .int 0, .int 0, .int 0, .int 0]) :: ([yI M 32] ++ [yI M 4] ++ [yI M 6] ++ [yI M 6] ++ [yI M 8] ++ [yI M 8] ++ [yI M 48] ++ [yI M 6]) : List va_E)) o ar_int (by decide) rfl (by decide) ⟨Nat.le_of_ble_eq_true rfl, Nat.le_of_ble_eq_true rfl⟩ dX9_init_62 rfl rfl ?_
  refine y_putFE (pc := 64) (p := 0) (j := 7) (fs := [.ref (a + 1), .ref (a + 2), .ref (a + 3), .ref (a + 4), .ref (a + 5), .ref (a + 6), .ref (a + 7), .null, .null, .null, .null, .null, .null, .null, .int 0, .int 0, .int 0, .int 0, .int 0]) (cs' := (.inr (9, [.ref (a + 1), .ref (a + 2), .ref (a + 3), .ref (a + 4), .ref (a + 5), .ref (a + 6), .ref (a + 7), .ref (a + 8), .null, .null, .null, .null, .null, .null, .int 0, .int 0, .int 0, .int 0, .int 0]) :: ([yI M 32] ++ [yI M 4] ++ [yI M 6] ++ [yI M 6] ++ [yI M 8] ++ [yI M 8] ++ [yI M 48] ++ [yI M 6]) : List va_E)) o hin clX9 (by decide) ylX9_33 rfl rfl rfl (Nat.le_of_ble_eq_true rfl) rfl rfl dX9_init_64 rfl ?_
  refine y_aload_n (pc := 67) o dX9_init_67 rfl rfl ?_
  refine y_bipush (pc := 68) (v := 6) o dX9_init_68 (by decide +kernel) ?_
  refine y_newI (pc := 70) (N' := 6) (p := 9) (cs' := (.inr (9, [.ref (a + 1), .ref (a + 2), .ref (a + 3), .ref (a + 4), .ref (a + 5), .ref (a + 6), .ref (a + 7), .ref (a + 8), .null, .null, .null, .null, .null, .null, .int 0, .int 0, .int 0, .int 0, .int 0]) :: ([yI M 32] ++ [yI M 4] ++ [yI M 6] ++ [yI M 6] ++ [yI M 8] ++ [yI M 8] ++ [yI M 48] ++ [yI M 6] ++ [yI M 6]) : List va_E)) o ar_int (by decide) rfl (by decide) ⟨Nat.le_of_ble_eq_true rfl, Nat.le_of_ble_eq_true rfl⟩ dX9_init_70 rfl rfl ?_
  refine y_putFE (pc := 72) (p := 0) (j := 8) (fs := [.ref (a + 1), .ref (a + 2), .ref (a + 3), .ref (a + 4), .ref (a + 5), .ref (a + 6), .ref (a + 7), .ref (a + 8), .null, .null, .null, .null, .null, .null, .int 0, .int 0, .int 0, .int 0, .int 0]) (cs' := (.inr (9, [.ref (a + 1), .ref (a + 2), .ref (a + 3), .ref (a + 4), .ref (a + 5), .ref (a + 6), .ref (a + 7), .ref (a + 8), .ref (a + 9), .null, .null, .null, .null, .null, .int 0, .int 0, .int 0, .int 0, .int 0]) :: ([yI M 32] ++ [yI M 4] ++ [yI M 6] ++ [yI M 6] ++ [yI M 8] ++ [yI M 8] ++ [yI M 48] ++ [yI M 6] ++ [yI M 6]) : List va_E)) o hin clX9 (by decide) ylX9_36 rfl rfl rfl (Nat.le_of_ble_eq_true rfl) rfl rfl dX9_init_72 rfl ?_
  refine y_aload_n (pc := 75) o dX9_init_75 rfl rfl ?_
  refine y_bipush (pc := 76) (v := 24) o dX9_init_76 (by decide +kernel) ?_
  refine y_newI (pc := 78) (N' := 24) (p := 10) (cs' := (.inr (9, [.ref (a + 1), .ref (a + 2), .ref (a + 3), .ref (a + 4), .ref (a + 5), .ref (a + 6), .ref (a + 7), .ref (a + 8), .ref (a + 9), .null, .null, .null, .null, .null, .int 0, .int 0, .int 0, .int 0, .int 0]) :: ([yI M 32] ++ [yI M 4] ++ [yI M 6] ++ [yI M 6] ++ [yI M 8] ++ [yI M 8] ++ [yI M 48] ++ [yI M 6] ++ [yI M 6] ++ [yI M 24]) : List va_E)) o ar_int (by decide) rfl (by decide) ⟨Nat.le_of_ble_eq_true rfl, Nat.le_of_ble_eq_true rfl⟩ dX9_init_78 rfl rfl ?_
  refine y_putFE (pc := 80) (p := 0) (j := 9) (fs := [.ref (a + 1), .ref (a + 2), .ref (a + 3), .ref (a + 4), .ref (a + 5), .ref (a + 6), .ref (a + 7), .ref (a + 8), .ref (a + 9), .null, .null, .null, .null, .null, .int 0, .int 0, .int 0, .int 0, .int 0]) (cs' := (.inr (9, [.ref (a + 1), .ref (a + 2), .ref (a + 3), .ref (a + 4), .ref (a + 5), .ref (a + 6), .ref (a + 7), .ref (a + 8), .ref (a + 9), .ref (a + 10), .null, .null, .null, .null, .int 0, .int 0, .int 0, .int 0, .int 0]) :: ([yI M 32] ++ [yI M 4] ++ [yI M 6] ++ [yI M 6] ++ [yI M 8] ++ [yI M 8] ++ [yI M 48] ++ [yI M 6] ++ [yI M 6] ++ [yI M 24]) : List va_E)) o hin clX9 (by decide) ylX9_39 rfl rfl rfl (Nat.le_of_ble_eq_true rfl) rfl rfl dX9_init_80 rfl ?_
  refine y_aload_n (pc := 83) o dX9_init_83 rfl rfl ?_
  refine y_bipush (pc := 84) (v := 24) o dX9_init_84 (by decide +kernel) ?_
  refine y_newI (pc := 86) (N' := 24) (p := 11) (cs' := (.inr (9, [.ref (a + 1), .ref (a + 2), .ref (a + 3), .ref (a + 4), .ref (a + 5), .ref (a + 6), .ref (a + 7), .ref (a + 8), .ref (a + 9), .ref (a + 10), .null, .null, .null, .null, .int 0, .int 0, .int 0, .int 0, .int 0]) :: ([yI M 32] ++ [yI M 4] ++ [yI M 6] ++ [yI M 6] ++ [yI M 8] ++ [yI M 8] ++ [yI M 48] ++ [yI M 6] ++ [yI M 6] ++ [yI M 24] ++ [yI M 24]) : List va_E)) o ar_int (by decide) rfl (by decide) ⟨Nat.le_of_ble_eq_true rfl, Nat.le_of_ble_eq_true rfl⟩ dX9_init_86 rfl rfl ?_
  refine y_putFE (pc := 88) (p := 0) (j := 10) (fs := [.ref (a + 1), .ref (a + 2), .ref (a + 3), .ref (a + 4), .ref (a + 5), .ref (a + 6), .ref (a + 7), .ref (a + 8), .ref (a + 9), .ref (a + 10), .null, .null, .null, .null, .int 0, .int 0, .int 0, .int 0, .int 0]) (cs' := (.inr (9, [.ref (a + 1), .ref (a + 2), .ref (a + 3), .ref (a + 4), .ref (a + 5), .ref (a + 6), .ref (a + 7), .ref (a + 8), .ref (a + 9), .ref (a + 10), .ref (a + 11), .null, .null, .null, .int 0, .int 0, .int 0, .int 0, .int 0]) :: ([yI M 32] ++ [yI M 4] ++ [yI M 6] ++ [yI M 6] ++ [yI M 8] ++ [yI M 8] ++ [yI M 48] ++ [yI M 6] ++ [yI M 6] ++ [yI M 24] ++ [yI M 24]) : List va_E)) o hin clX9 (by decide) ylX9_42 rfl rfl rfl (Nat.le_of_ble_eq_true rfl) rfl rfl dX9_init_88 rfl ?_
  refine y_aload_n (pc := 91) o dX9_init_91 rfl rfl ?_
  refine y_bipush (pc := 92) (v := 36) o dX9_init_92 (by decide +kernel) ?_
  refine y_newI (pc := 94) (N' := 36) (p := 12) (cs' := (.inr (9, [.ref (a + 1), .ref (a + 2), .ref (a + 3), .ref (a + 4), .ref (a + 5), .ref (a + 6), .ref (a + 7), .ref (a + 8), .ref (a + 9), .ref (a + 10), .ref (a + 11), .null, .null, .null, .int 0, .int 0, .int 0, .int 0, .int 0]) :: ([yI M 32] ++ [yI M 4] ++ [yI M 6] ++ [yI M 6] ++ [yI M 8] ++ [yI M 8] ++ [yI M 48] ++ [yI M 6] ++ [yI M 6] ++ [yI M 24] ++ [yI M 24] ++ [yI M 36]) : List va_E)) o ar_int (by decide) rfl (by decide) ⟨Nat.le_of_ble_eq_true rfl, Nat.le_of_ble_eq_true rfl⟩ dX9_init_94 rfl rfl ?_
  refine y_putFE (pc := 96) (p := 0) (j := 11) (fs := [.ref (a + 1), .ref (a + 2), .ref (a + 3), .ref (a + 4), .ref (a + 5), .ref (a + 6), .ref (a + 7), .ref (a + 8), .ref (a + 9), .ref (a + 10), .ref (a + 11), .null, .null, .null, .int 0, .int 0, .int 0, .int 0, .int 0]) (cs' := (.inr (9, [.ref (a + 1), .ref (a + 2), .ref (a + 3), .ref (a + 4), .ref (a + 5), .ref (a + 6), .ref (a + 7), .ref (a + 8), .ref (a + 9), .ref (a + 10), .ref (a + 11), .ref (a + 12), .null, .null, .int 0, .int 0, .int 0, .int 0, .int 0]) :: ([yI M 32] ++ [yI M 4] ++ [yI M 6] ++ [yI M 6] ++ [yI M 8] ++ [yI M 8] ++ [yI M 48] ++ [yI M 6] ++ [yI M 6] ++ [yI M 24] ++ [yI M 24] ++ [yI M 36]) : List va_E)) o hin clX9 (by decide) ylX9_45 rfl rfl rfl (Nat.le_of_ble_eq_true rfl) rfl rfl dX9_init_96 rfl ?_
  refine y_aload_n (pc := 99) o dX9_init_99 rfl rfl ?_
  refine y_bipush (pc := 100) (v := 6) o dX9_init_100 (by decide +kernel) ?_
  refine y_newI (pc := 102) (N' := 6) (p := 13) (cs' := (.inr (9, [.ref (a + 1), .ref (a + 2), .ref (a + 3), .ref (a + 4), .ref (a + 5), .ref (a + 6), .ref (a + 7), .ref (a + 8), .ref (a + 9), .ref (a + 10), .ref (a + 11), .ref (a + 12), .null, .null, .int 0, .int 0, .int 0, .int 0, .int 0]) :: ([yI M 32] ++ [yI M 4] ++ [yI M 6] ++ [yI M 6] ++ [yI M 8] ++ [yI M 8] ++ [yI M 48] ++ [yI M 6] ++ [yI M 6] ++ [yI M 24] ++ [yI M 24] ++ [yI M 36] ++ [yI M 6]) : List va_E)) o ar_int (by decide) rfl (by decide) ⟨Nat.le_of_ble_eq_true rfl, Nat.le_of_ble_eq_true rfl⟩ dX9_init_102 rfl rfl ?_
  refine y_putFE (pc := 104) (p := 0) (j := 12) (fs := [.ref (a + 1), .ref (a + 2), .ref (a + 3), .ref (a + 4), .ref (a + 5), .ref (a + 6), .ref (a + 7), .ref (a + 8), .ref (a + 9), .ref (a + 10), .ref (a + 11), .ref (a + 12), .null, .null, .int 0, .int 0, .int 0, .int 0, .int 0]) (cs' := (.inr (9, [.ref (a + 1), .ref (a + 2), .ref (a + 3), .ref (a + 4), .ref (a + 5), .ref (a + 6), .ref (a + 7), .ref (a + 8), .ref (a + 9), .ref (a + 10), .ref (a + 11), .ref (a + 12), .ref (a + 13), .null, .int 0, .int 0, .int 0, .int 0, .int 0]) :: ([yI M 32] ++ [yI M 4] ++ [yI M 6] ++ [yI M 6] ++ [yI M 8] ++ [yI M 8] ++ [yI M 48] ++ [yI M 6] ++ [yI M 6] ++ [yI M 24] ++ [yI M 24] ++ [yI M 36] ++ [yI M 6]) : List va_E)) o hin clX9 (by decide) ylX9_48 rfl rfl rfl (Nat.le_of_ble_eq_true rfl) rfl rfl dX9_init_104 rfl ?_
  refine y_aload_n (pc := 107) o dX9_init_107 rfl rfl ?_
  refine y_newE (pc := 108) (n := 14) (cs' := (.inr (9, [.ref (a + 1), .ref (a + 2), .ref (a + 3), .ref (a + 4), .ref (a + 5), .ref (a + 6), .ref (a + 7), .ref (a + 8), .ref (a + 9), .ref (a + 10), .ref (a + 11), .ref (a + 12), .ref (a + 13), .null, .int 0, .int 0, .int 0, .int 0, .int 0]) :: ([yI M 32] ++ [yI M 4] ++ [yI M 6] ++ [yI M 6] ++ [yI M 8] ++ [yI M 8] ++ [yI M 48] ++ [yI M 6] ++ [yI M 6] ++ [yI M 24] ++ [yI M 24] ++ [yI M 36] ++ [yI M 6] ++ [.inr (1, [.null, .null, .int 0, .int 0, .int 0, .int 0, .int 0])]) : List va_E)) o clX1 ycX9_51 inX1_w itX1_w dfX1 ⟨Nat.le_of_ble_eq_true rfl, Nat.le_of_ble_eq_true rfl⟩ dX9_init_108 rfl rfl ?_
  refine y_dup (pc := 111) o dX9_init_111 rfl ?_
  refine y_callE (pc := 112) (b := 14) (pre := (.inr (9, [.ref (a + 1), .ref (a + 2), .ref (a + 3), .ref (a + 4), .ref (a + 5), .ref (a + 6), .ref (a + 7), .ref (a + 8), .ref (a + 9), .ref (a + 10), .ref (a + 11), .ref (a + 12), .ref (a + 13), .null, .int 0, .int 0, .int 0, .int 0, .int 0]) :: ([yI M 32] ++ [yI M 4] ++ [yI M 6] ++ [yI M 6] ++ [yI M 8] ++ [yI M 8] ++ [yI M 48] ++ [yI M 6] ++ [yI M 6] ++ [yI M 24] ++ [yI M 24] ++ [yI M 36] ++ [yI M 6]) : List va_E)) (As := []) (rest := [.ref (a + 14), .ref a]) (cs1 := cCode M (a + 14)) (cs' := (.inr (9, [.ref (a + 1), .ref (a + 2), .ref (a + 3), .ref (a + 4), .ref (a + 5), .ref (a + 6), .ref (a + 7), .ref (a + 8), .ref (a + 9), .ref (a + 10), .ref (a + 11), .ref (a + 12), .ref (a + 13), .null, .int 0, .int 0, .int 0, .int 0, .int 0]) :: ([yI M 32] ++ [yI M 4] ++ [yI M 6] ++ [yI M 6] ++ [yI M 8] ++ [yI M 8] ++ [yI M 48] ++ [yI M 6] ++ [yI M 6] ++ [yI M 24] ++ [yI M 24] ++ [yI M 36] ++ [yI M 6] ++ cCode M (a + 14)) : List va_E)) (ex' := []) o rfl (yX1_init_ok _ M (a + 14) ) eX1_init ymX9_53 ⟨Nat.le_of_ble_eq_true rfl, Nat.le_of_ble_eq_true rfl, Nat.le_of_ble_eq_true rfl, Nat.le_of_ble_eq_true rfl⟩ rfl (fun q h => absurd h List.not_mem_nil) rfl rfl (Nat.le_of_ble_eq_true rfl) dX9_init_112 rfl ?_
  refine y_putFE (pc := 115) (p := 0) (j := 13) (fs := [.ref (a + 1), .ref (a + 2), .ref (a + 3), .ref (a + 4), .ref (a + 5), .ref (a + 6), .ref (a + 7), .ref (a + 8), .ref (a + 9), .ref (a + 10), .ref (a + 11), .ref (a + 12), .ref (a + 13), .null, .int 0, .int 0, .int 0, .int 0, .int 0]) (cs' := (.inr (9, [.ref (a + 1), .ref (a + 2), .ref (a + 3), .ref (a + 4), .ref (a + 5), .ref (a + 6), .ref (a + 7), .ref (a + 8), .ref (a + 9), .ref (a + 10), .ref (a + 11), .ref (a + 12), .ref (a + 13), .ref (a + 14), .int 0, .int 0, .int 0, .int 0, .int 0]) :: ([yI M 32] ++ [yI M 4] ++ [yI M 6] ++ [yI M 6] ++ [yI M 8] ++ [yI M 8] ++ [yI M 48] ++ [yI M 6] ++ [yI M 6] ++ [yI M 24] ++ [yI M 24] ++ [yI M 36] ++ [yI M 6] ++ cCode M (a + 14)) : List va_E)) o hin clX9 (by decide) ylX9_54 rfl rfl rfl (Nat.le_of_ble_eq_true rfl) rfl rfl dX9_init_115 rfl ?_
  refine y_aload_n (pc := 118) o dX9_init_118 rfl rfl ?_
  refine y_bipush (pc := 119) (v := 100) o dX9_init_119 (by decide +kernel) ?_
  refine y_putNE (pc := 121) (p := 0) (j := 14) (fs := [.ref (a + 1), .ref (a + 2), .ref (a + 3), .ref (a + 4), .ref (a + 5), .ref (a + 6), .ref (a + 7), .ref (a + 8), .ref (a + 9), .ref (a + 10), .ref (a + 11), .ref (a + 12), .ref (a + 13), .ref (a + 14), .int 0, .int 0, .int 0, .int 0, .int 0]) (cs' := (.inr (9, [.ref (a + 1), .ref (a + 2), .ref (a + 3), .ref (a + 4), .ref (a + 5), .ref (a + 6), .ref (a + 7), .ref (a + 8), .ref (a + 9), .ref (a + 10), .ref (a + 11), .ref (a + 12), .ref (a + 13), .ref (a + 14), .int 100, .int 0, .int 0, .int 0, .int 0]) :: ([yI M 32] ++ [yI M 4] ++ [yI M 6] ++ [yI M 6] ++ [yI M 8] ++ [yI M 8] ++ [yI M 48] ++ [yI M 6] ++ [yI M 6] ++ [yI M 24] ++ [yI M 24] ++ [yI M 36] ++ [yI M 6] ++ cCode M (a + 14)) : List va_E)) o clX9 (by decide) ylX9_58 rfl rfl (Nat.le_of_ble_eq_true rfl) rfl rfl dX9_init_121 rfl ?_
  refine y_aload_n (pc := 124) o dX9_init_124 rfl rfl ?_
  refine y_iconst (pc := 125) o dX9_init_125 ic_0 ?_
  refine y_putNE (pc := 126) (p := 0) (j := 15) (fs := [.ref (a + 1), .ref (a + 2), .ref (a + 3), .ref (a + 4), .ref (a + 5), .ref (a + 6), .ref (a + 7), .ref (a + 8), .ref (a + 9), .ref (a + 10), .ref (a + 11), .ref (a + 12), .ref (a + 13), .ref (a + 14), .int 100, .int 0, .int 0, .int 0, .int 0]) (cs' := (.inr (9, [.ref (a + 1), .ref (a + 2), .ref (a + 3), .ref (a + 4), .ref (a + 5), .ref (a + 6), .ref (a + 7), .ref (a + 8), .ref (a + 9), .ref (a + 10), .ref (a + 11), .ref (a + 12), .ref (a + 13), .ref (a + 14), .int 100, .int 0, .int 0, .int 0, .int 0]) :: ([yI M 32] ++ [yI M 4] ++ [yI M 6] ++ [yI M 6] ++ [yI M 8] ++ [yI M 8] ++ [yI M 48] ++ [yI M 6] ++ [yI M 6] ++ [yI M 24] ++ [yI M 24] ++ [yI M 36] ++ [yI M 6] ++ cCode M (a + 14)) : List va_E)) o clX9 (by decide) ylX9_62 rfl rfl (Nat.le_of_ble_eq_true rfl) rfl rfl dX9_init_126 rfl ?_
  refine y_aload_n (pc := 129) o dX9_init_129 rfl rfl ?_
  refine y_bipush (pc := 130) (v := 9) o dX9_init_130 (by decide +kernel) ?_
  refine y_putNE (pc := 132) (p := 0) (j := 16) (fs := [.ref (a + 1), .ref (a + 2), .ref (a + 3), .ref (a + 4), .ref (a + 5), .ref (a + 6), .ref (a + 7), .ref (a + 8), .ref (a + 9), .ref (a + 10), .ref (a + 11), .ref (a + 12), .ref (a + 13), .ref (a + 14), .int 100, .int 0, .int 0, .int 0, .int 0]) (cs' := (.inr (9, [.ref (a + 1), .ref (a + 2), .ref (a + 3), .ref (a + 4), .ref (a + 5), .ref (a + 6), .ref (a + 7), .ref (a + 8), .ref (a + 9), .ref (a + 10), .ref (a + 11), .ref (a + 12), .ref (a + 13), .ref (a + 14), .int 100, .int 0, .int 9, .int 0, .int 0]) :: ([yI M 32] ++ [yI M 4] ++ [yI M 6] ++ [yI M 6] ++ [yI M 8] ++ [yI M 8] ++ [yI M 48] ++ [yI M 6] ++ [yI M 6] ++ [yI M 24] ++ [yI M 24] ++ [yI M 36] ++ [yI M 6] ++ cCode M (a + 14)) : List va_E)) o clX9 (by decide) ylX9_65 rfl rfl (Nat.le_of_ble_eq_true rfl) rfl rfl dX9_init_132 rfl ?_
  refine y_aload_n (pc := 135) o dX9_init_135 rfl rfl ?_
  refine y_iconst (pc := 136) o dX9_init_136 ic_5 ?_
  refine y_putNE (pc := 137) (p := 0) (j := 17) (fs := [.ref (a + 1), .ref (a + 2), .ref (a + 3), .ref (a + 4), .ref (a + 5), .ref (a + 6), .ref (a + 7), .ref (a + 8), .ref (a + 9), .ref (a + 10), .ref (a + 11), .ref (a + 12), .ref (a + 13), .ref (a + 14), .int 100, .int 0, .int 9, .int 0, .int 0]) (cs' := (.inr (9, [.ref (a + 1), .ref (a + 2), .ref (a + 3), .ref (a + 4), .ref (a + 5), .ref (a + 6), .ref (a + 7), .ref (a + 8), .ref (a + 9), .ref (a + 10), .ref (a + 11), .ref (a + 12), .ref (a + 13), .ref (a + 14), .int 100, .int 0, .int 9, .int 5, .int 0]) :: ([yI M 32] ++ [yI M 4] ++ [yI M 6] ++ [yI M 6] ++ [yI M 8] ++ [yI M 8] ++ [yI M 48] ++ [yI M 6] ++ [yI M 6] ++ [yI M 24] ++ [yI M 24] ++ [yI M 36] ++ [yI M 6] ++ cCode M (a + 14)) : List va_E)) o clX9 (by decide) ylX9_68 rfl rfl (Nat.le_of_ble_eq_true rfl) rfl rfl dX9_init_137 rfl ?_
  refine y_aload_n (pc := 140) o dX9_init_140 rfl rfl ?_
  refine y_iconst (pc := 141) o dX9_init_141 ic_0 ?_
  refine y_putNE (pc := 142) (p := 0) (j := 18) (fs := [.ref (a + 1), .ref (a + 2), .ref (a + 3), .ref (a + 4), .ref (a + 5), .ref (a + 6), .ref (a + 7), .ref (a + 8), .ref (a + 9), .ref (a + 10), .ref (a + 11), .ref (a + 12), .ref (a + 13), .ref (a + 14), .int 100, .int 0, .int 9, .int 5, .int 0]) (cs' := (.inr (9, [.ref (a + 1), .ref (a + 2), .ref (a + 3), .ref (a + 4), .ref (a + 5), .ref (a + 6), .ref (a + 7), .ref (a + 8), .ref (a + 9), .ref (a + 10), .ref (a + 11), .ref (a + 12), .ref (a + 13), .ref (a + 14), .int 100, .int 0, .int 9, .int 5, .int 0]) :: ([yI M 32] ++ [yI M 4] ++ [yI M 6] ++ [yI M 6] ++ [yI M 8] ++ [yI M 8] ++ [yI M 48] ++ [yI M 6] ++ [yI M 6] ++ [yI M 24] ++ [yI M 24] ++ [yI M 36] ++ [yI M 6] ++ cCode M (a + 14)) : List va_E)) o clX9 (by decide) ylX9_71 rfl rfl (Nat.le_of_ble_eq_true rfl) rfl rfl dX9_init_142 rfl ?_
  exact y_vreturn (pc := 145) o hlk hQ hret dX9_init_145 rfl
theorem ymX6_3 : Cond.methodLink RX6 3 Lib.objectInit ∈ xWS := xWS_in (inC2 (List.mem_of_getElem? (i := 20) (by decide +kernel))) (by decide +kernel)
theorem ylX6_9 : Cond.fieldLink RX6 9 (TX6 0).1 (TX6 0).2.1 (TX6 0).2.2.1 ∈ xWS := xWS_in (inC2 (List.mem_of_getElem? (i := 21) (by decide +kernel))) (by decide +kernel)
theorem ylX6_15 : Cond.fieldLink RX6 15 (TX6 1).1 (TX6 1).2.1 (TX6 1).2.2.1 ∈ xWS := xWS_in (inC2 (List.mem_of_getElem? (i := 23) (by decide +kernel))) (by decide +kernel)
theorem ylX6_20 : Cond.fieldLink RX6 20 (TX6 2).1 (TX6 2).2.1 (TX6 2).2.2.1 ∈ xWS := xWS_in (inC2 (List.mem_of_getElem? (i := 25) (by decide +kernel))) (by decide +kernel)
theorem ylX6_23 : Cond.fieldLink RX6 23 (TX6 4).1 (TX6 4).2.1 (TX6 4).2.2.1 ∈ xWS := xWS_in (inC2 (List.mem_of_getElem? (i := 27) (by decide +kernel))) (by decide +kernel)
theorem ylX6_27 : Cond.fieldLink RX6 27 (TX6 5).1 (TX6 5).2.1 (TX6 5).2.2.1 ∈ xWS := xWS_in (inC2 (List.mem_of_getElem? (i := 28) (by decide +kernel))) (by decide +kernel)
theorem ylX6_31 : Cond.fieldLink RX6 31 (TX6 3).1 (TX6 3).2.1 (TX6 3).2.2.1 ∈ xWS := xWS_in (inC2 (List.mem_of_getElem? (i := 26) (by decide +kernel))) (by decide +kernel)
def cShop (M : xMg) (a : Nat) (x1 x2 x3 : Nat) : List va_E := (.inr (6, [.ref (a + 1), .ref (a + 2), .ref (a + 3), .ref x3, .ref x1, .ref x2, .int 0, .int 0, .int 0, .int 0, .int 0]) :: ([yI M 6] ++ [yI M 6] ++ [yI M 8]) : List va_E)
set_option maxRecDepth 100000 in
theorem eX6_init : xCaI yX6_init cX6_init 4 3 := ⟨xWS_in (inC2 (List.mem_of_getElem? (i := 19) rfl)) rfl, xWS_in (inC2 (List.mem_of_getElem? (i := 18) (by decide +kernel))) (by decide +kernel), xWS_in (inC1 (List.mem_of_getElem? (i := 6) (by decide +kernel))) (by decide +kernel), rfl, by decide +kernel, by decide +kernel, by decide +kernel, by decide⟩
set_option maxHeartbeats 8000000 in
set_option maxRecDepth 100000 in
theorem yX6_init_ok (l : Launch) (M : xMg) (a : Nat) (x1 x2 x3 : Nat) : yMet l yX6_init cX6_init 4 1 3 20 M a [] [.ref a, .ref x1, .ref x2, .ref x3] [.inr (6, [.null, .null, .null, .null, .null, .null, .int 0, .int 0, .int 0, .int 0, .int 0])] (cShop M a x1 x2 x3) := by
  refine y_met (plainFor_of_name (by decide)) rfl (Nat.le_of_ble_eq_true rfl) (fun q h => absurd h List.not_mem_nil) (fun Γ hnL hl hlk hin hQ hret o => ?_)
  subst hl
  have o : yOk Γ M a _ (xrm2 1 3 20) cX6_init RX6 := o
  refine y_to (l := [(0, .ref a), (1, .ref x1), (2, .ref x2), (3, .ref x3)]) ⟨rfl, rfl, rfl, rfl, trivial⟩ ?_
  refine y_aload_n (pc := 0) o dX6_init_0 rfl rfl ?_
  refine y_objInit (pc := 1) o ymX6_3 w_oi1 w_oi2 ⟨Nat.le_of_ble_eq_true rfl, Nat.le_of_ble_eq_true rfl⟩ (Nat.le_of_ble_eq_true rfl) dX6_init_1 ?_
  refine y_aload_n (pc := 4) o dX6_init_4 rfl rfl ?_
  refine y_bipush (pc := 5) (v := 6) o dX6_init_5 (by decide +kernel) ?_
  refine y_newI (pc := 7) (N' := 6) (p := 1) (cs' := (.inr (6, [.null, .null, .null, .null, .null, .null, .int 0, .int 0, .int 0, .int 0, .int 0]) :: ([yI M 6]) : List va_E)) o ar_int (by decide) rfl (by decide) ⟨Nat.le_of_ble_eq_true rfl, Nat.le_of_ble_eq_true rfl⟩ dX6_init_7 rfl rfl ?_
  refine y_putFE (pc := 9) (p := 0) (j := 0) (fs := [.null, .null, .null, .null, .null, .null, .int 0, .int 0, .int 0, .int 0, .int 0]) (cs' := (.inr (6, [.ref (a + 1), .null, .null, .null, .null, .null, .int 0, .int 0, .int 0, .int 0, .int 0]) :: ([yI M 6]) : List va_E)) o hin clX6 (by decide) ylX6_9 rfl rfl rfl (Nat.le_of_ble_eq_true rfl) rfl rfl dX6_init_9 rfl ?_
  refine y_aload_n (pc := 12) o dX6_init_12 rfl rfl ?_
  refine y_bipush (pc := 13) (v := 6) o dX6_init_13 (by decide +kernel) ?_
  refine y_newI (pc := 15) (N' := 6) (p := 2) (cs' := (.inr (6, [.ref (a + 1), .null, .null, .null, .null, .null, .int 0, .int 0, .int 0, .int 0, .int 0]) :: ([yI M 6] ++ [yI M 6]) : List va_E)) o ar_int (by decide) rfl (by decide) ⟨Nat.le_of_ble_eq_true rfl, Nat.le_of_ble_eq_true rfl⟩ dX6_init_15 rfl rfl ?_
  refine y_putFE (pc := 17) (p := 0) (j := 1) (fs := [.ref (a + 1), .null, .null, .null, .null, .null, .int 0, .int 0, .int 0, .int 0, .int 0]) (cs' := (.inr (6, [.ref (a + 1), .ref (a + 2), .null, .null, .null, .null, .int 0, .int 0, .int 0, .int 0, .int 0]) :: ([yI M 6] ++ [yI M 6]) : List va_E)) o hin clX6 (by decide) ylX6_15 rfl rfl rfl (Nat.le_of_ble_eq_true rfl) rfl rfl dX6_init_17 rfl ?_
  refine y_aload_n (pc := 20) o dX6_init_20 rfl rfl ?_
  refine y_bipush (pc := 21) (v := 8) o dX6_init_21 (by decide +kernel) ?_
  refine y_newI (pc := 23) (N' := 8) (p := 3) (cs' := (.inr (6, [.ref (a + 1), .ref (a + 2), .null, .null, .null, .null, .int 0, .int 0, .int 0, .int 0, .int 0]) :: ([yI M 6] ++ [yI M 6] ++ [yI M 8]) : List va_E)) o ar_int (by decide) rfl (by decide) ⟨Nat.le_of_ble_eq_true rfl, Nat.le_of_ble_eq_true rfl⟩ dX6_init_23 rfl rfl ?_
  refine y_putFE (pc := 25) (p := 0) (j := 2) (fs := [.ref (a + 1), .ref (a + 2), .null, .null, .null, .null, .int 0, .int 0, .int 0, .int 0, .int 0]) (cs' := (.inr (6, [.ref (a + 1), .ref (a + 2), .ref (a + 3), .null, .null, .null, .int 0, .int 0, .int 0, .int 0, .int 0]) :: ([yI M 6] ++ [yI M 6] ++ [yI M 8]) : List va_E)) o hin clX6 (by decide) ylX6_20 rfl rfl rfl (Nat.le_of_ble_eq_true rfl) rfl rfl dX6_init_25 rfl ?_
  refine y_aload_n (pc := 28) o dX6_init_28 rfl rfl ?_
  refine y_aload_n (pc := 29) o dX6_init_29 rfl rfl ?_
  refine y_putNE (pc := 30) (p := 0) (j := 4) (fs := [.ref (a + 1), .ref (a + 2), .ref (a + 3), .null, .null, .null, .int 0, .int 0, .int 0, .int 0, .int 0]) (cs' := (.inr (6, [.ref (a + 1), .ref (a + 2), .ref (a + 3), .null, .ref x1, .null, .int 0, .int 0, .int 0, .int 0, .int 0]) :: ([yI M 6] ++ [yI M 6] ++ [yI M 8]) : List va_E)) o clX6 (by decide) ylX6_23 rfl rfl (Nat.le_of_ble_eq_true rfl) rfl rfl dX6_init_30 rfl ?_
  refine y_aload_n (pc := 33) o dX6_init_33 rfl rfl ?_
  refine y_aload_n (pc := 34) o dX6_init_34 rfl rfl ?_
  refine y_putNE (pc := 35) (p := 0) (j := 5) (fs := [.ref (a + 1), .ref (a + 2), .ref (a + 3), .null, .ref x1, .null, .int 0, .int 0, .int 0, .int 0, .int 0]) (cs' := (.inr (6, [.ref (a + 1), .ref (a + 2), .ref (a + 3), .null, .ref x1, .ref x2, .int 0, .int 0, .int 0, .int 0, .int 0]) :: ([yI M 6] ++ [yI M 6] ++ [yI M 8]) : List va_E)) o clX6 (by decide) ylX6_27 rfl rfl (Nat.le_of_ble_eq_true rfl) rfl rfl dX6_init_35 rfl ?_
  refine y_aload_n (pc := 38) o dX6_init_38 rfl rfl ?_
  refine y_aload_n (pc := 39) o dX6_init_39 rfl rfl ?_
  refine y_putFE (pc := 40) (p := 0) (j := 3) (fs := [.ref (a + 1), .ref (a + 2), .ref (a + 3), .null, .ref x1, .ref x2, .int 0, .int 0, .int 0, .int 0, .int 0]) (cs' := (.inr (6, [.ref (a + 1), .ref (a + 2), .ref (a + 3), .ref x3, .ref x1, .ref x2, .int 0, .int 0, .int 0, .int 0, .int 0]) :: ([yI M 6] ++ [yI M 6] ++ [yI M 8]) : List va_E)) o hin clX6 (by decide) ylX6_31 rfl rfl rfl (Nat.le_of_ble_eq_true rfl) rfl rfl dX6_init_40 rfl ?_
  exact y_vreturn (pc := 43) o hlk hQ hret dX6_init_43 rfl
theorem ymX0_3 : Cond.methodLink RX0 3 Lib.objectInit ∈ xWS := xWS_in (inC2 (List.mem_of_getElem? (i := 65) (by decide +kernel))) (by decide +kernel)
theorem ycX0_9 : Cond.classLink RX0 9 RX8 ∈ xWS := xWS_in (inC2 (List.mem_of_getElem? (i := 66) (by decide +kernel))) (by decide +kernel)
theorem ymX0_11 : Cond.methodLink RX0 11 yX8_init ∈ xWS := xWS_in (inC2 (List.mem_of_getElem? (i := 67) (by decide +kernel))) (by decide +kernel)
theorem ylX0_12 : Cond.fieldLink RX0 12 (TX0 1).1 (TX0 1).2.1 (TX0 1).2.2.1 ∈ xWS := xWS_in (inC2 (List.mem_of_getElem? (i := 71) (by decide +kernel))) (by decide +kernel)
theorem ylX0_18 : Cond.fieldLink RX0 18 (TX0 4).1 (TX0 4).2.1 (TX0 4).2.2.1 ∈ xWS := xWS_in (inC2 (List.mem_of_getElem? (i := 74) (by decide +kernel))) (by decide +kernel)
theorem ylX0_22 : Cond.fieldLink RX0 22 (TX0 5).1 (TX0 5).2.1 (TX0 5).2.2.1 ∈ xWS := xWS_in (inC2 (List.mem_of_getElem? (i := 75) (by decide +kernel))) (by decide +kernel)
theorem ylX0_25 : Cond.fieldLink RX0 25 (TX0 8).1 (TX0 8).2.1 (TX0 8).2.2.1 ∈ xWS := xWS_in (inC2 (List.mem_of_getElem? (i := 80) (by decide +kernel))) (by decide +kernel)
theorem ylX0_29 : Cond.fieldLink RX0 29 (TX0 3).1 (TX0 3).2.1 (TX0 3).2.2.1 ∈ xWS := xWS_in (inC2 (List.mem_of_getElem? (i := 73) (by decide +kernel))) (by decide +kernel)
theorem ylX0_33 : Cond.fieldLink RX0 33 (TX0 0).1 (TX0 0).2.1 (TX0 0).2.2.1 ∈ xWS := xWS_in (inC2 (List.mem_of_getElem? (i := 70) (by decide +kernel))) (by decide +kernel)
theorem ycX0_36 : Cond.classLink RX0 36 RX6 ∈ xWS := xWS_in (inC2 (List.mem_of_getElem? (i := 68) (by decide +kernel))) (by decide +kernel)
theorem ymX0_38 : Cond.methodLink RX0 38 yX6_init ∈ xWS := xWS_in (inC2 (List.mem_of_getElem? (i := 69) (by decide +kernel))) (by decide +kernel)
theorem ylX0_41 : Cond.fieldLink RX0 41 (TX0 2).1 (TX0 2).2.1 (TX0 2).2.2.1 ∈ xWS := xWS_in (inC2 (List.mem_of_getElem? (i := 72) (by decide +kernel))) (by decide +kernel)
def cAhead (M : xMg) (a : Nat) (x1 x2 x3 : Nat) : List va_E := (.inr (0, [.ref x2, .ref (a + 1), .ref (a + 8), .ref x1, .ref (a + 6), .ref (a + 7), .int 0, .int 0, .int (-1), .int 0, .int 0, .int 0]) :: (cYard M (a + 1) ++ [yI M 6] ++ [yI M 6] ++ cShop M (a + 8) (x1) ((a + 1)) (x3)) : List va_E)
set_option maxRecDepth 100000 in
theorem eX0_init : xCaI yX0_init cX0_init 4 3 := ⟨xWS_in (inC2 (List.mem_of_getElem? (i := 64) rfl)) rfl, xWS_in (inC2 (List.mem_of_getElem? (i := 63) (by decide +kernel))) (by decide +kernel), xWS_in (inC1 (List.mem_of_getElem? (i := 7) (by decide +kernel))) (by decide +kernel), rfl, by decide +kernel, by decide +kernel, by decide +kernel, by decide⟩
set_option maxHeartbeats 8000000 in
set_option maxRecDepth 100000 in
theorem yX0_init_ok (l : Launch) (M : xMg) (a : Nat) (x1 x2 x3 : Nat) : yMet l yX0_init cX0_init 4 2 11 120 M a [] [.ref a, .ref x1, .ref x2, .ref x3] [.inr (0, [.null, .null, .null, .null, .null, .null, .int 0, .int 0, .int 0, .int 0, .int 0, .int 0])] (cAhead M a x1 x2 x3) := by
  refine y_met (plainFor_of_name (by decide)) rfl (Nat.le_of_ble_eq_true rfl) (fun q h => absurd h List.not_mem_nil) (fun Γ hnL hl hlk hin hQ hret o => ?_)
  subst hl
  have o : yOk Γ M a _ (xrm2 2 11 120) cX0_init RX0 := o
  refine y_to (l := [(0, .ref a), (1, .ref x1), (2, .ref x2), (3, .ref x3)]) ⟨rfl, rfl, rfl, rfl, trivial⟩ ?_
  refine y_aload_n (pc := 0) o dX0_init_0 rfl rfl ?_
  refine y_objInit (pc := 1) o ymX0_3 w_oi1 w_oi2 ⟨Nat.le_of_ble_eq_true rfl, Nat.le_of_ble_eq_true rfl⟩ (Nat.le_of_ble_eq_true rfl) dX0_init_1 ?_
  refine y_aload_n (pc := 4) o dX0_init_4 rfl rfl ?_
  refine y_newE (pc := 5) (n := 1) (cs' := (.inr (0, [.null, .null, .null, .null, .null, .null, .int 0, .int 0, .int 0, .int 0, .int 0, .int 0]) :: ([.inr (8, [.int 0, .int 0, .int 0, .int 0, .int 0, .null, .null, .null, .null])]) : List va_E)) o clX8 ycX0_9 inX8_w itX8_w dfX8 ⟨Nat.le_of_ble_eq_true rfl, Nat.le_of_ble_eq_true rfl⟩ dX0_init_5 rfl rfl ?_
  refine y_dup (pc := 8) o dX0_init_8 rfl ?_
  refine y_callE (pc := 9) (b := 1) (pre := (.inr (0, [.null, .null, .null, .null, .null, .null, .int 0, .int 0, .int 0, .int 0, .int 0, .int 0]) :: ([]) : List va_E)) (As := []) (rest := [.ref (a + 1), .ref a]) (cs1 := cYard M (a + 1)) (cs' := (.inr (0, [.null, .null, .null, .null, .null, .null, .int 0, .int 0, .int 0, .int 0, .int 0, .int 0]) :: (cYard M (a + 1)) : List va_E)) (ex' := []) o rfl (yX8_init_ok _ M (a + 1) ) eX8_init ymX0_11 ⟨Nat.le_of_ble_eq_true rfl, Nat.le_of_ble_eq_true rfl, Nat.le_of_ble_eq_true rfl, Nat.le_of_ble_eq_true rfl⟩ rfl (fun q h => absurd h List.not_mem_nil) rfl rfl (Nat.le_of_ble_eq_true rfl) dX0_init_9 rfl ?_
  refine y_putFE (pc := 12) (p := 0) (j := 1) (fs := [.null, .null, .null, .null, .null, .null, .int 0, .int 0, .int 0, .int 0, .int 0, .int 0]) (cs' := (.inr (0, [.null, .ref (a + 1), .null, .null, .null, .null, .int 0, .int 0, .int 0, .int 0, .int 0, .int 0]) :: (cYard M (a + 1)) : List va_E)) o hin clX0 (by decide) ylX0_12 rfl rfl rfl (Nat.le_of_ble_eq_true rfl) rfl rfl dX0_init_12 rfl ?_
  refine y_aload_n (pc := 15) o dX0_init_15 rfl rfl ?_
  refine y_bipush (pc := 16) (v := 6) o dX0_init_16 (by decide +kernel) ?_
  refine y_newI (pc := 18) (N' := 6) (p := 6) (cs' := (.inr (0, [.null, .ref (a + 1), .null, .null, .null, .null, .int 0, .int 0, .int 0, .int 0, .int 0, .int 0]) :: (cYard M (a + 1) ++ [yI M 6]) : List va_E)) o ar_int (by decide) rfl (by decide) ⟨Nat.le_of_ble_eq_true rfl, Nat.le_of_ble_eq_true rfl⟩ dX0_init_18 rfl rfl ?_
  refine y_putFE (pc := 20) (p := 0) (j := 4) (fs := [.null, .ref (a + 1), .null, .null, .null, .null, .int 0, .int 0, .int 0, .int 0, .int 0, .int 0]) (cs' := (.inr (0, [.null, .ref (a + 1), .null, .null, .ref (a + 6), .null, .int 0, .int 0, .int 0, .int 0, .int 0, .int 0]) :: (cYard M (a + 1) ++ [yI M 6]) : List va_E)) o hin clX0 (by decide) ylX0_18 rfl rfl rfl (Nat.le_of_ble_eq_true rfl) rfl rfl dX0_init_20 rfl ?_
  refine y_aload_n (pc := 23) o dX0_init_23 rfl rfl ?_
  refine y_bipush (pc := 24) (v := 6) o dX0_init_24 (by decide +kernel) ?_
  refine y_newI (pc := 26) (N' := 6) (p := 7) (cs' := (.inr (0, [.null, .ref (a + 1), .null, .null, .ref (a + 6), .null, .int 0, .int 0, .int 0, .int 0, .int 0, .int 0]) :: (cYard M (a + 1) ++ [yI M 6] ++ [yI M 6]) : List va_E)) o ar_int (by decide) rfl (by decide) ⟨Nat.le_of_ble_eq_true rfl, Nat.le_of_ble_eq_true rfl⟩ dX0_init_26 rfl rfl ?_
  refine y_putFE (pc := 28) (p := 0) (j := 5) (fs := [.null, .ref (a + 1), .null, .null, .ref (a + 6), .null, .int 0, .int 0, .int 0, .int 0, .int 0, .int 0]) (cs' := (.inr (0, [.null, .ref (a + 1), .null, .null, .ref (a + 6), .ref (a + 7), .int 0, .int 0, .int 0, .int 0, .int 0, .int 0]) :: (cYard M (a + 1) ++ [yI M 6] ++ [yI M 6]) : List va_E)) o hin clX0 (by decide) ylX0_22 rfl rfl rfl (Nat.le_of_ble_eq_true rfl) rfl rfl dX0_init_28 rfl ?_
  refine y_aload_n (pc := 31) o dX0_init_31 rfl rfl ?_
  refine y_iconst (pc := 32) o dX0_init_32 ic_m1 ?_
  refine y_putNE (pc := 33) (p := 0) (j := 8) (fs := [.null, .ref (a + 1), .null, .null, .ref (a + 6), .ref (a + 7), .int 0, .int 0, .int 0, .int 0, .int 0, .int 0]) (cs' := (.inr (0, [.null, .ref (a + 1), .null, .null, .ref (a + 6), .ref (a + 7), .int 0, .int 0, .int (-1), .int 0, .int 0, .int 0]) :: (cYard M (a + 1) ++ [yI M 6] ++ [yI M 6]) : List va_E)) o clX0 (by decide) ylX0_25 rfl rfl (Nat.le_of_ble_eq_true rfl) rfl rfl dX0_init_33 rfl ?_
  refine y_aload_n (pc := 36) o dX0_init_36 rfl rfl ?_
  refine y_aload_n (pc := 37) o dX0_init_37 rfl rfl ?_
  refine y_putNE (pc := 38) (p := 0) (j := 3) (fs := [.null, .ref (a + 1), .null, .null, .ref (a + 6), .ref (a + 7), .int 0, .int 0, .int (-1), .int 0, .int 0, .int 0]) (cs' := (.inr (0, [.null, .ref (a + 1), .null, .ref x1, .ref (a + 6), .ref (a + 7), .int 0, .int 0, .int (-1), .int 0, .int 0, .int 0]) :: (cYard M (a + 1) ++ [yI M 6] ++ [yI M 6]) : List va_E)) o clX0 (by decide) ylX0_29 rfl rfl (Nat.le_of_ble_eq_true rfl) rfl rfl dX0_init_38 rfl ?_
  refine y_aload_n (pc := 41) o dX0_init_41 rfl rfl ?_
  refine y_aload_n (pc := 42) o dX0_init_42 rfl rfl ?_
  refine y_putFE (pc := 43) (p := 0) (j := 0) (fs := [.null, .ref (a + 1), .null, .ref x1, .ref (a + 6), .ref (a + 7), .int 0, .int 0, .int (-1), .int 0, .int 0, .int 0]) (cs' := (.inr (0, [.ref x2, .ref (a + 1), .null, .ref x1, .ref (a + 6), .ref (a + 7), .int 0, .int 0, .int (-1), .int 0, .int 0, .int 0]) :: (cYard M (a + 1) ++ [yI M 6] ++ [yI M 6]) : List va_E)) o hin clX0 (by decide) ylX0_33 rfl rfl rfl (Nat.le_of_ble_eq_true rfl) rfl rfl dX0_init_43 rfl ?_
  refine y_aload_n (pc := 46) o dX0_init_46 rfl rfl ?_
  refine y_newE (pc := 47) (n := 8) (cs' := (.inr (0, [.ref x2, .ref (a + 1), .null, .ref x1, .ref (a + 6), .ref (a + 7), .int 0, .int 0, .int (-1), .int 0, .int 0, .int 0]) :: (cYard M (a + 1) ++ [yI M 6] ++ [yI M 6] ++ [.inr (6, [.null, .null, .null, .null, .null, .null, .int 0, .int 0, .int 0, .int 0, .int 0])]) : List va_E)) o clX6 ycX0_36 inX6_w itX6_w dfX6 ⟨Nat.le_of_ble_eq_true rfl, Nat.le_of_ble_eq_true rfl⟩ dX0_init_47 rfl rfl ?_
  refine y_dup (pc := 50) o dX0_init_50 rfl ?_
  refine y_aload_n (pc := 51) o dX0_init_51 rfl rfl ?_
  refine y_aload_n (pc := 52) o dX0_init_52 rfl rfl ?_
  refine y_get (pc := 53) (p := 0) (j := 1) (fs := [.ref x2, .ref (a + 1), .null, .ref x1, .ref (a + 6), .ref (a + 7), .int 0, .int 0, .int (-1), .int 0, .int 0, .int 0]) (v := .ref (a + 1)) o clX0 (by decide) ylX0_12 rfl rfl dX0_init_53 ?_
  refine y_aload_n (pc := 56) o dX0_init_56 rfl rfl ?_
  refine y_callE (pc := 57) (b := 8) (pre := (.inr (0, [.ref x2, .ref (a + 1), .null, .ref x1, .ref (a + 6), .ref (a + 7), .int 0, .int 0, .int (-1), .int 0, .int 0, .int 0]) :: (cYard M (a + 1) ++ [yI M 6] ++ [yI M 6]) : List va_E)) (As := [.ref x1, .ref (a + 1), .ref x3]) (rest := [.ref (a + 8), .ref a]) (cs1 := cShop M (a + 8) (x1) ((a + 1)) (x3)) (cs' := (.inr (0, [.ref x2, .ref (a + 1), .null, .ref x1, .ref (a + 6), .ref (a + 7), .int 0, .int 0, .int (-1), .int 0, .int 0, .int 0]) :: (cYard M (a + 1) ++ [yI M 6] ++ [yI M 6] ++ cShop M (a + 8) (x1) ((a + 1)) (x3)) : List va_E)) (ex' := []) o rfl (yX6_init_ok _ M (a + 8) (x1) ((a + 1)) (x3)) eX6_init ymX0_38 ⟨Nat.le_of_ble_eq_true rfl, Nat.le_of_ble_eq_true rfl, Nat.le_of_ble_eq_true rfl, Nat.le_of_ble_eq_true rfl⟩ rfl (fun q h => absurd h List.not_mem_nil) rfl rfl (Nat.le_of_ble_eq_true rfl) dX0_init_57 rfl ?_
  refine y_putFE (pc := 60) (p := 0) (j := 2) (fs := [.ref x2, .ref (a + 1), .null, .ref x1, .ref (a + 6), .ref (a + 7), .int 0, .int 0, .int (-1), .int 0, .int 0, .int 0]) (cs' := (.inr (0, [.ref x2, .ref (a + 1), .ref (a + 8), .ref x1, .ref (a + 6), .ref (a + 7), .int 0, .int 0, .int (-1), .int 0, .int 0, .int 0]) :: (cYard M (a + 1) ++ [yI M 6] ++ [yI M 6] ++ cShop M (a + 8) (x1) ((a + 1)) (x3)) : List va_E)) o hin clX0 (by decide) ylX0_41 rfl rfl rfl (Nat.le_of_ble_eq_true rfl) rfl rfl dX0_init_60 rfl ?_
  exact y_vreturn (pc := 63) o hlk hQ hret dX0_init_63 rfl
theorem ymX5_3 : Cond.methodLink RX5 3 Lib.objectInit ∈ xWS := xWS_in (inC2 (List.mem_of_getElem? (i := 226) (by decide +kernel))) (by decide +kernel)
theorem ylX5_9 : Cond.fieldLink RX5 9 (TX5 0).1 (TX5 0).2.1 (TX5 0).2.2.1 ∈ xWS := xWS_in (inC2 (List.mem_of_getElem? (i := 227) (by decide +kernel))) (by decide +kernel)
theorem ylX5_15 : Cond.fieldLink RX5 15 (TX5 1).1 (TX5 1).2.1 (TX5 1).2.2.1 ∈ xWS := xWS_in (inC2 (List.mem_of_getElem? (i := 228) (by decide +kernel))) (by decide +kernel)
def cRuleReader (M : xMg) (a : Nat) (x1 x2 : Nat) : List va_E := (.inr (5, [.ref x1, .ref x2, .int 0]) :: ([]) : List va_E)
set_option maxRecDepth 100000 in
theorem eX5_init : xCaI yX5_init cX5_init 3 2 := ⟨xWS_in (inC2 (List.mem_of_getElem? (i := 225) rfl)) rfl, xWS_in (inC2 (List.mem_of_getElem? (i := 224) (by decide +kernel))) (by decide +kernel), xWS_in (inC1 (List.mem_of_getElem? (i := 14) (by decide +kernel))) (by decide +kernel), rfl, by decide +kernel, by decide +kernel, by decide +kernel, by decide⟩
set_option maxHeartbeats 8000000 in
set_option maxRecDepth 100000 in
theorem yX5_init_ok (l : Launch) (M : xMg) (a : Nat) (x1 x2 : Nat) : yMet l yX5_init cX5_init 3 1 0 0 M a [] [.ref a, .ref x1, .ref x2] [.inr (5, [.null, .null, .int 0])] (cRuleReader M a x1 x2) := by
  refine y_met (plainFor_of_name (by decide)) rfl (Nat.le_of_ble_eq_true rfl) (fun q h => absurd h List.not_mem_nil) (fun Γ hnL hl hlk hin hQ hret o => ?_)
  subst hl
  have o : yOk Γ M a _ (xrm2 1 0 0) cX5_init RX5 := o
  refine y_to (l := [(0, .ref a), (1, .ref x1), (2, .ref x2)]) ⟨rfl, rfl, rfl, trivial⟩ ?_
  refine y_aload_n (pc := 0) o dX5_init_0 rfl rfl ?_
  refine y_objInit (pc := 1) o ymX5_3 w_oi1 w_oi2 ⟨Nat.le_of_ble_eq_true rfl, Nat.le_of_ble_eq_true rfl⟩ (Nat.le_of_ble_eq_true rfl) dX5_init_1 ?_
  refine y_aload_n (pc := 4) o dX5_init_4 rfl rfl ?_
  refine y_aload_n (pc := 5) o dX5_init_5 rfl rfl ?_
  refine y_putFE (pc := 6) (p := 0) (j := 0) (fs := [.null, .null, .int 0]) (cs' := (.inr (5, [.ref x1, .null, .int 0]) :: ([]) : List va_E)) o hin clX5 (by decide) ylX5_9 rfl rfl rfl (Nat.le_of_ble_eq_true rfl) rfl rfl dX5_init_6 rfl ?_
  refine y_aload_n (pc := 9) o dX5_init_9 rfl rfl ?_
  refine y_aload_n (pc := 10) o dX5_init_10 rfl rfl ?_
  refine y_putNE (pc := 11) (p := 0) (j := 1) (fs := [.ref x1, .null, .int 0]) (cs' := (.inr (5, [.ref x1, .ref x2, .int 0]) :: ([]) : List va_E)) o clX5 (by decide) ylX5_15 rfl rfl (Nat.le_of_ble_eq_true rfl) rfl rfl dX5_init_11 rfl ?_
  exact y_vreturn (pc := 14) o hlk hQ hret dX5_init_14 rfl
theorem ymX10_3 : Cond.methodLink RX10 3 Lib.objectInit ∈ xWS := xWS_in (inC2 (List.mem_of_getElem? (i := 220) (by decide +kernel))) (by decide +kernel)
theorem ylX10_9 : Cond.fieldLink RX10 9 (TX10 0).1 (TX10 0).2.1 (TX10 0).2.2.1 ∈ xWS := xWS_in (inC2 (List.mem_of_getElem? (i := 237) (by decide +kernel))) (by decide +kernel)
theorem ycX10_15 : Cond.classLink RX10 15 RX5 ∈ xWS := xWS_in (inC2 (List.mem_of_getElem? (i := 221) (by decide +kernel))) (by decide +kernel)
theorem ylX10_17 : Cond.fieldLink RX10 17 (TX9 13).1 (TX9 13).2.1 (TX9 13).2.2.1 ∈ xWS := xWS_in (inC1 (List.mem_of_getElem? (i := 111) (by decide +kernel))) (by decide +kernel)
theorem ymX10_23 : Cond.methodLink RX10 23 yX5_init ∈ xWS := xWS_in (inC2 (List.mem_of_getElem? (i := 223) (by decide +kernel))) (by decide +kernel)
theorem ylX10_26 : Cond.fieldLink RX10 26 (TX10 1).1 (TX10 1).2.1 (TX10 1).2.2.1 ∈ xWS := xWS_in (inC2 (List.mem_of_getElem? (i := 238) (by decide +kernel))) (by decide +kernel)
theorem ylX10_30 : Cond.fieldLink RX10 30 (TX10 2).1 (TX10 2).2.1 (TX10 2).2.2.1 ∈ xWS := xWS_in (inC2 (List.mem_of_getElem? (i := 239) (by decide +kernel))) (by decide +kernel)
def cYearReader (M : xMg) (a : Nat) (x1 x2 x3 : Nat) : List va_E := (.inr (10, [.ref x1, .ref (a + 1), .ref x2]) :: (cRuleReader M (a + 1) (x1) (x3)) : List va_E)
set_option maxRecDepth 100000 in
theorem eX10_init : xCaI yX10_init cX10_init 3 2 := ⟨xWS_in (inC2 (List.mem_of_getElem? (i := 219) rfl)) rfl, xWS_in (inC2 (List.mem_of_getElem? (i := 218) (by decide +kernel))) (by decide +kernel), xWS_in (inC1 (List.mem_of_getElem? (i := 13) (by decide +kernel))) (by decide +kernel), rfl, by decide +kernel, by decide +kernel, by decide +kernel, by decide⟩
set_option maxHeartbeats 8000000 in
set_option maxRecDepth 100000 in
theorem yX10_init_ok (l : Launch) (M : xMg) (a : Nat) (x1 x2 x3 : Nat) (yf : List Value) (hyf : yf[13]? = some (.ref x3)) (hx : x2 < a) : yMet l yX10_init cX10_init 3 2 1 3 M a [(x2, .inr (9, yf))] [.ref a, .ref x1, .ref x2] [.inr (10, [.null, .null, .null])] (cYearReader M a x1 x2 x3) := by
  refine y_met (plainFor_of_name (by decide)) rfl (Nat.le_of_ble_eq_true rfl) (fun q h => by rcases List.mem_singleton.mp h with rfl; exact hx) (fun Γ hnL hl hlk hin hQ hret o => ?_)
  subst hl
  have o : yOk Γ M a _ (xrm2 2 1 3) cX10_init RX10 := o
  refine y_to (l := [(0, .ref a), (1, .ref x1), (2, .ref x2)]) ⟨rfl, rfl, rfl, trivial⟩ ?_
  refine y_aload_n (pc := 0) o dX10_init_0 rfl rfl ?_
  refine y_objInit (pc := 1) o ymX10_3 w_oi1 w_oi2 ⟨Nat.le_of_ble_eq_true rfl, Nat.le_of_ble_eq_true rfl⟩ (Nat.le_of_ble_eq_true rfl) dX10_init_1 ?_
  refine y_aload_n (pc := 4) o dX10_init_4 rfl rfl ?_
  refine y_aload_n (pc := 5) o dX10_init_5 rfl rfl ?_
  refine y_putFE (pc := 6) (p := 0) (j := 0) (fs := [.null, .null, .null]) (cs' := (.inr (10, [.ref x1, .null, .null]) :: ([]) : List va_E)) o hin clX10 (by decide) ylX10_9 rfl rfl rfl (Nat.le_of_ble_eq_true rfl) rfl rfl dX10_init_6 rfl ?_
  refine y_aload_n (pc := 9) o dX10_init_9 rfl rfl ?_
  refine y_newE (pc := 10) (n := 1) (cs' := (.inr (10, [.ref x1, .null, .null]) :: ([.inr (5, [.null, .null, .int 0])]) : List va_E)) o clX5 ycX10_15 inX5_w itX5_w dfX5 ⟨Nat.le_of_ble_eq_true rfl, Nat.le_of_ble_eq_true rfl⟩ dX10_init_10 rfl rfl ?_
  refine y_dup (pc := 13) o dX10_init_13 rfl ?_
  refine y_aload_n (pc := 14) o dX10_init_14 rfl rfl ?_
  refine y_aload_n (pc := 15) o dX10_init_15 rfl rfl ?_
  refine y_getX (pc := 16) (p := 0) (j := 13) (fs := yf) (v := .ref x3) o clX9 (by decide) ylX10_17 rfl hyf dX10_init_16 ?_
  refine y_callE (pc := 19) (b := 1) (pre := (.inr (10, [.ref x1, .null, .null]) :: ([]) : List va_E)) (As := [.ref x1, .ref x3]) (rest := [.ref (a + 1), .ref a]) (cs1 := cRuleReader M (a + 1) (x1) (x3)) (cs' := (.inr (10, [.ref x1, .null, .null]) :: (cRuleReader M (a + 1) (x1) (x3)) : List va_E)) (ex' := []) o rfl (yX5_init_ok _ M (a + 1) (x1) (x3)) eX5_init ymX10_23 ⟨Nat.le_of_ble_eq_true rfl, Nat.le_of_ble_eq_true rfl, Nat.le_of_ble_eq_true rfl, Nat.le_of_ble_eq_true rfl⟩ rfl (fun q h => absurd h List.not_mem_nil) rfl rfl (Nat.le_of_ble_eq_true rfl) dX10_init_19 rfl ?_
  refine y_putFE (pc := 22) (p := 0) (j := 1) (fs := [.ref x1, .null, .null]) (cs' := (.inr (10, [.ref x1, .ref (a + 1), .null]) :: (cRuleReader M (a + 1) (x1) (x3)) : List va_E)) o hin clX10 (by decide) ylX10_26 rfl rfl rfl (Nat.le_of_ble_eq_true rfl) rfl rfl dX10_init_22 rfl ?_
  refine y_aload_n (pc := 25) o dX10_init_25 rfl rfl ?_
  refine y_aload_n (pc := 26) o dX10_init_26 rfl rfl ?_
  refine y_putNE (pc := 27) (p := 0) (j := 2) (fs := [.ref x1, .ref (a + 1), .null]) (cs' := (.inr (10, [.ref x1, .ref (a + 1), .ref x2]) :: (cRuleReader M (a + 1) (x1) (x3)) : List va_E)) o clX10 (by decide) ylX10_30 rfl rfl (Nat.le_of_ble_eq_true rfl) rfl rfl dX10_init_27 rfl ?_
  exact y_vreturn (pc := 30) o hlk hQ hret dX10_init_30 rfl
theorem ymX2_3 : Cond.methodLink RX2 3 Lib.objectInit ∈ xWS := xWS_in (inC3 (List.mem_of_getElem? (i := 12) (by decide +kernel))) (by decide +kernel)
theorem ylX2_9 : Cond.fieldLink RX2 9 (TX2 0).1 (TX2 0).2.1 (TX2 0).2.2.1 ∈ xWS := xWS_in (inC3 (List.mem_of_getElem? (i := 13) (by decide +kernel))) (by decide +kernel)
theorem ylX2_15 : Cond.fieldLink RX2 15 (TX2 1).1 (TX2 1).2.1 (TX2 1).2.2.1 ∈ xWS := xWS_in (inC3 (List.mem_of_getElem? (i := 15) (by decide +kernel))) (by decide +kernel)
theorem ylX2_18 : Cond.fieldLink RX2 18 (TX2 2).1 (TX2 2).2.1 (TX2 2).2.2.1 ∈ xWS := xWS_in (inC3 (List.mem_of_getElem? (i := 17) (by decide +kernel))) (by decide +kernel)
theorem ylX2_21 : Cond.fieldLink RX2 21 (TX2 3).1 (TX2 3).2.1 (TX2 3).2.2.1 ∈ xWS := xWS_in (inC3 (List.mem_of_getElem? (i := 19) (by decide +kernel))) (by decide +kernel)
def cLoans (M : xMg) (a : Nat) : List va_E := (.inr (2, [.ref (a + 1), .ref (a + 2), .ref (a + 3), .ref (a + 4)]) :: ([yI M 6] ++ [yI M 6] ++ [yI M 6] ++ [yI M 6]) : List va_E)
set_option maxRecDepth 100000 in
theorem eX2_init : xCaI yX2_init cX2_init 1 0 := ⟨xWS_in (inC3 (List.mem_of_getElem? (i := 11) rfl)) rfl, xWS_in (inC3 (List.mem_of_getElem? (i := 10) (by decide +kernel))) (by decide +kernel), xWS_in (inC1 (List.mem_of_getElem? (i := 15) (by decide +kernel))) (by decide +kernel), rfl, by decide +kernel, by decide +kernel, by decide +kernel, by decide⟩
set_option maxHeartbeats 8000000 in
set_option maxRecDepth 100000 in
theorem yX2_init_ok (l : Launch) (M : xMg) (a : Nat) : yMet l yX2_init cX2_init 1 1 4 24 M a [] [.ref a] [.inr (2, [.null, .null, .null, .null])] (cLoans M a ) := by
  refine y_met (plainFor_of_name (by decide)) rfl (Nat.le_of_ble_eq_true rfl) (fun q h => absurd h List.not_mem_nil) (fun Γ hnL hl hlk hin hQ hret o => ?_)
  subst hl
  have o : yOk Γ M a _ (xrm2 1 4 24) cX2_init RX2 := o
  refine y_to (l := [(0, .ref a)]) ⟨rfl, trivial⟩ ?_
  refine y_aload_n (pc := 0) o dX2_init_0 rfl rfl ?_
  refine y_objInit (pc := 1) o ymX2_3 w_oi1 w_oi2 ⟨Nat.le_of_ble_eq_true rfl, Nat.le_of_ble_eq_true rfl⟩ (Nat.le_of_ble_eq_true rfl) dX2_init_1 ?_
  refine y_aload_n (pc := 4) o dX2_init_4 rfl rfl ?_
  refine y_bipush (pc := 5) (v := 6) o dX2_init_5 (by decide +kernel) ?_
  refine y_newI (pc := 7) (N' := 6) (p := 1) (cs' := (.inr (2, [.null, .null, .null, .null]) :: ([yI M 6]) : List va_E)) o ar_int (by decide) rfl (by decide) ⟨Nat.le_of_ble_eq_true rfl, Nat.le_of_ble_eq_true rfl⟩ dX2_init_7 rfl rfl ?_
  refine y_putFE (pc := 9) (p := 0) (j := 0) (fs := [.null, .null, .null, .null]) (cs' := (.inr (2, [.ref (a + 1), .null, .null, .null]) :: ([yI M 6]) : List va_E)) o hin clX2 (by decide) ylX2_9 rfl rfl rfl (Nat.le_of_ble_eq_true rfl) rfl rfl dX2_init_9 rfl ?_
  refine y_aload_n (pc := 12) o dX2_init_12 rfl rfl ?_
  refine y_bipush (pc := 13) (v := 6) o dX2_init_13 (by decide +kernel) ?_
  refine y_newI (pc := 15) (N' := 6) (p := 2) (cs' := (.inr (2, [.ref (a + 1), .null, .null, .null]) :: ([yI M 6] ++ [yI M 6]) : List va_E)) o ar_int (by decide) rfl (by decide) ⟨Nat.le_of_ble_eq_true rfl, Nat.le_of_ble_eq_true rfl⟩ dX2_init_15 rfl rfl ?_
  refine y_putFE (pc := 17) (p := 0) (j := 1) (fs := [.ref (a + 1), .null, .null, .null]) (cs' := (.inr (2, [.ref (a + 1), .ref (a + 2), .null, .null]) :: ([yI M 6] ++ [yI M 6]) : List va_E)) o hin clX2 (by decide) ylX2_15 rfl rfl rfl (Nat.le_of_ble_eq_true rfl) rfl rfl dX2_init_17 rfl ?_
  refine y_aload_n (pc := 20) o dX2_init_20 rfl rfl ?_
  refine y_bipush (pc := 21) (v := 6) o dX2_init_21 (by decide +kernel) ?_
  refine y_newI (pc := 23) (N' := 6) (p := 3) (cs' := (.inr (2, [.ref (a + 1), .ref (a + 2), .null, .null]) :: ([yI M 6] ++ [yI M 6] ++ [yI M 6]) : List va_E)) o ar_int (by decide) rfl (by decide) ⟨Nat.le_of_ble_eq_true rfl, Nat.le_of_ble_eq_true rfl⟩ dX2_init_23 rfl rfl ?_
  refine y_putFE (pc := 25) (p := 0) (j := 2) (fs := [.ref (a + 1), .ref (a + 2), .null, .null]) (cs' := (.inr (2, [.ref (a + 1), .ref (a + 2), .ref (a + 3), .null]) :: ([yI M 6] ++ [yI M 6] ++ [yI M 6]) : List va_E)) o hin clX2 (by decide) ylX2_18 rfl rfl rfl (Nat.le_of_ble_eq_true rfl) rfl rfl dX2_init_25 rfl ?_
  refine y_aload_n (pc := 28) o dX2_init_28 rfl rfl ?_
  refine y_bipush (pc := 29) (v := 6) o dX2_init_29 (by decide +kernel) ?_
  refine y_newI (pc := 31) (N' := 6) (p := 4) (cs' := (.inr (2, [.ref (a + 1), .ref (a + 2), .ref (a + 3), .null]) :: ([yI M 6] ++ [yI M 6] ++ [yI M 6] ++ [yI M 6]) : List va_E)) o ar_int (by decide) rfl (by decide) ⟨Nat.le_of_ble_eq_true rfl, Nat.le_of_ble_eq_true rfl⟩ dX2_init_31 rfl rfl ?_
  refine y_putFE (pc := 33) (p := 0) (j := 3) (fs := [.ref (a + 1), .ref (a + 2), .ref (a + 3), .null]) (cs' := (.inr (2, [.ref (a + 1), .ref (a + 2), .ref (a + 3), .ref (a + 4)]) :: ([yI M 6] ++ [yI M 6] ++ [yI M 6] ++ [yI M 6]) : List va_E)) o hin clX2 (by decide) ylX2_21 rfl rfl rfl (Nat.le_of_ble_eq_true rfl) rfl rfl dX2_init_33 rfl ?_
  exact y_vreturn (pc := 36) o hlk hQ hret dX2_init_36 rfl
theorem ymX4_3 : Cond.methodLink RX4 3 Lib.objectInit ∈ xWS := xWS_in (inC3 (List.mem_of_getElem? (i := 34) (by decide +kernel))) (by decide +kernel)
theorem ylX4_11 : Cond.fieldLink RX4 11 (TX4 0).1 (TX4 0).2.1 (TX4 0).2.2.1 ∈ xWS := xWS_in (inC3 (List.mem_of_getElem? (i := 37) (by decide +kernel))) (by decide +kernel)
theorem ycX4_15 : Cond.classLink RX4 15 RX8 ∈ xWS := xWS_in (inC3 (List.mem_of_getElem? (i := 35) (by decide +kernel))) (by decide +kernel)
theorem ymX4_17 : Cond.methodLink RX4 17 yX8_init ∈ xWS := xWS_in (inC3 (List.mem_of_getElem? (i := 36) (by decide +kernel))) (by decide +kernel)
theorem ylX4_18 : Cond.fieldLink RX4 18 (TX4 2).1 (TX4 2).2.1 (TX4 2).2.2.1 ∈ xWS := xWS_in (inC3 (List.mem_of_getElem? (i := 41) (by decide +kernel))) (by decide +kernel)
def cPicture (M : xMg) (a : Nat) : List va_E := (.inr (4, [.ref (a + 1), .int 0, .ref (a + 2), .int 0, .int 0]) :: ([yI M 95] ++ cYard M (a + 2)) : List va_E)
set_option maxRecDepth 100000 in
theorem eX4_init : xCaI yX4_init cX4_init 1 0 := ⟨xWS_in (inC3 (List.mem_of_getElem? (i := 33) rfl)) rfl, xWS_in (inC3 (List.mem_of_getElem? (i := 32) (by decide +kernel))) (by decide +kernel), xWS_in (inC1 (List.mem_of_getElem? (i := 16) (by decide +kernel))) (by decide +kernel), rfl, by decide +kernel, by decide +kernel, by decide +kernel, by decide⟩
set_option maxHeartbeats 8000000 in
set_option maxRecDepth 100000 in
theorem yX4_init_ok (l : Launch) (M : xMg) (a : Nat) : yMet l yX4_init cX4_init 1 2 6 172 M a [] [.ref a] [.inr (4, [.null, .int 0, .null, .int 0, .int 0])] (cPicture M a ) := by
  refine y_met (plainFor_of_name (by decide)) rfl (Nat.le_of_ble_eq_true rfl) (fun q h => absurd h List.not_mem_nil) (fun Γ hnL hl hlk hin hQ hret o => ?_)
  subst hl
  have o : yOk Γ M a _ (xrm2 2 6 172) cX4_init RX4 := o
  refine y_to (l := [(0, .ref a)]) ⟨rfl, trivial⟩ ?_
  refine y_aload_n (pc := 0) o dX4_init_0 rfl rfl ?_
  refine y_objInit (pc := 1) o ymX4_3 w_oi1 w_oi2 ⟨Nat.le_of_ble_eq_true rfl, Nat.le_of_ble_eq_true rfl⟩ (Nat.le_of_ble_eq_true rfl) dX4_init_1 ?_
  refine y_aload_n (pc := 4) o dX4_init_4 rfl rfl ?_
  refine y_bipush (pc := 5) (v := 95) o dX4_init_5 (by decide +kernel) ?_
  refine y_newI (pc := 7) (N' := 95) (p := 1) (cs' := (.inr (4, [.null, .int 0, .null, .int 0, .int 0]) :: ([yI M 95]) : List va_E)) o ar_int (by decide) rfl (by decide) ⟨Nat.le_of_ble_eq_true rfl, Nat.le_of_ble_eq_true rfl⟩ dX4_init_7 rfl rfl ?_
  refine y_putFE (pc := 9) (p := 0) (j := 0) (fs := [.null, .int 0, .null, .int 0, .int 0]) (cs' := (.inr (4, [.ref (a + 1), .int 0, .null, .int 0, .int 0]) :: ([yI M 95]) : List va_E)) o hin clX4 (by decide) ylX4_11 rfl rfl rfl (Nat.le_of_ble_eq_true rfl) rfl rfl dX4_init_9 rfl ?_
  refine y_aload_n (pc := 12) o dX4_init_12 rfl rfl ?_
  refine y_newE (pc := 13) (n := 2) (cs' := (.inr (4, [.ref (a + 1), .int 0, .null, .int 0, .int 0]) :: ([yI M 95] ++ [.inr (8, [.int 0, .int 0, .int 0, .int 0, .int 0, .null, .null, .null, .null])]) : List va_E)) o clX8 ycX4_15 inX8_w itX8_w dfX8 ⟨Nat.le_of_ble_eq_true rfl, Nat.le_of_ble_eq_true rfl⟩ dX4_init_13 rfl rfl ?_
  refine y_dup (pc := 16) o dX4_init_16 rfl ?_
  refine y_callE (pc := 17) (b := 2) (pre := (.inr (4, [.ref (a + 1), .int 0, .null, .int 0, .int 0]) :: ([yI M 95]) : List va_E)) (As := []) (rest := [.ref (a + 2), .ref a]) (cs1 := cYard M (a + 2)) (cs' := (.inr (4, [.ref (a + 1), .int 0, .null, .int 0, .int 0]) :: ([yI M 95] ++ cYard M (a + 2)) : List va_E)) (ex' := []) o rfl (yX8_init_ok _ M (a + 2) ) eX8_init ymX4_17 ⟨Nat.le_of_ble_eq_true rfl, Nat.le_of_ble_eq_true rfl, Nat.le_of_ble_eq_true rfl, Nat.le_of_ble_eq_true rfl⟩ rfl (fun q h => absurd h List.not_mem_nil) rfl rfl (Nat.le_of_ble_eq_true rfl) dX4_init_17 rfl ?_
  refine y_putFE (pc := 20) (p := 0) (j := 2) (fs := [.ref (a + 1), .int 0, .null, .int 0, .int 0]) (cs' := (.inr (4, [.ref (a + 1), .int 0, .ref (a + 2), .int 0, .int 0]) :: ([yI M 95] ++ cYard M (a + 2)) : List va_E)) o hin clX4 (by decide) ylX4_18 rfl rfl rfl (Nat.le_of_ble_eq_true rfl) rfl rfl dX4_init_20 rfl ?_
  exact y_vreturn (pc := 23) o hlk hQ hret dX4_init_23 rfl
