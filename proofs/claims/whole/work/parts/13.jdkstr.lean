theorem jfJ0_38 : Cond.fieldLink RJ0 38 "java/lang/String" "COMPACT_STRINGS" "Z" ∈ xWS := xWS_in (inC2 (List.mem_of_getElem? (i := 127) (by decide +kernel))) (by decide +kernel)
theorem jfJ0_1053 : Cond.fieldLink RJ0 1053 "jdk/internal/util/Preconditions" "SIOOBE_FORMATTER" "Ljava/util/function/BiFunction;" ∈ xWS := xWS_in (inC2 (List.mem_of_getElem? (i := 143) (by decide +kernel))) (by decide +kernel)
theorem jfJ0_9 : Cond.fieldLink RJ0 9 "java/lang/String" "value" "[B" ∈ xWS := xWS_in (inC10 (List.mem_of_getElem? (i := 11) (by decide +kernel))) (by decide +kernel)
theorem jfJ0_15 : Cond.fieldLink RJ0 15 "java/lang/String" "coder" "B" ∈ xWS := xWS_in (inC10 (List.mem_of_getElem? (i := 12) (by decide +kernel))) (by decide +kernel)
theorem jmJ0_335 : Cond.methodLink RJ0 335 yJ0_coder_7d493 ∈ xWS := xWS_in (inC2 (List.mem_of_getElem? (i := 123) (by decide +kernel))) (by decide +kernel)
theorem jmJ0_492 : Cond.methodLink RJ0 492 yJ0_isLatin1_aae02 ∈ xWS := xWS_in (inC2 (List.mem_of_getElem? (i := 133) (by decide +kernel))) (by decide +kernel)
theorem jmJ0_495 : Cond.methodLink RJ0 495 yJ1_charAt_3b067 ∈ xWS := xWS_in (inC2 (List.mem_of_getElem? (i := 137) (by decide +kernel))) (by decide +kernel)
theorem jmJ0_1059 : Cond.methodLink RJ0 1059 yJ3_checkIndex_8e157 ∈ xWS := xWS_in (inC2 (List.mem_of_getElem? (i := 145) (by decide +kernel))) (by decide +kernel)
theorem jmJ1_9 : Cond.methodLink RJ1 9 yJ0_checkIndex_df160 ∈ xWS := xWS_in (inC2 (List.mem_of_getElem? (i := 140) (by decide +kernel))) (by decide +kernel)
set_option maxRecDepth 100000 in
theorem eJ0_length_8abf5 : xCal yJ0_length_8abf5 cJ0_length_8abf5 1 (some .int) 0 := ⟨xWS_in (inC2 (List.mem_of_getElem? (i := 122) rfl)) rfl, xWS_in (inC2 (List.mem_of_getElem? (i := 120) (by decide +kernel))) (by decide +kernel), xWS_in (inC2 (List.mem_of_getElem? (i := 121) (by decide +kernel))) (by decide +kernel), xWS_in (inC1 (List.mem_of_getElem? (i := 9) (by decide +kernel))) (by decide +kernel), by decide +kernel, by decide +kernel, by decide +kernel, by decide⟩
set_option maxRecDepth 100000 in
theorem eJ0_charAt_5068e : xCal yJ0_charAt_5068e cJ0_charAt_5068e 2 (some .char) 1 := ⟨xWS_in (inC2 (List.mem_of_getElem? (i := 132) rfl)) rfl, xWS_in (inC2 (List.mem_of_getElem? (i := 130) (by decide +kernel))) (by decide +kernel), xWS_in (inC2 (List.mem_of_getElem? (i := 131) (by decide +kernel))) (by decide +kernel), xWS_in (inC1 (List.mem_of_getElem? (i := 9) (by decide +kernel))) (by decide +kernel), by decide +kernel, by decide +kernel, by decide +kernel, by decide⟩
set_option maxRecDepth 100000 in
theorem eJ0_coder_7d493 : xCal yJ0_coder_7d493 cJ0_coder_7d493 1 (some .byte) 0 := ⟨xWS_in (inC2 (List.mem_of_getElem? (i := 126) rfl)) rfl, xWS_in (inC2 (List.mem_of_getElem? (i := 124) (by decide +kernel))) (by decide +kernel), xWS_in (inC2 (List.mem_of_getElem? (i := 125) (by decide +kernel))) (by decide +kernel), xWS_in (inC1 (List.mem_of_getElem? (i := 9) (by decide +kernel))) (by decide +kernel), by decide +kernel, by decide +kernel, by decide +kernel, by decide⟩
set_option maxRecDepth 100000 in
theorem eJ0_isLatin1_aae02 : xCal yJ0_isLatin1_aae02 cJ0_isLatin1_aae02 1 (some .boolean) 0 := ⟨xWS_in (inC2 (List.mem_of_getElem? (i := 136) rfl)) rfl, xWS_in (inC2 (List.mem_of_getElem? (i := 134) (by decide +kernel))) (by decide +kernel), xWS_in (inC2 (List.mem_of_getElem? (i := 135) (by decide +kernel))) (by decide +kernel), xWS_in (inC1 (List.mem_of_getElem? (i := 9) (by decide +kernel))) (by decide +kernel), by decide +kernel, by decide +kernel, by decide +kernel, by decide⟩
set_option maxRecDepth 100000 in
theorem eJ0_checkIndex_df160 : xCaS yJ0_checkIndex_df160 cJ0_checkIndex_df160 2 none 2 := ⟨xWS_in (inC2 (List.mem_of_getElem? (i := 142) rfl)) rfl, xWS_in (inC2 (List.mem_of_getElem? (i := 141) (by decide +kernel))) (by decide +kernel), xWS_in (inC1 (List.mem_of_getElem? (i := 9) (by decide +kernel))) (by decide +kernel), by decide +kernel, by decide +kernel, by decide +kernel, by decide⟩
set_option maxRecDepth 100000 in
theorem eJ1_charAt_3b067 : xCaS yJ1_charAt_3b067 cJ1_charAt_3b067 2 (some .char) 2 := ⟨xWS_in (inC2 (List.mem_of_getElem? (i := 139) rfl)) rfl, xWS_in (inC2 (List.mem_of_getElem? (i := 138) (by decide +kernel))) (by decide +kernel), xWS_in (inC1 (List.mem_of_getElem? (i := 10) (by decide +kernel))) (by decide +kernel), by decide +kernel, by decide +kernel, by decide +kernel, by decide⟩
set_option maxRecDepth 100000 in
theorem eJ3_checkIndex_8e157 : xCaS yJ3_checkIndex_8e157 cJ3_checkIndex_8e157 3 (some .int) 3 := ⟨xWS_in (inC2 (List.mem_of_getElem? (i := 147) rfl)) rfl, xWS_in (inC2 (List.mem_of_getElem? (i := 146) (by decide +kernel))) (by decide +kernel), xWS_in (inC1 (List.mem_of_getElem? (i := 11) (by decide +kernel))) (by decide +kernel), by decide +kernel, by decide +kernel, by decide +kernel, by decide⟩

theorem w_size {p : Program} {l : Launch} {e : Env} {R : Room} {s : State} {m : MethodId} {args : Array Value} {below : List Frame} {meth : Method} {c : Code} {H : Heap} {locs : List Loc} {cells slots : Nat} {Q : State → Prop} {g : JFrame} (k : H.size ≤ s.heap.size + cells → W p l e R s m args below meth c H locs cells slots Q g) : W p l e R s m args below meth c H locs cells slots Q g := by
  intro T hT X
  have h : T.heap.size ≤ s.heap.size + cells := X.same.2.2.1
  rw [hT] at h
  exact k h T hT X
/-- a String constant: its object, its bytes; and the two statics that its methods read -/
def sB (A : Nat → Prop) (kK kV N : Nat) (f : Nat → Int32) (fm : Value) (U : State) (H : Heap) : Prop := va_O "java/lang/String" kK A U H ∧ va_OF "java/lang/String" "coder" "B" (.int 0) kK A U H ∧ va_OF "java/lang/String" "value" "[B" (.ref kV) kK A U H ∧ va_T .byte kV N (fun j => .int (f j)) A U H ∧ va_Z "java/lang/String" "COMPACT_STRINGS" "Z" (.int 1) A U H ∧ va_Z "jdk/internal/util/Preconditions" "SIOOBE_FORMATTER" "Ljava/util/function/BiFunction;" fm A U H
theorem sB.moved {A : Nat → Prop} {kK kV N : Nat} {f : Nat → Int32} {fm : Value} {u U : State} {H : Heap} (hvm : u.vm.Alike U.vm) (h : sB A kK kV N f fm u H) : sB A kK kV N f fm U H := ⟨h.1.moved hvm, h.2.1.moved hvm, h.2.2.1.moved hvm, h.2.2.2.1.moved hvm, h.2.2.2.2.1.moved hvm, h.2.2.2.2.2.moved hvm⟩
theorem sB.kept {A : Nat → Prop} {kK kV N : Nat} {f : Nat → Int32} {fm : Value} {U : State} {H H1 : Heap} (h : sB A kK kV N f fm U H) (hq : ∀ a : Nat, a < H.size → ¬ A a → H1[a]? = H[a]?) : sB A kK kV N f fm U H1 := ⟨h.1.kept hq, h.2.1.kept hq, h.2.2.1.kept hq, h.2.2.2.1.kept hq, h.2.2.2.2.1.kept hq, h.2.2.2.2.2.kept hq⟩
theorem sB.narrow {A B : Nat → Prop} {kK kV N : Nat} {f : Nat → Int32} {fm : Value} {U : State} {H : Heap} (h : sB A kK kV N f fm U H) (hAB : ∀ q, B q → A q) : sB B kK kV N f fm U H := ⟨h.1.narrow hAB, h.2.1.narrow hAB, h.2.2.1.narrow hAB, h.2.2.2.1.narrow hAB, h.2.2.2.2.1.narrow hAB, h.2.2.2.2.2.narrow hAB⟩
abbrev sF : Nat → Prop := fun _ => False
/-- a method that leaves the heap as it is -/
def jMI (l : Launch) (y : MethodName) (cc : ByteArray) (mL : Nat) (ret : Option FieldType) (d : Nat) (kK kV N : Nat) (f : Nat → Int32) (fm : Value) (av : List Value) (r : Int32) : Prop :=
  Met l y (Cond.code y cc mL ret :: xWS) (xrm d) (va_Pc av (fun U => sB sF kK kV N f fm U U.heap)) (va_Qi (fun r0 (_ : Unit) => r0 = r) (fun _ _ => True) sF) 0 0 sF
def jMV (l : Launch) (y : MethodName) (cc : ByteArray) (mL : Nat) (ret : Option FieldType) (d : Nat) (kK kV N : Nat) (f : Nat → Int32) (fm : Value) (av : List Value) : Prop :=
  Met l y (Cond.code y cc mL ret :: xWS) (xrm d) (va_Pc av (fun U => sB sF kK kV N f fm U U.heap)) (va_Qv (fun (_ : Unit) => True) (fun _ _ => True) sF) 0 0 sF
def jAt (Γ : xGm) (pc : Nat) (L : Nat → Option Value) (st : List Value) : Prop :=
  ∀ (ls : Array Slot), xl ls Γ.2.2.2 L → W Γ.1.1 Γ.1.2.1 Γ.1.2.2.1 Γ.1.2.2.2.1 Γ.1.2.2.2.2.1 Γ.1.2.2.2.2.2.1 Γ.1.2.2.2.2.2.2.1 Γ.1.2.2.2.2.2.2.2.1 Γ.1.2.2.2.2.2.2.2.2.1 Γ.1.2.2.2.2.2.2.2.2.2 Γ.1.2.2.2.2.1.heap [] 0 0 Γ.2.1 (F0 Γ.1.2.2.2.2.2.1 pc ls st)
def jOk (Γ : xGm) (d kK kV N : Nat) (f : Nat → Int32) (fm : Value) (cc : ByteArray) (own : String) : Prop :=
  CallFix Γ.1.1 Γ.1.2.2.2.2.2.1 Γ.1.2.2.2.2.2.2.2.2.2 cc Γ.2.2.2 Γ.1.2.2.2.2.1 Γ.1.2.2.2.2.2.2.1 xWS own ∧ sB sF kK kV N f fm Γ.1.2.2.2.2.1 Γ.1.2.2.2.2.1.heap ∧ Γ.1.2.2.2.1 = xrm d ∧ Γ.1.2.2.2.2.2.2.2.2.1.locks = false
theorem jMI_of {l : Launch} {y : MethodName} {cc : ByteArray} {mL : Nat} {ret : Option FieldType} {d kK kV N : Nat} {f : Nat → Int32} {fm : Value} {av : List Value} {r : Int32} (hy : plainFor y = true) (hav : (lg_sl av).length ≤ mL)
    (body : ∀ Γ : xGm, Γ.2.2.2 = mL → Γ.1.2.1 = l → Γ.2.1 = MQ Γ.1.2.2.2.2.2.2.2.1 (va_Qi (fun r0 (_ : Unit) => r0 = r) (fun _ _ => True) sF) Γ.1.2.2.2.2.2.2.1 Γ.1.2.2.2.2.1 0 0 sF → Γ.1.2.2.2.2.2.2.2.2.1.sig.returnType = ret → jOk Γ d kK kV N f fm cc y.cls → jAt Γ 0 (xarg av) []) : jMI l y cc mL ret d kK kV N f fm av r := by
  refine va_MetF (cc := cc) (maxL := mL) (ret := ret) hy rfl ?_
  intro p e s m args below meth c s₁ B hml hv
  obtain ⟨rfl, hB⟩ := hv
  have hts := atoms_spec (ws := Cond.code y cc mL ret :: xWS) B.pre
  have hown : s.vm.findClass y.cls = some m.cls := findClass_of_methodNamed B.named
  rw [lg_entry_eq]
  have hl := lv_entry av (n := mL) hav
  have h := body ((p, l, e, (headSpec (Cond.code y cc mL ret :: xWS) (xrm d)).room, s, m, av.toArray, below, meth, c), MQ below (va_Qi (fun r0 (_ : Unit) => r0 = r) (fun _ _ => True) sF) av.toArray s 0 0 sF, sF, mL) rfl rfl rfl B.returns ⟨⟨B.exec, B.bytes, hml, hown, fun w hw => hts w (List.mem_cons_of_mem _ hw)⟩, hB, rfl, B.notSynchronized⟩
  exact h _ ⟨hl.1, hl.2.1, fun i v hi => hl.2.2 (i, v) (x_lookup hi)⟩
theorem jMV_of {l : Launch} {y : MethodName} {cc : ByteArray} {mL : Nat} {d kK kV N : Nat} {f : Nat → Int32} {fm : Value} {av : List Value} (hy : plainFor y = true) (hav : (lg_sl av).length ≤ mL)
    (body : ∀ Γ : xGm, Γ.2.2.2 = mL → Γ.1.2.1 = l → Γ.2.1 = MQ Γ.1.2.2.2.2.2.2.2.1 (va_Qv (fun (_ : Unit) => True) (fun _ _ => True) sF) Γ.1.2.2.2.2.2.2.1 Γ.1.2.2.2.2.1 0 0 sF → Γ.1.2.2.2.2.2.2.2.2.1.sig.returnType = none → jOk Γ d kK kV N f fm cc y.cls → jAt Γ 0 (xarg av) []) : jMV l y cc mL none d kK kV N f fm av := by
  refine va_MetF (cc := cc) (maxL := mL) (ret := none) hy rfl ?_
  intro p e s m args below meth c s₁ B hml hv
  obtain ⟨rfl, hB⟩ := hv
  have hts := atoms_spec (ws := Cond.code y cc mL none :: xWS) B.pre
  have hown : s.vm.findClass y.cls = some m.cls := findClass_of_methodNamed B.named
  rw [lg_entry_eq]
  have hl := lv_entry av (n := mL) hav
  have h := body ((p, l, e, (headSpec (Cond.code y cc mL none :: xWS) (xrm d)).room, s, m, av.toArray, below, meth, c), MQ below (va_Qv (fun (_ : Unit) => True) (fun _ _ => True) sF) av.toArray s 0 0 sF, sF, mL) rfl rfl rfl B.returns ⟨⟨B.exec, B.bytes, hml, hown, fun w hw => hts w (List.mem_cons_of_mem _ hw)⟩, hB, rfl, B.notSynchronized⟩
  exact h _ ⟨hl.1, hl.2.1, fun i v hi => hl.2.2 (i, v) (x_lookup hi)⟩
section JR
variable {Γ : xGm} {d pc kK kV N : Nat} {f : Nat → Int32} {fm : Value} {cc : ByteArray} {own : String} {L : Nat → Option Value} {st : List Value}
theorem j_same {H1 : Heap} {s : State} {locs : List Loc} (h : va_S sF s.heap H1 locs) (hz : H1.size ≤ s.heap.size + 0) : H1 = s.heap ∧ locs = [] := by
  refine ⟨?_, ?_⟩
  · apply Array.ext_getElem?
    intro i
    by_cases hi : i < s.heap.size
    · exact h.2.1 i hi (fun z => z)
    · rw [Array.getElem?_eq_none (by omega), Array.getElem?_eq_none (by omega)]
  · cases locs with
    | nil => rfl
    | cons x l => exact absurd (h.2.2 x List.mem_cons_self) (fun z => z)
theorem j_iload_n (o : jOk Γ d kK kV N f fm cc own) {q : Fin 4} {i : Nat} {x : Int32} (hd : decode cc pc = .ok (.iload_n q, 1)) (hi : (q : Nat) = i) (hx : L i = some (.int x)) (k : jAt Γ (pc + 1) L (.int x :: st)) : jAt Γ pc L st :=
  fun ls hl => lv_iload_n o.1.1 o.1.2.1 hd hi (hl.2.2 _ _ hx) (k ls hl)
theorem j_aload_n (o : jOk Γ d kK kV N f fm cc own) {q : Fin 4} {i : Nat} {x : Nat} (hd : decode cc pc = .ok (.aload_n q, 1)) (hi : (q : Nat) = i) (hx : L i = some (.ref x)) (k : jAt Γ (pc + 1) L (.ref x :: st)) : jAt Γ pc L st :=
  fun ls hl => lv_aload_n o.1.1 o.1.2.1 hd hi (hl.2.2 _ _ hx) (k ls hl)
theorem j_iconst (o : jOk Γ d kK kV N f fm cc own) {n : Int} {v : Int32} (hd : decode cc pc = .ok (.iconst n, 1)) (hv : Int32.ofInt n = v) (k : jAt Γ (pc + 1) L (.int v :: st)) : jAt Γ pc L st :=
  fun ls hl => lv_iconst o.1.1 o.1.2.1 hd hv (k ls hl)
theorem j_sipush (o : jOk Γ d kK kV N f fm cc own) {n : Int} {v : Int32} (hd : decode cc pc = .ok (.sipush n, 3)) (hv : (Int16.ofInt n).toInt32 = v) (k : jAt Γ (pc + 3) L (.int v :: st)) : jAt Γ pc L st :=
  fun ls hl => lv_sipush o.1.1 o.1.2.1 hd hv (k ls hl)
theorem j_goto (o : jOk Γ d kK kV N f fm cc own) {off : Int} {tgt : Nat} (hd : decode cc pc = .ok (.goto off, 3)) (ht : (pc : Int) + off = (tgt : Int)) (k : jAt Γ tgt L st) : jAt Γ pc L st :=
  fun ls hl => lv_goto o.1.1 o.1.2.1 hd ht (k ls hl)
theorem j_if_eq (o : jOk Γ d kK kV N f fm cc own) {x : Int32} {off : Int} {tgt : Nat} (hd : decode cc pc = .ok (.ifCond .eq off, 3)) (ht : (pc : Int) + off = (tgt : Int)) (h : ¬ x = 0) (k : jAt Γ (pc + 3) L st) : jAt Γ pc L (.int x :: st) :=
  fun ls hl => lv_if_eq o.1.1 o.1.2.1 hd ht (fun c => absurd c h) (fun _ => k ls hl)
theorem j_if_ne (o : jOk Γ d kK kV N f fm cc own) {x : Int32} {off : Int} {tgt : Nat} (hd : decode cc pc = .ok (.ifCond .ne off, 3)) (ht : (pc : Int) + off = (tgt : Int)) (h : x = 0) (k : jAt Γ (pc + 3) L st) : jAt Γ pc L (.int x :: st) :=
  fun ls hl => lv_if_ne o.1.1 o.1.2.1 hd ht (fun c => absurd h c) (fun _ => k ls hl)
theorem j_if_lt (o : jOk Γ d kK kV N f fm cc own) {x : Int32} {off : Int} {tgt : Nat} (hd : decode cc pc = .ok (.ifCond .lt off, 3)) (ht : (pc : Int) + off = (tgt : Int)) (h : ¬ x < 0) (k : jAt Γ (pc + 3) L st) : jAt Γ pc L (.int x :: st) :=
  fun ls hl => lv_if_lt o.1.1 o.1.2.1 hd ht (fun c => absurd c h) (fun _ => k ls hl)
theorem j_icmp_lt (o : jOk Γ d kK kV N f fm cc own) {x y : Int32} {off : Int} {tgt : Nat} (hd : decode cc pc = .ok (.if_icmp .lt off, 3)) (ht : (pc : Int) + off = (tgt : Int)) (h : x < y) (k : jAt Γ tgt L st) : jAt Γ pc L (.int y :: .int x :: st) :=
  fun ls hl => lv_icmp_lt o.1.1 o.1.2.1 hd ht (fun _ => k ls hl) (fun c => absurd h c)
theorem j_iand (o : jOk Γ d kK kV N f fm cc own) {x y : Int32} (hd : decode cc pc = .ok (.iand, 1)) (k : jAt Γ (pc + 1) L (.int (x &&& y) :: st)) : jAt Γ pc L (.int y :: .int x :: st) :=
  fun ls hl => lv_iand o.1.1 o.1.2.1 hd (k ls hl)
theorem j_ishr (o : jOk Γ d kK kV N f fm cc own) {x y : Int32} (hd : decode cc pc = .ok (.ishr, 1)) (k : jAt Γ (pc + 1) L (.int (x >>> (y &&& 31)) :: st)) : jAt Γ pc L (.int y :: .int x :: st) :=
  fun ls hl => lv_ishr o.1.1 o.1.2.1 hd (k ls hl)
theorem j_i2c (o : jOk Γ d kK kV N f fm cc own) {x : Int32} (hd : decode cc pc = .ok (.i2c, 1)) (k : jAt Γ (pc + 1) L (.int (x.toUInt32 % 65536).toInt32 :: st)) : jAt Γ pc L (.int x :: st) :=
  fun ls hl => lv_i2c o.1.1 o.1.2.1 hd rfl (k ls hl)
theorem j_pop (o : jOk Γ d kK kV N f fm cc own) {v : Value} (hd : decode cc pc = .ok (.pop, 1)) (hv : v.category = 1) (k : jAt Γ (pc + 1) L st) : jAt Γ pc L (v :: st) :=
  fun ls hl => lv_pop o.1.1 o.1.2.1 hd hv (k ls hl)
theorem j_getC (o : jOk Γ d kK kV N f fm cc own) {idx : Nat} (hl0 : Cond.fieldLink own idx "java/lang/String" "coder" "B" ∈ xWS) (hd : decode cc pc = .ok (.getfield idx, 3)) (k : jAt Γ (pc + 3) L (.int 0 :: st)) : jAt Γ pc L (.ref kK :: st) :=
  fun ls hl => vk_getf o.1.1 o.1.2.1 o.2.1.2.1 va_S.rf o.1.2.2.2.1 (o.1.2.2.2.2 _ hl0) (fun _ h => h) hd (k ls hl)
theorem j_getV (o : jOk Γ d kK kV N f fm cc own) {idx : Nat} (hl0 : Cond.fieldLink own idx "java/lang/String" "value" "[B" ∈ xWS) (hd : decode cc pc = .ok (.getfield idx, 3)) (k : jAt Γ (pc + 3) L (.ref kV :: st)) : jAt Γ pc L (.ref kK :: st) :=
  fun ls hl => vk_getf o.1.1 o.1.2.1 o.2.1.2.2.1 va_S.rf o.1.2.2.2.1 (o.1.2.2.2.2 _ hl0) (fun _ h => h) hd (k ls hl)
theorem j_getS (o : jOk Γ d kK kV N f fm cc own) {idx : Nat} (hl0 : Cond.fieldLink own idx "java/lang/String" "COMPACT_STRINGS" "Z" ∈ xWS) (hd : decode cc pc = .ok (.getstatic idx, 3)) (k : jAt Γ (pc + 3) L (.int 1 :: st)) : jAt Γ pc L st :=
  fun ls hl => va_gets o.1.1 o.1.2.1 o.2.1.2.2.2.2.1 va_S.rf o.1.2.2.2.1 (o.1.2.2.2.2 _ hl0) (fun _ h => h) hd (k ls hl)
theorem j_getF (o : jOk Γ d kK kV N f fm cc own) {idx : Nat} (hl0 : Cond.fieldLink own idx "jdk/internal/util/Preconditions" "SIOOBE_FORMATTER" "Ljava/util/function/BiFunction;" ∈ xWS) (hd : decode cc pc = .ok (.getstatic idx, 3)) (k : jAt Γ (pc + 3) L (fm :: st)) : jAt Γ pc L st :=
  fun ls hl => va_gets o.1.1 o.1.2.1 o.2.1.2.2.2.2.2 va_S.rf o.1.2.2.2.1 (o.1.2.2.2.2 _ hl0) (fun _ h => h) hd (k ls hl)
theorem j_alen (o : jOk Γ d kK kV N f fm cc own) (hd : decode cc pc = .ok (.arraylength, 1)) (k : jAt Γ (pc + 1) L (.int (Int32.ofNat N) :: st)) : jAt Γ pc L (.ref kV :: st) :=
  fun ls hl => va_tlen o.1.1 o.1.2.1 o.2.1.2.2.2.1 va_S.rf rfl hd (k ls hl)
theorem j_bald (o : jOk Γ d kK kV N f fm cc own) {i : Int32} (hin : vp_in i N) (hd : decode cc pc = .ok (.baload, 1)) (k : jAt Γ (pc + 1) L (.int (f i.toNatClampNeg) :: st)) : jAt Γ pc L (.int i :: .ref kV :: st) :=
  fun ls hl => va_tb o.1.1 o.1.2.1 o.2.1.2.2.2.1 va_S.rf hin rfl hd (k ls hl)
theorem j_blind {av : List Value} : FrameBlind (va_Pc av (fun U => sB sF kK kV N f fm U U.heap)) := by
  intro a U g mk q
  exact ⟨q.1, sB.moved (u := U) (U := U.calling g mk a) (Vm.Alike.refl U.vm) q.2⟩
theorem j_callV {y : MethodName} {cc' : ByteArray} {mL d' n idx : Nat} {ret : Option FieldType} {As rest : List Value} {r : Int32} (o : jOk Γ d kK kV N f fm cc own) (hM : jMI Γ.1.2.1 y cc' mL ret d' kK kV N f fm (.ref kK :: As) r) (hc : y.cls = "java/lang/String") (hy : xCal y cc' mL ret n) (hlk : Cond.methodLink own idx y ∈ xWS) (hd' : d' < d) (hn : As.length = n) (hst : st = As.reverse ++ .ref kK :: rest) (hcat : (rest.map fun v => v.category).sum ≤ 8) (hd : decode cc pc = .ok (.invokevirtual idx, 3)) (k : jAt Γ (pc + 3) L (.int r :: rest)) : jAt Γ pc L st := by
  intro ls hl
  obtain ⟨cell, q1, q2, q3, -⟩ := o.2.1.1
  refine va_calli (va_runV (As := As) (rest := rest) o.1 hM (x_cwV o.1.2.2.2.2 hy hlk o.2.2.1 hd') ⟨j_blind, ⟨cell, q1, q2, by rw [hc]; exact q3⟩, fun U hU hW => ⟨rfl, by show sB sF kK kV N f fm U U.heap; rw [hU]; exact sB.moved hW.alike o.2.1⟩⟩ rfl hn hl.1 hst (lv_room hcat) hd ⟨Nat.zero_le _, Nat.zero_le _⟩) (A0 := sF) va_S.rf (fun q _ h => h) (fun q h => h) (fun r1 u t H1 locs1 ht hvm hw1 hB hz1 hk1 hS1 => w_size (fun hz => ?_))
  obtain ⟨e1, e2⟩ := j_same hS1 hz
  subst e1; subst e2; subst hw1
  exact k ls hl
theorem j_callS {y : MethodName} {cc' : ByteArray} {mL d' n idx : Nat} {ret : Option FieldType} {As rest : List Value} {r : Int32} (o : jOk Γ d kK kV N f fm cc own) (hM : jMI Γ.1.2.1 y cc' mL ret d' kK kV N f fm As r) (hy : xCaS y cc' mL ret n) (hlk : Cond.methodLink own idx y ∈ xWS) (hd' : d' < d) (hn : As.length = n) (hst : st = As.reverse ++ rest) (hcat : (rest.map fun v => v.category).sum ≤ 8) (hd : decode cc pc = .ok (.invokestatic idx, 3)) (k : jAt Γ (pc + 3) L (.int r :: rest)) : jAt Γ pc L st := by
  intro ls hl
  refine va_calli (va_runS (As := As) (rest := rest) o.1 hM (x_cwS o.1.2.2.2.2 hy hlk o.2.2.1 hd') ⟨j_blind, fun U hU hW => ⟨rfl, by show sB sF kK kV N f fm U U.heap; rw [hU]; exact sB.moved hW.alike o.2.1⟩⟩ rfl hn hl.1 hst (lv_room hcat) hd ⟨Nat.zero_le _, Nat.zero_le _⟩) (A0 := sF) va_S.rf (fun q _ h => h) (fun q h => h) (fun r1 u t H1 locs1 ht hvm hw1 hB hz1 hk1 hS1 => w_size (fun hz => ?_))
  obtain ⟨e1, e2⟩ := j_same hS1 hz
  subst e1; subst e2; subst hw1
  exact k ls hl
theorem j_callSv {y : MethodName} {cc' : ByteArray} {mL d' n idx : Nat} {ret : Option FieldType} {As rest : List Value} (o : jOk Γ d kK kV N f fm cc own) (hM : jMV Γ.1.2.1 y cc' mL ret d' kK kV N f fm As) (hy : xCaS y cc' mL ret n) (hlk : Cond.methodLink own idx y ∈ xWS) (hd' : d' < d) (hn : As.length = n) (hst : st = As.reverse ++ rest) (hcat : (rest.map fun v => v.category).sum ≤ 8) (hd : decode cc pc = .ok (.invokestatic idx, 3)) (k : jAt Γ (pc + 3) L rest) : jAt Γ pc L st := by
  intro ls hl
  refine va_callv (va_runS (As := As) (rest := rest) o.1 hM (x_cwS o.1.2.2.2.2 hy hlk o.2.2.1 hd') ⟨j_blind, fun U hU hW => ⟨rfl, by show sB sF kK kV N f fm U U.heap; rw [hU]; exact sB.moved hW.alike o.2.1⟩⟩ rfl hn hl.1 hst (lv_room hcat) hd ⟨Nat.zero_le _, Nat.zero_le _⟩) (A0 := sF) va_S.rf (fun q _ h => h) (fun q h => h) (fun u t H1 locs1 ht hvm hw1 hB hz1 hk1 hS1 => w_size (fun hz => ?_))
  obtain ⟨e1, e2⟩ := j_same hS1 hz
  subst e1; subst e2
  exact k ls hl
theorem j_ret {r r' : Int32} {ty : FieldType} (o : jOk Γ d kK kV N f fm cc own) (hQ : Γ.2.1 = MQ Γ.1.2.2.2.2.2.2.2.1 (va_Qi (fun r0 (_ : Unit) => r0 = r) (fun _ _ => True) sF) Γ.1.2.2.2.2.2.2.1 Γ.1.2.2.2.2.1 0 0 sF) (hr : Γ.1.2.2.2.2.2.2.2.2.1.sig.returnType = some ty) (hn : narrow ty (.int r') = .int r') (he : r' = r) (hd : decode cc pc = .ok (.ireturn, 1)) : jAt Γ pc L [.int r'] := by
  subst he
  intro ls hl
  have h := W.zret (p := Γ.1.1) (l := Γ.1.2.1) (e := Γ.1.2.2.1) (R := Γ.1.2.2.2.1) (s := Γ.1.2.2.2.2.1) (m := Γ.1.2.2.2.2.2.1) (args := Γ.1.2.2.2.2.2.2.1) (below := Γ.1.2.2.2.2.2.2.2.1) (meth := Γ.1.2.2.2.2.2.2.2.2.1) (c := Γ.1.2.2.2.2.2.2.2.2.2) (H := Γ.1.2.2.2.2.1.heap) (locs := []) (cells := 0) (slots := 0) (ls := ls) (Qc := va_Qi (fun r0 (_ : Unit) => r0 = r') (fun _ _ => True) sF) (free := sF) o.1.1 o.1.2.1 hr hn
    (fun t ht hW => ⟨⟨r', (), rfl, rfl, trivial⟩, (va_S.rf (A := sF)).F ht⟩) (fun q h => absurd h List.not_mem_nil) hd o.2.2.2
  rw [← hQ] at h
  exact h
theorem j_vret (o : jOk Γ d kK kV N f fm cc own) (hQ : Γ.2.1 = MQ Γ.1.2.2.2.2.2.2.2.1 (va_Qv (fun (_ : Unit) => True) (fun _ _ => True) sF) Γ.1.2.2.2.2.2.2.1 Γ.1.2.2.2.2.1 0 0 sF) (hr : Γ.1.2.2.2.2.2.2.2.2.1.sig.returnType = none) (hd : decode cc pc = .ok (.return_, 1)) : jAt Γ pc L [] := by
  intro ls hl
  have h := W.vret (p := Γ.1.1) (l := Γ.1.2.1) (e := Γ.1.2.2.1) (R := Γ.1.2.2.2.1) (s := Γ.1.2.2.2.2.1) (m := Γ.1.2.2.2.2.2.1) (args := Γ.1.2.2.2.2.2.2.1) (below := Γ.1.2.2.2.2.2.2.2.1) (meth := Γ.1.2.2.2.2.2.2.2.2.1) (c := Γ.1.2.2.2.2.2.2.2.2.2) (H := Γ.1.2.2.2.2.1.heap) (locs := []) (cells := 0) (slots := 0) (ls := ls) (Qc := va_Qv (fun (_ : Unit) => True) (fun _ _ => True) sF) (free := sF) o.1.1 o.1.2.1 hr
    (fun t ht hW => ⟨⟨(), rfl, trivial, trivial⟩, (va_S.rf (A := sF)).F ht⟩) (fun q h => absurd h List.not_mem_nil) hd o.2.2.2
  rw [← hQ] at h
  exact h
theorem j_to {l : List (Nat × Value)} (h : xall L l) (k : jAt Γ pc (xlv l) st) : jAt Γ pc L st := fun ls hl => k ls ⟨hl.1, hl.2.1, fun i v hi => hl.2.2 i v (xall_get h hi)⟩
end JR
theorem tJ_coder (l : Launch) (kK kV N : Nat) (f : Nat → Int32) (fm : Value) : jMI l yJ0_coder_7d493 cJ0_coder_7d493 1 (some .byte) 1 kK kV N f fm [.ref kK] 0 := by
  refine jMI_of (by decide +kernel) (Nat.le_of_ble_eq_true rfl) (fun Γ hnL hl hQ hr o => ?_)
  have o : jOk Γ 1 kK kV N f fm cJ0_coder_7d493 RJ0 := o
  refine j_getS (pc := 0) o jfJ0_38 dJ0_coder_7d493_0 ?_
  refine j_if_eq (pc := 3) (tgt := 13) o dJ0_coder_7d493_3 (by decide) (by decide) ?_
  refine j_aload_n (pc := 6) o dJ0_coder_7d493_6 rfl rfl ?_
  refine j_getC (pc := 7) o jfJ0_15 dJ0_coder_7d493_7 ?_
  refine j_goto (pc := 10) (tgt := 14) o dJ0_coder_7d493_10 (by decide) ?_
  exact j_ret (pc := 14) o hQ hr rfl rfl dJ0_coder_7d493_14
theorem tJ_isLatin1 (l : Launch) (kK kV N : Nat) (f : Nat → Int32) (fm : Value) : jMI l yJ0_isLatin1_aae02 cJ0_isLatin1_aae02 1 (some .boolean) 1 kK kV N f fm [.ref kK] 1 := by
  refine jMI_of (by decide +kernel) (Nat.le_of_ble_eq_true rfl) (fun Γ hnL hl hQ hr o => ?_)
  have o : jOk Γ 1 kK kV N f fm cJ0_isLatin1_aae02 RJ0 := o
  refine j_getS (pc := 0) o jfJ0_38 dJ0_isLatin1_aae02_0 ?_
  refine j_if_eq (pc := 3) (tgt := 17) o dJ0_isLatin1_aae02_3 (by decide) (by decide) ?_
  refine j_aload_n (pc := 6) o dJ0_isLatin1_aae02_6 rfl rfl ?_
  refine j_getC (pc := 7) o jfJ0_15 dJ0_isLatin1_aae02_7 ?_
  refine j_if_ne (pc := 10) (tgt := 17) o dJ0_isLatin1_aae02_10 (by decide) rfl ?_
  refine j_iconst (pc := 13) o dJ0_isLatin1_aae02_13 ic_1 ?_
  refine j_goto (pc := 14) (tgt := 18) o dJ0_isLatin1_aae02_14 (by decide) ?_
  exact j_ret (pc := 18) o hQ hr rfl rfl dJ0_isLatin1_aae02_18
theorem tJ_length (l : Launch) (kK kV N : Nat) (f : Nat → Int32) (fm : Value) : jMI l yJ0_length_8abf5 cJ0_length_8abf5 1 (some .int) 2 kK kV N f fm [.ref kK] (nI N) := by
  refine jMI_of (by decide +kernel) (Nat.le_of_ble_eq_true rfl) (fun Γ hnL hl hQ hr o => ?_)
  subst hl
  have o : jOk Γ 2 kK kV N f fm cJ0_length_8abf5 RJ0 := o
  refine j_aload_n (pc := 0) o dJ0_length_8abf5_0 rfl rfl ?_
  refine j_getV (pc := 1) o jfJ0_9 dJ0_length_8abf5_1 ?_
  refine j_alen (pc := 4) o dJ0_length_8abf5_4 ?_
  refine j_aload_n (pc := 5) o dJ0_length_8abf5_5 rfl rfl ?_
  refine j_callV (pc := 6) (As := []) (rest := [.int (Int32.ofNat N)]) o (tJ_coder _ kK kV N f fm) rfl eJ0_coder_7d493 jmJ0_335 (by decide) rfl rfl (Nat.le_of_ble_eq_true rfl) dJ0_length_8abf5_6 ?_
  refine j_ishr (pc := 9) o dJ0_length_8abf5_9 ?_
  exact j_ret (pc := 10) o hQ hr rfl (sb_shr0 _) dJ0_length_8abf5_10
theorem tJ_preCheck (l : Launch) (kK kV N : Nat) (f : Nat → Int32) (fm : Value) (hfm : fm = .null ∨ ∃ q, fm = .ref q) (i n : Int32) (h0 : ¬ i < 0) (h1 : i < n) : jMI l yJ3_checkIndex_8e157 cJ3_checkIndex_8e157 3 (some .int) 1 kK kV N f fm [.int i, .int n, fm] i := by
  rcases hfm with rfl | ⟨q, rfl⟩
  · refine jMI_of (by decide +kernel) (Nat.le_of_ble_eq_true rfl) (fun Γ hnL hl hQ hr o => ?_)
    have o : jOk Γ 1 kK kV N f .null cJ3_checkIndex_8e157 RJ3 := o
    refine j_iload_n (pc := 0) o dJ3_checkIndex_8e157_0 rfl rfl ?_
    refine j_if_lt (pc := 1) (tgt := 9) o dJ3_checkIndex_8e157_1 (by decide) h0 ?_
    refine j_iload_n (pc := 4) o dJ3_checkIndex_8e157_4 rfl rfl ?_
    refine j_iload_n (pc := 5) o dJ3_checkIndex_8e157_5 rfl rfl ?_
    refine j_icmp_lt (pc := 6) (tgt := 16) o dJ3_checkIndex_8e157_6 (by decide) h1 ?_
    refine j_iload_n (pc := 16) o dJ3_checkIndex_8e157_16 rfl rfl ?_
    exact j_ret (pc := 17) o hQ hr rfl rfl dJ3_checkIndex_8e157_17
  · refine jMI_of (by decide +kernel) (Nat.le_of_ble_eq_true rfl) (fun Γ hnL hl hQ hr o => ?_)
    have o : jOk Γ 1 kK kV N f (.ref q) cJ3_checkIndex_8e157 RJ3 := o
    refine j_iload_n (pc := 0) o dJ3_checkIndex_8e157_0 rfl rfl ?_
    refine j_if_lt (pc := 1) (tgt := 9) o dJ3_checkIndex_8e157_1 (by decide) h0 ?_
    refine j_iload_n (pc := 4) o dJ3_checkIndex_8e157_4 rfl rfl ?_
    refine j_iload_n (pc := 5) o dJ3_checkIndex_8e157_5 rfl rfl ?_
    refine j_icmp_lt (pc := 6) (tgt := 16) o dJ3_checkIndex_8e157_6 (by decide) h1 ?_
    refine j_iload_n (pc := 16) o dJ3_checkIndex_8e157_16 rfl rfl ?_
    exact j_ret (pc := 17) o hQ hr rfl rfl dJ3_checkIndex_8e157_17
theorem tJ_checkIndex (l : Launch) (kK kV N : Nat) (f : Nat → Int32) (fm : Value) (hfm : fm = .null ∨ ∃ q, fm = .ref q) (i n : Int32) (h0 : ¬ i < 0) (h1 : i < n) : jMV l yJ0_checkIndex_df160 cJ0_checkIndex_df160 2 none 2 kK kV N f fm [.int i, .int n] := by
  refine jMV_of (by decide +kernel) (Nat.le_of_ble_eq_true rfl) (fun Γ hnL hl hQ hr o => ?_)
  subst hl
  have o : jOk Γ 2 kK kV N f fm cJ0_checkIndex_df160 RJ0 := o
  refine j_iload_n (pc := 0) o dJ0_checkIndex_df160_0 rfl rfl ?_
  refine j_iload_n (pc := 1) o dJ0_checkIndex_df160_1 rfl rfl ?_
  refine j_getF (pc := 2) o jfJ0_1053 dJ0_checkIndex_df160_2 ?_
  refine j_callS (pc := 5) (As := [.int i, .int n, fm]) (rest := []) o (tJ_preCheck _ kK kV N f fm hfm i n h0 h1) eJ3_checkIndex_8e157 jmJ0_1059 (by decide) rfl rfl (Nat.le_of_ble_eq_true rfl) dJ0_checkIndex_df160_5 ?_
  refine j_pop (pc := 8) o dJ0_checkIndex_df160_8 rfl ?_
  exact j_vret (pc := 9) o hQ hr dJ0_checkIndex_df160_9
theorem tJ_latin (l : Launch) (kK kV N : Nat) (f : Nat → Int32) (fm : Value) (hfm : fm = .null ∨ ∃ q, fm = .ref q) (i : Nat) (hi : i < N) (hN : N < 2 ^ 31) : jMI l yJ1_charAt_3b067 cJ1_charAt_3b067 2 (some .char) 3 kK kV N f fm [.ref kV, .int (nI i)] ((f i &&& 255).toUInt32 % 65536).toInt32 := by
  refine jMI_of (by decide +kernel) (Nat.le_of_ble_eq_true rfl) (fun Γ hnL hl hQ hr o => ?_)
  subst hl
  have o : jOk Γ 3 kK kV N f fm cJ1_charAt_3b067 RJ1 := o
  refine j_iload_n (pc := 0) o dJ1_charAt_3b067_0 rfl rfl ?_
  refine j_aload_n (pc := 1) o dJ1_charAt_3b067_1 rfl rfl ?_
  refine j_alen (pc := 2) o dJ1_charAt_3b067_2 ?_
  refine j_callSv (pc := 3) (As := [.int (nI i), .int (nI N)]) (rest := []) o (tJ_checkIndex _ kK kV N f fm hfm (nI i) (nI N) (nI_pos (by omega)) (nI_lt hi hN)) eJ0_checkIndex_df160 jmJ1_9 (by decide) rfl rfl (Nat.le_of_ble_eq_true rfl) dJ1_charAt_3b067_3 ?_
  refine j_aload_n (pc := 6) o dJ1_charAt_3b067_6 rfl rfl ?_
  refine j_iload_n (pc := 7) o dJ1_charAt_3b067_7 rfl rfl ?_
  refine j_bald (pc := 8) o (vp_in_nI hi hN) dJ1_charAt_3b067_8 ?_
  refine j_sipush (pc := 9) (v := 255) o dJ1_charAt_3b067_9 (by decide +kernel) ?_
  refine j_iand (pc := 12) o dJ1_charAt_3b067_12 ?_
  refine j_i2c (pc := 13) o dJ1_charAt_3b067_13 ?_
  exact j_ret (pc := 14) o hQ hr (pk_nc _) (by rw [nI_clamp (by omega)]) dJ1_charAt_3b067_14
theorem tJ_charAt (l : Launch) (kK kV N : Nat) (f : Nat → Int32) (fm : Value) (hfm : fm = .null ∨ ∃ q, fm = .ref q) (i : Nat) (hi : i < N) (hN : N < 2 ^ 31) : jMI l yJ0_charAt_5068e cJ0_charAt_5068e 2 (some .char) 4 kK kV N f fm [.ref kK, .int (nI i)] ((f i &&& 255).toUInt32 % 65536).toInt32 := by
  refine jMI_of (by decide +kernel) (Nat.le_of_ble_eq_true rfl) (fun Γ hnL hl hQ hr o => ?_)
  subst hl
  have o : jOk Γ 4 kK kV N f fm cJ0_charAt_5068e RJ0 := o
  refine j_aload_n (pc := 0) o dJ0_charAt_5068e_0 rfl rfl ?_
  refine j_callV (pc := 1) (As := []) (rest := []) o (tJ_isLatin1 _ kK kV N f fm) rfl eJ0_isLatin1_aae02 jmJ0_492 (by decide) rfl rfl (Nat.le_of_ble_eq_true rfl) dJ0_charAt_5068e_1 ?_
  refine j_if_eq (pc := 4) (tgt := 16) o dJ0_charAt_5068e_4 (by decide) (by decide) ?_
  refine j_aload_n (pc := 7) o dJ0_charAt_5068e_7 rfl rfl ?_
  refine j_getV (pc := 8) o jfJ0_9 dJ0_charAt_5068e_8 ?_
  refine j_iload_n (pc := 11) o dJ0_charAt_5068e_11 rfl rfl ?_
  refine j_callS (pc := 12) (As := [.ref kV, .int (nI i)]) (rest := []) o (tJ_latin _ kK kV N f fm hfm i hi hN) eJ1_charAt_3b067 jmJ0_495 (by decide) rfl rfl (Nat.le_of_ble_eq_true rfl) dJ0_charAt_5068e_12 ?_
  exact j_ret (pc := 15) o hQ hr (pk_nc _) rfl dJ0_charAt_5068e_15

