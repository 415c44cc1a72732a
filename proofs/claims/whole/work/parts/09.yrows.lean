
/-! ===== constructors: a world of cells made one behind another, from an address on ===== -/
def ywl (a : Nat) (cs : List va_E) : va_W := cs.mapIdx (fun k e => (a + k, e))
theorem ywl_get (a : Nat) (cs : List va_E) (k : Nat) : (ywl a cs)[k]? = (cs[k]?).map (fun e => (a + k, e)) := by simp [ywl]
theorem ywl_D (a : Nat) (cs : List va_E) : va_D (fun q => a ≤ q) (ywl a cs) := by
  refine ⟨fun i j p q hi hj hpq => ?_, fun k q hk => ?_⟩
  · rw [ywl_get] at hi hj
    cases h1 : cs[i]? with
    | none => rw [h1] at hi; cases hi
    | some e1 =>
      cases h2 : cs[j]? with
      | none => rw [h2] at hj; cases hj
      | some e2 =>
        rw [h1] at hi; rw [h2] at hj
        cases hi; cases hj
        have : a + i = a + j := hpq
        omega
  · rw [ywl_get] at hk
    cases h1 : cs[k]? with
    | none => rw [h1] at hk; cases hk
    | some e1 =>
      rw [h1] at hk
      cases hk
      exact Nat.le_add_right _ _
theorem ywl_app (a : Nat) (cs ds : List va_E) : ywl a (cs ++ ds) = ywl a cs ++ ywl (a + cs.length) ds := by
  apply List.ext_getElem?
  intro i
  rw [ywl_get]
  have hl : (ywl a cs).length = cs.length := by simp [ywl]
  by_cases h : i < cs.length
  · rw [List.getElem?_append_left h, List.getElem?_append_left (by rw [hl]; exact h), ywl_get]
  · rw [List.getElem?_append_right (by omega), List.getElem?_append_right (by omega), ywl_get, hl]
    congr 1
    funext e
    rw [show a + i = a + cs.length + (i - cs.length) by omega]
theorem ywl_set (a : Nat) (cs : List va_E) (p : Nat) (e : va_E) : (ywl a cs).set p (a + p, e) = ywl a (cs.set p e) := by
  apply List.ext_getElem?
  intro i
  rw [ywl_get]
  have hl : (ywl a cs).length = cs.length := by simp [ywl]
  by_cases h : i = p
  · subst h
    by_cases hi : i < cs.length
    · rw [List.getElem?_set_self (by rw [hl]; exact hi), List.getElem?_set_self hi]; rfl
    · rw [List.getElem?_eq_none (by simp [hl]; omega), List.getElem?_eq_none (by simp; omega)]; rfl
  · rw [List.getElem?_set_ne (Ne.symm h), List.getElem?_set_ne (Ne.symm h), ywl_get]
def xrm2 (d mc ms : Nat) : Room := { frames := d, cells := mc, slots := ms, locals := 64 * d }
def yW (M : xMg) (a : Nat) (ex : va_W) (H0 : Heap) (cs : List va_E) (H : Heap) (locs : List Loc) : Prop := H.size = a + cs.length ∧ va_P M.1 vwCl (ywl a cs) H ∧ va_P M.1 vwCl ex H ∧ va_S (fun q => a ≤ q) H0 H locs
def yAt (Γ : xGm) (M : xMg) (a : Nat) (ex : va_W) (kc ks pc : Nat) (L : Nat → Option Value) (st : List Value) (cs : List va_E) : Prop :=
  ∀ (ls : Array Slot) (H : Heap) (locs : List Loc), xl ls Γ.2.2.2 L → yW M a ex Γ.1.2.2.2.2.1.heap cs H locs →
    W Γ.1.1 Γ.1.2.1 Γ.1.2.2.1 Γ.1.2.2.2.1 Γ.1.2.2.2.2.1 Γ.1.2.2.2.2.2.1 Γ.1.2.2.2.2.2.2.1 Γ.1.2.2.2.2.2.2.2.1 Γ.1.2.2.2.2.2.2.2.2.1 Γ.1.2.2.2.2.2.2.2.2.2 H locs kc ks Γ.2.1 (F0 Γ.1.2.2.2.2.2.1 pc ls st)
def yOk (Γ : xGm) (M : xMg) (a : Nat) (ex : va_W) (R : Room) (cc : ByteArray) (own : String) : Prop :=
  CallFix Γ.1.1 Γ.1.2.2.2.2.2.1 Γ.1.2.2.2.2.2.2.2.2.2 cc Γ.2.2.2 Γ.1.2.2.2.2.1 Γ.1.2.2.2.2.2.2.1 xWS own ∧ va_K M.1 vwCl (xty M) Γ.1.2.2.2.2.1 ∧ (∀ q ∈ ex, q.1 < a) ∧ Γ.1.2.2.2.1 = R ∧ a ≤ Γ.1.2.2.2.2.1.heap.size ∧ va_AO RX8 Γ.1.2.2.2.2.1
def yB (M : xMg) (a : Nat) (ex : va_W) (cs : List va_E) (U : State) : Prop := U.heap.size = a + cs.length ∧ va_P M.1 vwCl (ywl a cs) U.heap ∧ va_P M.1 vwCl ex U.heap ∧ va_K M.1 vwCl (xty M) U ∧ va_AO RX8 U
def yMet (l : Launch) (y : MethodName) (cc : ByteArray) (mL d mc ms : Nat) (M : xMg) (a : Nat) (ex : va_W) (av : List Value) (cs cs' : List va_E) : Prop :=
  Met l y (Cond.code y cc mL none :: xWS) (xrm2 d mc ms) (va_Pc av (fun U => yB M a ex cs U)) (va_Qv (fun (_ : Unit) => True) (fun _ t => yB M a ex cs' t) (fun q => a ≤ q)) mc ms (fun q => a ≤ q)
section YR
variable {Γ : xGm} {M : xMg} {a kc ks pc : Nat} {ex : va_W} {R : Room} {cc : ByteArray} {own : String} {L : Nat → Option Value} {st : List Value} {cs : List va_E}
theorem y_iconst (o : yOk Γ M a ex R cc own) {n : Int} {v : Int32} (hd : decode cc pc = .ok (.iconst n, 1)) (hv : Int32.ofInt n = v) (k : yAt Γ M a ex kc ks (pc + 1) L (.int v :: st) cs) : yAt Γ M a ex kc ks pc L st cs :=
  fun ls H locs hl hw => lv_iconst o.1.1 o.1.2.1 hd hv (k ls H locs hl hw)
theorem y_bipush (o : yOk Γ M a ex R cc own) {n : Int} {v : Int32} (hd : decode cc pc = .ok (.bipush n, 2)) (hv : (Int8.ofInt n).toInt32 = v) (k : yAt Γ M a ex kc ks (pc + 2) L (.int v :: st) cs) : yAt Γ M a ex kc ks pc L st cs :=
  fun ls H locs hl hw => lv_bipush o.1.1 o.1.2.1 hd hv (k ls H locs hl hw)
theorem y_sipush (o : yOk Γ M a ex R cc own) {n : Int} {v : Int32} (hd : decode cc pc = .ok (.sipush n, 3)) (hv : (Int16.ofInt n).toInt32 = v) (k : yAt Γ M a ex kc ks (pc + 3) L (.int v :: st) cs) : yAt Γ M a ex kc ks pc L st cs :=
  fun ls H locs hl hw => lv_sipush o.1.1 o.1.2.1 hd hv (k ls H locs hl hw)
theorem y_lconst (o : yOk Γ M a ex R cc own) {n : Fin 2} {v : Int64} (hd : decode cc pc = .ok (.lconst n, 1)) (hv : Int64.ofNat (n : Nat) = v) (k : yAt Γ M a ex kc ks (pc + 1) L (.long v :: st) cs) : yAt Γ M a ex kc ks pc L st cs :=
  fun ls H locs hl hw => lv_lconst o.1.1 o.1.2.1 hd hv (k ls H locs hl hw)
theorem y_aload_n (o : yOk Γ M a ex R cc own) {q : Fin 4} {i : Nat} {x : Nat} (hd : decode cc pc = .ok (.aload_n q, 1)) (hi : (q : Nat) = i) (hx : L i = some (.ref x)) (k : yAt Γ M a ex kc ks (pc + 1) L (.ref x :: st) cs) : yAt Γ M a ex kc ks pc L st cs :=
  fun ls H locs hl hw => lv_aload_n o.1.1 o.1.2.1 hd hi (hl.2.2 _ _ hx) (k ls H locs hl hw)
theorem y_iload_n (o : yOk Γ M a ex R cc own) {q : Fin 4} {i : Nat} {x : Int32} (hd : decode cc pc = .ok (.iload_n q, 1)) (hi : (q : Nat) = i) (hx : L i = some (.int x)) (k : yAt Γ M a ex kc ks (pc + 1) L (.int x :: st) cs) : yAt Γ M a ex kc ks pc L st cs :=
  fun ls H locs hl hw => lv_iload_n o.1.1 o.1.2.1 hd hi (hl.2.2 _ _ hx) (k ls H locs hl hw)
theorem y_istore_n (o : yOk Γ M a ex R cc own) {q : Fin 4} {i : Nat} {x : Int32} (hd : decode cc pc = .ok (.istore_n q, 1)) (hi : (q : Nat) = i) (hn : i < Γ.2.2.2) (k : yAt Γ M a ex kc ks (pc + 1) (xup L i (.int x)) st cs) : yAt Γ M a ex kc ks pc L (.int x :: st) cs :=
  fun ls H locs hl hw => lv_istore_n o.1.1 o.1.2.1 hd hi (x_has hl) hn rfl (fun ls' h' => k ls' H locs (x_st1 hl h') hw)
theorem y_iinc (o : yOk Γ M a ex R cc own) {i : Nat} {n : Int} {x v : Int32} (hd : decode cc pc = .ok (.iinc i n, 3)) (hx : L i = some (.int x)) (hv : x + Int32.ofInt n = v) (hn : i < Γ.2.2.2) (k : yAt Γ M a ex kc ks (pc + 3) (xup L i (.int v)) st cs) : yAt Γ M a ex kc ks pc L st cs := by
  intro ls H locs hl hw
  obtain ⟨kk, hk⟩ := List.getElem?_of_mem (x_in hl hx)
  exact lv_iinc o.1.1 o.1.2.1 hd (x_has hl) hk hv hn rfl (fun ls' h' => k ls' H locs (x_st1 hl h') hw)
theorem y_dup (o : yOk Γ M a ex R cc own) {v : Value} (hd : decode cc pc = .ok (.dup, 1)) (hv : v.category = 1) (k : yAt Γ M a ex kc ks (pc + 1) L (v :: v :: st) cs) : yAt Γ M a ex kc ks pc L (v :: st) cs :=
  fun ls H locs hl hw => lv_dup o.1.1 o.1.2.1 hd hv (k ls H locs hl hw)
theorem y_goto (o : yOk Γ M a ex R cc own) {off : Int} {tgt : Nat} (hd : decode cc pc = .ok (.goto off, 3)) (ht : (pc : Int) + off = (tgt : Int)) (k : yAt Γ M a ex kc ks tgt L st cs) : yAt Γ M a ex kc ks pc L st cs :=
  fun ls H locs hl hw => lv_goto o.1.1 o.1.2.1 hd ht (k ls H locs hl hw)
theorem y_icmp_ge (o : yOk Γ M a ex R cc own) {x y : Int32} {off : Int} {tgt : Nat} (hd : decode cc pc = .ok (.if_icmp .ge off, 3)) (ht : (pc : Int) + off = (tgt : Int)) (kt : y ≤ x → yAt Γ M a ex kc ks tgt L st cs) (kf : ¬ y ≤ x → yAt Γ M a ex kc ks (pc + 3) L st cs) : yAt Γ M a ex kc ks pc L (.int y :: .int x :: st) cs :=
  fun ls H locs hl hw => lv_icmp_ge o.1.1 o.1.2.1 hd ht (fun h => kt h ls H locs hl hw) (fun h => kf h ls H locs hl hw)
theorem y_to {l : List (Nat × Value)} (h : xall L l) (k : yAt Γ M a ex kc ks pc (xlv l) st cs) : yAt Γ M a ex kc ks pc L st cs :=
  fun ls H locs hl hw => k ls H locs ⟨hl.1, hl.2.1, fun i v hi => hl.2.2 i v (xall_get h hi)⟩ hw
theorem y_cnt {kc' ks' : Nat} (h1 : kc = kc') (h2 : ks = ks') (k : yAt Γ M a ex kc' ks' pc L st cs) : yAt Γ M a ex kc ks pc L st cs := by subst h1; subst h2; exact k
theorem y_cs {cs' : List va_E} (h : cs = cs') (k : yAt Γ M a ex kc ks pc L st cs') : yAt Γ M a ex kc ks pc L st cs := h ▸ k
theorem y_objInit (o : yOk Γ M a ex R cc own) {idx x : Nat} (h1 : Cond.methodLink own idx Lib.objectInit ∈ xWS) (h2 : Cond.instanceMethod Lib.objectInit ∈ xWS) (h3 : Cond.code Lib.objectInit ⟨#[0xb1]⟩ 1 none ∈ xWS) (hR : 1 ≤ R.frames ∧ 8 + 12 ≤ R.locals) (hcat : (st.map fun v => v.category).sum ≤ 8) (hd : decode cc pc = .ok (.invokespecial idx, 3)) (k : yAt Γ M a ex kc ks (pc + 3) L st cs) : yAt Γ M a ex kc ks pc L (.ref x :: st) cs := by
  intro ls H locs hl hw
  refine W.objInit o.1.1 o.1.2.1 o.1.2.2.2.1 (o.1.2.2.2.2 _ h1) (o.1.2.2.2.2 _ h2) (o.1.2.2.2.2 _ h3) rfl (by rw [o.1.2.2.1]; exact hl.1) rfl hd ?_ ?_ ?_
  · rw [o.2.2.2.1]; exact hR.1
  · rw [o.2.2.2.1]
    show 2 * 0 + _ + 12 ≤ _
    omega
  · exact k ls H locs hl hw
theorem y_kept {D : va_G} {ws : va_W} {H H1 : Heap} (hP : va_P D vwCl ws H) (o1 : ∀ q, q < H.size → H1[q]? = H[q]?) : va_P D vwCl ws H1 := hP.kept (fun k x hx => o1 x.1 ((hP k x hx).lt))
theorem y_new {C : String} {Tt : u_T} {tt : Nat → FieldType} {c N idx : Nat} {fs : List Value} (o : yOk Γ M a ex R cc own) (hc : xCls c C Tt N tt) (h1 : Cond.classLink own idx C ∈ xWS) (h2 : Cond.instantiable C N ∈ xWS) (h3 : Cond.initialized C ∈ xWS) (hfs : ∀ j, j < N → defaultValue (tt j) = vp_V fs j) (hR : kc + 1 ≤ R.cells ∧ ks + N ≤ R.slots) (hd : decode cc pc = .ok (.new idx, 3)) (k : yAt Γ M a ex (kc + 1) (ks + N) (pc + 3) L (.ref (a + cs.length) :: st) (cs ++ [.inr (c, fs)])) : yAt Γ M a ex kc ks pc L st cs := by
  intro ls H locs hl hw
  obtain ⟨⟨hx, hb, hml, ho, hts⟩, hK, hex, hRR, ha, hao⟩ := o
  obtain ⟨c1, c2, c3, c4, c5, c6⟩ := hc
  obtain ⟨w1, w2, w3, w4⟩ := hw
  have hKn := hK.1 c _ c1
  refine W.newcK hx hb ho (hts _ h1) (hts _ h2) (hts _ h3) rfl hd (by rw [hRR]; exact hR.1) (by rw [hRR]; exact hR.2) hKn.2.1 w1 fun H1 kC hkC e1 z1 o1 => ?_
  have o2 : ∀ q, q < H.size → H1[q]? = H[q]? := fun q hq => o1 q (by rw [← w1]; exact hq)
  refine k ls H1 locs hl ⟨by rw [z1, List.length_append]; simp; omega, ?_, y_kept w3 o2, ⟨by rw [z1]; have := w4.1; omega, fun q h1 h2 => (o2 q (Nat.lt_of_lt_of_le h1 w4.1)).trans (w4.2.1 q h1 h2), w4.2.2⟩⟩
  rw [ywl_app]
  refine (y_kept w2 o2).app (fun k x hx => ?_)
  have hz : k < 1 := by have := (List.getElem?_eq_some_iff.mp hx).1; simpa [ywl] using this
  rw [show k = 0 by omega] at hx
  cases hx
  exact ⟨_, c1, (u_born tt hts c2 hKn hkC e1 c5).to hfs⟩
theorem y_newarr {atype : ArrayType} {ty : FieldType} {cA : ClassId} {t0 : Nat} {n : Int32} {N' : Nat} {a0 : vp_A} (o : yOk Γ M a ex R cc own) (hty : newarray.typeOf atype = ty) (h1 : Cond.arrayClass (newarray.typeOf atype) ∈ xWS) (ht : (xty M)[t0]? = some (cA, ty)) (hnm : va_RA Γ.1.2.2.2.2.1 cA ty → Γ.1.2.2.2.2.1.vm.findClass ("[" ++ ty.toString) = some cA) (hv : ∀ cA : ClassId, vp_cell cA a0 = arrV cA N' (fun _ => defaultValue ty)) (hn : ¬ n < 0) (hN : n.toNatClampNeg = N') (hbytes : N' * componentBytes ty ≤ 536870912) (hR : kc + 1 ≤ R.cells ∧ ks + N' ≤ R.slots) (hd : decode cc pc = .ok (.newarray atype, 2)) (k : yAt Γ M a ex (kc + 1) (ks + N') (pc + 2) L (.ref (a + cs.length) :: st) (cs ++ [.inl (cA, a0)])) : yAt Γ M a ex kc ks pc L (.int n :: st) cs := by
  intro ls H locs hl hw
  subst hty
  obtain ⟨⟨hx, hb, hml, ho, hts⟩, hK, hex, hRR, ha, hao⟩ := o
  obtain ⟨w1, w2, w3, w4⟩ := hw
  refine va_newaK hx hb (hts _ h1) rfl hd rfl hn hN hbytes (by rw [hRR]; exact hR.1) (by rw [hRR]; exact hR.2) w1 fun H1 cB e1 z1 o1 hAr hNm => ?_
  have hcB : cB = cA := Option.some.inj (hNm.symm.trans (hnm (hK.2 t0 _ ht).2))
  subst hcB
  have o2 : ∀ q, q < H.size → H1[q]? = H[q]? := fun q hq => o1 q (by rw [← w1]; exact hq)
  refine k ls H1 locs hl ⟨by rw [z1, List.length_append]; simp; omega, ?_, y_kept w3 o2, ⟨by rw [z1]; have := w4.1; omega, fun q h1 h2 => (o2 q (Nat.lt_of_lt_of_le h1 w4.1)).trans (w4.2.1 q h1 h2), w4.2.2⟩⟩
  rw [ywl_app]
  refine (y_kept w2 o2).app (fun k x hx => ?_)
  have hz : k < 1 := by have := (List.getElem?_eq_some_iff.mp hx).1; simpa [ywl] using this
  rw [show k = 0 by omega] at hx
  cases hx
  show H1[a + cs.length + 0]? = some (vp_cell _ _)
  rw [hv]
  exact e1
theorem y_putN {c N j p idx : Nat} {C : String} {Tt : u_T} {tt : Nat → FieldType} {v : Value} {fs : List Value} (o : yOk Γ M a ex R cc own) (hc : xCls c C Tt N tt) (hj : j < N) (hl : Cond.fieldLink own idx (Tt j).1 (Tt j).2.1 (Tt j).2.2.1 ∈ xWS) (hfin : (Tt j).2.2.2 = false) (hp : cs[p]? = some (.inr (c, fs))) (hfl : j < fs.length) (hn : narrow (tt j) v = v) (hfit : fits (tt j) v = true) (hd : decode cc pc = .ok (.putfield idx, 3)) (k : yAt Γ M a ex kc ks (pc + 3) L st (cs.set p (.inr (c, fs.set j v)))) : yAt Γ M a ex kc ks pc L (v :: .ref (a + p) :: st) cs := by
  intro ls H locs hl' hw
  obtain ⟨⟨hx, hb, hml, ho, hts⟩, hK, hex, hRR, ha, hao⟩ := o
  obtain ⟨c1, c2, c3, c4, c5, c6⟩ := hc
  obtain ⟨w1, w2, w3, w4⟩ := hw
  have he : (ywl a cs)[p]? = some (a + p, .inr (c, fs)) := by rw [ywl_get, hp]; rfl
  have hap := va_apart (own := own) hts c2 tt c5 c6 hK c1
  obtain ⟨r, h1, cell, q1, q2, q3, q4⟩ := w2 p _ he
  have hr : r = (C, Tt, N) := Option.some.inj (h1.symm.trans c1)
  subst hr
  obtain ⟨hS, hfc, kC, hkC, hkind⟩ := hK.1 c _ c1
  obtain ⟨cf, kf, fi, f, hi, hsl⟩ := hS j hj
  have hlay := hts _ (c2 _ (u_in_lay hj))
  unfold u_lay at hlay
  rw [if_neg (by rw [hfin]; decide)] at hlay
  have hst := (u_facts hfc hkC (u_lays hts c2 hj) hi).1
  have h6 := u_store hfc hkC hkind hlay hi (c5 j hj) hn hfit
  refine W.putK hx hb (f := f) ⟨ho, hts _ hl, ⟨_, _, _, hi⟩, hst⟩ (by rw [q2]; exact h6) q1 q3 (by rw [hsl]; exact k2_hasslot (q4 j hj)) rfl rfl hd fun H' e1 e2 e3 => ?_
  rw [hsl] at e1 ⊢
  have hP1 : va_P M.1 vwCl ((ywl a cs).set p (a + p, .inr (c, fs.set j v))) H' := w2.set (ywl_D a cs) he ⟨_, c1, t_OB.to (V := updV (vp_V fs) j v) ⟨_, e1, q2, q3, t_set q4 hap hj v⟩ (fun i _ => vp_updV_set hfl v i)⟩ e3
  rw [ywl_set] at hP1
  refine k ls H' _ hl' ⟨by rw [e2, w1]; simp, hP1, w3.kept (fun i x hx => e3 x.1 (fun z => ?_)), w4.put e2 e3 (Nat.le_add_right a p)⟩
  have := hex x (List.mem_of_getElem? hx)
  have : x.1 = a + p := z
  omega
theorem y_putF {c N j p idx : Nat} {C : String} {Tt : u_T} {tt : Nat → FieldType} {v : Value} {fs : List Value} (o : yOk Γ M a ex R cc own) (hin2 : Γ.1.2.2.2.2.2.2.2.2.1.name = "<init>") (hc : xCls c C Tt N tt) (hj : j < N) (hl : Cond.fieldLink own idx (Tt j).1 (Tt j).2.1 (Tt j).2.2.1 ∈ xWS) (hfin : (Tt j).2.2.2 = true) (hdecl : (Tt j).1 = own) (hp : cs[p]? = some (.inr (c, fs))) (hfl : j < fs.length) (hn : narrow (tt j) v = v) (hfit : fits (tt j) v = true) (hd : decode cc pc = .ok (.putfield idx, 3)) (k : yAt Γ M a ex kc ks (pc + 3) L st (cs.set p (.inr (c, fs.set j v)))) : yAt Γ M a ex kc ks pc L (v :: .ref (a + p) :: st) cs := by
  intro ls H locs hl' hw
  obtain ⟨⟨hx, hb, hml, ho, hts⟩, hK, hex, hRR, ha, hao⟩ := o
  obtain ⟨c1, c2, c3, c4, c5, c6⟩ := hc
  obtain ⟨w1, w2, w3, w4⟩ := hw
  have he : (ywl a cs)[p]? = some (a + p, .inr (c, fs)) := by rw [ywl_get, hp]; rfl
  have hap := va_apart (own := own) hts c2 tt c5 c6 hK c1
  obtain ⟨r, h1, cell, q1, q2, q3, q4⟩ := w2 p _ he
  have hr : r = (C, Tt, N) := Option.some.inj (h1.symm.trans c1)
  subst hr
  obtain ⟨hS, hfc, kC, hkC, hkind⟩ := hK.1 c _ c1
  obtain ⟨cf, kf, fi, f, hi, hsl⟩ := hS j hj
  have hlay := hts _ (c2 _ (u_in_lay hj))
  unfold u_lay at hlay
  rw [if_pos hfin] at hlay
  have hst := (u_facts hfc hkC (u_lays hts c2 hj) hi).1
  have hcf : Γ.1.2.2.2.2.2.1.cls = cf := by
    obtain ⟨_, _, c', _, _, _, -, -, hf', -, -, -, hown2, -⟩ := Cond.laysFinal_spec hlay
    have e1 : c' = cf := by have := hi.symm.trans hf'; simp at this; exact this.1.symm
    rw [hdecl] at hown2
    rw [← e1]; exact Option.some.inj (ho.symm.trans hown2)
  have h6 := u_fits hfc hkC hkind (Or.inr hlay) hi (c5 j hj) hn hfit
  refine W.putFinK hx hb ho (hts _ hl) hi hst hcf hin2 (by rw [q2]; exact h6) q1 q3 (by rw [hsl]; exact k2_hasslot (q4 j hj)) rfl rfl hd fun H' e1 e2 e3 => ?_
  rw [hsl] at e1 ⊢
  have hP1 : va_P M.1 vwCl ((ywl a cs).set p (a + p, .inr (c, fs.set j v))) H' := w2.set (ywl_D a cs) he ⟨_, c1, t_OB.to (V := updV (vp_V fs) j v) ⟨_, e1, q2, q3, t_set q4 hap hj v⟩ (fun i _ => vp_updV_set hfl v i)⟩ e3
  rw [ywl_set] at hP1
  refine k ls H' _ hl' ⟨by rw [e2, w1]; simp, hP1, w3.kept (fun i x hx => e3 x.1 (fun z => ?_)), w4.put e2 e3 (Nat.le_add_right a p)⟩
  have := hex x (List.mem_of_getElem? hx)
  have : x.1 = a + p := z
  omega
theorem y_get {c N j p idx : Nat} {C : String} {Tt : u_T} {tt : Nat → FieldType} {v : Value} {fs : List Value} (o : yOk Γ M a ex R cc own) (hc : xCls c C Tt N tt) (hj : j < N) (hl : Cond.fieldLink own idx (Tt j).1 (Tt j).2.1 (Tt j).2.2.1 ∈ xWS) (hp : cs[p]? = some (.inr (c, fs))) (hv : fs[j]? = some v) (hd : decode cc pc = .ok (.getfield idx, 3)) (k : yAt Γ M a ex kc ks (pc + 3) L (v :: st) cs) : yAt Γ M a ex kc ks pc L (.ref (a + p) :: st) cs := by
  intro ls H locs hl' hw
  obtain ⟨⟨hx, hb, hml, ho, hts⟩, hK, hex, hRR, ha, hao⟩ := o
  obtain ⟨c1, c2, c3, c4, c5, c6⟩ := hc
  have he : (ywl a cs)[p]? = some (a + p, .inr (c, fs)) := by rw [ywl_get, hp]; rfl
  exact va_get (D := M.1) hx hb hts c2 ho hK hw.2.1 p he c1 j hj (hts _ hl) (fun _ h => h) (v := v) hv hd (k ls H locs hl' hw)
theorem y_getX {c N j p idx x : Nat} {C : String} {Tt : u_T} {tt : Nat → FieldType} {v : Value} {fs : List Value} (o : yOk Γ M a ex R cc own) (hc : xCls c C Tt N tt) (hj : j < N) (hl : Cond.fieldLink own idx (Tt j).1 (Tt j).2.1 (Tt j).2.2.1 ∈ xWS) (hp : ex[p]? = some (x, .inr (c, fs))) (hv : fs[j]? = some v) (hd : decode cc pc = .ok (.getfield idx, 3)) (k : yAt Γ M a ex kc ks (pc + 3) L (v :: st) cs) : yAt Γ M a ex kc ks pc L (.ref x :: st) cs := by
  intro ls H locs hl' hw
  obtain ⟨⟨hx, hb, hml, ho, hts⟩, hK, hex, hRR, ha, hao⟩ := o
  obtain ⟨c1, c2, c3, c4, c5, c6⟩ := hc
  exact va_get (D := M.1) hx hb hts c2 ho hK hw.2.2.1 p hp c1 j hj (hts _ hl) (fun _ h => h) (v := v) hv hd (k ls H locs hl' hw)
theorem y_vreturn {cs' : List va_E} (o : yOk Γ M a ex R cc own) (hlk : Γ.1.2.2.2.2.2.2.2.2.1.locks = false) (hQ : Γ.2.1 = MQ Γ.1.2.2.2.2.2.2.2.1 (va_Qv (fun (_ : Unit) => True) (fun _ t => yB M a ex cs' t) (fun q => a ≤ q)) Γ.1.2.2.2.2.2.2.1 Γ.1.2.2.2.2.1 kc ks (fun q => a ≤ q)) (hr : Γ.1.2.2.2.2.2.2.2.2.1.sig.returnType = none) (hd : decode cc pc = .ok (.return_, 1)) (hcs : cs = cs') : yAt Γ M a ex kc ks pc L [] cs := by
  subst hcs
  intro ls H locs hl hw
  have h := W.vret (p := Γ.1.1) (l := Γ.1.2.1) (e := Γ.1.2.2.1) (R := Γ.1.2.2.2.1) (s := Γ.1.2.2.2.2.1) (m := Γ.1.2.2.2.2.2.1) (args := Γ.1.2.2.2.2.2.2.1) (below := Γ.1.2.2.2.2.2.2.2.1) (meth := Γ.1.2.2.2.2.2.2.2.2.1) (c := Γ.1.2.2.2.2.2.2.2.2.2) (H := H) (locs := locs) (cells := kc) (slots := ks) (ls := ls) (Qc := va_Qv (fun (_ : Unit) => True) (fun _ t => yB M a ex cs t) (fun q => a ≤ q)) (free := fun q => a ≤ q) o.1.1 o.1.2.1 hr
    (fun t ht hW => ⟨⟨(), rfl, trivial, by rw [ht]; exact hw.1, by rw [ht]; exact hw.2.1, by rw [ht]; exact hw.2.2.1, va_K.moved hW.alike o.2.1, va_AO.moved hW.alike o.2.2.2.2.2⟩, hw.2.2.2.F ht⟩) hw.2.2.2.2.2 hd hlk
  rw [← hQ] at h
  exact h
/-- a constructor's contract out of its walk -/
theorem y_met {l : Launch} {y : MethodName} {mL d mc ms : Nat} {av : List Value} {cs' : List va_E} {x : va_E} (hy : plainFor y = true) (hnm : y.name = "<init>") (hav : (lg_sl av).length ≤ mL) (hex : ∀ q ∈ ex, q.1 < a)
    (body : ∀ (Γ : xGm), Γ.2.2.2 = mL → Γ.1.2.1 = l → Γ.1.2.2.2.2.2.2.2.2.1.locks = false → Γ.1.2.2.2.2.2.2.2.2.1.name = "<init>" → Γ.2.1 = MQ Γ.1.2.2.2.2.2.2.2.1 (va_Qv (fun (_ : Unit) => True) (fun _ t => yB M a ex cs' t) (fun q => a ≤ q)) Γ.1.2.2.2.2.2.2.1 Γ.1.2.2.2.2.1 mc ms (fun q => a ≤ q) → Γ.1.2.2.2.2.2.2.2.2.1.sig.returnType = none → yOk Γ M a ex (xrm2 d mc ms) cc y.cls → yAt Γ M a ex 0 0 0 (xarg av) [] [x]) :
    yMet l y cc mL d mc ms M a ex av [x] cs' := by
  refine va_MetF (cc := cc) (maxL := mL) (ret := none) hy rfl ?_
  intro p e s m args below meth c s₁ B hml hv
  obtain ⟨rfl, hz, hP, hX, hK, hAO⟩ := hv
  have hts := atoms_spec (ws := Cond.code y cc mL none :: xWS) B.pre
  have hown : s.vm.findClass y.cls = some m.cls := findClass_of_methodNamed B.named
  have hin : meth.name = "<init>" := ((name_of_methodNamed B.named B.method).1).trans hnm
  rw [lg_entry_eq]
  have hl := lv_entry av (n := mL) hav
  have h := body ((p, l, e, (headSpec (Cond.code y cc mL none :: xWS) (xrm2 d mc ms)).room, s, m, av.toArray, below, meth, c), MQ below (va_Qv (fun (_ : Unit) => True) (fun _ t => yB M a ex cs' t) (fun q => a ≤ q)) av.toArray s mc ms (fun q => a ≤ q), (fun q => a ≤ q), mL) rfl rfl B.notSynchronized hin rfl B.returns ⟨⟨B.exec, B.bytes, hml, hown, fun w hw => hts w (List.mem_cons_of_mem _ hw)⟩, hK, hex, rfl, (by show a ≤ s.heap.size; rw [hz]; exact Nat.le_add_right _ _), hAO⟩
  exact h _ _ _ ⟨hl.1, hl.2.1, fun i v hi => hl.2.2 (i, v) (x_lookup hi)⟩ ⟨hz, hP, hX, va_S.rf⟩
def xCaI (y : MethodName) (cc : ByteArray) (mL n : Nat) : Prop := Cond.code y cc mL none ∈ xWS ∧ Cond.instanceMethod y ∈ xWS ∧ Cond.initialized y.cls ∈ xWS ∧ y.name = "<init>" ∧ y.cls ≠ "java/lang/invoke/MethodHandle" ∧ y.cls ≠ "java/lang/invoke/VarHandle" ∧ (parseMethodDescriptor y.desc).map (fun d => d.parameters.length) = some n ∧ mL ≤ 45
/-- a constructor is called on the cell that was made last -/
theorem y_call {y : MethodName} {cc' : ByteArray} {mL d' mc ms n idx : Nat} {As rest : List Value} {pre cs' : List va_E} {x : va_E} {ex' : va_W} (o : yOk Γ M a ex R cc own) (hM : yMet Γ.1.2.1 y cc' mL d' mc ms M (a + pre.length) ex' (.ref (a + pre.length) :: As) [x] cs') (hy : xCaI y cc' mL n) (hlk : Cond.methodLink own idx y ∈ xWS) (hR : d' + 1 ≤ R.frames ∧ 8 + (mL + 11) + 64 * d' ≤ R.locals ∧ kc + mc ≤ R.cells ∧ ks + ms ≤ R.slots) (hcs : cs = pre ++ [x]) (hex : ∀ q ∈ ex', q ∈ ex ∨ q ∈ ywl a pre) (hn : As.length = n) (hst : st = As.reverse ++ .ref (a + pre.length) :: rest) (hcat : (rest.map fun v => v.category).sum ≤ 8) (hd : decode cc pc = .ok (.invokespecial idx, 3)) (k : yAt Γ M a ex (kc + mc) (ks + ms) (pc + 3) L rest (pre ++ cs')) : yAt Γ M a ex kc ks pc L st cs := by
  subst hcs
  intro ls H locs hl' hw
  obtain ⟨w1, w2, w3, w4⟩ := hw
  obtain ⟨y1, y2, y3, y4, y5, y6, y7, y8⟩ := hy
  have hts := o.1.2.2.2.2
  rw [ywl_app] at w2
  have wp : va_P M.1 vwCl (ywl a pre) H := fun i q hi => w2 i q (by rw [List.getElem?_append_left (List.getElem?_eq_some_iff.mp hi).1]; exact hi)
  have wx : va_P M.1 vwCl (ywl (a + pre.length) [x]) H := fun i q hi => w2 ((ywl a pre).length + i) q (by rw [List.getElem?_append_right (by omega)]; simpa using hi)
  have wm : ∀ q ∈ ex', ∃ i, (ex ++ ywl a pre)[i]? = some q := fun q hq => by
    have : q ∈ ex ++ ywl a pre := List.mem_append.mpr (hex q hq)
    exact List.getElem?_of_mem this
  have wex : va_P M.1 vwCl (ex ++ ywl a pre) H := w3.app wp
  have wx' : va_P M.1 vwCl ex' H := fun i q hi => by
    obtain ⟨i2, h2⟩ := wm q (List.mem_of_getElem? hi)
    exact wex i2 q h2
  have hsz : H.size = a + pre.length + [x].length := by rw [w1]; simp; omega
  have hG : GoodIn xWS (Cond.code y cc' mL none :: xWS) := fun w hw => by
    have hm : w ∈ xWS := by
      rcases List.mem_cons.mp hw with rfl | h
      · exact y1
      · exact h
    exact ⟨hm, xWS_good hm⟩
  have hRR := o.2.2.2.1
  refine va_callv (va_runI (As := As) (rest := rest) (b := a + pre.length) o.1 hM (cwI n hts hG rfl rfl rfl (hts _ y3) (hts _ hlk) (hts _ y2) y4 ⟨y5, y6, y7⟩ ⟨by rw [hRR]; exact hR.1, by rw [hRR]; exact hR.2.1⟩) ⟨?_, fun U hU hW => ⟨rfl, by rw [hU]; exact hsz, by rw [hU]; exact wx, by rw [hU]; exact wx', va_K.moved hW.alike o.2.1, va_AO.moved hW.alike o.2.2.2.2.2⟩⟩ rfl hn hl'.1 hst (lv_room hcat) hd ⟨by rw [hRR]; exact hR.2.2.1, by rw [hRR]; exact hR.2.2.2⟩) w4 (fun q _ h => Nat.le_trans (Nat.le_add_right _ _) h) (fun q h => Nat.le_trans (Nat.le_add_right _ _) h) (fun u t H1 locs1 ht hvm hw1 hB hz1 hk1 hS1 => ?_)
  · intro a' U g mk q
    obtain ⟨q0, q1, q2, q3, q4, q5⟩ := q
    exact ⟨q0, q1, q2, q3, va_K.moved (u := U) (U := U.calling g mk a') (Vm.Alike.refl U.vm) q4, va_AO.moved (u := U) (U := U.calling g mk a') (Vm.Alike.refl U.vm) q5⟩
  · obtain ⟨b1, b2, b3, b4⟩ := hB
    rw [ht] at b1 b2
    have hlow : ∀ q, q < a + pre.length → H1[q]? = H[q]? := fun q hq => hk1 q (by rw [w1]; simp; omega) (by omega)
    refine k ls H1 locs1 hl' ⟨by rw [b1]; simp; omega, ?_, w3.kept (fun i q hq => hlow q.1 ?_), hS1⟩
    · rw [ywl_app]
      refine va_P.app (wp.kept (fun i q hq => hlow q.1 ?_)) b2
      rw [ywl_get] at hq
      cases hc : pre[i]? with
      | none => rw [hc] at hq; cases hq
      | some e =>
        rw [hc] at hq
        cases hq
        have := (List.getElem?_eq_some_iff.mp hc).1
        show a + i < a + pre.length
        omega
    · have := o.2.2.1 q (List.mem_of_getElem? hq)
      omega
end YR
