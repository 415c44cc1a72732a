def xnf : Nat → Nat := fun c => match c with
  | 0 => 12
  | 1 => 7
  | 2 => 4
  | 3 => 4
  | 4 => 5
  | 5 => 3
  | 6 => 11
  | 7 => 11
  | 8 => 9
  | 9 => 19
  | 10 => 3
  | 11 => 16
  | 12 => 87
  | _ => 0
/-- what a field is: 0 an int or boolean, 1 a long, 2 a reference that is final, 3 a reference that moves -/
def xfk : Nat → Nat → Nat := fun c j => match c with
  | 0 => [2, 2, 2, 3, 2, 2, 0, 0, 0, 0, 0, 0].getD j 0
  | 1 => [2, 2, 0, 0, 0, 0, 0].getD j 0
  | 2 => [2, 2, 2, 2].getD j 0
  | 3 => [2, 2, 0, 0].getD j 0
  | 4 => [2, 0, 2, 0, 0].getD j 0
  | 5 => [2, 3, 0].getD j 0
  | 6 => [2, 2, 2, 2, 3, 3, 0, 0, 0, 0, 0].getD j 0
  | 7 => [2, 2, 0, 0, 0, 0, 0, 0, 0, 0, 0].getD j 0
  | 8 => [0, 0, 0, 0, 0, 2, 2, 2, 2].getD j 0
  | 9 => [2, 2, 2, 2, 2, 2, 2, 2, 2, 2, 2, 2, 2, 2, 0, 0, 0, 0, 0].getD j 0
  | 10 => [2, 2, 3].getD j 0
  | 11 => [2, 0, 3, 3, 2, 2, 2, 2, 2, 2, 2, 2, 2, 0, 2, 0].getD j 0
  | 12 => [2, 0, 0, 0, 0, 0, 0, 1, 0, 0, 0, 0, 0, 0, 2, 2, 2, 2, 2, 2, 2, 2, 2, 2, 2, 2, 2, 2, 2, 2, 2, 2, 2, 2, 2, 2, 2, 2, 2, 0, 0, 0, 2, 2, 2, 2, 2, 0, 0, 2, 0, 0, 0, 2, 2, 2, 2, 2, 2, 2, 2, 2, 2, 2, 0, 0, 1, 2, 2, 0, 0, 0, 2, 0, 0, 0, 2, 2, 2, 2, 2, 2, 2, 0, 2, 2, 0].getD j 0
  | _ => 0

/-! ===== my layer: the world by tables, a frame with symbolic locals, a row an instruction ===== -/
abbrev xSt : Type := (Nat → Nat → Int32) × (Nat → Nat → Int64) × (Nat → Nat → Nat)
abbrev xTb : Type := (Nat → Nat) × (Nat → Nat) × (Nat → Nat → Nat) × List Nat
abbrev xMg : Type := va_G × (Nat → Nat) × ClassId × ClassId × ClassId × ClassId
def xWS : List Cond := lw_tbl.filter goodWord
theorem xWS_in {w : Cond} (h : w ∈ lw_tbl) (g : goodWord w = true) : w ∈ xWS := List.mem_filter.mpr ⟨h, g⟩
theorem xWS_tbl {w : Cond} (h : w ∈ xWS) : w ∈ lw_tbl := (List.mem_filter.mp h).1
theorem xWS_good {w : Cond} (h : w ∈ xWS) : (w.onTables && w.keeps) = true ∨ ∃ ty, w = .arrayClass ty := good_of_word (List.mem_filter.mp h).2
def xuI (S : xSt) (k j : Nat) (v : Int32) : xSt := (fun k' j' => if k' = k then (if j' = j then v else S.1 k' j') else S.1 k' j', S.2)
def xuL (S : xSt) (k j : Nat) (v : Int64) : xSt := (S.1, fun k' j' => if k' = k then (if j' = j then v else S.2.1 k' j') else S.2.1 k' j', S.2.2)
def xuR (S : xSt) (k j : Nat) (v : Nat) : xSt := (S.1, S.2.1, fun k' j' => if k' = k then (if j' = j then v else S.2.2 k' j') else S.2.2 k' j')
def xfv (T : xTb) (M : xMg) (S : xSt) (k j : Nat) : Value := match xfk (T.1 k) j with
  | 1 => .long (S.2.1 k j)
  | 2 => .ref (M.2.1 (T.2.2.1 k j))
  | 3 => .ref (M.2.1 (S.2.2 k j))
  | _ => .int (S.1 k j)
def xct (T : xTb) (M : xMg) (S : xSt) (k : Nat) : va_E :=
  if T.1 k = 13 then .inl (M.2.2.1, T.2.1 k, .inl (S.1 k))
  else if T.1 k = 14 then .inl (M.2.2.2.1, T.2.1 k, .inr (.inl (S.2.1 k)))
  else if T.1 k = 15 then .inl (M.2.2.2.2.1, T.2.1 k, .inl (S.1 k))
  else if T.1 k = 16 then .inl (M.2.2.2.2.2, T.2.1 k, .inr (.inr (.inr (.inr (fun i => some (M.2.1 (T.2.2.1 k i)))))))
  else .inr (T.1 k, (List.range (xnf (T.1 k))).map (xfv T M S k))
def xwl (T : xTb) (M : xMg) (S : xSt) : va_W := T.2.2.2.map (fun k => (M.2.1 k, xct T M S k))
def xTok (T : xTb) : Prop := (∀ i j k : Nat, T.2.2.2[i]? = some k → T.2.2.2[j]? = some k → i = j) ∧ ∀ k, T.1 k ≤ 16 → k ∈ T.2.2.2
def xty (M : xMg) : List (ClassId × FieldType) := [(M.2.2.1, .int), (M.2.2.2.1, .long), (M.2.2.2.2.1, .boolean), (M.2.2.2.2.2, .object RX8)]
theorem x_at {T : xTb} (hT : xTok T) (M : xMg) (S : xSt) {k : Nat} (hk : T.1 k ≤ 16) : ∃ p : Nat, (xwl T M S)[p]? = some (M.2.1 k, xct T M S k) ∧ T.2.2.2[p]? = some k := by
  obtain ⟨p, hp⟩ := List.getElem?_of_mem (hT.2 k hk)
  exact ⟨p, by simp [xwl, hp], hp⟩
theorem x_set {T : xTb} (hT : xTok T) (M : xMg) (S S' : xSt) {k p : Nat} (hp : T.2.2.2[p]? = some k) (h : ∀ k', k' ≠ k → xct T M S' k' = xct T M S k') : (xwl T M S).set p (M.2.1 k, xct T M S' k) = xwl T M S' := by
  apply List.ext_getElem?
  intro i
  by_cases hi : i = p
  · subst hi
    have hl : i < (xwl T M S).length := by
      have := (List.getElem?_eq_some_iff.mp hp).1
      simpa [xwl] using this
    rw [List.getElem?_set_self hl]
    simp [xwl, hp]
  · rw [List.getElem?_set_ne (Ne.symm hi)]
    simp only [xwl, List.getElem?_map]
    cases hq : T.2.2.2[i]? with
    | none => rfl
    | some k' =>
      have hne : k' ≠ k := by
        intro he
        subst he
        exact hi (hT.1 i p _ hq hp)
      simp [h k' hne]
abbrev xCx : Type := Program × Launch × Env × Room × State × MethodId × Array Value × List Frame × Method × Code
abbrev xGm : Type := xCx × (State → Prop) × (Nat → Prop) × Nat
def xrm (d : Nat) : Room := { frames := d, cells := 0, slots := 0, locals := 64 * d }
def xW (T : xTb) (M : xMg) (A : Nat → Prop) (H0 : Heap) (S : xSt) (H : Heap) (locs : List Loc) : Prop := va_P M.1 vwCl (xwl T M S) H ∧ va_D A (xwl T M S) ∧ va_S A H0 H locs
def xl (ls : Array Slot) (nL : Nat) (L : Nat → Option Value) : Prop := ls.size = nL ∧ lv_wf ls ∧ ∀ (i : Nat) (v : Value), L i = some v → ls[i]? = some (.val v)
def xAt (Γ : xGm) (T : xTb) (M : xMg) (pc : Nat) (L : Nat → Option Value) (st : List Value) (S : xSt) : Prop :=
  ∀ (ls : Array Slot) (H : Heap) (locs : List Loc), xl ls Γ.2.2.2 L → xW T M Γ.2.2.1 Γ.1.2.2.2.2.1.heap S H locs →
    W Γ.1.1 Γ.1.2.1 Γ.1.2.2.1 Γ.1.2.2.2.1 Γ.1.2.2.2.2.1 Γ.1.2.2.2.2.2.1 Γ.1.2.2.2.2.2.2.1 Γ.1.2.2.2.2.2.2.2.1 Γ.1.2.2.2.2.2.2.2.2.1 Γ.1.2.2.2.2.2.2.2.2.2 H locs 0 0 Γ.2.1 (F0 Γ.1.2.2.2.2.2.1 pc ls st)
def xOk (Γ : xGm) (T : xTb) (M : xMg) (d : Nat) (cc : ByteArray) (own : String) : Prop :=
  CallFix Γ.1.1 Γ.1.2.2.2.2.2.1 Γ.1.2.2.2.2.2.2.2.2.2 cc Γ.2.2.2 Γ.1.2.2.2.2.1 Γ.1.2.2.2.2.2.2.1 xWS own ∧ va_K M.1 vwCl (xty M) Γ.1.2.2.2.2.1 ∧ xTok T ∧ Γ.1.2.2.2.1 = xrm d ∧ Γ.1.2.2.2.2.2.2.2.2.1.locks = false
def xk1 : Option Value → Option Value
  | some (.long _) => none
  | some (.double _) => none
  | o => o
def xup (L : Nat → Option Value) (i : Nat) (v : Value) : Nat → Option Value := fun j => cond (Nat.beq j i) (some v) (cond (Nat.beq (j + 1) i) (xk1 (L j)) (L j))
def xup2 (L : Nat → Option Value) (i : Nat) (v : Value) : Nat → Option Value := fun j => cond (Nat.beq j i) (some v) (cond (Nat.beq j (i + 1)) none (cond (Nat.beq (j + 1) i) (xk1 (L j)) (L j)))
def xlist (nL : Nat) (L : Nat → Option Value) : List (Nat × Value) := (List.range nL).filterMap (fun i => (L i).map (fun v => (i, v)))
theorem x_has {ls : Array Slot} {nL : Nat} {L : Nat → Option Value} (h : xl ls nL L) : lv_has ls nL (xlist nL L) := by
  refine ⟨h.1, h.2.1, fun q hq => ?_⟩
  obtain ⟨i, -, hi⟩ := List.mem_filterMap.mp hq
  cases hL : L i with
  | none => rw [hL] at hi; cases hi
  | some v =>
    rw [hL] at hi
    cases hi
    exact h.2.2 i v hL
theorem x_in {ls : Array Slot} {nL : Nat} {L : Nat → Option Value} (h : xl ls nL L) {i : Nat} {v : Value} (hi : L i = some v) : (i, v) ∈ xlist nL L := by
  have h1 := h.2.2 i v hi
  have h2 : i < nL := by rw [← h.1]; exact lv_lt h1
  exact List.mem_filterMap.mpr ⟨i, List.mem_range.mpr h2, by rw [hi]; rfl⟩
theorem x_st1 {ls ls' : Array Slot} {nL i : Nat} {v : Value} {L : Nat → Option Value} (h : xl ls nL L) (h' : lv_has ls' nL ((i, v) :: (xlist nL L).filter (fun q => !(q.1 == i) && !(q.1 + 1 == i && q.2.category == 2)))) : xl ls' nL (xup L i v) := by
  refine ⟨h'.1, h'.2.1, fun j w hj => ?_⟩
  unfold xup at hj
  by_cases h1 : j = i
  · subst h1
    rw [Nat.beq_refl] at hj
    cases hj
    exact h'.2.2 (j, v) List.mem_cons_self
  · have b1 : Nat.beq j i = false := by
      cases hb : Nat.beq j i with
      | false => rfl
      | true => exact absurd (Nat.eq_of_beq_eq_true hb) h1
    rw [b1] at hj
    by_cases h2 : j + 1 = i
    · have b2 : Nat.beq (j + 1) i = true := by subst h2; exact Nat.beq_refl _
      rw [b2] at hj
      have h3 : L j = some w ∧ w.category = 1 := by
        cases hL : L j with
        | none => rw [hL] at hj; cases hj
        | some u =>
          rw [hL] at hj
          cases u <;> first | (cases hj; done) | (cases hj; exact ⟨rfl, rfl⟩)
      refine h'.2.2 (j, w) (List.mem_cons_of_mem _ (List.mem_filter.mpr ⟨x_in h h3.1, ?_⟩))
      simp [h1, h3.2]
    · have b2 : Nat.beq (j + 1) i = false := by
        cases hb : Nat.beq (j + 1) i with
        | false => rfl
        | true => exact absurd (Nat.eq_of_beq_eq_true hb) h2
      rw [b2] at hj
      refine h'.2.2 (j, w) (List.mem_cons_of_mem _ (List.mem_filter.mpr ⟨x_in h hj, ?_⟩))
      simp [h1, h2]
theorem x_st2 {ls ls' : Array Slot} {nL i : Nat} {v : Value} {L : Nat → Option Value} (h : xl ls nL L) (h' : lv_has ls' nL ((i, v) :: (xlist nL L).filter (fun q => !(q.1 == i) && (!(q.1 == i + 1) && !(q.1 + 1 == i && q.2.category == 2))))) : xl ls' nL (xup2 L i v) := by
  refine ⟨h'.1, h'.2.1, fun j w hj => ?_⟩
  unfold xup2 at hj
  by_cases h1 : j = i
  · subst h1
    rw [Nat.beq_refl] at hj
    cases hj
    exact h'.2.2 (j, v) List.mem_cons_self
  · have b1 : Nat.beq j i = false := by
      cases hb : Nat.beq j i with
      | false => rfl
      | true => exact absurd (Nat.eq_of_beq_eq_true hb) h1
    rw [b1] at hj
    by_cases h4 : j = i + 1
    · have b4 : Nat.beq j (i + 1) = true := by subst h4; exact Nat.beq_refl _
      rw [b4] at hj
      cases hj
    · have b4 : Nat.beq j (i + 1) = false := by
        cases hb : Nat.beq j (i + 1) with
        | false => rfl
        | true => exact absurd (Nat.eq_of_beq_eq_true hb) h4
      rw [b4] at hj
      by_cases h2 : j + 1 = i
      · have b2 : Nat.beq (j + 1) i = true := by subst h2; exact Nat.beq_refl _
        rw [b2] at hj
        have h3 : L j = some w ∧ w.category = 1 := by
          cases hL : L j with
          | none => rw [hL] at hj; cases hj
          | some u =>
            rw [hL] at hj
            cases u <;> first | (cases hj; done) | (cases hj; exact ⟨rfl, rfl⟩)
        refine h'.2.2 (j, w) (List.mem_cons_of_mem _ (List.mem_filter.mpr ⟨x_in h h3.1, ?_⟩))
        simp [h1, h4, h3.2]
      · have b2 : Nat.beq (j + 1) i = false := by
          cases hb : Nat.beq (j + 1) i with
          | false => rfl
          | true => exact absurd (Nat.eq_of_beq_eq_true hb) h2
        rw [b2] at hj
        refine h'.2.2 (j, w) (List.mem_cons_of_mem _ (List.mem_filter.mpr ⟨x_in h hj, ?_⟩))
        simp [h1, h2, h4]
/-- fewer locals known -/
theorem x_fewer {Γ : xGm} {T : xTb} {M : xMg} {pc : Nat} {L L' : Nat → Option Value} {st : List Value} {S : xSt} (h : ∀ i v, L' i = some v → L i = some v) (k : xAt Γ T M pc L' st S) : xAt Γ T M pc L st S :=
  fun ls H locs hl hw => k ls H locs ⟨hl.1, hl.2.1, fun i v hi => hl.2.2 i v (h i v hi)⟩ hw
section XR
variable {Γ : xGm} {T : xTb} {M : xMg} {d pc : Nat} {cc : ByteArray} {own : String} {L : Nat → Option Value} {st : List Value} {S S' : xSt}
theorem x_iconst (o : xOk Γ T M d cc own) {n : Int} {v : Int32} (hd : decode cc pc = .ok (.iconst n, 1)) (hv : Int32.ofInt n = v) (k : xAt Γ T M (pc + 1) L (.int v :: st) S) : xAt Γ T M pc L (st) S :=
  fun ls H locs hl hw => lv_iconst o.1.1 o.1.2.1 hd hv (k ls H locs hl hw)
theorem x_bipush (o : xOk Γ T M d cc own) {n : Int} {v : Int32} (hd : decode cc pc = .ok (.bipush n, 2)) (hv : (Int8.ofInt n).toInt32 = v) (k : xAt Γ T M (pc + 2) L (.int v :: st) S) : xAt Γ T M pc L (st) S :=
  fun ls H locs hl hw => lv_bipush o.1.1 o.1.2.1 hd hv (k ls H locs hl hw)
theorem x_sipush (o : xOk Γ T M d cc own) {n : Int} {v : Int32} (hd : decode cc pc = .ok (.sipush n, 3)) (hv : (Int16.ofInt n).toInt32 = v) (k : xAt Γ T M (pc + 3) L (.int v :: st) S) : xAt Γ T M pc L (st) S :=
  fun ls H locs hl hw => lv_sipush o.1.1 o.1.2.1 hd hv (k ls H locs hl hw)
theorem x_lconst (o : xOk Γ T M d cc own) {n : Fin 2} {v : Int64} (hd : decode cc pc = .ok (.lconst n, 1)) (hv : Int64.ofNat (n : Nat) = v) (k : xAt Γ T M (pc + 1) L (.long v :: st) S) : xAt Γ T M pc L (st) S :=
  fun ls H locs hl hw => lv_lconst o.1.1 o.1.2.1 hd hv (k ls H locs hl hw)
theorem x_iload_n (o : xOk Γ T M d cc own) {q : Fin 4} {i : Nat} {x : Int32} (hd : decode cc pc = .ok (.iload_n q, 1)) (hi : (q : Nat) = i) (hx : L i = some (.int x)) (k : xAt Γ T M (pc + 1) L (.int x :: st) S) : xAt Γ T M pc L st S :=
  fun ls H locs hl hw => lv_iload_n o.1.1 o.1.2.1 hd hi (hl.2.2 _ _ hx) (k ls H locs hl hw)
theorem x_iload (o : xOk Γ T M d cc own) {i : Nat} {x : Int32} (hd : decode cc pc = .ok (.iload i, 2)) (hx : L i = some (.int x)) (k : xAt Γ T M (pc + 2) L (.int x :: st) S) : xAt Γ T M pc L st S :=
  fun ls H locs hl hw => lv_iload o.1.1 o.1.2.1 hd (hl.2.2 _ _ hx) (k ls H locs hl hw)
theorem x_lload_n (o : xOk Γ T M d cc own) {q : Fin 4} {i : Nat} {x : Int64} (hd : decode cc pc = .ok (.lload_n q, 1)) (hi : (q : Nat) = i) (hx : L i = some (.long x)) (k : xAt Γ T M (pc + 1) L (.long x :: st) S) : xAt Γ T M pc L st S :=
  fun ls H locs hl hw => lv_lload_n o.1.1 o.1.2.1 hd hi (hl.2.2 _ _ hx) (k ls H locs hl hw)
theorem x_lload (o : xOk Γ T M d cc own) {i : Nat} {x : Int64} (hd : decode cc pc = .ok (.lload i, 2)) (hx : L i = some (.long x)) (k : xAt Γ T M (pc + 2) L (.long x :: st) S) : xAt Γ T M pc L st S :=
  fun ls H locs hl hw => lv_lload o.1.1 o.1.2.1 hd (hl.2.2 _ _ hx) (k ls H locs hl hw)
theorem x_aload_n (o : xOk Γ T M d cc own) {q : Fin 4} {i : Nat} {x : Nat} (hd : decode cc pc = .ok (.aload_n q, 1)) (hi : (q : Nat) = i) (hx : L i = some (.ref x)) (k : xAt Γ T M (pc + 1) L (.ref x :: st) S) : xAt Γ T M pc L st S :=
  fun ls H locs hl hw => lv_aload_n o.1.1 o.1.2.1 hd hi (hl.2.2 _ _ hx) (k ls H locs hl hw)
theorem x_aload (o : xOk Γ T M d cc own) {i : Nat} {x : Nat} (hd : decode cc pc = .ok (.aload i, 2)) (hx : L i = some (.ref x)) (k : xAt Γ T M (pc + 2) L (.ref x :: st) S) : xAt Γ T M pc L st S :=
  fun ls H locs hl hw => lv_aload o.1.1 o.1.2.1 hd (hl.2.2 _ _ hx) (k ls H locs hl hw)
theorem x_istore_n (o : xOk Γ T M d cc own) {q : Fin 4} {i : Nat} {x : Int32} (hd : decode cc pc = .ok (.istore_n q, 1)) (hi : (q : Nat) = i) (hn : i < Γ.2.2.2) (k : xAt Γ T M (pc + 1) (xup L i (.int x)) st S) : xAt Γ T M pc L (.int x :: st) S :=
  fun ls H locs hl hw => lv_istore_n o.1.1 o.1.2.1 hd hi (x_has hl) hn rfl (fun ls' h' => k ls' H locs (x_st1 hl h') hw)
theorem x_istore (o : xOk Γ T M d cc own) {i : Nat} {x : Int32} (hd : decode cc pc = .ok (.istore i, 2)) (hn : i < Γ.2.2.2) (k : xAt Γ T M (pc + 2) (xup L i (.int x)) st S) : xAt Γ T M pc L (.int x :: st) S :=
  fun ls H locs hl hw => lv_istore o.1.1 o.1.2.1 hd (x_has hl) hn rfl (fun ls' h' => k ls' H locs (x_st1 hl h') hw)
theorem x_astore_n (o : xOk Γ T M d cc own) {q : Fin 4} {i : Nat} {x : Nat} (hd : decode cc pc = .ok (.astore_n q, 1)) (hi : (q : Nat) = i) (hn : i < Γ.2.2.2) (k : xAt Γ T M (pc + 1) (xup L i (.ref x)) st S) : xAt Γ T M pc L (.ref x :: st) S :=
  fun ls H locs hl hw => lv_astore_n o.1.1 o.1.2.1 hd hi (x_has hl) hn rfl (fun ls' h' => k ls' H locs (x_st1 hl h') hw)
theorem x_astore (o : xOk Γ T M d cc own) {i : Nat} {x : Nat} (hd : decode cc pc = .ok (.astore i, 2)) (hn : i < Γ.2.2.2) (k : xAt Γ T M (pc + 2) (xup L i (.ref x)) st S) : xAt Γ T M pc L (.ref x :: st) S :=
  fun ls H locs hl hw => lv_astore o.1.1 o.1.2.1 hd (x_has hl) hn rfl (fun ls' h' => k ls' H locs (x_st1 hl h') hw)
theorem x_lstore_n (o : xOk Γ T M d cc own) {q : Fin 4} {i : Nat} {x : Int64} (hd : decode cc pc = .ok (.lstore_n q, 1)) (hi : (q : Nat) = i) (hn : i + 1 < Γ.2.2.2) (k : xAt Γ T M (pc + 1) (xup2 L i (.long x)) st S) : xAt Γ T M pc L (.long x :: st) S :=
  fun ls H locs hl hw => lv_lstore_n o.1.1 o.1.2.1 hd hi (x_has hl) hn rfl (fun ls' h' => k ls' H locs (x_st2 hl h') hw)
theorem x_lstore (o : xOk Γ T M d cc own) {i : Nat} {x : Int64} (hd : decode cc pc = .ok (.lstore i, 2)) (hn : i + 1 < Γ.2.2.2) (k : xAt Γ T M (pc + 2) (xup2 L i (.long x)) st S) : xAt Γ T M pc L (.long x :: st) S :=
  fun ls H locs hl hw => lv_lstore o.1.1 o.1.2.1 hd (x_has hl) hn rfl (fun ls' h' => k ls' H locs (x_st2 hl h') hw)
theorem x_iinc (o : xOk Γ T M d cc own) {i : Nat} {n : Int} {x v : Int32} (hd : decode cc pc = .ok (.iinc i n, 3)) (hx : L i = some (.int x)) (hv : x + Int32.ofInt n = v) (hn : i < Γ.2.2.2) (k : xAt Γ T M (pc + 3) (xup L i (.int v)) st S) : xAt Γ T M pc L st S := by
  intro ls H locs hl hw
  obtain ⟨kk, hk⟩ := List.getElem?_of_mem (x_in hl hx)
  exact lv_iinc o.1.1 o.1.2.1 hd (x_has hl) hk hv hn rfl (fun ls' h' => k ls' H locs (x_st1 hl h') hw)
theorem x_iadd (o : xOk Γ T M d cc own) {x y : Int32} (hd : decode cc pc = .ok (.iadd, 1))  (k : xAt Γ T M (pc + 1) L (.int (x + y) :: st) S) : xAt Γ T M pc L (.int y :: .int x :: st) S :=
  fun ls H locs hl hw => lv_iadd o.1.1 o.1.2.1 hd (k ls H locs hl hw)
theorem x_isub (o : xOk Γ T M d cc own) {x y : Int32} (hd : decode cc pc = .ok (.isub, 1))  (k : xAt Γ T M (pc + 1) L (.int (x - y) :: st) S) : xAt Γ T M pc L (.int y :: .int x :: st) S :=
  fun ls H locs hl hw => lv_isub o.1.1 o.1.2.1 hd (k ls H locs hl hw)
theorem x_imul (o : xOk Γ T M d cc own) {x y : Int32} (hd : decode cc pc = .ok (.imul, 1))  (k : xAt Γ T M (pc + 1) L (.int (x * y) :: st) S) : xAt Γ T M pc L (.int y :: .int x :: st) S :=
  fun ls H locs hl hw => lv_imul o.1.1 o.1.2.1 hd (k ls H locs hl hw)
theorem x_iand (o : xOk Γ T M d cc own) {x y : Int32} (hd : decode cc pc = .ok (.iand, 1))  (k : xAt Γ T M (pc + 1) L (.int (x &&& y) :: st) S) : xAt Γ T M pc L (.int y :: .int x :: st) S :=
  fun ls H locs hl hw => lv_iand o.1.1 o.1.2.1 hd (k ls H locs hl hw)
theorem x_ior (o : xOk Γ T M d cc own) {x y : Int32} (hd : decode cc pc = .ok (.ior, 1))  (k : xAt Γ T M (pc + 1) L (.int (x ||| y) :: st) S) : xAt Γ T M pc L (.int y :: .int x :: st) S :=
  fun ls H locs hl hw => lv_ior o.1.1 o.1.2.1 hd (k ls H locs hl hw)
theorem x_ixor (o : xOk Γ T M d cc own) {x y : Int32} (hd : decode cc pc = .ok (.ixor, 1))  (k : xAt Γ T M (pc + 1) L (.int (x ^^^ y) :: st) S) : xAt Γ T M pc L (.int y :: .int x :: st) S :=
  fun ls H locs hl hw => lv_ixor o.1.1 o.1.2.1 hd (k ls H locs hl hw)
theorem x_ishl (o : xOk Γ T M d cc own) {x y : Int32} (hd : decode cc pc = .ok (.ishl, 1))  (k : xAt Γ T M (pc + 1) L (.int (x <<< (y &&& 31)) :: st) S) : xAt Γ T M pc L (.int y :: .int x :: st) S :=
  fun ls H locs hl hw => lv_ishl o.1.1 o.1.2.1 hd (k ls H locs hl hw)
theorem x_ishr (o : xOk Γ T M d cc own) {x y : Int32} (hd : decode cc pc = .ok (.ishr, 1))  (k : xAt Γ T M (pc + 1) L (.int (x >>> (y &&& 31)) :: st) S) : xAt Γ T M pc L (.int y :: .int x :: st) S :=
  fun ls H locs hl hw => lv_ishr o.1.1 o.1.2.1 hd (k ls H locs hl hw)
theorem x_idiv (o : xOk Γ T M d cc own) {x y : Int32} (hd : decode cc pc = .ok (.idiv, 1)) (hne : ¬ y = 0) (k : xAt Γ T M (pc + 1) L (.int (x / y) :: st) S) : xAt Γ T M pc L (.int y :: .int x :: st) S :=
  fun ls H locs hl hw => lv_idiv o.1.1 o.1.2.1 hd hne (k ls H locs hl hw)
theorem x_irem (o : xOk Γ T M d cc own) {x y : Int32} (hd : decode cc pc = .ok (.irem, 1)) (hne : ¬ y = 0) (k : xAt Γ T M (pc + 1) L (.int (x - x / y * y) :: st) S) : xAt Γ T M pc L (.int y :: .int x :: st) S :=
  fun ls H locs hl hw => lv_irem o.1.1 o.1.2.1 hd hne (k ls H locs hl hw)
theorem x_ladd (o : xOk Γ T M d cc own) {x y : Int64} (hd : decode cc pc = .ok (.ladd, 1))  (k : xAt Γ T M (pc + 1) L (.long (x + y) :: st) S) : xAt Γ T M pc L (.long y :: .long x :: st) S :=
  fun ls H locs hl hw => lv_ladd o.1.1 o.1.2.1 hd (k ls H locs hl hw)
theorem x_lsub (o : xOk Γ T M d cc own) {x y : Int64} (hd : decode cc pc = .ok (.lsub, 1))  (k : xAt Γ T M (pc + 1) L (.long (x - y) :: st) S) : xAt Γ T M pc L (.long y :: .long x :: st) S :=
  fun ls H locs hl hw => lv_lsub o.1.1 o.1.2.1 hd (k ls H locs hl hw)
theorem x_lmul (o : xOk Γ T M d cc own) {x y : Int64} (hd : decode cc pc = .ok (.lmul, 1))  (k : xAt Γ T M (pc + 1) L (.long (x * y) :: st) S) : xAt Γ T M pc L (.long y :: .long x :: st) S :=
  fun ls H locs hl hw => lv_lmul o.1.1 o.1.2.1 hd (k ls H locs hl hw)
theorem x_land (o : xOk Γ T M d cc own) {x y : Int64} (hd : decode cc pc = .ok (.land, 1))  (k : xAt Γ T M (pc + 1) L (.long (x &&& y) :: st) S) : xAt Γ T M pc L (.long y :: .long x :: st) S :=
  fun ls H locs hl hw => lv_land o.1.1 o.1.2.1 hd (k ls H locs hl hw)
theorem x_lor (o : xOk Γ T M d cc own) {x y : Int64} (hd : decode cc pc = .ok (.lor, 1))  (k : xAt Γ T M (pc + 1) L (.long (x ||| y) :: st) S) : xAt Γ T M pc L (.long y :: .long x :: st) S :=
  fun ls H locs hl hw => lv_lor o.1.1 o.1.2.1 hd (k ls H locs hl hw)
theorem x_ldiv (o : xOk Γ T M d cc own) {x y : Int64} (hd : decode cc pc = .ok (.ldiv, 1)) (hne : ¬ y = 0) (k : xAt Γ T M (pc + 1) L (.long (x / y) :: st) S) : xAt Γ T M pc L (.long y :: .long x :: st) S :=
  fun ls H locs hl hw => lv_ldiv o.1.1 o.1.2.1 hd hne (k ls H locs hl hw)
theorem x_lrem (o : xOk Γ T M d cc own) {x y : Int64} (hd : decode cc pc = .ok (.lrem, 1)) (hne : ¬ y = 0) (k : xAt Γ T M (pc + 1) L (.long (x - x / y * y) :: st) S) : xAt Γ T M pc L (.long y :: .long x :: st) S :=
  fun ls H locs hl hw => lv_lrem o.1.1 o.1.2.1 hd hne (k ls H locs hl hw)
theorem x_lcmp (o : xOk Γ T M d cc own) {x y : Int64} (hd : decode cc pc = .ok (.lcmp, 1))  (k : xAt Γ T M (pc + 1) L (.int (lg_cmp x y) :: st) S) : xAt Γ T M pc L (.long y :: .long x :: st) S :=
  fun ls H locs hl hw => W.lcmp o.1.1 o.1.2.1 hd (k ls H locs hl hw)
theorem x_i2l (o : xOk Γ T M d cc own) {x : Int32} (hd : decode cc pc = .ok (.i2l, 1))  (k : xAt Γ T M (pc + 1) L (.long x.toInt64 :: st) S) : xAt Γ T M pc L (.int x :: st) S :=
  fun ls H locs hl hw => lv_i2l o.1.1 o.1.2.1 hd rfl (k ls H locs hl hw)
theorem x_l2i (o : xOk Γ T M d cc own) {x : Int64} (hd : decode cc pc = .ok (.l2i, 1))  (k : xAt Γ T M (pc + 1) L (.int x.toInt32 :: st) S) : xAt Γ T M pc L (.long x :: st) S :=
  fun ls H locs hl hw => lv_l2i o.1.1 o.1.2.1 hd rfl (k ls H locs hl hw)
theorem x_i2c (o : xOk Γ T M d cc own) {x : Int32} (hd : decode cc pc = .ok (.i2c, 1))  (k : xAt Γ T M (pc + 1) L (.int (x.toUInt32 % 65536).toInt32 :: st) S) : xAt Γ T M pc L (.int x :: st) S :=
  fun ls H locs hl hw => lv_i2c o.1.1 o.1.2.1 hd rfl (k ls H locs hl hw)
theorem x_iushr (o : xOk Γ T M d cc own) {x y : Int32} (hd : decode cc pc = .ok (.iushr, 1))  (k : xAt Γ T M (pc + 1) L (.int (x.toUInt32 >>> (y.toUInt32 &&& Int32.toUInt32 31)).toInt32 :: st) S) : xAt Γ T M pc L (.int y :: .int x :: st) S :=
  fun ls H locs hl hw => lv_iushr o.1.1 o.1.2.1 hd rfl (k ls H locs hl hw)
theorem x_lshl (o : xOk Γ T M d cc own) {x : Int64} {y : Int32} (hd : decode cc pc = .ok (.lshl, 1))  (k : xAt Γ T M (pc + 1) L (.long (x <<< (y.toInt64 &&& 63)) :: st) S) : xAt Γ T M pc L (.int y :: .long x :: st) S :=
  fun ls H locs hl hw => lv_lshl o.1.1 o.1.2.1 hd rfl (k ls H locs hl hw)
theorem x_lshr (o : xOk Γ T M d cc own) {x : Int64} {y : Int32} (hd : decode cc pc = .ok (.lshr, 1))  (k : xAt Γ T M (pc + 1) L (.long (x >>> (y.toInt64 &&& 63)) :: st) S) : xAt Γ T M pc L (.int y :: .long x :: st) S :=
  fun ls H locs hl hw => lv_lshr o.1.1 o.1.2.1 hd rfl (k ls H locs hl hw)
theorem x_dup (o : xOk Γ T M d cc own) {v : Value} (hd : decode cc pc = .ok (.dup, 1)) (hv : v.category = 1) (k : xAt Γ T M (pc + 1) L (v :: v :: st) S) : xAt Γ T M pc L (v :: st) S :=
  fun ls H locs hl hw => lv_dup o.1.1 o.1.2.1 hd hv (k ls H locs hl hw)
theorem x_pop (o : xOk Γ T M d cc own) {v : Value} (hd : decode cc pc = .ok (.pop, 1)) (hv : v.category = 1) (k : xAt Γ T M (pc + 1) L (st) S) : xAt Γ T M pc L (v :: st) S :=
  fun ls H locs hl hw => lv_pop o.1.1 o.1.2.1 hd hv (k ls H locs hl hw)
theorem x_dup2 (o : xOk Γ T M d cc own) {v w : Value} (hd : decode cc pc = .ok (.dup2, 1)) (hv : v.category = 1) (hw2 : w.category = 1) (k : xAt Γ T M (pc + 1) L (v :: w :: v :: w :: st) S) : xAt Γ T M pc L (v :: w :: st) S :=
  fun ls H locs hl hw => lv_dup2_11 o.1.1 o.1.2.1 hd hv hw2 (k ls H locs hl hw)
theorem x_if_eq (o : xOk Γ T M d cc own) {x : Int32} {off : Int} {tgt : Nat} (hd : decode cc pc = .ok (.ifCond .eq off, 3)) (ht : (pc : Int) + off = (tgt : Int)) (kt : x = 0 → xAt Γ T M tgt L st S) (kf : ¬ x = 0 → xAt Γ T M (pc + 3) L st S) : xAt Γ T M pc L (.int x :: st) S :=
  fun ls H locs hl hw => lv_if_eq o.1.1 o.1.2.1 hd ht (fun h => kt h ls H locs hl hw) (fun h => kf h ls H locs hl hw)
theorem x_icmp_eq (o : xOk Γ T M d cc own) {x y : Int32} {off : Int} {tgt : Nat} (hd : decode cc pc = .ok (.if_icmp .eq off, 3)) (ht : (pc : Int) + off = (tgt : Int)) (kt : x = y → xAt Γ T M tgt L st S) (kf : ¬ x = y → xAt Γ T M (pc + 3) L st S) : xAt Γ T M pc L (.int y :: .int x :: st) S :=
  fun ls H locs hl hw => lv_icmp_eq o.1.1 o.1.2.1 hd ht (fun h => kt h ls H locs hl hw) (fun h => kf h ls H locs hl hw)
theorem x_if_ne (o : xOk Γ T M d cc own) {x : Int32} {off : Int} {tgt : Nat} (hd : decode cc pc = .ok (.ifCond .ne off, 3)) (ht : (pc : Int) + off = (tgt : Int)) (kt : ¬ x = 0 → xAt Γ T M tgt L st S) (kf : x = 0 → xAt Γ T M (pc + 3) L st S) : xAt Γ T M pc L (.int x :: st) S :=
  fun ls H locs hl hw => lv_if_ne o.1.1 o.1.2.1 hd ht (fun h => kt h ls H locs hl hw) (fun h => kf h ls H locs hl hw)
theorem x_icmp_ne (o : xOk Γ T M d cc own) {x y : Int32} {off : Int} {tgt : Nat} (hd : decode cc pc = .ok (.if_icmp .ne off, 3)) (ht : (pc : Int) + off = (tgt : Int)) (kt : ¬ x = y → xAt Γ T M tgt L st S) (kf : x = y → xAt Γ T M (pc + 3) L st S) : xAt Γ T M pc L (.int y :: .int x :: st) S :=
  fun ls H locs hl hw => lv_icmp_ne o.1.1 o.1.2.1 hd ht (fun h => kt h ls H locs hl hw) (fun h => kf h ls H locs hl hw)
theorem x_if_lt (o : xOk Γ T M d cc own) {x : Int32} {off : Int} {tgt : Nat} (hd : decode cc pc = .ok (.ifCond .lt off, 3)) (ht : (pc : Int) + off = (tgt : Int)) (kt : x < 0 → xAt Γ T M tgt L st S) (kf : ¬ x < 0 → xAt Γ T M (pc + 3) L st S) : xAt Γ T M pc L (.int x :: st) S :=
  fun ls H locs hl hw => lv_if_lt o.1.1 o.1.2.1 hd ht (fun h => kt h ls H locs hl hw) (fun h => kf h ls H locs hl hw)
theorem x_icmp_lt (o : xOk Γ T M d cc own) {x y : Int32} {off : Int} {tgt : Nat} (hd : decode cc pc = .ok (.if_icmp .lt off, 3)) (ht : (pc : Int) + off = (tgt : Int)) (kt : x < y → xAt Γ T M tgt L st S) (kf : ¬ x < y → xAt Γ T M (pc + 3) L st S) : xAt Γ T M pc L (.int y :: .int x :: st) S :=
  fun ls H locs hl hw => lv_icmp_lt o.1.1 o.1.2.1 hd ht (fun h => kt h ls H locs hl hw) (fun h => kf h ls H locs hl hw)
theorem x_if_ge (o : xOk Γ T M d cc own) {x : Int32} {off : Int} {tgt : Nat} (hd : decode cc pc = .ok (.ifCond .ge off, 3)) (ht : (pc : Int) + off = (tgt : Int)) (kt : 0 ≤ x → xAt Γ T M tgt L st S) (kf : ¬ 0 ≤ x → xAt Γ T M (pc + 3) L st S) : xAt Γ T M pc L (.int x :: st) S :=
  fun ls H locs hl hw => lv_if_ge o.1.1 o.1.2.1 hd ht (fun h => kt h ls H locs hl hw) (fun h => kf h ls H locs hl hw)
theorem x_icmp_ge (o : xOk Γ T M d cc own) {x y : Int32} {off : Int} {tgt : Nat} (hd : decode cc pc = .ok (.if_icmp .ge off, 3)) (ht : (pc : Int) + off = (tgt : Int)) (kt : y ≤ x → xAt Γ T M tgt L st S) (kf : ¬ y ≤ x → xAt Γ T M (pc + 3) L st S) : xAt Γ T M pc L (.int y :: .int x :: st) S :=
  fun ls H locs hl hw => lv_icmp_ge o.1.1 o.1.2.1 hd ht (fun h => kt h ls H locs hl hw) (fun h => kf h ls H locs hl hw)
theorem x_if_gt (o : xOk Γ T M d cc own) {x : Int32} {off : Int} {tgt : Nat} (hd : decode cc pc = .ok (.ifCond .gt off, 3)) (ht : (pc : Int) + off = (tgt : Int)) (kt : 0 < x → xAt Γ T M tgt L st S) (kf : ¬ 0 < x → xAt Γ T M (pc + 3) L st S) : xAt Γ T M pc L (.int x :: st) S :=
  fun ls H locs hl hw => lv_if_gt o.1.1 o.1.2.1 hd ht (fun h => kt h ls H locs hl hw) (fun h => kf h ls H locs hl hw)
theorem x_icmp_gt (o : xOk Γ T M d cc own) {x y : Int32} {off : Int} {tgt : Nat} (hd : decode cc pc = .ok (.if_icmp .gt off, 3)) (ht : (pc : Int) + off = (tgt : Int)) (kt : y < x → xAt Γ T M tgt L st S) (kf : ¬ y < x → xAt Γ T M (pc + 3) L st S) : xAt Γ T M pc L (.int y :: .int x :: st) S :=
  fun ls H locs hl hw => lv_icmp_gt o.1.1 o.1.2.1 hd ht (fun h => kt h ls H locs hl hw) (fun h => kf h ls H locs hl hw)
theorem x_if_le (o : xOk Γ T M d cc own) {x : Int32} {off : Int} {tgt : Nat} (hd : decode cc pc = .ok (.ifCond .le off, 3)) (ht : (pc : Int) + off = (tgt : Int)) (kt : x ≤ 0 → xAt Γ T M tgt L st S) (kf : ¬ x ≤ 0 → xAt Γ T M (pc + 3) L st S) : xAt Γ T M pc L (.int x :: st) S :=
  fun ls H locs hl hw => lv_if_le o.1.1 o.1.2.1 hd ht (fun h => kt h ls H locs hl hw) (fun h => kf h ls H locs hl hw)
theorem x_icmp_le (o : xOk Γ T M d cc own) {x y : Int32} {off : Int} {tgt : Nat} (hd : decode cc pc = .ok (.if_icmp .le off, 3)) (ht : (pc : Int) + off = (tgt : Int)) (kt : x ≤ y → xAt Γ T M tgt L st S) (kf : ¬ x ≤ y → xAt Γ T M (pc + 3) L st S) : xAt Γ T M pc L (.int y :: .int x :: st) S :=
  fun ls H locs hl hw => lv_icmp_le o.1.1 o.1.2.1 hd ht (fun h => kt h ls H locs hl hw) (fun h => kf h ls H locs hl hw)
theorem x_goto (o : xOk Γ T M d cc own) {off : Int} {tgt : Nat} (hd : decode cc pc = .ok (.goto off, 3)) (ht : (pc : Int) + off = (tgt : Int)) (k : xAt Γ T M tgt L st S) : xAt Γ T M pc L st S :=
  fun ls H locs hl hw => lv_goto o.1.1 o.1.2.1 hd ht (k ls H locs hl hw)
theorem x_tableOut (o : xOk Γ T M d cc own) {dflt lo hi : Int} {offs : Array Int} {len : Nat} {x : Int32} {tgt : Nat} (hd : decode cc pc = .ok (.tableswitch dflt lo hi offs, len)) (h : x.toInt < lo ∨ hi < x.toInt) (ht : (pc : Int) + dflt = (tgt : Int)) (k : xAt Γ T M tgt L st S) : xAt Γ T M pc L (.int x :: st) S :=
  fun ls H locs hl hw => lv_tableOut o.1.1 o.1.2.1 hd h ht (k ls H locs hl hw)
theorem x_tableIn (o : xOk Γ T M d cc own) {dflt lo hi : Int} {offs : Array Int} {len : Nat} {x : Int32} {off : Int} {tgt : Nat} (hd : decode cc pc = .ok (.tableswitch dflt lo hi offs, len)) (h1 : ¬ x.toInt < lo) (h2 : ¬ hi < x.toInt) (ho : offs[(x.toInt - lo).toNat]? = some off) (ht : (pc : Int) + off = (tgt : Int)) (k : xAt Γ T M tgt L st S) : xAt Γ T M pc L (.int x :: st) S :=
  fun ls H locs hl hw => lv_tableIn o.1.1 o.1.2.1 hd h1 h2 ho ht (k ls H locs hl hw)
theorem x_ldc (o : xOk Γ T M d cc own) {index : Nat} {v : Int32} (hc : Cond.constant own index v ∈ xWS) (hd : decode cc pc = .ok (.ldc index, 2)) (k : xAt Γ T M (pc + 2) L (.int v :: st) S) : xAt Γ T M pc L st S :=
  fun ls H locs hl hw => lv_ldc o.1.1 o.1.2.1 o.1.2.2.2.1 (o.1.2.2.2.2 _ hc) hd (k ls H locs hl hw)
theorem x_ldcw (o : xOk Γ T M d cc own) {index : Nat} {v : Int32} (hc : Cond.constant own index v ∈ xWS) (hd : decode cc pc = .ok (.ldc_w index, 3)) (k : xAt Γ T M (pc + 3) L (.int v :: st) S) : xAt Γ T M pc L st S :=
  fun ls H locs hl hw => lv_ldcw o.1.1 o.1.2.1 o.1.2.2.2.1 (o.1.2.2.2.2 _ hc) hd (k ls H locs hl hw)
theorem x_ldc2 (o : xOk Γ T M d cc own) {index : Nat} {v : Int64} (hc : Cond.constantLong own index v ∈ xWS) (hd : decode cc pc = .ok (.ldc2_w index, 3)) (k : xAt Γ T M (pc + 3) L (.long v :: st) S) : xAt Γ T M pc L st S :=
  fun ls H locs hl hw => lv_ldc2 o.1.1 o.1.2.1 o.1.2.2.2.1 (o.1.2.2.2.2 _ hc) hd (k ls H locs hl hw)
end XR

/-! fields and arrays -/
def xgI (T : xTb) (c j k : Nat) (S : xSt) : Option Int32 := if T.1 k = c then some (S.1 k j) else none
def xgL (T : xTb) (c j k : Nat) (S : xSt) : Option Int64 := if T.1 k = c then some (S.2.1 k j) else none
def xgF (T : xTb) (c j k : Nat) (_ : xSt) : Option Nat := if T.1 k = c then some (T.2.2.1 k j) else none
def xgM (T : xTb) (c j k : Nat) (S : xSt) : Option Nat := if T.1 k = c then some (S.2.2 k j) else none
def xpI (T : xTb) (c j k : Nat) (v : Int32) (S : xSt) : Option xSt := if T.1 k = c then some (xuI S k j v) else none
def xpZ (T : xTb) (c j k : Nat) (v : Int32) (S : xSt) : Option xSt := if T.1 k = c ∧ (v = 0 ∨ v = 1) then some (xuI S k j v) else none
def xpL (T : xTb) (c j k : Nat) (v : Int64) (S : xSt) : Option xSt := if T.1 k = c then some (xuL S k j v) else none
def xpM (T : xTb) (c j k : Nat) (v : Nat) (S : xSt) : Option xSt := if T.1 k = c then some (xuR S k j v) else none
def xal (T : xTb) (k : Nat) (i : Int32) (S : xSt) : Option Int32 := if T.1 k = 13 ∧ ¬ (i < 0 ∨ T.2.1 k ≤ i.toNatClampNeg) then some (S.1 k i.toNatClampNeg) else none
def xas (T : xTb) (k : Nat) (i v : Int32) (S : xSt) : Option xSt := if T.1 k = 13 ∧ ¬ (i < 0 ∨ T.2.1 k ≤ i.toNatClampNeg) then some (xuI S k i.toNatClampNeg v) else none
def xzl (T : xTb) (k : Nat) (i : Int32) (S : xSt) : Option Int32 := if T.1 k = 15 ∧ ¬ (i < 0 ∨ T.2.1 k ≤ i.toNatClampNeg) then some (S.1 k i.toNatClampNeg) else none
def xzs (T : xTb) (k : Nat) (i v : Int32) (S : xSt) : Option xSt := if (T.1 k = 15 ∧ (v = 0 ∨ v = 1)) ∧ ¬ (i < 0 ∨ T.2.1 k ≤ i.toNatClampNeg) then some (xuI S k i.toNatClampNeg v) else none
def xll (T : xTb) (k : Nat) (i : Int32) (S : xSt) : Option Int64 := if T.1 k = 14 ∧ ¬ (i < 0 ∨ T.2.1 k ≤ i.toNatClampNeg) then some (S.2.1 k i.toNatClampNeg) else none
def xls (T : xTb) (k : Nat) (i : Int32) (v : Int64) (S : xSt) : Option xSt := if T.1 k = 14 ∧ ¬ (i < 0 ∨ T.2.1 k ≤ i.toNatClampNeg) then some (xuL S k i.toNatClampNeg v) else none
def xql (T : xTb) (k : Nat) (i : Int32) (_ : xSt) : Option Nat := if T.1 k = 16 ∧ ¬ (i < 0 ∨ T.2.1 k ≤ i.toNatClampNeg) then some (T.2.2.1 k i.toNatClampNeg) else none
def xlen (T : xTb) (k : Nat) : Option Int32 := if 13 ≤ T.1 k ∧ T.1 k ≤ 16 then some (Int32.ofNat (T.2.1 k)) else none
theorem xin {α : Type} {c : Prop} [Decidable c] {a : α} {z : α} (h : (if c then some a else none) = some z) : c ∧ a = z := by
  by_cases hc : c
  · rw [if_pos hc] at h; exact ⟨hc, Option.some.inj h⟩
  · rw [if_neg hc] at h; cases h
theorem xit {α : Type} {c : Prop} [Decidable c] {a b z : α} (h : (if c then a else b) = z) (hc : c) : a = z := by rw [if_pos hc] at h; exact h
theorem xif {α : Type} {c : Prop} [Decidable c] {a b z : α} (h : (if c then a else b) = z) (hc : ¬ c) : b = z := by rw [if_neg hc] at h; exact h
theorem xck {α : Type} {c : Prop} [Decidable c] {a : Option α} {z : α} (h : (if c then a else none) = some z) : c ∧ a = some z := by
  by_cases hc : c
  · rw [if_pos hc] at h; exact ⟨hc, h⟩
  · rw [if_neg hc] at h; cases h
theorem xbs {α β : Type} {x : Option α} {f : α → Option β} {z : β} (h : x.bind f = some z) : ∃ a, x = some a ∧ f a = some z := Option.bind_eq_some_iff.mp h
theorem x_flds {N j : Nat} {f g : Nat → Value} (hj : j < N) (h : ∀ i, i ≠ j → g i = f i) : ((List.range N).map f).set j (g j) = (List.range N).map g := by
  apply List.ext_getElem?
  intro i
  by_cases hi : i = j
  · subst hi
    rw [List.getElem?_set_self (by simpa using hj)]
    simp [hj]
  · rw [List.getElem?_set_ne (Ne.symm hi)]
    simp only [List.getElem?_map]
    cases hq : (List.range N)[i]? with
    | none => rfl
    | some q =>
      have : q = i := by
        have := List.getElem?_eq_some_iff.mp hq
        obtain ⟨l1, e1⟩ := this
        rw [List.getElem_range] at e1
        exact e1.symm
      subst this
      simp [h q hi]
theorem x_obj {T : xTb} {M : xMg} {S : xSt} {k c N : Nat} (hk : T.1 k = c) (hc : c ≤ 12) (hN : xnf c = N) : xct T M S k = .inr (c, (List.range N).map (xfv T M S k)) := by
  unfold xct
  rw [hk, if_neg (by omega), if_neg (by omega), if_neg (by omega), if_neg (by omega), hN]
theorem x_otherI {T : xTb} {M : xMg} {S : xSt} {k j : Nat} {v : Int32} {k' : Nat} (h : k' ≠ k) : xct T M (xuI S k j v) k' = xct T M S k' := by
  have e : (xuI S k j v).1 k' = S.1 k' := by funext q; simp [xuI, h]
  have e2 : xfv T M (xuI S k j v) k' = xfv T M S k' := by
    funext q
    unfold xfv
    rw [e]
    rfl
  unfold xct
  rw [e, e2]
  rfl
theorem x_otherL {T : xTb} {M : xMg} {S : xSt} {k j : Nat} {v : Int64} {k' : Nat} (h : k' ≠ k) : xct T M (xuL S k j v) k' = xct T M S k' := by
  have e : (xuL S k j v).2.1 k' = S.2.1 k' := by funext q; simp [xuL, h]
  have e2 : xfv T M (xuL S k j v) k' = xfv T M S k' := by
    funext q
    unfold xfv
    rw [e]
    rfl
  unfold xct
  rw [e, e2]
  rfl
theorem x_otherR {T : xTb} {M : xMg} {S : xSt} {k j : Nat} {v : Nat} {k' : Nat} (h : k' ≠ k) : xct T M (xuR S k j v) k' = xct T M S k' := by
  have e : (xuR S k j v).2.2 k' = S.2.2 k' := by funext q; simp [xuR, h]
  have e2 : xfv T M (xuR S k j v) k' = xfv T M S k' := by
    funext q
    unfold xfv
    rw [e]
    rfl
  unfold xct
  rw [e2]
  rfl
section XM
variable {Γ : xGm} {T : xTb} {M : xMg} {d pc : Nat} {cc : ByteArray} {own : String} {L : Nat → Option Value} {st : List Value} {S S' : xSt}
variable {c j N idx k : Nat} {C : String} {Tt : u_T} {tt : Nat → FieldType}
/-- what the tables say of a class: its number, its name, its fields; all among the words -/
def xCls (c : Nat) (C : String) (Tt : u_T) (N : Nat) (tt : Nat → FieldType) : Prop := vwCl[c]? = some (C, Tt, N) ∧ (∀ w ∈ u_ws C Tt N, w ∈ xWS) ∧ xnf c = N ∧ c ≤ 12 ∧ (∀ k, k < N → parseFieldDescriptor (Tt k).2.2.1 = some (tt k)) ∧ (∀ a, a < N → ∀ b, b < N → a ≠ b → (Tt a).2.1 ≠ (Tt b).2.1)
theorem x_get {v : Value} (o : xOk Γ T M d cc own) (hc : xCls c C Tt N tt) (hj : j < N) (hl : Cond.fieldLink own idx (Tt j).1 (Tt j).2.1 (Tt j).2.2.1 ∈ xWS) (hd : decode cc pc = .ok (.getfield idx, 3)) (hk : T.1 k = c) (hv : xfv T M S k j = v) (kk : xAt Γ T M (pc + 3) L (v :: st) S) : xAt Γ T M pc L (.ref (M.2.1 k) :: st) S := by
  intro ls H locs hl' hw
  obtain ⟨⟨hx, hb, hml, ho, hts⟩, hK, hT, -⟩ := o
  obtain ⟨h1, h2, h3, h4, h5, h6⟩ := hc
  obtain ⟨p, hp, -⟩ := x_at hT M S (k := k) (by rw [hk]; omega)
  rw [x_obj hk h4 h3] at hp
  exact va_get (D := M.1) hx hb hts h2 ho hK hw.1 p hp h1 j hj (hts _ hl) (fun _ h => h) (v := v) (by simp [hj, hv]) hd (kk ls H locs hl' hw)
theorem x_put {v : Value} {ty : FieldType} (o : xOk Γ T M d cc own) (hc : xCls c C Tt N tt) (hj : j < N) (hl : Cond.fieldLink own idx (Tt j).1 (Tt j).2.1 (Tt j).2.2.1 ∈ xWS) (hd : decode cc pc = .ok (.putfield idx, 3)) (hk : T.1 k = c) (hf : (Tt j).2.2.2 = false) (hty : tt j = ty) (hn : narrow ty v = v) (hfit : fits ty v = true) (hv : xfv T M S' k j = v) (ho1 : ∀ i, i ≠ j → xfv T M S' k i = xfv T M S k i) (ho2 : ∀ k', k' ≠ k → xct T M S' k' = xct T M S k') (kk : xAt Γ T M (pc + 3) L st S') : xAt Γ T M pc L (v :: .ref (M.2.1 k) :: st) S := by
  intro ls H locs hl' hw
  obtain ⟨⟨hx, hb, hml, ho, hts⟩, hK, hT, -⟩ := o
  obtain ⟨h1, h2, h3, h4, h5, h6⟩ := hc
  obtain ⟨p, hp, hq⟩ := x_at hT M S (k := k) (by rw [hk]; omega)
  have hset : (xwl T M S).set p (M.2.1 k, .inr (c, ((List.range N).map (xfv T M S k)).set j v)) = xwl T M S' := by
    rw [← x_set hT M S S' hq ho2, x_obj hk h4 h3, ← hv, x_flds hj ho1]
  rw [x_obj hk h4 h3] at hp
  refine va_put (D := M.1) hx hb hts h2 tt h5 h6 ho hK hw.1 hw.2.1 hw.2.2 p hp h1 j hj (hts _ hl) (fun _ h => h) hf (h5 j hj) (hty ▸ hn) (hty ▸ hfit) (by simpa using hj) hd (fun H1 locs1 hP1 hD1 hS1 => ?_)
  rw [hset] at hP1 hD1
  exact kk ls H1 locs1 hl' ⟨hP1, hD1, hS1⟩
theorem x_getI {v : Int32} (o : xOk Γ T M d cc own) (hc : xCls c C Tt N tt) (hj : j < N) (hl : Cond.fieldLink own idx (Tt j).1 (Tt j).2.1 (Tt j).2.2.1 ∈ xWS) (hf : xfk c j = 0) (hd : decode cc pc = .ok (.getfield idx, 3)) (h : xgI T c j k S = some v) (kk : xAt Γ T M (pc + 3) L (.int v :: st) S) : xAt Γ T M pc L (.ref (M.2.1 k) :: st) S := by
  obtain ⟨h1, h2⟩ := xin h
  exact x_get o hc hj hl hd h1 (by unfold xfv; rw [h1, hf, h2]; rfl) kk
theorem x_getL {v : Int64} (o : xOk Γ T M d cc own) (hc : xCls c C Tt N tt) (hj : j < N) (hl : Cond.fieldLink own idx (Tt j).1 (Tt j).2.1 (Tt j).2.2.1 ∈ xWS) (hf : xfk c j = 1) (hd : decode cc pc = .ok (.getfield idx, 3)) (h : xgL T c j k S = some v) (kk : xAt Γ T M (pc + 3) L (.long v :: st) S) : xAt Γ T M pc L (.ref (M.2.1 k) :: st) S := by
  obtain ⟨h1, h2⟩ := xin h
  exact x_get o hc hj hl hd h1 (by unfold xfv; rw [h1, hf, h2]; rfl) kk
theorem x_getF {v : Nat} (o : xOk Γ T M d cc own) (hc : xCls c C Tt N tt) (hj : j < N) (hl : Cond.fieldLink own idx (Tt j).1 (Tt j).2.1 (Tt j).2.2.1 ∈ xWS) (hf : xfk c j = 2) (hd : decode cc pc = .ok (.getfield idx, 3)) (h : xgF T c j k S = some v) (kk : xAt Γ T M (pc + 3) L (.ref (M.2.1 v) :: st) S) : xAt Γ T M pc L (.ref (M.2.1 k) :: st) S := by
  obtain ⟨h1, h2⟩ := xin h
  exact x_get o hc hj hl hd h1 (by unfold xfv; rw [h1, hf, h2]; rfl) kk
theorem x_getM {v : Nat} (o : xOk Γ T M d cc own) (hc : xCls c C Tt N tt) (hj : j < N) (hl : Cond.fieldLink own idx (Tt j).1 (Tt j).2.1 (Tt j).2.2.1 ∈ xWS) (hf : xfk c j = 3) (hd : decode cc pc = .ok (.getfield idx, 3)) (h : xgM T c j k S = some v) (kk : xAt Γ T M (pc + 3) L (.ref (M.2.1 v) :: st) S) : xAt Γ T M pc L (.ref (M.2.1 k) :: st) S := by
  obtain ⟨h1, h2⟩ := xin h
  exact x_get o hc hj hl hd h1 (by unfold xfv; rw [h1, hf, h2]; rfl) kk
theorem x_putI {v : Int32} (o : xOk Γ T M d cc own) (hc : xCls c C Tt N tt) (hj : j < N) (hl : Cond.fieldLink own idx (Tt j).1 (Tt j).2.1 (Tt j).2.2.1 ∈ xWS) (hf : xfk c j = 0) (hfin : (Tt j).2.2.2 = false) (hty : tt j = .int) (hd : decode cc pc = .ok (.putfield idx, 3)) (h : xpI T c j k v S = some S') (kk : xAt Γ T M (pc + 3) L st S') : xAt Γ T M pc L (.int v :: .ref (M.2.1 k) :: st) S := by
  obtain ⟨h1, h2⟩ := xin h
  subst h2
  exact x_put o hc hj hl hd h1 hfin hty rfl rfl (by unfold xfv; rw [h1, hf]; simp [xuI]) (fun i hi => by unfold xfv; simp [xuI, hi]) (fun k' hk' => x_otherI hk') kk
theorem x_putZ {v : Int32} (o : xOk Γ T M d cc own) (hc : xCls c C Tt N tt) (hj : j < N) (hl : Cond.fieldLink own idx (Tt j).1 (Tt j).2.1 (Tt j).2.2.1 ∈ xWS) (hf : xfk c j = 0) (hfin : (Tt j).2.2.2 = false) (hty : tt j = .boolean) (hd : decode cc pc = .ok (.putfield idx, 3)) (h : xpZ T c j k v S = some S') (kk : xAt Γ T M (pc + 3) L st S') : xAt Γ T M pc L (.int v :: .ref (M.2.1 k) :: st) S := by
  obtain ⟨⟨h1, h3⟩, h2⟩ := xin h
  subst h2
  exact x_put o hc hj hl hd h1 hfin hty (by rcases h3 with rfl | rfl <;> rfl) (by rcases h3 with rfl | rfl <;> rfl) (by unfold xfv; rw [h1, hf]; simp [xuI]) (fun i hi => by unfold xfv; simp [xuI, hi]) (fun k' hk' => x_otherI hk') kk
theorem x_putL {v : Int64} (o : xOk Γ T M d cc own) (hc : xCls c C Tt N tt) (hj : j < N) (hl : Cond.fieldLink own idx (Tt j).1 (Tt j).2.1 (Tt j).2.2.1 ∈ xWS) (hf : xfk c j = 1) (hfin : (Tt j).2.2.2 = false) (hty : tt j = .long) (hd : decode cc pc = .ok (.putfield idx, 3)) (h : xpL T c j k v S = some S') (kk : xAt Γ T M (pc + 3) L st S') : xAt Γ T M pc L (.long v :: .ref (M.2.1 k) :: st) S := by
  obtain ⟨h1, h2⟩ := xin h
  subst h2
  exact x_put o hc hj hl hd h1 hfin hty rfl rfl (by unfold xfv; rw [h1, hf]; simp [xuL]) (fun i hi => by unfold xfv; simp [xuL, hi]) (fun k' hk' => x_otherL hk') kk
theorem x_putM {v : Nat} {C2 : String} (o : xOk Γ T M d cc own) (hc : xCls c C Tt N tt) (hj : j < N) (hl : Cond.fieldLink own idx (Tt j).1 (Tt j).2.1 (Tt j).2.2.1 ∈ xWS) (hf : xfk c j = 3) (hfin : (Tt j).2.2.2 = false) (hty : tt j = .object C2) (hd : decode cc pc = .ok (.putfield idx, 3)) (h : xpM T c j k v S = some S') (kk : xAt Γ T M (pc + 3) L st S') : xAt Γ T M pc L (.ref (M.2.1 v) :: .ref (M.2.1 k) :: st) S := by
  obtain ⟨h1, h2⟩ := xin h
  subst h2
  exact x_put o hc hj hl hd h1 hfin hty rfl rfl (by unfold xfv; rw [h1, hf]; simp [xuR]) (fun i hi => by unfold xfv; simp [xuR, hi]) (fun k' hk' => x_otherR hk') kk
theorem x_iaload {i v : Int32} (o : xOk Γ T M d cc own) (hd : decode cc pc = .ok (.iaload, 1)) (h : xal T k i S = some v) (kk : xAt Γ T M (pc + 1) L (.int v :: st) S) : xAt Γ T M pc L (.int i :: .ref (M.2.1 k) :: st) S := by
  obtain ⟨⟨h1, h3⟩, h2⟩ := xin h
  subst h2
  intro ls H locs hl' hw
  obtain ⟨⟨hx, hb, hml, ho, hts⟩, hK, hT, -⟩ := o
  obtain ⟨p, hp, -⟩ := x_at hT M S (k := k) (by rw [h1]; omega)
  have e : xct T M S k = .inl (M.2.2.1, T.2.1 k, .inl (S.1 k)) := by unfold xct; rw [if_pos h1]
  rw [e] at hp
  exact va_iald (D := M.1) hx hb hK hw.1 p 0 hp rfl h3 hd (kk ls H locs hl' hw)
theorem x_iastore {i v : Int32} (o : xOk Γ T M d cc own) (hd : decode cc pc = .ok (.iastore, 1)) (h : xas T k i v S = some S') (kk : xAt Γ T M (pc + 1) L st S') : xAt Γ T M pc L (.int v :: .int i :: .ref (M.2.1 k) :: st) S := by
  obtain ⟨⟨h1, h3⟩, h2⟩ := xin h
  subst h2
  intro ls H locs hl' hw
  obtain ⟨⟨hx, hb, hml, ho, hts⟩, hK, hT, -⟩ := o
  obtain ⟨p, hp, hq⟩ := x_at hT M S (k := k) (by rw [h1]; omega)
  have e : ∀ S : xSt, xct T M S k = .inl (M.2.2.1, T.2.1 k, .inl (S.1 k)) := fun S => by unfold xct; rw [if_pos h1]
  have hset : (xwl T M S).set p (M.2.1 k, .inl (M.2.2.1, T.2.1 k, .inl (upd (S.1 k) i.toNatClampNeg v))) = xwl T M (xuI S k i.toNatClampNeg v) := by
    rw [← x_set hT M S (xuI S k i.toNatClampNeg v) hq (fun k' hk' => x_otherI hk'), e]
    congr 6
    funext q
    simp [xuI, upd]
  rw [e] at hp
  refine va_iast (D := M.1) hx hb hK hw.1 hw.2.1 hw.2.2 p 0 hp rfl h3 hd (fun H1 locs1 hP1 hD1 hS1 => ?_)
  rw [hset] at hP1 hD1
  exact kk ls H1 locs1 hl' ⟨hP1, hD1, hS1⟩
theorem x_zaload {i v : Int32} (o : xOk Γ T M d cc own) (hd : decode cc pc = .ok (.baload, 1)) (h : xzl T k i S = some v) (kk : xAt Γ T M (pc + 1) L (.int v :: st) S) : xAt Γ T M pc L (.int i :: .ref (M.2.1 k) :: st) S := by
  obtain ⟨⟨h1, h3⟩, h2⟩ := xin h
  subst h2
  intro ls H locs hl' hw
  obtain ⟨⟨hx, hb, hml, ho, hts⟩, hK, hT, -⟩ := o
  obtain ⟨p, hp, -⟩ := x_at hT M S (k := k) (by rw [h1]; omega)
  have e : xct T M S k = .inl (M.2.2.2.2.1, T.2.1 k, .inl (S.1 k)) := by unfold xct; rw [h1]; rfl
  rw [e] at hp
  exact va_zald (D := M.1) hx hb hK hw.1 p 2 hp rfl h3 hd (kk ls H locs hl' hw)
theorem x_zastore {i v : Int32} (o : xOk Γ T M d cc own) (hd : decode cc pc = .ok (.bastore, 1)) (h : xzs T k i v S = some S') (kk : xAt Γ T M (pc + 1) L st S') : xAt Γ T M pc L (.int v :: .int i :: .ref (M.2.1 k) :: st) S := by
  obtain ⟨⟨⟨h1, h4⟩, h3⟩, h2⟩ := xin h
  subst h2
  intro ls H locs hl' hw
  obtain ⟨⟨hx, hb, hml, ho, hts⟩, hK, hT, -⟩ := o
  obtain ⟨p, hp, hq⟩ := x_at hT M S (k := k) (by rw [h1]; omega)
  have e : ∀ S : xSt, xct T M S k = .inl (M.2.2.2.2.1, T.2.1 k, .inl (S.1 k)) := fun S => by unfold xct; rw [h1]; rfl
  have hv : vp_nar .boolean v = v := by rcases h4 with rfl | rfl <;> rfl
  have hset : (xwl T M S).set p (M.2.1 k, .inl (M.2.2.2.2.1, T.2.1 k, .inl (upd (S.1 k) i.toNatClampNeg (vp_nar .boolean v)))) = xwl T M (xuI S k i.toNatClampNeg v) := by
    rw [← x_set hT M S (xuI S k i.toNatClampNeg v) hq (fun k' hk' => x_otherI hk'), e, hv]
    congr 6
    funext q
    simp [xuI, upd]
  rw [e] at hp
  refine va_zast (D := M.1) hx hb hK hw.1 hw.2.1 hw.2.2 p 2 hp rfl h3 hd (fun H1 locs1 hP1 hD1 hS1 => ?_)
  rw [hset] at hP1 hD1
  exact kk ls H1 locs1 hl' ⟨hP1, hD1, hS1⟩
theorem x_laload {i : Int32} {v : Int64} (o : xOk Γ T M d cc own) (hd : decode cc pc = .ok (.laload, 1)) (h : xll T k i S = some v) (kk : xAt Γ T M (pc + 1) L (.long v :: st) S) : xAt Γ T M pc L (.int i :: .ref (M.2.1 k) :: st) S := by
  obtain ⟨⟨h1, h3⟩, h2⟩ := xin h
  subst h2
  intro ls H locs hl' hw
  obtain ⟨⟨hx, hb, hml, ho, hts⟩, hK, hT, -⟩ := o
  obtain ⟨p, hp, -⟩ := x_at hT M S (k := k) (by rw [h1]; omega)
  have e : xct T M S k = .inl (M.2.2.2.1, T.2.1 k, .inr (.inl (S.2.1 k))) := by unfold xct; rw [h1]; rfl
  rw [e] at hp
  exact va_lald (D := M.1) hx hb hK hw.1 p 1 hp rfl h3 hd (kk ls H locs hl' hw)
theorem x_lastore {i : Int32} {v : Int64} (o : xOk Γ T M d cc own) (hd : decode cc pc = .ok (.lastore, 1)) (h : xls T k i v S = some S') (kk : xAt Γ T M (pc + 1) L st S') : xAt Γ T M pc L (.long v :: .int i :: .ref (M.2.1 k) :: st) S := by
  obtain ⟨⟨h1, h3⟩, h2⟩ := xin h
  subst h2
  intro ls H locs hl' hw
  obtain ⟨⟨hx, hb, hml, ho, hts⟩, hK, hT, -⟩ := o
  obtain ⟨p, hp, hq⟩ := x_at hT M S (k := k) (by rw [h1]; omega)
  have e : ∀ S : xSt, xct T M S k = .inl (M.2.2.2.1, T.2.1 k, .inr (.inl (S.2.1 k))) := fun S => by unfold xct; rw [h1]; rfl
  have hset : (xwl T M S).set p (M.2.1 k, .inl (M.2.2.2.1, T.2.1 k, .inr (.inl (vp_updL (S.2.1 k) i.toNatClampNeg v)))) = xwl T M (xuL S k i.toNatClampNeg v) := by
    rw [← x_set hT M S (xuL S k i.toNatClampNeg v) hq (fun k' hk' => x_otherL hk'), e]
    congr 7
    funext q
    simp [xuL, vp_updL]
  rw [e] at hp
  refine va_last (D := M.1) hx hb hK hw.1 hw.2.1 hw.2.2 p 1 hp rfl h3 hd (fun H1 locs1 hP1 hD1 hS1 => ?_)
  rw [hset] at hP1 hD1
  exact kk ls H1 locs1 hl' ⟨hP1, hD1, hS1⟩
theorem x_aaload {i : Int32} {v : Nat} (o : xOk Γ T M d cc own) (hd : decode cc pc = .ok (.aaload, 1)) (h : xql T k i S = some v) (kk : xAt Γ T M (pc + 1) L (.ref (M.2.1 v) :: st) S) : xAt Γ T M pc L (.int i :: .ref (M.2.1 k) :: st) S := by
  obtain ⟨⟨h1, h3⟩, h2⟩ := xin h
  subst h2
  intro ls H locs hl' hw
  obtain ⟨⟨hx, hb, hml, ho, hts⟩, hK, hT, -⟩ := o
  obtain ⟨p, hp, -⟩ := x_at hT M S (k := k) (by rw [h1]; omega)
  have e : xct T M S k = .inl (M.2.2.2.2.2, T.2.1 k, .inr (.inr (.inr (.inr (fun i => some (M.2.1 (T.2.2.1 k i))))))) := by unfold xct; rw [h1]; rfl
  rw [e] at hp
  exact va_aldq (D := M.1) hx hb hK hw.1 p 3 hp rfl h3 hd (kk ls H locs hl' hw)
theorem x_arraylength {v : Int32} (o : xOk Γ T M d cc own) (hd : decode cc pc = .ok (.arraylength, 1)) (h : xlen T k = some v) (kk : xAt Γ T M (pc + 1) L (.int v :: st) S) : xAt Γ T M pc L (.ref (M.2.1 k) :: st) S := by
  obtain ⟨⟨h1, h3⟩, h2⟩ := xin h
  subst h2
  intro ls H locs hl' hw
  obtain ⟨⟨hx, hb, hml, ho, hts⟩, hK, hT, -⟩ := o
  obtain ⟨p, hp, -⟩ := x_at hT M S (k := k) h3
  have h4 : T.1 k = 13 ∨ T.1 k = 14 ∨ T.1 k = 15 ∨ T.1 k = 16 := by omega
  rcases h4 with h4 | h4 | h4 | h4
  · have e : xct T M S k = .inl (M.2.2.1, T.2.1 k, .inl (S.1 k)) := by unfold xct; rw [h4]; rfl
    rw [e] at hp
    exact va_alen (D := M.1) hx hb hK hw.1 p 0 hp rfl rfl hd (kk ls H locs hl' hw)
  · have e : xct T M S k = .inl (M.2.2.2.1, T.2.1 k, .inr (.inl (S.2.1 k))) := by unfold xct; rw [h4]; rfl
    rw [e] at hp
    exact va_alen (D := M.1) hx hb hK hw.1 p 1 hp rfl rfl hd (kk ls H locs hl' hw)
  · have e : xct T M S k = .inl (M.2.2.2.2.1, T.2.1 k, .inl (S.1 k)) := by unfold xct; rw [h4]; rfl
    rw [e] at hp
    exact va_alen (D := M.1) hx hb hK hw.1 p 2 hp rfl rfl hd (kk ls H locs hl' hw)
  · have e : xct T M S k = .inl (M.2.2.2.2.2, T.2.1 k, .inr (.inr (.inr (.inr (fun i => some (M.2.1 (T.2.2.1 k i))))))) := by unfold xct; rw [h4]; rfl
    rw [e] at hp
    exact va_alen (D := M.1) hx hb hK hw.1 p 3 hp rfl rfl hd (kk ls H locs hl' hw)
end XM

/-! contracts, entries, returns, calls -/
def xB (T : xTb) (M : xMg) (A : Nat → Prop) (S : xSt) (U : State) : Prop := va_P M.1 vwCl (xwl T M S) U.heap ∧ va_K M.1 vwCl (xty M) U ∧ va_D A (xwl T M S)
def xMI (l : Launch) (y : MethodName) (cc : ByteArray) (mL : Nat) (ret : Option FieldType) (d : Nat) (T : xTb) (M : xMg) (A : Nat → Prop) (av : List Value) (S : xSt) (r : Int32) (S' : xSt) : Prop :=
  Met l y (Cond.code y cc mL ret :: xWS) (xrm d) (va_Pc av (fun U => xB T M A S U)) (va_Qi (fun r0 (u : xSt) => r0 = r ∧ u = S') (fun u t => xB T M A u t) A) 0 0 A
def xML (l : Launch) (y : MethodName) (cc : ByteArray) (mL : Nat) (ret : Option FieldType) (d : Nat) (T : xTb) (M : xMg) (A : Nat → Prop) (av : List Value) (S : xSt) (r : Int64) (S' : xSt) : Prop :=
  Met l y (Cond.code y cc mL ret :: xWS) (xrm d) (va_Pc av (fun U => xB T M A S U)) (va_Ql (fun r0 (u : xSt) => r0 = r ∧ u = S') (fun u t => xB T M A u t) A) 0 0 A
def xMV (l : Launch) (y : MethodName) (cc : ByteArray) (mL : Nat) (ret : Option FieldType) (d : Nat) (T : xTb) (M : xMg) (A : Nat → Prop) (av : List Value) (S : xSt) (S' : xSt) : Prop :=
  Met l y (Cond.code y cc mL ret :: xWS) (xrm d) (va_Pc av (fun U => xB T M A S U)) (va_Qv (fun (u : xSt) => u = S') (fun u t => xB T M A u t) A) 0 0 A
def xRI (Γ : xGm) (T : xTb) (M : xMg) (ret : Option FieldType) (r : Int32) (S' : xSt) : Prop := Γ.2.1 = MQ Γ.1.2.2.2.2.2.2.2.1 (va_Qi (fun r0 (u : xSt) => r0 = r ∧ u = S') (fun u t => xB T M Γ.2.2.1 u t) Γ.2.2.1) Γ.1.2.2.2.2.2.2.1 Γ.1.2.2.2.2.1 0 0 Γ.2.2.1 ∧ Γ.1.2.2.2.2.2.2.2.2.1.sig.returnType = ret
def xRL (Γ : xGm) (T : xTb) (M : xMg) (ret : Option FieldType) (r : Int64) (S' : xSt) : Prop := Γ.2.1 = MQ Γ.1.2.2.2.2.2.2.2.1 (va_Ql (fun r0 (u : xSt) => r0 = r ∧ u = S') (fun u t => xB T M Γ.2.2.1 u t) Γ.2.2.1) Γ.1.2.2.2.2.2.2.1 Γ.1.2.2.2.2.1 0 0 Γ.2.2.1 ∧ Γ.1.2.2.2.2.2.2.2.2.1.sig.returnType = ret
def xRV (Γ : xGm) (T : xTb) (M : xMg) (ret : Option FieldType) (S' : xSt) : Prop := Γ.2.1 = MQ Γ.1.2.2.2.2.2.2.2.1 (va_Qv (fun (u : xSt) => u = S') (fun u t => xB T M Γ.2.2.1 u t) Γ.2.2.1) Γ.1.2.2.2.2.2.2.1 Γ.1.2.2.2.2.1 0 0 Γ.2.2.1 ∧ Γ.1.2.2.2.2.2.2.2.2.1.sig.returnType = ret
def xarg (av : List Value) : Nat → Option Value := fun j => (lv_args 0 av).lookup j
theorem x_lookup {l : List (Nat × Value)} {j : Nat} {v : Value} (h : l.lookup j = some v) : (j, v) ∈ l := by
  induction l with
  | nil => cases h
  | cons a l ih =>
    obtain ⟨i, w⟩ := a
    rw [List.lookup_cons] at h
    by_cases hj : (j == i) = true
    · rw [hj] at h
      cases h
      rw [eq_of_beq hj]
      exact List.mem_cons_self
    · rw [Bool.not_eq_true] at hj
      rw [hj] at h
      exact List.mem_cons_of_mem _ (ih h)
theorem x_body {l : Launch} {y : MethodName} {cc : ByteArray} {mL : Nat} {ret : Option FieldType} {d : Nat} {T : xTb} {M : xMg} {A : Nat → Prop} {av : List Value} {S : xSt} {Qc : Array Value → State → Outcome → State → Prop} (hy : plainFor y = true) (hT : xTok T) (hav : (lg_sl av).length ≤ mL)
    (body : ∀ (Γ : xGm), Γ.2.2.1 = A → Γ.2.2.2 = mL → Γ.1.2.1 = l → Γ.2.1 = MQ Γ.1.2.2.2.2.2.2.2.1 Qc Γ.1.2.2.2.2.2.2.1 Γ.1.2.2.2.2.1 0 0 A → Γ.1.2.2.2.2.2.2.2.2.1.sig.returnType = ret → xOk Γ T M d cc y.cls → xAt Γ T M 0 (xarg av) [] S) :
    Met l y (Cond.code y cc mL ret :: xWS) (xrm d) (va_Pc av (fun U => xB T M A S U)) Qc 0 0 A := by
  refine va_MetF (cc := cc) (maxL := mL) (ret := ret) hy rfl ?_
  intro p e s m args below meth c s₁ B hml hv
  obtain ⟨rfl, hP, hK, hD⟩ := hv
  have hts := atoms_spec (ws := Cond.code y cc mL ret :: xWS) B.pre
  have hown : s.vm.findClass y.cls = some m.cls := findClass_of_methodNamed B.named
  rw [lg_entry_eq]
  have hl := lv_entry av (n := mL) hav
  have h := body ((p, l, e, (headSpec (Cond.code y cc mL ret :: xWS) (xrm d)).room, s, m, av.toArray, below, meth, c), MQ below Qc av.toArray s 0 0 A, A, mL) rfl rfl rfl rfl B.returns ⟨⟨B.exec, B.bytes, hml, hown, fun w hw => hts w (List.mem_cons_of_mem _ hw)⟩, hK, hT, rfl, B.notSynchronized⟩
  exact h _ _ _ ⟨hl.1, hl.2.1, fun i v hi => hl.2.2 (i, v) (x_lookup hi)⟩ ⟨hP, hD, va_S.rf⟩
theorem x_metI {l : Launch} {y : MethodName} {cc : ByteArray} {mL : Nat} {ret : Option FieldType} {d : Nat} {T : xTb} {M : xMg} {A : Nat → Prop} {av : List Value} {S : xSt} {r : Int32} {S' : xSt} (hy : plainFor y = true) (hT : xTok T) (hav : (lg_sl av).length ≤ mL)
    (body : ∀ (Γ : xGm), Γ.2.2.1 = A → Γ.2.2.2 = mL → Γ.1.2.1 = l → xRI Γ T M ret r S' → xOk Γ T M d cc y.cls → xAt Γ T M 0 (xarg av) [] S) : xMI l y cc mL ret d T M A av S r S' :=
  x_body hy hT hav (fun Γ hA hL hl hQ hr o => body Γ hA hL hl ⟨by subst hA; exact hQ, hr⟩ o)
theorem x_metL {l : Launch} {y : MethodName} {cc : ByteArray} {mL : Nat} {ret : Option FieldType} {d : Nat} {T : xTb} {M : xMg} {A : Nat → Prop} {av : List Value} {S : xSt} {r : Int64} {S' : xSt} (hy : plainFor y = true) (hT : xTok T) (hav : (lg_sl av).length ≤ mL)
    (body : ∀ (Γ : xGm), Γ.2.2.1 = A → Γ.2.2.2 = mL → Γ.1.2.1 = l → xRL Γ T M ret r S' → xOk Γ T M d cc y.cls → xAt Γ T M 0 (xarg av) [] S) : xML l y cc mL ret d T M A av S r S' :=
  x_body hy hT hav (fun Γ hA hL hl hQ hr o => body Γ hA hL hl ⟨by subst hA; exact hQ, hr⟩ o)
theorem x_metV {l : Launch} {y : MethodName} {cc : ByteArray} {mL : Nat} {ret : Option FieldType} {d : Nat} {T : xTb} {M : xMg} {A : Nat → Prop} {av : List Value} {S : xSt} {S' : xSt} (hy : plainFor y = true) (hT : xTok T) (hav : (lg_sl av).length ≤ mL)
    (body : ∀ (Γ : xGm), Γ.2.2.1 = A → Γ.2.2.2 = mL → Γ.1.2.1 = l → xRV Γ T M ret S' → xOk Γ T M d cc y.cls → xAt Γ T M 0 (xarg av) [] S) : xMV l y cc mL ret d T M A av S S' :=
  x_body hy hT hav (fun Γ hA hL hl hQ hr o => body Γ hA hL hl ⟨by subst hA; exact hQ, hr⟩ o)
section XC
variable {Γ : xGm} {T : xTb} {M : xMg} {d pc : Nat} {cc : ByteArray} {own : String} {L : Nat → Option Value} {st : List Value} {S S' : xSt}
theorem x_ireturn {r r' : Int32} {S0 : xSt} (o : xOk Γ T M d cc own) (hr : xRI Γ T M (some .int) r S') (hd : decode cc pc = .ok (.ireturn, 1)) (h1 : r' = r) (h2 : S0 = S') : xAt Γ T M pc L [.int r'] S0 := by
  subst h1; subst h2
  intro ls H locs hl hw
  have h := W.iret (p := Γ.1.1) (l := Γ.1.2.1) (e := Γ.1.2.2.1) (R := Γ.1.2.2.2.1) (s := Γ.1.2.2.2.2.1) (m := Γ.1.2.2.2.2.2.1) (args := Γ.1.2.2.2.2.2.2.1) (below := Γ.1.2.2.2.2.2.2.2.1) (meth := Γ.1.2.2.2.2.2.2.2.2.1) (c := Γ.1.2.2.2.2.2.2.2.2.2) (H := H) (locs := locs) (cells := 0) (slots := 0) (ls := ls) (Qc := va_Qi (fun r0 (u : xSt) => r0 = r' ∧ u = S0) (fun u t => xB T M Γ.2.2.1 u t) Γ.2.2.1) (free := Γ.2.2.1) o.1.1 o.1.2.1 hr.2
    (fun t ht hW => ⟨⟨r', S0, rfl, ⟨rfl, rfl⟩, by rw [ht]; exact hw.1, va_K.moved hW.alike o.2.1, hw.2.1⟩, hw.2.2.F ht⟩) hw.2.2.2.2 hd o.2.2.2.2
  rw [← hr.1] at h
  exact h
theorem x_zreturn {r r' : Int32} {S0 : xSt} (o : xOk Γ T M d cc own) (hr : xRI Γ T M (some .boolean) r S') (hd : decode cc pc = .ok (.ireturn, 1)) (hz : r' = 0 ∨ r' = 1) (h1 : r' = r) (h2 : S0 = S') : xAt Γ T M pc L [.int r'] S0 := by
  subst h1; subst h2
  intro ls H locs hl hw
  have h := W.zret (p := Γ.1.1) (l := Γ.1.2.1) (e := Γ.1.2.2.1) (R := Γ.1.2.2.2.1) (s := Γ.1.2.2.2.2.1) (m := Γ.1.2.2.2.2.2.1) (args := Γ.1.2.2.2.2.2.2.1) (below := Γ.1.2.2.2.2.2.2.2.1) (meth := Γ.1.2.2.2.2.2.2.2.2.1) (c := Γ.1.2.2.2.2.2.2.2.2.2) (H := H) (locs := locs) (cells := 0) (slots := 0) (ls := ls) (Qc := va_Qi (fun r0 (u : xSt) => r0 = r' ∧ u = S0) (fun u t => xB T M Γ.2.2.1 u t) Γ.2.2.1) (free := Γ.2.2.1) o.1.1 o.1.2.1 hr.2 (by rcases hz with rfl | rfl <;> rfl)
    (fun t ht hW => ⟨⟨r', S0, rfl, ⟨rfl, rfl⟩, by rw [ht]; exact hw.1, va_K.moved hW.alike o.2.1, hw.2.1⟩, hw.2.2.F ht⟩) hw.2.2.2.2 hd o.2.2.2.2
  rw [← hr.1] at h
  exact h
theorem x_lreturn {r r' : Int64} {S0 : xSt} (o : xOk Γ T M d cc own) (hr : xRL Γ T M (some .long) r S') (hd : decode cc pc = .ok (.lreturn, 1)) (h1 : r' = r) (h2 : S0 = S') : xAt Γ T M pc L [.long r'] S0 := by
  subst h1; subst h2
  intro ls H locs hl hw
  have h := W.lret (p := Γ.1.1) (l := Γ.1.2.1) (e := Γ.1.2.2.1) (R := Γ.1.2.2.2.1) (s := Γ.1.2.2.2.2.1) (m := Γ.1.2.2.2.2.2.1) (args := Γ.1.2.2.2.2.2.2.1) (below := Γ.1.2.2.2.2.2.2.2.1) (meth := Γ.1.2.2.2.2.2.2.2.2.1) (c := Γ.1.2.2.2.2.2.2.2.2.2) (H := H) (locs := locs) (cells := 0) (slots := 0) (ls := ls) (Qc := va_Ql (fun r0 (u : xSt) => r0 = r' ∧ u = S0) (fun u t => xB T M Γ.2.2.1 u t) Γ.2.2.1) (free := Γ.2.2.1) o.1.1 o.1.2.1 hr.2
    (fun t ht hW => ⟨⟨r', S0, rfl, ⟨rfl, rfl⟩, by rw [ht]; exact hw.1, va_K.moved hW.alike o.2.1, hw.2.1⟩, hw.2.2.F ht⟩) hw.2.2.2.2 hd o.2.2.2.2
  rw [← hr.1] at h
  exact h
theorem x_vreturn {S0 : xSt} (o : xOk Γ T M d cc own) (hr : xRV Γ T M none S') (hd : decode cc pc = .ok (.return_, 1)) (h2 : S0 = S') : xAt Γ T M pc L [] S0 := by
  subst h2
  intro ls H locs hl hw
  have h := W.vret (p := Γ.1.1) (l := Γ.1.2.1) (e := Γ.1.2.2.1) (R := Γ.1.2.2.2.1) (s := Γ.1.2.2.2.2.1) (m := Γ.1.2.2.2.2.2.1) (args := Γ.1.2.2.2.2.2.2.1) (below := Γ.1.2.2.2.2.2.2.2.1) (meth := Γ.1.2.2.2.2.2.2.2.2.1) (c := Γ.1.2.2.2.2.2.2.2.2.2) (H := H) (locs := locs) (cells := 0) (slots := 0) (ls := ls) (Qc := va_Qv (fun (u : xSt) => u = S0) (fun u t => xB T M Γ.2.2.1 u t) Γ.2.2.1) (free := Γ.2.2.1) o.1.1 o.1.2.1 hr.2
    (fun t ht hW => ⟨⟨S0, rfl, rfl, by rw [ht]; exact hw.1, va_K.moved hW.alike o.2.1, hw.2.1⟩, hw.2.2.F ht⟩) hw.2.2.2.2 hd o.2.2.2.2
  rw [← hr.1] at h
  exact h
/-- what the tables say of a method that is called on an object: its code, that it is the object's own; how many arguments -/
def xCal (y : MethodName) (cc : ByteArray) (mL : Nat) (ret : Option FieldType) (n : Nat) : Prop := Cond.code y cc mL ret ∈ xWS ∧ Cond.instanceMethod y ∈ xWS ∧ Cond.selects y.cls y y ∈ xWS ∧ Cond.initialized y.cls ∈ xWS ∧ y.cls ≠ "java/lang/invoke/MethodHandle" ∧ y.cls ≠ "java/lang/invoke/VarHandle" ∧ (parseMethodDescriptor y.desc).map (fun d => d.parameters.length) = some n ∧ mL ≤ 45
def xCaS (y : MethodName) (cc : ByteArray) (mL : Nat) (ret : Option FieldType) (n : Nat) : Prop := Cond.code y cc mL ret ∈ xWS ∧ Cond.static y ∈ xWS ∧ Cond.initialized y.cls ∈ xWS ∧ y.cls ≠ "java/lang/invoke/MethodHandle" ∧ y.cls ≠ "java/lang/invoke/VarHandle" ∧ (parseMethodDescriptor y.desc).map (fun d => d.parameters.length) = some n ∧ mL ≤ 45
theorem x_cwV {R : Room} {s : State} {args : Array Value} {own : String} {index n mL d d' : Nat} {y : MethodName} {cc : ByteArray} {ret : Option FieldType} (ht : ∀ w ∈ xWS, w.before args s = true) (hc : xCal y cc mL ret n) (hl : Cond.methodLink own index y ∈ xWS) (hR : R = xrm d) (hd : d' < d) : CallW R s args own y.cls index y cc mL ret (Cond.code y cc mL ret :: xWS) (xrm d') 0 0 n := by
  obtain ⟨h1, h2, h3, h4, h5, h6, h7, h8⟩ := hc
  refine cwV n ht (fun w hw => ?_) rfl rfl rfl ⟨rfl, h5, h6, h7⟩ ?_
  · have hm : w ∈ xWS := by
      rcases List.mem_append.mp hw with h | h
      · rcases List.mem_cons.mp h with rfl | h
        · exact hl
        rcases List.mem_cons.mp h with rfl | h
        · exact h2
        rcases List.mem_cons.mp h with rfl | h
        · exact h3
        rcases List.mem_cons.mp h with rfl | h
        · exact h4
        cases h
      · rcases List.mem_cons.mp h with rfl | h
        · exact h1
        · exact h
    exact ⟨hm, xWS_good hm⟩
  · subst hR
    constructor
    · show d' + 1 ≤ d
      omega
    · show 8 + (mL + 11) + 64 * d' ≤ 64 * d
      omega
theorem x_cwS {R : Room} {s : State} {args : Array Value} {own : String} {index n mL d d' : Nat} {y : MethodName} {cc : ByteArray} {ret : Option FieldType} (ht : ∀ w ∈ xWS, w.before args s = true) (hc : xCaS y cc mL ret n) (hl : Cond.methodLink own index y ∈ xWS) (hR : R = xrm d) (hd : d' < d) : CallB R s args own index y cc mL ret (Cond.code y cc mL ret :: xWS) (xrm d') 0 0 n ∧ (Cond.static y).before args s = true := by
  obtain ⟨h1, h2, h4, h5, h6, h7, h8⟩ := hc
  refine va_cwS n ht (fun w hw => ?_) rfl rfl rfl ⟨h5, h6, h7⟩ ?_
  · have hm : w ∈ xWS := by
      rcases List.mem_append.mp hw with h | h
      · rcases List.mem_cons.mp h with rfl | h
        · exact hl
        rcases List.mem_cons.mp h with rfl | h
        · exact h2
        rcases List.mem_cons.mp h with rfl | h
        · exact h4
        cases h
      · rcases List.mem_cons.mp h with rfl | h
        · exact h1
        · exact h
    exact ⟨hm, xWS_good hm⟩
  · subst hR
    constructor
    · show d' + 1 ≤ d
      omega
    · show 8 + (mL + 11) + 64 * d' ≤ 64 * d
      omega
theorem x_blind {av : List Value} {A : Nat → Prop} : FrameBlind (va_Pc av (fun U => xB T M A S U)) := by
  intro a U g mk q
  obtain ⟨q0, qP, qK, qD⟩ := q
  exact ⟨q0, qP, va_K.moved (u := U) (U := U.calling g mk a) (Vm.Alike.refl U.vm) qK, qD⟩
theorem x_preV {s : State} {H : Heap} {locs : List Loc} {H0 : Heap} {A : Nat → Prop} {b c N : Nat} {C : String} {Tt : u_T} {tt : Nat → FieldType} {As : List Value} (hT : xTok T) (hK : va_K M.1 vwCl (xty M) s) (hw : xW T M A H0 S H locs) (hc : xCls c C Tt N tt) (hb : T.1 b = c) : PreV s H C (M.2.1 b) (va_Pc (.ref (M.2.1 b) :: As) (fun U => xB T M A S U)) As := by
  obtain ⟨h1, h2, h3, h4, h5, h6⟩ := hc
  obtain ⟨p, hp, -⟩ := x_at hT M S (k := b) (by rw [hb]; omega)
  rw [x_obj hb h4 h3] at hp
  exact ⟨x_blind, va_recv hK hw.1 h1 hp, fun U hU hW => ⟨rfl, by rw [hU]; exact hw.1, va_K.moved hW.alike hK, hw.2.1⟩⟩
theorem x_preS {s : State} {H : Heap} {locs : List Loc} {H0 : Heap} {A : Nat → Prop} {As : List Value} (hK : va_K M.1 vwCl (xty M) s) (hw : xW T M A H0 S H locs) : PreS s H (va_Pc As (fun U => xB T M A S U)) As :=
  ⟨x_blind, fun U hU hW => ⟨rfl, by rw [hU]; exact hw.1, va_K.moved hW.alike hK, hw.2.1⟩⟩

theorem x_callI {y : MethodName} {cc' : ByteArray} {mL d' n idx b c N : Nat} {ret : Option FieldType} {Tt : u_T} {tt : Nat → FieldType} {As rest : List Value} {r : Int32} (o : xOk Γ T M d cc own) (hM : xMI Γ.1.2.1 y cc' mL ret d' T M Γ.2.2.1 (.ref (M.2.1 b) :: As) S r S') (hy : xCal y cc' mL ret n) (hlk : Cond.methodLink own idx y ∈ xWS) (hcl : xCls c y.cls Tt N tt) (hb : T.1 b = c) (hd' : d' < d) (hn : As.length = n) (hst : st = As.reverse ++ .ref (M.2.1 b) :: rest) (hcat : (rest.map fun v => v.category).sum ≤ 8) (hd : decode cc pc = .ok (.invokevirtual idx, 3)) (k : xAt Γ T M (pc + 3) L (.int r :: rest) S') : xAt Γ T M pc L st S := by
  intro ls H locs hl' hw
  have hc := x_cwV o.1.2.2.2.2 hy hlk o.2.2.2.1 hd'
  refine va_calli (va_runV (As := As) (rest := rest) o.1 hM hc (x_preV o.2.2.1 o.2.1 hw hcl hb) rfl hn hl'.1 hst (lv_room hcat) hd ⟨Nat.zero_le _, Nat.zero_le _⟩) hw.2.2 (fun _ _ h => h) (fun _ h => h) (fun r1 u t H1 locs1 ht hvm hw1 hB hz1 hk1 hS1 => ?_)
  obtain ⟨rfl, rfl⟩ := hw1
  obtain ⟨hP1, hK1, hD1⟩ := hB
  rw [ht] at hP1
  exact k ls H1 locs1 hl' ⟨hP1, hD1, hS1⟩
theorem x_statI {y : MethodName} {cc' : ByteArray} {mL d' n idx : Nat} {ret : Option FieldType} {As rest : List Value} {r : Int32} (o : xOk Γ T M d cc own) (hM : xMI Γ.1.2.1 y cc' mL ret d' T M Γ.2.2.1 As S r S') (hy : xCaS y cc' mL ret n) (hlk : Cond.methodLink own idx y ∈ xWS) (hd' : d' < d) (hn : As.length = n) (hst : st = As.reverse ++ rest) (hcat : (rest.map fun v => v.category).sum ≤ 8) (hd : decode cc pc = .ok (.invokestatic idx, 3)) (k : xAt Γ T M (pc + 3) L (.int r :: rest) S') : xAt Γ T M pc L st S := by
  intro ls H locs hl' hw
  have hc := x_cwS o.1.2.2.2.2 hy hlk o.2.2.2.1 hd'
  refine va_calli (va_runS (As := As) (rest := rest) o.1 hM hc (x_preS o.2.1 hw) rfl hn hl'.1 hst (lv_room hcat) hd ⟨Nat.zero_le _, Nat.zero_le _⟩) hw.2.2 (fun _ _ h => h) (fun _ h => h) (fun r1 u t H1 locs1 ht hvm hw1 hB hz1 hk1 hS1 => ?_)
  obtain ⟨rfl, rfl⟩ := hw1
  obtain ⟨hP1, hK1, hD1⟩ := hB
  rw [ht] at hP1
  exact k ls H1 locs1 hl' ⟨hP1, hD1, hS1⟩
theorem x_callL {y : MethodName} {cc' : ByteArray} {mL d' n idx b c N : Nat} {ret : Option FieldType} {Tt : u_T} {tt : Nat → FieldType} {As rest : List Value} {r : Int64} (o : xOk Γ T M d cc own) (hM : xML Γ.1.2.1 y cc' mL ret d' T M Γ.2.2.1 (.ref (M.2.1 b) :: As) S r S') (hy : xCal y cc' mL ret n) (hlk : Cond.methodLink own idx y ∈ xWS) (hcl : xCls c y.cls Tt N tt) (hb : T.1 b = c) (hd' : d' < d) (hn : As.length = n) (hst : st = As.reverse ++ .ref (M.2.1 b) :: rest) (hcat : (rest.map fun v => v.category).sum ≤ 8) (hd : decode cc pc = .ok (.invokevirtual idx, 3)) (k : xAt Γ T M (pc + 3) L (.long r :: rest) S') : xAt Γ T M pc L st S := by
  intro ls H locs hl' hw
  have hc := x_cwV o.1.2.2.2.2 hy hlk o.2.2.2.1 hd'
  refine va_calll (va_runV (As := As) (rest := rest) o.1 hM hc (x_preV o.2.2.1 o.2.1 hw hcl hb) rfl hn hl'.1 hst (lv_room hcat) hd ⟨Nat.zero_le _, Nat.zero_le _⟩) hw.2.2 (fun _ _ h => h) (fun _ h => h) (fun r1 u t H1 locs1 ht hvm hw1 hB hz1 hk1 hS1 => ?_)
  obtain ⟨rfl, rfl⟩ := hw1
  obtain ⟨hP1, hK1, hD1⟩ := hB
  rw [ht] at hP1
  exact k ls H1 locs1 hl' ⟨hP1, hD1, hS1⟩
theorem x_statL {y : MethodName} {cc' : ByteArray} {mL d' n idx : Nat} {ret : Option FieldType} {As rest : List Value} {r : Int64} (o : xOk Γ T M d cc own) (hM : xML Γ.1.2.1 y cc' mL ret d' T M Γ.2.2.1 As S r S') (hy : xCaS y cc' mL ret n) (hlk : Cond.methodLink own idx y ∈ xWS) (hd' : d' < d) (hn : As.length = n) (hst : st = As.reverse ++ rest) (hcat : (rest.map fun v => v.category).sum ≤ 8) (hd : decode cc pc = .ok (.invokestatic idx, 3)) (k : xAt Γ T M (pc + 3) L (.long r :: rest) S') : xAt Γ T M pc L st S := by
  intro ls H locs hl' hw
  have hc := x_cwS o.1.2.2.2.2 hy hlk o.2.2.2.1 hd'
  refine va_calll (va_runS (As := As) (rest := rest) o.1 hM hc (x_preS o.2.1 hw) rfl hn hl'.1 hst (lv_room hcat) hd ⟨Nat.zero_le _, Nat.zero_le _⟩) hw.2.2 (fun _ _ h => h) (fun _ h => h) (fun r1 u t H1 locs1 ht hvm hw1 hB hz1 hk1 hS1 => ?_)
  obtain ⟨rfl, rfl⟩ := hw1
  obtain ⟨hP1, hK1, hD1⟩ := hB
  rw [ht] at hP1
  exact k ls H1 locs1 hl' ⟨hP1, hD1, hS1⟩
theorem x_callV {y : MethodName} {cc' : ByteArray} {mL d' n idx b c N : Nat} {ret : Option FieldType} {Tt : u_T} {tt : Nat → FieldType} {As rest : List Value} (o : xOk Γ T M d cc own) (hM : xMV Γ.1.2.1 y cc' mL ret d' T M Γ.2.2.1 (.ref (M.2.1 b) :: As) S S') (hy : xCal y cc' mL ret n) (hlk : Cond.methodLink own idx y ∈ xWS) (hcl : xCls c y.cls Tt N tt) (hb : T.1 b = c) (hd' : d' < d) (hn : As.length = n) (hst : st = As.reverse ++ .ref (M.2.1 b) :: rest) (hcat : (rest.map fun v => v.category).sum ≤ 8) (hd : decode cc pc = .ok (.invokevirtual idx, 3)) (k : xAt Γ T M (pc + 3) L (rest) S') : xAt Γ T M pc L st S := by
  intro ls H locs hl' hw
  have hc := x_cwV o.1.2.2.2.2 hy hlk o.2.2.2.1 hd'
  refine va_callv (va_runV (As := As) (rest := rest) o.1 hM hc (x_preV o.2.2.1 o.2.1 hw hcl hb) rfl hn hl'.1 hst (lv_room hcat) hd ⟨Nat.zero_le _, Nat.zero_le _⟩) hw.2.2 (fun _ _ h => h) (fun _ h => h) (fun u t H1 locs1 ht hvm hw1 hB hz1 hk1 hS1 => ?_)
  subst hw1
  obtain ⟨hP1, hK1, hD1⟩ := hB
  rw [ht] at hP1
  exact k ls H1 locs1 hl' ⟨hP1, hD1, hS1⟩
theorem x_statV {y : MethodName} {cc' : ByteArray} {mL d' n idx : Nat} {ret : Option FieldType} {As rest : List Value} (o : xOk Γ T M d cc own) (hM : xMV Γ.1.2.1 y cc' mL ret d' T M Γ.2.2.1 As S S') (hy : xCaS y cc' mL ret n) (hlk : Cond.methodLink own idx y ∈ xWS) (hd' : d' < d) (hn : As.length = n) (hst : st = As.reverse ++ rest) (hcat : (rest.map fun v => v.category).sum ≤ 8) (hd : decode cc pc = .ok (.invokestatic idx, 3)) (k : xAt Γ T M (pc + 3) L (rest) S') : xAt Γ T M pc L st S := by
  intro ls H locs hl' hw
  have hc := x_cwS o.1.2.2.2.2 hy hlk o.2.2.2.1 hd'
  refine va_callv (va_runS (As := As) (rest := rest) o.1 hM hc (x_preS o.2.1 hw) rfl hn hl'.1 hst (lv_room hcat) hd ⟨Nat.zero_le _, Nat.zero_le _⟩) hw.2.2 (fun _ _ h => h) (fun _ h => h) (fun u t H1 locs1 ht hvm hw1 hB hz1 hk1 hS1 => ?_)
  subst hw1
  obtain ⟨hP1, hK1, hD1⟩ := hB
  rw [ht] at hP1
  exact k ls H1 locs1 hl' ⟨hP1, hD1, hS1⟩
/-- Math.max, Math.min: rows of the kit -/
theorem x_mmax {idx : Nat} {x y : Int32} (o : xOk Γ T M d cc own) (h1 : Cond.methodLink own idx Lib.Math.max.name ∈ xWS) (h2 : Cond.static Lib.Math.max.name ∈ xWS) (h3 : Cond.initialized "java/lang/Math" ∈ xWS) (h4 : Cond.code Lib.Math.max.name Lib.Math.max.code 2 (some .int) ∈ xWS) (h5 : 1 ≤ d) (hcat : (st.map fun v => v.category).sum ≤ 8) (hd : decode cc pc = .ok (.invokestatic idx, 3)) (k : xAt Γ T M (pc + 3) L (.int (if x < y then y else x) :: st) S) : xAt Γ T M pc L (.int y :: .int x :: st) S := by
  intro ls H locs hl' hw
  refine va_mmax o.1.1 o.1.2.1 (o.1.2.2.1.trans hl'.1.symm) o.1.2.2.2.1 (o.1.2.2.2.2 _ h1) (o.1.2.2.2.2 _ h2) (o.1.2.2.2.2 _ h3) (o.1.2.2.2.2 _ h4) ?_ ?_ (Nat.zero_le _) (Nat.zero_le _) hd (k ls H locs hl' hw)
  · rw [o.2.2.2.1]; exact h5
  · rw [o.2.2.2.1]; show _ ≤ 64 * d; omega
theorem x_mmin {idx : Nat} {x y : Int32} (o : xOk Γ T M d cc own) (h1 : Cond.methodLink own idx Lib.Math.min.name ∈ xWS) (h2 : Cond.static Lib.Math.min.name ∈ xWS) (h3 : Cond.initialized "java/lang/Math" ∈ xWS) (h4 : Cond.code Lib.Math.min.name Lib.Math.min.code 2 (some .int) ∈ xWS) (h5 : 1 ≤ d) (hcat : (st.map fun v => v.category).sum ≤ 8) (hd : decode cc pc = .ok (.invokestatic idx, 3)) (k : xAt Γ T M (pc + 3) L (.int (if y < x then y else x) :: st) S) : xAt Γ T M pc L (.int y :: .int x :: st) S := by
  intro ls H locs hl' hw
  refine va_mmin o.1.1 o.1.2.1 (o.1.2.2.1.trans hl'.1.symm) o.1.2.2.2.1 (o.1.2.2.2.2 _ h1) (o.1.2.2.2.2 _ h2) (o.1.2.2.2.2 _ h3) (o.1.2.2.2.2 _ h4) ?_ ?_ (Nat.zero_le _) (Nat.zero_le _) hd (k ls H locs hl' hw)
  · rw [o.2.2.2.1]; exact h5
  · rw [o.2.2.2.1]; show _ ≤ 64 * d; omega
end XC
