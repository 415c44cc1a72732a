
def xlv : List (Nat × Value) → Nat → Option Value
  | [], _ => none
  | q :: l, j => cond (Nat.beq j q.1) (some q.2) (xlv l j)
def xall (L : Nat → Option Value) : List (Nat × Value) → Prop
  | [] => True
  | q :: l => L q.1 = some q.2 ∧ xall L l
theorem xall_get {L : Nat → Option Value} {l : List (Nat × Value)} (h : xall L l) {i : Nat} {v : Value} (hi : xlv l i = some v) : L i = some v := by
  induction l with
  | nil => cases hi
  | cons q l ih =>
    unfold xlv at hi
    cases hb : Nat.beq i q.1 with
    | true =>
      rw [hb] at hi
      cases hi
      rw [Nat.eq_of_beq_eq_true hb]
      exact h.1
    | false =>
      rw [hb] at hi
      exact ih h.2 hi
def xel {α β γ : Type} (z : α ⊕ β) (f : α → γ) (g : β → γ) : γ := match z with
  | .inl e => f e
  | .inr r => g r
theorem xel_l {α β γ : Type} {e : α} {f : α → γ} {g : β → γ} {z : γ} (h : xel (.inl e) f g = z) : f e = z := h
theorem xel_r {α β γ : Type} {r : β} {f : α → γ} {g : β → γ} {z : γ} (h : xel (.inr r) f g = z) : g r = z := h
theorem xr1 {α β : Type} {x : α} {y : β} {z : α × β} (h : some (x, y) = some z) : x = z.1 := by cases h; rfl
theorem xr2 {α β : Type} {x : α} {y : β} {z : α × β} (h : some (x, y) = some z) : y = z.2 := by cases h; rfl
theorem xcn {α : Type} {c : Prop} [Decidable c] {a : Option α} {z : α} (h : (if c then none else a) = some z) : ¬ c ∧ a = some z := by
  by_cases hc : c
  · rw [if_pos hc] at h; cases h
  · rw [if_neg hc] at h; exact ⟨hc, h⟩
def xuA (S : xSt) (k : Nat) (f : Nat → Int32) : xSt := (fun k' j' => if k' = k then f j' else S.1 k' j', S.2)
def xcp (T : xTb) (k0 : Nat) (sp : Int32) (k1 : Nat) (dp n : Int32) (S : xSt) : Option xSt :=
  if (T.1 k0 = 13 ∧ T.1 k1 = 13) ∧ (¬ sp < 0 ∧ ¬ dp < 0 ∧ ¬ n < 0) ∧ sp.toNatClampNeg + n.toNatClampNeg ≤ T.2.1 k0 ∧ dp.toNatClampNeg + n.toNatClampNeg ≤ T.2.1 k1 then some (xuA S k1 (va_cpy (S.1 k0) (S.1 k1) sp.toNatClampNeg dp.toNatClampNeg n.toNatClampNeg)) else none
theorem x_otherA {T : xTb} {M : xMg} {S : xSt} {k : Nat} {f : Nat → Int32} {k' : Nat} (h : k' ≠ k) : xct T M (xuA S k f) k' = xct T M S k' := by
  have e : (xuA S k f).1 k' = S.1 k' := by funext q; simp [xuA, h]
  have e2 : xfv T M (xuA S k f) k' = xfv T M S k' := by
    funext q
    unfold xfv
    rw [e]
    rfl
  unfold xct
  rw [e, e2]
  rfl
section XE
variable {Γ : xGm} {T : xTb} {M : xMg} {d pc : Nat} {cc : ByteArray} {own : String} {L : Nat → Option Value} {st : List Value} {S S' : xSt}
theorem x_to {l : List (Nat × Value)} (h : xall L l) (k : xAt Γ T M pc (xlv l) st S) : xAt Γ T M pc L st S := x_fewer (fun _ _ hi => xall_get h hi) k
theorem x_istore_nE (o : xOk Γ T M d cc own) {q : Fin 4} {i : Nat} {x v : Int32} (hd : decode cc pc = .ok (.istore_n q, 1)) (hi : (q : Nat) = i) (hn : i < Γ.2.2.2) (hv : some x = some v) (k : xAt Γ T M (pc + 1) (xup L i (.int v)) st S) : xAt Γ T M pc L (.int x :: st) S := by
  cases hv; exact x_istore_n o hd hi hn k
theorem x_istoreE (o : xOk Γ T M d cc own) {i : Nat} {x v : Int32} (hd : decode cc pc = .ok (.istore i, 2)) (hn : i < Γ.2.2.2) (hv : some x = some v) (k : xAt Γ T M (pc + 2) (xup L i (.int v)) st S) : xAt Γ T M pc L (.int x :: st) S := by
  cases hv; exact x_istore o hd hn k
theorem x_lstore_nE (o : xOk Γ T M d cc own) {q : Fin 4} {i : Nat} {x v : Int64} (hd : decode cc pc = .ok (.lstore_n q, 1)) (hi : (q : Nat) = i) (hn : i + 1 < Γ.2.2.2) (hv : some x = some v) (k : xAt Γ T M (pc + 1) (xup2 L i (.long v)) st S) : xAt Γ T M pc L (.long x :: st) S := by
  cases hv; exact x_lstore_n o hd hi hn k
theorem x_lstoreE (o : xOk Γ T M d cc own) {i : Nat} {x v : Int64} (hd : decode cc pc = .ok (.lstore i, 2)) (hn : i + 1 < Γ.2.2.2) (hv : some x = some v) (k : xAt Γ T M (pc + 2) (xup2 L i (.long v)) st S) : xAt Γ T M pc L (.long x :: st) S := by
  cases hv; exact x_lstore o hd hn k
theorem x_iincE (o : xOk Γ T M d cc own) {i : Nat} {n : Int} {x v c : Int32} (hd : decode cc pc = .ok (.iinc i n, 3)) (hx : L i = some (.int x)) (hc : Int32.ofInt n = c) (hn : i < Γ.2.2.2) (hv : some (x + c) = some v) (k : xAt Γ T M (pc + 3) (xup L i (.int v)) st S) : xAt Γ T M pc L st S := by
  cases hv; subst hc; exact x_iinc o hd hx rfl hn k
theorem x_lkswitch (o : xOk Γ T M d cc own) {dflt : Int} {ps : Array (Int × Int)} {len : Nat} {x : Int32} {off : Int} {tgt : Nat} (hd : decode cc pc = .ok (.lookupswitch dflt ps, len)) (hp : (ps.toList.zip (ps.toList.drop 1)).all (fun (a, next) => a.1 < next.1) = true) (ho : Op.lookupswitch.offset ps.toList dflt x.toInt = off) (ht : (pc : Int) + off = (tgt : Int)) (k : xAt Γ T M tgt L st S) : xAt Γ T M pc L (.int x :: st) S :=
  fun ls H locs hl hw => lv_lookup o.1.1 o.1.2.1 hd hp ho ht (k ls H locs hl hw)
theorem x_mmaxE {idx : Nat} {x y v : Int32} (o : xOk Γ T M d cc own) (h1 : Cond.methodLink own idx Lib.Math.max.name ∈ xWS) (h2 : Cond.static Lib.Math.max.name ∈ xWS) (h3 : Cond.initialized "java/lang/Math" ∈ xWS) (h4 : Cond.code Lib.Math.max.name Lib.Math.max.code 2 (some .int) ∈ xWS) (h5 : 1 ≤ d) (hcat : (st.map fun v => v.category).sum ≤ 8) (hd : decode cc pc = .ok (.invokestatic idx, 3)) (hv : some (if x < y then y else x) = some v) (k : xAt Γ T M (pc + 3) L (.int v :: st) S) : xAt Γ T M pc L (.int y :: .int x :: st) S := by
  cases hv; exact x_mmax o h1 h2 h3 h4 h5 hcat hd k
theorem x_mminE {idx : Nat} {x y v : Int32} (o : xOk Γ T M d cc own) (h1 : Cond.methodLink own idx Lib.Math.min.name ∈ xWS) (h2 : Cond.static Lib.Math.min.name ∈ xWS) (h3 : Cond.initialized "java/lang/Math" ∈ xWS) (h4 : Cond.code Lib.Math.min.name Lib.Math.min.code 2 (some .int) ∈ xWS) (h5 : 1 ≤ d) (hcat : (st.map fun v => v.category).sum ≤ 8) (hd : decode cc pc = .ok (.invokestatic idx, 3)) (hv : some (if y < x then y else x) = some v) (k : xAt Γ T M (pc + 3) L (.int v :: st) S) : xAt Γ T M pc L (.int y :: .int x :: st) S := by
  cases hv; exact x_mmin o h1 h2 h3 h4 h5 hcat hd k
theorem x_copy {idx k0 k1 : Nat} {sp dp n : Int32} (o : xOk Γ T M d cc own) (h1 : Cond.methodLink own idx arraycopyName ∈ xWS) (h2 : Cond.native arraycopyName ∈ xWS) (h3 : Cond.static arraycopyName ∈ xWS) (h4 : Cond.initialized "java/lang/System" ∈ xWS) (h5 : 1 ≤ d) (hcat : (st.map fun v => v.category).sum + (nativeFrameWords "java/lang/System" "arraycopy" 5 + 11) ≤ 64) (hd : decode cc pc = .ok (.invokestatic idx, 3)) (h : xcp T k0 sp k1 dp n S = some S') (kk : xAt Γ T M (pc + 3) L st S') : xAt Γ T M pc L (.int n :: .int dp :: .ref (M.2.1 k1) :: .int sp :: .ref (M.2.1 k0) :: st) S := by
  obtain ⟨⟨⟨q0, q1⟩, ⟨q2, q3, q4⟩, q5, q6⟩, rfl⟩ := xin h
  intro ls H locs hl' hw
  have hR := o.2.2.2.1
  obtain ⟨⟨hx, hb, hml, ho, hts⟩, hK, hT, -⟩ := o
  obtain ⟨p0, hp0, -⟩ := x_at hT M S (k := k0) (by rw [q0]; omega)
  obtain ⟨p1, hp1, hq1⟩ := x_at hT M S (k := k1) (by rw [q1]; omega)
  have e : ∀ (S : xSt) (k : Nat), T.1 k = 13 → xct T M S k = .inl (M.2.2.1, T.2.1 k, .inl (S.1 k)) := fun S k h1 => by unfold xct; rw [if_pos h1]
  have hset : (xwl T M S).set p1 (M.2.1 k1, .inl (M.2.2.1, T.2.1 k1, .inl (va_cpy (S.1 k0) (S.1 k1) sp.toNatClampNeg dp.toNatClampNeg n.toNatClampNeg))) = xwl T M (xuA S k1 (va_cpy (S.1 k0) (S.1 k1) sp.toNatClampNeg dp.toNatClampNeg n.toNatClampNeg)) := by
    rw [← x_set hT M S (xuA S k1 (va_cpy (S.1 k0) (S.1 k1) sp.toNatClampNeg dp.toNatClampNeg n.toNatClampNeg)) hq1 (fun k' hk' => x_otherA hk'), e _ _ q1]
    congr 6
    funext q
    simp [xuA]
  rw [e _ _ q0] at hp0
  rw [e _ _ q1] at hp1
  refine va_copyi (D := M.1) (ty := .int) hx hb (hml.trans hl'.1.symm) ho (hts _ h1) (hts _ h2) (hts _ h3) (hts _ h4) hK hw.1 hw.2.1 hw.2.2 p0 p1 0 0 hp0 hp1 rfl rfl rfl q2 q3 q4 q5 q6 (fun _ _ => rfl) ?_ ?_ hd (fun H1 locs1 hP1 hD1 hS1 => ?_)
  · rw [hR]; exact h5
  · rw [hR]; show _ ≤ 64 * d; omega
  · rw [hset] at hP1 hD1
    exact kk ls H1 locs1 hl' ⟨hP1, hD1, hS1⟩
end XE
