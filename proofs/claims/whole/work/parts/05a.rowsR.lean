def xMR (l : Launch) (y : MethodName) (cc : ByteArray) (mL : Nat) (ret : Option FieldType) (d : Nat) (T : xTb) (M : xMg) (A : Nat → Prop) (av : List Value) (S : xSt) (r : Nat) (S' : xSt) : Prop :=
  Met l y (Cond.code y cc mL ret :: xWS) (xrm d) (va_Pc av (fun U => xB T M A S U)) (va_Qr (fun (u : xSt) => u = S') (fun u a t => a = M.2.1 r ∧ xB T M A u t) A) 0 0 A
def xRR (Γ : xGm) (T : xTb) (M : xMg) (ret : Option FieldType) (r : Nat) (S' : xSt) : Prop := Γ.2.1 = MQ Γ.1.2.2.2.2.2.2.2.1 (va_Qr (fun (u : xSt) => u = S') (fun u a t => a = M.2.1 r ∧ xB T M Γ.2.2.1 u t) Γ.2.2.1) Γ.1.2.2.2.2.2.2.1 Γ.1.2.2.2.2.1 0 0 Γ.2.2.1 ∧ Γ.1.2.2.2.2.2.2.2.2.1.sig.returnType = ret
theorem x_metR {l : Launch} {y : MethodName} {cc : ByteArray} {mL : Nat} {ret : Option FieldType} {d : Nat} {T : xTb} {M : xMg} {A : Nat → Prop} {av : List Value} {S : xSt} {r : Nat} {S' : xSt} (hy : plainFor y = true) (hT : xTok T) (hav : (lg_sl av).length ≤ mL)
    (body : ∀ (Γ : xGm), Γ.2.2.1 = A → Γ.2.2.2 = mL → Γ.1.2.1 = l → xRR Γ T M ret r S' → xOk Γ T M d cc y.cls → xAt Γ T M 0 (xarg av) [] S) : xMR l y cc mL ret d T M A av S r S' :=
  x_body hy hT hav (fun Γ hA hL hl hQ hr o => body Γ hA hL hl ⟨by subst hA; exact hQ, hr⟩ o)
section XCR
variable {Γ : xGm} {T : xTb} {M : xMg} {d pc : Nat} {cc : ByteArray} {own : String} {L : Nat → Option Value} {st : List Value} {S S' : xSt}
theorem x_areturn {r r' : Nat} {S0 : xSt} {nm : String} (o : xOk Γ T M d cc own) (hr : xRR Γ T M (some (.object nm)) r S') (hd : decode cc pc = .ok (.areturn, 1)) (h1 : r' = r) (h2 : S0 = S') : xAt Γ T M pc L [.ref (M.2.1 r')] S0 := by
  subst h1; subst h2
  intro ls H locs hl hw
  have h := W.aret (p := Γ.1.1) (l := Γ.1.2.1) (e := Γ.1.2.2.1) (R := Γ.1.2.2.2.1) (s := Γ.1.2.2.2.2.1) (m := Γ.1.2.2.2.2.2.1) (args := Γ.1.2.2.2.2.2.2.1) (below := Γ.1.2.2.2.2.2.2.2.1) (meth := Γ.1.2.2.2.2.2.2.2.2.1) (c := Γ.1.2.2.2.2.2.2.2.2.2) (H := H) (locs := locs) (cells := 0) (slots := 0) (ls := ls) (v := .ref (M.2.1 r')) (Qc := va_Qr (fun (u : xSt) => u = S0) (fun u a t => a = M.2.1 r' ∧ xB T M Γ.2.2.1 u t) Γ.2.2.1) (free := Γ.2.2.1) o.1.1 o.1.2.1 hr.2 (Or.inl ⟨nm, rfl⟩) (Or.inr ⟨_, rfl⟩)
    (fun t ht hW => ⟨⟨S0, M.2.1 r', rfl, rfl, rfl, by rw [ht]; exact hw.1, va_K.moved hW.alike o.2.1, hw.2.1⟩, hw.2.2.F ht⟩) hw.2.2.2.2 hd o.2.2.2.2
  rw [← hr.1] at h
  exact h
theorem x_ifnonnull (o : xOk Γ T M d cc own) {k : Nat} {off : Int} {tgt : Nat} (hd : decode cc pc = .ok (.ifnonnull off, 3)) (ht : (pc : Int) + off = (tgt : Int)) (kt : xAt Γ T M tgt L st S) : xAt Γ T M pc L (.ref (M.2.1 k) :: st) S :=
  fun ls H locs hl hw => lv_ifnonnull o.1.1 o.1.2.1 hd ht (kt ls H locs hl hw)
theorem x_callR {y : MethodName} {cc' : ByteArray} {mL d' n idx b c N : Nat} {ret : Option FieldType} {Tt : u_T} {tt : Nat → FieldType} {As rest : List Value} {r : Nat} (o : xOk Γ T M d cc own) (hM : xMR Γ.1.2.1 y cc' mL ret d' T M Γ.2.2.1 (.ref (M.2.1 b) :: As) S r S') (hy : xCal y cc' mL ret n) (hlk : Cond.methodLink own idx y ∈ xWS) (hcl : xCls c y.cls Tt N tt) (hb : T.1 b = c) (hd' : d' < d) (hn : As.length = n) (hst : st = As.reverse ++ .ref (M.2.1 b) :: rest) (hcat : (rest.map fun v => v.category).sum ≤ 8) (hd : decode cc pc = .ok (.invokevirtual idx, 3)) (k : xAt Γ T M (pc + 3) L (.ref (M.2.1 r) :: rest) S') : xAt Γ T M pc L st S := by
  intro ls H locs hl' hw
  have hc := x_cwV o.1.2.2.2.2 hy hlk o.2.2.2.1 hd'
  refine va_callr (va_runV (As := As) (rest := rest) o.1 hM hc (x_preV o.2.2.1 o.2.1 hw hcl hb) rfl hn hl'.1 hst (lv_room hcat) hd ⟨Nat.zero_le _, Nat.zero_le _⟩) hw.2.2 (fun _ _ h => h) (fun _ h => h) (fun u ra t H1 locs1 ht hvm hw1 hB hz1 hk1 hS1 => ?_)
  subst hw1
  obtain ⟨rfl, hP1, hK1, hD1⟩ := hB
  rw [ht] at hP1
  exact k ls H1 locs1 hl' ⟨hP1, hD1, hS1⟩
theorem x_statR {y : MethodName} {cc' : ByteArray} {mL d' n idx : Nat} {ret : Option FieldType} {As rest : List Value} {r : Nat} (o : xOk Γ T M d cc own) (hM : xMR Γ.1.2.1 y cc' mL ret d' T M Γ.2.2.1 As S r S') (hy : xCaS y cc' mL ret n) (hlk : Cond.methodLink own idx y ∈ xWS) (hd' : d' < d) (hn : As.length = n) (hst : st = As.reverse ++ rest) (hcat : (rest.map fun v => v.category).sum ≤ 8) (hd : decode cc pc = .ok (.invokestatic idx, 3)) (k : xAt Γ T M (pc + 3) L (.ref (M.2.1 r) :: rest) S') : xAt Γ T M pc L st S := by
  intro ls H locs hl' hw
  have hc := x_cwS o.1.2.2.2.2 hy hlk o.2.2.2.1 hd'
  refine va_callr (va_runS (As := As) (rest := rest) o.1 hM hc (x_preS o.2.1 hw) rfl hn hl'.1 hst (lv_room hcat) hd ⟨Nat.zero_le _, Nat.zero_le _⟩) hw.2.2 (fun _ _ h => h) (fun _ h => h) (fun u ra t H1 locs1 ht hvm hw1 hB hz1 hk1 hS1 => ?_)
  subst hw1
  obtain ⟨rfl, hP1, hK1, hD1⟩ := hB
  rw [ht] at hP1
  exact k ls H1 locs1 hl' ⟨hP1, hD1, hS1⟩
end XCR
