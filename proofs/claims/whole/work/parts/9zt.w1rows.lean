/-! ===== the law's start: rows ===== -/
abbrev l_D11 : List Value := [.null, .int 0, .null, .null, .null, .null, .null, .null, .null, .null, .null, .null, .null, .int 0, .null, .int 0]
abbrev l_D12 : List Value := [.null, .int 0, .int 0, .int 0, .int 0, .int 0, .int 0, .long 0, .int 0, .int 0, .int 0, .int 0, .int 0, .int 0, .null, .null, .null, .null, .null, .null, .null, .null, .null, .null, .null, .null, .null, .null, .null, .null, .null, .null, .null, .null, .null, .null, .null, .null, .null, .int 0, .int 0, .int 0, .null, .null, .null, .null, .null, .int 0, .int 0, .null, .int 0, .int 0, .int 0, .null, .null, .null, .null, .null, .null, .null, .null, .null, .null, .null, .int 0, .int 0, .long 0, .null, .null, .int 0, .int 0, .int 0, .null, .int 0, .int 0, .int 0, .null, .null, .null, .null, .null, .null, .null, .int 0, .null, .null, .int 0]
section Q9zt
variable {Γ : xGm} {M : xMg} {a kc ks pc : Nat} {ex : va_W} {R : Room} {cc : ByteArray} {own : String} {L : Nat → Option Value} {st : List Value} {cs cs' : List va_E}
theorem y_astore_n (o : yOk Γ M a ex R cc own) {q : Fin 4} {i : Nat} {x : Nat} (hd : decode cc pc = .ok (.astore_n q, 1)) (hi : (q : Nat) = i) (hn : i < Γ.2.2.2) (k : yAt Γ M a ex kc ks (pc + 1) (xup L i (.ref x)) st cs) : yAt Γ M a ex kc ks pc L (.ref x :: st) cs :=
  fun ls H locs hl hw => lv_astore_n o.1.1 o.1.2.1 hd hi (x_has hl) hn rfl (fun ls' h' => k ls' H locs (x_st1 hl h') hw)
theorem z_astore_n {Ω : zOm} {b N : Nat} {xs : Nat → Int32} {S1 S2 : xSt} (o : zOk Γ Ω kc ks b N xs) {q : Fin 4} {i : Nat} {x : Nat} (hd : decode cL_law pc = .ok (.astore_n q, 1)) (hi : (q : Nat) = i) (hn : i < Γ.2.2.2) (k : zAt Γ Ω kc ks (pc + 1) (xup L i (.ref x)) st S1 S2) : zAt Γ Ω kc ks pc L (.ref x :: st) S1 S2 :=
  fun ls H locs hl hw => lv_astore_n o.1.1 o.1.2.1 hd hi (x_has hl) hn rfl (fun ls' h' => k ls' H locs (x_st1 hl h') hw)
theorem z_istore_n {Ω : zOm} {b N : Nat} {xs : Nat → Int32} {S1 S2 : xSt} (o : zOk Γ Ω kc ks b N xs) {q : Fin 4} {i : Nat} {x : Int32} (hd : decode cL_law pc = .ok (.istore_n q, 1)) (hi : (q : Nat) = i) (hn : i < Γ.2.2.2) (k : zAt Γ Ω kc ks (pc + 1) (xup L i (.int x)) st S1 S2) : zAt Γ Ω kc ks pc L (.int x :: st) S1 S2 :=
  fun ls H locs hl hw => lv_istore_n o.1.1 o.1.2.1 hd hi (x_has hl) hn rfl (fun ls' h' => k ls' H locs (x_st1 hl h') hw)
theorem y_good {y : MethodName} {cc' : ByteArray} {mL n : Nat} (hy : xCaI y cc' mL n) : GoodIn xWS (Cond.code y cc' mL none :: xWS) := fun w hw => by
  have hm : w ∈ xWS := by
    rcases List.mem_cons.mp hw with rfl | h
    · exact hy.1
    · exact h
  exact ⟨hm, xWS_good hm⟩
/-- the class's constructor is called from the law -/
theorem y_callS {kK kV N idx : Nat} {f : Nat → Int32} {fm : Value} {rest : List Value} (o : yOk Γ M a [] R cc own) (hs : sB (fun q => a ≤ q) kK kV N f fm Γ.1.2.2.2.2.1 Γ.1.2.2.2.2.1.heap) (hvk : vk_R RX7 25 tkX kK Γ.1.2.2.2.2.1) (hM : tsMet Γ.1.2.1 M a kK kV N f fm) (hlk : Cond.methodLink own idx yX11_init ∈ xWS) (hR : 6 + 1 ≤ R.frames ∧ 8 + (1 + 11) + 64 * 6 ≤ R.locals ∧ kc + 177 ≤ R.cells ∧ ks + 7773 ≤ R.slots) (hcat : (rest.map fun v => v.category).sum ≤ 8) (hd : decode cc pc = .ok (.invokespecial idx, 3)) (k : yAt Γ M a [] (kc + 177) (ks + 7773) (pc + 3) L rest (cTS f N M a)) : yAt Γ M a [] kc ks pc L (.ref a :: rest) [.inr (11, l_D11)] := by
  intro ls H locs hl' hw
  obtain ⟨w1, w2, w3, w4⟩ := hw
  have hts := o.1.2.2.2.2
  have hG := y_good eX11_init
  obtain ⟨y1, y2, y3, y4, y5, y6, y7, y8⟩ := eX11_init
  have hRR := o.2.2.2.1
  refine va_callv (va_runI (As := []) (rest := rest) (b := a) o.1 hM (cwI 0 hts hG rfl rfl rfl (hts _ y3) (hts _ hlk) (hts _ y2) y4 ⟨y5, y6, y7⟩ ⟨by rw [hRR]; exact hR.1, by rw [hRR]; exact hR.2.1⟩) ⟨?_, fun U hU hW => ⟨rfl, ⟨by rw [hU]; exact w1, by rw [hU]; exact w2, by rw [hU]; exact w3, va_K.moved hW.alike o.2.1, va_AO.moved hW.alike o.2.2.2.2.2⟩, by rw [hU]; exact sB.moved hW.alike (hs.kept w4.2.1), vk_R.warm hW hvk⟩⟩ rfl rfl hl'.1 rfl (lv_room hcat) hd ⟨by rw [hRR]; exact hR.2.2.1, by rw [hRR]; exact hR.2.2.2⟩) w4 (fun q _ h => h) (fun q h => h) (fun u t H1 locs1 ht hvm hw1 hB hz1 hk1 hS1 => ?_)
  · intro a' U g mk q
    obtain ⟨q0, ⟨q1, q2, q3, q4, q5⟩, q6, q7⟩ := q
    exact ⟨q0, ⟨q1, q2, q3, va_K.moved (u := U) (U := U.calling g mk a') (Vm.Alike.refl U.vm) q4, va_AO.moved (u := U) (U := U.calling g mk a') (Vm.Alike.refl U.vm) q5⟩, sB.moved (u := U) (U := U.calling g mk a') (Vm.Alike.refl U.vm) q6, vk_R.same (u := U) (U := U.calling g mk a') rfl q7⟩
  · obtain ⟨b1, b2, b3, b4⟩ := hB
    rw [ht] at b1 b2
    exact k ls H1 locs1 hl' ⟨b1, b2, (fun i q hi => by cases hi), hS1⟩
/-- the reference's constructor is called from the law -/
theorem y_callM {idx b : Nat} {rest : List Value} {pre : List va_E} {M2 : xMg} (o : yOk Γ M a [] R cc own) (hb : pre.length = b) (h2 : M2.1 = M.1 ∧ M2.2.2 = M.2.2) (hM : vMet Γ.1.2.1 yX12_init cX12_init 2 2 55 16845 M2 (a + b) [.ref (a + b)] [.inr (12, l_D12)] cs') (hlk : Cond.methodLink own idx yX12_init ∈ xWS) (hR : 2 + 1 ≤ R.frames ∧ 8 + (2 + 11) + 64 * 2 ≤ R.locals ∧ kc + 55 ≤ R.cells ∧ ks + 16845 ≤ R.slots) (hcat : (rest.map fun v => v.category).sum ≤ 8) (hd : decode cc pc = .ok (.invokespecial idx, 3))
    (k : ∀ (ls : Array Slot) (H : Heap) (locs : List Loc), xl ls Γ.2.2.2 L → va_P M.1 vwCl (ywl a pre) H → va_P M2.1 vwCl (ywl (a + b) cs') H → va_S (fun q => a ≤ q) Γ.1.2.2.2.2.1.heap H locs →
      W Γ.1.1 Γ.1.2.1 Γ.1.2.2.1 Γ.1.2.2.2.1 Γ.1.2.2.2.2.1 Γ.1.2.2.2.2.2.1 Γ.1.2.2.2.2.2.2.1 Γ.1.2.2.2.2.2.2.2.1 Γ.1.2.2.2.2.2.2.2.2.1 Γ.1.2.2.2.2.2.2.2.2.2 H locs (kc + 55) (ks + 16845) Γ.2.1 (F0 Γ.1.2.2.2.2.2.1 (pc + 3) ls rest)) : yAt Γ M a [] kc ks pc L (.ref (a + b) :: rest) (pre ++ [.inr (12, l_D12)]) := by
  subst hb
  intro ls H locs hl' hw
  obtain ⟨w1, w2, w3, w4⟩ := hw
  have hts := o.1.2.2.2.2
  have hG := y_good eX12_init
  obtain ⟨y1, y2, y3, y4, y5, y6, y7, y8⟩ := eX12_init
  have hRR := o.2.2.2.1
  rw [ywl_app] at w2
  have wp : va_P M.1 vwCl (ywl a pre) H := fun i q hi => w2 i q (by rw [List.getElem?_append_left (List.getElem?_eq_some_iff.mp hi).1]; exact hi)
  have wx : va_P M2.1 vwCl (ywl (a + pre.length) [.inr (12, l_D12)]) H := by
    rw [h2.1]
    exact fun i q hi => w2 ((ywl a pre).length + i) q (by rw [List.getElem?_append_right (by omega)]; simpa using hi)
  have hK2 : va_K M2.1 vwCl (xty M2) Γ.1.2.2.2.2.1 := by
    have e : xty M2 = xty M := by unfold xty; rw [h2.2]
    rw [e, h2.1]; exact o.2.1
  have hsz : H.size = a + pre.length + 1 := by rw [w1]; simp; omega
  refine va_callv (va_runI (As := []) (rest := rest) (b := a + pre.length) o.1 hM (cwI 0 hts hG rfl rfl rfl (hts _ y3) (hts _ hlk) (hts _ y2) y4 ⟨y5, y6, y7⟩ ⟨by rw [hRR]; exact hR.1, by rw [hRR]; exact hR.2.1⟩) ⟨?_, fun U hU hW => ⟨rfl, by rw [hU]; exact hsz, by rw [hU]; exact wx, (fun i q hi => by cases hi), va_K.moved hW.alike hK2, va_AO.moved hW.alike o.2.2.2.2.2⟩⟩ rfl rfl hl'.1 rfl (lv_room hcat) hd ⟨by rw [hRR]; exact hR.2.2.1, by rw [hRR]; exact hR.2.2.2⟩) w4 (fun q _ h => Nat.le_trans (Nat.le_add_right _ _) h) (fun q h => Nat.le_trans (Nat.le_add_right _ _) h) (fun u t H1 locs1 ht hvm hw1 hB hz1 hk1 hS1 => ?_)
  · intro a' U g mk q
    obtain ⟨q0, q1, q2, q3, q4, q5⟩ := q
    exact ⟨q0, q1, q2, q3, va_K.moved (u := U) (U := U.calling g mk a') (Vm.Alike.refl U.vm) q4, va_AO.moved (u := U) (U := U.calling g mk a') (Vm.Alike.refl U.vm) q5⟩
  · have b1 := hB.1
    rw [ht] at b1
    have hlow : ∀ q, q < a + pre.length → H1[q]? = H[q]? := fun q hq => hk1 q (by omega) (by omega)
    refine k ls H1 locs1 hl' (wp.kept (fun i q hq => hlow q.1 ?_)) b1 hS1
    rw [ywl_get] at hq
    cases hc : pre[i]? with
    | none => rw [hc] at hq; cases hq
    | some e =>
      rw [hc] at hq
      cases hq
      have := (List.getElem?_eq_some_iff.mp hc).1
      show a + i < a + pre.length
      omega
theorem c0_42 {g : Nat → Int32} : xct tC (cM M a) (cS0 g) 42 = .inl (M.2.2.2.2.2, 20, .inr (.inr (.inr (.inr (fun i => some (a + (44 + 5 * i))))))) := rfl
theorem cP1_n : (cP1 M a).length = 42 := rfl
theorem l_sv {H : Heap} {D : va_G} {g : Nat → Int32} (h : va_at D vwCl (a + 42, ySv M (a + 41 + 3) 20) H) : va_at D vwCl (a + 42, xct tC (cM M a) (cS0 g) 42) H := by
  rw [c0_42]
  have h1 : H[a + 42]? = some (arrV M.2.2.2.2.2 20 (fun j => va_rf (if j < 20 then some (a + 41 + 3 + 5 * j) else none))) := h
  show H[a + 42]? = some (arrV M.2.2.2.2.2 20 (fun j => va_rf (some (a + (44 + 5 * j)))))
  rw [h1]
  unfold arrV
  have e : (fun j : Fin 20 => va_rf (if j.val < 20 then some (a + 41 + 3 + 5 * j.val) else none)) = fun j : Fin 20 => va_rf (some (a + (44 + 5 * j.val))) := funext fun j => by
    rw [if_pos j.isLt, show a + 41 + 3 + 5 * j.val = a + (44 + 5 * j.val) by omega]
  rw [e]
theorem l_cells {H : Heap} {D : va_G} {f : Nat → Int32} {N : Nat} (h : va_P D vwCl (ywl a (cTS f N M a)) H) : va_P D vwCl (ywl a (xcs tC (cM M a) (cS0 (tkSt f N).2.2.2))) H := by
  rw [cTS_eq] at h
  rw [c0_all]
  intro i q hi
  by_cases c : i = 42
  · subst c
    have h1 := h 42 (a + 42, ySv M (a + 41 + 3) 20) (by rw [ywl_get, List.getElem?_append_right (by rw [cP1_n]; omega), cP1_n]; rfl)
    rw [ywl_get, List.getElem?_append_right (by rw [cP1_n]; omega), cP1_n] at hi
    cases hi
    exact l_sv h1
  · refine h i q ?_
    rw [ywl_get] at hi ⊢
    by_cases d : i < 42
    · rw [List.getElem?_append_left (by rw [cP1_n]; exact d)] at hi ⊢
      exact hi
    · rw [List.getElem?_append_right (by rw [cP1_n]; omega), cP1_n] at hi ⊢
      obtain ⟨j, hj⟩ : ∃ j, i - 42 = j + 1 := ⟨i - 43, by omega⟩
      rw [hj, List.getElem?_cons_succ] at hi ⊢
      exact hi
end Q9zt

