
def xFU : Nat := 60000
abbrev zOm : Type := xMg × xMg × (Nat → Prop) × (Nat → Prop)
def zW (Ω : zOm) (A0 : Nat → Prop) (H0 : Heap) (S1 S2 : xSt) (H : Heap) (locs : List Loc) : Prop := va_P Ω.1.1 vwCl (xwl tC Ω.1 S1) H ∧ va_P Ω.2.1.1 vwCl (xwl tM Ω.2.1 S2) H ∧ va_D Ω.2.2.1 (xwl tC Ω.1 S1) ∧ va_D Ω.2.2.2 (xwl tM Ω.2.1 S2) ∧ va_S A0 H0 H locs
def zAt (Γ : xGm) (Ω : zOm) (kc ks pc : Nat) (L : Nat → Option Value) (st : List Value) (S1 S2 : xSt) : Prop :=
  ∀ (ls : Array Slot) (H : Heap) (locs : List Loc), xl ls Γ.2.2.2 L → zW Ω Γ.2.2.1 Γ.1.2.2.2.2.1.heap S1 S2 H locs →
    W Γ.1.1 Γ.1.2.1 Γ.1.2.2.1 Γ.1.2.2.2.1 Γ.1.2.2.2.2.1 Γ.1.2.2.2.2.2.1 Γ.1.2.2.2.2.2.2.1 Γ.1.2.2.2.2.2.2.2.1 Γ.1.2.2.2.2.2.2.2.2.1 Γ.1.2.2.2.2.2.2.2.2.2 H locs kc ks Γ.2.1 (F0 Γ.1.2.2.2.2.2.1 pc ls st)
def zOk (Γ : xGm) (Ω : zOm) (kc ks b N : Nat) (xs : Nat → Int32) : Prop :=
  CallFix Γ.1.1 Γ.1.2.2.2.2.2.1 Γ.1.2.2.2.2.2.2.2.2.2 cL_law Γ.2.2.2 Γ.1.2.2.2.2.1 Γ.1.2.2.2.2.2.2.1 xWS RL ∧ va_K Ω.1.1 vwCl (xty Ω.1) Γ.1.2.2.2.2.1 ∧ va_K Ω.2.1.1 vwCl (xty Ω.2.1) Γ.1.2.2.2.2.1 ∧ (Γ.1.2.2.2.1 = room_1 ∧ kc ≤ 600000 ∧ ks ≤ 7302250) ∧ ((∀ q, Ω.2.2.1 q → Γ.2.2.1 q) ∧ (∀ q, Ω.2.2.2 q → Γ.2.2.1 q) ∧ (∀ q, Ω.2.2.1 q → Ω.2.2.2 q → False)) ∧ va_X b N xs Γ.1.2.2.2.2.1 Γ.1.2.2.2.2.1.heap ∧ b < Γ.1.2.2.2.2.1.heap.size ∧ ¬ Γ.2.2.1 b
theorem nI_k (i k : Nat) {v : Int32} (h : v = nI k) : nI i + v = nI (i + k) := by rw [h]; exact nI_add i k
theorem z_cwV {R : Room} {s : State} {args : Array Value} {own : String} {index n mL d' : Nat} {y : MethodName} {cc : ByteArray} {ret : Option FieldType} (ht : ∀ w ∈ xWS, w.before args s = true) (hc : xCal y cc mL ret n) (hl : Cond.methodLink own index y ∈ xWS) (hR : R = room_1) (hd : d' ≤ 1000) : CallW R s args own y.cls index y cc mL ret (Cond.code y cc mL ret :: xWS) (xrm d') 0 0 n := by
  obtain ⟨h1, h2, h3, h4, h5, h6, h7, h8⟩ := hc
  refine cwV n ht (fun w hw => ?_) rfl rfl rfl ⟨rfl, h5, h6, h7⟩ ?_
  · have hm : w ∈ xWS := by
      rcases List.mem_append.mp hw with h | h
      · rcases List.mem_cons.mp h with rfl | h
        · exact hl
        rcases List.mem_cons.mp h with rfl | h
        · exact h2
        rcases List.mem_cons.mp h with rfl | h
        · exact h3
        rcases List.mem_cons.mp h with rfl | h
        · exact h4
        cases h
      · rcases List.mem_cons.mp h with rfl | h
        · exact h1
        · exact h
    exact ⟨hm, xWS_good hm⟩
  · subst hR
    constructor
    · show d' + 1 ≤ 2048
      omega
    · show 8 + (mL + 11) + 64 * d' ≤ 84000
      omega
theorem z_preV {T : xTb} {M : xMg} {S : xSt} {s : State} {H : Heap} {A : Nat → Prop} {b c N : Nat} {C : String} {Tt : u_T} {tt : Nat → FieldType} {As : List Value} (hT : xTok T) (hK : va_K M.1 vwCl (xty M) s) (hP : va_P M.1 vwCl (xwl T M S) H) (hD : va_D A (xwl T M S)) (hc : xCls c C Tt N tt) (hb : T.1 b = c) : PreV s H C (M.2.1 b) (va_Pc (.ref (M.2.1 b) :: As) (fun U => xB T M A S U)) As := by
  obtain ⟨h1, h2, h3, h4, h5, h6⟩ := hc
  obtain ⟨p, hp, -⟩ := x_at hT M S (k := b) (by rw [hb]; omega)
  rw [x_obj hb h4 h3] at hp
  exact ⟨x_blind, va_recv hK hP h1 hp, fun U hU hW => ⟨rfl, by rw [hU]; exact hP, va_K.moved hW.alike hK, hD⟩⟩
theorem z_kept {D : va_G} {ws : va_W} {H H1 : Heap} {A1 A2 : Nat → Prop} (hP : va_P D vwCl ws H) (hD : va_D A2 ws) (hx : ∀ q, A1 q → A2 q → False) (hk : ∀ q : Nat, q < H.size → ¬ A1 q → H1[q]? = H[q]?) : va_P D vwCl ws H1 :=
  hP.kept (fun k q hq => hk q.1 ((hP k q hq).lt) (fun h => hx q.1 h (hD.2 k q hq)))
section ZR
variable {Γ : xGm} {Ω : zOm} {kc ks pc b N : Nat} {xs : Nat → Int32} {L : Nat → Option Value} {st : List Value} {S1 S2 : xSt}
theorem z_iconst (o : zOk Γ Ω kc ks b N xs) {n : Int} {v : Int32} (hd : decode cL_law pc = .ok (.iconst n, 1)) (hv : Int32.ofInt n = v) (k : zAt Γ Ω kc ks (pc + 1) L (.int v :: st) S1 S2) : zAt Γ Ω kc ks pc L st S1 S2 :=
  fun ls H locs hl hw => lv_iconst o.1.1 o.1.2.1 hd hv (k ls H locs hl hw)
theorem z_bipush (o : zOk Γ Ω kc ks b N xs) {n : Int} {v : Int32} (hd : decode cL_law pc = .ok (.bipush n, 2)) (hv : (Int8.ofInt n).toInt32 = v) (k : zAt Γ Ω kc ks (pc + 2) L (.int v :: st) S1 S2) : zAt Γ Ω kc ks pc L st S1 S2 :=
  fun ls H locs hl hw => lv_bipush o.1.1 o.1.2.1 hd hv (k ls H locs hl hw)
theorem z_iload_n (o : zOk Γ Ω kc ks b N xs) {q : Fin 4} {i : Nat} {x : Int32} (hd : decode cL_law pc = .ok (.iload_n q, 1)) (hi : (q : Nat) = i) (hx : L i = some (.int x)) (k : zAt Γ Ω kc ks (pc + 1) L (.int x :: st) S1 S2) : zAt Γ Ω kc ks pc L st S1 S2 :=
  fun ls H locs hl hw => lv_iload_n o.1.1 o.1.2.1 hd hi (hl.2.2 _ _ hx) (k ls H locs hl hw)
theorem z_aload_n (o : zOk Γ Ω kc ks b N xs) {q : Fin 4} {i : Nat} {x : Nat} (hd : decode cL_law pc = .ok (.aload_n q, 1)) (hi : (q : Nat) = i) (hx : L i = some (.ref x)) (k : zAt Γ Ω kc ks (pc + 1) L (.ref x :: st) S1 S2) : zAt Γ Ω kc ks pc L st S1 S2 :=
  fun ls H locs hl hw => lv_aload_n o.1.1 o.1.2.1 hd hi (hl.2.2 _ _ hx) (k ls H locs hl hw)
theorem z_iadd (o : zOk Γ Ω kc ks b N xs) {x y : Int32} (hd : decode cL_law pc = .ok (.iadd, 1)) (k : zAt Γ Ω kc ks (pc + 1) L (.int (x + y) :: st) S1 S2) : zAt Γ Ω kc ks pc L (.int y :: .int x :: st) S1 S2 :=
  fun ls H locs hl hw => lv_iadd o.1.1 o.1.2.1 hd (k ls H locs hl hw)
theorem z_isub (o : zOk Γ Ω kc ks b N xs) {x y : Int32} (hd : decode cL_law pc = .ok (.isub, 1)) (k : zAt Γ Ω kc ks (pc + 1) L (.int (x - y) :: st) S1 S2) : zAt Γ Ω kc ks pc L (.int y :: .int x :: st) S1 S2 :=
  fun ls H locs hl hw => lv_isub o.1.1 o.1.2.1 hd (k ls H locs hl hw)
theorem z_iand (o : zOk Γ Ω kc ks b N xs) {x y : Int32} (hd : decode cL_law pc = .ok (.iand, 1)) (k : zAt Γ Ω kc ks (pc + 1) L (.int (x &&& y) :: st) S1 S2) : zAt Γ Ω kc ks pc L (.int y :: .int x :: st) S1 S2 :=
  fun ls H locs hl hw => lv_iand o.1.1 o.1.2.1 hd (k ls H locs hl hw)
theorem z_iinc (o : zOk Γ Ω kc ks b N xs) {i : Nat} {n : Int} {x v : Int32} (hd : decode cL_law pc = .ok (.iinc i n, 3)) (hx : L i = some (.int x)) (hv : x + Int32.ofInt n = v) (hn : i < Γ.2.2.2) (k : zAt Γ Ω kc ks (pc + 3) (xup L i (.int v)) st S1 S2) : zAt Γ Ω kc ks pc L st S1 S2 := by
  intro ls H locs hl hw
  obtain ⟨kk, hk⟩ := List.getElem?_of_mem (x_in hl hx)
  exact lv_iinc o.1.1 o.1.2.1 hd (x_has hl) hk hv hn rfl (fun ls' h' => k ls' H locs (x_st1 hl h') hw)
theorem z_goto (o : zOk Γ Ω kc ks b N xs) {off : Int} {tgt : Nat} (hd : decode cL_law pc = .ok (.goto off, 3)) (ht : (pc : Int) + off = (tgt : Int)) (k : zAt Γ Ω kc ks tgt L st S1 S2) : zAt Γ Ω kc ks pc L st S1 S2 :=
  fun ls H locs hl hw => lv_goto o.1.1 o.1.2.1 hd ht (k ls H locs hl hw)
theorem z_icmp_gt (o : zOk Γ Ω kc ks b N xs) {x y : Int32} {off : Int} {tgt : Nat} (hd : decode cL_law pc = .ok (.if_icmp .gt off, 3)) (ht : (pc : Int) + off = (tgt : Int)) (kt : y < x → zAt Γ Ω kc ks tgt L st S1 S2) (kf : ¬ y < x → zAt Γ Ω kc ks (pc + 3) L st S1 S2) : zAt Γ Ω kc ks pc L (.int y :: .int x :: st) S1 S2 :=
  fun ls H locs hl hw => lv_icmp_gt o.1.1 o.1.2.1 hd ht (fun h => kt h ls H locs hl hw) (fun h => kf h ls H locs hl hw)
theorem z_icmp_eq (o : zOk Γ Ω kc ks b N xs) {x : Int32} {off : Int} {tgt : Nat} (hd : decode cL_law pc = .ok (.if_icmp .eq off, 3)) (ht : (pc : Int) + off = (tgt : Int)) (kt : zAt Γ Ω kc ks tgt L st S1 S2) : zAt Γ Ω kc ks pc L (.int x :: .int x :: st) S1 S2 :=
  fun ls H locs hl hw => lv_icmp_eq o.1.1 o.1.2.1 hd ht (fun _ => kt ls H locs hl hw) (fun h => absurd rfl h)
theorem z_tableOut (o : zOk Γ Ω kc ks b N xs) {dflt lo hi : Int} {offs : Array Int} {len : Nat} {x : Int32} {tgt : Nat} (hd : decode cL_law pc = .ok (.tableswitch dflt lo hi offs, len)) (h : x.toInt < lo ∨ hi < x.toInt) (ht : (pc : Int) + dflt = (tgt : Int)) (k : zAt Γ Ω kc ks tgt L st S1 S2) : zAt Γ Ω kc ks pc L (.int x :: st) S1 S2 :=
  fun ls H locs hl hw => lv_tableOut o.1.1 o.1.2.1 hd h ht (k ls H locs hl hw)
theorem z_tableIn (o : zOk Γ Ω kc ks b N xs) {dflt lo hi : Int} {offs : Array Int} {len : Nat} {x : Int32} {off : Int} {tgt : Nat} (hd : decode cL_law pc = .ok (.tableswitch dflt lo hi offs, len)) (h1 : ¬ x.toInt < lo) (h2 : ¬ hi < x.toInt) (ho : offs[(x.toInt - lo).toNat]? = some off) (ht : (pc : Int) + off = (tgt : Int)) (k : zAt Γ Ω kc ks tgt L st S1 S2) : zAt Γ Ω kc ks pc L (.int x :: st) S1 S2 :=
  fun ls H locs hl hw => lv_tableIn o.1.1 o.1.2.1 hd h1 h2 ho ht (k ls H locs hl hw)
theorem z_slen (o : zOk Γ Ω kc ks b N xs) (hd : decode cL_law pc = .ok (.arraylength, 1)) (k : zAt Γ Ω kc ks (pc + 1) L (.int (Int32.ofNat N) :: st) S1 S2) : zAt Γ Ω kc ks pc L (.ref b :: st) S1 S2 :=
  fun ls H locs hl hw => va_slen o.1.1 o.1.2.1 o.2.2.2.2.2.1 o.2.2.2.2.2.2.1 o.2.2.2.2.2.2.2 hw.2.2.2.2 hd (k ls H locs hl hw)
theorem z_sld (o : zOk Γ Ω kc ks b N xs) {v : Int32} {j : Nat} (hd : decode cL_law pc = .ok (.iaload, 1)) (hv : v = nI j) (hj : j < N) (hN : N ≤ 3072) (k : zAt Γ Ω kc ks (pc + 1) L (.int (xs j) :: st) S1 S2) : zAt Γ Ω kc ks pc L (.int v :: .ref b :: st) S1 S2 := by
  intro ls H locs hl hw
  subst hv
  have h := k ls H locs hl hw
  refine va_sld o.1.1 o.1.2.1 o.2.2.2.2.2.1 o.2.2.2.2.2.2.1 o.2.2.2.2.2.2.2 hw.2.2.2.2 (vp_in_nI hj (by omega)) hd ?_
  rw [nI_clamp (by omega)]
  exact h
theorem z_to {l : List (Nat × Value)} (h : xall L l) (k : zAt Γ Ω kc ks pc (xlv l) st S1 S2) : zAt Γ Ω kc ks pc L st S1 S2 :=
  fun ls H locs hl hw => k ls H locs ⟨hl.1, hl.2.1, fun i v hi => hl.2.2 i v (xall_get h hi)⟩ hw
theorem z_callC {y : MethodName} {cc' : ByteArray} {mL d' n idx c N' k0 : Nat} {ret : Option FieldType} {Tt : u_T} {tt : Nat → FieldType} {As rest : List Value} {r : Int32} {S1' : xSt} (o : zOk Γ Ω kc ks b N xs) (hM : xMI Γ.1.2.1 y cc' mL ret d' tC Ω.1 Ω.2.2.1 (.ref (Ω.1.2.1 k0) :: As) S1 r S1') (hy : xCal y cc' mL ret n) (hlk : Cond.methodLink RL idx y ∈ xWS) (hcl : xCls c y.cls Tt N' tt) (hb : tC.1 k0 = c) (hd' : d' ≤ 1000) (hn : As.length = n) (hst : st = As.reverse ++ .ref (Ω.1.2.1 k0) :: rest) (hcat : (rest.map fun v => v.category).sum ≤ 8) (hd : decode cL_law pc = .ok (.invokevirtual idx, 3)) (k : zAt Γ Ω kc ks (pc + 3) L (.int r :: rest) S1' S2) : zAt Γ Ω kc ks pc L st S1 S2 := by
  intro ls H locs hl' hw
  obtain ⟨hP1, hP2, hD1, hD2, hS⟩ := hw
  have hc := z_cwV o.1.2.2.2.2 hy hlk o.2.2.2.1.1 hd'
  refine va_calli (va_runV (As := As) (rest := rest) o.1 hM hc (z_preV tC_ok o.2.1 hP1 hD1 hcl hb) rfl hn hl'.1 hst (lv_room hcat) hd ⟨by rw [o.2.2.2.1.1]; exact o.2.2.2.1.2.1, by rw [o.2.2.2.1.1]; exact o.2.2.2.1.2.2⟩) hS (fun q _ h => o.2.2.2.2.1.1 q h) (fun q h => o.2.2.2.2.1.1 q h) (fun r1 u t H1 locs1 ht hvm hw1 hB hz1 hk1 hS1 => ?_)
  obtain ⟨rfl, rfl⟩ := hw1
  obtain ⟨hP1', hK1, hD1'⟩ := hB
  rw [ht] at hP1'
  exact k ls H1 locs1 hl' ⟨hP1', z_kept hP2 hD2 o.2.2.2.2.1.2.2 hk1, hD1', hD2, hS1⟩
theorem z_callM {y : MethodName} {cc' : ByteArray} {mL d' n idx c N' k0 : Nat} {ret : Option FieldType} {Tt : u_T} {tt : Nat → FieldType} {As rest : List Value} {r : Int32} {S2' : xSt} (o : zOk Γ Ω kc ks b N xs) (hM : xMI Γ.1.2.1 y cc' mL ret d' tM Ω.2.1 Ω.2.2.2 (.ref (Ω.2.1.2.1 k0) :: As) S2 r S2') (hy : xCal y cc' mL ret n) (hlk : Cond.methodLink RL idx y ∈ xWS) (hcl : xCls c y.cls Tt N' tt) (hb : tM.1 k0 = c) (hd' : d' ≤ 1000) (hn : As.length = n) (hst : st = As.reverse ++ .ref (Ω.2.1.2.1 k0) :: rest) (hcat : (rest.map fun v => v.category).sum ≤ 8) (hd : decode cL_law pc = .ok (.invokevirtual idx, 3)) (k : zAt Γ Ω kc ks (pc + 3) L (.int r :: rest) S1 S2') : zAt Γ Ω kc ks pc L st S1 S2 := by
  intro ls H locs hl' hw
  obtain ⟨hP1, hP2, hD1, hD2, hS⟩ := hw
  have hc := z_cwV o.1.2.2.2.2 hy hlk o.2.2.2.1.1 hd'
  refine va_calli (va_runV (As := As) (rest := rest) o.1 hM hc (z_preV tM_ok o.2.2.1 hP2 hD2 hcl hb) rfl hn hl'.1 hst (lv_room hcat) hd ⟨by rw [o.2.2.2.1.1]; exact o.2.2.2.1.2.1, by rw [o.2.2.2.1.1]; exact o.2.2.2.1.2.2⟩) hS (fun q _ h => o.2.2.2.2.1.2.1 q h) (fun q h => o.2.2.2.2.1.2.1 q h) (fun r1 u t H1 locs1 ht hvm hw1 hB hz1 hk1 hS1 => ?_)
  obtain ⟨rfl, rfl⟩ := hw1
  obtain ⟨hP2', hK1, hD2'⟩ := hB
  rw [ht] at hP2'
  exact k ls H1 locs1 hl' ⟨z_kept hP1 hD1 (fun q h1 h2 => o.2.2.2.2.1.2.2 q h2 h1) hk1, hP2', hD1, hD2', hS1⟩
end ZR
/-- what is asked of the pure functions at case 0 of the law: feed -/
def xEq0 (Rel : xSt → xSt → Prop) : Prop := (∀ (S1 S2 : xSt), Rel S1 S2 → ∀ a1 a2 a3 a4 a5 : Int32, ∃ (r : Int32) (S1' : xSt) (S2' : xSt), fX11_feed xFU 0 a1 a2 a3 a4 a5 S1 = some (r, S1') ∧ fX12_feed xFU 0 a1 a2 a3 a4 a5 S2 = some (r, S2') ∧ Rel S1' S2')
/-- what is asked of the pure functions at case 1 of the law: end -/
def xEq1 (Rel : xSt → xSt → Prop) : Prop := (∀ (S1 S2 : xSt), Rel S1 S2 → ∀ a1 : Int32, ∃ (r : Int32) (S1' : xSt) (S2' : xSt), fX11_end 0 a1 S1 = some (r, S1') ∧ fX12_end 0 a1 S2 = some (r, S2') ∧ Rel S1' S2')
/-- what is asked of the pure functions at case 2 of the law: year -/
def xEq2 (Rel : xSt → xSt → Prop) : Prop := (∀ (S1 S2 : xSt), Rel S1 S2 → ∃ (r : Int32) (S1' : xSt) (S2' : xSt), fX11_year xFU 0 S1 = some (r, S1') ∧ fX12_year xFU 0 S2 = some (r, S2') ∧ Rel S1' S2')
/-- what is asked of the pure functions at case 3 of the law: fault -/
def xEq3 (Rel : xSt → xSt → Prop) : Prop := (∀ (S1 S2 : xSt), Rel S1 S2 → ∀ a1 : Int32, ∃ (r : Int32), fX11_fault 0 a1 S1 = some r ∧ fX12_fault 0 a1 S2 = some r ∧ Rel S1 S2)
/-- what is asked of the pure functions at case 4 of the law: has -/
def xEq4 (Rel : xSt → xSt → Prop) : Prop := (∀ (S1 S2 : xSt), Rel S1 S2 → ∀ a1 : Int32, ∃ (r : Int32), fX11_has xFU 0 a1 S1 = some r ∧ fX12_has xFU 0 a1 S2 = some r ∧ Rel S1 S2)
/-- what is asked of the pure functions at case 5 of the law: letter -/
def xEq5 (Rel : xSt → xSt → Prop) : Prop := (∀ (S1 S2 : xSt), Rel S1 S2 → ∀ a1 a2 a3 : Int32, ∃ (r : Int32), fX11_letter 0 a1 a2 a3 S1 = some r ∧ fX12_letter xFU 0 a1 a2 a3 S2 = some r ∧ Rel S1 S2)
/-- what is asked of the pure functions at case 6 of the law: kind -/
def xEq6 (Rel : xSt → xSt → Prop) : Prop := (∀ (S1 S2 : xSt), Rel S1 S2 → ∀ a1 a2 : Int32, ∃ (r : Int32), fX11_kind xFU 0 a1 a2 S1 = some r ∧ fX12_kind xFU 0 a1 a2 S2 = some r ∧ Rel S1 S2)
/-- what is asked of the pure functions at case 7 of the law: tool -/
def xEq7 (Rel : xSt → xSt → Prop) : Prop := (∀ (S1 S2 : xSt), Rel S1 S2 → ∀ a1 a2 : Int32, ∃ (r : Int32), fX11_tool 0 a1 a2 S1 = some r ∧ fX12_tool 0 a1 a2 S2 = some r ∧ Rel S1 S2)
/-- what is asked of the pure functions at case 8 of the law: knows -/
def xEq8 (Rel : xSt → xSt → Prop) : Prop := (∀ (S1 S2 : xSt), Rel S1 S2 → ∀ a1 a2 : Int32, ∃ (r : Int32), fX11_knows 0 a1 a2 S1 = some r ∧ fX12_knows 0 a1 a2 S2 = some r ∧ Rel S1 S2)
/-- what is asked of the pure functions at case 9 of the law: job -/
def xEq9 (Rel : xSt → xSt → Prop) : Prop := (∀ (S1 S2 : xSt), Rel S1 S2 → ∀ a1 a2 : Int32, ∃ (r : Int32), fX11_job 0 a1 a2 S1 = some r ∧ fX12_job 0 a1 a2 S2 = some r ∧ Rel S1 S2)
/-- what is asked of the pure functions at case 10 of the law: later -/
def xEq10 (Rel : xSt → xSt → Prop) : Prop := (∀ (S1 S2 : xSt), Rel S1 S2 → ∀ a1 a2 : Int32, ∃ (r : Int32) (S1' : xSt) (S2' : xSt), fX11_later xFU 0 a1 a2 S1 = some (r, S1') ∧ fX12_later xFU 0 a1 a2 S2 = some (r, S2') ∧ Rel S1' S2')
/-- what is asked of the pure functions at case 11 of the law: done -/
def xEq11 (Rel : xSt → xSt → Prop) : Prop := (∀ (S1 S2 : xSt), Rel S1 S2 → ∀ a1 : Int32, ∃ (r : Int32) (S1' : xSt) (S2' : xSt), fX11_done xFU 0 a1 S1 = some (r, S1') ∧ fX12_done xFU 0 a1 S2 = some (r, S2') ∧ Rel S1' S2')
/-- what is asked of the pure functions at case 12 of the law: late -/
def xEq12 (Rel : xSt → xSt → Prop) : Prop := (∀ (S1 S2 : xSt), Rel S1 S2 → ∀ a1 : Int32, ∃ (r : Int32) (S1' : xSt) (S2' : xSt), fX11_late xFU 0 a1 S1 = some (r, S1') ∧ fX12_late xFU 0 a1 S2 = some (r, S2') ∧ Rel S1' S2')
/-- what is asked of the pure functions at case 13 of the law: order -/
def xEq13 (Rel : xSt → xSt → Prop) : Prop := (∀ (S1 S2 : xSt), Rel S1 S2 → ∀ a1 a2 : Int32, ∃ (r : Int32) (S1' : xSt) (S2' : xSt), fX11_order xFU 0 a1 a2 S1 = some (r, S1') ∧ fX12_order xFU 0 a1 a2 S2 = some (r, S2') ∧ Rel S1' S2')
/-- what is asked of the pure functions at case 14 of the law: moved -/
def xEq14 (Rel : xSt → xSt → Prop) : Prop := (∀ (S1 S2 : xSt), Rel S1 S2 → ∀ a1 a2 : Int32, ∃ (r : Int32) (S1' : xSt) (S2' : xSt), fX11_moved xFU 0 a1 a2 S1 = some (r, S1') ∧ fX12_moved xFU 0 a1 a2 S2 = some (r, S2') ∧ Rel S1' S2')
/-- what is asked of the pure functions at case 15 of the law: makeshift -/
def xEq15 (Rel : xSt → xSt → Prop) : Prop := (∀ (S1 S2 : xSt), Rel S1 S2 → ∀ a1 a2 a3 : Int32, ∃ (r : Int32) (S1' : xSt) (S2' : xSt), fX11_makeshift xFU 0 a1 a2 a3 S1 = some (r, S1') ∧ fX12_makeshift xFU 0 a1 a2 a3 S2 = some (r, S2') ∧ Rel S1' S2')
/-- what is asked of the pure functions at case 16 of the law: hangs -/
def xEq16 (Rel : xSt → xSt → Prop) : Prop := (∀ (S1 S2 : xSt), Rel S1 S2 → ∀ a1 a2 : Int32, ∃ (r : Int32) (S1' : xSt) (S2' : xSt), fX11_hangs xFU 0 a1 a2 S1 = some (r, S1') ∧ fX12_hangs xFU 0 a1 a2 S2 = some (r, S2') ∧ Rel S1' S2')
/-- what is asked of the pure functions at case 17 of the law: guard -/
def xEq17 (Rel : xSt → xSt → Prop) : Prop := (∀ (S1 S2 : xSt), Rel S1 S2 → ∀ a1 a2 : Int32, ∃ (r : Int32) (S1' : xSt) (S2' : xSt), fX11_guard xFU 0 a1 a2 S1 = some (r, S1') ∧ fX12_guard xFU 0 a1 a2 S2 = some (r, S2') ∧ Rel S1' S2')
/-- what is asked of the pure functions at case 18 of the law: loan -/
def xEq18 (Rel : xSt → xSt → Prop) : Prop := (∀ (S1 S2 : xSt), Rel S1 S2 → ∀ a1 a2 : Int32, ∃ (r : Int32) (S1' : xSt) (S2' : xSt), fX11_loan xFU 0 a1 a2 S1 = some (r, S1') ∧ fX12_loan xFU 0 a1 a2 S2 = some (r, S2') ∧ Rel S1' S2')
/-- what is asked of the pure functions at case 19 of the law: shavings -/
def xEq19 (Rel : xSt → xSt → Prop) : Prop := (∀ (S1 S2 : xSt), Rel S1 S2 → ∃ (r : Int32) (S1' : xSt) (S2' : xSt), fX11_shavings xFU 0 S1 = some (r, S1') ∧ fX12_shavings xFU 0 S2 = some (r, S2') ∧ Rel S1' S2')
/-- what is asked of the pure functions at case 20 of the law: when -/
def xEq20 (Rel : xSt → xSt → Prop) : Prop := (∀ (S1 S2 : xSt), Rel S1 S2 → ∀ a1 : Int32, ∃ (r : Int32), fX11_when 0 a1 S1 = some r ∧ fX12_when 0 a1 S2 = some r ∧ Rel S1 S2)
/-- what is asked of the pure functions at case 21 of the law: days -/
def xEq21 (Rel : xSt → xSt → Prop) : Prop := (∀ (S1 S2 : xSt), Rel S1 S2 → ∀ a1 : Int32, ∃ (r : Int32) (S1' : xSt) (S2' : xSt), fX11_days xFU 0 a1 S1 = some (r, S1') ∧ fX12_days xFU 0 a1 S2 = some (r, S2') ∧ Rel S1' S2')
/-- what is asked of the pure functions at case 22 of the law: chance -/
def xEq22 (Rel : xSt → xSt → Prop) : Prop := (∀ (S1 S2 : xSt), Rel S1 S2 → ∀ a1 : Int32, ∃ (r : Int32) (S1' : xSt) (S2' : xSt), fX11_chance xFU 0 a1 S1 = some (r, S1') ∧ fX12_chance xFU 0 a1 S2 = some (r, S2') ∧ Rel S1' S2')
/-- what is asked of the pure functions at case 23 of the law: hold -/
def xEq23 (Rel : xSt → xSt → Prop) : Prop := (∀ (S1 S2 : xSt), Rel S1 S2 → ∀ a1 a2 : Int32, ∃ (r : Int32) (S1' : xSt) (S2' : xSt), fX11_hold 0 a1 a2 S1 = some (r, S1') ∧ fX12_hold xFU 0 a1 a2 S2 = some (r, S2') ∧ Rel S1' S2')
/-- what is asked of the pure functions at case 24 of the law: swap -/
def xEq24 (Rel : xSt → xSt → Prop) : Prop := (∀ (S1 S2 : xSt), Rel S1 S2 → ∀ a1 a2 : Int32, ∃ (r : Int32) (S1' : xSt) (S2' : xSt), fX11_swap xFU 0 a1 a2 S1 = some (r, S1') ∧ fX12_swap xFU 0 a1 a2 S2 = some (r, S2') ∧ Rel S1' S2')
/-- what is asked of the pure functions at case 25 of the law: due -/
def xEq25 (Rel : xSt → xSt → Prop) : Prop := (∀ (S1 S2 : xSt), Rel S1 S2 → ∀ a1 a2 : Int32, ∃ (r : Int32) (S1' : xSt) (S2' : xSt), fX11_due 0 a1 a2 S1 = some (r, S1') ∧ fX12_due xFU 0 a1 a2 S2 = some (r, S2') ∧ Rel S1' S2')
/-- what is asked of the pure functions at case 26 of the law: undo -/
def xEq26 (Rel : xSt → xSt → Prop) : Prop := (∀ (S1 S2 : xSt), Rel S1 S2 → ∃ (r : Int32) (S1' : xSt) (S2' : xSt), fX11_undo 0 S1 = some (r, S1') ∧ fX12_undo xFU 0 S2 = some (r, S2') ∧ Rel S1' S2')
/-- what is asked of the pure functions at case 27 of the law: seed -/
def xEq27 (Rel : xSt → xSt → Prop) : Prop := (∀ (S1 S2 : xSt), Rel S1 S2 → ∀ a1 : Int32, ∃ (r : Int32) (S1' : xSt) (S2' : xSt), fX11_seed 0 a1 S1 = some (r, S1') ∧ fX12_seed 0 a1 S2 = some (r, S2') ∧ Rel S1' S2')
/-- what is asked of the pure functions at case 28 of the law: kept -/
def xEq28 (Rel : xSt → xSt → Prop) : Prop := (∀ (S1 S2 : xSt), Rel S1 S2 → ∀ a1 a2 : Int32, ∃ (r : Int32), fX11_kept 0 a1 a2 S1 = some r ∧ fX12_kept 0 a1 a2 S2 = some r ∧ Rel S1 S2)
/-- what is asked of the pure functions at case 29 of the law: image -/
def xEq29 (Rel : xSt → xSt → Prop) : Prop := (∀ (S1 S2 : xSt), Rel S1 S2 → ∃ (r : Int32) (S1' : xSt) (S2' : xSt), fX11_image xFU 0 S1 = some (r, S1') ∧ fX12_image xFU 0 S2 = some (r, S2') ∧ Rel S1' S2')
/-- what is asked of the pure functions at case 30 of the law: octet -/
def xEq30 (Rel : xSt → xSt → Prop) : Prop := (∀ (S1 S2 : xSt), Rel S1 S2 → ∀ a1 : Int32, ∃ (r : Int32), fX11_octet 0 a1 S1 = some r ∧ fX12_octet 0 a1 S2 = some r ∧ Rel S1 S2)
/-- what is asked of the pure functions at case 31 of the law: on -/
def xEq31 (Rel : xSt → xSt → Prop) : Prop := (∀ (S1 S2 : xSt), Rel S1 S2 → ∃ (r : Int32) (S1' : xSt) (S2' : xSt), fX11_on xFU 0 S1 = some (r, S1') ∧ fX12_on xFU 0 S2 = some (r, S2') ∧ Rel S1' S2')
/-- what is asked of the pure functions at case 32 of the law: status -/
def xEq32 (Rel : xSt → xSt → Prop) : Prop := (∀ (S1 S2 : xSt), Rel S1 S2 → ∀ a1 : Int32, ∃ (r : Int32), fX11_status 0 a1 S1 = some r ∧ fX12_status 0 a1 S2 = some r ∧ Rel S1 S2)
def xEq (Rel : xSt → xSt → Prop) : Prop := xEq0 Rel ∧ xEq1 Rel ∧ xEq2 Rel ∧ xEq3 Rel ∧ xEq4 Rel ∧ xEq5 Rel ∧ xEq6 Rel ∧ xEq7 Rel ∧ xEq8 Rel ∧ xEq9 Rel ∧ xEq10 Rel ∧ xEq11 Rel ∧ xEq12 Rel ∧ xEq13 Rel ∧ xEq14 Rel ∧ xEq15 Rel ∧ xEq16 Rel ∧ xEq17 Rel ∧ xEq18 Rel ∧ xEq19 Rel ∧ xEq20 Rel ∧ xEq21 Rel ∧ xEq22 Rel ∧ xEq23 Rel ∧ xEq24 Rel ∧ xEq25 Rel ∧ xEq26 Rel ∧ xEq27 Rel ∧ xEq28 Rel ∧ xEq29 Rel ∧ xEq30 Rel ∧ xEq31 Rel ∧ xEq32 Rel
theorem mL_13 : Cond.methodLink RL 13 yX11_feed ∈ xWS := xWS_in (inC3 (List.mem_of_getElem? (i := 105) (by decide +kernel))) (by decide +kernel)
theorem mL_17 : Cond.methodLink RL 17 yX12_feed ∈ xWS := xWS_in (inC7 (List.mem_of_getElem? (i := 200) (by decide +kernel))) (by decide +kernel)
theorem mL_18 : Cond.methodLink RL 18 yX11_end ∈ xWS := xWS_in (inC3 (List.mem_of_getElem? (i := 117) (by decide +kernel))) (by decide +kernel)
theorem mL_22 : Cond.methodLink RL 22 yX12_end ∈ xWS := xWS_in (inC7 (List.mem_of_getElem? (i := 212) (by decide +kernel))) (by decide +kernel)
theorem mL_23 : Cond.methodLink RL 23 yX11_year ∈ xWS := xWS_in (inC3 (List.mem_of_getElem? (i := 125) (by decide +kernel))) (by decide +kernel)
theorem mL_27 : Cond.methodLink RL 27 yX12_year ∈ xWS := xWS_in (inC7 (List.mem_of_getElem? (i := 216) (by decide +kernel))) (by decide +kernel)
theorem mL_28 : Cond.methodLink RL 28 yX11_fault ∈ xWS := xWS_in (inC4 (List.mem_of_getElem? (i := 173) (by decide +kernel))) (by decide +kernel)
theorem mL_32 : Cond.methodLink RL 32 yX12_fault ∈ xWS := xWS_in (inC8 (List.mem_of_getElem? (i := 174) (by decide +kernel))) (by decide +kernel)
theorem mL_33 : Cond.methodLink RL 33 yX11_has ∈ xWS := xWS_in (inC4 (List.mem_of_getElem? (i := 177) (by decide +kernel))) (by decide +kernel)
theorem mL_36 : Cond.methodLink RL 36 yX12_has ∈ xWS := xWS_in (inC8 (List.mem_of_getElem? (i := 194) (by decide +kernel))) (by decide +kernel)
theorem mL_37 : Cond.methodLink RL 37 yX11_letter ∈ xWS := xWS_in (inC4 (List.mem_of_getElem? (i := 210) (by decide +kernel))) (by decide +kernel)
theorem mL_41 : Cond.methodLink RL 41 yX12_letter ∈ xWS := xWS_in (inC8 (List.mem_of_getElem? (i := 217) (by decide +kernel))) (by decide +kernel)
theorem mL_42 : Cond.methodLink RL 42 yX11_kind ∈ xWS := xWS_in (inC4 (List.mem_of_getElem? (i := 223) (by decide +kernel))) (by decide +kernel)
theorem mL_46 : Cond.methodLink RL 46 yX12_kind ∈ xWS := xWS_in (inC8 (List.mem_of_getElem? (i := 222) (by decide +kernel))) (by decide +kernel)
theorem mL_47 : Cond.methodLink RL 47 yX11_tool ∈ xWS := xWS_in (inC4 (List.mem_of_getElem? (i := 238) (by decide +kernel))) (by decide +kernel)
theorem mL_50 : Cond.methodLink RL 50 yX12_tool ∈ xWS := xWS_in (inC9 (List.mem_of_getElem? (i := 2) (by decide +kernel))) (by decide +kernel)
theorem mL_51 : Cond.methodLink RL 51 yX11_knows ∈ xWS := xWS_in (inC5 (List.mem_of_getElem? (i := 2) (by decide +kernel))) (by decide +kernel)
theorem mL_54 : Cond.methodLink RL 54 yX12_knows ∈ xWS := xWS_in (inC9 (List.mem_of_getElem? (i := 10) (by decide +kernel))) (by decide +kernel)
theorem mL_55 : Cond.methodLink RL 55 yX11_job ∈ xWS := xWS_in (inC5 (List.mem_of_getElem? (i := 10) (by decide +kernel))) (by decide +kernel)
theorem mL_58 : Cond.methodLink RL 58 yX12_job ∈ xWS := xWS_in (inC9 (List.mem_of_getElem? (i := 22) (by decide +kernel))) (by decide +kernel)
theorem mL_59 : Cond.methodLink RL 59 yX11_later ∈ xWS := xWS_in (inC5 (List.mem_of_getElem? (i := 26) (by decide +kernel))) (by decide +kernel)
theorem mL_62 : Cond.methodLink RL 62 yX12_later ∈ xWS := xWS_in (inC9 (List.mem_of_getElem? (i := 30) (by decide +kernel))) (by decide +kernel)
theorem mL_63 : Cond.methodLink RL 63 yX11_done ∈ xWS := xWS_in (inC5 (List.mem_of_getElem? (i := 131) (by decide +kernel))) (by decide +kernel)
theorem mL_66 : Cond.methodLink RL 66 yX12_done ∈ xWS := xWS_in (inC9 (List.mem_of_getElem? (i := 98) (by decide +kernel))) (by decide +kernel)
theorem mL_67 : Cond.methodLink RL 67 yX11_late ∈ xWS := xWS_in (inC5 (List.mem_of_getElem? (i := 141) (by decide +kernel))) (by decide +kernel)
theorem mL_70 : Cond.methodLink RL 70 yX12_late ∈ xWS := xWS_in (inC9 (List.mem_of_getElem? (i := 102) (by decide +kernel))) (by decide +kernel)
theorem mL_71 : Cond.methodLink RL 71 yX11_order ∈ xWS := xWS_in (inC5 (List.mem_of_getElem? (i := 149) (by decide +kernel))) (by decide +kernel)
theorem mL_74 : Cond.methodLink RL 74 yX12_order ∈ xWS := xWS_in (inC9 (List.mem_of_getElem? (i := 110) (by decide +kernel))) (by decide +kernel)
theorem mL_75 : Cond.methodLink RL 75 yX11_moved ∈ xWS := xWS_in (inC5 (List.mem_of_getElem? (i := 181) (by decide +kernel))) (by decide +kernel)
theorem mL_78 : Cond.methodLink RL 78 yX12_moved ∈ xWS := xWS_in (inC9 (List.mem_of_getElem? (i := 119) (by decide +kernel))) (by decide +kernel)
theorem mL_79 : Cond.methodLink RL 79 yX11_makeshift ∈ xWS := xWS_in (inC5 (List.mem_of_getElem? (i := 189) (by decide +kernel))) (by decide +kernel)
theorem mL_82 : Cond.methodLink RL 82 yX12_makeshift ∈ xWS := xWS_in (inC9 (List.mem_of_getElem? (i := 123) (by decide +kernel))) (by decide +kernel)
theorem mL_83 : Cond.methodLink RL 83 yX11_hangs ∈ xWS := xWS_in (inC5 (List.mem_of_getElem? (i := 216) (by decide +kernel))) (by decide +kernel)
theorem mL_86 : Cond.methodLink RL 86 yX12_hangs ∈ xWS := xWS_in (inC9 (List.mem_of_getElem? (i := 139) (by decide +kernel))) (by decide +kernel)
theorem mL_87 : Cond.methodLink RL 87 yX11_guard ∈ xWS := xWS_in (inC5 (List.mem_of_getElem? (i := 228) (by decide +kernel))) (by decide +kernel)
theorem mL_90 : Cond.methodLink RL 90 yX12_guard ∈ xWS := xWS_in (inC9 (List.mem_of_getElem? (i := 147) (by decide +kernel))) (by decide +kernel)
theorem mL_91 : Cond.methodLink RL 91 yX11_loan ∈ xWS := xWS_in (inC5 (List.mem_of_getElem? (i := 237) (by decide +kernel))) (by decide +kernel)
theorem mL_94 : Cond.methodLink RL 94 yX12_loan ∈ xWS := xWS_in (inC9 (List.mem_of_getElem? (i := 151) (by decide +kernel))) (by decide +kernel)
theorem mL_95 : Cond.methodLink RL 95 yX11_shavings ∈ xWS := xWS_in (inC6 (List.mem_of_getElem? (i := 23) (by decide +kernel))) (by decide +kernel)
theorem mL_98 : Cond.methodLink RL 98 yX12_shavings ∈ xWS := xWS_in (inC9 (List.mem_of_getElem? (i := 163) (by decide +kernel))) (by decide +kernel)
theorem mL_99 : Cond.methodLink RL 99 yX11_when ∈ xWS := xWS_in (inC6 (List.mem_of_getElem? (i := 40) (by decide +kernel))) (by decide +kernel)
theorem mL_102 : Cond.methodLink RL 102 yX12_when ∈ xWS := xWS_in (inC9 (List.mem_of_getElem? (i := 167) (by decide +kernel))) (by decide +kernel)
theorem mL_103 : Cond.methodLink RL 103 yX11_days ∈ xWS := xWS_in (inC6 (List.mem_of_getElem? (i := 44) (by decide +kernel))) (by decide +kernel)
theorem mL_106 : Cond.methodLink RL 106 yX12_days ∈ xWS := xWS_in (inC9 (List.mem_of_getElem? (i := 171) (by decide +kernel))) (by decide +kernel)
theorem mL_107 : Cond.methodLink RL 107 yX11_chance ∈ xWS := xWS_in (inC6 (List.mem_of_getElem? (i := 65) (by decide +kernel))) (by decide +kernel)
theorem mL_110 : Cond.methodLink RL 110 yX12_chance ∈ xWS := xWS_in (inC9 (List.mem_of_getElem? (i := 179) (by decide +kernel))) (by decide +kernel)
theorem mL_111 : Cond.methodLink RL 111 yX11_hold ∈ xWS := xWS_in (inC6 (List.mem_of_getElem? (i := 76) (by decide +kernel))) (by decide +kernel)
theorem mL_115 : Cond.methodLink RL 115 yX12_hold ∈ xWS := xWS_in (inC9 (List.mem_of_getElem? (i := 191) (by decide +kernel))) (by decide +kernel)
theorem mL_116 : Cond.methodLink RL 116 yX11_swap ∈ xWS := xWS_in (inC6 (List.mem_of_getElem? (i := 80) (by decide +kernel))) (by decide +kernel)
theorem mL_119 : Cond.methodLink RL 119 yX12_swap ∈ xWS := xWS_in (inC9 (List.mem_of_getElem? (i := 195) (by decide +kernel))) (by decide +kernel)
theorem mL_120 : Cond.methodLink RL 120 yX11_due ∈ xWS := xWS_in (inC6 (List.mem_of_getElem? (i := 88) (by decide +kernel))) (by decide +kernel)
theorem mL_123 : Cond.methodLink RL 123 yX12_due ∈ xWS := xWS_in (inC9 (List.mem_of_getElem? (i := 199) (by decide +kernel))) (by decide +kernel)
theorem mL_124 : Cond.methodLink RL 124 yX11_undo ∈ xWS := xWS_in (inC6 (List.mem_of_getElem? (i := 92) (by decide +kernel))) (by decide +kernel)
theorem mL_128 : Cond.methodLink RL 128 yX12_undo ∈ xWS := xWS_in (inC8 (List.mem_of_getElem? (i := 182) (by decide +kernel))) (by decide +kernel)
theorem mL_129 : Cond.methodLink RL 129 yX11_seed ∈ xWS := xWS_in (inC6 (List.mem_of_getElem? (i := 100) (by decide +kernel))) (by decide +kernel)
theorem mL_132 : Cond.methodLink RL 132 yX12_seed ∈ xWS := xWS_in (inC9 (List.mem_of_getElem? (i := 203) (by decide +kernel))) (by decide +kernel)
theorem mL_133 : Cond.methodLink RL 133 yX11_kept ∈ xWS := xWS_in (inC6 (List.mem_of_getElem? (i := 104) (by decide +kernel))) (by decide +kernel)
theorem mL_136 : Cond.methodLink RL 136 yX12_kept ∈ xWS := xWS_in (inC9 (List.mem_of_getElem? (i := 207) (by decide +kernel))) (by decide +kernel)
theorem mL_137 : Cond.methodLink RL 137 yX11_image ∈ xWS := xWS_in (inC6 (List.mem_of_getElem? (i := 112) (by decide +kernel))) (by decide +kernel)
theorem mL_140 : Cond.methodLink RL 140 yX12_image ∈ xWS := xWS_in (inC9 (List.mem_of_getElem? (i := 211) (by decide +kernel))) (by decide +kernel)
theorem mL_141 : Cond.methodLink RL 141 yX11_octet ∈ xWS := xWS_in (inC6 (List.mem_of_getElem? (i := 133) (by decide +kernel))) (by decide +kernel)
theorem mL_144 : Cond.methodLink RL 144 yX12_octet ∈ xWS := xWS_in (inC9 (List.mem_of_getElem? (i := 223) (by decide +kernel))) (by decide +kernel)
theorem mL_145 : Cond.methodLink RL 145 yX11_on ∈ xWS := xWS_in (inC6 (List.mem_of_getElem? (i := 137) (by decide +kernel))) (by decide +kernel)
theorem mL_148 : Cond.methodLink RL 148 yX12_on ∈ xWS := xWS_in (inC9 (List.mem_of_getElem? (i := 227) (by decide +kernel))) (by decide +kernel)
theorem mL_149 : Cond.methodLink RL 149 yX11_status ∈ xWS := xWS_in (inC6 (List.mem_of_getElem? (i := 162) (by decide +kernel))) (by decide +kernel)
theorem mL_152 : Cond.methodLink RL 152 yX12_status ∈ xWS := xWS_in (inC8 (List.mem_of_getElem? (i := 178) (by decide +kernel))) (by decide +kernel)
/-- the law's loop, at its head -/
def zHead (Γ : xGm) (Ω : zOm) (kc ks b N : Nat) (Rel : xSt → xSt → Prop) (i : Nat) : Prop := ∀ S1 S2 : xSt, Rel S1 S2 → zAt Γ Ω kc ks 18 (xlv [(0, .ref b), (1, .ref (Ω.1.2.1 0)), (2, .ref (Ω.2.1.2.1 0)), (3, .int (nI i))]) [] S1 S2
set_option maxHeartbeats 4000000 in
theorem z_case0 {Γ : xGm} {Ω : zOm} {kc ks b N : Nat} {xs : Nat → Int32} {Rel : xSt → xSt → Prop} (o : zOk Γ Ω kc ks b N xs) (hE : xEq0 Rel) (hN : N ≤ 3072) (i : Nat) (hi : i + 6 ≤ N) (S1 S2 : xSt) (hR : Rel S1 S2) (K : ∀ S1 S2 : xSt, Rel S1 S2 → zAt Γ Ω kc ks 1109 (xlv [(0, .ref b), (1, .ref (Ω.1.2.1 0)), (2, .ref (Ω.2.1.2.1 0)), (3, .int (nI i))]) [] S1 S2) : zAt Γ Ω kc ks 180 (xlv [(0, .ref b), (1, .ref (Ω.1.2.1 0)), (2, .ref (Ω.2.1.2.1 0)), (3, .int (nI i))]) [] S1 S2 := by
  obtain ⟨r, S1', S2', e1, e2, hR'⟩ := hE S1 S2 hR (xs (i + 1)) (xs (i + 2)) (xs (i + 3)) (xs (i + 4)) (xs (i + 5))
  refine z_aload_n (pc := 180) o dL_law_180 rfl rfl ?_
  refine z_aload_n (pc := 181) o dL_law_181 rfl rfl ?_
  refine z_iload_n (pc := 182) o dL_law_182 rfl rfl ?_
  refine z_iconst (pc := 183) o dL_law_183 ic_1 ?_
  refine z_iadd (pc := 184) o dL_law_184 ?_
  refine z_sld (pc := 185) (j := i + 1) o dL_law_185 (nI_k i 1 rfl) (by omega) hN ?_
  refine z_aload_n (pc := 186) o dL_law_186 rfl rfl ?_
  refine z_iload_n (pc := 187) o dL_law_187 rfl rfl ?_
  refine z_iconst (pc := 188) o dL_law_188 ic_2 ?_
  refine z_iadd (pc := 189) o dL_law_189 ?_
  refine z_sld (pc := 190) (j := i + 2) o dL_law_190 (nI_k i 2 rfl) (by omega) hN ?_
  refine z_aload_n (pc := 191) o dL_law_191 rfl rfl ?_
  refine z_iload_n (pc := 192) o dL_law_192 rfl rfl ?_
  refine z_iconst (pc := 193) o dL_law_193 ic_3 ?_
  refine z_iadd (pc := 194) o dL_law_194 ?_
  refine z_sld (pc := 195) (j := i + 3) o dL_law_195 (nI_k i 3 rfl) (by omega) hN ?_
  refine z_aload_n (pc := 196) o dL_law_196 rfl rfl ?_
  refine z_iload_n (pc := 197) o dL_law_197 rfl rfl ?_
  refine z_iconst (pc := 198) o dL_law_198 ic_4 ?_
  refine z_iadd (pc := 199) o dL_law_199 ?_
  refine z_sld (pc := 200) (j := i + 4) o dL_law_200 (nI_k i 4 rfl) (by omega) hN ?_
  refine z_aload_n (pc := 201) o dL_law_201 rfl rfl ?_
  refine z_iload_n (pc := 202) o dL_law_202 rfl rfl ?_
  refine z_iconst (pc := 203) o dL_law_203 ic_5 ?_
  refine z_iadd (pc := 204) o dL_law_204 ?_
  refine z_sld (pc := 205) (j := i + 5) o dL_law_205 (nI_k i 5 rfl) (by omega) hN ?_
  refine z_callC (pc := 206) (As := [.int (xs (i + 1)), .int (xs (i + 2)), .int (xs (i + 3)), .int (xs (i + 4)), .int (xs (i + 5))]) (k0 := 0) (rest := []) o (tX11_feed Γ.1.2.1 Ω.1 Ω.2.2.1 xFU 0 (xs (i + 1)) (xs (i + 2)) (xs (i + 3)) (xs (i + 4)) (xs (i + 5)) S1 (r, S1') e1) eX11_feed mL_13 clX11 rfl (by decide) rfl rfl (Nat.le_of_ble_eq_true rfl) dL_law_206 ?_
  refine z_aload_n (pc := 209) o dL_law_209 rfl rfl ?_
  refine z_aload_n (pc := 210) o dL_law_210 rfl rfl ?_
  refine z_iload_n (pc := 211) o dL_law_211 rfl rfl ?_
  refine z_iconst (pc := 212) o dL_law_212 ic_1 ?_
  refine z_iadd (pc := 213) o dL_law_213 ?_
  refine z_sld (pc := 214) (j := i + 1) o dL_law_214 (nI_k i 1 rfl) (by omega) hN ?_
  refine z_aload_n (pc := 215) o dL_law_215 rfl rfl ?_
  refine z_iload_n (pc := 216) o dL_law_216 rfl rfl ?_
  refine z_iconst (pc := 217) o dL_law_217 ic_2 ?_
  refine z_iadd (pc := 218) o dL_law_218 ?_
  refine z_sld (pc := 219) (j := i + 2) o dL_law_219 (nI_k i 2 rfl) (by omega) hN ?_
  refine z_aload_n (pc := 220) o dL_law_220 rfl rfl ?_
  refine z_iload_n (pc := 221) o dL_law_221 rfl rfl ?_
  refine z_iconst (pc := 222) o dL_law_222 ic_3 ?_
  refine z_iadd (pc := 223) o dL_law_223 ?_
  refine z_sld (pc := 224) (j := i + 3) o dL_law_224 (nI_k i 3 rfl) (by omega) hN ?_
  refine z_aload_n (pc := 225) o dL_law_225 rfl rfl ?_
  refine z_iload_n (pc := 226) o dL_law_226 rfl rfl ?_
  refine z_iconst (pc := 227) o dL_law_227 ic_4 ?_
  refine z_iadd (pc := 228) o dL_law_228 ?_
  refine z_sld (pc := 229) (j := i + 4) o dL_law_229 (nI_k i 4 rfl) (by omega) hN ?_
  refine z_aload_n (pc := 230) o dL_law_230 rfl rfl ?_
  refine z_iload_n (pc := 231) o dL_law_231 rfl rfl ?_
  refine z_iconst (pc := 232) o dL_law_232 ic_5 ?_
  refine z_iadd (pc := 233) o dL_law_233 ?_
  refine z_sld (pc := 234) (j := i + 5) o dL_law_234 (nI_k i 5 rfl) (by omega) hN ?_
  refine z_callM (pc := 235) (As := [.int (xs (i + 1)), .int (xs (i + 2)), .int (xs (i + 3)), .int (xs (i + 4)), .int (xs (i + 5))]) (k0 := 0) (rest := [.int r]) o (tX12_feed Γ.1.2.1 Ω.2.1 Ω.2.2.2 xFU 0 (xs (i + 1)) (xs (i + 2)) (xs (i + 3)) (xs (i + 4)) (xs (i + 5)) S2 (r, S2') e2) eX12_feed mL_17 clX12 rfl (by decide) rfl rfl (Nat.le_of_ble_eq_true rfl) dL_law_235 ?_
  refine z_icmp_eq (pc := 238) (tgt := 1109) o dL_law_238 (by decide) ?_
  exact K S1' S2' hR'
set_option maxHeartbeats 4000000 in
theorem z_case1 {Γ : xGm} {Ω : zOm} {kc ks b N : Nat} {xs : Nat → Int32} {Rel : xSt → xSt → Prop} (o : zOk Γ Ω kc ks b N xs) (hE : xEq1 Rel) (hN : N ≤ 3072) (i : Nat) (hi : i + 6 ≤ N) (S1 S2 : xSt) (hR : Rel S1 S2) (K : ∀ S1 S2 : xSt, Rel S1 S2 → zAt Γ Ω kc ks 1109 (xlv [(0, .ref b), (1, .ref (Ω.1.2.1 0)), (2, .ref (Ω.2.1.2.1 0)), (3, .int (nI i))]) [] S1 S2) : zAt Γ Ω kc ks 243 (xlv [(0, .ref b), (1, .ref (Ω.1.2.1 0)), (2, .ref (Ω.2.1.2.1 0)), (3, .int (nI i))]) [] S1 S2 := by
  obtain ⟨r, S1', S2', e1, e2, hR'⟩ := hE S1 S2 hR (xs (i + 1))
  refine z_aload_n (pc := 243) o dL_law_243 rfl rfl ?_
  refine z_aload_n (pc := 244) o dL_law_244 rfl rfl ?_
  refine z_iload_n (pc := 245) o dL_law_245 rfl rfl ?_
  refine z_iconst (pc := 246) o dL_law_246 ic_1 ?_
  refine z_iadd (pc := 247) o dL_law_247 ?_
  refine z_sld (pc := 248) (j := i + 1) o dL_law_248 (nI_k i 1 rfl) (by omega) hN ?_
  refine z_callC (pc := 249) (As := [.int (xs (i + 1))]) (k0 := 0) (rest := []) o (tX11_end Γ.1.2.1 Ω.1 Ω.2.2.1 0 (xs (i + 1)) S1 (r, S1') e1) eX11_end mL_18 clX11 rfl (by decide) rfl rfl (Nat.le_of_ble_eq_true rfl) dL_law_249 ?_
  refine z_aload_n (pc := 252) o dL_law_252 rfl rfl ?_
  refine z_aload_n (pc := 253) o dL_law_253 rfl rfl ?_
  refine z_iload_n (pc := 254) o dL_law_254 rfl rfl ?_
  refine z_iconst (pc := 255) o dL_law_255 ic_1 ?_
  refine z_iadd (pc := 256) o dL_law_256 ?_
  refine z_sld (pc := 257) (j := i + 1) o dL_law_257 (nI_k i 1 rfl) (by omega) hN ?_
  refine z_callM (pc := 258) (As := [.int (xs (i + 1))]) (k0 := 0) (rest := [.int r]) o (tX12_end Γ.1.2.1 Ω.2.1 Ω.2.2.2 0 (xs (i + 1)) S2 (r, S2') e2) eX12_end mL_22 clX12 rfl (by decide) rfl rfl (Nat.le_of_ble_eq_true rfl) dL_law_258 ?_
  refine z_icmp_eq (pc := 261) (tgt := 1109) o dL_law_261 (by decide) ?_
  exact K S1' S2' hR'
set_option maxHeartbeats 4000000 in
theorem z_case2 {Γ : xGm} {Ω : zOm} {kc ks b N : Nat} {xs : Nat → Int32} {Rel : xSt → xSt → Prop} (o : zOk Γ Ω kc ks b N xs) (hE : xEq2 Rel) (hN : N ≤ 3072) (i : Nat) (hi : i + 6 ≤ N) (S1 S2 : xSt) (hR : Rel S1 S2) (K : ∀ S1 S2 : xSt, Rel S1 S2 → zAt Γ Ω kc ks 1109 (xlv [(0, .ref b), (1, .ref (Ω.1.2.1 0)), (2, .ref (Ω.2.1.2.1 0)), (3, .int (nI i))]) [] S1 S2) : zAt Γ Ω kc ks 266 (xlv [(0, .ref b), (1, .ref (Ω.1.2.1 0)), (2, .ref (Ω.2.1.2.1 0)), (3, .int (nI i))]) [] S1 S2 := by
  obtain ⟨r, S1', S2', e1, e2, hR'⟩ := hE S1 S2 hR 
  refine z_aload_n (pc := 266) o dL_law_266 rfl rfl ?_
  refine z_callC (pc := 267) (As := []) (k0 := 0) (rest := []) o (tX11_year Γ.1.2.1 Ω.1 Ω.2.2.1 xFU 0 S1 (r, S1') e1) eX11_year mL_23 clX11 rfl (by decide) rfl rfl (Nat.le_of_ble_eq_true rfl) dL_law_267 ?_
  refine z_aload_n (pc := 270) o dL_law_270 rfl rfl ?_
  refine z_callM (pc := 271) (As := []) (k0 := 0) (rest := [.int r]) o (tX12_year Γ.1.2.1 Ω.2.1 Ω.2.2.2 xFU 0 S2 (r, S2') e2) eX12_year mL_27 clX12 rfl (by decide) rfl rfl (Nat.le_of_ble_eq_true rfl) dL_law_271 ?_
  refine z_icmp_eq (pc := 274) (tgt := 1109) o dL_law_274 (by decide) ?_
  exact K S1' S2' hR'
set_option maxHeartbeats 4000000 in
theorem z_case3 {Γ : xGm} {Ω : zOm} {kc ks b N : Nat} {xs : Nat → Int32} {Rel : xSt → xSt → Prop} (o : zOk Γ Ω kc ks b N xs) (hE : xEq3 Rel) (hN : N ≤ 3072) (i : Nat) (hi : i + 6 ≤ N) (S1 S2 : xSt) (hR : Rel S1 S2) (K : ∀ S1 S2 : xSt, Rel S1 S2 → zAt Γ Ω kc ks 1109 (xlv [(0, .ref b), (1, .ref (Ω.1.2.1 0)), (2, .ref (Ω.2.1.2.1 0)), (3, .int (nI i))]) [] S1 S2) : zAt Γ Ω kc ks 279 (xlv [(0, .ref b), (1, .ref (Ω.1.2.1 0)), (2, .ref (Ω.2.1.2.1 0)), (3, .int (nI i))]) [] S1 S2 := by
  obtain ⟨r, e1, e2, hR'⟩ := hE S1 S2 hR (xs (i + 1))
  refine z_aload_n (pc := 279) o dL_law_279 rfl rfl ?_
  refine z_aload_n (pc := 280) o dL_law_280 rfl rfl ?_
  refine z_iload_n (pc := 281) o dL_law_281 rfl rfl ?_
  refine z_iconst (pc := 282) o dL_law_282 ic_1 ?_
  refine z_iadd (pc := 283) o dL_law_283 ?_
  refine z_sld (pc := 284) (j := i + 1) o dL_law_284 (nI_k i 1 rfl) (by omega) hN ?_
  refine z_callC (pc := 285) (As := [.int (xs (i + 1))]) (k0 := 0) (rest := []) o (tX11_fault Γ.1.2.1 Ω.1 Ω.2.2.1 0 (xs (i + 1)) S1 r e1) eX11_fault mL_28 clX11 rfl (by decide) rfl rfl (Nat.le_of_ble_eq_true rfl) dL_law_285 ?_
  refine z_aload_n (pc := 288) o dL_law_288 rfl rfl ?_
  refine z_aload_n (pc := 289) o dL_law_289 rfl rfl ?_
  refine z_iload_n (pc := 290) o dL_law_290 rfl rfl ?_
  refine z_iconst (pc := 291) o dL_law_291 ic_1 ?_
  refine z_iadd (pc := 292) o dL_law_292 ?_
  refine z_sld (pc := 293) (j := i + 1) o dL_law_293 (nI_k i 1 rfl) (by omega) hN ?_
  refine z_callM (pc := 294) (As := [.int (xs (i + 1))]) (k0 := 0) (rest := [.int r]) o (tX12_fault Γ.1.2.1 Ω.2.1 Ω.2.2.2 0 (xs (i + 1)) S2 r e2) eX12_fault mL_32 clX12 rfl (by decide) rfl rfl (Nat.le_of_ble_eq_true rfl) dL_law_294 ?_
  refine z_icmp_eq (pc := 297) (tgt := 1109) o dL_law_297 (by decide) ?_
  exact K S1 S2 hR'
set_option maxHeartbeats 4000000 in
theorem z_case4 {Γ : xGm} {Ω : zOm} {kc ks b N : Nat} {xs : Nat → Int32} {Rel : xSt → xSt → Prop} (o : zOk Γ Ω kc ks b N xs) (hE : xEq4 Rel) (hN : N ≤ 3072) (i : Nat) (hi : i + 6 ≤ N) (S1 S2 : xSt) (hR : Rel S1 S2) (K : ∀ S1 S2 : xSt, Rel S1 S2 → zAt Γ Ω kc ks 1109 (xlv [(0, .ref b), (1, .ref (Ω.1.2.1 0)), (2, .ref (Ω.2.1.2.1 0)), (3, .int (nI i))]) [] S1 S2) : zAt Γ Ω kc ks 302 (xlv [(0, .ref b), (1, .ref (Ω.1.2.1 0)), (2, .ref (Ω.2.1.2.1 0)), (3, .int (nI i))]) [] S1 S2 := by
  obtain ⟨r, e1, e2, hR'⟩ := hE S1 S2 hR (xs (i + 1))
  refine z_aload_n (pc := 302) o dL_law_302 rfl rfl ?_
  refine z_aload_n (pc := 303) o dL_law_303 rfl rfl ?_
  refine z_iload_n (pc := 304) o dL_law_304 rfl rfl ?_
  refine z_iconst (pc := 305) o dL_law_305 ic_1 ?_
  refine z_iadd (pc := 306) o dL_law_306 ?_
  refine z_sld (pc := 307) (j := i + 1) o dL_law_307 (nI_k i 1 rfl) (by omega) hN ?_
  refine z_callC (pc := 308) (As := [.int (xs (i + 1))]) (k0 := 0) (rest := []) o (tX11_has Γ.1.2.1 Ω.1 Ω.2.2.1 xFU 0 (xs (i + 1)) S1 r e1) eX11_has mL_33 clX11 rfl (by decide) rfl rfl (Nat.le_of_ble_eq_true rfl) dL_law_308 ?_
  refine z_aload_n (pc := 311) o dL_law_311 rfl rfl ?_
  refine z_aload_n (pc := 312) o dL_law_312 rfl rfl ?_
  refine z_iload_n (pc := 313) o dL_law_313 rfl rfl ?_
  refine z_iconst (pc := 314) o dL_law_314 ic_1 ?_
  refine z_iadd (pc := 315) o dL_law_315 ?_
  refine z_sld (pc := 316) (j := i + 1) o dL_law_316 (nI_k i 1 rfl) (by omega) hN ?_
  refine z_callM (pc := 317) (As := [.int (xs (i + 1))]) (k0 := 0) (rest := [.int r]) o (tX12_has Γ.1.2.1 Ω.2.1 Ω.2.2.2 xFU 0 (xs (i + 1)) S2 r e2) eX12_has mL_36 clX12 rfl (by decide) rfl rfl (Nat.le_of_ble_eq_true rfl) dL_law_317 ?_
  refine z_icmp_eq (pc := 320) (tgt := 1109) o dL_law_320 (by decide) ?_
  exact K S1 S2 hR'
set_option maxHeartbeats 4000000 in
theorem z_case5 {Γ : xGm} {Ω : zOm} {kc ks b N : Nat} {xs : Nat → Int32} {Rel : xSt → xSt → Prop} (o : zOk Γ Ω kc ks b N xs) (hE : xEq5 Rel) (hN : N ≤ 3072) (i : Nat) (hi : i + 6 ≤ N) (S1 S2 : xSt) (hR : Rel S1 S2) (K : ∀ S1 S2 : xSt, Rel S1 S2 → zAt Γ Ω kc ks 1109 (xlv [(0, .ref b), (1, .ref (Ω.1.2.1 0)), (2, .ref (Ω.2.1.2.1 0)), (3, .int (nI i))]) [] S1 S2) : zAt Γ Ω kc ks 325 (xlv [(0, .ref b), (1, .ref (Ω.1.2.1 0)), (2, .ref (Ω.2.1.2.1 0)), (3, .int (nI i))]) [] S1 S2 := by
  obtain ⟨r, e1, e2, hR'⟩ := hE S1 S2 hR (xs (i + 1)) (xs (i + 2)) (xs (i + 3))
  refine z_aload_n (pc := 325) o dL_law_325 rfl rfl ?_
  refine z_aload_n (pc := 326) o dL_law_326 rfl rfl ?_
  refine z_iload_n (pc := 327) o dL_law_327 rfl rfl ?_
  refine z_iconst (pc := 328) o dL_law_328 ic_1 ?_
  refine z_iadd (pc := 329) o dL_law_329 ?_
  refine z_sld (pc := 330) (j := i + 1) o dL_law_330 (nI_k i 1 rfl) (by omega) hN ?_
  refine z_aload_n (pc := 331) o dL_law_331 rfl rfl ?_
  refine z_iload_n (pc := 332) o dL_law_332 rfl rfl ?_
  refine z_iconst (pc := 333) o dL_law_333 ic_2 ?_
  refine z_iadd (pc := 334) o dL_law_334 ?_
  refine z_sld (pc := 335) (j := i + 2) o dL_law_335 (nI_k i 2 rfl) (by omega) hN ?_
  refine z_aload_n (pc := 336) o dL_law_336 rfl rfl ?_
  refine z_iload_n (pc := 337) o dL_law_337 rfl rfl ?_
  refine z_iconst (pc := 338) o dL_law_338 ic_3 ?_
  refine z_iadd (pc := 339) o dL_law_339 ?_
  refine z_sld (pc := 340) (j := i + 3) o dL_law_340 (nI_k i 3 rfl) (by omega) hN ?_
  refine z_callC (pc := 341) (As := [.int (xs (i + 1)), .int (xs (i + 2)), .int (xs (i + 3))]) (k0 := 0) (rest := []) o (tX11_letter Γ.1.2.1 Ω.1 Ω.2.2.1 0 (xs (i + 1)) (xs (i + 2)) (xs (i + 3)) S1 r e1) eX11_letter mL_37 clX11 rfl (by decide) rfl rfl (Nat.le_of_ble_eq_true rfl) dL_law_341 ?_
  refine z_aload_n (pc := 344) o dL_law_344 rfl rfl ?_
  refine z_aload_n (pc := 345) o dL_law_345 rfl rfl ?_
  refine z_iload_n (pc := 346) o dL_law_346 rfl rfl ?_
  refine z_iconst (pc := 347) o dL_law_347 ic_1 ?_
  refine z_iadd (pc := 348) o dL_law_348 ?_
  refine z_sld (pc := 349) (j := i + 1) o dL_law_349 (nI_k i 1 rfl) (by omega) hN ?_
  refine z_aload_n (pc := 350) o dL_law_350 rfl rfl ?_
  refine z_iload_n (pc := 351) o dL_law_351 rfl rfl ?_
  refine z_iconst (pc := 352) o dL_law_352 ic_2 ?_
  refine z_iadd (pc := 353) o dL_law_353 ?_
  refine z_sld (pc := 354) (j := i + 2) o dL_law_354 (nI_k i 2 rfl) (by omega) hN ?_
  refine z_aload_n (pc := 355) o dL_law_355 rfl rfl ?_
  refine z_iload_n (pc := 356) o dL_law_356 rfl rfl ?_
  refine z_iconst (pc := 357) o dL_law_357 ic_3 ?_
  refine z_iadd (pc := 358) o dL_law_358 ?_
  refine z_sld (pc := 359) (j := i + 3) o dL_law_359 (nI_k i 3 rfl) (by omega) hN ?_
  refine z_callM (pc := 360) (As := [.int (xs (i + 1)), .int (xs (i + 2)), .int (xs (i + 3))]) (k0 := 0) (rest := [.int r]) o (tX12_letter Γ.1.2.1 Ω.2.1 Ω.2.2.2 xFU 0 (xs (i + 1)) (xs (i + 2)) (xs (i + 3)) S2 r e2) eX12_letter mL_41 clX12 rfl (by decide) rfl rfl (Nat.le_of_ble_eq_true rfl) dL_law_360 ?_
  refine z_icmp_eq (pc := 363) (tgt := 1109) o dL_law_363 (by decide) ?_
  exact K S1 S2 hR'
set_option maxHeartbeats 4000000 in
theorem z_case6 {Γ : xGm} {Ω : zOm} {kc ks b N : Nat} {xs : Nat → Int32} {Rel : xSt → xSt → Prop} (o : zOk Γ Ω kc ks b N xs) (hE : xEq6 Rel) (hN : N ≤ 3072) (i : Nat) (hi : i + 6 ≤ N) (S1 S2 : xSt) (hR : Rel S1 S2) (K : ∀ S1 S2 : xSt, Rel S1 S2 → zAt Γ Ω kc ks 1109 (xlv [(0, .ref b), (1, .ref (Ω.1.2.1 0)), (2, .ref (Ω.2.1.2.1 0)), (3, .int (nI i))]) [] S1 S2) : zAt Γ Ω kc ks 368 (xlv [(0, .ref b), (1, .ref (Ω.1.2.1 0)), (2, .ref (Ω.2.1.2.1 0)), (3, .int (nI i))]) [] S1 S2 := by
  obtain ⟨r, e1, e2, hR'⟩ := hE S1 S2 hR (xs (i + 1)) (xs (i + 2))
  refine z_aload_n (pc := 368) o dL_law_368 rfl rfl ?_
  refine z_aload_n (pc := 369) o dL_law_369 rfl rfl ?_
  refine z_iload_n (pc := 370) o dL_law_370 rfl rfl ?_
  refine z_iconst (pc := 371) o dL_law_371 ic_1 ?_
  refine z_iadd (pc := 372) o dL_law_372 ?_
  refine z_sld (pc := 373) (j := i + 1) o dL_law_373 (nI_k i 1 rfl) (by omega) hN ?_
  refine z_aload_n (pc := 374) o dL_law_374 rfl rfl ?_
  refine z_iload_n (pc := 375) o dL_law_375 rfl rfl ?_
  refine z_iconst (pc := 376) o dL_law_376 ic_2 ?_
  refine z_iadd (pc := 377) o dL_law_377 ?_
  refine z_sld (pc := 378) (j := i + 2) o dL_law_378 (nI_k i 2 rfl) (by omega) hN ?_
  refine z_callC (pc := 379) (As := [.int (xs (i + 1)), .int (xs (i + 2))]) (k0 := 0) (rest := []) o (tX11_kind Γ.1.2.1 Ω.1 Ω.2.2.1 xFU 0 (xs (i + 1)) (xs (i + 2)) S1 r e1) eX11_kind mL_42 clX11 rfl (by decide) rfl rfl (Nat.le_of_ble_eq_true rfl) dL_law_379 ?_
  refine z_aload_n (pc := 382) o dL_law_382 rfl rfl ?_
  refine z_aload_n (pc := 383) o dL_law_383 rfl rfl ?_
  refine z_iload_n (pc := 384) o dL_law_384 rfl rfl ?_
  refine z_iconst (pc := 385) o dL_law_385 ic_1 ?_
  refine z_iadd (pc := 386) o dL_law_386 ?_
  refine z_sld (pc := 387) (j := i + 1) o dL_law_387 (nI_k i 1 rfl) (by omega) hN ?_
  refine z_aload_n (pc := 388) o dL_law_388 rfl rfl ?_
  refine z_iload_n (pc := 389) o dL_law_389 rfl rfl ?_
  refine z_iconst (pc := 390) o dL_law_390 ic_2 ?_
  refine z_iadd (pc := 391) o dL_law_391 ?_
  refine z_sld (pc := 392) (j := i + 2) o dL_law_392 (nI_k i 2 rfl) (by omega) hN ?_
  refine z_callM (pc := 393) (As := [.int (xs (i + 1)), .int (xs (i + 2))]) (k0 := 0) (rest := [.int r]) o (tX12_kind Γ.1.2.1 Ω.2.1 Ω.2.2.2 xFU 0 (xs (i + 1)) (xs (i + 2)) S2 r e2) eX12_kind mL_46 clX12 rfl (by decide) rfl rfl (Nat.le_of_ble_eq_true rfl) dL_law_393 ?_
  refine z_icmp_eq (pc := 396) (tgt := 1109) o dL_law_396 (by decide) ?_
  exact K S1 S2 hR'
set_option maxHeartbeats 4000000 in
theorem z_case7 {Γ : xGm} {Ω : zOm} {kc ks b N : Nat} {xs : Nat → Int32} {Rel : xSt → xSt → Prop} (o : zOk Γ Ω kc ks b N xs) (hE : xEq7 Rel) (hN : N ≤ 3072) (i : Nat) (hi : i + 6 ≤ N) (S1 S2 : xSt) (hR : Rel S1 S2) (K : ∀ S1 S2 : xSt, Rel S1 S2 → zAt Γ Ω kc ks 1109 (xlv [(0, .ref b), (1, .ref (Ω.1.2.1 0)), (2, .ref (Ω.2.1.2.1 0)), (3, .int (nI i))]) [] S1 S2) : zAt Γ Ω kc ks 401 (xlv [(0, .ref b), (1, .ref (Ω.1.2.1 0)), (2, .ref (Ω.2.1.2.1 0)), (3, .int (nI i))]) [] S1 S2 := by
  obtain ⟨r, e1, e2, hR'⟩ := hE S1 S2 hR (xs (i + 1)) (xs (i + 2))
  refine z_aload_n (pc := 401) o dL_law_401 rfl rfl ?_
  refine z_aload_n (pc := 402) o dL_law_402 rfl rfl ?_
  refine z_iload_n (pc := 403) o dL_law_403 rfl rfl ?_
  refine z_iconst (pc := 404) o dL_law_404 ic_1 ?_
  refine z_iadd (pc := 405) o dL_law_405 ?_
  refine z_sld (pc := 406) (j := i + 1) o dL_law_406 (nI_k i 1 rfl) (by omega) hN ?_
  refine z_aload_n (pc := 407) o dL_law_407 rfl rfl ?_
  refine z_iload_n (pc := 408) o dL_law_408 rfl rfl ?_
  refine z_iconst (pc := 409) o dL_law_409 ic_2 ?_
  refine z_iadd (pc := 410) o dL_law_410 ?_
  refine z_sld (pc := 411) (j := i + 2) o dL_law_411 (nI_k i 2 rfl) (by omega) hN ?_
  refine z_callC (pc := 412) (As := [.int (xs (i + 1)), .int (xs (i + 2))]) (k0 := 0) (rest := []) o (tX11_tool Γ.1.2.1 Ω.1 Ω.2.2.1 0 (xs (i + 1)) (xs (i + 2)) S1 r e1) eX11_tool mL_47 clX11 rfl (by decide) rfl rfl (Nat.le_of_ble_eq_true rfl) dL_law_412 ?_
  refine z_aload_n (pc := 415) o dL_law_415 rfl rfl ?_
  refine z_aload_n (pc := 416) o dL_law_416 rfl rfl ?_
  refine z_iload_n (pc := 417) o dL_law_417 rfl rfl ?_
  refine z_iconst (pc := 418) o dL_law_418 ic_1 ?_
  refine z_iadd (pc := 419) o dL_law_419 ?_
  refine z_sld (pc := 420) (j := i + 1) o dL_law_420 (nI_k i 1 rfl) (by omega) hN ?_
  refine z_aload_n (pc := 421) o dL_law_421 rfl rfl ?_
  refine z_iload_n (pc := 422) o dL_law_422 rfl rfl ?_
  refine z_iconst (pc := 423) o dL_law_423 ic_2 ?_
  refine z_iadd (pc := 424) o dL_law_424 ?_
  refine z_sld (pc := 425) (j := i + 2) o dL_law_425 (nI_k i 2 rfl) (by omega) hN ?_
  refine z_callM (pc := 426) (As := [.int (xs (i + 1)), .int (xs (i + 2))]) (k0 := 0) (rest := [.int r]) o (tX12_tool Γ.1.2.1 Ω.2.1 Ω.2.2.2 0 (xs (i + 1)) (xs (i + 2)) S2 r e2) eX12_tool mL_50 clX12 rfl (by decide) rfl rfl (Nat.le_of_ble_eq_true rfl) dL_law_426 ?_
  refine z_icmp_eq (pc := 429) (tgt := 1109) o dL_law_429 (by decide) ?_
  exact K S1 S2 hR'
set_option maxHeartbeats 4000000 in
theorem z_case8 {Γ : xGm} {Ω : zOm} {kc ks b N : Nat} {xs : Nat → Int32} {Rel : xSt → xSt → Prop} (o : zOk Γ Ω kc ks b N xs) (hE : xEq8 Rel) (hN : N ≤ 3072) (i : Nat) (hi : i + 6 ≤ N) (S1 S2 : xSt) (hR : Rel S1 S2) (K : ∀ S1 S2 : xSt, Rel S1 S2 → zAt Γ Ω kc ks 1109 (xlv [(0, .ref b), (1, .ref (Ω.1.2.1 0)), (2, .ref (Ω.2.1.2.1 0)), (3, .int (nI i))]) [] S1 S2) : zAt Γ Ω kc ks 434 (xlv [(0, .ref b), (1, .ref (Ω.1.2.1 0)), (2, .ref (Ω.2.1.2.1 0)), (3, .int (nI i))]) [] S1 S2 := by
  obtain ⟨r, e1, e2, hR'⟩ := hE S1 S2 hR (xs (i + 1)) (xs (i + 2))
  refine z_aload_n (pc := 434) o dL_law_434 rfl rfl ?_
  refine z_aload_n (pc := 435) o dL_law_435 rfl rfl ?_
  refine z_iload_n (pc := 436) o dL_law_436 rfl rfl ?_
  refine z_iconst (pc := 437) o dL_law_437 ic_1 ?_
  refine z_iadd (pc := 438) o dL_law_438 ?_
  refine z_sld (pc := 439) (j := i + 1) o dL_law_439 (nI_k i 1 rfl) (by omega) hN ?_
  refine z_aload_n (pc := 440) o dL_law_440 rfl rfl ?_
  refine z_iload_n (pc := 441) o dL_law_441 rfl rfl ?_
  refine z_iconst (pc := 442) o dL_law_442 ic_2 ?_
  refine z_iadd (pc := 443) o dL_law_443 ?_
  refine z_sld (pc := 444) (j := i + 2) o dL_law_444 (nI_k i 2 rfl) (by omega) hN ?_
  refine z_callC (pc := 445) (As := [.int (xs (i + 1)), .int (xs (i + 2))]) (k0 := 0) (rest := []) o (tX11_knows Γ.1.2.1 Ω.1 Ω.2.2.1 0 (xs (i + 1)) (xs (i + 2)) S1 r e1) eX11_knows mL_51 clX11 rfl (by decide) rfl rfl (Nat.le_of_ble_eq_true rfl) dL_law_445 ?_
  refine z_aload_n (pc := 448) o dL_law_448 rfl rfl ?_
  refine z_aload_n (pc := 449) o dL_law_449 rfl rfl ?_
  refine z_iload_n (pc := 450) o dL_law_450 rfl rfl ?_
  refine z_iconst (pc := 451) o dL_law_451 ic_1 ?_
  refine z_iadd (pc := 452) o dL_law_452 ?_
  refine z_sld (pc := 453) (j := i + 1) o dL_law_453 (nI_k i 1 rfl) (by omega) hN ?_
  refine z_aload_n (pc := 454) o dL_law_454 rfl rfl ?_
  refine z_iload_n (pc := 455) o dL_law_455 rfl rfl ?_
  refine z_iconst (pc := 456) o dL_law_456 ic_2 ?_
  refine z_iadd (pc := 457) o dL_law_457 ?_
  refine z_sld (pc := 458) (j := i + 2) o dL_law_458 (nI_k i 2 rfl) (by omega) hN ?_
  refine z_callM (pc := 459) (As := [.int (xs (i + 1)), .int (xs (i + 2))]) (k0 := 0) (rest := [.int r]) o (tX12_knows Γ.1.2.1 Ω.2.1 Ω.2.2.2 0 (xs (i + 1)) (xs (i + 2)) S2 r e2) eX12_knows mL_54 clX12 rfl (by decide) rfl rfl (Nat.le_of_ble_eq_true rfl) dL_law_459 ?_
  refine z_icmp_eq (pc := 462) (tgt := 1109) o dL_law_462 (by decide) ?_
  exact K S1 S2 hR'
set_option maxHeartbeats 4000000 in
theorem z_case9 {Γ : xGm} {Ω : zOm} {kc ks b N : Nat} {xs : Nat → Int32} {Rel : xSt → xSt → Prop} (o : zOk Γ Ω kc ks b N xs) (hE : xEq9 Rel) (hN : N ≤ 3072) (i : Nat) (hi : i + 6 ≤ N) (S1 S2 : xSt) (hR : Rel S1 S2) (K : ∀ S1 S2 : xSt, Rel S1 S2 → zAt Γ Ω kc ks 1109 (xlv [(0, .ref b), (1, .ref (Ω.1.2.1 0)), (2, .ref (Ω.2.1.2.1 0)), (3, .int (nI i))]) [] S1 S2) : zAt Γ Ω kc ks 467 (xlv [(0, .ref b), (1, .ref (Ω.1.2.1 0)), (2, .ref (Ω.2.1.2.1 0)), (3, .int (nI i))]) [] S1 S2 := by
  obtain ⟨r, e1, e2, hR'⟩ := hE S1 S2 hR (xs (i + 1)) (xs (i + 2))
  refine z_aload_n (pc := 467) o dL_law_467 rfl rfl ?_
  refine z_aload_n (pc := 468) o dL_law_468 rfl rfl ?_
  refine z_iload_n (pc := 469) o dL_law_469 rfl rfl ?_
  refine z_iconst (pc := 470) o dL_law_470 ic_1 ?_
  refine z_iadd (pc := 471) o dL_law_471 ?_
  refine z_sld (pc := 472) (j := i + 1) o dL_law_472 (nI_k i 1 rfl) (by omega) hN ?_
  refine z_aload_n (pc := 473) o dL_law_473 rfl rfl ?_
  refine z_iload_n (pc := 474) o dL_law_474 rfl rfl ?_
  refine z_iconst (pc := 475) o dL_law_475 ic_2 ?_
  refine z_iadd (pc := 476) o dL_law_476 ?_
  refine z_sld (pc := 477) (j := i + 2) o dL_law_477 (nI_k i 2 rfl) (by omega) hN ?_
  refine z_callC (pc := 478) (As := [.int (xs (i + 1)), .int (xs (i + 2))]) (k0 := 0) (rest := []) o (tX11_job Γ.1.2.1 Ω.1 Ω.2.2.1 0 (xs (i + 1)) (xs (i + 2)) S1 r e1) eX11_job mL_55 clX11 rfl (by decide) rfl rfl (Nat.le_of_ble_eq_true rfl) dL_law_478 ?_
  refine z_aload_n (pc := 481) o dL_law_481 rfl rfl ?_
  refine z_aload_n (pc := 482) o dL_law_482 rfl rfl ?_
  refine z_iload_n (pc := 483) o dL_law_483 rfl rfl ?_
  refine z_iconst (pc := 484) o dL_law_484 ic_1 ?_
  refine z_iadd (pc := 485) o dL_law_485 ?_
  refine z_sld (pc := 486) (j := i + 1) o dL_law_486 (nI_k i 1 rfl) (by omega) hN ?_
  refine z_aload_n (pc := 487) o dL_law_487 rfl rfl ?_
  refine z_iload_n (pc := 488) o dL_law_488 rfl rfl ?_
  refine z_iconst (pc := 489) o dL_law_489 ic_2 ?_
  refine z_iadd (pc := 490) o dL_law_490 ?_
  refine z_sld (pc := 491) (j := i + 2) o dL_law_491 (nI_k i 2 rfl) (by omega) hN ?_
  refine z_callM (pc := 492) (As := [.int (xs (i + 1)), .int (xs (i + 2))]) (k0 := 0) (rest := [.int r]) o (tX12_job Γ.1.2.1 Ω.2.1 Ω.2.2.2 0 (xs (i + 1)) (xs (i + 2)) S2 r e2) eX12_job mL_58 clX12 rfl (by decide) rfl rfl (Nat.le_of_ble_eq_true rfl) dL_law_492 ?_
  refine z_icmp_eq (pc := 495) (tgt := 1109) o dL_law_495 (by decide) ?_
  exact K S1 S2 hR'
set_option maxHeartbeats 4000000 in
theorem z_case10 {Γ : xGm} {Ω : zOm} {kc ks b N : Nat} {xs : Nat → Int32} {Rel : xSt → xSt → Prop} (o : zOk Γ Ω kc ks b N xs) (hE : xEq10 Rel) (hN : N ≤ 3072) (i : Nat) (hi : i + 6 ≤ N) (S1 S2 : xSt) (hR : Rel S1 S2) (K : ∀ S1 S2 : xSt, Rel S1 S2 → zAt Γ Ω kc ks 1109 (xlv [(0, .ref b), (1, .ref (Ω.1.2.1 0)), (2, .ref (Ω.2.1.2.1 0)), (3, .int (nI i))]) [] S1 S2) : zAt Γ Ω kc ks 500 (xlv [(0, .ref b), (1, .ref (Ω.1.2.1 0)), (2, .ref (Ω.2.1.2.1 0)), (3, .int (nI i))]) [] S1 S2 := by
  obtain ⟨r, S1', S2', e1, e2, hR'⟩ := hE S1 S2 hR (xs (i + 1)) (xs (i + 2))
  refine z_aload_n (pc := 500) o dL_law_500 rfl rfl ?_
  refine z_aload_n (pc := 501) o dL_law_501 rfl rfl ?_
  refine z_iload_n (pc := 502) o dL_law_502 rfl rfl ?_
  refine z_iconst (pc := 503) o dL_law_503 ic_1 ?_
  refine z_iadd (pc := 504) o dL_law_504 ?_
  refine z_sld (pc := 505) (j := i + 1) o dL_law_505 (nI_k i 1 rfl) (by omega) hN ?_
  refine z_aload_n (pc := 506) o dL_law_506 rfl rfl ?_
  refine z_iload_n (pc := 507) o dL_law_507 rfl rfl ?_
  refine z_iconst (pc := 508) o dL_law_508 ic_2 ?_
  refine z_iadd (pc := 509) o dL_law_509 ?_
  refine z_sld (pc := 510) (j := i + 2) o dL_law_510 (nI_k i 2 rfl) (by omega) hN ?_
  refine z_callC (pc := 511) (As := [.int (xs (i + 1)), .int (xs (i + 2))]) (k0 := 0) (rest := []) o (tX11_later Γ.1.2.1 Ω.1 Ω.2.2.1 xFU 0 (xs (i + 1)) (xs (i + 2)) S1 (r, S1') e1) eX11_later mL_59 clX11 rfl (by decide) rfl rfl (Nat.le_of_ble_eq_true rfl) dL_law_511 ?_
  refine z_aload_n (pc := 514) o dL_law_514 rfl rfl ?_
  refine z_aload_n (pc := 515) o dL_law_515 rfl rfl ?_
  refine z_iload_n (pc := 516) o dL_law_516 rfl rfl ?_
  refine z_iconst (pc := 517) o dL_law_517 ic_1 ?_
  refine z_iadd (pc := 518) o dL_law_518 ?_
  refine z_sld (pc := 519) (j := i + 1) o dL_law_519 (nI_k i 1 rfl) (by omega) hN ?_
  refine z_aload_n (pc := 520) o dL_law_520 rfl rfl ?_
  refine z_iload_n (pc := 521) o dL_law_521 rfl rfl ?_
  refine z_iconst (pc := 522) o dL_law_522 ic_2 ?_
  refine z_iadd (pc := 523) o dL_law_523 ?_
  refine z_sld (pc := 524) (j := i + 2) o dL_law_524 (nI_k i 2 rfl) (by omega) hN ?_
  refine z_callM (pc := 525) (As := [.int (xs (i + 1)), .int (xs (i + 2))]) (k0 := 0) (rest := [.int r]) o (tX12_later Γ.1.2.1 Ω.2.1 Ω.2.2.2 xFU 0 (xs (i + 1)) (xs (i + 2)) S2 (r, S2') e2) eX12_later mL_62 clX12 rfl (by decide) rfl rfl (Nat.le_of_ble_eq_true rfl) dL_law_525 ?_
  refine z_icmp_eq (pc := 528) (tgt := 1109) o dL_law_528 (by decide) ?_
  exact K S1' S2' hR'
set_option maxHeartbeats 4000000 in
theorem z_case11 {Γ : xGm} {Ω : zOm} {kc ks b N : Nat} {xs : Nat → Int32} {Rel : xSt → xSt → Prop} (o : zOk Γ Ω kc ks b N xs) (hE : xEq11 Rel) (hN : N ≤ 3072) (i : Nat) (hi : i + 6 ≤ N) (S1 S2 : xSt) (hR : Rel S1 S2) (K : ∀ S1 S2 : xSt, Rel S1 S2 → zAt Γ Ω kc ks 1109 (xlv [(0, .ref b), (1, .ref (Ω.1.2.1 0)), (2, .ref (Ω.2.1.2.1 0)), (3, .int (nI i))]) [] S1 S2) : zAt Γ Ω kc ks 533 (xlv [(0, .ref b), (1, .ref (Ω.1.2.1 0)), (2, .ref (Ω.2.1.2.1 0)), (3, .int (nI i))]) [] S1 S2 := by
  obtain ⟨r, S1', S2', e1, e2, hR'⟩ := hE S1 S2 hR (xs (i + 1))
  refine z_aload_n (pc := 533) o dL_law_533 rfl rfl ?_
  refine z_aload_n (pc := 534) o dL_law_534 rfl rfl ?_
  refine z_iload_n (pc := 535) o dL_law_535 rfl rfl ?_
  refine z_iconst (pc := 536) o dL_law_536 ic_1 ?_
  refine z_iadd (pc := 537) o dL_law_537 ?_
  refine z_sld (pc := 538) (j := i + 1) o dL_law_538 (nI_k i 1 rfl) (by omega) hN ?_
  refine z_callC (pc := 539) (As := [.int (xs (i + 1))]) (k0 := 0) (rest := []) o (tX11_done Γ.1.2.1 Ω.1 Ω.2.2.1 xFU 0 (xs (i + 1)) S1 (r, S1') e1) eX11_done mL_63 clX11 rfl (by decide) rfl rfl (Nat.le_of_ble_eq_true rfl) dL_law_539 ?_
  refine z_aload_n (pc := 542) o dL_law_542 rfl rfl ?_
  refine z_aload_n (pc := 543) o dL_law_543 rfl rfl ?_
  refine z_iload_n (pc := 544) o dL_law_544 rfl rfl ?_
  refine z_iconst (pc := 545) o dL_law_545 ic_1 ?_
  refine z_iadd (pc := 546) o dL_law_546 ?_
  refine z_sld (pc := 547) (j := i + 1) o dL_law_547 (nI_k i 1 rfl) (by omega) hN ?_
  refine z_callM (pc := 548) (As := [.int (xs (i + 1))]) (k0 := 0) (rest := [.int r]) o (tX12_done Γ.1.2.1 Ω.2.1 Ω.2.2.2 xFU 0 (xs (i + 1)) S2 (r, S2') e2) eX12_done mL_66 clX12 rfl (by decide) rfl rfl (Nat.le_of_ble_eq_true rfl) dL_law_548 ?_
  refine z_icmp_eq (pc := 551) (tgt := 1109) o dL_law_551 (by decide) ?_
  exact K S1' S2' hR'
set_option maxHeartbeats 4000000 in
theorem z_case12 {Γ : xGm} {Ω : zOm} {kc ks b N : Nat} {xs : Nat → Int32} {Rel : xSt → xSt → Prop} (o : zOk Γ Ω kc ks b N xs) (hE : xEq12 Rel) (hN : N ≤ 3072) (i : Nat) (hi : i + 6 ≤ N) (S1 S2 : xSt) (hR : Rel S1 S2) (K : ∀ S1 S2 : xSt, Rel S1 S2 → zAt Γ Ω kc ks 1109 (xlv [(0, .ref b), (1, .ref (Ω.1.2.1 0)), (2, .ref (Ω.2.1.2.1 0)), (3, .int (nI i))]) [] S1 S2) : zAt Γ Ω kc ks 556 (xlv [(0, .ref b), (1, .ref (Ω.1.2.1 0)), (2, .ref (Ω.2.1.2.1 0)), (3, .int (nI i))]) [] S1 S2 := by
  obtain ⟨r, S1', S2', e1, e2, hR'⟩ := hE S1 S2 hR (xs (i + 1))
  refine z_aload_n (pc := 556) o dL_law_556 rfl rfl ?_
  refine z_aload_n (pc := 557) o dL_law_557 rfl rfl ?_
  refine z_iload_n (pc := 558) o dL_law_558 rfl rfl ?_
  refine z_iconst (pc := 559) o dL_law_559 ic_1 ?_
  refine z_iadd (pc := 560) o dL_law_560 ?_
  refine z_sld (pc := 561) (j := i + 1) o dL_law_561 (nI_k i 1 rfl) (by omega) hN ?_
  refine z_callC (pc := 562) (As := [.int (xs (i + 1))]) (k0 := 0) (rest := []) o (tX11_late Γ.1.2.1 Ω.1 Ω.2.2.1 xFU 0 (xs (i + 1)) S1 (r, S1') e1) eX11_late mL_67 clX11 rfl (by decide) rfl rfl (Nat.le_of_ble_eq_true rfl) dL_law_562 ?_
  refine z_aload_n (pc := 565) o dL_law_565 rfl rfl ?_
  refine z_aload_n (pc := 566) o dL_law_566 rfl rfl ?_
  refine z_iload_n (pc := 567) o dL_law_567 rfl rfl ?_
  refine z_iconst (pc := 568) o dL_law_568 ic_1 ?_
  refine z_iadd (pc := 569) o dL_law_569 ?_
  refine z_sld (pc := 570) (j := i + 1) o dL_law_570 (nI_k i 1 rfl) (by omega) hN ?_
  refine z_callM (pc := 571) (As := [.int (xs (i + 1))]) (k0 := 0) (rest := [.int r]) o (tX12_late Γ.1.2.1 Ω.2.1 Ω.2.2.2 xFU 0 (xs (i + 1)) S2 (r, S2') e2) eX12_late mL_70 clX12 rfl (by decide) rfl rfl (Nat.le_of_ble_eq_true rfl) dL_law_571 ?_
  refine z_icmp_eq (pc := 574) (tgt := 1109) o dL_law_574 (by decide) ?_
  exact K S1' S2' hR'
set_option maxHeartbeats 4000000 in
theorem z_case13 {Γ : xGm} {Ω : zOm} {kc ks b N : Nat} {xs : Nat → Int32} {Rel : xSt → xSt → Prop} (o : zOk Γ Ω kc ks b N xs) (hE : xEq13 Rel) (hN : N ≤ 3072) (i : Nat) (hi : i + 6 ≤ N) (S1 S2 : xSt) (hR : Rel S1 S2) (K : ∀ S1 S2 : xSt, Rel S1 S2 → zAt Γ Ω kc ks 1109 (xlv [(0, .ref b), (1, .ref (Ω.1.2.1 0)), (2, .ref (Ω.2.1.2.1 0)), (3, .int (nI i))]) [] S1 S2) : zAt Γ Ω kc ks 579 (xlv [(0, .ref b), (1, .ref (Ω.1.2.1 0)), (2, .ref (Ω.2.1.2.1 0)), (3, .int (nI i))]) [] S1 S2 := by
  obtain ⟨r, S1', S2', e1, e2, hR'⟩ := hE S1 S2 hR (xs (i + 1)) (xs (i + 2))
  refine z_aload_n (pc := 579) o dL_law_579 rfl rfl ?_
  refine z_aload_n (pc := 580) o dL_law_580 rfl rfl ?_
  refine z_iload_n (pc := 581) o dL_law_581 rfl rfl ?_
  refine z_iconst (pc := 582) o dL_law_582 ic_1 ?_
  refine z_iadd (pc := 583) o dL_law_583 ?_
  refine z_sld (pc := 584) (j := i + 1) o dL_law_584 (nI_k i 1 rfl) (by omega) hN ?_
  refine z_aload_n (pc := 585) o dL_law_585 rfl rfl ?_
  refine z_iload_n (pc := 586) o dL_law_586 rfl rfl ?_
  refine z_iconst (pc := 587) o dL_law_587 ic_2 ?_
  refine z_iadd (pc := 588) o dL_law_588 ?_
  refine z_sld (pc := 589) (j := i + 2) o dL_law_589 (nI_k i 2 rfl) (by omega) hN ?_
  refine z_callC (pc := 590) (As := [.int (xs (i + 1)), .int (xs (i + 2))]) (k0 := 0) (rest := []) o (tX11_order Γ.1.2.1 Ω.1 Ω.2.2.1 xFU 0 (xs (i + 1)) (xs (i + 2)) S1 (r, S1') e1) eX11_order mL_71 clX11 rfl (by decide) rfl rfl (Nat.le_of_ble_eq_true rfl) dL_law_590 ?_
  refine z_aload_n (pc := 593) o dL_law_593 rfl rfl ?_
  refine z_aload_n (pc := 594) o dL_law_594 rfl rfl ?_
  refine z_iload_n (pc := 595) o dL_law_595 rfl rfl ?_
  refine z_iconst (pc := 596) o dL_law_596 ic_1 ?_
  refine z_iadd (pc := 597) o dL_law_597 ?_
  refine z_sld (pc := 598) (j := i + 1) o dL_law_598 (nI_k i 1 rfl) (by omega) hN ?_
  refine z_aload_n (pc := 599) o dL_law_599 rfl rfl ?_
  refine z_iload_n (pc := 600) o dL_law_600 rfl rfl ?_
  refine z_iconst (pc := 601) o dL_law_601 ic_2 ?_
  refine z_iadd (pc := 602) o dL_law_602 ?_
  refine z_sld (pc := 603) (j := i + 2) o dL_law_603 (nI_k i 2 rfl) (by omega) hN ?_
  refine z_callM (pc := 604) (As := [.int (xs (i + 1)), .int (xs (i + 2))]) (k0 := 0) (rest := [.int r]) o (tX12_order Γ.1.2.1 Ω.2.1 Ω.2.2.2 xFU 0 (xs (i + 1)) (xs (i + 2)) S2 (r, S2') e2) eX12_order mL_74 clX12 rfl (by decide) rfl rfl (Nat.le_of_ble_eq_true rfl) dL_law_604 ?_
  refine z_icmp_eq (pc := 607) (tgt := 1109) o dL_law_607 (by decide) ?_
  exact K S1' S2' hR'
set_option maxHeartbeats 4000000 in
theorem z_case14 {Γ : xGm} {Ω : zOm} {kc ks b N : Nat} {xs : Nat → Int32} {Rel : xSt → xSt → Prop} (o : zOk Γ Ω kc ks b N xs) (hE : xEq14 Rel) (hN : N ≤ 3072) (i : Nat) (hi : i + 6 ≤ N) (S1 S2 : xSt) (hR : Rel S1 S2) (K : ∀ S1 S2 : xSt, Rel S1 S2 → zAt Γ Ω kc ks 1109 (xlv [(0, .ref b), (1, .ref (Ω.1.2.1 0)), (2, .ref (Ω.2.1.2.1 0)), (3, .int (nI i))]) [] S1 S2) : zAt Γ Ω kc ks 612 (xlv [(0, .ref b), (1, .ref (Ω.1.2.1 0)), (2, .ref (Ω.2.1.2.1 0)), (3, .int (nI i))]) [] S1 S2 := by
  obtain ⟨r, S1', S2', e1, e2, hR'⟩ := hE S1 S2 hR (xs (i + 1)) (xs (i + 2))
  refine z_aload_n (pc := 612) o dL_law_612 rfl rfl ?_
  refine z_aload_n (pc := 613) o dL_law_613 rfl rfl ?_
  refine z_iload_n (pc := 614) o dL_law_614 rfl rfl ?_
  refine z_iconst (pc := 615) o dL_law_615 ic_1 ?_
  refine z_iadd (pc := 616) o dL_law_616 ?_
  refine z_sld (pc := 617) (j := i + 1) o dL_law_617 (nI_k i 1 rfl) (by omega) hN ?_
  refine z_aload_n (pc := 618) o dL_law_618 rfl rfl ?_
  refine z_iload_n (pc := 619) o dL_law_619 rfl rfl ?_
  refine z_iconst (pc := 620) o dL_law_620 ic_2 ?_
  refine z_iadd (pc := 621) o dL_law_621 ?_
  refine z_sld (pc := 622) (j := i + 2) o dL_law_622 (nI_k i 2 rfl) (by omega) hN ?_
  refine z_callC (pc := 623) (As := [.int (xs (i + 1)), .int (xs (i + 2))]) (k0 := 0) (rest := []) o (tX11_moved Γ.1.2.1 Ω.1 Ω.2.2.1 xFU 0 (xs (i + 1)) (xs (i + 2)) S1 (r, S1') e1) eX11_moved mL_75 clX11 rfl (by decide) rfl rfl (Nat.le_of_ble_eq_true rfl) dL_law_623 ?_
  refine z_aload_n (pc := 626) o dL_law_626 rfl rfl ?_
  refine z_aload_n (pc := 627) o dL_law_627 rfl rfl ?_
  refine z_iload_n (pc := 628) o dL_law_628 rfl rfl ?_
  refine z_iconst (pc := 629) o dL_law_629 ic_1 ?_
  refine z_iadd (pc := 630) o dL_law_630 ?_
  refine z_sld (pc := 631) (j := i + 1) o dL_law_631 (nI_k i 1 rfl) (by omega) hN ?_
  refine z_aload_n (pc := 632) o dL_law_632 rfl rfl ?_
  refine z_iload_n (pc := 633) o dL_law_633 rfl rfl ?_
  refine z_iconst (pc := 634) o dL_law_634 ic_2 ?_
  refine z_iadd (pc := 635) o dL_law_635 ?_
  refine z_sld (pc := 636) (j := i + 2) o dL_law_636 (nI_k i 2 rfl) (by omega) hN ?_
  refine z_callM (pc := 637) (As := [.int (xs (i + 1)), .int (xs (i + 2))]) (k0 := 0) (rest := [.int r]) o (tX12_moved Γ.1.2.1 Ω.2.1 Ω.2.2.2 xFU 0 (xs (i + 1)) (xs (i + 2)) S2 (r, S2') e2) eX12_moved mL_78 clX12 rfl (by decide) rfl rfl (Nat.le_of_ble_eq_true rfl) dL_law_637 ?_
  refine z_icmp_eq (pc := 640) (tgt := 1109) o dL_law_640 (by decide) ?_
  exact K S1' S2' hR'
set_option maxHeartbeats 4000000 in
theorem z_case15 {Γ : xGm} {Ω : zOm} {kc ks b N : Nat} {xs : Nat → Int32} {Rel : xSt → xSt → Prop} (o : zOk Γ Ω kc ks b N xs) (hE : xEq15 Rel) (hN : N ≤ 3072) (i : Nat) (hi : i + 6 ≤ N) (S1 S2 : xSt) (hR : Rel S1 S2) (K : ∀ S1 S2 : xSt, Rel S1 S2 → zAt Γ Ω kc ks 1109 (xlv [(0, .ref b), (1, .ref (Ω.1.2.1 0)), (2, .ref (Ω.2.1.2.1 0)), (3, .int (nI i))]) [] S1 S2) : zAt Γ Ω kc ks 645 (xlv [(0, .ref b), (1, .ref (Ω.1.2.1 0)), (2, .ref (Ω.2.1.2.1 0)), (3, .int (nI i))]) [] S1 S2 := by
  obtain ⟨r, S1', S2', e1, e2, hR'⟩ := hE S1 S2 hR (xs (i + 1)) (xs (i + 2)) (xs (i + 3))
  refine z_aload_n (pc := 645) o dL_law_645 rfl rfl ?_
  refine z_aload_n (pc := 646) o dL_law_646 rfl rfl ?_
  refine z_iload_n (pc := 647) o dL_law_647 rfl rfl ?_
  refine z_iconst (pc := 648) o dL_law_648 ic_1 ?_
  refine z_iadd (pc := 649) o dL_law_649 ?_
  refine z_sld (pc := 650) (j := i + 1) o dL_law_650 (nI_k i 1 rfl) (by omega) hN ?_
  refine z_aload_n (pc := 651) o dL_law_651 rfl rfl ?_
  refine z_iload_n (pc := 652) o dL_law_652 rfl rfl ?_
  refine z_iconst (pc := 653) o dL_law_653 ic_2 ?_
  refine z_iadd (pc := 654) o dL_law_654 ?_
  refine z_sld (pc := 655) (j := i + 2) o dL_law_655 (nI_k i 2 rfl) (by omega) hN ?_
  refine z_aload_n (pc := 656) o dL_law_656 rfl rfl ?_
  refine z_iload_n (pc := 657) o dL_law_657 rfl rfl ?_
  refine z_iconst (pc := 658) o dL_law_658 ic_3 ?_
  refine z_iadd (pc := 659) o dL_law_659 ?_
  refine z_sld (pc := 660) (j := i + 3) o dL_law_660 (nI_k i 3 rfl) (by omega) hN ?_
  refine z_callC (pc := 661) (As := [.int (xs (i + 1)), .int (xs (i + 2)), .int (xs (i + 3))]) (k0 := 0) (rest := []) o (tX11_makeshift Γ.1.2.1 Ω.1 Ω.2.2.1 xFU 0 (xs (i + 1)) (xs (i + 2)) (xs (i + 3)) S1 (r, S1') e1) eX11_makeshift mL_79 clX11 rfl (by decide) rfl rfl (Nat.le_of_ble_eq_true rfl) dL_law_661 ?_
  refine z_aload_n (pc := 664) o dL_law_664 rfl rfl ?_
  refine z_aload_n (pc := 665) o dL_law_665 rfl rfl ?_
  refine z_iload_n (pc := 666) o dL_law_666 rfl rfl ?_
  refine z_iconst (pc := 667) o dL_law_667 ic_1 ?_
  refine z_iadd (pc := 668) o dL_law_668 ?_
  refine z_sld (pc := 669) (j := i + 1) o dL_law_669 (nI_k i 1 rfl) (by omega) hN ?_
  refine z_aload_n (pc := 670) o dL_law_670 rfl rfl ?_
  refine z_iload_n (pc := 671) o dL_law_671 rfl rfl ?_
  refine z_iconst (pc := 672) o dL_law_672 ic_2 ?_
  refine z_iadd (pc := 673) o dL_law_673 ?_
  refine z_sld (pc := 674) (j := i + 2) o dL_law_674 (nI_k i 2 rfl) (by omega) hN ?_
  refine z_aload_n (pc := 675) o dL_law_675 rfl rfl ?_
  refine z_iload_n (pc := 676) o dL_law_676 rfl rfl ?_
  refine z_iconst (pc := 677) o dL_law_677 ic_3 ?_
  refine z_iadd (pc := 678) o dL_law_678 ?_
  refine z_sld (pc := 679) (j := i + 3) o dL_law_679 (nI_k i 3 rfl) (by omega) hN ?_
  refine z_callM (pc := 680) (As := [.int (xs (i + 1)), .int (xs (i + 2)), .int (xs (i + 3))]) (k0 := 0) (rest := [.int r]) o (tX12_makeshift Γ.1.2.1 Ω.2.1 Ω.2.2.2 xFU 0 (xs (i + 1)) (xs (i + 2)) (xs (i + 3)) S2 (r, S2') e2) eX12_makeshift mL_82 clX12 rfl (by decide) rfl rfl (Nat.le_of_ble_eq_true rfl) dL_law_680 ?_
  refine z_icmp_eq (pc := 683) (tgt := 1109) o dL_law_683 (by decide) ?_
  exact K S1' S2' hR'
set_option maxHeartbeats 4000000 in
theorem z_case16 {Γ : xGm} {Ω : zOm} {kc ks b N : Nat} {xs : Nat → Int32} {Rel : xSt → xSt → Prop} (o : zOk Γ Ω kc ks b N xs) (hE : xEq16 Rel) (hN : N ≤ 3072) (i : Nat) (hi : i + 6 ≤ N) (S1 S2 : xSt) (hR : Rel S1 S2) (K : ∀ S1 S2 : xSt, Rel S1 S2 → zAt Γ Ω kc ks 1109 (xlv [(0, .ref b), (1, .ref (Ω.1.2.1 0)), (2, .ref (Ω.2.1.2.1 0)), (3, .int (nI i))]) [] S1 S2) : zAt Γ Ω kc ks 688 (xlv [(0, .ref b), (1, .ref (Ω.1.2.1 0)), (2, .ref (Ω.2.1.2.1 0)), (3, .int (nI i))]) [] S1 S2 := by
  obtain ⟨r, S1', S2', e1, e2, hR'⟩ := hE S1 S2 hR (xs (i + 1)) (xs (i + 2))
  refine z_aload_n (pc := 688) o dL_law_688 rfl rfl ?_
  refine z_aload_n (pc := 689) o dL_law_689 rfl rfl ?_
  refine z_iload_n (pc := 690) o dL_law_690 rfl rfl ?_
  refine z_iconst (pc := 691) o dL_law_691 ic_1 ?_
  refine z_iadd (pc := 692) o dL_law_692 ?_
  refine z_sld (pc := 693) (j := i + 1) o dL_law_693 (nI_k i 1 rfl) (by omega) hN ?_
  refine z_aload_n (pc := 694) o dL_law_694 rfl rfl ?_
  refine z_iload_n (pc := 695) o dL_law_695 rfl rfl ?_
  refine z_iconst (pc := 696) o dL_law_696 ic_2 ?_
  refine z_iadd (pc := 697) o dL_law_697 ?_
  refine z_sld (pc := 698) (j := i + 2) o dL_law_698 (nI_k i 2 rfl) (by omega) hN ?_
  refine z_callC (pc := 699) (As := [.int (xs (i + 1)), .int (xs (i + 2))]) (k0 := 0) (rest := []) o (tX11_hangs Γ.1.2.1 Ω.1 Ω.2.2.1 xFU 0 (xs (i + 1)) (xs (i + 2)) S1 (r, S1') e1) eX11_hangs mL_83 clX11 rfl (by decide) rfl rfl (Nat.le_of_ble_eq_true rfl) dL_law_699 ?_
  refine z_aload_n (pc := 702) o dL_law_702 rfl rfl ?_
  refine z_aload_n (pc := 703) o dL_law_703 rfl rfl ?_
  refine z_iload_n (pc := 704) o dL_law_704 rfl rfl ?_
  refine z_iconst (pc := 705) o dL_law_705 ic_1 ?_
  refine z_iadd (pc := 706) o dL_law_706 ?_
  refine z_sld (pc := 707) (j := i + 1) o dL_law_707 (nI_k i 1 rfl) (by omega) hN ?_
  refine z_aload_n (pc := 708) o dL_law_708 rfl rfl ?_
  refine z_iload_n (pc := 709) o dL_law_709 rfl rfl ?_
  refine z_iconst (pc := 710) o dL_law_710 ic_2 ?_
  refine z_iadd (pc := 711) o dL_law_711 ?_
  refine z_sld (pc := 712) (j := i + 2) o dL_law_712 (nI_k i 2 rfl) (by omega) hN ?_
  refine z_callM (pc := 713) (As := [.int (xs (i + 1)), .int (xs (i + 2))]) (k0 := 0) (rest := [.int r]) o (tX12_hangs Γ.1.2.1 Ω.2.1 Ω.2.2.2 xFU 0 (xs (i + 1)) (xs (i + 2)) S2 (r, S2') e2) eX12_hangs mL_86 clX12 rfl (by decide) rfl rfl (Nat.le_of_ble_eq_true rfl) dL_law_713 ?_
  refine z_icmp_eq (pc := 716) (tgt := 1109) o dL_law_716 (by decide) ?_
  exact K S1' S2' hR'
set_option maxHeartbeats 4000000 in
theorem z_case17 {Γ : xGm} {Ω : zOm} {kc ks b N : Nat} {xs : Nat → Int32} {Rel : xSt → xSt → Prop} (o : zOk Γ Ω kc ks b N xs) (hE : xEq17 Rel) (hN : N ≤ 3072) (i : Nat) (hi : i + 6 ≤ N) (S1 S2 : xSt) (hR : Rel S1 S2) (K : ∀ S1 S2 : xSt, Rel S1 S2 → zAt Γ Ω kc ks 1109 (xlv [(0, .ref b), (1, .ref (Ω.1.2.1 0)), (2, .ref (Ω.2.1.2.1 0)), (3, .int (nI i))]) [] S1 S2) : zAt Γ Ω kc ks 721 (xlv [(0, .ref b), (1, .ref (Ω.1.2.1 0)), (2, .ref (Ω.2.1.2.1 0)), (3, .int (nI i))]) [] S1 S2 := by
  obtain ⟨r, S1', S2', e1, e2, hR'⟩ := hE S1 S2 hR (xs (i + 1)) (xs (i + 2))
  refine z_aload_n (pc := 721) o dL_law_721 rfl rfl ?_
  refine z_aload_n (pc := 722) o dL_law_722 rfl rfl ?_
  refine z_iload_n (pc := 723) o dL_law_723 rfl rfl ?_
  refine z_iconst (pc := 724) o dL_law_724 ic_1 ?_
  refine z_iadd (pc := 725) o dL_law_725 ?_
  refine z_sld (pc := 726) (j := i + 1) o dL_law_726 (nI_k i 1 rfl) (by omega) hN ?_
  refine z_aload_n (pc := 727) o dL_law_727 rfl rfl ?_
  refine z_iload_n (pc := 728) o dL_law_728 rfl rfl ?_
  refine z_iconst (pc := 729) o dL_law_729 ic_2 ?_
  refine z_iadd (pc := 730) o dL_law_730 ?_
  refine z_sld (pc := 731) (j := i + 2) o dL_law_731 (nI_k i 2 rfl) (by omega) hN ?_
  refine z_callC (pc := 732) (As := [.int (xs (i + 1)), .int (xs (i + 2))]) (k0 := 0) (rest := []) o (tX11_guard Γ.1.2.1 Ω.1 Ω.2.2.1 xFU 0 (xs (i + 1)) (xs (i + 2)) S1 (r, S1') e1) eX11_guard mL_87 clX11 rfl (by decide) rfl rfl (Nat.le_of_ble_eq_true rfl) dL_law_732 ?_
  refine z_aload_n (pc := 735) o dL_law_735 rfl rfl ?_
  refine z_aload_n (pc := 736) o dL_law_736 rfl rfl ?_
  refine z_iload_n (pc := 737) o dL_law_737 rfl rfl ?_
  refine z_iconst (pc := 738) o dL_law_738 ic_1 ?_
  refine z_iadd (pc := 739) o dL_law_739 ?_
  refine z_sld (pc := 740) (j := i + 1) o dL_law_740 (nI_k i 1 rfl) (by omega) hN ?_
  refine z_aload_n (pc := 741) o dL_law_741 rfl rfl ?_
  refine z_iload_n (pc := 742) o dL_law_742 rfl rfl ?_
  refine z_iconst (pc := 743) o dL_law_743 ic_2 ?_
  refine z_iadd (pc := 744) o dL_law_744 ?_
  refine z_sld (pc := 745) (j := i + 2) o dL_law_745 (nI_k i 2 rfl) (by omega) hN ?_
  refine z_callM (pc := 746) (As := [.int (xs (i + 1)), .int (xs (i + 2))]) (k0 := 0) (rest := [.int r]) o (tX12_guard Γ.1.2.1 Ω.2.1 Ω.2.2.2 xFU 0 (xs (i + 1)) (xs (i + 2)) S2 (r, S2') e2) eX12_guard mL_90 clX12 rfl (by decide) rfl rfl (Nat.le_of_ble_eq_true rfl) dL_law_746 ?_
  refine z_icmp_eq (pc := 749) (tgt := 1109) o dL_law_749 (by decide) ?_
  exact K S1' S2' hR'
set_option maxHeartbeats 4000000 in
theorem z_case18 {Γ : xGm} {Ω : zOm} {kc ks b N : Nat} {xs : Nat → Int32} {Rel : xSt → xSt → Prop} (o : zOk Γ Ω kc ks b N xs) (hE : xEq18 Rel) (hN : N ≤ 3072) (i : Nat) (hi : i + 6 ≤ N) (S1 S2 : xSt) (hR : Rel S1 S2) (K : ∀ S1 S2 : xSt, Rel S1 S2 → zAt Γ Ω kc ks 1109 (xlv [(0, .ref b), (1, .ref (Ω.1.2.1 0)), (2, .ref (Ω.2.1.2.1 0)), (3, .int (nI i))]) [] S1 S2) : zAt Γ Ω kc ks 754 (xlv [(0, .ref b), (1, .ref (Ω.1.2.1 0)), (2, .ref (Ω.2.1.2.1 0)), (3, .int (nI i))]) [] S1 S2 := by
  obtain ⟨r, S1', S2', e1, e2, hR'⟩ := hE S1 S2 hR (xs (i + 1)) (xs (i + 2))
  refine z_aload_n (pc := 754) o dL_law_754 rfl rfl ?_
  refine z_aload_n (pc := 755) o dL_law_755 rfl rfl ?_
  refine z_iload_n (pc := 756) o dL_law_756 rfl rfl ?_
  refine z_iconst (pc := 757) o dL_law_757 ic_1 ?_
  refine z_iadd (pc := 758) o dL_law_758 ?_
  refine z_sld (pc := 759) (j := i + 1) o dL_law_759 (nI_k i 1 rfl) (by omega) hN ?_
  refine z_aload_n (pc := 760) o dL_law_760 rfl rfl ?_
  refine z_iload_n (pc := 761) o dL_law_761 rfl rfl ?_
  refine z_iconst (pc := 762) o dL_law_762 ic_2 ?_
  refine z_iadd (pc := 763) o dL_law_763 ?_
  refine z_sld (pc := 764) (j := i + 2) o dL_law_764 (nI_k i 2 rfl) (by omega) hN ?_
  refine z_callC (pc := 765) (As := [.int (xs (i + 1)), .int (xs (i + 2))]) (k0 := 0) (rest := []) o (tX11_loan Γ.1.2.1 Ω.1 Ω.2.2.1 xFU 0 (xs (i + 1)) (xs (i + 2)) S1 (r, S1') e1) eX11_loan mL_91 clX11 rfl (by decide) rfl rfl (Nat.le_of_ble_eq_true rfl) dL_law_765 ?_
  refine z_aload_n (pc := 768) o dL_law_768 rfl rfl ?_
  refine z_aload_n (pc := 769) o dL_law_769 rfl rfl ?_
  refine z_iload_n (pc := 770) o dL_law_770 rfl rfl ?_
  refine z_iconst (pc := 771) o dL_law_771 ic_1 ?_
  refine z_iadd (pc := 772) o dL_law_772 ?_
  refine z_sld (pc := 773) (j := i + 1) o dL_law_773 (nI_k i 1 rfl) (by omega) hN ?_
  refine z_aload_n (pc := 774) o dL_law_774 rfl rfl ?_
  refine z_iload_n (pc := 775) o dL_law_775 rfl rfl ?_
  refine z_iconst (pc := 776) o dL_law_776 ic_2 ?_
  refine z_iadd (pc := 777) o dL_law_777 ?_
  refine z_sld (pc := 778) (j := i + 2) o dL_law_778 (nI_k i 2 rfl) (by omega) hN ?_
  refine z_callM (pc := 779) (As := [.int (xs (i + 1)), .int (xs (i + 2))]) (k0 := 0) (rest := [.int r]) o (tX12_loan Γ.1.2.1 Ω.2.1 Ω.2.2.2 xFU 0 (xs (i + 1)) (xs (i + 2)) S2 (r, S2') e2) eX12_loan mL_94 clX12 rfl (by decide) rfl rfl (Nat.le_of_ble_eq_true rfl) dL_law_779 ?_
  refine z_icmp_eq (pc := 782) (tgt := 1109) o dL_law_782 (by decide) ?_
  exact K S1' S2' hR'
set_option maxHeartbeats 4000000 in
theorem z_case19 {Γ : xGm} {Ω : zOm} {kc ks b N : Nat} {xs : Nat → Int32} {Rel : xSt → xSt → Prop} (o : zOk Γ Ω kc ks b N xs) (hE : xEq19 Rel) (hN : N ≤ 3072) (i : Nat) (hi : i + 6 ≤ N) (S1 S2 : xSt) (hR : Rel S1 S2) (K : ∀ S1 S2 : xSt, Rel S1 S2 → zAt Γ Ω kc ks 1109 (xlv [(0, .ref b), (1, .ref (Ω.1.2.1 0)), (2, .ref (Ω.2.1.2.1 0)), (3, .int (nI i))]) [] S1 S2) : zAt Γ Ω kc ks 787 (xlv [(0, .ref b), (1, .ref (Ω.1.2.1 0)), (2, .ref (Ω.2.1.2.1 0)), (3, .int (nI i))]) [] S1 S2 := by
  obtain ⟨r, S1', S2', e1, e2, hR'⟩ := hE S1 S2 hR 
  refine z_aload_n (pc := 787) o dL_law_787 rfl rfl ?_
  refine z_callC (pc := 788) (As := []) (k0 := 0) (rest := []) o (tX11_shavings Γ.1.2.1 Ω.1 Ω.2.2.1 xFU 0 S1 (r, S1') e1) eX11_shavings mL_95 clX11 rfl (by decide) rfl rfl (Nat.le_of_ble_eq_true rfl) dL_law_788 ?_
  refine z_aload_n (pc := 791) o dL_law_791 rfl rfl ?_
  refine z_callM (pc := 792) (As := []) (k0 := 0) (rest := [.int r]) o (tX12_shavings Γ.1.2.1 Ω.2.1 Ω.2.2.2 xFU 0 S2 (r, S2') e2) eX12_shavings mL_98 clX12 rfl (by decide) rfl rfl (Nat.le_of_ble_eq_true rfl) dL_law_792 ?_
  refine z_icmp_eq (pc := 795) (tgt := 1109) o dL_law_795 (by decide) ?_
  exact K S1' S2' hR'
set_option maxHeartbeats 4000000 in
theorem z_case20 {Γ : xGm} {Ω : zOm} {kc ks b N : Nat} {xs : Nat → Int32} {Rel : xSt → xSt → Prop} (o : zOk Γ Ω kc ks b N xs) (hE : xEq20 Rel) (hN : N ≤ 3072) (i : Nat) (hi : i + 6 ≤ N) (S1 S2 : xSt) (hR : Rel S1 S2) (K : ∀ S1 S2 : xSt, Rel S1 S2 → zAt Γ Ω kc ks 1109 (xlv [(0, .ref b), (1, .ref (Ω.1.2.1 0)), (2, .ref (Ω.2.1.2.1 0)), (3, .int (nI i))]) [] S1 S2) : zAt Γ Ω kc ks 800 (xlv [(0, .ref b), (1, .ref (Ω.1.2.1 0)), (2, .ref (Ω.2.1.2.1 0)), (3, .int (nI i))]) [] S1 S2 := by
  obtain ⟨r, e1, e2, hR'⟩ := hE S1 S2 hR (xs (i + 1))
  refine z_aload_n (pc := 800) o dL_law_800 rfl rfl ?_
  refine z_aload_n (pc := 801) o dL_law_801 rfl rfl ?_
  refine z_iload_n (pc := 802) o dL_law_802 rfl rfl ?_
  refine z_iconst (pc := 803) o dL_law_803 ic_1 ?_
  refine z_iadd (pc := 804) o dL_law_804 ?_
  refine z_sld (pc := 805) (j := i + 1) o dL_law_805 (nI_k i 1 rfl) (by omega) hN ?_
  refine z_callC (pc := 806) (As := [.int (xs (i + 1))]) (k0 := 0) (rest := []) o (tX11_when Γ.1.2.1 Ω.1 Ω.2.2.1 0 (xs (i + 1)) S1 r e1) eX11_when mL_99 clX11 rfl (by decide) rfl rfl (Nat.le_of_ble_eq_true rfl) dL_law_806 ?_
  refine z_aload_n (pc := 809) o dL_law_809 rfl rfl ?_
  refine z_aload_n (pc := 810) o dL_law_810 rfl rfl ?_
  refine z_iload_n (pc := 811) o dL_law_811 rfl rfl ?_
  refine z_iconst (pc := 812) o dL_law_812 ic_1 ?_
  refine z_iadd (pc := 813) o dL_law_813 ?_
  refine z_sld (pc := 814) (j := i + 1) o dL_law_814 (nI_k i 1 rfl) (by omega) hN ?_
  refine z_callM (pc := 815) (As := [.int (xs (i + 1))]) (k0 := 0) (rest := [.int r]) o (tX12_when Γ.1.2.1 Ω.2.1 Ω.2.2.2 0 (xs (i + 1)) S2 r e2) eX12_when mL_102 clX12 rfl (by decide) rfl rfl (Nat.le_of_ble_eq_true rfl) dL_law_815 ?_
  refine z_icmp_eq (pc := 818) (tgt := 1109) o dL_law_818 (by decide) ?_
  exact K S1 S2 hR'
set_option maxHeartbeats 4000000 in
theorem z_case21 {Γ : xGm} {Ω : zOm} {kc ks b N : Nat} {xs : Nat → Int32} {Rel : xSt → xSt → Prop} (o : zOk Γ Ω kc ks b N xs) (hE : xEq21 Rel) (hN : N ≤ 3072) (i : Nat) (hi : i + 6 ≤ N) (S1 S2 : xSt) (hR : Rel S1 S2) (K : ∀ S1 S2 : xSt, Rel S1 S2 → zAt Γ Ω kc ks 1109 (xlv [(0, .ref b), (1, .ref (Ω.1.2.1 0)), (2, .ref (Ω.2.1.2.1 0)), (3, .int (nI i))]) [] S1 S2) : zAt Γ Ω kc ks 823 (xlv [(0, .ref b), (1, .ref (Ω.1.2.1 0)), (2, .ref (Ω.2.1.2.1 0)), (3, .int (nI i))]) [] S1 S2 := by
  obtain ⟨r, S1', S2', e1, e2, hR'⟩ := hE S1 S2 hR (xs (i + 1))
  refine z_aload_n (pc := 823) o dL_law_823 rfl rfl ?_
  refine z_aload_n (pc := 824) o dL_law_824 rfl rfl ?_
  refine z_iload_n (pc := 825) o dL_law_825 rfl rfl ?_
  refine z_iconst (pc := 826) o dL_law_826 ic_1 ?_
  refine z_iadd (pc := 827) o dL_law_827 ?_
  refine z_sld (pc := 828) (j := i + 1) o dL_law_828 (nI_k i 1 rfl) (by omega) hN ?_
  refine z_callC (pc := 829) (As := [.int (xs (i + 1))]) (k0 := 0) (rest := []) o (tX11_days Γ.1.2.1 Ω.1 Ω.2.2.1 xFU 0 (xs (i + 1)) S1 (r, S1') e1) eX11_days mL_103 clX11 rfl (by decide) rfl rfl (Nat.le_of_ble_eq_true rfl) dL_law_829 ?_
  refine z_aload_n (pc := 832) o dL_law_832 rfl rfl ?_
  refine z_aload_n (pc := 833) o dL_law_833 rfl rfl ?_
  refine z_iload_n (pc := 834) o dL_law_834 rfl rfl ?_
  refine z_iconst (pc := 835) o dL_law_835 ic_1 ?_
  refine z_iadd (pc := 836) o dL_law_836 ?_
  refine z_sld (pc := 837) (j := i + 1) o dL_law_837 (nI_k i 1 rfl) (by omega) hN ?_
  refine z_callM (pc := 838) (As := [.int (xs (i + 1))]) (k0 := 0) (rest := [.int r]) o (tX12_days Γ.1.2.1 Ω.2.1 Ω.2.2.2 xFU 0 (xs (i + 1)) S2 (r, S2') e2) eX12_days mL_106 clX12 rfl (by decide) rfl rfl (Nat.le_of_ble_eq_true rfl) dL_law_838 ?_
  refine z_icmp_eq (pc := 841) (tgt := 1109) o dL_law_841 (by decide) ?_
  exact K S1' S2' hR'
set_option maxHeartbeats 4000000 in
theorem z_case22 {Γ : xGm} {Ω : zOm} {kc ks b N : Nat} {xs : Nat → Int32} {Rel : xSt → xSt → Prop} (o : zOk Γ Ω kc ks b N xs) (hE : xEq22 Rel) (hN : N ≤ 3072) (i : Nat) (hi : i + 6 ≤ N) (S1 S2 : xSt) (hR : Rel S1 S2) (K : ∀ S1 S2 : xSt, Rel S1 S2 → zAt Γ Ω kc ks 1109 (xlv [(0, .ref b), (1, .ref (Ω.1.2.1 0)), (2, .ref (Ω.2.1.2.1 0)), (3, .int (nI i))]) [] S1 S2) : zAt Γ Ω kc ks 846 (xlv [(0, .ref b), (1, .ref (Ω.1.2.1 0)), (2, .ref (Ω.2.1.2.1 0)), (3, .int (nI i))]) [] S1 S2 := by
  obtain ⟨r, S1', S2', e1, e2, hR'⟩ := hE S1 S2 hR (xs (i + 1))
  refine z_aload_n (pc := 846) o dL_law_846 rfl rfl ?_
  refine z_aload_n (pc := 847) o dL_law_847 rfl rfl ?_
  refine z_iload_n (pc := 848) o dL_law_848 rfl rfl ?_
  refine z_iconst (pc := 849) o dL_law_849 ic_1 ?_
  refine z_iadd (pc := 850) o dL_law_850 ?_
  refine z_sld (pc := 851) (j := i + 1) o dL_law_851 (nI_k i 1 rfl) (by omega) hN ?_
  refine z_callC (pc := 852) (As := [.int (xs (i + 1))]) (k0 := 0) (rest := []) o (tX11_chance Γ.1.2.1 Ω.1 Ω.2.2.1 xFU 0 (xs (i + 1)) S1 (r, S1') e1) eX11_chance mL_107 clX11 rfl (by decide) rfl rfl (Nat.le_of_ble_eq_true rfl) dL_law_852 ?_
  refine z_aload_n (pc := 855) o dL_law_855 rfl rfl ?_
  refine z_aload_n (pc := 856) o dL_law_856 rfl rfl ?_
  refine z_iload_n (pc := 857) o dL_law_857 rfl rfl ?_
  refine z_iconst (pc := 858) o dL_law_858 ic_1 ?_
  refine z_iadd (pc := 859) o dL_law_859 ?_
  refine z_sld (pc := 860) (j := i + 1) o dL_law_860 (nI_k i 1 rfl) (by omega) hN ?_
  refine z_callM (pc := 861) (As := [.int (xs (i + 1))]) (k0 := 0) (rest := [.int r]) o (tX12_chance Γ.1.2.1 Ω.2.1 Ω.2.2.2 xFU 0 (xs (i + 1)) S2 (r, S2') e2) eX12_chance mL_110 clX12 rfl (by decide) rfl rfl (Nat.le_of_ble_eq_true rfl) dL_law_861 ?_
  refine z_icmp_eq (pc := 864) (tgt := 1109) o dL_law_864 (by decide) ?_
  exact K S1' S2' hR'
set_option maxHeartbeats 4000000 in
theorem z_case23 {Γ : xGm} {Ω : zOm} {kc ks b N : Nat} {xs : Nat → Int32} {Rel : xSt → xSt → Prop} (o : zOk Γ Ω kc ks b N xs) (hE : xEq23 Rel) (hN : N ≤ 3072) (i : Nat) (hi : i + 6 ≤ N) (S1 S2 : xSt) (hR : Rel S1 S2) (K : ∀ S1 S2 : xSt, Rel S1 S2 → zAt Γ Ω kc ks 1109 (xlv [(0, .ref b), (1, .ref (Ω.1.2.1 0)), (2, .ref (Ω.2.1.2.1 0)), (3, .int (nI i))]) [] S1 S2) : zAt Γ Ω kc ks 869 (xlv [(0, .ref b), (1, .ref (Ω.1.2.1 0)), (2, .ref (Ω.2.1.2.1 0)), (3, .int (nI i))]) [] S1 S2 := by
  obtain ⟨r, S1', S2', e1, e2, hR'⟩ := hE S1 S2 hR (xs (i + 1)) (xs (i + 2))
  refine z_aload_n (pc := 869) o dL_law_869 rfl rfl ?_
  refine z_aload_n (pc := 870) o dL_law_870 rfl rfl ?_
  refine z_iload_n (pc := 871) o dL_law_871 rfl rfl ?_
  refine z_iconst (pc := 872) o dL_law_872 ic_1 ?_
  refine z_iadd (pc := 873) o dL_law_873 ?_
  refine z_sld (pc := 874) (j := i + 1) o dL_law_874 (nI_k i 1 rfl) (by omega) hN ?_
  refine z_aload_n (pc := 875) o dL_law_875 rfl rfl ?_
  refine z_iload_n (pc := 876) o dL_law_876 rfl rfl ?_
  refine z_iconst (pc := 877) o dL_law_877 ic_2 ?_
  refine z_iadd (pc := 878) o dL_law_878 ?_
  refine z_sld (pc := 879) (j := i + 2) o dL_law_879 (nI_k i 2 rfl) (by omega) hN ?_
  refine z_callC (pc := 880) (As := [.int (xs (i + 1)), .int (xs (i + 2))]) (k0 := 0) (rest := []) o (tX11_hold Γ.1.2.1 Ω.1 Ω.2.2.1 0 (xs (i + 1)) (xs (i + 2)) S1 (r, S1') e1) eX11_hold mL_111 clX11 rfl (by decide) rfl rfl (Nat.le_of_ble_eq_true rfl) dL_law_880 ?_
  refine z_aload_n (pc := 883) o dL_law_883 rfl rfl ?_
  refine z_aload_n (pc := 884) o dL_law_884 rfl rfl ?_
  refine z_iload_n (pc := 885) o dL_law_885 rfl rfl ?_
  refine z_iconst (pc := 886) o dL_law_886 ic_1 ?_
  refine z_iadd (pc := 887) o dL_law_887 ?_
  refine z_sld (pc := 888) (j := i + 1) o dL_law_888 (nI_k i 1 rfl) (by omega) hN ?_
  refine z_aload_n (pc := 889) o dL_law_889 rfl rfl ?_
  refine z_iload_n (pc := 890) o dL_law_890 rfl rfl ?_
  refine z_iconst (pc := 891) o dL_law_891 ic_2 ?_
  refine z_iadd (pc := 892) o dL_law_892 ?_
  refine z_sld (pc := 893) (j := i + 2) o dL_law_893 (nI_k i 2 rfl) (by omega) hN ?_
  refine z_callM (pc := 894) (As := [.int (xs (i + 1)), .int (xs (i + 2))]) (k0 := 0) (rest := [.int r]) o (tX12_hold Γ.1.2.1 Ω.2.1 Ω.2.2.2 xFU 0 (xs (i + 1)) (xs (i + 2)) S2 (r, S2') e2) eX12_hold mL_115 clX12 rfl (by decide) rfl rfl (Nat.le_of_ble_eq_true rfl) dL_law_894 ?_
  refine z_icmp_eq (pc := 897) (tgt := 1109) o dL_law_897 (by decide) ?_
  exact K S1' S2' hR'
set_option maxHeartbeats 4000000 in
theorem z_case24 {Γ : xGm} {Ω : zOm} {kc ks b N : Nat} {xs : Nat → Int32} {Rel : xSt → xSt → Prop} (o : zOk Γ Ω kc ks b N xs) (hE : xEq24 Rel) (hN : N ≤ 3072) (i : Nat) (hi : i + 6 ≤ N) (S1 S2 : xSt) (hR : Rel S1 S2) (K : ∀ S1 S2 : xSt, Rel S1 S2 → zAt Γ Ω kc ks 1109 (xlv [(0, .ref b), (1, .ref (Ω.1.2.1 0)), (2, .ref (Ω.2.1.2.1 0)), (3, .int (nI i))]) [] S1 S2) : zAt Γ Ω kc ks 902 (xlv [(0, .ref b), (1, .ref (Ω.1.2.1 0)), (2, .ref (Ω.2.1.2.1 0)), (3, .int (nI i))]) [] S1 S2 := by
  obtain ⟨r, S1', S2', e1, e2, hR'⟩ := hE S1 S2 hR (xs (i + 1)) (xs (i + 2))
  refine z_aload_n (pc := 902) o dL_law_902 rfl rfl ?_
  refine z_aload_n (pc := 903) o dL_law_903 rfl rfl ?_
  refine z_iload_n (pc := 904) o dL_law_904 rfl rfl ?_
  refine z_iconst (pc := 905) o dL_law_905 ic_1 ?_
  refine z_iadd (pc := 906) o dL_law_906 ?_
  refine z_sld (pc := 907) (j := i + 1) o dL_law_907 (nI_k i 1 rfl) (by omega) hN ?_
  refine z_aload_n (pc := 908) o dL_law_908 rfl rfl ?_
  refine z_iload_n (pc := 909) o dL_law_909 rfl rfl ?_
  refine z_iconst (pc := 910) o dL_law_910 ic_2 ?_
  refine z_iadd (pc := 911) o dL_law_911 ?_
  refine z_sld (pc := 912) (j := i + 2) o dL_law_912 (nI_k i 2 rfl) (by omega) hN ?_
  refine z_callC (pc := 913) (As := [.int (xs (i + 1)), .int (xs (i + 2))]) (k0 := 0) (rest := []) o (tX11_swap Γ.1.2.1 Ω.1 Ω.2.2.1 xFU 0 (xs (i + 1)) (xs (i + 2)) S1 (r, S1') e1) eX11_swap mL_116 clX11 rfl (by decide) rfl rfl (Nat.le_of_ble_eq_true rfl) dL_law_913 ?_
  refine z_aload_n (pc := 916) o dL_law_916 rfl rfl ?_
  refine z_aload_n (pc := 917) o dL_law_917 rfl rfl ?_
  refine z_iload_n (pc := 918) o dL_law_918 rfl rfl ?_
  refine z_iconst (pc := 919) o dL_law_919 ic_1 ?_
  refine z_iadd (pc := 920) o dL_law_920 ?_
  refine z_sld (pc := 921) (j := i + 1) o dL_law_921 (nI_k i 1 rfl) (by omega) hN ?_
  refine z_aload_n (pc := 922) o dL_law_922 rfl rfl ?_
  refine z_iload_n (pc := 923) o dL_law_923 rfl rfl ?_
  refine z_iconst (pc := 924) o dL_law_924 ic_2 ?_
  refine z_iadd (pc := 925) o dL_law_925 ?_
  refine z_sld (pc := 926) (j := i + 2) o dL_law_926 (nI_k i 2 rfl) (by omega) hN ?_
  refine z_callM (pc := 927) (As := [.int (xs (i + 1)), .int (xs (i + 2))]) (k0 := 0) (rest := [.int r]) o (tX12_swap Γ.1.2.1 Ω.2.1 Ω.2.2.2 xFU 0 (xs (i + 1)) (xs (i + 2)) S2 (r, S2') e2) eX12_swap mL_119 clX12 rfl (by decide) rfl rfl (Nat.le_of_ble_eq_true rfl) dL_law_927 ?_
  refine z_icmp_eq (pc := 930) (tgt := 1109) o dL_law_930 (by decide) ?_
  exact K S1' S2' hR'
set_option maxHeartbeats 4000000 in
theorem z_case25 {Γ : xGm} {Ω : zOm} {kc ks b N : Nat} {xs : Nat → Int32} {Rel : xSt → xSt → Prop} (o : zOk Γ Ω kc ks b N xs) (hE : xEq25 Rel) (hN : N ≤ 3072) (i : Nat) (hi : i + 6 ≤ N) (S1 S2 : xSt) (hR : Rel S1 S2) (K : ∀ S1 S2 : xSt, Rel S1 S2 → zAt Γ Ω kc ks 1109 (xlv [(0, .ref b), (1, .ref (Ω.1.2.1 0)), (2, .ref (Ω.2.1.2.1 0)), (3, .int (nI i))]) [] S1 S2) : zAt Γ Ω kc ks 935 (xlv [(0, .ref b), (1, .ref (Ω.1.2.1 0)), (2, .ref (Ω.2.1.2.1 0)), (3, .int (nI i))]) [] S1 S2 := by
  obtain ⟨r, S1', S2', e1, e2, hR'⟩ := hE S1 S2 hR (xs (i + 1)) (xs (i + 2))
  refine z_aload_n (pc := 935) o dL_law_935 rfl rfl ?_
  refine z_aload_n (pc := 936) o dL_law_936 rfl rfl ?_
  refine z_iload_n (pc := 937) o dL_law_937 rfl rfl ?_
  refine z_iconst (pc := 938) o dL_law_938 ic_1 ?_
  refine z_iadd (pc := 939) o dL_law_939 ?_
  refine z_sld (pc := 940) (j := i + 1) o dL_law_940 (nI_k i 1 rfl) (by omega) hN ?_
  refine z_aload_n (pc := 941) o dL_law_941 rfl rfl ?_
  refine z_iload_n (pc := 942) o dL_law_942 rfl rfl ?_
  refine z_iconst (pc := 943) o dL_law_943 ic_2 ?_
  refine z_iadd (pc := 944) o dL_law_944 ?_
  refine z_sld (pc := 945) (j := i + 2) o dL_law_945 (nI_k i 2 rfl) (by omega) hN ?_
  refine z_callC (pc := 946) (As := [.int (xs (i + 1)), .int (xs (i + 2))]) (k0 := 0) (rest := []) o (tX11_due Γ.1.2.1 Ω.1 Ω.2.2.1 0 (xs (i + 1)) (xs (i + 2)) S1 (r, S1') e1) eX11_due mL_120 clX11 rfl (by decide) rfl rfl (Nat.le_of_ble_eq_true rfl) dL_law_946 ?_
  refine z_aload_n (pc := 949) o dL_law_949 rfl rfl ?_
  refine z_aload_n (pc := 950) o dL_law_950 rfl rfl ?_
  refine z_iload_n (pc := 951) o dL_law_951 rfl rfl ?_
  refine z_iconst (pc := 952) o dL_law_952 ic_1 ?_
  refine z_iadd (pc := 953) o dL_law_953 ?_
  refine z_sld (pc := 954) (j := i + 1) o dL_law_954 (nI_k i 1 rfl) (by omega) hN ?_
  refine z_aload_n (pc := 955) o dL_law_955 rfl rfl ?_
  refine z_iload_n (pc := 956) o dL_law_956 rfl rfl ?_
  refine z_iconst (pc := 957) o dL_law_957 ic_2 ?_
  refine z_iadd (pc := 958) o dL_law_958 ?_
  refine z_sld (pc := 959) (j := i + 2) o dL_law_959 (nI_k i 2 rfl) (by omega) hN ?_
  refine z_callM (pc := 960) (As := [.int (xs (i + 1)), .int (xs (i + 2))]) (k0 := 0) (rest := [.int r]) o (tX12_due Γ.1.2.1 Ω.2.1 Ω.2.2.2 xFU 0 (xs (i + 1)) (xs (i + 2)) S2 (r, S2') e2) eX12_due mL_123 clX12 rfl (by decide) rfl rfl (Nat.le_of_ble_eq_true rfl) dL_law_960 ?_
  refine z_icmp_eq (pc := 963) (tgt := 1109) o dL_law_963 (by decide) ?_
  exact K S1' S2' hR'
set_option maxHeartbeats 4000000 in
theorem z_case26 {Γ : xGm} {Ω : zOm} {kc ks b N : Nat} {xs : Nat → Int32} {Rel : xSt → xSt → Prop} (o : zOk Γ Ω kc ks b N xs) (hE : xEq26 Rel) (hN : N ≤ 3072) (i : Nat) (hi : i + 6 ≤ N) (S1 S2 : xSt) (hR : Rel S1 S2) (K : ∀ S1 S2 : xSt, Rel S1 S2 → zAt Γ Ω kc ks 1109 (xlv [(0, .ref b), (1, .ref (Ω.1.2.1 0)), (2, .ref (Ω.2.1.2.1 0)), (3, .int (nI i))]) [] S1 S2) : zAt Γ Ω kc ks 968 (xlv [(0, .ref b), (1, .ref (Ω.1.2.1 0)), (2, .ref (Ω.2.1.2.1 0)), (3, .int (nI i))]) [] S1 S2 := by
  obtain ⟨r, S1', S2', e1, e2, hR'⟩ := hE S1 S2 hR 
  refine z_aload_n (pc := 968) o dL_law_968 rfl rfl ?_
  refine z_callC (pc := 969) (As := []) (k0 := 0) (rest := []) o (tX11_undo Γ.1.2.1 Ω.1 Ω.2.2.1 0 S1 (r, S1') e1) eX11_undo mL_124 clX11 rfl (by decide) rfl rfl (Nat.le_of_ble_eq_true rfl) dL_law_969 ?_
  refine z_aload_n (pc := 972) o dL_law_972 rfl rfl ?_
  refine z_callM (pc := 973) (As := []) (k0 := 0) (rest := [.int r]) o (tX12_undo Γ.1.2.1 Ω.2.1 Ω.2.2.2 xFU 0 S2 (r, S2') e2) eX12_undo mL_128 clX12 rfl (by decide) rfl rfl (Nat.le_of_ble_eq_true rfl) dL_law_973 ?_
  refine z_icmp_eq (pc := 976) (tgt := 1109) o dL_law_976 (by decide) ?_
  exact K S1' S2' hR'
set_option maxHeartbeats 4000000 in
theorem z_case27 {Γ : xGm} {Ω : zOm} {kc ks b N : Nat} {xs : Nat → Int32} {Rel : xSt → xSt → Prop} (o : zOk Γ Ω kc ks b N xs) (hE : xEq27 Rel) (hN : N ≤ 3072) (i : Nat) (hi : i + 6 ≤ N) (S1 S2 : xSt) (hR : Rel S1 S2) (K : ∀ S1 S2 : xSt, Rel S1 S2 → zAt Γ Ω kc ks 1109 (xlv [(0, .ref b), (1, .ref (Ω.1.2.1 0)), (2, .ref (Ω.2.1.2.1 0)), (3, .int (nI i))]) [] S1 S2) : zAt Γ Ω kc ks 981 (xlv [(0, .ref b), (1, .ref (Ω.1.2.1 0)), (2, .ref (Ω.2.1.2.1 0)), (3, .int (nI i))]) [] S1 S2 := by
  obtain ⟨r, S1', S2', e1, e2, hR'⟩ := hE S1 S2 hR (xs (i + 1))
  refine z_aload_n (pc := 981) o dL_law_981 rfl rfl ?_
  refine z_aload_n (pc := 982) o dL_law_982 rfl rfl ?_
  refine z_iload_n (pc := 983) o dL_law_983 rfl rfl ?_
  refine z_iconst (pc := 984) o dL_law_984 ic_1 ?_
  refine z_iadd (pc := 985) o dL_law_985 ?_
  refine z_sld (pc := 986) (j := i + 1) o dL_law_986 (nI_k i 1 rfl) (by omega) hN ?_
  refine z_callC (pc := 987) (As := [.int (xs (i + 1))]) (k0 := 0) (rest := []) o (tX11_seed Γ.1.2.1 Ω.1 Ω.2.2.1 0 (xs (i + 1)) S1 (r, S1') e1) eX11_seed mL_129 clX11 rfl (by decide) rfl rfl (Nat.le_of_ble_eq_true rfl) dL_law_987 ?_
  refine z_aload_n (pc := 990) o dL_law_990 rfl rfl ?_
  refine z_aload_n (pc := 991) o dL_law_991 rfl rfl ?_
  refine z_iload_n (pc := 992) o dL_law_992 rfl rfl ?_
  refine z_iconst (pc := 993) o dL_law_993 ic_1 ?_
  refine z_iadd (pc := 994) o dL_law_994 ?_
  refine z_sld (pc := 995) (j := i + 1) o dL_law_995 (nI_k i 1 rfl) (by omega) hN ?_
  refine z_callM (pc := 996) (As := [.int (xs (i + 1))]) (k0 := 0) (rest := [.int r]) o (tX12_seed Γ.1.2.1 Ω.2.1 Ω.2.2.2 0 (xs (i + 1)) S2 (r, S2') e2) eX12_seed mL_132 clX12 rfl (by decide) rfl rfl (Nat.le_of_ble_eq_true rfl) dL_law_996 ?_
  refine z_icmp_eq (pc := 999) (tgt := 1109) o dL_law_999 (by decide) ?_
  exact K S1' S2' hR'
set_option maxHeartbeats 4000000 in
theorem z_case28 {Γ : xGm} {Ω : zOm} {kc ks b N : Nat} {xs : Nat → Int32} {Rel : xSt → xSt → Prop} (o : zOk Γ Ω kc ks b N xs) (hE : xEq28 Rel) (hN : N ≤ 3072) (i : Nat) (hi : i + 6 ≤ N) (S1 S2 : xSt) (hR : Rel S1 S2) (K : ∀ S1 S2 : xSt, Rel S1 S2 → zAt Γ Ω kc ks 1109 (xlv [(0, .ref b), (1, .ref (Ω.1.2.1 0)), (2, .ref (Ω.2.1.2.1 0)), (3, .int (nI i))]) [] S1 S2) : zAt Γ Ω kc ks 1004 (xlv [(0, .ref b), (1, .ref (Ω.1.2.1 0)), (2, .ref (Ω.2.1.2.1 0)), (3, .int (nI i))]) [] S1 S2 := by
  obtain ⟨r, e1, e2, hR'⟩ := hE S1 S2 hR (xs (i + 1)) (xs (i + 2))
  refine z_aload_n (pc := 1004) o dL_law_1004 rfl rfl ?_
  refine z_aload_n (pc := 1005) o dL_law_1005 rfl rfl ?_
  refine z_iload_n (pc := 1006) o dL_law_1006 rfl rfl ?_
  refine z_iconst (pc := 1007) o dL_law_1007 ic_1 ?_
  refine z_iadd (pc := 1008) o dL_law_1008 ?_
  refine z_sld (pc := 1009) (j := i + 1) o dL_law_1009 (nI_k i 1 rfl) (by omega) hN ?_
  refine z_aload_n (pc := 1010) o dL_law_1010 rfl rfl ?_
  refine z_iload_n (pc := 1011) o dL_law_1011 rfl rfl ?_
  refine z_iconst (pc := 1012) o dL_law_1012 ic_2 ?_
  refine z_iadd (pc := 1013) o dL_law_1013 ?_
  refine z_sld (pc := 1014) (j := i + 2) o dL_law_1014 (nI_k i 2 rfl) (by omega) hN ?_
  refine z_callC (pc := 1015) (As := [.int (xs (i + 1)), .int (xs (i + 2))]) (k0 := 0) (rest := []) o (tX11_kept Γ.1.2.1 Ω.1 Ω.2.2.1 0 (xs (i + 1)) (xs (i + 2)) S1 r e1) eX11_kept mL_133 clX11 rfl (by decide) rfl rfl (Nat.le_of_ble_eq_true rfl) dL_law_1015 ?_
  refine z_aload_n (pc := 1018) o dL_law_1018 rfl rfl ?_
  refine z_aload_n (pc := 1019) o dL_law_1019 rfl rfl ?_
  refine z_iload_n (pc := 1020) o dL_law_1020 rfl rfl ?_
  refine z_iconst (pc := 1021) o dL_law_1021 ic_1 ?_
  refine z_iadd (pc := 1022) o dL_law_1022 ?_
  refine z_sld (pc := 1023) (j := i + 1) o dL_law_1023 (nI_k i 1 rfl) (by omega) hN ?_
  refine z_aload_n (pc := 1024) o dL_law_1024 rfl rfl ?_
  refine z_iload_n (pc := 1025) o dL_law_1025 rfl rfl ?_
  refine z_iconst (pc := 1026) o dL_law_1026 ic_2 ?_
  refine z_iadd (pc := 1027) o dL_law_1027 ?_
  refine z_sld (pc := 1028) (j := i + 2) o dL_law_1028 (nI_k i 2 rfl) (by omega) hN ?_
  refine z_callM (pc := 1029) (As := [.int (xs (i + 1)), .int (xs (i + 2))]) (k0 := 0) (rest := [.int r]) o (tX12_kept Γ.1.2.1 Ω.2.1 Ω.2.2.2 0 (xs (i + 1)) (xs (i + 2)) S2 r e2) eX12_kept mL_136 clX12 rfl (by decide) rfl rfl (Nat.le_of_ble_eq_true rfl) dL_law_1029 ?_
  refine z_icmp_eq (pc := 1032) (tgt := 1109) o dL_law_1032 (by decide) ?_
  exact K S1 S2 hR'
set_option maxHeartbeats 4000000 in
theorem z_case29 {Γ : xGm} {Ω : zOm} {kc ks b N : Nat} {xs : Nat → Int32} {Rel : xSt → xSt → Prop} (o : zOk Γ Ω kc ks b N xs) (hE : xEq29 Rel) (hN : N ≤ 3072) (i : Nat) (hi : i + 6 ≤ N) (S1 S2 : xSt) (hR : Rel S1 S2) (K : ∀ S1 S2 : xSt, Rel S1 S2 → zAt Γ Ω kc ks 1109 (xlv [(0, .ref b), (1, .ref (Ω.1.2.1 0)), (2, .ref (Ω.2.1.2.1 0)), (3, .int (nI i))]) [] S1 S2) : zAt Γ Ω kc ks 1037 (xlv [(0, .ref b), (1, .ref (Ω.1.2.1 0)), (2, .ref (Ω.2.1.2.1 0)), (3, .int (nI i))]) [] S1 S2 := by
  obtain ⟨r, S1', S2', e1, e2, hR'⟩ := hE S1 S2 hR 
  refine z_aload_n (pc := 1037) o dL_law_1037 rfl rfl ?_
  refine z_callC (pc := 1038) (As := []) (k0 := 0) (rest := []) o (tX11_image Γ.1.2.1 Ω.1 Ω.2.2.1 xFU 0 S1 (r, S1') e1) eX11_image mL_137 clX11 rfl (by decide) rfl rfl (Nat.le_of_ble_eq_true rfl) dL_law_1038 ?_
  refine z_aload_n (pc := 1041) o dL_law_1041 rfl rfl ?_
  refine z_callM (pc := 1042) (As := []) (k0 := 0) (rest := [.int r]) o (tX12_image Γ.1.2.1 Ω.2.1 Ω.2.2.2 xFU 0 S2 (r, S2') e2) eX12_image mL_140 clX12 rfl (by decide) rfl rfl (Nat.le_of_ble_eq_true rfl) dL_law_1042 ?_
  refine z_icmp_eq (pc := 1045) (tgt := 1109) o dL_law_1045 (by decide) ?_
  exact K S1' S2' hR'
set_option maxHeartbeats 4000000 in
theorem z_case30 {Γ : xGm} {Ω : zOm} {kc ks b N : Nat} {xs : Nat → Int32} {Rel : xSt → xSt → Prop} (o : zOk Γ Ω kc ks b N xs) (hE : xEq30 Rel) (hN : N ≤ 3072) (i : Nat) (hi : i + 6 ≤ N) (S1 S2 : xSt) (hR : Rel S1 S2) (K : ∀ S1 S2 : xSt, Rel S1 S2 → zAt Γ Ω kc ks 1109 (xlv [(0, .ref b), (1, .ref (Ω.1.2.1 0)), (2, .ref (Ω.2.1.2.1 0)), (3, .int (nI i))]) [] S1 S2) : zAt Γ Ω kc ks 1050 (xlv [(0, .ref b), (1, .ref (Ω.1.2.1 0)), (2, .ref (Ω.2.1.2.1 0)), (3, .int (nI i))]) [] S1 S2 := by
  obtain ⟨r, e1, e2, hR'⟩ := hE S1 S2 hR (xs (i + 1))
  refine z_aload_n (pc := 1050) o dL_law_1050 rfl rfl ?_
  refine z_aload_n (pc := 1051) o dL_law_1051 rfl rfl ?_
  refine z_iload_n (pc := 1052) o dL_law_1052 rfl rfl ?_
  refine z_iconst (pc := 1053) o dL_law_1053 ic_1 ?_
  refine z_iadd (pc := 1054) o dL_law_1054 ?_
  refine z_sld (pc := 1055) (j := i + 1) o dL_law_1055 (nI_k i 1 rfl) (by omega) hN ?_
  refine z_callC (pc := 1056) (As := [.int (xs (i + 1))]) (k0 := 0) (rest := []) o (tX11_octet Γ.1.2.1 Ω.1 Ω.2.2.1 0 (xs (i + 1)) S1 r e1) eX11_octet mL_141 clX11 rfl (by decide) rfl rfl (Nat.le_of_ble_eq_true rfl) dL_law_1056 ?_
  refine z_aload_n (pc := 1059) o dL_law_1059 rfl rfl ?_
  refine z_aload_n (pc := 1060) o dL_law_1060 rfl rfl ?_
  refine z_iload_n (pc := 1061) o dL_law_1061 rfl rfl ?_
  refine z_iconst (pc := 1062) o dL_law_1062 ic_1 ?_
  refine z_iadd (pc := 1063) o dL_law_1063 ?_
  refine z_sld (pc := 1064) (j := i + 1) o dL_law_1064 (nI_k i 1 rfl) (by omega) hN ?_
  refine z_callM (pc := 1065) (As := [.int (xs (i + 1))]) (k0 := 0) (rest := [.int r]) o (tX12_octet Γ.1.2.1 Ω.2.1 Ω.2.2.2 0 (xs (i + 1)) S2 r e2) eX12_octet mL_144 clX12 rfl (by decide) rfl rfl (Nat.le_of_ble_eq_true rfl) dL_law_1065 ?_
  refine z_icmp_eq (pc := 1068) (tgt := 1109) o dL_law_1068 (by decide) ?_
  exact K S1 S2 hR'
set_option maxHeartbeats 4000000 in
theorem z_case31 {Γ : xGm} {Ω : zOm} {kc ks b N : Nat} {xs : Nat → Int32} {Rel : xSt → xSt → Prop} (o : zOk Γ Ω kc ks b N xs) (hE : xEq31 Rel) (hN : N ≤ 3072) (i : Nat) (hi : i + 6 ≤ N) (S1 S2 : xSt) (hR : Rel S1 S2) (K : ∀ S1 S2 : xSt, Rel S1 S2 → zAt Γ Ω kc ks 1109 (xlv [(0, .ref b), (1, .ref (Ω.1.2.1 0)), (2, .ref (Ω.2.1.2.1 0)), (3, .int (nI i))]) [] S1 S2) : zAt Γ Ω kc ks 1073 (xlv [(0, .ref b), (1, .ref (Ω.1.2.1 0)), (2, .ref (Ω.2.1.2.1 0)), (3, .int (nI i))]) [] S1 S2 := by
  obtain ⟨r, S1', S2', e1, e2, hR'⟩ := hE S1 S2 hR 
  refine z_aload_n (pc := 1073) o dL_law_1073 rfl rfl ?_
  refine z_callC (pc := 1074) (As := []) (k0 := 0) (rest := []) o (tX11_on Γ.1.2.1 Ω.1 Ω.2.2.1 xFU 0 S1 (r, S1') e1) eX11_on mL_145 clX11 rfl (by decide) rfl rfl (Nat.le_of_ble_eq_true rfl) dL_law_1074 ?_
  refine z_aload_n (pc := 1077) o dL_law_1077 rfl rfl ?_
  refine z_callM (pc := 1078) (As := []) (k0 := 0) (rest := [.int r]) o (tX12_on Γ.1.2.1 Ω.2.1 Ω.2.2.2 xFU 0 S2 (r, S2') e2) eX12_on mL_148 clX12 rfl (by decide) rfl rfl (Nat.le_of_ble_eq_true rfl) dL_law_1078 ?_
  refine z_icmp_eq (pc := 1081) (tgt := 1109) o dL_law_1081 (by decide) ?_
  exact K S1' S2' hR'
set_option maxHeartbeats 4000000 in
theorem z_case32 {Γ : xGm} {Ω : zOm} {kc ks b N : Nat} {xs : Nat → Int32} {Rel : xSt → xSt → Prop} (o : zOk Γ Ω kc ks b N xs) (hE : xEq32 Rel) (hN : N ≤ 3072) (i : Nat) (hi : i + 6 ≤ N) (S1 S2 : xSt) (hR : Rel S1 S2) (K : ∀ S1 S2 : xSt, Rel S1 S2 → zAt Γ Ω kc ks 1109 (xlv [(0, .ref b), (1, .ref (Ω.1.2.1 0)), (2, .ref (Ω.2.1.2.1 0)), (3, .int (nI i))]) [] S1 S2) : zAt Γ Ω kc ks 1086 (xlv [(0, .ref b), (1, .ref (Ω.1.2.1 0)), (2, .ref (Ω.2.1.2.1 0)), (3, .int (nI i))]) [] S1 S2 := by
  obtain ⟨r, e1, e2, hR'⟩ := hE S1 S2 hR (xs (i + 1))
  refine z_aload_n (pc := 1086) o dL_law_1086 rfl rfl ?_
  refine z_aload_n (pc := 1087) o dL_law_1087 rfl rfl ?_
  refine z_iload_n (pc := 1088) o dL_law_1088 rfl rfl ?_
  refine z_iconst (pc := 1089) o dL_law_1089 ic_1 ?_
  refine z_iadd (pc := 1090) o dL_law_1090 ?_
  refine z_sld (pc := 1091) (j := i + 1) o dL_law_1091 (nI_k i 1 rfl) (by omega) hN ?_
  refine z_callC (pc := 1092) (As := [.int (xs (i + 1))]) (k0 := 0) (rest := []) o (tX11_status Γ.1.2.1 Ω.1 Ω.2.2.1 0 (xs (i + 1)) S1 r e1) eX11_status mL_149 clX11 rfl (by decide) rfl rfl (Nat.le_of_ble_eq_true rfl) dL_law_1092 ?_
  refine z_aload_n (pc := 1095) o dL_law_1095 rfl rfl ?_
  refine z_aload_n (pc := 1096) o dL_law_1096 rfl rfl ?_
  refine z_iload_n (pc := 1097) o dL_law_1097 rfl rfl ?_
  refine z_iconst (pc := 1098) o dL_law_1098 ic_1 ?_
  refine z_iadd (pc := 1099) o dL_law_1099 ?_
  refine z_sld (pc := 1100) (j := i + 1) o dL_law_1100 (nI_k i 1 rfl) (by omega) hN ?_
  refine z_callM (pc := 1101) (As := [.int (xs (i + 1))]) (k0 := 0) (rest := [.int r]) o (tX12_status Γ.1.2.1 Ω.2.1 Ω.2.2.2 0 (xs (i + 1)) S2 r e2) eX12_status mL_152 clX12 rfl (by decide) rfl rfl (Nat.le_of_ble_eq_true rfl) dL_law_1101 ?_
  refine z_icmp_eq (pc := 1104) (tgt := 1109) o dL_law_1104 (by decide) ?_
  exact K S1 S2 hR'
set_option maxHeartbeats 4000000 in
theorem z_loop {Γ : xGm} {Ω : zOm} {kc ks b N : Nat} {xs : Nat → Int32} {Rel : xSt → xSt → Prop} (o : zOk Γ Ω kc ks b N xs) (hnL : Γ.2.2.2 = 4) (hE : xEq Rel) (hN : N ≤ 3072) (hend : ∀ (L : Nat → Option Value) (S1 S2 : xSt), zAt Γ Ω kc ks 1115 L [] S1 S2) : ∀ (n i : Nat), i ≤ N + 6 → N + 12 ≤ i + n → zHead Γ Ω kc ks b N Rel i := by
  intro n
  induction n with
  | zero => intro i h1 h2; omega
  | succ n ih =>
    intro i h1 h2 S1 S2 hR
    refine z_iload_n (pc := 18) o dL_law_18 rfl rfl ?_
    refine z_aload_n (pc := 19) o dL_law_19 rfl rfl ?_
    refine z_slen (pc := 20) o dL_law_20 ?_
    refine z_bipush (pc := 21) o dL_law_21 bp_6 ?_
    refine z_isub (pc := 23) o dL_law_23 ?_
    refine z_icmp_gt (pc := 24) (tgt := 1115) o dL_law_24 (by decide) (fun _ => hend _ S1 S2) (fun c1 => ?_)
    have hi : i + 6 ≤ N := by
      have e1 : (Int32.ofNat N - 6).toInt = (N : Int) - 6 := pk_sub_toInt (a := N) (b := 6) (by omega) (by omega)
      have e2 : (nI i).toInt = (i : Int) := nI_toInt (by omega)
      have h3 : ¬ (Int32.ofNat N - 6).toInt < (nI i).toInt := fun h => c1 (Int32.lt_iff_toInt_lt.mpr h)
      omega
    have K : ∀ S1 S2 : xSt, Rel S1 S2 → zAt Γ Ω kc ks 1109 (xlv [(0, .ref b), (1, .ref (Ω.1.2.1 0)), (2, .ref (Ω.2.1.2.1 0)), (3, .int (nI i))]) [] S1 S2 := by
      intro S1 S2 hR
      refine z_iinc (pc := 1109) (v := nI (i + 6)) o dL_law_1109 rfl (nI_k i 6 rfl) (by omega) ?_
      refine z_goto (pc := 1112) (tgt := 18) o dL_law_1112 (by decide) ?_
      refine z_to (l := [(0, .ref b), (1, .ref (Ω.1.2.1 0)), (2, .ref (Ω.2.1.2.1 0)), (3, .int (nI (i + 6)))]) ⟨rfl, rfl, rfl, rfl, trivial⟩ ?_
      exact ih (i + 6) (by omega) (by omega) S1 S2 hR
    refine z_aload_n (pc := 27) o dL_law_27 rfl rfl ?_
    refine z_iload_n (pc := 28) o dL_law_28 rfl rfl ?_
    refine z_sld (pc := 29) (j := i) o dL_law_29 rfl (by omega) hN ?_
    refine z_bipush (pc := 30) o dL_law_30 bp_63 ?_
    refine z_iand (pc := 32) o dL_law_32 ?_
    obtain ⟨j, hj, ej⟩ := pk_andE (xs i) (m := 63) 6 rfl
    rw [ej]
    have hT : (nI j).toInt = (j : Int) := nI_toInt (by omega)
    by_cases c0 : j = 0
    · subst c0
      refine z_tableIn (pc := 33) (tgt := 180) o dL_law_33 (by rw [hT]; decide) (by rw [hT]; decide) (by rw [hT]; rfl) (by decide) ?_
      exact z_case0 o hE.1 hN i hi S1 S2 hR K
    by_cases c1 : j = 1
    · subst c1
      refine z_tableIn (pc := 33) (tgt := 243) o dL_law_33 (by rw [hT]; decide) (by rw [hT]; decide) (by rw [hT]; rfl) (by decide) ?_
      exact z_case1 o hE.2.1 hN i hi S1 S2 hR K
    by_cases c2 : j = 2
    · subst c2
      refine z_tableIn (pc := 33) (tgt := 266) o dL_law_33 (by rw [hT]; decide) (by rw [hT]; decide) (by rw [hT]; rfl) (by decide) ?_
      exact z_case2 o hE.2.2.1 hN i hi S1 S2 hR K
    by_cases c3 : j = 3
    · subst c3
      refine z_tableIn (pc := 33) (tgt := 279) o dL_law_33 (by rw [hT]; decide) (by rw [hT]; decide) (by rw [hT]; rfl) (by decide) ?_
      exact z_case3 o hE.2.2.2.1 hN i hi S1 S2 hR K
    by_cases c4 : j = 4
    · subst c4
      refine z_tableIn (pc := 33) (tgt := 302) o dL_law_33 (by rw [hT]; decide) (by rw [hT]; decide) (by rw [hT]; rfl) (by decide) ?_
      exact z_case4 o hE.2.2.2.2.1 hN i hi S1 S2 hR K
    by_cases c5 : j = 5
    · subst c5
      refine z_tableIn (pc := 33) (tgt := 325) o dL_law_33 (by rw [hT]; decide) (by rw [hT]; decide) (by rw [hT]; rfl) (by decide) ?_
      exact z_case5 o hE.2.2.2.2.2.1 hN i hi S1 S2 hR K
    by_cases c6 : j = 6
    · subst c6
      refine z_tableIn (pc := 33) (tgt := 368) o dL_law_33 (by rw [hT]; decide) (by rw [hT]; decide) (by rw [hT]; rfl) (by decide) ?_
      exact z_case6 o hE.2.2.2.2.2.2.1 hN i hi S1 S2 hR K
    by_cases c7 : j = 7
    · subst c7
      refine z_tableIn (pc := 33) (tgt := 401) o dL_law_33 (by rw [hT]; decide) (by rw [hT]; decide) (by rw [hT]; rfl) (by decide) ?_
      exact z_case7 o hE.2.2.2.2.2.2.2.1 hN i hi S1 S2 hR K
    by_cases c8 : j = 8
    · subst c8
      refine z_tableIn (pc := 33) (tgt := 434) o dL_law_33 (by rw [hT]; decide) (by rw [hT]; decide) (by rw [hT]; rfl) (by decide) ?_
      exact z_case8 o hE.2.2.2.2.2.2.2.2.1 hN i hi S1 S2 hR K
    by_cases c9 : j = 9
    · subst c9
      refine z_tableIn (pc := 33) (tgt := 467) o dL_law_33 (by rw [hT]; decide) (by rw [hT]; decide) (by rw [hT]; rfl) (by decide) ?_
      exact z_case9 o hE.2.2.2.2.2.2.2.2.2.1 hN i hi S1 S2 hR K
    by_cases c10 : j = 10
    · subst c10
      refine z_tableIn (pc := 33) (tgt := 500) o dL_law_33 (by rw [hT]; decide) (by rw [hT]; decide) (by rw [hT]; rfl) (by decide) ?_
      exact z_case10 o hE.2.2.2.2.2.2.2.2.2.2.1 hN i hi S1 S2 hR K
    by_cases c11 : j = 11
    · subst c11
      refine z_tableIn (pc := 33) (tgt := 533) o dL_law_33 (by rw [hT]; decide) (by rw [hT]; decide) (by rw [hT]; rfl) (by decide) ?_
      exact z_case11 o hE.2.2.2.2.2.2.2.2.2.2.2.1 hN i hi S1 S2 hR K
    by_cases c12 : j = 12
    · subst c12
      refine z_tableIn (pc := 33) (tgt := 556) o dL_law_33 (by rw [hT]; decide) (by rw [hT]; decide) (by rw [hT]; rfl) (by decide) ?_
      exact z_case12 o hE.2.2.2.2.2.2.2.2.2.2.2.2.1 hN i hi S1 S2 hR K
    by_cases c13 : j = 13
    · subst c13
      refine z_tableIn (pc := 33) (tgt := 579) o dL_law_33 (by rw [hT]; decide) (by rw [hT]; decide) (by rw [hT]; rfl) (by decide) ?_
      exact z_case13 o hE.2.2.2.2.2.2.2.2.2.2.2.2.2.1 hN i hi S1 S2 hR K
    by_cases c14 : j = 14
    · subst c14
      refine z_tableIn (pc := 33) (tgt := 612) o dL_law_33 (by rw [hT]; decide) (by rw [hT]; decide) (by rw [hT]; rfl) (by decide) ?_
      exact z_case14 o hE.2.2.2.2.2.2.2.2.2.2.2.2.2.2.1 hN i hi S1 S2 hR K
    by_cases c15 : j = 15
    · subst c15
      refine z_tableIn (pc := 33) (tgt := 645) o dL_law_33 (by rw [hT]; decide) (by rw [hT]; decide) (by rw [hT]; rfl) (by decide) ?_
      exact z_case15 o hE.2.2.2.2.2.2.2.2.2.2.2.2.2.2.2.1 hN i hi S1 S2 hR K
    by_cases c16 : j = 16
    · subst c16
      refine z_tableIn (pc := 33) (tgt := 688) o dL_law_33 (by rw [hT]; decide) (by rw [hT]; decide) (by rw [hT]; rfl) (by decide) ?_
      exact z_case16 o hE.2.2.2.2.2.2.2.2.2.2.2.2.2.2.2.2.1 hN i hi S1 S2 hR K
    by_cases c17 : j = 17
    · subst c17
      refine z_tableIn (pc := 33) (tgt := 721) o dL_law_33 (by rw [hT]; decide) (by rw [hT]; decide) (by rw [hT]; rfl) (by decide) ?_
      exact z_case17 o hE.2.2.2.2.2.2.2.2.2.2.2.2.2.2.2.2.2.1 hN i hi S1 S2 hR K
    by_cases c18 : j = 18
    · subst c18
      refine z_tableIn (pc := 33) (tgt := 754) o dL_law_33 (by rw [hT]; decide) (by rw [hT]; decide) (by rw [hT]; rfl) (by decide) ?_
      exact z_case18 o hE.2.2.2.2.2.2.2.2.2.2.2.2.2.2.2.2.2.2.1 hN i hi S1 S2 hR K
    by_cases c19 : j = 19
    · subst c19
      refine z_tableIn (pc := 33) (tgt := 787) o dL_law_33 (by rw [hT]; decide) (by rw [hT]; decide) (by rw [hT]; rfl) (by decide) ?_
      exact z_case19 o hE.2.2.2.2.2.2.2.2.2.2.2.2.2.2.2.2.2.2.2.1 hN i hi S1 S2 hR K
    by_cases c20 : j = 20
    · subst c20
      refine z_tableIn (pc := 33) (tgt := 800) o dL_law_33 (by rw [hT]; decide) (by rw [hT]; decide) (by rw [hT]; rfl) (by decide) ?_
      exact z_case20 o hE.2.2.2.2.2.2.2.2.2.2.2.2.2.2.2.2.2.2.2.2.1 hN i hi S1 S2 hR K
    by_cases c21 : j = 21
    · subst c21
      refine z_tableIn (pc := 33) (tgt := 823) o dL_law_33 (by rw [hT]; decide) (by rw [hT]; decide) (by rw [hT]; rfl) (by decide) ?_
      exact z_case21 o hE.2.2.2.2.2.2.2.2.2.2.2.2.2.2.2.2.2.2.2.2.2.1 hN i hi S1 S2 hR K
    by_cases c22 : j = 22
    · subst c22
      refine z_tableIn (pc := 33) (tgt := 846) o dL_law_33 (by rw [hT]; decide) (by rw [hT]; decide) (by rw [hT]; rfl) (by decide) ?_
      exact z_case22 o hE.2.2.2.2.2.2.2.2.2.2.2.2.2.2.2.2.2.2.2.2.2.2.1 hN i hi S1 S2 hR K
    by_cases c23 : j = 23
    · subst c23
      refine z_tableIn (pc := 33) (tgt := 869) o dL_law_33 (by rw [hT]; decide) (by rw [hT]; decide) (by rw [hT]; rfl) (by decide) ?_
      exact z_case23 o hE.2.2.2.2.2.2.2.2.2.2.2.2.2.2.2.2.2.2.2.2.2.2.2.1 hN i hi S1 S2 hR K
    by_cases c24 : j = 24
    · subst c24
      refine z_tableIn (pc := 33) (tgt := 902) o dL_law_33 (by rw [hT]; decide) (by rw [hT]; decide) (by rw [hT]; rfl) (by decide) ?_
      exact z_case24 o hE.2.2.2.2.2.2.2.2.2.2.2.2.2.2.2.2.2.2.2.2.2.2.2.2.1 hN i hi S1 S2 hR K
    by_cases c25 : j = 25
    · subst c25
      refine z_tableIn (pc := 33) (tgt := 935) o dL_law_33 (by rw [hT]; decide) (by rw [hT]; decide) (by rw [hT]; rfl) (by decide) ?_
      exact z_case25 o hE.2.2.2.2.2.2.2.2.2.2.2.2.2.2.2.2.2.2.2.2.2.2.2.2.2.1 hN i hi S1 S2 hR K
    by_cases c26 : j = 26
    · subst c26
      refine z_tableIn (pc := 33) (tgt := 968) o dL_law_33 (by rw [hT]; decide) (by rw [hT]; decide) (by rw [hT]; rfl) (by decide) ?_
      exact z_case26 o hE.2.2.2.2.2.2.2.2.2.2.2.2.2.2.2.2.2.2.2.2.2.2.2.2.2.2.1 hN i hi S1 S2 hR K
    by_cases c27 : j = 27
    · subst c27
      refine z_tableIn (pc := 33) (tgt := 981) o dL_law_33 (by rw [hT]; decide) (by rw [hT]; decide) (by rw [hT]; rfl) (by decide) ?_
      exact z_case27 o hE.2.2.2.2.2.2.2.2.2.2.2.2.2.2.2.2.2.2.2.2.2.2.2.2.2.2.2.1 hN i hi S1 S2 hR K
    by_cases c28 : j = 28
    · subst c28
      refine z_tableIn (pc := 33) (tgt := 1004) o dL_law_33 (by rw [hT]; decide) (by rw [hT]; decide) (by rw [hT]; rfl) (by decide) ?_
      exact z_case28 o hE.2.2.2.2.2.2.2.2.2.2.2.2.2.2.2.2.2.2.2.2.2.2.2.2.2.2.2.2.1 hN i hi S1 S2 hR K
    by_cases c29 : j = 29
    · subst c29
      refine z_tableIn (pc := 33) (tgt := 1037) o dL_law_33 (by rw [hT]; decide) (by rw [hT]; decide) (by rw [hT]; rfl) (by decide) ?_
      exact z_case29 o hE.2.2.2.2.2.2.2.2.2.2.2.2.2.2.2.2.2.2.2.2.2.2.2.2.2.2.2.2.2.1 hN i hi S1 S2 hR K
    by_cases c30 : j = 30
    · subst c30
      refine z_tableIn (pc := 33) (tgt := 1050) o dL_law_33 (by rw [hT]; decide) (by rw [hT]; decide) (by rw [hT]; rfl) (by decide) ?_
      exact z_case30 o hE.2.2.2.2.2.2.2.2.2.2.2.2.2.2.2.2.2.2.2.2.2.2.2.2.2.2.2.2.2.2.1 hN i hi S1 S2 hR K
    by_cases c31 : j = 31
    · subst c31
      refine z_tableIn (pc := 33) (tgt := 1073) o dL_law_33 (by rw [hT]; decide) (by rw [hT]; decide) (by rw [hT]; rfl) (by decide) ?_
      exact z_case31 o hE.2.2.2.2.2.2.2.2.2.2.2.2.2.2.2.2.2.2.2.2.2.2.2.2.2.2.2.2.2.2.2.1 hN i hi S1 S2 hR K
    by_cases c32 : j = 32
    · subst c32
      refine z_tableIn (pc := 33) (tgt := 1086) o dL_law_33 (by rw [hT]; decide) (by rw [hT]; decide) (by rw [hT]; rfl) (by decide) ?_
      exact z_case32 o hE.2.2.2.2.2.2.2.2.2.2.2.2.2.2.2.2.2.2.2.2.2.2.2.2.2.2.2.2.2.2.2.2 hN i hi S1 S2 hR K
    refine z_tableOut (pc := 33) (tgt := 1109) o dL_law_33 (by rw [hT]; omega) (by decide) ?_
    exact K S1 S2 hR
