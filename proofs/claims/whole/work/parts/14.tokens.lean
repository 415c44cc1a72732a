theorem ymX7_3 : Cond.methodLink RX7 3 Lib.objectInit ∈ xWS := xWS_in (inC2 (List.mem_of_getElem? (i := 117) (by decide +kernel))) (by decide +kernel)
theorem ylX7_11 : Cond.fieldLink RX7 11 (TX7 1).1 (TX7 1).2.1 (TX7 1).2.2.1 ∈ xWS := xWS_in (inC2 (List.mem_of_getElem? (i := 171) (by decide +kernel))) (by decide +kernel)
theorem ylX7_15 : Cond.fieldLink RX7 15 (TX7 8).1 (TX7 8).2.1 (TX7 8).2.2.1 ∈ xWS := xWS_in (inC2 (List.mem_of_getElem? (i := 184) (by decide +kernel))) (by decide +kernel)
theorem ylX7_19 : Cond.fieldLink RX7 19 (TX7 10).1 (TX7 10).2.1 (TX7 10).2.2.1 ∈ xWS := xWS_in (inC2 (List.mem_of_getElem? (i := 189) (by decide +kernel))) (by decide +kernel)
theorem ylX7_22 : Cond.fieldLink RX7 22 (TX7 0).1 (TX7 0).2.1 (TX7 0).2.2.1 ∈ xWS := xWS_in (inC2 (List.mem_of_getElem? (i := 170) (by decide +kernel))) (by decide +kernel)
theorem jmX7_27 : Cond.methodLink RX7 27 yJ0_length_8abf5 ∈ xWS := xWS_in (inC2 (List.mem_of_getElem? (i := 119) (by decide +kernel))) (by decide +kernel)
theorem jmX7_33 : Cond.methodLink RX7 33 yJ0_charAt_5068e ∈ xWS := xWS_in (inC2 (List.mem_of_getElem? (i := 129) (by decide +kernel))) (by decide +kernel)
theorem jmX7_37 : Cond.methodLink RX7 37 yX7_withLetter ∈ xWS := xWS_in (inC2 (List.mem_of_getElem? (i := 167) (by decide +kernel))) (by decide +kernel)
set_option maxRecDepth 100000 in
theorem eX7_init : xCaI yX7_init cX7_init 7 1 := ⟨xWS_in (inC2 (List.mem_of_getElem? (i := 116) rfl)) rfl, xWS_in (inC2 (List.mem_of_getElem? (i := 115) (by decide +kernel))) (by decide +kernel), xWS_in (inC1 (List.mem_of_getElem? (i := 8) (by decide +kernel))) (by decide +kernel), rfl, by decide +kernel, by decide +kernel, by decide +kernel, by decide⟩
def tE : xTb := (fun _ => 99, fun _ => 0, fun _ _ => 0, [])
theorem tE_ok : xTok tE := ⟨(fun i j k h => by cases h), fun k h => absurd h (by show ¬ 99 ≤ 16; decide)⟩
set_option maxHeartbeats 4000000 in
theorem t0X7_withLetter (l : Launch) (M : xMg) (A : Nat → Prop) (a0 : Int32) (a1 : Int32) (a2 : Int32) (S : xSt) (z : Int32) (h : fX7_withLetter a0 a1 a2 S = some z) : xMI l yX7_withLetter cX7_withLetter 3 (some .int) 1 tE M A [.int a0, .int a1, .int a2] S z S := by
  refine x_metI (plainFor_of_name (by decide)) tE_ok (Nat.le_of_ble_eq_true rfl) (fun Γ hA hnL hl hr o => ?_)
  subst hA; subst hl
  have o : xOk Γ tE M 1 cX7_withLetter RX7 := o
  unfold fX7_withLetter at h
  refine x_to (l := [(0, .int a0), (1, .int a1), (2, .int a2)]) ⟨rfl, rfl, rfl, trivial⟩ ?_
  refine x_iload_n (pc := 0) o dX7_withLetter_0 rfl rfl ?_
  refine x_iload_n (pc := 1) o dX7_withLetter_1 rfl rfl ?_
  refine x_bipush (pc := 2) o dX7_withLetter_2 bp_97 ?_
  refine x_isub (pc := 4) o dX7_withLetter_4 ?_
  refine x_iconst (pc := 5) o dX7_withLetter_5 ic_1 ?_
  refine x_iadd (pc := 6) o dX7_withLetter_6 ?_
  refine x_iconst (pc := 7) o dX7_withLetter_7 ic_5 ?_
  refine x_iload_n (pc := 8) o dX7_withLetter_8 rfl rfl ?_
  refine x_isub (pc := 9) o dX7_withLetter_9 ?_
  refine x_iconst (pc := 10) o dX7_withLetter_10 ic_5 ?_
  refine x_imul (pc := 11) o dX7_withLetter_11 ?_
  refine x_ishl (pc := 12) o dX7_withLetter_12 ?_
  refine x_ior (pc := 13) o dX7_withLetter_13 ?_
  exact x_ireturn (pc := 14) o hr dX7_withLetter_14 (Option.some.inj h) rfl

def tkX : String := "kind rests of tool is worn hand knows job by does serves for at may wears breaks smith fine frost rest hours day late used if or and not all min max "
def tkW (w lt c : Int32) : Int32 := (fX7_withLetter w lt c mS0).getD 0
theorem tkW_eq (w lt c : Int32) : fX7_withLetter w lt c mS0 = some (tkW w lt c) := rfl
def tkCh (f : Nat → Int32) (i : Nat) : Int32 := ((f i &&& 255).toUInt32 % 65536).toInt32
abbrev tkT : Type := Int32 × Int32 × Nat × (Nat → Int32)
def tkStep (c : Int32) (s : tkT) : tkT := if c = 32 then (if 32 ≤ s.2.2.1 then s else (0, 0, s.2.2.1 + 1, upd s.2.2.2 s.2.2.1 s.1)) else (tkW s.1 s.2.1 c, s.2.1 + 1, s.2.2.1, s.2.2.2)
def tkSt (f : Nat → Int32) : Nat → tkT
  | 0 => (0, 0, 0, fun _ => 0)
  | i + 1 => tkStep (tkCh f i) (tkSt f i)
theorem tkSt_le (f : Nat → Int32) : ∀ i, (tkSt f i).2.2.1 ≤ i ∧ (tkSt f i).2.2.1 ≤ 32
  | 0 => ⟨Nat.le_refl _, by show 0 ≤ 32; omega⟩
  | i + 1 => by
    have h := tkSt_le f i
    show (tkStep (tkCh f i) (tkSt f i)).2.2.1 ≤ i + 1 ∧ (tkStep (tkCh f i) (tkSt f i)).2.2.1 ≤ 32
    unfold tkStep
    by_cases c1 : tkCh f i = 32
    · rw [if_pos c1]
      by_cases c2 : 32 ≤ (tkSt f i).2.2.1
      · rw [if_pos c2]; exact ⟨by omega, by omega⟩
      · rw [if_neg c2]
        show (tkSt f i).2.2.1 + 1 ≤ i + 1 ∧ (tkSt f i).2.2.1 + 1 ≤ 32
        omega
    · rw [if_neg c1]
      show (tkSt f i).2.2.1 ≤ i + 1 ∧ (tkSt f i).2.2.1 ≤ 32
      omega
section YT
variable {Γ : xGm} {M : xMg} {a kc ks pc : Nat} {ex : va_W} {R : Room} {cc : ByteArray} {own : String} {L : Nat → Option Value} {st : List Value} {cs : List va_E}
theorem y_iload (o : yOk Γ M a ex R cc own) {i : Nat} {x : Int32} (hd : decode cc pc = .ok (.iload i, 2)) (hx : L i = some (.int x)) (k : yAt Γ M a ex kc ks (pc + 2) L (.int x :: st) cs) : yAt Γ M a ex kc ks pc L st cs :=
  fun ls H locs hl hw => lv_iload o.1.1 o.1.2.1 hd (hl.2.2 _ _ hx) (k ls H locs hl hw)
theorem y_istore (o : yOk Γ M a ex R cc own) {i : Nat} {x : Int32} (hd : decode cc pc = .ok (.istore i, 2)) (hn : i < Γ.2.2.2) (k : yAt Γ M a ex kc ks (pc + 2) (xup L i (.int x)) st cs) : yAt Γ M a ex kc ks pc L (.int x :: st) cs :=
  fun ls H locs hl hw => lv_istore o.1.1 o.1.2.1 hd (x_has hl) hn rfl (fun ls' h' => k ls' H locs (x_st1 hl h') hw)
theorem y_icmp_eq (o : yOk Γ M a ex R cc own) {x y : Int32} {off : Int} {tgt : Nat} (hd : decode cc pc = .ok (.if_icmp .eq off, 3)) (ht : (pc : Int) + off = (tgt : Int)) (kt : x = y → yAt Γ M a ex kc ks tgt L st cs) (kf : ¬ x = y → yAt Γ M a ex kc ks (pc + 3) L st cs) : yAt Γ M a ex kc ks pc L (.int y :: .int x :: st) cs :=
  fun ls H locs hl hw => lv_icmp_eq o.1.1 o.1.2.1 hd ht (fun h => kt h ls H locs hl hw) (fun h => kf h ls H locs hl hw)
theorem y_ldcS (o : yOk Γ M a ex R cc own) {tx : String} {idx q : Nat} (hZ : vk_R own idx tx q Γ.1.2.2.2.2.1) (hd : decode cc pc = .ok (.ldc idx, 2)) (k : yAt Γ M a ex kc ks (pc + 2) L (.ref q :: st) cs) : yAt Γ M a ex kc ks pc L st cs :=
  fun ls H locs hl hw => va_ldcS o.1.1 o.1.2.1 o.1.2.2.2.1 hZ hd (k ls H locs hl hw)
theorem y_back {s : State} {H H1 : Heap} {locs locs1 : List Loc} (hw : yW M a ex s.heap cs H locs) (hz1 : H.size ≤ H1.size) (hk1 : ∀ q : Nat, q < H.size → ¬ sF q → H1[q]? = H[q]?) (hS1 : va_S (fun q => a ≤ q) s.heap H1 locs1) (hz : H1.size ≤ s.heap.size + kc) (hkc : s.heap.size + kc = a + cs.length) : yW M a ex s.heap cs H1 locs1 := by
  have hh : ∀ q, q < H.size → H1[q]? = H[q]? := fun q hq => hk1 q hq (fun z => z)
  exact ⟨by have := hw.1; omega, y_kept hw.2.1 hh, y_kept hw.2.2.1 hh, hS1⟩
theorem y_jcall {y : MethodName} {cc' : ByteArray} {mL d' n idx kK kV N : Nat} {f : Nat → Int32} {fm : Value} {ret : Option FieldType} {As rest : List Value} {r : Int32} (o : yOk Γ M a ex R cc own) (hs : sB (fun q => a ≤ q) kK kV N f fm Γ.1.2.2.2.2.1 Γ.1.2.2.2.2.1.heap) (hkc : Γ.1.2.2.2.2.1.heap.size + kc = a + cs.length) (hM : jMI Γ.1.2.1 y cc' mL ret d' kK kV N f fm (.ref kK :: As) r) (hc : y.cls = "java/lang/String") (hy : xCal y cc' mL ret n) (hlk : Cond.methodLink own idx y ∈ xWS) (hR : d' + 1 ≤ R.frames ∧ 8 + (mL + 11) + 64 * d' ≤ R.locals ∧ kc ≤ R.cells ∧ ks ≤ R.slots) (hn : As.length = n) (hst : st = As.reverse ++ .ref kK :: rest) (hcat : (rest.map fun v => v.category).sum ≤ 8) (hd : decode cc pc = .ok (.invokevirtual idx, 3)) (k : yAt Γ M a ex kc ks (pc + 3) L (.int r :: rest) cs) : yAt Γ M a ex kc ks pc L st cs := by
  intro ls H locs hl hw
  have hRR := o.2.2.2.1
  have hts := o.1.2.2.2.2
  have hsH := (hs.kept hw.2.2.2.2.1).narrow (B := sF) (fun q h => absurd h (fun z => z))
  obtain ⟨cell, q1, q2, q3, -⟩ := hsH.1
  obtain ⟨y1, y2, y3, y4, y5, y6, y7, y8⟩ := hy
  have hc2 : CallW Γ.1.2.2.2.1 Γ.1.2.2.2.2.1 Γ.1.2.2.2.2.2.2.1 own y.cls idx y cc' mL ret (Cond.code y cc' mL ret :: xWS) (xrm d') 0 0 n := by
    refine cwV n hts (fun w hw => ?_) rfl rfl rfl ⟨rfl, y5, y6, y7⟩ ⟨by rw [hRR]; exact hR.1, by rw [hRR]; exact hR.2.1⟩
    have hm : w ∈ xWS := by
      rcases List.mem_append.mp hw with h | h
      · rcases List.mem_cons.mp h with rfl | h
        · exact hlk
        rcases List.mem_cons.mp h with rfl | h
        · exact y2
        rcases List.mem_cons.mp h with rfl | h
        · exact y3
        rcases List.mem_cons.mp h with rfl | h
        · exact y4
        cases h
      · rcases List.mem_cons.mp h with rfl | h
        · exact y1
        · exact h
    exact ⟨hm, xWS_good hm⟩
  refine va_calli (va_runV (As := As) (rest := rest) o.1 hM hc2 ⟨j_blind, ⟨cell, q1, q2, by rw [hc]; exact q3⟩, fun U hU hW => ⟨rfl, by show sB sF kK kV N f fm U U.heap; rw [hU]; exact sB.moved hW.alike hsH⟩⟩ rfl hn hl.1 hst (lv_room hcat) hd ⟨by rw [hRR]; exact hR.2.2.1, by rw [hRR]; exact hR.2.2.2⟩) hw.2.2.2 (fun q _ h => absurd h (fun z => z)) (fun q h => absurd h (fun z => z)) (fun r1 u t H1 locs1 ht hvm hw1 hB hz1 hk1 hS1 => w_size (fun hz => ?_))
  subst hw1
  exact k ls H1 locs1 hl (y_back hw hz1 hk1 hS1 hz hkc)
theorem y_stat0 {y : MethodName} {cc' : ByteArray} {mL d' n idx : Nat} {ret : Option FieldType} {As rest : List Value} {r : Int32} {S : xSt} (o : yOk Γ M a ex R cc own) (hkc : Γ.1.2.2.2.2.1.heap.size + kc = a + cs.length) (hM : xMI Γ.1.2.1 y cc' mL ret d' tE M sF As S r S) (hy : xCaS y cc' mL ret n) (hlk : Cond.methodLink own idx y ∈ xWS) (hR : d' + 1 ≤ R.frames ∧ 8 + (mL + 11) + 64 * d' ≤ R.locals ∧ kc ≤ R.cells ∧ ks ≤ R.slots) (hn : As.length = n) (hst : st = As.reverse ++ rest) (hcat : (rest.map fun v => v.category).sum ≤ 8) (hd : decode cc pc = .ok (.invokestatic idx, 3)) (k : yAt Γ M a ex kc ks (pc + 3) L (.int r :: rest) cs) : yAt Γ M a ex kc ks pc L st cs := by
  intro ls H locs hl hw
  have hRR := o.2.2.2.1
  have hts := o.1.2.2.2.2
  obtain ⟨y1, y2, y4, y5, y6, y7, y8⟩ := hy
  have hc2 : CallB Γ.1.2.2.2.1 Γ.1.2.2.2.2.1 Γ.1.2.2.2.2.2.2.1 own idx y cc' mL ret (Cond.code y cc' mL ret :: xWS) (xrm d') 0 0 n ∧ (Cond.static y).before Γ.1.2.2.2.2.2.2.1 Γ.1.2.2.2.2.1 = true := by
    refine va_cwS n hts (fun w hw => ?_) rfl rfl rfl ⟨y5, y6, y7⟩ ⟨by rw [hRR]; exact hR.1, by rw [hRR]; exact hR.2.1⟩
    have hm : w ∈ xWS := by
      rcases List.mem_append.mp hw with h | h
      · rcases List.mem_cons.mp h with rfl | h
        · exact hlk
        rcases List.mem_cons.mp h with rfl | h
        · exact y2
        rcases List.mem_cons.mp h with rfl | h
        · exact y4
        cases h
      · rcases List.mem_cons.mp h with rfl | h
        · exact y1
        · exact h
    exact ⟨hm, xWS_good hm⟩
  have hP0 : ∀ H : Heap, va_P M.1 vwCl (xwl tE M S) H := fun H i q hi => by cases hi
  have hD0 : va_D sF (xwl tE M S) := ⟨(fun i j p q hi => by cases hi), (fun i q hi => by cases hi)⟩
  refine va_calli (va_runS (As := As) (rest := rest) o.1 hM hc2 ⟨x_blind, fun U hU hW => ⟨rfl, hP0 _, va_K.moved hW.alike o.2.1, hD0⟩⟩ rfl hn hl.1 hst (lv_room hcat) hd ⟨by rw [hRR]; exact hR.2.2.1, by rw [hRR]; exact hR.2.2.2⟩) hw.2.2.2 (fun q _ h => absurd h (fun z => z)) (fun q h => absurd h (fun z => z)) (fun r1 u t H1 locs1 ht hvm hw1 hB hz1 hk1 hS1 => w_size (fun hz => ?_))
  obtain ⟨rfl, -⟩ := hw1
  exact k ls H1 locs1 hl (y_back hw hz1 hk1 hS1 hz hkc)
end YT
def tkOb (a x1 : Nat) : va_E := .inr (7, [.ref x1, .ref (a + 1), .int 0, .int 0, .int 0, .int 0, .int 0, .int 0, .int (-1), .int 0, .int (-1)])
abbrev tkCs (M : xMg) (a x1 : Nat) (g : Nat → Int32) : List va_E := [tkOb a x1, .inl (M.2.2.1, 32, .inl g)]

set_option maxHeartbeats 4000000 in
theorem yTok_loop {Γ : xGm} {M : xMg} {a x1 kK kV N : Nat} {f : Nat → Int32} {fm : Value} (o : yOk Γ M a [] (xrm2 5 1 32) cX7_init RX7) (hnL : Γ.2.2.2 = 7) (hsz : Γ.1.2.2.2.2.1.heap.size = a + 1) (hs : sB (fun q => a ≤ q) kK kV N f fm Γ.1.2.2.2.2.1 Γ.1.2.2.2.2.1.heap) (hv : vk_R RX7 25 tkX kK Γ.1.2.2.2.2.1) (hfm : fm = .null ∨ ∃ q, fm = .ref q) (hN : N < 2 ^ 31) (hend : ∀ L, yAt Γ M a [] 1 32 105 L [] (tkCs M a x1 (tkSt f N).2.2.2)) : ∀ (n i : Nat), i + n = N → yAt Γ M a [] 1 32 37 (xlv [(0, .ref a), (2, .int (tkSt f i).1), (3, .int (tkSt f i).2.1), (4, .int (nI (tkSt f i).2.2.1)), (5, .int (nI i))]) [] (tkCs M a x1 (tkSt f i).2.2.2) := by
  have hkc : ∀ g, Γ.1.2.2.2.2.1.heap.size + 1 = a + (tkCs M a x1 g).length := fun g => by rw [hsz]; rfl
  intro n
  induction n with
  | zero =>
    intro i hi
    have e : i = N := by omega
    subst e
    refine y_iload (pc := 37) o dX7_init_37 rfl ?_
    refine y_ldcS (pc := 39) o hv dX7_init_39 ?_
    refine y_jcall (pc := 41) (As := []) (rest := [.int (nI i)]) o hs (hkc _) (tJ_length _ kK kV i f fm) rfl eJ0_length_8abf5 jmX7_27 ⟨Nat.le_of_ble_eq_true rfl, Nat.le_of_ble_eq_true rfl, Nat.le_of_ble_eq_true rfl, Nat.le_of_ble_eq_true rfl⟩ rfl rfl (Nat.le_of_ble_eq_true rfl) dX7_init_41 ?_
    exact y_icmp_ge (pc := 44) (tgt := 105) o dX7_init_44 (by decide) (fun _ => hend _) (fun c => absurd (nI_le (Nat.le_refl i) hN) c)
  | succ n ih =>
    intro i hi
    have hiN : i < N := by omega
    have hle := tkSt_le f i
    have ih' := ih (i + 1) (by omega)
    have e1 : tkSt f (i + 1) = tkStep (tkCh f i) (tkSt f i) := rfl
    rw [e1] at ih'
    unfold tkStep at ih'
    generalize tkSt f i = s at ih' hle ⊢
    obtain ⟨w, lt, q, g⟩ := s
    dsimp only at ih' hle ⊢
    have hback : ∀ (w' lt' : Int32) (q' : Nat) (g' : Nat → Int32) (L : Nat → Option Value), xall L [(0, .ref a), (2, .int w'), (3, .int lt'), (4, .int (nI q')), (5, .int (nI i))] → yAt Γ M a [] 1 32 37 (xlv [(0, .ref a), (2, .int w'), (3, .int lt'), (4, .int (nI q')), (5, .int (nI (i + 1)))]) [] (tkCs M a x1 g') → yAt Γ M a [] 1 32 99 L [] (tkCs M a x1 g') := by
      intro w' lt' q' g' L hL k
      refine y_to hL ?_
      refine y_iinc (pc := 99) (v := nI (i + 1)) o dX7_init_99 rfl (nI_k i 1 rfl) (by omega) ?_
      refine y_goto (pc := 102) (tgt := 37) o dX7_init_102 (by decide) ?_
      exact y_to (l := [(0, .ref a), (2, .int w'), (3, .int lt'), (4, .int (nI q')), (5, .int (nI (i + 1)))]) ⟨rfl, rfl, rfl, rfl, rfl, trivial⟩ k
    refine y_iload (pc := 37) o dX7_init_37 rfl ?_
    refine y_ldcS (pc := 39) o hv dX7_init_39 ?_
    refine y_jcall (pc := 41) (As := []) (rest := [.int (nI i)]) o hs (hkc _) (tJ_length _ kK kV N f fm) rfl eJ0_length_8abf5 jmX7_27 ⟨Nat.le_of_ble_eq_true rfl, Nat.le_of_ble_eq_true rfl, Nat.le_of_ble_eq_true rfl, Nat.le_of_ble_eq_true rfl⟩ rfl rfl (Nat.le_of_ble_eq_true rfl) dX7_init_41 ?_
    refine y_icmp_ge (pc := 44) (tgt := 105) o dX7_init_44 (by decide) (fun c => absurd c (nI_ge hiN hN)) (fun _ => ?_)
    refine y_ldcS (pc := 47) o hv dX7_init_47 ?_
    refine y_iload (pc := 49) o dX7_init_49 rfl ?_
    refine y_jcall (pc := 51) (As := [.int (nI i)]) (rest := []) o hs (hkc _) (tJ_charAt _ kK kV N f fm hfm i hiN hN) rfl eJ0_charAt_5068e jmX7_33 ⟨Nat.le_of_ble_eq_true rfl, Nat.le_of_ble_eq_true rfl, Nat.le_of_ble_eq_true rfl, Nat.le_of_ble_eq_true rfl⟩ rfl rfl (Nat.le_of_ble_eq_true rfl) dX7_init_51 ?_
    refine y_istore (pc := 54) o dX7_init_54 (by omega) ?_
    refine y_iload (pc := 56) o dX7_init_56 rfl ?_
    refine y_bipush (pc := 58) (v := 32) o dX7_init_58 (by decide +kernel) ?_
    refine y_icmp_eq (pc := 60) (tgt := 77) o dX7_init_60 (by decide) (fun c1 => ?_) (fun c1 => ?_)
    · have c1' : tkCh f i = 32 := c1
      rw [if_pos c1'] at ih'
      refine y_iload (pc := 77) o dX7_init_77 rfl ?_
      refine y_bipush (pc := 79) (v := 32) o dX7_init_79 (by decide +kernel) ?_
      refine y_icmp_ge (pc := 81) (tgt := 99) o dX7_init_81 (by decide) (fun c2 => ?_) (fun c2 => ?_)
      · have c2' : 32 ≤ q := (nI_leI (a := 32) (b := q) (by omega) (by omega)).mp c2
        rw [if_pos c2'] at ih'
        exact hback w lt q g _ ⟨rfl, rfl, rfl, rfl, rfl, trivial⟩ ih'
      · have c2' : ¬ 32 ≤ q := fun z => c2 (nI_le z (by omega))
        rw [if_neg c2'] at ih'
        refine y_aload_n (pc := 84) o dX7_init_84 rfl rfl ?_
        refine y_get (pc := 85) (p := 0) (j := 1) (fs := [.ref x1, .ref (a + 1), .int 0, .int 0, .int 0, .int 0, .int 0, .int 0, .int (-1), .int 0, .int (-1)]) (v := .ref (a + 1)) o clX7 (by decide) ylX7_11 rfl rfl dX7_init_85 ?_
        refine y_iload (pc := 88) o dX7_init_88 rfl ?_
        refine y_iload_n (pc := 90) o dX7_init_90 rfl rfl ?_
        refine y_iastore (pc := 91) (p := 1) (n := 32) (f := g) (cs' := tkCs M a x1 (upd g q w)) o rfl (vp_in_nI (by omega) (by omega)) dX7_init_91 (by rw [nI_clamp (by omega)]; rfl) ?_
        refine y_iinc (pc := 92) (v := nI (q + 1)) o dX7_init_92 rfl (nI_k q 1 rfl) (by omega) ?_
        refine y_iconst (pc := 95) o dX7_init_95 ic_0 ?_
        refine y_istore_n (pc := 96) o dX7_init_96 rfl (by omega) ?_
        refine y_iconst (pc := 97) o dX7_init_97 ic_0 ?_
        refine y_istore_n (pc := 98) o dX7_init_98 rfl (by omega) ?_
        exact hback 0 0 (q + 1) (upd g q w) _ ⟨rfl, rfl, rfl, rfl, rfl, trivial⟩ ih'
    · have c1' : ¬ tkCh f i = 32 := c1
      rw [if_neg c1'] at ih'
      refine y_iload_n (pc := 63) o dX7_init_63 rfl rfl ?_
      refine y_iload_n (pc := 64) o dX7_init_64 rfl rfl ?_
      refine y_iload (pc := 65) o dX7_init_65 rfl ?_
      refine y_stat0 (pc := 67) (As := [.int w, .int lt, .int (tkCh f i)]) (rest := []) o (hkc _) (t0X7_withLetter _ M _ w lt (tkCh f i) mS0 (tkW w lt (tkCh f i)) (tkW_eq w lt (tkCh f i))) eX7_withLetter jmX7_37 ⟨Nat.le_of_ble_eq_true rfl, Nat.le_of_ble_eq_true rfl, Nat.le_of_ble_eq_true rfl, Nat.le_of_ble_eq_true rfl⟩ rfl rfl (Nat.le_of_ble_eq_true rfl) dX7_init_67 ?_
      refine y_istore_n (pc := 70) o dX7_init_70 rfl (by omega) ?_
      refine y_iinc (pc := 71) (v := lt + 1) o dX7_init_71 rfl rfl (by omega) ?_
      refine y_goto (pc := 74) (tgt := 99) o dX7_init_74 (by decide) ?_
      exact hback (tkW w lt (tkCh f i)) (lt + 1) q g _ ⟨rfl, rfl, rfl, rfl, rfl, trivial⟩ ih'

/-- Tokens' constructor: besides its world it wants the String constant -/
def tokMet (l : Launch) (M : xMg) (a x1 kK kV N : Nat) (f : Nat → Int32) (fm : Value) : Prop :=
  Met l yX7_init (Cond.code yX7_init cX7_init 7 none :: xWS) (xrm2 5 1 32) (va_Pc [.ref a, .ref x1] (fun U => yB M a [] [.inr (7, [.null, .null, .int 0, .int 0, .int 0, .int 0, .int 0, .int 0, .int 0, .int 0, .int 0])] U ∧ sB (fun q => a ≤ q) kK kV N f fm U U.heap ∧ vk_R RX7 25 tkX kK U)) (va_Qv (fun (_ : Unit) => True) (fun _ t => yB M a [] (tkCs M a x1 (tkSt f N).2.2.2) t) (fun q => a ≤ q)) 1 32 (fun q => a ≤ q)
set_option maxHeartbeats 4000000 in
theorem yX7_init_ok (l : Launch) (M : xMg) (a x1 kK kV N : Nat) (f : Nat → Int32) (fm : Value) (hfm : fm = .null ∨ ∃ q, fm = .ref q) (hN : N < 2 ^ 31) : tokMet l M a x1 kK kV N f fm := by
  refine va_MetF (cc := cX7_init) (maxL := 7) (ret := none) (plainFor_of_name (by decide)) rfl ?_
  intro p e s m args below meth c s₁ B hml hv
  obtain ⟨rfl, ⟨hz, hP, hX, hK, hAO⟩, hs, hvk⟩ := hv
  have hts := atoms_spec (ws := Cond.code yX7_init cX7_init 7 none :: xWS) B.pre
  have hown : s.vm.findClass yX7_init.cls = some m.cls := findClass_of_methodNamed B.named
  have hin : meth.name = "<init>" := (name_of_methodNamed B.named B.method).1
  rw [lg_entry_eq]
  have hl := lv_entry [Value.ref a, Value.ref x1] (n := 7) (Nat.le_of_ble_eq_true rfl)
  generalize hΓ : (((p, l, e, (headSpec (Cond.code yX7_init cX7_init 7 none :: xWS) (xrm2 5 1 32)).room, s, m, [Value.ref a, Value.ref x1].toArray, below, meth, c), MQ below (va_Qv (fun (_ : Unit) => True) (fun _ t => yB M a [] (tkCs M a x1 (tkSt f N).2.2.2) t) (fun q => a ≤ q)) [Value.ref a, Value.ref x1].toArray s 1 32 (fun q => a ≤ q), (fun q => a ≤ q), 7) : xGm) = Γ
  have hnL : Γ.2.2.2 = 7 := by rw [← hΓ]
  have hlk : Γ.1.2.2.2.2.2.2.2.2.1.locks = false := by rw [← hΓ]; exact B.notSynchronized
  have hin2 : Γ.1.2.2.2.2.2.2.2.2.1.name = "<init>" := by rw [← hΓ]; exact hin
  have hQ : Γ.2.1 = MQ Γ.1.2.2.2.2.2.2.2.1 (va_Qv (fun (_ : Unit) => True) (fun _ t => yB M a [] (tkCs M a x1 (tkSt f N).2.2.2) t) (fun q => a ≤ q)) Γ.1.2.2.2.2.2.2.1 Γ.1.2.2.2.2.1 1 32 (fun q => a ≤ q) := by rw [← hΓ]
  have hret : Γ.1.2.2.2.2.2.2.2.2.1.sig.returnType = none := by rw [← hΓ]; exact B.returns
  have hsz : Γ.1.2.2.2.2.1.heap.size = a + 1 := by rw [← hΓ]; exact hz
  have hs' : sB (fun q => a ≤ q) kK kV N f fm Γ.1.2.2.2.2.1 Γ.1.2.2.2.2.1.heap := by rw [← hΓ]; exact hs
  have hvk' : vk_R RX7 25 tkX kK Γ.1.2.2.2.2.1 := by rw [← hΓ]; exact hvk
  have o : yOk Γ M a [] (xrm2 5 1 32) cX7_init RX7 := by
    rw [← hΓ]
    exact ⟨⟨B.exec, B.bytes, hml, hown, fun w hw => hts w (List.mem_cons_of_mem _ hw)⟩, hK, (fun q h => absurd h List.not_mem_nil), rfl, (by show a ≤ s.heap.size; rw [hz]; exact Nat.le_add_right _ _), hAO⟩
  have main : yAt Γ M a [] 0 0 0 (xarg [.ref a, .ref x1]) [] [.inr (7, [.null, .null, .int 0, .int 0, .int 0, .int 0, .int 0, .int 0, .int 0, .int 0, .int 0])] := by
    refine y_to (l := [(0, .ref a), (1, .ref x1)]) ⟨rfl, rfl, trivial⟩ ?_
    refine y_aload_n (pc := 0) o dX7_init_0 rfl rfl ?_
    refine y_objInit (pc := 1) o ymX7_3 w_oi1 w_oi2 ⟨Nat.le_of_ble_eq_true rfl, Nat.le_of_ble_eq_true rfl⟩ (Nat.le_of_ble_eq_true rfl) dX7_init_1 ?_
    refine y_aload_n (pc := 4) o dX7_init_4 rfl rfl ?_
    refine y_bipush (pc := 5) (v := 32) o dX7_init_5 (by decide +kernel) ?_
    refine y_newI (pc := 7) (N' := 32) (p := 1) (cs' := [.inr (7, [.null, .null, .int 0, .int 0, .int 0, .int 0, .int 0, .int 0, .int 0, .int 0, .int 0]), yI M 32]) o ar_int (by decide) rfl (by decide) ⟨Nat.le_of_ble_eq_true rfl, Nat.le_of_ble_eq_true rfl⟩ dX7_init_7 rfl rfl ?_
    refine y_putFE (pc := 9) (p := 0) (j := 1) (fs := [.null, .null, .int 0, .int 0, .int 0, .int 0, .int 0, .int 0, .int 0, .int 0, .int 0]) (cs' := [.inr (7, [.null, .ref (a + 1), .int 0, .int 0, .int 0, .int 0, .int 0, .int 0, .int 0, .int 0, .int 0]), yI M 32]) o hin2 clX7 (by decide) ylX7_11 rfl rfl rfl (Nat.le_of_ble_eq_true rfl) rfl rfl dX7_init_9 rfl ?_
    refine y_aload_n (pc := 12) o dX7_init_12 rfl rfl ?_
    refine y_iconst (pc := 13) o dX7_init_13 ic_m1 ?_
    refine y_putNE (pc := 14) (p := 0) (j := 8) (fs := [.null, .ref (a + 1), .int 0, .int 0, .int 0, .int 0, .int 0, .int 0, .int 0, .int 0, .int 0]) (cs' := [.inr (7, [.null, .ref (a + 1), .int 0, .int 0, .int 0, .int 0, .int 0, .int 0, .int (-1), .int 0, .int 0]), yI M 32]) o clX7 (by decide) ylX7_15 rfl rfl (Nat.le_of_ble_eq_true rfl) rfl rfl dX7_init_14 rfl ?_
    refine y_aload_n (pc := 17) o dX7_init_17 rfl rfl ?_
    refine y_iconst (pc := 18) o dX7_init_18 ic_m1 ?_
    refine y_putNE (pc := 19) (p := 0) (j := 10) (fs := [.null, .ref (a + 1), .int 0, .int 0, .int 0, .int 0, .int 0, .int 0, .int (-1), .int 0, .int 0]) (cs' := [.inr (7, [.null, .ref (a + 1), .int 0, .int 0, .int 0, .int 0, .int 0, .int 0, .int (-1), .int 0, .int (-1)]), yI M 32]) o clX7 (by decide) ylX7_19 rfl rfl (Nat.le_of_ble_eq_true rfl) rfl rfl dX7_init_19 rfl ?_
    refine y_aload_n (pc := 22) o dX7_init_22 rfl rfl ?_
    refine y_aload_n (pc := 23) o dX7_init_23 rfl rfl ?_
    refine y_putFE (pc := 24) (p := 0) (j := 0) (fs := [.null, .ref (a + 1), .int 0, .int 0, .int 0, .int 0, .int 0, .int 0, .int (-1), .int 0, .int (-1)]) (cs' := tkCs M a x1 (fun _ => 0)) o hin2 clX7 (by decide) ylX7_22 rfl rfl rfl (Nat.le_of_ble_eq_true rfl) rfl rfl dX7_init_24 rfl ?_
    refine y_iconst (pc := 27) o dX7_init_27 ic_0 ?_
    refine y_istore_n (pc := 28) o dX7_init_28 rfl (by omega) ?_
    refine y_iconst (pc := 29) o dX7_init_29 ic_0 ?_
    refine y_istore_n (pc := 30) o dX7_init_30 rfl (by omega) ?_
    refine y_iconst (pc := 31) o dX7_init_31 ic_0 ?_
    refine y_istore (pc := 32) o dX7_init_32 (by omega) ?_
    refine y_iconst (pc := 34) o dX7_init_34 ic_0 ?_
    refine y_istore (pc := 35) o dX7_init_35 (by omega) ?_
    refine y_to (l := [(0, .ref a), (2, .int 0), (3, .int 0), (4, .int (nI 0)), (5, .int (nI 0))]) ⟨rfl, rfl, rfl, rfl, rfl, trivial⟩ ?_
    exact yTok_loop o hnL hsz hs' hvk' hfm hN (fun L => y_vreturn (pc := 105) o hlk hQ hret dX7_init_105 rfl) N 0 (by omega)
  have h := main _ _ [] ⟨by rw [hnL]; exact hl.1, hl.2.1, fun i v hi => hl.2.2 (i, v) (x_lookup hi)⟩ ⟨by rw [hsz]; rfl, by rw [← hΓ]; exact hP, by rw [← hΓ]; exact hX, va_S.rf⟩
  rw [← hΓ] at h
  exact h

