/-! ===== the law's start: words, known classes, the String constant ===== -/
theorem yL_7 : Cond.classLink RL 7 RX11 ∈ xWS := xWS_in (inC1 (List.mem_of_getElem? (i := 22) (by decide +kernel))) (by decide +kernel)
theorem yL_10 : Cond.classLink RL 10 RX12 ∈ xWS := xWS_in (inC6 (List.mem_of_getElem? (i := 166) (by decide +kernel))) (by decide +kernel)
theorem yL_9 : Cond.methodLink RL 9 yX11_init ∈ xWS := xWS_in (inC1 (List.mem_of_getElem? (i := 24) (by decide +kernel))) (by decide +kernel)
theorem yL_12 : Cond.methodLink RL 12 yX12_init ∈ xWS := xWS_in (inC6 (List.mem_of_getElem? (i := 168) (by decide +kernel))) (by decide +kernel)
theorem l_ao : Cond.arrayOver (.object RX8) ∈ lw_tbl := inC1 (List.mem_of_getElem? (i := 239) (by decide +kernel))
theorem l_sr : Cond.stringRef RX7 25 tkX ∈ lw_tbl := inC2 (List.mem_of_getElem? (i := 118) (by decide +kernel))
theorem l_cs : Cond.laysStatic "java/lang/String" "COMPACT_STRINGS" "Z" ∈ lw_tbl := inC2 (List.mem_of_getElem? (i := 128) (by decide +kernel))
theorem l_sf : Cond.laysStatic "jdk/internal/util/Preconditions" "SIOOBE_FORMATTER" "Ljava/util/function/BiFunction;" ∈ lw_tbl := inC2 (List.mem_of_getElem? (i := 144) (by decide +kernel))
section Q9zs
variable {args : Array Value} {s : State}
theorem l_kn0 (hts : ∀ w ∈ xWS, w.before args s = true) (c : Nat) : ∃ d : ClassId × (Nat → Nat), ∀ q : vw_C, vwCl[c]? = some q → u_Kn s q.1 q.2.1 q.2.2 d.1 d.2 := by
  match c with
  | 0 => obtain ⟨x, y, h⟩ := u_known hts clX0.2.1 (hts _ inX0_w); exact ⟨(x, y), fun q hq => by cases hq; exact h⟩
  | 1 => obtain ⟨x, y, h⟩ := u_known hts clX1.2.1 (hts _ inX1_w); exact ⟨(x, y), fun q hq => by cases hq; exact h⟩
  | 2 => obtain ⟨x, y, h⟩ := u_known hts clX2.2.1 (hts _ inX2_w); exact ⟨(x, y), fun q hq => by cases hq; exact h⟩
  | 3 => obtain ⟨x, y, h⟩ := u_known hts clX3.2.1 (hts _ inX3_w); exact ⟨(x, y), fun q hq => by cases hq; exact h⟩
  | 4 => obtain ⟨x, y, h⟩ := u_known hts clX4.2.1 (hts _ inX4_w); exact ⟨(x, y), fun q hq => by cases hq; exact h⟩
  | 5 => obtain ⟨x, y, h⟩ := u_known hts clX5.2.1 (hts _ inX5_w); exact ⟨(x, y), fun q hq => by cases hq; exact h⟩
  | 6 => obtain ⟨x, y, h⟩ := u_known hts clX6.2.1 (hts _ inX6_w); exact ⟨(x, y), fun q hq => by cases hq; exact h⟩
  | 7 => obtain ⟨x, y, h⟩ := u_known hts clX7.2.1 (hts _ inX7_w); exact ⟨(x, y), fun q hq => by cases hq; exact h⟩
  | 8 => obtain ⟨x, y, h⟩ := u_known hts clX8.2.1 (hts _ inX8_w); exact ⟨(x, y), fun q hq => by cases hq; exact h⟩
  | 9 => obtain ⟨x, y, h⟩ := u_known hts clX9.2.1 (hts _ inX9_w); exact ⟨(x, y), fun q hq => by cases hq; exact h⟩
  | 10 => obtain ⟨x, y, h⟩ := u_known hts clX10.2.1 (hts _ inX10_w); exact ⟨(x, y), fun q hq => by cases hq; exact h⟩
  | 11 => obtain ⟨x, y, h⟩ := u_known hts clX11.2.1 (hts _ inX11_w); exact ⟨(x, y), fun q hq => by cases hq; exact h⟩
  | 12 => obtain ⟨x, y, h⟩ := u_known hts clX12.2.1 (hts _ inX12_w); exact ⟨(x, y), fun q hq => by cases hq; exact h⟩
  | n + 13 => exact ⟨(0, fun _ => 0), fun q hq => by cases hq⟩
theorem l_arr {ty : FieldType} (h : (Cond.arrayClass ty).before args s = true) : ∃ cA : ClassId, ArrOfT s cA ty ∧ s.vm.findClass ("[" ++ ty.toString) = some cA := by
  obtain ⟨cA, kA, comp, h1, h2, h3⟩ := Cond.arrayClass_spec h
  exact ⟨cA, fun N z => ⟨(fun k h => by cases h), kA, h2, comp, h3⟩, h1⟩
theorem l_K (hts : ∀ w ∈ xWS, w.before args s = true) (htl : ∀ w ∈ lw_tbl, w.before args s = true) : ∃ (D : va_G) (T : ClassId × ClassId × ClassId × ClassId), ∀ ad : Nat → Nat, va_K D vwCl (xty (D, ad, T)) s := by
  obtain ⟨d, hd⟩ := Classical.axiomOfChoice (l_kn0 hts)
  obtain ⟨cI, i1, i2⟩ := l_arr (hts _ ar_int)
  obtain ⟨cJ, j1, j2⟩ := l_arr (hts _ ar_long)
  obtain ⟨cZ, z1, z2⟩ := l_arr (hts _ ar_boolean)
  obtain ⟨comp, cO, k, h1, h2, h3, h4, h5⟩ := Cond.arrayOver_spec (htl _ l_ao)
  refine ⟨(fun c => (d c).1, fun c => (d c).2), (cI, cJ, cZ, cO), fun ad => ⟨fun c q hq => hd c q hq, fun n q hq => ?_⟩⟩
  match n with
  | 0 => cases hq; exact ⟨i1, i2⟩
  | 1 => cases hq; exact ⟨j1, j2⟩
  | 2 => cases hq; exact ⟨z1, z2⟩
  | 3 => cases hq; exact ⟨fun N z => ⟨(fun k h => by cases h), k, h3, comp, h4⟩, k, comp, h3, h4, h1, h5⟩
  | n + 4 => cases hq
abbrev l_T : Term := Term.string RX7 25
abbrev l_V : Term := Term.field l_T "java/lang/String" "value" "[B"
theorem l_elB : (flatC (Jvm.Cond.and given_1 narrow_1)).drop 13 = (List.range 149).map (fun j => Cond.eq (.elem l_V (.int (Int32.ofNat j))) (.int (tkB.getD j 0))) := by decide +kernel
theorem l_el {j : Nat} (hj : j < 149) : Cond.eq (.elem l_V (.int (Int32.ofNat j))) (.int (tkB.getD j 0)) ∈ flatC (Jvm.Cond.and given_1 narrow_1) := List.mem_of_mem_drop (by rw [l_elB]; exact List.mem_map.mpr ⟨j, List.mem_range.mpr hj, rfl⟩)
theorem l_str {A : Nat → Prop} (hgv : (Jvm.Cond.and given_1 narrow_1).before args s = true) (hts : ∀ w ∈ xWS, w.before args s = true) (htl : ∀ w ∈ lw_tbl, w.before args s = true) (hA : ∀ a : Nat, a < s.heap.size → ¬ A a) : ∃ (kK kV : Nat) (fm : Value), (fm = .null ∨ ∃ q, fm = .ref q) ∧ sB A kK kV 149 (fun j => tkB.getD j 0) fm s s.heap ∧ vk_R RX7 25 tkX kK s := by
  have hs0 := flat_of_before _ hgv
  have e1 : (Cond.exactly l_T "java/lang/String").before args s = true := hs0 _ (by decide +kernel)
  have e2 : (Cond.eq (.field l_T "java/lang/String" "coder" "B") (.int 0)).before args s = true := hs0 _ (by decide +kernel)
  have e3 : (Cond.arrayOf l_V .byte).before args s = true := hs0 _ (by decide +kernel)
  have e4 : (Cond.eq (.length l_V) (.int (Int32.ofNat 149))).before args s = true := hs0 _ (by decide +kernel)
  have e5 : ∀ j, j < 149 → (Cond.eq (.elem l_V (.int (Int32.ofNat j))) (.int (tkB.getD j 0))).before args s = true := fun j hj => hs0 _ (l_el hj)
  have e6 : (Cond.eq (.static "java/lang/String" "COMPACT_STRINGS" "Z") (.int 1)).before args s = true := hs0 _ (by decide +kernel)
  have e7 : (Cond.isRef (.static "jdk/internal/util/Preconditions" "SIOOBE_FORMATTER" "Ljava/util/function/BiFunction;")).before args s = true := hs0 _ (by decide +kernel)
  obtain ⟨adK, adV, hS, hev⟩ := vk_Sof (args := args) (s := s) (N := 1) (tm := fun _ => l_T) (len := [149]) (byt := [tkB]) (A := A)
    (fun i hi => by obtain rfl : i = 0 := by omega
                    decide)
    (fun i hi => e1) (fun i hi => e2) (fun i hi => e3)
    (fun i hi => by obtain rfl : i = 0 := by omega
                    exact e4)
    (fun i hi j hj => by
      obtain rfl : i = 0 := by omega
      exact e5 j hj)
    (fun i j hi hj h => absurd (show i = j by omega) h) hA
  have h0 := hS.1 0 (by decide)
  have hv := hev 0 (by decide)
  have z1 := va_Zof (htl _ l_cs) (hts _ eJ0_length_8abf5.2.2.2.1) (va_eqt e6) hA
  have z2 := va_Zqof (htl _ l_sf) (hts _ eJ3_checkIndex_8e157.2.2.1) e7 hA
  rcases z2 with z2 | ⟨t, z2⟩
  · exact ⟨adK 0, adV 0, .null, Or.inl rfl, ⟨h0.1, h0.2.1, h0.2.2.1, h0.2.2.2, z1, z2⟩, vk_R.of (htl _ l_sr) hv⟩
  · exact ⟨adK 0, adV 0, .ref t, Or.inr ⟨t, rfl⟩, ⟨h0.1, h0.2.1, h0.2.2.1, h0.2.2.2, z1, z2⟩, vk_R.of (htl _ l_sr) hv⟩
end Q9zs

