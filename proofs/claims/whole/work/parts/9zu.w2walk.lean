/-! ===== the law's start: the walk to the loop ===== -/
section Q9zu
variable {Γ : xGm} {M : xMg} {D : va_G} {T : ClassId × ClassId × ClassId × ClassId} {a b L kK kV : Nat} {xs : Nat → Int32} {fm : Value}
theorem cTS_n {f : Nat → Int32} {N : Nat} : (cTS f N M a).length = 178 := by
  unfold cTS
  simp only [List.length_cons, List.length_append, List.length_nil, cYear_n, cYard_n, cPast_n, cShop_n, cAhead_n, tkCt_n, cYearReader_n, cLoans_n, cPicture_n, Nat.reduceAdd]
theorem l_D {cs : List va_E} {n : Nat} (h : cs.length = n) : va_D (fun q => a ≤ q ∧ q < a + n) (ywl a cs) := by
  refine ⟨(ywl_D a cs).1, fun k q hk => ⟨(ywl_D a cs).2 k q hk, ?_⟩⟩
  rw [ywl_get] at hk
  cases hc : cs[k]? with
  | none => rw [hc] at hk; cases hk
  | some e =>
    rw [hc] at hk
    cases hk
    have := (List.getElem?_eq_some_iff.mp hc).1
    show a + k < a + n
    omega
set_option maxHeartbeats 2000000 in
theorem l_walk (o : yOk Γ (D, (fun k => a + k), T) a [] room_1 cL_law RL) (hnL : Γ.2.2.2 = 4) (hA0 : Γ.2.2.1 = fun q => a ≤ q) (hsz : Γ.1.2.2.2.2.1.heap.size = a) (hs : sB (fun q => a ≤ q) kK kV 149 (fun j => tkB.getD j 0) fm Γ.1.2.2.2.2.1 Γ.1.2.2.2.2.1.heap) (hvk : vk_R RX7 25 tkX kK Γ.1.2.2.2.2.1) (hfm : fm = .null ∨ ∃ q, fm = .ref q) (hL : L ≤ 3072) (hX : va_X b L xs Γ.1.2.2.2.2.1 Γ.1.2.2.2.2.1.heap) (hbl : b < a)
    (hend : ∀ (ls : Array Slot) (H : Heap) (locs : List Loc), va_S (fun q => a ≤ q) Γ.1.2.2.2.2.1.heap H locs →
      W Γ.1.1 Γ.1.2.1 Γ.1.2.2.1 Γ.1.2.2.2.1 Γ.1.2.2.2.2.1 Γ.1.2.2.2.2.2.1 Γ.1.2.2.2.2.2.2.1 Γ.1.2.2.2.2.2.2.2.1 Γ.1.2.2.2.2.2.2.2.2.1 Γ.1.2.2.2.2.2.2.2.2.2 H locs 234 24721 Γ.2.1 (F0 Γ.1.2.2.2.2.2.1 1116 ls [.int 1])) : yAt Γ (D, (fun k => a + k), T) a [] 0 0 0 (xarg [.ref b]) [] [] := by
  refine y_to (l := [(0, .ref b)]) ⟨rfl, trivial⟩ ?_
  refine y_newE (pc := 0) (n := 0) (cs' := [.inr (11, l_D11)]) o clX11 yL_7 inX11_w itX11_w dfX11 ⟨Nat.le_of_ble_eq_true rfl, Nat.le_of_ble_eq_true rfl⟩ dL_law_0 rfl rfl ?_
  refine y_dup (pc := 3) o dL_law_3 rfl ?_
  refine y_callS (pc := 4) (rest := [.ref a]) o hs hvk (yX11_init_ok _ _ a kK kV 149 _ fm hfm (by decide)) yL_9 ⟨Nat.le_of_ble_eq_true rfl, Nat.le_of_ble_eq_true rfl, Nat.le_of_ble_eq_true rfl, Nat.le_of_ble_eq_true rfl⟩ (Nat.le_of_ble_eq_true rfl) dL_law_4 ?_
  refine y_astore_n (pc := 7) o dL_law_7 rfl (by rw [hnL]; decide) ?_
  refine y_to (l := [(0, .ref b), (1, .ref a)]) ⟨rfl, rfl, trivial⟩ ?_
  refine y_newE (pc := 8) (n := 178) o clX12 yL_10 inX12_w itX12_w dfX12 ⟨Nat.le_of_ble_eq_true rfl, Nat.le_of_ble_eq_true rfl⟩ dL_law_8 cTS_n rfl ?_
  refine y_dup (pc := 11) o dL_law_11 rfl ?_
  refine y_callM (pc := 12) (b := 178) (M2 := (D, (fun k => a + 178 + k), T)) (rest := [.ref (a + 178)]) o cTS_n ⟨rfl, rfl⟩ (yX12_init_ok _ _ (a + 178) (fun k => rfl)) yL_12 ⟨Nat.le_of_ble_eq_true rfl, Nat.le_of_ble_eq_true rfl, Nat.le_of_ble_eq_true rfl, Nat.le_of_ble_eq_true rfl⟩ (Nat.le_of_ble_eq_true rfl) dL_law_12 (fun ls H locs hl h1 h2 h3 => ?_)
  have oz : zOk Γ ((D, (fun k => a + k), T), (D, (fun k => a + 178 + k), T), (fun q => a ≤ q ∧ q < a + 178), (fun q => a + 178 ≤ q)) 234 24721 b L xs :=
    ⟨o.1, o.2.1, o.2.1, ⟨o.2.2.2.1, by decide, by decide⟩, ⟨fun q h => by rw [hA0]; exact h.1, fun q h => by rw [hA0]; exact Nat.le_trans (Nat.le_add_right _ _) h, fun q h h' => Nat.lt_irrefl _ (Nat.lt_of_lt_of_le h.2 h')⟩, hX, by rw [hsz]; exact hbl, by rw [hA0]; exact Nat.not_le.mpr hbl⟩
  have hend' : ∀ (L' : Nat → Option Value) (S1 S2 : xSt), zAt Γ ((D, (fun k => a + k), T), (D, (fun k => a + 178 + k), T), (fun q => a ≤ q ∧ q < a + 178), (fun q => a + 178 ≤ q)) 234 24721 1115 L' [] S1 S2 := fun L' S1 S2 => by
    refine z_iconst (pc := 1115) oz dL_law_1115 ic_1 (fun ls H locs hl hw => ?_)
    have h5 := hw.2.2.2.2
    rw [hA0] at h5
    exact hend ls H locs h5
  have hz : zAt Γ ((D, (fun k => a + k), T), (D, (fun k => a + 178 + k), T), (fun q => a ≤ q ∧ q < a + 178), (fun q => a + 178 ≤ q)) 234 24721 15 (xlv [(0, .ref b), (1, .ref a)]) [.ref (a + 178)] (cS0 (tkSt (fun j => tkB.getD j 0) 149).2.2.2) mS2 := by
    refine z_astore_n (pc := 15) oz dL_law_15 rfl (by rw [hnL]; decide) ?_
    refine z_iconst (pc := 16) (v := nI 0) oz dL_law_16 rfl ?_
    refine z_istore_n (pc := 17) oz dL_law_17 rfl (by rw [hnL]; decide) ?_
    refine z_to (l := [(0, .ref b), (1, .ref (a + 0)), (2, .ref (a + 178 + 0)), (3, .int (nI 0))]) ⟨rfl, rfl, rfl, rfl, trivial⟩ ?_
    exact z_loop oz hnL gR_E hL hend' (L + 12) 0 (by omega) (by omega) _ _ (gR_0 (fun k hk => tk_own hk))
  have e1 : xwl tC (D, (fun k => a + k), T) (cS0 (tkSt (fun j => tkB.getD j 0) 149).2.2.2) = ywl a (xcs tC (D, (fun k => a + k), T) (cS0 (tkSt (fun j => tkB.getD j 0) 149).2.2.2)) := xcs_ywl (N := 178) rfl (fun k => rfl) _
  have e2 : xwl tM (D, (fun k => a + 178 + k), T) mS2 = ywl (a + 178) (xcs tM (D, (fun k => a + 178 + k), T) mS2) := xcs_ywl (N := 56) rfl (fun k => rfl) _
  refine hz ls H locs hl ⟨?_, ?_, ?_, ?_, ?_⟩
  · show va_P D vwCl (xwl tC (D, (fun k => a + k), T) _) H
    rw [e1]
    exact l_cells (M := (D, (fun k => a + k), T)) h1
  · show va_P D vwCl (xwl tM (D, (fun k => a + 178 + k), T) mS2) H
    rw [e2]
    exact h2
  · show va_D (fun q => a ≤ q ∧ q < a + 178) (xwl tC (D, (fun k => a + k), T) _)
    rw [e1]
    exact l_D (by show ((List.range 178).map _).length = 178; rw [List.length_map, List.length_range])
  · show va_D (fun q => a + 178 ≤ q) (xwl tM (D, (fun k => a + 178 + k), T) mS2)
    rw [e2]
    exact ywl_D _ _
  · rw [hA0]
    exact h3
end Q9zu

