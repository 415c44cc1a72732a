def R_law : String := "ToolSaintsLaw"
def lw_P (b : Addr) (xs : List Int32) (args : Array Value) (s : State) : Prop := args = #[.ref b] ∧ s.IntsAt b xs ∧ xs.length ≤ 3072 ∧ (Jvm.Cond.and given_1 narrow_1).before args s = true
def lw_Q (_ : Array Value) (s : State) (o : Outcome) (t : State) : Prop := o = .returned (some (.int 1)) ∧ Framed s o t [] 600000 7302250
def lw_Z (below : List Frame) (a : Array Value) (s : State) : State → Prop := fun t => ∃ o, t.status = .running ∧ Ended t below o ∧ lw_Q a s o t
/-- the law's own end, with 1 on the stack, nothing written that was there before, its room as the claim has it -/
theorem lw_ret {p : Program} {l : Launch} {e : Env} {s : State} {m : MethodId} {below : List Frame} {meth : Method} {c : Code} {b : Nat} (hx : p.tables.exec = Jvm.exec) (hb : c.code = code) (hr : meth.sig.returnType = ret) (hlocks : meth.locks = false) {pc : Nat} {H : Heap} {ls : Array Slot} (hdg : decode code pc = .ok (.ireturn, 1)) : W p l e room_1 s m #[Value.ref b] below meth c H [] 600000 7302250 (lw_Z below #[Value.ref b] s) (F0 m pc ls [.int 1]) := by
  intro T hT X
  obtain ⟨fs, hret, hrun, hended, hW, hframe⟩ := X.leave (v := some (.int 1)) (hlocks := hlocks) (fun h => by rw [hr] at h; cases h)
  have hmeth' : T.vm.method? m = some meth := X.method'
  refine ⟨T.setFrames fs, ?_, .returned (some (.int 1)), hrun, hended, rfl, ⟨_, rfl⟩, hW, hframe⟩
  jvm_step X.here [X.here.top, hx, hb, hdg, hmeth', hr, ret, narrow_b1]
  (try refine ⟨rfl, ?_⟩); (try refine ⟨rfl, ?_⟩)
  first | (intro acts; rw [hret _ acts rfl rfl rfl]) | rw [hret _ _ rfl rfl rfl]
  exact Steps.refl _
/-- what holds at the law's entry: the machine, the code, the tables' words (any of lw_tbl by 'hts w (by decide +kernel)'), the script of L ints xs at the cell b, what the Statement gives of the start (any of its parts by flat_of_before) -/
def lw_At (p : Program) (s : State) (m : MethodId) (meth : Method) (c : Code) (b L : Nat) (xs : Nat → Int32) : Prop :=
  p.tables.exec = Jvm.exec ∧ c.code = code ∧ meth.sig.returnType = ret ∧ c.maxLocals = 4 ∧ s.vm.findClass R_law = some m.cls ∧ (∀ w ∈ lw_tbl, w.before #[Value.ref b] s = true) ∧ va_X b L xs s s.heap ∧ b < s.heap.size ∧ meth.locks = false ∧ (Jvm.Cond.and given_1 narrow_1).before #[Value.ref b] s = true
theorem whole_start {p : Program} {e : Env} {s : State} {m : MethodId} {below : List Frame} {meth : Method} {c : Code} (l : Launch) {b L : Nat} {xs : Nat → Int32} (hL : L ≤ 3072) (C0 : lw_At p s m meth c b L xs) : W p l e room_1 s m #[Value.ref b] below meth c s.heap [] 0 0 (lw_Z below #[Value.ref b] s) (entryFrame m ([Value.ref b] : List Value).toArray 4) := by
  obtain ⟨hx, hb, hret, hml, hown, htl, hX, hbl, hlk, hgv⟩ := C0
  have hts : ∀ w ∈ xWS, w.before #[Value.ref b] s = true := fun w hw => htl w (xWS_tbl hw)
  obtain ⟨D, T, hK⟩ := l_K hts htl
  obtain ⟨a, ha⟩ : ∃ a, a = s.heap.size := ⟨_, rfl⟩
  obtain ⟨kK, kV, fm, hfm, hs, hvk⟩ := l_str (A := fun q => a ≤ q) hgv hts htl (fun q h z => absurd h (Nat.not_lt.mpr (ha ▸ z)))
  obtain ⟨Γ, hΓ⟩ : ∃ Γ : xGm, Γ = ((p, l, e, room_1, s, m, #[Value.ref b], below, meth, c), lw_Z below #[Value.ref b] s, (fun q => a ≤ q), 4) := ⟨_, rfl⟩
  have o : yOk Γ (D, (fun k => a + k), T) a [] room_1 cL_law RL := by
    rw [hΓ]
    exact ⟨⟨hx, hb, hml, hown, hts⟩, hK _, (fun q h => absurd h List.not_mem_nil), rfl, Nat.le_of_eq ha, va_AO.of (htl _ l_ao)⟩
  have h := l_walk (L := L) (xs := xs) (b := b) o (by rw [hΓ]) (by rw [hΓ]) (by rw [hΓ]; exact ha.symm) (by rw [hΓ]; exact hs) (by rw [hΓ]; exact hvk) hfm hL (by rw [hΓ]; exact hX) (by rw [ha]; exact hbl) (by
    rw [hΓ]
    intro ls H locs hS
    refine va_forget (fun q hq => ?_) (W.widen (k := 600000) (n := 7302250) (by decide) (by decide) (lw_ret hx hb hret hlk dL_law_1116))
    rw [← ha]
    exact hS.2.2 q hq)
  have hl := lv_entry [Value.ref b] (n := 4) (Nat.le_of_ble_eq_true rfl)
  rw [lg_entry_eq]
  rw [hΓ] at h
  exact h _ _ [] ⟨hl.1, hl.2.1, fun i v hi => hl.2.2 (i, v) (x_lookup hi)⟩ ⟨ha.symm, (fun i q hi => by cases hi), (fun i q hi => by cases hi), va_S.rf⟩
