
section YA
variable {Γ : xGm} {M : xMg} {a kc ks pc : Nat} {ex : va_W} {R : Room} {cc : ByteArray} {own : String} {L : Nat → Option Value} {st : List Value} {cs cs' : List va_E}
theorem y_aastore {p pk ci n : Nat} {r : vw_C} {vs : List Value} {f : Nat → Option Nat} {i : Int32} (o : yOk Γ M a ex R cc own) (ha : cs[p]? = some (.inl (M.2.2.2.2.2, n, .inr (.inr (.inr (.inr f)))))) (hr : r.1 = RX8) (hv : cs[pk]? = some (.inr (ci, vs))) (hc : vwCl[ci]? = some r) (hin : vp_in i n) (hd : decode cc pc = .ok (.aastore, 1)) (hcs : cs.set p (.inl (M.2.2.2.2.2, n, .inr (.inr (.inr (.inr (va_up f i.toNatClampNeg (some (a + pk)))))))) = cs') (k : yAt Γ M a ex kc ks (pc + 1) L st cs') : yAt Γ M a ex kc ks pc L (.ref (a + pk) :: .int i :: .ref (a + p) :: st) cs := by
  subst hcs
  intro ls H locs hl' hw
  obtain ⟨⟨hx, hb, hml, ho, hts⟩, hK, hex, hRR, ha0, hao⟩ := o
  obtain ⟨w1, w2, w3, w4⟩ := hw
  have he : (ywl a cs)[p]? = some (a + p, .inl (M.2.2.2.2.2, n, .inr (.inr (.inr (.inr f))))) := by rw [ywl_get, ha]; rfl
  have hek : (ywl a cs)[pk]? = some (a + pk, .inr (ci, vs)) := by rw [ywl_get, hv]; rfl
  have hlt : i.toNatClampNeg < n := Nat.not_le.mp fun q => hin (Or.inr q)
  have h0 : ¬ i < 0 := fun q => hin (Or.inl q)
  obtain ⟨r', hr', cellV, g1, g2, g3, -⟩ := w2 pk _ hek
  have hcls := (hK.1 ci r hc).2
  obtain ⟨kA, comp, k1, k2, k3, -⟩ := (hK.2 3 _ rfl).2
  have hcomp : comp = M.1.1 ci := Option.some.inj (k3.symm.trans (by rw [← hr]; exact hcls.1))
  subst hcomp
  obtain ⟨kC, hkC, -⟩ := hcls.2
  refine W.aast hx hb (w2 p _ he) (fun q h => by cases h) (fun h => by cases h) k1 k2 rfl hkC ⟨h0, by show _ < (arrV _ _ _).slots.size; rw [arrV_size]; exact hlt⟩ g1 (fun q h => by rw [g3] at h; cases h) (by rw [g2]; exact hkC) (by rw [g2]; exact va_assign hcls) rfl rfl hd fun H1 e z oq => ?_
  have hP1 : va_P M.1 vwCl ((ywl a cs).set p (a + p, .inl (M.2.2.2.2.2, n, .inr (.inr (.inr (.inr (va_up f i.toNatClampNeg (some (a + pk))))))))) H1 := by
    refine w2.set (ywl_D a cs) he ?_ oq
    show H1[a + p]? = some (vp_cell _ _)
    rw [e]
    rw [vp_cell_q, vp_cell_q, arrV_store]
    congr 2
    funext q
    by_cases hq : q = i.toNatClampNeg
    · subst hq
      simp [updV, va_up, va_rf]
    · simp [updV, va_up, hq]
  rw [ywl_set] at hP1
  refine k ls H1 _ hl' ⟨by rw [z, w1]; simp, hP1, w3.kept (fun i x hx => oq x.1 (fun zz => ?_)), w4.put z oq (Nat.le_add_right a p)⟩
  have := hex x (List.mem_of_getElem? hx)
  have : x.1 = a + p := zz
  omega
theorem y_iastore {p n : Nat} {f : Nat → Int32} {i x : Int32} (o : yOk Γ M a ex R cc own) (ha : cs[p]? = some (.inl (M.2.2.1, n, .inl f))) (hin : vp_in i n) (hd : decode cc pc = .ok (.iastore, 1)) (hcs : cs.set p (.inl (M.2.2.1, n, .inl (upd f i.toNatClampNeg x))) = cs') (k : yAt Γ M a ex kc ks (pc + 1) L st cs') : yAt Γ M a ex kc ks pc L (.int x :: .int i :: .ref (a + p) :: st) cs := by
  subst hcs
  intro ls H locs hl' hw
  obtain ⟨⟨hx, hb, hml, ho, hts⟩, hK, hex, hRR, ha0, hao⟩ := o
  obtain ⟨w1, w2, w3, w4⟩ := hw
  have he : (ywl a cs)[p]? = some (a + p, .inl (M.2.2.1, n, .inl f)) := by rw [ywl_get, ha]; rfl
  refine W.iast hx hb (w2 p _ he) ((hK.2 0 _ rfl).1 n (fun j => .int (f j))) (fun q => by cases q) (by show ¬ (i < 0 ∨ (arrV _ _ _).slots.size ≤ _); rw [arrV_size]; exact hin) rfl rfl hd fun H1 e z oq => ?_
  have hP1 : va_P M.1 vwCl ((ywl a cs).set p (a + p, .inl (M.2.2.1, n, .inl (upd f i.toNatClampNeg x)))) H1 := by
    refine w2.set (ywl_D a cs) he ?_ oq
    show H1[a + p]? = some (vp_cell _ _)
    rw [e]
    rw [vp_cell_i, vp_cell_i, arrV_store]
    congr 2
    funext q
    by_cases hq : q = i.toNatClampNeg
    · subst hq
      simp [updV, upd]
    · simp [updV, upd, hq]
  rw [ywl_set] at hP1
  refine k ls H1 _ hl' ⟨by rw [z, w1]; simp, hP1, w3.kept (fun i x hx => oq x.1 (fun zz => ?_)), w4.put z oq (Nat.le_add_right a p)⟩
  have := hex x (List.mem_of_getElem? hx)
  have : x.1 = a + p := zz
  omega
theorem y_anew {idx p : Nat} {n : Int32} {N' : Nat} (o : yOk Γ M a ex R cc own) (h1 : Cond.classLink own idx RX8 ∈ xWS) (hn : ¬ n < 0) (hN : n.toNatClampNeg = N') (hbytes : N' ≤ 100000) (hR : kc + 1 ≤ R.cells ∧ ks + N' ≤ R.slots) (hd : decode cc pc = .ok (.anewarray idx, 3)) (hp : cs.length = p) (hcs : cs ++ [.inl (M.2.2.2.2.2, N', .inr (.inr (.inr (.inr (fun _ => none)))))] = cs') (k : yAt Γ M a ex (kc + 1) (ks + N') (pc + 3) L (.ref (a + p) :: st) cs') : yAt Γ M a ex kc ks pc L (.int n :: st) cs := by
  subst hp; subst hcs; subst hN
  intro ls H locs hl hw
  obtain ⟨⟨hx, hb, hml, ho, hts⟩, hK, hex, hRR, ha, hao⟩ := o
  obtain ⟨w1, w2, w3, w4⟩ := hw
  refine W.anew hx hb ho (hts _ h1) (va_AO.use hao) rfl hd rfl hn (by omega) (by rw [hRR]; exact hR.1) (by rw [hRR]; exact hR.2) fun cA kA comp f1 f2 f3 f4 => ?_
  generalize hH1 : H.push ({ cls := cA, slots := Array.replicate n.toNatClampNeg .null, vm := .none } : Cell) = H1
  have z1 : H1.size = H.size + 1 := by rw [← hH1, Array.size_push]
  have e1 : H1[H.size]? = some (arrV cA n.toNatClampNeg (fun _ => .null)) := by rw [← hH1, Array.getElem?_push_size, ← arrV_new]
  have o2 : ∀ q : Nat, q < H.size → H1[q]? = H[q]? := fun q hq => by rw [← hH1, Array.getElem?_push, if_neg (Nat.ne_of_lt hq)]
  obtain ⟨kA', comp', g1, g2, g3, g4⟩ := (hK.2 3 _ rfl).2
  have hcA : cA = M.2.2.2.2.2 := Option.some.inj (f1.symm.trans g4)
  subst hcA
  rw [w1] at e1
  have hk := k ls H1 locs hl ⟨by rw [z1, w1, List.length_append]; simp; omega, ?_, y_kept w3 o2, ⟨by rw [z1]; have := w4.1; omega, fun q h1 h2 => (o2 q (Nat.lt_of_lt_of_le h1 w4.1)).trans (w4.2.1 q h1 h2), w4.2.2⟩⟩
  · rw [← w1] at hk; exact hk
  rw [ywl_app]
  refine (y_kept w2 o2).app (fun k x hx => ?_)
  have hz : k < 1 := by have := (List.getElem?_eq_some_iff.mp hx).1; simpa [ywl] using this
  rw [show k = 0 by omega] at hx
  cases hx
  exact e1
end YA
theorem ymX3_3 : Cond.methodLink RX3 3 Lib.objectInit ∈ xWS := xWS_in (inC1 (List.mem_of_getElem? (i := 237) (by decide +kernel))) (by decide +kernel)
theorem ycX3_11 : Cond.classLink RX3 11 RX8 ∈ xWS := xWS_in (inC1 (List.mem_of_getElem? (i := 238) (by decide +kernel))) (by decide +kernel)
theorem ylX3_13 : Cond.fieldLink RX3 13 (TX3 0).1 (TX3 0).2.1 (TX3 0).2.2.1 ∈ xWS := xWS_in (inC2 (List.mem_of_getElem? (i := 1) (by decide +kernel))) (by decide +kernel)
theorem ylX3_17 : Cond.fieldLink RX3 17 (TX3 1).1 (TX3 1).2.1 (TX3 1).2.2.1 ∈ xWS := xWS_in (inC2 (List.mem_of_getElem? (i := 2) (by decide +kernel))) (by decide +kernel)
theorem ymX3_21 : Cond.methodLink RX3 21 yX8_init ∈ xWS := xWS_in (inC2 (List.mem_of_getElem? (i := 0) (by decide +kernel))) (by decide +kernel)
set_option maxRecDepth 100000 in
theorem eX3_init : xCaI yX3_init cX3_init 2 0 := ⟨xWS_in (inC1 (List.mem_of_getElem? (i := 236) rfl)) rfl, xWS_in (inC1 (List.mem_of_getElem? (i := 235) (by decide +kernel))) (by decide +kernel), xWS_in (inC1 (List.mem_of_getElem? (i := 5) (by decide +kernel))) (by decide +kernel), rfl, by decide +kernel, by decide +kernel, by decide +kernel, by decide⟩

def cYards (M : xMg) (a : Nat) : Nat → List va_E
  | 0 => []
  | n + 1 => cYards M a n ++ cYard M (a + 5 * n)
theorem cYards_len (M : xMg) (a : Nat) : ∀ n, (cYards M a n).length = 5 * n
  | 0 => rfl
  | n + 1 => by
    show (cYards M a n ++ cYard M (a + 5 * n)).length = 5 * (n + 1)
    rw [List.length_append, cYards_len M a n]
    rfl
def ySv (M : xMg) (a i : Nat) : va_E := .inl (M.2.2.2.2.2, 20, .inr (.inr (.inr (.inr (fun j => if j < i then some (a + 5 * j) else none)))))
abbrev yPo (a : Nat) : va_E := .inr (3, [.ref (a + 1), .ref (a + 2), .int 0, .int 0])
def cPast (M : xMg) (a : Nat) : List va_E := yPo a :: ySv M (a + 3) 20 :: yI M 240 :: cYards M (a + 3) 20
set_option maxHeartbeats 4000000 in
theorem yPast_loop {Γ : xGm} {M : xMg} {a : Nat} (o : yOk Γ M a [] (xrm2 2 102 1800) cX3_init RX3) (hnL : Γ.2.2.2 = 2) (hend : ∀ L, yAt Γ M a [] 102 1800 49 L [] (cPast M a)) : ∀ (n i : Nat), i + n = 20 → yAt Γ M a [] (2 + 5 * i) (260 + 77 * i) 24 (xlv [(0, .ref a), (1, .int (nI i))]) [] (yPo a :: ySv M (a + 3) i :: yI M 240 :: cYards M (a + 3) i) := by
  intro n
  induction n with
  | zero =>
    intro i hi
    have e : i = 20 := by omega
    subst e
    refine y_iload_n (pc := 24) o dX3_init_24 rfl rfl ?_
    refine y_bipush (pc := 25) (v := 20) o dX3_init_25 (by decide +kernel) ?_
    exact y_icmp_ge (pc := 27) (tgt := 49) o dX3_init_27 (by decide) (fun _ => hend _) (fun c => absurd (by decide) c)
  | succ n ih =>
    intro i hi
    have hi2 : i < 20 := by omega
    have hlen : (yPo a :: ySv M (a + 3) i :: yI M 240 :: cYards M (a + 3) i).length = 3 + 5 * i := by
      simp only [List.length_cons, cYards_len]; omega
    refine y_iload_n (pc := 24) o dX3_init_24 rfl rfl ?_
    refine y_bipush (pc := 25) (v := 20) o dX3_init_25 (by decide +kernel) ?_
    refine y_icmp_ge (pc := 27) (tgt := 49) o dX3_init_27 (by decide) (fun c => absurd c (nI_ge (a := i) (b := 20) hi2 (by omega))) (fun _ => ?_)
    refine y_aload_n (pc := 30) o dX3_init_30 rfl rfl ?_
    refine y_get (pc := 31) (p := 0) (j := 0) (fs := [.ref (a + 1), .ref (a + 2), .int 0, .int 0]) (v := .ref (a + 1)) o clX3 (by decide) ylX3_13 rfl rfl dX3_init_31 ?_
    refine y_iload_n (pc := 34) o dX3_init_34 rfl rfl ?_
    refine y_newE (pc := 35) (n := 3 + 5 * i) (cs' := yPo a :: ySv M (a + 3) i :: yI M 240 :: (cYards M (a + 3) i ++ [.inr (8, [.int 0, .int 0, .int 0, .int 0, .int 0, .null, .null, .null, .null])])) o clX8 ycX3_11 inX8_w itX8_w dfX8 ⟨by show _ ≤ 102; omega, by show _ ≤ 1800; omega⟩ dX3_init_35 hlen rfl ?_
    refine y_dup (pc := 38) o dX3_init_38 rfl ?_
    refine y_callE (pc := 39) (b := 3 + 5 * i) (pre := yPo a :: ySv M (a + 3) i :: yI M 240 :: cYards M (a + 3) i) (As := []) (rest := [.ref (a + (3 + 5 * i)), .int (nI i), .ref (a + 1)]) (cs1 := cYard M (a + (3 + 5 * i))) (cs' := yPo a :: ySv M (a + 3) i :: yI M 240 :: (cYards M (a + 3) i ++ cYard M (a + (3 + 5 * i)))) (ex' := []) o hlen (yX8_init_ok _ M (a + (3 + 5 * i))) eX8_init ymX3_21 ⟨Nat.le_of_ble_eq_true rfl, Nat.le_of_ble_eq_true rfl, by show _ ≤ 102; omega, by show _ ≤ 1800; omega⟩ rfl (fun q h => absurd h List.not_mem_nil) rfl rfl (Nat.le_of_ble_eq_true rfl) dX3_init_39 rfl ?_
    refine y_aastore (pc := 42) (p := 1) (pk := 3 + 5 * i) (ci := 8) (n := 20) (r := (RX8, TX8, 9)) (vs := [.int 0, .int 0, .int 0, .int 0, .int 0, .ref (a + (3 + 5 * i) + 1), .ref (a + (3 + 5 * i) + 2), .ref (a + (3 + 5 * i) + 3), .ref (a + (3 + 5 * i) + 4)]) (f := fun j => if j < i then some (a + 3 + 5 * j) else none) (cs' := yPo a :: ySv M (a + 3) (i + 1) :: yI M 240 :: cYards M (a + 3) (i + 1)) o rfl rfl ?_ rfl (vp_in_nI hi2 (by omega)) dX3_init_42 ?_ ?_
    · rw [show 3 + 5 * i = (5 * i) + 1 + 1 + 1 by omega, List.getElem?_cons_succ, List.getElem?_cons_succ, List.getElem?_cons_succ, List.getElem?_append_right (by rw [cYards_len]; exact Nat.le_refl _), cYards_len, Nat.sub_self]
      rfl
    · have e1 : (va_up (fun j => if j < i then some (a + 3 + 5 * j) else none) (nI i).toNatClampNeg (some (a + (3 + 5 * i)))) = (fun j => if j < i + 1 then some (a + 3 + 5 * j) else none) := by
        funext j
        rw [nI_clamp (by omega)]
        unfold va_up
        by_cases hj : j = i
        · subst hj
          rw [if_pos rfl, if_pos (by omega), Nat.add_assoc]
        · rw [if_neg hj]
          show (if j < i then some (a + 3 + 5 * j) else none) = _
          by_cases hk : j < i
          · rw [if_pos hk, if_pos (by omega)]
          · rw [if_neg hk, if_neg (by omega)]
      show yPo a :: _ :: yI M 240 :: (cYards M (a + 3) i ++ cYard M (a + (3 + 5 * i))) = yPo a :: ySv M (a + 3) (i + 1) :: yI M 240 :: (cYards M (a + 3) i ++ cYard M (a + 3 + 5 * i))
      rw [e1, ← Nat.add_assoc a 3 (5 * i)]
      rfl
    · refine y_iinc (pc := 43) (v := nI (i + 1)) o dX3_init_43 rfl (nI_k i 1 rfl) (by omega) ?_
      refine y_goto (pc := 46) (tgt := 24) o dX3_init_46 (by decide) ?_
      refine y_to (l := [(0, .ref a), (1, .int (nI (i + 1)))]) ⟨rfl, rfl, trivial⟩ ?_
      refine y_cnt (kc' := 2 + 5 * (i + 1)) (ks' := 260 + 77 * (i + 1)) (by omega) (by omega) ?_
      exact ih (i + 1) (by omega)
set_option maxHeartbeats 8000000 in
theorem yX3_init_ok (l : Launch) (M : xMg) (a : Nat) : yMet l yX3_init cX3_init 2 2 102 1800 M a [] [.ref a] [.inr (3, [.null, .null, .int 0, .int 0])] (cPast M a) := by
  refine y_met (plainFor_of_name (by decide)) rfl (Nat.le_of_ble_eq_true rfl) (fun q h => absurd h List.not_mem_nil) (fun Γ hnL hl hlk hin hQ hret o => ?_)
  subst hl
  have o : yOk Γ M a _ (xrm2 2 102 1800) cX3_init RX3 := o
  refine y_to (l := [(0, .ref a)]) ⟨rfl, trivial⟩ ?_
  refine y_aload_n (pc := 0) o dX3_init_0 rfl rfl ?_
  refine y_objInit (pc := 1) o ymX3_3 w_oi1 w_oi2 ⟨Nat.le_of_ble_eq_true rfl, Nat.le_of_ble_eq_true rfl⟩ (Nat.le_of_ble_eq_true rfl) dX3_init_1 ?_
  refine y_aload_n (pc := 4) o dX3_init_4 rfl rfl ?_
  refine y_bipush (pc := 5) (v := 20) o dX3_init_5 (by decide +kernel) ?_
  refine y_anew (pc := 7) (N' := 20) (p := 1) (cs' := [.inr (3, [.null, .null, .int 0, .int 0]), ySv M (a + 3) 0]) o ycX3_11 (by decide) rfl (by decide) ⟨Nat.le_of_ble_eq_true rfl, Nat.le_of_ble_eq_true rfl⟩ dX3_init_7 rfl ?_ ?_
  · show [_, _] = [_, _]
    congr 3
  refine y_putFE (pc := 10) (p := 0) (j := 0) (fs := [.null, .null, .int 0, .int 0]) (cs' := [.inr (3, [.ref (a + 1), .null, .int 0, .int 0]), ySv M (a + 3) 0]) o hin clX3 (by decide) ylX3_13 rfl rfl rfl (Nat.le_of_ble_eq_true rfl) rfl rfl dX3_init_10 rfl ?_
  refine y_aload_n (pc := 13) o dX3_init_13 rfl rfl ?_
  refine y_sipush (pc := 14) (v := 240) o dX3_init_14 (by decide +kernel) ?_
  refine y_newI (pc := 17) (N' := 240) (p := 2) (cs' := [.inr (3, [.ref (a + 1), .null, .int 0, .int 0]), ySv M (a + 3) 0, yI M 240]) o ar_int (by decide) rfl (by decide) ⟨Nat.le_of_ble_eq_true rfl, Nat.le_of_ble_eq_true rfl⟩ dX3_init_17 rfl rfl ?_
  refine y_putFE (pc := 19) (p := 0) (j := 1) (fs := [.ref (a + 1), .null, .int 0, .int 0]) (cs' := [yPo a, ySv M (a + 3) 0, yI M 240]) o hin clX3 (by decide) ylX3_17 rfl rfl rfl (Nat.le_of_ble_eq_true rfl) rfl rfl dX3_init_19 rfl ?_
  refine y_iconst (pc := 22) o dX3_init_22 ic_0 ?_
  refine y_istore_n (pc := 23) o dX3_init_23 rfl (by omega) ?_
  refine y_to (l := [(0, .ref a), (1, .int (nI 0))]) ⟨rfl, rfl, trivial⟩ ?_
  exact yPast_loop o hnL (fun L => y_vreturn (pc := 49) o hlk hQ hret dX3_init_49 rfl) 20 0 rfl

