def fX0_findOrder_L25b (n : Nat) (k0 : Nat) (a1 : Int32) (a2 : Int32) (rec : Int32 → xSt → Option (xSt)) (a3 : Int32) (S : xSt) : Option (xSt) :=
  if ((6 : Int32)) ≤ a3 then
  (some S)
else
  ((xgF tC 0 4 k0 S).bind fun r5 =>
  (xas tC r5 a3 a3 S).bind fun S6 =>
  (some (a3 + (1 : Int32))).bind fun v7 =>
  rec v7 S6)
def fX0_findOrder_L25 (n : Nat) (k0 : Nat) (a1 : Int32) (a2 : Int32) : Nat → Int32 → xSt → Option (xSt)
  | 0 => fun _ _ => none
  | q + 1 => fX0_findOrder_L25b n k0 a1 a2 (fX0_findOrder_L25 n k0 a1 a2 q)
set_option maxHeartbeats 4000000 in
theorem tX0_findOrder_L25b {Γ : xGm} {M : xMg} (o : xOk Γ tC M 7 cX0_findOrder RX0) (hnL : Γ.2.2.2 = 6) {rec : Int32 → xSt → Option (xSt)} (n : Nat) (k0 : Nat) (a1 : Int32) (a2 : Int32) (a3 : Int32) (S : xSt) (z : (xSt)) (hrec : ∀ (a3 : Int32) (S : xSt), rec a3 S = some z → xAt Γ tC M 25 (xlv [(0, .ref (M.2.1 k0)), (1, .int a1), (2, .int a2), (3, .int a3)]) [] S) (K : xAt Γ tC M 44 (xlv [(0, .ref (M.2.1 k0)), (1, .int a1), (2, .int a2)]) [] z) (h : fX0_findOrder_L25b n k0 a1 a2 rec a3 S = some z) : xAt Γ tC M 25 (xlv [(0, .ref (M.2.1 k0)), (1, .int a1), (2, .int a2), (3, .int a3)]) [] S := by
  have hn3 : 3 < Γ.2.2.2 := by omega
  unfold fX0_findOrder_L25b at h
  refine x_iload_n (pc := 25) o dX0_findOrder_25 rfl rfl ?_
  refine x_bipush (pc := 26) o dX0_findOrder_26 bp_6 ?_
  refine x_icmp_ge (pc := 28) (tgt := 44) o dX0_findOrder_28 (by decide) (fun c8 => ?_) (fun c8 => ?_)
  · have h := xit h c8
    refine x_to (l := [(0, .ref (M.2.1 k0)), (1, .int a1), (2, .int a2)]) ⟨rfl, rfl, rfl, trivial⟩ ?_
    cases Option.some.inj h
    exact K
  · have h := xif h c8
    refine x_aload_n (pc := 31) o dX0_findOrder_31 rfl rfl ?_
    obtain ⟨r5, hr5, h⟩ := xbs h
    refine gX0_18 (pc := 32) o dX0_findOrder_32 hr5 ?_
    refine x_iload_n (pc := 35) o dX0_findOrder_35 rfl rfl ?_
    refine x_iload_n (pc := 36) o dX0_findOrder_36 rfl rfl ?_
    obtain ⟨S6, hS6, h⟩ := xbs h
    refine x_iastore (pc := 37) o dX0_findOrder_37 hS6 ?_
    obtain ⟨v7, hv7, h⟩ := xbs h
    refine x_iincE (pc := 38) o dX0_findOrder_38 rfl ic_1 hn3 hv7 ?_
    refine x_goto (pc := 41) (tgt := 25) o dX0_findOrder_41 (by decide) ?_
    refine x_to (l := [(0, .ref (M.2.1 k0)), (1, .int a1), (2, .int a2), (3, .int v7)]) ⟨rfl, rfl, rfl, rfl, trivial⟩ ?_
    exact hrec v7 S6 h
theorem tX0_findOrder_L25 {Γ : xGm} {M : xMg} (o : xOk Γ tC M 7 cX0_findOrder RX0) (hnL : Γ.2.2.2 = 6) (n : Nat) (k0 : Nat) (a1 : Int32) (a2 : Int32) (z : (xSt)) (K : xAt Γ tC M 44 (xlv [(0, .ref (M.2.1 k0)), (1, .int a1), (2, .int a2)]) [] z) : ∀ (q : Nat) (a3 : Int32) (S : xSt), fX0_findOrder_L25 n k0 a1 a2 q a3 S = some z → xAt Γ tC M 25 (xlv [(0, .ref (M.2.1 k0)), (1, .int a1), (2, .int a2), (3, .int a3)]) [] S := by
  intro q
  induction q with
  | zero => intro a3 S h; cases h
  | succ q ih => intro a3 S h; exact tX0_findOrder_L25b o hnL n k0 a1 a2 a3 S z ih K h
def fX0_findOrder_L62b (n : Nat) (k0 : Nat) (a1 : Int32) (a2 : Int32) (a3 : Int32) (rec : Int32 → Int32 → xSt → Option (xSt)) (a4 : Int32) (a5 : Int32) (S : xSt) : Option (xSt) :=
  if ((720 : Int32)) ≤ a5 then
  (some S)
else
  (if a4 = 0 then
  (some S)
else
  ((xgI tC 0 6 k0 S).bind fun v12 =>
  if v12 ≤ a3 then
  (some S)
else
  ((fX0_isWorthTrying n k0 a2 S).bind fun v13 =>
  if v13 = 0 then
  ((fX0_turnToNextRow n k0 a2 S).bind fun q14 =>
  (some (a5 + (1 : Int32))).bind fun v15 =>
  rec q14.1 v15 q14.2)
else
  ((fX0_restart n k0 S).bind fun S16 =>
  (xgF tC 0 4 k0 S16).bind fun r17 =>
  (xgF tC 0 2 k0 S16).bind fun r18 =>
  (xgF tC 6 1 r18 S16).bind fun r19 =>
  (xcp tC r17 ((0 : Int32)) r19 ((0 : Int32)) ((6 : Int32)) S16).bind fun S20 =>
  (xgI tC 0 6 k0 S20).bind fun v21 =>
  (fX0_pass n k0 a1 v21 S20).bind fun S22 =>
  (fX0_keepOrderIfBest k0 S22).bind fun S23 =>
  (fX0_turnToNextRow n k0 a2 S23).bind fun q24 =>
  (some (a5 + (1 : Int32))).bind fun v25 =>
  rec q24.1 v25 q24.2))))
def fX0_findOrder_L62 (n : Nat) (k0 : Nat) (a1 : Int32) (a2 : Int32) (a3 : Int32) : Nat → Int32 → Int32 → xSt → Option (xSt)
  | 0 => fun _ _ _ => none
  | q + 1 => fX0_findOrder_L62b n k0 a1 a2 a3 (fX0_findOrder_L62 n k0 a1 a2 a3 q)
set_option maxHeartbeats 4000000 in
theorem tX0_findOrder_L62b {Γ : xGm} {M : xMg} (o : xOk Γ tC M 7 cX0_findOrder RX0) (hnL : Γ.2.2.2 = 6) {rec : Int32 → Int32 → xSt → Option (xSt)} (n : Nat) (k0 : Nat) (a1 : Int32) (a2 : Int32) (a3 : Int32) (a4 : Int32) (a5 : Int32) (S : xSt) (z : (xSt)) (hrec : ∀ (a4 : Int32) (a5 : Int32) (S : xSt), rec a4 a5 S = some z → xAt Γ tC M 62 (xlv [(0, .ref (M.2.1 k0)), (1, .int a1), (2, .int a2), (3, .int a3), (4, .int a4), (5, .int a5)]) [] S) (K : xAt Γ tC M 139 (xlv []) [] z) (h : fX0_findOrder_L62b n k0 a1 a2 a3 rec a4 a5 S = some z) : xAt Γ tC M 62 (xlv [(0, .ref (M.2.1 k0)), (1, .int a1), (2, .int a2), (3, .int a3), (4, .int a4), (5, .int a5)]) [] S := by
  have hn4 : 4 < Γ.2.2.2 := by omega
  have hn5 : 5 < Γ.2.2.2 := by omega
  unfold fX0_findOrder_L62b at h
  refine x_iload (pc := 62) o dX0_findOrder_62 rfl ?_
  refine x_sipush (pc := 64) o dX0_findOrder_64 sp_720 ?_
  refine x_icmp_ge (pc := 67) (tgt := 139) o dX0_findOrder_67 (by decide) (fun c29 => ?_) (fun c29 => ?_)
  · have h := xit h c29
    refine x_to (l := []) trivial ?_
    cases Option.some.inj h
    exact K
  · have h := xif h c29
    refine x_iload (pc := 70) o dX0_findOrder_70 rfl ?_
    refine x_if_eq (pc := 72) (tgt := 139) o dX0_findOrder_72 (by decide) (fun c28 => ?_) (fun c28 => ?_)
    · have h := xit h c28
      refine x_to (l := []) trivial ?_
      cases Option.some.inj h
      exact K
    · have h := xif h c28
      refine x_aload_n (pc := 75) o dX0_findOrder_75 rfl rfl ?_
      obtain ⟨v12, hv12, h⟩ := xbs h
      refine gX0_125 (pc := 76) o dX0_findOrder_76 hv12 ?_
      refine x_iload_n (pc := 79) o dX0_findOrder_79 rfl rfl ?_
      refine x_icmp_le (pc := 80) (tgt := 139) o dX0_findOrder_80 (by decide) (fun c27 => ?_) (fun c27 => ?_)
      · have h := xit h c27
        refine x_to (l := []) trivial ?_
        cases Option.some.inj h
        exact K
      · have h := xif h c27
        refine x_aload_n (pc := 83) o dX0_findOrder_83 rfl rfl ?_
        refine x_iload_n (pc := 84) o dX0_findOrder_84 rfl rfl ?_
        obtain ⟨v13, hv13, h⟩ := xbs h
        refine x_callI (pc := 85) (As := [.int a2]) (b := k0) (rest := []) o (tX0_isWorthTrying _ M _ n k0 a2 S v13 hv13) eX0_isWorthTrying mX0_128 clX0 (kX0_isWorthTrying hv13) (by decide) rfl rfl (Nat.le_of_ble_eq_true rfl) dX0_findOrder_85 ?_
        refine x_if_eq (pc := 88) (tgt := 126) o dX0_findOrder_88 (by decide) (fun c26 => ?_) (fun c26 => ?_)
        · have h := xit h c26
          refine x_aload_n (pc := 126) o dX0_findOrder_126 rfl rfl ?_
          refine x_iload_n (pc := 127) o dX0_findOrder_127 rfl rfl ?_
          obtain ⟨q14, hq14, h⟩ := xbs h
          refine x_callI (pc := 128) (As := [.int a2]) (b := k0) (rest := []) o (tX0_turnToNextRow _ M _ n k0 a2 S q14 hq14) eX0_turnToNextRow mX0_144 clX0 (kX0_turnToNextRow hq14) (by decide) rfl rfl (Nat.le_of_ble_eq_true rfl) dX0_findOrder_128 ?_
          refine x_istore (pc := 131) o dX0_findOrder_131 hn4 ?_
          obtain ⟨v15, hv15, h⟩ := xbs h
          refine x_iincE (pc := 133) o dX0_findOrder_133 rfl ic_1 hn5 hv15 ?_
          refine x_goto (pc := 136) (tgt := 62) o dX0_findOrder_136 (by decide) ?_
          refine x_to (l := [(0, .ref (M.2.1 k0)), (1, .int a1), (2, .int a2), (3, .int a3), (4, .int q14.1), (5, .int v15)]) ⟨rfl, rfl, rfl, rfl, rfl, rfl, trivial⟩ ?_
          exact hrec q14.1 v15 q14.2 h
        · have h := xif h c26
          refine x_aload_n (pc := 91) o dX0_findOrder_91 rfl rfl ?_
          obtain ⟨S16, hS16, h⟩ := xbs h
          refine x_callV (pc := 92) (As := []) (b := k0) (rest := []) o (tX0_restart _ M _ n k0 S S16 hS16) eX0_restart mX0_76 clX0 (kX0_restart hS16) (by decide) rfl rfl (Nat.le_of_ble_eq_true rfl) dX0_findOrder_92 ?_
          refine x_aload_n (pc := 95) o dX0_findOrder_95 rfl rfl ?_
          obtain ⟨r17, hr17, h⟩ := xbs h
          refine gX0_18 (pc := 96) o dX0_findOrder_96 hr17 ?_
          refine x_iconst (pc := 99) o dX0_findOrder_99 ic_0 ?_
          refine x_aload_n (pc := 100) o dX0_findOrder_100 rfl rfl ?_
          obtain ⟨r18, hr18, h⟩ := xbs h
          refine gX0_41 (pc := 101) o dX0_findOrder_101 hr18 ?_
          obtain ⟨r19, hr19, h⟩ := xbs h
          refine gX0_132 (pc := 104) o dX0_findOrder_104 hr19 ?_
          refine x_iconst (pc := 107) o dX0_findOrder_107 ic_0 ?_
          refine x_bipush (pc := 108) o dX0_findOrder_108 bp_6 ?_
          obtain ⟨S20, hS20, h⟩ := xbs h
          refine x_copy (pc := 110) o mX0_135 w_cp1 w_cp2 w_cp3 (by decide) (by decide) dX0_findOrder_110 hS20 ?_
          refine x_aload_n (pc := 113) o dX0_findOrder_113 rfl rfl ?_
          refine x_iload_n (pc := 114) o dX0_findOrder_114 rfl rfl ?_
          refine x_aload_n (pc := 115) o dX0_findOrder_115 rfl rfl ?_
          obtain ⟨v21, hv21, h⟩ := xbs h
          refine gX0_125 (pc := 116) o dX0_findOrder_116 hv21 ?_
          obtain ⟨S22, hS22, h⟩ := xbs h
          refine x_callV (pc := 119) (As := [.int a1, .int v21]) (b := k0) (rest := []) o (tX0_pass _ M _ n k0 a1 v21 S20 S22 hS22) eX0_pass mX0_80 clX0 (kX0_pass hS22) (by decide) rfl rfl (Nat.le_of_ble_eq_true rfl) dX0_findOrder_119 ?_
          refine x_aload_n (pc := 122) o dX0_findOrder_122 rfl rfl ?_
          obtain ⟨S23, hS23, h⟩ := xbs h
          refine x_callV (pc := 123) (As := []) (b := k0) (rest := []) o (tX0_keepOrderIfBest _ M _ k0 S22 S23 hS23) eX0_keepOrderIfBest mX0_141 clX0 (kX0_keepOrderIfBest hS23) (by decide) rfl rfl (Nat.le_of_ble_eq_true rfl) dX0_findOrder_123 ?_
          refine x_aload_n (pc := 126) o dX0_findOrder_126 rfl rfl ?_
          refine x_iload_n (pc := 127) o dX0_findOrder_127 rfl rfl ?_
          obtain ⟨q24, hq24, h⟩ := xbs h
          refine x_callI (pc := 128) (As := [.int a2]) (b := k0) (rest := []) o (tX0_turnToNextRow _ M _ n k0 a2 S23 q24 hq24) eX0_turnToNextRow mX0_144 clX0 (kX0_turnToNextRow hq24) (by decide) rfl rfl (Nat.le_of_ble_eq_true rfl) dX0_findOrder_128 ?_
          refine x_istore (pc := 131) o dX0_findOrder_131 hn4 ?_
          obtain ⟨v25, hv25, h⟩ := xbs h
          refine x_iincE (pc := 133) o dX0_findOrder_133 rfl ic_1 hn5 hv25 ?_
          refine x_goto (pc := 136) (tgt := 62) o dX0_findOrder_136 (by decide) ?_
          refine x_to (l := [(0, .ref (M.2.1 k0)), (1, .int a1), (2, .int a2), (3, .int a3), (4, .int q24.1), (5, .int v25)]) ⟨rfl, rfl, rfl, rfl, rfl, rfl, trivial⟩ ?_
          exact hrec q24.1 v25 q24.2 h
theorem tX0_findOrder_L62 {Γ : xGm} {M : xMg} (o : xOk Γ tC M 7 cX0_findOrder RX0) (hnL : Γ.2.2.2 = 6) (n : Nat) (k0 : Nat) (a1 : Int32) (a2 : Int32) (a3 : Int32) (z : (xSt)) (K : xAt Γ tC M 139 (xlv []) [] z) : ∀ (q : Nat) (a4 : Int32) (a5 : Int32) (S : xSt), fX0_findOrder_L62 n k0 a1 a2 a3 q a4 a5 S = some z → xAt Γ tC M 62 (xlv [(0, .ref (M.2.1 k0)), (1, .int a1), (2, .int a2), (3, .int a3), (4, .int a4), (5, .int a5)]) [] S := by
  intro q
  induction q with
  | zero => intro a4 a5 S h; cases h
  | succ q ih => intro a4 a5 S h; exact tX0_findOrder_L62b o hnL n k0 a1 a2 a3 a4 a5 S z ih K h
def fX0_findOrder (n : Nat) (k0 : Nat) (a1 : Int32) (S : xSt) : Option (xSt) :=
  if tC.1 k0 = 0 then
  ((xgI tC 0 7 k0 S).bind fun v1 =>
  if v1 = a1 then
  (some S)
else
  ((xpI tC 0 7 k0 a1 S).bind fun S2 =>
  (xgM tC 0 3 k0 S2).bind fun r3 =>
  (fX9_count r3 ((3 : Int32)) S2).bind fun v4 =>
  (fX0_findOrder_L25 n k0 a1 v4 n ((0 : Int32)) S2).bind fun z9 => (fX0_leastLateness n k0 a1 z9).bind fun v10 =>
  (xpI tC 0 6 k0 ((1000000 : Int32)) z9).bind fun S11 =>
  (fX0_findOrder_L62 n k0 a1 v4 v10 n ((1 : Int32)) ((0 : Int32)) S11).bind fun z30 => some z30))
  else none
theorem kX0_findOrder {z : xSt} {n : Nat} {k0 : Nat} {a1 : Int32} {S : xSt} (h : fX0_findOrder n k0 a1 S = some z) : tC.1 k0 = 0 := by
  unfold fX0_findOrder at h
  exact (xck h).1
set_option maxHeartbeats 4000000 in
theorem tX0_findOrder (l : Launch) (M : xMg) (A : Nat → Prop) (n : Nat) (k0 : Nat) (a1 : Int32) (S : xSt) (z : xSt) (h : fX0_findOrder n k0 a1 S = some z) : xMV l yX0_findOrder cX0_findOrder 6 none 7 tC M A [.ref (M.2.1 k0), .int a1] S z := by
  refine x_metV (plainFor_of_name (by decide)) tC_ok (Nat.le_of_ble_eq_true rfl) (fun Γ hA hnL hl hr o => ?_)
  subst hA; subst hl
  have o : xOk Γ tC M 7 cX0_findOrder RX0 := o
  unfold fX0_findOrder at h
  obtain ⟨hk0, h⟩ := xck h
  refine x_to (l := [(0, .ref (M.2.1 k0)), (1, .int a1)]) ⟨rfl, rfl, trivial⟩ ?_
  have hn2 : 2 < Γ.2.2.2 := by omega
  have hn3 : 3 < Γ.2.2.2 := by omega
  have hn4 : 4 < Γ.2.2.2 := by omega
  have hn5 : 5 < Γ.2.2.2 := by omega
  refine x_aload_n (pc := 0) o dX0_findOrder_0 rfl rfl ?_
  obtain ⟨v1, hv1, h⟩ := xbs h
  refine gX0_48 (pc := 1) o dX0_findOrder_1 hv1 ?_
  refine x_iload_n (pc := 4) o dX0_findOrder_4 rfl rfl ?_
  refine x_icmp_ne (pc := 5) (tgt := 9) o dX0_findOrder_5 (by decide) (fun c31 => ?_) (fun c31 => ?_)
  · have h := xif h c31
    refine x_aload_n (pc := 9) o dX0_findOrder_9 rfl rfl ?_
    refine x_iload_n (pc := 10) o dX0_findOrder_10 rfl rfl ?_
    obtain ⟨S2, hS2, h⟩ := xbs h
    refine pX0_48 (pc := 11) o dX0_findOrder_11 hS2 ?_
    refine x_aload_n (pc := 14) o dX0_findOrder_14 rfl rfl ?_
    obtain ⟨r3, hr3, h⟩ := xbs h
    refine gX0_29 (pc := 15) o dX0_findOrder_15 hr3 ?_
    refine x_iconst (pc := 18) o dX0_findOrder_18 ic_3 ?_
    obtain ⟨v4, hv4, h⟩ := xbs h
    refine x_callI (pc := 19) (As := [.int ((3 : Int32))]) (b := r3) (rest := []) o (tX9_count _ M _ r3 ((3 : Int32)) S2 v4 hv4) eX9_count mX0_103 clX9 (kX9_count hv4) (by decide) rfl rfl (Nat.le_of_ble_eq_true rfl) dX0_findOrder_19 ?_
    refine x_istore_n (pc := 22) o dX0_findOrder_22 rfl hn2 ?_
    refine x_iconst (pc := 23) o dX0_findOrder_23 ic_0 ?_
    refine x_istore_n (pc := 24) o dX0_findOrder_24 rfl hn3 ?_
    obtain ⟨z9, hz9, h⟩ := xbs h
    refine x_to (l := [(0, .ref (M.2.1 k0)), (1, .int a1), (2, .int v4), (3, .int ((0 : Int32)))]) ⟨rfl, rfl, rfl, rfl, trivial⟩ ?_
    refine tX0_findOrder_L25 o hnL n k0 a1 v4 z9 ?_ n ((0 : Int32)) S2 hz9
    refine x_aload_n (pc := 44) o dX0_findOrder_44 rfl rfl ?_
    refine x_iload_n (pc := 45) o dX0_findOrder_45 rfl rfl ?_
    obtain ⟨v10, hv10, h⟩ := xbs h
    refine x_callI (pc := 46) (As := [.int a1]) (b := k0) (rest := []) o (tX0_leastLateness _ M _ n k0 a1 z9 v10 hv10) eX0_leastLateness mX0_122 clX0 (kX0_leastLateness hv10) (by decide) rfl rfl (Nat.le_of_ble_eq_true rfl) dX0_findOrder_46 ?_
    refine x_istore_n (pc := 49) o dX0_findOrder_49 rfl hn3 ?_
    refine x_aload_n (pc := 50) o dX0_findOrder_50 rfl rfl ?_
    refine x_ldc (pc := 51) o kcX0_79 dX0_findOrder_51 ?_
    obtain ⟨S11, hS11, h⟩ := xbs h
    refine pX0_125 (pc := 53) o dX0_findOrder_53 hS11 ?_
    refine x_iconst (pc := 56) o dX0_findOrder_56 ic_1 ?_
    refine x_istore (pc := 57) o dX0_findOrder_57 hn4 ?_
    refine x_iconst (pc := 59) o dX0_findOrder_59 ic_0 ?_
    refine x_istore (pc := 60) o dX0_findOrder_60 hn5 ?_
    obtain ⟨z30, hz30, h⟩ := xbs h
    refine x_to (l := [(0, .ref (M.2.1 k0)), (1, .int a1), (2, .int v4), (3, .int v10), (4, .int ((1 : Int32))), (5, .int ((0 : Int32)))]) ⟨rfl, rfl, rfl, rfl, rfl, rfl, trivial⟩ ?_
    refine tX0_findOrder_L62 o hnL n k0 a1 v4 v10 z30 ?_ n ((1 : Int32)) ((0 : Int32)) S11 hz30
    exact x_vreturn (pc := 139) o hr dX0_findOrder_139 (Option.some.inj h)
  · have h := xit h c31
    exact x_vreturn (pc := 8) o hr dX0_findOrder_8 (Option.some.inj h)
def fX0_findMove_L66b (n : Nat) (k0 : Nat) (a1 : Int32) (a2 : Int32) (a3 : Int32) (a5 : Int32) (rec : Int32 → Int32 → xSt → Option (Int32 × xSt)) (a4 : Int32) (a6 : Int32) (S : xSt) : Option (Int32 × xSt) :=
  (xgM tC 0 3 k0 S).bind fun r11 =>
  (xgF tC 9 3 r11 S).bind fun r12 =>
  (xal tC r12 a5 S).bind fun v13 =>
  if v13 ≤ a6 then
  (some (a4, S))
else
  (if a4 ≤ a3 then
  (some (a4, S))
else
  ((fX0_restart n k0 S).bind fun S14 =>
  (xgF tC 0 2 k0 S14).bind fun r15 =>
  (xgF tC 6 0 r15 S14).bind fun r16 =>
  (xas tC r16 a5 a6 S14).bind fun S17 =>
  (fX0_pass n k0 a1 a4 S17).bind fun S18 =>
  (xgF tC 0 2 k0 S18).bind fun r19 =>
  (xgI tC 6 9 r19 S18).bind fun v20 =>
  if a4 ≤ v20 then
  ((some (a6 + (1 : Int32))).bind fun v21 =>
  rec a4 v21 S18)
else
  ((xgF tC 0 2 k0 S18).bind fun r22 =>
  (xgI tC 6 9 r22 S18).bind fun v23 =>
  (xpI tC 0 8 k0 a5 S18).bind fun S24 =>
  (xpI tC 0 9 k0 a6 S24).bind fun S25 =>
  (some (a6 + (1 : Int32))).bind fun v26 =>
  rec v23 v26 S25)))
def fX0_findMove_L66 (n : Nat) (k0 : Nat) (a1 : Int32) (a2 : Int32) (a3 : Int32) (a5 : Int32) : Nat → Int32 → Int32 → xSt → Option (Int32 × xSt)
  | 0 => fun _ _ _ => none
  | q + 1 => fX0_findMove_L66b n k0 a1 a2 a3 a5 (fX0_findMove_L66 n k0 a1 a2 a3 a5 q)
set_option maxHeartbeats 4000000 in
theorem tX0_findMove_L66b {Γ : xGm} {M : xMg} (o : xOk Γ tC M 7 cX0_findMove RX0) (hnL : Γ.2.2.2 = 7) {rec : Int32 → Int32 → xSt → Option (Int32 × xSt)} (n : Nat) (k0 : Nat) (a1 : Int32) (a2 : Int32) (a3 : Int32) (a5 : Int32) (a4 : Int32) (a6 : Int32) (S : xSt) (z : (Int32 × xSt)) (hrec : ∀ (a4 : Int32) (a6 : Int32) (S : xSt), rec a4 a6 S = some z → xAt Γ tC M 66 (xlv [(0, .ref (M.2.1 k0)), (1, .int a1), (2, .int a2), (3, .int a3), (4, .int a4), (5, .int a5), (6, .int a6)]) [] S) (K : xAt Γ tC M 149 (xlv [(0, .ref (M.2.1 k0)), (1, .int a1), (2, .int a2), (3, .int a3), (4, .int z.1), (5, .int a5)]) [] z.2) (h : fX0_findMove_L66b n k0 a1 a2 a3 a5 rec a4 a6 S = some z) : xAt Γ tC M 66 (xlv [(0, .ref (M.2.1 k0)), (1, .int a1), (2, .int a2), (3, .int a3), (4, .int a4), (5, .int a5), (6, .int a6)]) [] S := by
  have hn4 : 4 < Γ.2.2.2 := by omega
  have hn6 : 6 < Γ.2.2.2 := by omega
  unfold fX0_findMove_L66b at h
  refine x_iload (pc := 66) o dX0_findMove_66 rfl ?_
  refine x_aload_n (pc := 68) o dX0_findMove_68 rfl rfl ?_
  obtain ⟨r11, hr11, h⟩ := xbs h
  refine gX0_29 (pc := 69) o dX0_findMove_69 hr11 ?_
  obtain ⟨r12, hr12, h⟩ := xbs h
  refine gX0_150 (pc := 72) o dX0_findMove_72 hr12 ?_
  refine x_iload (pc := 75) o dX0_findMove_75 rfl ?_
  obtain ⟨v13, hv13, h⟩ := xbs h
  refine x_iaload (pc := 77) o dX0_findMove_77 hv13 ?_
  refine x_icmp_ge (pc := 78) (tgt := 149) o dX0_findMove_78 (by decide) (fun c29 => ?_) (fun c29 => ?_)
  · have h := xit h c29
    refine x_to (l := [(0, .ref (M.2.1 k0)), (1, .int a1), (2, .int a2), (3, .int a3), (4, .int a4), (5, .int a5)]) ⟨rfl, rfl, rfl, rfl, rfl, rfl, trivial⟩ ?_
    cases Option.some.inj h
    exact K
  · have h := xif h c29
    refine x_iload (pc := 81) o dX0_findMove_81 rfl ?_
    refine x_iload_n (pc := 83) o dX0_findMove_83 rfl rfl ?_
    refine x_icmp_le (pc := 84) (tgt := 149) o dX0_findMove_84 (by decide) (fun c28 => ?_) (fun c28 => ?_)
    · have h := xit h c28
      refine x_to (l := [(0, .ref (M.2.1 k0)), (1, .int a1), (2, .int a2), (3, .int a3), (4, .int a4), (5, .int a5)]) ⟨rfl, rfl, rfl, rfl, rfl, rfl, trivial⟩ ?_
      cases Option.some.inj h
      exact K
    · have h := xif h c28
      refine x_aload_n (pc := 87) o dX0_findMove_87 rfl rfl ?_
      obtain ⟨S14, hS14, h⟩ := xbs h
      refine x_callV (pc := 88) (As := []) (b := k0) (rest := []) o (tX0_restart _ M _ n k0 S S14 hS14) eX0_restart mX0_76 clX0 (kX0_restart hS14) (by decide) rfl rfl (Nat.le_of_ble_eq_true rfl) dX0_findMove_88 ?_
      refine x_aload_n (pc := 91) o dX0_findMove_91 rfl rfl ?_
      obtain ⟨r15, hr15, h⟩ := xbs h
      refine gX0_41 (pc := 92) o dX0_findMove_92 hr15 ?_
      obtain ⟨r16, hr16, h⟩ := xbs h
      refine gX0_153 (pc := 95) o dX0_findMove_95 hr16 ?_
      refine x_iload (pc := 98) o dX0_findMove_98 rfl ?_
      refine x_iload (pc := 100) o dX0_findMove_100 rfl ?_
      obtain ⟨S17, hS17, h⟩ := xbs h
      refine x_iastore (pc := 102) o dX0_findMove_102 hS17 ?_
      refine x_aload_n (pc := 103) o dX0_findMove_103 rfl rfl ?_
      refine x_iload_n (pc := 104) o dX0_findMove_104 rfl rfl ?_
      refine x_iload (pc := 105) o dX0_findMove_105 rfl ?_
      obtain ⟨S18, hS18, h⟩ := xbs h
      refine x_callV (pc := 107) (As := [.int a1, .int a4]) (b := k0) (rest := []) o (tX0_pass _ M _ n k0 a1 a4 S17 S18 hS18) eX0_pass mX0_80 clX0 (kX0_pass hS18) (by decide) rfl rfl (Nat.le_of_ble_eq_true rfl) dX0_findMove_107 ?_
      refine x_aload_n (pc := 110) o dX0_findMove_110 rfl rfl ?_
      obtain ⟨r19, hr19, h⟩ := xbs h
      refine gX0_41 (pc := 111) o dX0_findMove_111 hr19 ?_
      obtain ⟨v20, hv20, h⟩ := xbs h
      refine gX0_69 (pc := 114) o dX0_findMove_114 hv20 ?_
      refine x_iload (pc := 117) o dX0_findMove_117 rfl ?_
      refine x_icmp_ge (pc := 119) (tgt := 143) o dX0_findMove_119 (by decide) (fun c27 => ?_) (fun c27 => ?_)
      · have h := xit h c27
        obtain ⟨v21, hv21, h⟩ := xbs h
        refine x_iincE (pc := 143) o dX0_findMove_143 rfl ic_1 hn6 hv21 ?_
        refine x_goto (pc := 146) (tgt := 66) o dX0_findMove_146 (by decide) ?_
        refine x_to (l := [(0, .ref (M.2.1 k0)), (1, .int a1), (2, .int a2), (3, .int a3), (4, .int a4), (5, .int a5), (6, .int v21)]) ⟨rfl, rfl, rfl, rfl, rfl, rfl, rfl, trivial⟩ ?_
        exact hrec a4 v21 S18 h
      · have h := xif h c27
        refine x_aload_n (pc := 122) o dX0_findMove_122 rfl rfl ?_
        obtain ⟨r22, hr22, h⟩ := xbs h
        refine gX0_41 (pc := 123) o dX0_findMove_123 hr22 ?_
        obtain ⟨v23, hv23, h⟩ := xbs h
        refine gX0_69 (pc := 126) o dX0_findMove_126 hv23 ?_
        refine x_istore (pc := 129) o dX0_findMove_129 hn4 ?_
        refine x_aload_n (pc := 131) o dX0_findMove_131 rfl rfl ?_
        refine x_iload (pc := 132) o dX0_findMove_132 rfl ?_
        obtain ⟨S24, hS24, h⟩ := xbs h
        refine pX0_25 (pc := 134) o dX0_findMove_134 hS24 ?_
        refine x_aload_n (pc := 137) o dX0_findMove_137 rfl rfl ?_
        refine x_iload (pc := 138) o dX0_findMove_138 rfl ?_
        obtain ⟨S25, hS25, h⟩ := xbs h
        refine pX0_156 (pc := 140) o dX0_findMove_140 hS25 ?_
        obtain ⟨v26, hv26, h⟩ := xbs h
        refine x_iincE (pc := 143) o dX0_findMove_143 rfl ic_1 hn6 hv26 ?_
        refine x_goto (pc := 146) (tgt := 66) o dX0_findMove_146 (by decide) ?_
        refine x_to (l := [(0, .ref (M.2.1 k0)), (1, .int a1), (2, .int a2), (3, .int a3), (4, .int v23), (5, .int a5), (6, .int v26)]) ⟨rfl, rfl, rfl, rfl, rfl, rfl, rfl, trivial⟩ ?_
        exact hrec v23 v26 S25 h
theorem tX0_findMove_L66 {Γ : xGm} {M : xMg} (o : xOk Γ tC M 7 cX0_findMove RX0) (hnL : Γ.2.2.2 = 7) (n : Nat) (k0 : Nat) (a1 : Int32) (a2 : Int32) (a3 : Int32) (a5 : Int32) (z : (Int32 × xSt)) (K : xAt Γ tC M 149 (xlv [(0, .ref (M.2.1 k0)), (1, .int a1), (2, .int a2), (3, .int a3), (4, .int z.1), (5, .int a5)]) [] z.2) : ∀ (q : Nat) (a4 : Int32) (a6 : Int32) (S : xSt), fX0_findMove_L66 n k0 a1 a2 a3 a5 q a4 a6 S = some z → xAt Γ tC M 66 (xlv [(0, .ref (M.2.1 k0)), (1, .int a1), (2, .int a2), (3, .int a3), (4, .int a4), (5, .int a5), (6, .int a6)]) [] S := by
  intro q
  induction q with
  | zero => intro a4 a6 S h; cases h
  | succ q ih => intro a4 a6 S h; exact tX0_findMove_L66b o hnL n k0 a1 a2 a3 a5 a4 a6 S z ih K h
def fX0_findMove_L50b (n : Nat) (k0 : Nat) (a1 : Int32) (a2 : Int32) (a3 : Int32) (rec : Int32 → Int32 → xSt → Option (Int32 × xSt)) (a4 : Int32) (a5 : Int32) (S : xSt) : Option (Int32 × xSt) :=
  (xgM tC 0 3 k0 S).bind fun r9 =>
  (fX9_count r9 ((0 : Int32)) S).bind fun v10 =>
  if v10 ≤ a5 then
  (some (a4, S))
else
  ((fX0_findMove_L66 n k0 a1 a2 a3 a5 n a4 ((0 : Int32)) S).bind fun z30 => (some (a5 + (1 : Int32))).bind fun v31 =>
  rec z30.1 v31 z30.2)
def fX0_findMove_L50 (n : Nat) (k0 : Nat) (a1 : Int32) (a2 : Int32) (a3 : Int32) : Nat → Int32 → Int32 → xSt → Option (Int32 × xSt)
  | 0 => fun _ _ _ => none
  | q + 1 => fX0_findMove_L50b n k0 a1 a2 a3 (fX0_findMove_L50 n k0 a1 a2 a3 q)
set_option maxHeartbeats 4000000 in
theorem tX0_findMove_L50b {Γ : xGm} {M : xMg} (o : xOk Γ tC M 7 cX0_findMove RX0) (hnL : Γ.2.2.2 = 7) {rec : Int32 → Int32 → xSt → Option (Int32 × xSt)} (n : Nat) (k0 : Nat) (a1 : Int32) (a2 : Int32) (a3 : Int32) (a4 : Int32) (a5 : Int32) (S : xSt) (z : (Int32 × xSt)) (hrec : ∀ (a4 : Int32) (a5 : Int32) (S : xSt), rec a4 a5 S = some z → xAt Γ tC M 50 (xlv [(0, .ref (M.2.1 k0)), (1, .int a1), (2, .int a2), (3, .int a3), (4, .int a4), (5, .int a5)]) [] S) (K : xAt Γ tC M 155 (xlv [(0, .ref (M.2.1 k0)), (2, .int a2), (4, .int z.1)]) [] z.2) (h : fX0_findMove_L50b n k0 a1 a2 a3 rec a4 a5 S = some z) : xAt Γ tC M 50 (xlv [(0, .ref (M.2.1 k0)), (1, .int a1), (2, .int a2), (3, .int a3), (4, .int a4), (5, .int a5)]) [] S := by
  have hn5 : 5 < Γ.2.2.2 := by omega
  have hn6 : 6 < Γ.2.2.2 := by omega
  unfold fX0_findMove_L50b at h
  refine x_iload (pc := 50) o dX0_findMove_50 rfl ?_
  refine x_aload_n (pc := 52) o dX0_findMove_52 rfl rfl ?_
  obtain ⟨r9, hr9, h⟩ := xbs h
  refine gX0_29 (pc := 53) o dX0_findMove_53 hr9 ?_
  refine x_iconst (pc := 56) o dX0_findMove_56 ic_0 ?_
  obtain ⟨v10, hv10, h⟩ := xbs h
  refine x_callI (pc := 57) (As := [.int ((0 : Int32))]) (b := r9) (rest := [.int a5]) o (tX9_count _ M _ r9 ((0 : Int32)) S v10 hv10) eX9_count mX0_103 clX9 (kX9_count hv10) (by decide) rfl rfl (Nat.le_of_ble_eq_true rfl) dX0_findMove_57 ?_
  refine x_icmp_ge (pc := 60) (tgt := 155) o dX0_findMove_60 (by decide) (fun c32 => ?_) (fun c32 => ?_)
  · have h := xit h c32
    refine x_to (l := [(0, .ref (M.2.1 k0)), (2, .int a2), (4, .int a4)]) ⟨rfl, rfl, rfl, trivial⟩ ?_
    cases Option.some.inj h
    exact K
  · have h := xif h c32
    refine x_iconst (pc := 63) o dX0_findMove_63 ic_0 ?_
    refine x_istore (pc := 64) o dX0_findMove_64 hn6 ?_
    obtain ⟨z30, hz30, h⟩ := xbs h
    refine x_to (l := [(0, .ref (M.2.1 k0)), (1, .int a1), (2, .int a2), (3, .int a3), (4, .int a4), (5, .int a5), (6, .int ((0 : Int32)))]) ⟨rfl, rfl, rfl, rfl, rfl, rfl, rfl, trivial⟩ ?_
    refine tX0_findMove_L66 o hnL n k0 a1 a2 a3 a5 z30 ?_ n a4 ((0 : Int32)) S hz30
    obtain ⟨v31, hv31, h⟩ := xbs h
    refine x_iincE (pc := 149) o dX0_findMove_149 rfl ic_1 hn5 hv31 ?_
    refine x_goto (pc := 152) (tgt := 50) o dX0_findMove_152 (by decide) ?_
    refine x_to (l := [(0, .ref (M.2.1 k0)), (1, .int a1), (2, .int a2), (3, .int a3), (4, .int z30.1), (5, .int v31)]) ⟨rfl, rfl, rfl, rfl, rfl, rfl, trivial⟩ ?_
    exact hrec z30.1 v31 z30.2 h
theorem tX0_findMove_L50 {Γ : xGm} {M : xMg} (o : xOk Γ tC M 7 cX0_findMove RX0) (hnL : Γ.2.2.2 = 7) (n : Nat) (k0 : Nat) (a1 : Int32) (a2 : Int32) (a3 : Int32) (z : (Int32 × xSt)) (K : xAt Γ tC M 155 (xlv [(0, .ref (M.2.1 k0)), (2, .int a2), (4, .int z.1)]) [] z.2) : ∀ (q : Nat) (a4 : Int32) (a5 : Int32) (S : xSt), fX0_findMove_L50 n k0 a1 a2 a3 q a4 a5 S = some z → xAt Γ tC M 50 (xlv [(0, .ref (M.2.1 k0)), (1, .int a1), (2, .int a2), (3, .int a3), (4, .int a4), (5, .int a5)]) [] S := by
  intro q
  induction q with
  | zero => intro a4 a5 S h; cases h
  | succ q ih => intro a4 a5 S h; exact tX0_findMove_L50b o hnL n k0 a1 a2 a3 a4 a5 S z ih K h
def fX0_findMove (n : Nat) (k0 : Nat) (a1 : Int32) (S : xSt) : Option (xSt) :=
  if tC.1 k0 = 0 then
  ((xgI tC 0 11 k0 S).bind fun v1 =>
  if v1 = a1 then
  (some S)
else
  ((xpI tC 0 11 k0 a1 S).bind fun S2 =>
  (xpI tC 0 8 k0 ((-1 : Int32)) S2).bind fun S3 =>
  (fX0_restart n k0 S3).bind fun S4 =>
  (fX0_pass n k0 a1 ((1000000 : Int32)) S4).bind fun S5 =>
  (xgF tC 0 2 k0 S5).bind fun r6 =>
  (xgI tC 6 9 r6 S5).bind fun v7 =>
  (fX0_leastLateness n k0 a1 S5).bind fun v8 =>
  (fX0_findMove_L50 n k0 a1 v7 v8 n v7 ((0 : Int32)) S5).bind fun z33 => (xpI tC 0 10 k0 (v7 - z33.1) z33.2).bind fun S34 =>
  some S34))
  else none
theorem kX0_findMove {z : xSt} {n : Nat} {k0 : Nat} {a1 : Int32} {S : xSt} (h : fX0_findMove n k0 a1 S = some z) : tC.1 k0 = 0 := by
  unfold fX0_findMove at h
  exact (xck h).1
set_option maxHeartbeats 4000000 in
theorem tX0_findMove (l : Launch) (M : xMg) (A : Nat → Prop) (n : Nat) (k0 : Nat) (a1 : Int32) (S : xSt) (z : xSt) (h : fX0_findMove n k0 a1 S = some z) : xMV l yX0_findMove cX0_findMove 7 none 7 tC M A [.ref (M.2.1 k0), .int a1] S z := by
  refine x_metV (plainFor_of_name (by decide)) tC_ok (Nat.le_of_ble_eq_true rfl) (fun Γ hA hnL hl hr o => ?_)
  subst hA; subst hl
  have o : xOk Γ tC M 7 cX0_findMove RX0 := o
  unfold fX0_findMove at h
  obtain ⟨hk0, h⟩ := xck h
  refine x_to (l := [(0, .ref (M.2.1 k0)), (1, .int a1)]) ⟨rfl, rfl, trivial⟩ ?_
  have hn2 : 2 < Γ.2.2.2 := by omega
  have hn3 : 3 < Γ.2.2.2 := by omega
  have hn4 : 4 < Γ.2.2.2 := by omega
  have hn5 : 5 < Γ.2.2.2 := by omega
  refine x_aload_n (pc := 0) o dX0_findMove_0 rfl rfl ?_
  obtain ⟨v1, hv1, h⟩ := xbs h
  refine gX0_51 (pc := 1) o dX0_findMove_1 hv1 ?_
  refine x_iload_n (pc := 4) o dX0_findMove_4 rfl rfl ?_
  refine x_icmp_ne (pc := 5) (tgt := 9) o dX0_findMove_5 (by decide) (fun c35 => ?_) (fun c35 => ?_)
  · have h := xif h c35
    refine x_aload_n (pc := 9) o dX0_findMove_9 rfl rfl ?_
    refine x_iload_n (pc := 10) o dX0_findMove_10 rfl rfl ?_
    obtain ⟨S2, hS2, h⟩ := xbs h
    refine pX0_51 (pc := 11) o dX0_findMove_11 hS2 ?_
    refine x_aload_n (pc := 14) o dX0_findMove_14 rfl rfl ?_
    refine x_iconst (pc := 15) o dX0_findMove_15 ic_m1 ?_
    obtain ⟨S3, hS3, h⟩ := xbs h
    refine pX0_25 (pc := 16) o dX0_findMove_16 hS3 ?_
    refine x_aload_n (pc := 19) o dX0_findMove_19 rfl rfl ?_
    obtain ⟨S4, hS4, h⟩ := xbs h
    refine x_callV (pc := 20) (As := []) (b := k0) (rest := []) o (tX0_restart _ M _ n k0 S3 S4 hS4) eX0_restart mX0_76 clX0 (kX0_restart hS4) (by decide) rfl rfl (Nat.le_of_ble_eq_true rfl) dX0_findMove_20 ?_
    refine x_aload_n (pc := 23) o dX0_findMove_23 rfl rfl ?_
    refine x_iload_n (pc := 24) o dX0_findMove_24 rfl rfl ?_
    refine x_ldc (pc := 25) o kcX0_79 dX0_findMove_25 ?_
    obtain ⟨S5, hS5, h⟩ := xbs h
    refine x_callV (pc := 27) (As := [.int a1, .int ((1000000 : Int32))]) (b := k0) (rest := []) o (tX0_pass _ M _ n k0 a1 ((1000000 : Int32)) S4 S5 hS5) eX0_pass mX0_80 clX0 (kX0_pass hS5) (by decide) rfl rfl (Nat.le_of_ble_eq_true rfl) dX0_findMove_27 ?_
    refine x_aload_n (pc := 30) o dX0_findMove_30 rfl rfl ?_
    obtain ⟨r6, hr6, h⟩ := xbs h
    refine gX0_41 (pc := 31) o dX0_findMove_31 hr6 ?_
    obtain ⟨v7, hv7, h⟩ := xbs h
    refine gX0_69 (pc := 34) o dX0_findMove_34 hv7 ?_
    refine x_istore_n (pc := 37) o dX0_findMove_37 rfl hn2 ?_
    refine x_aload_n (pc := 38) o dX0_findMove_38 rfl rfl ?_
    refine x_iload_n (pc := 39) o dX0_findMove_39 rfl rfl ?_
    obtain ⟨v8, hv8, h⟩ := xbs h
    refine x_callI (pc := 40) (As := [.int a1]) (b := k0) (rest := []) o (tX0_leastLateness _ M _ n k0 a1 S5 v8 hv8) eX0_leastLateness mX0_122 clX0 (kX0_leastLateness hv8) (by decide) rfl rfl (Nat.le_of_ble_eq_true rfl) dX0_findMove_40 ?_
    refine x_istore_n (pc := 43) o dX0_findMove_43 rfl hn3 ?_
    refine x_iload_n (pc := 44) o dX0_findMove_44 rfl rfl ?_
    refine x_istore (pc := 45) o dX0_findMove_45 hn4 ?_
    refine x_iconst (pc := 47) o dX0_findMove_47 ic_0 ?_
    refine x_istore (pc := 48) o dX0_findMove_48 hn5 ?_
    obtain ⟨z33, hz33, h⟩ := xbs h
    refine x_to (l := [(0, .ref (M.2.1 k0)), (1, .int a1), (2, .int v7), (3, .int v8), (4, .int v7), (5, .int ((0 : Int32)))]) ⟨rfl, rfl, rfl, rfl, rfl, rfl, trivial⟩ ?_
    refine tX0_findMove_L50 o hnL n k0 a1 v7 v8 z33 ?_ n v7 ((0 : Int32)) S5 hz33
    refine x_aload_n (pc := 155) o dX0_findMove_155 rfl rfl ?_
    refine x_iload_n (pc := 156) o dX0_findMove_156 rfl rfl ?_
    refine x_iload (pc := 157) o dX0_findMove_157 rfl ?_
    refine x_isub (pc := 159) o dX0_findMove_159 ?_
    obtain ⟨S34, hS34, h⟩ := xbs h
    refine pX0_159 (pc := 160) o dX0_findMove_160 hS34 ?_
    exact x_vreturn (pc := 163) o hr dX0_findMove_163 (Option.some.inj h)
  · have h := xit h c35
    exact x_vreturn (pc := 8) o hr dX0_findMove_8 (Option.some.inj h)
def fX0_isDoneBehind_L20b (n : Nat) (k0 : Nat) (a1 : Int32) (a2 : Int32) (rec : Int32 → xSt → Option (xSt)) (a4 : Int32) (S : xSt) : Option (xSt) :=
  if a2 ≤ a4 then
  (some S)
else
  ((xgF tC 0 1 k0 S).bind fun r5 =>
  (xgM tC 0 3 k0 S).bind fun r6 =>
  (fX8_isFinished r5 a1 r6 S).bind fun v7 =>
  if v7 = 0 then
  ((xgF tC 0 2 k0 S).bind fun r8 =>
  (fX6_passDay n r8 ((0 : Int32)) S).bind fun S9 =>
  (some (a4 + (1 : Int32))).bind fun v10 =>
  rec v10 S9)
else
  (some S))
def fX0_isDoneBehind_L20 (n : Nat) (k0 : Nat) (a1 : Int32) (a2 : Int32) : Nat → Int32 → xSt → Option (xSt)
  | 0 => fun _ _ => none
  | q + 1 => fX0_isDoneBehind_L20b n k0 a1 a2 (fX0_isDoneBehind_L20 n k0 a1 a2 q)
set_option maxHeartbeats 4000000 in
theorem tX0_isDoneBehind_L20b {Γ : xGm} {M : xMg} (o : xOk Γ tC M 6 cX0_isDoneBehind RX0) (hnL : Γ.2.2.2 = 5) {rec : Int32 → xSt → Option (xSt)} (n : Nat) (k0 : Nat) (a1 : Int32) (a2 : Int32) (a4 : Int32) (S : xSt) (z : (xSt)) (hrec : ∀ (a4 : Int32) (S : xSt), rec a4 S = some z → xAt Γ tC M 20 (xlv [(0, .ref (M.2.1 k0)), (1, .int a1), (2, .int a2), (4, .int a4)]) [] S) (K : xAt Γ tC M 55 (xlv [(0, .ref (M.2.1 k0)), (1, .int a1)]) [] z) (h : fX0_isDoneBehind_L20b n k0 a1 a2 rec a4 S = some z) : xAt Γ tC M 20 (xlv [(0, .ref (M.2.1 k0)), (1, .int a1), (2, .int a2), (4, .int a4)]) [] S := by
  have hn4 : 4 < Γ.2.2.2 := by omega
  unfold fX0_isDoneBehind_L20b at h
  refine x_iload (pc := 20) o dX0_isDoneBehind_20 rfl ?_
  refine x_iload_n (pc := 22) o dX0_isDoneBehind_22 rfl rfl ?_
  refine x_icmp_ge (pc := 23) (tgt := 55) o dX0_isDoneBehind_23 (by decide) (fun c12 => ?_) (fun c12 => ?_)
  · have h := xit h c12
    refine x_to (l := [(0, .ref (M.2.1 k0)), (1, .int a1)]) ⟨rfl, rfl, trivial⟩ ?_
    cases Option.some.inj h
    exact K
  · have h := xif h c12
    refine x_aload_n (pc := 26) o dX0_isDoneBehind_26 rfl rfl ?_
    obtain ⟨r5, hr5, h⟩ := xbs h
    refine gX0_12 (pc := 27) o dX0_isDoneBehind_27 hr5 ?_
    refine x_iload_n (pc := 30) o dX0_isDoneBehind_30 rfl rfl ?_
    refine x_aload_n (pc := 31) o dX0_isDoneBehind_31 rfl rfl ?_
    obtain ⟨r6, hr6, h⟩ := xbs h
    refine gX0_29 (pc := 32) o dX0_isDoneBehind_32 hr6 ?_
    obtain ⟨v7, hv7, h⟩ := xbs h
    refine x_callI (pc := 35) (As := [.int a1, .ref (M.2.1 r6)]) (b := r5) (rest := []) o (tX8_isFinished _ M _ r5 a1 r6 S v7 hv7) eX8_isFinished mX0_96 clX8 (kX8_isFinished hv7) (by decide) rfl rfl (Nat.le_of_ble_eq_true rfl) dX0_isDoneBehind_35 ?_
    refine x_if_ne (pc := 38) (tgt := 55) o dX0_isDoneBehind_38 (by decide) (fun c11 => ?_) (fun c11 => ?_)
    · have h := xif h c11
      refine x_to (l := [(0, .ref (M.2.1 k0)), (1, .int a1)]) ⟨rfl, rfl, trivial⟩ ?_
      cases Option.some.inj h
      exact K
    · have h := xit h c11
      refine x_aload_n (pc := 41) o dX0_isDoneBehind_41 rfl rfl ?_
      obtain ⟨r8, hr8, h⟩ := xbs h
      refine gX0_41 (pc := 42) o dX0_isDoneBehind_42 hr8 ?_
      refine x_iconst (pc := 45) o dX0_isDoneBehind_45 ic_0 ?_
      obtain ⟨S9, hS9, h⟩ := xbs h
      refine x_callV (pc := 46) (As := [.int ((0 : Int32))]) (b := r8) (rest := []) o (tX6_passDay _ M _ n r8 ((0 : Int32)) S S9 hS9) eX6_passDay mX0_62 clX6 (kX6_passDay hS9) (by decide) rfl rfl (Nat.le_of_ble_eq_true rfl) dX0_isDoneBehind_46 ?_
      obtain ⟨v10, hv10, h⟩ := xbs h
      refine x_iincE (pc := 49) o dX0_isDoneBehind_49 rfl ic_1 hn4 hv10 ?_
      refine x_goto (pc := 52) (tgt := 20) o dX0_isDoneBehind_52 (by decide) ?_
      refine x_to (l := [(0, .ref (M.2.1 k0)), (1, .int a1), (2, .int a2), (4, .int v10)]) ⟨rfl, rfl, rfl, rfl, trivial⟩ ?_
      exact hrec v10 S9 h
theorem tX0_isDoneBehind_L20 {Γ : xGm} {M : xMg} (o : xOk Γ tC M 6 cX0_isDoneBehind RX0) (hnL : Γ.2.2.2 = 5) (n : Nat) (k0 : Nat) (a1 : Int32) (a2 : Int32) (z : (xSt)) (K : xAt Γ tC M 55 (xlv [(0, .ref (M.2.1 k0)), (1, .int a1)]) [] z) : ∀ (q : Nat) (a4 : Int32) (S : xSt), fX0_isDoneBehind_L20 n k0 a1 a2 q a4 S = some z → xAt Γ tC M 20 (xlv [(0, .ref (M.2.1 k0)), (1, .int a1), (2, .int a2), (4, .int a4)]) [] S := by
  intro q
  induction q with
  | zero => intro a4 S h; cases h
  | succ q ih => intro a4 S h; exact tX0_isDoneBehind_L20b o hnL n k0 a1 a2 a4 S z ih K h
def fX0_isDoneBehind (n : Nat) (k0 : Nat) (a1 : Int32) (a2 : Int32) (a3 : Int32) (S : xSt) : Option (Int32 × xSt) :=
  if tC.1 k0 = 0 then
  ((fX0_restart n k0 S).bind fun S1 =>
  (xgF tC 0 1 k0 S1).bind fun r2 =>
  (xgI tC 8 3 r2 S1).bind fun v3 =>
  (xpI tC 8 3 r2 (v3 ||| a3) S1).bind fun S4 =>
  (fX0_isDoneBehind_L20 n k0 a1 a2 n ((0 : Int32)) S4).bind fun z13 => (xgF tC 0 1 k0 z13).bind fun r14 =>
  (xgM tC 0 3 k0 z13).bind fun r15 =>
  (fX8_isFinished r14 a1 r15 z13).bind fun v16 =>
  if v16 = 0 ∨ v16 = 1 then (some (v16, z13)) else none)
  else none
theorem kX0_isDoneBehind {z : Int32 × xSt} {n : Nat} {k0 : Nat} {a1 : Int32} {a2 : Int32} {a3 : Int32} {S : xSt} (h : fX0_isDoneBehind n k0 a1 a2 a3 S = some z) : tC.1 k0 = 0 := by
  unfold fX0_isDoneBehind at h
  exact (xck h).1
set_option maxHeartbeats 4000000 in
theorem tX0_isDoneBehind (l : Launch) (M : xMg) (A : Nat → Prop) (n : Nat) (k0 : Nat) (a1 : Int32) (a2 : Int32) (a3 : Int32) (S : xSt) (z : Int32 × xSt) (h : fX0_isDoneBehind n k0 a1 a2 a3 S = some z) : xMI l yX0_isDoneBehind cX0_isDoneBehind 5 (some .boolean) 6 tC M A [.ref (M.2.1 k0), .int a1, .int a2, .int a3] S z.1 z.2 := by
  refine x_metI (plainFor_of_name (by decide)) tC_ok (Nat.le_of_ble_eq_true rfl) (fun Γ hA hnL hl hr o => ?_)
  subst hA; subst hl
  have o : xOk Γ tC M 6 cX0_isDoneBehind RX0 := o
  unfold fX0_isDoneBehind at h
  obtain ⟨hk0, h⟩ := xck h
  refine x_to (l := [(0, .ref (M.2.1 k0)), (1, .int a1), (2, .int a2), (3, .int a3)]) ⟨rfl, rfl, rfl, rfl, trivial⟩ ?_
  have hn4 : 4 < Γ.2.2.2 := by omega
  refine x_aload_n (pc := 0) o dX0_isDoneBehind_0 rfl rfl ?_
  obtain ⟨S1, hS1, h⟩ := xbs h
  refine x_callV (pc := 1) (As := []) (b := k0) (rest := []) o (tX0_restart _ M _ n k0 S S1 hS1) eX0_restart mX0_76 clX0 (kX0_restart hS1) (by decide) rfl rfl (Nat.le_of_ble_eq_true rfl) dX0_isDoneBehind_1 ?_
  refine x_aload_n (pc := 4) o dX0_isDoneBehind_4 rfl rfl ?_
  obtain ⟨r2, hr2, h⟩ := xbs h
  refine gX0_12 (pc := 5) o dX0_isDoneBehind_5 hr2 ?_
  refine x_dup (pc := 8) o dX0_isDoneBehind_8 rfl ?_
  obtain ⟨v3, hv3, h⟩ := xbs h
  refine gX0_162 (pc := 9) o dX0_isDoneBehind_9 hv3 ?_
  refine x_iload_n (pc := 12) o dX0_isDoneBehind_12 rfl rfl ?_
  refine x_ior (pc := 13) o dX0_isDoneBehind_13 ?_
  obtain ⟨S4, hS4, h⟩ := xbs h
  refine pX0_162 (pc := 14) o dX0_isDoneBehind_14 hS4 ?_
  refine x_iconst (pc := 17) o dX0_isDoneBehind_17 ic_0 ?_
  refine x_istore (pc := 18) o dX0_isDoneBehind_18 hn4 ?_
  obtain ⟨z13, hz13, h⟩ := xbs h
  refine x_to (l := [(0, .ref (M.2.1 k0)), (1, .int a1), (2, .int a2), (4, .int ((0 : Int32)))]) ⟨rfl, rfl, rfl, rfl, trivial⟩ ?_
  refine tX0_isDoneBehind_L20 o hnL n k0 a1 a2 z13 ?_ n ((0 : Int32)) S4 hz13
  refine x_aload_n (pc := 55) o dX0_isDoneBehind_55 rfl rfl ?_
  obtain ⟨r14, hr14, h⟩ := xbs h
  refine gX0_12 (pc := 56) o dX0_isDoneBehind_56 hr14 ?_
  refine x_iload_n (pc := 59) o dX0_isDoneBehind_59 rfl rfl ?_
  refine x_aload_n (pc := 60) o dX0_isDoneBehind_60 rfl rfl ?_
  obtain ⟨r15, hr15, h⟩ := xbs h
  refine gX0_29 (pc := 61) o dX0_isDoneBehind_61 hr15 ?_
  obtain ⟨v16, hv16, h⟩ := xbs h
  refine x_callI (pc := 64) (As := [.int a1, .ref (M.2.1 r15)]) (b := r14) (rest := []) o (tX8_isFinished _ M _ r14 a1 r15 z13 v16 hv16) eX8_isFinished mX0_96 clX8 (kX8_isFinished hv16) (by decide) rfl rfl (Nat.le_of_ble_eq_true rfl) dX0_isDoneBehind_64 ?_
  obtain ⟨hz, h⟩ := xck h
  exact x_zreturn (pc := 67) o hr dX0_isDoneBehind_67 hz (xr1 h) (xr2 h)
def fX0_hangsOn_B65_32 (n : Nat) (rec : Int32 → Int32 → xSt → Option (Int32 × xSt)) (k0 : Nat) (a1 : Int32) (a2 : Int32) (a3 : Int32) (a4 : Int32) (s0 : Int32) (S : xSt) : Option (Int32 × xSt) :=
  if s0 = 0 then
  ((some (a4 + (1 : Int32))).bind fun v9 =>
  rec a3 v9 S)
else
  ((fX0_isDoneBehind n k0 a1 a2 (((1 : Int32)) <<< (a4 &&& 31)) S).bind fun q10 =>
  if q10.1 = 0 then
  ((some (a3 ||| (((1 : Int32)) <<< (a4 &&& 31)))).bind fun v12 =>
  (some (a4 + (1 : Int32))).bind fun v13 =>
  rec v12 v13 q10.2)
else
  ((some (a4 + (1 : Int32))).bind fun v11 =>
  rec a3 v11 q10.2))
set_option maxHeartbeats 4000000 in
theorem tX0_hangsOn_B65_32 {Γ : xGm} {M : xMg} (o : xOk Γ tC M 7 cX0_hangsOn RX0) (hnL : Γ.2.2.2 = 6) {rec : Int32 → Int32 → xSt → Option (Int32 × xSt)} (n : Nat) (k0 : Nat) (a1 : Int32) (a2 : Int32) (a3 : Int32) (a4 : Int32) (s0 : Int32) (S : xSt) (z : (Int32 × xSt)) (hrec : ∀ (a3 : Int32) (a4 : Int32) (S : xSt), rec a3 a4 S = some z → xAt Γ tC M 32 (xlv [(0, .ref (M.2.1 k0)), (1, .int a1), (2, .int a2), (3, .int a3), (4, .int a4)]) [] S) (K : xAt Γ tC M 98 (xlv [(3, .int z.1)]) [] z.2) (h : fX0_hangsOn_B65_32 n rec k0 a1 a2 a3 a4 s0 S = some z) : xAt Γ tC M 65 (xlv [(0, .ref (M.2.1 k0)), (1, .int a1), (2, .int a2), (3, .int a3), (4, .int a4)]) [.int s0] S := by
  have hn3 : 3 < Γ.2.2.2 := by omega
  have hn4 : 4 < Γ.2.2.2 := by omega
  have hn5 : 5 < Γ.2.2.2 := by omega
  unfold fX0_hangsOn_B65_32 at h
  refine x_istore (pc := 65) o dX0_hangsOn_65 hn5 ?_
  refine x_iload (pc := 67) o dX0_hangsOn_67 rfl ?_
  refine x_if_eq (pc := 69) (tgt := 92) o dX0_hangsOn_69 (by decide) (fun c15 => ?_) (fun c15 => ?_)
  · have h := xit h c15
    obtain ⟨v9, hv9, h⟩ := xbs h
    refine x_iincE (pc := 92) o dX0_hangsOn_92 rfl ic_1 hn4 hv9 ?_
    refine x_goto (pc := 95) (tgt := 32) o dX0_hangsOn_95 (by decide) ?_
    refine x_to (l := [(0, .ref (M.2.1 k0)), (1, .int a1), (2, .int a2), (3, .int a3), (4, .int v9)]) ⟨rfl, rfl, rfl, rfl, rfl, trivial⟩ ?_
    exact hrec a3 v9 S h
  · have h := xif h c15
    refine x_aload_n (pc := 72) o dX0_hangsOn_72 rfl rfl ?_
    refine x_iload_n (pc := 73) o dX0_hangsOn_73 rfl rfl ?_
    refine x_iload_n (pc := 74) o dX0_hangsOn_74 rfl rfl ?_
    refine x_iconst (pc := 75) o dX0_hangsOn_75 ic_1 ?_
    refine x_iload (pc := 76) o dX0_hangsOn_76 rfl ?_
    refine x_ishl (pc := 78) o dX0_hangsOn_78 ?_
    obtain ⟨q10, hq10, h⟩ := xbs h
    refine x_callI (pc := 79) (As := [.int a1, .int a2, .int (((1 : Int32)) <<< (a4 &&& 31))]) (b := k0) (rest := []) o (tX0_isDoneBehind _ M _ n k0 a1 a2 (((1 : Int32)) <<< (a4 &&& 31)) S q10 hq10) eX0_isDoneBehind mX0_165 clX0 (kX0_isDoneBehind hq10) (by decide) rfl rfl (Nat.le_of_ble_eq_true rfl) dX0_hangsOn_79 ?_
    refine x_if_ne (pc := 82) (tgt := 92) o dX0_hangsOn_82 (by decide) (fun c14 => ?_) (fun c14 => ?_)
    · have h := xif h c14
      obtain ⟨v11, hv11, h⟩ := xbs h
      refine x_iincE (pc := 92) o dX0_hangsOn_92 rfl ic_1 hn4 hv11 ?_
      refine x_goto (pc := 95) (tgt := 32) o dX0_hangsOn_95 (by decide) ?_
      refine x_to (l := [(0, .ref (M.2.1 k0)), (1, .int a1), (2, .int a2), (3, .int a3), (4, .int v11)]) ⟨rfl, rfl, rfl, rfl, rfl, trivial⟩ ?_
      exact hrec a3 v11 q10.2 h
    · have h := xit h c14
      refine x_iload_n (pc := 85) o dX0_hangsOn_85 rfl rfl ?_
      refine x_iconst (pc := 86) o dX0_hangsOn_86 ic_1 ?_
      refine x_iload (pc := 87) o dX0_hangsOn_87 rfl ?_
      refine x_ishl (pc := 89) o dX0_hangsOn_89 ?_
      refine x_ior (pc := 90) o dX0_hangsOn_90 ?_
      obtain ⟨v12, hv12, h⟩ := xbs h
      refine x_istore_nE (pc := 91) o dX0_hangsOn_91 rfl hn3 hv12 ?_
      obtain ⟨v13, hv13, h⟩ := xbs h
      refine x_iincE (pc := 92) o dX0_hangsOn_92 rfl ic_1 hn4 hv13 ?_
      refine x_goto (pc := 95) (tgt := 32) o dX0_hangsOn_95 (by decide) ?_
      refine x_to (l := [(0, .ref (M.2.1 k0)), (1, .int a1), (2, .int a2), (3, .int v12), (4, .int v13)]) ⟨rfl, rfl, rfl, rfl, rfl, trivial⟩ ?_
      exact hrec v12 v13 q10.2 h
def fX0_hangsOn_L32b (n : Nat) (k0 : Nat) (a1 : Int32) (a2 : Int32) (rec : Int32 → Int32 → xSt → Option (Int32 × xSt)) (a3 : Int32) (a4 : Int32) (S : xSt) : Option (Int32 × xSt) :=
  (xgM tC 0 3 k0 S).bind fun r5 =>
  (fX9_count r5 ((1 : Int32)) S).bind fun v6 =>
  if v6 ≤ a4 then
  (some (a3, S))
else
  ((xgF tC 0 0 k0 S).bind fun r7 =>
  (xgI tC 8 3 r7 S).bind fun v8 =>
  if ((v8 >>> (a4 &&& 31)) &&& ((1 : Int32))) = 0 then
  (fX0_hangsOn_B65_32 n rec k0 a1 a2 a3 a4 ((1 : Int32)) S)
else
  (fX0_hangsOn_B65_32 n rec k0 a1 a2 a3 a4 ((0 : Int32)) S))
def fX0_hangsOn_L32 (n : Nat) (k0 : Nat) (a1 : Int32) (a2 : Int32) : Nat → Int32 → Int32 → xSt → Option (Int32 × xSt)
  | 0 => fun _ _ _ => none
  | q + 1 => fX0_hangsOn_L32b n k0 a1 a2 (fX0_hangsOn_L32 n k0 a1 a2 q)
set_option maxHeartbeats 4000000 in
theorem tX0_hangsOn_L32b {Γ : xGm} {M : xMg} (o : xOk Γ tC M 7 cX0_hangsOn RX0) (hnL : Γ.2.2.2 = 6) {rec : Int32 → Int32 → xSt → Option (Int32 × xSt)} (n : Nat) (k0 : Nat) (a1 : Int32) (a2 : Int32) (a3 : Int32) (a4 : Int32) (S : xSt) (z : (Int32 × xSt)) (hrec : ∀ (a3 : Int32) (a4 : Int32) (S : xSt), rec a3 a4 S = some z → xAt Γ tC M 32 (xlv [(0, .ref (M.2.1 k0)), (1, .int a1), (2, .int a2), (3, .int a3), (4, .int a4)]) [] S) (K : xAt Γ tC M 98 (xlv [(3, .int z.1)]) [] z.2) (h : fX0_hangsOn_L32b n k0 a1 a2 rec a3 a4 S = some z) : xAt Γ tC M 32 (xlv [(0, .ref (M.2.1 k0)), (1, .int a1), (2, .int a2), (3, .int a3), (4, .int a4)]) [] S := by
  unfold fX0_hangsOn_L32b at h
  refine x_iload (pc := 32) o dX0_hangsOn_32 rfl ?_
  refine x_aload_n (pc := 34) o dX0_hangsOn_34 rfl rfl ?_
  obtain ⟨r5, hr5, h⟩ := xbs h
  refine gX0_29 (pc := 35) o dX0_hangsOn_35 hr5 ?_
  refine x_iconst (pc := 38) o dX0_hangsOn_38 ic_1 ?_
  obtain ⟨v6, hv6, h⟩ := xbs h
  refine x_callI (pc := 39) (As := [.int ((1 : Int32))]) (b := r5) (rest := [.int a4]) o (tX9_count _ M _ r5 ((1 : Int32)) S v6 hv6) eX9_count mX0_103 clX9 (kX9_count hv6) (by decide) rfl rfl (Nat.le_of_ble_eq_true rfl) dX0_hangsOn_39 ?_
  refine x_icmp_ge (pc := 42) (tgt := 98) o dX0_hangsOn_42 (by decide) (fun c17 => ?_) (fun c17 => ?_)
  · have h := xit h c17
    refine x_to (l := [(3, .int a3)]) ⟨rfl, trivial⟩ ?_
    cases Option.some.inj h
    exact K
  · have h := xif h c17
    refine x_aload_n (pc := 45) o dX0_hangsOn_45 rfl rfl ?_
    obtain ⟨r7, hr7, h⟩ := xbs h
    refine gX0_33 (pc := 46) o dX0_hangsOn_46 hr7 ?_
    obtain ⟨v8, hv8, h⟩ := xbs h
    refine gX0_162 (pc := 49) o dX0_hangsOn_49 hv8 ?_
    refine x_iload (pc := 52) o dX0_hangsOn_52 rfl ?_
    refine x_ishr (pc := 54) o dX0_hangsOn_54 ?_
    refine x_iconst (pc := 55) o dX0_hangsOn_55 ic_1 ?_
    refine x_iand (pc := 56) o dX0_hangsOn_56 ?_
    refine x_if_ne (pc := 57) (tgt := 64) o dX0_hangsOn_57 (by decide) (fun c16 => ?_) (fun c16 => ?_)
    · have h := xif h c16
      refine x_iconst (pc := 64) o dX0_hangsOn_64 ic_0 ?_
      refine x_to (l := [(0, .ref (M.2.1 k0)), (1, .int a1), (2, .int a2), (3, .int a3), (4, .int a4)]) ⟨rfl, rfl, rfl, rfl, rfl, trivial⟩ ?_
      exact tX0_hangsOn_B65_32 o hnL n k0 a1 a2 a3 a4 ((0 : Int32)) S z hrec K  h
    · have h := xit h c16
      refine x_iconst (pc := 60) o dX0_hangsOn_60 ic_1 ?_
      refine x_goto (pc := 61) (tgt := 65) o dX0_hangsOn_61 (by decide) ?_
      refine x_to (l := [(0, .ref (M.2.1 k0)), (1, .int a1), (2, .int a2), (3, .int a3), (4, .int a4)]) ⟨rfl, rfl, rfl, rfl, rfl, trivial⟩ ?_
      exact tX0_hangsOn_B65_32 o hnL n k0 a1 a2 a3 a4 ((1 : Int32)) S z hrec K  h
theorem tX0_hangsOn_L32 {Γ : xGm} {M : xMg} (o : xOk Γ tC M 7 cX0_hangsOn RX0) (hnL : Γ.2.2.2 = 6) (n : Nat) (k0 : Nat) (a1 : Int32) (a2 : Int32) (z : (Int32 × xSt)) (K : xAt Γ tC M 98 (xlv [(3, .int z.1)]) [] z.2) : ∀ (q : Nat) (a3 : Int32) (a4 : Int32) (S : xSt), fX0_hangsOn_L32 n k0 a1 a2 q a3 a4 S = some z → xAt Γ tC M 32 (xlv [(0, .ref (M.2.1 k0)), (1, .int a1), (2, .int a2), (3, .int a3), (4, .int a4)]) [] S := by
  intro q
  induction q with
  | zero => intro a3 a4 S h; cases h
  | succ q ih => intro a3 a4 S h; exact tX0_hangsOn_L32b o hnL n k0 a1 a2 a3 a4 S z ih K h
def fX0_hangsOn (n : Nat) (k0 : Nat) (a1 : Int32) (a2 : Int32) (S : xSt) : Option (Int32 × xSt) :=
  if tC.1 k0 = 0 then
  ((xgF tC 0 0 k0 S).bind fun r1 =>
  (xgM tC 0 3 k0 S).bind fun r2 =>
  (fX8_isFinished r1 a1 r2 S).bind fun v3 =>
  if v3 = 0 then
  ((fX0_isDoneBehind n k0 a1 a2 ((0 : Int32)) S).bind fun q4 =>
  if q4.1 = 0 then
  (some ((0 : Int32), q4.2))
else
  ((fX0_hangsOn_L32 n k0 a1 a2 n ((0 : Int32)) ((0 : Int32)) q4.2).bind fun z18 => some (z18.1, z18.2)))
else
  (some ((0 : Int32), S)))
  else none
theorem kX0_hangsOn {z : Int32 × xSt} {n : Nat} {k0 : Nat} {a1 : Int32} {a2 : Int32} {S : xSt} (h : fX0_hangsOn n k0 a1 a2 S = some z) : tC.1 k0 = 0 := by
  unfold fX0_hangsOn at h
  exact (xck h).1
set_option maxHeartbeats 4000000 in
theorem tX0_hangsOn (l : Launch) (M : xMg) (A : Nat → Prop) (n : Nat) (k0 : Nat) (a1 : Int32) (a2 : Int32) (S : xSt) (z : Int32 × xSt) (h : fX0_hangsOn n k0 a1 a2 S = some z) : xMI l yX0_hangsOn cX0_hangsOn 6 (some .int) 7 tC M A [.ref (M.2.1 k0), .int a1, .int a2] S z.1 z.2 := by
  refine x_metI (plainFor_of_name (by decide)) tC_ok (Nat.le_of_ble_eq_true rfl) (fun Γ hA hnL hl hr o => ?_)
  subst hA; subst hl
  have o : xOk Γ tC M 7 cX0_hangsOn RX0 := o
  unfold fX0_hangsOn at h
  obtain ⟨hk0, h⟩ := xck h
  refine x_to (l := [(0, .ref (M.2.1 k0)), (1, .int a1), (2, .int a2)]) ⟨rfl, rfl, rfl, trivial⟩ ?_
  have hn3 : 3 < Γ.2.2.2 := by omega
  have hn4 : 4 < Γ.2.2.2 := by omega
  refine x_aload_n (pc := 0) o dX0_hangsOn_0 rfl rfl ?_
  obtain ⟨r1, hr1, h⟩ := xbs h
  refine gX0_33 (pc := 1) o dX0_hangsOn_1 hr1 ?_
  refine x_iload_n (pc := 4) o dX0_hangsOn_4 rfl rfl ?_
  refine x_aload_n (pc := 5) o dX0_hangsOn_5 rfl rfl ?_
  obtain ⟨r2, hr2, h⟩ := xbs h
  refine gX0_29 (pc := 6) o dX0_hangsOn_6 hr2 ?_
  obtain ⟨v3, hv3, h⟩ := xbs h
  refine x_callI (pc := 9) (As := [.int a1, .ref (M.2.1 r2)]) (b := r1) (rest := []) o (tX8_isFinished _ M _ r1 a1 r2 S v3 hv3) eX8_isFinished mX0_96 clX8 (kX8_isFinished hv3) (by decide) rfl rfl (Nat.le_of_ble_eq_true rfl) dX0_hangsOn_9 ?_
  refine x_if_ne (pc := 12) (tgt := 25) o dX0_hangsOn_12 (by decide) (fun c20 => ?_) (fun c20 => ?_)
  · have h := xif h c20
    refine x_iconst (pc := 25) o dX0_hangsOn_25 ic_0 ?_
    exact x_ireturn (pc := 26) o hr dX0_hangsOn_26 (xr1 h) (xr2 h)
  · have h := xit h c20
    refine x_aload_n (pc := 15) o dX0_hangsOn_15 rfl rfl ?_
    refine x_iload_n (pc := 16) o dX0_hangsOn_16 rfl rfl ?_
    refine x_iload_n (pc := 17) o dX0_hangsOn_17 rfl rfl ?_
    refine x_iconst (pc := 18) o dX0_hangsOn_18 ic_0 ?_
    obtain ⟨q4, hq4, h⟩ := xbs h
    refine x_callI (pc := 19) (As := [.int a1, .int a2, .int ((0 : Int32))]) (b := k0) (rest := []) o (tX0_isDoneBehind _ M _ n k0 a1 a2 ((0 : Int32)) S q4 hq4) eX0_isDoneBehind mX0_165 clX0 (kX0_isDoneBehind hq4) (by decide) rfl rfl (Nat.le_of_ble_eq_true rfl) dX0_hangsOn_19 ?_
    refine x_if_ne (pc := 22) (tgt := 27) o dX0_hangsOn_22 (by decide) (fun c19 => ?_) (fun c19 => ?_)
    · have h := xif h c19
      refine x_iconst (pc := 27) o dX0_hangsOn_27 ic_0 ?_
      refine x_istore_n (pc := 28) o dX0_hangsOn_28 rfl hn3 ?_
      refine x_iconst (pc := 29) o dX0_hangsOn_29 ic_0 ?_
      refine x_istore (pc := 30) o dX0_hangsOn_30 hn4 ?_
      obtain ⟨z18, hz18, h⟩ := xbs h
      refine x_to (l := [(0, .ref (M.2.1 k0)), (1, .int a1), (2, .int a2), (3, .int ((0 : Int32))), (4, .int ((0 : Int32)))]) ⟨rfl, rfl, rfl, rfl, rfl, trivial⟩ ?_
      refine tX0_hangsOn_L32 o hnL n k0 a1 a2 z18 ?_ n ((0 : Int32)) ((0 : Int32)) q4.2 hz18
      refine x_iload_n (pc := 98) o dX0_hangsOn_98 rfl rfl ?_
      exact x_ireturn (pc := 99) o hr dX0_hangsOn_99 (xr1 h) (xr2 h)
    · have h := xit h c19
      refine x_iconst (pc := 25) o dX0_hangsOn_25 ic_0 ?_
      exact x_ireturn (pc := 26) o hr dX0_hangsOn_26 (xr1 h) (xr2 h)
def fX0_guardOf_B74_40 (n : Nat) (rec : Int32 → xSt → Option ((xSt) ⊕ (Int32 × xSt))) (k0 : Nat) (a1 : Int32) (a2 : Int32) (a3 : Int32) (a4 : Int32) (a5 : Int32) (s0 : Int32) (S : xSt) : Option ((xSt) ⊕ (Int32 × xSt)) :=
  if s0 = 0 then
  ((some (a5 + (1 : Int32))).bind fun v8 =>
  rec v8 S)
else
  ((fX0_isDoneBehind n k0 a1 a2 a5 S).bind fun q9 =>
  if q9.1 = 0 then
  (some (.inr (a5, q9.2)))
else
  ((some (a5 + (1 : Int32))).bind fun v10 =>
  rec v10 q9.2))
set_option maxHeartbeats 4000000 in
theorem tX0_guardOf_B74_40 {Γ : xGm} {M : xMg} (o : xOk Γ tC M 7 cX0_guardOf RX0) (hnL : Γ.2.2.2 = 7) {rec : Int32 → xSt → Option ((xSt) ⊕ (Int32 × xSt))} (n : Nat) (k0 : Nat) (a1 : Int32) (a2 : Int32) (a3 : Int32) (a4 : Int32) (a5 : Int32) (s0 : Int32) (S : xSt) (z : ((xSt) ⊕ (Int32 × xSt))) (hrec : ∀ (a5 : Int32) (S : xSt), rec a5 S = some z → xAt Γ tC M 40 (xlv [(0, .ref (M.2.1 k0)), (1, .int a1), (2, .int a2), (3, .int a3), (4, .int a4), (5, .int a5)]) [] S) (K : ∀ e, z = .inl e → xAt Γ tC M 101 (xlv [(0, .ref (M.2.1 k0)), (1, .int a1), (2, .int a2), (3, .int a3), (4, .int a4)]) [] e) (R : ∀ r, z = .inr r → xRI Γ tC M (some .int) r.1 r.2) (h : fX0_guardOf_B74_40 n rec k0 a1 a2 a3 a4 a5 s0 S = some z) : xAt Γ tC M 74 (xlv [(0, .ref (M.2.1 k0)), (1, .int a1), (2, .int a2), (3, .int a3), (4, .int a4), (5, .int a5)]) [.int s0] S := by
  have hn5 : 5 < Γ.2.2.2 := by omega
  have hn6 : 6 < Γ.2.2.2 := by omega
  unfold fX0_guardOf_B74_40 at h
  refine x_istore (pc := 74) o dX0_guardOf_74 hn6 ?_
  refine x_iload (pc := 76) o dX0_guardOf_76 rfl ?_
  refine x_if_eq (pc := 78) (tgt := 95) o dX0_guardOf_78 (by decide) (fun c12 => ?_) (fun c12 => ?_)
  · have h := xit h c12
    obtain ⟨v8, hv8, h⟩ := xbs h
    refine x_iincE (pc := 95) o dX0_guardOf_95 rfl ic_1 hn5 hv8 ?_
    refine x_goto (pc := 98) (tgt := 40) o dX0_guardOf_98 (by decide) ?_
    refine x_to (l := [(0, .ref (M.2.1 k0)), (1, .int a1), (2, .int a2), (3, .int a3), (4, .int a4), (5, .int v8)]) ⟨rfl, rfl, rfl, rfl, rfl, rfl, trivial⟩ ?_
    exact hrec v8 S h
  · have h := xif h c12
    refine x_aload_n (pc := 81) o dX0_guardOf_81 rfl rfl ?_
    refine x_iload_n (pc := 82) o dX0_guardOf_82 rfl rfl ?_
    refine x_iload_n (pc := 83) o dX0_guardOf_83 rfl rfl ?_
    refine x_iload (pc := 84) o dX0_guardOf_84 rfl ?_
    obtain ⟨q9, hq9, h⟩ := xbs h
    refine x_callI (pc := 86) (As := [.int a1, .int a2, .int a5]) (b := k0) (rest := []) o (tX0_isDoneBehind _ M _ n k0 a1 a2 a5 S q9 hq9) eX0_isDoneBehind mX0_165 clX0 (kX0_isDoneBehind hq9) (by decide) rfl rfl (Nat.le_of_ble_eq_true rfl) dX0_guardOf_86 ?_
    refine x_if_ne (pc := 89) (tgt := 95) o dX0_guardOf_89 (by decide) (fun c11 => ?_) (fun c11 => ?_)
    · have h := xif h c11
      obtain ⟨v10, hv10, h⟩ := xbs h
      refine x_iincE (pc := 95) o dX0_guardOf_95 rfl ic_1 hn5 hv10 ?_
      refine x_goto (pc := 98) (tgt := 40) o dX0_guardOf_98 (by decide) ?_
      refine x_to (l := [(0, .ref (M.2.1 k0)), (1, .int a1), (2, .int a2), (3, .int a3), (4, .int a4), (5, .int v10)]) ⟨rfl, rfl, rfl, rfl, rfl, rfl, trivial⟩ ?_
      exact hrec v10 q9.2 h
    · have h := xit h c11
      refine x_iload (pc := 92) o dX0_guardOf_92 rfl ?_
      exact x_ireturn (pc := 94) o (R _ (Option.some.inj h).symm) dX0_guardOf_94 rfl rfl
def fX0_guardOf_B73_40 (n : Nat) (rec : Int32 → xSt → Option ((xSt) ⊕ (Int32 × xSt))) (k0 : Nat) (a1 : Int32) (a2 : Int32) (a3 : Int32) (a4 : Int32) (a5 : Int32) (S : xSt) : Option ((xSt) ⊕ (Int32 × xSt)) :=
  fX0_guardOf_B74_40 n rec k0 a1 a2 a3 a4 a5 ((0 : Int32)) S
set_option maxHeartbeats 4000000 in
theorem tX0_guardOf_B73_40 {Γ : xGm} {M : xMg} (o : xOk Γ tC M 7 cX0_guardOf RX0) (hnL : Γ.2.2.2 = 7) {rec : Int32 → xSt → Option ((xSt) ⊕ (Int32 × xSt))} (n : Nat) (k0 : Nat) (a1 : Int32) (a2 : Int32) (a3 : Int32) (a4 : Int32) (a5 : Int32) (S : xSt) (z : ((xSt) ⊕ (Int32 × xSt))) (hrec : ∀ (a5 : Int32) (S : xSt), rec a5 S = some z → xAt Γ tC M 40 (xlv [(0, .ref (M.2.1 k0)), (1, .int a1), (2, .int a2), (3, .int a3), (4, .int a4), (5, .int a5)]) [] S) (K : ∀ e, z = .inl e → xAt Γ tC M 101 (xlv [(0, .ref (M.2.1 k0)), (1, .int a1), (2, .int a2), (3, .int a3), (4, .int a4)]) [] e) (R : ∀ r, z = .inr r → xRI Γ tC M (some .int) r.1 r.2) (h : fX0_guardOf_B73_40 n rec k0 a1 a2 a3 a4 a5 S = some z) : xAt Γ tC M 73 (xlv [(0, .ref (M.2.1 k0)), (1, .int a1), (2, .int a2), (3, .int a3), (4, .int a4), (5, .int a5)]) [] S := by
  unfold fX0_guardOf_B73_40 at h
  refine x_iconst (pc := 73) o dX0_guardOf_73 ic_0 ?_
  refine x_to (l := [(0, .ref (M.2.1 k0)), (1, .int a1), (2, .int a2), (3, .int a3), (4, .int a4), (5, .int a5)]) ⟨rfl, rfl, rfl, rfl, rfl, rfl, trivial⟩ ?_
  exact tX0_guardOf_B74_40 o hnL n k0 a1 a2 a3 a4 a5 ((0 : Int32)) S z hrec K R h
def fX0_guardOf_L40b (n : Nat) (k0 : Nat) (a1 : Int32) (a2 : Int32) (a3 : Int32) (a4 : Int32) (rec : Int32 → xSt → Option ((xSt) ⊕ (Int32 × xSt))) (a5 : Int32) (S : xSt) : Option ((xSt) ⊕ (Int32 × xSt)) :=
  if a3 ≤ a5 then
  (some (.inl S))
else
  ((fJ6_bitCount_0f7a4 a5 S).bind fun v7 =>
  if v7 = a4 then
  ((xgF tC 0 0 k0 S).bind fun r13 =>
  (xgI tC 8 3 r13 S).bind fun v14 =>
  if (a5 &&& v14) = 0 then
  (fX0_guardOf_B74_40 n rec k0 a1 a2 a3 a4 a5 ((1 : Int32)) S)
else
  (fX0_guardOf_B73_40 n rec k0 a1 a2 a3 a4 a5 S))
else
  (fX0_guardOf_B73_40 n rec k0 a1 a2 a3 a4 a5 S))
def fX0_guardOf_L40 (n : Nat) (k0 : Nat) (a1 : Int32) (a2 : Int32) (a3 : Int32) (a4 : Int32) : Nat → Int32 → xSt → Option ((xSt) ⊕ (Int32 × xSt))
  | 0 => fun _ _ => none
  | q + 1 => fX0_guardOf_L40b n k0 a1 a2 a3 a4 (fX0_guardOf_L40 n k0 a1 a2 a3 a4 q)
set_option maxHeartbeats 4000000 in
theorem tX0_guardOf_L40b {Γ : xGm} {M : xMg} (o : xOk Γ tC M 7 cX0_guardOf RX0) (hnL : Γ.2.2.2 = 7) {rec : Int32 → xSt → Option ((xSt) ⊕ (Int32 × xSt))} (n : Nat) (k0 : Nat) (a1 : Int32) (a2 : Int32) (a3 : Int32) (a4 : Int32) (a5 : Int32) (S : xSt) (z : ((xSt) ⊕ (Int32 × xSt))) (hrec : ∀ (a5 : Int32) (S : xSt), rec a5 S = some z → xAt Γ tC M 40 (xlv [(0, .ref (M.2.1 k0)), (1, .int a1), (2, .int a2), (3, .int a3), (4, .int a4), (5, .int a5)]) [] S) (K : ∀ e, z = .inl e → xAt Γ tC M 101 (xlv [(0, .ref (M.2.1 k0)), (1, .int a1), (2, .int a2), (3, .int a3), (4, .int a4)]) [] e) (R : ∀ r, z = .inr r → xRI Γ tC M (some .int) r.1 r.2) (h : fX0_guardOf_L40b n k0 a1 a2 a3 a4 rec a5 S = some z) : xAt Γ tC M 40 (xlv [(0, .ref (M.2.1 k0)), (1, .int a1), (2, .int a2), (3, .int a3), (4, .int a4), (5, .int a5)]) [] S := by
  unfold fX0_guardOf_L40b at h
  refine x_iload (pc := 40) o dX0_guardOf_40 rfl ?_
  refine x_iload_n (pc := 42) o dX0_guardOf_42 rfl rfl ?_
  refine x_icmp_ge (pc := 43) (tgt := 101) o dX0_guardOf_43 (by decide) (fun c17 => ?_) (fun c17 => ?_)
  · have h := xit h c17
    refine x_to (l := [(0, .ref (M.2.1 k0)), (1, .int a1), (2, .int a2), (3, .int a3), (4, .int a4)]) ⟨rfl, rfl, rfl, rfl, rfl, trivial⟩ ?_
    exact K _ (Option.some.inj h).symm
  · have h := xif h c17
    refine x_iload (pc := 46) o dX0_guardOf_46 rfl ?_
    obtain ⟨v7, hv7, h⟩ := xbs h
    refine x_statI (pc := 48) (As := [.int a5]) (rest := []) o (tJ6_bitCount_0f7a4 _ M _ a5 S v7 hv7) eJ6_bitCount_0f7a4 mX0_169 (by decide) rfl rfl (Nat.le_of_ble_eq_true rfl) dX0_guardOf_48 ?_
    refine x_iload (pc := 51) o dX0_guardOf_51 rfl ?_
    refine x_icmp_ne (pc := 53) (tgt := 73) o dX0_guardOf_53 (by decide) (fun c16 => ?_) (fun c16 => ?_)
    · have h := xif h c16
      refine x_to (l := [(0, .ref (M.2.1 k0)), (1, .int a1), (2, .int a2), (3, .int a3), (4, .int a4), (5, .int a5)]) ⟨rfl, rfl, rfl, rfl, rfl, rfl, trivial⟩ ?_
      exact tX0_guardOf_B73_40 o hnL n k0 a1 a2 a3 a4 a5 S z hrec K R h
    · have h := xit h c16
      refine x_iload (pc := 56) o dX0_guardOf_56 rfl ?_
      refine x_aload_n (pc := 58) o dX0_guardOf_58 rfl rfl ?_
      obtain ⟨r13, hr13, h⟩ := xbs h
      refine gX0_33 (pc := 59) o dX0_guardOf_59 hr13 ?_
      obtain ⟨v14, hv14, h⟩ := xbs h
      refine gX0_162 (pc := 62) o dX0_guardOf_62 hv14 ?_
      refine x_iand (pc := 65) o dX0_guardOf_65 ?_
      refine x_if_ne (pc := 66) (tgt := 73) o dX0_guardOf_66 (by decide) (fun c15 => ?_) (fun c15 => ?_)
      · have h := xif h c15
        refine x_to (l := [(0, .ref (M.2.1 k0)), (1, .int a1), (2, .int a2), (3, .int a3), (4, .int a4), (5, .int a5)]) ⟨rfl, rfl, rfl, rfl, rfl, rfl, trivial⟩ ?_
        exact tX0_guardOf_B73_40 o hnL n k0 a1 a2 a3 a4 a5 S z hrec K R h
      · have h := xit h c15
        refine x_iconst (pc := 69) o dX0_guardOf_69 ic_1 ?_
        refine x_goto (pc := 70) (tgt := 74) o dX0_guardOf_70 (by decide) ?_
        refine x_to (l := [(0, .ref (M.2.1 k0)), (1, .int a1), (2, .int a2), (3, .int a3), (4, .int a4), (5, .int a5)]) ⟨rfl, rfl, rfl, rfl, rfl, rfl, trivial⟩ ?_
        exact tX0_guardOf_B74_40 o hnL n k0 a1 a2 a3 a4 a5 ((1 : Int32)) S z hrec K R h
theorem tX0_guardOf_L40 {Γ : xGm} {M : xMg} (o : xOk Γ tC M 7 cX0_guardOf RX0) (hnL : Γ.2.2.2 = 7) (n : Nat) (k0 : Nat) (a1 : Int32) (a2 : Int32) (a3 : Int32) (a4 : Int32) (z : ((xSt) ⊕ (Int32 × xSt))) (K : ∀ e, z = .inl e → xAt Γ tC M 101 (xlv [(0, .ref (M.2.1 k0)), (1, .int a1), (2, .int a2), (3, .int a3), (4, .int a4)]) [] e) (R : ∀ r, z = .inr r → xRI Γ tC M (some .int) r.1 r.2) : ∀ (q : Nat) (a5 : Int32) (S : xSt), fX0_guardOf_L40 n k0 a1 a2 a3 a4 q a5 S = some z → xAt Γ tC M 40 (xlv [(0, .ref (M.2.1 k0)), (1, .int a1), (2, .int a2), (3, .int a3), (4, .int a4), (5, .int a5)]) [] S := by
  intro q
  induction q with
  | zero => intro a5 S h; cases h
  | succ q ih => intro a5 S h; exact tX0_guardOf_L40b o hnL n k0 a1 a2 a3 a4 a5 S z ih K R h
def fX0_guardOf_L31b (n : Nat) (k0 : Nat) (a1 : Int32) (a2 : Int32) (a3 : Int32) (rec : Int32 → xSt → Option ((xSt) ⊕ (Int32 × xSt))) (a4 : Int32) (S : xSt) : Option ((xSt) ⊕ (Int32 × xSt)) :=
  if ((3 : Int32)) < a4 then
  (some (.inl S))
else
  ((fX0_guardOf_L40 n k0 a1 a2 a3 a4 n ((0 : Int32)) S).bind fun z18 => xel z18 (fun ez18 => (some (a4 + (1 : Int32))).bind fun v19 =>
  rec v19 ez18) (fun r => some (.inr r)))
def fX0_guardOf_L31 (n : Nat) (k0 : Nat) (a1 : Int32) (a2 : Int32) (a3 : Int32) : Nat → Int32 → xSt → Option ((xSt) ⊕ (Int32 × xSt))
  | 0 => fun _ _ => none
  | q + 1 => fX0_guardOf_L31b n k0 a1 a2 a3 (fX0_guardOf_L31 n k0 a1 a2 a3 q)
set_option maxHeartbeats 4000000 in
theorem tX0_guardOf_L31b {Γ : xGm} {M : xMg} (o : xOk Γ tC M 7 cX0_guardOf RX0) (hnL : Γ.2.2.2 = 7) {rec : Int32 → xSt → Option ((xSt) ⊕ (Int32 × xSt))} (n : Nat) (k0 : Nat) (a1 : Int32) (a2 : Int32) (a3 : Int32) (a4 : Int32) (S : xSt) (z : ((xSt) ⊕ (Int32 × xSt))) (hrec : ∀ (a4 : Int32) (S : xSt), rec a4 S = some z → xAt Γ tC M 31 (xlv [(0, .ref (M.2.1 k0)), (1, .int a1), (2, .int a2), (3, .int a3), (4, .int a4)]) [] S) (K : ∀ e, z = .inl e → xAt Γ tC M 107 (xlv []) [] e) (R : ∀ r, z = .inr r → xRI Γ tC M (some .int) r.1 r.2) (h : fX0_guardOf_L31b n k0 a1 a2 a3 rec a4 S = some z) : xAt Γ tC M 31 (xlv [(0, .ref (M.2.1 k0)), (1, .int a1), (2, .int a2), (3, .int a3), (4, .int a4)]) [] S := by
  have hn4 : 4 < Γ.2.2.2 := by omega
  have hn5 : 5 < Γ.2.2.2 := by omega
  unfold fX0_guardOf_L31b at h
  refine x_iload (pc := 31) o dX0_guardOf_31 rfl ?_
  refine x_iconst (pc := 33) o dX0_guardOf_33 ic_3 ?_
  refine x_icmp_gt (pc := 34) (tgt := 107) o dX0_guardOf_34 (by decide) (fun c20 => ?_) (fun c20 => ?_)
  · have h := xit h c20
    refine x_to (l := []) trivial ?_
    exact K _ (Option.some.inj h).symm
  · have h := xif h c20
    refine x_iconst (pc := 37) o dX0_guardOf_37 ic_0 ?_
    refine x_istore (pc := 38) o dX0_guardOf_38 hn5 ?_
    obtain ⟨z18, hz18, h⟩ := xbs h
    refine x_to (l := [(0, .ref (M.2.1 k0)), (1, .int a1), (2, .int a2), (3, .int a3), (4, .int a4), (5, .int ((0 : Int32)))]) ⟨rfl, rfl, rfl, rfl, rfl, rfl, trivial⟩ ?_
    refine tX0_guardOf_L40 o hnL n k0 a1 a2 a3 a4 z18 (fun ez18 he => ?_) (fun r he => ?_) n ((0 : Int32)) S hz18
    · subst he; have h := xel_l h
      obtain ⟨v19, hv19, h⟩ := xbs h
      refine x_iincE (pc := 101) o dX0_guardOf_101 rfl ic_1 hn4 hv19 ?_
      refine x_goto (pc := 104) (tgt := 31) o dX0_guardOf_104 (by decide) ?_
      refine x_to (l := [(0, .ref (M.2.1 k0)), (1, .int a1), (2, .int a2), (3, .int a3), (4, .int v19)]) ⟨rfl, rfl, rfl, rfl, rfl, trivial⟩ ?_
      exact hrec v19 ez18 h
    · subst he; have h := xel_r h
      exact R _ (Option.some.inj h).symm
theorem tX0_guardOf_L31 {Γ : xGm} {M : xMg} (o : xOk Γ tC M 7 cX0_guardOf RX0) (hnL : Γ.2.2.2 = 7) (n : Nat) (k0 : Nat) (a1 : Int32) (a2 : Int32) (a3 : Int32) (z : ((xSt) ⊕ (Int32 × xSt))) (K : ∀ e, z = .inl e → xAt Γ tC M 107 (xlv []) [] e) (R : ∀ r, z = .inr r → xRI Γ tC M (some .int) r.1 r.2) : ∀ (q : Nat) (a4 : Int32) (S : xSt), fX0_guardOf_L31 n k0 a1 a2 a3 q a4 S = some z → xAt Γ tC M 31 (xlv [(0, .ref (M.2.1 k0)), (1, .int a1), (2, .int a2), (3, .int a3), (4, .int a4)]) [] S := by
  intro q
  induction q with
  | zero => intro a4 S h; cases h
  | succ q ih => intro a4 S h; exact tX0_guardOf_L31b o hnL n k0 a1 a2 a3 a4 S z ih K R h
def fX0_guardOf (n : Nat) (k0 : Nat) (a1 : Int32) (a2 : Int32) (S : xSt) : Option (Int32 × xSt) :=
  if tC.1 k0 = 0 then
  ((xgF tC 0 0 k0 S).bind fun r1 =>
  (xgM tC 0 3 k0 S).bind fun r2 =>
  (fX8_isFinished r1 a1 r2 S).bind fun v3 =>
  if v3 = 0 then
  ((xgM tC 0 3 k0 S).bind fun r4 =>
  (fX9_count r4 ((1 : Int32)) S).bind fun v5 =>
  (some (((1 : Int32)) <<< (v5 &&& 31))).bind fun v6 =>
  (fX0_guardOf_L31 n k0 a1 a2 v6 n ((0 : Int32)) S).bind fun z21 => xel z21 (fun ez21 => some ((-1 : Int32), ez21)) (fun r => some r))
else
  (some ((-1 : Int32), S)))
  else none
theorem kX0_guardOf {z : Int32 × xSt} {n : Nat} {k0 : Nat} {a1 : Int32} {a2 : Int32} {S : xSt} (h : fX0_guardOf n k0 a1 a2 S = some z) : tC.1 k0 = 0 := by
  unfold fX0_guardOf at h
  exact (xck h).1
set_option maxHeartbeats 4000000 in
theorem tX0_guardOf (l : Launch) (M : xMg) (A : Nat → Prop) (n : Nat) (k0 : Nat) (a1 : Int32) (a2 : Int32) (S : xSt) (z : Int32 × xSt) (h : fX0_guardOf n k0 a1 a2 S = some z) : xMI l yX0_guardOf cX0_guardOf 7 (some .int) 7 tC M A [.ref (M.2.1 k0), .int a1, .int a2] S z.1 z.2 := by
  refine x_metI (plainFor_of_name (by decide)) tC_ok (Nat.le_of_ble_eq_true rfl) (fun Γ hA hnL hl hr o => ?_)
  subst hA; subst hl
  have o : xOk Γ tC M 7 cX0_guardOf RX0 := o
  unfold fX0_guardOf at h
  obtain ⟨hk0, h⟩ := xck h
  refine x_to (l := [(0, .ref (M.2.1 k0)), (1, .int a1), (2, .int a2)]) ⟨rfl, rfl, rfl, trivial⟩ ?_
  have hn3 : 3 < Γ.2.2.2 := by omega
  have hn4 : 4 < Γ.2.2.2 := by omega
  refine x_aload_n (pc := 0) o dX0_guardOf_0 rfl rfl ?_
  obtain ⟨r1, hr1, h⟩ := xbs h
  refine gX0_33 (pc := 1) o dX0_guardOf_1 hr1 ?_
  refine x_iload_n (pc := 4) o dX0_guardOf_4 rfl rfl ?_
  refine x_aload_n (pc := 5) o dX0_guardOf_5 rfl rfl ?_
  obtain ⟨r2, hr2, h⟩ := xbs h
  refine gX0_29 (pc := 6) o dX0_guardOf_6 hr2 ?_
  obtain ⟨v3, hv3, h⟩ := xbs h
  refine x_callI (pc := 9) (As := [.int a1, .ref (M.2.1 r2)]) (b := r1) (rest := []) o (tX8_isFinished _ M _ r1 a1 r2 S v3 hv3) eX8_isFinished mX0_96 clX8 (kX8_isFinished hv3) (by decide) rfl rfl (Nat.le_of_ble_eq_true rfl) dX0_guardOf_9 ?_
  refine x_if_eq (pc := 12) (tgt := 17) o dX0_guardOf_12 (by decide) (fun c22 => ?_) (fun c22 => ?_)
  · have h := xit h c22
    refine x_iconst (pc := 17) o dX0_guardOf_17 ic_1 ?_
    refine x_aload_n (pc := 18) o dX0_guardOf_18 rfl rfl ?_
    obtain ⟨r4, hr4, h⟩ := xbs h
    refine gX0_29 (pc := 19) o dX0_guardOf_19 hr4 ?_
    refine x_iconst (pc := 22) o dX0_guardOf_22 ic_1 ?_
    obtain ⟨v5, hv5, h⟩ := xbs h
    refine x_callI (pc := 23) (As := [.int ((1 : Int32))]) (b := r4) (rest := [.int ((1 : Int32))]) o (tX9_count _ M _ r4 ((1 : Int32)) S v5 hv5) eX9_count mX0_103 clX9 (kX9_count hv5) (by decide) rfl rfl (Nat.le_of_ble_eq_true rfl) dX0_guardOf_23 ?_
    refine x_ishl (pc := 26) o dX0_guardOf_26 ?_
    obtain ⟨v6, hv6, h⟩ := xbs h
    refine x_istore_nE (pc := 27) o dX0_guardOf_27 rfl hn3 hv6 ?_
    refine x_iconst (pc := 28) o dX0_guardOf_28 ic_0 ?_
    refine x_istore (pc := 29) o dX0_guardOf_29 hn4 ?_
    obtain ⟨z21, hz21, h⟩ := xbs h
    refine x_to (l := [(0, .ref (M.2.1 k0)), (1, .int a1), (2, .int a2), (3, .int v6), (4, .int ((0 : Int32)))]) ⟨rfl, rfl, rfl, rfl, rfl, trivial⟩ ?_
    refine tX0_guardOf_L31 o hnL n k0 a1 a2 v6 z21 (fun ez21 he => ?_) (fun r he => ?_) n ((0 : Int32)) S hz21
    · subst he; have h := xel_l h
      refine x_iconst (pc := 107) o dX0_guardOf_107 ic_m1 ?_
      exact x_ireturn (pc := 108) o hr dX0_guardOf_108 (xr1 h) (xr2 h)
    · subst he; have h := xel_r h
      cases Option.some.inj h
      exact hr
  · have h := xif h c22
    refine x_iconst (pc := 15) o dX0_guardOf_15 ic_m1 ?_
    exact x_ireturn (pc := 16) o hr dX0_guardOf_16 (xr1 h) (xr2 h)
def fX1_clear (k0 : Nat) (S : xSt) : Option (xSt) :=
  if tC.1 k0 = 1 then
  ((xpI tC 1 2 k0 ((0 : Int32)) S).bind fun S1 =>
  (xpI tC 1 3 k0 ((0 : Int32)) S1).bind fun S2 =>
  (xpI tC 1 4 k0 ((0 : Int32)) S2).bind fun S3 =>
  (xpI tC 1 5 k0 ((0 : Int32)) S3).bind fun S4 =>
  (xpI tC 1 6 k0 ((0 : Int32)) S4).bind fun S5 =>
  some S5)
  else none
theorem kX1_clear {z : xSt} {k0 : Nat} {S : xSt} (h : fX1_clear k0 S = some z) : tC.1 k0 = 1 := by
  unfold fX1_clear at h
  exact (xck h).1
set_option maxHeartbeats 4000000 in
theorem tX1_clear (l : Launch) (M : xMg) (A : Nat → Prop) (k0 : Nat) (S : xSt) (z : xSt) (h : fX1_clear k0 S = some z) : xMV l yX1_clear cX1_clear 1 none 1 tC M A [.ref (M.2.1 k0)] S z := by
  refine x_metV (plainFor_of_name (by decide)) tC_ok (Nat.le_of_ble_eq_true rfl) (fun Γ hA hnL hl hr o => ?_)
  subst hA; subst hl
  have o : xOk Γ tC M 1 cX1_clear RX1 := o
  unfold fX1_clear at h
  obtain ⟨hk0, h⟩ := xck h
  refine x_to (l := [(0, .ref (M.2.1 k0))]) ⟨rfl, trivial⟩ ?_
  refine x_aload_n (pc := 0) o dX1_clear_0 rfl rfl ?_
  refine x_iconst (pc := 1) o dX1_clear_1 ic_0 ?_
  obtain ⟨S1, hS1, h⟩ := xbs h
  refine pX1_18 (pc := 2) o dX1_clear_2 hS1 ?_
  refine x_aload_n (pc := 5) o dX1_clear_5 rfl rfl ?_
  refine x_iconst (pc := 6) o dX1_clear_6 ic_0 ?_
  obtain ⟨S2, hS2, h⟩ := xbs h
  refine pX1_22 (pc := 7) o dX1_clear_7 hS2 ?_
  refine x_aload_n (pc := 10) o dX1_clear_10 rfl rfl ?_
  refine x_iconst (pc := 11) o dX1_clear_11 ic_0 ?_
  obtain ⟨S3, hS3, h⟩ := xbs h
  refine pX1_25 (pc := 12) o dX1_clear_12 hS3 ?_
  refine x_aload_n (pc := 15) o dX1_clear_15 rfl rfl ?_
  refine x_iconst (pc := 16) o dX1_clear_16 ic_0 ?_
  obtain ⟨S4, hS4, h⟩ := xbs h
  refine pX1_28 (pc := 17) o dX1_clear_17 hS4 ?_
  refine x_aload_n (pc := 20) o dX1_clear_20 rfl rfl ?_
  refine x_iconst (pc := 21) o dX1_clear_21 ic_0 ?_
  obtain ⟨S5, hS5, h⟩ := xbs h
  refine pX1_31 (pc := 22) o dX1_clear_22 hS5 ?_
  exact x_vreturn (pc := 25) o hr dX1_clear_25 (Option.some.inj h)
def fX1_put (k0 : Nat) (a1 : Int32) (a2 : Int32) (S : xSt) : Option (Int32 × xSt) :=
  if tC.1 k0 = 1 then
  ((xgI tC 1 2 k0 S).bind fun v1 =>
  (xgF tC 1 0 k0 S).bind fun r2 =>
  (xlen tC r2).bind fun v3 =>
  if v3 ≤ v1 then
  (some ((1 : Int32), S))
else
  ((xgF tC 1 0 k0 S).bind fun r4 =>
  (xgI tC 1 2 k0 S).bind fun v5 =>
  (xas tC r4 v5 ((a2 <<< (((5 : Int32)) &&& 31)) ||| a1) S).bind fun S6 =>
  (xgI tC 1 2 k0 S6).bind fun v7 =>
  (xpI tC 1 2 k0 (v7 + ((1 : Int32))) S6).bind fun S8 =>
  some ((1 : Int32), S8)))
  else none
theorem kX1_put {z : Int32 × xSt} {k0 : Nat} {a1 : Int32} {a2 : Int32} {S : xSt} (h : fX1_put k0 a1 a2 S = some z) : tC.1 k0 = 1 := by
  unfold fX1_put at h
  exact (xck h).1
set_option maxHeartbeats 4000000 in
theorem tX1_put (l : Launch) (M : xMg) (A : Nat → Prop) (k0 : Nat) (a1 : Int32) (a2 : Int32) (S : xSt) (z : Int32 × xSt) (h : fX1_put k0 a1 a2 S = some z) : xMI l yX1_put cX1_put 3 (some .boolean) 1 tC M A [.ref (M.2.1 k0), .int a1, .int a2] S z.1 z.2 := by
  refine x_metI (plainFor_of_name (by decide)) tC_ok (Nat.le_of_ble_eq_true rfl) (fun Γ hA hnL hl hr o => ?_)
  subst hA; subst hl
  have o : xOk Γ tC M 1 cX1_put RX1 := o
  unfold fX1_put at h
  obtain ⟨hk0, h⟩ := xck h
  refine x_to (l := [(0, .ref (M.2.1 k0)), (1, .int a1), (2, .int a2)]) ⟨rfl, rfl, rfl, trivial⟩ ?_
  refine x_aload_n (pc := 0) o dX1_put_0 rfl rfl ?_
  obtain ⟨v1, hv1, h⟩ := xbs h
  refine gX1_18 (pc := 1) o dX1_put_1 hv1 ?_
  refine x_aload_n (pc := 4) o dX1_put_4 rfl rfl ?_
  obtain ⟨r2, hr2, h⟩ := xbs h
  refine gX1_9 (pc := 5) o dX1_put_5 hr2 ?_
  obtain ⟨v3, hv3, h⟩ := xbs h
  refine x_arraylength (pc := 8) o dX1_put_8 hv3 ?_
  refine x_icmp_ge (pc := 9) (tgt := 36) o dX1_put_9 (by decide) (fun c9 => ?_) (fun c9 => ?_)
  · have h := xit h c9
    refine x_iconst (pc := 36) o dX1_put_36 ic_1 ?_
    exact x_zreturn (pc := 37) o hr dX1_put_37 (by decide) (xr1 h) (xr2 h)
  · have h := xif h c9
    refine x_aload_n (pc := 12) o dX1_put_12 rfl rfl ?_
    obtain ⟨r4, hr4, h⟩ := xbs h
    refine gX1_9 (pc := 13) o dX1_put_13 hr4 ?_
    refine x_aload_n (pc := 16) o dX1_put_16 rfl rfl ?_
    obtain ⟨v5, hv5, h⟩ := xbs h
    refine gX1_18 (pc := 17) o dX1_put_17 hv5 ?_
    refine x_iload_n (pc := 20) o dX1_put_20 rfl rfl ?_
    refine x_iconst (pc := 21) o dX1_put_21 ic_5 ?_
    refine x_ishl (pc := 22) o dX1_put_22 ?_
    refine x_iload_n (pc := 23) o dX1_put_23 rfl rfl ?_
    refine x_ior (pc := 24) o dX1_put_24 ?_
    obtain ⟨S6, hS6, h⟩ := xbs h
    refine x_iastore (pc := 25) o dX1_put_25 hS6 ?_
    refine x_aload_n (pc := 26) o dX1_put_26 rfl rfl ?_
    refine x_dup (pc := 27) o dX1_put_27 rfl ?_
    obtain ⟨v7, hv7, h⟩ := xbs h
    refine gX1_18 (pc := 28) o dX1_put_28 hv7 ?_
    refine x_iconst (pc := 31) o dX1_put_31 ic_1 ?_
    refine x_iadd (pc := 32) o dX1_put_32 ?_
    obtain ⟨S8, hS8, h⟩ := xbs h
    refine pX1_18 (pc := 33) o dX1_put_33 hS8 ?_
    refine x_iconst (pc := 36) o dX1_put_36 ic_1 ?_
    exact x_zreturn (pc := 37) o hr dX1_put_37 (by decide) (xr1 h) (xr2 h)
def fX2_isBetter (a0 : Int32) (a1 : Int32) (a2 : Int32) (k3 : Nat) (S : xSt) : Option (Int32) :=
  (fX8_knownBy k3 a0 a1 S).bind fun v1 =>
  (fX8_knownBy k3 a0 a2 S).bind fun v2 =>
  if v1 ≤ v2 then
  (some ((0 : Int32)))
else
  (some ((1 : Int32)))
set_option maxHeartbeats 4000000 in
theorem tX2_isBetter (l : Launch) (M : xMg) (A : Nat → Prop) (a0 : Int32) (a1 : Int32) (a2 : Int32) (k3 : Nat) (S : xSt) (z : Int32) (h : fX2_isBetter a0 a1 a2 k3 S = some z) : xMI l yX2_isBetter cX2_isBetter 4 (some .boolean) 2 tC M A [.int a0, .int a1, .int a2, .ref (M.2.1 k3)] S z S := by
  refine x_metI (plainFor_of_name (by decide)) tC_ok (Nat.le_of_ble_eq_true rfl) (fun Γ hA hnL hl hr o => ?_)
  subst hA; subst hl
  have o : xOk Γ tC M 2 cX2_isBetter RX2 := o
  unfold fX2_isBetter at h
  refine x_to (l := [(0, .int a0), (1, .int a1), (2, .int a2), (3, .ref (M.2.1 k3))]) ⟨rfl, rfl, rfl, rfl, trivial⟩ ?_
  refine x_aload_n (pc := 0) o dX2_isBetter_0 rfl rfl ?_
  refine x_iload_n (pc := 1) o dX2_isBetter_1 rfl rfl ?_
  refine x_iload_n (pc := 2) o dX2_isBetter_2 rfl rfl ?_
  obtain ⟨v1, hv1, h⟩ := xbs h
  refine x_callI (pc := 3) (As := [.int a0, .int a1]) (b := k3) (rest := []) o (tX8_knownBy _ M _ k3 a0 a1 S v1 hv1) eX8_knownBy mX2_47 clX8 (kX8_knownBy hv1) (by decide) rfl rfl (Nat.le_of_ble_eq_true rfl) dX2_isBetter_3 ?_
  refine x_aload_n (pc := 6) o dX2_isBetter_6 rfl rfl ?_
  refine x_iload_n (pc := 7) o dX2_isBetter_7 rfl rfl ?_
  refine x_iload_n (pc := 8) o dX2_isBetter_8 rfl rfl ?_
  obtain ⟨v2, hv2, h⟩ := xbs h
  refine x_callI (pc := 9) (As := [.int a0, .int a2]) (b := k3) (rest := [.int v1]) o (tX8_knownBy _ M _ k3 a0 a2 S v2 hv2) eX8_knownBy mX2_47 clX8 (kX8_knownBy hv2) (by decide) rfl rfl (Nat.le_of_ble_eq_true rfl) dX2_isBetter_9 ?_
  refine x_icmp_le (pc := 12) (tgt := 19) o dX2_isBetter_12 (by decide) (fun c3 => ?_) (fun c3 => ?_)
  · have h := xit h c3
    refine x_iconst (pc := 19) o dX2_isBetter_19 ic_0 ?_
    exact x_zreturn (pc := 20) o hr dX2_isBetter_20 (by decide) (Option.some.inj h) rfl
  · have h := xif h c3
    refine x_iconst (pc := 15) o dX2_isBetter_15 ic_1 ?_
    refine x_goto (pc := 16) (tgt := 20) o dX2_isBetter_16 (by decide) ?_
    exact x_zreturn (pc := 20) o hr dX2_isBetter_20 (by decide) (Option.some.inj h) rfl
def fX2_pointAll_B49_18 (n : Nat) (rec : Int32 → xSt → Option (xSt)) (k0 : Nat) (a1 : Int32) (k2 : Nat) (a3 : Int32) (a4 : Int32) (s0 : Int32) (S : xSt) : Option (xSt) :=
  if s0 = 0 then
  ((some (a4 + (1 : Int32))).bind fun v3 =>
  rec v3 S)
else
  ((xgF tC 2 3 k0 S).bind fun r4 =>
  (xal tC r4 a3 S).bind fun v5 =>
  (fX2_isBetter a3 a4 v5 k2 S).bind fun v6 =>
  if v6 = 0 then
  ((some (a4 + (1 : Int32))).bind fun v7 =>
  rec v7 S)
else
  ((xgF tC 2 3 k0 S).bind fun r8 =>
  (xas tC r8 a3 a4 S).bind fun S9 =>
  (some (a4 + (1 : Int32))).bind fun v10 =>
  rec v10 S9))
set_option maxHeartbeats 4000000 in
theorem tX2_pointAll_B49_18 {Γ : xGm} {M : xMg} (o : xOk Γ tC M 3 cX2_pointAll RX2) (hnL : Γ.2.2.2 = 6) {rec : Int32 → xSt → Option (xSt)} (n : Nat) (k0 : Nat) (a1 : Int32) (k2 : Nat) (a3 : Int32) (a4 : Int32) (s0 : Int32) (S : xSt) (z : (xSt)) (hrec : ∀ (a4 : Int32) (S : xSt), rec a4 S = some z → xAt Γ tC M 18 (xlv [(0, .ref (M.2.1 k0)), (1, .int a1), (2, .ref (M.2.1 k2)), (3, .int a3), (4, .int a4)]) [] S) (K : xAt Γ tC M 86 (xlv [(0, .ref (M.2.1 k0)), (1, .int a1), (2, .ref (M.2.1 k2)), (3, .int a3)]) [] z) (h : fX2_pointAll_B49_18 n rec k0 a1 k2 a3 a4 s0 S = some z) : xAt Γ tC M 49 (xlv [(0, .ref (M.2.1 k0)), (1, .int a1), (2, .ref (M.2.1 k2)), (3, .int a3), (4, .int a4)]) [.int s0] S := by
  have hn4 : 4 < Γ.2.2.2 := by omega
  have hn5 : 5 < Γ.2.2.2 := by omega
  unfold fX2_pointAll_B49_18 at h
  refine x_istore (pc := 49) o dX2_pointAll_49 hn5 ?_
  refine x_iload (pc := 51) o dX2_pointAll_51 rfl ?_
  refine x_if_eq (pc := 53) (tgt := 80) o dX2_pointAll_53 (by decide) (fun c12 => ?_) (fun c12 => ?_)
  · have h := xit h c12
    obtain ⟨v3, hv3, h⟩ := xbs h
    refine x_iincE (pc := 80) o dX2_pointAll_80 rfl ic_1 hn4 hv3 ?_
    refine x_goto (pc := 83) (tgt := 18) o dX2_pointAll_83 (by decide) ?_
    refine x_to (l := [(0, .ref (M.2.1 k0)), (1, .int a1), (2, .ref (M.2.1 k2)), (3, .int a3), (4, .int v3)]) ⟨rfl, rfl, rfl, rfl, rfl, trivial⟩ ?_
    exact hrec v3 S h
  · have h := xif h c12
    refine x_iload_n (pc := 56) o dX2_pointAll_56 rfl rfl ?_
    refine x_iload (pc := 57) o dX2_pointAll_57 rfl ?_
    refine x_aload_n (pc := 59) o dX2_pointAll_59 rfl rfl ?_
    obtain ⟨r4, hr4, h⟩ := xbs h
    refine gX2_21 (pc := 60) o dX2_pointAll_60 hr4 ?_
    refine x_iload_n (pc := 63) o dX2_pointAll_63 rfl rfl ?_
    obtain ⟨v5, hv5, h⟩ := xbs h
    refine x_iaload (pc := 64) o dX2_pointAll_64 hv5 ?_
    refine x_aload_n (pc := 65) o dX2_pointAll_65 rfl rfl ?_
    obtain ⟨v6, hv6, h⟩ := xbs h
    refine x_statI (pc := 66) (As := [.int a3, .int a4, .int v5, .ref (M.2.1 k2)]) (rest := []) o (tX2_isBetter _ M _ a3 a4 v5 k2 S v6 hv6) eX2_isBetter mX2_43 (by decide) rfl rfl (Nat.le_of_ble_eq_true rfl) dX2_pointAll_66 ?_
    refine x_if_eq (pc := 69) (tgt := 80) o dX2_pointAll_69 (by decide) (fun c11 => ?_) (fun c11 => ?_)
    · have h := xit h c11
      obtain ⟨v7, hv7, h⟩ := xbs h
      refine x_iincE (pc := 80) o dX2_pointAll_80 rfl ic_1 hn4 hv7 ?_
      refine x_goto (pc := 83) (tgt := 18) o dX2_pointAll_83 (by decide) ?_
      refine x_to (l := [(0, .ref (M.2.1 k0)), (1, .int a1), (2, .ref (M.2.1 k2)), (3, .int a3), (4, .int v7)]) ⟨rfl, rfl, rfl, rfl, rfl, trivial⟩ ?_
      exact hrec v7 S h
    · have h := xif h c11
      refine x_aload_n (pc := 72) o dX2_pointAll_72 rfl rfl ?_
      obtain ⟨r8, hr8, h⟩ := xbs h
      refine gX2_21 (pc := 73) o dX2_pointAll_73 hr8 ?_
      refine x_iload_n (pc := 76) o dX2_pointAll_76 rfl rfl ?_
      refine x_iload (pc := 77) o dX2_pointAll_77 rfl ?_
      obtain ⟨S9, hS9, h⟩ := xbs h
      refine x_iastore (pc := 79) o dX2_pointAll_79 hS9 ?_
      obtain ⟨v10, hv10, h⟩ := xbs h
      refine x_iincE (pc := 80) o dX2_pointAll_80 rfl ic_1 hn4 hv10 ?_
      refine x_goto (pc := 83) (tgt := 18) o dX2_pointAll_83 (by decide) ?_
      refine x_to (l := [(0, .ref (M.2.1 k0)), (1, .int a1), (2, .ref (M.2.1 k2)), (3, .int a3), (4, .int v10)]) ⟨rfl, rfl, rfl, rfl, rfl, trivial⟩ ?_
      exact hrec v10 S9 h
def fX2_pointAll_B48_18 (n : Nat) (rec : Int32 → xSt → Option (xSt)) (k0 : Nat) (a1 : Int32) (k2 : Nat) (a3 : Int32) (a4 : Int32) (S : xSt) : Option (xSt) :=
  fX2_pointAll_B49_18 n rec k0 a1 k2 a3 a4 ((0 : Int32)) S
set_option maxHeartbeats 4000000 in
theorem tX2_pointAll_B48_18 {Γ : xGm} {M : xMg} (o : xOk Γ tC M 3 cX2_pointAll RX2) (hnL : Γ.2.2.2 = 6) {rec : Int32 → xSt → Option (xSt)} (n : Nat) (k0 : Nat) (a1 : Int32) (k2 : Nat) (a3 : Int32) (a4 : Int32) (S : xSt) (z : (xSt)) (hrec : ∀ (a4 : Int32) (S : xSt), rec a4 S = some z → xAt Γ tC M 18 (xlv [(0, .ref (M.2.1 k0)), (1, .int a1), (2, .ref (M.2.1 k2)), (3, .int a3), (4, .int a4)]) [] S) (K : xAt Γ tC M 86 (xlv [(0, .ref (M.2.1 k0)), (1, .int a1), (2, .ref (M.2.1 k2)), (3, .int a3)]) [] z) (h : fX2_pointAll_B48_18 n rec k0 a1 k2 a3 a4 S = some z) : xAt Γ tC M 48 (xlv [(0, .ref (M.2.1 k0)), (1, .int a1), (2, .ref (M.2.1 k2)), (3, .int a3), (4, .int a4)]) [] S := by
  unfold fX2_pointAll_B48_18 at h
  refine x_iconst (pc := 48) o dX2_pointAll_48 ic_0 ?_
  refine x_to (l := [(0, .ref (M.2.1 k0)), (1, .int a1), (2, .ref (M.2.1 k2)), (3, .int a3), (4, .int a4)]) ⟨rfl, rfl, rfl, rfl, rfl, trivial⟩ ?_
  exact tX2_pointAll_B49_18 o hnL n k0 a1 k2 a3 a4 ((0 : Int32)) S z hrec K  h
def fX2_pointAll_L18b (n : Nat) (k0 : Nat) (a1 : Int32) (k2 : Nat) (a3 : Int32) (rec : Int32 → xSt → Option (xSt)) (a4 : Int32) (S : xSt) : Option (xSt) :=
  if ((6 : Int32)) ≤ a4 then
  (some S)
else
  (if ((a1 >>> (a3 &&& 31)) &&& ((1 : Int32))) = ((1 : Int32)) then
  (if ((a1 >>> (a4 &&& 31)) &&& ((1 : Int32))) = ((1 : Int32)) then
  (fX2_pointAll_B49_18 n rec k0 a1 k2 a3 a4 ((1 : Int32)) S)
else
  (fX2_pointAll_B48_18 n rec k0 a1 k2 a3 a4 S))
else
  (fX2_pointAll_B48_18 n rec k0 a1 k2 a3 a4 S))
def fX2_pointAll_L18 (n : Nat) (k0 : Nat) (a1 : Int32) (k2 : Nat) (a3 : Int32) : Nat → Int32 → xSt → Option (xSt)
  | 0 => fun _ _ => none
  | q + 1 => fX2_pointAll_L18b n k0 a1 k2 a3 (fX2_pointAll_L18 n k0 a1 k2 a3 q)
set_option maxHeartbeats 4000000 in
theorem tX2_pointAll_L18b {Γ : xGm} {M : xMg} (o : xOk Γ tC M 3 cX2_pointAll RX2) (hnL : Γ.2.2.2 = 6) {rec : Int32 → xSt → Option (xSt)} (n : Nat) (k0 : Nat) (a1 : Int32) (k2 : Nat) (a3 : Int32) (a4 : Int32) (S : xSt) (z : (xSt)) (hrec : ∀ (a4 : Int32) (S : xSt), rec a4 S = some z → xAt Γ tC M 18 (xlv [(0, .ref (M.2.1 k0)), (1, .int a1), (2, .ref (M.2.1 k2)), (3, .int a3), (4, .int a4)]) [] S) (K : xAt Γ tC M 86 (xlv [(0, .ref (M.2.1 k0)), (1, .int a1), (2, .ref (M.2.1 k2)), (3, .int a3)]) [] z) (h : fX2_pointAll_L18b n k0 a1 k2 a3 rec a4 S = some z) : xAt Γ tC M 18 (xlv [(0, .ref (M.2.1 k0)), (1, .int a1), (2, .ref (M.2.1 k2)), (3, .int a3), (4, .int a4)]) [] S := by
  unfold fX2_pointAll_L18b at h
  refine x_iload (pc := 18) o dX2_pointAll_18 rfl ?_
  refine x_bipush (pc := 20) o dX2_pointAll_20 bp_6 ?_
  refine x_icmp_ge (pc := 22) (tgt := 86) o dX2_pointAll_22 (by decide) (fun c15 => ?_) (fun c15 => ?_)
  · have h := xit h c15
    refine x_to (l := [(0, .ref (M.2.1 k0)), (1, .int a1), (2, .ref (M.2.1 k2)), (3, .int a3)]) ⟨rfl, rfl, rfl, rfl, trivial⟩ ?_
    cases Option.some.inj h
    exact K
  · have h := xif h c15
    refine x_iload_n (pc := 25) o dX2_pointAll_25 rfl rfl ?_
    refine x_iload_n (pc := 26) o dX2_pointAll_26 rfl rfl ?_
    refine x_ishr (pc := 27) o dX2_pointAll_27 ?_
    refine x_iconst (pc := 28) o dX2_pointAll_28 ic_1 ?_
    refine x_iand (pc := 29) o dX2_pointAll_29 ?_
    refine x_iconst (pc := 30) o dX2_pointAll_30 ic_1 ?_
    refine x_icmp_ne (pc := 31) (tgt := 48) o dX2_pointAll_31 (by decide) (fun c14 => ?_) (fun c14 => ?_)
    · have h := xif h c14
      refine x_to (l := [(0, .ref (M.2.1 k0)), (1, .int a1), (2, .ref (M.2.1 k2)), (3, .int a3), (4, .int a4)]) ⟨rfl, rfl, rfl, rfl, rfl, trivial⟩ ?_
      exact tX2_pointAll_B48_18 o hnL n k0 a1 k2 a3 a4 S z hrec K  h
    · have h := xit h c14
      refine x_iload_n (pc := 34) o dX2_pointAll_34 rfl rfl ?_
      refine x_iload (pc := 35) o dX2_pointAll_35 rfl ?_
      refine x_ishr (pc := 37) o dX2_pointAll_37 ?_
      refine x_iconst (pc := 38) o dX2_pointAll_38 ic_1 ?_
      refine x_iand (pc := 39) o dX2_pointAll_39 ?_
      refine x_iconst (pc := 40) o dX2_pointAll_40 ic_1 ?_
      refine x_icmp_ne (pc := 41) (tgt := 48) o dX2_pointAll_41 (by decide) (fun c13 => ?_) (fun c13 => ?_)
      · have h := xif h c13
        refine x_to (l := [(0, .ref (M.2.1 k0)), (1, .int a1), (2, .ref (M.2.1 k2)), (3, .int a3), (4, .int a4)]) ⟨rfl, rfl, rfl, rfl, rfl, trivial⟩ ?_
        exact tX2_pointAll_B48_18 o hnL n k0 a1 k2 a3 a4 S z hrec K  h
      · have h := xit h c13
        refine x_iconst (pc := 44) o dX2_pointAll_44 ic_1 ?_
        refine x_goto (pc := 45) (tgt := 49) o dX2_pointAll_45 (by decide) ?_
        refine x_to (l := [(0, .ref (M.2.1 k0)), (1, .int a1), (2, .ref (M.2.1 k2)), (3, .int a3), (4, .int a4)]) ⟨rfl, rfl, rfl, rfl, rfl, trivial⟩ ?_
        exact tX2_pointAll_B49_18 o hnL n k0 a1 k2 a3 a4 ((1 : Int32)) S z hrec K  h
theorem tX2_pointAll_L18 {Γ : xGm} {M : xMg} (o : xOk Γ tC M 3 cX2_pointAll RX2) (hnL : Γ.2.2.2 = 6) (n : Nat) (k0 : Nat) (a1 : Int32) (k2 : Nat) (a3 : Int32) (z : (xSt)) (K : xAt Γ tC M 86 (xlv [(0, .ref (M.2.1 k0)), (1, .int a1), (2, .ref (M.2.1 k2)), (3, .int a3)]) [] z) : ∀ (q : Nat) (a4 : Int32) (S : xSt), fX2_pointAll_L18 n k0 a1 k2 a3 q a4 S = some z → xAt Γ tC M 18 (xlv [(0, .ref (M.2.1 k0)), (1, .int a1), (2, .ref (M.2.1 k2)), (3, .int a3), (4, .int a4)]) [] S := by
  intro q
  induction q with
  | zero => intro a4 S h; cases h
  | succ q ih => intro a4 S h; exact tX2_pointAll_L18b o hnL n k0 a1 k2 a3 a4 S z ih K h
def fX2_pointAll_L2b (n : Nat) (k0 : Nat) (a1 : Int32) (k2 : Nat) (rec : Int32 → xSt → Option (xSt)) (a3 : Int32) (S : xSt) : Option (xSt) :=
  if ((6 : Int32)) ≤ a3 then
  (some S)
else
  ((xgF tC 2 3 k0 S).bind fun r1 =>
  (xas tC r1 a3 a3 S).bind fun S2 =>
  (fX2_pointAll_L18 n k0 a1 k2 a3 n ((0 : Int32)) S2).bind fun z16 => (some (a3 + (1 : Int32))).bind fun v17 =>
  rec v17 z16)
def fX2_pointAll_L2 (n : Nat) (k0 : Nat) (a1 : Int32) (k2 : Nat) : Nat → Int32 → xSt → Option (xSt)
  | 0 => fun _ _ => none
  | q + 1 => fX2_pointAll_L2b n k0 a1 k2 (fX2_pointAll_L2 n k0 a1 k2 q)
set_option maxHeartbeats 4000000 in
theorem tX2_pointAll_L2b {Γ : xGm} {M : xMg} (o : xOk Γ tC M 3 cX2_pointAll RX2) (hnL : Γ.2.2.2 = 6) {rec : Int32 → xSt → Option (xSt)} (n : Nat) (k0 : Nat) (a1 : Int32) (k2 : Nat) (a3 : Int32) (S : xSt) (z : (xSt)) (hrec : ∀ (a3 : Int32) (S : xSt), rec a3 S = some z → xAt Γ tC M 2 (xlv [(0, .ref (M.2.1 k0)), (1, .int a1), (2, .ref (M.2.1 k2)), (3, .int a3)]) [] S) (K : xAt Γ tC M 92 (xlv []) [] z) (h : fX2_pointAll_L2b n k0 a1 k2 rec a3 S = some z) : xAt Γ tC M 2 (xlv [(0, .ref (M.2.1 k0)), (1, .int a1), (2, .ref (M.2.1 k2)), (3, .int a3)]) [] S := by
  have hn3 : 3 < Γ.2.2.2 := by omega
  have hn4 : 4 < Γ.2.2.2 := by omega
  unfold fX2_pointAll_L2b at h
  refine x_iload_n (pc := 2) o dX2_pointAll_2 rfl rfl ?_
  refine x_bipush (pc := 3) o dX2_pointAll_3 bp_6 ?_
  refine x_icmp_ge (pc := 5) (tgt := 92) o dX2_pointAll_5 (by decide) (fun c18 => ?_) (fun c18 => ?_)
  · have h := xit h c18
    refine x_to (l := []) trivial ?_
    cases Option.some.inj h
    exact K
  · have h := xif h c18
    refine x_aload_n (pc := 8) o dX2_pointAll_8 rfl rfl ?_
    obtain ⟨r1, hr1, h⟩ := xbs h
    refine gX2_21 (pc := 9) o dX2_pointAll_9 hr1 ?_
    refine x_iload_n (pc := 12) o dX2_pointAll_12 rfl rfl ?_
    refine x_iload_n (pc := 13) o dX2_pointAll_13 rfl rfl ?_
    obtain ⟨S2, hS2, h⟩ := xbs h
    refine x_iastore (pc := 14) o dX2_pointAll_14 hS2 ?_
    refine x_iconst (pc := 15) o dX2_pointAll_15 ic_0 ?_
    refine x_istore (pc := 16) o dX2_pointAll_16 hn4 ?_
    obtain ⟨z16, hz16, h⟩ := xbs h
    refine x_to (l := [(0, .ref (M.2.1 k0)), (1, .int a1), (2, .ref (M.2.1 k2)), (3, .int a3), (4, .int ((0 : Int32)))]) ⟨rfl, rfl, rfl, rfl, rfl, trivial⟩ ?_
    refine tX2_pointAll_L18 o hnL n k0 a1 k2 a3 z16 ?_ n ((0 : Int32)) S2 hz16
    obtain ⟨v17, hv17, h⟩ := xbs h
    refine x_iincE (pc := 86) o dX2_pointAll_86 rfl ic_1 hn3 hv17 ?_
    refine x_goto (pc := 89) (tgt := 2) o dX2_pointAll_89 (by decide) ?_
    refine x_to (l := [(0, .ref (M.2.1 k0)), (1, .int a1), (2, .ref (M.2.1 k2)), (3, .int v17)]) ⟨rfl, rfl, rfl, rfl, trivial⟩ ?_
    exact hrec v17 z16 h
theorem tX2_pointAll_L2 {Γ : xGm} {M : xMg} (o : xOk Γ tC M 3 cX2_pointAll RX2) (hnL : Γ.2.2.2 = 6) (n : Nat) (k0 : Nat) (a1 : Int32) (k2 : Nat) (z : (xSt)) (K : xAt Γ tC M 92 (xlv []) [] z) : ∀ (q : Nat) (a3 : Int32) (S : xSt), fX2_pointAll_L2 n k0 a1 k2 q a3 S = some z → xAt Γ tC M 2 (xlv [(0, .ref (M.2.1 k0)), (1, .int a1), (2, .ref (M.2.1 k2)), (3, .int a3)]) [] S := by
  intro q
  induction q with
  | zero => intro a3 S h; cases h
  | succ q ih => intro a3 S h; exact tX2_pointAll_L2b o hnL n k0 a1 k2 a3 S z ih K h
def fX2_pointAll (n : Nat) (k0 : Nat) (a1 : Int32) (k2 : Nat) (S : xSt) : Option (xSt) :=
  if tC.1 k0 = 2 then
  ((fX2_pointAll_L2 n k0 a1 k2 n ((0 : Int32)) S).bind fun z19 => some z19)
  else none
theorem kX2_pointAll {z : xSt} {n : Nat} {k0 : Nat} {a1 : Int32} {k2 : Nat} {S : xSt} (h : fX2_pointAll n k0 a1 k2 S = some z) : tC.1 k0 = 2 := by
  unfold fX2_pointAll at h
  exact (xck h).1
set_option maxHeartbeats 4000000 in
theorem tX2_pointAll (l : Launch) (M : xMg) (A : Nat → Prop) (n : Nat) (k0 : Nat) (a1 : Int32) (k2 : Nat) (S : xSt) (z : xSt) (h : fX2_pointAll n k0 a1 k2 S = some z) : xMV l yX2_pointAll cX2_pointAll 6 none 3 tC M A [.ref (M.2.1 k0), .int a1, .ref (M.2.1 k2)] S z := by
  refine x_metV (plainFor_of_name (by decide)) tC_ok (Nat.le_of_ble_eq_true rfl) (fun Γ hA hnL hl hr o => ?_)
  subst hA; subst hl
  have o : xOk Γ tC M 3 cX2_pointAll RX2 := o
  unfold fX2_pointAll at h
  obtain ⟨hk0, h⟩ := xck h
  refine x_to (l := [(0, .ref (M.2.1 k0)), (1, .int a1), (2, .ref (M.2.1 k2))]) ⟨rfl, rfl, rfl, trivial⟩ ?_
  have hn3 : 3 < Γ.2.2.2 := by omega
  refine x_iconst (pc := 0) o dX2_pointAll_0 ic_0 ?_
  refine x_istore_n (pc := 1) o dX2_pointAll_1 rfl hn3 ?_
  obtain ⟨z19, hz19, h⟩ := xbs h
  refine x_to (l := [(0, .ref (M.2.1 k0)), (1, .int a1), (2, .ref (M.2.1 k2)), (3, .int ((0 : Int32)))]) ⟨rfl, rfl, rfl, rfl, trivial⟩ ?_
  refine tX2_pointAll_L2 o hnL n k0 a1 k2 z19 ?_ n ((0 : Int32)) S hz19
  exact x_vreturn (pc := 92) o hr dX2_pointAll_92 (Option.some.inj h)
def fX2_ringSize_L4b (n : Nat) (k0 : Nat) (a1 : Int32) (S : xSt) (rec : Int32 → Int32 → Option ((Unit) ⊕ (Int32))) (a2 : Int32) (a3 : Int32) : Option ((Unit) ⊕ (Int32)) :=
  if ((6 : Int32)) < a3 then
  (some (.inl ()))
else
  (if a2 < 0 then
  (some (.inr ((0 : Int32))))
else
  (if a2 < ((6 : Int32)) then
  ((xgF tC 2 3 k0 S).bind fun r1 =>
  (xal tC r1 a2 S).bind fun v2 =>
  if v2 = a1 then
  (some (.inr a3))
else
  ((some (a3 + (1 : Int32))).bind fun v3 =>
  rec v2 v3))
else
  (some (.inr ((0 : Int32))))))
def fX2_ringSize_L4 (n : Nat) (k0 : Nat) (a1 : Int32) (S : xSt) : Nat → Int32 → Int32 → Option ((Unit) ⊕ (Int32))
  | 0 => fun _ _ => none
  | q + 1 => fX2_ringSize_L4b n k0 a1 S (fX2_ringSize_L4 n k0 a1 S q)
set_option maxHeartbeats 4000000 in
theorem tX2_ringSize_L4b {Γ : xGm} {M : xMg} (o : xOk Γ tC M 1 cX2_ringSize RX2) (hnL : Γ.2.2.2 = 4) {rec : Int32 → Int32 → Option ((Unit) ⊕ (Int32))} (n : Nat) (k0 : Nat) (a1 : Int32) (S : xSt) (a2 : Int32) (a3 : Int32) (z : ((Unit) ⊕ (Int32))) (hrec : ∀ (a2 : Int32) (a3 : Int32), rec a2 a3 = some z → xAt Γ tC M 4 (xlv [(0, .ref (M.2.1 k0)), (1, .int a1), (2, .int a2), (3, .int a3)]) [] S) (K : ∀ e, z = .inl e → xAt Γ tC M 42 (xlv []) [] S) (R : ∀ r, z = .inr r → xRI Γ tC M (some .int) r S) (h : fX2_ringSize_L4b n k0 a1 S rec a2 a3 = some z) : xAt Γ tC M 4 (xlv [(0, .ref (M.2.1 k0)), (1, .int a1), (2, .int a2), (3, .int a3)]) [] S := by
  have hn2 : 2 < Γ.2.2.2 := by omega
  have hn3 : 3 < Γ.2.2.2 := by omega
  unfold fX2_ringSize_L4b at h
  refine x_iload_n (pc := 4) o dX2_ringSize_4 rfl rfl ?_
  refine x_bipush (pc := 5) o dX2_ringSize_5 bp_6 ?_
  refine x_icmp_gt (pc := 7) (tgt := 42) o dX2_ringSize_7 (by decide) (fun c7 => ?_) (fun c7 => ?_)
  · have h := xit h c7
    refine x_to (l := []) trivial ?_
    exact K _ (Option.some.inj h).symm
  · have h := xif h c7
    refine x_iload_n (pc := 10) o dX2_ringSize_10 rfl rfl ?_
    refine x_if_lt (pc := 11) (tgt := 20) o dX2_ringSize_11 (by decide) (fun c6 => ?_) (fun c6 => ?_)
    · have h := xit h c6
      refine x_iconst (pc := 20) o dX2_ringSize_20 ic_0 ?_
      exact x_ireturn (pc := 21) o (R _ (Option.some.inj h).symm) dX2_ringSize_21 rfl rfl
    · have h := xif h c6
      refine x_iload_n (pc := 14) o dX2_ringSize_14 rfl rfl ?_
      refine x_bipush (pc := 15) o dX2_ringSize_15 bp_6 ?_
      refine x_icmp_lt (pc := 17) (tgt := 22) o dX2_ringSize_17 (by decide) (fun c5 => ?_) (fun c5 => ?_)
      · have h := xit h c5
        refine x_aload_n (pc := 22) o dX2_ringSize_22 rfl rfl ?_
        obtain ⟨r1, hr1, h⟩ := xbs h
        refine gX2_21 (pc := 23) o dX2_ringSize_23 hr1 ?_
        refine x_iload_n (pc := 26) o dX2_ringSize_26 rfl rfl ?_
        obtain ⟨v2, hv2, h⟩ := xbs h
        refine x_iaload (pc := 27) o dX2_ringSize_27 hv2 ?_
        refine x_istore_n (pc := 28) o dX2_ringSize_28 rfl hn2 ?_
        refine x_iload_n (pc := 29) o dX2_ringSize_29 rfl rfl ?_
        refine x_iload_n (pc := 30) o dX2_ringSize_30 rfl rfl ?_
        refine x_icmp_ne (pc := 31) (tgt := 36) o dX2_ringSize_31 (by decide) (fun c4 => ?_) (fun c4 => ?_)
        · have h := xif h c4
          obtain ⟨v3, hv3, h⟩ := xbs h
          refine x_iincE (pc := 36) o dX2_ringSize_36 rfl ic_1 hn3 hv3 ?_
          refine x_goto (pc := 39) (tgt := 4) o dX2_ringSize_39 (by decide) ?_
          refine x_to (l := [(0, .ref (M.2.1 k0)), (1, .int a1), (2, .int v2), (3, .int v3)]) ⟨rfl, rfl, rfl, rfl, trivial⟩ ?_
          exact hrec v2 v3 h
        · have h := xit h c4
          refine x_iload_n (pc := 34) o dX2_ringSize_34 rfl rfl ?_
          exact x_ireturn (pc := 35) o (R _ (Option.some.inj h).symm) dX2_ringSize_35 rfl rfl
      · have h := xif h c5
        refine x_iconst (pc := 20) o dX2_ringSize_20 ic_0 ?_
        exact x_ireturn (pc := 21) o (R _ (Option.some.inj h).symm) dX2_ringSize_21 rfl rfl
theorem tX2_ringSize_L4 {Γ : xGm} {M : xMg} (o : xOk Γ tC M 1 cX2_ringSize RX2) (hnL : Γ.2.2.2 = 4) (n : Nat) (k0 : Nat) (a1 : Int32) (S : xSt) (z : ((Unit) ⊕ (Int32))) (K : ∀ e, z = .inl e → xAt Γ tC M 42 (xlv []) [] S) (R : ∀ r, z = .inr r → xRI Γ tC M (some .int) r S) : ∀ (q : Nat) (a2 : Int32) (a3 : Int32), fX2_ringSize_L4 n k0 a1 S q a2 a3 = some z → xAt Γ tC M 4 (xlv [(0, .ref (M.2.1 k0)), (1, .int a1), (2, .int a2), (3, .int a3)]) [] S := by
  intro q
  induction q with
  | zero => intro a2 a3 h; cases h
  | succ q ih => intro a2 a3 h; exact tX2_ringSize_L4b o hnL n k0 a1 S a2 a3 z ih K R h
def fX2_ringSize (n : Nat) (k0 : Nat) (a1 : Int32) (S : xSt) : Option (Int32) :=
  if tC.1 k0 = 2 then
  ((fX2_ringSize_L4 n k0 a1 S n a1 ((1 : Int32))).bind fun z8 => xel z8 (fun ez8 => some ((0 : Int32))) (fun r => some r))
  else none
theorem kX2_ringSize {z : Int32} {n : Nat} {k0 : Nat} {a1 : Int32} {S : xSt} (h : fX2_ringSize n k0 a1 S = some z) : tC.1 k0 = 2 := by
  unfold fX2_ringSize at h
  exact (xck h).1
set_option maxHeartbeats 4000000 in
theorem tX2_ringSize (l : Launch) (M : xMg) (A : Nat → Prop) (n : Nat) (k0 : Nat) (a1 : Int32) (S : xSt) (z : Int32) (h : fX2_ringSize n k0 a1 S = some z) : xMI l yX2_ringSize cX2_ringSize 4 (some .int) 1 tC M A [.ref (M.2.1 k0), .int a1] S z S := by
  refine x_metI (plainFor_of_name (by decide)) tC_ok (Nat.le_of_ble_eq_true rfl) (fun Γ hA hnL hl hr o => ?_)
  subst hA; subst hl
  have o : xOk Γ tC M 1 cX2_ringSize RX2 := o
  unfold fX2_ringSize at h
  obtain ⟨hk0, h⟩ := xck h
  refine x_to (l := [(0, .ref (M.2.1 k0)), (1, .int a1)]) ⟨rfl, rfl, trivial⟩ ?_
  have hn2 : 2 < Γ.2.2.2 := by omega
  have hn3 : 3 < Γ.2.2.2 := by omega
  refine x_iload_n (pc := 0) o dX2_ringSize_0 rfl rfl ?_
  refine x_istore_n (pc := 1) o dX2_ringSize_1 rfl hn2 ?_
  refine x_iconst (pc := 2) o dX2_ringSize_2 ic_1 ?_
  refine x_istore_n (pc := 3) o dX2_ringSize_3 rfl hn3 ?_
  obtain ⟨z8, hz8, h⟩ := xbs h
  refine x_to (l := [(0, .ref (M.2.1 k0)), (1, .int a1), (2, .int a1), (3, .int ((1 : Int32)))]) ⟨rfl, rfl, rfl, rfl, trivial⟩ ?_
  refine tX2_ringSize_L4 o hnL n k0 a1 S z8 (fun ez8 he => ?_) (fun r he => ?_) n a1 ((1 : Int32)) hz8
  · subst he; have h := xel_l h
    refine x_iconst (pc := 42) o dX2_ringSize_42 ic_0 ?_
    exact x_ireturn (pc := 43) o hr dX2_ringSize_43 (Option.some.inj h) rfl
  · subst he; have h := xel_r h
    cases Option.some.inj h
    exact hr
def fX2_closeRings_B32_5 (n : Nat) (rec : Int32 → Int32 → xSt → Option (Int32 × xSt)) (k0 : Nat) (a1 : Int32) (a2 : Int32) (a3 : Int32) (a4 : Int32) (s0 : Int32) (S : xSt) : Option (Int32 × xSt) :=
  if s0 ≤ 0 then
  ((some (a4 + (1 : Int32))).bind fun v1 =>
  rec a3 v1 S)
else
  ((xgF tC 2 0 k0 S).bind fun r2 =>
  (xgF tC 2 3 k0 S).bind fun r3 =>
  (xal tC r3 a4 S).bind fun v4 =>
  (xas tC r2 a4 v4 S).bind fun S5 =>
  (xgF tC 2 1 k0 S5).bind fun r6 =>
  (xas tC r6 a4 a2 S5).bind fun S7 =>
  (xgF tC 2 2 k0 S7).bind fun r8 =>
  (xas tC r8 a4 s0 S7).bind fun S9 =>
  (some (a3 ||| (((1 : Int32)) <<< (a4 &&& 31)))).bind fun v10 =>
  (some (a4 + (1 : Int32))).bind fun v11 =>
  rec v10 v11 S9)
set_option maxHeartbeats 4000000 in
theorem tX2_closeRings_B32_5 {Γ : xGm} {M : xMg} (o : xOk Γ tC M 2 cX2_closeRings RX2) (hnL : Γ.2.2.2 = 6) {rec : Int32 → Int32 → xSt → Option (Int32 × xSt)} (n : Nat) (k0 : Nat) (a1 : Int32) (a2 : Int32) (a3 : Int32) (a4 : Int32) (s0 : Int32) (S : xSt) (z : (Int32 × xSt)) (hrec : ∀ (a3 : Int32) (a4 : Int32) (S : xSt), rec a3 a4 S = some z → xAt Γ tC M 5 (xlv [(0, .ref (M.2.1 k0)), (1, .int a1), (2, .int a2), (3, .int a3), (4, .int a4)]) [] S) (K : xAt Γ tC M 83 (xlv [(3, .int z.1)]) [] z.2) (h : fX2_closeRings_B32_5 n rec k0 a1 a2 a3 a4 s0 S = some z) : xAt Γ tC M 32 (xlv [(0, .ref (M.2.1 k0)), (1, .int a1), (2, .int a2), (3, .int a3), (4, .int a4)]) [.int s0] S := by
  have hn3 : 3 < Γ.2.2.2 := by omega
  have hn4 : 4 < Γ.2.2.2 := by omega
  have hn5 : 5 < Γ.2.2.2 := by omega
  unfold fX2_closeRings_B32_5 at h
  refine x_istore (pc := 32) o dX2_closeRings_32 hn5 ?_
  refine x_iload (pc := 34) o dX2_closeRings_34 rfl ?_
  refine x_if_le (pc := 36) (tgt := 77) o dX2_closeRings_36 (by decide) (fun c12 => ?_) (fun c12 => ?_)
  · have h := xit h c12
    obtain ⟨v1, hv1, h⟩ := xbs h
    refine x_iincE (pc := 77) o dX2_closeRings_77 rfl ic_1 hn4 hv1 ?_
    refine x_goto (pc := 80) (tgt := 5) o dX2_closeRings_80 (by decide) ?_
    refine x_to (l := [(0, .ref (M.2.1 k0)), (1, .int a1), (2, .int a2), (3, .int a3), (4, .int v1)]) ⟨rfl, rfl, rfl, rfl, rfl, trivial⟩ ?_
    exact hrec a3 v1 S h
  · have h := xif h c12
    refine x_aload_n (pc := 39) o dX2_closeRings_39 rfl rfl ?_
    obtain ⟨r2, hr2, h⟩ := xbs h
    refine gX2_9 (pc := 40) o dX2_closeRings_40 hr2 ?_
    refine x_iload (pc := 43) o dX2_closeRings_43 rfl ?_
    refine x_aload_n (pc := 45) o dX2_closeRings_45 rfl rfl ?_
    obtain ⟨r3, hr3, h⟩ := xbs h
    refine gX2_21 (pc := 46) o dX2_closeRings_46 hr3 ?_
    refine x_iload (pc := 49) o dX2_closeRings_49 rfl ?_
    obtain ⟨v4, hv4, h⟩ := xbs h
    refine x_iaload (pc := 51) o dX2_closeRings_51 hv4 ?_
    obtain ⟨S5, hS5, h⟩ := xbs h
    refine x_iastore (pc := 52) o dX2_closeRings_52 hS5 ?_
    refine x_aload_n (pc := 53) o dX2_closeRings_53 rfl rfl ?_
    obtain ⟨r6, hr6, h⟩ := xbs h
    refine gX2_15 (pc := 54) o dX2_closeRings_54 hr6 ?_
    refine x_iload (pc := 57) o dX2_closeRings_57 rfl ?_
    refine x_iload_n (pc := 59) o dX2_closeRings_59 rfl rfl ?_
    obtain ⟨S7, hS7, h⟩ := xbs h
    refine x_iastore (pc := 60) o dX2_closeRings_60 hS7 ?_
    refine x_aload_n (pc := 61) o dX2_closeRings_61 rfl rfl ?_
    obtain ⟨r8, hr8, h⟩ := xbs h
    refine gX2_18 (pc := 62) o dX2_closeRings_62 hr8 ?_
    refine x_iload (pc := 65) o dX2_closeRings_65 rfl ?_
    refine x_iload (pc := 67) o dX2_closeRings_67 rfl ?_
    obtain ⟨S9, hS9, h⟩ := xbs h
    refine x_iastore (pc := 69) o dX2_closeRings_69 hS9 ?_
    refine x_iload_n (pc := 70) o dX2_closeRings_70 rfl rfl ?_
    refine x_iconst (pc := 71) o dX2_closeRings_71 ic_1 ?_
    refine x_iload (pc := 72) o dX2_closeRings_72 rfl ?_
    refine x_ishl (pc := 74) o dX2_closeRings_74 ?_
    refine x_ior (pc := 75) o dX2_closeRings_75 ?_
    obtain ⟨v10, hv10, h⟩ := xbs h
    refine x_istore_nE (pc := 76) o dX2_closeRings_76 rfl hn3 hv10 ?_
    obtain ⟨v11, hv11, h⟩ := xbs h
    refine x_iincE (pc := 77) o dX2_closeRings_77 rfl ic_1 hn4 hv11 ?_
    refine x_goto (pc := 80) (tgt := 5) o dX2_closeRings_80 (by decide) ?_
    refine x_to (l := [(0, .ref (M.2.1 k0)), (1, .int a1), (2, .int a2), (3, .int v10), (4, .int v11)]) ⟨rfl, rfl, rfl, rfl, rfl, trivial⟩ ?_
    exact hrec v10 v11 S9 h
def fX2_closeRings_L5b (n : Nat) (k0 : Nat) (a1 : Int32) (a2 : Int32) (rec : Int32 → Int32 → xSt → Option (Int32 × xSt)) (a3 : Int32) (a4 : Int32) (S : xSt) : Option (Int32 × xSt) :=
  if ((6 : Int32)) ≤ a4 then
  (some (a3, S))
else
  (if ((a1 >>> (a4 &&& 31)) &&& ((1 : Int32))) = ((1 : Int32)) then
  ((fX2_ringSize n k0 a4 S).bind fun v13 =>
  fX2_closeRings_B32_5 n rec k0 a1 a2 a3 a4 v13 S)
else
  (fX2_closeRings_B32_5 n rec k0 a1 a2 a3 a4 ((0 : Int32)) S))
def fX2_closeRings_L5 (n : Nat) (k0 : Nat) (a1 : Int32) (a2 : Int32) : Nat → Int32 → Int32 → xSt → Option (Int32 × xSt)
  | 0 => fun _ _ _ => none
  | q + 1 => fX2_closeRings_L5b n k0 a1 a2 (fX2_closeRings_L5 n k0 a1 a2 q)
set_option maxHeartbeats 4000000 in
theorem tX2_closeRings_L5b {Γ : xGm} {M : xMg} (o : xOk Γ tC M 2 cX2_closeRings RX2) (hnL : Γ.2.2.2 = 6) {rec : Int32 → Int32 → xSt → Option (Int32 × xSt)} (n : Nat) (k0 : Nat) (a1 : Int32) (a2 : Int32) (a3 : Int32) (a4 : Int32) (S : xSt) (z : (Int32 × xSt)) (hrec : ∀ (a3 : Int32) (a4 : Int32) (S : xSt), rec a3 a4 S = some z → xAt Γ tC M 5 (xlv [(0, .ref (M.2.1 k0)), (1, .int a1), (2, .int a2), (3, .int a3), (4, .int a4)]) [] S) (K : xAt Γ tC M 83 (xlv [(3, .int z.1)]) [] z.2) (h : fX2_closeRings_L5b n k0 a1 a2 rec a3 a4 S = some z) : xAt Γ tC M 5 (xlv [(0, .ref (M.2.1 k0)), (1, .int a1), (2, .int a2), (3, .int a3), (4, .int a4)]) [] S := by
  unfold fX2_closeRings_L5b at h
  refine x_iload (pc := 5) o dX2_closeRings_5 rfl ?_
  refine x_bipush (pc := 7) o dX2_closeRings_7 bp_6 ?_
  refine x_icmp_ge (pc := 9) (tgt := 83) o dX2_closeRings_9 (by decide) (fun c15 => ?_) (fun c15 => ?_)
  · have h := xit h c15
    refine x_to (l := [(3, .int a3)]) ⟨rfl, trivial⟩ ?_
    cases Option.some.inj h
    exact K
  · have h := xif h c15
    refine x_iload_n (pc := 12) o dX2_closeRings_12 rfl rfl ?_
    refine x_iload (pc := 13) o dX2_closeRings_13 rfl ?_
    refine x_ishr (pc := 15) o dX2_closeRings_15 ?_
    refine x_iconst (pc := 16) o dX2_closeRings_16 ic_1 ?_
    refine x_iand (pc := 17) o dX2_closeRings_17 ?_
    refine x_iconst (pc := 18) o dX2_closeRings_18 ic_1 ?_
    refine x_icmp_ne (pc := 19) (tgt := 31) o dX2_closeRings_19 (by decide) (fun c14 => ?_) (fun c14 => ?_)
    · have h := xif h c14
      refine x_iconst (pc := 31) o dX2_closeRings_31 ic_0 ?_
      refine x_to (l := [(0, .ref (M.2.1 k0)), (1, .int a1), (2, .int a2), (3, .int a3), (4, .int a4)]) ⟨rfl, rfl, rfl, rfl, rfl, trivial⟩ ?_
      exact tX2_closeRings_B32_5 o hnL n k0 a1 a2 a3 a4 ((0 : Int32)) S z hrec K  h
    · have h := xit h c14
      refine x_aload_n (pc := 22) o dX2_closeRings_22 rfl rfl ?_
      refine x_iload (pc := 23) o dX2_closeRings_23 rfl ?_
      obtain ⟨v13, hv13, h⟩ := xbs h
      refine x_callI (pc := 25) (As := [.int a4]) (b := k0) (rest := []) o (tX2_ringSize _ M _ n k0 a4 S v13 hv13) eX2_ringSize mX2_52 clX2 (kX2_ringSize hv13) (by decide) rfl rfl (Nat.le_of_ble_eq_true rfl) dX2_closeRings_25 ?_
      refine x_goto (pc := 28) (tgt := 32) o dX2_closeRings_28 (by decide) ?_
      refine x_to (l := [(0, .ref (M.2.1 k0)), (1, .int a1), (2, .int a2), (3, .int a3), (4, .int a4)]) ⟨rfl, rfl, rfl, rfl, rfl, trivial⟩ ?_
      exact tX2_closeRings_B32_5 o hnL n k0 a1 a2 a3 a4 v13 S z hrec K  h
theorem tX2_closeRings_L5 {Γ : xGm} {M : xMg} (o : xOk Γ tC M 2 cX2_closeRings RX2) (hnL : Γ.2.2.2 = 6) (n : Nat) (k0 : Nat) (a1 : Int32) (a2 : Int32) (z : (Int32 × xSt)) (K : xAt Γ tC M 83 (xlv [(3, .int z.1)]) [] z.2) : ∀ (q : Nat) (a3 : Int32) (a4 : Int32) (S : xSt), fX2_closeRings_L5 n k0 a1 a2 q a3 a4 S = some z → xAt Γ tC M 5 (xlv [(0, .ref (M.2.1 k0)), (1, .int a1), (2, .int a2), (3, .int a3), (4, .int a4)]) [] S := by
  intro q
  induction q with
  | zero => intro a3 a4 S h; cases h
  | succ q ih => intro a3 a4 S h; exact tX2_closeRings_L5b o hnL n k0 a1 a2 a3 a4 S z ih K h
def fX2_closeRings (n : Nat) (k0 : Nat) (a1 : Int32) (a2 : Int32) (S : xSt) : Option (Int32 × xSt) :=
  if tC.1 k0 = 2 then
  ((fX2_closeRings_L5 n k0 a1 a2 n ((0 : Int32)) ((0 : Int32)) S).bind fun z16 => some (z16.1, z16.2))
  else none
theorem kX2_closeRings {z : Int32 × xSt} {n : Nat} {k0 : Nat} {a1 : Int32} {a2 : Int32} {S : xSt} (h : fX2_closeRings n k0 a1 a2 S = some z) : tC.1 k0 = 2 := by
  unfold fX2_closeRings at h
  exact (xck h).1
set_option maxHeartbeats 4000000 in
theorem tX2_closeRings (l : Launch) (M : xMg) (A : Nat → Prop) (n : Nat) (k0 : Nat) (a1 : Int32) (a2 : Int32) (S : xSt) (z : Int32 × xSt) (h : fX2_closeRings n k0 a1 a2 S = some z) : xMI l yX2_closeRings cX2_closeRings 6 (some .int) 2 tC M A [.ref (M.2.1 k0), .int a1, .int a2] S z.1 z.2 := by
  refine x_metI (plainFor_of_name (by decide)) tC_ok (Nat.le_of_ble_eq_true rfl) (fun Γ hA hnL hl hr o => ?_)
  subst hA; subst hl
  have o : xOk Γ tC M 2 cX2_closeRings RX2 := o
  unfold fX2_closeRings at h
  obtain ⟨hk0, h⟩ := xck h
  refine x_to (l := [(0, .ref (M.2.1 k0)), (1, .int a1), (2, .int a2)]) ⟨rfl, rfl, rfl, trivial⟩ ?_
  have hn3 : 3 < Γ.2.2.2 := by omega
  have hn4 : 4 < Γ.2.2.2 := by omega
  refine x_iconst (pc := 0) o dX2_closeRings_0 ic_0 ?_
  refine x_istore_n (pc := 1) o dX2_closeRings_1 rfl hn3 ?_
  refine x_iconst (pc := 2) o dX2_closeRings_2 ic_0 ?_
  refine x_istore (pc := 3) o dX2_closeRings_3 hn4 ?_
  obtain ⟨z16, hz16, h⟩ := xbs h
  refine x_to (l := [(0, .ref (M.2.1 k0)), (1, .int a1), (2, .int a2), (3, .int ((0 : Int32))), (4, .int ((0 : Int32)))]) ⟨rfl, rfl, rfl, rfl, rfl, trivial⟩ ?_
  refine tX2_closeRings_L5 o hnL n k0 a1 a2 z16 ?_ n ((0 : Int32)) ((0 : Int32)) S hz16
  refine x_iload_n (pc := 83) o dX2_closeRings_83 rfl rfl ?_
  exact x_ireturn (pc := 84) o hr dX2_closeRings_84 (xr1 h) (xr2 h)
def fX2_settle_L29b (n : Nat) (k0 : Nat) (k2 : Nat) (a3 : Int32) (rec : Int32 → Int32 → xSt → Option (xSt)) (a4 : Int32) (a5 : Int32) (S : xSt) : Option (xSt) :=
  if a3 < a5 then
  (some S)
else
  (if a4 = 0 then
  (some S)
else
  ((fX2_pointAll n k0 a4 k2 S).bind fun S6 =>
  (fX2_closeRings n k0 a4 a5 S6).bind fun q7 =>
  (some (a4 &&& (q7.1 ^^^ ((-1 : Int32))))).bind fun v8 =>
  (some (a5 + (1 : Int32))).bind fun v9 =>
  rec v8 v9 q7.2))
def fX2_settle_L29 (n : Nat) (k0 : Nat) (k2 : Nat) (a3 : Int32) : Nat → Int32 → Int32 → xSt → Option (xSt)
  | 0 => fun _ _ _ => none
  | q + 1 => fX2_settle_L29b n k0 k2 a3 (fX2_settle_L29 n k0 k2 a3 q)
set_option maxHeartbeats 4000000 in
theorem tX2_settle_L29b {Γ : xGm} {M : xMg} (o : xOk Γ tC M 4 cX2_settle RX2) (hnL : Γ.2.2.2 = 6) {rec : Int32 → Int32 → xSt → Option (xSt)} (n : Nat) (k0 : Nat) (k2 : Nat) (a3 : Int32) (a4 : Int32) (a5 : Int32) (S : xSt) (z : (xSt)) (hrec : ∀ (a4 : Int32) (a5 : Int32) (S : xSt), rec a4 a5 S = some z → xAt Γ tC M 29 (xlv [(0, .ref (M.2.1 k0)), (2, .ref (M.2.1 k2)), (3, .int a3), (4, .int a4), (5, .int a5)]) [] S) (K : xAt Γ tC M 68 (xlv []) [] z) (h : fX2_settle_L29b n k0 k2 a3 rec a4 a5 S = some z) : xAt Γ tC M 29 (xlv [(0, .ref (M.2.1 k0)), (2, .ref (M.2.1 k2)), (3, .int a3), (4, .int a4), (5, .int a5)]) [] S := by
  have hn4 : 4 < Γ.2.2.2 := by omega
  have hn5 : 5 < Γ.2.2.2 := by omega
  unfold fX2_settle_L29b at h
  refine x_iload (pc := 29) o dX2_settle_29 rfl ?_
  refine x_iload_n (pc := 31) o dX2_settle_31 rfl rfl ?_
  refine x_icmp_gt (pc := 32) (tgt := 68) o dX2_settle_32 (by decide) (fun c11 => ?_) (fun c11 => ?_)
  · have h := xit h c11
    refine x_to (l := []) trivial ?_
    cases Option.some.inj h
    exact K
  · have h := xif h c11
    refine x_iload (pc := 35) o dX2_settle_35 rfl ?_
    refine x_if_eq (pc := 37) (tgt := 68) o dX2_settle_37 (by decide) (fun c10 => ?_) (fun c10 => ?_)
    · have h := xit h c10
      refine x_to (l := []) trivial ?_
      cases Option.some.inj h
      exact K
    · have h := xif h c10
      refine x_aload_n (pc := 40) o dX2_settle_40 rfl rfl ?_
      refine x_iload (pc := 41) o dX2_settle_41 rfl ?_
      refine x_aload_n (pc := 43) o dX2_settle_43 rfl rfl ?_
      obtain ⟨S6, hS6, h⟩ := xbs h
      refine x_callV (pc := 44) (As := [.int a4, .ref (M.2.1 k2)]) (b := k0) (rest := []) o (tX2_pointAll _ M _ n k0 a4 k2 S S6 hS6) eX2_pointAll mX2_36 clX2 (kX2_pointAll hS6) (by decide) rfl rfl (Nat.le_of_ble_eq_true rfl) dX2_settle_44 ?_
      refine x_iload (pc := 47) o dX2_settle_47 rfl ?_
      refine x_aload_n (pc := 49) o dX2_settle_49 rfl rfl ?_
      refine x_iload (pc := 50) o dX2_settle_50 rfl ?_
      refine x_iload (pc := 52) o dX2_settle_52 rfl ?_
      obtain ⟨q7, hq7, h⟩ := xbs h
      refine x_callI (pc := 54) (As := [.int a4, .int a5]) (b := k0) (rest := [.int a4]) o (tX2_closeRings _ M _ n k0 a4 a5 S6 q7 hq7) eX2_closeRings mX2_40 clX2 (kX2_closeRings hq7) (by decide) rfl rfl (Nat.le_of_ble_eq_true rfl) dX2_settle_54 ?_
      refine x_iconst (pc := 57) o dX2_settle_57 ic_m1 ?_
      refine x_ixor (pc := 58) o dX2_settle_58 ?_
      refine x_iand (pc := 59) o dX2_settle_59 ?_
      obtain ⟨v8, hv8, h⟩ := xbs h
      refine x_istoreE (pc := 60) o dX2_settle_60 hn4 hv8 ?_
      obtain ⟨v9, hv9, h⟩ := xbs h
      refine x_iincE (pc := 62) o dX2_settle_62 rfl ic_1 hn5 hv9 ?_
      refine x_goto (pc := 65) (tgt := 29) o dX2_settle_65 (by decide) ?_
      refine x_to (l := [(0, .ref (M.2.1 k0)), (2, .ref (M.2.1 k2)), (3, .int a3), (4, .int v8), (5, .int v9)]) ⟨rfl, rfl, rfl, rfl, rfl, trivial⟩ ?_
      exact hrec v8 v9 q7.2 h
theorem tX2_settle_L29 {Γ : xGm} {M : xMg} (o : xOk Γ tC M 4 cX2_settle RX2) (hnL : Γ.2.2.2 = 6) (n : Nat) (k0 : Nat) (k2 : Nat) (a3 : Int32) (z : (xSt)) (K : xAt Γ tC M 68 (xlv []) [] z) : ∀ (q : Nat) (a4 : Int32) (a5 : Int32) (S : xSt), fX2_settle_L29 n k0 k2 a3 q a4 a5 S = some z → xAt Γ tC M 29 (xlv [(0, .ref (M.2.1 k0)), (2, .ref (M.2.1 k2)), (3, .int a3), (4, .int a4), (5, .int a5)]) [] S := by
  intro q
  induction q with
  | zero => intro a4 a5 S h; cases h
  | succ q ih => intro a4 a5 S h; exact tX2_settle_L29b o hnL n k0 k2 a3 a4 a5 S z ih K h
def fX2_settle (n : Nat) (k0 : Nat) (k1 : Nat) (k2 : Nat) (S : xSt) : Option (xSt) :=
  if tC.1 k0 = 2 then
  ((fX9_count k1 ((2 : Int32)) S).bind fun v1 =>
  (fX9_count k1 ((1 : Int32)) S).bind fun v2 =>
  (some (if v2 < v1 then v2 else v1)).bind fun v3 =>
  (some (if v3 < ((6 : Int32)) then v3 else ((6 : Int32)))).bind fun v4 =>
  (some ((((1 : Int32)) <<< (v4 &&& 31)) - ((1 : Int32)))).bind fun v5 =>
  (fX2_settle_L29 n k0 k2 v4 n v5 ((1 : Int32)) S).bind fun z12 => some z12)
  else none
theorem kX2_settle {z : xSt} {n : Nat} {k0 : Nat} {k1 : Nat} {k2 : Nat} {S : xSt} (h : fX2_settle n k0 k1 k2 S = some z) : tC.1 k0 = 2 := by
  unfold fX2_settle at h
  exact (xck h).1
set_option maxHeartbeats 4000000 in
theorem tX2_settle (l : Launch) (M : xMg) (A : Nat → Prop) (n : Nat) (k0 : Nat) (k1 : Nat) (k2 : Nat) (S : xSt) (z : xSt) (h : fX2_settle n k0 k1 k2 S = some z) : xMV l yX2_settle cX2_settle 6 none 4 tC M A [.ref (M.2.1 k0), .ref (M.2.1 k1), .ref (M.2.1 k2)] S z := by
  refine x_metV (plainFor_of_name (by decide)) tC_ok (Nat.le_of_ble_eq_true rfl) (fun Γ hA hnL hl hr o => ?_)
  subst hA; subst hl
  have o : xOk Γ tC M 4 cX2_settle RX2 := o
  unfold fX2_settle at h
  obtain ⟨hk0, h⟩ := xck h
  refine x_to (l := [(0, .ref (M.2.1 k0)), (1, .ref (M.2.1 k1)), (2, .ref (M.2.1 k2))]) ⟨rfl, rfl, rfl, trivial⟩ ?_
  have hn3 : 3 < Γ.2.2.2 := by omega
  have hn4 : 4 < Γ.2.2.2 := by omega
  have hn5 : 5 < Γ.2.2.2 := by omega
  refine x_bipush (pc := 0) o dX2_settle_0 bp_6 ?_
  refine x_aload_n (pc := 2) o dX2_settle_2 rfl rfl ?_
  refine x_iconst (pc := 3) o dX2_settle_3 ic_2 ?_
  obtain ⟨v1, hv1, h⟩ := xbs h
  refine x_callI (pc := 4) (As := [.int ((2 : Int32))]) (b := k1) (rest := [.int ((6 : Int32))]) o (tX9_count _ M _ k1 ((2 : Int32)) S v1 hv1) eX9_count mX2_24 clX9 (kX9_count hv1) (by decide) rfl rfl (Nat.le_of_ble_eq_true rfl) dX2_settle_4 ?_
  refine x_aload_n (pc := 7) o dX2_settle_7 rfl rfl ?_
  refine x_iconst (pc := 8) o dX2_settle_8 ic_1 ?_
  obtain ⟨v2, hv2, h⟩ := xbs h
  refine x_callI (pc := 9) (As := [.int ((1 : Int32))]) (b := k1) (rest := [.int v1, .int ((6 : Int32))]) o (tX9_count _ M _ k1 ((1 : Int32)) S v2 hv2) eX9_count mX2_24 clX9 (kX9_count hv2) (by decide) rfl rfl (Nat.le_of_ble_eq_true rfl) dX2_settle_9 ?_
  obtain ⟨v3, hv3, h⟩ := xbs h
  refine x_mminE (pc := 12) o mX2_30 w_min1 w_min2 w_min3 (by decide) (Nat.le_of_ble_eq_true rfl) dX2_settle_12 hv3 ?_
  obtain ⟨v4, hv4, h⟩ := xbs h
  refine x_mminE (pc := 15) o mX2_30 w_min1 w_min2 w_min3 (by decide) (Nat.le_of_ble_eq_true rfl) dX2_settle_15 hv4 ?_
  refine x_istore_n (pc := 18) o dX2_settle_18 rfl hn3 ?_
  refine x_iconst (pc := 19) o dX2_settle_19 ic_1 ?_
  refine x_iload_n (pc := 20) o dX2_settle_20 rfl rfl ?_
  refine x_ishl (pc := 21) o dX2_settle_21 ?_
  refine x_iconst (pc := 22) o dX2_settle_22 ic_1 ?_
  refine x_isub (pc := 23) o dX2_settle_23 ?_
  obtain ⟨v5, hv5, h⟩ := xbs h
  refine x_istoreE (pc := 24) o dX2_settle_24 hn4 hv5 ?_
  refine x_iconst (pc := 26) o dX2_settle_26 ic_1 ?_
  refine x_istore (pc := 27) o dX2_settle_27 hn5 ?_
  obtain ⟨z12, hz12, h⟩ := xbs h
  refine x_to (l := [(0, .ref (M.2.1 k0)), (2, .ref (M.2.1 k2)), (3, .int v4), (4, .int v5), (5, .int ((1 : Int32)))]) ⟨rfl, rfl, rfl, rfl, rfl, trivial⟩ ?_
  refine tX2_settle_L29 o hnL n k0 k2 v4 z12 ?_ n v5 ((1 : Int32)) S hz12
  exact x_vreturn (pc := 68) o hr dX2_settle_68 (Option.some.inj h)
def fX3_clear (k0 : Nat) (S : xSt) : Option (xSt) :=
  if tC.1 k0 = 3 then
  ((xpI tC 3 2 k0 ((0 : Int32)) S).bind fun S1 =>
  (xpI tC 3 3 k0 ((0 : Int32)) S1).bind fun S2 =>
  some S2)
  else none
theorem kX3_clear {z : xSt} {k0 : Nat} {S : xSt} (h : fX3_clear k0 S = some z) : tC.1 k0 = 3 := by
  unfold fX3_clear at h
  exact (xck h).1
set_option maxHeartbeats 4000000 in
theorem tX3_clear (l : Launch) (M : xMg) (A : Nat → Prop) (k0 : Nat) (S : xSt) (z : xSt) (h : fX3_clear k0 S = some z) : xMV l yX3_clear cX3_clear 1 none 1 tC M A [.ref (M.2.1 k0)] S z := by
  refine x_metV (plainFor_of_name (by decide)) tC_ok (Nat.le_of_ble_eq_true rfl) (fun Γ hA hnL hl hr o => ?_)
  subst hA; subst hl
  have o : xOk Γ tC M 1 cX3_clear RX3 := o
  unfold fX3_clear at h
  obtain ⟨hk0, h⟩ := xck h
  refine x_to (l := [(0, .ref (M.2.1 k0))]) ⟨rfl, trivial⟩ ?_
  refine x_aload_n (pc := 0) o dX3_clear_0 rfl rfl ?_
  refine x_iconst (pc := 1) o dX3_clear_1 ic_0 ?_
  obtain ⟨S1, hS1, h⟩ := xbs h
  refine pX3_22 (pc := 2) o dX3_clear_2 hS1 ?_
  refine x_aload_n (pc := 5) o dX3_clear_5 rfl rfl ?_
  refine x_iconst (pc := 6) o dX3_clear_6 ic_0 ?_
  obtain ⟨S2, hS2, h⟩ := xbs h
  refine pX3_26 (pc := 7) o dX3_clear_7 hS2 ?_
  exact x_vreturn (pc := 10) o hr dX3_clear_10 (Option.some.inj h)
def fX3_saveAt (k0 : Nat) (a1 : Int32) (S : xSt) : Option (Nat) :=
  if tC.1 k0 = 3 then
  (if a1 < 0 then
  (none)
else
  (if ((20 : Int32)) ≤ a1 then
  (none)
else
  ((xgF tC 3 0 k0 S).bind fun r1 =>
  (xql tC r1 a1 S).bind fun r2 =>
  some r2)))
  else none
theorem kX3_saveAt {z : Nat} {k0 : Nat} {a1 : Int32} {S : xSt} (h : fX3_saveAt k0 a1 S = some z) : tC.1 k0 = 3 := by
  unfold fX3_saveAt at h
  exact (xck h).1
set_option maxHeartbeats 4000000 in
theorem tX3_saveAt (l : Launch) (M : xMg) (A : Nat → Prop) (k0 : Nat) (a1 : Int32) (S : xSt) (z : Nat) (h : fX3_saveAt k0 a1 S = some z) : xMR l yX3_saveAt cX3_saveAt 2 (some (.object "ToolSaints$Yard")) 1 tC M A [.ref (M.2.1 k0), .int a1] S z S := by
  refine x_metR (plainFor_of_name (by decide)) tC_ok (Nat.le_of_ble_eq_true rfl) (fun Γ hA hnL hl hr o => ?_)
  subst hA; subst hl
  have o : xOk Γ tC M 1 cX3_saveAt RX3 := o
  unfold fX3_saveAt at h
  obtain ⟨hk0, h⟩ := xck h
  refine x_to (l := [(0, .ref (M.2.1 k0)), (1, .int a1)]) ⟨rfl, rfl, trivial⟩ ?_
  refine x_iload_n (pc := 0) o dX3_saveAt_0 rfl rfl ?_
  refine x_if_lt (pc := 1) (tgt := 19) o dX3_saveAt_1 (by decide) (fun c4 => ?_) (fun c4 => ?_)
  · have h := xit h c4
    cases h
  · have h := xif h c4
    refine x_iload_n (pc := 4) o dX3_saveAt_4 rfl rfl ?_
    refine x_bipush (pc := 5) o dX3_saveAt_5 bp_20 ?_
    refine x_icmp_ge (pc := 7) (tgt := 19) o dX3_saveAt_7 (by decide) (fun c3 => ?_) (fun c3 => ?_)
    · have h := xit h c3
      cases h
    · have h := xif h c3
      refine x_aload_n (pc := 10) o dX3_saveAt_10 rfl rfl ?_
      obtain ⟨r1, hr1, h⟩ := xbs h
      refine gX3_13 (pc := 11) o dX3_saveAt_11 hr1 ?_
      refine x_iload_n (pc := 14) o dX3_saveAt_14 rfl rfl ?_
      obtain ⟨r2, hr2, h⟩ := xbs h
      refine x_aaload (pc := 15) o dX3_saveAt_15 hr2 ?_
      refine x_goto (pc := 16) (tgt := 20) o dX3_saveAt_16 (by decide) ?_
      exact x_areturn (pc := 20) o hr dX3_saveAt_20 (Option.some.inj h) rfl
def fX3_save (k0 : Nat) (k1 : Nat) (S : xSt) : Option (xSt) :=
  if tC.1 k0 = 3 then
  ((xgI tC 3 2 k0 S).bind fun v1 =>
  (fX3_saveAt k0 v1 S).bind fun v2 =>
  (fX8_copy v2 k1 S).bind fun S3 =>
  (xgI tC 3 2 k0 S3).bind fun v4 =>
  if ((20 : Int32)) = 0 then none else
  (xpI tC 3 2 k0 ((v4 + ((1 : Int32))) - (v4 + ((1 : Int32))) / ((20 : Int32)) * ((20 : Int32))) S3).bind fun S5 =>
  (xgI tC 3 3 k0 S5).bind fun v6 =>
  (some (if (v6 + ((1 : Int32))) < ((20 : Int32)) then (v6 + ((1 : Int32))) else ((20 : Int32)))).bind fun v7 =>
  (xpI tC 3 3 k0 v7 S5).bind fun S8 =>
  some S8)
  else none
theorem kX3_save {z : xSt} {k0 : Nat} {k1 : Nat} {S : xSt} (h : fX3_save k0 k1 S = some z) : tC.1 k0 = 3 := by
  unfold fX3_save at h
  exact (xck h).1
set_option maxHeartbeats 4000000 in
theorem tX3_save (l : Launch) (M : xMg) (A : Nat → Prop) (k0 : Nat) (k1 : Nat) (S : xSt) (z : xSt) (h : fX3_save k0 k1 S = some z) : xMV l yX3_save cX3_save 3 none 3 tC M A [.ref (M.2.1 k0), .ref (M.2.1 k1)] S z := by
  refine x_metV (plainFor_of_name (by decide)) tC_ok (Nat.le_of_ble_eq_true rfl) (fun Γ hA hnL hl hr o => ?_)
  subst hA; subst hl
  have o : xOk Γ tC M 3 cX3_save RX3 := o
  unfold fX3_save at h
  obtain ⟨hk0, h⟩ := xck h
  refine x_to (l := [(0, .ref (M.2.1 k0)), (1, .ref (M.2.1 k1))]) ⟨rfl, rfl, trivial⟩ ?_
  have hn2 : 2 < Γ.2.2.2 := by omega
  refine x_aload_n (pc := 0) o dX3_save_0 rfl rfl ?_
  refine x_aload_n (pc := 1) o dX3_save_1 rfl rfl ?_
  obtain ⟨v1, hv1, h⟩ := xbs h
  refine gX3_22 (pc := 2) o dX3_save_2 hv1 ?_
  obtain ⟨v2, hv2, h⟩ := xbs h
  refine x_callR (pc := 5) (As := [.int v1]) (b := k0) (rest := []) o (tX3_saveAt _ M _ k0 v1 S v2 hv2) eX3_saveAt mX3_29 clX3 (kX3_saveAt hv2) (by decide) rfl rfl (Nat.le_of_ble_eq_true rfl) dX3_save_5 ?_
  refine x_astore_n (pc := 8) o dX3_save_8 rfl hn2 ?_
  refine x_aload_n (pc := 9) o dX3_save_9 rfl rfl ?_
  refine x_ifnonnull (pc := 10) (tgt := 14) o dX3_save_10 (by decide) ?_
  refine x_aload_n (pc := 14) o dX3_save_14 rfl rfl ?_
  refine x_aload_n (pc := 15) o dX3_save_15 rfl rfl ?_
  obtain ⟨S3, hS3, h⟩ := xbs h
  refine x_callV (pc := 16) (As := [.ref (M.2.1 k1)]) (b := v2) (rest := []) o (tX8_copy _ M _ v2 k1 S S3 hS3) eX8_copy mX3_33 clX8 (kX8_copy hS3) (by decide) rfl rfl (Nat.le_of_ble_eq_true rfl) dX3_save_16 ?_
  refine x_aload_n (pc := 19) o dX3_save_19 rfl rfl ?_
  refine x_aload_n (pc := 20) o dX3_save_20 rfl rfl ?_
  obtain ⟨v4, hv4, h⟩ := xbs h
  refine gX3_22 (pc := 21) o dX3_save_21 hv4 ?_
  refine x_iconst (pc := 24) o dX3_save_24 ic_1 ?_
  refine x_iadd (pc := 25) o dX3_save_25 ?_
  refine x_bipush (pc := 26) o dX3_save_26 bp_20 ?_
  obtain ⟨hq, h⟩ := xcn h
  refine x_irem (pc := 28) o dX3_save_28 hq ?_
  obtain ⟨S5, hS5, h⟩ := xbs h
  refine pX3_22 (pc := 29) o dX3_save_29 hS5 ?_
  refine x_aload_n (pc := 32) o dX3_save_32 rfl rfl ?_
  refine x_bipush (pc := 33) o dX3_save_33 bp_20 ?_
  refine x_aload_n (pc := 35) o dX3_save_35 rfl rfl ?_
  obtain ⟨v6, hv6, h⟩ := xbs h
  refine gX3_26 (pc := 36) o dX3_save_36 hv6 ?_
  refine x_iconst (pc := 39) o dX3_save_39 ic_1 ?_
  refine x_iadd (pc := 40) o dX3_save_40 ?_
  obtain ⟨v7, hv7, h⟩ := xbs h
  refine x_mminE (pc := 41) o mX3_37 w_min1 w_min2 w_min3 (by decide) (Nat.le_of_ble_eq_true rfl) dX3_save_41 hv7 ?_
  obtain ⟨S8, hS8, h⟩ := xbs h
  refine pX3_26 (pc := 44) o dX3_save_44 hS8 ?_
  exact x_vreturn (pc := 47) o hr dX3_save_47 (Option.some.inj h)
def fX3_restore (k0 : Nat) (k1 : Nat) (S : xSt) : Option (Int32 × xSt) :=
  if tC.1 k0 = 3 then
  ((xgI tC 3 2 k0 S).bind fun v1 =>
  if ((20 : Int32)) = 0 then none else
  (some (((v1 + ((20 : Int32))) - ((1 : Int32))) - ((v1 + ((20 : Int32))) - ((1 : Int32))) / ((20 : Int32)) * ((20 : Int32)))).bind fun v2 =>
  (fX3_saveAt k0 v2 S).bind fun v3 =>
  (xgI tC 3 3 k0 S).bind fun v4 =>
  if v4 = 0 then
  (some ((0 : Int32), S))
else
  ((xpI tC 3 2 k0 v2 S).bind fun S5 =>
  (xgI tC 3 3 k0 S5).bind fun v6 =>
  (xpI tC 3 3 k0 (v6 - ((1 : Int32))) S5).bind fun S7 =>
  (fX8_copy k1 v3 S7).bind fun S8 =>
  some ((1 : Int32), S8)))
  else none
theorem kX3_restore {z : Int32 × xSt} {k0 : Nat} {k1 : Nat} {S : xSt} (h : fX3_restore k0 k1 S = some z) : tC.1 k0 = 3 := by
  unfold fX3_restore at h
  exact (xck h).1
set_option maxHeartbeats 4000000 in
theorem tX3_restore (l : Launch) (M : xMg) (A : Nat → Prop) (k0 : Nat) (k1 : Nat) (S : xSt) (z : Int32 × xSt) (h : fX3_restore k0 k1 S = some z) : xMI l yX3_restore cX3_restore 4 (some .boolean) 3 tC M A [.ref (M.2.1 k0), .ref (M.2.1 k1)] S z.1 z.2 := by
  refine x_metI (plainFor_of_name (by decide)) tC_ok (Nat.le_of_ble_eq_true rfl) (fun Γ hA hnL hl hr o => ?_)
  subst hA; subst hl
  have o : xOk Γ tC M 3 cX3_restore RX3 := o
  unfold fX3_restore at h
  obtain ⟨hk0, h⟩ := xck h
  refine x_to (l := [(0, .ref (M.2.1 k0)), (1, .ref (M.2.1 k1))]) ⟨rfl, rfl, trivial⟩ ?_
  have hn2 : 2 < Γ.2.2.2 := by omega
  have hn3 : 3 < Γ.2.2.2 := by omega
  refine x_aload_n (pc := 0) o dX3_restore_0 rfl rfl ?_
  obtain ⟨v1, hv1, h⟩ := xbs h
  refine gX3_22 (pc := 1) o dX3_restore_1 hv1 ?_
  refine x_bipush (pc := 4) o dX3_restore_4 bp_20 ?_
  refine x_iadd (pc := 6) o dX3_restore_6 ?_
  refine x_iconst (pc := 7) o dX3_restore_7 ic_1 ?_
  refine x_isub (pc := 8) o dX3_restore_8 ?_
  refine x_bipush (pc := 9) o dX3_restore_9 bp_20 ?_
  obtain ⟨hq, h⟩ := xcn h
  refine x_irem (pc := 11) o dX3_restore_11 hq ?_
  obtain ⟨v2, hv2, h⟩ := xbs h
  refine x_istore_nE (pc := 12) o dX3_restore_12 rfl hn2 hv2 ?_
  refine x_aload_n (pc := 13) o dX3_restore_13 rfl rfl ?_
  refine x_iload_n (pc := 14) o dX3_restore_14 rfl rfl ?_
  obtain ⟨v3, hv3, h⟩ := xbs h
  refine x_callR (pc := 15) (As := [.int v2]) (b := k0) (rest := []) o (tX3_saveAt _ M _ k0 v2 S v3 hv3) eX3_saveAt mX3_29 clX3 (kX3_saveAt hv3) (by decide) rfl rfl (Nat.le_of_ble_eq_true rfl) dX3_restore_15 ?_
  refine x_astore_n (pc := 18) o dX3_restore_18 rfl hn3 ?_
  refine x_aload_n (pc := 19) o dX3_restore_19 rfl rfl ?_
  obtain ⟨v4, hv4, h⟩ := xbs h
  refine gX3_26 (pc := 20) o dX3_restore_20 hv4 ?_
  refine x_if_eq (pc := 23) (tgt := 30) o dX3_restore_23 (by decide) (fun c9 => ?_) (fun c9 => ?_)
  · have h := xit h c9
    refine x_iconst (pc := 30) o dX3_restore_30 ic_0 ?_
    exact x_zreturn (pc := 31) o hr dX3_restore_31 (by decide) (xr1 h) (xr2 h)
  · have h := xif h c9
    refine x_aload_n (pc := 26) o dX3_restore_26 rfl rfl ?_
    refine x_ifnonnull (pc := 27) (tgt := 32) o dX3_restore_27 (by decide) ?_
    refine x_aload_n (pc := 32) o dX3_restore_32 rfl rfl ?_
    refine x_iload_n (pc := 33) o dX3_restore_33 rfl rfl ?_
    obtain ⟨S5, hS5, h⟩ := xbs h
    refine pX3_22 (pc := 34) o dX3_restore_34 hS5 ?_
    refine x_aload_n (pc := 37) o dX3_restore_37 rfl rfl ?_
    refine x_dup (pc := 38) o dX3_restore_38 rfl ?_
    obtain ⟨v6, hv6, h⟩ := xbs h
    refine gX3_26 (pc := 39) o dX3_restore_39 hv6 ?_
    refine x_iconst (pc := 42) o dX3_restore_42 ic_1 ?_
    refine x_isub (pc := 43) o dX3_restore_43 ?_
    obtain ⟨S7, hS7, h⟩ := xbs h
    refine pX3_26 (pc := 44) o dX3_restore_44 hS7 ?_
    refine x_aload_n (pc := 47) o dX3_restore_47 rfl rfl ?_
    refine x_aload_n (pc := 48) o dX3_restore_48 rfl rfl ?_
    obtain ⟨S8, hS8, h⟩ := xbs h
    refine x_callV (pc := 49) (As := [.ref (M.2.1 v3)]) (b := k1) (rest := []) o (tX8_copy _ M _ k1 v3 S7 S8 hS8) eX8_copy mX3_33 clX8 (kX8_copy hS8) (by decide) rfl rfl (Nat.le_of_ble_eq_true rfl) dX3_restore_49 ?_
    refine x_iconst (pc := 52) o dX3_restore_52 ic_1 ?_
    exact x_zreturn (pc := 53) o hr dX3_restore_53 (by decide) (xr1 h) (xr2 h)
def fX3_keptPart_B24 (k0 : Nat) (a1 : Int32) (a2 : Int32) (s0 : Int32) (S : xSt) : Option (Int32) :=
  if s0 = 0 then
  (some ((-1 : Int32)))
else
  ((xgF tC 3 1 k0 S).bind fun r1 =>
  (xal tC r1 ((a1 * ((4 : Int32))) + a2) S).bind fun v2 =>
  some v2)
set_option maxHeartbeats 4000000 in
theorem tX3_keptPart_B24 {Γ : xGm} {M : xMg} (o : xOk Γ tC M 1 cX3_keptPart RX3) (hnL : Γ.2.2.2 = 4) (k0 : Nat) (a1 : Int32) (a2 : Int32) (s0 : Int32) (S : xSt) (z : (Int32)) (hr : xRI Γ tC M (some .int) z S) (h : fX3_keptPart_B24 k0 a1 a2 s0 S = some z) : xAt Γ tC M 24 (xlv [(0, .ref (M.2.1 k0)), (1, .int a1), (2, .int a2)]) [.int s0] S := by
  have hn3 : 3 < Γ.2.2.2 := by omega
  unfold fX3_keptPart_B24 at h
  refine x_istore_n (pc := 24) o dX3_keptPart_24 rfl hn3 ?_
  refine x_iload_n (pc := 25) o dX3_keptPart_25 rfl rfl ?_
  refine x_if_eq (pc := 26) (tgt := 42) o dX3_keptPart_26 (by decide) (fun c3 => ?_) (fun c3 => ?_)
  · have h := xit h c3
    refine x_iconst (pc := 42) o dX3_keptPart_42 ic_m1 ?_
    exact x_ireturn (pc := 43) o hr dX3_keptPart_43 (Option.some.inj h) rfl
  · have h := xif h c3
    refine x_aload_n (pc := 29) o dX3_keptPart_29 rfl rfl ?_
    obtain ⟨r1, hr1, h⟩ := xbs h
    refine gX3_17 (pc := 30) o dX3_keptPart_30 hr1 ?_
    refine x_iload_n (pc := 33) o dX3_keptPart_33 rfl rfl ?_
    refine x_iconst (pc := 34) o dX3_keptPart_34 ic_4 ?_
    refine x_imul (pc := 35) o dX3_keptPart_35 ?_
    refine x_iload_n (pc := 36) o dX3_keptPart_36 rfl rfl ?_
    refine x_iadd (pc := 37) o dX3_keptPart_37 ?_
    obtain ⟨v2, hv2, h⟩ := xbs h
    refine x_iaload (pc := 38) o dX3_keptPart_38 hv2 ?_
    refine x_goto (pc := 39) (tgt := 43) o dX3_keptPart_39 (by decide) ?_
    exact x_ireturn (pc := 43) o hr dX3_keptPart_43 (Option.some.inj h) rfl
def fX3_keptPart_B23 (k0 : Nat) (a1 : Int32) (a2 : Int32) (S : xSt) : Option (Int32) :=
  fX3_keptPart_B24 k0 a1 a2 ((0 : Int32)) S
set_option maxHeartbeats 4000000 in
theorem tX3_keptPart_B23 {Γ : xGm} {M : xMg} (o : xOk Γ tC M 1 cX3_keptPart RX3) (hnL : Γ.2.2.2 = 4) (k0 : Nat) (a1 : Int32) (a2 : Int32) (S : xSt) (z : (Int32)) (hr : xRI Γ tC M (some .int) z S) (h : fX3_keptPart_B23 k0 a1 a2 S = some z) : xAt Γ tC M 23 (xlv [(0, .ref (M.2.1 k0)), (1, .int a1), (2, .int a2)]) [] S := by
  unfold fX3_keptPart_B23 at h
  refine x_iconst (pc := 23) o dX3_keptPart_23 ic_0 ?_
  refine x_to (l := [(0, .ref (M.2.1 k0)), (1, .int a1), (2, .int a2)]) ⟨rfl, rfl, rfl, trivial⟩ ?_
  exact tX3_keptPart_B24 o hnL k0 a1 a2 ((0 : Int32)) S z hr h
def fX3_keptPart (k0 : Nat) (a1 : Int32) (a2 : Int32) (S : xSt) : Option (Int32) :=
  if tC.1 k0 = 3 then
  (if a1 < 0 then
  (fX3_keptPart_B23 k0 a1 a2 S)
else
  (if ((60 : Int32)) ≤ a1 then
  (fX3_keptPart_B23 k0 a1 a2 S)
else
  (if a2 < 0 then
  (fX3_keptPart_B23 k0 a1 a2 S)
else
  (if ((4 : Int32)) ≤ a2 then
  (fX3_keptPart_B23 k0 a1 a2 S)
else
  (fX3_keptPart_B24 k0 a1 a2 ((1 : Int32)) S)))))
  else none
theorem kX3_keptPart {z : Int32} {k0 : Nat} {a1 : Int32} {a2 : Int32} {S : xSt} (h : fX3_keptPart k0 a1 a2 S = some z) : tC.1 k0 = 3 := by
  unfold fX3_keptPart at h
  exact (xck h).1
set_option maxHeartbeats 4000000 in
theorem tX3_keptPart (l : Launch) (M : xMg) (A : Nat → Prop) (k0 : Nat) (a1 : Int32) (a2 : Int32) (S : xSt) (z : Int32) (h : fX3_keptPart k0 a1 a2 S = some z) : xMI l yX3_keptPart cX3_keptPart 4 (some .int) 1 tC M A [.ref (M.2.1 k0), .int a1, .int a2] S z S := by
  refine x_metI (plainFor_of_name (by decide)) tC_ok (Nat.le_of_ble_eq_true rfl) (fun Γ hA hnL hl hr o => ?_)
  subst hA; subst hl
  have o : xOk Γ tC M 1 cX3_keptPart RX3 := o
  unfold fX3_keptPart at h
  obtain ⟨hk0, h⟩ := xck h
  refine x_to (l := [(0, .ref (M.2.1 k0)), (1, .int a1), (2, .int a2)]) ⟨rfl, rfl, rfl, trivial⟩ ?_
  refine x_iload_n (pc := 0) o dX3_keptPart_0 rfl rfl ?_
  refine x_if_lt (pc := 1) (tgt := 23) o dX3_keptPart_1 (by decide) (fun c7 => ?_) (fun c7 => ?_)
  · have h := xit h c7
    refine x_to (l := [(0, .ref (M.2.1 k0)), (1, .int a1), (2, .int a2)]) ⟨rfl, rfl, rfl, trivial⟩ ?_
    exact tX3_keptPart_B23 o hnL k0 a1 a2 S z hr h
  · have h := xif h c7
    refine x_iload_n (pc := 4) o dX3_keptPart_4 rfl rfl ?_
    refine x_bipush (pc := 5) o dX3_keptPart_5 bp_60 ?_
    refine x_icmp_ge (pc := 7) (tgt := 23) o dX3_keptPart_7 (by decide) (fun c6 => ?_) (fun c6 => ?_)
    · have h := xit h c6
      refine x_to (l := [(0, .ref (M.2.1 k0)), (1, .int a1), (2, .int a2)]) ⟨rfl, rfl, rfl, trivial⟩ ?_
      exact tX3_keptPart_B23 o hnL k0 a1 a2 S z hr h
    · have h := xif h c6
      refine x_iload_n (pc := 10) o dX3_keptPart_10 rfl rfl ?_
      refine x_if_lt (pc := 11) (tgt := 23) o dX3_keptPart_11 (by decide) (fun c5 => ?_) (fun c5 => ?_)
      · have h := xit h c5
        refine x_to (l := [(0, .ref (M.2.1 k0)), (1, .int a1), (2, .int a2)]) ⟨rfl, rfl, rfl, trivial⟩ ?_
        exact tX3_keptPart_B23 o hnL k0 a1 a2 S z hr h
      · have h := xif h c5
        refine x_iload_n (pc := 14) o dX3_keptPart_14 rfl rfl ?_
        refine x_iconst (pc := 15) o dX3_keptPart_15 ic_4 ?_
        refine x_icmp_ge (pc := 16) (tgt := 23) o dX3_keptPart_16 (by decide) (fun c4 => ?_) (fun c4 => ?_)
        · have h := xit h c4
          refine x_to (l := [(0, .ref (M.2.1 k0)), (1, .int a1), (2, .int a2)]) ⟨rfl, rfl, rfl, trivial⟩ ?_
          exact tX3_keptPart_B23 o hnL k0 a1 a2 S z hr h
        · have h := xif h c4
          refine x_iconst (pc := 19) o dX3_keptPart_19 ic_1 ?_
          refine x_goto (pc := 20) (tgt := 24) o dX3_keptPart_20 (by decide) ?_
          refine x_to (l := [(0, .ref (M.2.1 k0)), (1, .int a1), (2, .int a2)]) ⟨rfl, rfl, rfl, trivial⟩ ?_
          exact tX3_keptPart_B24 o hnL k0 a1 a2 ((1 : Int32)) S z hr h
def fX4_sizeOf (k0 : Nat) (S : xSt) : Option (Int32) :=
  (fX9_count k0 ((1 : Int32)) S).bind fun v1 =>
  (fX9_count k0 ((2 : Int32)) S).bind fun v2 =>
  (fX9_count k0 ((3 : Int32)) S).bind fun v3 =>
  some ((((((4 : Int32)) + (((3 : Int32)) * v1)) + (v2 * v1)) + (((3 : Int32)) * v3)) + ((1 : Int32)))
set_option maxHeartbeats 4000000 in
theorem tX4_sizeOf (l : Launch) (M : xMg) (A : Nat → Prop) (k0 : Nat) (S : xSt) (z : Int32) (h : fX4_sizeOf k0 S = some z) : xMI l yX4_sizeOf cX4_sizeOf 2 (some .int) 2 tC M A [.ref (M.2.1 k0)] S z S := by
  refine x_metI (plainFor_of_name (by decide)) tC_ok (Nat.le_of_ble_eq_true rfl) (fun Γ hA hnL hl hr o => ?_)
  subst hA; subst hl
  have o : xOk Γ tC M 2 cX4_sizeOf RX4 := o
  unfold fX4_sizeOf at h
  refine x_to (l := [(0, .ref (M.2.1 k0))]) ⟨rfl, trivial⟩ ?_
  have hn1 : 1 < Γ.2.2.2 := by omega
  refine x_aload_n (pc := 0) o dX4_sizeOf_0 rfl rfl ?_
  refine x_iconst (pc := 1) o dX4_sizeOf_1 ic_1 ?_
  obtain ⟨v1, hv1, h⟩ := xbs h
  refine x_callI (pc := 2) (As := [.int ((1 : Int32))]) (b := k0) (rest := []) o (tX9_count _ M _ k0 ((1 : Int32)) S v1 hv1) eX9_count mX4_22 clX9 (kX9_count hv1) (by decide) rfl rfl (Nat.le_of_ble_eq_true rfl) dX4_sizeOf_2 ?_
  refine x_istore_n (pc := 5) o dX4_sizeOf_5 rfl hn1 ?_
  refine x_iconst (pc := 6) o dX4_sizeOf_6 ic_4 ?_
  refine x_iconst (pc := 7) o dX4_sizeOf_7 ic_3 ?_
  refine x_iload_n (pc := 8) o dX4_sizeOf_8 rfl rfl ?_
  refine x_imul (pc := 9) o dX4_sizeOf_9 ?_
  refine x_iadd (pc := 10) o dX4_sizeOf_10 ?_
  refine x_aload_n (pc := 11) o dX4_sizeOf_11 rfl rfl ?_
  refine x_iconst (pc := 12) o dX4_sizeOf_12 ic_2 ?_
  obtain ⟨v2, hv2, h⟩ := xbs h
  refine x_callI (pc := 13) (As := [.int ((2 : Int32))]) (b := k0) (rest := [.int (((4 : Int32)) + (((3 : Int32)) * v1))]) o (tX9_count _ M _ k0 ((2 : Int32)) S v2 hv2) eX9_count mX4_22 clX9 (kX9_count hv2) (by decide) rfl rfl (Nat.le_of_ble_eq_true rfl) dX4_sizeOf_13 ?_
  refine x_iload_n (pc := 16) o dX4_sizeOf_16 rfl rfl ?_
  refine x_imul (pc := 17) o dX4_sizeOf_17 ?_
  refine x_iadd (pc := 18) o dX4_sizeOf_18 ?_
  refine x_iconst (pc := 19) o dX4_sizeOf_19 ic_3 ?_
  refine x_aload_n (pc := 20) o dX4_sizeOf_20 rfl rfl ?_
  refine x_iconst (pc := 21) o dX4_sizeOf_21 ic_3 ?_
  obtain ⟨v3, hv3, h⟩ := xbs h
  refine x_callI (pc := 22) (As := [.int ((3 : Int32))]) (b := k0) (rest := [.int ((3 : Int32)), .int ((((4 : Int32)) + (((3 : Int32)) * v1)) + (v2 * v1))]) o (tX9_count _ M _ k0 ((3 : Int32)) S v3 hv3) eX9_count mX4_22 clX9 (kX9_count hv3) (by decide) rfl rfl (Nat.le_of_ble_eq_true rfl) dX4_sizeOf_22 ?_
  refine x_imul (pc := 25) o dX4_sizeOf_25 ?_
  refine x_iadd (pc := 26) o dX4_sizeOf_26 ?_
  refine x_iconst (pc := 27) o dX4_sizeOf_27 ic_1 ?_
  refine x_iadd (pc := 28) o dX4_sizeOf_28 ?_
  exact x_ireturn (pc := 29) o hr dX4_sizeOf_29 (Option.some.inj h) rfl
def fX4_sumOf_L6b (n : Nat) (k0 : Nat) (a1 : Int32) (S : xSt) (rec : Int32 → Int32 → Option (Int32)) (a2 : Int32) (a3 : Int32) : Option (Int32) :=
  if a1 ≤ a3 then
  (some a2)
else
  ((xlen tC k0).bind fun v1 =>
  if v1 ≤ a3 then
  (some a2)
else
  ((xal tC k0 a3 S).bind fun v2 =>
  if ((251 : Int32)) = 0 then none else
  (some (((((5 : Int32)) * a2) + v2) - ((((5 : Int32)) * a2) + v2) / ((251 : Int32)) * ((251 : Int32)))).bind fun v3 =>
  (some (a3 + (1 : Int32))).bind fun v4 =>
  rec v3 v4))
def fX4_sumOf_L6 (n : Nat) (k0 : Nat) (a1 : Int32) (S : xSt) : Nat → Int32 → Int32 → Option (Int32)
  | 0 => fun _ _ => none
  | q + 1 => fX4_sumOf_L6b n k0 a1 S (fX4_sumOf_L6 n k0 a1 S q)
set_option maxHeartbeats 4000000 in
theorem tX4_sumOf_L6b {Γ : xGm} {M : xMg} (o : xOk Γ tC M 1 cX4_sumOf RX4) (hnL : Γ.2.2.2 = 4) {rec : Int32 → Int32 → Option (Int32)} (n : Nat) (k0 : Nat) (a1 : Int32) (S : xSt) (a2 : Int32) (a3 : Int32) (z : (Int32)) (hrec : ∀ (a2 : Int32) (a3 : Int32), rec a2 a3 = some z → xAt Γ tC M 6 (xlv [(0, .ref (M.2.1 k0)), (1, .int a1), (2, .int a2), (3, .int a3)]) [] S) (K : xAt Γ tC M 35 (xlv [(2, .int z)]) [] S) (h : fX4_sumOf_L6b n k0 a1 S rec a2 a3 = some z) : xAt Γ tC M 6 (xlv [(0, .ref (M.2.1 k0)), (1, .int a1), (2, .int a2), (3, .int a3)]) [] S := by
  have hn2 : 2 < Γ.2.2.2 := by omega
  have hn3 : 3 < Γ.2.2.2 := by omega
  unfold fX4_sumOf_L6b at h
  refine x_iload_n (pc := 6) o dX4_sumOf_6 rfl rfl ?_
  refine x_iload_n (pc := 7) o dX4_sumOf_7 rfl rfl ?_
  refine x_icmp_ge (pc := 8) (tgt := 35) o dX4_sumOf_8 (by decide) (fun c6 => ?_) (fun c6 => ?_)
  · have h := xit h c6
    refine x_to (l := [(2, .int a2)]) ⟨rfl, trivial⟩ ?_
    cases Option.some.inj h
    exact K
  · have h := xif h c6
    refine x_iload_n (pc := 11) o dX4_sumOf_11 rfl rfl ?_
    refine x_aload_n (pc := 12) o dX4_sumOf_12 rfl rfl ?_
    obtain ⟨v1, hv1, h⟩ := xbs h
    refine x_arraylength (pc := 13) o dX4_sumOf_13 hv1 ?_
    refine x_icmp_ge (pc := 14) (tgt := 35) o dX4_sumOf_14 (by decide) (fun c5 => ?_) (fun c5 => ?_)
    · have h := xit h c5
      refine x_to (l := [(2, .int a2)]) ⟨rfl, trivial⟩ ?_
      cases Option.some.inj h
      exact K
    · have h := xif h c5
      refine x_iconst (pc := 17) o dX4_sumOf_17 ic_5 ?_
      refine x_iload_n (pc := 18) o dX4_sumOf_18 rfl rfl ?_
      refine x_imul (pc := 19) o dX4_sumOf_19 ?_
      refine x_aload_n (pc := 20) o dX4_sumOf_20 rfl rfl ?_
      refine x_iload_n (pc := 21) o dX4_sumOf_21 rfl rfl ?_
      obtain ⟨v2, hv2, h⟩ := xbs h
      refine x_iaload (pc := 22) o dX4_sumOf_22 hv2 ?_
      refine x_iadd (pc := 23) o dX4_sumOf_23 ?_
      refine x_sipush (pc := 24) o dX4_sumOf_24 sp_251 ?_
      obtain ⟨hq, h⟩ := xcn h
      refine x_irem (pc := 27) o dX4_sumOf_27 hq ?_
      obtain ⟨v3, hv3, h⟩ := xbs h
      refine x_istore_nE (pc := 28) o dX4_sumOf_28 rfl hn2 hv3 ?_
      obtain ⟨v4, hv4, h⟩ := xbs h
      refine x_iincE (pc := 29) o dX4_sumOf_29 rfl ic_1 hn3 hv4 ?_
      refine x_goto (pc := 32) (tgt := 6) o dX4_sumOf_32 (by decide) ?_
      refine x_to (l := [(0, .ref (M.2.1 k0)), (1, .int a1), (2, .int v3), (3, .int v4)]) ⟨rfl, rfl, rfl, rfl, trivial⟩ ?_
      exact hrec v3 v4 h
theorem tX4_sumOf_L6 {Γ : xGm} {M : xMg} (o : xOk Γ tC M 1 cX4_sumOf RX4) (hnL : Γ.2.2.2 = 4) (n : Nat) (k0 : Nat) (a1 : Int32) (S : xSt) (z : (Int32)) (K : xAt Γ tC M 35 (xlv [(2, .int z)]) [] S) : ∀ (q : Nat) (a2 : Int32) (a3 : Int32), fX4_sumOf_L6 n k0 a1 S q a2 a3 = some z → xAt Γ tC M 6 (xlv [(0, .ref (M.2.1 k0)), (1, .int a1), (2, .int a2), (3, .int a3)]) [] S := by
  intro q
  induction q with
  | zero => intro a2 a3 h; cases h
  | succ q ih => intro a2 a3 h; exact tX4_sumOf_L6b o hnL n k0 a1 S a2 a3 z ih K h
def fX4_sumOf (n : Nat) (k0 : Nat) (a1 : Int32) (S : xSt) : Option (Int32) :=
  (fX4_sumOf_L6 n k0 a1 S n ((157 : Int32)) ((0 : Int32))).bind fun z7 => some z7
set_option maxHeartbeats 4000000 in
theorem tX4_sumOf (l : Launch) (M : xMg) (A : Nat → Prop) (n : Nat) (k0 : Nat) (a1 : Int32) (S : xSt) (z : Int32) (h : fX4_sumOf n k0 a1 S = some z) : xMI l yX4_sumOf cX4_sumOf 4 (some .int) 1 tC M A [.ref (M.2.1 k0), .int a1] S z S := by
  refine x_metI (plainFor_of_name (by decide)) tC_ok (Nat.le_of_ble_eq_true rfl) (fun Γ hA hnL hl hr o => ?_)
  subst hA; subst hl
  have o : xOk Γ tC M 1 cX4_sumOf RX4 := o
  unfold fX4_sumOf at h
  refine x_to (l := [(0, .ref (M.2.1 k0)), (1, .int a1)]) ⟨rfl, rfl, trivial⟩ ?_
  have hn2 : 2 < Γ.2.2.2 := by omega
  have hn3 : 3 < Γ.2.2.2 := by omega
  refine x_sipush (pc := 0) o dX4_sumOf_0 sp_157 ?_
  refine x_istore_n (pc := 3) o dX4_sumOf_3 rfl hn2 ?_
  refine x_iconst (pc := 4) o dX4_sumOf_4 ic_0 ?_
  refine x_istore_n (pc := 5) o dX4_sumOf_5 rfl hn3 ?_
  obtain ⟨z7, hz7, h⟩ := xbs h
  refine x_to (l := [(0, .ref (M.2.1 k0)), (1, .int a1), (2, .int ((157 : Int32))), (3, .int ((0 : Int32)))]) ⟨rfl, rfl, rfl, rfl, trivial⟩ ?_
  refine tX4_sumOf_L6 o hnL n k0 a1 S z7 ?_ n ((157 : Int32)) ((0 : Int32)) hz7
  refine x_iload_n (pc := 35) o dX4_sumOf_35 rfl rfl ?_
  exact x_ireturn (pc := 36) o hr dX4_sumOf_36 (Option.some.inj h) rfl
def fX4_put (k0 : Nat) (a1 : Int32) (S : xSt) : Option (xSt) :=
  if tC.1 k0 = 4 then
  ((xgI tC 4 1 k0 S).bind fun v1 =>
  if ((95 : Int32)) ≤ v1 then
  (some S)
else
  ((xgF tC 4 0 k0 S).bind fun r2 =>
  (xgI tC 4 1 k0 S).bind fun v3 =>
  (xas tC r2 v3 (a1 &&& ((255 : Int32))) S).bind fun S4 =>
  (xgI tC 4 1 k0 S4).bind fun v5 =>
  (xpI tC 4 1 k0 (v5 + ((1 : Int32))) S4).bind fun S6 =>
  some S6))
  else none
theorem kX4_put {z : xSt} {k0 : Nat} {a1 : Int32} {S : xSt} (h : fX4_put k0 a1 S = some z) : tC.1 k0 = 4 := by
  unfold fX4_put at h
  exact (xck h).1
set_option maxHeartbeats 4000000 in
theorem tX4_put (l : Launch) (M : xMg) (A : Nat → Prop) (k0 : Nat) (a1 : Int32) (S : xSt) (z : xSt) (h : fX4_put k0 a1 S = some z) : xMV l yX4_put cX4_put 2 none 1 tC M A [.ref (M.2.1 k0), .int a1] S z := by
  refine x_metV (plainFor_of_name (by decide)) tC_ok (Nat.le_of_ble_eq_true rfl) (fun Γ hA hnL hl hr o => ?_)
  subst hA; subst hl
  have o : xOk Γ tC M 1 cX4_put RX4 := o
  unfold fX4_put at h
  obtain ⟨hk0, h⟩ := xck h
  refine x_to (l := [(0, .ref (M.2.1 k0)), (1, .int a1)]) ⟨rfl, rfl, trivial⟩ ?_
  refine x_aload_n (pc := 0) o dX4_put_0 rfl rfl ?_
  obtain ⟨v1, hv1, h⟩ := xbs h
  refine gX4_28 (pc := 1) o dX4_put_1 hv1 ?_
  refine x_bipush (pc := 4) o dX4_put_4 bp_95 ?_
  refine x_icmp_ge (pc := 6) (tgt := 33) o dX4_put_6 (by decide) (fun c7 => ?_) (fun c7 => ?_)
  · have h := xit h c7
    exact x_vreturn (pc := 33) o hr dX4_put_33 (Option.some.inj h)
  · have h := xif h c7
    refine x_aload_n (pc := 9) o dX4_put_9 rfl rfl ?_
    obtain ⟨r2, hr2, h⟩ := xbs h
    refine gX4_11 (pc := 10) o dX4_put_10 hr2 ?_
    refine x_aload_n (pc := 13) o dX4_put_13 rfl rfl ?_
    obtain ⟨v3, hv3, h⟩ := xbs h
    refine gX4_28 (pc := 14) o dX4_put_14 hv3 ?_
    refine x_iload_n (pc := 17) o dX4_put_17 rfl rfl ?_
    refine x_sipush (pc := 18) o dX4_put_18 sp_255 ?_
    refine x_iand (pc := 21) o dX4_put_21 ?_
    obtain ⟨S4, hS4, h⟩ := xbs h
    refine x_iastore (pc := 22) o dX4_put_22 hS4 ?_
    refine x_aload_n (pc := 23) o dX4_put_23 rfl rfl ?_
    refine x_dup (pc := 24) o dX4_put_24 rfl ?_
    obtain ⟨v5, hv5, h⟩ := xbs h
    refine gX4_28 (pc := 25) o dX4_put_25 hv5 ?_
    refine x_iconst (pc := 28) o dX4_put_28 ic_1 ?_
    refine x_iadd (pc := 29) o dX4_put_29 ?_
    obtain ⟨S6, hS6, h⟩ := xbs h
    refine pX4_28 (pc := 30) o dX4_put_30 hS6 ?_
    exact x_vreturn (pc := 33) o hr dX4_put_33 (Option.some.inj h)
def fX4_putTwo (k0 : Nat) (a1 : Int32) (S : xSt) : Option (xSt) :=
  if tC.1 k0 = 4 then
  ((fX4_put k0 (a1 >>> (((8 : Int32)) &&& 31)) S).bind fun S1 =>
  (fX4_put k0 a1 S1).bind fun S2 =>
  some S2)
  else none
theorem kX4_putTwo {z : xSt} {k0 : Nat} {a1 : Int32} {S : xSt} (h : fX4_putTwo k0 a1 S = some z) : tC.1 k0 = 4 := by
  unfold fX4_putTwo at h
  exact (xck h).1
set_option maxHeartbeats 4000000 in
theorem tX4_putTwo (l : Launch) (M : xMg) (A : Nat → Prop) (k0 : Nat) (a1 : Int32) (S : xSt) (z : xSt) (h : fX4_putTwo k0 a1 S = some z) : xMV l yX4_putTwo cX4_putTwo 2 none 2 tC M A [.ref (M.2.1 k0), .int a1] S z := by
  refine x_metV (plainFor_of_name (by decide)) tC_ok (Nat.le_of_ble_eq_true rfl) (fun Γ hA hnL hl hr o => ?_)
  subst hA; subst hl
  have o : xOk Γ tC M 2 cX4_putTwo RX4 := o
  unfold fX4_putTwo at h
  obtain ⟨hk0, h⟩ := xck h
  refine x_to (l := [(0, .ref (M.2.1 k0)), (1, .int a1)]) ⟨rfl, rfl, trivial⟩ ?_
  refine x_aload_n (pc := 0) o dX4_putTwo_0 rfl rfl ?_
  refine x_iload_n (pc := 1) o dX4_putTwo_1 rfl rfl ?_
  refine x_bipush (pc := 2) o dX4_putTwo_2 bp_8 ?_
  refine x_ishr (pc := 4) o dX4_putTwo_4 ?_
  obtain ⟨S1, hS1, h⟩ := xbs h
  refine x_callV (pc := 5) (As := [.int (a1 >>> (((8 : Int32)) &&& 31))]) (b := k0) (rest := []) o (tX4_put _ M _ k0 (a1 >>> (((8 : Int32)) &&& 31)) S S1 hS1) eX4_put mX4_45 clX4 (kX4_put hS1) (by decide) rfl rfl (Nat.le_of_ble_eq_true rfl) dX4_putTwo_5 ?_
  refine x_aload_n (pc := 8) o dX4_putTwo_8 rfl rfl ?_
  refine x_iload_n (pc := 9) o dX4_putTwo_9 rfl rfl ?_
  obtain ⟨S2, hS2, h⟩ := xbs h
  refine x_callV (pc := 10) (As := [.int a1]) (b := k0) (rest := []) o (tX4_put _ M _ k0 a1 S1 S2 hS2) eX4_put mX4_45 clX4 (kX4_put hS2) (by decide) rfl rfl (Nat.le_of_ble_eq_true rfl) dX4_putTwo_10 ?_
  exact x_vreturn (pc := 13) o hr dX4_putTwo_13 (Option.some.inj h)
def fX4_write_L23b (n : Nat) (k0 : Nat) (k1 : Nat) (k2 : Nat) (rec : Int32 → xSt → Option (xSt)) (a3 : Int32) (S : xSt) : Option (xSt) :=
  (fX9_count k1 ((1 : Int32)) S).bind fun v6 =>
  if v6 ≤ a3 then
  (some S)
else
  ((xgF tC 8 5 k2 S).bind fun r7 =>
  (xal tC r7 a3 S).bind fun v8 =>
  (fX4_put k0 v8 S).bind fun S9 =>
  (xgI tC 8 2 k2 S9).bind fun v10 =>
  (fX4_put k0 ((v10 >>> (a3 &&& 31)) &&& ((1 : Int32))) S9).bind fun S11 =>
  (xgI tC 8 3 k2 S11).bind fun v12 =>
  (fX4_put k0 ((v12 >>> (a3 &&& 31)) &&& ((1 : Int32))) S11).bind fun S13 =>
  (some (a3 + (1 : Int32))).bind fun v14 =>
  rec v14 S13)
def fX4_write_L23 (n : Nat) (k0 : Nat) (k1 : Nat) (k2 : Nat) : Nat → Int32 → xSt → Option (xSt)
  | 0 => fun _ _ => none
  | q + 1 => fX4_write_L23b n k0 k1 k2 (fX4_write_L23 n k0 k1 k2 q)
set_option maxHeartbeats 4000000 in
theorem tX4_write_L23b {Γ : xGm} {M : xMg} (o : xOk Γ tC M 3 cX4_write RX4) (hnL : Γ.2.2.2 = 5) {rec : Int32 → xSt → Option (xSt)} (n : Nat) (k0 : Nat) (k1 : Nat) (k2 : Nat) (a3 : Int32) (S : xSt) (z : (xSt)) (hrec : ∀ (a3 : Int32) (S : xSt), rec a3 S = some z → xAt Γ tC M 23 (xlv [(0, .ref (M.2.1 k0)), (1, .ref (M.2.1 k1)), (2, .ref (M.2.1 k2)), (3, .int a3)]) [] S) (K : xAt Γ tC M 72 (xlv [(0, .ref (M.2.1 k0)), (1, .ref (M.2.1 k1)), (2, .ref (M.2.1 k2))]) [] z) (h : fX4_write_L23b n k0 k1 k2 rec a3 S = some z) : xAt Γ tC M 23 (xlv [(0, .ref (M.2.1 k0)), (1, .ref (M.2.1 k1)), (2, .ref (M.2.1 k2)), (3, .int a3)]) [] S := by
  have hn3 : 3 < Γ.2.2.2 := by omega
  unfold fX4_write_L23b at h
  refine x_iload_n (pc := 23) o dX4_write_23 rfl rfl ?_
  refine x_aload_n (pc := 24) o dX4_write_24 rfl rfl ?_
  refine x_iconst (pc := 25) o dX4_write_25 ic_1 ?_
  obtain ⟨v6, hv6, h⟩ := xbs h
  refine x_callI (pc := 26) (As := [.int ((1 : Int32))]) (b := k1) (rest := [.int a3]) o (tX9_count _ M _ k1 ((1 : Int32)) S v6 hv6) eX9_count mX4_22 clX9 (kX9_count hv6) (by decide) rfl rfl (Nat.le_of_ble_eq_true rfl) dX4_write_26 ?_
  refine x_icmp_ge (pc := 29) (tgt := 72) o dX4_write_29 (by decide) (fun c15 => ?_) (fun c15 => ?_)
  · have h := xit h c15
    refine x_to (l := [(0, .ref (M.2.1 k0)), (1, .ref (M.2.1 k1)), (2, .ref (M.2.1 k2))]) ⟨rfl, rfl, rfl, trivial⟩ ?_
    cases Option.some.inj h
    exact K
  · have h := xif h c15
    refine x_aload_n (pc := 32) o dX4_write_32 rfl rfl ?_
    refine x_aload_n (pc := 33) o dX4_write_33 rfl rfl ?_
    obtain ⟨r7, hr7, h⟩ := xbs h
    refine gX4_42 (pc := 34) o dX4_write_34 hr7 ?_
    refine x_iload_n (pc := 37) o dX4_write_37 rfl rfl ?_
    obtain ⟨v8, hv8, h⟩ := xbs h
    refine x_iaload (pc := 38) o dX4_write_38 hv8 ?_
    obtain ⟨S9, hS9, h⟩ := xbs h
    refine x_callV (pc := 39) (As := [.int v8]) (b := k0) (rest := []) o (tX4_put _ M _ k0 v8 S S9 hS9) eX4_put mX4_45 clX4 (kX4_put hS9) (by decide) rfl rfl (Nat.le_of_ble_eq_true rfl) dX4_write_39 ?_
    refine x_aload_n (pc := 42) o dX4_write_42 rfl rfl ?_
    refine x_aload_n (pc := 43) o dX4_write_43 rfl rfl ?_
    obtain ⟨v10, hv10, h⟩ := xbs h
    refine gX4_48 (pc := 44) o dX4_write_44 hv10 ?_
    refine x_iload_n (pc := 47) o dX4_write_47 rfl rfl ?_
    refine x_ishr (pc := 48) o dX4_write_48 ?_
    refine x_iconst (pc := 49) o dX4_write_49 ic_1 ?_
    refine x_iand (pc := 50) o dX4_write_50 ?_
    obtain ⟨S11, hS11, h⟩ := xbs h
    refine x_callV (pc := 51) (As := [.int ((v10 >>> (a3 &&& 31)) &&& ((1 : Int32)))]) (b := k0) (rest := []) o (tX4_put _ M _ k0 ((v10 >>> (a3 &&& 31)) &&& ((1 : Int32))) S9 S11 hS11) eX4_put mX4_45 clX4 (kX4_put hS11) (by decide) rfl rfl (Nat.le_of_ble_eq_true rfl) dX4_write_51 ?_
    refine x_aload_n (pc := 54) o dX4_write_54 rfl rfl ?_
    refine x_aload_n (pc := 55) o dX4_write_55 rfl rfl ?_
    obtain ⟨v12, hv12, h⟩ := xbs h
    refine gX4_51 (pc := 56) o dX4_write_56 hv12 ?_
    refine x_iload_n (pc := 59) o dX4_write_59 rfl rfl ?_
    refine x_ishr (pc := 60) o dX4_write_60 ?_
    refine x_iconst (pc := 61) o dX4_write_61 ic_1 ?_
    refine x_iand (pc := 62) o dX4_write_62 ?_
    obtain ⟨S13, hS13, h⟩ := xbs h
    refine x_callV (pc := 63) (As := [.int ((v12 >>> (a3 &&& 31)) &&& ((1 : Int32)))]) (b := k0) (rest := []) o (tX4_put _ M _ k0 ((v12 >>> (a3 &&& 31)) &&& ((1 : Int32))) S11 S13 hS13) eX4_put mX4_45 clX4 (kX4_put hS13) (by decide) rfl rfl (Nat.le_of_ble_eq_true rfl) dX4_write_63 ?_
    obtain ⟨v14, hv14, h⟩ := xbs h
    refine x_iincE (pc := 66) o dX4_write_66 rfl ic_1 hn3 hv14 ?_
    refine x_goto (pc := 69) (tgt := 23) o dX4_write_69 (by decide) ?_
    refine x_to (l := [(0, .ref (M.2.1 k0)), (1, .ref (M.2.1 k1)), (2, .ref (M.2.1 k2)), (3, .int v14)]) ⟨rfl, rfl, rfl, rfl, trivial⟩ ?_
    exact hrec v14 S13 h
theorem tX4_write_L23 {Γ : xGm} {M : xMg} (o : xOk Γ tC M 3 cX4_write RX4) (hnL : Γ.2.2.2 = 5) (n : Nat) (k0 : Nat) (k1 : Nat) (k2 : Nat) (z : (xSt)) (K : xAt Γ tC M 72 (xlv [(0, .ref (M.2.1 k0)), (1, .ref (M.2.1 k1)), (2, .ref (M.2.1 k2))]) [] z) : ∀ (q : Nat) (a3 : Int32) (S : xSt), fX4_write_L23 n k0 k1 k2 q a3 S = some z → xAt Γ tC M 23 (xlv [(0, .ref (M.2.1 k0)), (1, .ref (M.2.1 k1)), (2, .ref (M.2.1 k2)), (3, .int a3)]) [] S := by
  intro q
  induction q with
  | zero => intro a3 S h; cases h
  | succ q ih => intro a3 S h; exact tX4_write_L23b o hnL n k0 k1 k2 a3 S z ih K h
def fX4_write_L86b (n : Nat) (k0 : Nat) (k1 : Nat) (k2 : Nat) (a3 : Int32) (rec : Int32 → xSt → Option (xSt)) (a4 : Int32) (S : xSt) : Option (xSt) :=
  (fX9_count k1 ((1 : Int32)) S).bind fun v18 =>
  if v18 ≤ a4 then
  (some S)
else
  ((fX8_knownBy k2 a3 a4 S).bind fun v19 =>
  (fX4_put k0 v19 S).bind fun S20 =>
  (some (a4 + (1 : Int32))).bind fun v21 =>
  rec v21 S20)
def fX4_write_L86 (n : Nat) (k0 : Nat) (k1 : Nat) (k2 : Nat) (a3 : Int32) : Nat → Int32 → xSt → Option (xSt)
  | 0 => fun _ _ => none
  | q + 1 => fX4_write_L86b n k0 k1 k2 a3 (fX4_write_L86 n k0 k1 k2 a3 q)
set_option maxHeartbeats 4000000 in
theorem tX4_write_L86b {Γ : xGm} {M : xMg} (o : xOk Γ tC M 3 cX4_write RX4) (hnL : Γ.2.2.2 = 5) {rec : Int32 → xSt → Option (xSt)} (n : Nat) (k0 : Nat) (k1 : Nat) (k2 : Nat) (a3 : Int32) (a4 : Int32) (S : xSt) (z : (xSt)) (hrec : ∀ (a4 : Int32) (S : xSt), rec a4 S = some z → xAt Γ tC M 86 (xlv [(0, .ref (M.2.1 k0)), (1, .ref (M.2.1 k1)), (2, .ref (M.2.1 k2)), (3, .int a3), (4, .int a4)]) [] S) (K : xAt Γ tC M 113 (xlv [(0, .ref (M.2.1 k0)), (1, .ref (M.2.1 k1)), (2, .ref (M.2.1 k2)), (3, .int a3)]) [] z) (h : fX4_write_L86b n k0 k1 k2 a3 rec a4 S = some z) : xAt Γ tC M 86 (xlv [(0, .ref (M.2.1 k0)), (1, .ref (M.2.1 k1)), (2, .ref (M.2.1 k2)), (3, .int a3), (4, .int a4)]) [] S := by
  have hn4 : 4 < Γ.2.2.2 := by omega
  unfold fX4_write_L86b at h
  refine x_iload (pc := 86) o dX4_write_86 rfl ?_
  refine x_aload_n (pc := 88) o dX4_write_88 rfl rfl ?_
  refine x_iconst (pc := 89) o dX4_write_89 ic_1 ?_
  obtain ⟨v18, hv18, h⟩ := xbs h
  refine x_callI (pc := 90) (As := [.int ((1 : Int32))]) (b := k1) (rest := [.int a4]) o (tX9_count _ M _ k1 ((1 : Int32)) S v18 hv18) eX9_count mX4_22 clX9 (kX9_count hv18) (by decide) rfl rfl (Nat.le_of_ble_eq_true rfl) dX4_write_90 ?_
  refine x_icmp_ge (pc := 93) (tgt := 113) o dX4_write_93 (by decide) (fun c22 => ?_) (fun c22 => ?_)
  · have h := xit h c22
    refine x_to (l := [(0, .ref (M.2.1 k0)), (1, .ref (M.2.1 k1)), (2, .ref (M.2.1 k2)), (3, .int a3)]) ⟨rfl, rfl, rfl, rfl, trivial⟩ ?_
    cases Option.some.inj h
    exact K
  · have h := xif h c22
    refine x_aload_n (pc := 96) o dX4_write_96 rfl rfl ?_
    refine x_aload_n (pc := 97) o dX4_write_97 rfl rfl ?_
    refine x_iload_n (pc := 98) o dX4_write_98 rfl rfl ?_
    refine x_iload (pc := 99) o dX4_write_99 rfl ?_
    obtain ⟨v19, hv19, h⟩ := xbs h
    refine x_callI (pc := 101) (As := [.int a3, .int a4]) (b := k2) (rest := [.ref (M.2.1 k0)]) o (tX8_knownBy _ M _ k2 a3 a4 S v19 hv19) eX8_knownBy mX4_54 clX8 (kX8_knownBy hv19) (by decide) rfl rfl (Nat.le_of_ble_eq_true rfl) dX4_write_101 ?_
    obtain ⟨S20, hS20, h⟩ := xbs h
    refine x_callV (pc := 104) (As := [.int v19]) (b := k0) (rest := []) o (tX4_put _ M _ k0 v19 S S20 hS20) eX4_put mX4_45 clX4 (kX4_put hS20) (by decide) rfl rfl (Nat.le_of_ble_eq_true rfl) dX4_write_104 ?_
    obtain ⟨v21, hv21, h⟩ := xbs h
    refine x_iincE (pc := 107) o dX4_write_107 rfl ic_1 hn4 hv21 ?_
    refine x_goto (pc := 110) (tgt := 86) o dX4_write_110 (by decide) ?_
    refine x_to (l := [(0, .ref (M.2.1 k0)), (1, .ref (M.2.1 k1)), (2, .ref (M.2.1 k2)), (3, .int a3), (4, .int v21)]) ⟨rfl, rfl, rfl, rfl, rfl, trivial⟩ ?_
    exact hrec v21 S20 h
theorem tX4_write_L86 {Γ : xGm} {M : xMg} (o : xOk Γ tC M 3 cX4_write RX4) (hnL : Γ.2.2.2 = 5) (n : Nat) (k0 : Nat) (k1 : Nat) (k2 : Nat) (a3 : Int32) (z : (xSt)) (K : xAt Γ tC M 113 (xlv [(0, .ref (M.2.1 k0)), (1, .ref (M.2.1 k1)), (2, .ref (M.2.1 k2)), (3, .int a3)]) [] z) : ∀ (q : Nat) (a4 : Int32) (S : xSt), fX4_write_L86 n k0 k1 k2 a3 q a4 S = some z → xAt Γ tC M 86 (xlv [(0, .ref (M.2.1 k0)), (1, .ref (M.2.1 k1)), (2, .ref (M.2.1 k2)), (3, .int a3), (4, .int a4)]) [] S := by
  intro q
  induction q with
  | zero => intro a4 S h; cases h
  | succ q ih => intro a4 S h; exact tX4_write_L86b o hnL n k0 k1 k2 a3 a4 S z ih K h
def fX4_write_L74b (n : Nat) (k0 : Nat) (k1 : Nat) (k2 : Nat) (rec : Int32 → xSt → Option (xSt)) (a3 : Int32) (S : xSt) : Option (xSt) :=
  (fX9_count k1 ((2 : Int32)) S).bind fun v17 =>
  if v17 ≤ a3 then
  (some S)
else
  ((fX4_write_L86 n k0 k1 k2 a3 n ((0 : Int32)) S).bind fun z23 => (some (a3 + (1 : Int32))).bind fun v24 =>
  rec v24 z23)
def fX4_write_L74 (n : Nat) (k0 : Nat) (k1 : Nat) (k2 : Nat) : Nat → Int32 → xSt → Option (xSt)
  | 0 => fun _ _ => none
  | q + 1 => fX4_write_L74b n k0 k1 k2 (fX4_write_L74 n k0 k1 k2 q)
set_option maxHeartbeats 4000000 in
theorem tX4_write_L74b {Γ : xGm} {M : xMg} (o : xOk Γ tC M 3 cX4_write RX4) (hnL : Γ.2.2.2 = 5) {rec : Int32 → xSt → Option (xSt)} (n : Nat) (k0 : Nat) (k1 : Nat) (k2 : Nat) (a3 : Int32) (S : xSt) (z : (xSt)) (hrec : ∀ (a3 : Int32) (S : xSt), rec a3 S = some z → xAt Γ tC M 74 (xlv [(0, .ref (M.2.1 k0)), (1, .ref (M.2.1 k1)), (2, .ref (M.2.1 k2)), (3, .int a3)]) [] S) (K : xAt Γ tC M 119 (xlv [(0, .ref (M.2.1 k0)), (1, .ref (M.2.1 k1)), (2, .ref (M.2.1 k2))]) [] z) (h : fX4_write_L74b n k0 k1 k2 rec a3 S = some z) : xAt Γ tC M 74 (xlv [(0, .ref (M.2.1 k0)), (1, .ref (M.2.1 k1)), (2, .ref (M.2.1 k2)), (3, .int a3)]) [] S := by
  have hn3 : 3 < Γ.2.2.2 := by omega
  have hn4 : 4 < Γ.2.2.2 := by omega
  unfold fX4_write_L74b at h
  refine x_iload_n (pc := 74) o dX4_write_74 rfl rfl ?_
  refine x_aload_n (pc := 75) o dX4_write_75 rfl rfl ?_
  refine x_iconst (pc := 76) o dX4_write_76 ic_2 ?_
  obtain ⟨v17, hv17, h⟩ := xbs h
  refine x_callI (pc := 77) (As := [.int ((2 : Int32))]) (b := k1) (rest := [.int a3]) o (tX9_count _ M _ k1 ((2 : Int32)) S v17 hv17) eX9_count mX4_22 clX9 (kX9_count hv17) (by decide) rfl rfl (Nat.le_of_ble_eq_true rfl) dX4_write_77 ?_
  refine x_icmp_ge (pc := 80) (tgt := 119) o dX4_write_80 (by decide) (fun c25 => ?_) (fun c25 => ?_)
  · have h := xit h c25
    refine x_to (l := [(0, .ref (M.2.1 k0)), (1, .ref (M.2.1 k1)), (2, .ref (M.2.1 k2))]) ⟨rfl, rfl, rfl, trivial⟩ ?_
    cases Option.some.inj h
    exact K
  · have h := xif h c25
    refine x_iconst (pc := 83) o dX4_write_83 ic_0 ?_
    refine x_istore (pc := 84) o dX4_write_84 hn4 ?_
    obtain ⟨z23, hz23, h⟩ := xbs h
    refine x_to (l := [(0, .ref (M.2.1 k0)), (1, .ref (M.2.1 k1)), (2, .ref (M.2.1 k2)), (3, .int a3), (4, .int ((0 : Int32)))]) ⟨rfl, rfl, rfl, rfl, rfl, trivial⟩ ?_
    refine tX4_write_L86 o hnL n k0 k1 k2 a3 z23 ?_ n ((0 : Int32)) S hz23
    obtain ⟨v24, hv24, h⟩ := xbs h
    refine x_iincE (pc := 113) o dX4_write_113 rfl ic_1 hn3 hv24 ?_
    refine x_goto (pc := 116) (tgt := 74) o dX4_write_116 (by decide) ?_
    refine x_to (l := [(0, .ref (M.2.1 k0)), (1, .ref (M.2.1 k1)), (2, .ref (M.2.1 k2)), (3, .int v24)]) ⟨rfl, rfl, rfl, rfl, trivial⟩ ?_
    exact hrec v24 z23 h
theorem tX4_write_L74 {Γ : xGm} {M : xMg} (o : xOk Γ tC M 3 cX4_write RX4) (hnL : Γ.2.2.2 = 5) (n : Nat) (k0 : Nat) (k1 : Nat) (k2 : Nat) (z : (xSt)) (K : xAt Γ tC M 119 (xlv [(0, .ref (M.2.1 k0)), (1, .ref (M.2.1 k1)), (2, .ref (M.2.1 k2))]) [] z) : ∀ (q : Nat) (a3 : Int32) (S : xSt), fX4_write_L74 n k0 k1 k2 q a3 S = some z → xAt Γ tC M 74 (xlv [(0, .ref (M.2.1 k0)), (1, .ref (M.2.1 k1)), (2, .ref (M.2.1 k2)), (3, .int a3)]) [] S := by
  intro q
  induction q with
  | zero => intro a3 S h; cases h
  | succ q ih => intro a3 S h; exact tX4_write_L74b o hnL n k0 k1 k2 a3 S z ih K h
def fX4_write_L121b (n : Nat) (k0 : Nat) (k1 : Nat) (k2 : Nat) (rec : Int32 → xSt → Option (xSt)) (a3 : Int32) (S : xSt) : Option (xSt) :=
  (fX9_count k1 ((3 : Int32)) S).bind fun v27 =>
  if v27 ≤ a3 then
  (some S)
else
  ((xgF tC 8 7 k2 S).bind fun r28 =>
  (xal tC r28 a3 S).bind fun v29 =>
  (fX4_put k0 v29 S).bind fun S30 =>
  (xgF tC 8 8 k2 S30).bind fun r31 =>
  (xal tC r31 a3 S30).bind fun v32 =>
  (fX4_putTwo k0 v32 S30).bind fun S33 =>
  (some (a3 + (1 : Int32))).bind fun v34 =>
  rec v34 S33)
def fX4_write_L121 (n : Nat) (k0 : Nat) (k1 : Nat) (k2 : Nat) : Nat → Int32 → xSt → Option (xSt)
  | 0 => fun _ _ => none
  | q + 1 => fX4_write_L121b n k0 k1 k2 (fX4_write_L121 n k0 k1 k2 q)
set_option maxHeartbeats 4000000 in
theorem tX4_write_L121b {Γ : xGm} {M : xMg} (o : xOk Γ tC M 3 cX4_write RX4) (hnL : Γ.2.2.2 = 5) {rec : Int32 → xSt → Option (xSt)} (n : Nat) (k0 : Nat) (k1 : Nat) (k2 : Nat) (a3 : Int32) (S : xSt) (z : (xSt)) (hrec : ∀ (a3 : Int32) (S : xSt), rec a3 S = some z → xAt Γ tC M 121 (xlv [(0, .ref (M.2.1 k0)), (1, .ref (M.2.1 k1)), (2, .ref (M.2.1 k2)), (3, .int a3)]) [] S) (K : xAt Γ tC M 156 (xlv [(0, .ref (M.2.1 k0))]) [] z) (h : fX4_write_L121b n k0 k1 k2 rec a3 S = some z) : xAt Γ tC M 121 (xlv [(0, .ref (M.2.1 k0)), (1, .ref (M.2.1 k1)), (2, .ref (M.2.1 k2)), (3, .int a3)]) [] S := by
  have hn3 : 3 < Γ.2.2.2 := by omega
  unfold fX4_write_L121b at h
  refine x_iload_n (pc := 121) o dX4_write_121 rfl rfl ?_
  refine x_aload_n (pc := 122) o dX4_write_122 rfl rfl ?_
  refine x_iconst (pc := 123) o dX4_write_123 ic_3 ?_
  obtain ⟨v27, hv27, h⟩ := xbs h
  refine x_callI (pc := 124) (As := [.int ((3 : Int32))]) (b := k1) (rest := [.int a3]) o (tX9_count _ M _ k1 ((3 : Int32)) S v27 hv27) eX9_count mX4_22 clX9 (kX9_count hv27) (by decide) rfl rfl (Nat.le_of_ble_eq_true rfl) dX4_write_124 ?_
  refine x_icmp_ge (pc := 127) (tgt := 156) o dX4_write_127 (by decide) (fun c35 => ?_) (fun c35 => ?_)
  · have h := xit h c35
    refine x_to (l := [(0, .ref (M.2.1 k0))]) ⟨rfl, trivial⟩ ?_
    cases Option.some.inj h
    exact K
  · have h := xif h c35
    refine x_aload_n (pc := 130) o dX4_write_130 rfl rfl ?_
    refine x_aload_n (pc := 131) o dX4_write_131 rfl rfl ?_
    obtain ⟨r28, hr28, h⟩ := xbs h
    refine gX4_58 (pc := 132) o dX4_write_132 hr28 ?_
    refine x_iload_n (pc := 135) o dX4_write_135 rfl rfl ?_
    obtain ⟨v29, hv29, h⟩ := xbs h
    refine x_iaload (pc := 136) o dX4_write_136 hv29 ?_
    obtain ⟨S30, hS30, h⟩ := xbs h
    refine x_callV (pc := 137) (As := [.int v29]) (b := k0) (rest := []) o (tX4_put _ M _ k0 v29 S S30 hS30) eX4_put mX4_45 clX4 (kX4_put hS30) (by decide) rfl rfl (Nat.le_of_ble_eq_true rfl) dX4_write_137 ?_
    refine x_aload_n (pc := 140) o dX4_write_140 rfl rfl ?_
    refine x_aload_n (pc := 141) o dX4_write_141 rfl rfl ?_
    obtain ⟨r31, hr31, h⟩ := xbs h
    refine gX4_61 (pc := 142) o dX4_write_142 hr31 ?_
    refine x_iload_n (pc := 145) o dX4_write_145 rfl rfl ?_
    obtain ⟨v32, hv32, h⟩ := xbs h
    refine x_iaload (pc := 146) o dX4_write_146 hv32 ?_
    obtain ⟨S33, hS33, h⟩ := xbs h
    refine x_callV (pc := 147) (As := [.int v32]) (b := k0) (rest := []) o (tX4_putTwo _ M _ k0 v32 S30 S33 hS33) eX4_putTwo mX4_35 clX4 (kX4_putTwo hS33) (by decide) rfl rfl (Nat.le_of_ble_eq_true rfl) dX4_write_147 ?_
    obtain ⟨v34, hv34, h⟩ := xbs h
    refine x_iincE (pc := 150) o dX4_write_150 rfl ic_1 hn3 hv34 ?_
    refine x_goto (pc := 153) (tgt := 121) o dX4_write_153 (by decide) ?_
    refine x_to (l := [(0, .ref (M.2.1 k0)), (1, .ref (M.2.1 k1)), (2, .ref (M.2.1 k2)), (3, .int v34)]) ⟨rfl, rfl, rfl, rfl, trivial⟩ ?_
    exact hrec v34 S33 h
theorem tX4_write_L121 {Γ : xGm} {M : xMg} (o : xOk Γ tC M 3 cX4_write RX4) (hnL : Γ.2.2.2 = 5) (n : Nat) (k0 : Nat) (k1 : Nat) (k2 : Nat) (z : (xSt)) (K : xAt Γ tC M 156 (xlv [(0, .ref (M.2.1 k0))]) [] z) : ∀ (q : Nat) (a3 : Int32) (S : xSt), fX4_write_L121 n k0 k1 k2 q a3 S = some z → xAt Γ tC M 121 (xlv [(0, .ref (M.2.1 k0)), (1, .ref (M.2.1 k1)), (2, .ref (M.2.1 k2)), (3, .int a3)]) [] S := by
  intro q
  induction q with
  | zero => intro a3 S h; cases h
  | succ q ih => intro a3 S h; exact tX4_write_L121b o hnL n k0 k1 k2 a3 S z ih K h
def fX4_write (n : Nat) (k0 : Nat) (k1 : Nat) (k2 : Nat) (S : xSt) : Option (Int32 × xSt) :=
  if tC.1 k0 = 4 then
  ((xpI tC 4 1 k0 ((0 : Int32)) S).bind fun S1 =>
  (xgI tC 8 0 k2 S1).bind fun v2 =>
  (fX4_putTwo k0 v2 S1).bind fun S3 =>
  (xgI tC 8 1 k2 S3).bind fun v4 =>
  (fX4_putTwo k0 v4 S3).bind fun S5 =>
  (fX4_write_L23 n k0 k1 k2 n ((0 : Int32)) S5).bind fun z16 => (fX4_write_L74 n k0 k1 k2 n ((0 : Int32)) z16).bind fun z26 => (fX4_write_L121 n k0 k1 k2 n ((0 : Int32)) z26).bind fun z36 => (xgF tC 4 0 k0 z36).bind fun r37 =>
  (xgI tC 4 1 k0 z36).bind fun v38 =>
  (fX4_sumOf n r37 v38 z36).bind fun v39 =>
  (fX4_put k0 v39 z36).bind fun S40 =>
  (xgI tC 4 1 k0 S40).bind fun v41 =>
  some (v41, S40))
  else none
theorem kX4_write {z : Int32 × xSt} {n : Nat} {k0 : Nat} {k1 : Nat} {k2 : Nat} {S : xSt} (h : fX4_write n k0 k1 k2 S = some z) : tC.1 k0 = 4 := by
  unfold fX4_write at h
  exact (xck h).1
set_option maxHeartbeats 4000000 in
theorem tX4_write (l : Launch) (M : xMg) (A : Nat → Prop) (n : Nat) (k0 : Nat) (k1 : Nat) (k2 : Nat) (S : xSt) (z : Int32 × xSt) (h : fX4_write n k0 k1 k2 S = some z) : xMI l yX4_write cX4_write 5 (some .int) 3 tC M A [.ref (M.2.1 k0), .ref (M.2.1 k1), .ref (M.2.1 k2)] S z.1 z.2 := by
  refine x_metI (plainFor_of_name (by decide)) tC_ok (Nat.le_of_ble_eq_true rfl) (fun Γ hA hnL hl hr o => ?_)
  subst hA; subst hl
  have o : xOk Γ tC M 3 cX4_write RX4 := o
  unfold fX4_write at h
  obtain ⟨hk0, h⟩ := xck h
  refine x_to (l := [(0, .ref (M.2.1 k0)), (1, .ref (M.2.1 k1)), (2, .ref (M.2.1 k2))]) ⟨rfl, rfl, rfl, trivial⟩ ?_
  have hn3 : 3 < Γ.2.2.2 := by omega
  refine x_aload_n (pc := 0) o dX4_write_0 rfl rfl ?_
  refine x_iconst (pc := 1) o dX4_write_1 ic_0 ?_
  obtain ⟨S1, hS1, h⟩ := xbs h
  refine pX4_28 (pc := 2) o dX4_write_2 hS1 ?_
  refine x_aload_n (pc := 5) o dX4_write_5 rfl rfl ?_
  refine x_aload_n (pc := 6) o dX4_write_6 rfl rfl ?_
  obtain ⟨v2, hv2, h⟩ := xbs h
  refine gX4_32 (pc := 7) o dX4_write_7 hv2 ?_
  obtain ⟨S3, hS3, h⟩ := xbs h
  refine x_callV (pc := 10) (As := [.int v2]) (b := k0) (rest := []) o (tX4_putTwo _ M _ k0 v2 S1 S3 hS3) eX4_putTwo mX4_35 clX4 (kX4_putTwo hS3) (by decide) rfl rfl (Nat.le_of_ble_eq_true rfl) dX4_write_10 ?_
  refine x_aload_n (pc := 13) o dX4_write_13 rfl rfl ?_
  refine x_aload_n (pc := 14) o dX4_write_14 rfl rfl ?_
  obtain ⟨v4, hv4, h⟩ := xbs h
  refine gX4_39 (pc := 15) o dX4_write_15 hv4 ?_
  obtain ⟨S5, hS5, h⟩ := xbs h
  refine x_callV (pc := 18) (As := [.int v4]) (b := k0) (rest := []) o (tX4_putTwo _ M _ k0 v4 S3 S5 hS5) eX4_putTwo mX4_35 clX4 (kX4_putTwo hS5) (by decide) rfl rfl (Nat.le_of_ble_eq_true rfl) dX4_write_18 ?_
  refine x_iconst (pc := 21) o dX4_write_21 ic_0 ?_
  refine x_istore_n (pc := 22) o dX4_write_22 rfl hn3 ?_
  obtain ⟨z16, hz16, h⟩ := xbs h
  refine x_to (l := [(0, .ref (M.2.1 k0)), (1, .ref (M.2.1 k1)), (2, .ref (M.2.1 k2)), (3, .int ((0 : Int32)))]) ⟨rfl, rfl, rfl, rfl, trivial⟩ ?_
  refine tX4_write_L23 o hnL n k0 k1 k2 z16 ?_ n ((0 : Int32)) S5 hz16
  refine x_iconst (pc := 72) o dX4_write_72 ic_0 ?_
  refine x_istore_n (pc := 73) o dX4_write_73 rfl hn3 ?_
  obtain ⟨z26, hz26, h⟩ := xbs h
  refine x_to (l := [(0, .ref (M.2.1 k0)), (1, .ref (M.2.1 k1)), (2, .ref (M.2.1 k2)), (3, .int ((0 : Int32)))]) ⟨rfl, rfl, rfl, rfl, trivial⟩ ?_
  refine tX4_write_L74 o hnL n k0 k1 k2 z26 ?_ n ((0 : Int32)) z16 hz26
  refine x_iconst (pc := 119) o dX4_write_119 ic_0 ?_
  refine x_istore_n (pc := 120) o dX4_write_120 rfl hn3 ?_
  obtain ⟨z36, hz36, h⟩ := xbs h
  refine x_to (l := [(0, .ref (M.2.1 k0)), (1, .ref (M.2.1 k1)), (2, .ref (M.2.1 k2)), (3, .int ((0 : Int32)))]) ⟨rfl, rfl, rfl, rfl, trivial⟩ ?_
  refine tX4_write_L121 o hnL n k0 k1 k2 z36 ?_ n ((0 : Int32)) z26 hz36
  refine x_aload_n (pc := 156) o dX4_write_156 rfl rfl ?_
  refine x_aload_n (pc := 157) o dX4_write_157 rfl rfl ?_
  obtain ⟨r37, hr37, h⟩ := xbs h
  refine gX4_11 (pc := 158) o dX4_write_158 hr37 ?_
  refine x_aload_n (pc := 161) o dX4_write_161 rfl rfl ?_
  obtain ⟨v38, hv38, h⟩ := xbs h
  refine gX4_28 (pc := 162) o dX4_write_162 hv38 ?_
  obtain ⟨v39, hv39, h⟩ := xbs h
  refine x_statI (pc := 165) (As := [.ref (M.2.1 r37), .int v38]) (rest := [.ref (M.2.1 k0)]) o (tX4_sumOf _ M _ n r37 v38 z36 v39 hv39) eX4_sumOf mX4_64 (by decide) rfl rfl (Nat.le_of_ble_eq_true rfl) dX4_write_165 ?_
  obtain ⟨S40, hS40, h⟩ := xbs h
  refine x_callV (pc := 168) (As := [.int v39]) (b := k0) (rest := []) o (tX4_put _ M _ k0 v39 z36 S40 hS40) eX4_put mX4_45 clX4 (kX4_put hS40) (by decide) rfl rfl (Nat.le_of_ble_eq_true rfl) dX4_write_168 ?_
  refine x_aload_n (pc := 171) o dX4_write_171 rfl rfl ?_
  obtain ⟨v41, hv41, h⟩ := xbs h
  refine gX4_28 (pc := 172) o dX4_write_172 hv41 ?_
  exact x_ireturn (pc := 175) o hr dX4_write_175 (xr1 h) (xr2 h)
def fX4_bounded (k0 : Nat) (a1 : Int32) (a2 : Int32) (S : xSt) : Option (Int32 × xSt) :=
  if tC.1 k0 = 4 then
  ((xgI tC 4 4 k0 S).bind fun v1 =>
  if v1 = 0 then
  ((xpZ tC 4 4 k0 ((0 : Int32)) S).bind fun S2 =>
  (some (if a2 < a1 then a2 else a1)).bind fun v3 =>
  some (v3, S2))
else
  (if a2 < a1 then
  ((xpZ tC 4 4 k0 ((0 : Int32)) S).bind fun S4 =>
  (some (if a2 < a1 then a2 else a1)).bind fun v5 =>
  some (v5, S4))
else
  ((xpZ tC 4 4 k0 ((1 : Int32)) S).bind fun S6 =>
  (some (if a2 < a1 then a2 else a1)).bind fun v7 =>
  some (v7, S6))))
  else none
theorem kX4_bounded {z : Int32 × xSt} {k0 : Nat} {a1 : Int32} {a2 : Int32} {S : xSt} (h : fX4_bounded k0 a1 a2 S = some z) : tC.1 k0 = 4 := by
  unfold fX4_bounded at h
  exact (xck h).1
set_option maxHeartbeats 4000000 in
theorem tX4_bounded (l : Launch) (M : xMg) (A : Nat → Prop) (k0 : Nat) (a1 : Int32) (a2 : Int32) (S : xSt) (z : Int32 × xSt) (h : fX4_bounded k0 a1 a2 S = some z) : xMI l yX4_bounded cX4_bounded 3 (some .int) 2 tC M A [.ref (M.2.1 k0), .int a1, .int a2] S z.1 z.2 := by
  refine x_metI (plainFor_of_name (by decide)) tC_ok (Nat.le_of_ble_eq_true rfl) (fun Γ hA hnL hl hr o => ?_)
  subst hA; subst hl
  have o : xOk Γ tC M 2 cX4_bounded RX4 := o
  unfold fX4_bounded at h
  obtain ⟨hk0, h⟩ := xck h
  refine x_to (l := [(0, .ref (M.2.1 k0)), (1, .int a1), (2, .int a2)]) ⟨rfl, rfl, rfl, trivial⟩ ?_
  refine x_aload_n (pc := 0) o dX4_bounded_0 rfl rfl ?_
  refine x_aload_n (pc := 1) o dX4_bounded_1 rfl rfl ?_
  obtain ⟨v1, hv1, h⟩ := xbs h
  refine gX4_75 (pc := 2) o dX4_bounded_2 hv1 ?_
  refine x_if_eq (pc := 5) (tgt := 17) o dX4_bounded_5 (by decide) (fun c9 => ?_) (fun c9 => ?_)
  · have h := xit h c9
    refine x_iconst (pc := 17) o dX4_bounded_17 ic_0 ?_
    obtain ⟨S2, hS2, h⟩ := xbs h
    refine pX4_75 (pc := 18) o dX4_bounded_18 hS2 ?_
    refine x_iload_n (pc := 21) o dX4_bounded_21 rfl rfl ?_
    refine x_iload_n (pc := 22) o dX4_bounded_22 rfl rfl ?_
    obtain ⟨v3, hv3, h⟩ := xbs h
    refine x_mminE (pc := 23) o mX4_96 w_min1 w_min2 w_min3 (by decide) (Nat.le_of_ble_eq_true rfl) dX4_bounded_23 hv3 ?_
    exact x_ireturn (pc := 26) o hr dX4_bounded_26 (xr1 h) (xr2 h)
  · have h := xif h c9
    refine x_iload_n (pc := 8) o dX4_bounded_8 rfl rfl ?_
    refine x_iload_n (pc := 9) o dX4_bounded_9 rfl rfl ?_
    refine x_icmp_gt (pc := 10) (tgt := 17) o dX4_bounded_10 (by decide) (fun c8 => ?_) (fun c8 => ?_)
    · have h := xit h c8
      refine x_iconst (pc := 17) o dX4_bounded_17 ic_0 ?_
      obtain ⟨S4, hS4, h⟩ := xbs h
      refine pX4_75 (pc := 18) o dX4_bounded_18 hS4 ?_
      refine x_iload_n (pc := 21) o dX4_bounded_21 rfl rfl ?_
      refine x_iload_n (pc := 22) o dX4_bounded_22 rfl rfl ?_
      obtain ⟨v5, hv5, h⟩ := xbs h
      refine x_mminE (pc := 23) o mX4_96 w_min1 w_min2 w_min3 (by decide) (Nat.le_of_ble_eq_true rfl) dX4_bounded_23 hv5 ?_
      exact x_ireturn (pc := 26) o hr dX4_bounded_26 (xr1 h) (xr2 h)
    · have h := xif h c8
      refine x_iconst (pc := 13) o dX4_bounded_13 ic_1 ?_
      refine x_goto (pc := 14) (tgt := 18) o dX4_bounded_14 (by decide) ?_
      obtain ⟨S6, hS6, h⟩ := xbs h
      refine pX4_75 (pc := 18) o dX4_bounded_18 hS6 ?_
      refine x_iload_n (pc := 21) o dX4_bounded_21 rfl rfl ?_
      refine x_iload_n (pc := 22) o dX4_bounded_22 rfl rfl ?_
      obtain ⟨v7, hv7, h⟩ := xbs h
      refine x_mminE (pc := 23) o mX4_96 w_min1 w_min2 w_min3 (by decide) (Nat.le_of_ble_eq_true rfl) dX4_bounded_23 hv7 ?_
      exact x_ireturn (pc := 26) o hr dX4_bounded_26 (xr1 h) (xr2 h)
def fX4_take (k0 : Nat) (k1 : Nat) (a2 : Int32) (S : xSt) : Option (Int32 × xSt) :=
  if tC.1 k0 = 4 then
  ((xgI tC 4 3 k0 S).bind fun v1 =>
  (xlen tC k1).bind fun v2 =>
  if v2 ≤ v1 then
  ((xgI tC 4 3 k0 S).bind fun v3 =>
  (xpI tC 4 3 k0 (v3 + ((1 : Int32))) S).bind fun S4 =>
  (fX4_bounded k0 ((0 : Int32)) a2 S4).bind fun q5 =>
  some (q5.1, q5.2))
else
  ((xgI tC 4 3 k0 S).bind fun v6 =>
  (xal tC k1 v6 S).bind fun v7 =>
  (xgI tC 4 3 k0 S).bind fun v8 =>
  (xpI tC 4 3 k0 (v8 + ((1 : Int32))) S).bind fun S9 =>
  (fX4_bounded k0 v7 a2 S9).bind fun q10 =>
  some (q10.1, q10.2)))
  else none
theorem kX4_take {z : Int32 × xSt} {k0 : Nat} {k1 : Nat} {a2 : Int32} {S : xSt} (h : fX4_take k0 k1 a2 S = some z) : tC.1 k0 = 4 := by
  unfold fX4_take at h
  exact (xck h).1
set_option maxHeartbeats 4000000 in
theorem tX4_take (l : Launch) (M : xMg) (A : Nat → Prop) (k0 : Nat) (k1 : Nat) (a2 : Int32) (S : xSt) (z : Int32 × xSt) (h : fX4_take k0 k1 a2 S = some z) : xMI l yX4_take cX4_take 4 (some .int) 3 tC M A [.ref (M.2.1 k0), .ref (M.2.1 k1), .int a2] S z.1 z.2 := by
  refine x_metI (plainFor_of_name (by decide)) tC_ok (Nat.le_of_ble_eq_true rfl) (fun Γ hA hnL hl hr o => ?_)
  subst hA; subst hl
  have o : xOk Γ tC M 3 cX4_take RX4 := o
  unfold fX4_take at h
  obtain ⟨hk0, h⟩ := xck h
  refine x_to (l := [(0, .ref (M.2.1 k0)), (1, .ref (M.2.1 k1)), (2, .int a2)]) ⟨rfl, rfl, rfl, trivial⟩ ?_
  have hn3 : 3 < Γ.2.2.2 := by omega
  refine x_aload_n (pc := 0) o dX4_take_0 rfl rfl ?_
  obtain ⟨v1, hv1, h⟩ := xbs h
  refine gX4_72 (pc := 1) o dX4_take_1 hv1 ?_
  refine x_aload_n (pc := 4) o dX4_take_4 rfl rfl ?_
  obtain ⟨v2, hv2, h⟩ := xbs h
  refine x_arraylength (pc := 5) o dX4_take_5 hv2 ?_
  refine x_icmp_ge (pc := 6) (tgt := 18) o dX4_take_6 (by decide) (fun c11 => ?_) (fun c11 => ?_)
  · have h := xit h c11
    refine x_iconst (pc := 18) o dX4_take_18 ic_0 ?_
    refine x_istore_n (pc := 19) o dX4_take_19 rfl hn3 ?_
    refine x_aload_n (pc := 20) o dX4_take_20 rfl rfl ?_
    refine x_dup (pc := 21) o dX4_take_21 rfl ?_
    obtain ⟨v3, hv3, h⟩ := xbs h
    refine gX4_72 (pc := 22) o dX4_take_22 hv3 ?_
    refine x_iconst (pc := 25) o dX4_take_25 ic_1 ?_
    refine x_iadd (pc := 26) o dX4_take_26 ?_
    obtain ⟨S4, hS4, h⟩ := xbs h
    refine pX4_72 (pc := 27) o dX4_take_27 hS4 ?_
    refine x_aload_n (pc := 30) o dX4_take_30 rfl rfl ?_
    refine x_iload_n (pc := 31) o dX4_take_31 rfl rfl ?_
    refine x_iload_n (pc := 32) o dX4_take_32 rfl rfl ?_
    obtain ⟨q5, hq5, h⟩ := xbs h
    refine x_callI (pc := 33) (As := [.int ((0 : Int32)), .int a2]) (b := k0) (rest := []) o (tX4_bounded _ M _ k0 ((0 : Int32)) a2 S4 q5 hq5) eX4_bounded mX4_93 clX4 (kX4_bounded hq5) (by decide) rfl rfl (Nat.le_of_ble_eq_true rfl) dX4_take_33 ?_
    exact x_ireturn (pc := 36) o hr dX4_take_36 (xr1 h) (xr2 h)
  · have h := xif h c11
    refine x_aload_n (pc := 9) o dX4_take_9 rfl rfl ?_
    refine x_aload_n (pc := 10) o dX4_take_10 rfl rfl ?_
    obtain ⟨v6, hv6, h⟩ := xbs h
    refine gX4_72 (pc := 11) o dX4_take_11 hv6 ?_
    obtain ⟨v7, hv7, h⟩ := xbs h
    refine x_iaload (pc := 14) o dX4_take_14 hv7 ?_
    refine x_goto (pc := 15) (tgt := 19) o dX4_take_15 (by decide) ?_
    refine x_istore_n (pc := 19) o dX4_take_19 rfl hn3 ?_
    refine x_aload_n (pc := 20) o dX4_take_20 rfl rfl ?_
    refine x_dup (pc := 21) o dX4_take_21 rfl ?_
    obtain ⟨v8, hv8, h⟩ := xbs h
    refine gX4_72 (pc := 22) o dX4_take_22 hv8 ?_
    refine x_iconst (pc := 25) o dX4_take_25 ic_1 ?_
    refine x_iadd (pc := 26) o dX4_take_26 ?_
    obtain ⟨S9, hS9, h⟩ := xbs h
    refine pX4_72 (pc := 27) o dX4_take_27 hS9 ?_
    refine x_aload_n (pc := 30) o dX4_take_30 rfl rfl ?_
    refine x_iload_n (pc := 31) o dX4_take_31 rfl rfl ?_
    refine x_iload_n (pc := 32) o dX4_take_32 rfl rfl ?_
    obtain ⟨q10, hq10, h⟩ := xbs h
    refine x_callI (pc := 33) (As := [.int v7, .int a2]) (b := k0) (rest := []) o (tX4_bounded _ M _ k0 v7 a2 S9 q10 hq10) eX4_bounded mX4_93 clX4 (kX4_bounded hq10) (by decide) rfl rfl (Nat.le_of_ble_eq_true rfl) dX4_take_33 ?_
    exact x_ireturn (pc := 36) o hr dX4_take_36 (xr1 h) (xr2 h)
def fX4_takeTwo (k0 : Nat) (k1 : Nat) (a2 : Int32) (S : xSt) : Option (Int32 × xSt) :=
  if tC.1 k0 = 4 then
  ((fX4_take k0 k1 ((255 : Int32)) S).bind fun q1 =>
  (fX4_take k0 k1 ((255 : Int32)) q1.2).bind fun q2 =>
  (fX4_bounded k0 ((q1.1 <<< (((8 : Int32)) &&& 31)) ||| q2.1) a2 q2.2).bind fun q3 =>
  some (q3.1, q3.2))
  else none
theorem kX4_takeTwo {z : Int32 × xSt} {k0 : Nat} {k1 : Nat} {a2 : Int32} {S : xSt} (h : fX4_takeTwo k0 k1 a2 S = some z) : tC.1 k0 = 4 := by
  unfold fX4_takeTwo at h
  exact (xck h).1
set_option maxHeartbeats 4000000 in
theorem tX4_takeTwo (l : Launch) (M : xMg) (A : Nat → Prop) (k0 : Nat) (k1 : Nat) (a2 : Int32) (S : xSt) (z : Int32 × xSt) (h : fX4_takeTwo k0 k1 a2 S = some z) : xMI l yX4_takeTwo cX4_takeTwo 4 (some .int) 4 tC M A [.ref (M.2.1 k0), .ref (M.2.1 k1), .int a2] S z.1 z.2 := by
  refine x_metI (plainFor_of_name (by decide)) tC_ok (Nat.le_of_ble_eq_true rfl) (fun Γ hA hnL hl hr o => ?_)
  subst hA; subst hl
  have o : xOk Γ tC M 4 cX4_takeTwo RX4 := o
  unfold fX4_takeTwo at h
  obtain ⟨hk0, h⟩ := xck h
  refine x_to (l := [(0, .ref (M.2.1 k0)), (1, .ref (M.2.1 k1)), (2, .int a2)]) ⟨rfl, rfl, rfl, trivial⟩ ?_
  have hn3 : 3 < Γ.2.2.2 := by omega
  refine x_aload_n (pc := 0) o dX4_takeTwo_0 rfl rfl ?_
  refine x_aload_n (pc := 1) o dX4_takeTwo_1 rfl rfl ?_
  refine x_sipush (pc := 2) o dX4_takeTwo_2 sp_255 ?_
  obtain ⟨q1, hq1, h⟩ := xbs h
  refine x_callI (pc := 5) (As := [.ref (M.2.1 k1), .int ((255 : Int32))]) (b := k0) (rest := []) o (tX4_take _ M _ k0 k1 ((255 : Int32)) S q1 hq1) eX4_take mX4_84 clX4 (kX4_take hq1) (by decide) rfl rfl (Nat.le_of_ble_eq_true rfl) dX4_takeTwo_5 ?_
  refine x_istore_n (pc := 8) o dX4_takeTwo_8 rfl hn3 ?_
  refine x_aload_n (pc := 9) o dX4_takeTwo_9 rfl rfl ?_
  refine x_iload_n (pc := 10) o dX4_takeTwo_10 rfl rfl ?_
  refine x_bipush (pc := 11) o dX4_takeTwo_11 bp_8 ?_
  refine x_ishl (pc := 13) o dX4_takeTwo_13 ?_
  refine x_aload_n (pc := 14) o dX4_takeTwo_14 rfl rfl ?_
  refine x_aload_n (pc := 15) o dX4_takeTwo_15 rfl rfl ?_
  refine x_sipush (pc := 16) o dX4_takeTwo_16 sp_255 ?_
  obtain ⟨q2, hq2, h⟩ := xbs h
  refine x_callI (pc := 19) (As := [.ref (M.2.1 k1), .int ((255 : Int32))]) (b := k0) (rest := [.int (q1.1 <<< (((8 : Int32)) &&& 31)), .ref (M.2.1 k0)]) o (tX4_take _ M _ k0 k1 ((255 : Int32)) q1.2 q2 hq2) eX4_take mX4_84 clX4 (kX4_take hq2) (by decide) rfl rfl (Nat.le_of_ble_eq_true rfl) dX4_takeTwo_19 ?_
  refine x_ior (pc := 22) o dX4_takeTwo_22 ?_
  refine x_iload_n (pc := 23) o dX4_takeTwo_23 rfl rfl ?_
  obtain ⟨q3, hq3, h⟩ := xbs h
  refine x_callI (pc := 24) (As := [.int ((q1.1 <<< (((8 : Int32)) &&& 31)) ||| q2.1), .int a2]) (b := k0) (rest := []) o (tX4_bounded _ M _ k0 ((q1.1 <<< (((8 : Int32)) &&& 31)) ||| q2.1) a2 q2.2 q3 hq3) eX4_bounded mX4_93 clX4 (kX4_bounded hq3) (by decide) rfl rfl (Nat.le_of_ble_eq_true rfl) dX4_takeTwo_24 ?_
  exact x_ireturn (pc := 27) o hr dX4_takeTwo_27 (xr1 h) (xr2 h)
def fX4_read_L98b (n : Nat) (k0 : Nat) (k1 : Nat) (k2 : Nat) (rec : Int32 → xSt → Option (xSt)) (a4 : Int32) (S : xSt) : Option (xSt) :=
  (fX9_count k1 ((1 : Int32)) S).bind fun v19 =>
  if v19 ≤ a4 then
  (some S)
else
  ((xgF tC 4 2 k0 S).bind fun r20 =>
  (xgF tC 8 5 r20 S).bind fun r21 =>
  (fX4_take k0 k2 ((100 : Int32)) S).bind fun q22 =>
  (xas tC r21 a4 q22.1 q22.2).bind fun S23 =>
  (xgF tC 4 2 k0 S23).bind fun r24 =>
  (xgI tC 8 2 r24 S23).bind fun v25 =>
  (fX4_take k0 k2 ((1 : Int32)) S23).bind fun q26 =>
  (xpI tC 8 2 r24 (v25 ||| (q26.1 <<< (a4 &&& 31))) q26.2).bind fun S27 =>
  (xgF tC 4 2 k0 S27).bind fun r28 =>
  (xgI tC 8 3 r28 S27).bind fun v29 =>
  (fX4_take k0 k2 ((1 : Int32)) S27).bind fun q30 =>
  (xpI tC 8 3 r28 (v29 ||| (q30.1 <<< (a4 &&& 31))) q30.2).bind fun S31 =>
  (some (a4 + (1 : Int32))).bind fun v32 =>
  rec v32 S31)
def fX4_read_L98 (n : Nat) (k0 : Nat) (k1 : Nat) (k2 : Nat) : Nat → Int32 → xSt → Option (xSt)
  | 0 => fun _ _ => none
  | q + 1 => fX4_read_L98b n k0 k1 k2 (fX4_read_L98 n k0 k1 k2 q)
set_option maxHeartbeats 4000000 in
theorem tX4_read_L98b {Γ : xGm} {M : xMg} (o : xOk Γ tC M 5 cX4_read RX4) (hnL : Γ.2.2.2 = 6) {rec : Int32 → xSt → Option (xSt)} (n : Nat) (k0 : Nat) (k1 : Nat) (k2 : Nat) (a4 : Int32) (S : xSt) (z : (xSt)) (hrec : ∀ (a4 : Int32) (S : xSt), rec a4 S = some z → xAt Γ tC M 98 (xlv [(0, .ref (M.2.1 k0)), (1, .ref (M.2.1 k1)), (2, .ref (M.2.1 k2)), (4, .int a4)]) [] S) (K : xAt Γ tC M 173 (xlv [(0, .ref (M.2.1 k0)), (1, .ref (M.2.1 k1)), (2, .ref (M.2.1 k2))]) [] z) (h : fX4_read_L98b n k0 k1 k2 rec a4 S = some z) : xAt Γ tC M 98 (xlv [(0, .ref (M.2.1 k0)), (1, .ref (M.2.1 k1)), (2, .ref (M.2.1 k2)), (4, .int a4)]) [] S := by
  have hn4 : 4 < Γ.2.2.2 := by omega
  unfold fX4_read_L98b at h
  refine x_iload (pc := 98) o dX4_read_98 rfl ?_
  refine x_aload_n (pc := 100) o dX4_read_100 rfl rfl ?_
  refine x_iconst (pc := 101) o dX4_read_101 ic_1 ?_
  obtain ⟨v19, hv19, h⟩ := xbs h
  refine x_callI (pc := 102) (As := [.int ((1 : Int32))]) (b := k1) (rest := [.int a4]) o (tX9_count _ M _ k1 ((1 : Int32)) S v19 hv19) eX9_count mX4_22 clX9 (kX9_count hv19) (by decide) rfl rfl (Nat.le_of_ble_eq_true rfl) dX4_read_102 ?_
  refine x_icmp_ge (pc := 105) (tgt := 173) o dX4_read_105 (by decide) (fun c33 => ?_) (fun c33 => ?_)
  · have h := xit h c33
    refine x_to (l := [(0, .ref (M.2.1 k0)), (1, .ref (M.2.1 k1)), (2, .ref (M.2.1 k2))]) ⟨rfl, rfl, rfl, trivial⟩ ?_
    cases Option.some.inj h
    exact K
  · have h := xif h c33
    refine x_aload_n (pc := 108) o dX4_read_108 rfl rfl ?_
    obtain ⟨r20, hr20, h⟩ := xbs h
    refine gX4_18 (pc := 109) o dX4_read_109 hr20 ?_
    obtain ⟨r21, hr21, h⟩ := xbs h
    refine gX4_42 (pc := 112) o dX4_read_112 hr21 ?_
    refine x_iload (pc := 115) o dX4_read_115 rfl ?_
    refine x_aload_n (pc := 117) o dX4_read_117 rfl rfl ?_
    refine x_aload_n (pc := 118) o dX4_read_118 rfl rfl ?_
    refine x_bipush (pc := 119) o dX4_read_119 bp_100 ?_
    obtain ⟨q22, hq22, h⟩ := xbs h
    refine x_callI (pc := 121) (As := [.ref (M.2.1 k2), .int ((100 : Int32))]) (b := k0) (rest := [.int a4, .ref (M.2.1 r21)]) o (tX4_take _ M _ k0 k2 ((100 : Int32)) S q22 hq22) eX4_take mX4_84 clX4 (kX4_take hq22) (by decide) rfl rfl (Nat.le_of_ble_eq_true rfl) dX4_read_121 ?_
    obtain ⟨S23, hS23, h⟩ := xbs h
    refine x_iastore (pc := 124) o dX4_read_124 hS23 ?_
    refine x_aload_n (pc := 125) o dX4_read_125 rfl rfl ?_
    obtain ⟨r24, hr24, h⟩ := xbs h
    refine gX4_18 (pc := 126) o dX4_read_126 hr24 ?_
    refine x_dup (pc := 129) o dX4_read_129 rfl ?_
    obtain ⟨v25, hv25, h⟩ := xbs h
    refine gX4_48 (pc := 130) o dX4_read_130 hv25 ?_
    refine x_aload_n (pc := 133) o dX4_read_133 rfl rfl ?_
    refine x_aload_n (pc := 134) o dX4_read_134 rfl rfl ?_
    refine x_iconst (pc := 135) o dX4_read_135 ic_1 ?_
    obtain ⟨q26, hq26, h⟩ := xbs h
    refine x_callI (pc := 136) (As := [.ref (M.2.1 k2), .int ((1 : Int32))]) (b := k0) (rest := [.int v25, .ref (M.2.1 r24)]) o (tX4_take _ M _ k0 k2 ((1 : Int32)) S23 q26 hq26) eX4_take mX4_84 clX4 (kX4_take hq26) (by decide) rfl rfl (Nat.le_of_ble_eq_true rfl) dX4_read_136 ?_
    refine x_iload (pc := 139) o dX4_read_139 rfl ?_
    refine x_ishl (pc := 141) o dX4_read_141 ?_
    refine x_ior (pc := 142) o dX4_read_142 ?_
    obtain ⟨S27, hS27, h⟩ := xbs h
    refine pX4_48 (pc := 143) o dX4_read_143 hS27 ?_
    refine x_aload_n (pc := 146) o dX4_read_146 rfl rfl ?_
    obtain ⟨r28, hr28, h⟩ := xbs h
    refine gX4_18 (pc := 147) o dX4_read_147 hr28 ?_
    refine x_dup (pc := 150) o dX4_read_150 rfl ?_
    obtain ⟨v29, hv29, h⟩ := xbs h
    refine gX4_51 (pc := 151) o dX4_read_151 hv29 ?_
    refine x_aload_n (pc := 154) o dX4_read_154 rfl rfl ?_
    refine x_aload_n (pc := 155) o dX4_read_155 rfl rfl ?_
    refine x_iconst (pc := 156) o dX4_read_156 ic_1 ?_
    obtain ⟨q30, hq30, h⟩ := xbs h
    refine x_callI (pc := 157) (As := [.ref (M.2.1 k2), .int ((1 : Int32))]) (b := k0) (rest := [.int v29, .ref (M.2.1 r28)]) o (tX4_take _ M _ k0 k2 ((1 : Int32)) S27 q30 hq30) eX4_take mX4_84 clX4 (kX4_take hq30) (by decide) rfl rfl (Nat.le_of_ble_eq_true rfl) dX4_read_157 ?_
    refine x_iload (pc := 160) o dX4_read_160 rfl ?_
    refine x_ishl (pc := 162) o dX4_read_162 ?_
    refine x_ior (pc := 163) o dX4_read_163 ?_
    obtain ⟨S31, hS31, h⟩ := xbs h
    refine pX4_51 (pc := 164) o dX4_read_164 hS31 ?_
    obtain ⟨v32, hv32, h⟩ := xbs h
    refine x_iincE (pc := 167) o dX4_read_167 rfl ic_1 hn4 hv32 ?_
    refine x_goto (pc := 170) (tgt := 98) o dX4_read_170 (by decide) ?_
    refine x_to (l := [(0, .ref (M.2.1 k0)), (1, .ref (M.2.1 k1)), (2, .ref (M.2.1 k2)), (4, .int v32)]) ⟨rfl, rfl, rfl, rfl, trivial⟩ ?_
    exact hrec v32 S31 h
theorem tX4_read_L98 {Γ : xGm} {M : xMg} (o : xOk Γ tC M 5 cX4_read RX4) (hnL : Γ.2.2.2 = 6) (n : Nat) (k0 : Nat) (k1 : Nat) (k2 : Nat) (z : (xSt)) (K : xAt Γ tC M 173 (xlv [(0, .ref (M.2.1 k0)), (1, .ref (M.2.1 k1)), (2, .ref (M.2.1 k2))]) [] z) : ∀ (q : Nat) (a4 : Int32) (S : xSt), fX4_read_L98 n k0 k1 k2 q a4 S = some z → xAt Γ tC M 98 (xlv [(0, .ref (M.2.1 k0)), (1, .ref (M.2.1 k1)), (2, .ref (M.2.1 k2)), (4, .int a4)]) [] S := by
  intro q
  induction q with
  | zero => intro a4 S h; cases h
  | succ q ih => intro a4 S h; exact tX4_read_L98b o hnL n k0 k1 k2 a4 S z ih K h
def fX4_read_L189b (n : Nat) (k0 : Nat) (k1 : Nat) (k2 : Nat) (a4 : Int32) (rec : Int32 → xSt → Option (xSt)) (a5 : Int32) (S : xSt) : Option (xSt) :=
  (fX9_count k1 ((1 : Int32)) S).bind fun v36 =>
  if v36 ≤ a5 then
  (some S)
else
  ((xgF tC 4 2 k0 S).bind fun r37 =>
  (xgF tC 8 6 r37 S).bind fun r38 =>
  (fX4_take k0 k2 ((9 : Int32)) S).bind fun q39 =>
  (xas tC r38 ((a4 * ((8 : Int32))) + a5) q39.1 q39.2).bind fun S40 =>
  (some (a5 + (1 : Int32))).bind fun v41 =>
  rec v41 S40)
def fX4_read_L189 (n : Nat) (k0 : Nat) (k1 : Nat) (k2 : Nat) (a4 : Int32) : Nat → Int32 → xSt → Option (xSt)
  | 0 => fun _ _ => none
  | q + 1 => fX4_read_L189b n k0 k1 k2 a4 (fX4_read_L189 n k0 k1 k2 a4 q)
set_option maxHeartbeats 4000000 in
theorem tX4_read_L189b {Γ : xGm} {M : xMg} (o : xOk Γ tC M 5 cX4_read RX4) (hnL : Γ.2.2.2 = 6) {rec : Int32 → xSt → Option (xSt)} (n : Nat) (k0 : Nat) (k1 : Nat) (k2 : Nat) (a4 : Int32) (a5 : Int32) (S : xSt) (z : (xSt)) (hrec : ∀ (a5 : Int32) (S : xSt), rec a5 S = some z → xAt Γ tC M 189 (xlv [(0, .ref (M.2.1 k0)), (1, .ref (M.2.1 k1)), (2, .ref (M.2.1 k2)), (4, .int a4), (5, .int a5)]) [] S) (K : xAt Γ tC M 228 (xlv [(0, .ref (M.2.1 k0)), (1, .ref (M.2.1 k1)), (2, .ref (M.2.1 k2)), (4, .int a4)]) [] z) (h : fX4_read_L189b n k0 k1 k2 a4 rec a5 S = some z) : xAt Γ tC M 189 (xlv [(0, .ref (M.2.1 k0)), (1, .ref (M.2.1 k1)), (2, .ref (M.2.1 k2)), (4, .int a4), (5, .int a5)]) [] S := by
  have hn5 : 5 < Γ.2.2.2 := by omega
  unfold fX4_read_L189b at h
  refine x_iload (pc := 189) o dX4_read_189 rfl ?_
  refine x_aload_n (pc := 191) o dX4_read_191 rfl rfl ?_
  refine x_iconst (pc := 192) o dX4_read_192 ic_1 ?_
  obtain ⟨v36, hv36, h⟩ := xbs h
  refine x_callI (pc := 193) (As := [.int ((1 : Int32))]) (b := k1) (rest := [.int a5]) o (tX9_count _ M _ k1 ((1 : Int32)) S v36 hv36) eX9_count mX4_22 clX9 (kX9_count hv36) (by decide) rfl rfl (Nat.le_of_ble_eq_true rfl) dX4_read_193 ?_
  refine x_icmp_ge (pc := 196) (tgt := 228) o dX4_read_196 (by decide) (fun c42 => ?_) (fun c42 => ?_)
  · have h := xit h c42
    refine x_to (l := [(0, .ref (M.2.1 k0)), (1, .ref (M.2.1 k1)), (2, .ref (M.2.1 k2)), (4, .int a4)]) ⟨rfl, rfl, rfl, rfl, trivial⟩ ?_
    cases Option.some.inj h
    exact K
  · have h := xif h c42
    refine x_aload_n (pc := 199) o dX4_read_199 rfl rfl ?_
    obtain ⟨r37, hr37, h⟩ := xbs h
    refine gX4_18 (pc := 200) o dX4_read_200 hr37 ?_
    obtain ⟨r38, hr38, h⟩ := xbs h
    refine gX4_87 (pc := 203) o dX4_read_203 hr38 ?_
    refine x_iload (pc := 206) o dX4_read_206 rfl ?_
    refine x_bipush (pc := 208) o dX4_read_208 bp_8 ?_
    refine x_imul (pc := 210) o dX4_read_210 ?_
    refine x_iload (pc := 211) o dX4_read_211 rfl ?_
    refine x_iadd (pc := 213) o dX4_read_213 ?_
    refine x_aload_n (pc := 214) o dX4_read_214 rfl rfl ?_
    refine x_aload_n (pc := 215) o dX4_read_215 rfl rfl ?_
    refine x_bipush (pc := 216) o dX4_read_216 bp_9 ?_
    obtain ⟨q39, hq39, h⟩ := xbs h
    refine x_callI (pc := 218) (As := [.ref (M.2.1 k2), .int ((9 : Int32))]) (b := k0) (rest := [.int ((a4 * ((8 : Int32))) + a5), .ref (M.2.1 r38)]) o (tX4_take _ M _ k0 k2 ((9 : Int32)) S q39 hq39) eX4_take mX4_84 clX4 (kX4_take hq39) (by decide) rfl rfl (Nat.le_of_ble_eq_true rfl) dX4_read_218 ?_
    obtain ⟨S40, hS40, h⟩ := xbs h
    refine x_iastore (pc := 221) o dX4_read_221 hS40 ?_
    obtain ⟨v41, hv41, h⟩ := xbs h
    refine x_iincE (pc := 222) o dX4_read_222 rfl ic_1 hn5 hv41 ?_
    refine x_goto (pc := 225) (tgt := 189) o dX4_read_225 (by decide) ?_
    refine x_to (l := [(0, .ref (M.2.1 k0)), (1, .ref (M.2.1 k1)), (2, .ref (M.2.1 k2)), (4, .int a4), (5, .int v41)]) ⟨rfl, rfl, rfl, rfl, rfl, trivial⟩ ?_
    exact hrec v41 S40 h
theorem tX4_read_L189 {Γ : xGm} {M : xMg} (o : xOk Γ tC M 5 cX4_read RX4) (hnL : Γ.2.2.2 = 6) (n : Nat) (k0 : Nat) (k1 : Nat) (k2 : Nat) (a4 : Int32) (z : (xSt)) (K : xAt Γ tC M 228 (xlv [(0, .ref (M.2.1 k0)), (1, .ref (M.2.1 k1)), (2, .ref (M.2.1 k2)), (4, .int a4)]) [] z) : ∀ (q : Nat) (a5 : Int32) (S : xSt), fX4_read_L189 n k0 k1 k2 a4 q a5 S = some z → xAt Γ tC M 189 (xlv [(0, .ref (M.2.1 k0)), (1, .ref (M.2.1 k1)), (2, .ref (M.2.1 k2)), (4, .int a4), (5, .int a5)]) [] S := by
  intro q
  induction q with
  | zero => intro a5 S h; cases h
  | succ q ih => intro a5 S h; exact tX4_read_L189b o hnL n k0 k1 k2 a4 a5 S z ih K h
def fX4_read_L176b (n : Nat) (k0 : Nat) (k1 : Nat) (k2 : Nat) (rec : Int32 → xSt → Option (xSt)) (a4 : Int32) (S : xSt) : Option (xSt) :=
  (fX9_count k1 ((2 : Int32)) S).bind fun v35 =>
  if v35 ≤ a4 then
  (some S)
else
  ((fX4_read_L189 n k0 k1 k2 a4 n ((0 : Int32)) S).bind fun z43 => (some (a4 + (1 : Int32))).bind fun v44 =>
  rec v44 z43)
def fX4_read_L176 (n : Nat) (k0 : Nat) (k1 : Nat) (k2 : Nat) : Nat → Int32 → xSt → Option (xSt)
  | 0 => fun _ _ => none
  | q + 1 => fX4_read_L176b n k0 k1 k2 (fX4_read_L176 n k0 k1 k2 q)
set_option maxHeartbeats 4000000 in
theorem tX4_read_L176b {Γ : xGm} {M : xMg} (o : xOk Γ tC M 5 cX4_read RX4) (hnL : Γ.2.2.2 = 6) {rec : Int32 → xSt → Option (xSt)} (n : Nat) (k0 : Nat) (k1 : Nat) (k2 : Nat) (a4 : Int32) (S : xSt) (z : (xSt)) (hrec : ∀ (a4 : Int32) (S : xSt), rec a4 S = some z → xAt Γ tC M 176 (xlv [(0, .ref (M.2.1 k0)), (1, .ref (M.2.1 k1)), (2, .ref (M.2.1 k2)), (4, .int a4)]) [] S) (K : xAt Γ tC M 234 (xlv [(0, .ref (M.2.1 k0)), (1, .ref (M.2.1 k1)), (2, .ref (M.2.1 k2))]) [] z) (h : fX4_read_L176b n k0 k1 k2 rec a4 S = some z) : xAt Γ tC M 176 (xlv [(0, .ref (M.2.1 k0)), (1, .ref (M.2.1 k1)), (2, .ref (M.2.1 k2)), (4, .int a4)]) [] S := by
  have hn4 : 4 < Γ.2.2.2 := by omega
  have hn5 : 5 < Γ.2.2.2 := by omega
  unfold fX4_read_L176b at h
  refine x_iload (pc := 176) o dX4_read_176 rfl ?_
  refine x_aload_n (pc := 178) o dX4_read_178 rfl rfl ?_
  refine x_iconst (pc := 179) o dX4_read_179 ic_2 ?_
  obtain ⟨v35, hv35, h⟩ := xbs h
  refine x_callI (pc := 180) (As := [.int ((2 : Int32))]) (b := k1) (rest := [.int a4]) o (tX9_count _ M _ k1 ((2 : Int32)) S v35 hv35) eX9_count mX4_22 clX9 (kX9_count hv35) (by decide) rfl rfl (Nat.le_of_ble_eq_true rfl) dX4_read_180 ?_
  refine x_icmp_ge (pc := 183) (tgt := 234) o dX4_read_183 (by decide) (fun c45 => ?_) (fun c45 => ?_)
  · have h := xit h c45
    refine x_to (l := [(0, .ref (M.2.1 k0)), (1, .ref (M.2.1 k1)), (2, .ref (M.2.1 k2))]) ⟨rfl, rfl, rfl, trivial⟩ ?_
    cases Option.some.inj h
    exact K
  · have h := xif h c45
    refine x_iconst (pc := 186) o dX4_read_186 ic_0 ?_
    refine x_istore (pc := 187) o dX4_read_187 hn5 ?_
    obtain ⟨z43, hz43, h⟩ := xbs h
    refine x_to (l := [(0, .ref (M.2.1 k0)), (1, .ref (M.2.1 k1)), (2, .ref (M.2.1 k2)), (4, .int a4), (5, .int ((0 : Int32)))]) ⟨rfl, rfl, rfl, rfl, rfl, trivial⟩ ?_
    refine tX4_read_L189 o hnL n k0 k1 k2 a4 z43 ?_ n ((0 : Int32)) S hz43
    obtain ⟨v44, hv44, h⟩ := xbs h
    refine x_iincE (pc := 228) o dX4_read_228 rfl ic_1 hn4 hv44 ?_
    refine x_goto (pc := 231) (tgt := 176) o dX4_read_231 (by decide) ?_
    refine x_to (l := [(0, .ref (M.2.1 k0)), (1, .ref (M.2.1 k1)), (2, .ref (M.2.1 k2)), (4, .int v44)]) ⟨rfl, rfl, rfl, rfl, trivial⟩ ?_
    exact hrec v44 z43 h
theorem tX4_read_L176 {Γ : xGm} {M : xMg} (o : xOk Γ tC M 5 cX4_read RX4) (hnL : Γ.2.2.2 = 6) (n : Nat) (k0 : Nat) (k1 : Nat) (k2 : Nat) (z : (xSt)) (K : xAt Γ tC M 234 (xlv [(0, .ref (M.2.1 k0)), (1, .ref (M.2.1 k1)), (2, .ref (M.2.1 k2))]) [] z) : ∀ (q : Nat) (a4 : Int32) (S : xSt), fX4_read_L176 n k0 k1 k2 q a4 S = some z → xAt Γ tC M 176 (xlv [(0, .ref (M.2.1 k0)), (1, .ref (M.2.1 k1)), (2, .ref (M.2.1 k2)), (4, .int a4)]) [] S := by
  intro q
  induction q with
  | zero => intro a4 S h; cases h
  | succ q ih => intro a4 S h; exact tX4_read_L176b o hnL n k0 k1 k2 a4 S z ih K h
def fX4_read_L237b (n : Nat) (k0 : Nat) (k1 : Nat) (k2 : Nat) (rec : Int32 → xSt → Option (xSt)) (a4 : Int32) (S : xSt) : Option (xSt) :=
  (fX9_count k1 ((3 : Int32)) S).bind fun v47 =>
  if v47 ≤ a4 then
  (some S)
else
  ((xgF tC 4 2 k0 S).bind fun r48 =>
  (xgF tC 8 7 r48 S).bind fun r49 =>
  (xgF tC 9 8 k1 S).bind fun r50 =>
  (xal tC r50 a4 S).bind fun v51 =>
  (fX4_take k0 k2 v51 S).bind fun q52 =>
  (xas tC r49 a4 q52.1 q52.2).bind fun S53 =>
  (xgF tC 4 2 k0 S53).bind fun r54 =>
  (xgF tC 8 8 r54 S53).bind fun r55 =>
  (fX4_takeTwo k0 k2 ((999 : Int32)) S53).bind fun q56 =>
  (xas tC r55 a4 q56.1 q56.2).bind fun S57 =>
  (some (a4 + (1 : Int32))).bind fun v58 =>
  rec v58 S57)
def fX4_read_L237 (n : Nat) (k0 : Nat) (k1 : Nat) (k2 : Nat) : Nat → Int32 → xSt → Option (xSt)
  | 0 => fun _ _ => none
  | q + 1 => fX4_read_L237b n k0 k1 k2 (fX4_read_L237 n k0 k1 k2 q)
set_option maxHeartbeats 4000000 in
theorem tX4_read_L237b {Γ : xGm} {M : xMg} (o : xOk Γ tC M 5 cX4_read RX4) (hnL : Γ.2.2.2 = 6) {rec : Int32 → xSt → Option (xSt)} (n : Nat) (k0 : Nat) (k1 : Nat) (k2 : Nat) (a4 : Int32) (S : xSt) (z : (xSt)) (hrec : ∀ (a4 : Int32) (S : xSt), rec a4 S = some z → xAt Γ tC M 237 (xlv [(0, .ref (M.2.1 k0)), (1, .ref (M.2.1 k1)), (2, .ref (M.2.1 k2)), (4, .int a4)]) [] S) (K : xAt Γ tC M 293 (xlv [(0, .ref (M.2.1 k0))]) [] z) (h : fX4_read_L237b n k0 k1 k2 rec a4 S = some z) : xAt Γ tC M 237 (xlv [(0, .ref (M.2.1 k0)), (1, .ref (M.2.1 k1)), (2, .ref (M.2.1 k2)), (4, .int a4)]) [] S := by
  have hn4 : 4 < Γ.2.2.2 := by omega
  unfold fX4_read_L237b at h
  refine x_iload (pc := 237) o dX4_read_237 rfl ?_
  refine x_aload_n (pc := 239) o dX4_read_239 rfl rfl ?_
  refine x_iconst (pc := 240) o dX4_read_240 ic_3 ?_
  obtain ⟨v47, hv47, h⟩ := xbs h
  refine x_callI (pc := 241) (As := [.int ((3 : Int32))]) (b := k1) (rest := [.int a4]) o (tX9_count _ M _ k1 ((3 : Int32)) S v47 hv47) eX9_count mX4_22 clX9 (kX9_count hv47) (by decide) rfl rfl (Nat.le_of_ble_eq_true rfl) dX4_read_241 ?_
  refine x_icmp_ge (pc := 244) (tgt := 293) o dX4_read_244 (by decide) (fun c59 => ?_) (fun c59 => ?_)
  · have h := xit h c59
    refine x_to (l := [(0, .ref (M.2.1 k0))]) ⟨rfl, trivial⟩ ?_
    cases Option.some.inj h
    exact K
  · have h := xif h c59
    refine x_aload_n (pc := 247) o dX4_read_247 rfl rfl ?_
    obtain ⟨r48, hr48, h⟩ := xbs h
    refine gX4_18 (pc := 248) o dX4_read_248 hr48 ?_
    obtain ⟨r49, hr49, h⟩ := xbs h
    refine gX4_58 (pc := 251) o dX4_read_251 hr49 ?_
    refine x_iload (pc := 254) o dX4_read_254 rfl ?_
    refine x_aload_n (pc := 256) o dX4_read_256 rfl rfl ?_
    refine x_aload_n (pc := 257) o dX4_read_257 rfl rfl ?_
    refine x_aload_n (pc := 258) o dX4_read_258 rfl rfl ?_
    obtain ⟨r50, hr50, h⟩ := xbs h
    refine gX4_90 (pc := 259) o dX4_read_259 hr50 ?_
    refine x_iload (pc := 262) o dX4_read_262 rfl ?_
    obtain ⟨v51, hv51, h⟩ := xbs h
    refine x_iaload (pc := 264) o dX4_read_264 hv51 ?_
    obtain ⟨q52, hq52, h⟩ := xbs h
    refine x_callI (pc := 265) (As := [.ref (M.2.1 k2), .int v51]) (b := k0) (rest := [.int a4, .ref (M.2.1 r49)]) o (tX4_take _ M _ k0 k2 v51 S q52 hq52) eX4_take mX4_84 clX4 (kX4_take hq52) (by decide) rfl rfl (Nat.le_of_ble_eq_true rfl) dX4_read_265 ?_
    obtain ⟨S53, hS53, h⟩ := xbs h
    refine x_iastore (pc := 268) o dX4_read_268 hS53 ?_
    refine x_aload_n (pc := 269) o dX4_read_269 rfl rfl ?_
    obtain ⟨r54, hr54, h⟩ := xbs h
    refine gX4_18 (pc := 270) o dX4_read_270 hr54 ?_
    obtain ⟨r55, hr55, h⟩ := xbs h
    refine gX4_61 (pc := 273) o dX4_read_273 hr55 ?_
    refine x_iload (pc := 276) o dX4_read_276 rfl ?_
    refine x_aload_n (pc := 278) o dX4_read_278 rfl rfl ?_
    refine x_aload_n (pc := 279) o dX4_read_279 rfl rfl ?_
    refine x_sipush (pc := 280) o dX4_read_280 sp_999 ?_
    obtain ⟨q56, hq56, h⟩ := xbs h
    refine x_callI (pc := 283) (As := [.ref (M.2.1 k2), .int ((999 : Int32))]) (b := k0) (rest := [.int a4, .ref (M.2.1 r55)]) o (tX4_takeTwo _ M _ k0 k2 ((999 : Int32)) S53 q56 hq56) eX4_takeTwo mX4_81 clX4 (kX4_takeTwo hq56) (by decide) rfl rfl (Nat.le_of_ble_eq_true rfl) dX4_read_283 ?_
    obtain ⟨S57, hS57, h⟩ := xbs h
    refine x_iastore (pc := 286) o dX4_read_286 hS57 ?_
    obtain ⟨v58, hv58, h⟩ := xbs h
    refine x_iincE (pc := 287) o dX4_read_287 rfl ic_1 hn4 hv58 ?_
    refine x_goto (pc := 290) (tgt := 237) o dX4_read_290 (by decide) ?_
    refine x_to (l := [(0, .ref (M.2.1 k0)), (1, .ref (M.2.1 k1)), (2, .ref (M.2.1 k2)), (4, .int v58)]) ⟨rfl, rfl, rfl, rfl, trivial⟩ ?_
    exact hrec v58 S57 h
theorem tX4_read_L237 {Γ : xGm} {M : xMg} (o : xOk Γ tC M 5 cX4_read RX4) (hnL : Γ.2.2.2 = 6) (n : Nat) (k0 : Nat) (k1 : Nat) (k2 : Nat) (z : (xSt)) (K : xAt Γ tC M 293 (xlv [(0, .ref (M.2.1 k0))]) [] z) : ∀ (q : Nat) (a4 : Int32) (S : xSt), fX4_read_L237 n k0 k1 k2 q a4 S = some z → xAt Γ tC M 237 (xlv [(0, .ref (M.2.1 k0)), (1, .ref (M.2.1 k1)), (2, .ref (M.2.1 k2)), (4, .int a4)]) [] S := by
  intro q
  induction q with
  | zero => intro a4 S h; cases h
  | succ q ih => intro a4 S h; exact tX4_read_L237b o hnL n k0 k1 k2 a4 S z ih K h
def fX4_read (n : Nat) (k0 : Nat) (k1 : Nat) (k2 : Nat) (a3 : Int32) (S : xSt) : Option (Int32 × xSt) :=
  if tC.1 k0 = 4 then
  ((fX4_sizeOf k1 S).bind fun v1 =>
  if a3 = v1 then
  ((xlen tC k2).bind fun v2 =>
  if v2 < a3 then
  (some ((0 : Int32), S))
else
  ((fX4_sumOf n k2 (a3 - ((1 : Int32))) S).bind fun v3 =>
  (xal tC k2 (a3 - ((1 : Int32))) S).bind fun v4 =>
  if v3 = v4 then
  ((xpI tC 4 3 k0 ((0 : Int32)) S).bind fun S5 =>
  (xpZ tC 4 4 k0 ((1 : Int32)) S5).bind fun S6 =>
  (xgF tC 4 2 k0 S6).bind fun r7 =>
  (xpI tC 8 4 r7 ((0 : Int32)) S6).bind fun S8 =>
  (xgF tC 4 2 k0 S8).bind fun r9 =>
  (xpI tC 8 2 r9 ((0 : Int32)) S8).bind fun S10 =>
  (xgF tC 4 2 k0 S10).bind fun r11 =>
  (xpI tC 8 3 r11 ((0 : Int32)) S10).bind fun S12 =>
  (xgF tC 4 2 k0 S12).bind fun r13 =>
  (fX4_takeTwo k0 k2 ((999 : Int32)) S12).bind fun q14 =>
  (xpI tC 8 0 r13 q14.1 q14.2).bind fun S15 =>
  (xgF tC 4 2 k0 S15).bind fun r16 =>
  (fX4_takeTwo k0 k2 ((9999 : Int32)) S15).bind fun q17 =>
  (xpI tC 8 1 r16 q17.1 q17.2).bind fun S18 =>
  (fX4_read_L98 n k0 k1 k2 n ((0 : Int32)) S18).bind fun z34 => (fX4_read_L176 n k0 k1 k2 n ((0 : Int32)) z34).bind fun z46 => (fX4_read_L237 n k0 k1 k2 n ((0 : Int32)) z46).bind fun z60 => (xgI tC 4 4 k0 z60).bind fun v61 =>
  if v61 = 0 ∨ v61 = 1 then (some (v61, z60)) else none)
else
  (some ((0 : Int32), S))))
else
  (some ((0 : Int32), S)))
  else none
theorem kX4_read {z : Int32 × xSt} {n : Nat} {k0 : Nat} {k1 : Nat} {k2 : Nat} {a3 : Int32} {S : xSt} (h : fX4_read n k0 k1 k2 a3 S = some z) : tC.1 k0 = 4 := by
  unfold fX4_read at h
  exact (xck h).1
set_option maxHeartbeats 4000000 in
theorem tX4_read (l : Launch) (M : xMg) (A : Nat → Prop) (n : Nat) (k0 : Nat) (k1 : Nat) (k2 : Nat) (a3 : Int32) (S : xSt) (z : Int32 × xSt) (h : fX4_read n k0 k1 k2 a3 S = some z) : xMI l yX4_read cX4_read 6 (some .boolean) 5 tC M A [.ref (M.2.1 k0), .ref (M.2.1 k1), .ref (M.2.1 k2), .int a3] S z.1 z.2 := by
  refine x_metI (plainFor_of_name (by decide)) tC_ok (Nat.le_of_ble_eq_true rfl) (fun Γ hA hnL hl hr o => ?_)
  subst hA; subst hl
  have o : xOk Γ tC M 5 cX4_read RX4 := o
  unfold fX4_read at h
  obtain ⟨hk0, h⟩ := xck h
  refine x_to (l := [(0, .ref (M.2.1 k0)), (1, .ref (M.2.1 k1)), (2, .ref (M.2.1 k2)), (3, .int a3)]) ⟨rfl, rfl, rfl, rfl, trivial⟩ ?_
  have hn4 : 4 < Γ.2.2.2 := by omega
  refine x_iload_n (pc := 0) o dX4_read_0 rfl rfl ?_
  refine x_aload_n (pc := 1) o dX4_read_1 rfl rfl ?_
  obtain ⟨v1, hv1, h⟩ := xbs h
  refine x_statI (pc := 2) (As := [.ref (M.2.1 k1)]) (rest := [.int a3]) o (tX4_sizeOf _ M _ k1 S v1 hv1) eX4_sizeOf mX4_68 (by decide) rfl rfl (Nat.le_of_ble_eq_true rfl) dX4_read_2 ?_
  refine x_icmp_ne (pc := 5) (tgt := 29) o dX4_read_5 (by decide) (fun c64 => ?_) (fun c64 => ?_)
  · have h := xif h c64
    refine x_iconst (pc := 29) o dX4_read_29 ic_0 ?_
    exact x_zreturn (pc := 30) o hr dX4_read_30 (by decide) (xr1 h) (xr2 h)
  · have h := xit h c64
    refine x_iload_n (pc := 8) o dX4_read_8 rfl rfl ?_
    refine x_aload_n (pc := 9) o dX4_read_9 rfl rfl ?_
    obtain ⟨v2, hv2, h⟩ := xbs h
    refine x_arraylength (pc := 10) o dX4_read_10 hv2 ?_
    refine x_icmp_gt (pc := 11) (tgt := 29) o dX4_read_11 (by decide) (fun c63 => ?_) (fun c63 => ?_)
    · have h := xit h c63
      refine x_iconst (pc := 29) o dX4_read_29 ic_0 ?_
      exact x_zreturn (pc := 30) o hr dX4_read_30 (by decide) (xr1 h) (xr2 h)
    · have h := xif h c63
      refine x_aload_n (pc := 14) o dX4_read_14 rfl rfl ?_
      refine x_iload_n (pc := 15) o dX4_read_15 rfl rfl ?_
      refine x_iconst (pc := 16) o dX4_read_16 ic_1 ?_
      refine x_isub (pc := 17) o dX4_read_17 ?_
      obtain ⟨v3, hv3, h⟩ := xbs h
      refine x_statI (pc := 18) (As := [.ref (M.2.1 k2), .int (a3 - ((1 : Int32)))]) (rest := []) o (tX4_sumOf _ M _ n k2 (a3 - ((1 : Int32))) S v3 hv3) eX4_sumOf mX4_64 (by decide) rfl rfl (Nat.le_of_ble_eq_true rfl) dX4_read_18 ?_
      refine x_aload_n (pc := 21) o dX4_read_21 rfl rfl ?_
      refine x_iload_n (pc := 22) o dX4_read_22 rfl rfl ?_
      refine x_iconst (pc := 23) o dX4_read_23 ic_1 ?_
      refine x_isub (pc := 24) o dX4_read_24 ?_
      obtain ⟨v4, hv4, h⟩ := xbs h
      refine x_iaload (pc := 25) o dX4_read_25 hv4 ?_
      refine x_icmp_eq (pc := 26) (tgt := 31) o dX4_read_26 (by decide) (fun c62 => ?_) (fun c62 => ?_)
      · have h := xit h c62
        refine x_aload_n (pc := 31) o dX4_read_31 rfl rfl ?_
        refine x_iconst (pc := 32) o dX4_read_32 ic_0 ?_
        obtain ⟨S5, hS5, h⟩ := xbs h
        refine pX4_72 (pc := 33) o dX4_read_33 hS5 ?_
        refine x_aload_n (pc := 36) o dX4_read_36 rfl rfl ?_
        refine x_iconst (pc := 37) o dX4_read_37 ic_1 ?_
        obtain ⟨S6, hS6, h⟩ := xbs h
        refine pX4_75 (pc := 38) o dX4_read_38 hS6 ?_
        refine x_aload_n (pc := 41) o dX4_read_41 rfl rfl ?_
        obtain ⟨r7, hr7, h⟩ := xbs h
        refine gX4_18 (pc := 42) o dX4_read_42 hr7 ?_
        refine x_iconst (pc := 45) o dX4_read_45 ic_0 ?_
        obtain ⟨S8, hS8, h⟩ := xbs h
        refine pX4_79 (pc := 46) o dX4_read_46 hS8 ?_
        refine x_aload_n (pc := 49) o dX4_read_49 rfl rfl ?_
        obtain ⟨r9, hr9, h⟩ := xbs h
        refine gX4_18 (pc := 50) o dX4_read_50 hr9 ?_
        refine x_iconst (pc := 53) o dX4_read_53 ic_0 ?_
        obtain ⟨S10, hS10, h⟩ := xbs h
        refine pX4_48 (pc := 54) o dX4_read_54 hS10 ?_
        refine x_aload_n (pc := 57) o dX4_read_57 rfl rfl ?_
        obtain ⟨r11, hr11, h⟩ := xbs h
        refine gX4_18 (pc := 58) o dX4_read_58 hr11 ?_
        refine x_iconst (pc := 61) o dX4_read_61 ic_0 ?_
        obtain ⟨S12, hS12, h⟩ := xbs h
        refine pX4_51 (pc := 62) o dX4_read_62 hS12 ?_
        refine x_aload_n (pc := 65) o dX4_read_65 rfl rfl ?_
        obtain ⟨r13, hr13, h⟩ := xbs h
        refine gX4_18 (pc := 66) o dX4_read_66 hr13 ?_
        refine x_aload_n (pc := 69) o dX4_read_69 rfl rfl ?_
        refine x_aload_n (pc := 70) o dX4_read_70 rfl rfl ?_
        refine x_sipush (pc := 71) o dX4_read_71 sp_999 ?_
        obtain ⟨q14, hq14, h⟩ := xbs h
        refine x_callI (pc := 74) (As := [.ref (M.2.1 k2), .int ((999 : Int32))]) (b := k0) (rest := [.ref (M.2.1 r13)]) o (tX4_takeTwo _ M _ k0 k2 ((999 : Int32)) S12 q14 hq14) eX4_takeTwo mX4_81 clX4 (kX4_takeTwo hq14) (by decide) rfl rfl (Nat.le_of_ble_eq_true rfl) dX4_read_74 ?_
        obtain ⟨S15, hS15, h⟩ := xbs h
        refine pX4_32 (pc := 77) o dX4_read_77 hS15 ?_
        refine x_aload_n (pc := 80) o dX4_read_80 rfl rfl ?_
        obtain ⟨r16, hr16, h⟩ := xbs h
        refine gX4_18 (pc := 81) o dX4_read_81 hr16 ?_
        refine x_aload_n (pc := 84) o dX4_read_84 rfl rfl ?_
        refine x_aload_n (pc := 85) o dX4_read_85 rfl rfl ?_
        refine x_sipush (pc := 86) o dX4_read_86 sp_9999 ?_
        obtain ⟨q17, hq17, h⟩ := xbs h
        refine x_callI (pc := 89) (As := [.ref (M.2.1 k2), .int ((9999 : Int32))]) (b := k0) (rest := [.ref (M.2.1 r16)]) o (tX4_takeTwo _ M _ k0 k2 ((9999 : Int32)) S15 q17 hq17) eX4_takeTwo mX4_81 clX4 (kX4_takeTwo hq17) (by decide) rfl rfl (Nat.le_of_ble_eq_true rfl) dX4_read_89 ?_
        obtain ⟨S18, hS18, h⟩ := xbs h
        refine pX4_39 (pc := 92) o dX4_read_92 hS18 ?_
        refine x_iconst (pc := 95) o dX4_read_95 ic_0 ?_
        refine x_istore (pc := 96) o dX4_read_96 hn4 ?_
        obtain ⟨z34, hz34, h⟩ := xbs h
        refine x_to (l := [(0, .ref (M.2.1 k0)), (1, .ref (M.2.1 k1)), (2, .ref (M.2.1 k2)), (4, .int ((0 : Int32)))]) ⟨rfl, rfl, rfl, rfl, trivial⟩ ?_
        refine tX4_read_L98 o hnL n k0 k1 k2 z34 ?_ n ((0 : Int32)) S18 hz34
        refine x_iconst (pc := 173) o dX4_read_173 ic_0 ?_
        refine x_istore (pc := 174) o dX4_read_174 hn4 ?_
        obtain ⟨z46, hz46, h⟩ := xbs h
        refine x_to (l := [(0, .ref (M.2.1 k0)), (1, .ref (M.2.1 k1)), (2, .ref (M.2.1 k2)), (4, .int ((0 : Int32)))]) ⟨rfl, rfl, rfl, rfl, trivial⟩ ?_
        refine tX4_read_L176 o hnL n k0 k1 k2 z46 ?_ n ((0 : Int32)) z34 hz46
        refine x_iconst (pc := 234) o dX4_read_234 ic_0 ?_
        refine x_istore (pc := 235) o dX4_read_235 hn4 ?_
        obtain ⟨z60, hz60, h⟩ := xbs h
        refine x_to (l := [(0, .ref (M.2.1 k0)), (1, .ref (M.2.1 k1)), (2, .ref (M.2.1 k2)), (4, .int ((0 : Int32)))]) ⟨rfl, rfl, rfl, rfl, trivial⟩ ?_
        refine tX4_read_L237 o hnL n k0 k1 k2 z60 ?_ n ((0 : Int32)) z46 hz60
        refine x_aload_n (pc := 293) o dX4_read_293 rfl rfl ?_
        obtain ⟨v61, hv61, h⟩ := xbs h
        refine gX4_75 (pc := 294) o dX4_read_294 hv61 ?_
        obtain ⟨hz, h⟩ := xck h
        exact x_zreturn (pc := 297) o hr dX4_read_297 hz (xr1 h) (xr2 h)
      · have h := xif h c62
        refine x_iconst (pc := 29) o dX4_read_29 ic_0 ?_
        exact x_zreturn (pc := 30) o hr dX4_read_30 (by decide) (xr1 h) (xr2 h)
def fX5_beginMay (k0 : Nat) (k1 : Nat) (S : xSt) : Option (Int32 × xSt) :=
  if tC.1 k0 = 5 then
  ((xpM tC 5 1 k0 k1 S).bind fun S1 =>
  (xpZ tC 5 2 k0 ((1 : Int32)) S1).bind fun S2 =>
  (xgM tC 5 1 k0 S2).bind fun r3 =>
  (xgM tC 5 1 k0 S2).bind fun r4 =>
  (xgI tC 1 2 r4 S2).bind fun v5 =>
  (xpI tC 1 3 r3 v5 S2).bind fun S6 =>
  some ((1 : Int32), S6))
  else none
theorem kX5_beginMay {z : Int32 × xSt} {k0 : Nat} {k1 : Nat} {S : xSt} (h : fX5_beginMay k0 k1 S = some z) : tC.1 k0 = 5 := by
  unfold fX5_beginMay at h
  exact (xck h).1
set_option maxHeartbeats 4000000 in
theorem tX5_beginMay (l : Launch) (M : xMg) (A : Nat → Prop) (k0 : Nat) (k1 : Nat) (S : xSt) (z : Int32 × xSt) (h : fX5_beginMay k0 k1 S = some z) : xMI l yX5_beginMay cX5_beginMay 2 (some .boolean) 1 tC M A [.ref (M.2.1 k0), .ref (M.2.1 k1)] S z.1 z.2 := by
  refine x_metI (plainFor_of_name (by decide)) tC_ok (Nat.le_of_ble_eq_true rfl) (fun Γ hA hnL hl hr o => ?_)
  subst hA; subst hl
  have o : xOk Γ tC M 1 cX5_beginMay RX5 := o
  unfold fX5_beginMay at h
  obtain ⟨hk0, h⟩ := xck h
  refine x_to (l := [(0, .ref (M.2.1 k0)), (1, .ref (M.2.1 k1))]) ⟨rfl, rfl, trivial⟩ ?_
  refine x_aload_n (pc := 0) o dX5_beginMay_0 rfl rfl ?_
  refine x_aload_n (pc := 1) o dX5_beginMay_1 rfl rfl ?_
  obtain ⟨S1, hS1, h⟩ := xbs h
  refine pX5_15 (pc := 2) o dX5_beginMay_2 hS1 ?_
  refine x_aload_n (pc := 5) o dX5_beginMay_5 rfl rfl ?_
  refine x_iconst (pc := 6) o dX5_beginMay_6 ic_1 ?_
  obtain ⟨S2, hS2, h⟩ := xbs h
  refine pX5_19 (pc := 7) o dX5_beginMay_7 hS2 ?_
  refine x_aload_n (pc := 10) o dX5_beginMay_10 rfl rfl ?_
  obtain ⟨r3, hr3, h⟩ := xbs h
  refine gX5_15 (pc := 11) o dX5_beginMay_11 hr3 ?_
  refine x_aload_n (pc := 14) o dX5_beginMay_14 rfl rfl ?_
  obtain ⟨r4, hr4, h⟩ := xbs h
  refine gX5_15 (pc := 15) o dX5_beginMay_15 hr4 ?_
  obtain ⟨v5, hv5, h⟩ := xbs h
  refine gX5_23 (pc := 18) o dX5_beginMay_18 hv5 ?_
  obtain ⟨S6, hS6, h⟩ := xbs h
  refine pX5_29 (pc := 21) o dX5_beginMay_21 hS6 ?_
  refine x_iconst (pc := 24) o dX5_beginMay_24 ic_1 ?_
  exact x_zreturn (pc := 25) o hr dX5_beginMay_25 (by decide) (xr1 h) (xr2 h)
def fX5_endMay (k0 : Nat) (S : xSt) : Option (Int32 × xSt) :=
  if tC.1 k0 = 5 then
  ((xgM tC 5 1 k0 S).bind fun r1 =>
  (xgM tC 5 1 k0 S).bind fun r2 =>
  (xgI tC 1 2 r2 S).bind fun v3 =>
  (xpI tC 1 4 r1 v3 S).bind fun S4 =>
  some ((1 : Int32), S4))
  else none
theorem kX5_endMay {z : Int32 × xSt} {k0 : Nat} {S : xSt} (h : fX5_endMay k0 S = some z) : tC.1 k0 = 5 := by
  unfold fX5_endMay at h
  exact (xck h).1
set_option maxHeartbeats 4000000 in
theorem tX5_endMay (l : Launch) (M : xMg) (A : Nat → Prop) (k0 : Nat) (S : xSt) (z : Int32 × xSt) (h : fX5_endMay k0 S = some z) : xMI l yX5_endMay cX5_endMay 1 (some .boolean) 1 tC M A [.ref (M.2.1 k0)] S z.1 z.2 := by
  refine x_metI (plainFor_of_name (by decide)) tC_ok (Nat.le_of_ble_eq_true rfl) (fun Γ hA hnL hl hr o => ?_)
  subst hA; subst hl
  have o : xOk Γ tC M 1 cX5_endMay RX5 := o
  unfold fX5_endMay at h
  obtain ⟨hk0, h⟩ := xck h
  refine x_to (l := [(0, .ref (M.2.1 k0))]) ⟨rfl, trivial⟩ ?_
  refine x_aload_n (pc := 0) o dX5_endMay_0 rfl rfl ?_
  obtain ⟨r1, hr1, h⟩ := xbs h
  refine gX5_15 (pc := 1) o dX5_endMay_1 hr1 ?_
  refine x_aload_n (pc := 4) o dX5_endMay_4 rfl rfl ?_
  obtain ⟨r2, hr2, h⟩ := xbs h
  refine gX5_15 (pc := 5) o dX5_endMay_5 hr2 ?_
  obtain ⟨v3, hv3, h⟩ := xbs h
  refine gX5_23 (pc := 8) o dX5_endMay_8 hv3 ?_
  obtain ⟨S4, hS4, h⟩ := xbs h
  refine pX5_32 (pc := 11) o dX5_endMay_11 hS4 ?_
  refine x_iconst (pc := 14) o dX5_endMay_14 ic_1 ?_
  exact x_zreturn (pc := 15) o hr dX5_endMay_15 (by decide) (xr1 h) (xr2 h)
def fX5_beginWears (k0 : Nat) (k1 : Nat) (S : xSt) : Option (Int32 × xSt) :=
  if tC.1 k0 = 5 then
  ((xpM tC 5 1 k0 k1 S).bind fun S1 =>
  (xpZ tC 5 2 k0 ((0 : Int32)) S1).bind fun S2 =>
  (xgM tC 5 1 k0 S2).bind fun r3 =>
  (xgM tC 5 1 k0 S2).bind fun r4 =>
  (xgI tC 1 2 r4 S2).bind fun v5 =>
  (xpI tC 1 5 r3 v5 S2).bind fun S6 =>
  some ((1 : Int32), S6))
  else none
theorem kX5_beginWears {z : Int32 × xSt} {k0 : Nat} {k1 : Nat} {S : xSt} (h : fX5_beginWears k0 k1 S = some z) : tC.1 k0 = 5 := by
  unfold fX5_beginWears at h
  exact (xck h).1
set_option maxHeartbeats 4000000 in
theorem tX5_beginWears (l : Launch) (M : xMg) (A : Nat → Prop) (k0 : Nat) (k1 : Nat) (S : xSt) (z : Int32 × xSt) (h : fX5_beginWears k0 k1 S = some z) : xMI l yX5_beginWears cX5_beginWears 2 (some .boolean) 1 tC M A [.ref (M.2.1 k0), .ref (M.2.1 k1)] S z.1 z.2 := by
  refine x_metI (plainFor_of_name (by decide)) tC_ok (Nat.le_of_ble_eq_true rfl) (fun Γ hA hnL hl hr o => ?_)
  subst hA; subst hl
  have o : xOk Γ tC M 1 cX5_beginWears RX5 := o
  unfold fX5_beginWears at h
  obtain ⟨hk0, h⟩ := xck h
  refine x_to (l := [(0, .ref (M.2.1 k0)), (1, .ref (M.2.1 k1))]) ⟨rfl, rfl, trivial⟩ ?_
  refine x_aload_n (pc := 0) o dX5_beginWears_0 rfl rfl ?_
  refine x_aload_n (pc := 1) o dX5_beginWears_1 rfl rfl ?_
  obtain ⟨S1, hS1, h⟩ := xbs h
  refine pX5_15 (pc := 2) o dX5_beginWears_2 hS1 ?_
  refine x_aload_n (pc := 5) o dX5_beginWears_5 rfl rfl ?_
  refine x_iconst (pc := 6) o dX5_beginWears_6 ic_0 ?_
  obtain ⟨S2, hS2, h⟩ := xbs h
  refine pX5_19 (pc := 7) o dX5_beginWears_7 hS2 ?_
  refine x_aload_n (pc := 10) o dX5_beginWears_10 rfl rfl ?_
  obtain ⟨r3, hr3, h⟩ := xbs h
  refine gX5_15 (pc := 11) o dX5_beginWears_11 hr3 ?_
  refine x_aload_n (pc := 14) o dX5_beginWears_14 rfl rfl ?_
  obtain ⟨r4, hr4, h⟩ := xbs h
  refine gX5_15 (pc := 15) o dX5_beginWears_15 hr4 ?_
  obtain ⟨v5, hv5, h⟩ := xbs h
  refine gX5_23 (pc := 18) o dX5_beginWears_18 hv5 ?_
  obtain ⟨S6, hS6, h⟩ := xbs h
  refine pX5_35 (pc := 21) o dX5_beginWears_21 hS6 ?_
  refine x_iconst (pc := 24) o dX5_beginWears_24 ic_1 ?_
  exact x_zreturn (pc := 25) o hr dX5_beginWears_25 (by decide) (xr1 h) (xr2 h)
def fX5_endWears (k0 : Nat) (S : xSt) : Option (Int32 × xSt) :=
  if tC.1 k0 = 5 then
  ((xgM tC 5 1 k0 S).bind fun r1 =>
  (xgM tC 5 1 k0 S).bind fun r2 =>
  (xgI tC 1 2 r2 S).bind fun v3 =>
  (xpI tC 1 6 r1 v3 S).bind fun S4 =>
  some ((1 : Int32), S4))
  else none
theorem kX5_endWears {z : Int32 × xSt} {k0 : Nat} {S : xSt} (h : fX5_endWears k0 S = some z) : tC.1 k0 = 5 := by
  unfold fX5_endWears at h
  exact (xck h).1
set_option maxHeartbeats 4000000 in
theorem tX5_endWears (l : Launch) (M : xMg) (A : Nat → Prop) (k0 : Nat) (S : xSt) (z : Int32 × xSt) (h : fX5_endWears k0 S = some z) : xMI l yX5_endWears cX5_endWears 1 (some .boolean) 1 tC M A [.ref (M.2.1 k0)] S z.1 z.2 := by
  refine x_metI (plainFor_of_name (by decide)) tC_ok (Nat.le_of_ble_eq_true rfl) (fun Γ hA hnL hl hr o => ?_)
  subst hA; subst hl
  have o : xOk Γ tC M 1 cX5_endWears RX5 := o
  unfold fX5_endWears at h
  obtain ⟨hk0, h⟩ := xck h
  refine x_to (l := [(0, .ref (M.2.1 k0))]) ⟨rfl, trivial⟩ ?_
  refine x_aload_n (pc := 0) o dX5_endWears_0 rfl rfl ?_
  obtain ⟨r1, hr1, h⟩ := xbs h
  refine gX5_15 (pc := 1) o dX5_endWears_1 hr1 ?_
  refine x_aload_n (pc := 4) o dX5_endWears_4 rfl rfl ?_
  obtain ⟨r2, hr2, h⟩ := xbs h
  refine gX5_15 (pc := 5) o dX5_endWears_5 hr2 ?_
  obtain ⟨v3, hv3, h⟩ := xbs h
  refine gX5_23 (pc := 8) o dX5_endWears_8 hv3 ?_
  obtain ⟨S4, hS4, h⟩ := xbs h
  refine pX5_38 (pc := 11) o dX5_endWears_11 hS4 ?_
  refine x_iconst (pc := 14) o dX5_endWears_14 ic_1 ?_
  exact x_zreturn (pc := 15) o hr dX5_endWears_15 (by decide) (xr1 h) (xr2 h)
def fX7_isWord (k0 : Nat) (a1 : Int32) (S : xSt) : Option (Int32) :=
  if tC.1 k0 = 7 then
  ((xgI tC 7 4 k0 S).bind fun v1 =>
  if v1 = ((1 : Int32)) then
  ((xgI tC 7 8 k0 S).bind fun v2 =>
  if v2 = a1 then
  (some ((1 : Int32)))
else
  (some ((0 : Int32))))
else
  (some ((0 : Int32))))
  else none
theorem kX7_isWord {z : Int32} {k0 : Nat} {a1 : Int32} {S : xSt} (h : fX7_isWord k0 a1 S = some z) : tC.1 k0 = 7 := by
  unfold fX7_isWord at h
  exact (xck h).1
set_option maxHeartbeats 4000000 in
theorem tX7_isWord (l : Launch) (M : xMg) (A : Nat → Prop) (k0 : Nat) (a1 : Int32) (S : xSt) (z : Int32) (h : fX7_isWord k0 a1 S = some z) : xMI l yX7_isWord cX7_isWord 2 (some .boolean) 1 tC M A [.ref (M.2.1 k0), .int a1] S z S := by
  refine x_metI (plainFor_of_name (by decide)) tC_ok (Nat.le_of_ble_eq_true rfl) (fun Γ hA hnL hl hr o => ?_)
  subst hA; subst hl
  have o : xOk Γ tC M 1 cX7_isWord RX7 := o
  unfold fX7_isWord at h
  obtain ⟨hk0, h⟩ := xck h
  refine x_to (l := [(0, .ref (M.2.1 k0)), (1, .int a1)]) ⟨rfl, rfl, trivial⟩ ?_
  refine x_aload_n (pc := 0) o dX7_isWord_0 rfl rfl ?_
  obtain ⟨v1, hv1, h⟩ := xbs h
  refine gX7_55 (pc := 1) o dX7_isWord_1 hv1 ?_
  refine x_iconst (pc := 4) o dX7_isWord_4 ic_1 ?_
  refine x_icmp_ne (pc := 5) (tgt := 20) o dX7_isWord_5 (by decide) (fun c4 => ?_) (fun c4 => ?_)
  · have h := xif h c4
    refine x_iconst (pc := 20) o dX7_isWord_20 ic_0 ?_
    exact x_zreturn (pc := 21) o hr dX7_isWord_21 (by decide) (Option.some.inj h) rfl
  · have h := xit h c4
    refine x_aload_n (pc := 8) o dX7_isWord_8 rfl rfl ?_
    obtain ⟨v2, hv2, h⟩ := xbs h
    refine gX7_15 (pc := 9) o dX7_isWord_9 hv2 ?_
    refine x_iload_n (pc := 12) o dX7_isWord_12 rfl rfl ?_
    refine x_icmp_ne (pc := 13) (tgt := 20) o dX7_isWord_13 (by decide) (fun c3 => ?_) (fun c3 => ?_)
    · have h := xif h c3
      refine x_iconst (pc := 20) o dX7_isWord_20 ic_0 ?_
      exact x_zreturn (pc := 21) o hr dX7_isWord_21 (by decide) (Option.some.inj h) rfl
    · have h := xit h c3
      refine x_iconst (pc := 16) o dX7_isWord_16 ic_1 ?_
      refine x_goto (pc := 17) (tgt := 21) o dX7_isWord_17 (by decide) ?_
      exact x_zreturn (pc := 21) o hr dX7_isWord_21 (by decide) (Option.some.inj h) rfl
def fX7_fail (k0 : Nat) (a1 : Int32) (a2 : Int32) (S : xSt) : Option (Int32 × xSt) :=
  if tC.1 k0 = 7 then
  ((xpI tC 7 9 k0 a1 S).bind fun S1 =>
  (xpI tC 7 10 k0 a2 S1).bind fun S2 =>
  some ((0 : Int32), S2))
  else none
theorem kX7_fail {z : Int32 × xSt} {k0 : Nat} {a1 : Int32} {a2 : Int32} {S : xSt} (h : fX7_fail k0 a1 a2 S = some z) : tC.1 k0 = 7 := by
  unfold fX7_fail at h
  exact (xck h).1
set_option maxHeartbeats 4000000 in
theorem tX7_fail (l : Launch) (M : xMg) (A : Nat → Prop) (k0 : Nat) (a1 : Int32) (a2 : Int32) (S : xSt) (z : Int32 × xSt) (h : fX7_fail k0 a1 a2 S = some z) : xMI l yX7_fail cX7_fail 3 (some .boolean) 1 tC M A [.ref (M.2.1 k0), .int a1, .int a2] S z.1 z.2 := by
  refine x_metI (plainFor_of_name (by decide)) tC_ok (Nat.le_of_ble_eq_true rfl) (fun Γ hA hnL hl hr o => ?_)
  subst hA; subst hl
  have o : xOk Γ tC M 1 cX7_fail RX7 := o
  unfold fX7_fail at h
  obtain ⟨hk0, h⟩ := xck h
  refine x_to (l := [(0, .ref (M.2.1 k0)), (1, .int a1), (2, .int a2)]) ⟨rfl, rfl, rfl, trivial⟩ ?_
  refine x_aload_n (pc := 0) o dX7_fail_0 rfl rfl ?_
  refine x_iload_n (pc := 1) o dX7_fail_1 rfl rfl ?_
  obtain ⟨S1, hS1, h⟩ := xbs h
  refine pX7_58 (pc := 2) o dX7_fail_2 hS1 ?_
  refine x_aload_n (pc := 5) o dX7_fail_5 rfl rfl ?_
  refine x_iload_n (pc := 6) o dX7_fail_6 rfl rfl ?_
  obtain ⟨S2, hS2, h⟩ := xbs h
  refine pX7_19 (pc := 7) o dX7_fail_7 hS2 ?_
  refine x_iconst (pc := 10) o dX7_fail_10 ic_0 ?_
  exact x_zreturn (pc := 11) o hr dX7_fail_11 (by decide) (xr1 h) (xr2 h)
def fX7_byteAt (k0 : Nat) (a1 : Int32) (S : xSt) : Option (Int32) :=
  if tC.1 k0 = 7 then
  (if a1 < 0 then
  (some ((-1 : Int32)))
else
  ((xgI tC 7 2 k0 S).bind fun v1 =>
  if v1 ≤ a1 then
  (some ((-1 : Int32)))
else
  ((xgF tC 7 0 k0 S).bind fun r2 =>
  (xlen tC r2).bind fun v3 =>
  if v3 ≤ a1 then
  (some ((-1 : Int32)))
else
  ((xgF tC 7 0 k0 S).bind fun r4 =>
  (xal tC r4 a1 S).bind fun v5 =>
  some v5))))
  else none
theorem kX7_byteAt {z : Int32} {k0 : Nat} {a1 : Int32} {S : xSt} (h : fX7_byteAt k0 a1 S = some z) : tC.1 k0 = 7 := by
  unfold fX7_byteAt at h
  exact (xck h).1
set_option maxHeartbeats 4000000 in
theorem tX7_byteAt (l : Launch) (M : xMg) (A : Nat → Prop) (k0 : Nat) (a1 : Int32) (S : xSt) (z : Int32) (h : fX7_byteAt k0 a1 S = some z) : xMI l yX7_byteAt cX7_byteAt 2 (some .int) 1 tC M A [.ref (M.2.1 k0), .int a1] S z S := by
  refine x_metI (plainFor_of_name (by decide)) tC_ok (Nat.le_of_ble_eq_true rfl) (fun Γ hA hnL hl hr o => ?_)
  subst hA; subst hl
  have o : xOk Γ tC M 1 cX7_byteAt RX7 := o
  unfold fX7_byteAt at h
  obtain ⟨hk0, h⟩ := xck h
  refine x_to (l := [(0, .ref (M.2.1 k0)), (1, .int a1)]) ⟨rfl, rfl, trivial⟩ ?_
  refine x_iload_n (pc := 0) o dX7_byteAt_0 rfl rfl ?_
  refine x_if_lt (pc := 1) (tgt := 30) o dX7_byteAt_1 (by decide) (fun c8 => ?_) (fun c8 => ?_)
  · have h := xit h c8
    refine x_iconst (pc := 30) o dX7_byteAt_30 ic_m1 ?_
    exact x_ireturn (pc := 31) o hr dX7_byteAt_31 (Option.some.inj h) rfl
  · have h := xif h c8
    refine x_iload_n (pc := 4) o dX7_byteAt_4 rfl rfl ?_
    refine x_aload_n (pc := 5) o dX7_byteAt_5 rfl rfl ?_
    obtain ⟨v1, hv1, h⟩ := xbs h
    refine gX7_50 (pc := 6) o dX7_byteAt_6 hv1 ?_
    refine x_icmp_ge (pc := 9) (tgt := 30) o dX7_byteAt_9 (by decide) (fun c7 => ?_) (fun c7 => ?_)
    · have h := xit h c7
      refine x_iconst (pc := 30) o dX7_byteAt_30 ic_m1 ?_
      exact x_ireturn (pc := 31) o hr dX7_byteAt_31 (Option.some.inj h) rfl
    · have h := xif h c7
      refine x_iload_n (pc := 12) o dX7_byteAt_12 rfl rfl ?_
      refine x_aload_n (pc := 13) o dX7_byteAt_13 rfl rfl ?_
      obtain ⟨r2, hr2, h⟩ := xbs h
      refine gX7_22 (pc := 14) o dX7_byteAt_14 hr2 ?_
      obtain ⟨v3, hv3, h⟩ := xbs h
      refine x_arraylength (pc := 17) o dX7_byteAt_17 hv3 ?_
      refine x_icmp_ge (pc := 18) (tgt := 30) o dX7_byteAt_18 (by decide) (fun c6 => ?_) (fun c6 => ?_)
      · have h := xit h c6
        refine x_iconst (pc := 30) o dX7_byteAt_30 ic_m1 ?_
        exact x_ireturn (pc := 31) o hr dX7_byteAt_31 (Option.some.inj h) rfl
      · have h := xif h c6
        refine x_aload_n (pc := 21) o dX7_byteAt_21 rfl rfl ?_
        obtain ⟨r4, hr4, h⟩ := xbs h
        refine gX7_22 (pc := 22) o dX7_byteAt_22 hr4 ?_
        refine x_iload_n (pc := 25) o dX7_byteAt_25 rfl rfl ?_
        obtain ⟨v5, hv5, h⟩ := xbs h
        refine x_iaload (pc := 26) o dX7_byteAt_26 hv5 ?_
        refine x_goto (pc := 27) (tgt := 31) o dX7_byteAt_27 (by decide) ?_
        exact x_ireturn (pc := 31) o hr dX7_byteAt_31 (Option.some.inj h) rfl
def fX7_skipBlanks_L2b (n : Nat) (k0 : Nat) (rec : Int32 → xSt → Option (xSt)) (a1 : Int32) (S : xSt) : Option (xSt) :=
  if ((1600 : Int32)) ≤ a1 then
  (some S)
else
  ((xgI tC 7 3 k0 S).bind fun v1 =>
  (fX7_byteAt k0 v1 S).bind fun v2 =>
  if v2 = ((32 : Int32)) then
  ((xgI tC 7 3 k0 S).bind fun v3 =>
  (xpI tC 7 3 k0 (v3 + ((1 : Int32))) S).bind fun S4 =>
  (some (a1 + (1 : Int32))).bind fun v5 =>
  rec v5 S4)
else
  ((xgI tC 7 3 k0 S).bind fun v6 =>
  (fX7_byteAt k0 v6 S).bind fun v7 =>
  if v7 = ((10 : Int32)) then
  ((xgI tC 7 3 k0 S).bind fun v8 =>
  (xpI tC 7 3 k0 (v8 + ((1 : Int32))) S).bind fun S9 =>
  (some (a1 + (1 : Int32))).bind fun v10 =>
  rec v10 S9)
else
  (some S)))
def fX7_skipBlanks_L2 (n : Nat) (k0 : Nat) : Nat → Int32 → xSt → Option (xSt)
  | 0 => fun _ _ => none
  | q + 1 => fX7_skipBlanks_L2b n k0 (fX7_skipBlanks_L2 n k0 q)
set_option maxHeartbeats 4000000 in
theorem tX7_skipBlanks_L2b {Γ : xGm} {M : xMg} (o : xOk Γ tC M 2 cX7_skipBlanks RX7) (hnL : Γ.2.2.2 = 2) {rec : Int32 → xSt → Option (xSt)} (n : Nat) (k0 : Nat) (a1 : Int32) (S : xSt) (z : (xSt)) (hrec : ∀ (a1 : Int32) (S : xSt), rec a1 S = some z → xAt Γ tC M 2 (xlv [(0, .ref (M.2.1 k0)), (1, .int a1)]) [] S) (K : xAt Γ tC M 51 (xlv []) [] z) (h : fX7_skipBlanks_L2b n k0 rec a1 S = some z) : xAt Γ tC M 2 (xlv [(0, .ref (M.2.1 k0)), (1, .int a1)]) [] S := by
  have hn1 : 1 < Γ.2.2.2 := by omega
  unfold fX7_skipBlanks_L2b at h
  refine x_iload_n (pc := 2) o dX7_skipBlanks_2 rfl rfl ?_
  refine x_sipush (pc := 3) o dX7_skipBlanks_3 sp_1600 ?_
  refine x_icmp_ge (pc := 6) (tgt := 51) o dX7_skipBlanks_6 (by decide) (fun c13 => ?_) (fun c13 => ?_)
  · have h := xit h c13
    refine x_to (l := []) trivial ?_
    cases Option.some.inj h
    exact K
  · have h := xif h c13
    refine x_aload_n (pc := 9) o dX7_skipBlanks_9 rfl rfl ?_
    refine x_aload_n (pc := 10) o dX7_skipBlanks_10 rfl rfl ?_
    obtain ⟨v1, hv1, h⟩ := xbs h
    refine gX7_52 (pc := 11) o dX7_skipBlanks_11 hv1 ?_
    obtain ⟨v2, hv2, h⟩ := xbs h
    refine x_callI (pc := 14) (As := [.int v1]) (b := k0) (rest := []) o (tX7_byteAt _ M _ k0 v1 S v2 hv2) eX7_byteAt mX7_77 clX7 (kX7_byteAt hv2) (by decide) rfl rfl (Nat.le_of_ble_eq_true rfl) dX7_skipBlanks_14 ?_
    refine x_bipush (pc := 17) o dX7_skipBlanks_17 bp_32 ?_
    refine x_icmp_eq (pc := 19) (tgt := 35) o dX7_skipBlanks_19 (by decide) (fun c12 => ?_) (fun c12 => ?_)
    · have h := xit h c12
      refine x_aload_n (pc := 35) o dX7_skipBlanks_35 rfl rfl ?_
      refine x_dup (pc := 36) o dX7_skipBlanks_36 rfl ?_
      obtain ⟨v3, hv3, h⟩ := xbs h
      refine gX7_52 (pc := 37) o dX7_skipBlanks_37 hv3 ?_
      refine x_iconst (pc := 40) o dX7_skipBlanks_40 ic_1 ?_
      refine x_iadd (pc := 41) o dX7_skipBlanks_41 ?_
      obtain ⟨S4, hS4, h⟩ := xbs h
      refine pX7_52 (pc := 42) o dX7_skipBlanks_42 hS4 ?_
      obtain ⟨v5, hv5, h⟩ := xbs h
      refine x_iincE (pc := 45) o dX7_skipBlanks_45 rfl ic_1 hn1 hv5 ?_
      refine x_goto (pc := 48) (tgt := 2) o dX7_skipBlanks_48 (by decide) ?_
      refine x_to (l := [(0, .ref (M.2.1 k0)), (1, .int v5)]) ⟨rfl, rfl, trivial⟩ ?_
      exact hrec v5 S4 h
    · have h := xif h c12
      refine x_aload_n (pc := 22) o dX7_skipBlanks_22 rfl rfl ?_
      refine x_aload_n (pc := 23) o dX7_skipBlanks_23 rfl rfl ?_
      obtain ⟨v6, hv6, h⟩ := xbs h
      refine gX7_52 (pc := 24) o dX7_skipBlanks_24 hv6 ?_
      obtain ⟨v7, hv7, h⟩ := xbs h
      refine x_callI (pc := 27) (As := [.int v6]) (b := k0) (rest := []) o (tX7_byteAt _ M _ k0 v6 S v7 hv7) eX7_byteAt mX7_77 clX7 (kX7_byteAt hv7) (by decide) rfl rfl (Nat.le_of_ble_eq_true rfl) dX7_skipBlanks_27 ?_
      refine x_bipush (pc := 30) o dX7_skipBlanks_30 bp_10 ?_
      refine x_icmp_ne (pc := 32) (tgt := 51) o dX7_skipBlanks_32 (by decide) (fun c11 => ?_) (fun c11 => ?_)
      · have h := xif h c11
        refine x_to (l := []) trivial ?_
        cases Option.some.inj h
        exact K
      · have h := xit h c11
        refine x_aload_n (pc := 35) o dX7_skipBlanks_35 rfl rfl ?_
        refine x_dup (pc := 36) o dX7_skipBlanks_36 rfl ?_
        obtain ⟨v8, hv8, h⟩ := xbs h
        refine gX7_52 (pc := 37) o dX7_skipBlanks_37 hv8 ?_
        refine x_iconst (pc := 40) o dX7_skipBlanks_40 ic_1 ?_
        refine x_iadd (pc := 41) o dX7_skipBlanks_41 ?_
        obtain ⟨S9, hS9, h⟩ := xbs h
        refine pX7_52 (pc := 42) o dX7_skipBlanks_42 hS9 ?_
        obtain ⟨v10, hv10, h⟩ := xbs h
        refine x_iincE (pc := 45) o dX7_skipBlanks_45 rfl ic_1 hn1 hv10 ?_
        refine x_goto (pc := 48) (tgt := 2) o dX7_skipBlanks_48 (by decide) ?_
        refine x_to (l := [(0, .ref (M.2.1 k0)), (1, .int v10)]) ⟨rfl, rfl, trivial⟩ ?_
        exact hrec v10 S9 h
theorem tX7_skipBlanks_L2 {Γ : xGm} {M : xMg} (o : xOk Γ tC M 2 cX7_skipBlanks RX7) (hnL : Γ.2.2.2 = 2) (n : Nat) (k0 : Nat) (z : (xSt)) (K : xAt Γ tC M 51 (xlv []) [] z) : ∀ (q : Nat) (a1 : Int32) (S : xSt), fX7_skipBlanks_L2 n k0 q a1 S = some z → xAt Γ tC M 2 (xlv [(0, .ref (M.2.1 k0)), (1, .int a1)]) [] S := by
  intro q
  induction q with
  | zero => intro a1 S h; cases h
  | succ q ih => intro a1 S h; exact tX7_skipBlanks_L2b o hnL n k0 a1 S z ih K h
def fX7_skipBlanks (n : Nat) (k0 : Nat) (S : xSt) : Option (xSt) :=
  if tC.1 k0 = 7 then
  ((fX7_skipBlanks_L2 n k0 n ((0 : Int32)) S).bind fun z14 => some z14)
  else none
theorem kX7_skipBlanks {z : xSt} {n : Nat} {k0 : Nat} {S : xSt} (h : fX7_skipBlanks n k0 S = some z) : tC.1 k0 = 7 := by
  unfold fX7_skipBlanks at h
  exact (xck h).1
set_option maxHeartbeats 4000000 in
theorem tX7_skipBlanks (l : Launch) (M : xMg) (A : Nat → Prop) (n : Nat) (k0 : Nat) (S : xSt) (z : xSt) (h : fX7_skipBlanks n k0 S = some z) : xMV l yX7_skipBlanks cX7_skipBlanks 2 none 2 tC M A [.ref (M.2.1 k0)] S z := by
  refine x_metV (plainFor_of_name (by decide)) tC_ok (Nat.le_of_ble_eq_true rfl) (fun Γ hA hnL hl hr o => ?_)
  subst hA; subst hl
  have o : xOk Γ tC M 2 cX7_skipBlanks RX7 := o
  unfold fX7_skipBlanks at h
  obtain ⟨hk0, h⟩ := xck h
  refine x_to (l := [(0, .ref (M.2.1 k0))]) ⟨rfl, trivial⟩ ?_
  have hn1 : 1 < Γ.2.2.2 := by omega
  refine x_iconst (pc := 0) o dX7_skipBlanks_0 ic_0 ?_
  refine x_istore_n (pc := 1) o dX7_skipBlanks_1 rfl hn1 ?_
  obtain ⟨z14, hz14, h⟩ := xbs h
  refine x_to (l := [(0, .ref (M.2.1 k0)), (1, .int ((0 : Int32)))]) ⟨rfl, rfl, trivial⟩ ?_
  refine tX7_skipBlanks_L2 o hnL n k0 z14 ?_ n ((0 : Int32)) S hz14
  exact x_vreturn (pc := 51) o hr dX7_skipBlanks_51 (Option.some.inj h)
def fX7_isLetter (a0 : Int32) (S : xSt) : Option (Int32) :=
  if a0 < ((97 : Int32)) then
  (some ((0 : Int32)))
else
  (if ((122 : Int32)) < a0 then
  (some ((0 : Int32)))
else
  (some ((1 : Int32))))
set_option maxHeartbeats 4000000 in
theorem tX7_isLetter (l : Launch) (M : xMg) (A : Nat → Prop) (a0 : Int32) (S : xSt) (z : Int32) (h : fX7_isLetter a0 S = some z) : xMI l yX7_isLetter cX7_isLetter 1 (some .boolean) 1 tC M A [.int a0] S z S := by
  refine x_metI (plainFor_of_name (by decide)) tC_ok (Nat.le_of_ble_eq_true rfl) (fun Γ hA hnL hl hr o => ?_)
  subst hA; subst hl
  have o : xOk Γ tC M 1 cX7_isLetter RX7 := o
  unfold fX7_isLetter at h
  refine x_to (l := [(0, .int a0)]) ⟨rfl, trivial⟩ ?_
  refine x_iload_n (pc := 0) o dX7_isLetter_0 rfl rfl ?_
  refine x_bipush (pc := 1) o dX7_isLetter_1 bp_97 ?_
  refine x_icmp_lt (pc := 3) (tgt := 16) o dX7_isLetter_3 (by decide) (fun c2 => ?_) (fun c2 => ?_)
  · have h := xit h c2
    refine x_iconst (pc := 16) o dX7_isLetter_16 ic_0 ?_
    exact x_zreturn (pc := 17) o hr dX7_isLetter_17 (by decide) (Option.some.inj h) rfl
  · have h := xif h c2
    refine x_iload_n (pc := 6) o dX7_isLetter_6 rfl rfl ?_
    refine x_bipush (pc := 7) o dX7_isLetter_7 bp_122 ?_
    refine x_icmp_gt (pc := 9) (tgt := 16) o dX7_isLetter_9 (by decide) (fun c1 => ?_) (fun c1 => ?_)
    · have h := xit h c1
      refine x_iconst (pc := 16) o dX7_isLetter_16 ic_0 ?_
      exact x_zreturn (pc := 17) o hr dX7_isLetter_17 (by decide) (Option.some.inj h) rfl
    · have h := xif h c1
      refine x_iconst (pc := 12) o dX7_isLetter_12 ic_1 ?_
      refine x_goto (pc := 13) (tgt := 17) o dX7_isLetter_13 (by decide) ?_
      exact x_zreturn (pc := 17) o hr dX7_isLetter_17 (by decide) (Option.some.inj h) rfl
def fX7_withLetter (a0 : Int32) (a1 : Int32) (a2 : Int32) (S : xSt) : Option (Int32) :=
  some (a0 ||| (((a2 - ((97 : Int32))) + ((1 : Int32))) <<< (((((5 : Int32)) - a1) * ((5 : Int32))) &&& 31)))
set_option maxHeartbeats 4000000 in
theorem tX7_withLetter (l : Launch) (M : xMg) (A : Nat → Prop) (a0 : Int32) (a1 : Int32) (a2 : Int32) (S : xSt) (z : Int32) (h : fX7_withLetter a0 a1 a2 S = some z) : xMI l yX7_withLetter cX7_withLetter 3 (some .int) 1 tC M A [.int a0, .int a1, .int a2] S z S := by
  refine x_metI (plainFor_of_name (by decide)) tC_ok (Nat.le_of_ble_eq_true rfl) (fun Γ hA hnL hl hr o => ?_)
  subst hA; subst hl
  have o : xOk Γ tC M 1 cX7_withLetter RX7 := o
  unfold fX7_withLetter at h
  refine x_to (l := [(0, .int a0), (1, .int a1), (2, .int a2)]) ⟨rfl, rfl, rfl, trivial⟩ ?_
  refine x_iload_n (pc := 0) o dX7_withLetter_0 rfl rfl ?_
  refine x_iload_n (pc := 1) o dX7_withLetter_1 rfl rfl ?_
  refine x_bipush (pc := 2) o dX7_withLetter_2 bp_97 ?_
  refine x_isub (pc := 4) o dX7_withLetter_4 ?_
  refine x_iconst (pc := 5) o dX7_withLetter_5 ic_1 ?_
  refine x_iadd (pc := 6) o dX7_withLetter_6 ?_
  refine x_iconst (pc := 7) o dX7_withLetter_7 ic_5 ?_
  refine x_iload_n (pc := 8) o dX7_withLetter_8 rfl rfl ?_
  refine x_isub (pc := 9) o dX7_withLetter_9 ?_
  refine x_iconst (pc := 10) o dX7_withLetter_10 ic_5 ?_
  refine x_imul (pc := 11) o dX7_withLetter_11 ?_
  refine x_ishl (pc := 12) o dX7_withLetter_12 ?_
  refine x_ior (pc := 13) o dX7_withLetter_13 ?_
  exact x_ireturn (pc := 14) o hr dX7_withLetter_14 (Option.some.inj h) rfl
def fX7_ownNumber_L2b (n : Nat) (k0 : Nat) (a1 : Int32) (S : xSt) (rec : Int32 → Option ((Unit) ⊕ (Int32))) (a2 : Int32) : Option ((Unit) ⊕ (Int32)) :=
  if ((32 : Int32)) ≤ a2 then
  (some (.inl ()))
else
  ((xgF tC 7 1 k0 S).bind fun r1 =>
  (xal tC r1 a2 S).bind fun v2 =>
  if v2 = a1 then
  (some (.inr a2))
else
  ((some (a2 + (1 : Int32))).bind fun v3 =>
  rec v3))
def fX7_ownNumber_L2 (n : Nat) (k0 : Nat) (a1 : Int32) (S : xSt) : Nat → Int32 → Option ((Unit) ⊕ (Int32))
  | 0 => fun _ => none
  | q + 1 => fX7_ownNumber_L2b n k0 a1 S (fX7_ownNumber_L2 n k0 a1 S q)
set_option maxHeartbeats 4000000 in
theorem tX7_ownNumber_L2b {Γ : xGm} {M : xMg} (o : xOk Γ tC M 1 cX7_ownNumber RX7) (hnL : Γ.2.2.2 = 3) {rec : Int32 → Option ((Unit) ⊕ (Int32))} (n : Nat) (k0 : Nat) (a1 : Int32) (S : xSt) (a2 : Int32) (z : ((Unit) ⊕ (Int32))) (hrec : ∀ (a2 : Int32), rec a2 = some z → xAt Γ tC M 2 (xlv [(0, .ref (M.2.1 k0)), (1, .int a1), (2, .int a2)]) [] S) (K : ∀ e, z = .inl e → xAt Γ tC M 26 (xlv []) [] S) (R : ∀ r, z = .inr r → xRI Γ tC M (some .int) r S) (h : fX7_ownNumber_L2b n k0 a1 S rec a2 = some z) : xAt Γ tC M 2 (xlv [(0, .ref (M.2.1 k0)), (1, .int a1), (2, .int a2)]) [] S := by
  have hn2 : 2 < Γ.2.2.2 := by omega
  unfold fX7_ownNumber_L2b at h
  refine x_iload_n (pc := 2) o dX7_ownNumber_2 rfl rfl ?_
  refine x_bipush (pc := 3) o dX7_ownNumber_3 bp_32 ?_
  refine x_icmp_ge (pc := 5) (tgt := 26) o dX7_ownNumber_5 (by decide) (fun c5 => ?_) (fun c5 => ?_)
  · have h := xit h c5
    refine x_to (l := []) trivial ?_
    exact K _ (Option.some.inj h).symm
  · have h := xif h c5
    refine x_aload_n (pc := 8) o dX7_ownNumber_8 rfl rfl ?_
    obtain ⟨r1, hr1, h⟩ := xbs h
    refine gX7_11 (pc := 9) o dX7_ownNumber_9 hr1 ?_
    refine x_iload_n (pc := 12) o dX7_ownNumber_12 rfl rfl ?_
    obtain ⟨v2, hv2, h⟩ := xbs h
    refine x_iaload (pc := 13) o dX7_ownNumber_13 hv2 ?_
    refine x_iload_n (pc := 14) o dX7_ownNumber_14 rfl rfl ?_
    refine x_icmp_ne (pc := 15) (tgt := 20) o dX7_ownNumber_15 (by decide) (fun c4 => ?_) (fun c4 => ?_)
    · have h := xif h c4
      obtain ⟨v3, hv3, h⟩ := xbs h
      refine x_iincE (pc := 20) o dX7_ownNumber_20 rfl ic_1 hn2 hv3 ?_
      refine x_goto (pc := 23) (tgt := 2) o dX7_ownNumber_23 (by decide) ?_
      refine x_to (l := [(0, .ref (M.2.1 k0)), (1, .int a1), (2, .int v3)]) ⟨rfl, rfl, rfl, trivial⟩ ?_
      exact hrec v3 h
    · have h := xit h c4
      refine x_iload_n (pc := 18) o dX7_ownNumber_18 rfl rfl ?_
      exact x_ireturn (pc := 19) o (R _ (Option.some.inj h).symm) dX7_ownNumber_19 rfl rfl
theorem tX7_ownNumber_L2 {Γ : xGm} {M : xMg} (o : xOk Γ tC M 1 cX7_ownNumber RX7) (hnL : Γ.2.2.2 = 3) (n : Nat) (k0 : Nat) (a1 : Int32) (S : xSt) (z : ((Unit) ⊕ (Int32))) (K : ∀ e, z = .inl e → xAt Γ tC M 26 (xlv []) [] S) (R : ∀ r, z = .inr r → xRI Γ tC M (some .int) r S) : ∀ (q : Nat) (a2 : Int32), fX7_ownNumber_L2 n k0 a1 S q a2 = some z → xAt Γ tC M 2 (xlv [(0, .ref (M.2.1 k0)), (1, .int a1), (2, .int a2)]) [] S := by
  intro q
  induction q with
  | zero => intro a2 h; cases h
  | succ q ih => intro a2 h; exact tX7_ownNumber_L2b o hnL n k0 a1 S a2 z ih K R h
def fX7_ownNumber (n : Nat) (k0 : Nat) (a1 : Int32) (S : xSt) : Option (Int32) :=
  if tC.1 k0 = 7 then
  ((fX7_ownNumber_L2 n k0 a1 S n ((0 : Int32))).bind fun z6 => xel z6 (fun ez6 => some ((-1 : Int32))) (fun r => some r))
  else none
theorem kX7_ownNumber {z : Int32} {n : Nat} {k0 : Nat} {a1 : Int32} {S : xSt} (h : fX7_ownNumber n k0 a1 S = some z) : tC.1 k0 = 7 := by
  unfold fX7_ownNumber at h
  exact (xck h).1
set_option maxHeartbeats 4000000 in
theorem tX7_ownNumber (l : Launch) (M : xMg) (A : Nat → Prop) (n : Nat) (k0 : Nat) (a1 : Int32) (S : xSt) (z : Int32) (h : fX7_ownNumber n k0 a1 S = some z) : xMI l yX7_ownNumber cX7_ownNumber 3 (some .int) 1 tC M A [.ref (M.2.1 k0), .int a1] S z S := by
  refine x_metI (plainFor_of_name (by decide)) tC_ok (Nat.le_of_ble_eq_true rfl) (fun Γ hA hnL hl hr o => ?_)
  subst hA; subst hl
  have o : xOk Γ tC M 1 cX7_ownNumber RX7 := o
  unfold fX7_ownNumber at h
  obtain ⟨hk0, h⟩ := xck h
  refine x_to (l := [(0, .ref (M.2.1 k0)), (1, .int a1)]) ⟨rfl, rfl, trivial⟩ ?_
  have hn2 : 2 < Γ.2.2.2 := by omega
  refine x_iconst (pc := 0) o dX7_ownNumber_0 ic_0 ?_
  refine x_istore_n (pc := 1) o dX7_ownNumber_1 rfl hn2 ?_
  obtain ⟨z6, hz6, h⟩ := xbs h
  refine x_to (l := [(0, .ref (M.2.1 k0)), (1, .int a1), (2, .int ((0 : Int32)))]) ⟨rfl, rfl, rfl, trivial⟩ ?_
  refine tX7_ownNumber_L2 o hnL n k0 a1 S z6 (fun ez6 he => ?_) (fun r he => ?_) n ((0 : Int32)) hz6
  · subst he; have h := xel_l h
    refine x_iconst (pc := 26) o dX7_ownNumber_26 ic_m1 ?_
    exact x_ireturn (pc := 27) o hr dX7_ownNumber_27 (Option.some.inj h) rfl
  · subst he; have h := xel_r h
    cases Option.some.inj h
    exact hr
def fX7_refuseIf (k0 : Nat) (a1 : Int32) (S : xSt) : Option (xSt) :=
  if tC.1 k0 = 7 then
  (if a1 = 0 then
  (some S)
else
  ((xpI tC 7 4 k0 ((4 : Int32)) S).bind fun S1 =>
  (xgI tC 7 3 k0 S1).bind fun v2 =>
  (xpI tC 7 6 k0 v2 S1).bind fun S3 =>
  some S3))
  else none
theorem kX7_refuseIf {z : xSt} {k0 : Nat} {a1 : Int32} {S : xSt} (h : fX7_refuseIf k0 a1 S = some z) : tC.1 k0 = 7 := by
  unfold fX7_refuseIf at h
  exact (xck h).1
set_option maxHeartbeats 4000000 in
theorem tX7_refuseIf (l : Launch) (M : xMg) (A : Nat → Prop) (k0 : Nat) (a1 : Int32) (S : xSt) (z : xSt) (h : fX7_refuseIf k0 a1 S = some z) : xMV l yX7_refuseIf cX7_refuseIf 2 none 1 tC M A [.ref (M.2.1 k0), .int a1] S z := by
  refine x_metV (plainFor_of_name (by decide)) tC_ok (Nat.le_of_ble_eq_true rfl) (fun Γ hA hnL hl hr o => ?_)
  subst hA; subst hl
  have o : xOk Γ tC M 1 cX7_refuseIf RX7 := o
  unfold fX7_refuseIf at h
  obtain ⟨hk0, h⟩ := xck h
  refine x_to (l := [(0, .ref (M.2.1 k0)), (1, .int a1)]) ⟨rfl, rfl, trivial⟩ ?_
  refine x_iload_n (pc := 0) o dX7_refuseIf_0 rfl rfl ?_
  refine x_if_eq (pc := 1) (tgt := 17) o dX7_refuseIf_1 (by decide) (fun c4 => ?_) (fun c4 => ?_)
  · have h := xit h c4
    exact x_vreturn (pc := 17) o hr dX7_refuseIf_17 (Option.some.inj h)
  · have h := xif h c4
    refine x_aload_n (pc := 4) o dX7_refuseIf_4 rfl rfl ?_
    refine x_iconst (pc := 5) o dX7_refuseIf_5 ic_4 ?_
    obtain ⟨S1, hS1, h⟩ := xbs h
    refine pX7_55 (pc := 6) o dX7_refuseIf_6 hS1 ?_
    refine x_aload_n (pc := 9) o dX7_refuseIf_9 rfl rfl ?_
    refine x_aload_n (pc := 10) o dX7_refuseIf_10 rfl rfl ?_
    obtain ⟨v2, hv2, h⟩ := xbs h
    refine gX7_52 (pc := 11) o dX7_refuseIf_11 hv2 ?_
    obtain ⟨S3, hS3, h⟩ := xbs h
    refine pX7_64 (pc := 14) o dX7_refuseIf_14 hS3 ?_
    exact x_vreturn (pc := 17) o hr dX7_refuseIf_17 (Option.some.inj h)
def fX7_readWord_L12b (n : Nat) (k0 : Nat) (rec : Int32 → xSt → Option (xSt)) (a1 : Int32) (S : xSt) : Option (xSt) :=
  if ((6 : Int32)) ≤ a1 then
  (some S)
else
  ((xgI tC 7 3 k0 S).bind fun v3 =>
  (fX7_byteAt k0 v3 S).bind fun v4 =>
  (fX7_isLetter v4 S).bind fun v5 =>
  if v5 = 0 then
  (some S)
else
  ((xgI tC 7 7 k0 S).bind fun v6 =>
  (xgI tC 7 3 k0 S).bind fun v7 =>
  (fX7_byteAt k0 v7 S).bind fun v8 =>
  (fX7_withLetter v6 a1 v8 S).bind fun v9 =>
  (xpI tC 7 7 k0 v9 S).bind fun S10 =>
  (xgI tC 7 3 k0 S10).bind fun v11 =>
  (xpI tC 7 3 k0 (v11 + ((1 : Int32))) S10).bind fun S12 =>
  (some (a1 + (1 : Int32))).bind fun v13 =>
  rec v13 S12))
def fX7_readWord_L12 (n : Nat) (k0 : Nat) : Nat → Int32 → xSt → Option (xSt)
  | 0 => fun _ _ => none
  | q + 1 => fX7_readWord_L12b n k0 (fX7_readWord_L12 n k0 q)
set_option maxHeartbeats 4000000 in
theorem tX7_readWord_L12b {Γ : xGm} {M : xMg} (o : xOk Γ tC M 2 cX7_readWord RX7) (hnL : Γ.2.2.2 = 2) {rec : Int32 → xSt → Option (xSt)} (n : Nat) (k0 : Nat) (a1 : Int32) (S : xSt) (z : (xSt)) (hrec : ∀ (a1 : Int32) (S : xSt), rec a1 S = some z → xAt Γ tC M 12 (xlv [(0, .ref (M.2.1 k0)), (1, .int a1)]) [] S) (K : xAt Γ tC M 68 (xlv [(0, .ref (M.2.1 k0))]) [] z) (h : fX7_readWord_L12b n k0 rec a1 S = some z) : xAt Γ tC M 12 (xlv [(0, .ref (M.2.1 k0)), (1, .int a1)]) [] S := by
  have hn1 : 1 < Γ.2.2.2 := by omega
  unfold fX7_readWord_L12b at h
  refine x_iload_n (pc := 12) o dX7_readWord_12 rfl rfl ?_
  refine x_bipush (pc := 13) o dX7_readWord_13 bp_6 ?_
  refine x_icmp_ge (pc := 15) (tgt := 68) o dX7_readWord_15 (by decide) (fun c15 => ?_) (fun c15 => ?_)
  · have h := xit h c15
    refine x_to (l := [(0, .ref (M.2.1 k0))]) ⟨rfl, trivial⟩ ?_
    cases Option.some.inj h
    exact K
  · have h := xif h c15
    refine x_aload_n (pc := 18) o dX7_readWord_18 rfl rfl ?_
    refine x_aload_n (pc := 19) o dX7_readWord_19 rfl rfl ?_
    obtain ⟨v3, hv3, h⟩ := xbs h
    refine gX7_52 (pc := 20) o dX7_readWord_20 hv3 ?_
    obtain ⟨v4, hv4, h⟩ := xbs h
    refine x_callI (pc := 23) (As := [.int v3]) (b := k0) (rest := []) o (tX7_byteAt _ M _ k0 v3 S v4 hv4) eX7_byteAt mX7_77 clX7 (kX7_byteAt hv4) (by decide) rfl rfl (Nat.le_of_ble_eq_true rfl) dX7_readWord_23 ?_
    obtain ⟨v5, hv5, h⟩ := xbs h
    refine x_statI (pc := 26) (As := [.int v4]) (rest := []) o (tX7_isLetter _ M _ v4 S v5 hv5) eX7_isLetter mX7_81 (by decide) rfl rfl (Nat.le_of_ble_eq_true rfl) dX7_readWord_26 ?_
    refine x_if_eq (pc := 29) (tgt := 68) o dX7_readWord_29 (by decide) (fun c14 => ?_) (fun c14 => ?_)
    · have h := xit h c14
      refine x_to (l := [(0, .ref (M.2.1 k0))]) ⟨rfl, trivial⟩ ?_
      cases Option.some.inj h
      exact K
    · have h := xif h c14
      refine x_aload_n (pc := 32) o dX7_readWord_32 rfl rfl ?_
      refine x_aload_n (pc := 33) o dX7_readWord_33 rfl rfl ?_
      obtain ⟨v6, hv6, h⟩ := xbs h
      refine gX7_94 (pc := 34) o dX7_readWord_34 hv6 ?_
      refine x_iload_n (pc := 37) o dX7_readWord_37 rfl rfl ?_
      refine x_aload_n (pc := 38) o dX7_readWord_38 rfl rfl ?_
      refine x_aload_n (pc := 39) o dX7_readWord_39 rfl rfl ?_
      obtain ⟨v7, hv7, h⟩ := xbs h
      refine gX7_52 (pc := 40) o dX7_readWord_40 hv7 ?_
      obtain ⟨v8, hv8, h⟩ := xbs h
      refine x_callI (pc := 43) (As := [.int v7]) (b := k0) (rest := [.int a1, .int v6, .ref (M.2.1 k0)]) o (tX7_byteAt _ M _ k0 v7 S v8 hv8) eX7_byteAt mX7_77 clX7 (kX7_byteAt hv8) (by decide) rfl rfl (Nat.le_of_ble_eq_true rfl) dX7_readWord_43 ?_
      obtain ⟨v9, hv9, h⟩ := xbs h
      refine x_statI (pc := 46) (As := [.int v6, .int a1, .int v8]) (rest := [.ref (M.2.1 k0)]) o (tX7_withLetter _ M _ v6 a1 v8 S v9 hv9) eX7_withLetter mX7_37 (by decide) rfl rfl (Nat.le_of_ble_eq_true rfl) dX7_readWord_46 ?_
      obtain ⟨S10, hS10, h⟩ := xbs h
      refine pX7_94 (pc := 49) o dX7_readWord_49 hS10 ?_
      refine x_aload_n (pc := 52) o dX7_readWord_52 rfl rfl ?_
      refine x_dup (pc := 53) o dX7_readWord_53 rfl ?_
      obtain ⟨v11, hv11, h⟩ := xbs h
      refine gX7_52 (pc := 54) o dX7_readWord_54 hv11 ?_
      refine x_iconst (pc := 57) o dX7_readWord_57 ic_1 ?_
      refine x_iadd (pc := 58) o dX7_readWord_58 ?_
      obtain ⟨S12, hS12, h⟩ := xbs h
      refine pX7_52 (pc := 59) o dX7_readWord_59 hS12 ?_
      obtain ⟨v13, hv13, h⟩ := xbs h
      refine x_iincE (pc := 62) o dX7_readWord_62 rfl ic_1 hn1 hv13 ?_
      refine x_goto (pc := 65) (tgt := 12) o dX7_readWord_65 (by decide) ?_
      refine x_to (l := [(0, .ref (M.2.1 k0)), (1, .int v13)]) ⟨rfl, rfl, trivial⟩ ?_
      exact hrec v13 S12 h
theorem tX7_readWord_L12 {Γ : xGm} {M : xMg} (o : xOk Γ tC M 2 cX7_readWord RX7) (hnL : Γ.2.2.2 = 2) (n : Nat) (k0 : Nat) (z : (xSt)) (K : xAt Γ tC M 68 (xlv [(0, .ref (M.2.1 k0))]) [] z) : ∀ (q : Nat) (a1 : Int32) (S : xSt), fX7_readWord_L12 n k0 q a1 S = some z → xAt Γ tC M 12 (xlv [(0, .ref (M.2.1 k0)), (1, .int a1)]) [] S := by
  intro q
  induction q with
  | zero => intro a1 S h; cases h
  | succ q ih => intro a1 S h; exact tX7_readWord_L12b o hnL n k0 a1 S z ih K h
def fX7_readWord_B68 (n : Nat) (k0 : Nat) (S : xSt) : Option (xSt) :=
  (xgI tC 7 7 k0 S).bind fun v17 =>
  (fX7_ownNumber n k0 v17 S).bind fun v18 =>
  (xpI tC 7 8 k0 v18 S).bind fun S19 =>
  (xgI tC 7 3 k0 S19).bind fun v20 =>
  (fX7_byteAt k0 v20 S19).bind fun v21 =>
  (fX7_isLetter v21 S19).bind fun v22 =>
  (fX7_refuseIf k0 v22 S19).bind fun S23 =>
  some S23
set_option maxHeartbeats 4000000 in
theorem tX7_readWord_B68 {Γ : xGm} {M : xMg} (o : xOk Γ tC M 2 cX7_readWord RX7) (hnL : Γ.2.2.2 = 2) (n : Nat) (k0 : Nat) (S : xSt) (z : (xSt)) (hr : xRV Γ tC M none z) (h : fX7_readWord_B68 n k0 S = some z) : xAt Γ tC M 68 (xlv [(0, .ref (M.2.1 k0))]) [] S := by
  unfold fX7_readWord_B68 at h
  refine x_aload_n (pc := 68) o dX7_readWord_68 rfl rfl ?_
  refine x_aload_n (pc := 69) o dX7_readWord_69 rfl rfl ?_
  refine x_aload_n (pc := 70) o dX7_readWord_70 rfl rfl ?_
  obtain ⟨v17, hv17, h⟩ := xbs h
  refine gX7_94 (pc := 71) o dX7_readWord_71 hv17 ?_
  obtain ⟨v18, hv18, h⟩ := xbs h
  refine x_callI (pc := 74) (As := [.int v17]) (b := k0) (rest := [.ref (M.2.1 k0)]) o (tX7_ownNumber _ M _ n k0 v17 S v18 hv18) eX7_ownNumber mX7_97 clX7 (kX7_ownNumber hv18) (by decide) rfl rfl (Nat.le_of_ble_eq_true rfl) dX7_readWord_74 ?_
  obtain ⟨S19, hS19, h⟩ := xbs h
  refine pX7_15 (pc := 77) o dX7_readWord_77 hS19 ?_
  refine x_aload_n (pc := 80) o dX7_readWord_80 rfl rfl ?_
  refine x_aload_n (pc := 81) o dX7_readWord_81 rfl rfl ?_
  refine x_aload_n (pc := 82) o dX7_readWord_82 rfl rfl ?_
  obtain ⟨v20, hv20, h⟩ := xbs h
  refine gX7_52 (pc := 83) o dX7_readWord_83 hv20 ?_
  obtain ⟨v21, hv21, h⟩ := xbs h
  refine x_callI (pc := 86) (As := [.int v20]) (b := k0) (rest := [.ref (M.2.1 k0)]) o (tX7_byteAt _ M _ k0 v20 S19 v21 hv21) eX7_byteAt mX7_77 clX7 (kX7_byteAt hv21) (by decide) rfl rfl (Nat.le_of_ble_eq_true rfl) dX7_readWord_86 ?_
  obtain ⟨v22, hv22, h⟩ := xbs h
  refine x_statI (pc := 89) (As := [.int v21]) (rest := [.ref (M.2.1 k0)]) o (tX7_isLetter _ M _ v21 S19 v22 hv22) eX7_isLetter mX7_81 (by decide) rfl rfl (Nat.le_of_ble_eq_true rfl) dX7_readWord_89 ?_
  obtain ⟨S23, hS23, h⟩ := xbs h
  refine x_callV (pc := 92) (As := [.int v22]) (b := k0) (rest := []) o (tX7_refuseIf _ M _ k0 v22 S19 S23 hS23) eX7_refuseIf mX7_100 clX7 (kX7_refuseIf hS23) (by decide) rfl rfl (Nat.le_of_ble_eq_true rfl) dX7_readWord_92 ?_
  exact x_vreturn (pc := 95) o hr dX7_readWord_95 (Option.some.inj h)
def fX7_readWord (n : Nat) (k0 : Nat) (S : xSt) : Option (xSt) :=
  if tC.1 k0 = 7 then
  ((xpI tC 7 4 k0 ((1 : Int32)) S).bind fun S1 =>
  (xpI tC 7 7 k0 ((0 : Int32)) S1).bind fun S2 =>
  (fX7_readWord_L12 n k0 n ((0 : Int32)) S2).bind fun z16 => fX7_readWord_B68 n k0 z16)
  else none
theorem kX7_readWord {z : xSt} {n : Nat} {k0 : Nat} {S : xSt} (h : fX7_readWord n k0 S = some z) : tC.1 k0 = 7 := by
  unfold fX7_readWord at h
  exact (xck h).1
set_option maxHeartbeats 4000000 in
theorem tX7_readWord (l : Launch) (M : xMg) (A : Nat → Prop) (n : Nat) (k0 : Nat) (S : xSt) (z : xSt) (h : fX7_readWord n k0 S = some z) : xMV l yX7_readWord cX7_readWord 2 none 2 tC M A [.ref (M.2.1 k0)] S z := by
  refine x_metV (plainFor_of_name (by decide)) tC_ok (Nat.le_of_ble_eq_true rfl) (fun Γ hA hnL hl hr o => ?_)
  subst hA; subst hl
  have o : xOk Γ tC M 2 cX7_readWord RX7 := o
  unfold fX7_readWord at h
  obtain ⟨hk0, h⟩ := xck h
  refine x_to (l := [(0, .ref (M.2.1 k0))]) ⟨rfl, trivial⟩ ?_
  have hn1 : 1 < Γ.2.2.2 := by omega
  refine x_aload_n (pc := 0) o dX7_readWord_0 rfl rfl ?_
  refine x_iconst (pc := 1) o dX7_readWord_1 ic_1 ?_
  obtain ⟨S1, hS1, h⟩ := xbs h
  refine pX7_55 (pc := 2) o dX7_readWord_2 hS1 ?_
  refine x_aload_n (pc := 5) o dX7_readWord_5 rfl rfl ?_
  refine x_iconst (pc := 6) o dX7_readWord_6 ic_0 ?_
  obtain ⟨S2, hS2, h⟩ := xbs h
  refine pX7_94 (pc := 7) o dX7_readWord_7 hS2 ?_
  refine x_iconst (pc := 10) o dX7_readWord_10 ic_0 ?_
  refine x_istore_n (pc := 11) o dX7_readWord_11 rfl hn1 ?_
  obtain ⟨z16, hz16, h⟩ := xbs h
  refine x_to (l := [(0, .ref (M.2.1 k0)), (1, .int ((0 : Int32)))]) ⟨rfl, rfl, trivial⟩ ?_
  refine tX7_readWord_L12 o hnL n k0 z16 ?_ n ((0 : Int32)) S2 hz16
  refine x_to (l := [(0, .ref (M.2.1 k0))]) ⟨rfl, trivial⟩ ?_
  exact tX7_readWord_B68 o hnL n k0 z16 z hr h
def fX7_isDigit (a0 : Int32) (S : xSt) : Option (Int32) :=
  if a0 < ((48 : Int32)) then
  (some ((0 : Int32)))
else
  (if ((57 : Int32)) < a0 then
  (some ((0 : Int32)))
else
  (some ((1 : Int32))))
set_option maxHeartbeats 4000000 in
theorem tX7_isDigit (l : Launch) (M : xMg) (A : Nat → Prop) (a0 : Int32) (S : xSt) (z : Int32) (h : fX7_isDigit a0 S = some z) : xMI l yX7_isDigit cX7_isDigit 1 (some .boolean) 1 tC M A [.int a0] S z S := by
  refine x_metI (plainFor_of_name (by decide)) tC_ok (Nat.le_of_ble_eq_true rfl) (fun Γ hA hnL hl hr o => ?_)
  subst hA; subst hl
  have o : xOk Γ tC M 1 cX7_isDigit RX7 := o
  unfold fX7_isDigit at h
  refine x_to (l := [(0, .int a0)]) ⟨rfl, trivial⟩ ?_
  refine x_iload_n (pc := 0) o dX7_isDigit_0 rfl rfl ?_
  refine x_bipush (pc := 1) o dX7_isDigit_1 bp_48 ?_
  refine x_icmp_lt (pc := 3) (tgt := 16) o dX7_isDigit_3 (by decide) (fun c2 => ?_) (fun c2 => ?_)
  · have h := xit h c2
    refine x_iconst (pc := 16) o dX7_isDigit_16 ic_0 ?_
    exact x_zreturn (pc := 17) o hr dX7_isDigit_17 (by decide) (Option.some.inj h) rfl
  · have h := xif h c2
    refine x_iload_n (pc := 6) o dX7_isDigit_6 rfl rfl ?_
    refine x_bipush (pc := 7) o dX7_isDigit_7 bp_57 ?_
    refine x_icmp_gt (pc := 9) (tgt := 16) o dX7_isDigit_9 (by decide) (fun c1 => ?_) (fun c1 => ?_)
    · have h := xit h c1
      refine x_iconst (pc := 16) o dX7_isDigit_16 ic_0 ?_
      exact x_zreturn (pc := 17) o hr dX7_isDigit_17 (by decide) (Option.some.inj h) rfl
    · have h := xif h c1
      refine x_iconst (pc := 12) o dX7_isDigit_12 ic_1 ?_
      refine x_goto (pc := 13) (tgt := 17) o dX7_isDigit_13 (by decide) ?_
      exact x_zreturn (pc := 17) o hr dX7_isDigit_17 (by decide) (Option.some.inj h) rfl
def fX7_readNumber_L12b (n : Nat) (k0 : Nat) (rec : Int32 → xSt → Option (xSt)) (a1 : Int32) (S : xSt) : Option (xSt) :=
  if ((4 : Int32)) ≤ a1 then
  (some S)
else
  ((xgI tC 7 3 k0 S).bind fun v3 =>
  (fX7_byteAt k0 v3 S).bind fun v4 =>
  (fX7_isDigit v4 S).bind fun v5 =>
  if v5 = 0 then
  (some S)
else
  ((xgI tC 7 7 k0 S).bind fun v6 =>
  (xgI tC 7 3 k0 S).bind fun v7 =>
  (fX7_byteAt k0 v7 S).bind fun v8 =>
  (xpI tC 7 7 k0 (((v6 * ((10 : Int32))) + v8) - ((48 : Int32))) S).bind fun S9 =>
  (xgI tC 7 3 k0 S9).bind fun v10 =>
  (xpI tC 7 3 k0 (v10 + ((1 : Int32))) S9).bind fun S11 =>
  (some (a1 + (1 : Int32))).bind fun v12 =>
  rec v12 S11))
def fX7_readNumber_L12 (n : Nat) (k0 : Nat) : Nat → Int32 → xSt → Option (xSt)
  | 0 => fun _ _ => none
  | q + 1 => fX7_readNumber_L12b n k0 (fX7_readNumber_L12 n k0 q)
set_option maxHeartbeats 4000000 in
theorem tX7_readNumber_L12b {Γ : xGm} {M : xMg} (o : xOk Γ tC M 2 cX7_readNumber RX7) (hnL : Γ.2.2.2 = 2) {rec : Int32 → xSt → Option (xSt)} (n : Nat) (k0 : Nat) (a1 : Int32) (S : xSt) (z : (xSt)) (hrec : ∀ (a1 : Int32) (S : xSt), rec a1 S = some z → xAt Γ tC M 12 (xlv [(0, .ref (M.2.1 k0)), (1, .int a1)]) [] S) (K : xAt Γ tC M 70 (xlv [(0, .ref (M.2.1 k0))]) [] z) (h : fX7_readNumber_L12b n k0 rec a1 S = some z) : xAt Γ tC M 12 (xlv [(0, .ref (M.2.1 k0)), (1, .int a1)]) [] S := by
  have hn1 : 1 < Γ.2.2.2 := by omega
  unfold fX7_readNumber_L12b at h
  refine x_iload_n (pc := 12) o dX7_readNumber_12 rfl rfl ?_
  refine x_iconst (pc := 13) o dX7_readNumber_13 ic_4 ?_
  refine x_icmp_ge (pc := 14) (tgt := 70) o dX7_readNumber_14 (by decide) (fun c14 => ?_) (fun c14 => ?_)
  · have h := xit h c14
    refine x_to (l := [(0, .ref (M.2.1 k0))]) ⟨rfl, trivial⟩ ?_
    cases Option.some.inj h
    exact K
  · have h := xif h c14
    refine x_aload_n (pc := 17) o dX7_readNumber_17 rfl rfl ?_
    refine x_aload_n (pc := 18) o dX7_readNumber_18 rfl rfl ?_
    obtain ⟨v3, hv3, h⟩ := xbs h
    refine gX7_52 (pc := 19) o dX7_readNumber_19 hv3 ?_
    obtain ⟨v4, hv4, h⟩ := xbs h
    refine x_callI (pc := 22) (As := [.int v3]) (b := k0) (rest := []) o (tX7_byteAt _ M _ k0 v3 S v4 hv4) eX7_byteAt mX7_77 clX7 (kX7_byteAt hv4) (by decide) rfl rfl (Nat.le_of_ble_eq_true rfl) dX7_readNumber_22 ?_
    obtain ⟨v5, hv5, h⟩ := xbs h
    refine x_statI (pc := 25) (As := [.int v4]) (rest := []) o (tX7_isDigit _ M _ v4 S v5 hv5) eX7_isDigit mX7_88 (by decide) rfl rfl (Nat.le_of_ble_eq_true rfl) dX7_readNumber_25 ?_
    refine x_if_eq (pc := 28) (tgt := 70) o dX7_readNumber_28 (by decide) (fun c13 => ?_) (fun c13 => ?_)
    · have h := xit h c13
      refine x_to (l := [(0, .ref (M.2.1 k0))]) ⟨rfl, trivial⟩ ?_
      cases Option.some.inj h
      exact K
    · have h := xif h c13
      refine x_aload_n (pc := 31) o dX7_readNumber_31 rfl rfl ?_
      refine x_aload_n (pc := 32) o dX7_readNumber_32 rfl rfl ?_
      obtain ⟨v6, hv6, h⟩ := xbs h
      refine gX7_94 (pc := 33) o dX7_readNumber_33 hv6 ?_
      refine x_bipush (pc := 36) o dX7_readNumber_36 bp_10 ?_
      refine x_imul (pc := 38) o dX7_readNumber_38 ?_
      refine x_aload_n (pc := 39) o dX7_readNumber_39 rfl rfl ?_
      refine x_aload_n (pc := 40) o dX7_readNumber_40 rfl rfl ?_
      obtain ⟨v7, hv7, h⟩ := xbs h
      refine gX7_52 (pc := 41) o dX7_readNumber_41 hv7 ?_
      obtain ⟨v8, hv8, h⟩ := xbs h
      refine x_callI (pc := 44) (As := [.int v7]) (b := k0) (rest := [.int (v6 * ((10 : Int32))), .ref (M.2.1 k0)]) o (tX7_byteAt _ M _ k0 v7 S v8 hv8) eX7_byteAt mX7_77 clX7 (kX7_byteAt hv8) (by decide) rfl rfl (Nat.le_of_ble_eq_true rfl) dX7_readNumber_44 ?_
      refine x_iadd (pc := 47) o dX7_readNumber_47 ?_
      refine x_bipush (pc := 48) o dX7_readNumber_48 bp_48 ?_
      refine x_isub (pc := 50) o dX7_readNumber_50 ?_
      obtain ⟨S9, hS9, h⟩ := xbs h
      refine pX7_94 (pc := 51) o dX7_readNumber_51 hS9 ?_
      refine x_aload_n (pc := 54) o dX7_readNumber_54 rfl rfl ?_
      refine x_dup (pc := 55) o dX7_readNumber_55 rfl ?_
      obtain ⟨v10, hv10, h⟩ := xbs h
      refine gX7_52 (pc := 56) o dX7_readNumber_56 hv10 ?_
      refine x_iconst (pc := 59) o dX7_readNumber_59 ic_1 ?_
      refine x_iadd (pc := 60) o dX7_readNumber_60 ?_
      obtain ⟨S11, hS11, h⟩ := xbs h
      refine pX7_52 (pc := 61) o dX7_readNumber_61 hS11 ?_
      obtain ⟨v12, hv12, h⟩ := xbs h
      refine x_iincE (pc := 64) o dX7_readNumber_64 rfl ic_1 hn1 hv12 ?_
      refine x_goto (pc := 67) (tgt := 12) o dX7_readNumber_67 (by decide) ?_
      refine x_to (l := [(0, .ref (M.2.1 k0)), (1, .int v12)]) ⟨rfl, rfl, trivial⟩ ?_
      exact hrec v12 S11 h
theorem tX7_readNumber_L12 {Γ : xGm} {M : xMg} (o : xOk Γ tC M 2 cX7_readNumber RX7) (hnL : Γ.2.2.2 = 2) (n : Nat) (k0 : Nat) (z : (xSt)) (K : xAt Γ tC M 70 (xlv [(0, .ref (M.2.1 k0))]) [] z) : ∀ (q : Nat) (a1 : Int32) (S : xSt), fX7_readNumber_L12 n k0 q a1 S = some z → xAt Γ tC M 12 (xlv [(0, .ref (M.2.1 k0)), (1, .int a1)]) [] S := by
  intro q
  induction q with
  | zero => intro a1 S h; cases h
  | succ q ih => intro a1 S h; exact tX7_readNumber_L12b o hnL n k0 a1 S z ih K h
def fX7_readNumber (n : Nat) (k0 : Nat) (S : xSt) : Option (xSt) :=
  if tC.1 k0 = 7 then
  ((xpI tC 7 4 k0 ((2 : Int32)) S).bind fun S1 =>
  (xpI tC 7 7 k0 ((0 : Int32)) S1).bind fun S2 =>
  (fX7_readNumber_L12 n k0 n ((0 : Int32)) S2).bind fun z15 => (xgI tC 7 3 k0 z15).bind fun v16 =>
  (fX7_byteAt k0 v16 z15).bind fun v17 =>
  (fX7_isDigit v17 z15).bind fun v18 =>
  (fX7_refuseIf k0 v18 z15).bind fun S19 =>
  some S19)
  else none
theorem kX7_readNumber {z : xSt} {n : Nat} {k0 : Nat} {S : xSt} (h : fX7_readNumber n k0 S = some z) : tC.1 k0 = 7 := by
  unfold fX7_readNumber at h
  exact (xck h).1
set_option maxHeartbeats 4000000 in
theorem tX7_readNumber (l : Launch) (M : xMg) (A : Nat → Prop) (n : Nat) (k0 : Nat) (S : xSt) (z : xSt) (h : fX7_readNumber n k0 S = some z) : xMV l yX7_readNumber cX7_readNumber 2 none 2 tC M A [.ref (M.2.1 k0)] S z := by
  refine x_metV (plainFor_of_name (by decide)) tC_ok (Nat.le_of_ble_eq_true rfl) (fun Γ hA hnL hl hr o => ?_)
  subst hA; subst hl
  have o : xOk Γ tC M 2 cX7_readNumber RX7 := o
  unfold fX7_readNumber at h
  obtain ⟨hk0, h⟩ := xck h
  refine x_to (l := [(0, .ref (M.2.1 k0))]) ⟨rfl, trivial⟩ ?_
  have hn1 : 1 < Γ.2.2.2 := by omega
  refine x_aload_n (pc := 0) o dX7_readNumber_0 rfl rfl ?_
  refine x_iconst (pc := 1) o dX7_readNumber_1 ic_2 ?_
  obtain ⟨S1, hS1, h⟩ := xbs h
  refine pX7_55 (pc := 2) o dX7_readNumber_2 hS1 ?_
  refine x_aload_n (pc := 5) o dX7_readNumber_5 rfl rfl ?_
  refine x_iconst (pc := 6) o dX7_readNumber_6 ic_0 ?_
  obtain ⟨S2, hS2, h⟩ := xbs h
  refine pX7_94 (pc := 7) o dX7_readNumber_7 hS2 ?_
  refine x_iconst (pc := 10) o dX7_readNumber_10 ic_0 ?_
  refine x_istore_n (pc := 11) o dX7_readNumber_11 rfl hn1 ?_
  obtain ⟨z15, hz15, h⟩ := xbs h
  refine x_to (l := [(0, .ref (M.2.1 k0)), (1, .int ((0 : Int32)))]) ⟨rfl, rfl, trivial⟩ ?_
  refine tX7_readNumber_L12 o hnL n k0 z15 ?_ n ((0 : Int32)) S2 hz15
  refine x_aload_n (pc := 70) o dX7_readNumber_70 rfl rfl ?_
  refine x_aload_n (pc := 71) o dX7_readNumber_71 rfl rfl ?_
  refine x_aload_n (pc := 72) o dX7_readNumber_72 rfl rfl ?_
  obtain ⟨v16, hv16, h⟩ := xbs h
  refine gX7_52 (pc := 73) o dX7_readNumber_73 hv16 ?_
  obtain ⟨v17, hv17, h⟩ := xbs h
  refine x_callI (pc := 76) (As := [.int v16]) (b := k0) (rest := [.ref (M.2.1 k0)]) o (tX7_byteAt _ M _ k0 v16 z15 v17 hv17) eX7_byteAt mX7_77 clX7 (kX7_byteAt hv17) (by decide) rfl rfl (Nat.le_of_ble_eq_true rfl) dX7_readNumber_76 ?_
  obtain ⟨v18, hv18, h⟩ := xbs h
  refine x_statI (pc := 79) (As := [.int v17]) (rest := [.ref (M.2.1 k0)]) o (tX7_isDigit _ M _ v17 z15 v18 hv18) eX7_isDigit mX7_88 (by decide) rfl rfl (Nat.le_of_ble_eq_true rfl) dX7_readNumber_79 ?_
  obtain ⟨S19, hS19, h⟩ := xbs h
  refine x_callV (pc := 82) (As := [.int v18]) (b := k0) (rest := []) o (tX7_refuseIf _ M _ k0 v18 z15 S19 hS19) eX7_refuseIf mX7_100 clX7 (kX7_refuseIf hS19) (by decide) rfl rfl (Nat.le_of_ble_eq_true rfl) dX7_readNumber_82 ?_
  exact x_vreturn (pc := 85) o hr dX7_readNumber_85 (Option.some.inj h)
def fX7_advance_B122 (n : Nat) (k0 : Nat) (a1 : Int32) (a2 : Int32) (a3 : Int32) (S : xSt) : Option (xSt) :=
  if a2 = 0 then
  (some S)
else
  ((xgI tC 7 5 k0 S).bind fun v17 =>
  if v17 = a1 then
  ((fX7_isLetter a3 S).bind fun v18 =>
  if v18 = 0 then
  ((fX7_isDigit a3 S).bind fun v22 =>
  if v22 = 0 then
  (some S)
else
  ((xpI tC 7 4 k0 ((4 : Int32)) S).bind fun S23 =>
  (xgI tC 7 5 k0 S23).bind fun v24 =>
  (xpI tC 7 6 k0 v24 S23).bind fun S25 =>
  some S25))
else
  ((xpI tC 7 4 k0 ((4 : Int32)) S).bind fun S19 =>
  (xgI tC 7 5 k0 S19).bind fun v20 =>
  (xpI tC 7 6 k0 v20 S19).bind fun S21 =>
  some S21))
else
  (some S))
set_option maxHeartbeats 4000000 in
theorem tX7_advance_B122 {Γ : xGm} {M : xMg} (o : xOk Γ tC M 3 cX7_advance RX7) (hnL : Γ.2.2.2 = 4) (n : Nat) (k0 : Nat) (a1 : Int32) (a2 : Int32) (a3 : Int32) (S : xSt) (z : (xSt)) (hr : xRV Γ tC M none z) (h : fX7_advance_B122 n k0 a1 a2 a3 S = some z) : xAt Γ tC M 122 (xlv [(0, .ref (M.2.1 k0)), (1, .int a1), (2, .int a2), (3, .int a3)]) [] S := by
  unfold fX7_advance_B122 at h
  refine x_iload_n (pc := 122) o dX7_advance_122 rfl rfl ?_
  refine x_if_eq (pc := 123) (tgt := 161) o dX7_advance_123 (by decide) (fun c29 => ?_) (fun c29 => ?_)
  · have h := xit h c29
    exact x_vreturn (pc := 161) o hr dX7_advance_161 (Option.some.inj h)
  · have h := xif h c29
    refine x_aload_n (pc := 126) o dX7_advance_126 rfl rfl ?_
    obtain ⟨v17, hv17, h⟩ := xbs h
    refine gX7_74 (pc := 127) o dX7_advance_127 hv17 ?_
    refine x_iload_n (pc := 130) o dX7_advance_130 rfl rfl ?_
    refine x_icmp_ne (pc := 131) (tgt := 161) o dX7_advance_131 (by decide) (fun c28 => ?_) (fun c28 => ?_)
    · have h := xif h c28
      exact x_vreturn (pc := 161) o hr dX7_advance_161 (Option.some.inj h)
    · have h := xit h c28
      refine x_iload_n (pc := 134) o dX7_advance_134 rfl rfl ?_
      obtain ⟨v18, hv18, h⟩ := xbs h
      refine x_statI (pc := 135) (As := [.int a3]) (rest := []) o (tX7_isLetter _ M _ a3 S v18 hv18) eX7_isLetter mX7_81 (by decide) rfl rfl (Nat.le_of_ble_eq_true rfl) dX7_advance_135 ?_
      refine x_if_ne (pc := 138) (tgt := 148) o dX7_advance_138 (by decide) (fun c27 => ?_) (fun c27 => ?_)
      · have h := xif h c27
        refine x_aload_n (pc := 148) o dX7_advance_148 rfl rfl ?_
        refine x_iconst (pc := 149) o dX7_advance_149 ic_4 ?_
        obtain ⟨S19, hS19, h⟩ := xbs h
        refine pX7_55 (pc := 150) o dX7_advance_150 hS19 ?_
        refine x_aload_n (pc := 153) o dX7_advance_153 rfl rfl ?_
        refine x_aload_n (pc := 154) o dX7_advance_154 rfl rfl ?_
        obtain ⟨v20, hv20, h⟩ := xbs h
        refine gX7_74 (pc := 155) o dX7_advance_155 hv20 ?_
        obtain ⟨S21, hS21, h⟩ := xbs h
        refine pX7_64 (pc := 158) o dX7_advance_158 hS21 ?_
        exact x_vreturn (pc := 161) o hr dX7_advance_161 (Option.some.inj h)
      · have h := xit h c27
        refine x_iload_n (pc := 141) o dX7_advance_141 rfl rfl ?_
        obtain ⟨v22, hv22, h⟩ := xbs h
        refine x_statI (pc := 142) (As := [.int a3]) (rest := []) o (tX7_isDigit _ M _ a3 S v22 hv22) eX7_isDigit mX7_88 (by decide) rfl rfl (Nat.le_of_ble_eq_true rfl) dX7_advance_142 ?_
        refine x_if_eq (pc := 145) (tgt := 161) o dX7_advance_145 (by decide) (fun c26 => ?_) (fun c26 => ?_)
        · have h := xit h c26
          exact x_vreturn (pc := 161) o hr dX7_advance_161 (Option.some.inj h)
        · have h := xif h c26
          refine x_aload_n (pc := 148) o dX7_advance_148 rfl rfl ?_
          refine x_iconst (pc := 149) o dX7_advance_149 ic_4 ?_
          obtain ⟨S23, hS23, h⟩ := xbs h
          refine pX7_55 (pc := 150) o dX7_advance_150 hS23 ?_
          refine x_aload_n (pc := 153) o dX7_advance_153 rfl rfl ?_
          refine x_aload_n (pc := 154) o dX7_advance_154 rfl rfl ?_
          obtain ⟨v24, hv24, h⟩ := xbs h
          refine gX7_74 (pc := 155) o dX7_advance_155 hv24 ?_
          obtain ⟨S25, hS25, h⟩ := xbs h
          refine pX7_64 (pc := 158) o dX7_advance_158 hS25 ?_
          exact x_vreturn (pc := 161) o hr dX7_advance_161 (Option.some.inj h)
def fX7_advance_B26 (n : Nat) (k0 : Nat) (a1 : Int32) (s0 : Int32) (S : xSt) : Option (xSt) :=
  (fX7_skipBlanks n k0 S).bind fun S3 =>
  (xgI tC 7 3 k0 S3).bind fun v4 =>
  (xpI tC 7 5 k0 v4 S3).bind fun S5 =>
  (xgI tC 7 3 k0 S5).bind fun v6 =>
  (xpI tC 7 6 k0 v6 S5).bind fun S7 =>
  (xpI tC 7 8 k0 ((-1 : Int32)) S7).bind fun S8 =>
  (xgI tC 7 3 k0 S8).bind fun v9 =>
  (fX7_byteAt k0 v9 S8).bind fun v10 =>
  if v10 = ((-1 : Int32)) then
  ((xpI tC 7 4 k0 ((0 : Int32)) S8).bind fun S34 =>
  fX7_advance_B122 n k0 a1 s0 v10 S34)
else
  ((fX7_isLetter v10 S8).bind fun v11 =>
  if v11 = 0 then
  ((fX7_isDigit v10 S8).bind fun v12 =>
  if v12 = 0 then
  ((xpI tC 7 4 k0 ((3 : Int32)) S8).bind fun S13 =>
  (xpI tC 7 7 k0 v10 S13).bind fun S14 =>
  (xgI tC 7 3 k0 S14).bind fun v15 =>
  (xpI tC 7 3 k0 (v15 + ((1 : Int32))) S14).bind fun S16 =>
  fX7_advance_B122 n k0 a1 s0 v10 S16)
else
  ((fX7_readNumber n k0 S8).bind fun S30 =>
  fX7_advance_B122 n k0 a1 s0 v10 S30))
else
  ((fX7_readWord n k0 S8).bind fun S32 =>
  fX7_advance_B122 n k0 a1 s0 v10 S32))
set_option maxHeartbeats 4000000 in
theorem tX7_advance_B26 {Γ : xGm} {M : xMg} (o : xOk Γ tC M 3 cX7_advance RX7) (hnL : Γ.2.2.2 = 4) (n : Nat) (k0 : Nat) (a1 : Int32) (s0 : Int32) (S : xSt) (z : (xSt)) (hr : xRV Γ tC M none z) (h : fX7_advance_B26 n k0 a1 s0 S = some z) : xAt Γ tC M 26 (xlv [(0, .ref (M.2.1 k0)), (1, .int a1)]) [.int s0] S := by
  have hn2 : 2 < Γ.2.2.2 := by omega
  have hn3 : 3 < Γ.2.2.2 := by omega
  unfold fX7_advance_B26 at h
  refine x_istore_n (pc := 26) o dX7_advance_26 rfl hn2 ?_
  refine x_aload_n (pc := 27) o dX7_advance_27 rfl rfl ?_
  obtain ⟨S3, hS3, h⟩ := xbs h
  refine x_callV (pc := 28) (As := []) (b := k0) (rest := []) o (tX7_skipBlanks _ M _ n k0 S S3 hS3) eX7_skipBlanks mX7_71 clX7 (kX7_skipBlanks hS3) (by decide) rfl rfl (Nat.le_of_ble_eq_true rfl) dX7_advance_28 ?_
  refine x_aload_n (pc := 31) o dX7_advance_31 rfl rfl ?_
  refine x_aload_n (pc := 32) o dX7_advance_32 rfl rfl ?_
  obtain ⟨v4, hv4, h⟩ := xbs h
  refine gX7_52 (pc := 33) o dX7_advance_33 hv4 ?_
  obtain ⟨S5, hS5, h⟩ := xbs h
  refine pX7_74 (pc := 36) o dX7_advance_36 hS5 ?_
  refine x_aload_n (pc := 39) o dX7_advance_39 rfl rfl ?_
  refine x_aload_n (pc := 40) o dX7_advance_40 rfl rfl ?_
  obtain ⟨v6, hv6, h⟩ := xbs h
  refine gX7_52 (pc := 41) o dX7_advance_41 hv6 ?_
  obtain ⟨S7, hS7, h⟩ := xbs h
  refine pX7_64 (pc := 44) o dX7_advance_44 hS7 ?_
  refine x_aload_n (pc := 47) o dX7_advance_47 rfl rfl ?_
  refine x_iconst (pc := 48) o dX7_advance_48 ic_m1 ?_
  obtain ⟨S8, hS8, h⟩ := xbs h
  refine pX7_15 (pc := 49) o dX7_advance_49 hS8 ?_
  refine x_aload_n (pc := 52) o dX7_advance_52 rfl rfl ?_
  refine x_aload_n (pc := 53) o dX7_advance_53 rfl rfl ?_
  obtain ⟨v9, hv9, h⟩ := xbs h
  refine gX7_52 (pc := 54) o dX7_advance_54 hv9 ?_
  obtain ⟨v10, hv10, h⟩ := xbs h
  refine x_callI (pc := 57) (As := [.int v9]) (b := k0) (rest := []) o (tX7_byteAt _ M _ k0 v9 S8 v10 hv10) eX7_byteAt mX7_77 clX7 (kX7_byteAt hv10) (by decide) rfl rfl (Nat.le_of_ble_eq_true rfl) dX7_advance_57 ?_
  refine x_istore_n (pc := 60) o dX7_advance_60 rfl hn3 ?_
  refine x_iload_n (pc := 61) o dX7_advance_61 rfl rfl ?_
  refine x_iconst (pc := 62) o dX7_advance_62 ic_m1 ?_
  refine x_icmp_ne (pc := 63) (tgt := 74) o dX7_advance_63 (by decide) (fun c35 => ?_) (fun c35 => ?_)
  · have h := xif h c35
    refine x_iload_n (pc := 74) o dX7_advance_74 rfl rfl ?_
    obtain ⟨v11, hv11, h⟩ := xbs h
    refine x_statI (pc := 75) (As := [.int v10]) (rest := []) o (tX7_isLetter _ M _ v10 S8 v11 hv11) eX7_isLetter mX7_81 (by decide) rfl rfl (Nat.le_of_ble_eq_true rfl) dX7_advance_75 ?_
    refine x_if_eq (pc := 78) (tgt := 88) o dX7_advance_78 (by decide) (fun c33 => ?_) (fun c33 => ?_)
    · have h := xit h c33
      refine x_iload_n (pc := 88) o dX7_advance_88 rfl rfl ?_
      obtain ⟨v12, hv12, h⟩ := xbs h
      refine x_statI (pc := 89) (As := [.int v10]) (rest := []) o (tX7_isDigit _ M _ v10 S8 v12 hv12) eX7_isDigit mX7_88 (by decide) rfl rfl (Nat.le_of_ble_eq_true rfl) dX7_advance_89 ?_
      refine x_if_eq (pc := 92) (tgt := 102) o dX7_advance_92 (by decide) (fun c31 => ?_) (fun c31 => ?_)
      · have h := xit h c31
        refine x_aload_n (pc := 102) o dX7_advance_102 rfl rfl ?_
        refine x_iconst (pc := 103) o dX7_advance_103 ic_3 ?_
        obtain ⟨S13, hS13, h⟩ := xbs h
        refine pX7_55 (pc := 104) o dX7_advance_104 hS13 ?_
        refine x_aload_n (pc := 107) o dX7_advance_107 rfl rfl ?_
        refine x_iload_n (pc := 108) o dX7_advance_108 rfl rfl ?_
        obtain ⟨S14, hS14, h⟩ := xbs h
        refine pX7_94 (pc := 109) o dX7_advance_109 hS14 ?_
        refine x_aload_n (pc := 112) o dX7_advance_112 rfl rfl ?_
        refine x_dup (pc := 113) o dX7_advance_113 rfl ?_
        obtain ⟨v15, hv15, h⟩ := xbs h
        refine gX7_52 (pc := 114) o dX7_advance_114 hv15 ?_
        refine x_iconst (pc := 117) o dX7_advance_117 ic_1 ?_
        refine x_iadd (pc := 118) o dX7_advance_118 ?_
        obtain ⟨S16, hS16, h⟩ := xbs h
        refine pX7_52 (pc := 119) o dX7_advance_119 hS16 ?_
        refine x_to (l := [(0, .ref (M.2.1 k0)), (1, .int a1), (2, .int s0), (3, .int v10)]) ⟨rfl, rfl, rfl, rfl, trivial⟩ ?_
        exact tX7_advance_B122 o hnL n k0 a1 s0 v10 S16 z hr h
      · have h := xif h c31
        refine x_aload_n (pc := 95) o dX7_advance_95 rfl rfl ?_
        obtain ⟨S30, hS30, h⟩ := xbs h
        refine x_callV (pc := 96) (As := []) (b := k0) (rest := []) o (tX7_readNumber _ M _ n k0 S8 S30 hS30) eX7_readNumber mX7_91 clX7 (kX7_readNumber hS30) (by decide) rfl rfl (Nat.le_of_ble_eq_true rfl) dX7_advance_96 ?_
        refine x_goto (pc := 99) (tgt := 122) o dX7_advance_99 (by decide) ?_
        refine x_to (l := [(0, .ref (M.2.1 k0)), (1, .int a1), (2, .int s0), (3, .int v10)]) ⟨rfl, rfl, rfl, rfl, trivial⟩ ?_
        exact tX7_advance_B122 o hnL n k0 a1 s0 v10 S30 z hr h
    · have h := xif h c33
      refine x_aload_n (pc := 81) o dX7_advance_81 rfl rfl ?_
      obtain ⟨S32, hS32, h⟩ := xbs h
      refine x_callV (pc := 82) (As := []) (b := k0) (rest := []) o (tX7_readWord _ M _ n k0 S8 S32 hS32) eX7_readWord mX7_85 clX7 (kX7_readWord hS32) (by decide) rfl rfl (Nat.le_of_ble_eq_true rfl) dX7_advance_82 ?_
      refine x_goto (pc := 85) (tgt := 122) o dX7_advance_85 (by decide) ?_
      refine x_to (l := [(0, .ref (M.2.1 k0)), (1, .int a1), (2, .int s0), (3, .int v10)]) ⟨rfl, rfl, rfl, rfl, trivial⟩ ?_
      exact tX7_advance_B122 o hnL n k0 a1 s0 v10 S32 z hr h
  · have h := xit h c35
    refine x_aload_n (pc := 66) o dX7_advance_66 rfl rfl ?_
    refine x_iconst (pc := 67) o dX7_advance_67 ic_0 ?_
    obtain ⟨S34, hS34, h⟩ := xbs h
    refine pX7_55 (pc := 68) o dX7_advance_68 hS34 ?_
    refine x_goto (pc := 71) (tgt := 122) o dX7_advance_71 (by decide) ?_
    refine x_to (l := [(0, .ref (M.2.1 k0)), (1, .int a1), (2, .int s0), (3, .int v10)]) ⟨rfl, rfl, rfl, rfl, trivial⟩ ?_
    exact tX7_advance_B122 o hnL n k0 a1 s0 v10 S34 z hr h
def fX7_advance_B21 (n : Nat) (k0 : Nat) (a1 : Int32) (S : xSt) : Option (xSt) :=
  fX7_advance_B26 n k0 a1 ((1 : Int32)) S
set_option maxHeartbeats 4000000 in
theorem tX7_advance_B21 {Γ : xGm} {M : xMg} (o : xOk Γ tC M 3 cX7_advance RX7) (hnL : Γ.2.2.2 = 4) (n : Nat) (k0 : Nat) (a1 : Int32) (S : xSt) (z : (xSt)) (hr : xRV Γ tC M none z) (h : fX7_advance_B21 n k0 a1 S = some z) : xAt Γ tC M 21 (xlv [(0, .ref (M.2.1 k0)), (1, .int a1)]) [] S := by
  unfold fX7_advance_B21 at h
  refine x_iconst (pc := 21) o dX7_advance_21 ic_1 ?_
  refine x_goto (pc := 22) (tgt := 26) o dX7_advance_22 (by decide) ?_
  refine x_to (l := [(0, .ref (M.2.1 k0)), (1, .int a1)]) ⟨rfl, rfl, trivial⟩ ?_
  exact tX7_advance_B26 o hnL n k0 a1 ((1 : Int32)) S z hr h
def fX7_advance (n : Nat) (k0 : Nat) (S : xSt) : Option (xSt) :=
  if tC.1 k0 = 7 then
  ((xgI tC 7 3 k0 S).bind fun v1 =>
  (xgI tC 7 4 k0 S).bind fun v2 =>
  if v2 = ((1 : Int32)) then
  (fX7_advance_B21 n k0 v1 S)
else
  ((xgI tC 7 4 k0 S).bind fun v36 =>
  if v36 = ((2 : Int32)) then
  (fX7_advance_B21 n k0 v1 S)
else
  (fX7_advance_B26 n k0 v1 ((0 : Int32)) S)))
  else none
theorem kX7_advance {z : xSt} {n : Nat} {k0 : Nat} {S : xSt} (h : fX7_advance n k0 S = some z) : tC.1 k0 = 7 := by
  unfold fX7_advance at h
  exact (xck h).1
set_option maxHeartbeats 4000000 in
theorem tX7_advance (l : Launch) (M : xMg) (A : Nat → Prop) (n : Nat) (k0 : Nat) (S : xSt) (z : xSt) (h : fX7_advance n k0 S = some z) : xMV l yX7_advance cX7_advance 4 none 3 tC M A [.ref (M.2.1 k0)] S z := by
  refine x_metV (plainFor_of_name (by decide)) tC_ok (Nat.le_of_ble_eq_true rfl) (fun Γ hA hnL hl hr o => ?_)
  subst hA; subst hl
  have o : xOk Γ tC M 3 cX7_advance RX7 := o
  unfold fX7_advance at h
  obtain ⟨hk0, h⟩ := xck h
  refine x_to (l := [(0, .ref (M.2.1 k0))]) ⟨rfl, trivial⟩ ?_
  have hn1 : 1 < Γ.2.2.2 := by omega
  refine x_aload_n (pc := 0) o dX7_advance_0 rfl rfl ?_
  obtain ⟨v1, hv1, h⟩ := xbs h
  refine gX7_52 (pc := 1) o dX7_advance_1 hv1 ?_
  refine x_istore_n (pc := 4) o dX7_advance_4 rfl hn1 ?_
  refine x_aload_n (pc := 5) o dX7_advance_5 rfl rfl ?_
  obtain ⟨v2, hv2, h⟩ := xbs h
  refine gX7_55 (pc := 6) o dX7_advance_6 hv2 ?_
  refine x_iconst (pc := 9) o dX7_advance_9 ic_1 ?_
  refine x_icmp_eq (pc := 10) (tgt := 21) o dX7_advance_10 (by decide) (fun c38 => ?_) (fun c38 => ?_)
  · have h := xit h c38
    refine x_to (l := [(0, .ref (M.2.1 k0)), (1, .int v1)]) ⟨rfl, rfl, trivial⟩ ?_
    exact tX7_advance_B21 o hnL n k0 v1 S z hr h
  · have h := xif h c38
    refine x_aload_n (pc := 13) o dX7_advance_13 rfl rfl ?_
    obtain ⟨v36, hv36, h⟩ := xbs h
    refine gX7_55 (pc := 14) o dX7_advance_14 hv36 ?_
    refine x_iconst (pc := 17) o dX7_advance_17 ic_2 ?_
    refine x_icmp_ne (pc := 18) (tgt := 25) o dX7_advance_18 (by decide) (fun c37 => ?_) (fun c37 => ?_)
    · have h := xif h c37
      refine x_iconst (pc := 25) o dX7_advance_25 ic_0 ?_
      refine x_to (l := [(0, .ref (M.2.1 k0)), (1, .int v1)]) ⟨rfl, rfl, trivial⟩ ?_
      exact tX7_advance_B26 o hnL n k0 v1 ((0 : Int32)) S z hr h
    · have h := xit h c37
      refine x_to (l := [(0, .ref (M.2.1 k0)), (1, .int v1)]) ⟨rfl, rfl, trivial⟩ ?_
      exact tX7_advance_B21 o hnL n k0 v1 S z hr h
def fX5_opens (n : Nat) (k0 : Nat) (a1 : Int32) (S : xSt) : Option (Int32 × xSt) :=
  if tC.1 k0 = 5 then
  (if a1 < ((7 : Int32)) then
  ((xgF tC 5 0 k0 S).bind fun r1 =>
  (fX7_advance n r1 S).bind fun S2 =>
  some ((1 : Int32), S2))
else
  ((xgF tC 5 0 k0 S).bind fun r3 =>
  (xgF tC 5 0 k0 S).bind fun r4 =>
  (xgI tC 7 5 r4 S).bind fun v5 =>
  (fX7_fail r3 ((5 : Int32)) v5 S).bind fun q6 =>
  if q6.1 = 0 ∨ q6.1 = 1 then (some (q6.1, q6.2)) else none))
  else none
theorem kX5_opens {z : Int32 × xSt} {n : Nat} {k0 : Nat} {a1 : Int32} {S : xSt} (h : fX5_opens n k0 a1 S = some z) : tC.1 k0 = 5 := by
  unfold fX5_opens at h
  exact (xck h).1
set_option maxHeartbeats 4000000 in
theorem tX5_opens (l : Launch) (M : xMg) (A : Nat → Prop) (n : Nat) (k0 : Nat) (a1 : Int32) (S : xSt) (z : Int32 × xSt) (h : fX5_opens n k0 a1 S = some z) : xMI l yX5_opens cX5_opens 2 (some .boolean) 4 tC M A [.ref (M.2.1 k0), .int a1] S z.1 z.2 := by
  refine x_metI (plainFor_of_name (by decide)) tC_ok (Nat.le_of_ble_eq_true rfl) (fun Γ hA hnL hl hr o => ?_)
  subst hA; subst hl
  have o : xOk Γ tC M 4 cX5_opens RX5 := o
  unfold fX5_opens at h
  obtain ⟨hk0, h⟩ := xck h
  refine x_to (l := [(0, .ref (M.2.1 k0)), (1, .int a1)]) ⟨rfl, rfl, trivial⟩ ?_
  refine x_iload_n (pc := 0) o dX5_opens_0 rfl rfl ?_
  refine x_bipush (pc := 1) o dX5_opens_1 bp_7 ?_
  refine x_icmp_lt (pc := 3) (tgt := 22) o dX5_opens_3 (by decide) (fun c7 => ?_) (fun c7 => ?_)
  · have h := xit h c7
    refine x_aload_n (pc := 22) o dX5_opens_22 rfl rfl ?_
    obtain ⟨r1, hr1, h⟩ := xbs h
    refine gX5_9 (pc := 23) o dX5_opens_23 hr1 ?_
    obtain ⟨S2, hS2, h⟩ := xbs h
    refine x_callV (pc := 26) (As := []) (b := r1) (rest := []) o (tX7_advance _ M _ n r1 S S2 hS2) eX7_advance mX5_50 clX7 (kX7_advance hS2) (by decide) rfl rfl (Nat.le_of_ble_eq_true rfl) dX5_opens_26 ?_
    refine x_iconst (pc := 29) o dX5_opens_29 ic_1 ?_
    exact x_zreturn (pc := 30) o hr dX5_opens_30 (by decide) (xr1 h) (xr2 h)
  · have h := xif h c7
    refine x_aload_n (pc := 6) o dX5_opens_6 rfl rfl ?_
    obtain ⟨r3, hr3, h⟩ := xbs h
    refine gX5_9 (pc := 7) o dX5_opens_7 hr3 ?_
    refine x_iconst (pc := 10) o dX5_opens_10 ic_5 ?_
    refine x_aload_n (pc := 11) o dX5_opens_11 rfl rfl ?_
    obtain ⟨r4, hr4, h⟩ := xbs h
    refine gX5_9 (pc := 12) o dX5_opens_12 hr4 ?_
    obtain ⟨v5, hv5, h⟩ := xbs h
    refine gX5_110 (pc := 15) o dX5_opens_15 hv5 ?_
    obtain ⟨q6, hq6, h⟩ := xbs h
    refine x_callI (pc := 18) (As := [.int ((5 : Int32)), .int v5]) (b := r3) (rest := []) o (tX7_fail _ M _ r3 ((5 : Int32)) v5 S q6 hq6) eX7_fail mX5_113 clX7 (kX7_fail hq6) (by decide) rfl rfl (Nat.le_of_ble_eq_true rfl) dX5_opens_18 ?_
    obtain ⟨hz, h⟩ := xck h
    exact x_zreturn (pc := 21) o hr dX5_opens_21 hz (xr1 h) (xr2 h)
def fX7_isSign (k0 : Nat) (a1 : Int32) (S : xSt) : Option (Int32) :=
  if tC.1 k0 = 7 then
  ((xgI tC 7 4 k0 S).bind fun v1 =>
  if v1 = ((3 : Int32)) then
  ((xgI tC 7 7 k0 S).bind fun v2 =>
  if v2 = a1 then
  (some ((1 : Int32)))
else
  (some ((0 : Int32))))
else
  (some ((0 : Int32))))
  else none
theorem kX7_isSign {z : Int32} {k0 : Nat} {a1 : Int32} {S : xSt} (h : fX7_isSign k0 a1 S = some z) : tC.1 k0 = 7 := by
  unfold fX7_isSign at h
  exact (xck h).1
set_option maxHeartbeats 4000000 in
theorem tX7_isSign (l : Launch) (M : xMg) (A : Nat → Prop) (k0 : Nat) (a1 : Int32) (S : xSt) (z : Int32) (h : fX7_isSign k0 a1 S = some z) : xMI l yX7_isSign cX7_isSign 2 (some .boolean) 1 tC M A [.ref (M.2.1 k0), .int a1] S z S := by
  refine x_metI (plainFor_of_name (by decide)) tC_ok (Nat.le_of_ble_eq_true rfl) (fun Γ hA hnL hl hr o => ?_)
  subst hA; subst hl
  have o : xOk Γ tC M 1 cX7_isSign RX7 := o
  unfold fX7_isSign at h
  obtain ⟨hk0, h⟩ := xck h
  refine x_to (l := [(0, .ref (M.2.1 k0)), (1, .int a1)]) ⟨rfl, rfl, trivial⟩ ?_
  refine x_aload_n (pc := 0) o dX7_isSign_0 rfl rfl ?_
  obtain ⟨v1, hv1, h⟩ := xbs h
  refine gX7_55 (pc := 1) o dX7_isSign_1 hv1 ?_
  refine x_iconst (pc := 4) o dX7_isSign_4 ic_3 ?_
  refine x_icmp_ne (pc := 5) (tgt := 20) o dX7_isSign_5 (by decide) (fun c4 => ?_) (fun c4 => ?_)
  · have h := xif h c4
    refine x_iconst (pc := 20) o dX7_isSign_20 ic_0 ?_
    exact x_zreturn (pc := 21) o hr dX7_isSign_21 (by decide) (Option.some.inj h) rfl
  · have h := xit h c4
    refine x_aload_n (pc := 8) o dX7_isSign_8 rfl rfl ?_
    obtain ⟨v2, hv2, h⟩ := xbs h
    refine gX7_94 (pc := 9) o dX7_isSign_9 hv2 ?_
    refine x_iload_n (pc := 12) o dX7_isSign_12 rfl rfl ?_
    refine x_icmp_ne (pc := 13) (tgt := 20) o dX7_isSign_13 (by decide) (fun c3 => ?_) (fun c3 => ?_)
    · have h := xif h c3
      refine x_iconst (pc := 20) o dX7_isSign_20 ic_0 ?_
      exact x_zreturn (pc := 21) o hr dX7_isSign_21 (by decide) (Option.some.inj h) rfl
    · have h := xit h c3
      refine x_iconst (pc := 16) o dX7_isSign_16 ic_1 ?_
      refine x_goto (pc := 17) (tgt := 21) o dX7_isSign_17 (by decide) ?_
      exact x_zreturn (pc := 21) o hr dX7_isSign_21 (by decide) (Option.some.inj h) rfl
def fX7_failHere (k0 : Nat) (S : xSt) : Option (Int32 × xSt) :=
  if tC.1 k0 = 7 then
  ((xgI tC 7 6 k0 S).bind fun v1 =>
  (fX7_fail k0 ((1 : Int32)) v1 S).bind fun q2 =>
  if q2.1 = 0 ∨ q2.1 = 1 then (some (q2.1, q2.2)) else none)
  else none
theorem kX7_failHere {z : Int32 × xSt} {k0 : Nat} {S : xSt} (h : fX7_failHere k0 S = some z) : tC.1 k0 = 7 := by
  unfold fX7_failHere at h
  exact (xck h).1
set_option maxHeartbeats 4000000 in
theorem tX7_failHere (l : Launch) (M : xMg) (A : Nat → Prop) (k0 : Nat) (S : xSt) (z : Int32 × xSt) (h : fX7_failHere k0 S = some z) : xMI l yX7_failHere cX7_failHere 1 (some .boolean) 2 tC M A [.ref (M.2.1 k0)] S z.1 z.2 := by
  refine x_metI (plainFor_of_name (by decide)) tC_ok (Nat.le_of_ble_eq_true rfl) (fun Γ hA hnL hl hr o => ?_)
  subst hA; subst hl
  have o : xOk Γ tC M 2 cX7_failHere RX7 := o
  unfold fX7_failHere at h
  obtain ⟨hk0, h⟩ := xck h
  refine x_to (l := [(0, .ref (M.2.1 k0))]) ⟨rfl, trivial⟩ ?_
  refine x_aload_n (pc := 0) o dX7_failHere_0 rfl rfl ?_
  refine x_iconst (pc := 1) o dX7_failHere_1 ic_1 ?_
  refine x_aload_n (pc := 2) o dX7_failHere_2 rfl rfl ?_
  obtain ⟨v1, hv1, h⟩ := xbs h
  refine gX7_64 (pc := 3) o dX7_failHere_3 hv1 ?_
  obtain ⟨q2, hq2, h⟩ := xbs h
  refine x_callI (pc := 6) (As := [.int ((1 : Int32)), .int v1]) (b := k0) (rest := []) o (tX7_fail _ M _ k0 ((1 : Int32)) v1 S q2 hq2) eX7_fail mX7_67 clX7 (kX7_fail hq2) (by decide) rfl rfl (Nat.le_of_ble_eq_true rfl) dX7_failHere_6 ?_
  obtain ⟨hz, h⟩ := xck h
  exact x_zreturn (pc := 9) o hr dX7_failHere_9 hz (xr1 h) (xr2 h)
def fX7_takeSign (n : Nat) (k0 : Nat) (a1 : Int32) (S : xSt) : Option (Int32 × xSt) :=
  if tC.1 k0 = 7 then
  ((fX7_isSign k0 a1 S).bind fun v1 =>
  if v1 = 0 then
  ((fX7_failHere k0 S).bind fun q3 =>
  if q3.1 = 0 ∨ q3.1 = 1 then (some (q3.1, q3.2)) else none)
else
  ((fX7_advance n k0 S).bind fun S2 =>
  some ((1 : Int32), S2)))
  else none
theorem kX7_takeSign {z : Int32 × xSt} {n : Nat} {k0 : Nat} {a1 : Int32} {S : xSt} (h : fX7_takeSign n k0 a1 S = some z) : tC.1 k0 = 7 := by
  unfold fX7_takeSign at h
  exact (xck h).1
set_option maxHeartbeats 4000000 in
theorem tX7_takeSign (l : Launch) (M : xMg) (A : Nat → Prop) (n : Nat) (k0 : Nat) (a1 : Int32) (S : xSt) (z : Int32 × xSt) (h : fX7_takeSign n k0 a1 S = some z) : xMI l yX7_takeSign cX7_takeSign 2 (some .boolean) 4 tC M A [.ref (M.2.1 k0), .int a1] S z.1 z.2 := by
  refine x_metI (plainFor_of_name (by decide)) tC_ok (Nat.le_of_ble_eq_true rfl) (fun Γ hA hnL hl hr o => ?_)
  subst hA; subst hl
  have o : xOk Γ tC M 4 cX7_takeSign RX7 := o
  unfold fX7_takeSign at h
  obtain ⟨hk0, h⟩ := xck h
  refine x_to (l := [(0, .ref (M.2.1 k0)), (1, .int a1)]) ⟨rfl, rfl, trivial⟩ ?_
  refine x_aload_n (pc := 0) o dX7_takeSign_0 rfl rfl ?_
  refine x_iload_n (pc := 1) o dX7_takeSign_1 rfl rfl ?_
  obtain ⟨v1, hv1, h⟩ := xbs h
  refine x_callI (pc := 2) (As := [.int a1]) (b := k0) (rest := []) o (tX7_isSign _ M _ k0 a1 S v1 hv1) eX7_isSign mX7_111 clX7 (kX7_isSign hv1) (by decide) rfl rfl (Nat.le_of_ble_eq_true rfl) dX7_takeSign_2 ?_
  refine x_if_ne (pc := 5) (tgt := 13) o dX7_takeSign_5 (by decide) (fun c4 => ?_) (fun c4 => ?_)
  · have h := xif h c4
    refine x_aload_n (pc := 13) o dX7_takeSign_13 rfl rfl ?_
    obtain ⟨S2, hS2, h⟩ := xbs h
    refine x_callV (pc := 14) (As := []) (b := k0) (rest := []) o (tX7_advance _ M _ n k0 S S2 hS2) eX7_advance mX7_61 clX7 (kX7_advance hS2) (by decide) rfl rfl (Nat.le_of_ble_eq_true rfl) dX7_takeSign_14 ?_
    refine x_iconst (pc := 17) o dX7_takeSign_17 ic_1 ?_
    exact x_zreturn (pc := 18) o hr dX7_takeSign_18 (by decide) (xr1 h) (xr2 h)
  · have h := xit h c4
    refine x_aload_n (pc := 8) o dX7_takeSign_8 rfl rfl ?_
    obtain ⟨q3, hq3, h⟩ := xbs h
    refine x_callI (pc := 9) (As := []) (b := k0) (rest := []) o (tX7_failHere _ M _ k0 S q3 hq3) eX7_failHere mX7_107 clX7 (kX7_failHere hq3) (by decide) rfl rfl (Nat.le_of_ble_eq_true rfl) dX7_takeSign_9 ?_
    obtain ⟨hz, h⟩ := xck h
    exact x_zreturn (pc := 12) o hr dX7_takeSign_12 hz (xr1 h) (xr2 h)
def fX5_factOfWord (k0 : Nat) (S : xSt) : Option (Int32) :=
  if tC.1 k0 = 5 then
  ((xgF tC 5 0 k0 S).bind fun r1 =>
  (xgI tC 7 4 r1 S).bind fun v2 =>
  if v2 = ((1 : Int32)) then
  ((xgF tC 5 0 k0 S).bind fun r3 =>
  (xgI tC 7 8 r3 S).bind fun v4 =>
  if v4 = (5 : Int32) then
  (some ((1 : Int32)))
else if v4 = (7 : Int32) then
  (some ((2 : Int32)))
else if v4 = (19 : Int32) then
  ((xgI tC 5 2 k0 S).bind fun v7 =>
  if v7 = 0 then
  (some ((-1 : Int32)))
else
  (some ((6 : Int32))))
else if v4 = (20 : Int32) then
  (some ((0 : Int32)))
else if v4 = (21 : Int32) then
  (some ((3 : Int32)))
else if v4 = (22 : Int32) then
  (some ((4 : Int32)))
else if v4 = (23 : Int32) then
  (some ((5 : Int32)))
else if v4 = (24 : Int32) then
  ((xgI tC 5 2 k0 S).bind fun v14 =>
  if v14 = 0 then
  (some ((-1 : Int32)))
else
  (some ((7 : Int32))))
else 
  (some ((-1 : Int32))))
else
  (some ((-1 : Int32))))
  else none
theorem kX5_factOfWord {z : Int32} {k0 : Nat} {S : xSt} (h : fX5_factOfWord k0 S = some z) : tC.1 k0 = 5 := by
  unfold fX5_factOfWord at h
  exact (xck h).1
set_option maxHeartbeats 4000000 in
theorem tX5_factOfWord (l : Launch) (M : xMg) (A : Nat → Prop) (k0 : Nat) (S : xSt) (z : Int32) (h : fX5_factOfWord k0 S = some z) : xMI l yX5_factOfWord cX5_factOfWord 1 (some .int) 1 tC M A [.ref (M.2.1 k0)] S z S := by
  refine x_metI (plainFor_of_name (by decide)) tC_ok (Nat.le_of_ble_eq_true rfl) (fun Γ hA hnL hl hr o => ?_)
  subst hA; subst hl
  have o : xOk Γ tC M 1 cX5_factOfWord RX5 := o
  unfold fX5_factOfWord at h
  obtain ⟨hk0, h⟩ := xck h
  refine x_to (l := [(0, .ref (M.2.1 k0))]) ⟨rfl, trivial⟩ ?_
  refine x_aload_n (pc := 0) o dX5_factOfWord_0 rfl rfl ?_
  obtain ⟨r1, hr1, h⟩ := xbs h
  refine gX5_9 (pc := 1) o dX5_factOfWord_1 hr1 ?_
  obtain ⟨v2, hv2, h⟩ := xbs h
  refine gX5_95 (pc := 4) o dX5_factOfWord_4 hv2 ?_
  refine x_iconst (pc := 7) o dX5_factOfWord_7 ic_1 ?_
  refine x_icmp_eq (pc := 8) (tgt := 13) o dX5_factOfWord_8 (by decide) (fun c29 => ?_) (fun c29 => ?_)
  · have h := xit h c29
    refine x_aload_n (pc := 13) o dX5_factOfWord_13 rfl rfl ?_
    obtain ⟨r3, hr3, h⟩ := xbs h
    refine gX5_9 (pc := 14) o dX5_factOfWord_14 hr3 ?_
    obtain ⟨v4, hv4, h⟩ := xbs h
    refine gX5_116 (pc := 17) o dX5_factOfWord_17 hv4 ?_
    by_cases c5 : v4 = (5 : Int32)
    · have h := xit h c5
      refine x_tableIn (pc := 20) (tgt := 118) o dX5_factOfWord_20 (by rw [c5]; decide) (by rw [c5]; decide) (by rw [c5]; rfl) (by decide) ?_
      refine x_iconst (pc := 118) o dX5_factOfWord_118 ic_1 ?_
      exact x_ireturn (pc := 119) o hr dX5_factOfWord_119 (Option.some.inj h) rfl
    have h := xif h c5
    by_cases c6 : v4 = (7 : Int32)
    · have h := xit h c6
      refine x_tableIn (pc := 20) (tgt := 120) o dX5_factOfWord_20 (by rw [c6]; decide) (by rw [c6]; decide) (by rw [c6]; rfl) (by decide) ?_
      refine x_iconst (pc := 120) o dX5_factOfWord_120 ic_2 ?_
      exact x_ireturn (pc := 121) o hr dX5_factOfWord_121 (Option.some.inj h) rfl
    have h := xif h c6
    by_cases c9 : v4 = (19 : Int32)
    · have h := xit h c9
      refine x_tableIn (pc := 20) (tgt := 128) o dX5_factOfWord_20 (by rw [c9]; decide) (by rw [c9]; decide) (by rw [c9]; rfl) (by decide) ?_
      refine x_aload_n (pc := 128) o dX5_factOfWord_128 rfl rfl ?_
      obtain ⟨v7, hv7, h⟩ := xbs h
      refine gX5_19 (pc := 129) o dX5_factOfWord_129 hv7 ?_
      refine x_if_eq (pc := 132) (tgt := 140) o dX5_factOfWord_132 (by decide) (fun c8 => ?_) (fun c8 => ?_)
      · have h := xit h c8
        refine x_iconst (pc := 140) o dX5_factOfWord_140 ic_m1 ?_
        exact x_ireturn (pc := 141) o hr dX5_factOfWord_141 (Option.some.inj h) rfl
      · have h := xif h c8
        refine x_bipush (pc := 135) o dX5_factOfWord_135 bp_6 ?_
        refine x_goto (pc := 137) (tgt := 141) o dX5_factOfWord_137 (by decide) ?_
        exact x_ireturn (pc := 141) o hr dX5_factOfWord_141 (Option.some.inj h) rfl
    have h := xif h c9
    by_cases c10 : v4 = (20 : Int32)
    · have h := xit h c10
      refine x_tableIn (pc := 20) (tgt := 116) o dX5_factOfWord_20 (by rw [c10]; decide) (by rw [c10]; decide) (by rw [c10]; rfl) (by decide) ?_
      refine x_iconst (pc := 116) o dX5_factOfWord_116 ic_0 ?_
      exact x_ireturn (pc := 117) o hr dX5_factOfWord_117 (Option.some.inj h) rfl
    have h := xif h c10
    by_cases c11 : v4 = (21 : Int32)
    · have h := xit h c11
      refine x_tableIn (pc := 20) (tgt := 122) o dX5_factOfWord_20 (by rw [c11]; decide) (by rw [c11]; decide) (by rw [c11]; rfl) (by decide) ?_
      refine x_iconst (pc := 122) o dX5_factOfWord_122 ic_3 ?_
      exact x_ireturn (pc := 123) o hr dX5_factOfWord_123 (Option.some.inj h) rfl
    have h := xif h c11
    by_cases c12 : v4 = (22 : Int32)
    · have h := xit h c12
      refine x_tableIn (pc := 20) (tgt := 124) o dX5_factOfWord_20 (by rw [c12]; decide) (by rw [c12]; decide) (by rw [c12]; rfl) (by decide) ?_
      refine x_iconst (pc := 124) o dX5_factOfWord_124 ic_4 ?_
      exact x_ireturn (pc := 125) o hr dX5_factOfWord_125 (Option.some.inj h) rfl
    have h := xif h c12
    by_cases c13 : v4 = (23 : Int32)
    · have h := xit h c13
      refine x_tableIn (pc := 20) (tgt := 126) o dX5_factOfWord_20 (by rw [c13]; decide) (by rw [c13]; decide) (by rw [c13]; rfl) (by decide) ?_
      refine x_iconst (pc := 126) o dX5_factOfWord_126 ic_5 ?_
      exact x_ireturn (pc := 127) o hr dX5_factOfWord_127 (Option.some.inj h) rfl
    have h := xif h c13
    by_cases c16 : v4 = (24 : Int32)
    · have h := xit h c16
      refine x_tableIn (pc := 20) (tgt := 142) o dX5_factOfWord_20 (by rw [c16]; decide) (by rw [c16]; decide) (by rw [c16]; rfl) (by decide) ?_
      refine x_aload_n (pc := 142) o dX5_factOfWord_142 rfl rfl ?_
      obtain ⟨v14, hv14, h⟩ := xbs h
      refine gX5_19 (pc := 143) o dX5_factOfWord_143 hv14 ?_
      refine x_if_eq (pc := 146) (tgt := 154) o dX5_factOfWord_146 (by decide) (fun c15 => ?_) (fun c15 => ?_)
      · have h := xit h c15
        refine x_iconst (pc := 154) o dX5_factOfWord_154 ic_m1 ?_
        exact x_ireturn (pc := 155) o hr dX5_factOfWord_155 (Option.some.inj h) rfl
      · have h := xif h c15
        refine x_bipush (pc := 149) o dX5_factOfWord_149 bp_7 ?_
        refine x_goto (pc := 151) (tgt := 155) o dX5_factOfWord_151 (by decide) ?_
        exact x_ireturn (pc := 155) o hr dX5_factOfWord_155 (Option.some.inj h) rfl
    have h := xif h c16
    by_cases c17 : v4 = (6 : Int32)
    · refine x_tableIn (pc := 20) (tgt := 156) o dX5_factOfWord_20 (by rw [c17]; decide) (by rw [c17]; decide) (by rw [c17]; rfl) (by decide) ?_
      refine x_iconst (pc := 156) o dX5_factOfWord_156 ic_m1 ?_
      exact x_ireturn (pc := 157) o hr dX5_factOfWord_157 (Option.some.inj h) rfl
    by_cases c18 : v4 = (8 : Int32)
    · refine x_tableIn (pc := 20) (tgt := 156) o dX5_factOfWord_20 (by rw [c18]; decide) (by rw [c18]; decide) (by rw [c18]; rfl) (by decide) ?_
      refine x_iconst (pc := 156) o dX5_factOfWord_156 ic_m1 ?_
      exact x_ireturn (pc := 157) o hr dX5_factOfWord_157 (Option.some.inj h) rfl
    by_cases c19 : v4 = (9 : Int32)
    · refine x_tableIn (pc := 20) (tgt := 156) o dX5_factOfWord_20 (by rw [c19]; decide) (by rw [c19]; decide) (by rw [c19]; rfl) (by decide) ?_
      refine x_iconst (pc := 156) o dX5_factOfWord_156 ic_m1 ?_
      exact x_ireturn (pc := 157) o hr dX5_factOfWord_157 (Option.some.inj h) rfl
    by_cases c20 : v4 = (10 : Int32)
    · refine x_tableIn (pc := 20) (tgt := 156) o dX5_factOfWord_20 (by rw [c20]; decide) (by rw [c20]; decide) (by rw [c20]; rfl) (by decide) ?_
      refine x_iconst (pc := 156) o dX5_factOfWord_156 ic_m1 ?_
      exact x_ireturn (pc := 157) o hr dX5_factOfWord_157 (Option.some.inj h) rfl
    by_cases c21 : v4 = (11 : Int32)
    · refine x_tableIn (pc := 20) (tgt := 156) o dX5_factOfWord_20 (by rw [c21]; decide) (by rw [c21]; decide) (by rw [c21]; rfl) (by decide) ?_
      refine x_iconst (pc := 156) o dX5_factOfWord_156 ic_m1 ?_
      exact x_ireturn (pc := 157) o hr dX5_factOfWord_157 (Option.some.inj h) rfl
    by_cases c22 : v4 = (12 : Int32)
    · refine x_tableIn (pc := 20) (tgt := 156) o dX5_factOfWord_20 (by rw [c22]; decide) (by rw [c22]; decide) (by rw [c22]; rfl) (by decide) ?_
      refine x_iconst (pc := 156) o dX5_factOfWord_156 ic_m1 ?_
      exact x_ireturn (pc := 157) o hr dX5_factOfWord_157 (Option.some.inj h) rfl
    by_cases c23 : v4 = (13 : Int32)
    · refine x_tableIn (pc := 20) (tgt := 156) o dX5_factOfWord_20 (by rw [c23]; decide) (by rw [c23]; decide) (by rw [c23]; rfl) (by decide) ?_
      refine x_iconst (pc := 156) o dX5_factOfWord_156 ic_m1 ?_
      exact x_ireturn (pc := 157) o hr dX5_factOfWord_157 (Option.some.inj h) rfl
    by_cases c24 : v4 = (14 : Int32)
    · refine x_tableIn (pc := 20) (tgt := 156) o dX5_factOfWord_20 (by rw [c24]; decide) (by rw [c24]; decide) (by rw [c24]; rfl) (by decide) ?_
      refine x_iconst (pc := 156) o dX5_factOfWord_156 ic_m1 ?_
      exact x_ireturn (pc := 157) o hr dX5_factOfWord_157 (Option.some.inj h) rfl
    by_cases c25 : v4 = (15 : Int32)
    · refine x_tableIn (pc := 20) (tgt := 156) o dX5_factOfWord_20 (by rw [c25]; decide) (by rw [c25]; decide) (by rw [c25]; rfl) (by decide) ?_
      refine x_iconst (pc := 156) o dX5_factOfWord_156 ic_m1 ?_
      exact x_ireturn (pc := 157) o hr dX5_factOfWord_157 (Option.some.inj h) rfl
    by_cases c26 : v4 = (16 : Int32)
    · refine x_tableIn (pc := 20) (tgt := 156) o dX5_factOfWord_20 (by rw [c26]; decide) (by rw [c26]; decide) (by rw [c26]; rfl) (by decide) ?_
      refine x_iconst (pc := 156) o dX5_factOfWord_156 ic_m1 ?_
      exact x_ireturn (pc := 157) o hr dX5_factOfWord_157 (Option.some.inj h) rfl
    by_cases c27 : v4 = (17 : Int32)
    · refine x_tableIn (pc := 20) (tgt := 156) o dX5_factOfWord_20 (by rw [c27]; decide) (by rw [c27]; decide) (by rw [c27]; rfl) (by decide) ?_
      refine x_iconst (pc := 156) o dX5_factOfWord_156 ic_m1 ?_
      exact x_ireturn (pc := 157) o hr dX5_factOfWord_157 (Option.some.inj h) rfl
    by_cases c28 : v4 = (18 : Int32)
    · refine x_tableIn (pc := 20) (tgt := 156) o dX5_factOfWord_20 (by rw [c28]; decide) (by rw [c28]; decide) (by rw [c28]; rfl) (by decide) ?_
      refine x_iconst (pc := 156) o dX5_factOfWord_156 ic_m1 ?_
      exact x_ireturn (pc := 157) o hr dX5_factOfWord_157 (Option.some.inj h) rfl
    refine x_tableOut (pc := 20) (tgt := 156) o dX5_factOfWord_20 (by have := lv_neT c5 (a := 5) (by decide); have := lv_neT c6 (a := 7) (by decide); have := lv_neT c9 (a := 19) (by decide); have := lv_neT c10 (a := 20) (by decide); have := lv_neT c11 (a := 21) (by decide); have := lv_neT c12 (a := 22) (by decide); have := lv_neT c13 (a := 23) (by decide); have := lv_neT c16 (a := 24) (by decide); have := lv_neT c17 (a := 6) (by decide); have := lv_neT c18 (a := 8) (by decide); have := lv_neT c19 (a := 9) (by decide); have := lv_neT c20 (a := 10) (by decide); have := lv_neT c21 (a := 11) (by decide); have := lv_neT c22 (a := 12) (by decide); have := lv_neT c23 (a := 13) (by decide); have := lv_neT c24 (a := 14) (by decide); have := lv_neT c25 (a := 15) (by decide); have := lv_neT c26 (a := 16) (by decide); have := lv_neT c27 (a := 17) (by decide); have := lv_neT c28 (a := 18) (by decide); omega) (by decide) ?_
    refine x_iconst (pc := 156) o dX5_factOfWord_156 ic_m1 ?_
    exact x_ireturn (pc := 157) o hr dX5_factOfWord_157 (Option.some.inj h) rfl
  · have h := xif h c29
    refine x_iconst (pc := 11) o dX5_factOfWord_11 ic_m1 ?_
    exact x_ireturn (pc := 12) o hr dX5_factOfWord_12 (Option.some.inj h) rfl
def fX5_productSign (k0 : Nat) (S : xSt) : Option (Int32) :=
  if tC.1 k0 = 5 then
  ((xgF tC 5 0 k0 S).bind fun r1 =>
  (fX7_isSign r1 ((42 : Int32)) S).bind fun v2 =>
  if v2 = 0 then
  ((xgF tC 5 0 k0 S).bind fun r3 =>
  (fX7_isSign r3 ((47 : Int32)) S).bind fun v4 =>
  if v4 = 0 then
  ((xgF tC 5 0 k0 S).bind fun r5 =>
  (fX7_isSign r5 ((37 : Int32)) S).bind fun v6 =>
  if v6 = 0 then
  (some ((-1 : Int32)))
else
  (some ((8 : Int32))))
else
  (some ((7 : Int32))))
else
  (some ((6 : Int32))))
  else none
theorem kX5_productSign {z : Int32} {k0 : Nat} {S : xSt} (h : fX5_productSign k0 S = some z) : tC.1 k0 = 5 := by
  unfold fX5_productSign at h
  exact (xck h).1
set_option maxHeartbeats 4000000 in
theorem tX5_productSign (l : Launch) (M : xMg) (A : Nat → Prop) (k0 : Nat) (S : xSt) (z : Int32) (h : fX5_productSign k0 S = some z) : xMI l yX5_productSign cX5_productSign 1 (some .int) 2 tC M A [.ref (M.2.1 k0)] S z S := by
  refine x_metI (plainFor_of_name (by decide)) tC_ok (Nat.le_of_ble_eq_true rfl) (fun Γ hA hnL hl hr o => ?_)
  subst hA; subst hl
  have o : xOk Γ tC M 2 cX5_productSign RX5 := o
  unfold fX5_productSign at h
  obtain ⟨hk0, h⟩ := xck h
  refine x_to (l := [(0, .ref (M.2.1 k0))]) ⟨rfl, trivial⟩ ?_
  refine x_aload_n (pc := 0) o dX5_productSign_0 rfl rfl ?_
  obtain ⟨r1, hr1, h⟩ := xbs h
  refine gX5_9 (pc := 1) o dX5_productSign_1 hr1 ?_
  refine x_bipush (pc := 4) o dX5_productSign_4 bp_42 ?_
  obtain ⟨v2, hv2, h⟩ := xbs h
  refine x_callI (pc := 6) (As := [.int ((42 : Int32))]) (b := r1) (rest := []) o (tX7_isSign _ M _ r1 ((42 : Int32)) S v2 hv2) eX7_isSign mX5_63 clX7 (kX7_isSign hv2) (by decide) rfl rfl (Nat.le_of_ble_eq_true rfl) dX5_productSign_6 ?_
  refine x_if_eq (pc := 9) (tgt := 15) o dX5_productSign_9 (by decide) (fun c9 => ?_) (fun c9 => ?_)
  · have h := xit h c9
    refine x_aload_n (pc := 15) o dX5_productSign_15 rfl rfl ?_
    obtain ⟨r3, hr3, h⟩ := xbs h
    refine gX5_9 (pc := 16) o dX5_productSign_16 hr3 ?_
    refine x_bipush (pc := 19) o dX5_productSign_19 bp_47 ?_
    obtain ⟨v4, hv4, h⟩ := xbs h
    refine x_callI (pc := 21) (As := [.int ((47 : Int32))]) (b := r3) (rest := []) o (tX7_isSign _ M _ r3 ((47 : Int32)) S v4 hv4) eX7_isSign mX5_63 clX7 (kX7_isSign hv4) (by decide) rfl rfl (Nat.le_of_ble_eq_true rfl) dX5_productSign_21 ?_
    refine x_if_eq (pc := 24) (tgt := 30) o dX5_productSign_24 (by decide) (fun c8 => ?_) (fun c8 => ?_)
    · have h := xit h c8
      refine x_aload_n (pc := 30) o dX5_productSign_30 rfl rfl ?_
      obtain ⟨r5, hr5, h⟩ := xbs h
      refine gX5_9 (pc := 31) o dX5_productSign_31 hr5 ?_
      refine x_bipush (pc := 34) o dX5_productSign_34 bp_37 ?_
      obtain ⟨v6, hv6, h⟩ := xbs h
      refine x_callI (pc := 36) (As := [.int ((37 : Int32))]) (b := r5) (rest := []) o (tX7_isSign _ M _ r5 ((37 : Int32)) S v6 hv6) eX7_isSign mX5_63 clX7 (kX7_isSign hv6) (by decide) rfl rfl (Nat.le_of_ble_eq_true rfl) dX5_productSign_36 ?_
      refine x_if_eq (pc := 39) (tgt := 47) o dX5_productSign_39 (by decide) (fun c7 => ?_) (fun c7 => ?_)
      · have h := xit h c7
        refine x_iconst (pc := 47) o dX5_productSign_47 ic_m1 ?_
        exact x_ireturn (pc := 48) o hr dX5_productSign_48 (Option.some.inj h) rfl
      · have h := xif h c7
        refine x_bipush (pc := 42) o dX5_productSign_42 bp_8 ?_
        refine x_goto (pc := 44) (tgt := 48) o dX5_productSign_44 (by decide) ?_
        exact x_ireturn (pc := 48) o hr dX5_productSign_48 (Option.some.inj h) rfl
    · have h := xif h c8
      refine x_bipush (pc := 27) o dX5_productSign_27 bp_7 ?_
      exact x_ireturn (pc := 29) o hr dX5_productSign_29 (Option.some.inj h) rfl
  · have h := xif h c9
    refine x_bipush (pc := 12) o dX5_productSign_12 bp_6 ?_
    exact x_ireturn (pc := 14) o hr dX5_productSign_14 (Option.some.inj h) rfl
def fX5_comparison (k0 : Nat) (S : xSt) : Option (Int32) :=
  if tC.1 k0 = 5 then
  ((xgF tC 5 0 k0 S).bind fun r1 =>
  (fX7_isSign r1 ((60 : Int32)) S).bind fun v2 =>
  if v2 = 0 then
  ((xgF tC 5 0 k0 S).bind fun r3 =>
  (fX7_isSign r3 ((62 : Int32)) S).bind fun v4 =>
  if v4 = 0 then
  ((xgF tC 5 0 k0 S).bind fun r5 =>
  (fX7_isSign r5 ((61 : Int32)) S).bind fun v6 =>
  if v6 = 0 then
  (some ((-1 : Int32)))
else
  (some ((13 : Int32))))
else
  (some ((12 : Int32))))
else
  (some ((11 : Int32))))
  else none
theorem kX5_comparison {z : Int32} {k0 : Nat} {S : xSt} (h : fX5_comparison k0 S = some z) : tC.1 k0 = 5 := by
  unfold fX5_comparison at h
  exact (xck h).1
set_option maxHeartbeats 4000000 in
theorem tX5_comparison (l : Launch) (M : xMg) (A : Nat → Prop) (k0 : Nat) (S : xSt) (z : Int32) (h : fX5_comparison k0 S = some z) : xMI l yX5_comparison cX5_comparison 1 (some .int) 2 tC M A [.ref (M.2.1 k0)] S z S := by
  refine x_metI (plainFor_of_name (by decide)) tC_ok (Nat.le_of_ble_eq_true rfl) (fun Γ hA hnL hl hr o => ?_)
  subst hA; subst hl
  have o : xOk Γ tC M 2 cX5_comparison RX5 := o
  unfold fX5_comparison at h
  obtain ⟨hk0, h⟩ := xck h
  refine x_to (l := [(0, .ref (M.2.1 k0))]) ⟨rfl, trivial⟩ ?_
  refine x_aload_n (pc := 0) o dX5_comparison_0 rfl rfl ?_
  obtain ⟨r1, hr1, h⟩ := xbs h
  refine gX5_9 (pc := 1) o dX5_comparison_1 hr1 ?_
  refine x_bipush (pc := 4) o dX5_comparison_4 bp_60 ?_
  obtain ⟨v2, hv2, h⟩ := xbs h
  refine x_callI (pc := 6) (As := [.int ((60 : Int32))]) (b := r1) (rest := []) o (tX7_isSign _ M _ r1 ((60 : Int32)) S v2 hv2) eX7_isSign mX5_63 clX7 (kX7_isSign hv2) (by decide) rfl rfl (Nat.le_of_ble_eq_true rfl) dX5_comparison_6 ?_
  refine x_if_eq (pc := 9) (tgt := 15) o dX5_comparison_9 (by decide) (fun c9 => ?_) (fun c9 => ?_)
  · have h := xit h c9
    refine x_aload_n (pc := 15) o dX5_comparison_15 rfl rfl ?_
    obtain ⟨r3, hr3, h⟩ := xbs h
    refine gX5_9 (pc := 16) o dX5_comparison_16 hr3 ?_
    refine x_bipush (pc := 19) o dX5_comparison_19 bp_62 ?_
    obtain ⟨v4, hv4, h⟩ := xbs h
    refine x_callI (pc := 21) (As := [.int ((62 : Int32))]) (b := r3) (rest := []) o (tX7_isSign _ M _ r3 ((62 : Int32)) S v4 hv4) eX7_isSign mX5_63 clX7 (kX7_isSign hv4) (by decide) rfl rfl (Nat.le_of_ble_eq_true rfl) dX5_comparison_21 ?_
    refine x_if_eq (pc := 24) (tgt := 30) o dX5_comparison_24 (by decide) (fun c8 => ?_) (fun c8 => ?_)
    · have h := xit h c8
      refine x_aload_n (pc := 30) o dX5_comparison_30 rfl rfl ?_
      obtain ⟨r5, hr5, h⟩ := xbs h
      refine gX5_9 (pc := 31) o dX5_comparison_31 hr5 ?_
      refine x_bipush (pc := 34) o dX5_comparison_34 bp_61 ?_
      obtain ⟨v6, hv6, h⟩ := xbs h
      refine x_callI (pc := 36) (As := [.int ((61 : Int32))]) (b := r5) (rest := []) o (tX7_isSign _ M _ r5 ((61 : Int32)) S v6 hv6) eX7_isSign mX5_63 clX7 (kX7_isSign hv6) (by decide) rfl rfl (Nat.le_of_ble_eq_true rfl) dX5_comparison_36 ?_
      refine x_if_eq (pc := 39) (tgt := 47) o dX5_comparison_39 (by decide) (fun c7 => ?_) (fun c7 => ?_)
      · have h := xit h c7
        refine x_iconst (pc := 47) o dX5_comparison_47 ic_m1 ?_
        exact x_ireturn (pc := 48) o hr dX5_comparison_48 (Option.some.inj h) rfl
      · have h := xif h c7
        refine x_bipush (pc := 42) o dX5_comparison_42 bp_13 ?_
        refine x_goto (pc := 44) (tgt := 48) o dX5_comparison_44 (by decide) ?_
        exact x_ireturn (pc := 48) o hr dX5_comparison_48 (Option.some.inj h) rfl
    · have h := xif h c8
      refine x_bipush (pc := 27) o dX5_comparison_27 bp_12 ?_
      exact x_ireturn (pc := 29) o hr dX5_comparison_29 (Option.some.inj h) rfl
  · have h := xif h c9
    refine x_bipush (pc := 12) o dX5_comparison_12 bp_11 ?_
    exact x_ireturn (pc := 14) o hr dX5_comparison_14 (Option.some.inj h) rfl
def fX7_letterOf (a0 : Int32) (a1 : Int32) (S : xSt) : Option (Int32) :=
  if a1 < 0 then
  (some ((0 : Int32)))
else
  (if ((6 : Int32)) ≤ a1 then
  (some ((0 : Int32)))
else
  (some ((a0 >>> (((((5 : Int32)) - a1) * ((5 : Int32))) &&& 31)) &&& ((31 : Int32)))))
set_option maxHeartbeats 4000000 in
theorem tX7_letterOf (l : Launch) (M : xMg) (A : Nat → Prop) (a0 : Int32) (a1 : Int32) (S : xSt) (z : Int32) (h : fX7_letterOf a0 a1 S = some z) : xMI l yX7_letterOf cX7_letterOf 2 (some .int) 1 tC M A [.int a0, .int a1] S z S := by
  refine x_metI (plainFor_of_name (by decide)) tC_ok (Nat.le_of_ble_eq_true rfl) (fun Γ hA hnL hl hr o => ?_)
  subst hA; subst hl
  have o : xOk Γ tC M 1 cX7_letterOf RX7 := o
  unfold fX7_letterOf at h
  refine x_to (l := [(0, .int a0), (1, .int a1)]) ⟨rfl, rfl, trivial⟩ ?_
  refine x_iload_n (pc := 0) o dX7_letterOf_0 rfl rfl ?_
  refine x_if_lt (pc := 1) (tgt := 23) o dX7_letterOf_1 (by decide) (fun c2 => ?_) (fun c2 => ?_)
  · have h := xit h c2
    refine x_iconst (pc := 23) o dX7_letterOf_23 ic_0 ?_
    exact x_ireturn (pc := 24) o hr dX7_letterOf_24 (Option.some.inj h) rfl
  · have h := xif h c2
    refine x_iload_n (pc := 4) o dX7_letterOf_4 rfl rfl ?_
    refine x_bipush (pc := 5) o dX7_letterOf_5 bp_6 ?_
    refine x_icmp_ge (pc := 7) (tgt := 23) o dX7_letterOf_7 (by decide) (fun c1 => ?_) (fun c1 => ?_)
    · have h := xit h c1
      refine x_iconst (pc := 23) o dX7_letterOf_23 ic_0 ?_
      exact x_ireturn (pc := 24) o hr dX7_letterOf_24 (Option.some.inj h) rfl
    · have h := xif h c1
      refine x_iload_n (pc := 10) o dX7_letterOf_10 rfl rfl ?_
      refine x_iconst (pc := 11) o dX7_letterOf_11 ic_5 ?_
      refine x_iload_n (pc := 12) o dX7_letterOf_12 rfl rfl ?_
      refine x_isub (pc := 13) o dX7_letterOf_13 ?_
      refine x_iconst (pc := 14) o dX7_letterOf_14 ic_5 ?_
      refine x_imul (pc := 15) o dX7_letterOf_15 ?_
      refine x_ishr (pc := 16) o dX7_letterOf_16 ?_
      refine x_bipush (pc := 17) o dX7_letterOf_17 bp_31 ?_
      refine x_iand (pc := 19) o dX7_letterOf_19 ?_
      refine x_goto (pc := 20) (tgt := 24) o dX7_letterOf_20 (by decide) ?_
      exact x_ireturn (pc := 24) o hr dX7_letterOf_24 (Option.some.inj h) rfl
def fX7_begin (n : Nat) (k0 : Nat) (a1 : Int32) (S : xSt) : Option (xSt) :=
  if tC.1 k0 = 7 then
  ((xgF tC 7 0 k0 S).bind fun r1 =>
  (xlen tC r1).bind fun v2 =>
  (some (if v2 < a1 then v2 else a1)).bind fun v3 =>
  (some (if ((0 : Int32)) < v3 then v3 else ((0 : Int32)))).bind fun v4 =>
  (xpI tC 7 2 k0 v4 S).bind fun S5 =>
  (xpI tC 7 3 k0 ((0 : Int32)) S5).bind fun S6 =>
  (xpI tC 7 4 k0 ((3 : Int32)) S6).bind fun S7 =>
  (xpI tC 7 9 k0 ((0 : Int32)) S7).bind fun S8 =>
  (xpI tC 7 10 k0 ((-1 : Int32)) S8).bind fun S9 =>
  (fX7_advance n k0 S9).bind fun S10 =>
  some S10)
  else none
theorem kX7_begin {z : xSt} {n : Nat} {k0 : Nat} {a1 : Int32} {S : xSt} (h : fX7_begin n k0 a1 S = some z) : tC.1 k0 = 7 := by
  unfold fX7_begin at h
  exact (xck h).1
set_option maxHeartbeats 4000000 in
theorem tX7_begin (l : Launch) (M : xMg) (A : Nat → Prop) (n : Nat) (k0 : Nat) (a1 : Int32) (S : xSt) (z : xSt) (h : fX7_begin n k0 a1 S = some z) : xMV l yX7_begin cX7_begin 2 none 4 tC M A [.ref (M.2.1 k0), .int a1] S z := by
  refine x_metV (plainFor_of_name (by decide)) tC_ok (Nat.le_of_ble_eq_true rfl) (fun Γ hA hnL hl hr o => ?_)
  subst hA; subst hl
  have o : xOk Γ tC M 4 cX7_begin RX7 := o
  unfold fX7_begin at h
  obtain ⟨hk0, h⟩ := xck h
  refine x_to (l := [(0, .ref (M.2.1 k0)), (1, .int a1)]) ⟨rfl, rfl, trivial⟩ ?_
  refine x_aload_n (pc := 0) o dX7_begin_0 rfl rfl ?_
  refine x_iconst (pc := 1) o dX7_begin_1 ic_0 ?_
  refine x_iload_n (pc := 2) o dX7_begin_2 rfl rfl ?_
  refine x_aload_n (pc := 3) o dX7_begin_3 rfl rfl ?_
  obtain ⟨r1, hr1, h⟩ := xbs h
  refine gX7_22 (pc := 4) o dX7_begin_4 hr1 ?_
  obtain ⟨v2, hv2, h⟩ := xbs h
  refine x_arraylength (pc := 7) o dX7_begin_7 hv2 ?_
  obtain ⟨v3, hv3, h⟩ := xbs h
  refine x_mminE (pc := 8) o mX7_41 w_min1 w_min2 w_min3 (by decide) (Nat.le_of_ble_eq_true rfl) dX7_begin_8 hv3 ?_
  obtain ⟨v4, hv4, h⟩ := xbs h
  refine x_mmaxE (pc := 11) o mX7_47 w_max1 w_max2 w_max3 (by decide) (Nat.le_of_ble_eq_true rfl) dX7_begin_11 hv4 ?_
  obtain ⟨S5, hS5, h⟩ := xbs h
  refine pX7_50 (pc := 14) o dX7_begin_14 hS5 ?_
  refine x_aload_n (pc := 17) o dX7_begin_17 rfl rfl ?_
  refine x_iconst (pc := 18) o dX7_begin_18 ic_0 ?_
  obtain ⟨S6, hS6, h⟩ := xbs h
  refine pX7_52 (pc := 19) o dX7_begin_19 hS6 ?_
  refine x_aload_n (pc := 22) o dX7_begin_22 rfl rfl ?_
  refine x_iconst (pc := 23) o dX7_begin_23 ic_3 ?_
  obtain ⟨S7, hS7, h⟩ := xbs h
  refine pX7_55 (pc := 24) o dX7_begin_24 hS7 ?_
  refine x_aload_n (pc := 27) o dX7_begin_27 rfl rfl ?_
  refine x_iconst (pc := 28) o dX7_begin_28 ic_0 ?_
  obtain ⟨S8, hS8, h⟩ := xbs h
  refine pX7_58 (pc := 29) o dX7_begin_29 hS8 ?_
  refine x_aload_n (pc := 32) o dX7_begin_32 rfl rfl ?_
  refine x_iconst (pc := 33) o dX7_begin_33 ic_m1 ?_
  obtain ⟨S9, hS9, h⟩ := xbs h
  refine pX7_19 (pc := 34) o dX7_begin_34 hS9 ?_
  refine x_aload_n (pc := 37) o dX7_begin_37 rfl rfl ?_
  obtain ⟨S10, hS10, h⟩ := xbs h
  refine x_callV (pc := 38) (As := []) (b := k0) (rest := []) o (tX7_advance _ M _ n k0 S9 S10 hS10) eX7_advance mX7_61 clX7 (kX7_advance hS10) (by decide) rfl rfl (Nat.le_of_ble_eq_true rfl) dX7_begin_38 ?_
  exact x_vreturn (pc := 41) o hr dX7_begin_41 (Option.some.inj h)
def fX7_startsStep (k0 : Nat) (S : xSt) : Option (Int32) :=
  if tC.1 k0 = 7 then
  ((xgI tC 7 5 k0 S).bind fun v1 =>
  (fX7_byteAt k0 v1 S).bind fun v2 =>
  (fX7_isLetter v2 S).bind fun v3 =>
  if v3 = 0 ∨ v3 = 1 then (some v3) else none)
  else none
theorem kX7_startsStep {z : Int32} {k0 : Nat} {S : xSt} (h : fX7_startsStep k0 S = some z) : tC.1 k0 = 7 := by
  unfold fX7_startsStep at h
  exact (xck h).1
set_option maxHeartbeats 4000000 in
theorem tX7_startsStep (l : Launch) (M : xMg) (A : Nat → Prop) (k0 : Nat) (S : xSt) (z : Int32) (h : fX7_startsStep k0 S = some z) : xMI l yX7_startsStep cX7_startsStep 1 (some .boolean) 2 tC M A [.ref (M.2.1 k0)] S z S := by
  refine x_metI (plainFor_of_name (by decide)) tC_ok (Nat.le_of_ble_eq_true rfl) (fun Γ hA hnL hl hr o => ?_)
  subst hA; subst hl
  have o : xOk Γ tC M 2 cX7_startsStep RX7 := o
  unfold fX7_startsStep at h
  obtain ⟨hk0, h⟩ := xck h
  refine x_to (l := [(0, .ref (M.2.1 k0))]) ⟨rfl, trivial⟩ ?_
  refine x_aload_n (pc := 0) o dX7_startsStep_0 rfl rfl ?_
  refine x_aload_n (pc := 1) o dX7_startsStep_1 rfl rfl ?_
  obtain ⟨v1, hv1, h⟩ := xbs h
  refine gX7_74 (pc := 2) o dX7_startsStep_2 hv1 ?_
  obtain ⟨v2, hv2, h⟩ := xbs h
  refine x_callI (pc := 5) (As := [.int v1]) (b := k0) (rest := []) o (tX7_byteAt _ M _ k0 v1 S v2 hv2) eX7_byteAt mX7_77 clX7 (kX7_byteAt hv2) (by decide) rfl rfl (Nat.le_of_ble_eq_true rfl) dX7_startsStep_5 ?_
  obtain ⟨v3, hv3, h⟩ := xbs h
  refine x_statI (pc := 8) (As := [.int v2]) (rest := []) o (tX7_isLetter _ M _ v2 S v3 hv3) eX7_isLetter mX7_81 (by decide) rfl rfl (Nat.le_of_ble_eq_true rfl) dX7_startsStep_8 ?_
  obtain ⟨hz, h⟩ := xck h
  exact x_zreturn (pc := 11) o hr dX7_startsStep_11 hz (Option.some.inj h) rfl
def fX7_takeWord (n : Nat) (k0 : Nat) (a1 : Int32) (S : xSt) : Option (Int32 × xSt) :=
  if tC.1 k0 = 7 then
  ((fX7_isWord k0 a1 S).bind fun v1 =>
  if v1 = 0 then
  ((fX7_failHere k0 S).bind fun q3 =>
  if q3.1 = 0 ∨ q3.1 = 1 then (some (q3.1, q3.2)) else none)
else
  ((fX7_advance n k0 S).bind fun S2 =>
  some ((1 : Int32), S2)))
  else none
theorem kX7_takeWord {z : Int32 × xSt} {n : Nat} {k0 : Nat} {a1 : Int32} {S : xSt} (h : fX7_takeWord n k0 a1 S = some z) : tC.1 k0 = 7 := by
  unfold fX7_takeWord at h
  exact (xck h).1
set_option maxHeartbeats 4000000 in
theorem tX7_takeWord (l : Launch) (M : xMg) (A : Nat → Prop) (n : Nat) (k0 : Nat) (a1 : Int32) (S : xSt) (z : Int32 × xSt) (h : fX7_takeWord n k0 a1 S = some z) : xMI l yX7_takeWord cX7_takeWord 2 (some .boolean) 4 tC M A [.ref (M.2.1 k0), .int a1] S z.1 z.2 := by
  refine x_metI (plainFor_of_name (by decide)) tC_ok (Nat.le_of_ble_eq_true rfl) (fun Γ hA hnL hl hr o => ?_)
  subst hA; subst hl
  have o : xOk Γ tC M 4 cX7_takeWord RX7 := o
  unfold fX7_takeWord at h
  obtain ⟨hk0, h⟩ := xck h
  refine x_to (l := [(0, .ref (M.2.1 k0)), (1, .int a1)]) ⟨rfl, rfl, trivial⟩ ?_
  refine x_aload_n (pc := 0) o dX7_takeWord_0 rfl rfl ?_
  refine x_iload_n (pc := 1) o dX7_takeWord_1 rfl rfl ?_
  obtain ⟨v1, hv1, h⟩ := xbs h
  refine x_callI (pc := 2) (As := [.int a1]) (b := k0) (rest := []) o (tX7_isWord _ M _ k0 a1 S v1 hv1) eX7_isWord mX7_104 clX7 (kX7_isWord hv1) (by decide) rfl rfl (Nat.le_of_ble_eq_true rfl) dX7_takeWord_2 ?_
  refine x_if_ne (pc := 5) (tgt := 13) o dX7_takeWord_5 (by decide) (fun c4 => ?_) (fun c4 => ?_)
  · have h := xif h c4
    refine x_aload_n (pc := 13) o dX7_takeWord_13 rfl rfl ?_
    obtain ⟨S2, hS2, h⟩ := xbs h
    refine x_callV (pc := 14) (As := []) (b := k0) (rest := []) o (tX7_advance _ M _ n k0 S S2 hS2) eX7_advance mX7_61 clX7 (kX7_advance hS2) (by decide) rfl rfl (Nat.le_of_ble_eq_true rfl) dX7_takeWord_14 ?_
    refine x_iconst (pc := 17) o dX7_takeWord_17 ic_1 ?_
    exact x_zreturn (pc := 18) o hr dX7_takeWord_18 (by decide) (xr1 h) (xr2 h)
  · have h := xit h c4
    refine x_aload_n (pc := 8) o dX7_takeWord_8 rfl rfl ?_
    obtain ⟨q3, hq3, h⟩ := xbs h
    refine x_callI (pc := 9) (As := []) (b := k0) (rest := []) o (tX7_failHere _ M _ k0 S q3 hq3) eX7_failHere mX7_107 clX7 (kX7_failHere hq3) (by decide) rfl rfl (Nat.le_of_ble_eq_true rfl) dX7_takeWord_9 ?_
    obtain ⟨hz, h⟩ := xck h
    exact x_zreturn (pc := 12) o hr dX7_takeWord_12 hz (xr1 h) (xr2 h)
def fX7_takeNumber (n : Nat) (k0 : Nat) (a1 : Int32) (a2 : Int32) (S : xSt) : Option (Int32 × xSt) :=
  if tC.1 k0 = 7 then
  ((xgI tC 7 4 k0 S).bind fun v1 =>
  if v1 = ((2 : Int32)) then
  ((xgI tC 7 7 k0 S).bind fun v2 =>
  if v2 < a1 then
  ((xgI tC 7 5 k0 S).bind fun v3 =>
  (fX7_fail k0 ((4 : Int32)) v3 S).bind fun q4 =>
  some ((-1 : Int32), q4.2))
else
  ((xgI tC 7 7 k0 S).bind fun v5 =>
  if v5 ≤ a2 then
  ((xgI tC 7 7 k0 S).bind fun v6 =>
  (fX7_advance n k0 S).bind fun S7 =>
  some (v6, S7))
else
  ((xgI tC 7 5 k0 S).bind fun v8 =>
  (fX7_fail k0 ((4 : Int32)) v8 S).bind fun q9 =>
  some ((-1 : Int32), q9.2))))
else
  ((fX7_failHere k0 S).bind fun q12 =>
  some ((-1 : Int32), q12.2)))
  else none
theorem kX7_takeNumber {z : Int32 × xSt} {n : Nat} {k0 : Nat} {a1 : Int32} {a2 : Int32} {S : xSt} (h : fX7_takeNumber n k0 a1 a2 S = some z) : tC.1 k0 = 7 := by
  unfold fX7_takeNumber at h
  exact (xck h).1
set_option maxHeartbeats 4000000 in
theorem tX7_takeNumber (l : Launch) (M : xMg) (A : Nat → Prop) (n : Nat) (k0 : Nat) (a1 : Int32) (a2 : Int32) (S : xSt) (z : Int32 × xSt) (h : fX7_takeNumber n k0 a1 a2 S = some z) : xMI l yX7_takeNumber cX7_takeNumber 4 (some .int) 4 tC M A [.ref (M.2.1 k0), .int a1, .int a2] S z.1 z.2 := by
  refine x_metI (plainFor_of_name (by decide)) tC_ok (Nat.le_of_ble_eq_true rfl) (fun Γ hA hnL hl hr o => ?_)
  subst hA; subst hl
  have o : xOk Γ tC M 4 cX7_takeNumber RX7 := o
  unfold fX7_takeNumber at h
  obtain ⟨hk0, h⟩ := xck h
  refine x_to (l := [(0, .ref (M.2.1 k0)), (1, .int a1), (2, .int a2)]) ⟨rfl, rfl, rfl, trivial⟩ ?_
  have hn3 : 3 < Γ.2.2.2 := by omega
  refine x_aload_n (pc := 0) o dX7_takeNumber_0 rfl rfl ?_
  obtain ⟨v1, hv1, h⟩ := xbs h
  refine gX7_55 (pc := 1) o dX7_takeNumber_1 hv1 ?_
  refine x_iconst (pc := 4) o dX7_takeNumber_4 ic_2 ?_
  refine x_icmp_eq (pc := 5) (tgt := 15) o dX7_takeNumber_5 (by decide) (fun c13 => ?_) (fun c13 => ?_)
  · have h := xit h c13
    refine x_aload_n (pc := 15) o dX7_takeNumber_15 rfl rfl ?_
    obtain ⟨v2, hv2, h⟩ := xbs h
    refine gX7_94 (pc := 16) o dX7_takeNumber_16 hv2 ?_
    refine x_iload_n (pc := 19) o dX7_takeNumber_19 rfl rfl ?_
    refine x_icmp_lt (pc := 20) (tgt := 31) o dX7_takeNumber_20 (by decide) (fun c11 => ?_) (fun c11 => ?_)
    · have h := xit h c11
      refine x_aload_n (pc := 31) o dX7_takeNumber_31 rfl rfl ?_
      refine x_iconst (pc := 32) o dX7_takeNumber_32 ic_4 ?_
      refine x_aload_n (pc := 33) o dX7_takeNumber_33 rfl rfl ?_
      obtain ⟨v3, hv3, h⟩ := xbs h
      refine gX7_74 (pc := 34) o dX7_takeNumber_34 hv3 ?_
      obtain ⟨q4, hq4, h⟩ := xbs h
      refine x_callI (pc := 37) (As := [.int ((4 : Int32)), .int v3]) (b := k0) (rest := []) o (tX7_fail _ M _ k0 ((4 : Int32)) v3 S q4 hq4) eX7_fail mX7_67 clX7 (kX7_fail hq4) (by decide) rfl rfl (Nat.le_of_ble_eq_true rfl) dX7_takeNumber_37 ?_
      refine x_pop (pc := 40) o dX7_takeNumber_40 rfl ?_
      refine x_iconst (pc := 41) o dX7_takeNumber_41 ic_m1 ?_
      exact x_ireturn (pc := 42) o hr dX7_takeNumber_42 (xr1 h) (xr2 h)
    · have h := xif h c11
      refine x_aload_n (pc := 23) o dX7_takeNumber_23 rfl rfl ?_
      obtain ⟨v5, hv5, h⟩ := xbs h
      refine gX7_94 (pc := 24) o dX7_takeNumber_24 hv5 ?_
      refine x_iload_n (pc := 27) o dX7_takeNumber_27 rfl rfl ?_
      refine x_icmp_le (pc := 28) (tgt := 43) o dX7_takeNumber_28 (by decide) (fun c10 => ?_) (fun c10 => ?_)
      · have h := xit h c10
        refine x_aload_n (pc := 43) o dX7_takeNumber_43 rfl rfl ?_
        obtain ⟨v6, hv6, h⟩ := xbs h
        refine gX7_94 (pc := 44) o dX7_takeNumber_44 hv6 ?_
        refine x_istore_n (pc := 47) o dX7_takeNumber_47 rfl hn3 ?_
        refine x_aload_n (pc := 48) o dX7_takeNumber_48 rfl rfl ?_
        obtain ⟨S7, hS7, h⟩ := xbs h
        refine x_callV (pc := 49) (As := []) (b := k0) (rest := []) o (tX7_advance _ M _ n k0 S S7 hS7) eX7_advance mX7_61 clX7 (kX7_advance hS7) (by decide) rfl rfl (Nat.le_of_ble_eq_true rfl) dX7_takeNumber_49 ?_
        refine x_iload_n (pc := 52) o dX7_takeNumber_52 rfl rfl ?_
        exact x_ireturn (pc := 53) o hr dX7_takeNumber_53 (xr1 h) (xr2 h)
      · have h := xif h c10
        refine x_aload_n (pc := 31) o dX7_takeNumber_31 rfl rfl ?_
        refine x_iconst (pc := 32) o dX7_takeNumber_32 ic_4 ?_
        refine x_aload_n (pc := 33) o dX7_takeNumber_33 rfl rfl ?_
        obtain ⟨v8, hv8, h⟩ := xbs h
        refine gX7_74 (pc := 34) o dX7_takeNumber_34 hv8 ?_
        obtain ⟨q9, hq9, h⟩ := xbs h
        refine x_callI (pc := 37) (As := [.int ((4 : Int32)), .int v8]) (b := k0) (rest := []) o (tX7_fail _ M _ k0 ((4 : Int32)) v8 S q9 hq9) eX7_fail mX7_67 clX7 (kX7_fail hq9) (by decide) rfl rfl (Nat.le_of_ble_eq_true rfl) dX7_takeNumber_37 ?_
        refine x_pop (pc := 40) o dX7_takeNumber_40 rfl ?_
        refine x_iconst (pc := 41) o dX7_takeNumber_41 ic_m1 ?_
        exact x_ireturn (pc := 42) o hr dX7_takeNumber_42 (xr1 h) (xr2 h)
  · have h := xif h c13
    refine x_aload_n (pc := 8) o dX7_takeNumber_8 rfl rfl ?_
    obtain ⟨q12, hq12, h⟩ := xbs h
    refine x_callI (pc := 9) (As := []) (b := k0) (rest := []) o (tX7_failHere _ M _ k0 S q12 hq12) eX7_failHere mX7_107 clX7 (kX7_failHere hq12) (by decide) rfl rfl (Nat.le_of_ble_eq_true rfl) dX7_takeNumber_9 ?_
    refine x_pop (pc := 12) o dX7_takeNumber_12 rfl ?_
    refine x_iconst (pc := 13) o dX7_takeNumber_13 ic_m1 ?_
    exact x_ireturn (pc := 14) o hr dX7_takeNumber_14 (xr1 h) (xr2 h)
def fJ7_fill_53178_L5b (n : Nat) (k0 : Nat) (a1 : Int32) (a3 : Int32) (rec : Int32 → xSt → Option (xSt)) (a2 : Int32) (S : xSt) : Option (xSt) :=
  if a3 ≤ a2 then
  (some S)
else
  ((xas tC k0 a2 a1 S).bind fun S2 =>
  (some (a2 + (1 : Int32))).bind fun v3 =>
  rec v3 S2)
def fJ7_fill_53178_L5 (n : Nat) (k0 : Nat) (a1 : Int32) (a3 : Int32) : Nat → Int32 → xSt → Option (xSt)
  | 0 => fun _ _ => none
  | q + 1 => fJ7_fill_53178_L5b n k0 a1 a3 (fJ7_fill_53178_L5 n k0 a1 a3 q)
set_option maxHeartbeats 4000000 in
theorem tJ7_fill_53178_L5b {Γ : xGm} {M : xMg} (o : xOk Γ tC M 1 cJ7_fill_53178 RJ7) (hnL : Γ.2.2.2 = 4) {rec : Int32 → xSt → Option (xSt)} (n : Nat) (k0 : Nat) (a1 : Int32) (a3 : Int32) (a2 : Int32) (S : xSt) (z : (xSt)) (hrec : ∀ (a2 : Int32) (S : xSt), rec a2 S = some z → xAt Γ tC M 5 (xlv [(0, .ref (M.2.1 k0)), (1, .int a1), (2, .int a2), (3, .int a3)]) [] S) (K : xAt Γ tC M 20 (xlv []) [] z) (h : fJ7_fill_53178_L5b n k0 a1 a3 rec a2 S = some z) : xAt Γ tC M 5 (xlv [(0, .ref (M.2.1 k0)), (1, .int a1), (2, .int a2), (3, .int a3)]) [] S := by
  have hn2 : 2 < Γ.2.2.2 := by omega
  unfold fJ7_fill_53178_L5b at h
  refine x_iload_n (pc := 5) o dJ7_fill_53178_5 rfl rfl ?_
  refine x_iload_n (pc := 6) o dJ7_fill_53178_6 rfl rfl ?_
  refine x_icmp_ge (pc := 7) (tgt := 20) o dJ7_fill_53178_7 (by decide) (fun c4 => ?_) (fun c4 => ?_)
  · have h := xit h c4
    refine x_to (l := []) trivial ?_
    cases Option.some.inj h
    exact K
  · have h := xif h c4
    refine x_aload_n (pc := 10) o dJ7_fill_53178_10 rfl rfl ?_
    refine x_iload_n (pc := 11) o dJ7_fill_53178_11 rfl rfl ?_
    refine x_iload_n (pc := 12) o dJ7_fill_53178_12 rfl rfl ?_
    obtain ⟨S2, hS2, h⟩ := xbs h
    refine x_iastore (pc := 13) o dJ7_fill_53178_13 hS2 ?_
    obtain ⟨v3, hv3, h⟩ := xbs h
    refine x_iincE (pc := 14) o dJ7_fill_53178_14 rfl ic_1 hn2 hv3 ?_
    refine x_goto (pc := 17) (tgt := 5) o dJ7_fill_53178_17 (by decide) ?_
    refine x_to (l := [(0, .ref (M.2.1 k0)), (1, .int a1), (2, .int v3), (3, .int a3)]) ⟨rfl, rfl, rfl, rfl, trivial⟩ ?_
    exact hrec v3 S2 h
theorem tJ7_fill_53178_L5 {Γ : xGm} {M : xMg} (o : xOk Γ tC M 1 cJ7_fill_53178 RJ7) (hnL : Γ.2.2.2 = 4) (n : Nat) (k0 : Nat) (a1 : Int32) (a3 : Int32) (z : (xSt)) (K : xAt Γ tC M 20 (xlv []) [] z) : ∀ (q : Nat) (a2 : Int32) (S : xSt), fJ7_fill_53178_L5 n k0 a1 a3 q a2 S = some z → xAt Γ tC M 5 (xlv [(0, .ref (M.2.1 k0)), (1, .int a1), (2, .int a2), (3, .int a3)]) [] S := by
  intro q
  induction q with
  | zero => intro a2 S h; cases h
  | succ q ih => intro a2 S h; exact tJ7_fill_53178_L5b o hnL n k0 a1 a3 a2 S z ih K h
def fJ7_fill_53178 (n : Nat) (k0 : Nat) (a1 : Int32) (S : xSt) : Option (xSt) :=
  (xlen tC k0).bind fun v1 =>
  (fJ7_fill_53178_L5 n k0 a1 v1 n ((0 : Int32)) S).bind fun z5 => some z5
set_option maxHeartbeats 4000000 in
theorem tJ7_fill_53178 (l : Launch) (M : xMg) (A : Nat → Prop) (n : Nat) (k0 : Nat) (a1 : Int32) (S : xSt) (z : xSt) (h : fJ7_fill_53178 n k0 a1 S = some z) : xMV l yJ7_fill_53178 cJ7_fill_53178 4 none 1 tC M A [.ref (M.2.1 k0), .int a1] S z := by
  refine x_metV (by decide +kernel) tC_ok (Nat.le_of_ble_eq_true rfl) (fun Γ hA hnL hl hr o => ?_)
  subst hA; subst hl
  have o : xOk Γ tC M 1 cJ7_fill_53178 RJ7 := o
  unfold fJ7_fill_53178 at h
  refine x_to (l := [(0, .ref (M.2.1 k0)), (1, .int a1)]) ⟨rfl, rfl, trivial⟩ ?_
  have hn2 : 2 < Γ.2.2.2 := by omega
  have hn3 : 3 < Γ.2.2.2 := by omega
  refine x_iconst (pc := 0) o dJ7_fill_53178_0 ic_0 ?_
  refine x_istore_n (pc := 1) o dJ7_fill_53178_1 rfl hn2 ?_
  refine x_aload_n (pc := 2) o dJ7_fill_53178_2 rfl rfl ?_
  obtain ⟨v1, hv1, h⟩ := xbs h
  refine x_arraylength (pc := 3) o dJ7_fill_53178_3 hv1 ?_
  refine x_istore_n (pc := 4) o dJ7_fill_53178_4 rfl hn3 ?_
  obtain ⟨z5, hz5, h⟩ := xbs h
  refine x_to (l := [(0, .ref (M.2.1 k0)), (1, .int a1), (2, .int ((0 : Int32))), (3, .int v1)]) ⟨rfl, rfl, rfl, rfl, trivial⟩ ?_
  refine tJ7_fill_53178_L5 o hnL n k0 a1 v1 z5 ?_ n ((0 : Int32)) S hz5
  exact x_vreturn (pc := 20) o hr dJ7_fill_53178_20 (Option.some.inj h)
