def fX8_start (n : Nat) (k0 : Nat) (k1 : Nat) (S : xSt) : Option (xSt) :=
  if tC.1 k0 = 8 then
  ((xpI tC 8 0 k0 ((0 : Int32)) S).bind fun S1 =>
  (xpI tC 8 1 k0 ((0 : Int32)) S1).bind fun S2 =>
  (xpI tC 8 2 k0 ((0 : Int32)) S2).bind fun S3 =>
  (xpI tC 8 3 k0 ((0 : Int32)) S3).bind fun S4 =>
  (xpI tC 8 4 k0 ((0 : Int32)) S4).bind fun S5 =>
  (xgF tC 9 5 k1 S5).bind fun r6 =>
  (xgF tC 8 5 k0 S5).bind fun r7 =>
  (xcp tC r6 ((0 : Int32)) r7 ((0 : Int32)) ((8 : Int32)) S5).bind fun S8 =>
  (xgF tC 9 6 k1 S8).bind fun r9 =>
  (xgF tC 8 6 k0 S8).bind fun r10 =>
  (xcp tC r9 ((0 : Int32)) r10 ((0 : Int32)) ((48 : Int32)) S8).bind fun S11 =>
  (xgF tC 8 7 k0 S11).bind fun r12 =>
  (fJ7_fill_53178 n r12 ((0 : Int32)) S11).bind fun S13 =>
  (xgF tC 9 7 k1 S13).bind fun r14 =>
  (xgF tC 8 8 k0 S13).bind fun r15 =>
  (xcp tC r14 ((0 : Int32)) r15 ((0 : Int32)) ((6 : Int32)) S13).bind fun S16 =>
  some S16)
  else none
theorem kX8_start {z : xSt} {n : Nat} {k0 : Nat} {k1 : Nat} {S : xSt} (h : fX8_start n k0 k1 S = some z) : tC.1 k0 = 8 := by
  unfold fX8_start at h
  exact (xck h).1
set_option maxHeartbeats 4000000 in
theorem tX8_start (l : Launch) (M : xMg) (A : Nat → Prop) (n : Nat) (k0 : Nat) (k1 : Nat) (S : xSt) (z : xSt) (h : fX8_start n k0 k1 S = some z) : xMV l yX8_start cX8_start 2 none 2 tC M A [.ref (M.2.1 k0), .ref (M.2.1 k1)] S z := by
  refine x_metV (plainFor_of_name (by decide)) tC_ok (Nat.le_of_ble_eq_true rfl) (fun Γ hA hnL hl hr o => ?_)
  subst hA; subst hl
  have o : xOk Γ tC M 2 cX8_start RX8 := o
  unfold fX8_start at h
  obtain ⟨hk0, h⟩ := xck h
  refine x_to (l := [(0, .ref (M.2.1 k0)), (1, .ref (M.2.1 k1))]) ⟨rfl, rfl, trivial⟩ ?_
  refine x_aload_n (pc := 0) o dX8_start_0 rfl rfl ?_
  refine x_iconst (pc := 1) o dX8_start_1 ic_0 ?_
  obtain ⟨S1, hS1, h⟩ := xbs h
  refine pX8_24 (pc := 2) o dX8_start_2 hS1 ?_
  refine x_aload_n (pc := 5) o dX8_start_5 rfl rfl ?_
  refine x_iconst (pc := 6) o dX8_start_6 ic_0 ?_
  obtain ⟨S2, hS2, h⟩ := xbs h
  refine pX8_28 (pc := 7) o dX8_start_7 hS2 ?_
  refine x_aload_n (pc := 10) o dX8_start_10 rfl rfl ?_
  refine x_iconst (pc := 11) o dX8_start_11 ic_0 ?_
  obtain ⟨S3, hS3, h⟩ := xbs h
  refine pX8_31 (pc := 12) o dX8_start_12 hS3 ?_
  refine x_aload_n (pc := 15) o dX8_start_15 rfl rfl ?_
  refine x_iconst (pc := 16) o dX8_start_16 ic_0 ?_
  obtain ⟨S4, hS4, h⟩ := xbs h
  refine pX8_34 (pc := 17) o dX8_start_17 hS4 ?_
  refine x_aload_n (pc := 20) o dX8_start_20 rfl rfl ?_
  refine x_iconst (pc := 21) o dX8_start_21 ic_0 ?_
  obtain ⟨S5, hS5, h⟩ := xbs h
  refine pX8_37 (pc := 22) o dX8_start_22 hS5 ?_
  refine x_aload_n (pc := 25) o dX8_start_25 rfl rfl ?_
  obtain ⟨r6, hr6, h⟩ := xbs h
  refine gX8_46 (pc := 26) o dX8_start_26 hr6 ?_
  refine x_iconst (pc := 29) o dX8_start_29 ic_0 ?_
  refine x_aload_n (pc := 30) o dX8_start_30 rfl rfl ?_
  obtain ⟨r7, hr7, h⟩ := xbs h
  refine gX8_9 (pc := 31) o dX8_start_31 hr7 ?_
  refine x_iconst (pc := 34) o dX8_start_34 ic_0 ?_
  refine x_bipush (pc := 35) o dX8_start_35 bp_8 ?_
  obtain ⟨S8, hS8, h⟩ := xbs h
  refine x_copy (pc := 37) o mX8_40 w_cp1 w_cp2 w_cp3 (by decide) (by decide) dX8_start_37 hS8 ?_
  refine x_aload_n (pc := 40) o dX8_start_40 rfl rfl ?_
  obtain ⟨r9, hr9, h⟩ := xbs h
  refine gX8_51 (pc := 41) o dX8_start_41 hr9 ?_
  refine x_iconst (pc := 44) o dX8_start_44 ic_0 ?_
  refine x_aload_n (pc := 45) o dX8_start_45 rfl rfl ?_
  obtain ⟨r10, hr10, h⟩ := xbs h
  refine gX8_15 (pc := 46) o dX8_start_46 hr10 ?_
  refine x_iconst (pc := 49) o dX8_start_49 ic_0 ?_
  refine x_bipush (pc := 50) o dX8_start_50 bp_48 ?_
  obtain ⟨S11, hS11, h⟩ := xbs h
  refine x_copy (pc := 52) o mX8_40 w_cp1 w_cp2 w_cp3 (by decide) (by decide) dX8_start_52 hS11 ?_
  refine x_aload_n (pc := 55) o dX8_start_55 rfl rfl ?_
  obtain ⟨r12, hr12, h⟩ := xbs h
  refine gX8_18 (pc := 56) o dX8_start_56 hr12 ?_
  refine x_iconst (pc := 59) o dX8_start_59 ic_0 ?_
  obtain ⟨S13, hS13, h⟩ := xbs h
  refine x_statV (pc := 60) (As := [.ref (M.2.1 r12), .int ((0 : Int32))]) (rest := []) o (tJ7_fill_53178 _ M _ n r12 ((0 : Int32)) S11 S13 hS13) eJ7_fill_53178 mX8_52 (by decide) rfl rfl (Nat.le_of_ble_eq_true rfl) dX8_start_60 ?_
  refine x_aload_n (pc := 63) o dX8_start_63 rfl rfl ?_
  obtain ⟨r14, hr14, h⟩ := xbs h
  refine gX8_58 (pc := 64) o dX8_start_64 hr14 ?_
  refine x_iconst (pc := 67) o dX8_start_67 ic_0 ?_
  refine x_aload_n (pc := 68) o dX8_start_68 rfl rfl ?_
  obtain ⟨r15, hr15, h⟩ := xbs h
  refine gX8_21 (pc := 69) o dX8_start_69 hr15 ?_
  refine x_iconst (pc := 72) o dX8_start_72 ic_0 ?_
  refine x_bipush (pc := 73) o dX8_start_73 bp_6 ?_
  obtain ⟨S16, hS16, h⟩ := xbs h
  refine x_copy (pc := 75) o mX8_40 w_cp1 w_cp2 w_cp3 (by decide) (by decide) dX8_start_75 hS16 ?_
  exact x_vreturn (pc := 78) o hr dX8_start_78 (Option.some.inj h)
def fX8_swapHands_L23b (n : Nat) (k0 : Nat) (a1 : Int32) (a2 : Int32) (rec : Int32 → xSt → Option (xSt)) (a3 : Int32) (S : xSt) : Option (xSt) :=
  if ((8 : Int32)) ≤ a3 then
  (some S)
else
  ((xgF tC 8 6 k0 S).bind fun r1 =>
  (xal tC r1 ((a1 * ((8 : Int32))) + a3) S).bind fun v2 =>
  (xgF tC 8 6 k0 S).bind fun r3 =>
  (xgF tC 8 6 k0 S).bind fun r4 =>
  (xal tC r4 ((a2 * ((8 : Int32))) + a3) S).bind fun v5 =>
  (xas tC r3 ((a1 * ((8 : Int32))) + a3) v5 S).bind fun S6 =>
  (xgF tC 8 6 k0 S6).bind fun r7 =>
  (xas tC r7 ((a2 * ((8 : Int32))) + a3) v2 S6).bind fun S8 =>
  (some (a3 + (1 : Int32))).bind fun v9 =>
  rec v9 S8)
def fX8_swapHands_L23 (n : Nat) (k0 : Nat) (a1 : Int32) (a2 : Int32) : Nat → Int32 → xSt → Option (xSt)
  | 0 => fun _ _ => none
  | q + 1 => fX8_swapHands_L23b n k0 a1 a2 (fX8_swapHands_L23 n k0 a1 a2 q)
set_option maxHeartbeats 4000000 in
theorem tX8_swapHands_L23b {Γ : xGm} {M : xMg} (o : xOk Γ tC M 1 cX8_swapHands RX8) (hnL : Γ.2.2.2 = 5) {rec : Int32 → xSt → Option (xSt)} (n : Nat) (k0 : Nat) (a1 : Int32) (a2 : Int32) (a3 : Int32) (S : xSt) (z : (xSt)) (hrec : ∀ (a3 : Int32) (S : xSt), rec a3 S = some z → xAt Γ tC M 23 (xlv [(0, .ref (M.2.1 k0)), (1, .int a1), (2, .int a2), (3, .int a3)]) [] S) (K : xAt Γ tC M 83 (xlv []) [] z) (h : fX8_swapHands_L23b n k0 a1 a2 rec a3 S = some z) : xAt Γ tC M 23 (xlv [(0, .ref (M.2.1 k0)), (1, .int a1), (2, .int a2), (3, .int a3)]) [] S := by
  have hn3 : 3 < Γ.2.2.2 := by omega
  have hn4 : 4 < Γ.2.2.2 := by omega
  unfold fX8_swapHands_L23b at h
  refine x_iload_n (pc := 23) o dX8_swapHands_23 rfl rfl ?_
  refine x_bipush (pc := 24) o dX8_swapHands_24 bp_8 ?_
  refine x_icmp_ge (pc := 26) (tgt := 83) o dX8_swapHands_26 (by decide) (fun c10 => ?_) (fun c10 => ?_)
  · have h := xit h c10
    refine x_to (l := []) trivial ?_
    cases Option.some.inj h
    exact K
  · have h := xif h c10
    refine x_aload_n (pc := 29) o dX8_swapHands_29 rfl rfl ?_
    obtain ⟨r1, hr1, h⟩ := xbs h
    refine gX8_15 (pc := 30) o dX8_swapHands_30 hr1 ?_
    refine x_iload_n (pc := 33) o dX8_swapHands_33 rfl rfl ?_
    refine x_bipush (pc := 34) o dX8_swapHands_34 bp_8 ?_
    refine x_imul (pc := 36) o dX8_swapHands_36 ?_
    refine x_iload_n (pc := 37) o dX8_swapHands_37 rfl rfl ?_
    refine x_iadd (pc := 38) o dX8_swapHands_38 ?_
    obtain ⟨v2, hv2, h⟩ := xbs h
    refine x_iaload (pc := 39) o dX8_swapHands_39 hv2 ?_
    refine x_istore (pc := 40) o dX8_swapHands_40 hn4 ?_
    refine x_aload_n (pc := 42) o dX8_swapHands_42 rfl rfl ?_
    obtain ⟨r3, hr3, h⟩ := xbs h
    refine gX8_15 (pc := 43) o dX8_swapHands_43 hr3 ?_
    refine x_iload_n (pc := 46) o dX8_swapHands_46 rfl rfl ?_
    refine x_bipush (pc := 47) o dX8_swapHands_47 bp_8 ?_
    refine x_imul (pc := 49) o dX8_swapHands_49 ?_
    refine x_iload_n (pc := 50) o dX8_swapHands_50 rfl rfl ?_
    refine x_iadd (pc := 51) o dX8_swapHands_51 ?_
    refine x_aload_n (pc := 52) o dX8_swapHands_52 rfl rfl ?_
    obtain ⟨r4, hr4, h⟩ := xbs h
    refine gX8_15 (pc := 53) o dX8_swapHands_53 hr4 ?_
    refine x_iload_n (pc := 56) o dX8_swapHands_56 rfl rfl ?_
    refine x_bipush (pc := 57) o dX8_swapHands_57 bp_8 ?_
    refine x_imul (pc := 59) o dX8_swapHands_59 ?_
    refine x_iload_n (pc := 60) o dX8_swapHands_60 rfl rfl ?_
    refine x_iadd (pc := 61) o dX8_swapHands_61 ?_
    obtain ⟨v5, hv5, h⟩ := xbs h
    refine x_iaload (pc := 62) o dX8_swapHands_62 hv5 ?_
    obtain ⟨S6, hS6, h⟩ := xbs h
    refine x_iastore (pc := 63) o dX8_swapHands_63 hS6 ?_
    refine x_aload_n (pc := 64) o dX8_swapHands_64 rfl rfl ?_
    obtain ⟨r7, hr7, h⟩ := xbs h
    refine gX8_15 (pc := 65) o dX8_swapHands_65 hr7 ?_
    refine x_iload_n (pc := 68) o dX8_swapHands_68 rfl rfl ?_
    refine x_bipush (pc := 69) o dX8_swapHands_69 bp_8 ?_
    refine x_imul (pc := 71) o dX8_swapHands_71 ?_
    refine x_iload_n (pc := 72) o dX8_swapHands_72 rfl rfl ?_
    refine x_iadd (pc := 73) o dX8_swapHands_73 ?_
    refine x_iload (pc := 74) o dX8_swapHands_74 rfl ?_
    obtain ⟨S8, hS8, h⟩ := xbs h
    refine x_iastore (pc := 76) o dX8_swapHands_76 hS8 ?_
    obtain ⟨v9, hv9, h⟩ := xbs h
    refine x_iincE (pc := 77) o dX8_swapHands_77 rfl ic_1 hn3 hv9 ?_
    refine x_goto (pc := 80) (tgt := 23) o dX8_swapHands_80 (by decide) ?_
    refine x_to (l := [(0, .ref (M.2.1 k0)), (1, .int a1), (2, .int a2), (3, .int v9)]) ⟨rfl, rfl, rfl, rfl, trivial⟩ ?_
    exact hrec v9 S8 h
theorem tX8_swapHands_L23 {Γ : xGm} {M : xMg} (o : xOk Γ tC M 1 cX8_swapHands RX8) (hnL : Γ.2.2.2 = 5) (n : Nat) (k0 : Nat) (a1 : Int32) (a2 : Int32) (z : (xSt)) (K : xAt Γ tC M 83 (xlv []) [] z) : ∀ (q : Nat) (a3 : Int32) (S : xSt), fX8_swapHands_L23 n k0 a1 a2 q a3 S = some z → xAt Γ tC M 23 (xlv [(0, .ref (M.2.1 k0)), (1, .int a1), (2, .int a2), (3, .int a3)]) [] S := by
  intro q
  induction q with
  | zero => intro a3 S h; cases h
  | succ q ih => intro a3 S h; exact tX8_swapHands_L23b o hnL n k0 a1 a2 a3 S z ih K h
def fX8_swapHands (n : Nat) (k0 : Nat) (a1 : Int32) (a2 : Int32) (S : xSt) : Option (xSt) :=
  if tC.1 k0 = 8 then
  (if a1 < 0 then
  (some S)
else
  (if ((6 : Int32)) ≤ a1 then
  (some S)
else
  (if a2 < 0 then
  (some S)
else
  (if a2 < ((6 : Int32)) then
  ((fX8_swapHands_L23 n k0 a1 a2 n ((0 : Int32)) S).bind fun z11 => some z11)
else
  (some S)))))
  else none
theorem kX8_swapHands {z : xSt} {n : Nat} {k0 : Nat} {a1 : Int32} {a2 : Int32} {S : xSt} (h : fX8_swapHands n k0 a1 a2 S = some z) : tC.1 k0 = 8 := by
  unfold fX8_swapHands at h
  exact (xck h).1
set_option maxHeartbeats 4000000 in
theorem tX8_swapHands (l : Launch) (M : xMg) (A : Nat → Prop) (n : Nat) (k0 : Nat) (a1 : Int32) (a2 : Int32) (S : xSt) (z : xSt) (h : fX8_swapHands n k0 a1 a2 S = some z) : xMV l yX8_swapHands cX8_swapHands 5 none 1 tC M A [.ref (M.2.1 k0), .int a1, .int a2] S z := by
  refine x_metV (plainFor_of_name (by decide)) tC_ok (Nat.le_of_ble_eq_true rfl) (fun Γ hA hnL hl hr o => ?_)
  subst hA; subst hl
  have o : xOk Γ tC M 1 cX8_swapHands RX8 := o
  unfold fX8_swapHands at h
  obtain ⟨hk0, h⟩ := xck h
  refine x_to (l := [(0, .ref (M.2.1 k0)), (1, .int a1), (2, .int a2)]) ⟨rfl, rfl, rfl, trivial⟩ ?_
  have hn3 : 3 < Γ.2.2.2 := by omega
  refine x_iload_n (pc := 0) o dX8_swapHands_0 rfl rfl ?_
  refine x_if_lt (pc := 1) (tgt := 20) o dX8_swapHands_1 (by decide) (fun c15 => ?_) (fun c15 => ?_)
  · have h := xit h c15
    exact x_vreturn (pc := 20) o hr dX8_swapHands_20 (Option.some.inj h)
  · have h := xif h c15
    refine x_iload_n (pc := 4) o dX8_swapHands_4 rfl rfl ?_
    refine x_bipush (pc := 5) o dX8_swapHands_5 bp_6 ?_
    refine x_icmp_ge (pc := 7) (tgt := 20) o dX8_swapHands_7 (by decide) (fun c14 => ?_) (fun c14 => ?_)
    · have h := xit h c14
      exact x_vreturn (pc := 20) o hr dX8_swapHands_20 (Option.some.inj h)
    · have h := xif h c14
      refine x_iload_n (pc := 10) o dX8_swapHands_10 rfl rfl ?_
      refine x_if_lt (pc := 11) (tgt := 20) o dX8_swapHands_11 (by decide) (fun c13 => ?_) (fun c13 => ?_)
      · have h := xit h c13
        exact x_vreturn (pc := 20) o hr dX8_swapHands_20 (Option.some.inj h)
      · have h := xif h c13
        refine x_iload_n (pc := 14) o dX8_swapHands_14 rfl rfl ?_
        refine x_bipush (pc := 15) o dX8_swapHands_15 bp_6 ?_
        refine x_icmp_lt (pc := 17) (tgt := 21) o dX8_swapHands_17 (by decide) (fun c12 => ?_) (fun c12 => ?_)
        · have h := xit h c12
          refine x_iconst (pc := 21) o dX8_swapHands_21 ic_0 ?_
          refine x_istore_n (pc := 22) o dX8_swapHands_22 rfl hn3 ?_
          obtain ⟨z11, hz11, h⟩ := xbs h
          refine x_to (l := [(0, .ref (M.2.1 k0)), (1, .int a1), (2, .int a2), (3, .int ((0 : Int32)))]) ⟨rfl, rfl, rfl, rfl, trivial⟩ ?_
          refine tX8_swapHands_L23 o hnL n k0 a1 a2 z11 ?_ n ((0 : Int32)) S hz11
          exact x_vreturn (pc := 83) o hr dX8_swapHands_83 (Option.some.inj h)
        · have h := xif h c12
          exact x_vreturn (pc := 20) o hr dX8_swapHands_20 (Option.some.inj h)
def fX9_clear (n : Nat) (k0 : Nat) (S : xSt) : Option (xSt) :=
  if tC.1 k0 = 9 then
  ((xgF tC 9 1 k0 S).bind fun r1 =>
  (fJ7_fill_53178 n r1 ((0 : Int32)) S).bind fun S2 =>
  (xgF tC 9 6 k0 S2).bind fun r3 =>
  (fJ7_fill_53178 n r3 ((0 : Int32)) S2).bind fun S4 =>
  (xgF tC 9 11 k0 S4).bind fun r5 =>
  (fJ7_fill_53178 n r5 ((0 : Int32)) S4).bind fun S6 =>
  (xgF tC 9 13 k0 S6).bind fun r7 =>
  (fX1_clear r7 S6).bind fun S8 =>
  (xpI tC 9 14 k0 ((100 : Int32)) S8).bind fun S9 =>
  (xpI tC 9 15 k0 ((0 : Int32)) S9).bind fun S10 =>
  (xpI tC 9 16 k0 ((9 : Int32)) S10).bind fun S11 =>
  (xpI tC 9 17 k0 ((5 : Int32)) S11).bind fun S12 =>
  (xpI tC 9 18 k0 ((0 : Int32)) S12).bind fun S13 =>
  some S13)
  else none
theorem kX9_clear {z : xSt} {n : Nat} {k0 : Nat} {S : xSt} (h : fX9_clear n k0 S = some z) : tC.1 k0 = 9 := by
  unfold fX9_clear at h
  exact (xck h).1
set_option maxHeartbeats 4000000 in
theorem tX9_clear (l : Launch) (M : xMg) (A : Nat → Prop) (n : Nat) (k0 : Nat) (S : xSt) (z : xSt) (h : fX9_clear n k0 S = some z) : xMV l yX9_clear cX9_clear 1 none 2 tC M A [.ref (M.2.1 k0)] S z := by
  refine x_metV (plainFor_of_name (by decide)) tC_ok (Nat.le_of_ble_eq_true rfl) (fun Γ hA hnL hl hr o => ?_)
  subst hA; subst hl
  have o : xOk Γ tC M 2 cX9_clear RX9 := o
  unfold fX9_clear at h
  obtain ⟨hk0, h⟩ := xck h
  refine x_to (l := [(0, .ref (M.2.1 k0))]) ⟨rfl, trivial⟩ ?_
  refine x_aload_n (pc := 0) o dX9_clear_0 rfl rfl ?_
  obtain ⟨r1, hr1, h⟩ := xbs h
  refine gX9_15 (pc := 1) o dX9_clear_1 hr1 ?_
  refine x_iconst (pc := 4) o dX9_clear_4 ic_0 ?_
  obtain ⟨S2, hS2, h⟩ := xbs h
  refine x_statV (pc := 5) (As := [.ref (M.2.1 r1), .int ((0 : Int32))]) (rest := []) o (tJ7_fill_53178 _ M _ n r1 ((0 : Int32)) S S2 hS2) eJ7_fill_53178 mX9_74 (by decide) rfl rfl (Nat.le_of_ble_eq_true rfl) dX9_clear_5 ?_
  refine x_aload_n (pc := 8) o dX9_clear_8 rfl rfl ?_
  obtain ⟨r3, hr3, h⟩ := xbs h
  refine gX9_30 (pc := 9) o dX9_clear_9 hr3 ?_
  refine x_iconst (pc := 12) o dX9_clear_12 ic_0 ?_
  obtain ⟨S4, hS4, h⟩ := xbs h
  refine x_statV (pc := 13) (As := [.ref (M.2.1 r3), .int ((0 : Int32))]) (rest := []) o (tJ7_fill_53178 _ M _ n r3 ((0 : Int32)) S2 S4 hS4) eJ7_fill_53178 mX9_74 (by decide) rfl rfl (Nat.le_of_ble_eq_true rfl) dX9_clear_13 ?_
  refine x_aload_n (pc := 16) o dX9_clear_16 rfl rfl ?_
  obtain ⟨r5, hr5, h⟩ := xbs h
  refine gX9_45 (pc := 17) o dX9_clear_17 hr5 ?_
  refine x_iconst (pc := 20) o dX9_clear_20 ic_0 ?_
  obtain ⟨S6, hS6, h⟩ := xbs h
  refine x_statV (pc := 21) (As := [.ref (M.2.1 r5), .int ((0 : Int32))]) (rest := []) o (tJ7_fill_53178 _ M _ n r5 ((0 : Int32)) S4 S6 hS6) eJ7_fill_53178 mX9_74 (by decide) rfl rfl (Nat.le_of_ble_eq_true rfl) dX9_clear_21 ?_
  refine x_aload_n (pc := 24) o dX9_clear_24 rfl rfl ?_
  obtain ⟨r7, hr7, h⟩ := xbs h
  refine gX9_54 (pc := 25) o dX9_clear_25 hr7 ?_
  obtain ⟨S8, hS8, h⟩ := xbs h
  refine x_callV (pc := 28) (As := []) (b := r7) (rest := []) o (tX1_clear _ M _ r7 S6 S8 hS8) eX1_clear mX9_80 clX1 (kX1_clear hS8) (by decide) rfl rfl (Nat.le_of_ble_eq_true rfl) dX9_clear_28 ?_
  refine x_aload_n (pc := 31) o dX9_clear_31 rfl rfl ?_
  refine x_bipush (pc := 32) o dX9_clear_32 bp_100 ?_
  obtain ⟨S9, hS9, h⟩ := xbs h
  refine pX9_58 (pc := 34) o dX9_clear_34 hS9 ?_
  refine x_aload_n (pc := 37) o dX9_clear_37 rfl rfl ?_
  refine x_iconst (pc := 38) o dX9_clear_38 ic_0 ?_
  obtain ⟨S10, hS10, h⟩ := xbs h
  refine pX9_62 (pc := 39) o dX9_clear_39 hS10 ?_
  refine x_aload_n (pc := 42) o dX9_clear_42 rfl rfl ?_
  refine x_bipush (pc := 43) o dX9_clear_43 bp_9 ?_
  obtain ⟨S11, hS11, h⟩ := xbs h
  refine pX9_65 (pc := 45) o dX9_clear_45 hS11 ?_
  refine x_aload_n (pc := 48) o dX9_clear_48 rfl rfl ?_
  refine x_iconst (pc := 49) o dX9_clear_49 ic_5 ?_
  obtain ⟨S12, hS12, h⟩ := xbs h
  refine pX9_68 (pc := 50) o dX9_clear_50 hS12 ?_
  refine x_aload_n (pc := 53) o dX9_clear_53 rfl rfl ?_
  refine x_iconst (pc := 54) o dX9_clear_54 ic_0 ?_
  obtain ⟨S13, hS13, h⟩ := xbs h
  refine pX9_71 (pc := 55) o dX9_clear_55 hS13 ?_
  exact x_vreturn (pc := 58) o hr dX9_clear_58 (Option.some.inj h)
def fX9_isFull (k0 : Nat) (a1 : Int32) (S : xSt) : Option (Int32) :=
  if tC.1 k0 = 9 then
  (if a1 = (0 : Int32) then
  ((fX9_count k0 a1 S).bind fun v3 =>
  if v3 < ((6 : Int32)) then
  (some ((0 : Int32)))
else
  (some ((1 : Int32))))
else if a1 = (1 : Int32) then
  ((fX9_count k0 a1 S).bind fun v6 =>
  if v6 < ((8 : Int32)) then
  (some ((0 : Int32)))
else
  (some ((1 : Int32))))
else if a1 = (2 : Int32) then
  ((fX9_count k0 a1 S).bind fun v9 =>
  if v9 < ((6 : Int32)) then
  (some ((0 : Int32)))
else
  (some ((1 : Int32))))
else 
  ((fX9_count k0 a1 S).bind fun v1 =>
  if v1 < ((6 : Int32)) then
  (some ((0 : Int32)))
else
  (some ((1 : Int32)))))
  else none
theorem kX9_isFull {z : Int32} {k0 : Nat} {a1 : Int32} {S : xSt} (h : fX9_isFull k0 a1 S = some z) : tC.1 k0 = 9 := by
  unfold fX9_isFull at h
  exact (xck h).1
set_option maxHeartbeats 4000000 in
theorem tX9_isFull (l : Launch) (M : xMg) (A : Nat → Prop) (k0 : Nat) (a1 : Int32) (S : xSt) (z : Int32) (h : fX9_isFull k0 a1 S = some z) : xMI l yX9_isFull cX9_isFull 2 (some .boolean) 2 tC M A [.ref (M.2.1 k0), .int a1] S z S := by
  refine x_metI (plainFor_of_name (by decide)) tC_ok (Nat.le_of_ble_eq_true rfl) (fun Γ hA hnL hl hr o => ?_)
  subst hA; subst hl
  have o : xOk Γ tC M 2 cX9_isFull RX9 := o
  unfold fX9_isFull at h
  obtain ⟨hk0, h⟩ := xck h
  refine x_to (l := [(0, .ref (M.2.1 k0)), (1, .int a1)]) ⟨rfl, rfl, trivial⟩ ?_
  refine x_iload_n (pc := 0) o dX9_isFull_0 rfl rfl ?_
  by_cases c5 : a1 = (0 : Int32)
  · have h := xit h c5
    refine x_tableIn (pc := 1) (tgt := 28) o dX9_isFull_1 (by rw [c5]; decide) (by rw [c5]; decide) (by rw [c5]; rfl) (by decide) ?_
    refine x_aload_n (pc := 28) o dX9_isFull_28 rfl rfl ?_
    refine x_iload_n (pc := 29) o dX9_isFull_29 rfl rfl ?_
    obtain ⟨v3, hv3, h⟩ := xbs h
    refine x_callI (pc := 30) (As := [.int a1]) (b := k0) (rest := []) o (tX9_count _ M _ k0 a1 S v3 hv3) eX9_count mX9_83 clX9 (kX9_count hv3) (by decide) rfl rfl (Nat.le_of_ble_eq_true rfl) dX9_isFull_30 ?_
    refine x_bipush (pc := 33) o dX9_isFull_33 bp_6 ?_
    refine x_icmp_lt (pc := 35) (tgt := 42) o dX9_isFull_35 (by decide) (fun c4 => ?_) (fun c4 => ?_)
    · have h := xit h c4
      refine x_iconst (pc := 42) o dX9_isFull_42 ic_0 ?_
      exact x_zreturn (pc := 43) o hr dX9_isFull_43 (by decide) (Option.some.inj h) rfl
    · have h := xif h c4
      refine x_iconst (pc := 38) o dX9_isFull_38 ic_1 ?_
      refine x_goto (pc := 39) (tgt := 43) o dX9_isFull_39 (by decide) ?_
      exact x_zreturn (pc := 43) o hr dX9_isFull_43 (by decide) (Option.some.inj h) rfl
  have h := xif h c5
  by_cases c8 : a1 = (1 : Int32)
  · have h := xit h c8
    refine x_tableIn (pc := 1) (tgt := 44) o dX9_isFull_1 (by rw [c8]; decide) (by rw [c8]; decide) (by rw [c8]; rfl) (by decide) ?_
    refine x_aload_n (pc := 44) o dX9_isFull_44 rfl rfl ?_
    refine x_iload_n (pc := 45) o dX9_isFull_45 rfl rfl ?_
    obtain ⟨v6, hv6, h⟩ := xbs h
    refine x_callI (pc := 46) (As := [.int a1]) (b := k0) (rest := []) o (tX9_count _ M _ k0 a1 S v6 hv6) eX9_count mX9_83 clX9 (kX9_count hv6) (by decide) rfl rfl (Nat.le_of_ble_eq_true rfl) dX9_isFull_46 ?_
    refine x_bipush (pc := 49) o dX9_isFull_49 bp_8 ?_
    refine x_icmp_lt (pc := 51) (tgt := 58) o dX9_isFull_51 (by decide) (fun c7 => ?_) (fun c7 => ?_)
    · have h := xit h c7
      refine x_iconst (pc := 58) o dX9_isFull_58 ic_0 ?_
      exact x_zreturn (pc := 59) o hr dX9_isFull_59 (by decide) (Option.some.inj h) rfl
    · have h := xif h c7
      refine x_iconst (pc := 54) o dX9_isFull_54 ic_1 ?_
      refine x_goto (pc := 55) (tgt := 59) o dX9_isFull_55 (by decide) ?_
      exact x_zreturn (pc := 59) o hr dX9_isFull_59 (by decide) (Option.some.inj h) rfl
  have h := xif h c8
  by_cases c11 : a1 = (2 : Int32)
  · have h := xit h c11
    refine x_tableIn (pc := 1) (tgt := 60) o dX9_isFull_1 (by rw [c11]; decide) (by rw [c11]; decide) (by rw [c11]; rfl) (by decide) ?_
    refine x_aload_n (pc := 60) o dX9_isFull_60 rfl rfl ?_
    refine x_iload_n (pc := 61) o dX9_isFull_61 rfl rfl ?_
    obtain ⟨v9, hv9, h⟩ := xbs h
    refine x_callI (pc := 62) (As := [.int a1]) (b := k0) (rest := []) o (tX9_count _ M _ k0 a1 S v9 hv9) eX9_count mX9_83 clX9 (kX9_count hv9) (by decide) rfl rfl (Nat.le_of_ble_eq_true rfl) dX9_isFull_62 ?_
    refine x_bipush (pc := 65) o dX9_isFull_65 bp_6 ?_
    refine x_icmp_lt (pc := 67) (tgt := 74) o dX9_isFull_67 (by decide) (fun c10 => ?_) (fun c10 => ?_)
    · have h := xit h c10
      refine x_iconst (pc := 74) o dX9_isFull_74 ic_0 ?_
      exact x_zreturn (pc := 75) o hr dX9_isFull_75 (by decide) (Option.some.inj h) rfl
    · have h := xif h c10
      refine x_iconst (pc := 70) o dX9_isFull_70 ic_1 ?_
      refine x_goto (pc := 71) (tgt := 75) o dX9_isFull_71 (by decide) ?_
      exact x_zreturn (pc := 75) o hr dX9_isFull_75 (by decide) (Option.some.inj h) rfl
  have h := xif h c11
  refine x_tableOut (pc := 1) (tgt := 76) o dX9_isFull_1 (by have := lv_neT c5 (a := 0) (by decide); have := lv_neT c8 (a := 1) (by decide); have := lv_neT c11 (a := 2) (by decide); omega) (by decide) ?_
  refine x_aload_n (pc := 76) o dX9_isFull_76 rfl rfl ?_
  refine x_iload_n (pc := 77) o dX9_isFull_77 rfl rfl ?_
  obtain ⟨v1, hv1, h⟩ := xbs h
  refine x_callI (pc := 78) (As := [.int a1]) (b := k0) (rest := []) o (tX9_count _ M _ k0 a1 S v1 hv1) eX9_count mX9_83 clX9 (kX9_count hv1) (by decide) rfl rfl (Nat.le_of_ble_eq_true rfl) dX9_isFull_78 ?_
  refine x_bipush (pc := 81) o dX9_isFull_81 bp_6 ?_
  refine x_icmp_lt (pc := 83) (tgt := 90) o dX9_isFull_83 (by decide) (fun c2 => ?_) (fun c2 => ?_)
  · have h := xit h c2
    refine x_iconst (pc := 90) o dX9_isFull_90 ic_0 ?_
    exact x_zreturn (pc := 91) o hr dX9_isFull_91 (by decide) (Option.some.inj h) rfl
  · have h := xif h c2
    refine x_iconst (pc := 86) o dX9_isFull_86 ic_1 ?_
    refine x_goto (pc := 87) (tgt := 91) o dX9_isFull_87 (by decide) ?_
    exact x_zreturn (pc := 91) o hr dX9_isFull_91 (by decide) (Option.some.inj h) rfl
def fX9_nameOf (k0 : Nat) (a1 : Int32) (a2 : Int32) (S : xSt) : Option (Int32) :=
  if tC.1 k0 = 9 then
  ((fX9_holds k0 a1 a2 S).bind fun v1 =>
  if v1 = 0 then
  (some ((0 : Int32)))
else
  (if ((8 : Int32)) ≤ a2 then
  (some ((0 : Int32)))
else
  ((xgF tC 9 0 k0 S).bind fun r2 =>
  (xal tC r2 ((a1 * ((8 : Int32))) + a2) S).bind fun v3 =>
  some v3)))
  else none
theorem kX9_nameOf {z : Int32} {k0 : Nat} {a1 : Int32} {a2 : Int32} {S : xSt} (h : fX9_nameOf k0 a1 a2 S = some z) : tC.1 k0 = 9 := by
  unfold fX9_nameOf at h
  exact (xck h).1
set_option maxHeartbeats 4000000 in
theorem tX9_nameOf (l : Launch) (M : xMg) (A : Nat → Prop) (k0 : Nat) (a1 : Int32) (a2 : Int32) (S : xSt) (z : Int32) (h : fX9_nameOf k0 a1 a2 S = some z) : xMI l yX9_nameOf cX9_nameOf 3 (some .int) 2 tC M A [.ref (M.2.1 k0), .int a1, .int a2] S z S := by
  refine x_metI (plainFor_of_name (by decide)) tC_ok (Nat.le_of_ble_eq_true rfl) (fun Γ hA hnL hl hr o => ?_)
  subst hA; subst hl
  have o : xOk Γ tC M 2 cX9_nameOf RX9 := o
  unfold fX9_nameOf at h
  obtain ⟨hk0, h⟩ := xck h
  refine x_to (l := [(0, .ref (M.2.1 k0)), (1, .int a1), (2, .int a2)]) ⟨rfl, rfl, rfl, trivial⟩ ?_
  refine x_aload_n (pc := 0) o dX9_nameOf_0 rfl rfl ?_
  refine x_iload_n (pc := 1) o dX9_nameOf_1 rfl rfl ?_
  refine x_iload_n (pc := 2) o dX9_nameOf_2 rfl rfl ?_
  obtain ⟨v1, hv1, h⟩ := xbs h
  refine x_callI (pc := 3) (As := [.int a1, .int a2]) (b := k0) (rest := []) o (tX9_holds _ M _ k0 a1 a2 S v1 hv1) eX9_holds mX9_87 clX9 (kX9_holds hv1) (by decide) rfl rfl (Nat.le_of_ble_eq_true rfl) dX9_nameOf_3 ?_
  refine x_if_eq (pc := 6) (tgt := 29) o dX9_nameOf_6 (by decide) (fun c5 => ?_) (fun c5 => ?_)
  · have h := xit h c5
    refine x_iconst (pc := 29) o dX9_nameOf_29 ic_0 ?_
    exact x_ireturn (pc := 30) o hr dX9_nameOf_30 (Option.some.inj h) rfl
  · have h := xif h c5
    refine x_iload_n (pc := 9) o dX9_nameOf_9 rfl rfl ?_
    refine x_bipush (pc := 10) o dX9_nameOf_10 bp_8 ?_
    refine x_icmp_ge (pc := 12) (tgt := 29) o dX9_nameOf_12 (by decide) (fun c4 => ?_) (fun c4 => ?_)
    · have h := xit h c4
      refine x_iconst (pc := 29) o dX9_nameOf_29 ic_0 ?_
      exact x_ireturn (pc := 30) o hr dX9_nameOf_30 (Option.some.inj h) rfl
    · have h := xif h c4
      refine x_aload_n (pc := 15) o dX9_nameOf_15 rfl rfl ?_
      obtain ⟨r2, hr2, h⟩ := xbs h
      refine gX9_9 (pc := 16) o dX9_nameOf_16 hr2 ?_
      refine x_iload_n (pc := 19) o dX9_nameOf_19 rfl rfl ?_
      refine x_bipush (pc := 20) o dX9_nameOf_20 bp_8 ?_
      refine x_imul (pc := 22) o dX9_nameOf_22 ?_
      refine x_iload_n (pc := 23) o dX9_nameOf_23 rfl rfl ?_
      refine x_iadd (pc := 24) o dX9_nameOf_24 ?_
      obtain ⟨v3, hv3, h⟩ := xbs h
      refine x_iaload (pc := 25) o dX9_nameOf_25 hv3 ?_
      refine x_goto (pc := 26) (tgt := 30) o dX9_nameOf_26 (by decide) ?_
      exact x_ireturn (pc := 30) o hr dX9_nameOf_30 (Option.some.inj h) rfl
def fX9_find_L2b (n : Nat) (k0 : Nat) (a1 : Int32) (a2 : Int32) (S : xSt) (rec : Int32 → Option ((Unit) ⊕ (Int32))) (a3 : Int32) : Option ((Unit) ⊕ (Int32)) :=
  (fX9_count k0 a1 S).bind fun v1 =>
  if v1 ≤ a3 then
  (some (.inl ()))
else
  (if ((8 : Int32)) ≤ a3 then
  (some (.inl ()))
else
  ((xgF tC 9 0 k0 S).bind fun r2 =>
  (xal tC r2 ((a1 * ((8 : Int32))) + a3) S).bind fun v3 =>
  if v3 = a2 then
  (some (.inr a3))
else
  ((some (a3 + (1 : Int32))).bind fun v4 =>
  rec v4)))
def fX9_find_L2 (n : Nat) (k0 : Nat) (a1 : Int32) (a2 : Int32) (S : xSt) : Nat → Int32 → Option ((Unit) ⊕ (Int32))
  | 0 => fun _ => none
  | q + 1 => fX9_find_L2b n k0 a1 a2 S (fX9_find_L2 n k0 a1 a2 S q)
set_option maxHeartbeats 4000000 in
theorem tX9_find_L2b {Γ : xGm} {M : xMg} (o : xOk Γ tC M 2 cX9_find RX9) (hnL : Γ.2.2.2 = 4) {rec : Int32 → Option ((Unit) ⊕ (Int32))} (n : Nat) (k0 : Nat) (a1 : Int32) (a2 : Int32) (S : xSt) (a3 : Int32) (z : ((Unit) ⊕ (Int32))) (hrec : ∀ (a3 : Int32), rec a3 = some z → xAt Γ tC M 2 (xlv [(0, .ref (M.2.1 k0)), (1, .int a1), (2, .int a2), (3, .int a3)]) [] S) (K : ∀ e, z = .inl e → xAt Γ tC M 40 (xlv []) [] S) (R : ∀ r, z = .inr r → xRI Γ tC M (some .int) r S) (h : fX9_find_L2b n k0 a1 a2 S rec a3 = some z) : xAt Γ tC M 2 (xlv [(0, .ref (M.2.1 k0)), (1, .int a1), (2, .int a2), (3, .int a3)]) [] S := by
  have hn3 : 3 < Γ.2.2.2 := by omega
  unfold fX9_find_L2b at h
  refine x_iload_n (pc := 2) o dX9_find_2 rfl rfl ?_
  refine x_aload_n (pc := 3) o dX9_find_3 rfl rfl ?_
  refine x_iload_n (pc := 4) o dX9_find_4 rfl rfl ?_
  obtain ⟨v1, hv1, h⟩ := xbs h
  refine x_callI (pc := 5) (As := [.int a1]) (b := k0) (rest := [.int a3]) o (tX9_count _ M _ k0 a1 S v1 hv1) eX9_count mX9_83 clX9 (kX9_count hv1) (by decide) rfl rfl (Nat.le_of_ble_eq_true rfl) dX9_find_5 ?_
  refine x_icmp_ge (pc := 8) (tgt := 40) o dX9_find_8 (by decide) (fun c7 => ?_) (fun c7 => ?_)
  · have h := xit h c7
    refine x_to (l := []) trivial ?_
    exact K _ (Option.some.inj h).symm
  · have h := xif h c7
    refine x_iload_n (pc := 11) o dX9_find_11 rfl rfl ?_
    refine x_bipush (pc := 12) o dX9_find_12 bp_8 ?_
    refine x_icmp_ge (pc := 14) (tgt := 40) o dX9_find_14 (by decide) (fun c6 => ?_) (fun c6 => ?_)
    · have h := xit h c6
      refine x_to (l := []) trivial ?_
      exact K _ (Option.some.inj h).symm
    · have h := xif h c6
      refine x_aload_n (pc := 17) o dX9_find_17 rfl rfl ?_
      obtain ⟨r2, hr2, h⟩ := xbs h
      refine gX9_9 (pc := 18) o dX9_find_18 hr2 ?_
      refine x_iload_n (pc := 21) o dX9_find_21 rfl rfl ?_
      refine x_bipush (pc := 22) o dX9_find_22 bp_8 ?_
      refine x_imul (pc := 24) o dX9_find_24 ?_
      refine x_iload_n (pc := 25) o dX9_find_25 rfl rfl ?_
      refine x_iadd (pc := 26) o dX9_find_26 ?_
      obtain ⟨v3, hv3, h⟩ := xbs h
      refine x_iaload (pc := 27) o dX9_find_27 hv3 ?_
      refine x_iload_n (pc := 28) o dX9_find_28 rfl rfl ?_
      refine x_icmp_ne (pc := 29) (tgt := 34) o dX9_find_29 (by decide) (fun c5 => ?_) (fun c5 => ?_)
      · have h := xif h c5
        obtain ⟨v4, hv4, h⟩ := xbs h
        refine x_iincE (pc := 34) o dX9_find_34 rfl ic_1 hn3 hv4 ?_
        refine x_goto (pc := 37) (tgt := 2) o dX9_find_37 (by decide) ?_
        refine x_to (l := [(0, .ref (M.2.1 k0)), (1, .int a1), (2, .int a2), (3, .int v4)]) ⟨rfl, rfl, rfl, rfl, trivial⟩ ?_
        exact hrec v4 h
      · have h := xit h c5
        refine x_iload_n (pc := 32) o dX9_find_32 rfl rfl ?_
        exact x_ireturn (pc := 33) o (R _ (Option.some.inj h).symm) dX9_find_33 rfl rfl
theorem tX9_find_L2 {Γ : xGm} {M : xMg} (o : xOk Γ tC M 2 cX9_find RX9) (hnL : Γ.2.2.2 = 4) (n : Nat) (k0 : Nat) (a1 : Int32) (a2 : Int32) (S : xSt) (z : ((Unit) ⊕ (Int32))) (K : ∀ e, z = .inl e → xAt Γ tC M 40 (xlv []) [] S) (R : ∀ r, z = .inr r → xRI Γ tC M (some .int) r S) : ∀ (q : Nat) (a3 : Int32), fX9_find_L2 n k0 a1 a2 S q a3 = some z → xAt Γ tC M 2 (xlv [(0, .ref (M.2.1 k0)), (1, .int a1), (2, .int a2), (3, .int a3)]) [] S := by
  intro q
  induction q with
  | zero => intro a3 h; cases h
  | succ q ih => intro a3 h; exact tX9_find_L2b o hnL n k0 a1 a2 S a3 z ih K R h
def fX9_find (n : Nat) (k0 : Nat) (a1 : Int32) (a2 : Int32) (S : xSt) : Option (Int32) :=
  if tC.1 k0 = 9 then
  ((fX9_find_L2 n k0 a1 a2 S n ((0 : Int32))).bind fun z8 => xel z8 (fun ez8 => some ((-1 : Int32))) (fun r => some r))
  else none
theorem kX9_find {z : Int32} {n : Nat} {k0 : Nat} {a1 : Int32} {a2 : Int32} {S : xSt} (h : fX9_find n k0 a1 a2 S = some z) : tC.1 k0 = 9 := by
  unfold fX9_find at h
  exact (xck h).1
set_option maxHeartbeats 4000000 in
theorem tX9_find (l : Launch) (M : xMg) (A : Nat → Prop) (n : Nat) (k0 : Nat) (a1 : Int32) (a2 : Int32) (S : xSt) (z : Int32) (h : fX9_find n k0 a1 a2 S = some z) : xMI l yX9_find cX9_find 4 (some .int) 2 tC M A [.ref (M.2.1 k0), .int a1, .int a2] S z S := by
  refine x_metI (plainFor_of_name (by decide)) tC_ok (Nat.le_of_ble_eq_true rfl) (fun Γ hA hnL hl hr o => ?_)
  subst hA; subst hl
  have o : xOk Γ tC M 2 cX9_find RX9 := o
  unfold fX9_find at h
  obtain ⟨hk0, h⟩ := xck h
  refine x_to (l := [(0, .ref (M.2.1 k0)), (1, .int a1), (2, .int a2)]) ⟨rfl, rfl, rfl, trivial⟩ ?_
  have hn3 : 3 < Γ.2.2.2 := by omega
  refine x_iconst (pc := 0) o dX9_find_0 ic_0 ?_
  refine x_istore_n (pc := 1) o dX9_find_1 rfl hn3 ?_
  obtain ⟨z8, hz8, h⟩ := xbs h
  refine x_to (l := [(0, .ref (M.2.1 k0)), (1, .int a1), (2, .int a2), (3, .int ((0 : Int32)))]) ⟨rfl, rfl, rfl, rfl, trivial⟩ ?_
  refine tX9_find_L2 o hnL n k0 a1 a2 S z8 (fun ez8 he => ?_) (fun r he => ?_) n ((0 : Int32)) hz8
  · subst he; have h := xel_l h
    refine x_iconst (pc := 40) o dX9_find_40 ic_m1 ?_
    exact x_ireturn (pc := 41) o hr dX9_find_41 (Option.some.inj h) rfl
  · subst he; have h := xel_r h
    cases Option.some.inj h
    exact hr
def fX9_isGiven_L2b (n : Nat) (k0 : Nat) (a1 : Int32) (S : xSt) (rec : Int32 → Option ((Unit) ⊕ (Int32))) (a2 : Int32) : Option ((Unit) ⊕ (Int32)) :=
  if ((4 : Int32)) ≤ a2 then
  (some (.inl ()))
else
  ((fX9_find n k0 a2 a1 S).bind fun v1 =>
  if v1 = ((-1 : Int32)) then
  ((some (a2 + (1 : Int32))).bind fun v2 =>
  rec v2)
else
  (some (.inr ((1 : Int32)))))
def fX9_isGiven_L2 (n : Nat) (k0 : Nat) (a1 : Int32) (S : xSt) : Nat → Int32 → Option ((Unit) ⊕ (Int32))
  | 0 => fun _ => none
  | q + 1 => fX9_isGiven_L2b n k0 a1 S (fX9_isGiven_L2 n k0 a1 S q)
set_option maxHeartbeats 4000000 in
theorem tX9_isGiven_L2b {Γ : xGm} {M : xMg} (o : xOk Γ tC M 3 cX9_isGiven RX9) (hnL : Γ.2.2.2 = 3) {rec : Int32 → Option ((Unit) ⊕ (Int32))} (n : Nat) (k0 : Nat) (a1 : Int32) (S : xSt) (a2 : Int32) (z : ((Unit) ⊕ (Int32))) (hrec : ∀ (a2 : Int32), rec a2 = some z → xAt Γ tC M 2 (xlv [(0, .ref (M.2.1 k0)), (1, .int a1), (2, .int a2)]) [] S) (K : ∀ e, z = .inl e → xAt Γ tC M 25 (xlv []) [] S) (R : ∀ r, z = .inr r → xRI Γ tC M (some .boolean) r S) (h : fX9_isGiven_L2b n k0 a1 S rec a2 = some z) : xAt Γ tC M 2 (xlv [(0, .ref (M.2.1 k0)), (1, .int a1), (2, .int a2)]) [] S := by
  have hn2 : 2 < Γ.2.2.2 := by omega
  unfold fX9_isGiven_L2b at h
  refine x_iload_n (pc := 2) o dX9_isGiven_2 rfl rfl ?_
  refine x_iconst (pc := 3) o dX9_isGiven_3 ic_4 ?_
  refine x_icmp_ge (pc := 4) (tgt := 25) o dX9_isGiven_4 (by decide) (fun c4 => ?_) (fun c4 => ?_)
  · have h := xit h c4
    refine x_to (l := []) trivial ?_
    exact K _ (Option.some.inj h).symm
  · have h := xif h c4
    refine x_aload_n (pc := 7) o dX9_isGiven_7 rfl rfl ?_
    refine x_iload_n (pc := 8) o dX9_isGiven_8 rfl rfl ?_
    refine x_iload_n (pc := 9) o dX9_isGiven_9 rfl rfl ?_
    obtain ⟨v1, hv1, h⟩ := xbs h
    refine x_callI (pc := 10) (As := [.int a2, .int a1]) (b := k0) (rest := []) o (tX9_find _ M _ n k0 a2 a1 S v1 hv1) eX9_find mX9_91 clX9 (kX9_find hv1) (by decide) rfl rfl (Nat.le_of_ble_eq_true rfl) dX9_isGiven_10 ?_
    refine x_iconst (pc := 13) o dX9_isGiven_13 ic_m1 ?_
    refine x_icmp_eq (pc := 14) (tgt := 19) o dX9_isGiven_14 (by decide) (fun c3 => ?_) (fun c3 => ?_)
    · have h := xit h c3
      obtain ⟨v2, hv2, h⟩ := xbs h
      refine x_iincE (pc := 19) o dX9_isGiven_19 rfl ic_1 hn2 hv2 ?_
      refine x_goto (pc := 22) (tgt := 2) o dX9_isGiven_22 (by decide) ?_
      refine x_to (l := [(0, .ref (M.2.1 k0)), (1, .int a1), (2, .int v2)]) ⟨rfl, rfl, rfl, trivial⟩ ?_
      exact hrec v2 h
    · have h := xif h c3
      refine x_iconst (pc := 17) o dX9_isGiven_17 ic_1 ?_
      exact x_zreturn (pc := 18) o (R _ (Option.some.inj h).symm) dX9_isGiven_18 (by decide) rfl rfl
theorem tX9_isGiven_L2 {Γ : xGm} {M : xMg} (o : xOk Γ tC M 3 cX9_isGiven RX9) (hnL : Γ.2.2.2 = 3) (n : Nat) (k0 : Nat) (a1 : Int32) (S : xSt) (z : ((Unit) ⊕ (Int32))) (K : ∀ e, z = .inl e → xAt Γ tC M 25 (xlv []) [] S) (R : ∀ r, z = .inr r → xRI Γ tC M (some .boolean) r S) : ∀ (q : Nat) (a2 : Int32), fX9_isGiven_L2 n k0 a1 S q a2 = some z → xAt Γ tC M 2 (xlv [(0, .ref (M.2.1 k0)), (1, .int a1), (2, .int a2)]) [] S := by
  intro q
  induction q with
  | zero => intro a2 h; cases h
  | succ q ih => intro a2 h; exact tX9_isGiven_L2b o hnL n k0 a1 S a2 z ih K R h
def fX9_isGiven (n : Nat) (k0 : Nat) (a1 : Int32) (S : xSt) : Option (Int32) :=
  if tC.1 k0 = 9 then
  ((fX9_isGiven_L2 n k0 a1 S n ((0 : Int32))).bind fun z5 => xel z5 (fun ez5 => some ((0 : Int32))) (fun r => some r))
  else none
theorem kX9_isGiven {z : Int32} {n : Nat} {k0 : Nat} {a1 : Int32} {S : xSt} (h : fX9_isGiven n k0 a1 S = some z) : tC.1 k0 = 9 := by
  unfold fX9_isGiven at h
  exact (xck h).1
set_option maxHeartbeats 4000000 in
theorem tX9_isGiven (l : Launch) (M : xMg) (A : Nat → Prop) (n : Nat) (k0 : Nat) (a1 : Int32) (S : xSt) (z : Int32) (h : fX9_isGiven n k0 a1 S = some z) : xMI l yX9_isGiven cX9_isGiven 3 (some .boolean) 3 tC M A [.ref (M.2.1 k0), .int a1] S z S := by
  refine x_metI (plainFor_of_name (by decide)) tC_ok (Nat.le_of_ble_eq_true rfl) (fun Γ hA hnL hl hr o => ?_)
  subst hA; subst hl
  have o : xOk Γ tC M 3 cX9_isGiven RX9 := o
  unfold fX9_isGiven at h
  obtain ⟨hk0, h⟩ := xck h
  refine x_to (l := [(0, .ref (M.2.1 k0)), (1, .int a1)]) ⟨rfl, rfl, trivial⟩ ?_
  have hn2 : 2 < Γ.2.2.2 := by omega
  refine x_iconst (pc := 0) o dX9_isGiven_0 ic_0 ?_
  refine x_istore_n (pc := 1) o dX9_isGiven_1 rfl hn2 ?_
  obtain ⟨z5, hz5, h⟩ := xbs h
  refine x_to (l := [(0, .ref (M.2.1 k0)), (1, .int a1), (2, .int ((0 : Int32)))]) ⟨rfl, rfl, rfl, trivial⟩ ?_
  refine tX9_isGiven_L2 o hnL n k0 a1 S z5 (fun ez5 he => ?_) (fun r he => ?_) n ((0 : Int32)) hz5
  · subst he; have h := xel_l h
    refine x_iconst (pc := 25) o dX9_isGiven_25 ic_0 ?_
    exact x_zreturn (pc := 26) o hr dX9_isGiven_26 (by decide) (Option.some.inj h) rfl
  · subst he; have h := xel_r h
    cases Option.some.inj h
    exact hr
def fX9_give (k0 : Nat) (a1 : Int32) (a2 : Int32) (S : xSt) : Option (Int32 × xSt) :=
  if tC.1 k0 = 9 then
  (if a1 < 0 then
  (some ((-1 : Int32), S))
else
  (if ((4 : Int32)) ≤ a1 then
  (some ((-1 : Int32), S))
else
  ((fX9_isFull k0 a1 S).bind fun v1 =>
  if v1 = 0 then
  ((xgF tC 9 1 k0 S).bind fun r2 =>
  (xal tC r2 a1 S).bind fun v3 =>
  (xgF tC 9 0 k0 S).bind fun r4 =>
  (xas tC r4 ((a1 * ((8 : Int32))) + v3) a2 S).bind fun S5 =>
  (xgF tC 9 1 k0 S5).bind fun r6 =>
  (xas tC r6 a1 (v3 + ((1 : Int32))) S5).bind fun S7 =>
  some (v3, S7))
else
  (some ((-1 : Int32), S)))))
  else none
theorem kX9_give {z : Int32 × xSt} {k0 : Nat} {a1 : Int32} {a2 : Int32} {S : xSt} (h : fX9_give k0 a1 a2 S = some z) : tC.1 k0 = 9 := by
  unfold fX9_give at h
  exact (xck h).1
set_option maxHeartbeats 4000000 in
theorem tX9_give (l : Launch) (M : xMg) (A : Nat → Prop) (k0 : Nat) (a1 : Int32) (a2 : Int32) (S : xSt) (z : Int32 × xSt) (h : fX9_give k0 a1 a2 S = some z) : xMI l yX9_give cX9_give 4 (some .int) 3 tC M A [.ref (M.2.1 k0), .int a1, .int a2] S z.1 z.2 := by
  refine x_metI (plainFor_of_name (by decide)) tC_ok (Nat.le_of_ble_eq_true rfl) (fun Γ hA hnL hl hr o => ?_)
  subst hA; subst hl
  have o : xOk Γ tC M 3 cX9_give RX9 := o
  unfold fX9_give at h
  obtain ⟨hk0, h⟩ := xck h
  refine x_to (l := [(0, .ref (M.2.1 k0)), (1, .int a1), (2, .int a2)]) ⟨rfl, rfl, rfl, trivial⟩ ?_
  have hn3 : 3 < Γ.2.2.2 := by omega
  refine x_iload_n (pc := 0) o dX9_give_0 rfl rfl ?_
  refine x_if_lt (pc := 1) (tgt := 17) o dX9_give_1 (by decide) (fun c10 => ?_) (fun c10 => ?_)
  · have h := xit h c10
    refine x_iconst (pc := 17) o dX9_give_17 ic_m1 ?_
    exact x_ireturn (pc := 18) o hr dX9_give_18 (xr1 h) (xr2 h)
  · have h := xif h c10
    refine x_iload_n (pc := 4) o dX9_give_4 rfl rfl ?_
    refine x_iconst (pc := 5) o dX9_give_5 ic_4 ?_
    refine x_icmp_ge (pc := 6) (tgt := 17) o dX9_give_6 (by decide) (fun c9 => ?_) (fun c9 => ?_)
    · have h := xit h c9
      refine x_iconst (pc := 17) o dX9_give_17 ic_m1 ?_
      exact x_ireturn (pc := 18) o hr dX9_give_18 (xr1 h) (xr2 h)
    · have h := xif h c9
      refine x_aload_n (pc := 9) o dX9_give_9 rfl rfl ?_
      refine x_iload_n (pc := 10) o dX9_give_10 rfl rfl ?_
      obtain ⟨v1, hv1, h⟩ := xbs h
      refine x_callI (pc := 11) (As := [.int a1]) (b := k0) (rest := []) o (tX9_isFull _ M _ k0 a1 S v1 hv1) eX9_isFull mX9_95 clX9 (kX9_isFull hv1) (by decide) rfl rfl (Nat.le_of_ble_eq_true rfl) dX9_give_11 ?_
      refine x_if_eq (pc := 14) (tgt := 19) o dX9_give_14 (by decide) (fun c8 => ?_) (fun c8 => ?_)
      · have h := xit h c8
        refine x_aload_n (pc := 19) o dX9_give_19 rfl rfl ?_
        obtain ⟨r2, hr2, h⟩ := xbs h
        refine gX9_15 (pc := 20) o dX9_give_20 hr2 ?_
        refine x_iload_n (pc := 23) o dX9_give_23 rfl rfl ?_
        obtain ⟨v3, hv3, h⟩ := xbs h
        refine x_iaload (pc := 24) o dX9_give_24 hv3 ?_
        refine x_istore_n (pc := 25) o dX9_give_25 rfl hn3 ?_
        refine x_aload_n (pc := 26) o dX9_give_26 rfl rfl ?_
        obtain ⟨r4, hr4, h⟩ := xbs h
        refine gX9_9 (pc := 27) o dX9_give_27 hr4 ?_
        refine x_iload_n (pc := 30) o dX9_give_30 rfl rfl ?_
        refine x_bipush (pc := 31) o dX9_give_31 bp_8 ?_
        refine x_imul (pc := 33) o dX9_give_33 ?_
        refine x_iload_n (pc := 34) o dX9_give_34 rfl rfl ?_
        refine x_iadd (pc := 35) o dX9_give_35 ?_
        refine x_iload_n (pc := 36) o dX9_give_36 rfl rfl ?_
        obtain ⟨S5, hS5, h⟩ := xbs h
        refine x_iastore (pc := 37) o dX9_give_37 hS5 ?_
        refine x_aload_n (pc := 38) o dX9_give_38 rfl rfl ?_
        obtain ⟨r6, hr6, h⟩ := xbs h
        refine gX9_15 (pc := 39) o dX9_give_39 hr6 ?_
        refine x_iload_n (pc := 42) o dX9_give_42 rfl rfl ?_
        refine x_iload_n (pc := 43) o dX9_give_43 rfl rfl ?_
        refine x_iconst (pc := 44) o dX9_give_44 ic_1 ?_
        refine x_iadd (pc := 45) o dX9_give_45 ?_
        obtain ⟨S7, hS7, h⟩ := xbs h
        refine x_iastore (pc := 46) o dX9_give_46 hS7 ?_
        refine x_iload_n (pc := 47) o dX9_give_47 rfl rfl ?_
        exact x_ireturn (pc := 48) o hr dX9_give_48 (xr1 h) (xr2 h)
      · have h := xif h c8
        refine x_iconst (pc := 17) o dX9_give_17 ic_m1 ?_
        exact x_ireturn (pc := 18) o hr dX9_give_18 (xr1 h) (xr2 h)
def fX9_toolsOf_L4b (n : Nat) (k0 : Nat) (a1 : Int32) (S : xSt) (rec : Int32 → Int32 → Option (Int32)) (a2 : Int32) (a3 : Int32) : Option (Int32) :=
  (fX9_count k0 ((1 : Int32)) S).bind fun v1 =>
  if v1 ≤ a3 then
  (some a2)
else
  ((xgF tC 9 4 k0 S).bind fun r2 =>
  (xal tC r2 a3 S).bind fun v3 =>
  if v3 = a1 then
  ((some (a2 ||| (((1 : Int32)) <<< (a3 &&& 31)))).bind fun v6 =>
  (some (a3 + (1 : Int32))).bind fun v7 =>
  rec v6 v7)
else
  ((some (a2 ||| ((0 : Int32)))).bind fun v4 =>
  (some (a3 + (1 : Int32))).bind fun v5 =>
  rec v4 v5))
def fX9_toolsOf_L4 (n : Nat) (k0 : Nat) (a1 : Int32) (S : xSt) : Nat → Int32 → Int32 → Option (Int32)
  | 0 => fun _ _ => none
  | q + 1 => fX9_toolsOf_L4b n k0 a1 S (fX9_toolsOf_L4 n k0 a1 S q)
set_option maxHeartbeats 4000000 in
theorem tX9_toolsOf_L4b {Γ : xGm} {M : xMg} (o : xOk Γ tC M 2 cX9_toolsOf RX9) (hnL : Γ.2.2.2 = 4) {rec : Int32 → Int32 → Option (Int32)} (n : Nat) (k0 : Nat) (a1 : Int32) (S : xSt) (a2 : Int32) (a3 : Int32) (z : (Int32)) (hrec : ∀ (a2 : Int32) (a3 : Int32), rec a2 a3 = some z → xAt Γ tC M 4 (xlv [(0, .ref (M.2.1 k0)), (1, .int a1), (2, .int a2), (3, .int a3)]) [] S) (K : xAt Γ tC M 39 (xlv [(2, .int z)]) [] S) (h : fX9_toolsOf_L4b n k0 a1 S rec a2 a3 = some z) : xAt Γ tC M 4 (xlv [(0, .ref (M.2.1 k0)), (1, .int a1), (2, .int a2), (3, .int a3)]) [] S := by
  have hn2 : 2 < Γ.2.2.2 := by omega
  have hn3 : 3 < Γ.2.2.2 := by omega
  unfold fX9_toolsOf_L4b at h
  refine x_iload_n (pc := 4) o dX9_toolsOf_4 rfl rfl ?_
  refine x_aload_n (pc := 5) o dX9_toolsOf_5 rfl rfl ?_
  refine x_iconst (pc := 6) o dX9_toolsOf_6 ic_1 ?_
  obtain ⟨v1, hv1, h⟩ := xbs h
  refine x_callI (pc := 7) (As := [.int ((1 : Int32))]) (b := k0) (rest := [.int a3]) o (tX9_count _ M _ k0 ((1 : Int32)) S v1 hv1) eX9_count mX9_83 clX9 (kX9_count hv1) (by decide) rfl rfl (Nat.le_of_ble_eq_true rfl) dX9_toolsOf_7 ?_
  refine x_icmp_ge (pc := 10) (tgt := 39) o dX9_toolsOf_10 (by decide) (fun c9 => ?_) (fun c9 => ?_)
  · have h := xit h c9
    refine x_to (l := [(2, .int a2)]) ⟨rfl, trivial⟩ ?_
    cases Option.some.inj h
    exact K
  · have h := xif h c9
    refine x_iload_n (pc := 13) o dX9_toolsOf_13 rfl rfl ?_
    refine x_aload_n (pc := 14) o dX9_toolsOf_14 rfl rfl ?_
    obtain ⟨r2, hr2, h⟩ := xbs h
    refine gX9_24 (pc := 15) o dX9_toolsOf_15 hr2 ?_
    refine x_iload_n (pc := 18) o dX9_toolsOf_18 rfl rfl ?_
    obtain ⟨v3, hv3, h⟩ := xbs h
    refine x_iaload (pc := 19) o dX9_toolsOf_19 hv3 ?_
    refine x_iload_n (pc := 20) o dX9_toolsOf_20 rfl rfl ?_
    refine x_icmp_ne (pc := 21) (tgt := 30) o dX9_toolsOf_21 (by decide) (fun c8 => ?_) (fun c8 => ?_)
    · have h := xif h c8
      refine x_iconst (pc := 30) o dX9_toolsOf_30 ic_0 ?_
      refine x_ior (pc := 31) o dX9_toolsOf_31 ?_
      obtain ⟨v4, hv4, h⟩ := xbs h
      refine x_istore_nE (pc := 32) o dX9_toolsOf_32 rfl hn2 hv4 ?_
      obtain ⟨v5, hv5, h⟩ := xbs h
      refine x_iincE (pc := 33) o dX9_toolsOf_33 rfl ic_1 hn3 hv5 ?_
      refine x_goto (pc := 36) (tgt := 4) o dX9_toolsOf_36 (by decide) ?_
      refine x_to (l := [(0, .ref (M.2.1 k0)), (1, .int a1), (2, .int v4), (3, .int v5)]) ⟨rfl, rfl, rfl, rfl, trivial⟩ ?_
      exact hrec v4 v5 h
    · have h := xit h c8
      refine x_iconst (pc := 24) o dX9_toolsOf_24 ic_1 ?_
      refine x_iload_n (pc := 25) o dX9_toolsOf_25 rfl rfl ?_
      refine x_ishl (pc := 26) o dX9_toolsOf_26 ?_
      refine x_goto (pc := 27) (tgt := 31) o dX9_toolsOf_27 (by decide) ?_
      refine x_ior (pc := 31) o dX9_toolsOf_31 ?_
      obtain ⟨v6, hv6, h⟩ := xbs h
      refine x_istore_nE (pc := 32) o dX9_toolsOf_32 rfl hn2 hv6 ?_
      obtain ⟨v7, hv7, h⟩ := xbs h
      refine x_iincE (pc := 33) o dX9_toolsOf_33 rfl ic_1 hn3 hv7 ?_
      refine x_goto (pc := 36) (tgt := 4) o dX9_toolsOf_36 (by decide) ?_
      refine x_to (l := [(0, .ref (M.2.1 k0)), (1, .int a1), (2, .int v6), (3, .int v7)]) ⟨rfl, rfl, rfl, rfl, trivial⟩ ?_
      exact hrec v6 v7 h
theorem tX9_toolsOf_L4 {Γ : xGm} {M : xMg} (o : xOk Γ tC M 2 cX9_toolsOf RX9) (hnL : Γ.2.2.2 = 4) (n : Nat) (k0 : Nat) (a1 : Int32) (S : xSt) (z : (Int32)) (K : xAt Γ tC M 39 (xlv [(2, .int z)]) [] S) : ∀ (q : Nat) (a2 : Int32) (a3 : Int32), fX9_toolsOf_L4 n k0 a1 S q a2 a3 = some z → xAt Γ tC M 4 (xlv [(0, .ref (M.2.1 k0)), (1, .int a1), (2, .int a2), (3, .int a3)]) [] S := by
  intro q
  induction q with
  | zero => intro a2 a3 h; cases h
  | succ q ih => intro a2 a3 h; exact tX9_toolsOf_L4b o hnL n k0 a1 S a2 a3 z ih K h
def fX9_toolsOf (n : Nat) (k0 : Nat) (a1 : Int32) (S : xSt) : Option (Int32) :=
  if tC.1 k0 = 9 then
  ((fX9_toolsOf_L4 n k0 a1 S n ((0 : Int32)) ((0 : Int32))).bind fun z10 => some z10)
  else none
theorem kX9_toolsOf {z : Int32} {n : Nat} {k0 : Nat} {a1 : Int32} {S : xSt} (h : fX9_toolsOf n k0 a1 S = some z) : tC.1 k0 = 9 := by
  unfold fX9_toolsOf at h
  exact (xck h).1
set_option maxHeartbeats 4000000 in
theorem tX9_toolsOf (l : Launch) (M : xMg) (A : Nat → Prop) (n : Nat) (k0 : Nat) (a1 : Int32) (S : xSt) (z : Int32) (h : fX9_toolsOf n k0 a1 S = some z) : xMI l yX9_toolsOf cX9_toolsOf 4 (some .int) 2 tC M A [.ref (M.2.1 k0), .int a1] S z S := by
  refine x_metI (plainFor_of_name (by decide)) tC_ok (Nat.le_of_ble_eq_true rfl) (fun Γ hA hnL hl hr o => ?_)
  subst hA; subst hl
  have o : xOk Γ tC M 2 cX9_toolsOf RX9 := o
  unfold fX9_toolsOf at h
  obtain ⟨hk0, h⟩ := xck h
  refine x_to (l := [(0, .ref (M.2.1 k0)), (1, .int a1)]) ⟨rfl, rfl, trivial⟩ ?_
  have hn2 : 2 < Γ.2.2.2 := by omega
  have hn3 : 3 < Γ.2.2.2 := by omega
  refine x_iconst (pc := 0) o dX9_toolsOf_0 ic_0 ?_
  refine x_istore_n (pc := 1) o dX9_toolsOf_1 rfl hn2 ?_
  refine x_iconst (pc := 2) o dX9_toolsOf_2 ic_0 ?_
  refine x_istore_n (pc := 3) o dX9_toolsOf_3 rfl hn3 ?_
  obtain ⟨z10, hz10, h⟩ := xbs h
  refine x_to (l := [(0, .ref (M.2.1 k0)), (1, .int a1), (2, .int ((0 : Int32))), (3, .int ((0 : Int32)))]) ⟨rfl, rfl, rfl, rfl, trivial⟩ ?_
  refine tX9_toolsOf_L4 o hnL n k0 a1 S z10 ?_ n ((0 : Int32)) ((0 : Int32)) hz10
  refine x_iload_n (pc := 39) o dX9_toolsOf_39 rfl rfl ?_
  exact x_ireturn (pc := 40) o hr dX9_toolsOf_40 (Option.some.inj h) rfl
def fJ9_floorMod_7cf53 (a0 : Int32) (a1 : Int32) (S : xSt) : Option (Int32) :=
  if a1 = 0 then none else
  (some (a0 - a0 / a1 * a1)).bind fun v1 =>
  if 0 ≤ (a0 ^^^ a1) then
  (some v1)
else
  (if v1 = 0 then
  (some v1)
else
  (some (v1 + a1)))
set_option maxHeartbeats 4000000 in
theorem tJ9_floorMod_7cf53 (l : Launch) (M : xMg) (A : Nat → Prop) (a0 : Int32) (a1 : Int32) (S : xSt) (z : Int32) (h : fJ9_floorMod_7cf53 a0 a1 S = some z) : xMI l yJ9_floorMod_7cf53 cJ9_floorMod_7cf53 3 (some .int) 1 tC M A [.int a0, .int a1] S z S := by
  refine x_metI (by decide +kernel) tC_ok (Nat.le_of_ble_eq_true rfl) (fun Γ hA hnL hl hr o => ?_)
  subst hA; subst hl
  have o : xOk Γ tC M 1 cJ9_floorMod_7cf53 RJ9 := o
  unfold fJ9_floorMod_7cf53 at h
  refine x_to (l := [(0, .int a0), (1, .int a1)]) ⟨rfl, rfl, trivial⟩ ?_
  have hn2 : 2 < Γ.2.2.2 := by omega
  refine x_iload_n (pc := 0) o dJ9_floorMod_7cf53_0 rfl rfl ?_
  refine x_iload_n (pc := 1) o dJ9_floorMod_7cf53_1 rfl rfl ?_
  obtain ⟨hq, h⟩ := xcn h
  refine x_irem (pc := 2) o dJ9_floorMod_7cf53_2 hq ?_
  obtain ⟨v1, hv1, h⟩ := xbs h
  refine x_istore_nE (pc := 3) o dJ9_floorMod_7cf53_3 rfl hn2 hv1 ?_
  refine x_iload_n (pc := 4) o dJ9_floorMod_7cf53_4 rfl rfl ?_
  refine x_iload_n (pc := 5) o dJ9_floorMod_7cf53_5 rfl rfl ?_
  refine x_ixor (pc := 6) o dJ9_floorMod_7cf53_6 ?_
  refine x_if_ge (pc := 7) (tgt := 18) o dJ9_floorMod_7cf53_7 (by decide) (fun c3 => ?_) (fun c3 => ?_)
  · have h := xit h c3
    refine x_iload_n (pc := 18) o dJ9_floorMod_7cf53_18 rfl rfl ?_
    exact x_ireturn (pc := 19) o hr dJ9_floorMod_7cf53_19 (Option.some.inj h) rfl
  · have h := xif h c3
    refine x_iload_n (pc := 10) o dJ9_floorMod_7cf53_10 rfl rfl ?_
    refine x_if_eq (pc := 11) (tgt := 18) o dJ9_floorMod_7cf53_11 (by decide) (fun c2 => ?_) (fun c2 => ?_)
    · have h := xit h c2
      refine x_iload_n (pc := 18) o dJ9_floorMod_7cf53_18 rfl rfl ?_
      exact x_ireturn (pc := 19) o hr dJ9_floorMod_7cf53_19 (Option.some.inj h) rfl
    · have h := xif h c2
      refine x_iload_n (pc := 14) o dJ9_floorMod_7cf53_14 rfl rfl ?_
      refine x_iload_n (pc := 15) o dJ9_floorMod_7cf53_15 rfl rfl ?_
      refine x_iadd (pc := 16) o dJ9_floorMod_7cf53_16 ?_
      exact x_ireturn (pc := 17) o hr dJ9_floorMod_7cf53_17 (Option.some.inj h) rfl
def fX9_daysToRest (k0 : Nat) (a1 : Int32) (a2 : Int32) (S : xSt) : Option (Int32) :=
  if tC.1 k0 = 9 then
  ((fX9_holds k0 ((0 : Int32)) a1 S).bind fun v1 =>
  if v1 = 0 then
  (some ((-1 : Int32)))
else
  ((xgF tC 9 3 k0 S).bind fun r2 =>
  (xal tC r2 a1 S).bind fun v3 =>
  if v3 ≤ 0 then
  (some ((-1 : Int32)))
else
  ((xgF tC 9 2 k0 S).bind fun r4 =>
  (xal tC r4 a1 S).bind fun v5 =>
  (xgF tC 9 3 k0 S).bind fun r6 =>
  (xal tC r6 a1 S).bind fun v7 =>
  (fJ9_floorMod_7cf53 (v5 - a2) v7 S).bind fun v8 =>
  some v8)))
  else none
theorem kX9_daysToRest {z : Int32} {k0 : Nat} {a1 : Int32} {a2 : Int32} {S : xSt} (h : fX9_daysToRest k0 a1 a2 S = some z) : tC.1 k0 = 9 := by
  unfold fX9_daysToRest at h
  exact (xck h).1
set_option maxHeartbeats 4000000 in
theorem tX9_daysToRest (l : Launch) (M : xMg) (A : Nat → Prop) (k0 : Nat) (a1 : Int32) (a2 : Int32) (S : xSt) (z : Int32) (h : fX9_daysToRest k0 a1 a2 S = some z) : xMI l yX9_daysToRest cX9_daysToRest 3 (some .int) 2 tC M A [.ref (M.2.1 k0), .int a1, .int a2] S z S := by
  refine x_metI (plainFor_of_name (by decide)) tC_ok (Nat.le_of_ble_eq_true rfl) (fun Γ hA hnL hl hr o => ?_)
  subst hA; subst hl
  have o : xOk Γ tC M 2 cX9_daysToRest RX9 := o
  unfold fX9_daysToRest at h
  obtain ⟨hk0, h⟩ := xck h
  refine x_to (l := [(0, .ref (M.2.1 k0)), (1, .int a1), (2, .int a2)]) ⟨rfl, rfl, rfl, trivial⟩ ?_
  refine x_aload_n (pc := 0) o dX9_daysToRest_0 rfl rfl ?_
  refine x_iconst (pc := 1) o dX9_daysToRest_1 ic_0 ?_
  refine x_iload_n (pc := 2) o dX9_daysToRest_2 rfl rfl ?_
  obtain ⟨v1, hv1, h⟩ := xbs h
  refine x_callI (pc := 3) (As := [.int ((0 : Int32)), .int a1]) (b := k0) (rest := []) o (tX9_holds _ M _ k0 ((0 : Int32)) a1 S v1 hv1) eX9_holds mX9_87 clX9 (kX9_holds hv1) (by decide) rfl rfl (Nat.le_of_ble_eq_true rfl) dX9_daysToRest_3 ?_
  refine x_if_eq (pc := 6) (tgt := 38) o dX9_daysToRest_6 (by decide) (fun c10 => ?_) (fun c10 => ?_)
  · have h := xit h c10
    refine x_iconst (pc := 38) o dX9_daysToRest_38 ic_m1 ?_
    exact x_ireturn (pc := 39) o hr dX9_daysToRest_39 (Option.some.inj h) rfl
  · have h := xif h c10
    refine x_aload_n (pc := 9) o dX9_daysToRest_9 rfl rfl ?_
    obtain ⟨r2, hr2, h⟩ := xbs h
    refine gX9_21 (pc := 10) o dX9_daysToRest_10 hr2 ?_
    refine x_iload_n (pc := 13) o dX9_daysToRest_13 rfl rfl ?_
    obtain ⟨v3, hv3, h⟩ := xbs h
    refine x_iaload (pc := 14) o dX9_daysToRest_14 hv3 ?_
    refine x_if_le (pc := 15) (tgt := 38) o dX9_daysToRest_15 (by decide) (fun c9 => ?_) (fun c9 => ?_)
    · have h := xit h c9
      refine x_iconst (pc := 38) o dX9_daysToRest_38 ic_m1 ?_
      exact x_ireturn (pc := 39) o hr dX9_daysToRest_39 (Option.some.inj h) rfl
    · have h := xif h c9
      refine x_aload_n (pc := 18) o dX9_daysToRest_18 rfl rfl ?_
      obtain ⟨r4, hr4, h⟩ := xbs h
      refine gX9_18 (pc := 19) o dX9_daysToRest_19 hr4 ?_
      refine x_iload_n (pc := 22) o dX9_daysToRest_22 rfl rfl ?_
      obtain ⟨v5, hv5, h⟩ := xbs h
      refine x_iaload (pc := 23) o dX9_daysToRest_23 hv5 ?_
      refine x_iload_n (pc := 24) o dX9_daysToRest_24 rfl rfl ?_
      refine x_isub (pc := 25) o dX9_daysToRest_25 ?_
      refine x_aload_n (pc := 26) o dX9_daysToRest_26 rfl rfl ?_
      obtain ⟨r6, hr6, h⟩ := xbs h
      refine gX9_21 (pc := 27) o dX9_daysToRest_27 hr6 ?_
      refine x_iload_n (pc := 30) o dX9_daysToRest_30 rfl rfl ?_
      obtain ⟨v7, hv7, h⟩ := xbs h
      refine x_iaload (pc := 31) o dX9_daysToRest_31 hv7 ?_
      obtain ⟨v8, hv8, h⟩ := xbs h
      refine x_statI (pc := 32) (As := [.int (v5 - a2), .int v7]) (rest := []) o (tJ9_floorMod_7cf53 _ M _ (v5 - a2) v7 S v8 hv8) eJ9_floorMod_7cf53 mX9_99 (by decide) rfl rfl (Nat.le_of_ble_eq_true rfl) dX9_daysToRest_32 ?_
      refine x_goto (pc := 35) (tgt := 39) o dX9_daysToRest_35 (by decide) ?_
      exact x_ireturn (pc := 39) o hr dX9_daysToRest_39 (Option.some.inj h) rfl
def fX9_lengthOver (k0 : Nat) (a1 : Int32) (a2 : Int32) (S : xSt) : Option (Int32) :=
  if tC.1 k0 = 9 then
  ((xgF tC 9 11 k0 S).bind fun r1 =>
  (xal tC r1 ((a2 * ((6 : Int32))) + a1) S).bind fun v2 =>
  if v2 = 0 then
  (some ((1000000 : Int32)))
else
  ((xgF tC 9 12 k0 S).bind fun r3 =>
  (xal tC r3 a2 S).bind fun v4 =>
  some (((v2 * ((8 : Int32))) + ((1 : Int32))) + v4)))
  else none
theorem kX9_lengthOver {z : Int32} {k0 : Nat} {a1 : Int32} {a2 : Int32} {S : xSt} (h : fX9_lengthOver k0 a1 a2 S = some z) : tC.1 k0 = 9 := by
  unfold fX9_lengthOver at h
  exact (xck h).1
set_option maxHeartbeats 4000000 in
theorem tX9_lengthOver (l : Launch) (M : xMg) (A : Nat → Prop) (k0 : Nat) (a1 : Int32) (a2 : Int32) (S : xSt) (z : Int32) (h : fX9_lengthOver k0 a1 a2 S = some z) : xMI l yX9_lengthOver cX9_lengthOver 4 (some .int) 1 tC M A [.ref (M.2.1 k0), .int a1, .int a2] S z S := by
  refine x_metI (plainFor_of_name (by decide)) tC_ok (Nat.le_of_ble_eq_true rfl) (fun Γ hA hnL hl hr o => ?_)
  subst hA; subst hl
  have o : xOk Γ tC M 1 cX9_lengthOver RX9 := o
  unfold fX9_lengthOver at h
  obtain ⟨hk0, h⟩ := xck h
  refine x_to (l := [(0, .ref (M.2.1 k0)), (1, .int a1), (2, .int a2)]) ⟨rfl, rfl, rfl, trivial⟩ ?_
  have hn3 : 3 < Γ.2.2.2 := by omega
  refine x_aload_n (pc := 0) o dX9_lengthOver_0 rfl rfl ?_
  obtain ⟨r1, hr1, h⟩ := xbs h
  refine gX9_45 (pc := 1) o dX9_lengthOver_1 hr1 ?_
  refine x_iload_n (pc := 4) o dX9_lengthOver_4 rfl rfl ?_
  refine x_bipush (pc := 5) o dX9_lengthOver_5 bp_6 ?_
  refine x_imul (pc := 7) o dX9_lengthOver_7 ?_
  refine x_iload_n (pc := 8) o dX9_lengthOver_8 rfl rfl ?_
  refine x_iadd (pc := 9) o dX9_lengthOver_9 ?_
  obtain ⟨v2, hv2, h⟩ := xbs h
  refine x_iaload (pc := 10) o dX9_lengthOver_10 hv2 ?_
  refine x_istore_n (pc := 11) o dX9_lengthOver_11 rfl hn3 ?_
  refine x_iload_n (pc := 12) o dX9_lengthOver_12 rfl rfl ?_
  refine x_if_ne (pc := 13) (tgt := 21) o dX9_lengthOver_13 (by decide) (fun c5 => ?_) (fun c5 => ?_)
  · have h := xif h c5
    refine x_iload_n (pc := 21) o dX9_lengthOver_21 rfl rfl ?_
    refine x_bipush (pc := 22) o dX9_lengthOver_22 bp_8 ?_
    refine x_imul (pc := 24) o dX9_lengthOver_24 ?_
    refine x_iconst (pc := 25) o dX9_lengthOver_25 ic_1 ?_
    refine x_iadd (pc := 26) o dX9_lengthOver_26 ?_
    refine x_aload_n (pc := 27) o dX9_lengthOver_27 rfl rfl ?_
    obtain ⟨r3, hr3, h⟩ := xbs h
    refine gX9_48 (pc := 28) o dX9_lengthOver_28 hr3 ?_
    refine x_iload_n (pc := 31) o dX9_lengthOver_31 rfl rfl ?_
    obtain ⟨v4, hv4, h⟩ := xbs h
    refine x_iaload (pc := 32) o dX9_lengthOver_32 hv4 ?_
    refine x_iadd (pc := 33) o dX9_lengthOver_33 ?_
    exact x_ireturn (pc := 34) o hr dX9_lengthOver_34 (Option.some.inj h) rfl
  · have h := xit h c5
    refine x_ldc (pc := 16) o kcX9_107 dX9_lengthOver_16 ?_
    refine x_goto (pc := 18) (tgt := 34) o dX9_lengthOver_18 (by decide) ?_
    exact x_ireturn (pc := 34) o hr dX9_lengthOver_34 (Option.some.inj h) rfl
def fX9_measurePathsTo_L47b (n : Nat) (k0 : Nat) (a2 : Int32) (a3 : Int32) (rec : Int32 → xSt → Option (xSt)) (a4 : Int32) (S : xSt) : Option (xSt) :=
  (fX9_count k0 ((0 : Int32)) S).bind fun v5 =>
  if v5 ≤ a4 then
  (some S)
else
  ((xgF tC 9 12 k0 S).bind fun r6 =>
  (xgF tC 9 12 k0 S).bind fun r7 =>
  (xal tC r7 a3 S).bind fun v8 =>
  (fX9_lengthOver k0 a3 a4 S).bind fun v9 =>
  (some (if v9 < v8 then v9 else v8)).bind fun v10 =>
  (xas tC r6 a3 v10 S).bind fun S11 =>
  (some (a4 + (1 : Int32))).bind fun v12 =>
  rec v12 S11)
def fX9_measurePathsTo_L47 (n : Nat) (k0 : Nat) (a2 : Int32) (a3 : Int32) : Nat → Int32 → xSt → Option (xSt)
  | 0 => fun _ _ => none
  | q + 1 => fX9_measurePathsTo_L47b n k0 a2 a3 (fX9_measurePathsTo_L47 n k0 a2 a3 q)
set_option maxHeartbeats 4000000 in
theorem tX9_measurePathsTo_L47b {Γ : xGm} {M : xMg} (o : xOk Γ tC M 2 cX9_measurePathsTo RX9) (hnL : Γ.2.2.2 = 5) {rec : Int32 → xSt → Option (xSt)} (n : Nat) (k0 : Nat) (a2 : Int32) (a3 : Int32) (a4 : Int32) (S : xSt) (z : (xSt)) (hrec : ∀ (a4 : Int32) (S : xSt), rec a4 S = some z → xAt Γ tC M 47 (xlv [(0, .ref (M.2.1 k0)), (2, .int a2), (3, .int a3), (4, .int a4)]) [] S) (K : xAt Γ tC M 85 (xlv [(0, .ref (M.2.1 k0)), (2, .int a2), (3, .int a3)]) [] z) (h : fX9_measurePathsTo_L47b n k0 a2 a3 rec a4 S = some z) : xAt Γ tC M 47 (xlv [(0, .ref (M.2.1 k0)), (2, .int a2), (3, .int a3), (4, .int a4)]) [] S := by
  have hn4 : 4 < Γ.2.2.2 := by omega
  unfold fX9_measurePathsTo_L47b at h
  refine x_iload (pc := 47) o dX9_measurePathsTo_47 rfl ?_
  refine x_aload_n (pc := 49) o dX9_measurePathsTo_49 rfl rfl ?_
  refine x_iconst (pc := 50) o dX9_measurePathsTo_50 ic_0 ?_
  obtain ⟨v5, hv5, h⟩ := xbs h
  refine x_callI (pc := 51) (As := [.int ((0 : Int32))]) (b := k0) (rest := [.int a4]) o (tX9_count _ M _ k0 ((0 : Int32)) S v5 hv5) eX9_count mX9_83 clX9 (kX9_count hv5) (by decide) rfl rfl (Nat.le_of_ble_eq_true rfl) dX9_measurePathsTo_51 ?_
  refine x_icmp_ge (pc := 54) (tgt := 85) o dX9_measurePathsTo_54 (by decide) (fun c13 => ?_) (fun c13 => ?_)
  · have h := xit h c13
    refine x_to (l := [(0, .ref (M.2.1 k0)), (2, .int a2), (3, .int a3)]) ⟨rfl, rfl, rfl, trivial⟩ ?_
    cases Option.some.inj h
    exact K
  · have h := xif h c13
    refine x_aload_n (pc := 57) o dX9_measurePathsTo_57 rfl rfl ?_
    obtain ⟨r6, hr6, h⟩ := xbs h
    refine gX9_48 (pc := 58) o dX9_measurePathsTo_58 hr6 ?_
    refine x_iload_n (pc := 61) o dX9_measurePathsTo_61 rfl rfl ?_
    refine x_aload_n (pc := 62) o dX9_measurePathsTo_62 rfl rfl ?_
    obtain ⟨r7, hr7, h⟩ := xbs h
    refine gX9_48 (pc := 63) o dX9_measurePathsTo_63 hr7 ?_
    refine x_iload_n (pc := 66) o dX9_measurePathsTo_66 rfl rfl ?_
    obtain ⟨v8, hv8, h⟩ := xbs h
    refine x_iaload (pc := 67) o dX9_measurePathsTo_67 hv8 ?_
    refine x_aload_n (pc := 68) o dX9_measurePathsTo_68 rfl rfl ?_
    refine x_iload_n (pc := 69) o dX9_measurePathsTo_69 rfl rfl ?_
    refine x_iload (pc := 70) o dX9_measurePathsTo_70 rfl ?_
    obtain ⟨v9, hv9, h⟩ := xbs h
    refine x_callI (pc := 72) (As := [.int a3, .int a4]) (b := k0) (rest := [.int v8, .int a3, .ref (M.2.1 r6)]) o (tX9_lengthOver _ M _ k0 a3 a4 S v9 hv9) eX9_lengthOver mX9_108 clX9 (kX9_lengthOver hv9) (by decide) rfl rfl (Nat.le_of_ble_eq_true rfl) dX9_measurePathsTo_72 ?_
    obtain ⟨v10, hv10, h⟩ := xbs h
    refine x_mminE (pc := 75) o mX9_111 w_min1 w_min2 w_min3 (by decide) (Nat.le_of_ble_eq_true rfl) dX9_measurePathsTo_75 hv10 ?_
    obtain ⟨S11, hS11, h⟩ := xbs h
    refine x_iastore (pc := 78) o dX9_measurePathsTo_78 hS11 ?_
    obtain ⟨v12, hv12, h⟩ := xbs h
    refine x_iincE (pc := 79) o dX9_measurePathsTo_79 rfl ic_1 hn4 hv12 ?_
    refine x_goto (pc := 82) (tgt := 47) o dX9_measurePathsTo_82 (by decide) ?_
    refine x_to (l := [(0, .ref (M.2.1 k0)), (2, .int a2), (3, .int a3), (4, .int v12)]) ⟨rfl, rfl, rfl, rfl, trivial⟩ ?_
    exact hrec v12 S11 h
theorem tX9_measurePathsTo_L47 {Γ : xGm} {M : xMg} (o : xOk Γ tC M 2 cX9_measurePathsTo RX9) (hnL : Γ.2.2.2 = 5) (n : Nat) (k0 : Nat) (a2 : Int32) (a3 : Int32) (z : (xSt)) (K : xAt Γ tC M 85 (xlv [(0, .ref (M.2.1 k0)), (2, .int a2), (3, .int a3)]) [] z) : ∀ (q : Nat) (a4 : Int32) (S : xSt), fX9_measurePathsTo_L47 n k0 a2 a3 q a4 S = some z → xAt Γ tC M 47 (xlv [(0, .ref (M.2.1 k0)), (2, .int a2), (3, .int a3), (4, .int a4)]) [] S := by
  intro q
  induction q with
  | zero => intro a4 S h; cases h
  | succ q ih => intro a4 S h; exact tX9_measurePathsTo_L47b o hnL n k0 a2 a3 a4 S z ih K h
def fX9_measurePathsTo_L35b (n : Nat) (k0 : Nat) (a2 : Int32) (rec : Int32 → xSt → Option (xSt)) (a3 : Int32) (S : xSt) : Option (xSt) :=
  (fX9_count k0 ((0 : Int32)) S).bind fun v4 =>
  if v4 ≤ a3 then
  (some S)
else
  ((fX9_measurePathsTo_L47 n k0 a2 a3 n ((0 : Int32)) S).bind fun z14 => (some (a3 + (1 : Int32))).bind fun v15 =>
  rec v15 z14)
def fX9_measurePathsTo_L35 (n : Nat) (k0 : Nat) (a2 : Int32) : Nat → Int32 → xSt → Option (xSt)
  | 0 => fun _ _ => none
  | q + 1 => fX9_measurePathsTo_L35b n k0 a2 (fX9_measurePathsTo_L35 n k0 a2 q)
set_option maxHeartbeats 4000000 in
theorem tX9_measurePathsTo_L35b {Γ : xGm} {M : xMg} (o : xOk Γ tC M 2 cX9_measurePathsTo RX9) (hnL : Γ.2.2.2 = 5) {rec : Int32 → xSt → Option (xSt)} (n : Nat) (k0 : Nat) (a2 : Int32) (a3 : Int32) (S : xSt) (z : (xSt)) (hrec : ∀ (a3 : Int32) (S : xSt), rec a3 S = some z → xAt Γ tC M 35 (xlv [(0, .ref (M.2.1 k0)), (2, .int a2), (3, .int a3)]) [] S) (K : xAt Γ tC M 91 (xlv [(0, .ref (M.2.1 k0)), (2, .int a2)]) [] z) (h : fX9_measurePathsTo_L35b n k0 a2 rec a3 S = some z) : xAt Γ tC M 35 (xlv [(0, .ref (M.2.1 k0)), (2, .int a2), (3, .int a3)]) [] S := by
  have hn3 : 3 < Γ.2.2.2 := by omega
  have hn4 : 4 < Γ.2.2.2 := by omega
  unfold fX9_measurePathsTo_L35b at h
  refine x_iload_n (pc := 35) o dX9_measurePathsTo_35 rfl rfl ?_
  refine x_aload_n (pc := 36) o dX9_measurePathsTo_36 rfl rfl ?_
  refine x_iconst (pc := 37) o dX9_measurePathsTo_37 ic_0 ?_
  obtain ⟨v4, hv4, h⟩ := xbs h
  refine x_callI (pc := 38) (As := [.int ((0 : Int32))]) (b := k0) (rest := [.int a3]) o (tX9_count _ M _ k0 ((0 : Int32)) S v4 hv4) eX9_count mX9_83 clX9 (kX9_count hv4) (by decide) rfl rfl (Nat.le_of_ble_eq_true rfl) dX9_measurePathsTo_38 ?_
  refine x_icmp_ge (pc := 41) (tgt := 91) o dX9_measurePathsTo_41 (by decide) (fun c16 => ?_) (fun c16 => ?_)
  · have h := xit h c16
    refine x_to (l := [(0, .ref (M.2.1 k0)), (2, .int a2)]) ⟨rfl, rfl, trivial⟩ ?_
    cases Option.some.inj h
    exact K
  · have h := xif h c16
    refine x_iconst (pc := 44) o dX9_measurePathsTo_44 ic_0 ?_
    refine x_istore (pc := 45) o dX9_measurePathsTo_45 hn4 ?_
    obtain ⟨z14, hz14, h⟩ := xbs h
    refine x_to (l := [(0, .ref (M.2.1 k0)), (2, .int a2), (3, .int a3), (4, .int ((0 : Int32)))]) ⟨rfl, rfl, rfl, rfl, trivial⟩ ?_
    refine tX9_measurePathsTo_L47 o hnL n k0 a2 a3 z14 ?_ n ((0 : Int32)) S hz14
    obtain ⟨v15, hv15, h⟩ := xbs h
    refine x_iincE (pc := 85) o dX9_measurePathsTo_85 rfl ic_1 hn3 hv15 ?_
    refine x_goto (pc := 88) (tgt := 35) o dX9_measurePathsTo_88 (by decide) ?_
    refine x_to (l := [(0, .ref (M.2.1 k0)), (2, .int a2), (3, .int v15)]) ⟨rfl, rfl, rfl, trivial⟩ ?_
    exact hrec v15 z14 h
theorem tX9_measurePathsTo_L35 {Γ : xGm} {M : xMg} (o : xOk Γ tC M 2 cX9_measurePathsTo RX9) (hnL : Γ.2.2.2 = 5) (n : Nat) (k0 : Nat) (a2 : Int32) (z : (xSt)) (K : xAt Γ tC M 91 (xlv [(0, .ref (M.2.1 k0)), (2, .int a2)]) [] z) : ∀ (q : Nat) (a3 : Int32) (S : xSt), fX9_measurePathsTo_L35 n k0 a2 q a3 S = some z → xAt Γ tC M 35 (xlv [(0, .ref (M.2.1 k0)), (2, .int a2), (3, .int a3)]) [] S := by
  intro q
  induction q with
  | zero => intro a3 S h; cases h
  | succ q ih => intro a3 S h; exact tX9_measurePathsTo_L35b o hnL n k0 a2 a3 S z ih K h
def fX9_measurePathsTo_L27b (n : Nat) (k0 : Nat) (rec : Int32 → xSt → Option (xSt)) (a2 : Int32) (S : xSt) : Option (xSt) :=
  if ((6 : Int32)) ≤ a2 then
  (some S)
else
  ((fX9_measurePathsTo_L35 n k0 a2 n ((0 : Int32)) S).bind fun z17 => (some (a2 + (1 : Int32))).bind fun v18 =>
  rec v18 z17)
def fX9_measurePathsTo_L27 (n : Nat) (k0 : Nat) : Nat → Int32 → xSt → Option (xSt)
  | 0 => fun _ _ => none
  | q + 1 => fX9_measurePathsTo_L27b n k0 (fX9_measurePathsTo_L27 n k0 q)
set_option maxHeartbeats 4000000 in
theorem tX9_measurePathsTo_L27b {Γ : xGm} {M : xMg} (o : xOk Γ tC M 2 cX9_measurePathsTo RX9) (hnL : Γ.2.2.2 = 5) {rec : Int32 → xSt → Option (xSt)} (n : Nat) (k0 : Nat) (a2 : Int32) (S : xSt) (z : (xSt)) (hrec : ∀ (a2 : Int32) (S : xSt), rec a2 S = some z → xAt Γ tC M 27 (xlv [(0, .ref (M.2.1 k0)), (2, .int a2)]) [] S) (K : xAt Γ tC M 97 (xlv []) [] z) (h : fX9_measurePathsTo_L27b n k0 rec a2 S = some z) : xAt Γ tC M 27 (xlv [(0, .ref (M.2.1 k0)), (2, .int a2)]) [] S := by
  have hn2 : 2 < Γ.2.2.2 := by omega
  have hn3 : 3 < Γ.2.2.2 := by omega
  unfold fX9_measurePathsTo_L27b at h
  refine x_iload_n (pc := 27) o dX9_measurePathsTo_27 rfl rfl ?_
  refine x_bipush (pc := 28) o dX9_measurePathsTo_28 bp_6 ?_
  refine x_icmp_ge (pc := 30) (tgt := 97) o dX9_measurePathsTo_30 (by decide) (fun c19 => ?_) (fun c19 => ?_)
  · have h := xit h c19
    refine x_to (l := []) trivial ?_
    cases Option.some.inj h
    exact K
  · have h := xif h c19
    refine x_iconst (pc := 33) o dX9_measurePathsTo_33 ic_0 ?_
    refine x_istore_n (pc := 34) o dX9_measurePathsTo_34 rfl hn3 ?_
    obtain ⟨z17, hz17, h⟩ := xbs h
    refine x_to (l := [(0, .ref (M.2.1 k0)), (2, .int a2), (3, .int ((0 : Int32)))]) ⟨rfl, rfl, rfl, trivial⟩ ?_
    refine tX9_measurePathsTo_L35 o hnL n k0 a2 z17 ?_ n ((0 : Int32)) S hz17
    obtain ⟨v18, hv18, h⟩ := xbs h
    refine x_iincE (pc := 91) o dX9_measurePathsTo_91 rfl ic_1 hn2 hv18 ?_
    refine x_goto (pc := 94) (tgt := 27) o dX9_measurePathsTo_94 (by decide) ?_
    refine x_to (l := [(0, .ref (M.2.1 k0)), (2, .int v18)]) ⟨rfl, rfl, trivial⟩ ?_
    exact hrec v18 z17 h
theorem tX9_measurePathsTo_L27 {Γ : xGm} {M : xMg} (o : xOk Γ tC M 2 cX9_measurePathsTo RX9) (hnL : Γ.2.2.2 = 5) (n : Nat) (k0 : Nat) (z : (xSt)) (K : xAt Γ tC M 97 (xlv []) [] z) : ∀ (q : Nat) (a2 : Int32) (S : xSt), fX9_measurePathsTo_L27 n k0 q a2 S = some z → xAt Γ tC M 27 (xlv [(0, .ref (M.2.1 k0)), (2, .int a2)]) [] S := by
  intro q
  induction q with
  | zero => intro a2 S h; cases h
  | succ q ih => intro a2 S h; exact tX9_measurePathsTo_L27b o hnL n k0 a2 S z ih K h
def fX9_measurePathsTo_B25 (n : Nat) (k0 : Nat) (S : xSt) : Option (xSt) :=
  (fX9_measurePathsTo_L27 n k0 n ((0 : Int32)) S).bind fun z20 => some z20
set_option maxHeartbeats 4000000 in
theorem tX9_measurePathsTo_B25 {Γ : xGm} {M : xMg} (o : xOk Γ tC M 2 cX9_measurePathsTo RX9) (hnL : Γ.2.2.2 = 5) (n : Nat) (k0 : Nat) (S : xSt) (z : (xSt)) (hr : xRV Γ tC M none z) (h : fX9_measurePathsTo_B25 n k0 S = some z) : xAt Γ tC M 25 (xlv [(0, .ref (M.2.1 k0))]) [] S := by
  have hn2 : 2 < Γ.2.2.2 := by omega
  unfold fX9_measurePathsTo_B25 at h
  refine x_iconst (pc := 25) o dX9_measurePathsTo_25 ic_0 ?_
  refine x_istore_n (pc := 26) o dX9_measurePathsTo_26 rfl hn2 ?_
  obtain ⟨z20, hz20, h⟩ := xbs h
  refine x_to (l := [(0, .ref (M.2.1 k0)), (2, .int ((0 : Int32)))]) ⟨rfl, rfl, trivial⟩ ?_
  refine tX9_measurePathsTo_L27 o hnL n k0 z20 ?_ n ((0 : Int32)) S hz20
  exact x_vreturn (pc := 97) o hr dX9_measurePathsTo_97 (Option.some.inj h)
def fX9_measurePathsTo (n : Nat) (k0 : Nat) (a1 : Int32) (S : xSt) : Option (xSt) :=
  if tC.1 k0 = 9 then
  ((xgF tC 9 12 k0 S).bind fun r1 =>
  (fJ7_fill_53178 n r1 ((1000000 : Int32)) S).bind fun S2 =>
  (fX9_holds k0 ((0 : Int32)) a1 S2).bind fun v3 =>
  if v3 = 0 then
  (fX9_measurePathsTo_B25 n k0 S2)
else
  ((xgF tC 9 12 k0 S2).bind fun r21 =>
  (xas tC r21 a1 ((0 : Int32)) S2).bind fun S22 =>
  fX9_measurePathsTo_B25 n k0 S22))
  else none
theorem kX9_measurePathsTo {z : xSt} {n : Nat} {k0 : Nat} {a1 : Int32} {S : xSt} (h : fX9_measurePathsTo n k0 a1 S = some z) : tC.1 k0 = 9 := by
  unfold fX9_measurePathsTo at h
  exact (xck h).1
set_option maxHeartbeats 4000000 in
theorem tX9_measurePathsTo (l : Launch) (M : xMg) (A : Nat → Prop) (n : Nat) (k0 : Nat) (a1 : Int32) (S : xSt) (z : xSt) (h : fX9_measurePathsTo n k0 a1 S = some z) : xMV l yX9_measurePathsTo cX9_measurePathsTo 5 none 2 tC M A [.ref (M.2.1 k0), .int a1] S z := by
  refine x_metV (plainFor_of_name (by decide)) tC_ok (Nat.le_of_ble_eq_true rfl) (fun Γ hA hnL hl hr o => ?_)
  subst hA; subst hl
  have o : xOk Γ tC M 2 cX9_measurePathsTo RX9 := o
  unfold fX9_measurePathsTo at h
  obtain ⟨hk0, h⟩ := xck h
  refine x_to (l := [(0, .ref (M.2.1 k0)), (1, .int a1)]) ⟨rfl, rfl, trivial⟩ ?_
  refine x_aload_n (pc := 0) o dX9_measurePathsTo_0 rfl rfl ?_
  obtain ⟨r1, hr1, h⟩ := xbs h
  refine gX9_48 (pc := 1) o dX9_measurePathsTo_1 hr1 ?_
  refine x_ldc (pc := 4) o kcX9_107 dX9_measurePathsTo_4 ?_
  obtain ⟨S2, hS2, h⟩ := xbs h
  refine x_statV (pc := 6) (As := [.ref (M.2.1 r1), .int ((1000000 : Int32))]) (rest := []) o (tJ7_fill_53178 _ M _ n r1 ((1000000 : Int32)) S S2 hS2) eJ7_fill_53178 mX9_74 (by decide) rfl rfl (Nat.le_of_ble_eq_true rfl) dX9_measurePathsTo_6 ?_
  refine x_aload_n (pc := 9) o dX9_measurePathsTo_9 rfl rfl ?_
  refine x_iconst (pc := 10) o dX9_measurePathsTo_10 ic_0 ?_
  refine x_iload_n (pc := 11) o dX9_measurePathsTo_11 rfl rfl ?_
  obtain ⟨v3, hv3, h⟩ := xbs h
  refine x_callI (pc := 12) (As := [.int ((0 : Int32)), .int a1]) (b := k0) (rest := []) o (tX9_holds _ M _ k0 ((0 : Int32)) a1 S2 v3 hv3) eX9_holds mX9_87 clX9 (kX9_holds hv3) (by decide) rfl rfl (Nat.le_of_ble_eq_true rfl) dX9_measurePathsTo_12 ?_
  refine x_if_eq (pc := 15) (tgt := 25) o dX9_measurePathsTo_15 (by decide) (fun c23 => ?_) (fun c23 => ?_)
  · have h := xit h c23
    refine x_to (l := [(0, .ref (M.2.1 k0))]) ⟨rfl, trivial⟩ ?_
    exact tX9_measurePathsTo_B25 o hnL n k0 S2 z hr h
  · have h := xif h c23
    refine x_aload_n (pc := 18) o dX9_measurePathsTo_18 rfl rfl ?_
    obtain ⟨r21, hr21, h⟩ := xbs h
    refine gX9_48 (pc := 19) o dX9_measurePathsTo_19 hr21 ?_
    refine x_iload_n (pc := 22) o dX9_measurePathsTo_22 rfl rfl ?_
    refine x_iconst (pc := 23) o dX9_measurePathsTo_23 ic_0 ?_
    obtain ⟨S22, hS22, h⟩ := xbs h
    refine x_iastore (pc := 24) o dX9_measurePathsTo_24 hS22 ?_
    refine x_to (l := [(0, .ref (M.2.1 k0))]) ⟨rfl, trivial⟩ ?_
    exact tX9_measurePathsTo_B25 o hnL n k0 S22 z hr h
def fX9_pathPrice (k0 : Nat) (a1 : Int32) (S : xSt) : Option (Int32) :=
  if tC.1 k0 = 9 then
  ((fX9_holds k0 ((0 : Int32)) a1 S).bind fun v1 =>
  if v1 = 0 then
  (some ((-1 : Int32)))
else
  ((xgF tC 9 12 k0 S).bind fun r2 =>
  (xal tC r2 a1 S).bind fun v3 =>
  if ((1000000 : Int32)) ≤ v3 then
  (some ((-1 : Int32)))
else
  ((xgF tC 9 12 k0 S).bind fun r4 =>
  (xal tC r4 a1 S).bind fun v5 =>
  if ((8 : Int32)) = 0 then none else
  some (v5 / ((8 : Int32))))))
  else none
theorem kX9_pathPrice {z : Int32} {k0 : Nat} {a1 : Int32} {S : xSt} (h : fX9_pathPrice k0 a1 S = some z) : tC.1 k0 = 9 := by
  unfold fX9_pathPrice at h
  exact (xck h).1
set_option maxHeartbeats 4000000 in
theorem tX9_pathPrice (l : Launch) (M : xMg) (A : Nat → Prop) (k0 : Nat) (a1 : Int32) (S : xSt) (z : Int32) (h : fX9_pathPrice k0 a1 S = some z) : xMI l yX9_pathPrice cX9_pathPrice 2 (some .int) 2 tC M A [.ref (M.2.1 k0), .int a1] S z S := by
  refine x_metI (plainFor_of_name (by decide)) tC_ok (Nat.le_of_ble_eq_true rfl) (fun Γ hA hnL hl hr o => ?_)
  subst hA; subst hl
  have o : xOk Γ tC M 2 cX9_pathPrice RX9 := o
  unfold fX9_pathPrice at h
  obtain ⟨hk0, h⟩ := xck h
  refine x_to (l := [(0, .ref (M.2.1 k0)), (1, .int a1)]) ⟨rfl, rfl, trivial⟩ ?_
  refine x_aload_n (pc := 0) o dX9_pathPrice_0 rfl rfl ?_
  refine x_iconst (pc := 1) o dX9_pathPrice_1 ic_0 ?_
  refine x_iload_n (pc := 2) o dX9_pathPrice_2 rfl rfl ?_
  obtain ⟨v1, hv1, h⟩ := xbs h
  refine x_callI (pc := 3) (As := [.int ((0 : Int32)), .int a1]) (b := k0) (rest := []) o (tX9_holds _ M _ k0 ((0 : Int32)) a1 S v1 hv1) eX9_holds mX9_87 clX9 (kX9_holds hv1) (by decide) rfl rfl (Nat.le_of_ble_eq_true rfl) dX9_pathPrice_3 ?_
  refine x_if_eq (pc := 6) (tgt := 32) o dX9_pathPrice_6 (by decide) (fun c7 => ?_) (fun c7 => ?_)
  · have h := xit h c7
    refine x_iconst (pc := 32) o dX9_pathPrice_32 ic_m1 ?_
    exact x_ireturn (pc := 33) o hr dX9_pathPrice_33 (Option.some.inj h) rfl
  · have h := xif h c7
    refine x_aload_n (pc := 9) o dX9_pathPrice_9 rfl rfl ?_
    obtain ⟨r2, hr2, h⟩ := xbs h
    refine gX9_48 (pc := 10) o dX9_pathPrice_10 hr2 ?_
    refine x_iload_n (pc := 13) o dX9_pathPrice_13 rfl rfl ?_
    obtain ⟨v3, hv3, h⟩ := xbs h
    refine x_iaload (pc := 14) o dX9_pathPrice_14 hv3 ?_
    refine x_ldc (pc := 15) o kcX9_107 dX9_pathPrice_15 ?_
    refine x_icmp_ge (pc := 17) (tgt := 32) o dX9_pathPrice_17 (by decide) (fun c6 => ?_) (fun c6 => ?_)
    · have h := xit h c6
      refine x_iconst (pc := 32) o dX9_pathPrice_32 ic_m1 ?_
      exact x_ireturn (pc := 33) o hr dX9_pathPrice_33 (Option.some.inj h) rfl
    · have h := xif h c6
      refine x_aload_n (pc := 20) o dX9_pathPrice_20 rfl rfl ?_
      obtain ⟨r4, hr4, h⟩ := xbs h
      refine gX9_48 (pc := 21) o dX9_pathPrice_21 hr4 ?_
      refine x_iload_n (pc := 24) o dX9_pathPrice_24 rfl rfl ?_
      obtain ⟨v5, hv5, h⟩ := xbs h
      refine x_iaload (pc := 25) o dX9_pathPrice_25 hv5 ?_
      refine x_bipush (pc := 26) o dX9_pathPrice_26 bp_8 ?_
      obtain ⟨hq, h⟩ := xcn h
      refine x_idiv (pc := 28) o dX9_pathPrice_28 hq ?_
      refine x_goto (pc := 29) (tgt := 33) o dX9_pathPrice_29 (by decide) ?_
      exact x_ireturn (pc := 33) o hr dX9_pathPrice_33 (Option.some.inj h) rfl
def fX9_nextOnPath_L18b (n : Nat) (k0 : Nat) (a1 : Int32) (S : xSt) (rec : Int32 → Option ((Unit) ⊕ (Int32))) (a3 : Int32) : Option ((Unit) ⊕ (Int32)) :=
  (fX9_count k0 ((0 : Int32)) S).bind fun v2 =>
  if v2 ≤ a3 then
  (some (.inl ()))
else
  ((fX9_lengthOver k0 a1 a3 S).bind fun v3 =>
  (xgF tC 9 12 k0 S).bind fun r4 =>
  (xal tC r4 a1 S).bind fun v5 =>
  if v3 = v5 then
  (some (.inr a3))
else
  ((some (a3 + (1 : Int32))).bind fun v6 =>
  rec v6))
def fX9_nextOnPath_L18 (n : Nat) (k0 : Nat) (a1 : Int32) (S : xSt) : Nat → Int32 → Option ((Unit) ⊕ (Int32))
  | 0 => fun _ => none
  | q + 1 => fX9_nextOnPath_L18b n k0 a1 S (fX9_nextOnPath_L18 n k0 a1 S q)
set_option maxHeartbeats 4000000 in
theorem tX9_nextOnPath_L18b {Γ : xGm} {M : xMg} (o : xOk Γ tC M 3 cX9_nextOnPath RX9) (hnL : Γ.2.2.2 = 4) {rec : Int32 → Option ((Unit) ⊕ (Int32))} (n : Nat) (k0 : Nat) (a1 : Int32) (S : xSt) (a3 : Int32) (z : ((Unit) ⊕ (Int32))) (hrec : ∀ (a3 : Int32), rec a3 = some z → xAt Γ tC M 18 (xlv [(0, .ref (M.2.1 k0)), (1, .int a1), (3, .int a3)]) [] S) (K : ∀ e, z = .inl e → xAt Γ tC M 50 (xlv []) [] S) (R : ∀ r, z = .inr r → xRI Γ tC M (some .int) r S) (h : fX9_nextOnPath_L18b n k0 a1 S rec a3 = some z) : xAt Γ tC M 18 (xlv [(0, .ref (M.2.1 k0)), (1, .int a1), (3, .int a3)]) [] S := by
  have hn3 : 3 < Γ.2.2.2 := by omega
  unfold fX9_nextOnPath_L18b at h
  refine x_iload_n (pc := 18) o dX9_nextOnPath_18 rfl rfl ?_
  refine x_aload_n (pc := 19) o dX9_nextOnPath_19 rfl rfl ?_
  refine x_iconst (pc := 20) o dX9_nextOnPath_20 ic_0 ?_
  obtain ⟨v2, hv2, h⟩ := xbs h
  refine x_callI (pc := 21) (As := [.int ((0 : Int32))]) (b := k0) (rest := [.int a3]) o (tX9_count _ M _ k0 ((0 : Int32)) S v2 hv2) eX9_count mX9_83 clX9 (kX9_count hv2) (by decide) rfl rfl (Nat.le_of_ble_eq_true rfl) dX9_nextOnPath_21 ?_
  refine x_icmp_ge (pc := 24) (tgt := 50) o dX9_nextOnPath_24 (by decide) (fun c8 => ?_) (fun c8 => ?_)
  · have h := xit h c8
    refine x_to (l := []) trivial ?_
    exact K _ (Option.some.inj h).symm
  · have h := xif h c8
    refine x_aload_n (pc := 27) o dX9_nextOnPath_27 rfl rfl ?_
    refine x_iload_n (pc := 28) o dX9_nextOnPath_28 rfl rfl ?_
    refine x_iload_n (pc := 29) o dX9_nextOnPath_29 rfl rfl ?_
    obtain ⟨v3, hv3, h⟩ := xbs h
    refine x_callI (pc := 30) (As := [.int a1, .int a3]) (b := k0) (rest := []) o (tX9_lengthOver _ M _ k0 a1 a3 S v3 hv3) eX9_lengthOver mX9_108 clX9 (kX9_lengthOver hv3) (by decide) rfl rfl (Nat.le_of_ble_eq_true rfl) dX9_nextOnPath_30 ?_
    refine x_aload_n (pc := 33) o dX9_nextOnPath_33 rfl rfl ?_
    obtain ⟨r4, hr4, h⟩ := xbs h
    refine gX9_48 (pc := 34) o dX9_nextOnPath_34 hr4 ?_
    refine x_iload_n (pc := 37) o dX9_nextOnPath_37 rfl rfl ?_
    obtain ⟨v5, hv5, h⟩ := xbs h
    refine x_iaload (pc := 38) o dX9_nextOnPath_38 hv5 ?_
    refine x_icmp_ne (pc := 39) (tgt := 44) o dX9_nextOnPath_39 (by decide) (fun c7 => ?_) (fun c7 => ?_)
    · have h := xif h c7
      obtain ⟨v6, hv6, h⟩ := xbs h
      refine x_iincE (pc := 44) o dX9_nextOnPath_44 rfl ic_1 hn3 hv6 ?_
      refine x_goto (pc := 47) (tgt := 18) o dX9_nextOnPath_47 (by decide) ?_
      refine x_to (l := [(0, .ref (M.2.1 k0)), (1, .int a1), (3, .int v6)]) ⟨rfl, rfl, rfl, trivial⟩ ?_
      exact hrec v6 h
    · have h := xit h c7
      refine x_iload_n (pc := 42) o dX9_nextOnPath_42 rfl rfl ?_
      exact x_ireturn (pc := 43) o (R _ (Option.some.inj h).symm) dX9_nextOnPath_43 rfl rfl
theorem tX9_nextOnPath_L18 {Γ : xGm} {M : xMg} (o : xOk Γ tC M 3 cX9_nextOnPath RX9) (hnL : Γ.2.2.2 = 4) (n : Nat) (k0 : Nat) (a1 : Int32) (S : xSt) (z : ((Unit) ⊕ (Int32))) (K : ∀ e, z = .inl e → xAt Γ tC M 50 (xlv []) [] S) (R : ∀ r, z = .inr r → xRI Γ tC M (some .int) r S) : ∀ (q : Nat) (a3 : Int32), fX9_nextOnPath_L18 n k0 a1 S q a3 = some z → xAt Γ tC M 18 (xlv [(0, .ref (M.2.1 k0)), (1, .int a1), (3, .int a3)]) [] S := by
  intro q
  induction q with
  | zero => intro a3 h; cases h
  | succ q ih => intro a3 h; exact tX9_nextOnPath_L18b o hnL n k0 a1 S a3 z ih K R h
def fX9_nextOnPath (n : Nat) (k0 : Nat) (a1 : Int32) (a2 : Int32) (S : xSt) : Option (Int32) :=
  if tC.1 k0 = 9 then
  (if a1 = a2 then
  (some ((-1 : Int32)))
else
  ((fX9_pathPrice k0 a1 S).bind fun v1 =>
  if v1 = ((-1 : Int32)) then
  (some ((-1 : Int32)))
else
  ((fX9_nextOnPath_L18 n k0 a1 S n ((0 : Int32))).bind fun z9 => xel z9 (fun ez9 => some ((-1 : Int32))) (fun r => some r))))
  else none
theorem kX9_nextOnPath {z : Int32} {n : Nat} {k0 : Nat} {a1 : Int32} {a2 : Int32} {S : xSt} (h : fX9_nextOnPath n k0 a1 a2 S = some z) : tC.1 k0 = 9 := by
  unfold fX9_nextOnPath at h
  exact (xck h).1
set_option maxHeartbeats 4000000 in
theorem tX9_nextOnPath (l : Launch) (M : xMg) (A : Nat → Prop) (n : Nat) (k0 : Nat) (a1 : Int32) (a2 : Int32) (S : xSt) (z : Int32) (h : fX9_nextOnPath n k0 a1 a2 S = some z) : xMI l yX9_nextOnPath cX9_nextOnPath 4 (some .int) 3 tC M A [.ref (M.2.1 k0), .int a1, .int a2] S z S := by
  refine x_metI (plainFor_of_name (by decide)) tC_ok (Nat.le_of_ble_eq_true rfl) (fun Γ hA hnL hl hr o => ?_)
  subst hA; subst hl
  have o : xOk Γ tC M 3 cX9_nextOnPath RX9 := o
  unfold fX9_nextOnPath at h
  obtain ⟨hk0, h⟩ := xck h
  refine x_to (l := [(0, .ref (M.2.1 k0)), (1, .int a1), (2, .int a2)]) ⟨rfl, rfl, rfl, trivial⟩ ?_
  have hn3 : 3 < Γ.2.2.2 := by omega
  refine x_iload_n (pc := 0) o dX9_nextOnPath_0 rfl rfl ?_
  refine x_iload_n (pc := 1) o dX9_nextOnPath_1 rfl rfl ?_
  refine x_icmp_eq (pc := 2) (tgt := 14) o dX9_nextOnPath_2 (by decide) (fun c11 => ?_) (fun c11 => ?_)
  · have h := xit h c11
    refine x_iconst (pc := 14) o dX9_nextOnPath_14 ic_m1 ?_
    exact x_ireturn (pc := 15) o hr dX9_nextOnPath_15 (Option.some.inj h) rfl
  · have h := xif h c11
    refine x_aload_n (pc := 5) o dX9_nextOnPath_5 rfl rfl ?_
    refine x_iload_n (pc := 6) o dX9_nextOnPath_6 rfl rfl ?_
    obtain ⟨v1, hv1, h⟩ := xbs h
    refine x_callI (pc := 7) (As := [.int a1]) (b := k0) (rest := []) o (tX9_pathPrice _ M _ k0 a1 S v1 hv1) eX9_pathPrice mX9_117 clX9 (kX9_pathPrice hv1) (by decide) rfl rfl (Nat.le_of_ble_eq_true rfl) dX9_nextOnPath_7 ?_
    refine x_iconst (pc := 10) o dX9_nextOnPath_10 ic_m1 ?_
    refine x_icmp_ne (pc := 11) (tgt := 16) o dX9_nextOnPath_11 (by decide) (fun c10 => ?_) (fun c10 => ?_)
    · have h := xif h c10
      refine x_iconst (pc := 16) o dX9_nextOnPath_16 ic_0 ?_
      refine x_istore_n (pc := 17) o dX9_nextOnPath_17 rfl hn3 ?_
      obtain ⟨z9, hz9, h⟩ := xbs h
      refine x_to (l := [(0, .ref (M.2.1 k0)), (1, .int a1), (3, .int ((0 : Int32)))]) ⟨rfl, rfl, rfl, trivial⟩ ?_
      refine tX9_nextOnPath_L18 o hnL n k0 a1 S z9 (fun ez9 he => ?_) (fun r he => ?_) n ((0 : Int32)) hz9
      · subst he; have h := xel_l h
        refine x_iconst (pc := 50) o dX9_nextOnPath_50 ic_m1 ?_
        exact x_ireturn (pc := 51) o hr dX9_nextOnPath_51 (Option.some.inj h) rfl
      · subst he; have h := xel_r h
        cases Option.some.inj h
        exact hr
    · have h := xit h c10
      refine x_iconst (pc := 14) o dX9_nextOnPath_14 ic_m1 ?_
      exact x_ireturn (pc := 15) o hr dX9_nextOnPath_15 (Option.some.inj h) rfl
def fX9_pathKind_L6b (n : Nat) (k0 : Nat) (a1 : Int32) (a3 : Int32) (S : xSt) (rec : Int32 → Int32 → Option ((Int32) ⊕ (Int32))) (a4 : Int32) (a5 : Int32) : Option ((Int32) ⊕ (Int32)) :=
  if ((6 : Int32)) ≤ a5 then
  (some (.inl a4))
else
  (if a3 < a5 then
  (some (.inl a4))
else
  ((fX9_nextOnPath n k0 a4 a1 S).bind fun v1 =>
  if v1 = ((-1 : Int32)) then
  (some (.inr ((-1 : Int32))))
else
  ((some (a5 + (1 : Int32))).bind fun v2 =>
  rec v1 v2)))
def fX9_pathKind_L6 (n : Nat) (k0 : Nat) (a1 : Int32) (a3 : Int32) (S : xSt) : Nat → Int32 → Int32 → Option ((Int32) ⊕ (Int32))
  | 0 => fun _ _ => none
  | q + 1 => fX9_pathKind_L6b n k0 a1 a3 S (fX9_pathKind_L6 n k0 a1 a3 S q)
set_option maxHeartbeats 4000000 in
theorem tX9_pathKind_L6b {Γ : xGm} {M : xMg} (o : xOk Γ tC M 4 cX9_pathKind RX9) (hnL : Γ.2.2.2 = 6) {rec : Int32 → Int32 → Option ((Int32) ⊕ (Int32))} (n : Nat) (k0 : Nat) (a1 : Int32) (a3 : Int32) (S : xSt) (a4 : Int32) (a5 : Int32) (z : ((Int32) ⊕ (Int32))) (hrec : ∀ (a4 : Int32) (a5 : Int32), rec a4 a5 = some z → xAt Γ tC M 6 (xlv [(0, .ref (M.2.1 k0)), (1, .int a1), (3, .int a3), (4, .int a4), (5, .int a5)]) [] S) (K : ∀ e, z = .inl e → xAt Γ tC M 42 (xlv [(3, .int a3), (4, .int e)]) [] S) (R : ∀ r, z = .inr r → xRI Γ tC M (some .int) r S) (h : fX9_pathKind_L6b n k0 a1 a3 S rec a4 a5 = some z) : xAt Γ tC M 6 (xlv [(0, .ref (M.2.1 k0)), (1, .int a1), (3, .int a3), (4, .int a4), (5, .int a5)]) [] S := by
  have hn4 : 4 < Γ.2.2.2 := by omega
  have hn5 : 5 < Γ.2.2.2 := by omega
  unfold fX9_pathKind_L6b at h
  refine x_iload (pc := 6) o dX9_pathKind_6 rfl ?_
  refine x_bipush (pc := 8) o dX9_pathKind_8 bp_6 ?_
  refine x_icmp_ge (pc := 10) (tgt := 42) o dX9_pathKind_10 (by decide) (fun c5 => ?_) (fun c5 => ?_)
  · have h := xit h c5
    refine x_to (l := [(3, .int a3), (4, .int a4)]) ⟨rfl, rfl, trivial⟩ ?_
    exact K _ (Option.some.inj h).symm
  · have h := xif h c5
    refine x_iload (pc := 13) o dX9_pathKind_13 rfl ?_
    refine x_iload_n (pc := 15) o dX9_pathKind_15 rfl rfl ?_
    refine x_icmp_gt (pc := 16) (tgt := 42) o dX9_pathKind_16 (by decide) (fun c4 => ?_) (fun c4 => ?_)
    · have h := xit h c4
      refine x_to (l := [(3, .int a3), (4, .int a4)]) ⟨rfl, rfl, trivial⟩ ?_
      exact K _ (Option.some.inj h).symm
    · have h := xif h c4
      refine x_aload_n (pc := 19) o dX9_pathKind_19 rfl rfl ?_
      refine x_iload (pc := 20) o dX9_pathKind_20 rfl ?_
      refine x_iload_n (pc := 22) o dX9_pathKind_22 rfl rfl ?_
      obtain ⟨v1, hv1, h⟩ := xbs h
      refine x_callI (pc := 23) (As := [.int a4, .int a1]) (b := k0) (rest := []) o (tX9_nextOnPath _ M _ n k0 a4 a1 S v1 hv1) eX9_nextOnPath mX9_114 clX9 (kX9_nextOnPath hv1) (by decide) rfl rfl (Nat.le_of_ble_eq_true rfl) dX9_pathKind_23 ?_
      refine x_istore (pc := 26) o dX9_pathKind_26 hn4 ?_
      refine x_iload (pc := 28) o dX9_pathKind_28 rfl ?_
      refine x_iconst (pc := 30) o dX9_pathKind_30 ic_m1 ?_
      refine x_icmp_ne (pc := 31) (tgt := 36) o dX9_pathKind_31 (by decide) (fun c3 => ?_) (fun c3 => ?_)
      · have h := xif h c3
        obtain ⟨v2, hv2, h⟩ := xbs h
        refine x_iincE (pc := 36) o dX9_pathKind_36 rfl ic_1 hn5 hv2 ?_
        refine x_goto (pc := 39) (tgt := 6) o dX9_pathKind_39 (by decide) ?_
        refine x_to (l := [(0, .ref (M.2.1 k0)), (1, .int a1), (3, .int a3), (4, .int v1), (5, .int v2)]) ⟨rfl, rfl, rfl, rfl, rfl, trivial⟩ ?_
        exact hrec v1 v2 h
      · have h := xit h c3
        refine x_iconst (pc := 34) o dX9_pathKind_34 ic_m1 ?_
        exact x_ireturn (pc := 35) o (R _ (Option.some.inj h).symm) dX9_pathKind_35 rfl rfl
theorem tX9_pathKind_L6 {Γ : xGm} {M : xMg} (o : xOk Γ tC M 4 cX9_pathKind RX9) (hnL : Γ.2.2.2 = 6) (n : Nat) (k0 : Nat) (a1 : Int32) (a3 : Int32) (S : xSt) (z : ((Int32) ⊕ (Int32))) (K : ∀ e, z = .inl e → xAt Γ tC M 42 (xlv [(3, .int a3), (4, .int e)]) [] S) (R : ∀ r, z = .inr r → xRI Γ tC M (some .int) r S) : ∀ (q : Nat) (a4 : Int32) (a5 : Int32), fX9_pathKind_L6 n k0 a1 a3 S q a4 a5 = some z → xAt Γ tC M 6 (xlv [(0, .ref (M.2.1 k0)), (1, .int a1), (3, .int a3), (4, .int a4), (5, .int a5)]) [] S := by
  intro q
  induction q with
  | zero => intro a4 a5 h; cases h
  | succ q ih => intro a4 a5 h; exact tX9_pathKind_L6b o hnL n k0 a1 a3 S a4 a5 z ih K R h
def fX9_pathKind (n : Nat) (k0 : Nat) (a1 : Int32) (a2 : Int32) (a3 : Int32) (S : xSt) : Option (Int32) :=
  if tC.1 k0 = 9 then
  ((fX9_pathKind_L6 n k0 a1 a3 S n a2 ((0 : Int32))).bind fun z6 => xel z6 (fun ez6 => if ((6 : Int32)) ≤ a3 then
  (some ((-1 : Int32)))
else
  (some ez6)) (fun r => some r))
  else none
theorem kX9_pathKind {z : Int32} {n : Nat} {k0 : Nat} {a1 : Int32} {a2 : Int32} {a3 : Int32} {S : xSt} (h : fX9_pathKind n k0 a1 a2 a3 S = some z) : tC.1 k0 = 9 := by
  unfold fX9_pathKind at h
  exact (xck h).1
set_option maxHeartbeats 4000000 in
theorem tX9_pathKind (l : Launch) (M : xMg) (A : Nat → Prop) (n : Nat) (k0 : Nat) (a1 : Int32) (a2 : Int32) (a3 : Int32) (S : xSt) (z : Int32) (h : fX9_pathKind n k0 a1 a2 a3 S = some z) : xMI l yX9_pathKind cX9_pathKind 6 (some .int) 4 tC M A [.ref (M.2.1 k0), .int a1, .int a2, .int a3] S z S := by
  refine x_metI (plainFor_of_name (by decide)) tC_ok (Nat.le_of_ble_eq_true rfl) (fun Γ hA hnL hl hr o => ?_)
  subst hA; subst hl
  have o : xOk Γ tC M 4 cX9_pathKind RX9 := o
  unfold fX9_pathKind at h
  obtain ⟨hk0, h⟩ := xck h
  refine x_to (l := [(0, .ref (M.2.1 k0)), (1, .int a1), (2, .int a2), (3, .int a3)]) ⟨rfl, rfl, rfl, rfl, trivial⟩ ?_
  have hn4 : 4 < Γ.2.2.2 := by omega
  have hn5 : 5 < Γ.2.2.2 := by omega
  refine x_iload_n (pc := 0) o dX9_pathKind_0 rfl rfl ?_
  refine x_istore (pc := 1) o dX9_pathKind_1 hn4 ?_
  refine x_iconst (pc := 3) o dX9_pathKind_3 ic_0 ?_
  refine x_istore (pc := 4) o dX9_pathKind_4 hn5 ?_
  obtain ⟨z6, hz6, h⟩ := xbs h
  refine x_to (l := [(0, .ref (M.2.1 k0)), (1, .int a1), (3, .int a3), (4, .int a2), (5, .int ((0 : Int32)))]) ⟨rfl, rfl, rfl, rfl, rfl, trivial⟩ ?_
  refine tX9_pathKind_L6 o hnL n k0 a1 a3 S z6 (fun ez6 he => ?_) (fun r he => ?_) n a2 ((0 : Int32)) hz6
  · subst he; have h := xel_l h
    refine x_iload_n (pc := 42) o dX9_pathKind_42 rfl rfl ?_
    refine x_bipush (pc := 43) o dX9_pathKind_43 bp_6 ?_
    refine x_icmp_ge (pc := 45) (tgt := 53) o dX9_pathKind_45 (by decide) (fun c7 => ?_) (fun c7 => ?_)
    · have h := xit h c7
      refine x_iconst (pc := 53) o dX9_pathKind_53 ic_m1 ?_
      exact x_ireturn (pc := 54) o hr dX9_pathKind_54 (Option.some.inj h) rfl
    · have h := xif h c7
      refine x_iload (pc := 48) o dX9_pathKind_48 rfl ?_
      refine x_goto (pc := 50) (tgt := 54) o dX9_pathKind_50 (by decide) ?_
      exact x_ireturn (pc := 54) o hr dX9_pathKind_54 (Option.some.inj h) rfl
  · subst he; have h := xel_r h
    cases Option.some.inj h
    exact hr
def fX10_opensRule (n : Nat) (k0 : Nat) (a1 : Int32) (S : xSt) : Option (Int32 × xSt) :=
  if tC.1 k0 = 10 then
  (if a1 = 0 then
  ((xgF tC 10 0 k0 S).bind fun r1 =>
  (fX7_advance n r1 S).bind fun S2 =>
  some ((1 : Int32), S2))
else
  ((xgF tC 10 0 k0 S).bind fun r3 =>
  (xgF tC 10 0 k0 S).bind fun r4 =>
  (xgI tC 7 5 r4 S).bind fun v5 =>
  (fX7_fail r3 ((6 : Int32)) v5 S).bind fun q6 =>
  if q6.1 = 0 ∨ q6.1 = 1 then (some (q6.1, q6.2)) else none))
  else none
theorem kX10_opensRule {z : Int32 × xSt} {n : Nat} {k0 : Nat} {a1 : Int32} {S : xSt} (h : fX10_opensRule n k0 a1 S = some z) : tC.1 k0 = 10 := by
  unfold fX10_opensRule at h
  exact (xck h).1
set_option maxHeartbeats 4000000 in
theorem tX10_opensRule (l : Launch) (M : xMg) (A : Nat → Prop) (n : Nat) (k0 : Nat) (a1 : Int32) (S : xSt) (z : Int32 × xSt) (h : fX10_opensRule n k0 a1 S = some z) : xMI l yX10_opensRule cX10_opensRule 2 (some .boolean) 4 tC M A [.ref (M.2.1 k0), .int a1] S z.1 z.2 := by
  refine x_metI (plainFor_of_name (by decide)) tC_ok (Nat.le_of_ble_eq_true rfl) (fun Γ hA hnL hl hr o => ?_)
  subst hA; subst hl
  have o : xOk Γ tC M 4 cX10_opensRule RX10 := o
  unfold fX10_opensRule at h
  obtain ⟨hk0, h⟩ := xck h
  refine x_to (l := [(0, .ref (M.2.1 k0)), (1, .int a1)]) ⟨rfl, rfl, trivial⟩ ?_
  refine x_iload_n (pc := 0) o dX10_opensRule_0 rfl rfl ?_
  refine x_if_eq (pc := 1) (tgt := 21) o dX10_opensRule_1 (by decide) (fun c7 => ?_) (fun c7 => ?_)
  · have h := xit h c7
    refine x_aload_n (pc := 21) o dX10_opensRule_21 rfl rfl ?_
    obtain ⟨r1, hr1, h⟩ := xbs h
    refine gX10_9 (pc := 22) o dX10_opensRule_22 hr1 ?_
    obtain ⟨S2, hS2, h⟩ := xbs h
    refine x_callV (pc := 25) (As := []) (b := r1) (rest := []) o (tX7_advance _ M _ n r1 S S2 hS2) eX7_advance mX10_130 clX7 (kX7_advance hS2) (by decide) rfl rfl (Nat.le_of_ble_eq_true rfl) dX10_opensRule_25 ?_
    refine x_iconst (pc := 28) o dX10_opensRule_28 ic_1 ?_
    exact x_zreturn (pc := 29) o hr dX10_opensRule_29 (by decide) (xr1 h) (xr2 h)
  · have h := xif h c7
    refine x_aload_n (pc := 4) o dX10_opensRule_4 rfl rfl ?_
    obtain ⟨r3, hr3, h⟩ := xbs h
    refine gX10_9 (pc := 5) o dX10_opensRule_5 hr3 ?_
    refine x_bipush (pc := 8) o dX10_opensRule_8 bp_6 ?_
    refine x_aload_n (pc := 10) o dX10_opensRule_10 rfl rfl ?_
    obtain ⟨r4, hr4, h⟩ := xbs h
    refine gX10_9 (pc := 11) o dX10_opensRule_11 hr4 ?_
    obtain ⟨v5, hv5, h⟩ := xbs h
    refine gX10_47 (pc := 14) o dX10_opensRule_14 hv5 ?_
    obtain ⟨q6, hq6, h⟩ := xbs h
    refine x_callI (pc := 17) (As := [.int ((6 : Int32)), .int v5]) (b := r3) (rest := []) o (tX7_fail _ M _ r3 ((6 : Int32)) v5 S q6 hq6) eX7_fail mX10_50 clX7 (kX7_fail hq6) (by decide) rfl rfl (Nat.le_of_ble_eq_true rfl) dX10_opensRule_17 ?_
    obtain ⟨hz, h⟩ := xck h
    exact x_zreturn (pc := 20) o hr dX10_opensRule_20 hz (xr1 h) (xr2 h)
def fX10_opensSort (n : Nat) (k0 : Nat) (a1 : Int32) (S : xSt) : Option (Int32 × xSt) :=
  if tC.1 k0 = 10 then
  ((xgM tC 10 2 k0 S).bind fun r1 =>
  (fX9_isFull r1 a1 S).bind fun v2 =>
  (fX10_opensRule n k0 v2 S).bind fun q3 =>
  if q3.1 = 0 ∨ q3.1 = 1 then (some (q3.1, q3.2)) else none)
  else none
theorem kX10_opensSort {z : Int32 × xSt} {n : Nat} {k0 : Nat} {a1 : Int32} {S : xSt} (h : fX10_opensSort n k0 a1 S = some z) : tC.1 k0 = 10 := by
  unfold fX10_opensSort at h
  exact (xck h).1
set_option maxHeartbeats 4000000 in
theorem tX10_opensSort (l : Launch) (M : xMg) (A : Nat → Prop) (n : Nat) (k0 : Nat) (a1 : Int32) (S : xSt) (z : Int32 × xSt) (h : fX10_opensSort n k0 a1 S = some z) : xMI l yX10_opensSort cX10_opensSort 2 (some .boolean) 5 tC M A [.ref (M.2.1 k0), .int a1] S z.1 z.2 := by
  refine x_metI (plainFor_of_name (by decide)) tC_ok (Nat.le_of_ble_eq_true rfl) (fun Γ hA hnL hl hr o => ?_)
  subst hA; subst hl
  have o : xOk Γ tC M 5 cX10_opensSort RX10 := o
  unfold fX10_opensSort at h
  obtain ⟨hk0, h⟩ := xck h
  refine x_to (l := [(0, .ref (M.2.1 k0)), (1, .int a1)]) ⟨rfl, rfl, trivial⟩ ?_
  refine x_aload_n (pc := 0) o dX10_opensSort_0 rfl rfl ?_
  refine x_aload_n (pc := 1) o dX10_opensSort_1 rfl rfl ?_
  obtain ⟨r1, hr1, h⟩ := xbs h
  refine gX10_30 (pc := 2) o dX10_opensSort_2 hr1 ?_
  refine x_iload_n (pc := 5) o dX10_opensSort_5 rfl rfl ?_
  obtain ⟨v2, hv2, h⟩ := xbs h
  refine x_callI (pc := 6) (As := [.int a1]) (b := r1) (rest := [.ref (M.2.1 k0)]) o (tX9_isFull _ M _ r1 a1 S v2 hv2) eX9_isFull mX10_127 clX9 (kX9_isFull hv2) (by decide) rfl rfl (Nat.le_of_ble_eq_true rfl) dX10_opensSort_6 ?_
  obtain ⟨q3, hq3, h⟩ := xbs h
  refine x_callI (pc := 9) (As := [.int v2]) (b := k0) (rest := []) o (tX10_opensRule _ M _ n k0 v2 S q3 hq3) eX10_opensRule mX10_95 clX10 (kX10_opensRule hq3) (by decide) rfl rfl (Nat.le_of_ble_eq_true rfl) dX10_opensSort_9 ?_
  obtain ⟨hz, h⟩ := xck h
  exact x_zreturn (pc := 12) o hr dX10_opensSort_12 hz (xr1 h) (xr2 h)
def fX10_isNameHere (k0 : Nat) (S : xSt) : Option (Int32 × xSt) :=
  if tC.1 k0 = 10 then
  ((xgF tC 10 0 k0 S).bind fun r1 =>
  (xgI tC 7 4 r1 S).bind fun v2 =>
  if v2 = ((1 : Int32)) then
  ((xgF tC 10 0 k0 S).bind fun r6 =>
  (xgI tC 7 8 r6 S).bind fun v7 =>
  if v7 = ((-1 : Int32)) then
  (some ((1 : Int32), S))
else
  ((xgF tC 10 0 k0 S).bind fun r8 =>
  (fX7_failHere r8 S).bind fun q9 =>
  if q9.1 = 0 then
  (some ((0 : Int32), q9.2))
else
  (some ((1 : Int32), q9.2))))
else
  ((xgF tC 10 0 k0 S).bind fun r3 =>
  (fX7_failHere r3 S).bind fun q4 =>
  if q4.1 = 0 then
  (some ((0 : Int32), q4.2))
else
  (some ((1 : Int32), q4.2))))
  else none
theorem kX10_isNameHere {z : Int32 × xSt} {k0 : Nat} {S : xSt} (h : fX10_isNameHere k0 S = some z) : tC.1 k0 = 10 := by
  unfold fX10_isNameHere at h
  exact (xck h).1
set_option maxHeartbeats 4000000 in
theorem tX10_isNameHere (l : Launch) (M : xMg) (A : Nat → Prop) (k0 : Nat) (S : xSt) (z : Int32 × xSt) (h : fX10_isNameHere k0 S = some z) : xMI l yX10_isNameHere cX10_isNameHere 1 (some .boolean) 3 tC M A [.ref (M.2.1 k0)] S z.1 z.2 := by
  refine x_metI (plainFor_of_name (by decide)) tC_ok (Nat.le_of_ble_eq_true rfl) (fun Γ hA hnL hl hr o => ?_)
  subst hA; subst hl
  have o : xOk Γ tC M 3 cX10_isNameHere RX10 := o
  unfold fX10_isNameHere at h
  obtain ⟨hk0, h⟩ := xck h
  refine x_to (l := [(0, .ref (M.2.1 k0))]) ⟨rfl, trivial⟩ ?_
  refine x_aload_n (pc := 0) o dX10_isNameHere_0 rfl rfl ?_
  obtain ⟨r1, hr1, h⟩ := xbs h
  refine gX10_9 (pc := 1) o dX10_isNameHere_1 hr1 ?_
  obtain ⟨v2, hv2, h⟩ := xbs h
  refine gX10_43 (pc := 4) o dX10_isNameHere_4 hv2 ?_
  refine x_iconst (pc := 7) o dX10_isNameHere_7 ic_1 ?_
  refine x_icmp_ne (pc := 8) (tgt := 22) o dX10_isNameHere_8 (by decide) (fun c12 => ?_) (fun c12 => ?_)
  · have h := xif h c12
    refine x_aload_n (pc := 22) o dX10_isNameHere_22 rfl rfl ?_
    obtain ⟨r3, hr3, h⟩ := xbs h
    refine gX10_9 (pc := 23) o dX10_isNameHere_23 hr3 ?_
    obtain ⟨q4, hq4, h⟩ := xbs h
    refine x_callI (pc := 26) (As := []) (b := r3) (rest := []) o (tX7_failHere _ M _ r3 S q4 hq4) eX7_failHere mX10_62 clX7 (kX7_failHere hq4) (by decide) rfl rfl (Nat.le_of_ble_eq_true rfl) dX10_isNameHere_26 ?_
    refine x_if_eq (pc := 29) (tgt := 36) o dX10_isNameHere_29 (by decide) (fun c5 => ?_) (fun c5 => ?_)
    · have h := xit h c5
      refine x_iconst (pc := 36) o dX10_isNameHere_36 ic_0 ?_
      exact x_zreturn (pc := 37) o hr dX10_isNameHere_37 (by decide) (xr1 h) (xr2 h)
    · have h := xif h c5
      refine x_iconst (pc := 32) o dX10_isNameHere_32 ic_1 ?_
      refine x_goto (pc := 33) (tgt := 37) o dX10_isNameHere_33 (by decide) ?_
      exact x_zreturn (pc := 37) o hr dX10_isNameHere_37 (by decide) (xr1 h) (xr2 h)
  · have h := xit h c12
    refine x_aload_n (pc := 11) o dX10_isNameHere_11 rfl rfl ?_
    obtain ⟨r6, hr6, h⟩ := xbs h
    refine gX10_9 (pc := 12) o dX10_isNameHere_12 hr6 ?_
    obtain ⟨v7, hv7, h⟩ := xbs h
    refine gX10_65 (pc := 15) o dX10_isNameHere_15 hv7 ?_
    refine x_iconst (pc := 18) o dX10_isNameHere_18 ic_m1 ?_
    refine x_icmp_eq (pc := 19) (tgt := 32) o dX10_isNameHere_19 (by decide) (fun c11 => ?_) (fun c11 => ?_)
    · have h := xit h c11
      refine x_iconst (pc := 32) o dX10_isNameHere_32 ic_1 ?_
      refine x_goto (pc := 33) (tgt := 37) o dX10_isNameHere_33 (by decide) ?_
      exact x_zreturn (pc := 37) o hr dX10_isNameHere_37 (by decide) (xr1 h) (xr2 h)
    · have h := xif h c11
      refine x_aload_n (pc := 22) o dX10_isNameHere_22 rfl rfl ?_
      obtain ⟨r8, hr8, h⟩ := xbs h
      refine gX10_9 (pc := 23) o dX10_isNameHere_23 hr8 ?_
      obtain ⟨q9, hq9, h⟩ := xbs h
      refine x_callI (pc := 26) (As := []) (b := r8) (rest := []) o (tX7_failHere _ M _ r8 S q9 hq9) eX7_failHere mX10_62 clX7 (kX7_failHere hq9) (by decide) rfl rfl (Nat.le_of_ble_eq_true rfl) dX10_isNameHere_26 ?_
      refine x_if_eq (pc := 29) (tgt := 36) o dX10_isNameHere_29 (by decide) (fun c10 => ?_) (fun c10 => ?_)
      · have h := xit h c10
        refine x_iconst (pc := 36) o dX10_isNameHere_36 ic_0 ?_
        exact x_zreturn (pc := 37) o hr dX10_isNameHere_37 (by decide) (xr1 h) (xr2 h)
      · have h := xif h c10
        refine x_iconst (pc := 32) o dX10_isNameHere_32 ic_1 ?_
        refine x_goto (pc := 33) (tgt := 37) o dX10_isNameHere_33 (by decide) ?_
        exact x_zreturn (pc := 37) o hr dX10_isNameHere_37 (by decide) (xr1 h) (xr2 h)
def fX10_takeNewName (n : Nat) (k0 : Nat) (a1 : Int32) (S : xSt) : Option (Int32 × xSt) :=
  if tC.1 k0 = 10 then
  ((fX10_isNameHere k0 S).bind fun q1 =>
  if q1.1 = 0 then
  (some ((-1 : Int32), q1.2))
else
  ((xgM tC 10 2 k0 q1.2).bind fun r2 =>
  (xgF tC 10 0 k0 q1.2).bind fun r3 =>
  (xgI tC 7 7 r3 q1.2).bind fun v4 =>
  (fX9_isGiven n r2 v4 q1.2).bind fun v5 =>
  if v5 = 0 then
  ((xgM tC 10 2 k0 q1.2).bind fun r6 =>
  (xgF tC 10 0 k0 q1.2).bind fun r7 =>
  (xgI tC 7 7 r7 q1.2).bind fun v8 =>
  (fX9_give r6 a1 v8 q1.2).bind fun q9 =>
  (xgF tC 10 0 k0 q9.2).bind fun r10 =>
  (fX7_advance n r10 q9.2).bind fun S11 =>
  some (q9.1, S11))
else
  ((xgF tC 10 0 k0 q1.2).bind fun r12 =>
  (xgF tC 10 0 k0 q1.2).bind fun r13 =>
  (xgI tC 7 5 r13 q1.2).bind fun v14 =>
  (fX7_fail r12 ((2 : Int32)) v14 q1.2).bind fun q15 =>
  some ((-1 : Int32), q15.2))))
  else none
theorem kX10_takeNewName {z : Int32 × xSt} {n : Nat} {k0 : Nat} {a1 : Int32} {S : xSt} (h : fX10_takeNewName n k0 a1 S = some z) : tC.1 k0 = 10 := by
  unfold fX10_takeNewName at h
  exact (xck h).1
set_option maxHeartbeats 4000000 in
theorem tX10_takeNewName (l : Launch) (M : xMg) (A : Nat → Prop) (n : Nat) (k0 : Nat) (a1 : Int32) (S : xSt) (z : Int32 × xSt) (h : fX10_takeNewName n k0 a1 S = some z) : xMI l yX10_takeNewName cX10_takeNewName 3 (some .int) 4 tC M A [.ref (M.2.1 k0), .int a1] S z.1 z.2 := by
  refine x_metI (plainFor_of_name (by decide)) tC_ok (Nat.le_of_ble_eq_true rfl) (fun Γ hA hnL hl hr o => ?_)
  subst hA; subst hl
  have o : xOk Γ tC M 4 cX10_takeNewName RX10 := o
  unfold fX10_takeNewName at h
  obtain ⟨hk0, h⟩ := xck h
  refine x_to (l := [(0, .ref (M.2.1 k0)), (1, .int a1)]) ⟨rfl, rfl, trivial⟩ ?_
  have hn2 : 2 < Γ.2.2.2 := by omega
  refine x_aload_n (pc := 0) o dX10_takeNewName_0 rfl rfl ?_
  obtain ⟨q1, hq1, h⟩ := xbs h
  refine x_callI (pc := 1) (As := []) (b := k0) (rest := []) o (tX10_isNameHere _ M _ k0 S q1 hq1) eX10_isNameHere mX10_200 clX10 (kX10_isNameHere hq1) (by decide) rfl rfl (Nat.le_of_ble_eq_true rfl) dX10_takeNewName_1 ?_
  refine x_if_ne (pc := 4) (tgt := 9) o dX10_takeNewName_4 (by decide) (fun c17 => ?_) (fun c17 => ?_)
  · have h := xif h c17
    refine x_aload_n (pc := 9) o dX10_takeNewName_9 rfl rfl ?_
    obtain ⟨r2, hr2, h⟩ := xbs h
    refine gX10_30 (pc := 10) o dX10_takeNewName_10 hr2 ?_
    refine x_aload_n (pc := 13) o dX10_takeNewName_13 rfl rfl ?_
    obtain ⟨r3, hr3, h⟩ := xbs h
    refine gX10_9 (pc := 14) o dX10_takeNewName_14 hr3 ?_
    obtain ⟨v4, hv4, h⟩ := xbs h
    refine gX10_203 (pc := 17) o dX10_takeNewName_17 hv4 ?_
    obtain ⟨v5, hv5, h⟩ := xbs h
    refine x_callI (pc := 20) (As := [.int v4]) (b := r2) (rest := []) o (tX9_isGiven _ M _ n r2 v4 q1.2 v5 hv5) eX9_isGiven mX10_206 clX9 (kX9_isGiven hv5) (by decide) rfl rfl (Nat.le_of_ble_eq_true rfl) dX10_takeNewName_20 ?_
    refine x_if_eq (pc := 23) (tgt := 44) o dX10_takeNewName_23 (by decide) (fun c16 => ?_) (fun c16 => ?_)
    · have h := xit h c16
      refine x_aload_n (pc := 44) o dX10_takeNewName_44 rfl rfl ?_
      obtain ⟨r6, hr6, h⟩ := xbs h
      refine gX10_30 (pc := 45) o dX10_takeNewName_45 hr6 ?_
      refine x_iload_n (pc := 48) o dX10_takeNewName_48 rfl rfl ?_
      refine x_aload_n (pc := 49) o dX10_takeNewName_49 rfl rfl ?_
      obtain ⟨r7, hr7, h⟩ := xbs h
      refine gX10_9 (pc := 50) o dX10_takeNewName_50 hr7 ?_
      obtain ⟨v8, hv8, h⟩ := xbs h
      refine gX10_203 (pc := 53) o dX10_takeNewName_53 hv8 ?_
      obtain ⟨q9, hq9, h⟩ := xbs h
      refine x_callI (pc := 56) (As := [.int a1, .int v8]) (b := r6) (rest := []) o (tX9_give _ M _ r6 a1 v8 q1.2 q9 hq9) eX9_give mX10_209 clX9 (kX9_give hq9) (by decide) rfl rfl (Nat.le_of_ble_eq_true rfl) dX10_takeNewName_56 ?_
      refine x_istore_n (pc := 59) o dX10_takeNewName_59 rfl hn2 ?_
      refine x_aload_n (pc := 60) o dX10_takeNewName_60 rfl rfl ?_
      obtain ⟨r10, hr10, h⟩ := xbs h
      refine gX10_9 (pc := 61) o dX10_takeNewName_61 hr10 ?_
      obtain ⟨S11, hS11, h⟩ := xbs h
      refine x_callV (pc := 64) (As := []) (b := r10) (rest := []) o (tX7_advance _ M _ n r10 q9.2 S11 hS11) eX7_advance mX10_130 clX7 (kX7_advance hS11) (by decide) rfl rfl (Nat.le_of_ble_eq_true rfl) dX10_takeNewName_64 ?_
      refine x_iload_n (pc := 67) o dX10_takeNewName_67 rfl rfl ?_
      exact x_ireturn (pc := 68) o hr dX10_takeNewName_68 (xr1 h) (xr2 h)
    · have h := xif h c16
      refine x_aload_n (pc := 26) o dX10_takeNewName_26 rfl rfl ?_
      obtain ⟨r12, hr12, h⟩ := xbs h
      refine gX10_9 (pc := 27) o dX10_takeNewName_27 hr12 ?_
      refine x_iconst (pc := 30) o dX10_takeNewName_30 ic_2 ?_
      refine x_aload_n (pc := 31) o dX10_takeNewName_31 rfl rfl ?_
      obtain ⟨r13, hr13, h⟩ := xbs h
      refine gX10_9 (pc := 32) o dX10_takeNewName_32 hr13 ?_
      obtain ⟨v14, hv14, h⟩ := xbs h
      refine gX10_47 (pc := 35) o dX10_takeNewName_35 hv14 ?_
      obtain ⟨q15, hq15, h⟩ := xbs h
      refine x_callI (pc := 38) (As := [.int ((2 : Int32)), .int v14]) (b := r12) (rest := []) o (tX7_fail _ M _ r12 ((2 : Int32)) v14 q1.2 q15 hq15) eX7_fail mX10_50 clX7 (kX7_fail hq15) (by decide) rfl rfl (Nat.le_of_ble_eq_true rfl) dX10_takeNewName_38 ?_
      refine x_pop (pc := 41) o dX10_takeNewName_41 rfl ?_
      refine x_iconst (pc := 42) o dX10_takeNewName_42 ic_m1 ?_
      exact x_ireturn (pc := 43) o hr dX10_takeNewName_43 (xr1 h) (xr2 h)
  · have h := xit h c17
    refine x_iconst (pc := 7) o dX10_takeNewName_7 ic_m1 ?_
    exact x_ireturn (pc := 8) o hr dX10_takeNewName_8 (xr1 h) (xr2 h)
def fX10_leastRound (a0 : Int32) (S : xSt) : Option (Int32) :=
  (some (if ((2 : Int32)) < (a0 + ((1 : Int32))) then (a0 + ((1 : Int32))) else ((2 : Int32)))).bind fun v1 =>
  some v1
set_option maxHeartbeats 4000000 in
theorem tX10_leastRound (l : Launch) (M : xMg) (A : Nat → Prop) (a0 : Int32) (S : xSt) (z : Int32) (h : fX10_leastRound a0 S = some z) : xMI l yX10_leastRound cX10_leastRound 1 (some .int) 2 tC M A [.int a0] S z S := by
  refine x_metI (plainFor_of_name (by decide)) tC_ok (Nat.le_of_ble_eq_true rfl) (fun Γ hA hnL hl hr o => ?_)
  subst hA; subst hl
  have o : xOk Γ tC M 2 cX10_leastRound RX10 := o
  unfold fX10_leastRound at h
  refine x_to (l := [(0, .int a0)]) ⟨rfl, trivial⟩ ?_
  refine x_iconst (pc := 0) o dX10_leastRound_0 ic_2 ?_
  refine x_iload_n (pc := 1) o dX10_leastRound_1 rfl rfl ?_
  refine x_iconst (pc := 2) o dX10_leastRound_2 ic_1 ?_
  refine x_iadd (pc := 3) o dX10_leastRound_3 ?_
  obtain ⟨v1, hv1, h⟩ := xbs h
  refine x_mmaxE (pc := 4) o mX10_150 w_max1 w_max2 w_max3 (by decide) (Nat.le_of_ble_eq_true rfl) dX10_leastRound_4 hv1 ?_
  exact x_ireturn (pc := 7) o hr dX10_leastRound_7 (Option.some.inj h) rfl
def fX10_readKind (n : Nat) (k0 : Nat) (S : xSt) : Option (Int32 × xSt) :=
  if tC.1 k0 = 10 then
  ((fX10_takeNewName n k0 ((0 : Int32)) S).bind fun q1 =>
  if q1.1 = ((-1 : Int32)) then
  (some ((0 : Int32), q1.2))
else
  ((xgF tC 10 0 k0 q1.2).bind fun r2 =>
  (fX7_takeWord n r2 ((1 : Int32)) q1.2).bind fun q3 =>
  if q3.1 = 0 then
  (some ((0 : Int32), q3.2))
else
  ((xgF tC 10 0 k0 q3.2).bind fun r4 =>
  (fX7_takeNumber n r4 ((0 : Int32)) ((9999 : Int32)) q3.2).bind fun q5 =>
  if q5.1 = ((-1 : Int32)) then
  (some ((0 : Int32), q5.2))
else
  ((xgF tC 10 0 k0 q5.2).bind fun r6 =>
  (fX7_takeWord n r6 ((2 : Int32)) q5.2).bind fun q7 =>
  if q7.1 = 0 then
  (some ((0 : Int32), q7.2))
else
  ((xgF tC 10 0 k0 q7.2).bind fun r8 =>
  (fX10_leastRound q5.1 q7.2).bind fun v9 =>
  (fX7_takeNumber n r8 v9 ((30 : Int32)) q7.2).bind fun q10 =>
  if q10.1 = ((-1 : Int32)) then
  (some ((0 : Int32), q10.2))
else
  (if q1.1 < ((6 : Int32)) then
  ((xgM tC 10 2 k0 q10.2).bind fun r11 =>
  (xgF tC 9 2 r11 q10.2).bind fun r12 =>
  (xas tC r12 q1.1 q5.1 q10.2).bind fun S13 =>
  (xgM tC 10 2 k0 S13).bind fun r14 =>
  (xgF tC 9 3 r14 S13).bind fun r15 =>
  (xas tC r15 q1.1 q10.1 S13).bind fun S16 =>
  some ((1 : Int32), S16))
else
  (some ((0 : Int32), q10.2))))))))
  else none
theorem kX10_readKind {z : Int32 × xSt} {n : Nat} {k0 : Nat} {S : xSt} (h : fX10_readKind n k0 S = some z) : tC.1 k0 = 10 := by
  unfold fX10_readKind at h
  exact (xck h).1
set_option maxHeartbeats 4000000 in
theorem tX10_readKind (l : Launch) (M : xMg) (A : Nat → Prop) (n : Nat) (k0 : Nat) (S : xSt) (z : Int32 × xSt) (h : fX10_readKind n k0 S = some z) : xMI l yX10_readKind cX10_readKind 4 (some .boolean) 5 tC M A [.ref (M.2.1 k0)] S z.1 z.2 := by
  refine x_metI (plainFor_of_name (by decide)) tC_ok (Nat.le_of_ble_eq_true rfl) (fun Γ hA hnL hl hr o => ?_)
  subst hA; subst hl
  have o : xOk Γ tC M 5 cX10_readKind RX10 := o
  unfold fX10_readKind at h
  obtain ⟨hk0, h⟩ := xck h
  refine x_to (l := [(0, .ref (M.2.1 k0))]) ⟨rfl, trivial⟩ ?_
  have hn1 : 1 < Γ.2.2.2 := by omega
  have hn2 : 2 < Γ.2.2.2 := by omega
  have hn3 : 3 < Γ.2.2.2 := by omega
  refine x_aload_n (pc := 0) o dX10_readKind_0 rfl rfl ?_
  refine x_iconst (pc := 1) o dX10_readKind_1 ic_0 ?_
  obtain ⟨q1, hq1, h⟩ := xbs h
  refine x_callI (pc := 2) (As := [.int ((0 : Int32))]) (b := k0) (rest := []) o (tX10_takeNewName _ M _ n k0 ((0 : Int32)) S q1 hq1) eX10_takeNewName mX10_77 clX10 (kX10_takeNewName hq1) (by decide) rfl rfl (Nat.le_of_ble_eq_true rfl) dX10_readKind_2 ?_
  refine x_istore_n (pc := 5) o dX10_readKind_5 rfl hn1 ?_
  refine x_iload_n (pc := 6) o dX10_readKind_6 rfl rfl ?_
  refine x_iconst (pc := 7) o dX10_readKind_7 ic_m1 ?_
  refine x_icmp_eq (pc := 8) (tgt := 22) o dX10_readKind_8 (by decide) (fun c22 => ?_) (fun c22 => ?_)
  · have h := xit h c22
    refine x_iconst (pc := 22) o dX10_readKind_22 ic_0 ?_
    exact x_zreturn (pc := 23) o hr dX10_readKind_23 (by decide) (xr1 h) (xr2 h)
  · have h := xif h c22
    refine x_aload_n (pc := 11) o dX10_readKind_11 rfl rfl ?_
    obtain ⟨r2, hr2, h⟩ := xbs h
    refine gX10_9 (pc := 12) o dX10_readKind_12 hr2 ?_
    refine x_iconst (pc := 15) o dX10_readKind_15 ic_1 ?_
    obtain ⟨q3, hq3, h⟩ := xbs h
    refine x_callI (pc := 16) (As := [.int ((1 : Int32))]) (b := r2) (rest := []) o (tX7_takeWord _ M _ n r2 ((1 : Int32)) q1.2 q3 hq3) eX7_takeWord mX10_133 clX7 (kX7_takeWord hq3) (by decide) rfl rfl (Nat.le_of_ble_eq_true rfl) dX10_readKind_16 ?_
    refine x_if_ne (pc := 19) (tgt := 24) o dX10_readKind_19 (by decide) (fun c21 => ?_) (fun c21 => ?_)
    · have h := xif h c21
      refine x_aload_n (pc := 24) o dX10_readKind_24 rfl rfl ?_
      obtain ⟨r4, hr4, h⟩ := xbs h
      refine gX10_9 (pc := 25) o dX10_readKind_25 hr4 ?_
      refine x_iconst (pc := 28) o dX10_readKind_28 ic_0 ?_
      refine x_sipush (pc := 29) o dX10_readKind_29 sp_9999 ?_
      obtain ⟨q5, hq5, h⟩ := xbs h
      refine x_callI (pc := 32) (As := [.int ((0 : Int32)), .int ((9999 : Int32))]) (b := r4) (rest := []) o (tX7_takeNumber _ M _ n r4 ((0 : Int32)) ((9999 : Int32)) q3.2 q5 hq5) eX7_takeNumber mX10_136 clX7 (kX7_takeNumber hq5) (by decide) rfl rfl (Nat.le_of_ble_eq_true rfl) dX10_readKind_32 ?_
      refine x_istore_n (pc := 35) o dX10_readKind_35 rfl hn2 ?_
      refine x_iload_n (pc := 36) o dX10_readKind_36 rfl rfl ?_
      refine x_iconst (pc := 37) o dX10_readKind_37 ic_m1 ?_
      refine x_icmp_eq (pc := 38) (tgt := 52) o dX10_readKind_38 (by decide) (fun c20 => ?_) (fun c20 => ?_)
      · have h := xit h c20
        refine x_iconst (pc := 52) o dX10_readKind_52 ic_0 ?_
        exact x_zreturn (pc := 53) o hr dX10_readKind_53 (by decide) (xr1 h) (xr2 h)
      · have h := xif h c20
        refine x_aload_n (pc := 41) o dX10_readKind_41 rfl rfl ?_
        obtain ⟨r6, hr6, h⟩ := xbs h
        refine gX10_9 (pc := 42) o dX10_readKind_42 hr6 ?_
        refine x_iconst (pc := 45) o dX10_readKind_45 ic_2 ?_
        obtain ⟨q7, hq7, h⟩ := xbs h
        refine x_callI (pc := 46) (As := [.int ((2 : Int32))]) (b := r6) (rest := []) o (tX7_takeWord _ M _ n r6 ((2 : Int32)) q5.2 q7 hq7) eX7_takeWord mX10_133 clX7 (kX7_takeWord hq7) (by decide) rfl rfl (Nat.le_of_ble_eq_true rfl) dX10_readKind_46 ?_
        refine x_if_ne (pc := 49) (tgt := 54) o dX10_readKind_49 (by decide) (fun c19 => ?_) (fun c19 => ?_)
        · have h := xif h c19
          refine x_aload_n (pc := 54) o dX10_readKind_54 rfl rfl ?_
          obtain ⟨r8, hr8, h⟩ := xbs h
          refine gX10_9 (pc := 55) o dX10_readKind_55 hr8 ?_
          refine x_iload_n (pc := 58) o dX10_readKind_58 rfl rfl ?_
          obtain ⟨v9, hv9, h⟩ := xbs h
          refine x_statI (pc := 59) (As := [.int q5.1]) (rest := [.ref (M.2.1 r8)]) o (tX10_leastRound _ M _ q5.1 q7.2 v9 hv9) eX10_leastRound mX10_140 (by decide) rfl rfl (Nat.le_of_ble_eq_true rfl) dX10_readKind_59 ?_
          refine x_bipush (pc := 62) o dX10_readKind_62 bp_30 ?_
          obtain ⟨q10, hq10, h⟩ := xbs h
          refine x_callI (pc := 64) (As := [.int v9, .int ((30 : Int32))]) (b := r8) (rest := []) o (tX7_takeNumber _ M _ n r8 v9 ((30 : Int32)) q7.2 q10 hq10) eX7_takeNumber mX10_136 clX7 (kX7_takeNumber hq10) (by decide) rfl rfl (Nat.le_of_ble_eq_true rfl) dX10_readKind_64 ?_
          refine x_istore_n (pc := 67) o dX10_readKind_67 rfl hn3 ?_
          refine x_iload_n (pc := 68) o dX10_readKind_68 rfl rfl ?_
          refine x_iconst (pc := 69) o dX10_readKind_69 ic_m1 ?_
          refine x_icmp_eq (pc := 70) (tgt := 79) o dX10_readKind_70 (by decide) (fun c18 => ?_) (fun c18 => ?_)
          · have h := xit h c18
            refine x_iconst (pc := 79) o dX10_readKind_79 ic_0 ?_
            exact x_zreturn (pc := 80) o hr dX10_readKind_80 (by decide) (xr1 h) (xr2 h)
          · have h := xif h c18
            refine x_iload_n (pc := 73) o dX10_readKind_73 rfl rfl ?_
            refine x_bipush (pc := 74) o dX10_readKind_74 bp_6 ?_
            refine x_icmp_lt (pc := 76) (tgt := 81) o dX10_readKind_76 (by decide) (fun c17 => ?_) (fun c17 => ?_)
            · have h := xit h c17
              refine x_aload_n (pc := 81) o dX10_readKind_81 rfl rfl ?_
              obtain ⟨r11, hr11, h⟩ := xbs h
              refine gX10_30 (pc := 82) o dX10_readKind_82 hr11 ?_
              obtain ⟨r12, hr12, h⟩ := xbs h
              refine gX10_143 (pc := 85) o dX10_readKind_85 hr12 ?_
              refine x_iload_n (pc := 88) o dX10_readKind_88 rfl rfl ?_
              refine x_iload_n (pc := 89) o dX10_readKind_89 rfl rfl ?_
              obtain ⟨S13, hS13, h⟩ := xbs h
              refine x_iastore (pc := 90) o dX10_readKind_90 hS13 ?_
              refine x_aload_n (pc := 91) o dX10_readKind_91 rfl rfl ?_
              obtain ⟨r14, hr14, h⟩ := xbs h
              refine gX10_30 (pc := 92) o dX10_readKind_92 hr14 ?_
              obtain ⟨r15, hr15, h⟩ := xbs h
              refine gX10_147 (pc := 95) o dX10_readKind_95 hr15 ?_
              refine x_iload_n (pc := 98) o dX10_readKind_98 rfl rfl ?_
              refine x_iload_n (pc := 99) o dX10_readKind_99 rfl rfl ?_
              obtain ⟨S16, hS16, h⟩ := xbs h
              refine x_iastore (pc := 100) o dX10_readKind_100 hS16 ?_
              refine x_iconst (pc := 101) o dX10_readKind_101 ic_1 ?_
              exact x_zreturn (pc := 102) o hr dX10_readKind_102 (by decide) (xr1 h) (xr2 h)
            · have h := xif h c17
              refine x_iconst (pc := 79) o dX10_readKind_79 ic_0 ?_
              exact x_zreturn (pc := 80) o hr dX10_readKind_80 (by decide) (xr1 h) (xr2 h)
        · have h := xit h c19
          refine x_iconst (pc := 52) o dX10_readKind_52 ic_0 ?_
          exact x_zreturn (pc := 53) o hr dX10_readKind_53 (by decide) (xr1 h) (xr2 h)
    · have h := xit h c21
      refine x_iconst (pc := 22) o dX10_readKind_22 ic_0 ?_
      exact x_zreturn (pc := 23) o hr dX10_readKind_23 (by decide) (xr1 h) (xr2 h)
def fX10_takeNameOf (n : Nat) (k0 : Nat) (a1 : Int32) (a2 : Int32) (S : xSt) : Option (Int32 × xSt) :=
  if tC.1 k0 = 10 then
  ((fX10_isNameHere k0 S).bind fun q1 =>
  if q1.1 = 0 then
  (some ((-1 : Int32), q1.2))
else
  ((xgM tC 10 2 k0 q1.2).bind fun r2 =>
  (xgF tC 10 0 k0 q1.2).bind fun r3 =>
  (xgI tC 7 7 r3 q1.2).bind fun v4 =>
  (fX9_find n r2 a1 v4 q1.2).bind fun v5 =>
  if v5 = ((-1 : Int32)) then
  ((xgF tC 10 0 k0 q1.2).bind fun r6 =>
  (xgF tC 10 0 k0 q1.2).bind fun r7 =>
  (xgI tC 7 5 r7 q1.2).bind fun v8 =>
  (fX7_fail r6 ((3 : Int32)) v8 q1.2).bind fun q9 =>
  some ((-1 : Int32), q9.2))
else
  (if v5 = a2 then
  ((xgF tC 10 0 k0 q1.2).bind fun r12 =>
  (xgF tC 10 0 k0 q1.2).bind fun r13 =>
  (xgI tC 7 5 r13 q1.2).bind fun v14 =>
  (fX7_fail r12 ((3 : Int32)) v14 q1.2).bind fun q15 =>
  some ((-1 : Int32), q15.2))
else
  ((xgF tC 10 0 k0 q1.2).bind fun r10 =>
  (fX7_advance n r10 q1.2).bind fun S11 =>
  some (v5, S11)))))
  else none
theorem kX10_takeNameOf {z : Int32 × xSt} {n : Nat} {k0 : Nat} {a1 : Int32} {a2 : Int32} {S : xSt} (h : fX10_takeNameOf n k0 a1 a2 S = some z) : tC.1 k0 = 10 := by
  unfold fX10_takeNameOf at h
  exact (xck h).1
set_option maxHeartbeats 4000000 in
theorem tX10_takeNameOf (l : Launch) (M : xMg) (A : Nat → Prop) (n : Nat) (k0 : Nat) (a1 : Int32) (a2 : Int32) (S : xSt) (z : Int32 × xSt) (h : fX10_takeNameOf n k0 a1 a2 S = some z) : xMI l yX10_takeNameOf cX10_takeNameOf 4 (some .int) 4 tC M A [.ref (M.2.1 k0), .int a1, .int a2] S z.1 z.2 := by
  refine x_metI (plainFor_of_name (by decide)) tC_ok (Nat.le_of_ble_eq_true rfl) (fun Γ hA hnL hl hr o => ?_)
  subst hA; subst hl
  have o : xOk Γ tC M 4 cX10_takeNameOf RX10 := o
  unfold fX10_takeNameOf at h
  obtain ⟨hk0, h⟩ := xck h
  refine x_to (l := [(0, .ref (M.2.1 k0)), (1, .int a1), (2, .int a2)]) ⟨rfl, rfl, rfl, trivial⟩ ?_
  have hn3 : 3 < Γ.2.2.2 := by omega
  refine x_aload_n (pc := 0) o dX10_takeNameOf_0 rfl rfl ?_
  obtain ⟨q1, hq1, h⟩ := xbs h
  refine x_callI (pc := 1) (As := []) (b := k0) (rest := []) o (tX10_isNameHere _ M _ k0 S q1 hq1) eX10_isNameHere mX10_200 clX10 (kX10_isNameHere hq1) (by decide) rfl rfl (Nat.le_of_ble_eq_true rfl) dX10_takeNameOf_1 ?_
  refine x_if_ne (pc := 4) (tgt := 9) o dX10_takeNameOf_4 (by decide) (fun c18 => ?_) (fun c18 => ?_)
  · have h := xif h c18
    refine x_aload_n (pc := 9) o dX10_takeNameOf_9 rfl rfl ?_
    obtain ⟨r2, hr2, h⟩ := xbs h
    refine gX10_30 (pc := 10) o dX10_takeNameOf_10 hr2 ?_
    refine x_iload_n (pc := 13) o dX10_takeNameOf_13 rfl rfl ?_
    refine x_aload_n (pc := 14) o dX10_takeNameOf_14 rfl rfl ?_
    obtain ⟨r3, hr3, h⟩ := xbs h
    refine gX10_9 (pc := 15) o dX10_takeNameOf_15 hr3 ?_
    obtain ⟨v4, hv4, h⟩ := xbs h
    refine gX10_203 (pc := 18) o dX10_takeNameOf_18 hv4 ?_
    obtain ⟨v5, hv5, h⟩ := xbs h
    refine x_callI (pc := 21) (As := [.int a1, .int v4]) (b := r2) (rest := []) o (tX9_find _ M _ n r2 a1 v4 q1.2 v5 hv5) eX9_find mX10_212 clX9 (kX9_find hv5) (by decide) rfl rfl (Nat.le_of_ble_eq_true rfl) dX10_takeNameOf_21 ?_
    refine x_istore_n (pc := 24) o dX10_takeNameOf_24 rfl hn3 ?_
    refine x_iload_n (pc := 25) o dX10_takeNameOf_25 rfl rfl ?_
    refine x_iconst (pc := 26) o dX10_takeNameOf_26 ic_m1 ?_
    refine x_icmp_eq (pc := 27) (tgt := 35) o dX10_takeNameOf_27 (by decide) (fun c17 => ?_) (fun c17 => ?_)
    · have h := xit h c17
      refine x_aload_n (pc := 35) o dX10_takeNameOf_35 rfl rfl ?_
      obtain ⟨r6, hr6, h⟩ := xbs h
      refine gX10_9 (pc := 36) o dX10_takeNameOf_36 hr6 ?_
      refine x_iconst (pc := 39) o dX10_takeNameOf_39 ic_3 ?_
      refine x_aload_n (pc := 40) o dX10_takeNameOf_40 rfl rfl ?_
      obtain ⟨r7, hr7, h⟩ := xbs h
      refine gX10_9 (pc := 41) o dX10_takeNameOf_41 hr7 ?_
      obtain ⟨v8, hv8, h⟩ := xbs h
      refine gX10_47 (pc := 44) o dX10_takeNameOf_44 hv8 ?_
      obtain ⟨q9, hq9, h⟩ := xbs h
      refine x_callI (pc := 47) (As := [.int ((3 : Int32)), .int v8]) (b := r6) (rest := []) o (tX7_fail _ M _ r6 ((3 : Int32)) v8 q1.2 q9 hq9) eX7_fail mX10_50 clX7 (kX7_fail hq9) (by decide) rfl rfl (Nat.le_of_ble_eq_true rfl) dX10_takeNameOf_47 ?_
      refine x_pop (pc := 50) o dX10_takeNameOf_50 rfl ?_
      refine x_iconst (pc := 51) o dX10_takeNameOf_51 ic_m1 ?_
      exact x_ireturn (pc := 52) o hr dX10_takeNameOf_52 (xr1 h) (xr2 h)
    · have h := xif h c17
      refine x_iload_n (pc := 30) o dX10_takeNameOf_30 rfl rfl ?_
      refine x_iload_n (pc := 31) o dX10_takeNameOf_31 rfl rfl ?_
      refine x_icmp_ne (pc := 32) (tgt := 53) o dX10_takeNameOf_32 (by decide) (fun c16 => ?_) (fun c16 => ?_)
      · have h := xif h c16
        refine x_aload_n (pc := 53) o dX10_takeNameOf_53 rfl rfl ?_
        obtain ⟨r10, hr10, h⟩ := xbs h
        refine gX10_9 (pc := 54) o dX10_takeNameOf_54 hr10 ?_
        obtain ⟨S11, hS11, h⟩ := xbs h
        refine x_callV (pc := 57) (As := []) (b := r10) (rest := []) o (tX7_advance _ M _ n r10 q1.2 S11 hS11) eX7_advance mX10_130 clX7 (kX7_advance hS11) (by decide) rfl rfl (Nat.le_of_ble_eq_true rfl) dX10_takeNameOf_57 ?_
        refine x_iload_n (pc := 60) o dX10_takeNameOf_60 rfl rfl ?_
        exact x_ireturn (pc := 61) o hr dX10_takeNameOf_61 (xr1 h) (xr2 h)
      · have h := xit h c16
        refine x_aload_n (pc := 35) o dX10_takeNameOf_35 rfl rfl ?_
        obtain ⟨r12, hr12, h⟩ := xbs h
        refine gX10_9 (pc := 36) o dX10_takeNameOf_36 hr12 ?_
        refine x_iconst (pc := 39) o dX10_takeNameOf_39 ic_3 ?_
        refine x_aload_n (pc := 40) o dX10_takeNameOf_40 rfl rfl ?_
        obtain ⟨r13, hr13, h⟩ := xbs h
        refine gX10_9 (pc := 41) o dX10_takeNameOf_41 hr13 ?_
        obtain ⟨v14, hv14, h⟩ := xbs h
        refine gX10_47 (pc := 44) o dX10_takeNameOf_44 hv14 ?_
        obtain ⟨q15, hq15, h⟩ := xbs h
        refine x_callI (pc := 47) (As := [.int ((3 : Int32)), .int v14]) (b := r12) (rest := []) o (tX7_fail _ M _ r12 ((3 : Int32)) v14 q1.2 q15 hq15) eX7_fail mX10_50 clX7 (kX7_fail hq15) (by decide) rfl rfl (Nat.le_of_ble_eq_true rfl) dX10_takeNameOf_47 ?_
        refine x_pop (pc := 50) o dX10_takeNameOf_50 rfl ?_
        refine x_iconst (pc := 51) o dX10_takeNameOf_51 ic_m1 ?_
        exact x_ireturn (pc := 52) o hr dX10_takeNameOf_52 (xr1 h) (xr2 h)
  · have h := xit h c18
    refine x_iconst (pc := 7) o dX10_takeNameOf_7 ic_m1 ?_
    exact x_ireturn (pc := 8) o hr dX10_takeNameOf_8 (xr1 h) (xr2 h)
def fX10_readTool (n : Nat) (k0 : Nat) (S : xSt) : Option (Int32 × xSt) :=
  if tC.1 k0 = 10 then
  ((fX10_takeNewName n k0 ((1 : Int32)) S).bind fun q1 =>
  if q1.1 = ((-1 : Int32)) then
  (some ((0 : Int32), q1.2))
else
  ((xgF tC 10 0 k0 q1.2).bind fun r2 =>
  (fX7_takeWord n r2 ((4 : Int32)) q1.2).bind fun q3 =>
  if q3.1 = 0 then
  (some ((0 : Int32), q3.2))
else
  ((fX10_takeNameOf n k0 ((0 : Int32)) ((-1 : Int32)) q3.2).bind fun q4 =>
  if q4.1 = ((-1 : Int32)) then
  (some ((0 : Int32), q4.2))
else
  ((xgF tC 10 0 k0 q4.2).bind fun r5 =>
  (fX7_takeWord n r5 ((5 : Int32)) q4.2).bind fun q6 =>
  if q6.1 = 0 then
  (some ((0 : Int32), q6.2))
else
  ((xgF tC 10 0 k0 q6.2).bind fun r7 =>
  (fX7_takeNumber n r7 ((0 : Int32)) ((99 : Int32)) q6.2).bind fun q8 =>
  if q8.1 = ((-1 : Int32)) then
  (some ((0 : Int32), q8.2))
else
  (if q1.1 < ((8 : Int32)) then
  ((xgM tC 10 2 k0 q8.2).bind fun r9 =>
  (xgF tC 9 4 r9 q8.2).bind fun r10 =>
  (xas tC r10 q1.1 q4.1 q8.2).bind fun S11 =>
  (xgM tC 10 2 k0 S11).bind fun r12 =>
  (xgF tC 9 5 r12 S11).bind fun r13 =>
  (xas tC r13 q1.1 q8.1 S11).bind fun S14 =>
  some ((1 : Int32), S14))
else
  (some ((0 : Int32), q8.2))))))))
  else none
theorem kX10_readTool {z : Int32 × xSt} {n : Nat} {k0 : Nat} {S : xSt} (h : fX10_readTool n k0 S = some z) : tC.1 k0 = 10 := by
  unfold fX10_readTool at h
  exact (xck h).1
set_option maxHeartbeats 4000000 in
theorem tX10_readTool (l : Launch) (M : xMg) (A : Nat → Prop) (n : Nat) (k0 : Nat) (S : xSt) (z : Int32 × xSt) (h : fX10_readTool n k0 S = some z) : xMI l yX10_readTool cX10_readTool 4 (some .boolean) 5 tC M A [.ref (M.2.1 k0)] S z.1 z.2 := by
  refine x_metI (plainFor_of_name (by decide)) tC_ok (Nat.le_of_ble_eq_true rfl) (fun Γ hA hnL hl hr o => ?_)
  subst hA; subst hl
  have o : xOk Γ tC M 5 cX10_readTool RX10 := o
  unfold fX10_readTool at h
  obtain ⟨hk0, h⟩ := xck h
  refine x_to (l := [(0, .ref (M.2.1 k0))]) ⟨rfl, trivial⟩ ?_
  have hn1 : 1 < Γ.2.2.2 := by omega
  have hn2 : 2 < Γ.2.2.2 := by omega
  have hn3 : 3 < Γ.2.2.2 := by omega
  refine x_aload_n (pc := 0) o dX10_readTool_0 rfl rfl ?_
  refine x_iconst (pc := 1) o dX10_readTool_1 ic_1 ?_
  obtain ⟨q1, hq1, h⟩ := xbs h
  refine x_callI (pc := 2) (As := [.int ((1 : Int32))]) (b := k0) (rest := []) o (tX10_takeNewName _ M _ n k0 ((1 : Int32)) S q1 hq1) eX10_takeNewName mX10_77 clX10 (kX10_takeNewName hq1) (by decide) rfl rfl (Nat.le_of_ble_eq_true rfl) dX10_readTool_2 ?_
  refine x_istore_n (pc := 5) o dX10_readTool_5 rfl hn1 ?_
  refine x_iload_n (pc := 6) o dX10_readTool_6 rfl rfl ?_
  refine x_iconst (pc := 7) o dX10_readTool_7 ic_m1 ?_
  refine x_icmp_eq (pc := 8) (tgt := 22) o dX10_readTool_8 (by decide) (fun c20 => ?_) (fun c20 => ?_)
  · have h := xit h c20
    refine x_iconst (pc := 22) o dX10_readTool_22 ic_0 ?_
    exact x_zreturn (pc := 23) o hr dX10_readTool_23 (by decide) (xr1 h) (xr2 h)
  · have h := xif h c20
    refine x_aload_n (pc := 11) o dX10_readTool_11 rfl rfl ?_
    obtain ⟨r2, hr2, h⟩ := xbs h
    refine gX10_9 (pc := 12) o dX10_readTool_12 hr2 ?_
    refine x_iconst (pc := 15) o dX10_readTool_15 ic_4 ?_
    obtain ⟨q3, hq3, h⟩ := xbs h
    refine x_callI (pc := 16) (As := [.int ((4 : Int32))]) (b := r2) (rest := []) o (tX7_takeWord _ M _ n r2 ((4 : Int32)) q1.2 q3 hq3) eX7_takeWord mX10_133 clX7 (kX7_takeWord hq3) (by decide) rfl rfl (Nat.le_of_ble_eq_true rfl) dX10_readTool_16 ?_
    refine x_if_ne (pc := 19) (tgt := 24) o dX10_readTool_19 (by decide) (fun c19 => ?_) (fun c19 => ?_)
    · have h := xif h c19
      refine x_aload_n (pc := 24) o dX10_readTool_24 rfl rfl ?_
      refine x_iconst (pc := 25) o dX10_readTool_25 ic_0 ?_
      refine x_iconst (pc := 26) o dX10_readTool_26 ic_m1 ?_
      obtain ⟨q4, hq4, h⟩ := xbs h
      refine x_callI (pc := 27) (As := [.int ((0 : Int32)), .int ((-1 : Int32))]) (b := k0) (rest := []) o (tX10_takeNameOf _ M _ n k0 ((0 : Int32)) ((-1 : Int32)) q3.2 q4 hq4) eX10_takeNameOf mX10_155 clX10 (kX10_takeNameOf hq4) (by decide) rfl rfl (Nat.le_of_ble_eq_true rfl) dX10_readTool_27 ?_
      refine x_istore_n (pc := 30) o dX10_readTool_30 rfl hn2 ?_
      refine x_iload_n (pc := 31) o dX10_readTool_31 rfl rfl ?_
      refine x_iconst (pc := 32) o dX10_readTool_32 ic_m1 ?_
      refine x_icmp_eq (pc := 33) (tgt := 47) o dX10_readTool_33 (by decide) (fun c18 => ?_) (fun c18 => ?_)
      · have h := xit h c18
        refine x_iconst (pc := 47) o dX10_readTool_47 ic_0 ?_
        exact x_zreturn (pc := 48) o hr dX10_readTool_48 (by decide) (xr1 h) (xr2 h)
      · have h := xif h c18
        refine x_aload_n (pc := 36) o dX10_readTool_36 rfl rfl ?_
        obtain ⟨r5, hr5, h⟩ := xbs h
        refine gX10_9 (pc := 37) o dX10_readTool_37 hr5 ?_
        refine x_iconst (pc := 40) o dX10_readTool_40 ic_5 ?_
        obtain ⟨q6, hq6, h⟩ := xbs h
        refine x_callI (pc := 41) (As := [.int ((5 : Int32))]) (b := r5) (rest := []) o (tX7_takeWord _ M _ n r5 ((5 : Int32)) q4.2 q6 hq6) eX7_takeWord mX10_133 clX7 (kX7_takeWord hq6) (by decide) rfl rfl (Nat.le_of_ble_eq_true rfl) dX10_readTool_41 ?_
        refine x_if_ne (pc := 44) (tgt := 49) o dX10_readTool_44 (by decide) (fun c17 => ?_) (fun c17 => ?_)
        · have h := xif h c17
          refine x_aload_n (pc := 49) o dX10_readTool_49 rfl rfl ?_
          obtain ⟨r7, hr7, h⟩ := xbs h
          refine gX10_9 (pc := 50) o dX10_readTool_50 hr7 ?_
          refine x_iconst (pc := 53) o dX10_readTool_53 ic_0 ?_
          refine x_bipush (pc := 54) o dX10_readTool_54 bp_99 ?_
          obtain ⟨q8, hq8, h⟩ := xbs h
          refine x_callI (pc := 56) (As := [.int ((0 : Int32)), .int ((99 : Int32))]) (b := r7) (rest := []) o (tX7_takeNumber _ M _ n r7 ((0 : Int32)) ((99 : Int32)) q6.2 q8 hq8) eX7_takeNumber mX10_136 clX7 (kX7_takeNumber hq8) (by decide) rfl rfl (Nat.le_of_ble_eq_true rfl) dX10_readTool_56 ?_
          refine x_istore_n (pc := 59) o dX10_readTool_59 rfl hn3 ?_
          refine x_iload_n (pc := 60) o dX10_readTool_60 rfl rfl ?_
          refine x_iconst (pc := 61) o dX10_readTool_61 ic_m1 ?_
          refine x_icmp_eq (pc := 62) (tgt := 71) o dX10_readTool_62 (by decide) (fun c16 => ?_) (fun c16 => ?_)
          · have h := xit h c16
            refine x_iconst (pc := 71) o dX10_readTool_71 ic_0 ?_
            exact x_zreturn (pc := 72) o hr dX10_readTool_72 (by decide) (xr1 h) (xr2 h)
          · have h := xif h c16
            refine x_iload_n (pc := 65) o dX10_readTool_65 rfl rfl ?_
            refine x_bipush (pc := 66) o dX10_readTool_66 bp_8 ?_
            refine x_icmp_lt (pc := 68) (tgt := 73) o dX10_readTool_68 (by decide) (fun c15 => ?_) (fun c15 => ?_)
            · have h := xit h c15
              refine x_aload_n (pc := 73) o dX10_readTool_73 rfl rfl ?_
              obtain ⟨r9, hr9, h⟩ := xbs h
              refine gX10_30 (pc := 74) o dX10_readTool_74 hr9 ?_
              obtain ⟨r10, hr10, h⟩ := xbs h
              refine gX10_158 (pc := 77) o dX10_readTool_77 hr10 ?_
              refine x_iload_n (pc := 80) o dX10_readTool_80 rfl rfl ?_
              refine x_iload_n (pc := 81) o dX10_readTool_81 rfl rfl ?_
              obtain ⟨S11, hS11, h⟩ := xbs h
              refine x_iastore (pc := 82) o dX10_readTool_82 hS11 ?_
              refine x_aload_n (pc := 83) o dX10_readTool_83 rfl rfl ?_
              obtain ⟨r12, hr12, h⟩ := xbs h
              refine gX10_30 (pc := 84) o dX10_readTool_84 hr12 ?_
              obtain ⟨r13, hr13, h⟩ := xbs h
              refine gX10_161 (pc := 87) o dX10_readTool_87 hr13 ?_
              refine x_iload_n (pc := 90) o dX10_readTool_90 rfl rfl ?_
              refine x_iload_n (pc := 91) o dX10_readTool_91 rfl rfl ?_
              obtain ⟨S14, hS14, h⟩ := xbs h
              refine x_iastore (pc := 92) o dX10_readTool_92 hS14 ?_
              refine x_iconst (pc := 93) o dX10_readTool_93 ic_1 ?_
              exact x_zreturn (pc := 94) o hr dX10_readTool_94 (by decide) (xr1 h) (xr2 h)
            · have h := xif h c15
              refine x_iconst (pc := 71) o dX10_readTool_71 ic_0 ?_
              exact x_zreturn (pc := 72) o hr dX10_readTool_72 (by decide) (xr1 h) (xr2 h)
        · have h := xit h c17
          refine x_iconst (pc := 47) o dX10_readTool_47 ic_0 ?_
          exact x_zreturn (pc := 48) o hr dX10_readTool_48 (by decide) (xr1 h) (xr2 h)
    · have h := xit h c19
      refine x_iconst (pc := 22) o dX10_readTool_22 ic_0 ?_
      exact x_zreturn (pc := 23) o hr dX10_readTool_23 (by decide) (xr1 h) (xr2 h)
def fX10_readJob_B121_74 (n : Nat) (rec : Int32 → xSt → Option ((xSt) ⊕ (Int32 × xSt))) (k0 : Nat) (a1 : Int32) (a3 : Int32) (a4 : Int32) (s0 : Int32) (S : xSt) : Option ((xSt) ⊕ (Int32 × xSt)) :=
  if s0 = ((-1 : Int32)) then
  (some (.inr ((0 : Int32), S)))
else
  ((xgM tC 10 2 k0 S).bind fun r14 =>
  (xgF tC 9 9 r14 S).bind fun r15 =>
  (xas tC r15 ((a1 * ((4 : Int32))) + a3) a4 S).bind fun S16 =>
  (xgM tC 10 2 k0 S16).bind fun r17 =>
  (xgF tC 9 10 r17 S16).bind fun r18 =>
  (xas tC r18 ((a1 * ((4 : Int32))) + a3) s0 S16).bind fun S19 =>
  (xgM tC 10 2 k0 S19).bind fun r20 =>
  (xgF tC 9 8 r20 S19).bind fun r21 =>
  (xas tC r21 a1 (a3 + ((1 : Int32))) S19).bind fun S22 =>
  (some (a3 + (1 : Int32))).bind fun v23 =>
  rec v23 S22)
set_option maxHeartbeats 4000000 in
theorem tX10_readJob_B121_74 {Γ : xGm} {M : xMg} (o : xOk Γ tC M 5 cX10_readJob RX10) (hnL : Γ.2.2.2 = 6) {rec : Int32 → xSt → Option ((xSt) ⊕ (Int32 × xSt))} (n : Nat) (k0 : Nat) (a1 : Int32) (a3 : Int32) (a4 : Int32) (s0 : Int32) (S : xSt) (z : ((xSt) ⊕ (Int32 × xSt))) (hrec : ∀ (a3 : Int32) (S : xSt), rec a3 S = some z → xAt Γ tC M 74 (xlv [(0, .ref (M.2.1 k0)), (1, .int a1), (3, .int a3)]) [] S) (K : ∀ e, z = .inl e → xAt Γ tC M 179 (xlv [(0, .ref (M.2.1 k0))]) [] e) (R : ∀ r, z = .inr r → xRI Γ tC M (some .boolean) r.1 r.2) (h : fX10_readJob_B121_74 n rec k0 a1 a3 a4 s0 S = some z) : xAt Γ tC M 121 (xlv [(0, .ref (M.2.1 k0)), (1, .int a1), (3, .int a3), (4, .int a4)]) [.int s0] S := by
  have hn3 : 3 < Γ.2.2.2 := by omega
  have hn5 : 5 < Γ.2.2.2 := by omega
  unfold fX10_readJob_B121_74 at h
  refine x_istore (pc := 121) o dX10_readJob_121 hn5 ?_
  refine x_iload (pc := 123) o dX10_readJob_123 rfl ?_
  refine x_iconst (pc := 125) o dX10_readJob_125 ic_m1 ?_
  refine x_icmp_ne (pc := 126) (tgt := 131) o dX10_readJob_126 (by decide) (fun c24 => ?_) (fun c24 => ?_)
  · have h := xif h c24
    refine x_aload_n (pc := 131) o dX10_readJob_131 rfl rfl ?_
    obtain ⟨r14, hr14, h⟩ := xbs h
    refine gX10_30 (pc := 132) o dX10_readJob_132 hr14 ?_
    obtain ⟨r15, hr15, h⟩ := xbs h
    refine gX10_173 (pc := 135) o dX10_readJob_135 hr15 ?_
    refine x_iload_n (pc := 138) o dX10_readJob_138 rfl rfl ?_
    refine x_iconst (pc := 139) o dX10_readJob_139 ic_4 ?_
    refine x_imul (pc := 140) o dX10_readJob_140 ?_
    refine x_iload_n (pc := 141) o dX10_readJob_141 rfl rfl ?_
    refine x_iadd (pc := 142) o dX10_readJob_142 ?_
    refine x_iload (pc := 143) o dX10_readJob_143 rfl ?_
    obtain ⟨S16, hS16, h⟩ := xbs h
    refine x_iastore (pc := 145) o dX10_readJob_145 hS16 ?_
    refine x_aload_n (pc := 146) o dX10_readJob_146 rfl rfl ?_
    obtain ⟨r17, hr17, h⟩ := xbs h
    refine gX10_30 (pc := 147) o dX10_readJob_147 hr17 ?_
    obtain ⟨r18, hr18, h⟩ := xbs h
    refine gX10_176 (pc := 150) o dX10_readJob_150 hr18 ?_
    refine x_iload_n (pc := 153) o dX10_readJob_153 rfl rfl ?_
    refine x_iconst (pc := 154) o dX10_readJob_154 ic_4 ?_
    refine x_imul (pc := 155) o dX10_readJob_155 ?_
    refine x_iload_n (pc := 156) o dX10_readJob_156 rfl rfl ?_
    refine x_iadd (pc := 157) o dX10_readJob_157 ?_
    refine x_iload (pc := 158) o dX10_readJob_158 rfl ?_
    obtain ⟨S19, hS19, h⟩ := xbs h
    refine x_iastore (pc := 160) o dX10_readJob_160 hS19 ?_
    refine x_aload_n (pc := 161) o dX10_readJob_161 rfl rfl ?_
    obtain ⟨r20, hr20, h⟩ := xbs h
    refine gX10_30 (pc := 162) o dX10_readJob_162 hr20 ?_
    obtain ⟨r21, hr21, h⟩ := xbs h
    refine gX10_179 (pc := 165) o dX10_readJob_165 hr21 ?_
    refine x_iload_n (pc := 168) o dX10_readJob_168 rfl rfl ?_
    refine x_iload_n (pc := 169) o dX10_readJob_169 rfl rfl ?_
    refine x_iconst (pc := 170) o dX10_readJob_170 ic_1 ?_
    refine x_iadd (pc := 171) o dX10_readJob_171 ?_
    obtain ⟨S22, hS22, h⟩ := xbs h
    refine x_iastore (pc := 172) o dX10_readJob_172 hS22 ?_
    obtain ⟨v23, hv23, h⟩ := xbs h
    refine x_iincE (pc := 173) o dX10_readJob_173 rfl ic_1 hn3 hv23 ?_
    refine x_goto (pc := 176) (tgt := 74) o dX10_readJob_176 (by decide) ?_
    refine x_to (l := [(0, .ref (M.2.1 k0)), (1, .int a1), (3, .int v23)]) ⟨rfl, rfl, rfl, trivial⟩ ?_
    exact hrec v23 S22 h
  · have h := xit h c24
    refine x_iconst (pc := 129) o dX10_readJob_129 ic_0 ?_
    exact x_zreturn (pc := 130) o (R _ (Option.some.inj h).symm) dX10_readJob_130 (by decide) rfl rfl
def fX10_readJob_B93_74 (n : Nat) (rec : Int32 → xSt → Option ((xSt) ⊕ (Int32 × xSt))) (k0 : Nat) (a1 : Int32) (a3 : Int32) (S : xSt) : Option ((xSt) ⊕ (Int32 × xSt)) :=
  (fX10_takeNameOf n k0 ((0 : Int32)) ((-1 : Int32)) S).bind fun q11 =>
  if q11.1 = ((-1 : Int32)) then
  (fX10_readJob_B121_74 n rec k0 a1 a3 q11.1 ((-1 : Int32)) q11.2)
else
  ((xgF tC 10 0 k0 q11.2).bind fun r12 =>
  (fX7_takeNumber n r12 ((1 : Int32)) ((9 : Int32)) q11.2).bind fun q13 =>
  fX10_readJob_B121_74 n rec k0 a1 a3 q11.1 q13.1 q13.2)
set_option maxHeartbeats 4000000 in
theorem tX10_readJob_B93_74 {Γ : xGm} {M : xMg} (o : xOk Γ tC M 5 cX10_readJob RX10) (hnL : Γ.2.2.2 = 6) {rec : Int32 → xSt → Option ((xSt) ⊕ (Int32 × xSt))} (n : Nat) (k0 : Nat) (a1 : Int32) (a3 : Int32) (S : xSt) (z : ((xSt) ⊕ (Int32 × xSt))) (hrec : ∀ (a3 : Int32) (S : xSt), rec a3 S = some z → xAt Γ tC M 74 (xlv [(0, .ref (M.2.1 k0)), (1, .int a1), (3, .int a3)]) [] S) (K : ∀ e, z = .inl e → xAt Γ tC M 179 (xlv [(0, .ref (M.2.1 k0))]) [] e) (R : ∀ r, z = .inr r → xRI Γ tC M (some .boolean) r.1 r.2) (h : fX10_readJob_B93_74 n rec k0 a1 a3 S = some z) : xAt Γ tC M 93 (xlv [(0, .ref (M.2.1 k0)), (1, .int a1), (3, .int a3)]) [] S := by
  have hn4 : 4 < Γ.2.2.2 := by omega
  unfold fX10_readJob_B93_74 at h
  refine x_aload_n (pc := 93) o dX10_readJob_93 rfl rfl ?_
  refine x_iconst (pc := 94) o dX10_readJob_94 ic_0 ?_
  refine x_iconst (pc := 95) o dX10_readJob_95 ic_m1 ?_
  obtain ⟨q11, hq11, h⟩ := xbs h
  refine x_callI (pc := 96) (As := [.int ((0 : Int32)), .int ((-1 : Int32))]) (b := k0) (rest := []) o (tX10_takeNameOf _ M _ n k0 ((0 : Int32)) ((-1 : Int32)) S q11 hq11) eX10_takeNameOf mX10_155 clX10 (kX10_takeNameOf hq11) (by decide) rfl rfl (Nat.le_of_ble_eq_true rfl) dX10_readJob_96 ?_
  refine x_istore (pc := 99) o dX10_readJob_99 hn4 ?_
  refine x_iload (pc := 101) o dX10_readJob_101 rfl ?_
  refine x_iconst (pc := 103) o dX10_readJob_103 ic_m1 ?_
  refine x_icmp_ne (pc := 104) (tgt := 111) o dX10_readJob_104 (by decide) (fun c25 => ?_) (fun c25 => ?_)
  · have h := xif h c25
    refine x_aload_n (pc := 111) o dX10_readJob_111 rfl rfl ?_
    obtain ⟨r12, hr12, h⟩ := xbs h
    refine gX10_9 (pc := 112) o dX10_readJob_112 hr12 ?_
    refine x_iconst (pc := 115) o dX10_readJob_115 ic_1 ?_
    refine x_bipush (pc := 116) o dX10_readJob_116 bp_9 ?_
    obtain ⟨q13, hq13, h⟩ := xbs h
    refine x_callI (pc := 118) (As := [.int ((1 : Int32)), .int ((9 : Int32))]) (b := r12) (rest := []) o (tX7_takeNumber _ M _ n r12 ((1 : Int32)) ((9 : Int32)) q11.2 q13 hq13) eX7_takeNumber mX10_136 clX7 (kX7_takeNumber hq13) (by decide) rfl rfl (Nat.le_of_ble_eq_true rfl) dX10_readJob_118 ?_
    refine x_to (l := [(0, .ref (M.2.1 k0)), (1, .int a1), (3, .int a3), (4, .int q11.1)]) ⟨rfl, rfl, rfl, rfl, trivial⟩ ?_
    exact tX10_readJob_B121_74 o hnL n k0 a1 a3 q11.1 q13.1 q13.2 z hrec K R h
  · have h := xit h c25
    refine x_iconst (pc := 107) o dX10_readJob_107 ic_m1 ?_
    refine x_goto (pc := 108) (tgt := 121) o dX10_readJob_108 (by decide) ?_
    refine x_to (l := [(0, .ref (M.2.1 k0)), (1, .int a1), (3, .int a3), (4, .int q11.1)]) ⟨rfl, rfl, rfl, rfl, trivial⟩ ?_
    exact tX10_readJob_B121_74 o hnL n k0 a1 a3 q11.1 ((-1 : Int32)) q11.2 z hrec K R h
def fX10_readJob_L74b (n : Nat) (k0 : Nat) (a1 : Int32) (rec : Int32 → xSt → Option ((xSt) ⊕ (Int32 × xSt))) (a3 : Int32) (S : xSt) : Option ((xSt) ⊕ (Int32 × xSt)) :=
  if ((4 : Int32)) ≤ a3 then
  (some (.inl S))
else
  (if a3 = 0 then
  (fX10_readJob_B93_74 n rec k0 a1 a3 S)
else
  ((xgF tC 10 0 k0 S).bind fun r26 =>
  (fX7_startsStep r26 S).bind fun v27 =>
  if v27 = 0 then
  (some (.inl S))
else
  (fX10_readJob_B93_74 n rec k0 a1 a3 S)))
def fX10_readJob_L74 (n : Nat) (k0 : Nat) (a1 : Int32) : Nat → Int32 → xSt → Option ((xSt) ⊕ (Int32 × xSt))
  | 0 => fun _ _ => none
  | q + 1 => fX10_readJob_L74b n k0 a1 (fX10_readJob_L74 n k0 a1 q)
set_option maxHeartbeats 4000000 in
theorem tX10_readJob_L74b {Γ : xGm} {M : xMg} (o : xOk Γ tC M 5 cX10_readJob RX10) (hnL : Γ.2.2.2 = 6) {rec : Int32 → xSt → Option ((xSt) ⊕ (Int32 × xSt))} (n : Nat) (k0 : Nat) (a1 : Int32) (a3 : Int32) (S : xSt) (z : ((xSt) ⊕ (Int32 × xSt))) (hrec : ∀ (a3 : Int32) (S : xSt), rec a3 S = some z → xAt Γ tC M 74 (xlv [(0, .ref (M.2.1 k0)), (1, .int a1), (3, .int a3)]) [] S) (K : ∀ e, z = .inl e → xAt Γ tC M 179 (xlv [(0, .ref (M.2.1 k0))]) [] e) (R : ∀ r, z = .inr r → xRI Γ tC M (some .boolean) r.1 r.2) (h : fX10_readJob_L74b n k0 a1 rec a3 S = some z) : xAt Γ tC M 74 (xlv [(0, .ref (M.2.1 k0)), (1, .int a1), (3, .int a3)]) [] S := by
  unfold fX10_readJob_L74b at h
  refine x_iload_n (pc := 74) o dX10_readJob_74 rfl rfl ?_
  refine x_iconst (pc := 75) o dX10_readJob_75 ic_4 ?_
  refine x_icmp_ge (pc := 76) (tgt := 179) o dX10_readJob_76 (by decide) (fun c30 => ?_) (fun c30 => ?_)
  · have h := xit h c30
    refine x_to (l := [(0, .ref (M.2.1 k0))]) ⟨rfl, trivial⟩ ?_
    exact K _ (Option.some.inj h).symm
  · have h := xif h c30
    refine x_iload_n (pc := 79) o dX10_readJob_79 rfl rfl ?_
    refine x_if_eq (pc := 80) (tgt := 93) o dX10_readJob_80 (by decide) (fun c29 => ?_) (fun c29 => ?_)
    · have h := xit h c29
      refine x_to (l := [(0, .ref (M.2.1 k0)), (1, .int a1), (3, .int a3)]) ⟨rfl, rfl, rfl, trivial⟩ ?_
      exact tX10_readJob_B93_74 o hnL n k0 a1 a3 S z hrec K R h
    · have h := xif h c29
      refine x_aload_n (pc := 83) o dX10_readJob_83 rfl rfl ?_
      obtain ⟨r26, hr26, h⟩ := xbs h
      refine gX10_9 (pc := 84) o dX10_readJob_84 hr26 ?_
      obtain ⟨v27, hv27, h⟩ := xbs h
      refine x_callI (pc := 87) (As := []) (b := r26) (rest := []) o (tX7_startsStep _ M _ r26 S v27 hv27) eX7_startsStep mX10_170 clX7 (kX7_startsStep hv27) (by decide) rfl rfl (Nat.le_of_ble_eq_true rfl) dX10_readJob_87 ?_
      refine x_if_eq (pc := 90) (tgt := 179) o dX10_readJob_90 (by decide) (fun c28 => ?_) (fun c28 => ?_)
      · have h := xit h c28
        refine x_to (l := [(0, .ref (M.2.1 k0))]) ⟨rfl, trivial⟩ ?_
        exact K _ (Option.some.inj h).symm
      · have h := xif h c28
        refine x_to (l := [(0, .ref (M.2.1 k0)), (1, .int a1), (3, .int a3)]) ⟨rfl, rfl, rfl, trivial⟩ ?_
        exact tX10_readJob_B93_74 o hnL n k0 a1 a3 S z hrec K R h
theorem tX10_readJob_L74 {Γ : xGm} {M : xMg} (o : xOk Γ tC M 5 cX10_readJob RX10) (hnL : Γ.2.2.2 = 6) (n : Nat) (k0 : Nat) (a1 : Int32) (z : ((xSt) ⊕ (Int32 × xSt))) (K : ∀ e, z = .inl e → xAt Γ tC M 179 (xlv [(0, .ref (M.2.1 k0))]) [] e) (R : ∀ r, z = .inr r → xRI Γ tC M (some .boolean) r.1 r.2) : ∀ (q : Nat) (a3 : Int32) (S : xSt), fX10_readJob_L74 n k0 a1 q a3 S = some z → xAt Γ tC M 74 (xlv [(0, .ref (M.2.1 k0)), (1, .int a1), (3, .int a3)]) [] S := by
  intro q
  induction q with
  | zero => intro a3 S h; cases h
  | succ q ih => intro a3 S h; exact tX10_readJob_L74b o hnL n k0 a1 a3 S z ih K R h
def fX10_readJob_B179 (n : Nat) (k0 : Nat) (S : xSt) : Option (Int32 × xSt) :=
  (xgF tC 10 0 k0 S).bind fun r32 =>
  (fX7_startsStep r32 S).bind fun v33 =>
  if v33 = 0 then
  (some ((1 : Int32), S))
else
  ((xgF tC 10 0 k0 S).bind fun r34 =>
  (xgF tC 10 0 k0 S).bind fun r35 =>
  (xgI tC 7 5 r35 S).bind fun v36 =>
  (fX7_fail r34 ((6 : Int32)) v36 S).bind fun q37 =>
  if q37.1 = 0 then
  (some ((0 : Int32), q37.2))
else
  (some ((1 : Int32), q37.2)))
set_option maxHeartbeats 4000000 in
theorem tX10_readJob_B179 {Γ : xGm} {M : xMg} (o : xOk Γ tC M 5 cX10_readJob RX10) (hnL : Γ.2.2.2 = 6) (n : Nat) (k0 : Nat) (S : xSt) (z : (Int32 × xSt)) (hr : xRI Γ tC M (some .boolean) z.1 z.2) (h : fX10_readJob_B179 n k0 S = some z) : xAt Γ tC M 179 (xlv [(0, .ref (M.2.1 k0))]) [] S := by
  unfold fX10_readJob_B179 at h
  refine x_aload_n (pc := 179) o dX10_readJob_179 rfl rfl ?_
  obtain ⟨r32, hr32, h⟩ := xbs h
  refine gX10_9 (pc := 180) o dX10_readJob_180 hr32 ?_
  obtain ⟨v33, hv33, h⟩ := xbs h
  refine x_callI (pc := 183) (As := []) (b := r32) (rest := []) o (tX7_startsStep _ M _ r32 S v33 hv33) eX7_startsStep mX10_170 clX7 (kX7_startsStep hv33) (by decide) rfl rfl (Nat.le_of_ble_eq_true rfl) dX10_readJob_183 ?_
  refine x_if_eq (pc := 186) (tgt := 208) o dX10_readJob_186 (by decide) (fun c39 => ?_) (fun c39 => ?_)
  · have h := xit h c39
    refine x_iconst (pc := 208) o dX10_readJob_208 ic_1 ?_
    refine x_goto (pc := 209) (tgt := 213) o dX10_readJob_209 (by decide) ?_
    exact x_zreturn (pc := 213) o hr dX10_readJob_213 (by decide) (xr1 h) (xr2 h)
  · have h := xif h c39
    refine x_aload_n (pc := 189) o dX10_readJob_189 rfl rfl ?_
    obtain ⟨r34, hr34, h⟩ := xbs h
    refine gX10_9 (pc := 190) o dX10_readJob_190 hr34 ?_
    refine x_bipush (pc := 193) o dX10_readJob_193 bp_6 ?_
    refine x_aload_n (pc := 195) o dX10_readJob_195 rfl rfl ?_
    obtain ⟨r35, hr35, h⟩ := xbs h
    refine gX10_9 (pc := 196) o dX10_readJob_196 hr35 ?_
    obtain ⟨v36, hv36, h⟩ := xbs h
    refine gX10_47 (pc := 199) o dX10_readJob_199 hv36 ?_
    obtain ⟨q37, hq37, h⟩ := xbs h
    refine x_callI (pc := 202) (As := [.int ((6 : Int32)), .int v36]) (b := r34) (rest := []) o (tX7_fail _ M _ r34 ((6 : Int32)) v36 S q37 hq37) eX7_fail mX10_50 clX7 (kX7_fail hq37) (by decide) rfl rfl (Nat.le_of_ble_eq_true rfl) dX10_readJob_202 ?_
    refine x_if_eq (pc := 205) (tgt := 212) o dX10_readJob_205 (by decide) (fun c38 => ?_) (fun c38 => ?_)
    · have h := xit h c38
      refine x_iconst (pc := 212) o dX10_readJob_212 ic_0 ?_
      exact x_zreturn (pc := 213) o hr dX10_readJob_213 (by decide) (xr1 h) (xr2 h)
    · have h := xif h c38
      refine x_iconst (pc := 208) o dX10_readJob_208 ic_1 ?_
      refine x_goto (pc := 209) (tgt := 213) o dX10_readJob_209 (by decide) ?_
      exact x_zreturn (pc := 213) o hr dX10_readJob_213 (by decide) (xr1 h) (xr2 h)
def fX10_readJob (n : Nat) (k0 : Nat) (S : xSt) : Option (Int32 × xSt) :=
  if tC.1 k0 = 10 then
  ((fX10_takeNewName n k0 ((3 : Int32)) S).bind fun q1 =>
  if q1.1 = ((-1 : Int32)) then
  (some ((0 : Int32), q1.2))
else
  (if ((6 : Int32)) ≤ q1.1 then
  (some ((0 : Int32), q1.2))
else
  ((xgF tC 10 0 k0 q1.2).bind fun r2 =>
  (fX7_takeWord n r2 ((9 : Int32)) q1.2).bind fun q3 =>
  if q3.1 = 0 then
  (some ((0 : Int32), q3.2))
else
  ((xgF tC 10 0 k0 q3.2).bind fun r4 =>
  (fX7_takeNumber n r4 ((0 : Int32)) ((999 : Int32)) q3.2).bind fun q5 =>
  if q5.1 = ((-1 : Int32)) then
  (some ((0 : Int32), q5.2))
else
  ((xgF tC 10 0 k0 q5.2).bind fun r6 =>
  (fX7_takeWord n r6 ((10 : Int32)) q5.2).bind fun q7 =>
  if q7.1 = 0 then
  (some ((0 : Int32), q7.2))
else
  ((xgM tC 10 2 k0 q7.2).bind fun r8 =>
  (xgF tC 9 7 r8 q7.2).bind fun r9 =>
  (xas tC r9 q1.1 q5.1 q7.2).bind fun S10 =>
  (fX10_readJob_L74 n k0 q1.1 n ((0 : Int32)) S10).bind fun z31 => xel z31 (fun ez31 => fX10_readJob_B179 n k0 ez31) (fun r => some r)))))))
  else none
theorem kX10_readJob {z : Int32 × xSt} {n : Nat} {k0 : Nat} {S : xSt} (h : fX10_readJob n k0 S = some z) : tC.1 k0 = 10 := by
  unfold fX10_readJob at h
  exact (xck h).1
set_option maxHeartbeats 4000000 in
theorem tX10_readJob (l : Launch) (M : xMg) (A : Nat → Prop) (n : Nat) (k0 : Nat) (S : xSt) (z : Int32 × xSt) (h : fX10_readJob n k0 S = some z) : xMI l yX10_readJob cX10_readJob 6 (some .boolean) 5 tC M A [.ref (M.2.1 k0)] S z.1 z.2 := by
  refine x_metI (plainFor_of_name (by decide)) tC_ok (Nat.le_of_ble_eq_true rfl) (fun Γ hA hnL hl hr o => ?_)
  subst hA; subst hl
  have o : xOk Γ tC M 5 cX10_readJob RX10 := o
  unfold fX10_readJob at h
  obtain ⟨hk0, h⟩ := xck h
  refine x_to (l := [(0, .ref (M.2.1 k0))]) ⟨rfl, trivial⟩ ?_
  have hn1 : 1 < Γ.2.2.2 := by omega
  have hn2 : 2 < Γ.2.2.2 := by omega
  have hn3 : 3 < Γ.2.2.2 := by omega
  refine x_aload_n (pc := 0) o dX10_readJob_0 rfl rfl ?_
  refine x_iconst (pc := 1) o dX10_readJob_1 ic_3 ?_
  obtain ⟨q1, hq1, h⟩ := xbs h
  refine x_callI (pc := 2) (As := [.int ((3 : Int32))]) (b := k0) (rest := []) o (tX10_takeNewName _ M _ n k0 ((3 : Int32)) S q1 hq1) eX10_takeNewName mX10_77 clX10 (kX10_takeNewName hq1) (by decide) rfl rfl (Nat.le_of_ble_eq_true rfl) dX10_readJob_2 ?_
  refine x_istore_n (pc := 5) o dX10_readJob_5 rfl hn1 ?_
  refine x_iload_n (pc := 6) o dX10_readJob_6 rfl rfl ?_
  refine x_iconst (pc := 7) o dX10_readJob_7 ic_m1 ?_
  refine x_icmp_eq (pc := 8) (tgt := 29) o dX10_readJob_8 (by decide) (fun c44 => ?_) (fun c44 => ?_)
  · have h := xit h c44
    refine x_iconst (pc := 29) o dX10_readJob_29 ic_0 ?_
    exact x_zreturn (pc := 30) o hr dX10_readJob_30 (by decide) (xr1 h) (xr2 h)
  · have h := xif h c44
    refine x_iload_n (pc := 11) o dX10_readJob_11 rfl rfl ?_
    refine x_bipush (pc := 12) o dX10_readJob_12 bp_6 ?_
    refine x_icmp_ge (pc := 14) (tgt := 29) o dX10_readJob_14 (by decide) (fun c43 => ?_) (fun c43 => ?_)
    · have h := xit h c43
      refine x_iconst (pc := 29) o dX10_readJob_29 ic_0 ?_
      exact x_zreturn (pc := 30) o hr dX10_readJob_30 (by decide) (xr1 h) (xr2 h)
    · have h := xif h c43
      refine x_aload_n (pc := 17) o dX10_readJob_17 rfl rfl ?_
      obtain ⟨r2, hr2, h⟩ := xbs h
      refine gX10_9 (pc := 18) o dX10_readJob_18 hr2 ?_
      refine x_bipush (pc := 21) o dX10_readJob_21 bp_9 ?_
      obtain ⟨q3, hq3, h⟩ := xbs h
      refine x_callI (pc := 23) (As := [.int ((9 : Int32))]) (b := r2) (rest := []) o (tX7_takeWord _ M _ n r2 ((9 : Int32)) q1.2 q3 hq3) eX7_takeWord mX10_133 clX7 (kX7_takeWord hq3) (by decide) rfl rfl (Nat.le_of_ble_eq_true rfl) dX10_readJob_23 ?_
      refine x_if_ne (pc := 26) (tgt := 31) o dX10_readJob_26 (by decide) (fun c42 => ?_) (fun c42 => ?_)
      · have h := xif h c42
        refine x_aload_n (pc := 31) o dX10_readJob_31 rfl rfl ?_
        obtain ⟨r4, hr4, h⟩ := xbs h
        refine gX10_9 (pc := 32) o dX10_readJob_32 hr4 ?_
        refine x_iconst (pc := 35) o dX10_readJob_35 ic_0 ?_
        refine x_sipush (pc := 36) o dX10_readJob_36 sp_999 ?_
        obtain ⟨q5, hq5, h⟩ := xbs h
        refine x_callI (pc := 39) (As := [.int ((0 : Int32)), .int ((999 : Int32))]) (b := r4) (rest := []) o (tX7_takeNumber _ M _ n r4 ((0 : Int32)) ((999 : Int32)) q3.2 q5 hq5) eX7_takeNumber mX10_136 clX7 (kX7_takeNumber hq5) (by decide) rfl rfl (Nat.le_of_ble_eq_true rfl) dX10_readJob_39 ?_
        refine x_istore_n (pc := 42) o dX10_readJob_42 rfl hn2 ?_
        refine x_iload_n (pc := 43) o dX10_readJob_43 rfl rfl ?_
        refine x_iconst (pc := 44) o dX10_readJob_44 ic_m1 ?_
        refine x_icmp_eq (pc := 45) (tgt := 60) o dX10_readJob_45 (by decide) (fun c41 => ?_) (fun c41 => ?_)
        · have h := xit h c41
          refine x_iconst (pc := 60) o dX10_readJob_60 ic_0 ?_
          exact x_zreturn (pc := 61) o hr dX10_readJob_61 (by decide) (xr1 h) (xr2 h)
        · have h := xif h c41
          refine x_aload_n (pc := 48) o dX10_readJob_48 rfl rfl ?_
          obtain ⟨r6, hr6, h⟩ := xbs h
          refine gX10_9 (pc := 49) o dX10_readJob_49 hr6 ?_
          refine x_bipush (pc := 52) o dX10_readJob_52 bp_10 ?_
          obtain ⟨q7, hq7, h⟩ := xbs h
          refine x_callI (pc := 54) (As := [.int ((10 : Int32))]) (b := r6) (rest := []) o (tX7_takeWord _ M _ n r6 ((10 : Int32)) q5.2 q7 hq7) eX7_takeWord mX10_133 clX7 (kX7_takeWord hq7) (by decide) rfl rfl (Nat.le_of_ble_eq_true rfl) dX10_readJob_54 ?_
          refine x_if_ne (pc := 57) (tgt := 62) o dX10_readJob_57 (by decide) (fun c40 => ?_) (fun c40 => ?_)
          · have h := xif h c40
            refine x_aload_n (pc := 62) o dX10_readJob_62 rfl rfl ?_
            obtain ⟨r8, hr8, h⟩ := xbs h
            refine gX10_30 (pc := 63) o dX10_readJob_63 hr8 ?_
            obtain ⟨r9, hr9, h⟩ := xbs h
            refine gX10_167 (pc := 66) o dX10_readJob_66 hr9 ?_
            refine x_iload_n (pc := 69) o dX10_readJob_69 rfl rfl ?_
            refine x_iload_n (pc := 70) o dX10_readJob_70 rfl rfl ?_
            obtain ⟨S10, hS10, h⟩ := xbs h
            refine x_iastore (pc := 71) o dX10_readJob_71 hS10 ?_
            refine x_iconst (pc := 72) o dX10_readJob_72 ic_0 ?_
            refine x_istore_n (pc := 73) o dX10_readJob_73 rfl hn3 ?_
            obtain ⟨z31, hz31, h⟩ := xbs h
            refine x_to (l := [(0, .ref (M.2.1 k0)), (1, .int q1.1), (3, .int ((0 : Int32)))]) ⟨rfl, rfl, rfl, trivial⟩ ?_
            refine tX10_readJob_L74 o hnL n k0 q1.1 z31 (fun ez31 he => ?_) (fun r he => ?_) n ((0 : Int32)) S10 hz31
            · subst he; have h := xel_l h
              refine x_to (l := [(0, .ref (M.2.1 k0))]) ⟨rfl, trivial⟩ ?_
              exact tX10_readJob_B179 o hnL n k0 ez31 z hr h
            · subst he; have h := xel_r h
              cases Option.some.inj h
              exact hr
          · have h := xit h c40
            refine x_iconst (pc := 60) o dX10_readJob_60 ic_0 ?_
            exact x_zreturn (pc := 61) o hr dX10_readJob_61 (by decide) (xr1 h) (xr2 h)
      · have h := xit h c42
        refine x_iconst (pc := 29) o dX10_readJob_29 ic_0 ?_
        exact x_zreturn (pc := 30) o hr dX10_readJob_30 (by decide) (xr1 h) (xr2 h)
def fX10_readKnows_B49 (n : Nat) (k0 : Nat) (a1 : Int32) (a2 : Int32) (s0 : Int32) (S : xSt) : Option (Int32 × xSt) :=
  if s0 = ((-1 : Int32)) then
  (some ((0 : Int32), S))
else
  (if ((6 : Int32)) ≤ a1 then
  (some ((0 : Int32), S))
else
  (if a2 < ((8 : Int32)) then
  ((xgM tC 10 2 k0 S).bind fun r7 =>
  (xgF tC 9 6 r7 S).bind fun r8 =>
  (xas tC r8 ((a1 * ((8 : Int32))) + a2) s0 S).bind fun S9 =>
  some ((1 : Int32), S9))
else
  (some ((0 : Int32), S))))
set_option maxHeartbeats 4000000 in
theorem tX10_readKnows_B49 {Γ : xGm} {M : xMg} (o : xOk Γ tC M 5 cX10_readKnows RX10) (hnL : Γ.2.2.2 = 4) (n : Nat) (k0 : Nat) (a1 : Int32) (a2 : Int32) (s0 : Int32) (S : xSt) (z : (Int32 × xSt)) (hr : xRI Γ tC M (some .boolean) z.1 z.2) (h : fX10_readKnows_B49 n k0 a1 a2 s0 S = some z) : xAt Γ tC M 49 (xlv [(0, .ref (M.2.1 k0)), (1, .int a1), (2, .int a2)]) [.int s0] S := by
  have hn3 : 3 < Γ.2.2.2 := by omega
  unfold fX10_readKnows_B49 at h
  refine x_istore_n (pc := 49) o dX10_readKnows_49 rfl hn3 ?_
  refine x_iload_n (pc := 50) o dX10_readKnows_50 rfl rfl ?_
  refine x_iconst (pc := 51) o dX10_readKnows_51 ic_m1 ?_
  refine x_icmp_eq (pc := 52) (tgt := 67) o dX10_readKnows_52 (by decide) (fun c12 => ?_) (fun c12 => ?_)
  · have h := xit h c12
    refine x_iconst (pc := 67) o dX10_readKnows_67 ic_0 ?_
    exact x_zreturn (pc := 68) o hr dX10_readKnows_68 (by decide) (xr1 h) (xr2 h)
  · have h := xif h c12
    refine x_iload_n (pc := 55) o dX10_readKnows_55 rfl rfl ?_
    refine x_bipush (pc := 56) o dX10_readKnows_56 bp_6 ?_
    refine x_icmp_ge (pc := 58) (tgt := 67) o dX10_readKnows_58 (by decide) (fun c11 => ?_) (fun c11 => ?_)
    · have h := xit h c11
      refine x_iconst (pc := 67) o dX10_readKnows_67 ic_0 ?_
      exact x_zreturn (pc := 68) o hr dX10_readKnows_68 (by decide) (xr1 h) (xr2 h)
    · have h := xif h c11
      refine x_iload_n (pc := 61) o dX10_readKnows_61 rfl rfl ?_
      refine x_bipush (pc := 62) o dX10_readKnows_62 bp_8 ?_
      refine x_icmp_lt (pc := 64) (tgt := 69) o dX10_readKnows_64 (by decide) (fun c10 => ?_) (fun c10 => ?_)
      · have h := xit h c10
        refine x_aload_n (pc := 69) o dX10_readKnows_69 rfl rfl ?_
        obtain ⟨r7, hr7, h⟩ := xbs h
        refine gX10_30 (pc := 70) o dX10_readKnows_70 hr7 ?_
        obtain ⟨r8, hr8, h⟩ := xbs h
        refine gX10_164 (pc := 73) o dX10_readKnows_73 hr8 ?_
        refine x_iload_n (pc := 76) o dX10_readKnows_76 rfl rfl ?_
        refine x_bipush (pc := 77) o dX10_readKnows_77 bp_8 ?_
        refine x_imul (pc := 79) o dX10_readKnows_79 ?_
        refine x_iload_n (pc := 80) o dX10_readKnows_80 rfl rfl ?_
        refine x_iadd (pc := 81) o dX10_readKnows_81 ?_
        refine x_iload_n (pc := 82) o dX10_readKnows_82 rfl rfl ?_
        obtain ⟨S9, hS9, h⟩ := xbs h
        refine x_iastore (pc := 83) o dX10_readKnows_83 hS9 ?_
        refine x_iconst (pc := 84) o dX10_readKnows_84 ic_1 ?_
        exact x_zreturn (pc := 85) o hr dX10_readKnows_85 (by decide) (xr1 h) (xr2 h)
      · have h := xif h c10
        refine x_iconst (pc := 67) o dX10_readKnows_67 ic_0 ?_
        exact x_zreturn (pc := 68) o hr dX10_readKnows_68 (by decide) (xr1 h) (xr2 h)
def fX10_readKnows_B29 (n : Nat) (k0 : Nat) (a1 : Int32) (s0 : Int32) (S : xSt) : Option (Int32 × xSt) :=
  if s0 = ((-1 : Int32)) then
  (fX10_readKnows_B49 n k0 a1 s0 ((-1 : Int32)) S)
else
  ((xgF tC 10 0 k0 S).bind fun r5 =>
  (fX7_takeNumber n r5 ((0 : Int32)) ((9 : Int32)) S).bind fun q6 =>
  fX10_readKnows_B49 n k0 a1 s0 q6.1 q6.2)
set_option maxHeartbeats 4000000 in
theorem tX10_readKnows_B29 {Γ : xGm} {M : xMg} (o : xOk Γ tC M 5 cX10_readKnows RX10) (hnL : Γ.2.2.2 = 4) (n : Nat) (k0 : Nat) (a1 : Int32) (s0 : Int32) (S : xSt) (z : (Int32 × xSt)) (hr : xRI Γ tC M (some .boolean) z.1 z.2) (h : fX10_readKnows_B29 n k0 a1 s0 S = some z) : xAt Γ tC M 29 (xlv [(0, .ref (M.2.1 k0)), (1, .int a1)]) [.int s0] S := by
  have hn2 : 2 < Γ.2.2.2 := by omega
  unfold fX10_readKnows_B29 at h
  refine x_istore_n (pc := 29) o dX10_readKnows_29 rfl hn2 ?_
  refine x_iload_n (pc := 30) o dX10_readKnows_30 rfl rfl ?_
  refine x_iconst (pc := 31) o dX10_readKnows_31 ic_m1 ?_
  refine x_icmp_ne (pc := 32) (tgt := 39) o dX10_readKnows_32 (by decide) (fun c13 => ?_) (fun c13 => ?_)
  · have h := xif h c13
    refine x_aload_n (pc := 39) o dX10_readKnows_39 rfl rfl ?_
    obtain ⟨r5, hr5, h⟩ := xbs h
    refine gX10_9 (pc := 40) o dX10_readKnows_40 hr5 ?_
    refine x_iconst (pc := 43) o dX10_readKnows_43 ic_0 ?_
    refine x_bipush (pc := 44) o dX10_readKnows_44 bp_9 ?_
    obtain ⟨q6, hq6, h⟩ := xbs h
    refine x_callI (pc := 46) (As := [.int ((0 : Int32)), .int ((9 : Int32))]) (b := r5) (rest := []) o (tX7_takeNumber _ M _ n r5 ((0 : Int32)) ((9 : Int32)) S q6 hq6) eX7_takeNumber mX10_136 clX7 (kX7_takeNumber hq6) (by decide) rfl rfl (Nat.le_of_ble_eq_true rfl) dX10_readKnows_46 ?_
    refine x_to (l := [(0, .ref (M.2.1 k0)), (1, .int a1), (2, .int s0)]) ⟨rfl, rfl, rfl, trivial⟩ ?_
    exact tX10_readKnows_B49 o hnL n k0 a1 s0 q6.1 q6.2 z hr h
  · have h := xit h c13
    refine x_iconst (pc := 35) o dX10_readKnows_35 ic_m1 ?_
    refine x_goto (pc := 36) (tgt := 49) o dX10_readKnows_36 (by decide) ?_
    refine x_to (l := [(0, .ref (M.2.1 k0)), (1, .int a1), (2, .int s0)]) ⟨rfl, rfl, rfl, trivial⟩ ?_
    exact tX10_readKnows_B49 o hnL n k0 a1 s0 ((-1 : Int32)) S z hr h
def fX10_readKnows (n : Nat) (k0 : Nat) (S : xSt) : Option (Int32 × xSt) :=
  if tC.1 k0 = 10 then
  ((xgF tC 10 0 k0 S).bind fun r1 =>
  (fX7_advance n r1 S).bind fun S2 =>
  (fX10_takeNameOf n k0 ((2 : Int32)) ((-1 : Int32)) S2).bind fun q3 =>
  if q3.1 = ((-1 : Int32)) then
  (fX10_readKnows_B29 n k0 q3.1 ((-1 : Int32)) q3.2)
else
  ((fX10_takeNameOf n k0 ((1 : Int32)) ((-1 : Int32)) q3.2).bind fun q4 =>
  fX10_readKnows_B29 n k0 q3.1 q4.1 q4.2))
  else none
theorem kX10_readKnows {z : Int32 × xSt} {n : Nat} {k0 : Nat} {S : xSt} (h : fX10_readKnows n k0 S = some z) : tC.1 k0 = 10 := by
  unfold fX10_readKnows at h
  exact (xck h).1
set_option maxHeartbeats 4000000 in
theorem tX10_readKnows (l : Launch) (M : xMg) (A : Nat → Prop) (n : Nat) (k0 : Nat) (S : xSt) (z : Int32 × xSt) (h : fX10_readKnows n k0 S = some z) : xMI l yX10_readKnows cX10_readKnows 4 (some .boolean) 5 tC M A [.ref (M.2.1 k0)] S z.1 z.2 := by
  refine x_metI (plainFor_of_name (by decide)) tC_ok (Nat.le_of_ble_eq_true rfl) (fun Γ hA hnL hl hr o => ?_)
  subst hA; subst hl
  have o : xOk Γ tC M 5 cX10_readKnows RX10 := o
  unfold fX10_readKnows at h
  obtain ⟨hk0, h⟩ := xck h
  refine x_to (l := [(0, .ref (M.2.1 k0))]) ⟨rfl, trivial⟩ ?_
  have hn1 : 1 < Γ.2.2.2 := by omega
  refine x_aload_n (pc := 0) o dX10_readKnows_0 rfl rfl ?_
  obtain ⟨r1, hr1, h⟩ := xbs h
  refine gX10_9 (pc := 1) o dX10_readKnows_1 hr1 ?_
  obtain ⟨S2, hS2, h⟩ := xbs h
  refine x_callV (pc := 4) (As := []) (b := r1) (rest := []) o (tX7_advance _ M _ n r1 S S2 hS2) eX7_advance mX10_130 clX7 (kX7_advance hS2) (by decide) rfl rfl (Nat.le_of_ble_eq_true rfl) dX10_readKnows_4 ?_
  refine x_aload_n (pc := 7) o dX10_readKnows_7 rfl rfl ?_
  refine x_iconst (pc := 8) o dX10_readKnows_8 ic_2 ?_
  refine x_iconst (pc := 9) o dX10_readKnows_9 ic_m1 ?_
  obtain ⟨q3, hq3, h⟩ := xbs h
  refine x_callI (pc := 10) (As := [.int ((2 : Int32)), .int ((-1 : Int32))]) (b := k0) (rest := []) o (tX10_takeNameOf _ M _ n k0 ((2 : Int32)) ((-1 : Int32)) S2 q3 hq3) eX10_takeNameOf mX10_155 clX10 (kX10_takeNameOf hq3) (by decide) rfl rfl (Nat.le_of_ble_eq_true rfl) dX10_readKnows_10 ?_
  refine x_istore_n (pc := 13) o dX10_readKnows_13 rfl hn1 ?_
  refine x_iload_n (pc := 14) o dX10_readKnows_14 rfl rfl ?_
  refine x_iconst (pc := 15) o dX10_readKnows_15 ic_m1 ?_
  refine x_icmp_ne (pc := 16) (tgt := 23) o dX10_readKnows_16 (by decide) (fun c14 => ?_) (fun c14 => ?_)
  · have h := xif h c14
    refine x_aload_n (pc := 23) o dX10_readKnows_23 rfl rfl ?_
    refine x_iconst (pc := 24) o dX10_readKnows_24 ic_1 ?_
    refine x_iconst (pc := 25) o dX10_readKnows_25 ic_m1 ?_
    obtain ⟨q4, hq4, h⟩ := xbs h
    refine x_callI (pc := 26) (As := [.int ((1 : Int32)), .int ((-1 : Int32))]) (b := k0) (rest := []) o (tX10_takeNameOf _ M _ n k0 ((1 : Int32)) ((-1 : Int32)) q3.2 q4 hq4) eX10_takeNameOf mX10_155 clX10 (kX10_takeNameOf hq4) (by decide) rfl rfl (Nat.le_of_ble_eq_true rfl) dX10_readKnows_26 ?_
    refine x_to (l := [(0, .ref (M.2.1 k0)), (1, .int q3.1)]) ⟨rfl, rfl, trivial⟩ ?_
    exact tX10_readKnows_B29 o hnL n k0 q3.1 q4.1 q4.2 z hr h
  · have h := xit h c14
    refine x_iconst (pc := 19) o dX10_readKnows_19 ic_m1 ?_
    refine x_goto (pc := 20) (tgt := 29) o dX10_readKnows_20 (by decide) ?_
    refine x_to (l := [(0, .ref (M.2.1 k0)), (1, .int q3.1)]) ⟨rfl, rfl, trivial⟩ ?_
    exact tX10_readKnows_B29 o hnL n k0 q3.1 ((-1 : Int32)) q3.2 z hr h
def fX10_readServes (n : Nat) (k0 : Nat) (S : xSt) : Option (Int32 × xSt) :=
  if tC.1 k0 = 10 then
  ((xgF tC 10 0 k0 S).bind fun r1 =>
  (fX7_advance n r1 S).bind fun S2 =>
  (fX10_takeNameOf n k0 ((0 : Int32)) ((-1 : Int32)) S2).bind fun q3 =>
  if q3.1 = ((-1 : Int32)) then
  (some ((0 : Int32), q3.2))
else
  ((xgF tC 10 0 k0 q3.2).bind fun r4 =>
  (fX7_takeWord n r4 ((12 : Int32)) q3.2).bind fun q5 =>
  if q5.1 = 0 then
  (some ((0 : Int32), q5.2))
else
  ((fX10_takeNameOf n k0 ((0 : Int32)) q3.1 q5.2).bind fun q6 =>
  if q6.1 = ((-1 : Int32)) then
  (some ((0 : Int32), q6.2))
else
  ((xgF tC 10 0 k0 q6.2).bind fun r7 =>
  (fX7_takeWord n r7 ((13 : Int32)) q6.2).bind fun q8 =>
  if q8.1 = 0 then
  (some ((0 : Int32), q8.2))
else
  ((xgF tC 10 0 k0 q8.2).bind fun r9 =>
  (fX7_takeNumber n r9 ((1 : Int32)) ((99 : Int32)) q8.2).bind fun q10 =>
  if q10.1 = ((-1 : Int32)) then
  (some ((0 : Int32), q10.2))
else
  (if ((6 : Int32)) ≤ q3.1 then
  (some ((0 : Int32), q10.2))
else
  (if q6.1 < ((6 : Int32)) then
  ((xgM tC 10 2 k0 q10.2).bind fun r11 =>
  (xgF tC 9 11 r11 q10.2).bind fun r12 =>
  (xas tC r12 ((q3.1 * ((6 : Int32))) + q6.1) q10.1 q10.2).bind fun S13 =>
  some ((1 : Int32), S13))
else
  (some ((0 : Int32), q10.2)))))))))
  else none
theorem kX10_readServes {z : Int32 × xSt} {n : Nat} {k0 : Nat} {S : xSt} (h : fX10_readServes n k0 S = some z) : tC.1 k0 = 10 := by
  unfold fX10_readServes at h
  exact (xck h).1
set_option maxHeartbeats 4000000 in
theorem tX10_readServes (l : Launch) (M : xMg) (A : Nat → Prop) (n : Nat) (k0 : Nat) (S : xSt) (z : Int32 × xSt) (h : fX10_readServes n k0 S = some z) : xMI l yX10_readServes cX10_readServes 4 (some .boolean) 5 tC M A [.ref (M.2.1 k0)] S z.1 z.2 := by
  refine x_metI (plainFor_of_name (by decide)) tC_ok (Nat.le_of_ble_eq_true rfl) (fun Γ hA hnL hl hr o => ?_)
  subst hA; subst hl
  have o : xOk Γ tC M 5 cX10_readServes RX10 := o
  unfold fX10_readServes at h
  obtain ⟨hk0, h⟩ := xck h
  refine x_to (l := [(0, .ref (M.2.1 k0))]) ⟨rfl, trivial⟩ ?_
  have hn1 : 1 < Γ.2.2.2 := by omega
  have hn2 : 2 < Γ.2.2.2 := by omega
  have hn3 : 3 < Γ.2.2.2 := by omega
  refine x_aload_n (pc := 0) o dX10_readServes_0 rfl rfl ?_
  obtain ⟨r1, hr1, h⟩ := xbs h
  refine gX10_9 (pc := 1) o dX10_readServes_1 hr1 ?_
  obtain ⟨S2, hS2, h⟩ := xbs h
  refine x_callV (pc := 4) (As := []) (b := r1) (rest := []) o (tX7_advance _ M _ n r1 S S2 hS2) eX7_advance mX10_130 clX7 (kX7_advance hS2) (by decide) rfl rfl (Nat.le_of_ble_eq_true rfl) dX10_readServes_4 ?_
  refine x_aload_n (pc := 7) o dX10_readServes_7 rfl rfl ?_
  refine x_iconst (pc := 8) o dX10_readServes_8 ic_0 ?_
  refine x_iconst (pc := 9) o dX10_readServes_9 ic_m1 ?_
  obtain ⟨q3, hq3, h⟩ := xbs h
  refine x_callI (pc := 10) (As := [.int ((0 : Int32)), .int ((-1 : Int32))]) (b := k0) (rest := []) o (tX10_takeNameOf _ M _ n k0 ((0 : Int32)) ((-1 : Int32)) S2 q3 hq3) eX10_takeNameOf mX10_155 clX10 (kX10_takeNameOf hq3) (by decide) rfl rfl (Nat.le_of_ble_eq_true rfl) dX10_readServes_10 ?_
  refine x_istore_n (pc := 13) o dX10_readServes_13 rfl hn1 ?_
  refine x_iload_n (pc := 14) o dX10_readServes_14 rfl rfl ?_
  refine x_iconst (pc := 15) o dX10_readServes_15 ic_m1 ?_
  refine x_icmp_eq (pc := 16) (tgt := 31) o dX10_readServes_16 (by decide) (fun c20 => ?_) (fun c20 => ?_)
  · have h := xit h c20
    refine x_iconst (pc := 31) o dX10_readServes_31 ic_0 ?_
    exact x_zreturn (pc := 32) o hr dX10_readServes_32 (by decide) (xr1 h) (xr2 h)
  · have h := xif h c20
    refine x_aload_n (pc := 19) o dX10_readServes_19 rfl rfl ?_
    obtain ⟨r4, hr4, h⟩ := xbs h
    refine gX10_9 (pc := 20) o dX10_readServes_20 hr4 ?_
    refine x_bipush (pc := 23) o dX10_readServes_23 bp_12 ?_
    obtain ⟨q5, hq5, h⟩ := xbs h
    refine x_callI (pc := 25) (As := [.int ((12 : Int32))]) (b := r4) (rest := []) o (tX7_takeWord _ M _ n r4 ((12 : Int32)) q3.2 q5 hq5) eX7_takeWord mX10_133 clX7 (kX7_takeWord hq5) (by decide) rfl rfl (Nat.le_of_ble_eq_true rfl) dX10_readServes_25 ?_
    refine x_if_ne (pc := 28) (tgt := 33) o dX10_readServes_28 (by decide) (fun c19 => ?_) (fun c19 => ?_)
    · have h := xif h c19
      refine x_aload_n (pc := 33) o dX10_readServes_33 rfl rfl ?_
      refine x_iconst (pc := 34) o dX10_readServes_34 ic_0 ?_
      refine x_iload_n (pc := 35) o dX10_readServes_35 rfl rfl ?_
      obtain ⟨q6, hq6, h⟩ := xbs h
      refine x_callI (pc := 36) (As := [.int ((0 : Int32)), .int q3.1]) (b := k0) (rest := []) o (tX10_takeNameOf _ M _ n k0 ((0 : Int32)) q3.1 q5.2 q6 hq6) eX10_takeNameOf mX10_155 clX10 (kX10_takeNameOf hq6) (by decide) rfl rfl (Nat.le_of_ble_eq_true rfl) dX10_readServes_36 ?_
      refine x_istore_n (pc := 39) o dX10_readServes_39 rfl hn2 ?_
      refine x_iload_n (pc := 40) o dX10_readServes_40 rfl rfl ?_
      refine x_iconst (pc := 41) o dX10_readServes_41 ic_m1 ?_
      refine x_icmp_eq (pc := 42) (tgt := 57) o dX10_readServes_42 (by decide) (fun c18 => ?_) (fun c18 => ?_)
      · have h := xit h c18
        refine x_iconst (pc := 57) o dX10_readServes_57 ic_0 ?_
        exact x_zreturn (pc := 58) o hr dX10_readServes_58 (by decide) (xr1 h) (xr2 h)
      · have h := xif h c18
        refine x_aload_n (pc := 45) o dX10_readServes_45 rfl rfl ?_
        obtain ⟨r7, hr7, h⟩ := xbs h
        refine gX10_9 (pc := 46) o dX10_readServes_46 hr7 ?_
        refine x_bipush (pc := 49) o dX10_readServes_49 bp_13 ?_
        obtain ⟨q8, hq8, h⟩ := xbs h
        refine x_callI (pc := 51) (As := [.int ((13 : Int32))]) (b := r7) (rest := []) o (tX7_takeWord _ M _ n r7 ((13 : Int32)) q6.2 q8 hq8) eX7_takeWord mX10_133 clX7 (kX7_takeWord hq8) (by decide) rfl rfl (Nat.le_of_ble_eq_true rfl) dX10_readServes_51 ?_
        refine x_if_ne (pc := 54) (tgt := 59) o dX10_readServes_54 (by decide) (fun c17 => ?_) (fun c17 => ?_)
        · have h := xif h c17
          refine x_aload_n (pc := 59) o dX10_readServes_59 rfl rfl ?_
          obtain ⟨r9, hr9, h⟩ := xbs h
          refine gX10_9 (pc := 60) o dX10_readServes_60 hr9 ?_
          refine x_iconst (pc := 63) o dX10_readServes_63 ic_1 ?_
          refine x_bipush (pc := 64) o dX10_readServes_64 bp_99 ?_
          obtain ⟨q10, hq10, h⟩ := xbs h
          refine x_callI (pc := 66) (As := [.int ((1 : Int32)), .int ((99 : Int32))]) (b := r9) (rest := []) o (tX7_takeNumber _ M _ n r9 ((1 : Int32)) ((99 : Int32)) q8.2 q10 hq10) eX7_takeNumber mX10_136 clX7 (kX7_takeNumber hq10) (by decide) rfl rfl (Nat.le_of_ble_eq_true rfl) dX10_readServes_66 ?_
          refine x_istore_n (pc := 69) o dX10_readServes_69 rfl hn3 ?_
          refine x_iload_n (pc := 70) o dX10_readServes_70 rfl rfl ?_
          refine x_iconst (pc := 71) o dX10_readServes_71 ic_m1 ?_
          refine x_icmp_eq (pc := 72) (tgt := 87) o dX10_readServes_72 (by decide) (fun c16 => ?_) (fun c16 => ?_)
          · have h := xit h c16
            refine x_iconst (pc := 87) o dX10_readServes_87 ic_0 ?_
            exact x_zreturn (pc := 88) o hr dX10_readServes_88 (by decide) (xr1 h) (xr2 h)
          · have h := xif h c16
            refine x_iload_n (pc := 75) o dX10_readServes_75 rfl rfl ?_
            refine x_bipush (pc := 76) o dX10_readServes_76 bp_6 ?_
            refine x_icmp_ge (pc := 78) (tgt := 87) o dX10_readServes_78 (by decide) (fun c15 => ?_) (fun c15 => ?_)
            · have h := xit h c15
              refine x_iconst (pc := 87) o dX10_readServes_87 ic_0 ?_
              exact x_zreturn (pc := 88) o hr dX10_readServes_88 (by decide) (xr1 h) (xr2 h)
            · have h := xif h c15
              refine x_iload_n (pc := 81) o dX10_readServes_81 rfl rfl ?_
              refine x_bipush (pc := 82) o dX10_readServes_82 bp_6 ?_
              refine x_icmp_lt (pc := 84) (tgt := 89) o dX10_readServes_84 (by decide) (fun c14 => ?_) (fun c14 => ?_)
              · have h := xit h c14
                refine x_aload_n (pc := 89) o dX10_readServes_89 rfl rfl ?_
                obtain ⟨r11, hr11, h⟩ := xbs h
                refine gX10_30 (pc := 90) o dX10_readServes_90 hr11 ?_
                obtain ⟨r12, hr12, h⟩ := xbs h
                refine gX10_182 (pc := 93) o dX10_readServes_93 hr12 ?_
                refine x_iload_n (pc := 96) o dX10_readServes_96 rfl rfl ?_
                refine x_bipush (pc := 97) o dX10_readServes_97 bp_6 ?_
                refine x_imul (pc := 99) o dX10_readServes_99 ?_
                refine x_iload_n (pc := 100) o dX10_readServes_100 rfl rfl ?_
                refine x_iadd (pc := 101) o dX10_readServes_101 ?_
                refine x_iload_n (pc := 102) o dX10_readServes_102 rfl rfl ?_
                obtain ⟨S13, hS13, h⟩ := xbs h
                refine x_iastore (pc := 103) o dX10_readServes_103 hS13 ?_
                refine x_iconst (pc := 104) o dX10_readServes_104 ic_1 ?_
                exact x_zreturn (pc := 105) o hr dX10_readServes_105 (by decide) (xr1 h) (xr2 h)
              · have h := xif h c14
                refine x_iconst (pc := 87) o dX10_readServes_87 ic_0 ?_
                exact x_zreturn (pc := 88) o hr dX10_readServes_88 (by decide) (xr1 h) (xr2 h)
        · have h := xit h c17
          refine x_iconst (pc := 57) o dX10_readServes_57 ic_0 ?_
          exact x_zreturn (pc := 58) o hr dX10_readServes_58 (by decide) (xr1 h) (xr2 h)
    · have h := xit h c19
      refine x_iconst (pc := 31) o dX10_readServes_31 ic_0 ?_
      exact x_zreturn (pc := 32) o hr dX10_readServes_32 (by decide) (xr1 h) (xr2 h)
def fX10_readSetting_B22 (n : Nat) (k0 : Nat) (a1 : Int32) (s0 : Nat) (s1 : Int32) (S : xSt) : Option (Int32 × xSt) :=
  (fX7_takeNumber n s0 s1 ((100 : Int32)) S).bind fun q4 =>
  if q4.1 = ((-1 : Int32)) then
  (some ((0 : Int32), q4.2))
else
  (if a1 = ((16 : Int32)) then
  ((xgM tC 10 2 k0 q4.2).bind fun r10 =>
  (xpI tC 9 14 r10 q4.1 q4.2).bind fun S11 =>
  some ((1 : Int32), S11))
else
  (if a1 = ((18 : Int32)) then
  ((xgM tC 10 2 k0 q4.2).bind fun r7 =>
  (xpI tC 9 17 r7 q4.1 q4.2).bind fun S8 =>
  some ((1 : Int32), S8))
else
  ((xgM tC 10 2 k0 q4.2).bind fun r5 =>
  (xpI tC 9 18 r5 q4.1 q4.2).bind fun S6 =>
  some ((1 : Int32), S6))))
set_option maxHeartbeats 4000000 in
theorem tX10_readSetting_B22 {Γ : xGm} {M : xMg} (o : xOk Γ tC M 5 cX10_readSetting RX10) (hnL : Γ.2.2.2 = 3) (n : Nat) (k0 : Nat) (a1 : Int32) (s0 : Nat) (s1 : Int32) (S : xSt) (z : (Int32 × xSt)) (hr : xRI Γ tC M (some .boolean) z.1 z.2) (h : fX10_readSetting_B22 n k0 a1 s0 s1 S = some z) : xAt Γ tC M 22 (xlv [(0, .ref (M.2.1 k0)), (1, .int a1)]) [.int s1, .ref (M.2.1 s0)] S := by
  have hn2 : 2 < Γ.2.2.2 := by omega
  unfold fX10_readSetting_B22 at h
  refine x_bipush (pc := 22) o dX10_readSetting_22 bp_100 ?_
  obtain ⟨q4, hq4, h⟩ := xbs h
  refine x_callI (pc := 24) (As := [.int s1, .int ((100 : Int32))]) (b := s0) (rest := []) o (tX7_takeNumber _ M _ n s0 s1 ((100 : Int32)) S q4 hq4) eX7_takeNumber mX10_136 clX7 (kX7_takeNumber hq4) (by decide) rfl rfl (Nat.le_of_ble_eq_true rfl) dX10_readSetting_24 ?_
  refine x_istore_n (pc := 27) o dX10_readSetting_27 rfl hn2 ?_
  refine x_iload_n (pc := 28) o dX10_readSetting_28 rfl rfl ?_
  refine x_iconst (pc := 29) o dX10_readSetting_29 ic_m1 ?_
  refine x_icmp_ne (pc := 30) (tgt := 35) o dX10_readSetting_30 (by decide) (fun c13 => ?_) (fun c13 => ?_)
  · have h := xif h c13
    refine x_iload_n (pc := 35) o dX10_readSetting_35 rfl rfl ?_
    refine x_bipush (pc := 36) o dX10_readSetting_36 bp_16 ?_
    refine x_icmp_ne (pc := 38) (tgt := 52) o dX10_readSetting_38 (by decide) (fun c12 => ?_) (fun c12 => ?_)
    · have h := xif h c12
      refine x_iload_n (pc := 52) o dX10_readSetting_52 rfl rfl ?_
      refine x_bipush (pc := 53) o dX10_readSetting_53 bp_18 ?_
      refine x_icmp_ne (pc := 55) (tgt := 69) o dX10_readSetting_55 (by decide) (fun c9 => ?_) (fun c9 => ?_)
      · have h := xif h c9
        refine x_aload_n (pc := 69) o dX10_readSetting_69 rfl rfl ?_
        obtain ⟨r5, hr5, h⟩ := xbs h
        refine gX10_30 (pc := 70) o dX10_readSetting_70 hr5 ?_
        refine x_iload_n (pc := 73) o dX10_readSetting_73 rfl rfl ?_
        obtain ⟨S6, hS6, h⟩ := xbs h
        refine pX10_191 (pc := 74) o dX10_readSetting_74 hS6 ?_
        refine x_iconst (pc := 77) o dX10_readSetting_77 ic_1 ?_
        exact x_zreturn (pc := 78) o hr dX10_readSetting_78 (by decide) (xr1 h) (xr2 h)
      · have h := xit h c9
        refine x_aload_n (pc := 58) o dX10_readSetting_58 rfl rfl ?_
        obtain ⟨r7, hr7, h⟩ := xbs h
        refine gX10_30 (pc := 59) o dX10_readSetting_59 hr7 ?_
        refine x_iload_n (pc := 62) o dX10_readSetting_62 rfl rfl ?_
        obtain ⟨S8, hS8, h⟩ := xbs h
        refine pX10_188 (pc := 63) o dX10_readSetting_63 hS8 ?_
        refine x_goto (pc := 66) (tgt := 77) o dX10_readSetting_66 (by decide) ?_
        refine x_iconst (pc := 77) o dX10_readSetting_77 ic_1 ?_
        exact x_zreturn (pc := 78) o hr dX10_readSetting_78 (by decide) (xr1 h) (xr2 h)
    · have h := xit h c12
      refine x_aload_n (pc := 41) o dX10_readSetting_41 rfl rfl ?_
      obtain ⟨r10, hr10, h⟩ := xbs h
      refine gX10_30 (pc := 42) o dX10_readSetting_42 hr10 ?_
      refine x_iload_n (pc := 45) o dX10_readSetting_45 rfl rfl ?_
      obtain ⟨S11, hS11, h⟩ := xbs h
      refine pX10_185 (pc := 46) o dX10_readSetting_46 hS11 ?_
      refine x_goto (pc := 49) (tgt := 77) o dX10_readSetting_49 (by decide) ?_
      refine x_iconst (pc := 77) o dX10_readSetting_77 ic_1 ?_
      exact x_zreturn (pc := 78) o hr dX10_readSetting_78 (by decide) (xr1 h) (xr2 h)
  · have h := xit h c13
    refine x_iconst (pc := 33) o dX10_readSetting_33 ic_0 ?_
    exact x_zreturn (pc := 34) o hr dX10_readSetting_34 (by decide) (xr1 h) (xr2 h)
def fX10_readSetting (n : Nat) (k0 : Nat) (a1 : Int32) (S : xSt) : Option (Int32 × xSt) :=
  if tC.1 k0 = 10 then
  ((xgF tC 10 0 k0 S).bind fun r1 =>
  (fX7_advance n r1 S).bind fun S2 =>
  (xgF tC 10 0 k0 S2).bind fun r3 =>
  if a1 = ((16 : Int32)) then
  (fX10_readSetting_B22 n k0 a1 r3 ((1 : Int32)) S2)
else
  (fX10_readSetting_B22 n k0 a1 r3 ((0 : Int32)) S2))
  else none
theorem kX10_readSetting {z : Int32 × xSt} {n : Nat} {k0 : Nat} {a1 : Int32} {S : xSt} (h : fX10_readSetting n k0 a1 S = some z) : tC.1 k0 = 10 := by
  unfold fX10_readSetting at h
  exact (xck h).1
set_option maxHeartbeats 4000000 in
theorem tX10_readSetting (l : Launch) (M : xMg) (A : Nat → Prop) (n : Nat) (k0 : Nat) (a1 : Int32) (S : xSt) (z : Int32 × xSt) (h : fX10_readSetting n k0 a1 S = some z) : xMI l yX10_readSetting cX10_readSetting 3 (some .boolean) 5 tC M A [.ref (M.2.1 k0), .int a1] S z.1 z.2 := by
  refine x_metI (plainFor_of_name (by decide)) tC_ok (Nat.le_of_ble_eq_true rfl) (fun Γ hA hnL hl hr o => ?_)
  subst hA; subst hl
  have o : xOk Γ tC M 5 cX10_readSetting RX10 := o
  unfold fX10_readSetting at h
  obtain ⟨hk0, h⟩ := xck h
  refine x_to (l := [(0, .ref (M.2.1 k0)), (1, .int a1)]) ⟨rfl, rfl, trivial⟩ ?_
  refine x_aload_n (pc := 0) o dX10_readSetting_0 rfl rfl ?_
  obtain ⟨r1, hr1, h⟩ := xbs h
  refine gX10_9 (pc := 1) o dX10_readSetting_1 hr1 ?_
  obtain ⟨S2, hS2, h⟩ := xbs h
  refine x_callV (pc := 4) (As := []) (b := r1) (rest := []) o (tX7_advance _ M _ n r1 S S2 hS2) eX7_advance mX10_130 clX7 (kX7_advance hS2) (by decide) rfl rfl (Nat.le_of_ble_eq_true rfl) dX10_readSetting_4 ?_
  refine x_aload_n (pc := 7) o dX10_readSetting_7 rfl rfl ?_
  obtain ⟨r3, hr3, h⟩ := xbs h
  refine gX10_9 (pc := 8) o dX10_readSetting_8 hr3 ?_
  refine x_iload_n (pc := 11) o dX10_readSetting_11 rfl rfl ?_
  refine x_bipush (pc := 12) o dX10_readSetting_12 bp_16 ?_
  refine x_icmp_ne (pc := 14) (tgt := 21) o dX10_readSetting_14 (by decide) (fun c14 => ?_) (fun c14 => ?_)
  · have h := xif h c14
    refine x_iconst (pc := 21) o dX10_readSetting_21 ic_0 ?_
    refine x_to (l := [(0, .ref (M.2.1 k0)), (1, .int a1)]) ⟨rfl, rfl, trivial⟩ ?_
    exact tX10_readSetting_B22 o hnL n k0 a1 r3 ((0 : Int32)) S2 z hr h
  · have h := xit h c14
    refine x_iconst (pc := 17) o dX10_readSetting_17 ic_1 ?_
    refine x_goto (pc := 18) (tgt := 22) o dX10_readSetting_18 (by decide) ?_
    refine x_to (l := [(0, .ref (M.2.1 k0)), (1, .int a1)]) ⟨rfl, rfl, trivial⟩ ?_
    exact tX10_readSetting_B22 o hnL n k0 a1 r3 ((1 : Int32)) S2 z hr h
def fX10_readSmith (n : Nat) (k0 : Nat) (S : xSt) : Option (Int32 × xSt) :=
  if tC.1 k0 = 10 then
  ((xgF tC 10 0 k0 S).bind fun r1 =>
  (fX7_advance n r1 S).bind fun S2 =>
  (xgF tC 10 0 k0 S2).bind fun r3 =>
  (fX7_takeNumber n r3 ((0 : Int32)) ((9999 : Int32)) S2).bind fun q4 =>
  if q4.1 = ((-1 : Int32)) then
  (some ((0 : Int32), q4.2))
else
  ((xgF tC 10 0 k0 q4.2).bind fun r5 =>
  (fX7_takeWord n r5 ((2 : Int32)) q4.2).bind fun q6 =>
  if q6.1 = 0 then
  (some ((0 : Int32), q6.2))
else
  ((xgF tC 10 0 k0 q6.2).bind fun r7 =>
  (fX10_leastRound q4.1 q6.2).bind fun v8 =>
  (fX7_takeNumber n r7 v8 ((30 : Int32)) q6.2).bind fun q9 =>
  if q9.1 = ((-1 : Int32)) then
  (some ((0 : Int32), q9.2))
else
  ((xgM tC 10 2 k0 q9.2).bind fun r10 =>
  (xpI tC 9 15 r10 q4.1 q9.2).bind fun S11 =>
  (xgM tC 10 2 k0 S11).bind fun r12 =>
  (xpI tC 9 16 r12 q9.1 S11).bind fun S13 =>
  some ((1 : Int32), S13)))))
  else none
theorem kX10_readSmith {z : Int32 × xSt} {n : Nat} {k0 : Nat} {S : xSt} (h : fX10_readSmith n k0 S = some z) : tC.1 k0 = 10 := by
  unfold fX10_readSmith at h
  exact (xck h).1
set_option maxHeartbeats 4000000 in
theorem tX10_readSmith (l : Launch) (M : xMg) (A : Nat → Prop) (n : Nat) (k0 : Nat) (S : xSt) (z : Int32 × xSt) (h : fX10_readSmith n k0 S = some z) : xMI l yX10_readSmith cX10_readSmith 3 (some .boolean) 5 tC M A [.ref (M.2.1 k0)] S z.1 z.2 := by
  refine x_metI (plainFor_of_name (by decide)) tC_ok (Nat.le_of_ble_eq_true rfl) (fun Γ hA hnL hl hr o => ?_)
  subst hA; subst hl
  have o : xOk Γ tC M 5 cX10_readSmith RX10 := o
  unfold fX10_readSmith at h
  obtain ⟨hk0, h⟩ := xck h
  refine x_to (l := [(0, .ref (M.2.1 k0))]) ⟨rfl, trivial⟩ ?_
  have hn1 : 1 < Γ.2.2.2 := by omega
  have hn2 : 2 < Γ.2.2.2 := by omega
  refine x_aload_n (pc := 0) o dX10_readSmith_0 rfl rfl ?_
  obtain ⟨r1, hr1, h⟩ := xbs h
  refine gX10_9 (pc := 1) o dX10_readSmith_1 hr1 ?_
  obtain ⟨S2, hS2, h⟩ := xbs h
  refine x_callV (pc := 4) (As := []) (b := r1) (rest := []) o (tX7_advance _ M _ n r1 S S2 hS2) eX7_advance mX10_130 clX7 (kX7_advance hS2) (by decide) rfl rfl (Nat.le_of_ble_eq_true rfl) dX10_readSmith_4 ?_
  refine x_aload_n (pc := 7) o dX10_readSmith_7 rfl rfl ?_
  obtain ⟨r3, hr3, h⟩ := xbs h
  refine gX10_9 (pc := 8) o dX10_readSmith_8 hr3 ?_
  refine x_iconst (pc := 11) o dX10_readSmith_11 ic_0 ?_
  refine x_sipush (pc := 12) o dX10_readSmith_12 sp_9999 ?_
  obtain ⟨q4, hq4, h⟩ := xbs h
  refine x_callI (pc := 15) (As := [.int ((0 : Int32)), .int ((9999 : Int32))]) (b := r3) (rest := []) o (tX7_takeNumber _ M _ n r3 ((0 : Int32)) ((9999 : Int32)) S2 q4 hq4) eX7_takeNumber mX10_136 clX7 (kX7_takeNumber hq4) (by decide) rfl rfl (Nat.le_of_ble_eq_true rfl) dX10_readSmith_15 ?_
  refine x_istore_n (pc := 18) o dX10_readSmith_18 rfl hn1 ?_
  refine x_iload_n (pc := 19) o dX10_readSmith_19 rfl rfl ?_
  refine x_iconst (pc := 20) o dX10_readSmith_20 ic_m1 ?_
  refine x_icmp_eq (pc := 21) (tgt := 35) o dX10_readSmith_21 (by decide) (fun c16 => ?_) (fun c16 => ?_)
  · have h := xit h c16
    refine x_iconst (pc := 35) o dX10_readSmith_35 ic_0 ?_
    exact x_zreturn (pc := 36) o hr dX10_readSmith_36 (by decide) (xr1 h) (xr2 h)
  · have h := xif h c16
    refine x_aload_n (pc := 24) o dX10_readSmith_24 rfl rfl ?_
    obtain ⟨r5, hr5, h⟩ := xbs h
    refine gX10_9 (pc := 25) o dX10_readSmith_25 hr5 ?_
    refine x_iconst (pc := 28) o dX10_readSmith_28 ic_2 ?_
    obtain ⟨q6, hq6, h⟩ := xbs h
    refine x_callI (pc := 29) (As := [.int ((2 : Int32))]) (b := r5) (rest := []) o (tX7_takeWord _ M _ n r5 ((2 : Int32)) q4.2 q6 hq6) eX7_takeWord mX10_133 clX7 (kX7_takeWord hq6) (by decide) rfl rfl (Nat.le_of_ble_eq_true rfl) dX10_readSmith_29 ?_
    refine x_if_ne (pc := 32) (tgt := 37) o dX10_readSmith_32 (by decide) (fun c15 => ?_) (fun c15 => ?_)
    · have h := xif h c15
      refine x_aload_n (pc := 37) o dX10_readSmith_37 rfl rfl ?_
      obtain ⟨r7, hr7, h⟩ := xbs h
      refine gX10_9 (pc := 38) o dX10_readSmith_38 hr7 ?_
      refine x_iload_n (pc := 41) o dX10_readSmith_41 rfl rfl ?_
      obtain ⟨v8, hv8, h⟩ := xbs h
      refine x_statI (pc := 42) (As := [.int q4.1]) (rest := [.ref (M.2.1 r7)]) o (tX10_leastRound _ M _ q4.1 q6.2 v8 hv8) eX10_leastRound mX10_140 (by decide) rfl rfl (Nat.le_of_ble_eq_true rfl) dX10_readSmith_42 ?_
      refine x_bipush (pc := 45) o dX10_readSmith_45 bp_30 ?_
      obtain ⟨q9, hq9, h⟩ := xbs h
      refine x_callI (pc := 47) (As := [.int v8, .int ((30 : Int32))]) (b := r7) (rest := []) o (tX7_takeNumber _ M _ n r7 v8 ((30 : Int32)) q6.2 q9 hq9) eX7_takeNumber mX10_136 clX7 (kX7_takeNumber hq9) (by decide) rfl rfl (Nat.le_of_ble_eq_true rfl) dX10_readSmith_47 ?_
      refine x_istore_n (pc := 50) o dX10_readSmith_50 rfl hn2 ?_
      refine x_iload_n (pc := 51) o dX10_readSmith_51 rfl rfl ?_
      refine x_iconst (pc := 52) o dX10_readSmith_52 ic_m1 ?_
      refine x_icmp_ne (pc := 53) (tgt := 58) o dX10_readSmith_53 (by decide) (fun c14 => ?_) (fun c14 => ?_)
      · have h := xif h c14
        refine x_aload_n (pc := 58) o dX10_readSmith_58 rfl rfl ?_
        obtain ⟨r10, hr10, h⟩ := xbs h
        refine gX10_30 (pc := 59) o dX10_readSmith_59 hr10 ?_
        refine x_iload_n (pc := 62) o dX10_readSmith_62 rfl rfl ?_
        obtain ⟨S11, hS11, h⟩ := xbs h
        refine pX10_194 (pc := 63) o dX10_readSmith_63 hS11 ?_
        refine x_aload_n (pc := 66) o dX10_readSmith_66 rfl rfl ?_
        obtain ⟨r12, hr12, h⟩ := xbs h
        refine gX10_30 (pc := 67) o dX10_readSmith_67 hr12 ?_
        refine x_iload_n (pc := 70) o dX10_readSmith_70 rfl rfl ?_
        obtain ⟨S13, hS13, h⟩ := xbs h
        refine pX10_197 (pc := 71) o dX10_readSmith_71 hS13 ?_
        refine x_iconst (pc := 74) o dX10_readSmith_74 ic_1 ?_
        exact x_zreturn (pc := 75) o hr dX10_readSmith_75 (by decide) (xr1 h) (xr2 h)
      · have h := xit h c14
        refine x_iconst (pc := 56) o dX10_readSmith_56 ic_0 ?_
        exact x_zreturn (pc := 57) o hr dX10_readSmith_57 (by decide) (xr1 h) (xr2 h)
    · have h := xit h c15
      refine x_iconst (pc := 35) o dX10_readSmith_35 ic_0 ?_
      exact x_zreturn (pc := 36) o hr dX10_readSmith_36 (by decide) (xr1 h) (xr2 h)
abbrev xRC : Type := Nat → Nat → Int32 → Int32 → xSt → Option (Int32 × xSt)
def xRec (rc : xRC) (d : Nat) : Prop :=
  (∀ (k : Nat) (a b : Int32) (S : xSt) (z : Int32 × xSt), rc 0 k a b S = some z → tC.1 k = 5 ∧ ∀ (l : Launch) (M : xMg) (A : Nat → Prop), xMI l yX5_readTest cX5_readTest 4 (some .boolean) d tC M A [.ref (M.2.1 k), .int a] S z.1 z.2) ∧
  (∀ (k : Nat) (a b : Int32) (S : xSt) (z : Int32 × xSt), rc 1 k a b S = some z → tC.1 k = 5 ∧ ∀ (l : Launch) (M : xMg) (A : Nat → Prop), xMI l yX5_readBoth cX5_readBoth 4 (some .boolean) d tC M A [.ref (M.2.1 k), .int a] S z.1 z.2) ∧
  (∀ (k : Nat) (a b : Int32) (S : xSt) (z : Int32 × xSt), rc 2 k a b S = some z → tC.1 k = 5 ∧ ∀ (l : Launch) (M : xMg) (A : Nat → Prop), xMI l yX5_readFact cX5_readFact 2 (some .boolean) d tC M A [.ref (M.2.1 k), .int a] S z.1 z.2) ∧
  (∀ (k : Nat) (a b : Int32) (S : xSt) (z : Int32 × xSt), rc 3 k a b S = some z → tC.1 k = 5 ∧ ∀ (l : Launch) (M : xMg) (A : Nat → Prop), xMI l yX5_readSecondSum cX5_readSecondSum 3 (some .boolean) d tC M A [.ref (M.2.1 k), .int a] S z.1 z.2) ∧
  (∀ (k : Nat) (a b : Int32) (S : xSt) (z : Int32 × xSt), rc 4 k a b S = some z → tC.1 k = 5 ∧ ∀ (l : Launch) (M : xMg) (A : Nat → Prop), xMI l yX5_readSum cX5_readSum 5 (some .boolean) d tC M A [.ref (M.2.1 k), .int a] S z.1 z.2) ∧
  (∀ (k : Nat) (a b : Int32) (S : xSt) (z : Int32 × xSt), rc 5 k a b S = some z → tC.1 k = 5 ∧ ∀ (l : Launch) (M : xMg) (A : Nat → Prop), xMI l yX5_readProduct cX5_readProduct 5 (some .boolean) d tC M A [.ref (M.2.1 k), .int a] S z.1 z.2) ∧
  (∀ (k : Nat) (a b : Int32) (S : xSt) (z : Int32 × xSt), rc 6 k a b S = some z → tC.1 k = 5 ∧ ∀ (l : Launch) (M : xMg) (A : Nat → Prop), xMI l yX5_readPart cX5_readPart 3 (some .boolean) d tC M A [.ref (M.2.1 k), .int a] S z.1 z.2) ∧
  (∀ (k : Nat) (a b : Int32) (S : xSt) (z : Int32 × xSt), rc 7 k a b S = some z → tC.1 k = 5 ∧ ∀ (l : Launch) (M : xMg) (A : Nat → Prop), xMI l yX5_readTwo cX5_readTwo 3 (some .boolean) d tC M A [.ref (M.2.1 k), .int a, .int b] S z.1 z.2) ∧
  (∀ (k : Nat) (a b : Int32) (S : xSt) (z : Int32 × xSt), rc 8 k a b S = some z → tC.1 k = 5 ∧ ∀ (l : Launch) (M : xMg) (A : Nat → Prop), xMI l yX5_readIf cX5_readIf 2 (some .boolean) d tC M A [.ref (M.2.1 k), .int a] S z.1 z.2)
def fX5_readTest_L8b (n : Nat) (rc : xRC) (k0 : Nat) (a1 : Int32) (rec : Int32 → Int32 → xSt → Option (Int32 × xSt)) (a2 : Int32) (a3 : Int32) (S : xSt) : Option (Int32 × xSt) :=
  if ((1600 : Int32)) ≤ a3 then
  (some (a2, S))
else
  (if a2 = 0 then
  (some (a2, S))
else
  ((xgF tC 5 0 k0 S).bind fun r2 =>
  (fX7_isWord r2 ((26 : Int32)) S).bind fun v3 =>
  if v3 = 0 then
  (some (a2, S))
else
  ((xgF tC 5 0 k0 S).bind fun r4 =>
  (fX7_advance n r4 S).bind fun S5 =>
  (rc 1 k0 a1 (0 : Int32) S5).bind fun q6 =>
  if q6.1 = 0 then
  ((some (a3 + (1 : Int32))).bind fun v7 =>
  rec ((0 : Int32)) v7 q6.2)
else
  ((xgM tC 5 1 k0 q6.2).bind fun r8 =>
  (fX1_put r8 ((15 : Int32)) ((0 : Int32)) q6.2).bind fun q9 =>
  if q9.1 = 0 then
  ((some (a3 + (1 : Int32))).bind fun v10 =>
  rec ((0 : Int32)) v10 q9.2)
else
  ((some (a3 + (1 : Int32))).bind fun v11 =>
  rec ((1 : Int32)) v11 q9.2)))))
def fX5_readTest_L8 (n : Nat) (rc : xRC) (k0 : Nat) (a1 : Int32) : Nat → Int32 → Int32 → xSt → Option (Int32 × xSt)
  | 0 => fun _ _ _ => none
  | q + 1 => fX5_readTest_L8b n rc k0 a1 (fX5_readTest_L8 n rc k0 a1 q)
set_option maxHeartbeats 4000000 in
theorem tX5_readTest_L8b {Γ : xGm} {M : xMg} {w : Nat} (o : xOk Γ tC M (5 + w + 1) cX5_readTest RX5) (hnL : Γ.2.2.2 = 4) {rec : Int32 → Int32 → xSt → Option (Int32 × xSt)} (n : Nat) (rc : xRC) (k0 : Nat) (a1 : Int32) (a2 : Int32) (a3 : Int32) (S : xSt) (hrc : xRec rc (5 + w)) (z : (Int32 × xSt)) (hrec : ∀ (a2 : Int32) (a3 : Int32) (S : xSt), rec a2 a3 S = some z → xAt Γ tC M 8 (xlv [(0, .ref (M.2.1 k0)), (1, .int a1), (2, .int a2), (3, .int a3)]) [] S) (K : xAt Γ tC M 71 (xlv [(2, .int z.1)]) [] z.2) (h : fX5_readTest_L8b n rc k0 a1 rec a2 a3 S = some z) : xAt Γ tC M 8 (xlv [(0, .ref (M.2.1 k0)), (1, .int a1), (2, .int a2), (3, .int a3)]) [] S := by
  have hn2 : 2 < Γ.2.2.2 := by omega
  have hn3 : 3 < Γ.2.2.2 := by omega
  unfold fX5_readTest_L8b at h
  refine x_iload_n (pc := 8) o dX5_readTest_8 rfl rfl ?_
  refine x_sipush (pc := 9) o dX5_readTest_9 sp_1600 ?_
  refine x_icmp_ge (pc := 12) (tgt := 71) o dX5_readTest_12 (by decide) (fun c16 => ?_) (fun c16 => ?_)
  · have h := xit h c16
    refine x_to (l := [(2, .int a2)]) ⟨rfl, trivial⟩ ?_
    cases Option.some.inj h
    exact K
  · have h := xif h c16
    refine x_iload_n (pc := 15) o dX5_readTest_15 rfl rfl ?_
    refine x_if_eq (pc := 16) (tgt := 71) o dX5_readTest_16 (by decide) (fun c15 => ?_) (fun c15 => ?_)
    · have h := xit h c15
      refine x_to (l := [(2, .int a2)]) ⟨rfl, trivial⟩ ?_
      cases Option.some.inj h
      exact K
    · have h := xif h c15
      refine x_aload_n (pc := 19) o dX5_readTest_19 rfl rfl ?_
      obtain ⟨r2, hr2, h⟩ := xbs h
      refine gX5_9 (pc := 20) o dX5_readTest_20 hr2 ?_
      refine x_bipush (pc := 23) o dX5_readTest_23 bp_26 ?_
      obtain ⟨v3, hv3, h⟩ := xbs h
      refine x_callI (pc := 25) (As := [.int ((26 : Int32))]) (b := r2) (rest := []) o (tX7_isWord _ M _ r2 ((26 : Int32)) S v3 hv3) eX7_isWord mX5_47 clX7 (kX7_isWord hv3) (by omega) rfl rfl (Nat.le_of_ble_eq_true rfl) dX5_readTest_25 ?_
      refine x_if_eq (pc := 28) (tgt := 71) o dX5_readTest_28 (by decide) (fun c14 => ?_) (fun c14 => ?_)
      · have h := xit h c14
        refine x_to (l := [(2, .int a2)]) ⟨rfl, trivial⟩ ?_
        cases Option.some.inj h
        exact K
      · have h := xif h c14
        refine x_aload_n (pc := 31) o dX5_readTest_31 rfl rfl ?_
        obtain ⟨r4, hr4, h⟩ := xbs h
        refine gX5_9 (pc := 32) o dX5_readTest_32 hr4 ?_
        obtain ⟨S5, hS5, h⟩ := xbs h
        refine x_callV (pc := 35) (As := []) (b := r4) (rest := []) o (tX7_advance _ M _ n r4 S S5 hS5) eX7_advance mX5_50 clX7 (kX7_advance hS5) (by omega) rfl rfl (Nat.le_of_ble_eq_true rfl) dX5_readTest_35 ?_
        refine x_aload_n (pc := 38) o dX5_readTest_38 rfl rfl ?_
        refine x_iload_n (pc := 39) o dX5_readTest_39 rfl rfl ?_
        obtain ⟨q6, hq6, h⟩ := xbs h
        refine x_callI (pc := 40) (As := [.int a1]) (b := k0) (rest := []) o ((hrc.2.1 k0 a1 (0 : Int32) S5 q6 hq6).2 _ M _) eX5_readBoth mX5_41 clX5 (hrc.2.1 k0 a1 (0 : Int32) S5 q6 hq6).1 (by omega) rfl rfl (Nat.le_of_ble_eq_true rfl) dX5_readTest_40 ?_
        refine x_if_eq (pc := 43) (tgt := 63) o dX5_readTest_43 (by decide) (fun c13 => ?_) (fun c13 => ?_)
        · have h := xit h c13
          refine x_iconst (pc := 63) o dX5_readTest_63 ic_0 ?_
          refine x_istore_n (pc := 64) o dX5_readTest_64 rfl hn2 ?_
          obtain ⟨v7, hv7, h⟩ := xbs h
          refine x_iincE (pc := 65) o dX5_readTest_65 rfl ic_1 hn3 hv7 ?_
          refine x_goto (pc := 68) (tgt := 8) o dX5_readTest_68 (by decide) ?_
          refine x_to (l := [(0, .ref (M.2.1 k0)), (1, .int a1), (2, .int ((0 : Int32))), (3, .int v7)]) ⟨rfl, rfl, rfl, rfl, trivial⟩ ?_
          exact hrec ((0 : Int32)) v7 q6.2 h
        · have h := xif h c13
          refine x_aload_n (pc := 46) o dX5_readTest_46 rfl rfl ?_
          obtain ⟨r8, hr8, h⟩ := xbs h
          refine gX5_15 (pc := 47) o dX5_readTest_47 hr8 ?_
          refine x_bipush (pc := 50) o dX5_readTest_50 bp_15 ?_
          refine x_iconst (pc := 52) o dX5_readTest_52 ic_0 ?_
          obtain ⟨q9, hq9, h⟩ := xbs h
          refine x_callI (pc := 53) (As := [.int ((15 : Int32)), .int ((0 : Int32))]) (b := r8) (rest := []) o (tX1_put _ M _ r8 ((15 : Int32)) ((0 : Int32)) q6.2 q9 hq9) eX1_put mX5_53 clX1 (kX1_put hq9) (by omega) rfl rfl (Nat.le_of_ble_eq_true rfl) dX5_readTest_53 ?_
          refine x_if_eq (pc := 56) (tgt := 63) o dX5_readTest_56 (by decide) (fun c12 => ?_) (fun c12 => ?_)
          · have h := xit h c12
            refine x_iconst (pc := 63) o dX5_readTest_63 ic_0 ?_
            refine x_istore_n (pc := 64) o dX5_readTest_64 rfl hn2 ?_
            obtain ⟨v10, hv10, h⟩ := xbs h
            refine x_iincE (pc := 65) o dX5_readTest_65 rfl ic_1 hn3 hv10 ?_
            refine x_goto (pc := 68) (tgt := 8) o dX5_readTest_68 (by decide) ?_
            refine x_to (l := [(0, .ref (M.2.1 k0)), (1, .int a1), (2, .int ((0 : Int32))), (3, .int v10)]) ⟨rfl, rfl, rfl, rfl, trivial⟩ ?_
            exact hrec ((0 : Int32)) v10 q9.2 h
          · have h := xif h c12
            refine x_iconst (pc := 59) o dX5_readTest_59 ic_1 ?_
            refine x_goto (pc := 60) (tgt := 64) o dX5_readTest_60 (by decide) ?_
            refine x_istore_n (pc := 64) o dX5_readTest_64 rfl hn2 ?_
            obtain ⟨v11, hv11, h⟩ := xbs h
            refine x_iincE (pc := 65) o dX5_readTest_65 rfl ic_1 hn3 hv11 ?_
            refine x_goto (pc := 68) (tgt := 8) o dX5_readTest_68 (by decide) ?_
            refine x_to (l := [(0, .ref (M.2.1 k0)), (1, .int a1), (2, .int ((1 : Int32))), (3, .int v11)]) ⟨rfl, rfl, rfl, rfl, trivial⟩ ?_
            exact hrec ((1 : Int32)) v11 q9.2 h
theorem tX5_readTest_L8 {Γ : xGm} {M : xMg} {w : Nat} (o : xOk Γ tC M (5 + w + 1) cX5_readTest RX5) (hnL : Γ.2.2.2 = 4) (n : Nat) (rc : xRC) (k0 : Nat) (a1 : Int32) (hrc : xRec rc (5 + w)) (z : (Int32 × xSt)) (K : xAt Γ tC M 71 (xlv [(2, .int z.1)]) [] z.2) : ∀ (q : Nat) (a2 : Int32) (a3 : Int32) (S : xSt), fX5_readTest_L8 n rc k0 a1 q a2 a3 S = some z → xAt Γ tC M 8 (xlv [(0, .ref (M.2.1 k0)), (1, .int a1), (2, .int a2), (3, .int a3)]) [] S := by
  intro q
  induction q with
  | zero => intro a2 a3 S h; cases h
  | succ q ih => intro a2 a3 S h; exact tX5_readTest_L8b o hnL n rc k0 a1 a2 a3 S hrc z ih K h
def bX5_readTest (n : Nat) (rc : xRC) (k0 : Nat) (a1 : Int32) (S : xSt) : Option (Int32 × xSt) :=
  if tC.1 k0 = 5 then
  ((rc 1 k0 a1 (0 : Int32) S).bind fun q1 =>
  (fX5_readTest_L8 n rc k0 a1 n q1.1 ((0 : Int32)) q1.2).bind fun z17 => if z17.1 = 0 ∨ z17.1 = 1 then (some (z17.1, z17.2)) else none)
  else none
set_option maxHeartbeats 4000000 in
theorem tX5_readTest_r {w : Nat} (n : Nat) (rc : xRC) (k0 : Nat) (a1 : Int32) (hrc : xRec rc (5 + w)) (S : xSt) (z : Int32 × xSt) (h : bX5_readTest n rc k0 a1 S = some z) : tC.1 k0 = 5 ∧ ∀ (l : Launch) (M : xMg) (A : Nat → Prop), xMI l yX5_readTest cX5_readTest 4 (some .boolean) (5 + w + 1) tC M A [.ref (M.2.1 k0), .int a1] S z.1 z.2 := by
  refine ⟨?_, fun l M A => x_metI (plainFor_of_name (by decide)) tC_ok (Nat.le_of_ble_eq_true rfl) (fun Γ hA hnL hl hr o => ?_)⟩
  · unfold bX5_readTest at h; exact (xck h).1
  subst hA; subst hl
  have o : xOk Γ tC M (5 + w + 1) cX5_readTest RX5 := o
  unfold bX5_readTest at h
  obtain ⟨hk0, h⟩ := xck h
  refine x_to (l := [(0, .ref (M.2.1 k0)), (1, .int a1)]) ⟨rfl, rfl, trivial⟩ ?_
  have hn2 : 2 < Γ.2.2.2 := by omega
  have hn3 : 3 < Γ.2.2.2 := by omega
  refine x_aload_n (pc := 0) o dX5_readTest_0 rfl rfl ?_
  refine x_iload_n (pc := 1) o dX5_readTest_1 rfl rfl ?_
  obtain ⟨q1, hq1, h⟩ := xbs h
  refine x_callI (pc := 2) (As := [.int a1]) (b := k0) (rest := []) o ((hrc.2.1 k0 a1 (0 : Int32) S q1 hq1).2 _ M _) eX5_readBoth mX5_41 clX5 (hrc.2.1 k0 a1 (0 : Int32) S q1 hq1).1 (by omega) rfl rfl (Nat.le_of_ble_eq_true rfl) dX5_readTest_2 ?_
  refine x_istore_n (pc := 5) o dX5_readTest_5 rfl hn2 ?_
  refine x_iconst (pc := 6) o dX5_readTest_6 ic_0 ?_
  refine x_istore_n (pc := 7) o dX5_readTest_7 rfl hn3 ?_
  obtain ⟨z17, hz17, h⟩ := xbs h
  refine x_to (l := [(0, .ref (M.2.1 k0)), (1, .int a1), (2, .int q1.1), (3, .int ((0 : Int32)))]) ⟨rfl, rfl, rfl, rfl, trivial⟩ ?_
  refine tX5_readTest_L8 o hnL n rc k0 a1 hrc z17 ?_ n q1.1 ((0 : Int32)) q1.2 hz17
  refine x_iload_n (pc := 71) o dX5_readTest_71 rfl rfl ?_
  obtain ⟨hz, h⟩ := xck h
  exact x_zreturn (pc := 72) o hr dX5_readTest_72 hz (xr1 h) (xr2 h)
def fX5_readBoth_L8b (n : Nat) (rc : xRC) (k0 : Nat) (a1 : Int32) (rec : Int32 → Int32 → xSt → Option (Int32 × xSt)) (a2 : Int32) (a3 : Int32) (S : xSt) : Option (Int32 × xSt) :=
  if ((1600 : Int32)) ≤ a3 then
  (some (a2, S))
else
  (if a2 = 0 then
  (some (a2, S))
else
  ((xgF tC 5 0 k0 S).bind fun r2 =>
  (fX7_isWord r2 ((27 : Int32)) S).bind fun v3 =>
  if v3 = 0 then
  (some (a2, S))
else
  ((xgF tC 5 0 k0 S).bind fun r4 =>
  (fX7_advance n r4 S).bind fun S5 =>
  (rc 2 k0 a1 (0 : Int32) S5).bind fun q6 =>
  if q6.1 = 0 then
  ((some (a3 + (1 : Int32))).bind fun v7 =>
  rec ((0 : Int32)) v7 q6.2)
else
  ((xgM tC 5 1 k0 q6.2).bind fun r8 =>
  (fX1_put r8 ((14 : Int32)) ((0 : Int32)) q6.2).bind fun q9 =>
  if q9.1 = 0 then
  ((some (a3 + (1 : Int32))).bind fun v10 =>
  rec ((0 : Int32)) v10 q9.2)
else
  ((some (a3 + (1 : Int32))).bind fun v11 =>
  rec ((1 : Int32)) v11 q9.2)))))
def fX5_readBoth_L8 (n : Nat) (rc : xRC) (k0 : Nat) (a1 : Int32) : Nat → Int32 → Int32 → xSt → Option (Int32 × xSt)
  | 0 => fun _ _ _ => none
  | q + 1 => fX5_readBoth_L8b n rc k0 a1 (fX5_readBoth_L8 n rc k0 a1 q)
set_option maxHeartbeats 4000000 in
theorem tX5_readBoth_L8b {Γ : xGm} {M : xMg} {w : Nat} (o : xOk Γ tC M (5 + w + 1) cX5_readBoth RX5) (hnL : Γ.2.2.2 = 4) {rec : Int32 → Int32 → xSt → Option (Int32 × xSt)} (n : Nat) (rc : xRC) (k0 : Nat) (a1 : Int32) (a2 : Int32) (a3 : Int32) (S : xSt) (hrc : xRec rc (5 + w)) (z : (Int32 × xSt)) (hrec : ∀ (a2 : Int32) (a3 : Int32) (S : xSt), rec a2 a3 S = some z → xAt Γ tC M 8 (xlv [(0, .ref (M.2.1 k0)), (1, .int a1), (2, .int a2), (3, .int a3)]) [] S) (K : xAt Γ tC M 71 (xlv [(2, .int z.1)]) [] z.2) (h : fX5_readBoth_L8b n rc k0 a1 rec a2 a3 S = some z) : xAt Γ tC M 8 (xlv [(0, .ref (M.2.1 k0)), (1, .int a1), (2, .int a2), (3, .int a3)]) [] S := by
  have hn2 : 2 < Γ.2.2.2 := by omega
  have hn3 : 3 < Γ.2.2.2 := by omega
  unfold fX5_readBoth_L8b at h
  refine x_iload_n (pc := 8) o dX5_readBoth_8 rfl rfl ?_
  refine x_sipush (pc := 9) o dX5_readBoth_9 sp_1600 ?_
  refine x_icmp_ge (pc := 12) (tgt := 71) o dX5_readBoth_12 (by decide) (fun c16 => ?_) (fun c16 => ?_)
  · have h := xit h c16
    refine x_to (l := [(2, .int a2)]) ⟨rfl, trivial⟩ ?_
    cases Option.some.inj h
    exact K
  · have h := xif h c16
    refine x_iload_n (pc := 15) o dX5_readBoth_15 rfl rfl ?_
    refine x_if_eq (pc := 16) (tgt := 71) o dX5_readBoth_16 (by decide) (fun c15 => ?_) (fun c15 => ?_)
    · have h := xit h c15
      refine x_to (l := [(2, .int a2)]) ⟨rfl, trivial⟩ ?_
      cases Option.some.inj h
      exact K
    · have h := xif h c15
      refine x_aload_n (pc := 19) o dX5_readBoth_19 rfl rfl ?_
      obtain ⟨r2, hr2, h⟩ := xbs h
      refine gX5_9 (pc := 20) o dX5_readBoth_20 hr2 ?_
      refine x_bipush (pc := 23) o dX5_readBoth_23 bp_27 ?_
      obtain ⟨v3, hv3, h⟩ := xbs h
      refine x_callI (pc := 25) (As := [.int ((27 : Int32))]) (b := r2) (rest := []) o (tX7_isWord _ M _ r2 ((27 : Int32)) S v3 hv3) eX7_isWord mX5_47 clX7 (kX7_isWord hv3) (by omega) rfl rfl (Nat.le_of_ble_eq_true rfl) dX5_readBoth_25 ?_
      refine x_if_eq (pc := 28) (tgt := 71) o dX5_readBoth_28 (by decide) (fun c14 => ?_) (fun c14 => ?_)
      · have h := xit h c14
        refine x_to (l := [(2, .int a2)]) ⟨rfl, trivial⟩ ?_
        cases Option.some.inj h
        exact K
      · have h := xif h c14
        refine x_aload_n (pc := 31) o dX5_readBoth_31 rfl rfl ?_
        obtain ⟨r4, hr4, h⟩ := xbs h
        refine gX5_9 (pc := 32) o dX5_readBoth_32 hr4 ?_
        obtain ⟨S5, hS5, h⟩ := xbs h
        refine x_callV (pc := 35) (As := []) (b := r4) (rest := []) o (tX7_advance _ M _ n r4 S S5 hS5) eX7_advance mX5_50 clX7 (kX7_advance hS5) (by omega) rfl rfl (Nat.le_of_ble_eq_true rfl) dX5_readBoth_35 ?_
        refine x_aload_n (pc := 38) o dX5_readBoth_38 rfl rfl ?_
        refine x_iload_n (pc := 39) o dX5_readBoth_39 rfl rfl ?_
        obtain ⟨q6, hq6, h⟩ := xbs h
        refine x_callI (pc := 40) (As := [.int a1]) (b := k0) (rest := []) o ((hrc.2.2.1 k0 a1 (0 : Int32) S5 q6 hq6).2 _ M _) eX5_readFact mX5_57 clX5 (hrc.2.2.1 k0 a1 (0 : Int32) S5 q6 hq6).1 (by omega) rfl rfl (Nat.le_of_ble_eq_true rfl) dX5_readBoth_40 ?_
        refine x_if_eq (pc := 43) (tgt := 63) o dX5_readBoth_43 (by decide) (fun c13 => ?_) (fun c13 => ?_)
        · have h := xit h c13
          refine x_iconst (pc := 63) o dX5_readBoth_63 ic_0 ?_
          refine x_istore_n (pc := 64) o dX5_readBoth_64 rfl hn2 ?_
          obtain ⟨v7, hv7, h⟩ := xbs h
          refine x_iincE (pc := 65) o dX5_readBoth_65 rfl ic_1 hn3 hv7 ?_
          refine x_goto (pc := 68) (tgt := 8) o dX5_readBoth_68 (by decide) ?_
          refine x_to (l := [(0, .ref (M.2.1 k0)), (1, .int a1), (2, .int ((0 : Int32))), (3, .int v7)]) ⟨rfl, rfl, rfl, rfl, trivial⟩ ?_
          exact hrec ((0 : Int32)) v7 q6.2 h
        · have h := xif h c13
          refine x_aload_n (pc := 46) o dX5_readBoth_46 rfl rfl ?_
          obtain ⟨r8, hr8, h⟩ := xbs h
          refine gX5_15 (pc := 47) o dX5_readBoth_47 hr8 ?_
          refine x_bipush (pc := 50) o dX5_readBoth_50 bp_14 ?_
          refine x_iconst (pc := 52) o dX5_readBoth_52 ic_0 ?_
          obtain ⟨q9, hq9, h⟩ := xbs h
          refine x_callI (pc := 53) (As := [.int ((14 : Int32)), .int ((0 : Int32))]) (b := r8) (rest := []) o (tX1_put _ M _ r8 ((14 : Int32)) ((0 : Int32)) q6.2 q9 hq9) eX1_put mX5_53 clX1 (kX1_put hq9) (by omega) rfl rfl (Nat.le_of_ble_eq_true rfl) dX5_readBoth_53 ?_
          refine x_if_eq (pc := 56) (tgt := 63) o dX5_readBoth_56 (by decide) (fun c12 => ?_) (fun c12 => ?_)
          · have h := xit h c12
            refine x_iconst (pc := 63) o dX5_readBoth_63 ic_0 ?_
            refine x_istore_n (pc := 64) o dX5_readBoth_64 rfl hn2 ?_
            obtain ⟨v10, hv10, h⟩ := xbs h
            refine x_iincE (pc := 65) o dX5_readBoth_65 rfl ic_1 hn3 hv10 ?_
            refine x_goto (pc := 68) (tgt := 8) o dX5_readBoth_68 (by decide) ?_
            refine x_to (l := [(0, .ref (M.2.1 k0)), (1, .int a1), (2, .int ((0 : Int32))), (3, .int v10)]) ⟨rfl, rfl, rfl, rfl, trivial⟩ ?_
            exact hrec ((0 : Int32)) v10 q9.2 h
          · have h := xif h c12
            refine x_iconst (pc := 59) o dX5_readBoth_59 ic_1 ?_
            refine x_goto (pc := 60) (tgt := 64) o dX5_readBoth_60 (by decide) ?_
            refine x_istore_n (pc := 64) o dX5_readBoth_64 rfl hn2 ?_
            obtain ⟨v11, hv11, h⟩ := xbs h
            refine x_iincE (pc := 65) o dX5_readBoth_65 rfl ic_1 hn3 hv11 ?_
            refine x_goto (pc := 68) (tgt := 8) o dX5_readBoth_68 (by decide) ?_
            refine x_to (l := [(0, .ref (M.2.1 k0)), (1, .int a1), (2, .int ((1 : Int32))), (3, .int v11)]) ⟨rfl, rfl, rfl, rfl, trivial⟩ ?_
            exact hrec ((1 : Int32)) v11 q9.2 h
theorem tX5_readBoth_L8 {Γ : xGm} {M : xMg} {w : Nat} (o : xOk Γ tC M (5 + w + 1) cX5_readBoth RX5) (hnL : Γ.2.2.2 = 4) (n : Nat) (rc : xRC) (k0 : Nat) (a1 : Int32) (hrc : xRec rc (5 + w)) (z : (Int32 × xSt)) (K : xAt Γ tC M 71 (xlv [(2, .int z.1)]) [] z.2) : ∀ (q : Nat) (a2 : Int32) (a3 : Int32) (S : xSt), fX5_readBoth_L8 n rc k0 a1 q a2 a3 S = some z → xAt Γ tC M 8 (xlv [(0, .ref (M.2.1 k0)), (1, .int a1), (2, .int a2), (3, .int a3)]) [] S := by
  intro q
  induction q with
  | zero => intro a2 a3 S h; cases h
  | succ q ih => intro a2 a3 S h; exact tX5_readBoth_L8b o hnL n rc k0 a1 a2 a3 S hrc z ih K h
def bX5_readBoth (n : Nat) (rc : xRC) (k0 : Nat) (a1 : Int32) (S : xSt) : Option (Int32 × xSt) :=
  if tC.1 k0 = 5 then
  ((rc 2 k0 a1 (0 : Int32) S).bind fun q1 =>
  (fX5_readBoth_L8 n rc k0 a1 n q1.1 ((0 : Int32)) q1.2).bind fun z17 => if z17.1 = 0 ∨ z17.1 = 1 then (some (z17.1, z17.2)) else none)
  else none
set_option maxHeartbeats 4000000 in
theorem tX5_readBoth_r {w : Nat} (n : Nat) (rc : xRC) (k0 : Nat) (a1 : Int32) (hrc : xRec rc (5 + w)) (S : xSt) (z : Int32 × xSt) (h : bX5_readBoth n rc k0 a1 S = some z) : tC.1 k0 = 5 ∧ ∀ (l : Launch) (M : xMg) (A : Nat → Prop), xMI l yX5_readBoth cX5_readBoth 4 (some .boolean) (5 + w + 1) tC M A [.ref (M.2.1 k0), .int a1] S z.1 z.2 := by
  refine ⟨?_, fun l M A => x_metI (plainFor_of_name (by decide)) tC_ok (Nat.le_of_ble_eq_true rfl) (fun Γ hA hnL hl hr o => ?_)⟩
  · unfold bX5_readBoth at h; exact (xck h).1
  subst hA; subst hl
  have o : xOk Γ tC M (5 + w + 1) cX5_readBoth RX5 := o
  unfold bX5_readBoth at h
  obtain ⟨hk0, h⟩ := xck h
  refine x_to (l := [(0, .ref (M.2.1 k0)), (1, .int a1)]) ⟨rfl, rfl, trivial⟩ ?_
  have hn2 : 2 < Γ.2.2.2 := by omega
  have hn3 : 3 < Γ.2.2.2 := by omega
  refine x_aload_n (pc := 0) o dX5_readBoth_0 rfl rfl ?_
  refine x_iload_n (pc := 1) o dX5_readBoth_1 rfl rfl ?_
  obtain ⟨q1, hq1, h⟩ := xbs h
  refine x_callI (pc := 2) (As := [.int a1]) (b := k0) (rest := []) o ((hrc.2.2.1 k0 a1 (0 : Int32) S q1 hq1).2 _ M _) eX5_readFact mX5_57 clX5 (hrc.2.2.1 k0 a1 (0 : Int32) S q1 hq1).1 (by omega) rfl rfl (Nat.le_of_ble_eq_true rfl) dX5_readBoth_2 ?_
  refine x_istore_n (pc := 5) o dX5_readBoth_5 rfl hn2 ?_
  refine x_iconst (pc := 6) o dX5_readBoth_6 ic_0 ?_
  refine x_istore_n (pc := 7) o dX5_readBoth_7 rfl hn3 ?_
  obtain ⟨z17, hz17, h⟩ := xbs h
  refine x_to (l := [(0, .ref (M.2.1 k0)), (1, .int a1), (2, .int q1.1), (3, .int ((0 : Int32)))]) ⟨rfl, rfl, rfl, rfl, trivial⟩ ?_
  refine tX5_readBoth_L8 o hnL n rc k0 a1 hrc z17 ?_ n q1.1 ((0 : Int32)) q1.2 hz17
  refine x_iload_n (pc := 71) o dX5_readBoth_71 rfl rfl ?_
  obtain ⟨hz, h⟩ := xck h
  exact x_zreturn (pc := 72) o hr dX5_readBoth_72 hz (xr1 h) (xr2 h)
def bX5_readFact (n : Nat) (rc : xRC) (k0 : Nat) (a1 : Int32) (S : xSt) : Option (Int32 × xSt) :=
  if tC.1 k0 = 5 then
  ((xgF tC 5 0 k0 S).bind fun r1 =>
  (fX7_isWord r1 ((28 : Int32)) S).bind fun v2 =>
  if v2 = 0 then
  ((xgF tC 5 0 k0 S).bind fun r3 =>
  (fX7_isSign r3 ((91 : Int32)) S).bind fun v4 =>
  if v4 = 0 then
  ((xgF tC 5 0 k0 S).bind fun r5 =>
  (fX7_isWord r5 ((29 : Int32)) S).bind fun v6 =>
  if v6 = 0 then
  ((rc 4 k0 a1 (0 : Int32) S).bind fun q7 =>
  if q7.1 = 0 then
  (some ((0 : Int32), q7.2))
else
  ((rc 3 k0 a1 (0 : Int32) q7.2).bind fun q8 =>
  if q8.1 = 0 then
  (some ((0 : Int32), q8.2))
else
  (some ((1 : Int32), q8.2))))
else
  ((xgF tC 5 0 k0 S).bind fun r11 =>
  (fX7_advance n r11 S).bind fun S12 =>
  (xgM tC 5 1 k0 S12).bind fun r13 =>
  (fX1_put r13 ((0 : Int32)) ((1 : Int32)) S12).bind fun q14 =>
  if q14.1 = 0 ∨ q14.1 = 1 then (some (q14.1, q14.2)) else none))
else
  ((fX5_opens n k0 a1 S).bind fun q16 =>
  if q16.1 = 0 then
  (some ((0 : Int32), q16.2))
else
  ((rc 0 k0 (a1 + ((1 : Int32))) (0 : Int32) q16.2).bind fun q17 =>
  if q17.1 = 0 then
  (some ((0 : Int32), q17.2))
else
  ((xgF tC 5 0 k0 q17.2).bind fun r18 =>
  (fX7_takeSign n r18 ((93 : Int32)) q17.2).bind fun q19 =>
  if q19.1 = 0 then
  (some ((0 : Int32), q19.2))
else
  (some ((1 : Int32), q19.2))))))
else
  ((fX5_opens n k0 a1 S).bind fun q24 =>
  if q24.1 = 0 then
  (some ((0 : Int32), q24.2))
else
  ((rc 2 k0 (a1 + ((1 : Int32))) (0 : Int32) q24.2).bind fun q25 =>
  if q25.1 = 0 then
  (some ((0 : Int32), q25.2))
else
  ((xgM tC 5 1 k0 q25.2).bind fun r26 =>
  (fX1_put r26 ((2 : Int32)) ((0 : Int32)) q25.2).bind fun q27 =>
  if q27.1 = 0 then
  (some ((0 : Int32), q27.2))
else
  (some ((1 : Int32), q27.2))))))
  else none
set_option maxHeartbeats 4000000 in
theorem tX5_readFact_r {w : Nat} (n : Nat) (rc : xRC) (k0 : Nat) (a1 : Int32) (hrc : xRec rc (5 + w)) (S : xSt) (z : Int32 × xSt) (h : bX5_readFact n rc k0 a1 S = some z) : tC.1 k0 = 5 ∧ ∀ (l : Launch) (M : xMg) (A : Nat → Prop), xMI l yX5_readFact cX5_readFact 2 (some .boolean) (5 + w + 1) tC M A [.ref (M.2.1 k0), .int a1] S z.1 z.2 := by
  refine ⟨?_, fun l M A => x_metI (plainFor_of_name (by decide)) tC_ok (Nat.le_of_ble_eq_true rfl) (fun Γ hA hnL hl hr o => ?_)⟩
  · unfold bX5_readFact at h; exact (xck h).1
  subst hA; subst hl
  have o : xOk Γ tC M (5 + w + 1) cX5_readFact RX5 := o
  unfold bX5_readFact at h
  obtain ⟨hk0, h⟩ := xck h
  refine x_to (l := [(0, .ref (M.2.1 k0)), (1, .int a1)]) ⟨rfl, rfl, trivial⟩ ?_
  refine x_aload_n (pc := 0) o dX5_readFact_0 rfl rfl ?_
  obtain ⟨r1, hr1, h⟩ := xbs h
  refine gX5_9 (pc := 1) o dX5_readFact_1 hr1 ?_
  refine x_bipush (pc := 4) o dX5_readFact_4 bp_28 ?_
  obtain ⟨v2, hv2, h⟩ := xbs h
  refine x_callI (pc := 6) (As := [.int ((28 : Int32))]) (b := r1) (rest := []) o (tX7_isWord _ M _ r1 ((28 : Int32)) S v2 hv2) eX7_isWord mX5_47 clX7 (kX7_isWord hv2) (by omega) rfl rfl (Nat.le_of_ble_eq_true rfl) dX5_readFact_6 ?_
  refine x_if_eq (pc := 9) (tgt := 48) o dX5_readFact_9 (by decide) (fun c31 => ?_) (fun c31 => ?_)
  · have h := xit h c31
    refine x_aload_n (pc := 48) o dX5_readFact_48 rfl rfl ?_
    obtain ⟨r3, hr3, h⟩ := xbs h
    refine gX5_9 (pc := 49) o dX5_readFact_49 hr3 ?_
    refine x_bipush (pc := 52) o dX5_readFact_52 bp_91 ?_
    obtain ⟨v4, hv4, h⟩ := xbs h
    refine x_callI (pc := 54) (As := [.int ((91 : Int32))]) (b := r3) (rest := []) o (tX7_isSign _ M _ r3 ((91 : Int32)) S v4 hv4) eX7_isSign mX5_63 clX7 (kX7_isSign hv4) (by omega) rfl rfl (Nat.le_of_ble_eq_true rfl) dX5_readFact_54 ?_
    refine x_if_eq (pc := 57) (tgt := 96) o dX5_readFact_57 (by decide) (fun c23 => ?_) (fun c23 => ?_)
    · have h := xit h c23
      refine x_aload_n (pc := 96) o dX5_readFact_96 rfl rfl ?_
      obtain ⟨r5, hr5, h⟩ := xbs h
      refine gX5_9 (pc := 97) o dX5_readFact_97 hr5 ?_
      refine x_bipush (pc := 100) o dX5_readFact_100 bp_29 ?_
      obtain ⟨v6, hv6, h⟩ := xbs h
      refine x_callI (pc := 102) (As := [.int ((29 : Int32))]) (b := r5) (rest := []) o (tX7_isWord _ M _ r5 ((29 : Int32)) S v6 hv6) eX7_isWord mX5_47 clX7 (kX7_isWord hv6) (by omega) rfl rfl (Nat.le_of_ble_eq_true rfl) dX5_readFact_102 ?_
      refine x_if_eq (pc := 105) (tgt := 125) o dX5_readFact_105 (by decide) (fun c15 => ?_) (fun c15 => ?_)
      · have h := xit h c15
        refine x_aload_n (pc := 125) o dX5_readFact_125 rfl rfl ?_
        refine x_iload_n (pc := 126) o dX5_readFact_126 rfl rfl ?_
        obtain ⟨q7, hq7, h⟩ := xbs h
        refine x_callI (pc := 127) (As := [.int a1]) (b := k0) (rest := []) o ((hrc.2.2.2.2.1 k0 a1 (0 : Int32) S q7 hq7).2 _ M _) eX5_readSum mX5_72 clX5 (hrc.2.2.2.2.1 k0 a1 (0 : Int32) S q7 hq7).1 (by omega) rfl rfl (Nat.le_of_ble_eq_true rfl) dX5_readFact_127 ?_
        refine x_if_eq (pc := 130) (tgt := 145) o dX5_readFact_130 (by decide) (fun c10 => ?_) (fun c10 => ?_)
        · have h := xit h c10
          refine x_iconst (pc := 145) o dX5_readFact_145 ic_0 ?_
          exact x_zreturn (pc := 146) o hr dX5_readFact_146 (by decide) (xr1 h) (xr2 h)
        · have h := xif h c10
          refine x_aload_n (pc := 133) o dX5_readFact_133 rfl rfl ?_
          refine x_iload_n (pc := 134) o dX5_readFact_134 rfl rfl ?_
          obtain ⟨q8, hq8, h⟩ := xbs h
          refine x_callI (pc := 135) (As := [.int a1]) (b := k0) (rest := []) o ((hrc.2.2.2.1 k0 a1 (0 : Int32) q7.2 q8 hq8).2 _ M _) eX5_readSecondSum mX5_75 clX5 (hrc.2.2.2.1 k0 a1 (0 : Int32) q7.2 q8 hq8).1 (by omega) rfl rfl (Nat.le_of_ble_eq_true rfl) dX5_readFact_135 ?_
          refine x_if_eq (pc := 138) (tgt := 145) o dX5_readFact_138 (by decide) (fun c9 => ?_) (fun c9 => ?_)
          · have h := xit h c9
            refine x_iconst (pc := 145) o dX5_readFact_145 ic_0 ?_
            exact x_zreturn (pc := 146) o hr dX5_readFact_146 (by decide) (xr1 h) (xr2 h)
          · have h := xif h c9
            refine x_iconst (pc := 141) o dX5_readFact_141 ic_1 ?_
            refine x_goto (pc := 142) (tgt := 146) o dX5_readFact_142 (by decide) ?_
            exact x_zreturn (pc := 146) o hr dX5_readFact_146 (by decide) (xr1 h) (xr2 h)
      · have h := xif h c15
        refine x_aload_n (pc := 108) o dX5_readFact_108 rfl rfl ?_
        obtain ⟨r11, hr11, h⟩ := xbs h
        refine gX5_9 (pc := 109) o dX5_readFact_109 hr11 ?_
        obtain ⟨S12, hS12, h⟩ := xbs h
        refine x_callV (pc := 112) (As := []) (b := r11) (rest := []) o (tX7_advance _ M _ n r11 S S12 hS12) eX7_advance mX5_50 clX7 (kX7_advance hS12) (by omega) rfl rfl (Nat.le_of_ble_eq_true rfl) dX5_readFact_112 ?_
        refine x_aload_n (pc := 115) o dX5_readFact_115 rfl rfl ?_
        obtain ⟨r13, hr13, h⟩ := xbs h
        refine gX5_15 (pc := 116) o dX5_readFact_116 hr13 ?_
        refine x_iconst (pc := 119) o dX5_readFact_119 ic_0 ?_
        refine x_iconst (pc := 120) o dX5_readFact_120 ic_1 ?_
        obtain ⟨q14, hq14, h⟩ := xbs h
        refine x_callI (pc := 121) (As := [.int ((0 : Int32)), .int ((1 : Int32))]) (b := r13) (rest := []) o (tX1_put _ M _ r13 ((0 : Int32)) ((1 : Int32)) S12 q14 hq14) eX1_put mX5_53 clX1 (kX1_put hq14) (by omega) rfl rfl (Nat.le_of_ble_eq_true rfl) dX5_readFact_121 ?_
        obtain ⟨hz, h⟩ := xck h
        exact x_zreturn (pc := 124) o hr dX5_readFact_124 hz (xr1 h) (xr2 h)
    · have h := xif h c23
      refine x_aload_n (pc := 60) o dX5_readFact_60 rfl rfl ?_
      refine x_iload_n (pc := 61) o dX5_readFact_61 rfl rfl ?_
      obtain ⟨q16, hq16, h⟩ := xbs h
      refine x_callI (pc := 62) (As := [.int a1]) (b := k0) (rest := []) o (tX5_opens _ M _ n k0 a1 S q16 hq16) eX5_opens mX5_60 clX5 (kX5_opens hq16) (by omega) rfl rfl (Nat.le_of_ble_eq_true rfl) dX5_readFact_62 ?_
      refine x_if_eq (pc := 65) (tgt := 94) o dX5_readFact_65 (by decide) (fun c22 => ?_) (fun c22 => ?_)
      · have h := xit h c22
        refine x_iconst (pc := 94) o dX5_readFact_94 ic_0 ?_
        exact x_zreturn (pc := 95) o hr dX5_readFact_95 (by decide) (xr1 h) (xr2 h)
      · have h := xif h c22
        refine x_aload_n (pc := 68) o dX5_readFact_68 rfl rfl ?_
        refine x_iload_n (pc := 69) o dX5_readFact_69 rfl rfl ?_
        refine x_iconst (pc := 70) o dX5_readFact_70 ic_1 ?_
        refine x_iadd (pc := 71) o dX5_readFact_71 ?_
        obtain ⟨q17, hq17, h⟩ := xbs h
        refine x_callI (pc := 72) (As := [.int (a1 + ((1 : Int32)))]) (b := k0) (rest := []) o ((hrc.1 k0 (a1 + ((1 : Int32))) (0 : Int32) q16.2 q17 hq17).2 _ M _) eX5_readTest mX5_66 clX5 (hrc.1 k0 (a1 + ((1 : Int32))) (0 : Int32) q16.2 q17 hq17).1 (by omega) rfl rfl (Nat.le_of_ble_eq_true rfl) dX5_readFact_72 ?_
        refine x_if_eq (pc := 75) (tgt := 94) o dX5_readFact_75 (by decide) (fun c21 => ?_) (fun c21 => ?_)
        · have h := xit h c21
          refine x_iconst (pc := 94) o dX5_readFact_94 ic_0 ?_
          exact x_zreturn (pc := 95) o hr dX5_readFact_95 (by decide) (xr1 h) (xr2 h)
        · have h := xif h c21
          refine x_aload_n (pc := 78) o dX5_readFact_78 rfl rfl ?_
          obtain ⟨r18, hr18, h⟩ := xbs h
          refine gX5_9 (pc := 79) o dX5_readFact_79 hr18 ?_
          refine x_bipush (pc := 82) o dX5_readFact_82 bp_93 ?_
          obtain ⟨q19, hq19, h⟩ := xbs h
          refine x_callI (pc := 84) (As := [.int ((93 : Int32))]) (b := r18) (rest := []) o (tX7_takeSign _ M _ n r18 ((93 : Int32)) q17.2 q19 hq19) eX7_takeSign mX5_69 clX7 (kX7_takeSign hq19) (by omega) rfl rfl (Nat.le_of_ble_eq_true rfl) dX5_readFact_84 ?_
          refine x_if_eq (pc := 87) (tgt := 94) o dX5_readFact_87 (by decide) (fun c20 => ?_) (fun c20 => ?_)
          · have h := xit h c20
            refine x_iconst (pc := 94) o dX5_readFact_94 ic_0 ?_
            exact x_zreturn (pc := 95) o hr dX5_readFact_95 (by decide) (xr1 h) (xr2 h)
          · have h := xif h c20
            refine x_iconst (pc := 90) o dX5_readFact_90 ic_1 ?_
            refine x_goto (pc := 91) (tgt := 95) o dX5_readFact_91 (by decide) ?_
            exact x_zreturn (pc := 95) o hr dX5_readFact_95 (by decide) (xr1 h) (xr2 h)
  · have h := xif h c31
    refine x_aload_n (pc := 12) o dX5_readFact_12 rfl rfl ?_
    refine x_iload_n (pc := 13) o dX5_readFact_13 rfl rfl ?_
    obtain ⟨q24, hq24, h⟩ := xbs h
    refine x_callI (pc := 14) (As := [.int a1]) (b := k0) (rest := []) o (tX5_opens _ M _ n k0 a1 S q24 hq24) eX5_opens mX5_60 clX5 (kX5_opens hq24) (by omega) rfl rfl (Nat.le_of_ble_eq_true rfl) dX5_readFact_14 ?_
    refine x_if_eq (pc := 17) (tgt := 46) o dX5_readFact_17 (by decide) (fun c30 => ?_) (fun c30 => ?_)
    · have h := xit h c30
      refine x_iconst (pc := 46) o dX5_readFact_46 ic_0 ?_
      exact x_zreturn (pc := 47) o hr dX5_readFact_47 (by decide) (xr1 h) (xr2 h)
    · have h := xif h c30
      refine x_aload_n (pc := 20) o dX5_readFact_20 rfl rfl ?_
      refine x_iload_n (pc := 21) o dX5_readFact_21 rfl rfl ?_
      refine x_iconst (pc := 22) o dX5_readFact_22 ic_1 ?_
      refine x_iadd (pc := 23) o dX5_readFact_23 ?_
      obtain ⟨q25, hq25, h⟩ := xbs h
      refine x_callI (pc := 24) (As := [.int (a1 + ((1 : Int32)))]) (b := k0) (rest := []) o ((hrc.2.2.1 k0 (a1 + ((1 : Int32))) (0 : Int32) q24.2 q25 hq25).2 _ M _) eX5_readFact mX5_57 clX5 (hrc.2.2.1 k0 (a1 + ((1 : Int32))) (0 : Int32) q24.2 q25 hq25).1 (by omega) rfl rfl (Nat.le_of_ble_eq_true rfl) dX5_readFact_24 ?_
      refine x_if_eq (pc := 27) (tgt := 46) o dX5_readFact_27 (by decide) (fun c29 => ?_) (fun c29 => ?_)
      · have h := xit h c29
        refine x_iconst (pc := 46) o dX5_readFact_46 ic_0 ?_
        exact x_zreturn (pc := 47) o hr dX5_readFact_47 (by decide) (xr1 h) (xr2 h)
      · have h := xif h c29
        refine x_aload_n (pc := 30) o dX5_readFact_30 rfl rfl ?_
        obtain ⟨r26, hr26, h⟩ := xbs h
        refine gX5_15 (pc := 31) o dX5_readFact_31 hr26 ?_
        refine x_iconst (pc := 34) o dX5_readFact_34 ic_2 ?_
        refine x_iconst (pc := 35) o dX5_readFact_35 ic_0 ?_
        obtain ⟨q27, hq27, h⟩ := xbs h
        refine x_callI (pc := 36) (As := [.int ((2 : Int32)), .int ((0 : Int32))]) (b := r26) (rest := []) o (tX1_put _ M _ r26 ((2 : Int32)) ((0 : Int32)) q25.2 q27 hq27) eX1_put mX5_53 clX1 (kX1_put hq27) (by omega) rfl rfl (Nat.le_of_ble_eq_true rfl) dX5_readFact_36 ?_
        refine x_if_eq (pc := 39) (tgt := 46) o dX5_readFact_39 (by decide) (fun c28 => ?_) (fun c28 => ?_)
        · have h := xit h c28
          refine x_iconst (pc := 46) o dX5_readFact_46 ic_0 ?_
          exact x_zreturn (pc := 47) o hr dX5_readFact_47 (by decide) (xr1 h) (xr2 h)
        · have h := xif h c28
          refine x_iconst (pc := 42) o dX5_readFact_42 ic_1 ?_
          refine x_goto (pc := 43) (tgt := 47) o dX5_readFact_43 (by decide) ?_
          exact x_zreturn (pc := 47) o hr dX5_readFact_47 (by decide) (xr1 h) (xr2 h)
def bX5_readSecondSum (n : Nat) (rc : xRC) (k0 : Nat) (a1 : Int32) (S : xSt) : Option (Int32 × xSt) :=
  if tC.1 k0 = 5 then
  ((fX5_comparison k0 S).bind fun v1 =>
  if v1 = ((-1 : Int32)) then
  ((xgF tC 5 0 k0 S).bind fun r9 =>
  (fX7_failHere r9 S).bind fun q10 =>
  if q10.1 = 0 ∨ q10.1 = 1 then (some (q10.1, q10.2)) else none)
else
  ((xgF tC 5 0 k0 S).bind fun r2 =>
  (fX7_advance n r2 S).bind fun S3 =>
  (rc 4 k0 a1 (0 : Int32) S3).bind fun q4 =>
  if q4.1 = 0 then
  (some ((0 : Int32), q4.2))
else
  ((xgM tC 5 1 k0 q4.2).bind fun r5 =>
  (fX1_put r5 v1 ((0 : Int32)) q4.2).bind fun q6 =>
  if q6.1 = 0 then
  (some ((0 : Int32), q6.2))
else
  (some ((1 : Int32), q6.2)))))
  else none
set_option maxHeartbeats 4000000 in
theorem tX5_readSecondSum_r {w : Nat} (n : Nat) (rc : xRC) (k0 : Nat) (a1 : Int32) (hrc : xRec rc (5 + w)) (S : xSt) (z : Int32 × xSt) (h : bX5_readSecondSum n rc k0 a1 S = some z) : tC.1 k0 = 5 ∧ ∀ (l : Launch) (M : xMg) (A : Nat → Prop), xMI l yX5_readSecondSum cX5_readSecondSum 3 (some .boolean) (5 + w + 1) tC M A [.ref (M.2.1 k0), .int a1] S z.1 z.2 := by
  refine ⟨?_, fun l M A => x_metI (plainFor_of_name (by decide)) tC_ok (Nat.le_of_ble_eq_true rfl) (fun Γ hA hnL hl hr o => ?_)⟩
  · unfold bX5_readSecondSum at h; exact (xck h).1
  subst hA; subst hl
  have o : xOk Γ tC M (5 + w + 1) cX5_readSecondSum RX5 := o
  unfold bX5_readSecondSum at h
  obtain ⟨hk0, h⟩ := xck h
  refine x_to (l := [(0, .ref (M.2.1 k0)), (1, .int a1)]) ⟨rfl, rfl, trivial⟩ ?_
  have hn2 : 2 < Γ.2.2.2 := by omega
  refine x_aload_n (pc := 0) o dX5_readSecondSum_0 rfl rfl ?_
  obtain ⟨v1, hv1, h⟩ := xbs h
  refine x_callI (pc := 1) (As := []) (b := k0) (rest := []) o (tX5_comparison _ M _ k0 S v1 hv1) eX5_comparison mX5_78 clX5 (kX5_comparison hv1) (by omega) rfl rfl (Nat.le_of_ble_eq_true rfl) dX5_readSecondSum_1 ?_
  refine x_istore_n (pc := 4) o dX5_readSecondSum_4 rfl hn2 ?_
  refine x_iload_n (pc := 5) o dX5_readSecondSum_5 rfl rfl ?_
  refine x_iconst (pc := 6) o dX5_readSecondSum_6 ic_m1 ?_
  refine x_icmp_ne (pc := 7) (tgt := 18) o dX5_readSecondSum_7 (by decide) (fun c11 => ?_) (fun c11 => ?_)
  · have h := xif h c11
    refine x_aload_n (pc := 18) o dX5_readSecondSum_18 rfl rfl ?_
    obtain ⟨r2, hr2, h⟩ := xbs h
    refine gX5_9 (pc := 19) o dX5_readSecondSum_19 hr2 ?_
    obtain ⟨S3, hS3, h⟩ := xbs h
    refine x_callV (pc := 22) (As := []) (b := r2) (rest := []) o (tX7_advance _ M _ n r2 S S3 hS3) eX7_advance mX5_50 clX7 (kX7_advance hS3) (by omega) rfl rfl (Nat.le_of_ble_eq_true rfl) dX5_readSecondSum_22 ?_
    refine x_aload_n (pc := 25) o dX5_readSecondSum_25 rfl rfl ?_
    refine x_iload_n (pc := 26) o dX5_readSecondSum_26 rfl rfl ?_
    obtain ⟨q4, hq4, h⟩ := xbs h
    refine x_callI (pc := 27) (As := [.int a1]) (b := k0) (rest := []) o ((hrc.2.2.2.2.1 k0 a1 (0 : Int32) S3 q4 hq4).2 _ M _) eX5_readSum mX5_72 clX5 (hrc.2.2.2.2.1 k0 a1 (0 : Int32) S3 q4 hq4).1 (by omega) rfl rfl (Nat.le_of_ble_eq_true rfl) dX5_readSecondSum_27 ?_
    refine x_if_eq (pc := 30) (tgt := 49) o dX5_readSecondSum_30 (by decide) (fun c8 => ?_) (fun c8 => ?_)
    · have h := xit h c8
      refine x_iconst (pc := 49) o dX5_readSecondSum_49 ic_0 ?_
      exact x_zreturn (pc := 50) o hr dX5_readSecondSum_50 (by decide) (xr1 h) (xr2 h)
    · have h := xif h c8
      refine x_aload_n (pc := 33) o dX5_readSecondSum_33 rfl rfl ?_
      obtain ⟨r5, hr5, h⟩ := xbs h
      refine gX5_15 (pc := 34) o dX5_readSecondSum_34 hr5 ?_
      refine x_iload_n (pc := 37) o dX5_readSecondSum_37 rfl rfl ?_
      refine x_iconst (pc := 38) o dX5_readSecondSum_38 ic_0 ?_
      obtain ⟨q6, hq6, h⟩ := xbs h
      refine x_callI (pc := 39) (As := [.int v1, .int ((0 : Int32))]) (b := r5) (rest := []) o (tX1_put _ M _ r5 v1 ((0 : Int32)) q4.2 q6 hq6) eX1_put mX5_53 clX1 (kX1_put hq6) (by omega) rfl rfl (Nat.le_of_ble_eq_true rfl) dX5_readSecondSum_39 ?_
      refine x_if_eq (pc := 42) (tgt := 49) o dX5_readSecondSum_42 (by decide) (fun c7 => ?_) (fun c7 => ?_)
      · have h := xit h c7
        refine x_iconst (pc := 49) o dX5_readSecondSum_49 ic_0 ?_
        exact x_zreturn (pc := 50) o hr dX5_readSecondSum_50 (by decide) (xr1 h) (xr2 h)
      · have h := xif h c7
        refine x_iconst (pc := 45) o dX5_readSecondSum_45 ic_1 ?_
        refine x_goto (pc := 46) (tgt := 50) o dX5_readSecondSum_46 (by decide) ?_
        exact x_zreturn (pc := 50) o hr dX5_readSecondSum_50 (by decide) (xr1 h) (xr2 h)
  · have h := xit h c11
    refine x_aload_n (pc := 10) o dX5_readSecondSum_10 rfl rfl ?_
    obtain ⟨r9, hr9, h⟩ := xbs h
    refine gX5_9 (pc := 11) o dX5_readSecondSum_11 hr9 ?_
    obtain ⟨q10, hq10, h⟩ := xbs h
    refine x_callI (pc := 14) (As := []) (b := r9) (rest := []) o (tX7_failHere _ M _ r9 S q10 hq10) eX7_failHere mX5_82 clX7 (kX7_failHere hq10) (by omega) rfl rfl (Nat.le_of_ble_eq_true rfl) dX5_readSecondSum_14 ?_
    obtain ⟨hz, h⟩ := xck h
    exact x_zreturn (pc := 17) o hr dX5_readSecondSum_17 hz (xr1 h) (xr2 h)
def fX5_readSum_B60_8 (n : Nat) (rc : xRC) (rec : Int32 → Int32 → xSt → Option (Int32 × xSt)) (k0 : Nat) (a1 : Int32) (a3 : Int32) (s0 : Int32) (S : xSt) : Option (Int32 × xSt) :=
  (xgF tC 5 0 k0 S).bind fun r6 =>
  (fX7_advance n r6 S).bind fun S7 =>
  (rc 5 k0 a1 (0 : Int32) S7).bind fun q8 =>
  if q8.1 = 0 then
  ((some (a3 + (1 : Int32))).bind fun v9 =>
  rec ((0 : Int32)) v9 q8.2)
else
  ((xgM tC 5 1 k0 q8.2).bind fun r10 =>
  (fX1_put r10 s0 ((0 : Int32)) q8.2).bind fun q11 =>
  if q11.1 = 0 then
  ((some (a3 + (1 : Int32))).bind fun v12 =>
  rec ((0 : Int32)) v12 q11.2)
else
  ((some (a3 + (1 : Int32))).bind fun v13 =>
  rec ((1 : Int32)) v13 q11.2))
set_option maxHeartbeats 4000000 in
theorem tX5_readSum_B60_8 {Γ : xGm} {M : xMg} {w : Nat} (o : xOk Γ tC M (5 + w + 1) cX5_readSum RX5) (hnL : Γ.2.2.2 = 5) {rec : Int32 → Int32 → xSt → Option (Int32 × xSt)} (n : Nat) (rc : xRC) (k0 : Nat) (a1 : Int32) (a3 : Int32) (s0 : Int32) (S : xSt) (hrc : xRec rc (5 + w)) (z : (Int32 × xSt)) (hrec : ∀ (a2 : Int32) (a3 : Int32) (S : xSt), rec a2 a3 S = some z → xAt Γ tC M 8 (xlv [(0, .ref (M.2.1 k0)), (1, .int a1), (2, .int a2), (3, .int a3)]) [] S) (K : xAt Γ tC M 102 (xlv [(2, .int z.1)]) [] z.2) (h : fX5_readSum_B60_8 n rc rec k0 a1 a3 s0 S = some z) : xAt Γ tC M 60 (xlv [(0, .ref (M.2.1 k0)), (1, .int a1), (3, .int a3)]) [.int s0] S := by
  have hn2 : 2 < Γ.2.2.2 := by omega
  have hn3 : 3 < Γ.2.2.2 := by omega
  have hn4 : 4 < Γ.2.2.2 := by omega
  unfold fX5_readSum_B60_8 at h
  refine x_istore (pc := 60) o dX5_readSum_60 hn4 ?_
  refine x_aload_n (pc := 62) o dX5_readSum_62 rfl rfl ?_
  obtain ⟨r6, hr6, h⟩ := xbs h
  refine gX5_9 (pc := 63) o dX5_readSum_63 hr6 ?_
  obtain ⟨S7, hS7, h⟩ := xbs h
  refine x_callV (pc := 66) (As := []) (b := r6) (rest := []) o (tX7_advance _ M _ n r6 S S7 hS7) eX7_advance mX5_50 clX7 (kX7_advance hS7) (by omega) rfl rfl (Nat.le_of_ble_eq_true rfl) dX5_readSum_66 ?_
  refine x_aload_n (pc := 69) o dX5_readSum_69 rfl rfl ?_
  refine x_iload_n (pc := 70) o dX5_readSum_70 rfl rfl ?_
  obtain ⟨q8, hq8, h⟩ := xbs h
  refine x_callI (pc := 71) (As := [.int a1]) (b := k0) (rest := []) o ((hrc.2.2.2.2.2.1 k0 a1 (0 : Int32) S7 q8 hq8).2 _ M _) eX5_readProduct mX5_86 clX5 (hrc.2.2.2.2.2.1 k0 a1 (0 : Int32) S7 q8 hq8).1 (by omega) rfl rfl (Nat.le_of_ble_eq_true rfl) dX5_readSum_71 ?_
  refine x_if_eq (pc := 74) (tgt := 94) o dX5_readSum_74 (by decide) (fun c15 => ?_) (fun c15 => ?_)
  · have h := xit h c15
    refine x_iconst (pc := 94) o dX5_readSum_94 ic_0 ?_
    refine x_istore_n (pc := 95) o dX5_readSum_95 rfl hn2 ?_
    obtain ⟨v9, hv9, h⟩ := xbs h
    refine x_iincE (pc := 96) o dX5_readSum_96 rfl ic_1 hn3 hv9 ?_
    refine x_goto (pc := 99) (tgt := 8) o dX5_readSum_99 (by decide) ?_
    refine x_to (l := [(0, .ref (M.2.1 k0)), (1, .int a1), (2, .int ((0 : Int32))), (3, .int v9)]) ⟨rfl, rfl, rfl, rfl, trivial⟩ ?_
    exact hrec ((0 : Int32)) v9 q8.2 h
  · have h := xif h c15
    refine x_aload_n (pc := 77) o dX5_readSum_77 rfl rfl ?_
    obtain ⟨r10, hr10, h⟩ := xbs h
    refine gX5_15 (pc := 78) o dX5_readSum_78 hr10 ?_
    refine x_iload (pc := 81) o dX5_readSum_81 rfl ?_
    refine x_iconst (pc := 83) o dX5_readSum_83 ic_0 ?_
    obtain ⟨q11, hq11, h⟩ := xbs h
    refine x_callI (pc := 84) (As := [.int s0, .int ((0 : Int32))]) (b := r10) (rest := []) o (tX1_put _ M _ r10 s0 ((0 : Int32)) q8.2 q11 hq11) eX1_put mX5_53 clX1 (kX1_put hq11) (by omega) rfl rfl (Nat.le_of_ble_eq_true rfl) dX5_readSum_84 ?_
    refine x_if_eq (pc := 87) (tgt := 94) o dX5_readSum_87 (by decide) (fun c14 => ?_) (fun c14 => ?_)
    · have h := xit h c14
      refine x_iconst (pc := 94) o dX5_readSum_94 ic_0 ?_
      refine x_istore_n (pc := 95) o dX5_readSum_95 rfl hn2 ?_
      obtain ⟨v12, hv12, h⟩ := xbs h
      refine x_iincE (pc := 96) o dX5_readSum_96 rfl ic_1 hn3 hv12 ?_
      refine x_goto (pc := 99) (tgt := 8) o dX5_readSum_99 (by decide) ?_
      refine x_to (l := [(0, .ref (M.2.1 k0)), (1, .int a1), (2, .int ((0 : Int32))), (3, .int v12)]) ⟨rfl, rfl, rfl, rfl, trivial⟩ ?_
      exact hrec ((0 : Int32)) v12 q11.2 h
    · have h := xif h c14
      refine x_iconst (pc := 90) o dX5_readSum_90 ic_1 ?_
      refine x_goto (pc := 91) (tgt := 95) o dX5_readSum_91 (by decide) ?_
      refine x_istore_n (pc := 95) o dX5_readSum_95 rfl hn2 ?_
      obtain ⟨v13, hv13, h⟩ := xbs h
      refine x_iincE (pc := 96) o dX5_readSum_96 rfl ic_1 hn3 hv13 ?_
      refine x_goto (pc := 99) (tgt := 8) o dX5_readSum_99 (by decide) ?_
      refine x_to (l := [(0, .ref (M.2.1 k0)), (1, .int a1), (2, .int ((1 : Int32))), (3, .int v13)]) ⟨rfl, rfl, rfl, rfl, trivial⟩ ?_
      exact hrec ((1 : Int32)) v13 q11.2 h
def fX5_readSum_B43_8 (n : Nat) (rc : xRC) (rec : Int32 → Int32 → xSt → Option (Int32 × xSt)) (k0 : Nat) (a1 : Int32) (a3 : Int32) (S : xSt) : Option (Int32 × xSt) :=
  (xgF tC 5 0 k0 S).bind fun r4 =>
  (fX7_isSign r4 ((43 : Int32)) S).bind fun v5 =>
  if v5 = 0 then
  (fX5_readSum_B60_8 n rc rec k0 a1 a3 ((5 : Int32)) S)
else
  (fX5_readSum_B60_8 n rc rec k0 a1 a3 ((4 : Int32)) S)
set_option maxHeartbeats 4000000 in
theorem tX5_readSum_B43_8 {Γ : xGm} {M : xMg} {w : Nat} (o : xOk Γ tC M (5 + w + 1) cX5_readSum RX5) (hnL : Γ.2.2.2 = 5) {rec : Int32 → Int32 → xSt → Option (Int32 × xSt)} (n : Nat) (rc : xRC) (k0 : Nat) (a1 : Int32) (a3 : Int32) (S : xSt) (hrc : xRec rc (5 + w)) (z : (Int32 × xSt)) (hrec : ∀ (a2 : Int32) (a3 : Int32) (S : xSt), rec a2 a3 S = some z → xAt Γ tC M 8 (xlv [(0, .ref (M.2.1 k0)), (1, .int a1), (2, .int a2), (3, .int a3)]) [] S) (K : xAt Γ tC M 102 (xlv [(2, .int z.1)]) [] z.2) (h : fX5_readSum_B43_8 n rc rec k0 a1 a3 S = some z) : xAt Γ tC M 43 (xlv [(0, .ref (M.2.1 k0)), (1, .int a1), (3, .int a3)]) [] S := by
  unfold fX5_readSum_B43_8 at h
  refine x_aload_n (pc := 43) o dX5_readSum_43 rfl rfl ?_
  obtain ⟨r4, hr4, h⟩ := xbs h
  refine gX5_9 (pc := 44) o dX5_readSum_44 hr4 ?_
  refine x_bipush (pc := 47) o dX5_readSum_47 bp_43 ?_
  obtain ⟨v5, hv5, h⟩ := xbs h
  refine x_callI (pc := 49) (As := [.int ((43 : Int32))]) (b := r4) (rest := []) o (tX7_isSign _ M _ r4 ((43 : Int32)) S v5 hv5) eX7_isSign mX5_63 clX7 (kX7_isSign hv5) (by omega) rfl rfl (Nat.le_of_ble_eq_true rfl) dX5_readSum_49 ?_
  refine x_if_eq (pc := 52) (tgt := 59) o dX5_readSum_52 (by decide) (fun c16 => ?_) (fun c16 => ?_)
  · have h := xit h c16
    refine x_iconst (pc := 59) o dX5_readSum_59 ic_5 ?_
    refine x_to (l := [(0, .ref (M.2.1 k0)), (1, .int a1), (3, .int a3)]) ⟨rfl, rfl, rfl, trivial⟩ ?_
    exact tX5_readSum_B60_8 o hnL n rc k0 a1 a3 ((5 : Int32)) S hrc z hrec K  h
  · have h := xif h c16
    refine x_iconst (pc := 55) o dX5_readSum_55 ic_4 ?_
    refine x_goto (pc := 56) (tgt := 60) o dX5_readSum_56 (by decide) ?_
    refine x_to (l := [(0, .ref (M.2.1 k0)), (1, .int a1), (3, .int a3)]) ⟨rfl, rfl, rfl, trivial⟩ ?_
    exact tX5_readSum_B60_8 o hnL n rc k0 a1 a3 ((4 : Int32)) S hrc z hrec K  h
def fX5_readSum_L8b (n : Nat) (rc : xRC) (k0 : Nat) (a1 : Int32) (rec : Int32 → Int32 → xSt → Option (Int32 × xSt)) (a2 : Int32) (a3 : Int32) (S : xSt) : Option (Int32 × xSt) :=
  if ((1600 : Int32)) ≤ a3 then
  (some (a2, S))
else
  (if a2 = 0 then
  (some (a2, S))
else
  ((xgF tC 5 0 k0 S).bind fun r2 =>
  (fX7_isSign r2 ((43 : Int32)) S).bind fun v3 =>
  if v3 = 0 then
  ((xgF tC 5 0 k0 S).bind fun r17 =>
  (fX7_isSign r17 ((45 : Int32)) S).bind fun v18 =>
  if v18 = 0 then
  (some (a2, S))
else
  (fX5_readSum_B43_8 n rc rec k0 a1 a3 S))
else
  (fX5_readSum_B43_8 n rc rec k0 a1 a3 S)))
def fX5_readSum_L8 (n : Nat) (rc : xRC) (k0 : Nat) (a1 : Int32) : Nat → Int32 → Int32 → xSt → Option (Int32 × xSt)
  | 0 => fun _ _ _ => none
  | q + 1 => fX5_readSum_L8b n rc k0 a1 (fX5_readSum_L8 n rc k0 a1 q)
set_option maxHeartbeats 4000000 in
theorem tX5_readSum_L8b {Γ : xGm} {M : xMg} {w : Nat} (o : xOk Γ tC M (5 + w + 1) cX5_readSum RX5) (hnL : Γ.2.2.2 = 5) {rec : Int32 → Int32 → xSt → Option (Int32 × xSt)} (n : Nat) (rc : xRC) (k0 : Nat) (a1 : Int32) (a2 : Int32) (a3 : Int32) (S : xSt) (hrc : xRec rc (5 + w)) (z : (Int32 × xSt)) (hrec : ∀ (a2 : Int32) (a3 : Int32) (S : xSt), rec a2 a3 S = some z → xAt Γ tC M 8 (xlv [(0, .ref (M.2.1 k0)), (1, .int a1), (2, .int a2), (3, .int a3)]) [] S) (K : xAt Γ tC M 102 (xlv [(2, .int z.1)]) [] z.2) (h : fX5_readSum_L8b n rc k0 a1 rec a2 a3 S = some z) : xAt Γ tC M 8 (xlv [(0, .ref (M.2.1 k0)), (1, .int a1), (2, .int a2), (3, .int a3)]) [] S := by
  unfold fX5_readSum_L8b at h
  refine x_iload_n (pc := 8) o dX5_readSum_8 rfl rfl ?_
  refine x_sipush (pc := 9) o dX5_readSum_9 sp_1600 ?_
  refine x_icmp_ge (pc := 12) (tgt := 102) o dX5_readSum_12 (by decide) (fun c22 => ?_) (fun c22 => ?_)
  · have h := xit h c22
    refine x_to (l := [(2, .int a2)]) ⟨rfl, trivial⟩ ?_
    cases Option.some.inj h
    exact K
  · have h := xif h c22
    refine x_iload_n (pc := 15) o dX5_readSum_15 rfl rfl ?_
    refine x_if_eq (pc := 16) (tgt := 102) o dX5_readSum_16 (by decide) (fun c21 => ?_) (fun c21 => ?_)
    · have h := xit h c21
      refine x_to (l := [(2, .int a2)]) ⟨rfl, trivial⟩ ?_
      cases Option.some.inj h
      exact K
    · have h := xif h c21
      refine x_aload_n (pc := 19) o dX5_readSum_19 rfl rfl ?_
      obtain ⟨r2, hr2, h⟩ := xbs h
      refine gX5_9 (pc := 20) o dX5_readSum_20 hr2 ?_
      refine x_bipush (pc := 23) o dX5_readSum_23 bp_43 ?_
      obtain ⟨v3, hv3, h⟩ := xbs h
      refine x_callI (pc := 25) (As := [.int ((43 : Int32))]) (b := r2) (rest := []) o (tX7_isSign _ M _ r2 ((43 : Int32)) S v3 hv3) eX7_isSign mX5_63 clX7 (kX7_isSign hv3) (by omega) rfl rfl (Nat.le_of_ble_eq_true rfl) dX5_readSum_25 ?_
      refine x_if_ne (pc := 28) (tgt := 43) o dX5_readSum_28 (by decide) (fun c20 => ?_) (fun c20 => ?_)
      · have h := xif h c20
        refine x_to (l := [(0, .ref (M.2.1 k0)), (1, .int a1), (3, .int a3)]) ⟨rfl, rfl, rfl, trivial⟩ ?_
        exact tX5_readSum_B43_8 o hnL n rc k0 a1 a3 S hrc z hrec K  h
      · have h := xit h c20
        refine x_aload_n (pc := 31) o dX5_readSum_31 rfl rfl ?_
        obtain ⟨r17, hr17, h⟩ := xbs h
        refine gX5_9 (pc := 32) o dX5_readSum_32 hr17 ?_
        refine x_bipush (pc := 35) o dX5_readSum_35 bp_45 ?_
        obtain ⟨v18, hv18, h⟩ := xbs h
        refine x_callI (pc := 37) (As := [.int ((45 : Int32))]) (b := r17) (rest := []) o (tX7_isSign _ M _ r17 ((45 : Int32)) S v18 hv18) eX7_isSign mX5_63 clX7 (kX7_isSign hv18) (by omega) rfl rfl (Nat.le_of_ble_eq_true rfl) dX5_readSum_37 ?_
        refine x_if_eq (pc := 40) (tgt := 102) o dX5_readSum_40 (by decide) (fun c19 => ?_) (fun c19 => ?_)
        · have h := xit h c19
          refine x_to (l := [(2, .int a2)]) ⟨rfl, trivial⟩ ?_
          cases Option.some.inj h
          exact K
        · have h := xif h c19
          refine x_to (l := [(0, .ref (M.2.1 k0)), (1, .int a1), (3, .int a3)]) ⟨rfl, rfl, rfl, trivial⟩ ?_
          exact tX5_readSum_B43_8 o hnL n rc k0 a1 a3 S hrc z hrec K  h
theorem tX5_readSum_L8 {Γ : xGm} {M : xMg} {w : Nat} (o : xOk Γ tC M (5 + w + 1) cX5_readSum RX5) (hnL : Γ.2.2.2 = 5) (n : Nat) (rc : xRC) (k0 : Nat) (a1 : Int32) (hrc : xRec rc (5 + w)) (z : (Int32 × xSt)) (K : xAt Γ tC M 102 (xlv [(2, .int z.1)]) [] z.2) : ∀ (q : Nat) (a2 : Int32) (a3 : Int32) (S : xSt), fX5_readSum_L8 n rc k0 a1 q a2 a3 S = some z → xAt Γ tC M 8 (xlv [(0, .ref (M.2.1 k0)), (1, .int a1), (2, .int a2), (3, .int a3)]) [] S := by
  intro q
  induction q with
  | zero => intro a2 a3 S h; cases h
  | succ q ih => intro a2 a3 S h; exact tX5_readSum_L8b o hnL n rc k0 a1 a2 a3 S hrc z ih K h
def bX5_readSum (n : Nat) (rc : xRC) (k0 : Nat) (a1 : Int32) (S : xSt) : Option (Int32 × xSt) :=
  if tC.1 k0 = 5 then
  ((rc 5 k0 a1 (0 : Int32) S).bind fun q1 =>
  (fX5_readSum_L8 n rc k0 a1 n q1.1 ((0 : Int32)) q1.2).bind fun z23 => if z23.1 = 0 ∨ z23.1 = 1 then (some (z23.1, z23.2)) else none)
  else none
set_option maxHeartbeats 4000000 in
theorem tX5_readSum_r {w : Nat} (n : Nat) (rc : xRC) (k0 : Nat) (a1 : Int32) (hrc : xRec rc (5 + w)) (S : xSt) (z : Int32 × xSt) (h : bX5_readSum n rc k0 a1 S = some z) : tC.1 k0 = 5 ∧ ∀ (l : Launch) (M : xMg) (A : Nat → Prop), xMI l yX5_readSum cX5_readSum 5 (some .boolean) (5 + w + 1) tC M A [.ref (M.2.1 k0), .int a1] S z.1 z.2 := by
  refine ⟨?_, fun l M A => x_metI (plainFor_of_name (by decide)) tC_ok (Nat.le_of_ble_eq_true rfl) (fun Γ hA hnL hl hr o => ?_)⟩
  · unfold bX5_readSum at h; exact (xck h).1
  subst hA; subst hl
  have o : xOk Γ tC M (5 + w + 1) cX5_readSum RX5 := o
  unfold bX5_readSum at h
  obtain ⟨hk0, h⟩ := xck h
  refine x_to (l := [(0, .ref (M.2.1 k0)), (1, .int a1)]) ⟨rfl, rfl, trivial⟩ ?_
  have hn2 : 2 < Γ.2.2.2 := by omega
  have hn3 : 3 < Γ.2.2.2 := by omega
  refine x_aload_n (pc := 0) o dX5_readSum_0 rfl rfl ?_
  refine x_iload_n (pc := 1) o dX5_readSum_1 rfl rfl ?_
  obtain ⟨q1, hq1, h⟩ := xbs h
  refine x_callI (pc := 2) (As := [.int a1]) (b := k0) (rest := []) o ((hrc.2.2.2.2.2.1 k0 a1 (0 : Int32) S q1 hq1).2 _ M _) eX5_readProduct mX5_86 clX5 (hrc.2.2.2.2.2.1 k0 a1 (0 : Int32) S q1 hq1).1 (by omega) rfl rfl (Nat.le_of_ble_eq_true rfl) dX5_readSum_2 ?_
  refine x_istore_n (pc := 5) o dX5_readSum_5 rfl hn2 ?_
  refine x_iconst (pc := 6) o dX5_readSum_6 ic_0 ?_
  refine x_istore_n (pc := 7) o dX5_readSum_7 rfl hn3 ?_
  obtain ⟨z23, hz23, h⟩ := xbs h
  refine x_to (l := [(0, .ref (M.2.1 k0)), (1, .int a1), (2, .int q1.1), (3, .int ((0 : Int32)))]) ⟨rfl, rfl, rfl, rfl, trivial⟩ ?_
  refine tX5_readSum_L8 o hnL n rc k0 a1 hrc z23 ?_ n q1.1 ((0 : Int32)) q1.2 hz23
  refine x_iload_n (pc := 102) o dX5_readSum_102 rfl rfl ?_
  obtain ⟨hz, h⟩ := xck h
  exact x_zreturn (pc := 103) o hr dX5_readSum_103 hz (xr1 h) (xr2 h)
def fX5_readProduct_L8b (n : Nat) (rc : xRC) (k0 : Nat) (a1 : Int32) (rec : Int32 → Int32 → xSt → Option (Int32 × xSt)) (a2 : Int32) (a3 : Int32) (S : xSt) : Option (Int32 × xSt) :=
  if ((1600 : Int32)) ≤ a3 then
  (some (a2, S))
else
  (if a2 = 0 then
  (some (a2, S))
else
  ((fX5_productSign k0 S).bind fun v2 =>
  if v2 = ((-1 : Int32)) then
  (some (a2, S))
else
  ((fX5_productSign k0 S).bind fun v3 =>
  (xgF tC 5 0 k0 S).bind fun r4 =>
  (fX7_advance n r4 S).bind fun S5 =>
  (rc 6 k0 a1 (0 : Int32) S5).bind fun q6 =>
  if q6.1 = 0 then
  ((some (a3 + (1 : Int32))).bind fun v7 =>
  rec ((0 : Int32)) v7 q6.2)
else
  ((xgM tC 5 1 k0 q6.2).bind fun r8 =>
  (fX1_put r8 v3 ((0 : Int32)) q6.2).bind fun q9 =>
  if q9.1 = 0 then
  ((some (a3 + (1 : Int32))).bind fun v10 =>
  rec ((0 : Int32)) v10 q9.2)
else
  ((some (a3 + (1 : Int32))).bind fun v11 =>
  rec ((1 : Int32)) v11 q9.2)))))
def fX5_readProduct_L8 (n : Nat) (rc : xRC) (k0 : Nat) (a1 : Int32) : Nat → Int32 → Int32 → xSt → Option (Int32 × xSt)
  | 0 => fun _ _ _ => none
  | q + 1 => fX5_readProduct_L8b n rc k0 a1 (fX5_readProduct_L8 n rc k0 a1 q)
set_option maxHeartbeats 4000000 in
theorem tX5_readProduct_L8b {Γ : xGm} {M : xMg} {w : Nat} (o : xOk Γ tC M (5 + w + 1) cX5_readProduct RX5) (hnL : Γ.2.2.2 = 5) {rec : Int32 → Int32 → xSt → Option (Int32 × xSt)} (n : Nat) (rc : xRC) (k0 : Nat) (a1 : Int32) (a2 : Int32) (a3 : Int32) (S : xSt) (hrc : xRec rc (5 + w)) (z : (Int32 × xSt)) (hrec : ∀ (a2 : Int32) (a3 : Int32) (S : xSt), rec a2 a3 S = some z → xAt Γ tC M 8 (xlv [(0, .ref (M.2.1 k0)), (1, .int a1), (2, .int a2), (3, .int a3)]) [] S) (K : xAt Γ tC M 73 (xlv [(2, .int z.1)]) [] z.2) (h : fX5_readProduct_L8b n rc k0 a1 rec a2 a3 S = some z) : xAt Γ tC M 8 (xlv [(0, .ref (M.2.1 k0)), (1, .int a1), (2, .int a2), (3, .int a3)]) [] S := by
  have hn2 : 2 < Γ.2.2.2 := by omega
  have hn3 : 3 < Γ.2.2.2 := by omega
  have hn4 : 4 < Γ.2.2.2 := by omega
  unfold fX5_readProduct_L8b at h
  refine x_iload_n (pc := 8) o dX5_readProduct_8 rfl rfl ?_
  refine x_sipush (pc := 9) o dX5_readProduct_9 sp_1600 ?_
  refine x_icmp_ge (pc := 12) (tgt := 73) o dX5_readProduct_12 (by decide) (fun c16 => ?_) (fun c16 => ?_)
  · have h := xit h c16
    refine x_to (l := [(2, .int a2)]) ⟨rfl, trivial⟩ ?_
    cases Option.some.inj h
    exact K
  · have h := xif h c16
    refine x_iload_n (pc := 15) o dX5_readProduct_15 rfl rfl ?_
    refine x_if_eq (pc := 16) (tgt := 73) o dX5_readProduct_16 (by decide) (fun c15 => ?_) (fun c15 => ?_)
    · have h := xit h c15
      refine x_to (l := [(2, .int a2)]) ⟨rfl, trivial⟩ ?_
      cases Option.some.inj h
      exact K
    · have h := xif h c15
      refine x_aload_n (pc := 19) o dX5_readProduct_19 rfl rfl ?_
      obtain ⟨v2, hv2, h⟩ := xbs h
      refine x_callI (pc := 20) (As := []) (b := k0) (rest := []) o (tX5_productSign _ M _ k0 S v2 hv2) eX5_productSign mX5_92 clX5 (kX5_productSign hv2) (by omega) rfl rfl (Nat.le_of_ble_eq_true rfl) dX5_readProduct_20 ?_
      refine x_iconst (pc := 23) o dX5_readProduct_23 ic_m1 ?_
      refine x_icmp_eq (pc := 24) (tgt := 73) o dX5_readProduct_24 (by decide) (fun c14 => ?_) (fun c14 => ?_)
      · have h := xit h c14
        refine x_to (l := [(2, .int a2)]) ⟨rfl, trivial⟩ ?_
        cases Option.some.inj h
        exact K
      · have h := xif h c14
        refine x_aload_n (pc := 27) o dX5_readProduct_27 rfl rfl ?_
        obtain ⟨v3, hv3, h⟩ := xbs h
        refine x_callI (pc := 28) (As := []) (b := k0) (rest := []) o (tX5_productSign _ M _ k0 S v3 hv3) eX5_productSign mX5_92 clX5 (kX5_productSign hv3) (by omega) rfl rfl (Nat.le_of_ble_eq_true rfl) dX5_readProduct_28 ?_
        refine x_istore (pc := 31) o dX5_readProduct_31 hn4 ?_
        refine x_aload_n (pc := 33) o dX5_readProduct_33 rfl rfl ?_
        obtain ⟨r4, hr4, h⟩ := xbs h
        refine gX5_9 (pc := 34) o dX5_readProduct_34 hr4 ?_
        obtain ⟨S5, hS5, h⟩ := xbs h
        refine x_callV (pc := 37) (As := []) (b := r4) (rest := []) o (tX7_advance _ M _ n r4 S S5 hS5) eX7_advance mX5_50 clX7 (kX7_advance hS5) (by omega) rfl rfl (Nat.le_of_ble_eq_true rfl) dX5_readProduct_37 ?_
        refine x_aload_n (pc := 40) o dX5_readProduct_40 rfl rfl ?_
        refine x_iload_n (pc := 41) o dX5_readProduct_41 rfl rfl ?_
        obtain ⟨q6, hq6, h⟩ := xbs h
        refine x_callI (pc := 42) (As := [.int a1]) (b := k0) (rest := []) o ((hrc.2.2.2.2.2.2.1 k0 a1 (0 : Int32) S5 q6 hq6).2 _ M _) eX5_readPart mX5_89 clX5 (hrc.2.2.2.2.2.2.1 k0 a1 (0 : Int32) S5 q6 hq6).1 (by omega) rfl rfl (Nat.le_of_ble_eq_true rfl) dX5_readProduct_42 ?_
        refine x_if_eq (pc := 45) (tgt := 65) o dX5_readProduct_45 (by decide) (fun c13 => ?_) (fun c13 => ?_)
        · have h := xit h c13
          refine x_iconst (pc := 65) o dX5_readProduct_65 ic_0 ?_
          refine x_istore_n (pc := 66) o dX5_readProduct_66 rfl hn2 ?_
          obtain ⟨v7, hv7, h⟩ := xbs h
          refine x_iincE (pc := 67) o dX5_readProduct_67 rfl ic_1 hn3 hv7 ?_
          refine x_goto (pc := 70) (tgt := 8) o dX5_readProduct_70 (by decide) ?_
          refine x_to (l := [(0, .ref (M.2.1 k0)), (1, .int a1), (2, .int ((0 : Int32))), (3, .int v7)]) ⟨rfl, rfl, rfl, rfl, trivial⟩ ?_
          exact hrec ((0 : Int32)) v7 q6.2 h
        · have h := xif h c13
          refine x_aload_n (pc := 48) o dX5_readProduct_48 rfl rfl ?_
          obtain ⟨r8, hr8, h⟩ := xbs h
          refine gX5_15 (pc := 49) o dX5_readProduct_49 hr8 ?_
          refine x_iload (pc := 52) o dX5_readProduct_52 rfl ?_
          refine x_iconst (pc := 54) o dX5_readProduct_54 ic_0 ?_
          obtain ⟨q9, hq9, h⟩ := xbs h
          refine x_callI (pc := 55) (As := [.int v3, .int ((0 : Int32))]) (b := r8) (rest := []) o (tX1_put _ M _ r8 v3 ((0 : Int32)) q6.2 q9 hq9) eX1_put mX5_53 clX1 (kX1_put hq9) (by omega) rfl rfl (Nat.le_of_ble_eq_true rfl) dX5_readProduct_55 ?_
          refine x_if_eq (pc := 58) (tgt := 65) o dX5_readProduct_58 (by decide) (fun c12 => ?_) (fun c12 => ?_)
          · have h := xit h c12
            refine x_iconst (pc := 65) o dX5_readProduct_65 ic_0 ?_
            refine x_istore_n (pc := 66) o dX5_readProduct_66 rfl hn2 ?_
            obtain ⟨v10, hv10, h⟩ := xbs h
            refine x_iincE (pc := 67) o dX5_readProduct_67 rfl ic_1 hn3 hv10 ?_
            refine x_goto (pc := 70) (tgt := 8) o dX5_readProduct_70 (by decide) ?_
            refine x_to (l := [(0, .ref (M.2.1 k0)), (1, .int a1), (2, .int ((0 : Int32))), (3, .int v10)]) ⟨rfl, rfl, rfl, rfl, trivial⟩ ?_
            exact hrec ((0 : Int32)) v10 q9.2 h
          · have h := xif h c12
            refine x_iconst (pc := 61) o dX5_readProduct_61 ic_1 ?_
            refine x_goto (pc := 62) (tgt := 66) o dX5_readProduct_62 (by decide) ?_
            refine x_istore_n (pc := 66) o dX5_readProduct_66 rfl hn2 ?_
            obtain ⟨v11, hv11, h⟩ := xbs h
            refine x_iincE (pc := 67) o dX5_readProduct_67 rfl ic_1 hn3 hv11 ?_
            refine x_goto (pc := 70) (tgt := 8) o dX5_readProduct_70 (by decide) ?_
            refine x_to (l := [(0, .ref (M.2.1 k0)), (1, .int a1), (2, .int ((1 : Int32))), (3, .int v11)]) ⟨rfl, rfl, rfl, rfl, trivial⟩ ?_
            exact hrec ((1 : Int32)) v11 q9.2 h
theorem tX5_readProduct_L8 {Γ : xGm} {M : xMg} {w : Nat} (o : xOk Γ tC M (5 + w + 1) cX5_readProduct RX5) (hnL : Γ.2.2.2 = 5) (n : Nat) (rc : xRC) (k0 : Nat) (a1 : Int32) (hrc : xRec rc (5 + w)) (z : (Int32 × xSt)) (K : xAt Γ tC M 73 (xlv [(2, .int z.1)]) [] z.2) : ∀ (q : Nat) (a2 : Int32) (a3 : Int32) (S : xSt), fX5_readProduct_L8 n rc k0 a1 q a2 a3 S = some z → xAt Γ tC M 8 (xlv [(0, .ref (M.2.1 k0)), (1, .int a1), (2, .int a2), (3, .int a3)]) [] S := by
  intro q
  induction q with
  | zero => intro a2 a3 S h; cases h
  | succ q ih => intro a2 a3 S h; exact tX5_readProduct_L8b o hnL n rc k0 a1 a2 a3 S hrc z ih K h
def bX5_readProduct (n : Nat) (rc : xRC) (k0 : Nat) (a1 : Int32) (S : xSt) : Option (Int32 × xSt) :=
  if tC.1 k0 = 5 then
  ((rc 6 k0 a1 (0 : Int32) S).bind fun q1 =>
  (fX5_readProduct_L8 n rc k0 a1 n q1.1 ((0 : Int32)) q1.2).bind fun z17 => if z17.1 = 0 ∨ z17.1 = 1 then (some (z17.1, z17.2)) else none)
  else none
set_option maxHeartbeats 4000000 in
theorem tX5_readProduct_r {w : Nat} (n : Nat) (rc : xRC) (k0 : Nat) (a1 : Int32) (hrc : xRec rc (5 + w)) (S : xSt) (z : Int32 × xSt) (h : bX5_readProduct n rc k0 a1 S = some z) : tC.1 k0 = 5 ∧ ∀ (l : Launch) (M : xMg) (A : Nat → Prop), xMI l yX5_readProduct cX5_readProduct 5 (some .boolean) (5 + w + 1) tC M A [.ref (M.2.1 k0), .int a1] S z.1 z.2 := by
  refine ⟨?_, fun l M A => x_metI (plainFor_of_name (by decide)) tC_ok (Nat.le_of_ble_eq_true rfl) (fun Γ hA hnL hl hr o => ?_)⟩
  · unfold bX5_readProduct at h; exact (xck h).1
  subst hA; subst hl
  have o : xOk Γ tC M (5 + w + 1) cX5_readProduct RX5 := o
  unfold bX5_readProduct at h
  obtain ⟨hk0, h⟩ := xck h
  refine x_to (l := [(0, .ref (M.2.1 k0)), (1, .int a1)]) ⟨rfl, rfl, trivial⟩ ?_
  have hn2 : 2 < Γ.2.2.2 := by omega
  have hn3 : 3 < Γ.2.2.2 := by omega
  refine x_aload_n (pc := 0) o dX5_readProduct_0 rfl rfl ?_
  refine x_iload_n (pc := 1) o dX5_readProduct_1 rfl rfl ?_
  obtain ⟨q1, hq1, h⟩ := xbs h
  refine x_callI (pc := 2) (As := [.int a1]) (b := k0) (rest := []) o ((hrc.2.2.2.2.2.2.1 k0 a1 (0 : Int32) S q1 hq1).2 _ M _) eX5_readPart mX5_89 clX5 (hrc.2.2.2.2.2.2.1 k0 a1 (0 : Int32) S q1 hq1).1 (by omega) rfl rfl (Nat.le_of_ble_eq_true rfl) dX5_readProduct_2 ?_
  refine x_istore_n (pc := 5) o dX5_readProduct_5 rfl hn2 ?_
  refine x_iconst (pc := 6) o dX5_readProduct_6 ic_0 ?_
  refine x_istore_n (pc := 7) o dX5_readProduct_7 rfl hn3 ?_
  obtain ⟨z17, hz17, h⟩ := xbs h
  refine x_to (l := [(0, .ref (M.2.1 k0)), (1, .int a1), (2, .int q1.1), (3, .int ((0 : Int32)))]) ⟨rfl, rfl, rfl, rfl, trivial⟩ ?_
  refine tX5_readProduct_L8 o hnL n rc k0 a1 hrc z17 ?_ n q1.1 ((0 : Int32)) q1.2 hz17
  refine x_iload_n (pc := 73) o dX5_readProduct_73 rfl rfl ?_
  obtain ⟨hz, h⟩ := xck h
  exact x_zreturn (pc := 74) o hr dX5_readProduct_74 hz (xr1 h) (xr2 h)
def bX5_readPart (n : Nat) (rc : xRC) (k0 : Nat) (a1 : Int32) (S : xSt) : Option (Int32 × xSt) :=
  if tC.1 k0 = 5 then
  ((xgF tC 5 0 k0 S).bind fun r1 =>
  (xgI tC 7 4 r1 S).bind fun v2 =>
  if v2 = ((2 : Int32)) then
  ((xgM tC 5 1 k0 S).bind fun r33 =>
  (xgF tC 5 0 k0 S).bind fun r34 =>
  (xgI tC 7 7 r34 S).bind fun v35 =>
  (fX1_put r33 ((0 : Int32)) v35 S).bind fun q36 =>
  (xgF tC 5 0 k0 q36.2).bind fun r37 =>
  (fX7_advance n r37 q36.2).bind fun S38 =>
  some ((1 : Int32), S38))
else
  ((xgF tC 5 0 k0 S).bind fun r3 =>
  (fX7_isSign r3 ((40 : Int32)) S).bind fun v4 =>
  if v4 = 0 then
  ((xgF tC 5 0 k0 S).bind fun r5 =>
  (fX7_isWord r5 ((30 : Int32)) S).bind fun v6 =>
  if v6 = 0 then
  ((xgF tC 5 0 k0 S).bind fun r7 =>
  (fX7_isWord r7 ((31 : Int32)) S).bind fun v8 =>
  if v8 = 0 then
  ((xgF tC 5 0 k0 S).bind fun r9 =>
  (fX7_isWord r9 ((25 : Int32)) S).bind fun v10 =>
  if v10 = 0 then
  ((fX5_factOfWord k0 S).bind fun v11 =>
  if v11 = ((-1 : Int32)) then
  ((xgF tC 5 0 k0 S).bind fun r16 =>
  (fX7_failHere r16 S).bind fun q17 =>
  if q17.1 = 0 ∨ q17.1 = 1 then (some (q17.1, q17.2)) else none)
else
  ((xgF tC 5 0 k0 S).bind fun r12 =>
  (fX7_advance n r12 S).bind fun S13 =>
  (xgM tC 5 1 k0 S13).bind fun r14 =>
  (fX1_put r14 ((1 : Int32)) v11 S13).bind fun q15 =>
  if q15.1 = 0 ∨ q15.1 = 1 then (some (q15.1, q15.2)) else none))
else
  ((rc 8 k0 a1 (0 : Int32) S).bind fun q19 =>
  if q19.1 = 0 ∨ q19.1 = 1 then (some (q19.1, q19.2)) else none))
else
  ((rc 7 k0 a1 ((10 : Int32)) S).bind fun q21 =>
  if q21.1 = 0 ∨ q21.1 = 1 then (some (q21.1, q21.2)) else none))
else
  ((rc 7 k0 a1 ((9 : Int32)) S).bind fun q23 =>
  if q23.1 = 0 ∨ q23.1 = 1 then (some (q23.1, q23.2)) else none))
else
  ((fX5_opens n k0 a1 S).bind fun q25 =>
  if q25.1 = 0 then
  (some ((0 : Int32), q25.2))
else
  ((rc 4 k0 (a1 + ((1 : Int32))) (0 : Int32) q25.2).bind fun q26 =>
  if q26.1 = 0 then
  (some ((0 : Int32), q26.2))
else
  ((xgF tC 5 0 k0 q26.2).bind fun r27 =>
  (fX7_takeSign n r27 ((41 : Int32)) q26.2).bind fun q28 =>
  if q28.1 = 0 then
  (some ((0 : Int32), q28.2))
else
  (some ((1 : Int32), q28.2)))))))
  else none
set_option maxHeartbeats 4000000 in
theorem tX5_readPart_r {w : Nat} (n : Nat) (rc : xRC) (k0 : Nat) (a1 : Int32) (hrc : xRec rc (5 + w)) (S : xSt) (z : Int32 × xSt) (h : bX5_readPart n rc k0 a1 S = some z) : tC.1 k0 = 5 ∧ ∀ (l : Launch) (M : xMg) (A : Nat → Prop), xMI l yX5_readPart cX5_readPart 3 (some .boolean) (5 + w + 1) tC M A [.ref (M.2.1 k0), .int a1] S z.1 z.2 := by
  refine ⟨?_, fun l M A => x_metI (plainFor_of_name (by decide)) tC_ok (Nat.le_of_ble_eq_true rfl) (fun Γ hA hnL hl hr o => ?_)⟩
  · unfold bX5_readPart at h; exact (xck h).1
  subst hA; subst hl
  have o : xOk Γ tC M (5 + w + 1) cX5_readPart RX5 := o
  unfold bX5_readPart at h
  obtain ⟨hk0, h⟩ := xck h
  refine x_to (l := [(0, .ref (M.2.1 k0)), (1, .int a1)]) ⟨rfl, rfl, trivial⟩ ?_
  have hn2 : 2 < Γ.2.2.2 := by omega
  refine x_aload_n (pc := 0) o dX5_readPart_0 rfl rfl ?_
  obtain ⟨r1, hr1, h⟩ := xbs h
  refine gX5_9 (pc := 1) o dX5_readPart_1 hr1 ?_
  obtain ⟨v2, hv2, h⟩ := xbs h
  refine gX5_95 (pc := 4) o dX5_readPart_4 hv2 ?_
  refine x_iconst (pc := 7) o dX5_readPart_7 ic_2 ?_
  refine x_icmp_ne (pc := 8) (tgt := 36) o dX5_readPart_8 (by decide) (fun c39 => ?_) (fun c39 => ?_)
  · have h := xif h c39
    refine x_aload_n (pc := 36) o dX5_readPart_36 rfl rfl ?_
    obtain ⟨r3, hr3, h⟩ := xbs h
    refine gX5_9 (pc := 37) o dX5_readPart_37 hr3 ?_
    refine x_bipush (pc := 40) o dX5_readPart_40 bp_40 ?_
    obtain ⟨v4, hv4, h⟩ := xbs h
    refine x_callI (pc := 42) (As := [.int ((40 : Int32))]) (b := r3) (rest := []) o (tX7_isSign _ M _ r3 ((40 : Int32)) S v4 hv4) eX7_isSign mX5_63 clX7 (kX7_isSign hv4) (by omega) rfl rfl (Nat.le_of_ble_eq_true rfl) dX5_readPart_42 ?_
    refine x_if_eq (pc := 45) (tgt := 84) o dX5_readPart_45 (by decide) (fun c32 => ?_) (fun c32 => ?_)
    · have h := xit h c32
      refine x_aload_n (pc := 84) o dX5_readPart_84 rfl rfl ?_
      obtain ⟨r5, hr5, h⟩ := xbs h
      refine gX5_9 (pc := 85) o dX5_readPart_85 hr5 ?_
      refine x_bipush (pc := 88) o dX5_readPart_88 bp_30 ?_
      obtain ⟨v6, hv6, h⟩ := xbs h
      refine x_callI (pc := 90) (As := [.int ((30 : Int32))]) (b := r5) (rest := []) o (tX7_isWord _ M _ r5 ((30 : Int32)) S v6 hv6) eX7_isWord mX5_47 clX7 (kX7_isWord hv6) (by omega) rfl rfl (Nat.le_of_ble_eq_true rfl) dX5_readPart_90 ?_
      refine x_if_eq (pc := 93) (tgt := 104) o dX5_readPart_93 (by decide) (fun c24 => ?_) (fun c24 => ?_)
      · have h := xit h c24
        refine x_aload_n (pc := 104) o dX5_readPart_104 rfl rfl ?_
        obtain ⟨r7, hr7, h⟩ := xbs h
        refine gX5_9 (pc := 105) o dX5_readPart_105 hr7 ?_
        refine x_bipush (pc := 108) o dX5_readPart_108 bp_31 ?_
        obtain ⟨v8, hv8, h⟩ := xbs h
        refine x_callI (pc := 110) (As := [.int ((31 : Int32))]) (b := r7) (rest := []) o (tX7_isWord _ M _ r7 ((31 : Int32)) S v8 hv8) eX7_isWord mX5_47 clX7 (kX7_isWord hv8) (by omega) rfl rfl (Nat.le_of_ble_eq_true rfl) dX5_readPart_110 ?_
        refine x_if_eq (pc := 113) (tgt := 124) o dX5_readPart_113 (by decide) (fun c22 => ?_) (fun c22 => ?_)
        · have h := xit h c22
          refine x_aload_n (pc := 124) o dX5_readPart_124 rfl rfl ?_
          obtain ⟨r9, hr9, h⟩ := xbs h
          refine gX5_9 (pc := 125) o dX5_readPart_125 hr9 ?_
          refine x_bipush (pc := 128) o dX5_readPart_128 bp_25 ?_
          obtain ⟨v10, hv10, h⟩ := xbs h
          refine x_callI (pc := 130) (As := [.int ((25 : Int32))]) (b := r9) (rest := []) o (tX7_isWord _ M _ r9 ((25 : Int32)) S v10 hv10) eX7_isWord mX5_47 clX7 (kX7_isWord hv10) (by omega) rfl rfl (Nat.le_of_ble_eq_true rfl) dX5_readPart_130 ?_
          refine x_if_eq (pc := 133) (tgt := 142) o dX5_readPart_133 (by decide) (fun c20 => ?_) (fun c20 => ?_)
          · have h := xit h c20
            refine x_aload_n (pc := 142) o dX5_readPart_142 rfl rfl ?_
            obtain ⟨v11, hv11, h⟩ := xbs h
            refine x_callI (pc := 143) (As := []) (b := k0) (rest := []) o (tX5_factOfWord _ M _ k0 S v11 hv11) eX5_factOfWord mX5_107 clX5 (kX5_factOfWord hv11) (by omega) rfl rfl (Nat.le_of_ble_eq_true rfl) dX5_readPart_143 ?_
            refine x_istore_n (pc := 146) o dX5_readPart_146 rfl hn2 ?_
            refine x_iload_n (pc := 147) o dX5_readPart_147 rfl rfl ?_
            refine x_iconst (pc := 148) o dX5_readPart_148 ic_m1 ?_
            refine x_icmp_ne (pc := 149) (tgt := 160) o dX5_readPart_149 (by decide) (fun c18 => ?_) (fun c18 => ?_)
            · have h := xif h c18
              refine x_aload_n (pc := 160) o dX5_readPart_160 rfl rfl ?_
              obtain ⟨r12, hr12, h⟩ := xbs h
              refine gX5_9 (pc := 161) o dX5_readPart_161 hr12 ?_
              obtain ⟨S13, hS13, h⟩ := xbs h
              refine x_callV (pc := 164) (As := []) (b := r12) (rest := []) o (tX7_advance _ M _ n r12 S S13 hS13) eX7_advance mX5_50 clX7 (kX7_advance hS13) (by omega) rfl rfl (Nat.le_of_ble_eq_true rfl) dX5_readPart_164 ?_
              refine x_aload_n (pc := 167) o dX5_readPart_167 rfl rfl ?_
              obtain ⟨r14, hr14, h⟩ := xbs h
              refine gX5_15 (pc := 168) o dX5_readPart_168 hr14 ?_
              refine x_iconst (pc := 171) o dX5_readPart_171 ic_1 ?_
              refine x_iload_n (pc := 172) o dX5_readPart_172 rfl rfl ?_
              obtain ⟨q15, hq15, h⟩ := xbs h
              refine x_callI (pc := 173) (As := [.int ((1 : Int32)), .int v11]) (b := r14) (rest := []) o (tX1_put _ M _ r14 ((1 : Int32)) v11 S13 q15 hq15) eX1_put mX5_53 clX1 (kX1_put hq15) (by omega) rfl rfl (Nat.le_of_ble_eq_true rfl) dX5_readPart_173 ?_
              obtain ⟨hz, h⟩ := xck h
              exact x_zreturn (pc := 176) o hr dX5_readPart_176 hz (xr1 h) (xr2 h)
            · have h := xit h c18
              refine x_aload_n (pc := 152) o dX5_readPart_152 rfl rfl ?_
              obtain ⟨r16, hr16, h⟩ := xbs h
              refine gX5_9 (pc := 153) o dX5_readPart_153 hr16 ?_
              obtain ⟨q17, hq17, h⟩ := xbs h
              refine x_callI (pc := 156) (As := []) (b := r16) (rest := []) o (tX7_failHere _ M _ r16 S q17 hq17) eX7_failHere mX5_82 clX7 (kX7_failHere hq17) (by omega) rfl rfl (Nat.le_of_ble_eq_true rfl) dX5_readPart_156 ?_
              obtain ⟨hz, h⟩ := xck h
              exact x_zreturn (pc := 159) o hr dX5_readPart_159 hz (xr1 h) (xr2 h)
          · have h := xif h c20
            refine x_aload_n (pc := 136) o dX5_readPart_136 rfl rfl ?_
            refine x_iload_n (pc := 137) o dX5_readPart_137 rfl rfl ?_
            obtain ⟨q19, hq19, h⟩ := xbs h
            refine x_callI (pc := 138) (As := [.int a1]) (b := k0) (rest := []) o ((hrc.2.2.2.2.2.2.2.2 k0 a1 (0 : Int32) S q19 hq19).2 _ M _) eX5_readIf mX5_104 clX5 (hrc.2.2.2.2.2.2.2.2 k0 a1 (0 : Int32) S q19 hq19).1 (by omega) rfl rfl (Nat.le_of_ble_eq_true rfl) dX5_readPart_138 ?_
            obtain ⟨hz, h⟩ := xck h
            exact x_zreturn (pc := 141) o hr dX5_readPart_141 hz (xr1 h) (xr2 h)
        · have h := xif h c22
          refine x_aload_n (pc := 116) o dX5_readPart_116 rfl rfl ?_
          refine x_iload_n (pc := 117) o dX5_readPart_117 rfl rfl ?_
          refine x_bipush (pc := 118) o dX5_readPart_118 bp_10 ?_
          obtain ⟨q21, hq21, h⟩ := xbs h
          refine x_callI (pc := 120) (As := [.int a1, .int ((10 : Int32))]) (b := k0) (rest := []) o ((hrc.2.2.2.2.2.2.2.1 k0 a1 ((10 : Int32)) S q21 hq21).2 _ M _) eX5_readTwo mX5_101 clX5 (hrc.2.2.2.2.2.2.2.1 k0 a1 ((10 : Int32)) S q21 hq21).1 (by omega) rfl rfl (Nat.le_of_ble_eq_true rfl) dX5_readPart_120 ?_
          obtain ⟨hz, h⟩ := xck h
          exact x_zreturn (pc := 123) o hr dX5_readPart_123 hz (xr1 h) (xr2 h)
      · have h := xif h c24
        refine x_aload_n (pc := 96) o dX5_readPart_96 rfl rfl ?_
        refine x_iload_n (pc := 97) o dX5_readPart_97 rfl rfl ?_
        refine x_bipush (pc := 98) o dX5_readPart_98 bp_9 ?_
        obtain ⟨q23, hq23, h⟩ := xbs h
        refine x_callI (pc := 100) (As := [.int a1, .int ((9 : Int32))]) (b := k0) (rest := []) o ((hrc.2.2.2.2.2.2.2.1 k0 a1 ((9 : Int32)) S q23 hq23).2 _ M _) eX5_readTwo mX5_101 clX5 (hrc.2.2.2.2.2.2.2.1 k0 a1 ((9 : Int32)) S q23 hq23).1 (by omega) rfl rfl (Nat.le_of_ble_eq_true rfl) dX5_readPart_100 ?_
        obtain ⟨hz, h⟩ := xck h
        exact x_zreturn (pc := 103) o hr dX5_readPart_103 hz (xr1 h) (xr2 h)
    · have h := xif h c32
      refine x_aload_n (pc := 48) o dX5_readPart_48 rfl rfl ?_
      refine x_iload_n (pc := 49) o dX5_readPart_49 rfl rfl ?_
      obtain ⟨q25, hq25, h⟩ := xbs h
      refine x_callI (pc := 50) (As := [.int a1]) (b := k0) (rest := []) o (tX5_opens _ M _ n k0 a1 S q25 hq25) eX5_opens mX5_60 clX5 (kX5_opens hq25) (by omega) rfl rfl (Nat.le_of_ble_eq_true rfl) dX5_readPart_50 ?_
      refine x_if_eq (pc := 53) (tgt := 82) o dX5_readPart_53 (by decide) (fun c31 => ?_) (fun c31 => ?_)
      · have h := xit h c31
        refine x_iconst (pc := 82) o dX5_readPart_82 ic_0 ?_
        exact x_zreturn (pc := 83) o hr dX5_readPart_83 (by decide) (xr1 h) (xr2 h)
      · have h := xif h c31
        refine x_aload_n (pc := 56) o dX5_readPart_56 rfl rfl ?_
        refine x_iload_n (pc := 57) o dX5_readPart_57 rfl rfl ?_
        refine x_iconst (pc := 58) o dX5_readPart_58 ic_1 ?_
        refine x_iadd (pc := 59) o dX5_readPart_59 ?_
        obtain ⟨q26, hq26, h⟩ := xbs h
        refine x_callI (pc := 60) (As := [.int (a1 + ((1 : Int32)))]) (b := k0) (rest := []) o ((hrc.2.2.2.2.1 k0 (a1 + ((1 : Int32))) (0 : Int32) q25.2 q26 hq26).2 _ M _) eX5_readSum mX5_72 clX5 (hrc.2.2.2.2.1 k0 (a1 + ((1 : Int32))) (0 : Int32) q25.2 q26 hq26).1 (by omega) rfl rfl (Nat.le_of_ble_eq_true rfl) dX5_readPart_60 ?_
        refine x_if_eq (pc := 63) (tgt := 82) o dX5_readPart_63 (by decide) (fun c30 => ?_) (fun c30 => ?_)
        · have h := xit h c30
          refine x_iconst (pc := 82) o dX5_readPart_82 ic_0 ?_
          exact x_zreturn (pc := 83) o hr dX5_readPart_83 (by decide) (xr1 h) (xr2 h)
        · have h := xif h c30
          refine x_aload_n (pc := 66) o dX5_readPart_66 rfl rfl ?_
          obtain ⟨r27, hr27, h⟩ := xbs h
          refine gX5_9 (pc := 67) o dX5_readPart_67 hr27 ?_
          refine x_bipush (pc := 70) o dX5_readPart_70 bp_41 ?_
          obtain ⟨q28, hq28, h⟩ := xbs h
          refine x_callI (pc := 72) (As := [.int ((41 : Int32))]) (b := r27) (rest := []) o (tX7_takeSign _ M _ n r27 ((41 : Int32)) q26.2 q28 hq28) eX7_takeSign mX5_69 clX7 (kX7_takeSign hq28) (by omega) rfl rfl (Nat.le_of_ble_eq_true rfl) dX5_readPart_72 ?_
          refine x_if_eq (pc := 75) (tgt := 82) o dX5_readPart_75 (by decide) (fun c29 => ?_) (fun c29 => ?_)
          · have h := xit h c29
            refine x_iconst (pc := 82) o dX5_readPart_82 ic_0 ?_
            exact x_zreturn (pc := 83) o hr dX5_readPart_83 (by decide) (xr1 h) (xr2 h)
          · have h := xif h c29
            refine x_iconst (pc := 78) o dX5_readPart_78 ic_1 ?_
            refine x_goto (pc := 79) (tgt := 83) o dX5_readPart_79 (by decide) ?_
            exact x_zreturn (pc := 83) o hr dX5_readPart_83 (by decide) (xr1 h) (xr2 h)
  · have h := xit h c39
    refine x_aload_n (pc := 11) o dX5_readPart_11 rfl rfl ?_
    obtain ⟨r33, hr33, h⟩ := xbs h
    refine gX5_15 (pc := 12) o dX5_readPart_12 hr33 ?_
    refine x_iconst (pc := 15) o dX5_readPart_15 ic_0 ?_
    refine x_aload_n (pc := 16) o dX5_readPart_16 rfl rfl ?_
    obtain ⟨r34, hr34, h⟩ := xbs h
    refine gX5_9 (pc := 17) o dX5_readPart_17 hr34 ?_
    obtain ⟨v35, hv35, h⟩ := xbs h
    refine gX5_98 (pc := 20) o dX5_readPart_20 hv35 ?_
    obtain ⟨q36, hq36, h⟩ := xbs h
    refine x_callI (pc := 23) (As := [.int ((0 : Int32)), .int v35]) (b := r33) (rest := []) o (tX1_put _ M _ r33 ((0 : Int32)) v35 S q36 hq36) eX1_put mX5_53 clX1 (kX1_put hq36) (by omega) rfl rfl (Nat.le_of_ble_eq_true rfl) dX5_readPart_23 ?_
    refine x_pop (pc := 26) o dX5_readPart_26 rfl ?_
    refine x_aload_n (pc := 27) o dX5_readPart_27 rfl rfl ?_
    obtain ⟨r37, hr37, h⟩ := xbs h
    refine gX5_9 (pc := 28) o dX5_readPart_28 hr37 ?_
    obtain ⟨S38, hS38, h⟩ := xbs h
    refine x_callV (pc := 31) (As := []) (b := r37) (rest := []) o (tX7_advance _ M _ n r37 q36.2 S38 hS38) eX7_advance mX5_50 clX7 (kX7_advance hS38) (by omega) rfl rfl (Nat.le_of_ble_eq_true rfl) dX5_readPart_31 ?_
    refine x_iconst (pc := 34) o dX5_readPart_34 ic_1 ?_
    exact x_zreturn (pc := 35) o hr dX5_readPart_35 (by decide) (xr1 h) (xr2 h)
def bX5_readTwo (n : Nat) (rc : xRC) (k0 : Nat) (a1 : Int32) (a2 : Int32) (S : xSt) : Option (Int32 × xSt) :=
  if tC.1 k0 = 5 then
  ((xgF tC 5 0 k0 S).bind fun r1 =>
  (fX7_advance n r1 S).bind fun S2 =>
  (xgF tC 5 0 k0 S2).bind fun r3 =>
  (fX7_isSign r3 ((40 : Int32)) S2).bind fun v4 =>
  if v4 = 0 then
  ((xgF tC 5 0 k0 S2).bind fun r20 =>
  (fX7_failHere r20 S2).bind fun q21 =>
  if q21.1 = 0 ∨ q21.1 = 1 then (some (q21.1, q21.2)) else none)
else
  ((fX5_opens n k0 a1 S2).bind fun q5 =>
  if q5.1 = 0 then
  (some ((0 : Int32), q5.2))
else
  ((rc 4 k0 (a1 + ((1 : Int32))) (0 : Int32) q5.2).bind fun q6 =>
  if q6.1 = 0 then
  (some ((0 : Int32), q6.2))
else
  ((xgF tC 5 0 k0 q6.2).bind fun r7 =>
  (fX7_takeSign n r7 ((44 : Int32)) q6.2).bind fun q8 =>
  if q8.1 = 0 then
  (some ((0 : Int32), q8.2))
else
  ((rc 4 k0 (a1 + ((1 : Int32))) (0 : Int32) q8.2).bind fun q9 =>
  if q9.1 = 0 then
  (some ((0 : Int32), q9.2))
else
  ((xgF tC 5 0 k0 q9.2).bind fun r10 =>
  (fX7_takeSign n r10 ((41 : Int32)) q9.2).bind fun q11 =>
  if q11.1 = 0 then
  (some ((0 : Int32), q11.2))
else
  ((xgM tC 5 1 k0 q11.2).bind fun r12 =>
  (fX1_put r12 a2 ((0 : Int32)) q11.2).bind fun q13 =>
  if q13.1 = 0 then
  (some ((0 : Int32), q13.2))
else
  (some ((1 : Int32), q13.2)))))))))
  else none
set_option maxHeartbeats 4000000 in
theorem tX5_readTwo_r {w : Nat} (n : Nat) (rc : xRC) (k0 : Nat) (a1 : Int32) (a2 : Int32) (hrc : xRec rc (5 + w)) (S : xSt) (z : Int32 × xSt) (h : bX5_readTwo n rc k0 a1 a2 S = some z) : tC.1 k0 = 5 ∧ ∀ (l : Launch) (M : xMg) (A : Nat → Prop), xMI l yX5_readTwo cX5_readTwo 3 (some .boolean) (5 + w + 1) tC M A [.ref (M.2.1 k0), .int a1, .int a2] S z.1 z.2 := by
  refine ⟨?_, fun l M A => x_metI (plainFor_of_name (by decide)) tC_ok (Nat.le_of_ble_eq_true rfl) (fun Γ hA hnL hl hr o => ?_)⟩
  · unfold bX5_readTwo at h; exact (xck h).1
  subst hA; subst hl
  have o : xOk Γ tC M (5 + w + 1) cX5_readTwo RX5 := o
  unfold bX5_readTwo at h
  obtain ⟨hk0, h⟩ := xck h
  refine x_to (l := [(0, .ref (M.2.1 k0)), (1, .int a1), (2, .int a2)]) ⟨rfl, rfl, rfl, trivial⟩ ?_
  refine x_aload_n (pc := 0) o dX5_readTwo_0 rfl rfl ?_
  obtain ⟨r1, hr1, h⟩ := xbs h
  refine gX5_9 (pc := 1) o dX5_readTwo_1 hr1 ?_
  obtain ⟨S2, hS2, h⟩ := xbs h
  refine x_callV (pc := 4) (As := []) (b := r1) (rest := []) o (tX7_advance _ M _ n r1 S S2 hS2) eX7_advance mX5_50 clX7 (kX7_advance hS2) (by omega) rfl rfl (Nat.le_of_ble_eq_true rfl) dX5_readTwo_4 ?_
  refine x_aload_n (pc := 7) o dX5_readTwo_7 rfl rfl ?_
  obtain ⟨r3, hr3, h⟩ := xbs h
  refine gX5_9 (pc := 8) o dX5_readTwo_8 hr3 ?_
  refine x_bipush (pc := 11) o dX5_readTwo_11 bp_40 ?_
  obtain ⟨v4, hv4, h⟩ := xbs h
  refine x_callI (pc := 13) (As := [.int ((40 : Int32))]) (b := r3) (rest := []) o (tX7_isSign _ M _ r3 ((40 : Int32)) S2 v4 hv4) eX7_isSign mX5_63 clX7 (kX7_isSign hv4) (by omega) rfl rfl (Nat.le_of_ble_eq_true rfl) dX5_readTwo_13 ?_
  refine x_if_ne (pc := 16) (tgt := 27) o dX5_readTwo_16 (by decide) (fun c22 => ?_) (fun c22 => ?_)
  · have h := xif h c22
    refine x_aload_n (pc := 27) o dX5_readTwo_27 rfl rfl ?_
    refine x_iload_n (pc := 28) o dX5_readTwo_28 rfl rfl ?_
    obtain ⟨q5, hq5, h⟩ := xbs h
    refine x_callI (pc := 29) (As := [.int a1]) (b := k0) (rest := []) o (tX5_opens _ M _ n k0 a1 S2 q5 hq5) eX5_opens mX5_60 clX5 (kX5_opens hq5) (by omega) rfl rfl (Nat.le_of_ble_eq_true rfl) dX5_readTwo_29 ?_
    refine x_if_eq (pc := 32) (tgt := 95) o dX5_readTwo_32 (by decide) (fun c19 => ?_) (fun c19 => ?_)
    · have h := xit h c19
      refine x_iconst (pc := 95) o dX5_readTwo_95 ic_0 ?_
      exact x_zreturn (pc := 96) o hr dX5_readTwo_96 (by decide) (xr1 h) (xr2 h)
    · have h := xif h c19
      refine x_aload_n (pc := 35) o dX5_readTwo_35 rfl rfl ?_
      refine x_iload_n (pc := 36) o dX5_readTwo_36 rfl rfl ?_
      refine x_iconst (pc := 37) o dX5_readTwo_37 ic_1 ?_
      refine x_iadd (pc := 38) o dX5_readTwo_38 ?_
      obtain ⟨q6, hq6, h⟩ := xbs h
      refine x_callI (pc := 39) (As := [.int (a1 + ((1 : Int32)))]) (b := k0) (rest := []) o ((hrc.2.2.2.2.1 k0 (a1 + ((1 : Int32))) (0 : Int32) q5.2 q6 hq6).2 _ M _) eX5_readSum mX5_72 clX5 (hrc.2.2.2.2.1 k0 (a1 + ((1 : Int32))) (0 : Int32) q5.2 q6 hq6).1 (by omega) rfl rfl (Nat.le_of_ble_eq_true rfl) dX5_readTwo_39 ?_
      refine x_if_eq (pc := 42) (tgt := 95) o dX5_readTwo_42 (by decide) (fun c18 => ?_) (fun c18 => ?_)
      · have h := xit h c18
        refine x_iconst (pc := 95) o dX5_readTwo_95 ic_0 ?_
        exact x_zreturn (pc := 96) o hr dX5_readTwo_96 (by decide) (xr1 h) (xr2 h)
      · have h := xif h c18
        refine x_aload_n (pc := 45) o dX5_readTwo_45 rfl rfl ?_
        obtain ⟨r7, hr7, h⟩ := xbs h
        refine gX5_9 (pc := 46) o dX5_readTwo_46 hr7 ?_
        refine x_bipush (pc := 49) o dX5_readTwo_49 bp_44 ?_
        obtain ⟨q8, hq8, h⟩ := xbs h
        refine x_callI (pc := 51) (As := [.int ((44 : Int32))]) (b := r7) (rest := []) o (tX7_takeSign _ M _ n r7 ((44 : Int32)) q6.2 q8 hq8) eX7_takeSign mX5_69 clX7 (kX7_takeSign hq8) (by omega) rfl rfl (Nat.le_of_ble_eq_true rfl) dX5_readTwo_51 ?_
        refine x_if_eq (pc := 54) (tgt := 95) o dX5_readTwo_54 (by decide) (fun c17 => ?_) (fun c17 => ?_)
        · have h := xit h c17
          refine x_iconst (pc := 95) o dX5_readTwo_95 ic_0 ?_
          exact x_zreturn (pc := 96) o hr dX5_readTwo_96 (by decide) (xr1 h) (xr2 h)
        · have h := xif h c17
          refine x_aload_n (pc := 57) o dX5_readTwo_57 rfl rfl ?_
          refine x_iload_n (pc := 58) o dX5_readTwo_58 rfl rfl ?_
          refine x_iconst (pc := 59) o dX5_readTwo_59 ic_1 ?_
          refine x_iadd (pc := 60) o dX5_readTwo_60 ?_
          obtain ⟨q9, hq9, h⟩ := xbs h
          refine x_callI (pc := 61) (As := [.int (a1 + ((1 : Int32)))]) (b := k0) (rest := []) o ((hrc.2.2.2.2.1 k0 (a1 + ((1 : Int32))) (0 : Int32) q8.2 q9 hq9).2 _ M _) eX5_readSum mX5_72 clX5 (hrc.2.2.2.2.1 k0 (a1 + ((1 : Int32))) (0 : Int32) q8.2 q9 hq9).1 (by omega) rfl rfl (Nat.le_of_ble_eq_true rfl) dX5_readTwo_61 ?_
          refine x_if_eq (pc := 64) (tgt := 95) o dX5_readTwo_64 (by decide) (fun c16 => ?_) (fun c16 => ?_)
          · have h := xit h c16
            refine x_iconst (pc := 95) o dX5_readTwo_95 ic_0 ?_
            exact x_zreturn (pc := 96) o hr dX5_readTwo_96 (by decide) (xr1 h) (xr2 h)
          · have h := xif h c16
            refine x_aload_n (pc := 67) o dX5_readTwo_67 rfl rfl ?_
            obtain ⟨r10, hr10, h⟩ := xbs h
            refine gX5_9 (pc := 68) o dX5_readTwo_68 hr10 ?_
            refine x_bipush (pc := 71) o dX5_readTwo_71 bp_41 ?_
            obtain ⟨q11, hq11, h⟩ := xbs h
            refine x_callI (pc := 73) (As := [.int ((41 : Int32))]) (b := r10) (rest := []) o (tX7_takeSign _ M _ n r10 ((41 : Int32)) q9.2 q11 hq11) eX7_takeSign mX5_69 clX7 (kX7_takeSign hq11) (by omega) rfl rfl (Nat.le_of_ble_eq_true rfl) dX5_readTwo_73 ?_
            refine x_if_eq (pc := 76) (tgt := 95) o dX5_readTwo_76 (by decide) (fun c15 => ?_) (fun c15 => ?_)
            · have h := xit h c15
              refine x_iconst (pc := 95) o dX5_readTwo_95 ic_0 ?_
              exact x_zreturn (pc := 96) o hr dX5_readTwo_96 (by decide) (xr1 h) (xr2 h)
            · have h := xif h c15
              refine x_aload_n (pc := 79) o dX5_readTwo_79 rfl rfl ?_
              obtain ⟨r12, hr12, h⟩ := xbs h
              refine gX5_15 (pc := 80) o dX5_readTwo_80 hr12 ?_
              refine x_iload_n (pc := 83) o dX5_readTwo_83 rfl rfl ?_
              refine x_iconst (pc := 84) o dX5_readTwo_84 ic_0 ?_
              obtain ⟨q13, hq13, h⟩ := xbs h
              refine x_callI (pc := 85) (As := [.int a2, .int ((0 : Int32))]) (b := r12) (rest := []) o (tX1_put _ M _ r12 a2 ((0 : Int32)) q11.2 q13 hq13) eX1_put mX5_53 clX1 (kX1_put hq13) (by omega) rfl rfl (Nat.le_of_ble_eq_true rfl) dX5_readTwo_85 ?_
              refine x_if_eq (pc := 88) (tgt := 95) o dX5_readTwo_88 (by decide) (fun c14 => ?_) (fun c14 => ?_)
              · have h := xit h c14
                refine x_iconst (pc := 95) o dX5_readTwo_95 ic_0 ?_
                exact x_zreturn (pc := 96) o hr dX5_readTwo_96 (by decide) (xr1 h) (xr2 h)
              · have h := xif h c14
                refine x_iconst (pc := 91) o dX5_readTwo_91 ic_1 ?_
                refine x_goto (pc := 92) (tgt := 96) o dX5_readTwo_92 (by decide) ?_
                exact x_zreturn (pc := 96) o hr dX5_readTwo_96 (by decide) (xr1 h) (xr2 h)
  · have h := xit h c22
    refine x_aload_n (pc := 19) o dX5_readTwo_19 rfl rfl ?_
    obtain ⟨r20, hr20, h⟩ := xbs h
    refine gX5_9 (pc := 20) o dX5_readTwo_20 hr20 ?_
    obtain ⟨q21, hq21, h⟩ := xbs h
    refine x_callI (pc := 23) (As := []) (b := r20) (rest := []) o (tX7_failHere _ M _ r20 S2 q21 hq21) eX7_failHere mX5_82 clX7 (kX7_failHere hq21) (by omega) rfl rfl (Nat.le_of_ble_eq_true rfl) dX5_readTwo_23 ?_
    obtain ⟨hz, h⟩ := xck h
    exact x_zreturn (pc := 26) o hr dX5_readTwo_26 hz (xr1 h) (xr2 h)
def bX5_readIf (n : Nat) (rc : xRC) (k0 : Nat) (a1 : Int32) (S : xSt) : Option (Int32 × xSt) :=
  if tC.1 k0 = 5 then
  ((xgF tC 5 0 k0 S).bind fun r1 =>
  (fX7_advance n r1 S).bind fun S2 =>
  (xgF tC 5 0 k0 S2).bind fun r3 =>
  (fX7_isSign r3 ((40 : Int32)) S2).bind fun v4 =>
  if v4 = 0 then
  ((xgF tC 5 0 k0 S2).bind fun r25 =>
  (fX7_failHere r25 S2).bind fun q26 =>
  if q26.1 = 0 ∨ q26.1 = 1 then (some (q26.1, q26.2)) else none)
else
  ((fX5_opens n k0 a1 S2).bind fun q5 =>
  if q5.1 = 0 then
  (some ((0 : Int32), q5.2))
else
  ((rc 0 k0 (a1 + ((1 : Int32))) (0 : Int32) q5.2).bind fun q6 =>
  if q6.1 = 0 then
  (some ((0 : Int32), q6.2))
else
  ((xgF tC 5 0 k0 q6.2).bind fun r7 =>
  (fX7_takeSign n r7 ((44 : Int32)) q6.2).bind fun q8 =>
  if q8.1 = 0 then
  (some ((0 : Int32), q8.2))
else
  ((rc 4 k0 (a1 + ((1 : Int32))) (0 : Int32) q8.2).bind fun q9 =>
  if q9.1 = 0 then
  (some ((0 : Int32), q9.2))
else
  ((xgF tC 5 0 k0 q9.2).bind fun r10 =>
  (fX7_takeSign n r10 ((44 : Int32)) q9.2).bind fun q11 =>
  if q11.1 = 0 then
  (some ((0 : Int32), q11.2))
else
  ((rc 4 k0 (a1 + ((1 : Int32))) (0 : Int32) q11.2).bind fun q12 =>
  if q12.1 = 0 then
  (some ((0 : Int32), q12.2))
else
  ((xgF tC 5 0 k0 q12.2).bind fun r13 =>
  (fX7_takeSign n r13 ((41 : Int32)) q12.2).bind fun q14 =>
  if q14.1 = 0 then
  (some ((0 : Int32), q14.2))
else
  ((xgM tC 5 1 k0 q14.2).bind fun r15 =>
  (fX1_put r15 ((3 : Int32)) ((0 : Int32)) q14.2).bind fun q16 =>
  if q16.1 = 0 then
  (some ((0 : Int32), q16.2))
else
  (some ((1 : Int32), q16.2)))))))))))
  else none
set_option maxHeartbeats 4000000 in
theorem tX5_readIf_r {w : Nat} (n : Nat) (rc : xRC) (k0 : Nat) (a1 : Int32) (hrc : xRec rc (5 + w)) (S : xSt) (z : Int32 × xSt) (h : bX5_readIf n rc k0 a1 S = some z) : tC.1 k0 = 5 ∧ ∀ (l : Launch) (M : xMg) (A : Nat → Prop), xMI l yX5_readIf cX5_readIf 2 (some .boolean) (5 + w + 1) tC M A [.ref (M.2.1 k0), .int a1] S z.1 z.2 := by
  refine ⟨?_, fun l M A => x_metI (plainFor_of_name (by decide)) tC_ok (Nat.le_of_ble_eq_true rfl) (fun Γ hA hnL hl hr o => ?_)⟩
  · unfold bX5_readIf at h; exact (xck h).1
  subst hA; subst hl
  have o : xOk Γ tC M (5 + w + 1) cX5_readIf RX5 := o
  unfold bX5_readIf at h
  obtain ⟨hk0, h⟩ := xck h
  refine x_to (l := [(0, .ref (M.2.1 k0)), (1, .int a1)]) ⟨rfl, rfl, trivial⟩ ?_
  refine x_aload_n (pc := 0) o dX5_readIf_0 rfl rfl ?_
  obtain ⟨r1, hr1, h⟩ := xbs h
  refine gX5_9 (pc := 1) o dX5_readIf_1 hr1 ?_
  obtain ⟨S2, hS2, h⟩ := xbs h
  refine x_callV (pc := 4) (As := []) (b := r1) (rest := []) o (tX7_advance _ M _ n r1 S S2 hS2) eX7_advance mX5_50 clX7 (kX7_advance hS2) (by omega) rfl rfl (Nat.le_of_ble_eq_true rfl) dX5_readIf_4 ?_
  refine x_aload_n (pc := 7) o dX5_readIf_7 rfl rfl ?_
  obtain ⟨r3, hr3, h⟩ := xbs h
  refine gX5_9 (pc := 8) o dX5_readIf_8 hr3 ?_
  refine x_bipush (pc := 11) o dX5_readIf_11 bp_40 ?_
  obtain ⟨v4, hv4, h⟩ := xbs h
  refine x_callI (pc := 13) (As := [.int ((40 : Int32))]) (b := r3) (rest := []) o (tX7_isSign _ M _ r3 ((40 : Int32)) S2 v4 hv4) eX7_isSign mX5_63 clX7 (kX7_isSign hv4) (by omega) rfl rfl (Nat.le_of_ble_eq_true rfl) dX5_readIf_13 ?_
  refine x_if_ne (pc := 16) (tgt := 27) o dX5_readIf_16 (by decide) (fun c27 => ?_) (fun c27 => ?_)
  · have h := xif h c27
    refine x_aload_n (pc := 27) o dX5_readIf_27 rfl rfl ?_
    refine x_iload_n (pc := 28) o dX5_readIf_28 rfl rfl ?_
    obtain ⟨q5, hq5, h⟩ := xbs h
    refine x_callI (pc := 29) (As := [.int a1]) (b := k0) (rest := []) o (tX5_opens _ M _ n k0 a1 S2 q5 hq5) eX5_opens mX5_60 clX5 (kX5_opens hq5) (by omega) rfl rfl (Nat.le_of_ble_eq_true rfl) dX5_readIf_29 ?_
    refine x_if_eq (pc := 32) (tgt := 117) o dX5_readIf_32 (by decide) (fun c24 => ?_) (fun c24 => ?_)
    · have h := xit h c24
      refine x_iconst (pc := 117) o dX5_readIf_117 ic_0 ?_
      exact x_zreturn (pc := 118) o hr dX5_readIf_118 (by decide) (xr1 h) (xr2 h)
    · have h := xif h c24
      refine x_aload_n (pc := 35) o dX5_readIf_35 rfl rfl ?_
      refine x_iload_n (pc := 36) o dX5_readIf_36 rfl rfl ?_
      refine x_iconst (pc := 37) o dX5_readIf_37 ic_1 ?_
      refine x_iadd (pc := 38) o dX5_readIf_38 ?_
      obtain ⟨q6, hq6, h⟩ := xbs h
      refine x_callI (pc := 39) (As := [.int (a1 + ((1 : Int32)))]) (b := k0) (rest := []) o ((hrc.1 k0 (a1 + ((1 : Int32))) (0 : Int32) q5.2 q6 hq6).2 _ M _) eX5_readTest mX5_66 clX5 (hrc.1 k0 (a1 + ((1 : Int32))) (0 : Int32) q5.2 q6 hq6).1 (by omega) rfl rfl (Nat.le_of_ble_eq_true rfl) dX5_readIf_39 ?_
      refine x_if_eq (pc := 42) (tgt := 117) o dX5_readIf_42 (by decide) (fun c23 => ?_) (fun c23 => ?_)
      · have h := xit h c23
        refine x_iconst (pc := 117) o dX5_readIf_117 ic_0 ?_
        exact x_zreturn (pc := 118) o hr dX5_readIf_118 (by decide) (xr1 h) (xr2 h)
      · have h := xif h c23
        refine x_aload_n (pc := 45) o dX5_readIf_45 rfl rfl ?_
        obtain ⟨r7, hr7, h⟩ := xbs h
        refine gX5_9 (pc := 46) o dX5_readIf_46 hr7 ?_
        refine x_bipush (pc := 49) o dX5_readIf_49 bp_44 ?_
        obtain ⟨q8, hq8, h⟩ := xbs h
        refine x_callI (pc := 51) (As := [.int ((44 : Int32))]) (b := r7) (rest := []) o (tX7_takeSign _ M _ n r7 ((44 : Int32)) q6.2 q8 hq8) eX7_takeSign mX5_69 clX7 (kX7_takeSign hq8) (by omega) rfl rfl (Nat.le_of_ble_eq_true rfl) dX5_readIf_51 ?_
        refine x_if_eq (pc := 54) (tgt := 117) o dX5_readIf_54 (by decide) (fun c22 => ?_) (fun c22 => ?_)
        · have h := xit h c22
          refine x_iconst (pc := 117) o dX5_readIf_117 ic_0 ?_
          exact x_zreturn (pc := 118) o hr dX5_readIf_118 (by decide) (xr1 h) (xr2 h)
        · have h := xif h c22
          refine x_aload_n (pc := 57) o dX5_readIf_57 rfl rfl ?_
          refine x_iload_n (pc := 58) o dX5_readIf_58 rfl rfl ?_
          refine x_iconst (pc := 59) o dX5_readIf_59 ic_1 ?_
          refine x_iadd (pc := 60) o dX5_readIf_60 ?_
          obtain ⟨q9, hq9, h⟩ := xbs h
          refine x_callI (pc := 61) (As := [.int (a1 + ((1 : Int32)))]) (b := k0) (rest := []) o ((hrc.2.2.2.2.1 k0 (a1 + ((1 : Int32))) (0 : Int32) q8.2 q9 hq9).2 _ M _) eX5_readSum mX5_72 clX5 (hrc.2.2.2.2.1 k0 (a1 + ((1 : Int32))) (0 : Int32) q8.2 q9 hq9).1 (by omega) rfl rfl (Nat.le_of_ble_eq_true rfl) dX5_readIf_61 ?_
          refine x_if_eq (pc := 64) (tgt := 117) o dX5_readIf_64 (by decide) (fun c21 => ?_) (fun c21 => ?_)
          · have h := xit h c21
            refine x_iconst (pc := 117) o dX5_readIf_117 ic_0 ?_
            exact x_zreturn (pc := 118) o hr dX5_readIf_118 (by decide) (xr1 h) (xr2 h)
          · have h := xif h c21
            refine x_aload_n (pc := 67) o dX5_readIf_67 rfl rfl ?_
            obtain ⟨r10, hr10, h⟩ := xbs h
            refine gX5_9 (pc := 68) o dX5_readIf_68 hr10 ?_
            refine x_bipush (pc := 71) o dX5_readIf_71 bp_44 ?_
            obtain ⟨q11, hq11, h⟩ := xbs h
            refine x_callI (pc := 73) (As := [.int ((44 : Int32))]) (b := r10) (rest := []) o (tX7_takeSign _ M _ n r10 ((44 : Int32)) q9.2 q11 hq11) eX7_takeSign mX5_69 clX7 (kX7_takeSign hq11) (by omega) rfl rfl (Nat.le_of_ble_eq_true rfl) dX5_readIf_73 ?_
            refine x_if_eq (pc := 76) (tgt := 117) o dX5_readIf_76 (by decide) (fun c20 => ?_) (fun c20 => ?_)
            · have h := xit h c20
              refine x_iconst (pc := 117) o dX5_readIf_117 ic_0 ?_
              exact x_zreturn (pc := 118) o hr dX5_readIf_118 (by decide) (xr1 h) (xr2 h)
            · have h := xif h c20
              refine x_aload_n (pc := 79) o dX5_readIf_79 rfl rfl ?_
              refine x_iload_n (pc := 80) o dX5_readIf_80 rfl rfl ?_
              refine x_iconst (pc := 81) o dX5_readIf_81 ic_1 ?_
              refine x_iadd (pc := 82) o dX5_readIf_82 ?_
              obtain ⟨q12, hq12, h⟩ := xbs h
              refine x_callI (pc := 83) (As := [.int (a1 + ((1 : Int32)))]) (b := k0) (rest := []) o ((hrc.2.2.2.2.1 k0 (a1 + ((1 : Int32))) (0 : Int32) q11.2 q12 hq12).2 _ M _) eX5_readSum mX5_72 clX5 (hrc.2.2.2.2.1 k0 (a1 + ((1 : Int32))) (0 : Int32) q11.2 q12 hq12).1 (by omega) rfl rfl (Nat.le_of_ble_eq_true rfl) dX5_readIf_83 ?_
              refine x_if_eq (pc := 86) (tgt := 117) o dX5_readIf_86 (by decide) (fun c19 => ?_) (fun c19 => ?_)
              · have h := xit h c19
                refine x_iconst (pc := 117) o dX5_readIf_117 ic_0 ?_
                exact x_zreturn (pc := 118) o hr dX5_readIf_118 (by decide) (xr1 h) (xr2 h)
              · have h := xif h c19
                refine x_aload_n (pc := 89) o dX5_readIf_89 rfl rfl ?_
                obtain ⟨r13, hr13, h⟩ := xbs h
                refine gX5_9 (pc := 90) o dX5_readIf_90 hr13 ?_
                refine x_bipush (pc := 93) o dX5_readIf_93 bp_41 ?_
                obtain ⟨q14, hq14, h⟩ := xbs h
                refine x_callI (pc := 95) (As := [.int ((41 : Int32))]) (b := r13) (rest := []) o (tX7_takeSign _ M _ n r13 ((41 : Int32)) q12.2 q14 hq14) eX7_takeSign mX5_69 clX7 (kX7_takeSign hq14) (by omega) rfl rfl (Nat.le_of_ble_eq_true rfl) dX5_readIf_95 ?_
                refine x_if_eq (pc := 98) (tgt := 117) o dX5_readIf_98 (by decide) (fun c18 => ?_) (fun c18 => ?_)
                · have h := xit h c18
                  refine x_iconst (pc := 117) o dX5_readIf_117 ic_0 ?_
                  exact x_zreturn (pc := 118) o hr dX5_readIf_118 (by decide) (xr1 h) (xr2 h)
                · have h := xif h c18
                  refine x_aload_n (pc := 101) o dX5_readIf_101 rfl rfl ?_
                  obtain ⟨r15, hr15, h⟩ := xbs h
                  refine gX5_15 (pc := 102) o dX5_readIf_102 hr15 ?_
                  refine x_iconst (pc := 105) o dX5_readIf_105 ic_3 ?_
                  refine x_iconst (pc := 106) o dX5_readIf_106 ic_0 ?_
                  obtain ⟨q16, hq16, h⟩ := xbs h
                  refine x_callI (pc := 107) (As := [.int ((3 : Int32)), .int ((0 : Int32))]) (b := r15) (rest := []) o (tX1_put _ M _ r15 ((3 : Int32)) ((0 : Int32)) q14.2 q16 hq16) eX1_put mX5_53 clX1 (kX1_put hq16) (by omega) rfl rfl (Nat.le_of_ble_eq_true rfl) dX5_readIf_107 ?_
                  refine x_if_eq (pc := 110) (tgt := 117) o dX5_readIf_110 (by decide) (fun c17 => ?_) (fun c17 => ?_)
                  · have h := xit h c17
                    refine x_iconst (pc := 117) o dX5_readIf_117 ic_0 ?_
                    exact x_zreturn (pc := 118) o hr dX5_readIf_118 (by decide) (xr1 h) (xr2 h)
                  · have h := xif h c17
                    refine x_iconst (pc := 113) o dX5_readIf_113 ic_1 ?_
                    refine x_goto (pc := 114) (tgt := 118) o dX5_readIf_114 (by decide) ?_
                    exact x_zreturn (pc := 118) o hr dX5_readIf_118 (by decide) (xr1 h) (xr2 h)
  · have h := xit h c27
    refine x_aload_n (pc := 19) o dX5_readIf_19 rfl rfl ?_
    obtain ⟨r25, hr25, h⟩ := xbs h
    refine gX5_9 (pc := 20) o dX5_readIf_20 hr25 ?_
    obtain ⟨q26, hq26, h⟩ := xbs h
    refine x_callI (pc := 23) (As := []) (b := r25) (rest := []) o (tX7_failHere _ M _ r25 S2 q26 hq26) eX7_failHere mX5_82 clX7 (kX7_failHere hq26) (by omega) rfl rfl (Nat.le_of_ble_eq_true rfl) dX5_readIf_23 ?_
    obtain ⟨hz, h⟩ := xck h
    exact x_zreturn (pc := 26) o hr dX5_readIf_26 hz (xr1 h) (xr2 h)
def fRR (n : Nat) : Nat → xRC
  | 0 => fun _ _ _ _ _ => none
  | q + 1 => fun t k a b S => if t = 0 then bX5_readTest n (fRR n q) k a S else if t = 1 then bX5_readBoth n (fRR n q) k a S else if t = 2 then bX5_readFact n (fRR n q) k a S else if t = 3 then bX5_readSecondSum n (fRR n q) k a S else if t = 4 then bX5_readSum n (fRR n q) k a S else if t = 5 then bX5_readProduct n (fRR n q) k a S else if t = 6 then bX5_readPart n (fRR n q) k a S else if t = 7 then bX5_readTwo n (fRR n q) k a b S else if t = 8 then bX5_readIf n (fRR n q) k a S else none
theorem xRec_ok (n : Nat) : ∀ q, xRec (fRR n q) (5 + q) := by
  intro q
  induction q with
  | zero => exact ⟨(fun _ _ _ _ _ h => by cases h), (fun _ _ _ _ _ h => by cases h), (fun _ _ _ _ _ h => by cases h), (fun _ _ _ _ _ h => by cases h), (fun _ _ _ _ _ h => by cases h), (fun _ _ _ _ _ h => by cases h), (fun _ _ _ _ _ h => by cases h), (fun _ _ _ _ _ h => by cases h), (fun _ _ _ _ _ h => by cases h)⟩
  | succ q ih => exact ⟨fun k a b S z h => tX5_readTest_r n (fRR n q) k a ih S z h,
    fun k a b S z h => tX5_readBoth_r n (fRR n q) k a ih S z h,
    fun k a b S z h => tX5_readFact_r n (fRR n q) k a ih S z h,
    fun k a b S z h => tX5_readSecondSum_r n (fRR n q) k a ih S z h,
    fun k a b S z h => tX5_readSum_r n (fRR n q) k a ih S z h,
    fun k a b S z h => tX5_readProduct_r n (fRR n q) k a ih S z h,
    fun k a b S z h => tX5_readPart_r n (fRR n q) k a ih S z h,
    fun k a b S z h => tX5_readTwo_r n (fRR n q) k a b ih S z h,
    fun k a b S z h => tX5_readIf_r n (fRR n q) k a ih S z h⟩
def fX5_readTest (n : Nat) (k0 : Nat) (a1 : Int32) (S : xSt) : Option (Int32 × xSt) := fRR n 80 0 k0 a1 0 S
theorem kX5_readTest {z : Int32 × xSt} {n : Nat} {k0 : Nat} {a1 : Int32} {S : xSt} (h : fX5_readTest n k0 a1 S = some z) : tC.1 k0 = 5 := ((xRec_ok n 80).1 k0 a1 0 S z h).1
theorem tX5_readTest (l : Launch) (M : xMg) (A : Nat → Prop) (n : Nat) (k0 : Nat) (a1 : Int32) (S : xSt) (z : Int32 × xSt) (h : fX5_readTest n k0 a1 S = some z) : xMI l yX5_readTest cX5_readTest 4 (some .boolean) 85 tC M A [.ref (M.2.1 k0), .int a1] S z.1 z.2 := ((xRec_ok n 80).1 k0 a1 0 S z h).2 l M A
def fX5_readBoth (n : Nat) (k0 : Nat) (a1 : Int32) (S : xSt) : Option (Int32 × xSt) := fRR n 80 1 k0 a1 0 S
theorem kX5_readBoth {z : Int32 × xSt} {n : Nat} {k0 : Nat} {a1 : Int32} {S : xSt} (h : fX5_readBoth n k0 a1 S = some z) : tC.1 k0 = 5 := ((xRec_ok n 80).2.1 k0 a1 0 S z h).1
theorem tX5_readBoth (l : Launch) (M : xMg) (A : Nat → Prop) (n : Nat) (k0 : Nat) (a1 : Int32) (S : xSt) (z : Int32 × xSt) (h : fX5_readBoth n k0 a1 S = some z) : xMI l yX5_readBoth cX5_readBoth 4 (some .boolean) 85 tC M A [.ref (M.2.1 k0), .int a1] S z.1 z.2 := ((xRec_ok n 80).2.1 k0 a1 0 S z h).2 l M A
def fX5_readFact (n : Nat) (k0 : Nat) (a1 : Int32) (S : xSt) : Option (Int32 × xSt) := fRR n 80 2 k0 a1 0 S
theorem kX5_readFact {z : Int32 × xSt} {n : Nat} {k0 : Nat} {a1 : Int32} {S : xSt} (h : fX5_readFact n k0 a1 S = some z) : tC.1 k0 = 5 := ((xRec_ok n 80).2.2.1 k0 a1 0 S z h).1
theorem tX5_readFact (l : Launch) (M : xMg) (A : Nat → Prop) (n : Nat) (k0 : Nat) (a1 : Int32) (S : xSt) (z : Int32 × xSt) (h : fX5_readFact n k0 a1 S = some z) : xMI l yX5_readFact cX5_readFact 2 (some .boolean) 85 tC M A [.ref (M.2.1 k0), .int a1] S z.1 z.2 := ((xRec_ok n 80).2.2.1 k0 a1 0 S z h).2 l M A
def fX5_readSecondSum (n : Nat) (k0 : Nat) (a1 : Int32) (S : xSt) : Option (Int32 × xSt) := fRR n 80 3 k0 a1 0 S
theorem kX5_readSecondSum {z : Int32 × xSt} {n : Nat} {k0 : Nat} {a1 : Int32} {S : xSt} (h : fX5_readSecondSum n k0 a1 S = some z) : tC.1 k0 = 5 := ((xRec_ok n 80).2.2.2.1 k0 a1 0 S z h).1
theorem tX5_readSecondSum (l : Launch) (M : xMg) (A : Nat → Prop) (n : Nat) (k0 : Nat) (a1 : Int32) (S : xSt) (z : Int32 × xSt) (h : fX5_readSecondSum n k0 a1 S = some z) : xMI l yX5_readSecondSum cX5_readSecondSum 3 (some .boolean) 85 tC M A [.ref (M.2.1 k0), .int a1] S z.1 z.2 := ((xRec_ok n 80).2.2.2.1 k0 a1 0 S z h).2 l M A
def fX5_readSum (n : Nat) (k0 : Nat) (a1 : Int32) (S : xSt) : Option (Int32 × xSt) := fRR n 80 4 k0 a1 0 S
theorem kX5_readSum {z : Int32 × xSt} {n : Nat} {k0 : Nat} {a1 : Int32} {S : xSt} (h : fX5_readSum n k0 a1 S = some z) : tC.1 k0 = 5 := ((xRec_ok n 80).2.2.2.2.1 k0 a1 0 S z h).1
theorem tX5_readSum (l : Launch) (M : xMg) (A : Nat → Prop) (n : Nat) (k0 : Nat) (a1 : Int32) (S : xSt) (z : Int32 × xSt) (h : fX5_readSum n k0 a1 S = some z) : xMI l yX5_readSum cX5_readSum 5 (some .boolean) 85 tC M A [.ref (M.2.1 k0), .int a1] S z.1 z.2 := ((xRec_ok n 80).2.2.2.2.1 k0 a1 0 S z h).2 l M A
def fX5_readProduct (n : Nat) (k0 : Nat) (a1 : Int32) (S : xSt) : Option (Int32 × xSt) := fRR n 80 5 k0 a1 0 S
theorem kX5_readProduct {z : Int32 × xSt} {n : Nat} {k0 : Nat} {a1 : Int32} {S : xSt} (h : fX5_readProduct n k0 a1 S = some z) : tC.1 k0 = 5 := ((xRec_ok n 80).2.2.2.2.2.1 k0 a1 0 S z h).1
theorem tX5_readProduct (l : Launch) (M : xMg) (A : Nat → Prop) (n : Nat) (k0 : Nat) (a1 : Int32) (S : xSt) (z : Int32 × xSt) (h : fX5_readProduct n k0 a1 S = some z) : xMI l yX5_readProduct cX5_readProduct 5 (some .boolean) 85 tC M A [.ref (M.2.1 k0), .int a1] S z.1 z.2 := ((xRec_ok n 80).2.2.2.2.2.1 k0 a1 0 S z h).2 l M A
def fX5_readPart (n : Nat) (k0 : Nat) (a1 : Int32) (S : xSt) : Option (Int32 × xSt) := fRR n 80 6 k0 a1 0 S
theorem kX5_readPart {z : Int32 × xSt} {n : Nat} {k0 : Nat} {a1 : Int32} {S : xSt} (h : fX5_readPart n k0 a1 S = some z) : tC.1 k0 = 5 := ((xRec_ok n 80).2.2.2.2.2.2.1 k0 a1 0 S z h).1
theorem tX5_readPart (l : Launch) (M : xMg) (A : Nat → Prop) (n : Nat) (k0 : Nat) (a1 : Int32) (S : xSt) (z : Int32 × xSt) (h : fX5_readPart n k0 a1 S = some z) : xMI l yX5_readPart cX5_readPart 3 (some .boolean) 85 tC M A [.ref (M.2.1 k0), .int a1] S z.1 z.2 := ((xRec_ok n 80).2.2.2.2.2.2.1 k0 a1 0 S z h).2 l M A
def fX5_readTwo (n : Nat) (k0 : Nat) (a1 : Int32) (a2 : Int32) (S : xSt) : Option (Int32 × xSt) := fRR n 80 7 k0 a1 a2 S
theorem kX5_readTwo {z : Int32 × xSt} {n : Nat} {k0 : Nat} {a1 : Int32} {a2 : Int32} {S : xSt} (h : fX5_readTwo n k0 a1 a2 S = some z) : tC.1 k0 = 5 := ((xRec_ok n 80).2.2.2.2.2.2.2.1 k0 a1 a2 S z h).1
theorem tX5_readTwo (l : Launch) (M : xMg) (A : Nat → Prop) (n : Nat) (k0 : Nat) (a1 : Int32) (a2 : Int32) (S : xSt) (z : Int32 × xSt) (h : fX5_readTwo n k0 a1 a2 S = some z) : xMI l yX5_readTwo cX5_readTwo 3 (some .boolean) 85 tC M A [.ref (M.2.1 k0), .int a1, .int a2] S z.1 z.2 := ((xRec_ok n 80).2.2.2.2.2.2.2.1 k0 a1 a2 S z h).2 l M A
def fX5_readIf (n : Nat) (k0 : Nat) (a1 : Int32) (S : xSt) : Option (Int32 × xSt) := fRR n 80 8 k0 a1 0 S
theorem kX5_readIf {z : Int32 × xSt} {n : Nat} {k0 : Nat} {a1 : Int32} {S : xSt} (h : fX5_readIf n k0 a1 S = some z) : tC.1 k0 = 5 := ((xRec_ok n 80).2.2.2.2.2.2.2.2 k0 a1 0 S z h).1
theorem tX5_readIf (l : Launch) (M : xMg) (A : Nat → Prop) (n : Nat) (k0 : Nat) (a1 : Int32) (S : xSt) (z : Int32 × xSt) (h : fX5_readIf n k0 a1 S = some z) : xMI l yX5_readIf cX5_readIf 2 (some .boolean) 85 tC M A [.ref (M.2.1 k0), .int a1] S z.1 z.2 := ((xRec_ok n 80).2.2.2.2.2.2.2.2 k0 a1 0 S z h).2 l M A
def fX10_readStatement (n : Nat) (k0 : Nat) (S : xSt) : Option (Int32 × xSt) :=
  if tC.1 k0 = 10 then
  ((xgF tC 10 0 k0 S).bind fun r1 =>
  (xgI tC 7 4 r1 S).bind fun v2 =>
  if v2 = ((1 : Int32)) then
  ((xgF tC 10 0 k0 S).bind fun r3 =>
  (xgI tC 7 8 r3 S).bind fun v4 =>
  if v4 = (0 : Int32) then
  ((fX10_opensSort n k0 ((0 : Int32)) S).bind fun q7 =>
  if q7.1 = 0 then
  (some ((0 : Int32), q7.2))
else
  ((fX10_readKind n k0 q7.2).bind fun q8 =>
  if q8.1 = 0 then
  (some ((0 : Int32), q8.2))
else
  (some ((1 : Int32), q8.2))))
else if v4 = (3 : Int32) then
  ((fX10_opensSort n k0 ((1 : Int32)) S).bind fun q12 =>
  if q12.1 = 0 then
  (some ((0 : Int32), q12.2))
else
  ((fX10_readTool n k0 q12.2).bind fun q13 =>
  if q13.1 = 0 then
  (some ((0 : Int32), q13.2))
else
  (some ((1 : Int32), q13.2))))
else if v4 = (6 : Int32) then
  ((fX10_opensSort n k0 ((2 : Int32)) S).bind fun q17 =>
  if q17.1 = 0 then
  (some ((0 : Int32), q17.2))
else
  ((fX10_takeNewName n k0 ((2 : Int32)) q17.2).bind fun q18 =>
  if q18.1 = ((-1 : Int32)) then
  (some ((0 : Int32), q18.2))
else
  (some ((1 : Int32), q18.2))))
else if v4 = (7 : Int32) then
  ((fX10_readKnows n k0 S).bind fun q22 =>
  if q22.1 = 0 ∨ q22.1 = 1 then (some (q22.1, q22.2)) else none)
else if v4 = (8 : Int32) then
  ((fX10_opensSort n k0 ((3 : Int32)) S).bind fun q24 =>
  if q24.1 = 0 then
  (some ((0 : Int32), q24.2))
else
  ((fX10_readJob n k0 q24.2).bind fun q25 =>
  if q25.1 = 0 then
  (some ((0 : Int32), q25.2))
else
  (some ((1 : Int32), q25.2))))
else if v4 = (11 : Int32) then
  ((fX10_readServes n k0 S).bind fun q29 =>
  if q29.1 = 0 ∨ q29.1 = 1 then (some (q29.1, q29.2)) else none)
else if v4 = (14 : Int32) then
  ((xgM tC 10 2 k0 S).bind fun r31 =>
  (xgF tC 9 13 r31 S).bind fun r32 =>
  (fX1_hasMay r32 S).bind fun v33 =>
  (fX10_opensRule n k0 v33 S).bind fun q34 =>
  if q34.1 = 0 then
  (some ((0 : Int32), q34.2))
else
  ((xgF tC 10 1 k0 q34.2).bind fun r35 =>
  (xgM tC 10 2 k0 q34.2).bind fun r36 =>
  (xgF tC 9 13 r36 q34.2).bind fun r37 =>
  (fX5_beginMay r35 r37 q34.2).bind fun q38 =>
  if q38.1 = 0 then
  (some ((0 : Int32), q38.2))
else
  ((xgF tC 10 1 k0 q38.2).bind fun r39 =>
  (fX5_readTest n r39 ((0 : Int32)) q38.2).bind fun q40 =>
  if q40.1 = 0 then
  (some ((0 : Int32), q40.2))
else
  ((xgF tC 10 1 k0 q40.2).bind fun r41 =>
  (fX5_endMay r41 q40.2).bind fun q42 =>
  if q42.1 = 0 then
  (some ((0 : Int32), q42.2))
else
  (some ((1 : Int32), q42.2))))))
else if v4 = (15 : Int32) then
  ((xgM tC 10 2 k0 S).bind fun r48 =>
  (xgF tC 9 13 r48 S).bind fun r49 =>
  (fX1_hasWears r49 S).bind fun v50 =>
  (fX10_opensRule n k0 v50 S).bind fun q51 =>
  if q51.1 = 0 then
  (some ((0 : Int32), q51.2))
else
  ((xgF tC 10 1 k0 q51.2).bind fun r52 =>
  (xgM tC 10 2 k0 q51.2).bind fun r53 =>
  (xgF tC 9 13 r53 q51.2).bind fun r54 =>
  (fX5_beginWears r52 r54 q51.2).bind fun q55 =>
  if q55.1 = 0 then
  (some ((0 : Int32), q55.2))
else
  ((xgF tC 10 1 k0 q55.2).bind fun r56 =>
  (fX5_readSum n r56 ((0 : Int32)) q55.2).bind fun q57 =>
  if q57.1 = 0 then
  (some ((0 : Int32), q57.2))
else
  ((xgF tC 10 1 k0 q57.2).bind fun r58 =>
  (fX5_endWears r58 q57.2).bind fun q59 =>
  if q59.1 = 0 then
  (some ((0 : Int32), q59.2))
else
  (some ((1 : Int32), q59.2))))))
else if v4 = (16 : Int32) then
  ((xgF tC 10 0 k0 S).bind fun r65 =>
  (xgI tC 7 8 r65 S).bind fun v66 =>
  (fX10_readSetting n k0 v66 S).bind fun q67 =>
  if q67.1 = 0 ∨ q67.1 = 1 then (some (q67.1, q67.2)) else none)
else if v4 = (17 : Int32) then
  ((fX10_readSmith n k0 S).bind fun q69 =>
  if q69.1 = 0 ∨ q69.1 = 1 then (some (q69.1, q69.2)) else none)
else if v4 = (18 : Int32) then
  ((xgF tC 10 0 k0 S).bind fun r71 =>
  (xgI tC 7 8 r71 S).bind fun v72 =>
  (fX10_readSetting n k0 v72 S).bind fun q73 =>
  if q73.1 = 0 ∨ q73.1 = 1 then (some (q73.1, q73.2)) else none)
else if v4 = (19 : Int32) then
  ((xgF tC 10 0 k0 S).bind fun r75 =>
  (xgI tC 7 8 r75 S).bind fun v76 =>
  (fX10_readSetting n k0 v76 S).bind fun q77 =>
  if q77.1 = 0 ∨ q77.1 = 1 then (some (q77.1, q77.2)) else none)
else 
  ((xgF tC 10 0 k0 S).bind fun r5 =>
  (fX7_failHere r5 S).bind fun q6 =>
  if q6.1 = 0 ∨ q6.1 = 1 then (some (q6.1, q6.2)) else none))
else
  ((xgF tC 10 0 k0 S).bind fun r87 =>
  (fX7_failHere r87 S).bind fun q88 =>
  if q88.1 = 0 ∨ q88.1 = 1 then (some (q88.1, q88.2)) else none))
  else none
theorem kX10_readStatement {z : Int32 × xSt} {n : Nat} {k0 : Nat} {S : xSt} (h : fX10_readStatement n k0 S = some z) : tC.1 k0 = 10 := by
  unfold fX10_readStatement at h
  exact (xck h).1
set_option maxHeartbeats 4000000 in
theorem tX10_readStatement (l : Launch) (M : xMg) (A : Nat → Prop) (n : Nat) (k0 : Nat) (S : xSt) (z : Int32 × xSt) (h : fX10_readStatement n k0 S = some z) : xMI l yX10_readStatement cX10_readStatement 1 (some .boolean) 86 tC M A [.ref (M.2.1 k0)] S z.1 z.2 := by
  refine x_metI (plainFor_of_name (by decide)) tC_ok (Nat.le_of_ble_eq_true rfl) (fun Γ hA hnL hl hr o => ?_)
  subst hA; subst hl
  have o : xOk Γ tC M 86 cX10_readStatement RX10 := o
  unfold fX10_readStatement at h
  obtain ⟨hk0, h⟩ := xck h
  refine x_to (l := [(0, .ref (M.2.1 k0))]) ⟨rfl, trivial⟩ ?_
  refine x_aload_n (pc := 0) o dX10_readStatement_0 rfl rfl ?_
  obtain ⟨r1, hr1, h⟩ := xbs h
  refine gX10_9 (pc := 1) o dX10_readStatement_1 hr1 ?_
  obtain ⟨v2, hv2, h⟩ := xbs h
  refine gX10_43 (pc := 4) o dX10_readStatement_4 hv2 ?_
  refine x_iconst (pc := 7) o dX10_readStatement_7 ic_1 ?_
  refine x_icmp_eq (pc := 8) (tgt := 19) o dX10_readStatement_8 (by decide) (fun c89 => ?_) (fun c89 => ?_)
  · have h := xit h c89
    refine x_aload_n (pc := 19) o dX10_readStatement_19 rfl rfl ?_
    obtain ⟨r3, hr3, h⟩ := xbs h
    refine gX10_9 (pc := 20) o dX10_readStatement_20 hr3 ?_
    obtain ⟨v4, hv4, h⟩ := xbs h
    refine gX10_65 (pc := 23) o dX10_readStatement_23 hv4 ?_
    by_cases c11 : v4 = (0 : Int32)
    · have h := xit h c11
      refine x_tableIn (pc := 26) (tgt := 120) o dX10_readStatement_26 (by rw [c11]; decide) (by rw [c11]; decide) (by rw [c11]; rfl) (by decide) ?_
      refine x_aload_n (pc := 120) o dX10_readStatement_120 rfl rfl ?_
      refine x_iconst (pc := 121) o dX10_readStatement_121 ic_0 ?_
      obtain ⟨q7, hq7, h⟩ := xbs h
      refine x_callI (pc := 122) (As := [.int ((0 : Int32))]) (b := k0) (rest := []) o (tX10_opensSort _ M _ n k0 ((0 : Int32)) S q7 hq7) eX10_opensSort mX10_68 clX10 (kX10_opensSort hq7) (by decide) rfl rfl (Nat.le_of_ble_eq_true rfl) dX10_readStatement_122 ?_
      refine x_if_eq (pc := 125) (tgt := 139) o dX10_readStatement_125 (by decide) (fun c10 => ?_) (fun c10 => ?_)
      · have h := xit h c10
        refine x_iconst (pc := 139) o dX10_readStatement_139 ic_0 ?_
        exact x_zreturn (pc := 140) o hr dX10_readStatement_140 (by decide) (xr1 h) (xr2 h)
      · have h := xif h c10
        refine x_aload_n (pc := 128) o dX10_readStatement_128 rfl rfl ?_
        obtain ⟨q8, hq8, h⟩ := xbs h
        refine x_callI (pc := 129) (As := []) (b := k0) (rest := []) o (tX10_readKind _ M _ n k0 q7.2 q8 hq8) eX10_readKind mX10_71 clX10 (kX10_readKind hq8) (by decide) rfl rfl (Nat.le_of_ble_eq_true rfl) dX10_readStatement_129 ?_
        refine x_if_eq (pc := 132) (tgt := 139) o dX10_readStatement_132 (by decide) (fun c9 => ?_) (fun c9 => ?_)
        · have h := xit h c9
          refine x_iconst (pc := 139) o dX10_readStatement_139 ic_0 ?_
          exact x_zreturn (pc := 140) o hr dX10_readStatement_140 (by decide) (xr1 h) (xr2 h)
        · have h := xif h c9
          refine x_iconst (pc := 135) o dX10_readStatement_135 ic_1 ?_
          refine x_goto (pc := 136) (tgt := 140) o dX10_readStatement_136 (by decide) ?_
          exact x_zreturn (pc := 140) o hr dX10_readStatement_140 (by decide) (xr1 h) (xr2 h)
    have h := xif h c11
    by_cases c16 : v4 = (3 : Int32)
    · have h := xit h c16
      refine x_tableIn (pc := 26) (tgt := 141) o dX10_readStatement_26 (by rw [c16]; decide) (by rw [c16]; decide) (by rw [c16]; rfl) (by decide) ?_
      refine x_aload_n (pc := 141) o dX10_readStatement_141 rfl rfl ?_
      refine x_iconst (pc := 142) o dX10_readStatement_142 ic_1 ?_
      obtain ⟨q12, hq12, h⟩ := xbs h
      refine x_callI (pc := 143) (As := [.int ((1 : Int32))]) (b := k0) (rest := []) o (tX10_opensSort _ M _ n k0 ((1 : Int32)) S q12 hq12) eX10_opensSort mX10_68 clX10 (kX10_opensSort hq12) (by decide) rfl rfl (Nat.le_of_ble_eq_true rfl) dX10_readStatement_143 ?_
      refine x_if_eq (pc := 146) (tgt := 160) o dX10_readStatement_146 (by decide) (fun c15 => ?_) (fun c15 => ?_)
      · have h := xit h c15
        refine x_iconst (pc := 160) o dX10_readStatement_160 ic_0 ?_
        exact x_zreturn (pc := 161) o hr dX10_readStatement_161 (by decide) (xr1 h) (xr2 h)
      · have h := xif h c15
        refine x_aload_n (pc := 149) o dX10_readStatement_149 rfl rfl ?_
        obtain ⟨q13, hq13, h⟩ := xbs h
        refine x_callI (pc := 150) (As := []) (b := k0) (rest := []) o (tX10_readTool _ M _ n k0 q12.2 q13 hq13) eX10_readTool mX10_74 clX10 (kX10_readTool hq13) (by decide) rfl rfl (Nat.le_of_ble_eq_true rfl) dX10_readStatement_150 ?_
        refine x_if_eq (pc := 153) (tgt := 160) o dX10_readStatement_153 (by decide) (fun c14 => ?_) (fun c14 => ?_)
        · have h := xit h c14
          refine x_iconst (pc := 160) o dX10_readStatement_160 ic_0 ?_
          exact x_zreturn (pc := 161) o hr dX10_readStatement_161 (by decide) (xr1 h) (xr2 h)
        · have h := xif h c14
          refine x_iconst (pc := 156) o dX10_readStatement_156 ic_1 ?_
          refine x_goto (pc := 157) (tgt := 161) o dX10_readStatement_157 (by decide) ?_
          exact x_zreturn (pc := 161) o hr dX10_readStatement_161 (by decide) (xr1 h) (xr2 h)
    have h := xif h c16
    by_cases c21 : v4 = (6 : Int32)
    · have h := xit h c21
      refine x_tableIn (pc := 26) (tgt := 162) o dX10_readStatement_26 (by rw [c21]; decide) (by rw [c21]; decide) (by rw [c21]; rfl) (by decide) ?_
      refine x_aload_n (pc := 162) o dX10_readStatement_162 rfl rfl ?_
      refine x_iconst (pc := 163) o dX10_readStatement_163 ic_2 ?_
      obtain ⟨q17, hq17, h⟩ := xbs h
      refine x_callI (pc := 164) (As := [.int ((2 : Int32))]) (b := k0) (rest := []) o (tX10_opensSort _ M _ n k0 ((2 : Int32)) S q17 hq17) eX10_opensSort mX10_68 clX10 (kX10_opensSort hq17) (by decide) rfl rfl (Nat.le_of_ble_eq_true rfl) dX10_readStatement_164 ?_
      refine x_if_eq (pc := 167) (tgt := 183) o dX10_readStatement_167 (by decide) (fun c20 => ?_) (fun c20 => ?_)
      · have h := xit h c20
        refine x_iconst (pc := 183) o dX10_readStatement_183 ic_0 ?_
        exact x_zreturn (pc := 184) o hr dX10_readStatement_184 (by decide) (xr1 h) (xr2 h)
      · have h := xif h c20
        refine x_aload_n (pc := 170) o dX10_readStatement_170 rfl rfl ?_
        refine x_iconst (pc := 171) o dX10_readStatement_171 ic_2 ?_
        obtain ⟨q18, hq18, h⟩ := xbs h
        refine x_callI (pc := 172) (As := [.int ((2 : Int32))]) (b := k0) (rest := []) o (tX10_takeNewName _ M _ n k0 ((2 : Int32)) q17.2 q18 hq18) eX10_takeNewName mX10_77 clX10 (kX10_takeNewName hq18) (by decide) rfl rfl (Nat.le_of_ble_eq_true rfl) dX10_readStatement_172 ?_
        refine x_iconst (pc := 175) o dX10_readStatement_175 ic_m1 ?_
        refine x_icmp_eq (pc := 176) (tgt := 183) o dX10_readStatement_176 (by decide) (fun c19 => ?_) (fun c19 => ?_)
        · have h := xit h c19
          refine x_iconst (pc := 183) o dX10_readStatement_183 ic_0 ?_
          exact x_zreturn (pc := 184) o hr dX10_readStatement_184 (by decide) (xr1 h) (xr2 h)
        · have h := xif h c19
          refine x_iconst (pc := 179) o dX10_readStatement_179 ic_1 ?_
          refine x_goto (pc := 180) (tgt := 184) o dX10_readStatement_180 (by decide) ?_
          exact x_zreturn (pc := 184) o hr dX10_readStatement_184 (by decide) (xr1 h) (xr2 h)
    have h := xif h c21
    by_cases c23 : v4 = (7 : Int32)
    · have h := xit h c23
      refine x_tableIn (pc := 26) (tgt := 206) o dX10_readStatement_26 (by rw [c23]; decide) (by rw [c23]; decide) (by rw [c23]; rfl) (by decide) ?_
      refine x_aload_n (pc := 206) o dX10_readStatement_206 rfl rfl ?_
      obtain ⟨q22, hq22, h⟩ := xbs h
      refine x_callI (pc := 207) (As := []) (b := k0) (rest := []) o (tX10_readKnows _ M _ n k0 S q22 hq22) eX10_readKnows mX10_84 clX10 (kX10_readKnows hq22) (by decide) rfl rfl (Nat.le_of_ble_eq_true rfl) dX10_readStatement_207 ?_
      obtain ⟨hz, h⟩ := xck h
      exact x_zreturn (pc := 210) o hr dX10_readStatement_210 hz (xr1 h) (xr2 h)
    have h := xif h c23
    by_cases c28 : v4 = (8 : Int32)
    · have h := xit h c28
      refine x_tableIn (pc := 26) (tgt := 185) o dX10_readStatement_26 (by rw [c28]; decide) (by rw [c28]; decide) (by rw [c28]; rfl) (by decide) ?_
      refine x_aload_n (pc := 185) o dX10_readStatement_185 rfl rfl ?_
      refine x_iconst (pc := 186) o dX10_readStatement_186 ic_3 ?_
      obtain ⟨q24, hq24, h⟩ := xbs h
      refine x_callI (pc := 187) (As := [.int ((3 : Int32))]) (b := k0) (rest := []) o (tX10_opensSort _ M _ n k0 ((3 : Int32)) S q24 hq24) eX10_opensSort mX10_68 clX10 (kX10_opensSort hq24) (by decide) rfl rfl (Nat.le_of_ble_eq_true rfl) dX10_readStatement_187 ?_
      refine x_if_eq (pc := 190) (tgt := 204) o dX10_readStatement_190 (by decide) (fun c27 => ?_) (fun c27 => ?_)
      · have h := xit h c27
        refine x_iconst (pc := 204) o dX10_readStatement_204 ic_0 ?_
        exact x_zreturn (pc := 205) o hr dX10_readStatement_205 (by decide) (xr1 h) (xr2 h)
      · have h := xif h c27
        refine x_aload_n (pc := 193) o dX10_readStatement_193 rfl rfl ?_
        obtain ⟨q25, hq25, h⟩ := xbs h
        refine x_callI (pc := 194) (As := []) (b := k0) (rest := []) o (tX10_readJob _ M _ n k0 q24.2 q25 hq25) eX10_readJob mX10_81 clX10 (kX10_readJob hq25) (by decide) rfl rfl (Nat.le_of_ble_eq_true rfl) dX10_readStatement_194 ?_
        refine x_if_eq (pc := 197) (tgt := 204) o dX10_readStatement_197 (by decide) (fun c26 => ?_) (fun c26 => ?_)
        · have h := xit h c26
          refine x_iconst (pc := 204) o dX10_readStatement_204 ic_0 ?_
          exact x_zreturn (pc := 205) o hr dX10_readStatement_205 (by decide) (xr1 h) (xr2 h)
        · have h := xif h c26
          refine x_iconst (pc := 200) o dX10_readStatement_200 ic_1 ?_
          refine x_goto (pc := 201) (tgt := 205) o dX10_readStatement_201 (by decide) ?_
          exact x_zreturn (pc := 205) o hr dX10_readStatement_205 (by decide) (xr1 h) (xr2 h)
    have h := xif h c28
    by_cases c30 : v4 = (11 : Int32)
    · have h := xit h c30
      refine x_tableIn (pc := 26) (tgt := 211) o dX10_readStatement_26 (by rw [c30]; decide) (by rw [c30]; decide) (by rw [c30]; rfl) (by decide) ?_
      refine x_aload_n (pc := 211) o dX10_readStatement_211 rfl rfl ?_
      obtain ⟨q29, hq29, h⟩ := xbs h
      refine x_callI (pc := 212) (As := []) (b := k0) (rest := []) o (tX10_readServes _ M _ n k0 S q29 hq29) eX10_readServes mX10_87 clX10 (kX10_readServes hq29) (by decide) rfl rfl (Nat.le_of_ble_eq_true rfl) dX10_readStatement_212 ?_
      obtain ⟨hz, h⟩ := xck h
      exact x_zreturn (pc := 215) o hr dX10_readStatement_215 hz (xr1 h) (xr2 h)
    have h := xif h c30
    by_cases c47 : v4 = (14 : Int32)
    · have h := xit h c47
      refine x_tableIn (pc := 26) (tgt := 216) o dX10_readStatement_26 (by rw [c47]; decide) (by rw [c47]; decide) (by rw [c47]; rfl) (by decide) ?_
      refine x_aload_n (pc := 216) o dX10_readStatement_216 rfl rfl ?_
      refine x_aload_n (pc := 217) o dX10_readStatement_217 rfl rfl ?_
      obtain ⟨r31, hr31, h⟩ := xbs h
      refine gX10_30 (pc := 218) o dX10_readStatement_218 hr31 ?_
      obtain ⟨r32, hr32, h⟩ := xbs h
      refine gX10_17 (pc := 221) o dX10_readStatement_221 hr32 ?_
      obtain ⟨v33, hv33, h⟩ := xbs h
      refine x_callI (pc := 224) (As := []) (b := r32) (rest := [.ref (M.2.1 k0)]) o (tX1_hasMay _ M _ r32 S v33 hv33) eX1_hasMay mX10_90 clX1 (kX1_hasMay hv33) (by decide) rfl rfl (Nat.le_of_ble_eq_true rfl) dX10_readStatement_224 ?_
      obtain ⟨q34, hq34, h⟩ := xbs h
      refine x_callI (pc := 227) (As := [.int v33]) (b := k0) (rest := []) o (tX10_opensRule _ M _ n k0 v33 S q34 hq34) eX10_opensRule mX10_95 clX10 (kX10_opensRule hq34) (by decide) rfl rfl (Nat.le_of_ble_eq_true rfl) dX10_readStatement_227 ?_
      refine x_if_eq (pc := 230) (tgt := 275) o dX10_readStatement_230 (by decide) (fun c46 => ?_) (fun c46 => ?_)
      · have h := xit h c46
        refine x_iconst (pc := 275) o dX10_readStatement_275 ic_0 ?_
        exact x_zreturn (pc := 276) o hr dX10_readStatement_276 (by decide) (xr1 h) (xr2 h)
      · have h := xif h c46
        refine x_aload_n (pc := 233) o dX10_readStatement_233 rfl rfl ?_
        obtain ⟨r35, hr35, h⟩ := xbs h
        refine gX10_26 (pc := 234) o dX10_readStatement_234 hr35 ?_
        refine x_aload_n (pc := 237) o dX10_readStatement_237 rfl rfl ?_
        obtain ⟨r36, hr36, h⟩ := xbs h
        refine gX10_30 (pc := 238) o dX10_readStatement_238 hr36 ?_
        obtain ⟨r37, hr37, h⟩ := xbs h
        refine gX10_17 (pc := 241) o dX10_readStatement_241 hr37 ?_
        obtain ⟨q38, hq38, h⟩ := xbs h
        refine x_callI (pc := 244) (As := [.ref (M.2.1 r37)]) (b := r35) (rest := []) o (tX5_beginMay _ M _ r35 r37 q34.2 q38 hq38) eX5_beginMay mX10_99 clX5 (kX5_beginMay hq38) (by decide) rfl rfl (Nat.le_of_ble_eq_true rfl) dX10_readStatement_244 ?_
        refine x_if_eq (pc := 247) (tgt := 275) o dX10_readStatement_247 (by decide) (fun c45 => ?_) (fun c45 => ?_)
        · have h := xit h c45
          refine x_iconst (pc := 275) o dX10_readStatement_275 ic_0 ?_
          exact x_zreturn (pc := 276) o hr dX10_readStatement_276 (by decide) (xr1 h) (xr2 h)
        · have h := xif h c45
          refine x_aload_n (pc := 250) o dX10_readStatement_250 rfl rfl ?_
          obtain ⟨r39, hr39, h⟩ := xbs h
          refine gX10_26 (pc := 251) o dX10_readStatement_251 hr39 ?_
          refine x_iconst (pc := 254) o dX10_readStatement_254 ic_0 ?_
          obtain ⟨q40, hq40, h⟩ := xbs h
          refine x_callI (pc := 255) (As := [.int ((0 : Int32))]) (b := r39) (rest := []) o (tX5_readTest _ M _ n r39 ((0 : Int32)) q38.2 q40 hq40) eX5_readTest mX10_103 clX5 (kX5_readTest hq40) (by decide) rfl rfl (Nat.le_of_ble_eq_true rfl) dX10_readStatement_255 ?_
          refine x_if_eq (pc := 258) (tgt := 275) o dX10_readStatement_258 (by decide) (fun c44 => ?_) (fun c44 => ?_)
          · have h := xit h c44
            refine x_iconst (pc := 275) o dX10_readStatement_275 ic_0 ?_
            exact x_zreturn (pc := 276) o hr dX10_readStatement_276 (by decide) (xr1 h) (xr2 h)
          · have h := xif h c44
            refine x_aload_n (pc := 261) o dX10_readStatement_261 rfl rfl ?_
            obtain ⟨r41, hr41, h⟩ := xbs h
            refine gX10_26 (pc := 262) o dX10_readStatement_262 hr41 ?_
            obtain ⟨q42, hq42, h⟩ := xbs h
            refine x_callI (pc := 265) (As := []) (b := r41) (rest := []) o (tX5_endMay _ M _ r41 q40.2 q42 hq42) eX5_endMay mX10_106 clX5 (kX5_endMay hq42) (by decide) rfl rfl (Nat.le_of_ble_eq_true rfl) dX10_readStatement_265 ?_
            refine x_if_eq (pc := 268) (tgt := 275) o dX10_readStatement_268 (by decide) (fun c43 => ?_) (fun c43 => ?_)
            · have h := xit h c43
              refine x_iconst (pc := 275) o dX10_readStatement_275 ic_0 ?_
              exact x_zreturn (pc := 276) o hr dX10_readStatement_276 (by decide) (xr1 h) (xr2 h)
            · have h := xif h c43
              refine x_iconst (pc := 271) o dX10_readStatement_271 ic_1 ?_
              refine x_goto (pc := 272) (tgt := 276) o dX10_readStatement_272 (by decide) ?_
              exact x_zreturn (pc := 276) o hr dX10_readStatement_276 (by decide) (xr1 h) (xr2 h)
    have h := xif h c47
    by_cases c64 : v4 = (15 : Int32)
    · have h := xit h c64
      refine x_tableIn (pc := 26) (tgt := 277) o dX10_readStatement_26 (by rw [c64]; decide) (by rw [c64]; decide) (by rw [c64]; rfl) (by decide) ?_
      refine x_aload_n (pc := 277) o dX10_readStatement_277 rfl rfl ?_
      refine x_aload_n (pc := 278) o dX10_readStatement_278 rfl rfl ?_
      obtain ⟨r48, hr48, h⟩ := xbs h
      refine gX10_30 (pc := 279) o dX10_readStatement_279 hr48 ?_
      obtain ⟨r49, hr49, h⟩ := xbs h
      refine gX10_17 (pc := 282) o dX10_readStatement_282 hr49 ?_
      obtain ⟨v50, hv50, h⟩ := xbs h
      refine x_callI (pc := 285) (As := []) (b := r49) (rest := [.ref (M.2.1 k0)]) o (tX1_hasWears _ M _ r49 S v50 hv50) eX1_hasWears mX10_109 clX1 (kX1_hasWears hv50) (by decide) rfl rfl (Nat.le_of_ble_eq_true rfl) dX10_readStatement_285 ?_
      obtain ⟨q51, hq51, h⟩ := xbs h
      refine x_callI (pc := 288) (As := [.int v50]) (b := k0) (rest := []) o (tX10_opensRule _ M _ n k0 v50 S q51 hq51) eX10_opensRule mX10_95 clX10 (kX10_opensRule hq51) (by decide) rfl rfl (Nat.le_of_ble_eq_true rfl) dX10_readStatement_288 ?_
      refine x_if_eq (pc := 291) (tgt := 336) o dX10_readStatement_291 (by decide) (fun c63 => ?_) (fun c63 => ?_)
      · have h := xit h c63
        refine x_iconst (pc := 336) o dX10_readStatement_336 ic_0 ?_
        exact x_zreturn (pc := 337) o hr dX10_readStatement_337 (by decide) (xr1 h) (xr2 h)
      · have h := xif h c63
        refine x_aload_n (pc := 294) o dX10_readStatement_294 rfl rfl ?_
        obtain ⟨r52, hr52, h⟩ := xbs h
        refine gX10_26 (pc := 295) o dX10_readStatement_295 hr52 ?_
        refine x_aload_n (pc := 298) o dX10_readStatement_298 rfl rfl ?_
        obtain ⟨r53, hr53, h⟩ := xbs h
        refine gX10_30 (pc := 299) o dX10_readStatement_299 hr53 ?_
        obtain ⟨r54, hr54, h⟩ := xbs h
        refine gX10_17 (pc := 302) o dX10_readStatement_302 hr54 ?_
        obtain ⟨q55, hq55, h⟩ := xbs h
        refine x_callI (pc := 305) (As := [.ref (M.2.1 r54)]) (b := r52) (rest := []) o (tX5_beginWears _ M _ r52 r54 q51.2 q55 hq55) eX5_beginWears mX10_112 clX5 (kX5_beginWears hq55) (by decide) rfl rfl (Nat.le_of_ble_eq_true rfl) dX10_readStatement_305 ?_
        refine x_if_eq (pc := 308) (tgt := 336) o dX10_readStatement_308 (by decide) (fun c62 => ?_) (fun c62 => ?_)
        · have h := xit h c62
          refine x_iconst (pc := 336) o dX10_readStatement_336 ic_0 ?_
          exact x_zreturn (pc := 337) o hr dX10_readStatement_337 (by decide) (xr1 h) (xr2 h)
        · have h := xif h c62
          refine x_aload_n (pc := 311) o dX10_readStatement_311 rfl rfl ?_
          obtain ⟨r56, hr56, h⟩ := xbs h
          refine gX10_26 (pc := 312) o dX10_readStatement_312 hr56 ?_
          refine x_iconst (pc := 315) o dX10_readStatement_315 ic_0 ?_
          obtain ⟨q57, hq57, h⟩ := xbs h
          refine x_callI (pc := 316) (As := [.int ((0 : Int32))]) (b := r56) (rest := []) o (tX5_readSum _ M _ n r56 ((0 : Int32)) q55.2 q57 hq57) eX5_readSum mX10_115 clX5 (kX5_readSum hq57) (by decide) rfl rfl (Nat.le_of_ble_eq_true rfl) dX10_readStatement_316 ?_
          refine x_if_eq (pc := 319) (tgt := 336) o dX10_readStatement_319 (by decide) (fun c61 => ?_) (fun c61 => ?_)
          · have h := xit h c61
            refine x_iconst (pc := 336) o dX10_readStatement_336 ic_0 ?_
            exact x_zreturn (pc := 337) o hr dX10_readStatement_337 (by decide) (xr1 h) (xr2 h)
          · have h := xif h c61
            refine x_aload_n (pc := 322) o dX10_readStatement_322 rfl rfl ?_
            obtain ⟨r58, hr58, h⟩ := xbs h
            refine gX10_26 (pc := 323) o dX10_readStatement_323 hr58 ?_
            obtain ⟨q59, hq59, h⟩ := xbs h
            refine x_callI (pc := 326) (As := []) (b := r58) (rest := []) o (tX5_endWears _ M _ r58 q57.2 q59 hq59) eX5_endWears mX10_118 clX5 (kX5_endWears hq59) (by decide) rfl rfl (Nat.le_of_ble_eq_true rfl) dX10_readStatement_326 ?_
            refine x_if_eq (pc := 329) (tgt := 336) o dX10_readStatement_329 (by decide) (fun c60 => ?_) (fun c60 => ?_)
            · have h := xit h c60
              refine x_iconst (pc := 336) o dX10_readStatement_336 ic_0 ?_
              exact x_zreturn (pc := 337) o hr dX10_readStatement_337 (by decide) (xr1 h) (xr2 h)
            · have h := xif h c60
              refine x_iconst (pc := 332) o dX10_readStatement_332 ic_1 ?_
              refine x_goto (pc := 333) (tgt := 337) o dX10_readStatement_333 (by decide) ?_
              exact x_zreturn (pc := 337) o hr dX10_readStatement_337 (by decide) (xr1 h) (xr2 h)
    have h := xif h c64
    by_cases c68 : v4 = (16 : Int32)
    · have h := xit h c68
      refine x_tableIn (pc := 26) (tgt := 338) o dX10_readStatement_26 (by rw [c68]; decide) (by rw [c68]; decide) (by rw [c68]; rfl) (by decide) ?_
      refine x_aload_n (pc := 338) o dX10_readStatement_338 rfl rfl ?_
      refine x_aload_n (pc := 339) o dX10_readStatement_339 rfl rfl ?_
      obtain ⟨r65, hr65, h⟩ := xbs h
      refine gX10_9 (pc := 340) o dX10_readStatement_340 hr65 ?_
      obtain ⟨v66, hv66, h⟩ := xbs h
      refine gX10_65 (pc := 343) o dX10_readStatement_343 hv66 ?_
      obtain ⟨q67, hq67, h⟩ := xbs h
      refine x_callI (pc := 346) (As := [.int v66]) (b := k0) (rest := []) o (tX10_readSetting _ M _ n k0 v66 S q67 hq67) eX10_readSetting mX10_121 clX10 (kX10_readSetting hq67) (by decide) rfl rfl (Nat.le_of_ble_eq_true rfl) dX10_readStatement_346 ?_
      obtain ⟨hz, h⟩ := xck h
      exact x_zreturn (pc := 349) o hr dX10_readStatement_349 hz (xr1 h) (xr2 h)
    have h := xif h c68
    by_cases c70 : v4 = (17 : Int32)
    · have h := xit h c70
      refine x_tableIn (pc := 26) (tgt := 350) o dX10_readStatement_26 (by rw [c70]; decide) (by rw [c70]; decide) (by rw [c70]; rfl) (by decide) ?_
      refine x_aload_n (pc := 350) o dX10_readStatement_350 rfl rfl ?_
      obtain ⟨q69, hq69, h⟩ := xbs h
      refine x_callI (pc := 351) (As := []) (b := k0) (rest := []) o (tX10_readSmith _ M _ n k0 S q69 hq69) eX10_readSmith mX10_124 clX10 (kX10_readSmith hq69) (by decide) rfl rfl (Nat.le_of_ble_eq_true rfl) dX10_readStatement_351 ?_
      obtain ⟨hz, h⟩ := xck h
      exact x_zreturn (pc := 354) o hr dX10_readStatement_354 hz (xr1 h) (xr2 h)
    have h := xif h c70
    by_cases c74 : v4 = (18 : Int32)
    · have h := xit h c74
      refine x_tableIn (pc := 26) (tgt := 338) o dX10_readStatement_26 (by rw [c74]; decide) (by rw [c74]; decide) (by rw [c74]; rfl) (by decide) ?_
      refine x_aload_n (pc := 338) o dX10_readStatement_338 rfl rfl ?_
      refine x_aload_n (pc := 339) o dX10_readStatement_339 rfl rfl ?_
      obtain ⟨r71, hr71, h⟩ := xbs h
      refine gX10_9 (pc := 340) o dX10_readStatement_340 hr71 ?_
      obtain ⟨v72, hv72, h⟩ := xbs h
      refine gX10_65 (pc := 343) o dX10_readStatement_343 hv72 ?_
      obtain ⟨q73, hq73, h⟩ := xbs h
      refine x_callI (pc := 346) (As := [.int v72]) (b := k0) (rest := []) o (tX10_readSetting _ M _ n k0 v72 S q73 hq73) eX10_readSetting mX10_121 clX10 (kX10_readSetting hq73) (by decide) rfl rfl (Nat.le_of_ble_eq_true rfl) dX10_readStatement_346 ?_
      obtain ⟨hz, h⟩ := xck h
      exact x_zreturn (pc := 349) o hr dX10_readStatement_349 hz (xr1 h) (xr2 h)
    have h := xif h c74
    by_cases c78 : v4 = (19 : Int32)
    · have h := xit h c78
      refine x_tableIn (pc := 26) (tgt := 338) o dX10_readStatement_26 (by rw [c78]; decide) (by rw [c78]; decide) (by rw [c78]; rfl) (by decide) ?_
      refine x_aload_n (pc := 338) o dX10_readStatement_338 rfl rfl ?_
      refine x_aload_n (pc := 339) o dX10_readStatement_339 rfl rfl ?_
      obtain ⟨r75, hr75, h⟩ := xbs h
      refine gX10_9 (pc := 340) o dX10_readStatement_340 hr75 ?_
      obtain ⟨v76, hv76, h⟩ := xbs h
      refine gX10_65 (pc := 343) o dX10_readStatement_343 hv76 ?_
      obtain ⟨q77, hq77, h⟩ := xbs h
      refine x_callI (pc := 346) (As := [.int v76]) (b := k0) (rest := []) o (tX10_readSetting _ M _ n k0 v76 S q77 hq77) eX10_readSetting mX10_121 clX10 (kX10_readSetting hq77) (by decide) rfl rfl (Nat.le_of_ble_eq_true rfl) dX10_readStatement_346 ?_
      obtain ⟨hz, h⟩ := xck h
      exact x_zreturn (pc := 349) o hr dX10_readStatement_349 hz (xr1 h) (xr2 h)
    have h := xif h c78
    by_cases c79 : v4 = (1 : Int32)
    · refine x_tableIn (pc := 26) (tgt := 355) o dX10_readStatement_26 (by rw [c79]; decide) (by rw [c79]; decide) (by rw [c79]; rfl) (by decide) ?_
      refine x_aload_n (pc := 355) o dX10_readStatement_355 rfl rfl ?_
      obtain ⟨r5, hr5, h⟩ := xbs h
      refine gX10_9 (pc := 356) o dX10_readStatement_356 hr5 ?_
      obtain ⟨q6, hq6, h⟩ := xbs h
      refine x_callI (pc := 359) (As := []) (b := r5) (rest := []) o (tX7_failHere _ M _ r5 S q6 hq6) eX7_failHere mX10_62 clX7 (kX7_failHere hq6) (by decide) rfl rfl (Nat.le_of_ble_eq_true rfl) dX10_readStatement_359 ?_
      obtain ⟨hz, h⟩ := xck h
      exact x_zreturn (pc := 362) o hr dX10_readStatement_362 hz (xr1 h) (xr2 h)
    by_cases c80 : v4 = (2 : Int32)
    · refine x_tableIn (pc := 26) (tgt := 355) o dX10_readStatement_26 (by rw [c80]; decide) (by rw [c80]; decide) (by rw [c80]; rfl) (by decide) ?_
      refine x_aload_n (pc := 355) o dX10_readStatement_355 rfl rfl ?_
      obtain ⟨r5, hr5, h⟩ := xbs h
      refine gX10_9 (pc := 356) o dX10_readStatement_356 hr5 ?_
      obtain ⟨q6, hq6, h⟩ := xbs h
      refine x_callI (pc := 359) (As := []) (b := r5) (rest := []) o (tX7_failHere _ M _ r5 S q6 hq6) eX7_failHere mX10_62 clX7 (kX7_failHere hq6) (by decide) rfl rfl (Nat.le_of_ble_eq_true rfl) dX10_readStatement_359 ?_
      obtain ⟨hz, h⟩ := xck h
      exact x_zreturn (pc := 362) o hr dX10_readStatement_362 hz (xr1 h) (xr2 h)
    by_cases c81 : v4 = (4 : Int32)
    · refine x_tableIn (pc := 26) (tgt := 355) o dX10_readStatement_26 (by rw [c81]; decide) (by rw [c81]; decide) (by rw [c81]; rfl) (by decide) ?_
      refine x_aload_n (pc := 355) o dX10_readStatement_355 rfl rfl ?_
      obtain ⟨r5, hr5, h⟩ := xbs h
      refine gX10_9 (pc := 356) o dX10_readStatement_356 hr5 ?_
      obtain ⟨q6, hq6, h⟩ := xbs h
      refine x_callI (pc := 359) (As := []) (b := r5) (rest := []) o (tX7_failHere _ M _ r5 S q6 hq6) eX7_failHere mX10_62 clX7 (kX7_failHere hq6) (by decide) rfl rfl (Nat.le_of_ble_eq_true rfl) dX10_readStatement_359 ?_
      obtain ⟨hz, h⟩ := xck h
      exact x_zreturn (pc := 362) o hr dX10_readStatement_362 hz (xr1 h) (xr2 h)
    by_cases c82 : v4 = (5 : Int32)
    · refine x_tableIn (pc := 26) (tgt := 355) o dX10_readStatement_26 (by rw [c82]; decide) (by rw [c82]; decide) (by rw [c82]; rfl) (by decide) ?_
      refine x_aload_n (pc := 355) o dX10_readStatement_355 rfl rfl ?_
      obtain ⟨r5, hr5, h⟩ := xbs h
      refine gX10_9 (pc := 356) o dX10_readStatement_356 hr5 ?_
      obtain ⟨q6, hq6, h⟩ := xbs h
      refine x_callI (pc := 359) (As := []) (b := r5) (rest := []) o (tX7_failHere _ M _ r5 S q6 hq6) eX7_failHere mX10_62 clX7 (kX7_failHere hq6) (by decide) rfl rfl (Nat.le_of_ble_eq_true rfl) dX10_readStatement_359 ?_
      obtain ⟨hz, h⟩ := xck h
      exact x_zreturn (pc := 362) o hr dX10_readStatement_362 hz (xr1 h) (xr2 h)
    by_cases c83 : v4 = (9 : Int32)
    · refine x_tableIn (pc := 26) (tgt := 355) o dX10_readStatement_26 (by rw [c83]; decide) (by rw [c83]; decide) (by rw [c83]; rfl) (by decide) ?_
      refine x_aload_n (pc := 355) o dX10_readStatement_355 rfl rfl ?_
      obtain ⟨r5, hr5, h⟩ := xbs h
      refine gX10_9 (pc := 356) o dX10_readStatement_356 hr5 ?_
      obtain ⟨q6, hq6, h⟩ := xbs h
      refine x_callI (pc := 359) (As := []) (b := r5) (rest := []) o (tX7_failHere _ M _ r5 S q6 hq6) eX7_failHere mX10_62 clX7 (kX7_failHere hq6) (by decide) rfl rfl (Nat.le_of_ble_eq_true rfl) dX10_readStatement_359 ?_
      obtain ⟨hz, h⟩ := xck h
      exact x_zreturn (pc := 362) o hr dX10_readStatement_362 hz (xr1 h) (xr2 h)
    by_cases c84 : v4 = (10 : Int32)
    · refine x_tableIn (pc := 26) (tgt := 355) o dX10_readStatement_26 (by rw [c84]; decide) (by rw [c84]; decide) (by rw [c84]; rfl) (by decide) ?_
      refine x_aload_n (pc := 355) o dX10_readStatement_355 rfl rfl ?_
      obtain ⟨r5, hr5, h⟩ := xbs h
      refine gX10_9 (pc := 356) o dX10_readStatement_356 hr5 ?_
      obtain ⟨q6, hq6, h⟩ := xbs h
      refine x_callI (pc := 359) (As := []) (b := r5) (rest := []) o (tX7_failHere _ M _ r5 S q6 hq6) eX7_failHere mX10_62 clX7 (kX7_failHere hq6) (by decide) rfl rfl (Nat.le_of_ble_eq_true rfl) dX10_readStatement_359 ?_
      obtain ⟨hz, h⟩ := xck h
      exact x_zreturn (pc := 362) o hr dX10_readStatement_362 hz (xr1 h) (xr2 h)
    by_cases c85 : v4 = (12 : Int32)
    · refine x_tableIn (pc := 26) (tgt := 355) o dX10_readStatement_26 (by rw [c85]; decide) (by rw [c85]; decide) (by rw [c85]; rfl) (by decide) ?_
      refine x_aload_n (pc := 355) o dX10_readStatement_355 rfl rfl ?_
      obtain ⟨r5, hr5, h⟩ := xbs h
      refine gX10_9 (pc := 356) o dX10_readStatement_356 hr5 ?_
      obtain ⟨q6, hq6, h⟩ := xbs h
      refine x_callI (pc := 359) (As := []) (b := r5) (rest := []) o (tX7_failHere _ M _ r5 S q6 hq6) eX7_failHere mX10_62 clX7 (kX7_failHere hq6) (by decide) rfl rfl (Nat.le_of_ble_eq_true rfl) dX10_readStatement_359 ?_
      obtain ⟨hz, h⟩ := xck h
      exact x_zreturn (pc := 362) o hr dX10_readStatement_362 hz (xr1 h) (xr2 h)
    by_cases c86 : v4 = (13 : Int32)
    · refine x_tableIn (pc := 26) (tgt := 355) o dX10_readStatement_26 (by rw [c86]; decide) (by rw [c86]; decide) (by rw [c86]; rfl) (by decide) ?_
      refine x_aload_n (pc := 355) o dX10_readStatement_355 rfl rfl ?_
      obtain ⟨r5, hr5, h⟩ := xbs h
      refine gX10_9 (pc := 356) o dX10_readStatement_356 hr5 ?_
      obtain ⟨q6, hq6, h⟩ := xbs h
      refine x_callI (pc := 359) (As := []) (b := r5) (rest := []) o (tX7_failHere _ M _ r5 S q6 hq6) eX7_failHere mX10_62 clX7 (kX7_failHere hq6) (by decide) rfl rfl (Nat.le_of_ble_eq_true rfl) dX10_readStatement_359 ?_
      obtain ⟨hz, h⟩ := xck h
      exact x_zreturn (pc := 362) o hr dX10_readStatement_362 hz (xr1 h) (xr2 h)
    refine x_tableOut (pc := 26) (tgt := 355) o dX10_readStatement_26 (by have := lv_neT c11 (a := 0) (by decide); have := lv_neT c16 (a := 3) (by decide); have := lv_neT c21 (a := 6) (by decide); have := lv_neT c23 (a := 7) (by decide); have := lv_neT c28 (a := 8) (by decide); have := lv_neT c30 (a := 11) (by decide); have := lv_neT c47 (a := 14) (by decide); have := lv_neT c64 (a := 15) (by decide); have := lv_neT c68 (a := 16) (by decide); have := lv_neT c70 (a := 17) (by decide); have := lv_neT c74 (a := 18) (by decide); have := lv_neT c78 (a := 19) (by decide); have := lv_neT c79 (a := 1) (by decide); have := lv_neT c80 (a := 2) (by decide); have := lv_neT c81 (a := 4) (by decide); have := lv_neT c82 (a := 5) (by decide); have := lv_neT c83 (a := 9) (by decide); have := lv_neT c84 (a := 10) (by decide); have := lv_neT c85 (a := 12) (by decide); have := lv_neT c86 (a := 13) (by decide); omega) (by decide) ?_
    refine x_aload_n (pc := 355) o dX10_readStatement_355 rfl rfl ?_
    obtain ⟨r5, hr5, h⟩ := xbs h
    refine gX10_9 (pc := 356) o dX10_readStatement_356 hr5 ?_
    obtain ⟨q6, hq6, h⟩ := xbs h
    refine x_callI (pc := 359) (As := []) (b := r5) (rest := []) o (tX7_failHere _ M _ r5 S q6 hq6) eX7_failHere mX10_62 clX7 (kX7_failHere hq6) (by decide) rfl rfl (Nat.le_of_ble_eq_true rfl) dX10_readStatement_359 ?_
    obtain ⟨hz, h⟩ := xck h
    exact x_zreturn (pc := 362) o hr dX10_readStatement_362 hz (xr1 h) (xr2 h)
  · have h := xif h c89
    refine x_aload_n (pc := 11) o dX10_readStatement_11 rfl rfl ?_
    obtain ⟨r87, hr87, h⟩ := xbs h
    refine gX10_9 (pc := 12) o dX10_readStatement_12 hr87 ?_
    obtain ⟨q88, hq88, h⟩ := xbs h
    refine x_callI (pc := 15) (As := []) (b := r87) (rest := []) o (tX7_failHere _ M _ r87 S q88 hq88) eX7_failHere mX10_62 clX7 (kX7_failHere hq88) (by decide) rfl rfl (Nat.le_of_ble_eq_true rfl) dX10_readStatement_15 ?_
    obtain ⟨hz, h⟩ := xck h
    exact x_zreturn (pc := 18) o hr dX10_readStatement_18 hz (xr1 h) (xr2 h)
