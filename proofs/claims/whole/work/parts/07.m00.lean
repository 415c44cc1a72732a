def fX0_forget (k0 : Nat) (S : xSt) : Option (xSt) :=
  if tC.1 k0 = 0 then
  ((xpI tC 0 7 k0 ((0 : Int32)) S).bind fun S1 =>
  (xpI tC 0 11 k0 ((0 : Int32)) S1).bind fun S2 =>
  some S2)
  else none
theorem kX0_forget {z : xSt} {k0 : Nat} {S : xSt} (h : fX0_forget k0 S = some z) : tC.1 k0 = 0 := by
  unfold fX0_forget at h
  exact (xck h).1
set_option maxHeartbeats 4000000 in
theorem tX0_forget (l : Launch) (M : xMg) (A : Nat → Prop) (k0 : Nat) (S : xSt) (z : xSt) (h : fX0_forget k0 S = some z) : xMV l yX0_forget cX0_forget 1 none 1 tC M A [.ref (M.2.1 k0)] S z := by
  refine x_metV (plainFor_of_name (by decide)) tC_ok (Nat.le_of_ble_eq_true rfl) (fun Γ hA hnL hl hr o => ?_)
  subst hA; subst hl
  have o : xOk Γ tC M 1 cX0_forget RX0 := o
  unfold fX0_forget at h
  obtain ⟨hk0, h⟩ := xck h
  refine x_to (l := [(0, .ref (M.2.1 k0))]) ⟨rfl, trivial⟩ ?_
  refine x_aload_n (pc := 0) o dX0_forget_0 rfl rfl ?_
  refine x_iconst (pc := 1) o dX0_forget_1 ic_0 ?_
  obtain ⟨S1, hS1, h⟩ := xbs h
  refine pX0_48 (pc := 2) o dX0_forget_2 hS1 ?_
  refine x_aload_n (pc := 5) o dX0_forget_5 rfl rfl ?_
  refine x_iconst (pc := 6) o dX0_forget_6 ic_0 ?_
  obtain ⟨S2, hS2, h⟩ := xbs h
  refine pX0_51 (pc := 7) o dX0_forget_7 hS2 ?_
  exact x_vreturn (pc := 10) o hr dX0_forget_10 (Option.some.inj h)
def fX0_turnTo (k0 : Nat) (k1 : Nat) (S : xSt) : Option (xSt) :=
  if tC.1 k0 = 0 then
  ((xpM tC 0 3 k0 k1 S).bind fun S1 =>
  (fX0_forget k0 S1).bind fun S2 =>
  some S2)
  else none
theorem kX0_turnTo {z : xSt} {k0 : Nat} {k1 : Nat} {S : xSt} (h : fX0_turnTo k0 k1 S = some z) : tC.1 k0 = 0 := by
  unfold fX0_turnTo at h
  exact (xck h).1
set_option maxHeartbeats 4000000 in
theorem tX0_turnTo (l : Launch) (M : xMg) (A : Nat → Prop) (k0 : Nat) (k1 : Nat) (S : xSt) (z : xSt) (h : fX0_turnTo k0 k1 S = some z) : xMV l yX0_turnTo cX0_turnTo 2 none 2 tC M A [.ref (M.2.1 k0), .ref (M.2.1 k1)] S z := by
  refine x_metV (plainFor_of_name (by decide)) tC_ok (Nat.le_of_ble_eq_true rfl) (fun Γ hA hnL hl hr o => ?_)
  subst hA; subst hl
  have o : xOk Γ tC M 2 cX0_turnTo RX0 := o
  unfold fX0_turnTo at h
  obtain ⟨hk0, h⟩ := xck h
  refine x_to (l := [(0, .ref (M.2.1 k0)), (1, .ref (M.2.1 k1))]) ⟨rfl, rfl, trivial⟩ ?_
  refine x_aload_n (pc := 0) o dX0_turnTo_0 rfl rfl ?_
  refine x_aload_n (pc := 1) o dX0_turnTo_1 rfl rfl ?_
  obtain ⟨S1, hS1, h⟩ := xbs h
  refine pX0_29 (pc := 2) o dX0_turnTo_2 hS1 ?_
  refine x_aload_n (pc := 5) o dX0_turnTo_5 rfl rfl ?_
  obtain ⟨S2, hS2, h⟩ := xbs h
  refine x_callV (pc := 6) (As := []) (b := k0) (rest := []) o (tX0_forget _ M _ k0 S1 S2 hS2) eX0_forget mX0_45 clX0 (kX0_forget hS2) (by decide) rfl rfl (Nat.le_of_ble_eq_true rfl) dX0_turnTo_6 ?_
  exact x_vreturn (pc := 9) o hr dX0_turnTo_9 (Option.some.inj h)
def fX8_copy (k0 : Nat) (k1 : Nat) (S : xSt) : Option (xSt) :=
  if tC.1 k0 = 8 then
  ((xgI tC 8 0 k1 S).bind fun v1 =>
  (xpI tC 8 0 k0 v1 S).bind fun S2 =>
  (xgI tC 8 1 k1 S2).bind fun v3 =>
  (xpI tC 8 1 k0 v3 S2).bind fun S4 =>
  (xgI tC 8 2 k1 S4).bind fun v5 =>
  (xpI tC 8 2 k0 v5 S4).bind fun S6 =>
  (xgI tC 8 3 k1 S6).bind fun v7 =>
  (xpI tC 8 3 k0 v7 S6).bind fun S8 =>
  (xgI tC 8 4 k1 S8).bind fun v9 =>
  (xpI tC 8 4 k0 v9 S8).bind fun S10 =>
  (xgF tC 8 5 k1 S10).bind fun r11 =>
  (xgF tC 8 5 k0 S10).bind fun r12 =>
  (xcp tC r11 ((0 : Int32)) r12 ((0 : Int32)) ((8 : Int32)) S10).bind fun S13 =>
  (xgF tC 8 6 k1 S13).bind fun r14 =>
  (xgF tC 8 6 k0 S13).bind fun r15 =>
  (xcp tC r14 ((0 : Int32)) r15 ((0 : Int32)) ((48 : Int32)) S13).bind fun S16 =>
  (xgF tC 8 7 k1 S16).bind fun r17 =>
  (xgF tC 8 7 k0 S16).bind fun r18 =>
  (xcp tC r17 ((0 : Int32)) r18 ((0 : Int32)) ((6 : Int32)) S16).bind fun S19 =>
  (xgF tC 8 8 k1 S19).bind fun r20 =>
  (xgF tC 8 8 k0 S19).bind fun r21 =>
  (xcp tC r20 ((0 : Int32)) r21 ((0 : Int32)) ((6 : Int32)) S19).bind fun S22 =>
  some S22)
  else none
theorem kX8_copy {z : xSt} {k0 : Nat} {k1 : Nat} {S : xSt} (h : fX8_copy k0 k1 S = some z) : tC.1 k0 = 8 := by
  unfold fX8_copy at h
  exact (xck h).1
set_option maxHeartbeats 4000000 in
theorem tX8_copy (l : Launch) (M : xMg) (A : Nat → Prop) (k0 : Nat) (k1 : Nat) (S : xSt) (z : xSt) (h : fX8_copy k0 k1 S = some z) : xMV l yX8_copy cX8_copy 2 none 2 tC M A [.ref (M.2.1 k0), .ref (M.2.1 k1)] S z := by
  refine x_metV (plainFor_of_name (by decide)) tC_ok (Nat.le_of_ble_eq_true rfl) (fun Γ hA hnL hl hr o => ?_)
  subst hA; subst hl
  have o : xOk Γ tC M 2 cX8_copy RX8 := o
  unfold fX8_copy at h
  obtain ⟨hk0, h⟩ := xck h
  refine x_to (l := [(0, .ref (M.2.1 k0)), (1, .ref (M.2.1 k1))]) ⟨rfl, rfl, trivial⟩ ?_
  refine x_aload_n (pc := 0) o dX8_copy_0 rfl rfl ?_
  refine x_aload_n (pc := 1) o dX8_copy_1 rfl rfl ?_
  obtain ⟨v1, hv1, h⟩ := xbs h
  refine gX8_24 (pc := 2) o dX8_copy_2 hv1 ?_
  obtain ⟨S2, hS2, h⟩ := xbs h
  refine pX8_24 (pc := 5) o dX8_copy_5 hS2 ?_
  refine x_aload_n (pc := 8) o dX8_copy_8 rfl rfl ?_
  refine x_aload_n (pc := 9) o dX8_copy_9 rfl rfl ?_
  obtain ⟨v3, hv3, h⟩ := xbs h
  refine gX8_28 (pc := 10) o dX8_copy_10 hv3 ?_
  obtain ⟨S4, hS4, h⟩ := xbs h
  refine pX8_28 (pc := 13) o dX8_copy_13 hS4 ?_
  refine x_aload_n (pc := 16) o dX8_copy_16 rfl rfl ?_
  refine x_aload_n (pc := 17) o dX8_copy_17 rfl rfl ?_
  obtain ⟨v5, hv5, h⟩ := xbs h
  refine gX8_31 (pc := 18) o dX8_copy_18 hv5 ?_
  obtain ⟨S6, hS6, h⟩ := xbs h
  refine pX8_31 (pc := 21) o dX8_copy_21 hS6 ?_
  refine x_aload_n (pc := 24) o dX8_copy_24 rfl rfl ?_
  refine x_aload_n (pc := 25) o dX8_copy_25 rfl rfl ?_
  obtain ⟨v7, hv7, h⟩ := xbs h
  refine gX8_34 (pc := 26) o dX8_copy_26 hv7 ?_
  obtain ⟨S8, hS8, h⟩ := xbs h
  refine pX8_34 (pc := 29) o dX8_copy_29 hS8 ?_
  refine x_aload_n (pc := 32) o dX8_copy_32 rfl rfl ?_
  refine x_aload_n (pc := 33) o dX8_copy_33 rfl rfl ?_
  obtain ⟨v9, hv9, h⟩ := xbs h
  refine gX8_37 (pc := 34) o dX8_copy_34 hv9 ?_
  obtain ⟨S10, hS10, h⟩ := xbs h
  refine pX8_37 (pc := 37) o dX8_copy_37 hS10 ?_
  refine x_aload_n (pc := 40) o dX8_copy_40 rfl rfl ?_
  obtain ⟨r11, hr11, h⟩ := xbs h
  refine gX8_9 (pc := 41) o dX8_copy_41 hr11 ?_
  refine x_iconst (pc := 44) o dX8_copy_44 ic_0 ?_
  refine x_aload_n (pc := 45) o dX8_copy_45 rfl rfl ?_
  obtain ⟨r12, hr12, h⟩ := xbs h
  refine gX8_9 (pc := 46) o dX8_copy_46 hr12 ?_
  refine x_iconst (pc := 49) o dX8_copy_49 ic_0 ?_
  refine x_bipush (pc := 50) o dX8_copy_50 bp_8 ?_
  obtain ⟨S13, hS13, h⟩ := xbs h
  refine x_copy (pc := 52) o mX8_40 w_cp1 w_cp2 w_cp3 (by decide) (by decide) dX8_copy_52 hS13 ?_
  refine x_aload_n (pc := 55) o dX8_copy_55 rfl rfl ?_
  obtain ⟨r14, hr14, h⟩ := xbs h
  refine gX8_15 (pc := 56) o dX8_copy_56 hr14 ?_
  refine x_iconst (pc := 59) o dX8_copy_59 ic_0 ?_
  refine x_aload_n (pc := 60) o dX8_copy_60 rfl rfl ?_
  obtain ⟨r15, hr15, h⟩ := xbs h
  refine gX8_15 (pc := 61) o dX8_copy_61 hr15 ?_
  refine x_iconst (pc := 64) o dX8_copy_64 ic_0 ?_
  refine x_bipush (pc := 65) o dX8_copy_65 bp_48 ?_
  obtain ⟨S16, hS16, h⟩ := xbs h
  refine x_copy (pc := 67) o mX8_40 w_cp1 w_cp2 w_cp3 (by decide) (by decide) dX8_copy_67 hS16 ?_
  refine x_aload_n (pc := 70) o dX8_copy_70 rfl rfl ?_
  obtain ⟨r17, hr17, h⟩ := xbs h
  refine gX8_18 (pc := 71) o dX8_copy_71 hr17 ?_
  refine x_iconst (pc := 74) o dX8_copy_74 ic_0 ?_
  refine x_aload_n (pc := 75) o dX8_copy_75 rfl rfl ?_
  obtain ⟨r18, hr18, h⟩ := xbs h
  refine gX8_18 (pc := 76) o dX8_copy_76 hr18 ?_
  refine x_iconst (pc := 79) o dX8_copy_79 ic_0 ?_
  refine x_bipush (pc := 80) o dX8_copy_80 bp_6 ?_
  obtain ⟨S19, hS19, h⟩ := xbs h
  refine x_copy (pc := 82) o mX8_40 w_cp1 w_cp2 w_cp3 (by decide) (by decide) dX8_copy_82 hS19 ?_
  refine x_aload_n (pc := 85) o dX8_copy_85 rfl rfl ?_
  obtain ⟨r20, hr20, h⟩ := xbs h
  refine gX8_21 (pc := 86) o dX8_copy_86 hr20 ?_
  refine x_iconst (pc := 89) o dX8_copy_89 ic_0 ?_
  refine x_aload_n (pc := 90) o dX8_copy_90 rfl rfl ?_
  obtain ⟨r21, hr21, h⟩ := xbs h
  refine gX8_21 (pc := 91) o dX8_copy_91 hr21 ?_
  refine x_iconst (pc := 94) o dX8_copy_94 ic_0 ?_
  refine x_bipush (pc := 95) o dX8_copy_95 bp_6 ?_
  obtain ⟨S22, hS22, h⟩ := xbs h
  refine x_copy (pc := 97) o mX8_40 w_cp1 w_cp2 w_cp3 (by decide) (by decide) dX8_copy_97 hS22 ?_
  exact x_vreturn (pc := 100) o hr dX8_copy_100 (Option.some.inj h)
def fX6_open_L36b (n : Nat) (k0 : Nat) (rec : Int32 → xSt → Option (xSt)) (a4 : Int32) (S : xSt) : Option (xSt) :=
  if ((6 : Int32)) ≤ a4 then
  (some S)
else
  ((xgF tC 6 1 k0 S).bind fun r8 =>
  (xas tC r8 a4 a4 S).bind fun S9 =>
  (some (a4 + (1 : Int32))).bind fun v10 =>
  rec v10 S9)
def fX6_open_L36 (n : Nat) (k0 : Nat) : Nat → Int32 → xSt → Option (xSt)
  | 0 => fun _ _ => none
  | q + 1 => fX6_open_L36b n k0 (fX6_open_L36 n k0 q)
set_option maxHeartbeats 4000000 in
theorem tX6_open_L36b {Γ : xGm} {M : xMg} (o : xOk Γ tC M 2 cX6_open RX6) (hnL : Γ.2.2.2 = 5) {rec : Int32 → xSt → Option (xSt)} (n : Nat) (k0 : Nat) (a4 : Int32) (S : xSt) (z : (xSt)) (hrec : ∀ (a4 : Int32) (S : xSt), rec a4 S = some z → xAt Γ tC M 36 (xlv [(0, .ref (M.2.1 k0)), (4, .int a4)]) [] S) (K : xAt Γ tC M 58 (xlv [(0, .ref (M.2.1 k0))]) [] z) (h : fX6_open_L36b n k0 rec a4 S = some z) : xAt Γ tC M 36 (xlv [(0, .ref (M.2.1 k0)), (4, .int a4)]) [] S := by
  have hn4 : 4 < Γ.2.2.2 := by omega
  unfold fX6_open_L36b at h
  refine x_iload (pc := 36) o dX6_open_36 rfl ?_
  refine x_bipush (pc := 38) o dX6_open_38 bp_6 ?_
  refine x_icmp_ge (pc := 40) (tgt := 58) o dX6_open_40 (by decide) (fun c11 => ?_) (fun c11 => ?_)
  · have h := xit h c11
    refine x_to (l := [(0, .ref (M.2.1 k0))]) ⟨rfl, trivial⟩ ?_
    cases Option.some.inj h
    exact K
  · have h := xif h c11
    refine x_aload_n (pc := 43) o dX6_open_43 rfl rfl ?_
    obtain ⟨r8, hr8, h⟩ := xbs h
    refine gX6_15 (pc := 44) o dX6_open_44 hr8 ?_
    refine x_iload (pc := 47) o dX6_open_47 rfl ?_
    refine x_iload (pc := 49) o dX6_open_49 rfl ?_
    obtain ⟨S9, hS9, h⟩ := xbs h
    refine x_iastore (pc := 51) o dX6_open_51 hS9 ?_
    obtain ⟨v10, hv10, h⟩ := xbs h
    refine x_iincE (pc := 52) o dX6_open_52 rfl ic_1 hn4 hv10 ?_
    refine x_goto (pc := 55) (tgt := 36) o dX6_open_55 (by decide) ?_
    refine x_to (l := [(0, .ref (M.2.1 k0)), (4, .int v10)]) ⟨rfl, rfl, trivial⟩ ?_
    exact hrec v10 S9 h
theorem tX6_open_L36 {Γ : xGm} {M : xMg} (o : xOk Γ tC M 2 cX6_open RX6) (hnL : Γ.2.2.2 = 5) (n : Nat) (k0 : Nat) (z : (xSt)) (K : xAt Γ tC M 58 (xlv [(0, .ref (M.2.1 k0))]) [] z) : ∀ (q : Nat) (a4 : Int32) (S : xSt), fX6_open_L36 n k0 q a4 S = some z → xAt Γ tC M 36 (xlv [(0, .ref (M.2.1 k0)), (4, .int a4)]) [] S := by
  intro q
  induction q with
  | zero => intro a4 S h; cases h
  | succ q ih => intro a4 S h; exact tX6_open_L36b o hnL n k0 a4 S z ih K h
def fX6_open (n : Nat) (k0 : Nat) (k1 : Nat) (k2 : Nat) (a3 : Int32) (S : xSt) : Option (xSt) :=
  if tC.1 k0 = 6 then
  ((xpM tC 6 4 k0 k1 S).bind fun S1 =>
  (xpM tC 6 5 k0 k2 S1).bind fun S2 =>
  (xpZ tC 6 6 k0 a3 S2).bind fun S3 =>
  (xgM tC 6 4 k0 S3).bind fun r4 =>
  (xgF tC 9 2 r4 S3).bind fun r5 =>
  (xgF tC 6 0 k0 S3).bind fun r6 =>
  (xcp tC r5 ((0 : Int32)) r6 ((0 : Int32)) ((6 : Int32)) S3).bind fun S7 =>
  (fX6_open_L36 n k0 n ((0 : Int32)) S7).bind fun z12 => (xpI tC 6 9 k0 ((0 : Int32)) z12).bind fun S13 =>
  (xpI tC 6 10 k0 ((0 : Int32)) S13).bind fun S14 =>
  some S14)
  else none
theorem kX6_open {z : xSt} {n : Nat} {k0 : Nat} {k1 : Nat} {k2 : Nat} {a3 : Int32} {S : xSt} (h : fX6_open n k0 k1 k2 a3 S = some z) : tC.1 k0 = 6 := by
  unfold fX6_open at h
  exact (xck h).1
set_option maxHeartbeats 4000000 in
theorem tX6_open (l : Launch) (M : xMg) (A : Nat → Prop) (n : Nat) (k0 : Nat) (k1 : Nat) (k2 : Nat) (a3 : Int32) (S : xSt) (z : xSt) (h : fX6_open n k0 k1 k2 a3 S = some z) : xMV l yX6_open cX6_open 5 none 2 tC M A [.ref (M.2.1 k0), .ref (M.2.1 k1), .ref (M.2.1 k2), .int a3] S z := by
  refine x_metV (plainFor_of_name (by decide)) tC_ok (Nat.le_of_ble_eq_true rfl) (fun Γ hA hnL hl hr o => ?_)
  subst hA; subst hl
  have o : xOk Γ tC M 2 cX6_open RX6 := o
  unfold fX6_open at h
  obtain ⟨hk0, h⟩ := xck h
  refine x_to (l := [(0, .ref (M.2.1 k0)), (1, .ref (M.2.1 k1)), (2, .ref (M.2.1 k2)), (3, .int a3)]) ⟨rfl, rfl, rfl, rfl, trivial⟩ ?_
  have hn4 : 4 < Γ.2.2.2 := by omega
  refine x_aload_n (pc := 0) o dX6_open_0 rfl rfl ?_
  refine x_aload_n (pc := 1) o dX6_open_1 rfl rfl ?_
  obtain ⟨S1, hS1, h⟩ := xbs h
  refine pX6_23 (pc := 2) o dX6_open_2 hS1 ?_
  refine x_aload_n (pc := 5) o dX6_open_5 rfl rfl ?_
  refine x_aload_n (pc := 6) o dX6_open_6 rfl rfl ?_
  obtain ⟨S2, hS2, h⟩ := xbs h
  refine pX6_27 (pc := 7) o dX6_open_7 hS2 ?_
  refine x_aload_n (pc := 10) o dX6_open_10 rfl rfl ?_
  refine x_iload_n (pc := 11) o dX6_open_11 rfl rfl ?_
  obtain ⟨S3, hS3, h⟩ := xbs h
  refine pX6_35 (pc := 12) o dX6_open_12 hS3 ?_
  refine x_aload_n (pc := 15) o dX6_open_15 rfl rfl ?_
  obtain ⟨r4, hr4, h⟩ := xbs h
  refine gX6_23 (pc := 16) o dX6_open_16 hr4 ?_
  obtain ⟨r5, hr5, h⟩ := xbs h
  refine gX6_39 (pc := 19) o dX6_open_19 hr5 ?_
  refine x_iconst (pc := 22) o dX6_open_22 ic_0 ?_
  refine x_aload_n (pc := 23) o dX6_open_23 rfl rfl ?_
  obtain ⟨r6, hr6, h⟩ := xbs h
  refine gX6_9 (pc := 24) o dX6_open_24 hr6 ?_
  refine x_iconst (pc := 27) o dX6_open_27 ic_0 ?_
  refine x_bipush (pc := 28) o dX6_open_28 bp_6 ?_
  obtain ⟨S7, hS7, h⟩ := xbs h
  refine x_copy (pc := 30) o mX6_44 w_cp1 w_cp2 w_cp3 (by decide) (by decide) dX6_open_30 hS7 ?_
  refine x_iconst (pc := 33) o dX6_open_33 ic_0 ?_
  refine x_istore (pc := 34) o dX6_open_34 hn4 ?_
  obtain ⟨z12, hz12, h⟩ := xbs h
  refine x_to (l := [(0, .ref (M.2.1 k0)), (4, .int ((0 : Int32)))]) ⟨rfl, rfl, trivial⟩ ?_
  refine tX6_open_L36 o hnL n k0 z12 ?_ n ((0 : Int32)) S7 hz12
  refine x_aload_n (pc := 58) o dX6_open_58 rfl rfl ?_
  refine x_iconst (pc := 59) o dX6_open_59 ic_0 ?_
  obtain ⟨S13, hS13, h⟩ := xbs h
  refine pX6_50 (pc := 60) o dX6_open_60 hS13 ?_
  refine x_aload_n (pc := 63) o dX6_open_63 rfl rfl ?_
  refine x_iconst (pc := 64) o dX6_open_64 ic_0 ?_
  obtain ⟨S14, hS14, h⟩ := xbs h
  refine pX6_54 (pc := 65) o dX6_open_65 hS14 ?_
  exact x_vreturn (pc := 68) o hr dX6_open_68 (Option.some.inj h)
def fX0_restart (n : Nat) (k0 : Nat) (S : xSt) : Option (xSt) :=
  if tC.1 k0 = 0 then
  ((xgF tC 0 1 k0 S).bind fun r1 =>
  (xgF tC 0 0 k0 S).bind fun r2 =>
  (fX8_copy r1 r2 S).bind fun S3 =>
  (xgF tC 0 2 k0 S3).bind fun r4 =>
  (xgM tC 0 3 k0 S3).bind fun r5 =>
  (xgF tC 0 1 k0 S3).bind fun r6 =>
  (fX6_open n r4 r5 r6 ((0 : Int32)) S3).bind fun S7 =>
  some S7)
  else none
theorem kX0_restart {z : xSt} {n : Nat} {k0 : Nat} {S : xSt} (h : fX0_restart n k0 S = some z) : tC.1 k0 = 0 := by
  unfold fX0_restart at h
  exact (xck h).1
set_option maxHeartbeats 4000000 in
theorem tX0_restart (l : Launch) (M : xMg) (A : Nat → Prop) (n : Nat) (k0 : Nat) (S : xSt) (z : xSt) (h : fX0_restart n k0 S = some z) : xMV l yX0_restart cX0_restart 1 none 3 tC M A [.ref (M.2.1 k0)] S z := by
  refine x_metV (plainFor_of_name (by decide)) tC_ok (Nat.le_of_ble_eq_true rfl) (fun Γ hA hnL hl hr o => ?_)
  subst hA; subst hl
  have o : xOk Γ tC M 3 cX0_restart RX0 := o
  unfold fX0_restart at h
  obtain ⟨hk0, h⟩ := xck h
  refine x_to (l := [(0, .ref (M.2.1 k0))]) ⟨rfl, trivial⟩ ?_
  refine x_aload_n (pc := 0) o dX0_restart_0 rfl rfl ?_
  obtain ⟨r1, hr1, h⟩ := xbs h
  refine gX0_12 (pc := 1) o dX0_restart_1 hr1 ?_
  refine x_aload_n (pc := 4) o dX0_restart_4 rfl rfl ?_
  obtain ⟨r2, hr2, h⟩ := xbs h
  refine gX0_33 (pc := 5) o dX0_restart_5 hr2 ?_
  obtain ⟨S3, hS3, h⟩ := xbs h
  refine x_callV (pc := 8) (As := [.ref (M.2.1 r2)]) (b := r1) (rest := []) o (tX8_copy _ M _ r1 r2 S S3 hS3) eX8_copy mX0_54 clX8 (kX8_copy hS3) (by decide) rfl rfl (Nat.le_of_ble_eq_true rfl) dX0_restart_8 ?_
  refine x_aload_n (pc := 11) o dX0_restart_11 rfl rfl ?_
  obtain ⟨r4, hr4, h⟩ := xbs h
  refine gX0_41 (pc := 12) o dX0_restart_12 hr4 ?_
  refine x_aload_n (pc := 15) o dX0_restart_15 rfl rfl ?_
  obtain ⟨r5, hr5, h⟩ := xbs h
  refine gX0_29 (pc := 16) o dX0_restart_16 hr5 ?_
  refine x_aload_n (pc := 19) o dX0_restart_19 rfl rfl ?_
  obtain ⟨r6, hr6, h⟩ := xbs h
  refine gX0_12 (pc := 20) o dX0_restart_20 hr6 ?_
  refine x_iconst (pc := 23) o dX0_restart_23 ic_0 ?_
  obtain ⟨S7, hS7, h⟩ := xbs h
  refine x_callV (pc := 24) (As := [.ref (M.2.1 r5), .ref (M.2.1 r6), .int ((0 : Int32))]) (b := r4) (rest := []) o (tX6_open _ M _ n r4 r5 r6 ((0 : Int32)) S3 S7 hS7) eX6_open mX0_58 clX6 (kX6_open hS7) (by decide) rfl rfl (Nat.le_of_ble_eq_true rfl) dX0_restart_24 ?_
  exact x_vreturn (pc := 27) o hr dX0_restart_27 (Option.some.inj h)
def fX6_mend_L38b (n : Nat) (k0 : Nat) (rec : Int32 → xSt → Option (xSt)) (a1 : Int32) (S : xSt) : Option (xSt) :=
  if ((8 : Int32)) ≤ a1 then
  (some S)
else
  ((xgM tC 6 5 k0 S).bind fun r9 =>
  (xgI tC 8 2 r9 S).bind fun v10 =>
  if ((v10 >>> (a1 &&& 31)) &&& ((1 : Int32))) = ((1 : Int32)) then
  ((xgM tC 6 5 k0 S).bind fun r12 =>
  (xgF tC 8 5 r12 S).bind fun r13 =>
  (xas tC r13 a1 ((0 : Int32)) S).bind fun S14 =>
  (some (a1 + (1 : Int32))).bind fun v15 =>
  rec v15 S14)
else
  ((some (a1 + (1 : Int32))).bind fun v11 =>
  rec v11 S))
def fX6_mend_L38 (n : Nat) (k0 : Nat) : Nat → Int32 → xSt → Option (xSt)
  | 0 => fun _ _ => none
  | q + 1 => fX6_mend_L38b n k0 (fX6_mend_L38 n k0 q)
set_option maxHeartbeats 4000000 in
theorem tX6_mend_L38b {Γ : xGm} {M : xMg} (o : xOk Γ tC M 1 cX6_mend RX6) (hnL : Γ.2.2.2 = 2) {rec : Int32 → xSt → Option (xSt)} (n : Nat) (k0 : Nat) (a1 : Int32) (S : xSt) (z : (xSt)) (hrec : ∀ (a1 : Int32) (S : xSt), rec a1 S = some z → xAt Γ tC M 38 (xlv [(0, .ref (M.2.1 k0)), (1, .int a1)]) [] S) (K : xAt Γ tC M 75 (xlv [(0, .ref (M.2.1 k0))]) [] z) (h : fX6_mend_L38b n k0 rec a1 S = some z) : xAt Γ tC M 38 (xlv [(0, .ref (M.2.1 k0)), (1, .int a1)]) [] S := by
  have hn1 : 1 < Γ.2.2.2 := by omega
  unfold fX6_mend_L38b at h
  refine x_iload_n (pc := 38) o dX6_mend_38 rfl rfl ?_
  refine x_bipush (pc := 39) o dX6_mend_39 bp_8 ?_
  refine x_icmp_ge (pc := 41) (tgt := 75) o dX6_mend_41 (by decide) (fun c17 => ?_) (fun c17 => ?_)
  · have h := xit h c17
    refine x_to (l := [(0, .ref (M.2.1 k0))]) ⟨rfl, trivial⟩ ?_
    cases Option.some.inj h
    exact K
  · have h := xif h c17
    refine x_aload_n (pc := 44) o dX6_mend_44 rfl rfl ?_
    obtain ⟨r9, hr9, h⟩ := xbs h
    refine gX6_27 (pc := 45) o dX6_mend_45 hr9 ?_
    obtain ⟨v10, hv10, h⟩ := xbs h
    refine gX6_94 (pc := 48) o dX6_mend_48 hv10 ?_
    refine x_iload_n (pc := 51) o dX6_mend_51 rfl rfl ?_
    refine x_ishr (pc := 52) o dX6_mend_52 ?_
    refine x_iconst (pc := 53) o dX6_mend_53 ic_1 ?_
    refine x_iand (pc := 54) o dX6_mend_54 ?_
    refine x_iconst (pc := 55) o dX6_mend_55 ic_1 ?_
    refine x_icmp_ne (pc := 56) (tgt := 69) o dX6_mend_56 (by decide) (fun c16 => ?_) (fun c16 => ?_)
    · have h := xif h c16
      obtain ⟨v11, hv11, h⟩ := xbs h
      refine x_iincE (pc := 69) o dX6_mend_69 rfl ic_1 hn1 hv11 ?_
      refine x_goto (pc := 72) (tgt := 38) o dX6_mend_72 (by decide) ?_
      refine x_to (l := [(0, .ref (M.2.1 k0)), (1, .int v11)]) ⟨rfl, rfl, trivial⟩ ?_
      exact hrec v11 S h
    · have h := xit h c16
      refine x_aload_n (pc := 59) o dX6_mend_59 rfl rfl ?_
      obtain ⟨r12, hr12, h⟩ := xbs h
      refine gX6_27 (pc := 60) o dX6_mend_60 hr12 ?_
      obtain ⟨r13, hr13, h⟩ := xbs h
      refine gX6_97 (pc := 63) o dX6_mend_63 hr13 ?_
      refine x_iload_n (pc := 66) o dX6_mend_66 rfl rfl ?_
      refine x_iconst (pc := 67) o dX6_mend_67 ic_0 ?_
      obtain ⟨S14, hS14, h⟩ := xbs h
      refine x_iastore (pc := 68) o dX6_mend_68 hS14 ?_
      obtain ⟨v15, hv15, h⟩ := xbs h
      refine x_iincE (pc := 69) o dX6_mend_69 rfl ic_1 hn1 hv15 ?_
      refine x_goto (pc := 72) (tgt := 38) o dX6_mend_72 (by decide) ?_
      refine x_to (l := [(0, .ref (M.2.1 k0)), (1, .int v15)]) ⟨rfl, rfl, trivial⟩ ?_
      exact hrec v15 S14 h
theorem tX6_mend_L38 {Γ : xGm} {M : xMg} (o : xOk Γ tC M 1 cX6_mend RX6) (hnL : Γ.2.2.2 = 2) (n : Nat) (k0 : Nat) (z : (xSt)) (K : xAt Γ tC M 75 (xlv [(0, .ref (M.2.1 k0))]) [] z) : ∀ (q : Nat) (a1 : Int32) (S : xSt), fX6_mend_L38 n k0 q a1 S = some z → xAt Γ tC M 38 (xlv [(0, .ref (M.2.1 k0)), (1, .int a1)]) [] S := by
  intro q
  induction q with
  | zero => intro a1 S h; cases h
  | succ q ih => intro a1 S h; exact tX6_mend_L38b o hnL n k0 a1 S z ih K h
def fX6_mend (n : Nat) (k0 : Nat) (S : xSt) : Option (xSt) :=
  if tC.1 k0 = 6 then
  ((xgM tC 6 4 k0 S).bind fun r1 =>
  (xgI tC 9 16 r1 S).bind fun v2 =>
  if v2 ≤ 0 then
  (some S)
else
  ((xgM tC 6 5 k0 S).bind fun r3 =>
  (xgI tC 8 0 r3 S).bind fun v4 =>
  (xgM tC 6 4 k0 S).bind fun r5 =>
  (xgI tC 9 16 r5 S).bind fun v6 =>
  if v6 = 0 then none else
  (xgM tC 6 4 k0 S).bind fun r7 =>
  (xgI tC 9 15 r7 S).bind fun v8 =>
  if (v4 - v4 / v6 * v6) = v8 then
  ((fX6_mend_L38 n k0 n ((0 : Int32)) S).bind fun z18 => (xgM tC 6 5 k0 z18).bind fun r19 =>
  (xpI tC 8 2 r19 ((0 : Int32)) z18).bind fun S20 =>
  some S20)
else
  (some S)))
  else none
theorem kX6_mend {z : xSt} {n : Nat} {k0 : Nat} {S : xSt} (h : fX6_mend n k0 S = some z) : tC.1 k0 = 6 := by
  unfold fX6_mend at h
  exact (xck h).1
set_option maxHeartbeats 4000000 in
theorem tX6_mend (l : Launch) (M : xMg) (A : Nat → Prop) (n : Nat) (k0 : Nat) (S : xSt) (z : xSt) (h : fX6_mend n k0 S = some z) : xMV l yX6_mend cX6_mend 2 none 1 tC M A [.ref (M.2.1 k0)] S z := by
  refine x_metV (plainFor_of_name (by decide)) tC_ok (Nat.le_of_ble_eq_true rfl) (fun Γ hA hnL hl hr o => ?_)
  subst hA; subst hl
  have o : xOk Γ tC M 1 cX6_mend RX6 := o
  unfold fX6_mend at h
  obtain ⟨hk0, h⟩ := xck h
  refine x_to (l := [(0, .ref (M.2.1 k0))]) ⟨rfl, trivial⟩ ?_
  have hn1 : 1 < Γ.2.2.2 := by omega
  refine x_aload_n (pc := 0) o dX6_mend_0 rfl rfl ?_
  obtain ⟨r1, hr1, h⟩ := xbs h
  refine gX6_23 (pc := 1) o dX6_mend_1 hr1 ?_
  obtain ⟨v2, hv2, h⟩ := xbs h
  refine gX6_88 (pc := 4) o dX6_mend_4 hv2 ?_
  refine x_if_le (pc := 7) (tgt := 35) o dX6_mend_7 (by decide) (fun c22 => ?_) (fun c22 => ?_)
  · have h := xit h c22
    exact x_vreturn (pc := 35) o hr dX6_mend_35 (Option.some.inj h)
  · have h := xif h c22
    refine x_aload_n (pc := 10) o dX6_mend_10 rfl rfl ?_
    obtain ⟨r3, hr3, h⟩ := xbs h
    refine gX6_27 (pc := 11) o dX6_mend_11 hr3 ?_
    obtain ⟨v4, hv4, h⟩ := xbs h
    refine gX6_66 (pc := 14) o dX6_mend_14 hv4 ?_
    refine x_aload_n (pc := 17) o dX6_mend_17 rfl rfl ?_
    obtain ⟨r5, hr5, h⟩ := xbs h
    refine gX6_23 (pc := 18) o dX6_mend_18 hr5 ?_
    obtain ⟨v6, hv6, h⟩ := xbs h
    refine gX6_88 (pc := 21) o dX6_mend_21 hv6 ?_
    obtain ⟨hq, h⟩ := xcn h
    refine x_irem (pc := 24) o dX6_mend_24 hq ?_
    refine x_aload_n (pc := 25) o dX6_mend_25 rfl rfl ?_
    obtain ⟨r7, hr7, h⟩ := xbs h
    refine gX6_23 (pc := 26) o dX6_mend_26 hr7 ?_
    obtain ⟨v8, hv8, h⟩ := xbs h
    refine gX6_91 (pc := 29) o dX6_mend_29 hv8 ?_
    refine x_icmp_eq (pc := 32) (tgt := 36) o dX6_mend_32 (by decide) (fun c21 => ?_) (fun c21 => ?_)
    · have h := xit h c21
      refine x_iconst (pc := 36) o dX6_mend_36 ic_0 ?_
      refine x_istore_n (pc := 37) o dX6_mend_37 rfl hn1 ?_
      obtain ⟨z18, hz18, h⟩ := xbs h
      refine x_to (l := [(0, .ref (M.2.1 k0)), (1, .int ((0 : Int32)))]) ⟨rfl, rfl, trivial⟩ ?_
      refine tX6_mend_L38 o hnL n k0 z18 ?_ n ((0 : Int32)) S hz18
      refine x_aload_n (pc := 75) o dX6_mend_75 rfl rfl ?_
      obtain ⟨r19, hr19, h⟩ := xbs h
      refine gX6_27 (pc := 76) o dX6_mend_76 hr19 ?_
      refine x_iconst (pc := 79) o dX6_mend_79 ic_0 ?_
      obtain ⟨S20, hS20, h⟩ := xbs h
      refine pX6_94 (pc := 80) o dX6_mend_80 hS20 ?_
      exact x_vreturn (pc := 83) o hr dX6_mend_83 (Option.some.inj h)
    · have h := xif h c21
      exact x_vreturn (pc := 35) o hr dX6_mend_35 (Option.some.inj h)
def fX9_count (k0 : Nat) (a1 : Int32) (S : xSt) : Option (Int32) :=
  if tC.1 k0 = 9 then
  (if a1 < 0 then
  (some ((0 : Int32)))
else
  (if ((4 : Int32)) ≤ a1 then
  (some ((0 : Int32)))
else
  ((xgF tC 9 1 k0 S).bind fun r1 =>
  (xal tC r1 a1 S).bind fun v2 =>
  some v2)))
  else none
theorem kX9_count {z : Int32} {k0 : Nat} {a1 : Int32} {S : xSt} (h : fX9_count k0 a1 S = some z) : tC.1 k0 = 9 := by
  unfold fX9_count at h
  exact (xck h).1
set_option maxHeartbeats 4000000 in
theorem tX9_count (l : Launch) (M : xMg) (A : Nat → Prop) (k0 : Nat) (a1 : Int32) (S : xSt) (z : Int32) (h : fX9_count k0 a1 S = some z) : xMI l yX9_count cX9_count 2 (some .int) 1 tC M A [.ref (M.2.1 k0), .int a1] S z S := by
  refine x_metI (plainFor_of_name (by decide)) tC_ok (Nat.le_of_ble_eq_true rfl) (fun Γ hA hnL hl hr o => ?_)
  subst hA; subst hl
  have o : xOk Γ tC M 1 cX9_count RX9 := o
  unfold fX9_count at h
  obtain ⟨hk0, h⟩ := xck h
  refine x_to (l := [(0, .ref (M.2.1 k0)), (1, .int a1)]) ⟨rfl, rfl, trivial⟩ ?_
  refine x_iload_n (pc := 0) o dX9_count_0 rfl rfl ?_
  refine x_if_lt (pc := 1) (tgt := 18) o dX9_count_1 (by decide) (fun c4 => ?_) (fun c4 => ?_)
  · have h := xit h c4
    refine x_iconst (pc := 18) o dX9_count_18 ic_0 ?_
    exact x_ireturn (pc := 19) o hr dX9_count_19 (Option.some.inj h) rfl
  · have h := xif h c4
    refine x_iload_n (pc := 4) o dX9_count_4 rfl rfl ?_
    refine x_iconst (pc := 5) o dX9_count_5 ic_4 ?_
    refine x_icmp_ge (pc := 6) (tgt := 18) o dX9_count_6 (by decide) (fun c3 => ?_) (fun c3 => ?_)
    · have h := xit h c3
      refine x_iconst (pc := 18) o dX9_count_18 ic_0 ?_
      exact x_ireturn (pc := 19) o hr dX9_count_19 (Option.some.inj h) rfl
    · have h := xif h c3
      refine x_aload_n (pc := 9) o dX9_count_9 rfl rfl ?_
      obtain ⟨r1, hr1, h⟩ := xbs h
      refine gX9_15 (pc := 10) o dX9_count_10 hr1 ?_
      refine x_iload_n (pc := 13) o dX9_count_13 rfl rfl ?_
      obtain ⟨v2, hv2, h⟩ := xbs h
      refine x_iaload (pc := 14) o dX9_count_14 hv2 ?_
      refine x_goto (pc := 15) (tgt := 19) o dX9_count_15 (by decide) ?_
      exact x_ireturn (pc := 19) o hr dX9_count_19 (Option.some.inj h) rfl
def fX9_holds (k0 : Nat) (a1 : Int32) (a2 : Int32) (S : xSt) : Option (Int32) :=
  if tC.1 k0 = 9 then
  (if a1 < 0 then
  (some ((0 : Int32)))
else
  (if ((4 : Int32)) ≤ a1 then
  (some ((0 : Int32)))
else
  (if a2 < 0 then
  (some ((0 : Int32)))
else
  ((xgF tC 9 1 k0 S).bind fun r1 =>
  (xal tC r1 a1 S).bind fun v2 =>
  if v2 ≤ a2 then
  (some ((0 : Int32)))
else
  (some ((1 : Int32)))))))
  else none
theorem kX9_holds {z : Int32} {k0 : Nat} {a1 : Int32} {a2 : Int32} {S : xSt} (h : fX9_holds k0 a1 a2 S = some z) : tC.1 k0 = 9 := by
  unfold fX9_holds at h
  exact (xck h).1
set_option maxHeartbeats 4000000 in
theorem tX9_holds (l : Launch) (M : xMg) (A : Nat → Prop) (k0 : Nat) (a1 : Int32) (a2 : Int32) (S : xSt) (z : Int32) (h : fX9_holds k0 a1 a2 S = some z) : xMI l yX9_holds cX9_holds 3 (some .boolean) 1 tC M A [.ref (M.2.1 k0), .int a1, .int a2] S z S := by
  refine x_metI (plainFor_of_name (by decide)) tC_ok (Nat.le_of_ble_eq_true rfl) (fun Γ hA hnL hl hr o => ?_)
  subst hA; subst hl
  have o : xOk Γ tC M 1 cX9_holds RX9 := o
  unfold fX9_holds at h
  obtain ⟨hk0, h⟩ := xck h
  refine x_to (l := [(0, .ref (M.2.1 k0)), (1, .int a1), (2, .int a2)]) ⟨rfl, rfl, rfl, trivial⟩ ?_
  refine x_iload_n (pc := 0) o dX9_holds_0 rfl rfl ?_
  refine x_if_lt (pc := 1) (tgt := 27) o dX9_holds_1 (by decide) (fun c6 => ?_) (fun c6 => ?_)
  · have h := xit h c6
    refine x_iconst (pc := 27) o dX9_holds_27 ic_0 ?_
    exact x_zreturn (pc := 28) o hr dX9_holds_28 (by decide) (Option.some.inj h) rfl
  · have h := xif h c6
    refine x_iload_n (pc := 4) o dX9_holds_4 rfl rfl ?_
    refine x_iconst (pc := 5) o dX9_holds_5 ic_4 ?_
    refine x_icmp_ge (pc := 6) (tgt := 27) o dX9_holds_6 (by decide) (fun c5 => ?_) (fun c5 => ?_)
    · have h := xit h c5
      refine x_iconst (pc := 27) o dX9_holds_27 ic_0 ?_
      exact x_zreturn (pc := 28) o hr dX9_holds_28 (by decide) (Option.some.inj h) rfl
    · have h := xif h c5
      refine x_iload_n (pc := 9) o dX9_holds_9 rfl rfl ?_
      refine x_if_lt (pc := 10) (tgt := 27) o dX9_holds_10 (by decide) (fun c4 => ?_) (fun c4 => ?_)
      · have h := xit h c4
        refine x_iconst (pc := 27) o dX9_holds_27 ic_0 ?_
        exact x_zreturn (pc := 28) o hr dX9_holds_28 (by decide) (Option.some.inj h) rfl
      · have h := xif h c4
        refine x_iload_n (pc := 13) o dX9_holds_13 rfl rfl ?_
        refine x_aload_n (pc := 14) o dX9_holds_14 rfl rfl ?_
        obtain ⟨r1, hr1, h⟩ := xbs h
        refine gX9_15 (pc := 15) o dX9_holds_15 hr1 ?_
        refine x_iload_n (pc := 18) o dX9_holds_18 rfl rfl ?_
        obtain ⟨v2, hv2, h⟩ := xbs h
        refine x_iaload (pc := 19) o dX9_holds_19 hv2 ?_
        refine x_icmp_ge (pc := 20) (tgt := 27) o dX9_holds_20 (by decide) (fun c3 => ?_) (fun c3 => ?_)
        · have h := xit h c3
          refine x_iconst (pc := 27) o dX9_holds_27 ic_0 ?_
          exact x_zreturn (pc := 28) o hr dX9_holds_28 (by decide) (Option.some.inj h) rfl
        · have h := xif h c3
          refine x_iconst (pc := 23) o dX9_holds_23 ic_1 ?_
          refine x_goto (pc := 24) (tgt := 28) o dX9_holds_24 (by decide) ?_
          exact x_zreturn (pc := 28) o hr dX9_holds_28 (by decide) (Option.some.inj h) rfl
def fX8_isFinished (k0 : Nat) (a1 : Int32) (k2 : Nat) (S : xSt) : Option (Int32) :=
  if tC.1 k0 = 8 then
  (if a1 < 0 then
  (some ((0 : Int32)))
else
  (if ((6 : Int32)) ≤ a1 then
  (some ((0 : Int32)))
else
  ((xgF tC 8 7 k0 S).bind fun r1 =>
  (xal tC r1 a1 S).bind fun v2 =>
  (xgF tC 9 8 k2 S).bind fun r3 =>
  (xal tC r3 a1 S).bind fun v4 =>
  if v2 < v4 then
  (some ((0 : Int32)))
else
  (some ((1 : Int32))))))
  else none
theorem kX8_isFinished {z : Int32} {k0 : Nat} {a1 : Int32} {k2 : Nat} {S : xSt} (h : fX8_isFinished k0 a1 k2 S = some z) : tC.1 k0 = 8 := by
  unfold fX8_isFinished at h
  exact (xck h).1
set_option maxHeartbeats 4000000 in
theorem tX8_isFinished (l : Launch) (M : xMg) (A : Nat → Prop) (k0 : Nat) (a1 : Int32) (k2 : Nat) (S : xSt) (z : Int32) (h : fX8_isFinished k0 a1 k2 S = some z) : xMI l yX8_isFinished cX8_isFinished 3 (some .boolean) 1 tC M A [.ref (M.2.1 k0), .int a1, .ref (M.2.1 k2)] S z S := by
  refine x_metI (plainFor_of_name (by decide)) tC_ok (Nat.le_of_ble_eq_true rfl) (fun Γ hA hnL hl hr o => ?_)
  subst hA; subst hl
  have o : xOk Γ tC M 1 cX8_isFinished RX8 := o
  unfold fX8_isFinished at h
  obtain ⟨hk0, h⟩ := xck h
  refine x_to (l := [(0, .ref (M.2.1 k0)), (1, .int a1), (2, .ref (M.2.1 k2))]) ⟨rfl, rfl, rfl, trivial⟩ ?_
  refine x_iload_n (pc := 0) o dX8_isFinished_0 rfl rfl ?_
  refine x_if_lt (pc := 1) (tgt := 29) o dX8_isFinished_1 (by decide) (fun c7 => ?_) (fun c7 => ?_)
  · have h := xit h c7
    refine x_iconst (pc := 29) o dX8_isFinished_29 ic_0 ?_
    exact x_zreturn (pc := 30) o hr dX8_isFinished_30 (by decide) (Option.some.inj h) rfl
  · have h := xif h c7
    refine x_iload_n (pc := 4) o dX8_isFinished_4 rfl rfl ?_
    refine x_bipush (pc := 5) o dX8_isFinished_5 bp_6 ?_
    refine x_icmp_ge (pc := 7) (tgt := 29) o dX8_isFinished_7 (by decide) (fun c6 => ?_) (fun c6 => ?_)
    · have h := xit h c6
      refine x_iconst (pc := 29) o dX8_isFinished_29 ic_0 ?_
      exact x_zreturn (pc := 30) o hr dX8_isFinished_30 (by decide) (Option.some.inj h) rfl
    · have h := xif h c6
      refine x_aload_n (pc := 10) o dX8_isFinished_10 rfl rfl ?_
      obtain ⟨r1, hr1, h⟩ := xbs h
      refine gX8_18 (pc := 11) o dX8_isFinished_11 hr1 ?_
      refine x_iload_n (pc := 14) o dX8_isFinished_14 rfl rfl ?_
      obtain ⟨v2, hv2, h⟩ := xbs h
      refine x_iaload (pc := 15) o dX8_isFinished_15 hv2 ?_
      refine x_aload_n (pc := 16) o dX8_isFinished_16 rfl rfl ?_
      obtain ⟨r3, hr3, h⟩ := xbs h
      refine gX8_59 (pc := 17) o dX8_isFinished_17 hr3 ?_
      refine x_iload_n (pc := 20) o dX8_isFinished_20 rfl rfl ?_
      obtain ⟨v4, hv4, h⟩ := xbs h
      refine x_iaload (pc := 21) o dX8_isFinished_21 hv4 ?_
      refine x_icmp_lt (pc := 22) (tgt := 29) o dX8_isFinished_22 (by decide) (fun c5 => ?_) (fun c5 => ?_)
      · have h := xit h c5
        refine x_iconst (pc := 29) o dX8_isFinished_29 ic_0 ?_
        exact x_zreturn (pc := 30) o hr dX8_isFinished_30 (by decide) (Option.some.inj h) rfl
      · have h := xif h c5
        refine x_iconst (pc := 25) o dX8_isFinished_25 ic_1 ?_
        refine x_goto (pc := 26) (tgt := 30) o dX8_isFinished_26 (by decide) ?_
        exact x_zreturn (pc := 30) o hr dX8_isFinished_30 (by decide) (Option.some.inj h) rfl
def fX9_hasStep_B19 (k0 : Nat) (a1 : Int32) (a2 : Int32) (s0 : Int32) (S : xSt) : Option (Int32) :=
  if s0 = 0 then
  (some ((0 : Int32)))
else
  (if a2 < 0 then
  (some ((0 : Int32)))
else
  ((xgF tC 9 8 k0 S).bind fun r1 =>
  (xal tC r1 a1 S).bind fun v2 =>
  if v2 ≤ a2 then
  (some ((0 : Int32)))
else
  (if ((4 : Int32)) ≤ a2 then
  (some ((0 : Int32)))
else
  (some ((1 : Int32))))))
set_option maxHeartbeats 4000000 in
theorem tX9_hasStep_B19 {Γ : xGm} {M : xMg} (o : xOk Γ tC M 1 cX9_hasStep RX9) (hnL : Γ.2.2.2 = 4) (k0 : Nat) (a1 : Int32) (a2 : Int32) (s0 : Int32) (S : xSt) (z : (Int32)) (hr : xRI Γ tC M (some .boolean) z S) (h : fX9_hasStep_B19 k0 a1 a2 s0 S = some z) : xAt Γ tC M 19 (xlv [(0, .ref (M.2.1 k0)), (1, .int a1), (2, .int a2)]) [.int s0] S := by
  have hn3 : 3 < Γ.2.2.2 := by omega
  unfold fX9_hasStep_B19 at h
  refine x_istore_n (pc := 19) o dX9_hasStep_19 rfl hn3 ?_
  refine x_iload_n (pc := 20) o dX9_hasStep_20 rfl rfl ?_
  refine x_if_eq (pc := 21) (tgt := 47) o dX9_hasStep_21 (by decide) (fun c6 => ?_) (fun c6 => ?_)
  · have h := xit h c6
    refine x_iconst (pc := 47) o dX9_hasStep_47 ic_0 ?_
    exact x_zreturn (pc := 48) o hr dX9_hasStep_48 (by decide) (Option.some.inj h) rfl
  · have h := xif h c6
    refine x_iload_n (pc := 24) o dX9_hasStep_24 rfl rfl ?_
    refine x_if_lt (pc := 25) (tgt := 47) o dX9_hasStep_25 (by decide) (fun c5 => ?_) (fun c5 => ?_)
    · have h := xit h c5
      refine x_iconst (pc := 47) o dX9_hasStep_47 ic_0 ?_
      exact x_zreturn (pc := 48) o hr dX9_hasStep_48 (by decide) (Option.some.inj h) rfl
    · have h := xif h c5
      refine x_iload_n (pc := 28) o dX9_hasStep_28 rfl rfl ?_
      refine x_aload_n (pc := 29) o dX9_hasStep_29 rfl rfl ?_
      obtain ⟨r1, hr1, h⟩ := xbs h
      refine gX9_36 (pc := 30) o dX9_hasStep_30 hr1 ?_
      refine x_iload_n (pc := 33) o dX9_hasStep_33 rfl rfl ?_
      obtain ⟨v2, hv2, h⟩ := xbs h
      refine x_iaload (pc := 34) o dX9_hasStep_34 hv2 ?_
      refine x_icmp_ge (pc := 35) (tgt := 47) o dX9_hasStep_35 (by decide) (fun c4 => ?_) (fun c4 => ?_)
      · have h := xit h c4
        refine x_iconst (pc := 47) o dX9_hasStep_47 ic_0 ?_
        exact x_zreturn (pc := 48) o hr dX9_hasStep_48 (by decide) (Option.some.inj h) rfl
      · have h := xif h c4
        refine x_iload_n (pc := 38) o dX9_hasStep_38 rfl rfl ?_
        refine x_iconst (pc := 39) o dX9_hasStep_39 ic_4 ?_
        refine x_icmp_ge (pc := 40) (tgt := 47) o dX9_hasStep_40 (by decide) (fun c3 => ?_) (fun c3 => ?_)
        · have h := xit h c3
          refine x_iconst (pc := 47) o dX9_hasStep_47 ic_0 ?_
          exact x_zreturn (pc := 48) o hr dX9_hasStep_48 (by decide) (Option.some.inj h) rfl
        · have h := xif h c3
          refine x_iconst (pc := 43) o dX9_hasStep_43 ic_1 ?_
          refine x_goto (pc := 44) (tgt := 48) o dX9_hasStep_44 (by decide) ?_
          exact x_zreturn (pc := 48) o hr dX9_hasStep_48 (by decide) (Option.some.inj h) rfl
def fX9_hasStep_B18 (k0 : Nat) (a1 : Int32) (a2 : Int32) (S : xSt) : Option (Int32) :=
  fX9_hasStep_B19 k0 a1 a2 ((0 : Int32)) S
set_option maxHeartbeats 4000000 in
theorem tX9_hasStep_B18 {Γ : xGm} {M : xMg} (o : xOk Γ tC M 1 cX9_hasStep RX9) (hnL : Γ.2.2.2 = 4) (k0 : Nat) (a1 : Int32) (a2 : Int32) (S : xSt) (z : (Int32)) (hr : xRI Γ tC M (some .boolean) z S) (h : fX9_hasStep_B18 k0 a1 a2 S = some z) : xAt Γ tC M 18 (xlv [(0, .ref (M.2.1 k0)), (1, .int a1), (2, .int a2)]) [] S := by
  unfold fX9_hasStep_B18 at h
  refine x_iconst (pc := 18) o dX9_hasStep_18 ic_0 ?_
  refine x_to (l := [(0, .ref (M.2.1 k0)), (1, .int a1), (2, .int a2)]) ⟨rfl, rfl, rfl, trivial⟩ ?_
  exact tX9_hasStep_B19 o hnL k0 a1 a2 ((0 : Int32)) S z hr h
def fX9_hasStep (k0 : Nat) (a1 : Int32) (a2 : Int32) (S : xSt) : Option (Int32) :=
  if tC.1 k0 = 9 then
  (if a1 < 0 then
  (fX9_hasStep_B18 k0 a1 a2 S)
else
  ((xgF tC 9 1 k0 S).bind fun r7 =>
  (xal tC r7 ((3 : Int32)) S).bind fun v8 =>
  if v8 ≤ a1 then
  (fX9_hasStep_B18 k0 a1 a2 S)
else
  (fX9_hasStep_B19 k0 a1 a2 ((1 : Int32)) S)))
  else none
theorem kX9_hasStep {z : Int32} {k0 : Nat} {a1 : Int32} {a2 : Int32} {S : xSt} (h : fX9_hasStep k0 a1 a2 S = some z) : tC.1 k0 = 9 := by
  unfold fX9_hasStep at h
  exact (xck h).1
set_option maxHeartbeats 4000000 in
theorem tX9_hasStep (l : Launch) (M : xMg) (A : Nat → Prop) (k0 : Nat) (a1 : Int32) (a2 : Int32) (S : xSt) (z : Int32) (h : fX9_hasStep k0 a1 a2 S = some z) : xMI l yX9_hasStep cX9_hasStep 4 (some .boolean) 1 tC M A [.ref (M.2.1 k0), .int a1, .int a2] S z S := by
  refine x_metI (plainFor_of_name (by decide)) tC_ok (Nat.le_of_ble_eq_true rfl) (fun Γ hA hnL hl hr o => ?_)
  subst hA; subst hl
  have o : xOk Γ tC M 1 cX9_hasStep RX9 := o
  unfold fX9_hasStep at h
  obtain ⟨hk0, h⟩ := xck h
  refine x_to (l := [(0, .ref (M.2.1 k0)), (1, .int a1), (2, .int a2)]) ⟨rfl, rfl, rfl, trivial⟩ ?_
  refine x_iload_n (pc := 0) o dX9_hasStep_0 rfl rfl ?_
  refine x_if_lt (pc := 1) (tgt := 18) o dX9_hasStep_1 (by decide) (fun c10 => ?_) (fun c10 => ?_)
  · have h := xit h c10
    refine x_to (l := [(0, .ref (M.2.1 k0)), (1, .int a1), (2, .int a2)]) ⟨rfl, rfl, rfl, trivial⟩ ?_
    exact tX9_hasStep_B18 o hnL k0 a1 a2 S z hr h
  · have h := xif h c10
    refine x_iload_n (pc := 4) o dX9_hasStep_4 rfl rfl ?_
    refine x_aload_n (pc := 5) o dX9_hasStep_5 rfl rfl ?_
    obtain ⟨r7, hr7, h⟩ := xbs h
    refine gX9_15 (pc := 6) o dX9_hasStep_6 hr7 ?_
    refine x_iconst (pc := 9) o dX9_hasStep_9 ic_3 ?_
    obtain ⟨v8, hv8, h⟩ := xbs h
    refine x_iaload (pc := 10) o dX9_hasStep_10 hv8 ?_
    refine x_icmp_ge (pc := 11) (tgt := 18) o dX9_hasStep_11 (by decide) (fun c9 => ?_) (fun c9 => ?_)
    · have h := xit h c9
      refine x_to (l := [(0, .ref (M.2.1 k0)), (1, .int a1), (2, .int a2)]) ⟨rfl, rfl, rfl, trivial⟩ ?_
      exact tX9_hasStep_B18 o hnL k0 a1 a2 S z hr h
    · have h := xif h c9
      refine x_iconst (pc := 14) o dX9_hasStep_14 ic_1 ?_
      refine x_goto (pc := 15) (tgt := 19) o dX9_hasStep_15 (by decide) ?_
      refine x_to (l := [(0, .ref (M.2.1 k0)), (1, .int a1), (2, .int a2)]) ⟨rfl, rfl, rfl, trivial⟩ ?_
      exact tX9_hasStep_B19 o hnL k0 a1 a2 ((1 : Int32)) S z hr h
def fX9_kindOfStep (k0 : Nat) (a1 : Int32) (a2 : Int32) (S : xSt) : Option (Int32) :=
  if tC.1 k0 = 9 then
  ((fX9_hasStep k0 a1 a2 S).bind fun v1 =>
  if v1 = 0 then
  (some ((-1 : Int32)))
else
  ((xgF tC 9 9 k0 S).bind fun r2 =>
  (xal tC r2 ((a1 * ((4 : Int32))) + a2) S).bind fun v3 =>
  some v3))
  else none
theorem kX9_kindOfStep {z : Int32} {k0 : Nat} {a1 : Int32} {a2 : Int32} {S : xSt} (h : fX9_kindOfStep k0 a1 a2 S = some z) : tC.1 k0 = 9 := by
  unfold fX9_kindOfStep at h
  exact (xck h).1
set_option maxHeartbeats 4000000 in
theorem tX9_kindOfStep (l : Launch) (M : xMg) (A : Nat → Prop) (k0 : Nat) (a1 : Int32) (a2 : Int32) (S : xSt) (z : Int32) (h : fX9_kindOfStep k0 a1 a2 S = some z) : xMI l yX9_kindOfStep cX9_kindOfStep 3 (some .int) 2 tC M A [.ref (M.2.1 k0), .int a1, .int a2] S z S := by
  refine x_metI (plainFor_of_name (by decide)) tC_ok (Nat.le_of_ble_eq_true rfl) (fun Γ hA hnL hl hr o => ?_)
  subst hA; subst hl
  have o : xOk Γ tC M 2 cX9_kindOfStep RX9 := o
  unfold fX9_kindOfStep at h
  obtain ⟨hk0, h⟩ := xck h
  refine x_to (l := [(0, .ref (M.2.1 k0)), (1, .int a1), (2, .int a2)]) ⟨rfl, rfl, rfl, trivial⟩ ?_
  refine x_aload_n (pc := 0) o dX9_kindOfStep_0 rfl rfl ?_
  refine x_iload_n (pc := 1) o dX9_kindOfStep_1 rfl rfl ?_
  refine x_iload_n (pc := 2) o dX9_kindOfStep_2 rfl rfl ?_
  obtain ⟨v1, hv1, h⟩ := xbs h
  refine x_callI (pc := 3) (As := [.int a1, .int a2]) (b := k0) (rest := []) o (tX9_hasStep _ M _ k0 a1 a2 S v1 hv1) eX9_hasStep mX9_104 clX9 (kX9_hasStep hv1) (by decide) rfl rfl (Nat.le_of_ble_eq_true rfl) dX9_kindOfStep_3 ?_
  refine x_if_eq (pc := 6) (tgt := 22) o dX9_kindOfStep_6 (by decide) (fun c4 => ?_) (fun c4 => ?_)
  · have h := xit h c4
    refine x_iconst (pc := 22) o dX9_kindOfStep_22 ic_m1 ?_
    exact x_ireturn (pc := 23) o hr dX9_kindOfStep_23 (Option.some.inj h) rfl
  · have h := xif h c4
    refine x_aload_n (pc := 9) o dX9_kindOfStep_9 rfl rfl ?_
    obtain ⟨r2, hr2, h⟩ := xbs h
    refine gX9_39 (pc := 10) o dX9_kindOfStep_10 hr2 ?_
    refine x_iload_n (pc := 13) o dX9_kindOfStep_13 rfl rfl ?_
    refine x_iconst (pc := 14) o dX9_kindOfStep_14 ic_4 ?_
    refine x_imul (pc := 15) o dX9_kindOfStep_15 ?_
    refine x_iload_n (pc := 16) o dX9_kindOfStep_16 rfl rfl ?_
    refine x_iadd (pc := 17) o dX9_kindOfStep_17 ?_
    obtain ⟨v3, hv3, h⟩ := xbs h
    refine x_iaload (pc := 18) o dX9_kindOfStep_18 hv3 ?_
    refine x_goto (pc := 19) (tgt := 23) o dX9_kindOfStep_19 (by decide) ?_
    exact x_ireturn (pc := 23) o hr dX9_kindOfStep_23 (Option.some.inj h) rfl
def fX6_isResting (k0 : Nat) (a1 : Int32) (S : xSt) : Option (Int32) :=
  if tC.1 k0 = 6 then
  ((xgM tC 6 4 k0 S).bind fun r1 =>
  (xgF tC 9 3 r1 S).bind fun r2 =>
  (xal tC r2 a1 S).bind fun v3 =>
  if v3 ≤ 0 then
  (some ((0 : Int32)))
else
  ((xgM tC 6 5 k0 S).bind fun r4 =>
  (xgI tC 8 0 r4 S).bind fun v5 =>
  (xgM tC 6 4 k0 S).bind fun r6 =>
  (xgF tC 9 3 r6 S).bind fun r7 =>
  (xal tC r7 a1 S).bind fun v8 =>
  if v8 = 0 then none else
  (xgF tC 6 0 k0 S).bind fun r9 =>
  (xal tC r9 a1 S).bind fun v10 =>
  if (v5 - v5 / v8 * v8) = v10 then
  (some ((1 : Int32)))
else
  (some ((0 : Int32)))))
  else none
theorem kX6_isResting {z : Int32} {k0 : Nat} {a1 : Int32} {S : xSt} (h : fX6_isResting k0 a1 S = some z) : tC.1 k0 = 6 := by
  unfold fX6_isResting at h
  exact (xck h).1
set_option maxHeartbeats 4000000 in
theorem tX6_isResting (l : Launch) (M : xMg) (A : Nat → Prop) (k0 : Nat) (a1 : Int32) (S : xSt) (z : Int32) (h : fX6_isResting k0 a1 S = some z) : xMI l yX6_isResting cX6_isResting 2 (some .boolean) 1 tC M A [.ref (M.2.1 k0), .int a1] S z S := by
  refine x_metI (plainFor_of_name (by decide)) tC_ok (Nat.le_of_ble_eq_true rfl) (fun Γ hA hnL hl hr o => ?_)
  subst hA; subst hl
  have o : xOk Γ tC M 1 cX6_isResting RX6 := o
  unfold fX6_isResting at h
  obtain ⟨hk0, h⟩ := xck h
  refine x_to (l := [(0, .ref (M.2.1 k0)), (1, .int a1)]) ⟨rfl, rfl, trivial⟩ ?_
  refine x_aload_n (pc := 0) o dX6_isResting_0 rfl rfl ?_
  obtain ⟨r1, hr1, h⟩ := xbs h
  refine gX6_23 (pc := 1) o dX6_isResting_1 hr1 ?_
  obtain ⟨r2, hr2, h⟩ := xbs h
  refine gX6_140 (pc := 4) o dX6_isResting_4 hr2 ?_
  refine x_iload_n (pc := 7) o dX6_isResting_7 rfl rfl ?_
  obtain ⟨v3, hv3, h⟩ := xbs h
  refine x_iaload (pc := 8) o dX6_isResting_8 hv3 ?_
  refine x_if_le (pc := 9) (tgt := 42) o dX6_isResting_9 (by decide) (fun c12 => ?_) (fun c12 => ?_)
  · have h := xit h c12
    refine x_iconst (pc := 42) o dX6_isResting_42 ic_0 ?_
    exact x_zreturn (pc := 43) o hr dX6_isResting_43 (by decide) (Option.some.inj h) rfl
  · have h := xif h c12
    refine x_aload_n (pc := 12) o dX6_isResting_12 rfl rfl ?_
    obtain ⟨r4, hr4, h⟩ := xbs h
    refine gX6_27 (pc := 13) o dX6_isResting_13 hr4 ?_
    obtain ⟨v5, hv5, h⟩ := xbs h
    refine gX6_66 (pc := 16) o dX6_isResting_16 hv5 ?_
    refine x_aload_n (pc := 19) o dX6_isResting_19 rfl rfl ?_
    obtain ⟨r6, hr6, h⟩ := xbs h
    refine gX6_23 (pc := 20) o dX6_isResting_20 hr6 ?_
    obtain ⟨r7, hr7, h⟩ := xbs h
    refine gX6_140 (pc := 23) o dX6_isResting_23 hr7 ?_
    refine x_iload_n (pc := 26) o dX6_isResting_26 rfl rfl ?_
    obtain ⟨v8, hv8, h⟩ := xbs h
    refine x_iaload (pc := 27) o dX6_isResting_27 hv8 ?_
    obtain ⟨hq, h⟩ := xcn h
    refine x_irem (pc := 28) o dX6_isResting_28 hq ?_
    refine x_aload_n (pc := 29) o dX6_isResting_29 rfl rfl ?_
    obtain ⟨r9, hr9, h⟩ := xbs h
    refine gX6_9 (pc := 30) o dX6_isResting_30 hr9 ?_
    refine x_iload_n (pc := 33) o dX6_isResting_33 rfl rfl ?_
    obtain ⟨v10, hv10, h⟩ := xbs h
    refine x_iaload (pc := 34) o dX6_isResting_34 hv10 ?_
    refine x_icmp_ne (pc := 35) (tgt := 42) o dX6_isResting_35 (by decide) (fun c11 => ?_) (fun c11 => ?_)
    · have h := xif h c11
      refine x_iconst (pc := 42) o dX6_isResting_42 ic_0 ?_
      exact x_zreturn (pc := 43) o hr dX6_isResting_43 (by decide) (Option.some.inj h) rfl
    · have h := xit h c11
      refine x_iconst (pc := 38) o dX6_isResting_38 ic_1 ?_
      refine x_goto (pc := 39) (tgt := 43) o dX6_isResting_39 (by decide) ?_
      exact x_zreturn (pc := 43) o hr dX6_isResting_43 (by decide) (Option.some.inj h) rfl
def fX9_hoursOfStep (k0 : Nat) (a1 : Int32) (a2 : Int32) (S : xSt) : Option (Int32) :=
  if tC.1 k0 = 9 then
  ((fX9_hasStep k0 a1 a2 S).bind fun v1 =>
  if v1 = 0 then
  (some ((-1 : Int32)))
else
  ((xgF tC 9 10 k0 S).bind fun r2 =>
  (xal tC r2 ((a1 * ((4 : Int32))) + a2) S).bind fun v3 =>
  some v3))
  else none
theorem kX9_hoursOfStep {z : Int32} {k0 : Nat} {a1 : Int32} {a2 : Int32} {S : xSt} (h : fX9_hoursOfStep k0 a1 a2 S = some z) : tC.1 k0 = 9 := by
  unfold fX9_hoursOfStep at h
  exact (xck h).1
set_option maxHeartbeats 4000000 in
theorem tX9_hoursOfStep (l : Launch) (M : xMg) (A : Nat → Prop) (k0 : Nat) (a1 : Int32) (a2 : Int32) (S : xSt) (z : Int32) (h : fX9_hoursOfStep k0 a1 a2 S = some z) : xMI l yX9_hoursOfStep cX9_hoursOfStep 3 (some .int) 2 tC M A [.ref (M.2.1 k0), .int a1, .int a2] S z S := by
  refine x_metI (plainFor_of_name (by decide)) tC_ok (Nat.le_of_ble_eq_true rfl) (fun Γ hA hnL hl hr o => ?_)
  subst hA; subst hl
  have o : xOk Γ tC M 2 cX9_hoursOfStep RX9 := o
  unfold fX9_hoursOfStep at h
  obtain ⟨hk0, h⟩ := xck h
  refine x_to (l := [(0, .ref (M.2.1 k0)), (1, .int a1), (2, .int a2)]) ⟨rfl, rfl, rfl, trivial⟩ ?_
  refine x_aload_n (pc := 0) o dX9_hoursOfStep_0 rfl rfl ?_
  refine x_iload_n (pc := 1) o dX9_hoursOfStep_1 rfl rfl ?_
  refine x_iload_n (pc := 2) o dX9_hoursOfStep_2 rfl rfl ?_
  obtain ⟨v1, hv1, h⟩ := xbs h
  refine x_callI (pc := 3) (As := [.int a1, .int a2]) (b := k0) (rest := []) o (tX9_hasStep _ M _ k0 a1 a2 S v1 hv1) eX9_hasStep mX9_104 clX9 (kX9_hasStep hv1) (by decide) rfl rfl (Nat.le_of_ble_eq_true rfl) dX9_hoursOfStep_3 ?_
  refine x_if_eq (pc := 6) (tgt := 22) o dX9_hoursOfStep_6 (by decide) (fun c4 => ?_) (fun c4 => ?_)
  · have h := xit h c4
    refine x_iconst (pc := 22) o dX9_hoursOfStep_22 ic_m1 ?_
    exact x_ireturn (pc := 23) o hr dX9_hoursOfStep_23 (Option.some.inj h) rfl
  · have h := xif h c4
    refine x_aload_n (pc := 9) o dX9_hoursOfStep_9 rfl rfl ?_
    obtain ⟨r2, hr2, h⟩ := xbs h
    refine gX9_42 (pc := 10) o dX9_hoursOfStep_10 hr2 ?_
    refine x_iload_n (pc := 13) o dX9_hoursOfStep_13 rfl rfl ?_
    refine x_iconst (pc := 14) o dX9_hoursOfStep_14 ic_4 ?_
    refine x_imul (pc := 15) o dX9_hoursOfStep_15 ?_
    refine x_iload_n (pc := 16) o dX9_hoursOfStep_16 rfl rfl ?_
    refine x_iadd (pc := 17) o dX9_hoursOfStep_17 ?_
    obtain ⟨v3, hv3, h⟩ := xbs h
    refine x_iaload (pc := 18) o dX9_hoursOfStep_18 hv3 ?_
    refine x_goto (pc := 19) (tgt := 23) o dX9_hoursOfStep_19 (by decide) ?_
    exact x_ireturn (pc := 23) o hr dX9_hoursOfStep_23 (Option.some.inj h) rfl
def fX8_daysLate (k0 : Nat) (a1 : Int32) (k2 : Nat) (S : xSt) : Option (Int32) :=
  if tC.1 k0 = 8 then
  ((fX9_holds k2 ((3 : Int32)) a1 S).bind fun v1 =>
  if v1 = 0 then
  (some ((0 : Int32)))
else
  ((fX8_isFinished k0 a1 k2 S).bind fun v2 =>
  if v2 = 0 then
  ((xgI tC 8 0 k0 S).bind fun v3 =>
  (xgF tC 8 8 k0 S).bind fun r4 =>
  (xal tC r4 a1 S).bind fun v5 =>
  (some (if ((0 : Int32)) < (v3 - v5) then (v3 - v5) else ((0 : Int32)))).bind fun v6 =>
  some v6)
else
  (some ((0 : Int32)))))
  else none
theorem kX8_daysLate {z : Int32} {k0 : Nat} {a1 : Int32} {k2 : Nat} {S : xSt} (h : fX8_daysLate k0 a1 k2 S = some z) : tC.1 k0 = 8 := by
  unfold fX8_daysLate at h
  exact (xck h).1
set_option maxHeartbeats 4000000 in
theorem tX8_daysLate (l : Launch) (M : xMg) (A : Nat → Prop) (k0 : Nat) (a1 : Int32) (k2 : Nat) (S : xSt) (z : Int32) (h : fX8_daysLate k0 a1 k2 S = some z) : xMI l yX8_daysLate cX8_daysLate 3 (some .int) 2 tC M A [.ref (M.2.1 k0), .int a1, .ref (M.2.1 k2)] S z S := by
  refine x_metI (plainFor_of_name (by decide)) tC_ok (Nat.le_of_ble_eq_true rfl) (fun Γ hA hnL hl hr o => ?_)
  subst hA; subst hl
  have o : xOk Γ tC M 2 cX8_daysLate RX8 := o
  unfold fX8_daysLate at h
  obtain ⟨hk0, h⟩ := xck h
  refine x_to (l := [(0, .ref (M.2.1 k0)), (1, .int a1), (2, .ref (M.2.1 k2))]) ⟨rfl, rfl, rfl, trivial⟩ ?_
  refine x_aload_n (pc := 0) o dX8_daysLate_0 rfl rfl ?_
  refine x_iconst (pc := 1) o dX8_daysLate_1 ic_3 ?_
  refine x_iload_n (pc := 2) o dX8_daysLate_2 rfl rfl ?_
  obtain ⟨v1, hv1, h⟩ := xbs h
  refine x_callI (pc := 3) (As := [.int ((3 : Int32)), .int a1]) (b := k2) (rest := []) o (tX9_holds _ M _ k2 ((3 : Int32)) a1 S v1 hv1) eX9_holds mX8_70 clX9 (kX9_holds hv1) (by decide) rfl rfl (Nat.le_of_ble_eq_true rfl) dX8_daysLate_3 ?_
  refine x_if_eq (pc := 6) (tgt := 36) o dX8_daysLate_6 (by decide) (fun c8 => ?_) (fun c8 => ?_)
  · have h := xit h c8
    refine x_iconst (pc := 36) o dX8_daysLate_36 ic_0 ?_
    exact x_ireturn (pc := 37) o hr dX8_daysLate_37 (Option.some.inj h) rfl
  · have h := xif h c8
    refine x_aload_n (pc := 9) o dX8_daysLate_9 rfl rfl ?_
    refine x_iload_n (pc := 10) o dX8_daysLate_10 rfl rfl ?_
    refine x_aload_n (pc := 11) o dX8_daysLate_11 rfl rfl ?_
    obtain ⟨v2, hv2, h⟩ := xbs h
    refine x_callI (pc := 12) (As := [.int a1, .ref (M.2.1 k2)]) (b := k0) (rest := []) o (tX8_isFinished _ M _ k0 a1 k2 S v2 hv2) eX8_isFinished mX8_66 clX8 (kX8_isFinished hv2) (by decide) rfl rfl (Nat.le_of_ble_eq_true rfl) dX8_daysLate_12 ?_
    refine x_if_ne (pc := 15) (tgt := 36) o dX8_daysLate_15 (by decide) (fun c7 => ?_) (fun c7 => ?_)
    · have h := xif h c7
      refine x_iconst (pc := 36) o dX8_daysLate_36 ic_0 ?_
      exact x_ireturn (pc := 37) o hr dX8_daysLate_37 (Option.some.inj h) rfl
    · have h := xit h c7
      refine x_iconst (pc := 18) o dX8_daysLate_18 ic_0 ?_
      refine x_aload_n (pc := 19) o dX8_daysLate_19 rfl rfl ?_
      obtain ⟨v3, hv3, h⟩ := xbs h
      refine gX8_24 (pc := 20) o dX8_daysLate_20 hv3 ?_
      refine x_aload_n (pc := 23) o dX8_daysLate_23 rfl rfl ?_
      obtain ⟨r4, hr4, h⟩ := xbs h
      refine gX8_21 (pc := 24) o dX8_daysLate_24 hr4 ?_
      refine x_iload_n (pc := 27) o dX8_daysLate_27 rfl rfl ?_
      obtain ⟨v5, hv5, h⟩ := xbs h
      refine x_iaload (pc := 28) o dX8_daysLate_28 hv5 ?_
      refine x_isub (pc := 29) o dX8_daysLate_29 ?_
      obtain ⟨v6, hv6, h⟩ := xbs h
      refine x_mmaxE (pc := 30) o mX8_74 w_max1 w_max2 w_max3 (by decide) (Nat.le_of_ble_eq_true rfl) dX8_daysLate_30 hv6 ?_
      refine x_goto (pc := 33) (tgt := 37) o dX8_daysLate_33 (by decide) ?_
      exact x_ireturn (pc := 37) o hr dX8_daysLate_37 (Option.some.inj h) rfl
def fJ6_bitCount_0f7a4 (a0 : Int32) (S : xSt) : Option (Int32) :=
  (some (a0 - (((a0.toUInt32 >>> (((1 : Int32)).toUInt32 &&& Int32.toUInt32 31)).toInt32) &&& ((1431655765 : Int32))))).bind fun v1 =>
  (some ((v1 &&& ((858993459 : Int32))) + (((v1.toUInt32 >>> (((2 : Int32)).toUInt32 &&& Int32.toUInt32 31)).toInt32) &&& ((858993459 : Int32))))).bind fun v2 =>
  (some ((v2 + ((v2.toUInt32 >>> (((4 : Int32)).toUInt32 &&& Int32.toUInt32 31)).toInt32)) &&& ((252645135 : Int32)))).bind fun v3 =>
  (some (v3 + ((v3.toUInt32 >>> (((8 : Int32)).toUInt32 &&& Int32.toUInt32 31)).toInt32))).bind fun v4 =>
  (some (v4 + ((v4.toUInt32 >>> (((16 : Int32)).toUInt32 &&& Int32.toUInt32 31)).toInt32))).bind fun v5 =>
  some (v5 &&& ((63 : Int32)))
set_option maxHeartbeats 4000000 in
theorem tJ6_bitCount_0f7a4 (l : Launch) (M : xMg) (A : Nat → Prop) (a0 : Int32) (S : xSt) (z : Int32) (h : fJ6_bitCount_0f7a4 a0 S = some z) : xMI l yJ6_bitCount_0f7a4 cJ6_bitCount_0f7a4 1 (some .int) 1 tC M A [.int a0] S z S := by
  refine x_metI (by decide +kernel) tC_ok (Nat.le_of_ble_eq_true rfl) (fun Γ hA hnL hl hr o => ?_)
  subst hA; subst hl
  have o : xOk Γ tC M 1 cJ6_bitCount_0f7a4 RJ6 := o
  unfold fJ6_bitCount_0f7a4 at h
  refine x_to (l := [(0, .int a0)]) ⟨rfl, trivial⟩ ?_
  have hn0 : 0 < Γ.2.2.2 := by omega
  refine x_iload_n (pc := 0) o dJ6_bitCount_0f7a4_0 rfl rfl ?_
  refine x_iload_n (pc := 1) o dJ6_bitCount_0f7a4_1 rfl rfl ?_
  refine x_iconst (pc := 2) o dJ6_bitCount_0f7a4_2 ic_1 ?_
  refine x_iushr (pc := 3) o dJ6_bitCount_0f7a4_3 ?_
  refine x_ldcw (pc := 4) o kcJ6_265 dJ6_bitCount_0f7a4_4 ?_
  refine x_iand (pc := 7) o dJ6_bitCount_0f7a4_7 ?_
  refine x_isub (pc := 8) o dJ6_bitCount_0f7a4_8 ?_
  obtain ⟨v1, hv1, h⟩ := xbs h
  refine x_istore_nE (pc := 9) o dJ6_bitCount_0f7a4_9 rfl hn0 hv1 ?_
  refine x_iload_n (pc := 10) o dJ6_bitCount_0f7a4_10 rfl rfl ?_
  refine x_ldcw (pc := 11) o kcJ6_266 dJ6_bitCount_0f7a4_11 ?_
  refine x_iand (pc := 14) o dJ6_bitCount_0f7a4_14 ?_
  refine x_iload_n (pc := 15) o dJ6_bitCount_0f7a4_15 rfl rfl ?_
  refine x_iconst (pc := 16) o dJ6_bitCount_0f7a4_16 ic_2 ?_
  refine x_iushr (pc := 17) o dJ6_bitCount_0f7a4_17 ?_
  refine x_ldcw (pc := 18) o kcJ6_266 dJ6_bitCount_0f7a4_18 ?_
  refine x_iand (pc := 21) o dJ6_bitCount_0f7a4_21 ?_
  refine x_iadd (pc := 22) o dJ6_bitCount_0f7a4_22 ?_
  obtain ⟨v2, hv2, h⟩ := xbs h
  refine x_istore_nE (pc := 23) o dJ6_bitCount_0f7a4_23 rfl hn0 hv2 ?_
  refine x_iload_n (pc := 24) o dJ6_bitCount_0f7a4_24 rfl rfl ?_
  refine x_iload_n (pc := 25) o dJ6_bitCount_0f7a4_25 rfl rfl ?_
  refine x_iconst (pc := 26) o dJ6_bitCount_0f7a4_26 ic_4 ?_
  refine x_iushr (pc := 27) o dJ6_bitCount_0f7a4_27 ?_
  refine x_iadd (pc := 28) o dJ6_bitCount_0f7a4_28 ?_
  refine x_ldcw (pc := 29) o kcJ6_267 dJ6_bitCount_0f7a4_29 ?_
  refine x_iand (pc := 32) o dJ6_bitCount_0f7a4_32 ?_
  obtain ⟨v3, hv3, h⟩ := xbs h
  refine x_istore_nE (pc := 33) o dJ6_bitCount_0f7a4_33 rfl hn0 hv3 ?_
  refine x_iload_n (pc := 34) o dJ6_bitCount_0f7a4_34 rfl rfl ?_
  refine x_iload_n (pc := 35) o dJ6_bitCount_0f7a4_35 rfl rfl ?_
  refine x_bipush (pc := 36) o dJ6_bitCount_0f7a4_36 bp_8 ?_
  refine x_iushr (pc := 38) o dJ6_bitCount_0f7a4_38 ?_
  refine x_iadd (pc := 39) o dJ6_bitCount_0f7a4_39 ?_
  obtain ⟨v4, hv4, h⟩ := xbs h
  refine x_istore_nE (pc := 40) o dJ6_bitCount_0f7a4_40 rfl hn0 hv4 ?_
  refine x_iload_n (pc := 41) o dJ6_bitCount_0f7a4_41 rfl rfl ?_
  refine x_iload_n (pc := 42) o dJ6_bitCount_0f7a4_42 rfl rfl ?_
  refine x_bipush (pc := 43) o dJ6_bitCount_0f7a4_43 bp_16 ?_
  refine x_iushr (pc := 45) o dJ6_bitCount_0f7a4_45 ?_
  refine x_iadd (pc := 46) o dJ6_bitCount_0f7a4_46 ?_
  obtain ⟨v5, hv5, h⟩ := xbs h
  refine x_istore_nE (pc := 47) o dJ6_bitCount_0f7a4_47 rfl hn0 hv5 ?_
  refine x_iload_n (pc := 48) o dJ6_bitCount_0f7a4_48 rfl rfl ?_
  refine x_bipush (pc := 49) o dJ6_bitCount_0f7a4_49 bp_63 ?_
  refine x_iand (pc := 51) o dJ6_bitCount_0f7a4_51 ?_
  exact x_ireturn (pc := 52) o hr dJ6_bitCount_0f7a4_52 (Option.some.inj h) rfl
def fX8_knownBy_B25 (k0 : Nat) (a1 : Int32) (a2 : Int32) (s0 : Int32) (S : xSt) : Option (Int32) :=
  if s0 = 0 then
  (some ((0 : Int32)))
else
  ((xgF tC 8 6 k0 S).bind fun r1 =>
  (xal tC r1 ((a1 * ((8 : Int32))) + a2) S).bind fun v2 =>
  some v2)
set_option maxHeartbeats 4000000 in
theorem tX8_knownBy_B25 {Γ : xGm} {M : xMg} (o : xOk Γ tC M 1 cX8_knownBy RX8) (hnL : Γ.2.2.2 = 4) (k0 : Nat) (a1 : Int32) (a2 : Int32) (s0 : Int32) (S : xSt) (z : (Int32)) (hr : xRI Γ tC M (some .int) z S) (h : fX8_knownBy_B25 k0 a1 a2 s0 S = some z) : xAt Γ tC M 25 (xlv [(0, .ref (M.2.1 k0)), (1, .int a1), (2, .int a2)]) [.int s0] S := by
  have hn3 : 3 < Γ.2.2.2 := by omega
  unfold fX8_knownBy_B25 at h
  refine x_istore_n (pc := 25) o dX8_knownBy_25 rfl hn3 ?_
  refine x_iload_n (pc := 26) o dX8_knownBy_26 rfl rfl ?_
  refine x_if_eq (pc := 27) (tgt := 44) o dX8_knownBy_27 (by decide) (fun c3 => ?_) (fun c3 => ?_)
  · have h := xit h c3
    refine x_iconst (pc := 44) o dX8_knownBy_44 ic_0 ?_
    exact x_ireturn (pc := 45) o hr dX8_knownBy_45 (Option.some.inj h) rfl
  · have h := xif h c3
    refine x_aload_n (pc := 30) o dX8_knownBy_30 rfl rfl ?_
    obtain ⟨r1, hr1, h⟩ := xbs h
    refine gX8_15 (pc := 31) o dX8_knownBy_31 hr1 ?_
    refine x_iload_n (pc := 34) o dX8_knownBy_34 rfl rfl ?_
    refine x_bipush (pc := 35) o dX8_knownBy_35 bp_8 ?_
    refine x_imul (pc := 37) o dX8_knownBy_37 ?_
    refine x_iload_n (pc := 38) o dX8_knownBy_38 rfl rfl ?_
    refine x_iadd (pc := 39) o dX8_knownBy_39 ?_
    obtain ⟨v2, hv2, h⟩ := xbs h
    refine x_iaload (pc := 40) o dX8_knownBy_40 hv2 ?_
    refine x_goto (pc := 41) (tgt := 45) o dX8_knownBy_41 (by decide) ?_
    exact x_ireturn (pc := 45) o hr dX8_knownBy_45 (Option.some.inj h) rfl
def fX8_knownBy_B24 (k0 : Nat) (a1 : Int32) (a2 : Int32) (S : xSt) : Option (Int32) :=
  fX8_knownBy_B25 k0 a1 a2 ((0 : Int32)) S
set_option maxHeartbeats 4000000 in
theorem tX8_knownBy_B24 {Γ : xGm} {M : xMg} (o : xOk Γ tC M 1 cX8_knownBy RX8) (hnL : Γ.2.2.2 = 4) (k0 : Nat) (a1 : Int32) (a2 : Int32) (S : xSt) (z : (Int32)) (hr : xRI Γ tC M (some .int) z S) (h : fX8_knownBy_B24 k0 a1 a2 S = some z) : xAt Γ tC M 24 (xlv [(0, .ref (M.2.1 k0)), (1, .int a1), (2, .int a2)]) [] S := by
  unfold fX8_knownBy_B24 at h
  refine x_iconst (pc := 24) o dX8_knownBy_24 ic_0 ?_
  refine x_to (l := [(0, .ref (M.2.1 k0)), (1, .int a1), (2, .int a2)]) ⟨rfl, rfl, rfl, trivial⟩ ?_
  exact tX8_knownBy_B25 o hnL k0 a1 a2 ((0 : Int32)) S z hr h
def fX8_knownBy (k0 : Nat) (a1 : Int32) (a2 : Int32) (S : xSt) : Option (Int32) :=
  if tC.1 k0 = 8 then
  (if a1 < 0 then
  (fX8_knownBy_B24 k0 a1 a2 S)
else
  (if ((6 : Int32)) ≤ a1 then
  (fX8_knownBy_B24 k0 a1 a2 S)
else
  (if a2 < 0 then
  (fX8_knownBy_B24 k0 a1 a2 S)
else
  (if ((8 : Int32)) ≤ a2 then
  (fX8_knownBy_B24 k0 a1 a2 S)
else
  (fX8_knownBy_B25 k0 a1 a2 ((1 : Int32)) S)))))
  else none
theorem kX8_knownBy {z : Int32} {k0 : Nat} {a1 : Int32} {a2 : Int32} {S : xSt} (h : fX8_knownBy k0 a1 a2 S = some z) : tC.1 k0 = 8 := by
  unfold fX8_knownBy at h
  exact (xck h).1
set_option maxHeartbeats 4000000 in
theorem tX8_knownBy (l : Launch) (M : xMg) (A : Nat → Prop) (k0 : Nat) (a1 : Int32) (a2 : Int32) (S : xSt) (z : Int32) (h : fX8_knownBy k0 a1 a2 S = some z) : xMI l yX8_knownBy cX8_knownBy 4 (some .int) 1 tC M A [.ref (M.2.1 k0), .int a1, .int a2] S z S := by
  refine x_metI (plainFor_of_name (by decide)) tC_ok (Nat.le_of_ble_eq_true rfl) (fun Γ hA hnL hl hr o => ?_)
  subst hA; subst hl
  have o : xOk Γ tC M 1 cX8_knownBy RX8 := o
  unfold fX8_knownBy at h
  obtain ⟨hk0, h⟩ := xck h
  refine x_to (l := [(0, .ref (M.2.1 k0)), (1, .int a1), (2, .int a2)]) ⟨rfl, rfl, rfl, trivial⟩ ?_
  refine x_iload_n (pc := 0) o dX8_knownBy_0 rfl rfl ?_
  refine x_if_lt (pc := 1) (tgt := 24) o dX8_knownBy_1 (by decide) (fun c7 => ?_) (fun c7 => ?_)
  · have h := xit h c7
    refine x_to (l := [(0, .ref (M.2.1 k0)), (1, .int a1), (2, .int a2)]) ⟨rfl, rfl, rfl, trivial⟩ ?_
    exact tX8_knownBy_B24 o hnL k0 a1 a2 S z hr h
  · have h := xif h c7
    refine x_iload_n (pc := 4) o dX8_knownBy_4 rfl rfl ?_
    refine x_bipush (pc := 5) o dX8_knownBy_5 bp_6 ?_
    refine x_icmp_ge (pc := 7) (tgt := 24) o dX8_knownBy_7 (by decide) (fun c6 => ?_) (fun c6 => ?_)
    · have h := xit h c6
      refine x_to (l := [(0, .ref (M.2.1 k0)), (1, .int a1), (2, .int a2)]) ⟨rfl, rfl, rfl, trivial⟩ ?_
      exact tX8_knownBy_B24 o hnL k0 a1 a2 S z hr h
    · have h := xif h c6
      refine x_iload_n (pc := 10) o dX8_knownBy_10 rfl rfl ?_
      refine x_if_lt (pc := 11) (tgt := 24) o dX8_knownBy_11 (by decide) (fun c5 => ?_) (fun c5 => ?_)
      · have h := xit h c5
        refine x_to (l := [(0, .ref (M.2.1 k0)), (1, .int a1), (2, .int a2)]) ⟨rfl, rfl, rfl, trivial⟩ ?_
        exact tX8_knownBy_B24 o hnL k0 a1 a2 S z hr h
      · have h := xif h c5
        refine x_iload_n (pc := 14) o dX8_knownBy_14 rfl rfl ?_
        refine x_bipush (pc := 15) o dX8_knownBy_15 bp_8 ?_
        refine x_icmp_ge (pc := 17) (tgt := 24) o dX8_knownBy_17 (by decide) (fun c4 => ?_) (fun c4 => ?_)
        · have h := xit h c4
          refine x_to (l := [(0, .ref (M.2.1 k0)), (1, .int a1), (2, .int a2)]) ⟨rfl, rfl, rfl, trivial⟩ ?_
          exact tX8_knownBy_B24 o hnL k0 a1 a2 S z hr h
        · have h := xif h c4
          refine x_iconst (pc := 20) o dX8_knownBy_20 ic_1 ?_
          refine x_goto (pc := 21) (tgt := 25) o dX8_knownBy_21 (by decide) ?_
          refine x_to (l := [(0, .ref (M.2.1 k0)), (1, .int a1), (2, .int a2)]) ⟨rfl, rfl, rfl, trivial⟩ ?_
          exact tX8_knownBy_B25 o hnL k0 a1 a2 ((1 : Int32)) S z hr h
def fX6_chooseHand_B32_4 (n : Nat) (rec : Int32 → Int32 → Option (Int32)) (k0 : Nat) (a1 : Int32) (a2 : Int32) (a3 : Int32) (s0 : Int32) (S : xSt) : Option (Int32) :=
  if s0 = 0 then
  ((some (a3 + (1 : Int32))).bind fun v4 =>
  rec a2 v4)
else
  (if a2 = ((-1 : Int32)) then
  ((some (a3 + (1 : Int32))).bind fun v5 =>
  rec a3 v5)
else
  ((xgM tC 6 5 k0 S).bind fun r6 =>
  (fX8_knownBy r6 a3 a1 S).bind fun v7 =>
  (xgM tC 6 5 k0 S).bind fun r8 =>
  (fX8_knownBy r8 a2 a1 S).bind fun v9 =>
  if v7 ≤ v9 then
  ((some (a3 + (1 : Int32))).bind fun v10 =>
  rec a2 v10)
else
  ((some (a3 + (1 : Int32))).bind fun v11 =>
  rec a3 v11)))
set_option maxHeartbeats 4000000 in
theorem tX6_chooseHand_B32_4 {Γ : xGm} {M : xMg} (o : xOk Γ tC M 2 cX6_chooseHand RX6) (hnL : Γ.2.2.2 = 5) {rec : Int32 → Int32 → Option (Int32)} (n : Nat) (k0 : Nat) (a1 : Int32) (a2 : Int32) (a3 : Int32) (s0 : Int32) (S : xSt) (z : (Int32)) (hrec : ∀ (a2 : Int32) (a3 : Int32), rec a2 a3 = some z → xAt Γ tC M 4 (xlv [(0, .ref (M.2.1 k0)), (1, .int a1), (2, .int a2), (3, .int a3)]) [] S) (K : xAt Γ tC M 73 (xlv [(2, .int z)]) [] S) (h : fX6_chooseHand_B32_4 n rec k0 a1 a2 a3 s0 S = some z) : xAt Γ tC M 32 (xlv [(0, .ref (M.2.1 k0)), (1, .int a1), (2, .int a2), (3, .int a3)]) [.int s0] S := by
  have hn2 : 2 < Γ.2.2.2 := by omega
  have hn3 : 3 < Γ.2.2.2 := by omega
  have hn4 : 4 < Γ.2.2.2 := by omega
  unfold fX6_chooseHand_B32_4 at h
  refine x_istore (pc := 32) o dX6_chooseHand_32 hn4 ?_
  refine x_iload (pc := 34) o dX6_chooseHand_34 rfl ?_
  refine x_if_eq (pc := 36) (tgt := 67) o dX6_chooseHand_36 (by decide) (fun c14 => ?_) (fun c14 => ?_)
  · have h := xit h c14
    obtain ⟨v4, hv4, h⟩ := xbs h
    refine x_iincE (pc := 67) o dX6_chooseHand_67 rfl ic_1 hn3 hv4 ?_
    refine x_goto (pc := 70) (tgt := 4) o dX6_chooseHand_70 (by decide) ?_
    refine x_to (l := [(0, .ref (M.2.1 k0)), (1, .int a1), (2, .int a2), (3, .int v4)]) ⟨rfl, rfl, rfl, rfl, trivial⟩ ?_
    exact hrec a2 v4 h
  · have h := xif h c14
    refine x_iload_n (pc := 39) o dX6_chooseHand_39 rfl rfl ?_
    refine x_iconst (pc := 40) o dX6_chooseHand_40 ic_m1 ?_
    refine x_icmp_eq (pc := 41) (tgt := 65) o dX6_chooseHand_41 (by decide) (fun c13 => ?_) (fun c13 => ?_)
    · have h := xit h c13
      refine x_iload_n (pc := 65) o dX6_chooseHand_65 rfl rfl ?_
      refine x_istore_n (pc := 66) o dX6_chooseHand_66 rfl hn2 ?_
      obtain ⟨v5, hv5, h⟩ := xbs h
      refine x_iincE (pc := 67) o dX6_chooseHand_67 rfl ic_1 hn3 hv5 ?_
      refine x_goto (pc := 70) (tgt := 4) o dX6_chooseHand_70 (by decide) ?_
      refine x_to (l := [(0, .ref (M.2.1 k0)), (1, .int a1), (2, .int a3), (3, .int v5)]) ⟨rfl, rfl, rfl, rfl, trivial⟩ ?_
      exact hrec a3 v5 h
    · have h := xif h c13
      refine x_aload_n (pc := 44) o dX6_chooseHand_44 rfl rfl ?_
      obtain ⟨r6, hr6, h⟩ := xbs h
      refine gX6_27 (pc := 45) o dX6_chooseHand_45 hr6 ?_
      refine x_iload_n (pc := 48) o dX6_chooseHand_48 rfl rfl ?_
      refine x_iload_n (pc := 49) o dX6_chooseHand_49 rfl rfl ?_
      obtain ⟨v7, hv7, h⟩ := xbs h
      refine x_callI (pc := 50) (As := [.int a3, .int a1]) (b := r6) (rest := []) o (tX8_knownBy _ M _ r6 a3 a1 S v7 hv7) eX8_knownBy mX6_171 clX8 (kX8_knownBy hv7) (by decide) rfl rfl (Nat.le_of_ble_eq_true rfl) dX6_chooseHand_50 ?_
      refine x_aload_n (pc := 53) o dX6_chooseHand_53 rfl rfl ?_
      obtain ⟨r8, hr8, h⟩ := xbs h
      refine gX6_27 (pc := 54) o dX6_chooseHand_54 hr8 ?_
      refine x_iload_n (pc := 57) o dX6_chooseHand_57 rfl rfl ?_
      refine x_iload_n (pc := 58) o dX6_chooseHand_58 rfl rfl ?_
      obtain ⟨v9, hv9, h⟩ := xbs h
      refine x_callI (pc := 59) (As := [.int a2, .int a1]) (b := r8) (rest := [.int v7]) o (tX8_knownBy _ M _ r8 a2 a1 S v9 hv9) eX8_knownBy mX6_171 clX8 (kX8_knownBy hv9) (by decide) rfl rfl (Nat.le_of_ble_eq_true rfl) dX6_chooseHand_59 ?_
      refine x_icmp_le (pc := 62) (tgt := 67) o dX6_chooseHand_62 (by decide) (fun c12 => ?_) (fun c12 => ?_)
      · have h := xit h c12
        obtain ⟨v10, hv10, h⟩ := xbs h
        refine x_iincE (pc := 67) o dX6_chooseHand_67 rfl ic_1 hn3 hv10 ?_
        refine x_goto (pc := 70) (tgt := 4) o dX6_chooseHand_70 (by decide) ?_
        refine x_to (l := [(0, .ref (M.2.1 k0)), (1, .int a1), (2, .int a2), (3, .int v10)]) ⟨rfl, rfl, rfl, rfl, trivial⟩ ?_
        exact hrec a2 v10 h
      · have h := xif h c12
        refine x_iload_n (pc := 65) o dX6_chooseHand_65 rfl rfl ?_
        refine x_istore_n (pc := 66) o dX6_chooseHand_66 rfl hn2 ?_
        obtain ⟨v11, hv11, h⟩ := xbs h
        refine x_iincE (pc := 67) o dX6_chooseHand_67 rfl ic_1 hn3 hv11 ?_
        refine x_goto (pc := 70) (tgt := 4) o dX6_chooseHand_70 (by decide) ?_
        refine x_to (l := [(0, .ref (M.2.1 k0)), (1, .int a1), (2, .int a3), (3, .int v11)]) ⟨rfl, rfl, rfl, rfl, trivial⟩ ?_
        exact hrec a3 v11 h
def fX6_chooseHand_L4b (n : Nat) (k0 : Nat) (a1 : Int32) (S : xSt) (rec : Int32 → Int32 → Option (Int32)) (a2 : Int32) (a3 : Int32) : Option (Int32) :=
  (xgM tC 6 4 k0 S).bind fun r1 =>
  (fX9_count r1 ((2 : Int32)) S).bind fun v2 =>
  if v2 ≤ a3 then
  (some a2)
else
  ((xgI tC 6 8 k0 S).bind fun v3 =>
  if ((v3 >>> (a3 &&& 31)) &&& ((1 : Int32))) = 0 then
  (fX6_chooseHand_B32_4 n rec k0 a1 a2 a3 ((1 : Int32)) S)
else
  (fX6_chooseHand_B32_4 n rec k0 a1 a2 a3 ((0 : Int32)) S))
def fX6_chooseHand_L4 (n : Nat) (k0 : Nat) (a1 : Int32) (S : xSt) : Nat → Int32 → Int32 → Option (Int32)
  | 0 => fun _ _ => none
  | q + 1 => fX6_chooseHand_L4b n k0 a1 S (fX6_chooseHand_L4 n k0 a1 S q)
set_option maxHeartbeats 4000000 in
theorem tX6_chooseHand_L4b {Γ : xGm} {M : xMg} (o : xOk Γ tC M 2 cX6_chooseHand RX6) (hnL : Γ.2.2.2 = 5) {rec : Int32 → Int32 → Option (Int32)} (n : Nat) (k0 : Nat) (a1 : Int32) (S : xSt) (a2 : Int32) (a3 : Int32) (z : (Int32)) (hrec : ∀ (a2 : Int32) (a3 : Int32), rec a2 a3 = some z → xAt Γ tC M 4 (xlv [(0, .ref (M.2.1 k0)), (1, .int a1), (2, .int a2), (3, .int a3)]) [] S) (K : xAt Γ tC M 73 (xlv [(2, .int z)]) [] S) (h : fX6_chooseHand_L4b n k0 a1 S rec a2 a3 = some z) : xAt Γ tC M 4 (xlv [(0, .ref (M.2.1 k0)), (1, .int a1), (2, .int a2), (3, .int a3)]) [] S := by
  unfold fX6_chooseHand_L4b at h
  refine x_iload_n (pc := 4) o dX6_chooseHand_4 rfl rfl ?_
  refine x_aload_n (pc := 5) o dX6_chooseHand_5 rfl rfl ?_
  obtain ⟨r1, hr1, h⟩ := xbs h
  refine gX6_23 (pc := 6) o dX6_chooseHand_6 hr1 ?_
  refine x_iconst (pc := 9) o dX6_chooseHand_9 ic_2 ?_
  obtain ⟨v2, hv2, h⟩ := xbs h
  refine x_callI (pc := 10) (As := [.int ((2 : Int32))]) (b := r1) (rest := [.int a3]) o (tX9_count _ M _ r1 ((2 : Int32)) S v2 hv2) eX9_count mX6_71 clX9 (kX9_count hv2) (by decide) rfl rfl (Nat.le_of_ble_eq_true rfl) dX6_chooseHand_10 ?_
  refine x_icmp_ge (pc := 13) (tgt := 73) o dX6_chooseHand_13 (by decide) (fun c16 => ?_) (fun c16 => ?_)
  · have h := xit h c16
    refine x_to (l := [(2, .int a2)]) ⟨rfl, trivial⟩ ?_
    cases Option.some.inj h
    exact K
  · have h := xif h c16
    refine x_aload_n (pc := 16) o dX6_chooseHand_16 rfl rfl ?_
    obtain ⟨v3, hv3, h⟩ := xbs h
    refine gX6_63 (pc := 17) o dX6_chooseHand_17 hv3 ?_
    refine x_iload_n (pc := 20) o dX6_chooseHand_20 rfl rfl ?_
    refine x_ishr (pc := 21) o dX6_chooseHand_21 ?_
    refine x_iconst (pc := 22) o dX6_chooseHand_22 ic_1 ?_
    refine x_iand (pc := 23) o dX6_chooseHand_23 ?_
    refine x_if_ne (pc := 24) (tgt := 31) o dX6_chooseHand_24 (by decide) (fun c15 => ?_) (fun c15 => ?_)
    · have h := xif h c15
      refine x_iconst (pc := 31) o dX6_chooseHand_31 ic_0 ?_
      refine x_to (l := [(0, .ref (M.2.1 k0)), (1, .int a1), (2, .int a2), (3, .int a3)]) ⟨rfl, rfl, rfl, rfl, trivial⟩ ?_
      exact tX6_chooseHand_B32_4 o hnL n k0 a1 a2 a3 ((0 : Int32)) S z hrec K  h
    · have h := xit h c15
      refine x_iconst (pc := 27) o dX6_chooseHand_27 ic_1 ?_
      refine x_goto (pc := 28) (tgt := 32) o dX6_chooseHand_28 (by decide) ?_
      refine x_to (l := [(0, .ref (M.2.1 k0)), (1, .int a1), (2, .int a2), (3, .int a3)]) ⟨rfl, rfl, rfl, rfl, trivial⟩ ?_
      exact tX6_chooseHand_B32_4 o hnL n k0 a1 a2 a3 ((1 : Int32)) S z hrec K  h
theorem tX6_chooseHand_L4 {Γ : xGm} {M : xMg} (o : xOk Γ tC M 2 cX6_chooseHand RX6) (hnL : Γ.2.2.2 = 5) (n : Nat) (k0 : Nat) (a1 : Int32) (S : xSt) (z : (Int32)) (K : xAt Γ tC M 73 (xlv [(2, .int z)]) [] S) : ∀ (q : Nat) (a2 : Int32) (a3 : Int32), fX6_chooseHand_L4 n k0 a1 S q a2 a3 = some z → xAt Γ tC M 4 (xlv [(0, .ref (M.2.1 k0)), (1, .int a1), (2, .int a2), (3, .int a3)]) [] S := by
  intro q
  induction q with
  | zero => intro a2 a3 h; cases h
  | succ q ih => intro a2 a3 h; exact tX6_chooseHand_L4b o hnL n k0 a1 S a2 a3 z ih K h
def fX6_chooseHand (n : Nat) (k0 : Nat) (a1 : Int32) (S : xSt) : Option (Int32) :=
  if tC.1 k0 = 6 then
  ((fX6_chooseHand_L4 n k0 a1 S n ((-1 : Int32)) ((0 : Int32))).bind fun z17 => some z17)
  else none
theorem kX6_chooseHand {z : Int32} {n : Nat} {k0 : Nat} {a1 : Int32} {S : xSt} (h : fX6_chooseHand n k0 a1 S = some z) : tC.1 k0 = 6 := by
  unfold fX6_chooseHand at h
  exact (xck h).1
set_option maxHeartbeats 4000000 in
theorem tX6_chooseHand (l : Launch) (M : xMg) (A : Nat → Prop) (n : Nat) (k0 : Nat) (a1 : Int32) (S : xSt) (z : Int32) (h : fX6_chooseHand n k0 a1 S = some z) : xMI l yX6_chooseHand cX6_chooseHand 5 (some .int) 2 tC M A [.ref (M.2.1 k0), .int a1] S z S := by
  refine x_metI (plainFor_of_name (by decide)) tC_ok (Nat.le_of_ble_eq_true rfl) (fun Γ hA hnL hl hr o => ?_)
  subst hA; subst hl
  have o : xOk Γ tC M 2 cX6_chooseHand RX6 := o
  unfold fX6_chooseHand at h
  obtain ⟨hk0, h⟩ := xck h
  refine x_to (l := [(0, .ref (M.2.1 k0)), (1, .int a1)]) ⟨rfl, rfl, trivial⟩ ?_
  have hn2 : 2 < Γ.2.2.2 := by omega
  have hn3 : 3 < Γ.2.2.2 := by omega
  refine x_iconst (pc := 0) o dX6_chooseHand_0 ic_m1 ?_
  refine x_istore_n (pc := 1) o dX6_chooseHand_1 rfl hn2 ?_
  refine x_iconst (pc := 2) o dX6_chooseHand_2 ic_0 ?_
  refine x_istore_n (pc := 3) o dX6_chooseHand_3 rfl hn3 ?_
  obtain ⟨z17, hz17, h⟩ := xbs h
  refine x_to (l := [(0, .ref (M.2.1 k0)), (1, .int a1), (2, .int ((-1 : Int32))), (3, .int ((0 : Int32)))]) ⟨rfl, rfl, rfl, rfl, trivial⟩ ?_
  refine tX6_chooseHand_L4 o hnL n k0 a1 S z17 ?_ n ((-1 : Int32)) ((0 : Int32)) hz17
  refine x_iload_n (pc := 73) o dX6_chooseHand_73 rfl rfl ?_
  exact x_ireturn (pc := 74) o hr dX6_chooseHand_74 (Option.some.inj h) rfl
def fX6_tellFacts (k0 : Nat) (a1 : Int32) (a2 : Int32) (S : xSt) : Option (xSt) :=
  if tC.1 k0 = 6 then
  (if a1 < 0 then
  ((xgF tC 6 2 k0 S).bind fun r1 =>
  (xgM tC 6 5 k0 S).bind fun r2 =>
  (fX8_knownBy r2 a2 a1 S).bind fun v3 =>
  (xas tC r1 ((2 : Int32)) v3 S).bind fun S4 =>
  some S4)
else
  (if ((8 : Int32)) ≤ a1 then
  ((xgF tC 6 2 k0 S).bind fun r5 =>
  (xgM tC 6 5 k0 S).bind fun r6 =>
  (fX8_knownBy r6 a2 a1 S).bind fun v7 =>
  (xas tC r5 ((2 : Int32)) v7 S).bind fun S8 =>
  some S8)
else
  ((xgF tC 6 2 k0 S).bind fun r9 =>
  (xgM tC 6 5 k0 S).bind fun r10 =>
  (xgF tC 8 5 r10 S).bind fun r11 =>
  (xal tC r11 a1 S).bind fun v12 =>
  (xas tC r9 ((1 : Int32)) v12 S).bind fun S13 =>
  (xgF tC 6 2 k0 S13).bind fun r14 =>
  (xgM tC 6 5 k0 S13).bind fun r15 =>
  (fX8_knownBy r15 a2 a1 S13).bind fun v16 =>
  (xas tC r14 ((2 : Int32)) v16 S13).bind fun S17 =>
  some S17)))
  else none
theorem kX6_tellFacts {z : xSt} {k0 : Nat} {a1 : Int32} {a2 : Int32} {S : xSt} (h : fX6_tellFacts k0 a1 a2 S = some z) : tC.1 k0 = 6 := by
  unfold fX6_tellFacts at h
  exact (xck h).1
set_option maxHeartbeats 4000000 in
theorem tX6_tellFacts (l : Launch) (M : xMg) (A : Nat → Prop) (k0 : Nat) (a1 : Int32) (a2 : Int32) (S : xSt) (z : xSt) (h : fX6_tellFacts k0 a1 a2 S = some z) : xMV l yX6_tellFacts cX6_tellFacts 3 none 2 tC M A [.ref (M.2.1 k0), .int a1, .int a2] S z := by
  refine x_metV (plainFor_of_name (by decide)) tC_ok (Nat.le_of_ble_eq_true rfl) (fun Γ hA hnL hl hr o => ?_)
  subst hA; subst hl
  have o : xOk Γ tC M 2 cX6_tellFacts RX6 := o
  unfold fX6_tellFacts at h
  obtain ⟨hk0, h⟩ := xck h
  refine x_to (l := [(0, .ref (M.2.1 k0)), (1, .int a1), (2, .int a2)]) ⟨rfl, rfl, rfl, trivial⟩ ?_
  refine x_iload_n (pc := 0) o dX6_tellFacts_0 rfl rfl ?_
  refine x_if_lt (pc := 1) (tgt := 25) o dX6_tellFacts_1 (by decide) (fun c19 => ?_) (fun c19 => ?_)
  · have h := xit h c19
    refine x_aload_n (pc := 25) o dX6_tellFacts_25 rfl rfl ?_
    obtain ⟨r1, hr1, h⟩ := xbs h
    refine gX6_20 (pc := 26) o dX6_tellFacts_26 hr1 ?_
    refine x_iconst (pc := 29) o dX6_tellFacts_29 ic_2 ?_
    refine x_aload_n (pc := 30) o dX6_tellFacts_30 rfl rfl ?_
    obtain ⟨r2, hr2, h⟩ := xbs h
    refine gX6_27 (pc := 31) o dX6_tellFacts_31 hr2 ?_
    refine x_iload_n (pc := 34) o dX6_tellFacts_34 rfl rfl ?_
    refine x_iload_n (pc := 35) o dX6_tellFacts_35 rfl rfl ?_
    obtain ⟨v3, hv3, h⟩ := xbs h
    refine x_callI (pc := 36) (As := [.int a2, .int a1]) (b := r2) (rest := [.int ((2 : Int32)), .ref (M.2.1 r1)]) o (tX8_knownBy _ M _ r2 a2 a1 S v3 hv3) eX8_knownBy mX6_171 clX8 (kX8_knownBy hv3) (by decide) rfl rfl (Nat.le_of_ble_eq_true rfl) dX6_tellFacts_36 ?_
    obtain ⟨S4, hS4, h⟩ := xbs h
    refine x_iastore (pc := 39) o dX6_tellFacts_39 hS4 ?_
    exact x_vreturn (pc := 40) o hr dX6_tellFacts_40 (Option.some.inj h)
  · have h := xif h c19
    refine x_iload_n (pc := 4) o dX6_tellFacts_4 rfl rfl ?_
    refine x_bipush (pc := 5) o dX6_tellFacts_5 bp_8 ?_
    refine x_icmp_ge (pc := 7) (tgt := 25) o dX6_tellFacts_7 (by decide) (fun c18 => ?_) (fun c18 => ?_)
    · have h := xit h c18
      refine x_aload_n (pc := 25) o dX6_tellFacts_25 rfl rfl ?_
      obtain ⟨r5, hr5, h⟩ := xbs h
      refine gX6_20 (pc := 26) o dX6_tellFacts_26 hr5 ?_
      refine x_iconst (pc := 29) o dX6_tellFacts_29 ic_2 ?_
      refine x_aload_n (pc := 30) o dX6_tellFacts_30 rfl rfl ?_
      obtain ⟨r6, hr6, h⟩ := xbs h
      refine gX6_27 (pc := 31) o dX6_tellFacts_31 hr6 ?_
      refine x_iload_n (pc := 34) o dX6_tellFacts_34 rfl rfl ?_
      refine x_iload_n (pc := 35) o dX6_tellFacts_35 rfl rfl ?_
      obtain ⟨v7, hv7, h⟩ := xbs h
      refine x_callI (pc := 36) (As := [.int a2, .int a1]) (b := r6) (rest := [.int ((2 : Int32)), .ref (M.2.1 r5)]) o (tX8_knownBy _ M _ r6 a2 a1 S v7 hv7) eX8_knownBy mX6_171 clX8 (kX8_knownBy hv7) (by decide) rfl rfl (Nat.le_of_ble_eq_true rfl) dX6_tellFacts_36 ?_
      obtain ⟨S8, hS8, h⟩ := xbs h
      refine x_iastore (pc := 39) o dX6_tellFacts_39 hS8 ?_
      exact x_vreturn (pc := 40) o hr dX6_tellFacts_40 (Option.some.inj h)
    · have h := xif h c18
      refine x_aload_n (pc := 10) o dX6_tellFacts_10 rfl rfl ?_
      obtain ⟨r9, hr9, h⟩ := xbs h
      refine gX6_20 (pc := 11) o dX6_tellFacts_11 hr9 ?_
      refine x_iconst (pc := 14) o dX6_tellFacts_14 ic_1 ?_
      refine x_aload_n (pc := 15) o dX6_tellFacts_15 rfl rfl ?_
      obtain ⟨r10, hr10, h⟩ := xbs h
      refine gX6_27 (pc := 16) o dX6_tellFacts_16 hr10 ?_
      obtain ⟨r11, hr11, h⟩ := xbs h
      refine gX6_97 (pc := 19) o dX6_tellFacts_19 hr11 ?_
      refine x_iload_n (pc := 22) o dX6_tellFacts_22 rfl rfl ?_
      obtain ⟨v12, hv12, h⟩ := xbs h
      refine x_iaload (pc := 23) o dX6_tellFacts_23 hv12 ?_
      obtain ⟨S13, hS13, h⟩ := xbs h
      refine x_iastore (pc := 24) o dX6_tellFacts_24 hS13 ?_
      refine x_aload_n (pc := 25) o dX6_tellFacts_25 rfl rfl ?_
      obtain ⟨r14, hr14, h⟩ := xbs h
      refine gX6_20 (pc := 26) o dX6_tellFacts_26 hr14 ?_
      refine x_iconst (pc := 29) o dX6_tellFacts_29 ic_2 ?_
      refine x_aload_n (pc := 30) o dX6_tellFacts_30 rfl rfl ?_
      obtain ⟨r15, hr15, h⟩ := xbs h
      refine gX6_27 (pc := 31) o dX6_tellFacts_31 hr15 ?_
      refine x_iload_n (pc := 34) o dX6_tellFacts_34 rfl rfl ?_
      refine x_iload_n (pc := 35) o dX6_tellFacts_35 rfl rfl ?_
      obtain ⟨v16, hv16, h⟩ := xbs h
      refine x_callI (pc := 36) (As := [.int a2, .int a1]) (b := r15) (rest := [.int ((2 : Int32)), .ref (M.2.1 r14)]) o (tX8_knownBy _ M _ r15 a2 a1 S13 v16 hv16) eX8_knownBy mX6_171 clX8 (kX8_knownBy hv16) (by decide) rfl rfl (Nat.le_of_ble_eq_true rfl) dX6_tellFacts_36 ?_
      obtain ⟨S17, hS17, h⟩ := xbs h
      refine x_iastore (pc := 39) o dX6_tellFacts_39 hS17 ?_
      exact x_vreturn (pc := 40) o hr dX6_tellFacts_40 (Option.some.inj h)
def fX1_hasMay (k0 : Nat) (S : xSt) : Option (Int32) :=
  if tC.1 k0 = 1 then
  ((xgI tC 1 4 k0 S).bind fun v1 =>
  (xgI tC 1 3 k0 S).bind fun v2 =>
  if v1 ≤ v2 then
  (some ((0 : Int32)))
else
  (some ((1 : Int32))))
  else none
theorem kX1_hasMay {z : Int32} {k0 : Nat} {S : xSt} (h : fX1_hasMay k0 S = some z) : tC.1 k0 = 1 := by
  unfold fX1_hasMay at h
  exact (xck h).1
set_option maxHeartbeats 4000000 in
theorem tX1_hasMay (l : Launch) (M : xMg) (A : Nat → Prop) (k0 : Nat) (S : xSt) (z : Int32) (h : fX1_hasMay k0 S = some z) : xMI l yX1_hasMay cX1_hasMay 1 (some .boolean) 1 tC M A [.ref (M.2.1 k0)] S z S := by
  refine x_metI (plainFor_of_name (by decide)) tC_ok (Nat.le_of_ble_eq_true rfl) (fun Γ hA hnL hl hr o => ?_)
  subst hA; subst hl
  have o : xOk Γ tC M 1 cX1_hasMay RX1 := o
  unfold fX1_hasMay at h
  obtain ⟨hk0, h⟩ := xck h
  refine x_to (l := [(0, .ref (M.2.1 k0))]) ⟨rfl, trivial⟩ ?_
  refine x_aload_n (pc := 0) o dX1_hasMay_0 rfl rfl ?_
  obtain ⟨v1, hv1, h⟩ := xbs h
  refine gX1_25 (pc := 1) o dX1_hasMay_1 hv1 ?_
  refine x_aload_n (pc := 4) o dX1_hasMay_4 rfl rfl ?_
  obtain ⟨v2, hv2, h⟩ := xbs h
  refine gX1_22 (pc := 5) o dX1_hasMay_5 hv2 ?_
  refine x_icmp_le (pc := 8) (tgt := 15) o dX1_hasMay_8 (by decide) (fun c3 => ?_) (fun c3 => ?_)
  · have h := xit h c3
    refine x_iconst (pc := 15) o dX1_hasMay_15 ic_0 ?_
    exact x_zreturn (pc := 16) o hr dX1_hasMay_16 (by decide) (Option.some.inj h) rfl
  · have h := xif h c3
    refine x_iconst (pc := 11) o dX1_hasMay_11 ic_1 ?_
    refine x_goto (pc := 12) (tgt := 16) o dX1_hasMay_12 (by decide) ?_
    exact x_zreturn (pc := 16) o hr dX1_hasMay_16 (by decide) (Option.some.inj h) rfl
def fX1_compare (a0 : Int32) (a1 : Int32) (a2 : Int32) (S : xSt) : Option (Int32) :=
  if a0 = (9 : Int32) then
  (if a2 ≤ a1 then
  (some a2)
else
  (some a1))
else if a0 = (10 : Int32) then
  (if a1 ≤ a2 then
  (some a2)
else
  (some a1))
else if a0 = (11 : Int32) then
  (if a2 ≤ a1 then
  (some ((0 : Int32)))
else
  (some ((1 : Int32))))
else if a0 = (12 : Int32) then
  (if a1 ≤ a2 then
  (some ((0 : Int32)))
else
  (some ((1 : Int32))))
else if a0 = (13 : Int32) then
  (if a1 = a2 then
  (some ((1 : Int32)))
else
  (some ((0 : Int32))))
else if a0 = (14 : Int32) then
  (some (a1 &&& a2))
else 
  (some (a1 ||| a2))
set_option maxHeartbeats 4000000 in
theorem tX1_compare (l : Launch) (M : xMg) (A : Nat → Prop) (a0 : Int32) (a1 : Int32) (a2 : Int32) (S : xSt) (z : Int32) (h : fX1_compare a0 a1 a2 S = some z) : xMI l yX1_compare cX1_compare 3 (some .int) 1 tC M A [.int a0, .int a1, .int a2] S z S := by
  refine x_metI (plainFor_of_name (by decide)) tC_ok (Nat.le_of_ble_eq_true rfl) (fun Γ hA hnL hl hr o => ?_)
  subst hA; subst hl
  have o : xOk Γ tC M 1 cX1_compare RX1 := o
  unfold fX1_compare at h
  refine x_to (l := [(0, .int a0), (1, .int a1), (2, .int a2)]) ⟨rfl, rfl, rfl, trivial⟩ ?_
  refine x_iload_n (pc := 0) o dX1_compare_0 rfl rfl ?_
  by_cases c2 : a0 = (9 : Int32)
  · have h := xit h c2
    refine x_tableIn (pc := 1) (tgt := 40) o dX1_compare_1 (by rw [c2]; decide) (by rw [c2]; decide) (by rw [c2]; rfl) (by decide) ?_
    refine x_iload_n (pc := 40) o dX1_compare_40 rfl rfl ?_
    refine x_iload_n (pc := 41) o dX1_compare_41 rfl rfl ?_
    refine x_icmp_ge (pc := 42) (tgt := 49) o dX1_compare_42 (by decide) (fun c1 => ?_) (fun c1 => ?_)
    · have h := xit h c1
      refine x_iload_n (pc := 49) o dX1_compare_49 rfl rfl ?_
      exact x_ireturn (pc := 50) o hr dX1_compare_50 (Option.some.inj h) rfl
    · have h := xif h c1
      refine x_iload_n (pc := 45) o dX1_compare_45 rfl rfl ?_
      refine x_goto (pc := 46) (tgt := 50) o dX1_compare_46 (by decide) ?_
      exact x_ireturn (pc := 50) o hr dX1_compare_50 (Option.some.inj h) rfl
  have h := xif h c2
  by_cases c4 : a0 = (10 : Int32)
  · have h := xit h c4
    refine x_tableIn (pc := 1) (tgt := 51) o dX1_compare_1 (by rw [c4]; decide) (by rw [c4]; decide) (by rw [c4]; rfl) (by decide) ?_
    refine x_iload_n (pc := 51) o dX1_compare_51 rfl rfl ?_
    refine x_iload_n (pc := 52) o dX1_compare_52 rfl rfl ?_
    refine x_icmp_le (pc := 53) (tgt := 60) o dX1_compare_53 (by decide) (fun c3 => ?_) (fun c3 => ?_)
    · have h := xit h c3
      refine x_iload_n (pc := 60) o dX1_compare_60 rfl rfl ?_
      exact x_ireturn (pc := 61) o hr dX1_compare_61 (Option.some.inj h) rfl
    · have h := xif h c3
      refine x_iload_n (pc := 56) o dX1_compare_56 rfl rfl ?_
      refine x_goto (pc := 57) (tgt := 61) o dX1_compare_57 (by decide) ?_
      exact x_ireturn (pc := 61) o hr dX1_compare_61 (Option.some.inj h) rfl
  have h := xif h c4
  by_cases c6 : a0 = (11 : Int32)
  · have h := xit h c6
    refine x_tableIn (pc := 1) (tgt := 62) o dX1_compare_1 (by rw [c6]; decide) (by rw [c6]; decide) (by rw [c6]; rfl) (by decide) ?_
    refine x_iload_n (pc := 62) o dX1_compare_62 rfl rfl ?_
    refine x_iload_n (pc := 63) o dX1_compare_63 rfl rfl ?_
    refine x_icmp_ge (pc := 64) (tgt := 71) o dX1_compare_64 (by decide) (fun c5 => ?_) (fun c5 => ?_)
    · have h := xit h c5
      refine x_iconst (pc := 71) o dX1_compare_71 ic_0 ?_
      exact x_ireturn (pc := 72) o hr dX1_compare_72 (Option.some.inj h) rfl
    · have h := xif h c5
      refine x_iconst (pc := 67) o dX1_compare_67 ic_1 ?_
      refine x_goto (pc := 68) (tgt := 72) o dX1_compare_68 (by decide) ?_
      exact x_ireturn (pc := 72) o hr dX1_compare_72 (Option.some.inj h) rfl
  have h := xif h c6
  by_cases c8 : a0 = (12 : Int32)
  · have h := xit h c8
    refine x_tableIn (pc := 1) (tgt := 73) o dX1_compare_1 (by rw [c8]; decide) (by rw [c8]; decide) (by rw [c8]; rfl) (by decide) ?_
    refine x_iload_n (pc := 73) o dX1_compare_73 rfl rfl ?_
    refine x_iload_n (pc := 74) o dX1_compare_74 rfl rfl ?_
    refine x_icmp_le (pc := 75) (tgt := 82) o dX1_compare_75 (by decide) (fun c7 => ?_) (fun c7 => ?_)
    · have h := xit h c7
      refine x_iconst (pc := 82) o dX1_compare_82 ic_0 ?_
      exact x_ireturn (pc := 83) o hr dX1_compare_83 (Option.some.inj h) rfl
    · have h := xif h c7
      refine x_iconst (pc := 78) o dX1_compare_78 ic_1 ?_
      refine x_goto (pc := 79) (tgt := 83) o dX1_compare_79 (by decide) ?_
      exact x_ireturn (pc := 83) o hr dX1_compare_83 (Option.some.inj h) rfl
  have h := xif h c8
  by_cases c10 : a0 = (13 : Int32)
  · have h := xit h c10
    refine x_tableIn (pc := 1) (tgt := 84) o dX1_compare_1 (by rw [c10]; decide) (by rw [c10]; decide) (by rw [c10]; rfl) (by decide) ?_
    refine x_iload_n (pc := 84) o dX1_compare_84 rfl rfl ?_
    refine x_iload_n (pc := 85) o dX1_compare_85 rfl rfl ?_
    refine x_icmp_ne (pc := 86) (tgt := 93) o dX1_compare_86 (by decide) (fun c9 => ?_) (fun c9 => ?_)
    · have h := xif h c9
      refine x_iconst (pc := 93) o dX1_compare_93 ic_0 ?_
      exact x_ireturn (pc := 94) o hr dX1_compare_94 (Option.some.inj h) rfl
    · have h := xit h c9
      refine x_iconst (pc := 89) o dX1_compare_89 ic_1 ?_
      refine x_goto (pc := 90) (tgt := 94) o dX1_compare_90 (by decide) ?_
      exact x_ireturn (pc := 94) o hr dX1_compare_94 (Option.some.inj h) rfl
  have h := xif h c10
  by_cases c11 : a0 = (14 : Int32)
  · have h := xit h c11
    refine x_tableIn (pc := 1) (tgt := 95) o dX1_compare_1 (by rw [c11]; decide) (by rw [c11]; decide) (by rw [c11]; rfl) (by decide) ?_
    refine x_iload_n (pc := 95) o dX1_compare_95 rfl rfl ?_
    refine x_iload_n (pc := 96) o dX1_compare_96 rfl rfl ?_
    refine x_iand (pc := 97) o dX1_compare_97 ?_
    exact x_ireturn (pc := 98) o hr dX1_compare_98 (Option.some.inj h) rfl
  have h := xif h c11
  refine x_tableOut (pc := 1) (tgt := 99) o dX1_compare_1 (by have := lv_neT c2 (a := 9) (by decide); have := lv_neT c4 (a := 10) (by decide); have := lv_neT c6 (a := 11) (by decide); have := lv_neT c8 (a := 12) (by decide); have := lv_neT c10 (a := 13) (by decide); have := lv_neT c11 (a := 14) (by decide); omega) (by decide) ?_
  refine x_iload_n (pc := 99) o dX1_compare_99 rfl rfl ?_
  refine x_iload_n (pc := 100) o dX1_compare_100 rfl rfl ?_
  refine x_ior (pc := 101) o dX1_compare_101 ?_
  exact x_ireturn (pc := 102) o hr dX1_compare_102 (Option.some.inj h) rfl
def fX1_calculate_B126 (b5 : Int64) (S : xSt) : Option (Int32) :=
  if (lg_cmp b5 ((1000000 : Int64))) ≤ 0 then
  (if 0 ≤ (lg_cmp b5 ((-1000000 : Int64))) then
  (some b5.toInt32)
else
  (some (((-1000000 : Int64)).toInt32)))
else
  (some (((1000000 : Int64)).toInt32))
set_option maxHeartbeats 4000000 in
theorem tX1_calculate_B126 {Γ : xGm} {M : xMg} (o : xOk Γ tC M 1 cX1_calculate RX1) (hnL : Γ.2.2.2 = 10) (b5 : Int64) (S : xSt) (z : (Int32)) (hr : xRI Γ tC M (some .int) z S) (h : fX1_calculate_B126 b5 S = some z) : xAt Γ tC M 126 (xlv [(5, .long b5)]) [] S := by
  unfold fX1_calculate_B126 at h
  refine x_lload (pc := 126) o dX1_calculate_126 rfl ?_
  refine x_ldc2 (pc := 128) o kcX1_42 dX1_calculate_128 ?_
  refine x_lcmp (pc := 131) o dX1_calculate_131 ?_
  refine x_if_le (pc := 132) (tgt := 141) o dX1_calculate_132 (by decide) (fun c2 => ?_) (fun c2 => ?_)
  · have h := xit h c2
    refine x_lload (pc := 141) o dX1_calculate_141 rfl ?_
    refine x_ldc2 (pc := 143) o kcX1_44 dX1_calculate_143 ?_
    refine x_lcmp (pc := 146) o dX1_calculate_146 ?_
    refine x_if_ge (pc := 147) (tgt := 156) o dX1_calculate_147 (by decide) (fun c1 => ?_) (fun c1 => ?_)
    · have h := xit h c1
      refine x_lload (pc := 156) o dX1_calculate_156 rfl ?_
      refine x_l2i (pc := 158) o dX1_calculate_158 ?_
      exact x_ireturn (pc := 159) o hr dX1_calculate_159 (Option.some.inj h) rfl
    · have h := xif h c1
      refine x_ldc2 (pc := 150) o kcX1_44 dX1_calculate_150 ?_
      refine x_goto (pc := 153) (tgt := 158) o dX1_calculate_153 (by decide) ?_
      refine x_l2i (pc := 158) o dX1_calculate_158 ?_
      exact x_ireturn (pc := 159) o hr dX1_calculate_159 (Option.some.inj h) rfl
  · have h := xif h c2
    refine x_ldc2 (pc := 135) o kcX1_42 dX1_calculate_135 ?_
    refine x_goto (pc := 138) (tgt := 158) o dX1_calculate_138 (by decide) ?_
    refine x_l2i (pc := 158) o dX1_calculate_158 ?_
    exact x_ireturn (pc := 159) o hr dX1_calculate_159 (Option.some.inj h) rfl
def fX1_calculate_B124 (s0 : Int64) (S : xSt) : Option (Int32) :=
  fX1_calculate_B126 s0 S
set_option maxHeartbeats 4000000 in
theorem tX1_calculate_B124 {Γ : xGm} {M : xMg} (o : xOk Γ tC M 1 cX1_calculate RX1) (hnL : Γ.2.2.2 = 10) (s0 : Int64) (S : xSt) (z : (Int32)) (hr : xRI Γ tC M (some .int) z S) (h : fX1_calculate_B124 s0 S = some z) : xAt Γ tC M 124 (xlv []) [.long s0] S := by
  have hn6 : 6 < Γ.2.2.2 := by omega
  unfold fX1_calculate_B124 at h
  refine x_lstore (pc := 124) o dX1_calculate_124 hn6 ?_
  refine x_to (l := [(5, .long s0)]) ⟨rfl, trivial⟩ ?_
  exact tX1_calculate_B126 o hnL s0 S z hr h
def fX1_calculate_B105 (a0 : Int32) (b1 : Int64) (b3 : Int64) (s0 : Int64) (S : xSt) : Option (Int32) :=
  if a0 = ((7 : Int32)) then
  (fX1_calculate_B124 s0 S)
else
  (fX1_calculate_B124 (b1 - (b3 * s0)) S)
set_option maxHeartbeats 4000000 in
theorem tX1_calculate_B105 {Γ : xGm} {M : xMg} (o : xOk Γ tC M 1 cX1_calculate RX1) (hnL : Γ.2.2.2 = 10) (a0 : Int32) (b1 : Int64) (b3 : Int64) (s0 : Int64) (S : xSt) (z : (Int32)) (hr : xRI Γ tC M (some .int) z S) (h : fX1_calculate_B105 a0 b1 b3 s0 S = some z) : xAt Γ tC M 105 (xlv [(0, .int a0), (1, .long b1), (3, .long b3)]) [.long s0] S := by
  have hn9 : 9 < Γ.2.2.2 := by omega
  unfold fX1_calculate_B105 at h
  refine x_lstore (pc := 105) o dX1_calculate_105 hn9 ?_
  refine x_iload_n (pc := 107) o dX1_calculate_107 rfl rfl ?_
  refine x_bipush (pc := 108) o dX1_calculate_108 bp_7 ?_
  refine x_icmp_ne (pc := 110) (tgt := 118) o dX1_calculate_110 (by decide) (fun c3 => ?_) (fun c3 => ?_)
  · have h := xif h c3
    refine x_lload_n (pc := 118) o dX1_calculate_118 rfl rfl ?_
    refine x_lload_n (pc := 119) o dX1_calculate_119 rfl rfl ?_
    refine x_lload (pc := 120) o dX1_calculate_120 rfl ?_
    refine x_lmul (pc := 122) o dX1_calculate_122 ?_
    refine x_lsub (pc := 123) o dX1_calculate_123 ?_
    refine x_to (l := []) trivial ?_
    exact tX1_calculate_B124 o hnL (b1 - (b3 * s0)) S z hr h
  · have h := xit h c3
    refine x_lload (pc := 113) o dX1_calculate_113 rfl ?_
    refine x_goto (pc := 115) (tgt := 124) o dX1_calculate_115 (by decide) ?_
    refine x_to (l := []) trivial ?_
    exact tX1_calculate_B124 o hnL s0 S z hr h
def fX1_calculate_B87 (a0 : Int32) (b1 : Int64) (b3 : Int64) (s0 : Int32) (S : xSt) : Option (Int32) :=
  if s0 = 0 then
  (if b3 = 0 then none else
  fX1_calculate_B105 a0 b1 b3 (b1 / b3) S)
else
  (if b3 = 0 then none else
  fX1_calculate_B105 a0 b1 b3 ((b1 / b3) - ((1 : Int64))) S)
set_option maxHeartbeats 4000000 in
theorem tX1_calculate_B87 {Γ : xGm} {M : xMg} (o : xOk Γ tC M 1 cX1_calculate RX1) (hnL : Γ.2.2.2 = 10) (a0 : Int32) (b1 : Int64) (b3 : Int64) (s0 : Int32) (S : xSt) (z : (Int32)) (hr : xRI Γ tC M (some .int) z S) (h : fX1_calculate_B87 a0 b1 b3 s0 S = some z) : xAt Γ tC M 87 (xlv [(0, .int a0), (1, .long b1), (3, .long b3)]) [.int s0] S := by
  have hn7 : 7 < Γ.2.2.2 := by omega
  unfold fX1_calculate_B87 at h
  refine x_istore (pc := 87) o dX1_calculate_87 hn7 ?_
  refine x_iload (pc := 89) o dX1_calculate_89 rfl ?_
  refine x_if_eq (pc := 91) (tgt := 102) o dX1_calculate_91 (by decide) (fun c4 => ?_) (fun c4 => ?_)
  · have h := xit h c4
    refine x_lload_n (pc := 102) o dX1_calculate_102 rfl rfl ?_
    refine x_lload_n (pc := 103) o dX1_calculate_103 rfl rfl ?_
    obtain ⟨hq, h⟩ := xcn h
    refine x_ldiv (pc := 104) o dX1_calculate_104 hq ?_
    refine x_to (l := [(0, .int a0), (1, .long b1), (3, .long b3)]) ⟨rfl, rfl, rfl, trivial⟩ ?_
    exact tX1_calculate_B105 o hnL a0 b1 b3 (b1 / b3) S z hr h
  · have h := xif h c4
    refine x_lload_n (pc := 94) o dX1_calculate_94 rfl rfl ?_
    refine x_lload_n (pc := 95) o dX1_calculate_95 rfl rfl ?_
    obtain ⟨hq, h⟩ := xcn h
    refine x_ldiv (pc := 96) o dX1_calculate_96 hq ?_
    refine x_lconst (pc := 97) (v := 1) o dX1_calculate_97 rfl ?_
    refine x_lsub (pc := 98) o dX1_calculate_98 ?_
    refine x_goto (pc := 99) (tgt := 105) o dX1_calculate_99 (by decide) ?_
    refine x_to (l := [(0, .int a0), (1, .long b1), (3, .long b3)]) ⟨rfl, rfl, rfl, trivial⟩ ?_
    exact tX1_calculate_B105 o hnL a0 b1 b3 ((b1 / b3) - ((1 : Int64))) S z hr h
def fX1_calculate_B86 (a0 : Int32) (b1 : Int64) (b3 : Int64) (S : xSt) : Option (Int32) :=
  fX1_calculate_B87 a0 b1 b3 ((0 : Int32)) S
set_option maxHeartbeats 4000000 in
theorem tX1_calculate_B86 {Γ : xGm} {M : xMg} (o : xOk Γ tC M 1 cX1_calculate RX1) (hnL : Γ.2.2.2 = 10) (a0 : Int32) (b1 : Int64) (b3 : Int64) (S : xSt) (z : (Int32)) (hr : xRI Γ tC M (some .int) z S) (h : fX1_calculate_B86 a0 b1 b3 S = some z) : xAt Γ tC M 86 (xlv [(0, .int a0), (1, .long b1), (3, .long b3)]) [] S := by
  unfold fX1_calculate_B86 at h
  refine x_iconst (pc := 86) o dX1_calculate_86 ic_0 ?_
  refine x_to (l := [(0, .int a0), (1, .long b1), (3, .long b3)]) ⟨rfl, rfl, rfl, trivial⟩ ?_
  exact tX1_calculate_B87 o hnL a0 b1 b3 ((0 : Int32)) S z hr h
def fX1_calculate_B79 (a0 : Int32) (b1 : Int64) (b3 : Int64) (s0 : Int32) (s1 : Int32) (S : xSt) : Option (Int32) :=
  if s0 = s1 then
  (fX1_calculate_B86 a0 b1 b3 S)
else
  (fX1_calculate_B87 a0 b1 b3 ((1 : Int32)) S)
set_option maxHeartbeats 4000000 in
theorem tX1_calculate_B79 {Γ : xGm} {M : xMg} (o : xOk Γ tC M 1 cX1_calculate RX1) (hnL : Γ.2.2.2 = 10) (a0 : Int32) (b1 : Int64) (b3 : Int64) (s0 : Int32) (s1 : Int32) (S : xSt) (z : (Int32)) (hr : xRI Γ tC M (some .int) z S) (h : fX1_calculate_B79 a0 b1 b3 s0 s1 S = some z) : xAt Γ tC M 79 (xlv [(0, .int a0), (1, .long b1), (3, .long b3)]) [.int s1, .int s0] S := by
  unfold fX1_calculate_B79 at h
  refine x_icmp_eq (pc := 79) (tgt := 86) o dX1_calculate_79 (by decide) (fun c5 => ?_) (fun c5 => ?_)
  · have h := xit h c5
    refine x_to (l := [(0, .int a0), (1, .long b1), (3, .long b3)]) ⟨rfl, rfl, rfl, trivial⟩ ?_
    exact tX1_calculate_B86 o hnL a0 b1 b3 S z hr h
  · have h := xif h c5
    refine x_iconst (pc := 82) o dX1_calculate_82 ic_1 ?_
    refine x_goto (pc := 83) (tgt := 87) o dX1_calculate_83 (by decide) ?_
    refine x_to (l := [(0, .int a0), (1, .long b1), (3, .long b3)]) ⟨rfl, rfl, rfl, trivial⟩ ?_
    exact tX1_calculate_B87 o hnL a0 b1 b3 ((1 : Int32)) S z hr h
def fX1_calculate_B68 (a0 : Int32) (b1 : Int64) (b3 : Int64) (s0 : Int32) (S : xSt) : Option (Int32) :=
  if 0 ≤ (lg_cmp b3 ((0 : Int64))) then
  (fX1_calculate_B79 a0 b1 b3 s0 ((0 : Int32)) S)
else
  (fX1_calculate_B79 a0 b1 b3 s0 ((1 : Int32)) S)
set_option maxHeartbeats 4000000 in
theorem tX1_calculate_B68 {Γ : xGm} {M : xMg} (o : xOk Γ tC M 1 cX1_calculate RX1) (hnL : Γ.2.2.2 = 10) (a0 : Int32) (b1 : Int64) (b3 : Int64) (s0 : Int32) (S : xSt) (z : (Int32)) (hr : xRI Γ tC M (some .int) z S) (h : fX1_calculate_B68 a0 b1 b3 s0 S = some z) : xAt Γ tC M 68 (xlv [(0, .int a0), (1, .long b1), (3, .long b3)]) [.int s0] S := by
  unfold fX1_calculate_B68 at h
  refine x_lload_n (pc := 68) o dX1_calculate_68 rfl rfl ?_
  refine x_lconst (pc := 69) (v := 0) o dX1_calculate_69 rfl ?_
  refine x_lcmp (pc := 70) o dX1_calculate_70 ?_
  refine x_if_ge (pc := 71) (tgt := 78) o dX1_calculate_71 (by decide) (fun c6 => ?_) (fun c6 => ?_)
  · have h := xit h c6
    refine x_iconst (pc := 78) o dX1_calculate_78 ic_0 ?_
    refine x_to (l := [(0, .int a0), (1, .long b1), (3, .long b3)]) ⟨rfl, rfl, rfl, trivial⟩ ?_
    exact tX1_calculate_B79 o hnL a0 b1 b3 s0 ((0 : Int32)) S z hr h
  · have h := xif h c6
    refine x_iconst (pc := 74) o dX1_calculate_74 ic_1 ?_
    refine x_goto (pc := 75) (tgt := 79) o dX1_calculate_75 (by decide) ?_
    refine x_to (l := [(0, .int a0), (1, .long b1), (3, .long b3)]) ⟨rfl, rfl, rfl, trivial⟩ ?_
    exact tX1_calculate_B79 o hnL a0 b1 b3 s0 ((1 : Int32)) S z hr h
def fX1_calculate (a0 : Int32) (b1 : Int64) (b3 : Int64) (S : xSt) : Option (Int32) :=
  if a0 = ((4 : Int32)) then
  ((some (b1 + b3)).bind fun v14 =>
  fX1_calculate_B126 v14 S)
else
  (if a0 = ((5 : Int32)) then
  ((some (b1 - b3)).bind fun v12 =>
  fX1_calculate_B126 v12 S)
else
  (if a0 = ((6 : Int32)) then
  ((some (b1 * b3)).bind fun v10 =>
  fX1_calculate_B126 v10 S)
else
  (if (lg_cmp b3 ((0 : Int64))) = 0 then
  (fX1_calculate_B126 ((0 : Int64)) S)
else
  (if b3 = 0 then none else
  if (lg_cmp (b1 - b1 / b3 * b3) ((0 : Int64))) = 0 then
  (fX1_calculate_B86 a0 b1 b3 S)
else
  (if 0 ≤ (lg_cmp b1 ((0 : Int64))) then
  (fX1_calculate_B68 a0 b1 b3 ((0 : Int32)) S)
else
  (fX1_calculate_B68 a0 b1 b3 ((1 : Int32)) S))))))
set_option maxHeartbeats 4000000 in
theorem tX1_calculate (l : Launch) (M : xMg) (A : Nat → Prop) (a0 : Int32) (b1 : Int64) (b3 : Int64) (S : xSt) (z : Int32) (h : fX1_calculate a0 b1 b3 S = some z) : xMI l yX1_calculate cX1_calculate 10 (some .int) 1 tC M A [.int a0, .long b1, .long b3] S z S := by
  refine x_metI (plainFor_of_name (by decide)) tC_ok (Nat.le_of_ble_eq_true rfl) (fun Γ hA hnL hl hr o => ?_)
  subst hA; subst hl
  have o : xOk Γ tC M 1 cX1_calculate RX1 := o
  unfold fX1_calculate at h
  refine x_to (l := [(0, .int a0), (1, .long b1), (3, .long b3)]) ⟨rfl, rfl, rfl, trivial⟩ ?_
  have hn6 : 6 < Γ.2.2.2 := by omega
  refine x_lconst (pc := 0) (v := 0) o dX1_calculate_0 rfl ?_
  refine x_lstore (pc := 1) o dX1_calculate_1 hn6 ?_
  refine x_iload_n (pc := 3) o dX1_calculate_3 rfl rfl ?_
  refine x_iconst (pc := 4) o dX1_calculate_4 ic_4 ?_
  refine x_icmp_ne (pc := 5) (tgt := 16) o dX1_calculate_5 (by decide) (fun c15 => ?_) (fun c15 => ?_)
  · have h := xif h c15
    refine x_iload_n (pc := 16) o dX1_calculate_16 rfl rfl ?_
    refine x_iconst (pc := 17) o dX1_calculate_17 ic_5 ?_
    refine x_icmp_ne (pc := 18) (tgt := 29) o dX1_calculate_18 (by decide) (fun c13 => ?_) (fun c13 => ?_)
    · have h := xif h c13
      refine x_iload_n (pc := 29) o dX1_calculate_29 rfl rfl ?_
      refine x_bipush (pc := 30) o dX1_calculate_30 bp_6 ?_
      refine x_icmp_ne (pc := 32) (tgt := 43) o dX1_calculate_32 (by decide) (fun c11 => ?_) (fun c11 => ?_)
      · have h := xif h c11
        refine x_lload_n (pc := 43) o dX1_calculate_43 rfl rfl ?_
        refine x_lconst (pc := 44) (v := 0) o dX1_calculate_44 rfl ?_
        refine x_lcmp (pc := 45) o dX1_calculate_45 ?_
        refine x_if_eq (pc := 46) (tgt := 126) o dX1_calculate_46 (by decide) (fun c9 => ?_) (fun c9 => ?_)
        · have h := xit h c9
          refine x_to (l := [(5, .long ((0 : Int64)))]) ⟨rfl, trivial⟩ ?_
          exact tX1_calculate_B126 o hnL ((0 : Int64)) S z hr h
        · have h := xif h c9
          refine x_lload_n (pc := 49) o dX1_calculate_49 rfl rfl ?_
          refine x_lload_n (pc := 50) o dX1_calculate_50 rfl rfl ?_
          obtain ⟨hq, h⟩ := xcn h
          refine x_lrem (pc := 51) o dX1_calculate_51 hq ?_
          refine x_lconst (pc := 52) (v := 0) o dX1_calculate_52 rfl ?_
          refine x_lcmp (pc := 53) o dX1_calculate_53 ?_
          refine x_if_eq (pc := 54) (tgt := 86) o dX1_calculate_54 (by decide) (fun c8 => ?_) (fun c8 => ?_)
          · have h := xit h c8
            refine x_to (l := [(0, .int a0), (1, .long b1), (3, .long b3)]) ⟨rfl, rfl, rfl, trivial⟩ ?_
            exact tX1_calculate_B86 o hnL a0 b1 b3 S z hr h
          · have h := xif h c8
            refine x_lload_n (pc := 57) o dX1_calculate_57 rfl rfl ?_
            refine x_lconst (pc := 58) (v := 0) o dX1_calculate_58 rfl ?_
            refine x_lcmp (pc := 59) o dX1_calculate_59 ?_
            refine x_if_ge (pc := 60) (tgt := 67) o dX1_calculate_60 (by decide) (fun c7 => ?_) (fun c7 => ?_)
            · have h := xit h c7
              refine x_iconst (pc := 67) o dX1_calculate_67 ic_0 ?_
              refine x_to (l := [(0, .int a0), (1, .long b1), (3, .long b3)]) ⟨rfl, rfl, rfl, trivial⟩ ?_
              exact tX1_calculate_B68 o hnL a0 b1 b3 ((0 : Int32)) S z hr h
            · have h := xif h c7
              refine x_iconst (pc := 63) o dX1_calculate_63 ic_1 ?_
              refine x_goto (pc := 64) (tgt := 68) o dX1_calculate_64 (by decide) ?_
              refine x_to (l := [(0, .int a0), (1, .long b1), (3, .long b3)]) ⟨rfl, rfl, rfl, trivial⟩ ?_
              exact tX1_calculate_B68 o hnL a0 b1 b3 ((1 : Int32)) S z hr h
      · have h := xit h c11
        refine x_lload_n (pc := 35) o dX1_calculate_35 rfl rfl ?_
        refine x_lload_n (pc := 36) o dX1_calculate_36 rfl rfl ?_
        refine x_lmul (pc := 37) o dX1_calculate_37 ?_
        obtain ⟨v10, hv10, h⟩ := xbs h
        refine x_lstoreE (pc := 38) o dX1_calculate_38 hn6 hv10 ?_
        refine x_goto (pc := 40) (tgt := 126) o dX1_calculate_40 (by decide) ?_
        refine x_to (l := [(5, .long v10)]) ⟨rfl, trivial⟩ ?_
        exact tX1_calculate_B126 o hnL v10 S z hr h
    · have h := xit h c13
      refine x_lload_n (pc := 21) o dX1_calculate_21 rfl rfl ?_
      refine x_lload_n (pc := 22) o dX1_calculate_22 rfl rfl ?_
      refine x_lsub (pc := 23) o dX1_calculate_23 ?_
      obtain ⟨v12, hv12, h⟩ := xbs h
      refine x_lstoreE (pc := 24) o dX1_calculate_24 hn6 hv12 ?_
      refine x_goto (pc := 26) (tgt := 126) o dX1_calculate_26 (by decide) ?_
      refine x_to (l := [(5, .long v12)]) ⟨rfl, trivial⟩ ?_
      exact tX1_calculate_B126 o hnL v12 S z hr h
  · have h := xit h c15
    refine x_lload_n (pc := 8) o dX1_calculate_8 rfl rfl ?_
    refine x_lload_n (pc := 9) o dX1_calculate_9 rfl rfl ?_
    refine x_ladd (pc := 10) o dX1_calculate_10 ?_
    obtain ⟨v14, hv14, h⟩ := xbs h
    refine x_lstoreE (pc := 11) o dX1_calculate_11 hn6 hv14 ?_
    refine x_goto (pc := 13) (tgt := 126) o dX1_calculate_13 (by decide) ?_
    refine x_to (l := [(5, .long v14)]) ⟨rfl, trivial⟩ ?_
    exact tX1_calculate_B126 o hnL v14 S z hr h
def fX1_run_B254_6 (n : Nat) (rec : Int32 → Int32 → xSt → Option (Int32 × xSt)) (k0 : Nat) (a2 : Int32) (k3 : Nat) (a4 : Int32) (a5 : Int32) (a6 : Int32) (S : xSt) : Option (Int32 × xSt) :=
  if a4 < ((2 : Int32)) then
  ((some (a5 + (1 : Int32))).bind fun v9 =>
  rec a4 v9 S)
else
  ((some (a4 + (-1 : Int32))).bind fun v10 =>
  (xgF tC 1 1 k0 S).bind fun r11 =>
  (xgF tC 1 1 k0 S).bind fun r12 =>
  (xal tC r12 (v10 - ((1 : Int32))) S).bind fun v13 =>
  (xgF tC 1 1 k0 S).bind fun r14 =>
  (xal tC r14 v10 S).bind fun v15 =>
  (fX1_calculate a6 v13.toInt64 v15.toInt64 S).bind fun v16 =>
  (xas tC r11 (v10 - ((1 : Int32))) v16 S).bind fun S17 =>
  (some (a5 + (1 : Int32))).bind fun v18 =>
  rec v10 v18 S17)
set_option maxHeartbeats 4000000 in
theorem tX1_run_B254_6 {Γ : xGm} {M : xMg} (o : xOk Γ tC M 2 cX1_run RX1) (hnL : Γ.2.2.2 = 8) {rec : Int32 → Int32 → xSt → Option (Int32 × xSt)} (n : Nat) (k0 : Nat) (a2 : Int32) (k3 : Nat) (a4 : Int32) (a5 : Int32) (a6 : Int32) (S : xSt) (z : (Int32 × xSt)) (hrec : ∀ (a4 : Int32) (a5 : Int32) (S : xSt), rec a4 a5 S = some z → xAt Γ tC M 6 (xlv [(0, .ref (M.2.1 k0)), (2, .int a2), (3, .ref (M.2.1 k3)), (4, .int a4), (5, .int a5)]) [] S) (K : xAt Γ tC M 301 (xlv [(0, .ref (M.2.1 k0)), (4, .int z.1)]) [] z.2) (h : fX1_run_B254_6 n rec k0 a2 k3 a4 a5 a6 S = some z) : xAt Γ tC M 254 (xlv [(0, .ref (M.2.1 k0)), (2, .int a2), (3, .ref (M.2.1 k3)), (4, .int a4), (5, .int a5), (6, .int a6)]) [] S := by
  have hn4 : 4 < Γ.2.2.2 := by omega
  have hn5 : 5 < Γ.2.2.2 := by omega
  unfold fX1_run_B254_6 at h
  refine x_iload (pc := 254) o dX1_run_254 rfl ?_
  refine x_iconst (pc := 256) o dX1_run_256 ic_2 ?_
  refine x_icmp_lt (pc := 257) (tgt := 295) o dX1_run_257 (by decide) (fun c19 => ?_) (fun c19 => ?_)
  · have h := xit h c19
    obtain ⟨v9, hv9, h⟩ := xbs h
    refine x_iincE (pc := 295) o dX1_run_295 rfl ic_1 hn5 hv9 ?_
    refine x_goto (pc := 298) (tgt := 6) o dX1_run_298 (by decide) ?_
    refine x_to (l := [(0, .ref (M.2.1 k0)), (2, .int a2), (3, .ref (M.2.1 k3)), (4, .int a4), (5, .int v9)]) ⟨rfl, rfl, rfl, rfl, rfl, trivial⟩ ?_
    exact hrec a4 v9 S h
  · have h := xif h c19
    obtain ⟨v10, hv10, h⟩ := xbs h
    refine x_iincE (pc := 260) o dX1_run_260 rfl ic_m1 hn4 hv10 ?_
    refine x_aload_n (pc := 263) o dX1_run_263 rfl rfl ?_
    obtain ⟨r11, hr11, h⟩ := xbs h
    refine gX1_15 (pc := 264) o dX1_run_264 hr11 ?_
    refine x_iload (pc := 267) o dX1_run_267 rfl ?_
    refine x_iconst (pc := 269) o dX1_run_269 ic_1 ?_
    refine x_isub (pc := 270) o dX1_run_270 ?_
    refine x_iload (pc := 271) o dX1_run_271 rfl ?_
    refine x_aload_n (pc := 273) o dX1_run_273 rfl rfl ?_
    obtain ⟨r12, hr12, h⟩ := xbs h
    refine gX1_15 (pc := 274) o dX1_run_274 hr12 ?_
    refine x_iload (pc := 277) o dX1_run_277 rfl ?_
    refine x_iconst (pc := 279) o dX1_run_279 ic_1 ?_
    refine x_isub (pc := 280) o dX1_run_280 ?_
    obtain ⟨v13, hv13, h⟩ := xbs h
    refine x_iaload (pc := 281) o dX1_run_281 hv13 ?_
    refine x_i2l (pc := 282) o dX1_run_282 ?_
    refine x_aload_n (pc := 283) o dX1_run_283 rfl rfl ?_
    obtain ⟨r14, hr14, h⟩ := xbs h
    refine gX1_15 (pc := 284) o dX1_run_284 hr14 ?_
    refine x_iload (pc := 287) o dX1_run_287 rfl ?_
    obtain ⟨v15, hv15, h⟩ := xbs h
    refine x_iaload (pc := 289) o dX1_run_289 hv15 ?_
    refine x_i2l (pc := 290) o dX1_run_290 ?_
    obtain ⟨v16, hv16, h⟩ := xbs h
    refine x_statI (pc := 291) (As := [.int a6, .long v13.toInt64, .long v15.toInt64]) (rest := [.int (v10 - ((1 : Int32))), .ref (M.2.1 r11)]) o (tX1_calculate _ M _ a6 v13.toInt64 v15.toInt64 S v16 hv16) eX1_calculate mX1_38 (by decide) rfl rfl (Nat.le_of_ble_eq_true rfl) dX1_run_291 ?_
    obtain ⟨S17, hS17, h⟩ := xbs h
    refine x_iastore (pc := 294) o dX1_run_294 hS17 ?_
    obtain ⟨v18, hv18, h⟩ := xbs h
    refine x_iincE (pc := 295) o dX1_run_295 rfl ic_1 hn5 hv18 ?_
    refine x_goto (pc := 298) (tgt := 6) o dX1_run_298 (by decide) ?_
    refine x_to (l := [(0, .ref (M.2.1 k0)), (2, .int a2), (3, .ref (M.2.1 k3)), (4, .int v10), (5, .int v18)]) ⟨rfl, rfl, rfl, rfl, rfl, trivial⟩ ?_
    exact hrec v10 v18 S17 h
def fX1_run_B205_6 (n : Nat) (rec : Int32 → Int32 → xSt → Option (Int32 × xSt)) (k0 : Nat) (a2 : Int32) (k3 : Nat) (a4 : Int32) (a5 : Int32) (a6 : Int32) (S : xSt) : Option (Int32 × xSt) :=
  if a6 < ((9 : Int32)) then
  (fX1_run_B254_6 n rec k0 a2 k3 a4 a5 a6 S)
else
  (if a4 < ((2 : Int32)) then
  (fX1_run_B254_6 n rec k0 a2 k3 a4 a5 a6 S)
else
  ((some (a4 + (-1 : Int32))).bind fun v20 =>
  (xgF tC 1 1 k0 S).bind fun r21 =>
  (xgF tC 1 1 k0 S).bind fun r22 =>
  (xal tC r22 (v20 - ((1 : Int32))) S).bind fun v23 =>
  (xgF tC 1 1 k0 S).bind fun r24 =>
  (xal tC r24 v20 S).bind fun v25 =>
  (fX1_compare a6 v23 v25 S).bind fun v26 =>
  (xas tC r21 (v20 - ((1 : Int32))) v26 S).bind fun S27 =>
  (some (a5 + (1 : Int32))).bind fun v28 =>
  rec v20 v28 S27))
set_option maxHeartbeats 4000000 in
theorem tX1_run_B205_6 {Γ : xGm} {M : xMg} (o : xOk Γ tC M 2 cX1_run RX1) (hnL : Γ.2.2.2 = 8) {rec : Int32 → Int32 → xSt → Option (Int32 × xSt)} (n : Nat) (k0 : Nat) (a2 : Int32) (k3 : Nat) (a4 : Int32) (a5 : Int32) (a6 : Int32) (S : xSt) (z : (Int32 × xSt)) (hrec : ∀ (a4 : Int32) (a5 : Int32) (S : xSt), rec a4 a5 S = some z → xAt Γ tC M 6 (xlv [(0, .ref (M.2.1 k0)), (2, .int a2), (3, .ref (M.2.1 k3)), (4, .int a4), (5, .int a5)]) [] S) (K : xAt Γ tC M 301 (xlv [(0, .ref (M.2.1 k0)), (4, .int z.1)]) [] z.2) (h : fX1_run_B205_6 n rec k0 a2 k3 a4 a5 a6 S = some z) : xAt Γ tC M 205 (xlv [(0, .ref (M.2.1 k0)), (2, .int a2), (3, .ref (M.2.1 k3)), (4, .int a4), (5, .int a5), (6, .int a6)]) [] S := by
  have hn4 : 4 < Γ.2.2.2 := by omega
  have hn5 : 5 < Γ.2.2.2 := by omega
  unfold fX1_run_B205_6 at h
  refine x_iload (pc := 205) o dX1_run_205 rfl ?_
  refine x_bipush (pc := 207) o dX1_run_207 bp_9 ?_
  refine x_icmp_lt (pc := 209) (tgt := 254) o dX1_run_209 (by decide) (fun c30 => ?_) (fun c30 => ?_)
  · have h := xit h c30
    refine x_to (l := [(0, .ref (M.2.1 k0)), (2, .int a2), (3, .ref (M.2.1 k3)), (4, .int a4), (5, .int a5), (6, .int a6)]) ⟨rfl, rfl, rfl, rfl, rfl, rfl, trivial⟩ ?_
    exact tX1_run_B254_6 o hnL n k0 a2 k3 a4 a5 a6 S z hrec K  h
  · have h := xif h c30
    refine x_iload (pc := 212) o dX1_run_212 rfl ?_
    refine x_iconst (pc := 214) o dX1_run_214 ic_2 ?_
    refine x_icmp_lt (pc := 215) (tgt := 254) o dX1_run_215 (by decide) (fun c29 => ?_) (fun c29 => ?_)
    · have h := xit h c29
      refine x_to (l := [(0, .ref (M.2.1 k0)), (2, .int a2), (3, .ref (M.2.1 k3)), (4, .int a4), (5, .int a5), (6, .int a6)]) ⟨rfl, rfl, rfl, rfl, rfl, rfl, trivial⟩ ?_
      exact tX1_run_B254_6 o hnL n k0 a2 k3 a4 a5 a6 S z hrec K  h
    · have h := xif h c29
      obtain ⟨v20, hv20, h⟩ := xbs h
      refine x_iincE (pc := 218) o dX1_run_218 rfl ic_m1 hn4 hv20 ?_
      refine x_aload_n (pc := 221) o dX1_run_221 rfl rfl ?_
      obtain ⟨r21, hr21, h⟩ := xbs h
      refine gX1_15 (pc := 222) o dX1_run_222 hr21 ?_
      refine x_iload (pc := 225) o dX1_run_225 rfl ?_
      refine x_iconst (pc := 227) o dX1_run_227 ic_1 ?_
      refine x_isub (pc := 228) o dX1_run_228 ?_
      refine x_iload (pc := 229) o dX1_run_229 rfl ?_
      refine x_aload_n (pc := 231) o dX1_run_231 rfl rfl ?_
      obtain ⟨r22, hr22, h⟩ := xbs h
      refine gX1_15 (pc := 232) o dX1_run_232 hr22 ?_
      refine x_iload (pc := 235) o dX1_run_235 rfl ?_
      refine x_iconst (pc := 237) o dX1_run_237 ic_1 ?_
      refine x_isub (pc := 238) o dX1_run_238 ?_
      obtain ⟨v23, hv23, h⟩ := xbs h
      refine x_iaload (pc := 239) o dX1_run_239 hv23 ?_
      refine x_aload_n (pc := 240) o dX1_run_240 rfl rfl ?_
      obtain ⟨r24, hr24, h⟩ := xbs h
      refine gX1_15 (pc := 241) o dX1_run_241 hr24 ?_
      refine x_iload (pc := 244) o dX1_run_244 rfl ?_
      obtain ⟨v25, hv25, h⟩ := xbs h
      refine x_iaload (pc := 246) o dX1_run_246 hv25 ?_
      obtain ⟨v26, hv26, h⟩ := xbs h
      refine x_statI (pc := 247) (As := [.int a6, .int v23, .int v25]) (rest := [.int (v20 - ((1 : Int32))), .ref (M.2.1 r21)]) o (tX1_compare _ M _ a6 v23 v25 S v26 hv26) eX1_compare mX1_34 (by decide) rfl rfl (Nat.le_of_ble_eq_true rfl) dX1_run_247 ?_
      obtain ⟨S27, hS27, h⟩ := xbs h
      refine x_iastore (pc := 250) o dX1_run_250 hS27 ?_
      refine x_goto (pc := 251) (tgt := 295) o dX1_run_251 (by decide) ?_
      obtain ⟨v28, hv28, h⟩ := xbs h
      refine x_iincE (pc := 295) o dX1_run_295 rfl ic_1 hn5 hv28 ?_
      refine x_goto (pc := 298) (tgt := 6) o dX1_run_298 (by decide) ?_
      refine x_to (l := [(0, .ref (M.2.1 k0)), (2, .int a2), (3, .ref (M.2.1 k3)), (4, .int v20), (5, .int v28)]) ⟨rfl, rfl, rfl, rfl, rfl, trivial⟩ ?_
      exact hrec v20 v28 S27 h
def fX1_run_B147_6 (n : Nat) (rec : Int32 → Int32 → xSt → Option (Int32 × xSt)) (k0 : Nat) (a2 : Int32) (k3 : Nat) (a4 : Int32) (a5 : Int32) (a6 : Int32) (S : xSt) : Option (Int32 × xSt) :=
  if a6 = ((3 : Int32)) then
  (if a4 < ((3 : Int32)) then
  (fX1_run_B205_6 n rec k0 a2 k3 a4 a5 a6 S)
else
  ((some (a4 + (-2 : Int32))).bind fun v31 =>
  (xgF tC 1 1 k0 S).bind fun r32 =>
  (xgF tC 1 1 k0 S).bind fun r33 =>
  (xal tC r33 (v31 - ((1 : Int32))) S).bind fun v34 =>
  if v34 = 0 then
  ((xgF tC 1 1 k0 S).bind fun r35 =>
  (xal tC r35 (v31 + ((1 : Int32))) S).bind fun v36 =>
  (xas tC r32 (v31 - ((1 : Int32))) v36 S).bind fun S37 =>
  (some (a5 + (1 : Int32))).bind fun v38 =>
  rec v31 v38 S37)
else
  ((xgF tC 1 1 k0 S).bind fun r39 =>
  (xal tC r39 v31 S).bind fun v40 =>
  (xas tC r32 (v31 - ((1 : Int32))) v40 S).bind fun S41 =>
  (some (a5 + (1 : Int32))).bind fun v42 =>
  rec v31 v42 S41)))
else
  (fX1_run_B205_6 n rec k0 a2 k3 a4 a5 a6 S)
set_option maxHeartbeats 4000000 in
theorem tX1_run_B147_6 {Γ : xGm} {M : xMg} (o : xOk Γ tC M 2 cX1_run RX1) (hnL : Γ.2.2.2 = 8) {rec : Int32 → Int32 → xSt → Option (Int32 × xSt)} (n : Nat) (k0 : Nat) (a2 : Int32) (k3 : Nat) (a4 : Int32) (a5 : Int32) (a6 : Int32) (S : xSt) (z : (Int32 × xSt)) (hrec : ∀ (a4 : Int32) (a5 : Int32) (S : xSt), rec a4 a5 S = some z → xAt Γ tC M 6 (xlv [(0, .ref (M.2.1 k0)), (2, .int a2), (3, .ref (M.2.1 k3)), (4, .int a4), (5, .int a5)]) [] S) (K : xAt Γ tC M 301 (xlv [(0, .ref (M.2.1 k0)), (4, .int z.1)]) [] z.2) (h : fX1_run_B147_6 n rec k0 a2 k3 a4 a5 a6 S = some z) : xAt Γ tC M 147 (xlv [(0, .ref (M.2.1 k0)), (2, .int a2), (3, .ref (M.2.1 k3)), (4, .int a4), (5, .int a5), (6, .int a6)]) [] S := by
  have hn4 : 4 < Γ.2.2.2 := by omega
  have hn5 : 5 < Γ.2.2.2 := by omega
  unfold fX1_run_B147_6 at h
  refine x_iload (pc := 147) o dX1_run_147 rfl ?_
  refine x_iconst (pc := 149) o dX1_run_149 ic_3 ?_
  refine x_icmp_ne (pc := 150) (tgt := 205) o dX1_run_150 (by decide) (fun c45 => ?_) (fun c45 => ?_)
  · have h := xif h c45
    refine x_to (l := [(0, .ref (M.2.1 k0)), (2, .int a2), (3, .ref (M.2.1 k3)), (4, .int a4), (5, .int a5), (6, .int a6)]) ⟨rfl, rfl, rfl, rfl, rfl, rfl, trivial⟩ ?_
    exact tX1_run_B205_6 o hnL n k0 a2 k3 a4 a5 a6 S z hrec K  h
  · have h := xit h c45
    refine x_iload (pc := 153) o dX1_run_153 rfl ?_
    refine x_iconst (pc := 155) o dX1_run_155 ic_3 ?_
    refine x_icmp_lt (pc := 156) (tgt := 205) o dX1_run_156 (by decide) (fun c44 => ?_) (fun c44 => ?_)
    · have h := xit h c44
      refine x_to (l := [(0, .ref (M.2.1 k0)), (2, .int a2), (3, .ref (M.2.1 k3)), (4, .int a4), (5, .int a5), (6, .int a6)]) ⟨rfl, rfl, rfl, rfl, rfl, rfl, trivial⟩ ?_
      exact tX1_run_B205_6 o hnL n k0 a2 k3 a4 a5 a6 S z hrec K  h
    · have h := xif h c44
      obtain ⟨v31, hv31, h⟩ := xbs h
      refine x_iincE (pc := 159) o dX1_run_159 rfl ic_m2 hn4 hv31 ?_
      refine x_aload_n (pc := 162) o dX1_run_162 rfl rfl ?_
      obtain ⟨r32, hr32, h⟩ := xbs h
      refine gX1_15 (pc := 163) o dX1_run_163 hr32 ?_
      refine x_iload (pc := 166) o dX1_run_166 rfl ?_
      refine x_iconst (pc := 168) o dX1_run_168 ic_1 ?_
      refine x_isub (pc := 169) o dX1_run_169 ?_
      refine x_aload_n (pc := 170) o dX1_run_170 rfl rfl ?_
      obtain ⟨r33, hr33, h⟩ := xbs h
      refine gX1_15 (pc := 171) o dX1_run_171 hr33 ?_
      refine x_iload (pc := 174) o dX1_run_174 rfl ?_
      refine x_iconst (pc := 176) o dX1_run_176 ic_1 ?_
      refine x_isub (pc := 177) o dX1_run_177 ?_
      obtain ⟨v34, hv34, h⟩ := xbs h
      refine x_iaload (pc := 178) o dX1_run_178 hv34 ?_
      refine x_if_eq (pc := 179) (tgt := 192) o dX1_run_179 (by decide) (fun c43 => ?_) (fun c43 => ?_)
      · have h := xit h c43
        refine x_aload_n (pc := 192) o dX1_run_192 rfl rfl ?_
        obtain ⟨r35, hr35, h⟩ := xbs h
        refine gX1_15 (pc := 193) o dX1_run_193 hr35 ?_
        refine x_iload (pc := 196) o dX1_run_196 rfl ?_
        refine x_iconst (pc := 198) o dX1_run_198 ic_1 ?_
        refine x_iadd (pc := 199) o dX1_run_199 ?_
        obtain ⟨v36, hv36, h⟩ := xbs h
        refine x_iaload (pc := 200) o dX1_run_200 hv36 ?_
        obtain ⟨S37, hS37, h⟩ := xbs h
        refine x_iastore (pc := 201) o dX1_run_201 hS37 ?_
        refine x_goto (pc := 202) (tgt := 295) o dX1_run_202 (by decide) ?_
        obtain ⟨v38, hv38, h⟩ := xbs h
        refine x_iincE (pc := 295) o dX1_run_295 rfl ic_1 hn5 hv38 ?_
        refine x_goto (pc := 298) (tgt := 6) o dX1_run_298 (by decide) ?_
        refine x_to (l := [(0, .ref (M.2.1 k0)), (2, .int a2), (3, .ref (M.2.1 k3)), (4, .int v31), (5, .int v38)]) ⟨rfl, rfl, rfl, rfl, rfl, trivial⟩ ?_
        exact hrec v31 v38 S37 h
      · have h := xif h c43
        refine x_aload_n (pc := 182) o dX1_run_182 rfl rfl ?_
        obtain ⟨r39, hr39, h⟩ := xbs h
        refine gX1_15 (pc := 183) o dX1_run_183 hr39 ?_
        refine x_iload (pc := 186) o dX1_run_186 rfl ?_
        obtain ⟨v40, hv40, h⟩ := xbs h
        refine x_iaload (pc := 188) o dX1_run_188 hv40 ?_
        refine x_goto (pc := 189) (tgt := 201) o dX1_run_189 (by decide) ?_
        obtain ⟨S41, hS41, h⟩ := xbs h
        refine x_iastore (pc := 201) o dX1_run_201 hS41 ?_
        refine x_goto (pc := 202) (tgt := 295) o dX1_run_202 (by decide) ?_
        obtain ⟨v42, hv42, h⟩ := xbs h
        refine x_iincE (pc := 295) o dX1_run_295 rfl ic_1 hn5 hv42 ?_
        refine x_goto (pc := 298) (tgt := 6) o dX1_run_298 (by decide) ?_
        refine x_to (l := [(0, .ref (M.2.1 k0)), (2, .int a2), (3, .ref (M.2.1 k3)), (4, .int v31), (5, .int v42)]) ⟨rfl, rfl, rfl, rfl, rfl, trivial⟩ ?_
        exact hrec v31 v42 S41 h
def fX1_run_B112_6 (n : Nat) (rec : Int32 → Int32 → xSt → Option (Int32 × xSt)) (k0 : Nat) (a2 : Int32) (k3 : Nat) (a4 : Int32) (a5 : Int32) (a6 : Int32) (S : xSt) : Option (Int32 × xSt) :=
  if a6 = ((2 : Int32)) then
  (if a4 < ((1 : Int32)) then
  (fX1_run_B147_6 n rec k0 a2 k3 a4 a5 a6 S)
else
  ((xgF tC 1 1 k0 S).bind fun r46 =>
  (xgF tC 1 1 k0 S).bind fun r47 =>
  (xal tC r47 (a4 - ((1 : Int32))) S).bind fun v48 =>
  (xas tC r46 (a4 - ((1 : Int32))) (((1 : Int32)) - v48) S).bind fun S49 =>
  (some (a5 + (1 : Int32))).bind fun v50 =>
  rec a4 v50 S49))
else
  (fX1_run_B147_6 n rec k0 a2 k3 a4 a5 a6 S)
set_option maxHeartbeats 4000000 in
theorem tX1_run_B112_6 {Γ : xGm} {M : xMg} (o : xOk Γ tC M 2 cX1_run RX1) (hnL : Γ.2.2.2 = 8) {rec : Int32 → Int32 → xSt → Option (Int32 × xSt)} (n : Nat) (k0 : Nat) (a2 : Int32) (k3 : Nat) (a4 : Int32) (a5 : Int32) (a6 : Int32) (S : xSt) (z : (Int32 × xSt)) (hrec : ∀ (a4 : Int32) (a5 : Int32) (S : xSt), rec a4 a5 S = some z → xAt Γ tC M 6 (xlv [(0, .ref (M.2.1 k0)), (2, .int a2), (3, .ref (M.2.1 k3)), (4, .int a4), (5, .int a5)]) [] S) (K : xAt Γ tC M 301 (xlv [(0, .ref (M.2.1 k0)), (4, .int z.1)]) [] z.2) (h : fX1_run_B112_6 n rec k0 a2 k3 a4 a5 a6 S = some z) : xAt Γ tC M 112 (xlv [(0, .ref (M.2.1 k0)), (2, .int a2), (3, .ref (M.2.1 k3)), (4, .int a4), (5, .int a5), (6, .int a6)]) [] S := by
  have hn5 : 5 < Γ.2.2.2 := by omega
  unfold fX1_run_B112_6 at h
  refine x_iload (pc := 112) o dX1_run_112 rfl ?_
  refine x_iconst (pc := 114) o dX1_run_114 ic_2 ?_
  refine x_icmp_ne (pc := 115) (tgt := 147) o dX1_run_115 (by decide) (fun c52 => ?_) (fun c52 => ?_)
  · have h := xif h c52
    refine x_to (l := [(0, .ref (M.2.1 k0)), (2, .int a2), (3, .ref (M.2.1 k3)), (4, .int a4), (5, .int a5), (6, .int a6)]) ⟨rfl, rfl, rfl, rfl, rfl, rfl, trivial⟩ ?_
    exact tX1_run_B147_6 o hnL n k0 a2 k3 a4 a5 a6 S z hrec K  h
  · have h := xit h c52
    refine x_iload (pc := 118) o dX1_run_118 rfl ?_
    refine x_iconst (pc := 120) o dX1_run_120 ic_1 ?_
    refine x_icmp_lt (pc := 121) (tgt := 147) o dX1_run_121 (by decide) (fun c51 => ?_) (fun c51 => ?_)
    · have h := xit h c51
      refine x_to (l := [(0, .ref (M.2.1 k0)), (2, .int a2), (3, .ref (M.2.1 k3)), (4, .int a4), (5, .int a5), (6, .int a6)]) ⟨rfl, rfl, rfl, rfl, rfl, rfl, trivial⟩ ?_
      exact tX1_run_B147_6 o hnL n k0 a2 k3 a4 a5 a6 S z hrec K  h
    · have h := xif h c51
      refine x_aload_n (pc := 124) o dX1_run_124 rfl rfl ?_
      obtain ⟨r46, hr46, h⟩ := xbs h
      refine gX1_15 (pc := 125) o dX1_run_125 hr46 ?_
      refine x_iload (pc := 128) o dX1_run_128 rfl ?_
      refine x_iconst (pc := 130) o dX1_run_130 ic_1 ?_
      refine x_isub (pc := 131) o dX1_run_131 ?_
      refine x_iconst (pc := 132) o dX1_run_132 ic_1 ?_
      refine x_aload_n (pc := 133) o dX1_run_133 rfl rfl ?_
      obtain ⟨r47, hr47, h⟩ := xbs h
      refine gX1_15 (pc := 134) o dX1_run_134 hr47 ?_
      refine x_iload (pc := 137) o dX1_run_137 rfl ?_
      refine x_iconst (pc := 139) o dX1_run_139 ic_1 ?_
      refine x_isub (pc := 140) o dX1_run_140 ?_
      obtain ⟨v48, hv48, h⟩ := xbs h
      refine x_iaload (pc := 141) o dX1_run_141 hv48 ?_
      refine x_isub (pc := 142) o dX1_run_142 ?_
      obtain ⟨S49, hS49, h⟩ := xbs h
      refine x_iastore (pc := 143) o dX1_run_143 hS49 ?_
      refine x_goto (pc := 144) (tgt := 295) o dX1_run_144 (by decide) ?_
      obtain ⟨v50, hv50, h⟩ := xbs h
      refine x_iincE (pc := 295) o dX1_run_295 rfl ic_1 hn5 hv50 ?_
      refine x_goto (pc := 298) (tgt := 6) o dX1_run_298 (by decide) ?_
      refine x_to (l := [(0, .ref (M.2.1 k0)), (2, .int a2), (3, .ref (M.2.1 k3)), (4, .int a4), (5, .int v50)]) ⟨rfl, rfl, rfl, rfl, rfl, trivial⟩ ?_
      exact hrec a4 v50 S49 h
def fX1_run_L6b (n : Nat) (k0 : Nat) (a2 : Int32) (k3 : Nat) (rec : Int32 → Int32 → xSt → Option (Int32 × xSt)) (a4 : Int32) (a5 : Int32) (S : xSt) : Option (Int32 × xSt) :=
  if a2 ≤ a5 then
  (some (a4, S))
else
  (if a5 < 0 then
  (some (a4, S))
else
  ((xgF tC 1 0 k0 S).bind fun r1 =>
  (xlen tC r1).bind fun v2 =>
  if v2 ≤ a5 then
  (some (a4, S))
else
  (if ((64 : Int32)) ≤ a4 then
  (some (a4, S))
else
  ((xgF tC 1 0 k0 S).bind fun r3 =>
  (xal tC r3 a5 S).bind fun v4 =>
  (some (v4 &&& ((31 : Int32)))).bind fun v5 =>
  (xgF tC 1 0 k0 S).bind fun r6 =>
  (xal tC r6 a5 S).bind fun v7 =>
  (some (v7 >>> (((5 : Int32)) &&& 31))).bind fun v8 =>
  if v5 = 0 then
  ((xgF tC 1 1 k0 S).bind fun r62 =>
  (xas tC r62 a4 v8 S).bind fun S63 =>
  (some (a4 + (1 : Int32))).bind fun v64 =>
  (some (a5 + (1 : Int32))).bind fun v65 =>
  rec v64 v65 S63)
else
  (if v5 = ((1 : Int32)) then
  (if v8 < 0 then
  (fX1_run_B112_6 n rec k0 a2 k3 a4 a5 v5 S)
else
  ((xlen tC k3).bind fun v53 =>
  if v53 ≤ v8 then
  (fX1_run_B112_6 n rec k0 a2 k3 a4 a5 v5 S)
else
  ((xgF tC 1 1 k0 S).bind fun r54 =>
  (xal tC k3 v8 S).bind fun v55 =>
  (xas tC r54 a4 v55 S).bind fun S56 =>
  (some (a4 + (1 : Int32))).bind fun v57 =>
  (some (a5 + (1 : Int32))).bind fun v58 =>
  rec v57 v58 S56)))
else
  (fX1_run_B112_6 n rec k0 a2 k3 a4 a5 v5 S))))))
def fX1_run_L6 (n : Nat) (k0 : Nat) (a2 : Int32) (k3 : Nat) : Nat → Int32 → Int32 → xSt → Option (Int32 × xSt)
  | 0 => fun _ _ _ => none
  | q + 1 => fX1_run_L6b n k0 a2 k3 (fX1_run_L6 n k0 a2 k3 q)
set_option maxHeartbeats 4000000 in
theorem tX1_run_L6b {Γ : xGm} {M : xMg} (o : xOk Γ tC M 2 cX1_run RX1) (hnL : Γ.2.2.2 = 8) {rec : Int32 → Int32 → xSt → Option (Int32 × xSt)} (n : Nat) (k0 : Nat) (a2 : Int32) (k3 : Nat) (a4 : Int32) (a5 : Int32) (S : xSt) (z : (Int32 × xSt)) (hrec : ∀ (a4 : Int32) (a5 : Int32) (S : xSt), rec a4 a5 S = some z → xAt Γ tC M 6 (xlv [(0, .ref (M.2.1 k0)), (2, .int a2), (3, .ref (M.2.1 k3)), (4, .int a4), (5, .int a5)]) [] S) (K : xAt Γ tC M 301 (xlv [(0, .ref (M.2.1 k0)), (4, .int z.1)]) [] z.2) (h : fX1_run_L6b n k0 a2 k3 rec a4 a5 S = some z) : xAt Γ tC M 6 (xlv [(0, .ref (M.2.1 k0)), (2, .int a2), (3, .ref (M.2.1 k3)), (4, .int a4), (5, .int a5)]) [] S := by
  have hn4 : 4 < Γ.2.2.2 := by omega
  have hn5 : 5 < Γ.2.2.2 := by omega
  have hn6 : 6 < Γ.2.2.2 := by omega
  have hn7 : 7 < Γ.2.2.2 := by omega
  unfold fX1_run_L6b at h
  refine x_iload (pc := 6) o dX1_run_6 rfl ?_
  refine x_iload_n (pc := 8) o dX1_run_8 rfl rfl ?_
  refine x_icmp_ge (pc := 9) (tgt := 301) o dX1_run_9 (by decide) (fun c70 => ?_) (fun c70 => ?_)
  · have h := xit h c70
    refine x_to (l := [(0, .ref (M.2.1 k0)), (4, .int a4)]) ⟨rfl, rfl, trivial⟩ ?_
    cases Option.some.inj h
    exact K
  · have h := xif h c70
    refine x_iload (pc := 12) o dX1_run_12 rfl ?_
    refine x_if_lt (pc := 14) (tgt := 301) o dX1_run_14 (by decide) (fun c69 => ?_) (fun c69 => ?_)
    · have h := xit h c69
      refine x_to (l := [(0, .ref (M.2.1 k0)), (4, .int a4)]) ⟨rfl, rfl, trivial⟩ ?_
      cases Option.some.inj h
      exact K
    · have h := xif h c69
      refine x_iload (pc := 17) o dX1_run_17 rfl ?_
      refine x_aload_n (pc := 19) o dX1_run_19 rfl rfl ?_
      obtain ⟨r1, hr1, h⟩ := xbs h
      refine gX1_9 (pc := 20) o dX1_run_20 hr1 ?_
      obtain ⟨v2, hv2, h⟩ := xbs h
      refine x_arraylength (pc := 23) o dX1_run_23 hv2 ?_
      refine x_icmp_ge (pc := 24) (tgt := 301) o dX1_run_24 (by decide) (fun c68 => ?_) (fun c68 => ?_)
      · have h := xit h c68
        refine x_to (l := [(0, .ref (M.2.1 k0)), (4, .int a4)]) ⟨rfl, rfl, trivial⟩ ?_
        cases Option.some.inj h
        exact K
      · have h := xif h c68
        refine x_iload (pc := 27) o dX1_run_27 rfl ?_
        refine x_bipush (pc := 29) o dX1_run_29 bp_64 ?_
        refine x_icmp_ge (pc := 31) (tgt := 301) o dX1_run_31 (by decide) (fun c67 => ?_) (fun c67 => ?_)
        · have h := xit h c67
          refine x_to (l := [(0, .ref (M.2.1 k0)), (4, .int a4)]) ⟨rfl, rfl, trivial⟩ ?_
          cases Option.some.inj h
          exact K
        · have h := xif h c67
          refine x_aload_n (pc := 34) o dX1_run_34 rfl rfl ?_
          obtain ⟨r3, hr3, h⟩ := xbs h
          refine gX1_9 (pc := 35) o dX1_run_35 hr3 ?_
          refine x_iload (pc := 38) o dX1_run_38 rfl ?_
          obtain ⟨v4, hv4, h⟩ := xbs h
          refine x_iaload (pc := 40) o dX1_run_40 hv4 ?_
          refine x_bipush (pc := 41) o dX1_run_41 bp_31 ?_
          refine x_iand (pc := 43) o dX1_run_43 ?_
          obtain ⟨v5, hv5, h⟩ := xbs h
          refine x_istoreE (pc := 44) o dX1_run_44 hn6 hv5 ?_
          refine x_aload_n (pc := 46) o dX1_run_46 rfl rfl ?_
          obtain ⟨r6, hr6, h⟩ := xbs h
          refine gX1_9 (pc := 47) o dX1_run_47 hr6 ?_
          refine x_iload (pc := 50) o dX1_run_50 rfl ?_
          obtain ⟨v7, hv7, h⟩ := xbs h
          refine x_iaload (pc := 52) o dX1_run_52 hv7 ?_
          refine x_iconst (pc := 53) o dX1_run_53 ic_5 ?_
          refine x_ishr (pc := 54) o dX1_run_54 ?_
          obtain ⟨v8, hv8, h⟩ := xbs h
          refine x_istoreE (pc := 55) o dX1_run_55 hn7 hv8 ?_
          refine x_iload (pc := 57) o dX1_run_57 rfl ?_
          refine x_if_ne (pc := 59) (tgt := 77) o dX1_run_59 (by decide) (fun c66 => ?_) (fun c66 => ?_)
          · have h := xif h c66
            refine x_iload (pc := 77) o dX1_run_77 rfl ?_
            refine x_iconst (pc := 79) o dX1_run_79 ic_1 ?_
            refine x_icmp_ne (pc := 80) (tgt := 112) o dX1_run_80 (by decide) (fun c61 => ?_) (fun c61 => ?_)
            · have h := xif h c61
              refine x_to (l := [(0, .ref (M.2.1 k0)), (2, .int a2), (3, .ref (M.2.1 k3)), (4, .int a4), (5, .int a5), (6, .int v5)]) ⟨rfl, rfl, rfl, rfl, rfl, rfl, trivial⟩ ?_
              exact tX1_run_B112_6 o hnL n k0 a2 k3 a4 a5 v5 S z hrec K  h
            · have h := xit h c61
              refine x_iload (pc := 83) o dX1_run_83 rfl ?_
              refine x_if_lt (pc := 85) (tgt := 112) o dX1_run_85 (by decide) (fun c60 => ?_) (fun c60 => ?_)
              · have h := xit h c60
                refine x_to (l := [(0, .ref (M.2.1 k0)), (2, .int a2), (3, .ref (M.2.1 k3)), (4, .int a4), (5, .int a5), (6, .int v5)]) ⟨rfl, rfl, rfl, rfl, rfl, rfl, trivial⟩ ?_
                exact tX1_run_B112_6 o hnL n k0 a2 k3 a4 a5 v5 S z hrec K  h
              · have h := xif h c60
                refine x_iload (pc := 88) o dX1_run_88 rfl ?_
                refine x_aload_n (pc := 90) o dX1_run_90 rfl rfl ?_
                obtain ⟨v53, hv53, h⟩ := xbs h
                refine x_arraylength (pc := 91) o dX1_run_91 hv53 ?_
                refine x_icmp_ge (pc := 92) (tgt := 112) o dX1_run_92 (by decide) (fun c59 => ?_) (fun c59 => ?_)
                · have h := xit h c59
                  refine x_to (l := [(0, .ref (M.2.1 k0)), (2, .int a2), (3, .ref (M.2.1 k3)), (4, .int a4), (5, .int a5), (6, .int v5)]) ⟨rfl, rfl, rfl, rfl, rfl, rfl, trivial⟩ ?_
                  exact tX1_run_B112_6 o hnL n k0 a2 k3 a4 a5 v5 S z hrec K  h
                · have h := xif h c59
                  refine x_aload_n (pc := 95) o dX1_run_95 rfl rfl ?_
                  obtain ⟨r54, hr54, h⟩ := xbs h
                  refine gX1_15 (pc := 96) o dX1_run_96 hr54 ?_
                  refine x_iload (pc := 99) o dX1_run_99 rfl ?_
                  refine x_aload_n (pc := 101) o dX1_run_101 rfl rfl ?_
                  refine x_iload (pc := 102) o dX1_run_102 rfl ?_
                  obtain ⟨v55, hv55, h⟩ := xbs h
                  refine x_iaload (pc := 104) o dX1_run_104 hv55 ?_
                  obtain ⟨S56, hS56, h⟩ := xbs h
                  refine x_iastore (pc := 105) o dX1_run_105 hS56 ?_
                  obtain ⟨v57, hv57, h⟩ := xbs h
                  refine x_iincE (pc := 106) o dX1_run_106 rfl ic_1 hn4 hv57 ?_
                  refine x_goto (pc := 109) (tgt := 295) o dX1_run_109 (by decide) ?_
                  obtain ⟨v58, hv58, h⟩ := xbs h
                  refine x_iincE (pc := 295) o dX1_run_295 rfl ic_1 hn5 hv58 ?_
                  refine x_goto (pc := 298) (tgt := 6) o dX1_run_298 (by decide) ?_
                  refine x_to (l := [(0, .ref (M.2.1 k0)), (2, .int a2), (3, .ref (M.2.1 k3)), (4, .int v57), (5, .int v58)]) ⟨rfl, rfl, rfl, rfl, rfl, trivial⟩ ?_
                  exact hrec v57 v58 S56 h
          · have h := xit h c66
            refine x_aload_n (pc := 62) o dX1_run_62 rfl rfl ?_
            obtain ⟨r62, hr62, h⟩ := xbs h
            refine gX1_15 (pc := 63) o dX1_run_63 hr62 ?_
            refine x_iload (pc := 66) o dX1_run_66 rfl ?_
            refine x_iload (pc := 68) o dX1_run_68 rfl ?_
            obtain ⟨S63, hS63, h⟩ := xbs h
            refine x_iastore (pc := 70) o dX1_run_70 hS63 ?_
            obtain ⟨v64, hv64, h⟩ := xbs h
            refine x_iincE (pc := 71) o dX1_run_71 rfl ic_1 hn4 hv64 ?_
            refine x_goto (pc := 74) (tgt := 295) o dX1_run_74 (by decide) ?_
            obtain ⟨v65, hv65, h⟩ := xbs h
            refine x_iincE (pc := 295) o dX1_run_295 rfl ic_1 hn5 hv65 ?_
            refine x_goto (pc := 298) (tgt := 6) o dX1_run_298 (by decide) ?_
            refine x_to (l := [(0, .ref (M.2.1 k0)), (2, .int a2), (3, .ref (M.2.1 k3)), (4, .int v64), (5, .int v65)]) ⟨rfl, rfl, rfl, rfl, rfl, trivial⟩ ?_
            exact hrec v64 v65 S63 h
theorem tX1_run_L6 {Γ : xGm} {M : xMg} (o : xOk Γ tC M 2 cX1_run RX1) (hnL : Γ.2.2.2 = 8) (n : Nat) (k0 : Nat) (a2 : Int32) (k3 : Nat) (z : (Int32 × xSt)) (K : xAt Γ tC M 301 (xlv [(0, .ref (M.2.1 k0)), (4, .int z.1)]) [] z.2) : ∀ (q : Nat) (a4 : Int32) (a5 : Int32) (S : xSt), fX1_run_L6 n k0 a2 k3 q a4 a5 S = some z → xAt Γ tC M 6 (xlv [(0, .ref (M.2.1 k0)), (2, .int a2), (3, .ref (M.2.1 k3)), (4, .int a4), (5, .int a5)]) [] S := by
  intro q
  induction q with
  | zero => intro a4 a5 S h; cases h
  | succ q ih => intro a4 a5 S h; exact tX1_run_L6b o hnL n k0 a2 k3 a4 a5 S z ih K h
def fX1_run (n : Nat) (k0 : Nat) (a1 : Int32) (a2 : Int32) (k3 : Nat) (S : xSt) : Option (Int32 × xSt) :=
  if tC.1 k0 = 1 then
  ((fX1_run_L6 n k0 a2 k3 n ((0 : Int32)) a1 S).bind fun z71 => if z71.1 ≤ 0 then
  (some ((0 : Int32), z71.2))
else
  ((xgF tC 1 1 k0 z71.2).bind fun r72 =>
  (xal tC r72 ((0 : Int32)) z71.2).bind fun v73 =>
  some (v73, z71.2)))
  else none
theorem kX1_run {z : Int32 × xSt} {n : Nat} {k0 : Nat} {a1 : Int32} {a2 : Int32} {k3 : Nat} {S : xSt} (h : fX1_run n k0 a1 a2 k3 S = some z) : tC.1 k0 = 1 := by
  unfold fX1_run at h
  exact (xck h).1
set_option maxHeartbeats 4000000 in
theorem tX1_run (l : Launch) (M : xMg) (A : Nat → Prop) (n : Nat) (k0 : Nat) (a1 : Int32) (a2 : Int32) (k3 : Nat) (S : xSt) (z : Int32 × xSt) (h : fX1_run n k0 a1 a2 k3 S = some z) : xMI l yX1_run cX1_run 8 (some .int) 2 tC M A [.ref (M.2.1 k0), .int a1, .int a2, .ref (M.2.1 k3)] S z.1 z.2 := by
  refine x_metI (plainFor_of_name (by decide)) tC_ok (Nat.le_of_ble_eq_true rfl) (fun Γ hA hnL hl hr o => ?_)
  subst hA; subst hl
  have o : xOk Γ tC M 2 cX1_run RX1 := o
  unfold fX1_run at h
  obtain ⟨hk0, h⟩ := xck h
  refine x_to (l := [(0, .ref (M.2.1 k0)), (1, .int a1), (2, .int a2), (3, .ref (M.2.1 k3))]) ⟨rfl, rfl, rfl, rfl, trivial⟩ ?_
  have hn4 : 4 < Γ.2.2.2 := by omega
  have hn5 : 5 < Γ.2.2.2 := by omega
  refine x_iconst (pc := 0) o dX1_run_0 ic_0 ?_
  refine x_istore (pc := 1) o dX1_run_1 hn4 ?_
  refine x_iload_n (pc := 3) o dX1_run_3 rfl rfl ?_
  refine x_istore (pc := 4) o dX1_run_4 hn5 ?_
  obtain ⟨z71, hz71, h⟩ := xbs h
  refine x_to (l := [(0, .ref (M.2.1 k0)), (2, .int a2), (3, .ref (M.2.1 k3)), (4, .int ((0 : Int32))), (5, .int a1)]) ⟨rfl, rfl, rfl, rfl, rfl, trivial⟩ ?_
  refine tX1_run_L6 o hnL n k0 a2 k3 z71 ?_ n ((0 : Int32)) a1 S hz71
  refine x_iload (pc := 301) o dX1_run_301 rfl ?_
  refine x_if_le (pc := 303) (tgt := 315) o dX1_run_303 (by decide) (fun c74 => ?_) (fun c74 => ?_)
  · have h := xit h c74
    refine x_iconst (pc := 315) o dX1_run_315 ic_0 ?_
    exact x_ireturn (pc := 316) o hr dX1_run_316 (xr1 h) (xr2 h)
  · have h := xif h c74
    refine x_aload_n (pc := 306) o dX1_run_306 rfl rfl ?_
    obtain ⟨r72, hr72, h⟩ := xbs h
    refine gX1_15 (pc := 307) o dX1_run_307 hr72 ?_
    refine x_iconst (pc := 310) o dX1_run_310 ic_0 ?_
    obtain ⟨v73, hv73, h⟩ := xbs h
    refine x_iaload (pc := 311) o dX1_run_311 hv73 ?_
    refine x_goto (pc := 312) (tgt := 316) o dX1_run_312 (by decide) ?_
    exact x_ireturn (pc := 316) o hr dX1_run_316 (xr1 h) (xr2 h)
def fX6_chooseTool_B134_35 (n : Nat) (rec : Int32 → Int32 → xSt → Option (Int32 × xSt)) (k0 : Nat) (a1 : Int32) (a2 : Int32) (k3 : Nat) (a4 : Int32) (a5 : Int32) (s0 : Int32) (S : xSt) : Option (Int32 × xSt) :=
  if s0 = ((-1 : Int32)) then
  ((some (a5 + (1 : Int32))).bind fun v14 =>
  rec a4 v14 S)
else
  ((fX6_tellFacts k0 a5 s0 S).bind fun S15 =>
  (fX1_hasMay k3 S15).bind fun v16 =>
  if v16 = 0 then
  ((xgF tC 6 2 k0 S15).bind fun r17 =>
  (xal tC r17 ((0 : Int32)) S15).bind fun v18 =>
  if v18 = 0 then
  (if ((1 : Int32)) = 0 then
  ((some (a5 + (1 : Int32))).bind fun v22 =>
  rec a4 v22 S15)
else
  ((some (a5 + (1 : Int32))).bind fun v23 =>
  rec a5 v23 S15))
else
  (if ((0 : Int32)) = 0 then
  ((some (a5 + (1 : Int32))).bind fun v19 =>
  rec a4 v19 S15)
else
  ((some (a5 + (1 : Int32))).bind fun v20 =>
  rec a5 v20 S15)))
else
  ((xgI tC 1 3 k3 S15).bind fun v26 =>
  (xgI tC 1 4 k3 S15).bind fun v27 =>
  (xgF tC 6 2 k0 S15).bind fun r28 =>
  (fX1_run n k3 v26 v27 r28 S15).bind fun q29 =>
  if q29.1 = 0 then
  (if ((0 : Int32)) = 0 then
  ((some (a5 + (1 : Int32))).bind fun v30 =>
  rec a4 v30 q29.2)
else
  ((some (a5 + (1 : Int32))).bind fun v31 =>
  rec a5 v31 q29.2))
else
  (if ((1 : Int32)) = 0 then
  ((some (a5 + (1 : Int32))).bind fun v33 =>
  rec a4 v33 q29.2)
else
  ((some (a5 + (1 : Int32))).bind fun v34 =>
  rec a5 v34 q29.2))))
set_option maxHeartbeats 4000000 in
theorem tX6_chooseTool_B134_35 {Γ : xGm} {M : xMg} (o : xOk Γ tC M 3 cX6_chooseTool RX6) (hnL : Γ.2.2.2 = 10) {rec : Int32 → Int32 → xSt → Option (Int32 × xSt)} (n : Nat) (k0 : Nat) (a1 : Int32) (a2 : Int32) (k3 : Nat) (a4 : Int32) (a5 : Int32) (s0 : Int32) (S : xSt) (z : (Int32 × xSt)) (hrec : ∀ (a4 : Int32) (a5 : Int32) (S : xSt), rec a4 a5 S = some z → xAt Γ tC M 35 (xlv [(0, .ref (M.2.1 k0)), (1, .int a1), (2, .int a2), (3, .ref (M.2.1 k3)), (4, .int a4), (5, .int a5)]) [] S) (K : xAt Γ tC M 220 (xlv [(4, .int z.1)]) [] z.2) (h : fX6_chooseTool_B134_35 n rec k0 a1 a2 k3 a4 a5 s0 S = some z) : xAt Γ tC M 134 (xlv [(0, .ref (M.2.1 k0)), (1, .int a1), (2, .int a2), (3, .ref (M.2.1 k3)), (4, .int a4), (5, .int a5)]) [.int s0] S := by
  have hn4 : 4 < Γ.2.2.2 := by omega
  have hn5 : 5 < Γ.2.2.2 := by omega
  have hn8 : 8 < Γ.2.2.2 := by omega
  have hn9 : 9 < Γ.2.2.2 := by omega
  unfold fX6_chooseTool_B134_35 at h
  refine x_istore (pc := 134) o dX6_chooseTool_134 hn8 ?_
  refine x_iload (pc := 136) o dX6_chooseTool_136 rfl ?_
  refine x_iconst (pc := 138) o dX6_chooseTool_138 ic_m1 ?_
  refine x_icmp_eq (pc := 139) (tgt := 214) o dX6_chooseTool_139 (by decide) (fun c38 => ?_) (fun c38 => ?_)
  · have h := xit h c38
    obtain ⟨v14, hv14, h⟩ := xbs h
    refine x_iincE (pc := 214) o dX6_chooseTool_214 rfl ic_1 hn5 hv14 ?_
    refine x_goto (pc := 217) (tgt := 35) o dX6_chooseTool_217 (by decide) ?_
    refine x_to (l := [(0, .ref (M.2.1 k0)), (1, .int a1), (2, .int a2), (3, .ref (M.2.1 k3)), (4, .int a4), (5, .int v14)]) ⟨rfl, rfl, rfl, rfl, rfl, rfl, trivial⟩ ?_
    exact hrec a4 v14 S h
  · have h := xif h c38
    refine x_aload_n (pc := 142) o dX6_chooseTool_142 rfl rfl ?_
    refine x_iload (pc := 143) o dX6_chooseTool_143 rfl ?_
    refine x_iload (pc := 145) o dX6_chooseTool_145 rfl ?_
    obtain ⟨S15, hS15, h⟩ := xbs h
    refine x_callV (pc := 147) (As := [.int a5, .int s0]) (b := k0) (rest := []) o (tX6_tellFacts _ M _ k0 a5 s0 S S15 hS15) eX6_tellFacts mX6_153 clX6 (kX6_tellFacts hS15) (by decide) rfl rfl (Nat.le_of_ble_eq_true rfl) dX6_chooseTool_147 ?_
    refine x_aload_n (pc := 150) o dX6_chooseTool_150 rfl rfl ?_
    obtain ⟨v16, hv16, h⟩ := xbs h
    refine x_callI (pc := 151) (As := []) (b := k3) (rest := []) o (tX1_hasMay _ M _ k3 S15 v16 hv16) eX1_hasMay mX6_157 clX1 (kX1_hasMay hv16) (by decide) rfl rfl (Nat.le_of_ble_eq_true rfl) dX6_chooseTool_151 ?_
    refine x_if_eq (pc := 154) (tgt := 184) o dX6_chooseTool_154 (by decide) (fun c37 => ?_) (fun c37 => ?_)
    · have h := xit h c37
      refine x_aload_n (pc := 184) o dX6_chooseTool_184 rfl rfl ?_
      obtain ⟨r17, hr17, h⟩ := xbs h
      refine gX6_20 (pc := 185) o dX6_chooseTool_185 hr17 ?_
      refine x_iconst (pc := 188) o dX6_chooseTool_188 ic_0 ?_
      obtain ⟨v18, hv18, h⟩ := xbs h
      refine x_iaload (pc := 189) o dX6_chooseTool_189 hv18 ?_
      refine x_if_ne (pc := 190) (tgt := 197) o dX6_chooseTool_190 (by decide) (fun c25 => ?_) (fun c25 => ?_)
      · have h := xif h c25
        refine x_iconst (pc := 197) o dX6_chooseTool_197 ic_0 ?_
        refine x_istore (pc := 198) o dX6_chooseTool_198 hn9 ?_
        refine x_iload (pc := 200) o dX6_chooseTool_200 rfl ?_
        refine x_if_eq (pc := 202) (tgt := 210) o dX6_chooseTool_202 (by decide) (fun c21 => ?_) (fun c21 => ?_)
        · have h := xit h c21
          refine x_iload (pc := 210) o dX6_chooseTool_210 rfl ?_
          refine x_istore (pc := 212) o dX6_chooseTool_212 hn4 ?_
          obtain ⟨v19, hv19, h⟩ := xbs h
          refine x_iincE (pc := 214) o dX6_chooseTool_214 rfl ic_1 hn5 hv19 ?_
          refine x_goto (pc := 217) (tgt := 35) o dX6_chooseTool_217 (by decide) ?_
          refine x_to (l := [(0, .ref (M.2.1 k0)), (1, .int a1), (2, .int a2), (3, .ref (M.2.1 k3)), (4, .int a4), (5, .int v19)]) ⟨rfl, rfl, rfl, rfl, rfl, rfl, trivial⟩ ?_
          exact hrec a4 v19 S15 h
        · have h := xif h c21
          refine x_iload (pc := 205) o dX6_chooseTool_205 rfl ?_
          refine x_goto (pc := 207) (tgt := 212) o dX6_chooseTool_207 (by decide) ?_
          refine x_istore (pc := 212) o dX6_chooseTool_212 hn4 ?_
          obtain ⟨v20, hv20, h⟩ := xbs h
          refine x_iincE (pc := 214) o dX6_chooseTool_214 rfl ic_1 hn5 hv20 ?_
          refine x_goto (pc := 217) (tgt := 35) o dX6_chooseTool_217 (by decide) ?_
          refine x_to (l := [(0, .ref (M.2.1 k0)), (1, .int a1), (2, .int a2), (3, .ref (M.2.1 k3)), (4, .int a5), (5, .int v20)]) ⟨rfl, rfl, rfl, rfl, rfl, rfl, trivial⟩ ?_
          exact hrec a5 v20 S15 h
      · have h := xit h c25
        refine x_iconst (pc := 193) o dX6_chooseTool_193 ic_1 ?_
        refine x_goto (pc := 194) (tgt := 198) o dX6_chooseTool_194 (by decide) ?_
        refine x_istore (pc := 198) o dX6_chooseTool_198 hn9 ?_
        refine x_iload (pc := 200) o dX6_chooseTool_200 rfl ?_
        refine x_if_eq (pc := 202) (tgt := 210) o dX6_chooseTool_202 (by decide) (fun c24 => ?_) (fun c24 => ?_)
        · have h := xit h c24
          refine x_iload (pc := 210) o dX6_chooseTool_210 rfl ?_
          refine x_istore (pc := 212) o dX6_chooseTool_212 hn4 ?_
          obtain ⟨v22, hv22, h⟩ := xbs h
          refine x_iincE (pc := 214) o dX6_chooseTool_214 rfl ic_1 hn5 hv22 ?_
          refine x_goto (pc := 217) (tgt := 35) o dX6_chooseTool_217 (by decide) ?_
          refine x_to (l := [(0, .ref (M.2.1 k0)), (1, .int a1), (2, .int a2), (3, .ref (M.2.1 k3)), (4, .int a4), (5, .int v22)]) ⟨rfl, rfl, rfl, rfl, rfl, rfl, trivial⟩ ?_
          exact hrec a4 v22 S15 h
        · have h := xif h c24
          refine x_iload (pc := 205) o dX6_chooseTool_205 rfl ?_
          refine x_goto (pc := 207) (tgt := 212) o dX6_chooseTool_207 (by decide) ?_
          refine x_istore (pc := 212) o dX6_chooseTool_212 hn4 ?_
          obtain ⟨v23, hv23, h⟩ := xbs h
          refine x_iincE (pc := 214) o dX6_chooseTool_214 rfl ic_1 hn5 hv23 ?_
          refine x_goto (pc := 217) (tgt := 35) o dX6_chooseTool_217 (by decide) ?_
          refine x_to (l := [(0, .ref (M.2.1 k0)), (1, .int a1), (2, .int a2), (3, .ref (M.2.1 k3)), (4, .int a5), (5, .int v23)]) ⟨rfl, rfl, rfl, rfl, rfl, rfl, trivial⟩ ?_
          exact hrec a5 v23 S15 h
    · have h := xif h c37
      refine x_aload_n (pc := 157) o dX6_chooseTool_157 rfl rfl ?_
      refine x_aload_n (pc := 158) o dX6_chooseTool_158 rfl rfl ?_
      obtain ⟨v26, hv26, h⟩ := xbs h
      refine gX6_161 (pc := 159) o dX6_chooseTool_159 hv26 ?_
      refine x_aload_n (pc := 162) o dX6_chooseTool_162 rfl rfl ?_
      obtain ⟨v27, hv27, h⟩ := xbs h
      refine gX6_164 (pc := 163) o dX6_chooseTool_163 hv27 ?_
      refine x_aload_n (pc := 166) o dX6_chooseTool_166 rfl rfl ?_
      obtain ⟨r28, hr28, h⟩ := xbs h
      refine gX6_20 (pc := 167) o dX6_chooseTool_167 hr28 ?_
      obtain ⟨q29, hq29, h⟩ := xbs h
      refine x_callI (pc := 170) (As := [.int v26, .int v27, .ref (M.2.1 r28)]) (b := k3) (rest := []) o (tX1_run _ M _ n k3 v26 v27 r28 S15 q29 hq29) eX1_run mX6_167 clX1 (kX1_run hq29) (by decide) rfl rfl (Nat.le_of_ble_eq_true rfl) dX6_chooseTool_170 ?_
      refine x_if_eq (pc := 173) (tgt := 180) o dX6_chooseTool_173 (by decide) (fun c36 => ?_) (fun c36 => ?_)
      · have h := xit h c36
        refine x_iconst (pc := 180) o dX6_chooseTool_180 ic_0 ?_
        refine x_goto (pc := 181) (tgt := 198) o dX6_chooseTool_181 (by decide) ?_
        refine x_istore (pc := 198) o dX6_chooseTool_198 hn9 ?_
        refine x_iload (pc := 200) o dX6_chooseTool_200 rfl ?_
        refine x_if_eq (pc := 202) (tgt := 210) o dX6_chooseTool_202 (by decide) (fun c32 => ?_) (fun c32 => ?_)
        · have h := xit h c32
          refine x_iload (pc := 210) o dX6_chooseTool_210 rfl ?_
          refine x_istore (pc := 212) o dX6_chooseTool_212 hn4 ?_
          obtain ⟨v30, hv30, h⟩ := xbs h
          refine x_iincE (pc := 214) o dX6_chooseTool_214 rfl ic_1 hn5 hv30 ?_
          refine x_goto (pc := 217) (tgt := 35) o dX6_chooseTool_217 (by decide) ?_
          refine x_to (l := [(0, .ref (M.2.1 k0)), (1, .int a1), (2, .int a2), (3, .ref (M.2.1 k3)), (4, .int a4), (5, .int v30)]) ⟨rfl, rfl, rfl, rfl, rfl, rfl, trivial⟩ ?_
          exact hrec a4 v30 q29.2 h
        · have h := xif h c32
          refine x_iload (pc := 205) o dX6_chooseTool_205 rfl ?_
          refine x_goto (pc := 207) (tgt := 212) o dX6_chooseTool_207 (by decide) ?_
          refine x_istore (pc := 212) o dX6_chooseTool_212 hn4 ?_
          obtain ⟨v31, hv31, h⟩ := xbs h
          refine x_iincE (pc := 214) o dX6_chooseTool_214 rfl ic_1 hn5 hv31 ?_
          refine x_goto (pc := 217) (tgt := 35) o dX6_chooseTool_217 (by decide) ?_
          refine x_to (l := [(0, .ref (M.2.1 k0)), (1, .int a1), (2, .int a2), (3, .ref (M.2.1 k3)), (4, .int a5), (5, .int v31)]) ⟨rfl, rfl, rfl, rfl, rfl, rfl, trivial⟩ ?_
          exact hrec a5 v31 q29.2 h
      · have h := xif h c36
        refine x_iconst (pc := 176) o dX6_chooseTool_176 ic_1 ?_
        refine x_goto (pc := 177) (tgt := 198) o dX6_chooseTool_177 (by decide) ?_
        refine x_istore (pc := 198) o dX6_chooseTool_198 hn9 ?_
        refine x_iload (pc := 200) o dX6_chooseTool_200 rfl ?_
        refine x_if_eq (pc := 202) (tgt := 210) o dX6_chooseTool_202 (by decide) (fun c35 => ?_) (fun c35 => ?_)
        · have h := xit h c35
          refine x_iload (pc := 210) o dX6_chooseTool_210 rfl ?_
          refine x_istore (pc := 212) o dX6_chooseTool_212 hn4 ?_
          obtain ⟨v33, hv33, h⟩ := xbs h
          refine x_iincE (pc := 214) o dX6_chooseTool_214 rfl ic_1 hn5 hv33 ?_
          refine x_goto (pc := 217) (tgt := 35) o dX6_chooseTool_217 (by decide) ?_
          refine x_to (l := [(0, .ref (M.2.1 k0)), (1, .int a1), (2, .int a2), (3, .ref (M.2.1 k3)), (4, .int a4), (5, .int v33)]) ⟨rfl, rfl, rfl, rfl, rfl, rfl, trivial⟩ ?_
          exact hrec a4 v33 q29.2 h
        · have h := xif h c35
          refine x_iload (pc := 205) o dX6_chooseTool_205 rfl ?_
          refine x_goto (pc := 207) (tgt := 212) o dX6_chooseTool_207 (by decide) ?_
          refine x_istore (pc := 212) o dX6_chooseTool_212 hn4 ?_
          obtain ⟨v34, hv34, h⟩ := xbs h
          refine x_iincE (pc := 214) o dX6_chooseTool_214 rfl ic_1 hn5 hv34 ?_
          refine x_goto (pc := 217) (tgt := 35) o dX6_chooseTool_217 (by decide) ?_
          refine x_to (l := [(0, .ref (M.2.1 k0)), (1, .int a1), (2, .int a2), (3, .ref (M.2.1 k3)), (4, .int a5), (5, .int v34)]) ⟨rfl, rfl, rfl, rfl, rfl, rfl, trivial⟩ ?_
          exact hrec a5 v34 q29.2 h
def fX6_chooseTool_B133_35 (n : Nat) (rec : Int32 → Int32 → xSt → Option (Int32 × xSt)) (k0 : Nat) (a1 : Int32) (a2 : Int32) (k3 : Nat) (a4 : Int32) (a5 : Int32) (S : xSt) : Option (Int32 × xSt) :=
  fX6_chooseTool_B134_35 n rec k0 a1 a2 k3 a4 a5 ((-1 : Int32)) S
set_option maxHeartbeats 4000000 in
theorem tX6_chooseTool_B133_35 {Γ : xGm} {M : xMg} (o : xOk Γ tC M 3 cX6_chooseTool RX6) (hnL : Γ.2.2.2 = 10) {rec : Int32 → Int32 → xSt → Option (Int32 × xSt)} (n : Nat) (k0 : Nat) (a1 : Int32) (a2 : Int32) (k3 : Nat) (a4 : Int32) (a5 : Int32) (S : xSt) (z : (Int32 × xSt)) (hrec : ∀ (a4 : Int32) (a5 : Int32) (S : xSt), rec a4 a5 S = some z → xAt Γ tC M 35 (xlv [(0, .ref (M.2.1 k0)), (1, .int a1), (2, .int a2), (3, .ref (M.2.1 k3)), (4, .int a4), (5, .int a5)]) [] S) (K : xAt Γ tC M 220 (xlv [(4, .int z.1)]) [] z.2) (h : fX6_chooseTool_B133_35 n rec k0 a1 a2 k3 a4 a5 S = some z) : xAt Γ tC M 133 (xlv [(0, .ref (M.2.1 k0)), (1, .int a1), (2, .int a2), (3, .ref (M.2.1 k3)), (4, .int a4), (5, .int a5)]) [] S := by
  unfold fX6_chooseTool_B133_35 at h
  refine x_iconst (pc := 133) o dX6_chooseTool_133 ic_m1 ?_
  refine x_to (l := [(0, .ref (M.2.1 k0)), (1, .int a1), (2, .int a2), (3, .ref (M.2.1 k3)), (4, .int a4), (5, .int a5)]) ⟨rfl, rfl, rfl, rfl, rfl, rfl, trivial⟩ ?_
  exact tX6_chooseTool_B134_35 o hnL n k0 a1 a2 k3 a4 a5 ((-1 : Int32)) S z hrec K  h
def fX6_chooseTool_B112_35 (n : Nat) (rec : Int32 → Int32 → xSt → Option (Int32 × xSt)) (k0 : Nat) (a1 : Int32) (a2 : Int32) (k3 : Nat) (a4 : Int32) (a5 : Int32) (a6 : Int32) (s0 : Int32) (S : xSt) : Option (Int32 × xSt) :=
  if a6 = 0 then
  (fX6_chooseTool_B133_35 n rec k0 a1 a2 k3 a4 a5 S)
else
  (if s0 = 0 then
  (fX6_chooseTool_B133_35 n rec k0 a1 a2 k3 a4 a5 S)
else
  ((fX6_chooseHand n k0 a5 S).bind fun v39 =>
  fX6_chooseTool_B134_35 n rec k0 a1 a2 k3 a4 a5 v39 S))
set_option maxHeartbeats 4000000 in
theorem tX6_chooseTool_B112_35 {Γ : xGm} {M : xMg} (o : xOk Γ tC M 3 cX6_chooseTool RX6) (hnL : Γ.2.2.2 = 10) {rec : Int32 → Int32 → xSt → Option (Int32 × xSt)} (n : Nat) (k0 : Nat) (a1 : Int32) (a2 : Int32) (k3 : Nat) (a4 : Int32) (a5 : Int32) (a6 : Int32) (s0 : Int32) (S : xSt) (z : (Int32 × xSt)) (hrec : ∀ (a4 : Int32) (a5 : Int32) (S : xSt), rec a4 a5 S = some z → xAt Γ tC M 35 (xlv [(0, .ref (M.2.1 k0)), (1, .int a1), (2, .int a2), (3, .ref (M.2.1 k3)), (4, .int a4), (5, .int a5)]) [] S) (K : xAt Γ tC M 220 (xlv [(4, .int z.1)]) [] z.2) (h : fX6_chooseTool_B112_35 n rec k0 a1 a2 k3 a4 a5 a6 s0 S = some z) : xAt Γ tC M 112 (xlv [(0, .ref (M.2.1 k0)), (1, .int a1), (2, .int a2), (3, .ref (M.2.1 k3)), (4, .int a4), (5, .int a5), (6, .int a6)]) [.int s0] S := by
  have hn7 : 7 < Γ.2.2.2 := by omega
  unfold fX6_chooseTool_B112_35 at h
  refine x_istore (pc := 112) o dX6_chooseTool_112 hn7 ?_
  refine x_iload (pc := 114) o dX6_chooseTool_114 rfl ?_
  refine x_if_eq (pc := 116) (tgt := 133) o dX6_chooseTool_116 (by decide) (fun c41 => ?_) (fun c41 => ?_)
  · have h := xit h c41
    refine x_to (l := [(0, .ref (M.2.1 k0)), (1, .int a1), (2, .int a2), (3, .ref (M.2.1 k3)), (4, .int a4), (5, .int a5)]) ⟨rfl, rfl, rfl, rfl, rfl, rfl, trivial⟩ ?_
    exact tX6_chooseTool_B133_35 o hnL n k0 a1 a2 k3 a4 a5 S z hrec K  h
  · have h := xif h c41
    refine x_iload (pc := 119) o dX6_chooseTool_119 rfl ?_
    refine x_if_eq (pc := 121) (tgt := 133) o dX6_chooseTool_121 (by decide) (fun c40 => ?_) (fun c40 => ?_)
    · have h := xit h c40
      refine x_to (l := [(0, .ref (M.2.1 k0)), (1, .int a1), (2, .int a2), (3, .ref (M.2.1 k3)), (4, .int a4), (5, .int a5)]) ⟨rfl, rfl, rfl, rfl, rfl, rfl, trivial⟩ ?_
      exact tX6_chooseTool_B133_35 o hnL n k0 a1 a2 k3 a4 a5 S z hrec K  h
    · have h := xif h c40
      refine x_aload_n (pc := 124) o dX6_chooseTool_124 rfl rfl ?_
      refine x_iload (pc := 125) o dX6_chooseTool_125 rfl ?_
      obtain ⟨v39, hv39, h⟩ := xbs h
      refine x_callI (pc := 127) (As := [.int a5]) (b := k0) (rest := []) o (tX6_chooseHand _ M _ n k0 a5 S v39 hv39) eX6_chooseHand mX6_133 clX6 (kX6_chooseHand hv39) (by decide) rfl rfl (Nat.le_of_ble_eq_true rfl) dX6_chooseTool_127 ?_
      refine x_goto (pc := 130) (tgt := 134) o dX6_chooseTool_130 (by decide) ?_
      refine x_to (l := [(0, .ref (M.2.1 k0)), (1, .int a1), (2, .int a2), (3, .ref (M.2.1 k3)), (4, .int a4), (5, .int a5)]) ⟨rfl, rfl, rfl, rfl, rfl, rfl, trivial⟩ ?_
      exact tX6_chooseTool_B134_35 o hnL n k0 a1 a2 k3 a4 a5 v39 S z hrec K  h
def fX6_chooseTool_B107_35 (n : Nat) (rec : Int32 → Int32 → xSt → Option (Int32 × xSt)) (k0 : Nat) (a1 : Int32) (a2 : Int32) (k3 : Nat) (a4 : Int32) (a5 : Int32) (a6 : Int32) (S : xSt) : Option (Int32 × xSt) :=
  fX6_chooseTool_B112_35 n rec k0 a1 a2 k3 a4 a5 a6 ((1 : Int32)) S
set_option maxHeartbeats 4000000 in
theorem tX6_chooseTool_B107_35 {Γ : xGm} {M : xMg} (o : xOk Γ tC M 3 cX6_chooseTool RX6) (hnL : Γ.2.2.2 = 10) {rec : Int32 → Int32 → xSt → Option (Int32 × xSt)} (n : Nat) (k0 : Nat) (a1 : Int32) (a2 : Int32) (k3 : Nat) (a4 : Int32) (a5 : Int32) (a6 : Int32) (S : xSt) (z : (Int32 × xSt)) (hrec : ∀ (a4 : Int32) (a5 : Int32) (S : xSt), rec a4 a5 S = some z → xAt Γ tC M 35 (xlv [(0, .ref (M.2.1 k0)), (1, .int a1), (2, .int a2), (3, .ref (M.2.1 k3)), (4, .int a4), (5, .int a5)]) [] S) (K : xAt Γ tC M 220 (xlv [(4, .int z.1)]) [] z.2) (h : fX6_chooseTool_B107_35 n rec k0 a1 a2 k3 a4 a5 a6 S = some z) : xAt Γ tC M 107 (xlv [(0, .ref (M.2.1 k0)), (1, .int a1), (2, .int a2), (3, .ref (M.2.1 k3)), (4, .int a4), (5, .int a5), (6, .int a6)]) [] S := by
  unfold fX6_chooseTool_B107_35 at h
  refine x_iconst (pc := 107) o dX6_chooseTool_107 ic_1 ?_
  refine x_goto (pc := 108) (tgt := 112) o dX6_chooseTool_108 (by decide) ?_
  refine x_to (l := [(0, .ref (M.2.1 k0)), (1, .int a1), (2, .int a2), (3, .ref (M.2.1 k3)), (4, .int a4), (5, .int a5), (6, .int a6)]) ⟨rfl, rfl, rfl, rfl, rfl, rfl, rfl, trivial⟩ ?_
  exact tX6_chooseTool_B112_35 o hnL n k0 a1 a2 k3 a4 a5 a6 ((1 : Int32)) S z hrec K  h
def fX6_chooseTool_B76_35 (n : Nat) (rec : Int32 → Int32 → xSt → Option (Int32 × xSt)) (k0 : Nat) (a1 : Int32) (a2 : Int32) (k3 : Nat) (a4 : Int32) (a5 : Int32) (s0 : Int32) (S : xSt) : Option (Int32 × xSt) :=
  if a4 = ((-1 : Int32)) then
  (fX6_chooseTool_B107_35 n rec k0 a1 a2 k3 a4 a5 s0 S)
else
  ((xgM tC 6 5 k0 S).bind fun r42 =>
  (xgF tC 8 5 r42 S).bind fun r43 =>
  (xal tC r43 a5 S).bind fun v44 =>
  (xgM tC 6 5 k0 S).bind fun r45 =>
  (xgF tC 8 5 r45 S).bind fun r46 =>
  (xal tC r46 a4 S).bind fun v47 =>
  if v47 ≤ v44 then
  (fX6_chooseTool_B112_35 n rec k0 a1 a2 k3 a4 a5 s0 ((0 : Int32)) S)
else
  (fX6_chooseTool_B107_35 n rec k0 a1 a2 k3 a4 a5 s0 S))
set_option maxHeartbeats 4000000 in
theorem tX6_chooseTool_B76_35 {Γ : xGm} {M : xMg} (o : xOk Γ tC M 3 cX6_chooseTool RX6) (hnL : Γ.2.2.2 = 10) {rec : Int32 → Int32 → xSt → Option (Int32 × xSt)} (n : Nat) (k0 : Nat) (a1 : Int32) (a2 : Int32) (k3 : Nat) (a4 : Int32) (a5 : Int32) (s0 : Int32) (S : xSt) (z : (Int32 × xSt)) (hrec : ∀ (a4 : Int32) (a5 : Int32) (S : xSt), rec a4 a5 S = some z → xAt Γ tC M 35 (xlv [(0, .ref (M.2.1 k0)), (1, .int a1), (2, .int a2), (3, .ref (M.2.1 k3)), (4, .int a4), (5, .int a5)]) [] S) (K : xAt Γ tC M 220 (xlv [(4, .int z.1)]) [] z.2) (h : fX6_chooseTool_B76_35 n rec k0 a1 a2 k3 a4 a5 s0 S = some z) : xAt Γ tC M 76 (xlv [(0, .ref (M.2.1 k0)), (1, .int a1), (2, .int a2), (3, .ref (M.2.1 k3)), (4, .int a4), (5, .int a5)]) [.int s0] S := by
  have hn6 : 6 < Γ.2.2.2 := by omega
  unfold fX6_chooseTool_B76_35 at h
  refine x_istore (pc := 76) o dX6_chooseTool_76 hn6 ?_
  refine x_iload (pc := 78) o dX6_chooseTool_78 rfl ?_
  refine x_iconst (pc := 80) o dX6_chooseTool_80 ic_m1 ?_
  refine x_icmp_eq (pc := 81) (tgt := 107) o dX6_chooseTool_81 (by decide) (fun c49 => ?_) (fun c49 => ?_)
  · have h := xit h c49
    refine x_to (l := [(0, .ref (M.2.1 k0)), (1, .int a1), (2, .int a2), (3, .ref (M.2.1 k3)), (4, .int a4), (5, .int a5), (6, .int s0)]) ⟨rfl, rfl, rfl, rfl, rfl, rfl, rfl, trivial⟩ ?_
    exact tX6_chooseTool_B107_35 o hnL n k0 a1 a2 k3 a4 a5 s0 S z hrec K  h
  · have h := xif h c49
    refine x_aload_n (pc := 84) o dX6_chooseTool_84 rfl rfl ?_
    obtain ⟨r42, hr42, h⟩ := xbs h
    refine gX6_27 (pc := 85) o dX6_chooseTool_85 hr42 ?_
    obtain ⟨r43, hr43, h⟩ := xbs h
    refine gX6_97 (pc := 88) o dX6_chooseTool_88 hr43 ?_
    refine x_iload (pc := 91) o dX6_chooseTool_91 rfl ?_
    obtain ⟨v44, hv44, h⟩ := xbs h
    refine x_iaload (pc := 93) o dX6_chooseTool_93 hv44 ?_
    refine x_aload_n (pc := 94) o dX6_chooseTool_94 rfl rfl ?_
    obtain ⟨r45, hr45, h⟩ := xbs h
    refine gX6_27 (pc := 95) o dX6_chooseTool_95 hr45 ?_
    obtain ⟨r46, hr46, h⟩ := xbs h
    refine gX6_97 (pc := 98) o dX6_chooseTool_98 hr46 ?_
    refine x_iload (pc := 101) o dX6_chooseTool_101 rfl ?_
    obtain ⟨v47, hv47, h⟩ := xbs h
    refine x_iaload (pc := 103) o dX6_chooseTool_103 hv47 ?_
    refine x_icmp_ge (pc := 104) (tgt := 111) o dX6_chooseTool_104 (by decide) (fun c48 => ?_) (fun c48 => ?_)
    · have h := xit h c48
      refine x_iconst (pc := 111) o dX6_chooseTool_111 ic_0 ?_
      refine x_to (l := [(0, .ref (M.2.1 k0)), (1, .int a1), (2, .int a2), (3, .ref (M.2.1 k3)), (4, .int a4), (5, .int a5), (6, .int s0)]) ⟨rfl, rfl, rfl, rfl, rfl, rfl, rfl, trivial⟩ ?_
      exact tX6_chooseTool_B112_35 o hnL n k0 a1 a2 k3 a4 a5 s0 ((0 : Int32)) S z hrec K  h
    · have h := xif h c48
      refine x_to (l := [(0, .ref (M.2.1 k0)), (1, .int a1), (2, .int a2), (3, .ref (M.2.1 k3)), (4, .int a4), (5, .int a5), (6, .int s0)]) ⟨rfl, rfl, rfl, rfl, rfl, rfl, rfl, trivial⟩ ?_
      exact tX6_chooseTool_B107_35 o hnL n k0 a1 a2 k3 a4 a5 s0 S z hrec K  h
def fX6_chooseTool_B75_35 (n : Nat) (rec : Int32 → Int32 → xSt → Option (Int32 × xSt)) (k0 : Nat) (a1 : Int32) (a2 : Int32) (k3 : Nat) (a4 : Int32) (a5 : Int32) (S : xSt) : Option (Int32 × xSt) :=
  fX6_chooseTool_B76_35 n rec k0 a1 a2 k3 a4 a5 ((0 : Int32)) S
set_option maxHeartbeats 4000000 in
theorem tX6_chooseTool_B75_35 {Γ : xGm} {M : xMg} (o : xOk Γ tC M 3 cX6_chooseTool RX6) (hnL : Γ.2.2.2 = 10) {rec : Int32 → Int32 → xSt → Option (Int32 × xSt)} (n : Nat) (k0 : Nat) (a1 : Int32) (a2 : Int32) (k3 : Nat) (a4 : Int32) (a5 : Int32) (S : xSt) (z : (Int32 × xSt)) (hrec : ∀ (a4 : Int32) (a5 : Int32) (S : xSt), rec a4 a5 S = some z → xAt Γ tC M 35 (xlv [(0, .ref (M.2.1 k0)), (1, .int a1), (2, .int a2), (3, .ref (M.2.1 k3)), (4, .int a4), (5, .int a5)]) [] S) (K : xAt Γ tC M 220 (xlv [(4, .int z.1)]) [] z.2) (h : fX6_chooseTool_B75_35 n rec k0 a1 a2 k3 a4 a5 S = some z) : xAt Γ tC M 75 (xlv [(0, .ref (M.2.1 k0)), (1, .int a1), (2, .int a2), (3, .ref (M.2.1 k3)), (4, .int a4), (5, .int a5)]) [] S := by
  unfold fX6_chooseTool_B75_35 at h
  refine x_iconst (pc := 75) o dX6_chooseTool_75 ic_0 ?_
  refine x_to (l := [(0, .ref (M.2.1 k0)), (1, .int a1), (2, .int a2), (3, .ref (M.2.1 k3)), (4, .int a4), (5, .int a5)]) ⟨rfl, rfl, rfl, rfl, rfl, rfl, trivial⟩ ?_
  exact tX6_chooseTool_B76_35 o hnL n k0 a1 a2 k3 a4 a5 ((0 : Int32)) S z hrec K  h
def fX6_chooseTool_L35b (n : Nat) (k0 : Nat) (a1 : Int32) (a2 : Int32) (k3 : Nat) (rec : Int32 → Int32 → xSt → Option (Int32 × xSt)) (a4 : Int32) (a5 : Int32) (S : xSt) : Option (Int32 × xSt) :=
  (xgM tC 6 4 k0 S).bind fun r9 =>
  (fX9_count r9 ((1 : Int32)) S).bind fun v10 =>
  if v10 ≤ a5 then
  (some (a4, S))
else
  ((xgM tC 6 4 k0 S).bind fun r11 =>
  (xgF tC 9 4 r11 S).bind fun r12 =>
  (xal tC r12 a5 S).bind fun v13 =>
  if v13 = a1 then
  (if ((a2 >>> (a5 &&& 31)) &&& ((1 : Int32))) = 0 then
  (fX6_chooseTool_B76_35 n rec k0 a1 a2 k3 a4 a5 ((1 : Int32)) S)
else
  (fX6_chooseTool_B75_35 n rec k0 a1 a2 k3 a4 a5 S))
else
  (fX6_chooseTool_B75_35 n rec k0 a1 a2 k3 a4 a5 S))
def fX6_chooseTool_L35 (n : Nat) (k0 : Nat) (a1 : Int32) (a2 : Int32) (k3 : Nat) : Nat → Int32 → Int32 → xSt → Option (Int32 × xSt)
  | 0 => fun _ _ _ => none
  | q + 1 => fX6_chooseTool_L35b n k0 a1 a2 k3 (fX6_chooseTool_L35 n k0 a1 a2 k3 q)
set_option maxHeartbeats 4000000 in
theorem tX6_chooseTool_L35b {Γ : xGm} {M : xMg} (o : xOk Γ tC M 3 cX6_chooseTool RX6) (hnL : Γ.2.2.2 = 10) {rec : Int32 → Int32 → xSt → Option (Int32 × xSt)} (n : Nat) (k0 : Nat) (a1 : Int32) (a2 : Int32) (k3 : Nat) (a4 : Int32) (a5 : Int32) (S : xSt) (z : (Int32 × xSt)) (hrec : ∀ (a4 : Int32) (a5 : Int32) (S : xSt), rec a4 a5 S = some z → xAt Γ tC M 35 (xlv [(0, .ref (M.2.1 k0)), (1, .int a1), (2, .int a2), (3, .ref (M.2.1 k3)), (4, .int a4), (5, .int a5)]) [] S) (K : xAt Γ tC M 220 (xlv [(4, .int z.1)]) [] z.2) (h : fX6_chooseTool_L35b n k0 a1 a2 k3 rec a4 a5 S = some z) : xAt Γ tC M 35 (xlv [(0, .ref (M.2.1 k0)), (1, .int a1), (2, .int a2), (3, .ref (M.2.1 k3)), (4, .int a4), (5, .int a5)]) [] S := by
  unfold fX6_chooseTool_L35b at h
  refine x_iload (pc := 35) o dX6_chooseTool_35 rfl ?_
  refine x_aload_n (pc := 37) o dX6_chooseTool_37 rfl rfl ?_
  obtain ⟨r9, hr9, h⟩ := xbs h
  refine gX6_23 (pc := 38) o dX6_chooseTool_38 hr9 ?_
  refine x_iconst (pc := 41) o dX6_chooseTool_41 ic_1 ?_
  obtain ⟨v10, hv10, h⟩ := xbs h
  refine x_callI (pc := 42) (As := [.int ((1 : Int32))]) (b := r9) (rest := [.int a5]) o (tX9_count _ M _ r9 ((1 : Int32)) S v10 hv10) eX9_count mX6_71 clX9 (kX9_count hv10) (by decide) rfl rfl (Nat.le_of_ble_eq_true rfl) dX6_chooseTool_42 ?_
  refine x_icmp_ge (pc := 45) (tgt := 220) o dX6_chooseTool_45 (by decide) (fun c52 => ?_) (fun c52 => ?_)
  · have h := xit h c52
    refine x_to (l := [(4, .int a4)]) ⟨rfl, trivial⟩ ?_
    cases Option.some.inj h
    exact K
  · have h := xif h c52
    refine x_aload_n (pc := 48) o dX6_chooseTool_48 rfl rfl ?_
    obtain ⟨r11, hr11, h⟩ := xbs h
    refine gX6_23 (pc := 49) o dX6_chooseTool_49 hr11 ?_
    obtain ⟨r12, hr12, h⟩ := xbs h
    refine gX6_150 (pc := 52) o dX6_chooseTool_52 hr12 ?_
    refine x_iload (pc := 55) o dX6_chooseTool_55 rfl ?_
    obtain ⟨v13, hv13, h⟩ := xbs h
    refine x_iaload (pc := 57) o dX6_chooseTool_57 hv13 ?_
    refine x_iload_n (pc := 58) o dX6_chooseTool_58 rfl rfl ?_
    refine x_icmp_ne (pc := 59) (tgt := 75) o dX6_chooseTool_59 (by decide) (fun c51 => ?_) (fun c51 => ?_)
    · have h := xif h c51
      refine x_to (l := [(0, .ref (M.2.1 k0)), (1, .int a1), (2, .int a2), (3, .ref (M.2.1 k3)), (4, .int a4), (5, .int a5)]) ⟨rfl, rfl, rfl, rfl, rfl, rfl, trivial⟩ ?_
      exact tX6_chooseTool_B75_35 o hnL n k0 a1 a2 k3 a4 a5 S z hrec K  h
    · have h := xit h c51
      refine x_iload_n (pc := 62) o dX6_chooseTool_62 rfl rfl ?_
      refine x_iload (pc := 63) o dX6_chooseTool_63 rfl ?_
      refine x_ishr (pc := 65) o dX6_chooseTool_65 ?_
      refine x_iconst (pc := 66) o dX6_chooseTool_66 ic_1 ?_
      refine x_iand (pc := 67) o dX6_chooseTool_67 ?_
      refine x_if_ne (pc := 68) (tgt := 75) o dX6_chooseTool_68 (by decide) (fun c50 => ?_) (fun c50 => ?_)
      · have h := xif h c50
        refine x_to (l := [(0, .ref (M.2.1 k0)), (1, .int a1), (2, .int a2), (3, .ref (M.2.1 k3)), (4, .int a4), (5, .int a5)]) ⟨rfl, rfl, rfl, rfl, rfl, rfl, trivial⟩ ?_
        exact tX6_chooseTool_B75_35 o hnL n k0 a1 a2 k3 a4 a5 S z hrec K  h
      · have h := xit h c50
        refine x_iconst (pc := 71) o dX6_chooseTool_71 ic_1 ?_
        refine x_goto (pc := 72) (tgt := 76) o dX6_chooseTool_72 (by decide) ?_
        refine x_to (l := [(0, .ref (M.2.1 k0)), (1, .int a1), (2, .int a2), (3, .ref (M.2.1 k3)), (4, .int a4), (5, .int a5)]) ⟨rfl, rfl, rfl, rfl, rfl, rfl, trivial⟩ ?_
        exact tX6_chooseTool_B76_35 o hnL n k0 a1 a2 k3 a4 a5 ((1 : Int32)) S z hrec K  h
theorem tX6_chooseTool_L35 {Γ : xGm} {M : xMg} (o : xOk Γ tC M 3 cX6_chooseTool RX6) (hnL : Γ.2.2.2 = 10) (n : Nat) (k0 : Nat) (a1 : Int32) (a2 : Int32) (k3 : Nat) (z : (Int32 × xSt)) (K : xAt Γ tC M 220 (xlv [(4, .int z.1)]) [] z.2) : ∀ (q : Nat) (a4 : Int32) (a5 : Int32) (S : xSt), fX6_chooseTool_L35 n k0 a1 a2 k3 q a4 a5 S = some z → xAt Γ tC M 35 (xlv [(0, .ref (M.2.1 k0)), (1, .int a1), (2, .int a2), (3, .ref (M.2.1 k3)), (4, .int a4), (5, .int a5)]) [] S := by
  intro q
  induction q with
  | zero => intro a4 a5 S h; cases h
  | succ q ih => intro a4 a5 S h; exact tX6_chooseTool_L35b o hnL n k0 a1 a2 k3 a4 a5 S z ih K h
def fX6_chooseTool (n : Nat) (k0 : Nat) (a1 : Int32) (S : xSt) : Option (Int32 × xSt) :=
  if tC.1 k0 = 6 then
  ((xgM tC 6 5 k0 S).bind fun r1 =>
  (xgI tC 8 2 r1 S).bind fun v2 =>
  (xgM tC 6 5 k0 S).bind fun r3 =>
  (xgI tC 8 3 r3 S).bind fun v4 =>
  (xgI tC 6 7 k0 S).bind fun v5 =>
  (some ((v2 ||| v4) ||| v5)).bind fun v6 =>
  (xgM tC 6 4 k0 S).bind fun r7 =>
  (xgF tC 9 13 r7 S).bind fun r8 =>
  (fX6_chooseTool_L35 n k0 a1 v6 r8 n ((-1 : Int32)) ((0 : Int32)) S).bind fun z53 => some (z53.1, z53.2))
  else none
theorem kX6_chooseTool {z : Int32 × xSt} {n : Nat} {k0 : Nat} {a1 : Int32} {S : xSt} (h : fX6_chooseTool n k0 a1 S = some z) : tC.1 k0 = 6 := by
  unfold fX6_chooseTool at h
  exact (xck h).1
set_option maxHeartbeats 4000000 in
theorem tX6_chooseTool (l : Launch) (M : xMg) (A : Nat → Prop) (n : Nat) (k0 : Nat) (a1 : Int32) (S : xSt) (z : Int32 × xSt) (h : fX6_chooseTool n k0 a1 S = some z) : xMI l yX6_chooseTool cX6_chooseTool 10 (some .int) 3 tC M A [.ref (M.2.1 k0), .int a1] S z.1 z.2 := by
  refine x_metI (plainFor_of_name (by decide)) tC_ok (Nat.le_of_ble_eq_true rfl) (fun Γ hA hnL hl hr o => ?_)
  subst hA; subst hl
  have o : xOk Γ tC M 3 cX6_chooseTool RX6 := o
  unfold fX6_chooseTool at h
  obtain ⟨hk0, h⟩ := xck h
  refine x_to (l := [(0, .ref (M.2.1 k0)), (1, .int a1)]) ⟨rfl, rfl, trivial⟩ ?_
  have hn2 : 2 < Γ.2.2.2 := by omega
  have hn3 : 3 < Γ.2.2.2 := by omega
  have hn4 : 4 < Γ.2.2.2 := by omega
  have hn5 : 5 < Γ.2.2.2 := by omega
  refine x_aload_n (pc := 0) o dX6_chooseTool_0 rfl rfl ?_
  obtain ⟨r1, hr1, h⟩ := xbs h
  refine gX6_27 (pc := 1) o dX6_chooseTool_1 hr1 ?_
  obtain ⟨v2, hv2, h⟩ := xbs h
  refine gX6_94 (pc := 4) o dX6_chooseTool_4 hv2 ?_
  refine x_aload_n (pc := 7) o dX6_chooseTool_7 rfl rfl ?_
  obtain ⟨r3, hr3, h⟩ := xbs h
  refine gX6_27 (pc := 8) o dX6_chooseTool_8 hr3 ?_
  obtain ⟨v4, hv4, h⟩ := xbs h
  refine gX6_143 (pc := 11) o dX6_chooseTool_11 hv4 ?_
  refine x_ior (pc := 14) o dX6_chooseTool_14 ?_
  refine x_aload_n (pc := 15) o dX6_chooseTool_15 rfl rfl ?_
  obtain ⟨v5, hv5, h⟩ := xbs h
  refine gX6_60 (pc := 16) o dX6_chooseTool_16 hv5 ?_
  refine x_ior (pc := 19) o dX6_chooseTool_19 ?_
  obtain ⟨v6, hv6, h⟩ := xbs h
  refine x_istore_nE (pc := 20) o dX6_chooseTool_20 rfl hn2 hv6 ?_
  refine x_aload_n (pc := 21) o dX6_chooseTool_21 rfl rfl ?_
  obtain ⟨r7, hr7, h⟩ := xbs h
  refine gX6_23 (pc := 22) o dX6_chooseTool_22 hr7 ?_
  obtain ⟨r8, hr8, h⟩ := xbs h
  refine gX6_146 (pc := 25) o dX6_chooseTool_25 hr8 ?_
  refine x_astore_n (pc := 28) o dX6_chooseTool_28 rfl hn3 ?_
  refine x_iconst (pc := 29) o dX6_chooseTool_29 ic_m1 ?_
  refine x_istore (pc := 30) o dX6_chooseTool_30 hn4 ?_
  refine x_iconst (pc := 32) o dX6_chooseTool_32 ic_0 ?_
  refine x_istore (pc := 33) o dX6_chooseTool_33 hn5 ?_
  obtain ⟨z53, hz53, h⟩ := xbs h
  refine x_to (l := [(0, .ref (M.2.1 k0)), (1, .int a1), (2, .int v6), (3, .ref (M.2.1 r8)), (4, .int ((-1 : Int32))), (5, .int ((0 : Int32)))]) ⟨rfl, rfl, rfl, rfl, rfl, rfl, trivial⟩ ?_
  refine tX6_chooseTool_L35 o hnL n k0 a1 v6 r8 z53 ?_ n ((-1 : Int32)) ((0 : Int32)) S hz53
  refine x_iload (pc := 220) o dX6_chooseTool_220 rfl ?_
  exact x_ireturn (pc := 222) o hr dX6_chooseTool_222 (xr1 h) (xr2 h)
def fX1_hasWears (k0 : Nat) (S : xSt) : Option (Int32) :=
  if tC.1 k0 = 1 then
  ((xgI tC 1 6 k0 S).bind fun v1 =>
  (xgI tC 1 5 k0 S).bind fun v2 =>
  if v1 ≤ v2 then
  (some ((0 : Int32)))
else
  (some ((1 : Int32))))
  else none
theorem kX1_hasWears {z : Int32} {k0 : Nat} {S : xSt} (h : fX1_hasWears k0 S = some z) : tC.1 k0 = 1 := by
  unfold fX1_hasWears at h
  exact (xck h).1
set_option maxHeartbeats 4000000 in
theorem tX1_hasWears (l : Launch) (M : xMg) (A : Nat → Prop) (k0 : Nat) (S : xSt) (z : Int32) (h : fX1_hasWears k0 S = some z) : xMI l yX1_hasWears cX1_hasWears 1 (some .boolean) 1 tC M A [.ref (M.2.1 k0)] S z S := by
  refine x_metI (plainFor_of_name (by decide)) tC_ok (Nat.le_of_ble_eq_true rfl) (fun Γ hA hnL hl hr o => ?_)
  subst hA; subst hl
  have o : xOk Γ tC M 1 cX1_hasWears RX1 := o
  unfold fX1_hasWears at h
  obtain ⟨hk0, h⟩ := xck h
  refine x_to (l := [(0, .ref (M.2.1 k0))]) ⟨rfl, trivial⟩ ?_
  refine x_aload_n (pc := 0) o dX1_hasWears_0 rfl rfl ?_
  obtain ⟨v1, hv1, h⟩ := xbs h
  refine gX1_31 (pc := 1) o dX1_hasWears_1 hv1 ?_
  refine x_aload_n (pc := 4) o dX1_hasWears_4 rfl rfl ?_
  obtain ⟨v2, hv2, h⟩ := xbs h
  refine gX1_28 (pc := 5) o dX1_hasWears_5 hv2 ?_
  refine x_icmp_le (pc := 8) (tgt := 15) o dX1_hasWears_8 (by decide) (fun c3 => ?_) (fun c3 => ?_)
  · have h := xit h c3
    refine x_iconst (pc := 15) o dX1_hasWears_15 ic_0 ?_
    exact x_zreturn (pc := 16) o hr dX1_hasWears_16 (by decide) (Option.some.inj h) rfl
  · have h := xif h c3
    refine x_iconst (pc := 11) o dX1_hasWears_11 ic_1 ?_
    refine x_goto (pc := 12) (tgt := 16) o dX1_hasWears_12 (by decide) ?_
    exact x_zreturn (pc := 16) o hr dX1_hasWears_16 (by decide) (Option.some.inj h) rfl
def fX8_pay (k0 : Nat) (a1 : Int32) (S : xSt) : Option (xSt) :=
  if tC.1 k0 = 8 then
  ((xgI tC 8 1 k0 S).bind fun v1 =>
  (some (if (v1 + a1) < ((9999 : Int32)) then (v1 + a1) else ((9999 : Int32)))).bind fun v2 =>
  (xpI tC 8 1 k0 v2 S).bind fun S3 =>
  some S3)
  else none
theorem kX8_pay {z : xSt} {k0 : Nat} {a1 : Int32} {S : xSt} (h : fX8_pay k0 a1 S = some z) : tC.1 k0 = 8 := by
  unfold fX8_pay at h
  exact (xck h).1
set_option maxHeartbeats 4000000 in
theorem tX8_pay (l : Launch) (M : xMg) (A : Nat → Prop) (k0 : Nat) (a1 : Int32) (S : xSt) (z : xSt) (h : fX8_pay k0 a1 S = some z) : xMV l yX8_pay cX8_pay 2 none 2 tC M A [.ref (M.2.1 k0), .int a1] S z := by
  refine x_metV (plainFor_of_name (by decide)) tC_ok (Nat.le_of_ble_eq_true rfl) (fun Γ hA hnL hl hr o => ?_)
  subst hA; subst hl
  have o : xOk Γ tC M 2 cX8_pay RX8 := o
  unfold fX8_pay at h
  obtain ⟨hk0, h⟩ := xck h
  refine x_to (l := [(0, .ref (M.2.1 k0)), (1, .int a1)]) ⟨rfl, rfl, trivial⟩ ?_
  refine x_aload_n (pc := 0) o dX8_pay_0 rfl rfl ?_
  refine x_sipush (pc := 1) o dX8_pay_1 sp_9999 ?_
  refine x_aload_n (pc := 4) o dX8_pay_4 rfl rfl ?_
  obtain ⟨v1, hv1, h⟩ := xbs h
  refine gX8_28 (pc := 5) o dX8_pay_5 hv1 ?_
  refine x_iload_n (pc := 8) o dX8_pay_8 rfl rfl ?_
  refine x_iadd (pc := 9) o dX8_pay_9 ?_
  obtain ⟨v2, hv2, h⟩ := xbs h
  refine x_mminE (pc := 10) o mX8_80 w_min1 w_min2 w_min3 (by decide) (Nat.le_of_ble_eq_true rfl) dX8_pay_10 hv2 ?_
  obtain ⟨S3, hS3, h⟩ := xbs h
  refine pX8_28 (pc := 13) o dX8_pay_13 hS3 ?_
  exact x_vreturn (pc := 16) o hr dX8_pay_16 (Option.some.inj h)
def fX3_keep (k0 : Nat) (k1 : Nat) (a2 : Int32) (a3 : Int32) (a4 : Int32) (S : xSt) : Option (xSt) :=
  if tC.1 k0 = 3 then
  ((xgI tC 8 4 k1 S).bind fun v1 =>
  if v1 < 0 then
  (some S)
else
  (if v1 < ((60 : Int32)) then
  ((xgF tC 3 1 k0 S).bind fun r2 =>
  (xgI tC 8 0 k1 S).bind fun v3 =>
  (xas tC r2 (v1 * ((4 : Int32))) v3 S).bind fun S4 =>
  (xgF tC 3 1 k0 S4).bind fun r5 =>
  (xas tC r5 ((v1 * ((4 : Int32))) + ((1 : Int32))) a2 S4).bind fun S6 =>
  (xgF tC 3 1 k0 S6).bind fun r7 =>
  (xas tC r7 ((v1 * ((4 : Int32))) + ((2 : Int32))) a3 S6).bind fun S8 =>
  (xgF tC 3 1 k0 S8).bind fun r9 =>
  (xas tC r9 ((v1 * ((4 : Int32))) + ((3 : Int32))) a4 S8).bind fun S10 =>
  (xpI tC 8 4 k1 (v1 + ((1 : Int32))) S10).bind fun S11 =>
  some S11)
else
  (some S)))
  else none
theorem kX3_keep {z : xSt} {k0 : Nat} {k1 : Nat} {a2 : Int32} {a3 : Int32} {a4 : Int32} {S : xSt} (h : fX3_keep k0 k1 a2 a3 a4 S = some z) : tC.1 k0 = 3 := by
  unfold fX3_keep at h
  exact (xck h).1
set_option maxHeartbeats 4000000 in
theorem tX3_keep (l : Launch) (M : xMg) (A : Nat → Prop) (k0 : Nat) (k1 : Nat) (a2 : Int32) (a3 : Int32) (a4 : Int32) (S : xSt) (z : xSt) (h : fX3_keep k0 k1 a2 a3 a4 S = some z) : xMV l yX3_keep cX3_keep 6 none 1 tC M A [.ref (M.2.1 k0), .ref (M.2.1 k1), .int a2, .int a3, .int a4] S z := by
  refine x_metV (plainFor_of_name (by decide)) tC_ok (Nat.le_of_ble_eq_true rfl) (fun Γ hA hnL hl hr o => ?_)
  subst hA; subst hl
  have o : xOk Γ tC M 1 cX3_keep RX3 := o
  unfold fX3_keep at h
  obtain ⟨hk0, h⟩ := xck h
  refine x_to (l := [(0, .ref (M.2.1 k0)), (1, .ref (M.2.1 k1)), (2, .int a2), (3, .int a3), (4, .int a4)]) ⟨rfl, rfl, rfl, rfl, rfl, trivial⟩ ?_
  have hn5 : 5 < Γ.2.2.2 := by omega
  refine x_aload_n (pc := 0) o dX3_keep_0 rfl rfl ?_
  obtain ⟨v1, hv1, h⟩ := xbs h
  refine gX3_43 (pc := 1) o dX3_keep_1 hv1 ?_
  refine x_istore (pc := 4) o dX3_keep_4 hn5 ?_
  refine x_iload (pc := 6) o dX3_keep_6 rfl ?_
  refine x_if_lt (pc := 8) (tgt := 18) o dX3_keep_8 (by decide) (fun c13 => ?_) (fun c13 => ?_)
  · have h := xit h c13
    exact x_vreturn (pc := 18) o hr dX3_keep_18 (Option.some.inj h)
  · have h := xif h c13
    refine x_iload (pc := 11) o dX3_keep_11 rfl ?_
    refine x_bipush (pc := 13) o dX3_keep_13 bp_60 ?_
    refine x_icmp_lt (pc := 15) (tgt := 19) o dX3_keep_15 (by decide) (fun c12 => ?_) (fun c12 => ?_)
    · have h := xit h c12
      refine x_aload_n (pc := 19) o dX3_keep_19 rfl rfl ?_
      obtain ⟨r2, hr2, h⟩ := xbs h
      refine gX3_17 (pc := 20) o dX3_keep_20 hr2 ?_
      refine x_iload (pc := 23) o dX3_keep_23 rfl ?_
      refine x_iconst (pc := 25) o dX3_keep_25 ic_4 ?_
      refine x_imul (pc := 26) o dX3_keep_26 ?_
      refine x_aload_n (pc := 27) o dX3_keep_27 rfl rfl ?_
      obtain ⟨v3, hv3, h⟩ := xbs h
      refine gX3_46 (pc := 28) o dX3_keep_28 hv3 ?_
      obtain ⟨S4, hS4, h⟩ := xbs h
      refine x_iastore (pc := 31) o dX3_keep_31 hS4 ?_
      refine x_aload_n (pc := 32) o dX3_keep_32 rfl rfl ?_
      obtain ⟨r5, hr5, h⟩ := xbs h
      refine gX3_17 (pc := 33) o dX3_keep_33 hr5 ?_
      refine x_iload (pc := 36) o dX3_keep_36 rfl ?_
      refine x_iconst (pc := 38) o dX3_keep_38 ic_4 ?_
      refine x_imul (pc := 39) o dX3_keep_39 ?_
      refine x_iconst (pc := 40) o dX3_keep_40 ic_1 ?_
      refine x_iadd (pc := 41) o dX3_keep_41 ?_
      refine x_iload_n (pc := 42) o dX3_keep_42 rfl rfl ?_
      obtain ⟨S6, hS6, h⟩ := xbs h
      refine x_iastore (pc := 43) o dX3_keep_43 hS6 ?_
      refine x_aload_n (pc := 44) o dX3_keep_44 rfl rfl ?_
      obtain ⟨r7, hr7, h⟩ := xbs h
      refine gX3_17 (pc := 45) o dX3_keep_45 hr7 ?_
      refine x_iload (pc := 48) o dX3_keep_48 rfl ?_
      refine x_iconst (pc := 50) o dX3_keep_50 ic_4 ?_
      refine x_imul (pc := 51) o dX3_keep_51 ?_
      refine x_iconst (pc := 52) o dX3_keep_52 ic_2 ?_
      refine x_iadd (pc := 53) o dX3_keep_53 ?_
      refine x_iload_n (pc := 54) o dX3_keep_54 rfl rfl ?_
      obtain ⟨S8, hS8, h⟩ := xbs h
      refine x_iastore (pc := 55) o dX3_keep_55 hS8 ?_
      refine x_aload_n (pc := 56) o dX3_keep_56 rfl rfl ?_
      obtain ⟨r9, hr9, h⟩ := xbs h
      refine gX3_17 (pc := 57) o dX3_keep_57 hr9 ?_
      refine x_iload (pc := 60) o dX3_keep_60 rfl ?_
      refine x_iconst (pc := 62) o dX3_keep_62 ic_4 ?_
      refine x_imul (pc := 63) o dX3_keep_63 ?_
      refine x_iconst (pc := 64) o dX3_keep_64 ic_3 ?_
      refine x_iadd (pc := 65) o dX3_keep_65 ?_
      refine x_iload (pc := 66) o dX3_keep_66 rfl ?_
      obtain ⟨S10, hS10, h⟩ := xbs h
      refine x_iastore (pc := 68) o dX3_keep_68 hS10 ?_
      refine x_aload_n (pc := 69) o dX3_keep_69 rfl rfl ?_
      refine x_iload (pc := 70) o dX3_keep_70 rfl ?_
      refine x_iconst (pc := 72) o dX3_keep_72 ic_1 ?_
      refine x_iadd (pc := 73) o dX3_keep_73 ?_
      obtain ⟨S11, hS11, h⟩ := xbs h
      refine pX3_43 (pc := 74) o dX3_keep_74 hS11 ?_
      exact x_vreturn (pc := 77) o hr dX3_keep_77 (Option.some.inj h)
    · have h := xif h c12
      exact x_vreturn (pc := 18) o hr dX3_keep_18 (Option.some.inj h)
def fX6_useTool_B197 (n : Nat) (k0 : Nat) (a1 : Int32) (a2 : Int32) (a3 : Int32) (S : xSt) : Option (xSt) :=
  (xgI tC 6 7 k0 S).bind fun v29 =>
  (xpI tC 6 7 k0 (v29 ||| (((1 : Int32)) <<< (a2 &&& 31))) S).bind fun S30 =>
  (xgI tC 6 8 k0 S30).bind fun v31 =>
  (xpI tC 6 8 k0 (v31 ||| (((1 : Int32)) <<< (a3 &&& 31))) S30).bind fun S32 =>
  (xgM tC 6 5 k0 S32).bind fun r33 =>
  (xgF tC 8 7 r33 S32).bind fun r34 =>
  (xal tC r34 a1 S32).bind fun v35 =>
  (xas tC r34 a1 (v35 + ((1 : Int32))) S32).bind fun S36 =>
  (xgI tC 6 10 k0 S36).bind fun v37 =>
  (xpI tC 6 10 k0 (v37 + ((1 : Int32))) S36).bind fun S38 =>
  (xgI tC 6 6 k0 S38).bind fun v39 =>
  if v39 = 0 then
  (some S38)
else
  ((xgF tC 6 3 k0 S38).bind fun r40 =>
  (xgM tC 6 5 k0 S38).bind fun r41 =>
  (fX3_keep r40 r41 a1 a2 a3 S38).bind fun S42 =>
  some S42)
set_option maxHeartbeats 4000000 in
theorem tX6_useTool_B197 {Γ : xGm} {M : xMg} (o : xOk Γ tC M 3 cX6_useTool RX6) (hnL : Γ.2.2.2 = 6) (n : Nat) (k0 : Nat) (a1 : Int32) (a2 : Int32) (a3 : Int32) (S : xSt) (z : (xSt)) (hr : xRV Γ tC M none z) (h : fX6_useTool_B197 n k0 a1 a2 a3 S = some z) : xAt Γ tC M 197 (xlv [(0, .ref (M.2.1 k0)), (1, .int a1), (2, .int a2), (3, .int a3)]) [] S := by
  unfold fX6_useTool_B197 at h
  refine x_aload_n (pc := 197) o dX6_useTool_197 rfl rfl ?_
  refine x_dup (pc := 198) o dX6_useTool_198 rfl ?_
  obtain ⟨v29, hv29, h⟩ := xbs h
  refine gX6_60 (pc := 199) o dX6_useTool_199 hv29 ?_
  refine x_iconst (pc := 202) o dX6_useTool_202 ic_1 ?_
  refine x_iload_n (pc := 203) o dX6_useTool_203 rfl rfl ?_
  refine x_ishl (pc := 204) o dX6_useTool_204 ?_
  refine x_ior (pc := 205) o dX6_useTool_205 ?_
  obtain ⟨S30, hS30, h⟩ := xbs h
  refine pX6_60 (pc := 206) o dX6_useTool_206 hS30 ?_
  refine x_aload_n (pc := 209) o dX6_useTool_209 rfl rfl ?_
  refine x_dup (pc := 210) o dX6_useTool_210 rfl ?_
  obtain ⟨v31, hv31, h⟩ := xbs h
  refine gX6_63 (pc := 211) o dX6_useTool_211 hv31 ?_
  refine x_iconst (pc := 214) o dX6_useTool_214 ic_1 ?_
  refine x_iload_n (pc := 215) o dX6_useTool_215 rfl rfl ?_
  refine x_ishl (pc := 216) o dX6_useTool_216 ?_
  refine x_ior (pc := 217) o dX6_useTool_217 ?_
  obtain ⟨S32, hS32, h⟩ := xbs h
  refine pX6_63 (pc := 218) o dX6_useTool_218 hS32 ?_
  refine x_aload_n (pc := 221) o dX6_useTool_221 rfl rfl ?_
  obtain ⟨r33, hr33, h⟩ := xbs h
  refine gX6_27 (pc := 222) o dX6_useTool_222 hr33 ?_
  obtain ⟨r34, hr34, h⟩ := xbs h
  refine gX6_108 (pc := 225) o dX6_useTool_225 hr34 ?_
  refine x_iload_n (pc := 228) o dX6_useTool_228 rfl rfl ?_
  refine x_dup2 (pc := 229) o dX6_useTool_229 rfl rfl ?_
  obtain ⟨v35, hv35, h⟩ := xbs h
  refine x_iaload (pc := 230) o dX6_useTool_230 hv35 ?_
  refine x_iconst (pc := 231) o dX6_useTool_231 ic_1 ?_
  refine x_iadd (pc := 232) o dX6_useTool_232 ?_
  obtain ⟨S36, hS36, h⟩ := xbs h
  refine x_iastore (pc := 233) o dX6_useTool_233 hS36 ?_
  refine x_aload_n (pc := 234) o dX6_useTool_234 rfl rfl ?_
  refine x_dup (pc := 235) o dX6_useTool_235 rfl ?_
  obtain ⟨v37, hv37, h⟩ := xbs h
  refine gX6_54 (pc := 236) o dX6_useTool_236 hv37 ?_
  refine x_iconst (pc := 239) o dX6_useTool_239 ic_1 ?_
  refine x_iadd (pc := 240) o dX6_useTool_240 ?_
  obtain ⟨S38, hS38, h⟩ := xbs h
  refine pX6_54 (pc := 241) o dX6_useTool_241 hS38 ?_
  refine x_aload_n (pc := 244) o dX6_useTool_244 rfl rfl ?_
  obtain ⟨v39, hv39, h⟩ := xbs h
  refine gX6_35 (pc := 245) o dX6_useTool_245 hv39 ?_
  refine x_if_eq (pc := 248) (tgt := 265) o dX6_useTool_248 (by decide) (fun c43 => ?_) (fun c43 => ?_)
  · have h := xit h c43
    exact x_vreturn (pc := 265) o hr dX6_useTool_265 (Option.some.inj h)
  · have h := xif h c43
    refine x_aload_n (pc := 251) o dX6_useTool_251 rfl rfl ?_
    obtain ⟨r40, hr40, h⟩ := xbs h
    refine gX6_31 (pc := 252) o dX6_useTool_252 hr40 ?_
    refine x_aload_n (pc := 255) o dX6_useTool_255 rfl rfl ?_
    obtain ⟨r41, hr41, h⟩ := xbs h
    refine gX6_27 (pc := 256) o dX6_useTool_256 hr41 ?_
    refine x_iload_n (pc := 259) o dX6_useTool_259 rfl rfl ?_
    refine x_iload_n (pc := 260) o dX6_useTool_260 rfl rfl ?_
    refine x_iload_n (pc := 261) o dX6_useTool_261 rfl rfl ?_
    obtain ⟨S42, hS42, h⟩ := xbs h
    refine x_callV (pc := 262) (As := [.ref (M.2.1 r41), .int a1, .int a2, .int a3]) (b := r40) (rest := []) o (tX3_keep _ M _ r40 r41 a1 a2 a3 S38 S42 hS42) eX3_keep mX6_198 clX3 (kX3_keep hS42) (by decide) rfl rfl (Nat.le_of_ble_eq_true rfl) dX6_useTool_262 ?_
    exact x_vreturn (pc := 265) o hr dX6_useTool_265 (Option.some.inj h)
def fX6_useTool_B163 (n : Nat) (k0 : Nat) (a1 : Int32) (a2 : Int32) (a3 : Int32) (S : xSt) : Option (xSt) :=
  (xgM tC 6 5 k0 S).bind fun r24 =>
  (xgF tC 8 5 r24 S).bind fun r25 =>
  (xal tC r25 a2 S).bind fun v26 =>
  (xgM tC 6 4 k0 S).bind fun r27 =>
  (xgI tC 9 14 r27 S).bind fun v28 =>
  if v26 < v28 then
  (fX6_useTool_B197 n k0 a1 a2 a3 S)
else
  ((xgM tC 6 5 k0 S).bind fun r44 =>
  (xgI tC 8 2 r44 S).bind fun v45 =>
  (xpI tC 8 2 r44 (v45 ||| (((1 : Int32)) <<< (a2 &&& 31))) S).bind fun S46 =>
  fX6_useTool_B197 n k0 a1 a2 a3 S46)
set_option maxHeartbeats 4000000 in
theorem tX6_useTool_B163 {Γ : xGm} {M : xMg} (o : xOk Γ tC M 3 cX6_useTool RX6) (hnL : Γ.2.2.2 = 6) (n : Nat) (k0 : Nat) (a1 : Int32) (a2 : Int32) (a3 : Int32) (S : xSt) (z : (xSt)) (hr : xRV Γ tC M none z) (h : fX6_useTool_B163 n k0 a1 a2 a3 S = some z) : xAt Γ tC M 163 (xlv [(0, .ref (M.2.1 k0)), (1, .int a1), (2, .int a2), (3, .int a3)]) [] S := by
  unfold fX6_useTool_B163 at h
  refine x_aload_n (pc := 163) o dX6_useTool_163 rfl rfl ?_
  obtain ⟨r24, hr24, h⟩ := xbs h
  refine gX6_27 (pc := 164) o dX6_useTool_164 hr24 ?_
  obtain ⟨r25, hr25, h⟩ := xbs h
  refine gX6_97 (pc := 167) o dX6_useTool_167 hr25 ?_
  refine x_iload_n (pc := 170) o dX6_useTool_170 rfl rfl ?_
  obtain ⟨v26, hv26, h⟩ := xbs h
  refine x_iaload (pc := 171) o dX6_useTool_171 hv26 ?_
  refine x_aload_n (pc := 172) o dX6_useTool_172 rfl rfl ?_
  obtain ⟨r27, hr27, h⟩ := xbs h
  refine gX6_23 (pc := 173) o dX6_useTool_173 hr27 ?_
  obtain ⟨v28, hv28, h⟩ := xbs h
  refine gX6_195 (pc := 176) o dX6_useTool_176 hv28 ?_
  refine x_icmp_lt (pc := 179) (tgt := 197) o dX6_useTool_179 (by decide) (fun c47 => ?_) (fun c47 => ?_)
  · have h := xit h c47
    refine x_to (l := [(0, .ref (M.2.1 k0)), (1, .int a1), (2, .int a2), (3, .int a3)]) ⟨rfl, rfl, rfl, rfl, trivial⟩ ?_
    exact tX6_useTool_B197 o hnL n k0 a1 a2 a3 S z hr h
  · have h := xif h c47
    refine x_aload_n (pc := 182) o dX6_useTool_182 rfl rfl ?_
    obtain ⟨r44, hr44, h⟩ := xbs h
    refine gX6_27 (pc := 183) o dX6_useTool_183 hr44 ?_
    refine x_dup (pc := 186) o dX6_useTool_186 rfl ?_
    obtain ⟨v45, hv45, h⟩ := xbs h
    refine gX6_94 (pc := 187) o dX6_useTool_187 hv45 ?_
    refine x_iconst (pc := 190) o dX6_useTool_190 ic_1 ?_
    refine x_iload_n (pc := 191) o dX6_useTool_191 rfl rfl ?_
    refine x_ishl (pc := 192) o dX6_useTool_192 ?_
    refine x_ior (pc := 193) o dX6_useTool_193 ?_
    obtain ⟨S46, hS46, h⟩ := xbs h
    refine pX6_94 (pc := 194) o dX6_useTool_194 hS46 ?_
    refine x_to (l := [(0, .ref (M.2.1 k0)), (1, .int a1), (2, .int a2), (3, .int a3)]) ⟨rfl, rfl, rfl, rfl, trivial⟩ ?_
    exact tX6_useTool_B197 o hnL n k0 a1 a2 a3 S46 z hr h
def fX6_useTool_B72 (n : Nat) (k0 : Nat) (a1 : Int32) (a2 : Int32) (a3 : Int32) (s0 : Int32) (S : xSt) : Option (xSt) :=
  (xgM tC 6 5 k0 S).bind fun r7 =>
  (xgF tC 8 5 r7 S).bind fun r8 =>
  (xgM tC 6 5 k0 S).bind fun r9 =>
  (xgF tC 8 5 r9 S).bind fun r10 =>
  (xal tC r10 a2 S).bind fun v11 =>
  (some (if s0 < ((99 : Int32)) then s0 else ((99 : Int32)))).bind fun v12 =>
  (some (if ((0 : Int32)) < v12 then v12 else ((0 : Int32)))).bind fun v13 =>
  (some (if (v11 + v13) < ((100 : Int32)) then (v11 + v13) else ((100 : Int32)))).bind fun v14 =>
  (xas tC r8 a2 v14 S).bind fun S15 =>
  (xgM tC 6 5 k0 S15).bind fun r16 =>
  (xgF tC 8 6 r16 S15).bind fun r17 =>
  (xgM tC 6 5 k0 S15).bind fun r18 =>
  (fX8_knownBy r18 a3 a2 S15).bind fun v19 =>
  (some (if (v19 + ((1 : Int32))) < ((9 : Int32)) then (v19 + ((1 : Int32))) else ((9 : Int32)))).bind fun v20 =>
  (xas tC r17 ((a3 * ((8 : Int32))) + a2) v20 S15).bind fun S21 =>
  (xgF tC 6 2 k0 S21).bind fun r22 =>
  (xal tC r22 ((0 : Int32)) S21).bind fun v23 =>
  if v23 = ((1 : Int32)) then
  ((xgM tC 6 5 k0 S21).bind fun r48 =>
  (xgM tC 6 4 k0 S21).bind fun r49 =>
  (xgI tC 9 17 r49 S21).bind fun v50 =>
  (fX8_pay r48 v50 S21).bind fun S51 =>
  fX6_useTool_B163 n k0 a1 a2 a3 S51)
else
  (fX6_useTool_B163 n k0 a1 a2 a3 S21)
set_option maxHeartbeats 4000000 in
theorem tX6_useTool_B72 {Γ : xGm} {M : xMg} (o : xOk Γ tC M 3 cX6_useTool RX6) (hnL : Γ.2.2.2 = 6) (n : Nat) (k0 : Nat) (a1 : Int32) (a2 : Int32) (a3 : Int32) (s0 : Int32) (S : xSt) (z : (xSt)) (hr : xRV Γ tC M none z) (h : fX6_useTool_B72 n k0 a1 a2 a3 s0 S = some z) : xAt Γ tC M 72 (xlv [(0, .ref (M.2.1 k0)), (1, .int a1), (2, .int a2), (3, .int a3)]) [.int s0] S := by
  have hn5 : 5 < Γ.2.2.2 := by omega
  unfold fX6_useTool_B72 at h
  refine x_istore (pc := 72) o dX6_useTool_72 hn5 ?_
  refine x_aload_n (pc := 74) o dX6_useTool_74 rfl rfl ?_
  obtain ⟨r7, hr7, h⟩ := xbs h
  refine gX6_27 (pc := 75) o dX6_useTool_75 hr7 ?_
  obtain ⟨r8, hr8, h⟩ := xbs h
  refine gX6_97 (pc := 78) o dX6_useTool_78 hr8 ?_
  refine x_iload_n (pc := 81) o dX6_useTool_81 rfl rfl ?_
  refine x_bipush (pc := 82) o dX6_useTool_82 bp_100 ?_
  refine x_aload_n (pc := 84) o dX6_useTool_84 rfl rfl ?_
  obtain ⟨r9, hr9, h⟩ := xbs h
  refine gX6_27 (pc := 85) o dX6_useTool_85 hr9 ?_
  obtain ⟨r10, hr10, h⟩ := xbs h
  refine gX6_97 (pc := 88) o dX6_useTool_88 hr10 ?_
  refine x_iload_n (pc := 91) o dX6_useTool_91 rfl rfl ?_
  obtain ⟨v11, hv11, h⟩ := xbs h
  refine x_iaload (pc := 92) o dX6_useTool_92 hv11 ?_
  refine x_iconst (pc := 93) o dX6_useTool_93 ic_0 ?_
  refine x_bipush (pc := 94) o dX6_useTool_94 bp_99 ?_
  refine x_iload (pc := 96) o dX6_useTool_96 rfl ?_
  obtain ⟨v12, hv12, h⟩ := xbs h
  refine x_mminE (pc := 98) o mX6_82 w_min1 w_min2 w_min3 (by decide) (Nat.le_of_ble_eq_true rfl) dX6_useTool_98 hv12 ?_
  obtain ⟨v13, hv13, h⟩ := xbs h
  refine x_mmaxE (pc := 101) o mX6_183 w_max1 w_max2 w_max3 (by decide) (Nat.le_of_ble_eq_true rfl) dX6_useTool_101 hv13 ?_
  refine x_iadd (pc := 104) o dX6_useTool_104 ?_
  obtain ⟨v14, hv14, h⟩ := xbs h
  refine x_mminE (pc := 105) o mX6_82 w_min1 w_min2 w_min3 (by decide) (Nat.le_of_ble_eq_true rfl) dX6_useTool_105 hv14 ?_
  obtain ⟨S15, hS15, h⟩ := xbs h
  refine x_iastore (pc := 108) o dX6_useTool_108 hS15 ?_
  refine x_aload_n (pc := 109) o dX6_useTool_109 rfl rfl ?_
  obtain ⟨r16, hr16, h⟩ := xbs h
  refine gX6_27 (pc := 110) o dX6_useTool_110 hr16 ?_
  obtain ⟨r17, hr17, h⟩ := xbs h
  refine gX6_186 (pc := 113) o dX6_useTool_113 hr17 ?_
  refine x_iload_n (pc := 116) o dX6_useTool_116 rfl rfl ?_
  refine x_bipush (pc := 117) o dX6_useTool_117 bp_8 ?_
  refine x_imul (pc := 119) o dX6_useTool_119 ?_
  refine x_iload_n (pc := 120) o dX6_useTool_120 rfl rfl ?_
  refine x_iadd (pc := 121) o dX6_useTool_121 ?_
  refine x_bipush (pc := 122) o dX6_useTool_122 bp_9 ?_
  refine x_aload_n (pc := 124) o dX6_useTool_124 rfl rfl ?_
  obtain ⟨r18, hr18, h⟩ := xbs h
  refine gX6_27 (pc := 125) o dX6_useTool_125 hr18 ?_
  refine x_iload_n (pc := 128) o dX6_useTool_128 rfl rfl ?_
  refine x_iload_n (pc := 129) o dX6_useTool_129 rfl rfl ?_
  obtain ⟨v19, hv19, h⟩ := xbs h
  refine x_callI (pc := 130) (As := [.int a3, .int a2]) (b := r18) (rest := [.int ((9 : Int32)), .int ((a3 * ((8 : Int32))) + a2), .ref (M.2.1 r17)]) o (tX8_knownBy _ M _ r18 a3 a2 S15 v19 hv19) eX8_knownBy mX6_171 clX8 (kX8_knownBy hv19) (by decide) rfl rfl (Nat.le_of_ble_eq_true rfl) dX6_useTool_130 ?_
  refine x_iconst (pc := 133) o dX6_useTool_133 ic_1 ?_
  refine x_iadd (pc := 134) o dX6_useTool_134 ?_
  obtain ⟨v20, hv20, h⟩ := xbs h
  refine x_mminE (pc := 135) o mX6_82 w_min1 w_min2 w_min3 (by decide) (Nat.le_of_ble_eq_true rfl) dX6_useTool_135 hv20 ?_
  obtain ⟨S21, hS21, h⟩ := xbs h
  refine x_iastore (pc := 138) o dX6_useTool_138 hS21 ?_
  refine x_aload_n (pc := 139) o dX6_useTool_139 rfl rfl ?_
  obtain ⟨r22, hr22, h⟩ := xbs h
  refine gX6_20 (pc := 140) o dX6_useTool_140 hr22 ?_
  refine x_iconst (pc := 143) o dX6_useTool_143 ic_0 ?_
  obtain ⟨v23, hv23, h⟩ := xbs h
  refine x_iaload (pc := 144) o dX6_useTool_144 hv23 ?_
  refine x_iconst (pc := 145) o dX6_useTool_145 ic_1 ?_
  refine x_icmp_ne (pc := 146) (tgt := 163) o dX6_useTool_146 (by decide) (fun c52 => ?_) (fun c52 => ?_)
  · have h := xif h c52
    refine x_to (l := [(0, .ref (M.2.1 k0)), (1, .int a1), (2, .int a2), (3, .int a3)]) ⟨rfl, rfl, rfl, rfl, trivial⟩ ?_
    exact tX6_useTool_B163 o hnL n k0 a1 a2 a3 S21 z hr h
  · have h := xit h c52
    refine x_aload_n (pc := 149) o dX6_useTool_149 rfl rfl ?_
    obtain ⟨r48, hr48, h⟩ := xbs h
    refine gX6_27 (pc := 150) o dX6_useTool_150 hr48 ?_
    refine x_aload_n (pc := 153) o dX6_useTool_153 rfl rfl ?_
    obtain ⟨r49, hr49, h⟩ := xbs h
    refine gX6_23 (pc := 154) o dX6_useTool_154 hr49 ?_
    obtain ⟨v50, hv50, h⟩ := xbs h
    refine gX6_189 (pc := 157) o dX6_useTool_157 hv50 ?_
    obtain ⟨S51, hS51, h⟩ := xbs h
    refine x_callV (pc := 160) (As := [.int v50]) (b := r48) (rest := []) o (tX8_pay _ M _ r48 v50 S21 S51 hS51) eX8_pay mX6_192 clX8 (kX8_pay hS51) (by decide) rfl rfl (Nat.le_of_ble_eq_true rfl) dX6_useTool_160 ?_
    refine x_to (l := [(0, .ref (M.2.1 k0)), (1, .int a1), (2, .int a2), (3, .int a3)]) ⟨rfl, rfl, rfl, rfl, trivial⟩ ?_
    exact tX6_useTool_B163 o hnL n k0 a1 a2 a3 S51 z hr h
def fX6_useTool (n : Nat) (k0 : Nat) (a1 : Int32) (a2 : Int32) (a3 : Int32) (S : xSt) : Option (xSt) :=
  if tC.1 k0 = 6 then
  (if a3 < 0 then
  (some S)
else
  (if ((6 : Int32)) ≤ a3 then
  (some S)
else
  (if a2 < 0 then
  (some S)
else
  (if a2 < ((8 : Int32)) then
  ((fX6_tellFacts k0 a2 a3 S).bind fun S1 =>
  (xgM tC 6 4 k0 S1).bind fun r2 =>
  (xgF tC 9 13 r2 S1).bind fun r3 =>
  (fX1_hasWears r3 S1).bind fun v4 =>
  if v4 = 0 then
  ((xgF tC 6 2 k0 S1).bind fun r5 =>
  (xal tC r5 ((3 : Int32)) S1).bind fun v6 =>
  fX6_useTool_B72 n k0 a1 a2 a3 v6 S1)
else
  ((xgI tC 1 5 r3 S1).bind fun v53 =>
  (xgI tC 1 6 r3 S1).bind fun v54 =>
  (xgF tC 6 2 k0 S1).bind fun r55 =>
  (fX1_run n r3 v53 v54 r55 S1).bind fun q56 =>
  fX6_useTool_B72 n k0 a1 a2 a3 q56.1 q56.2))
else
  (some S)))))
  else none
theorem kX6_useTool {z : xSt} {n : Nat} {k0 : Nat} {a1 : Int32} {a2 : Int32} {a3 : Int32} {S : xSt} (h : fX6_useTool n k0 a1 a2 a3 S = some z) : tC.1 k0 = 6 := by
  unfold fX6_useTool at h
  exact (xck h).1
set_option maxHeartbeats 4000000 in
theorem tX6_useTool (l : Launch) (M : xMg) (A : Nat → Prop) (n : Nat) (k0 : Nat) (a1 : Int32) (a2 : Int32) (a3 : Int32) (S : xSt) (z : xSt) (h : fX6_useTool n k0 a1 a2 a3 S = some z) : xMV l yX6_useTool cX6_useTool 6 none 3 tC M A [.ref (M.2.1 k0), .int a1, .int a2, .int a3] S z := by
  refine x_metV (plainFor_of_name (by decide)) tC_ok (Nat.le_of_ble_eq_true rfl) (fun Γ hA hnL hl hr o => ?_)
  subst hA; subst hl
  have o : xOk Γ tC M 3 cX6_useTool RX6 := o
  unfold fX6_useTool at h
  obtain ⟨hk0, h⟩ := xck h
  refine x_to (l := [(0, .ref (M.2.1 k0)), (1, .int a1), (2, .int a2), (3, .int a3)]) ⟨rfl, rfl, rfl, rfl, trivial⟩ ?_
  have hn4 : 4 < Γ.2.2.2 := by omega
  refine x_iload_n (pc := 0) o dX6_useTool_0 rfl rfl ?_
  refine x_if_lt (pc := 1) (tgt := 20) o dX6_useTool_1 (by decide) (fun c61 => ?_) (fun c61 => ?_)
  · have h := xit h c61
    exact x_vreturn (pc := 20) o hr dX6_useTool_20 (Option.some.inj h)
  · have h := xif h c61
    refine x_iload_n (pc := 4) o dX6_useTool_4 rfl rfl ?_
    refine x_bipush (pc := 5) o dX6_useTool_5 bp_6 ?_
    refine x_icmp_ge (pc := 7) (tgt := 20) o dX6_useTool_7 (by decide) (fun c60 => ?_) (fun c60 => ?_)
    · have h := xit h c60
      exact x_vreturn (pc := 20) o hr dX6_useTool_20 (Option.some.inj h)
    · have h := xif h c60
      refine x_iload_n (pc := 10) o dX6_useTool_10 rfl rfl ?_
      refine x_if_lt (pc := 11) (tgt := 20) o dX6_useTool_11 (by decide) (fun c59 => ?_) (fun c59 => ?_)
      · have h := xit h c59
        exact x_vreturn (pc := 20) o hr dX6_useTool_20 (Option.some.inj h)
      · have h := xif h c59
        refine x_iload_n (pc := 14) o dX6_useTool_14 rfl rfl ?_
        refine x_bipush (pc := 15) o dX6_useTool_15 bp_8 ?_
        refine x_icmp_lt (pc := 17) (tgt := 21) o dX6_useTool_17 (by decide) (fun c58 => ?_) (fun c58 => ?_)
        · have h := xit h c58
          refine x_aload_n (pc := 21) o dX6_useTool_21 rfl rfl ?_
          refine x_iload_n (pc := 22) o dX6_useTool_22 rfl rfl ?_
          refine x_iload_n (pc := 23) o dX6_useTool_23 rfl rfl ?_
          obtain ⟨S1, hS1, h⟩ := xbs h
          refine x_callV (pc := 24) (As := [.int a2, .int a3]) (b := k0) (rest := []) o (tX6_tellFacts _ M _ k0 a2 a3 S S1 hS1) eX6_tellFacts mX6_153 clX6 (kX6_tellFacts hS1) (by decide) rfl rfl (Nat.le_of_ble_eq_true rfl) dX6_useTool_24 ?_
          refine x_aload_n (pc := 27) o dX6_useTool_27 rfl rfl ?_
          obtain ⟨r2, hr2, h⟩ := xbs h
          refine gX6_23 (pc := 28) o dX6_useTool_28 hr2 ?_
          obtain ⟨r3, hr3, h⟩ := xbs h
          refine gX6_146 (pc := 31) o dX6_useTool_31 hr3 ?_
          refine x_astore (pc := 34) o dX6_useTool_34 hn4 ?_
          refine x_aload (pc := 36) o dX6_useTool_36 rfl ?_
          obtain ⟨v4, hv4, h⟩ := xbs h
          refine x_callI (pc := 38) (As := []) (b := r3) (rest := []) o (tX1_hasWears _ M _ r3 S1 v4 hv4) eX1_hasWears mX6_174 clX1 (kX1_hasWears hv4) (by decide) rfl rfl (Nat.le_of_ble_eq_true rfl) dX6_useTool_38 ?_
          refine x_if_eq (pc := 41) (tgt := 66) o dX6_useTool_41 (by decide) (fun c57 => ?_) (fun c57 => ?_)
          · have h := xit h c57
            refine x_aload_n (pc := 66) o dX6_useTool_66 rfl rfl ?_
            obtain ⟨r5, hr5, h⟩ := xbs h
            refine gX6_20 (pc := 67) o dX6_useTool_67 hr5 ?_
            refine x_iconst (pc := 70) o dX6_useTool_70 ic_3 ?_
            obtain ⟨v6, hv6, h⟩ := xbs h
            refine x_iaload (pc := 71) o dX6_useTool_71 hv6 ?_
            refine x_to (l := [(0, .ref (M.2.1 k0)), (1, .int a1), (2, .int a2), (3, .int a3)]) ⟨rfl, rfl, rfl, rfl, trivial⟩ ?_
            exact tX6_useTool_B72 o hnL n k0 a1 a2 a3 v6 S1 z hr h
          · have h := xif h c57
            refine x_aload (pc := 44) o dX6_useTool_44 rfl ?_
            refine x_aload (pc := 46) o dX6_useTool_46 rfl ?_
            obtain ⟨v53, hv53, h⟩ := xbs h
            refine gX6_177 (pc := 48) o dX6_useTool_48 hv53 ?_
            refine x_aload (pc := 51) o dX6_useTool_51 rfl ?_
            obtain ⟨v54, hv54, h⟩ := xbs h
            refine gX6_180 (pc := 53) o dX6_useTool_53 hv54 ?_
            refine x_aload_n (pc := 56) o dX6_useTool_56 rfl rfl ?_
            obtain ⟨r55, hr55, h⟩ := xbs h
            refine gX6_20 (pc := 57) o dX6_useTool_57 hr55 ?_
            obtain ⟨q56, hq56, h⟩ := xbs h
            refine x_callI (pc := 60) (As := [.int v53, .int v54, .ref (M.2.1 r55)]) (b := r3) (rest := []) o (tX1_run _ M _ n r3 v53 v54 r55 S1 q56 hq56) eX1_run mX6_167 clX1 (kX1_run hq56) (by decide) rfl rfl (Nat.le_of_ble_eq_true rfl) dX6_useTool_60 ?_
            refine x_goto (pc := 63) (tgt := 72) o dX6_useTool_63 (by decide) ?_
            refine x_to (l := [(0, .ref (M.2.1 k0)), (1, .int a1), (2, .int a2), (3, .int a3)]) ⟨rfl, rfl, rfl, rfl, trivial⟩ ?_
            exact tX6_useTool_B72 o hnL n k0 a1 a2 a3 q56.1 q56.2 z hr h
        · have h := xif h c58
          exact x_vreturn (pc := 20) o hr dX6_useTool_20 (Option.some.inj h)
def fX6_workStep_B77 (n : Nat) (k0 : Nat) (a1 : Int32) (a2 : Int32) (s0 : Nat) (s1 : Int32) (s2 : Int32) (S : xSt) : Option (xSt) :=
  (xas tC s0 s1 s2 S).bind fun S15 =>
  (xgF tC 6 2 k0 S15).bind fun r16 =>
  (xgM tC 6 4 k0 S15).bind fun r17 =>
  (xgM tC 6 5 k0 S15).bind fun r18 =>
  (xgF tC 8 7 r18 S15).bind fun r19 =>
  (xal tC r19 a1 S15).bind fun v20 =>
  (fX9_hoursOfStep r17 a1 v20 S15).bind fun v21 =>
  (xas tC r16 ((3 : Int32)) v21 S15).bind fun S22 =>
  (xgF tC 6 2 k0 S22).bind fun r23 =>
  (xgM tC 6 5 k0 S22).bind fun r24 =>
  (xgM tC 6 4 k0 S22).bind fun r25 =>
  (fX8_daysLate r24 a1 r25 S22).bind fun v26 =>
  (xas tC r23 ((5 : Int32)) v26 S22).bind fun S27 =>
  (xgF tC 6 2 k0 S27).bind fun r28 =>
  (xgI tC 6 7 k0 S27).bind fun v29 =>
  (fJ6_bitCount_0f7a4 v29 S27).bind fun v30 =>
  (xas tC r28 ((7 : Int32)) v30 S27).bind fun S31 =>
  (fX6_chooseTool n k0 a2 S31).bind fun q32 =>
  if q32.1 = ((-1 : Int32)) then
  (some q32.2)
else
  ((fX6_chooseHand n k0 q32.1 q32.2).bind fun v33 =>
  (fX6_useTool n k0 a1 q32.1 v33 q32.2).bind fun S34 =>
  some S34)
set_option maxHeartbeats 4000000 in
theorem tX6_workStep_B77 {Γ : xGm} {M : xMg} (o : xOk Γ tC M 4 cX6_workStep RX6) (hnL : Γ.2.2.2 = 4) (n : Nat) (k0 : Nat) (a1 : Int32) (a2 : Int32) (s0 : Nat) (s1 : Int32) (s2 : Int32) (S : xSt) (z : (xSt)) (hr : xRV Γ tC M none z) (h : fX6_workStep_B77 n k0 a1 a2 s0 s1 s2 S = some z) : xAt Γ tC M 77 (xlv [(0, .ref (M.2.1 k0)), (1, .int a1), (2, .int a2)]) [.int s2, .int s1, .ref (M.2.1 s0)] S := by
  have hn3 : 3 < Γ.2.2.2 := by omega
  unfold fX6_workStep_B77 at h
  obtain ⟨S15, hS15, h⟩ := xbs h
  refine x_iastore (pc := 77) o dX6_workStep_77 hS15 ?_
  refine x_aload_n (pc := 78) o dX6_workStep_78 rfl rfl ?_
  obtain ⟨r16, hr16, h⟩ := xbs h
  refine gX6_20 (pc := 79) o dX6_workStep_79 hr16 ?_
  refine x_iconst (pc := 82) o dX6_workStep_82 ic_3 ?_
  refine x_aload_n (pc := 83) o dX6_workStep_83 rfl rfl ?_
  obtain ⟨r17, hr17, h⟩ := xbs h
  refine gX6_23 (pc := 84) o dX6_workStep_84 hr17 ?_
  refine x_iload_n (pc := 87) o dX6_workStep_87 rfl rfl ?_
  refine x_aload_n (pc := 88) o dX6_workStep_88 rfl rfl ?_
  obtain ⟨r18, hr18, h⟩ := xbs h
  refine gX6_27 (pc := 89) o dX6_workStep_89 hr18 ?_
  obtain ⟨r19, hr19, h⟩ := xbs h
  refine gX6_108 (pc := 92) o dX6_workStep_92 hr19 ?_
  refine x_iload_n (pc := 95) o dX6_workStep_95 rfl rfl ?_
  obtain ⟨v20, hv20, h⟩ := xbs h
  refine x_iaload (pc := 96) o dX6_workStep_96 hv20 ?_
  obtain ⟨v21, hv21, h⟩ := xbs h
  refine x_callI (pc := 97) (As := [.int a1, .int v20]) (b := r17) (rest := [.int ((3 : Int32)), .ref (M.2.1 r16)]) o (tX9_hoursOfStep _ M _ r17 a1 v20 S15 v21 hv21) eX9_hoursOfStep mX6_118 clX9 (kX9_hoursOfStep hv21) (by decide) rfl rfl (Nat.le_of_ble_eq_true rfl) dX6_workStep_97 ?_
  obtain ⟨S22, hS22, h⟩ := xbs h
  refine x_iastore (pc := 100) o dX6_workStep_100 hS22 ?_
  refine x_aload_n (pc := 101) o dX6_workStep_101 rfl rfl ?_
  obtain ⟨r23, hr23, h⟩ := xbs h
  refine gX6_20 (pc := 102) o dX6_workStep_102 hr23 ?_
  refine x_iconst (pc := 105) o dX6_workStep_105 ic_5 ?_
  refine x_aload_n (pc := 106) o dX6_workStep_106 rfl rfl ?_
  obtain ⟨r24, hr24, h⟩ := xbs h
  refine gX6_27 (pc := 107) o dX6_workStep_107 hr24 ?_
  refine x_iload_n (pc := 110) o dX6_workStep_110 rfl rfl ?_
  refine x_aload_n (pc := 111) o dX6_workStep_111 rfl rfl ?_
  obtain ⟨r25, hr25, h⟩ := xbs h
  refine gX6_23 (pc := 112) o dX6_workStep_112 hr25 ?_
  obtain ⟨v26, hv26, h⟩ := xbs h
  refine x_callI (pc := 115) (As := [.int a1, .ref (M.2.1 r25)]) (b := r24) (rest := [.int ((5 : Int32)), .ref (M.2.1 r23)]) o (tX8_daysLate _ M _ r24 a1 r25 S22 v26 hv26) eX8_daysLate mX6_121 clX8 (kX8_daysLate hv26) (by decide) rfl rfl (Nat.le_of_ble_eq_true rfl) dX6_workStep_115 ?_
  obtain ⟨S27, hS27, h⟩ := xbs h
  refine x_iastore (pc := 118) o dX6_workStep_118 hS27 ?_
  refine x_aload_n (pc := 119) o dX6_workStep_119 rfl rfl ?_
  obtain ⟨r28, hr28, h⟩ := xbs h
  refine gX6_20 (pc := 120) o dX6_workStep_120 hr28 ?_
  refine x_bipush (pc := 123) o dX6_workStep_123 bp_7 ?_
  refine x_aload_n (pc := 125) o dX6_workStep_125 rfl rfl ?_
  obtain ⟨v29, hv29, h⟩ := xbs h
  refine gX6_60 (pc := 126) o dX6_workStep_126 hv29 ?_
  obtain ⟨v30, hv30, h⟩ := xbs h
  refine x_statI (pc := 129) (As := [.int v29]) (rest := [.int ((7 : Int32)), .ref (M.2.1 r28)]) o (tJ6_bitCount_0f7a4 _ M _ v29 S27 v30 hv30) eJ6_bitCount_0f7a4 mX6_125 (by decide) rfl rfl (Nat.le_of_ble_eq_true rfl) dX6_workStep_129 ?_
  obtain ⟨S31, hS31, h⟩ := xbs h
  refine x_iastore (pc := 132) o dX6_workStep_132 hS31 ?_
  refine x_aload_n (pc := 133) o dX6_workStep_133 rfl rfl ?_
  refine x_iload_n (pc := 134) o dX6_workStep_134 rfl rfl ?_
  obtain ⟨q32, hq32, h⟩ := xbs h
  refine x_callI (pc := 135) (As := [.int a2]) (b := k0) (rest := []) o (tX6_chooseTool _ M _ n k0 a2 S31 q32 hq32) eX6_chooseTool mX6_130 clX6 (kX6_chooseTool hq32) (by decide) rfl rfl (Nat.le_of_ble_eq_true rfl) dX6_workStep_135 ?_
  refine x_istore_n (pc := 138) o dX6_workStep_138 rfl hn3 ?_
  refine x_iload_n (pc := 139) o dX6_workStep_139 rfl rfl ?_
  refine x_iconst (pc := 140) o dX6_workStep_140 ic_m1 ?_
  refine x_icmp_eq (pc := 141) (tgt := 155) o dX6_workStep_141 (by decide) (fun c35 => ?_) (fun c35 => ?_)
  · have h := xit h c35
    exact x_vreturn (pc := 155) o hr dX6_workStep_155 (Option.some.inj h)
  · have h := xif h c35
    refine x_aload_n (pc := 144) o dX6_workStep_144 rfl rfl ?_
    refine x_iload_n (pc := 145) o dX6_workStep_145 rfl rfl ?_
    refine x_iload_n (pc := 146) o dX6_workStep_146 rfl rfl ?_
    refine x_aload_n (pc := 147) o dX6_workStep_147 rfl rfl ?_
    refine x_iload_n (pc := 148) o dX6_workStep_148 rfl rfl ?_
    obtain ⟨v33, hv33, h⟩ := xbs h
    refine x_callI (pc := 149) (As := [.int q32.1]) (b := k0) (rest := [.int q32.1, .int a1, .ref (M.2.1 k0)]) o (tX6_chooseHand _ M _ n k0 q32.1 q32.2 v33 hv33) eX6_chooseHand mX6_133 clX6 (kX6_chooseHand hv33) (by decide) rfl rfl (Nat.le_of_ble_eq_true rfl) dX6_workStep_149 ?_
    obtain ⟨S34, hS34, h⟩ := xbs h
    refine x_callV (pc := 152) (As := [.int a1, .int q32.1, .int v33]) (b := k0) (rest := []) o (tX6_useTool _ M _ n k0 a1 q32.1 v33 q32.2 S34 hS34) eX6_useTool mX6_136 clX6 (kX6_useTool hS34) (by decide) rfl rfl (Nat.le_of_ble_eq_true rfl) dX6_workStep_152 ?_
    exact x_vreturn (pc := 155) o hr dX6_workStep_155 (Option.some.inj h)
def fX6_workStep (n : Nat) (k0 : Nat) (a1 : Int32) (S : xSt) : Option (xSt) :=
  if tC.1 k0 = 6 then
  ((xgM tC 6 4 k0 S).bind fun r1 =>
  (fX9_holds r1 ((3 : Int32)) a1 S).bind fun v2 =>
  if v2 = 0 then
  (some S)
else
  ((xgM tC 6 5 k0 S).bind fun r3 =>
  (xgM tC 6 4 k0 S).bind fun r4 =>
  (fX8_isFinished r3 a1 r4 S).bind fun v5 =>
  if v5 = 0 then
  ((xgM tC 6 4 k0 S).bind fun r6 =>
  (xgM tC 6 5 k0 S).bind fun r7 =>
  (xgF tC 8 7 r7 S).bind fun r8 =>
  (xal tC r8 a1 S).bind fun v9 =>
  (fX9_kindOfStep r6 a1 v9 S).bind fun v10 =>
  (xgM tC 6 4 k0 S).bind fun r11 =>
  (fX9_holds r11 ((0 : Int32)) v10 S).bind fun v12 =>
  if v12 = 0 then
  (some S)
else
  ((xgF tC 6 2 k0 S).bind fun r13 =>
  (fX6_isResting k0 v10 S).bind fun v14 =>
  if v14 = 0 then
  (fX6_workStep_B77 n k0 a1 v10 r13 ((0 : Int32)) ((0 : Int32)) S)
else
  (fX6_workStep_B77 n k0 a1 v10 r13 ((0 : Int32)) ((1 : Int32)) S)))
else
  (some S)))
  else none
theorem kX6_workStep {z : xSt} {n : Nat} {k0 : Nat} {a1 : Int32} {S : xSt} (h : fX6_workStep n k0 a1 S = some z) : tC.1 k0 = 6 := by
  unfold fX6_workStep at h
  exact (xck h).1
set_option maxHeartbeats 4000000 in
theorem tX6_workStep (l : Launch) (M : xMg) (A : Nat → Prop) (n : Nat) (k0 : Nat) (a1 : Int32) (S : xSt) (z : xSt) (h : fX6_workStep n k0 a1 S = some z) : xMV l yX6_workStep cX6_workStep 4 none 4 tC M A [.ref (M.2.1 k0), .int a1] S z := by
  refine x_metV (plainFor_of_name (by decide)) tC_ok (Nat.le_of_ble_eq_true rfl) (fun Γ hA hnL hl hr o => ?_)
  subst hA; subst hl
  have o : xOk Γ tC M 4 cX6_workStep RX6 := o
  unfold fX6_workStep at h
  obtain ⟨hk0, h⟩ := xck h
  refine x_to (l := [(0, .ref (M.2.1 k0)), (1, .int a1)]) ⟨rfl, rfl, trivial⟩ ?_
  have hn2 : 2 < Γ.2.2.2 := by omega
  refine x_aload_n (pc := 0) o dX6_workStep_0 rfl rfl ?_
  obtain ⟨r1, hr1, h⟩ := xbs h
  refine gX6_23 (pc := 1) o dX6_workStep_1 hr1 ?_
  refine x_iconst (pc := 4) o dX6_workStep_4 ic_3 ?_
  refine x_iload_n (pc := 5) o dX6_workStep_5 rfl rfl ?_
  obtain ⟨v2, hv2, h⟩ := xbs h
  refine x_callI (pc := 6) (As := [.int ((3 : Int32)), .int a1]) (b := r1) (rest := []) o (tX9_holds _ M _ r1 ((3 : Int32)) a1 S v2 hv2) eX9_holds mX6_100 clX9 (kX9_holds hv2) (by decide) rfl rfl (Nat.le_of_ble_eq_true rfl) dX6_workStep_6 ?_
  refine x_if_eq (pc := 9) (tgt := 27) o dX6_workStep_9 (by decide) (fun c39 => ?_) (fun c39 => ?_)
  · have h := xit h c39
    exact x_vreturn (pc := 27) o hr dX6_workStep_27 (Option.some.inj h)
  · have h := xif h c39
    refine x_aload_n (pc := 12) o dX6_workStep_12 rfl rfl ?_
    obtain ⟨r3, hr3, h⟩ := xbs h
    refine gX6_27 (pc := 13) o dX6_workStep_13 hr3 ?_
    refine x_iload_n (pc := 16) o dX6_workStep_16 rfl rfl ?_
    refine x_aload_n (pc := 17) o dX6_workStep_17 rfl rfl ?_
    obtain ⟨r4, hr4, h⟩ := xbs h
    refine gX6_23 (pc := 18) o dX6_workStep_18 hr4 ?_
    obtain ⟨v5, hv5, h⟩ := xbs h
    refine x_callI (pc := 21) (As := [.int a1, .ref (M.2.1 r4)]) (b := r3) (rest := []) o (tX8_isFinished _ M _ r3 a1 r4 S v5 hv5) eX8_isFinished mX6_104 clX8 (kX8_isFinished hv5) (by decide) rfl rfl (Nat.le_of_ble_eq_true rfl) dX6_workStep_21 ?_
    refine x_if_eq (pc := 24) (tgt := 28) o dX6_workStep_24 (by decide) (fun c38 => ?_) (fun c38 => ?_)
    · have h := xit h c38
      refine x_aload_n (pc := 28) o dX6_workStep_28 rfl rfl ?_
      obtain ⟨r6, hr6, h⟩ := xbs h
      refine gX6_23 (pc := 29) o dX6_workStep_29 hr6 ?_
      refine x_iload_n (pc := 32) o dX6_workStep_32 rfl rfl ?_
      refine x_aload_n (pc := 33) o dX6_workStep_33 rfl rfl ?_
      obtain ⟨r7, hr7, h⟩ := xbs h
      refine gX6_27 (pc := 34) o dX6_workStep_34 hr7 ?_
      obtain ⟨r8, hr8, h⟩ := xbs h
      refine gX6_108 (pc := 37) o dX6_workStep_37 hr8 ?_
      refine x_iload_n (pc := 40) o dX6_workStep_40 rfl rfl ?_
      obtain ⟨v9, hv9, h⟩ := xbs h
      refine x_iaload (pc := 41) o dX6_workStep_41 hv9 ?_
      obtain ⟨v10, hv10, h⟩ := xbs h
      refine x_callI (pc := 42) (As := [.int a1, .int v9]) (b := r6) (rest := []) o (tX9_kindOfStep _ M _ r6 a1 v9 S v10 hv10) eX9_kindOfStep mX6_111 clX9 (kX9_kindOfStep hv10) (by decide) rfl rfl (Nat.le_of_ble_eq_true rfl) dX6_workStep_42 ?_
      refine x_istore_n (pc := 45) o dX6_workStep_45 rfl hn2 ?_
      refine x_aload_n (pc := 46) o dX6_workStep_46 rfl rfl ?_
      obtain ⟨r11, hr11, h⟩ := xbs h
      refine gX6_23 (pc := 47) o dX6_workStep_47 hr11 ?_
      refine x_iconst (pc := 50) o dX6_workStep_50 ic_0 ?_
      refine x_iload_n (pc := 51) o dX6_workStep_51 rfl rfl ?_
      obtain ⟨v12, hv12, h⟩ := xbs h
      refine x_callI (pc := 52) (As := [.int ((0 : Int32)), .int v10]) (b := r11) (rest := []) o (tX9_holds _ M _ r11 ((0 : Int32)) v10 S v12 hv12) eX9_holds mX6_100 clX9 (kX9_holds hv12) (by decide) rfl rfl (Nat.le_of_ble_eq_true rfl) dX6_workStep_52 ?_
      refine x_if_ne (pc := 55) (tgt := 59) o dX6_workStep_55 (by decide) (fun c37 => ?_) (fun c37 => ?_)
      · have h := xif h c37
        refine x_aload_n (pc := 59) o dX6_workStep_59 rfl rfl ?_
        obtain ⟨r13, hr13, h⟩ := xbs h
        refine gX6_20 (pc := 60) o dX6_workStep_60 hr13 ?_
        refine x_iconst (pc := 63) o dX6_workStep_63 ic_0 ?_
        refine x_aload_n (pc := 64) o dX6_workStep_64 rfl rfl ?_
        refine x_iload_n (pc := 65) o dX6_workStep_65 rfl rfl ?_
        obtain ⟨v14, hv14, h⟩ := xbs h
        refine x_callI (pc := 66) (As := [.int v10]) (b := k0) (rest := [.int ((0 : Int32)), .ref (M.2.1 r13)]) o (tX6_isResting _ M _ k0 v10 S v14 hv14) eX6_isResting mX6_114 clX6 (kX6_isResting hv14) (by decide) rfl rfl (Nat.le_of_ble_eq_true rfl) dX6_workStep_66 ?_
        refine x_if_eq (pc := 69) (tgt := 76) o dX6_workStep_69 (by decide) (fun c36 => ?_) (fun c36 => ?_)
        · have h := xit h c36
          refine x_iconst (pc := 76) o dX6_workStep_76 ic_0 ?_
          refine x_to (l := [(0, .ref (M.2.1 k0)), (1, .int a1), (2, .int v10)]) ⟨rfl, rfl, rfl, trivial⟩ ?_
          exact tX6_workStep_B77 o hnL n k0 a1 v10 r13 ((0 : Int32)) ((0 : Int32)) S z hr h
        · have h := xif h c36
          refine x_iconst (pc := 72) o dX6_workStep_72 ic_1 ?_
          refine x_goto (pc := 73) (tgt := 77) o dX6_workStep_73 (by decide) ?_
          refine x_to (l := [(0, .ref (M.2.1 k0)), (1, .int a1), (2, .int v10)]) ⟨rfl, rfl, rfl, trivial⟩ ?_
          exact tX6_workStep_B77 o hnL n k0 a1 v10 r13 ((0 : Int32)) ((1 : Int32)) S z hr h
      · have h := xit h c37
        exact x_vreturn (pc := 58) o hr dX6_workStep_58 (Option.some.inj h)
    · have h := xif h c38
      exact x_vreturn (pc := 27) o hr dX6_workStep_27 (Option.some.inj h)
def fX6_payForLate_L2b (n : Nat) (k0 : Nat) (rec : Int32 → xSt → Option (xSt)) (a1 : Int32) (S : xSt) : Option (xSt) :=
  (xgM tC 6 4 k0 S).bind fun r1 =>
  (fX9_count r1 ((3 : Int32)) S).bind fun v2 =>
  if v2 ≤ a1 then
  (some S)
else
  ((xgM tC 6 5 k0 S).bind fun r3 =>
  (xgM tC 6 4 k0 S).bind fun r4 =>
  (fX8_daysLate r3 a1 r4 S).bind fun v5 =>
  (xgI tC 6 9 k0 S).bind fun v6 =>
  (xpI tC 6 9 k0 (v6 + v5) S).bind fun S7 =>
  if v5 ≤ 0 then
  ((some (a1 + (1 : Int32))).bind fun v8 =>
  rec v8 S7)
else
  ((xgM tC 6 5 k0 S7).bind fun r9 =>
  (xgM tC 6 4 k0 S7).bind fun r10 =>
  (xgI tC 9 17 r10 S7).bind fun v11 =>
  (fX8_pay r9 v11 S7).bind fun S12 =>
  (some (a1 + (1 : Int32))).bind fun v13 =>
  rec v13 S12))
def fX6_payForLate_L2 (n : Nat) (k0 : Nat) : Nat → Int32 → xSt → Option (xSt)
  | 0 => fun _ _ => none
  | q + 1 => fX6_payForLate_L2b n k0 (fX6_payForLate_L2 n k0 q)
set_option maxHeartbeats 4000000 in
theorem tX6_payForLate_L2b {Γ : xGm} {M : xMg} (o : xOk Γ tC M 3 cX6_payForLate RX6) (hnL : Γ.2.2.2 = 3) {rec : Int32 → xSt → Option (xSt)} (n : Nat) (k0 : Nat) (a1 : Int32) (S : xSt) (z : (xSt)) (hrec : ∀ (a1 : Int32) (S : xSt), rec a1 S = some z → xAt Γ tC M 2 (xlv [(0, .ref (M.2.1 k0)), (1, .int a1)]) [] S) (K : xAt Γ tC M 61 (xlv []) [] z) (h : fX6_payForLate_L2b n k0 rec a1 S = some z) : xAt Γ tC M 2 (xlv [(0, .ref (M.2.1 k0)), (1, .int a1)]) [] S := by
  have hn1 : 1 < Γ.2.2.2 := by omega
  have hn2 : 2 < Γ.2.2.2 := by omega
  unfold fX6_payForLate_L2b at h
  refine x_iload_n (pc := 2) o dX6_payForLate_2 rfl rfl ?_
  refine x_aload_n (pc := 3) o dX6_payForLate_3 rfl rfl ?_
  obtain ⟨r1, hr1, h⟩ := xbs h
  refine gX6_23 (pc := 4) o dX6_payForLate_4 hr1 ?_
  refine x_iconst (pc := 7) o dX6_payForLate_7 ic_3 ?_
  obtain ⟨v2, hv2, h⟩ := xbs h
  refine x_callI (pc := 8) (As := [.int ((3 : Int32))]) (b := r1) (rest := [.int a1]) o (tX9_count _ M _ r1 ((3 : Int32)) S v2 hv2) eX9_count mX6_71 clX9 (kX9_count hv2) (by decide) rfl rfl (Nat.le_of_ble_eq_true rfl) dX6_payForLate_8 ?_
  refine x_icmp_ge (pc := 11) (tgt := 61) o dX6_payForLate_11 (by decide) (fun c15 => ?_) (fun c15 => ?_)
  · have h := xit h c15
    refine x_to (l := []) trivial ?_
    cases Option.some.inj h
    exact K
  · have h := xif h c15
    refine x_aload_n (pc := 14) o dX6_payForLate_14 rfl rfl ?_
    obtain ⟨r3, hr3, h⟩ := xbs h
    refine gX6_27 (pc := 15) o dX6_payForLate_15 hr3 ?_
    refine x_iload_n (pc := 18) o dX6_payForLate_18 rfl rfl ?_
    refine x_aload_n (pc := 19) o dX6_payForLate_19 rfl rfl ?_
    obtain ⟨r4, hr4, h⟩ := xbs h
    refine gX6_23 (pc := 20) o dX6_payForLate_20 hr4 ?_
    obtain ⟨v5, hv5, h⟩ := xbs h
    refine x_callI (pc := 23) (As := [.int a1, .ref (M.2.1 r4)]) (b := r3) (rest := []) o (tX8_daysLate _ M _ r3 a1 r4 S v5 hv5) eX8_daysLate mX6_121 clX8 (kX8_daysLate hv5) (by decide) rfl rfl (Nat.le_of_ble_eq_true rfl) dX6_payForLate_23 ?_
    refine x_istore_n (pc := 26) o dX6_payForLate_26 rfl hn2 ?_
    refine x_aload_n (pc := 27) o dX6_payForLate_27 rfl rfl ?_
    refine x_dup (pc := 28) o dX6_payForLate_28 rfl ?_
    obtain ⟨v6, hv6, h⟩ := xbs h
    refine gX6_50 (pc := 29) o dX6_payForLate_29 hv6 ?_
    refine x_iload_n (pc := 32) o dX6_payForLate_32 rfl rfl ?_
    refine x_iadd (pc := 33) o dX6_payForLate_33 ?_
    obtain ⟨S7, hS7, h⟩ := xbs h
    refine pX6_50 (pc := 34) o dX6_payForLate_34 hS7 ?_
    refine x_iload_n (pc := 37) o dX6_payForLate_37 rfl rfl ?_
    refine x_if_le (pc := 38) (tgt := 55) o dX6_payForLate_38 (by decide) (fun c14 => ?_) (fun c14 => ?_)
    · have h := xit h c14
      obtain ⟨v8, hv8, h⟩ := xbs h
      refine x_iincE (pc := 55) o dX6_payForLate_55 rfl ic_1 hn1 hv8 ?_
      refine x_goto (pc := 58) (tgt := 2) o dX6_payForLate_58 (by decide) ?_
      refine x_to (l := [(0, .ref (M.2.1 k0)), (1, .int v8)]) ⟨rfl, rfl, trivial⟩ ?_
      exact hrec v8 S7 h
    · have h := xif h c14
      refine x_aload_n (pc := 41) o dX6_payForLate_41 rfl rfl ?_
      obtain ⟨r9, hr9, h⟩ := xbs h
      refine gX6_27 (pc := 42) o dX6_payForLate_42 hr9 ?_
      refine x_aload_n (pc := 45) o dX6_payForLate_45 rfl rfl ?_
      obtain ⟨r10, hr10, h⟩ := xbs h
      refine gX6_23 (pc := 46) o dX6_payForLate_46 hr10 ?_
      obtain ⟨v11, hv11, h⟩ := xbs h
      refine gX6_189 (pc := 49) o dX6_payForLate_49 hv11 ?_
      obtain ⟨S12, hS12, h⟩ := xbs h
      refine x_callV (pc := 52) (As := [.int v11]) (b := r9) (rest := []) o (tX8_pay _ M _ r9 v11 S7 S12 hS12) eX8_pay mX6_192 clX8 (kX8_pay hS12) (by decide) rfl rfl (Nat.le_of_ble_eq_true rfl) dX6_payForLate_52 ?_
      obtain ⟨v13, hv13, h⟩ := xbs h
      refine x_iincE (pc := 55) o dX6_payForLate_55 rfl ic_1 hn1 hv13 ?_
      refine x_goto (pc := 58) (tgt := 2) o dX6_payForLate_58 (by decide) ?_
      refine x_to (l := [(0, .ref (M.2.1 k0)), (1, .int v13)]) ⟨rfl, rfl, trivial⟩ ?_
      exact hrec v13 S12 h
theorem tX6_payForLate_L2 {Γ : xGm} {M : xMg} (o : xOk Γ tC M 3 cX6_payForLate RX6) (hnL : Γ.2.2.2 = 3) (n : Nat) (k0 : Nat) (z : (xSt)) (K : xAt Γ tC M 61 (xlv []) [] z) : ∀ (q : Nat) (a1 : Int32) (S : xSt), fX6_payForLate_L2 n k0 q a1 S = some z → xAt Γ tC M 2 (xlv [(0, .ref (M.2.1 k0)), (1, .int a1)]) [] S := by
  intro q
  induction q with
  | zero => intro a1 S h; cases h
  | succ q ih => intro a1 S h; exact tX6_payForLate_L2b o hnL n k0 a1 S z ih K h
def fX6_payForLate (n : Nat) (k0 : Nat) (S : xSt) : Option (xSt) :=
  if tC.1 k0 = 6 then
  ((fX6_payForLate_L2 n k0 n ((0 : Int32)) S).bind fun z16 => some z16)
  else none
theorem kX6_payForLate {z : xSt} {n : Nat} {k0 : Nat} {S : xSt} (h : fX6_payForLate n k0 S = some z) : tC.1 k0 = 6 := by
  unfold fX6_payForLate at h
  exact (xck h).1
set_option maxHeartbeats 4000000 in
theorem tX6_payForLate (l : Launch) (M : xMg) (A : Nat → Prop) (n : Nat) (k0 : Nat) (S : xSt) (z : xSt) (h : fX6_payForLate n k0 S = some z) : xMV l yX6_payForLate cX6_payForLate 3 none 3 tC M A [.ref (M.2.1 k0)] S z := by
  refine x_metV (plainFor_of_name (by decide)) tC_ok (Nat.le_of_ble_eq_true rfl) (fun Γ hA hnL hl hr o => ?_)
  subst hA; subst hl
  have o : xOk Γ tC M 3 cX6_payForLate RX6 := o
  unfold fX6_payForLate at h
  obtain ⟨hk0, h⟩ := xck h
  refine x_to (l := [(0, .ref (M.2.1 k0))]) ⟨rfl, trivial⟩ ?_
  have hn1 : 1 < Γ.2.2.2 := by omega
  refine x_iconst (pc := 0) o dX6_payForLate_0 ic_0 ?_
  refine x_istore_n (pc := 1) o dX6_payForLate_1 rfl hn1 ?_
  obtain ⟨z16, hz16, h⟩ := xbs h
  refine x_to (l := [(0, .ref (M.2.1 k0)), (1, .int ((0 : Int32)))]) ⟨rfl, rfl, trivial⟩ ?_
  refine tX6_payForLate_L2 o hnL n k0 z16 ?_ n ((0 : Int32)) S hz16
  exact x_vreturn (pc := 61) o hr dX6_payForLate_61 (Option.some.inj h)
def fX6_passDay_L37b (n : Nat) (k0 : Nat) (rec : Int32 → xSt → Option (xSt)) (a2 : Int32) (S : xSt) : Option (xSt) :=
  (xgM tC 6 4 k0 S).bind fun r10 =>
  (fX9_count r10 ((3 : Int32)) S).bind fun v11 =>
  if v11 ≤ a2 then
  (some S)
else
  ((xgF tC 6 1 k0 S).bind fun r12 =>
  (xal tC r12 a2 S).bind fun v13 =>
  (fX6_workStep n k0 v13 S).bind fun S14 =>
  (some (a2 + (1 : Int32))).bind fun v15 =>
  rec v15 S14)
def fX6_passDay_L37 (n : Nat) (k0 : Nat) : Nat → Int32 → xSt → Option (xSt)
  | 0 => fun _ _ => none
  | q + 1 => fX6_passDay_L37b n k0 (fX6_passDay_L37 n k0 q)
set_option maxHeartbeats 4000000 in
theorem tX6_passDay_L37b {Γ : xGm} {M : xMg} (o : xOk Γ tC M 5 cX6_passDay RX6) (hnL : Γ.2.2.2 = 3) {rec : Int32 → xSt → Option (xSt)} (n : Nat) (k0 : Nat) (a2 : Int32) (S : xSt) (z : (xSt)) (hrec : ∀ (a2 : Int32) (S : xSt), rec a2 S = some z → xAt Γ tC M 37 (xlv [(0, .ref (M.2.1 k0)), (2, .int a2)]) [] S) (K : xAt Γ tC M 65 (xlv [(0, .ref (M.2.1 k0))]) [] z) (h : fX6_passDay_L37b n k0 rec a2 S = some z) : xAt Γ tC M 37 (xlv [(0, .ref (M.2.1 k0)), (2, .int a2)]) [] S := by
  have hn2 : 2 < Γ.2.2.2 := by omega
  unfold fX6_passDay_L37b at h
  refine x_iload_n (pc := 37) o dX6_passDay_37 rfl rfl ?_
  refine x_aload_n (pc := 38) o dX6_passDay_38 rfl rfl ?_
  obtain ⟨r10, hr10, h⟩ := xbs h
  refine gX6_23 (pc := 39) o dX6_passDay_39 hr10 ?_
  refine x_iconst (pc := 42) o dX6_passDay_42 ic_3 ?_
  obtain ⟨v11, hv11, h⟩ := xbs h
  refine x_callI (pc := 43) (As := [.int ((3 : Int32))]) (b := r10) (rest := [.int a2]) o (tX9_count _ M _ r10 ((3 : Int32)) S v11 hv11) eX9_count mX6_71 clX9 (kX9_count hv11) (by decide) rfl rfl (Nat.le_of_ble_eq_true rfl) dX6_passDay_43 ?_
  refine x_icmp_ge (pc := 46) (tgt := 65) o dX6_passDay_46 (by decide) (fun c16 => ?_) (fun c16 => ?_)
  · have h := xit h c16
    refine x_to (l := [(0, .ref (M.2.1 k0))]) ⟨rfl, trivial⟩ ?_
    cases Option.some.inj h
    exact K
  · have h := xif h c16
    refine x_aload_n (pc := 49) o dX6_passDay_49 rfl rfl ?_
    refine x_aload_n (pc := 50) o dX6_passDay_50 rfl rfl ?_
    obtain ⟨r12, hr12, h⟩ := xbs h
    refine gX6_15 (pc := 51) o dX6_passDay_51 hr12 ?_
    refine x_iload_n (pc := 54) o dX6_passDay_54 rfl rfl ?_
    obtain ⟨v13, hv13, h⟩ := xbs h
    refine x_iaload (pc := 55) o dX6_passDay_55 hv13 ?_
    obtain ⟨S14, hS14, h⟩ := xbs h
    refine x_callV (pc := 56) (As := [.int v13]) (b := k0) (rest := []) o (tX6_workStep _ M _ n k0 v13 S S14 hS14) eX6_workStep mX6_75 clX6 (kX6_workStep hS14) (by decide) rfl rfl (Nat.le_of_ble_eq_true rfl) dX6_passDay_56 ?_
    obtain ⟨v15, hv15, h⟩ := xbs h
    refine x_iincE (pc := 59) o dX6_passDay_59 rfl ic_1 hn2 hv15 ?_
    refine x_goto (pc := 62) (tgt := 37) o dX6_passDay_62 (by decide) ?_
    refine x_to (l := [(0, .ref (M.2.1 k0)), (2, .int v15)]) ⟨rfl, rfl, trivial⟩ ?_
    exact hrec v15 S14 h
theorem tX6_passDay_L37 {Γ : xGm} {M : xMg} (o : xOk Γ tC M 5 cX6_passDay RX6) (hnL : Γ.2.2.2 = 3) (n : Nat) (k0 : Nat) (z : (xSt)) (K : xAt Γ tC M 65 (xlv [(0, .ref (M.2.1 k0))]) [] z) : ∀ (q : Nat) (a2 : Int32) (S : xSt), fX6_passDay_L37 n k0 q a2 S = some z → xAt Γ tC M 37 (xlv [(0, .ref (M.2.1 k0)), (2, .int a2)]) [] S := by
  intro q
  induction q with
  | zero => intro a2 S h; cases h
  | succ q ih => intro a2 S h; exact tX6_passDay_L37b o hnL n k0 a2 S z ih K h
def fX6_passDay (n : Nat) (k0 : Nat) (a1 : Int32) (S : xSt) : Option (xSt) :=
  if tC.1 k0 = 6 then
  ((fX6_mend n k0 S).bind fun S1 =>
  (xpI tC 6 7 k0 ((0 : Int32)) S1).bind fun S2 =>
  (xpI tC 6 8 k0 ((0 : Int32)) S2).bind fun S3 =>
  (xgF tC 6 2 k0 S3).bind fun r4 =>
  (xgM tC 6 5 k0 S3).bind fun r5 =>
  (xgI tC 8 0 r5 S3).bind fun v6 =>
  (xas tC r4 ((4 : Int32)) v6 S3).bind fun S7 =>
  (xgF tC 6 2 k0 S7).bind fun r8 =>
  (xas tC r8 ((6 : Int32)) a1 S7).bind fun S9 =>
  (fX6_passDay_L37 n k0 n ((0 : Int32)) S9).bind fun z17 => (fX6_payForLate n k0 z17).bind fun S18 =>
  (xgM tC 6 5 k0 S18).bind fun r19 =>
  (xgM tC 6 5 k0 S18).bind fun r20 =>
  (xgI tC 8 0 r20 S18).bind fun v21 =>
  (some (if (v21 + ((1 : Int32))) < ((999 : Int32)) then (v21 + ((1 : Int32))) else ((999 : Int32)))).bind fun v22 =>
  (xpI tC 8 0 r19 v22 S18).bind fun S23 =>
  some S23)
  else none
theorem kX6_passDay {z : xSt} {n : Nat} {k0 : Nat} {a1 : Int32} {S : xSt} (h : fX6_passDay n k0 a1 S = some z) : tC.1 k0 = 6 := by
  unfold fX6_passDay at h
  exact (xck h).1
set_option maxHeartbeats 4000000 in
theorem tX6_passDay (l : Launch) (M : xMg) (A : Nat → Prop) (n : Nat) (k0 : Nat) (a1 : Int32) (S : xSt) (z : xSt) (h : fX6_passDay n k0 a1 S = some z) : xMV l yX6_passDay cX6_passDay 3 none 5 tC M A [.ref (M.2.1 k0), .int a1] S z := by
  refine x_metV (plainFor_of_name (by decide)) tC_ok (Nat.le_of_ble_eq_true rfl) (fun Γ hA hnL hl hr o => ?_)
  subst hA; subst hl
  have o : xOk Γ tC M 5 cX6_passDay RX6 := o
  unfold fX6_passDay at h
  obtain ⟨hk0, h⟩ := xck h
  refine x_to (l := [(0, .ref (M.2.1 k0)), (1, .int a1)]) ⟨rfl, rfl, trivial⟩ ?_
  have hn2 : 2 < Γ.2.2.2 := by omega
  refine x_aload_n (pc := 0) o dX6_passDay_0 rfl rfl ?_
  obtain ⟨S1, hS1, h⟩ := xbs h
  refine x_callV (pc := 1) (As := []) (b := k0) (rest := []) o (tX6_mend _ M _ n k0 S S1 hS1) eX6_mend mX6_57 clX6 (kX6_mend hS1) (by decide) rfl rfl (Nat.le_of_ble_eq_true rfl) dX6_passDay_1 ?_
  refine x_aload_n (pc := 4) o dX6_passDay_4 rfl rfl ?_
  refine x_iconst (pc := 5) o dX6_passDay_5 ic_0 ?_
  obtain ⟨S2, hS2, h⟩ := xbs h
  refine pX6_60 (pc := 6) o dX6_passDay_6 hS2 ?_
  refine x_aload_n (pc := 9) o dX6_passDay_9 rfl rfl ?_
  refine x_iconst (pc := 10) o dX6_passDay_10 ic_0 ?_
  obtain ⟨S3, hS3, h⟩ := xbs h
  refine pX6_63 (pc := 11) o dX6_passDay_11 hS3 ?_
  refine x_aload_n (pc := 14) o dX6_passDay_14 rfl rfl ?_
  obtain ⟨r4, hr4, h⟩ := xbs h
  refine gX6_20 (pc := 15) o dX6_passDay_15 hr4 ?_
  refine x_iconst (pc := 18) o dX6_passDay_18 ic_4 ?_
  refine x_aload_n (pc := 19) o dX6_passDay_19 rfl rfl ?_
  obtain ⟨r5, hr5, h⟩ := xbs h
  refine gX6_27 (pc := 20) o dX6_passDay_20 hr5 ?_
  obtain ⟨v6, hv6, h⟩ := xbs h
  refine gX6_66 (pc := 23) o dX6_passDay_23 hv6 ?_
  obtain ⟨S7, hS7, h⟩ := xbs h
  refine x_iastore (pc := 26) o dX6_passDay_26 hS7 ?_
  refine x_aload_n (pc := 27) o dX6_passDay_27 rfl rfl ?_
  obtain ⟨r8, hr8, h⟩ := xbs h
  refine gX6_20 (pc := 28) o dX6_passDay_28 hr8 ?_
  refine x_bipush (pc := 31) o dX6_passDay_31 bp_6 ?_
  refine x_iload_n (pc := 33) o dX6_passDay_33 rfl rfl ?_
  obtain ⟨S9, hS9, h⟩ := xbs h
  refine x_iastore (pc := 34) o dX6_passDay_34 hS9 ?_
  refine x_iconst (pc := 35) o dX6_passDay_35 ic_0 ?_
  refine x_istore_n (pc := 36) o dX6_passDay_36 rfl hn2 ?_
  obtain ⟨z17, hz17, h⟩ := xbs h
  refine x_to (l := [(0, .ref (M.2.1 k0)), (2, .int ((0 : Int32)))]) ⟨rfl, rfl, trivial⟩ ?_
  refine tX6_passDay_L37 o hnL n k0 z17 ?_ n ((0 : Int32)) S9 hz17
  refine x_aload_n (pc := 65) o dX6_passDay_65 rfl rfl ?_
  obtain ⟨S18, hS18, h⟩ := xbs h
  refine x_callV (pc := 66) (As := []) (b := k0) (rest := []) o (tX6_payForLate _ M _ n k0 z17 S18 hS18) eX6_payForLate mX6_79 clX6 (kX6_payForLate hS18) (by decide) rfl rfl (Nat.le_of_ble_eq_true rfl) dX6_passDay_66 ?_
  refine x_aload_n (pc := 69) o dX6_passDay_69 rfl rfl ?_
  obtain ⟨r19, hr19, h⟩ := xbs h
  refine gX6_27 (pc := 70) o dX6_passDay_70 hr19 ?_
  refine x_sipush (pc := 73) o dX6_passDay_73 sp_999 ?_
  refine x_aload_n (pc := 76) o dX6_passDay_76 rfl rfl ?_
  obtain ⟨r20, hr20, h⟩ := xbs h
  refine gX6_27 (pc := 77) o dX6_passDay_77 hr20 ?_
  obtain ⟨v21, hv21, h⟩ := xbs h
  refine gX6_66 (pc := 80) o dX6_passDay_80 hv21 ?_
  refine x_iconst (pc := 83) o dX6_passDay_83 ic_1 ?_
  refine x_iadd (pc := 84) o dX6_passDay_84 ?_
  obtain ⟨v22, hv22, h⟩ := xbs h
  refine x_mminE (pc := 85) o mX6_82 w_min1 w_min2 w_min3 (by decide) (Nat.le_of_ble_eq_true rfl) dX6_passDay_85 hv22 ?_
  obtain ⟨S23, hS23, h⟩ := xbs h
  refine pX6_66 (pc := 88) o dX6_passDay_88 hS23 ?_
  exact x_vreturn (pc := 91) o hr dX6_passDay_91 (Option.some.inj h)
def fX0_toolsOfNextDay (n : Nat) (k0 : Nat) (S : xSt) : Option (Int32 × xSt) :=
  if tC.1 k0 = 0 then
  ((xgF tC 0 2 k0 S).bind fun r1 =>
  (fX6_passDay n r1 ((0 : Int32)) S).bind fun S2 =>
  (xgF tC 0 2 k0 S2).bind fun r3 =>
  (xgI tC 6 7 r3 S2).bind fun v4 =>
  some (v4, S2))
  else none
theorem kX0_toolsOfNextDay {z : Int32 × xSt} {n : Nat} {k0 : Nat} {S : xSt} (h : fX0_toolsOfNextDay n k0 S = some z) : tC.1 k0 = 0 := by
  unfold fX0_toolsOfNextDay at h
  exact (xck h).1
set_option maxHeartbeats 4000000 in
theorem tX0_toolsOfNextDay (l : Launch) (M : xMg) (A : Nat → Prop) (n : Nat) (k0 : Nat) (S : xSt) (z : Int32 × xSt) (h : fX0_toolsOfNextDay n k0 S = some z) : xMI l yX0_toolsOfNextDay cX0_toolsOfNextDay 1 (some .int) 6 tC M A [.ref (M.2.1 k0)] S z.1 z.2 := by
  refine x_metI (plainFor_of_name (by decide)) tC_ok (Nat.le_of_ble_eq_true rfl) (fun Γ hA hnL hl hr o => ?_)
  subst hA; subst hl
  have o : xOk Γ tC M 6 cX0_toolsOfNextDay RX0 := o
  unfold fX0_toolsOfNextDay at h
  obtain ⟨hk0, h⟩ := xck h
  refine x_to (l := [(0, .ref (M.2.1 k0))]) ⟨rfl, trivial⟩ ?_
  refine x_aload_n (pc := 0) o dX0_toolsOfNextDay_0 rfl rfl ?_
  obtain ⟨r1, hr1, h⟩ := xbs h
  refine gX0_41 (pc := 1) o dX0_toolsOfNextDay_1 hr1 ?_
  refine x_iconst (pc := 4) o dX0_toolsOfNextDay_4 ic_0 ?_
  obtain ⟨S2, hS2, h⟩ := xbs h
  refine x_callV (pc := 5) (As := [.int ((0 : Int32))]) (b := r1) (rest := []) o (tX6_passDay _ M _ n r1 ((0 : Int32)) S S2 hS2) eX6_passDay mX0_62 clX6 (kX6_passDay hS2) (by decide) rfl rfl (Nat.le_of_ble_eq_true rfl) dX0_toolsOfNextDay_5 ?_
  refine x_aload_n (pc := 8) o dX0_toolsOfNextDay_8 rfl rfl ?_
  obtain ⟨r3, hr3, h⟩ := xbs h
  refine gX0_41 (pc := 9) o dX0_toolsOfNextDay_9 hr3 ?_
  obtain ⟨v4, hv4, h⟩ := xbs h
  refine gX0_66 (pc := 12) o dX0_toolsOfNextDay_12 hv4 ?_
  exact x_ireturn (pc := 15) o hr dX0_toolsOfNextDay_15 (xr1 h) (xr2 h)
def fX8_isAllFinished_L2b (n : Nat) (k0 : Nat) (k1 : Nat) (S : xSt) (rec : Int32 → Option ((Unit) ⊕ (Int32))) (a2 : Int32) : Option ((Unit) ⊕ (Int32)) :=
  (fX9_count k1 ((3 : Int32)) S).bind fun v1 =>
  if v1 ≤ a2 then
  (some (.inl ()))
else
  ((fX8_isFinished k0 a2 k1 S).bind fun v2 =>
  if v2 = 0 then
  (some (.inr ((0 : Int32))))
else
  ((some (a2 + (1 : Int32))).bind fun v3 =>
  rec v3))
def fX8_isAllFinished_L2 (n : Nat) (k0 : Nat) (k1 : Nat) (S : xSt) : Nat → Int32 → Option ((Unit) ⊕ (Int32))
  | 0 => fun _ => none
  | q + 1 => fX8_isAllFinished_L2b n k0 k1 S (fX8_isAllFinished_L2 n k0 k1 S q)
set_option maxHeartbeats 4000000 in
theorem tX8_isAllFinished_L2b {Γ : xGm} {M : xMg} (o : xOk Γ tC M 2 cX8_isAllFinished RX8) (hnL : Γ.2.2.2 = 3) {rec : Int32 → Option ((Unit) ⊕ (Int32))} (n : Nat) (k0 : Nat) (k1 : Nat) (S : xSt) (a2 : Int32) (z : ((Unit) ⊕ (Int32))) (hrec : ∀ (a2 : Int32), rec a2 = some z → xAt Γ tC M 2 (xlv [(0, .ref (M.2.1 k0)), (1, .ref (M.2.1 k1)), (2, .int a2)]) [] S) (K : ∀ e, z = .inl e → xAt Γ tC M 28 (xlv []) [] S) (R : ∀ r, z = .inr r → xRI Γ tC M (some .boolean) r S) (h : fX8_isAllFinished_L2b n k0 k1 S rec a2 = some z) : xAt Γ tC M 2 (xlv [(0, .ref (M.2.1 k0)), (1, .ref (M.2.1 k1)), (2, .int a2)]) [] S := by
  have hn2 : 2 < Γ.2.2.2 := by omega
  unfold fX8_isAllFinished_L2b at h
  refine x_iload_n (pc := 2) o dX8_isAllFinished_2 rfl rfl ?_
  refine x_aload_n (pc := 3) o dX8_isAllFinished_3 rfl rfl ?_
  refine x_iconst (pc := 4) o dX8_isAllFinished_4 ic_3 ?_
  obtain ⟨v1, hv1, h⟩ := xbs h
  refine x_callI (pc := 5) (As := [.int ((3 : Int32))]) (b := k1) (rest := [.int a2]) o (tX9_count _ M _ k1 ((3 : Int32)) S v1 hv1) eX9_count mX8_62 clX9 (kX9_count hv1) (by decide) rfl rfl (Nat.le_of_ble_eq_true rfl) dX8_isAllFinished_5 ?_
  refine x_icmp_ge (pc := 8) (tgt := 28) o dX8_isAllFinished_8 (by decide) (fun c5 => ?_) (fun c5 => ?_)
  · have h := xit h c5
    refine x_to (l := []) trivial ?_
    exact K _ (Option.some.inj h).symm
  · have h := xif h c5
    refine x_aload_n (pc := 11) o dX8_isAllFinished_11 rfl rfl ?_
    refine x_iload_n (pc := 12) o dX8_isAllFinished_12 rfl rfl ?_
    refine x_aload_n (pc := 13) o dX8_isAllFinished_13 rfl rfl ?_
    obtain ⟨v2, hv2, h⟩ := xbs h
    refine x_callI (pc := 14) (As := [.int a2, .ref (M.2.1 k1)]) (b := k0) (rest := []) o (tX8_isFinished _ M _ k0 a2 k1 S v2 hv2) eX8_isFinished mX8_66 clX8 (kX8_isFinished hv2) (by decide) rfl rfl (Nat.le_of_ble_eq_true rfl) dX8_isAllFinished_14 ?_
    refine x_if_ne (pc := 17) (tgt := 22) o dX8_isAllFinished_17 (by decide) (fun c4 => ?_) (fun c4 => ?_)
    · have h := xif h c4
      obtain ⟨v3, hv3, h⟩ := xbs h
      refine x_iincE (pc := 22) o dX8_isAllFinished_22 rfl ic_1 hn2 hv3 ?_
      refine x_goto (pc := 25) (tgt := 2) o dX8_isAllFinished_25 (by decide) ?_
      refine x_to (l := [(0, .ref (M.2.1 k0)), (1, .ref (M.2.1 k1)), (2, .int v3)]) ⟨rfl, rfl, rfl, trivial⟩ ?_
      exact hrec v3 h
    · have h := xit h c4
      refine x_iconst (pc := 20) o dX8_isAllFinished_20 ic_0 ?_
      exact x_zreturn (pc := 21) o (R _ (Option.some.inj h).symm) dX8_isAllFinished_21 (by decide) rfl rfl
theorem tX8_isAllFinished_L2 {Γ : xGm} {M : xMg} (o : xOk Γ tC M 2 cX8_isAllFinished RX8) (hnL : Γ.2.2.2 = 3) (n : Nat) (k0 : Nat) (k1 : Nat) (S : xSt) (z : ((Unit) ⊕ (Int32))) (K : ∀ e, z = .inl e → xAt Γ tC M 28 (xlv []) [] S) (R : ∀ r, z = .inr r → xRI Γ tC M (some .boolean) r S) : ∀ (q : Nat) (a2 : Int32), fX8_isAllFinished_L2 n k0 k1 S q a2 = some z → xAt Γ tC M 2 (xlv [(0, .ref (M.2.1 k0)), (1, .ref (M.2.1 k1)), (2, .int a2)]) [] S := by
  intro q
  induction q with
  | zero => intro a2 h; cases h
  | succ q ih => intro a2 h; exact tX8_isAllFinished_L2b o hnL n k0 k1 S a2 z ih K R h
def fX8_isAllFinished (n : Nat) (k0 : Nat) (k1 : Nat) (S : xSt) : Option (Int32) :=
  if tC.1 k0 = 8 then
  ((fX8_isAllFinished_L2 n k0 k1 S n ((0 : Int32))).bind fun z6 => xel z6 (fun ez6 => some ((1 : Int32))) (fun r => some r))
  else none
theorem kX8_isAllFinished {z : Int32} {n : Nat} {k0 : Nat} {k1 : Nat} {S : xSt} (h : fX8_isAllFinished n k0 k1 S = some z) : tC.1 k0 = 8 := by
  unfold fX8_isAllFinished at h
  exact (xck h).1
set_option maxHeartbeats 4000000 in
theorem tX8_isAllFinished (l : Launch) (M : xMg) (A : Nat → Prop) (n : Nat) (k0 : Nat) (k1 : Nat) (S : xSt) (z : Int32) (h : fX8_isAllFinished n k0 k1 S = some z) : xMI l yX8_isAllFinished cX8_isAllFinished 3 (some .boolean) 2 tC M A [.ref (M.2.1 k0), .ref (M.2.1 k1)] S z S := by
  refine x_metI (plainFor_of_name (by decide)) tC_ok (Nat.le_of_ble_eq_true rfl) (fun Γ hA hnL hl hr o => ?_)
  subst hA; subst hl
  have o : xOk Γ tC M 2 cX8_isAllFinished RX8 := o
  unfold fX8_isAllFinished at h
  obtain ⟨hk0, h⟩ := xck h
  refine x_to (l := [(0, .ref (M.2.1 k0)), (1, .ref (M.2.1 k1))]) ⟨rfl, rfl, trivial⟩ ?_
  have hn2 : 2 < Γ.2.2.2 := by omega
  refine x_iconst (pc := 0) o dX8_isAllFinished_0 ic_0 ?_
  refine x_istore_n (pc := 1) o dX8_isAllFinished_1 rfl hn2 ?_
  obtain ⟨z6, hz6, h⟩ := xbs h
  refine x_to (l := [(0, .ref (M.2.1 k0)), (1, .ref (M.2.1 k1)), (2, .int ((0 : Int32)))]) ⟨rfl, rfl, rfl, trivial⟩ ?_
  refine tX8_isAllFinished_L2 o hnL n k0 k1 S z6 (fun ez6 he => ?_) (fun r he => ?_) n ((0 : Int32)) hz6
  · subst he; have h := xel_l h
    refine x_iconst (pc := 28) o dX8_isAllFinished_28 ic_1 ?_
    exact x_zreturn (pc := 29) o hr dX8_isAllFinished_29 (by decide) (Option.some.inj h) rfl
  · subst he; have h := xel_r h
    cases Option.some.inj h
    exact hr
def fX0_pass_L2b (n : Nat) (k0 : Nat) (a1 : Int32) (a2 : Int32) (rec : Int32 → xSt → Option (xSt)) (a3 : Int32) (S : xSt) : Option (xSt) :=
  if a1 ≤ a3 then
  (some S)
else
  ((xgF tC 0 2 k0 S).bind fun r1 =>
  (xgI tC 6 9 r1 S).bind fun v2 =>
  if a2 ≤ v2 then
  (some S)
else
  ((xgF tC 0 1 k0 S).bind fun r3 =>
  (xgM tC 0 3 k0 S).bind fun r4 =>
  (fX8_isAllFinished n r3 r4 S).bind fun v5 =>
  if v5 = 0 then
  ((xgF tC 0 2 k0 S).bind fun r6 =>
  (fX6_passDay n r6 ((0 : Int32)) S).bind fun S7 =>
  (some (a3 + (1 : Int32))).bind fun v8 =>
  rec v8 S7)
else
  (some S)))
def fX0_pass_L2 (n : Nat) (k0 : Nat) (a1 : Int32) (a2 : Int32) : Nat → Int32 → xSt → Option (xSt)
  | 0 => fun _ _ => none
  | q + 1 => fX0_pass_L2b n k0 a1 a2 (fX0_pass_L2 n k0 a1 a2 q)
set_option maxHeartbeats 4000000 in
theorem tX0_pass_L2b {Γ : xGm} {M : xMg} (o : xOk Γ tC M 6 cX0_pass RX0) (hnL : Γ.2.2.2 = 4) {rec : Int32 → xSt → Option (xSt)} (n : Nat) (k0 : Nat) (a1 : Int32) (a2 : Int32) (a3 : Int32) (S : xSt) (z : (xSt)) (hrec : ∀ (a3 : Int32) (S : xSt), rec a3 S = some z → xAt Γ tC M 2 (xlv [(0, .ref (M.2.1 k0)), (1, .int a1), (2, .int a2), (3, .int a3)]) [] S) (K : xAt Γ tC M 46 (xlv []) [] z) (h : fX0_pass_L2b n k0 a1 a2 rec a3 S = some z) : xAt Γ tC M 2 (xlv [(0, .ref (M.2.1 k0)), (1, .int a1), (2, .int a2), (3, .int a3)]) [] S := by
  have hn3 : 3 < Γ.2.2.2 := by omega
  unfold fX0_pass_L2b at h
  refine x_iload_n (pc := 2) o dX0_pass_2 rfl rfl ?_
  refine x_iload_n (pc := 3) o dX0_pass_3 rfl rfl ?_
  refine x_icmp_ge (pc := 4) (tgt := 46) o dX0_pass_4 (by decide) (fun c11 => ?_) (fun c11 => ?_)
  · have h := xit h c11
    refine x_to (l := []) trivial ?_
    cases Option.some.inj h
    exact K
  · have h := xif h c11
    refine x_aload_n (pc := 7) o dX0_pass_7 rfl rfl ?_
    obtain ⟨r1, hr1, h⟩ := xbs h
    refine gX0_41 (pc := 8) o dX0_pass_8 hr1 ?_
    obtain ⟨v2, hv2, h⟩ := xbs h
    refine gX0_69 (pc := 11) o dX0_pass_11 hv2 ?_
    refine x_iload_n (pc := 14) o dX0_pass_14 rfl rfl ?_
    refine x_icmp_ge (pc := 15) (tgt := 46) o dX0_pass_15 (by decide) (fun c10 => ?_) (fun c10 => ?_)
    · have h := xit h c10
      refine x_to (l := []) trivial ?_
      cases Option.some.inj h
      exact K
    · have h := xif h c10
      refine x_aload_n (pc := 18) o dX0_pass_18 rfl rfl ?_
      obtain ⟨r3, hr3, h⟩ := xbs h
      refine gX0_12 (pc := 19) o dX0_pass_19 hr3 ?_
      refine x_aload_n (pc := 22) o dX0_pass_22 rfl rfl ?_
      obtain ⟨r4, hr4, h⟩ := xbs h
      refine gX0_29 (pc := 23) o dX0_pass_23 hr4 ?_
      obtain ⟨v5, hv5, h⟩ := xbs h
      refine x_callI (pc := 26) (As := [.ref (M.2.1 r4)]) (b := r3) (rest := []) o (tX8_isAllFinished _ M _ n r3 r4 S v5 hv5) eX8_isAllFinished mX0_72 clX8 (kX8_isAllFinished hv5) (by decide) rfl rfl (Nat.le_of_ble_eq_true rfl) dX0_pass_26 ?_
      refine x_if_ne (pc := 29) (tgt := 46) o dX0_pass_29 (by decide) (fun c9 => ?_) (fun c9 => ?_)
      · have h := xif h c9
        refine x_to (l := []) trivial ?_
        cases Option.some.inj h
        exact K
      · have h := xit h c9
        refine x_aload_n (pc := 32) o dX0_pass_32 rfl rfl ?_
        obtain ⟨r6, hr6, h⟩ := xbs h
        refine gX0_41 (pc := 33) o dX0_pass_33 hr6 ?_
        refine x_iconst (pc := 36) o dX0_pass_36 ic_0 ?_
        obtain ⟨S7, hS7, h⟩ := xbs h
        refine x_callV (pc := 37) (As := [.int ((0 : Int32))]) (b := r6) (rest := []) o (tX6_passDay _ M _ n r6 ((0 : Int32)) S S7 hS7) eX6_passDay mX0_62 clX6 (kX6_passDay hS7) (by decide) rfl rfl (Nat.le_of_ble_eq_true rfl) dX0_pass_37 ?_
        obtain ⟨v8, hv8, h⟩ := xbs h
        refine x_iincE (pc := 40) o dX0_pass_40 rfl ic_1 hn3 hv8 ?_
        refine x_goto (pc := 43) (tgt := 2) o dX0_pass_43 (by decide) ?_
        refine x_to (l := [(0, .ref (M.2.1 k0)), (1, .int a1), (2, .int a2), (3, .int v8)]) ⟨rfl, rfl, rfl, rfl, trivial⟩ ?_
        exact hrec v8 S7 h
theorem tX0_pass_L2 {Γ : xGm} {M : xMg} (o : xOk Γ tC M 6 cX0_pass RX0) (hnL : Γ.2.2.2 = 4) (n : Nat) (k0 : Nat) (a1 : Int32) (a2 : Int32) (z : (xSt)) (K : xAt Γ tC M 46 (xlv []) [] z) : ∀ (q : Nat) (a3 : Int32) (S : xSt), fX0_pass_L2 n k0 a1 a2 q a3 S = some z → xAt Γ tC M 2 (xlv [(0, .ref (M.2.1 k0)), (1, .int a1), (2, .int a2), (3, .int a3)]) [] S := by
  intro q
  induction q with
  | zero => intro a3 S h; cases h
  | succ q ih => intro a3 S h; exact tX0_pass_L2b o hnL n k0 a1 a2 a3 S z ih K h
def fX0_pass (n : Nat) (k0 : Nat) (a1 : Int32) (a2 : Int32) (S : xSt) : Option (xSt) :=
  if tC.1 k0 = 0 then
  ((fX0_pass_L2 n k0 a1 a2 n ((0 : Int32)) S).bind fun z12 => some z12)
  else none
theorem kX0_pass {z : xSt} {n : Nat} {k0 : Nat} {a1 : Int32} {a2 : Int32} {S : xSt} (h : fX0_pass n k0 a1 a2 S = some z) : tC.1 k0 = 0 := by
  unfold fX0_pass at h
  exact (xck h).1
set_option maxHeartbeats 4000000 in
theorem tX0_pass (l : Launch) (M : xMg) (A : Nat → Prop) (n : Nat) (k0 : Nat) (a1 : Int32) (a2 : Int32) (S : xSt) (z : xSt) (h : fX0_pass n k0 a1 a2 S = some z) : xMV l yX0_pass cX0_pass 4 none 6 tC M A [.ref (M.2.1 k0), .int a1, .int a2] S z := by
  refine x_metV (plainFor_of_name (by decide)) tC_ok (Nat.le_of_ble_eq_true rfl) (fun Γ hA hnL hl hr o => ?_)
  subst hA; subst hl
  have o : xOk Γ tC M 6 cX0_pass RX0 := o
  unfold fX0_pass at h
  obtain ⟨hk0, h⟩ := xck h
  refine x_to (l := [(0, .ref (M.2.1 k0)), (1, .int a1), (2, .int a2)]) ⟨rfl, rfl, rfl, trivial⟩ ?_
  have hn3 : 3 < Γ.2.2.2 := by omega
  refine x_iconst (pc := 0) o dX0_pass_0 ic_0 ?_
  refine x_istore_n (pc := 1) o dX0_pass_1 rfl hn3 ?_
  obtain ⟨z12, hz12, h⟩ := xbs h
  refine x_to (l := [(0, .ref (M.2.1 k0)), (1, .int a1), (2, .int a2), (3, .int ((0 : Int32)))]) ⟨rfl, rfl, rfl, rfl, trivial⟩ ?_
  refine tX0_pass_L2 o hnL n k0 a1 a2 z12 ?_ n ((0 : Int32)) S hz12
  exact x_vreturn (pc := 46) o hr dX0_pass_46 (Option.some.inj h)
def fX0_behind (n : Nat) (k0 : Nat) (a1 : Int32) (a2 : Int32) (S : xSt) : Option (Int32 × xSt) :=
  if tC.1 k0 = 0 then
  ((fX0_restart n k0 S).bind fun S1 =>
  (fX0_pass n k0 a1 ((1000000 : Int32)) S1).bind fun S2 =>
  (xgM tC 0 3 k0 S2).bind fun r3 =>
  (fX9_holds r3 ((3 : Int32)) a2 S2).bind fun v4 =>
  if v4 = 0 then
  ((xgF tC 0 1 k0 S2).bind fun r5 =>
  (xgI tC 8 1 r5 S2).bind fun v6 =>
  some (v6, S2))
else
  ((xgF tC 0 1 k0 S2).bind fun r7 =>
  (xgF tC 8 7 r7 S2).bind fun r8 =>
  (xal tC r8 a2 S2).bind fun v9 =>
  some (v9, S2)))
  else none
theorem kX0_behind {z : Int32 × xSt} {n : Nat} {k0 : Nat} {a1 : Int32} {a2 : Int32} {S : xSt} (h : fX0_behind n k0 a1 a2 S = some z) : tC.1 k0 = 0 := by
  unfold fX0_behind at h
  exact (xck h).1
set_option maxHeartbeats 4000000 in
theorem tX0_behind (l : Launch) (M : xMg) (A : Nat → Prop) (n : Nat) (k0 : Nat) (a1 : Int32) (a2 : Int32) (S : xSt) (z : Int32 × xSt) (h : fX0_behind n k0 a1 a2 S = some z) : xMI l yX0_behind cX0_behind 3 (some .int) 7 tC M A [.ref (M.2.1 k0), .int a1, .int a2] S z.1 z.2 := by
  refine x_metI (plainFor_of_name (by decide)) tC_ok (Nat.le_of_ble_eq_true rfl) (fun Γ hA hnL hl hr o => ?_)
  subst hA; subst hl
  have o : xOk Γ tC M 7 cX0_behind RX0 := o
  unfold fX0_behind at h
  obtain ⟨hk0, h⟩ := xck h
  refine x_to (l := [(0, .ref (M.2.1 k0)), (1, .int a1), (2, .int a2)]) ⟨rfl, rfl, rfl, trivial⟩ ?_
  refine x_aload_n (pc := 0) o dX0_behind_0 rfl rfl ?_
  obtain ⟨S1, hS1, h⟩ := xbs h
  refine x_callV (pc := 1) (As := []) (b := k0) (rest := []) o (tX0_restart _ M _ n k0 S S1 hS1) eX0_restart mX0_76 clX0 (kX0_restart hS1) (by decide) rfl rfl (Nat.le_of_ble_eq_true rfl) dX0_behind_1 ?_
  refine x_aload_n (pc := 4) o dX0_behind_4 rfl rfl ?_
  refine x_iload_n (pc := 5) o dX0_behind_5 rfl rfl ?_
  refine x_ldc (pc := 6) o kcX0_79 dX0_behind_6 ?_
  obtain ⟨S2, hS2, h⟩ := xbs h
  refine x_callV (pc := 8) (As := [.int a1, .int ((1000000 : Int32))]) (b := k0) (rest := []) o (tX0_pass _ M _ n k0 a1 ((1000000 : Int32)) S1 S2 hS2) eX0_pass mX0_80 clX0 (kX0_pass hS2) (by decide) rfl rfl (Nat.le_of_ble_eq_true rfl) dX0_behind_8 ?_
  refine x_aload_n (pc := 11) o dX0_behind_11 rfl rfl ?_
  obtain ⟨r3, hr3, h⟩ := xbs h
  refine gX0_29 (pc := 12) o dX0_behind_12 hr3 ?_
  refine x_iconst (pc := 15) o dX0_behind_15 ic_3 ?_
  refine x_iload_n (pc := 16) o dX0_behind_16 rfl rfl ?_
  obtain ⟨v4, hv4, h⟩ := xbs h
  refine x_callI (pc := 17) (As := [.int ((3 : Int32)), .int a2]) (b := r3) (rest := []) o (tX9_holds _ M _ r3 ((3 : Int32)) a2 S2 v4 hv4) eX9_holds mX0_84 clX9 (kX9_holds hv4) (by decide) rfl rfl (Nat.le_of_ble_eq_true rfl) dX0_behind_17 ?_
  refine x_if_eq (pc := 20) (tgt := 35) o dX0_behind_20 (by decide) (fun c10 => ?_) (fun c10 => ?_)
  · have h := xit h c10
    refine x_aload_n (pc := 35) o dX0_behind_35 rfl rfl ?_
    obtain ⟨r5, hr5, h⟩ := xbs h
    refine gX0_12 (pc := 36) o dX0_behind_36 hr5 ?_
    obtain ⟨v6, hv6, h⟩ := xbs h
    refine gX0_93 (pc := 39) o dX0_behind_39 hv6 ?_
    exact x_ireturn (pc := 42) o hr dX0_behind_42 (xr1 h) (xr2 h)
  · have h := xif h c10
    refine x_aload_n (pc := 23) o dX0_behind_23 rfl rfl ?_
    obtain ⟨r7, hr7, h⟩ := xbs h
    refine gX0_12 (pc := 24) o dX0_behind_24 hr7 ?_
    obtain ⟨r8, hr8, h⟩ := xbs h
    refine gX0_90 (pc := 27) o dX0_behind_27 hr8 ?_
    refine x_iload_n (pc := 30) o dX0_behind_30 rfl rfl ?_
    obtain ⟨v9, hv9, h⟩ := xbs h
    refine x_iaload (pc := 31) o dX0_behind_31 hv9 ?_
    refine x_goto (pc := 32) (tgt := 42) o dX0_behind_32 (by decide) ?_
    exact x_ireturn (pc := 42) o hr dX0_behind_42 (xr1 h) (xr2 h)
def fX0_daysUntilDone_L6b (n : Nat) (k0 : Nat) (a1 : Int32) (a2 : Int32) (rec : Int32 → xSt → Option (xSt)) (a3 : Int32) (S : xSt) : Option (xSt) :=
  if a2 ≤ a3 then
  (some S)
else
  ((xgF tC 0 1 k0 S).bind fun r2 =>
  (xgM tC 0 3 k0 S).bind fun r3 =>
  (fX8_isFinished r2 a1 r3 S).bind fun v4 =>
  if v4 = 0 then
  ((xgF tC 0 2 k0 S).bind fun r5 =>
  (fX6_passDay n r5 ((0 : Int32)) S).bind fun S6 =>
  (some (a3 + (1 : Int32))).bind fun v7 =>
  rec v7 S6)
else
  (some S))
def fX0_daysUntilDone_L6 (n : Nat) (k0 : Nat) (a1 : Int32) (a2 : Int32) : Nat → Int32 → xSt → Option (xSt)
  | 0 => fun _ _ => none
  | q + 1 => fX0_daysUntilDone_L6b n k0 a1 a2 (fX0_daysUntilDone_L6 n k0 a1 a2 q)
set_option maxHeartbeats 4000000 in
theorem tX0_daysUntilDone_L6b {Γ : xGm} {M : xMg} (o : xOk Γ tC M 6 cX0_daysUntilDone RX0) (hnL : Γ.2.2.2 = 4) {rec : Int32 → xSt → Option (xSt)} (n : Nat) (k0 : Nat) (a1 : Int32) (a2 : Int32) (a3 : Int32) (S : xSt) (z : (xSt)) (hrec : ∀ (a3 : Int32) (S : xSt), rec a3 S = some z → xAt Γ tC M 6 (xlv [(0, .ref (M.2.1 k0)), (1, .int a1), (2, .int a2), (3, .int a3)]) [] S) (K : xAt Γ tC M 40 (xlv [(0, .ref (M.2.1 k0)), (1, .int a1)]) [] z) (h : fX0_daysUntilDone_L6b n k0 a1 a2 rec a3 S = some z) : xAt Γ tC M 6 (xlv [(0, .ref (M.2.1 k0)), (1, .int a1), (2, .int a2), (3, .int a3)]) [] S := by
  have hn3 : 3 < Γ.2.2.2 := by omega
  unfold fX0_daysUntilDone_L6b at h
  refine x_iload_n (pc := 6) o dX0_daysUntilDone_6 rfl rfl ?_
  refine x_iload_n (pc := 7) o dX0_daysUntilDone_7 rfl rfl ?_
  refine x_icmp_ge (pc := 8) (tgt := 40) o dX0_daysUntilDone_8 (by decide) (fun c9 => ?_) (fun c9 => ?_)
  · have h := xit h c9
    refine x_to (l := [(0, .ref (M.2.1 k0)), (1, .int a1)]) ⟨rfl, rfl, trivial⟩ ?_
    cases Option.some.inj h
    exact K
  · have h := xif h c9
    refine x_aload_n (pc := 11) o dX0_daysUntilDone_11 rfl rfl ?_
    obtain ⟨r2, hr2, h⟩ := xbs h
    refine gX0_12 (pc := 12) o dX0_daysUntilDone_12 hr2 ?_
    refine x_iload_n (pc := 15) o dX0_daysUntilDone_15 rfl rfl ?_
    refine x_aload_n (pc := 16) o dX0_daysUntilDone_16 rfl rfl ?_
    obtain ⟨r3, hr3, h⟩ := xbs h
    refine gX0_29 (pc := 17) o dX0_daysUntilDone_17 hr3 ?_
    obtain ⟨v4, hv4, h⟩ := xbs h
    refine x_callI (pc := 20) (As := [.int a1, .ref (M.2.1 r3)]) (b := r2) (rest := []) o (tX8_isFinished _ M _ r2 a1 r3 S v4 hv4) eX8_isFinished mX0_96 clX8 (kX8_isFinished hv4) (by decide) rfl rfl (Nat.le_of_ble_eq_true rfl) dX0_daysUntilDone_20 ?_
    refine x_if_ne (pc := 23) (tgt := 40) o dX0_daysUntilDone_23 (by decide) (fun c8 => ?_) (fun c8 => ?_)
    · have h := xif h c8
      refine x_to (l := [(0, .ref (M.2.1 k0)), (1, .int a1)]) ⟨rfl, rfl, trivial⟩ ?_
      cases Option.some.inj h
      exact K
    · have h := xit h c8
      refine x_aload_n (pc := 26) o dX0_daysUntilDone_26 rfl rfl ?_
      obtain ⟨r5, hr5, h⟩ := xbs h
      refine gX0_41 (pc := 27) o dX0_daysUntilDone_27 hr5 ?_
      refine x_iconst (pc := 30) o dX0_daysUntilDone_30 ic_0 ?_
      obtain ⟨S6, hS6, h⟩ := xbs h
      refine x_callV (pc := 31) (As := [.int ((0 : Int32))]) (b := r5) (rest := []) o (tX6_passDay _ M _ n r5 ((0 : Int32)) S S6 hS6) eX6_passDay mX0_62 clX6 (kX6_passDay hS6) (by decide) rfl rfl (Nat.le_of_ble_eq_true rfl) dX0_daysUntilDone_31 ?_
      obtain ⟨v7, hv7, h⟩ := xbs h
      refine x_iincE (pc := 34) o dX0_daysUntilDone_34 rfl ic_1 hn3 hv7 ?_
      refine x_goto (pc := 37) (tgt := 6) o dX0_daysUntilDone_37 (by decide) ?_
      refine x_to (l := [(0, .ref (M.2.1 k0)), (1, .int a1), (2, .int a2), (3, .int v7)]) ⟨rfl, rfl, rfl, rfl, trivial⟩ ?_
      exact hrec v7 S6 h
theorem tX0_daysUntilDone_L6 {Γ : xGm} {M : xMg} (o : xOk Γ tC M 6 cX0_daysUntilDone RX0) (hnL : Γ.2.2.2 = 4) (n : Nat) (k0 : Nat) (a1 : Int32) (a2 : Int32) (z : (xSt)) (K : xAt Γ tC M 40 (xlv [(0, .ref (M.2.1 k0)), (1, .int a1)]) [] z) : ∀ (q : Nat) (a3 : Int32) (S : xSt), fX0_daysUntilDone_L6 n k0 a1 a2 q a3 S = some z → xAt Γ tC M 6 (xlv [(0, .ref (M.2.1 k0)), (1, .int a1), (2, .int a2), (3, .int a3)]) [] S := by
  intro q
  induction q with
  | zero => intro a3 S h; cases h
  | succ q ih => intro a3 S h; exact tX0_daysUntilDone_L6b o hnL n k0 a1 a2 a3 S z ih K h
def fX0_daysUntilDone_B40 (n : Nat) (k0 : Nat) (a1 : Int32) (S : xSt) : Option (Int32 × xSt) :=
  (xgF tC 0 1 k0 S).bind fun r11 =>
  (xgM tC 0 3 k0 S).bind fun r12 =>
  (fX8_isFinished r11 a1 r12 S).bind fun v13 =>
  if v13 = 0 then
  (some ((-1 : Int32), S))
else
  ((xgF tC 0 1 k0 S).bind fun r14 =>
  (xgI tC 8 0 r14 S).bind fun v15 =>
  (xgF tC 0 0 k0 S).bind fun r16 =>
  (xgI tC 8 0 r16 S).bind fun v17 =>
  some (v15 - v17, S))
set_option maxHeartbeats 4000000 in
theorem tX0_daysUntilDone_B40 {Γ : xGm} {M : xMg} (o : xOk Γ tC M 6 cX0_daysUntilDone RX0) (hnL : Γ.2.2.2 = 4) (n : Nat) (k0 : Nat) (a1 : Int32) (S : xSt) (z : (Int32 × xSt)) (hr : xRI Γ tC M (some .int) z.1 z.2) (h : fX0_daysUntilDone_B40 n k0 a1 S = some z) : xAt Γ tC M 40 (xlv [(0, .ref (M.2.1 k0)), (1, .int a1)]) [] S := by
  unfold fX0_daysUntilDone_B40 at h
  refine x_aload_n (pc := 40) o dX0_daysUntilDone_40 rfl rfl ?_
  obtain ⟨r11, hr11, h⟩ := xbs h
  refine gX0_12 (pc := 41) o dX0_daysUntilDone_41 hr11 ?_
  refine x_iload_n (pc := 44) o dX0_daysUntilDone_44 rfl rfl ?_
  refine x_aload_n (pc := 45) o dX0_daysUntilDone_45 rfl rfl ?_
  obtain ⟨r12, hr12, h⟩ := xbs h
  refine gX0_29 (pc := 46) o dX0_daysUntilDone_46 hr12 ?_
  obtain ⟨v13, hv13, h⟩ := xbs h
  refine x_callI (pc := 49) (As := [.int a1, .ref (M.2.1 r12)]) (b := r11) (rest := []) o (tX8_isFinished _ M _ r11 a1 r12 S v13 hv13) eX8_isFinished mX0_96 clX8 (kX8_isFinished hv13) (by decide) rfl rfl (Nat.le_of_ble_eq_true rfl) dX0_daysUntilDone_49 ?_
  refine x_if_eq (pc := 52) (tgt := 73) o dX0_daysUntilDone_52 (by decide) (fun c18 => ?_) (fun c18 => ?_)
  · have h := xit h c18
    refine x_iconst (pc := 73) o dX0_daysUntilDone_73 ic_m1 ?_
    exact x_ireturn (pc := 74) o hr dX0_daysUntilDone_74 (xr1 h) (xr2 h)
  · have h := xif h c18
    refine x_aload_n (pc := 55) o dX0_daysUntilDone_55 rfl rfl ?_
    obtain ⟨r14, hr14, h⟩ := xbs h
    refine gX0_12 (pc := 56) o dX0_daysUntilDone_56 hr14 ?_
    obtain ⟨v15, hv15, h⟩ := xbs h
    refine gX0_100 (pc := 59) o dX0_daysUntilDone_59 hv15 ?_
    refine x_aload_n (pc := 62) o dX0_daysUntilDone_62 rfl rfl ?_
    obtain ⟨r16, hr16, h⟩ := xbs h
    refine gX0_33 (pc := 63) o dX0_daysUntilDone_63 hr16 ?_
    obtain ⟨v17, hv17, h⟩ := xbs h
    refine gX0_100 (pc := 66) o dX0_daysUntilDone_66 hv17 ?_
    refine x_isub (pc := 69) o dX0_daysUntilDone_69 ?_
    refine x_goto (pc := 70) (tgt := 74) o dX0_daysUntilDone_70 (by decide) ?_
    exact x_ireturn (pc := 74) o hr dX0_daysUntilDone_74 (xr1 h) (xr2 h)
def fX0_daysUntilDone (n : Nat) (k0 : Nat) (a1 : Int32) (a2 : Int32) (S : xSt) : Option (Int32 × xSt) :=
  if tC.1 k0 = 0 then
  ((fX0_restart n k0 S).bind fun S1 =>
  (fX0_daysUntilDone_L6 n k0 a1 a2 n ((0 : Int32)) S1).bind fun z10 => fX0_daysUntilDone_B40 n k0 a1 z10)
  else none
theorem kX0_daysUntilDone {z : Int32 × xSt} {n : Nat} {k0 : Nat} {a1 : Int32} {a2 : Int32} {S : xSt} (h : fX0_daysUntilDone n k0 a1 a2 S = some z) : tC.1 k0 = 0 := by
  unfold fX0_daysUntilDone at h
  exact (xck h).1
set_option maxHeartbeats 4000000 in
theorem tX0_daysUntilDone (l : Launch) (M : xMg) (A : Nat → Prop) (n : Nat) (k0 : Nat) (a1 : Int32) (a2 : Int32) (S : xSt) (z : Int32 × xSt) (h : fX0_daysUntilDone n k0 a1 a2 S = some z) : xMI l yX0_daysUntilDone cX0_daysUntilDone 4 (some .int) 6 tC M A [.ref (M.2.1 k0), .int a1, .int a2] S z.1 z.2 := by
  refine x_metI (plainFor_of_name (by decide)) tC_ok (Nat.le_of_ble_eq_true rfl) (fun Γ hA hnL hl hr o => ?_)
  subst hA; subst hl
  have o : xOk Γ tC M 6 cX0_daysUntilDone RX0 := o
  unfold fX0_daysUntilDone at h
  obtain ⟨hk0, h⟩ := xck h
  refine x_to (l := [(0, .ref (M.2.1 k0)), (1, .int a1), (2, .int a2)]) ⟨rfl, rfl, rfl, trivial⟩ ?_
  have hn3 : 3 < Γ.2.2.2 := by omega
  refine x_aload_n (pc := 0) o dX0_daysUntilDone_0 rfl rfl ?_
  obtain ⟨S1, hS1, h⟩ := xbs h
  refine x_callV (pc := 1) (As := []) (b := k0) (rest := []) o (tX0_restart _ M _ n k0 S S1 hS1) eX0_restart mX0_76 clX0 (kX0_restart hS1) (by decide) rfl rfl (Nat.le_of_ble_eq_true rfl) dX0_daysUntilDone_1 ?_
  refine x_iconst (pc := 4) o dX0_daysUntilDone_4 ic_0 ?_
  refine x_istore_n (pc := 5) o dX0_daysUntilDone_5 rfl hn3 ?_
  obtain ⟨z10, hz10, h⟩ := xbs h
  refine x_to (l := [(0, .ref (M.2.1 k0)), (1, .int a1), (2, .int a2), (3, .int ((0 : Int32)))]) ⟨rfl, rfl, rfl, rfl, trivial⟩ ?_
  refine tX0_daysUntilDone_L6 o hnL n k0 a1 a2 z10 ?_ n ((0 : Int32)) S1 hz10
  refine x_to (l := [(0, .ref (M.2.1 k0)), (1, .int a1)]) ⟨rfl, rfl, trivial⟩ ?_
  exact tX0_daysUntilDone_B40 o hnL n k0 a1 z10 z hr h
def fX0_latenessBehind (n : Nat) (k0 : Nat) (a1 : Int32) (S : xSt) : Option (Int32 × xSt) :=
  if tC.1 k0 = 0 then
  ((fX0_restart n k0 S).bind fun S1 =>
  (fX0_pass n k0 a1 ((1000000 : Int32)) S1).bind fun S2 =>
  (xgF tC 0 2 k0 S2).bind fun r3 =>
  (xgI tC 6 9 r3 S2).bind fun v4 =>
  some (v4, S2))
  else none
theorem kX0_latenessBehind {z : Int32 × xSt} {n : Nat} {k0 : Nat} {a1 : Int32} {S : xSt} (h : fX0_latenessBehind n k0 a1 S = some z) : tC.1 k0 = 0 := by
  unfold fX0_latenessBehind at h
  exact (xck h).1
set_option maxHeartbeats 4000000 in
theorem tX0_latenessBehind (l : Launch) (M : xMg) (A : Nat → Prop) (n : Nat) (k0 : Nat) (a1 : Int32) (S : xSt) (z : Int32 × xSt) (h : fX0_latenessBehind n k0 a1 S = some z) : xMI l yX0_latenessBehind cX0_latenessBehind 2 (some .int) 7 tC M A [.ref (M.2.1 k0), .int a1] S z.1 z.2 := by
  refine x_metI (plainFor_of_name (by decide)) tC_ok (Nat.le_of_ble_eq_true rfl) (fun Γ hA hnL hl hr o => ?_)
  subst hA; subst hl
  have o : xOk Γ tC M 7 cX0_latenessBehind RX0 := o
  unfold fX0_latenessBehind at h
  obtain ⟨hk0, h⟩ := xck h
  refine x_to (l := [(0, .ref (M.2.1 k0)), (1, .int a1)]) ⟨rfl, rfl, trivial⟩ ?_
  refine x_aload_n (pc := 0) o dX0_latenessBehind_0 rfl rfl ?_
  obtain ⟨S1, hS1, h⟩ := xbs h
  refine x_callV (pc := 1) (As := []) (b := k0) (rest := []) o (tX0_restart _ M _ n k0 S S1 hS1) eX0_restart mX0_76 clX0 (kX0_restart hS1) (by decide) rfl rfl (Nat.le_of_ble_eq_true rfl) dX0_latenessBehind_1 ?_
  refine x_aload_n (pc := 4) o dX0_latenessBehind_4 rfl rfl ?_
  refine x_iload_n (pc := 5) o dX0_latenessBehind_5 rfl rfl ?_
  refine x_ldc (pc := 6) o kcX0_79 dX0_latenessBehind_6 ?_
  obtain ⟨S2, hS2, h⟩ := xbs h
  refine x_callV (pc := 8) (As := [.int a1, .int ((1000000 : Int32))]) (b := k0) (rest := []) o (tX0_pass _ M _ n k0 a1 ((1000000 : Int32)) S1 S2 hS2) eX0_pass mX0_80 clX0 (kX0_pass hS2) (by decide) rfl rfl (Nat.le_of_ble_eq_true rfl) dX0_latenessBehind_8 ?_
  refine x_aload_n (pc := 11) o dX0_latenessBehind_11 rfl rfl ?_
  obtain ⟨r3, hr3, h⟩ := xbs h
  refine gX0_41 (pc := 12) o dX0_latenessBehind_12 hr3 ?_
  obtain ⟨v4, hv4, h⟩ := xbs h
  refine gX0_69 (pc := 15) o dX0_latenessBehind_15 hv4 ?_
  exact x_ireturn (pc := 18) o hr dX0_latenessBehind_18 (xr1 h) (xr2 h)
def fX0_leastLateness_L46b (n : Nat) (k0 : Nat) (a1 : Int32) (a3 : Int32) (a4 : Int32) (S : xSt) (rec : Int32 → Int32 → Option (Int32)) (a2 : Int32) (a5 : Int32) : Option (Int32) :=
  if a4 ≤ a5 then
  (some a2)
else
  ((xgF tC 0 0 k0 S).bind fun r10 =>
  (xgI tC 8 0 r10 S).bind fun v11 =>
  (xgF tC 0 0 k0 S).bind fun r12 =>
  (xgF tC 8 8 r12 S).bind fun r13 =>
  (xal tC r13 a3 S).bind fun v14 =>
  (some (if ((0 : Int32)) < ((v11 + a5) - v14) then ((v11 + a5) - v14) else ((0 : Int32)))).bind fun v15 =>
  (some (a2 + v15)).bind fun v16 =>
  (some (a5 + (1 : Int32))).bind fun v17 =>
  rec v16 v17)
def fX0_leastLateness_L46 (n : Nat) (k0 : Nat) (a1 : Int32) (a3 : Int32) (a4 : Int32) (S : xSt) : Nat → Int32 → Int32 → Option (Int32)
  | 0 => fun _ _ => none
  | q + 1 => fX0_leastLateness_L46b n k0 a1 a3 a4 S (fX0_leastLateness_L46 n k0 a1 a3 a4 S q)
set_option maxHeartbeats 4000000 in
theorem tX0_leastLateness_L46b {Γ : xGm} {M : xMg} (o : xOk Γ tC M 2 cX0_leastLateness RX0) (hnL : Γ.2.2.2 = 6) {rec : Int32 → Int32 → Option (Int32)} (n : Nat) (k0 : Nat) (a1 : Int32) (a3 : Int32) (a4 : Int32) (S : xSt) (a2 : Int32) (a5 : Int32) (z : (Int32)) (hrec : ∀ (a2 : Int32) (a5 : Int32), rec a2 a5 = some z → xAt Γ tC M 46 (xlv [(0, .ref (M.2.1 k0)), (1, .int a1), (2, .int a2), (3, .int a3), (4, .int a4), (5, .int a5)]) [] S) (K : xAt Γ tC M 86 (xlv [(0, .ref (M.2.1 k0)), (1, .int a1), (2, .int z), (3, .int a3)]) [] S) (h : fX0_leastLateness_L46b n k0 a1 a3 a4 S rec a2 a5 = some z) : xAt Γ tC M 46 (xlv [(0, .ref (M.2.1 k0)), (1, .int a1), (2, .int a2), (3, .int a3), (4, .int a4), (5, .int a5)]) [] S := by
  have hn2 : 2 < Γ.2.2.2 := by omega
  have hn5 : 5 < Γ.2.2.2 := by omega
  unfold fX0_leastLateness_L46b at h
  refine x_iload (pc := 46) o dX0_leastLateness_46 rfl ?_
  refine x_iload (pc := 48) o dX0_leastLateness_48 rfl ?_
  refine x_icmp_ge (pc := 50) (tgt := 86) o dX0_leastLateness_50 (by decide) (fun c18 => ?_) (fun c18 => ?_)
  · have h := xit h c18
    refine x_to (l := [(0, .ref (M.2.1 k0)), (1, .int a1), (2, .int a2), (3, .int a3)]) ⟨rfl, rfl, rfl, rfl, trivial⟩ ?_
    cases Option.some.inj h
    exact K
  · have h := xif h c18
    refine x_iload_n (pc := 53) o dX0_leastLateness_53 rfl rfl ?_
    refine x_iconst (pc := 54) o dX0_leastLateness_54 ic_0 ?_
    refine x_aload_n (pc := 55) o dX0_leastLateness_55 rfl rfl ?_
    obtain ⟨r10, hr10, h⟩ := xbs h
    refine gX0_33 (pc := 56) o dX0_leastLateness_56 hr10 ?_
    obtain ⟨v11, hv11, h⟩ := xbs h
    refine gX0_100 (pc := 59) o dX0_leastLateness_59 hv11 ?_
    refine x_iload (pc := 62) o dX0_leastLateness_62 rfl ?_
    refine x_iadd (pc := 64) o dX0_leastLateness_64 ?_
    refine x_aload_n (pc := 65) o dX0_leastLateness_65 rfl rfl ?_
    obtain ⟨r12, hr12, h⟩ := xbs h
    refine gX0_33 (pc := 66) o dX0_leastLateness_66 hr12 ?_
    obtain ⟨r13, hr13, h⟩ := xbs h
    refine gX0_116 (pc := 69) o dX0_leastLateness_69 hr13 ?_
    refine x_iload_n (pc := 72) o dX0_leastLateness_72 rfl rfl ?_
    obtain ⟨v14, hv14, h⟩ := xbs h
    refine x_iaload (pc := 73) o dX0_leastLateness_73 hv14 ?_
    refine x_isub (pc := 74) o dX0_leastLateness_74 ?_
    obtain ⟨v15, hv15, h⟩ := xbs h
    refine x_mmaxE (pc := 75) o mX0_119 w_max1 w_max2 w_max3 (by decide) (Nat.le_of_ble_eq_true rfl) dX0_leastLateness_75 hv15 ?_
    refine x_iadd (pc := 78) o dX0_leastLateness_78 ?_
    obtain ⟨v16, hv16, h⟩ := xbs h
    refine x_istore_nE (pc := 79) o dX0_leastLateness_79 rfl hn2 hv16 ?_
    obtain ⟨v17, hv17, h⟩ := xbs h
    refine x_iincE (pc := 80) o dX0_leastLateness_80 rfl ic_1 hn5 hv17 ?_
    refine x_goto (pc := 83) (tgt := 46) o dX0_leastLateness_83 (by decide) ?_
    refine x_to (l := [(0, .ref (M.2.1 k0)), (1, .int a1), (2, .int v16), (3, .int a3), (4, .int a4), (5, .int v17)]) ⟨rfl, rfl, rfl, rfl, rfl, rfl, trivial⟩ ?_
    exact hrec v16 v17 h
theorem tX0_leastLateness_L46 {Γ : xGm} {M : xMg} (o : xOk Γ tC M 2 cX0_leastLateness RX0) (hnL : Γ.2.2.2 = 6) (n : Nat) (k0 : Nat) (a1 : Int32) (a3 : Int32) (a4 : Int32) (S : xSt) (z : (Int32)) (K : xAt Γ tC M 86 (xlv [(0, .ref (M.2.1 k0)), (1, .int a1), (2, .int z), (3, .int a3)]) [] S) : ∀ (q : Nat) (a2 : Int32) (a5 : Int32), fX0_leastLateness_L46 n k0 a1 a3 a4 S q a2 a5 = some z → xAt Γ tC M 46 (xlv [(0, .ref (M.2.1 k0)), (1, .int a1), (2, .int a2), (3, .int a3), (4, .int a4), (5, .int a5)]) [] S := by
  intro q
  induction q with
  | zero => intro a2 a5 h; cases h
  | succ q ih => intro a2 a5 h; exact tX0_leastLateness_L46b o hnL n k0 a1 a3 a4 S a2 a5 z ih K h
def fX0_leastLateness_L4b (n : Nat) (k0 : Nat) (a1 : Int32) (S : xSt) (rec : Int32 → Int32 → Option (Int32)) (a2 : Int32) (a3 : Int32) : Option (Int32) :=
  (xgM tC 0 3 k0 S).bind fun r1 =>
  (fX9_count r1 ((3 : Int32)) S).bind fun v2 =>
  if v2 ≤ a3 then
  (some a2)
else
  ((xgM tC 0 3 k0 S).bind fun r3 =>
  (xgF tC 9 8 r3 S).bind fun r4 =>
  (xal tC r4 a3 S).bind fun v5 =>
  (xgF tC 0 0 k0 S).bind fun r6 =>
  (xgF tC 8 7 r6 S).bind fun r7 =>
  (xal tC r7 a3 S).bind fun v8 =>
  (some (if ((v5 - v8) - ((1 : Int32))) < a1 then ((v5 - v8) - ((1 : Int32))) else a1)).bind fun v9 =>
  (fX0_leastLateness_L46 n k0 a1 a3 v9 S n a2 ((0 : Int32))).bind fun z19 => (some (a3 + (1 : Int32))).bind fun v20 =>
  rec z19 v20)
def fX0_leastLateness_L4 (n : Nat) (k0 : Nat) (a1 : Int32) (S : xSt) : Nat → Int32 → Int32 → Option (Int32)
  | 0 => fun _ _ => none
  | q + 1 => fX0_leastLateness_L4b n k0 a1 S (fX0_leastLateness_L4 n k0 a1 S q)
set_option maxHeartbeats 4000000 in
theorem tX0_leastLateness_L4b {Γ : xGm} {M : xMg} (o : xOk Γ tC M 2 cX0_leastLateness RX0) (hnL : Γ.2.2.2 = 6) {rec : Int32 → Int32 → Option (Int32)} (n : Nat) (k0 : Nat) (a1 : Int32) (S : xSt) (a2 : Int32) (a3 : Int32) (z : (Int32)) (hrec : ∀ (a2 : Int32) (a3 : Int32), rec a2 a3 = some z → xAt Γ tC M 4 (xlv [(0, .ref (M.2.1 k0)), (1, .int a1), (2, .int a2), (3, .int a3)]) [] S) (K : xAt Γ tC M 92 (xlv [(2, .int z)]) [] S) (h : fX0_leastLateness_L4b n k0 a1 S rec a2 a3 = some z) : xAt Γ tC M 4 (xlv [(0, .ref (M.2.1 k0)), (1, .int a1), (2, .int a2), (3, .int a3)]) [] S := by
  have hn3 : 3 < Γ.2.2.2 := by omega
  have hn4 : 4 < Γ.2.2.2 := by omega
  have hn5 : 5 < Γ.2.2.2 := by omega
  unfold fX0_leastLateness_L4b at h
  refine x_iload_n (pc := 4) o dX0_leastLateness_4 rfl rfl ?_
  refine x_aload_n (pc := 5) o dX0_leastLateness_5 rfl rfl ?_
  obtain ⟨r1, hr1, h⟩ := xbs h
  refine gX0_29 (pc := 6) o dX0_leastLateness_6 hr1 ?_
  refine x_iconst (pc := 9) o dX0_leastLateness_9 ic_3 ?_
  obtain ⟨v2, hv2, h⟩ := xbs h
  refine x_callI (pc := 10) (As := [.int ((3 : Int32))]) (b := r1) (rest := [.int a3]) o (tX9_count _ M _ r1 ((3 : Int32)) S v2 hv2) eX9_count mX0_103 clX9 (kX9_count hv2) (by decide) rfl rfl (Nat.le_of_ble_eq_true rfl) dX0_leastLateness_10 ?_
  refine x_icmp_ge (pc := 13) (tgt := 92) o dX0_leastLateness_13 (by decide) (fun c21 => ?_) (fun c21 => ?_)
  · have h := xit h c21
    refine x_to (l := [(2, .int a2)]) ⟨rfl, trivial⟩ ?_
    cases Option.some.inj h
    exact K
  · have h := xif h c21
    refine x_iload_n (pc := 16) o dX0_leastLateness_16 rfl rfl ?_
    refine x_aload_n (pc := 17) o dX0_leastLateness_17 rfl rfl ?_
    obtain ⟨r3, hr3, h⟩ := xbs h
    refine gX0_29 (pc := 18) o dX0_leastLateness_18 hr3 ?_
    obtain ⟨r4, hr4, h⟩ := xbs h
    refine gX0_107 (pc := 21) o dX0_leastLateness_21 hr4 ?_
    refine x_iload_n (pc := 24) o dX0_leastLateness_24 rfl rfl ?_
    obtain ⟨v5, hv5, h⟩ := xbs h
    refine x_iaload (pc := 25) o dX0_leastLateness_25 hv5 ?_
    refine x_aload_n (pc := 26) o dX0_leastLateness_26 rfl rfl ?_
    obtain ⟨r6, hr6, h⟩ := xbs h
    refine gX0_33 (pc := 27) o dX0_leastLateness_27 hr6 ?_
    obtain ⟨r7, hr7, h⟩ := xbs h
    refine gX0_90 (pc := 30) o dX0_leastLateness_30 hr7 ?_
    refine x_iload_n (pc := 33) o dX0_leastLateness_33 rfl rfl ?_
    obtain ⟨v8, hv8, h⟩ := xbs h
    refine x_iaload (pc := 34) o dX0_leastLateness_34 hv8 ?_
    refine x_isub (pc := 35) o dX0_leastLateness_35 ?_
    refine x_iconst (pc := 36) o dX0_leastLateness_36 ic_1 ?_
    refine x_isub (pc := 37) o dX0_leastLateness_37 ?_
    obtain ⟨v9, hv9, h⟩ := xbs h
    refine x_mminE (pc := 38) o mX0_110 w_min1 w_min2 w_min3 (by decide) (Nat.le_of_ble_eq_true rfl) dX0_leastLateness_38 hv9 ?_
    refine x_istore (pc := 41) o dX0_leastLateness_41 hn4 ?_
    refine x_iconst (pc := 43) o dX0_leastLateness_43 ic_0 ?_
    refine x_istore (pc := 44) o dX0_leastLateness_44 hn5 ?_
    obtain ⟨z19, hz19, h⟩ := xbs h
    refine x_to (l := [(0, .ref (M.2.1 k0)), (1, .int a1), (2, .int a2), (3, .int a3), (4, .int v9), (5, .int ((0 : Int32)))]) ⟨rfl, rfl, rfl, rfl, rfl, rfl, trivial⟩ ?_
    refine tX0_leastLateness_L46 o hnL n k0 a1 a3 v9 S z19 ?_ n a2 ((0 : Int32)) hz19
    obtain ⟨v20, hv20, h⟩ := xbs h
    refine x_iincE (pc := 86) o dX0_leastLateness_86 rfl ic_1 hn3 hv20 ?_
    refine x_goto (pc := 89) (tgt := 4) o dX0_leastLateness_89 (by decide) ?_
    refine x_to (l := [(0, .ref (M.2.1 k0)), (1, .int a1), (2, .int z19), (3, .int v20)]) ⟨rfl, rfl, rfl, rfl, trivial⟩ ?_
    exact hrec z19 v20 h
theorem tX0_leastLateness_L4 {Γ : xGm} {M : xMg} (o : xOk Γ tC M 2 cX0_leastLateness RX0) (hnL : Γ.2.2.2 = 6) (n : Nat) (k0 : Nat) (a1 : Int32) (S : xSt) (z : (Int32)) (K : xAt Γ tC M 92 (xlv [(2, .int z)]) [] S) : ∀ (q : Nat) (a2 : Int32) (a3 : Int32), fX0_leastLateness_L4 n k0 a1 S q a2 a3 = some z → xAt Γ tC M 4 (xlv [(0, .ref (M.2.1 k0)), (1, .int a1), (2, .int a2), (3, .int a3)]) [] S := by
  intro q
  induction q with
  | zero => intro a2 a3 h; cases h
  | succ q ih => intro a2 a3 h; exact tX0_leastLateness_L4b o hnL n k0 a1 S a2 a3 z ih K h
def fX0_leastLateness (n : Nat) (k0 : Nat) (a1 : Int32) (S : xSt) : Option (Int32) :=
  if tC.1 k0 = 0 then
  ((fX0_leastLateness_L4 n k0 a1 S n ((0 : Int32)) ((0 : Int32))).bind fun z22 => some z22)
  else none
theorem kX0_leastLateness {z : Int32} {n : Nat} {k0 : Nat} {a1 : Int32} {S : xSt} (h : fX0_leastLateness n k0 a1 S = some z) : tC.1 k0 = 0 := by
  unfold fX0_leastLateness at h
  exact (xck h).1
set_option maxHeartbeats 4000000 in
theorem tX0_leastLateness (l : Launch) (M : xMg) (A : Nat → Prop) (n : Nat) (k0 : Nat) (a1 : Int32) (S : xSt) (z : Int32) (h : fX0_leastLateness n k0 a1 S = some z) : xMI l yX0_leastLateness cX0_leastLateness 6 (some .int) 2 tC M A [.ref (M.2.1 k0), .int a1] S z S := by
  refine x_metI (plainFor_of_name (by decide)) tC_ok (Nat.le_of_ble_eq_true rfl) (fun Γ hA hnL hl hr o => ?_)
  subst hA; subst hl
  have o : xOk Γ tC M 2 cX0_leastLateness RX0 := o
  unfold fX0_leastLateness at h
  obtain ⟨hk0, h⟩ := xck h
  refine x_to (l := [(0, .ref (M.2.1 k0)), (1, .int a1)]) ⟨rfl, rfl, trivial⟩ ?_
  have hn2 : 2 < Γ.2.2.2 := by omega
  have hn3 : 3 < Γ.2.2.2 := by omega
  refine x_iconst (pc := 0) o dX0_leastLateness_0 ic_0 ?_
  refine x_istore_n (pc := 1) o dX0_leastLateness_1 rfl hn2 ?_
  refine x_iconst (pc := 2) o dX0_leastLateness_2 ic_0 ?_
  refine x_istore_n (pc := 3) o dX0_leastLateness_3 rfl hn3 ?_
  obtain ⟨z22, hz22, h⟩ := xbs h
  refine x_to (l := [(0, .ref (M.2.1 k0)), (1, .int a1), (2, .int ((0 : Int32))), (3, .int ((0 : Int32)))]) ⟨rfl, rfl, rfl, rfl, trivial⟩ ?_
  refine tX0_leastLateness_L4 o hnL n k0 a1 S z22 ?_ n ((0 : Int32)) ((0 : Int32)) hz22
  refine x_iload_n (pc := 92) o dX0_leastLateness_92 rfl rfl ?_
  exact x_ireturn (pc := 93) o hr dX0_leastLateness_93 (Option.some.inj h) rfl
def fX0_isWorthTrying_B39_2 (n : Nat) (rec : Int32 → Option ((Unit) ⊕ (Int32))) (k0 : Nat) (a1 : Int32) (a2 : Int32) (s0 : Int32) (S : xSt) : Option ((Unit) ⊕ (Int32)) :=
  if s0 = 0 then
  ((some (a2 + (1 : Int32))).bind fun v5 =>
  rec v5)
else
  ((xgF tC 0 0 k0 S).bind fun r6 =>
  (xgF tC 0 4 k0 S).bind fun r7 =>
  (xal tC r7 a2 S).bind fun v8 =>
  (xgM tC 0 3 k0 S).bind fun r9 =>
  (fX8_isFinished r6 v8 r9 S).bind fun v10 =>
  if v10 = 0 then
  ((xgF tC 0 0 k0 S).bind fun r11 =>
  (xgF tC 0 4 k0 S).bind fun r12 =>
  (xal tC r12 (a2 + ((1 : Int32))) S).bind fun v13 =>
  (xgM tC 0 3 k0 S).bind fun r14 =>
  (fX8_isFinished r11 v13 r14 S).bind fun v15 =>
  if v15 = 0 then
  ((some (a2 + (1 : Int32))).bind fun v16 =>
  rec v16)
else
  (some (.inr ((0 : Int32)))))
else
  (some (.inr ((0 : Int32)))))
set_option maxHeartbeats 4000000 in
theorem tX0_isWorthTrying_B39_2 {Γ : xGm} {M : xMg} (o : xOk Γ tC M 2 cX0_isWorthTrying RX0) (hnL : Γ.2.2.2 = 4) {rec : Int32 → Option ((Unit) ⊕ (Int32))} (n : Nat) (k0 : Nat) (a1 : Int32) (a2 : Int32) (s0 : Int32) (S : xSt) (z : ((Unit) ⊕ (Int32))) (hrec : ∀ (a2 : Int32), rec a2 = some z → xAt Γ tC M 2 (xlv [(0, .ref (M.2.1 k0)), (1, .int a1), (2, .int a2)]) [] S) (K : ∀ e, z = .inl e → xAt Γ tC M 94 (xlv []) [] S) (R : ∀ r, z = .inr r → xRI Γ tC M (some .boolean) r S) (h : fX0_isWorthTrying_B39_2 n rec k0 a1 a2 s0 S = some z) : xAt Γ tC M 39 (xlv [(0, .ref (M.2.1 k0)), (1, .int a1), (2, .int a2)]) [.int s0] S := by
  have hn2 : 2 < Γ.2.2.2 := by omega
  have hn3 : 3 < Γ.2.2.2 := by omega
  unfold fX0_isWorthTrying_B39_2 at h
  refine x_istore_n (pc := 39) o dX0_isWorthTrying_39 rfl hn3 ?_
  refine x_iload_n (pc := 40) o dX0_isWorthTrying_40 rfl rfl ?_
  refine x_if_eq (pc := 41) (tgt := 88) o dX0_isWorthTrying_41 (by decide) (fun c19 => ?_) (fun c19 => ?_)
  · have h := xit h c19
    obtain ⟨v5, hv5, h⟩ := xbs h
    refine x_iincE (pc := 88) o dX0_isWorthTrying_88 rfl ic_1 hn2 hv5 ?_
    refine x_goto (pc := 91) (tgt := 2) o dX0_isWorthTrying_91 (by decide) ?_
    refine x_to (l := [(0, .ref (M.2.1 k0)), (1, .int a1), (2, .int v5)]) ⟨rfl, rfl, rfl, trivial⟩ ?_
    exact hrec v5 h
  · have h := xif h c19
    refine x_aload_n (pc := 44) o dX0_isWorthTrying_44 rfl rfl ?_
    obtain ⟨r6, hr6, h⟩ := xbs h
    refine gX0_33 (pc := 45) o dX0_isWorthTrying_45 hr6 ?_
    refine x_aload_n (pc := 48) o dX0_isWorthTrying_48 rfl rfl ?_
    obtain ⟨r7, hr7, h⟩ := xbs h
    refine gX0_18 (pc := 49) o dX0_isWorthTrying_49 hr7 ?_
    refine x_iload_n (pc := 52) o dX0_isWorthTrying_52 rfl rfl ?_
    obtain ⟨v8, hv8, h⟩ := xbs h
    refine x_iaload (pc := 53) o dX0_isWorthTrying_53 hv8 ?_
    refine x_aload_n (pc := 54) o dX0_isWorthTrying_54 rfl rfl ?_
    obtain ⟨r9, hr9, h⟩ := xbs h
    refine gX0_29 (pc := 55) o dX0_isWorthTrying_55 hr9 ?_
    obtain ⟨v10, hv10, h⟩ := xbs h
    refine x_callI (pc := 58) (As := [.int v8, .ref (M.2.1 r9)]) (b := r6) (rest := []) o (tX8_isFinished _ M _ r6 v8 r9 S v10 hv10) eX8_isFinished mX0_96 clX8 (kX8_isFinished hv10) (by decide) rfl rfl (Nat.le_of_ble_eq_true rfl) dX0_isWorthTrying_58 ?_
    refine x_if_ne (pc := 61) (tgt := 86) o dX0_isWorthTrying_61 (by decide) (fun c18 => ?_) (fun c18 => ?_)
    · have h := xif h c18
      refine x_iconst (pc := 86) o dX0_isWorthTrying_86 ic_0 ?_
      exact x_zreturn (pc := 87) o (R _ (Option.some.inj h).symm) dX0_isWorthTrying_87 (by decide) rfl rfl
    · have h := xit h c18
      refine x_aload_n (pc := 64) o dX0_isWorthTrying_64 rfl rfl ?_
      obtain ⟨r11, hr11, h⟩ := xbs h
      refine gX0_33 (pc := 65) o dX0_isWorthTrying_65 hr11 ?_
      refine x_aload_n (pc := 68) o dX0_isWorthTrying_68 rfl rfl ?_
      obtain ⟨r12, hr12, h⟩ := xbs h
      refine gX0_18 (pc := 69) o dX0_isWorthTrying_69 hr12 ?_
      refine x_iload_n (pc := 72) o dX0_isWorthTrying_72 rfl rfl ?_
      refine x_iconst (pc := 73) o dX0_isWorthTrying_73 ic_1 ?_
      refine x_iadd (pc := 74) o dX0_isWorthTrying_74 ?_
      obtain ⟨v13, hv13, h⟩ := xbs h
      refine x_iaload (pc := 75) o dX0_isWorthTrying_75 hv13 ?_
      refine x_aload_n (pc := 76) o dX0_isWorthTrying_76 rfl rfl ?_
      obtain ⟨r14, hr14, h⟩ := xbs h
      refine gX0_29 (pc := 77) o dX0_isWorthTrying_77 hr14 ?_
      obtain ⟨v15, hv15, h⟩ := xbs h
      refine x_callI (pc := 80) (As := [.int v13, .ref (M.2.1 r14)]) (b := r11) (rest := []) o (tX8_isFinished _ M _ r11 v13 r14 S v15 hv15) eX8_isFinished mX0_96 clX8 (kX8_isFinished hv15) (by decide) rfl rfl (Nat.le_of_ble_eq_true rfl) dX0_isWorthTrying_80 ?_
      refine x_if_eq (pc := 83) (tgt := 88) o dX0_isWorthTrying_83 (by decide) (fun c17 => ?_) (fun c17 => ?_)
      · have h := xit h c17
        obtain ⟨v16, hv16, h⟩ := xbs h
        refine x_iincE (pc := 88) o dX0_isWorthTrying_88 rfl ic_1 hn2 hv16 ?_
        refine x_goto (pc := 91) (tgt := 2) o dX0_isWorthTrying_91 (by decide) ?_
        refine x_to (l := [(0, .ref (M.2.1 k0)), (1, .int a1), (2, .int v16)]) ⟨rfl, rfl, rfl, trivial⟩ ?_
        exact hrec v16 h
      · have h := xif h c17
        refine x_iconst (pc := 86) o dX0_isWorthTrying_86 ic_0 ?_
        exact x_zreturn (pc := 87) o (R _ (Option.some.inj h).symm) dX0_isWorthTrying_87 (by decide) rfl rfl
def fX0_isWorthTrying_L2b (n : Nat) (k0 : Nat) (a1 : Int32) (S : xSt) (rec : Int32 → Option ((Unit) ⊕ (Int32))) (a2 : Int32) : Option ((Unit) ⊕ (Int32)) :=
  if a1 ≤ (a2 + ((1 : Int32))) then
  (some (.inl ()))
else
  (if ((6 : Int32)) ≤ (a2 + ((1 : Int32))) then
  (some (.inl ()))
else
  ((xgF tC 0 4 k0 S).bind fun r1 =>
  (xal tC r1 a2 S).bind fun v2 =>
  (xgF tC 0 4 k0 S).bind fun r3 =>
  (xal tC r3 (a2 + ((1 : Int32))) S).bind fun v4 =>
  if v2 ≤ v4 then
  (fX0_isWorthTrying_B39_2 n rec k0 a1 a2 ((0 : Int32)) S)
else
  (fX0_isWorthTrying_B39_2 n rec k0 a1 a2 ((1 : Int32)) S)))
def fX0_isWorthTrying_L2 (n : Nat) (k0 : Nat) (a1 : Int32) (S : xSt) : Nat → Int32 → Option ((Unit) ⊕ (Int32))
  | 0 => fun _ => none
  | q + 1 => fX0_isWorthTrying_L2b n k0 a1 S (fX0_isWorthTrying_L2 n k0 a1 S q)
set_option maxHeartbeats 4000000 in
theorem tX0_isWorthTrying_L2b {Γ : xGm} {M : xMg} (o : xOk Γ tC M 2 cX0_isWorthTrying RX0) (hnL : Γ.2.2.2 = 4) {rec : Int32 → Option ((Unit) ⊕ (Int32))} (n : Nat) (k0 : Nat) (a1 : Int32) (S : xSt) (a2 : Int32) (z : ((Unit) ⊕ (Int32))) (hrec : ∀ (a2 : Int32), rec a2 = some z → xAt Γ tC M 2 (xlv [(0, .ref (M.2.1 k0)), (1, .int a1), (2, .int a2)]) [] S) (K : ∀ e, z = .inl e → xAt Γ tC M 94 (xlv []) [] S) (R : ∀ r, z = .inr r → xRI Γ tC M (some .boolean) r S) (h : fX0_isWorthTrying_L2b n k0 a1 S rec a2 = some z) : xAt Γ tC M 2 (xlv [(0, .ref (M.2.1 k0)), (1, .int a1), (2, .int a2)]) [] S := by
  unfold fX0_isWorthTrying_L2b at h
  refine x_iload_n (pc := 2) o dX0_isWorthTrying_2 rfl rfl ?_
  refine x_iconst (pc := 3) o dX0_isWorthTrying_3 ic_1 ?_
  refine x_iadd (pc := 4) o dX0_isWorthTrying_4 ?_
  refine x_iload_n (pc := 5) o dX0_isWorthTrying_5 rfl rfl ?_
  refine x_icmp_ge (pc := 6) (tgt := 94) o dX0_isWorthTrying_6 (by decide) (fun c22 => ?_) (fun c22 => ?_)
  · have h := xit h c22
    refine x_to (l := []) trivial ?_
    exact K _ (Option.some.inj h).symm
  · have h := xif h c22
    refine x_iload_n (pc := 9) o dX0_isWorthTrying_9 rfl rfl ?_
    refine x_iconst (pc := 10) o dX0_isWorthTrying_10 ic_1 ?_
    refine x_iadd (pc := 11) o dX0_isWorthTrying_11 ?_
    refine x_bipush (pc := 12) o dX0_isWorthTrying_12 bp_6 ?_
    refine x_icmp_ge (pc := 14) (tgt := 94) o dX0_isWorthTrying_14 (by decide) (fun c21 => ?_) (fun c21 => ?_)
    · have h := xit h c21
      refine x_to (l := []) trivial ?_
      exact K _ (Option.some.inj h).symm
    · have h := xif h c21
      refine x_aload_n (pc := 17) o dX0_isWorthTrying_17 rfl rfl ?_
      obtain ⟨r1, hr1, h⟩ := xbs h
      refine gX0_18 (pc := 18) o dX0_isWorthTrying_18 hr1 ?_
      refine x_iload_n (pc := 21) o dX0_isWorthTrying_21 rfl rfl ?_
      obtain ⟨v2, hv2, h⟩ := xbs h
      refine x_iaload (pc := 22) o dX0_isWorthTrying_22 hv2 ?_
      refine x_aload_n (pc := 23) o dX0_isWorthTrying_23 rfl rfl ?_
      obtain ⟨r3, hr3, h⟩ := xbs h
      refine gX0_18 (pc := 24) o dX0_isWorthTrying_24 hr3 ?_
      refine x_iload_n (pc := 27) o dX0_isWorthTrying_27 rfl rfl ?_
      refine x_iconst (pc := 28) o dX0_isWorthTrying_28 ic_1 ?_
      refine x_iadd (pc := 29) o dX0_isWorthTrying_29 ?_
      obtain ⟨v4, hv4, h⟩ := xbs h
      refine x_iaload (pc := 30) o dX0_isWorthTrying_30 hv4 ?_
      refine x_icmp_le (pc := 31) (tgt := 38) o dX0_isWorthTrying_31 (by decide) (fun c20 => ?_) (fun c20 => ?_)
      · have h := xit h c20
        refine x_iconst (pc := 38) o dX0_isWorthTrying_38 ic_0 ?_
        refine x_to (l := [(0, .ref (M.2.1 k0)), (1, .int a1), (2, .int a2)]) ⟨rfl, rfl, rfl, trivial⟩ ?_
        exact tX0_isWorthTrying_B39_2 o hnL n k0 a1 a2 ((0 : Int32)) S z hrec K R h
      · have h := xif h c20
        refine x_iconst (pc := 34) o dX0_isWorthTrying_34 ic_1 ?_
        refine x_goto (pc := 35) (tgt := 39) o dX0_isWorthTrying_35 (by decide) ?_
        refine x_to (l := [(0, .ref (M.2.1 k0)), (1, .int a1), (2, .int a2)]) ⟨rfl, rfl, rfl, trivial⟩ ?_
        exact tX0_isWorthTrying_B39_2 o hnL n k0 a1 a2 ((1 : Int32)) S z hrec K R h
theorem tX0_isWorthTrying_L2 {Γ : xGm} {M : xMg} (o : xOk Γ tC M 2 cX0_isWorthTrying RX0) (hnL : Γ.2.2.2 = 4) (n : Nat) (k0 : Nat) (a1 : Int32) (S : xSt) (z : ((Unit) ⊕ (Int32))) (K : ∀ e, z = .inl e → xAt Γ tC M 94 (xlv []) [] S) (R : ∀ r, z = .inr r → xRI Γ tC M (some .boolean) r S) : ∀ (q : Nat) (a2 : Int32), fX0_isWorthTrying_L2 n k0 a1 S q a2 = some z → xAt Γ tC M 2 (xlv [(0, .ref (M.2.1 k0)), (1, .int a1), (2, .int a2)]) [] S := by
  intro q
  induction q with
  | zero => intro a2 h; cases h
  | succ q ih => intro a2 h; exact tX0_isWorthTrying_L2b o hnL n k0 a1 S a2 z ih K R h
def fX0_isWorthTrying (n : Nat) (k0 : Nat) (a1 : Int32) (S : xSt) : Option (Int32) :=
  if tC.1 k0 = 0 then
  ((fX0_isWorthTrying_L2 n k0 a1 S n ((0 : Int32))).bind fun z23 => xel z23 (fun ez23 => some ((1 : Int32))) (fun r => some r))
  else none
theorem kX0_isWorthTrying {z : Int32} {n : Nat} {k0 : Nat} {a1 : Int32} {S : xSt} (h : fX0_isWorthTrying n k0 a1 S = some z) : tC.1 k0 = 0 := by
  unfold fX0_isWorthTrying at h
  exact (xck h).1
set_option maxHeartbeats 4000000 in
theorem tX0_isWorthTrying (l : Launch) (M : xMg) (A : Nat → Prop) (n : Nat) (k0 : Nat) (a1 : Int32) (S : xSt) (z : Int32) (h : fX0_isWorthTrying n k0 a1 S = some z) : xMI l yX0_isWorthTrying cX0_isWorthTrying 4 (some .boolean) 2 tC M A [.ref (M.2.1 k0), .int a1] S z S := by
  refine x_metI (plainFor_of_name (by decide)) tC_ok (Nat.le_of_ble_eq_true rfl) (fun Γ hA hnL hl hr o => ?_)
  subst hA; subst hl
  have o : xOk Γ tC M 2 cX0_isWorthTrying RX0 := o
  unfold fX0_isWorthTrying at h
  obtain ⟨hk0, h⟩ := xck h
  refine x_to (l := [(0, .ref (M.2.1 k0)), (1, .int a1)]) ⟨rfl, rfl, trivial⟩ ?_
  have hn2 : 2 < Γ.2.2.2 := by omega
  refine x_iconst (pc := 0) o dX0_isWorthTrying_0 ic_0 ?_
  refine x_istore_n (pc := 1) o dX0_isWorthTrying_1 rfl hn2 ?_
  obtain ⟨z23, hz23, h⟩ := xbs h
  refine x_to (l := [(0, .ref (M.2.1 k0)), (1, .int a1), (2, .int ((0 : Int32)))]) ⟨rfl, rfl, rfl, trivial⟩ ?_
  refine tX0_isWorthTrying_L2 o hnL n k0 a1 S z23 (fun ez23 he => ?_) (fun r he => ?_) n ((0 : Int32)) hz23
  · subst he; have h := xel_l h
    refine x_iconst (pc := 94) o dX0_isWorthTrying_94 ic_1 ?_
    exact x_zreturn (pc := 95) o hr dX0_isWorthTrying_95 (by decide) (Option.some.inj h) rfl
  · subst he; have h := xel_r h
    cases Option.some.inj h
    exact hr
def fX0_keepOrderIfBest (k0 : Nat) (S : xSt) : Option (xSt) :=
  if tC.1 k0 = 0 then
  ((xgF tC 0 2 k0 S).bind fun r1 =>
  (xgI tC 6 9 r1 S).bind fun v2 =>
  (xgI tC 0 6 k0 S).bind fun v3 =>
  if v3 ≤ v2 then
  (some S)
else
  ((xgF tC 0 2 k0 S).bind fun r4 =>
  (xgI tC 6 9 r4 S).bind fun v5 =>
  (xpI tC 0 6 k0 v5 S).bind fun S6 =>
  (xgF tC 0 4 k0 S6).bind fun r7 =>
  (xgF tC 0 5 k0 S6).bind fun r8 =>
  (xcp tC r7 ((0 : Int32)) r8 ((0 : Int32)) ((6 : Int32)) S6).bind fun S9 =>
  some S9))
  else none
theorem kX0_keepOrderIfBest {z : xSt} {k0 : Nat} {S : xSt} (h : fX0_keepOrderIfBest k0 S = some z) : tC.1 k0 = 0 := by
  unfold fX0_keepOrderIfBest at h
  exact (xck h).1
set_option maxHeartbeats 4000000 in
theorem tX0_keepOrderIfBest (l : Launch) (M : xMg) (A : Nat → Prop) (k0 : Nat) (S : xSt) (z : xSt) (h : fX0_keepOrderIfBest k0 S = some z) : xMV l yX0_keepOrderIfBest cX0_keepOrderIfBest 1 none 2 tC M A [.ref (M.2.1 k0)] S z := by
  refine x_metV (plainFor_of_name (by decide)) tC_ok (Nat.le_of_ble_eq_true rfl) (fun Γ hA hnL hl hr o => ?_)
  subst hA; subst hl
  have o : xOk Γ tC M 2 cX0_keepOrderIfBest RX0 := o
  unfold fX0_keepOrderIfBest at h
  obtain ⟨hk0, h⟩ := xck h
  refine x_to (l := [(0, .ref (M.2.1 k0))]) ⟨rfl, trivial⟩ ?_
  refine x_aload_n (pc := 0) o dX0_keepOrderIfBest_0 rfl rfl ?_
  obtain ⟨r1, hr1, h⟩ := xbs h
  refine gX0_41 (pc := 1) o dX0_keepOrderIfBest_1 hr1 ?_
  obtain ⟨v2, hv2, h⟩ := xbs h
  refine gX0_69 (pc := 4) o dX0_keepOrderIfBest_4 hv2 ?_
  refine x_aload_n (pc := 7) o dX0_keepOrderIfBest_7 rfl rfl ?_
  obtain ⟨v3, hv3, h⟩ := xbs h
  refine gX0_125 (pc := 8) o dX0_keepOrderIfBest_8 hv3 ?_
  refine x_icmp_ge (pc := 11) (tgt := 40) o dX0_keepOrderIfBest_11 (by decide) (fun c10 => ?_) (fun c10 => ?_)
  · have h := xit h c10
    exact x_vreturn (pc := 40) o hr dX0_keepOrderIfBest_40 (Option.some.inj h)
  · have h := xif h c10
    refine x_aload_n (pc := 14) o dX0_keepOrderIfBest_14 rfl rfl ?_
    refine x_aload_n (pc := 15) o dX0_keepOrderIfBest_15 rfl rfl ?_
    obtain ⟨r4, hr4, h⟩ := xbs h
    refine gX0_41 (pc := 16) o dX0_keepOrderIfBest_16 hr4 ?_
    obtain ⟨v5, hv5, h⟩ := xbs h
    refine gX0_69 (pc := 19) o dX0_keepOrderIfBest_19 hv5 ?_
    obtain ⟨S6, hS6, h⟩ := xbs h
    refine pX0_125 (pc := 22) o dX0_keepOrderIfBest_22 hS6 ?_
    refine x_aload_n (pc := 25) o dX0_keepOrderIfBest_25 rfl rfl ?_
    obtain ⟨r7, hr7, h⟩ := xbs h
    refine gX0_18 (pc := 26) o dX0_keepOrderIfBest_26 hr7 ?_
    refine x_iconst (pc := 29) o dX0_keepOrderIfBest_29 ic_0 ?_
    refine x_aload_n (pc := 30) o dX0_keepOrderIfBest_30 rfl rfl ?_
    obtain ⟨r8, hr8, h⟩ := xbs h
    refine gX0_22 (pc := 31) o dX0_keepOrderIfBest_31 hr8 ?_
    refine x_iconst (pc := 34) o dX0_keepOrderIfBest_34 ic_0 ?_
    refine x_bipush (pc := 35) o dX0_keepOrderIfBest_35 bp_6 ?_
    obtain ⟨S9, hS9, h⟩ := xbs h
    refine x_copy (pc := 37) o mX0_135 w_cp1 w_cp2 w_cp3 (by decide) (by decide) dX0_keepOrderIfBest_37 hS9 ?_
    exact x_vreturn (pc := 40) o hr dX0_keepOrderIfBest_40 (Option.some.inj h)
def fX0_exchange (k0 : Nat) (a1 : Int32) (a2 : Int32) (S : xSt) : Option (xSt) :=
  if tC.1 k0 = 0 then
  (if a1 < 0 then
  (some S)
else
  (if ((6 : Int32)) ≤ a1 then
  (some S)
else
  (if a2 < 0 then
  (some S)
else
  (if a2 < ((6 : Int32)) then
  ((xgF tC 0 4 k0 S).bind fun r1 =>
  (xal tC r1 a1 S).bind fun v2 =>
  (xgF tC 0 4 k0 S).bind fun r3 =>
  (xgF tC 0 4 k0 S).bind fun r4 =>
  (xal tC r4 a2 S).bind fun v5 =>
  (xas tC r3 a1 v5 S).bind fun S6 =>
  (xgF tC 0 4 k0 S6).bind fun r7 =>
  (xas tC r7 a2 v2 S6).bind fun S8 =>
  some S8)
else
  (some S)))))
  else none
theorem kX0_exchange {z : xSt} {k0 : Nat} {a1 : Int32} {a2 : Int32} {S : xSt} (h : fX0_exchange k0 a1 a2 S = some z) : tC.1 k0 = 0 := by
  unfold fX0_exchange at h
  exact (xck h).1
set_option maxHeartbeats 4000000 in
theorem tX0_exchange (l : Launch) (M : xMg) (A : Nat → Prop) (k0 : Nat) (a1 : Int32) (a2 : Int32) (S : xSt) (z : xSt) (h : fX0_exchange k0 a1 a2 S = some z) : xMV l yX0_exchange cX0_exchange 4 none 1 tC M A [.ref (M.2.1 k0), .int a1, .int a2] S z := by
  refine x_metV (plainFor_of_name (by decide)) tC_ok (Nat.le_of_ble_eq_true rfl) (fun Γ hA hnL hl hr o => ?_)
  subst hA; subst hl
  have o : xOk Γ tC M 1 cX0_exchange RX0 := o
  unfold fX0_exchange at h
  obtain ⟨hk0, h⟩ := xck h
  refine x_to (l := [(0, .ref (M.2.1 k0)), (1, .int a1), (2, .int a2)]) ⟨rfl, rfl, rfl, trivial⟩ ?_
  have hn3 : 3 < Γ.2.2.2 := by omega
  refine x_iload_n (pc := 0) o dX0_exchange_0 rfl rfl ?_
  refine x_if_lt (pc := 1) (tgt := 20) o dX0_exchange_1 (by decide) (fun c12 => ?_) (fun c12 => ?_)
  · have h := xit h c12
    exact x_vreturn (pc := 20) o hr dX0_exchange_20 (Option.some.inj h)
  · have h := xif h c12
    refine x_iload_n (pc := 4) o dX0_exchange_4 rfl rfl ?_
    refine x_bipush (pc := 5) o dX0_exchange_5 bp_6 ?_
    refine x_icmp_ge (pc := 7) (tgt := 20) o dX0_exchange_7 (by decide) (fun c11 => ?_) (fun c11 => ?_)
    · have h := xit h c11
      exact x_vreturn (pc := 20) o hr dX0_exchange_20 (Option.some.inj h)
    · have h := xif h c11
      refine x_iload_n (pc := 10) o dX0_exchange_10 rfl rfl ?_
      refine x_if_lt (pc := 11) (tgt := 20) o dX0_exchange_11 (by decide) (fun c10 => ?_) (fun c10 => ?_)
      · have h := xit h c10
        exact x_vreturn (pc := 20) o hr dX0_exchange_20 (Option.some.inj h)
      · have h := xif h c10
        refine x_iload_n (pc := 14) o dX0_exchange_14 rfl rfl ?_
        refine x_bipush (pc := 15) o dX0_exchange_15 bp_6 ?_
        refine x_icmp_lt (pc := 17) (tgt := 21) o dX0_exchange_17 (by decide) (fun c9 => ?_) (fun c9 => ?_)
        · have h := xit h c9
          refine x_aload_n (pc := 21) o dX0_exchange_21 rfl rfl ?_
          obtain ⟨r1, hr1, h⟩ := xbs h
          refine gX0_18 (pc := 22) o dX0_exchange_22 hr1 ?_
          refine x_iload_n (pc := 25) o dX0_exchange_25 rfl rfl ?_
          obtain ⟨v2, hv2, h⟩ := xbs h
          refine x_iaload (pc := 26) o dX0_exchange_26 hv2 ?_
          refine x_istore_n (pc := 27) o dX0_exchange_27 rfl hn3 ?_
          refine x_aload_n (pc := 28) o dX0_exchange_28 rfl rfl ?_
          obtain ⟨r3, hr3, h⟩ := xbs h
          refine gX0_18 (pc := 29) o dX0_exchange_29 hr3 ?_
          refine x_iload_n (pc := 32) o dX0_exchange_32 rfl rfl ?_
          refine x_aload_n (pc := 33) o dX0_exchange_33 rfl rfl ?_
          obtain ⟨r4, hr4, h⟩ := xbs h
          refine gX0_18 (pc := 34) o dX0_exchange_34 hr4 ?_
          refine x_iload_n (pc := 37) o dX0_exchange_37 rfl rfl ?_
          obtain ⟨v5, hv5, h⟩ := xbs h
          refine x_iaload (pc := 38) o dX0_exchange_38 hv5 ?_
          obtain ⟨S6, hS6, h⟩ := xbs h
          refine x_iastore (pc := 39) o dX0_exchange_39 hS6 ?_
          refine x_aload_n (pc := 40) o dX0_exchange_40 rfl rfl ?_
          obtain ⟨r7, hr7, h⟩ := xbs h
          refine gX0_18 (pc := 41) o dX0_exchange_41 hr7 ?_
          refine x_iload_n (pc := 44) o dX0_exchange_44 rfl rfl ?_
          refine x_iload_n (pc := 45) o dX0_exchange_45 rfl rfl ?_
          obtain ⟨S8, hS8, h⟩ := xbs h
          refine x_iastore (pc := 46) o dX0_exchange_46 hS8 ?_
          exact x_vreturn (pc := 47) o hr dX0_exchange_47 (Option.some.inj h)
        · have h := xif h c9
          exact x_vreturn (pc := 20) o hr dX0_exchange_20 (Option.some.inj h)
def fX0_turnToNextRow_L4b (n : Nat) (k0 : Nat) (a1 : Int32) (rec : Int32 → xSt → Option (Int32 × xSt)) (a2 : Int32) (S : xSt) : Option (Int32 × xSt) :=
  if a2 < 0 then
  (some (a2, S))
else
  ((xgF tC 0 4 k0 S).bind fun r2 =>
  (xal tC r2 a2 S).bind fun v3 =>
  (xgF tC 0 4 k0 S).bind fun r4 =>
  (xal tC r4 (a2 + ((1 : Int32))) S).bind fun v5 =>
  if v3 ≤ v5 then
  (some (a2, S))
else
  ((some (a2 + (-1 : Int32))).bind fun v6 =>
  rec v6 S))
def fX0_turnToNextRow_L4 (n : Nat) (k0 : Nat) (a1 : Int32) : Nat → Int32 → xSt → Option (Int32 × xSt)
  | 0 => fun _ _ => none
  | q + 1 => fX0_turnToNextRow_L4b n k0 a1 (fX0_turnToNextRow_L4 n k0 a1 q)
set_option maxHeartbeats 4000000 in
theorem tX0_turnToNextRow_L4b {Γ : xGm} {M : xMg} (o : xOk Γ tC M 2 cX0_turnToNextRow RX0) (hnL : Γ.2.2.2 = 6) {rec : Int32 → xSt → Option (Int32 × xSt)} (n : Nat) (k0 : Nat) (a1 : Int32) (a2 : Int32) (S : xSt) (z : (Int32 × xSt)) (hrec : ∀ (a2 : Int32) (S : xSt), rec a2 S = some z → xAt Γ tC M 4 (xlv [(0, .ref (M.2.1 k0)), (1, .int a1), (2, .int a2)]) [] S) (K : xAt Γ tC M 31 (xlv [(0, .ref (M.2.1 k0)), (1, .int a1), (2, .int z.1)]) [] z.2) (h : fX0_turnToNextRow_L4b n k0 a1 rec a2 S = some z) : xAt Γ tC M 4 (xlv [(0, .ref (M.2.1 k0)), (1, .int a1), (2, .int a2)]) [] S := by
  have hn2 : 2 < Γ.2.2.2 := by omega
  unfold fX0_turnToNextRow_L4b at h
  refine x_iload_n (pc := 4) o dX0_turnToNextRow_4 rfl rfl ?_
  refine x_if_lt (pc := 5) (tgt := 31) o dX0_turnToNextRow_5 (by decide) (fun c8 => ?_) (fun c8 => ?_)
  · have h := xit h c8
    refine x_to (l := [(0, .ref (M.2.1 k0)), (1, .int a1), (2, .int a2)]) ⟨rfl, rfl, rfl, trivial⟩ ?_
    cases Option.some.inj h
    exact K
  · have h := xif h c8
    refine x_aload_n (pc := 8) o dX0_turnToNextRow_8 rfl rfl ?_
    obtain ⟨r2, hr2, h⟩ := xbs h
    refine gX0_18 (pc := 9) o dX0_turnToNextRow_9 hr2 ?_
    refine x_iload_n (pc := 12) o dX0_turnToNextRow_12 rfl rfl ?_
    obtain ⟨v3, hv3, h⟩ := xbs h
    refine x_iaload (pc := 13) o dX0_turnToNextRow_13 hv3 ?_
    refine x_aload_n (pc := 14) o dX0_turnToNextRow_14 rfl rfl ?_
    obtain ⟨r4, hr4, h⟩ := xbs h
    refine gX0_18 (pc := 15) o dX0_turnToNextRow_15 hr4 ?_
    refine x_iload_n (pc := 18) o dX0_turnToNextRow_18 rfl rfl ?_
    refine x_iconst (pc := 19) o dX0_turnToNextRow_19 ic_1 ?_
    refine x_iadd (pc := 20) o dX0_turnToNextRow_20 ?_
    obtain ⟨v5, hv5, h⟩ := xbs h
    refine x_iaload (pc := 21) o dX0_turnToNextRow_21 hv5 ?_
    refine x_icmp_le (pc := 22) (tgt := 31) o dX0_turnToNextRow_22 (by decide) (fun c7 => ?_) (fun c7 => ?_)
    · have h := xit h c7
      refine x_to (l := [(0, .ref (M.2.1 k0)), (1, .int a1), (2, .int a2)]) ⟨rfl, rfl, rfl, trivial⟩ ?_
      cases Option.some.inj h
      exact K
    · have h := xif h c7
      obtain ⟨v6, hv6, h⟩ := xbs h
      refine x_iincE (pc := 25) o dX0_turnToNextRow_25 rfl ic_m1 hn2 hv6 ?_
      refine x_goto (pc := 28) (tgt := 4) o dX0_turnToNextRow_28 (by decide) ?_
      refine x_to (l := [(0, .ref (M.2.1 k0)), (1, .int a1), (2, .int v6)]) ⟨rfl, rfl, rfl, trivial⟩ ?_
      exact hrec v6 S h
theorem tX0_turnToNextRow_L4 {Γ : xGm} {M : xMg} (o : xOk Γ tC M 2 cX0_turnToNextRow RX0) (hnL : Γ.2.2.2 = 6) (n : Nat) (k0 : Nat) (a1 : Int32) (z : (Int32 × xSt)) (K : xAt Γ tC M 31 (xlv [(0, .ref (M.2.1 k0)), (1, .int a1), (2, .int z.1)]) [] z.2) : ∀ (q : Nat) (a2 : Int32) (S : xSt), fX0_turnToNextRow_L4 n k0 a1 q a2 S = some z → xAt Γ tC M 4 (xlv [(0, .ref (M.2.1 k0)), (1, .int a1), (2, .int a2)]) [] S := by
  intro q
  induction q with
  | zero => intro a2 S h; cases h
  | succ q ih => intro a2 S h; exact tX0_turnToNextRow_L4b o hnL n k0 a1 a2 S z ih K h
def fX0_turnToNextRow_L41b (n : Nat) (k0 : Nat) (a1 : Int32) (a2 : Int32) (rec : Int32 → xSt → Option (Int32 × xSt)) (a3 : Int32) (S : xSt) : Option (Int32 × xSt) :=
  if a3 ≤ a2 then
  (some (a3, S))
else
  ((xgF tC 0 4 k0 S).bind fun r11 =>
  (xal tC r11 a3 S).bind fun v12 =>
  (xgF tC 0 4 k0 S).bind fun r13 =>
  (xal tC r13 a2 S).bind fun v14 =>
  if v14 ≤ v12 then
  (some (a3, S))
else
  ((some (a3 + (-1 : Int32))).bind fun v15 =>
  rec v15 S))
def fX0_turnToNextRow_L41 (n : Nat) (k0 : Nat) (a1 : Int32) (a2 : Int32) : Nat → Int32 → xSt → Option (Int32 × xSt)
  | 0 => fun _ _ => none
  | q + 1 => fX0_turnToNextRow_L41b n k0 a1 a2 (fX0_turnToNextRow_L41 n k0 a1 a2 q)
set_option maxHeartbeats 4000000 in
theorem tX0_turnToNextRow_L41b {Γ : xGm} {M : xMg} (o : xOk Γ tC M 2 cX0_turnToNextRow RX0) (hnL : Γ.2.2.2 = 6) {rec : Int32 → xSt → Option (Int32 × xSt)} (n : Nat) (k0 : Nat) (a1 : Int32) (a2 : Int32) (a3 : Int32) (S : xSt) (z : (Int32 × xSt)) (hrec : ∀ (a3 : Int32) (S : xSt), rec a3 S = some z → xAt Γ tC M 41 (xlv [(0, .ref (M.2.1 k0)), (1, .int a1), (2, .int a2), (3, .int a3)]) [] S) (K : xAt Γ tC M 67 (xlv [(0, .ref (M.2.1 k0)), (1, .int a1), (2, .int a2), (3, .int z.1)]) [] z.2) (h : fX0_turnToNextRow_L41b n k0 a1 a2 rec a3 S = some z) : xAt Γ tC M 41 (xlv [(0, .ref (M.2.1 k0)), (1, .int a1), (2, .int a2), (3, .int a3)]) [] S := by
  have hn3 : 3 < Γ.2.2.2 := by omega
  unfold fX0_turnToNextRow_L41b at h
  refine x_iload_n (pc := 41) o dX0_turnToNextRow_41 rfl rfl ?_
  refine x_iload_n (pc := 42) o dX0_turnToNextRow_42 rfl rfl ?_
  refine x_icmp_le (pc := 43) (tgt := 67) o dX0_turnToNextRow_43 (by decide) (fun c17 => ?_) (fun c17 => ?_)
  · have h := xit h c17
    refine x_to (l := [(0, .ref (M.2.1 k0)), (1, .int a1), (2, .int a2), (3, .int a3)]) ⟨rfl, rfl, rfl, rfl, trivial⟩ ?_
    cases Option.some.inj h
    exact K
  · have h := xif h c17
    refine x_aload_n (pc := 46) o dX0_turnToNextRow_46 rfl rfl ?_
    obtain ⟨r11, hr11, h⟩ := xbs h
    refine gX0_18 (pc := 47) o dX0_turnToNextRow_47 hr11 ?_
    refine x_iload_n (pc := 50) o dX0_turnToNextRow_50 rfl rfl ?_
    obtain ⟨v12, hv12, h⟩ := xbs h
    refine x_iaload (pc := 51) o dX0_turnToNextRow_51 hv12 ?_
    refine x_aload_n (pc := 52) o dX0_turnToNextRow_52 rfl rfl ?_
    obtain ⟨r13, hr13, h⟩ := xbs h
    refine gX0_18 (pc := 53) o dX0_turnToNextRow_53 hr13 ?_
    refine x_iload_n (pc := 56) o dX0_turnToNextRow_56 rfl rfl ?_
    obtain ⟨v14, hv14, h⟩ := xbs h
    refine x_iaload (pc := 57) o dX0_turnToNextRow_57 hv14 ?_
    refine x_icmp_ge (pc := 58) (tgt := 67) o dX0_turnToNextRow_58 (by decide) (fun c16 => ?_) (fun c16 => ?_)
    · have h := xit h c16
      refine x_to (l := [(0, .ref (M.2.1 k0)), (1, .int a1), (2, .int a2), (3, .int a3)]) ⟨rfl, rfl, rfl, rfl, trivial⟩ ?_
      cases Option.some.inj h
      exact K
    · have h := xif h c16
      obtain ⟨v15, hv15, h⟩ := xbs h
      refine x_iincE (pc := 61) o dX0_turnToNextRow_61 rfl ic_m1 hn3 hv15 ?_
      refine x_goto (pc := 64) (tgt := 41) o dX0_turnToNextRow_64 (by decide) ?_
      refine x_to (l := [(0, .ref (M.2.1 k0)), (1, .int a1), (2, .int a2), (3, .int v15)]) ⟨rfl, rfl, rfl, rfl, trivial⟩ ?_
      exact hrec v15 S h
theorem tX0_turnToNextRow_L41 {Γ : xGm} {M : xMg} (o : xOk Γ tC M 2 cX0_turnToNextRow RX0) (hnL : Γ.2.2.2 = 6) (n : Nat) (k0 : Nat) (a1 : Int32) (a2 : Int32) (z : (Int32 × xSt)) (K : xAt Γ tC M 67 (xlv [(0, .ref (M.2.1 k0)), (1, .int a1), (2, .int a2), (3, .int z.1)]) [] z.2) : ∀ (q : Nat) (a3 : Int32) (S : xSt), fX0_turnToNextRow_L41 n k0 a1 a2 q a3 S = some z → xAt Γ tC M 41 (xlv [(0, .ref (M.2.1 k0)), (1, .int a1), (2, .int a2), (3, .int a3)]) [] S := by
  intro q
  induction q with
  | zero => intro a3 S h; cases h
  | succ q ih => intro a3 S h; exact tX0_turnToNextRow_L41b o hnL n k0 a1 a2 a3 S z ih K h
def fX0_turnToNextRow_L83b (n : Nat) (k0 : Nat) (rec : Int32 → Int32 → xSt → Option (xSt)) (a4 : Int32) (a5 : Int32) (S : xSt) : Option (xSt) :=
  if a5 ≤ a4 then
  (some S)
else
  ((fX0_exchange k0 a4 a5 S).bind fun S22 =>
  (some (a4 + (1 : Int32))).bind fun v23 =>
  (some (a5 + (-1 : Int32))).bind fun v24 =>
  rec v23 v24 S22)
def fX0_turnToNextRow_L83 (n : Nat) (k0 : Nat) : Nat → Int32 → Int32 → xSt → Option (xSt)
  | 0 => fun _ _ _ => none
  | q + 1 => fX0_turnToNextRow_L83b n k0 (fX0_turnToNextRow_L83 n k0 q)
set_option maxHeartbeats 4000000 in
theorem tX0_turnToNextRow_L83b {Γ : xGm} {M : xMg} (o : xOk Γ tC M 2 cX0_turnToNextRow RX0) (hnL : Γ.2.2.2 = 6) {rec : Int32 → Int32 → xSt → Option (xSt)} (n : Nat) (k0 : Nat) (a4 : Int32) (a5 : Int32) (S : xSt) (z : (xSt)) (hrec : ∀ (a4 : Int32) (a5 : Int32) (S : xSt), rec a4 a5 S = some z → xAt Γ tC M 83 (xlv [(0, .ref (M.2.1 k0)), (4, .int a4), (5, .int a5)]) [] S) (K : xAt Γ tC M 107 (xlv []) [] z) (h : fX0_turnToNextRow_L83b n k0 rec a4 a5 S = some z) : xAt Γ tC M 83 (xlv [(0, .ref (M.2.1 k0)), (4, .int a4), (5, .int a5)]) [] S := by
  have hn4 : 4 < Γ.2.2.2 := by omega
  have hn5 : 5 < Γ.2.2.2 := by omega
  unfold fX0_turnToNextRow_L83b at h
  refine x_iload (pc := 83) o dX0_turnToNextRow_83 rfl ?_
  refine x_iload (pc := 85) o dX0_turnToNextRow_85 rfl ?_
  refine x_icmp_ge (pc := 87) (tgt := 107) o dX0_turnToNextRow_87 (by decide) (fun c25 => ?_) (fun c25 => ?_)
  · have h := xit h c25
    refine x_to (l := []) trivial ?_
    cases Option.some.inj h
    exact K
  · have h := xif h c25
    refine x_aload_n (pc := 90) o dX0_turnToNextRow_90 rfl rfl ?_
    refine x_iload (pc := 91) o dX0_turnToNextRow_91 rfl ?_
    refine x_iload (pc := 93) o dX0_turnToNextRow_93 rfl ?_
    obtain ⟨S22, hS22, h⟩ := xbs h
    refine x_callV (pc := 95) (As := [.int a4, .int a5]) (b := k0) (rest := []) o (tX0_exchange _ M _ k0 a4 a5 S S22 hS22) eX0_exchange mX0_147 clX0 (kX0_exchange hS22) (by decide) rfl rfl (Nat.le_of_ble_eq_true rfl) dX0_turnToNextRow_95 ?_
    obtain ⟨v23, hv23, h⟩ := xbs h
    refine x_iincE (pc := 98) o dX0_turnToNextRow_98 rfl ic_1 hn4 hv23 ?_
    obtain ⟨v24, hv24, h⟩ := xbs h
    refine x_iincE (pc := 101) o dX0_turnToNextRow_101 rfl ic_m1 hn5 hv24 ?_
    refine x_goto (pc := 104) (tgt := 83) o dX0_turnToNextRow_104 (by decide) ?_
    refine x_to (l := [(0, .ref (M.2.1 k0)), (4, .int v23), (5, .int v24)]) ⟨rfl, rfl, rfl, trivial⟩ ?_
    exact hrec v23 v24 S22 h
theorem tX0_turnToNextRow_L83 {Γ : xGm} {M : xMg} (o : xOk Γ tC M 2 cX0_turnToNextRow RX0) (hnL : Γ.2.2.2 = 6) (n : Nat) (k0 : Nat) (z : (xSt)) (K : xAt Γ tC M 107 (xlv []) [] z) : ∀ (q : Nat) (a4 : Int32) (a5 : Int32) (S : xSt), fX0_turnToNextRow_L83 n k0 q a4 a5 S = some z → xAt Γ tC M 83 (xlv [(0, .ref (M.2.1 k0)), (4, .int a4), (5, .int a5)]) [] S := by
  intro q
  induction q with
  | zero => intro a4 a5 S h; cases h
  | succ q ih => intro a4 a5 S h; exact tX0_turnToNextRow_L83b o hnL n k0 a4 a5 S z ih K h
def fX0_turnToNextRow_B67 (n : Nat) (k0 : Nat) (a1 : Int32) (a2 : Int32) (a3 : Int32) (S : xSt) : Option (Int32 × xSt) :=
  (fX0_exchange k0 a2 a3 S).bind fun S19 =>
  (some (a2 + ((1 : Int32)))).bind fun v20 =>
  (some (a1 - ((1 : Int32)))).bind fun v21 =>
  (fX0_turnToNextRow_L83 n k0 n v20 v21 S19).bind fun z26 => some ((1 : Int32), z26)
set_option maxHeartbeats 4000000 in
theorem tX0_turnToNextRow_B67 {Γ : xGm} {M : xMg} (o : xOk Γ tC M 2 cX0_turnToNextRow RX0) (hnL : Γ.2.2.2 = 6) (n : Nat) (k0 : Nat) (a1 : Int32) (a2 : Int32) (a3 : Int32) (S : xSt) (z : (Int32 × xSt)) (hr : xRI Γ tC M (some .boolean) z.1 z.2) (h : fX0_turnToNextRow_B67 n k0 a1 a2 a3 S = some z) : xAt Γ tC M 67 (xlv [(0, .ref (M.2.1 k0)), (1, .int a1), (2, .int a2), (3, .int a3)]) [] S := by
  have hn4 : 4 < Γ.2.2.2 := by omega
  have hn5 : 5 < Γ.2.2.2 := by omega
  unfold fX0_turnToNextRow_B67 at h
  refine x_aload_n (pc := 67) o dX0_turnToNextRow_67 rfl rfl ?_
  refine x_iload_n (pc := 68) o dX0_turnToNextRow_68 rfl rfl ?_
  refine x_iload_n (pc := 69) o dX0_turnToNextRow_69 rfl rfl ?_
  obtain ⟨S19, hS19, h⟩ := xbs h
  refine x_callV (pc := 70) (As := [.int a2, .int a3]) (b := k0) (rest := []) o (tX0_exchange _ M _ k0 a2 a3 S S19 hS19) eX0_exchange mX0_147 clX0 (kX0_exchange hS19) (by decide) rfl rfl (Nat.le_of_ble_eq_true rfl) dX0_turnToNextRow_70 ?_
  refine x_iload_n (pc := 73) o dX0_turnToNextRow_73 rfl rfl ?_
  refine x_iconst (pc := 74) o dX0_turnToNextRow_74 ic_1 ?_
  refine x_iadd (pc := 75) o dX0_turnToNextRow_75 ?_
  obtain ⟨v20, hv20, h⟩ := xbs h
  refine x_istoreE (pc := 76) o dX0_turnToNextRow_76 hn4 hv20 ?_
  refine x_iload_n (pc := 78) o dX0_turnToNextRow_78 rfl rfl ?_
  refine x_iconst (pc := 79) o dX0_turnToNextRow_79 ic_1 ?_
  refine x_isub (pc := 80) o dX0_turnToNextRow_80 ?_
  obtain ⟨v21, hv21, h⟩ := xbs h
  refine x_istoreE (pc := 81) o dX0_turnToNextRow_81 hn5 hv21 ?_
  obtain ⟨z26, hz26, h⟩ := xbs h
  refine x_to (l := [(0, .ref (M.2.1 k0)), (4, .int v20), (5, .int v21)]) ⟨rfl, rfl, rfl, trivial⟩ ?_
  refine tX0_turnToNextRow_L83 o hnL n k0 z26 ?_ n v20 v21 S19 hz26
  refine x_iconst (pc := 107) o dX0_turnToNextRow_107 ic_1 ?_
  exact x_zreturn (pc := 108) o hr dX0_turnToNextRow_108 (by decide) (xr1 h) (xr2 h)
def fX0_turnToNextRow_B31 (n : Nat) (k0 : Nat) (a1 : Int32) (a2 : Int32) (S : xSt) : Option (Int32 × xSt) :=
  if 0 ≤ a2 then
  ((some (a1 - ((1 : Int32)))).bind fun v10 =>
  (fX0_turnToNextRow_L41 n k0 a1 a2 n v10 S).bind fun z18 => fX0_turnToNextRow_B67 n k0 a1 a2 z18.1 z18.2)
else
  (some ((0 : Int32), S))
set_option maxHeartbeats 4000000 in
theorem tX0_turnToNextRow_B31 {Γ : xGm} {M : xMg} (o : xOk Γ tC M 2 cX0_turnToNextRow RX0) (hnL : Γ.2.2.2 = 6) (n : Nat) (k0 : Nat) (a1 : Int32) (a2 : Int32) (S : xSt) (z : (Int32 × xSt)) (hr : xRI Γ tC M (some .boolean) z.1 z.2) (h : fX0_turnToNextRow_B31 n k0 a1 a2 S = some z) : xAt Γ tC M 31 (xlv [(0, .ref (M.2.1 k0)), (1, .int a1), (2, .int a2)]) [] S := by
  have hn3 : 3 < Γ.2.2.2 := by omega
  unfold fX0_turnToNextRow_B31 at h
  refine x_iload_n (pc := 31) o dX0_turnToNextRow_31 rfl rfl ?_
  refine x_if_ge (pc := 32) (tgt := 37) o dX0_turnToNextRow_32 (by decide) (fun c27 => ?_) (fun c27 => ?_)
  · have h := xit h c27
    refine x_iload_n (pc := 37) o dX0_turnToNextRow_37 rfl rfl ?_
    refine x_iconst (pc := 38) o dX0_turnToNextRow_38 ic_1 ?_
    refine x_isub (pc := 39) o dX0_turnToNextRow_39 ?_
    obtain ⟨v10, hv10, h⟩ := xbs h
    refine x_istore_nE (pc := 40) o dX0_turnToNextRow_40 rfl hn3 hv10 ?_
    obtain ⟨z18, hz18, h⟩ := xbs h
    refine x_to (l := [(0, .ref (M.2.1 k0)), (1, .int a1), (2, .int a2), (3, .int v10)]) ⟨rfl, rfl, rfl, rfl, trivial⟩ ?_
    refine tX0_turnToNextRow_L41 o hnL n k0 a1 a2 z18 ?_ n v10 S hz18
    refine x_to (l := [(0, .ref (M.2.1 k0)), (1, .int a1), (2, .int a2), (3, .int z18.1)]) ⟨rfl, rfl, rfl, rfl, trivial⟩ ?_
    exact tX0_turnToNextRow_B67 o hnL n k0 a1 a2 z18.1 z18.2 z hr h
  · have h := xif h c27
    refine x_iconst (pc := 35) o dX0_turnToNextRow_35 ic_0 ?_
    exact x_zreturn (pc := 36) o hr dX0_turnToNextRow_36 (by decide) (xr1 h) (xr2 h)
def fX0_turnToNextRow (n : Nat) (k0 : Nat) (a1 : Int32) (S : xSt) : Option (Int32 × xSt) :=
  if tC.1 k0 = 0 then
  ((some (a1 - ((2 : Int32)))).bind fun v1 =>
  (fX0_turnToNextRow_L4 n k0 a1 n v1 S).bind fun z9 => fX0_turnToNextRow_B31 n k0 a1 z9.1 z9.2)
  else none
theorem kX0_turnToNextRow {z : Int32 × xSt} {n : Nat} {k0 : Nat} {a1 : Int32} {S : xSt} (h : fX0_turnToNextRow n k0 a1 S = some z) : tC.1 k0 = 0 := by
  unfold fX0_turnToNextRow at h
  exact (xck h).1
set_option maxHeartbeats 4000000 in
theorem tX0_turnToNextRow (l : Launch) (M : xMg) (A : Nat → Prop) (n : Nat) (k0 : Nat) (a1 : Int32) (S : xSt) (z : Int32 × xSt) (h : fX0_turnToNextRow n k0 a1 S = some z) : xMI l yX0_turnToNextRow cX0_turnToNextRow 6 (some .boolean) 2 tC M A [.ref (M.2.1 k0), .int a1] S z.1 z.2 := by
  refine x_metI (plainFor_of_name (by decide)) tC_ok (Nat.le_of_ble_eq_true rfl) (fun Γ hA hnL hl hr o => ?_)
  subst hA; subst hl
  have o : xOk Γ tC M 2 cX0_turnToNextRow RX0 := o
  unfold fX0_turnToNextRow at h
  obtain ⟨hk0, h⟩ := xck h
  refine x_to (l := [(0, .ref (M.2.1 k0)), (1, .int a1)]) ⟨rfl, rfl, trivial⟩ ?_
  have hn2 : 2 < Γ.2.2.2 := by omega
  refine x_iload_n (pc := 0) o dX0_turnToNextRow_0 rfl rfl ?_
  refine x_iconst (pc := 1) o dX0_turnToNextRow_1 ic_2 ?_
  refine x_isub (pc := 2) o dX0_turnToNextRow_2 ?_
  obtain ⟨v1, hv1, h⟩ := xbs h
  refine x_istore_nE (pc := 3) o dX0_turnToNextRow_3 rfl hn2 hv1 ?_
  obtain ⟨z9, hz9, h⟩ := xbs h
  refine x_to (l := [(0, .ref (M.2.1 k0)), (1, .int a1), (2, .int v1)]) ⟨rfl, rfl, rfl, trivial⟩ ?_
  refine tX0_turnToNextRow_L4 o hnL n k0 a1 z9 ?_ n v1 S hz9
  refine x_to (l := [(0, .ref (M.2.1 k0)), (1, .int a1), (2, .int z9.1)]) ⟨rfl, rfl, rfl, trivial⟩ ?_
  exact tX0_turnToNextRow_B31 o hnL n k0 a1 z9.1 z9.2 z hr h
