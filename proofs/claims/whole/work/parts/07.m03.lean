def fX10_read_L22b (n : Nat) (k0 : Nat) (rec : Int32 → xSt → Option ((xSt) ⊕ (Int32 × xSt))) (a3 : Int32) (S : xSt) : Option ((xSt) ⊕ (Int32 × xSt)) :=
  if ((80 : Int32)) < a3 then
  (some (.inr ((-1 : Int32), S)))
else
  ((xgF tC 10 0 k0 S).bind fun r6 =>
  (xgI tC 7 4 r6 S).bind fun v7 =>
  if v7 = 0 then
  (some (.inr (a3, S)))
else
  (if a3 = ((80 : Int32)) then
  (some (.inl S))
else
  ((fX10_readStatement n k0 S).bind fun q8 =>
  if q8.1 = 0 then
  (some (.inr ((-1 : Int32), q8.2)))
else
  ((xgF tC 10 0 k0 q8.2).bind fun r9 =>
  (fX7_takeSign n r9 ((59 : Int32)) q8.2).bind fun q10 =>
  if q10.1 = 0 then
  (some (.inr ((-1 : Int32), q10.2)))
else
  ((some (a3 + (1 : Int32))).bind fun v11 =>
  rec v11 q10.2)))))
def fX10_read_L22 (n : Nat) (k0 : Nat) : Nat → Int32 → xSt → Option ((xSt) ⊕ (Int32 × xSt))
  | 0 => fun _ _ => none
  | q + 1 => fX10_read_L22b n k0 (fX10_read_L22 n k0 q)
set_option maxHeartbeats 4000000 in
theorem tX10_read_L22b {Γ : xGm} {M : xMg} (o : xOk Γ tC M 87 cX10_read RX10) (hnL : Γ.2.2.2 = 4) {rec : Int32 → xSt → Option ((xSt) ⊕ (Int32 × xSt))} (n : Nat) (k0 : Nat) (a3 : Int32) (S : xSt) (z : ((xSt) ⊕ (Int32 × xSt))) (hrec : ∀ (a3 : Int32) (S : xSt), rec a3 S = some z → xAt Γ tC M 22 (xlv [(0, .ref (M.2.1 k0)), (3, .int a3)]) [] S) (K : ∀ e, z = .inl e → xAt Γ tC M 46 (xlv [(0, .ref (M.2.1 k0))]) [] e) (R : ∀ r, z = .inr r → xRI Γ tC M (some .int) r.1 r.2) (h : fX10_read_L22b n k0 rec a3 S = some z) : xAt Γ tC M 22 (xlv [(0, .ref (M.2.1 k0)), (3, .int a3)]) [] S := by
  have hn3 : 3 < Γ.2.2.2 := by omega
  unfold fX10_read_L22b at h
  refine x_iload_n (pc := 22) o dX10_read_22 rfl rfl ?_
  refine x_bipush (pc := 23) o dX10_read_23 bp_80 ?_
  refine x_icmp_gt (pc := 25) (tgt := 92) o dX10_read_25 (by decide) (fun c16 => ?_) (fun c16 => ?_)
  · have h := xit h c16
    refine x_iconst (pc := 92) o dX10_read_92 ic_m1 ?_
    exact x_ireturn (pc := 93) o (R _ (Option.some.inj h).symm) dX10_read_93 rfl rfl
  · have h := xif h c16
    refine x_aload_n (pc := 28) o dX10_read_28 rfl rfl ?_
    obtain ⟨r6, hr6, h⟩ := xbs h
    refine gX10_9 (pc := 29) o dX10_read_29 hr6 ?_
    obtain ⟨v7, hv7, h⟩ := xbs h
    refine gX10_43 (pc := 32) o dX10_read_32 hv7 ?_
    refine x_if_ne (pc := 35) (tgt := 40) o dX10_read_35 (by decide) (fun c15 => ?_) (fun c15 => ?_)
    · have h := xif h c15
      refine x_iload_n (pc := 40) o dX10_read_40 rfl rfl ?_
      refine x_bipush (pc := 41) o dX10_read_41 bp_80 ?_
      refine x_icmp_ne (pc := 43) (tgt := 65) o dX10_read_43 (by decide) (fun c14 => ?_) (fun c14 => ?_)
      · have h := xif h c14
        refine x_aload_n (pc := 65) o dX10_read_65 rfl rfl ?_
        obtain ⟨q8, hq8, h⟩ := xbs h
        refine x_callI (pc := 66) (As := []) (b := k0) (rest := []) o (tX10_readStatement _ M _ n k0 S q8 hq8) eX10_readStatement mX10_54 clX10 (kX10_readStatement hq8) (by decide) rfl rfl (Nat.le_of_ble_eq_true rfl) dX10_read_66 ?_
        refine x_if_eq (pc := 69) (tgt := 84) o dX10_read_69 (by decide) (fun c13 => ?_) (fun c13 => ?_)
        · have h := xit h c13
          refine x_iconst (pc := 84) o dX10_read_84 ic_m1 ?_
          exact x_ireturn (pc := 85) o (R _ (Option.some.inj h).symm) dX10_read_85 rfl rfl
        · have h := xif h c13
          refine x_aload_n (pc := 72) o dX10_read_72 rfl rfl ?_
          obtain ⟨r9, hr9, h⟩ := xbs h
          refine gX10_9 (pc := 73) o dX10_read_73 hr9 ?_
          refine x_bipush (pc := 76) o dX10_read_76 bp_59 ?_
          obtain ⟨q10, hq10, h⟩ := xbs h
          refine x_callI (pc := 78) (As := [.int ((59 : Int32))]) (b := r9) (rest := []) o (tX7_takeSign _ M _ n r9 ((59 : Int32)) q8.2 q10 hq10) eX7_takeSign mX10_58 clX7 (kX7_takeSign hq10) (by decide) rfl rfl (Nat.le_of_ble_eq_true rfl) dX10_read_78 ?_
          refine x_if_ne (pc := 81) (tgt := 86) o dX10_read_81 (by decide) (fun c12 => ?_) (fun c12 => ?_)
          · have h := xif h c12
            obtain ⟨v11, hv11, h⟩ := xbs h
            refine x_iincE (pc := 86) o dX10_read_86 rfl ic_1 hn3 hv11 ?_
            refine x_goto (pc := 89) (tgt := 22) o dX10_read_89 (by decide) ?_
            refine x_to (l := [(0, .ref (M.2.1 k0)), (3, .int v11)]) ⟨rfl, rfl, trivial⟩ ?_
            exact hrec v11 q10.2 h
          · have h := xit h c12
            refine x_iconst (pc := 84) o dX10_read_84 ic_m1 ?_
            exact x_ireturn (pc := 85) o (R _ (Option.some.inj h).symm) dX10_read_85 rfl rfl
      · have h := xit h c14
        refine x_to (l := [(0, .ref (M.2.1 k0))]) ⟨rfl, trivial⟩ ?_
        exact K _ (Option.some.inj h).symm
    · have h := xit h c15
      refine x_iload_n (pc := 38) o dX10_read_38 rfl rfl ?_
      exact x_ireturn (pc := 39) o (R _ (Option.some.inj h).symm) dX10_read_39 rfl rfl
theorem tX10_read_L22 {Γ : xGm} {M : xMg} (o : xOk Γ tC M 87 cX10_read RX10) (hnL : Γ.2.2.2 = 4) (n : Nat) (k0 : Nat) (z : ((xSt) ⊕ (Int32 × xSt))) (K : ∀ e, z = .inl e → xAt Γ tC M 46 (xlv [(0, .ref (M.2.1 k0))]) [] e) (R : ∀ r, z = .inr r → xRI Γ tC M (some .int) r.1 r.2) : ∀ (q : Nat) (a3 : Int32) (S : xSt), fX10_read_L22 n k0 q a3 S = some z → xAt Γ tC M 22 (xlv [(0, .ref (M.2.1 k0)), (3, .int a3)]) [] S := by
  intro q
  induction q with
  | zero => intro a3 S h; cases h
  | succ q ih => intro a3 S h; exact tX10_read_L22b o hnL n k0 a3 S z ih K R h
def fX10_read (n : Nat) (k0 : Nat) (k1 : Nat) (a2 : Int32) (S : xSt) : Option (Int32 × xSt) :=
  if tC.1 k0 = 10 then
  ((xpM tC 10 2 k0 k1 S).bind fun S1 =>
  (xgM tC 10 2 k0 S1).bind fun r2 =>
  (fX9_clear n r2 S1).bind fun S3 =>
  (xgF tC 10 0 k0 S3).bind fun r4 =>
  (fX7_begin n r4 a2 S3).bind fun S5 =>
  (fX10_read_L22 n k0 n ((0 : Int32)) S5).bind fun z17 => xel z17 (fun ez17 => (xgF tC 10 0 k0 ez17).bind fun r18 =>
  (xgF tC 10 0 k0 ez17).bind fun r19 =>
  (xgI tC 7 5 r19 ez17).bind fun v20 =>
  (fX7_fail r18 ((6 : Int32)) v20 ez17).bind fun q21 =>
  some ((-1 : Int32), q21.2)) (fun r => some r))
  else none
theorem kX10_read {z : Int32 × xSt} {n : Nat} {k0 : Nat} {k1 : Nat} {a2 : Int32} {S : xSt} (h : fX10_read n k0 k1 a2 S = some z) : tC.1 k0 = 10 := by
  unfold fX10_read at h
  exact (xck h).1
set_option maxHeartbeats 4000000 in
theorem tX10_read (l : Launch) (M : xMg) (A : Nat → Prop) (n : Nat) (k0 : Nat) (k1 : Nat) (a2 : Int32) (S : xSt) (z : Int32 × xSt) (h : fX10_read n k0 k1 a2 S = some z) : xMI l yX10_read cX10_read 4 (some .int) 87 tC M A [.ref (M.2.1 k0), .ref (M.2.1 k1), .int a2] S z.1 z.2 := by
  refine x_metI (plainFor_of_name (by decide)) tC_ok (Nat.le_of_ble_eq_true rfl) (fun Γ hA hnL hl hr o => ?_)
  subst hA; subst hl
  have o : xOk Γ tC M 87 cX10_read RX10 := o
  unfold fX10_read at h
  obtain ⟨hk0, h⟩ := xck h
  refine x_to (l := [(0, .ref (M.2.1 k0)), (1, .ref (M.2.1 k1)), (2, .int a2)]) ⟨rfl, rfl, rfl, trivial⟩ ?_
  have hn3 : 3 < Γ.2.2.2 := by omega
  refine x_aload_n (pc := 0) o dX10_read_0 rfl rfl ?_
  refine x_aload_n (pc := 1) o dX10_read_1 rfl rfl ?_
  obtain ⟨S1, hS1, h⟩ := xbs h
  refine pX10_30 (pc := 2) o dX10_read_2 hS1 ?_
  refine x_aload_n (pc := 5) o dX10_read_5 rfl rfl ?_
  obtain ⟨r2, hr2, h⟩ := xbs h
  refine gX10_30 (pc := 6) o dX10_read_6 hr2 ?_
  obtain ⟨S3, hS3, h⟩ := xbs h
  refine x_callV (pc := 9) (As := []) (b := r2) (rest := []) o (tX9_clear _ M _ n r2 S1 S3 hS3) eX9_clear mX10_34 clX9 (kX9_clear hS3) (by decide) rfl rfl (Nat.le_of_ble_eq_true rfl) dX10_read_9 ?_
  refine x_aload_n (pc := 12) o dX10_read_12 rfl rfl ?_
  obtain ⟨r4, hr4, h⟩ := xbs h
  refine gX10_9 (pc := 13) o dX10_read_13 hr4 ?_
  refine x_iload_n (pc := 16) o dX10_read_16 rfl rfl ?_
  obtain ⟨S5, hS5, h⟩ := xbs h
  refine x_callV (pc := 17) (As := [.int a2]) (b := r4) (rest := []) o (tX7_begin _ M _ n r4 a2 S3 S5 hS5) eX7_begin mX10_37 clX7 (kX7_begin hS5) (by decide) rfl rfl (Nat.le_of_ble_eq_true rfl) dX10_read_17 ?_
  refine x_iconst (pc := 20) o dX10_read_20 ic_0 ?_
  refine x_istore_n (pc := 21) o dX10_read_21 rfl hn3 ?_
  obtain ⟨z17, hz17, h⟩ := xbs h
  refine x_to (l := [(0, .ref (M.2.1 k0)), (3, .int ((0 : Int32)))]) ⟨rfl, rfl, trivial⟩ ?_
  refine tX10_read_L22 o hnL n k0 z17 (fun ez17 he => ?_) (fun r he => ?_) n ((0 : Int32)) S5 hz17
  · subst he; have h := xel_l h
    refine x_aload_n (pc := 46) o dX10_read_46 rfl rfl ?_
    obtain ⟨r18, hr18, h⟩ := xbs h
    refine gX10_9 (pc := 47) o dX10_read_47 hr18 ?_
    refine x_bipush (pc := 50) o dX10_read_50 bp_6 ?_
    refine x_aload_n (pc := 52) o dX10_read_52 rfl rfl ?_
    obtain ⟨r19, hr19, h⟩ := xbs h
    refine gX10_9 (pc := 53) o dX10_read_53 hr19 ?_
    obtain ⟨v20, hv20, h⟩ := xbs h
    refine gX10_47 (pc := 56) o dX10_read_56 hv20 ?_
    obtain ⟨q21, hq21, h⟩ := xbs h
    refine x_callI (pc := 59) (As := [.int ((6 : Int32)), .int v20]) (b := r18) (rest := []) o (tX7_fail _ M _ r18 ((6 : Int32)) v20 ez17 q21 hq21) eX7_fail mX10_50 clX7 (kX7_fail hq21) (by decide) rfl rfl (Nat.le_of_ble_eq_true rfl) dX10_read_59 ?_
    refine x_pop (pc := 62) o dX10_read_62 rfl ?_
    refine x_iconst (pc := 63) o dX10_read_63 ic_m1 ?_
    exact x_ireturn (pc := 64) o hr dX10_read_64 (xr1 h) (xr2 h)
  · subst he; have h := xel_r h
    cases Option.some.inj h
    exact hr
def fX11_refuse (k0 : Nat) (a1 : Int32) (S : xSt) : Option (Int32 × xSt) :=
  if tC.1 k0 = 11 then
  (if a1 < 0 then
  (some ((-1 : Int32), S))
else
  (if ((6 : Int32)) ≤ a1 then
  (some ((-1 : Int32), S))
else
  ((xgF tC 11 14 k0 S).bind fun r1 =>
  (xal tC r1 a1 S).bind fun v2 =>
  (xas tC r1 a1 (v2 + ((1 : Int32))) S).bind fun S3 =>
  some ((-1 : Int32), S3))))
  else none
theorem kX11_refuse {z : Int32 × xSt} {k0 : Nat} {a1 : Int32} {S : xSt} (h : fX11_refuse k0 a1 S = some z) : tC.1 k0 = 11 := by
  unfold fX11_refuse at h
  exact (xck h).1
set_option maxHeartbeats 4000000 in
theorem tX11_refuse (l : Launch) (M : xMg) (A : Nat → Prop) (k0 : Nat) (a1 : Int32) (S : xSt) (z : Int32 × xSt) (h : fX11_refuse k0 a1 S = some z) : xMI l yX11_refuse cX11_refuse 2 (some .int) 1 tC M A [.ref (M.2.1 k0), .int a1] S z.1 z.2 := by
  refine x_metI (plainFor_of_name (by decide)) tC_ok (Nat.le_of_ble_eq_true rfl) (fun Γ hA hnL hl hr o => ?_)
  subst hA; subst hl
  have o : xOk Γ tC M 1 cX11_refuse RX11 := o
  unfold fX11_refuse at h
  obtain ⟨hk0, h⟩ := xck h
  refine x_to (l := [(0, .ref (M.2.1 k0)), (1, .int a1)]) ⟨rfl, rfl, trivial⟩ ?_
  refine x_iload_n (pc := 0) o dX11_refuse_0 rfl rfl ?_
  refine x_if_lt (pc := 1) (tgt := 20) o dX11_refuse_1 (by decide) (fun c5 => ?_) (fun c5 => ?_)
  · have h := xit h c5
    refine x_iconst (pc := 20) o dX11_refuse_20 ic_m1 ?_
    exact x_ireturn (pc := 21) o hr dX11_refuse_21 (xr1 h) (xr2 h)
  · have h := xif h c5
    refine x_iload_n (pc := 4) o dX11_refuse_4 rfl rfl ?_
    refine x_bipush (pc := 5) o dX11_refuse_5 bp_6 ?_
    refine x_icmp_ge (pc := 7) (tgt := 20) o dX11_refuse_7 (by decide) (fun c4 => ?_) (fun c4 => ?_)
    · have h := xit h c4
      refine x_iconst (pc := 20) o dX11_refuse_20 ic_m1 ?_
      exact x_ireturn (pc := 21) o hr dX11_refuse_21 (xr1 h) (xr2 h)
    · have h := xif h c4
      refine x_aload_n (pc := 10) o dX11_refuse_10 rfl rfl ?_
      obtain ⟨r1, hr1, h⟩ := xbs h
      refine gX11_88 (pc := 11) o dX11_refuse_11 hr1 ?_
      refine x_iload_n (pc := 14) o dX11_refuse_14 rfl rfl ?_
      refine x_dup2 (pc := 15) o dX11_refuse_15 rfl rfl ?_
      obtain ⟨v2, hv2, h⟩ := xbs h
      refine x_iaload (pc := 16) o dX11_refuse_16 hv2 ?_
      refine x_iconst (pc := 17) o dX11_refuse_17 ic_1 ?_
      refine x_iadd (pc := 18) o dX11_refuse_18 ?_
      obtain ⟨S3, hS3, h⟩ := xbs h
      refine x_iastore (pc := 19) o dX11_refuse_19 hS3 ?_
      refine x_iconst (pc := 20) o dX11_refuse_20 ic_m1 ?_
      exact x_ireturn (pc := 21) o hr dX11_refuse_21 (xr1 h) (xr2 h)
def fX11_putOnTape_L3b (n : Nat) (k0 : Nat) (a1 : Int32) (rec : Int32 → xSt → Option (xSt)) (a2 : Int32) (S : xSt) : Option (xSt) :=
  if a2 < 0 then
  (some S)
else
  ((xgI tC 11 1 k0 S).bind fun v1 =>
  if ((1600 : Int32)) ≤ v1 then
  ((some (a2 + (-8 : Int32))).bind fun v2 =>
  rec v2 S)
else
  ((xgF tC 11 0 k0 S).bind fun r3 =>
  (xgI tC 11 1 k0 S).bind fun v4 =>
  (xas tC r3 v4 ((a1 >>> (a2 &&& 31)) &&& ((255 : Int32))) S).bind fun S5 =>
  (xgI tC 11 1 k0 S5).bind fun v6 =>
  (xpI tC 11 1 k0 (v6 + ((1 : Int32))) S5).bind fun S7 =>
  (some (a2 + (-8 : Int32))).bind fun v8 =>
  rec v8 S7))
def fX11_putOnTape_L3 (n : Nat) (k0 : Nat) (a1 : Int32) : Nat → Int32 → xSt → Option (xSt)
  | 0 => fun _ _ => none
  | q + 1 => fX11_putOnTape_L3b n k0 a1 (fX11_putOnTape_L3 n k0 a1 q)
set_option maxHeartbeats 4000000 in
theorem tX11_putOnTape_L3b {Γ : xGm} {M : xMg} (o : xOk Γ tC M 1 cX11_putOnTape RX11) (hnL : Γ.2.2.2 = 3) {rec : Int32 → xSt → Option (xSt)} (n : Nat) (k0 : Nat) (a1 : Int32) (a2 : Int32) (S : xSt) (z : (xSt)) (hrec : ∀ (a2 : Int32) (S : xSt), rec a2 S = some z → xAt Γ tC M 3 (xlv [(0, .ref (M.2.1 k0)), (1, .int a1), (2, .int a2)]) [] S) (K : xAt Γ tC M 49 (xlv []) [] z) (h : fX11_putOnTape_L3b n k0 a1 rec a2 S = some z) : xAt Γ tC M 3 (xlv [(0, .ref (M.2.1 k0)), (1, .int a1), (2, .int a2)]) [] S := by
  have hn2 : 2 < Γ.2.2.2 := by omega
  unfold fX11_putOnTape_L3b at h
  refine x_iload_n (pc := 3) o dX11_putOnTape_3 rfl rfl ?_
  refine x_if_lt (pc := 4) (tgt := 49) o dX11_putOnTape_4 (by decide) (fun c10 => ?_) (fun c10 => ?_)
  · have h := xit h c10
    refine x_to (l := []) trivial ?_
    cases Option.some.inj h
    exact K
  · have h := xif h c10
    refine x_aload_n (pc := 7) o dX11_putOnTape_7 rfl rfl ?_
    obtain ⟨v1, hv1, h⟩ := xbs h
    refine gX11_95 (pc := 8) o dX11_putOnTape_8 hv1 ?_
    refine x_sipush (pc := 11) o dX11_putOnTape_11 sp_1600 ?_
    refine x_icmp_ge (pc := 14) (tgt := 43) o dX11_putOnTape_14 (by decide) (fun c9 => ?_) (fun c9 => ?_)
    · have h := xit h c9
      obtain ⟨v2, hv2, h⟩ := xbs h
      refine x_iincE (pc := 43) o dX11_putOnTape_43 rfl ic_m8 hn2 hv2 ?_
      refine x_goto (pc := 46) (tgt := 3) o dX11_putOnTape_46 (by decide) ?_
      refine x_to (l := [(0, .ref (M.2.1 k0)), (1, .int a1), (2, .int v2)]) ⟨rfl, rfl, rfl, trivial⟩ ?_
      exact hrec v2 S h
    · have h := xif h c9
      refine x_aload_n (pc := 17) o dX11_putOnTape_17 rfl rfl ?_
      obtain ⟨r3, hr3, h⟩ := xbs h
      refine gX11_9 (pc := 18) o dX11_putOnTape_18 hr3 ?_
      refine x_aload_n (pc := 21) o dX11_putOnTape_21 rfl rfl ?_
      obtain ⟨v4, hv4, h⟩ := xbs h
      refine gX11_95 (pc := 22) o dX11_putOnTape_22 hv4 ?_
      refine x_iload_n (pc := 25) o dX11_putOnTape_25 rfl rfl ?_
      refine x_iload_n (pc := 26) o dX11_putOnTape_26 rfl rfl ?_
      refine x_ishr (pc := 27) o dX11_putOnTape_27 ?_
      refine x_sipush (pc := 28) o dX11_putOnTape_28 sp_255 ?_
      refine x_iand (pc := 31) o dX11_putOnTape_31 ?_
      obtain ⟨S5, hS5, h⟩ := xbs h
      refine x_iastore (pc := 32) o dX11_putOnTape_32 hS5 ?_
      refine x_aload_n (pc := 33) o dX11_putOnTape_33 rfl rfl ?_
      refine x_dup (pc := 34) o dX11_putOnTape_34 rfl ?_
      obtain ⟨v6, hv6, h⟩ := xbs h
      refine gX11_95 (pc := 35) o dX11_putOnTape_35 hv6 ?_
      refine x_iconst (pc := 38) o dX11_putOnTape_38 ic_1 ?_
      refine x_iadd (pc := 39) o dX11_putOnTape_39 ?_
      obtain ⟨S7, hS7, h⟩ := xbs h
      refine pX11_95 (pc := 40) o dX11_putOnTape_40 hS7 ?_
      obtain ⟨v8, hv8, h⟩ := xbs h
      refine x_iincE (pc := 43) o dX11_putOnTape_43 rfl ic_m8 hn2 hv8 ?_
      refine x_goto (pc := 46) (tgt := 3) o dX11_putOnTape_46 (by decide) ?_
      refine x_to (l := [(0, .ref (M.2.1 k0)), (1, .int a1), (2, .int v8)]) ⟨rfl, rfl, rfl, trivial⟩ ?_
      exact hrec v8 S7 h
theorem tX11_putOnTape_L3 {Γ : xGm} {M : xMg} (o : xOk Γ tC M 1 cX11_putOnTape RX11) (hnL : Γ.2.2.2 = 3) (n : Nat) (k0 : Nat) (a1 : Int32) (z : (xSt)) (K : xAt Γ tC M 49 (xlv []) [] z) : ∀ (q : Nat) (a2 : Int32) (S : xSt), fX11_putOnTape_L3 n k0 a1 q a2 S = some z → xAt Γ tC M 3 (xlv [(0, .ref (M.2.1 k0)), (1, .int a1), (2, .int a2)]) [] S := by
  intro q
  induction q with
  | zero => intro a2 S h; cases h
  | succ q ih => intro a2 S h; exact tX11_putOnTape_L3b o hnL n k0 a1 a2 S z ih K h
def fX11_putOnTape (n : Nat) (k0 : Nat) (a1 : Int32) (S : xSt) : Option (xSt) :=
  if tC.1 k0 = 11 then
  ((fX11_putOnTape_L3 n k0 a1 n ((24 : Int32)) S).bind fun z11 => some z11)
  else none
theorem kX11_putOnTape {z : xSt} {n : Nat} {k0 : Nat} {a1 : Int32} {S : xSt} (h : fX11_putOnTape n k0 a1 S = some z) : tC.1 k0 = 11 := by
  unfold fX11_putOnTape at h
  exact (xck h).1
set_option maxHeartbeats 4000000 in
theorem tX11_putOnTape (l : Launch) (M : xMg) (A : Nat → Prop) (n : Nat) (k0 : Nat) (a1 : Int32) (S : xSt) (z : xSt) (h : fX11_putOnTape n k0 a1 S = some z) : xMV l yX11_putOnTape cX11_putOnTape 3 none 1 tC M A [.ref (M.2.1 k0), .int a1] S z := by
  refine x_metV (plainFor_of_name (by decide)) tC_ok (Nat.le_of_ble_eq_true rfl) (fun Γ hA hnL hl hr o => ?_)
  subst hA; subst hl
  have o : xOk Γ tC M 1 cX11_putOnTape RX11 := o
  unfold fX11_putOnTape at h
  obtain ⟨hk0, h⟩ := xck h
  refine x_to (l := [(0, .ref (M.2.1 k0)), (1, .int a1)]) ⟨rfl, rfl, trivial⟩ ?_
  have hn2 : 2 < Γ.2.2.2 := by omega
  refine x_bipush (pc := 0) o dX11_putOnTape_0 bp_24 ?_
  refine x_istore_n (pc := 2) o dX11_putOnTape_2 rfl hn2 ?_
  obtain ⟨z11, hz11, h⟩ := xbs h
  refine x_to (l := [(0, .ref (M.2.1 k0)), (1, .int a1), (2, .int ((24 : Int32)))]) ⟨rfl, rfl, rfl, trivial⟩ ?_
  refine tX11_putOnTape_L3 o hnL n k0 a1 z11 ?_ n ((24 : Int32)) S hz11
  exact x_vreturn (pc := 49) o hr dX11_putOnTape_49 (Option.some.inj h)
def fX11_feed (n : Nat) (k0 : Nat) (a1 : Int32) (a2 : Int32) (a3 : Int32) (a4 : Int32) (a5 : Int32) (S : xSt) : Option (Int32 × xSt) :=
  if tC.1 k0 = 11 then
  ((xgI tC 11 1 k0 S).bind fun v1 =>
  if (v1 + ((20 : Int32))) ≤ ((1600 : Int32)) then
  ((fX11_putOnTape n k0 a1 S).bind fun S2 =>
  (fX11_putOnTape n k0 a2 S2).bind fun S3 =>
  (fX11_putOnTape n k0 a3 S3).bind fun S4 =>
  (fX11_putOnTape n k0 a4 S4).bind fun S5 =>
  (fX11_putOnTape n k0 a5 S5).bind fun S6 =>
  (xgI tC 11 1 k0 S6).bind fun v7 =>
  some (v7, S6))
else
  ((fX11_refuse k0 ((0 : Int32)) S).bind fun q8 =>
  some (q8.1, q8.2)))
  else none
theorem kX11_feed {z : Int32 × xSt} {n : Nat} {k0 : Nat} {a1 : Int32} {a2 : Int32} {a3 : Int32} {a4 : Int32} {a5 : Int32} {S : xSt} (h : fX11_feed n k0 a1 a2 a3 a4 a5 S = some z) : tC.1 k0 = 11 := by
  unfold fX11_feed at h
  exact (xck h).1
set_option maxHeartbeats 4000000 in
theorem tX11_feed (l : Launch) (M : xMg) (A : Nat → Prop) (n : Nat) (k0 : Nat) (a1 : Int32) (a2 : Int32) (a3 : Int32) (a4 : Int32) (a5 : Int32) (S : xSt) (z : Int32 × xSt) (h : fX11_feed n k0 a1 a2 a3 a4 a5 S = some z) : xMI l yX11_feed cX11_feed 6 (some .int) 2 tC M A [.ref (M.2.1 k0), .int a1, .int a2, .int a3, .int a4, .int a5] S z.1 z.2 := by
  refine x_metI (plainFor_of_name (by decide)) tC_ok (Nat.le_of_ble_eq_true rfl) (fun Γ hA hnL hl hr o => ?_)
  subst hA; subst hl
  have o : xOk Γ tC M 2 cX11_feed RX11 := o
  unfold fX11_feed at h
  obtain ⟨hk0, h⟩ := xck h
  refine x_to (l := [(0, .ref (M.2.1 k0)), (1, .int a1), (2, .int a2), (3, .int a3), (4, .int a4), (5, .int a5)]) ⟨rfl, rfl, rfl, rfl, rfl, rfl, trivial⟩ ?_
  refine x_aload_n (pc := 0) o dX11_feed_0 rfl rfl ?_
  obtain ⟨v1, hv1, h⟩ := xbs h
  refine gX11_95 (pc := 1) o dX11_feed_1 hv1 ?_
  refine x_bipush (pc := 4) o dX11_feed_4 bp_20 ?_
  refine x_iadd (pc := 6) o dX11_feed_6 ?_
  refine x_sipush (pc := 7) o dX11_feed_7 sp_1600 ?_
  refine x_icmp_le (pc := 10) (tgt := 19) o dX11_feed_10 (by decide) (fun c9 => ?_) (fun c9 => ?_)
  · have h := xit h c9
    refine x_aload_n (pc := 19) o dX11_feed_19 rfl rfl ?_
    refine x_iload_n (pc := 20) o dX11_feed_20 rfl rfl ?_
    obtain ⟨S2, hS2, h⟩ := xbs h
    refine x_callV (pc := 21) (As := [.int a1]) (b := k0) (rest := []) o (tX11_putOnTape _ M _ n k0 a1 S S2 hS2) eX11_putOnTape mX11_102 clX11 (kX11_putOnTape hS2) (by decide) rfl rfl (Nat.le_of_ble_eq_true rfl) dX11_feed_21 ?_
    refine x_aload_n (pc := 24) o dX11_feed_24 rfl rfl ?_
    refine x_iload_n (pc := 25) o dX11_feed_25 rfl rfl ?_
    obtain ⟨S3, hS3, h⟩ := xbs h
    refine x_callV (pc := 26) (As := [.int a2]) (b := k0) (rest := []) o (tX11_putOnTape _ M _ n k0 a2 S2 S3 hS3) eX11_putOnTape mX11_102 clX11 (kX11_putOnTape hS3) (by decide) rfl rfl (Nat.le_of_ble_eq_true rfl) dX11_feed_26 ?_
    refine x_aload_n (pc := 29) o dX11_feed_29 rfl rfl ?_
    refine x_iload_n (pc := 30) o dX11_feed_30 rfl rfl ?_
    obtain ⟨S4, hS4, h⟩ := xbs h
    refine x_callV (pc := 31) (As := [.int a3]) (b := k0) (rest := []) o (tX11_putOnTape _ M _ n k0 a3 S3 S4 hS4) eX11_putOnTape mX11_102 clX11 (kX11_putOnTape hS4) (by decide) rfl rfl (Nat.le_of_ble_eq_true rfl) dX11_feed_31 ?_
    refine x_aload_n (pc := 34) o dX11_feed_34 rfl rfl ?_
    refine x_iload (pc := 35) o dX11_feed_35 rfl ?_
    obtain ⟨S5, hS5, h⟩ := xbs h
    refine x_callV (pc := 37) (As := [.int a4]) (b := k0) (rest := []) o (tX11_putOnTape _ M _ n k0 a4 S4 S5 hS5) eX11_putOnTape mX11_102 clX11 (kX11_putOnTape hS5) (by decide) rfl rfl (Nat.le_of_ble_eq_true rfl) dX11_feed_37 ?_
    refine x_aload_n (pc := 40) o dX11_feed_40 rfl rfl ?_
    refine x_iload (pc := 41) o dX11_feed_41 rfl ?_
    obtain ⟨S6, hS6, h⟩ := xbs h
    refine x_callV (pc := 43) (As := [.int a5]) (b := k0) (rest := []) o (tX11_putOnTape _ M _ n k0 a5 S5 S6 hS6) eX11_putOnTape mX11_102 clX11 (kX11_putOnTape hS6) (by decide) rfl rfl (Nat.le_of_ble_eq_true rfl) dX11_feed_43 ?_
    refine x_aload_n (pc := 46) o dX11_feed_46 rfl rfl ?_
    obtain ⟨v7, hv7, h⟩ := xbs h
    refine gX11_95 (pc := 47) o dX11_feed_47 hv7 ?_
    exact x_ireturn (pc := 50) o hr dX11_feed_50 (xr1 h) (xr2 h)
  · have h := xif h c9
    refine x_aload_n (pc := 13) o dX11_feed_13 rfl rfl ?_
    refine x_iconst (pc := 14) o dX11_feed_14 ic_0 ?_
    obtain ⟨q8, hq8, h⟩ := xbs h
    refine x_callI (pc := 15) (As := [.int ((0 : Int32))]) (b := k0) (rest := []) o (tX11_refuse _ M _ k0 ((0 : Int32)) S q8 hq8) eX11_refuse mX11_98 clX11 (kX11_refuse hq8) (by decide) rfl rfl (Nat.le_of_ble_eq_true rfl) dX11_feed_15 ?_
    exact x_ireturn (pc := 18) o hr dX11_feed_18 (xr1 h) (xr2 h)
def fX11_turnDown (k0 : Nat) (a1 : Int32) (S : xSt) : Option (Int32 × xSt) :=
  if tC.1 k0 = 11 then
  ((fX11_refuse k0 a1 S).bind fun q1 =>
  some ((0 : Int32), q1.2))
  else none
theorem kX11_turnDown {z : Int32 × xSt} {k0 : Nat} {a1 : Int32} {S : xSt} (h : fX11_turnDown k0 a1 S = some z) : tC.1 k0 = 11 := by
  unfold fX11_turnDown at h
  exact (xck h).1
set_option maxHeartbeats 4000000 in
theorem tX11_turnDown (l : Launch) (M : xMg) (A : Nat → Prop) (k0 : Nat) (a1 : Int32) (S : xSt) (z : Int32 × xSt) (h : fX11_turnDown k0 a1 S = some z) : xMI l yX11_turnDown cX11_turnDown 2 (some .boolean) 2 tC M A [.ref (M.2.1 k0), .int a1] S z.1 z.2 := by
  refine x_metI (plainFor_of_name (by decide)) tC_ok (Nat.le_of_ble_eq_true rfl) (fun Γ hA hnL hl hr o => ?_)
  subst hA; subst hl
  have o : xOk Γ tC M 2 cX11_turnDown RX11 := o
  unfold fX11_turnDown at h
  obtain ⟨hk0, h⟩ := xck h
  refine x_to (l := [(0, .ref (M.2.1 k0)), (1, .int a1)]) ⟨rfl, rfl, trivial⟩ ?_
  refine x_aload_n (pc := 0) o dX11_turnDown_0 rfl rfl ?_
  refine x_iload_n (pc := 1) o dX11_turnDown_1 rfl rfl ?_
  obtain ⟨q1, hq1, h⟩ := xbs h
  refine x_callI (pc := 2) (As := [.int a1]) (b := k0) (rest := []) o (tX11_refuse _ M _ k0 a1 S q1 hq1) eX11_refuse mX11_98 clX11 (kX11_refuse hq1) (by decide) rfl rfl (Nat.le_of_ble_eq_true rfl) dX11_turnDown_2 ?_
  refine x_pop (pc := 5) o dX11_turnDown_5 rfl ?_
  refine x_iconst (pc := 6) o dX11_turnDown_6 ic_0 ?_
  exact x_zreturn (pc := 7) o hr dX11_turnDown_7 (by decide) (xr1 h) (xr2 h)
def fX11_end (k0 : Nat) (a1 : Int32) (S : xSt) : Option (Int32 × xSt) :=
  if tC.1 k0 = 11 then
  (if a1 < 0 then
  ((fX11_turnDown k0 ((0 : Int32)) S).bind fun q1 =>
  if q1.1 = 0 ∨ q1.1 = 1 then (some (q1.1, q1.2)) else none)
else
  ((xgI tC 11 1 k0 S).bind fun v2 =>
  if a1 ≤ v2 then
  ((xpI tC 11 1 k0 a1 S).bind fun S3 =>
  some ((1 : Int32), S3))
else
  ((fX11_turnDown k0 ((0 : Int32)) S).bind fun q4 =>
  if q4.1 = 0 ∨ q4.1 = 1 then (some (q4.1, q4.2)) else none)))
  else none
theorem kX11_end {z : Int32 × xSt} {k0 : Nat} {a1 : Int32} {S : xSt} (h : fX11_end k0 a1 S = some z) : tC.1 k0 = 11 := by
  unfold fX11_end at h
  exact (xck h).1
set_option maxHeartbeats 4000000 in
theorem tX11_end (l : Launch) (M : xMg) (A : Nat → Prop) (k0 : Nat) (a1 : Int32) (S : xSt) (z : Int32 × xSt) (h : fX11_end k0 a1 S = some z) : xMI l yX11_end cX11_end 2 (some .boolean) 3 tC M A [.ref (M.2.1 k0), .int a1] S z.1 z.2 := by
  refine x_metI (plainFor_of_name (by decide)) tC_ok (Nat.le_of_ble_eq_true rfl) (fun Γ hA hnL hl hr o => ?_)
  subst hA; subst hl
  have o : xOk Γ tC M 3 cX11_end RX11 := o
  unfold fX11_end at h
  obtain ⟨hk0, h⟩ := xck h
  refine x_to (l := [(0, .ref (M.2.1 k0)), (1, .int a1)]) ⟨rfl, rfl, trivial⟩ ?_
  refine x_iload_n (pc := 0) o dX11_end_0 rfl rfl ?_
  refine x_if_lt (pc := 1) (tgt := 12) o dX11_end_1 (by decide) (fun c6 => ?_) (fun c6 => ?_)
  · have h := xit h c6
    refine x_aload_n (pc := 12) o dX11_end_12 rfl rfl ?_
    refine x_iconst (pc := 13) o dX11_end_13 ic_0 ?_
    obtain ⟨q1, hq1, h⟩ := xbs h
    refine x_callI (pc := 14) (As := [.int ((0 : Int32))]) (b := k0) (rest := []) o (tX11_turnDown _ M _ k0 ((0 : Int32)) S q1 hq1) eX11_turnDown mX11_106 clX11 (kX11_turnDown hq1) (by decide) rfl rfl (Nat.le_of_ble_eq_true rfl) dX11_end_14 ?_
    obtain ⟨hz, h⟩ := xck h
    exact x_zreturn (pc := 17) o hr dX11_end_17 hz (xr1 h) (xr2 h)
  · have h := xif h c6
    refine x_iload_n (pc := 4) o dX11_end_4 rfl rfl ?_
    refine x_aload_n (pc := 5) o dX11_end_5 rfl rfl ?_
    obtain ⟨v2, hv2, h⟩ := xbs h
    refine gX11_95 (pc := 6) o dX11_end_6 hv2 ?_
    refine x_icmp_le (pc := 9) (tgt := 18) o dX11_end_9 (by decide) (fun c5 => ?_) (fun c5 => ?_)
    · have h := xit h c5
      refine x_aload_n (pc := 18) o dX11_end_18 rfl rfl ?_
      refine x_iload_n (pc := 19) o dX11_end_19 rfl rfl ?_
      obtain ⟨S3, hS3, h⟩ := xbs h
      refine pX11_95 (pc := 20) o dX11_end_20 hS3 ?_
      refine x_iconst (pc := 23) o dX11_end_23 ic_1 ?_
      exact x_zreturn (pc := 24) o hr dX11_end_24 (by decide) (xr1 h) (xr2 h)
    · have h := xif h c5
      refine x_aload_n (pc := 12) o dX11_end_12 rfl rfl ?_
      refine x_iconst (pc := 13) o dX11_end_13 ic_0 ?_
      obtain ⟨q4, hq4, h⟩ := xbs h
      refine x_callI (pc := 14) (As := [.int ((0 : Int32))]) (b := k0) (rest := []) o (tX11_turnDown _ M _ k0 ((0 : Int32)) S q4 hq4) eX11_turnDown mX11_106 clX11 (kX11_turnDown hq4) (by decide) rfl rfl (Nat.le_of_ble_eq_true rfl) dX11_end_14 ?_
      obtain ⟨hz, h⟩ := xck h
      exact x_zreturn (pc := 17) o hr dX11_end_17 hz (xr1 h) (xr2 h)
def fX11_takeTape (k0 : Nat) (S : xSt) : Option (Int32 × xSt) :=
  if tC.1 k0 = 11 then
  ((xgI tC 11 1 k0 S).bind fun v1 =>
  (xpI tC 11 1 k0 ((0 : Int32)) S).bind fun S2 =>
  some (v1, S2))
  else none
theorem kX11_takeTape {z : Int32 × xSt} {k0 : Nat} {S : xSt} (h : fX11_takeTape k0 S = some z) : tC.1 k0 = 11 := by
  unfold fX11_takeTape at h
  exact (xck h).1
set_option maxHeartbeats 4000000 in
theorem tX11_takeTape (l : Launch) (M : xMg) (A : Nat → Prop) (k0 : Nat) (S : xSt) (z : Int32 × xSt) (h : fX11_takeTape k0 S = some z) : xMI l yX11_takeTape cX11_takeTape 2 (some .int) 1 tC M A [.ref (M.2.1 k0)] S z.1 z.2 := by
  refine x_metI (plainFor_of_name (by decide)) tC_ok (Nat.le_of_ble_eq_true rfl) (fun Γ hA hnL hl hr o => ?_)
  subst hA; subst hl
  have o : xOk Γ tC M 1 cX11_takeTape RX11 := o
  unfold fX11_takeTape at h
  obtain ⟨hk0, h⟩ := xck h
  refine x_to (l := [(0, .ref (M.2.1 k0))]) ⟨rfl, trivial⟩ ?_
  have hn1 : 1 < Γ.2.2.2 := by omega
  refine x_aload_n (pc := 0) o dX11_takeTape_0 rfl rfl ?_
  obtain ⟨v1, hv1, h⟩ := xbs h
  refine gX11_95 (pc := 1) o dX11_takeTape_1 hv1 ?_
  refine x_istore_n (pc := 4) o dX11_takeTape_4 rfl hn1 ?_
  refine x_aload_n (pc := 5) o dX11_takeTape_5 rfl rfl ?_
  refine x_iconst (pc := 6) o dX11_takeTape_6 ic_0 ?_
  obtain ⟨S2, hS2, h⟩ := xbs h
  refine pX11_95 (pc := 7) o dX11_takeTape_7 hS2 ?_
  refine x_iload_n (pc := 10) o dX11_takeTape_10 rfl rfl ?_
  exact x_ireturn (pc := 11) o hr dX11_takeTape_11 (xr1 h) (xr2 h)
def fX11_year (n : Nat) (k0 : Nat) (S : xSt) : Option (Int32 × xSt) :=
  if tC.1 k0 = 11 then
  ((fX11_takeTape k0 S).bind fun q1 =>
  (xgF tC 11 9 k0 q1.2).bind fun r2 =>
  (xgM tC 11 3 k0 q1.2).bind fun r3 =>
  (fX10_read n r2 r3 q1.1 q1.2).bind fun q4 =>
  if q4.1 = ((-1 : Int32)) then
  ((fX11_refuse k0 ((1 : Int32)) q4.2).bind fun q18 =>
  some (q18.1, q18.2))
else
  ((xgM tC 11 2 k0 q4.2).bind fun r5 =>
  (xgM tC 11 3 k0 q4.2).bind fun r6 =>
  (xpM tC 11 2 k0 r6 q4.2).bind fun S7 =>
  (xpM tC 11 3 k0 r5 S7).bind fun S8 =>
  (xgF tC 11 4 k0 S8).bind fun r9 =>
  (xgM tC 11 2 k0 S8).bind fun r10 =>
  (fX8_start n r9 r10 S8).bind fun S11 =>
  (xgF tC 11 5 k0 S11).bind fun r12 =>
  (fX3_clear r12 S11).bind fun S13 =>
  (xpI tC 11 13 k0 ((0 : Int32)) S13).bind fun S14 =>
  (xgF tC 11 7 k0 S14).bind fun r15 =>
  (xgM tC 11 2 k0 S14).bind fun r16 =>
  (fX0_turnTo r15 r16 S14).bind fun S17 =>
  some (q4.1, S17)))
  else none
theorem kX11_year {z : Int32 × xSt} {n : Nat} {k0 : Nat} {S : xSt} (h : fX11_year n k0 S = some z) : tC.1 k0 = 11 := by
  unfold fX11_year at h
  exact (xck h).1
set_option maxHeartbeats 4000000 in
theorem tX11_year (l : Launch) (M : xMg) (A : Nat → Prop) (n : Nat) (k0 : Nat) (S : xSt) (z : Int32 × xSt) (h : fX11_year n k0 S = some z) : xMI l yX11_year cX11_year 4 (some .int) 88 tC M A [.ref (M.2.1 k0)] S z.1 z.2 := by
  refine x_metI (plainFor_of_name (by decide)) tC_ok (Nat.le_of_ble_eq_true rfl) (fun Γ hA hnL hl hr o => ?_)
  subst hA; subst hl
  have o : xOk Γ tC M 88 cX11_year RX11 := o
  unfold fX11_year at h
  obtain ⟨hk0, h⟩ := xck h
  refine x_to (l := [(0, .ref (M.2.1 k0))]) ⟨rfl, trivial⟩ ?_
  have hn1 : 1 < Γ.2.2.2 := by omega
  have hn2 : 2 < Γ.2.2.2 := by omega
  have hn3 : 3 < Γ.2.2.2 := by omega
  refine x_aload_n (pc := 0) o dX11_year_0 rfl rfl ?_
  obtain ⟨q1, hq1, h⟩ := xbs h
  refine x_callI (pc := 1) (As := []) (b := k0) (rest := []) o (tX11_takeTape _ M _ k0 S q1 hq1) eX11_takeTape mX11_110 clX11 (kX11_takeTape hq1) (by decide) rfl rfl (Nat.le_of_ble_eq_true rfl) dX11_year_1 ?_
  refine x_istore_n (pc := 4) o dX11_year_4 rfl hn1 ?_
  refine x_aload_n (pc := 5) o dX11_year_5 rfl rfl ?_
  obtain ⟨r2, hr2, h⟩ := xbs h
  refine gX11_67 (pc := 6) o dX11_year_6 hr2 ?_
  refine x_aload_n (pc := 9) o dX11_year_9 rfl rfl ?_
  obtain ⟨r3, hr3, h⟩ := xbs h
  refine gX11_20 (pc := 10) o dX11_year_10 hr3 ?_
  refine x_iload_n (pc := 13) o dX11_year_13 rfl rfl ?_
  obtain ⟨q4, hq4, h⟩ := xbs h
  refine x_callI (pc := 14) (As := [.ref (M.2.1 r3), .int q1.1]) (b := r2) (rest := []) o (tX10_read _ M _ n r2 r3 q1.1 q1.2 q4 hq4) eX10_read mX11_114 clX10 (kX10_read hq4) (by decide) rfl rfl (Nat.le_of_ble_eq_true rfl) dX11_year_14 ?_
  refine x_istore_n (pc := 17) o dX11_year_17 rfl hn2 ?_
  refine x_iload_n (pc := 18) o dX11_year_18 rfl rfl ?_
  refine x_iconst (pc := 19) o dX11_year_19 ic_m1 ?_
  refine x_icmp_ne (pc := 20) (tgt := 29) o dX11_year_20 (by decide) (fun c19 => ?_) (fun c19 => ?_)
  · have h := xif h c19
    refine x_aload_n (pc := 29) o dX11_year_29 rfl rfl ?_
    obtain ⟨r5, hr5, h⟩ := xbs h
    refine gX11_16 (pc := 30) o dX11_year_30 hr5 ?_
    refine x_astore_n (pc := 33) o dX11_year_33 rfl hn3 ?_
    refine x_aload_n (pc := 34) o dX11_year_34 rfl rfl ?_
    refine x_aload_n (pc := 35) o dX11_year_35 rfl rfl ?_
    obtain ⟨r6, hr6, h⟩ := xbs h
    refine gX11_20 (pc := 36) o dX11_year_36 hr6 ?_
    obtain ⟨S7, hS7, h⟩ := xbs h
    refine pX11_16 (pc := 39) o dX11_year_39 hS7 ?_
    refine x_aload_n (pc := 42) o dX11_year_42 rfl rfl ?_
    refine x_aload_n (pc := 43) o dX11_year_43 rfl rfl ?_
    obtain ⟨S8, hS8, h⟩ := xbs h
    refine pX11_20 (pc := 44) o dX11_year_44 hS8 ?_
    refine x_aload_n (pc := 47) o dX11_year_47 rfl rfl ?_
    obtain ⟨r9, hr9, h⟩ := xbs h
    refine gX11_26 (pc := 48) o dX11_year_48 hr9 ?_
    refine x_aload_n (pc := 51) o dX11_year_51 rfl rfl ?_
    obtain ⟨r10, hr10, h⟩ := xbs h
    refine gX11_16 (pc := 52) o dX11_year_52 hr10 ?_
    obtain ⟨S11, hS11, h⟩ := xbs h
    refine x_callV (pc := 55) (As := [.ref (M.2.1 r10)]) (b := r9) (rest := []) o (tX8_start _ M _ n r9 r10 S8 S11 hS11) eX8_start mX11_118 clX8 (kX8_start hS11) (by decide) rfl rfl (Nat.le_of_ble_eq_true rfl) dX11_year_55 ?_
    refine x_aload_n (pc := 58) o dX11_year_58 rfl rfl ?_
    obtain ⟨r12, hr12, h⟩ := xbs h
    refine gX11_33 (pc := 59) o dX11_year_59 hr12 ?_
    obtain ⟨S13, hS13, h⟩ := xbs h
    refine x_callV (pc := 62) (As := []) (b := r12) (rest := []) o (tX3_clear _ M _ r12 S11 S13 hS13) eX3_clear mX11_122 clX3 (kX3_clear hS13) (by decide) rfl rfl (Nat.le_of_ble_eq_true rfl) dX11_year_62 ?_
    refine x_aload_n (pc := 65) o dX11_year_65 rfl rfl ?_
    refine x_iconst (pc := 66) o dX11_year_66 ic_0 ?_
    obtain ⟨S14, hS14, h⟩ := xbs h
    refine pX11_125 (pc := 67) o dX11_year_67 hS14 ?_
    refine x_aload_n (pc := 70) o dX11_year_70 rfl rfl ?_
    obtain ⟨r15, hr15, h⟩ := xbs h
    refine gX11_49 (pc := 71) o dX11_year_71 hr15 ?_
    refine x_aload_n (pc := 74) o dX11_year_74 rfl rfl ?_
    obtain ⟨r16, hr16, h⟩ := xbs h
    refine gX11_16 (pc := 75) o dX11_year_75 hr16 ?_
    obtain ⟨S17, hS17, h⟩ := xbs h
    refine x_callV (pc := 78) (As := [.ref (M.2.1 r16)]) (b := r15) (rest := []) o (tX0_turnTo _ M _ r15 r16 S14 S17 hS17) eX0_turnTo mX11_128 clX0 (kX0_turnTo hS17) (by decide) rfl rfl (Nat.le_of_ble_eq_true rfl) dX11_year_78 ?_
    refine x_iload_n (pc := 81) o dX11_year_81 rfl rfl ?_
    exact x_ireturn (pc := 82) o hr dX11_year_82 (xr1 h) (xr2 h)
  · have h := xit h c19
    refine x_aload_n (pc := 23) o dX11_year_23 rfl rfl ?_
    refine x_iconst (pc := 24) o dX11_year_24 ic_1 ?_
    obtain ⟨q18, hq18, h⟩ := xbs h
    refine x_callI (pc := 25) (As := [.int ((1 : Int32))]) (b := k0) (rest := []) o (tX11_refuse _ M _ k0 ((1 : Int32)) q4.2 q18 hq18) eX11_refuse mX11_98 clX11 (kX11_refuse hq18) (by decide) rfl rfl (Nat.le_of_ble_eq_true rfl) dX11_year_25 ?_
    exact x_ireturn (pc := 28) o hr dX11_year_28 (xr1 h) (xr2 h)
def fX11_fault (k0 : Nat) (a1 : Int32) (S : xSt) : Option (Int32) :=
  if tC.1 k0 = 11 then
  (if a1 = (0 : Int32) then
  ((xgF tC 11 8 k0 S).bind fun r1 =>
  (xgI tC 7 9 r1 S).bind fun v2 =>
  some v2)
else if a1 = (1 : Int32) then
  ((xgF tC 11 8 k0 S).bind fun r4 =>
  (xgI tC 7 10 r4 S).bind fun v5 =>
  some v5)
else 
  (some ((-1 : Int32))))
  else none
theorem kX11_fault {z : Int32} {k0 : Nat} {a1 : Int32} {S : xSt} (h : fX11_fault k0 a1 S = some z) : tC.1 k0 = 11 := by
  unfold fX11_fault at h
  exact (xck h).1
set_option maxHeartbeats 4000000 in
theorem tX11_fault (l : Launch) (M : xMg) (A : Nat → Prop) (k0 : Nat) (a1 : Int32) (S : xSt) (z : Int32) (h : fX11_fault k0 a1 S = some z) : xMI l yX11_fault cX11_fault 2 (some .int) 1 tC M A [.ref (M.2.1 k0), .int a1] S z S := by
  refine x_metI (plainFor_of_name (by decide)) tC_ok (Nat.le_of_ble_eq_true rfl) (fun Γ hA hnL hl hr o => ?_)
  subst hA; subst hl
  have o : xOk Γ tC M 1 cX11_fault RX11 := o
  unfold fX11_fault at h
  obtain ⟨hk0, h⟩ := xck h
  refine x_to (l := [(0, .ref (M.2.1 k0)), (1, .int a1)]) ⟨rfl, rfl, trivial⟩ ?_
  refine x_iload_n (pc := 0) o dX11_fault_0 rfl rfl ?_
  by_cases c3 : a1 = (0 : Int32)
  · have h := xit h c3
    refine x_lkswitch (pc := 1) (off := 27) (tgt := 28) o dX11_fault_1 (by decide) (by rw [c3]; decide) (by decide) ?_
    refine x_aload_n (pc := 28) o dX11_fault_28 rfl rfl ?_
    obtain ⟨r1, hr1, h⟩ := xbs h
    refine gX11_58 (pc := 29) o dX11_fault_29 hr1 ?_
    obtain ⟨v2, hv2, h⟩ := xbs h
    refine gX11_131 (pc := 32) o dX11_fault_32 hv2 ?_
    exact x_ireturn (pc := 35) o hr dX11_fault_35 (Option.some.inj h) rfl
  have h := xif h c3
  by_cases c6 : a1 = (1 : Int32)
  · have h := xit h c6
    refine x_lkswitch (pc := 1) (off := 35) (tgt := 36) o dX11_fault_1 (by decide) (by rw [c6]; decide) (by decide) ?_
    refine x_aload_n (pc := 36) o dX11_fault_36 rfl rfl ?_
    obtain ⟨r4, hr4, h⟩ := xbs h
    refine gX11_58 (pc := 37) o dX11_fault_37 hr4 ?_
    obtain ⟨v5, hv5, h⟩ := xbs h
    refine gX11_134 (pc := 40) o dX11_fault_40 hv5 ?_
    exact x_ireturn (pc := 43) o hr dX11_fault_43 (Option.some.inj h) rfl
  have h := xif h c6
  refine x_lkswitch (pc := 1) (off := 43) (tgt := 44) o dX11_fault_1 (by decide) (by show Op.lookupswitch.offset [(0, 27), (1, 35)] 43 _ = _; rw [lv_osw c3 (by decide)]; rw [lv_osw c6 (by decide)]; rfl) (by decide) ?_
  refine x_iconst (pc := 44) o dX11_fault_44 ic_m1 ?_
  exact x_ireturn (pc := 45) o hr dX11_fault_45 (Option.some.inj h) rfl
def fX11_jobsDone_L4b (n : Nat) (k0 : Nat) (S : xSt) (rec : Int32 → Int32 → Option (Int32)) (a1 : Int32) (a2 : Int32) : Option (Int32) :=
  (xgM tC 11 2 k0 S).bind fun r1 =>
  (fX9_count r1 ((3 : Int32)) S).bind fun v2 =>
  if v2 ≤ a2 then
  (some a1)
else
  ((xgF tC 11 4 k0 S).bind fun r3 =>
  (xgM tC 11 2 k0 S).bind fun r4 =>
  (fX8_isFinished r3 a2 r4 S).bind fun v5 =>
  if v5 = 0 then
  ((some (a1 + ((0 : Int32)))).bind fun v6 =>
  (some (a2 + (1 : Int32))).bind fun v7 =>
  rec v6 v7)
else
  ((some (a1 + ((1 : Int32)))).bind fun v8 =>
  (some (a2 + (1 : Int32))).bind fun v9 =>
  rec v8 v9))
def fX11_jobsDone_L4 (n : Nat) (k0 : Nat) (S : xSt) : Nat → Int32 → Int32 → Option (Int32)
  | 0 => fun _ _ => none
  | q + 1 => fX11_jobsDone_L4b n k0 S (fX11_jobsDone_L4 n k0 S q)
set_option maxHeartbeats 4000000 in
theorem tX11_jobsDone_L4b {Γ : xGm} {M : xMg} (o : xOk Γ tC M 2 cX11_jobsDone RX11) (hnL : Γ.2.2.2 = 3) {rec : Int32 → Int32 → Option (Int32)} (n : Nat) (k0 : Nat) (S : xSt) (a1 : Int32) (a2 : Int32) (z : (Int32)) (hrec : ∀ (a1 : Int32) (a2 : Int32), rec a1 a2 = some z → xAt Γ tC M 4 (xlv [(0, .ref (M.2.1 k0)), (1, .int a1), (2, .int a2)]) [] S) (K : xAt Γ tC M 45 (xlv [(1, .int z)]) [] S) (h : fX11_jobsDone_L4b n k0 S rec a1 a2 = some z) : xAt Γ tC M 4 (xlv [(0, .ref (M.2.1 k0)), (1, .int a1), (2, .int a2)]) [] S := by
  have hn1 : 1 < Γ.2.2.2 := by omega
  have hn2 : 2 < Γ.2.2.2 := by omega
  unfold fX11_jobsDone_L4b at h
  refine x_iload_n (pc := 4) o dX11_jobsDone_4 rfl rfl ?_
  refine x_aload_n (pc := 5) o dX11_jobsDone_5 rfl rfl ?_
  obtain ⟨r1, hr1, h⟩ := xbs h
  refine gX11_16 (pc := 6) o dX11_jobsDone_6 hr1 ?_
  refine x_iconst (pc := 9) o dX11_jobsDone_9 ic_3 ?_
  obtain ⟨v2, hv2, h⟩ := xbs h
  refine x_callI (pc := 10) (As := [.int ((3 : Int32))]) (b := r1) (rest := [.int a2]) o (tX9_count _ M _ r1 ((3 : Int32)) S v2 hv2) eX9_count mX11_137 clX9 (kX9_count hv2) (by decide) rfl rfl (Nat.le_of_ble_eq_true rfl) dX11_jobsDone_10 ?_
  refine x_icmp_ge (pc := 13) (tgt := 45) o dX11_jobsDone_13 (by decide) (fun c11 => ?_) (fun c11 => ?_)
  · have h := xit h c11
    refine x_to (l := [(1, .int a1)]) ⟨rfl, trivial⟩ ?_
    cases Option.some.inj h
    exact K
  · have h := xif h c11
    refine x_iload_n (pc := 16) o dX11_jobsDone_16 rfl rfl ?_
    refine x_aload_n (pc := 17) o dX11_jobsDone_17 rfl rfl ?_
    obtain ⟨r3, hr3, h⟩ := xbs h
    refine gX11_26 (pc := 18) o dX11_jobsDone_18 hr3 ?_
    refine x_iload_n (pc := 21) o dX11_jobsDone_21 rfl rfl ?_
    refine x_aload_n (pc := 22) o dX11_jobsDone_22 rfl rfl ?_
    obtain ⟨r4, hr4, h⟩ := xbs h
    refine gX11_16 (pc := 23) o dX11_jobsDone_23 hr4 ?_
    obtain ⟨v5, hv5, h⟩ := xbs h
    refine x_callI (pc := 26) (As := [.int a2, .ref (M.2.1 r4)]) (b := r3) (rest := [.int a1]) o (tX8_isFinished _ M _ r3 a2 r4 S v5 hv5) eX8_isFinished mX11_349 clX8 (kX8_isFinished hv5) (by decide) rfl rfl (Nat.le_of_ble_eq_true rfl) dX11_jobsDone_26 ?_
    refine x_if_eq (pc := 29) (tgt := 36) o dX11_jobsDone_29 (by decide) (fun c10 => ?_) (fun c10 => ?_)
    · have h := xit h c10
      refine x_iconst (pc := 36) o dX11_jobsDone_36 ic_0 ?_
      refine x_iadd (pc := 37) o dX11_jobsDone_37 ?_
      obtain ⟨v6, hv6, h⟩ := xbs h
      refine x_istore_nE (pc := 38) o dX11_jobsDone_38 rfl hn1 hv6 ?_
      obtain ⟨v7, hv7, h⟩ := xbs h
      refine x_iincE (pc := 39) o dX11_jobsDone_39 rfl ic_1 hn2 hv7 ?_
      refine x_goto (pc := 42) (tgt := 4) o dX11_jobsDone_42 (by decide) ?_
      refine x_to (l := [(0, .ref (M.2.1 k0)), (1, .int v6), (2, .int v7)]) ⟨rfl, rfl, rfl, trivial⟩ ?_
      exact hrec v6 v7 h
    · have h := xif h c10
      refine x_iconst (pc := 32) o dX11_jobsDone_32 ic_1 ?_
      refine x_goto (pc := 33) (tgt := 37) o dX11_jobsDone_33 (by decide) ?_
      refine x_iadd (pc := 37) o dX11_jobsDone_37 ?_
      obtain ⟨v8, hv8, h⟩ := xbs h
      refine x_istore_nE (pc := 38) o dX11_jobsDone_38 rfl hn1 hv8 ?_
      obtain ⟨v9, hv9, h⟩ := xbs h
      refine x_iincE (pc := 39) o dX11_jobsDone_39 rfl ic_1 hn2 hv9 ?_
      refine x_goto (pc := 42) (tgt := 4) o dX11_jobsDone_42 (by decide) ?_
      refine x_to (l := [(0, .ref (M.2.1 k0)), (1, .int v8), (2, .int v9)]) ⟨rfl, rfl, rfl, trivial⟩ ?_
      exact hrec v8 v9 h
theorem tX11_jobsDone_L4 {Γ : xGm} {M : xMg} (o : xOk Γ tC M 2 cX11_jobsDone RX11) (hnL : Γ.2.2.2 = 3) (n : Nat) (k0 : Nat) (S : xSt) (z : (Int32)) (K : xAt Γ tC M 45 (xlv [(1, .int z)]) [] S) : ∀ (q : Nat) (a1 : Int32) (a2 : Int32), fX11_jobsDone_L4 n k0 S q a1 a2 = some z → xAt Γ tC M 4 (xlv [(0, .ref (M.2.1 k0)), (1, .int a1), (2, .int a2)]) [] S := by
  intro q
  induction q with
  | zero => intro a1 a2 h; cases h
  | succ q ih => intro a1 a2 h; exact tX11_jobsDone_L4b o hnL n k0 S a1 a2 z ih K h
def fX11_jobsDone (n : Nat) (k0 : Nat) (S : xSt) : Option (Int32) :=
  if tC.1 k0 = 11 then
  ((fX11_jobsDone_L4 n k0 S n ((0 : Int32)) ((0 : Int32))).bind fun z12 => some z12)
  else none
theorem kX11_jobsDone {z : Int32} {n : Nat} {k0 : Nat} {S : xSt} (h : fX11_jobsDone n k0 S = some z) : tC.1 k0 = 11 := by
  unfold fX11_jobsDone at h
  exact (xck h).1
set_option maxHeartbeats 4000000 in
theorem tX11_jobsDone (l : Launch) (M : xMg) (A : Nat → Prop) (n : Nat) (k0 : Nat) (S : xSt) (z : Int32) (h : fX11_jobsDone n k0 S = some z) : xMI l yX11_jobsDone cX11_jobsDone 3 (some .int) 2 tC M A [.ref (M.2.1 k0)] S z S := by
  refine x_metI (plainFor_of_name (by decide)) tC_ok (Nat.le_of_ble_eq_true rfl) (fun Γ hA hnL hl hr o => ?_)
  subst hA; subst hl
  have o : xOk Γ tC M 2 cX11_jobsDone RX11 := o
  unfold fX11_jobsDone at h
  obtain ⟨hk0, h⟩ := xck h
  refine x_to (l := [(0, .ref (M.2.1 k0))]) ⟨rfl, trivial⟩ ?_
  have hn1 : 1 < Γ.2.2.2 := by omega
  have hn2 : 2 < Γ.2.2.2 := by omega
  refine x_iconst (pc := 0) o dX11_jobsDone_0 ic_0 ?_
  refine x_istore_n (pc := 1) o dX11_jobsDone_1 rfl hn1 ?_
  refine x_iconst (pc := 2) o dX11_jobsDone_2 ic_0 ?_
  refine x_istore_n (pc := 3) o dX11_jobsDone_3 rfl hn2 ?_
  obtain ⟨z12, hz12, h⟩ := xbs h
  refine x_to (l := [(0, .ref (M.2.1 k0)), (1, .int ((0 : Int32))), (2, .int ((0 : Int32)))]) ⟨rfl, rfl, rfl, trivial⟩ ?_
  refine tX11_jobsDone_L4 o hnL n k0 S z12 ?_ n ((0 : Int32)) ((0 : Int32)) hz12
  refine x_iload_n (pc := 45) o dX11_jobsDone_45 rfl rfl ?_
  exact x_ireturn (pc := 46) o hr dX11_jobsDone_46 (Option.some.inj h) rfl
def fX11_jobsLate_L4b (n : Nat) (k0 : Nat) (S : xSt) (rec : Int32 → Int32 → Option (Int32)) (a1 : Int32) (a2 : Int32) : Option (Int32) :=
  (xgM tC 11 2 k0 S).bind fun r1 =>
  (fX9_count r1 ((3 : Int32)) S).bind fun v2 =>
  if v2 ≤ a2 then
  (some a1)
else
  ((xgF tC 11 4 k0 S).bind fun r3 =>
  (xgM tC 11 2 k0 S).bind fun r4 =>
  (fX8_daysLate r3 a2 r4 S).bind fun v5 =>
  if v5 ≤ 0 then
  ((some (a1 + ((0 : Int32)))).bind fun v6 =>
  (some (a2 + (1 : Int32))).bind fun v7 =>
  rec v6 v7)
else
  ((some (a1 + ((1 : Int32)))).bind fun v8 =>
  (some (a2 + (1 : Int32))).bind fun v9 =>
  rec v8 v9))
def fX11_jobsLate_L4 (n : Nat) (k0 : Nat) (S : xSt) : Nat → Int32 → Int32 → Option (Int32)
  | 0 => fun _ _ => none
  | q + 1 => fX11_jobsLate_L4b n k0 S (fX11_jobsLate_L4 n k0 S q)
set_option maxHeartbeats 4000000 in
theorem tX11_jobsLate_L4b {Γ : xGm} {M : xMg} (o : xOk Γ tC M 3 cX11_jobsLate RX11) (hnL : Γ.2.2.2 = 3) {rec : Int32 → Int32 → Option (Int32)} (n : Nat) (k0 : Nat) (S : xSt) (a1 : Int32) (a2 : Int32) (z : (Int32)) (hrec : ∀ (a1 : Int32) (a2 : Int32), rec a1 a2 = some z → xAt Γ tC M 4 (xlv [(0, .ref (M.2.1 k0)), (1, .int a1), (2, .int a2)]) [] S) (K : xAt Γ tC M 45 (xlv [(1, .int z)]) [] S) (h : fX11_jobsLate_L4b n k0 S rec a1 a2 = some z) : xAt Γ tC M 4 (xlv [(0, .ref (M.2.1 k0)), (1, .int a1), (2, .int a2)]) [] S := by
  have hn1 : 1 < Γ.2.2.2 := by omega
  have hn2 : 2 < Γ.2.2.2 := by omega
  unfold fX11_jobsLate_L4b at h
  refine x_iload_n (pc := 4) o dX11_jobsLate_4 rfl rfl ?_
  refine x_aload_n (pc := 5) o dX11_jobsLate_5 rfl rfl ?_
  obtain ⟨r1, hr1, h⟩ := xbs h
  refine gX11_16 (pc := 6) o dX11_jobsLate_6 hr1 ?_
  refine x_iconst (pc := 9) o dX11_jobsLate_9 ic_3 ?_
  obtain ⟨v2, hv2, h⟩ := xbs h
  refine x_callI (pc := 10) (As := [.int ((3 : Int32))]) (b := r1) (rest := [.int a2]) o (tX9_count _ M _ r1 ((3 : Int32)) S v2 hv2) eX9_count mX11_137 clX9 (kX9_count hv2) (by decide) rfl rfl (Nat.le_of_ble_eq_true rfl) dX11_jobsLate_10 ?_
  refine x_icmp_ge (pc := 13) (tgt := 45) o dX11_jobsLate_13 (by decide) (fun c11 => ?_) (fun c11 => ?_)
  · have h := xit h c11
    refine x_to (l := [(1, .int a1)]) ⟨rfl, trivial⟩ ?_
    cases Option.some.inj h
    exact K
  · have h := xif h c11
    refine x_iload_n (pc := 16) o dX11_jobsLate_16 rfl rfl ?_
    refine x_aload_n (pc := 17) o dX11_jobsLate_17 rfl rfl ?_
    obtain ⟨r3, hr3, h⟩ := xbs h
    refine gX11_26 (pc := 18) o dX11_jobsLate_18 hr3 ?_
    refine x_iload_n (pc := 21) o dX11_jobsLate_21 rfl rfl ?_
    refine x_aload_n (pc := 22) o dX11_jobsLate_22 rfl rfl ?_
    obtain ⟨r4, hr4, h⟩ := xbs h
    refine gX11_16 (pc := 23) o dX11_jobsLate_23 hr4 ?_
    obtain ⟨v5, hv5, h⟩ := xbs h
    refine x_callI (pc := 26) (As := [.int a2, .ref (M.2.1 r4)]) (b := r3) (rest := [.int a1]) o (tX8_daysLate _ M _ r3 a2 r4 S v5 hv5) eX8_daysLate mX11_210 clX8 (kX8_daysLate hv5) (by decide) rfl rfl (Nat.le_of_ble_eq_true rfl) dX11_jobsLate_26 ?_
    refine x_if_le (pc := 29) (tgt := 36) o dX11_jobsLate_29 (by decide) (fun c10 => ?_) (fun c10 => ?_)
    · have h := xit h c10
      refine x_iconst (pc := 36) o dX11_jobsLate_36 ic_0 ?_
      refine x_iadd (pc := 37) o dX11_jobsLate_37 ?_
      obtain ⟨v6, hv6, h⟩ := xbs h
      refine x_istore_nE (pc := 38) o dX11_jobsLate_38 rfl hn1 hv6 ?_
      obtain ⟨v7, hv7, h⟩ := xbs h
      refine x_iincE (pc := 39) o dX11_jobsLate_39 rfl ic_1 hn2 hv7 ?_
      refine x_goto (pc := 42) (tgt := 4) o dX11_jobsLate_42 (by decide) ?_
      refine x_to (l := [(0, .ref (M.2.1 k0)), (1, .int v6), (2, .int v7)]) ⟨rfl, rfl, rfl, trivial⟩ ?_
      exact hrec v6 v7 h
    · have h := xif h c10
      refine x_iconst (pc := 32) o dX11_jobsLate_32 ic_1 ?_
      refine x_goto (pc := 33) (tgt := 37) o dX11_jobsLate_33 (by decide) ?_
      refine x_iadd (pc := 37) o dX11_jobsLate_37 ?_
      obtain ⟨v8, hv8, h⟩ := xbs h
      refine x_istore_nE (pc := 38) o dX11_jobsLate_38 rfl hn1 hv8 ?_
      obtain ⟨v9, hv9, h⟩ := xbs h
      refine x_iincE (pc := 39) o dX11_jobsLate_39 rfl ic_1 hn2 hv9 ?_
      refine x_goto (pc := 42) (tgt := 4) o dX11_jobsLate_42 (by decide) ?_
      refine x_to (l := [(0, .ref (M.2.1 k0)), (1, .int v8), (2, .int v9)]) ⟨rfl, rfl, rfl, trivial⟩ ?_
      exact hrec v8 v9 h
theorem tX11_jobsLate_L4 {Γ : xGm} {M : xMg} (o : xOk Γ tC M 3 cX11_jobsLate RX11) (hnL : Γ.2.2.2 = 3) (n : Nat) (k0 : Nat) (S : xSt) (z : (Int32)) (K : xAt Γ tC M 45 (xlv [(1, .int z)]) [] S) : ∀ (q : Nat) (a1 : Int32) (a2 : Int32), fX11_jobsLate_L4 n k0 S q a1 a2 = some z → xAt Γ tC M 4 (xlv [(0, .ref (M.2.1 k0)), (1, .int a1), (2, .int a2)]) [] S := by
  intro q
  induction q with
  | zero => intro a1 a2 h; cases h
  | succ q ih => intro a1 a2 h; exact tX11_jobsLate_L4b o hnL n k0 S a1 a2 z ih K h
def fX11_jobsLate (n : Nat) (k0 : Nat) (S : xSt) : Option (Int32) :=
  if tC.1 k0 = 11 then
  ((fX11_jobsLate_L4 n k0 S n ((0 : Int32)) ((0 : Int32))).bind fun z12 => some z12)
  else none
theorem kX11_jobsLate {z : Int32} {n : Nat} {k0 : Nat} {S : xSt} (h : fX11_jobsLate n k0 S = some z) : tC.1 k0 = 11 := by
  unfold fX11_jobsLate at h
  exact (xck h).1
set_option maxHeartbeats 4000000 in
theorem tX11_jobsLate (l : Launch) (M : xMg) (A : Nat → Prop) (n : Nat) (k0 : Nat) (S : xSt) (z : Int32) (h : fX11_jobsLate n k0 S = some z) : xMI l yX11_jobsLate cX11_jobsLate 3 (some .int) 3 tC M A [.ref (M.2.1 k0)] S z S := by
  refine x_metI (plainFor_of_name (by decide)) tC_ok (Nat.le_of_ble_eq_true rfl) (fun Γ hA hnL hl hr o => ?_)
  subst hA; subst hl
  have o : xOk Γ tC M 3 cX11_jobsLate RX11 := o
  unfold fX11_jobsLate at h
  obtain ⟨hk0, h⟩ := xck h
  refine x_to (l := [(0, .ref (M.2.1 k0))]) ⟨rfl, trivial⟩ ?_
  have hn1 : 1 < Γ.2.2.2 := by omega
  have hn2 : 2 < Γ.2.2.2 := by omega
  refine x_iconst (pc := 0) o dX11_jobsLate_0 ic_0 ?_
  refine x_istore_n (pc := 1) o dX11_jobsLate_1 rfl hn1 ?_
  refine x_iconst (pc := 2) o dX11_jobsLate_2 ic_0 ?_
  refine x_istore_n (pc := 3) o dX11_jobsLate_3 rfl hn2 ?_
  obtain ⟨z12, hz12, h⟩ := xbs h
  refine x_to (l := [(0, .ref (M.2.1 k0)), (1, .int ((0 : Int32))), (2, .int ((0 : Int32)))]) ⟨rfl, rfl, rfl, trivial⟩ ?_
  refine tX11_jobsLate_L4 o hnL n k0 S z12 ?_ n ((0 : Int32)) ((0 : Int32)) hz12
  refine x_iload_n (pc := 45) o dX11_jobsLate_45 rfl rfl ?_
  exact x_ireturn (pc := 46) o hr dX11_jobsLate_46 (Option.some.inj h) rfl
def fX11_has (n : Nat) (k0 : Nat) (a1 : Int32) (S : xSt) : Option (Int32) :=
  if tC.1 k0 = 11 then
  (if a1 = (0 : Int32) then
  ((xgM tC 11 2 k0 S).bind fun r1 =>
  (fX9_count r1 a1 S).bind fun v2 =>
  some v2)
else if a1 = (1 : Int32) then
  ((xgM tC 11 2 k0 S).bind fun r4 =>
  (fX9_count r4 a1 S).bind fun v5 =>
  some v5)
else if a1 = (2 : Int32) then
  ((xgM tC 11 2 k0 S).bind fun r7 =>
  (fX9_count r7 a1 S).bind fun v8 =>
  some v8)
else if a1 = (3 : Int32) then
  ((xgM tC 11 2 k0 S).bind fun r10 =>
  (fX9_count r10 a1 S).bind fun v11 =>
  some v11)
else if a1 = (4 : Int32) then
  ((xgF tC 11 4 k0 S).bind fun r13 =>
  (xgI tC 8 0 r13 S).bind fun v14 =>
  some v14)
else if a1 = (5 : Int32) then
  ((xgF tC 11 4 k0 S).bind fun r16 =>
  (xgI tC 8 1 r16 S).bind fun v17 =>
  some v17)
else if a1 = (6 : Int32) then
  ((xgF tC 11 4 k0 S).bind fun r19 =>
  (xgI tC 8 2 r19 S).bind fun v20 =>
  (fJ6_bitCount_0f7a4 v20 S).bind fun v21 =>
  some v21)
else if a1 = (7 : Int32) then
  ((xgF tC 11 4 k0 S).bind fun r23 =>
  (xgI tC 8 3 r23 S).bind fun v24 =>
  (fJ6_bitCount_0f7a4 v24 S).bind fun v25 =>
  some v25)
else if a1 = (8 : Int32) then
  ((fX11_jobsDone n k0 S).bind fun v27 =>
  some v27)
else if a1 = (9 : Int32) then
  ((fX11_jobsLate n k0 S).bind fun v29 =>
  some v29)
else if a1 = (10 : Int32) then
  ((xgF tC 11 4 k0 S).bind fun r31 =>
  (xgI tC 8 4 r31 S).bind fun v32 =>
  some v32)
else if a1 = (11 : Int32) then
  ((xgF tC 11 5 k0 S).bind fun r34 =>
  (xgI tC 3 3 r34 S).bind fun v35 =>
  some v35)
else if a1 = (12 : Int32) then
  ((xgI tC 11 15 k0 S).bind fun v37 =>
  some v37)
else 
  (some ((-1 : Int32))))
  else none
theorem kX11_has {z : Int32} {n : Nat} {k0 : Nat} {a1 : Int32} {S : xSt} (h : fX11_has n k0 a1 S = some z) : tC.1 k0 = 11 := by
  unfold fX11_has at h
  exact (xck h).1
set_option maxHeartbeats 4000000 in
theorem tX11_has (l : Launch) (M : xMg) (A : Nat → Prop) (n : Nat) (k0 : Nat) (a1 : Int32) (S : xSt) (z : Int32) (h : fX11_has n k0 a1 S = some z) : xMI l yX11_has cX11_has 2 (some .int) 4 tC M A [.ref (M.2.1 k0), .int a1] S z S := by
  refine x_metI (plainFor_of_name (by decide)) tC_ok (Nat.le_of_ble_eq_true rfl) (fun Γ hA hnL hl hr o => ?_)
  subst hA; subst hl
  have o : xOk Γ tC M 4 cX11_has RX11 := o
  unfold fX11_has at h
  obtain ⟨hk0, h⟩ := xck h
  refine x_to (l := [(0, .ref (M.2.1 k0)), (1, .int a1)]) ⟨rfl, rfl, trivial⟩ ?_
  refine x_iload_n (pc := 0) o dX11_has_0 rfl rfl ?_
  by_cases c3 : a1 = (0 : Int32)
  · have h := xit h c3
    refine x_tableIn (pc := 1) (tgt := 68) o dX11_has_1 (by rw [c3]; decide) (by rw [c3]; decide) (by rw [c3]; rfl) (by decide) ?_
    refine x_aload_n (pc := 68) o dX11_has_68 rfl rfl ?_
    obtain ⟨r1, hr1, h⟩ := xbs h
    refine gX11_16 (pc := 69) o dX11_has_69 hr1 ?_
    refine x_iload_n (pc := 72) o dX11_has_72 rfl rfl ?_
    obtain ⟨v2, hv2, h⟩ := xbs h
    refine x_callI (pc := 73) (As := [.int a1]) (b := r1) (rest := []) o (tX9_count _ M _ r1 a1 S v2 hv2) eX9_count mX11_137 clX9 (kX9_count hv2) (by decide) rfl rfl (Nat.le_of_ble_eq_true rfl) dX11_has_73 ?_
    exact x_ireturn (pc := 76) o hr dX11_has_76 (Option.some.inj h) rfl
  have h := xif h c3
  by_cases c6 : a1 = (1 : Int32)
  · have h := xit h c6
    refine x_tableIn (pc := 1) (tgt := 68) o dX11_has_1 (by rw [c6]; decide) (by rw [c6]; decide) (by rw [c6]; rfl) (by decide) ?_
    refine x_aload_n (pc := 68) o dX11_has_68 rfl rfl ?_
    obtain ⟨r4, hr4, h⟩ := xbs h
    refine gX11_16 (pc := 69) o dX11_has_69 hr4 ?_
    refine x_iload_n (pc := 72) o dX11_has_72 rfl rfl ?_
    obtain ⟨v5, hv5, h⟩ := xbs h
    refine x_callI (pc := 73) (As := [.int a1]) (b := r4) (rest := []) o (tX9_count _ M _ r4 a1 S v5 hv5) eX9_count mX11_137 clX9 (kX9_count hv5) (by decide) rfl rfl (Nat.le_of_ble_eq_true rfl) dX11_has_73 ?_
    exact x_ireturn (pc := 76) o hr dX11_has_76 (Option.some.inj h) rfl
  have h := xif h c6
  by_cases c9 : a1 = (2 : Int32)
  · have h := xit h c9
    refine x_tableIn (pc := 1) (tgt := 68) o dX11_has_1 (by rw [c9]; decide) (by rw [c9]; decide) (by rw [c9]; rfl) (by decide) ?_
    refine x_aload_n (pc := 68) o dX11_has_68 rfl rfl ?_
    obtain ⟨r7, hr7, h⟩ := xbs h
    refine gX11_16 (pc := 69) o dX11_has_69 hr7 ?_
    refine x_iload_n (pc := 72) o dX11_has_72 rfl rfl ?_
    obtain ⟨v8, hv8, h⟩ := xbs h
    refine x_callI (pc := 73) (As := [.int a1]) (b := r7) (rest := []) o (tX9_count _ M _ r7 a1 S v8 hv8) eX9_count mX11_137 clX9 (kX9_count hv8) (by decide) rfl rfl (Nat.le_of_ble_eq_true rfl) dX11_has_73 ?_
    exact x_ireturn (pc := 76) o hr dX11_has_76 (Option.some.inj h) rfl
  have h := xif h c9
  by_cases c12 : a1 = (3 : Int32)
  · have h := xit h c12
    refine x_tableIn (pc := 1) (tgt := 68) o dX11_has_1 (by rw [c12]; decide) (by rw [c12]; decide) (by rw [c12]; rfl) (by decide) ?_
    refine x_aload_n (pc := 68) o dX11_has_68 rfl rfl ?_
    obtain ⟨r10, hr10, h⟩ := xbs h
    refine gX11_16 (pc := 69) o dX11_has_69 hr10 ?_
    refine x_iload_n (pc := 72) o dX11_has_72 rfl rfl ?_
    obtain ⟨v11, hv11, h⟩ := xbs h
    refine x_callI (pc := 73) (As := [.int a1]) (b := r10) (rest := []) o (tX9_count _ M _ r10 a1 S v11 hv11) eX9_count mX11_137 clX9 (kX9_count hv11) (by decide) rfl rfl (Nat.le_of_ble_eq_true rfl) dX11_has_73 ?_
    exact x_ireturn (pc := 76) o hr dX11_has_76 (Option.some.inj h) rfl
  have h := xif h c12
  by_cases c15 : a1 = (4 : Int32)
  · have h := xit h c15
    refine x_tableIn (pc := 1) (tgt := 77) o dX11_has_1 (by rw [c15]; decide) (by rw [c15]; decide) (by rw [c15]; rfl) (by decide) ?_
    refine x_aload_n (pc := 77) o dX11_has_77 rfl rfl ?_
    obtain ⟨r13, hr13, h⟩ := xbs h
    refine gX11_26 (pc := 78) o dX11_has_78 hr13 ?_
    obtain ⟨v14, hv14, h⟩ := xbs h
    refine gX11_140 (pc := 81) o dX11_has_81 hv14 ?_
    exact x_ireturn (pc := 84) o hr dX11_has_84 (Option.some.inj h) rfl
  have h := xif h c15
  by_cases c18 : a1 = (5 : Int32)
  · have h := xit h c18
    refine x_tableIn (pc := 1) (tgt := 85) o dX11_has_1 (by rw [c18]; decide) (by rw [c18]; decide) (by rw [c18]; rfl) (by decide) ?_
    refine x_aload_n (pc := 85) o dX11_has_85 rfl rfl ?_
    obtain ⟨r16, hr16, h⟩ := xbs h
    refine gX11_26 (pc := 86) o dX11_has_86 hr16 ?_
    obtain ⟨v17, hv17, h⟩ := xbs h
    refine gX11_143 (pc := 89) o dX11_has_89 hv17 ?_
    exact x_ireturn (pc := 92) o hr dX11_has_92 (Option.some.inj h) rfl
  have h := xif h c18
  by_cases c22 : a1 = (6 : Int32)
  · have h := xit h c22
    refine x_tableIn (pc := 1) (tgt := 93) o dX11_has_1 (by rw [c22]; decide) (by rw [c22]; decide) (by rw [c22]; rfl) (by decide) ?_
    refine x_aload_n (pc := 93) o dX11_has_93 rfl rfl ?_
    obtain ⟨r19, hr19, h⟩ := xbs h
    refine gX11_26 (pc := 94) o dX11_has_94 hr19 ?_
    obtain ⟨v20, hv20, h⟩ := xbs h
    refine gX11_146 (pc := 97) o dX11_has_97 hv20 ?_
    obtain ⟨v21, hv21, h⟩ := xbs h
    refine x_statI (pc := 100) (As := [.int v20]) (rest := []) o (tJ6_bitCount_0f7a4 _ M _ v20 S v21 hv21) eJ6_bitCount_0f7a4 mX11_149 (by decide) rfl rfl (Nat.le_of_ble_eq_true rfl) dX11_has_100 ?_
    exact x_ireturn (pc := 103) o hr dX11_has_103 (Option.some.inj h) rfl
  have h := xif h c22
  by_cases c26 : a1 = (7 : Int32)
  · have h := xit h c26
    refine x_tableIn (pc := 1) (tgt := 104) o dX11_has_1 (by rw [c26]; decide) (by rw [c26]; decide) (by rw [c26]; rfl) (by decide) ?_
    refine x_aload_n (pc := 104) o dX11_has_104 rfl rfl ?_
    obtain ⟨r23, hr23, h⟩ := xbs h
    refine gX11_26 (pc := 105) o dX11_has_105 hr23 ?_
    obtain ⟨v24, hv24, h⟩ := xbs h
    refine gX11_154 (pc := 108) o dX11_has_108 hv24 ?_
    obtain ⟨v25, hv25, h⟩ := xbs h
    refine x_statI (pc := 111) (As := [.int v24]) (rest := []) o (tJ6_bitCount_0f7a4 _ M _ v24 S v25 hv25) eJ6_bitCount_0f7a4 mX11_149 (by decide) rfl rfl (Nat.le_of_ble_eq_true rfl) dX11_has_111 ?_
    exact x_ireturn (pc := 114) o hr dX11_has_114 (Option.some.inj h) rfl
  have h := xif h c26
  by_cases c28 : a1 = (8 : Int32)
  · have h := xit h c28
    refine x_tableIn (pc := 1) (tgt := 115) o dX11_has_1 (by rw [c28]; decide) (by rw [c28]; decide) (by rw [c28]; rfl) (by decide) ?_
    refine x_aload_n (pc := 115) o dX11_has_115 rfl rfl ?_
    obtain ⟨v27, hv27, h⟩ := xbs h
    refine x_callI (pc := 116) (As := []) (b := k0) (rest := []) o (tX11_jobsDone _ M _ n k0 S v27 hv27) eX11_jobsDone mX11_157 clX11 (kX11_jobsDone hv27) (by decide) rfl rfl (Nat.le_of_ble_eq_true rfl) dX11_has_116 ?_
    exact x_ireturn (pc := 119) o hr dX11_has_119 (Option.some.inj h) rfl
  have h := xif h c28
  by_cases c30 : a1 = (9 : Int32)
  · have h := xit h c30
    refine x_tableIn (pc := 1) (tgt := 120) o dX11_has_1 (by rw [c30]; decide) (by rw [c30]; decide) (by rw [c30]; rfl) (by decide) ?_
    refine x_aload_n (pc := 120) o dX11_has_120 rfl rfl ?_
    obtain ⟨v29, hv29, h⟩ := xbs h
    refine x_callI (pc := 121) (As := []) (b := k0) (rest := []) o (tX11_jobsLate _ M _ n k0 S v29 hv29) eX11_jobsLate mX11_160 clX11 (kX11_jobsLate hv29) (by decide) rfl rfl (Nat.le_of_ble_eq_true rfl) dX11_has_121 ?_
    exact x_ireturn (pc := 124) o hr dX11_has_124 (Option.some.inj h) rfl
  have h := xif h c30
  by_cases c33 : a1 = (10 : Int32)
  · have h := xit h c33
    refine x_tableIn (pc := 1) (tgt := 125) o dX11_has_1 (by rw [c33]; decide) (by rw [c33]; decide) (by rw [c33]; rfl) (by decide) ?_
    refine x_aload_n (pc := 125) o dX11_has_125 rfl rfl ?_
    obtain ⟨r31, hr31, h⟩ := xbs h
    refine gX11_26 (pc := 126) o dX11_has_126 hr31 ?_
    obtain ⟨v32, hv32, h⟩ := xbs h
    refine gX11_163 (pc := 129) o dX11_has_129 hv32 ?_
    exact x_ireturn (pc := 132) o hr dX11_has_132 (Option.some.inj h) rfl
  have h := xif h c33
  by_cases c36 : a1 = (11 : Int32)
  · have h := xit h c36
    refine x_tableIn (pc := 1) (tgt := 133) o dX11_has_1 (by rw [c36]; decide) (by rw [c36]; decide) (by rw [c36]; rfl) (by decide) ?_
    refine x_aload_n (pc := 133) o dX11_has_133 rfl rfl ?_
    obtain ⟨r34, hr34, h⟩ := xbs h
    refine gX11_33 (pc := 134) o dX11_has_134 hr34 ?_
    obtain ⟨v35, hv35, h⟩ := xbs h
    refine gX11_166 (pc := 137) o dX11_has_137 hv35 ?_
    exact x_ireturn (pc := 140) o hr dX11_has_140 (Option.some.inj h) rfl
  have h := xif h c36
  by_cases c38 : a1 = (12 : Int32)
  · have h := xit h c38
    refine x_tableIn (pc := 1) (tgt := 141) o dX11_has_1 (by rw [c38]; decide) (by rw [c38]; decide) (by rw [c38]; rfl) (by decide) ?_
    refine x_aload_n (pc := 141) o dX11_has_141 rfl rfl ?_
    obtain ⟨v37, hv37, h⟩ := xbs h
    refine gX11_91 (pc := 142) o dX11_has_142 hv37 ?_
    exact x_ireturn (pc := 145) o hr dX11_has_145 (Option.some.inj h) rfl
  have h := xif h c38
  refine x_tableOut (pc := 1) (tgt := 146) o dX11_has_1 (by have := lv_neT c3 (a := 0) (by decide); have := lv_neT c6 (a := 1) (by decide); have := lv_neT c9 (a := 2) (by decide); have := lv_neT c12 (a := 3) (by decide); have := lv_neT c15 (a := 4) (by decide); have := lv_neT c18 (a := 5) (by decide); have := lv_neT c22 (a := 6) (by decide); have := lv_neT c26 (a := 7) (by decide); have := lv_neT c28 (a := 8) (by decide); have := lv_neT c30 (a := 9) (by decide); have := lv_neT c33 (a := 10) (by decide); have := lv_neT c36 (a := 11) (by decide); have := lv_neT c38 (a := 12) (by decide); omega) (by decide) ?_
  refine x_iconst (pc := 146) o dX11_has_146 ic_m1 ?_
  exact x_ireturn (pc := 147) o hr dX11_has_147 (Option.some.inj h) rfl
def fX11_letter (k0 : Nat) (a1 : Int32) (a2 : Int32) (a3 : Int32) (S : xSt) : Option (Int32) :=
  if tC.1 k0 = 11 then
  ((xgM tC 11 2 k0 S).bind fun r1 =>
  (fX9_holds r1 a1 a2 S).bind fun v2 =>
  if v2 = 0 then
  (some ((-1 : Int32)))
else
  (if a3 < 0 then
  (some ((-1 : Int32)))
else
  (if a3 < ((6 : Int32)) then
  ((xgM tC 11 2 k0 S).bind fun r3 =>
  (fX9_nameOf r3 a1 a2 S).bind fun v4 =>
  (fX7_letterOf v4 a3 S).bind fun v5 =>
  some v5)
else
  (some ((-1 : Int32))))))
  else none
theorem kX11_letter {z : Int32} {k0 : Nat} {a1 : Int32} {a2 : Int32} {a3 : Int32} {S : xSt} (h : fX11_letter k0 a1 a2 a3 S = some z) : tC.1 k0 = 11 := by
  unfold fX11_letter at h
  exact (xck h).1
set_option maxHeartbeats 4000000 in
theorem tX11_letter (l : Launch) (M : xMg) (A : Nat → Prop) (k0 : Nat) (a1 : Int32) (a2 : Int32) (a3 : Int32) (S : xSt) (z : Int32) (h : fX11_letter k0 a1 a2 a3 S = some z) : xMI l yX11_letter cX11_letter 4 (some .int) 3 tC M A [.ref (M.2.1 k0), .int a1, .int a2, .int a3] S z S := by
  refine x_metI (plainFor_of_name (by decide)) tC_ok (Nat.le_of_ble_eq_true rfl) (fun Γ hA hnL hl hr o => ?_)
  subst hA; subst hl
  have o : xOk Γ tC M 3 cX11_letter RX11 := o
  unfold fX11_letter at h
  obtain ⟨hk0, h⟩ := xck h
  refine x_to (l := [(0, .ref (M.2.1 k0)), (1, .int a1), (2, .int a2), (3, .int a3)]) ⟨rfl, rfl, rfl, rfl, trivial⟩ ?_
  refine x_aload_n (pc := 0) o dX11_letter_0 rfl rfl ?_
  obtain ⟨r1, hr1, h⟩ := xbs h
  refine gX11_16 (pc := 1) o dX11_letter_1 hr1 ?_
  refine x_iload_n (pc := 4) o dX11_letter_4 rfl rfl ?_
  refine x_iload_n (pc := 5) o dX11_letter_5 rfl rfl ?_
  obtain ⟨v2, hv2, h⟩ := xbs h
  refine x_callI (pc := 6) (As := [.int a1, .int a2]) (b := r1) (rest := []) o (tX9_holds _ M _ r1 a1 a2 S v2 hv2) eX9_holds mX11_169 clX9 (kX9_holds hv2) (by decide) rfl rfl (Nat.le_of_ble_eq_true rfl) dX11_letter_6 ?_
  refine x_if_eq (pc := 9) (tgt := 22) o dX11_letter_9 (by decide) (fun c8 => ?_) (fun c8 => ?_)
  · have h := xit h c8
    refine x_iconst (pc := 22) o dX11_letter_22 ic_m1 ?_
    exact x_ireturn (pc := 23) o hr dX11_letter_23 (Option.some.inj h) rfl
  · have h := xif h c8
    refine x_iload_n (pc := 12) o dX11_letter_12 rfl rfl ?_
    refine x_if_lt (pc := 13) (tgt := 22) o dX11_letter_13 (by decide) (fun c7 => ?_) (fun c7 => ?_)
    · have h := xit h c7
      refine x_iconst (pc := 22) o dX11_letter_22 ic_m1 ?_
      exact x_ireturn (pc := 23) o hr dX11_letter_23 (Option.some.inj h) rfl
    · have h := xif h c7
      refine x_iload_n (pc := 16) o dX11_letter_16 rfl rfl ?_
      refine x_bipush (pc := 17) o dX11_letter_17 bp_6 ?_
      refine x_icmp_lt (pc := 19) (tgt := 24) o dX11_letter_19 (by decide) (fun c6 => ?_) (fun c6 => ?_)
      · have h := xit h c6
        refine x_aload_n (pc := 24) o dX11_letter_24 rfl rfl ?_
        obtain ⟨r3, hr3, h⟩ := xbs h
        refine gX11_16 (pc := 25) o dX11_letter_25 hr3 ?_
        refine x_iload_n (pc := 28) o dX11_letter_28 rfl rfl ?_
        refine x_iload_n (pc := 29) o dX11_letter_29 rfl rfl ?_
        obtain ⟨v4, hv4, h⟩ := xbs h
        refine x_callI (pc := 30) (As := [.int a1, .int a2]) (b := r3) (rest := []) o (tX9_nameOf _ M _ r3 a1 a2 S v4 hv4) eX9_nameOf mX11_173 clX9 (kX9_nameOf hv4) (by decide) rfl rfl (Nat.le_of_ble_eq_true rfl) dX11_letter_30 ?_
        refine x_iload_n (pc := 33) o dX11_letter_33 rfl rfl ?_
        obtain ⟨v5, hv5, h⟩ := xbs h
        refine x_statI (pc := 34) (As := [.int v4, .int a3]) (rest := []) o (tX7_letterOf _ M _ v4 a3 S v5 hv5) eX7_letterOf mX11_177 (by decide) rfl rfl (Nat.le_of_ble_eq_true rfl) dX11_letter_34 ?_
        exact x_ireturn (pc := 37) o hr dX11_letter_37 (Option.some.inj h) rfl
      · have h := xif h c6
        refine x_iconst (pc := 22) o dX11_letter_22 ic_m1 ?_
        exact x_ireturn (pc := 23) o hr dX11_letter_23 (Option.some.inj h) rfl
def fX11_kind (n : Nat) (k0 : Nat) (a1 : Int32) (a2 : Int32) (S : xSt) : Option (Int32) :=
  if tC.1 k0 = 11 then
  ((xgM tC 11 2 k0 S).bind fun r1 =>
  (fX9_holds r1 ((0 : Int32)) a1 S).bind fun v2 =>
  if v2 = 0 then
  (some ((-1 : Int32)))
else
  (if a2 = (0 : Int32) then
  ((xgM tC 11 2 k0 S).bind fun r3 =>
  (xgF tC 9 2 r3 S).bind fun r4 =>
  (xal tC r4 a1 S).bind fun v5 =>
  some v5)
else if a2 = (1 : Int32) then
  ((xgM tC 11 2 k0 S).bind fun r7 =>
  (xgF tC 9 3 r7 S).bind fun r8 =>
  (xal tC r8 a1 S).bind fun v9 =>
  some v9)
else if a2 = (2 : Int32) then
  ((xgM tC 11 2 k0 S).bind fun r11 =>
  (fX9_toolsOf n r11 a1 S).bind fun v12 =>
  some v12)
else if a2 = (3 : Int32) then
  ((xgM tC 11 2 k0 S).bind fun r14 =>
  (xgF tC 11 4 k0 S).bind fun r15 =>
  (xgI tC 8 0 r15 S).bind fun v16 =>
  (fX9_daysToRest r14 a1 v16 S).bind fun v17 =>
  if v17 = 0 then
  (some ((1 : Int32)))
else
  (some ((0 : Int32))))
else if a2 = (4 : Int32) then
  ((xgM tC 11 2 k0 S).bind fun r20 =>
  (xgF tC 11 4 k0 S).bind fun r21 =>
  (xgI tC 8 0 r21 S).bind fun v22 =>
  (fX9_daysToRest r20 a1 v22 S).bind fun v23 =>
  some v23)
else 
  (some ((-1 : Int32)))))
  else none
theorem kX11_kind {z : Int32} {n : Nat} {k0 : Nat} {a1 : Int32} {a2 : Int32} {S : xSt} (h : fX11_kind n k0 a1 a2 S = some z) : tC.1 k0 = 11 := by
  unfold fX11_kind at h
  exact (xck h).1
set_option maxHeartbeats 4000000 in
theorem tX11_kind (l : Launch) (M : xMg) (A : Nat → Prop) (n : Nat) (k0 : Nat) (a1 : Int32) (a2 : Int32) (S : xSt) (z : Int32) (h : fX11_kind n k0 a1 a2 S = some z) : xMI l yX11_kind cX11_kind 3 (some .int) 3 tC M A [.ref (M.2.1 k0), .int a1, .int a2] S z S := by
  refine x_metI (plainFor_of_name (by decide)) tC_ok (Nat.le_of_ble_eq_true rfl) (fun Γ hA hnL hl hr o => ?_)
  subst hA; subst hl
  have o : xOk Γ tC M 3 cX11_kind RX11 := o
  unfold fX11_kind at h
  obtain ⟨hk0, h⟩ := xck h
  refine x_to (l := [(0, .ref (M.2.1 k0)), (1, .int a1), (2, .int a2)]) ⟨rfl, rfl, rfl, trivial⟩ ?_
  refine x_aload_n (pc := 0) o dX11_kind_0 rfl rfl ?_
  obtain ⟨r1, hr1, h⟩ := xbs h
  refine gX11_16 (pc := 1) o dX11_kind_1 hr1 ?_
  refine x_iconst (pc := 4) o dX11_kind_4 ic_0 ?_
  refine x_iload_n (pc := 5) o dX11_kind_5 rfl rfl ?_
  obtain ⟨v2, hv2, h⟩ := xbs h
  refine x_callI (pc := 6) (As := [.int ((0 : Int32)), .int a1]) (b := r1) (rest := []) o (tX9_holds _ M _ r1 ((0 : Int32)) a1 S v2 hv2) eX9_holds mX11_169 clX9 (kX9_holds hv2) (by decide) rfl rfl (Nat.le_of_ble_eq_true rfl) dX11_kind_6 ?_
  refine x_if_ne (pc := 9) (tgt := 14) o dX11_kind_9 (by decide) (fun c25 => ?_) (fun c25 => ?_)
  · have h := xif h c25
    refine x_iload_n (pc := 14) o dX11_kind_14 rfl rfl ?_
    by_cases c6 : a2 = (0 : Int32)
    · have h := xit h c6
      refine x_tableIn (pc := 15) (tgt := 48) o dX11_kind_15 (by rw [c6]; decide) (by rw [c6]; decide) (by rw [c6]; rfl) (by decide) ?_
      refine x_aload_n (pc := 48) o dX11_kind_48 rfl rfl ?_
      obtain ⟨r3, hr3, h⟩ := xbs h
      refine gX11_16 (pc := 49) o dX11_kind_49 hr3 ?_
      obtain ⟨r4, hr4, h⟩ := xbs h
      refine gX11_180 (pc := 52) o dX11_kind_52 hr4 ?_
      refine x_iload_n (pc := 55) o dX11_kind_55 rfl rfl ?_
      obtain ⟨v5, hv5, h⟩ := xbs h
      refine x_iaload (pc := 56) o dX11_kind_56 hv5 ?_
      exact x_ireturn (pc := 57) o hr dX11_kind_57 (Option.some.inj h) rfl
    have h := xif h c6
    by_cases c10 : a2 = (1 : Int32)
    · have h := xit h c10
      refine x_tableIn (pc := 15) (tgt := 58) o dX11_kind_15 (by rw [c10]; decide) (by rw [c10]; decide) (by rw [c10]; rfl) (by decide) ?_
      refine x_aload_n (pc := 58) o dX11_kind_58 rfl rfl ?_
      obtain ⟨r7, hr7, h⟩ := xbs h
      refine gX11_16 (pc := 59) o dX11_kind_59 hr7 ?_
      obtain ⟨r8, hr8, h⟩ := xbs h
      refine gX11_183 (pc := 62) o dX11_kind_62 hr8 ?_
      refine x_iload_n (pc := 65) o dX11_kind_65 rfl rfl ?_
      obtain ⟨v9, hv9, h⟩ := xbs h
      refine x_iaload (pc := 66) o dX11_kind_66 hv9 ?_
      exact x_ireturn (pc := 67) o hr dX11_kind_67 (Option.some.inj h) rfl
    have h := xif h c10
    by_cases c13 : a2 = (2 : Int32)
    · have h := xit h c13
      refine x_tableIn (pc := 15) (tgt := 68) o dX11_kind_15 (by rw [c13]; decide) (by rw [c13]; decide) (by rw [c13]; rfl) (by decide) ?_
      refine x_aload_n (pc := 68) o dX11_kind_68 rfl rfl ?_
      obtain ⟨r11, hr11, h⟩ := xbs h
      refine gX11_16 (pc := 69) o dX11_kind_69 hr11 ?_
      refine x_iload_n (pc := 72) o dX11_kind_72 rfl rfl ?_
      obtain ⟨v12, hv12, h⟩ := xbs h
      refine x_callI (pc := 73) (As := [.int a1]) (b := r11) (rest := []) o (tX9_toolsOf _ M _ n r11 a1 S v12 hv12) eX9_toolsOf mX11_186 clX9 (kX9_toolsOf hv12) (by decide) rfl rfl (Nat.le_of_ble_eq_true rfl) dX11_kind_73 ?_
      exact x_ireturn (pc := 76) o hr dX11_kind_76 (Option.some.inj h) rfl
    have h := xif h c13
    by_cases c19 : a2 = (3 : Int32)
    · have h := xit h c19
      refine x_tableIn (pc := 15) (tgt := 77) o dX11_kind_15 (by rw [c19]; decide) (by rw [c19]; decide) (by rw [c19]; rfl) (by decide) ?_
      refine x_aload_n (pc := 77) o dX11_kind_77 rfl rfl ?_
      obtain ⟨r14, hr14, h⟩ := xbs h
      refine gX11_16 (pc := 78) o dX11_kind_78 hr14 ?_
      refine x_iload_n (pc := 81) o dX11_kind_81 rfl rfl ?_
      refine x_aload_n (pc := 82) o dX11_kind_82 rfl rfl ?_
      obtain ⟨r15, hr15, h⟩ := xbs h
      refine gX11_26 (pc := 83) o dX11_kind_83 hr15 ?_
      obtain ⟨v16, hv16, h⟩ := xbs h
      refine gX11_140 (pc := 86) o dX11_kind_86 hv16 ?_
      obtain ⟨v17, hv17, h⟩ := xbs h
      refine x_callI (pc := 89) (As := [.int a1, .int v16]) (b := r14) (rest := []) o (tX9_daysToRest _ M _ r14 a1 v16 S v17 hv17) eX9_daysToRest mX11_189 clX9 (kX9_daysToRest hv17) (by decide) rfl rfl (Nat.le_of_ble_eq_true rfl) dX11_kind_89 ?_
      refine x_if_ne (pc := 92) (tgt := 99) o dX11_kind_92 (by decide) (fun c18 => ?_) (fun c18 => ?_)
      · have h := xif h c18
        refine x_iconst (pc := 99) o dX11_kind_99 ic_0 ?_
        exact x_ireturn (pc := 100) o hr dX11_kind_100 (Option.some.inj h) rfl
      · have h := xit h c18
        refine x_iconst (pc := 95) o dX11_kind_95 ic_1 ?_
        refine x_goto (pc := 96) (tgt := 100) o dX11_kind_96 (by decide) ?_
        exact x_ireturn (pc := 100) o hr dX11_kind_100 (Option.some.inj h) rfl
    have h := xif h c19
    by_cases c24 : a2 = (4 : Int32)
    · have h := xit h c24
      refine x_tableIn (pc := 15) (tgt := 101) o dX11_kind_15 (by rw [c24]; decide) (by rw [c24]; decide) (by rw [c24]; rfl) (by decide) ?_
      refine x_aload_n (pc := 101) o dX11_kind_101 rfl rfl ?_
      obtain ⟨r20, hr20, h⟩ := xbs h
      refine gX11_16 (pc := 102) o dX11_kind_102 hr20 ?_
      refine x_iload_n (pc := 105) o dX11_kind_105 rfl rfl ?_
      refine x_aload_n (pc := 106) o dX11_kind_106 rfl rfl ?_
      obtain ⟨r21, hr21, h⟩ := xbs h
      refine gX11_26 (pc := 107) o dX11_kind_107 hr21 ?_
      obtain ⟨v22, hv22, h⟩ := xbs h
      refine gX11_140 (pc := 110) o dX11_kind_110 hv22 ?_
      obtain ⟨v23, hv23, h⟩ := xbs h
      refine x_callI (pc := 113) (As := [.int a1, .int v22]) (b := r20) (rest := []) o (tX9_daysToRest _ M _ r20 a1 v22 S v23 hv23) eX9_daysToRest mX11_189 clX9 (kX9_daysToRest hv23) (by decide) rfl rfl (Nat.le_of_ble_eq_true rfl) dX11_kind_113 ?_
      exact x_ireturn (pc := 116) o hr dX11_kind_116 (Option.some.inj h) rfl
    have h := xif h c24
    refine x_tableOut (pc := 15) (tgt := 117) o dX11_kind_15 (by have := lv_neT c6 (a := 0) (by decide); have := lv_neT c10 (a := 1) (by decide); have := lv_neT c13 (a := 2) (by decide); have := lv_neT c19 (a := 3) (by decide); have := lv_neT c24 (a := 4) (by decide); omega) (by decide) ?_
    refine x_iconst (pc := 117) o dX11_kind_117 ic_m1 ?_
    exact x_ireturn (pc := 118) o hr dX11_kind_118 (Option.some.inj h) rfl
  · have h := xit h c25
    refine x_iconst (pc := 12) o dX11_kind_12 ic_m1 ?_
    exact x_ireturn (pc := 13) o hr dX11_kind_13 (Option.some.inj h) rfl
def fX11_tool (k0 : Nat) (a1 : Int32) (a2 : Int32) (S : xSt) : Option (Int32) :=
  if tC.1 k0 = 11 then
  ((xgM tC 11 2 k0 S).bind fun r1 =>
  (fX9_holds r1 ((1 : Int32)) a1 S).bind fun v2 =>
  if v2 = 0 then
  (some ((-1 : Int32)))
else
  (if a2 = (0 : Int32) then
  ((xgM tC 11 2 k0 S).bind fun r3 =>
  (xgF tC 9 4 r3 S).bind fun r4 =>
  (xal tC r4 a1 S).bind fun v5 =>
  some v5)
else if a2 = (1 : Int32) then
  ((xgF tC 11 4 k0 S).bind fun r7 =>
  (xgF tC 8 5 r7 S).bind fun r8 =>
  (xal tC r8 a1 S).bind fun v9 =>
  some v9)
else if a2 = (2 : Int32) then
  ((xgF tC 11 4 k0 S).bind fun r11 =>
  (xgI tC 8 2 r11 S).bind fun v12 =>
  some ((v12 >>> (a1 &&& 31)) &&& ((1 : Int32))))
else if a2 = (3 : Int32) then
  ((xgF tC 11 4 k0 S).bind fun r14 =>
  (xgI tC 8 3 r14 S).bind fun v15 =>
  some ((v15 >>> (a1 &&& 31)) &&& ((1 : Int32))))
else 
  (some ((-1 : Int32)))))
  else none
theorem kX11_tool {z : Int32} {k0 : Nat} {a1 : Int32} {a2 : Int32} {S : xSt} (h : fX11_tool k0 a1 a2 S = some z) : tC.1 k0 = 11 := by
  unfold fX11_tool at h
  exact (xck h).1
set_option maxHeartbeats 4000000 in
theorem tX11_tool (l : Launch) (M : xMg) (A : Nat → Prop) (k0 : Nat) (a1 : Int32) (a2 : Int32) (S : xSt) (z : Int32) (h : fX11_tool k0 a1 a2 S = some z) : xMI l yX11_tool cX11_tool 3 (some .int) 2 tC M A [.ref (M.2.1 k0), .int a1, .int a2] S z S := by
  refine x_metI (plainFor_of_name (by decide)) tC_ok (Nat.le_of_ble_eq_true rfl) (fun Γ hA hnL hl hr o => ?_)
  subst hA; subst hl
  have o : xOk Γ tC M 2 cX11_tool RX11 := o
  unfold fX11_tool at h
  obtain ⟨hk0, h⟩ := xck h
  refine x_to (l := [(0, .ref (M.2.1 k0)), (1, .int a1), (2, .int a2)]) ⟨rfl, rfl, rfl, trivial⟩ ?_
  refine x_aload_n (pc := 0) o dX11_tool_0 rfl rfl ?_
  obtain ⟨r1, hr1, h⟩ := xbs h
  refine gX11_16 (pc := 1) o dX11_tool_1 hr1 ?_
  refine x_iconst (pc := 4) o dX11_tool_4 ic_1 ?_
  refine x_iload_n (pc := 5) o dX11_tool_5 rfl rfl ?_
  obtain ⟨v2, hv2, h⟩ := xbs h
  refine x_callI (pc := 6) (As := [.int ((1 : Int32)), .int a1]) (b := r1) (rest := []) o (tX9_holds _ M _ r1 ((1 : Int32)) a1 S v2 hv2) eX9_holds mX11_169 clX9 (kX9_holds hv2) (by decide) rfl rfl (Nat.le_of_ble_eq_true rfl) dX11_tool_6 ?_
  refine x_if_ne (pc := 9) (tgt := 14) o dX11_tool_9 (by decide) (fun c17 => ?_) (fun c17 => ?_)
  · have h := xif h c17
    refine x_iload_n (pc := 14) o dX11_tool_14 rfl rfl ?_
    by_cases c6 : a2 = (0 : Int32)
    · have h := xit h c6
      refine x_tableIn (pc := 15) (tgt := 44) o dX11_tool_15 (by rw [c6]; decide) (by rw [c6]; decide) (by rw [c6]; rfl) (by decide) ?_
      refine x_aload_n (pc := 44) o dX11_tool_44 rfl rfl ?_
      obtain ⟨r3, hr3, h⟩ := xbs h
      refine gX11_16 (pc := 45) o dX11_tool_45 hr3 ?_
      obtain ⟨r4, hr4, h⟩ := xbs h
      refine gX11_192 (pc := 48) o dX11_tool_48 hr4 ?_
      refine x_iload_n (pc := 51) o dX11_tool_51 rfl rfl ?_
      obtain ⟨v5, hv5, h⟩ := xbs h
      refine x_iaload (pc := 52) o dX11_tool_52 hv5 ?_
      exact x_ireturn (pc := 53) o hr dX11_tool_53 (Option.some.inj h) rfl
    have h := xif h c6
    by_cases c10 : a2 = (1 : Int32)
    · have h := xit h c10
      refine x_tableIn (pc := 15) (tgt := 54) o dX11_tool_15 (by rw [c10]; decide) (by rw [c10]; decide) (by rw [c10]; rfl) (by decide) ?_
      refine x_aload_n (pc := 54) o dX11_tool_54 rfl rfl ?_
      obtain ⟨r7, hr7, h⟩ := xbs h
      refine gX11_26 (pc := 55) o dX11_tool_55 hr7 ?_
      obtain ⟨r8, hr8, h⟩ := xbs h
      refine gX11_195 (pc := 58) o dX11_tool_58 hr8 ?_
      refine x_iload_n (pc := 61) o dX11_tool_61 rfl rfl ?_
      obtain ⟨v9, hv9, h⟩ := xbs h
      refine x_iaload (pc := 62) o dX11_tool_62 hv9 ?_
      exact x_ireturn (pc := 63) o hr dX11_tool_63 (Option.some.inj h) rfl
    have h := xif h c10
    by_cases c13 : a2 = (2 : Int32)
    · have h := xit h c13
      refine x_tableIn (pc := 15) (tgt := 64) o dX11_tool_15 (by rw [c13]; decide) (by rw [c13]; decide) (by rw [c13]; rfl) (by decide) ?_
      refine x_aload_n (pc := 64) o dX11_tool_64 rfl rfl ?_
      obtain ⟨r11, hr11, h⟩ := xbs h
      refine gX11_26 (pc := 65) o dX11_tool_65 hr11 ?_
      obtain ⟨v12, hv12, h⟩ := xbs h
      refine gX11_146 (pc := 68) o dX11_tool_68 hv12 ?_
      refine x_iload_n (pc := 71) o dX11_tool_71 rfl rfl ?_
      refine x_ishr (pc := 72) o dX11_tool_72 ?_
      refine x_iconst (pc := 73) o dX11_tool_73 ic_1 ?_
      refine x_iand (pc := 74) o dX11_tool_74 ?_
      exact x_ireturn (pc := 75) o hr dX11_tool_75 (Option.some.inj h) rfl
    have h := xif h c13
    by_cases c16 : a2 = (3 : Int32)
    · have h := xit h c16
      refine x_tableIn (pc := 15) (tgt := 76) o dX11_tool_15 (by rw [c16]; decide) (by rw [c16]; decide) (by rw [c16]; rfl) (by decide) ?_
      refine x_aload_n (pc := 76) o dX11_tool_76 rfl rfl ?_
      obtain ⟨r14, hr14, h⟩ := xbs h
      refine gX11_26 (pc := 77) o dX11_tool_77 hr14 ?_
      obtain ⟨v15, hv15, h⟩ := xbs h
      refine gX11_154 (pc := 80) o dX11_tool_80 hv15 ?_
      refine x_iload_n (pc := 83) o dX11_tool_83 rfl rfl ?_
      refine x_ishr (pc := 84) o dX11_tool_84 ?_
      refine x_iconst (pc := 85) o dX11_tool_85 ic_1 ?_
      refine x_iand (pc := 86) o dX11_tool_86 ?_
      exact x_ireturn (pc := 87) o hr dX11_tool_87 (Option.some.inj h) rfl
    have h := xif h c16
    refine x_tableOut (pc := 15) (tgt := 88) o dX11_tool_15 (by have := lv_neT c6 (a := 0) (by decide); have := lv_neT c10 (a := 1) (by decide); have := lv_neT c13 (a := 2) (by decide); have := lv_neT c16 (a := 3) (by decide); omega) (by decide) ?_
    refine x_iconst (pc := 88) o dX11_tool_88 ic_m1 ?_
    exact x_ireturn (pc := 89) o hr dX11_tool_89 (Option.some.inj h) rfl
  · have h := xit h c17
    refine x_iconst (pc := 12) o dX11_tool_12 ic_m1 ?_
    exact x_ireturn (pc := 13) o hr dX11_tool_13 (Option.some.inj h) rfl
def fX11_knows (k0 : Nat) (a1 : Int32) (a2 : Int32) (S : xSt) : Option (Int32) :=
  if tC.1 k0 = 11 then
  ((xgM tC 11 2 k0 S).bind fun r1 =>
  (fX9_holds r1 ((2 : Int32)) a1 S).bind fun v2 =>
  if v2 = 0 then
  (some ((-1 : Int32)))
else
  ((xgM tC 11 2 k0 S).bind fun r3 =>
  (fX9_holds r3 ((1 : Int32)) a2 S).bind fun v4 =>
  if v4 = 0 then
  (some ((-1 : Int32)))
else
  ((xgF tC 11 4 k0 S).bind fun r5 =>
  (fX8_knownBy r5 a1 a2 S).bind fun v6 =>
  some v6)))
  else none
theorem kX11_knows {z : Int32} {k0 : Nat} {a1 : Int32} {a2 : Int32} {S : xSt} (h : fX11_knows k0 a1 a2 S = some z) : tC.1 k0 = 11 := by
  unfold fX11_knows at h
  exact (xck h).1
set_option maxHeartbeats 4000000 in
theorem tX11_knows (l : Launch) (M : xMg) (A : Nat → Prop) (k0 : Nat) (a1 : Int32) (a2 : Int32) (S : xSt) (z : Int32) (h : fX11_knows k0 a1 a2 S = some z) : xMI l yX11_knows cX11_knows 3 (some .int) 2 tC M A [.ref (M.2.1 k0), .int a1, .int a2] S z S := by
  refine x_metI (plainFor_of_name (by decide)) tC_ok (Nat.le_of_ble_eq_true rfl) (fun Γ hA hnL hl hr o => ?_)
  subst hA; subst hl
  have o : xOk Γ tC M 2 cX11_knows RX11 := o
  unfold fX11_knows at h
  obtain ⟨hk0, h⟩ := xck h
  refine x_to (l := [(0, .ref (M.2.1 k0)), (1, .int a1), (2, .int a2)]) ⟨rfl, rfl, rfl, trivial⟩ ?_
  refine x_aload_n (pc := 0) o dX11_knows_0 rfl rfl ?_
  obtain ⟨r1, hr1, h⟩ := xbs h
  refine gX11_16 (pc := 1) o dX11_knows_1 hr1 ?_
  refine x_iconst (pc := 4) o dX11_knows_4 ic_2 ?_
  refine x_iload_n (pc := 5) o dX11_knows_5 rfl rfl ?_
  obtain ⟨v2, hv2, h⟩ := xbs h
  refine x_callI (pc := 6) (As := [.int ((2 : Int32)), .int a1]) (b := r1) (rest := []) o (tX9_holds _ M _ r1 ((2 : Int32)) a1 S v2 hv2) eX9_holds mX11_169 clX9 (kX9_holds hv2) (by decide) rfl rfl (Nat.le_of_ble_eq_true rfl) dX11_knows_6 ?_
  refine x_if_eq (pc := 9) (tgt := 24) o dX11_knows_9 (by decide) (fun c8 => ?_) (fun c8 => ?_)
  · have h := xit h c8
    refine x_iconst (pc := 24) o dX11_knows_24 ic_m1 ?_
    exact x_ireturn (pc := 25) o hr dX11_knows_25 (Option.some.inj h) rfl
  · have h := xif h c8
    refine x_aload_n (pc := 12) o dX11_knows_12 rfl rfl ?_
    obtain ⟨r3, hr3, h⟩ := xbs h
    refine gX11_16 (pc := 13) o dX11_knows_13 hr3 ?_
    refine x_iconst (pc := 16) o dX11_knows_16 ic_1 ?_
    refine x_iload_n (pc := 17) o dX11_knows_17 rfl rfl ?_
    obtain ⟨v4, hv4, h⟩ := xbs h
    refine x_callI (pc := 18) (As := [.int ((1 : Int32)), .int a2]) (b := r3) (rest := []) o (tX9_holds _ M _ r3 ((1 : Int32)) a2 S v4 hv4) eX9_holds mX11_169 clX9 (kX9_holds hv4) (by decide) rfl rfl (Nat.le_of_ble_eq_true rfl) dX11_knows_18 ?_
    refine x_if_ne (pc := 21) (tgt := 26) o dX11_knows_21 (by decide) (fun c7 => ?_) (fun c7 => ?_)
    · have h := xif h c7
      refine x_aload_n (pc := 26) o dX11_knows_26 rfl rfl ?_
      obtain ⟨r5, hr5, h⟩ := xbs h
      refine gX11_26 (pc := 27) o dX11_knows_27 hr5 ?_
      refine x_iload_n (pc := 30) o dX11_knows_30 rfl rfl ?_
      refine x_iload_n (pc := 31) o dX11_knows_31 rfl rfl ?_
      obtain ⟨v6, hv6, h⟩ := xbs h
      refine x_callI (pc := 32) (As := [.int a1, .int a2]) (b := r5) (rest := []) o (tX8_knownBy _ M _ r5 a1 a2 S v6 hv6) eX8_knownBy mX11_198 clX8 (kX8_knownBy hv6) (by decide) rfl rfl (Nat.le_of_ble_eq_true rfl) dX11_knows_32 ?_
      exact x_ireturn (pc := 35) o hr dX11_knows_35 (Option.some.inj h) rfl
    · have h := xit h c7
      refine x_iconst (pc := 24) o dX11_knows_24 ic_m1 ?_
      exact x_ireturn (pc := 25) o hr dX11_knows_25 (Option.some.inj h) rfl
def fX11_job (k0 : Nat) (a1 : Int32) (a2 : Int32) (S : xSt) : Option (Int32) :=
  if tC.1 k0 = 11 then
  ((xgM tC 11 2 k0 S).bind fun r1 =>
  (fX9_holds r1 ((3 : Int32)) a1 S).bind fun v2 =>
  if v2 = 0 then
  (some ((-1 : Int32)))
else
  (if a2 = (0 : Int32) then
  ((xgF tC 11 4 k0 S).bind fun r8 =>
  (xgF tC 8 8 r8 S).bind fun r9 =>
  (xal tC r9 a1 S).bind fun v10 =>
  some v10)
else if a2 = (1 : Int32) then
  ((xgM tC 11 2 k0 S).bind fun r12 =>
  (xgF tC 9 8 r12 S).bind fun r13 =>
  (xal tC r13 a1 S).bind fun v14 =>
  some v14)
else if a2 = (2 : Int32) then
  ((xgF tC 11 4 k0 S).bind fun r16 =>
  (xgF tC 8 7 r16 S).bind fun r17 =>
  (xal tC r17 a1 S).bind fun v18 =>
  some v18)
else if a2 = (3 : Int32) then
  ((xgF tC 11 4 k0 S).bind fun r20 =>
  (xgM tC 11 2 k0 S).bind fun r21 =>
  (fX8_daysLate r20 a1 r21 S).bind fun v22 =>
  some v22)
else 
  (if ((20 : Int32)) ≤ a2 then
  ((xgM tC 11 2 k0 S).bind fun r3 =>
  (fX9_hoursOfStep r3 a1 (a2 - ((20 : Int32))) S).bind fun v4 =>
  some v4)
else
  ((xgM tC 11 2 k0 S).bind fun r5 =>
  (fX9_kindOfStep r5 a1 (a2 - ((10 : Int32))) S).bind fun v6 =>
  some v6))))
  else none
theorem kX11_job {z : Int32} {k0 : Nat} {a1 : Int32} {a2 : Int32} {S : xSt} (h : fX11_job k0 a1 a2 S = some z) : tC.1 k0 = 11 := by
  unfold fX11_job at h
  exact (xck h).1
set_option maxHeartbeats 4000000 in
theorem tX11_job (l : Launch) (M : xMg) (A : Nat → Prop) (k0 : Nat) (a1 : Int32) (a2 : Int32) (S : xSt) (z : Int32) (h : fX11_job k0 a1 a2 S = some z) : xMI l yX11_job cX11_job 3 (some .int) 3 tC M A [.ref (M.2.1 k0), .int a1, .int a2] S z S := by
  refine x_metI (plainFor_of_name (by decide)) tC_ok (Nat.le_of_ble_eq_true rfl) (fun Γ hA hnL hl hr o => ?_)
  subst hA; subst hl
  have o : xOk Γ tC M 3 cX11_job RX11 := o
  unfold fX11_job at h
  obtain ⟨hk0, h⟩ := xck h
  refine x_to (l := [(0, .ref (M.2.1 k0)), (1, .int a1), (2, .int a2)]) ⟨rfl, rfl, rfl, trivial⟩ ?_
  refine x_aload_n (pc := 0) o dX11_job_0 rfl rfl ?_
  obtain ⟨r1, hr1, h⟩ := xbs h
  refine gX11_16 (pc := 1) o dX11_job_1 hr1 ?_
  refine x_iconst (pc := 4) o dX11_job_4 ic_3 ?_
  refine x_iload_n (pc := 5) o dX11_job_5 rfl rfl ?_
  obtain ⟨v2, hv2, h⟩ := xbs h
  refine x_callI (pc := 6) (As := [.int ((3 : Int32)), .int a1]) (b := r1) (rest := []) o (tX9_holds _ M _ r1 ((3 : Int32)) a1 S v2 hv2) eX9_holds mX11_169 clX9 (kX9_holds hv2) (by decide) rfl rfl (Nat.le_of_ble_eq_true rfl) dX11_job_6 ?_
  refine x_if_ne (pc := 9) (tgt := 14) o dX11_job_9 (by decide) (fun c24 => ?_) (fun c24 => ?_)
  · have h := xif h c24
    refine x_iload_n (pc := 14) o dX11_job_14 rfl rfl ?_
    by_cases c11 : a2 = (0 : Int32)
    · have h := xit h c11
      refine x_tableIn (pc := 15) (tgt := 44) o dX11_job_15 (by rw [c11]; decide) (by rw [c11]; decide) (by rw [c11]; rfl) (by decide) ?_
      refine x_aload_n (pc := 44) o dX11_job_44 rfl rfl ?_
      obtain ⟨r8, hr8, h⟩ := xbs h
      refine gX11_26 (pc := 45) o dX11_job_45 hr8 ?_
      obtain ⟨r9, hr9, h⟩ := xbs h
      refine gX11_201 (pc := 48) o dX11_job_48 hr9 ?_
      refine x_iload_n (pc := 51) o dX11_job_51 rfl rfl ?_
      obtain ⟨v10, hv10, h⟩ := xbs h
      refine x_iaload (pc := 52) o dX11_job_52 hv10 ?_
      exact x_ireturn (pc := 53) o hr dX11_job_53 (Option.some.inj h) rfl
    have h := xif h c11
    by_cases c15 : a2 = (1 : Int32)
    · have h := xit h c15
      refine x_tableIn (pc := 15) (tgt := 54) o dX11_job_15 (by rw [c15]; decide) (by rw [c15]; decide) (by rw [c15]; rfl) (by decide) ?_
      refine x_aload_n (pc := 54) o dX11_job_54 rfl rfl ?_
      obtain ⟨r12, hr12, h⟩ := xbs h
      refine gX11_16 (pc := 55) o dX11_job_55 hr12 ?_
      obtain ⟨r13, hr13, h⟩ := xbs h
      refine gX11_204 (pc := 58) o dX11_job_58 hr13 ?_
      refine x_iload_n (pc := 61) o dX11_job_61 rfl rfl ?_
      obtain ⟨v14, hv14, h⟩ := xbs h
      refine x_iaload (pc := 62) o dX11_job_62 hv14 ?_
      exact x_ireturn (pc := 63) o hr dX11_job_63 (Option.some.inj h) rfl
    have h := xif h c15
    by_cases c19 : a2 = (2 : Int32)
    · have h := xit h c19
      refine x_tableIn (pc := 15) (tgt := 64) o dX11_job_15 (by rw [c19]; decide) (by rw [c19]; decide) (by rw [c19]; rfl) (by decide) ?_
      refine x_aload_n (pc := 64) o dX11_job_64 rfl rfl ?_
      obtain ⟨r16, hr16, h⟩ := xbs h
      refine gX11_26 (pc := 65) o dX11_job_65 hr16 ?_
      obtain ⟨r17, hr17, h⟩ := xbs h
      refine gX11_207 (pc := 68) o dX11_job_68 hr17 ?_
      refine x_iload_n (pc := 71) o dX11_job_71 rfl rfl ?_
      obtain ⟨v18, hv18, h⟩ := xbs h
      refine x_iaload (pc := 72) o dX11_job_72 hv18 ?_
      exact x_ireturn (pc := 73) o hr dX11_job_73 (Option.some.inj h) rfl
    have h := xif h c19
    by_cases c23 : a2 = (3 : Int32)
    · have h := xit h c23
      refine x_tableIn (pc := 15) (tgt := 74) o dX11_job_15 (by rw [c23]; decide) (by rw [c23]; decide) (by rw [c23]; rfl) (by decide) ?_
      refine x_aload_n (pc := 74) o dX11_job_74 rfl rfl ?_
      obtain ⟨r20, hr20, h⟩ := xbs h
      refine gX11_26 (pc := 75) o dX11_job_75 hr20 ?_
      refine x_iload_n (pc := 78) o dX11_job_78 rfl rfl ?_
      refine x_aload_n (pc := 79) o dX11_job_79 rfl rfl ?_
      obtain ⟨r21, hr21, h⟩ := xbs h
      refine gX11_16 (pc := 80) o dX11_job_80 hr21 ?_
      obtain ⟨v22, hv22, h⟩ := xbs h
      refine x_callI (pc := 83) (As := [.int a1, .ref (M.2.1 r21)]) (b := r20) (rest := []) o (tX8_daysLate _ M _ r20 a1 r21 S v22 hv22) eX8_daysLate mX11_210 clX8 (kX8_daysLate hv22) (by decide) rfl rfl (Nat.le_of_ble_eq_true rfl) dX11_job_83 ?_
      exact x_ireturn (pc := 86) o hr dX11_job_86 (Option.some.inj h) rfl
    have h := xif h c23
    refine x_tableOut (pc := 15) (tgt := 87) o dX11_job_15 (by have := lv_neT c11 (a := 0) (by decide); have := lv_neT c15 (a := 1) (by decide); have := lv_neT c19 (a := 2) (by decide); have := lv_neT c23 (a := 3) (by decide); omega) (by decide) ?_
    refine x_iload_n (pc := 87) o dX11_job_87 rfl rfl ?_
    refine x_bipush (pc := 88) o dX11_job_88 bp_20 ?_
    refine x_icmp_ge (pc := 90) (tgt := 108) o dX11_job_90 (by decide) (fun c7 => ?_) (fun c7 => ?_)
    · have h := xit h c7
      refine x_aload_n (pc := 108) o dX11_job_108 rfl rfl ?_
      obtain ⟨r3, hr3, h⟩ := xbs h
      refine gX11_16 (pc := 109) o dX11_job_109 hr3 ?_
      refine x_iload_n (pc := 112) o dX11_job_112 rfl rfl ?_
      refine x_iload_n (pc := 113) o dX11_job_113 rfl rfl ?_
      refine x_bipush (pc := 114) o dX11_job_114 bp_20 ?_
      refine x_isub (pc := 116) o dX11_job_116 ?_
      obtain ⟨v4, hv4, h⟩ := xbs h
      refine x_callI (pc := 117) (As := [.int a1, .int (a2 - ((20 : Int32)))]) (b := r3) (rest := []) o (tX9_hoursOfStep _ M _ r3 a1 (a2 - ((20 : Int32))) S v4 hv4) eX9_hoursOfStep mX11_217 clX9 (kX9_hoursOfStep hv4) (by decide) rfl rfl (Nat.le_of_ble_eq_true rfl) dX11_job_117 ?_
      exact x_ireturn (pc := 120) o hr dX11_job_120 (Option.some.inj h) rfl
    · have h := xif h c7
      refine x_aload_n (pc := 93) o dX11_job_93 rfl rfl ?_
      obtain ⟨r5, hr5, h⟩ := xbs h
      refine gX11_16 (pc := 94) o dX11_job_94 hr5 ?_
      refine x_iload_n (pc := 97) o dX11_job_97 rfl rfl ?_
      refine x_iload_n (pc := 98) o dX11_job_98 rfl rfl ?_
      refine x_bipush (pc := 99) o dX11_job_99 bp_10 ?_
      refine x_isub (pc := 101) o dX11_job_101 ?_
      obtain ⟨v6, hv6, h⟩ := xbs h
      refine x_callI (pc := 102) (As := [.int a1, .int (a2 - ((10 : Int32)))]) (b := r5) (rest := []) o (tX9_kindOfStep _ M _ r5 a1 (a2 - ((10 : Int32))) S v6 hv6) eX9_kindOfStep mX11_214 clX9 (kX9_kindOfStep hv6) (by decide) rfl rfl (Nat.le_of_ble_eq_true rfl) dX11_job_102 ?_
      refine x_goto (pc := 105) (tgt := 120) o dX11_job_105 (by decide) ?_
      exact x_ireturn (pc := 120) o hr dX11_job_120 (Option.some.inj h) rfl
  · have h := xit h c24
    refine x_iconst (pc := 12) o dX11_job_12 ic_m1 ?_
    exact x_ireturn (pc := 13) o hr dX11_job_13 (Option.some.inj h) rfl
def fX11_canPass (k0 : Nat) (a1 : Int32) (a2 : Int32) (S : xSt) : Option (Int32) :=
  if tC.1 k0 = 11 then
  (if a1 < ((1 : Int32)) then
  (some ((0 : Int32)))
else
  (if a2 < a1 then
  (some ((0 : Int32)))
else
  ((xgF tC 11 4 k0 S).bind fun r1 =>
  (xgI tC 8 0 r1 S).bind fun v2 =>
  if ((999 : Int32)) < (v2 + a1) then
  (some ((0 : Int32)))
else
  (some ((1 : Int32))))))
  else none
theorem kX11_canPass {z : Int32} {k0 : Nat} {a1 : Int32} {a2 : Int32} {S : xSt} (h : fX11_canPass k0 a1 a2 S = some z) : tC.1 k0 = 11 := by
  unfold fX11_canPass at h
  exact (xck h).1
set_option maxHeartbeats 4000000 in
theorem tX11_canPass (l : Launch) (M : xMg) (A : Nat → Prop) (k0 : Nat) (a1 : Int32) (a2 : Int32) (S : xSt) (z : Int32) (h : fX11_canPass k0 a1 a2 S = some z) : xMI l yX11_canPass cX11_canPass 3 (some .boolean) 1 tC M A [.ref (M.2.1 k0), .int a1, .int a2] S z S := by
  refine x_metI (plainFor_of_name (by decide)) tC_ok (Nat.le_of_ble_eq_true rfl) (fun Γ hA hnL hl hr o => ?_)
  subst hA; subst hl
  have o : xOk Γ tC M 1 cX11_canPass RX11 := o
  unfold fX11_canPass at h
  obtain ⟨hk0, h⟩ := xck h
  refine x_to (l := [(0, .ref (M.2.1 k0)), (1, .int a1), (2, .int a2)]) ⟨rfl, rfl, rfl, trivial⟩ ?_
  refine x_iload_n (pc := 0) o dX11_canPass_0 rfl rfl ?_
  refine x_iconst (pc := 1) o dX11_canPass_1 ic_1 ?_
  refine x_icmp_lt (pc := 2) (tgt := 29) o dX11_canPass_2 (by decide) (fun c5 => ?_) (fun c5 => ?_)
  · have h := xit h c5
    refine x_iconst (pc := 29) o dX11_canPass_29 ic_0 ?_
    exact x_zreturn (pc := 30) o hr dX11_canPass_30 (by decide) (Option.some.inj h) rfl
  · have h := xif h c5
    refine x_iload_n (pc := 5) o dX11_canPass_5 rfl rfl ?_
    refine x_iload_n (pc := 6) o dX11_canPass_6 rfl rfl ?_
    refine x_icmp_gt (pc := 7) (tgt := 29) o dX11_canPass_7 (by decide) (fun c4 => ?_) (fun c4 => ?_)
    · have h := xit h c4
      refine x_iconst (pc := 29) o dX11_canPass_29 ic_0 ?_
      exact x_zreturn (pc := 30) o hr dX11_canPass_30 (by decide) (Option.some.inj h) rfl
    · have h := xif h c4
      refine x_aload_n (pc := 10) o dX11_canPass_10 rfl rfl ?_
      obtain ⟨r1, hr1, h⟩ := xbs h
      refine gX11_26 (pc := 11) o dX11_canPass_11 hr1 ?_
      obtain ⟨v2, hv2, h⟩ := xbs h
      refine gX11_140 (pc := 14) o dX11_canPass_14 hv2 ?_
      refine x_iload_n (pc := 17) o dX11_canPass_17 rfl rfl ?_
      refine x_iadd (pc := 18) o dX11_canPass_18 ?_
      refine x_sipush (pc := 19) o dX11_canPass_19 sp_999 ?_
      refine x_icmp_gt (pc := 22) (tgt := 29) o dX11_canPass_22 (by decide) (fun c3 => ?_) (fun c3 => ?_)
      · have h := xit h c3
        refine x_iconst (pc := 29) o dX11_canPass_29 ic_0 ?_
        exact x_zreturn (pc := 30) o hr dX11_canPass_30 (by decide) (Option.some.inj h) rfl
      · have h := xif h c3
        refine x_iconst (pc := 25) o dX11_canPass_25 ic_1 ?_
        refine x_goto (pc := 26) (tgt := 30) o dX11_canPass_26 (by decide) ?_
        exact x_zreturn (pc := 30) o hr dX11_canPass_30 (by decide) (Option.some.inj h) rfl
def fX11_later_B22 (n : Nat) (k0 : Nat) (a1 : Int32) (a2 : Int32) (s0 : Int32) (S : xSt) : Option (Int32 × xSt) :=
  if s0 = 0 then
  (some ((-1 : Int32), S))
else
  (if a1 = 0 then
  ((xgF tC 11 7 k0 S).bind fun r1 =>
  (fX0_behind n r1 a1 a2 S).bind fun q2 =>
  some (q2.1, q2.2))
else
  ((fX11_canPass k0 a1 ((100 : Int32)) S).bind fun v3 =>
  if v3 = 0 then
  (some ((-1 : Int32), S))
else
  ((xgF tC 11 7 k0 S).bind fun r4 =>
  (fX0_behind n r4 a1 a2 S).bind fun q5 =>
  some (q5.1, q5.2))))
set_option maxHeartbeats 4000000 in
theorem tX11_later_B22 {Γ : xGm} {M : xMg} (o : xOk Γ tC M 8 cX11_later RX11) (hnL : Γ.2.2.2 = 4) (n : Nat) (k0 : Nat) (a1 : Int32) (a2 : Int32) (s0 : Int32) (S : xSt) (z : (Int32 × xSt)) (hr : xRI Γ tC M (some .int) z.1 z.2) (h : fX11_later_B22 n k0 a1 a2 s0 S = some z) : xAt Γ tC M 22 (xlv [(0, .ref (M.2.1 k0)), (1, .int a1), (2, .int a2)]) [.int s0] S := by
  have hn3 : 3 < Γ.2.2.2 := by omega
  unfold fX11_later_B22 at h
  refine x_istore_n (pc := 22) o dX11_later_22 rfl hn3 ?_
  refine x_iload_n (pc := 23) o dX11_later_23 rfl rfl ?_
  refine x_if_eq (pc := 24) (tgt := 41) o dX11_later_24 (by decide) (fun c8 => ?_) (fun c8 => ?_)
  · have h := xit h c8
    refine x_iconst (pc := 41) o dX11_later_41 ic_m1 ?_
    exact x_ireturn (pc := 42) o hr dX11_later_42 (xr1 h) (xr2 h)
  · have h := xif h c8
    refine x_iload_n (pc := 27) o dX11_later_27 rfl rfl ?_
    refine x_if_eq (pc := 28) (tgt := 43) o dX11_later_28 (by decide) (fun c7 => ?_) (fun c7 => ?_)
    · have h := xit h c7
      refine x_aload_n (pc := 43) o dX11_later_43 rfl rfl ?_
      obtain ⟨r1, hr1, h⟩ := xbs h
      refine gX11_49 (pc := 44) o dX11_later_44 hr1 ?_
      refine x_iload_n (pc := 47) o dX11_later_47 rfl rfl ?_
      refine x_iload_n (pc := 48) o dX11_later_48 rfl rfl ?_
      obtain ⟨q2, hq2, h⟩ := xbs h
      refine x_callI (pc := 49) (As := [.int a1, .int a2]) (b := r1) (rest := []) o (tX0_behind _ M _ n r1 a1 a2 S q2 hq2) eX0_behind mX11_223 clX0 (kX0_behind hq2) (by decide) rfl rfl (Nat.le_of_ble_eq_true rfl) dX11_later_49 ?_
      exact x_ireturn (pc := 52) o hr dX11_later_52 (xr1 h) (xr2 h)
    · have h := xif h c7
      refine x_aload_n (pc := 31) o dX11_later_31 rfl rfl ?_
      refine x_iload_n (pc := 32) o dX11_later_32 rfl rfl ?_
      refine x_bipush (pc := 33) o dX11_later_33 bp_100 ?_
      obtain ⟨v3, hv3, h⟩ := xbs h
      refine x_callI (pc := 35) (As := [.int a1, .int ((100 : Int32))]) (b := k0) (rest := []) o (tX11_canPass _ M _ k0 a1 ((100 : Int32)) S v3 hv3) eX11_canPass mX11_220 clX11 (kX11_canPass hv3) (by decide) rfl rfl (Nat.le_of_ble_eq_true rfl) dX11_later_35 ?_
      refine x_if_ne (pc := 38) (tgt := 43) o dX11_later_38 (by decide) (fun c6 => ?_) (fun c6 => ?_)
      · have h := xif h c6
        refine x_aload_n (pc := 43) o dX11_later_43 rfl rfl ?_
        obtain ⟨r4, hr4, h⟩ := xbs h
        refine gX11_49 (pc := 44) o dX11_later_44 hr4 ?_
        refine x_iload_n (pc := 47) o dX11_later_47 rfl rfl ?_
        refine x_iload_n (pc := 48) o dX11_later_48 rfl rfl ?_
        obtain ⟨q5, hq5, h⟩ := xbs h
        refine x_callI (pc := 49) (As := [.int a1, .int a2]) (b := r4) (rest := []) o (tX0_behind _ M _ n r4 a1 a2 S q5 hq5) eX0_behind mX11_223 clX0 (kX0_behind hq5) (by decide) rfl rfl (Nat.le_of_ble_eq_true rfl) dX11_later_49 ?_
        exact x_ireturn (pc := 52) o hr dX11_later_52 (xr1 h) (xr2 h)
      · have h := xit h c6
        refine x_iconst (pc := 41) o dX11_later_41 ic_m1 ?_
        exact x_ireturn (pc := 42) o hr dX11_later_42 (xr1 h) (xr2 h)
def fX11_later_B17 (n : Nat) (k0 : Nat) (a1 : Int32) (a2 : Int32) (S : xSt) : Option (Int32 × xSt) :=
  fX11_later_B22 n k0 a1 a2 ((1 : Int32)) S
set_option maxHeartbeats 4000000 in
theorem tX11_later_B17 {Γ : xGm} {M : xMg} (o : xOk Γ tC M 8 cX11_later RX11) (hnL : Γ.2.2.2 = 4) (n : Nat) (k0 : Nat) (a1 : Int32) (a2 : Int32) (S : xSt) (z : (Int32 × xSt)) (hr : xRI Γ tC M (some .int) z.1 z.2) (h : fX11_later_B17 n k0 a1 a2 S = some z) : xAt Γ tC M 17 (xlv [(0, .ref (M.2.1 k0)), (1, .int a1), (2, .int a2)]) [] S := by
  unfold fX11_later_B17 at h
  refine x_iconst (pc := 17) o dX11_later_17 ic_1 ?_
  refine x_goto (pc := 18) (tgt := 22) o dX11_later_18 (by decide) ?_
  refine x_to (l := [(0, .ref (M.2.1 k0)), (1, .int a1), (2, .int a2)]) ⟨rfl, rfl, rfl, trivial⟩ ?_
  exact tX11_later_B22 o hnL n k0 a1 a2 ((1 : Int32)) S z hr h
def fX11_later (n : Nat) (k0 : Nat) (a1 : Int32) (a2 : Int32) (S : xSt) : Option (Int32 × xSt) :=
  if tC.1 k0 = 11 then
  (if a2 = ((-1 : Int32)) then
  (fX11_later_B17 n k0 a1 a2 S)
else
  ((xgM tC 11 2 k0 S).bind fun r9 =>
  (fX9_holds r9 ((3 : Int32)) a2 S).bind fun v10 =>
  if v10 = 0 then
  (fX11_later_B22 n k0 a1 a2 ((0 : Int32)) S)
else
  (fX11_later_B17 n k0 a1 a2 S)))
  else none
theorem kX11_later {z : Int32 × xSt} {n : Nat} {k0 : Nat} {a1 : Int32} {a2 : Int32} {S : xSt} (h : fX11_later n k0 a1 a2 S = some z) : tC.1 k0 = 11 := by
  unfold fX11_later at h
  exact (xck h).1
set_option maxHeartbeats 4000000 in
theorem tX11_later (l : Launch) (M : xMg) (A : Nat → Prop) (n : Nat) (k0 : Nat) (a1 : Int32) (a2 : Int32) (S : xSt) (z : Int32 × xSt) (h : fX11_later n k0 a1 a2 S = some z) : xMI l yX11_later cX11_later 4 (some .int) 8 tC M A [.ref (M.2.1 k0), .int a1, .int a2] S z.1 z.2 := by
  refine x_metI (plainFor_of_name (by decide)) tC_ok (Nat.le_of_ble_eq_true rfl) (fun Γ hA hnL hl hr o => ?_)
  subst hA; subst hl
  have o : xOk Γ tC M 8 cX11_later RX11 := o
  unfold fX11_later at h
  obtain ⟨hk0, h⟩ := xck h
  refine x_to (l := [(0, .ref (M.2.1 k0)), (1, .int a1), (2, .int a2)]) ⟨rfl, rfl, rfl, trivial⟩ ?_
  refine x_iload_n (pc := 0) o dX11_later_0 rfl rfl ?_
  refine x_iconst (pc := 1) o dX11_later_1 ic_m1 ?_
  refine x_icmp_eq (pc := 2) (tgt := 17) o dX11_later_2 (by decide) (fun c12 => ?_) (fun c12 => ?_)
  · have h := xit h c12
    refine x_to (l := [(0, .ref (M.2.1 k0)), (1, .int a1), (2, .int a2)]) ⟨rfl, rfl, rfl, trivial⟩ ?_
    exact tX11_later_B17 o hnL n k0 a1 a2 S z hr h
  · have h := xif h c12
    refine x_aload_n (pc := 5) o dX11_later_5 rfl rfl ?_
    obtain ⟨r9, hr9, h⟩ := xbs h
    refine gX11_16 (pc := 6) o dX11_later_6 hr9 ?_
    refine x_iconst (pc := 9) o dX11_later_9 ic_3 ?_
    refine x_iload_n (pc := 10) o dX11_later_10 rfl rfl ?_
    obtain ⟨v10, hv10, h⟩ := xbs h
    refine x_callI (pc := 11) (As := [.int ((3 : Int32)), .int a2]) (b := r9) (rest := []) o (tX9_holds _ M _ r9 ((3 : Int32)) a2 S v10 hv10) eX9_holds mX11_169 clX9 (kX9_holds hv10) (by decide) rfl rfl (Nat.le_of_ble_eq_true rfl) dX11_later_11 ?_
    refine x_if_eq (pc := 14) (tgt := 21) o dX11_later_14 (by decide) (fun c11 => ?_) (fun c11 => ?_)
    · have h := xit h c11
      refine x_iconst (pc := 21) o dX11_later_21 ic_0 ?_
      refine x_to (l := [(0, .ref (M.2.1 k0)), (1, .int a1), (2, .int a2)]) ⟨rfl, rfl, rfl, trivial⟩ ?_
      exact tX11_later_B22 o hnL n k0 a1 a2 ((0 : Int32)) S z hr h
    · have h := xif h c11
      refine x_to (l := [(0, .ref (M.2.1 k0)), (1, .int a1), (2, .int a2)]) ⟨rfl, rfl, rfl, trivial⟩ ?_
      exact tX11_later_B17 o hnL n k0 a1 a2 S z hr h
def fX11_done (n : Nat) (k0 : Nat) (a1 : Int32) (S : xSt) : Option (Int32 × xSt) :=
  if tC.1 k0 = 11 then
  ((xgM tC 11 2 k0 S).bind fun r1 =>
  (fX9_holds r1 ((3 : Int32)) a1 S).bind fun v2 =>
  if v2 = 0 then
  (some ((-1 : Int32), S))
else
  ((xgF tC 11 7 k0 S).bind fun r3 =>
  (xgF tC 11 4 k0 S).bind fun r4 =>
  (xgI tC 8 0 r4 S).bind fun v5 =>
  (some (if (((999 : Int32)) - v5) < ((100 : Int32)) then (((999 : Int32)) - v5) else ((100 : Int32)))).bind fun v6 =>
  (fX0_daysUntilDone n r3 a1 v6 S).bind fun q7 =>
  some (q7.1, q7.2)))
  else none
theorem kX11_done {z : Int32 × xSt} {n : Nat} {k0 : Nat} {a1 : Int32} {S : xSt} (h : fX11_done n k0 a1 S = some z) : tC.1 k0 = 11 := by
  unfold fX11_done at h
  exact (xck h).1
set_option maxHeartbeats 4000000 in
theorem tX11_done (l : Launch) (M : xMg) (A : Nat → Prop) (n : Nat) (k0 : Nat) (a1 : Int32) (S : xSt) (z : Int32 × xSt) (h : fX11_done n k0 a1 S = some z) : xMI l yX11_done cX11_done 2 (some .int) 7 tC M A [.ref (M.2.1 k0), .int a1] S z.1 z.2 := by
  refine x_metI (plainFor_of_name (by decide)) tC_ok (Nat.le_of_ble_eq_true rfl) (fun Γ hA hnL hl hr o => ?_)
  subst hA; subst hl
  have o : xOk Γ tC M 7 cX11_done RX11 := o
  unfold fX11_done at h
  obtain ⟨hk0, h⟩ := xck h
  refine x_to (l := [(0, .ref (M.2.1 k0)), (1, .int a1)]) ⟨rfl, rfl, trivial⟩ ?_
  refine x_aload_n (pc := 0) o dX11_done_0 rfl rfl ?_
  obtain ⟨r1, hr1, h⟩ := xbs h
  refine gX11_16 (pc := 1) o dX11_done_1 hr1 ?_
  refine x_iconst (pc := 4) o dX11_done_4 ic_3 ?_
  refine x_iload_n (pc := 5) o dX11_done_5 rfl rfl ?_
  obtain ⟨v2, hv2, h⟩ := xbs h
  refine x_callI (pc := 6) (As := [.int ((3 : Int32)), .int a1]) (b := r1) (rest := []) o (tX9_holds _ M _ r1 ((3 : Int32)) a1 S v2 hv2) eX9_holds mX11_169 clX9 (kX9_holds hv2) (by decide) rfl rfl (Nat.le_of_ble_eq_true rfl) dX11_done_6 ?_
  refine x_if_ne (pc := 9) (tgt := 14) o dX11_done_9 (by decide) (fun c8 => ?_) (fun c8 => ?_)
  · have h := xif h c8
    refine x_aload_n (pc := 14) o dX11_done_14 rfl rfl ?_
    obtain ⟨r3, hr3, h⟩ := xbs h
    refine gX11_49 (pc := 15) o dX11_done_15 hr3 ?_
    refine x_iload_n (pc := 18) o dX11_done_18 rfl rfl ?_
    refine x_bipush (pc := 19) o dX11_done_19 bp_100 ?_
    refine x_sipush (pc := 21) o dX11_done_21 sp_999 ?_
    refine x_aload_n (pc := 24) o dX11_done_24 rfl rfl ?_
    obtain ⟨r4, hr4, h⟩ := xbs h
    refine gX11_26 (pc := 25) o dX11_done_25 hr4 ?_
    obtain ⟨v5, hv5, h⟩ := xbs h
    refine gX11_140 (pc := 28) o dX11_done_28 hv5 ?_
    refine x_isub (pc := 31) o dX11_done_31 ?_
    obtain ⟨v6, hv6, h⟩ := xbs h
    refine x_mminE (pc := 32) o mX11_226 w_min1 w_min2 w_min3 (by decide) (Nat.le_of_ble_eq_true rfl) dX11_done_32 hv6 ?_
    obtain ⟨q7, hq7, h⟩ := xbs h
    refine x_callI (pc := 35) (As := [.int a1, .int v6]) (b := r3) (rest := []) o (tX0_daysUntilDone _ M _ n r3 a1 v6 S q7 hq7) eX0_daysUntilDone mX11_231 clX0 (kX0_daysUntilDone hq7) (by decide) rfl rfl (Nat.le_of_ble_eq_true rfl) dX11_done_35 ?_
    exact x_ireturn (pc := 38) o hr dX11_done_38 (xr1 h) (xr2 h)
  · have h := xit h c8
    refine x_iconst (pc := 12) o dX11_done_12 ic_m1 ?_
    exact x_ireturn (pc := 13) o hr dX11_done_13 (xr1 h) (xr2 h)
def fX11_late (n : Nat) (k0 : Nat) (a1 : Int32) (S : xSt) : Option (Int32 × xSt) :=
  if tC.1 k0 = 11 then
  ((fX11_canPass k0 a1 ((100 : Int32)) S).bind fun v1 =>
  if v1 = 0 then
  (some ((-1 : Int32), S))
else
  ((xgF tC 11 7 k0 S).bind fun r2 =>
  (fX0_latenessBehind n r2 a1 S).bind fun q3 =>
  some (q3.1, q3.2)))
  else none
theorem kX11_late {z : Int32 × xSt} {n : Nat} {k0 : Nat} {a1 : Int32} {S : xSt} (h : fX11_late n k0 a1 S = some z) : tC.1 k0 = 11 := by
  unfold fX11_late at h
  exact (xck h).1
set_option maxHeartbeats 4000000 in
theorem tX11_late (l : Launch) (M : xMg) (A : Nat → Prop) (n : Nat) (k0 : Nat) (a1 : Int32) (S : xSt) (z : Int32 × xSt) (h : fX11_late n k0 a1 S = some z) : xMI l yX11_late cX11_late 2 (some .int) 8 tC M A [.ref (M.2.1 k0), .int a1] S z.1 z.2 := by
  refine x_metI (plainFor_of_name (by decide)) tC_ok (Nat.le_of_ble_eq_true rfl) (fun Γ hA hnL hl hr o => ?_)
  subst hA; subst hl
  have o : xOk Γ tC M 8 cX11_late RX11 := o
  unfold fX11_late at h
  obtain ⟨hk0, h⟩ := xck h
  refine x_to (l := [(0, .ref (M.2.1 k0)), (1, .int a1)]) ⟨rfl, rfl, trivial⟩ ?_
  refine x_aload_n (pc := 0) o dX11_late_0 rfl rfl ?_
  refine x_iload_n (pc := 1) o dX11_late_1 rfl rfl ?_
  refine x_bipush (pc := 2) o dX11_late_2 bp_100 ?_
  obtain ⟨v1, hv1, h⟩ := xbs h
  refine x_callI (pc := 4) (As := [.int a1, .int ((100 : Int32))]) (b := k0) (rest := []) o (tX11_canPass _ M _ k0 a1 ((100 : Int32)) S v1 hv1) eX11_canPass mX11_220 clX11 (kX11_canPass hv1) (by decide) rfl rfl (Nat.le_of_ble_eq_true rfl) dX11_late_4 ?_
  refine x_if_eq (pc := 7) (tgt := 21) o dX11_late_7 (by decide) (fun c4 => ?_) (fun c4 => ?_)
  · have h := xit h c4
    refine x_iconst (pc := 21) o dX11_late_21 ic_m1 ?_
    exact x_ireturn (pc := 22) o hr dX11_late_22 (xr1 h) (xr2 h)
  · have h := xif h c4
    refine x_aload_n (pc := 10) o dX11_late_10 rfl rfl ?_
    obtain ⟨r2, hr2, h⟩ := xbs h
    refine gX11_49 (pc := 11) o dX11_late_11 hr2 ?_
    refine x_iload_n (pc := 14) o dX11_late_14 rfl rfl ?_
    obtain ⟨q3, hq3, h⟩ := xbs h
    refine x_callI (pc := 15) (As := [.int a1]) (b := r2) (rest := []) o (tX0_latenessBehind _ M _ n r2 a1 S q3 hq3) eX0_latenessBehind mX11_234 clX0 (kX0_latenessBehind hq3) (by decide) rfl rfl (Nat.le_of_ble_eq_true rfl) dX11_late_15 ?_
    refine x_goto (pc := 18) (tgt := 22) o dX11_late_18 (by decide) ?_
    exact x_ireturn (pc := 22) o hr dX11_late_22 (xr1 h) (xr2 h)
def fX11_order_B22 (n : Nat) (k0 : Nat) (a1 : Int32) (a2 : Int32) (s0 : Int32) (S : xSt) : Option (Int32 × xSt) :=
  if s0 = 0 then
  (some ((-1 : Int32), S))
else
  ((fX11_canPass k0 a1 ((30 : Int32)) S).bind fun v1 =>
  if v1 = 0 then
  (some ((-1 : Int32), S))
else
  ((xgF tC 11 7 k0 S).bind fun r2 =>
  (fX0_findOrder n r2 a1 S).bind fun S3 =>
  if a2 = ((-1 : Int32)) then
  ((xgF tC 11 7 k0 S3).bind fun r7 =>
  (xgI tC 0 6 r7 S3).bind fun v8 =>
  some (v8, S3))
else
  ((xgF tC 11 7 k0 S3).bind fun r4 =>
  (xgF tC 0 5 r4 S3).bind fun r5 =>
  (xal tC r5 a2 S3).bind fun v6 =>
  some (v6, S3))))
set_option maxHeartbeats 4000000 in
theorem tX11_order_B22 {Γ : xGm} {M : xMg} (o : xOk Γ tC M 8 cX11_order RX11) (hnL : Γ.2.2.2 = 4) (n : Nat) (k0 : Nat) (a1 : Int32) (a2 : Int32) (s0 : Int32) (S : xSt) (z : (Int32 × xSt)) (hr : xRI Γ tC M (some .int) z.1 z.2) (h : fX11_order_B22 n k0 a1 a2 s0 S = some z) : xAt Γ tC M 22 (xlv [(0, .ref (M.2.1 k0)), (1, .int a1), (2, .int a2)]) [.int s0] S := by
  have hn3 : 3 < Γ.2.2.2 := by omega
  unfold fX11_order_B22 at h
  refine x_istore_n (pc := 22) o dX11_order_22 rfl hn3 ?_
  refine x_iload_n (pc := 23) o dX11_order_23 rfl rfl ?_
  refine x_if_eq (pc := 24) (tgt := 37) o dX11_order_24 (by decide) (fun c11 => ?_) (fun c11 => ?_)
  · have h := xit h c11
    refine x_iconst (pc := 37) o dX11_order_37 ic_m1 ?_
    exact x_ireturn (pc := 38) o hr dX11_order_38 (xr1 h) (xr2 h)
  · have h := xif h c11
    refine x_aload_n (pc := 27) o dX11_order_27 rfl rfl ?_
    refine x_iload_n (pc := 28) o dX11_order_28 rfl rfl ?_
    refine x_bipush (pc := 29) o dX11_order_29 bp_30 ?_
    obtain ⟨v1, hv1, h⟩ := xbs h
    refine x_callI (pc := 31) (As := [.int a1, .int ((30 : Int32))]) (b := k0) (rest := []) o (tX11_canPass _ M _ k0 a1 ((30 : Int32)) S v1 hv1) eX11_canPass mX11_220 clX11 (kX11_canPass hv1) (by decide) rfl rfl (Nat.le_of_ble_eq_true rfl) dX11_order_31 ?_
    refine x_if_ne (pc := 34) (tgt := 39) o dX11_order_34 (by decide) (fun c10 => ?_) (fun c10 => ?_)
    · have h := xif h c10
      refine x_aload_n (pc := 39) o dX11_order_39 rfl rfl ?_
      obtain ⟨r2, hr2, h⟩ := xbs h
      refine gX11_49 (pc := 40) o dX11_order_40 hr2 ?_
      refine x_iload_n (pc := 43) o dX11_order_43 rfl rfl ?_
      obtain ⟨S3, hS3, h⟩ := xbs h
      refine x_callV (pc := 44) (As := [.int a1]) (b := r2) (rest := []) o (tX0_findOrder _ M _ n r2 a1 S S3 hS3) eX0_findOrder mX11_237 clX0 (kX0_findOrder hS3) (by decide) rfl rfl (Nat.le_of_ble_eq_true rfl) dX11_order_44 ?_
      refine x_iload_n (pc := 47) o dX11_order_47 rfl rfl ?_
      refine x_iconst (pc := 48) o dX11_order_48 ic_m1 ?_
      refine x_icmp_ne (pc := 49) (tgt := 62) o dX11_order_49 (by decide) (fun c9 => ?_) (fun c9 => ?_)
      · have h := xif h c9
        refine x_aload_n (pc := 62) o dX11_order_62 rfl rfl ?_
        obtain ⟨r4, hr4, h⟩ := xbs h
        refine gX11_49 (pc := 63) o dX11_order_63 hr4 ?_
        obtain ⟨r5, hr5, h⟩ := xbs h
        refine gX11_243 (pc := 66) o dX11_order_66 hr5 ?_
        refine x_iload_n (pc := 69) o dX11_order_69 rfl rfl ?_
        obtain ⟨v6, hv6, h⟩ := xbs h
        refine x_iaload (pc := 70) o dX11_order_70 hv6 ?_
        exact x_ireturn (pc := 71) o hr dX11_order_71 (xr1 h) (xr2 h)
      · have h := xit h c9
        refine x_aload_n (pc := 52) o dX11_order_52 rfl rfl ?_
        obtain ⟨r7, hr7, h⟩ := xbs h
        refine gX11_49 (pc := 53) o dX11_order_53 hr7 ?_
        obtain ⟨v8, hv8, h⟩ := xbs h
        refine gX11_240 (pc := 56) o dX11_order_56 hv8 ?_
        refine x_goto (pc := 59) (tgt := 71) o dX11_order_59 (by decide) ?_
        exact x_ireturn (pc := 71) o hr dX11_order_71 (xr1 h) (xr2 h)
    · have h := xit h c10
      refine x_iconst (pc := 37) o dX11_order_37 ic_m1 ?_
      exact x_ireturn (pc := 38) o hr dX11_order_38 (xr1 h) (xr2 h)
def fX11_order_B17 (n : Nat) (k0 : Nat) (a1 : Int32) (a2 : Int32) (S : xSt) : Option (Int32 × xSt) :=
  fX11_order_B22 n k0 a1 a2 ((1 : Int32)) S
set_option maxHeartbeats 4000000 in
theorem tX11_order_B17 {Γ : xGm} {M : xMg} (o : xOk Γ tC M 8 cX11_order RX11) (hnL : Γ.2.2.2 = 4) (n : Nat) (k0 : Nat) (a1 : Int32) (a2 : Int32) (S : xSt) (z : (Int32 × xSt)) (hr : xRI Γ tC M (some .int) z.1 z.2) (h : fX11_order_B17 n k0 a1 a2 S = some z) : xAt Γ tC M 17 (xlv [(0, .ref (M.2.1 k0)), (1, .int a1), (2, .int a2)]) [] S := by
  unfold fX11_order_B17 at h
  refine x_iconst (pc := 17) o dX11_order_17 ic_1 ?_
  refine x_goto (pc := 18) (tgt := 22) o dX11_order_18 (by decide) ?_
  refine x_to (l := [(0, .ref (M.2.1 k0)), (1, .int a1), (2, .int a2)]) ⟨rfl, rfl, rfl, trivial⟩ ?_
  exact tX11_order_B22 o hnL n k0 a1 a2 ((1 : Int32)) S z hr h
def fX11_order (n : Nat) (k0 : Nat) (a1 : Int32) (a2 : Int32) (S : xSt) : Option (Int32 × xSt) :=
  if tC.1 k0 = 11 then
  (if a2 = ((-1 : Int32)) then
  (fX11_order_B17 n k0 a1 a2 S)
else
  ((xgM tC 11 2 k0 S).bind fun r12 =>
  (fX9_holds r12 ((3 : Int32)) a2 S).bind fun v13 =>
  if v13 = 0 then
  (fX11_order_B22 n k0 a1 a2 ((0 : Int32)) S)
else
  (fX11_order_B17 n k0 a1 a2 S)))
  else none
theorem kX11_order {z : Int32 × xSt} {n : Nat} {k0 : Nat} {a1 : Int32} {a2 : Int32} {S : xSt} (h : fX11_order n k0 a1 a2 S = some z) : tC.1 k0 = 11 := by
  unfold fX11_order at h
  exact (xck h).1
set_option maxHeartbeats 4000000 in
theorem tX11_order (l : Launch) (M : xMg) (A : Nat → Prop) (n : Nat) (k0 : Nat) (a1 : Int32) (a2 : Int32) (S : xSt) (z : Int32 × xSt) (h : fX11_order n k0 a1 a2 S = some z) : xMI l yX11_order cX11_order 4 (some .int) 8 tC M A [.ref (M.2.1 k0), .int a1, .int a2] S z.1 z.2 := by
  refine x_metI (plainFor_of_name (by decide)) tC_ok (Nat.le_of_ble_eq_true rfl) (fun Γ hA hnL hl hr o => ?_)
  subst hA; subst hl
  have o : xOk Γ tC M 8 cX11_order RX11 := o
  unfold fX11_order at h
  obtain ⟨hk0, h⟩ := xck h
  refine x_to (l := [(0, .ref (M.2.1 k0)), (1, .int a1), (2, .int a2)]) ⟨rfl, rfl, rfl, trivial⟩ ?_
  refine x_iload_n (pc := 0) o dX11_order_0 rfl rfl ?_
  refine x_iconst (pc := 1) o dX11_order_1 ic_m1 ?_
  refine x_icmp_eq (pc := 2) (tgt := 17) o dX11_order_2 (by decide) (fun c15 => ?_) (fun c15 => ?_)
  · have h := xit h c15
    refine x_to (l := [(0, .ref (M.2.1 k0)), (1, .int a1), (2, .int a2)]) ⟨rfl, rfl, rfl, trivial⟩ ?_
    exact tX11_order_B17 o hnL n k0 a1 a2 S z hr h
  · have h := xif h c15
    refine x_aload_n (pc := 5) o dX11_order_5 rfl rfl ?_
    obtain ⟨r12, hr12, h⟩ := xbs h
    refine gX11_16 (pc := 6) o dX11_order_6 hr12 ?_
    refine x_iconst (pc := 9) o dX11_order_9 ic_3 ?_
    refine x_iload_n (pc := 10) o dX11_order_10 rfl rfl ?_
    obtain ⟨v13, hv13, h⟩ := xbs h
    refine x_callI (pc := 11) (As := [.int ((3 : Int32)), .int a2]) (b := r12) (rest := []) o (tX9_holds _ M _ r12 ((3 : Int32)) a2 S v13 hv13) eX9_holds mX11_169 clX9 (kX9_holds hv13) (by decide) rfl rfl (Nat.le_of_ble_eq_true rfl) dX11_order_11 ?_
    refine x_if_eq (pc := 14) (tgt := 21) o dX11_order_14 (by decide) (fun c14 => ?_) (fun c14 => ?_)
    · have h := xit h c14
      refine x_iconst (pc := 21) o dX11_order_21 ic_0 ?_
      refine x_to (l := [(0, .ref (M.2.1 k0)), (1, .int a1), (2, .int a2)]) ⟨rfl, rfl, rfl, trivial⟩ ?_
      exact tX11_order_B22 o hnL n k0 a1 a2 ((0 : Int32)) S z hr h
    · have h := xif h c14
      refine x_to (l := [(0, .ref (M.2.1 k0)), (1, .int a1), (2, .int a2)]) ⟨rfl, rfl, rfl, trivial⟩ ?_
      exact tX11_order_B17 o hnL n k0 a1 a2 S z hr h
def fX11_moved (n : Nat) (k0 : Nat) (a1 : Int32) (a2 : Int32) (S : xSt) : Option (Int32 × xSt) :=
  if tC.1 k0 = 11 then
  ((fX11_canPass k0 a1 ((60 : Int32)) S).bind fun v1 =>
  if v1 = 0 then
  (some ((-1 : Int32), S))
else
  ((xgF tC 11 7 k0 S).bind fun r2 =>
  (fX0_findMove n r2 a1 S).bind fun S3 =>
  (xgF tC 11 7 k0 S3).bind fun r4 =>
  (xgI tC 0 8 r4 S3).bind fun v5 =>
  if v5 = ((-1 : Int32)) then
  (some ((-1 : Int32), S3))
else
  (if a2 = (0 : Int32) then
  ((xgF tC 11 7 k0 S3).bind fun r6 =>
  (xgI tC 0 8 r6 S3).bind fun v7 =>
  some (v7, S3))
else if a2 = (1 : Int32) then
  ((xgF tC 11 7 k0 S3).bind fun r9 =>
  (xgI tC 0 9 r9 S3).bind fun v10 =>
  some (v10, S3))
else if a2 = (2 : Int32) then
  ((xgF tC 11 7 k0 S3).bind fun r12 =>
  (xgI tC 0 10 r12 S3).bind fun v13 =>
  some (v13, S3))
else 
  (some ((-1 : Int32), S3)))))
  else none
theorem kX11_moved {z : Int32 × xSt} {n : Nat} {k0 : Nat} {a1 : Int32} {a2 : Int32} {S : xSt} (h : fX11_moved n k0 a1 a2 S = some z) : tC.1 k0 = 11 := by
  unfold fX11_moved at h
  exact (xck h).1
set_option maxHeartbeats 4000000 in
theorem tX11_moved (l : Launch) (M : xMg) (A : Nat → Prop) (n : Nat) (k0 : Nat) (a1 : Int32) (a2 : Int32) (S : xSt) (z : Int32 × xSt) (h : fX11_moved n k0 a1 a2 S = some z) : xMI l yX11_moved cX11_moved 3 (some .int) 8 tC M A [.ref (M.2.1 k0), .int a1, .int a2] S z.1 z.2 := by
  refine x_metI (plainFor_of_name (by decide)) tC_ok (Nat.le_of_ble_eq_true rfl) (fun Γ hA hnL hl hr o => ?_)
  subst hA; subst hl
  have o : xOk Γ tC M 8 cX11_moved RX11 := o
  unfold fX11_moved at h
  obtain ⟨hk0, h⟩ := xck h
  refine x_to (l := [(0, .ref (M.2.1 k0)), (1, .int a1), (2, .int a2)]) ⟨rfl, rfl, rfl, trivial⟩ ?_
  refine x_aload_n (pc := 0) o dX11_moved_0 rfl rfl ?_
  refine x_iload_n (pc := 1) o dX11_moved_1 rfl rfl ?_
  refine x_bipush (pc := 2) o dX11_moved_2 bp_60 ?_
  obtain ⟨v1, hv1, h⟩ := xbs h
  refine x_callI (pc := 4) (As := [.int a1, .int ((60 : Int32))]) (b := k0) (rest := []) o (tX11_canPass _ M _ k0 a1 ((60 : Int32)) S v1 hv1) eX11_canPass mX11_220 clX11 (kX11_canPass hv1) (by decide) rfl rfl (Nat.le_of_ble_eq_true rfl) dX11_moved_4 ?_
  refine x_if_ne (pc := 7) (tgt := 12) o dX11_moved_7 (by decide) (fun c16 => ?_) (fun c16 => ?_)
  · have h := xif h c16
    refine x_aload_n (pc := 12) o dX11_moved_12 rfl rfl ?_
    obtain ⟨r2, hr2, h⟩ := xbs h
    refine gX11_49 (pc := 13) o dX11_moved_13 hr2 ?_
    refine x_iload_n (pc := 16) o dX11_moved_16 rfl rfl ?_
    obtain ⟨S3, hS3, h⟩ := xbs h
    refine x_callV (pc := 17) (As := [.int a1]) (b := r2) (rest := []) o (tX0_findMove _ M _ n r2 a1 S S3 hS3) eX0_findMove mX11_246 clX0 (kX0_findMove hS3) (by decide) rfl rfl (Nat.le_of_ble_eq_true rfl) dX11_moved_17 ?_
    refine x_aload_n (pc := 20) o dX11_moved_20 rfl rfl ?_
    obtain ⟨r4, hr4, h⟩ := xbs h
    refine gX11_49 (pc := 21) o dX11_moved_21 hr4 ?_
    obtain ⟨v5, hv5, h⟩ := xbs h
    refine gX11_249 (pc := 24) o dX11_moved_24 hv5 ?_
    refine x_iconst (pc := 27) o dX11_moved_27 ic_m1 ?_
    refine x_icmp_ne (pc := 28) (tgt := 33) o dX11_moved_28 (by decide) (fun c15 => ?_) (fun c15 => ?_)
    · have h := xif h c15
      refine x_iload_n (pc := 33) o dX11_moved_33 rfl rfl ?_
      by_cases c8 : a2 = (0 : Int32)
      · have h := xit h c8
        refine x_tableIn (pc := 34) (tgt := 60) o dX11_moved_34 (by rw [c8]; decide) (by rw [c8]; decide) (by rw [c8]; rfl) (by decide) ?_
        refine x_aload_n (pc := 60) o dX11_moved_60 rfl rfl ?_
        obtain ⟨r6, hr6, h⟩ := xbs h
        refine gX11_49 (pc := 61) o dX11_moved_61 hr6 ?_
        obtain ⟨v7, hv7, h⟩ := xbs h
        refine gX11_249 (pc := 64) o dX11_moved_64 hv7 ?_
        exact x_ireturn (pc := 67) o hr dX11_moved_67 (xr1 h) (xr2 h)
      have h := xif h c8
      by_cases c11 : a2 = (1 : Int32)
      · have h := xit h c11
        refine x_tableIn (pc := 34) (tgt := 68) o dX11_moved_34 (by rw [c11]; decide) (by rw [c11]; decide) (by rw [c11]; rfl) (by decide) ?_
        refine x_aload_n (pc := 68) o dX11_moved_68 rfl rfl ?_
        obtain ⟨r9, hr9, h⟩ := xbs h
        refine gX11_49 (pc := 69) o dX11_moved_69 hr9 ?_
        obtain ⟨v10, hv10, h⟩ := xbs h
        refine gX11_252 (pc := 72) o dX11_moved_72 hv10 ?_
        exact x_ireturn (pc := 75) o hr dX11_moved_75 (xr1 h) (xr2 h)
      have h := xif h c11
      by_cases c14 : a2 = (2 : Int32)
      · have h := xit h c14
        refine x_tableIn (pc := 34) (tgt := 76) o dX11_moved_34 (by rw [c14]; decide) (by rw [c14]; decide) (by rw [c14]; rfl) (by decide) ?_
        refine x_aload_n (pc := 76) o dX11_moved_76 rfl rfl ?_
        obtain ⟨r12, hr12, h⟩ := xbs h
        refine gX11_49 (pc := 77) o dX11_moved_77 hr12 ?_
        obtain ⟨v13, hv13, h⟩ := xbs h
        refine gX11_255 (pc := 80) o dX11_moved_80 hv13 ?_
        exact x_ireturn (pc := 83) o hr dX11_moved_83 (xr1 h) (xr2 h)
      have h := xif h c14
      refine x_tableOut (pc := 34) (tgt := 84) o dX11_moved_34 (by have := lv_neT c8 (a := 0) (by decide); have := lv_neT c11 (a := 1) (by decide); have := lv_neT c14 (a := 2) (by decide); omega) (by decide) ?_
      refine x_iconst (pc := 84) o dX11_moved_84 ic_m1 ?_
      exact x_ireturn (pc := 85) o hr dX11_moved_85 (xr1 h) (xr2 h)
    · have h := xit h c15
      refine x_iconst (pc := 31) o dX11_moved_31 ic_m1 ?_
      exact x_ireturn (pc := 32) o hr dX11_moved_32 (xr1 h) (xr2 h)
  · have h := xit h c16
    refine x_iconst (pc := 10) o dX11_moved_10 ic_m1 ?_
    exact x_ireturn (pc := 11) o hr dX11_moved_11 (xr1 h) (xr2 h)
def fX11_makeshift (n : Nat) (k0 : Nat) (a1 : Int32) (a2 : Int32) (a3 : Int32) (S : xSt) : Option (Int32 × xSt) :=
  if tC.1 k0 = 11 then
  ((xgM tC 11 2 k0 S).bind fun r1 =>
  (fX9_holds r1 ((0 : Int32)) a1 S).bind fun v2 =>
  if v2 = 0 then
  (some ((-1 : Int32), S))
else
  ((xgM tC 11 2 k0 S).bind fun r3 =>
  (fX9_holds r3 ((0 : Int32)) a2 S).bind fun v4 =>
  if v4 = 0 then
  (some ((-1 : Int32), S))
else
  (if ((-1 : Int32)) ≤ a3 then
  ((xgM tC 11 2 k0 S).bind fun r5 =>
  (fX9_measurePathsTo n r5 a1 S).bind fun S6 =>
  if a3 = ((-1 : Int32)) then
  ((xgM tC 11 2 k0 S6).bind fun r9 =>
  (fX9_pathPrice r9 a2 S6).bind fun v10 =>
  some (v10, S6))
else
  ((xgM tC 11 2 k0 S6).bind fun r7 =>
  (fX9_pathKind n r7 a1 a2 a3 S6).bind fun v8 =>
  some (v8, S6)))
else
  (some ((-1 : Int32), S)))))
  else none
theorem kX11_makeshift {z : Int32 × xSt} {n : Nat} {k0 : Nat} {a1 : Int32} {a2 : Int32} {a3 : Int32} {S : xSt} (h : fX11_makeshift n k0 a1 a2 a3 S = some z) : tC.1 k0 = 11 := by
  unfold fX11_makeshift at h
  exact (xck h).1
set_option maxHeartbeats 4000000 in
theorem tX11_makeshift (l : Launch) (M : xMg) (A : Nat → Prop) (n : Nat) (k0 : Nat) (a1 : Int32) (a2 : Int32) (a3 : Int32) (S : xSt) (z : Int32 × xSt) (h : fX11_makeshift n k0 a1 a2 a3 S = some z) : xMI l yX11_makeshift cX11_makeshift 4 (some .int) 5 tC M A [.ref (M.2.1 k0), .int a1, .int a2, .int a3] S z.1 z.2 := by
  refine x_metI (plainFor_of_name (by decide)) tC_ok (Nat.le_of_ble_eq_true rfl) (fun Γ hA hnL hl hr o => ?_)
  subst hA; subst hl
  have o : xOk Γ tC M 5 cX11_makeshift RX11 := o
  unfold fX11_makeshift at h
  obtain ⟨hk0, h⟩ := xck h
  refine x_to (l := [(0, .ref (M.2.1 k0)), (1, .int a1), (2, .int a2), (3, .int a3)]) ⟨rfl, rfl, rfl, rfl, trivial⟩ ?_
  refine x_aload_n (pc := 0) o dX11_makeshift_0 rfl rfl ?_
  obtain ⟨r1, hr1, h⟩ := xbs h
  refine gX11_16 (pc := 1) o dX11_makeshift_1 hr1 ?_
  refine x_iconst (pc := 4) o dX11_makeshift_4 ic_0 ?_
  refine x_iload_n (pc := 5) o dX11_makeshift_5 rfl rfl ?_
  obtain ⟨v2, hv2, h⟩ := xbs h
  refine x_callI (pc := 6) (As := [.int ((0 : Int32)), .int a1]) (b := r1) (rest := []) o (tX9_holds _ M _ r1 ((0 : Int32)) a1 S v2 hv2) eX9_holds mX11_169 clX9 (kX9_holds hv2) (by decide) rfl rfl (Nat.le_of_ble_eq_true rfl) dX11_makeshift_6 ?_
  refine x_if_eq (pc := 9) (tgt := 29) o dX11_makeshift_9 (by decide) (fun c14 => ?_) (fun c14 => ?_)
  · have h := xit h c14
    refine x_iconst (pc := 29) o dX11_makeshift_29 ic_m1 ?_
    exact x_ireturn (pc := 30) o hr dX11_makeshift_30 (xr1 h) (xr2 h)
  · have h := xif h c14
    refine x_aload_n (pc := 12) o dX11_makeshift_12 rfl rfl ?_
    obtain ⟨r3, hr3, h⟩ := xbs h
    refine gX11_16 (pc := 13) o dX11_makeshift_13 hr3 ?_
    refine x_iconst (pc := 16) o dX11_makeshift_16 ic_0 ?_
    refine x_iload_n (pc := 17) o dX11_makeshift_17 rfl rfl ?_
    obtain ⟨v4, hv4, h⟩ := xbs h
    refine x_callI (pc := 18) (As := [.int ((0 : Int32)), .int a2]) (b := r3) (rest := []) o (tX9_holds _ M _ r3 ((0 : Int32)) a2 S v4 hv4) eX9_holds mX11_169 clX9 (kX9_holds hv4) (by decide) rfl rfl (Nat.le_of_ble_eq_true rfl) dX11_makeshift_18 ?_
    refine x_if_eq (pc := 21) (tgt := 29) o dX11_makeshift_21 (by decide) (fun c13 => ?_) (fun c13 => ?_)
    · have h := xit h c13
      refine x_iconst (pc := 29) o dX11_makeshift_29 ic_m1 ?_
      exact x_ireturn (pc := 30) o hr dX11_makeshift_30 (xr1 h) (xr2 h)
    · have h := xif h c13
      refine x_iload_n (pc := 24) o dX11_makeshift_24 rfl rfl ?_
      refine x_iconst (pc := 25) o dX11_makeshift_25 ic_m1 ?_
      refine x_icmp_ge (pc := 26) (tgt := 31) o dX11_makeshift_26 (by decide) (fun c12 => ?_) (fun c12 => ?_)
      · have h := xit h c12
        refine x_aload_n (pc := 31) o dX11_makeshift_31 rfl rfl ?_
        obtain ⟨r5, hr5, h⟩ := xbs h
        refine gX11_16 (pc := 32) o dX11_makeshift_32 hr5 ?_
        refine x_iload_n (pc := 35) o dX11_makeshift_35 rfl rfl ?_
        obtain ⟨S6, hS6, h⟩ := xbs h
        refine x_callV (pc := 36) (As := [.int a1]) (b := r5) (rest := []) o (tX9_measurePathsTo _ M _ n r5 a1 S S6 hS6) eX9_measurePathsTo mX11_258 clX9 (kX9_measurePathsTo hS6) (by decide) rfl rfl (Nat.le_of_ble_eq_true rfl) dX11_makeshift_36 ?_
        refine x_iload_n (pc := 39) o dX11_makeshift_39 rfl rfl ?_
        refine x_iconst (pc := 40) o dX11_makeshift_40 ic_m1 ?_
        refine x_icmp_ne (pc := 41) (tgt := 55) o dX11_makeshift_41 (by decide) (fun c11 => ?_) (fun c11 => ?_)
        · have h := xif h c11
          refine x_aload_n (pc := 55) o dX11_makeshift_55 rfl rfl ?_
          obtain ⟨r7, hr7, h⟩ := xbs h
          refine gX11_16 (pc := 56) o dX11_makeshift_56 hr7 ?_
          refine x_iload_n (pc := 59) o dX11_makeshift_59 rfl rfl ?_
          refine x_iload_n (pc := 60) o dX11_makeshift_60 rfl rfl ?_
          refine x_iload_n (pc := 61) o dX11_makeshift_61 rfl rfl ?_
          obtain ⟨v8, hv8, h⟩ := xbs h
          refine x_callI (pc := 62) (As := [.int a1, .int a2, .int a3]) (b := r7) (rest := []) o (tX9_pathKind _ M _ n r7 a1 a2 a3 S6 v8 hv8) eX9_pathKind mX11_264 clX9 (kX9_pathKind hv8) (by decide) rfl rfl (Nat.le_of_ble_eq_true rfl) dX11_makeshift_62 ?_
          exact x_ireturn (pc := 65) o hr dX11_makeshift_65 (xr1 h) (xr2 h)
        · have h := xit h c11
          refine x_aload_n (pc := 44) o dX11_makeshift_44 rfl rfl ?_
          obtain ⟨r9, hr9, h⟩ := xbs h
          refine gX11_16 (pc := 45) o dX11_makeshift_45 hr9 ?_
          refine x_iload_n (pc := 48) o dX11_makeshift_48 rfl rfl ?_
          obtain ⟨v10, hv10, h⟩ := xbs h
          refine x_callI (pc := 49) (As := [.int a2]) (b := r9) (rest := []) o (tX9_pathPrice _ M _ r9 a2 S6 v10 hv10) eX9_pathPrice mX11_261 clX9 (kX9_pathPrice hv10) (by decide) rfl rfl (Nat.le_of_ble_eq_true rfl) dX11_makeshift_49 ?_
          refine x_goto (pc := 52) (tgt := 65) o dX11_makeshift_52 (by decide) ?_
          exact x_ireturn (pc := 65) o hr dX11_makeshift_65 (xr1 h) (xr2 h)
      · have h := xif h c12
        refine x_iconst (pc := 29) o dX11_makeshift_29 ic_m1 ?_
        exact x_ireturn (pc := 30) o hr dX11_makeshift_30 (xr1 h) (xr2 h)
def fX11_hangs (n : Nat) (k0 : Nat) (a1 : Int32) (a2 : Int32) (S : xSt) : Option (Int32 × xSt) :=
  if tC.1 k0 = 11 then
  ((xgM tC 11 2 k0 S).bind fun r1 =>
  (fX9_holds r1 ((3 : Int32)) a1 S).bind fun v2 =>
  if v2 = 0 then
  (some ((-1 : Int32), S))
else
  ((fX11_canPass k0 a2 ((60 : Int32)) S).bind fun v3 =>
  if v3 = 0 then
  (some ((-1 : Int32), S))
else
  ((xgF tC 11 7 k0 S).bind fun r4 =>
  (fX0_hangsOn n r4 a1 a2 S).bind fun q5 =>
  some (q5.1, q5.2))))
  else none
theorem kX11_hangs {z : Int32 × xSt} {n : Nat} {k0 : Nat} {a1 : Int32} {a2 : Int32} {S : xSt} (h : fX11_hangs n k0 a1 a2 S = some z) : tC.1 k0 = 11 := by
  unfold fX11_hangs at h
  exact (xck h).1
set_option maxHeartbeats 4000000 in
theorem tX11_hangs (l : Launch) (M : xMg) (A : Nat → Prop) (n : Nat) (k0 : Nat) (a1 : Int32) (a2 : Int32) (S : xSt) (z : Int32 × xSt) (h : fX11_hangs n k0 a1 a2 S = some z) : xMI l yX11_hangs cX11_hangs 3 (some .int) 8 tC M A [.ref (M.2.1 k0), .int a1, .int a2] S z.1 z.2 := by
  refine x_metI (plainFor_of_name (by decide)) tC_ok (Nat.le_of_ble_eq_true rfl) (fun Γ hA hnL hl hr o => ?_)
  subst hA; subst hl
  have o : xOk Γ tC M 8 cX11_hangs RX11 := o
  unfold fX11_hangs at h
  obtain ⟨hk0, h⟩ := xck h
  refine x_to (l := [(0, .ref (M.2.1 k0)), (1, .int a1), (2, .int a2)]) ⟨rfl, rfl, rfl, trivial⟩ ?_
  refine x_aload_n (pc := 0) o dX11_hangs_0 rfl rfl ?_
  obtain ⟨r1, hr1, h⟩ := xbs h
  refine gX11_16 (pc := 1) o dX11_hangs_1 hr1 ?_
  refine x_iconst (pc := 4) o dX11_hangs_4 ic_3 ?_
  refine x_iload_n (pc := 5) o dX11_hangs_5 rfl rfl ?_
  obtain ⟨v2, hv2, h⟩ := xbs h
  refine x_callI (pc := 6) (As := [.int ((3 : Int32)), .int a1]) (b := r1) (rest := []) o (tX9_holds _ M _ r1 ((3 : Int32)) a1 S v2 hv2) eX9_holds mX11_169 clX9 (kX9_holds hv2) (by decide) rfl rfl (Nat.le_of_ble_eq_true rfl) dX11_hangs_6 ?_
  refine x_if_eq (pc := 9) (tgt := 22) o dX11_hangs_9 (by decide) (fun c7 => ?_) (fun c7 => ?_)
  · have h := xit h c7
    refine x_iconst (pc := 22) o dX11_hangs_22 ic_m1 ?_
    exact x_ireturn (pc := 23) o hr dX11_hangs_23 (xr1 h) (xr2 h)
  · have h := xif h c7
    refine x_aload_n (pc := 12) o dX11_hangs_12 rfl rfl ?_
    refine x_iload_n (pc := 13) o dX11_hangs_13 rfl rfl ?_
    refine x_bipush (pc := 14) o dX11_hangs_14 bp_60 ?_
    obtain ⟨v3, hv3, h⟩ := xbs h
    refine x_callI (pc := 16) (As := [.int a2, .int ((60 : Int32))]) (b := k0) (rest := []) o (tX11_canPass _ M _ k0 a2 ((60 : Int32)) S v3 hv3) eX11_canPass mX11_220 clX11 (kX11_canPass hv3) (by decide) rfl rfl (Nat.le_of_ble_eq_true rfl) dX11_hangs_16 ?_
    refine x_if_ne (pc := 19) (tgt := 24) o dX11_hangs_19 (by decide) (fun c6 => ?_) (fun c6 => ?_)
    · have h := xif h c6
      refine x_aload_n (pc := 24) o dX11_hangs_24 rfl rfl ?_
      obtain ⟨r4, hr4, h⟩ := xbs h
      refine gX11_49 (pc := 25) o dX11_hangs_25 hr4 ?_
      refine x_iload_n (pc := 28) o dX11_hangs_28 rfl rfl ?_
      refine x_iload_n (pc := 29) o dX11_hangs_29 rfl rfl ?_
      obtain ⟨q5, hq5, h⟩ := xbs h
      refine x_callI (pc := 30) (As := [.int a1, .int a2]) (b := r4) (rest := []) o (tX0_hangsOn _ M _ n r4 a1 a2 S q5 hq5) eX0_hangsOn mX11_268 clX0 (kX0_hangsOn hq5) (by decide) rfl rfl (Nat.le_of_ble_eq_true rfl) dX11_hangs_30 ?_
      exact x_ireturn (pc := 33) o hr dX11_hangs_33 (xr1 h) (xr2 h)
    · have h := xit h c6
      refine x_iconst (pc := 22) o dX11_hangs_22 ic_m1 ?_
      exact x_ireturn (pc := 23) o hr dX11_hangs_23 (xr1 h) (xr2 h)
def fX11_guard (n : Nat) (k0 : Nat) (a1 : Int32) (a2 : Int32) (S : xSt) : Option (Int32 × xSt) :=
  if tC.1 k0 = 11 then
  ((xgM tC 11 2 k0 S).bind fun r1 =>
  (fX9_holds r1 ((3 : Int32)) a1 S).bind fun v2 =>
  if v2 = 0 then
  (some ((-1 : Int32), S))
else
  ((fX11_canPass k0 a2 ((30 : Int32)) S).bind fun v3 =>
  if v3 = 0 then
  (some ((-1 : Int32), S))
else
  ((xgF tC 11 7 k0 S).bind fun r4 =>
  (fX0_guardOf n r4 a1 a2 S).bind fun q5 =>
  some (q5.1, q5.2))))
  else none
theorem kX11_guard {z : Int32 × xSt} {n : Nat} {k0 : Nat} {a1 : Int32} {a2 : Int32} {S : xSt} (h : fX11_guard n k0 a1 a2 S = some z) : tC.1 k0 = 11 := by
  unfold fX11_guard at h
  exact (xck h).1
set_option maxHeartbeats 4000000 in
theorem tX11_guard (l : Launch) (M : xMg) (A : Nat → Prop) (n : Nat) (k0 : Nat) (a1 : Int32) (a2 : Int32) (S : xSt) (z : Int32 × xSt) (h : fX11_guard n k0 a1 a2 S = some z) : xMI l yX11_guard cX11_guard 3 (some .int) 8 tC M A [.ref (M.2.1 k0), .int a1, .int a2] S z.1 z.2 := by
  refine x_metI (plainFor_of_name (by decide)) tC_ok (Nat.le_of_ble_eq_true rfl) (fun Γ hA hnL hl hr o => ?_)
  subst hA; subst hl
  have o : xOk Γ tC M 8 cX11_guard RX11 := o
  unfold fX11_guard at h
  obtain ⟨hk0, h⟩ := xck h
  refine x_to (l := [(0, .ref (M.2.1 k0)), (1, .int a1), (2, .int a2)]) ⟨rfl, rfl, rfl, trivial⟩ ?_
  refine x_aload_n (pc := 0) o dX11_guard_0 rfl rfl ?_
  obtain ⟨r1, hr1, h⟩ := xbs h
  refine gX11_16 (pc := 1) o dX11_guard_1 hr1 ?_
  refine x_iconst (pc := 4) o dX11_guard_4 ic_3 ?_
  refine x_iload_n (pc := 5) o dX11_guard_5 rfl rfl ?_
  obtain ⟨v2, hv2, h⟩ := xbs h
  refine x_callI (pc := 6) (As := [.int ((3 : Int32)), .int a1]) (b := r1) (rest := []) o (tX9_holds _ M _ r1 ((3 : Int32)) a1 S v2 hv2) eX9_holds mX11_169 clX9 (kX9_holds hv2) (by decide) rfl rfl (Nat.le_of_ble_eq_true rfl) dX11_guard_6 ?_
  refine x_if_eq (pc := 9) (tgt := 22) o dX11_guard_9 (by decide) (fun c7 => ?_) (fun c7 => ?_)
  · have h := xit h c7
    refine x_iconst (pc := 22) o dX11_guard_22 ic_m1 ?_
    exact x_ireturn (pc := 23) o hr dX11_guard_23 (xr1 h) (xr2 h)
  · have h := xif h c7
    refine x_aload_n (pc := 12) o dX11_guard_12 rfl rfl ?_
    refine x_iload_n (pc := 13) o dX11_guard_13 rfl rfl ?_
    refine x_bipush (pc := 14) o dX11_guard_14 bp_30 ?_
    obtain ⟨v3, hv3, h⟩ := xbs h
    refine x_callI (pc := 16) (As := [.int a2, .int ((30 : Int32))]) (b := k0) (rest := []) o (tX11_canPass _ M _ k0 a2 ((30 : Int32)) S v3 hv3) eX11_canPass mX11_220 clX11 (kX11_canPass hv3) (by decide) rfl rfl (Nat.le_of_ble_eq_true rfl) dX11_guard_16 ?_
    refine x_if_ne (pc := 19) (tgt := 24) o dX11_guard_19 (by decide) (fun c6 => ?_) (fun c6 => ?_)
    · have h := xif h c6
      refine x_aload_n (pc := 24) o dX11_guard_24 rfl rfl ?_
      obtain ⟨r4, hr4, h⟩ := xbs h
      refine gX11_49 (pc := 25) o dX11_guard_25 hr4 ?_
      refine x_iload_n (pc := 28) o dX11_guard_28 rfl rfl ?_
      refine x_iload_n (pc := 29) o dX11_guard_29 rfl rfl ?_
      obtain ⟨q5, hq5, h⟩ := xbs h
      refine x_callI (pc := 30) (As := [.int a1, .int a2]) (b := r4) (rest := []) o (tX0_guardOf _ M _ n r4 a1 a2 S q5 hq5) eX0_guardOf mX11_271 clX0 (kX0_guardOf hq5) (by decide) rfl rfl (Nat.le_of_ble_eq_true rfl) dX11_guard_30 ?_
      exact x_ireturn (pc := 33) o hr dX11_guard_33 (xr1 h) (xr2 h)
    · have h := xit h c6
      refine x_iconst (pc := 22) o dX11_guard_22 ic_m1 ?_
      exact x_ireturn (pc := 23) o hr dX11_guard_23 (xr1 h) (xr2 h)
def fX11_loan (n : Nat) (k0 : Nat) (a1 : Int32) (a2 : Int32) (S : xSt) : Option (Int32 × xSt) :=
  if tC.1 k0 = 11 then
  ((xgM tC 11 2 k0 S).bind fun r1 =>
  (fX9_holds r1 ((2 : Int32)) a1 S).bind fun v2 =>
  if v2 = 0 then
  (some ((-1 : Int32), S))
else
  ((xgM tC 11 2 k0 S).bind fun r3 =>
  (fX9_holds r3 ((1 : Int32)) a1 S).bind fun v4 =>
  if v4 = 0 then
  (some ((-1 : Int32), S))
else
  ((xgF tC 11 10 k0 S).bind fun r5 =>
  (xgM tC 11 2 k0 S).bind fun r6 =>
  (xgF tC 11 4 k0 S).bind fun r7 =>
  (fX2_settle n r5 r6 r7 S).bind fun S8 =>
  if a2 = (0 : Int32) then
  ((xgF tC 11 10 k0 S8).bind fun r9 =>
  (xgF tC 2 0 r9 S8).bind fun r10 =>
  (xal tC r10 a1 S8).bind fun v11 =>
  some (v11, S8))
else if a2 = (1 : Int32) then
  ((xgF tC 11 10 k0 S8).bind fun r13 =>
  (xgF tC 2 1 r13 S8).bind fun r14 =>
  (xal tC r14 a1 S8).bind fun v15 =>
  some (v15, S8))
else if a2 = (2 : Int32) then
  ((xgF tC 11 10 k0 S8).bind fun r17 =>
  (xgF tC 2 2 r17 S8).bind fun r18 =>
  (xal tC r18 a1 S8).bind fun v19 =>
  some (v19, S8))
else 
  (some ((-1 : Int32), S8)))))
  else none
theorem kX11_loan {z : Int32 × xSt} {n : Nat} {k0 : Nat} {a1 : Int32} {a2 : Int32} {S : xSt} (h : fX11_loan n k0 a1 a2 S = some z) : tC.1 k0 = 11 := by
  unfold fX11_loan at h
  exact (xck h).1
set_option maxHeartbeats 4000000 in
theorem tX11_loan (l : Launch) (M : xMg) (A : Nat → Prop) (n : Nat) (k0 : Nat) (a1 : Int32) (a2 : Int32) (S : xSt) (z : Int32 × xSt) (h : fX11_loan n k0 a1 a2 S = some z) : xMI l yX11_loan cX11_loan 3 (some .int) 5 tC M A [.ref (M.2.1 k0), .int a1, .int a2] S z.1 z.2 := by
  refine x_metI (plainFor_of_name (by decide)) tC_ok (Nat.le_of_ble_eq_true rfl) (fun Γ hA hnL hl hr o => ?_)
  subst hA; subst hl
  have o : xOk Γ tC M 5 cX11_loan RX11 := o
  unfold fX11_loan at h
  obtain ⟨hk0, h⟩ := xck h
  refine x_to (l := [(0, .ref (M.2.1 k0)), (1, .int a1), (2, .int a2)]) ⟨rfl, rfl, rfl, trivial⟩ ?_
  refine x_aload_n (pc := 0) o dX11_loan_0 rfl rfl ?_
  obtain ⟨r1, hr1, h⟩ := xbs h
  refine gX11_16 (pc := 1) o dX11_loan_1 hr1 ?_
  refine x_iconst (pc := 4) o dX11_loan_4 ic_2 ?_
  refine x_iload_n (pc := 5) o dX11_loan_5 rfl rfl ?_
  obtain ⟨v2, hv2, h⟩ := xbs h
  refine x_callI (pc := 6) (As := [.int ((2 : Int32)), .int a1]) (b := r1) (rest := []) o (tX9_holds _ M _ r1 ((2 : Int32)) a1 S v2 hv2) eX9_holds mX11_169 clX9 (kX9_holds hv2) (by decide) rfl rfl (Nat.le_of_ble_eq_true rfl) dX11_loan_6 ?_
  refine x_if_eq (pc := 9) (tgt := 24) o dX11_loan_9 (by decide) (fun c22 => ?_) (fun c22 => ?_)
  · have h := xit h c22
    refine x_iconst (pc := 24) o dX11_loan_24 ic_m1 ?_
    exact x_ireturn (pc := 25) o hr dX11_loan_25 (xr1 h) (xr2 h)
  · have h := xif h c22
    refine x_aload_n (pc := 12) o dX11_loan_12 rfl rfl ?_
    obtain ⟨r3, hr3, h⟩ := xbs h
    refine gX11_16 (pc := 13) o dX11_loan_13 hr3 ?_
    refine x_iconst (pc := 16) o dX11_loan_16 ic_1 ?_
    refine x_iload_n (pc := 17) o dX11_loan_17 rfl rfl ?_
    obtain ⟨v4, hv4, h⟩ := xbs h
    refine x_callI (pc := 18) (As := [.int ((1 : Int32)), .int a1]) (b := r3) (rest := []) o (tX9_holds _ M _ r3 ((1 : Int32)) a1 S v4 hv4) eX9_holds mX11_169 clX9 (kX9_holds hv4) (by decide) rfl rfl (Nat.le_of_ble_eq_true rfl) dX11_loan_18 ?_
    refine x_if_ne (pc := 21) (tgt := 26) o dX11_loan_21 (by decide) (fun c21 => ?_) (fun c21 => ?_)
    · have h := xif h c21
      refine x_aload_n (pc := 26) o dX11_loan_26 rfl rfl ?_
      obtain ⟨r5, hr5, h⟩ := xbs h
      refine gX11_74 (pc := 27) o dX11_loan_27 hr5 ?_
      refine x_aload_n (pc := 30) o dX11_loan_30 rfl rfl ?_
      obtain ⟨r6, hr6, h⟩ := xbs h
      refine gX11_16 (pc := 31) o dX11_loan_31 hr6 ?_
      refine x_aload_n (pc := 34) o dX11_loan_34 rfl rfl ?_
      obtain ⟨r7, hr7, h⟩ := xbs h
      refine gX11_26 (pc := 35) o dX11_loan_35 hr7 ?_
      obtain ⟨S8, hS8, h⟩ := xbs h
      refine x_callV (pc := 38) (As := [.ref (M.2.1 r6), .ref (M.2.1 r7)]) (b := r5) (rest := []) o (tX2_settle _ M _ n r5 r6 r7 S S8 hS8) eX2_settle mX11_274 clX2 (kX2_settle hS8) (by decide) rfl rfl (Nat.le_of_ble_eq_true rfl) dX11_loan_38 ?_
      refine x_iload_n (pc := 41) o dX11_loan_41 rfl rfl ?_
      by_cases c12 : a2 = (0 : Int32)
      · have h := xit h c12
        refine x_tableIn (pc := 42) (tgt := 68) o dX11_loan_42 (by rw [c12]; decide) (by rw [c12]; decide) (by rw [c12]; rfl) (by decide) ?_
        refine x_aload_n (pc := 68) o dX11_loan_68 rfl rfl ?_
        obtain ⟨r9, hr9, h⟩ := xbs h
        refine gX11_74 (pc := 69) o dX11_loan_69 hr9 ?_
        obtain ⟨r10, hr10, h⟩ := xbs h
        refine gX11_278 (pc := 72) o dX11_loan_72 hr10 ?_
        refine x_iload_n (pc := 75) o dX11_loan_75 rfl rfl ?_
        obtain ⟨v11, hv11, h⟩ := xbs h
        refine x_iaload (pc := 76) o dX11_loan_76 hv11 ?_
        exact x_ireturn (pc := 77) o hr dX11_loan_77 (xr1 h) (xr2 h)
      have h := xif h c12
      by_cases c16 : a2 = (1 : Int32)
      · have h := xit h c16
        refine x_tableIn (pc := 42) (tgt := 78) o dX11_loan_42 (by rw [c16]; decide) (by rw [c16]; decide) (by rw [c16]; rfl) (by decide) ?_
        refine x_aload_n (pc := 78) o dX11_loan_78 rfl rfl ?_
        obtain ⟨r13, hr13, h⟩ := xbs h
        refine gX11_74 (pc := 79) o dX11_loan_79 hr13 ?_
        obtain ⟨r14, hr14, h⟩ := xbs h
        refine gX11_281 (pc := 82) o dX11_loan_82 hr14 ?_
        refine x_iload_n (pc := 85) o dX11_loan_85 rfl rfl ?_
        obtain ⟨v15, hv15, h⟩ := xbs h
        refine x_iaload (pc := 86) o dX11_loan_86 hv15 ?_
        exact x_ireturn (pc := 87) o hr dX11_loan_87 (xr1 h) (xr2 h)
      have h := xif h c16
      by_cases c20 : a2 = (2 : Int32)
      · have h := xit h c20
        refine x_tableIn (pc := 42) (tgt := 88) o dX11_loan_42 (by rw [c20]; decide) (by rw [c20]; decide) (by rw [c20]; rfl) (by decide) ?_
        refine x_aload_n (pc := 88) o dX11_loan_88 rfl rfl ?_
        obtain ⟨r17, hr17, h⟩ := xbs h
        refine gX11_74 (pc := 89) o dX11_loan_89 hr17 ?_
        obtain ⟨r18, hr18, h⟩ := xbs h
        refine gX11_282 (pc := 92) o dX11_loan_92 hr18 ?_
        refine x_iload_n (pc := 95) o dX11_loan_95 rfl rfl ?_
        obtain ⟨v19, hv19, h⟩ := xbs h
        refine x_iaload (pc := 96) o dX11_loan_96 hv19 ?_
        exact x_ireturn (pc := 97) o hr dX11_loan_97 (xr1 h) (xr2 h)
      have h := xif h c20
      refine x_tableOut (pc := 42) (tgt := 98) o dX11_loan_42 (by have := lv_neT c12 (a := 0) (by decide); have := lv_neT c16 (a := 1) (by decide); have := lv_neT c20 (a := 2) (by decide); omega) (by decide) ?_
      refine x_iconst (pc := 98) o dX11_loan_98 ic_m1 ?_
      exact x_ireturn (pc := 99) o hr dX11_loan_99 (xr1 h) (xr2 h)
    · have h := xit h c21
      refine x_iconst (pc := 24) o dX11_loan_24 ic_m1 ?_
      exact x_ireturn (pc := 25) o hr dX11_loan_25 (xr1 h) (xr2 h)
def fX11_isShavings_L21b (n : Nat) (k0 : Nat) (a1 : Int32) (S : xSt) (rec : Int32 → Option ((Unit) ⊕ (Int32))) (a2 : Int32) : Option ((Unit) ⊕ (Int32)) :=
  if a1 ≤ (a2 + ((1 : Int32))) then
  (some (.inl ()))
else
  ((xgM tC 11 2 k0 S).bind fun r1 =>
  (xgF tC 11 0 k0 S).bind fun r2 =>
  (xal tC r2 a2 S).bind fun v3 =>
  (fX9_holds r1 ((1 : Int32)) v3 S).bind fun v4 =>
  if v4 = 0 then
  (some (.inr ((0 : Int32))))
else
  ((xgF tC 11 0 k0 S).bind fun r5 =>
  (xal tC r5 (a2 + ((1 : Int32))) S).bind fun v6 =>
  if v6 ≤ ((1 : Int32)) then
  ((some (a2 + (2 : Int32))).bind fun v7 =>
  rec v7)
else
  (some (.inr ((0 : Int32))))))
def fX11_isShavings_L21 (n : Nat) (k0 : Nat) (a1 : Int32) (S : xSt) : Nat → Int32 → Option ((Unit) ⊕ (Int32))
  | 0 => fun _ => none
  | q + 1 => fX11_isShavings_L21b n k0 a1 S (fX11_isShavings_L21 n k0 a1 S q)
set_option maxHeartbeats 4000000 in
theorem tX11_isShavings_L21b {Γ : xGm} {M : xMg} (o : xOk Γ tC M 2 cX11_isShavings RX11) (hnL : Γ.2.2.2 = 3) {rec : Int32 → Option ((Unit) ⊕ (Int32))} (n : Nat) (k0 : Nat) (a1 : Int32) (S : xSt) (a2 : Int32) (z : ((Unit) ⊕ (Int32))) (hrec : ∀ (a2 : Int32), rec a2 = some z → xAt Γ tC M 21 (xlv [(0, .ref (M.2.1 k0)), (1, .int a1), (2, .int a2)]) [] S) (K : ∀ e, z = .inl e → xAt Γ tC M 65 (xlv []) [] S) (R : ∀ r, z = .inr r → xRI Γ tC M (some .boolean) r S) (h : fX11_isShavings_L21b n k0 a1 S rec a2 = some z) : xAt Γ tC M 21 (xlv [(0, .ref (M.2.1 k0)), (1, .int a1), (2, .int a2)]) [] S := by
  have hn2 : 2 < Γ.2.2.2 := by omega
  unfold fX11_isShavings_L21b at h
  refine x_iload_n (pc := 21) o dX11_isShavings_21 rfl rfl ?_
  refine x_iconst (pc := 22) o dX11_isShavings_22 ic_1 ?_
  refine x_iadd (pc := 23) o dX11_isShavings_23 ?_
  refine x_iload_n (pc := 24) o dX11_isShavings_24 rfl rfl ?_
  refine x_icmp_ge (pc := 25) (tgt := 65) o dX11_isShavings_25 (by decide) (fun c10 => ?_) (fun c10 => ?_)
  · have h := xit h c10
    refine x_to (l := []) trivial ?_
    exact K _ (Option.some.inj h).symm
  · have h := xif h c10
    refine x_aload_n (pc := 28) o dX11_isShavings_28 rfl rfl ?_
    obtain ⟨r1, hr1, h⟩ := xbs h
    refine gX11_16 (pc := 29) o dX11_isShavings_29 hr1 ?_
    refine x_iconst (pc := 32) o dX11_isShavings_32 ic_1 ?_
    refine x_aload_n (pc := 33) o dX11_isShavings_33 rfl rfl ?_
    obtain ⟨r2, hr2, h⟩ := xbs h
    refine gX11_9 (pc := 34) o dX11_isShavings_34 hr2 ?_
    refine x_iload_n (pc := 37) o dX11_isShavings_37 rfl rfl ?_
    obtain ⟨v3, hv3, h⟩ := xbs h
    refine x_iaload (pc := 38) o dX11_isShavings_38 hv3 ?_
    obtain ⟨v4, hv4, h⟩ := xbs h
    refine x_callI (pc := 39) (As := [.int ((1 : Int32)), .int v3]) (b := r1) (rest := []) o (tX9_holds _ M _ r1 ((1 : Int32)) v3 S v4 hv4) eX9_holds mX11_169 clX9 (kX9_holds hv4) (by decide) rfl rfl (Nat.le_of_ble_eq_true rfl) dX11_isShavings_39 ?_
    refine x_if_eq (pc := 42) (tgt := 57) o dX11_isShavings_42 (by decide) (fun c9 => ?_) (fun c9 => ?_)
    · have h := xit h c9
      refine x_iconst (pc := 57) o dX11_isShavings_57 ic_0 ?_
      exact x_zreturn (pc := 58) o (R _ (Option.some.inj h).symm) dX11_isShavings_58 (by decide) rfl rfl
    · have h := xif h c9
      refine x_aload_n (pc := 45) o dX11_isShavings_45 rfl rfl ?_
      obtain ⟨r5, hr5, h⟩ := xbs h
      refine gX11_9 (pc := 46) o dX11_isShavings_46 hr5 ?_
      refine x_iload_n (pc := 49) o dX11_isShavings_49 rfl rfl ?_
      refine x_iconst (pc := 50) o dX11_isShavings_50 ic_1 ?_
      refine x_iadd (pc := 51) o dX11_isShavings_51 ?_
      obtain ⟨v6, hv6, h⟩ := xbs h
      refine x_iaload (pc := 52) o dX11_isShavings_52 hv6 ?_
      refine x_iconst (pc := 53) o dX11_isShavings_53 ic_1 ?_
      refine x_icmp_le (pc := 54) (tgt := 59) o dX11_isShavings_54 (by decide) (fun c8 => ?_) (fun c8 => ?_)
      · have h := xit h c8
        obtain ⟨v7, hv7, h⟩ := xbs h
        refine x_iincE (pc := 59) o dX11_isShavings_59 rfl ic_2 hn2 hv7 ?_
        refine x_goto (pc := 62) (tgt := 21) o dX11_isShavings_62 (by decide) ?_
        refine x_to (l := [(0, .ref (M.2.1 k0)), (1, .int a1), (2, .int v7)]) ⟨rfl, rfl, rfl, trivial⟩ ?_
        exact hrec v7 h
      · have h := xif h c8
        refine x_iconst (pc := 57) o dX11_isShavings_57 ic_0 ?_
        exact x_zreturn (pc := 58) o (R _ (Option.some.inj h).symm) dX11_isShavings_58 (by decide) rfl rfl
theorem tX11_isShavings_L21 {Γ : xGm} {M : xMg} (o : xOk Γ tC M 2 cX11_isShavings RX11) (hnL : Γ.2.2.2 = 3) (n : Nat) (k0 : Nat) (a1 : Int32) (S : xSt) (z : ((Unit) ⊕ (Int32))) (K : ∀ e, z = .inl e → xAt Γ tC M 65 (xlv []) [] S) (R : ∀ r, z = .inr r → xRI Γ tC M (some .boolean) r S) : ∀ (q : Nat) (a2 : Int32), fX11_isShavings_L21 n k0 a1 S q a2 = some z → xAt Γ tC M 21 (xlv [(0, .ref (M.2.1 k0)), (1, .int a1), (2, .int a2)]) [] S := by
  intro q
  induction q with
  | zero => intro a2 h; cases h
  | succ q ih => intro a2 h; exact tX11_isShavings_L21b o hnL n k0 a1 S a2 z ih K R h
def fX11_isShavings (n : Nat) (k0 : Nat) (a1 : Int32) (S : xSt) : Option (Int32) :=
  if tC.1 k0 = 11 then
  (if a1 < ((2 : Int32)) then
  (some ((0 : Int32)))
else
  (if ((32 : Int32)) < a1 then
  (some ((0 : Int32)))
else
  (if ((2 : Int32)) = 0 then none else
  if (a1 - a1 / ((2 : Int32)) * ((2 : Int32))) = 0 then
  ((fX11_isShavings_L21 n k0 a1 S n ((0 : Int32))).bind fun z11 => xel z11 (fun ez11 => some ((1 : Int32))) (fun r => some r))
else
  (some ((0 : Int32))))))
  else none
theorem kX11_isShavings {z : Int32} {n : Nat} {k0 : Nat} {a1 : Int32} {S : xSt} (h : fX11_isShavings n k0 a1 S = some z) : tC.1 k0 = 11 := by
  unfold fX11_isShavings at h
  exact (xck h).1
set_option maxHeartbeats 4000000 in
theorem tX11_isShavings (l : Launch) (M : xMg) (A : Nat → Prop) (n : Nat) (k0 : Nat) (a1 : Int32) (S : xSt) (z : Int32) (h : fX11_isShavings n k0 a1 S = some z) : xMI l yX11_isShavings cX11_isShavings 3 (some .boolean) 2 tC M A [.ref (M.2.1 k0), .int a1] S z S := by
  refine x_metI (plainFor_of_name (by decide)) tC_ok (Nat.le_of_ble_eq_true rfl) (fun Γ hA hnL hl hr o => ?_)
  subst hA; subst hl
  have o : xOk Γ tC M 2 cX11_isShavings RX11 := o
  unfold fX11_isShavings at h
  obtain ⟨hk0, h⟩ := xck h
  refine x_to (l := [(0, .ref (M.2.1 k0)), (1, .int a1)]) ⟨rfl, rfl, trivial⟩ ?_
  have hn2 : 2 < Γ.2.2.2 := by omega
  refine x_iload_n (pc := 0) o dX11_isShavings_0 rfl rfl ?_
  refine x_iconst (pc := 1) o dX11_isShavings_1 ic_2 ?_
  refine x_icmp_lt (pc := 2) (tgt := 17) o dX11_isShavings_2 (by decide) (fun c14 => ?_) (fun c14 => ?_)
  · have h := xit h c14
    refine x_iconst (pc := 17) o dX11_isShavings_17 ic_0 ?_
    exact x_zreturn (pc := 18) o hr dX11_isShavings_18 (by decide) (Option.some.inj h) rfl
  · have h := xif h c14
    refine x_iload_n (pc := 5) o dX11_isShavings_5 rfl rfl ?_
    refine x_bipush (pc := 6) o dX11_isShavings_6 bp_32 ?_
    refine x_icmp_gt (pc := 8) (tgt := 17) o dX11_isShavings_8 (by decide) (fun c13 => ?_) (fun c13 => ?_)
    · have h := xit h c13
      refine x_iconst (pc := 17) o dX11_isShavings_17 ic_0 ?_
      exact x_zreturn (pc := 18) o hr dX11_isShavings_18 (by decide) (Option.some.inj h) rfl
    · have h := xif h c13
      refine x_iload_n (pc := 11) o dX11_isShavings_11 rfl rfl ?_
      refine x_iconst (pc := 12) o dX11_isShavings_12 ic_2 ?_
      obtain ⟨hq, h⟩ := xcn h
      refine x_irem (pc := 13) o dX11_isShavings_13 hq ?_
      refine x_if_eq (pc := 14) (tgt := 19) o dX11_isShavings_14 (by decide) (fun c12 => ?_) (fun c12 => ?_)
      · have h := xit h c12
        refine x_iconst (pc := 19) o dX11_isShavings_19 ic_0 ?_
        refine x_istore_n (pc := 20) o dX11_isShavings_20 rfl hn2 ?_
        obtain ⟨z11, hz11, h⟩ := xbs h
        refine x_to (l := [(0, .ref (M.2.1 k0)), (1, .int a1), (2, .int ((0 : Int32)))]) ⟨rfl, rfl, rfl, trivial⟩ ?_
        refine tX11_isShavings_L21 o hnL n k0 a1 S z11 (fun ez11 he => ?_) (fun r he => ?_) n ((0 : Int32)) hz11
        · subst he; have h := xel_l h
          refine x_iconst (pc := 65) o dX11_isShavings_65 ic_1 ?_
          exact x_zreturn (pc := 66) o hr dX11_isShavings_66 (by decide) (Option.some.inj h) rfl
        · subst he; have h := xel_r h
          cases Option.some.inj h
          exact hr
      · have h := xif h c12
        refine x_iconst (pc := 17) o dX11_isShavings_17 ic_0 ?_
        exact x_zreturn (pc := 18) o hr dX11_isShavings_18 (by decide) (Option.some.inj h) rfl
def fX11_fitsShavings_L2b (n : Nat) (k0 : Nat) (a1 : Int32) (a2 : Int32) (S : xSt) (rec : Int32 → Option ((Unit) ⊕ (Int32))) (a3 : Int32) : Option ((Unit) ⊕ (Int32)) :=
  if a1 ≤ (a3 + ((1 : Int32))) then
  (some (.inl ()))
else
  (if ((1600 : Int32)) ≤ (a3 + ((1 : Int32))) then
  (some (.inl ()))
else
  ((xgF tC 11 0 k0 S).bind fun r1 =>
  (xal tC r1 a3 S).bind fun v2 =>
  (xgF tC 11 0 k0 S).bind fun r3 =>
  (xal tC r3 (a3 + ((1 : Int32))) S).bind fun v4 =>
  if ((a2 >>> (v2 &&& 31)) &&& ((1 : Int32))) = v4 then
  ((some (a3 + (2 : Int32))).bind fun v5 =>
  rec v5)
else
  (some (.inr ((0 : Int32))))))
def fX11_fitsShavings_L2 (n : Nat) (k0 : Nat) (a1 : Int32) (a2 : Int32) (S : xSt) : Nat → Int32 → Option ((Unit) ⊕ (Int32))
  | 0 => fun _ => none
  | q + 1 => fX11_fitsShavings_L2b n k0 a1 a2 S (fX11_fitsShavings_L2 n k0 a1 a2 S q)
set_option maxHeartbeats 4000000 in
theorem tX11_fitsShavings_L2b {Γ : xGm} {M : xMg} (o : xOk Γ tC M 1 cX11_fitsShavings RX11) (hnL : Γ.2.2.2 = 4) {rec : Int32 → Option ((Unit) ⊕ (Int32))} (n : Nat) (k0 : Nat) (a1 : Int32) (a2 : Int32) (S : xSt) (a3 : Int32) (z : ((Unit) ⊕ (Int32))) (hrec : ∀ (a3 : Int32), rec a3 = some z → xAt Γ tC M 2 (xlv [(0, .ref (M.2.1 k0)), (1, .int a1), (2, .int a2), (3, .int a3)]) [] S) (K : ∀ e, z = .inl e → xAt Γ tC M 47 (xlv []) [] S) (R : ∀ r, z = .inr r → xRI Γ tC M (some .boolean) r S) (h : fX11_fitsShavings_L2b n k0 a1 a2 S rec a3 = some z) : xAt Γ tC M 2 (xlv [(0, .ref (M.2.1 k0)), (1, .int a1), (2, .int a2), (3, .int a3)]) [] S := by
  have hn3 : 3 < Γ.2.2.2 := by omega
  unfold fX11_fitsShavings_L2b at h
  refine x_iload_n (pc := 2) o dX11_fitsShavings_2 rfl rfl ?_
  refine x_iconst (pc := 3) o dX11_fitsShavings_3 ic_1 ?_
  refine x_iadd (pc := 4) o dX11_fitsShavings_4 ?_
  refine x_iload_n (pc := 5) o dX11_fitsShavings_5 rfl rfl ?_
  refine x_icmp_ge (pc := 6) (tgt := 47) o dX11_fitsShavings_6 (by decide) (fun c8 => ?_) (fun c8 => ?_)
  · have h := xit h c8
    refine x_to (l := []) trivial ?_
    exact K _ (Option.some.inj h).symm
  · have h := xif h c8
    refine x_iload_n (pc := 9) o dX11_fitsShavings_9 rfl rfl ?_
    refine x_iconst (pc := 10) o dX11_fitsShavings_10 ic_1 ?_
    refine x_iadd (pc := 11) o dX11_fitsShavings_11 ?_
    refine x_sipush (pc := 12) o dX11_fitsShavings_12 sp_1600 ?_
    refine x_icmp_ge (pc := 15) (tgt := 47) o dX11_fitsShavings_15 (by decide) (fun c7 => ?_) (fun c7 => ?_)
    · have h := xit h c7
      refine x_to (l := []) trivial ?_
      exact K _ (Option.some.inj h).symm
    · have h := xif h c7
      refine x_iload_n (pc := 18) o dX11_fitsShavings_18 rfl rfl ?_
      refine x_aload_n (pc := 19) o dX11_fitsShavings_19 rfl rfl ?_
      obtain ⟨r1, hr1, h⟩ := xbs h
      refine gX11_9 (pc := 20) o dX11_fitsShavings_20 hr1 ?_
      refine x_iload_n (pc := 23) o dX11_fitsShavings_23 rfl rfl ?_
      obtain ⟨v2, hv2, h⟩ := xbs h
      refine x_iaload (pc := 24) o dX11_fitsShavings_24 hv2 ?_
      refine x_ishr (pc := 25) o dX11_fitsShavings_25 ?_
      refine x_iconst (pc := 26) o dX11_fitsShavings_26 ic_1 ?_
      refine x_iand (pc := 27) o dX11_fitsShavings_27 ?_
      refine x_aload_n (pc := 28) o dX11_fitsShavings_28 rfl rfl ?_
      obtain ⟨r3, hr3, h⟩ := xbs h
      refine gX11_9 (pc := 29) o dX11_fitsShavings_29 hr3 ?_
      refine x_iload_n (pc := 32) o dX11_fitsShavings_32 rfl rfl ?_
      refine x_iconst (pc := 33) o dX11_fitsShavings_33 ic_1 ?_
      refine x_iadd (pc := 34) o dX11_fitsShavings_34 ?_
      obtain ⟨v4, hv4, h⟩ := xbs h
      refine x_iaload (pc := 35) o dX11_fitsShavings_35 hv4 ?_
      refine x_icmp_eq (pc := 36) (tgt := 41) o dX11_fitsShavings_36 (by decide) (fun c6 => ?_) (fun c6 => ?_)
      · have h := xit h c6
        obtain ⟨v5, hv5, h⟩ := xbs h
        refine x_iincE (pc := 41) o dX11_fitsShavings_41 rfl ic_2 hn3 hv5 ?_
        refine x_goto (pc := 44) (tgt := 2) o dX11_fitsShavings_44 (by decide) ?_
        refine x_to (l := [(0, .ref (M.2.1 k0)), (1, .int a1), (2, .int a2), (3, .int v5)]) ⟨rfl, rfl, rfl, rfl, trivial⟩ ?_
        exact hrec v5 h
      · have h := xif h c6
        refine x_iconst (pc := 39) o dX11_fitsShavings_39 ic_0 ?_
        exact x_zreturn (pc := 40) o (R _ (Option.some.inj h).symm) dX11_fitsShavings_40 (by decide) rfl rfl
theorem tX11_fitsShavings_L2 {Γ : xGm} {M : xMg} (o : xOk Γ tC M 1 cX11_fitsShavings RX11) (hnL : Γ.2.2.2 = 4) (n : Nat) (k0 : Nat) (a1 : Int32) (a2 : Int32) (S : xSt) (z : ((Unit) ⊕ (Int32))) (K : ∀ e, z = .inl e → xAt Γ tC M 47 (xlv []) [] S) (R : ∀ r, z = .inr r → xRI Γ tC M (some .boolean) r S) : ∀ (q : Nat) (a3 : Int32), fX11_fitsShavings_L2 n k0 a1 a2 S q a3 = some z → xAt Γ tC M 2 (xlv [(0, .ref (M.2.1 k0)), (1, .int a1), (2, .int a2), (3, .int a3)]) [] S := by
  intro q
  induction q with
  | zero => intro a3 h; cases h
  | succ q ih => intro a3 h; exact tX11_fitsShavings_L2b o hnL n k0 a1 a2 S a3 z ih K R h
def fX11_fitsShavings (n : Nat) (k0 : Nat) (a1 : Int32) (a2 : Int32) (S : xSt) : Option (Int32) :=
  if tC.1 k0 = 11 then
  ((fX11_fitsShavings_L2 n k0 a1 a2 S n ((0 : Int32))).bind fun z9 => xel z9 (fun ez9 => some ((1 : Int32))) (fun r => some r))
  else none
theorem kX11_fitsShavings {z : Int32} {n : Nat} {k0 : Nat} {a1 : Int32} {a2 : Int32} {S : xSt} (h : fX11_fitsShavings n k0 a1 a2 S = some z) : tC.1 k0 = 11 := by
  unfold fX11_fitsShavings at h
  exact (xck h).1
set_option maxHeartbeats 4000000 in
theorem tX11_fitsShavings (l : Launch) (M : xMg) (A : Nat → Prop) (n : Nat) (k0 : Nat) (a1 : Int32) (a2 : Int32) (S : xSt) (z : Int32) (h : fX11_fitsShavings n k0 a1 a2 S = some z) : xMI l yX11_fitsShavings cX11_fitsShavings 4 (some .boolean) 1 tC M A [.ref (M.2.1 k0), .int a1, .int a2] S z S := by
  refine x_metI (plainFor_of_name (by decide)) tC_ok (Nat.le_of_ble_eq_true rfl) (fun Γ hA hnL hl hr o => ?_)
  subst hA; subst hl
  have o : xOk Γ tC M 1 cX11_fitsShavings RX11 := o
  unfold fX11_fitsShavings at h
  obtain ⟨hk0, h⟩ := xck h
  refine x_to (l := [(0, .ref (M.2.1 k0)), (1, .int a1), (2, .int a2)]) ⟨rfl, rfl, rfl, trivial⟩ ?_
  have hn3 : 3 < Γ.2.2.2 := by omega
  refine x_iconst (pc := 0) o dX11_fitsShavings_0 ic_0 ?_
  refine x_istore_n (pc := 1) o dX11_fitsShavings_1 rfl hn3 ?_
  obtain ⟨z9, hz9, h⟩ := xbs h
  refine x_to (l := [(0, .ref (M.2.1 k0)), (1, .int a1), (2, .int a2), (3, .int ((0 : Int32)))]) ⟨rfl, rfl, rfl, rfl, trivial⟩ ?_
  refine tX11_fitsShavings_L2 o hnL n k0 a1 a2 S z9 (fun ez9 he => ?_) (fun r he => ?_) n ((0 : Int32)) hz9
  · subst he; have h := xel_l h
    refine x_iconst (pc := 47) o dX11_fitsShavings_47 ic_1 ?_
    exact x_zreturn (pc := 48) o hr dX11_fitsShavings_48 (by decide) (Option.some.inj h) rfl
  · subst he; have h := xel_r h
    cases Option.some.inj h
    exact hr
def fX11_shavings_L50b (n : Nat) (k0 : Nat) (a1 : Int32) (a2 : Int32) (rec : Int32 → xSt → Option (xSt)) (a3 : Int32) (S : xSt) : Option (xSt) :=
  if a2 < a3 then
  (some S)
else
  (if ((60 : Int32)) < a3 then
  (some S)
else
  ((xgF tC 11 7 k0 S).bind fun r9 =>
  (fX0_toolsOfNextDay n r9 S).bind fun q10 =>
  (fX11_fitsShavings n k0 a1 q10.1 q10.2).bind fun v11 =>
  if v11 = 0 then
  ((some (a3 + (1 : Int32))).bind fun v12 =>
  rec v12 q10.2)
else
  ((xgI tC 11 13 k0 q10.2).bind fun v13 =>
  (xgF tC 11 12 k0 q10.2).bind fun r14 =>
  (xlen tC r14).bind fun v15 =>
  if v15 ≤ v13 then
  ((some (a3 + (1 : Int32))).bind fun v16 =>
  rec v16 q10.2)
else
  ((xgF tC 11 12 k0 q10.2).bind fun r17 =>
  (xgI tC 11 13 k0 q10.2).bind fun v18 =>
  (xas tC r17 v18 a3 q10.2).bind fun S19 =>
  (xgI tC 11 13 k0 S19).bind fun v20 =>
  (xpI tC 11 13 k0 (v20 + ((1 : Int32))) S19).bind fun S21 =>
  (some (a3 + (1 : Int32))).bind fun v22 =>
  rec v22 S21))))
def fX11_shavings_L50 (n : Nat) (k0 : Nat) (a1 : Int32) (a2 : Int32) : Nat → Int32 → xSt → Option (xSt)
  | 0 => fun _ _ => none
  | q + 1 => fX11_shavings_L50b n k0 a1 a2 (fX11_shavings_L50 n k0 a1 a2 q)
set_option maxHeartbeats 4000000 in
theorem tX11_shavings_L50b {Γ : xGm} {M : xMg} (o : xOk Γ tC M 7 cX11_shavings RX11) (hnL : Γ.2.2.2 = 5) {rec : Int32 → xSt → Option (xSt)} (n : Nat) (k0 : Nat) (a1 : Int32) (a2 : Int32) (a3 : Int32) (S : xSt) (z : (xSt)) (hrec : ∀ (a3 : Int32) (S : xSt), rec a3 S = some z → xAt Γ tC M 50 (xlv [(0, .ref (M.2.1 k0)), (1, .int a1), (2, .int a2), (3, .int a3)]) [] S) (K : xAt Γ tC M 118 (xlv [(0, .ref (M.2.1 k0))]) [] z) (h : fX11_shavings_L50b n k0 a1 a2 rec a3 S = some z) : xAt Γ tC M 50 (xlv [(0, .ref (M.2.1 k0)), (1, .int a1), (2, .int a2), (3, .int a3)]) [] S := by
  have hn3 : 3 < Γ.2.2.2 := by omega
  have hn4 : 4 < Γ.2.2.2 := by omega
  unfold fX11_shavings_L50b at h
  refine x_iload_n (pc := 50) o dX11_shavings_50 rfl rfl ?_
  refine x_iload_n (pc := 51) o dX11_shavings_51 rfl rfl ?_
  refine x_icmp_gt (pc := 52) (tgt := 118) o dX11_shavings_52 (by decide) (fun c26 => ?_) (fun c26 => ?_)
  · have h := xit h c26
    refine x_to (l := [(0, .ref (M.2.1 k0))]) ⟨rfl, trivial⟩ ?_
    cases Option.some.inj h
    exact K
  · have h := xif h c26
    refine x_iload_n (pc := 55) o dX11_shavings_55 rfl rfl ?_
    refine x_bipush (pc := 56) o dX11_shavings_56 bp_60 ?_
    refine x_icmp_gt (pc := 58) (tgt := 118) o dX11_shavings_58 (by decide) (fun c25 => ?_) (fun c25 => ?_)
    · have h := xit h c25
      refine x_to (l := [(0, .ref (M.2.1 k0))]) ⟨rfl, trivial⟩ ?_
      cases Option.some.inj h
      exact K
    · have h := xif h c25
      refine x_aload_n (pc := 61) o dX11_shavings_61 rfl rfl ?_
      obtain ⟨r9, hr9, h⟩ := xbs h
      refine gX11_49 (pc := 62) o dX11_shavings_62 hr9 ?_
      obtain ⟨q10, hq10, h⟩ := xbs h
      refine x_callI (pc := 65) (As := []) (b := r9) (rest := []) o (tX0_toolsOfNextDay _ M _ n r9 S q10 hq10) eX0_toolsOfNextDay mX11_291 clX0 (kX0_toolsOfNextDay hq10) (by decide) rfl rfl (Nat.le_of_ble_eq_true rfl) dX11_shavings_65 ?_
      refine x_istore (pc := 68) o dX11_shavings_68 hn4 ?_
      refine x_aload_n (pc := 70) o dX11_shavings_70 rfl rfl ?_
      refine x_iload_n (pc := 71) o dX11_shavings_71 rfl rfl ?_
      refine x_iload (pc := 72) o dX11_shavings_72 rfl ?_
      obtain ⟨v11, hv11, h⟩ := xbs h
      refine x_callI (pc := 74) (As := [.int a1, .int q10.1]) (b := k0) (rest := []) o (tX11_fitsShavings _ M _ n k0 a1 q10.1 q10.2 v11 hv11) eX11_fitsShavings mX11_294 clX11 (kX11_fitsShavings hv11) (by decide) rfl rfl (Nat.le_of_ble_eq_true rfl) dX11_shavings_74 ?_
      refine x_if_eq (pc := 77) (tgt := 112) o dX11_shavings_77 (by decide) (fun c24 => ?_) (fun c24 => ?_)
      · have h := xit h c24
        obtain ⟨v12, hv12, h⟩ := xbs h
        refine x_iincE (pc := 112) o dX11_shavings_112 rfl ic_1 hn3 hv12 ?_
        refine x_goto (pc := 115) (tgt := 50) o dX11_shavings_115 (by decide) ?_
        refine x_to (l := [(0, .ref (M.2.1 k0)), (1, .int a1), (2, .int a2), (3, .int v12)]) ⟨rfl, rfl, rfl, rfl, trivial⟩ ?_
        exact hrec v12 q10.2 h
      · have h := xif h c24
        refine x_aload_n (pc := 80) o dX11_shavings_80 rfl rfl ?_
        obtain ⟨v13, hv13, h⟩ := xbs h
        refine gX11_125 (pc := 81) o dX11_shavings_81 hv13 ?_
        refine x_aload_n (pc := 84) o dX11_shavings_84 rfl rfl ?_
        obtain ⟨r14, hr14, h⟩ := xbs h
        refine gX11_85 (pc := 85) o dX11_shavings_85 hr14 ?_
        obtain ⟨v15, hv15, h⟩ := xbs h
        refine x_arraylength (pc := 88) o dX11_shavings_88 hv15 ?_
        refine x_icmp_ge (pc := 89) (tgt := 112) o dX11_shavings_89 (by decide) (fun c23 => ?_) (fun c23 => ?_)
        · have h := xit h c23
          obtain ⟨v16, hv16, h⟩ := xbs h
          refine x_iincE (pc := 112) o dX11_shavings_112 rfl ic_1 hn3 hv16 ?_
          refine x_goto (pc := 115) (tgt := 50) o dX11_shavings_115 (by decide) ?_
          refine x_to (l := [(0, .ref (M.2.1 k0)), (1, .int a1), (2, .int a2), (3, .int v16)]) ⟨rfl, rfl, rfl, rfl, trivial⟩ ?_
          exact hrec v16 q10.2 h
        · have h := xif h c23
          refine x_aload_n (pc := 92) o dX11_shavings_92 rfl rfl ?_
          obtain ⟨r17, hr17, h⟩ := xbs h
          refine gX11_85 (pc := 93) o dX11_shavings_93 hr17 ?_
          refine x_aload_n (pc := 96) o dX11_shavings_96 rfl rfl ?_
          obtain ⟨v18, hv18, h⟩ := xbs h
          refine gX11_125 (pc := 97) o dX11_shavings_97 hv18 ?_
          refine x_iload_n (pc := 100) o dX11_shavings_100 rfl rfl ?_
          obtain ⟨S19, hS19, h⟩ := xbs h
          refine x_iastore (pc := 101) o dX11_shavings_101 hS19 ?_
          refine x_aload_n (pc := 102) o dX11_shavings_102 rfl rfl ?_
          refine x_dup (pc := 103) o dX11_shavings_103 rfl ?_
          obtain ⟨v20, hv20, h⟩ := xbs h
          refine gX11_125 (pc := 104) o dX11_shavings_104 hv20 ?_
          refine x_iconst (pc := 107) o dX11_shavings_107 ic_1 ?_
          refine x_iadd (pc := 108) o dX11_shavings_108 ?_
          obtain ⟨S21, hS21, h⟩ := xbs h
          refine pX11_125 (pc := 109) o dX11_shavings_109 hS21 ?_
          obtain ⟨v22, hv22, h⟩ := xbs h
          refine x_iincE (pc := 112) o dX11_shavings_112 rfl ic_1 hn3 hv22 ?_
          refine x_goto (pc := 115) (tgt := 50) o dX11_shavings_115 (by decide) ?_
          refine x_to (l := [(0, .ref (M.2.1 k0)), (1, .int a1), (2, .int a2), (3, .int v22)]) ⟨rfl, rfl, rfl, rfl, trivial⟩ ?_
          exact hrec v22 S21 h
theorem tX11_shavings_L50 {Γ : xGm} {M : xMg} (o : xOk Γ tC M 7 cX11_shavings RX11) (hnL : Γ.2.2.2 = 5) (n : Nat) (k0 : Nat) (a1 : Int32) (a2 : Int32) (z : (xSt)) (K : xAt Γ tC M 118 (xlv [(0, .ref (M.2.1 k0))]) [] z) : ∀ (q : Nat) (a3 : Int32) (S : xSt), fX11_shavings_L50 n k0 a1 a2 q a3 S = some z → xAt Γ tC M 50 (xlv [(0, .ref (M.2.1 k0)), (1, .int a1), (2, .int a2), (3, .int a3)]) [] S := by
  intro q
  induction q with
  | zero => intro a3 S h; cases h
  | succ q ih => intro a3 S h; exact tX11_shavings_L50b o hnL n k0 a1 a2 a3 S z ih K h
def fX11_shavings (n : Nat) (k0 : Nat) (S : xSt) : Option (Int32 × xSt) :=
  if tC.1 k0 = 11 then
  ((fX11_takeTape k0 S).bind fun q1 =>
  (fX11_isShavings n k0 q1.1 q1.2).bind fun v2 =>
  if v2 = 0 then
  ((fX11_refuse k0 ((5 : Int32)) q1.2).bind fun q29 =>
  some (q29.1, q29.2))
else
  ((xgF tC 11 4 k0 q1.2).bind fun r3 =>
  (xgI tC 8 0 r3 q1.2).bind fun v4 =>
  (some (if (((998 : Int32)) - v4) < ((60 : Int32)) then (((998 : Int32)) - v4) else ((60 : Int32)))).bind fun v5 =>
  (xpI tC 11 13 k0 ((0 : Int32)) q1.2).bind fun S6 =>
  (xgF tC 11 7 k0 S6).bind fun r7 =>
  (fX0_restart n r7 S6).bind fun S8 =>
  (fX11_shavings_L50 n k0 q1.1 v5 n ((0 : Int32)) S8).bind fun z27 => (xgI tC 11 13 k0 z27).bind fun v28 =>
  some (v28, z27)))
  else none
theorem kX11_shavings {z : Int32 × xSt} {n : Nat} {k0 : Nat} {S : xSt} (h : fX11_shavings n k0 S = some z) : tC.1 k0 = 11 := by
  unfold fX11_shavings at h
  exact (xck h).1
set_option maxHeartbeats 4000000 in
theorem tX11_shavings (l : Launch) (M : xMg) (A : Nat → Prop) (n : Nat) (k0 : Nat) (S : xSt) (z : Int32 × xSt) (h : fX11_shavings n k0 S = some z) : xMI l yX11_shavings cX11_shavings 5 (some .int) 7 tC M A [.ref (M.2.1 k0)] S z.1 z.2 := by
  refine x_metI (plainFor_of_name (by decide)) tC_ok (Nat.le_of_ble_eq_true rfl) (fun Γ hA hnL hl hr o => ?_)
  subst hA; subst hl
  have o : xOk Γ tC M 7 cX11_shavings RX11 := o
  unfold fX11_shavings at h
  obtain ⟨hk0, h⟩ := xck h
  refine x_to (l := [(0, .ref (M.2.1 k0))]) ⟨rfl, trivial⟩ ?_
  have hn1 : 1 < Γ.2.2.2 := by omega
  have hn2 : 2 < Γ.2.2.2 := by omega
  have hn3 : 3 < Γ.2.2.2 := by omega
  refine x_aload_n (pc := 0) o dX11_shavings_0 rfl rfl ?_
  obtain ⟨q1, hq1, h⟩ := xbs h
  refine x_callI (pc := 1) (As := []) (b := k0) (rest := []) o (tX11_takeTape _ M _ k0 S q1 hq1) eX11_takeTape mX11_110 clX11 (kX11_takeTape hq1) (by decide) rfl rfl (Nat.le_of_ble_eq_true rfl) dX11_shavings_1 ?_
  refine x_istore_n (pc := 4) o dX11_shavings_4 rfl hn1 ?_
  refine x_aload_n (pc := 5) o dX11_shavings_5 rfl rfl ?_
  refine x_iload_n (pc := 6) o dX11_shavings_6 rfl rfl ?_
  obtain ⟨v2, hv2, h⟩ := xbs h
  refine x_callI (pc := 7) (As := [.int q1.1]) (b := k0) (rest := []) o (tX11_isShavings _ M _ n k0 q1.1 q1.2 v2 hv2) eX11_isShavings mX11_285 clX11 (kX11_isShavings hv2) (by decide) rfl rfl (Nat.le_of_ble_eq_true rfl) dX11_shavings_7 ?_
  refine x_if_ne (pc := 10) (tgt := 19) o dX11_shavings_10 (by decide) (fun c30 => ?_) (fun c30 => ?_)
  · have h := xif h c30
    refine x_bipush (pc := 19) o dX11_shavings_19 bp_60 ?_
    refine x_sipush (pc := 21) o dX11_shavings_21 sp_998 ?_
    refine x_aload_n (pc := 24) o dX11_shavings_24 rfl rfl ?_
    obtain ⟨r3, hr3, h⟩ := xbs h
    refine gX11_26 (pc := 25) o dX11_shavings_25 hr3 ?_
    obtain ⟨v4, hv4, h⟩ := xbs h
    refine gX11_140 (pc := 28) o dX11_shavings_28 hv4 ?_
    refine x_isub (pc := 31) o dX11_shavings_31 ?_
    obtain ⟨v5, hv5, h⟩ := xbs h
    refine x_mminE (pc := 32) o mX11_226 w_min1 w_min2 w_min3 (by decide) (Nat.le_of_ble_eq_true rfl) dX11_shavings_32 hv5 ?_
    refine x_istore_n (pc := 35) o dX11_shavings_35 rfl hn2 ?_
    refine x_aload_n (pc := 36) o dX11_shavings_36 rfl rfl ?_
    refine x_iconst (pc := 37) o dX11_shavings_37 ic_0 ?_
    obtain ⟨S6, hS6, h⟩ := xbs h
    refine pX11_125 (pc := 38) o dX11_shavings_38 hS6 ?_
    refine x_aload_n (pc := 41) o dX11_shavings_41 rfl rfl ?_
    obtain ⟨r7, hr7, h⟩ := xbs h
    refine gX11_49 (pc := 42) o dX11_shavings_42 hr7 ?_
    obtain ⟨S8, hS8, h⟩ := xbs h
    refine x_callV (pc := 45) (As := []) (b := r7) (rest := []) o (tX0_restart _ M _ n r7 S6 S8 hS8) eX0_restart mX11_288 clX0 (kX0_restart hS8) (by decide) rfl rfl (Nat.le_of_ble_eq_true rfl) dX11_shavings_45 ?_
    refine x_iconst (pc := 48) o dX11_shavings_48 ic_0 ?_
    refine x_istore_n (pc := 49) o dX11_shavings_49 rfl hn3 ?_
    obtain ⟨z27, hz27, h⟩ := xbs h
    refine x_to (l := [(0, .ref (M.2.1 k0)), (1, .int q1.1), (2, .int v5), (3, .int ((0 : Int32)))]) ⟨rfl, rfl, rfl, rfl, trivial⟩ ?_
    refine tX11_shavings_L50 o hnL n k0 q1.1 v5 z27 ?_ n ((0 : Int32)) S8 hz27
    refine x_aload_n (pc := 118) o dX11_shavings_118 rfl rfl ?_
    obtain ⟨v28, hv28, h⟩ := xbs h
    refine gX11_125 (pc := 119) o dX11_shavings_119 hv28 ?_
    exact x_ireturn (pc := 122) o hr dX11_shavings_122 (xr1 h) (xr2 h)
  · have h := xit h c30
    refine x_aload_n (pc := 13) o dX11_shavings_13 rfl rfl ?_
    refine x_iconst (pc := 14) o dX11_shavings_14 ic_5 ?_
    obtain ⟨q29, hq29, h⟩ := xbs h
    refine x_callI (pc := 15) (As := [.int ((5 : Int32))]) (b := k0) (rest := []) o (tX11_refuse _ M _ k0 ((5 : Int32)) q1.2 q29 hq29) eX11_refuse mX11_98 clX11 (kX11_refuse hq29) (by decide) rfl rfl (Nat.le_of_ble_eq_true rfl) dX11_shavings_15 ?_
    exact x_ireturn (pc := 18) o hr dX11_shavings_18 (xr1 h) (xr2 h)
def fX11_when (k0 : Nat) (a1 : Int32) (S : xSt) : Option (Int32) :=
  if tC.1 k0 = 11 then
  (if a1 < 0 then
  (some ((-1 : Int32)))
else
  ((xgI tC 11 13 k0 S).bind fun v1 =>
  if v1 ≤ a1 then
  (some ((-1 : Int32)))
else
  ((xgF tC 11 12 k0 S).bind fun r2 =>
  (xlen tC r2).bind fun v3 =>
  if v3 ≤ a1 then
  (some ((-1 : Int32)))
else
  ((xgF tC 11 12 k0 S).bind fun r4 =>
  (xal tC r4 a1 S).bind fun v5 =>
  some v5))))
  else none
theorem kX11_when {z : Int32} {k0 : Nat} {a1 : Int32} {S : xSt} (h : fX11_when k0 a1 S = some z) : tC.1 k0 = 11 := by
  unfold fX11_when at h
  exact (xck h).1
set_option maxHeartbeats 4000000 in
theorem tX11_when (l : Launch) (M : xMg) (A : Nat → Prop) (k0 : Nat) (a1 : Int32) (S : xSt) (z : Int32) (h : fX11_when k0 a1 S = some z) : xMI l yX11_when cX11_when 2 (some .int) 1 tC M A [.ref (M.2.1 k0), .int a1] S z S := by
  refine x_metI (plainFor_of_name (by decide)) tC_ok (Nat.le_of_ble_eq_true rfl) (fun Γ hA hnL hl hr o => ?_)
  subst hA; subst hl
  have o : xOk Γ tC M 1 cX11_when RX11 := o
  unfold fX11_when at h
  obtain ⟨hk0, h⟩ := xck h
  refine x_to (l := [(0, .ref (M.2.1 k0)), (1, .int a1)]) ⟨rfl, rfl, trivial⟩ ?_
  refine x_iload_n (pc := 0) o dX11_when_0 rfl rfl ?_
  refine x_if_lt (pc := 1) (tgt := 30) o dX11_when_1 (by decide) (fun c8 => ?_) (fun c8 => ?_)
  · have h := xit h c8
    refine x_iconst (pc := 30) o dX11_when_30 ic_m1 ?_
    exact x_ireturn (pc := 31) o hr dX11_when_31 (Option.some.inj h) rfl
  · have h := xif h c8
    refine x_iload_n (pc := 4) o dX11_when_4 rfl rfl ?_
    refine x_aload_n (pc := 5) o dX11_when_5 rfl rfl ?_
    obtain ⟨v1, hv1, h⟩ := xbs h
    refine gX11_125 (pc := 6) o dX11_when_6 hv1 ?_
    refine x_icmp_ge (pc := 9) (tgt := 30) o dX11_when_9 (by decide) (fun c7 => ?_) (fun c7 => ?_)
    · have h := xit h c7
      refine x_iconst (pc := 30) o dX11_when_30 ic_m1 ?_
      exact x_ireturn (pc := 31) o hr dX11_when_31 (Option.some.inj h) rfl
    · have h := xif h c7
      refine x_iload_n (pc := 12) o dX11_when_12 rfl rfl ?_
      refine x_aload_n (pc := 13) o dX11_when_13 rfl rfl ?_
      obtain ⟨r2, hr2, h⟩ := xbs h
      refine gX11_85 (pc := 14) o dX11_when_14 hr2 ?_
      obtain ⟨v3, hv3, h⟩ := xbs h
      refine x_arraylength (pc := 17) o dX11_when_17 hv3 ?_
      refine x_icmp_ge (pc := 18) (tgt := 30) o dX11_when_18 (by decide) (fun c6 => ?_) (fun c6 => ?_)
      · have h := xit h c6
        refine x_iconst (pc := 30) o dX11_when_30 ic_m1 ?_
        exact x_ireturn (pc := 31) o hr dX11_when_31 (Option.some.inj h) rfl
      · have h := xif h c6
        refine x_aload_n (pc := 21) o dX11_when_21 rfl rfl ?_
        obtain ⟨r4, hr4, h⟩ := xbs h
        refine gX11_85 (pc := 22) o dX11_when_22 hr4 ?_
        refine x_iload_n (pc := 25) o dX11_when_25 rfl rfl ?_
        obtain ⟨v5, hv5, h⟩ := xbs h
        refine x_iaload (pc := 26) o dX11_when_26 hv5 ?_
        refine x_goto (pc := 27) (tgt := 31) o dX11_when_27 (by decide) ?_
        exact x_ireturn (pc := 31) o hr dX11_when_31 (Option.some.inj h) rfl
def fX11_beginAct (k0 : Nat) (S : xSt) : Option (xSt) :=
  if tC.1 k0 = 11 then
  ((xgF tC 11 5 k0 S).bind fun r1 =>
  (xgF tC 11 4 k0 S).bind fun r2 =>
  (fX3_save r1 r2 S).bind fun S3 =>
  (xgF tC 11 7 k0 S3).bind fun r4 =>
  (fX0_forget r4 S3).bind fun S5 =>
  some S5)
  else none
theorem kX11_beginAct {z : xSt} {k0 : Nat} {S : xSt} (h : fX11_beginAct k0 S = some z) : tC.1 k0 = 11 := by
  unfold fX11_beginAct at h
  exact (xck h).1
set_option maxHeartbeats 4000000 in
theorem tX11_beginAct (l : Launch) (M : xMg) (A : Nat → Prop) (k0 : Nat) (S : xSt) (z : xSt) (h : fX11_beginAct k0 S = some z) : xMV l yX11_beginAct cX11_beginAct 1 none 4 tC M A [.ref (M.2.1 k0)] S z := by
  refine x_metV (plainFor_of_name (by decide)) tC_ok (Nat.le_of_ble_eq_true rfl) (fun Γ hA hnL hl hr o => ?_)
  subst hA; subst hl
  have o : xOk Γ tC M 4 cX11_beginAct RX11 := o
  unfold fX11_beginAct at h
  obtain ⟨hk0, h⟩ := xck h
  refine x_to (l := [(0, .ref (M.2.1 k0))]) ⟨rfl, trivial⟩ ?_
  refine x_aload_n (pc := 0) o dX11_beginAct_0 rfl rfl ?_
  obtain ⟨r1, hr1, h⟩ := xbs h
  refine gX11_33 (pc := 1) o dX11_beginAct_1 hr1 ?_
  refine x_aload_n (pc := 4) o dX11_beginAct_4 rfl rfl ?_
  obtain ⟨r2, hr2, h⟩ := xbs h
  refine gX11_26 (pc := 5) o dX11_beginAct_5 hr2 ?_
  obtain ⟨S3, hS3, h⟩ := xbs h
  refine x_callV (pc := 8) (As := [.ref (M.2.1 r2)]) (b := r1) (rest := []) o (tX3_save _ M _ r1 r2 S S3 hS3) eX3_save mX11_353 clX3 (kX3_save hS3) (by decide) rfl rfl (Nat.le_of_ble_eq_true rfl) dX11_beginAct_8 ?_
  refine x_aload_n (pc := 11) o dX11_beginAct_11 rfl rfl ?_
  obtain ⟨r4, hr4, h⟩ := xbs h
  refine gX11_49 (pc := 12) o dX11_beginAct_12 hr4 ?_
  obtain ⟨S5, hS5, h⟩ := xbs h
  refine x_callV (pc := 15) (As := []) (b := r4) (rest := []) o (tX0_forget _ M _ r4 S3 S5 hS5) eX0_forget mX11_324 clX0 (kX0_forget hS5) (by decide) rfl rfl (Nat.le_of_ble_eq_true rfl) dX11_beginAct_15 ?_
  exact x_vreturn (pc := 18) o hr dX11_beginAct_18 (Option.some.inj h)
def fX11_days_L38b (n : Nat) (k0 : Nat) (a1 : Int32) (rec : Int32 → xSt → Option (xSt)) (a2 : Int32) (S : xSt) : Option (xSt) :=
  if a1 ≤ a2 then
  (some S)
else
  ((xgF tC 11 6 k0 S).bind fun r7 =>
  (fX6_passDay n r7 ((0 : Int32)) S).bind fun S8 =>
  (some (a2 + (1 : Int32))).bind fun v9 =>
  rec v9 S8)
def fX11_days_L38 (n : Nat) (k0 : Nat) (a1 : Int32) : Nat → Int32 → xSt → Option (xSt)
  | 0 => fun _ _ => none
  | q + 1 => fX11_days_L38b n k0 a1 (fX11_days_L38 n k0 a1 q)
set_option maxHeartbeats 4000000 in
theorem tX11_days_L38b {Γ : xGm} {M : xMg} (o : xOk Γ tC M 6 cX11_days RX11) (hnL : Γ.2.2.2 = 3) {rec : Int32 → xSt → Option (xSt)} (n : Nat) (k0 : Nat) (a1 : Int32) (a2 : Int32) (S : xSt) (z : (xSt)) (hrec : ∀ (a2 : Int32) (S : xSt), rec a2 S = some z → xAt Γ tC M 38 (xlv [(0, .ref (M.2.1 k0)), (1, .int a1), (2, .int a2)]) [] S) (K : xAt Γ tC M 57 (xlv [(0, .ref (M.2.1 k0))]) [] z) (h : fX11_days_L38b n k0 a1 rec a2 S = some z) : xAt Γ tC M 38 (xlv [(0, .ref (M.2.1 k0)), (1, .int a1), (2, .int a2)]) [] S := by
  have hn2 : 2 < Γ.2.2.2 := by omega
  unfold fX11_days_L38b at h
  refine x_iload_n (pc := 38) o dX11_days_38 rfl rfl ?_
  refine x_iload_n (pc := 39) o dX11_days_39 rfl rfl ?_
  refine x_icmp_ge (pc := 40) (tgt := 57) o dX11_days_40 (by decide) (fun c10 => ?_) (fun c10 => ?_)
  · have h := xit h c10
    refine x_to (l := [(0, .ref (M.2.1 k0))]) ⟨rfl, trivial⟩ ?_
    cases Option.some.inj h
    exact K
  · have h := xif h c10
    refine x_aload_n (pc := 43) o dX11_days_43 rfl rfl ?_
    obtain ⟨r7, hr7, h⟩ := xbs h
    refine gX11_42 (pc := 44) o dX11_days_44 hr7 ?_
    refine x_iconst (pc := 47) o dX11_days_47 ic_0 ?_
    obtain ⟨S8, hS8, h⟩ := xbs h
    refine x_callV (pc := 48) (As := [.int ((0 : Int32))]) (b := r7) (rest := []) o (tX6_passDay _ M _ n r7 ((0 : Int32)) S S8 hS8) eX6_passDay mX11_304 clX6 (kX6_passDay hS8) (by decide) rfl rfl (Nat.le_of_ble_eq_true rfl) dX11_days_48 ?_
    obtain ⟨v9, hv9, h⟩ := xbs h
    refine x_iincE (pc := 51) o dX11_days_51 rfl ic_1 hn2 hv9 ?_
    refine x_goto (pc := 54) (tgt := 38) o dX11_days_54 (by decide) ?_
    refine x_to (l := [(0, .ref (M.2.1 k0)), (1, .int a1), (2, .int v9)]) ⟨rfl, rfl, rfl, trivial⟩ ?_
    exact hrec v9 S8 h
theorem tX11_days_L38 {Γ : xGm} {M : xMg} (o : xOk Γ tC M 6 cX11_days RX11) (hnL : Γ.2.2.2 = 3) (n : Nat) (k0 : Nat) (a1 : Int32) (z : (xSt)) (K : xAt Γ tC M 57 (xlv [(0, .ref (M.2.1 k0))]) [] z) : ∀ (q : Nat) (a2 : Int32) (S : xSt), fX11_days_L38 n k0 a1 q a2 S = some z → xAt Γ tC M 38 (xlv [(0, .ref (M.2.1 k0)), (1, .int a1), (2, .int a2)]) [] S := by
  intro q
  induction q with
  | zero => intro a2 S h; cases h
  | succ q ih => intro a2 S h; exact tX11_days_L38b o hnL n k0 a1 a2 S z ih K h
def fX11_days (n : Nat) (k0 : Nat) (a1 : Int32) (S : xSt) : Option (Int32 × xSt) :=
  if tC.1 k0 = 11 then
  ((fX11_canPass k0 a1 ((100 : Int32)) S).bind fun v1 =>
  if v1 = 0 then
  ((fX11_refuse k0 ((2 : Int32)) S).bind fun q14 =>
  some (q14.1, q14.2))
else
  ((fX11_beginAct k0 S).bind fun S2 =>
  (xgF tC 11 6 k0 S2).bind fun r3 =>
  (xgM tC 11 2 k0 S2).bind fun r4 =>
  (xgF tC 11 4 k0 S2).bind fun r5 =>
  (fX6_open n r3 r4 r5 ((1 : Int32)) S2).bind fun S6 =>
  (fX11_days_L38 n k0 a1 n ((0 : Int32)) S6).bind fun z11 => (xgF tC 11 6 k0 z11).bind fun r12 =>
  (xgI tC 6 10 r12 z11).bind fun v13 =>
  some (v13, z11)))
  else none
theorem kX11_days {z : Int32 × xSt} {n : Nat} {k0 : Nat} {a1 : Int32} {S : xSt} (h : fX11_days n k0 a1 S = some z) : tC.1 k0 = 11 := by
  unfold fX11_days at h
  exact (xck h).1
set_option maxHeartbeats 4000000 in
theorem tX11_days (l : Launch) (M : xMg) (A : Nat → Prop) (n : Nat) (k0 : Nat) (a1 : Int32) (S : xSt) (z : Int32 × xSt) (h : fX11_days n k0 a1 S = some z) : xMI l yX11_days cX11_days 3 (some .int) 6 tC M A [.ref (M.2.1 k0), .int a1] S z.1 z.2 := by
  refine x_metI (plainFor_of_name (by decide)) tC_ok (Nat.le_of_ble_eq_true rfl) (fun Γ hA hnL hl hr o => ?_)
  subst hA; subst hl
  have o : xOk Γ tC M 6 cX11_days RX11 := o
  unfold fX11_days at h
  obtain ⟨hk0, h⟩ := xck h
  refine x_to (l := [(0, .ref (M.2.1 k0)), (1, .int a1)]) ⟨rfl, rfl, trivial⟩ ?_
  have hn2 : 2 < Γ.2.2.2 := by omega
  refine x_aload_n (pc := 0) o dX11_days_0 rfl rfl ?_
  refine x_iload_n (pc := 1) o dX11_days_1 rfl rfl ?_
  refine x_bipush (pc := 2) o dX11_days_2 bp_100 ?_
  obtain ⟨v1, hv1, h⟩ := xbs h
  refine x_callI (pc := 4) (As := [.int a1, .int ((100 : Int32))]) (b := k0) (rest := []) o (tX11_canPass _ M _ k0 a1 ((100 : Int32)) S v1 hv1) eX11_canPass mX11_220 clX11 (kX11_canPass hv1) (by decide) rfl rfl (Nat.le_of_ble_eq_true rfl) dX11_days_4 ?_
  refine x_if_ne (pc := 7) (tgt := 16) o dX11_days_7 (by decide) (fun c15 => ?_) (fun c15 => ?_)
  · have h := xif h c15
    refine x_aload_n (pc := 16) o dX11_days_16 rfl rfl ?_
    obtain ⟨S2, hS2, h⟩ := xbs h
    refine x_callV (pc := 17) (As := []) (b := k0) (rest := []) o (tX11_beginAct _ M _ k0 S S2 hS2) eX11_beginAct mX11_297 clX11 (kX11_beginAct hS2) (by decide) rfl rfl (Nat.le_of_ble_eq_true rfl) dX11_days_17 ?_
    refine x_aload_n (pc := 20) o dX11_days_20 rfl rfl ?_
    obtain ⟨r3, hr3, h⟩ := xbs h
    refine gX11_42 (pc := 21) o dX11_days_21 hr3 ?_
    refine x_aload_n (pc := 24) o dX11_days_24 rfl rfl ?_
    obtain ⟨r4, hr4, h⟩ := xbs h
    refine gX11_16 (pc := 25) o dX11_days_25 hr4 ?_
    refine x_aload_n (pc := 28) o dX11_days_28 rfl rfl ?_
    obtain ⟨r5, hr5, h⟩ := xbs h
    refine gX11_26 (pc := 29) o dX11_days_29 hr5 ?_
    refine x_iconst (pc := 32) o dX11_days_32 ic_1 ?_
    obtain ⟨S6, hS6, h⟩ := xbs h
    refine x_callV (pc := 33) (As := [.ref (M.2.1 r4), .ref (M.2.1 r5), .int ((1 : Int32))]) (b := r3) (rest := []) o (tX6_open _ M _ n r3 r4 r5 ((1 : Int32)) S2 S6 hS6) eX6_open mX11_300 clX6 (kX6_open hS6) (by decide) rfl rfl (Nat.le_of_ble_eq_true rfl) dX11_days_33 ?_
    refine x_iconst (pc := 36) o dX11_days_36 ic_0 ?_
    refine x_istore_n (pc := 37) o dX11_days_37 rfl hn2 ?_
    obtain ⟨z11, hz11, h⟩ := xbs h
    refine x_to (l := [(0, .ref (M.2.1 k0)), (1, .int a1), (2, .int ((0 : Int32)))]) ⟨rfl, rfl, rfl, trivial⟩ ?_
    refine tX11_days_L38 o hnL n k0 a1 z11 ?_ n ((0 : Int32)) S6 hz11
    refine x_aload_n (pc := 57) o dX11_days_57 rfl rfl ?_
    obtain ⟨r12, hr12, h⟩ := xbs h
    refine gX11_42 (pc := 58) o dX11_days_58 hr12 ?_
    obtain ⟨v13, hv13, h⟩ := xbs h
    refine gX11_307 (pc := 61) o dX11_days_61 hv13 ?_
    exact x_ireturn (pc := 64) o hr dX11_days_64 (xr1 h) (xr2 h)
  · have h := xit h c15
    refine x_aload_n (pc := 10) o dX11_days_10 rfl rfl ?_
    refine x_iconst (pc := 11) o dX11_days_11 ic_2 ?_
    obtain ⟨q14, hq14, h⟩ := xbs h
    refine x_callI (pc := 12) (As := [.int ((2 : Int32))]) (b := k0) (rest := []) o (tX11_refuse _ M _ k0 ((2 : Int32)) S q14 hq14) eX11_refuse mX11_98 clX11 (kX11_refuse hq14) (by decide) rfl rfl (Nat.le_of_ble_eq_true rfl) dX11_days_12 ?_
    exact x_ireturn (pc := 15) o hr dX11_days_15 (xr1 h) (xr2 h)
def fX11_draw (k0 : Nat) (a1 : Int32) (S : xSt) : Option (Int32 × xSt) :=
  if tC.1 k0 = 11 then
  ((xgI tC 11 15 k0 S).bind fun v1 =>
  (xpI tC 11 15 k0 ((((((1103515245 : Int64)) * v1.toInt64) + ((12345 : Int64))) &&& ((2147483647 : Int64))).toInt32) S).bind fun S2 =>
  if a1 ≤ 0 then
  (some ((0 : Int32), S2))
else
  ((xgI tC 11 15 k0 S2).bind fun v3 =>
  if ((64 : Int32)) = 0 then none else
  if a1 = 0 then none else
  some ((v3 / ((64 : Int32))) - (v3 / ((64 : Int32))) / a1 * a1, S2)))
  else none
theorem kX11_draw {z : Int32 × xSt} {k0 : Nat} {a1 : Int32} {S : xSt} (h : fX11_draw k0 a1 S = some z) : tC.1 k0 = 11 := by
  unfold fX11_draw at h
  exact (xck h).1
set_option maxHeartbeats 4000000 in
theorem tX11_draw (l : Launch) (M : xMg) (A : Nat → Prop) (k0 : Nat) (a1 : Int32) (S : xSt) (z : Int32 × xSt) (h : fX11_draw k0 a1 S = some z) : xMI l yX11_draw cX11_draw 2 (some .int) 1 tC M A [.ref (M.2.1 k0), .int a1] S z.1 z.2 := by
  refine x_metI (plainFor_of_name (by decide)) tC_ok (Nat.le_of_ble_eq_true rfl) (fun Γ hA hnL hl hr o => ?_)
  subst hA; subst hl
  have o : xOk Γ tC M 1 cX11_draw RX11 := o
  unfold fX11_draw at h
  obtain ⟨hk0, h⟩ := xck h
  refine x_to (l := [(0, .ref (M.2.1 k0)), (1, .int a1)]) ⟨rfl, rfl, trivial⟩ ?_
  refine x_aload_n (pc := 0) o dX11_draw_0 rfl rfl ?_
  refine x_ldc2 (pc := 1) o kcX11_356 dX11_draw_1 ?_
  refine x_aload_n (pc := 4) o dX11_draw_4 rfl rfl ?_
  obtain ⟨v1, hv1, h⟩ := xbs h
  refine gX11_91 (pc := 5) o dX11_draw_5 hv1 ?_
  refine x_i2l (pc := 8) o dX11_draw_8 ?_
  refine x_lmul (pc := 9) o dX11_draw_9 ?_
  refine x_ldc2 (pc := 10) o kcX11_358 dX11_draw_10 ?_
  refine x_ladd (pc := 13) o dX11_draw_13 ?_
  refine x_ldc2 (pc := 14) o kcX11_360 dX11_draw_14 ?_
  refine x_land (pc := 17) o dX11_draw_17 ?_
  refine x_l2i (pc := 18) o dX11_draw_18 ?_
  obtain ⟨S2, hS2, h⟩ := xbs h
  refine pX11_91 (pc := 19) o dX11_draw_19 hS2 ?_
  refine x_iload_n (pc := 22) o dX11_draw_22 rfl rfl ?_
  refine x_if_le (pc := 23) (tgt := 38) o dX11_draw_23 (by decide) (fun c4 => ?_) (fun c4 => ?_)
  · have h := xit h c4
    refine x_iconst (pc := 38) o dX11_draw_38 ic_0 ?_
    exact x_ireturn (pc := 39) o hr dX11_draw_39 (xr1 h) (xr2 h)
  · have h := xif h c4
    refine x_aload_n (pc := 26) o dX11_draw_26 rfl rfl ?_
    obtain ⟨v3, hv3, h⟩ := xbs h
    refine gX11_91 (pc := 27) o dX11_draw_27 hv3 ?_
    refine x_bipush (pc := 30) o dX11_draw_30 bp_64 ?_
    obtain ⟨hq, h⟩ := xcn h
    refine x_idiv (pc := 32) o dX11_draw_32 hq ?_
    refine x_iload_n (pc := 33) o dX11_draw_33 rfl rfl ?_
    obtain ⟨hq, h⟩ := xcn h
    refine x_irem (pc := 34) o dX11_draw_34 hq ?_
    refine x_goto (pc := 35) (tgt := 39) o dX11_draw_35 (by decide) ?_
    exact x_ireturn (pc := 39) o hr dX11_draw_39 (xr1 h) (xr2 h)
def fX11_chance_L40b (n : Nat) (k0 : Nat) (a1 : Int32) (rec : Int32 → Int32 → xSt → Option (Int32 × xSt)) (a2 : Int32) (a3 : Int32) (S : xSt) : Option (Int32 × xSt) :=
  if a1 ≤ a3 then
  (some (a2, S))
else
  ((fX11_draw k0 ((100 : Int32)) S).bind fun q7 =>
  (xgM tC 11 2 k0 q7.2).bind fun r8 =>
  (xgI tC 9 18 r8 q7.2).bind fun v9 =>
  if v9 ≤ q7.1 then
  ((some (a2 + ((0 : Int32)))).bind fun v10 =>
  (xgF tC 11 6 k0 q7.2).bind fun r11 =>
  (fX6_passDay n r11 ((0 : Int32)) q7.2).bind fun S12 =>
  (some (a3 + (1 : Int32))).bind fun v13 =>
  rec v10 v13 S12)
else
  ((some (a2 + ((1 : Int32)))).bind fun v14 =>
  (xgF tC 11 6 k0 q7.2).bind fun r15 =>
  (fX6_passDay n r15 ((1 : Int32)) q7.2).bind fun S16 =>
  (some (a3 + (1 : Int32))).bind fun v17 =>
  rec v14 v17 S16))
def fX11_chance_L40 (n : Nat) (k0 : Nat) (a1 : Int32) : Nat → Int32 → Int32 → xSt → Option (Int32 × xSt)
  | 0 => fun _ _ _ => none
  | q + 1 => fX11_chance_L40b n k0 a1 (fX11_chance_L40 n k0 a1 q)
set_option maxHeartbeats 4000000 in
theorem tX11_chance_L40b {Γ : xGm} {M : xMg} (o : xOk Γ tC M 6 cX11_chance RX11) (hnL : Γ.2.2.2 = 5) {rec : Int32 → Int32 → xSt → Option (Int32 × xSt)} (n : Nat) (k0 : Nat) (a1 : Int32) (a2 : Int32) (a3 : Int32) (S : xSt) (z : (Int32 × xSt)) (hrec : ∀ (a2 : Int32) (a3 : Int32) (S : xSt), rec a2 a3 S = some z → xAt Γ tC M 40 (xlv [(0, .ref (M.2.1 k0)), (1, .int a1), (2, .int a2), (3, .int a3)]) [] S) (K : xAt Γ tC M 88 (xlv [(2, .int z.1)]) [] z.2) (h : fX11_chance_L40b n k0 a1 rec a2 a3 S = some z) : xAt Γ tC M 40 (xlv [(0, .ref (M.2.1 k0)), (1, .int a1), (2, .int a2), (3, .int a3)]) [] S := by
  have hn2 : 2 < Γ.2.2.2 := by omega
  have hn3 : 3 < Γ.2.2.2 := by omega
  have hn4 : 4 < Γ.2.2.2 := by omega
  unfold fX11_chance_L40b at h
  refine x_iload_n (pc := 40) o dX11_chance_40 rfl rfl ?_
  refine x_iload_n (pc := 41) o dX11_chance_41 rfl rfl ?_
  refine x_icmp_ge (pc := 42) (tgt := 88) o dX11_chance_42 (by decide) (fun c19 => ?_) (fun c19 => ?_)
  · have h := xit h c19
    refine x_to (l := [(2, .int a2)]) ⟨rfl, trivial⟩ ?_
    cases Option.some.inj h
    exact K
  · have h := xif h c19
    refine x_aload_n (pc := 45) o dX11_chance_45 rfl rfl ?_
    refine x_bipush (pc := 46) o dX11_chance_46 bp_100 ?_
    obtain ⟨q7, hq7, h⟩ := xbs h
    refine x_callI (pc := 48) (As := [.int ((100 : Int32))]) (b := k0) (rest := []) o (tX11_draw _ M _ k0 ((100 : Int32)) S q7 hq7) eX11_draw mX11_310 clX11 (kX11_draw hq7) (by decide) rfl rfl (Nat.le_of_ble_eq_true rfl) dX11_chance_48 ?_
    refine x_aload_n (pc := 51) o dX11_chance_51 rfl rfl ?_
    obtain ⟨r8, hr8, h⟩ := xbs h
    refine gX11_16 (pc := 52) o dX11_chance_52 hr8 ?_
    obtain ⟨v9, hv9, h⟩ := xbs h
    refine gX11_313 (pc := 55) o dX11_chance_55 hv9 ?_
    refine x_icmp_ge (pc := 58) (tgt := 65) o dX11_chance_58 (by decide) (fun c18 => ?_) (fun c18 => ?_)
    · have h := xit h c18
      refine x_iconst (pc := 65) o dX11_chance_65 ic_0 ?_
      refine x_istore (pc := 66) o dX11_chance_66 hn4 ?_
      refine x_iload_n (pc := 68) o dX11_chance_68 rfl rfl ?_
      refine x_iload (pc := 69) o dX11_chance_69 rfl ?_
      refine x_iadd (pc := 71) o dX11_chance_71 ?_
      obtain ⟨v10, hv10, h⟩ := xbs h
      refine x_istore_nE (pc := 72) o dX11_chance_72 rfl hn2 hv10 ?_
      refine x_aload_n (pc := 73) o dX11_chance_73 rfl rfl ?_
      obtain ⟨r11, hr11, h⟩ := xbs h
      refine gX11_42 (pc := 74) o dX11_chance_74 hr11 ?_
      refine x_iload (pc := 77) o dX11_chance_77 rfl ?_
      obtain ⟨S12, hS12, h⟩ := xbs h
      refine x_callV (pc := 79) (As := [.int ((0 : Int32))]) (b := r11) (rest := []) o (tX6_passDay _ M _ n r11 ((0 : Int32)) q7.2 S12 hS12) eX6_passDay mX11_304 clX6 (kX6_passDay hS12) (by decide) rfl rfl (Nat.le_of_ble_eq_true rfl) dX11_chance_79 ?_
      obtain ⟨v13, hv13, h⟩ := xbs h
      refine x_iincE (pc := 82) o dX11_chance_82 rfl ic_1 hn3 hv13 ?_
      refine x_goto (pc := 85) (tgt := 40) o dX11_chance_85 (by decide) ?_
      refine x_to (l := [(0, .ref (M.2.1 k0)), (1, .int a1), (2, .int v10), (3, .int v13)]) ⟨rfl, rfl, rfl, rfl, trivial⟩ ?_
      exact hrec v10 v13 S12 h
    · have h := xif h c18
      refine x_iconst (pc := 61) o dX11_chance_61 ic_1 ?_
      refine x_goto (pc := 62) (tgt := 66) o dX11_chance_62 (by decide) ?_
      refine x_istore (pc := 66) o dX11_chance_66 hn4 ?_
      refine x_iload_n (pc := 68) o dX11_chance_68 rfl rfl ?_
      refine x_iload (pc := 69) o dX11_chance_69 rfl ?_
      refine x_iadd (pc := 71) o dX11_chance_71 ?_
      obtain ⟨v14, hv14, h⟩ := xbs h
      refine x_istore_nE (pc := 72) o dX11_chance_72 rfl hn2 hv14 ?_
      refine x_aload_n (pc := 73) o dX11_chance_73 rfl rfl ?_
      obtain ⟨r15, hr15, h⟩ := xbs h
      refine gX11_42 (pc := 74) o dX11_chance_74 hr15 ?_
      refine x_iload (pc := 77) o dX11_chance_77 rfl ?_
      obtain ⟨S16, hS16, h⟩ := xbs h
      refine x_callV (pc := 79) (As := [.int ((1 : Int32))]) (b := r15) (rest := []) o (tX6_passDay _ M _ n r15 ((1 : Int32)) q7.2 S16 hS16) eX6_passDay mX11_304 clX6 (kX6_passDay hS16) (by decide) rfl rfl (Nat.le_of_ble_eq_true rfl) dX11_chance_79 ?_
      obtain ⟨v17, hv17, h⟩ := xbs h
      refine x_iincE (pc := 82) o dX11_chance_82 rfl ic_1 hn3 hv17 ?_
      refine x_goto (pc := 85) (tgt := 40) o dX11_chance_85 (by decide) ?_
      refine x_to (l := [(0, .ref (M.2.1 k0)), (1, .int a1), (2, .int v14), (3, .int v17)]) ⟨rfl, rfl, rfl, rfl, trivial⟩ ?_
      exact hrec v14 v17 S16 h
theorem tX11_chance_L40 {Γ : xGm} {M : xMg} (o : xOk Γ tC M 6 cX11_chance RX11) (hnL : Γ.2.2.2 = 5) (n : Nat) (k0 : Nat) (a1 : Int32) (z : (Int32 × xSt)) (K : xAt Γ tC M 88 (xlv [(2, .int z.1)]) [] z.2) : ∀ (q : Nat) (a2 : Int32) (a3 : Int32) (S : xSt), fX11_chance_L40 n k0 a1 q a2 a3 S = some z → xAt Γ tC M 40 (xlv [(0, .ref (M.2.1 k0)), (1, .int a1), (2, .int a2), (3, .int a3)]) [] S := by
  intro q
  induction q with
  | zero => intro a2 a3 S h; cases h
  | succ q ih => intro a2 a3 S h; exact tX11_chance_L40b o hnL n k0 a1 a2 a3 S z ih K h
def fX11_chance (n : Nat) (k0 : Nat) (a1 : Int32) (S : xSt) : Option (Int32 × xSt) :=
  if tC.1 k0 = 11 then
  ((fX11_canPass k0 a1 ((100 : Int32)) S).bind fun v1 =>
  if v1 = 0 then
  ((fX11_refuse k0 ((2 : Int32)) S).bind fun q21 =>
  some (q21.1, q21.2))
else
  ((fX11_beginAct k0 S).bind fun S2 =>
  (xgF tC 11 6 k0 S2).bind fun r3 =>
  (xgM tC 11 2 k0 S2).bind fun r4 =>
  (xgF tC 11 4 k0 S2).bind fun r5 =>
  (fX6_open n r3 r4 r5 ((1 : Int32)) S2).bind fun S6 =>
  (fX11_chance_L40 n k0 a1 n ((0 : Int32)) ((0 : Int32)) S6).bind fun z20 => some (z20.1, z20.2)))
  else none
theorem kX11_chance {z : Int32 × xSt} {n : Nat} {k0 : Nat} {a1 : Int32} {S : xSt} (h : fX11_chance n k0 a1 S = some z) : tC.1 k0 = 11 := by
  unfold fX11_chance at h
  exact (xck h).1
set_option maxHeartbeats 4000000 in
theorem tX11_chance (l : Launch) (M : xMg) (A : Nat → Prop) (n : Nat) (k0 : Nat) (a1 : Int32) (S : xSt) (z : Int32 × xSt) (h : fX11_chance n k0 a1 S = some z) : xMI l yX11_chance cX11_chance 5 (some .int) 6 tC M A [.ref (M.2.1 k0), .int a1] S z.1 z.2 := by
  refine x_metI (plainFor_of_name (by decide)) tC_ok (Nat.le_of_ble_eq_true rfl) (fun Γ hA hnL hl hr o => ?_)
  subst hA; subst hl
  have o : xOk Γ tC M 6 cX11_chance RX11 := o
  unfold fX11_chance at h
  obtain ⟨hk0, h⟩ := xck h
  refine x_to (l := [(0, .ref (M.2.1 k0)), (1, .int a1)]) ⟨rfl, rfl, trivial⟩ ?_
  have hn2 : 2 < Γ.2.2.2 := by omega
  have hn3 : 3 < Γ.2.2.2 := by omega
  refine x_aload_n (pc := 0) o dX11_chance_0 rfl rfl ?_
  refine x_iload_n (pc := 1) o dX11_chance_1 rfl rfl ?_
  refine x_bipush (pc := 2) o dX11_chance_2 bp_100 ?_
  obtain ⟨v1, hv1, h⟩ := xbs h
  refine x_callI (pc := 4) (As := [.int a1, .int ((100 : Int32))]) (b := k0) (rest := []) o (tX11_canPass _ M _ k0 a1 ((100 : Int32)) S v1 hv1) eX11_canPass mX11_220 clX11 (kX11_canPass hv1) (by decide) rfl rfl (Nat.le_of_ble_eq_true rfl) dX11_chance_4 ?_
  refine x_if_ne (pc := 7) (tgt := 16) o dX11_chance_7 (by decide) (fun c22 => ?_) (fun c22 => ?_)
  · have h := xif h c22
    refine x_aload_n (pc := 16) o dX11_chance_16 rfl rfl ?_
    obtain ⟨S2, hS2, h⟩ := xbs h
    refine x_callV (pc := 17) (As := []) (b := k0) (rest := []) o (tX11_beginAct _ M _ k0 S S2 hS2) eX11_beginAct mX11_297 clX11 (kX11_beginAct hS2) (by decide) rfl rfl (Nat.le_of_ble_eq_true rfl) dX11_chance_17 ?_
    refine x_aload_n (pc := 20) o dX11_chance_20 rfl rfl ?_
    obtain ⟨r3, hr3, h⟩ := xbs h
    refine gX11_42 (pc := 21) o dX11_chance_21 hr3 ?_
    refine x_aload_n (pc := 24) o dX11_chance_24 rfl rfl ?_
    obtain ⟨r4, hr4, h⟩ := xbs h
    refine gX11_16 (pc := 25) o dX11_chance_25 hr4 ?_
    refine x_aload_n (pc := 28) o dX11_chance_28 rfl rfl ?_
    obtain ⟨r5, hr5, h⟩ := xbs h
    refine gX11_26 (pc := 29) o dX11_chance_29 hr5 ?_
    refine x_iconst (pc := 32) o dX11_chance_32 ic_1 ?_
    obtain ⟨S6, hS6, h⟩ := xbs h
    refine x_callV (pc := 33) (As := [.ref (M.2.1 r4), .ref (M.2.1 r5), .int ((1 : Int32))]) (b := r3) (rest := []) o (tX6_open _ M _ n r3 r4 r5 ((1 : Int32)) S2 S6 hS6) eX6_open mX11_300 clX6 (kX6_open hS6) (by decide) rfl rfl (Nat.le_of_ble_eq_true rfl) dX11_chance_33 ?_
    refine x_iconst (pc := 36) o dX11_chance_36 ic_0 ?_
    refine x_istore_n (pc := 37) o dX11_chance_37 rfl hn2 ?_
    refine x_iconst (pc := 38) o dX11_chance_38 ic_0 ?_
    refine x_istore_n (pc := 39) o dX11_chance_39 rfl hn3 ?_
    obtain ⟨z20, hz20, h⟩ := xbs h
    refine x_to (l := [(0, .ref (M.2.1 k0)), (1, .int a1), (2, .int ((0 : Int32))), (3, .int ((0 : Int32)))]) ⟨rfl, rfl, rfl, rfl, trivial⟩ ?_
    refine tX11_chance_L40 o hnL n k0 a1 z20 ?_ n ((0 : Int32)) ((0 : Int32)) S6 hz20
    refine x_iload_n (pc := 88) o dX11_chance_88 rfl rfl ?_
    exact x_ireturn (pc := 89) o hr dX11_chance_89 (xr1 h) (xr2 h)
  · have h := xit h c22
    refine x_aload_n (pc := 10) o dX11_chance_10 rfl rfl ?_
    refine x_iconst (pc := 11) o dX11_chance_11 ic_2 ?_
    obtain ⟨q21, hq21, h⟩ := xbs h
    refine x_callI (pc := 12) (As := [.int ((2 : Int32))]) (b := k0) (rest := []) o (tX11_refuse _ M _ k0 ((2 : Int32)) S q21 hq21) eX11_refuse mX11_98 clX11 (kX11_refuse hq21) (by decide) rfl rfl (Nat.le_of_ble_eq_true rfl) dX11_chance_12 ?_
    exact x_ireturn (pc := 15) o hr dX11_chance_15 (xr1 h) (xr2 h)
def fX11_hold_B26 (k0 : Nat) (a1 : Int32) (a2 : Int32) (s0 : Int32) (S : xSt) : Option (Int32 × xSt) :=
  if s0 = 0 then
  ((fX11_turnDown k0 ((3 : Int32)) S).bind fun q3 =>
  if q3.1 = 0 ∨ q3.1 = 1 then (some (q3.1, q3.2)) else none)
else
  ((xgF tC 11 4 k0 S).bind fun r4 =>
  (xgI tC 8 3 r4 S).bind fun v5 =>
  if ((v5 >>> (a1 &&& 31)) &&& ((1 : Int32))) = a2 then
  ((fX11_turnDown k0 ((3 : Int32)) S).bind fun q10 =>
  if q10.1 = 0 ∨ q10.1 = 1 then (some (q10.1, q10.2)) else none)
else
  ((fX11_beginAct k0 S).bind fun S6 =>
  (xgF tC 11 4 k0 S6).bind fun r7 =>
  (xgI tC 8 3 r7 S6).bind fun v8 =>
  (xpI tC 8 3 r7 (v8 ^^^ (((1 : Int32)) <<< (a1 &&& 31))) S6).bind fun S9 =>
  some ((1 : Int32), S9)))
set_option maxHeartbeats 4000000 in
theorem tX11_hold_B26 {Γ : xGm} {M : xMg} (o : xOk Γ tC M 5 cX11_hold RX11) (hnL : Γ.2.2.2 = 4) (k0 : Nat) (a1 : Int32) (a2 : Int32) (s0 : Int32) (S : xSt) (z : (Int32 × xSt)) (hr : xRI Γ tC M (some .boolean) z.1 z.2) (h : fX11_hold_B26 k0 a1 a2 s0 S = some z) : xAt Γ tC M 26 (xlv [(0, .ref (M.2.1 k0)), (1, .int a1), (2, .int a2)]) [.int s0] S := by
  have hn3 : 3 < Γ.2.2.2 := by omega
  unfold fX11_hold_B26 at h
  refine x_istore_n (pc := 26) o dX11_hold_26 rfl hn3 ?_
  refine x_iload_n (pc := 27) o dX11_hold_27 rfl rfl ?_
  refine x_if_eq (pc := 28) (tgt := 46) o dX11_hold_28 (by decide) (fun c12 => ?_) (fun c12 => ?_)
  · have h := xit h c12
    refine x_aload_n (pc := 46) o dX11_hold_46 rfl rfl ?_
    refine x_iconst (pc := 47) o dX11_hold_47 ic_3 ?_
    obtain ⟨q3, hq3, h⟩ := xbs h
    refine x_callI (pc := 48) (As := [.int ((3 : Int32))]) (b := k0) (rest := []) o (tX11_turnDown _ M _ k0 ((3 : Int32)) S q3 hq3) eX11_turnDown mX11_106 clX11 (kX11_turnDown hq3) (by decide) rfl rfl (Nat.le_of_ble_eq_true rfl) dX11_hold_48 ?_
    obtain ⟨hz, h⟩ := xck h
    exact x_zreturn (pc := 51) o hr dX11_hold_51 hz (xr1 h) (xr2 h)
  · have h := xif h c12
    refine x_aload_n (pc := 31) o dX11_hold_31 rfl rfl ?_
    obtain ⟨r4, hr4, h⟩ := xbs h
    refine gX11_26 (pc := 32) o dX11_hold_32 hr4 ?_
    obtain ⟨v5, hv5, h⟩ := xbs h
    refine gX11_154 (pc := 35) o dX11_hold_35 hv5 ?_
    refine x_iload_n (pc := 38) o dX11_hold_38 rfl rfl ?_
    refine x_ishr (pc := 39) o dX11_hold_39 ?_
    refine x_iconst (pc := 40) o dX11_hold_40 ic_1 ?_
    refine x_iand (pc := 41) o dX11_hold_41 ?_
    refine x_iload_n (pc := 42) o dX11_hold_42 rfl rfl ?_
    refine x_icmp_ne (pc := 43) (tgt := 52) o dX11_hold_43 (by decide) (fun c11 => ?_) (fun c11 => ?_)
    · have h := xif h c11
      refine x_aload_n (pc := 52) o dX11_hold_52 rfl rfl ?_
      obtain ⟨S6, hS6, h⟩ := xbs h
      refine x_callV (pc := 53) (As := []) (b := k0) (rest := []) o (tX11_beginAct _ M _ k0 S S6 hS6) eX11_beginAct mX11_297 clX11 (kX11_beginAct hS6) (by decide) rfl rfl (Nat.le_of_ble_eq_true rfl) dX11_hold_53 ?_
      refine x_aload_n (pc := 56) o dX11_hold_56 rfl rfl ?_
      obtain ⟨r7, hr7, h⟩ := xbs h
      refine gX11_26 (pc := 57) o dX11_hold_57 hr7 ?_
      refine x_dup (pc := 60) o dX11_hold_60 rfl ?_
      obtain ⟨v8, hv8, h⟩ := xbs h
      refine gX11_154 (pc := 61) o dX11_hold_61 hv8 ?_
      refine x_iconst (pc := 64) o dX11_hold_64 ic_1 ?_
      refine x_iload_n (pc := 65) o dX11_hold_65 rfl rfl ?_
      refine x_ishl (pc := 66) o dX11_hold_66 ?_
      refine x_ixor (pc := 67) o dX11_hold_67 ?_
      obtain ⟨S9, hS9, h⟩ := xbs h
      refine pX11_154 (pc := 68) o dX11_hold_68 hS9 ?_
      refine x_iconst (pc := 71) o dX11_hold_71 ic_1 ?_
      exact x_zreturn (pc := 72) o hr dX11_hold_72 (by decide) (xr1 h) (xr2 h)
    · have h := xit h c11
      refine x_aload_n (pc := 46) o dX11_hold_46 rfl rfl ?_
      refine x_iconst (pc := 47) o dX11_hold_47 ic_3 ?_
      obtain ⟨q10, hq10, h⟩ := xbs h
      refine x_callI (pc := 48) (As := [.int ((3 : Int32))]) (b := k0) (rest := []) o (tX11_turnDown _ M _ k0 ((3 : Int32)) S q10 hq10) eX11_turnDown mX11_106 clX11 (kX11_turnDown hq10) (by decide) rfl rfl (Nat.le_of_ble_eq_true rfl) dX11_hold_48 ?_
      obtain ⟨hz, h⟩ := xck h
      exact x_zreturn (pc := 51) o hr dX11_hold_51 hz (xr1 h) (xr2 h)
def fX11_hold_B25 (k0 : Nat) (a1 : Int32) (a2 : Int32) (S : xSt) : Option (Int32 × xSt) :=
  fX11_hold_B26 k0 a1 a2 ((0 : Int32)) S
set_option maxHeartbeats 4000000 in
theorem tX11_hold_B25 {Γ : xGm} {M : xMg} (o : xOk Γ tC M 5 cX11_hold RX11) (hnL : Γ.2.2.2 = 4) (k0 : Nat) (a1 : Int32) (a2 : Int32) (S : xSt) (z : (Int32 × xSt)) (hr : xRI Γ tC M (some .boolean) z.1 z.2) (h : fX11_hold_B25 k0 a1 a2 S = some z) : xAt Γ tC M 25 (xlv [(0, .ref (M.2.1 k0)), (1, .int a1), (2, .int a2)]) [] S := by
  unfold fX11_hold_B25 at h
  refine x_iconst (pc := 25) o dX11_hold_25 ic_0 ?_
  refine x_to (l := [(0, .ref (M.2.1 k0)), (1, .int a1), (2, .int a2)]) ⟨rfl, rfl, rfl, trivial⟩ ?_
  exact tX11_hold_B26 o hnL k0 a1 a2 ((0 : Int32)) S z hr h
def fX11_hold_B21 (k0 : Nat) (a1 : Int32) (a2 : Int32) (S : xSt) : Option (Int32 × xSt) :=
  fX11_hold_B26 k0 a1 a2 ((1 : Int32)) S
set_option maxHeartbeats 4000000 in
theorem tX11_hold_B21 {Γ : xGm} {M : xMg} (o : xOk Γ tC M 5 cX11_hold RX11) (hnL : Γ.2.2.2 = 4) (k0 : Nat) (a1 : Int32) (a2 : Int32) (S : xSt) (z : (Int32 × xSt)) (hr : xRI Γ tC M (some .boolean) z.1 z.2) (h : fX11_hold_B21 k0 a1 a2 S = some z) : xAt Γ tC M 21 (xlv [(0, .ref (M.2.1 k0)), (1, .int a1), (2, .int a2)]) [] S := by
  unfold fX11_hold_B21 at h
  refine x_iconst (pc := 21) o dX11_hold_21 ic_1 ?_
  refine x_goto (pc := 22) (tgt := 26) o dX11_hold_22 (by decide) ?_
  refine x_to (l := [(0, .ref (M.2.1 k0)), (1, .int a1), (2, .int a2)]) ⟨rfl, rfl, rfl, trivial⟩ ?_
  exact tX11_hold_B26 o hnL k0 a1 a2 ((1 : Int32)) S z hr h
def fX11_hold (k0 : Nat) (a1 : Int32) (a2 : Int32) (S : xSt) : Option (Int32 × xSt) :=
  if tC.1 k0 = 11 then
  ((xgM tC 11 2 k0 S).bind fun r1 =>
  (fX9_holds r1 ((1 : Int32)) a1 S).bind fun v2 =>
  if v2 = 0 then
  (fX11_hold_B25 k0 a1 a2 S)
else
  (if a2 = 0 then
  (fX11_hold_B21 k0 a1 a2 S)
else
  (if a2 = ((1 : Int32)) then
  (fX11_hold_B21 k0 a1 a2 S)
else
  (fX11_hold_B25 k0 a1 a2 S))))
  else none
theorem kX11_hold {z : Int32 × xSt} {k0 : Nat} {a1 : Int32} {a2 : Int32} {S : xSt} (h : fX11_hold k0 a1 a2 S = some z) : tC.1 k0 = 11 := by
  unfold fX11_hold at h
  exact (xck h).1
set_option maxHeartbeats 4000000 in
theorem tX11_hold (l : Launch) (M : xMg) (A : Nat → Prop) (k0 : Nat) (a1 : Int32) (a2 : Int32) (S : xSt) (z : Int32 × xSt) (h : fX11_hold k0 a1 a2 S = some z) : xMI l yX11_hold cX11_hold 4 (some .boolean) 5 tC M A [.ref (M.2.1 k0), .int a1, .int a2] S z.1 z.2 := by
  refine x_metI (plainFor_of_name (by decide)) tC_ok (Nat.le_of_ble_eq_true rfl) (fun Γ hA hnL hl hr o => ?_)
  subst hA; subst hl
  have o : xOk Γ tC M 5 cX11_hold RX11 := o
  unfold fX11_hold at h
  obtain ⟨hk0, h⟩ := xck h
  refine x_to (l := [(0, .ref (M.2.1 k0)), (1, .int a1), (2, .int a2)]) ⟨rfl, rfl, rfl, trivial⟩ ?_
  refine x_aload_n (pc := 0) o dX11_hold_0 rfl rfl ?_
  obtain ⟨r1, hr1, h⟩ := xbs h
  refine gX11_16 (pc := 1) o dX11_hold_1 hr1 ?_
  refine x_iconst (pc := 4) o dX11_hold_4 ic_1 ?_
  refine x_iload_n (pc := 5) o dX11_hold_5 rfl rfl ?_
  obtain ⟨v2, hv2, h⟩ := xbs h
  refine x_callI (pc := 6) (As := [.int ((1 : Int32)), .int a1]) (b := r1) (rest := []) o (tX9_holds _ M _ r1 ((1 : Int32)) a1 S v2 hv2) eX9_holds mX11_169 clX9 (kX9_holds hv2) (by decide) rfl rfl (Nat.le_of_ble_eq_true rfl) dX11_hold_6 ?_
  refine x_if_eq (pc := 9) (tgt := 25) o dX11_hold_9 (by decide) (fun c15 => ?_) (fun c15 => ?_)
  · have h := xit h c15
    refine x_to (l := [(0, .ref (M.2.1 k0)), (1, .int a1), (2, .int a2)]) ⟨rfl, rfl, rfl, trivial⟩ ?_
    exact tX11_hold_B25 o hnL k0 a1 a2 S z hr h
  · have h := xif h c15
    refine x_iload_n (pc := 12) o dX11_hold_12 rfl rfl ?_
    refine x_if_eq (pc := 13) (tgt := 21) o dX11_hold_13 (by decide) (fun c14 => ?_) (fun c14 => ?_)
    · have h := xit h c14
      refine x_to (l := [(0, .ref (M.2.1 k0)), (1, .int a1), (2, .int a2)]) ⟨rfl, rfl, rfl, trivial⟩ ?_
      exact tX11_hold_B21 o hnL k0 a1 a2 S z hr h
    · have h := xif h c14
      refine x_iload_n (pc := 16) o dX11_hold_16 rfl rfl ?_
      refine x_iconst (pc := 17) o dX11_hold_17 ic_1 ?_
      refine x_icmp_ne (pc := 18) (tgt := 25) o dX11_hold_18 (by decide) (fun c13 => ?_) (fun c13 => ?_)
      · have h := xif h c13
        refine x_to (l := [(0, .ref (M.2.1 k0)), (1, .int a1), (2, .int a2)]) ⟨rfl, rfl, rfl, trivial⟩ ?_
        exact tX11_hold_B25 o hnL k0 a1 a2 S z hr h
      · have h := xit h c13
        refine x_to (l := [(0, .ref (M.2.1 k0)), (1, .int a1), (2, .int a2)]) ⟨rfl, rfl, rfl, trivial⟩ ?_
        exact tX11_hold_B21 o hnL k0 a1 a2 S z hr h
def fX11_swap (n : Nat) (k0 : Nat) (a1 : Int32) (a2 : Int32) (S : xSt) : Option (Int32 × xSt) :=
  if tC.1 k0 = 11 then
  ((xgM tC 11 2 k0 S).bind fun r1 =>
  (fX9_holds r1 ((2 : Int32)) a1 S).bind fun v2 =>
  if v2 = 0 then
  ((fX11_turnDown k0 ((3 : Int32)) S).bind fun q3 =>
  if q3.1 = 0 ∨ q3.1 = 1 then (some (q3.1, q3.2)) else none)
else
  ((xgM tC 11 2 k0 S).bind fun r4 =>
  (fX9_holds r4 ((2 : Int32)) a2 S).bind fun v5 =>
  if v5 = 0 then
  ((fX11_turnDown k0 ((3 : Int32)) S).bind fun q6 =>
  if q6.1 = 0 ∨ q6.1 = 1 then (some (q6.1, q6.2)) else none)
else
  (if a1 = a2 then
  ((fX11_turnDown k0 ((3 : Int32)) S).bind fun q10 =>
  if q10.1 = 0 ∨ q10.1 = 1 then (some (q10.1, q10.2)) else none)
else
  ((fX11_beginAct k0 S).bind fun S7 =>
  (xgF tC 11 4 k0 S7).bind fun r8 =>
  (fX8_swapHands n r8 a1 a2 S7).bind fun S9 =>
  some ((1 : Int32), S9)))))
  else none
theorem kX11_swap {z : Int32 × xSt} {n : Nat} {k0 : Nat} {a1 : Int32} {a2 : Int32} {S : xSt} (h : fX11_swap n k0 a1 a2 S = some z) : tC.1 k0 = 11 := by
  unfold fX11_swap at h
  exact (xck h).1
set_option maxHeartbeats 4000000 in
theorem tX11_swap (l : Launch) (M : xMg) (A : Nat → Prop) (n : Nat) (k0 : Nat) (a1 : Int32) (a2 : Int32) (S : xSt) (z : Int32 × xSt) (h : fX11_swap n k0 a1 a2 S = some z) : xMI l yX11_swap cX11_swap 3 (some .boolean) 5 tC M A [.ref (M.2.1 k0), .int a1, .int a2] S z.1 z.2 := by
  refine x_metI (plainFor_of_name (by decide)) tC_ok (Nat.le_of_ble_eq_true rfl) (fun Γ hA hnL hl hr o => ?_)
  subst hA; subst hl
  have o : xOk Γ tC M 5 cX11_swap RX11 := o
  unfold fX11_swap at h
  obtain ⟨hk0, h⟩ := xck h
  refine x_to (l := [(0, .ref (M.2.1 k0)), (1, .int a1), (2, .int a2)]) ⟨rfl, rfl, rfl, trivial⟩ ?_
  refine x_aload_n (pc := 0) o dX11_swap_0 rfl rfl ?_
  obtain ⟨r1, hr1, h⟩ := xbs h
  refine gX11_16 (pc := 1) o dX11_swap_1 hr1 ?_
  refine x_iconst (pc := 4) o dX11_swap_4 ic_2 ?_
  refine x_iload_n (pc := 5) o dX11_swap_5 rfl rfl ?_
  obtain ⟨v2, hv2, h⟩ := xbs h
  refine x_callI (pc := 6) (As := [.int ((2 : Int32)), .int a1]) (b := r1) (rest := []) o (tX9_holds _ M _ r1 ((2 : Int32)) a1 S v2 hv2) eX9_holds mX11_169 clX9 (kX9_holds hv2) (by decide) rfl rfl (Nat.le_of_ble_eq_true rfl) dX11_swap_6 ?_
  refine x_if_eq (pc := 9) (tgt := 29) o dX11_swap_9 (by decide) (fun c13 => ?_) (fun c13 => ?_)
  · have h := xit h c13
    refine x_aload_n (pc := 29) o dX11_swap_29 rfl rfl ?_
    refine x_iconst (pc := 30) o dX11_swap_30 ic_3 ?_
    obtain ⟨q3, hq3, h⟩ := xbs h
    refine x_callI (pc := 31) (As := [.int ((3 : Int32))]) (b := k0) (rest := []) o (tX11_turnDown _ M _ k0 ((3 : Int32)) S q3 hq3) eX11_turnDown mX11_106 clX11 (kX11_turnDown hq3) (by decide) rfl rfl (Nat.le_of_ble_eq_true rfl) dX11_swap_31 ?_
    obtain ⟨hz, h⟩ := xck h
    exact x_zreturn (pc := 34) o hr dX11_swap_34 hz (xr1 h) (xr2 h)
  · have h := xif h c13
    refine x_aload_n (pc := 12) o dX11_swap_12 rfl rfl ?_
    obtain ⟨r4, hr4, h⟩ := xbs h
    refine gX11_16 (pc := 13) o dX11_swap_13 hr4 ?_
    refine x_iconst (pc := 16) o dX11_swap_16 ic_2 ?_
    refine x_iload_n (pc := 17) o dX11_swap_17 rfl rfl ?_
    obtain ⟨v5, hv5, h⟩ := xbs h
    refine x_callI (pc := 18) (As := [.int ((2 : Int32)), .int a2]) (b := r4) (rest := []) o (tX9_holds _ M _ r4 ((2 : Int32)) a2 S v5 hv5) eX9_holds mX11_169 clX9 (kX9_holds hv5) (by decide) rfl rfl (Nat.le_of_ble_eq_true rfl) dX11_swap_18 ?_
    refine x_if_eq (pc := 21) (tgt := 29) o dX11_swap_21 (by decide) (fun c12 => ?_) (fun c12 => ?_)
    · have h := xit h c12
      refine x_aload_n (pc := 29) o dX11_swap_29 rfl rfl ?_
      refine x_iconst (pc := 30) o dX11_swap_30 ic_3 ?_
      obtain ⟨q6, hq6, h⟩ := xbs h
      refine x_callI (pc := 31) (As := [.int ((3 : Int32))]) (b := k0) (rest := []) o (tX11_turnDown _ M _ k0 ((3 : Int32)) S q6 hq6) eX11_turnDown mX11_106 clX11 (kX11_turnDown hq6) (by decide) rfl rfl (Nat.le_of_ble_eq_true rfl) dX11_swap_31 ?_
      obtain ⟨hz, h⟩ := xck h
      exact x_zreturn (pc := 34) o hr dX11_swap_34 hz (xr1 h) (xr2 h)
    · have h := xif h c12
      refine x_iload_n (pc := 24) o dX11_swap_24 rfl rfl ?_
      refine x_iload_n (pc := 25) o dX11_swap_25 rfl rfl ?_
      refine x_icmp_ne (pc := 26) (tgt := 35) o dX11_swap_26 (by decide) (fun c11 => ?_) (fun c11 => ?_)
      · have h := xif h c11
        refine x_aload_n (pc := 35) o dX11_swap_35 rfl rfl ?_
        obtain ⟨S7, hS7, h⟩ := xbs h
        refine x_callV (pc := 36) (As := []) (b := k0) (rest := []) o (tX11_beginAct _ M _ k0 S S7 hS7) eX11_beginAct mX11_297 clX11 (kX11_beginAct hS7) (by decide) rfl rfl (Nat.le_of_ble_eq_true rfl) dX11_swap_36 ?_
        refine x_aload_n (pc := 39) o dX11_swap_39 rfl rfl ?_
        obtain ⟨r8, hr8, h⟩ := xbs h
        refine gX11_26 (pc := 40) o dX11_swap_40 hr8 ?_
        refine x_iload_n (pc := 43) o dX11_swap_43 rfl rfl ?_
        refine x_iload_n (pc := 44) o dX11_swap_44 rfl rfl ?_
        obtain ⟨S9, hS9, h⟩ := xbs h
        refine x_callV (pc := 45) (As := [.int a1, .int a2]) (b := r8) (rest := []) o (tX8_swapHands _ M _ n r8 a1 a2 S7 S9 hS9) eX8_swapHands mX11_316 clX8 (kX8_swapHands hS9) (by decide) rfl rfl (Nat.le_of_ble_eq_true rfl) dX11_swap_45 ?_
        refine x_iconst (pc := 48) o dX11_swap_48 ic_1 ?_
        exact x_zreturn (pc := 49) o hr dX11_swap_49 (by decide) (xr1 h) (xr2 h)
      · have h := xit h c11
        refine x_aload_n (pc := 29) o dX11_swap_29 rfl rfl ?_
        refine x_iconst (pc := 30) o dX11_swap_30 ic_3 ?_
        obtain ⟨q10, hq10, h⟩ := xbs h
        refine x_callI (pc := 31) (As := [.int ((3 : Int32))]) (b := k0) (rest := []) o (tX11_turnDown _ M _ k0 ((3 : Int32)) S q10 hq10) eX11_turnDown mX11_106 clX11 (kX11_turnDown hq10) (by decide) rfl rfl (Nat.le_of_ble_eq_true rfl) dX11_swap_31 ?_
        obtain ⟨hz, h⟩ := xck h
        exact x_zreturn (pc := 34) o hr dX11_swap_34 hz (xr1 h) (xr2 h)
def fX11_due_B28 (k0 : Nat) (a1 : Int32) (a2 : Int32) (s0 : Int32) (S : xSt) : Option (Int32 × xSt) :=
  if s0 = 0 then
  ((fX11_turnDown k0 ((3 : Int32)) S).bind fun q3 =>
  if q3.1 = 0 ∨ q3.1 = 1 then (some (q3.1, q3.2)) else none)
else
  ((xgF tC 11 4 k0 S).bind fun r4 =>
  (xgF tC 8 8 r4 S).bind fun r5 =>
  (xal tC r5 a1 S).bind fun v6 =>
  if v6 = a2 then
  ((fX11_turnDown k0 ((3 : Int32)) S).bind fun q11 =>
  if q11.1 = 0 ∨ q11.1 = 1 then (some (q11.1, q11.2)) else none)
else
  ((fX11_beginAct k0 S).bind fun S7 =>
  (xgF tC 11 4 k0 S7).bind fun r8 =>
  (xgF tC 8 8 r8 S7).bind fun r9 =>
  (xas tC r9 a1 a2 S7).bind fun S10 =>
  some ((1 : Int32), S10)))
set_option maxHeartbeats 4000000 in
theorem tX11_due_B28 {Γ : xGm} {M : xMg} (o : xOk Γ tC M 5 cX11_due RX11) (hnL : Γ.2.2.2 = 4) (k0 : Nat) (a1 : Int32) (a2 : Int32) (s0 : Int32) (S : xSt) (z : (Int32 × xSt)) (hr : xRI Γ tC M (some .boolean) z.1 z.2) (h : fX11_due_B28 k0 a1 a2 s0 S = some z) : xAt Γ tC M 28 (xlv [(0, .ref (M.2.1 k0)), (1, .int a1), (2, .int a2)]) [.int s0] S := by
  have hn3 : 3 < Γ.2.2.2 := by omega
  unfold fX11_due_B28 at h
  refine x_istore_n (pc := 28) o dX11_due_28 rfl hn3 ?_
  refine x_iload_n (pc := 29) o dX11_due_29 rfl rfl ?_
  refine x_if_eq (pc := 30) (tgt := 46) o dX11_due_30 (by decide) (fun c13 => ?_) (fun c13 => ?_)
  · have h := xit h c13
    refine x_aload_n (pc := 46) o dX11_due_46 rfl rfl ?_
    refine x_iconst (pc := 47) o dX11_due_47 ic_3 ?_
    obtain ⟨q3, hq3, h⟩ := xbs h
    refine x_callI (pc := 48) (As := [.int ((3 : Int32))]) (b := k0) (rest := []) o (tX11_turnDown _ M _ k0 ((3 : Int32)) S q3 hq3) eX11_turnDown mX11_106 clX11 (kX11_turnDown hq3) (by decide) rfl rfl (Nat.le_of_ble_eq_true rfl) dX11_due_48 ?_
    obtain ⟨hz, h⟩ := xck h
    exact x_zreturn (pc := 51) o hr dX11_due_51 hz (xr1 h) (xr2 h)
  · have h := xif h c13
    refine x_aload_n (pc := 33) o dX11_due_33 rfl rfl ?_
    obtain ⟨r4, hr4, h⟩ := xbs h
    refine gX11_26 (pc := 34) o dX11_due_34 hr4 ?_
    obtain ⟨r5, hr5, h⟩ := xbs h
    refine gX11_201 (pc := 37) o dX11_due_37 hr5 ?_
    refine x_iload_n (pc := 40) o dX11_due_40 rfl rfl ?_
    obtain ⟨v6, hv6, h⟩ := xbs h
    refine x_iaload (pc := 41) o dX11_due_41 hv6 ?_
    refine x_iload_n (pc := 42) o dX11_due_42 rfl rfl ?_
    refine x_icmp_ne (pc := 43) (tgt := 52) o dX11_due_43 (by decide) (fun c12 => ?_) (fun c12 => ?_)
    · have h := xif h c12
      refine x_aload_n (pc := 52) o dX11_due_52 rfl rfl ?_
      obtain ⟨S7, hS7, h⟩ := xbs h
      refine x_callV (pc := 53) (As := []) (b := k0) (rest := []) o (tX11_beginAct _ M _ k0 S S7 hS7) eX11_beginAct mX11_297 clX11 (kX11_beginAct hS7) (by decide) rfl rfl (Nat.le_of_ble_eq_true rfl) dX11_due_53 ?_
      refine x_aload_n (pc := 56) o dX11_due_56 rfl rfl ?_
      obtain ⟨r8, hr8, h⟩ := xbs h
      refine gX11_26 (pc := 57) o dX11_due_57 hr8 ?_
      obtain ⟨r9, hr9, h⟩ := xbs h
      refine gX11_201 (pc := 60) o dX11_due_60 hr9 ?_
      refine x_iload_n (pc := 63) o dX11_due_63 rfl rfl ?_
      refine x_iload_n (pc := 64) o dX11_due_64 rfl rfl ?_
      obtain ⟨S10, hS10, h⟩ := xbs h
      refine x_iastore (pc := 65) o dX11_due_65 hS10 ?_
      refine x_iconst (pc := 66) o dX11_due_66 ic_1 ?_
      exact x_zreturn (pc := 67) o hr dX11_due_67 (by decide) (xr1 h) (xr2 h)
    · have h := xit h c12
      refine x_aload_n (pc := 46) o dX11_due_46 rfl rfl ?_
      refine x_iconst (pc := 47) o dX11_due_47 ic_3 ?_
      obtain ⟨q11, hq11, h⟩ := xbs h
      refine x_callI (pc := 48) (As := [.int ((3 : Int32))]) (b := k0) (rest := []) o (tX11_turnDown _ M _ k0 ((3 : Int32)) S q11 hq11) eX11_turnDown mX11_106 clX11 (kX11_turnDown hq11) (by decide) rfl rfl (Nat.le_of_ble_eq_true rfl) dX11_due_48 ?_
      obtain ⟨hz, h⟩ := xck h
      exact x_zreturn (pc := 51) o hr dX11_due_51 hz (xr1 h) (xr2 h)
def fX11_due_B27 (k0 : Nat) (a1 : Int32) (a2 : Int32) (S : xSt) : Option (Int32 × xSt) :=
  fX11_due_B28 k0 a1 a2 ((0 : Int32)) S
set_option maxHeartbeats 4000000 in
theorem tX11_due_B27 {Γ : xGm} {M : xMg} (o : xOk Γ tC M 5 cX11_due RX11) (hnL : Γ.2.2.2 = 4) (k0 : Nat) (a1 : Int32) (a2 : Int32) (S : xSt) (z : (Int32 × xSt)) (hr : xRI Γ tC M (some .boolean) z.1 z.2) (h : fX11_due_B27 k0 a1 a2 S = some z) : xAt Γ tC M 27 (xlv [(0, .ref (M.2.1 k0)), (1, .int a1), (2, .int a2)]) [] S := by
  unfold fX11_due_B27 at h
  refine x_iconst (pc := 27) o dX11_due_27 ic_0 ?_
  refine x_to (l := [(0, .ref (M.2.1 k0)), (1, .int a1), (2, .int a2)]) ⟨rfl, rfl, rfl, trivial⟩ ?_
  exact tX11_due_B28 o hnL k0 a1 a2 ((0 : Int32)) S z hr h
def fX11_due (k0 : Nat) (a1 : Int32) (a2 : Int32) (S : xSt) : Option (Int32 × xSt) :=
  if tC.1 k0 = 11 then
  ((xgM tC 11 2 k0 S).bind fun r1 =>
  (fX9_holds r1 ((3 : Int32)) a1 S).bind fun v2 =>
  if v2 = 0 then
  (fX11_due_B27 k0 a1 a2 S)
else
  (if a2 < 0 then
  (fX11_due_B27 k0 a1 a2 S)
else
  (if ((999 : Int32)) < a2 then
  (fX11_due_B27 k0 a1 a2 S)
else
  (fX11_due_B28 k0 a1 a2 ((1 : Int32)) S))))
  else none
theorem kX11_due {z : Int32 × xSt} {k0 : Nat} {a1 : Int32} {a2 : Int32} {S : xSt} (h : fX11_due k0 a1 a2 S = some z) : tC.1 k0 = 11 := by
  unfold fX11_due at h
  exact (xck h).1
set_option maxHeartbeats 4000000 in
theorem tX11_due (l : Launch) (M : xMg) (A : Nat → Prop) (k0 : Nat) (a1 : Int32) (a2 : Int32) (S : xSt) (z : Int32 × xSt) (h : fX11_due k0 a1 a2 S = some z) : xMI l yX11_due cX11_due 4 (some .boolean) 5 tC M A [.ref (M.2.1 k0), .int a1, .int a2] S z.1 z.2 := by
  refine x_metI (plainFor_of_name (by decide)) tC_ok (Nat.le_of_ble_eq_true rfl) (fun Γ hA hnL hl hr o => ?_)
  subst hA; subst hl
  have o : xOk Γ tC M 5 cX11_due RX11 := o
  unfold fX11_due at h
  obtain ⟨hk0, h⟩ := xck h
  refine x_to (l := [(0, .ref (M.2.1 k0)), (1, .int a1), (2, .int a2)]) ⟨rfl, rfl, rfl, trivial⟩ ?_
  refine x_aload_n (pc := 0) o dX11_due_0 rfl rfl ?_
  obtain ⟨r1, hr1, h⟩ := xbs h
  refine gX11_16 (pc := 1) o dX11_due_1 hr1 ?_
  refine x_iconst (pc := 4) o dX11_due_4 ic_3 ?_
  refine x_iload_n (pc := 5) o dX11_due_5 rfl rfl ?_
  obtain ⟨v2, hv2, h⟩ := xbs h
  refine x_callI (pc := 6) (As := [.int ((3 : Int32)), .int a1]) (b := r1) (rest := []) o (tX9_holds _ M _ r1 ((3 : Int32)) a1 S v2 hv2) eX9_holds mX11_169 clX9 (kX9_holds hv2) (by decide) rfl rfl (Nat.le_of_ble_eq_true rfl) dX11_due_6 ?_
  refine x_if_eq (pc := 9) (tgt := 27) o dX11_due_9 (by decide) (fun c16 => ?_) (fun c16 => ?_)
  · have h := xit h c16
    refine x_to (l := [(0, .ref (M.2.1 k0)), (1, .int a1), (2, .int a2)]) ⟨rfl, rfl, rfl, trivial⟩ ?_
    exact tX11_due_B27 o hnL k0 a1 a2 S z hr h
  · have h := xif h c16
    refine x_iload_n (pc := 12) o dX11_due_12 rfl rfl ?_
    refine x_if_lt (pc := 13) (tgt := 27) o dX11_due_13 (by decide) (fun c15 => ?_) (fun c15 => ?_)
    · have h := xit h c15
      refine x_to (l := [(0, .ref (M.2.1 k0)), (1, .int a1), (2, .int a2)]) ⟨rfl, rfl, rfl, trivial⟩ ?_
      exact tX11_due_B27 o hnL k0 a1 a2 S z hr h
    · have h := xif h c15
      refine x_iload_n (pc := 16) o dX11_due_16 rfl rfl ?_
      refine x_sipush (pc := 17) o dX11_due_17 sp_999 ?_
      refine x_icmp_gt (pc := 20) (tgt := 27) o dX11_due_20 (by decide) (fun c14 => ?_) (fun c14 => ?_)
      · have h := xit h c14
        refine x_to (l := [(0, .ref (M.2.1 k0)), (1, .int a1), (2, .int a2)]) ⟨rfl, rfl, rfl, trivial⟩ ?_
        exact tX11_due_B27 o hnL k0 a1 a2 S z hr h
      · have h := xif h c14
        refine x_iconst (pc := 23) o dX11_due_23 ic_1 ?_
        refine x_goto (pc := 24) (tgt := 28) o dX11_due_24 (by decide) ?_
        refine x_to (l := [(0, .ref (M.2.1 k0)), (1, .int a1), (2, .int a2)]) ⟨rfl, rfl, rfl, trivial⟩ ?_
        exact tX11_due_B28 o hnL k0 a1 a2 ((1 : Int32)) S z hr h
def fX11_undo (k0 : Nat) (S : xSt) : Option (Int32 × xSt) :=
  if tC.1 k0 = 11 then
  ((xgF tC 11 5 k0 S).bind fun r1 =>
  (xgF tC 11 4 k0 S).bind fun r2 =>
  (fX3_restore r1 r2 S).bind fun q3 =>
  if q3.1 = 0 then
  ((fX11_turnDown k0 ((4 : Int32)) q3.2).bind fun q6 =>
  if q6.1 = 0 ∨ q6.1 = 1 then (some (q6.1, q6.2)) else none)
else
  ((xgF tC 11 7 k0 q3.2).bind fun r4 =>
  (fX0_forget r4 q3.2).bind fun S5 =>
  some ((1 : Int32), S5)))
  else none
theorem kX11_undo {z : Int32 × xSt} {k0 : Nat} {S : xSt} (h : fX11_undo k0 S = some z) : tC.1 k0 = 11 := by
  unfold fX11_undo at h
  exact (xck h).1
set_option maxHeartbeats 4000000 in
theorem tX11_undo (l : Launch) (M : xMg) (A : Nat → Prop) (k0 : Nat) (S : xSt) (z : Int32 × xSt) (h : fX11_undo k0 S = some z) : xMI l yX11_undo cX11_undo 1 (some .boolean) 4 tC M A [.ref (M.2.1 k0)] S z.1 z.2 := by
  refine x_metI (plainFor_of_name (by decide)) tC_ok (Nat.le_of_ble_eq_true rfl) (fun Γ hA hnL hl hr o => ?_)
  subst hA; subst hl
  have o : xOk Γ tC M 4 cX11_undo RX11 := o
  unfold fX11_undo at h
  obtain ⟨hk0, h⟩ := xck h
  refine x_to (l := [(0, .ref (M.2.1 k0))]) ⟨rfl, trivial⟩ ?_
  refine x_aload_n (pc := 0) o dX11_undo_0 rfl rfl ?_
  obtain ⟨r1, hr1, h⟩ := xbs h
  refine gX11_33 (pc := 1) o dX11_undo_1 hr1 ?_
  refine x_aload_n (pc := 4) o dX11_undo_4 rfl rfl ?_
  obtain ⟨r2, hr2, h⟩ := xbs h
  refine gX11_26 (pc := 5) o dX11_undo_5 hr2 ?_
  obtain ⟨q3, hq3, h⟩ := xbs h
  refine x_callI (pc := 8) (As := [.ref (M.2.1 r2)]) (b := r1) (rest := []) o (tX3_restore _ M _ r1 r2 S q3 hq3) eX3_restore mX11_320 clX3 (kX3_restore hq3) (by decide) rfl rfl (Nat.le_of_ble_eq_true rfl) dX11_undo_8 ?_
  refine x_if_ne (pc := 11) (tgt := 20) o dX11_undo_11 (by decide) (fun c7 => ?_) (fun c7 => ?_)
  · have h := xif h c7
    refine x_aload_n (pc := 20) o dX11_undo_20 rfl rfl ?_
    obtain ⟨r4, hr4, h⟩ := xbs h
    refine gX11_49 (pc := 21) o dX11_undo_21 hr4 ?_
    obtain ⟨S5, hS5, h⟩ := xbs h
    refine x_callV (pc := 24) (As := []) (b := r4) (rest := []) o (tX0_forget _ M _ r4 q3.2 S5 hS5) eX0_forget mX11_324 clX0 (kX0_forget hS5) (by decide) rfl rfl (Nat.le_of_ble_eq_true rfl) dX11_undo_24 ?_
    refine x_iconst (pc := 27) o dX11_undo_27 ic_1 ?_
    exact x_zreturn (pc := 28) o hr dX11_undo_28 (by decide) (xr1 h) (xr2 h)
  · have h := xit h c7
    refine x_aload_n (pc := 14) o dX11_undo_14 rfl rfl ?_
    refine x_iconst (pc := 15) o dX11_undo_15 ic_4 ?_
    obtain ⟨q6, hq6, h⟩ := xbs h
    refine x_callI (pc := 16) (As := [.int ((4 : Int32))]) (b := k0) (rest := []) o (tX11_turnDown _ M _ k0 ((4 : Int32)) q3.2 q6 hq6) eX11_turnDown mX11_106 clX11 (kX11_turnDown hq6) (by decide) rfl rfl (Nat.le_of_ble_eq_true rfl) dX11_undo_16 ?_
    obtain ⟨hz, h⟩ := xck h
    exact x_zreturn (pc := 19) o hr dX11_undo_19 hz (xr1 h) (xr2 h)
def fX11_seed (k0 : Nat) (a1 : Int32) (S : xSt) : Option (Int32 × xSt) :=
  if tC.1 k0 = 11 then
  (if 0 ≤ a1 then
  ((xpI tC 11 15 k0 a1 S).bind fun S1 =>
  some ((1 : Int32), S1))
else
  ((fX11_turnDown k0 ((5 : Int32)) S).bind fun q2 =>
  if q2.1 = 0 ∨ q2.1 = 1 then (some (q2.1, q2.2)) else none))
  else none
theorem kX11_seed {z : Int32 × xSt} {k0 : Nat} {a1 : Int32} {S : xSt} (h : fX11_seed k0 a1 S = some z) : tC.1 k0 = 11 := by
  unfold fX11_seed at h
  exact (xck h).1
set_option maxHeartbeats 4000000 in
theorem tX11_seed (l : Launch) (M : xMg) (A : Nat → Prop) (k0 : Nat) (a1 : Int32) (S : xSt) (z : Int32 × xSt) (h : fX11_seed k0 a1 S = some z) : xMI l yX11_seed cX11_seed 2 (some .boolean) 3 tC M A [.ref (M.2.1 k0), .int a1] S z.1 z.2 := by
  refine x_metI (plainFor_of_name (by decide)) tC_ok (Nat.le_of_ble_eq_true rfl) (fun Γ hA hnL hl hr o => ?_)
  subst hA; subst hl
  have o : xOk Γ tC M 3 cX11_seed RX11 := o
  unfold fX11_seed at h
  obtain ⟨hk0, h⟩ := xck h
  refine x_to (l := [(0, .ref (M.2.1 k0)), (1, .int a1)]) ⟨rfl, rfl, trivial⟩ ?_
  refine x_iload_n (pc := 0) o dX11_seed_0 rfl rfl ?_
  refine x_if_ge (pc := 1) (tgt := 10) o dX11_seed_1 (by decide) (fun c3 => ?_) (fun c3 => ?_)
  · have h := xit h c3
    refine x_aload_n (pc := 10) o dX11_seed_10 rfl rfl ?_
    refine x_iload_n (pc := 11) o dX11_seed_11 rfl rfl ?_
    obtain ⟨S1, hS1, h⟩ := xbs h
    refine pX11_91 (pc := 12) o dX11_seed_12 hS1 ?_
    refine x_iconst (pc := 15) o dX11_seed_15 ic_1 ?_
    exact x_zreturn (pc := 16) o hr dX11_seed_16 (by decide) (xr1 h) (xr2 h)
  · have h := xif h c3
    refine x_aload_n (pc := 4) o dX11_seed_4 rfl rfl ?_
    refine x_iconst (pc := 5) o dX11_seed_5 ic_5 ?_
    obtain ⟨q2, hq2, h⟩ := xbs h
    refine x_callI (pc := 6) (As := [.int ((5 : Int32))]) (b := k0) (rest := []) o (tX11_turnDown _ M _ k0 ((5 : Int32)) S q2 hq2) eX11_turnDown mX11_106 clX11 (kX11_turnDown hq2) (by decide) rfl rfl (Nat.le_of_ble_eq_true rfl) dX11_seed_6 ?_
    obtain ⟨hz, h⟩ := xck h
    exact x_zreturn (pc := 9) o hr dX11_seed_9 hz (xr1 h) (xr2 h)
def fX11_kept (k0 : Nat) (a1 : Int32) (a2 : Int32) (S : xSt) : Option (Int32) :=
  if tC.1 k0 = 11 then
  (if a1 < 0 then
  (some ((-1 : Int32)))
else
  ((xgF tC 11 4 k0 S).bind fun r1 =>
  (xgI tC 8 4 r1 S).bind fun v2 =>
  if a1 < v2 then
  ((xgF tC 11 5 k0 S).bind fun r3 =>
  (fX3_keptPart r3 a1 a2 S).bind fun v4 =>
  some v4)
else
  (some ((-1 : Int32)))))
  else none
theorem kX11_kept {z : Int32} {k0 : Nat} {a1 : Int32} {a2 : Int32} {S : xSt} (h : fX11_kept k0 a1 a2 S = some z) : tC.1 k0 = 11 := by
  unfold fX11_kept at h
  exact (xck h).1
set_option maxHeartbeats 4000000 in
theorem tX11_kept (l : Launch) (M : xMg) (A : Nat → Prop) (k0 : Nat) (a1 : Int32) (a2 : Int32) (S : xSt) (z : Int32) (h : fX11_kept k0 a1 a2 S = some z) : xMI l yX11_kept cX11_kept 3 (some .int) 2 tC M A [.ref (M.2.1 k0), .int a1, .int a2] S z S := by
  refine x_metI (plainFor_of_name (by decide)) tC_ok (Nat.le_of_ble_eq_true rfl) (fun Γ hA hnL hl hr o => ?_)
  subst hA; subst hl
  have o : xOk Γ tC M 2 cX11_kept RX11 := o
  unfold fX11_kept at h
  obtain ⟨hk0, h⟩ := xck h
  refine x_to (l := [(0, .ref (M.2.1 k0)), (1, .int a1), (2, .int a2)]) ⟨rfl, rfl, rfl, trivial⟩ ?_
  refine x_iload_n (pc := 0) o dX11_kept_0 rfl rfl ?_
  refine x_if_lt (pc := 1) (tgt := 15) o dX11_kept_1 (by decide) (fun c6 => ?_) (fun c6 => ?_)
  · have h := xit h c6
    refine x_iconst (pc := 15) o dX11_kept_15 ic_m1 ?_
    exact x_ireturn (pc := 16) o hr dX11_kept_16 (Option.some.inj h) rfl
  · have h := xif h c6
    refine x_iload_n (pc := 4) o dX11_kept_4 rfl rfl ?_
    refine x_aload_n (pc := 5) o dX11_kept_5 rfl rfl ?_
    obtain ⟨r1, hr1, h⟩ := xbs h
    refine gX11_26 (pc := 6) o dX11_kept_6 hr1 ?_
    obtain ⟨v2, hv2, h⟩ := xbs h
    refine gX11_163 (pc := 9) o dX11_kept_9 hv2 ?_
    refine x_icmp_lt (pc := 12) (tgt := 17) o dX11_kept_12 (by decide) (fun c5 => ?_) (fun c5 => ?_)
    · have h := xit h c5
      refine x_aload_n (pc := 17) o dX11_kept_17 rfl rfl ?_
      obtain ⟨r3, hr3, h⟩ := xbs h
      refine gX11_33 (pc := 18) o dX11_kept_18 hr3 ?_
      refine x_iload_n (pc := 21) o dX11_kept_21 rfl rfl ?_
      refine x_iload_n (pc := 22) o dX11_kept_22 rfl rfl ?_
      obtain ⟨v4, hv4, h⟩ := xbs h
      refine x_callI (pc := 23) (As := [.int a1, .int a2]) (b := r3) (rest := []) o (tX3_keptPart _ M _ r3 a1 a2 S v4 hv4) eX3_keptPart mX11_327 clX3 (kX3_keptPart hv4) (by decide) rfl rfl (Nat.le_of_ble_eq_true rfl) dX11_kept_23 ?_
      exact x_ireturn (pc := 26) o hr dX11_kept_26 (Option.some.inj h) rfl
    · have h := xif h c5
      refine x_iconst (pc := 15) o dX11_kept_15 ic_m1 ?_
      exact x_ireturn (pc := 16) o hr dX11_kept_16 (Option.some.inj h) rfl
def fX11_image (n : Nat) (k0 : Nat) (S : xSt) : Option (Int32 × xSt) :=
  if tC.1 k0 = 11 then
  ((xgF tC 11 11 k0 S).bind fun r1 =>
  (xgM tC 11 2 k0 S).bind fun r2 =>
  (xgF tC 11 4 k0 S).bind fun r3 =>
  (fX4_write n r1 r2 r3 S).bind fun q4 =>
  some (q4.1, q4.2))
  else none
theorem kX11_image {z : Int32 × xSt} {n : Nat} {k0 : Nat} {S : xSt} (h : fX11_image n k0 S = some z) : tC.1 k0 = 11 := by
  unfold fX11_image at h
  exact (xck h).1
set_option maxHeartbeats 4000000 in
theorem tX11_image (l : Launch) (M : xMg) (A : Nat → Prop) (n : Nat) (k0 : Nat) (S : xSt) (z : Int32 × xSt) (h : fX11_image n k0 S = some z) : xMI l yX11_image cX11_image 1 (some .int) 4 tC M A [.ref (M.2.1 k0)] S z.1 z.2 := by
  refine x_metI (plainFor_of_name (by decide)) tC_ok (Nat.le_of_ble_eq_true rfl) (fun Γ hA hnL hl hr o => ?_)
  subst hA; subst hl
  have o : xOk Γ tC M 4 cX11_image RX11 := o
  unfold fX11_image at h
  obtain ⟨hk0, h⟩ := xck h
  refine x_to (l := [(0, .ref (M.2.1 k0))]) ⟨rfl, trivial⟩ ?_
  refine x_aload_n (pc := 0) o dX11_image_0 rfl rfl ?_
  obtain ⟨r1, hr1, h⟩ := xbs h
  refine gX11_81 (pc := 1) o dX11_image_1 hr1 ?_
  refine x_aload_n (pc := 4) o dX11_image_4 rfl rfl ?_
  obtain ⟨r2, hr2, h⟩ := xbs h
  refine gX11_16 (pc := 5) o dX11_image_5 hr2 ?_
  refine x_aload_n (pc := 8) o dX11_image_8 rfl rfl ?_
  obtain ⟨r3, hr3, h⟩ := xbs h
  refine gX11_26 (pc := 9) o dX11_image_9 hr3 ?_
  obtain ⟨q4, hq4, h⟩ := xbs h
  refine x_callI (pc := 12) (As := [.ref (M.2.1 r2), .ref (M.2.1 r3)]) (b := r1) (rest := []) o (tX4_write _ M _ n r1 r2 r3 S q4 hq4) eX4_write mX11_330 clX4 (kX4_write hq4) (by decide) rfl rfl (Nat.le_of_ble_eq_true rfl) dX11_image_12 ?_
  exact x_ireturn (pc := 15) o hr dX11_image_15 (xr1 h) (xr2 h)
def fX11_octet (k0 : Nat) (a1 : Int32) (S : xSt) : Option (Int32) :=
  if tC.1 k0 = 11 then
  (if a1 < 0 then
  (some ((-1 : Int32)))
else
  ((xgF tC 11 11 k0 S).bind fun r1 =>
  (xgI tC 4 1 r1 S).bind fun v2 =>
  if v2 ≤ a1 then
  (some ((-1 : Int32)))
else
  ((xgF tC 11 11 k0 S).bind fun r3 =>
  (xgF tC 4 0 r3 S).bind fun r4 =>
  (xlen tC r4).bind fun v5 =>
  if v5 ≤ a1 then
  (some ((-1 : Int32)))
else
  ((xgF tC 11 11 k0 S).bind fun r6 =>
  (xgF tC 4 0 r6 S).bind fun r7 =>
  (xal tC r7 a1 S).bind fun v8 =>
  some v8))))
  else none
theorem kX11_octet {z : Int32} {k0 : Nat} {a1 : Int32} {S : xSt} (h : fX11_octet k0 a1 S = some z) : tC.1 k0 = 11 := by
  unfold fX11_octet at h
  exact (xck h).1
set_option maxHeartbeats 4000000 in
theorem tX11_octet (l : Launch) (M : xMg) (A : Nat → Prop) (k0 : Nat) (a1 : Int32) (S : xSt) (z : Int32) (h : fX11_octet k0 a1 S = some z) : xMI l yX11_octet cX11_octet 2 (some .int) 1 tC M A [.ref (M.2.1 k0), .int a1] S z S := by
  refine x_metI (plainFor_of_name (by decide)) tC_ok (Nat.le_of_ble_eq_true rfl) (fun Γ hA hnL hl hr o => ?_)
  subst hA; subst hl
  have o : xOk Γ tC M 1 cX11_octet RX11 := o
  unfold fX11_octet at h
  obtain ⟨hk0, h⟩ := xck h
  refine x_to (l := [(0, .ref (M.2.1 k0)), (1, .int a1)]) ⟨rfl, rfl, trivial⟩ ?_
  refine x_iload_n (pc := 0) o dX11_octet_0 rfl rfl ?_
  refine x_if_lt (pc := 1) (tgt := 39) o dX11_octet_1 (by decide) (fun c11 => ?_) (fun c11 => ?_)
  · have h := xit h c11
    refine x_iconst (pc := 39) o dX11_octet_39 ic_m1 ?_
    exact x_ireturn (pc := 40) o hr dX11_octet_40 (Option.some.inj h) rfl
  · have h := xif h c11
    refine x_iload_n (pc := 4) o dX11_octet_4 rfl rfl ?_
    refine x_aload_n (pc := 5) o dX11_octet_5 rfl rfl ?_
    obtain ⟨r1, hr1, h⟩ := xbs h
    refine gX11_81 (pc := 6) o dX11_octet_6 hr1 ?_
    obtain ⟨v2, hv2, h⟩ := xbs h
    refine gX11_334 (pc := 9) o dX11_octet_9 hv2 ?_
    refine x_icmp_ge (pc := 12) (tgt := 39) o dX11_octet_12 (by decide) (fun c10 => ?_) (fun c10 => ?_)
    · have h := xit h c10
      refine x_iconst (pc := 39) o dX11_octet_39 ic_m1 ?_
      exact x_ireturn (pc := 40) o hr dX11_octet_40 (Option.some.inj h) rfl
    · have h := xif h c10
      refine x_iload_n (pc := 15) o dX11_octet_15 rfl rfl ?_
      refine x_aload_n (pc := 16) o dX11_octet_16 rfl rfl ?_
      obtain ⟨r3, hr3, h⟩ := xbs h
      refine gX11_81 (pc := 17) o dX11_octet_17 hr3 ?_
      obtain ⟨r4, hr4, h⟩ := xbs h
      refine gX11_337 (pc := 20) o dX11_octet_20 hr4 ?_
      obtain ⟨v5, hv5, h⟩ := xbs h
      refine x_arraylength (pc := 23) o dX11_octet_23 hv5 ?_
      refine x_icmp_ge (pc := 24) (tgt := 39) o dX11_octet_24 (by decide) (fun c9 => ?_) (fun c9 => ?_)
      · have h := xit h c9
        refine x_iconst (pc := 39) o dX11_octet_39 ic_m1 ?_
        exact x_ireturn (pc := 40) o hr dX11_octet_40 (Option.some.inj h) rfl
      · have h := xif h c9
        refine x_aload_n (pc := 27) o dX11_octet_27 rfl rfl ?_
        obtain ⟨r6, hr6, h⟩ := xbs h
        refine gX11_81 (pc := 28) o dX11_octet_28 hr6 ?_
        obtain ⟨r7, hr7, h⟩ := xbs h
        refine gX11_337 (pc := 31) o dX11_octet_31 hr7 ?_
        refine x_iload_n (pc := 34) o dX11_octet_34 rfl rfl ?_
        obtain ⟨v8, hv8, h⟩ := xbs h
        refine x_iaload (pc := 35) o dX11_octet_35 hv8 ?_
        refine x_goto (pc := 36) (tgt := 40) o dX11_octet_36 (by decide) ?_
        exact x_ireturn (pc := 40) o hr dX11_octet_40 (Option.some.inj h) rfl
def fX11_on (n : Nat) (k0 : Nat) (S : xSt) : Option (Int32 × xSt) :=
  if tC.1 k0 = 11 then
  ((fX11_takeTape k0 S).bind fun q1 =>
  (xgF tC 11 11 k0 q1.2).bind fun r2 =>
  (xgM tC 11 2 k0 q1.2).bind fun r3 =>
  (xgF tC 11 0 k0 q1.2).bind fun r4 =>
  (fX4_read n r2 r3 r4 q1.1 q1.2).bind fun q5 =>
  if q5.1 = 0 then
  ((fX11_turnDown k0 ((5 : Int32)) q5.2).bind fun q14 =>
  if q14.1 = 0 ∨ q14.1 = 1 then (some (q14.1, q14.2)) else none)
else
  ((xgF tC 11 4 k0 q5.2).bind fun r6 =>
  (xgF tC 11 11 k0 q5.2).bind fun r7 =>
  (xgF tC 4 2 r7 q5.2).bind fun r8 =>
  (fX8_copy r6 r8 q5.2).bind fun S9 =>
  (xgF tC 11 5 k0 S9).bind fun r10 =>
  (fX3_clear r10 S9).bind fun S11 =>
  (xgF tC 11 7 k0 S11).bind fun r12 =>
  (fX0_forget r12 S11).bind fun S13 =>
  some ((1 : Int32), S13)))
  else none
theorem kX11_on {z : Int32 × xSt} {n : Nat} {k0 : Nat} {S : xSt} (h : fX11_on n k0 S = some z) : tC.1 k0 = 11 := by
  unfold fX11_on at h
  exact (xck h).1
set_option maxHeartbeats 4000000 in
theorem tX11_on (l : Launch) (M : xMg) (A : Nat → Prop) (n : Nat) (k0 : Nat) (S : xSt) (z : Int32 × xSt) (h : fX11_on n k0 S = some z) : xMI l yX11_on cX11_on 2 (some .boolean) 6 tC M A [.ref (M.2.1 k0)] S z.1 z.2 := by
  refine x_metI (plainFor_of_name (by decide)) tC_ok (Nat.le_of_ble_eq_true rfl) (fun Γ hA hnL hl hr o => ?_)
  subst hA; subst hl
  have o : xOk Γ tC M 6 cX11_on RX11 := o
  unfold fX11_on at h
  obtain ⟨hk0, h⟩ := xck h
  refine x_to (l := [(0, .ref (M.2.1 k0))]) ⟨rfl, trivial⟩ ?_
  have hn1 : 1 < Γ.2.2.2 := by omega
  refine x_aload_n (pc := 0) o dX11_on_0 rfl rfl ?_
  obtain ⟨q1, hq1, h⟩ := xbs h
  refine x_callI (pc := 1) (As := []) (b := k0) (rest := []) o (tX11_takeTape _ M _ k0 S q1 hq1) eX11_takeTape mX11_110 clX11 (kX11_takeTape hq1) (by decide) rfl rfl (Nat.le_of_ble_eq_true rfl) dX11_on_1 ?_
  refine x_istore_n (pc := 4) o dX11_on_4 rfl hn1 ?_
  refine x_aload_n (pc := 5) o dX11_on_5 rfl rfl ?_
  obtain ⟨r2, hr2, h⟩ := xbs h
  refine gX11_81 (pc := 6) o dX11_on_6 hr2 ?_
  refine x_aload_n (pc := 9) o dX11_on_9 rfl rfl ?_
  obtain ⟨r3, hr3, h⟩ := xbs h
  refine gX11_16 (pc := 10) o dX11_on_10 hr3 ?_
  refine x_aload_n (pc := 13) o dX11_on_13 rfl rfl ?_
  obtain ⟨r4, hr4, h⟩ := xbs h
  refine gX11_9 (pc := 14) o dX11_on_14 hr4 ?_
  refine x_iload_n (pc := 17) o dX11_on_17 rfl rfl ?_
  obtain ⟨q5, hq5, h⟩ := xbs h
  refine x_callI (pc := 18) (As := [.ref (M.2.1 r3), .ref (M.2.1 r4), .int q1.1]) (b := r2) (rest := []) o (tX4_read _ M _ n r2 r3 r4 q1.1 q1.2 q5 hq5) eX4_read mX11_340 clX4 (kX4_read hq5) (by decide) rfl rfl (Nat.le_of_ble_eq_true rfl) dX11_on_18 ?_
  refine x_if_ne (pc := 21) (tgt := 30) o dX11_on_21 (by decide) (fun c15 => ?_) (fun c15 => ?_)
  · have h := xif h c15
    refine x_aload_n (pc := 30) o dX11_on_30 rfl rfl ?_
    obtain ⟨r6, hr6, h⟩ := xbs h
    refine gX11_26 (pc := 31) o dX11_on_31 hr6 ?_
    refine x_aload_n (pc := 34) o dX11_on_34 rfl rfl ?_
    obtain ⟨r7, hr7, h⟩ := xbs h
    refine gX11_81 (pc := 35) o dX11_on_35 hr7 ?_
    obtain ⟨r8, hr8, h⟩ := xbs h
    refine gX11_343 (pc := 38) o dX11_on_38 hr8 ?_
    obtain ⟨S9, hS9, h⟩ := xbs h
    refine x_callV (pc := 41) (As := [.ref (M.2.1 r8)]) (b := r6) (rest := []) o (tX8_copy _ M _ r6 r8 q5.2 S9 hS9) eX8_copy mX11_345 clX8 (kX8_copy hS9) (by decide) rfl rfl (Nat.le_of_ble_eq_true rfl) dX11_on_41 ?_
    refine x_aload_n (pc := 44) o dX11_on_44 rfl rfl ?_
    obtain ⟨r10, hr10, h⟩ := xbs h
    refine gX11_33 (pc := 45) o dX11_on_45 hr10 ?_
    obtain ⟨S11, hS11, h⟩ := xbs h
    refine x_callV (pc := 48) (As := []) (b := r10) (rest := []) o (tX3_clear _ M _ r10 S9 S11 hS11) eX3_clear mX11_122 clX3 (kX3_clear hS11) (by decide) rfl rfl (Nat.le_of_ble_eq_true rfl) dX11_on_48 ?_
    refine x_aload_n (pc := 51) o dX11_on_51 rfl rfl ?_
    obtain ⟨r12, hr12, h⟩ := xbs h
    refine gX11_49 (pc := 52) o dX11_on_52 hr12 ?_
    obtain ⟨S13, hS13, h⟩ := xbs h
    refine x_callV (pc := 55) (As := []) (b := r12) (rest := []) o (tX0_forget _ M _ r12 S11 S13 hS13) eX0_forget mX11_324 clX0 (kX0_forget hS13) (by decide) rfl rfl (Nat.le_of_ble_eq_true rfl) dX11_on_55 ?_
    refine x_iconst (pc := 58) o dX11_on_58 ic_1 ?_
    exact x_zreturn (pc := 59) o hr dX11_on_59 (by decide) (xr1 h) (xr2 h)
  · have h := xit h c15
    refine x_aload_n (pc := 24) o dX11_on_24 rfl rfl ?_
    refine x_iconst (pc := 25) o dX11_on_25 ic_5 ?_
    obtain ⟨q14, hq14, h⟩ := xbs h
    refine x_callI (pc := 26) (As := [.int ((5 : Int32))]) (b := k0) (rest := []) o (tX11_turnDown _ M _ k0 ((5 : Int32)) q5.2 q14 hq14) eX11_turnDown mX11_106 clX11 (kX11_turnDown hq14) (by decide) rfl rfl (Nat.le_of_ble_eq_true rfl) dX11_on_26 ?_
    obtain ⟨hz, h⟩ := xck h
    exact x_zreturn (pc := 29) o hr dX11_on_29 hz (xr1 h) (xr2 h)
def fX11_status (k0 : Nat) (a1 : Int32) (S : xSt) : Option (Int32) :=
  if tC.1 k0 = 11 then
  (if a1 < 0 then
  (some ((-1 : Int32)))
else
  (if ((6 : Int32)) ≤ a1 then
  (some ((-1 : Int32)))
else
  ((xgF tC 11 14 k0 S).bind fun r1 =>
  (xal tC r1 a1 S).bind fun v2 =>
  some v2)))
  else none
theorem kX11_status {z : Int32} {k0 : Nat} {a1 : Int32} {S : xSt} (h : fX11_status k0 a1 S = some z) : tC.1 k0 = 11 := by
  unfold fX11_status at h
  exact (xck h).1
set_option maxHeartbeats 4000000 in
theorem tX11_status (l : Launch) (M : xMg) (A : Nat → Prop) (k0 : Nat) (a1 : Int32) (S : xSt) (z : Int32) (h : fX11_status k0 a1 S = some z) : xMI l yX11_status cX11_status 2 (some .int) 1 tC M A [.ref (M.2.1 k0), .int a1] S z S := by
  refine x_metI (plainFor_of_name (by decide)) tC_ok (Nat.le_of_ble_eq_true rfl) (fun Γ hA hnL hl hr o => ?_)
  subst hA; subst hl
  have o : xOk Γ tC M 1 cX11_status RX11 := o
  unfold fX11_status at h
  obtain ⟨hk0, h⟩ := xck h
  refine x_to (l := [(0, .ref (M.2.1 k0)), (1, .int a1)]) ⟨rfl, rfl, trivial⟩ ?_
  refine x_iload_n (pc := 0) o dX11_status_0 rfl rfl ?_
  refine x_if_lt (pc := 1) (tgt := 19) o dX11_status_1 (by decide) (fun c4 => ?_) (fun c4 => ?_)
  · have h := xit h c4
    refine x_iconst (pc := 19) o dX11_status_19 ic_m1 ?_
    exact x_ireturn (pc := 20) o hr dX11_status_20 (Option.some.inj h) rfl
  · have h := xif h c4
    refine x_iload_n (pc := 4) o dX11_status_4 rfl rfl ?_
    refine x_bipush (pc := 5) o dX11_status_5 bp_6 ?_
    refine x_icmp_ge (pc := 7) (tgt := 19) o dX11_status_7 (by decide) (fun c3 => ?_) (fun c3 => ?_)
    · have h := xit h c3
      refine x_iconst (pc := 19) o dX11_status_19 ic_m1 ?_
      exact x_ireturn (pc := 20) o hr dX11_status_20 (Option.some.inj h) rfl
    · have h := xif h c3
      refine x_aload_n (pc := 10) o dX11_status_10 rfl rfl ?_
      obtain ⟨r1, hr1, h⟩ := xbs h
      refine gX11_88 (pc := 11) o dX11_status_11 hr1 ?_
      refine x_iload_n (pc := 14) o dX11_status_14 rfl rfl ?_
      obtain ⟨v2, hv2, h⟩ := xbs h
      refine x_iaload (pc := 15) o dX11_status_15 hv2 ?_
      refine x_goto (pc := 16) (tgt := 20) o dX11_status_16 (by decide) ?_
      exact x_ireturn (pc := 20) o hr dX11_status_20 (Option.some.inj h) rfl
def fX12_isDefault (k0 : Nat) (a1 : Int32) (S : xSt) : Option (xSt) :=
  if tM.1 k0 = 12 then
  ((xgF tM 12 30 k0 S).bind fun r1 =>
  (xas tM r1 ((((3 : Int32)) * a1) + ((0 : Int32))) ((100 : Int32)) S).bind fun S2 =>
  (xgF tM 12 30 k0 S2).bind fun r3 =>
  (xas tM r3 ((((3 : Int32)) * a1) + ((1 : Int32))) ((5 : Int32)) S2).bind fun S4 =>
  (xgF tM 12 30 k0 S4).bind fun r5 =>
  (xas tM r5 ((((3 : Int32)) * a1) + ((2 : Int32))) ((0 : Int32)) S4).bind fun S6 =>
  (xgF tM 12 28 k0 S6).bind fun r7 =>
  (xas tM r7 a1 ((0 : Int32)) S6).bind fun S8 =>
  (xgF tM 12 29 k0 S8).bind fun r9 =>
  (xas tM r9 a1 ((9 : Int32)) S8).bind fun S10 =>
  some S10)
  else none
theorem kX12_isDefault {z : xSt} {k0 : Nat} {a1 : Int32} {S : xSt} (h : fX12_isDefault k0 a1 S = some z) : tM.1 k0 = 12 := by
  unfold fX12_isDefault at h
  exact (xck h).1
set_option maxHeartbeats 4000000 in
theorem tX12_isDefault (l : Launch) (M : xMg) (A : Nat → Prop) (k0 : Nat) (a1 : Int32) (S : xSt) (z : xSt) (h : fX12_isDefault k0 a1 S = some z) : xMV l yX12_isDefault cX12_isDefault 2 none 1 tM M A [.ref (M.2.1 k0), .int a1] S z := by
  refine x_metV (plainFor_of_name (by decide)) tM_ok (Nat.le_of_ble_eq_true rfl) (fun Γ hA hnL hl hr o => ?_)
  subst hA; subst hl
  have o : xOk Γ tM M 1 cX12_isDefault RX12 := o
  unfold fX12_isDefault at h
  obtain ⟨hk0, h⟩ := xck h
  refine x_to (l := [(0, .ref (M.2.1 k0)), (1, .int a1)]) ⟨rfl, rfl, trivial⟩ ?_
  refine x_aload_n (pc := 0) o dX12_isDefault_0 rfl rfl ?_
  obtain ⟨r1, hr1, h⟩ := xbs h
  refine gX12_102 (pc := 1) o dX12_isDefault_1 hr1 ?_
  refine x_iconst (pc := 4) o dX12_isDefault_4 ic_3 ?_
  refine x_iload_n (pc := 5) o dX12_isDefault_5 rfl rfl ?_
  refine x_imul (pc := 6) o dX12_isDefault_6 ?_
  refine x_iconst (pc := 7) o dX12_isDefault_7 ic_0 ?_
  refine x_iadd (pc := 8) o dX12_isDefault_8 ?_
  refine x_bipush (pc := 9) o dX12_isDefault_9 bp_100 ?_
  obtain ⟨S2, hS2, h⟩ := xbs h
  refine x_iastore (pc := 11) o dX12_isDefault_11 hS2 ?_
  refine x_aload_n (pc := 12) o dX12_isDefault_12 rfl rfl ?_
  obtain ⟨r3, hr3, h⟩ := xbs h
  refine gX12_102 (pc := 13) o dX12_isDefault_13 hr3 ?_
  refine x_iconst (pc := 16) o dX12_isDefault_16 ic_3 ?_
  refine x_iload_n (pc := 17) o dX12_isDefault_17 rfl rfl ?_
  refine x_imul (pc := 18) o dX12_isDefault_18 ?_
  refine x_iconst (pc := 19) o dX12_isDefault_19 ic_1 ?_
  refine x_iadd (pc := 20) o dX12_isDefault_20 ?_
  refine x_iconst (pc := 21) o dX12_isDefault_21 ic_5 ?_
  obtain ⟨S4, hS4, h⟩ := xbs h
  refine x_iastore (pc := 22) o dX12_isDefault_22 hS4 ?_
  refine x_aload_n (pc := 23) o dX12_isDefault_23 rfl rfl ?_
  obtain ⟨r5, hr5, h⟩ := xbs h
  refine gX12_102 (pc := 24) o dX12_isDefault_24 hr5 ?_
  refine x_iconst (pc := 27) o dX12_isDefault_27 ic_3 ?_
  refine x_iload_n (pc := 28) o dX12_isDefault_28 rfl rfl ?_
  refine x_imul (pc := 29) o dX12_isDefault_29 ?_
  refine x_iconst (pc := 30) o dX12_isDefault_30 ic_2 ?_
  refine x_iadd (pc := 31) o dX12_isDefault_31 ?_
  refine x_iconst (pc := 32) o dX12_isDefault_32 ic_0 ?_
  obtain ⟨S6, hS6, h⟩ := xbs h
  refine x_iastore (pc := 33) o dX12_isDefault_33 hS6 ?_
  refine x_aload_n (pc := 34) o dX12_isDefault_34 rfl rfl ?_
  obtain ⟨r7, hr7, h⟩ := xbs h
  refine gX12_96 (pc := 35) o dX12_isDefault_35 hr7 ?_
  refine x_iload_n (pc := 38) o dX12_isDefault_38 rfl rfl ?_
  refine x_iconst (pc := 39) o dX12_isDefault_39 ic_0 ?_
  obtain ⟨S8, hS8, h⟩ := xbs h
  refine x_iastore (pc := 40) o dX12_isDefault_40 hS8 ?_
  refine x_aload_n (pc := 41) o dX12_isDefault_41 rfl rfl ?_
  obtain ⟨r9, hr9, h⟩ := xbs h
  refine gX12_99 (pc := 42) o dX12_isDefault_42 hr9 ?_
  refine x_iload_n (pc := 45) o dX12_isDefault_45 rfl rfl ?_
  refine x_bipush (pc := 46) o dX12_isDefault_46 bp_9 ?_
  obtain ⟨S10, hS10, h⟩ := xbs h
  refine x_iastore (pc := 48) o dX12_isDefault_48 hS10 ?_
  exact x_vreturn (pc := 49) o hr dX12_isDefault_49 (Option.some.inj h)
def fX12_is (a0 : Int32) (a1 : Int32) (a2 : Int32) (S : xSt) : Option (Int32) :=
  if a0 < a1 then
  (some ((0 : Int32)))
else
  (if a2 < a0 then
  (some ((0 : Int32)))
else
  (some ((1 : Int32))))
set_option maxHeartbeats 4000000 in
theorem tX12_is (l : Launch) (M : xMg) (A : Nat → Prop) (a0 : Int32) (a1 : Int32) (a2 : Int32) (S : xSt) (z : Int32) (h : fX12_is a0 a1 a2 S = some z) : xMI l yX12_is cX12_is 3 (some .boolean) 1 tM M A [.int a0, .int a1, .int a2] S z S := by
  refine x_metI (plainFor_of_name (by decide)) tM_ok (Nat.le_of_ble_eq_true rfl) (fun Γ hA hnL hl hr o => ?_)
  subst hA; subst hl
  have o : xOk Γ tM M 1 cX12_is RX12 := o
  unfold fX12_is at h
  refine x_to (l := [(0, .int a0), (1, .int a1), (2, .int a2)]) ⟨rfl, rfl, rfl, trivial⟩ ?_
  refine x_iload_n (pc := 0) o dX12_is_0 rfl rfl ?_
  refine x_iload_n (pc := 1) o dX12_is_1 rfl rfl ?_
  refine x_icmp_lt (pc := 2) (tgt := 14) o dX12_is_2 (by decide) (fun c2 => ?_) (fun c2 => ?_)
  · have h := xit h c2
    refine x_iconst (pc := 14) o dX12_is_14 ic_0 ?_
    exact x_zreturn (pc := 15) o hr dX12_is_15 (by decide) (Option.some.inj h) rfl
  · have h := xif h c2
    refine x_iload_n (pc := 5) o dX12_is_5 rfl rfl ?_
    refine x_iload_n (pc := 6) o dX12_is_6 rfl rfl ?_
    refine x_icmp_gt (pc := 7) (tgt := 14) o dX12_is_7 (by decide) (fun c1 => ?_) (fun c1 => ?_)
    · have h := xit h c1
      refine x_iconst (pc := 14) o dX12_is_14 ic_0 ?_
      exact x_zreturn (pc := 15) o hr dX12_is_15 (by decide) (Option.some.inj h) rfl
    · have h := xif h c1
      refine x_iconst (pc := 10) o dX12_is_10 ic_1 ?_
      refine x_goto (pc := 11) (tgt := 15) o dX12_is_11 (by decide) ?_
      exact x_zreturn (pc := 15) o hr dX12_is_15 (by decide) (Option.some.inj h) rfl
def fX12_put_L3b (n : Nat) (k0 : Nat) (a1 : Int32) (rec : Int32 → xSt → Option (xSt)) (a2 : Int32) (S : xSt) : Option (xSt) :=
  if a2 < 0 then
  (some S)
else
  ((xgF tM 12 0 k0 S).bind fun r1 =>
  (xgI tM 12 1 k0 S).bind fun v2 =>
  (xas tM r1 v2 ((a1 >>> (a2 &&& 31)) &&& ((255 : Int32))) S).bind fun S3 =>
  (xgI tM 12 1 k0 S3).bind fun v4 =>
  (xpI tM 12 1 k0 (v4 + ((1 : Int32))) S3).bind fun S5 =>
  (some (a2 + (-8 : Int32))).bind fun v6 =>
  rec v6 S5)
def fX12_put_L3 (n : Nat) (k0 : Nat) (a1 : Int32) : Nat → Int32 → xSt → Option (xSt)
  | 0 => fun _ _ => none
  | q + 1 => fX12_put_L3b n k0 a1 (fX12_put_L3 n k0 a1 q)
set_option maxHeartbeats 4000000 in
theorem tX12_put_L3b {Γ : xGm} {M : xMg} (o : xOk Γ tM M 1 cX12_put RX12) (hnL : Γ.2.2.2 = 3) {rec : Int32 → xSt → Option (xSt)} (n : Nat) (k0 : Nat) (a1 : Int32) (a2 : Int32) (S : xSt) (z : (xSt)) (hrec : ∀ (a2 : Int32) (S : xSt), rec a2 S = some z → xAt Γ tM M 3 (xlv [(0, .ref (M.2.1 k0)), (1, .int a1), (2, .int a2)]) [] S) (K : xAt Γ tM M 39 (xlv []) [] z) (h : fX12_put_L3b n k0 a1 rec a2 S = some z) : xAt Γ tM M 3 (xlv [(0, .ref (M.2.1 k0)), (1, .int a1), (2, .int a2)]) [] S := by
  have hn2 : 2 < Γ.2.2.2 := by omega
  unfold fX12_put_L3b at h
  refine x_iload_n (pc := 3) o dX12_put_3 rfl rfl ?_
  refine x_if_lt (pc := 4) (tgt := 39) o dX12_put_4 (by decide) (fun c7 => ?_) (fun c7 => ?_)
  · have h := xit h c7
    refine x_to (l := []) trivial ?_
    cases Option.some.inj h
    exact K
  · have h := xif h c7
    refine x_aload_n (pc := 7) o dX12_put_7 rfl rfl ?_
    obtain ⟨r1, hr1, h⟩ := xbs h
    refine gX12_7 (pc := 8) o dX12_put_8 hr1 ?_
    refine x_aload_n (pc := 11) o dX12_put_11 rfl rfl ?_
    obtain ⟨v2, hv2, h⟩ := xbs h
    refine gX12_13 (pc := 12) o dX12_put_12 hv2 ?_
    refine x_iload_n (pc := 15) o dX12_put_15 rfl rfl ?_
    refine x_iload_n (pc := 16) o dX12_put_16 rfl rfl ?_
    refine x_ishr (pc := 17) o dX12_put_17 ?_
    refine x_sipush (pc := 18) o dX12_put_18 sp_255 ?_
    refine x_iand (pc := 21) o dX12_put_21 ?_
    obtain ⟨S3, hS3, h⟩ := xbs h
    refine x_iastore (pc := 22) o dX12_put_22 hS3 ?_
    refine x_aload_n (pc := 23) o dX12_put_23 rfl rfl ?_
    refine x_dup (pc := 24) o dX12_put_24 rfl ?_
    obtain ⟨v4, hv4, h⟩ := xbs h
    refine gX12_13 (pc := 25) o dX12_put_25 hv4 ?_
    refine x_iconst (pc := 28) o dX12_put_28 ic_1 ?_
    refine x_iadd (pc := 29) o dX12_put_29 ?_
    obtain ⟨S5, hS5, h⟩ := xbs h
    refine pX12_13 (pc := 30) o dX12_put_30 hS5 ?_
    obtain ⟨v6, hv6, h⟩ := xbs h
    refine x_iincE (pc := 33) o dX12_put_33 rfl ic_m8 hn2 hv6 ?_
    refine x_goto (pc := 36) (tgt := 3) o dX12_put_36 (by decide) ?_
    refine x_to (l := [(0, .ref (M.2.1 k0)), (1, .int a1), (2, .int v6)]) ⟨rfl, rfl, rfl, trivial⟩ ?_
    exact hrec v6 S5 h
theorem tX12_put_L3 {Γ : xGm} {M : xMg} (o : xOk Γ tM M 1 cX12_put RX12) (hnL : Γ.2.2.2 = 3) (n : Nat) (k0 : Nat) (a1 : Int32) (z : (xSt)) (K : xAt Γ tM M 39 (xlv []) [] z) : ∀ (q : Nat) (a2 : Int32) (S : xSt), fX12_put_L3 n k0 a1 q a2 S = some z → xAt Γ tM M 3 (xlv [(0, .ref (M.2.1 k0)), (1, .int a1), (2, .int a2)]) [] S := by
  intro q
  induction q with
  | zero => intro a2 S h; cases h
  | succ q ih => intro a2 S h; exact tX12_put_L3b o hnL n k0 a1 a2 S z ih K h
def fX12_put (n : Nat) (k0 : Nat) (a1 : Int32) (S : xSt) : Option (xSt) :=
  if tM.1 k0 = 12 then
  ((fX12_put_L3 n k0 a1 n ((24 : Int32)) S).bind fun z8 => some z8)
  else none
theorem kX12_put {z : xSt} {n : Nat} {k0 : Nat} {a1 : Int32} {S : xSt} (h : fX12_put n k0 a1 S = some z) : tM.1 k0 = 12 := by
  unfold fX12_put at h
  exact (xck h).1
set_option maxHeartbeats 4000000 in
theorem tX12_put (l : Launch) (M : xMg) (A : Nat → Prop) (n : Nat) (k0 : Nat) (a1 : Int32) (S : xSt) (z : xSt) (h : fX12_put n k0 a1 S = some z) : xMV l yX12_put cX12_put 3 none 1 tM M A [.ref (M.2.1 k0), .int a1] S z := by
  refine x_metV (plainFor_of_name (by decide)) tM_ok (Nat.le_of_ble_eq_true rfl) (fun Γ hA hnL hl hr o => ?_)
  subst hA; subst hl
  have o : xOk Γ tM M 1 cX12_put RX12 := o
  unfold fX12_put at h
  obtain ⟨hk0, h⟩ := xck h
  refine x_to (l := [(0, .ref (M.2.1 k0)), (1, .int a1)]) ⟨rfl, rfl, trivial⟩ ?_
  have hn2 : 2 < Γ.2.2.2 := by omega
  refine x_bipush (pc := 0) o dX12_put_0 bp_24 ?_
  refine x_istore_n (pc := 2) o dX12_put_2 rfl hn2 ?_
  obtain ⟨z8, hz8, h⟩ := xbs h
  refine x_to (l := [(0, .ref (M.2.1 k0)), (1, .int a1), (2, .int ((24 : Int32)))]) ⟨rfl, rfl, rfl, trivial⟩ ?_
  refine tX12_put_L3 o hnL n k0 a1 z8 ?_ n ((24 : Int32)) S hz8
  exact x_vreturn (pc := 39) o hr dX12_put_39 (Option.some.inj h)
def fX12_refuses (k0 : Nat) (a1 : Int32) (S : xSt) : Option (Int32 × xSt) :=
  if tM.1 k0 = 12 then
  ((xgF tM 12 53 k0 S).bind fun r1 =>
  (xal tM r1 a1 S).bind fun v2 =>
  (xas tM r1 a1 (v2 + ((1 : Int32))) S).bind fun S3 =>
  some ((-1 : Int32), S3))
  else none
theorem kX12_refuses {z : Int32 × xSt} {k0 : Nat} {a1 : Int32} {S : xSt} (h : fX12_refuses k0 a1 S = some z) : tM.1 k0 = 12 := by
  unfold fX12_refuses at h
  exact (xck h).1
set_option maxHeartbeats 4000000 in
theorem tX12_refuses (l : Launch) (M : xMg) (A : Nat → Prop) (k0 : Nat) (a1 : Int32) (S : xSt) (z : Int32 × xSt) (h : fX12_refuses k0 a1 S = some z) : xMI l yX12_refuses cX12_refuses 2 (some .int) 1 tM M A [.ref (M.2.1 k0), .int a1] S z.1 z.2 := by
  refine x_metI (plainFor_of_name (by decide)) tM_ok (Nat.le_of_ble_eq_true rfl) (fun Γ hA hnL hl hr o => ?_)
  subst hA; subst hl
  have o : xOk Γ tM M 1 cX12_refuses RX12 := o
  unfold fX12_refuses at h
  obtain ⟨hk0, h⟩ := xck h
  refine x_to (l := [(0, .ref (M.2.1 k0)), (1, .int a1)]) ⟨rfl, rfl, trivial⟩ ?_
  refine x_aload_n (pc := 0) o dX12_refuses_0 rfl rfl ?_
  obtain ⟨r1, hr1, h⟩ := xbs h
  refine gX12_174 (pc := 1) o dX12_refuses_1 hr1 ?_
  refine x_iload_n (pc := 4) o dX12_refuses_4 rfl rfl ?_
  refine x_dup2 (pc := 5) o dX12_refuses_5 rfl rfl ?_
  obtain ⟨v2, hv2, h⟩ := xbs h
  refine x_iaload (pc := 6) o dX12_refuses_6 hv2 ?_
  refine x_iconst (pc := 7) o dX12_refuses_7 ic_1 ?_
  refine x_iadd (pc := 8) o dX12_refuses_8 ?_
  obtain ⟨S3, hS3, h⟩ := xbs h
  refine x_iastore (pc := 9) o dX12_refuses_9 hS3 ?_
  refine x_iconst (pc := 10) o dX12_refuses_10 ic_m1 ?_
  exact x_ireturn (pc := 11) o hr dX12_refuses_11 (xr1 h) (xr2 h)
def fX12_feed (n : Nat) (k0 : Nat) (a1 : Int32) (a2 : Int32) (a3 : Int32) (a4 : Int32) (a5 : Int32) (S : xSt) : Option (Int32 × xSt) :=
  if tM.1 k0 = 12 then
  ((xgI tM 12 1 k0 S).bind fun v1 =>
  if (v1 + ((20 : Int32))) ≤ ((1600 : Int32)) then
  ((fX12_put n k0 a1 S).bind fun S2 =>
  (fX12_put n k0 a2 S2).bind fun S3 =>
  (fX12_put n k0 a3 S3).bind fun S4 =>
  (fX12_put n k0 a4 S4).bind fun S5 =>
  (fX12_put n k0 a5 S5).bind fun S6 =>
  (xgI tM 12 1 k0 S6).bind fun v7 =>
  some (v7, S6))
else
  ((fX12_refuses k0 ((0 : Int32)) S).bind fun q8 =>
  some (q8.1, q8.2)))
  else none
theorem kX12_feed {z : Int32 × xSt} {n : Nat} {k0 : Nat} {a1 : Int32} {a2 : Int32} {a3 : Int32} {a4 : Int32} {a5 : Int32} {S : xSt} (h : fX12_feed n k0 a1 a2 a3 a4 a5 S = some z) : tM.1 k0 = 12 := by
  unfold fX12_feed at h
  exact (xck h).1
set_option maxHeartbeats 4000000 in
theorem tX12_feed (l : Launch) (M : xMg) (A : Nat → Prop) (n : Nat) (k0 : Nat) (a1 : Int32) (a2 : Int32) (a3 : Int32) (a4 : Int32) (a5 : Int32) (S : xSt) (z : Int32 × xSt) (h : fX12_feed n k0 a1 a2 a3 a4 a5 S = some z) : xMI l yX12_feed cX12_feed 6 (some .int) 2 tM M A [.ref (M.2.1 k0), .int a1, .int a2, .int a3, .int a4, .int a5] S z.1 z.2 := by
  refine x_metI (plainFor_of_name (by decide)) tM_ok (Nat.le_of_ble_eq_true rfl) (fun Γ hA hnL hl hr o => ?_)
  subst hA; subst hl
  have o : xOk Γ tM M 2 cX12_feed RX12 := o
  unfold fX12_feed at h
  obtain ⟨hk0, h⟩ := xck h
  refine x_to (l := [(0, .ref (M.2.1 k0)), (1, .int a1), (2, .int a2), (3, .int a3), (4, .int a4), (5, .int a5)]) ⟨rfl, rfl, rfl, rfl, rfl, rfl, trivial⟩ ?_
  refine x_aload_n (pc := 0) o dX12_feed_0 rfl rfl ?_
  obtain ⟨v1, hv1, h⟩ := xbs h
  refine gX12_13 (pc := 1) o dX12_feed_1 hv1 ?_
  refine x_bipush (pc := 4) o dX12_feed_4 bp_20 ?_
  refine x_iadd (pc := 6) o dX12_feed_6 ?_
  refine x_sipush (pc := 7) o dX12_feed_7 sp_1600 ?_
  refine x_icmp_le (pc := 10) (tgt := 19) o dX12_feed_10 (by decide) (fun c9 => ?_) (fun c9 => ?_)
  · have h := xit h c9
    refine x_aload_n (pc := 19) o dX12_feed_19 rfl rfl ?_
    refine x_iload_n (pc := 20) o dX12_feed_20 rfl rfl ?_
    obtain ⟨S2, hS2, h⟩ := xbs h
    refine x_callV (pc := 21) (As := [.int a1]) (b := k0) (rest := []) o (tX12_put _ M _ n k0 a1 S S2 hS2) eX12_put mX12_284 clX12 (kX12_put hS2) (by decide) rfl rfl (Nat.le_of_ble_eq_true rfl) dX12_feed_21 ?_
    refine x_aload_n (pc := 24) o dX12_feed_24 rfl rfl ?_
    refine x_iload_n (pc := 25) o dX12_feed_25 rfl rfl ?_
    obtain ⟨S3, hS3, h⟩ := xbs h
    refine x_callV (pc := 26) (As := [.int a2]) (b := k0) (rest := []) o (tX12_put _ M _ n k0 a2 S2 S3 hS3) eX12_put mX12_284 clX12 (kX12_put hS3) (by decide) rfl rfl (Nat.le_of_ble_eq_true rfl) dX12_feed_26 ?_
    refine x_aload_n (pc := 29) o dX12_feed_29 rfl rfl ?_
    refine x_iload_n (pc := 30) o dX12_feed_30 rfl rfl ?_
    obtain ⟨S4, hS4, h⟩ := xbs h
    refine x_callV (pc := 31) (As := [.int a3]) (b := k0) (rest := []) o (tX12_put _ M _ n k0 a3 S3 S4 hS4) eX12_put mX12_284 clX12 (kX12_put hS4) (by decide) rfl rfl (Nat.le_of_ble_eq_true rfl) dX12_feed_31 ?_
    refine x_aload_n (pc := 34) o dX12_feed_34 rfl rfl ?_
    refine x_iload (pc := 35) o dX12_feed_35 rfl ?_
    obtain ⟨S5, hS5, h⟩ := xbs h
    refine x_callV (pc := 37) (As := [.int a4]) (b := k0) (rest := []) o (tX12_put _ M _ n k0 a4 S4 S5 hS5) eX12_put mX12_284 clX12 (kX12_put hS5) (by decide) rfl rfl (Nat.le_of_ble_eq_true rfl) dX12_feed_37 ?_
    refine x_aload_n (pc := 40) o dX12_feed_40 rfl rfl ?_
    refine x_iload (pc := 41) o dX12_feed_41 rfl ?_
    obtain ⟨S6, hS6, h⟩ := xbs h
    refine x_callV (pc := 43) (As := [.int a5]) (b := k0) (rest := []) o (tX12_put _ M _ n k0 a5 S5 S6 hS6) eX12_put mX12_284 clX12 (kX12_put hS6) (by decide) rfl rfl (Nat.le_of_ble_eq_true rfl) dX12_feed_43 ?_
    refine x_aload_n (pc := 46) o dX12_feed_46 rfl rfl ?_
    obtain ⟨v7, hv7, h⟩ := xbs h
    refine gX12_13 (pc := 47) o dX12_feed_47 hv7 ?_
    exact x_ireturn (pc := 50) o hr dX12_feed_50 (xr1 h) (xr2 h)
  · have h := xif h c9
    refine x_aload_n (pc := 13) o dX12_feed_13 rfl rfl ?_
    refine x_iconst (pc := 14) o dX12_feed_14 ic_0 ?_
    obtain ⟨q8, hq8, h⟩ := xbs h
    refine x_callI (pc := 15) (As := [.int ((0 : Int32))]) (b := k0) (rest := []) o (tX12_refuses _ M _ k0 ((0 : Int32)) S q8 hq8) eX12_refuses mX12_280 clX12 (kX12_refuses hq8) (by decide) rfl rfl (Nat.le_of_ble_eq_true rfl) dX12_feed_15 ?_
    exact x_ireturn (pc := 18) o hr dX12_feed_18 (xr1 h) (xr2 h)
def fX12_end (k0 : Nat) (a1 : Int32) (S : xSt) : Option (Int32 × xSt) :=
  if tM.1 k0 = 12 then
  (if a1 < 0 then
  ((fX12_refuses k0 ((0 : Int32)) S).bind fun q1 =>
  if q1.1 < 0 then
  (some ((0 : Int32), q1.2))
else
  (some ((1 : Int32), q1.2)))
else
  ((xgI tM 12 1 k0 S).bind fun v3 =>
  if a1 ≤ v3 then
  ((xpI tM 12 1 k0 a1 S).bind fun S4 =>
  some ((1 : Int32), S4))
else
  ((fX12_refuses k0 ((0 : Int32)) S).bind fun q5 =>
  if q5.1 < 0 then
  (some ((0 : Int32), q5.2))
else
  (some ((1 : Int32), q5.2)))))
  else none
theorem kX12_end {z : Int32 × xSt} {k0 : Nat} {a1 : Int32} {S : xSt} (h : fX12_end k0 a1 S = some z) : tM.1 k0 = 12 := by
  unfold fX12_end at h
  exact (xck h).1
set_option maxHeartbeats 4000000 in
theorem tX12_end (l : Launch) (M : xMg) (A : Nat → Prop) (k0 : Nat) (a1 : Int32) (S : xSt) (z : Int32 × xSt) (h : fX12_end k0 a1 S = some z) : xMI l yX12_end cX12_end 2 (some .boolean) 2 tM M A [.ref (M.2.1 k0), .int a1] S z.1 z.2 := by
  refine x_metI (plainFor_of_name (by decide)) tM_ok (Nat.le_of_ble_eq_true rfl) (fun Γ hA hnL hl hr o => ?_)
  subst hA; subst hl
  have o : xOk Γ tM M 2 cX12_end RX12 := o
  unfold fX12_end at h
  obtain ⟨hk0, h⟩ := xck h
  refine x_to (l := [(0, .ref (M.2.1 k0)), (1, .int a1)]) ⟨rfl, rfl, trivial⟩ ?_
  refine x_iload_n (pc := 0) o dX12_end_0 rfl rfl ?_
  refine x_if_lt (pc := 1) (tgt := 12) o dX12_end_1 (by decide) (fun c8 => ?_) (fun c8 => ?_)
  · have h := xit h c8
    refine x_aload_n (pc := 12) o dX12_end_12 rfl rfl ?_
    refine x_iconst (pc := 13) o dX12_end_13 ic_0 ?_
    obtain ⟨q1, hq1, h⟩ := xbs h
    refine x_callI (pc := 14) (As := [.int ((0 : Int32))]) (b := k0) (rest := []) o (tX12_refuses _ M _ k0 ((0 : Int32)) S q1 hq1) eX12_refuses mX12_280 clX12 (kX12_refuses hq1) (by decide) rfl rfl (Nat.le_of_ble_eq_true rfl) dX12_end_14 ?_
    refine x_if_lt (pc := 17) (tgt := 24) o dX12_end_17 (by decide) (fun c2 => ?_) (fun c2 => ?_)
    · have h := xit h c2
      refine x_iconst (pc := 24) o dX12_end_24 ic_0 ?_
      exact x_zreturn (pc := 25) o hr dX12_end_25 (by decide) (xr1 h) (xr2 h)
    · have h := xif h c2
      refine x_iconst (pc := 20) o dX12_end_20 ic_1 ?_
      refine x_goto (pc := 21) (tgt := 25) o dX12_end_21 (by decide) ?_
      exact x_zreturn (pc := 25) o hr dX12_end_25 (by decide) (xr1 h) (xr2 h)
  · have h := xif h c8
    refine x_iload_n (pc := 4) o dX12_end_4 rfl rfl ?_
    refine x_aload_n (pc := 5) o dX12_end_5 rfl rfl ?_
    obtain ⟨v3, hv3, h⟩ := xbs h
    refine gX12_13 (pc := 6) o dX12_end_6 hv3 ?_
    refine x_icmp_le (pc := 9) (tgt := 26) o dX12_end_9 (by decide) (fun c7 => ?_) (fun c7 => ?_)
    · have h := xit h c7
      refine x_aload_n (pc := 26) o dX12_end_26 rfl rfl ?_
      refine x_iload_n (pc := 27) o dX12_end_27 rfl rfl ?_
      obtain ⟨S4, hS4, h⟩ := xbs h
      refine pX12_13 (pc := 28) o dX12_end_28 hS4 ?_
      refine x_iconst (pc := 31) o dX12_end_31 ic_1 ?_
      exact x_zreturn (pc := 32) o hr dX12_end_32 (by decide) (xr1 h) (xr2 h)
    · have h := xif h c7
      refine x_aload_n (pc := 12) o dX12_end_12 rfl rfl ?_
      refine x_iconst (pc := 13) o dX12_end_13 ic_0 ?_
      obtain ⟨q5, hq5, h⟩ := xbs h
      refine x_callI (pc := 14) (As := [.int ((0 : Int32))]) (b := k0) (rest := []) o (tX12_refuses _ M _ k0 ((0 : Int32)) S q5 hq5) eX12_refuses mX12_280 clX12 (kX12_refuses hq5) (by decide) rfl rfl (Nat.le_of_ble_eq_true rfl) dX12_end_14 ?_
      refine x_if_lt (pc := 17) (tgt := 24) o dX12_end_17 (by decide) (fun c6 => ?_) (fun c6 => ?_)
      · have h := xit h c6
        refine x_iconst (pc := 24) o dX12_end_24 ic_0 ?_
        exact x_zreturn (pc := 25) o hr dX12_end_25 (by decide) (xr1 h) (xr2 h)
      · have h := xif h c6
        refine x_iconst (pc := 20) o dX12_end_20 ic_1 ?_
        refine x_goto (pc := 21) (tgt := 25) o dX12_end_21 (by decide) ?_
        exact x_zreturn (pc := 25) o hr dX12_end_25 (by decide) (xr1 h) (xr2 h)
def fX12_blame (k0 : Nat) (a1 : Int32) (a2 : Int32) (S : xSt) : Option (xSt) :=
  if tM.1 k0 = 12 then
  ((xgI tM 12 8 k0 S).bind fun v1 =>
  if v1 ≤ 0 then
  ((xpI tM 12 8 k0 a1 S).bind fun S2 =>
  (xpI tM 12 9 k0 a2 S2).bind fun S3 =>
  some S3)
else
  (some S))
  else none
theorem kX12_blame {z : xSt} {k0 : Nat} {a1 : Int32} {a2 : Int32} {S : xSt} (h : fX12_blame k0 a1 a2 S = some z) : tM.1 k0 = 12 := by
  unfold fX12_blame at h
  exact (xck h).1
set_option maxHeartbeats 4000000 in
theorem tX12_blame (l : Launch) (M : xMg) (A : Nat → Prop) (k0 : Nat) (a1 : Int32) (a2 : Int32) (S : xSt) (z : xSt) (h : fX12_blame k0 a1 a2 S = some z) : xMV l yX12_blame cX12_blame 3 none 1 tM M A [.ref (M.2.1 k0), .int a1, .int a2] S z := by
  refine x_metV (plainFor_of_name (by decide)) tM_ok (Nat.le_of_ble_eq_true rfl) (fun Γ hA hnL hl hr o => ?_)
  subst hA; subst hl
  have o : xOk Γ tM M 1 cX12_blame RX12 := o
  unfold fX12_blame at h
  obtain ⟨hk0, h⟩ := xck h
  refine x_to (l := [(0, .ref (M.2.1 k0)), (1, .int a1), (2, .int a2)]) ⟨rfl, rfl, rfl, trivial⟩ ?_
  refine x_aload_n (pc := 0) o dX12_blame_0 rfl rfl ?_
  obtain ⟨v1, hv1, h⟩ := xbs h
  refine gX12_36 (pc := 1) o dX12_blame_1 hv1 ?_
  refine x_if_le (pc := 4) (tgt := 8) o dX12_blame_4 (by decide) (fun c4 => ?_) (fun c4 => ?_)
  · have h := xit h c4
    refine x_aload_n (pc := 8) o dX12_blame_8 rfl rfl ?_
    refine x_iload_n (pc := 9) o dX12_blame_9 rfl rfl ?_
    obtain ⟨S2, hS2, h⟩ := xbs h
    refine pX12_36 (pc := 10) o dX12_blame_10 hS2 ?_
    refine x_aload_n (pc := 13) o dX12_blame_13 rfl rfl ?_
    refine x_iload_n (pc := 14) o dX12_blame_14 rfl rfl ?_
    obtain ⟨S3, hS3, h⟩ := xbs h
    refine pX12_39 (pc := 15) o dX12_blame_15 hS3 ?_
    exact x_vreturn (pc := 18) o hr dX12_blame_18 (Option.some.inj h)
  · have h := xif h c4
    exact x_vreturn (pc := 7) o hr dX12_blame_7 (Option.some.inj h)
def fX12_isLetter (a0 : Int32) (S : xSt) : Option (Int32) :=
  if a0 < ((97 : Int32)) then
  (some ((0 : Int32)))
else
  (if ((122 : Int32)) < a0 then
  (some ((0 : Int32)))
else
  (some ((1 : Int32))))
set_option maxHeartbeats 4000000 in
theorem tX12_isLetter (l : Launch) (M : xMg) (A : Nat → Prop) (a0 : Int32) (S : xSt) (z : Int32) (h : fX12_isLetter a0 S = some z) : xMI l yX12_isLetter cX12_isLetter 1 (some .boolean) 1 tM M A [.int a0] S z S := by
  refine x_metI (plainFor_of_name (by decide)) tM_ok (Nat.le_of_ble_eq_true rfl) (fun Γ hA hnL hl hr o => ?_)
  subst hA; subst hl
  have o : xOk Γ tM M 1 cX12_isLetter RX12 := o
  unfold fX12_isLetter at h
  refine x_to (l := [(0, .int a0)]) ⟨rfl, trivial⟩ ?_
  refine x_iload_n (pc := 0) o dX12_isLetter_0 rfl rfl ?_
  refine x_bipush (pc := 1) o dX12_isLetter_1 bp_97 ?_
  refine x_icmp_lt (pc := 3) (tgt := 16) o dX12_isLetter_3 (by decide) (fun c2 => ?_) (fun c2 => ?_)
  · have h := xit h c2
    refine x_iconst (pc := 16) o dX12_isLetter_16 ic_0 ?_
    exact x_zreturn (pc := 17) o hr dX12_isLetter_17 (by decide) (Option.some.inj h) rfl
  · have h := xif h c2
    refine x_iload_n (pc := 6) o dX12_isLetter_6 rfl rfl ?_
    refine x_bipush (pc := 7) o dX12_isLetter_7 bp_122 ?_
    refine x_icmp_gt (pc := 9) (tgt := 16) o dX12_isLetter_9 (by decide) (fun c1 => ?_) (fun c1 => ?_)
    · have h := xit h c1
      refine x_iconst (pc := 16) o dX12_isLetter_16 ic_0 ?_
      exact x_zreturn (pc := 17) o hr dX12_isLetter_17 (by decide) (Option.some.inj h) rfl
    · have h := xif h c1
      refine x_iconst (pc := 12) o dX12_isLetter_12 ic_1 ?_
      refine x_goto (pc := 13) (tgt := 17) o dX12_isLetter_13 (by decide) ?_
      exact x_zreturn (pc := 17) o hr dX12_isLetter_17 (by decide) (Option.some.inj h) rfl
def fX12_isDigit (a0 : Int32) (S : xSt) : Option (Int32) :=
  if a0 < ((48 : Int32)) then
  (some ((0 : Int32)))
else
  (if ((57 : Int32)) < a0 then
  (some ((0 : Int32)))
else
  (some ((1 : Int32))))
set_option maxHeartbeats 4000000 in
theorem tX12_isDigit (l : Launch) (M : xMg) (A : Nat → Prop) (a0 : Int32) (S : xSt) (z : Int32) (h : fX12_isDigit a0 S = some z) : xMI l yX12_isDigit cX12_isDigit 1 (some .boolean) 1 tM M A [.int a0] S z S := by
  refine x_metI (plainFor_of_name (by decide)) tM_ok (Nat.le_of_ble_eq_true rfl) (fun Γ hA hnL hl hr o => ?_)
  subst hA; subst hl
  have o : xOk Γ tM M 1 cX12_isDigit RX12 := o
  unfold fX12_isDigit at h
  refine x_to (l := [(0, .int a0)]) ⟨rfl, trivial⟩ ?_
  refine x_iload_n (pc := 0) o dX12_isDigit_0 rfl rfl ?_
  refine x_bipush (pc := 1) o dX12_isDigit_1 bp_48 ?_
  refine x_icmp_lt (pc := 3) (tgt := 16) o dX12_isDigit_3 (by decide) (fun c2 => ?_) (fun c2 => ?_)
  · have h := xit h c2
    refine x_iconst (pc := 16) o dX12_isDigit_16 ic_0 ?_
    exact x_zreturn (pc := 17) o hr dX12_isDigit_17 (by decide) (Option.some.inj h) rfl
  · have h := xif h c2
    refine x_iload_n (pc := 6) o dX12_isDigit_6 rfl rfl ?_
    refine x_bipush (pc := 7) o dX12_isDigit_7 bp_57 ?_
    refine x_icmp_gt (pc := 9) (tgt := 16) o dX12_isDigit_9 (by decide) (fun c1 => ?_) (fun c1 => ?_)
    · have h := xit h c1
      refine x_iconst (pc := 16) o dX12_isDigit_16 ic_0 ?_
      exact x_zreturn (pc := 17) o hr dX12_isDigit_17 (by decide) (Option.some.inj h) rfl
    · have h := xif h c1
      refine x_iconst (pc := 12) o dX12_isDigit_12 ic_1 ?_
      refine x_goto (pc := 13) (tgt := 17) o dX12_isDigit_13 (by decide) ?_
      exact x_zreturn (pc := 17) o hr dX12_isDigit_17 (by decide) (Option.some.inj h) rfl
def fX12_lex (k0 : Nat) (S : xSt) : Option (xSt) :=
  if tM.1 k0 = 12 then
  ((xgI tM 12 12 k0 S).bind fun v1 =>
  if v1 = ((-1 : Int32)) then
  (some S)
else
  ((xgI tM 12 12 k0 S).bind fun v2 =>
  (fX12_blame k0 ((1 : Int32)) v2 S).bind fun S3 =>
  some S3))
  else none
theorem kX12_lex {z : xSt} {k0 : Nat} {S : xSt} (h : fX12_lex k0 S = some z) : tM.1 k0 = 12 := by
  unfold fX12_lex at h
  exact (xck h).1
set_option maxHeartbeats 4000000 in
theorem tX12_lex (l : Launch) (M : xMg) (A : Nat → Prop) (k0 : Nat) (S : xSt) (z : xSt) (h : fX12_lex k0 S = some z) : xMV l yX12_lex cX12_lex 1 none 2 tM M A [.ref (M.2.1 k0)] S z := by
  refine x_metV (plainFor_of_name (by decide)) tM_ok (Nat.le_of_ble_eq_true rfl) (fun Γ hA hnL hl hr o => ?_)
  subst hA; subst hl
  have o : xOk Γ tM M 2 cX12_lex RX12 := o
  unfold fX12_lex at h
  obtain ⟨hk0, h⟩ := xck h
  refine x_to (l := [(0, .ref (M.2.1 k0))]) ⟨rfl, trivial⟩ ?_
  refine x_aload_n (pc := 0) o dX12_lex_0 rfl rfl ?_
  obtain ⟨v1, hv1, h⟩ := xbs h
  refine gX12_48 (pc := 1) o dX12_lex_1 hv1 ?_
  refine x_iconst (pc := 4) o dX12_lex_4 ic_m1 ?_
  refine x_icmp_eq (pc := 5) (tgt := 17) o dX12_lex_5 (by decide) (fun c4 => ?_) (fun c4 => ?_)
  · have h := xit h c4
    exact x_vreturn (pc := 17) o hr dX12_lex_17 (Option.some.inj h)
  · have h := xif h c4
    refine x_aload_n (pc := 8) o dX12_lex_8 rfl rfl ?_
    refine x_iconst (pc := 9) o dX12_lex_9 ic_1 ?_
    refine x_aload_n (pc := 10) o dX12_lex_10 rfl rfl ?_
    obtain ⟨v2, hv2, h⟩ := xbs h
    refine gX12_48 (pc := 11) o dX12_lex_11 hv2 ?_
    obtain ⟨S3, hS3, h⟩ := xbs h
    refine x_callV (pc := 14) (As := [.int ((1 : Int32)), .int v2]) (b := k0) (rest := []) o (tX12_blame _ M _ k0 ((1 : Int32)) v2 S S3 hS3) eX12_blame mX12_287 clX12 (kX12_blame hS3) (by decide) rfl rfl (Nat.le_of_ble_eq_true rfl) dX12_lex_14 ?_
    exact x_vreturn (pc := 17) o hr dX12_lex_17 (Option.some.inj h)
def fX12_ahead_L5b (n : Nat) (k0 : Nat) (rec : Int32 → xSt → Option (Int32 × xSt)) (a1 : Int32) (S : xSt) : Option (Int32 × xSt) :=
  (xgI tM 12 2 k0 S).bind fun v2 =>
  if v2 ≤ a1 then
  (some (a1, S))
else
  ((xgF tM 12 0 k0 S).bind fun r3 =>
  (xal tM r3 a1 S).bind fun v4 =>
  if v4 = ((32 : Int32)) then
  ((some (a1 + (1 : Int32))).bind fun v5 =>
  rec v5 S)
else
  ((xgF tM 12 0 k0 S).bind fun r6 =>
  (xal tM r6 a1 S).bind fun v7 =>
  if v7 = ((10 : Int32)) then
  ((some (a1 + (1 : Int32))).bind fun v8 =>
  rec v8 S)
else
  (some (a1, S))))
def fX12_ahead_L5 (n : Nat) (k0 : Nat) : Nat → Int32 → xSt → Option (Int32 × xSt)
  | 0 => fun _ _ => none
  | q + 1 => fX12_ahead_L5b n k0 (fX12_ahead_L5 n k0 q)
set_option maxHeartbeats 4000000 in
theorem tX12_ahead_L5b {Γ : xGm} {M : xMg} (o : xOk Γ tM M 2 cX12_ahead RX12) (hnL : Γ.2.2.2 = 6) {rec : Int32 → xSt → Option (Int32 × xSt)} (n : Nat) (k0 : Nat) (a1 : Int32) (S : xSt) (z : (Int32 × xSt)) (hrec : ∀ (a1 : Int32) (S : xSt), rec a1 S = some z → xAt Γ tM M 5 (xlv [(0, .ref (M.2.1 k0)), (1, .int a1)]) [] S) (K : xAt Γ tM M 41 (xlv [(0, .ref (M.2.1 k0)), (1, .int z.1)]) [] z.2) (h : fX12_ahead_L5b n k0 rec a1 S = some z) : xAt Γ tM M 5 (xlv [(0, .ref (M.2.1 k0)), (1, .int a1)]) [] S := by
  have hn1 : 1 < Γ.2.2.2 := by omega
  unfold fX12_ahead_L5b at h
  refine x_iload_n (pc := 5) o dX12_ahead_5 rfl rfl ?_
  refine x_aload_n (pc := 6) o dX12_ahead_6 rfl rfl ?_
  obtain ⟨v2, hv2, h⟩ := xbs h
  refine gX12_17 (pc := 7) o dX12_ahead_7 hv2 ?_
  refine x_icmp_ge (pc := 10) (tgt := 41) o dX12_ahead_10 (by decide) (fun c11 => ?_) (fun c11 => ?_)
  · have h := xit h c11
    refine x_to (l := [(0, .ref (M.2.1 k0)), (1, .int a1)]) ⟨rfl, rfl, trivial⟩ ?_
    cases Option.some.inj h
    exact K
  · have h := xif h c11
    refine x_aload_n (pc := 13) o dX12_ahead_13 rfl rfl ?_
    obtain ⟨r3, hr3, h⟩ := xbs h
    refine gX12_7 (pc := 14) o dX12_ahead_14 hr3 ?_
    refine x_iload_n (pc := 17) o dX12_ahead_17 rfl rfl ?_
    obtain ⟨v4, hv4, h⟩ := xbs h
    refine x_iaload (pc := 18) o dX12_ahead_18 hv4 ?_
    refine x_bipush (pc := 19) o dX12_ahead_19 bp_32 ?_
    refine x_icmp_eq (pc := 21) (tgt := 35) o dX12_ahead_21 (by decide) (fun c10 => ?_) (fun c10 => ?_)
    · have h := xit h c10
      obtain ⟨v5, hv5, h⟩ := xbs h
      refine x_iincE (pc := 35) o dX12_ahead_35 rfl ic_1 hn1 hv5 ?_
      refine x_goto (pc := 38) (tgt := 5) o dX12_ahead_38 (by decide) ?_
      refine x_to (l := [(0, .ref (M.2.1 k0)), (1, .int v5)]) ⟨rfl, rfl, trivial⟩ ?_
      exact hrec v5 S h
    · have h := xif h c10
      refine x_aload_n (pc := 24) o dX12_ahead_24 rfl rfl ?_
      obtain ⟨r6, hr6, h⟩ := xbs h
      refine gX12_7 (pc := 25) o dX12_ahead_25 hr6 ?_
      refine x_iload_n (pc := 28) o dX12_ahead_28 rfl rfl ?_
      obtain ⟨v7, hv7, h⟩ := xbs h
      refine x_iaload (pc := 29) o dX12_ahead_29 hv7 ?_
      refine x_bipush (pc := 30) o dX12_ahead_30 bp_10 ?_
      refine x_icmp_ne (pc := 32) (tgt := 41) o dX12_ahead_32 (by decide) (fun c9 => ?_) (fun c9 => ?_)
      · have h := xif h c9
        refine x_to (l := [(0, .ref (M.2.1 k0)), (1, .int a1)]) ⟨rfl, rfl, trivial⟩ ?_
        cases Option.some.inj h
        exact K
      · have h := xit h c9
        obtain ⟨v8, hv8, h⟩ := xbs h
        refine x_iincE (pc := 35) o dX12_ahead_35 rfl ic_1 hn1 hv8 ?_
        refine x_goto (pc := 38) (tgt := 5) o dX12_ahead_38 (by decide) ?_
        refine x_to (l := [(0, .ref (M.2.1 k0)), (1, .int v8)]) ⟨rfl, rfl, trivial⟩ ?_
        exact hrec v8 S h
theorem tX12_ahead_L5 {Γ : xGm} {M : xMg} (o : xOk Γ tM M 2 cX12_ahead RX12) (hnL : Γ.2.2.2 = 6) (n : Nat) (k0 : Nat) (z : (Int32 × xSt)) (K : xAt Γ tM M 41 (xlv [(0, .ref (M.2.1 k0)), (1, .int z.1)]) [] z.2) : ∀ (q : Nat) (a1 : Int32) (S : xSt), fX12_ahead_L5 n k0 q a1 S = some z → xAt Γ tM M 5 (xlv [(0, .ref (M.2.1 k0)), (1, .int a1)]) [] S := by
  intro q
  induction q with
  | zero => intro a1 S h; cases h
  | succ q ih => intro a1 S h; exact tX12_ahead_L5b o hnL n k0 a1 S z ih K h
def fX12_ahead_B293_204 (n : Nat) (rec : Int32 → Int32 → xSt → Option (Int32 × xSt)) (k0 : Nat) (a1 : Int32) (a2 : Int32) (a3 : Int32) (a4 : Int32) (a5 : Int32) (S : xSt) : Option (Int32 × xSt) :=
  if a4 ≤ a5 then
  ((some (a5 + (1 : Int32))).bind fun v33 =>
  (some (a1 + (1 : Int32))).bind fun v34 =>
  rec v34 v33 S)
else
  (if a3 = 0 then
  ((some (a5 + (1 : Int32))).bind fun v35 =>
  (some (a1 + (1 : Int32))).bind fun v36 =>
  rec v36 v35 S)
else
  ((xgI tM 12 6 k0 S).bind fun v37 =>
  (xgF tM 12 0 k0 S).bind fun r38 =>
  (xal tM r38 a1 S).bind fun v39 =>
  (xpI tM 12 6 k0 (((((10 : Int32)) * v37) + v39) - ((48 : Int32))) S).bind fun S40 =>
  (some (a5 + (1 : Int32))).bind fun v41 =>
  (some (a1 + (1 : Int32))).bind fun v42 =>
  rec v42 v41 S40))
set_option maxHeartbeats 4000000 in
theorem tX12_ahead_B293_204 {Γ : xGm} {M : xMg} (o : xOk Γ tM M 2 cX12_ahead RX12) (hnL : Γ.2.2.2 = 6) {rec : Int32 → Int32 → xSt → Option (Int32 × xSt)} (n : Nat) (k0 : Nat) (a1 : Int32) (a2 : Int32) (a3 : Int32) (a4 : Int32) (a5 : Int32) (S : xSt) (z : (Int32 × xSt)) (hrec : ∀ (a1 : Int32) (a5 : Int32) (S : xSt), rec a1 a5 S = some z → xAt Γ tM M 204 (xlv [(0, .ref (M.2.1 k0)), (1, .int a1), (2, .int a2), (3, .int a3), (4, .int a4), (5, .int a5)]) [] S) (K : xAt Γ tM M 334 (xlv [(0, .ref (M.2.1 k0)), (1, .int z.1)]) [] z.2) (h : fX12_ahead_B293_204 n rec k0 a1 a2 a3 a4 a5 S = some z) : xAt Γ tM M 293 (xlv [(0, .ref (M.2.1 k0)), (1, .int a1), (2, .int a2), (3, .int a3), (4, .int a4), (5, .int a5)]) [] S := by
  have hn1 : 1 < Γ.2.2.2 := by omega
  have hn5 : 5 < Γ.2.2.2 := by omega
  unfold fX12_ahead_B293_204 at h
  refine x_iload (pc := 293) o dX12_ahead_293 rfl ?_
  refine x_iload (pc := 295) o dX12_ahead_295 rfl ?_
  refine x_icmp_ge (pc := 297) (tgt := 325) o dX12_ahead_297 (by decide) (fun c44 => ?_) (fun c44 => ?_)
  · have h := xit h c44
    obtain ⟨v33, hv33, h⟩ := xbs h
    refine x_iincE (pc := 325) o dX12_ahead_325 rfl ic_1 hn5 hv33 ?_
    obtain ⟨v34, hv34, h⟩ := xbs h
    refine x_iincE (pc := 328) o dX12_ahead_328 rfl ic_1 hn1 hv34 ?_
    refine x_goto (pc := 331) (tgt := 204) o dX12_ahead_331 (by decide) ?_
    refine x_to (l := [(0, .ref (M.2.1 k0)), (1, .int v34), (2, .int a2), (3, .int a3), (4, .int a4), (5, .int v33)]) ⟨rfl, rfl, rfl, rfl, rfl, rfl, trivial⟩ ?_
    exact hrec v34 v33 S h
  · have h := xif h c44
    refine x_iload_n (pc := 300) o dX12_ahead_300 rfl rfl ?_
    refine x_if_eq (pc := 301) (tgt := 325) o dX12_ahead_301 (by decide) (fun c43 => ?_) (fun c43 => ?_)
    · have h := xit h c43
      obtain ⟨v35, hv35, h⟩ := xbs h
      refine x_iincE (pc := 325) o dX12_ahead_325 rfl ic_1 hn5 hv35 ?_
      obtain ⟨v36, hv36, h⟩ := xbs h
      refine x_iincE (pc := 328) o dX12_ahead_328 rfl ic_1 hn1 hv36 ?_
      refine x_goto (pc := 331) (tgt := 204) o dX12_ahead_331 (by decide) ?_
      refine x_to (l := [(0, .ref (M.2.1 k0)), (1, .int v36), (2, .int a2), (3, .int a3), (4, .int a4), (5, .int v35)]) ⟨rfl, rfl, rfl, rfl, rfl, rfl, trivial⟩ ?_
      exact hrec v36 v35 S h
    · have h := xif h c43
      refine x_aload_n (pc := 304) o dX12_ahead_304 rfl rfl ?_
      refine x_bipush (pc := 305) o dX12_ahead_305 bp_10 ?_
      refine x_aload_n (pc := 307) o dX12_ahead_307 rfl rfl ?_
      obtain ⟨v37, hv37, h⟩ := xbs h
      refine gX12_29 (pc := 308) o dX12_ahead_308 hv37 ?_
      refine x_imul (pc := 311) o dX12_ahead_311 ?_
      refine x_aload_n (pc := 312) o dX12_ahead_312 rfl rfl ?_
      obtain ⟨r38, hr38, h⟩ := xbs h
      refine gX12_7 (pc := 313) o dX12_ahead_313 hr38 ?_
      refine x_iload_n (pc := 316) o dX12_ahead_316 rfl rfl ?_
      obtain ⟨v39, hv39, h⟩ := xbs h
      refine x_iaload (pc := 317) o dX12_ahead_317 hv39 ?_
      refine x_iadd (pc := 318) o dX12_ahead_318 ?_
      refine x_bipush (pc := 319) o dX12_ahead_319 bp_48 ?_
      refine x_isub (pc := 321) o dX12_ahead_321 ?_
      obtain ⟨S40, hS40, h⟩ := xbs h
      refine pX12_29 (pc := 322) o dX12_ahead_322 hS40 ?_
      obtain ⟨v41, hv41, h⟩ := xbs h
      refine x_iincE (pc := 325) o dX12_ahead_325 rfl ic_1 hn5 hv41 ?_
      obtain ⟨v42, hv42, h⟩ := xbs h
      refine x_iincE (pc := 328) o dX12_ahead_328 rfl ic_1 hn1 hv42 ?_
      refine x_goto (pc := 331) (tgt := 204) o dX12_ahead_331 (by decide) ?_
      refine x_to (l := [(0, .ref (M.2.1 k0)), (1, .int v42), (2, .int a2), (3, .int a3), (4, .int a4), (5, .int v41)]) ⟨rfl, rfl, rfl, rfl, rfl, rfl, trivial⟩ ?_
      exact hrec v42 v41 S40 h
def fX12_ahead_B263_204 (n : Nat) (rec : Int32 → Int32 → xSt → Option (Int32 × xSt)) (k0 : Nat) (a1 : Int32) (a2 : Int32) (a3 : Int32) (a4 : Int32) (a5 : Int32) (S : xSt) : Option (Int32 × xSt) :=
  if a4 ≤ a5 then
  (fX12_ahead_B293_204 n rec k0 a1 a2 a3 a4 a5 S)
else
  (if a2 = 0 then
  (fX12_ahead_B293_204 n rec k0 a1 a2 a3 a4 a5 S)
else
  ((xgL tM 12 7 k0 S).bind fun v45 =>
  (xgF tM 12 0 k0 S).bind fun r46 =>
  (xal tM r46 a1 S).bind fun v47 =>
  (xpL tM 12 7 k0 ((v45 <<< (((8 : Int32)).toInt64 &&& 63)) ||| v47.toInt64) S).bind fun S48 =>
  fX12_ahead_B293_204 n rec k0 a1 a2 a3 a4 a5 S48))
set_option maxHeartbeats 4000000 in
theorem tX12_ahead_B263_204 {Γ : xGm} {M : xMg} (o : xOk Γ tM M 2 cX12_ahead RX12) (hnL : Γ.2.2.2 = 6) {rec : Int32 → Int32 → xSt → Option (Int32 × xSt)} (n : Nat) (k0 : Nat) (a1 : Int32) (a2 : Int32) (a3 : Int32) (a4 : Int32) (a5 : Int32) (S : xSt) (z : (Int32 × xSt)) (hrec : ∀ (a1 : Int32) (a5 : Int32) (S : xSt), rec a1 a5 S = some z → xAt Γ tM M 204 (xlv [(0, .ref (M.2.1 k0)), (1, .int a1), (2, .int a2), (3, .int a3), (4, .int a4), (5, .int a5)]) [] S) (K : xAt Γ tM M 334 (xlv [(0, .ref (M.2.1 k0)), (1, .int z.1)]) [] z.2) (h : fX12_ahead_B263_204 n rec k0 a1 a2 a3 a4 a5 S = some z) : xAt Γ tM M 263 (xlv [(0, .ref (M.2.1 k0)), (1, .int a1), (2, .int a2), (3, .int a3), (4, .int a4), (5, .int a5)]) [] S := by
  unfold fX12_ahead_B263_204 at h
  refine x_iload (pc := 263) o dX12_ahead_263 rfl ?_
  refine x_iload (pc := 265) o dX12_ahead_265 rfl ?_
  refine x_icmp_ge (pc := 267) (tgt := 293) o dX12_ahead_267 (by decide) (fun c50 => ?_) (fun c50 => ?_)
  · have h := xit h c50
    refine x_to (l := [(0, .ref (M.2.1 k0)), (1, .int a1), (2, .int a2), (3, .int a3), (4, .int a4), (5, .int a5)]) ⟨rfl, rfl, rfl, rfl, rfl, rfl, trivial⟩ ?_
    exact tX12_ahead_B293_204 o hnL n k0 a1 a2 a3 a4 a5 S z hrec K  h
  · have h := xif h c50
    refine x_iload_n (pc := 270) o dX12_ahead_270 rfl rfl ?_
    refine x_if_eq (pc := 271) (tgt := 293) o dX12_ahead_271 (by decide) (fun c49 => ?_) (fun c49 => ?_)
    · have h := xit h c49
      refine x_to (l := [(0, .ref (M.2.1 k0)), (1, .int a1), (2, .int a2), (3, .int a3), (4, .int a4), (5, .int a5)]) ⟨rfl, rfl, rfl, rfl, rfl, rfl, trivial⟩ ?_
      exact tX12_ahead_B293_204 o hnL n k0 a1 a2 a3 a4 a5 S z hrec K  h
    · have h := xif h c49
      refine x_aload_n (pc := 274) o dX12_ahead_274 rfl rfl ?_
      refine x_aload_n (pc := 275) o dX12_ahead_275 rfl rfl ?_
      obtain ⟨v45, hv45, h⟩ := xbs h
      refine gX12_32 (pc := 276) o dX12_ahead_276 hv45 ?_
      refine x_bipush (pc := 279) o dX12_ahead_279 bp_8 ?_
      refine x_lshl (pc := 281) o dX12_ahead_281 ?_
      refine x_aload_n (pc := 282) o dX12_ahead_282 rfl rfl ?_
      obtain ⟨r46, hr46, h⟩ := xbs h
      refine gX12_7 (pc := 283) o dX12_ahead_283 hr46 ?_
      refine x_iload_n (pc := 286) o dX12_ahead_286 rfl rfl ?_
      obtain ⟨v47, hv47, h⟩ := xbs h
      refine x_iaload (pc := 287) o dX12_ahead_287 hv47 ?_
      refine x_i2l (pc := 288) o dX12_ahead_288 ?_
      refine x_lor (pc := 289) o dX12_ahead_289 ?_
      obtain ⟨S48, hS48, h⟩ := xbs h
      refine pX12_32 (pc := 290) o dX12_ahead_290 hS48 ?_
      refine x_to (l := [(0, .ref (M.2.1 k0)), (1, .int a1), (2, .int a2), (3, .int a3), (4, .int a4), (5, .int a5)]) ⟨rfl, rfl, rfl, rfl, rfl, rfl, trivial⟩ ?_
      exact tX12_ahead_B293_204 o hnL n k0 a1 a2 a3 a4 a5 S48 z hrec K  h
def fX12_ahead_B243_204 (n : Nat) (rec : Int32 → Int32 → xSt → Option (Int32 × xSt)) (k0 : Nat) (a1 : Int32) (a2 : Int32) (a3 : Int32) (a4 : Int32) (a5 : Int32) (S : xSt) : Option (Int32 × xSt) :=
  if a5 = a4 then
  ((xgI tM 12 12 k0 S).bind fun v51 =>
  if v51 = ((-1 : Int32)) then
  ((xpI tM 12 12 k0 a1 S).bind fun S52 =>
  fX12_ahead_B263_204 n rec k0 a1 a2 a3 a4 a5 S52)
else
  (fX12_ahead_B263_204 n rec k0 a1 a2 a3 a4 a5 S))
else
  (fX12_ahead_B263_204 n rec k0 a1 a2 a3 a4 a5 S)
set_option maxHeartbeats 4000000 in
theorem tX12_ahead_B243_204 {Γ : xGm} {M : xMg} (o : xOk Γ tM M 2 cX12_ahead RX12) (hnL : Γ.2.2.2 = 6) {rec : Int32 → Int32 → xSt → Option (Int32 × xSt)} (n : Nat) (k0 : Nat) (a1 : Int32) (a2 : Int32) (a3 : Int32) (a4 : Int32) (a5 : Int32) (S : xSt) (z : (Int32 × xSt)) (hrec : ∀ (a1 : Int32) (a5 : Int32) (S : xSt), rec a1 a5 S = some z → xAt Γ tM M 204 (xlv [(0, .ref (M.2.1 k0)), (1, .int a1), (2, .int a2), (3, .int a3), (4, .int a4), (5, .int a5)]) [] S) (K : xAt Γ tM M 334 (xlv [(0, .ref (M.2.1 k0)), (1, .int z.1)]) [] z.2) (h : fX12_ahead_B243_204 n rec k0 a1 a2 a3 a4 a5 S = some z) : xAt Γ tM M 243 (xlv [(0, .ref (M.2.1 k0)), (1, .int a1), (2, .int a2), (3, .int a3), (4, .int a4), (5, .int a5)]) [] S := by
  unfold fX12_ahead_B243_204 at h
  refine x_iload (pc := 243) o dX12_ahead_243 rfl ?_
  refine x_iload (pc := 245) o dX12_ahead_245 rfl ?_
  refine x_icmp_ne (pc := 247) (tgt := 263) o dX12_ahead_247 (by decide) (fun c54 => ?_) (fun c54 => ?_)
  · have h := xif h c54
    refine x_to (l := [(0, .ref (M.2.1 k0)), (1, .int a1), (2, .int a2), (3, .int a3), (4, .int a4), (5, .int a5)]) ⟨rfl, rfl, rfl, rfl, rfl, rfl, trivial⟩ ?_
    exact tX12_ahead_B263_204 o hnL n k0 a1 a2 a3 a4 a5 S z hrec K  h
  · have h := xit h c54
    refine x_aload_n (pc := 250) o dX12_ahead_250 rfl rfl ?_
    obtain ⟨v51, hv51, h⟩ := xbs h
    refine gX12_48 (pc := 251) o dX12_ahead_251 hv51 ?_
    refine x_iconst (pc := 254) o dX12_ahead_254 ic_m1 ?_
    refine x_icmp_ne (pc := 255) (tgt := 263) o dX12_ahead_255 (by decide) (fun c53 => ?_) (fun c53 => ?_)
    · have h := xif h c53
      refine x_to (l := [(0, .ref (M.2.1 k0)), (1, .int a1), (2, .int a2), (3, .int a3), (4, .int a4), (5, .int a5)]) ⟨rfl, rfl, rfl, rfl, rfl, rfl, trivial⟩ ?_
      exact tX12_ahead_B263_204 o hnL n k0 a1 a2 a3 a4 a5 S z hrec K  h
    · have h := xit h c53
      refine x_aload_n (pc := 258) o dX12_ahead_258 rfl rfl ?_
      refine x_iload_n (pc := 259) o dX12_ahead_259 rfl rfl ?_
      obtain ⟨S52, hS52, h⟩ := xbs h
      refine pX12_48 (pc := 260) o dX12_ahead_260 hS52 ?_
      refine x_to (l := [(0, .ref (M.2.1 k0)), (1, .int a1), (2, .int a2), (3, .int a3), (4, .int a4), (5, .int a5)]) ⟨rfl, rfl, rfl, rfl, rfl, rfl, trivial⟩ ?_
      exact tX12_ahead_B263_204 o hnL n k0 a1 a2 a3 a4 a5 S52 z hrec K  h
def fX12_ahead_L204b (n : Nat) (k0 : Nat) (a2 : Int32) (a3 : Int32) (a4 : Int32) (rec : Int32 → Int32 → xSt → Option (Int32 × xSt)) (a1 : Int32) (a5 : Int32) (S : xSt) : Option (Int32 × xSt) :=
  (xgI tM 12 2 k0 S).bind fun v29 =>
  if v29 ≤ a1 then
  (some (a1, S))
else
  (if a2 = 0 then
  ((xgF tM 12 0 k0 S).bind fun r30 =>
  (xal tM r30 a1 S).bind fun v31 =>
  (fX12_isDigit v31 S).bind fun v32 =>
  if v32 = 0 then
  (some (a1, S))
else
  (fX12_ahead_B243_204 n rec k0 a1 a2 a3 a4 a5 S))
else
  ((xgF tM 12 0 k0 S).bind fun r56 =>
  (xal tM r56 a1 S).bind fun v57 =>
  (fX12_isLetter v57 S).bind fun v58 =>
  if v58 = 0 then
  (some (a1, S))
else
  (fX12_ahead_B243_204 n rec k0 a1 a2 a3 a4 a5 S)))
def fX12_ahead_L204 (n : Nat) (k0 : Nat) (a2 : Int32) (a3 : Int32) (a4 : Int32) : Nat → Int32 → Int32 → xSt → Option (Int32 × xSt)
  | 0 => fun _ _ _ => none
  | q + 1 => fX12_ahead_L204b n k0 a2 a3 a4 (fX12_ahead_L204 n k0 a2 a3 a4 q)
set_option maxHeartbeats 4000000 in
theorem tX12_ahead_L204b {Γ : xGm} {M : xMg} (o : xOk Γ tM M 2 cX12_ahead RX12) (hnL : Γ.2.2.2 = 6) {rec : Int32 → Int32 → xSt → Option (Int32 × xSt)} (n : Nat) (k0 : Nat) (a2 : Int32) (a3 : Int32) (a4 : Int32) (a1 : Int32) (a5 : Int32) (S : xSt) (z : (Int32 × xSt)) (hrec : ∀ (a1 : Int32) (a5 : Int32) (S : xSt), rec a1 a5 S = some z → xAt Γ tM M 204 (xlv [(0, .ref (M.2.1 k0)), (1, .int a1), (2, .int a2), (3, .int a3), (4, .int a4), (5, .int a5)]) [] S) (K : xAt Γ tM M 334 (xlv [(0, .ref (M.2.1 k0)), (1, .int z.1)]) [] z.2) (h : fX12_ahead_L204b n k0 a2 a3 a4 rec a1 a5 S = some z) : xAt Γ tM M 204 (xlv [(0, .ref (M.2.1 k0)), (1, .int a1), (2, .int a2), (3, .int a3), (4, .int a4), (5, .int a5)]) [] S := by
  unfold fX12_ahead_L204b at h
  refine x_iload_n (pc := 204) o dX12_ahead_204 rfl rfl ?_
  refine x_aload_n (pc := 205) o dX12_ahead_205 rfl rfl ?_
  obtain ⟨v29, hv29, h⟩ := xbs h
  refine gX12_17 (pc := 206) o dX12_ahead_206 hv29 ?_
  refine x_icmp_ge (pc := 209) (tgt := 334) o dX12_ahead_209 (by decide) (fun c61 => ?_) (fun c61 => ?_)
  · have h := xit h c61
    refine x_to (l := [(0, .ref (M.2.1 k0)), (1, .int a1)]) ⟨rfl, rfl, trivial⟩ ?_
    cases Option.some.inj h
    exact K
  · have h := xif h c61
    refine x_iload_n (pc := 212) o dX12_ahead_212 rfl rfl ?_
    refine x_if_eq (pc := 213) (tgt := 231) o dX12_ahead_213 (by decide) (fun c60 => ?_) (fun c60 => ?_)
    · have h := xit h c60
      refine x_aload_n (pc := 231) o dX12_ahead_231 rfl rfl ?_
      obtain ⟨r30, hr30, h⟩ := xbs h
      refine gX12_7 (pc := 232) o dX12_ahead_232 hr30 ?_
      refine x_iload_n (pc := 235) o dX12_ahead_235 rfl rfl ?_
      obtain ⟨v31, hv31, h⟩ := xbs h
      refine x_iaload (pc := 236) o dX12_ahead_236 hv31 ?_
      obtain ⟨v32, hv32, h⟩ := xbs h
      refine x_statI (pc := 237) (As := [.int v31]) (rest := []) o (tX12_isDigit _ M _ v31 S v32 hv32) eX12_isDigit mX12_295 (by decide) rfl rfl (Nat.le_of_ble_eq_true rfl) dX12_ahead_237 ?_
      refine x_if_eq (pc := 240) (tgt := 334) o dX12_ahead_240 (by decide) (fun c55 => ?_) (fun c55 => ?_)
      · have h := xit h c55
        refine x_to (l := [(0, .ref (M.2.1 k0)), (1, .int a1)]) ⟨rfl, rfl, trivial⟩ ?_
        cases Option.some.inj h
        exact K
      · have h := xif h c55
        refine x_to (l := [(0, .ref (M.2.1 k0)), (1, .int a1), (2, .int a2), (3, .int a3), (4, .int a4), (5, .int a5)]) ⟨rfl, rfl, rfl, rfl, rfl, rfl, trivial⟩ ?_
        exact tX12_ahead_B243_204 o hnL n k0 a1 a2 a3 a4 a5 S z hrec K  h
    · have h := xif h c60
      refine x_aload_n (pc := 216) o dX12_ahead_216 rfl rfl ?_
      obtain ⟨r56, hr56, h⟩ := xbs h
      refine gX12_7 (pc := 217) o dX12_ahead_217 hr56 ?_
      refine x_iload_n (pc := 220) o dX12_ahead_220 rfl rfl ?_
      obtain ⟨v57, hv57, h⟩ := xbs h
      refine x_iaload (pc := 221) o dX12_ahead_221 hv57 ?_
      obtain ⟨v58, hv58, h⟩ := xbs h
      refine x_statI (pc := 222) (As := [.int v57]) (rest := []) o (tX12_isLetter _ M _ v57 S v58 hv58) eX12_isLetter mX12_291 (by decide) rfl rfl (Nat.le_of_ble_eq_true rfl) dX12_ahead_222 ?_
      refine x_if_eq (pc := 225) (tgt := 334) o dX12_ahead_225 (by decide) (fun c59 => ?_) (fun c59 => ?_)
      · have h := xit h c59
        refine x_to (l := [(0, .ref (M.2.1 k0)), (1, .int a1)]) ⟨rfl, rfl, trivial⟩ ?_
        cases Option.some.inj h
        exact K
      · have h := xif h c59
        refine x_goto (pc := 228) (tgt := 243) o dX12_ahead_228 (by decide) ?_
        refine x_to (l := [(0, .ref (M.2.1 k0)), (1, .int a1), (2, .int a2), (3, .int a3), (4, .int a4), (5, .int a5)]) ⟨rfl, rfl, rfl, rfl, rfl, rfl, trivial⟩ ?_
        exact tX12_ahead_B243_204 o hnL n k0 a1 a2 a3 a4 a5 S z hrec K  h
theorem tX12_ahead_L204 {Γ : xGm} {M : xMg} (o : xOk Γ tM M 2 cX12_ahead RX12) (hnL : Γ.2.2.2 = 6) (n : Nat) (k0 : Nat) (a2 : Int32) (a3 : Int32) (a4 : Int32) (z : (Int32 × xSt)) (K : xAt Γ tM M 334 (xlv [(0, .ref (M.2.1 k0)), (1, .int z.1)]) [] z.2) : ∀ (q : Nat) (a1 : Int32) (a5 : Int32) (S : xSt), fX12_ahead_L204 n k0 a2 a3 a4 q a1 a5 S = some z → xAt Γ tM M 204 (xlv [(0, .ref (M.2.1 k0)), (1, .int a1), (2, .int a2), (3, .int a3), (4, .int a4), (5, .int a5)]) [] S := by
  intro q
  induction q with
  | zero => intro a1 a5 S h; cases h
  | succ q ih => intro a1 a5 S h; exact tX12_ahead_L204b o hnL n k0 a2 a3 a4 a1 a5 S z ih K h
def fX12_ahead_B199 (n : Nat) (k0 : Nat) (a1 : Int32) (a2 : Int32) (a3 : Int32) (s0 : Int32) (S : xSt) : Option (xSt) :=
  (fX12_ahead_L204 n k0 a2 a3 s0 n a1 ((0 : Int32)) S).bind fun z62 => (xpI tM 12 5 k0 z62.1 z62.2).bind fun S63 =>
  some S63
set_option maxHeartbeats 4000000 in
theorem tX12_ahead_B199 {Γ : xGm} {M : xMg} (o : xOk Γ tM M 2 cX12_ahead RX12) (hnL : Γ.2.2.2 = 6) (n : Nat) (k0 : Nat) (a1 : Int32) (a2 : Int32) (a3 : Int32) (s0 : Int32) (S : xSt) (z : (xSt)) (hr : xRV Γ tM M none z) (h : fX12_ahead_B199 n k0 a1 a2 a3 s0 S = some z) : xAt Γ tM M 199 (xlv [(0, .ref (M.2.1 k0)), (1, .int a1), (2, .int a2), (3, .int a3)]) [.int s0] S := by
  have hn4 : 4 < Γ.2.2.2 := by omega
  have hn5 : 5 < Γ.2.2.2 := by omega
  unfold fX12_ahead_B199 at h
  refine x_istore (pc := 199) o dX12_ahead_199 hn4 ?_
  refine x_iconst (pc := 201) o dX12_ahead_201 ic_0 ?_
  refine x_istore (pc := 202) o dX12_ahead_202 hn5 ?_
  obtain ⟨z62, hz62, h⟩ := xbs h
  refine x_to (l := [(0, .ref (M.2.1 k0)), (1, .int a1), (2, .int a2), (3, .int a3), (4, .int s0), (5, .int ((0 : Int32)))]) ⟨rfl, rfl, rfl, rfl, rfl, rfl, trivial⟩ ?_
  refine tX12_ahead_L204 o hnL n k0 a2 a3 s0 z62 ?_ n a1 ((0 : Int32)) S hz62
  refine x_aload_n (pc := 334) o dX12_ahead_334 rfl rfl ?_
  refine x_iload_n (pc := 335) o dX12_ahead_335 rfl rfl ?_
  obtain ⟨S63, hS63, h⟩ := xbs h
  refine pX12_26 (pc := 336) o dX12_ahead_336 hS63 ?_
  exact x_vreturn (pc := 339) o hr dX12_ahead_339 (Option.some.inj h)
def fX12_ahead_B186 (n : Nat) (k0 : Nat) (a1 : Int32) (a2 : Int32) (a3 : Int32) (s0 : Nat) (s1 : Int32) (S : xSt) : Option (xSt) :=
  (xpI tM 12 3 s0 s1 S).bind fun S28 =>
  if a2 = 0 then
  (fX12_ahead_B199 n k0 a1 a2 a3 ((4 : Int32)) S28)
else
  (fX12_ahead_B199 n k0 a1 a2 a3 ((6 : Int32)) S28)
set_option maxHeartbeats 4000000 in
theorem tX12_ahead_B186 {Γ : xGm} {M : xMg} (o : xOk Γ tM M 2 cX12_ahead RX12) (hnL : Γ.2.2.2 = 6) (n : Nat) (k0 : Nat) (a1 : Int32) (a2 : Int32) (a3 : Int32) (s0 : Nat) (s1 : Int32) (S : xSt) (z : (xSt)) (hr : xRV Γ tM M none z) (h : fX12_ahead_B186 n k0 a1 a2 a3 s0 s1 S = some z) : xAt Γ tM M 186 (xlv [(0, .ref (M.2.1 k0)), (1, .int a1), (2, .int a2), (3, .int a3)]) [.int s1, .ref (M.2.1 s0)] S := by
  unfold fX12_ahead_B186 at h
  obtain ⟨S28, hS28, h⟩ := xbs h
  refine pX12_20 (pc := 186) o dX12_ahead_186 hS28 ?_
  refine x_iload_n (pc := 189) o dX12_ahead_189 rfl rfl ?_
  refine x_if_eq (pc := 190) (tgt := 198) o dX12_ahead_190 (by decide) (fun c64 => ?_) (fun c64 => ?_)
  · have h := xit h c64
    refine x_iconst (pc := 198) o dX12_ahead_198 ic_4 ?_
    refine x_to (l := [(0, .ref (M.2.1 k0)), (1, .int a1), (2, .int a2), (3, .int a3)]) ⟨rfl, rfl, rfl, rfl, trivial⟩ ?_
    exact tX12_ahead_B199 o hnL n k0 a1 a2 a3 ((4 : Int32)) S28 z hr h
  · have h := xif h c64
    refine x_bipush (pc := 193) o dX12_ahead_193 bp_6 ?_
    refine x_goto (pc := 195) (tgt := 199) o dX12_ahead_195 (by decide) ?_
    refine x_to (l := [(0, .ref (M.2.1 k0)), (1, .int a1), (2, .int a2), (3, .int a3)]) ⟨rfl, rfl, rfl, rfl, trivial⟩ ?_
    exact tX12_ahead_B199 o hnL n k0 a1 a2 a3 ((6 : Int32)) S28 z hr h
def fX12_ahead_B176 (n : Nat) (k0 : Nat) (a1 : Int32) (a2 : Int32) (a3 : Int32) (S : xSt) : Option (xSt) :=
  if a2 = 0 then
  (fX12_ahead_B186 n k0 a1 a2 a3 k0 ((2 : Int32)) S)
else
  (fX12_ahead_B186 n k0 a1 a2 a3 k0 ((1 : Int32)) S)
set_option maxHeartbeats 4000000 in
theorem tX12_ahead_B176 {Γ : xGm} {M : xMg} (o : xOk Γ tM M 2 cX12_ahead RX12) (hnL : Γ.2.2.2 = 6) (n : Nat) (k0 : Nat) (a1 : Int32) (a2 : Int32) (a3 : Int32) (S : xSt) (z : (xSt)) (hr : xRV Γ tM M none z) (h : fX12_ahead_B176 n k0 a1 a2 a3 S = some z) : xAt Γ tM M 176 (xlv [(0, .ref (M.2.1 k0)), (1, .int a1), (2, .int a2), (3, .int a3)]) [] S := by
  unfold fX12_ahead_B176 at h
  refine x_aload_n (pc := 176) o dX12_ahead_176 rfl rfl ?_
  refine x_iload_n (pc := 177) o dX12_ahead_177 rfl rfl ?_
  refine x_if_eq (pc := 178) (tgt := 185) o dX12_ahead_178 (by decide) (fun c65 => ?_) (fun c65 => ?_)
  · have h := xit h c65
    refine x_iconst (pc := 185) o dX12_ahead_185 ic_2 ?_
    refine x_to (l := [(0, .ref (M.2.1 k0)), (1, .int a1), (2, .int a2), (3, .int a3)]) ⟨rfl, rfl, rfl, rfl, trivial⟩ ?_
    exact tX12_ahead_B186 o hnL n k0 a1 a2 a3 k0 ((2 : Int32)) S z hr h
  · have h := xif h c65
    refine x_iconst (pc := 181) o dX12_ahead_181 ic_1 ?_
    refine x_goto (pc := 182) (tgt := 186) o dX12_ahead_182 (by decide) ?_
    refine x_to (l := [(0, .ref (M.2.1 k0)), (1, .int a1), (2, .int a2), (3, .int a3)]) ⟨rfl, rfl, rfl, rfl, trivial⟩ ?_
    exact tX12_ahead_B186 o hnL n k0 a1 a2 a3 k0 ((1 : Int32)) S z hr h
def fX12_ahead_B135 (n : Nat) (k0 : Nat) (a1 : Int32) (a2 : Int32) (a3 : Int32) (S : xSt) : Option (xSt) :=
  (xpI tM 12 6 k0 ((0 : Int32)) S).bind fun S24 =>
  (xpL tM 12 7 k0 ((0 : Int64)) S24).bind fun S25 =>
  (xpI tM 12 3 k0 ((3 : Int32)) S25).bind fun S26 =>
  (xpI tM 12 5 k0 (a1 + ((1 : Int32))) S26).bind fun S27 =>
  if a2 = 0 then
  (if a3 = 0 then
  ((xgF tM 12 0 k0 S27).bind fun r66 =>
  (xal tM r66 a1 S27).bind fun v67 =>
  (xpI tM 12 6 k0 v67 S27).bind fun S68 =>
  some S68)
else
  (fX12_ahead_B176 n k0 a1 a2 a3 S27))
else
  (fX12_ahead_B176 n k0 a1 a2 a3 S27)
set_option maxHeartbeats 4000000 in
theorem tX12_ahead_B135 {Γ : xGm} {M : xMg} (o : xOk Γ tM M 2 cX12_ahead RX12) (hnL : Γ.2.2.2 = 6) (n : Nat) (k0 : Nat) (a1 : Int32) (a2 : Int32) (a3 : Int32) (S : xSt) (z : (xSt)) (hr : xRV Γ tM M none z) (h : fX12_ahead_B135 n k0 a1 a2 a3 S = some z) : xAt Γ tM M 135 (xlv [(0, .ref (M.2.1 k0)), (1, .int a1), (2, .int a2), (3, .int a3)]) [] S := by
  unfold fX12_ahead_B135 at h
  refine x_aload_n (pc := 135) o dX12_ahead_135 rfl rfl ?_
  refine x_iconst (pc := 136) o dX12_ahead_136 ic_0 ?_
  obtain ⟨S24, hS24, h⟩ := xbs h
  refine pX12_29 (pc := 137) o dX12_ahead_137 hS24 ?_
  refine x_aload_n (pc := 140) o dX12_ahead_140 rfl rfl ?_
  refine x_lconst (pc := 141) (v := 0) o dX12_ahead_141 rfl ?_
  obtain ⟨S25, hS25, h⟩ := xbs h
  refine pX12_32 (pc := 142) o dX12_ahead_142 hS25 ?_
  refine x_aload_n (pc := 145) o dX12_ahead_145 rfl rfl ?_
  refine x_iconst (pc := 146) o dX12_ahead_146 ic_3 ?_
  obtain ⟨S26, hS26, h⟩ := xbs h
  refine pX12_20 (pc := 147) o dX12_ahead_147 hS26 ?_
  refine x_aload_n (pc := 150) o dX12_ahead_150 rfl rfl ?_
  refine x_iload_n (pc := 151) o dX12_ahead_151 rfl rfl ?_
  refine x_iconst (pc := 152) o dX12_ahead_152 ic_1 ?_
  refine x_iadd (pc := 153) o dX12_ahead_153 ?_
  obtain ⟨S27, hS27, h⟩ := xbs h
  refine pX12_26 (pc := 154) o dX12_ahead_154 hS27 ?_
  refine x_iload_n (pc := 157) o dX12_ahead_157 rfl rfl ?_
  refine x_if_ne (pc := 158) (tgt := 176) o dX12_ahead_158 (by decide) (fun c70 => ?_) (fun c70 => ?_)
  · have h := xif h c70
    refine x_to (l := [(0, .ref (M.2.1 k0)), (1, .int a1), (2, .int a2), (3, .int a3)]) ⟨rfl, rfl, rfl, rfl, trivial⟩ ?_
    exact tX12_ahead_B176 o hnL n k0 a1 a2 a3 S27 z hr h
  · have h := xit h c70
    refine x_iload_n (pc := 161) o dX12_ahead_161 rfl rfl ?_
    refine x_if_ne (pc := 162) (tgt := 176) o dX12_ahead_162 (by decide) (fun c69 => ?_) (fun c69 => ?_)
    · have h := xif h c69
      refine x_to (l := [(0, .ref (M.2.1 k0)), (1, .int a1), (2, .int a2), (3, .int a3)]) ⟨rfl, rfl, rfl, rfl, trivial⟩ ?_
      exact tX12_ahead_B176 o hnL n k0 a1 a2 a3 S27 z hr h
    · have h := xit h c69
      refine x_aload_n (pc := 165) o dX12_ahead_165 rfl rfl ?_
      refine x_aload_n (pc := 166) o dX12_ahead_166 rfl rfl ?_
      obtain ⟨r66, hr66, h⟩ := xbs h
      refine gX12_7 (pc := 167) o dX12_ahead_167 hr66 ?_
      refine x_iload_n (pc := 170) o dX12_ahead_170 rfl rfl ?_
      obtain ⟨v67, hv67, h⟩ := xbs h
      refine x_iaload (pc := 171) o dX12_ahead_171 hv67 ?_
      obtain ⟨S68, hS68, h⟩ := xbs h
      refine pX12_29 (pc := 172) o dX12_ahead_172 hS68 ?_
      exact x_vreturn (pc := 175) o hr dX12_ahead_175 (Option.some.inj h)
def fX12_ahead_B130 (n : Nat) (k0 : Nat) (a1 : Int32) (a2 : Int32) (a3 : Int32) (S : xSt) : Option (xSt) :=
  (xpI tM 12 12 k0 a1 S).bind fun S74 =>
  fX12_ahead_B135 n k0 a1 a2 a3 S74
set_option maxHeartbeats 4000000 in
theorem tX12_ahead_B130 {Γ : xGm} {M : xMg} (o : xOk Γ tM M 2 cX12_ahead RX12) (hnL : Γ.2.2.2 = 6) (n : Nat) (k0 : Nat) (a1 : Int32) (a2 : Int32) (a3 : Int32) (S : xSt) (z : (xSt)) (hr : xRV Γ tM M none z) (h : fX12_ahead_B130 n k0 a1 a2 a3 S = some z) : xAt Γ tM M 130 (xlv [(0, .ref (M.2.1 k0)), (1, .int a1), (2, .int a2), (3, .int a3)]) [] S := by
  unfold fX12_ahead_B130 at h
  refine x_aload_n (pc := 130) o dX12_ahead_130 rfl rfl ?_
  refine x_iload_n (pc := 131) o dX12_ahead_131 rfl rfl ?_
  obtain ⟨S74, hS74, h⟩ := xbs h
  refine pX12_48 (pc := 132) o dX12_ahead_132 hS74 ?_
  refine x_to (l := [(0, .ref (M.2.1 k0)), (1, .int a1), (2, .int a2), (3, .int a3)]) ⟨rfl, rfl, rfl, rfl, trivial⟩ ?_
  exact tX12_ahead_B135 o hnL n k0 a1 a2 a3 S74 z hr h
def fX12_ahead_B98 (n : Nat) (k0 : Nat) (a1 : Int32) (a2 : Int32) (a3 : Int32) (S : xSt) : Option (xSt) :=
  if a1 ≤ 0 then
  (fX12_ahead_B135 n k0 a1 a2 a3 S)
else
  ((xgF tM 12 0 k0 S).bind fun r71 =>
  (xal tM r71 (a1 - ((1 : Int32))) S).bind fun v72 =>
  (fX12_isLetter v72 S).bind fun v73 =>
  if v73 = 0 then
  ((xgF tM 12 0 k0 S).bind fun r75 =>
  (xal tM r75 (a1 - ((1 : Int32))) S).bind fun v76 =>
  (fX12_isDigit v76 S).bind fun v77 =>
  if v77 = 0 then
  (fX12_ahead_B135 n k0 a1 a2 a3 S)
else
  (fX12_ahead_B130 n k0 a1 a2 a3 S))
else
  (fX12_ahead_B130 n k0 a1 a2 a3 S))
set_option maxHeartbeats 4000000 in
theorem tX12_ahead_B98 {Γ : xGm} {M : xMg} (o : xOk Γ tM M 2 cX12_ahead RX12) (hnL : Γ.2.2.2 = 6) (n : Nat) (k0 : Nat) (a1 : Int32) (a2 : Int32) (a3 : Int32) (S : xSt) (z : (xSt)) (hr : xRV Γ tM M none z) (h : fX12_ahead_B98 n k0 a1 a2 a3 S = some z) : xAt Γ tM M 98 (xlv [(0, .ref (M.2.1 k0)), (1, .int a1), (2, .int a2), (3, .int a3)]) [] S := by
  unfold fX12_ahead_B98 at h
  refine x_iload_n (pc := 98) o dX12_ahead_98 rfl rfl ?_
  refine x_if_le (pc := 99) (tgt := 135) o dX12_ahead_99 (by decide) (fun c80 => ?_) (fun c80 => ?_)
  · have h := xit h c80
    refine x_to (l := [(0, .ref (M.2.1 k0)), (1, .int a1), (2, .int a2), (3, .int a3)]) ⟨rfl, rfl, rfl, rfl, trivial⟩ ?_
    exact tX12_ahead_B135 o hnL n k0 a1 a2 a3 S z hr h
  · have h := xif h c80
    refine x_aload_n (pc := 102) o dX12_ahead_102 rfl rfl ?_
    obtain ⟨r71, hr71, h⟩ := xbs h
    refine gX12_7 (pc := 103) o dX12_ahead_103 hr71 ?_
    refine x_iload_n (pc := 106) o dX12_ahead_106 rfl rfl ?_
    refine x_iconst (pc := 107) o dX12_ahead_107 ic_1 ?_
    refine x_isub (pc := 108) o dX12_ahead_108 ?_
    obtain ⟨v72, hv72, h⟩ := xbs h
    refine x_iaload (pc := 109) o dX12_ahead_109 hv72 ?_
    obtain ⟨v73, hv73, h⟩ := xbs h
    refine x_statI (pc := 110) (As := [.int v72]) (rest := []) o (tX12_isLetter _ M _ v72 S v73 hv73) eX12_isLetter mX12_291 (by decide) rfl rfl (Nat.le_of_ble_eq_true rfl) dX12_ahead_110 ?_
    refine x_if_ne (pc := 113) (tgt := 130) o dX12_ahead_113 (by decide) (fun c79 => ?_) (fun c79 => ?_)
    · have h := xif h c79
      refine x_to (l := [(0, .ref (M.2.1 k0)), (1, .int a1), (2, .int a2), (3, .int a3)]) ⟨rfl, rfl, rfl, rfl, trivial⟩ ?_
      exact tX12_ahead_B130 o hnL n k0 a1 a2 a3 S z hr h
    · have h := xit h c79
      refine x_aload_n (pc := 116) o dX12_ahead_116 rfl rfl ?_
      obtain ⟨r75, hr75, h⟩ := xbs h
      refine gX12_7 (pc := 117) o dX12_ahead_117 hr75 ?_
      refine x_iload_n (pc := 120) o dX12_ahead_120 rfl rfl ?_
      refine x_iconst (pc := 121) o dX12_ahead_121 ic_1 ?_
      refine x_isub (pc := 122) o dX12_ahead_122 ?_
      obtain ⟨v76, hv76, h⟩ := xbs h
      refine x_iaload (pc := 123) o dX12_ahead_123 hv76 ?_
      obtain ⟨v77, hv77, h⟩ := xbs h
      refine x_statI (pc := 124) (As := [.int v76]) (rest := []) o (tX12_isDigit _ M _ v76 S v77 hv77) eX12_isDigit mX12_295 (by decide) rfl rfl (Nat.le_of_ble_eq_true rfl) dX12_ahead_124 ?_
      refine x_if_eq (pc := 127) (tgt := 135) o dX12_ahead_127 (by decide) (fun c78 => ?_) (fun c78 => ?_)
      · have h := xit h c78
        refine x_to (l := [(0, .ref (M.2.1 k0)), (1, .int a1), (2, .int a2), (3, .int a3)]) ⟨rfl, rfl, rfl, rfl, trivial⟩ ?_
        exact tX12_ahead_B135 o hnL n k0 a1 a2 a3 S z hr h
      · have h := xif h c78
        refine x_to (l := [(0, .ref (M.2.1 k0)), (1, .int a1), (2, .int a2), (3, .int a3)]) ⟨rfl, rfl, rfl, rfl, trivial⟩ ?_
        exact tX12_ahead_B130 o hnL n k0 a1 a2 a3 S z hr h
def fX12_ahead_B41 (n : Nat) (k0 : Nat) (a1 : Int32) (S : xSt) : Option (xSt) :=
  (xpI tM 12 4 k0 a1 S).bind fun S13 =>
  (xpI tM 12 5 k0 a1 S13).bind fun S14 =>
  (xpI tM 12 3 k0 ((0 : Int32)) S14).bind fun S15 =>
  (xpI tM 12 12 k0 ((-1 : Int32)) S15).bind fun S16 =>
  (xgI tM 12 2 k0 S16).bind fun v17 =>
  if a1 < v17 then
  ((xgF tM 12 0 k0 S16).bind fun r18 =>
  (xal tM r18 a1 S16).bind fun v19 =>
  (fX12_isLetter v19 S16).bind fun v20 =>
  (xgF tM 12 0 k0 S16).bind fun r21 =>
  (xal tM r21 a1 S16).bind fun v22 =>
  (fX12_isDigit v22 S16).bind fun v23 =>
  if v20 = 0 then
  (if v23 = 0 then
  (fX12_ahead_B135 n k0 a1 v20 v23 S16)
else
  (fX12_ahead_B98 n k0 a1 v20 v23 S16))
else
  (fX12_ahead_B98 n k0 a1 v20 v23 S16))
else
  (some S16)
set_option maxHeartbeats 4000000 in
theorem tX12_ahead_B41 {Γ : xGm} {M : xMg} (o : xOk Γ tM M 2 cX12_ahead RX12) (hnL : Γ.2.2.2 = 6) (n : Nat) (k0 : Nat) (a1 : Int32) (S : xSt) (z : (xSt)) (hr : xRV Γ tM M none z) (h : fX12_ahead_B41 n k0 a1 S = some z) : xAt Γ tM M 41 (xlv [(0, .ref (M.2.1 k0)), (1, .int a1)]) [] S := by
  have hn2 : 2 < Γ.2.2.2 := by omega
  have hn3 : 3 < Γ.2.2.2 := by omega
  unfold fX12_ahead_B41 at h
  refine x_aload_n (pc := 41) o dX12_ahead_41 rfl rfl ?_
  refine x_iload_n (pc := 42) o dX12_ahead_42 rfl rfl ?_
  obtain ⟨S13, hS13, h⟩ := xbs h
  refine pX12_23 (pc := 43) o dX12_ahead_43 hS13 ?_
  refine x_aload_n (pc := 46) o dX12_ahead_46 rfl rfl ?_
  refine x_iload_n (pc := 47) o dX12_ahead_47 rfl rfl ?_
  obtain ⟨S14, hS14, h⟩ := xbs h
  refine pX12_26 (pc := 48) o dX12_ahead_48 hS14 ?_
  refine x_aload_n (pc := 51) o dX12_ahead_51 rfl rfl ?_
  refine x_iconst (pc := 52) o dX12_ahead_52 ic_0 ?_
  obtain ⟨S15, hS15, h⟩ := xbs h
  refine pX12_20 (pc := 53) o dX12_ahead_53 hS15 ?_
  refine x_aload_n (pc := 56) o dX12_ahead_56 rfl rfl ?_
  refine x_iconst (pc := 57) o dX12_ahead_57 ic_m1 ?_
  obtain ⟨S16, hS16, h⟩ := xbs h
  refine pX12_48 (pc := 58) o dX12_ahead_58 hS16 ?_
  refine x_iload_n (pc := 61) o dX12_ahead_61 rfl rfl ?_
  refine x_aload_n (pc := 62) o dX12_ahead_62 rfl rfl ?_
  obtain ⟨v17, hv17, h⟩ := xbs h
  refine gX12_17 (pc := 63) o dX12_ahead_63 hv17 ?_
  refine x_icmp_lt (pc := 66) (tgt := 70) o dX12_ahead_66 (by decide) (fun c83 => ?_) (fun c83 => ?_)
  · have h := xit h c83
    refine x_aload_n (pc := 70) o dX12_ahead_70 rfl rfl ?_
    obtain ⟨r18, hr18, h⟩ := xbs h
    refine gX12_7 (pc := 71) o dX12_ahead_71 hr18 ?_
    refine x_iload_n (pc := 74) o dX12_ahead_74 rfl rfl ?_
    obtain ⟨v19, hv19, h⟩ := xbs h
    refine x_iaload (pc := 75) o dX12_ahead_75 hv19 ?_
    obtain ⟨v20, hv20, h⟩ := xbs h
    refine x_statI (pc := 76) (As := [.int v19]) (rest := []) o (tX12_isLetter _ M _ v19 S16 v20 hv20) eX12_isLetter mX12_291 (by decide) rfl rfl (Nat.le_of_ble_eq_true rfl) dX12_ahead_76 ?_
    refine x_istore_n (pc := 79) o dX12_ahead_79 rfl hn2 ?_
    refine x_aload_n (pc := 80) o dX12_ahead_80 rfl rfl ?_
    obtain ⟨r21, hr21, h⟩ := xbs h
    refine gX12_7 (pc := 81) o dX12_ahead_81 hr21 ?_
    refine x_iload_n (pc := 84) o dX12_ahead_84 rfl rfl ?_
    obtain ⟨v22, hv22, h⟩ := xbs h
    refine x_iaload (pc := 85) o dX12_ahead_85 hv22 ?_
    obtain ⟨v23, hv23, h⟩ := xbs h
    refine x_statI (pc := 86) (As := [.int v22]) (rest := []) o (tX12_isDigit _ M _ v22 S16 v23 hv23) eX12_isDigit mX12_295 (by decide) rfl rfl (Nat.le_of_ble_eq_true rfl) dX12_ahead_86 ?_
    refine x_istore_n (pc := 89) o dX12_ahead_89 rfl hn3 ?_
    refine x_iload_n (pc := 90) o dX12_ahead_90 rfl rfl ?_
    refine x_if_ne (pc := 91) (tgt := 98) o dX12_ahead_91 (by decide) (fun c82 => ?_) (fun c82 => ?_)
    · have h := xif h c82
      refine x_to (l := [(0, .ref (M.2.1 k0)), (1, .int a1), (2, .int v20), (3, .int v23)]) ⟨rfl, rfl, rfl, rfl, trivial⟩ ?_
      exact tX12_ahead_B98 o hnL n k0 a1 v20 v23 S16 z hr h
    · have h := xit h c82
      refine x_iload_n (pc := 94) o dX12_ahead_94 rfl rfl ?_
      refine x_if_eq (pc := 95) (tgt := 135) o dX12_ahead_95 (by decide) (fun c81 => ?_) (fun c81 => ?_)
      · have h := xit h c81
        refine x_to (l := [(0, .ref (M.2.1 k0)), (1, .int a1), (2, .int v20), (3, .int v23)]) ⟨rfl, rfl, rfl, rfl, trivial⟩ ?_
        exact tX12_ahead_B135 o hnL n k0 a1 v20 v23 S16 z hr h
      · have h := xif h c81
        refine x_to (l := [(0, .ref (M.2.1 k0)), (1, .int a1), (2, .int v20), (3, .int v23)]) ⟨rfl, rfl, rfl, rfl, trivial⟩ ?_
        exact tX12_ahead_B98 o hnL n k0 a1 v20 v23 S16 z hr h
  · have h := xif h c83
    exact x_vreturn (pc := 69) o hr dX12_ahead_69 (Option.some.inj h)
def fX12_ahead (n : Nat) (k0 : Nat) (S : xSt) : Option (xSt) :=
  if tM.1 k0 = 12 then
  ((xgI tM 12 5 k0 S).bind fun v1 =>
  (fX12_ahead_L5 n k0 n v1 S).bind fun z12 => fX12_ahead_B41 n k0 z12.1 z12.2)
  else none
theorem kX12_ahead {z : xSt} {n : Nat} {k0 : Nat} {S : xSt} (h : fX12_ahead n k0 S = some z) : tM.1 k0 = 12 := by
  unfold fX12_ahead at h
  exact (xck h).1
set_option maxHeartbeats 4000000 in
theorem tX12_ahead (l : Launch) (M : xMg) (A : Nat → Prop) (n : Nat) (k0 : Nat) (S : xSt) (z : xSt) (h : fX12_ahead n k0 S = some z) : xMV l yX12_ahead cX12_ahead 6 none 2 tM M A [.ref (M.2.1 k0)] S z := by
  refine x_metV (plainFor_of_name (by decide)) tM_ok (Nat.le_of_ble_eq_true rfl) (fun Γ hA hnL hl hr o => ?_)
  subst hA; subst hl
  have o : xOk Γ tM M 2 cX12_ahead RX12 := o
  unfold fX12_ahead at h
  obtain ⟨hk0, h⟩ := xck h
  refine x_to (l := [(0, .ref (M.2.1 k0))]) ⟨rfl, trivial⟩ ?_
  have hn1 : 1 < Γ.2.2.2 := by omega
  refine x_aload_n (pc := 0) o dX12_ahead_0 rfl rfl ?_
  obtain ⟨v1, hv1, h⟩ := xbs h
  refine gX12_26 (pc := 1) o dX12_ahead_1 hv1 ?_
  refine x_istore_n (pc := 4) o dX12_ahead_4 rfl hn1 ?_
  obtain ⟨z12, hz12, h⟩ := xbs h
  refine x_to (l := [(0, .ref (M.2.1 k0)), (1, .int v1)]) ⟨rfl, rfl, trivial⟩ ?_
  refine tX12_ahead_L5 o hnL n k0 z12 ?_ n v1 S hz12
  refine x_to (l := [(0, .ref (M.2.1 k0)), (1, .int z12.1)]) ⟨rfl, rfl, trivial⟩ ?_
  exact tX12_ahead_B41 o hnL n k0 z12.1 z12.2 z hr h
