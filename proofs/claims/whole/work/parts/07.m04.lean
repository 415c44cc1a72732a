def fX12_isSign (k0 : Nat) (a1 : Int32) (S : xSt) : Option (Int32) :=
  if tM.1 k0 = 12 then
  ((xgI tM 12 3 k0 S).bind fun v1 =>
  if v1 = ((3 : Int32)) then
  ((xgI tM 12 6 k0 S).bind fun v2 =>
  if v2 = a1 then
  (some ((1 : Int32)))
else
  (some ((0 : Int32))))
else
  (some ((0 : Int32))))
  else none
theorem kX12_isSign {z : Int32} {k0 : Nat} {a1 : Int32} {S : xSt} (h : fX12_isSign k0 a1 S = some z) : tM.1 k0 = 12 := by
  unfold fX12_isSign at h
  exact (xck h).1
set_option maxHeartbeats 4000000 in
theorem tX12_isSign (l : Launch) (M : xMg) (A : Nat → Prop) (k0 : Nat) (a1 : Int32) (S : xSt) (z : Int32) (h : fX12_isSign k0 a1 S = some z) : xMI l yX12_isSign cX12_isSign 2 (some .boolean) 1 tM M A [.ref (M.2.1 k0), .int a1] S z S := by
  refine x_metI (plainFor_of_name (by decide)) tM_ok (Nat.le_of_ble_eq_true rfl) (fun Γ hA hnL hl hr o => ?_)
  subst hA; subst hl
  have o : xOk Γ tM M 1 cX12_isSign RX12 := o
  unfold fX12_isSign at h
  obtain ⟨hk0, h⟩ := xck h
  refine x_to (l := [(0, .ref (M.2.1 k0)), (1, .int a1)]) ⟨rfl, rfl, trivial⟩ ?_
  refine x_aload_n (pc := 0) o dX12_isSign_0 rfl rfl ?_
  obtain ⟨v1, hv1, h⟩ := xbs h
  refine gX12_20 (pc := 1) o dX12_isSign_1 hv1 ?_
  refine x_iconst (pc := 4) o dX12_isSign_4 ic_3 ?_
  refine x_icmp_ne (pc := 5) (tgt := 20) o dX12_isSign_5 (by decide) (fun c4 => ?_) (fun c4 => ?_)
  · have h := xif h c4
    refine x_iconst (pc := 20) o dX12_isSign_20 ic_0 ?_
    exact x_zreturn (pc := 21) o hr dX12_isSign_21 (by decide) (Option.some.inj h) rfl
  · have h := xit h c4
    refine x_aload_n (pc := 8) o dX12_isSign_8 rfl rfl ?_
    obtain ⟨v2, hv2, h⟩ := xbs h
    refine gX12_29 (pc := 9) o dX12_isSign_9 hv2 ?_
    refine x_iload_n (pc := 12) o dX12_isSign_12 rfl rfl ?_
    refine x_icmp_ne (pc := 13) (tgt := 20) o dX12_isSign_13 (by decide) (fun c3 => ?_) (fun c3 => ?_)
    · have h := xif h c3
      refine x_iconst (pc := 20) o dX12_isSign_20 ic_0 ?_
      exact x_zreturn (pc := 21) o hr dX12_isSign_21 (by decide) (Option.some.inj h) rfl
    · have h := xit h c3
      refine x_iconst (pc := 16) o dX12_isSign_16 ic_1 ?_
      refine x_goto (pc := 17) (tgt := 21) o dX12_isSign_17 (by decide) ?_
      exact x_zreturn (pc := 21) o hr dX12_isSign_21 (by decide) (Option.some.inj h) rfl
def fX12_isWord (k0 : Nat) (b1 : Int64) (S : xSt) : Option (Int32) :=
  if tM.1 k0 = 12 then
  ((xgI tM 12 3 k0 S).bind fun v1 =>
  if v1 = ((1 : Int32)) then
  ((xgL tM 12 7 k0 S).bind fun v2 =>
  if (lg_cmp v2 b1) = 0 then
  (some ((1 : Int32)))
else
  (some ((0 : Int32))))
else
  (some ((0 : Int32))))
  else none
theorem kX12_isWord {z : Int32} {k0 : Nat} {b1 : Int64} {S : xSt} (h : fX12_isWord k0 b1 S = some z) : tM.1 k0 = 12 := by
  unfold fX12_isWord at h
  exact (xck h).1
set_option maxHeartbeats 4000000 in
theorem tX12_isWord (l : Launch) (M : xMg) (A : Nat → Prop) (k0 : Nat) (b1 : Int64) (S : xSt) (z : Int32) (h : fX12_isWord k0 b1 S = some z) : xMI l yX12_isWord cX12_isWord 3 (some .boolean) 1 tM M A [.ref (M.2.1 k0), .long b1] S z S := by
  refine x_metI (plainFor_of_name (by decide)) tM_ok (Nat.le_of_ble_eq_true rfl) (fun Γ hA hnL hl hr o => ?_)
  subst hA; subst hl
  have o : xOk Γ tM M 1 cX12_isWord RX12 := o
  unfold fX12_isWord at h
  obtain ⟨hk0, h⟩ := xck h
  refine x_to (l := [(0, .ref (M.2.1 k0)), (1, .long b1)]) ⟨rfl, rfl, trivial⟩ ?_
  refine x_aload_n (pc := 0) o dX12_isWord_0 rfl rfl ?_
  obtain ⟨v1, hv1, h⟩ := xbs h
  refine gX12_20 (pc := 1) o dX12_isWord_1 hv1 ?_
  refine x_iconst (pc := 4) o dX12_isWord_4 ic_1 ?_
  refine x_icmp_ne (pc := 5) (tgt := 21) o dX12_isWord_5 (by decide) (fun c4 => ?_) (fun c4 => ?_)
  · have h := xif h c4
    refine x_iconst (pc := 21) o dX12_isWord_21 ic_0 ?_
    exact x_zreturn (pc := 22) o hr dX12_isWord_22 (by decide) (Option.some.inj h) rfl
  · have h := xit h c4
    refine x_aload_n (pc := 8) o dX12_isWord_8 rfl rfl ?_
    obtain ⟨v2, hv2, h⟩ := xbs h
    refine gX12_32 (pc := 9) o dX12_isWord_9 hv2 ?_
    refine x_lload_n (pc := 12) o dX12_isWord_12 rfl rfl ?_
    refine x_lcmp (pc := 13) o dX12_isWord_13 ?_
    refine x_if_ne (pc := 14) (tgt := 21) o dX12_isWord_14 (by decide) (fun c3 => ?_) (fun c3 => ?_)
    · have h := xif h c3
      refine x_iconst (pc := 21) o dX12_isWord_21 ic_0 ?_
      exact x_zreturn (pc := 22) o hr dX12_isWord_22 (by decide) (Option.some.inj h) rfl
    · have h := xit h c3
      refine x_iconst (pc := 17) o dX12_isWord_17 ic_1 ?_
      refine x_goto (pc := 18) (tgt := 22) o dX12_isWord_18 (by decide) ?_
      exact x_zreturn (pc := 22) o hr dX12_isWord_22 (by decide) (Option.some.inj h) rfl
def fX12_must (n : Nat) (k0 : Nat) (a1 : Int32) (S : xSt) : Option (xSt) :=
  if tM.1 k0 = 12 then
  ((fX12_lex k0 S).bind fun S1 =>
  (fX12_isSign k0 a1 S1).bind fun v2 =>
  if v2 = 0 then
  ((xgI tM 12 4 k0 S1).bind fun v6 =>
  (fX12_blame k0 ((1 : Int32)) v6 S1).bind fun S7 =>
  (xgI tM 12 8 k0 S7).bind fun v8 =>
  if v8 = 0 then
  ((fX12_ahead n k0 S7).bind fun S9 =>
  some S9)
else
  (some S7))
else
  ((xgI tM 12 8 k0 S1).bind fun v3 =>
  if v3 = 0 then
  ((fX12_ahead n k0 S1).bind fun S4 =>
  some S4)
else
  (some S1)))
  else none
theorem kX12_must {z : xSt} {n : Nat} {k0 : Nat} {a1 : Int32} {S : xSt} (h : fX12_must n k0 a1 S = some z) : tM.1 k0 = 12 := by
  unfold fX12_must at h
  exact (xck h).1
set_option maxHeartbeats 4000000 in
theorem tX12_must (l : Launch) (M : xMg) (A : Nat → Prop) (n : Nat) (k0 : Nat) (a1 : Int32) (S : xSt) (z : xSt) (h : fX12_must n k0 a1 S = some z) : xMV l yX12_must cX12_must 2 none 3 tM M A [.ref (M.2.1 k0), .int a1] S z := by
  refine x_metV (plainFor_of_name (by decide)) tM_ok (Nat.le_of_ble_eq_true rfl) (fun Γ hA hnL hl hr o => ?_)
  subst hA; subst hl
  have o : xOk Γ tM M 3 cX12_must RX12 := o
  unfold fX12_must at h
  obtain ⟨hk0, h⟩ := xck h
  refine x_to (l := [(0, .ref (M.2.1 k0)), (1, .int a1)]) ⟨rfl, rfl, trivial⟩ ?_
  refine x_aload_n (pc := 0) o dX12_must_0 rfl rfl ?_
  obtain ⟨S1, hS1, h⟩ := xbs h
  refine x_callV (pc := 1) (As := []) (b := k0) (rest := []) o (tX12_lex _ M _ k0 S S1 hS1) eX12_lex mX12_298 clX12 (kX12_lex hS1) (by decide) rfl rfl (Nat.le_of_ble_eq_true rfl) dX12_must_1 ?_
  refine x_aload_n (pc := 4) o dX12_must_4 rfl rfl ?_
  refine x_iload_n (pc := 5) o dX12_must_5 rfl rfl ?_
  obtain ⟨v2, hv2, h⟩ := xbs h
  refine x_callI (pc := 6) (As := [.int a1]) (b := k0) (rest := []) o (tX12_isSign _ M _ k0 a1 S1 v2 hv2) eX12_isSign mX12_301 clX12 (kX12_isSign hv2) (by decide) rfl rfl (Nat.le_of_ble_eq_true rfl) dX12_must_6 ?_
  refine x_if_ne (pc := 9) (tgt := 21) o dX12_must_9 (by decide) (fun c11 => ?_) (fun c11 => ?_)
  · have h := xif h c11
    refine x_aload_n (pc := 21) o dX12_must_21 rfl rfl ?_
    obtain ⟨v3, hv3, h⟩ := xbs h
    refine gX12_36 (pc := 22) o dX12_must_22 hv3 ?_
    refine x_if_ne (pc := 25) (tgt := 32) o dX12_must_25 (by decide) (fun c5 => ?_) (fun c5 => ?_)
    · have h := xif h c5
      exact x_vreturn (pc := 32) o hr dX12_must_32 (Option.some.inj h)
    · have h := xit h c5
      refine x_aload_n (pc := 28) o dX12_must_28 rfl rfl ?_
      obtain ⟨S4, hS4, h⟩ := xbs h
      refine x_callV (pc := 29) (As := []) (b := k0) (rest := []) o (tX12_ahead _ M _ n k0 S1 S4 hS4) eX12_ahead mX12_304 clX12 (kX12_ahead hS4) (by decide) rfl rfl (Nat.le_of_ble_eq_true rfl) dX12_must_29 ?_
      exact x_vreturn (pc := 32) o hr dX12_must_32 (Option.some.inj h)
  · have h := xit h c11
    refine x_aload_n (pc := 12) o dX12_must_12 rfl rfl ?_
    refine x_iconst (pc := 13) o dX12_must_13 ic_1 ?_
    refine x_aload_n (pc := 14) o dX12_must_14 rfl rfl ?_
    obtain ⟨v6, hv6, h⟩ := xbs h
    refine gX12_23 (pc := 15) o dX12_must_15 hv6 ?_
    obtain ⟨S7, hS7, h⟩ := xbs h
    refine x_callV (pc := 18) (As := [.int ((1 : Int32)), .int v6]) (b := k0) (rest := []) o (tX12_blame _ M _ k0 ((1 : Int32)) v6 S1 S7 hS7) eX12_blame mX12_287 clX12 (kX12_blame hS7) (by decide) rfl rfl (Nat.le_of_ble_eq_true rfl) dX12_must_18 ?_
    refine x_aload_n (pc := 21) o dX12_must_21 rfl rfl ?_
    obtain ⟨v8, hv8, h⟩ := xbs h
    refine gX12_36 (pc := 22) o dX12_must_22 hv8 ?_
    refine x_if_ne (pc := 25) (tgt := 32) o dX12_must_25 (by decide) (fun c10 => ?_) (fun c10 => ?_)
    · have h := xif h c10
      exact x_vreturn (pc := 32) o hr dX12_must_32 (Option.some.inj h)
    · have h := xit h c10
      refine x_aload_n (pc := 28) o dX12_must_28 rfl rfl ?_
      obtain ⟨S9, hS9, h⟩ := xbs h
      refine x_callV (pc := 29) (As := []) (b := k0) (rest := []) o (tX12_ahead _ M _ n k0 S7 S9 hS9) eX12_ahead mX12_304 clX12 (kX12_ahead hS9) (by decide) rfl rfl (Nat.le_of_ble_eq_true rfl) dX12_must_29 ?_
      exact x_vreturn (pc := 32) o hr dX12_must_32 (Option.some.inj h)
def fX12_isOwn (k0 : Nat) (b1 : Int64) (S : xSt) : Option (Int32) :=
  if tM.1 k0 = 12 then
  (if (lg_cmp b1 ((1802071652 : Int64))) = 0 then
  (some ((1 : Int32)))
else
  (if (lg_cmp b1 ((491328337011 : Int64))) = 0 then
  (some ((1 : Int32)))
else
  (if (lg_cmp b1 ((28518 : Int64))) = 0 then
  (some ((1 : Int32)))
else
  (if (lg_cmp b1 ((1953460076 : Int64))) = 0 then
  (some ((1 : Int32)))
else
  (if (lg_cmp b1 ((26995 : Int64))) = 0 then
  (some ((1 : Int32)))
else
  (if (lg_cmp b1 ((2003792494 : Int64))) = 0 then
  (some ((1 : Int32)))
else
  (if (lg_cmp b1 ((1751215716 : Int64))) = 0 then
  (some ((1 : Int32)))
else
  (if (lg_cmp b1 ((461414299507 : Int64))) = 0 then
  (some ((1 : Int32)))
else
  (if (lg_cmp b1 ((6975330 : Int64))) = 0 then
  (some ((1 : Int32)))
else
  (if (lg_cmp b1 ((25209 : Int64))) = 0 then
  (some ((1 : Int32)))
else
  (if (lg_cmp b1 ((1685022067 : Int64))) = 0 then
  (some ((1 : Int32)))
else
  (if (lg_cmp b1 ((126879549252979 : Int64))) = 0 then
  (some ((1 : Int32)))
else
  (if (lg_cmp b1 ((6713202 : Int64))) = 0 then
  (some ((1 : Int32)))
else
  (if (lg_cmp b1 ((24948 : Int64))) = 0 then
  (some ((1 : Int32)))
else
  (if (lg_cmp b1 ((7168377 : Int64))) = 0 then
  (some ((1 : Int32)))
else
  (if (lg_cmp b1 ((512801993331 : Int64))) = 0 then
  (some ((1 : Int32)))
else
  (if (lg_cmp b1 ((108243466677107 : Int64))) = 0 then
  (some ((1 : Int32)))
else
  (if (lg_cmp b1 ((495756866664 : Int64))) = 0 then
  (some ((1 : Int32)))
else
  (if (lg_cmp b1 ((1718185573 : Int64))) = 0 then
  (some ((1 : Int32)))
else
  (if (lg_cmp b1 ((440006570868 : Int64))) = 0 then
  (some ((1 : Int32)))
else
  (if (lg_cmp b1 ((1919251316 : Int64))) = 0 then
  (some ((1 : Int32)))
else
  (if (lg_cmp b1 ((448546566771 : Int64))) = 0 then
  (some ((1 : Int32)))
else
  (if (lg_cmp b1 ((6578553 : Int64))) = 0 then
  (some ((1 : Int32)))
else
  (if (lg_cmp b1 ((1818326117 : Int64))) = 0 then
  (some ((1 : Int32)))
else
  (if (lg_cmp b1 ((1970496868 : Int64))) = 0 then
  (some ((1 : Int32)))
else
  (if (lg_cmp b1 ((26982 : Int64))) = 0 then
  (some ((1 : Int32)))
else
  (if (lg_cmp b1 ((28530 : Int64))) = 0 then
  (some ((1 : Int32)))
else
  (if (lg_cmp b1 ((6385252 : Int64))) = 0 then
  (some ((1 : Int32)))
else
  (if (lg_cmp b1 ((7237492 : Int64))) = 0 then
  (some ((1 : Int32)))
else
  (if (lg_cmp b1 ((6384748 : Int64))) = 0 then
  (some ((1 : Int32)))
else
  (if (lg_cmp b1 ((7170414 : Int64))) = 0 then
  (some ((1 : Int32)))
else
  (if (lg_cmp b1 ((7168376 : Int64))) = 0 then
  (some ((1 : Int32)))
else
  (some ((0 : Int32)))))))))))))))))))))))))))))))))))
  else none
theorem kX12_isOwn {z : Int32} {k0 : Nat} {b1 : Int64} {S : xSt} (h : fX12_isOwn k0 b1 S = some z) : tM.1 k0 = 12 := by
  unfold fX12_isOwn at h
  exact (xck h).1
set_option maxHeartbeats 4000000 in
theorem tX12_isOwn (l : Launch) (M : xMg) (A : Nat → Prop) (k0 : Nat) (b1 : Int64) (S : xSt) (z : Int32) (h : fX12_isOwn k0 b1 S = some z) : xMI l yX12_isOwn cX12_isOwn 3 (some .boolean) 1 tM M A [.ref (M.2.1 k0), .long b1] S z S := by
  refine x_metI (plainFor_of_name (by decide)) tM_ok (Nat.le_of_ble_eq_true rfl) (fun Γ hA hnL hl hr o => ?_)
  subst hA; subst hl
  have o : xOk Γ tM M 1 cX12_isOwn RX12 := o
  unfold fX12_isOwn at h
  obtain ⟨hk0, h⟩ := xck h
  refine x_to (l := [(0, .ref (M.2.1 k0)), (1, .long b1)]) ⟨rfl, rfl, trivial⟩ ?_
  refine x_lload_n (pc := 0) o dX12_isOwn_0 rfl rfl ?_
  refine x_ldc2 (pc := 1) o kcX12_307 dX12_isOwn_1 ?_
  refine x_lcmp (pc := 4) o dX12_isOwn_4 ?_
  refine x_if_eq (pc := 5) (tgt := 40) o dX12_isOwn_5 (by decide) (fun c32 => ?_) (fun c32 => ?_)
  · have h := xit h c32
    refine x_iconst (pc := 40) o dX12_isOwn_40 ic_1 ?_
    exact x_zreturn (pc := 41) o hr dX12_isOwn_41 (by decide) (Option.some.inj h) rfl
  · have h := xif h c32
    refine x_lload_n (pc := 8) o dX12_isOwn_8 rfl rfl ?_
    refine x_ldc2 (pc := 9) o kcX12_309 dX12_isOwn_9 ?_
    refine x_lcmp (pc := 12) o dX12_isOwn_12 ?_
    refine x_if_eq (pc := 13) (tgt := 40) o dX12_isOwn_13 (by decide) (fun c31 => ?_) (fun c31 => ?_)
    · have h := xit h c31
      refine x_iconst (pc := 40) o dX12_isOwn_40 ic_1 ?_
      exact x_zreturn (pc := 41) o hr dX12_isOwn_41 (by decide) (Option.some.inj h) rfl
    · have h := xif h c31
      refine x_lload_n (pc := 16) o dX12_isOwn_16 rfl rfl ?_
      refine x_ldc2 (pc := 17) o kcX12_311 dX12_isOwn_17 ?_
      refine x_lcmp (pc := 20) o dX12_isOwn_20 ?_
      refine x_if_eq (pc := 21) (tgt := 40) o dX12_isOwn_21 (by decide) (fun c30 => ?_) (fun c30 => ?_)
      · have h := xit h c30
        refine x_iconst (pc := 40) o dX12_isOwn_40 ic_1 ?_
        exact x_zreturn (pc := 41) o hr dX12_isOwn_41 (by decide) (Option.some.inj h) rfl
      · have h := xif h c30
        refine x_lload_n (pc := 24) o dX12_isOwn_24 rfl rfl ?_
        refine x_ldc2 (pc := 25) o kcX12_313 dX12_isOwn_25 ?_
        refine x_lcmp (pc := 28) o dX12_isOwn_28 ?_
        refine x_if_eq (pc := 29) (tgt := 40) o dX12_isOwn_29 (by decide) (fun c29 => ?_) (fun c29 => ?_)
        · have h := xit h c29
          refine x_iconst (pc := 40) o dX12_isOwn_40 ic_1 ?_
          exact x_zreturn (pc := 41) o hr dX12_isOwn_41 (by decide) (Option.some.inj h) rfl
        · have h := xif h c29
          refine x_lload_n (pc := 32) o dX12_isOwn_32 rfl rfl ?_
          refine x_ldc2 (pc := 33) o kcX12_315 dX12_isOwn_33 ?_
          refine x_lcmp (pc := 36) o dX12_isOwn_36 ?_
          refine x_if_ne (pc := 37) (tgt := 42) o dX12_isOwn_37 (by decide) (fun c28 => ?_) (fun c28 => ?_)
          · have h := xif h c28
            refine x_lload_n (pc := 42) o dX12_isOwn_42 rfl rfl ?_
            refine x_ldc2 (pc := 43) o kcX12_317 dX12_isOwn_43 ?_
            refine x_lcmp (pc := 46) o dX12_isOwn_46 ?_
            refine x_if_eq (pc := 47) (tgt := 82) o dX12_isOwn_47 (by decide) (fun c27 => ?_) (fun c27 => ?_)
            · have h := xit h c27
              refine x_iconst (pc := 82) o dX12_isOwn_82 ic_1 ?_
              exact x_zreturn (pc := 83) o hr dX12_isOwn_83 (by decide) (Option.some.inj h) rfl
            · have h := xif h c27
              refine x_lload_n (pc := 50) o dX12_isOwn_50 rfl rfl ?_
              refine x_ldc2 (pc := 51) o kcX12_319 dX12_isOwn_51 ?_
              refine x_lcmp (pc := 54) o dX12_isOwn_54 ?_
              refine x_if_eq (pc := 55) (tgt := 82) o dX12_isOwn_55 (by decide) (fun c26 => ?_) (fun c26 => ?_)
              · have h := xit h c26
                refine x_iconst (pc := 82) o dX12_isOwn_82 ic_1 ?_
                exact x_zreturn (pc := 83) o hr dX12_isOwn_83 (by decide) (Option.some.inj h) rfl
              · have h := xif h c26
                refine x_lload_n (pc := 58) o dX12_isOwn_58 rfl rfl ?_
                refine x_ldc2 (pc := 59) o kcX12_321 dX12_isOwn_59 ?_
                refine x_lcmp (pc := 62) o dX12_isOwn_62 ?_
                refine x_if_eq (pc := 63) (tgt := 82) o dX12_isOwn_63 (by decide) (fun c25 => ?_) (fun c25 => ?_)
                · have h := xit h c25
                  refine x_iconst (pc := 82) o dX12_isOwn_82 ic_1 ?_
                  exact x_zreturn (pc := 83) o hr dX12_isOwn_83 (by decide) (Option.some.inj h) rfl
                · have h := xif h c25
                  refine x_lload_n (pc := 66) o dX12_isOwn_66 rfl rfl ?_
                  refine x_ldc2 (pc := 67) o kcX12_323 dX12_isOwn_67 ?_
                  refine x_lcmp (pc := 70) o dX12_isOwn_70 ?_
                  refine x_if_eq (pc := 71) (tgt := 82) o dX12_isOwn_71 (by decide) (fun c24 => ?_) (fun c24 => ?_)
                  · have h := xit h c24
                    refine x_iconst (pc := 82) o dX12_isOwn_82 ic_1 ?_
                    exact x_zreturn (pc := 83) o hr dX12_isOwn_83 (by decide) (Option.some.inj h) rfl
                  · have h := xif h c24
                    refine x_lload_n (pc := 74) o dX12_isOwn_74 rfl rfl ?_
                    refine x_ldc2 (pc := 75) o kcX12_325 dX12_isOwn_75 ?_
                    refine x_lcmp (pc := 78) o dX12_isOwn_78 ?_
                    refine x_if_ne (pc := 79) (tgt := 84) o dX12_isOwn_79 (by decide) (fun c23 => ?_) (fun c23 => ?_)
                    · have h := xif h c23
                      refine x_lload_n (pc := 84) o dX12_isOwn_84 rfl rfl ?_
                      refine x_ldc2 (pc := 85) o kcX12_327 dX12_isOwn_85 ?_
                      refine x_lcmp (pc := 88) o dX12_isOwn_88 ?_
                      refine x_if_eq (pc := 89) (tgt := 124) o dX12_isOwn_89 (by decide) (fun c22 => ?_) (fun c22 => ?_)
                      · have h := xit h c22
                        refine x_iconst (pc := 124) o dX12_isOwn_124 ic_1 ?_
                        exact x_zreturn (pc := 125) o hr dX12_isOwn_125 (by decide) (Option.some.inj h) rfl
                      · have h := xif h c22
                        refine x_lload_n (pc := 92) o dX12_isOwn_92 rfl rfl ?_
                        refine x_ldc2 (pc := 93) o kcX12_329 dX12_isOwn_93 ?_
                        refine x_lcmp (pc := 96) o dX12_isOwn_96 ?_
                        refine x_if_eq (pc := 97) (tgt := 124) o dX12_isOwn_97 (by decide) (fun c21 => ?_) (fun c21 => ?_)
                        · have h := xit h c21
                          refine x_iconst (pc := 124) o dX12_isOwn_124 ic_1 ?_
                          exact x_zreturn (pc := 125) o hr dX12_isOwn_125 (by decide) (Option.some.inj h) rfl
                        · have h := xif h c21
                          refine x_lload_n (pc := 100) o dX12_isOwn_100 rfl rfl ?_
                          refine x_ldc2 (pc := 101) o kcX12_331 dX12_isOwn_101 ?_
                          refine x_lcmp (pc := 104) o dX12_isOwn_104 ?_
                          refine x_if_eq (pc := 105) (tgt := 124) o dX12_isOwn_105 (by decide) (fun c20 => ?_) (fun c20 => ?_)
                          · have h := xit h c20
                            refine x_iconst (pc := 124) o dX12_isOwn_124 ic_1 ?_
                            exact x_zreturn (pc := 125) o hr dX12_isOwn_125 (by decide) (Option.some.inj h) rfl
                          · have h := xif h c20
                            refine x_lload_n (pc := 108) o dX12_isOwn_108 rfl rfl ?_
                            refine x_ldc2 (pc := 109) o kcX12_333 dX12_isOwn_109 ?_
                            refine x_lcmp (pc := 112) o dX12_isOwn_112 ?_
                            refine x_if_eq (pc := 113) (tgt := 124) o dX12_isOwn_113 (by decide) (fun c19 => ?_) (fun c19 => ?_)
                            · have h := xit h c19
                              refine x_iconst (pc := 124) o dX12_isOwn_124 ic_1 ?_
                              exact x_zreturn (pc := 125) o hr dX12_isOwn_125 (by decide) (Option.some.inj h) rfl
                            · have h := xif h c19
                              refine x_lload_n (pc := 116) o dX12_isOwn_116 rfl rfl ?_
                              refine x_ldc2 (pc := 117) o kcX12_335 dX12_isOwn_117 ?_
                              refine x_lcmp (pc := 120) o dX12_isOwn_120 ?_
                              refine x_if_ne (pc := 121) (tgt := 126) o dX12_isOwn_121 (by decide) (fun c18 => ?_) (fun c18 => ?_)
                              · have h := xif h c18
                                refine x_lload_n (pc := 126) o dX12_isOwn_126 rfl rfl ?_
                                refine x_ldc2 (pc := 127) o kcX12_337 dX12_isOwn_127 ?_
                                refine x_lcmp (pc := 130) o dX12_isOwn_130 ?_
                                refine x_if_eq (pc := 131) (tgt := 166) o dX12_isOwn_131 (by decide) (fun c17 => ?_) (fun c17 => ?_)
                                · have h := xit h c17
                                  refine x_iconst (pc := 166) o dX12_isOwn_166 ic_1 ?_
                                  exact x_zreturn (pc := 167) o hr dX12_isOwn_167 (by decide) (Option.some.inj h) rfl
                                · have h := xif h c17
                                  refine x_lload_n (pc := 134) o dX12_isOwn_134 rfl rfl ?_
                                  refine x_ldc2 (pc := 135) o kcX12_339 dX12_isOwn_135 ?_
                                  refine x_lcmp (pc := 138) o dX12_isOwn_138 ?_
                                  refine x_if_eq (pc := 139) (tgt := 166) o dX12_isOwn_139 (by decide) (fun c16 => ?_) (fun c16 => ?_)
                                  · have h := xit h c16
                                    refine x_iconst (pc := 166) o dX12_isOwn_166 ic_1 ?_
                                    exact x_zreturn (pc := 167) o hr dX12_isOwn_167 (by decide) (Option.some.inj h) rfl
                                  · have h := xif h c16
                                    refine x_lload_n (pc := 142) o dX12_isOwn_142 rfl rfl ?_
                                    refine x_ldc2 (pc := 143) o kcX12_341 dX12_isOwn_143 ?_
                                    refine x_lcmp (pc := 146) o dX12_isOwn_146 ?_
                                    refine x_if_eq (pc := 147) (tgt := 166) o dX12_isOwn_147 (by decide) (fun c15 => ?_) (fun c15 => ?_)
                                    · have h := xit h c15
                                      refine x_iconst (pc := 166) o dX12_isOwn_166 ic_1 ?_
                                      exact x_zreturn (pc := 167) o hr dX12_isOwn_167 (by decide) (Option.some.inj h) rfl
                                    · have h := xif h c15
                                      refine x_lload_n (pc := 150) o dX12_isOwn_150 rfl rfl ?_
                                      refine x_ldc2 (pc := 151) o kcX12_343 dX12_isOwn_151 ?_
                                      refine x_lcmp (pc := 154) o dX12_isOwn_154 ?_
                                      refine x_if_eq (pc := 155) (tgt := 166) o dX12_isOwn_155 (by decide) (fun c14 => ?_) (fun c14 => ?_)
                                      · have h := xit h c14
                                        refine x_iconst (pc := 166) o dX12_isOwn_166 ic_1 ?_
                                        exact x_zreturn (pc := 167) o hr dX12_isOwn_167 (by decide) (Option.some.inj h) rfl
                                      · have h := xif h c14
                                        refine x_lload_n (pc := 158) o dX12_isOwn_158 rfl rfl ?_
                                        refine x_ldc2 (pc := 159) o kcX12_345 dX12_isOwn_159 ?_
                                        refine x_lcmp (pc := 162) o dX12_isOwn_162 ?_
                                        refine x_if_ne (pc := 163) (tgt := 168) o dX12_isOwn_163 (by decide) (fun c13 => ?_) (fun c13 => ?_)
                                        · have h := xif h c13
                                          refine x_lload_n (pc := 168) o dX12_isOwn_168 rfl rfl ?_
                                          refine x_ldc2 (pc := 169) o kcX12_347 dX12_isOwn_169 ?_
                                          refine x_lcmp (pc := 172) o dX12_isOwn_172 ?_
                                          refine x_if_eq (pc := 173) (tgt := 208) o dX12_isOwn_173 (by decide) (fun c12 => ?_) (fun c12 => ?_)
                                          · have h := xit h c12
                                            refine x_iconst (pc := 208) o dX12_isOwn_208 ic_1 ?_
                                            exact x_zreturn (pc := 209) o hr dX12_isOwn_209 (by decide) (Option.some.inj h) rfl
                                          · have h := xif h c12
                                            refine x_lload_n (pc := 176) o dX12_isOwn_176 rfl rfl ?_
                                            refine x_ldc2 (pc := 177) o kcX12_349 dX12_isOwn_177 ?_
                                            refine x_lcmp (pc := 180) o dX12_isOwn_180 ?_
                                            refine x_if_eq (pc := 181) (tgt := 208) o dX12_isOwn_181 (by decide) (fun c11 => ?_) (fun c11 => ?_)
                                            · have h := xit h c11
                                              refine x_iconst (pc := 208) o dX12_isOwn_208 ic_1 ?_
                                              exact x_zreturn (pc := 209) o hr dX12_isOwn_209 (by decide) (Option.some.inj h) rfl
                                            · have h := xif h c11
                                              refine x_lload_n (pc := 184) o dX12_isOwn_184 rfl rfl ?_
                                              refine x_ldc2 (pc := 185) o kcX12_351 dX12_isOwn_185 ?_
                                              refine x_lcmp (pc := 188) o dX12_isOwn_188 ?_
                                              refine x_if_eq (pc := 189) (tgt := 208) o dX12_isOwn_189 (by decide) (fun c10 => ?_) (fun c10 => ?_)
                                              · have h := xit h c10
                                                refine x_iconst (pc := 208) o dX12_isOwn_208 ic_1 ?_
                                                exact x_zreturn (pc := 209) o hr dX12_isOwn_209 (by decide) (Option.some.inj h) rfl
                                              · have h := xif h c10
                                                refine x_lload_n (pc := 192) o dX12_isOwn_192 rfl rfl ?_
                                                refine x_ldc2 (pc := 193) o kcX12_353 dX12_isOwn_193 ?_
                                                refine x_lcmp (pc := 196) o dX12_isOwn_196 ?_
                                                refine x_if_eq (pc := 197) (tgt := 208) o dX12_isOwn_197 (by decide) (fun c9 => ?_) (fun c9 => ?_)
                                                · have h := xit h c9
                                                  refine x_iconst (pc := 208) o dX12_isOwn_208 ic_1 ?_
                                                  exact x_zreturn (pc := 209) o hr dX12_isOwn_209 (by decide) (Option.some.inj h) rfl
                                                · have h := xif h c9
                                                  refine x_lload_n (pc := 200) o dX12_isOwn_200 rfl rfl ?_
                                                  refine x_ldc2 (pc := 201) o kcX12_355 dX12_isOwn_201 ?_
                                                  refine x_lcmp (pc := 204) o dX12_isOwn_204 ?_
                                                  refine x_if_ne (pc := 205) (tgt := 210) o dX12_isOwn_205 (by decide) (fun c8 => ?_) (fun c8 => ?_)
                                                  · have h := xif h c8
                                                    refine x_lload_n (pc := 210) o dX12_isOwn_210 rfl rfl ?_
                                                    refine x_ldc2 (pc := 211) o kcX12_357 dX12_isOwn_211 ?_
                                                    refine x_lcmp (pc := 214) o dX12_isOwn_214 ?_
                                                    refine x_if_eq (pc := 215) (tgt := 250) o dX12_isOwn_215 (by decide) (fun c7 => ?_) (fun c7 => ?_)
                                                    · have h := xit h c7
                                                      refine x_iconst (pc := 250) o dX12_isOwn_250 ic_1 ?_
                                                      exact x_zreturn (pc := 251) o hr dX12_isOwn_251 (by decide) (Option.some.inj h) rfl
                                                    · have h := xif h c7
                                                      refine x_lload_n (pc := 218) o dX12_isOwn_218 rfl rfl ?_
                                                      refine x_ldc2 (pc := 219) o kcX12_359 dX12_isOwn_219 ?_
                                                      refine x_lcmp (pc := 222) o dX12_isOwn_222 ?_
                                                      refine x_if_eq (pc := 223) (tgt := 250) o dX12_isOwn_223 (by decide) (fun c6 => ?_) (fun c6 => ?_)
                                                      · have h := xit h c6
                                                        refine x_iconst (pc := 250) o dX12_isOwn_250 ic_1 ?_
                                                        exact x_zreturn (pc := 251) o hr dX12_isOwn_251 (by decide) (Option.some.inj h) rfl
                                                      · have h := xif h c6
                                                        refine x_lload_n (pc := 226) o dX12_isOwn_226 rfl rfl ?_
                                                        refine x_ldc2 (pc := 227) o kcX12_361 dX12_isOwn_227 ?_
                                                        refine x_lcmp (pc := 230) o dX12_isOwn_230 ?_
                                                        refine x_if_eq (pc := 231) (tgt := 250) o dX12_isOwn_231 (by decide) (fun c5 => ?_) (fun c5 => ?_)
                                                        · have h := xit h c5
                                                          refine x_iconst (pc := 250) o dX12_isOwn_250 ic_1 ?_
                                                          exact x_zreturn (pc := 251) o hr dX12_isOwn_251 (by decide) (Option.some.inj h) rfl
                                                        · have h := xif h c5
                                                          refine x_lload_n (pc := 234) o dX12_isOwn_234 rfl rfl ?_
                                                          refine x_ldc2 (pc := 235) o kcX12_363 dX12_isOwn_235 ?_
                                                          refine x_lcmp (pc := 238) o dX12_isOwn_238 ?_
                                                          refine x_if_eq (pc := 239) (tgt := 250) o dX12_isOwn_239 (by decide) (fun c4 => ?_) (fun c4 => ?_)
                                                          · have h := xit h c4
                                                            refine x_iconst (pc := 250) o dX12_isOwn_250 ic_1 ?_
                                                            exact x_zreturn (pc := 251) o hr dX12_isOwn_251 (by decide) (Option.some.inj h) rfl
                                                          · have h := xif h c4
                                                            refine x_lload_n (pc := 242) o dX12_isOwn_242 rfl rfl ?_
                                                            refine x_ldc2 (pc := 243) o kcX12_365 dX12_isOwn_243 ?_
                                                            refine x_lcmp (pc := 246) o dX12_isOwn_246 ?_
                                                            refine x_if_ne (pc := 247) (tgt := 252) o dX12_isOwn_247 (by decide) (fun c3 => ?_) (fun c3 => ?_)
                                                            · have h := xif h c3
                                                              refine x_lload_n (pc := 252) o dX12_isOwn_252 rfl rfl ?_
                                                              refine x_ldc2 (pc := 253) o kcX12_367 dX12_isOwn_253 ?_
                                                              refine x_lcmp (pc := 256) o dX12_isOwn_256 ?_
                                                              refine x_if_eq (pc := 257) (tgt := 268) o dX12_isOwn_257 (by decide) (fun c2 => ?_) (fun c2 => ?_)
                                                              · have h := xit h c2
                                                                refine x_iconst (pc := 268) o dX12_isOwn_268 ic_1 ?_
                                                                exact x_zreturn (pc := 269) o hr dX12_isOwn_269 (by decide) (Option.some.inj h) rfl
                                                              · have h := xif h c2
                                                                refine x_lload_n (pc := 260) o dX12_isOwn_260 rfl rfl ?_
                                                                refine x_ldc2 (pc := 261) o kcX12_369 dX12_isOwn_261 ?_
                                                                refine x_lcmp (pc := 264) o dX12_isOwn_264 ?_
                                                                refine x_if_ne (pc := 265) (tgt := 270) o dX12_isOwn_265 (by decide) (fun c1 => ?_) (fun c1 => ?_)
                                                                · have h := xif h c1
                                                                  refine x_iconst (pc := 270) o dX12_isOwn_270 ic_0 ?_
                                                                  exact x_zreturn (pc := 271) o hr dX12_isOwn_271 (by decide) (Option.some.inj h) rfl
                                                                · have h := xit h c1
                                                                  refine x_iconst (pc := 268) o dX12_isOwn_268 ic_1 ?_
                                                                  exact x_zreturn (pc := 269) o hr dX12_isOwn_269 (by decide) (Option.some.inj h) rfl
                                                            · have h := xit h c3
                                                              refine x_iconst (pc := 250) o dX12_isOwn_250 ic_1 ?_
                                                              exact x_zreturn (pc := 251) o hr dX12_isOwn_251 (by decide) (Option.some.inj h) rfl
                                                  · have h := xit h c8
                                                    refine x_iconst (pc := 208) o dX12_isOwn_208 ic_1 ?_
                                                    exact x_zreturn (pc := 209) o hr dX12_isOwn_209 (by decide) (Option.some.inj h) rfl
                                        · have h := xit h c13
                                          refine x_iconst (pc := 166) o dX12_isOwn_166 ic_1 ?_
                                          exact x_zreturn (pc := 167) o hr dX12_isOwn_167 (by decide) (Option.some.inj h) rfl
                              · have h := xit h c18
                                refine x_iconst (pc := 124) o dX12_isOwn_124 ic_1 ?_
                                exact x_zreturn (pc := 125) o hr dX12_isOwn_125 (by decide) (Option.some.inj h) rfl
                    · have h := xit h c23
                      refine x_iconst (pc := 82) o dX12_isOwn_82 ic_1 ?_
                      exact x_zreturn (pc := 83) o hr dX12_isOwn_83 (by decide) (Option.some.inj h) rfl
          · have h := xit h c28
            refine x_iconst (pc := 40) o dX12_isOwn_40 ic_1 ?_
            exact x_zreturn (pc := 41) o hr dX12_isOwn_41 (by decide) (Option.some.inj h) rfl
def fX12_toldOf (k0 : Nat) (a1 : Int32) (S : xSt) : Option (Int32) :=
  if tM.1 k0 = 12 then
  ((xgF tM 12 30 k0 S).bind fun r1 =>
  (xgI tM 12 13 k0 S).bind fun v2 =>
  (xal tM r1 ((((3 : Int32)) * v2) + a1) S).bind fun v3 =>
  some v3)
  else none
theorem kX12_toldOf {z : Int32} {k0 : Nat} {a1 : Int32} {S : xSt} (h : fX12_toldOf k0 a1 S = some z) : tM.1 k0 = 12 := by
  unfold fX12_toldOf at h
  exact (xck h).1
set_option maxHeartbeats 4000000 in
theorem tX12_toldOf (l : Launch) (M : xMg) (A : Nat → Prop) (k0 : Nat) (a1 : Int32) (S : xSt) (z : Int32) (h : fX12_toldOf k0 a1 S = some z) : xMI l yX12_toldOf cX12_toldOf 2 (some .int) 1 tM M A [.ref (M.2.1 k0), .int a1] S z S := by
  refine x_metI (plainFor_of_name (by decide)) tM_ok (Nat.le_of_ble_eq_true rfl) (fun Γ hA hnL hl hr o => ?_)
  subst hA; subst hl
  have o : xOk Γ tM M 1 cX12_toldOf RX12 := o
  unfold fX12_toldOf at h
  obtain ⟨hk0, h⟩ := xck h
  refine x_to (l := [(0, .ref (M.2.1 k0)), (1, .int a1)]) ⟨rfl, rfl, trivial⟩ ?_
  refine x_aload_n (pc := 0) o dX12_toldOf_0 rfl rfl ?_
  obtain ⟨r1, hr1, h⟩ := xbs h
  refine gX12_102 (pc := 1) o dX12_toldOf_1 hr1 ?_
  refine x_iconst (pc := 4) o dX12_toldOf_4 ic_3 ?_
  refine x_aload_n (pc := 5) o dX12_toldOf_5 rfl rfl ?_
  obtain ⟨v2, hv2, h⟩ := xbs h
  refine gX12_51 (pc := 6) o dX12_toldOf_6 hv2 ?_
  refine x_imul (pc := 9) o dX12_toldOf_9 ?_
  refine x_iload_n (pc := 10) o dX12_toldOf_10 rfl rfl ?_
  refine x_iadd (pc := 11) o dX12_toldOf_11 ?_
  obtain ⟨v3, hv3, h⟩ := xbs h
  refine x_iaload (pc := 12) o dX12_toldOf_12 hv3 ?_
  exact x_ireturn (pc := 13) o hr dX12_toldOf_13 (Option.some.inj h) rfl
def fX12_manyOf (k0 : Nat) (a1 : Int32) (a2 : Int32) (S : xSt) : Option (Int32) :=
  if tM.1 k0 = 12 then
  (if a2 = 0 then
  ((xgF tM 12 14 k0 S).bind fun r9 =>
  (xal tM r9 a1 S).bind fun v10 =>
  some v10)
else
  (if a2 = ((1 : Int32)) then
  ((xgF tM 12 17 k0 S).bind fun r6 =>
  (xal tM r6 a1 S).bind fun v7 =>
  some v7)
else
  (if a2 = ((2 : Int32)) then
  ((xgF tM 12 20 k0 S).bind fun r3 =>
  (xal tM r3 a1 S).bind fun v4 =>
  some v4)
else
  ((xgF tM 12 22 k0 S).bind fun r1 =>
  (xal tM r1 a1 S).bind fun v2 =>
  some v2))))
  else none
theorem kX12_manyOf {z : Int32} {k0 : Nat} {a1 : Int32} {a2 : Int32} {S : xSt} (h : fX12_manyOf k0 a1 a2 S = some z) : tM.1 k0 = 12 := by
  unfold fX12_manyOf at h
  exact (xck h).1
set_option maxHeartbeats 4000000 in
theorem tX12_manyOf (l : Launch) (M : xMg) (A : Nat → Prop) (k0 : Nat) (a1 : Int32) (a2 : Int32) (S : xSt) (z : Int32) (h : fX12_manyOf k0 a1 a2 S = some z) : xMI l yX12_manyOf cX12_manyOf 3 (some .int) 1 tM M A [.ref (M.2.1 k0), .int a1, .int a2] S z S := by
  refine x_metI (plainFor_of_name (by decide)) tM_ok (Nat.le_of_ble_eq_true rfl) (fun Γ hA hnL hl hr o => ?_)
  subst hA; subst hl
  have o : xOk Γ tM M 1 cX12_manyOf RX12 := o
  unfold fX12_manyOf at h
  obtain ⟨hk0, h⟩ := xck h
  refine x_to (l := [(0, .ref (M.2.1 k0)), (1, .int a1), (2, .int a2)]) ⟨rfl, rfl, rfl, trivial⟩ ?_
  refine x_iload_n (pc := 0) o dX12_manyOf_0 rfl rfl ?_
  refine x_if_ne (pc := 1) (tgt := 13) o dX12_manyOf_1 (by decide) (fun c11 => ?_) (fun c11 => ?_)
  · have h := xif h c11
    refine x_iload_n (pc := 13) o dX12_manyOf_13 rfl rfl ?_
    refine x_iconst (pc := 14) o dX12_manyOf_14 ic_1 ?_
    refine x_icmp_ne (pc := 15) (tgt := 27) o dX12_manyOf_15 (by decide) (fun c8 => ?_) (fun c8 => ?_)
    · have h := xif h c8
      refine x_iload_n (pc := 27) o dX12_manyOf_27 rfl rfl ?_
      refine x_iconst (pc := 28) o dX12_manyOf_28 ic_2 ?_
      refine x_icmp_ne (pc := 29) (tgt := 41) o dX12_manyOf_29 (by decide) (fun c5 => ?_) (fun c5 => ?_)
      · have h := xif h c5
        refine x_aload_n (pc := 41) o dX12_manyOf_41 rfl rfl ?_
        obtain ⟨r1, hr1, h⟩ := xbs h
        refine gX12_78 (pc := 42) o dX12_manyOf_42 hr1 ?_
        refine x_iload_n (pc := 45) o dX12_manyOf_45 rfl rfl ?_
        obtain ⟨v2, hv2, h⟩ := xbs h
        refine x_iaload (pc := 46) o dX12_manyOf_46 hv2 ?_
        exact x_ireturn (pc := 47) o hr dX12_manyOf_47 (Option.some.inj h) rfl
      · have h := xit h c5
        refine x_aload_n (pc := 32) o dX12_manyOf_32 rfl rfl ?_
        obtain ⟨r3, hr3, h⟩ := xbs h
        refine gX12_72 (pc := 33) o dX12_manyOf_33 hr3 ?_
        refine x_iload_n (pc := 36) o dX12_manyOf_36 rfl rfl ?_
        obtain ⟨v4, hv4, h⟩ := xbs h
        refine x_iaload (pc := 37) o dX12_manyOf_37 hv4 ?_
        refine x_goto (pc := 38) (tgt := 47) o dX12_manyOf_38 (by decide) ?_
        exact x_ireturn (pc := 47) o hr dX12_manyOf_47 (Option.some.inj h) rfl
    · have h := xit h c8
      refine x_aload_n (pc := 18) o dX12_manyOf_18 rfl rfl ?_
      obtain ⟨r6, hr6, h⟩ := xbs h
      refine gX12_63 (pc := 19) o dX12_manyOf_19 hr6 ?_
      refine x_iload_n (pc := 22) o dX12_manyOf_22 rfl rfl ?_
      obtain ⟨v7, hv7, h⟩ := xbs h
      refine x_iaload (pc := 23) o dX12_manyOf_23 hv7 ?_
      refine x_goto (pc := 24) (tgt := 47) o dX12_manyOf_24 (by decide) ?_
      exact x_ireturn (pc := 47) o hr dX12_manyOf_47 (Option.some.inj h) rfl
  · have h := xit h c11
    refine x_aload_n (pc := 4) o dX12_manyOf_4 rfl rfl ?_
    obtain ⟨r9, hr9, h⟩ := xbs h
    refine gX12_54 (pc := 5) o dX12_manyOf_5 hr9 ?_
    refine x_iload_n (pc := 8) o dX12_manyOf_8 rfl rfl ?_
    obtain ⟨v10, hv10, h⟩ := xbs h
    refine x_iaload (pc := 9) o dX12_manyOf_9 hv10 ?_
    refine x_goto (pc := 10) (tgt := 47) o dX12_manyOf_10 (by decide) ?_
    exact x_ireturn (pc := 47) o hr dX12_manyOf_47 (Option.some.inj h) rfl
def fX12_nameOf (k0 : Nat) (a1 : Int32) (a2 : Int32) (a3 : Int32) (S : xSt) : Option (Int64) :=
  if tM.1 k0 = 12 then
  (if a2 = 0 then
  ((xgF tM 12 35 k0 S).bind fun r9 =>
  (xll tM r9 ((((6 : Int32)) * a1) + a3) S).bind fun v10 =>
  some v10)
else
  (if a2 = ((1 : Int32)) then
  ((xgF tM 12 36 k0 S).bind fun r6 =>
  (xll tM r6 ((((8 : Int32)) * a1) + a3) S).bind fun v7 =>
  some v7)
else
  (if a2 = ((2 : Int32)) then
  ((xgF tM 12 37 k0 S).bind fun r3 =>
  (xll tM r3 ((((6 : Int32)) * a1) + a3) S).bind fun v4 =>
  some v4)
else
  ((xgF tM 12 38 k0 S).bind fun r1 =>
  (xll tM r1 ((((6 : Int32)) * a1) + a3) S).bind fun v2 =>
  some v2))))
  else none
theorem kX12_nameOf {z : Int64} {k0 : Nat} {a1 : Int32} {a2 : Int32} {a3 : Int32} {S : xSt} (h : fX12_nameOf k0 a1 a2 a3 S = some z) : tM.1 k0 = 12 := by
  unfold fX12_nameOf at h
  exact (xck h).1
set_option maxHeartbeats 4000000 in
theorem tX12_nameOf (l : Launch) (M : xMg) (A : Nat → Prop) (k0 : Nat) (a1 : Int32) (a2 : Int32) (a3 : Int32) (S : xSt) (z : Int64) (h : fX12_nameOf k0 a1 a2 a3 S = some z) : xML l yX12_nameOf cX12_nameOf 4 (some .long) 1 tM M A [.ref (M.2.1 k0), .int a1, .int a2, .int a3] S z S := by
  refine x_metL (plainFor_of_name (by decide)) tM_ok (Nat.le_of_ble_eq_true rfl) (fun Γ hA hnL hl hr o => ?_)
  subst hA; subst hl
  have o : xOk Γ tM M 1 cX12_nameOf RX12 := o
  unfold fX12_nameOf at h
  obtain ⟨hk0, h⟩ := xck h
  refine x_to (l := [(0, .ref (M.2.1 k0)), (1, .int a1), (2, .int a2), (3, .int a3)]) ⟨rfl, rfl, rfl, rfl, trivial⟩ ?_
  refine x_iload_n (pc := 0) o dX12_nameOf_0 rfl rfl ?_
  refine x_if_ne (pc := 1) (tgt := 18) o dX12_nameOf_1 (by decide) (fun c11 => ?_) (fun c11 => ?_)
  · have h := xif h c11
    refine x_iload_n (pc := 18) o dX12_nameOf_18 rfl rfl ?_
    refine x_iconst (pc := 19) o dX12_nameOf_19 ic_1 ?_
    refine x_icmp_ne (pc := 20) (tgt := 37) o dX12_nameOf_20 (by decide) (fun c8 => ?_) (fun c8 => ?_)
    · have h := xif h c8
      refine x_iload_n (pc := 37) o dX12_nameOf_37 rfl rfl ?_
      refine x_iconst (pc := 38) o dX12_nameOf_38 ic_2 ?_
      refine x_icmp_ne (pc := 39) (tgt := 56) o dX12_nameOf_39 (by decide) (fun c5 => ?_) (fun c5 => ?_)
      · have h := xif h c5
        refine x_aload_n (pc := 56) o dX12_nameOf_56 rfl rfl ?_
        obtain ⟨r1, hr1, h⟩ := xbs h
        refine gX12_127 (pc := 57) o dX12_nameOf_57 hr1 ?_
        refine x_bipush (pc := 60) o dX12_nameOf_60 bp_6 ?_
        refine x_iload_n (pc := 62) o dX12_nameOf_62 rfl rfl ?_
        refine x_imul (pc := 63) o dX12_nameOf_63 ?_
        refine x_iload_n (pc := 64) o dX12_nameOf_64 rfl rfl ?_
        refine x_iadd (pc := 65) o dX12_nameOf_65 ?_
        obtain ⟨v2, hv2, h⟩ := xbs h
        refine x_laload (pc := 66) o dX12_nameOf_66 hv2 ?_
        exact x_lreturn (pc := 67) o hr dX12_nameOf_67 (Option.some.inj h) rfl
      · have h := xit h c5
        refine x_aload_n (pc := 42) o dX12_nameOf_42 rfl rfl ?_
        obtain ⟨r3, hr3, h⟩ := xbs h
        refine gX12_124 (pc := 43) o dX12_nameOf_43 hr3 ?_
        refine x_bipush (pc := 46) o dX12_nameOf_46 bp_6 ?_
        refine x_iload_n (pc := 48) o dX12_nameOf_48 rfl rfl ?_
        refine x_imul (pc := 49) o dX12_nameOf_49 ?_
        refine x_iload_n (pc := 50) o dX12_nameOf_50 rfl rfl ?_
        refine x_iadd (pc := 51) o dX12_nameOf_51 ?_
        obtain ⟨v4, hv4, h⟩ := xbs h
        refine x_laload (pc := 52) o dX12_nameOf_52 hv4 ?_
        refine x_goto (pc := 53) (tgt := 67) o dX12_nameOf_53 (by decide) ?_
        exact x_lreturn (pc := 67) o hr dX12_nameOf_67 (Option.some.inj h) rfl
    · have h := xit h c8
      refine x_aload_n (pc := 23) o dX12_nameOf_23 rfl rfl ?_
      obtain ⟨r6, hr6, h⟩ := xbs h
      refine gX12_121 (pc := 24) o dX12_nameOf_24 hr6 ?_
      refine x_bipush (pc := 27) o dX12_nameOf_27 bp_8 ?_
      refine x_iload_n (pc := 29) o dX12_nameOf_29 rfl rfl ?_
      refine x_imul (pc := 30) o dX12_nameOf_30 ?_
      refine x_iload_n (pc := 31) o dX12_nameOf_31 rfl rfl ?_
      refine x_iadd (pc := 32) o dX12_nameOf_32 ?_
      obtain ⟨v7, hv7, h⟩ := xbs h
      refine x_laload (pc := 33) o dX12_nameOf_33 hv7 ?_
      refine x_goto (pc := 34) (tgt := 67) o dX12_nameOf_34 (by decide) ?_
      exact x_lreturn (pc := 67) o hr dX12_nameOf_67 (Option.some.inj h) rfl
  · have h := xit h c11
    refine x_aload_n (pc := 4) o dX12_nameOf_4 rfl rfl ?_
    obtain ⟨r9, hr9, h⟩ := xbs h
    refine gX12_117 (pc := 5) o dX12_nameOf_5 hr9 ?_
    refine x_bipush (pc := 8) o dX12_nameOf_8 bp_6 ?_
    refine x_iload_n (pc := 10) o dX12_nameOf_10 rfl rfl ?_
    refine x_imul (pc := 11) o dX12_nameOf_11 ?_
    refine x_iload_n (pc := 12) o dX12_nameOf_12 rfl rfl ?_
    refine x_iadd (pc := 13) o dX12_nameOf_13 ?_
    obtain ⟨v10, hv10, h⟩ := xbs h
    refine x_laload (pc := 14) o dX12_nameOf_14 hv10 ?_
    refine x_goto (pc := 15) (tgt := 67) o dX12_nameOf_15 (by decide) ?_
    exact x_lreturn (pc := 67) o hr dX12_nameOf_67 (Option.some.inj h) rfl
def fX12_named_L3b (n : Nat) (k0 : Nat) (a1 : Int32) (b2 : Int64) (S : xSt) (rec : Int32 → Option ((Unit) ⊕ (Int32))) (a4 : Int32) : Option ((Unit) ⊕ (Int32)) :=
  (xgI tM 12 40 k0 S).bind fun v1 =>
  (fX12_manyOf k0 v1 a1 S).bind fun v2 =>
  if v2 ≤ a4 then
  (some (.inl ()))
else
  ((xgI tM 12 40 k0 S).bind fun v3 =>
  (fX12_nameOf k0 v3 a1 a4 S).bind fun v4 =>
  if (lg_cmp v4 b2) = 0 then
  (some (.inr a4))
else
  ((some (a4 + (1 : Int32))).bind fun v5 =>
  rec v5))
def fX12_named_L3 (n : Nat) (k0 : Nat) (a1 : Int32) (b2 : Int64) (S : xSt) : Nat → Int32 → Option ((Unit) ⊕ (Int32))
  | 0 => fun _ => none
  | q + 1 => fX12_named_L3b n k0 a1 b2 S (fX12_named_L3 n k0 a1 b2 S q)
set_option maxHeartbeats 4000000 in
theorem tX12_named_L3b {Γ : xGm} {M : xMg} (o : xOk Γ tM M 2 cX12_named RX12) (hnL : Γ.2.2.2 = 5) {rec : Int32 → Option ((Unit) ⊕ (Int32))} (n : Nat) (k0 : Nat) (a1 : Int32) (b2 : Int64) (S : xSt) (a4 : Int32) (z : ((Unit) ⊕ (Int32))) (hrec : ∀ (a4 : Int32), rec a4 = some z → xAt Γ tM M 3 (xlv [(0, .ref (M.2.1 k0)), (1, .int a1), (2, .long b2), (4, .int a4)]) [] S) (K : ∀ e, z = .inl e → xAt Γ tM M 42 (xlv []) [] S) (R : ∀ r, z = .inr r → xRI Γ tM M (some .int) r S) (h : fX12_named_L3b n k0 a1 b2 S rec a4 = some z) : xAt Γ tM M 3 (xlv [(0, .ref (M.2.1 k0)), (1, .int a1), (2, .long b2), (4, .int a4)]) [] S := by
  have hn4 : 4 < Γ.2.2.2 := by omega
  unfold fX12_named_L3b at h
  refine x_iload (pc := 3) o dX12_named_3 rfl ?_
  refine x_aload_n (pc := 5) o dX12_named_5 rfl rfl ?_
  refine x_aload_n (pc := 6) o dX12_named_6 rfl rfl ?_
  obtain ⟨v1, hv1, h⟩ := xbs h
  refine gX12_133 (pc := 7) o dX12_named_7 hv1 ?_
  refine x_iload_n (pc := 10) o dX12_named_10 rfl rfl ?_
  obtain ⟨v2, hv2, h⟩ := xbs h
  refine x_callI (pc := 11) (As := [.int v1, .int a1]) (b := k0) (rest := [.int a4]) o (tX12_manyOf _ M _ k0 v1 a1 S v2 hv2) eX12_manyOf mX12_371 clX12 (kX12_manyOf hv2) (by decide) rfl rfl (Nat.le_of_ble_eq_true rfl) dX12_named_11 ?_
  refine x_icmp_ge (pc := 14) (tgt := 42) o dX12_named_14 (by decide) (fun c7 => ?_) (fun c7 => ?_)
  · have h := xit h c7
    refine x_to (l := []) trivial ?_
    exact K _ (Option.some.inj h).symm
  · have h := xif h c7
    refine x_aload_n (pc := 17) o dX12_named_17 rfl rfl ?_
    refine x_aload_n (pc := 18) o dX12_named_18 rfl rfl ?_
    obtain ⟨v3, hv3, h⟩ := xbs h
    refine gX12_133 (pc := 19) o dX12_named_19 hv3 ?_
    refine x_iload_n (pc := 22) o dX12_named_22 rfl rfl ?_
    refine x_iload (pc := 23) o dX12_named_23 rfl ?_
    obtain ⟨v4, hv4, h⟩ := xbs h
    refine x_callL (pc := 25) (As := [.int v3, .int a1, .int a4]) (b := k0) (rest := []) o (tX12_nameOf _ M _ k0 v3 a1 a4 S v4 hv4) eX12_nameOf mX12_375 clX12 (kX12_nameOf hv4) (by decide) rfl rfl (Nat.le_of_ble_eq_true rfl) dX12_named_25 ?_
    refine x_lload_n (pc := 28) o dX12_named_28 rfl rfl ?_
    refine x_lcmp (pc := 29) o dX12_named_29 ?_
    refine x_if_ne (pc := 30) (tgt := 36) o dX12_named_30 (by decide) (fun c6 => ?_) (fun c6 => ?_)
    · have h := xif h c6
      obtain ⟨v5, hv5, h⟩ := xbs h
      refine x_iincE (pc := 36) o dX12_named_36 rfl ic_1 hn4 hv5 ?_
      refine x_goto (pc := 39) (tgt := 3) o dX12_named_39 (by decide) ?_
      refine x_to (l := [(0, .ref (M.2.1 k0)), (1, .int a1), (2, .long b2), (4, .int v5)]) ⟨rfl, rfl, rfl, rfl, trivial⟩ ?_
      exact hrec v5 h
    · have h := xit h c6
      refine x_iload (pc := 33) o dX12_named_33 rfl ?_
      exact x_ireturn (pc := 35) o (R _ (Option.some.inj h).symm) dX12_named_35 rfl rfl
theorem tX12_named_L3 {Γ : xGm} {M : xMg} (o : xOk Γ tM M 2 cX12_named RX12) (hnL : Γ.2.2.2 = 5) (n : Nat) (k0 : Nat) (a1 : Int32) (b2 : Int64) (S : xSt) (z : ((Unit) ⊕ (Int32))) (K : ∀ e, z = .inl e → xAt Γ tM M 42 (xlv []) [] S) (R : ∀ r, z = .inr r → xRI Γ tM M (some .int) r S) : ∀ (q : Nat) (a4 : Int32), fX12_named_L3 n k0 a1 b2 S q a4 = some z → xAt Γ tM M 3 (xlv [(0, .ref (M.2.1 k0)), (1, .int a1), (2, .long b2), (4, .int a4)]) [] S := by
  intro q
  induction q with
  | zero => intro a4 h; cases h
  | succ q ih => intro a4 h; exact tX12_named_L3b o hnL n k0 a1 b2 S a4 z ih K R h
def fX12_named (n : Nat) (k0 : Nat) (a1 : Int32) (b2 : Int64) (S : xSt) : Option (Int32) :=
  if tM.1 k0 = 12 then
  ((fX12_named_L3 n k0 a1 b2 S n ((0 : Int32))).bind fun z8 => xel z8 (fun ez8 => some ((-1 : Int32))) (fun r => some r))
  else none
theorem kX12_named {z : Int32} {n : Nat} {k0 : Nat} {a1 : Int32} {b2 : Int64} {S : xSt} (h : fX12_named n k0 a1 b2 S = some z) : tM.1 k0 = 12 := by
  unfold fX12_named at h
  exact (xck h).1
set_option maxHeartbeats 4000000 in
theorem tX12_named (l : Launch) (M : xMg) (A : Nat → Prop) (n : Nat) (k0 : Nat) (a1 : Int32) (b2 : Int64) (S : xSt) (z : Int32) (h : fX12_named n k0 a1 b2 S = some z) : xMI l yX12_named cX12_named 5 (some .int) 2 tM M A [.ref (M.2.1 k0), .int a1, .long b2] S z S := by
  refine x_metI (plainFor_of_name (by decide)) tM_ok (Nat.le_of_ble_eq_true rfl) (fun Γ hA hnL hl hr o => ?_)
  subst hA; subst hl
  have o : xOk Γ tM M 2 cX12_named RX12 := o
  unfold fX12_named at h
  obtain ⟨hk0, h⟩ := xck h
  refine x_to (l := [(0, .ref (M.2.1 k0)), (1, .int a1), (2, .long b2)]) ⟨rfl, rfl, rfl, trivial⟩ ?_
  have hn4 : 4 < Γ.2.2.2 := by omega
  refine x_iconst (pc := 0) o dX12_named_0 ic_0 ?_
  refine x_istore (pc := 1) o dX12_named_1 hn4 ?_
  obtain ⟨z8, hz8, h⟩ := xbs h
  refine x_to (l := [(0, .ref (M.2.1 k0)), (1, .int a1), (2, .long b2), (4, .int ((0 : Int32)))]) ⟨rfl, rfl, rfl, rfl, trivial⟩ ?_
  refine tX12_named_L3 o hnL n k0 a1 b2 S z8 (fun ez8 he => ?_) (fun r he => ?_) n ((0 : Int32)) hz8
  · subst he; have h := xel_l h
    refine x_iconst (pc := 42) o dX12_named_42 ic_m1 ?_
    exact x_ireturn (pc := 43) o hr dX12_named_43 (Option.some.inj h) rfl
  · subst he; have h := xel_r h
    cases Option.some.inj h
    exact hr
def fX12_number_B30 (n : Nat) (k0 : Nat) (a1 : Int32) (a2 : Int32) (S : xSt) : Option (Int32 × xSt) :=
  (xgI tM 12 8 k0 S).bind fun v4 =>
  if v4 = 0 then
  ((xgI tM 12 6 k0 S).bind fun v9 =>
  (fX12_is v9 a1 a2 S).bind fun v10 =>
  if v10 = 0 then
  ((xgI tM 12 4 k0 S).bind fun v15 =>
  (fX12_blame k0 ((4 : Int32)) v15 S).bind fun S16 =>
  (xgI tM 12 6 k0 S16).bind fun v17 =>
  (xgI tM 12 8 k0 S16).bind fun v18 =>
  if v18 = 0 then
  ((fX12_ahead n k0 S16).bind fun S19 =>
  some (v17, S19))
else
  (some (v17, S16)))
else
  ((xgI tM 12 6 k0 S).bind fun v11 =>
  (xgI tM 12 8 k0 S).bind fun v12 =>
  if v12 = 0 then
  ((fX12_ahead n k0 S).bind fun S13 =>
  some (v11, S13))
else
  (some (v11, S))))
else
  ((xgI tM 12 6 k0 S).bind fun v5 =>
  (xgI tM 12 8 k0 S).bind fun v6 =>
  if v6 = 0 then
  ((fX12_ahead n k0 S).bind fun S7 =>
  some (v5, S7))
else
  (some (v5, S)))
set_option maxHeartbeats 4000000 in
theorem tX12_number_B30 {Γ : xGm} {M : xMg} (o : xOk Γ tM M 3 cX12_number RX12) (hnL : Γ.2.2.2 = 4) (n : Nat) (k0 : Nat) (a1 : Int32) (a2 : Int32) (S : xSt) (z : (Int32 × xSt)) (hr : xRI Γ tM M (some .int) z.1 z.2) (h : fX12_number_B30 n k0 a1 a2 S = some z) : xAt Γ tM M 30 (xlv [(0, .ref (M.2.1 k0)), (1, .int a1), (2, .int a2)]) [] S := by
  have hn3 : 3 < Γ.2.2.2 := by omega
  unfold fX12_number_B30 at h
  refine x_aload_n (pc := 30) o dX12_number_30 rfl rfl ?_
  obtain ⟨v4, hv4, h⟩ := xbs h
  refine gX12_36 (pc := 31) o dX12_number_31 hv4 ?_
  refine x_if_ne (pc := 34) (tgt := 58) o dX12_number_34 (by decide) (fun c22 => ?_) (fun c22 => ?_)
  · have h := xif h c22
    refine x_aload_n (pc := 58) o dX12_number_58 rfl rfl ?_
    obtain ⟨v5, hv5, h⟩ := xbs h
    refine gX12_29 (pc := 59) o dX12_number_59 hv5 ?_
    refine x_istore_n (pc := 62) o dX12_number_62 rfl hn3 ?_
    refine x_aload_n (pc := 63) o dX12_number_63 rfl rfl ?_
    obtain ⟨v6, hv6, h⟩ := xbs h
    refine gX12_36 (pc := 64) o dX12_number_64 hv6 ?_
    refine x_if_ne (pc := 67) (tgt := 74) o dX12_number_67 (by decide) (fun c8 => ?_) (fun c8 => ?_)
    · have h := xif h c8
      refine x_iload_n (pc := 74) o dX12_number_74 rfl rfl ?_
      exact x_ireturn (pc := 75) o hr dX12_number_75 (xr1 h) (xr2 h)
    · have h := xit h c8
      refine x_aload_n (pc := 70) o dX12_number_70 rfl rfl ?_
      obtain ⟨S7, hS7, h⟩ := xbs h
      refine x_callV (pc := 71) (As := []) (b := k0) (rest := []) o (tX12_ahead _ M _ n k0 S S7 hS7) eX12_ahead mX12_304 clX12 (kX12_ahead hS7) (by decide) rfl rfl (Nat.le_of_ble_eq_true rfl) dX12_number_71 ?_
      refine x_iload_n (pc := 74) o dX12_number_74 rfl rfl ?_
      exact x_ireturn (pc := 75) o hr dX12_number_75 (xr1 h) (xr2 h)
  · have h := xit h c22
    refine x_aload_n (pc := 37) o dX12_number_37 rfl rfl ?_
    obtain ⟨v9, hv9, h⟩ := xbs h
    refine gX12_29 (pc := 38) o dX12_number_38 hv9 ?_
    refine x_iload_n (pc := 41) o dX12_number_41 rfl rfl ?_
    refine x_iload_n (pc := 42) o dX12_number_42 rfl rfl ?_
    obtain ⟨v10, hv10, h⟩ := xbs h
    refine x_statI (pc := 43) (As := [.int v9, .int a1, .int a2]) (rest := []) o (tX12_is _ M _ v9 a1 a2 S v10 hv10) eX12_is mX12_379 (by decide) rfl rfl (Nat.le_of_ble_eq_true rfl) dX12_number_43 ?_
    refine x_if_ne (pc := 46) (tgt := 58) o dX12_number_46 (by decide) (fun c21 => ?_) (fun c21 => ?_)
    · have h := xif h c21
      refine x_aload_n (pc := 58) o dX12_number_58 rfl rfl ?_
      obtain ⟨v11, hv11, h⟩ := xbs h
      refine gX12_29 (pc := 59) o dX12_number_59 hv11 ?_
      refine x_istore_n (pc := 62) o dX12_number_62 rfl hn3 ?_
      refine x_aload_n (pc := 63) o dX12_number_63 rfl rfl ?_
      obtain ⟨v12, hv12, h⟩ := xbs h
      refine gX12_36 (pc := 64) o dX12_number_64 hv12 ?_
      refine x_if_ne (pc := 67) (tgt := 74) o dX12_number_67 (by decide) (fun c14 => ?_) (fun c14 => ?_)
      · have h := xif h c14
        refine x_iload_n (pc := 74) o dX12_number_74 rfl rfl ?_
        exact x_ireturn (pc := 75) o hr dX12_number_75 (xr1 h) (xr2 h)
      · have h := xit h c14
        refine x_aload_n (pc := 70) o dX12_number_70 rfl rfl ?_
        obtain ⟨S13, hS13, h⟩ := xbs h
        refine x_callV (pc := 71) (As := []) (b := k0) (rest := []) o (tX12_ahead _ M _ n k0 S S13 hS13) eX12_ahead mX12_304 clX12 (kX12_ahead hS13) (by decide) rfl rfl (Nat.le_of_ble_eq_true rfl) dX12_number_71 ?_
        refine x_iload_n (pc := 74) o dX12_number_74 rfl rfl ?_
        exact x_ireturn (pc := 75) o hr dX12_number_75 (xr1 h) (xr2 h)
    · have h := xit h c21
      refine x_aload_n (pc := 49) o dX12_number_49 rfl rfl ?_
      refine x_iconst (pc := 50) o dX12_number_50 ic_4 ?_
      refine x_aload_n (pc := 51) o dX12_number_51 rfl rfl ?_
      obtain ⟨v15, hv15, h⟩ := xbs h
      refine gX12_23 (pc := 52) o dX12_number_52 hv15 ?_
      obtain ⟨S16, hS16, h⟩ := xbs h
      refine x_callV (pc := 55) (As := [.int ((4 : Int32)), .int v15]) (b := k0) (rest := []) o (tX12_blame _ M _ k0 ((4 : Int32)) v15 S S16 hS16) eX12_blame mX12_287 clX12 (kX12_blame hS16) (by decide) rfl rfl (Nat.le_of_ble_eq_true rfl) dX12_number_55 ?_
      refine x_aload_n (pc := 58) o dX12_number_58 rfl rfl ?_
      obtain ⟨v17, hv17, h⟩ := xbs h
      refine gX12_29 (pc := 59) o dX12_number_59 hv17 ?_
      refine x_istore_n (pc := 62) o dX12_number_62 rfl hn3 ?_
      refine x_aload_n (pc := 63) o dX12_number_63 rfl rfl ?_
      obtain ⟨v18, hv18, h⟩ := xbs h
      refine gX12_36 (pc := 64) o dX12_number_64 hv18 ?_
      refine x_if_ne (pc := 67) (tgt := 74) o dX12_number_67 (by decide) (fun c20 => ?_) (fun c20 => ?_)
      · have h := xif h c20
        refine x_iload_n (pc := 74) o dX12_number_74 rfl rfl ?_
        exact x_ireturn (pc := 75) o hr dX12_number_75 (xr1 h) (xr2 h)
      · have h := xit h c20
        refine x_aload_n (pc := 70) o dX12_number_70 rfl rfl ?_
        obtain ⟨S19, hS19, h⟩ := xbs h
        refine x_callV (pc := 71) (As := []) (b := k0) (rest := []) o (tX12_ahead _ M _ n k0 S16 S19 hS19) eX12_ahead mX12_304 clX12 (kX12_ahead hS19) (by decide) rfl rfl (Nat.le_of_ble_eq_true rfl) dX12_number_71 ?_
        refine x_iload_n (pc := 74) o dX12_number_74 rfl rfl ?_
        exact x_ireturn (pc := 75) o hr dX12_number_75 (xr1 h) (xr2 h)
def fX12_number (n : Nat) (k0 : Nat) (a1 : Int32) (a2 : Int32) (S : xSt) : Option (Int32 × xSt) :=
  if tM.1 k0 = 12 then
  ((fX12_lex k0 S).bind fun S1 =>
  (xgI tM 12 8 k0 S1).bind fun v2 =>
  if v2 ≤ 0 then
  ((xgI tM 12 3 k0 S1).bind fun v3 =>
  if v3 = ((2 : Int32)) then
  (fX12_number_B30 n k0 a1 a2 S1)
else
  ((xgI tM 12 4 k0 S1).bind fun v23 =>
  (fX12_blame k0 ((1 : Int32)) v23 S1).bind fun S24 =>
  fX12_number_B30 n k0 a1 a2 S24))
else
  (some ((0 : Int32), S1)))
  else none
theorem kX12_number {z : Int32 × xSt} {n : Nat} {k0 : Nat} {a1 : Int32} {a2 : Int32} {S : xSt} (h : fX12_number n k0 a1 a2 S = some z) : tM.1 k0 = 12 := by
  unfold fX12_number at h
  exact (xck h).1
set_option maxHeartbeats 4000000 in
theorem tX12_number (l : Launch) (M : xMg) (A : Nat → Prop) (n : Nat) (k0 : Nat) (a1 : Int32) (a2 : Int32) (S : xSt) (z : Int32 × xSt) (h : fX12_number n k0 a1 a2 S = some z) : xMI l yX12_number cX12_number 4 (some .int) 3 tM M A [.ref (M.2.1 k0), .int a1, .int a2] S z.1 z.2 := by
  refine x_metI (plainFor_of_name (by decide)) tM_ok (Nat.le_of_ble_eq_true rfl) (fun Γ hA hnL hl hr o => ?_)
  subst hA; subst hl
  have o : xOk Γ tM M 3 cX12_number RX12 := o
  unfold fX12_number at h
  obtain ⟨hk0, h⟩ := xck h
  refine x_to (l := [(0, .ref (M.2.1 k0)), (1, .int a1), (2, .int a2)]) ⟨rfl, rfl, rfl, trivial⟩ ?_
  refine x_aload_n (pc := 0) o dX12_number_0 rfl rfl ?_
  obtain ⟨S1, hS1, h⟩ := xbs h
  refine x_callV (pc := 1) (As := []) (b := k0) (rest := []) o (tX12_lex _ M _ k0 S S1 hS1) eX12_lex mX12_298 clX12 (kX12_lex hS1) (by decide) rfl rfl (Nat.le_of_ble_eq_true rfl) dX12_number_1 ?_
  refine x_aload_n (pc := 4) o dX12_number_4 rfl rfl ?_
  obtain ⟨v2, hv2, h⟩ := xbs h
  refine gX12_36 (pc := 5) o dX12_number_5 hv2 ?_
  refine x_if_le (pc := 8) (tgt := 13) o dX12_number_8 (by decide) (fun c26 => ?_) (fun c26 => ?_)
  · have h := xit h c26
    refine x_aload_n (pc := 13) o dX12_number_13 rfl rfl ?_
    obtain ⟨v3, hv3, h⟩ := xbs h
    refine gX12_20 (pc := 14) o dX12_number_14 hv3 ?_
    refine x_iconst (pc := 17) o dX12_number_17 ic_2 ?_
    refine x_icmp_eq (pc := 18) (tgt := 30) o dX12_number_18 (by decide) (fun c25 => ?_) (fun c25 => ?_)
    · have h := xit h c25
      refine x_to (l := [(0, .ref (M.2.1 k0)), (1, .int a1), (2, .int a2)]) ⟨rfl, rfl, rfl, trivial⟩ ?_
      exact tX12_number_B30 o hnL n k0 a1 a2 S1 z hr h
    · have h := xif h c25
      refine x_aload_n (pc := 21) o dX12_number_21 rfl rfl ?_
      refine x_iconst (pc := 22) o dX12_number_22 ic_1 ?_
      refine x_aload_n (pc := 23) o dX12_number_23 rfl rfl ?_
      obtain ⟨v23, hv23, h⟩ := xbs h
      refine gX12_23 (pc := 24) o dX12_number_24 hv23 ?_
      obtain ⟨S24, hS24, h⟩ := xbs h
      refine x_callV (pc := 27) (As := [.int ((1 : Int32)), .int v23]) (b := k0) (rest := []) o (tX12_blame _ M _ k0 ((1 : Int32)) v23 S1 S24 hS24) eX12_blame mX12_287 clX12 (kX12_blame hS24) (by decide) rfl rfl (Nat.le_of_ble_eq_true rfl) dX12_number_27 ?_
      refine x_to (l := [(0, .ref (M.2.1 k0)), (1, .int a1), (2, .int a2)]) ⟨rfl, rfl, rfl, trivial⟩ ?_
      exact tX12_number_B30 o hnL n k0 a1 a2 S24 z hr h
  · have h := xif h c26
    refine x_iconst (pc := 11) o dX12_number_11 ic_0 ?_
    exact x_ireturn (pc := 12) o hr dX12_number_12 (xr1 h) (xr2 h)
def fX12_add (k0 : Nat) (a1 : Int32) (a2 : Int32) (S : xSt) : Option (xSt) :=
  if tM.1 k0 = 12 then
  ((xgF tM 12 33 k0 S).bind fun r1 =>
  (xgI tM 12 40 k0 S).bind fun v2 =>
  (xgI tM 12 39 k0 S).bind fun v3 =>
  (xas tM r1 ((((1600 : Int32)) * v2) + v3) a1 S).bind fun S4 =>
  (xgF tM 12 34 k0 S4).bind fun r5 =>
  (xgI tM 12 40 k0 S4).bind fun v6 =>
  (xgI tM 12 39 k0 S4).bind fun v7 =>
  (xas tM r5 ((((1600 : Int32)) * v6) + v7) a2 S4).bind fun S8 =>
  (xgI tM 12 39 k0 S8).bind fun v9 =>
  (xpI tM 12 39 k0 (v9 + ((1 : Int32))) S8).bind fun S10 =>
  some S10)
  else none
theorem kX12_add {z : xSt} {k0 : Nat} {a1 : Int32} {a2 : Int32} {S : xSt} (h : fX12_add k0 a1 a2 S = some z) : tM.1 k0 = 12 := by
  unfold fX12_add at h
  exact (xck h).1
set_option maxHeartbeats 4000000 in
theorem tX12_add (l : Launch) (M : xMg) (A : Nat → Prop) (k0 : Nat) (a1 : Int32) (a2 : Int32) (S : xSt) (z : xSt) (h : fX12_add k0 a1 a2 S = some z) : xMV l yX12_add cX12_add 3 none 1 tM M A [.ref (M.2.1 k0), .int a1, .int a2] S z := by
  refine x_metV (plainFor_of_name (by decide)) tM_ok (Nat.le_of_ble_eq_true rfl) (fun Γ hA hnL hl hr o => ?_)
  subst hA; subst hl
  have o : xOk Γ tM M 1 cX12_add RX12 := o
  unfold fX12_add at h
  obtain ⟨hk0, h⟩ := xck h
  refine x_to (l := [(0, .ref (M.2.1 k0)), (1, .int a1), (2, .int a2)]) ⟨rfl, rfl, rfl, trivial⟩ ?_
  refine x_aload_n (pc := 0) o dX12_add_0 rfl rfl ?_
  obtain ⟨r1, hr1, h⟩ := xbs h
  refine gX12_111 (pc := 1) o dX12_add_1 hr1 ?_
  refine x_sipush (pc := 4) o dX12_add_4 sp_1600 ?_
  refine x_aload_n (pc := 7) o dX12_add_7 rfl rfl ?_
  obtain ⟨v2, hv2, h⟩ := xbs h
  refine gX12_133 (pc := 8) o dX12_add_8 hv2 ?_
  refine x_imul (pc := 11) o dX12_add_11 ?_
  refine x_aload_n (pc := 12) o dX12_add_12 rfl rfl ?_
  obtain ⟨v3, hv3, h⟩ := xbs h
  refine gX12_130 (pc := 13) o dX12_add_13 hv3 ?_
  refine x_iadd (pc := 16) o dX12_add_16 ?_
  refine x_iload_n (pc := 17) o dX12_add_17 rfl rfl ?_
  obtain ⟨S4, hS4, h⟩ := xbs h
  refine x_iastore (pc := 18) o dX12_add_18 hS4 ?_
  refine x_aload_n (pc := 19) o dX12_add_19 rfl rfl ?_
  obtain ⟨r5, hr5, h⟩ := xbs h
  refine gX12_114 (pc := 20) o dX12_add_20 hr5 ?_
  refine x_sipush (pc := 23) o dX12_add_23 sp_1600 ?_
  refine x_aload_n (pc := 26) o dX12_add_26 rfl rfl ?_
  obtain ⟨v6, hv6, h⟩ := xbs h
  refine gX12_133 (pc := 27) o dX12_add_27 hv6 ?_
  refine x_imul (pc := 30) o dX12_add_30 ?_
  refine x_aload_n (pc := 31) o dX12_add_31 rfl rfl ?_
  obtain ⟨v7, hv7, h⟩ := xbs h
  refine gX12_130 (pc := 32) o dX12_add_32 hv7 ?_
  refine x_iadd (pc := 35) o dX12_add_35 ?_
  refine x_iload_n (pc := 36) o dX12_add_36 rfl rfl ?_
  obtain ⟨S8, hS8, h⟩ := xbs h
  refine x_iastore (pc := 37) o dX12_add_37 hS8 ?_
  refine x_aload_n (pc := 38) o dX12_add_38 rfl rfl ?_
  refine x_dup (pc := 39) o dX12_add_39 rfl ?_
  obtain ⟨v9, hv9, h⟩ := xbs h
  refine gX12_130 (pc := 40) o dX12_add_40 hv9 ?_
  refine x_iconst (pc := 43) o dX12_add_43 ic_1 ?_
  refine x_iadd (pc := 44) o dX12_add_44 ?_
  obtain ⟨S10, hS10, h⟩ := xbs h
  refine pX12_130 (pc := 45) o dX12_add_45 hS10 ?_
  exact x_vreturn (pc := 48) o hr dX12_add_48 (Option.some.inj h)
def fX12_rank (a0 : Int32) (S : xSt) : Option (Int32) :=
  if a0 = ((42 : Int32)) then
  (some ((1 : Int32)))
else
  (if a0 = ((41 : Int32)) then
  (some ((2 : Int32)))
else
  (if a0 = ((43 : Int32)) then
  (some ((3 : Int32)))
else
  (if a0 = ((38 : Int32)) then
  (some ((4 : Int32)))
else
  (if a0 = ((39 : Int32)) then
  (some ((4 : Int32)))
else
  (if a0 = ((40 : Int32)) then
  (some ((4 : Int32)))
else
  (if a0 = ((31 : Int32)) then
  (some ((5 : Int32)))
else
  (if a0 = ((32 : Int32)) then
  (some ((5 : Int32)))
else
  (some ((6 : Int32))))))))))
set_option maxHeartbeats 4000000 in
theorem tX12_rank (l : Launch) (M : xMg) (A : Nat → Prop) (a0 : Int32) (S : xSt) (z : Int32) (h : fX12_rank a0 S = some z) : xMI l yX12_rank cX12_rank 1 (some .int) 1 tM M A [.int a0] S z S := by
  refine x_metI (plainFor_of_name (by decide)) tM_ok (Nat.le_of_ble_eq_true rfl) (fun Γ hA hnL hl hr o => ?_)
  subst hA; subst hl
  have o : xOk Γ tM M 1 cX12_rank RX12 := o
  unfold fX12_rank at h
  refine x_to (l := [(0, .int a0)]) ⟨rfl, trivial⟩ ?_
  refine x_iload_n (pc := 0) o dX12_rank_0 rfl rfl ?_
  refine x_bipush (pc := 1) o dX12_rank_1 bp_42 ?_
  refine x_icmp_ne (pc := 3) (tgt := 10) o dX12_rank_3 (by decide) (fun c8 => ?_) (fun c8 => ?_)
  · have h := xif h c8
    refine x_iload_n (pc := 10) o dX12_rank_10 rfl rfl ?_
    refine x_bipush (pc := 11) o dX12_rank_11 bp_41 ?_
    refine x_icmp_ne (pc := 13) (tgt := 20) o dX12_rank_13 (by decide) (fun c7 => ?_) (fun c7 => ?_)
    · have h := xif h c7
      refine x_iload_n (pc := 20) o dX12_rank_20 rfl rfl ?_
      refine x_bipush (pc := 21) o dX12_rank_21 bp_43 ?_
      refine x_icmp_ne (pc := 23) (tgt := 30) o dX12_rank_23 (by decide) (fun c6 => ?_) (fun c6 => ?_)
      · have h := xif h c6
        refine x_iload_n (pc := 30) o dX12_rank_30 rfl rfl ?_
        refine x_bipush (pc := 31) o dX12_rank_31 bp_38 ?_
        refine x_icmp_eq (pc := 33) (tgt := 48) o dX12_rank_33 (by decide) (fun c5 => ?_) (fun c5 => ?_)
        · have h := xit h c5
          refine x_iconst (pc := 48) o dX12_rank_48 ic_4 ?_
          refine x_goto (pc := 49) (tgt := 70) o dX12_rank_49 (by decide) ?_
          exact x_ireturn (pc := 70) o hr dX12_rank_70 (Option.some.inj h) rfl
        · have h := xif h c5
          refine x_iload_n (pc := 36) o dX12_rank_36 rfl rfl ?_
          refine x_bipush (pc := 37) o dX12_rank_37 bp_39 ?_
          refine x_icmp_eq (pc := 39) (tgt := 48) o dX12_rank_39 (by decide) (fun c4 => ?_) (fun c4 => ?_)
          · have h := xit h c4
            refine x_iconst (pc := 48) o dX12_rank_48 ic_4 ?_
            refine x_goto (pc := 49) (tgt := 70) o dX12_rank_49 (by decide) ?_
            exact x_ireturn (pc := 70) o hr dX12_rank_70 (Option.some.inj h) rfl
          · have h := xif h c4
            refine x_iload_n (pc := 42) o dX12_rank_42 rfl rfl ?_
            refine x_bipush (pc := 43) o dX12_rank_43 bp_40 ?_
            refine x_icmp_ne (pc := 45) (tgt := 52) o dX12_rank_45 (by decide) (fun c3 => ?_) (fun c3 => ?_)
            · have h := xif h c3
              refine x_iload_n (pc := 52) o dX12_rank_52 rfl rfl ?_
              refine x_bipush (pc := 53) o dX12_rank_53 bp_31 ?_
              refine x_icmp_eq (pc := 55) (tgt := 64) o dX12_rank_55 (by decide) (fun c2 => ?_) (fun c2 => ?_)
              · have h := xit h c2
                refine x_iconst (pc := 64) o dX12_rank_64 ic_5 ?_
                refine x_goto (pc := 65) (tgt := 70) o dX12_rank_65 (by decide) ?_
                exact x_ireturn (pc := 70) o hr dX12_rank_70 (Option.some.inj h) rfl
              · have h := xif h c2
                refine x_iload_n (pc := 58) o dX12_rank_58 rfl rfl ?_
                refine x_bipush (pc := 59) o dX12_rank_59 bp_32 ?_
                refine x_icmp_ne (pc := 61) (tgt := 68) o dX12_rank_61 (by decide) (fun c1 => ?_) (fun c1 => ?_)
                · have h := xif h c1
                  refine x_bipush (pc := 68) o dX12_rank_68 bp_6 ?_
                  exact x_ireturn (pc := 70) o hr dX12_rank_70 (Option.some.inj h) rfl
                · have h := xit h c1
                  refine x_iconst (pc := 64) o dX12_rank_64 ic_5 ?_
                  refine x_goto (pc := 65) (tgt := 70) o dX12_rank_65 (by decide) ?_
                  exact x_ireturn (pc := 70) o hr dX12_rank_70 (Option.some.inj h) rfl
            · have h := xit h c3
              refine x_iconst (pc := 48) o dX12_rank_48 ic_4 ?_
              refine x_goto (pc := 49) (tgt := 70) o dX12_rank_49 (by decide) ?_
              exact x_ireturn (pc := 70) o hr dX12_rank_70 (Option.some.inj h) rfl
      · have h := xit h c6
        refine x_iconst (pc := 26) o dX12_rank_26 ic_3 ?_
        refine x_goto (pc := 27) (tgt := 70) o dX12_rank_27 (by decide) ?_
        exact x_ireturn (pc := 70) o hr dX12_rank_70 (Option.some.inj h) rfl
    · have h := xit h c7
      refine x_iconst (pc := 16) o dX12_rank_16 ic_2 ?_
      refine x_goto (pc := 17) (tgt := 70) o dX12_rank_17 (by decide) ?_
      exact x_ireturn (pc := 70) o hr dX12_rank_70 (Option.some.inj h) rfl
  · have h := xit h c8
    refine x_iconst (pc := 6) o dX12_rank_6 ic_1 ?_
    refine x_goto (pc := 7) (tgt := 70) o dX12_rank_7 (by decide) ?_
    exact x_ireturn (pc := 70) o hr dX12_rank_70 (Option.some.inj h) rfl
def fX12_joins_L0b (n : Nat) (k0 : Nat) (a1 : Int32) (rec : xSt → Option (xSt)) (S : xSt) : Option (xSt) :=
  (xgI tM 12 50 k0 S).bind fun v1 =>
  (xgF tM 12 46 k0 S).bind fun r2 =>
  (xgI tM 12 47 k0 S).bind fun v3 =>
  (xal tM r2 (v3 - ((1 : Int32))) S).bind fun v4 =>
  if v1 ≤ v4 then
  (some S)
else
  ((xgF tM 12 49 k0 S).bind fun r5 =>
  (xgI tM 12 50 k0 S).bind fun v6 =>
  (xal tM r5 (v6 - ((1 : Int32))) S).bind fun v7 =>
  (fX12_rank v7 S).bind fun v8 =>
  if v8 < a1 then
  (some S)
else
  ((xgI tM 12 50 k0 S).bind fun v9 =>
  (xpI tM 12 50 k0 (v9 - ((1 : Int32))) S).bind fun S10 =>
  (xgF tM 12 49 k0 S10).bind fun r11 =>
  (xgI tM 12 50 k0 S10).bind fun v12 =>
  (xal tM r11 v12 S10).bind fun v13 =>
  (fX12_add k0 v13 ((0 : Int32)) S10).bind fun S14 =>
  (xgF tM 12 49 k0 S14).bind fun r15 =>
  (xgI tM 12 50 k0 S14).bind fun v16 =>
  (xal tM r15 v16 S14).bind fun v17 =>
  if v17 = ((43 : Int32)) then
  ((xgI tM 12 48 k0 S14).bind fun v18 =>
  (xpI tM 12 48 k0 (v18 - ((1 : Int32))) S14).bind fun S19 =>
  rec S19)
else
  (rec S14)))
def fX12_joins_L0 (n : Nat) (k0 : Nat) (a1 : Int32) : Nat → xSt → Option (xSt)
  | 0 => fun _ => none
  | q + 1 => fX12_joins_L0b n k0 a1 (fX12_joins_L0 n k0 a1 q)
set_option maxHeartbeats 4000000 in
theorem tX12_joins_L0b {Γ : xGm} {M : xMg} (o : xOk Γ tM M 2 cX12_joins RX12) (hnL : Γ.2.2.2 = 2) {rec : xSt → Option (xSt)} (n : Nat) (k0 : Nat) (a1 : Int32) (S : xSt) (z : (xSt)) (hrec : ∀  (S : xSt), rec S = some z → xAt Γ tM M 0 (xlv [(0, .ref (M.2.1 k0)), (1, .int a1)]) [] S) (K : xAt Γ tM M 87 (xlv []) [] z) (h : fX12_joins_L0b n k0 a1 rec S = some z) : xAt Γ tM M 0 (xlv [(0, .ref (M.2.1 k0)), (1, .int a1)]) [] S := by
  unfold fX12_joins_L0b at h
  refine x_aload_n (pc := 0) o dX12_joins_0 rfl rfl ?_
  obtain ⟨v1, hv1, h⟩ := xbs h
  refine gX12_165 (pc := 1) o dX12_joins_1 hv1 ?_
  refine x_aload_n (pc := 4) o dX12_joins_4 rfl rfl ?_
  obtain ⟨r2, hr2, h⟩ := xbs h
  refine gX12_153 (pc := 5) o dX12_joins_5 hr2 ?_
  refine x_aload_n (pc := 8) o dX12_joins_8 rfl rfl ?_
  obtain ⟨v3, hv3, h⟩ := xbs h
  refine gX12_156 (pc := 9) o dX12_joins_9 hv3 ?_
  refine x_iconst (pc := 12) o dX12_joins_12 ic_1 ?_
  refine x_isub (pc := 13) o dX12_joins_13 ?_
  obtain ⟨v4, hv4, h⟩ := xbs h
  refine x_iaload (pc := 14) o dX12_joins_14 hv4 ?_
  refine x_icmp_le (pc := 15) (tgt := 87) o dX12_joins_15 (by decide) (fun c22 => ?_) (fun c22 => ?_)
  · have h := xit h c22
    refine x_to (l := []) trivial ?_
    cases Option.some.inj h
    exact K
  · have h := xif h c22
    refine x_aload_n (pc := 18) o dX12_joins_18 rfl rfl ?_
    obtain ⟨r5, hr5, h⟩ := xbs h
    refine gX12_162 (pc := 19) o dX12_joins_19 hr5 ?_
    refine x_aload_n (pc := 22) o dX12_joins_22 rfl rfl ?_
    obtain ⟨v6, hv6, h⟩ := xbs h
    refine gX12_165 (pc := 23) o dX12_joins_23 hv6 ?_
    refine x_iconst (pc := 26) o dX12_joins_26 ic_1 ?_
    refine x_isub (pc := 27) o dX12_joins_27 ?_
    obtain ⟨v7, hv7, h⟩ := xbs h
    refine x_iaload (pc := 28) o dX12_joins_28 hv7 ?_
    obtain ⟨v8, hv8, h⟩ := xbs h
    refine x_statI (pc := 29) (As := [.int v7]) (rest := []) o (tX12_rank _ M _ v7 S v8 hv8) eX12_rank mX12_383 (by decide) rfl rfl (Nat.le_of_ble_eq_true rfl) dX12_joins_29 ?_
    refine x_iload_n (pc := 32) o dX12_joins_32 rfl rfl ?_
    refine x_icmp_lt (pc := 33) (tgt := 87) o dX12_joins_33 (by decide) (fun c21 => ?_) (fun c21 => ?_)
    · have h := xit h c21
      refine x_to (l := []) trivial ?_
      cases Option.some.inj h
      exact K
    · have h := xif h c21
      refine x_aload_n (pc := 36) o dX12_joins_36 rfl rfl ?_
      refine x_dup (pc := 37) o dX12_joins_37 rfl ?_
      obtain ⟨v9, hv9, h⟩ := xbs h
      refine gX12_165 (pc := 38) o dX12_joins_38 hv9 ?_
      refine x_iconst (pc := 41) o dX12_joins_41 ic_1 ?_
      refine x_isub (pc := 42) o dX12_joins_42 ?_
      obtain ⟨S10, hS10, h⟩ := xbs h
      refine pX12_165 (pc := 43) o dX12_joins_43 hS10 ?_
      refine x_aload_n (pc := 46) o dX12_joins_46 rfl rfl ?_
      refine x_aload_n (pc := 47) o dX12_joins_47 rfl rfl ?_
      obtain ⟨r11, hr11, h⟩ := xbs h
      refine gX12_162 (pc := 48) o dX12_joins_48 hr11 ?_
      refine x_aload_n (pc := 51) o dX12_joins_51 rfl rfl ?_
      obtain ⟨v12, hv12, h⟩ := xbs h
      refine gX12_165 (pc := 52) o dX12_joins_52 hv12 ?_
      obtain ⟨v13, hv13, h⟩ := xbs h
      refine x_iaload (pc := 55) o dX12_joins_55 hv13 ?_
      refine x_iconst (pc := 56) o dX12_joins_56 ic_0 ?_
      obtain ⟨S14, hS14, h⟩ := xbs h
      refine x_callV (pc := 57) (As := [.int v13, .int ((0 : Int32))]) (b := k0) (rest := []) o (tX12_add _ M _ k0 v13 ((0 : Int32)) S10 S14 hS14) eX12_add mX12_386 clX12 (kX12_add hS14) (by decide) rfl rfl (Nat.le_of_ble_eq_true rfl) dX12_joins_57 ?_
      refine x_aload_n (pc := 60) o dX12_joins_60 rfl rfl ?_
      obtain ⟨r15, hr15, h⟩ := xbs h
      refine gX12_162 (pc := 61) o dX12_joins_61 hr15 ?_
      refine x_aload_n (pc := 64) o dX12_joins_64 rfl rfl ?_
      obtain ⟨v16, hv16, h⟩ := xbs h
      refine gX12_165 (pc := 65) o dX12_joins_65 hv16 ?_
      obtain ⟨v17, hv17, h⟩ := xbs h
      refine x_iaload (pc := 68) o dX12_joins_68 hv17 ?_
      refine x_bipush (pc := 69) o dX12_joins_69 bp_43 ?_
      refine x_icmp_ne (pc := 71) (tgt := 0) o dX12_joins_71 (by decide) (fun c20 => ?_) (fun c20 => ?_)
      · have h := xif h c20
        refine x_to (l := [(0, .ref (M.2.1 k0)), (1, .int a1)]) ⟨rfl, rfl, trivial⟩ ?_
        exact hrec S14 h
      · have h := xit h c20
        refine x_aload_n (pc := 74) o dX12_joins_74 rfl rfl ?_
        refine x_dup (pc := 75) o dX12_joins_75 rfl ?_
        obtain ⟨v18, hv18, h⟩ := xbs h
        refine gX12_159 (pc := 76) o dX12_joins_76 hv18 ?_
        refine x_iconst (pc := 79) o dX12_joins_79 ic_1 ?_
        refine x_isub (pc := 80) o dX12_joins_80 ?_
        obtain ⟨S19, hS19, h⟩ := xbs h
        refine pX12_159 (pc := 81) o dX12_joins_81 hS19 ?_
        refine x_goto (pc := 84) (tgt := 0) o dX12_joins_84 (by decide) ?_
        refine x_to (l := [(0, .ref (M.2.1 k0)), (1, .int a1)]) ⟨rfl, rfl, trivial⟩ ?_
        exact hrec S19 h
theorem tX12_joins_L0 {Γ : xGm} {M : xMg} (o : xOk Γ tM M 2 cX12_joins RX12) (hnL : Γ.2.2.2 = 2) (n : Nat) (k0 : Nat) (a1 : Int32) (z : (xSt)) (K : xAt Γ tM M 87 (xlv []) [] z) : ∀ (q : Nat) (S : xSt), fX12_joins_L0 n k0 a1 q S = some z → xAt Γ tM M 0 (xlv [(0, .ref (M.2.1 k0)), (1, .int a1)]) [] S := by
  intro q
  induction q with
  | zero => intro S h; cases h
  | succ q ih => intro S h; exact tX12_joins_L0b o hnL n k0 a1 S z ih K h
def fX12_joins (n : Nat) (k0 : Nat) (a1 : Int32) (S : xSt) : Option (xSt) :=
  if tM.1 k0 = 12 then
  ((fX12_joins_L0 n k0 a1 n S).bind fun z23 => some z23)
  else none
theorem kX12_joins {z : xSt} {n : Nat} {k0 : Nat} {a1 : Int32} {S : xSt} (h : fX12_joins n k0 a1 S = some z) : tM.1 k0 = 12 := by
  unfold fX12_joins at h
  exact (xck h).1
set_option maxHeartbeats 4000000 in
theorem tX12_joins (l : Launch) (M : xMg) (A : Nat → Prop) (n : Nat) (k0 : Nat) (a1 : Int32) (S : xSt) (z : xSt) (h : fX12_joins n k0 a1 S = some z) : xMV l yX12_joins cX12_joins 2 none 2 tM M A [.ref (M.2.1 k0), .int a1] S z := by
  refine x_metV (plainFor_of_name (by decide)) tM_ok (Nat.le_of_ble_eq_true rfl) (fun Γ hA hnL hl hr o => ?_)
  subst hA; subst hl
  have o : xOk Γ tM M 2 cX12_joins RX12 := o
  unfold fX12_joins at h
  obtain ⟨hk0, h⟩ := xck h
  refine x_to (l := [(0, .ref (M.2.1 k0)), (1, .int a1)]) ⟨rfl, rfl, trivial⟩ ?_
  obtain ⟨z23, hz23, h⟩ := xbs h
  refine x_to (l := [(0, .ref (M.2.1 k0)), (1, .int a1)]) ⟨rfl, rfl, trivial⟩ ?_
  refine tX12_joins_L0 o hnL n k0 a1 z23 ?_ n S hz23
  exact x_vreturn (pc := 87) o hr dX12_joins_87 (Option.some.inj h)
def fX12_holdsBack (k0 : Nat) (a1 : Int32) (S : xSt) : Option (xSt) :=
  if tM.1 k0 = 12 then
  ((xgF tM 12 49 k0 S).bind fun r1 =>
  (xgI tM 12 50 k0 S).bind fun v2 =>
  (xas tM r1 v2 a1 S).bind fun S3 =>
  (xgI tM 12 50 k0 S3).bind fun v4 =>
  (xpI tM 12 50 k0 (v4 + ((1 : Int32))) S3).bind fun S5 =>
  some S5)
  else none
theorem kX12_holdsBack {z : xSt} {k0 : Nat} {a1 : Int32} {S : xSt} (h : fX12_holdsBack k0 a1 S = some z) : tM.1 k0 = 12 := by
  unfold fX12_holdsBack at h
  exact (xck h).1
set_option maxHeartbeats 4000000 in
theorem tX12_holdsBack (l : Launch) (M : xMg) (A : Nat → Prop) (k0 : Nat) (a1 : Int32) (S : xSt) (z : xSt) (h : fX12_holdsBack k0 a1 S = some z) : xMV l yX12_holdsBack cX12_holdsBack 2 none 1 tM M A [.ref (M.2.1 k0), .int a1] S z := by
  refine x_metV (plainFor_of_name (by decide)) tM_ok (Nat.le_of_ble_eq_true rfl) (fun Γ hA hnL hl hr o => ?_)
  subst hA; subst hl
  have o : xOk Γ tM M 1 cX12_holdsBack RX12 := o
  unfold fX12_holdsBack at h
  obtain ⟨hk0, h⟩ := xck h
  refine x_to (l := [(0, .ref (M.2.1 k0)), (1, .int a1)]) ⟨rfl, rfl, trivial⟩ ?_
  refine x_aload_n (pc := 0) o dX12_holdsBack_0 rfl rfl ?_
  obtain ⟨r1, hr1, h⟩ := xbs h
  refine gX12_162 (pc := 1) o dX12_holdsBack_1 hr1 ?_
  refine x_aload_n (pc := 4) o dX12_holdsBack_4 rfl rfl ?_
  obtain ⟨v2, hv2, h⟩ := xbs h
  refine gX12_165 (pc := 5) o dX12_holdsBack_5 hv2 ?_
  refine x_iload_n (pc := 8) o dX12_holdsBack_8 rfl rfl ?_
  obtain ⟨S3, hS3, h⟩ := xbs h
  refine x_iastore (pc := 9) o dX12_holdsBack_9 hS3 ?_
  refine x_aload_n (pc := 10) o dX12_holdsBack_10 rfl rfl ?_
  refine x_dup (pc := 11) o dX12_holdsBack_11 rfl ?_
  obtain ⟨v4, hv4, h⟩ := xbs h
  refine gX12_165 (pc := 12) o dX12_holdsBack_12 hv4 ?_
  refine x_iconst (pc := 15) o dX12_holdsBack_15 ic_1 ?_
  refine x_iadd (pc := 16) o dX12_holdsBack_16 ?_
  obtain ⟨S5, hS5, h⟩ := xbs h
  refine pX12_165 (pc := 17) o dX12_holdsBack_17 hS5 ?_
  exact x_vreturn (pc := 20) o hr dX12_holdsBack_20 (Option.some.inj h)
def fX12_pushes (k0 : Nat) (a1 : Int32) (S : xSt) : Option (xSt) :=
  if tM.1 k0 = 12 then
  ((xgF tM 12 42 k0 S).bind fun r1 =>
  (xgI tM 12 47 k0 S).bind fun v2 =>
  (xas tM r1 v2 a1 S).bind fun S3 =>
  (xgF tM 12 43 k0 S3).bind fun r4 =>
  (xgI tM 12 47 k0 S3).bind fun v5 =>
  (xas tM r4 v5 ((0 : Int32)) S3).bind fun S6 =>
  (xgF tM 12 44 k0 S6).bind fun r7 =>
  (xgI tM 12 47 k0 S6).bind fun v8 =>
  (xzs tM r7 v8 ((1 : Int32)) S6).bind fun S9 =>
  (xgF tM 12 46 k0 S9).bind fun r10 =>
  (xgI tM 12 47 k0 S9).bind fun v11 =>
  (xgI tM 12 50 k0 S9).bind fun v12 =>
  (xas tM r10 v11 v12 S9).bind fun S13 =>
  (xgI tM 12 47 k0 S13).bind fun v14 =>
  (xpI tM 12 47 k0 (v14 + ((1 : Int32))) S13).bind fun S15 =>
  some S15)
  else none
theorem kX12_pushes {z : xSt} {k0 : Nat} {a1 : Int32} {S : xSt} (h : fX12_pushes k0 a1 S = some z) : tM.1 k0 = 12 := by
  unfold fX12_pushes at h
  exact (xck h).1
set_option maxHeartbeats 4000000 in
theorem tX12_pushes (l : Launch) (M : xMg) (A : Nat → Prop) (k0 : Nat) (a1 : Int32) (S : xSt) (z : xSt) (h : fX12_pushes k0 a1 S = some z) : xMV l yX12_pushes cX12_pushes 2 none 1 tM M A [.ref (M.2.1 k0), .int a1] S z := by
  refine x_metV (plainFor_of_name (by decide)) tM_ok (Nat.le_of_ble_eq_true rfl) (fun Γ hA hnL hl hr o => ?_)
  subst hA; subst hl
  have o : xOk Γ tM M 1 cX12_pushes RX12 := o
  unfold fX12_pushes at h
  obtain ⟨hk0, h⟩ := xck h
  refine x_to (l := [(0, .ref (M.2.1 k0)), (1, .int a1)]) ⟨rfl, rfl, trivial⟩ ?_
  refine x_aload_n (pc := 0) o dX12_pushes_0 rfl rfl ?_
  obtain ⟨r1, hr1, h⟩ := xbs h
  refine gX12_140 (pc := 1) o dX12_pushes_1 hr1 ?_
  refine x_aload_n (pc := 4) o dX12_pushes_4 rfl rfl ?_
  obtain ⟨v2, hv2, h⟩ := xbs h
  refine gX12_156 (pc := 5) o dX12_pushes_5 hv2 ?_
  refine x_iload_n (pc := 8) o dX12_pushes_8 rfl rfl ?_
  obtain ⟨S3, hS3, h⟩ := xbs h
  refine x_iastore (pc := 9) o dX12_pushes_9 hS3 ?_
  refine x_aload_n (pc := 10) o dX12_pushes_10 rfl rfl ?_
  obtain ⟨r4, hr4, h⟩ := xbs h
  refine gX12_143 (pc := 11) o dX12_pushes_11 hr4 ?_
  refine x_aload_n (pc := 14) o dX12_pushes_14 rfl rfl ?_
  obtain ⟨v5, hv5, h⟩ := xbs h
  refine gX12_156 (pc := 15) o dX12_pushes_15 hv5 ?_
  refine x_iconst (pc := 18) o dX12_pushes_18 ic_0 ?_
  obtain ⟨S6, hS6, h⟩ := xbs h
  refine x_iastore (pc := 19) o dX12_pushes_19 hS6 ?_
  refine x_aload_n (pc := 20) o dX12_pushes_20 rfl rfl ?_
  obtain ⟨r7, hr7, h⟩ := xbs h
  refine gX12_146 (pc := 21) o dX12_pushes_21 hr7 ?_
  refine x_aload_n (pc := 24) o dX12_pushes_24 rfl rfl ?_
  obtain ⟨v8, hv8, h⟩ := xbs h
  refine gX12_156 (pc := 25) o dX12_pushes_25 hv8 ?_
  refine x_iconst (pc := 28) o dX12_pushes_28 ic_1 ?_
  obtain ⟨S9, hS9, h⟩ := xbs h
  refine x_zastore (pc := 29) o dX12_pushes_29 hS9 ?_
  refine x_aload_n (pc := 30) o dX12_pushes_30 rfl rfl ?_
  obtain ⟨r10, hr10, h⟩ := xbs h
  refine gX12_153 (pc := 31) o dX12_pushes_31 hr10 ?_
  refine x_aload_n (pc := 34) o dX12_pushes_34 rfl rfl ?_
  obtain ⟨v11, hv11, h⟩ := xbs h
  refine gX12_156 (pc := 35) o dX12_pushes_35 hv11 ?_
  refine x_aload_n (pc := 38) o dX12_pushes_38 rfl rfl ?_
  obtain ⟨v12, hv12, h⟩ := xbs h
  refine gX12_165 (pc := 39) o dX12_pushes_39 hv12 ?_
  obtain ⟨S13, hS13, h⟩ := xbs h
  refine x_iastore (pc := 42) o dX12_pushes_42 hS13 ?_
  refine x_aload_n (pc := 43) o dX12_pushes_43 rfl rfl ?_
  refine x_dup (pc := 44) o dX12_pushes_44 rfl ?_
  obtain ⟨v14, hv14, h⟩ := xbs h
  refine gX12_156 (pc := 45) o dX12_pushes_45 hv14 ?_
  refine x_iconst (pc := 48) o dX12_pushes_48 ic_1 ?_
  refine x_iadd (pc := 49) o dX12_pushes_49 ?_
  obtain ⟨S15, hS15, h⟩ := xbs h
  refine pX12_156 (pc := 50) o dX12_pushes_50 hS15 ?_
  exact x_vreturn (pc := 53) o hr dX12_pushes_53 (Option.some.inj h)
def fX12_opens_B18 (n : Nat) (k0 : Nat) (a1 : Int32) (S : xSt) : Option (xSt) :=
  (xgI tM 12 8 k0 S).bind fun v2 =>
  if v2 ≤ 0 then
  ((xgI tM 12 48 k0 S).bind fun v3 =>
  (xpI tM 12 48 k0 (v3 + ((1 : Int32))) S).bind fun S4 =>
  (fX12_ahead n k0 S4).bind fun S5 =>
  (fX12_pushes k0 a1 S5).bind fun S6 =>
  some S6)
else
  (some S)
set_option maxHeartbeats 4000000 in
theorem tX12_opens_B18 {Γ : xGm} {M : xMg} (o : xOk Γ tM M 3 cX12_opens RX12) (hnL : Γ.2.2.2 = 2) (n : Nat) (k0 : Nat) (a1 : Int32) (S : xSt) (z : (xSt)) (hr : xRV Γ tM M none z) (h : fX12_opens_B18 n k0 a1 S = some z) : xAt Γ tM M 18 (xlv [(0, .ref (M.2.1 k0)), (1, .int a1)]) [] S := by
  unfold fX12_opens_B18 at h
  refine x_aload_n (pc := 18) o dX12_opens_18 rfl rfl ?_
  obtain ⟨v2, hv2, h⟩ := xbs h
  refine gX12_36 (pc := 19) o dX12_opens_19 hv2 ?_
  refine x_if_le (pc := 22) (tgt := 26) o dX12_opens_22 (by decide) (fun c7 => ?_) (fun c7 => ?_)
  · have h := xit h c7
    refine x_aload_n (pc := 26) o dX12_opens_26 rfl rfl ?_
    refine x_dup (pc := 27) o dX12_opens_27 rfl ?_
    obtain ⟨v3, hv3, h⟩ := xbs h
    refine gX12_159 (pc := 28) o dX12_opens_28 hv3 ?_
    refine x_iconst (pc := 31) o dX12_opens_31 ic_1 ?_
    refine x_iadd (pc := 32) o dX12_opens_32 ?_
    obtain ⟨S4, hS4, h⟩ := xbs h
    refine pX12_159 (pc := 33) o dX12_opens_33 hS4 ?_
    refine x_aload_n (pc := 36) o dX12_opens_36 rfl rfl ?_
    obtain ⟨S5, hS5, h⟩ := xbs h
    refine x_callV (pc := 37) (As := []) (b := k0) (rest := []) o (tX12_ahead _ M _ n k0 S4 S5 hS5) eX12_ahead mX12_304 clX12 (kX12_ahead hS5) (by decide) rfl rfl (Nat.le_of_ble_eq_true rfl) dX12_opens_37 ?_
    refine x_aload_n (pc := 40) o dX12_opens_40 rfl rfl ?_
    refine x_iload_n (pc := 41) o dX12_opens_41 rfl rfl ?_
    obtain ⟨S6, hS6, h⟩ := xbs h
    refine x_callV (pc := 42) (As := [.int a1]) (b := k0) (rest := []) o (tX12_pushes _ M _ k0 a1 S5 S6 hS6) eX12_pushes mX12_389 clX12 (kX12_pushes hS6) (by decide) rfl rfl (Nat.le_of_ble_eq_true rfl) dX12_opens_42 ?_
    exact x_vreturn (pc := 45) o hr dX12_opens_45 (Option.some.inj h)
  · have h := xif h c7
    exact x_vreturn (pc := 25) o hr dX12_opens_25 (Option.some.inj h)
def fX12_opens (n : Nat) (k0 : Nat) (a1 : Int32) (S : xSt) : Option (xSt) :=
  if tM.1 k0 = 12 then
  ((xgI tM 12 48 k0 S).bind fun v1 =>
  if v1 = ((7 : Int32)) then
  ((xgI tM 12 4 k0 S).bind fun v8 =>
  (fX12_blame k0 ((5 : Int32)) v8 S).bind fun S9 =>
  fX12_opens_B18 n k0 a1 S9)
else
  (fX12_opens_B18 n k0 a1 S))
  else none
theorem kX12_opens {z : xSt} {n : Nat} {k0 : Nat} {a1 : Int32} {S : xSt} (h : fX12_opens n k0 a1 S = some z) : tM.1 k0 = 12 := by
  unfold fX12_opens at h
  exact (xck h).1
set_option maxHeartbeats 4000000 in
theorem tX12_opens (l : Launch) (M : xMg) (A : Nat → Prop) (n : Nat) (k0 : Nat) (a1 : Int32) (S : xSt) (z : xSt) (h : fX12_opens n k0 a1 S = some z) : xMV l yX12_opens cX12_opens 2 none 3 tM M A [.ref (M.2.1 k0), .int a1] S z := by
  refine x_metV (plainFor_of_name (by decide)) tM_ok (Nat.le_of_ble_eq_true rfl) (fun Γ hA hnL hl hr o => ?_)
  subst hA; subst hl
  have o : xOk Γ tM M 3 cX12_opens RX12 := o
  unfold fX12_opens at h
  obtain ⟨hk0, h⟩ := xck h
  refine x_to (l := [(0, .ref (M.2.1 k0)), (1, .int a1)]) ⟨rfl, rfl, trivial⟩ ?_
  refine x_aload_n (pc := 0) o dX12_opens_0 rfl rfl ?_
  obtain ⟨v1, hv1, h⟩ := xbs h
  refine gX12_159 (pc := 1) o dX12_opens_1 hv1 ?_
  refine x_bipush (pc := 4) o dX12_opens_4 bp_7 ?_
  refine x_icmp_ne (pc := 6) (tgt := 18) o dX12_opens_6 (by decide) (fun c10 => ?_) (fun c10 => ?_)
  · have h := xif h c10
    refine x_to (l := [(0, .ref (M.2.1 k0)), (1, .int a1)]) ⟨rfl, rfl, trivial⟩ ?_
    exact tX12_opens_B18 o hnL n k0 a1 S z hr h
  · have h := xit h c10
    refine x_aload_n (pc := 9) o dX12_opens_9 rfl rfl ?_
    refine x_iconst (pc := 10) o dX12_opens_10 ic_5 ?_
    refine x_aload_n (pc := 11) o dX12_opens_11 rfl rfl ?_
    obtain ⟨v8, hv8, h⟩ := xbs h
    refine gX12_23 (pc := 12) o dX12_opens_12 hv8 ?_
    obtain ⟨S9, hS9, h⟩ := xbs h
    refine x_callV (pc := 15) (As := [.int ((5 : Int32)), .int v8]) (b := k0) (rest := []) o (tX12_blame _ M _ k0 ((5 : Int32)) v8 S S9 hS9) eX12_blame mX12_287 clX12 (kX12_blame hS9) (by decide) rfl rfl (Nat.le_of_ble_eq_true rfl) dX12_opens_15 ?_
    refine x_to (l := [(0, .ref (M.2.1 k0)), (1, .int a1)]) ⟨rfl, rfl, trivial⟩ ?_
    exact tX12_opens_B18 o hnL n k0 a1 S9 z hr h
def fX12_isTest (a0 : Int32) (S : xSt) : Option (Int32) :=
  if a0 = ((1 : Int32)) then
  (some ((1 : Int32)))
else
  (if a0 = ((5 : Int32)) then
  (some ((1 : Int32)))
else
  (if a0 = ((6 : Int32)) then
  (some ((1 : Int32)))
else
  (some ((0 : Int32)))))
set_option maxHeartbeats 4000000 in
theorem tX12_isTest (l : Launch) (M : xMg) (A : Nat → Prop) (a0 : Int32) (S : xSt) (z : Int32) (h : fX12_isTest a0 S = some z) : xMI l yX12_isTest cX12_isTest 1 (some .boolean) 1 tM M A [.int a0] S z S := by
  refine x_metI (plainFor_of_name (by decide)) tM_ok (Nat.le_of_ble_eq_true rfl) (fun Γ hA hnL hl hr o => ?_)
  subst hA; subst hl
  have o : xOk Γ tM M 1 cX12_isTest RX12 := o
  unfold fX12_isTest at h
  refine x_to (l := [(0, .int a0)]) ⟨rfl, trivial⟩ ?_
  refine x_iload_n (pc := 0) o dX12_isTest_0 rfl rfl ?_
  refine x_iconst (pc := 1) o dX12_isTest_1 ic_1 ?_
  refine x_icmp_eq (pc := 2) (tgt := 16) o dX12_isTest_2 (by decide) (fun c3 => ?_) (fun c3 => ?_)
  · have h := xit h c3
    refine x_iconst (pc := 16) o dX12_isTest_16 ic_1 ?_
    refine x_goto (pc := 17) (tgt := 21) o dX12_isTest_17 (by decide) ?_
    exact x_zreturn (pc := 21) o hr dX12_isTest_21 (by decide) (Option.some.inj h) rfl
  · have h := xif h c3
    refine x_iload_n (pc := 5) o dX12_isTest_5 rfl rfl ?_
    refine x_iconst (pc := 6) o dX12_isTest_6 ic_5 ?_
    refine x_icmp_eq (pc := 7) (tgt := 16) o dX12_isTest_7 (by decide) (fun c2 => ?_) (fun c2 => ?_)
    · have h := xit h c2
      refine x_iconst (pc := 16) o dX12_isTest_16 ic_1 ?_
      refine x_goto (pc := 17) (tgt := 21) o dX12_isTest_17 (by decide) ?_
      exact x_zreturn (pc := 21) o hr dX12_isTest_21 (by decide) (Option.some.inj h) rfl
    · have h := xif h c2
      refine x_iload_n (pc := 10) o dX12_isTest_10 rfl rfl ?_
      refine x_bipush (pc := 11) o dX12_isTest_11 bp_6 ?_
      refine x_icmp_ne (pc := 13) (tgt := 20) o dX12_isTest_13 (by decide) (fun c1 => ?_) (fun c1 => ?_)
      · have h := xif h c1
        refine x_iconst (pc := 20) o dX12_isTest_20 ic_0 ?_
        exact x_zreturn (pc := 21) o hr dX12_isTest_21 (by decide) (Option.some.inj h) rfl
      · have h := xit h c1
        refine x_iconst (pc := 16) o dX12_isTest_16 ic_1 ?_
        refine x_goto (pc := 17) (tgt := 21) o dX12_isTest_17 (by decide) ?_
        exact x_zreturn (pc := 21) o hr dX12_isTest_21 (by decide) (Option.some.inj h) rfl
def fX12_operand_B289 (n : Nat) (k0 : Nat) (a3 : Int32) (s0 : Nat) (s1 : Int32) (S : xSt) : Option (Int32 × xSt) :=
  (fX12_opens n s0 s1 S).bind fun S17 =>
  (xgI tM 12 8 k0 S17).bind fun v18 =>
  if v18 = 0 then
  ((xgF tM 12 45 k0 S17).bind fun r19 =>
  (xgI tM 12 47 k0 S17).bind fun v20 =>
  (xas tM r19 (v20 - ((1 : Int32))) a3 S17).bind fun S21 =>
  some ((0 : Int32), S21))
else
  (some ((0 : Int32), S17))
set_option maxHeartbeats 4000000 in
theorem tX12_operand_B289 {Γ : xGm} {M : xMg} (o : xOk Γ tM M 4 cX12_operand RX12) (hnL : Γ.2.2.2 = 4) (n : Nat) (k0 : Nat) (a3 : Int32) (s0 : Nat) (s1 : Int32) (S : xSt) (z : (Int32 × xSt)) (hr : xRI Γ tM M (some .boolean) z.1 z.2) (h : fX12_operand_B289 n k0 a3 s0 s1 S = some z) : xAt Γ tM M 289 (xlv [(0, .ref (M.2.1 k0)), (3, .int a3)]) [.int s1, .ref (M.2.1 s0)] S := by
  unfold fX12_operand_B289 at h
  obtain ⟨S17, hS17, h⟩ := xbs h
  refine x_callV (pc := 289) (As := [.int s1]) (b := s0) (rest := []) o (tX12_opens _ M _ n s0 s1 S S17 hS17) eX12_opens mX12_402 clX12 (kX12_opens hS17) (by decide) rfl rfl (Nat.le_of_ble_eq_true rfl) dX12_operand_289 ?_
  refine x_aload_n (pc := 292) o dX12_operand_292 rfl rfl ?_
  obtain ⟨v18, hv18, h⟩ := xbs h
  refine gX12_36 (pc := 293) o dX12_operand_293 hv18 ?_
  refine x_if_ne (pc := 296) (tgt := 311) o dX12_operand_296 (by decide) (fun c22 => ?_) (fun c22 => ?_)
  · have h := xif h c22
    refine x_iconst (pc := 311) o dX12_operand_311 ic_0 ?_
    exact x_zreturn (pc := 312) o hr dX12_operand_312 (by decide) (xr1 h) (xr2 h)
  · have h := xit h c22
    refine x_aload_n (pc := 299) o dX12_operand_299 rfl rfl ?_
    obtain ⟨r19, hr19, h⟩ := xbs h
    refine gX12_150 (pc := 300) o dX12_operand_300 hr19 ?_
    refine x_aload_n (pc := 303) o dX12_operand_303 rfl rfl ?_
    obtain ⟨v20, hv20, h⟩ := xbs h
    refine gX12_156 (pc := 304) o dX12_operand_304 hv20 ?_
    refine x_iconst (pc := 307) o dX12_operand_307 ic_1 ?_
    refine x_isub (pc := 308) o dX12_operand_308 ?_
    refine x_iload_n (pc := 309) o dX12_operand_309 rfl rfl ?_
    obtain ⟨S21, hS21, h⟩ := xbs h
    refine x_iastore (pc := 310) o dX12_operand_310 hS21 ?_
    refine x_iconst (pc := 311) o dX12_operand_311 ic_0 ?_
    exact x_zreturn (pc := 312) o hr dX12_operand_312 (by decide) (xr1 h) (xr2 h)
def fX12_operand_B276 (n : Nat) (k0 : Nat) (a3 : Int32) (S : xSt) : Option (Int32 × xSt) :=
  if a3 = ((44 : Int32)) then
  (fX12_operand_B289 n k0 a3 k0 ((6 : Int32)) S)
else
  (fX12_operand_B289 n k0 a3 k0 ((3 : Int32)) S)
set_option maxHeartbeats 4000000 in
theorem tX12_operand_B276 {Γ : xGm} {M : xMg} (o : xOk Γ tM M 4 cX12_operand RX12) (hnL : Γ.2.2.2 = 4) (n : Nat) (k0 : Nat) (a3 : Int32) (S : xSt) (z : (Int32 × xSt)) (hr : xRI Γ tM M (some .boolean) z.1 z.2) (h : fX12_operand_B276 n k0 a3 S = some z) : xAt Γ tM M 276 (xlv [(0, .ref (M.2.1 k0)), (3, .int a3)]) [] S := by
  unfold fX12_operand_B276 at h
  refine x_aload_n (pc := 276) o dX12_operand_276 rfl rfl ?_
  refine x_iload_n (pc := 277) o dX12_operand_277 rfl rfl ?_
  refine x_bipush (pc := 278) o dX12_operand_278 bp_44 ?_
  refine x_icmp_ne (pc := 280) (tgt := 288) o dX12_operand_280 (by decide) (fun c23 => ?_) (fun c23 => ?_)
  · have h := xif h c23
    refine x_iconst (pc := 288) o dX12_operand_288 ic_3 ?_
    refine x_to (l := [(0, .ref (M.2.1 k0)), (3, .int a3)]) ⟨rfl, rfl, trivial⟩ ?_
    exact tX12_operand_B289 o hnL n k0 a3 k0 ((3 : Int32)) S z hr h
  · have h := xit h c23
    refine x_bipush (pc := 283) o dX12_operand_283 bp_6 ?_
    refine x_goto (pc := 285) (tgt := 289) o dX12_operand_285 (by decide) ?_
    refine x_to (l := [(0, .ref (M.2.1 k0)), (3, .int a3)]) ⟨rfl, rfl, trivial⟩ ?_
    exact tX12_operand_B289 o hnL n k0 a3 k0 ((6 : Int32)) S z hr h
def fX12_operand_B249 (n : Nat) (k0 : Nat) (s0 : Int32) (S : xSt) : Option (Int32 × xSt) :=
  (fX12_ahead n k0 S).bind fun S14 =>
  (fX12_lex k0 S14).bind fun S15 =>
  (fX12_isSign k0 ((40 : Int32)) S15).bind fun v16 =>
  if v16 = 0 then
  ((xgI tM 12 4 k0 S15).bind fun v24 =>
  (fX12_blame k0 ((1 : Int32)) v24 S15).bind fun S25 =>
  fX12_operand_B276 n k0 s0 S25)
else
  (fX12_operand_B276 n k0 s0 S15)
set_option maxHeartbeats 4000000 in
theorem tX12_operand_B249 {Γ : xGm} {M : xMg} (o : xOk Γ tM M 4 cX12_operand RX12) (hnL : Γ.2.2.2 = 4) (n : Nat) (k0 : Nat) (s0 : Int32) (S : xSt) (z : (Int32 × xSt)) (hr : xRI Γ tM M (some .boolean) z.1 z.2) (h : fX12_operand_B249 n k0 s0 S = some z) : xAt Γ tM M 249 (xlv [(0, .ref (M.2.1 k0))]) [.int s0] S := by
  have hn3 : 3 < Γ.2.2.2 := by omega
  unfold fX12_operand_B249 at h
  refine x_istore_n (pc := 249) o dX12_operand_249 rfl hn3 ?_
  refine x_aload_n (pc := 250) o dX12_operand_250 rfl rfl ?_
  obtain ⟨S14, hS14, h⟩ := xbs h
  refine x_callV (pc := 251) (As := []) (b := k0) (rest := []) o (tX12_ahead _ M _ n k0 S S14 hS14) eX12_ahead mX12_304 clX12 (kX12_ahead hS14) (by decide) rfl rfl (Nat.le_of_ble_eq_true rfl) dX12_operand_251 ?_
  refine x_aload_n (pc := 254) o dX12_operand_254 rfl rfl ?_
  obtain ⟨S15, hS15, h⟩ := xbs h
  refine x_callV (pc := 255) (As := []) (b := k0) (rest := []) o (tX12_lex _ M _ k0 S14 S15 hS15) eX12_lex mX12_298 clX12 (kX12_lex hS15) (by decide) rfl rfl (Nat.le_of_ble_eq_true rfl) dX12_operand_255 ?_
  refine x_aload_n (pc := 258) o dX12_operand_258 rfl rfl ?_
  refine x_bipush (pc := 259) o dX12_operand_259 bp_40 ?_
  obtain ⟨v16, hv16, h⟩ := xbs h
  refine x_callI (pc := 261) (As := [.int ((40 : Int32))]) (b := k0) (rest := []) o (tX12_isSign _ M _ k0 ((40 : Int32)) S15 v16 hv16) eX12_isSign mX12_301 clX12 (kX12_isSign hv16) (by decide) rfl rfl (Nat.le_of_ble_eq_true rfl) dX12_operand_261 ?_
  refine x_if_ne (pc := 264) (tgt := 276) o dX12_operand_264 (by decide) (fun c26 => ?_) (fun c26 => ?_)
  · have h := xif h c26
    refine x_to (l := [(0, .ref (M.2.1 k0)), (3, .int s0)]) ⟨rfl, rfl, trivial⟩ ?_
    exact tX12_operand_B276 o hnL n k0 s0 S15 z hr h
  · have h := xit h c26
    refine x_aload_n (pc := 267) o dX12_operand_267 rfl rfl ?_
    refine x_iconst (pc := 268) o dX12_operand_268 ic_1 ?_
    refine x_aload_n (pc := 269) o dX12_operand_269 rfl rfl ?_
    obtain ⟨v24, hv24, h⟩ := xbs h
    refine gX12_23 (pc := 270) o dX12_operand_270 hv24 ?_
    obtain ⟨S25, hS25, h⟩ := xbs h
    refine x_callV (pc := 273) (As := [.int ((1 : Int32)), .int v24]) (b := k0) (rest := []) o (tX12_blame _ M _ k0 ((1 : Int32)) v24 S15 S25 hS25) eX12_blame mX12_287 clX12 (kX12_blame hS25) (by decide) rfl rfl (Nat.le_of_ble_eq_true rfl) dX12_operand_273 ?_
    refine x_to (l := [(0, .ref (M.2.1 k0)), (3, .int s0)]) ⟨rfl, rfl, trivial⟩ ?_
    exact tX12_operand_B276 o hnL n k0 s0 S25 z hr h
def fX12_operand_B217 (n : Nat) (k0 : Nat) (S : xSt) : Option (Int32 × xSt) :=
  (fX12_isWord k0 ((7170414 : Int64)) S).bind fun v12 =>
  if v12 = 0 then
  ((fX12_isWord k0 ((7168376 : Int64)) S).bind fun v13 =>
  if v13 = 0 then
  (fX12_operand_B249 n k0 ((44 : Int32)) S)
else
  (fX12_operand_B249 n k0 ((37 : Int32)) S))
else
  (fX12_operand_B249 n k0 ((36 : Int32)) S)
set_option maxHeartbeats 4000000 in
theorem tX12_operand_B217 {Γ : xGm} {M : xMg} (o : xOk Γ tM M 4 cX12_operand RX12) (hnL : Γ.2.2.2 = 4) (n : Nat) (k0 : Nat) (S : xSt) (z : (Int32 × xSt)) (hr : xRI Γ tM M (some .boolean) z.1 z.2) (h : fX12_operand_B217 n k0 S = some z) : xAt Γ tM M 217 (xlv [(0, .ref (M.2.1 k0))]) [] S := by
  unfold fX12_operand_B217 at h
  refine x_aload_n (pc := 217) o dX12_operand_217 rfl rfl ?_
  refine x_ldc2 (pc := 218) o kcX12_367 dX12_operand_218 ?_
  obtain ⟨v12, hv12, h⟩ := xbs h
  refine x_callI (pc := 221) (As := [.long ((7170414 : Int64))]) (b := k0) (rest := []) o (tX12_isWord _ M _ k0 ((7170414 : Int64)) S v12 hv12) eX12_isWord mX12_395 clX12 (kX12_isWord hv12) (by decide) rfl rfl (Nat.le_of_ble_eq_true rfl) dX12_operand_221 ?_
  refine x_if_eq (pc := 224) (tgt := 232) o dX12_operand_224 (by decide) (fun c28 => ?_) (fun c28 => ?_)
  · have h := xit h c28
    refine x_aload_n (pc := 232) o dX12_operand_232 rfl rfl ?_
    refine x_ldc2 (pc := 233) o kcX12_369 dX12_operand_233 ?_
    obtain ⟨v13, hv13, h⟩ := xbs h
    refine x_callI (pc := 236) (As := [.long ((7168376 : Int64))]) (b := k0) (rest := []) o (tX12_isWord _ M _ k0 ((7168376 : Int64)) S v13 hv13) eX12_isWord mX12_395 clX12 (kX12_isWord hv13) (by decide) rfl rfl (Nat.le_of_ble_eq_true rfl) dX12_operand_236 ?_
    refine x_if_eq (pc := 239) (tgt := 247) o dX12_operand_239 (by decide) (fun c27 => ?_) (fun c27 => ?_)
    · have h := xit h c27
      refine x_bipush (pc := 247) o dX12_operand_247 bp_44 ?_
      refine x_to (l := [(0, .ref (M.2.1 k0))]) ⟨rfl, trivial⟩ ?_
      exact tX12_operand_B249 o hnL n k0 ((44 : Int32)) S z hr h
    · have h := xif h c27
      refine x_bipush (pc := 242) o dX12_operand_242 bp_37 ?_
      refine x_goto (pc := 244) (tgt := 249) o dX12_operand_244 (by decide) ?_
      refine x_to (l := [(0, .ref (M.2.1 k0))]) ⟨rfl, trivial⟩ ?_
      exact tX12_operand_B249 o hnL n k0 ((37 : Int32)) S z hr h
  · have h := xif h c28
    refine x_bipush (pc := 227) o dX12_operand_227 bp_36 ?_
    refine x_goto (pc := 229) (tgt := 249) o dX12_operand_229 (by decide) ?_
    refine x_to (l := [(0, .ref (M.2.1 k0))]) ⟨rfl, trivial⟩ ?_
    exact tX12_operand_B249 o hnL n k0 ((36 : Int32)) S z hr h
def fX12_operand_B471 (n : Nat) (k0 : Nat) (a3 : Int32) (S : xSt) : Option (Int32 × xSt) :=
  (xgI tM 12 8 k0 S).bind fun v40 =>
  if v40 ≤ 0 then
  ((xgI tM 12 6 k0 S).bind fun v41 =>
  (fX12_add k0 a3 v41 S).bind fun S42 =>
  (fX12_ahead n k0 S42).bind fun S43 =>
  some ((1 : Int32), S43))
else
  (some ((1 : Int32), S))
set_option maxHeartbeats 4000000 in
theorem tX12_operand_B471 {Γ : xGm} {M : xMg} (o : xOk Γ tM M 4 cX12_operand RX12) (hnL : Γ.2.2.2 = 4) (n : Nat) (k0 : Nat) (a3 : Int32) (S : xSt) (z : (Int32 × xSt)) (hr : xRI Γ tM M (some .boolean) z.1 z.2) (h : fX12_operand_B471 n k0 a3 S = some z) : xAt Γ tM M 471 (xlv [(0, .ref (M.2.1 k0)), (3, .int a3)]) [] S := by
  unfold fX12_operand_B471 at h
  refine x_aload_n (pc := 471) o dX12_operand_471 rfl rfl ?_
  obtain ⟨v40, hv40, h⟩ := xbs h
  refine gX12_36 (pc := 472) o dX12_operand_472 hv40 ?_
  refine x_if_le (pc := 475) (tgt := 480) o dX12_operand_475 (by decide) (fun c44 => ?_) (fun c44 => ?_)
  · have h := xit h c44
    refine x_aload_n (pc := 480) o dX12_operand_480 rfl rfl ?_
    refine x_iload_n (pc := 481) o dX12_operand_481 rfl rfl ?_
    refine x_aload_n (pc := 482) o dX12_operand_482 rfl rfl ?_
    obtain ⟨v41, hv41, h⟩ := xbs h
    refine gX12_29 (pc := 483) o dX12_operand_483 hv41 ?_
    obtain ⟨S42, hS42, h⟩ := xbs h
    refine x_callV (pc := 486) (As := [.int a3, .int v41]) (b := k0) (rest := []) o (tX12_add _ M _ k0 a3 v41 S S42 hS42) eX12_add mX12_386 clX12 (kX12_add hS42) (by decide) rfl rfl (Nat.le_of_ble_eq_true rfl) dX12_operand_486 ?_
    refine x_aload_n (pc := 489) o dX12_operand_489 rfl rfl ?_
    obtain ⟨S43, hS43, h⟩ := xbs h
    refine x_callV (pc := 490) (As := []) (b := k0) (rest := []) o (tX12_ahead _ M _ n k0 S42 S43 hS43) eX12_ahead mX12_304 clX12 (kX12_ahead hS43) (by decide) rfl rfl (Nat.le_of_ble_eq_true rfl) dX12_operand_490 ?_
    refine x_iconst (pc := 493) o dX12_operand_493 ic_1 ?_
    exact x_zreturn (pc := 494) o hr dX12_operand_494 (by decide) (xr1 h) (xr2 h)
  · have h := xif h c44
    refine x_iconst (pc := 478) o dX12_operand_478 ic_1 ?_
    exact x_zreturn (pc := 479) o hr dX12_operand_479 (by decide) (xr1 h) (xr2 h)
def fX12_operand_B457 (n : Nat) (k0 : Nat) (a3 : Int32) (S : xSt) : Option (Int32 × xSt) :=
  if a3 = ((-1 : Int32)) then
  ((xgI tM 12 4 k0 S).bind fun v45 =>
  (fX12_blame k0 ((1 : Int32)) v45 S).bind fun S46 =>
  fX12_operand_B471 n k0 a3 S46)
else
  (fX12_operand_B471 n k0 a3 S)
set_option maxHeartbeats 4000000 in
theorem tX12_operand_B457 {Γ : xGm} {M : xMg} (o : xOk Γ tM M 4 cX12_operand RX12) (hnL : Γ.2.2.2 = 4) (n : Nat) (k0 : Nat) (a3 : Int32) (S : xSt) (z : (Int32 × xSt)) (hr : xRI Γ tM M (some .boolean) z.1 z.2) (h : fX12_operand_B457 n k0 a3 S = some z) : xAt Γ tM M 457 (xlv [(0, .ref (M.2.1 k0)), (3, .int a3)]) [] S := by
  unfold fX12_operand_B457 at h
  refine x_iload_n (pc := 457) o dX12_operand_457 rfl rfl ?_
  refine x_iconst (pc := 458) o dX12_operand_458 ic_m1 ?_
  refine x_icmp_ne (pc := 459) (tgt := 471) o dX12_operand_459 (by decide) (fun c47 => ?_) (fun c47 => ?_)
  · have h := xif h c47
    refine x_to (l := [(0, .ref (M.2.1 k0)), (3, .int a3)]) ⟨rfl, rfl, trivial⟩ ?_
    exact tX12_operand_B471 o hnL n k0 a3 S z hr h
  · have h := xit h c47
    refine x_aload_n (pc := 462) o dX12_operand_462 rfl rfl ?_
    refine x_iconst (pc := 463) o dX12_operand_463 ic_1 ?_
    refine x_aload_n (pc := 464) o dX12_operand_464 rfl rfl ?_
    obtain ⟨v45, hv45, h⟩ := xbs h
    refine gX12_23 (pc := 465) o dX12_operand_465 hv45 ?_
    obtain ⟨S46, hS46, h⟩ := xbs h
    refine x_callV (pc := 468) (As := [.int ((1 : Int32)), .int v45]) (b := k0) (rest := []) o (tX12_blame _ M _ k0 ((1 : Int32)) v45 S S46 hS46) eX12_blame mX12_287 clX12 (kX12_blame hS46) (by decide) rfl rfl (Nat.le_of_ble_eq_true rfl) dX12_operand_468 ?_
    refine x_to (l := [(0, .ref (M.2.1 k0)), (3, .int a3)]) ⟨rfl, rfl, trivial⟩ ?_
    exact tX12_operand_B471 o hnL n k0 a3 S46 z hr h
def fX12_operand_B441 (n : Nat) (k0 : Nat) (s0 : Int32) (S : xSt) : Option (Int32 × xSt) :=
  if s0 ≤ ((6 : Int32)) then
  (fX12_operand_B457 n k0 s0 S)
else
  ((xgI tM 12 41 k0 S).bind fun v48 =>
  if v48 = 0 then
  (fX12_operand_B457 n k0 ((-1 : Int32)) S)
else
  (fX12_operand_B457 n k0 s0 S))
set_option maxHeartbeats 4000000 in
theorem tX12_operand_B441 {Γ : xGm} {M : xMg} (o : xOk Γ tM M 4 cX12_operand RX12) (hnL : Γ.2.2.2 = 4) (n : Nat) (k0 : Nat) (s0 : Int32) (S : xSt) (z : (Int32 × xSt)) (hr : xRI Γ tM M (some .boolean) z.1 z.2) (h : fX12_operand_B441 n k0 s0 S = some z) : xAt Γ tM M 441 (xlv [(0, .ref (M.2.1 k0))]) [.int s0] S := by
  have hn3 : 3 < Γ.2.2.2 := by omega
  unfold fX12_operand_B441 at h
  refine x_istore_n (pc := 441) o dX12_operand_441 rfl hn3 ?_
  refine x_iload_n (pc := 442) o dX12_operand_442 rfl rfl ?_
  refine x_bipush (pc := 443) o dX12_operand_443 bp_6 ?_
  refine x_icmp_le (pc := 445) (tgt := 457) o dX12_operand_445 (by decide) (fun c50 => ?_) (fun c50 => ?_)
  · have h := xit h c50
    refine x_to (l := [(0, .ref (M.2.1 k0)), (3, .int s0)]) ⟨rfl, rfl, trivial⟩ ?_
    exact tX12_operand_B457 o hnL n k0 s0 S z hr h
  · have h := xif h c50
    refine x_aload_n (pc := 448) o dX12_operand_448 rfl rfl ?_
    obtain ⟨v48, hv48, h⟩ := xbs h
    refine gX12_136 (pc := 449) o dX12_operand_449 hv48 ?_
    refine x_if_ne (pc := 452) (tgt := 457) o dX12_operand_452 (by decide) (fun c49 => ?_) (fun c49 => ?_)
    · have h := xif h c49
      refine x_to (l := [(0, .ref (M.2.1 k0)), (3, .int s0)]) ⟨rfl, rfl, trivial⟩ ?_
      exact tX12_operand_B457 o hnL n k0 s0 S z hr h
    · have h := xit h c49
      refine x_iconst (pc := 455) o dX12_operand_455 ic_m1 ?_
      refine x_istore_n (pc := 456) o dX12_operand_456 rfl hn3 ?_
      refine x_to (l := [(0, .ref (M.2.1 k0)), (3, .int ((-1 : Int32)))]) ⟨rfl, rfl, trivial⟩ ?_
      exact tX12_operand_B457 o hnL n k0 ((-1 : Int32)) S z hr h
def fX12_operand_B171 (n : Nat) (k0 : Nat) (S : xSt) : Option (Int32 × xSt) :=
  (fX12_isSign k0 ((40 : Int32)) S).bind fun v10 =>
  if v10 = 0 then
  ((fX12_isWord k0 ((7170414 : Int64)) S).bind fun v11 =>
  if v11 = 0 then
  ((fX12_isWord k0 ((7168376 : Int64)) S).bind fun v29 =>
  if v29 = 0 then
  ((fX12_isWord k0 ((26982 : Int64)) S).bind fun v30 =>
  if v30 = 0 then
  ((xgI tM 12 3 k0 S).bind fun v31 =>
  if v31 = ((2 : Int32)) then
  (fX12_operand_B441 n k0 ((0 : Int32)) S)
else
  ((fX12_isWord k0 ((1919251316 : Int64)) S).bind fun v32 =>
  if v32 = 0 then
  ((fX12_isWord k0 ((2003792494 : Int64)) S).bind fun v33 =>
  if v33 = 0 then
  ((fX12_isWord k0 ((461414299507 : Int64)) S).bind fun v34 =>
  if v34 = 0 then
  ((fX12_isWord k0 ((448546566771 : Int64)) S).bind fun v35 =>
  if v35 = 0 then
  ((fX12_isWord k0 ((6578553 : Int64)) S).bind fun v36 =>
  if v36 = 0 then
  ((fX12_isWord k0 ((1818326117 : Int64)) S).bind fun v37 =>
  if v37 = 0 then
  ((fX12_isWord k0 ((440006570868 : Int64)) S).bind fun v38 =>
  if v38 = 0 then
  ((fX12_isWord k0 ((1970496868 : Int64)) S).bind fun v39 =>
  if v39 = 0 then
  (fX12_operand_B441 n k0 ((-1 : Int32)) S)
else
  (fX12_operand_B441 n k0 ((8 : Int32)) S))
else
  (fX12_operand_B441 n k0 ((7 : Int32)) S))
else
  (fX12_operand_B441 n k0 ((6 : Int32)) S))
else
  (fX12_operand_B441 n k0 ((5 : Int32)) S))
else
  (fX12_operand_B441 n k0 ((4 : Int32)) S))
else
  (fX12_operand_B441 n k0 ((3 : Int32)) S))
else
  (fX12_operand_B441 n k0 ((2 : Int32)) S))
else
  (fX12_operand_B441 n k0 ((1 : Int32)) S)))
else
  (fX12_operand_B217 n k0 S))
else
  (fX12_operand_B217 n k0 S))
else
  (fX12_operand_B217 n k0 S))
else
  ((fX12_opens n k0 ((2 : Int32)) S).bind fun S63 =>
  some ((0 : Int32), S63))
set_option maxHeartbeats 4000000 in
theorem tX12_operand_B171 {Γ : xGm} {M : xMg} (o : xOk Γ tM M 4 cX12_operand RX12) (hnL : Γ.2.2.2 = 4) (n : Nat) (k0 : Nat) (S : xSt) (z : (Int32 × xSt)) (hr : xRI Γ tM M (some .boolean) z.1 z.2) (h : fX12_operand_B171 n k0 S = some z) : xAt Γ tM M 171 (xlv [(0, .ref (M.2.1 k0))]) [] S := by
  unfold fX12_operand_B171 at h
  refine x_aload_n (pc := 171) o dX12_operand_171 rfl rfl ?_
  refine x_bipush (pc := 172) o dX12_operand_172 bp_40 ?_
  obtain ⟨v10, hv10, h⟩ := xbs h
  refine x_callI (pc := 174) (As := [.int ((40 : Int32))]) (b := k0) (rest := []) o (tX12_isSign _ M _ k0 ((40 : Int32)) S v10 hv10) eX12_isSign mX12_301 clX12 (kX12_isSign hv10) (by decide) rfl rfl (Nat.le_of_ble_eq_true rfl) dX12_operand_174 ?_
  refine x_if_eq (pc := 177) (tgt := 187) o dX12_operand_177 (by decide) (fun c64 => ?_) (fun c64 => ?_)
  · have h := xit h c64
    refine x_aload_n (pc := 187) o dX12_operand_187 rfl rfl ?_
    refine x_ldc2 (pc := 188) o kcX12_367 dX12_operand_188 ?_
    obtain ⟨v11, hv11, h⟩ := xbs h
    refine x_callI (pc := 191) (As := [.long ((7170414 : Int64))]) (b := k0) (rest := []) o (tX12_isWord _ M _ k0 ((7170414 : Int64)) S v11 hv11) eX12_isWord mX12_395 clX12 (kX12_isWord hv11) (by decide) rfl rfl (Nat.le_of_ble_eq_true rfl) dX12_operand_191 ?_
    refine x_if_ne (pc := 194) (tgt := 217) o dX12_operand_194 (by decide) (fun c62 => ?_) (fun c62 => ?_)
    · have h := xif h c62
      refine x_to (l := [(0, .ref (M.2.1 k0))]) ⟨rfl, trivial⟩ ?_
      exact tX12_operand_B217 o hnL n k0 S z hr h
    · have h := xit h c62
      refine x_aload_n (pc := 197) o dX12_operand_197 rfl rfl ?_
      refine x_ldc2 (pc := 198) o kcX12_369 dX12_operand_198 ?_
      obtain ⟨v29, hv29, h⟩ := xbs h
      refine x_callI (pc := 201) (As := [.long ((7168376 : Int64))]) (b := k0) (rest := []) o (tX12_isWord _ M _ k0 ((7168376 : Int64)) S v29 hv29) eX12_isWord mX12_395 clX12 (kX12_isWord hv29) (by decide) rfl rfl (Nat.le_of_ble_eq_true rfl) dX12_operand_201 ?_
      refine x_if_ne (pc := 204) (tgt := 217) o dX12_operand_204 (by decide) (fun c61 => ?_) (fun c61 => ?_)
      · have h := xif h c61
        refine x_to (l := [(0, .ref (M.2.1 k0))]) ⟨rfl, trivial⟩ ?_
        exact tX12_operand_B217 o hnL n k0 S z hr h
      · have h := xit h c61
        refine x_aload_n (pc := 207) o dX12_operand_207 rfl rfl ?_
        refine x_ldc2 (pc := 208) o kcX12_357 dX12_operand_208 ?_
        obtain ⟨v30, hv30, h⟩ := xbs h
        refine x_callI (pc := 211) (As := [.long ((26982 : Int64))]) (b := k0) (rest := []) o (tX12_isWord _ M _ k0 ((26982 : Int64)) S v30 hv30) eX12_isWord mX12_395 clX12 (kX12_isWord hv30) (by decide) rfl rfl (Nat.le_of_ble_eq_true rfl) dX12_operand_211 ?_
        refine x_if_eq (pc := 214) (tgt := 313) o dX12_operand_214 (by decide) (fun c60 => ?_) (fun c60 => ?_)
        · have h := xit h c60
          refine x_aload_n (pc := 313) o dX12_operand_313 rfl rfl ?_
          obtain ⟨v31, hv31, h⟩ := xbs h
          refine gX12_20 (pc := 314) o dX12_operand_314 hv31 ?_
          refine x_iconst (pc := 317) o dX12_operand_317 ic_2 ?_
          refine x_icmp_ne (pc := 318) (tgt := 325) o dX12_operand_318 (by decide) (fun c59 => ?_) (fun c59 => ?_)
          · have h := xif h c59
            refine x_aload_n (pc := 325) o dX12_operand_325 rfl rfl ?_
            refine x_ldc2 (pc := 326) o kcX12_347 dX12_operand_326 ?_
            obtain ⟨v32, hv32, h⟩ := xbs h
            refine x_callI (pc := 329) (As := [.long ((1919251316 : Int64))]) (b := k0) (rest := []) o (tX12_isWord _ M _ k0 ((1919251316 : Int64)) S v32 hv32) eX12_isWord mX12_395 clX12 (kX12_isWord hv32) (by decide) rfl rfl (Nat.le_of_ble_eq_true rfl) dX12_operand_329 ?_
            refine x_if_eq (pc := 332) (tgt := 339) o dX12_operand_332 (by decide) (fun c58 => ?_) (fun c58 => ?_)
            · have h := xit h c58
              refine x_aload_n (pc := 339) o dX12_operand_339 rfl rfl ?_
              refine x_ldc2 (pc := 340) o kcX12_317 dX12_operand_340 ?_
              obtain ⟨v33, hv33, h⟩ := xbs h
              refine x_callI (pc := 343) (As := [.long ((2003792494 : Int64))]) (b := k0) (rest := []) o (tX12_isWord _ M _ k0 ((2003792494 : Int64)) S v33 hv33) eX12_isWord mX12_395 clX12 (kX12_isWord hv33) (by decide) rfl rfl (Nat.le_of_ble_eq_true rfl) dX12_operand_343 ?_
              refine x_if_eq (pc := 346) (tgt := 353) o dX12_operand_346 (by decide) (fun c57 => ?_) (fun c57 => ?_)
              · have h := xit h c57
                refine x_aload_n (pc := 353) o dX12_operand_353 rfl rfl ?_
                refine x_ldc2 (pc := 354) o kcX12_321 dX12_operand_354 ?_
                obtain ⟨v34, hv34, h⟩ := xbs h
                refine x_callI (pc := 357) (As := [.long ((461414299507 : Int64))]) (b := k0) (rest := []) o (tX12_isWord _ M _ k0 ((461414299507 : Int64)) S v34 hv34) eX12_isWord mX12_395 clX12 (kX12_isWord hv34) (by decide) rfl rfl (Nat.le_of_ble_eq_true rfl) dX12_operand_357 ?_
                refine x_if_eq (pc := 360) (tgt := 367) o dX12_operand_360 (by decide) (fun c56 => ?_) (fun c56 => ?_)
                · have h := xit h c56
                  refine x_aload_n (pc := 367) o dX12_operand_367 rfl rfl ?_
                  refine x_ldc2 (pc := 368) o kcX12_349 dX12_operand_368 ?_
                  obtain ⟨v35, hv35, h⟩ := xbs h
                  refine x_callI (pc := 371) (As := [.long ((448546566771 : Int64))]) (b := k0) (rest := []) o (tX12_isWord _ M _ k0 ((448546566771 : Int64)) S v35 hv35) eX12_isWord mX12_395 clX12 (kX12_isWord hv35) (by decide) rfl rfl (Nat.le_of_ble_eq_true rfl) dX12_operand_371 ?_
                  refine x_if_eq (pc := 374) (tgt := 381) o dX12_operand_374 (by decide) (fun c55 => ?_) (fun c55 => ?_)
                  · have h := xit h c55
                    refine x_aload_n (pc := 381) o dX12_operand_381 rfl rfl ?_
                    refine x_ldc2 (pc := 382) o kcX12_351 dX12_operand_382 ?_
                    obtain ⟨v36, hv36, h⟩ := xbs h
                    refine x_callI (pc := 385) (As := [.long ((6578553 : Int64))]) (b := k0) (rest := []) o (tX12_isWord _ M _ k0 ((6578553 : Int64)) S v36 hv36) eX12_isWord mX12_395 clX12 (kX12_isWord hv36) (by decide) rfl rfl (Nat.le_of_ble_eq_true rfl) dX12_operand_385 ?_
                    refine x_if_eq (pc := 388) (tgt := 395) o dX12_operand_388 (by decide) (fun c54 => ?_) (fun c54 => ?_)
                    · have h := xit h c54
                      refine x_aload_n (pc := 395) o dX12_operand_395 rfl rfl ?_
                      refine x_ldc2 (pc := 396) o kcX12_353 dX12_operand_396 ?_
                      obtain ⟨v37, hv37, h⟩ := xbs h
                      refine x_callI (pc := 399) (As := [.long ((1818326117 : Int64))]) (b := k0) (rest := []) o (tX12_isWord _ M _ k0 ((1818326117 : Int64)) S v37 hv37) eX12_isWord mX12_395 clX12 (kX12_isWord hv37) (by decide) rfl rfl (Nat.le_of_ble_eq_true rfl) dX12_operand_399 ?_
                      refine x_if_eq (pc := 402) (tgt := 410) o dX12_operand_402 (by decide) (fun c53 => ?_) (fun c53 => ?_)
                      · have h := xit h c53
                        refine x_aload_n (pc := 410) o dX12_operand_410 rfl rfl ?_
                        refine x_ldc2 (pc := 411) o kcX12_345 dX12_operand_411 ?_
                        obtain ⟨v38, hv38, h⟩ := xbs h
                        refine x_callI (pc := 414) (As := [.long ((440006570868 : Int64))]) (b := k0) (rest := []) o (tX12_isWord _ M _ k0 ((440006570868 : Int64)) S v38 hv38) eX12_isWord mX12_395 clX12 (kX12_isWord hv38) (by decide) rfl rfl (Nat.le_of_ble_eq_true rfl) dX12_operand_414 ?_
                        refine x_if_eq (pc := 417) (tgt := 425) o dX12_operand_417 (by decide) (fun c52 => ?_) (fun c52 => ?_)
                        · have h := xit h c52
                          refine x_aload_n (pc := 425) o dX12_operand_425 rfl rfl ?_
                          refine x_ldc2 (pc := 426) o kcX12_355 dX12_operand_426 ?_
                          obtain ⟨v39, hv39, h⟩ := xbs h
                          refine x_callI (pc := 429) (As := [.long ((1970496868 : Int64))]) (b := k0) (rest := []) o (tX12_isWord _ M _ k0 ((1970496868 : Int64)) S v39 hv39) eX12_isWord mX12_395 clX12 (kX12_isWord hv39) (by decide) rfl rfl (Nat.le_of_ble_eq_true rfl) dX12_operand_429 ?_
                          refine x_if_eq (pc := 432) (tgt := 440) o dX12_operand_432 (by decide) (fun c51 => ?_) (fun c51 => ?_)
                          · have h := xit h c51
                            refine x_iconst (pc := 440) o dX12_operand_440 ic_m1 ?_
                            refine x_to (l := [(0, .ref (M.2.1 k0))]) ⟨rfl, trivial⟩ ?_
                            exact tX12_operand_B441 o hnL n k0 ((-1 : Int32)) S z hr h
                          · have h := xif h c51
                            refine x_bipush (pc := 435) o dX12_operand_435 bp_8 ?_
                            refine x_goto (pc := 437) (tgt := 441) o dX12_operand_437 (by decide) ?_
                            refine x_to (l := [(0, .ref (M.2.1 k0))]) ⟨rfl, trivial⟩ ?_
                            exact tX12_operand_B441 o hnL n k0 ((8 : Int32)) S z hr h
                        · have h := xif h c52
                          refine x_bipush (pc := 420) o dX12_operand_420 bp_7 ?_
                          refine x_goto (pc := 422) (tgt := 441) o dX12_operand_422 (by decide) ?_
                          refine x_to (l := [(0, .ref (M.2.1 k0))]) ⟨rfl, trivial⟩ ?_
                          exact tX12_operand_B441 o hnL n k0 ((7 : Int32)) S z hr h
                      · have h := xif h c53
                        refine x_bipush (pc := 405) o dX12_operand_405 bp_6 ?_
                        refine x_goto (pc := 407) (tgt := 441) o dX12_operand_407 (by decide) ?_
                        refine x_to (l := [(0, .ref (M.2.1 k0))]) ⟨rfl, trivial⟩ ?_
                        exact tX12_operand_B441 o hnL n k0 ((6 : Int32)) S z hr h
                    · have h := xif h c54
                      refine x_iconst (pc := 391) o dX12_operand_391 ic_5 ?_
                      refine x_goto (pc := 392) (tgt := 441) o dX12_operand_392 (by decide) ?_
                      refine x_to (l := [(0, .ref (M.2.1 k0))]) ⟨rfl, trivial⟩ ?_
                      exact tX12_operand_B441 o hnL n k0 ((5 : Int32)) S z hr h
                  · have h := xif h c55
                    refine x_iconst (pc := 377) o dX12_operand_377 ic_4 ?_
                    refine x_goto (pc := 378) (tgt := 441) o dX12_operand_378 (by decide) ?_
                    refine x_to (l := [(0, .ref (M.2.1 k0))]) ⟨rfl, trivial⟩ ?_
                    exact tX12_operand_B441 o hnL n k0 ((4 : Int32)) S z hr h
                · have h := xif h c56
                  refine x_iconst (pc := 363) o dX12_operand_363 ic_3 ?_
                  refine x_goto (pc := 364) (tgt := 441) o dX12_operand_364 (by decide) ?_
                  refine x_to (l := [(0, .ref (M.2.1 k0))]) ⟨rfl, trivial⟩ ?_
                  exact tX12_operand_B441 o hnL n k0 ((3 : Int32)) S z hr h
              · have h := xif h c57
                refine x_iconst (pc := 349) o dX12_operand_349 ic_2 ?_
                refine x_goto (pc := 350) (tgt := 441) o dX12_operand_350 (by decide) ?_
                refine x_to (l := [(0, .ref (M.2.1 k0))]) ⟨rfl, trivial⟩ ?_
                exact tX12_operand_B441 o hnL n k0 ((2 : Int32)) S z hr h
            · have h := xif h c58
              refine x_iconst (pc := 335) o dX12_operand_335 ic_1 ?_
              refine x_goto (pc := 336) (tgt := 441) o dX12_operand_336 (by decide) ?_
              refine x_to (l := [(0, .ref (M.2.1 k0))]) ⟨rfl, trivial⟩ ?_
              exact tX12_operand_B441 o hnL n k0 ((1 : Int32)) S z hr h
          · have h := xit h c59
            refine x_iconst (pc := 321) o dX12_operand_321 ic_0 ?_
            refine x_goto (pc := 322) (tgt := 441) o dX12_operand_322 (by decide) ?_
            refine x_to (l := [(0, .ref (M.2.1 k0))]) ⟨rfl, trivial⟩ ?_
            exact tX12_operand_B441 o hnL n k0 ((0 : Int32)) S z hr h
        · have h := xif h c60
          refine x_to (l := [(0, .ref (M.2.1 k0))]) ⟨rfl, trivial⟩ ?_
          exact tX12_operand_B217 o hnL n k0 S z hr h
  · have h := xif h c64
    refine x_aload_n (pc := 180) o dX12_operand_180 rfl rfl ?_
    refine x_iconst (pc := 181) o dX12_operand_181 ic_2 ?_
    obtain ⟨S63, hS63, h⟩ := xbs h
    refine x_callV (pc := 182) (As := [.int ((2 : Int32))]) (b := k0) (rest := []) o (tX12_opens _ M _ n k0 ((2 : Int32)) S S63 hS63) eX12_opens mX12_402 clX12 (kX12_opens hS63) (by decide) rfl rfl (Nat.le_of_ble_eq_true rfl) dX12_operand_182 ?_
    refine x_iconst (pc := 185) o dX12_operand_185 ic_0 ?_
    exact x_zreturn (pc := 186) o hr dX12_operand_186 (by decide) (xr1 h) (xr2 h)
def fX12_operand_B137 (n : Nat) (k0 : Nat) (a1 : Int32) (a2 : Int32) (S : xSt) : Option (Int32 × xSt) :=
  if a2 = 0 then
  (fX12_operand_B171 n k0 S)
else
  ((fX12_isWord k0 ((6384748 : Int64)) S).bind fun v65 =>
  if v65 = 0 then
  (fX12_operand_B171 n k0 S)
else
  ((fX12_add k0 ((30 : Int32)) ((0 : Int32)) S).bind fun S66 =>
  (xgF tM 12 43 k0 S66).bind fun r67 =>
  (xas tM r67 a1 ((2 : Int32)) S66).bind fun S68 =>
  (fX12_ahead n k0 S68).bind fun S69 =>
  some ((1 : Int32), S69)))
set_option maxHeartbeats 4000000 in
theorem tX12_operand_B137 {Γ : xGm} {M : xMg} (o : xOk Γ tM M 4 cX12_operand RX12) (hnL : Γ.2.2.2 = 4) (n : Nat) (k0 : Nat) (a1 : Int32) (a2 : Int32) (S : xSt) (z : (Int32 × xSt)) (hr : xRI Γ tM M (some .boolean) z.1 z.2) (h : fX12_operand_B137 n k0 a1 a2 S = some z) : xAt Γ tM M 137 (xlv [(0, .ref (M.2.1 k0)), (1, .int a1), (2, .int a2)]) [] S := by
  unfold fX12_operand_B137 at h
  refine x_iload_n (pc := 137) o dX12_operand_137 rfl rfl ?_
  refine x_if_eq (pc := 138) (tgt := 171) o dX12_operand_138 (by decide) (fun c71 => ?_) (fun c71 => ?_)
  · have h := xit h c71
    refine x_to (l := [(0, .ref (M.2.1 k0))]) ⟨rfl, trivial⟩ ?_
    exact tX12_operand_B171 o hnL n k0 S z hr h
  · have h := xif h c71
    refine x_aload_n (pc := 141) o dX12_operand_141 rfl rfl ?_
    refine x_ldc2 (pc := 142) o kcX12_365 dX12_operand_142 ?_
    obtain ⟨v65, hv65, h⟩ := xbs h
    refine x_callI (pc := 145) (As := [.long ((6384748 : Int64))]) (b := k0) (rest := []) o (tX12_isWord _ M _ k0 ((6384748 : Int64)) S v65 hv65) eX12_isWord mX12_395 clX12 (kX12_isWord hv65) (by decide) rfl rfl (Nat.le_of_ble_eq_true rfl) dX12_operand_145 ?_
    refine x_if_eq (pc := 148) (tgt := 171) o dX12_operand_148 (by decide) (fun c70 => ?_) (fun c70 => ?_)
    · have h := xit h c70
      refine x_to (l := [(0, .ref (M.2.1 k0))]) ⟨rfl, trivial⟩ ?_
      exact tX12_operand_B171 o hnL n k0 S z hr h
    · have h := xif h c70
      refine x_aload_n (pc := 151) o dX12_operand_151 rfl rfl ?_
      refine x_bipush (pc := 152) o dX12_operand_152 bp_30 ?_
      refine x_iconst (pc := 154) o dX12_operand_154 ic_0 ?_
      obtain ⟨S66, hS66, h⟩ := xbs h
      refine x_callV (pc := 155) (As := [.int ((30 : Int32)), .int ((0 : Int32))]) (b := k0) (rest := []) o (tX12_add _ M _ k0 ((30 : Int32)) ((0 : Int32)) S S66 hS66) eX12_add mX12_386 clX12 (kX12_add hS66) (by decide) rfl rfl (Nat.le_of_ble_eq_true rfl) dX12_operand_155 ?_
      refine x_aload_n (pc := 158) o dX12_operand_158 rfl rfl ?_
      obtain ⟨r67, hr67, h⟩ := xbs h
      refine gX12_143 (pc := 159) o dX12_operand_159 hr67 ?_
      refine x_iload_n (pc := 162) o dX12_operand_162 rfl rfl ?_
      refine x_iconst (pc := 163) o dX12_operand_163 ic_2 ?_
      obtain ⟨S68, hS68, h⟩ := xbs h
      refine x_iastore (pc := 164) o dX12_operand_164 hS68 ?_
      refine x_aload_n (pc := 165) o dX12_operand_165 rfl rfl ?_
      obtain ⟨S69, hS69, h⟩ := xbs h
      refine x_callV (pc := 166) (As := []) (b := k0) (rest := []) o (tX12_ahead _ M _ n k0 S68 S69 hS69) eX12_ahead mX12_304 clX12 (kX12_ahead hS69) (by decide) rfl rfl (Nat.le_of_ble_eq_true rfl) dX12_operand_166 ?_
      refine x_iconst (pc := 169) o dX12_operand_169 ic_1 ?_
      exact x_zreturn (pc := 170) o hr dX12_operand_170 (by decide) (xr1 h) (xr2 h)
def fX12_operand_B110 (n : Nat) (k0 : Nat) (a1 : Int32) (a2 : Int32) (S : xSt) : Option (Int32 × xSt) :=
  (xgF tM 12 44 k0 S).bind fun r8 =>
  (xzs tM r8 a1 ((0 : Int32)) S).bind fun S9 =>
  if a2 = 0 then
  (fX12_operand_B137 n k0 a1 a2 S9)
else
  ((fX12_isSign k0 ((91 : Int32)) S9).bind fun v72 =>
  if v72 = 0 then
  (fX12_operand_B137 n k0 a1 a2 S9)
else
  ((fX12_opens n k0 ((5 : Int32)) S9).bind fun S73 =>
  some ((0 : Int32), S73)))
set_option maxHeartbeats 4000000 in
theorem tX12_operand_B110 {Γ : xGm} {M : xMg} (o : xOk Γ tM M 4 cX12_operand RX12) (hnL : Γ.2.2.2 = 4) (n : Nat) (k0 : Nat) (a1 : Int32) (a2 : Int32) (S : xSt) (z : (Int32 × xSt)) (hr : xRI Γ tM M (some .boolean) z.1 z.2) (h : fX12_operand_B110 n k0 a1 a2 S = some z) : xAt Γ tM M 110 (xlv [(0, .ref (M.2.1 k0)), (1, .int a1), (2, .int a2)]) [] S := by
  unfold fX12_operand_B110 at h
  refine x_aload_n (pc := 110) o dX12_operand_110 rfl rfl ?_
  obtain ⟨r8, hr8, h⟩ := xbs h
  refine gX12_146 (pc := 111) o dX12_operand_111 hr8 ?_
  refine x_iload_n (pc := 114) o dX12_operand_114 rfl rfl ?_
  refine x_iconst (pc := 115) o dX12_operand_115 ic_0 ?_
  obtain ⟨S9, hS9, h⟩ := xbs h
  refine x_zastore (pc := 116) o dX12_operand_116 hS9 ?_
  refine x_iload_n (pc := 117) o dX12_operand_117 rfl rfl ?_
  refine x_if_eq (pc := 118) (tgt := 137) o dX12_operand_118 (by decide) (fun c75 => ?_) (fun c75 => ?_)
  · have h := xit h c75
    refine x_to (l := [(0, .ref (M.2.1 k0)), (1, .int a1), (2, .int a2)]) ⟨rfl, rfl, rfl, trivial⟩ ?_
    exact tX12_operand_B137 o hnL n k0 a1 a2 S9 z hr h
  · have h := xif h c75
    refine x_aload_n (pc := 121) o dX12_operand_121 rfl rfl ?_
    refine x_bipush (pc := 122) o dX12_operand_122 bp_91 ?_
    obtain ⟨v72, hv72, h⟩ := xbs h
    refine x_callI (pc := 124) (As := [.int ((91 : Int32))]) (b := k0) (rest := []) o (tX12_isSign _ M _ k0 ((91 : Int32)) S9 v72 hv72) eX12_isSign mX12_301 clX12 (kX12_isSign hv72) (by decide) rfl rfl (Nat.le_of_ble_eq_true rfl) dX12_operand_124 ?_
    refine x_if_eq (pc := 127) (tgt := 137) o dX12_operand_127 (by decide) (fun c74 => ?_) (fun c74 => ?_)
    · have h := xit h c74
      refine x_to (l := [(0, .ref (M.2.1 k0)), (1, .int a1), (2, .int a2)]) ⟨rfl, rfl, rfl, trivial⟩ ?_
      exact tX12_operand_B137 o hnL n k0 a1 a2 S9 z hr h
    · have h := xif h c74
      refine x_aload_n (pc := 130) o dX12_operand_130 rfl rfl ?_
      refine x_iconst (pc := 131) o dX12_operand_131 ic_5 ?_
      obtain ⟨S73, hS73, h⟩ := xbs h
      refine x_callV (pc := 132) (As := [.int ((5 : Int32))]) (b := k0) (rest := []) o (tX12_opens _ M _ n k0 ((5 : Int32)) S9 S73 hS73) eX12_opens mX12_402 clX12 (kX12_opens hS73) (by decide) rfl rfl (Nat.le_of_ble_eq_true rfl) dX12_operand_132 ?_
      refine x_iconst (pc := 135) o dX12_operand_135 ic_0 ?_
      exact x_zreturn (pc := 136) o hr dX12_operand_136 (by decide) (xr1 h) (xr2 h)
def fX12_operand_B79 (n : Nat) (k0 : Nat) (S : xSt) : Option (Int32 × xSt) :=
  (xgI tM 12 8 k0 S).bind fun v78 =>
  if v78 ≤ 0 then
  ((xgI tM 12 48 k0 S).bind fun v79 =>
  (xpI tM 12 48 k0 (v79 + ((1 : Int32))) S).bind fun S80 =>
  (fX12_holdsBack k0 ((43 : Int32)) S80).bind fun S81 =>
  (fX12_ahead n k0 S81).bind fun S82 =>
  some ((0 : Int32), S82))
else
  (some ((1 : Int32), S))
set_option maxHeartbeats 4000000 in
theorem tX12_operand_B79 {Γ : xGm} {M : xMg} (o : xOk Γ tM M 4 cX12_operand RX12) (hnL : Γ.2.2.2 = 4) (n : Nat) (k0 : Nat) (S : xSt) (z : (Int32 × xSt)) (hr : xRI Γ tM M (some .boolean) z.1 z.2) (h : fX12_operand_B79 n k0 S = some z) : xAt Γ tM M 79 (xlv [(0, .ref (M.2.1 k0))]) [] S := by
  unfold fX12_operand_B79 at h
  refine x_aload_n (pc := 79) o dX12_operand_79 rfl rfl ?_
  obtain ⟨v78, hv78, h⟩ := xbs h
  refine gX12_36 (pc := 80) o dX12_operand_80 hv78 ?_
  refine x_if_le (pc := 83) (tgt := 88) o dX12_operand_83 (by decide) (fun c83 => ?_) (fun c83 => ?_)
  · have h := xit h c83
    refine x_aload_n (pc := 88) o dX12_operand_88 rfl rfl ?_
    refine x_dup (pc := 89) o dX12_operand_89 rfl ?_
    obtain ⟨v79, hv79, h⟩ := xbs h
    refine gX12_159 (pc := 90) o dX12_operand_90 hv79 ?_
    refine x_iconst (pc := 93) o dX12_operand_93 ic_1 ?_
    refine x_iadd (pc := 94) o dX12_operand_94 ?_
    obtain ⟨S80, hS80, h⟩ := xbs h
    refine pX12_159 (pc := 95) o dX12_operand_95 hS80 ?_
    refine x_aload_n (pc := 98) o dX12_operand_98 rfl rfl ?_
    refine x_bipush (pc := 99) o dX12_operand_99 bp_43 ?_
    obtain ⟨S81, hS81, h⟩ := xbs h
    refine x_callV (pc := 101) (As := [.int ((43 : Int32))]) (b := k0) (rest := []) o (tX12_holdsBack _ M _ k0 ((43 : Int32)) S80 S81 hS81) eX12_holdsBack mX12_399 clX12 (kX12_holdsBack hS81) (by decide) rfl rfl (Nat.le_of_ble_eq_true rfl) dX12_operand_101 ?_
    refine x_aload_n (pc := 104) o dX12_operand_104 rfl rfl ?_
    obtain ⟨S82, hS82, h⟩ := xbs h
    refine x_callV (pc := 105) (As := []) (b := k0) (rest := []) o (tX12_ahead _ M _ n k0 S81 S82 hS82) eX12_ahead mX12_304 clX12 (kX12_ahead hS82) (by decide) rfl rfl (Nat.le_of_ble_eq_true rfl) dX12_operand_105 ?_
    refine x_iconst (pc := 108) o dX12_operand_108 ic_0 ?_
    exact x_zreturn (pc := 109) o hr dX12_operand_109 (by decide) (xr1 h) (xr2 h)
  · have h := xif h c83
    refine x_iconst (pc := 86) o dX12_operand_86 ic_1 ?_
    exact x_zreturn (pc := 87) o hr dX12_operand_87 (by decide) (xr1 h) (xr2 h)
def fX12_operand_B46 (n : Nat) (k0 : Nat) (a1 : Int32) (s0 : Int32) (S : xSt) : Option (Int32 × xSt) :=
  if s0 = 0 then
  (fX12_operand_B110 n k0 a1 s0 S)
else
  ((fX12_isWord k0 ((7237492 : Int64)) S).bind fun v76 =>
  if v76 = 0 then
  (fX12_operand_B110 n k0 a1 s0 S)
else
  ((xgI tM 12 48 k0 S).bind fun v77 =>
  if v77 = ((7 : Int32)) then
  ((xgI tM 12 4 k0 S).bind fun v84 =>
  (fX12_blame k0 ((5 : Int32)) v84 S).bind fun S85 =>
  fX12_operand_B79 n k0 S85)
else
  (fX12_operand_B79 n k0 S)))
set_option maxHeartbeats 4000000 in
theorem tX12_operand_B46 {Γ : xGm} {M : xMg} (o : xOk Γ tM M 4 cX12_operand RX12) (hnL : Γ.2.2.2 = 4) (n : Nat) (k0 : Nat) (a1 : Int32) (s0 : Int32) (S : xSt) (z : (Int32 × xSt)) (hr : xRI Γ tM M (some .boolean) z.1 z.2) (h : fX12_operand_B46 n k0 a1 s0 S = some z) : xAt Γ tM M 46 (xlv [(0, .ref (M.2.1 k0)), (1, .int a1)]) [.int s0] S := by
  have hn2 : 2 < Γ.2.2.2 := by omega
  unfold fX12_operand_B46 at h
  refine x_istore_n (pc := 46) o dX12_operand_46 rfl hn2 ?_
  refine x_iload_n (pc := 47) o dX12_operand_47 rfl rfl ?_
  refine x_if_eq (pc := 48) (tgt := 110) o dX12_operand_48 (by decide) (fun c88 => ?_) (fun c88 => ?_)
  · have h := xit h c88
    refine x_to (l := [(0, .ref (M.2.1 k0)), (1, .int a1), (2, .int s0)]) ⟨rfl, rfl, rfl, trivial⟩ ?_
    exact tX12_operand_B110 o hnL n k0 a1 s0 S z hr h
  · have h := xif h c88
    refine x_aload_n (pc := 51) o dX12_operand_51 rfl rfl ?_
    refine x_ldc2 (pc := 52) o kcX12_363 dX12_operand_52 ?_
    obtain ⟨v76, hv76, h⟩ := xbs h
    refine x_callI (pc := 55) (As := [.long ((7237492 : Int64))]) (b := k0) (rest := []) o (tX12_isWord _ M _ k0 ((7237492 : Int64)) S v76 hv76) eX12_isWord mX12_395 clX12 (kX12_isWord hv76) (by decide) rfl rfl (Nat.le_of_ble_eq_true rfl) dX12_operand_55 ?_
    refine x_if_eq (pc := 58) (tgt := 110) o dX12_operand_58 (by decide) (fun c87 => ?_) (fun c87 => ?_)
    · have h := xit h c87
      refine x_to (l := [(0, .ref (M.2.1 k0)), (1, .int a1), (2, .int s0)]) ⟨rfl, rfl, rfl, trivial⟩ ?_
      exact tX12_operand_B110 o hnL n k0 a1 s0 S z hr h
    · have h := xif h c87
      refine x_aload_n (pc := 61) o dX12_operand_61 rfl rfl ?_
      obtain ⟨v77, hv77, h⟩ := xbs h
      refine gX12_159 (pc := 62) o dX12_operand_62 hv77 ?_
      refine x_bipush (pc := 65) o dX12_operand_65 bp_7 ?_
      refine x_icmp_ne (pc := 67) (tgt := 79) o dX12_operand_67 (by decide) (fun c86 => ?_) (fun c86 => ?_)
      · have h := xif h c86
        refine x_to (l := [(0, .ref (M.2.1 k0))]) ⟨rfl, trivial⟩ ?_
        exact tX12_operand_B79 o hnL n k0 S z hr h
      · have h := xit h c86
        refine x_aload_n (pc := 70) o dX12_operand_70 rfl rfl ?_
        refine x_iconst (pc := 71) o dX12_operand_71 ic_5 ?_
        refine x_aload_n (pc := 72) o dX12_operand_72 rfl rfl ?_
        obtain ⟨v84, hv84, h⟩ := xbs h
        refine gX12_23 (pc := 73) o dX12_operand_73 hv84 ?_
        obtain ⟨S85, hS85, h⟩ := xbs h
        refine x_callV (pc := 76) (As := [.int ((5 : Int32)), .int v84]) (b := k0) (rest := []) o (tX12_blame _ M _ k0 ((5 : Int32)) v84 S S85 hS85) eX12_blame mX12_287 clX12 (kX12_blame hS85) (by decide) rfl rfl (Nat.le_of_ble_eq_true rfl) dX12_operand_76 ?_
        refine x_to (l := [(0, .ref (M.2.1 k0))]) ⟨rfl, trivial⟩ ?_
        exact tX12_operand_B79 o hnL n k0 S85 z hr h
def fX12_operand_B45 (n : Nat) (k0 : Nat) (a1 : Int32) (S : xSt) : Option (Int32 × xSt) :=
  fX12_operand_B46 n k0 a1 ((0 : Int32)) S
set_option maxHeartbeats 4000000 in
theorem tX12_operand_B45 {Γ : xGm} {M : xMg} (o : xOk Γ tM M 4 cX12_operand RX12) (hnL : Γ.2.2.2 = 4) (n : Nat) (k0 : Nat) (a1 : Int32) (S : xSt) (z : (Int32 × xSt)) (hr : xRI Γ tM M (some .boolean) z.1 z.2) (h : fX12_operand_B45 n k0 a1 S = some z) : xAt Γ tM M 45 (xlv [(0, .ref (M.2.1 k0)), (1, .int a1)]) [] S := by
  unfold fX12_operand_B45 at h
  refine x_iconst (pc := 45) o dX12_operand_45 ic_0 ?_
  refine x_to (l := [(0, .ref (M.2.1 k0)), (1, .int a1)]) ⟨rfl, rfl, trivial⟩ ?_
  exact tX12_operand_B46 o hnL n k0 a1 ((0 : Int32)) S z hr h
def fX12_operand (n : Nat) (k0 : Nat) (S : xSt) : Option (Int32 × xSt) :=
  if tM.1 k0 = 12 then
  ((fX12_lex k0 S).bind fun S1 =>
  (xgI tM 12 8 k0 S1).bind fun v2 =>
  if v2 ≤ 0 then
  ((xgI tM 12 47 k0 S1).bind fun v3 =>
  (some (v3 - ((1 : Int32)))).bind fun v4 =>
  (xgF tM 12 42 k0 S1).bind fun r5 =>
  (xal tM r5 v4 S1).bind fun v6 =>
  (fX12_isTest v6 S1).bind fun v7 =>
  if v7 = 0 then
  (fX12_operand_B45 n k0 v4 S1)
else
  ((xgF tM 12 44 k0 S1).bind fun r89 =>
  (xzl tM r89 v4 S1).bind fun v90 =>
  if v90 = 0 then
  (fX12_operand_B45 n k0 v4 S1)
else
  (fX12_operand_B46 n k0 v4 ((1 : Int32)) S1)))
else
  (some ((1 : Int32), S1)))
  else none
theorem kX12_operand {z : Int32 × xSt} {n : Nat} {k0 : Nat} {S : xSt} (h : fX12_operand n k0 S = some z) : tM.1 k0 = 12 := by
  unfold fX12_operand at h
  exact (xck h).1
set_option maxHeartbeats 4000000 in
theorem tX12_operand (l : Launch) (M : xMg) (A : Nat → Prop) (n : Nat) (k0 : Nat) (S : xSt) (z : Int32 × xSt) (h : fX12_operand n k0 S = some z) : xMI l yX12_operand cX12_operand 4 (some .boolean) 4 tM M A [.ref (M.2.1 k0)] S z.1 z.2 := by
  refine x_metI (plainFor_of_name (by decide)) tM_ok (Nat.le_of_ble_eq_true rfl) (fun Γ hA hnL hl hr o => ?_)
  subst hA; subst hl
  have o : xOk Γ tM M 4 cX12_operand RX12 := o
  unfold fX12_operand at h
  obtain ⟨hk0, h⟩ := xck h
  refine x_to (l := [(0, .ref (M.2.1 k0))]) ⟨rfl, trivial⟩ ?_
  have hn1 : 1 < Γ.2.2.2 := by omega
  refine x_aload_n (pc := 0) o dX12_operand_0 rfl rfl ?_
  obtain ⟨S1, hS1, h⟩ := xbs h
  refine x_callV (pc := 1) (As := []) (b := k0) (rest := []) o (tX12_lex _ M _ k0 S S1 hS1) eX12_lex mX12_298 clX12 (kX12_lex hS1) (by decide) rfl rfl (Nat.le_of_ble_eq_true rfl) dX12_operand_1 ?_
  refine x_aload_n (pc := 4) o dX12_operand_4 rfl rfl ?_
  obtain ⟨v2, hv2, h⟩ := xbs h
  refine gX12_36 (pc := 5) o dX12_operand_5 hv2 ?_
  refine x_if_le (pc := 8) (tgt := 13) o dX12_operand_8 (by decide) (fun c93 => ?_) (fun c93 => ?_)
  · have h := xit h c93
    refine x_aload_n (pc := 13) o dX12_operand_13 rfl rfl ?_
    obtain ⟨v3, hv3, h⟩ := xbs h
    refine gX12_156 (pc := 14) o dX12_operand_14 hv3 ?_
    refine x_iconst (pc := 17) o dX12_operand_17 ic_1 ?_
    refine x_isub (pc := 18) o dX12_operand_18 ?_
    obtain ⟨v4, hv4, h⟩ := xbs h
    refine x_istore_nE (pc := 19) o dX12_operand_19 rfl hn1 hv4 ?_
    refine x_aload_n (pc := 20) o dX12_operand_20 rfl rfl ?_
    obtain ⟨r5, hr5, h⟩ := xbs h
    refine gX12_140 (pc := 21) o dX12_operand_21 hr5 ?_
    refine x_iload_n (pc := 24) o dX12_operand_24 rfl rfl ?_
    obtain ⟨v6, hv6, h⟩ := xbs h
    refine x_iaload (pc := 25) o dX12_operand_25 hv6 ?_
    obtain ⟨v7, hv7, h⟩ := xbs h
    refine x_statI (pc := 26) (As := [.int v6]) (rest := []) o (tX12_isTest _ M _ v6 S1 v7 hv7) eX12_isTest mX12_392 (by decide) rfl rfl (Nat.le_of_ble_eq_true rfl) dX12_operand_26 ?_
    refine x_if_eq (pc := 29) (tgt := 45) o dX12_operand_29 (by decide) (fun c92 => ?_) (fun c92 => ?_)
    · have h := xit h c92
      refine x_to (l := [(0, .ref (M.2.1 k0)), (1, .int v4)]) ⟨rfl, rfl, trivial⟩ ?_
      exact tX12_operand_B45 o hnL n k0 v4 S1 z hr h
    · have h := xif h c92
      refine x_aload_n (pc := 32) o dX12_operand_32 rfl rfl ?_
      obtain ⟨r89, hr89, h⟩ := xbs h
      refine gX12_146 (pc := 33) o dX12_operand_33 hr89 ?_
      refine x_iload_n (pc := 36) o dX12_operand_36 rfl rfl ?_
      obtain ⟨v90, hv90, h⟩ := xbs h
      refine x_zaload (pc := 37) o dX12_operand_37 hv90 ?_
      refine x_if_eq (pc := 38) (tgt := 45) o dX12_operand_38 (by decide) (fun c91 => ?_) (fun c91 => ?_)
      · have h := xit h c91
        refine x_to (l := [(0, .ref (M.2.1 k0)), (1, .int v4)]) ⟨rfl, rfl, trivial⟩ ?_
        exact tX12_operand_B45 o hnL n k0 v4 S1 z hr h
      · have h := xif h c91
        refine x_iconst (pc := 41) o dX12_operand_41 ic_1 ?_
        refine x_goto (pc := 42) (tgt := 46) o dX12_operand_42 (by decide) ?_
        refine x_to (l := [(0, .ref (M.2.1 k0)), (1, .int v4)]) ⟨rfl, rfl, trivial⟩ ?_
        exact tX12_operand_B46 o hnL n k0 v4 ((1 : Int32)) S1 z hr h
  · have h := xif h c93
    refine x_iconst (pc := 11) o dX12_operand_11 ic_1 ?_
    exact x_zreturn (pc := 12) o hr dX12_operand_12 (by decide) (xr1 h) (xr2 h)
def fX12_goesOn_B499 (n : Nat) (k0 : Nat) (a1 : Int32) (s0 : Nat) (s1 : Int32) (s2 : Int32) (S : xSt) : Option (Int32 × xSt) :=
  (xas tM s0 s1 s2 S).bind fun S14 =>
  (xgF tM 12 43 k0 S14).bind fun r15 =>
  (xas tM r15 a1 ((0 : Int32)) S14).bind fun S16 =>
  (fX12_ahead n k0 S16).bind fun S17 =>
  (xpZ tM 12 51 k0 ((0 : Int32)) S17).bind fun S18 =>
  some ((1 : Int32), S18)
set_option maxHeartbeats 4000000 in
theorem tX12_goesOn_B499 {Γ : xGm} {M : xMg} (o : xOk Γ tM M 3 cX12_goesOn RX12) (hnL : Γ.2.2.2 = 5) (n : Nat) (k0 : Nat) (a1 : Int32) (s0 : Nat) (s1 : Int32) (s2 : Int32) (S : xSt) (z : (Int32 × xSt)) (hr : xRI Γ tM M (some .boolean) z.1 z.2) (h : fX12_goesOn_B499 n k0 a1 s0 s1 s2 S = some z) : xAt Γ tM M 499 (xlv [(0, .ref (M.2.1 k0)), (1, .int a1)]) [.int s2, .int s1, .ref (M.2.1 s0)] S := by
  unfold fX12_goesOn_B499 at h
  obtain ⟨S14, hS14, h⟩ := xbs h
  refine x_iastore (pc := 499) o dX12_goesOn_499 hS14 ?_
  refine x_aload_n (pc := 500) o dX12_goesOn_500 rfl rfl ?_
  obtain ⟨r15, hr15, h⟩ := xbs h
  refine gX12_143 (pc := 501) o dX12_goesOn_501 hr15 ?_
  refine x_iload_n (pc := 504) o dX12_goesOn_504 rfl rfl ?_
  refine x_iconst (pc := 505) o dX12_goesOn_505 ic_0 ?_
  obtain ⟨S16, hS16, h⟩ := xbs h
  refine x_iastore (pc := 506) o dX12_goesOn_506 hS16 ?_
  refine x_aload_n (pc := 507) o dX12_goesOn_507 rfl rfl ?_
  obtain ⟨S17, hS17, h⟩ := xbs h
  refine x_callV (pc := 508) (As := []) (b := k0) (rest := []) o (tX12_ahead _ M _ n k0 S16 S17 hS17) eX12_ahead mX12_304 clX12 (kX12_ahead hS17) (by decide) rfl rfl (Nat.le_of_ble_eq_true rfl) dX12_goesOn_508 ?_
  refine x_aload_n (pc := 511) o dX12_goesOn_511 rfl rfl ?_
  refine x_iconst (pc := 512) o dX12_goesOn_512 ic_0 ?_
  obtain ⟨S18, hS18, h⟩ := xbs h
  refine pX12_168 (pc := 513) o dX12_goesOn_513 hS18 ?_
  refine x_iconst (pc := 516) o dX12_goesOn_516 ic_1 ?_
  exact x_zreturn (pc := 517) o hr dX12_goesOn_517 (by decide) (xr1 h) (xr2 h)
def fX12_goesOn_B470 (n : Nat) (k0 : Nat) (a1 : Int32) (a2 : Int32) (S : xSt) : Option (Int32 × xSt) :=
  (xgI tM 12 8 k0 S).bind fun v11 =>
  if v11 ≤ 0 then
  ((fX12_joins n k0 ((1 : Int32)) S).bind fun S12 =>
  (xgF tM 12 42 k0 S12).bind fun r13 =>
  if a2 = ((3 : Int32)) then
  (fX12_goesOn_B499 n k0 a1 r13 a1 ((4 : Int32)) S12)
else
  (fX12_goesOn_B499 n k0 a1 r13 a1 ((3 : Int32)) S12))
else
  (some ((0 : Int32), S))
set_option maxHeartbeats 4000000 in
theorem tX12_goesOn_B470 {Γ : xGm} {M : xMg} (o : xOk Γ tM M 3 cX12_goesOn RX12) (hnL : Γ.2.2.2 = 5) (n : Nat) (k0 : Nat) (a1 : Int32) (a2 : Int32) (S : xSt) (z : (Int32 × xSt)) (hr : xRI Γ tM M (some .boolean) z.1 z.2) (h : fX12_goesOn_B470 n k0 a1 a2 S = some z) : xAt Γ tM M 470 (xlv [(0, .ref (M.2.1 k0)), (1, .int a1), (2, .int a2)]) [] S := by
  unfold fX12_goesOn_B470 at h
  refine x_aload_n (pc := 470) o dX12_goesOn_470 rfl rfl ?_
  obtain ⟨v11, hv11, h⟩ := xbs h
  refine gX12_36 (pc := 471) o dX12_goesOn_471 hv11 ?_
  refine x_if_le (pc := 474) (tgt := 479) o dX12_goesOn_474 (by decide) (fun c20 => ?_) (fun c20 => ?_)
  · have h := xit h c20
    refine x_aload_n (pc := 479) o dX12_goesOn_479 rfl rfl ?_
    refine x_iconst (pc := 480) o dX12_goesOn_480 ic_1 ?_
    obtain ⟨S12, hS12, h⟩ := xbs h
    refine x_callV (pc := 481) (As := [.int ((1 : Int32))]) (b := k0) (rest := []) o (tX12_joins _ M _ n k0 ((1 : Int32)) S S12 hS12) eX12_joins mX12_405 clX12 (kX12_joins hS12) (by decide) rfl rfl (Nat.le_of_ble_eq_true rfl) dX12_goesOn_481 ?_
    refine x_aload_n (pc := 484) o dX12_goesOn_484 rfl rfl ?_
    obtain ⟨r13, hr13, h⟩ := xbs h
    refine gX12_140 (pc := 485) o dX12_goesOn_485 hr13 ?_
    refine x_iload_n (pc := 488) o dX12_goesOn_488 rfl rfl ?_
    refine x_iload_n (pc := 489) o dX12_goesOn_489 rfl rfl ?_
    refine x_iconst (pc := 490) o dX12_goesOn_490 ic_3 ?_
    refine x_icmp_ne (pc := 491) (tgt := 498) o dX12_goesOn_491 (by decide) (fun c19 => ?_) (fun c19 => ?_)
    · have h := xif h c19
      refine x_iconst (pc := 498) o dX12_goesOn_498 ic_3 ?_
      refine x_to (l := [(0, .ref (M.2.1 k0)), (1, .int a1)]) ⟨rfl, rfl, trivial⟩ ?_
      exact tX12_goesOn_B499 o hnL n k0 a1 r13 a1 ((3 : Int32)) S12 z hr h
    · have h := xit h c19
      refine x_iconst (pc := 494) o dX12_goesOn_494 ic_4 ?_
      refine x_goto (pc := 495) (tgt := 499) o dX12_goesOn_495 (by decide) ?_
      refine x_to (l := [(0, .ref (M.2.1 k0)), (1, .int a1)]) ⟨rfl, rfl, trivial⟩ ?_
      exact tX12_goesOn_B499 o hnL n k0 a1 r13 a1 ((4 : Int32)) S12 z hr h
  · have h := xif h c20
    refine x_iconst (pc := 477) o dX12_goesOn_477 ic_0 ?_
    exact x_zreturn (pc := 478) o hr dX12_goesOn_478 (by decide) (xr1 h) (xr2 h)
def fX12_goesOn_B452 (n : Nat) (k0 : Nat) (a1 : Int32) (a2 : Int32) (S : xSt) : Option (Int32 × xSt) :=
  (fX12_isSign k0 ((44 : Int32)) S).bind fun v10 =>
  if v10 = 0 then
  ((xgI tM 12 4 k0 S).bind fun v21 =>
  (fX12_blame k0 ((1 : Int32)) v21 S).bind fun S22 =>
  fX12_goesOn_B470 n k0 a1 a2 S22)
else
  (fX12_goesOn_B470 n k0 a1 a2 S)
set_option maxHeartbeats 4000000 in
theorem tX12_goesOn_B452 {Γ : xGm} {M : xMg} (o : xOk Γ tM M 3 cX12_goesOn RX12) (hnL : Γ.2.2.2 = 5) (n : Nat) (k0 : Nat) (a1 : Int32) (a2 : Int32) (S : xSt) (z : (Int32 × xSt)) (hr : xRI Γ tM M (some .boolean) z.1 z.2) (h : fX12_goesOn_B452 n k0 a1 a2 S = some z) : xAt Γ tM M 452 (xlv [(0, .ref (M.2.1 k0)), (1, .int a1), (2, .int a2)]) [] S := by
  unfold fX12_goesOn_B452 at h
  refine x_aload_n (pc := 452) o dX12_goesOn_452 rfl rfl ?_
  refine x_bipush (pc := 453) o dX12_goesOn_453 bp_44 ?_
  obtain ⟨v10, hv10, h⟩ := xbs h
  refine x_callI (pc := 455) (As := [.int ((44 : Int32))]) (b := k0) (rest := []) o (tX12_isSign _ M _ k0 ((44 : Int32)) S v10 hv10) eX12_isSign mX12_301 clX12 (kX12_isSign hv10) (by decide) rfl rfl (Nat.le_of_ble_eq_true rfl) dX12_goesOn_455 ?_
  refine x_if_ne (pc := 458) (tgt := 470) o dX12_goesOn_458 (by decide) (fun c23 => ?_) (fun c23 => ?_)
  · have h := xif h c23
    refine x_to (l := [(0, .ref (M.2.1 k0)), (1, .int a1), (2, .int a2)]) ⟨rfl, rfl, rfl, trivial⟩ ?_
    exact tX12_goesOn_B470 o hnL n k0 a1 a2 S z hr h
  · have h := xit h c23
    refine x_aload_n (pc := 461) o dX12_goesOn_461 rfl rfl ?_
    refine x_iconst (pc := 462) o dX12_goesOn_462 ic_1 ?_
    refine x_aload_n (pc := 463) o dX12_goesOn_463 rfl rfl ?_
    obtain ⟨v21, hv21, h⟩ := xbs h
    refine gX12_23 (pc := 464) o dX12_goesOn_464 hv21 ?_
    obtain ⟨S22, hS22, h⟩ := xbs h
    refine x_callV (pc := 467) (As := [.int ((1 : Int32)), .int v21]) (b := k0) (rest := []) o (tX12_blame _ M _ k0 ((1 : Int32)) v21 S S22 hS22) eX12_blame mX12_287 clX12 (kX12_blame hS22) (by decide) rfl rfl (Nat.le_of_ble_eq_true rfl) dX12_goesOn_467 ?_
    refine x_to (l := [(0, .ref (M.2.1 k0)), (1, .int a1), (2, .int a2)]) ⟨rfl, rfl, rfl, trivial⟩ ?_
    exact tX12_goesOn_B470 o hnL n k0 a1 a2 S22 z hr h
def fX12_goesOn_B596 (n : Nat) (k0 : Nat) (a2 : Int32) (S : xSt) : Option (Int32 × xSt) :=
  if a2 = ((5 : Int32)) then
  ((xgF tM 12 43 k0 S).bind fun r32 =>
  (xgI tM 12 47 k0 S).bind fun v33 =>
  (xas tM r32 (v33 - ((1 : Int32))) ((2 : Int32)) S).bind fun S34 =>
  (fX12_ahead n k0 S34).bind fun S35 =>
  some ((1 : Int32), S35))
else
  ((fX12_ahead n k0 S).bind fun S31 =>
  some ((1 : Int32), S31))
set_option maxHeartbeats 4000000 in
theorem tX12_goesOn_B596 {Γ : xGm} {M : xMg} (o : xOk Γ tM M 3 cX12_goesOn RX12) (hnL : Γ.2.2.2 = 5) (n : Nat) (k0 : Nat) (a2 : Int32) (S : xSt) (z : (Int32 × xSt)) (hr : xRI Γ tM M (some .boolean) z.1 z.2) (h : fX12_goesOn_B596 n k0 a2 S = some z) : xAt Γ tM M 596 (xlv [(0, .ref (M.2.1 k0)), (2, .int a2)]) [] S := by
  unfold fX12_goesOn_B596 at h
  refine x_iload_n (pc := 596) o dX12_goesOn_596 rfl rfl ?_
  refine x_iconst (pc := 597) o dX12_goesOn_597 ic_5 ?_
  refine x_icmp_ne (pc := 598) (tgt := 613) o dX12_goesOn_598 (by decide) (fun c36 => ?_) (fun c36 => ?_)
  · have h := xif h c36
    refine x_aload_n (pc := 613) o dX12_goesOn_613 rfl rfl ?_
    obtain ⟨S31, hS31, h⟩ := xbs h
    refine x_callV (pc := 614) (As := []) (b := k0) (rest := []) o (tX12_ahead _ M _ n k0 S S31 hS31) eX12_ahead mX12_304 clX12 (kX12_ahead hS31) (by decide) rfl rfl (Nat.le_of_ble_eq_true rfl) dX12_goesOn_614 ?_
    refine x_iconst (pc := 617) o dX12_goesOn_617 ic_1 ?_
    exact x_zreturn (pc := 618) o hr dX12_goesOn_618 (by decide) (xr1 h) (xr2 h)
  · have h := xit h c36
    refine x_aload_n (pc := 601) o dX12_goesOn_601 rfl rfl ?_
    obtain ⟨r32, hr32, h⟩ := xbs h
    refine gX12_143 (pc := 602) o dX12_goesOn_602 hr32 ?_
    refine x_aload_n (pc := 605) o dX12_goesOn_605 rfl rfl ?_
    obtain ⟨v33, hv33, h⟩ := xbs h
    refine gX12_156 (pc := 606) o dX12_goesOn_606 hv33 ?_
    refine x_iconst (pc := 609) o dX12_goesOn_609 ic_1 ?_
    refine x_isub (pc := 610) o dX12_goesOn_610 ?_
    refine x_iconst (pc := 611) o dX12_goesOn_611 ic_2 ?_
    obtain ⟨S34, hS34, h⟩ := xbs h
    refine x_iastore (pc := 612) o dX12_goesOn_612 hS34 ?_
    refine x_aload_n (pc := 613) o dX12_goesOn_613 rfl rfl ?_
    obtain ⟨S35, hS35, h⟩ := xbs h
    refine x_callV (pc := 614) (As := []) (b := k0) (rest := []) o (tX12_ahead _ M _ n k0 S34 S35 hS35) eX12_ahead mX12_304 clX12 (kX12_ahead hS35) (by decide) rfl rfl (Nat.le_of_ble_eq_true rfl) dX12_goesOn_614 ?_
    refine x_iconst (pc := 617) o dX12_goesOn_617 ic_1 ?_
    exact x_zreturn (pc := 618) o hr dX12_goesOn_618 (by decide) (xr1 h) (xr2 h)
def fX12_goesOn_B546 (n : Nat) (k0 : Nat) (a1 : Int32) (a2 : Int32) (S : xSt) : Option (Int32 × xSt) :=
  (xgI tM 12 8 k0 S).bind fun v25 =>
  if v25 ≤ 0 then
  ((fX12_joins n k0 ((1 : Int32)) S).bind fun S26 =>
  (xgI tM 12 47 k0 S26).bind fun v27 =>
  (xpI tM 12 47 k0 (v27 - ((1 : Int32))) S26).bind fun S28 =>
  (xgI tM 12 48 k0 S28).bind fun v29 =>
  (xpI tM 12 48 k0 (v29 - ((1 : Int32))) S28).bind fun S30 =>
  if a2 = ((4 : Int32)) then
  ((xgF tM 12 45 k0 S30).bind fun r37 =>
  (xal tM r37 a1 S30).bind fun v38 =>
  (fX12_add k0 v38 ((0 : Int32)) S30).bind fun S39 =>
  fX12_goesOn_B596 n k0 a2 S39)
else
  (fX12_goesOn_B596 n k0 a2 S30))
else
  (some ((0 : Int32), S))
set_option maxHeartbeats 4000000 in
theorem tX12_goesOn_B546 {Γ : xGm} {M : xMg} (o : xOk Γ tM M 3 cX12_goesOn RX12) (hnL : Γ.2.2.2 = 5) (n : Nat) (k0 : Nat) (a1 : Int32) (a2 : Int32) (S : xSt) (z : (Int32 × xSt)) (hr : xRI Γ tM M (some .boolean) z.1 z.2) (h : fX12_goesOn_B546 n k0 a1 a2 S = some z) : xAt Γ tM M 546 (xlv [(0, .ref (M.2.1 k0)), (1, .int a1), (2, .int a2)]) [] S := by
  unfold fX12_goesOn_B546 at h
  refine x_aload_n (pc := 546) o dX12_goesOn_546 rfl rfl ?_
  obtain ⟨v25, hv25, h⟩ := xbs h
  refine gX12_36 (pc := 547) o dX12_goesOn_547 hv25 ?_
  refine x_if_le (pc := 550) (tgt := 555) o dX12_goesOn_550 (by decide) (fun c41 => ?_) (fun c41 => ?_)
  · have h := xit h c41
    refine x_aload_n (pc := 555) o dX12_goesOn_555 rfl rfl ?_
    refine x_iconst (pc := 556) o dX12_goesOn_556 ic_1 ?_
    obtain ⟨S26, hS26, h⟩ := xbs h
    refine x_callV (pc := 557) (As := [.int ((1 : Int32))]) (b := k0) (rest := []) o (tX12_joins _ M _ n k0 ((1 : Int32)) S S26 hS26) eX12_joins mX12_405 clX12 (kX12_joins hS26) (by decide) rfl rfl (Nat.le_of_ble_eq_true rfl) dX12_goesOn_557 ?_
    refine x_aload_n (pc := 560) o dX12_goesOn_560 rfl rfl ?_
    refine x_dup (pc := 561) o dX12_goesOn_561 rfl ?_
    obtain ⟨v27, hv27, h⟩ := xbs h
    refine gX12_156 (pc := 562) o dX12_goesOn_562 hv27 ?_
    refine x_iconst (pc := 565) o dX12_goesOn_565 ic_1 ?_
    refine x_isub (pc := 566) o dX12_goesOn_566 ?_
    obtain ⟨S28, hS28, h⟩ := xbs h
    refine pX12_156 (pc := 567) o dX12_goesOn_567 hS28 ?_
    refine x_aload_n (pc := 570) o dX12_goesOn_570 rfl rfl ?_
    refine x_dup (pc := 571) o dX12_goesOn_571 rfl ?_
    obtain ⟨v29, hv29, h⟩ := xbs h
    refine gX12_159 (pc := 572) o dX12_goesOn_572 hv29 ?_
    refine x_iconst (pc := 575) o dX12_goesOn_575 ic_1 ?_
    refine x_isub (pc := 576) o dX12_goesOn_576 ?_
    obtain ⟨S30, hS30, h⟩ := xbs h
    refine pX12_159 (pc := 577) o dX12_goesOn_577 hS30 ?_
    refine x_iload_n (pc := 580) o dX12_goesOn_580 rfl rfl ?_
    refine x_iconst (pc := 581) o dX12_goesOn_581 ic_4 ?_
    refine x_icmp_ne (pc := 582) (tgt := 596) o dX12_goesOn_582 (by decide) (fun c40 => ?_) (fun c40 => ?_)
    · have h := xif h c40
      refine x_to (l := [(0, .ref (M.2.1 k0)), (2, .int a2)]) ⟨rfl, rfl, trivial⟩ ?_
      exact tX12_goesOn_B596 o hnL n k0 a2 S30 z hr h
    · have h := xit h c40
      refine x_aload_n (pc := 585) o dX12_goesOn_585 rfl rfl ?_
      refine x_aload_n (pc := 586) o dX12_goesOn_586 rfl rfl ?_
      obtain ⟨r37, hr37, h⟩ := xbs h
      refine gX12_150 (pc := 587) o dX12_goesOn_587 hr37 ?_
      refine x_iload_n (pc := 590) o dX12_goesOn_590 rfl rfl ?_
      obtain ⟨v38, hv38, h⟩ := xbs h
      refine x_iaload (pc := 591) o dX12_goesOn_591 hv38 ?_
      refine x_iconst (pc := 592) o dX12_goesOn_592 ic_0 ?_
      obtain ⟨S39, hS39, h⟩ := xbs h
      refine x_callV (pc := 593) (As := [.int v38, .int ((0 : Int32))]) (b := k0) (rest := []) o (tX12_add _ M _ k0 v38 ((0 : Int32)) S30 S39 hS39) eX12_add mX12_386 clX12 (kX12_add hS39) (by decide) rfl rfl (Nat.le_of_ble_eq_true rfl) dX12_goesOn_593 ?_
      refine x_to (l := [(0, .ref (M.2.1 k0)), (2, .int a2)]) ⟨rfl, rfl, trivial⟩ ?_
      exact tX12_goesOn_B596 o hnL n k0 a2 S39 z hr h
  · have h := xif h c41
    refine x_iconst (pc := 553) o dX12_goesOn_553 ic_0 ?_
    exact x_zreturn (pc := 554) o hr dX12_goesOn_554 (by decide) (xr1 h) (xr2 h)
def fX12_goesOn_B531 (n : Nat) (k0 : Nat) (a1 : Int32) (a2 : Int32) (s0 : Nat) (s1 : Int32) (S : xSt) : Option (Int32 × xSt) :=
  (fX12_isSign s0 s1 S).bind fun v24 =>
  if v24 = 0 then
  ((xgI tM 12 4 k0 S).bind fun v42 =>
  (fX12_blame k0 ((1 : Int32)) v42 S).bind fun S43 =>
  fX12_goesOn_B546 n k0 a1 a2 S43)
else
  (fX12_goesOn_B546 n k0 a1 a2 S)
set_option maxHeartbeats 4000000 in
theorem tX12_goesOn_B531 {Γ : xGm} {M : xMg} (o : xOk Γ tM M 3 cX12_goesOn RX12) (hnL : Γ.2.2.2 = 5) (n : Nat) (k0 : Nat) (a1 : Int32) (a2 : Int32) (s0 : Nat) (s1 : Int32) (S : xSt) (z : (Int32 × xSt)) (hr : xRI Γ tM M (some .boolean) z.1 z.2) (h : fX12_goesOn_B531 n k0 a1 a2 s0 s1 S = some z) : xAt Γ tM M 531 (xlv [(0, .ref (M.2.1 k0)), (1, .int a1), (2, .int a2)]) [.int s1, .ref (M.2.1 s0)] S := by
  unfold fX12_goesOn_B531 at h
  obtain ⟨v24, hv24, h⟩ := xbs h
  refine x_callI (pc := 531) (As := [.int s1]) (b := s0) (rest := []) o (tX12_isSign _ M _ s0 s1 S v24 hv24) eX12_isSign mX12_301 clX12 (kX12_isSign hv24) (by decide) rfl rfl (Nat.le_of_ble_eq_true rfl) dX12_goesOn_531 ?_
  refine x_if_ne (pc := 534) (tgt := 546) o dX12_goesOn_534 (by decide) (fun c44 => ?_) (fun c44 => ?_)
  · have h := xif h c44
    refine x_to (l := [(0, .ref (M.2.1 k0)), (1, .int a1), (2, .int a2)]) ⟨rfl, rfl, rfl, trivial⟩ ?_
    exact tX12_goesOn_B546 o hnL n k0 a1 a2 S z hr h
  · have h := xit h c44
    refine x_aload_n (pc := 537) o dX12_goesOn_537 rfl rfl ?_
    refine x_iconst (pc := 538) o dX12_goesOn_538 ic_1 ?_
    refine x_aload_n (pc := 539) o dX12_goesOn_539 rfl rfl ?_
    obtain ⟨v42, hv42, h⟩ := xbs h
    refine gX12_23 (pc := 540) o dX12_goesOn_540 hv42 ?_
    obtain ⟨S43, hS43, h⟩ := xbs h
    refine x_callV (pc := 543) (As := [.int ((1 : Int32)), .int v42]) (b := k0) (rest := []) o (tX12_blame _ M _ k0 ((1 : Int32)) v42 S S43 hS43) eX12_blame mX12_287 clX12 (kX12_blame hS43) (by decide) rfl rfl (Nat.le_of_ble_eq_true rfl) dX12_goesOn_543 ?_
    refine x_to (l := [(0, .ref (M.2.1 k0)), (1, .int a1), (2, .int a2)]) ⟨rfl, rfl, rfl, trivial⟩ ?_
    exact tX12_goesOn_B546 o hnL n k0 a1 a2 S43 z hr h
def fX12_goesOn_B422 (n : Nat) (k0 : Nat) (a1 : Int32) (a2 : Int32) (S : xSt) : Option (Int32 × xSt) :=
  if ((2 : Int32)) ≤ a2 then
  (if a2 = ((3 : Int32)) then
  (fX12_goesOn_B452 n k0 a1 a2 S)
else
  (if a2 = ((6 : Int32)) then
  (fX12_goesOn_B452 n k0 a1 a2 S)
else
  (if a2 = ((5 : Int32)) then
  (fX12_goesOn_B531 n k0 a1 a2 k0 ((93 : Int32)) S)
else
  (fX12_goesOn_B531 n k0 a1 a2 k0 ((41 : Int32)) S))))
else
  ((xgI tM 12 8 k0 S).bind fun v48 =>
  if v48 = 0 then
  ((fX12_joins n k0 ((1 : Int32)) S).bind fun S49 =>
  some ((0 : Int32), S49))
else
  (some ((0 : Int32), S)))
set_option maxHeartbeats 4000000 in
theorem tX12_goesOn_B422 {Γ : xGm} {M : xMg} (o : xOk Γ tM M 3 cX12_goesOn RX12) (hnL : Γ.2.2.2 = 5) (n : Nat) (k0 : Nat) (a1 : Int32) (a2 : Int32) (S : xSt) (z : (Int32 × xSt)) (hr : xRI Γ tM M (some .boolean) z.1 z.2) (h : fX12_goesOn_B422 n k0 a1 a2 S = some z) : xAt Γ tM M 422 (xlv [(0, .ref (M.2.1 k0)), (1, .int a1), (2, .int a2)]) [] S := by
  unfold fX12_goesOn_B422 at h
  refine x_iload_n (pc := 422) o dX12_goesOn_422 rfl rfl ?_
  refine x_iconst (pc := 423) o dX12_goesOn_423 ic_2 ?_
  refine x_icmp_ge (pc := 424) (tgt := 441) o dX12_goesOn_424 (by decide) (fun c51 => ?_) (fun c51 => ?_)
  · have h := xit h c51
    refine x_iload_n (pc := 441) o dX12_goesOn_441 rfl rfl ?_
    refine x_iconst (pc := 442) o dX12_goesOn_442 ic_3 ?_
    refine x_icmp_eq (pc := 443) (tgt := 452) o dX12_goesOn_443 (by decide) (fun c47 => ?_) (fun c47 => ?_)
    · have h := xit h c47
      refine x_to (l := [(0, .ref (M.2.1 k0)), (1, .int a1), (2, .int a2)]) ⟨rfl, rfl, rfl, trivial⟩ ?_
      exact tX12_goesOn_B452 o hnL n k0 a1 a2 S z hr h
    · have h := xif h c47
      refine x_iload_n (pc := 446) o dX12_goesOn_446 rfl rfl ?_
      refine x_bipush (pc := 447) o dX12_goesOn_447 bp_6 ?_
      refine x_icmp_ne (pc := 449) (tgt := 518) o dX12_goesOn_449 (by decide) (fun c46 => ?_) (fun c46 => ?_)
      · have h := xif h c46
        refine x_aload_n (pc := 518) o dX12_goesOn_518 rfl rfl ?_
        refine x_iload_n (pc := 519) o dX12_goesOn_519 rfl rfl ?_
        refine x_iconst (pc := 520) o dX12_goesOn_520 ic_5 ?_
        refine x_icmp_ne (pc := 521) (tgt := 529) o dX12_goesOn_521 (by decide) (fun c45 => ?_) (fun c45 => ?_)
        · have h := xif h c45
          refine x_bipush (pc := 529) o dX12_goesOn_529 bp_41 ?_
          refine x_to (l := [(0, .ref (M.2.1 k0)), (1, .int a1), (2, .int a2)]) ⟨rfl, rfl, rfl, trivial⟩ ?_
          exact tX12_goesOn_B531 o hnL n k0 a1 a2 k0 ((41 : Int32)) S z hr h
        · have h := xit h c45
          refine x_bipush (pc := 524) o dX12_goesOn_524 bp_93 ?_
          refine x_goto (pc := 526) (tgt := 531) o dX12_goesOn_526 (by decide) ?_
          refine x_to (l := [(0, .ref (M.2.1 k0)), (1, .int a1), (2, .int a2)]) ⟨rfl, rfl, rfl, trivial⟩ ?_
          exact tX12_goesOn_B531 o hnL n k0 a1 a2 k0 ((93 : Int32)) S z hr h
      · have h := xit h c46
        refine x_to (l := [(0, .ref (M.2.1 k0)), (1, .int a1), (2, .int a2)]) ⟨rfl, rfl, rfl, trivial⟩ ?_
        exact tX12_goesOn_B452 o hnL n k0 a1 a2 S z hr h
  · have h := xif h c51
    refine x_aload_n (pc := 427) o dX12_goesOn_427 rfl rfl ?_
    obtain ⟨v48, hv48, h⟩ := xbs h
    refine gX12_36 (pc := 428) o dX12_goesOn_428 hv48 ?_
    refine x_if_ne (pc := 431) (tgt := 439) o dX12_goesOn_431 (by decide) (fun c50 => ?_) (fun c50 => ?_)
    · have h := xif h c50
      refine x_iconst (pc := 439) o dX12_goesOn_439 ic_0 ?_
      exact x_zreturn (pc := 440) o hr dX12_goesOn_440 (by decide) (xr1 h) (xr2 h)
    · have h := xit h c50
      refine x_aload_n (pc := 434) o dX12_goesOn_434 rfl rfl ?_
      refine x_iconst (pc := 435) o dX12_goesOn_435 ic_1 ?_
      obtain ⟨S49, hS49, h⟩ := xbs h
      refine x_callV (pc := 436) (As := [.int ((1 : Int32))]) (b := k0) (rest := []) o (tX12_joins _ M _ n k0 ((1 : Int32)) S S49 hS49) eX12_joins mX12_405 clX12 (kX12_joins hS49) (by decide) rfl rfl (Nat.le_of_ble_eq_true rfl) dX12_goesOn_436 ?_
      refine x_iconst (pc := 439) o dX12_goesOn_439 ic_0 ?_
      exact x_zreturn (pc := 440) o hr dX12_goesOn_440 (by decide) (xr1 h) (xr2 h)
def fX12_goesOn_B400 (n : Nat) (k0 : Nat) (a1 : Int32) (a2 : Int32) (a3 : Int32) (S : xSt) : Option (Int32 × xSt) :=
  if a3 = 0 then
  (fX12_goesOn_B422 n k0 a1 a2 S)
else
  ((xgF tM 12 43 k0 S).bind fun r52 =>
  (xal tM r52 a1 S).bind fun v53 =>
  if v53 = 0 then
  ((xgI tM 12 4 k0 S).bind fun v54 =>
  (fX12_blame k0 ((1 : Int32)) v54 S).bind fun S55 =>
  fX12_goesOn_B422 n k0 a1 a2 S55)
else
  (fX12_goesOn_B422 n k0 a1 a2 S))
set_option maxHeartbeats 4000000 in
theorem tX12_goesOn_B400 {Γ : xGm} {M : xMg} (o : xOk Γ tM M 3 cX12_goesOn RX12) (hnL : Γ.2.2.2 = 5) (n : Nat) (k0 : Nat) (a1 : Int32) (a2 : Int32) (a3 : Int32) (S : xSt) (z : (Int32 × xSt)) (hr : xRI Γ tM M (some .boolean) z.1 z.2) (h : fX12_goesOn_B400 n k0 a1 a2 a3 S = some z) : xAt Γ tM M 400 (xlv [(0, .ref (M.2.1 k0)), (1, .int a1), (2, .int a2), (3, .int a3)]) [] S := by
  unfold fX12_goesOn_B400 at h
  refine x_iload_n (pc := 400) o dX12_goesOn_400 rfl rfl ?_
  refine x_if_eq (pc := 401) (tgt := 422) o dX12_goesOn_401 (by decide) (fun c57 => ?_) (fun c57 => ?_)
  · have h := xit h c57
    refine x_to (l := [(0, .ref (M.2.1 k0)), (1, .int a1), (2, .int a2)]) ⟨rfl, rfl, rfl, trivial⟩ ?_
    exact tX12_goesOn_B422 o hnL n k0 a1 a2 S z hr h
  · have h := xif h c57
    refine x_aload_n (pc := 404) o dX12_goesOn_404 rfl rfl ?_
    obtain ⟨r52, hr52, h⟩ := xbs h
    refine gX12_143 (pc := 405) o dX12_goesOn_405 hr52 ?_
    refine x_iload_n (pc := 408) o dX12_goesOn_408 rfl rfl ?_
    obtain ⟨v53, hv53, h⟩ := xbs h
    refine x_iaload (pc := 409) o dX12_goesOn_409 hv53 ?_
    refine x_if_ne (pc := 410) (tgt := 422) o dX12_goesOn_410 (by decide) (fun c56 => ?_) (fun c56 => ?_)
    · have h := xif h c56
      refine x_to (l := [(0, .ref (M.2.1 k0)), (1, .int a1), (2, .int a2)]) ⟨rfl, rfl, rfl, trivial⟩ ?_
      exact tX12_goesOn_B422 o hnL n k0 a1 a2 S z hr h
    · have h := xit h c56
      refine x_aload_n (pc := 413) o dX12_goesOn_413 rfl rfl ?_
      refine x_iconst (pc := 414) o dX12_goesOn_414 ic_1 ?_
      refine x_aload_n (pc := 415) o dX12_goesOn_415 rfl rfl ?_
      obtain ⟨v54, hv54, h⟩ := xbs h
      refine gX12_23 (pc := 416) o dX12_goesOn_416 hv54 ?_
      obtain ⟨S55, hS55, h⟩ := xbs h
      refine x_callV (pc := 419) (As := [.int ((1 : Int32)), .int v54]) (b := k0) (rest := []) o (tX12_blame _ M _ k0 ((1 : Int32)) v54 S S55 hS55) eX12_blame mX12_287 clX12 (kX12_blame hS55) (by decide) rfl rfl (Nat.le_of_ble_eq_true rfl) dX12_goesOn_419 ?_
      refine x_to (l := [(0, .ref (M.2.1 k0)), (1, .int a1), (2, .int a2)]) ⟨rfl, rfl, rfl, trivial⟩ ?_
      exact tX12_goesOn_B422 o hnL n k0 a1 a2 S55 z hr h
def fX12_goesOn_B372 (n : Nat) (k0 : Nat) (a1 : Int32) (s0 : Nat) (s1 : Int32) (S : xSt) : Option (Int32 × xSt) :=
  (fX12_holdsBack s0 s1 S).bind fun S64 =>
  (xgF tM 12 43 k0 S64).bind fun r65 =>
  (xas tM r65 a1 ((0 : Int32)) S64).bind fun S66 =>
  (xgF tM 12 44 k0 S66).bind fun r67 =>
  (xzs tM r67 a1 ((1 : Int32)) S66).bind fun S68 =>
  (fX12_ahead n k0 S68).bind fun S69 =>
  (xpZ tM 12 51 k0 ((0 : Int32)) S69).bind fun S70 =>
  some ((1 : Int32), S70)
set_option maxHeartbeats 4000000 in
theorem tX12_goesOn_B372 {Γ : xGm} {M : xMg} (o : xOk Γ tM M 3 cX12_goesOn RX12) (hnL : Γ.2.2.2 = 5) (n : Nat) (k0 : Nat) (a1 : Int32) (s0 : Nat) (s1 : Int32) (S : xSt) (z : (Int32 × xSt)) (hr : xRI Γ tM M (some .boolean) z.1 z.2) (h : fX12_goesOn_B372 n k0 a1 s0 s1 S = some z) : xAt Γ tM M 372 (xlv [(0, .ref (M.2.1 k0)), (1, .int a1)]) [.int s1, .ref (M.2.1 s0)] S := by
  unfold fX12_goesOn_B372 at h
  obtain ⟨S64, hS64, h⟩ := xbs h
  refine x_callV (pc := 372) (As := [.int s1]) (b := s0) (rest := []) o (tX12_holdsBack _ M _ s0 s1 S S64 hS64) eX12_holdsBack mX12_399 clX12 (kX12_holdsBack hS64) (by decide) rfl rfl (Nat.le_of_ble_eq_true rfl) dX12_goesOn_372 ?_
  refine x_aload_n (pc := 375) o dX12_goesOn_375 rfl rfl ?_
  obtain ⟨r65, hr65, h⟩ := xbs h
  refine gX12_143 (pc := 376) o dX12_goesOn_376 hr65 ?_
  refine x_iload_n (pc := 379) o dX12_goesOn_379 rfl rfl ?_
  refine x_iconst (pc := 380) o dX12_goesOn_380 ic_0 ?_
  obtain ⟨S66, hS66, h⟩ := xbs h
  refine x_iastore (pc := 381) o dX12_goesOn_381 hS66 ?_
  refine x_aload_n (pc := 382) o dX12_goesOn_382 rfl rfl ?_
  obtain ⟨r67, hr67, h⟩ := xbs h
  refine gX12_146 (pc := 383) o dX12_goesOn_383 hr67 ?_
  refine x_iload_n (pc := 386) o dX12_goesOn_386 rfl rfl ?_
  refine x_iconst (pc := 387) o dX12_goesOn_387 ic_1 ?_
  obtain ⟨S68, hS68, h⟩ := xbs h
  refine x_zastore (pc := 388) o dX12_goesOn_388 hS68 ?_
  refine x_aload_n (pc := 389) o dX12_goesOn_389 rfl rfl ?_
  obtain ⟨S69, hS69, h⟩ := xbs h
  refine x_callV (pc := 390) (As := []) (b := k0) (rest := []) o (tX12_ahead _ M _ n k0 S68 S69 hS69) eX12_ahead mX12_304 clX12 (kX12_ahead hS69) (by decide) rfl rfl (Nat.le_of_ble_eq_true rfl) dX12_goesOn_390 ?_
  refine x_aload_n (pc := 393) o dX12_goesOn_393 rfl rfl ?_
  refine x_iconst (pc := 394) o dX12_goesOn_394 ic_0 ?_
  obtain ⟨S70, hS70, h⟩ := xbs h
  refine pX12_168 (pc := 395) o dX12_goesOn_395 hS70 ?_
  refine x_iconst (pc := 398) o dX12_goesOn_398 ic_1 ?_
  exact x_zreturn (pc := 399) o hr dX12_goesOn_399 (by decide) (xr1 h) (xr2 h)
def fX12_goesOn_B356 (n : Nat) (k0 : Nat) (a1 : Int32) (a4 : Int32) (s0 : Nat) (s1 : Int32) (S : xSt) : Option (Int32 × xSt) :=
  (fX12_joins n s0 s1 S).bind fun S63 =>
  if a4 = 0 then
  (fX12_goesOn_B372 n k0 a1 k0 ((42 : Int32)) S63)
else
  (fX12_goesOn_B372 n k0 a1 k0 ((41 : Int32)) S63)
set_option maxHeartbeats 4000000 in
theorem tX12_goesOn_B356 {Γ : xGm} {M : xMg} (o : xOk Γ tM M 3 cX12_goesOn RX12) (hnL : Γ.2.2.2 = 5) (n : Nat) (k0 : Nat) (a1 : Int32) (a4 : Int32) (s0 : Nat) (s1 : Int32) (S : xSt) (z : (Int32 × xSt)) (hr : xRI Γ tM M (some .boolean) z.1 z.2) (h : fX12_goesOn_B356 n k0 a1 a4 s0 s1 S = some z) : xAt Γ tM M 356 (xlv [(0, .ref (M.2.1 k0)), (1, .int a1), (4, .int a4)]) [.int s1, .ref (M.2.1 s0)] S := by
  unfold fX12_goesOn_B356 at h
  obtain ⟨S63, hS63, h⟩ := xbs h
  refine x_callV (pc := 356) (As := [.int s1]) (b := s0) (rest := []) o (tX12_joins _ M _ n s0 s1 S S63 hS63) eX12_joins mX12_405 clX12 (kX12_joins hS63) (by decide) rfl rfl (Nat.le_of_ble_eq_true rfl) dX12_goesOn_356 ?_
  refine x_aload_n (pc := 359) o dX12_goesOn_359 rfl rfl ?_
  refine x_iload (pc := 360) o dX12_goesOn_360 rfl ?_
  refine x_if_eq (pc := 362) (tgt := 370) o dX12_goesOn_362 (by decide) (fun c71 => ?_) (fun c71 => ?_)
  · have h := xit h c71
    refine x_bipush (pc := 370) o dX12_goesOn_370 bp_42 ?_
    refine x_to (l := [(0, .ref (M.2.1 k0)), (1, .int a1)]) ⟨rfl, rfl, trivial⟩ ?_
    exact tX12_goesOn_B372 o hnL n k0 a1 k0 ((42 : Int32)) S63 z hr h
  · have h := xif h c71
    refine x_bipush (pc := 365) o dX12_goesOn_365 bp_41 ?_
    refine x_goto (pc := 367) (tgt := 372) o dX12_goesOn_367 (by decide) ?_
    refine x_to (l := [(0, .ref (M.2.1 k0)), (1, .int a1)]) ⟨rfl, rfl, trivial⟩ ?_
    exact tX12_goesOn_B372 o hnL n k0 a1 k0 ((41 : Int32)) S63 z hr h
def fX12_goesOn_B327 (n : Nat) (k0 : Nat) (a1 : Int32) (S : xSt) : Option (Int32 × xSt) :=
  (xgI tM 12 8 k0 S).bind fun v61 =>
  if v61 ≤ 0 then
  ((fX12_isWord k0 ((6385252 : Int64)) S).bind fun v62 =>
  if v62 = 0 then
  (fX12_goesOn_B356 n k0 a1 v62 k0 ((1 : Int32)) S)
else
  (fX12_goesOn_B356 n k0 a1 v62 k0 ((2 : Int32)) S))
else
  (some ((0 : Int32), S))
set_option maxHeartbeats 4000000 in
theorem tX12_goesOn_B327 {Γ : xGm} {M : xMg} (o : xOk Γ tM M 3 cX12_goesOn RX12) (hnL : Γ.2.2.2 = 5) (n : Nat) (k0 : Nat) (a1 : Int32) (S : xSt) (z : (Int32 × xSt)) (hr : xRI Γ tM M (some .boolean) z.1 z.2) (h : fX12_goesOn_B327 n k0 a1 S = some z) : xAt Γ tM M 327 (xlv [(0, .ref (M.2.1 k0)), (1, .int a1)]) [] S := by
  have hn4 : 4 < Γ.2.2.2 := by omega
  unfold fX12_goesOn_B327 at h
  refine x_aload_n (pc := 327) o dX12_goesOn_327 rfl rfl ?_
  obtain ⟨v61, hv61, h⟩ := xbs h
  refine gX12_36 (pc := 328) o dX12_goesOn_328 hv61 ?_
  refine x_if_le (pc := 331) (tgt := 336) o dX12_goesOn_331 (by decide) (fun c73 => ?_) (fun c73 => ?_)
  · have h := xit h c73
    refine x_aload_n (pc := 336) o dX12_goesOn_336 rfl rfl ?_
    refine x_ldc2 (pc := 337) o kcX12_361 dX12_goesOn_337 ?_
    obtain ⟨v62, hv62, h⟩ := xbs h
    refine x_callI (pc := 340) (As := [.long ((6385252 : Int64))]) (b := k0) (rest := []) o (tX12_isWord _ M _ k0 ((6385252 : Int64)) S v62 hv62) eX12_isWord mX12_395 clX12 (kX12_isWord hv62) (by decide) rfl rfl (Nat.le_of_ble_eq_true rfl) dX12_goesOn_340 ?_
    refine x_istore (pc := 343) o dX12_goesOn_343 hn4 ?_
    refine x_aload_n (pc := 345) o dX12_goesOn_345 rfl rfl ?_
    refine x_iload (pc := 346) o dX12_goesOn_346 rfl ?_
    refine x_if_eq (pc := 348) (tgt := 355) o dX12_goesOn_348 (by decide) (fun c72 => ?_) (fun c72 => ?_)
    · have h := xit h c72
      refine x_iconst (pc := 355) o dX12_goesOn_355 ic_1 ?_
      refine x_to (l := [(0, .ref (M.2.1 k0)), (1, .int a1), (4, .int v62)]) ⟨rfl, rfl, rfl, trivial⟩ ?_
      exact tX12_goesOn_B356 o hnL n k0 a1 v62 k0 ((1 : Int32)) S z hr h
    · have h := xif h c72
      refine x_iconst (pc := 351) o dX12_goesOn_351 ic_2 ?_
      refine x_goto (pc := 352) (tgt := 356) o dX12_goesOn_352 (by decide) ?_
      refine x_to (l := [(0, .ref (M.2.1 k0)), (1, .int a1), (4, .int v62)]) ⟨rfl, rfl, rfl, trivial⟩ ?_
      exact tX12_goesOn_B356 o hnL n k0 a1 v62 k0 ((2 : Int32)) S z hr h
  · have h := xif h c73
    refine x_iconst (pc := 334) o dX12_goesOn_334 ic_0 ?_
    exact x_zreturn (pc := 335) o hr dX12_goesOn_335 (by decide) (xr1 h) (xr2 h)
def fX12_goesOn_B309 (n : Nat) (k0 : Nat) (a1 : Int32) (S : xSt) : Option (Int32 × xSt) :=
  (xgF tM 12 43 k0 S).bind fun r59 =>
  (xal tM r59 a1 S).bind fun v60 =>
  if v60 = 0 then
  ((xgI tM 12 4 k0 S).bind fun v74 =>
  (fX12_blame k0 ((1 : Int32)) v74 S).bind fun S75 =>
  fX12_goesOn_B327 n k0 a1 S75)
else
  (fX12_goesOn_B327 n k0 a1 S)
set_option maxHeartbeats 4000000 in
theorem tX12_goesOn_B309 {Γ : xGm} {M : xMg} (o : xOk Γ tM M 3 cX12_goesOn RX12) (hnL : Γ.2.2.2 = 5) (n : Nat) (k0 : Nat) (a1 : Int32) (S : xSt) (z : (Int32 × xSt)) (hr : xRI Γ tM M (some .boolean) z.1 z.2) (h : fX12_goesOn_B309 n k0 a1 S = some z) : xAt Γ tM M 309 (xlv [(0, .ref (M.2.1 k0)), (1, .int a1)]) [] S := by
  unfold fX12_goesOn_B309 at h
  refine x_aload_n (pc := 309) o dX12_goesOn_309 rfl rfl ?_
  obtain ⟨r59, hr59, h⟩ := xbs h
  refine gX12_143 (pc := 310) o dX12_goesOn_310 hr59 ?_
  refine x_iload_n (pc := 313) o dX12_goesOn_313 rfl rfl ?_
  obtain ⟨v60, hv60, h⟩ := xbs h
  refine x_iaload (pc := 314) o dX12_goesOn_314 hv60 ?_
  refine x_if_ne (pc := 315) (tgt := 327) o dX12_goesOn_315 (by decide) (fun c76 => ?_) (fun c76 => ?_)
  · have h := xif h c76
    refine x_to (l := [(0, .ref (M.2.1 k0)), (1, .int a1)]) ⟨rfl, rfl, trivial⟩ ?_
    exact tX12_goesOn_B327 o hnL n k0 a1 S z hr h
  · have h := xit h c76
    refine x_aload_n (pc := 318) o dX12_goesOn_318 rfl rfl ?_
    refine x_iconst (pc := 319) o dX12_goesOn_319 ic_1 ?_
    refine x_aload_n (pc := 320) o dX12_goesOn_320 rfl rfl ?_
    obtain ⟨v74, hv74, h⟩ := xbs h
    refine gX12_23 (pc := 321) o dX12_goesOn_321 hv74 ?_
    obtain ⟨S75, hS75, h⟩ := xbs h
    refine x_callV (pc := 324) (As := [.int ((1 : Int32)), .int v74]) (b := k0) (rest := []) o (tX12_blame _ M _ k0 ((1 : Int32)) v74 S S75 hS75) eX12_blame mX12_287 clX12 (kX12_blame hS75) (by decide) rfl rfl (Nat.le_of_ble_eq_true rfl) dX12_goesOn_324 ?_
    refine x_to (l := [(0, .ref (M.2.1 k0)), (1, .int a1)]) ⟨rfl, rfl, trivial⟩ ?_
    exact tX12_goesOn_B327 o hnL n k0 a1 S75 z hr h
def fX12_goesOn_B285 (n : Nat) (k0 : Nat) (a1 : Int32) (a2 : Int32) (a3 : Int32) (S : xSt) : Option (Int32 × xSt) :=
  if a3 = 0 then
  (fX12_goesOn_B400 n k0 a1 a2 a3 S)
else
  ((fX12_isWord k0 ((6385252 : Int64)) S).bind fun v58 =>
  if v58 = 0 then
  ((fX12_isWord k0 ((28530 : Int64)) S).bind fun v77 =>
  if v77 = 0 then
  (fX12_goesOn_B400 n k0 a1 a2 a3 S)
else
  (fX12_goesOn_B309 n k0 a1 S))
else
  (fX12_goesOn_B309 n k0 a1 S))
set_option maxHeartbeats 4000000 in
theorem tX12_goesOn_B285 {Γ : xGm} {M : xMg} (o : xOk Γ tM M 3 cX12_goesOn RX12) (hnL : Γ.2.2.2 = 5) (n : Nat) (k0 : Nat) (a1 : Int32) (a2 : Int32) (a3 : Int32) (S : xSt) (z : (Int32 × xSt)) (hr : xRI Γ tM M (some .boolean) z.1 z.2) (h : fX12_goesOn_B285 n k0 a1 a2 a3 S = some z) : xAt Γ tM M 285 (xlv [(0, .ref (M.2.1 k0)), (1, .int a1), (2, .int a2), (3, .int a3)]) [] S := by
  unfold fX12_goesOn_B285 at h
  refine x_iload_n (pc := 285) o dX12_goesOn_285 rfl rfl ?_
  refine x_if_eq (pc := 286) (tgt := 400) o dX12_goesOn_286 (by decide) (fun c80 => ?_) (fun c80 => ?_)
  · have h := xit h c80
    refine x_to (l := [(0, .ref (M.2.1 k0)), (1, .int a1), (2, .int a2), (3, .int a3)]) ⟨rfl, rfl, rfl, rfl, trivial⟩ ?_
    exact tX12_goesOn_B400 o hnL n k0 a1 a2 a3 S z hr h
  · have h := xif h c80
    refine x_aload_n (pc := 289) o dX12_goesOn_289 rfl rfl ?_
    refine x_ldc2 (pc := 290) o kcX12_361 dX12_goesOn_290 ?_
    obtain ⟨v58, hv58, h⟩ := xbs h
    refine x_callI (pc := 293) (As := [.long ((6385252 : Int64))]) (b := k0) (rest := []) o (tX12_isWord _ M _ k0 ((6385252 : Int64)) S v58 hv58) eX12_isWord mX12_395 clX12 (kX12_isWord hv58) (by decide) rfl rfl (Nat.le_of_ble_eq_true rfl) dX12_goesOn_293 ?_
    refine x_if_ne (pc := 296) (tgt := 309) o dX12_goesOn_296 (by decide) (fun c79 => ?_) (fun c79 => ?_)
    · have h := xif h c79
      refine x_to (l := [(0, .ref (M.2.1 k0)), (1, .int a1)]) ⟨rfl, rfl, trivial⟩ ?_
      exact tX12_goesOn_B309 o hnL n k0 a1 S z hr h
    · have h := xit h c79
      refine x_aload_n (pc := 299) o dX12_goesOn_299 rfl rfl ?_
      refine x_ldc2 (pc := 300) o kcX12_359 dX12_goesOn_300 ?_
      obtain ⟨v77, hv77, h⟩ := xbs h
      refine x_callI (pc := 303) (As := [.long ((28530 : Int64))]) (b := k0) (rest := []) o (tX12_isWord _ M _ k0 ((28530 : Int64)) S v77 hv77) eX12_isWord mX12_395 clX12 (kX12_isWord hv77) (by decide) rfl rfl (Nat.le_of_ble_eq_true rfl) dX12_goesOn_303 ?_
      refine x_if_eq (pc := 306) (tgt := 400) o dX12_goesOn_306 (by decide) (fun c78 => ?_) (fun c78 => ?_)
      · have h := xit h c78
        refine x_to (l := [(0, .ref (M.2.1 k0)), (1, .int a1), (2, .int a2), (3, .int a3)]) ⟨rfl, rfl, rfl, rfl, trivial⟩ ?_
        exact tX12_goesOn_B400 o hnL n k0 a1 a2 a3 S z hr h
      · have h := xif h c78
        refine x_to (l := [(0, .ref (M.2.1 k0)), (1, .int a1)]) ⟨rfl, rfl, trivial⟩ ?_
        exact tX12_goesOn_B309 o hnL n k0 a1 S z hr h
def fX12_goesOn_B264 (n : Nat) (k0 : Nat) (a1 : Int32) (s0 : Nat) (s1 : Int32) (S : xSt) : Option (Int32 × xSt) :=
  (fX12_holdsBack s0 s1 S).bind fun S87 =>
  (xgF tM 12 43 k0 S87).bind fun r88 =>
  (xas tM r88 a1 ((1 : Int32)) S87).bind fun S89 =>
  (fX12_ahead n k0 S89).bind fun S90 =>
  (xpZ tM 12 51 k0 ((0 : Int32)) S90).bind fun S91 =>
  some ((1 : Int32), S91)
set_option maxHeartbeats 4000000 in
theorem tX12_goesOn_B264 {Γ : xGm} {M : xMg} (o : xOk Γ tM M 3 cX12_goesOn RX12) (hnL : Γ.2.2.2 = 5) (n : Nat) (k0 : Nat) (a1 : Int32) (s0 : Nat) (s1 : Int32) (S : xSt) (z : (Int32 × xSt)) (hr : xRI Γ tM M (some .boolean) z.1 z.2) (h : fX12_goesOn_B264 n k0 a1 s0 s1 S = some z) : xAt Γ tM M 264 (xlv [(0, .ref (M.2.1 k0)), (1, .int a1)]) [.int s1, .ref (M.2.1 s0)] S := by
  unfold fX12_goesOn_B264 at h
  obtain ⟨S87, hS87, h⟩ := xbs h
  refine x_callV (pc := 264) (As := [.int s1]) (b := s0) (rest := []) o (tX12_holdsBack _ M _ s0 s1 S S87 hS87) eX12_holdsBack mX12_399 clX12 (kX12_holdsBack hS87) (by decide) rfl rfl (Nat.le_of_ble_eq_true rfl) dX12_goesOn_264 ?_
  refine x_aload_n (pc := 267) o dX12_goesOn_267 rfl rfl ?_
  obtain ⟨r88, hr88, h⟩ := xbs h
  refine gX12_143 (pc := 268) o dX12_goesOn_268 hr88 ?_
  refine x_iload_n (pc := 271) o dX12_goesOn_271 rfl rfl ?_
  refine x_iconst (pc := 272) o dX12_goesOn_272 ic_1 ?_
  obtain ⟨S89, hS89, h⟩ := xbs h
  refine x_iastore (pc := 273) o dX12_goesOn_273 hS89 ?_
  refine x_aload_n (pc := 274) o dX12_goesOn_274 rfl rfl ?_
  obtain ⟨S90, hS90, h⟩ := xbs h
  refine x_callV (pc := 275) (As := []) (b := k0) (rest := []) o (tX12_ahead _ M _ n k0 S89 S90 hS90) eX12_ahead mX12_304 clX12 (kX12_ahead hS90) (by decide) rfl rfl (Nat.le_of_ble_eq_true rfl) dX12_goesOn_275 ?_
  refine x_aload_n (pc := 278) o dX12_goesOn_278 rfl rfl ?_
  refine x_iconst (pc := 279) o dX12_goesOn_279 ic_0 ?_
  obtain ⟨S91, hS91, h⟩ := xbs h
  refine pX12_168 (pc := 280) o dX12_goesOn_280 hS91 ?_
  refine x_iconst (pc := 283) o dX12_goesOn_283 ic_1 ?_
  exact x_zreturn (pc := 284) o hr dX12_goesOn_284 (by decide) (xr1 h) (xr2 h)
def fX12_goesOn_B228 (n : Nat) (k0 : Nat) (a1 : Int32) (S : xSt) : Option (Int32 × xSt) :=
  (fX12_joins n k0 ((5 : Int32)) S).bind fun S84 =>
  (fX12_isSign k0 ((60 : Int32)) S84).bind fun v85 =>
  if v85 = 0 then
  ((fX12_isSign k0 ((62 : Int32)) S84).bind fun v86 =>
  if v86 = 0 then
  (fX12_goesOn_B264 n k0 a1 k0 ((40 : Int32)) S84)
else
  (fX12_goesOn_B264 n k0 a1 k0 ((39 : Int32)) S84))
else
  (fX12_goesOn_B264 n k0 a1 k0 ((38 : Int32)) S84)
set_option maxHeartbeats 4000000 in
theorem tX12_goesOn_B228 {Γ : xGm} {M : xMg} (o : xOk Γ tM M 3 cX12_goesOn RX12) (hnL : Γ.2.2.2 = 5) (n : Nat) (k0 : Nat) (a1 : Int32) (S : xSt) (z : (Int32 × xSt)) (hr : xRI Γ tM M (some .boolean) z.1 z.2) (h : fX12_goesOn_B228 n k0 a1 S = some z) : xAt Γ tM M 228 (xlv [(0, .ref (M.2.1 k0)), (1, .int a1)]) [] S := by
  unfold fX12_goesOn_B228 at h
  refine x_aload_n (pc := 228) o dX12_goesOn_228 rfl rfl ?_
  refine x_iconst (pc := 229) o dX12_goesOn_229 ic_5 ?_
  obtain ⟨S84, hS84, h⟩ := xbs h
  refine x_callV (pc := 230) (As := [.int ((5 : Int32))]) (b := k0) (rest := []) o (tX12_joins _ M _ n k0 ((5 : Int32)) S S84 hS84) eX12_joins mX12_405 clX12 (kX12_joins hS84) (by decide) rfl rfl (Nat.le_of_ble_eq_true rfl) dX12_goesOn_230 ?_
  refine x_aload_n (pc := 233) o dX12_goesOn_233 rfl rfl ?_
  refine x_aload_n (pc := 234) o dX12_goesOn_234 rfl rfl ?_
  refine x_bipush (pc := 235) o dX12_goesOn_235 bp_60 ?_
  obtain ⟨v85, hv85, h⟩ := xbs h
  refine x_callI (pc := 237) (As := [.int ((60 : Int32))]) (b := k0) (rest := [.ref (M.2.1 k0)]) o (tX12_isSign _ M _ k0 ((60 : Int32)) S84 v85 hv85) eX12_isSign mX12_301 clX12 (kX12_isSign hv85) (by decide) rfl rfl (Nat.le_of_ble_eq_true rfl) dX12_goesOn_237 ?_
  refine x_if_eq (pc := 240) (tgt := 248) o dX12_goesOn_240 (by decide) (fun c93 => ?_) (fun c93 => ?_)
  · have h := xit h c93
    refine x_aload_n (pc := 248) o dX12_goesOn_248 rfl rfl ?_
    refine x_bipush (pc := 249) o dX12_goesOn_249 bp_62 ?_
    obtain ⟨v86, hv86, h⟩ := xbs h
    refine x_callI (pc := 251) (As := [.int ((62 : Int32))]) (b := k0) (rest := [.ref (M.2.1 k0)]) o (tX12_isSign _ M _ k0 ((62 : Int32)) S84 v86 hv86) eX12_isSign mX12_301 clX12 (kX12_isSign hv86) (by decide) rfl rfl (Nat.le_of_ble_eq_true rfl) dX12_goesOn_251 ?_
    refine x_if_eq (pc := 254) (tgt := 262) o dX12_goesOn_254 (by decide) (fun c92 => ?_) (fun c92 => ?_)
    · have h := xit h c92
      refine x_bipush (pc := 262) o dX12_goesOn_262 bp_40 ?_
      refine x_to (l := [(0, .ref (M.2.1 k0)), (1, .int a1)]) ⟨rfl, rfl, trivial⟩ ?_
      exact tX12_goesOn_B264 o hnL n k0 a1 k0 ((40 : Int32)) S84 z hr h
    · have h := xif h c92
      refine x_bipush (pc := 257) o dX12_goesOn_257 bp_39 ?_
      refine x_goto (pc := 259) (tgt := 264) o dX12_goesOn_259 (by decide) ?_
      refine x_to (l := [(0, .ref (M.2.1 k0)), (1, .int a1)]) ⟨rfl, rfl, trivial⟩ ?_
      exact tX12_goesOn_B264 o hnL n k0 a1 k0 ((39 : Int32)) S84 z hr h
  · have h := xif h c93
    refine x_bipush (pc := 243) o dX12_goesOn_243 bp_38 ?_
    refine x_goto (pc := 245) (tgt := 264) o dX12_goesOn_245 (by decide) ?_
    refine x_to (l := [(0, .ref (M.2.1 k0)), (1, .int a1)]) ⟨rfl, rfl, trivial⟩ ?_
    exact tX12_goesOn_B264 o hnL n k0 a1 k0 ((38 : Int32)) S84 z hr h
def fX12_goesOn_B188 (n : Nat) (k0 : Nat) (a1 : Int32) (a2 : Int32) (a3 : Int32) (S : xSt) : Option (Int32 × xSt) :=
  if a3 = 0 then
  (fX12_goesOn_B285 n k0 a1 a2 a3 S)
else
  ((xgF tM 12 43 k0 S).bind fun r81 =>
  (xal tM r81 a1 S).bind fun v82 =>
  if v82 = 0 then
  ((fX12_isSign k0 ((60 : Int32)) S).bind fun v83 =>
  if v83 = 0 then
  ((fX12_isSign k0 ((62 : Int32)) S).bind fun v94 =>
  if v94 = 0 then
  ((fX12_isSign k0 ((61 : Int32)) S).bind fun v95 =>
  if v95 = 0 then
  (fX12_goesOn_B285 n k0 a1 a2 a3 S)
else
  (fX12_goesOn_B228 n k0 a1 S))
else
  (fX12_goesOn_B228 n k0 a1 S))
else
  (fX12_goesOn_B228 n k0 a1 S))
else
  (fX12_goesOn_B285 n k0 a1 a2 a3 S))
set_option maxHeartbeats 4000000 in
theorem tX12_goesOn_B188 {Γ : xGm} {M : xMg} (o : xOk Γ tM M 3 cX12_goesOn RX12) (hnL : Γ.2.2.2 = 5) (n : Nat) (k0 : Nat) (a1 : Int32) (a2 : Int32) (a3 : Int32) (S : xSt) (z : (Int32 × xSt)) (hr : xRI Γ tM M (some .boolean) z.1 z.2) (h : fX12_goesOn_B188 n k0 a1 a2 a3 S = some z) : xAt Γ tM M 188 (xlv [(0, .ref (M.2.1 k0)), (1, .int a1), (2, .int a2), (3, .int a3)]) [] S := by
  unfold fX12_goesOn_B188 at h
  refine x_iload_n (pc := 188) o dX12_goesOn_188 rfl rfl ?_
  refine x_if_eq (pc := 189) (tgt := 285) o dX12_goesOn_189 (by decide) (fun c100 => ?_) (fun c100 => ?_)
  · have h := xit h c100
    refine x_to (l := [(0, .ref (M.2.1 k0)), (1, .int a1), (2, .int a2), (3, .int a3)]) ⟨rfl, rfl, rfl, rfl, trivial⟩ ?_
    exact tX12_goesOn_B285 o hnL n k0 a1 a2 a3 S z hr h
  · have h := xif h c100
    refine x_aload_n (pc := 192) o dX12_goesOn_192 rfl rfl ?_
    obtain ⟨r81, hr81, h⟩ := xbs h
    refine gX12_143 (pc := 193) o dX12_goesOn_193 hr81 ?_
    refine x_iload_n (pc := 196) o dX12_goesOn_196 rfl rfl ?_
    obtain ⟨v82, hv82, h⟩ := xbs h
    refine x_iaload (pc := 197) o dX12_goesOn_197 hv82 ?_
    refine x_if_ne (pc := 198) (tgt := 285) o dX12_goesOn_198 (by decide) (fun c99 => ?_) (fun c99 => ?_)
    · have h := xif h c99
      refine x_to (l := [(0, .ref (M.2.1 k0)), (1, .int a1), (2, .int a2), (3, .int a3)]) ⟨rfl, rfl, rfl, rfl, trivial⟩ ?_
      exact tX12_goesOn_B285 o hnL n k0 a1 a2 a3 S z hr h
    · have h := xit h c99
      refine x_aload_n (pc := 201) o dX12_goesOn_201 rfl rfl ?_
      refine x_bipush (pc := 202) o dX12_goesOn_202 bp_60 ?_
      obtain ⟨v83, hv83, h⟩ := xbs h
      refine x_callI (pc := 204) (As := [.int ((60 : Int32))]) (b := k0) (rest := []) o (tX12_isSign _ M _ k0 ((60 : Int32)) S v83 hv83) eX12_isSign mX12_301 clX12 (kX12_isSign hv83) (by decide) rfl rfl (Nat.le_of_ble_eq_true rfl) dX12_goesOn_204 ?_
      refine x_if_ne (pc := 207) (tgt := 228) o dX12_goesOn_207 (by decide) (fun c98 => ?_) (fun c98 => ?_)
      · have h := xif h c98
        refine x_to (l := [(0, .ref (M.2.1 k0)), (1, .int a1)]) ⟨rfl, rfl, trivial⟩ ?_
        exact tX12_goesOn_B228 o hnL n k0 a1 S z hr h
      · have h := xit h c98
        refine x_aload_n (pc := 210) o dX12_goesOn_210 rfl rfl ?_
        refine x_bipush (pc := 211) o dX12_goesOn_211 bp_62 ?_
        obtain ⟨v94, hv94, h⟩ := xbs h
        refine x_callI (pc := 213) (As := [.int ((62 : Int32))]) (b := k0) (rest := []) o (tX12_isSign _ M _ k0 ((62 : Int32)) S v94 hv94) eX12_isSign mX12_301 clX12 (kX12_isSign hv94) (by decide) rfl rfl (Nat.le_of_ble_eq_true rfl) dX12_goesOn_213 ?_
        refine x_if_ne (pc := 216) (tgt := 228) o dX12_goesOn_216 (by decide) (fun c97 => ?_) (fun c97 => ?_)
        · have h := xif h c97
          refine x_to (l := [(0, .ref (M.2.1 k0)), (1, .int a1)]) ⟨rfl, rfl, trivial⟩ ?_
          exact tX12_goesOn_B228 o hnL n k0 a1 S z hr h
        · have h := xit h c97
          refine x_aload_n (pc := 219) o dX12_goesOn_219 rfl rfl ?_
          refine x_bipush (pc := 220) o dX12_goesOn_220 bp_61 ?_
          obtain ⟨v95, hv95, h⟩ := xbs h
          refine x_callI (pc := 222) (As := [.int ((61 : Int32))]) (b := k0) (rest := []) o (tX12_isSign _ M _ k0 ((61 : Int32)) S v95 hv95) eX12_isSign mX12_301 clX12 (kX12_isSign hv95) (by decide) rfl rfl (Nat.le_of_ble_eq_true rfl) dX12_goesOn_222 ?_
          refine x_if_eq (pc := 225) (tgt := 285) o dX12_goesOn_225 (by decide) (fun c96 => ?_) (fun c96 => ?_)
          · have h := xit h c96
            refine x_to (l := [(0, .ref (M.2.1 k0)), (1, .int a1), (2, .int a2), (3, .int a3)]) ⟨rfl, rfl, rfl, rfl, trivial⟩ ?_
            exact tX12_goesOn_B285 o hnL n k0 a1 a2 a3 S z hr h
          · have h := xif h c96
            refine x_to (l := [(0, .ref (M.2.1 k0)), (1, .int a1)]) ⟨rfl, rfl, trivial⟩ ?_
            exact tX12_goesOn_B228 o hnL n k0 a1 S z hr h
def fX12_goesOn_B112 (n : Nat) (k0 : Nat) (s0 : Nat) (s1 : Int32) (S : xSt) : Option (Int32 × xSt) :=
  (fX12_joins n s0 s1 S).bind fun S103 =>
  (fX12_isSign k0 ((43 : Int32)) S103).bind fun v104 =>
  if v104 = 0 then
  ((fX12_isSign k0 ((45 : Int32)) S103).bind fun v105 =>
  if v105 = 0 then
  ((fX12_isSign k0 ((42 : Int32)) S103).bind fun v106 =>
  if v106 = 0 then
  ((fX12_isSign k0 ((47 : Int32)) S103).bind fun v107 =>
  if v107 = 0 then
  ((fX12_holdsBack k0 ((35 : Int32)) S103).bind fun S108 =>
  (fX12_ahead n k0 S108).bind fun S109 =>
  (xpZ tM 12 51 k0 ((0 : Int32)) S109).bind fun S110 =>
  some ((1 : Int32), S110))
else
  ((fX12_holdsBack k0 ((34 : Int32)) S103).bind fun S111 =>
  (fX12_ahead n k0 S111).bind fun S112 =>
  (xpZ tM 12 51 k0 ((0 : Int32)) S112).bind fun S113 =>
  some ((1 : Int32), S113)))
else
  ((fX12_holdsBack k0 ((33 : Int32)) S103).bind fun S115 =>
  (fX12_ahead n k0 S115).bind fun S116 =>
  (xpZ tM 12 51 k0 ((0 : Int32)) S116).bind fun S117 =>
  some ((1 : Int32), S117)))
else
  ((fX12_holdsBack k0 ((32 : Int32)) S103).bind fun S119 =>
  (fX12_ahead n k0 S119).bind fun S120 =>
  (xpZ tM 12 51 k0 ((0 : Int32)) S120).bind fun S121 =>
  some ((1 : Int32), S121)))
else
  ((fX12_holdsBack k0 ((31 : Int32)) S103).bind fun S123 =>
  (fX12_ahead n k0 S123).bind fun S124 =>
  (xpZ tM 12 51 k0 ((0 : Int32)) S124).bind fun S125 =>
  some ((1 : Int32), S125))
set_option maxHeartbeats 4000000 in
theorem tX12_goesOn_B112 {Γ : xGm} {M : xMg} (o : xOk Γ tM M 3 cX12_goesOn RX12) (hnL : Γ.2.2.2 = 5) (n : Nat) (k0 : Nat) (s0 : Nat) (s1 : Int32) (S : xSt) (z : (Int32 × xSt)) (hr : xRI Γ tM M (some .boolean) z.1 z.2) (h : fX12_goesOn_B112 n k0 s0 s1 S = some z) : xAt Γ tM M 112 (xlv [(0, .ref (M.2.1 k0))]) [.int s1, .ref (M.2.1 s0)] S := by
  unfold fX12_goesOn_B112 at h
  obtain ⟨S103, hS103, h⟩ := xbs h
  refine x_callV (pc := 112) (As := [.int s1]) (b := s0) (rest := []) o (tX12_joins _ M _ n s0 s1 S S103 hS103) eX12_joins mX12_405 clX12 (kX12_joins hS103) (by decide) rfl rfl (Nat.le_of_ble_eq_true rfl) dX12_goesOn_112 ?_
  refine x_aload_n (pc := 115) o dX12_goesOn_115 rfl rfl ?_
  refine x_aload_n (pc := 116) o dX12_goesOn_116 rfl rfl ?_
  refine x_bipush (pc := 117) o dX12_goesOn_117 bp_43 ?_
  obtain ⟨v104, hv104, h⟩ := xbs h
  refine x_callI (pc := 119) (As := [.int ((43 : Int32))]) (b := k0) (rest := [.ref (M.2.1 k0)]) o (tX12_isSign _ M _ k0 ((43 : Int32)) S103 v104 hv104) eX12_isSign mX12_301 clX12 (kX12_isSign hv104) (by decide) rfl rfl (Nat.le_of_ble_eq_true rfl) dX12_goesOn_119 ?_
  refine x_if_eq (pc := 122) (tgt := 130) o dX12_goesOn_122 (by decide) (fun c126 => ?_) (fun c126 => ?_)
  · have h := xit h c126
    refine x_aload_n (pc := 130) o dX12_goesOn_130 rfl rfl ?_
    refine x_bipush (pc := 131) o dX12_goesOn_131 bp_45 ?_
    obtain ⟨v105, hv105, h⟩ := xbs h
    refine x_callI (pc := 133) (As := [.int ((45 : Int32))]) (b := k0) (rest := [.ref (M.2.1 k0)]) o (tX12_isSign _ M _ k0 ((45 : Int32)) S103 v105 hv105) eX12_isSign mX12_301 clX12 (kX12_isSign hv105) (by decide) rfl rfl (Nat.le_of_ble_eq_true rfl) dX12_goesOn_133 ?_
    refine x_if_eq (pc := 136) (tgt := 144) o dX12_goesOn_136 (by decide) (fun c122 => ?_) (fun c122 => ?_)
    · have h := xit h c122
      refine x_aload_n (pc := 144) o dX12_goesOn_144 rfl rfl ?_
      refine x_bipush (pc := 145) o dX12_goesOn_145 bp_42 ?_
      obtain ⟨v106, hv106, h⟩ := xbs h
      refine x_callI (pc := 147) (As := [.int ((42 : Int32))]) (b := k0) (rest := [.ref (M.2.1 k0)]) o (tX12_isSign _ M _ k0 ((42 : Int32)) S103 v106 hv106) eX12_isSign mX12_301 clX12 (kX12_isSign hv106) (by decide) rfl rfl (Nat.le_of_ble_eq_true rfl) dX12_goesOn_147 ?_
      refine x_if_eq (pc := 150) (tgt := 158) o dX12_goesOn_150 (by decide) (fun c118 => ?_) (fun c118 => ?_)
      · have h := xit h c118
        refine x_aload_n (pc := 158) o dX12_goesOn_158 rfl rfl ?_
        refine x_bipush (pc := 159) o dX12_goesOn_159 bp_47 ?_
        obtain ⟨v107, hv107, h⟩ := xbs h
        refine x_callI (pc := 161) (As := [.int ((47 : Int32))]) (b := k0) (rest := [.ref (M.2.1 k0)]) o (tX12_isSign _ M _ k0 ((47 : Int32)) S103 v107 hv107) eX12_isSign mX12_301 clX12 (kX12_isSign hv107) (by decide) rfl rfl (Nat.le_of_ble_eq_true rfl) dX12_goesOn_161 ?_
        refine x_if_eq (pc := 164) (tgt := 172) o dX12_goesOn_164 (by decide) (fun c114 => ?_) (fun c114 => ?_)
        · have h := xit h c114
          refine x_bipush (pc := 172) o dX12_goesOn_172 bp_35 ?_
          obtain ⟨S108, hS108, h⟩ := xbs h
          refine x_callV (pc := 174) (As := [.int ((35 : Int32))]) (b := k0) (rest := []) o (tX12_holdsBack _ M _ k0 ((35 : Int32)) S103 S108 hS108) eX12_holdsBack mX12_399 clX12 (kX12_holdsBack hS108) (by decide) rfl rfl (Nat.le_of_ble_eq_true rfl) dX12_goesOn_174 ?_
          refine x_aload_n (pc := 177) o dX12_goesOn_177 rfl rfl ?_
          obtain ⟨S109, hS109, h⟩ := xbs h
          refine x_callV (pc := 178) (As := []) (b := k0) (rest := []) o (tX12_ahead _ M _ n k0 S108 S109 hS109) eX12_ahead mX12_304 clX12 (kX12_ahead hS109) (by decide) rfl rfl (Nat.le_of_ble_eq_true rfl) dX12_goesOn_178 ?_
          refine x_aload_n (pc := 181) o dX12_goesOn_181 rfl rfl ?_
          refine x_iconst (pc := 182) o dX12_goesOn_182 ic_0 ?_
          obtain ⟨S110, hS110, h⟩ := xbs h
          refine pX12_168 (pc := 183) o dX12_goesOn_183 hS110 ?_
          refine x_iconst (pc := 186) o dX12_goesOn_186 ic_1 ?_
          exact x_zreturn (pc := 187) o hr dX12_goesOn_187 (by decide) (xr1 h) (xr2 h)
        · have h := xif h c114
          refine x_bipush (pc := 167) o dX12_goesOn_167 bp_34 ?_
          refine x_goto (pc := 169) (tgt := 174) o dX12_goesOn_169 (by decide) ?_
          obtain ⟨S111, hS111, h⟩ := xbs h
          refine x_callV (pc := 174) (As := [.int ((34 : Int32))]) (b := k0) (rest := []) o (tX12_holdsBack _ M _ k0 ((34 : Int32)) S103 S111 hS111) eX12_holdsBack mX12_399 clX12 (kX12_holdsBack hS111) (by decide) rfl rfl (Nat.le_of_ble_eq_true rfl) dX12_goesOn_174 ?_
          refine x_aload_n (pc := 177) o dX12_goesOn_177 rfl rfl ?_
          obtain ⟨S112, hS112, h⟩ := xbs h
          refine x_callV (pc := 178) (As := []) (b := k0) (rest := []) o (tX12_ahead _ M _ n k0 S111 S112 hS112) eX12_ahead mX12_304 clX12 (kX12_ahead hS112) (by decide) rfl rfl (Nat.le_of_ble_eq_true rfl) dX12_goesOn_178 ?_
          refine x_aload_n (pc := 181) o dX12_goesOn_181 rfl rfl ?_
          refine x_iconst (pc := 182) o dX12_goesOn_182 ic_0 ?_
          obtain ⟨S113, hS113, h⟩ := xbs h
          refine pX12_168 (pc := 183) o dX12_goesOn_183 hS113 ?_
          refine x_iconst (pc := 186) o dX12_goesOn_186 ic_1 ?_
          exact x_zreturn (pc := 187) o hr dX12_goesOn_187 (by decide) (xr1 h) (xr2 h)
      · have h := xif h c118
        refine x_bipush (pc := 153) o dX12_goesOn_153 bp_33 ?_
        refine x_goto (pc := 155) (tgt := 174) o dX12_goesOn_155 (by decide) ?_
        obtain ⟨S115, hS115, h⟩ := xbs h
        refine x_callV (pc := 174) (As := [.int ((33 : Int32))]) (b := k0) (rest := []) o (tX12_holdsBack _ M _ k0 ((33 : Int32)) S103 S115 hS115) eX12_holdsBack mX12_399 clX12 (kX12_holdsBack hS115) (by decide) rfl rfl (Nat.le_of_ble_eq_true rfl) dX12_goesOn_174 ?_
        refine x_aload_n (pc := 177) o dX12_goesOn_177 rfl rfl ?_
        obtain ⟨S116, hS116, h⟩ := xbs h
        refine x_callV (pc := 178) (As := []) (b := k0) (rest := []) o (tX12_ahead _ M _ n k0 S115 S116 hS116) eX12_ahead mX12_304 clX12 (kX12_ahead hS116) (by decide) rfl rfl (Nat.le_of_ble_eq_true rfl) dX12_goesOn_178 ?_
        refine x_aload_n (pc := 181) o dX12_goesOn_181 rfl rfl ?_
        refine x_iconst (pc := 182) o dX12_goesOn_182 ic_0 ?_
        obtain ⟨S117, hS117, h⟩ := xbs h
        refine pX12_168 (pc := 183) o dX12_goesOn_183 hS117 ?_
        refine x_iconst (pc := 186) o dX12_goesOn_186 ic_1 ?_
        exact x_zreturn (pc := 187) o hr dX12_goesOn_187 (by decide) (xr1 h) (xr2 h)
    · have h := xif h c122
      refine x_bipush (pc := 139) o dX12_goesOn_139 bp_32 ?_
      refine x_goto (pc := 141) (tgt := 174) o dX12_goesOn_141 (by decide) ?_
      obtain ⟨S119, hS119, h⟩ := xbs h
      refine x_callV (pc := 174) (As := [.int ((32 : Int32))]) (b := k0) (rest := []) o (tX12_holdsBack _ M _ k0 ((32 : Int32)) S103 S119 hS119) eX12_holdsBack mX12_399 clX12 (kX12_holdsBack hS119) (by decide) rfl rfl (Nat.le_of_ble_eq_true rfl) dX12_goesOn_174 ?_
      refine x_aload_n (pc := 177) o dX12_goesOn_177 rfl rfl ?_
      obtain ⟨S120, hS120, h⟩ := xbs h
      refine x_callV (pc := 178) (As := []) (b := k0) (rest := []) o (tX12_ahead _ M _ n k0 S119 S120 hS120) eX12_ahead mX12_304 clX12 (kX12_ahead hS120) (by decide) rfl rfl (Nat.le_of_ble_eq_true rfl) dX12_goesOn_178 ?_
      refine x_aload_n (pc := 181) o dX12_goesOn_181 rfl rfl ?_
      refine x_iconst (pc := 182) o dX12_goesOn_182 ic_0 ?_
      obtain ⟨S121, hS121, h⟩ := xbs h
      refine pX12_168 (pc := 183) o dX12_goesOn_183 hS121 ?_
      refine x_iconst (pc := 186) o dX12_goesOn_186 ic_1 ?_
      exact x_zreturn (pc := 187) o hr dX12_goesOn_187 (by decide) (xr1 h) (xr2 h)
  · have h := xif h c126
    refine x_bipush (pc := 125) o dX12_goesOn_125 bp_31 ?_
    refine x_goto (pc := 127) (tgt := 174) o dX12_goesOn_127 (by decide) ?_
    obtain ⟨S123, hS123, h⟩ := xbs h
    refine x_callV (pc := 174) (As := [.int ((31 : Int32))]) (b := k0) (rest := []) o (tX12_holdsBack _ M _ k0 ((31 : Int32)) S103 S123 hS123) eX12_holdsBack mX12_399 clX12 (kX12_holdsBack hS123) (by decide) rfl rfl (Nat.le_of_ble_eq_true rfl) dX12_goesOn_174 ?_
    refine x_aload_n (pc := 177) o dX12_goesOn_177 rfl rfl ?_
    obtain ⟨S124, hS124, h⟩ := xbs h
    refine x_callV (pc := 178) (As := []) (b := k0) (rest := []) o (tX12_ahead _ M _ n k0 S123 S124 hS124) eX12_ahead mX12_304 clX12 (kX12_ahead hS124) (by decide) rfl rfl (Nat.le_of_ble_eq_true rfl) dX12_goesOn_178 ?_
    refine x_aload_n (pc := 181) o dX12_goesOn_181 rfl rfl ?_
    refine x_iconst (pc := 182) o dX12_goesOn_182 ic_0 ?_
    obtain ⟨S125, hS125, h⟩ := xbs h
    refine pX12_168 (pc := 183) o dX12_goesOn_183 hS125 ?_
    refine x_iconst (pc := 186) o dX12_goesOn_186 ic_1 ?_
    exact x_zreturn (pc := 187) o hr dX12_goesOn_187 (by decide) (xr1 h) (xr2 h)
def fX12_goesOn_B106 (n : Nat) (k0 : Nat) (s0 : Nat) (S : xSt) : Option (Int32 × xSt) :=
  fX12_goesOn_B112 n k0 s0 ((5 : Int32)) S
set_option maxHeartbeats 4000000 in
theorem tX12_goesOn_B106 {Γ : xGm} {M : xMg} (o : xOk Γ tM M 3 cX12_goesOn RX12) (hnL : Γ.2.2.2 = 5) (n : Nat) (k0 : Nat) (s0 : Nat) (S : xSt) (z : (Int32 × xSt)) (hr : xRI Γ tM M (some .boolean) z.1 z.2) (h : fX12_goesOn_B106 n k0 s0 S = some z) : xAt Γ tM M 106 (xlv [(0, .ref (M.2.1 k0))]) [.ref (M.2.1 s0)] S := by
  unfold fX12_goesOn_B106 at h
  refine x_iconst (pc := 106) o dX12_goesOn_106 ic_5 ?_
  refine x_goto (pc := 107) (tgt := 112) o dX12_goesOn_107 (by decide) ?_
  refine x_to (l := [(0, .ref (M.2.1 k0))]) ⟨rfl, trivial⟩ ?_
  exact tX12_goesOn_B112 o hnL n k0 s0 ((5 : Int32)) S z hr h
def fX12_goesOn_B87 (n : Nat) (k0 : Nat) (S : xSt) : Option (Int32 × xSt) :=
  (fX12_isSign k0 ((43 : Int32)) S).bind fun v102 =>
  if v102 = 0 then
  ((fX12_isSign k0 ((45 : Int32)) S).bind fun v127 =>
  if v127 = 0 then
  (fX12_goesOn_B112 n k0 k0 ((6 : Int32)) S)
else
  (fX12_goesOn_B106 n k0 k0 S))
else
  (fX12_goesOn_B106 n k0 k0 S)
set_option maxHeartbeats 4000000 in
theorem tX12_goesOn_B87 {Γ : xGm} {M : xMg} (o : xOk Γ tM M 3 cX12_goesOn RX12) (hnL : Γ.2.2.2 = 5) (n : Nat) (k0 : Nat) (S : xSt) (z : (Int32 × xSt)) (hr : xRI Γ tM M (some .boolean) z.1 z.2) (h : fX12_goesOn_B87 n k0 S = some z) : xAt Γ tM M 87 (xlv [(0, .ref (M.2.1 k0))]) [] S := by
  unfold fX12_goesOn_B87 at h
  refine x_aload_n (pc := 87) o dX12_goesOn_87 rfl rfl ?_
  refine x_aload_n (pc := 88) o dX12_goesOn_88 rfl rfl ?_
  refine x_bipush (pc := 89) o dX12_goesOn_89 bp_43 ?_
  obtain ⟨v102, hv102, h⟩ := xbs h
  refine x_callI (pc := 91) (As := [.int ((43 : Int32))]) (b := k0) (rest := [.ref (M.2.1 k0)]) o (tX12_isSign _ M _ k0 ((43 : Int32)) S v102 hv102) eX12_isSign mX12_301 clX12 (kX12_isSign hv102) (by decide) rfl rfl (Nat.le_of_ble_eq_true rfl) dX12_goesOn_91 ?_
  refine x_if_ne (pc := 94) (tgt := 106) o dX12_goesOn_94 (by decide) (fun c129 => ?_) (fun c129 => ?_)
  · have h := xif h c129
    refine x_to (l := [(0, .ref (M.2.1 k0))]) ⟨rfl, trivial⟩ ?_
    exact tX12_goesOn_B106 o hnL n k0 k0 S z hr h
  · have h := xit h c129
    refine x_aload_n (pc := 97) o dX12_goesOn_97 rfl rfl ?_
    refine x_bipush (pc := 98) o dX12_goesOn_98 bp_45 ?_
    obtain ⟨v127, hv127, h⟩ := xbs h
    refine x_callI (pc := 100) (As := [.int ((45 : Int32))]) (b := k0) (rest := [.ref (M.2.1 k0)]) o (tX12_isSign _ M _ k0 ((45 : Int32)) S v127 hv127) eX12_isSign mX12_301 clX12 (kX12_isSign hv127) (by decide) rfl rfl (Nat.le_of_ble_eq_true rfl) dX12_goesOn_100 ?_
    refine x_if_eq (pc := 103) (tgt := 110) o dX12_goesOn_103 (by decide) (fun c128 => ?_) (fun c128 => ?_)
    · have h := xit h c128
      refine x_bipush (pc := 110) o dX12_goesOn_110 bp_6 ?_
      refine x_to (l := [(0, .ref (M.2.1 k0))]) ⟨rfl, trivial⟩ ?_
      exact tX12_goesOn_B112 o hnL n k0 k0 ((6 : Int32)) S z hr h
    · have h := xif h c128
      refine x_to (l := [(0, .ref (M.2.1 k0))]) ⟨rfl, trivial⟩ ?_
      exact tX12_goesOn_B106 o hnL n k0 k0 S z hr h
def fX12_goesOn (n : Nat) (k0 : Nat) (S : xSt) : Option (Int32 × xSt) :=
  if tM.1 k0 = 12 then
  ((fX12_lex k0 S).bind fun S1 =>
  (xgI tM 12 8 k0 S1).bind fun v2 =>
  if v2 ≤ 0 then
  ((xgI tM 12 47 k0 S1).bind fun v3 =>
  (some (v3 - ((1 : Int32)))).bind fun v4 =>
  (xgF tM 12 42 k0 S1).bind fun r5 =>
  (xal tM r5 v4 S1).bind fun v6 =>
  (fX12_isTest v6 S1).bind fun v7 =>
  (xgF tM 12 43 k0 S1).bind fun r8 =>
  (xal tM r8 v4 S1).bind fun v9 =>
  if ((2 : Int32)) ≤ v9 then
  (fX12_goesOn_B188 n k0 v4 v6 v7 S1)
else
  ((fX12_isSign k0 ((43 : Int32)) S1).bind fun v101 =>
  if v101 = 0 then
  ((fX12_isSign k0 ((45 : Int32)) S1).bind fun v130 =>
  if v130 = 0 then
  ((fX12_isSign k0 ((42 : Int32)) S1).bind fun v131 =>
  if v131 = 0 then
  ((fX12_isSign k0 ((47 : Int32)) S1).bind fun v132 =>
  if v132 = 0 then
  ((fX12_isSign k0 ((37 : Int32)) S1).bind fun v133 =>
  if v133 = 0 then
  (fX12_goesOn_B188 n k0 v4 v6 v7 S1)
else
  (fX12_goesOn_B87 n k0 S1))
else
  (fX12_goesOn_B87 n k0 S1))
else
  (fX12_goesOn_B87 n k0 S1))
else
  (fX12_goesOn_B87 n k0 S1))
else
  (fX12_goesOn_B87 n k0 S1)))
else
  (some ((0 : Int32), S1)))
  else none
theorem kX12_goesOn {z : Int32 × xSt} {n : Nat} {k0 : Nat} {S : xSt} (h : fX12_goesOn n k0 S = some z) : tM.1 k0 = 12 := by
  unfold fX12_goesOn at h
  exact (xck h).1
set_option maxHeartbeats 4000000 in
theorem tX12_goesOn (l : Launch) (M : xMg) (A : Nat → Prop) (n : Nat) (k0 : Nat) (S : xSt) (z : Int32 × xSt) (h : fX12_goesOn n k0 S = some z) : xMI l yX12_goesOn cX12_goesOn 5 (some .boolean) 3 tM M A [.ref (M.2.1 k0)] S z.1 z.2 := by
  refine x_metI (plainFor_of_name (by decide)) tM_ok (Nat.le_of_ble_eq_true rfl) (fun Γ hA hnL hl hr o => ?_)
  subst hA; subst hl
  have o : xOk Γ tM M 3 cX12_goesOn RX12 := o
  unfold fX12_goesOn at h
  obtain ⟨hk0, h⟩ := xck h
  refine x_to (l := [(0, .ref (M.2.1 k0))]) ⟨rfl, trivial⟩ ?_
  have hn1 : 1 < Γ.2.2.2 := by omega
  have hn2 : 2 < Γ.2.2.2 := by omega
  have hn3 : 3 < Γ.2.2.2 := by omega
  refine x_aload_n (pc := 0) o dX12_goesOn_0 rfl rfl ?_
  obtain ⟨S1, hS1, h⟩ := xbs h
  refine x_callV (pc := 1) (As := []) (b := k0) (rest := []) o (tX12_lex _ M _ k0 S S1 hS1) eX12_lex mX12_298 clX12 (kX12_lex hS1) (by decide) rfl rfl (Nat.le_of_ble_eq_true rfl) dX12_goesOn_1 ?_
  refine x_aload_n (pc := 4) o dX12_goesOn_4 rfl rfl ?_
  obtain ⟨v2, hv2, h⟩ := xbs h
  refine gX12_36 (pc := 5) o dX12_goesOn_5 hv2 ?_
  refine x_if_le (pc := 8) (tgt := 13) o dX12_goesOn_8 (by decide) (fun c140 => ?_) (fun c140 => ?_)
  · have h := xit h c140
    refine x_aload_n (pc := 13) o dX12_goesOn_13 rfl rfl ?_
    obtain ⟨v3, hv3, h⟩ := xbs h
    refine gX12_156 (pc := 14) o dX12_goesOn_14 hv3 ?_
    refine x_iconst (pc := 17) o dX12_goesOn_17 ic_1 ?_
    refine x_isub (pc := 18) o dX12_goesOn_18 ?_
    obtain ⟨v4, hv4, h⟩ := xbs h
    refine x_istore_nE (pc := 19) o dX12_goesOn_19 rfl hn1 hv4 ?_
    refine x_aload_n (pc := 20) o dX12_goesOn_20 rfl rfl ?_
    obtain ⟨r5, hr5, h⟩ := xbs h
    refine gX12_140 (pc := 21) o dX12_goesOn_21 hr5 ?_
    refine x_iload_n (pc := 24) o dX12_goesOn_24 rfl rfl ?_
    obtain ⟨v6, hv6, h⟩ := xbs h
    refine x_iaload (pc := 25) o dX12_goesOn_25 hv6 ?_
    refine x_istore_n (pc := 26) o dX12_goesOn_26 rfl hn2 ?_
    refine x_iload_n (pc := 27) o dX12_goesOn_27 rfl rfl ?_
    obtain ⟨v7, hv7, h⟩ := xbs h
    refine x_statI (pc := 28) (As := [.int v6]) (rest := []) o (tX12_isTest _ M _ v6 S1 v7 hv7) eX12_isTest mX12_392 (by decide) rfl rfl (Nat.le_of_ble_eq_true rfl) dX12_goesOn_28 ?_
    refine x_istore_n (pc := 31) o dX12_goesOn_31 rfl hn3 ?_
    refine x_aload_n (pc := 32) o dX12_goesOn_32 rfl rfl ?_
    obtain ⟨r8, hr8, h⟩ := xbs h
    refine gX12_143 (pc := 33) o dX12_goesOn_33 hr8 ?_
    refine x_iload_n (pc := 36) o dX12_goesOn_36 rfl rfl ?_
    obtain ⟨v9, hv9, h⟩ := xbs h
    refine x_iaload (pc := 37) o dX12_goesOn_37 hv9 ?_
    refine x_iconst (pc := 38) o dX12_goesOn_38 ic_2 ?_
    refine x_icmp_ge (pc := 39) (tgt := 188) o dX12_goesOn_39 (by decide) (fun c139 => ?_) (fun c139 => ?_)
    · have h := xit h c139
      refine x_to (l := [(0, .ref (M.2.1 k0)), (1, .int v4), (2, .int v6), (3, .int v7)]) ⟨rfl, rfl, rfl, rfl, trivial⟩ ?_
      exact tX12_goesOn_B188 o hnL n k0 v4 v6 v7 S1 z hr h
    · have h := xif h c139
      refine x_aload_n (pc := 42) o dX12_goesOn_42 rfl rfl ?_
      refine x_bipush (pc := 43) o dX12_goesOn_43 bp_43 ?_
      obtain ⟨v101, hv101, h⟩ := xbs h
      refine x_callI (pc := 45) (As := [.int ((43 : Int32))]) (b := k0) (rest := []) o (tX12_isSign _ M _ k0 ((43 : Int32)) S1 v101 hv101) eX12_isSign mX12_301 clX12 (kX12_isSign hv101) (by decide) rfl rfl (Nat.le_of_ble_eq_true rfl) dX12_goesOn_45 ?_
      refine x_if_ne (pc := 48) (tgt := 87) o dX12_goesOn_48 (by decide) (fun c138 => ?_) (fun c138 => ?_)
      · have h := xif h c138
        refine x_to (l := [(0, .ref (M.2.1 k0))]) ⟨rfl, trivial⟩ ?_
        exact tX12_goesOn_B87 o hnL n k0 S1 z hr h
      · have h := xit h c138
        refine x_aload_n (pc := 51) o dX12_goesOn_51 rfl rfl ?_
        refine x_bipush (pc := 52) o dX12_goesOn_52 bp_45 ?_
        obtain ⟨v130, hv130, h⟩ := xbs h
        refine x_callI (pc := 54) (As := [.int ((45 : Int32))]) (b := k0) (rest := []) o (tX12_isSign _ M _ k0 ((45 : Int32)) S1 v130 hv130) eX12_isSign mX12_301 clX12 (kX12_isSign hv130) (by decide) rfl rfl (Nat.le_of_ble_eq_true rfl) dX12_goesOn_54 ?_
        refine x_if_ne (pc := 57) (tgt := 87) o dX12_goesOn_57 (by decide) (fun c137 => ?_) (fun c137 => ?_)
        · have h := xif h c137
          refine x_to (l := [(0, .ref (M.2.1 k0))]) ⟨rfl, trivial⟩ ?_
          exact tX12_goesOn_B87 o hnL n k0 S1 z hr h
        · have h := xit h c137
          refine x_aload_n (pc := 60) o dX12_goesOn_60 rfl rfl ?_
          refine x_bipush (pc := 61) o dX12_goesOn_61 bp_42 ?_
          obtain ⟨v131, hv131, h⟩ := xbs h
          refine x_callI (pc := 63) (As := [.int ((42 : Int32))]) (b := k0) (rest := []) o (tX12_isSign _ M _ k0 ((42 : Int32)) S1 v131 hv131) eX12_isSign mX12_301 clX12 (kX12_isSign hv131) (by decide) rfl rfl (Nat.le_of_ble_eq_true rfl) dX12_goesOn_63 ?_
          refine x_if_ne (pc := 66) (tgt := 87) o dX12_goesOn_66 (by decide) (fun c136 => ?_) (fun c136 => ?_)
          · have h := xif h c136
            refine x_to (l := [(0, .ref (M.2.1 k0))]) ⟨rfl, trivial⟩ ?_
            exact tX12_goesOn_B87 o hnL n k0 S1 z hr h
          · have h := xit h c136
            refine x_aload_n (pc := 69) o dX12_goesOn_69 rfl rfl ?_
            refine x_bipush (pc := 70) o dX12_goesOn_70 bp_47 ?_
            obtain ⟨v132, hv132, h⟩ := xbs h
            refine x_callI (pc := 72) (As := [.int ((47 : Int32))]) (b := k0) (rest := []) o (tX12_isSign _ M _ k0 ((47 : Int32)) S1 v132 hv132) eX12_isSign mX12_301 clX12 (kX12_isSign hv132) (by decide) rfl rfl (Nat.le_of_ble_eq_true rfl) dX12_goesOn_72 ?_
            refine x_if_ne (pc := 75) (tgt := 87) o dX12_goesOn_75 (by decide) (fun c135 => ?_) (fun c135 => ?_)
            · have h := xif h c135
              refine x_to (l := [(0, .ref (M.2.1 k0))]) ⟨rfl, trivial⟩ ?_
              exact tX12_goesOn_B87 o hnL n k0 S1 z hr h
            · have h := xit h c135
              refine x_aload_n (pc := 78) o dX12_goesOn_78 rfl rfl ?_
              refine x_bipush (pc := 79) o dX12_goesOn_79 bp_37 ?_
              obtain ⟨v133, hv133, h⟩ := xbs h
              refine x_callI (pc := 81) (As := [.int ((37 : Int32))]) (b := k0) (rest := []) o (tX12_isSign _ M _ k0 ((37 : Int32)) S1 v133 hv133) eX12_isSign mX12_301 clX12 (kX12_isSign hv133) (by decide) rfl rfl (Nat.le_of_ble_eq_true rfl) dX12_goesOn_81 ?_
              refine x_if_eq (pc := 84) (tgt := 188) o dX12_goesOn_84 (by decide) (fun c134 => ?_) (fun c134 => ?_)
              · have h := xit h c134
                refine x_to (l := [(0, .ref (M.2.1 k0)), (1, .int v4), (2, .int v6), (3, .int v7)]) ⟨rfl, rfl, rfl, rfl, trivial⟩ ?_
                exact tX12_goesOn_B188 o hnL n k0 v4 v6 v7 S1 z hr h
              · have h := xif h c134
                refine x_to (l := [(0, .ref (M.2.1 k0))]) ⟨rfl, trivial⟩ ?_
                exact tX12_goesOn_B87 o hnL n k0 S1 z hr h
  · have h := xif h c140
    refine x_iconst (pc := 11) o dX12_goesOn_11 ic_0 ?_
    exact x_zreturn (pc := 12) o hr dX12_goesOn_12 (by decide) (xr1 h) (xr2 h)
def fX12_reads_B70_43 (n : Nat) (rec : Int32 → xSt → Option (xSt)) (k0 : Nat) (a2 : Int32) (S : xSt) : Option (xSt) :=
  if a2 = 0 then
  (rec ((0 : Int32)) S)
else
  ((xgI tM 12 8 k0 S).bind fun v9 =>
  if v9 = 0 then
  (rec ((1 : Int32)) S)
else
  (rec ((0 : Int32)) S))
set_option maxHeartbeats 4000000 in
theorem tX12_reads_B70_43 {Γ : xGm} {M : xMg} (o : xOk Γ tM M 5 cX12_reads RX12) (hnL : Γ.2.2.2 = 3) {rec : Int32 → xSt → Option (xSt)} (n : Nat) (k0 : Nat) (a2 : Int32) (S : xSt) (z : (xSt)) (hrec : ∀ (a2 : Int32) (S : xSt), rec a2 S = some z → xAt Γ tM M 43 (xlv [(0, .ref (M.2.1 k0)), (2, .int a2)]) [] S) (K : xAt Γ tM M 90 (xlv []) [] z) (h : fX12_reads_B70_43 n rec k0 a2 S = some z) : xAt Γ tM M 70 (xlv [(0, .ref (M.2.1 k0)), (2, .int a2)]) [] S := by
  have hn2 : 2 < Γ.2.2.2 := by omega
  unfold fX12_reads_B70_43 at h
  refine x_iload_n (pc := 70) o dX12_reads_70 rfl rfl ?_
  refine x_if_eq (pc := 71) (tgt := 85) o dX12_reads_71 (by decide) (fun c11 => ?_) (fun c11 => ?_)
  · have h := xit h c11
    refine x_iconst (pc := 85) o dX12_reads_85 ic_0 ?_
    refine x_istore_n (pc := 86) o dX12_reads_86 rfl hn2 ?_
    refine x_goto (pc := 87) (tgt := 43) o dX12_reads_87 (by decide) ?_
    refine x_to (l := [(0, .ref (M.2.1 k0)), (2, .int ((0 : Int32)))]) ⟨rfl, rfl, trivial⟩ ?_
    exact hrec ((0 : Int32)) S h
  · have h := xif h c11
    refine x_aload_n (pc := 74) o dX12_reads_74 rfl rfl ?_
    obtain ⟨v9, hv9, h⟩ := xbs h
    refine gX12_36 (pc := 75) o dX12_reads_75 hv9 ?_
    refine x_if_ne (pc := 78) (tgt := 85) o dX12_reads_78 (by decide) (fun c10 => ?_) (fun c10 => ?_)
    · have h := xif h c10
      refine x_iconst (pc := 85) o dX12_reads_85 ic_0 ?_
      refine x_istore_n (pc := 86) o dX12_reads_86 rfl hn2 ?_
      refine x_goto (pc := 87) (tgt := 43) o dX12_reads_87 (by decide) ?_
      refine x_to (l := [(0, .ref (M.2.1 k0)), (2, .int ((0 : Int32)))]) ⟨rfl, rfl, trivial⟩ ?_
      exact hrec ((0 : Int32)) S h
    · have h := xit h c10
      refine x_iconst (pc := 81) o dX12_reads_81 ic_1 ?_
      refine x_goto (pc := 82) (tgt := 86) o dX12_reads_82 (by decide) ?_
      refine x_istore_n (pc := 86) o dX12_reads_86 rfl hn2 ?_
      refine x_goto (pc := 87) (tgt := 43) o dX12_reads_87 (by decide) ?_
      refine x_to (l := [(0, .ref (M.2.1 k0)), (2, .int ((1 : Int32)))]) ⟨rfl, rfl, trivial⟩ ?_
      exact hrec ((1 : Int32)) S h
def fX12_reads_L43b (n : Nat) (k0 : Nat) (rec : Int32 → xSt → Option (xSt)) (a2 : Int32) (S : xSt) : Option (xSt) :=
  if a2 = 0 then
  (some S)
else
  ((xgI tM 12 51 k0 S).bind fun v7 =>
  if v7 = 0 then
  ((fX12_operand n k0 S).bind fun q12 =>
  (xpZ tM 12 51 k0 q12.1 q12.2).bind fun S13 =>
  fX12_reads_B70_43 n rec k0 a2 S13)
else
  ((fX12_goesOn n k0 S).bind fun q8 =>
  fX12_reads_B70_43 n rec k0 q8.1 q8.2))
def fX12_reads_L43 (n : Nat) (k0 : Nat) : Nat → Int32 → xSt → Option (xSt)
  | 0 => fun _ _ => none
  | q + 1 => fX12_reads_L43b n k0 (fX12_reads_L43 n k0 q)
set_option maxHeartbeats 4000000 in
theorem tX12_reads_L43b {Γ : xGm} {M : xMg} (o : xOk Γ tM M 5 cX12_reads RX12) (hnL : Γ.2.2.2 = 3) {rec : Int32 → xSt → Option (xSt)} (n : Nat) (k0 : Nat) (a2 : Int32) (S : xSt) (z : (xSt)) (hrec : ∀ (a2 : Int32) (S : xSt), rec a2 S = some z → xAt Γ tM M 43 (xlv [(0, .ref (M.2.1 k0)), (2, .int a2)]) [] S) (K : xAt Γ tM M 90 (xlv []) [] z) (h : fX12_reads_L43b n k0 rec a2 S = some z) : xAt Γ tM M 43 (xlv [(0, .ref (M.2.1 k0)), (2, .int a2)]) [] S := by
  have hn2 : 2 < Γ.2.2.2 := by omega
  unfold fX12_reads_L43b at h
  refine x_iload_n (pc := 43) o dX12_reads_43 rfl rfl ?_
  refine x_if_eq (pc := 44) (tgt := 90) o dX12_reads_44 (by decide) (fun c15 => ?_) (fun c15 => ?_)
  · have h := xit h c15
    refine x_to (l := []) trivial ?_
    cases Option.some.inj h
    exact K
  · have h := xif h c15
    refine x_aload_n (pc := 47) o dX12_reads_47 rfl rfl ?_
    obtain ⟨v7, hv7, h⟩ := xbs h
    refine gX12_168 (pc := 48) o dX12_reads_48 hv7 ?_
    refine x_if_ne (pc := 51) (tgt := 65) o dX12_reads_51 (by decide) (fun c14 => ?_) (fun c14 => ?_)
    · have h := xif h c14
      refine x_aload_n (pc := 65) o dX12_reads_65 rfl rfl ?_
      obtain ⟨q8, hq8, h⟩ := xbs h
      refine x_callI (pc := 66) (As := []) (b := k0) (rest := []) o (tX12_goesOn _ M _ n k0 S q8 hq8) eX12_goesOn mX12_411 clX12 (kX12_goesOn hq8) (by decide) rfl rfl (Nat.le_of_ble_eq_true rfl) dX12_reads_66 ?_
      refine x_istore_n (pc := 69) o dX12_reads_69 rfl hn2 ?_
      refine x_to (l := [(0, .ref (M.2.1 k0)), (2, .int q8.1)]) ⟨rfl, rfl, trivial⟩ ?_
      exact tX12_reads_B70_43 o hnL n k0 q8.1 q8.2 z hrec K  h
    · have h := xit h c14
      refine x_aload_n (pc := 54) o dX12_reads_54 rfl rfl ?_
      refine x_aload_n (pc := 55) o dX12_reads_55 rfl rfl ?_
      obtain ⟨q12, hq12, h⟩ := xbs h
      refine x_callI (pc := 56) (As := []) (b := k0) (rest := [.ref (M.2.1 k0)]) o (tX12_operand _ M _ n k0 S q12 hq12) eX12_operand mX12_408 clX12 (kX12_operand hq12) (by decide) rfl rfl (Nat.le_of_ble_eq_true rfl) dX12_reads_56 ?_
      obtain ⟨S13, hS13, h⟩ := xbs h
      refine pX12_168 (pc := 59) o dX12_reads_59 hS13 ?_
      refine x_goto (pc := 62) (tgt := 70) o dX12_reads_62 (by decide) ?_
      refine x_to (l := [(0, .ref (M.2.1 k0)), (2, .int a2)]) ⟨rfl, rfl, trivial⟩ ?_
      exact tX12_reads_B70_43 o hnL n k0 a2 S13 z hrec K  h
theorem tX12_reads_L43 {Γ : xGm} {M : xMg} (o : xOk Γ tM M 5 cX12_reads RX12) (hnL : Γ.2.2.2 = 3) (n : Nat) (k0 : Nat) (z : (xSt)) (K : xAt Γ tM M 90 (xlv []) [] z) : ∀ (q : Nat) (a2 : Int32) (S : xSt), fX12_reads_L43 n k0 q a2 S = some z → xAt Γ tM M 43 (xlv [(0, .ref (M.2.1 k0)), (2, .int a2)]) [] S := by
  intro q
  induction q with
  | zero => intro a2 S h; cases h
  | succ q ih => intro a2 S h; exact tX12_reads_L43b o hnL n k0 a2 S z ih K h
def fX12_reads_B38 (n : Nat) (k0 : Nat) (s0 : Nat) (s1 : Int32) (S : xSt) : Option (xSt) :=
  (fX12_pushes s0 s1 S).bind fun S6 =>
  (fX12_reads_L43 n k0 n ((1 : Int32)) S6).bind fun z16 => some z16
set_option maxHeartbeats 4000000 in
theorem tX12_reads_B38 {Γ : xGm} {M : xMg} (o : xOk Γ tM M 5 cX12_reads RX12) (hnL : Γ.2.2.2 = 3) (n : Nat) (k0 : Nat) (s0 : Nat) (s1 : Int32) (S : xSt) (z : (xSt)) (hr : xRV Γ tM M none z) (h : fX12_reads_B38 n k0 s0 s1 S = some z) : xAt Γ tM M 38 (xlv [(0, .ref (M.2.1 k0))]) [.int s1, .ref (M.2.1 s0)] S := by
  have hn2 : 2 < Γ.2.2.2 := by omega
  unfold fX12_reads_B38 at h
  obtain ⟨S6, hS6, h⟩ := xbs h
  refine x_callV (pc := 38) (As := [.int s1]) (b := s0) (rest := []) o (tX12_pushes _ M _ s0 s1 S S6 hS6) eX12_pushes mX12_389 clX12 (kX12_pushes hS6) (by decide) rfl rfl (Nat.le_of_ble_eq_true rfl) dX12_reads_38 ?_
  refine x_iconst (pc := 41) o dX12_reads_41 ic_1 ?_
  refine x_istore_n (pc := 42) o dX12_reads_42 rfl hn2 ?_
  obtain ⟨z16, hz16, h⟩ := xbs h
  refine x_to (l := [(0, .ref (M.2.1 k0)), (2, .int ((1 : Int32)))]) ⟨rfl, rfl, trivial⟩ ?_
  refine tX12_reads_L43 o hnL n k0 z16 ?_ n ((1 : Int32)) S6 hz16
  exact x_vreturn (pc := 90) o hr dX12_reads_90 (Option.some.inj h)
def fX12_reads (n : Nat) (k0 : Nat) (a1 : Int32) (S : xSt) : Option (xSt) :=
  if tM.1 k0 = 12 then
  ((xgI tM 12 8 k0 S).bind fun v1 =>
  if v1 ≤ 0 then
  ((xpI tM 12 47 k0 ((0 : Int32)) S).bind fun S2 =>
  (xpI tM 12 48 k0 ((0 : Int32)) S2).bind fun S3 =>
  (xpI tM 12 50 k0 ((0 : Int32)) S3).bind fun S4 =>
  (xpZ tM 12 51 k0 ((0 : Int32)) S4).bind fun S5 =>
  if a1 = 0 then
  (fX12_reads_B38 n k0 k0 ((0 : Int32)) S5)
else
  (fX12_reads_B38 n k0 k0 ((1 : Int32)) S5))
else
  (some S))
  else none
theorem kX12_reads {z : xSt} {n : Nat} {k0 : Nat} {a1 : Int32} {S : xSt} (h : fX12_reads n k0 a1 S = some z) : tM.1 k0 = 12 := by
  unfold fX12_reads at h
  exact (xck h).1
set_option maxHeartbeats 4000000 in
theorem tX12_reads (l : Launch) (M : xMg) (A : Nat → Prop) (n : Nat) (k0 : Nat) (a1 : Int32) (S : xSt) (z : xSt) (h : fX12_reads n k0 a1 S = some z) : xMV l yX12_reads cX12_reads 3 none 5 tM M A [.ref (M.2.1 k0), .int a1] S z := by
  refine x_metV (plainFor_of_name (by decide)) tM_ok (Nat.le_of_ble_eq_true rfl) (fun Γ hA hnL hl hr o => ?_)
  subst hA; subst hl
  have o : xOk Γ tM M 5 cX12_reads RX12 := o
  unfold fX12_reads at h
  obtain ⟨hk0, h⟩ := xck h
  refine x_to (l := [(0, .ref (M.2.1 k0)), (1, .int a1)]) ⟨rfl, rfl, trivial⟩ ?_
  refine x_aload_n (pc := 0) o dX12_reads_0 rfl rfl ?_
  obtain ⟨v1, hv1, h⟩ := xbs h
  refine gX12_36 (pc := 1) o dX12_reads_1 hv1 ?_
  refine x_if_le (pc := 4) (tgt := 8) o dX12_reads_4 (by decide) (fun c18 => ?_) (fun c18 => ?_)
  · have h := xit h c18
    refine x_aload_n (pc := 8) o dX12_reads_8 rfl rfl ?_
    refine x_iconst (pc := 9) o dX12_reads_9 ic_0 ?_
    obtain ⟨S2, hS2, h⟩ := xbs h
    refine pX12_156 (pc := 10) o dX12_reads_10 hS2 ?_
    refine x_aload_n (pc := 13) o dX12_reads_13 rfl rfl ?_
    refine x_iconst (pc := 14) o dX12_reads_14 ic_0 ?_
    obtain ⟨S3, hS3, h⟩ := xbs h
    refine pX12_159 (pc := 15) o dX12_reads_15 hS3 ?_
    refine x_aload_n (pc := 18) o dX12_reads_18 rfl rfl ?_
    refine x_iconst (pc := 19) o dX12_reads_19 ic_0 ?_
    obtain ⟨S4, hS4, h⟩ := xbs h
    refine pX12_165 (pc := 20) o dX12_reads_20 hS4 ?_
    refine x_aload_n (pc := 23) o dX12_reads_23 rfl rfl ?_
    refine x_iconst (pc := 24) o dX12_reads_24 ic_0 ?_
    obtain ⟨S5, hS5, h⟩ := xbs h
    refine pX12_168 (pc := 25) o dX12_reads_25 hS5 ?_
    refine x_aload_n (pc := 28) o dX12_reads_28 rfl rfl ?_
    refine x_iload_n (pc := 29) o dX12_reads_29 rfl rfl ?_
    refine x_if_eq (pc := 30) (tgt := 37) o dX12_reads_30 (by decide) (fun c17 => ?_) (fun c17 => ?_)
    · have h := xit h c17
      refine x_iconst (pc := 37) o dX12_reads_37 ic_0 ?_
      refine x_to (l := [(0, .ref (M.2.1 k0))]) ⟨rfl, trivial⟩ ?_
      exact tX12_reads_B38 o hnL n k0 k0 ((0 : Int32)) S5 z hr h
    · have h := xif h c17
      refine x_iconst (pc := 33) o dX12_reads_33 ic_1 ?_
      refine x_goto (pc := 34) (tgt := 38) o dX12_reads_34 (by decide) ?_
      refine x_to (l := [(0, .ref (M.2.1 k0))]) ⟨rfl, trivial⟩ ?_
      exact tX12_reads_B38 o hnL n k0 k0 ((1 : Int32)) S5 z hr h
  · have h := xif h c18
    exact x_vreturn (pc := 7) o hr dX12_reads_7 (Option.some.inj h)
def fX12_counts_B21 (n : Nat) (k0 : Nat) (S : xSt) : Option (Int32 × xSt) :=
  (xgI tM 12 8 k0 S).bind fun v2 =>
  if v2 = 0 then
  ((fX12_ahead n k0 S).bind fun S5 =>
  (xgI tM 12 8 k0 S5).bind fun v6 =>
  if v6 = 0 then
  (some ((1 : Int32), S5))
else
  (some ((0 : Int32), S5)))
else
  ((xgI tM 12 8 k0 S).bind fun v3 =>
  if v3 = 0 then
  (some ((1 : Int32), S))
else
  (some ((0 : Int32), S)))
set_option maxHeartbeats 4000000 in
theorem tX12_counts_B21 {Γ : xGm} {M : xMg} (o : xOk Γ tM M 3 cX12_counts RX12) (hnL : Γ.2.2.2 = 2) (n : Nat) (k0 : Nat) (S : xSt) (z : (Int32 × xSt)) (hr : xRI Γ tM M (some .boolean) z.1 z.2) (h : fX12_counts_B21 n k0 S = some z) : xAt Γ tM M 21 (xlv [(0, .ref (M.2.1 k0))]) [] S := by
  unfold fX12_counts_B21 at h
  refine x_aload_n (pc := 21) o dX12_counts_21 rfl rfl ?_
  obtain ⟨v2, hv2, h⟩ := xbs h
  refine gX12_36 (pc := 22) o dX12_counts_22 hv2 ?_
  refine x_if_ne (pc := 25) (tgt := 32) o dX12_counts_25 (by decide) (fun c8 => ?_) (fun c8 => ?_)
  · have h := xif h c8
    refine x_aload_n (pc := 32) o dX12_counts_32 rfl rfl ?_
    obtain ⟨v3, hv3, h⟩ := xbs h
    refine gX12_36 (pc := 33) o dX12_counts_33 hv3 ?_
    refine x_if_ne (pc := 36) (tgt := 43) o dX12_counts_36 (by decide) (fun c4 => ?_) (fun c4 => ?_)
    · have h := xif h c4
      refine x_iconst (pc := 43) o dX12_counts_43 ic_0 ?_
      exact x_zreturn (pc := 44) o hr dX12_counts_44 (by decide) (xr1 h) (xr2 h)
    · have h := xit h c4
      refine x_iconst (pc := 39) o dX12_counts_39 ic_1 ?_
      refine x_goto (pc := 40) (tgt := 44) o dX12_counts_40 (by decide) ?_
      exact x_zreturn (pc := 44) o hr dX12_counts_44 (by decide) (xr1 h) (xr2 h)
  · have h := xit h c8
    refine x_aload_n (pc := 28) o dX12_counts_28 rfl rfl ?_
    obtain ⟨S5, hS5, h⟩ := xbs h
    refine x_callV (pc := 29) (As := []) (b := k0) (rest := []) o (tX12_ahead _ M _ n k0 S S5 hS5) eX12_ahead mX12_304 clX12 (kX12_ahead hS5) (by decide) rfl rfl (Nat.le_of_ble_eq_true rfl) dX12_counts_29 ?_
    refine x_aload_n (pc := 32) o dX12_counts_32 rfl rfl ?_
    obtain ⟨v6, hv6, h⟩ := xbs h
    refine gX12_36 (pc := 33) o dX12_counts_33 hv6 ?_
    refine x_if_ne (pc := 36) (tgt := 43) o dX12_counts_36 (by decide) (fun c7 => ?_) (fun c7 => ?_)
    · have h := xif h c7
      refine x_iconst (pc := 43) o dX12_counts_43 ic_0 ?_
      exact x_zreturn (pc := 44) o hr dX12_counts_44 (by decide) (xr1 h) (xr2 h)
    · have h := xit h c7
      refine x_iconst (pc := 39) o dX12_counts_39 ic_1 ?_
      refine x_goto (pc := 40) (tgt := 44) o dX12_counts_40 (by decide) ?_
      exact x_zreturn (pc := 44) o hr dX12_counts_44 (by decide) (xr1 h) (xr2 h)
def fX12_counts (n : Nat) (k0 : Nat) (a1 : Int32) (S : xSt) : Option (Int32 × xSt) :=
  if tM.1 k0 = 12 then
  ((xgI tM 12 8 k0 S).bind fun v1 =>
  if v1 = 0 then
  (if a1 = 0 then
  (fX12_counts_B21 n k0 S)
else
  ((xgI tM 12 4 k0 S).bind fun v9 =>
  (fX12_blame k0 ((6 : Int32)) v9 S).bind fun S10 =>
  fX12_counts_B21 n k0 S10))
else
  (fX12_counts_B21 n k0 S))
  else none
theorem kX12_counts {z : Int32 × xSt} {n : Nat} {k0 : Nat} {a1 : Int32} {S : xSt} (h : fX12_counts n k0 a1 S = some z) : tM.1 k0 = 12 := by
  unfold fX12_counts at h
  exact (xck h).1
set_option maxHeartbeats 4000000 in
theorem tX12_counts (l : Launch) (M : xMg) (A : Nat → Prop) (n : Nat) (k0 : Nat) (a1 : Int32) (S : xSt) (z : Int32 × xSt) (h : fX12_counts n k0 a1 S = some z) : xMI l yX12_counts cX12_counts 2 (some .boolean) 3 tM M A [.ref (M.2.1 k0), .int a1] S z.1 z.2 := by
  refine x_metI (plainFor_of_name (by decide)) tM_ok (Nat.le_of_ble_eq_true rfl) (fun Γ hA hnL hl hr o => ?_)
  subst hA; subst hl
  have o : xOk Γ tM M 3 cX12_counts RX12 := o
  unfold fX12_counts at h
  obtain ⟨hk0, h⟩ := xck h
  refine x_to (l := [(0, .ref (M.2.1 k0)), (1, .int a1)]) ⟨rfl, rfl, trivial⟩ ?_
  refine x_aload_n (pc := 0) o dX12_counts_0 rfl rfl ?_
  obtain ⟨v1, hv1, h⟩ := xbs h
  refine gX12_36 (pc := 1) o dX12_counts_1 hv1 ?_
  refine x_if_ne (pc := 4) (tgt := 21) o dX12_counts_4 (by decide) (fun c12 => ?_) (fun c12 => ?_)
  · have h := xif h c12
    refine x_to (l := [(0, .ref (M.2.1 k0))]) ⟨rfl, trivial⟩ ?_
    exact tX12_counts_B21 o hnL n k0 S z hr h
  · have h := xit h c12
    refine x_iload_n (pc := 7) o dX12_counts_7 rfl rfl ?_
    refine x_if_eq (pc := 8) (tgt := 21) o dX12_counts_8 (by decide) (fun c11 => ?_) (fun c11 => ?_)
    · have h := xit h c11
      refine x_to (l := [(0, .ref (M.2.1 k0))]) ⟨rfl, trivial⟩ ?_
      exact tX12_counts_B21 o hnL n k0 S z hr h
    · have h := xif h c11
      refine x_aload_n (pc := 11) o dX12_counts_11 rfl rfl ?_
      refine x_bipush (pc := 12) o dX12_counts_12 bp_6 ?_
      refine x_aload_n (pc := 14) o dX12_counts_14 rfl rfl ?_
      obtain ⟨v9, hv9, h⟩ := xbs h
      refine gX12_23 (pc := 15) o dX12_counts_15 hv9 ?_
      obtain ⟨S10, hS10, h⟩ := xbs h
      refine x_callV (pc := 18) (As := [.int ((6 : Int32)), .int v9]) (b := k0) (rest := []) o (tX12_blame _ M _ k0 ((6 : Int32)) v9 S S10 hS10) eX12_blame mX12_287 clX12 (kX12_blame hS10) (by decide) rfl rfl (Nat.le_of_ble_eq_true rfl) dX12_counts_18 ?_
      refine x_to (l := [(0, .ref (M.2.1 k0))]) ⟨rfl, trivial⟩ ?_
      exact tX12_counts_B21 o hnL n k0 S10 z hr h
def fX12_must_ (n : Nat) (k0 : Nat) (b1 : Int64) (S : xSt) : Option (xSt) :=
  if tM.1 k0 = 12 then
  ((fX12_lex k0 S).bind fun S1 =>
  (xgI tM 12 8 k0 S1).bind fun v2 =>
  if v2 ≤ 0 then
  ((fX12_isWord k0 b1 S1).bind fun v3 =>
  if v3 = 0 then
  ((xgI tM 12 4 k0 S1).bind fun v7 =>
  (fX12_blame k0 ((1 : Int32)) v7 S1).bind fun S8 =>
  (xgI tM 12 8 k0 S8).bind fun v9 =>
  if v9 = 0 then
  ((fX12_ahead n k0 S8).bind fun S10 =>
  some S10)
else
  (some S8))
else
  ((xgI tM 12 8 k0 S1).bind fun v4 =>
  if v4 = 0 then
  ((fX12_ahead n k0 S1).bind fun S5 =>
  some S5)
else
  (some S1)))
else
  (some S1))
  else none
theorem kX12_must_ {z : xSt} {n : Nat} {k0 : Nat} {b1 : Int64} {S : xSt} (h : fX12_must_ n k0 b1 S = some z) : tM.1 k0 = 12 := by
  unfold fX12_must_ at h
  exact (xck h).1
set_option maxHeartbeats 4000000 in
theorem tX12_must_ (l : Launch) (M : xMg) (A : Nat → Prop) (n : Nat) (k0 : Nat) (b1 : Int64) (S : xSt) (z : xSt) (h : fX12_must_ n k0 b1 S = some z) : xMV l yX12_must_ cX12_must_ 3 none 3 tM M A [.ref (M.2.1 k0), .long b1] S z := by
  refine x_metV (plainFor_of_name (by decide)) tM_ok (Nat.le_of_ble_eq_true rfl) (fun Γ hA hnL hl hr o => ?_)
  subst hA; subst hl
  have o : xOk Γ tM M 3 cX12_must_ RX12 := o
  unfold fX12_must_ at h
  obtain ⟨hk0, h⟩ := xck h
  refine x_to (l := [(0, .ref (M.2.1 k0)), (1, .long b1)]) ⟨rfl, rfl, trivial⟩ ?_
  refine x_aload_n (pc := 0) o dX12_must__0 rfl rfl ?_
  obtain ⟨S1, hS1, h⟩ := xbs h
  refine x_callV (pc := 1) (As := []) (b := k0) (rest := []) o (tX12_lex _ M _ k0 S S1 hS1) eX12_lex mX12_298 clX12 (kX12_lex hS1) (by decide) rfl rfl (Nat.le_of_ble_eq_true rfl) dX12_must__1 ?_
  refine x_aload_n (pc := 4) o dX12_must__4 rfl rfl ?_
  obtain ⟨v2, hv2, h⟩ := xbs h
  refine gX12_36 (pc := 5) o dX12_must__5 hv2 ?_
  refine x_if_le (pc := 8) (tgt := 12) o dX12_must__8 (by decide) (fun c13 => ?_) (fun c13 => ?_)
  · have h := xit h c13
    refine x_aload_n (pc := 12) o dX12_must__12 rfl rfl ?_
    refine x_lload_n (pc := 13) o dX12_must__13 rfl rfl ?_
    obtain ⟨v3, hv3, h⟩ := xbs h
    refine x_callI (pc := 14) (As := [.long b1]) (b := k0) (rest := []) o (tX12_isWord _ M _ k0 b1 S1 v3 hv3) eX12_isWord mX12_395 clX12 (kX12_isWord hv3) (by decide) rfl rfl (Nat.le_of_ble_eq_true rfl) dX12_must__14 ?_
    refine x_if_ne (pc := 17) (tgt := 29) o dX12_must__17 (by decide) (fun c12 => ?_) (fun c12 => ?_)
    · have h := xif h c12
      refine x_aload_n (pc := 29) o dX12_must__29 rfl rfl ?_
      obtain ⟨v4, hv4, h⟩ := xbs h
      refine gX12_36 (pc := 30) o dX12_must__30 hv4 ?_
      refine x_if_ne (pc := 33) (tgt := 40) o dX12_must__33 (by decide) (fun c6 => ?_) (fun c6 => ?_)
      · have h := xif h c6
        exact x_vreturn (pc := 40) o hr dX12_must__40 (Option.some.inj h)
      · have h := xit h c6
        refine x_aload_n (pc := 36) o dX12_must__36 rfl rfl ?_
        obtain ⟨S5, hS5, h⟩ := xbs h
        refine x_callV (pc := 37) (As := []) (b := k0) (rest := []) o (tX12_ahead _ M _ n k0 S1 S5 hS5) eX12_ahead mX12_304 clX12 (kX12_ahead hS5) (by decide) rfl rfl (Nat.le_of_ble_eq_true rfl) dX12_must__37 ?_
        exact x_vreturn (pc := 40) o hr dX12_must__40 (Option.some.inj h)
    · have h := xit h c12
      refine x_aload_n (pc := 20) o dX12_must__20 rfl rfl ?_
      refine x_iconst (pc := 21) o dX12_must__21 ic_1 ?_
      refine x_aload_n (pc := 22) o dX12_must__22 rfl rfl ?_
      obtain ⟨v7, hv7, h⟩ := xbs h
      refine gX12_23 (pc := 23) o dX12_must__23 hv7 ?_
      obtain ⟨S8, hS8, h⟩ := xbs h
      refine x_callV (pc := 26) (As := [.int ((1 : Int32)), .int v7]) (b := k0) (rest := []) o (tX12_blame _ M _ k0 ((1 : Int32)) v7 S1 S8 hS8) eX12_blame mX12_287 clX12 (kX12_blame hS8) (by decide) rfl rfl (Nat.le_of_ble_eq_true rfl) dX12_must__26 ?_
      refine x_aload_n (pc := 29) o dX12_must__29 rfl rfl ?_
      obtain ⟨v9, hv9, h⟩ := xbs h
      refine gX12_36 (pc := 30) o dX12_must__30 hv9 ?_
      refine x_if_ne (pc := 33) (tgt := 40) o dX12_must__33 (by decide) (fun c11 => ?_) (fun c11 => ?_)
      · have h := xif h c11
        exact x_vreturn (pc := 40) o hr dX12_must__40 (Option.some.inj h)
      · have h := xit h c11
        refine x_aload_n (pc := 36) o dX12_must__36 rfl rfl ?_
        obtain ⟨S10, hS10, h⟩ := xbs h
        refine x_callV (pc := 37) (As := []) (b := k0) (rest := []) o (tX12_ahead _ M _ n k0 S8 S10 hS10) eX12_ahead mX12_304 clX12 (kX12_ahead hS10) (by decide) rfl rfl (Nat.le_of_ble_eq_true rfl) dX12_must__37 ?_
        exact x_vreturn (pc := 40) o hr dX12_must__40 (Option.some.inj h)
  · have h := xif h c13
    exact x_vreturn (pc := 11) o hr dX12_must__11 (Option.some.inj h)
def fX12_fresh_L43b (n : Nat) (k0 : Nat) (rec : Int32 → xSt → Option (xSt)) (a1 : Int32) (S : xSt) : Option (xSt) :=
  if ((3 : Int32)) < a1 then
  (some S)
else
  ((xgI tM 12 8 k0 S).bind fun v6 =>
  if v6 = 0 then
  ((xgL tM 12 7 k0 S).bind fun v7 =>
  (fX12_named n k0 a1 v7 S).bind fun v8 =>
  if v8 = ((-1 : Int32)) then
  ((some (a1 + (1 : Int32))).bind fun v9 =>
  rec v9 S)
else
  ((xgI tM 12 4 k0 S).bind fun v10 =>
  (fX12_blame k0 ((2 : Int32)) v10 S).bind fun S11 =>
  (some (a1 + (1 : Int32))).bind fun v12 =>
  rec v12 S11))
else
  (some S))
def fX12_fresh_L43 (n : Nat) (k0 : Nat) : Nat → Int32 → xSt → Option (xSt)
  | 0 => fun _ _ => none
  | q + 1 => fX12_fresh_L43b n k0 (fX12_fresh_L43 n k0 q)
set_option maxHeartbeats 4000000 in
theorem tX12_fresh_L43b {Γ : xGm} {M : xMg} (o : xOk Γ tM M 3 cX12_fresh RX12) (hnL : Γ.2.2.2 = 3) {rec : Int32 → xSt → Option (xSt)} (n : Nat) (k0 : Nat) (a1 : Int32) (S : xSt) (z : (xSt)) (hrec : ∀ (a1 : Int32) (S : xSt), rec a1 S = some z → xAt Γ tM M 43 (xlv [(0, .ref (M.2.1 k0)), (1, .int a1)]) [] S) (K : xAt Γ tM M 83 (xlv [(0, .ref (M.2.1 k0))]) [] z) (h : fX12_fresh_L43b n k0 rec a1 S = some z) : xAt Γ tM M 43 (xlv [(0, .ref (M.2.1 k0)), (1, .int a1)]) [] S := by
  have hn1 : 1 < Γ.2.2.2 := by omega
  unfold fX12_fresh_L43b at h
  refine x_iload_n (pc := 43) o dX12_fresh_43 rfl rfl ?_
  refine x_iconst (pc := 44) o dX12_fresh_44 ic_3 ?_
  refine x_icmp_gt (pc := 45) (tgt := 83) o dX12_fresh_45 (by decide) (fun c15 => ?_) (fun c15 => ?_)
  · have h := xit h c15
    refine x_to (l := [(0, .ref (M.2.1 k0))]) ⟨rfl, trivial⟩ ?_
    cases Option.some.inj h
    exact K
  · have h := xif h c15
    refine x_aload_n (pc := 48) o dX12_fresh_48 rfl rfl ?_
    obtain ⟨v6, hv6, h⟩ := xbs h
    refine gX12_36 (pc := 49) o dX12_fresh_49 hv6 ?_
    refine x_if_ne (pc := 52) (tgt := 83) o dX12_fresh_52 (by decide) (fun c14 => ?_) (fun c14 => ?_)
    · have h := xif h c14
      refine x_to (l := [(0, .ref (M.2.1 k0))]) ⟨rfl, trivial⟩ ?_
      cases Option.some.inj h
      exact K
    · have h := xit h c14
      refine x_aload_n (pc := 55) o dX12_fresh_55 rfl rfl ?_
      refine x_iload_n (pc := 56) o dX12_fresh_56 rfl rfl ?_
      refine x_aload_n (pc := 57) o dX12_fresh_57 rfl rfl ?_
      obtain ⟨v7, hv7, h⟩ := xbs h
      refine gX12_32 (pc := 58) o dX12_fresh_58 hv7 ?_
      obtain ⟨v8, hv8, h⟩ := xbs h
      refine x_callI (pc := 61) (As := [.int a1, .long v7]) (b := k0) (rest := []) o (tX12_named _ M _ n k0 a1 v7 S v8 hv8) eX12_named mX12_417 clX12 (kX12_named hv8) (by decide) rfl rfl (Nat.le_of_ble_eq_true rfl) dX12_fresh_61 ?_
      refine x_iconst (pc := 64) o dX12_fresh_64 ic_m1 ?_
      refine x_icmp_eq (pc := 65) (tgt := 77) o dX12_fresh_65 (by decide) (fun c13 => ?_) (fun c13 => ?_)
      · have h := xit h c13
        obtain ⟨v9, hv9, h⟩ := xbs h
        refine x_iincE (pc := 77) o dX12_fresh_77 rfl ic_1 hn1 hv9 ?_
        refine x_goto (pc := 80) (tgt := 43) o dX12_fresh_80 (by decide) ?_
        refine x_to (l := [(0, .ref (M.2.1 k0)), (1, .int v9)]) ⟨rfl, rfl, trivial⟩ ?_
        exact hrec v9 S h
      · have h := xif h c13
        refine x_aload_n (pc := 68) o dX12_fresh_68 rfl rfl ?_
        refine x_iconst (pc := 69) o dX12_fresh_69 ic_2 ?_
        refine x_aload_n (pc := 70) o dX12_fresh_70 rfl rfl ?_
        obtain ⟨v10, hv10, h⟩ := xbs h
        refine gX12_23 (pc := 71) o dX12_fresh_71 hv10 ?_
        obtain ⟨S11, hS11, h⟩ := xbs h
        refine x_callV (pc := 74) (As := [.int ((2 : Int32)), .int v10]) (b := k0) (rest := []) o (tX12_blame _ M _ k0 ((2 : Int32)) v10 S S11 hS11) eX12_blame mX12_287 clX12 (kX12_blame hS11) (by decide) rfl rfl (Nat.le_of_ble_eq_true rfl) dX12_fresh_74 ?_
        obtain ⟨v12, hv12, h⟩ := xbs h
        refine x_iincE (pc := 77) o dX12_fresh_77 rfl ic_1 hn1 hv12 ?_
        refine x_goto (pc := 80) (tgt := 43) o dX12_fresh_80 (by decide) ?_
        refine x_to (l := [(0, .ref (M.2.1 k0)), (1, .int v12)]) ⟨rfl, rfl, trivial⟩ ?_
        exact hrec v12 S11 h
theorem tX12_fresh_L43 {Γ : xGm} {M : xMg} (o : xOk Γ tM M 3 cX12_fresh RX12) (hnL : Γ.2.2.2 = 3) (n : Nat) (k0 : Nat) (z : (xSt)) (K : xAt Γ tM M 83 (xlv [(0, .ref (M.2.1 k0))]) [] z) : ∀ (q : Nat) (a1 : Int32) (S : xSt), fX12_fresh_L43 n k0 q a1 S = some z → xAt Γ tM M 43 (xlv [(0, .ref (M.2.1 k0)), (1, .int a1)]) [] S := by
  intro q
  induction q with
  | zero => intro a1 S h; cases h
  | succ q ih => intro a1 S h; exact tX12_fresh_L43b o hnL n k0 a1 S z ih K h
def fX12_fresh_B41 (n : Nat) (k0 : Nat) (S : xSt) : Option (Int64 × xSt) :=
  (fX12_fresh_L43 n k0 n ((0 : Int32)) S).bind fun z16 => (xgL tM 12 7 k0 z16).bind fun v17 =>
  (xgI tM 12 8 k0 z16).bind fun v18 =>
  if v18 = 0 then
  ((fX12_ahead n k0 z16).bind fun S19 =>
  some (v17, S19))
else
  (some (v17, z16))
set_option maxHeartbeats 4000000 in
theorem tX12_fresh_B41 {Γ : xGm} {M : xMg} (o : xOk Γ tM M 3 cX12_fresh RX12) (hnL : Γ.2.2.2 = 3) (n : Nat) (k0 : Nat) (S : xSt) (z : (Int64 × xSt)) (hr : xRL Γ tM M (some .long) z.1 z.2) (h : fX12_fresh_B41 n k0 S = some z) : xAt Γ tM M 41 (xlv [(0, .ref (M.2.1 k0))]) [] S := by
  have hn1 : 1 < Γ.2.2.2 := by omega
  have hn2 : 2 < Γ.2.2.2 := by omega
  unfold fX12_fresh_B41 at h
  refine x_iconst (pc := 41) o dX12_fresh_41 ic_0 ?_
  refine x_istore_n (pc := 42) o dX12_fresh_42 rfl hn1 ?_
  obtain ⟨z16, hz16, h⟩ := xbs h
  refine x_to (l := [(0, .ref (M.2.1 k0)), (1, .int ((0 : Int32)))]) ⟨rfl, rfl, trivial⟩ ?_
  refine tX12_fresh_L43 o hnL n k0 z16 ?_ n ((0 : Int32)) S hz16
  refine x_aload_n (pc := 83) o dX12_fresh_83 rfl rfl ?_
  obtain ⟨v17, hv17, h⟩ := xbs h
  refine gX12_32 (pc := 84) o dX12_fresh_84 hv17 ?_
  refine x_lstore_n (pc := 87) o dX12_fresh_87 rfl hn2 ?_
  refine x_aload_n (pc := 88) o dX12_fresh_88 rfl rfl ?_
  obtain ⟨v18, hv18, h⟩ := xbs h
  refine gX12_36 (pc := 89) o dX12_fresh_89 hv18 ?_
  refine x_if_ne (pc := 92) (tgt := 99) o dX12_fresh_92 (by decide) (fun c20 => ?_) (fun c20 => ?_)
  · have h := xif h c20
    refine x_lload_n (pc := 99) o dX12_fresh_99 rfl rfl ?_
    exact x_lreturn (pc := 100) o hr dX12_fresh_100 (xr1 h) (xr2 h)
  · have h := xit h c20
    refine x_aload_n (pc := 95) o dX12_fresh_95 rfl rfl ?_
    obtain ⟨S19, hS19, h⟩ := xbs h
    refine x_callV (pc := 96) (As := []) (b := k0) (rest := []) o (tX12_ahead _ M _ n k0 z16 S19 hS19) eX12_ahead mX12_304 clX12 (kX12_ahead hS19) (by decide) rfl rfl (Nat.le_of_ble_eq_true rfl) dX12_fresh_96 ?_
    refine x_lload_n (pc := 99) o dX12_fresh_99 rfl rfl ?_
    exact x_lreturn (pc := 100) o hr dX12_fresh_100 (xr1 h) (xr2 h)
def fX12_fresh_B32 (n : Nat) (k0 : Nat) (S : xSt) : Option (Int64 × xSt) :=
  (xgI tM 12 4 k0 S).bind fun v4 =>
  (fX12_blame k0 ((1 : Int32)) v4 S).bind fun S5 =>
  fX12_fresh_B41 n k0 S5
set_option maxHeartbeats 4000000 in
theorem tX12_fresh_B32 {Γ : xGm} {M : xMg} (o : xOk Γ tM M 3 cX12_fresh RX12) (hnL : Γ.2.2.2 = 3) (n : Nat) (k0 : Nat) (S : xSt) (z : (Int64 × xSt)) (hr : xRL Γ tM M (some .long) z.1 z.2) (h : fX12_fresh_B32 n k0 S = some z) : xAt Γ tM M 32 (xlv [(0, .ref (M.2.1 k0))]) [] S := by
  unfold fX12_fresh_B32 at h
  refine x_aload_n (pc := 32) o dX12_fresh_32 rfl rfl ?_
  refine x_iconst (pc := 33) o dX12_fresh_33 ic_1 ?_
  refine x_aload_n (pc := 34) o dX12_fresh_34 rfl rfl ?_
  obtain ⟨v4, hv4, h⟩ := xbs h
  refine gX12_23 (pc := 35) o dX12_fresh_35 hv4 ?_
  obtain ⟨S5, hS5, h⟩ := xbs h
  refine x_callV (pc := 38) (As := [.int ((1 : Int32)), .int v4]) (b := k0) (rest := []) o (tX12_blame _ M _ k0 ((1 : Int32)) v4 S S5 hS5) eX12_blame mX12_287 clX12 (kX12_blame hS5) (by decide) rfl rfl (Nat.le_of_ble_eq_true rfl) dX12_fresh_38 ?_
  refine x_to (l := [(0, .ref (M.2.1 k0))]) ⟨rfl, trivial⟩ ?_
  exact tX12_fresh_B41 o hnL n k0 S5 z hr h
def fX12_fresh (n : Nat) (k0 : Nat) (S : xSt) : Option (Int64 × xSt) :=
  if tM.1 k0 = 12 then
  ((fX12_lex k0 S).bind fun S1 =>
  (xgI tM 12 8 k0 S1).bind fun v2 =>
  if v2 ≤ 0 then
  ((xgI tM 12 3 k0 S1).bind fun v3 =>
  if v3 = ((1 : Int32)) then
  ((xgL tM 12 7 k0 S1).bind fun v21 =>
  (fX12_isOwn k0 v21 S1).bind fun v22 =>
  if v22 = 0 then
  (fX12_fresh_B41 n k0 S1)
else
  (fX12_fresh_B32 n k0 S1))
else
  (fX12_fresh_B32 n k0 S1))
else
  (some ((0 : Int64), S1)))
  else none
theorem kX12_fresh {z : Int64 × xSt} {n : Nat} {k0 : Nat} {S : xSt} (h : fX12_fresh n k0 S = some z) : tM.1 k0 = 12 := by
  unfold fX12_fresh at h
  exact (xck h).1
set_option maxHeartbeats 4000000 in
theorem tX12_fresh (l : Launch) (M : xMg) (A : Nat → Prop) (n : Nat) (k0 : Nat) (S : xSt) (z : Int64 × xSt) (h : fX12_fresh n k0 S = some z) : xML l yX12_fresh cX12_fresh 3 (some .long) 3 tM M A [.ref (M.2.1 k0)] S z.1 z.2 := by
  refine x_metL (plainFor_of_name (by decide)) tM_ok (Nat.le_of_ble_eq_true rfl) (fun Γ hA hnL hl hr o => ?_)
  subst hA; subst hl
  have o : xOk Γ tM M 3 cX12_fresh RX12 := o
  unfold fX12_fresh at h
  obtain ⟨hk0, h⟩ := xck h
  refine x_to (l := [(0, .ref (M.2.1 k0))]) ⟨rfl, trivial⟩ ?_
  refine x_aload_n (pc := 0) o dX12_fresh_0 rfl rfl ?_
  obtain ⟨S1, hS1, h⟩ := xbs h
  refine x_callV (pc := 1) (As := []) (b := k0) (rest := []) o (tX12_lex _ M _ k0 S S1 hS1) eX12_lex mX12_298 clX12 (kX12_lex hS1) (by decide) rfl rfl (Nat.le_of_ble_eq_true rfl) dX12_fresh_1 ?_
  refine x_aload_n (pc := 4) o dX12_fresh_4 rfl rfl ?_
  obtain ⟨v2, hv2, h⟩ := xbs h
  refine gX12_36 (pc := 5) o dX12_fresh_5 hv2 ?_
  refine x_if_le (pc := 8) (tgt := 13) o dX12_fresh_8 (by decide) (fun c25 => ?_) (fun c25 => ?_)
  · have h := xit h c25
    refine x_aload_n (pc := 13) o dX12_fresh_13 rfl rfl ?_
    obtain ⟨v3, hv3, h⟩ := xbs h
    refine gX12_20 (pc := 14) o dX12_fresh_14 hv3 ?_
    refine x_iconst (pc := 17) o dX12_fresh_17 ic_1 ?_
    refine x_icmp_ne (pc := 18) (tgt := 32) o dX12_fresh_18 (by decide) (fun c24 => ?_) (fun c24 => ?_)
    · have h := xif h c24
      refine x_to (l := [(0, .ref (M.2.1 k0))]) ⟨rfl, trivial⟩ ?_
      exact tX12_fresh_B32 o hnL n k0 S1 z hr h
    · have h := xit h c24
      refine x_aload_n (pc := 21) o dX12_fresh_21 rfl rfl ?_
      refine x_aload_n (pc := 22) o dX12_fresh_22 rfl rfl ?_
      obtain ⟨v21, hv21, h⟩ := xbs h
      refine gX12_32 (pc := 23) o dX12_fresh_23 hv21 ?_
      obtain ⟨v22, hv22, h⟩ := xbs h
      refine x_callI (pc := 26) (As := [.long v21]) (b := k0) (rest := []) o (tX12_isOwn _ M _ k0 v21 S1 v22 hv22) eX12_isOwn mX12_414 clX12 (kX12_isOwn hv22) (by decide) rfl rfl (Nat.le_of_ble_eq_true rfl) dX12_fresh_26 ?_
      refine x_if_eq (pc := 29) (tgt := 41) o dX12_fresh_29 (by decide) (fun c23 => ?_) (fun c23 => ?_)
      · have h := xit h c23
        refine x_to (l := [(0, .ref (M.2.1 k0))]) ⟨rfl, trivial⟩ ?_
        exact tX12_fresh_B41 o hnL n k0 S1 z hr h
      · have h := xif h c23
        refine x_to (l := [(0, .ref (M.2.1 k0))]) ⟨rfl, trivial⟩ ?_
        exact tX12_fresh_B32 o hnL n k0 S1 z hr h
  · have h := xif h c25
    refine x_lconst (pc := 11) (v := 0) o dX12_fresh_11 rfl ?_
    exact x_lreturn (pc := 12) o hr dX12_fresh_12 (xr1 h) (xr2 h)
def fX12_has2 (a0 : Int32) (a1 : Int32) (S : xSt) : Option (Int32) :=
  if ((a0 >>> (a1 &&& 31)) &&& ((1 : Int32))) = ((1 : Int32)) then
  (some ((1 : Int32)))
else
  (some ((0 : Int32)))
set_option maxHeartbeats 4000000 in
theorem tX12_has2 (l : Launch) (M : xMg) (A : Nat → Prop) (a0 : Int32) (a1 : Int32) (S : xSt) (z : Int32) (h : fX12_has2 a0 a1 S = some z) : xMI l yX12_has2 cX12_has2 2 (some .boolean) 1 tM M A [.int a0, .int a1] S z S := by
  refine x_metI (plainFor_of_name (by decide)) tM_ok (Nat.le_of_ble_eq_true rfl) (fun Γ hA hnL hl hr o => ?_)
  subst hA; subst hl
  have o : xOk Γ tM M 1 cX12_has2 RX12 := o
  unfold fX12_has2 at h
  refine x_to (l := [(0, .int a0), (1, .int a1)]) ⟨rfl, rfl, trivial⟩ ?_
  refine x_iload_n (pc := 0) o dX12_has2_0 rfl rfl ?_
  refine x_iload_n (pc := 1) o dX12_has2_1 rfl rfl ?_
  refine x_ishr (pc := 2) o dX12_has2_2 ?_
  refine x_iconst (pc := 3) o dX12_has2_3 ic_1 ?_
  refine x_iand (pc := 4) o dX12_has2_4 ?_
  refine x_iconst (pc := 5) o dX12_has2_5 ic_1 ?_
  refine x_icmp_ne (pc := 6) (tgt := 13) o dX12_has2_6 (by decide) (fun c1 => ?_) (fun c1 => ?_)
  · have h := xif h c1
    refine x_iconst (pc := 13) o dX12_has2_13 ic_0 ?_
    exact x_zreturn (pc := 14) o hr dX12_has2_14 (by decide) (Option.some.inj h) rfl
  · have h := xit h c1
    refine x_iconst (pc := 9) o dX12_has2_9 ic_1 ?_
    refine x_goto (pc := 10) (tgt := 14) o dX12_has2_10 (by decide) ?_
    exact x_zreturn (pc := 14) o hr dX12_has2_14 (by decide) (Option.some.inj h) rfl
def fX12_askedBut_B91 (n : Nat) (k0 : Nat) (a3 : Int32) (S : xSt) : Option (Int32 × xSt) :=
  (xgI tM 12 8 k0 S).bind fun v10 =>
  if v10 = 0 then
  ((fX12_ahead n k0 S).bind fun S13 =>
  (xgI tM 12 8 k0 S13).bind fun v14 =>
  if v14 ≤ 0 then
  (some (a3, S13))
else
  (some ((0 : Int32), S13)))
else
  ((xgI tM 12 8 k0 S).bind fun v11 =>
  if v11 ≤ 0 then
  (some (a3, S))
else
  (some ((0 : Int32), S)))
set_option maxHeartbeats 4000000 in
theorem tX12_askedBut_B91 {Γ : xGm} {M : xMg} (o : xOk Γ tM M 3 cX12_askedBut RX12) (hnL : Γ.2.2.2 = 4) (n : Nat) (k0 : Nat) (a3 : Int32) (S : xSt) (z : (Int32 × xSt)) (hr : xRI Γ tM M (some .int) z.1 z.2) (h : fX12_askedBut_B91 n k0 a3 S = some z) : xAt Γ tM M 91 (xlv [(0, .ref (M.2.1 k0)), (3, .int a3)]) [] S := by
  unfold fX12_askedBut_B91 at h
  refine x_aload_n (pc := 91) o dX12_askedBut_91 rfl rfl ?_
  obtain ⟨v10, hv10, h⟩ := xbs h
  refine gX12_36 (pc := 92) o dX12_askedBut_92 hv10 ?_
  refine x_if_ne (pc := 95) (tgt := 102) o dX12_askedBut_95 (by decide) (fun c16 => ?_) (fun c16 => ?_)
  · have h := xif h c16
    refine x_aload_n (pc := 102) o dX12_askedBut_102 rfl rfl ?_
    obtain ⟨v11, hv11, h⟩ := xbs h
    refine gX12_36 (pc := 103) o dX12_askedBut_103 hv11 ?_
    refine x_if_le (pc := 106) (tgt := 113) o dX12_askedBut_106 (by decide) (fun c12 => ?_) (fun c12 => ?_)
    · have h := xit h c12
      refine x_iload_n (pc := 113) o dX12_askedBut_113 rfl rfl ?_
      exact x_ireturn (pc := 114) o hr dX12_askedBut_114 (xr1 h) (xr2 h)
    · have h := xif h c12
      refine x_iconst (pc := 109) o dX12_askedBut_109 ic_0 ?_
      refine x_goto (pc := 110) (tgt := 114) o dX12_askedBut_110 (by decide) ?_
      exact x_ireturn (pc := 114) o hr dX12_askedBut_114 (xr1 h) (xr2 h)
  · have h := xit h c16
    refine x_aload_n (pc := 98) o dX12_askedBut_98 rfl rfl ?_
    obtain ⟨S13, hS13, h⟩ := xbs h
    refine x_callV (pc := 99) (As := []) (b := k0) (rest := []) o (tX12_ahead _ M _ n k0 S S13 hS13) eX12_ahead mX12_304 clX12 (kX12_ahead hS13) (by decide) rfl rfl (Nat.le_of_ble_eq_true rfl) dX12_askedBut_99 ?_
    refine x_aload_n (pc := 102) o dX12_askedBut_102 rfl rfl ?_
    obtain ⟨v14, hv14, h⟩ := xbs h
    refine gX12_36 (pc := 103) o dX12_askedBut_103 hv14 ?_
    refine x_if_le (pc := 106) (tgt := 113) o dX12_askedBut_106 (by decide) (fun c15 => ?_) (fun c15 => ?_)
    · have h := xit h c15
      refine x_iload_n (pc := 113) o dX12_askedBut_113 rfl rfl ?_
      exact x_ireturn (pc := 114) o hr dX12_askedBut_114 (xr1 h) (xr2 h)
    · have h := xif h c15
      refine x_iconst (pc := 109) o dX12_askedBut_109 ic_0 ?_
      refine x_goto (pc := 110) (tgt := 114) o dX12_askedBut_110 (by decide) ?_
      exact x_ireturn (pc := 114) o hr dX12_askedBut_114 (xr1 h) (xr2 h)
def fX12_askedBut_B82 (n : Nat) (k0 : Nat) (a3 : Int32) (S : xSt) : Option (Int32 × xSt) :=
  (xgI tM 12 4 k0 S).bind fun v17 =>
  (fX12_blame k0 ((3 : Int32)) v17 S).bind fun S18 =>
  fX12_askedBut_B91 n k0 a3 S18
set_option maxHeartbeats 4000000 in
theorem tX12_askedBut_B82 {Γ : xGm} {M : xMg} (o : xOk Γ tM M 3 cX12_askedBut RX12) (hnL : Γ.2.2.2 = 4) (n : Nat) (k0 : Nat) (a3 : Int32) (S : xSt) (z : (Int32 × xSt)) (hr : xRI Γ tM M (some .int) z.1 z.2) (h : fX12_askedBut_B82 n k0 a3 S = some z) : xAt Γ tM M 82 (xlv [(0, .ref (M.2.1 k0)), (3, .int a3)]) [] S := by
  unfold fX12_askedBut_B82 at h
  refine x_aload_n (pc := 82) o dX12_askedBut_82 rfl rfl ?_
  refine x_iconst (pc := 83) o dX12_askedBut_83 ic_3 ?_
  refine x_aload_n (pc := 84) o dX12_askedBut_84 rfl rfl ?_
  obtain ⟨v17, hv17, h⟩ := xbs h
  refine gX12_23 (pc := 85) o dX12_askedBut_85 hv17 ?_
  obtain ⟨S18, hS18, h⟩ := xbs h
  refine x_callV (pc := 88) (As := [.int ((3 : Int32)), .int v17]) (b := k0) (rest := []) o (tX12_blame _ M _ k0 ((3 : Int32)) v17 S S18 hS18) eX12_blame mX12_287 clX12 (kX12_blame hS18) (by decide) rfl rfl (Nat.le_of_ble_eq_true rfl) dX12_askedBut_88 ?_
  refine x_to (l := [(0, .ref (M.2.1 k0)), (3, .int a3)]) ⟨rfl, rfl, trivial⟩ ?_
  exact tX12_askedBut_B91 o hnL n k0 a3 S18 z hr h
def fX12_askedBut_B61 (n : Nat) (k0 : Nat) (a2 : Int32) (s0 : Int32) (S : xSt) : Option (Int32 × xSt) :=
  (xgI tM 12 8 k0 S).bind fun v9 =>
  if v9 = 0 then
  (if s0 = ((-1 : Int32)) then
  (fX12_askedBut_B82 n k0 s0 S)
else
  ((fX12_has2 a2 s0 S).bind fun v19 =>
  if v19 = 0 then
  (fX12_askedBut_B91 n k0 s0 S)
else
  (fX12_askedBut_B82 n k0 s0 S)))
else
  (fX12_askedBut_B91 n k0 s0 S)
set_option maxHeartbeats 4000000 in
theorem tX12_askedBut_B61 {Γ : xGm} {M : xMg} (o : xOk Γ tM M 3 cX12_askedBut RX12) (hnL : Γ.2.2.2 = 4) (n : Nat) (k0 : Nat) (a2 : Int32) (s0 : Int32) (S : xSt) (z : (Int32 × xSt)) (hr : xRI Γ tM M (some .int) z.1 z.2) (h : fX12_askedBut_B61 n k0 a2 s0 S = some z) : xAt Γ tM M 61 (xlv [(0, .ref (M.2.1 k0)), (2, .int a2)]) [.int s0] S := by
  have hn3 : 3 < Γ.2.2.2 := by omega
  unfold fX12_askedBut_B61 at h
  refine x_istore_n (pc := 61) o dX12_askedBut_61 rfl hn3 ?_
  refine x_aload_n (pc := 62) o dX12_askedBut_62 rfl rfl ?_
  obtain ⟨v9, hv9, h⟩ := xbs h
  refine gX12_36 (pc := 63) o dX12_askedBut_63 hv9 ?_
  refine x_if_ne (pc := 66) (tgt := 91) o dX12_askedBut_66 (by decide) (fun c22 => ?_) (fun c22 => ?_)
  · have h := xif h c22
    refine x_to (l := [(0, .ref (M.2.1 k0)), (3, .int s0)]) ⟨rfl, rfl, trivial⟩ ?_
    exact tX12_askedBut_B91 o hnL n k0 s0 S z hr h
  · have h := xit h c22
    refine x_iload_n (pc := 69) o dX12_askedBut_69 rfl rfl ?_
    refine x_iconst (pc := 70) o dX12_askedBut_70 ic_m1 ?_
    refine x_icmp_eq (pc := 71) (tgt := 82) o dX12_askedBut_71 (by decide) (fun c21 => ?_) (fun c21 => ?_)
    · have h := xit h c21
      refine x_to (l := [(0, .ref (M.2.1 k0)), (3, .int s0)]) ⟨rfl, rfl, trivial⟩ ?_
      exact tX12_askedBut_B82 o hnL n k0 s0 S z hr h
    · have h := xif h c21
      refine x_iload_n (pc := 74) o dX12_askedBut_74 rfl rfl ?_
      refine x_iload_n (pc := 75) o dX12_askedBut_75 rfl rfl ?_
      obtain ⟨v19, hv19, h⟩ := xbs h
      refine x_statI (pc := 76) (As := [.int a2, .int s0]) (rest := []) o (tX12_has2 _ M _ a2 s0 S v19 hv19) eX12_has2 mX12_421 (by decide) rfl rfl (Nat.le_of_ble_eq_true rfl) dX12_askedBut_76 ?_
      refine x_if_eq (pc := 79) (tgt := 91) o dX12_askedBut_79 (by decide) (fun c20 => ?_) (fun c20 => ?_)
      · have h := xit h c20
        refine x_to (l := [(0, .ref (M.2.1 k0)), (3, .int s0)]) ⟨rfl, rfl, trivial⟩ ?_
        exact tX12_askedBut_B91 o hnL n k0 s0 S z hr h
      · have h := xif h c20
        refine x_to (l := [(0, .ref (M.2.1 k0)), (3, .int s0)]) ⟨rfl, rfl, trivial⟩ ?_
        exact tX12_askedBut_B82 o hnL n k0 s0 S z hr h
def fX12_askedBut_B41 (n : Nat) (k0 : Nat) (a1 : Int32) (a2 : Int32) (S : xSt) : Option (Int32 × xSt) :=
  (xgI tM 12 8 k0 S).bind fun v6 =>
  if v6 ≤ 0 then
  ((xgL tM 12 7 k0 S).bind fun v7 =>
  (fX12_named n k0 a1 v7 S).bind fun v8 =>
  fX12_askedBut_B61 n k0 a2 v8 S)
else
  (fX12_askedBut_B61 n k0 a2 ((0 : Int32)) S)
set_option maxHeartbeats 4000000 in
theorem tX12_askedBut_B41 {Γ : xGm} {M : xMg} (o : xOk Γ tM M 3 cX12_askedBut RX12) (hnL : Γ.2.2.2 = 4) (n : Nat) (k0 : Nat) (a1 : Int32) (a2 : Int32) (S : xSt) (z : (Int32 × xSt)) (hr : xRI Γ tM M (some .int) z.1 z.2) (h : fX12_askedBut_B41 n k0 a1 a2 S = some z) : xAt Γ tM M 41 (xlv [(0, .ref (M.2.1 k0)), (1, .int a1), (2, .int a2)]) [] S := by
  unfold fX12_askedBut_B41 at h
  refine x_aload_n (pc := 41) o dX12_askedBut_41 rfl rfl ?_
  obtain ⟨v6, hv6, h⟩ := xbs h
  refine gX12_36 (pc := 42) o dX12_askedBut_42 hv6 ?_
  refine x_if_le (pc := 45) (tgt := 52) o dX12_askedBut_45 (by decide) (fun c23 => ?_) (fun c23 => ?_)
  · have h := xit h c23
    refine x_aload_n (pc := 52) o dX12_askedBut_52 rfl rfl ?_
    refine x_iload_n (pc := 53) o dX12_askedBut_53 rfl rfl ?_
    refine x_aload_n (pc := 54) o dX12_askedBut_54 rfl rfl ?_
    obtain ⟨v7, hv7, h⟩ := xbs h
    refine gX12_32 (pc := 55) o dX12_askedBut_55 hv7 ?_
    obtain ⟨v8, hv8, h⟩ := xbs h
    refine x_callI (pc := 58) (As := [.int a1, .long v7]) (b := k0) (rest := []) o (tX12_named _ M _ n k0 a1 v7 S v8 hv8) eX12_named mX12_417 clX12 (kX12_named hv8) (by decide) rfl rfl (Nat.le_of_ble_eq_true rfl) dX12_askedBut_58 ?_
    refine x_to (l := [(0, .ref (M.2.1 k0)), (2, .int a2)]) ⟨rfl, rfl, trivial⟩ ?_
    exact tX12_askedBut_B61 o hnL n k0 a2 v8 S z hr h
  · have h := xif h c23
    refine x_iconst (pc := 48) o dX12_askedBut_48 ic_0 ?_
    refine x_goto (pc := 49) (tgt := 61) o dX12_askedBut_49 (by decide) ?_
    refine x_to (l := [(0, .ref (M.2.1 k0)), (2, .int a2)]) ⟨rfl, rfl, trivial⟩ ?_
    exact tX12_askedBut_B61 o hnL n k0 a2 ((0 : Int32)) S z hr h
def fX12_askedBut_B32 (n : Nat) (k0 : Nat) (a1 : Int32) (a2 : Int32) (S : xSt) : Option (Int32 × xSt) :=
  (xgI tM 12 4 k0 S).bind fun v4 =>
  (fX12_blame k0 ((1 : Int32)) v4 S).bind fun S5 =>
  fX12_askedBut_B41 n k0 a1 a2 S5
set_option maxHeartbeats 4000000 in
theorem tX12_askedBut_B32 {Γ : xGm} {M : xMg} (o : xOk Γ tM M 3 cX12_askedBut RX12) (hnL : Γ.2.2.2 = 4) (n : Nat) (k0 : Nat) (a1 : Int32) (a2 : Int32) (S : xSt) (z : (Int32 × xSt)) (hr : xRI Γ tM M (some .int) z.1 z.2) (h : fX12_askedBut_B32 n k0 a1 a2 S = some z) : xAt Γ tM M 32 (xlv [(0, .ref (M.2.1 k0)), (1, .int a1), (2, .int a2)]) [] S := by
  unfold fX12_askedBut_B32 at h
  refine x_aload_n (pc := 32) o dX12_askedBut_32 rfl rfl ?_
  refine x_iconst (pc := 33) o dX12_askedBut_33 ic_1 ?_
  refine x_aload_n (pc := 34) o dX12_askedBut_34 rfl rfl ?_
  obtain ⟨v4, hv4, h⟩ := xbs h
  refine gX12_23 (pc := 35) o dX12_askedBut_35 hv4 ?_
  obtain ⟨S5, hS5, h⟩ := xbs h
  refine x_callV (pc := 38) (As := [.int ((1 : Int32)), .int v4]) (b := k0) (rest := []) o (tX12_blame _ M _ k0 ((1 : Int32)) v4 S S5 hS5) eX12_blame mX12_287 clX12 (kX12_blame hS5) (by decide) rfl rfl (Nat.le_of_ble_eq_true rfl) dX12_askedBut_38 ?_
  refine x_to (l := [(0, .ref (M.2.1 k0)), (1, .int a1), (2, .int a2)]) ⟨rfl, rfl, rfl, trivial⟩ ?_
  exact tX12_askedBut_B41 o hnL n k0 a1 a2 S5 z hr h
def fX12_askedBut (n : Nat) (k0 : Nat) (a1 : Int32) (a2 : Int32) (S : xSt) : Option (Int32 × xSt) :=
  if tM.1 k0 = 12 then
  ((fX12_lex k0 S).bind fun S1 =>
  (xgI tM 12 8 k0 S1).bind fun v2 =>
  if v2 ≤ 0 then
  ((xgI tM 12 3 k0 S1).bind fun v3 =>
  if v3 = ((1 : Int32)) then
  ((xgL tM 12 7 k0 S1).bind fun v24 =>
  (fX12_isOwn k0 v24 S1).bind fun v25 =>
  if v25 = 0 then
  (fX12_askedBut_B41 n k0 a1 a2 S1)
else
  (fX12_askedBut_B32 n k0 a1 a2 S1))
else
  (fX12_askedBut_B32 n k0 a1 a2 S1))
else
  (some ((0 : Int32), S1)))
  else none
theorem kX12_askedBut {z : Int32 × xSt} {n : Nat} {k0 : Nat} {a1 : Int32} {a2 : Int32} {S : xSt} (h : fX12_askedBut n k0 a1 a2 S = some z) : tM.1 k0 = 12 := by
  unfold fX12_askedBut at h
  exact (xck h).1
set_option maxHeartbeats 4000000 in
theorem tX12_askedBut (l : Launch) (M : xMg) (A : Nat → Prop) (n : Nat) (k0 : Nat) (a1 : Int32) (a2 : Int32) (S : xSt) (z : Int32 × xSt) (h : fX12_askedBut n k0 a1 a2 S = some z) : xMI l yX12_askedBut cX12_askedBut 4 (some .int) 3 tM M A [.ref (M.2.1 k0), .int a1, .int a2] S z.1 z.2 := by
  refine x_metI (plainFor_of_name (by decide)) tM_ok (Nat.le_of_ble_eq_true rfl) (fun Γ hA hnL hl hr o => ?_)
  subst hA; subst hl
  have o : xOk Γ tM M 3 cX12_askedBut RX12 := o
  unfold fX12_askedBut at h
  obtain ⟨hk0, h⟩ := xck h
  refine x_to (l := [(0, .ref (M.2.1 k0)), (1, .int a1), (2, .int a2)]) ⟨rfl, rfl, rfl, trivial⟩ ?_
  refine x_aload_n (pc := 0) o dX12_askedBut_0 rfl rfl ?_
  obtain ⟨S1, hS1, h⟩ := xbs h
  refine x_callV (pc := 1) (As := []) (b := k0) (rest := []) o (tX12_lex _ M _ k0 S S1 hS1) eX12_lex mX12_298 clX12 (kX12_lex hS1) (by decide) rfl rfl (Nat.le_of_ble_eq_true rfl) dX12_askedBut_1 ?_
  refine x_aload_n (pc := 4) o dX12_askedBut_4 rfl rfl ?_
  obtain ⟨v2, hv2, h⟩ := xbs h
  refine gX12_36 (pc := 5) o dX12_askedBut_5 hv2 ?_
  refine x_if_le (pc := 8) (tgt := 13) o dX12_askedBut_8 (by decide) (fun c28 => ?_) (fun c28 => ?_)
  · have h := xit h c28
    refine x_aload_n (pc := 13) o dX12_askedBut_13 rfl rfl ?_
    obtain ⟨v3, hv3, h⟩ := xbs h
    refine gX12_20 (pc := 14) o dX12_askedBut_14 hv3 ?_
    refine x_iconst (pc := 17) o dX12_askedBut_17 ic_1 ?_
    refine x_icmp_ne (pc := 18) (tgt := 32) o dX12_askedBut_18 (by decide) (fun c27 => ?_) (fun c27 => ?_)
    · have h := xif h c27
      refine x_to (l := [(0, .ref (M.2.1 k0)), (1, .int a1), (2, .int a2)]) ⟨rfl, rfl, rfl, trivial⟩ ?_
      exact tX12_askedBut_B32 o hnL n k0 a1 a2 S1 z hr h
    · have h := xit h c27
      refine x_aload_n (pc := 21) o dX12_askedBut_21 rfl rfl ?_
      refine x_aload_n (pc := 22) o dX12_askedBut_22 rfl rfl ?_
      obtain ⟨v24, hv24, h⟩ := xbs h
      refine gX12_32 (pc := 23) o dX12_askedBut_23 hv24 ?_
      obtain ⟨v25, hv25, h⟩ := xbs h
      refine x_callI (pc := 26) (As := [.long v24]) (b := k0) (rest := []) o (tX12_isOwn _ M _ k0 v24 S1 v25 hv25) eX12_isOwn mX12_414 clX12 (kX12_isOwn hv25) (by decide) rfl rfl (Nat.le_of_ble_eq_true rfl) dX12_askedBut_26 ?_
      refine x_if_eq (pc := 29) (tgt := 41) o dX12_askedBut_29 (by decide) (fun c26 => ?_) (fun c26 => ?_)
      · have h := xit h c26
        refine x_to (l := [(0, .ref (M.2.1 k0)), (1, .int a1), (2, .int a2)]) ⟨rfl, rfl, rfl, trivial⟩ ?_
        exact tX12_askedBut_B41 o hnL n k0 a1 a2 S1 z hr h
      · have h := xif h c26
        refine x_to (l := [(0, .ref (M.2.1 k0)), (1, .int a1), (2, .int a2)]) ⟨rfl, rfl, rfl, trivial⟩ ?_
        exact tX12_askedBut_B32 o hnL n k0 a1 a2 S1 z hr h
  · have h := xif h c28
    refine x_iconst (pc := 11) o dX12_askedBut_11 ic_0 ?_
    exact x_ireturn (pc := 12) o hr dX12_askedBut_12 (xr1 h) (xr2 h)
def fX12_round (n : Nat) (k0 : Nat) (S : xSt) : Option (Int32 × xSt) :=
  if tM.1 k0 = 12 then
  ((fX12_number n k0 ((0 : Int32)) ((9999 : Int32)) S).bind fun q1 =>
  (xpI tM 12 52 k0 q1.1 q1.2).bind fun S2 =>
  (fX12_must_ n k0 ((28518 : Int64)) S2).bind fun S3 =>
  (xgI tM 12 52 k0 S3).bind fun v4 =>
  if ((2 : Int32)) ≤ v4 then
  ((xgI tM 12 52 k0 S3).bind fun v5 =>
  (fX12_number n k0 (v5 + ((1 : Int32))) ((30 : Int32)) S3).bind fun q6 =>
  some (q6.1, q6.2))
else
  ((fX12_number n k0 ((2 : Int32)) ((30 : Int32)) S3).bind fun q7 =>
  some (q7.1, q7.2)))
  else none
theorem kX12_round {z : Int32 × xSt} {n : Nat} {k0 : Nat} {S : xSt} (h : fX12_round n k0 S = some z) : tM.1 k0 = 12 := by
  unfold fX12_round at h
  exact (xck h).1
set_option maxHeartbeats 4000000 in
theorem tX12_round (l : Launch) (M : xMg) (A : Nat → Prop) (n : Nat) (k0 : Nat) (S : xSt) (z : Int32 × xSt) (h : fX12_round n k0 S = some z) : xMI l yX12_round cX12_round 1 (some .int) 4 tM M A [.ref (M.2.1 k0)] S z.1 z.2 := by
  refine x_metI (plainFor_of_name (by decide)) tM_ok (Nat.le_of_ble_eq_true rfl) (fun Γ hA hnL hl hr o => ?_)
  subst hA; subst hl
  have o : xOk Γ tM M 4 cX12_round RX12 := o
  unfold fX12_round at h
  obtain ⟨hk0, h⟩ := xck h
  refine x_to (l := [(0, .ref (M.2.1 k0))]) ⟨rfl, trivial⟩ ?_
  refine x_aload_n (pc := 0) o dX12_round_0 rfl rfl ?_
  refine x_aload_n (pc := 1) o dX12_round_1 rfl rfl ?_
  refine x_iconst (pc := 2) o dX12_round_2 ic_0 ?_
  refine x_sipush (pc := 3) o dX12_round_3 sp_9999 ?_
  obtain ⟨q1, hq1, h⟩ := xbs h
  refine x_callI (pc := 6) (As := [.int ((0 : Int32)), .int ((9999 : Int32))]) (b := k0) (rest := [.ref (M.2.1 k0)]) o (tX12_number _ M _ n k0 ((0 : Int32)) ((9999 : Int32)) S q1 hq1) eX12_number mX12_425 clX12 (kX12_number hq1) (by decide) rfl rfl (Nat.le_of_ble_eq_true rfl) dX12_round_6 ?_
  obtain ⟨S2, hS2, h⟩ := xbs h
  refine pX12_171 (pc := 9) o dX12_round_9 hS2 ?_
  refine x_aload_n (pc := 12) o dX12_round_12 rfl rfl ?_
  refine x_ldc2 (pc := 13) o kcX12_311 dX12_round_13 ?_
  obtain ⟨S3, hS3, h⟩ := xbs h
  refine x_callV (pc := 16) (As := [.long ((28518 : Int64))]) (b := k0) (rest := []) o (tX12_must_ _ M _ n k0 ((28518 : Int64)) S2 S3 hS3) eX12_must_ mX12_428 clX12 (kX12_must_ hS3) (by decide) rfl rfl (Nat.le_of_ble_eq_true rfl) dX12_round_16 ?_
  refine x_aload_n (pc := 19) o dX12_round_19 rfl rfl ?_
  refine x_aload_n (pc := 20) o dX12_round_20 rfl rfl ?_
  obtain ⟨v4, hv4, h⟩ := xbs h
  refine gX12_171 (pc := 21) o dX12_round_21 hv4 ?_
  refine x_iconst (pc := 24) o dX12_round_24 ic_2 ?_
  refine x_icmp_ge (pc := 25) (tgt := 32) o dX12_round_25 (by decide) (fun c8 => ?_) (fun c8 => ?_)
  · have h := xit h c8
    refine x_aload_n (pc := 32) o dX12_round_32 rfl rfl ?_
    obtain ⟨v5, hv5, h⟩ := xbs h
    refine gX12_171 (pc := 33) o dX12_round_33 hv5 ?_
    refine x_iconst (pc := 36) o dX12_round_36 ic_1 ?_
    refine x_iadd (pc := 37) o dX12_round_37 ?_
    refine x_bipush (pc := 38) o dX12_round_38 bp_30 ?_
    obtain ⟨q6, hq6, h⟩ := xbs h
    refine x_callI (pc := 40) (As := [.int (v5 + ((1 : Int32))), .int ((30 : Int32))]) (b := k0) (rest := []) o (tX12_number _ M _ n k0 (v5 + ((1 : Int32))) ((30 : Int32)) S3 q6 hq6) eX12_number mX12_425 clX12 (kX12_number hq6) (by decide) rfl rfl (Nat.le_of_ble_eq_true rfl) dX12_round_40 ?_
    exact x_ireturn (pc := 43) o hr dX12_round_43 (xr1 h) (xr2 h)
  · have h := xif h c8
    refine x_iconst (pc := 28) o dX12_round_28 ic_2 ?_
    refine x_goto (pc := 29) (tgt := 38) o dX12_round_29 (by decide) ?_
    refine x_bipush (pc := 38) o dX12_round_38 bp_30 ?_
    obtain ⟨q7, hq7, h⟩ := xbs h
    refine x_callI (pc := 40) (As := [.int ((2 : Int32)), .int ((30 : Int32))]) (b := k0) (rest := []) o (tX12_number _ M _ n k0 ((2 : Int32)) ((30 : Int32)) S3 q7 hq7) eX12_number mX12_425 clX12 (kX12_number hq7) (by decide) rfl rfl (Nat.le_of_ble_eq_true rfl) dX12_round_40 ?_
    exact x_ireturn (pc := 43) o hr dX12_round_43 (xr1 h) (xr2 h)
def fX12_kinding_L84b (n : Nat) (k0 : Nat) (a1 : Int32) (rec : Int32 → xSt → Option (xSt)) (a2 : Int32) (S : xSt) : Option (xSt) :=
  if ((6 : Int32)) ≤ a2 then
  (some S)
else
  ((xgF tM 12 27 k0 S).bind fun r20 =>
  (xas tM r20 ((((6 : Int32)) * a1) + a2) ((0 : Int32)) S).bind fun S21 =>
  (xgF tM 12 27 k0 S21).bind fun r22 =>
  (xgI tM 12 40 k0 S21).bind fun v23 =>
  (xgF tM 12 14 k0 S21).bind fun r24 =>
  (xgI tM 12 40 k0 S21).bind fun v25 =>
  (xal tM r24 v25 S21).bind fun v26 =>
  (xas tM r22 ((((6 : Int32)) * ((((6 : Int32)) * v23) + a2)) + v26) ((0 : Int32)) S21).bind fun S27 =>
  (some (a2 + (1 : Int32))).bind fun v28 =>
  rec v28 S27)
def fX12_kinding_L84 (n : Nat) (k0 : Nat) (a1 : Int32) : Nat → Int32 → xSt → Option (xSt)
  | 0 => fun _ _ => none
  | q + 1 => fX12_kinding_L84b n k0 a1 (fX12_kinding_L84 n k0 a1 q)
set_option maxHeartbeats 4000000 in
theorem tX12_kinding_L84b {Γ : xGm} {M : xMg} (o : xOk Γ tM M 5 cX12_kinding RX12) (hnL : Γ.2.2.2 = 3) {rec : Int32 → xSt → Option (xSt)} (n : Nat) (k0 : Nat) (a1 : Int32) (a2 : Int32) (S : xSt) (z : (xSt)) (hrec : ∀ (a2 : Int32) (S : xSt), rec a2 S = some z → xAt Γ tM M 84 (xlv [(0, .ref (M.2.1 k0)), (1, .int a1), (2, .int a2)]) [] S) (K : xAt Γ tM M 136 (xlv [(0, .ref (M.2.1 k0))]) [] z) (h : fX12_kinding_L84b n k0 a1 rec a2 S = some z) : xAt Γ tM M 84 (xlv [(0, .ref (M.2.1 k0)), (1, .int a1), (2, .int a2)]) [] S := by
  have hn2 : 2 < Γ.2.2.2 := by omega
  unfold fX12_kinding_L84b at h
  refine x_iload_n (pc := 84) o dX12_kinding_84 rfl rfl ?_
  refine x_bipush (pc := 85) o dX12_kinding_85 bp_6 ?_
  refine x_icmp_ge (pc := 87) (tgt := 136) o dX12_kinding_87 (by decide) (fun c29 => ?_) (fun c29 => ?_)
  · have h := xit h c29
    refine x_to (l := [(0, .ref (M.2.1 k0))]) ⟨rfl, trivial⟩ ?_
    cases Option.some.inj h
    exact K
  · have h := xif h c29
    refine x_aload_n (pc := 90) o dX12_kinding_90 rfl rfl ?_
    obtain ⟨r20, hr20, h⟩ := xbs h
    refine gX12_93 (pc := 91) o dX12_kinding_91 hr20 ?_
    refine x_bipush (pc := 94) o dX12_kinding_94 bp_6 ?_
    refine x_iload_n (pc := 96) o dX12_kinding_96 rfl rfl ?_
    refine x_imul (pc := 97) o dX12_kinding_97 ?_
    refine x_iload_n (pc := 98) o dX12_kinding_98 rfl rfl ?_
    refine x_iadd (pc := 99) o dX12_kinding_99 ?_
    refine x_iconst (pc := 100) o dX12_kinding_100 ic_0 ?_
    obtain ⟨S21, hS21, h⟩ := xbs h
    refine x_iastore (pc := 101) o dX12_kinding_101 hS21 ?_
    refine x_aload_n (pc := 102) o dX12_kinding_102 rfl rfl ?_
    obtain ⟨r22, hr22, h⟩ := xbs h
    refine gX12_93 (pc := 103) o dX12_kinding_103 hr22 ?_
    refine x_bipush (pc := 106) o dX12_kinding_106 bp_6 ?_
    refine x_bipush (pc := 108) o dX12_kinding_108 bp_6 ?_
    refine x_aload_n (pc := 110) o dX12_kinding_110 rfl rfl ?_
    obtain ⟨v23, hv23, h⟩ := xbs h
    refine gX12_133 (pc := 111) o dX12_kinding_111 hv23 ?_
    refine x_imul (pc := 114) o dX12_kinding_114 ?_
    refine x_iload_n (pc := 115) o dX12_kinding_115 rfl rfl ?_
    refine x_iadd (pc := 116) o dX12_kinding_116 ?_
    refine x_imul (pc := 117) o dX12_kinding_117 ?_
    refine x_aload_n (pc := 118) o dX12_kinding_118 rfl rfl ?_
    obtain ⟨r24, hr24, h⟩ := xbs h
    refine gX12_54 (pc := 119) o dX12_kinding_119 hr24 ?_
    refine x_aload_n (pc := 122) o dX12_kinding_122 rfl rfl ?_
    obtain ⟨v25, hv25, h⟩ := xbs h
    refine gX12_133 (pc := 123) o dX12_kinding_123 hv25 ?_
    obtain ⟨v26, hv26, h⟩ := xbs h
    refine x_iaload (pc := 126) o dX12_kinding_126 hv26 ?_
    refine x_iadd (pc := 127) o dX12_kinding_127 ?_
    refine x_iconst (pc := 128) o dX12_kinding_128 ic_0 ?_
    obtain ⟨S27, hS27, h⟩ := xbs h
    refine x_iastore (pc := 129) o dX12_kinding_129 hS27 ?_
    obtain ⟨v28, hv28, h⟩ := xbs h
    refine x_iincE (pc := 130) o dX12_kinding_130 rfl ic_1 hn2 hv28 ?_
    refine x_goto (pc := 133) (tgt := 84) o dX12_kinding_133 (by decide) ?_
    refine x_to (l := [(0, .ref (M.2.1 k0)), (1, .int a1), (2, .int v28)]) ⟨rfl, rfl, rfl, trivial⟩ ?_
    exact hrec v28 S27 h
theorem tX12_kinding_L84 {Γ : xGm} {M : xMg} (o : xOk Γ tM M 5 cX12_kinding RX12) (hnL : Γ.2.2.2 = 3) (n : Nat) (k0 : Nat) (a1 : Int32) (z : (xSt)) (K : xAt Γ tM M 136 (xlv [(0, .ref (M.2.1 k0))]) [] z) : ∀ (q : Nat) (a2 : Int32) (S : xSt), fX12_kinding_L84 n k0 a1 q a2 S = some z → xAt Γ tM M 84 (xlv [(0, .ref (M.2.1 k0)), (1, .int a1), (2, .int a2)]) [] S := by
  intro q
  induction q with
  | zero => intro a2 S h; cases h
  | succ q ih => intro a2 S h; exact tX12_kinding_L84b o hnL n k0 a1 a2 S z ih K h
def fX12_kinding_B20 (n : Nat) (k0 : Nat) (s0 : Nat) (s1 : Int32) (S : xSt) : Option (xSt) :=
  (fX12_counts n s0 s1 S).bind fun q4 =>
  if q4.1 = 0 then
  (some q4.2)
else
  ((xgI tM 12 40 k0 q4.2).bind fun v5 =>
  (xgF tM 12 14 k0 q4.2).bind fun r6 =>
  (xgI tM 12 40 k0 q4.2).bind fun v7 =>
  (xal tM r6 v7 q4.2).bind fun v8 =>
  (some ((((6 : Int32)) * v5) + v8)).bind fun v9 =>
  (xgF tM 12 35 k0 q4.2).bind fun r10 =>
  (fX12_fresh n k0 q4.2).bind fun q11 =>
  (xls tM r10 v9 q11.1 q11.2).bind fun S12 =>
  (fX12_must_ n k0 ((491328337011 : Int64)) S12).bind fun S13 =>
  (xgF tM 12 16 k0 S13).bind fun r14 =>
  (fX12_round n k0 S13).bind fun q15 =>
  (xas tM r14 v9 q15.1 q15.2).bind fun S16 =>
  (xgF tM 12 15 k0 S16).bind fun r17 =>
  (xgI tM 12 52 k0 S16).bind fun v18 =>
  (xas tM r17 v9 v18 S16).bind fun S19 =>
  (fX12_kinding_L84 n k0 v9 n ((0 : Int32)) S19).bind fun z30 => (xgI tM 12 8 k0 z30).bind fun v31 =>
  if v31 = 0 then
  ((xgF tM 12 14 k0 z30).bind fun r32 =>
  (xgI tM 12 40 k0 z30).bind fun v33 =>
  (xal tM r32 v33 z30).bind fun v34 =>
  (xas tM r32 v33 (v34 + ((1 : Int32))) z30).bind fun S35 =>
  some S35)
else
  (some z30))
set_option maxHeartbeats 4000000 in
theorem tX12_kinding_B20 {Γ : xGm} {M : xMg} (o : xOk Γ tM M 5 cX12_kinding RX12) (hnL : Γ.2.2.2 = 3) (n : Nat) (k0 : Nat) (s0 : Nat) (s1 : Int32) (S : xSt) (z : (xSt)) (hr : xRV Γ tM M none z) (h : fX12_kinding_B20 n k0 s0 s1 S = some z) : xAt Γ tM M 20 (xlv [(0, .ref (M.2.1 k0))]) [.int s1, .ref (M.2.1 s0)] S := by
  have hn1 : 1 < Γ.2.2.2 := by omega
  have hn2 : 2 < Γ.2.2.2 := by omega
  unfold fX12_kinding_B20 at h
  obtain ⟨q4, hq4, h⟩ := xbs h
  refine x_callI (pc := 20) (As := [.int s1]) (b := s0) (rest := []) o (tX12_counts _ M _ n s0 s1 S q4 hq4) eX12_counts mX12_432 clX12 (kX12_counts hq4) (by decide) rfl rfl (Nat.le_of_ble_eq_true rfl) dX12_kinding_20 ?_
  refine x_if_ne (pc := 23) (tgt := 27) o dX12_kinding_23 (by decide) (fun c37 => ?_) (fun c37 => ?_)
  · have h := xif h c37
    refine x_bipush (pc := 27) o dX12_kinding_27 bp_6 ?_
    refine x_aload_n (pc := 29) o dX12_kinding_29 rfl rfl ?_
    obtain ⟨v5, hv5, h⟩ := xbs h
    refine gX12_133 (pc := 30) o dX12_kinding_30 hv5 ?_
    refine x_imul (pc := 33) o dX12_kinding_33 ?_
    refine x_aload_n (pc := 34) o dX12_kinding_34 rfl rfl ?_
    obtain ⟨r6, hr6, h⟩ := xbs h
    refine gX12_54 (pc := 35) o dX12_kinding_35 hr6 ?_
    refine x_aload_n (pc := 38) o dX12_kinding_38 rfl rfl ?_
    obtain ⟨v7, hv7, h⟩ := xbs h
    refine gX12_133 (pc := 39) o dX12_kinding_39 hv7 ?_
    obtain ⟨v8, hv8, h⟩ := xbs h
    refine x_iaload (pc := 42) o dX12_kinding_42 hv8 ?_
    refine x_iadd (pc := 43) o dX12_kinding_43 ?_
    obtain ⟨v9, hv9, h⟩ := xbs h
    refine x_istore_nE (pc := 44) o dX12_kinding_44 rfl hn1 hv9 ?_
    refine x_aload_n (pc := 45) o dX12_kinding_45 rfl rfl ?_
    obtain ⟨r10, hr10, h⟩ := xbs h
    refine gX12_117 (pc := 46) o dX12_kinding_46 hr10 ?_
    refine x_iload_n (pc := 49) o dX12_kinding_49 rfl rfl ?_
    refine x_aload_n (pc := 50) o dX12_kinding_50 rfl rfl ?_
    obtain ⟨q11, hq11, h⟩ := xbs h
    refine x_callL (pc := 51) (As := []) (b := k0) (rest := [.int v9, .ref (M.2.1 r10)]) o (tX12_fresh _ M _ n k0 q4.2 q11 hq11) eX12_fresh mX12_436 clX12 (kX12_fresh hq11) (by decide) rfl rfl (Nat.le_of_ble_eq_true rfl) dX12_kinding_51 ?_
    obtain ⟨S12, hS12, h⟩ := xbs h
    refine x_lastore (pc := 54) o dX12_kinding_54 hS12 ?_
    refine x_aload_n (pc := 55) o dX12_kinding_55 rfl rfl ?_
    refine x_ldc2 (pc := 56) o kcX12_309 dX12_kinding_56 ?_
    obtain ⟨S13, hS13, h⟩ := xbs h
    refine x_callV (pc := 59) (As := [.long ((491328337011 : Int64))]) (b := k0) (rest := []) o (tX12_must_ _ M _ n k0 ((491328337011 : Int64)) S12 S13 hS13) eX12_must_ mX12_428 clX12 (kX12_must_ hS13) (by decide) rfl rfl (Nat.le_of_ble_eq_true rfl) dX12_kinding_59 ?_
    refine x_aload_n (pc := 62) o dX12_kinding_62 rfl rfl ?_
    obtain ⟨r14, hr14, h⟩ := xbs h
    refine gX12_60 (pc := 63) o dX12_kinding_63 hr14 ?_
    refine x_iload_n (pc := 66) o dX12_kinding_66 rfl rfl ?_
    refine x_aload_n (pc := 67) o dX12_kinding_67 rfl rfl ?_
    obtain ⟨q15, hq15, h⟩ := xbs h
    refine x_callI (pc := 68) (As := []) (b := k0) (rest := [.int v9, .ref (M.2.1 r14)]) o (tX12_round _ M _ n k0 S13 q15 hq15) eX12_round mX12_440 clX12 (kX12_round hq15) (by decide) rfl rfl (Nat.le_of_ble_eq_true rfl) dX12_kinding_68 ?_
    obtain ⟨S16, hS16, h⟩ := xbs h
    refine x_iastore (pc := 71) o dX12_kinding_71 hS16 ?_
    refine x_aload_n (pc := 72) o dX12_kinding_72 rfl rfl ?_
    obtain ⟨r17, hr17, h⟩ := xbs h
    refine gX12_57 (pc := 73) o dX12_kinding_73 hr17 ?_
    refine x_iload_n (pc := 76) o dX12_kinding_76 rfl rfl ?_
    refine x_aload_n (pc := 77) o dX12_kinding_77 rfl rfl ?_
    obtain ⟨v18, hv18, h⟩ := xbs h
    refine gX12_171 (pc := 78) o dX12_kinding_78 hv18 ?_
    obtain ⟨S19, hS19, h⟩ := xbs h
    refine x_iastore (pc := 81) o dX12_kinding_81 hS19 ?_
    refine x_iconst (pc := 82) o dX12_kinding_82 ic_0 ?_
    refine x_istore_n (pc := 83) o dX12_kinding_83 rfl hn2 ?_
    obtain ⟨z30, hz30, h⟩ := xbs h
    refine x_to (l := [(0, .ref (M.2.1 k0)), (1, .int v9), (2, .int ((0 : Int32)))]) ⟨rfl, rfl, rfl, trivial⟩ ?_
    refine tX12_kinding_L84 o hnL n k0 v9 z30 ?_ n ((0 : Int32)) S19 hz30
    refine x_aload_n (pc := 136) o dX12_kinding_136 rfl rfl ?_
    obtain ⟨v31, hv31, h⟩ := xbs h
    refine gX12_36 (pc := 137) o dX12_kinding_137 hv31 ?_
    refine x_if_ne (pc := 140) (tgt := 156) o dX12_kinding_140 (by decide) (fun c36 => ?_) (fun c36 => ?_)
    · have h := xif h c36
      exact x_vreturn (pc := 156) o hr dX12_kinding_156 (Option.some.inj h)
    · have h := xit h c36
      refine x_aload_n (pc := 143) o dX12_kinding_143 rfl rfl ?_
      obtain ⟨r32, hr32, h⟩ := xbs h
      refine gX12_54 (pc := 144) o dX12_kinding_144 hr32 ?_
      refine x_aload_n (pc := 147) o dX12_kinding_147 rfl rfl ?_
      obtain ⟨v33, hv33, h⟩ := xbs h
      refine gX12_133 (pc := 148) o dX12_kinding_148 hv33 ?_
      refine x_dup2 (pc := 151) o dX12_kinding_151 rfl rfl ?_
      obtain ⟨v34, hv34, h⟩ := xbs h
      refine x_iaload (pc := 152) o dX12_kinding_152 hv34 ?_
      refine x_iconst (pc := 153) o dX12_kinding_153 ic_1 ?_
      refine x_iadd (pc := 154) o dX12_kinding_154 ?_
      obtain ⟨S35, hS35, h⟩ := xbs h
      refine x_iastore (pc := 155) o dX12_kinding_155 hS35 ?_
      exact x_vreturn (pc := 156) o hr dX12_kinding_156 (Option.some.inj h)
  · have h := xit h c37
    exact x_vreturn (pc := 26) o hr dX12_kinding_26 (Option.some.inj h)
def fX12_kinding (n : Nat) (k0 : Nat) (S : xSt) : Option (xSt) :=
  if tM.1 k0 = 12 then
  ((xgF tM 12 14 k0 S).bind fun r1 =>
  (xgI tM 12 40 k0 S).bind fun v2 =>
  (xal tM r1 v2 S).bind fun v3 =>
  if v3 = ((6 : Int32)) then
  (fX12_kinding_B20 n k0 k0 ((1 : Int32)) S)
else
  (fX12_kinding_B20 n k0 k0 ((0 : Int32)) S))
  else none
theorem kX12_kinding {z : xSt} {n : Nat} {k0 : Nat} {S : xSt} (h : fX12_kinding n k0 S = some z) : tM.1 k0 = 12 := by
  unfold fX12_kinding at h
  exact (xck h).1
set_option maxHeartbeats 4000000 in
theorem tX12_kinding (l : Launch) (M : xMg) (A : Nat → Prop) (n : Nat) (k0 : Nat) (S : xSt) (z : xSt) (h : fX12_kinding n k0 S = some z) : xMV l yX12_kinding cX12_kinding 3 none 5 tM M A [.ref (M.2.1 k0)] S z := by
  refine x_metV (plainFor_of_name (by decide)) tM_ok (Nat.le_of_ble_eq_true rfl) (fun Γ hA hnL hl hr o => ?_)
  subst hA; subst hl
  have o : xOk Γ tM M 5 cX12_kinding RX12 := o
  unfold fX12_kinding at h
  obtain ⟨hk0, h⟩ := xck h
  refine x_to (l := [(0, .ref (M.2.1 k0))]) ⟨rfl, trivial⟩ ?_
  refine x_aload_n (pc := 0) o dX12_kinding_0 rfl rfl ?_
  refine x_aload_n (pc := 1) o dX12_kinding_1 rfl rfl ?_
  obtain ⟨r1, hr1, h⟩ := xbs h
  refine gX12_54 (pc := 2) o dX12_kinding_2 hr1 ?_
  refine x_aload_n (pc := 5) o dX12_kinding_5 rfl rfl ?_
  obtain ⟨v2, hv2, h⟩ := xbs h
  refine gX12_133 (pc := 6) o dX12_kinding_6 hv2 ?_
  obtain ⟨v3, hv3, h⟩ := xbs h
  refine x_iaload (pc := 9) o dX12_kinding_9 hv3 ?_
  refine x_bipush (pc := 10) o dX12_kinding_10 bp_6 ?_
  refine x_icmp_ne (pc := 12) (tgt := 19) o dX12_kinding_12 (by decide) (fun c38 => ?_) (fun c38 => ?_)
  · have h := xif h c38
    refine x_iconst (pc := 19) o dX12_kinding_19 ic_0 ?_
    refine x_to (l := [(0, .ref (M.2.1 k0))]) ⟨rfl, trivial⟩ ?_
    exact tX12_kinding_B20 o hnL n k0 k0 ((0 : Int32)) S z hr h
  · have h := xit h c38
    refine x_iconst (pc := 15) o dX12_kinding_15 ic_1 ?_
    refine x_goto (pc := 16) (tgt := 20) o dX12_kinding_16 (by decide) ?_
    refine x_to (l := [(0, .ref (M.2.1 k0))]) ⟨rfl, trivial⟩ ?_
    exact tX12_kinding_B20 o hnL n k0 k0 ((1 : Int32)) S z hr h
def fX12_tooling_L96b (n : Nat) (k0 : Nat) (rec : Int32 → xSt → Option (xSt)) (a2 : Int32) (S : xSt) : Option (xSt) :=
  if ((6 : Int32)) ≤ a2 then
  (some S)
else
  ((xgF tM 12 21 k0 S).bind fun r21 =>
  (xgI tM 12 40 k0 S).bind fun v22 =>
  (xgF tM 12 17 k0 S).bind fun r23 =>
  (xgI tM 12 40 k0 S).bind fun v24 =>
  (xal tM r23 v24 S).bind fun v25 =>
  (xas tM r21 ((((8 : Int32)) * ((((6 : Int32)) * v22) + a2)) + v25) ((0 : Int32)) S).bind fun S26 =>
  (some (a2 + (1 : Int32))).bind fun v27 =>
  rec v27 S26)
def fX12_tooling_L96 (n : Nat) (k0 : Nat) : Nat → Int32 → xSt → Option (xSt)
  | 0 => fun _ _ => none
  | q + 1 => fX12_tooling_L96b n k0 (fX12_tooling_L96 n k0 q)
set_option maxHeartbeats 4000000 in
theorem tX12_tooling_L96b {Γ : xGm} {M : xMg} (o : xOk Γ tM M 4 cX12_tooling RX12) (hnL : Γ.2.2.2 = 3) {rec : Int32 → xSt → Option (xSt)} (n : Nat) (k0 : Nat) (a2 : Int32) (S : xSt) (z : (xSt)) (hrec : ∀ (a2 : Int32) (S : xSt), rec a2 S = some z → xAt Γ tM M 96 (xlv [(0, .ref (M.2.1 k0)), (2, .int a2)]) [] S) (K : xAt Γ tM M 136 (xlv [(0, .ref (M.2.1 k0))]) [] z) (h : fX12_tooling_L96b n k0 rec a2 S = some z) : xAt Γ tM M 96 (xlv [(0, .ref (M.2.1 k0)), (2, .int a2)]) [] S := by
  have hn2 : 2 < Γ.2.2.2 := by omega
  unfold fX12_tooling_L96b at h
  refine x_iload_n (pc := 96) o dX12_tooling_96 rfl rfl ?_
  refine x_bipush (pc := 97) o dX12_tooling_97 bp_6 ?_
  refine x_icmp_ge (pc := 99) (tgt := 136) o dX12_tooling_99 (by decide) (fun c28 => ?_) (fun c28 => ?_)
  · have h := xit h c28
    refine x_to (l := [(0, .ref (M.2.1 k0))]) ⟨rfl, trivial⟩ ?_
    cases Option.some.inj h
    exact K
  · have h := xif h c28
    refine x_aload_n (pc := 102) o dX12_tooling_102 rfl rfl ?_
    obtain ⟨r21, hr21, h⟩ := xbs h
    refine gX12_75 (pc := 103) o dX12_tooling_103 hr21 ?_
    refine x_bipush (pc := 106) o dX12_tooling_106 bp_8 ?_
    refine x_bipush (pc := 108) o dX12_tooling_108 bp_6 ?_
    refine x_aload_n (pc := 110) o dX12_tooling_110 rfl rfl ?_
    obtain ⟨v22, hv22, h⟩ := xbs h
    refine gX12_133 (pc := 111) o dX12_tooling_111 hv22 ?_
    refine x_imul (pc := 114) o dX12_tooling_114 ?_
    refine x_iload_n (pc := 115) o dX12_tooling_115 rfl rfl ?_
    refine x_iadd (pc := 116) o dX12_tooling_116 ?_
    refine x_imul (pc := 117) o dX12_tooling_117 ?_
    refine x_aload_n (pc := 118) o dX12_tooling_118 rfl rfl ?_
    obtain ⟨r23, hr23, h⟩ := xbs h
    refine gX12_63 (pc := 119) o dX12_tooling_119 hr23 ?_
    refine x_aload_n (pc := 122) o dX12_tooling_122 rfl rfl ?_
    obtain ⟨v24, hv24, h⟩ := xbs h
    refine gX12_133 (pc := 123) o dX12_tooling_123 hv24 ?_
    obtain ⟨v25, hv25, h⟩ := xbs h
    refine x_iaload (pc := 126) o dX12_tooling_126 hv25 ?_
    refine x_iadd (pc := 127) o dX12_tooling_127 ?_
    refine x_iconst (pc := 128) o dX12_tooling_128 ic_0 ?_
    obtain ⟨S26, hS26, h⟩ := xbs h
    refine x_iastore (pc := 129) o dX12_tooling_129 hS26 ?_
    obtain ⟨v27, hv27, h⟩ := xbs h
    refine x_iincE (pc := 130) o dX12_tooling_130 rfl ic_1 hn2 hv27 ?_
    refine x_goto (pc := 133) (tgt := 96) o dX12_tooling_133 (by decide) ?_
    refine x_to (l := [(0, .ref (M.2.1 k0)), (2, .int v27)]) ⟨rfl, rfl, trivial⟩ ?_
    exact hrec v27 S26 h
theorem tX12_tooling_L96 {Γ : xGm} {M : xMg} (o : xOk Γ tM M 4 cX12_tooling RX12) (hnL : Γ.2.2.2 = 3) (n : Nat) (k0 : Nat) (z : (xSt)) (K : xAt Γ tM M 136 (xlv [(0, .ref (M.2.1 k0))]) [] z) : ∀ (q : Nat) (a2 : Int32) (S : xSt), fX12_tooling_L96 n k0 q a2 S = some z → xAt Γ tM M 96 (xlv [(0, .ref (M.2.1 k0)), (2, .int a2)]) [] S := by
  intro q
  induction q with
  | zero => intro a2 S h; cases h
  | succ q ih => intro a2 S h; exact tX12_tooling_L96b o hnL n k0 a2 S z ih K h
def fX12_tooling_B20 (n : Nat) (k0 : Nat) (s0 : Nat) (s1 : Int32) (S : xSt) : Option (xSt) :=
  (fX12_counts n s0 s1 S).bind fun q4 =>
  if q4.1 = 0 then
  (some q4.2)
else
  ((xgI tM 12 40 k0 q4.2).bind fun v5 =>
  (xgF tM 12 17 k0 q4.2).bind fun r6 =>
  (xgI tM 12 40 k0 q4.2).bind fun v7 =>
  (xal tM r6 v7 q4.2).bind fun v8 =>
  (some ((((8 : Int32)) * v5) + v8)).bind fun v9 =>
  (xgF tM 12 36 k0 q4.2).bind fun r10 =>
  (fX12_fresh n k0 q4.2).bind fun q11 =>
  (xls tM r10 v9 q11.1 q11.2).bind fun S12 =>
  (fX12_must_ n k0 ((26995 : Int64)) S12).bind fun S13 =>
  (xgF tM 12 18 k0 S13).bind fun r14 =>
  (fX12_askedBut n k0 ((0 : Int32)) ((0 : Int32)) S13).bind fun q15 =>
  (xas tM r14 v9 q15.1 q15.2).bind fun S16 =>
  (fX12_must_ n k0 ((2003792494 : Int64)) S16).bind fun S17 =>
  (xgF tM 12 19 k0 S17).bind fun r18 =>
  (fX12_number n k0 ((0 : Int32)) ((99 : Int32)) S17).bind fun q19 =>
  (xas tM r18 v9 q19.1 q19.2).bind fun S20 =>
  (fX12_tooling_L96 n k0 n ((0 : Int32)) S20).bind fun z29 => (xgI tM 12 8 k0 z29).bind fun v30 =>
  if v30 = 0 then
  ((xgF tM 12 17 k0 z29).bind fun r31 =>
  (xgI tM 12 40 k0 z29).bind fun v32 =>
  (xal tM r31 v32 z29).bind fun v33 =>
  (xas tM r31 v32 (v33 + ((1 : Int32))) z29).bind fun S34 =>
  some S34)
else
  (some z29))
set_option maxHeartbeats 4000000 in
theorem tX12_tooling_B20 {Γ : xGm} {M : xMg} (o : xOk Γ tM M 4 cX12_tooling RX12) (hnL : Γ.2.2.2 = 3) (n : Nat) (k0 : Nat) (s0 : Nat) (s1 : Int32) (S : xSt) (z : (xSt)) (hr : xRV Γ tM M none z) (h : fX12_tooling_B20 n k0 s0 s1 S = some z) : xAt Γ tM M 20 (xlv [(0, .ref (M.2.1 k0))]) [.int s1, .ref (M.2.1 s0)] S := by
  have hn1 : 1 < Γ.2.2.2 := by omega
  have hn2 : 2 < Γ.2.2.2 := by omega
  unfold fX12_tooling_B20 at h
  obtain ⟨q4, hq4, h⟩ := xbs h
  refine x_callI (pc := 20) (As := [.int s1]) (b := s0) (rest := []) o (tX12_counts _ M _ n s0 s1 S q4 hq4) eX12_counts mX12_432 clX12 (kX12_counts hq4) (by decide) rfl rfl (Nat.le_of_ble_eq_true rfl) dX12_tooling_20 ?_
  refine x_if_ne (pc := 23) (tgt := 27) o dX12_tooling_23 (by decide) (fun c36 => ?_) (fun c36 => ?_)
  · have h := xif h c36
    refine x_bipush (pc := 27) o dX12_tooling_27 bp_8 ?_
    refine x_aload_n (pc := 29) o dX12_tooling_29 rfl rfl ?_
    obtain ⟨v5, hv5, h⟩ := xbs h
    refine gX12_133 (pc := 30) o dX12_tooling_30 hv5 ?_
    refine x_imul (pc := 33) o dX12_tooling_33 ?_
    refine x_aload_n (pc := 34) o dX12_tooling_34 rfl rfl ?_
    obtain ⟨r6, hr6, h⟩ := xbs h
    refine gX12_63 (pc := 35) o dX12_tooling_35 hr6 ?_
    refine x_aload_n (pc := 38) o dX12_tooling_38 rfl rfl ?_
    obtain ⟨v7, hv7, h⟩ := xbs h
    refine gX12_133 (pc := 39) o dX12_tooling_39 hv7 ?_
    obtain ⟨v8, hv8, h⟩ := xbs h
    refine x_iaload (pc := 42) o dX12_tooling_42 hv8 ?_
    refine x_iadd (pc := 43) o dX12_tooling_43 ?_
    obtain ⟨v9, hv9, h⟩ := xbs h
    refine x_istore_nE (pc := 44) o dX12_tooling_44 rfl hn1 hv9 ?_
    refine x_aload_n (pc := 45) o dX12_tooling_45 rfl rfl ?_
    obtain ⟨r10, hr10, h⟩ := xbs h
    refine gX12_121 (pc := 46) o dX12_tooling_46 hr10 ?_
    refine x_iload_n (pc := 49) o dX12_tooling_49 rfl rfl ?_
    refine x_aload_n (pc := 50) o dX12_tooling_50 rfl rfl ?_
    obtain ⟨q11, hq11, h⟩ := xbs h
    refine x_callL (pc := 51) (As := []) (b := k0) (rest := [.int v9, .ref (M.2.1 r10)]) o (tX12_fresh _ M _ n k0 q4.2 q11 hq11) eX12_fresh mX12_436 clX12 (kX12_fresh hq11) (by decide) rfl rfl (Nat.le_of_ble_eq_true rfl) dX12_tooling_51 ?_
    obtain ⟨S12, hS12, h⟩ := xbs h
    refine x_lastore (pc := 54) o dX12_tooling_54 hS12 ?_
    refine x_aload_n (pc := 55) o dX12_tooling_55 rfl rfl ?_
    refine x_ldc2 (pc := 56) o kcX12_315 dX12_tooling_56 ?_
    obtain ⟨S13, hS13, h⟩ := xbs h
    refine x_callV (pc := 59) (As := [.long ((26995 : Int64))]) (b := k0) (rest := []) o (tX12_must_ _ M _ n k0 ((26995 : Int64)) S12 S13 hS13) eX12_must_ mX12_428 clX12 (kX12_must_ hS13) (by decide) rfl rfl (Nat.le_of_ble_eq_true rfl) dX12_tooling_59 ?_
    refine x_aload_n (pc := 62) o dX12_tooling_62 rfl rfl ?_
    obtain ⟨r14, hr14, h⟩ := xbs h
    refine gX12_66 (pc := 63) o dX12_tooling_63 hr14 ?_
    refine x_iload_n (pc := 66) o dX12_tooling_66 rfl rfl ?_
    refine x_aload_n (pc := 67) o dX12_tooling_67 rfl rfl ?_
    refine x_iconst (pc := 68) o dX12_tooling_68 ic_0 ?_
    refine x_iconst (pc := 69) o dX12_tooling_69 ic_0 ?_
    obtain ⟨q15, hq15, h⟩ := xbs h
    refine x_callI (pc := 70) (As := [.int ((0 : Int32)), .int ((0 : Int32))]) (b := k0) (rest := [.int v9, .ref (M.2.1 r14)]) o (tX12_askedBut _ M _ n k0 ((0 : Int32)) ((0 : Int32)) S13 q15 hq15) eX12_askedBut mX12_444 clX12 (kX12_askedBut hq15) (by decide) rfl rfl (Nat.le_of_ble_eq_true rfl) dX12_tooling_70 ?_
    obtain ⟨S16, hS16, h⟩ := xbs h
    refine x_iastore (pc := 73) o dX12_tooling_73 hS16 ?_
    refine x_aload_n (pc := 74) o dX12_tooling_74 rfl rfl ?_
    refine x_ldc2 (pc := 75) o kcX12_317 dX12_tooling_75 ?_
    obtain ⟨S17, hS17, h⟩ := xbs h
    refine x_callV (pc := 78) (As := [.long ((2003792494 : Int64))]) (b := k0) (rest := []) o (tX12_must_ _ M _ n k0 ((2003792494 : Int64)) S16 S17 hS17) eX12_must_ mX12_428 clX12 (kX12_must_ hS17) (by decide) rfl rfl (Nat.le_of_ble_eq_true rfl) dX12_tooling_78 ?_
    refine x_aload_n (pc := 81) o dX12_tooling_81 rfl rfl ?_
    obtain ⟨r18, hr18, h⟩ := xbs h
    refine gX12_69 (pc := 82) o dX12_tooling_82 hr18 ?_
    refine x_iload_n (pc := 85) o dX12_tooling_85 rfl rfl ?_
    refine x_aload_n (pc := 86) o dX12_tooling_86 rfl rfl ?_
    refine x_iconst (pc := 87) o dX12_tooling_87 ic_0 ?_
    refine x_bipush (pc := 88) o dX12_tooling_88 bp_99 ?_
    obtain ⟨q19, hq19, h⟩ := xbs h
    refine x_callI (pc := 90) (As := [.int ((0 : Int32)), .int ((99 : Int32))]) (b := k0) (rest := [.int v9, .ref (M.2.1 r18)]) o (tX12_number _ M _ n k0 ((0 : Int32)) ((99 : Int32)) S17 q19 hq19) eX12_number mX12_425 clX12 (kX12_number hq19) (by decide) rfl rfl (Nat.le_of_ble_eq_true rfl) dX12_tooling_90 ?_
    obtain ⟨S20, hS20, h⟩ := xbs h
    refine x_iastore (pc := 93) o dX12_tooling_93 hS20 ?_
    refine x_iconst (pc := 94) o dX12_tooling_94 ic_0 ?_
    refine x_istore_n (pc := 95) o dX12_tooling_95 rfl hn2 ?_
    obtain ⟨z29, hz29, h⟩ := xbs h
    refine x_to (l := [(0, .ref (M.2.1 k0)), (2, .int ((0 : Int32)))]) ⟨rfl, rfl, trivial⟩ ?_
    refine tX12_tooling_L96 o hnL n k0 z29 ?_ n ((0 : Int32)) S20 hz29
    refine x_aload_n (pc := 136) o dX12_tooling_136 rfl rfl ?_
    obtain ⟨v30, hv30, h⟩ := xbs h
    refine gX12_36 (pc := 137) o dX12_tooling_137 hv30 ?_
    refine x_if_ne (pc := 140) (tgt := 156) o dX12_tooling_140 (by decide) (fun c35 => ?_) (fun c35 => ?_)
    · have h := xif h c35
      exact x_vreturn (pc := 156) o hr dX12_tooling_156 (Option.some.inj h)
    · have h := xit h c35
      refine x_aload_n (pc := 143) o dX12_tooling_143 rfl rfl ?_
      obtain ⟨r31, hr31, h⟩ := xbs h
      refine gX12_63 (pc := 144) o dX12_tooling_144 hr31 ?_
      refine x_aload_n (pc := 147) o dX12_tooling_147 rfl rfl ?_
      obtain ⟨v32, hv32, h⟩ := xbs h
      refine gX12_133 (pc := 148) o dX12_tooling_148 hv32 ?_
      refine x_dup2 (pc := 151) o dX12_tooling_151 rfl rfl ?_
      obtain ⟨v33, hv33, h⟩ := xbs h
      refine x_iaload (pc := 152) o dX12_tooling_152 hv33 ?_
      refine x_iconst (pc := 153) o dX12_tooling_153 ic_1 ?_
      refine x_iadd (pc := 154) o dX12_tooling_154 ?_
      obtain ⟨S34, hS34, h⟩ := xbs h
      refine x_iastore (pc := 155) o dX12_tooling_155 hS34 ?_
      exact x_vreturn (pc := 156) o hr dX12_tooling_156 (Option.some.inj h)
  · have h := xit h c36
    exact x_vreturn (pc := 26) o hr dX12_tooling_26 (Option.some.inj h)
def fX12_tooling (n : Nat) (k0 : Nat) (S : xSt) : Option (xSt) :=
  if tM.1 k0 = 12 then
  ((xgF tM 12 17 k0 S).bind fun r1 =>
  (xgI tM 12 40 k0 S).bind fun v2 =>
  (xal tM r1 v2 S).bind fun v3 =>
  if v3 = ((8 : Int32)) then
  (fX12_tooling_B20 n k0 k0 ((1 : Int32)) S)
else
  (fX12_tooling_B20 n k0 k0 ((0 : Int32)) S))
  else none
theorem kX12_tooling {z : xSt} {n : Nat} {k0 : Nat} {S : xSt} (h : fX12_tooling n k0 S = some z) : tM.1 k0 = 12 := by
  unfold fX12_tooling at h
  exact (xck h).1
set_option maxHeartbeats 4000000 in
theorem tX12_tooling (l : Launch) (M : xMg) (A : Nat → Prop) (n : Nat) (k0 : Nat) (S : xSt) (z : xSt) (h : fX12_tooling n k0 S = some z) : xMV l yX12_tooling cX12_tooling 3 none 4 tM M A [.ref (M.2.1 k0)] S z := by
  refine x_metV (plainFor_of_name (by decide)) tM_ok (Nat.le_of_ble_eq_true rfl) (fun Γ hA hnL hl hr o => ?_)
  subst hA; subst hl
  have o : xOk Γ tM M 4 cX12_tooling RX12 := o
  unfold fX12_tooling at h
  obtain ⟨hk0, h⟩ := xck h
  refine x_to (l := [(0, .ref (M.2.1 k0))]) ⟨rfl, trivial⟩ ?_
  refine x_aload_n (pc := 0) o dX12_tooling_0 rfl rfl ?_
  refine x_aload_n (pc := 1) o dX12_tooling_1 rfl rfl ?_
  obtain ⟨r1, hr1, h⟩ := xbs h
  refine gX12_63 (pc := 2) o dX12_tooling_2 hr1 ?_
  refine x_aload_n (pc := 5) o dX12_tooling_5 rfl rfl ?_
  obtain ⟨v2, hv2, h⟩ := xbs h
  refine gX12_133 (pc := 6) o dX12_tooling_6 hv2 ?_
  obtain ⟨v3, hv3, h⟩ := xbs h
  refine x_iaload (pc := 9) o dX12_tooling_9 hv3 ?_
  refine x_bipush (pc := 10) o dX12_tooling_10 bp_8 ?_
  refine x_icmp_ne (pc := 12) (tgt := 19) o dX12_tooling_12 (by decide) (fun c37 => ?_) (fun c37 => ?_)
  · have h := xif h c37
    refine x_iconst (pc := 19) o dX12_tooling_19 ic_0 ?_
    refine x_to (l := [(0, .ref (M.2.1 k0))]) ⟨rfl, trivial⟩ ?_
    exact tX12_tooling_B20 o hnL n k0 k0 ((0 : Int32)) S z hr h
  · have h := xit h c37
    refine x_iconst (pc := 15) o dX12_tooling_15 ic_1 ?_
    refine x_goto (pc := 16) (tgt := 20) o dX12_tooling_16 (by decide) ?_
    refine x_to (l := [(0, .ref (M.2.1 k0))]) ⟨rfl, trivial⟩ ?_
    exact tX12_tooling_B20 o hnL n k0 k0 ((1 : Int32)) S z hr h
def fX12_handing_L57b (n : Nat) (k0 : Nat) (a1 : Int32) (rec : Int32 → xSt → Option (xSt)) (a2 : Int32) (S : xSt) : Option (xSt) :=
  if ((8 : Int32)) ≤ a2 then
  (some S)
else
  ((xgF tM 12 21 k0 S).bind fun r13 =>
  (xas tM r13 ((((8 : Int32)) * a1) + a2) ((0 : Int32)) S).bind fun S14 =>
  (some (a2 + (1 : Int32))).bind fun v15 =>
  rec v15 S14)
def fX12_handing_L57 (n : Nat) (k0 : Nat) (a1 : Int32) : Nat → Int32 → xSt → Option (xSt)
  | 0 => fun _ _ => none
  | q + 1 => fX12_handing_L57b n k0 a1 (fX12_handing_L57 n k0 a1 q)
set_option maxHeartbeats 4000000 in
theorem tX12_handing_L57b {Γ : xGm} {M : xMg} (o : xOk Γ tM M 4 cX12_handing RX12) (hnL : Γ.2.2.2 = 3) {rec : Int32 → xSt → Option (xSt)} (n : Nat) (k0 : Nat) (a1 : Int32) (a2 : Int32) (S : xSt) (z : (xSt)) (hrec : ∀ (a2 : Int32) (S : xSt), rec a2 S = some z → xAt Γ tM M 57 (xlv [(0, .ref (M.2.1 k0)), (1, .int a1), (2, .int a2)]) [] S) (K : xAt Γ tM M 81 (xlv [(0, .ref (M.2.1 k0))]) [] z) (h : fX12_handing_L57b n k0 a1 rec a2 S = some z) : xAt Γ tM M 57 (xlv [(0, .ref (M.2.1 k0)), (1, .int a1), (2, .int a2)]) [] S := by
  have hn2 : 2 < Γ.2.2.2 := by omega
  unfold fX12_handing_L57b at h
  refine x_iload_n (pc := 57) o dX12_handing_57 rfl rfl ?_
  refine x_bipush (pc := 58) o dX12_handing_58 bp_8 ?_
  refine x_icmp_ge (pc := 60) (tgt := 81) o dX12_handing_60 (by decide) (fun c16 => ?_) (fun c16 => ?_)
  · have h := xit h c16
    refine x_to (l := [(0, .ref (M.2.1 k0))]) ⟨rfl, trivial⟩ ?_
    cases Option.some.inj h
    exact K
  · have h := xif h c16
    refine x_aload_n (pc := 63) o dX12_handing_63 rfl rfl ?_
    obtain ⟨r13, hr13, h⟩ := xbs h
    refine gX12_75 (pc := 64) o dX12_handing_64 hr13 ?_
    refine x_bipush (pc := 67) o dX12_handing_67 bp_8 ?_
    refine x_iload_n (pc := 69) o dX12_handing_69 rfl rfl ?_
    refine x_imul (pc := 70) o dX12_handing_70 ?_
    refine x_iload_n (pc := 71) o dX12_handing_71 rfl rfl ?_
    refine x_iadd (pc := 72) o dX12_handing_72 ?_
    refine x_iconst (pc := 73) o dX12_handing_73 ic_0 ?_
    obtain ⟨S14, hS14, h⟩ := xbs h
    refine x_iastore (pc := 74) o dX12_handing_74 hS14 ?_
    obtain ⟨v15, hv15, h⟩ := xbs h
    refine x_iincE (pc := 75) o dX12_handing_75 rfl ic_1 hn2 hv15 ?_
    refine x_goto (pc := 78) (tgt := 57) o dX12_handing_78 (by decide) ?_
    refine x_to (l := [(0, .ref (M.2.1 k0)), (1, .int a1), (2, .int v15)]) ⟨rfl, rfl, rfl, trivial⟩ ?_
    exact hrec v15 S14 h
theorem tX12_handing_L57 {Γ : xGm} {M : xMg} (o : xOk Γ tM M 4 cX12_handing RX12) (hnL : Γ.2.2.2 = 3) (n : Nat) (k0 : Nat) (a1 : Int32) (z : (xSt)) (K : xAt Γ tM M 81 (xlv [(0, .ref (M.2.1 k0))]) [] z) : ∀ (q : Nat) (a2 : Int32) (S : xSt), fX12_handing_L57 n k0 a1 q a2 S = some z → xAt Γ tM M 57 (xlv [(0, .ref (M.2.1 k0)), (1, .int a1), (2, .int a2)]) [] S := by
  intro q
  induction q with
  | zero => intro a2 S h; cases h
  | succ q ih => intro a2 S h; exact tX12_handing_L57b o hnL n k0 a1 a2 S z ih K h
def fX12_handing_B20 (n : Nat) (k0 : Nat) (s0 : Nat) (s1 : Int32) (S : xSt) : Option (xSt) :=
  (fX12_counts n s0 s1 S).bind fun q4 =>
  if q4.1 = 0 then
  (some q4.2)
else
  ((xgI tM 12 40 k0 q4.2).bind fun v5 =>
  (xgF tM 12 20 k0 q4.2).bind fun r6 =>
  (xgI tM 12 40 k0 q4.2).bind fun v7 =>
  (xal tM r6 v7 q4.2).bind fun v8 =>
  (some ((((6 : Int32)) * v5) + v8)).bind fun v9 =>
  (xgF tM 12 37 k0 q4.2).bind fun r10 =>
  (fX12_fresh n k0 q4.2).bind fun q11 =>
  (xls tM r10 v9 q11.1 q11.2).bind fun S12 =>
  (fX12_handing_L57 n k0 v9 n ((0 : Int32)) S12).bind fun z17 => (xgI tM 12 8 k0 z17).bind fun v18 =>
  if v18 = 0 then
  ((xgF tM 12 20 k0 z17).bind fun r19 =>
  (xgI tM 12 40 k0 z17).bind fun v20 =>
  (xal tM r19 v20 z17).bind fun v21 =>
  (xas tM r19 v20 (v21 + ((1 : Int32))) z17).bind fun S22 =>
  some S22)
else
  (some z17))
set_option maxHeartbeats 4000000 in
theorem tX12_handing_B20 {Γ : xGm} {M : xMg} (o : xOk Γ tM M 4 cX12_handing RX12) (hnL : Γ.2.2.2 = 3) (n : Nat) (k0 : Nat) (s0 : Nat) (s1 : Int32) (S : xSt) (z : (xSt)) (hr : xRV Γ tM M none z) (h : fX12_handing_B20 n k0 s0 s1 S = some z) : xAt Γ tM M 20 (xlv [(0, .ref (M.2.1 k0))]) [.int s1, .ref (M.2.1 s0)] S := by
  have hn1 : 1 < Γ.2.2.2 := by omega
  have hn2 : 2 < Γ.2.2.2 := by omega
  unfold fX12_handing_B20 at h
  obtain ⟨q4, hq4, h⟩ := xbs h
  refine x_callI (pc := 20) (As := [.int s1]) (b := s0) (rest := []) o (tX12_counts _ M _ n s0 s1 S q4 hq4) eX12_counts mX12_432 clX12 (kX12_counts hq4) (by decide) rfl rfl (Nat.le_of_ble_eq_true rfl) dX12_handing_20 ?_
  refine x_if_ne (pc := 23) (tgt := 27) o dX12_handing_23 (by decide) (fun c24 => ?_) (fun c24 => ?_)
  · have h := xif h c24
    refine x_bipush (pc := 27) o dX12_handing_27 bp_6 ?_
    refine x_aload_n (pc := 29) o dX12_handing_29 rfl rfl ?_
    obtain ⟨v5, hv5, h⟩ := xbs h
    refine gX12_133 (pc := 30) o dX12_handing_30 hv5 ?_
    refine x_imul (pc := 33) o dX12_handing_33 ?_
    refine x_aload_n (pc := 34) o dX12_handing_34 rfl rfl ?_
    obtain ⟨r6, hr6, h⟩ := xbs h
    refine gX12_72 (pc := 35) o dX12_handing_35 hr6 ?_
    refine x_aload_n (pc := 38) o dX12_handing_38 rfl rfl ?_
    obtain ⟨v7, hv7, h⟩ := xbs h
    refine gX12_133 (pc := 39) o dX12_handing_39 hv7 ?_
    obtain ⟨v8, hv8, h⟩ := xbs h
    refine x_iaload (pc := 42) o dX12_handing_42 hv8 ?_
    refine x_iadd (pc := 43) o dX12_handing_43 ?_
    obtain ⟨v9, hv9, h⟩ := xbs h
    refine x_istore_nE (pc := 44) o dX12_handing_44 rfl hn1 hv9 ?_
    refine x_aload_n (pc := 45) o dX12_handing_45 rfl rfl ?_
    obtain ⟨r10, hr10, h⟩ := xbs h
    refine gX12_124 (pc := 46) o dX12_handing_46 hr10 ?_
    refine x_iload_n (pc := 49) o dX12_handing_49 rfl rfl ?_
    refine x_aload_n (pc := 50) o dX12_handing_50 rfl rfl ?_
    obtain ⟨q11, hq11, h⟩ := xbs h
    refine x_callL (pc := 51) (As := []) (b := k0) (rest := [.int v9, .ref (M.2.1 r10)]) o (tX12_fresh _ M _ n k0 q4.2 q11 hq11) eX12_fresh mX12_436 clX12 (kX12_fresh hq11) (by decide) rfl rfl (Nat.le_of_ble_eq_true rfl) dX12_handing_51 ?_
    obtain ⟨S12, hS12, h⟩ := xbs h
    refine x_lastore (pc := 54) o dX12_handing_54 hS12 ?_
    refine x_iconst (pc := 55) o dX12_handing_55 ic_0 ?_
    refine x_istore_n (pc := 56) o dX12_handing_56 rfl hn2 ?_
    obtain ⟨z17, hz17, h⟩ := xbs h
    refine x_to (l := [(0, .ref (M.2.1 k0)), (1, .int v9), (2, .int ((0 : Int32)))]) ⟨rfl, rfl, rfl, trivial⟩ ?_
    refine tX12_handing_L57 o hnL n k0 v9 z17 ?_ n ((0 : Int32)) S12 hz17
    refine x_aload_n (pc := 81) o dX12_handing_81 rfl rfl ?_
    obtain ⟨v18, hv18, h⟩ := xbs h
    refine gX12_36 (pc := 82) o dX12_handing_82 hv18 ?_
    refine x_if_ne (pc := 85) (tgt := 101) o dX12_handing_85 (by decide) (fun c23 => ?_) (fun c23 => ?_)
    · have h := xif h c23
      exact x_vreturn (pc := 101) o hr dX12_handing_101 (Option.some.inj h)
    · have h := xit h c23
      refine x_aload_n (pc := 88) o dX12_handing_88 rfl rfl ?_
      obtain ⟨r19, hr19, h⟩ := xbs h
      refine gX12_72 (pc := 89) o dX12_handing_89 hr19 ?_
      refine x_aload_n (pc := 92) o dX12_handing_92 rfl rfl ?_
      obtain ⟨v20, hv20, h⟩ := xbs h
      refine gX12_133 (pc := 93) o dX12_handing_93 hv20 ?_
      refine x_dup2 (pc := 96) o dX12_handing_96 rfl rfl ?_
      obtain ⟨v21, hv21, h⟩ := xbs h
      refine x_iaload (pc := 97) o dX12_handing_97 hv21 ?_
      refine x_iconst (pc := 98) o dX12_handing_98 ic_1 ?_
      refine x_iadd (pc := 99) o dX12_handing_99 ?_
      obtain ⟨S22, hS22, h⟩ := xbs h
      refine x_iastore (pc := 100) o dX12_handing_100 hS22 ?_
      exact x_vreturn (pc := 101) o hr dX12_handing_101 (Option.some.inj h)
  · have h := xit h c24
    exact x_vreturn (pc := 26) o hr dX12_handing_26 (Option.some.inj h)
def fX12_handing (n : Nat) (k0 : Nat) (S : xSt) : Option (xSt) :=
  if tM.1 k0 = 12 then
  ((xgF tM 12 20 k0 S).bind fun r1 =>
  (xgI tM 12 40 k0 S).bind fun v2 =>
  (xal tM r1 v2 S).bind fun v3 =>
  if v3 = ((6 : Int32)) then
  (fX12_handing_B20 n k0 k0 ((1 : Int32)) S)
else
  (fX12_handing_B20 n k0 k0 ((0 : Int32)) S))
  else none
theorem kX12_handing {z : xSt} {n : Nat} {k0 : Nat} {S : xSt} (h : fX12_handing n k0 S = some z) : tM.1 k0 = 12 := by
  unfold fX12_handing at h
  exact (xck h).1
set_option maxHeartbeats 4000000 in
theorem tX12_handing (l : Launch) (M : xMg) (A : Nat → Prop) (n : Nat) (k0 : Nat) (S : xSt) (z : xSt) (h : fX12_handing n k0 S = some z) : xMV l yX12_handing cX12_handing 3 none 4 tM M A [.ref (M.2.1 k0)] S z := by
  refine x_metV (plainFor_of_name (by decide)) tM_ok (Nat.le_of_ble_eq_true rfl) (fun Γ hA hnL hl hr o => ?_)
  subst hA; subst hl
  have o : xOk Γ tM M 4 cX12_handing RX12 := o
  unfold fX12_handing at h
  obtain ⟨hk0, h⟩ := xck h
  refine x_to (l := [(0, .ref (M.2.1 k0))]) ⟨rfl, trivial⟩ ?_
  refine x_aload_n (pc := 0) o dX12_handing_0 rfl rfl ?_
  refine x_aload_n (pc := 1) o dX12_handing_1 rfl rfl ?_
  obtain ⟨r1, hr1, h⟩ := xbs h
  refine gX12_72 (pc := 2) o dX12_handing_2 hr1 ?_
  refine x_aload_n (pc := 5) o dX12_handing_5 rfl rfl ?_
  obtain ⟨v2, hv2, h⟩ := xbs h
  refine gX12_133 (pc := 6) o dX12_handing_6 hv2 ?_
  obtain ⟨v3, hv3, h⟩ := xbs h
  refine x_iaload (pc := 9) o dX12_handing_9 hv3 ?_
  refine x_bipush (pc := 10) o dX12_handing_10 bp_6 ?_
  refine x_icmp_ne (pc := 12) (tgt := 19) o dX12_handing_12 (by decide) (fun c25 => ?_) (fun c25 => ?_)
  · have h := xif h c25
    refine x_iconst (pc := 19) o dX12_handing_19 ic_0 ?_
    refine x_to (l := [(0, .ref (M.2.1 k0))]) ⟨rfl, trivial⟩ ?_
    exact tX12_handing_B20 o hnL n k0 k0 ((0 : Int32)) S z hr h
  · have h := xit h c25
    refine x_iconst (pc := 15) o dX12_handing_15 ic_1 ?_
    refine x_goto (pc := 16) (tgt := 20) o dX12_handing_16 (by decide) ?_
    refine x_to (l := [(0, .ref (M.2.1 k0))]) ⟨rfl, trivial⟩ ?_
    exact tX12_handing_B20 o hnL n k0 k0 ((1 : Int32)) S z hr h
def fX12_knowing (n : Nat) (k0 : Nat) (S : xSt) : Option (xSt) :=
  if tM.1 k0 = 12 then
  ((fX12_counts n k0 ((0 : Int32)) S).bind fun q1 =>
  if q1.1 = 0 then
  (some q1.2)
else
  ((fX12_askedBut n k0 ((2 : Int32)) ((0 : Int32)) q1.2).bind fun q2 =>
  (fX12_askedBut n k0 ((1 : Int32)) ((0 : Int32)) q2.2).bind fun q3 =>
  (fX12_number n k0 ((0 : Int32)) ((9 : Int32)) q3.2).bind fun q4 =>
  (xgI tM 12 8 k0 q4.2).bind fun v5 =>
  if v5 = 0 then
  ((xgF tM 12 21 k0 q4.2).bind fun r6 =>
  (xgI tM 12 40 k0 q4.2).bind fun v7 =>
  (xas tM r6 ((((8 : Int32)) * ((((6 : Int32)) * v7) + q2.1)) + q3.1) q4.1 q4.2).bind fun S8 =>
  some S8)
else
  (some q4.2)))
  else none
theorem kX12_knowing {z : xSt} {n : Nat} {k0 : Nat} {S : xSt} (h : fX12_knowing n k0 S = some z) : tM.1 k0 = 12 := by
  unfold fX12_knowing at h
  exact (xck h).1
set_option maxHeartbeats 4000000 in
theorem tX12_knowing (l : Launch) (M : xMg) (A : Nat → Prop) (n : Nat) (k0 : Nat) (S : xSt) (z : xSt) (h : fX12_knowing n k0 S = some z) : xMV l yX12_knowing cX12_knowing 4 none 4 tM M A [.ref (M.2.1 k0)] S z := by
  refine x_metV (plainFor_of_name (by decide)) tM_ok (Nat.le_of_ble_eq_true rfl) (fun Γ hA hnL hl hr o => ?_)
  subst hA; subst hl
  have o : xOk Γ tM M 4 cX12_knowing RX12 := o
  unfold fX12_knowing at h
  obtain ⟨hk0, h⟩ := xck h
  refine x_to (l := [(0, .ref (M.2.1 k0))]) ⟨rfl, trivial⟩ ?_
  have hn1 : 1 < Γ.2.2.2 := by omega
  have hn2 : 2 < Γ.2.2.2 := by omega
  have hn3 : 3 < Γ.2.2.2 := by omega
  refine x_aload_n (pc := 0) o dX12_knowing_0 rfl rfl ?_
  refine x_iconst (pc := 1) o dX12_knowing_1 ic_0 ?_
  obtain ⟨q1, hq1, h⟩ := xbs h
  refine x_callI (pc := 2) (As := [.int ((0 : Int32))]) (b := k0) (rest := []) o (tX12_counts _ M _ n k0 ((0 : Int32)) S q1 hq1) eX12_counts mX12_432 clX12 (kX12_counts hq1) (by decide) rfl rfl (Nat.le_of_ble_eq_true rfl) dX12_knowing_2 ?_
  refine x_if_ne (pc := 5) (tgt := 9) o dX12_knowing_5 (by decide) (fun c10 => ?_) (fun c10 => ?_)
  · have h := xif h c10
    refine x_aload_n (pc := 9) o dX12_knowing_9 rfl rfl ?_
    refine x_iconst (pc := 10) o dX12_knowing_10 ic_2 ?_
    refine x_iconst (pc := 11) o dX12_knowing_11 ic_0 ?_
    obtain ⟨q2, hq2, h⟩ := xbs h
    refine x_callI (pc := 12) (As := [.int ((2 : Int32)), .int ((0 : Int32))]) (b := k0) (rest := []) o (tX12_askedBut _ M _ n k0 ((2 : Int32)) ((0 : Int32)) q1.2 q2 hq2) eX12_askedBut mX12_444 clX12 (kX12_askedBut hq2) (by decide) rfl rfl (Nat.le_of_ble_eq_true rfl) dX12_knowing_12 ?_
    refine x_istore_n (pc := 15) o dX12_knowing_15 rfl hn1 ?_
    refine x_aload_n (pc := 16) o dX12_knowing_16 rfl rfl ?_
    refine x_iconst (pc := 17) o dX12_knowing_17 ic_1 ?_
    refine x_iconst (pc := 18) o dX12_knowing_18 ic_0 ?_
    obtain ⟨q3, hq3, h⟩ := xbs h
    refine x_callI (pc := 19) (As := [.int ((1 : Int32)), .int ((0 : Int32))]) (b := k0) (rest := []) o (tX12_askedBut _ M _ n k0 ((1 : Int32)) ((0 : Int32)) q2.2 q3 hq3) eX12_askedBut mX12_444 clX12 (kX12_askedBut hq3) (by decide) rfl rfl (Nat.le_of_ble_eq_true rfl) dX12_knowing_19 ?_
    refine x_istore_n (pc := 22) o dX12_knowing_22 rfl hn2 ?_
    refine x_aload_n (pc := 23) o dX12_knowing_23 rfl rfl ?_
    refine x_iconst (pc := 24) o dX12_knowing_24 ic_0 ?_
    refine x_bipush (pc := 25) o dX12_knowing_25 bp_9 ?_
    obtain ⟨q4, hq4, h⟩ := xbs h
    refine x_callI (pc := 27) (As := [.int ((0 : Int32)), .int ((9 : Int32))]) (b := k0) (rest := []) o (tX12_number _ M _ n k0 ((0 : Int32)) ((9 : Int32)) q3.2 q4 hq4) eX12_number mX12_425 clX12 (kX12_number hq4) (by decide) rfl rfl (Nat.le_of_ble_eq_true rfl) dX12_knowing_27 ?_
    refine x_istore_n (pc := 30) o dX12_knowing_30 rfl hn3 ?_
    refine x_aload_n (pc := 31) o dX12_knowing_31 rfl rfl ?_
    obtain ⟨v5, hv5, h⟩ := xbs h
    refine gX12_36 (pc := 32) o dX12_knowing_32 hv5 ?_
    refine x_if_ne (pc := 35) (tgt := 58) o dX12_knowing_35 (by decide) (fun c9 => ?_) (fun c9 => ?_)
    · have h := xif h c9
      exact x_vreturn (pc := 58) o hr dX12_knowing_58 (Option.some.inj h)
    · have h := xit h c9
      refine x_aload_n (pc := 38) o dX12_knowing_38 rfl rfl ?_
      obtain ⟨r6, hr6, h⟩ := xbs h
      refine gX12_75 (pc := 39) o dX12_knowing_39 hr6 ?_
      refine x_bipush (pc := 42) o dX12_knowing_42 bp_8 ?_
      refine x_bipush (pc := 44) o dX12_knowing_44 bp_6 ?_
      refine x_aload_n (pc := 46) o dX12_knowing_46 rfl rfl ?_
      obtain ⟨v7, hv7, h⟩ := xbs h
      refine gX12_133 (pc := 47) o dX12_knowing_47 hv7 ?_
      refine x_imul (pc := 50) o dX12_knowing_50 ?_
      refine x_iload_n (pc := 51) o dX12_knowing_51 rfl rfl ?_
      refine x_iadd (pc := 52) o dX12_knowing_52 ?_
      refine x_imul (pc := 53) o dX12_knowing_53 ?_
      refine x_iload_n (pc := 54) o dX12_knowing_54 rfl rfl ?_
      refine x_iadd (pc := 55) o dX12_knowing_55 ?_
      refine x_iload_n (pc := 56) o dX12_knowing_56 rfl rfl ?_
      obtain ⟨S8, hS8, h⟩ := xbs h
      refine x_iastore (pc := 57) o dX12_knowing_57 hS8 ?_
      exact x_vreturn (pc := 58) o hr dX12_knowing_58 (Option.some.inj h)
  · have h := xit h c10
    exact x_vreturn (pc := 8) o hr dX12_knowing_8 (Option.some.inj h)
