def fX12_jobbing_B151_87 (n : Nat) (rec : Int32 → Int32 → xSt → Option (Int32 × xSt)) (k0 : Nat) (a1 : Int32) (a2 : Int32) (S : xSt) : Option (Int32 × xSt) :=
  (xgI tM 12 8 k0 S).bind fun v26 =>
  if v26 = 0 then
  ((xgI tM 12 3 k0 S).bind fun v27 =>
  if v27 = ((1 : Int32)) then
  ((xgL tM 12 7 k0 S).bind fun v28 =>
  (fX12_isOwn k0 v28 S).bind fun v29 =>
  if v29 = 0 then
  (rec a2 ((1 : Int32)) S)
else
  (rec a2 ((0 : Int32)) S))
else
  (rec a2 ((0 : Int32)) S))
else
  (rec a2 ((0 : Int32)) S)
set_option maxHeartbeats 4000000 in
theorem tX12_jobbing_B151_87 {Γ : xGm} {M : xMg} (o : xOk Γ tM M 4 cX12_jobbing RX12) (hnL : Γ.2.2.2 = 5) {rec : Int32 → Int32 → xSt → Option (Int32 × xSt)} (n : Nat) (k0 : Nat) (a1 : Int32) (a2 : Int32) (S : xSt) (z : (Int32 × xSt)) (hrec : ∀ (a2 : Int32) (a3 : Int32) (S : xSt), rec a2 a3 S = some z → xAt Γ tM M 87 (xlv [(0, .ref (M.2.1 k0)), (1, .int a1), (2, .int a2), (3, .int a3)]) [] S) (K : xAt Γ tM M 186 (xlv [(0, .ref (M.2.1 k0)), (1, .int a1), (2, .int z.1)]) [] z.2) (h : fX12_jobbing_B151_87 n rec k0 a1 a2 S = some z) : xAt Γ tM M 151 (xlv [(0, .ref (M.2.1 k0)), (1, .int a1), (2, .int a2)]) [] S := by
  have hn3 : 3 < Γ.2.2.2 := by omega
  unfold fX12_jobbing_B151_87 at h
  refine x_aload_n (pc := 151) o dX12_jobbing_151 rfl rfl ?_
  obtain ⟨v26, hv26, h⟩ := xbs h
  refine gX12_36 (pc := 152) o dX12_jobbing_152 hv26 ?_
  refine x_if_ne (pc := 155) (tgt := 181) o dX12_jobbing_155 (by decide) (fun c32 => ?_) (fun c32 => ?_)
  · have h := xif h c32
    refine x_iconst (pc := 181) o dX12_jobbing_181 ic_0 ?_
    refine x_istore_n (pc := 182) o dX12_jobbing_182 rfl hn3 ?_
    refine x_goto (pc := 183) (tgt := 87) o dX12_jobbing_183 (by decide) ?_
    refine x_to (l := [(0, .ref (M.2.1 k0)), (1, .int a1), (2, .int a2), (3, .int ((0 : Int32)))]) ⟨rfl, rfl, rfl, rfl, trivial⟩ ?_
    exact hrec a2 ((0 : Int32)) S h
  · have h := xit h c32
    refine x_aload_n (pc := 158) o dX12_jobbing_158 rfl rfl ?_
    obtain ⟨v27, hv27, h⟩ := xbs h
    refine gX12_20 (pc := 159) o dX12_jobbing_159 hv27 ?_
    refine x_iconst (pc := 162) o dX12_jobbing_162 ic_1 ?_
    refine x_icmp_ne (pc := 163) (tgt := 181) o dX12_jobbing_163 (by decide) (fun c31 => ?_) (fun c31 => ?_)
    · have h := xif h c31
      refine x_iconst (pc := 181) o dX12_jobbing_181 ic_0 ?_
      refine x_istore_n (pc := 182) o dX12_jobbing_182 rfl hn3 ?_
      refine x_goto (pc := 183) (tgt := 87) o dX12_jobbing_183 (by decide) ?_
      refine x_to (l := [(0, .ref (M.2.1 k0)), (1, .int a1), (2, .int a2), (3, .int ((0 : Int32)))]) ⟨rfl, rfl, rfl, rfl, trivial⟩ ?_
      exact hrec a2 ((0 : Int32)) S h
    · have h := xit h c31
      refine x_aload_n (pc := 166) o dX12_jobbing_166 rfl rfl ?_
      refine x_aload_n (pc := 167) o dX12_jobbing_167 rfl rfl ?_
      obtain ⟨v28, hv28, h⟩ := xbs h
      refine gX12_32 (pc := 168) o dX12_jobbing_168 hv28 ?_
      obtain ⟨v29, hv29, h⟩ := xbs h
      refine x_callI (pc := 171) (As := [.long v28]) (b := k0) (rest := []) o (tX12_isOwn _ M _ k0 v28 S v29 hv29) eX12_isOwn mX12_414 clX12 (kX12_isOwn hv29) (by decide) rfl rfl (Nat.le_of_ble_eq_true rfl) dX12_jobbing_171 ?_
      refine x_if_ne (pc := 174) (tgt := 181) o dX12_jobbing_174 (by decide) (fun c30 => ?_) (fun c30 => ?_)
      · have h := xif h c30
        refine x_iconst (pc := 181) o dX12_jobbing_181 ic_0 ?_
        refine x_istore_n (pc := 182) o dX12_jobbing_182 rfl hn3 ?_
        refine x_goto (pc := 183) (tgt := 87) o dX12_jobbing_183 (by decide) ?_
        refine x_to (l := [(0, .ref (M.2.1 k0)), (1, .int a1), (2, .int a2), (3, .int ((0 : Int32)))]) ⟨rfl, rfl, rfl, rfl, trivial⟩ ?_
        exact hrec a2 ((0 : Int32)) S h
      · have h := xit h c30
        refine x_iconst (pc := 177) o dX12_jobbing_177 ic_1 ?_
        refine x_goto (pc := 178) (tgt := 182) o dX12_jobbing_178 (by decide) ?_
        refine x_istore_n (pc := 182) o dX12_jobbing_182 rfl hn3 ?_
        refine x_goto (pc := 183) (tgt := 87) o dX12_jobbing_183 (by decide) ?_
        refine x_to (l := [(0, .ref (M.2.1 k0)), (1, .int a1), (2, .int a2), (3, .int ((1 : Int32)))]) ⟨rfl, rfl, rfl, rfl, trivial⟩ ?_
        exact hrec a2 ((1 : Int32)) S h
def fX12_jobbing_L87b (n : Nat) (k0 : Nat) (a1 : Int32) (rec : Int32 → Int32 → xSt → Option (Int32 × xSt)) (a2 : Int32) (a3 : Int32) (S : xSt) : Option (Int32 × xSt) :=
  if a3 = 0 then
  (some (a2, S))
else
  ((some ((((4 : Int32)) * a1) + a2)).bind fun v18 =>
  (xgF tM 12 25 k0 S).bind fun r19 =>
  (fX12_askedBut n k0 ((0 : Int32)) ((0 : Int32)) S).bind fun q20 =>
  (xas tM r19 v18 q20.1 q20.2).bind fun S21 =>
  (xgF tM 12 26 k0 S21).bind fun r22 =>
  (fX12_number n k0 ((1 : Int32)) ((9 : Int32)) S21).bind fun q23 =>
  (xas tM r22 v18 q23.1 q23.2).bind fun S24 =>
  (some (a2 + (1 : Int32))).bind fun v25 =>
  if v25 = ((4 : Int32)) then
  ((xgI tM 12 3 k0 S24).bind fun v33 =>
  if v33 = ((1 : Int32)) then
  ((xgI tM 12 4 k0 S24).bind fun v34 =>
  (fX12_blame k0 ((6 : Int32)) v34 S24).bind fun S35 =>
  fX12_jobbing_B151_87 n rec k0 a1 v25 S35)
else
  (fX12_jobbing_B151_87 n rec k0 a1 v25 S24))
else
  (fX12_jobbing_B151_87 n rec k0 a1 v25 S24))
def fX12_jobbing_L87 (n : Nat) (k0 : Nat) (a1 : Int32) : Nat → Int32 → Int32 → xSt → Option (Int32 × xSt)
  | 0 => fun _ _ _ => none
  | q + 1 => fX12_jobbing_L87b n k0 a1 (fX12_jobbing_L87 n k0 a1 q)
set_option maxHeartbeats 4000000 in
theorem tX12_jobbing_L87b {Γ : xGm} {M : xMg} (o : xOk Γ tM M 4 cX12_jobbing RX12) (hnL : Γ.2.2.2 = 5) {rec : Int32 → Int32 → xSt → Option (Int32 × xSt)} (n : Nat) (k0 : Nat) (a1 : Int32) (a2 : Int32) (a3 : Int32) (S : xSt) (z : (Int32 × xSt)) (hrec : ∀ (a2 : Int32) (a3 : Int32) (S : xSt), rec a2 a3 S = some z → xAt Γ tM M 87 (xlv [(0, .ref (M.2.1 k0)), (1, .int a1), (2, .int a2), (3, .int a3)]) [] S) (K : xAt Γ tM M 186 (xlv [(0, .ref (M.2.1 k0)), (1, .int a1), (2, .int z.1)]) [] z.2) (h : fX12_jobbing_L87b n k0 a1 rec a2 a3 S = some z) : xAt Γ tM M 87 (xlv [(0, .ref (M.2.1 k0)), (1, .int a1), (2, .int a2), (3, .int a3)]) [] S := by
  have hn2 : 2 < Γ.2.2.2 := by omega
  have hn4 : 4 < Γ.2.2.2 := by omega
  unfold fX12_jobbing_L87b at h
  refine x_iload_n (pc := 87) o dX12_jobbing_87 rfl rfl ?_
  refine x_if_eq (pc := 88) (tgt := 186) o dX12_jobbing_88 (by decide) (fun c38 => ?_) (fun c38 => ?_)
  · have h := xit h c38
    refine x_to (l := [(0, .ref (M.2.1 k0)), (1, .int a1), (2, .int a2)]) ⟨rfl, rfl, rfl, trivial⟩ ?_
    cases Option.some.inj h
    exact K
  · have h := xif h c38
    refine x_iconst (pc := 91) o dX12_jobbing_91 ic_4 ?_
    refine x_iload_n (pc := 92) o dX12_jobbing_92 rfl rfl ?_
    refine x_imul (pc := 93) o dX12_jobbing_93 ?_
    refine x_iload_n (pc := 94) o dX12_jobbing_94 rfl rfl ?_
    refine x_iadd (pc := 95) o dX12_jobbing_95 ?_
    obtain ⟨v18, hv18, h⟩ := xbs h
    refine x_istoreE (pc := 96) o dX12_jobbing_96 hn4 hv18 ?_
    refine x_aload_n (pc := 98) o dX12_jobbing_98 rfl rfl ?_
    obtain ⟨r19, hr19, h⟩ := xbs h
    refine gX12_87 (pc := 99) o dX12_jobbing_99 hr19 ?_
    refine x_iload (pc := 102) o dX12_jobbing_102 rfl ?_
    refine x_aload_n (pc := 104) o dX12_jobbing_104 rfl rfl ?_
    refine x_iconst (pc := 105) o dX12_jobbing_105 ic_0 ?_
    refine x_iconst (pc := 106) o dX12_jobbing_106 ic_0 ?_
    obtain ⟨q20, hq20, h⟩ := xbs h
    refine x_callI (pc := 107) (As := [.int ((0 : Int32)), .int ((0 : Int32))]) (b := k0) (rest := [.int v18, .ref (M.2.1 r19)]) o (tX12_askedBut _ M _ n k0 ((0 : Int32)) ((0 : Int32)) S q20 hq20) eX12_askedBut mX12_444 clX12 (kX12_askedBut hq20) (by decide) rfl rfl (Nat.le_of_ble_eq_true rfl) dX12_jobbing_107 ?_
    obtain ⟨S21, hS21, h⟩ := xbs h
    refine x_iastore (pc := 110) o dX12_jobbing_110 hS21 ?_
    refine x_aload_n (pc := 111) o dX12_jobbing_111 rfl rfl ?_
    obtain ⟨r22, hr22, h⟩ := xbs h
    refine gX12_90 (pc := 112) o dX12_jobbing_112 hr22 ?_
    refine x_iload (pc := 115) o dX12_jobbing_115 rfl ?_
    refine x_aload_n (pc := 117) o dX12_jobbing_117 rfl rfl ?_
    refine x_iconst (pc := 118) o dX12_jobbing_118 ic_1 ?_
    refine x_bipush (pc := 119) o dX12_jobbing_119 bp_9 ?_
    obtain ⟨q23, hq23, h⟩ := xbs h
    refine x_callI (pc := 121) (As := [.int ((1 : Int32)), .int ((9 : Int32))]) (b := k0) (rest := [.int v18, .ref (M.2.1 r22)]) o (tX12_number _ M _ n k0 ((1 : Int32)) ((9 : Int32)) S21 q23 hq23) eX12_number mX12_425 clX12 (kX12_number hq23) (by decide) rfl rfl (Nat.le_of_ble_eq_true rfl) dX12_jobbing_121 ?_
    obtain ⟨S24, hS24, h⟩ := xbs h
    refine x_iastore (pc := 124) o dX12_jobbing_124 hS24 ?_
    obtain ⟨v25, hv25, h⟩ := xbs h
    refine x_iincE (pc := 125) o dX12_jobbing_125 rfl ic_1 hn2 hv25 ?_
    refine x_iload_n (pc := 128) o dX12_jobbing_128 rfl rfl ?_
    refine x_iconst (pc := 129) o dX12_jobbing_129 ic_4 ?_
    refine x_icmp_ne (pc := 130) (tgt := 151) o dX12_jobbing_130 (by decide) (fun c37 => ?_) (fun c37 => ?_)
    · have h := xif h c37
      refine x_to (l := [(0, .ref (M.2.1 k0)), (1, .int a1), (2, .int v25)]) ⟨rfl, rfl, rfl, trivial⟩ ?_
      exact tX12_jobbing_B151_87 o hnL n k0 a1 v25 S24 z hrec K  h
    · have h := xit h c37
      refine x_aload_n (pc := 133) o dX12_jobbing_133 rfl rfl ?_
      obtain ⟨v33, hv33, h⟩ := xbs h
      refine gX12_20 (pc := 134) o dX12_jobbing_134 hv33 ?_
      refine x_iconst (pc := 137) o dX12_jobbing_137 ic_1 ?_
      refine x_icmp_ne (pc := 138) (tgt := 151) o dX12_jobbing_138 (by decide) (fun c36 => ?_) (fun c36 => ?_)
      · have h := xif h c36
        refine x_to (l := [(0, .ref (M.2.1 k0)), (1, .int a1), (2, .int v25)]) ⟨rfl, rfl, rfl, trivial⟩ ?_
        exact tX12_jobbing_B151_87 o hnL n k0 a1 v25 S24 z hrec K  h
      · have h := xit h c36
        refine x_aload_n (pc := 141) o dX12_jobbing_141 rfl rfl ?_
        refine x_bipush (pc := 142) o dX12_jobbing_142 bp_6 ?_
        refine x_aload_n (pc := 144) o dX12_jobbing_144 rfl rfl ?_
        obtain ⟨v34, hv34, h⟩ := xbs h
        refine gX12_23 (pc := 145) o dX12_jobbing_145 hv34 ?_
        obtain ⟨S35, hS35, h⟩ := xbs h
        refine x_callV (pc := 148) (As := [.int ((6 : Int32)), .int v34]) (b := k0) (rest := []) o (tX12_blame _ M _ k0 ((6 : Int32)) v34 S24 S35 hS35) eX12_blame mX12_287 clX12 (kX12_blame hS35) (by decide) rfl rfl (Nat.le_of_ble_eq_true rfl) dX12_jobbing_148 ?_
        refine x_to (l := [(0, .ref (M.2.1 k0)), (1, .int a1), (2, .int v25)]) ⟨rfl, rfl, rfl, trivial⟩ ?_
        exact tX12_jobbing_B151_87 o hnL n k0 a1 v25 S35 z hrec K  h
theorem tX12_jobbing_L87 {Γ : xGm} {M : xMg} (o : xOk Γ tM M 4 cX12_jobbing RX12) (hnL : Γ.2.2.2 = 5) (n : Nat) (k0 : Nat) (a1 : Int32) (z : (Int32 × xSt)) (K : xAt Γ tM M 186 (xlv [(0, .ref (M.2.1 k0)), (1, .int a1), (2, .int z.1)]) [] z.2) : ∀ (q : Nat) (a2 : Int32) (a3 : Int32) (S : xSt), fX12_jobbing_L87 n k0 a1 q a2 a3 S = some z → xAt Γ tM M 87 (xlv [(0, .ref (M.2.1 k0)), (1, .int a1), (2, .int a2), (3, .int a3)]) [] S := by
  intro q
  induction q with
  | zero => intro a2 a3 S h; cases h
  | succ q ih => intro a2 a3 S h; exact tX12_jobbing_L87b o hnL n k0 a1 a2 a3 S z ih K h
def fX12_jobbing_B20 (n : Nat) (k0 : Nat) (s0 : Nat) (s1 : Int32) (S : xSt) : Option (xSt) :=
  (fX12_counts n s0 s1 S).bind fun q4 =>
  if q4.1 = 0 then
  (some q4.2)
else
  ((xgI tM 12 40 k0 q4.2).bind fun v5 =>
  (xgF tM 12 22 k0 q4.2).bind fun r6 =>
  (xgI tM 12 40 k0 q4.2).bind fun v7 =>
  (xal tM r6 v7 q4.2).bind fun v8 =>
  (some ((((6 : Int32)) * v5) + v8)).bind fun v9 =>
  (xgF tM 12 38 k0 q4.2).bind fun r10 =>
  (fX12_fresh n k0 q4.2).bind fun q11 =>
  (xls tM r10 v9 q11.1 q11.2).bind fun S12 =>
  (fX12_must_ n k0 ((25209 : Int64)) S12).bind fun S13 =>
  (xgF tM 12 23 k0 S13).bind fun r14 =>
  (fX12_number n k0 ((0 : Int32)) ((999 : Int32)) S13).bind fun q15 =>
  (xas tM r14 v9 q15.1 q15.2).bind fun S16 =>
  (fX12_must_ n k0 ((1685022067 : Int64)) S16).bind fun S17 =>
  (fX12_jobbing_L87 n k0 v9 n ((0 : Int32)) ((1 : Int32)) S17).bind fun z39 => (xgF tM 12 24 k0 z39.2).bind fun r40 =>
  (xas tM r40 v9 z39.1 z39.2).bind fun S41 =>
  (xgI tM 12 8 k0 S41).bind fun v42 =>
  if v42 = 0 then
  ((xgF tM 12 22 k0 S41).bind fun r43 =>
  (xgI tM 12 40 k0 S41).bind fun v44 =>
  (xal tM r43 v44 S41).bind fun v45 =>
  (xas tM r43 v44 (v45 + ((1 : Int32))) S41).bind fun S46 =>
  some S46)
else
  (some S41))
set_option maxHeartbeats 4000000 in
theorem tX12_jobbing_B20 {Γ : xGm} {M : xMg} (o : xOk Γ tM M 4 cX12_jobbing RX12) (hnL : Γ.2.2.2 = 5) (n : Nat) (k0 : Nat) (s0 : Nat) (s1 : Int32) (S : xSt) (z : (xSt)) (hr : xRV Γ tM M none z) (h : fX12_jobbing_B20 n k0 s0 s1 S = some z) : xAt Γ tM M 20 (xlv [(0, .ref (M.2.1 k0))]) [.int s1, .ref (M.2.1 s0)] S := by
  have hn1 : 1 < Γ.2.2.2 := by omega
  have hn2 : 2 < Γ.2.2.2 := by omega
  have hn3 : 3 < Γ.2.2.2 := by omega
  unfold fX12_jobbing_B20 at h
  obtain ⟨q4, hq4, h⟩ := xbs h
  refine x_callI (pc := 20) (As := [.int s1]) (b := s0) (rest := []) o (tX12_counts _ M _ n s0 s1 S q4 hq4) eX12_counts mX12_432 clX12 (kX12_counts hq4) (by decide) rfl rfl (Nat.le_of_ble_eq_true rfl) dX12_jobbing_20 ?_
  refine x_if_ne (pc := 23) (tgt := 27) o dX12_jobbing_23 (by decide) (fun c48 => ?_) (fun c48 => ?_)
  · have h := xif h c48
    refine x_bipush (pc := 27) o dX12_jobbing_27 bp_6 ?_
    refine x_aload_n (pc := 29) o dX12_jobbing_29 rfl rfl ?_
    obtain ⟨v5, hv5, h⟩ := xbs h
    refine gX12_133 (pc := 30) o dX12_jobbing_30 hv5 ?_
    refine x_imul (pc := 33) o dX12_jobbing_33 ?_
    refine x_aload_n (pc := 34) o dX12_jobbing_34 rfl rfl ?_
    obtain ⟨r6, hr6, h⟩ := xbs h
    refine gX12_78 (pc := 35) o dX12_jobbing_35 hr6 ?_
    refine x_aload_n (pc := 38) o dX12_jobbing_38 rfl rfl ?_
    obtain ⟨v7, hv7, h⟩ := xbs h
    refine gX12_133 (pc := 39) o dX12_jobbing_39 hv7 ?_
    obtain ⟨v8, hv8, h⟩ := xbs h
    refine x_iaload (pc := 42) o dX12_jobbing_42 hv8 ?_
    refine x_iadd (pc := 43) o dX12_jobbing_43 ?_
    obtain ⟨v9, hv9, h⟩ := xbs h
    refine x_istore_nE (pc := 44) o dX12_jobbing_44 rfl hn1 hv9 ?_
    refine x_aload_n (pc := 45) o dX12_jobbing_45 rfl rfl ?_
    obtain ⟨r10, hr10, h⟩ := xbs h
    refine gX12_127 (pc := 46) o dX12_jobbing_46 hr10 ?_
    refine x_iload_n (pc := 49) o dX12_jobbing_49 rfl rfl ?_
    refine x_aload_n (pc := 50) o dX12_jobbing_50 rfl rfl ?_
    obtain ⟨q11, hq11, h⟩ := xbs h
    refine x_callL (pc := 51) (As := []) (b := k0) (rest := [.int v9, .ref (M.2.1 r10)]) o (tX12_fresh _ M _ n k0 q4.2 q11 hq11) eX12_fresh mX12_436 clX12 (kX12_fresh hq11) (by decide) rfl rfl (Nat.le_of_ble_eq_true rfl) dX12_jobbing_51 ?_
    obtain ⟨S12, hS12, h⟩ := xbs h
    refine x_lastore (pc := 54) o dX12_jobbing_54 hS12 ?_
    refine x_aload_n (pc := 55) o dX12_jobbing_55 rfl rfl ?_
    refine x_ldc2 (pc := 56) o kcX12_325 dX12_jobbing_56 ?_
    obtain ⟨S13, hS13, h⟩ := xbs h
    refine x_callV (pc := 59) (As := [.long ((25209 : Int64))]) (b := k0) (rest := []) o (tX12_must_ _ M _ n k0 ((25209 : Int64)) S12 S13 hS13) eX12_must_ mX12_428 clX12 (kX12_must_ hS13) (by decide) rfl rfl (Nat.le_of_ble_eq_true rfl) dX12_jobbing_59 ?_
    refine x_aload_n (pc := 62) o dX12_jobbing_62 rfl rfl ?_
    obtain ⟨r14, hr14, h⟩ := xbs h
    refine gX12_81 (pc := 63) o dX12_jobbing_63 hr14 ?_
    refine x_iload_n (pc := 66) o dX12_jobbing_66 rfl rfl ?_
    refine x_aload_n (pc := 67) o dX12_jobbing_67 rfl rfl ?_
    refine x_iconst (pc := 68) o dX12_jobbing_68 ic_0 ?_
    refine x_sipush (pc := 69) o dX12_jobbing_69 sp_999 ?_
    obtain ⟨q15, hq15, h⟩ := xbs h
    refine x_callI (pc := 72) (As := [.int ((0 : Int32)), .int ((999 : Int32))]) (b := k0) (rest := [.int v9, .ref (M.2.1 r14)]) o (tX12_number _ M _ n k0 ((0 : Int32)) ((999 : Int32)) S13 q15 hq15) eX12_number mX12_425 clX12 (kX12_number hq15) (by decide) rfl rfl (Nat.le_of_ble_eq_true rfl) dX12_jobbing_72 ?_
    obtain ⟨S16, hS16, h⟩ := xbs h
    refine x_iastore (pc := 75) o dX12_jobbing_75 hS16 ?_
    refine x_aload_n (pc := 76) o dX12_jobbing_76 rfl rfl ?_
    refine x_ldc2 (pc := 77) o kcX12_327 dX12_jobbing_77 ?_
    obtain ⟨S17, hS17, h⟩ := xbs h
    refine x_callV (pc := 80) (As := [.long ((1685022067 : Int64))]) (b := k0) (rest := []) o (tX12_must_ _ M _ n k0 ((1685022067 : Int64)) S16 S17 hS17) eX12_must_ mX12_428 clX12 (kX12_must_ hS17) (by decide) rfl rfl (Nat.le_of_ble_eq_true rfl) dX12_jobbing_80 ?_
    refine x_iconst (pc := 83) o dX12_jobbing_83 ic_0 ?_
    refine x_istore_n (pc := 84) o dX12_jobbing_84 rfl hn2 ?_
    refine x_iconst (pc := 85) o dX12_jobbing_85 ic_1 ?_
    refine x_istore_n (pc := 86) o dX12_jobbing_86 rfl hn3 ?_
    obtain ⟨z39, hz39, h⟩ := xbs h
    refine x_to (l := [(0, .ref (M.2.1 k0)), (1, .int v9), (2, .int ((0 : Int32))), (3, .int ((1 : Int32)))]) ⟨rfl, rfl, rfl, rfl, trivial⟩ ?_
    refine tX12_jobbing_L87 o hnL n k0 v9 z39 ?_ n ((0 : Int32)) ((1 : Int32)) S17 hz39
    refine x_aload_n (pc := 186) o dX12_jobbing_186 rfl rfl ?_
    obtain ⟨r40, hr40, h⟩ := xbs h
    refine gX12_84 (pc := 187) o dX12_jobbing_187 hr40 ?_
    refine x_iload_n (pc := 190) o dX12_jobbing_190 rfl rfl ?_
    refine x_iload_n (pc := 191) o dX12_jobbing_191 rfl rfl ?_
    obtain ⟨S41, hS41, h⟩ := xbs h
    refine x_iastore (pc := 192) o dX12_jobbing_192 hS41 ?_
    refine x_aload_n (pc := 193) o dX12_jobbing_193 rfl rfl ?_
    obtain ⟨v42, hv42, h⟩ := xbs h
    refine gX12_36 (pc := 194) o dX12_jobbing_194 hv42 ?_
    refine x_if_ne (pc := 197) (tgt := 213) o dX12_jobbing_197 (by decide) (fun c47 => ?_) (fun c47 => ?_)
    · have h := xif h c47
      exact x_vreturn (pc := 213) o hr dX12_jobbing_213 (Option.some.inj h)
    · have h := xit h c47
      refine x_aload_n (pc := 200) o dX12_jobbing_200 rfl rfl ?_
      obtain ⟨r43, hr43, h⟩ := xbs h
      refine gX12_78 (pc := 201) o dX12_jobbing_201 hr43 ?_
      refine x_aload_n (pc := 204) o dX12_jobbing_204 rfl rfl ?_
      obtain ⟨v44, hv44, h⟩ := xbs h
      refine gX12_133 (pc := 205) o dX12_jobbing_205 hv44 ?_
      refine x_dup2 (pc := 208) o dX12_jobbing_208 rfl rfl ?_
      obtain ⟨v45, hv45, h⟩ := xbs h
      refine x_iaload (pc := 209) o dX12_jobbing_209 hv45 ?_
      refine x_iconst (pc := 210) o dX12_jobbing_210 ic_1 ?_
      refine x_iadd (pc := 211) o dX12_jobbing_211 ?_
      obtain ⟨S46, hS46, h⟩ := xbs h
      refine x_iastore (pc := 212) o dX12_jobbing_212 hS46 ?_
      exact x_vreturn (pc := 213) o hr dX12_jobbing_213 (Option.some.inj h)
  · have h := xit h c48
    exact x_vreturn (pc := 26) o hr dX12_jobbing_26 (Option.some.inj h)
def fX12_jobbing (n : Nat) (k0 : Nat) (S : xSt) : Option (xSt) :=
  if tM.1 k0 = 12 then
  ((xgF tM 12 22 k0 S).bind fun r1 =>
  (xgI tM 12 40 k0 S).bind fun v2 =>
  (xal tM r1 v2 S).bind fun v3 =>
  if v3 = ((6 : Int32)) then
  (fX12_jobbing_B20 n k0 k0 ((1 : Int32)) S)
else
  (fX12_jobbing_B20 n k0 k0 ((0 : Int32)) S))
  else none
theorem kX12_jobbing {z : xSt} {n : Nat} {k0 : Nat} {S : xSt} (h : fX12_jobbing n k0 S = some z) : tM.1 k0 = 12 := by
  unfold fX12_jobbing at h
  exact (xck h).1
set_option maxHeartbeats 4000000 in
theorem tX12_jobbing (l : Launch) (M : xMg) (A : Nat → Prop) (n : Nat) (k0 : Nat) (S : xSt) (z : xSt) (h : fX12_jobbing n k0 S = some z) : xMV l yX12_jobbing cX12_jobbing 5 none 4 tM M A [.ref (M.2.1 k0)] S z := by
  refine x_metV (plainFor_of_name (by decide)) tM_ok (Nat.le_of_ble_eq_true rfl) (fun Γ hA hnL hl hr o => ?_)
  subst hA; subst hl
  have o : xOk Γ tM M 4 cX12_jobbing RX12 := o
  unfold fX12_jobbing at h
  obtain ⟨hk0, h⟩ := xck h
  refine x_to (l := [(0, .ref (M.2.1 k0))]) ⟨rfl, trivial⟩ ?_
  refine x_aload_n (pc := 0) o dX12_jobbing_0 rfl rfl ?_
  refine x_aload_n (pc := 1) o dX12_jobbing_1 rfl rfl ?_
  obtain ⟨r1, hr1, h⟩ := xbs h
  refine gX12_78 (pc := 2) o dX12_jobbing_2 hr1 ?_
  refine x_aload_n (pc := 5) o dX12_jobbing_5 rfl rfl ?_
  obtain ⟨v2, hv2, h⟩ := xbs h
  refine gX12_133 (pc := 6) o dX12_jobbing_6 hv2 ?_
  obtain ⟨v3, hv3, h⟩ := xbs h
  refine x_iaload (pc := 9) o dX12_jobbing_9 hv3 ?_
  refine x_bipush (pc := 10) o dX12_jobbing_10 bp_6 ?_
  refine x_icmp_ne (pc := 12) (tgt := 19) o dX12_jobbing_12 (by decide) (fun c49 => ?_) (fun c49 => ?_)
  · have h := xif h c49
    refine x_iconst (pc := 19) o dX12_jobbing_19 ic_0 ?_
    refine x_to (l := [(0, .ref (M.2.1 k0))]) ⟨rfl, trivial⟩ ?_
    exact tX12_jobbing_B20 o hnL n k0 k0 ((0 : Int32)) S z hr h
  · have h := xit h c49
    refine x_iconst (pc := 15) o dX12_jobbing_15 ic_1 ?_
    refine x_goto (pc := 16) (tgt := 20) o dX12_jobbing_16 (by decide) ?_
    refine x_to (l := [(0, .ref (M.2.1 k0))]) ⟨rfl, trivial⟩ ?_
    exact tX12_jobbing_B20 o hnL n k0 k0 ((1 : Int32)) S z hr h
def fX12_serving (n : Nat) (k0 : Nat) (S : xSt) : Option (xSt) :=
  if tM.1 k0 = 12 then
  ((fX12_counts n k0 ((0 : Int32)) S).bind fun q1 =>
  if q1.1 = 0 then
  (some q1.2)
else
  ((fX12_askedBut n k0 ((0 : Int32)) ((0 : Int32)) q1.2).bind fun q2 =>
  (fX12_must_ n k0 ((6713202 : Int64)) q2.2).bind fun S3 =>
  (fX12_askedBut n k0 ((0 : Int32)) (((1 : Int32)) <<< (q2.1 &&& 31)) S3).bind fun q4 =>
  (fX12_must_ n k0 ((24948 : Int64)) q4.2).bind fun S5 =>
  (fX12_number n k0 ((1 : Int32)) ((99 : Int32)) S5).bind fun q6 =>
  (xgI tM 12 8 k0 q6.2).bind fun v7 =>
  if v7 = 0 then
  ((xgF tM 12 27 k0 q6.2).bind fun r8 =>
  (xgI tM 12 40 k0 q6.2).bind fun v9 =>
  (xas tM r8 ((((6 : Int32)) * ((((6 : Int32)) * v9) + q2.1)) + q4.1) q6.1 q6.2).bind fun S10 =>
  some S10)
else
  (some q6.2)))
  else none
theorem kX12_serving {z : xSt} {n : Nat} {k0 : Nat} {S : xSt} (h : fX12_serving n k0 S = some z) : tM.1 k0 = 12 := by
  unfold fX12_serving at h
  exact (xck h).1
set_option maxHeartbeats 4000000 in
theorem tX12_serving (l : Launch) (M : xMg) (A : Nat → Prop) (n : Nat) (k0 : Nat) (S : xSt) (z : xSt) (h : fX12_serving n k0 S = some z) : xMV l yX12_serving cX12_serving 4 none 4 tM M A [.ref (M.2.1 k0)] S z := by
  refine x_metV (plainFor_of_name (by decide)) tM_ok (Nat.le_of_ble_eq_true rfl) (fun Γ hA hnL hl hr o => ?_)
  subst hA; subst hl
  have o : xOk Γ tM M 4 cX12_serving RX12 := o
  unfold fX12_serving at h
  obtain ⟨hk0, h⟩ := xck h
  refine x_to (l := [(0, .ref (M.2.1 k0))]) ⟨rfl, trivial⟩ ?_
  have hn1 : 1 < Γ.2.2.2 := by omega
  have hn2 : 2 < Γ.2.2.2 := by omega
  have hn3 : 3 < Γ.2.2.2 := by omega
  refine x_aload_n (pc := 0) o dX12_serving_0 rfl rfl ?_
  refine x_iconst (pc := 1) o dX12_serving_1 ic_0 ?_
  obtain ⟨q1, hq1, h⟩ := xbs h
  refine x_callI (pc := 2) (As := [.int ((0 : Int32))]) (b := k0) (rest := []) o (tX12_counts _ M _ n k0 ((0 : Int32)) S q1 hq1) eX12_counts mX12_432 clX12 (kX12_counts hq1) (by decide) rfl rfl (Nat.le_of_ble_eq_true rfl) dX12_serving_2 ?_
  refine x_if_ne (pc := 5) (tgt := 9) o dX12_serving_5 (by decide) (fun c12 => ?_) (fun c12 => ?_)
  · have h := xif h c12
    refine x_aload_n (pc := 9) o dX12_serving_9 rfl rfl ?_
    refine x_iconst (pc := 10) o dX12_serving_10 ic_0 ?_
    refine x_iconst (pc := 11) o dX12_serving_11 ic_0 ?_
    obtain ⟨q2, hq2, h⟩ := xbs h
    refine x_callI (pc := 12) (As := [.int ((0 : Int32)), .int ((0 : Int32))]) (b := k0) (rest := []) o (tX12_askedBut _ M _ n k0 ((0 : Int32)) ((0 : Int32)) q1.2 q2 hq2) eX12_askedBut mX12_444 clX12 (kX12_askedBut hq2) (by decide) rfl rfl (Nat.le_of_ble_eq_true rfl) dX12_serving_12 ?_
    refine x_istore_n (pc := 15) o dX12_serving_15 rfl hn1 ?_
    refine x_aload_n (pc := 16) o dX12_serving_16 rfl rfl ?_
    refine x_ldc2 (pc := 17) o kcX12_331 dX12_serving_17 ?_
    obtain ⟨S3, hS3, h⟩ := xbs h
    refine x_callV (pc := 20) (As := [.long ((6713202 : Int64))]) (b := k0) (rest := []) o (tX12_must_ _ M _ n k0 ((6713202 : Int64)) q2.2 S3 hS3) eX12_must_ mX12_428 clX12 (kX12_must_ hS3) (by decide) rfl rfl (Nat.le_of_ble_eq_true rfl) dX12_serving_20 ?_
    refine x_aload_n (pc := 23) o dX12_serving_23 rfl rfl ?_
    refine x_iconst (pc := 24) o dX12_serving_24 ic_0 ?_
    refine x_iconst (pc := 25) o dX12_serving_25 ic_1 ?_
    refine x_iload_n (pc := 26) o dX12_serving_26 rfl rfl ?_
    refine x_ishl (pc := 27) o dX12_serving_27 ?_
    obtain ⟨q4, hq4, h⟩ := xbs h
    refine x_callI (pc := 28) (As := [.int ((0 : Int32)), .int (((1 : Int32)) <<< (q2.1 &&& 31))]) (b := k0) (rest := []) o (tX12_askedBut _ M _ n k0 ((0 : Int32)) (((1 : Int32)) <<< (q2.1 &&& 31)) S3 q4 hq4) eX12_askedBut mX12_444 clX12 (kX12_askedBut hq4) (by decide) rfl rfl (Nat.le_of_ble_eq_true rfl) dX12_serving_28 ?_
    refine x_istore_n (pc := 31) o dX12_serving_31 rfl hn2 ?_
    refine x_aload_n (pc := 32) o dX12_serving_32 rfl rfl ?_
    refine x_ldc2 (pc := 33) o kcX12_333 dX12_serving_33 ?_
    obtain ⟨S5, hS5, h⟩ := xbs h
    refine x_callV (pc := 36) (As := [.long ((24948 : Int64))]) (b := k0) (rest := []) o (tX12_must_ _ M _ n k0 ((24948 : Int64)) q4.2 S5 hS5) eX12_must_ mX12_428 clX12 (kX12_must_ hS5) (by decide) rfl rfl (Nat.le_of_ble_eq_true rfl) dX12_serving_36 ?_
    refine x_aload_n (pc := 39) o dX12_serving_39 rfl rfl ?_
    refine x_iconst (pc := 40) o dX12_serving_40 ic_1 ?_
    refine x_bipush (pc := 41) o dX12_serving_41 bp_99 ?_
    obtain ⟨q6, hq6, h⟩ := xbs h
    refine x_callI (pc := 43) (As := [.int ((1 : Int32)), .int ((99 : Int32))]) (b := k0) (rest := []) o (tX12_number _ M _ n k0 ((1 : Int32)) ((99 : Int32)) S5 q6 hq6) eX12_number mX12_425 clX12 (kX12_number hq6) (by decide) rfl rfl (Nat.le_of_ble_eq_true rfl) dX12_serving_43 ?_
    refine x_istore_n (pc := 46) o dX12_serving_46 rfl hn3 ?_
    refine x_aload_n (pc := 47) o dX12_serving_47 rfl rfl ?_
    obtain ⟨v7, hv7, h⟩ := xbs h
    refine gX12_36 (pc := 48) o dX12_serving_48 hv7 ?_
    refine x_if_ne (pc := 51) (tgt := 74) o dX12_serving_51 (by decide) (fun c11 => ?_) (fun c11 => ?_)
    · have h := xif h c11
      exact x_vreturn (pc := 74) o hr dX12_serving_74 (Option.some.inj h)
    · have h := xit h c11
      refine x_aload_n (pc := 54) o dX12_serving_54 rfl rfl ?_
      obtain ⟨r8, hr8, h⟩ := xbs h
      refine gX12_93 (pc := 55) o dX12_serving_55 hr8 ?_
      refine x_bipush (pc := 58) o dX12_serving_58 bp_6 ?_
      refine x_bipush (pc := 60) o dX12_serving_60 bp_6 ?_
      refine x_aload_n (pc := 62) o dX12_serving_62 rfl rfl ?_
      obtain ⟨v9, hv9, h⟩ := xbs h
      refine gX12_133 (pc := 63) o dX12_serving_63 hv9 ?_
      refine x_imul (pc := 66) o dX12_serving_66 ?_
      refine x_iload_n (pc := 67) o dX12_serving_67 rfl rfl ?_
      refine x_iadd (pc := 68) o dX12_serving_68 ?_
      refine x_imul (pc := 69) o dX12_serving_69 ?_
      refine x_iload_n (pc := 70) o dX12_serving_70 rfl rfl ?_
      refine x_iadd (pc := 71) o dX12_serving_71 ?_
      refine x_iload_n (pc := 72) o dX12_serving_72 rfl rfl ?_
      obtain ⟨S10, hS10, h⟩ := xbs h
      refine x_iastore (pc := 73) o dX12_serving_73 hS10 ?_
      exact x_vreturn (pc := 74) o hr dX12_serving_74 (Option.some.inj h)
  · have h := xit h c12
    exact x_vreturn (pc := 8) o hr dX12_serving_8 (Option.some.inj h)
def fX12_reading_B43 (n : Nat) (k0 : Nat) (a1 : Int32) (a2 : Int32) (s0 : Nat) (s1 : Int32) (S : xSt) : Option (xSt) :=
  (xpZ tM 12 41 s0 s1 S).bind fun S6 =>
  (xgF tM 12 31 k0 S6).bind fun r7 =>
  (xgI tM 12 39 k0 S6).bind fun v8 =>
  (xas tM r7 a2 v8 S6).bind fun S9 =>
  if a1 = ((1 : Int32)) then
  ((fX12_reads n k0 ((1 : Int32)) S9).bind fun S14 =>
  (xgF tM 12 32 k0 S14).bind fun r15 =>
  (xgI tM 12 39 k0 S14).bind fun v16 =>
  (xas tM r15 a2 v16 S14).bind fun S17 =>
  some S17)
else
  ((fX12_reads n k0 ((0 : Int32)) S9).bind fun S10 =>
  (xgF tM 12 32 k0 S10).bind fun r11 =>
  (xgI tM 12 39 k0 S10).bind fun v12 =>
  (xas tM r11 a2 v12 S10).bind fun S13 =>
  some S13)
set_option maxHeartbeats 4000000 in
theorem tX12_reading_B43 {Γ : xGm} {M : xMg} (o : xOk Γ tM M 6 cX12_reading RX12) (hnL : Γ.2.2.2 = 3) (n : Nat) (k0 : Nat) (a1 : Int32) (a2 : Int32) (s0 : Nat) (s1 : Int32) (S : xSt) (z : (xSt)) (hr : xRV Γ tM M none z) (h : fX12_reading_B43 n k0 a1 a2 s0 s1 S = some z) : xAt Γ tM M 43 (xlv [(0, .ref (M.2.1 k0)), (1, .int a1), (2, .int a2)]) [.int s1, .ref (M.2.1 s0)] S := by
  unfold fX12_reading_B43 at h
  obtain ⟨S6, hS6, h⟩ := xbs h
  refine pX12_136 (pc := 43) o dX12_reading_43 hS6 ?_
  refine x_aload_n (pc := 46) o dX12_reading_46 rfl rfl ?_
  obtain ⟨r7, hr7, h⟩ := xbs h
  refine gX12_105 (pc := 47) o dX12_reading_47 hr7 ?_
  refine x_iload_n (pc := 50) o dX12_reading_50 rfl rfl ?_
  refine x_aload_n (pc := 51) o dX12_reading_51 rfl rfl ?_
  obtain ⟨v8, hv8, h⟩ := xbs h
  refine gX12_130 (pc := 52) o dX12_reading_52 hv8 ?_
  obtain ⟨S9, hS9, h⟩ := xbs h
  refine x_iastore (pc := 55) o dX12_reading_55 hS9 ?_
  refine x_aload_n (pc := 56) o dX12_reading_56 rfl rfl ?_
  refine x_iload_n (pc := 57) o dX12_reading_57 rfl rfl ?_
  refine x_iconst (pc := 58) o dX12_reading_58 ic_1 ?_
  refine x_icmp_ne (pc := 59) (tgt := 66) o dX12_reading_59 (by decide) (fun c18 => ?_) (fun c18 => ?_)
  · have h := xif h c18
    refine x_iconst (pc := 66) o dX12_reading_66 ic_0 ?_
    obtain ⟨S10, hS10, h⟩ := xbs h
    refine x_callV (pc := 67) (As := [.int ((0 : Int32))]) (b := k0) (rest := []) o (tX12_reads _ M _ n k0 ((0 : Int32)) S9 S10 hS10) eX12_reads mX12_447 clX12 (kX12_reads hS10) (by decide) rfl rfl (Nat.le_of_ble_eq_true rfl) dX12_reading_67 ?_
    refine x_aload_n (pc := 70) o dX12_reading_70 rfl rfl ?_
    obtain ⟨r11, hr11, h⟩ := xbs h
    refine gX12_108 (pc := 71) o dX12_reading_71 hr11 ?_
    refine x_iload_n (pc := 74) o dX12_reading_74 rfl rfl ?_
    refine x_aload_n (pc := 75) o dX12_reading_75 rfl rfl ?_
    obtain ⟨v12, hv12, h⟩ := xbs h
    refine gX12_130 (pc := 76) o dX12_reading_76 hv12 ?_
    obtain ⟨S13, hS13, h⟩ := xbs h
    refine x_iastore (pc := 79) o dX12_reading_79 hS13 ?_
    exact x_vreturn (pc := 80) o hr dX12_reading_80 (Option.some.inj h)
  · have h := xit h c18
    refine x_iconst (pc := 62) o dX12_reading_62 ic_1 ?_
    refine x_goto (pc := 63) (tgt := 67) o dX12_reading_63 (by decide) ?_
    obtain ⟨S14, hS14, h⟩ := xbs h
    refine x_callV (pc := 67) (As := [.int ((1 : Int32))]) (b := k0) (rest := []) o (tX12_reads _ M _ n k0 ((1 : Int32)) S9 S14 hS14) eX12_reads mX12_447 clX12 (kX12_reads hS14) (by decide) rfl rfl (Nat.le_of_ble_eq_true rfl) dX12_reading_67 ?_
    refine x_aload_n (pc := 70) o dX12_reading_70 rfl rfl ?_
    obtain ⟨r15, hr15, h⟩ := xbs h
    refine gX12_108 (pc := 71) o dX12_reading_71 hr15 ?_
    refine x_iload_n (pc := 74) o dX12_reading_74 rfl rfl ?_
    refine x_aload_n (pc := 75) o dX12_reading_75 rfl rfl ?_
    obtain ⟨v16, hv16, h⟩ := xbs h
    refine gX12_130 (pc := 76) o dX12_reading_76 hv16 ?_
    obtain ⟨S17, hS17, h⟩ := xbs h
    refine x_iastore (pc := 79) o dX12_reading_79 hS17 ?_
    exact x_vreturn (pc := 80) o hr dX12_reading_80 (Option.some.inj h)
def fX12_reading_B25 (n : Nat) (k0 : Nat) (a1 : Int32) (a2 : Int32) (s0 : Nat) (s1 : Int32) (S : xSt) : Option (xSt) :=
  (fX12_counts n s0 s1 S).bind fun q5 =>
  if q5.1 = 0 then
  (some q5.2)
else
  (if a1 = ((1 : Int32)) then
  (fX12_reading_B43 n k0 a1 a2 k0 ((1 : Int32)) q5.2)
else
  (fX12_reading_B43 n k0 a1 a2 k0 ((0 : Int32)) q5.2))
set_option maxHeartbeats 4000000 in
theorem tX12_reading_B25 {Γ : xGm} {M : xMg} (o : xOk Γ tM M 6 cX12_reading RX12) (hnL : Γ.2.2.2 = 3) (n : Nat) (k0 : Nat) (a1 : Int32) (a2 : Int32) (s0 : Nat) (s1 : Int32) (S : xSt) (z : (xSt)) (hr : xRV Γ tM M none z) (h : fX12_reading_B25 n k0 a1 a2 s0 s1 S = some z) : xAt Γ tM M 25 (xlv [(0, .ref (M.2.1 k0)), (1, .int a1), (2, .int a2)]) [.int s1, .ref (M.2.1 s0)] S := by
  unfold fX12_reading_B25 at h
  obtain ⟨q5, hq5, h⟩ := xbs h
  refine x_callI (pc := 25) (As := [.int s1]) (b := s0) (rest := []) o (tX12_counts _ M _ n s0 s1 S q5 hq5) eX12_counts mX12_432 clX12 (kX12_counts hq5) (by decide) rfl rfl (Nat.le_of_ble_eq_true rfl) dX12_reading_25 ?_
  refine x_if_ne (pc := 28) (tgt := 32) o dX12_reading_28 (by decide) (fun c20 => ?_) (fun c20 => ?_)
  · have h := xif h c20
    refine x_aload_n (pc := 32) o dX12_reading_32 rfl rfl ?_
    refine x_iload_n (pc := 33) o dX12_reading_33 rfl rfl ?_
    refine x_iconst (pc := 34) o dX12_reading_34 ic_1 ?_
    refine x_icmp_ne (pc := 35) (tgt := 42) o dX12_reading_35 (by decide) (fun c19 => ?_) (fun c19 => ?_)
    · have h := xif h c19
      refine x_iconst (pc := 42) o dX12_reading_42 ic_0 ?_
      refine x_to (l := [(0, .ref (M.2.1 k0)), (1, .int a1), (2, .int a2)]) ⟨rfl, rfl, rfl, trivial⟩ ?_
      exact tX12_reading_B43 o hnL n k0 a1 a2 k0 ((0 : Int32)) q5.2 z hr h
    · have h := xit h c19
      refine x_iconst (pc := 38) o dX12_reading_38 ic_1 ?_
      refine x_goto (pc := 39) (tgt := 43) o dX12_reading_39 (by decide) ?_
      refine x_to (l := [(0, .ref (M.2.1 k0)), (1, .int a1), (2, .int a2)]) ⟨rfl, rfl, rfl, trivial⟩ ?_
      exact tX12_reading_B43 o hnL n k0 a1 a2 k0 ((1 : Int32)) q5.2 z hr h
  · have h := xit h c20
    exact x_vreturn (pc := 31) o hr dX12_reading_31 (Option.some.inj h)
def fX12_reading (n : Nat) (k0 : Nat) (a1 : Int32) (S : xSt) : Option (xSt) :=
  if tM.1 k0 = 12 then
  ((xgI tM 12 40 k0 S).bind fun v1 =>
  (some ((((2 : Int32)) * v1) + a1)).bind fun v2 =>
  (xgF tM 12 31 k0 S).bind fun r3 =>
  (xal tM r3 v2 S).bind fun v4 =>
  if v4 = ((-1 : Int32)) then
  (fX12_reading_B25 n k0 a1 v2 k0 ((0 : Int32)) S)
else
  (fX12_reading_B25 n k0 a1 v2 k0 ((1 : Int32)) S))
  else none
theorem kX12_reading {z : xSt} {n : Nat} {k0 : Nat} {a1 : Int32} {S : xSt} (h : fX12_reading n k0 a1 S = some z) : tM.1 k0 = 12 := by
  unfold fX12_reading at h
  exact (xck h).1
set_option maxHeartbeats 4000000 in
theorem tX12_reading (l : Launch) (M : xMg) (A : Nat → Prop) (n : Nat) (k0 : Nat) (a1 : Int32) (S : xSt) (z : xSt) (h : fX12_reading n k0 a1 S = some z) : xMV l yX12_reading cX12_reading 3 none 6 tM M A [.ref (M.2.1 k0), .int a1] S z := by
  refine x_metV (plainFor_of_name (by decide)) tM_ok (Nat.le_of_ble_eq_true rfl) (fun Γ hA hnL hl hr o => ?_)
  subst hA; subst hl
  have o : xOk Γ tM M 6 cX12_reading RX12 := o
  unfold fX12_reading at h
  obtain ⟨hk0, h⟩ := xck h
  refine x_to (l := [(0, .ref (M.2.1 k0)), (1, .int a1)]) ⟨rfl, rfl, trivial⟩ ?_
  have hn2 : 2 < Γ.2.2.2 := by omega
  refine x_iconst (pc := 0) o dX12_reading_0 ic_2 ?_
  refine x_aload_n (pc := 1) o dX12_reading_1 rfl rfl ?_
  obtain ⟨v1, hv1, h⟩ := xbs h
  refine gX12_133 (pc := 2) o dX12_reading_2 hv1 ?_
  refine x_imul (pc := 5) o dX12_reading_5 ?_
  refine x_iload_n (pc := 6) o dX12_reading_6 rfl rfl ?_
  refine x_iadd (pc := 7) o dX12_reading_7 ?_
  obtain ⟨v2, hv2, h⟩ := xbs h
  refine x_istore_nE (pc := 8) o dX12_reading_8 rfl hn2 hv2 ?_
  refine x_aload_n (pc := 9) o dX12_reading_9 rfl rfl ?_
  refine x_aload_n (pc := 10) o dX12_reading_10 rfl rfl ?_
  obtain ⟨r3, hr3, h⟩ := xbs h
  refine gX12_105 (pc := 11) o dX12_reading_11 hr3 ?_
  refine x_iload_n (pc := 14) o dX12_reading_14 rfl rfl ?_
  obtain ⟨v4, hv4, h⟩ := xbs h
  refine x_iaload (pc := 15) o dX12_reading_15 hv4 ?_
  refine x_iconst (pc := 16) o dX12_reading_16 ic_m1 ?_
  refine x_icmp_eq (pc := 17) (tgt := 24) o dX12_reading_17 (by decide) (fun c21 => ?_) (fun c21 => ?_)
  · have h := xit h c21
    refine x_iconst (pc := 24) o dX12_reading_24 ic_0 ?_
    refine x_to (l := [(0, .ref (M.2.1 k0)), (1, .int a1), (2, .int v2)]) ⟨rfl, rfl, rfl, trivial⟩ ?_
    exact tX12_reading_B25 o hnL n k0 a1 v2 k0 ((0 : Int32)) S z hr h
  · have h := xif h c21
    refine x_iconst (pc := 20) o dX12_reading_20 ic_1 ?_
    refine x_goto (pc := 21) (tgt := 25) o dX12_reading_21 (by decide) ?_
    refine x_to (l := [(0, .ref (M.2.1 k0)), (1, .int a1), (2, .int v2)]) ⟨rfl, rfl, rfl, trivial⟩ ?_
    exact tX12_reading_B25 o hnL n k0 a1 v2 k0 ((1 : Int32)) S z hr h
def fX12_telling (n : Nat) (k0 : Nat) (a1 : Int32) (a2 : Int32) (a3 : Int32) (S : xSt) : Option (xSt) :=
  if tM.1 k0 = 12 then
  ((fX12_counts n k0 ((0 : Int32)) S).bind fun q1 =>
  if q1.1 = 0 then
  (some q1.2)
else
  ((fX12_number n k0 a2 a3 q1.2).bind fun q2 =>
  (xgI tM 12 8 k0 q2.2).bind fun v3 =>
  if v3 = 0 then
  ((xgF tM 12 30 k0 q2.2).bind fun r4 =>
  (xgI tM 12 40 k0 q2.2).bind fun v5 =>
  (xas tM r4 ((((3 : Int32)) * v5) + a1) q2.1 q2.2).bind fun S6 =>
  some S6)
else
  (some q2.2)))
  else none
theorem kX12_telling {z : xSt} {n : Nat} {k0 : Nat} {a1 : Int32} {a2 : Int32} {a3 : Int32} {S : xSt} (h : fX12_telling n k0 a1 a2 a3 S = some z) : tM.1 k0 = 12 := by
  unfold fX12_telling at h
  exact (xck h).1
set_option maxHeartbeats 4000000 in
theorem tX12_telling (l : Launch) (M : xMg) (A : Nat → Prop) (n : Nat) (k0 : Nat) (a1 : Int32) (a2 : Int32) (a3 : Int32) (S : xSt) (z : xSt) (h : fX12_telling n k0 a1 a2 a3 S = some z) : xMV l yX12_telling cX12_telling 5 none 4 tM M A [.ref (M.2.1 k0), .int a1, .int a2, .int a3] S z := by
  refine x_metV (plainFor_of_name (by decide)) tM_ok (Nat.le_of_ble_eq_true rfl) (fun Γ hA hnL hl hr o => ?_)
  subst hA; subst hl
  have o : xOk Γ tM M 4 cX12_telling RX12 := o
  unfold fX12_telling at h
  obtain ⟨hk0, h⟩ := xck h
  refine x_to (l := [(0, .ref (M.2.1 k0)), (1, .int a1), (2, .int a2), (3, .int a3)]) ⟨rfl, rfl, rfl, rfl, trivial⟩ ?_
  have hn4 : 4 < Γ.2.2.2 := by omega
  refine x_aload_n (pc := 0) o dX12_telling_0 rfl rfl ?_
  refine x_iconst (pc := 1) o dX12_telling_1 ic_0 ?_
  obtain ⟨q1, hq1, h⟩ := xbs h
  refine x_callI (pc := 2) (As := [.int ((0 : Int32))]) (b := k0) (rest := []) o (tX12_counts _ M _ n k0 ((0 : Int32)) S q1 hq1) eX12_counts mX12_432 clX12 (kX12_counts hq1) (by decide) rfl rfl (Nat.le_of_ble_eq_true rfl) dX12_telling_2 ?_
  refine x_if_ne (pc := 5) (tgt := 9) o dX12_telling_5 (by decide) (fun c8 => ?_) (fun c8 => ?_)
  · have h := xif h c8
    refine x_aload_n (pc := 9) o dX12_telling_9 rfl rfl ?_
    refine x_iload_n (pc := 10) o dX12_telling_10 rfl rfl ?_
    refine x_iload_n (pc := 11) o dX12_telling_11 rfl rfl ?_
    obtain ⟨q2, hq2, h⟩ := xbs h
    refine x_callI (pc := 12) (As := [.int a2, .int a3]) (b := k0) (rest := []) o (tX12_number _ M _ n k0 a2 a3 q1.2 q2 hq2) eX12_number mX12_425 clX12 (kX12_number hq2) (by decide) rfl rfl (Nat.le_of_ble_eq_true rfl) dX12_telling_12 ?_
    refine x_istore (pc := 15) o dX12_telling_15 hn4 ?_
    refine x_aload_n (pc := 17) o dX12_telling_17 rfl rfl ?_
    obtain ⟨v3, hv3, h⟩ := xbs h
    refine gX12_36 (pc := 18) o dX12_telling_18 hv3 ?_
    refine x_if_ne (pc := 21) (tgt := 39) o dX12_telling_21 (by decide) (fun c7 => ?_) (fun c7 => ?_)
    · have h := xif h c7
      exact x_vreturn (pc := 39) o hr dX12_telling_39 (Option.some.inj h)
    · have h := xit h c7
      refine x_aload_n (pc := 24) o dX12_telling_24 rfl rfl ?_
      obtain ⟨r4, hr4, h⟩ := xbs h
      refine gX12_102 (pc := 25) o dX12_telling_25 hr4 ?_
      refine x_iconst (pc := 28) o dX12_telling_28 ic_3 ?_
      refine x_aload_n (pc := 29) o dX12_telling_29 rfl rfl ?_
      obtain ⟨v5, hv5, h⟩ := xbs h
      refine gX12_133 (pc := 30) o dX12_telling_30 hv5 ?_
      refine x_imul (pc := 33) o dX12_telling_33 ?_
      refine x_iload_n (pc := 34) o dX12_telling_34 rfl rfl ?_
      refine x_iadd (pc := 35) o dX12_telling_35 ?_
      refine x_iload (pc := 36) o dX12_telling_36 rfl ?_
      obtain ⟨S6, hS6, h⟩ := xbs h
      refine x_iastore (pc := 38) o dX12_telling_38 hS6 ?_
      exact x_vreturn (pc := 39) o hr dX12_telling_39 (Option.some.inj h)
  · have h := xit h c8
    exact x_vreturn (pc := 8) o hr dX12_telling_8 (Option.some.inj h)
def fX12_smithing (n : Nat) (k0 : Nat) (S : xSt) : Option (xSt) :=
  if tM.1 k0 = 12 then
  ((fX12_counts n k0 ((0 : Int32)) S).bind fun q1 =>
  if q1.1 = 0 then
  (some q1.2)
else
  ((fX12_round n k0 q1.2).bind fun q2 =>
  (xgI tM 12 8 k0 q2.2).bind fun v3 =>
  if v3 ≤ 0 then
  ((xgF tM 12 28 k0 q2.2).bind fun r4 =>
  (xgI tM 12 40 k0 q2.2).bind fun v5 =>
  (xgI tM 12 52 k0 q2.2).bind fun v6 =>
  (xas tM r4 v5 v6 q2.2).bind fun S7 =>
  (xgF tM 12 29 k0 S7).bind fun r8 =>
  (xgI tM 12 40 k0 S7).bind fun v9 =>
  (xas tM r8 v9 q2.1 S7).bind fun S10 =>
  some S10)
else
  (some q2.2)))
  else none
theorem kX12_smithing {z : xSt} {n : Nat} {k0 : Nat} {S : xSt} (h : fX12_smithing n k0 S = some z) : tM.1 k0 = 12 := by
  unfold fX12_smithing at h
  exact (xck h).1
set_option maxHeartbeats 4000000 in
theorem tX12_smithing (l : Launch) (M : xMg) (A : Nat → Prop) (n : Nat) (k0 : Nat) (S : xSt) (z : xSt) (h : fX12_smithing n k0 S = some z) : xMV l yX12_smithing cX12_smithing 2 none 5 tM M A [.ref (M.2.1 k0)] S z := by
  refine x_metV (plainFor_of_name (by decide)) tM_ok (Nat.le_of_ble_eq_true rfl) (fun Γ hA hnL hl hr o => ?_)
  subst hA; subst hl
  have o : xOk Γ tM M 5 cX12_smithing RX12 := o
  unfold fX12_smithing at h
  obtain ⟨hk0, h⟩ := xck h
  refine x_to (l := [(0, .ref (M.2.1 k0))]) ⟨rfl, trivial⟩ ?_
  have hn1 : 1 < Γ.2.2.2 := by omega
  refine x_aload_n (pc := 0) o dX12_smithing_0 rfl rfl ?_
  refine x_iconst (pc := 1) o dX12_smithing_1 ic_0 ?_
  obtain ⟨q1, hq1, h⟩ := xbs h
  refine x_callI (pc := 2) (As := [.int ((0 : Int32))]) (b := k0) (rest := []) o (tX12_counts _ M _ n k0 ((0 : Int32)) S q1 hq1) eX12_counts mX12_432 clX12 (kX12_counts hq1) (by decide) rfl rfl (Nat.le_of_ble_eq_true rfl) dX12_smithing_2 ?_
  refine x_if_ne (pc := 5) (tgt := 9) o dX12_smithing_5 (by decide) (fun c12 => ?_) (fun c12 => ?_)
  · have h := xif h c12
    refine x_aload_n (pc := 9) o dX12_smithing_9 rfl rfl ?_
    obtain ⟨q2, hq2, h⟩ := xbs h
    refine x_callI (pc := 10) (As := []) (b := k0) (rest := []) o (tX12_round _ M _ n k0 q1.2 q2 hq2) eX12_round mX12_440 clX12 (kX12_round hq2) (by decide) rfl rfl (Nat.le_of_ble_eq_true rfl) dX12_smithing_10 ?_
    refine x_istore_n (pc := 13) o dX12_smithing_13 rfl hn1 ?_
    refine x_aload_n (pc := 14) o dX12_smithing_14 rfl rfl ?_
    obtain ⟨v3, hv3, h⟩ := xbs h
    refine gX12_36 (pc := 15) o dX12_smithing_15 hv3 ?_
    refine x_if_le (pc := 18) (tgt := 22) o dX12_smithing_18 (by decide) (fun c11 => ?_) (fun c11 => ?_)
    · have h := xit h c11
      refine x_aload_n (pc := 22) o dX12_smithing_22 rfl rfl ?_
      obtain ⟨r4, hr4, h⟩ := xbs h
      refine gX12_96 (pc := 23) o dX12_smithing_23 hr4 ?_
      refine x_aload_n (pc := 26) o dX12_smithing_26 rfl rfl ?_
      obtain ⟨v5, hv5, h⟩ := xbs h
      refine gX12_133 (pc := 27) o dX12_smithing_27 hv5 ?_
      refine x_aload_n (pc := 30) o dX12_smithing_30 rfl rfl ?_
      obtain ⟨v6, hv6, h⟩ := xbs h
      refine gX12_171 (pc := 31) o dX12_smithing_31 hv6 ?_
      obtain ⟨S7, hS7, h⟩ := xbs h
      refine x_iastore (pc := 34) o dX12_smithing_34 hS7 ?_
      refine x_aload_n (pc := 35) o dX12_smithing_35 rfl rfl ?_
      obtain ⟨r8, hr8, h⟩ := xbs h
      refine gX12_99 (pc := 36) o dX12_smithing_36 hr8 ?_
      refine x_aload_n (pc := 39) o dX12_smithing_39 rfl rfl ?_
      obtain ⟨v9, hv9, h⟩ := xbs h
      refine gX12_133 (pc := 40) o dX12_smithing_40 hv9 ?_
      refine x_iload_n (pc := 43) o dX12_smithing_43 rfl rfl ?_
      obtain ⟨S10, hS10, h⟩ := xbs h
      refine x_iastore (pc := 44) o dX12_smithing_44 hS10 ?_
      exact x_vreturn (pc := 45) o hr dX12_smithing_45 (Option.some.inj h)
    · have h := xif h c11
      exact x_vreturn (pc := 21) o hr dX12_smithing_21 (Option.some.inj h)
  · have h := xit h c12
    exact x_vreturn (pc := 8) o hr dX12_smithing_8 (Option.some.inj h)
def fX12_statement (n : Nat) (k0 : Nat) (S : xSt) : Option (xSt) :=
  if tM.1 k0 = 12 then
  ((fX12_lex k0 S).bind fun S1 =>
  (xgI tM 12 8 k0 S1).bind fun v2 =>
  if v2 ≤ 0 then
  ((fX12_isWord k0 ((1802071652 : Int64)) S1).bind fun v3 =>
  if v3 = 0 then
  ((fX12_isWord k0 ((1953460076 : Int64)) S1).bind fun v4 =>
  if v4 = 0 then
  ((fX12_isWord k0 ((1751215716 : Int64)) S1).bind fun v5 =>
  if v5 = 0 then
  ((fX12_isWord k0 ((461414299507 : Int64)) S1).bind fun v6 =>
  if v6 = 0 then
  ((fX12_isWord k0 ((6975330 : Int64)) S1).bind fun v7 =>
  if v7 = 0 then
  ((fX12_isWord k0 ((126879549252979 : Int64)) S1).bind fun v8 =>
  if v8 = 0 then
  ((fX12_isWord k0 ((7168377 : Int64)) S1).bind fun v9 =>
  if v9 = 0 then
  ((fX12_isWord k0 ((512801993331 : Int64)) S1).bind fun v10 =>
  if v10 = 0 then
  ((fX12_isWord k0 ((108243466677107 : Int64)) S1).bind fun v11 =>
  if v11 = 0 then
  ((fX12_isWord k0 ((495756866664 : Int64)) S1).bind fun v12 =>
  if v12 = 0 then
  ((fX12_isWord k0 ((1718185573 : Int64)) S1).bind fun v13 =>
  if v13 = 0 then
  ((fX12_isWord k0 ((440006570868 : Int64)) S1).bind fun v14 =>
  if v14 = 0 then
  ((xgI tM 12 4 k0 S1).bind fun v15 =>
  (fX12_blame k0 ((1 : Int32)) v15 S1).bind fun S16 =>
  some S16)
else
  ((fX12_telling n k0 ((2 : Int32)) ((0 : Int32)) ((100 : Int32)) S1).bind fun S17 =>
  some S17))
else
  ((fX12_telling n k0 ((1 : Int32)) ((0 : Int32)) ((100 : Int32)) S1).bind fun S19 =>
  some S19))
else
  ((fX12_smithing n k0 S1).bind fun S21 =>
  some S21))
else
  ((fX12_telling n k0 ((0 : Int32)) ((1 : Int32)) ((100 : Int32)) S1).bind fun S23 =>
  some S23))
else
  ((fX12_reading n k0 ((0 : Int32)) S1).bind fun S25 =>
  some S25))
else
  ((fX12_reading n k0 ((1 : Int32)) S1).bind fun S27 =>
  some S27))
else
  ((fX12_serving n k0 S1).bind fun S29 =>
  some S29))
else
  ((fX12_jobbing n k0 S1).bind fun S31 =>
  some S31))
else
  ((fX12_knowing n k0 S1).bind fun S33 =>
  some S33))
else
  ((fX12_handing n k0 S1).bind fun S35 =>
  some S35))
else
  ((fX12_tooling n k0 S1).bind fun S37 =>
  some S37))
else
  ((fX12_kinding n k0 S1).bind fun S39 =>
  some S39))
else
  (some S1))
  else none
theorem kX12_statement {z : xSt} {n : Nat} {k0 : Nat} {S : xSt} (h : fX12_statement n k0 S = some z) : tM.1 k0 = 12 := by
  unfold fX12_statement at h
  exact (xck h).1
set_option maxHeartbeats 4000000 in
theorem tX12_statement (l : Launch) (M : xMg) (A : Nat → Prop) (n : Nat) (k0 : Nat) (S : xSt) (z : xSt) (h : fX12_statement n k0 S = some z) : xMV l yX12_statement cX12_statement 1 none 7 tM M A [.ref (M.2.1 k0)] S z := by
  refine x_metV (plainFor_of_name (by decide)) tM_ok (Nat.le_of_ble_eq_true rfl) (fun Γ hA hnL hl hr o => ?_)
  subst hA; subst hl
  have o : xOk Γ tM M 7 cX12_statement RX12 := o
  unfold fX12_statement at h
  obtain ⟨hk0, h⟩ := xck h
  refine x_to (l := [(0, .ref (M.2.1 k0))]) ⟨rfl, trivial⟩ ?_
  refine x_aload_n (pc := 0) o dX12_statement_0 rfl rfl ?_
  obtain ⟨S1, hS1, h⟩ := xbs h
  refine x_callV (pc := 1) (As := []) (b := k0) (rest := []) o (tX12_lex _ M _ k0 S S1 hS1) eX12_lex mX12_298 clX12 (kX12_lex hS1) (by decide) rfl rfl (Nat.le_of_ble_eq_true rfl) dX12_statement_1 ?_
  refine x_aload_n (pc := 4) o dX12_statement_4 rfl rfl ?_
  obtain ⟨v2, hv2, h⟩ := xbs h
  refine gX12_36 (pc := 5) o dX12_statement_5 hv2 ?_
  refine x_if_le (pc := 8) (tgt := 12) o dX12_statement_8 (by decide) (fun c41 => ?_) (fun c41 => ?_)
  · have h := xit h c41
    refine x_aload_n (pc := 12) o dX12_statement_12 rfl rfl ?_
    refine x_ldc2 (pc := 13) o kcX12_307 dX12_statement_13 ?_
    obtain ⟨v3, hv3, h⟩ := xbs h
    refine x_callI (pc := 16) (As := [.long ((1802071652 : Int64))]) (b := k0) (rest := []) o (tX12_isWord _ M _ k0 ((1802071652 : Int64)) S1 v3 hv3) eX12_isWord mX12_395 clX12 (kX12_isWord hv3) (by decide) rfl rfl (Nat.le_of_ble_eq_true rfl) dX12_statement_16 ?_
    refine x_if_eq (pc := 19) (tgt := 29) o dX12_statement_19 (by decide) (fun c40 => ?_) (fun c40 => ?_)
    · have h := xit h c40
      refine x_aload_n (pc := 29) o dX12_statement_29 rfl rfl ?_
      refine x_ldc2 (pc := 30) o kcX12_313 dX12_statement_30 ?_
      obtain ⟨v4, hv4, h⟩ := xbs h
      refine x_callI (pc := 33) (As := [.long ((1953460076 : Int64))]) (b := k0) (rest := []) o (tX12_isWord _ M _ k0 ((1953460076 : Int64)) S1 v4 hv4) eX12_isWord mX12_395 clX12 (kX12_isWord hv4) (by decide) rfl rfl (Nat.le_of_ble_eq_true rfl) dX12_statement_33 ?_
      refine x_if_eq (pc := 36) (tgt := 46) o dX12_statement_36 (by decide) (fun c38 => ?_) (fun c38 => ?_)
      · have h := xit h c38
        refine x_aload_n (pc := 46) o dX12_statement_46 rfl rfl ?_
        refine x_ldc2 (pc := 47) o kcX12_319 dX12_statement_47 ?_
        obtain ⟨v5, hv5, h⟩ := xbs h
        refine x_callI (pc := 50) (As := [.long ((1751215716 : Int64))]) (b := k0) (rest := []) o (tX12_isWord _ M _ k0 ((1751215716 : Int64)) S1 v5 hv5) eX12_isWord mX12_395 clX12 (kX12_isWord hv5) (by decide) rfl rfl (Nat.le_of_ble_eq_true rfl) dX12_statement_50 ?_
        refine x_if_eq (pc := 53) (tgt := 63) o dX12_statement_53 (by decide) (fun c36 => ?_) (fun c36 => ?_)
        · have h := xit h c36
          refine x_aload_n (pc := 63) o dX12_statement_63 rfl rfl ?_
          refine x_ldc2 (pc := 64) o kcX12_321 dX12_statement_64 ?_
          obtain ⟨v6, hv6, h⟩ := xbs h
          refine x_callI (pc := 67) (As := [.long ((461414299507 : Int64))]) (b := k0) (rest := []) o (tX12_isWord _ M _ k0 ((461414299507 : Int64)) S1 v6 hv6) eX12_isWord mX12_395 clX12 (kX12_isWord hv6) (by decide) rfl rfl (Nat.le_of_ble_eq_true rfl) dX12_statement_67 ?_
          refine x_if_eq (pc := 70) (tgt := 80) o dX12_statement_70 (by decide) (fun c34 => ?_) (fun c34 => ?_)
          · have h := xit h c34
            refine x_aload_n (pc := 80) o dX12_statement_80 rfl rfl ?_
            refine x_ldc2 (pc := 81) o kcX12_323 dX12_statement_81 ?_
            obtain ⟨v7, hv7, h⟩ := xbs h
            refine x_callI (pc := 84) (As := [.long ((6975330 : Int64))]) (b := k0) (rest := []) o (tX12_isWord _ M _ k0 ((6975330 : Int64)) S1 v7 hv7) eX12_isWord mX12_395 clX12 (kX12_isWord hv7) (by decide) rfl rfl (Nat.le_of_ble_eq_true rfl) dX12_statement_84 ?_
            refine x_if_eq (pc := 87) (tgt := 97) o dX12_statement_87 (by decide) (fun c32 => ?_) (fun c32 => ?_)
            · have h := xit h c32
              refine x_aload_n (pc := 97) o dX12_statement_97 rfl rfl ?_
              refine x_ldc2 (pc := 98) o kcX12_329 dX12_statement_98 ?_
              obtain ⟨v8, hv8, h⟩ := xbs h
              refine x_callI (pc := 101) (As := [.long ((126879549252979 : Int64))]) (b := k0) (rest := []) o (tX12_isWord _ M _ k0 ((126879549252979 : Int64)) S1 v8 hv8) eX12_isWord mX12_395 clX12 (kX12_isWord hv8) (by decide) rfl rfl (Nat.le_of_ble_eq_true rfl) dX12_statement_101 ?_
              refine x_if_eq (pc := 104) (tgt := 114) o dX12_statement_104 (by decide) (fun c30 => ?_) (fun c30 => ?_)
              · have h := xit h c30
                refine x_aload_n (pc := 114) o dX12_statement_114 rfl rfl ?_
                refine x_ldc2 (pc := 115) o kcX12_335 dX12_statement_115 ?_
                obtain ⟨v9, hv9, h⟩ := xbs h
                refine x_callI (pc := 118) (As := [.long ((7168377 : Int64))]) (b := k0) (rest := []) o (tX12_isWord _ M _ k0 ((7168377 : Int64)) S1 v9 hv9) eX12_isWord mX12_395 clX12 (kX12_isWord hv9) (by decide) rfl rfl (Nat.le_of_ble_eq_true rfl) dX12_statement_118 ?_
                refine x_if_eq (pc := 121) (tgt := 132) o dX12_statement_121 (by decide) (fun c28 => ?_) (fun c28 => ?_)
                · have h := xit h c28
                  refine x_aload_n (pc := 132) o dX12_statement_132 rfl rfl ?_
                  refine x_ldc2 (pc := 133) o kcX12_337 dX12_statement_133 ?_
                  obtain ⟨v10, hv10, h⟩ := xbs h
                  refine x_callI (pc := 136) (As := [.long ((512801993331 : Int64))]) (b := k0) (rest := []) o (tX12_isWord _ M _ k0 ((512801993331 : Int64)) S1 v10 hv10) eX12_isWord mX12_395 clX12 (kX12_isWord hv10) (by decide) rfl rfl (Nat.le_of_ble_eq_true rfl) dX12_statement_136 ?_
                  refine x_if_eq (pc := 139) (tgt := 150) o dX12_statement_139 (by decide) (fun c26 => ?_) (fun c26 => ?_)
                  · have h := xit h c26
                    refine x_aload_n (pc := 150) o dX12_statement_150 rfl rfl ?_
                    refine x_ldc2 (pc := 151) o kcX12_339 dX12_statement_151 ?_
                    obtain ⟨v11, hv11, h⟩ := xbs h
                    refine x_callI (pc := 154) (As := [.long ((108243466677107 : Int64))]) (b := k0) (rest := []) o (tX12_isWord _ M _ k0 ((108243466677107 : Int64)) S1 v11 hv11) eX12_isWord mX12_395 clX12 (kX12_isWord hv11) (by decide) rfl rfl (Nat.le_of_ble_eq_true rfl) dX12_statement_154 ?_
                    refine x_if_eq (pc := 157) (tgt := 171) o dX12_statement_157 (by decide) (fun c24 => ?_) (fun c24 => ?_)
                    · have h := xit h c24
                      refine x_aload_n (pc := 171) o dX12_statement_171 rfl rfl ?_
                      refine x_ldc2 (pc := 172) o kcX12_341 dX12_statement_172 ?_
                      obtain ⟨v12, hv12, h⟩ := xbs h
                      refine x_callI (pc := 175) (As := [.long ((495756866664 : Int64))]) (b := k0) (rest := []) o (tX12_isWord _ M _ k0 ((495756866664 : Int64)) S1 v12 hv12) eX12_isWord mX12_395 clX12 (kX12_isWord hv12) (by decide) rfl rfl (Nat.le_of_ble_eq_true rfl) dX12_statement_175 ?_
                      refine x_if_eq (pc := 178) (tgt := 188) o dX12_statement_178 (by decide) (fun c22 => ?_) (fun c22 => ?_)
                      · have h := xit h c22
                        refine x_aload_n (pc := 188) o dX12_statement_188 rfl rfl ?_
                        refine x_ldc2 (pc := 189) o kcX12_343 dX12_statement_189 ?_
                        obtain ⟨v13, hv13, h⟩ := xbs h
                        refine x_callI (pc := 192) (As := [.long ((1718185573 : Int64))]) (b := k0) (rest := []) o (tX12_isWord _ M _ k0 ((1718185573 : Int64)) S1 v13 hv13) eX12_isWord mX12_395 clX12 (kX12_isWord hv13) (by decide) rfl rfl (Nat.le_of_ble_eq_true rfl) dX12_statement_192 ?_
                        refine x_if_eq (pc := 195) (tgt := 209) o dX12_statement_195 (by decide) (fun c20 => ?_) (fun c20 => ?_)
                        · have h := xit h c20
                          refine x_aload_n (pc := 209) o dX12_statement_209 rfl rfl ?_
                          refine x_ldc2 (pc := 210) o kcX12_345 dX12_statement_210 ?_
                          obtain ⟨v14, hv14, h⟩ := xbs h
                          refine x_callI (pc := 213) (As := [.long ((440006570868 : Int64))]) (b := k0) (rest := []) o (tX12_isWord _ M _ k0 ((440006570868 : Int64)) S1 v14 hv14) eX12_isWord mX12_395 clX12 (kX12_isWord hv14) (by decide) rfl rfl (Nat.le_of_ble_eq_true rfl) dX12_statement_213 ?_
                          refine x_if_eq (pc := 216) (tgt := 230) o dX12_statement_216 (by decide) (fun c18 => ?_) (fun c18 => ?_)
                          · have h := xit h c18
                            refine x_aload_n (pc := 230) o dX12_statement_230 rfl rfl ?_
                            refine x_iconst (pc := 231) o dX12_statement_231 ic_1 ?_
                            refine x_aload_n (pc := 232) o dX12_statement_232 rfl rfl ?_
                            obtain ⟨v15, hv15, h⟩ := xbs h
                            refine gX12_23 (pc := 233) o dX12_statement_233 hv15 ?_
                            obtain ⟨S16, hS16, h⟩ := xbs h
                            refine x_callV (pc := 236) (As := [.int ((1 : Int32)), .int v15]) (b := k0) (rest := []) o (tX12_blame _ M _ k0 ((1 : Int32)) v15 S1 S16 hS16) eX12_blame mX12_287 clX12 (kX12_blame hS16) (by decide) rfl rfl (Nat.le_of_ble_eq_true rfl) dX12_statement_236 ?_
                            exact x_vreturn (pc := 239) o hr dX12_statement_239 (Option.some.inj h)
                          · have h := xif h c18
                            refine x_aload_n (pc := 219) o dX12_statement_219 rfl rfl ?_
                            refine x_iconst (pc := 220) o dX12_statement_220 ic_2 ?_
                            refine x_iconst (pc := 221) o dX12_statement_221 ic_0 ?_
                            refine x_bipush (pc := 222) o dX12_statement_222 bp_100 ?_
                            obtain ⟨S17, hS17, h⟩ := xbs h
                            refine x_callV (pc := 224) (As := [.int ((2 : Int32)), .int ((0 : Int32)), .int ((100 : Int32))]) (b := k0) (rest := []) o (tX12_telling _ M _ n k0 ((2 : Int32)) ((0 : Int32)) ((100 : Int32)) S1 S17 hS17) eX12_telling mX12_472 clX12 (kX12_telling hS17) (by decide) rfl rfl (Nat.le_of_ble_eq_true rfl) dX12_statement_224 ?_
                            refine x_goto (pc := 227) (tgt := 239) o dX12_statement_227 (by decide) ?_
                            exact x_vreturn (pc := 239) o hr dX12_statement_239 (Option.some.inj h)
                        · have h := xif h c20
                          refine x_aload_n (pc := 198) o dX12_statement_198 rfl rfl ?_
                          refine x_iconst (pc := 199) o dX12_statement_199 ic_1 ?_
                          refine x_iconst (pc := 200) o dX12_statement_200 ic_0 ?_
                          refine x_bipush (pc := 201) o dX12_statement_201 bp_100 ?_
                          obtain ⟨S19, hS19, h⟩ := xbs h
                          refine x_callV (pc := 203) (As := [.int ((1 : Int32)), .int ((0 : Int32)), .int ((100 : Int32))]) (b := k0) (rest := []) o (tX12_telling _ M _ n k0 ((1 : Int32)) ((0 : Int32)) ((100 : Int32)) S1 S19 hS19) eX12_telling mX12_472 clX12 (kX12_telling hS19) (by decide) rfl rfl (Nat.le_of_ble_eq_true rfl) dX12_statement_203 ?_
                          refine x_goto (pc := 206) (tgt := 239) o dX12_statement_206 (by decide) ?_
                          exact x_vreturn (pc := 239) o hr dX12_statement_239 (Option.some.inj h)
                      · have h := xif h c22
                        refine x_aload_n (pc := 181) o dX12_statement_181 rfl rfl ?_
                        obtain ⟨S21, hS21, h⟩ := xbs h
                        refine x_callV (pc := 182) (As := []) (b := k0) (rest := []) o (tX12_smithing _ M _ n k0 S1 S21 hS21) eX12_smithing mX12_476 clX12 (kX12_smithing hS21) (by decide) rfl rfl (Nat.le_of_ble_eq_true rfl) dX12_statement_182 ?_
                        refine x_goto (pc := 185) (tgt := 239) o dX12_statement_185 (by decide) ?_
                        exact x_vreturn (pc := 239) o hr dX12_statement_239 (Option.some.inj h)
                    · have h := xif h c24
                      refine x_aload_n (pc := 160) o dX12_statement_160 rfl rfl ?_
                      refine x_iconst (pc := 161) o dX12_statement_161 ic_0 ?_
                      refine x_iconst (pc := 162) o dX12_statement_162 ic_1 ?_
                      refine x_bipush (pc := 163) o dX12_statement_163 bp_100 ?_
                      obtain ⟨S23, hS23, h⟩ := xbs h
                      refine x_callV (pc := 165) (As := [.int ((0 : Int32)), .int ((1 : Int32)), .int ((100 : Int32))]) (b := k0) (rest := []) o (tX12_telling _ M _ n k0 ((0 : Int32)) ((1 : Int32)) ((100 : Int32)) S1 S23 hS23) eX12_telling mX12_472 clX12 (kX12_telling hS23) (by decide) rfl rfl (Nat.le_of_ble_eq_true rfl) dX12_statement_165 ?_
                      refine x_goto (pc := 168) (tgt := 239) o dX12_statement_168 (by decide) ?_
                      exact x_vreturn (pc := 239) o hr dX12_statement_239 (Option.some.inj h)
                  · have h := xif h c26
                    refine x_aload_n (pc := 142) o dX12_statement_142 rfl rfl ?_
                    refine x_iconst (pc := 143) o dX12_statement_143 ic_0 ?_
                    obtain ⟨S25, hS25, h⟩ := xbs h
                    refine x_callV (pc := 144) (As := [.int ((0 : Int32))]) (b := k0) (rest := []) o (tX12_reading _ M _ n k0 ((0 : Int32)) S1 S25 hS25) eX12_reading mX12_469 clX12 (kX12_reading hS25) (by decide) rfl rfl (Nat.le_of_ble_eq_true rfl) dX12_statement_144 ?_
                    refine x_goto (pc := 147) (tgt := 239) o dX12_statement_147 (by decide) ?_
                    exact x_vreturn (pc := 239) o hr dX12_statement_239 (Option.some.inj h)
                · have h := xif h c28
                  refine x_aload_n (pc := 124) o dX12_statement_124 rfl rfl ?_
                  refine x_iconst (pc := 125) o dX12_statement_125 ic_1 ?_
                  obtain ⟨S27, hS27, h⟩ := xbs h
                  refine x_callV (pc := 126) (As := [.int ((1 : Int32))]) (b := k0) (rest := []) o (tX12_reading _ M _ n k0 ((1 : Int32)) S1 S27 hS27) eX12_reading mX12_469 clX12 (kX12_reading hS27) (by decide) rfl rfl (Nat.le_of_ble_eq_true rfl) dX12_statement_126 ?_
                  refine x_goto (pc := 129) (tgt := 239) o dX12_statement_129 (by decide) ?_
                  exact x_vreturn (pc := 239) o hr dX12_statement_239 (Option.some.inj h)
              · have h := xif h c30
                refine x_aload_n (pc := 107) o dX12_statement_107 rfl rfl ?_
                obtain ⟨S29, hS29, h⟩ := xbs h
                refine x_callV (pc := 108) (As := []) (b := k0) (rest := []) o (tX12_serving _ M _ n k0 S1 S29 hS29) eX12_serving mX12_466 clX12 (kX12_serving hS29) (by decide) rfl rfl (Nat.le_of_ble_eq_true rfl) dX12_statement_108 ?_
                refine x_goto (pc := 111) (tgt := 239) o dX12_statement_111 (by decide) ?_
                exact x_vreturn (pc := 239) o hr dX12_statement_239 (Option.some.inj h)
            · have h := xif h c32
              refine x_aload_n (pc := 90) o dX12_statement_90 rfl rfl ?_
              obtain ⟨S31, hS31, h⟩ := xbs h
              refine x_callV (pc := 91) (As := []) (b := k0) (rest := []) o (tX12_jobbing _ M _ n k0 S1 S31 hS31) eX12_jobbing mX12_463 clX12 (kX12_jobbing hS31) (by decide) rfl rfl (Nat.le_of_ble_eq_true rfl) dX12_statement_91 ?_
              refine x_goto (pc := 94) (tgt := 239) o dX12_statement_94 (by decide) ?_
              exact x_vreturn (pc := 239) o hr dX12_statement_239 (Option.some.inj h)
          · have h := xif h c34
            refine x_aload_n (pc := 73) o dX12_statement_73 rfl rfl ?_
            obtain ⟨S33, hS33, h⟩ := xbs h
            refine x_callV (pc := 74) (As := []) (b := k0) (rest := []) o (tX12_knowing _ M _ n k0 S1 S33 hS33) eX12_knowing mX12_460 clX12 (kX12_knowing hS33) (by decide) rfl rfl (Nat.le_of_ble_eq_true rfl) dX12_statement_74 ?_
            refine x_goto (pc := 77) (tgt := 239) o dX12_statement_77 (by decide) ?_
            exact x_vreturn (pc := 239) o hr dX12_statement_239 (Option.some.inj h)
        · have h := xif h c36
          refine x_aload_n (pc := 56) o dX12_statement_56 rfl rfl ?_
          obtain ⟨S35, hS35, h⟩ := xbs h
          refine x_callV (pc := 57) (As := []) (b := k0) (rest := []) o (tX12_handing _ M _ n k0 S1 S35 hS35) eX12_handing mX12_457 clX12 (kX12_handing hS35) (by decide) rfl rfl (Nat.le_of_ble_eq_true rfl) dX12_statement_57 ?_
          refine x_goto (pc := 60) (tgt := 239) o dX12_statement_60 (by decide) ?_
          exact x_vreturn (pc := 239) o hr dX12_statement_239 (Option.some.inj h)
      · have h := xif h c38
        refine x_aload_n (pc := 39) o dX12_statement_39 rfl rfl ?_
        obtain ⟨S37, hS37, h⟩ := xbs h
        refine x_callV (pc := 40) (As := []) (b := k0) (rest := []) o (tX12_tooling _ M _ n k0 S1 S37 hS37) eX12_tooling mX12_454 clX12 (kX12_tooling hS37) (by decide) rfl rfl (Nat.le_of_ble_eq_true rfl) dX12_statement_40 ?_
        refine x_goto (pc := 43) (tgt := 239) o dX12_statement_43 (by decide) ?_
        exact x_vreturn (pc := 239) o hr dX12_statement_239 (Option.some.inj h)
    · have h := xif h c40
      refine x_aload_n (pc := 22) o dX12_statement_22 rfl rfl ?_
      obtain ⟨S39, hS39, h⟩ := xbs h
      refine x_callV (pc := 23) (As := []) (b := k0) (rest := []) o (tX12_kinding _ M _ n k0 S1 S39 hS39) eX12_kinding mX12_451 clX12 (kX12_kinding hS39) (by decide) rfl rfl (Nat.le_of_ble_eq_true rfl) dX12_statement_23 ?_
      refine x_goto (pc := 26) (tgt := 239) o dX12_statement_26 (by decide) ?_
      exact x_vreturn (pc := 239) o hr dX12_statement_239 (Option.some.inj h)
  · have h := xif h c41
    exact x_vreturn (pc := 11) o hr dX12_statement_11 (Option.some.inj h)
def fX12_finishes_L17b (n : Nat) (k0 : Nat) (a1 : Int32) (rec : Int32 → xSt → Option (Int32 × xSt)) (a2 : Int32) (S : xSt) : Option (Int32 × xSt) :=
  (xgI tM 12 2 k0 S).bind fun v4 =>
  if v4 ≤ a2 then
  (some (a2, S))
else
  ((xgF tM 12 0 k0 S).bind fun r5 =>
  (xal tM r5 a2 S).bind fun v6 =>
  if v6 = ((32 : Int32)) then
  ((some (a2 + (1 : Int32))).bind fun v7 =>
  rec v7 S)
else
  ((xgF tM 12 0 k0 S).bind fun r8 =>
  (xal tM r8 a2 S).bind fun v9 =>
  if v9 = ((10 : Int32)) then
  ((some (a2 + (1 : Int32))).bind fun v10 =>
  rec v10 S)
else
  (some (a2, S))))
def fX12_finishes_L17 (n : Nat) (k0 : Nat) (a1 : Int32) : Nat → Int32 → xSt → Option (Int32 × xSt)
  | 0 => fun _ _ => none
  | q + 1 => fX12_finishes_L17b n k0 a1 (fX12_finishes_L17 n k0 a1 q)
set_option maxHeartbeats 4000000 in
theorem tX12_finishes_L17b {Γ : xGm} {M : xMg} (o : xOk Γ tM M 4 cX12_finishes RX12) (hnL : Γ.2.2.2 = 3) {rec : Int32 → xSt → Option (Int32 × xSt)} (n : Nat) (k0 : Nat) (a1 : Int32) (a2 : Int32) (S : xSt) (z : (Int32 × xSt)) (hrec : ∀ (a2 : Int32) (S : xSt), rec a2 S = some z → xAt Γ tM M 17 (xlv [(0, .ref (M.2.1 k0)), (1, .int a1), (2, .int a2)]) [] S) (K : xAt Γ tM M 53 (xlv [(0, .ref (M.2.1 k0)), (1, .int a1), (2, .int z.1)]) [] z.2) (h : fX12_finishes_L17b n k0 a1 rec a2 S = some z) : xAt Γ tM M 17 (xlv [(0, .ref (M.2.1 k0)), (1, .int a1), (2, .int a2)]) [] S := by
  have hn2 : 2 < Γ.2.2.2 := by omega
  unfold fX12_finishes_L17b at h
  refine x_iload_n (pc := 17) o dX12_finishes_17 rfl rfl ?_
  refine x_aload_n (pc := 18) o dX12_finishes_18 rfl rfl ?_
  obtain ⟨v4, hv4, h⟩ := xbs h
  refine gX12_17 (pc := 19) o dX12_finishes_19 hv4 ?_
  refine x_icmp_ge (pc := 22) (tgt := 53) o dX12_finishes_22 (by decide) (fun c13 => ?_) (fun c13 => ?_)
  · have h := xit h c13
    refine x_to (l := [(0, .ref (M.2.1 k0)), (1, .int a1), (2, .int a2)]) ⟨rfl, rfl, rfl, trivial⟩ ?_
    cases Option.some.inj h
    exact K
  · have h := xif h c13
    refine x_aload_n (pc := 25) o dX12_finishes_25 rfl rfl ?_
    obtain ⟨r5, hr5, h⟩ := xbs h
    refine gX12_7 (pc := 26) o dX12_finishes_26 hr5 ?_
    refine x_iload_n (pc := 29) o dX12_finishes_29 rfl rfl ?_
    obtain ⟨v6, hv6, h⟩ := xbs h
    refine x_iaload (pc := 30) o dX12_finishes_30 hv6 ?_
    refine x_bipush (pc := 31) o dX12_finishes_31 bp_32 ?_
    refine x_icmp_eq (pc := 33) (tgt := 47) o dX12_finishes_33 (by decide) (fun c12 => ?_) (fun c12 => ?_)
    · have h := xit h c12
      obtain ⟨v7, hv7, h⟩ := xbs h
      refine x_iincE (pc := 47) o dX12_finishes_47 rfl ic_1 hn2 hv7 ?_
      refine x_goto (pc := 50) (tgt := 17) o dX12_finishes_50 (by decide) ?_
      refine x_to (l := [(0, .ref (M.2.1 k0)), (1, .int a1), (2, .int v7)]) ⟨rfl, rfl, rfl, trivial⟩ ?_
      exact hrec v7 S h
    · have h := xif h c12
      refine x_aload_n (pc := 36) o dX12_finishes_36 rfl rfl ?_
      obtain ⟨r8, hr8, h⟩ := xbs h
      refine gX12_7 (pc := 37) o dX12_finishes_37 hr8 ?_
      refine x_iload_n (pc := 40) o dX12_finishes_40 rfl rfl ?_
      obtain ⟨v9, hv9, h⟩ := xbs h
      refine x_iaload (pc := 41) o dX12_finishes_41 hv9 ?_
      refine x_bipush (pc := 42) o dX12_finishes_42 bp_10 ?_
      refine x_icmp_ne (pc := 44) (tgt := 53) o dX12_finishes_44 (by decide) (fun c11 => ?_) (fun c11 => ?_)
      · have h := xif h c11
        refine x_to (l := [(0, .ref (M.2.1 k0)), (1, .int a1), (2, .int a2)]) ⟨rfl, rfl, rfl, trivial⟩ ?_
        cases Option.some.inj h
        exact K
      · have h := xit h c11
        obtain ⟨v10, hv10, h⟩ := xbs h
        refine x_iincE (pc := 47) o dX12_finishes_47 rfl ic_1 hn2 hv10 ?_
        refine x_goto (pc := 50) (tgt := 17) o dX12_finishes_50 (by decide) ?_
        refine x_to (l := [(0, .ref (M.2.1 k0)), (1, .int a1), (2, .int v10)]) ⟨rfl, rfl, rfl, trivial⟩ ?_
        exact hrec v10 S h
theorem tX12_finishes_L17 {Γ : xGm} {M : xMg} (o : xOk Γ tM M 4 cX12_finishes RX12) (hnL : Γ.2.2.2 = 3) (n : Nat) (k0 : Nat) (a1 : Int32) (z : (Int32 × xSt)) (K : xAt Γ tM M 53 (xlv [(0, .ref (M.2.1 k0)), (1, .int a1), (2, .int z.1)]) [] z.2) : ∀ (q : Nat) (a2 : Int32) (S : xSt), fX12_finishes_L17 n k0 a1 q a2 S = some z → xAt Γ tM M 17 (xlv [(0, .ref (M.2.1 k0)), (1, .int a1), (2, .int a2)]) [] S := by
  intro q
  induction q with
  | zero => intro a2 S h; cases h
  | succ q ih => intro a2 S h; exact tX12_finishes_L17b o hnL n k0 a1 a2 S z ih K h
def fX12_finishes_B53 (n : Nat) (k0 : Nat) (a1 : Int32) (a2 : Int32) (S : xSt) : Option (xSt) :=
  (fX12_isSign k0 ((59 : Int32)) S).bind fun v15 =>
  if v15 = 0 then
  ((fX12_must n k0 ((59 : Int32)) S).bind fun S16 =>
  some S16)
else
  (if a1 = ((80 : Int32)) then
  ((xgI tM 12 2 k0 S).bind fun v18 =>
  if v18 ≤ a2 then
  ((fX12_must n k0 ((59 : Int32)) S).bind fun S19 =>
  some S19)
else
  ((fX12_blame k0 ((6 : Int32)) a2 S).bind fun S20 =>
  (fX12_must n k0 ((59 : Int32)) S20).bind fun S21 =>
  some S21))
else
  ((fX12_must n k0 ((59 : Int32)) S).bind fun S17 =>
  some S17))
set_option maxHeartbeats 4000000 in
theorem tX12_finishes_B53 {Γ : xGm} {M : xMg} (o : xOk Γ tM M 4 cX12_finishes RX12) (hnL : Γ.2.2.2 = 3) (n : Nat) (k0 : Nat) (a1 : Int32) (a2 : Int32) (S : xSt) (z : (xSt)) (hr : xRV Γ tM M none z) (h : fX12_finishes_B53 n k0 a1 a2 S = some z) : xAt Γ tM M 53 (xlv [(0, .ref (M.2.1 k0)), (1, .int a1), (2, .int a2)]) [] S := by
  unfold fX12_finishes_B53 at h
  refine x_aload_n (pc := 53) o dX12_finishes_53 rfl rfl ?_
  refine x_bipush (pc := 54) o dX12_finishes_54 bp_59 ?_
  obtain ⟨v15, hv15, h⟩ := xbs h
  refine x_callI (pc := 56) (As := [.int ((59 : Int32))]) (b := k0) (rest := []) o (tX12_isSign _ M _ k0 ((59 : Int32)) S v15 hv15) eX12_isSign mX12_301 clX12 (kX12_isSign hv15) (by decide) rfl rfl (Nat.le_of_ble_eq_true rfl) dX12_finishes_56 ?_
  refine x_if_eq (pc := 59) (tgt := 83) o dX12_finishes_59 (by decide) (fun c24 => ?_) (fun c24 => ?_)
  · have h := xit h c24
    refine x_aload_n (pc := 83) o dX12_finishes_83 rfl rfl ?_
    refine x_bipush (pc := 84) o dX12_finishes_84 bp_59 ?_
    obtain ⟨S16, hS16, h⟩ := xbs h
    refine x_callV (pc := 86) (As := [.int ((59 : Int32))]) (b := k0) (rest := []) o (tX12_must _ M _ n k0 ((59 : Int32)) S S16 hS16) eX12_must mX12_479 clX12 (kX12_must hS16) (by decide) rfl rfl (Nat.le_of_ble_eq_true rfl) dX12_finishes_86 ?_
    exact x_vreturn (pc := 89) o hr dX12_finishes_89 (Option.some.inj h)
  · have h := xif h c24
    refine x_iload_n (pc := 62) o dX12_finishes_62 rfl rfl ?_
    refine x_bipush (pc := 63) o dX12_finishes_63 bp_80 ?_
    refine x_icmp_ne (pc := 65) (tgt := 83) o dX12_finishes_65 (by decide) (fun c23 => ?_) (fun c23 => ?_)
    · have h := xif h c23
      refine x_aload_n (pc := 83) o dX12_finishes_83 rfl rfl ?_
      refine x_bipush (pc := 84) o dX12_finishes_84 bp_59 ?_
      obtain ⟨S17, hS17, h⟩ := xbs h
      refine x_callV (pc := 86) (As := [.int ((59 : Int32))]) (b := k0) (rest := []) o (tX12_must _ M _ n k0 ((59 : Int32)) S S17 hS17) eX12_must mX12_479 clX12 (kX12_must hS17) (by decide) rfl rfl (Nat.le_of_ble_eq_true rfl) dX12_finishes_86 ?_
      exact x_vreturn (pc := 89) o hr dX12_finishes_89 (Option.some.inj h)
    · have h := xit h c23
      refine x_iload_n (pc := 68) o dX12_finishes_68 rfl rfl ?_
      refine x_aload_n (pc := 69) o dX12_finishes_69 rfl rfl ?_
      obtain ⟨v18, hv18, h⟩ := xbs h
      refine gX12_17 (pc := 70) o dX12_finishes_70 hv18 ?_
      refine x_icmp_ge (pc := 73) (tgt := 83) o dX12_finishes_73 (by decide) (fun c22 => ?_) (fun c22 => ?_)
      · have h := xit h c22
        refine x_aload_n (pc := 83) o dX12_finishes_83 rfl rfl ?_
        refine x_bipush (pc := 84) o dX12_finishes_84 bp_59 ?_
        obtain ⟨S19, hS19, h⟩ := xbs h
        refine x_callV (pc := 86) (As := [.int ((59 : Int32))]) (b := k0) (rest := []) o (tX12_must _ M _ n k0 ((59 : Int32)) S S19 hS19) eX12_must mX12_479 clX12 (kX12_must hS19) (by decide) rfl rfl (Nat.le_of_ble_eq_true rfl) dX12_finishes_86 ?_
        exact x_vreturn (pc := 89) o hr dX12_finishes_89 (Option.some.inj h)
      · have h := xif h c22
        refine x_aload_n (pc := 76) o dX12_finishes_76 rfl rfl ?_
        refine x_bipush (pc := 77) o dX12_finishes_77 bp_6 ?_
        refine x_iload_n (pc := 79) o dX12_finishes_79 rfl rfl ?_
        obtain ⟨S20, hS20, h⟩ := xbs h
        refine x_callV (pc := 80) (As := [.int ((6 : Int32)), .int a2]) (b := k0) (rest := []) o (tX12_blame _ M _ k0 ((6 : Int32)) a2 S S20 hS20) eX12_blame mX12_287 clX12 (kX12_blame hS20) (by decide) rfl rfl (Nat.le_of_ble_eq_true rfl) dX12_finishes_80 ?_
        refine x_aload_n (pc := 83) o dX12_finishes_83 rfl rfl ?_
        refine x_bipush (pc := 84) o dX12_finishes_84 bp_59 ?_
        obtain ⟨S21, hS21, h⟩ := xbs h
        refine x_callV (pc := 86) (As := [.int ((59 : Int32))]) (b := k0) (rest := []) o (tX12_must _ M _ n k0 ((59 : Int32)) S20 S21 hS21) eX12_must mX12_479 clX12 (kX12_must hS21) (by decide) rfl rfl (Nat.le_of_ble_eq_true rfl) dX12_finishes_86 ?_
        exact x_vreturn (pc := 89) o hr dX12_finishes_89 (Option.some.inj h)
def fX12_finishes (n : Nat) (k0 : Nat) (a1 : Int32) (S : xSt) : Option (xSt) :=
  if tM.1 k0 = 12 then
  ((fX12_lex k0 S).bind fun S1 =>
  (xgI tM 12 8 k0 S1).bind fun v2 =>
  if v2 ≤ 0 then
  ((xgI tM 12 5 k0 S1).bind fun v3 =>
  (fX12_finishes_L17 n k0 a1 n v3 S1).bind fun z14 => fX12_finishes_B53 n k0 a1 z14.1 z14.2)
else
  (some S1))
  else none
theorem kX12_finishes {z : xSt} {n : Nat} {k0 : Nat} {a1 : Int32} {S : xSt} (h : fX12_finishes n k0 a1 S = some z) : tM.1 k0 = 12 := by
  unfold fX12_finishes at h
  exact (xck h).1
set_option maxHeartbeats 4000000 in
theorem tX12_finishes (l : Launch) (M : xMg) (A : Nat → Prop) (n : Nat) (k0 : Nat) (a1 : Int32) (S : xSt) (z : xSt) (h : fX12_finishes n k0 a1 S = some z) : xMV l yX12_finishes cX12_finishes 3 none 4 tM M A [.ref (M.2.1 k0), .int a1] S z := by
  refine x_metV (plainFor_of_name (by decide)) tM_ok (Nat.le_of_ble_eq_true rfl) (fun Γ hA hnL hl hr o => ?_)
  subst hA; subst hl
  have o : xOk Γ tM M 4 cX12_finishes RX12 := o
  unfold fX12_finishes at h
  obtain ⟨hk0, h⟩ := xck h
  refine x_to (l := [(0, .ref (M.2.1 k0)), (1, .int a1)]) ⟨rfl, rfl, trivial⟩ ?_
  have hn2 : 2 < Γ.2.2.2 := by omega
  refine x_aload_n (pc := 0) o dX12_finishes_0 rfl rfl ?_
  obtain ⟨S1, hS1, h⟩ := xbs h
  refine x_callV (pc := 1) (As := []) (b := k0) (rest := []) o (tX12_lex _ M _ k0 S S1 hS1) eX12_lex mX12_298 clX12 (kX12_lex hS1) (by decide) rfl rfl (Nat.le_of_ble_eq_true rfl) dX12_finishes_1 ?_
  refine x_aload_n (pc := 4) o dX12_finishes_4 rfl rfl ?_
  obtain ⟨v2, hv2, h⟩ := xbs h
  refine gX12_36 (pc := 5) o dX12_finishes_5 hv2 ?_
  refine x_if_le (pc := 8) (tgt := 12) o dX12_finishes_8 (by decide) (fun c25 => ?_) (fun c25 => ?_)
  · have h := xit h c25
    refine x_aload_n (pc := 12) o dX12_finishes_12 rfl rfl ?_
    obtain ⟨v3, hv3, h⟩ := xbs h
    refine gX12_26 (pc := 13) o dX12_finishes_13 hv3 ?_
    refine x_istore_n (pc := 16) o dX12_finishes_16 rfl hn2 ?_
    obtain ⟨z14, hz14, h⟩ := xbs h
    refine x_to (l := [(0, .ref (M.2.1 k0)), (1, .int a1), (2, .int v3)]) ⟨rfl, rfl, rfl, trivial⟩ ?_
    refine tX12_finishes_L17 o hnL n k0 a1 z14 ?_ n v3 S1 hz14
    refine x_to (l := [(0, .ref (M.2.1 k0)), (1, .int a1), (2, .int z14.1)]) ⟨rfl, rfl, rfl, trivial⟩ ?_
    exact tX12_finishes_B53 o hnL n k0 a1 z14.1 z14.2 z hr h
  · have h := xif h c25
    exact x_vreturn (pc := 11) o hr dX12_finishes_11 (Option.some.inj h)
def fX12_begin_L30b (n : Nat) (k0 : Nat) (rec : Int32 → xSt → Option (xSt)) (a1 : Int32) (S : xSt) : Option (xSt) :=
  if ((8 : Int32)) ≤ a1 then
  (some S)
else
  ((xgF tM 12 56 k0 S).bind fun r9 =>
  (xgF tM 12 19 k0 S).bind fun r10 =>
  (xgI tM 12 13 k0 S).bind fun v11 =>
  (xal tM r10 ((((8 : Int32)) * v11) + a1) S).bind fun v12 =>
  (xas tM r9 a1 v12 S).bind fun S13 =>
  (some (a1 + (1 : Int32))).bind fun v14 =>
  rec v14 S13)
def fX12_begin_L30 (n : Nat) (k0 : Nat) : Nat → Int32 → xSt → Option (xSt)
  | 0 => fun _ _ => none
  | q + 1 => fX12_begin_L30b n k0 (fX12_begin_L30 n k0 q)
set_option maxHeartbeats 4000000 in
theorem tX12_begin_L30b {Γ : xGm} {M : xMg} (o : xOk Γ tM M 1 cX12_begin RX12) (hnL : Γ.2.2.2 = 2) {rec : Int32 → xSt → Option (xSt)} (n : Nat) (k0 : Nat) (a1 : Int32) (S : xSt) (z : (xSt)) (hrec : ∀ (a1 : Int32) (S : xSt), rec a1 S = some z → xAt Γ tM M 30 (xlv [(0, .ref (M.2.1 k0)), (1, .int a1)]) [] S) (K : xAt Γ tM M 62 (xlv [(0, .ref (M.2.1 k0))]) [] z) (h : fX12_begin_L30b n k0 rec a1 S = some z) : xAt Γ tM M 30 (xlv [(0, .ref (M.2.1 k0)), (1, .int a1)]) [] S := by
  have hn1 : 1 < Γ.2.2.2 := by omega
  unfold fX12_begin_L30b at h
  refine x_iload_n (pc := 30) o dX12_begin_30 rfl rfl ?_
  refine x_bipush (pc := 31) o dX12_begin_31 bp_8 ?_
  refine x_icmp_ge (pc := 33) (tgt := 62) o dX12_begin_33 (by decide) (fun c15 => ?_) (fun c15 => ?_)
  · have h := xit h c15
    refine x_to (l := [(0, .ref (M.2.1 k0))]) ⟨rfl, trivial⟩ ?_
    cases Option.some.inj h
    exact K
  · have h := xif h c15
    refine x_aload_n (pc := 36) o dX12_begin_36 rfl rfl ?_
    obtain ⟨r9, hr9, h⟩ := xbs h
    refine gX12_183 (pc := 37) o dX12_begin_37 hr9 ?_
    refine x_iload_n (pc := 40) o dX12_begin_40 rfl rfl ?_
    refine x_aload_n (pc := 41) o dX12_begin_41 rfl rfl ?_
    obtain ⟨r10, hr10, h⟩ := xbs h
    refine gX12_69 (pc := 42) o dX12_begin_42 hr10 ?_
    refine x_bipush (pc := 45) o dX12_begin_45 bp_8 ?_
    refine x_aload_n (pc := 47) o dX12_begin_47 rfl rfl ?_
    obtain ⟨v11, hv11, h⟩ := xbs h
    refine gX12_51 (pc := 48) o dX12_begin_48 hv11 ?_
    refine x_imul (pc := 51) o dX12_begin_51 ?_
    refine x_iload_n (pc := 52) o dX12_begin_52 rfl rfl ?_
    refine x_iadd (pc := 53) o dX12_begin_53 ?_
    obtain ⟨v12, hv12, h⟩ := xbs h
    refine x_iaload (pc := 54) o dX12_begin_54 hv12 ?_
    obtain ⟨S13, hS13, h⟩ := xbs h
    refine x_iastore (pc := 55) o dX12_begin_55 hS13 ?_
    obtain ⟨v14, hv14, h⟩ := xbs h
    refine x_iincE (pc := 56) o dX12_begin_56 rfl ic_1 hn1 hv14 ?_
    refine x_goto (pc := 59) (tgt := 30) o dX12_begin_59 (by decide) ?_
    refine x_to (l := [(0, .ref (M.2.1 k0)), (1, .int v14)]) ⟨rfl, rfl, trivial⟩ ?_
    exact hrec v14 S13 h
theorem tX12_begin_L30 {Γ : xGm} {M : xMg} (o : xOk Γ tM M 1 cX12_begin RX12) (hnL : Γ.2.2.2 = 2) (n : Nat) (k0 : Nat) (z : (xSt)) (K : xAt Γ tM M 62 (xlv [(0, .ref (M.2.1 k0))]) [] z) : ∀ (q : Nat) (a1 : Int32) (S : xSt), fX12_begin_L30 n k0 q a1 S = some z → xAt Γ tM M 30 (xlv [(0, .ref (M.2.1 k0)), (1, .int a1)]) [] S := by
  intro q
  induction q with
  | zero => intro a1 S h; cases h
  | succ q ih => intro a1 S h; exact tX12_begin_L30b o hnL n k0 a1 S z ih K h
def fX12_begin_L64b (n : Nat) (k0 : Nat) (rec : Int32 → xSt → Option (xSt)) (a1 : Int32) (S : xSt) : Option (xSt) :=
  if ((48 : Int32)) ≤ a1 then
  (some S)
else
  ((xgF tM 12 59 k0 S).bind fun r17 =>
  (xgF tM 12 21 k0 S).bind fun r18 =>
  (xgI tM 12 13 k0 S).bind fun v19 =>
  (xal tM r18 ((((48 : Int32)) * v19) + a1) S).bind fun v20 =>
  (xas tM r17 a1 v20 S).bind fun S21 =>
  (some (a1 + (1 : Int32))).bind fun v22 =>
  rec v22 S21)
def fX12_begin_L64 (n : Nat) (k0 : Nat) : Nat → Int32 → xSt → Option (xSt)
  | 0 => fun _ _ => none
  | q + 1 => fX12_begin_L64b n k0 (fX12_begin_L64 n k0 q)
set_option maxHeartbeats 4000000 in
theorem tX12_begin_L64b {Γ : xGm} {M : xMg} (o : xOk Γ tM M 1 cX12_begin RX12) (hnL : Γ.2.2.2 = 2) {rec : Int32 → xSt → Option (xSt)} (n : Nat) (k0 : Nat) (a1 : Int32) (S : xSt) (z : (xSt)) (hrec : ∀ (a1 : Int32) (S : xSt), rec a1 S = some z → xAt Γ tM M 64 (xlv [(0, .ref (M.2.1 k0)), (1, .int a1)]) [] S) (K : xAt Γ tM M 96 (xlv [(0, .ref (M.2.1 k0))]) [] z) (h : fX12_begin_L64b n k0 rec a1 S = some z) : xAt Γ tM M 64 (xlv [(0, .ref (M.2.1 k0)), (1, .int a1)]) [] S := by
  have hn1 : 1 < Γ.2.2.2 := by omega
  unfold fX12_begin_L64b at h
  refine x_iload_n (pc := 64) o dX12_begin_64 rfl rfl ?_
  refine x_bipush (pc := 65) o dX12_begin_65 bp_48 ?_
  refine x_icmp_ge (pc := 67) (tgt := 96) o dX12_begin_67 (by decide) (fun c23 => ?_) (fun c23 => ?_)
  · have h := xit h c23
    refine x_to (l := [(0, .ref (M.2.1 k0))]) ⟨rfl, trivial⟩ ?_
    cases Option.some.inj h
    exact K
  · have h := xif h c23
    refine x_aload_n (pc := 70) o dX12_begin_70 rfl rfl ?_
    obtain ⟨r17, hr17, h⟩ := xbs h
    refine gX12_192 (pc := 71) o dX12_begin_71 hr17 ?_
    refine x_iload_n (pc := 74) o dX12_begin_74 rfl rfl ?_
    refine x_aload_n (pc := 75) o dX12_begin_75 rfl rfl ?_
    obtain ⟨r18, hr18, h⟩ := xbs h
    refine gX12_75 (pc := 76) o dX12_begin_76 hr18 ?_
    refine x_bipush (pc := 79) o dX12_begin_79 bp_48 ?_
    refine x_aload_n (pc := 81) o dX12_begin_81 rfl rfl ?_
    obtain ⟨v19, hv19, h⟩ := xbs h
    refine gX12_51 (pc := 82) o dX12_begin_82 hv19 ?_
    refine x_imul (pc := 85) o dX12_begin_85 ?_
    refine x_iload_n (pc := 86) o dX12_begin_86 rfl rfl ?_
    refine x_iadd (pc := 87) o dX12_begin_87 ?_
    obtain ⟨v20, hv20, h⟩ := xbs h
    refine x_iaload (pc := 88) o dX12_begin_88 hv20 ?_
    obtain ⟨S21, hS21, h⟩ := xbs h
    refine x_iastore (pc := 89) o dX12_begin_89 hS21 ?_
    obtain ⟨v22, hv22, h⟩ := xbs h
    refine x_iincE (pc := 90) o dX12_begin_90 rfl ic_1 hn1 hv22 ?_
    refine x_goto (pc := 93) (tgt := 64) o dX12_begin_93 (by decide) ?_
    refine x_to (l := [(0, .ref (M.2.1 k0)), (1, .int v22)]) ⟨rfl, rfl, trivial⟩ ?_
    exact hrec v22 S21 h
theorem tX12_begin_L64 {Γ : xGm} {M : xMg} (o : xOk Γ tM M 1 cX12_begin RX12) (hnL : Γ.2.2.2 = 2) (n : Nat) (k0 : Nat) (z : (xSt)) (K : xAt Γ tM M 96 (xlv [(0, .ref (M.2.1 k0))]) [] z) : ∀ (q : Nat) (a1 : Int32) (S : xSt), fX12_begin_L64 n k0 q a1 S = some z → xAt Γ tM M 64 (xlv [(0, .ref (M.2.1 k0)), (1, .int a1)]) [] S := by
  intro q
  induction q with
  | zero => intro a1 S h; cases h
  | succ q ih => intro a1 S h; exact tX12_begin_L64b o hnL n k0 a1 S z ih K h
def fX12_begin_L98b (n : Nat) (k0 : Nat) (rec : Int32 → xSt → Option (xSt)) (a1 : Int32) (S : xSt) : Option (xSt) :=
  if ((6 : Int32)) ≤ a1 then
  (some S)
else
  ((xgF tM 12 60 k0 S).bind fun r25 =>
  (xas tM r25 a1 ((0 : Int32)) S).bind fun S26 =>
  (xgF tM 12 61 k0 S26).bind fun r27 =>
  (xgF tM 12 23 k0 S26).bind fun r28 =>
  (xgI tM 12 13 k0 S26).bind fun v29 =>
  (xal tM r28 ((((6 : Int32)) * v29) + a1) S26).bind fun v30 =>
  (xas tM r27 a1 v30 S26).bind fun S31 =>
  (some (a1 + (1 : Int32))).bind fun v32 =>
  rec v32 S31)
def fX12_begin_L98 (n : Nat) (k0 : Nat) : Nat → Int32 → xSt → Option (xSt)
  | 0 => fun _ _ => none
  | q + 1 => fX12_begin_L98b n k0 (fX12_begin_L98 n k0 q)
set_option maxHeartbeats 4000000 in
theorem tX12_begin_L98b {Γ : xGm} {M : xMg} (o : xOk Γ tM M 1 cX12_begin RX12) (hnL : Γ.2.2.2 = 2) {rec : Int32 → xSt → Option (xSt)} (n : Nat) (k0 : Nat) (a1 : Int32) (S : xSt) (z : (xSt)) (hrec : ∀ (a1 : Int32) (S : xSt), rec a1 S = some z → xAt Γ tM M 98 (xlv [(0, .ref (M.2.1 k0)), (1, .int a1)]) [] S) (K : xAt Γ tM M 137 (xlv [(0, .ref (M.2.1 k0))]) [] z) (h : fX12_begin_L98b n k0 rec a1 S = some z) : xAt Γ tM M 98 (xlv [(0, .ref (M.2.1 k0)), (1, .int a1)]) [] S := by
  have hn1 : 1 < Γ.2.2.2 := by omega
  unfold fX12_begin_L98b at h
  refine x_iload_n (pc := 98) o dX12_begin_98 rfl rfl ?_
  refine x_bipush (pc := 99) o dX12_begin_99 bp_6 ?_
  refine x_icmp_ge (pc := 101) (tgt := 137) o dX12_begin_101 (by decide) (fun c33 => ?_) (fun c33 => ?_)
  · have h := xit h c33
    refine x_to (l := [(0, .ref (M.2.1 k0))]) ⟨rfl, trivial⟩ ?_
    cases Option.some.inj h
    exact K
  · have h := xif h c33
    refine x_aload_n (pc := 104) o dX12_begin_104 rfl rfl ?_
    obtain ⟨r25, hr25, h⟩ := xbs h
    refine gX12_195 (pc := 105) o dX12_begin_105 hr25 ?_
    refine x_iload_n (pc := 108) o dX12_begin_108 rfl rfl ?_
    refine x_iconst (pc := 109) o dX12_begin_109 ic_0 ?_
    obtain ⟨S26, hS26, h⟩ := xbs h
    refine x_iastore (pc := 110) o dX12_begin_110 hS26 ?_
    refine x_aload_n (pc := 111) o dX12_begin_111 rfl rfl ?_
    obtain ⟨r27, hr27, h⟩ := xbs h
    refine gX12_198 (pc := 112) o dX12_begin_112 hr27 ?_
    refine x_iload_n (pc := 115) o dX12_begin_115 rfl rfl ?_
    refine x_aload_n (pc := 116) o dX12_begin_116 rfl rfl ?_
    obtain ⟨r28, hr28, h⟩ := xbs h
    refine gX12_81 (pc := 117) o dX12_begin_117 hr28 ?_
    refine x_bipush (pc := 120) o dX12_begin_120 bp_6 ?_
    refine x_aload_n (pc := 122) o dX12_begin_122 rfl rfl ?_
    obtain ⟨v29, hv29, h⟩ := xbs h
    refine gX12_51 (pc := 123) o dX12_begin_123 hv29 ?_
    refine x_imul (pc := 126) o dX12_begin_126 ?_
    refine x_iload_n (pc := 127) o dX12_begin_127 rfl rfl ?_
    refine x_iadd (pc := 128) o dX12_begin_128 ?_
    obtain ⟨v30, hv30, h⟩ := xbs h
    refine x_iaload (pc := 129) o dX12_begin_129 hv30 ?_
    obtain ⟨S31, hS31, h⟩ := xbs h
    refine x_iastore (pc := 130) o dX12_begin_130 hS31 ?_
    obtain ⟨v32, hv32, h⟩ := xbs h
    refine x_iincE (pc := 131) o dX12_begin_131 rfl ic_1 hn1 hv32 ?_
    refine x_goto (pc := 134) (tgt := 98) o dX12_begin_134 (by decide) ?_
    refine x_to (l := [(0, .ref (M.2.1 k0)), (1, .int v32)]) ⟨rfl, rfl, trivial⟩ ?_
    exact hrec v32 S31 h
theorem tX12_begin_L98 {Γ : xGm} {M : xMg} (o : xOk Γ tM M 1 cX12_begin RX12) (hnL : Γ.2.2.2 = 2) (n : Nat) (k0 : Nat) (z : (xSt)) (K : xAt Γ tM M 137 (xlv [(0, .ref (M.2.1 k0))]) [] z) : ∀ (q : Nat) (a1 : Int32) (S : xSt), fX12_begin_L98 n k0 q a1 S = some z → xAt Γ tM M 98 (xlv [(0, .ref (M.2.1 k0)), (1, .int a1)]) [] S := by
  intro q
  induction q with
  | zero => intro a1 S h; cases h
  | succ q ih => intro a1 S h; exact tX12_begin_L98b o hnL n k0 a1 S z ih K h
def fX12_begin (n : Nat) (k0 : Nat) (S : xSt) : Option (xSt) :=
  if tM.1 k0 = 12 then
  ((xgF tM 12 54 k0 S).bind fun r1 =>
  (xas tM r1 ((0 : Int32)) ((0 : Int32)) S).bind fun S2 =>
  (xgF tM 12 55 k0 S2).bind fun r3 =>
  (xas tM r3 ((0 : Int32)) ((0 : Int32)) S2).bind fun S4 =>
  (xgF tM 12 57 k0 S4).bind fun r5 =>
  (xas tM r5 ((0 : Int32)) ((0 : Int32)) S4).bind fun S6 =>
  (xgF tM 12 58 k0 S6).bind fun r7 =>
  (xas tM r7 ((0 : Int32)) ((0 : Int32)) S6).bind fun S8 =>
  (fX12_begin_L30 n k0 n ((0 : Int32)) S8).bind fun z16 => (fX12_begin_L64 n k0 n ((0 : Int32)) z16).bind fun z24 => (fX12_begin_L98 n k0 n ((0 : Int32)) z24).bind fun z34 => (xgF tM 12 62 k0 z34).bind fun r35 =>
  (xas tM r35 ((0 : Int32)) ((0 : Int32)) z34).bind fun S36 =>
  (xpI tM 12 65 k0 ((0 : Int32)) S36).bind fun S37 =>
  (xpI tM 12 83 k0 ((0 : Int32)) S37).bind fun S38 =>
  some S38)
  else none
theorem kX12_begin {z : xSt} {n : Nat} {k0 : Nat} {S : xSt} (h : fX12_begin n k0 S = some z) : tM.1 k0 = 12 := by
  unfold fX12_begin at h
  exact (xck h).1
set_option maxHeartbeats 4000000 in
theorem tX12_begin (l : Launch) (M : xMg) (A : Nat → Prop) (n : Nat) (k0 : Nat) (S : xSt) (z : xSt) (h : fX12_begin n k0 S = some z) : xMV l yX12_begin cX12_begin 2 none 1 tM M A [.ref (M.2.1 k0)] S z := by
  refine x_metV (plainFor_of_name (by decide)) tM_ok (Nat.le_of_ble_eq_true rfl) (fun Γ hA hnL hl hr o => ?_)
  subst hA; subst hl
  have o : xOk Γ tM M 1 cX12_begin RX12 := o
  unfold fX12_begin at h
  obtain ⟨hk0, h⟩ := xck h
  refine x_to (l := [(0, .ref (M.2.1 k0))]) ⟨rfl, trivial⟩ ?_
  have hn1 : 1 < Γ.2.2.2 := by omega
  refine x_aload_n (pc := 0) o dX12_begin_0 rfl rfl ?_
  obtain ⟨r1, hr1, h⟩ := xbs h
  refine gX12_177 (pc := 1) o dX12_begin_1 hr1 ?_
  refine x_iconst (pc := 4) o dX12_begin_4 ic_0 ?_
  refine x_iconst (pc := 5) o dX12_begin_5 ic_0 ?_
  obtain ⟨S2, hS2, h⟩ := xbs h
  refine x_iastore (pc := 6) o dX12_begin_6 hS2 ?_
  refine x_aload_n (pc := 7) o dX12_begin_7 rfl rfl ?_
  obtain ⟨r3, hr3, h⟩ := xbs h
  refine gX12_180 (pc := 8) o dX12_begin_8 hr3 ?_
  refine x_iconst (pc := 11) o dX12_begin_11 ic_0 ?_
  refine x_iconst (pc := 12) o dX12_begin_12 ic_0 ?_
  obtain ⟨S4, hS4, h⟩ := xbs h
  refine x_iastore (pc := 13) o dX12_begin_13 hS4 ?_
  refine x_aload_n (pc := 14) o dX12_begin_14 rfl rfl ?_
  obtain ⟨r5, hr5, h⟩ := xbs h
  refine gX12_186 (pc := 15) o dX12_begin_15 hr5 ?_
  refine x_iconst (pc := 18) o dX12_begin_18 ic_0 ?_
  refine x_iconst (pc := 19) o dX12_begin_19 ic_0 ?_
  obtain ⟨S6, hS6, h⟩ := xbs h
  refine x_iastore (pc := 20) o dX12_begin_20 hS6 ?_
  refine x_aload_n (pc := 21) o dX12_begin_21 rfl rfl ?_
  obtain ⟨r7, hr7, h⟩ := xbs h
  refine gX12_189 (pc := 22) o dX12_begin_22 hr7 ?_
  refine x_iconst (pc := 25) o dX12_begin_25 ic_0 ?_
  refine x_iconst (pc := 26) o dX12_begin_26 ic_0 ?_
  obtain ⟨S8, hS8, h⟩ := xbs h
  refine x_iastore (pc := 27) o dX12_begin_27 hS8 ?_
  refine x_iconst (pc := 28) o dX12_begin_28 ic_0 ?_
  refine x_istore_n (pc := 29) o dX12_begin_29 rfl hn1 ?_
  obtain ⟨z16, hz16, h⟩ := xbs h
  refine x_to (l := [(0, .ref (M.2.1 k0)), (1, .int ((0 : Int32)))]) ⟨rfl, rfl, trivial⟩ ?_
  refine tX12_begin_L30 o hnL n k0 z16 ?_ n ((0 : Int32)) S8 hz16
  refine x_iconst (pc := 62) o dX12_begin_62 ic_0 ?_
  refine x_istore_n (pc := 63) o dX12_begin_63 rfl hn1 ?_
  obtain ⟨z24, hz24, h⟩ := xbs h
  refine x_to (l := [(0, .ref (M.2.1 k0)), (1, .int ((0 : Int32)))]) ⟨rfl, rfl, trivial⟩ ?_
  refine tX12_begin_L64 o hnL n k0 z24 ?_ n ((0 : Int32)) z16 hz24
  refine x_iconst (pc := 96) o dX12_begin_96 ic_0 ?_
  refine x_istore_n (pc := 97) o dX12_begin_97 rfl hn1 ?_
  obtain ⟨z34, hz34, h⟩ := xbs h
  refine x_to (l := [(0, .ref (M.2.1 k0)), (1, .int ((0 : Int32)))]) ⟨rfl, rfl, trivial⟩ ?_
  refine tX12_begin_L98 o hnL n k0 z34 ?_ n ((0 : Int32)) z24 hz34
  refine x_aload_n (pc := 137) o dX12_begin_137 rfl rfl ?_
  obtain ⟨r35, hr35, h⟩ := xbs h
  refine gX12_201 (pc := 138) o dX12_begin_138 hr35 ?_
  refine x_iconst (pc := 141) o dX12_begin_141 ic_0 ?_
  refine x_iconst (pc := 142) o dX12_begin_142 ic_0 ?_
  obtain ⟨S36, hS36, h⟩ := xbs h
  refine x_iastore (pc := 143) o dX12_begin_143 hS36 ?_
  refine x_aload_n (pc := 144) o dX12_begin_144 rfl rfl ?_
  refine x_iconst (pc := 145) o dX12_begin_145 ic_0 ?_
  obtain ⟨S37, hS37, h⟩ := xbs h
  refine pX12_210 (pc := 146) o dX12_begin_146 hS37 ?_
  refine x_aload_n (pc := 149) o dX12_begin_149 rfl rfl ?_
  refine x_iconst (pc := 150) o dX12_begin_150 ic_0 ?_
  obtain ⟨S38, hS38, h⟩ := xbs h
  refine pX12_264 (pc := 151) o dX12_begin_151 hS38 ?_
  exact x_vreturn (pc := 154) o hr dX12_begin_154 (Option.some.inj h)
def fX12_year_L123b (n : Nat) (k0 : Nat) (rec : Int32 → xSt → Option (Int32 × xSt)) (a1 : Int32) (S : xSt) : Option (Int32 × xSt) :=
  (xgI tM 12 8 k0 S).bind fun v31 =>
  if v31 = 0 then
  ((xgI tM 12 3 k0 S).bind fun v32 =>
  if v32 = 0 then
  (some (a1, S))
else
  ((fX12_statement n k0 S).bind fun S33 =>
  (some (a1 + (1 : Int32))).bind fun v34 =>
  (fX12_finishes n k0 v34 S33).bind fun S35 =>
  rec v34 S35))
else
  (some (a1, S))
def fX12_year_L123 (n : Nat) (k0 : Nat) : Nat → Int32 → xSt → Option (Int32 × xSt)
  | 0 => fun _ _ => none
  | q + 1 => fX12_year_L123b n k0 (fX12_year_L123 n k0 q)
set_option maxHeartbeats 4000000 in
theorem tX12_year_L123b {Γ : xGm} {M : xMg} (o : xOk Γ tM M 8 cX12_year RX12) (hnL : Γ.2.2.2 = 2) {rec : Int32 → xSt → Option (Int32 × xSt)} (n : Nat) (k0 : Nat) (a1 : Int32) (S : xSt) (z : (Int32 × xSt)) (hrec : ∀ (a1 : Int32) (S : xSt), rec a1 S = some z → xAt Γ tM M 123 (xlv [(0, .ref (M.2.1 k0)), (1, .int a1)]) [] S) (K : xAt Γ tM M 152 (xlv [(0, .ref (M.2.1 k0)), (1, .int z.1)]) [] z.2) (h : fX12_year_L123b n k0 rec a1 S = some z) : xAt Γ tM M 123 (xlv [(0, .ref (M.2.1 k0)), (1, .int a1)]) [] S := by
  have hn1 : 1 < Γ.2.2.2 := by omega
  unfold fX12_year_L123b at h
  refine x_aload_n (pc := 123) o dX12_year_123 rfl rfl ?_
  obtain ⟨v31, hv31, h⟩ := xbs h
  refine gX12_36 (pc := 124) o dX12_year_124 hv31 ?_
  refine x_if_ne (pc := 127) (tgt := 152) o dX12_year_127 (by decide) (fun c37 => ?_) (fun c37 => ?_)
  · have h := xif h c37
    refine x_to (l := [(0, .ref (M.2.1 k0)), (1, .int a1)]) ⟨rfl, rfl, trivial⟩ ?_
    cases Option.some.inj h
    exact K
  · have h := xit h c37
    refine x_aload_n (pc := 130) o dX12_year_130 rfl rfl ?_
    obtain ⟨v32, hv32, h⟩ := xbs h
    refine gX12_20 (pc := 131) o dX12_year_131 hv32 ?_
    refine x_if_eq (pc := 134) (tgt := 152) o dX12_year_134 (by decide) (fun c36 => ?_) (fun c36 => ?_)
    · have h := xit h c36
      refine x_to (l := [(0, .ref (M.2.1 k0)), (1, .int a1)]) ⟨rfl, rfl, trivial⟩ ?_
      cases Option.some.inj h
      exact K
    · have h := xif h c36
      refine x_aload_n (pc := 137) o dX12_year_137 rfl rfl ?_
      obtain ⟨S33, hS33, h⟩ := xbs h
      refine x_callV (pc := 138) (As := []) (b := k0) (rest := []) o (tX12_statement _ M _ n k0 S S33 hS33) eX12_statement mX12_481 clX12 (kX12_statement hS33) (by decide) rfl rfl (Nat.le_of_ble_eq_true rfl) dX12_year_138 ?_
      obtain ⟨v34, hv34, h⟩ := xbs h
      refine x_iincE (pc := 141) o dX12_year_141 rfl ic_1 hn1 hv34 ?_
      refine x_aload_n (pc := 144) o dX12_year_144 rfl rfl ?_
      refine x_iload_n (pc := 145) o dX12_year_145 rfl rfl ?_
      obtain ⟨S35, hS35, h⟩ := xbs h
      refine x_callV (pc := 146) (As := [.int v34]) (b := k0) (rest := []) o (tX12_finishes _ M _ n k0 v34 S33 S35 hS35) eX12_finishes mX12_484 clX12 (kX12_finishes hS35) (by decide) rfl rfl (Nat.le_of_ble_eq_true rfl) dX12_year_146 ?_
      refine x_goto (pc := 149) (tgt := 123) o dX12_year_149 (by decide) ?_
      refine x_to (l := [(0, .ref (M.2.1 k0)), (1, .int v34)]) ⟨rfl, rfl, trivial⟩ ?_
      exact hrec v34 S35 h
theorem tX12_year_L123 {Γ : xGm} {M : xMg} (o : xOk Γ tM M 8 cX12_year RX12) (hnL : Γ.2.2.2 = 2) (n : Nat) (k0 : Nat) (z : (Int32 × xSt)) (K : xAt Γ tM M 152 (xlv [(0, .ref (M.2.1 k0)), (1, .int z.1)]) [] z.2) : ∀ (q : Nat) (a1 : Int32) (S : xSt), fX12_year_L123 n k0 q a1 S = some z → xAt Γ tM M 123 (xlv [(0, .ref (M.2.1 k0)), (1, .int a1)]) [] S := by
  intro q
  induction q with
  | zero => intro a1 S h; cases h
  | succ q ih => intro a1 S h; exact tX12_year_L123b o hnL n k0 a1 S z ih K h
def fX12_year_B152 (n : Nat) (k0 : Nat) (a1 : Int32) (S : xSt) : Option (Int32 × xSt) :=
  (xgI tM 12 8 k0 S).bind fun v39 =>
  (xpI tM 12 10 k0 v39 S).bind fun S40 =>
  (xgI tM 12 9 k0 S40).bind fun v41 =>
  (xpI tM 12 11 k0 v41 S40).bind fun S42 =>
  (xgI tM 12 8 k0 S42).bind fun v43 =>
  if v43 ≤ 0 then
  ((xgI tM 12 40 k0 S42).bind fun v44 =>
  (xpI tM 12 13 k0 v44 S42).bind fun S45 =>
  (fX12_begin n k0 S45).bind fun S46 =>
  some (a1, S46))
else
  ((fX12_refuses k0 ((1 : Int32)) S42).bind fun q47 =>
  some (q47.1, q47.2))
set_option maxHeartbeats 4000000 in
theorem tX12_year_B152 {Γ : xGm} {M : xMg} (o : xOk Γ tM M 8 cX12_year RX12) (hnL : Γ.2.2.2 = 2) (n : Nat) (k0 : Nat) (a1 : Int32) (S : xSt) (z : (Int32 × xSt)) (hr : xRI Γ tM M (some .int) z.1 z.2) (h : fX12_year_B152 n k0 a1 S = some z) : xAt Γ tM M 152 (xlv [(0, .ref (M.2.1 k0)), (1, .int a1)]) [] S := by
  unfold fX12_year_B152 at h
  refine x_aload_n (pc := 152) o dX12_year_152 rfl rfl ?_
  refine x_aload_n (pc := 153) o dX12_year_153 rfl rfl ?_
  obtain ⟨v39, hv39, h⟩ := xbs h
  refine gX12_36 (pc := 154) o dX12_year_154 hv39 ?_
  obtain ⟨S40, hS40, h⟩ := xbs h
  refine pX12_42 (pc := 157) o dX12_year_157 hS40 ?_
  refine x_aload_n (pc := 160) o dX12_year_160 rfl rfl ?_
  refine x_aload_n (pc := 161) o dX12_year_161 rfl rfl ?_
  obtain ⟨v41, hv41, h⟩ := xbs h
  refine gX12_39 (pc := 162) o dX12_year_162 hv41 ?_
  obtain ⟨S42, hS42, h⟩ := xbs h
  refine pX12_45 (pc := 165) o dX12_year_165 hS42 ?_
  refine x_aload_n (pc := 168) o dX12_year_168 rfl rfl ?_
  obtain ⟨v43, hv43, h⟩ := xbs h
  refine gX12_36 (pc := 169) o dX12_year_169 hv43 ?_
  refine x_if_le (pc := 172) (tgt := 181) o dX12_year_172 (by decide) (fun c48 => ?_) (fun c48 => ?_)
  · have h := xit h c48
    refine x_aload_n (pc := 181) o dX12_year_181 rfl rfl ?_
    refine x_aload_n (pc := 182) o dX12_year_182 rfl rfl ?_
    obtain ⟨v44, hv44, h⟩ := xbs h
    refine gX12_133 (pc := 183) o dX12_year_183 hv44 ?_
    obtain ⟨S45, hS45, h⟩ := xbs h
    refine pX12_51 (pc := 186) o dX12_year_186 hS45 ?_
    refine x_aload_n (pc := 189) o dX12_year_189 rfl rfl ?_
    obtain ⟨S46, hS46, h⟩ := xbs h
    refine x_callV (pc := 190) (As := []) (b := k0) (rest := []) o (tX12_begin _ M _ n k0 S45 S46 hS46) eX12_begin mX12_487 clX12 (kX12_begin hS46) (by decide) rfl rfl (Nat.le_of_ble_eq_true rfl) dX12_year_190 ?_
    refine x_iload_n (pc := 193) o dX12_year_193 rfl rfl ?_
    exact x_ireturn (pc := 194) o hr dX12_year_194 (xr1 h) (xr2 h)
  · have h := xif h c48
    refine x_aload_n (pc := 175) o dX12_year_175 rfl rfl ?_
    refine x_iconst (pc := 176) o dX12_year_176 ic_1 ?_
    obtain ⟨q47, hq47, h⟩ := xbs h
    refine x_callI (pc := 177) (As := [.int ((1 : Int32))]) (b := k0) (rest := []) o (tX12_refuses _ M _ k0 ((1 : Int32)) S42 q47 hq47) eX12_refuses mX12_280 clX12 (kX12_refuses hq47) (by decide) rfl rfl (Nat.le_of_ble_eq_true rfl) dX12_year_177 ?_
    exact x_ireturn (pc := 180) o hr dX12_year_180 (xr1 h) (xr2 h)
def fX12_year (n : Nat) (k0 : Nat) (S : xSt) : Option (Int32 × xSt) :=
  if tM.1 k0 = 12 then
  ((xgI tM 12 1 k0 S).bind fun v1 =>
  (xpI tM 12 2 k0 v1 S).bind fun S2 =>
  (xpI tM 12 1 k0 ((0 : Int32)) S2).bind fun S3 =>
  (xpI tM 12 5 k0 ((0 : Int32)) S3).bind fun S4 =>
  (xpI tM 12 8 k0 ((0 : Int32)) S4).bind fun S5 =>
  (xpI tM 12 9 k0 ((-1 : Int32)) S5).bind fun S6 =>
  (xgI tM 12 13 k0 S6).bind fun v7 =>
  (xpI tM 12 40 k0 (((1 : Int32)) - v7) S6).bind fun S8 =>
  (xgF tM 12 14 k0 S8).bind fun r9 =>
  (xgI tM 12 40 k0 S8).bind fun v10 =>
  (xas tM r9 v10 ((0 : Int32)) S8).bind fun S11 =>
  (xgF tM 12 17 k0 S11).bind fun r12 =>
  (xgI tM 12 40 k0 S11).bind fun v13 =>
  (xas tM r12 v13 ((0 : Int32)) S11).bind fun S14 =>
  (xgF tM 12 20 k0 S14).bind fun r15 =>
  (xgI tM 12 40 k0 S14).bind fun v16 =>
  (xas tM r15 v16 ((0 : Int32)) S14).bind fun S17 =>
  (xgF tM 12 22 k0 S17).bind fun r18 =>
  (xgI tM 12 40 k0 S17).bind fun v19 =>
  (xas tM r18 v19 ((0 : Int32)) S17).bind fun S20 =>
  (xgI tM 12 40 k0 S20).bind fun v21 =>
  (fX12_isDefault k0 v21 S20).bind fun S22 =>
  (xgF tM 12 31 k0 S22).bind fun r23 =>
  (xgI tM 12 40 k0 S22).bind fun v24 =>
  (xas tM r23 (((2 : Int32)) * v24) ((-1 : Int32)) S22).bind fun S25 =>
  (xgF tM 12 31 k0 S25).bind fun r26 =>
  (xgI tM 12 40 k0 S25).bind fun v27 =>
  (xas tM r26 ((((2 : Int32)) * v27) + ((1 : Int32))) ((-1 : Int32)) S25).bind fun S28 =>
  (xpI tM 12 39 k0 ((0 : Int32)) S28).bind fun S29 =>
  (fX12_ahead n k0 S29).bind fun S30 =>
  (fX12_year_L123 n k0 n ((0 : Int32)) S30).bind fun z38 => fX12_year_B152 n k0 z38.1 z38.2)
  else none
theorem kX12_year {z : Int32 × xSt} {n : Nat} {k0 : Nat} {S : xSt} (h : fX12_year n k0 S = some z) : tM.1 k0 = 12 := by
  unfold fX12_year at h
  exact (xck h).1
set_option maxHeartbeats 4000000 in
theorem tX12_year (l : Launch) (M : xMg) (A : Nat → Prop) (n : Nat) (k0 : Nat) (S : xSt) (z : Int32 × xSt) (h : fX12_year n k0 S = some z) : xMI l yX12_year cX12_year 2 (some .int) 8 tM M A [.ref (M.2.1 k0)] S z.1 z.2 := by
  refine x_metI (plainFor_of_name (by decide)) tM_ok (Nat.le_of_ble_eq_true rfl) (fun Γ hA hnL hl hr o => ?_)
  subst hA; subst hl
  have o : xOk Γ tM M 8 cX12_year RX12 := o
  unfold fX12_year at h
  obtain ⟨hk0, h⟩ := xck h
  refine x_to (l := [(0, .ref (M.2.1 k0))]) ⟨rfl, trivial⟩ ?_
  have hn1 : 1 < Γ.2.2.2 := by omega
  refine x_aload_n (pc := 0) o dX12_year_0 rfl rfl ?_
  refine x_aload_n (pc := 1) o dX12_year_1 rfl rfl ?_
  obtain ⟨v1, hv1, h⟩ := xbs h
  refine gX12_13 (pc := 2) o dX12_year_2 hv1 ?_
  obtain ⟨S2, hS2, h⟩ := xbs h
  refine pX12_17 (pc := 5) o dX12_year_5 hS2 ?_
  refine x_aload_n (pc := 8) o dX12_year_8 rfl rfl ?_
  refine x_iconst (pc := 9) o dX12_year_9 ic_0 ?_
  obtain ⟨S3, hS3, h⟩ := xbs h
  refine pX12_13 (pc := 10) o dX12_year_10 hS3 ?_
  refine x_aload_n (pc := 13) o dX12_year_13 rfl rfl ?_
  refine x_iconst (pc := 14) o dX12_year_14 ic_0 ?_
  obtain ⟨S4, hS4, h⟩ := xbs h
  refine pX12_26 (pc := 15) o dX12_year_15 hS4 ?_
  refine x_aload_n (pc := 18) o dX12_year_18 rfl rfl ?_
  refine x_iconst (pc := 19) o dX12_year_19 ic_0 ?_
  obtain ⟨S5, hS5, h⟩ := xbs h
  refine pX12_36 (pc := 20) o dX12_year_20 hS5 ?_
  refine x_aload_n (pc := 23) o dX12_year_23 rfl rfl ?_
  refine x_iconst (pc := 24) o dX12_year_24 ic_m1 ?_
  obtain ⟨S6, hS6, h⟩ := xbs h
  refine pX12_39 (pc := 25) o dX12_year_25 hS6 ?_
  refine x_aload_n (pc := 28) o dX12_year_28 rfl rfl ?_
  refine x_iconst (pc := 29) o dX12_year_29 ic_1 ?_
  refine x_aload_n (pc := 30) o dX12_year_30 rfl rfl ?_
  obtain ⟨v7, hv7, h⟩ := xbs h
  refine gX12_51 (pc := 31) o dX12_year_31 hv7 ?_
  refine x_isub (pc := 34) o dX12_year_34 ?_
  obtain ⟨S8, hS8, h⟩ := xbs h
  refine pX12_133 (pc := 35) o dX12_year_35 hS8 ?_
  refine x_aload_n (pc := 38) o dX12_year_38 rfl rfl ?_
  obtain ⟨r9, hr9, h⟩ := xbs h
  refine gX12_54 (pc := 39) o dX12_year_39 hr9 ?_
  refine x_aload_n (pc := 42) o dX12_year_42 rfl rfl ?_
  obtain ⟨v10, hv10, h⟩ := xbs h
  refine gX12_133 (pc := 43) o dX12_year_43 hv10 ?_
  refine x_iconst (pc := 46) o dX12_year_46 ic_0 ?_
  obtain ⟨S11, hS11, h⟩ := xbs h
  refine x_iastore (pc := 47) o dX12_year_47 hS11 ?_
  refine x_aload_n (pc := 48) o dX12_year_48 rfl rfl ?_
  obtain ⟨r12, hr12, h⟩ := xbs h
  refine gX12_63 (pc := 49) o dX12_year_49 hr12 ?_
  refine x_aload_n (pc := 52) o dX12_year_52 rfl rfl ?_
  obtain ⟨v13, hv13, h⟩ := xbs h
  refine gX12_133 (pc := 53) o dX12_year_53 hv13 ?_
  refine x_iconst (pc := 56) o dX12_year_56 ic_0 ?_
  obtain ⟨S14, hS14, h⟩ := xbs h
  refine x_iastore (pc := 57) o dX12_year_57 hS14 ?_
  refine x_aload_n (pc := 58) o dX12_year_58 rfl rfl ?_
  obtain ⟨r15, hr15, h⟩ := xbs h
  refine gX12_72 (pc := 59) o dX12_year_59 hr15 ?_
  refine x_aload_n (pc := 62) o dX12_year_62 rfl rfl ?_
  obtain ⟨v16, hv16, h⟩ := xbs h
  refine gX12_133 (pc := 63) o dX12_year_63 hv16 ?_
  refine x_iconst (pc := 66) o dX12_year_66 ic_0 ?_
  obtain ⟨S17, hS17, h⟩ := xbs h
  refine x_iastore (pc := 67) o dX12_year_67 hS17 ?_
  refine x_aload_n (pc := 68) o dX12_year_68 rfl rfl ?_
  obtain ⟨r18, hr18, h⟩ := xbs h
  refine gX12_78 (pc := 69) o dX12_year_69 hr18 ?_
  refine x_aload_n (pc := 72) o dX12_year_72 rfl rfl ?_
  obtain ⟨v19, hv19, h⟩ := xbs h
  refine gX12_133 (pc := 73) o dX12_year_73 hv19 ?_
  refine x_iconst (pc := 76) o dX12_year_76 ic_0 ?_
  obtain ⟨S20, hS20, h⟩ := xbs h
  refine x_iastore (pc := 77) o dX12_year_77 hS20 ?_
  refine x_aload_n (pc := 78) o dX12_year_78 rfl rfl ?_
  refine x_aload_n (pc := 79) o dX12_year_79 rfl rfl ?_
  obtain ⟨v21, hv21, h⟩ := xbs h
  refine gX12_133 (pc := 80) o dX12_year_80 hv21 ?_
  obtain ⟨S22, hS22, h⟩ := xbs h
  refine x_callV (pc := 83) (As := [.int v21]) (b := k0) (rest := []) o (tX12_isDefault _ M _ k0 v21 S20 S22 hS22) eX12_isDefault mX12_276 clX12 (kX12_isDefault hS22) (by decide) rfl rfl (Nat.le_of_ble_eq_true rfl) dX12_year_83 ?_
  refine x_aload_n (pc := 86) o dX12_year_86 rfl rfl ?_
  obtain ⟨r23, hr23, h⟩ := xbs h
  refine gX12_105 (pc := 87) o dX12_year_87 hr23 ?_
  refine x_iconst (pc := 90) o dX12_year_90 ic_2 ?_
  refine x_aload_n (pc := 91) o dX12_year_91 rfl rfl ?_
  obtain ⟨v24, hv24, h⟩ := xbs h
  refine gX12_133 (pc := 92) o dX12_year_92 hv24 ?_
  refine x_imul (pc := 95) o dX12_year_95 ?_
  refine x_iconst (pc := 96) o dX12_year_96 ic_m1 ?_
  obtain ⟨S25, hS25, h⟩ := xbs h
  refine x_iastore (pc := 97) o dX12_year_97 hS25 ?_
  refine x_aload_n (pc := 98) o dX12_year_98 rfl rfl ?_
  obtain ⟨r26, hr26, h⟩ := xbs h
  refine gX12_105 (pc := 99) o dX12_year_99 hr26 ?_
  refine x_iconst (pc := 102) o dX12_year_102 ic_2 ?_
  refine x_aload_n (pc := 103) o dX12_year_103 rfl rfl ?_
  obtain ⟨v27, hv27, h⟩ := xbs h
  refine gX12_133 (pc := 104) o dX12_year_104 hv27 ?_
  refine x_imul (pc := 107) o dX12_year_107 ?_
  refine x_iconst (pc := 108) o dX12_year_108 ic_1 ?_
  refine x_iadd (pc := 109) o dX12_year_109 ?_
  refine x_iconst (pc := 110) o dX12_year_110 ic_m1 ?_
  obtain ⟨S28, hS28, h⟩ := xbs h
  refine x_iastore (pc := 111) o dX12_year_111 hS28 ?_
  refine x_aload_n (pc := 112) o dX12_year_112 rfl rfl ?_
  refine x_iconst (pc := 113) o dX12_year_113 ic_0 ?_
  obtain ⟨S29, hS29, h⟩ := xbs h
  refine pX12_130 (pc := 114) o dX12_year_114 hS29 ?_
  refine x_iconst (pc := 117) o dX12_year_117 ic_0 ?_
  refine x_istore_n (pc := 118) o dX12_year_118 rfl hn1 ?_
  refine x_aload_n (pc := 119) o dX12_year_119 rfl rfl ?_
  obtain ⟨S30, hS30, h⟩ := xbs h
  refine x_callV (pc := 120) (As := []) (b := k0) (rest := []) o (tX12_ahead _ M _ n k0 S29 S30 hS30) eX12_ahead mX12_304 clX12 (kX12_ahead hS30) (by decide) rfl rfl (Nat.le_of_ble_eq_true rfl) dX12_year_120 ?_
  obtain ⟨z38, hz38, h⟩ := xbs h
  refine x_to (l := [(0, .ref (M.2.1 k0)), (1, .int ((0 : Int32)))]) ⟨rfl, rfl, trivial⟩ ?_
  refine tX12_year_L123 o hnL n k0 z38 ?_ n ((0 : Int32)) S30 hz38
  refine x_to (l := [(0, .ref (M.2.1 k0)), (1, .int z38.1)]) ⟨rfl, rfl, trivial⟩ ?_
  exact tX12_year_B152 o hnL n k0 z38.1 z38.2 z hr h
def fX12_fault (k0 : Nat) (a1 : Int32) (S : xSt) : Option (Int32) :=
  if tM.1 k0 = 12 then
  (if a1 = 0 then
  ((xgI tM 12 10 k0 S).bind fun v3 =>
  some v3)
else
  (if a1 = ((1 : Int32)) then
  ((xgI tM 12 11 k0 S).bind fun v1 =>
  some v1)
else
  (some ((-1 : Int32)))))
  else none
theorem kX12_fault {z : Int32} {k0 : Nat} {a1 : Int32} {S : xSt} (h : fX12_fault k0 a1 S = some z) : tM.1 k0 = 12 := by
  unfold fX12_fault at h
  exact (xck h).1
set_option maxHeartbeats 4000000 in
theorem tX12_fault (l : Launch) (M : xMg) (A : Nat → Prop) (k0 : Nat) (a1 : Int32) (S : xSt) (z : Int32) (h : fX12_fault k0 a1 S = some z) : xMI l yX12_fault cX12_fault 2 (some .int) 1 tM M A [.ref (M.2.1 k0), .int a1] S z S := by
  refine x_metI (plainFor_of_name (by decide)) tM_ok (Nat.le_of_ble_eq_true rfl) (fun Γ hA hnL hl hr o => ?_)
  subst hA; subst hl
  have o : xOk Γ tM M 1 cX12_fault RX12 := o
  unfold fX12_fault at h
  obtain ⟨hk0, h⟩ := xck h
  refine x_to (l := [(0, .ref (M.2.1 k0)), (1, .int a1)]) ⟨rfl, rfl, trivial⟩ ?_
  refine x_iload_n (pc := 0) o dX12_fault_0 rfl rfl ?_
  refine x_if_ne (pc := 1) (tgt := 11) o dX12_fault_1 (by decide) (fun c4 => ?_) (fun c4 => ?_)
  · have h := xif h c4
    refine x_iload_n (pc := 11) o dX12_fault_11 rfl rfl ?_
    refine x_iconst (pc := 12) o dX12_fault_12 ic_1 ?_
    refine x_icmp_ne (pc := 13) (tgt := 23) o dX12_fault_13 (by decide) (fun c2 => ?_) (fun c2 => ?_)
    · have h := xif h c2
      refine x_iconst (pc := 23) o dX12_fault_23 ic_m1 ?_
      exact x_ireturn (pc := 24) o hr dX12_fault_24 (Option.some.inj h) rfl
    · have h := xit h c2
      refine x_aload_n (pc := 16) o dX12_fault_16 rfl rfl ?_
      obtain ⟨v1, hv1, h⟩ := xbs h
      refine gX12_45 (pc := 17) o dX12_fault_17 hv1 ?_
      refine x_goto (pc := 20) (tgt := 24) o dX12_fault_20 (by decide) ?_
      exact x_ireturn (pc := 24) o hr dX12_fault_24 (Option.some.inj h) rfl
  · have h := xit h c4
    refine x_aload_n (pc := 4) o dX12_fault_4 rfl rfl ?_
    obtain ⟨v3, hv3, h⟩ := xbs h
    refine gX12_42 (pc := 5) o dX12_fault_5 hv3 ?_
    refine x_goto (pc := 8) (tgt := 24) o dX12_fault_8 (by decide) ?_
    exact x_ireturn (pc := 24) o hr dX12_fault_24 (Option.some.inj h) rfl
def fX12_status (k0 : Nat) (a1 : Int32) (S : xSt) : Option (Int32) :=
  if tM.1 k0 = 12 then
  ((fX12_is a1 ((0 : Int32)) ((5 : Int32)) S).bind fun v1 =>
  if v1 = 0 then
  (some ((-1 : Int32)))
else
  ((xgF tM 12 53 k0 S).bind fun r2 =>
  (xal tM r2 a1 S).bind fun v3 =>
  some v3))
  else none
theorem kX12_status {z : Int32} {k0 : Nat} {a1 : Int32} {S : xSt} (h : fX12_status k0 a1 S = some z) : tM.1 k0 = 12 := by
  unfold fX12_status at h
  exact (xck h).1
set_option maxHeartbeats 4000000 in
theorem tX12_status (l : Launch) (M : xMg) (A : Nat → Prop) (k0 : Nat) (a1 : Int32) (S : xSt) (z : Int32) (h : fX12_status k0 a1 S = some z) : xMI l yX12_status cX12_status 2 (some .int) 2 tM M A [.ref (M.2.1 k0), .int a1] S z S := by
  refine x_metI (plainFor_of_name (by decide)) tM_ok (Nat.le_of_ble_eq_true rfl) (fun Γ hA hnL hl hr o => ?_)
  subst hA; subst hl
  have o : xOk Γ tM M 2 cX12_status RX12 := o
  unfold fX12_status at h
  obtain ⟨hk0, h⟩ := xck h
  refine x_to (l := [(0, .ref (M.2.1 k0)), (1, .int a1)]) ⟨rfl, rfl, trivial⟩ ?_
  refine x_iload_n (pc := 0) o dX12_status_0 rfl rfl ?_
  refine x_iconst (pc := 1) o dX12_status_1 ic_0 ?_
  refine x_iconst (pc := 2) o dX12_status_2 ic_5 ?_
  obtain ⟨v1, hv1, h⟩ := xbs h
  refine x_statI (pc := 3) (As := [.int a1, .int ((0 : Int32)), .int ((5 : Int32))]) (rest := []) o (tX12_is _ M _ a1 ((0 : Int32)) ((5 : Int32)) S v1 hv1) eX12_is mX12_379 (by decide) rfl rfl (Nat.le_of_ble_eq_true rfl) dX12_status_3 ?_
  refine x_if_eq (pc := 6) (tgt := 18) o dX12_status_6 (by decide) (fun c4 => ?_) (fun c4 => ?_)
  · have h := xit h c4
    refine x_iconst (pc := 18) o dX12_status_18 ic_m1 ?_
    exact x_ireturn (pc := 19) o hr dX12_status_19 (Option.some.inj h) rfl
  · have h := xif h c4
    refine x_aload_n (pc := 9) o dX12_status_9 rfl rfl ?_
    obtain ⟨r2, hr2, h⟩ := xbs h
    refine gX12_174 (pc := 10) o dX12_status_10 hr2 ?_
    refine x_iload_n (pc := 13) o dX12_status_13 rfl rfl ?_
    obtain ⟨v3, hv3, h⟩ := xbs h
    refine x_iaload (pc := 14) o dX12_status_14 hv3 ?_
    refine x_goto (pc := 15) (tgt := 19) o dX12_status_15 (by decide) ?_
    exact x_ireturn (pc := 19) o hr dX12_status_19 (Option.some.inj h) rfl
def fX12_copies_L50b (n : Nat) (k0 : Nat) (a1 : Int32) (a2 : Int32) (rec : Int32 → xSt → Option (xSt)) (a3 : Int32) (S : xSt) : Option (xSt) :=
  if ((8 : Int32)) ≤ a3 then
  (some S)
else
  ((xgF tM 12 56 k0 S).bind fun r17 =>
  (xgF tM 12 56 k0 S).bind fun r18 =>
  (xal tM r18 ((((8 : Int32)) * a2) + a3) S).bind fun v19 =>
  (xas tM r17 ((((8 : Int32)) * a1) + a3) v19 S).bind fun S20 =>
  (some (a3 + (1 : Int32))).bind fun v21 =>
  rec v21 S20)
def fX12_copies_L50 (n : Nat) (k0 : Nat) (a1 : Int32) (a2 : Int32) : Nat → Int32 → xSt → Option (xSt)
  | 0 => fun _ _ => none
  | q + 1 => fX12_copies_L50b n k0 a1 a2 (fX12_copies_L50 n k0 a1 a2 q)
set_option maxHeartbeats 4000000 in
theorem tX12_copies_L50b {Γ : xGm} {M : xMg} (o : xOk Γ tM M 1 cX12_copies RX12) (hnL : Γ.2.2.2 = 4) {rec : Int32 → xSt → Option (xSt)} (n : Nat) (k0 : Nat) (a1 : Int32) (a2 : Int32) (a3 : Int32) (S : xSt) (z : (xSt)) (hrec : ∀ (a3 : Int32) (S : xSt), rec a3 S = some z → xAt Γ tM M 50 (xlv [(0, .ref (M.2.1 k0)), (1, .int a1), (2, .int a2), (3, .int a3)]) [] S) (K : xAt Γ tM M 84 (xlv [(0, .ref (M.2.1 k0)), (1, .int a1), (2, .int a2)]) [] z) (h : fX12_copies_L50b n k0 a1 a2 rec a3 S = some z) : xAt Γ tM M 50 (xlv [(0, .ref (M.2.1 k0)), (1, .int a1), (2, .int a2), (3, .int a3)]) [] S := by
  have hn3 : 3 < Γ.2.2.2 := by omega
  unfold fX12_copies_L50b at h
  refine x_iload_n (pc := 50) o dX12_copies_50 rfl rfl ?_
  refine x_bipush (pc := 51) o dX12_copies_51 bp_8 ?_
  refine x_icmp_ge (pc := 53) (tgt := 84) o dX12_copies_53 (by decide) (fun c22 => ?_) (fun c22 => ?_)
  · have h := xit h c22
    refine x_to (l := [(0, .ref (M.2.1 k0)), (1, .int a1), (2, .int a2)]) ⟨rfl, rfl, rfl, trivial⟩ ?_
    cases Option.some.inj h
    exact K
  · have h := xif h c22
    refine x_aload_n (pc := 56) o dX12_copies_56 rfl rfl ?_
    obtain ⟨r17, hr17, h⟩ := xbs h
    refine gX12_183 (pc := 57) o dX12_copies_57 hr17 ?_
    refine x_bipush (pc := 60) o dX12_copies_60 bp_8 ?_
    refine x_iload_n (pc := 62) o dX12_copies_62 rfl rfl ?_
    refine x_imul (pc := 63) o dX12_copies_63 ?_
    refine x_iload_n (pc := 64) o dX12_copies_64 rfl rfl ?_
    refine x_iadd (pc := 65) o dX12_copies_65 ?_
    refine x_aload_n (pc := 66) o dX12_copies_66 rfl rfl ?_
    obtain ⟨r18, hr18, h⟩ := xbs h
    refine gX12_183 (pc := 67) o dX12_copies_67 hr18 ?_
    refine x_bipush (pc := 70) o dX12_copies_70 bp_8 ?_
    refine x_iload_n (pc := 72) o dX12_copies_72 rfl rfl ?_
    refine x_imul (pc := 73) o dX12_copies_73 ?_
    refine x_iload_n (pc := 74) o dX12_copies_74 rfl rfl ?_
    refine x_iadd (pc := 75) o dX12_copies_75 ?_
    obtain ⟨v19, hv19, h⟩ := xbs h
    refine x_iaload (pc := 76) o dX12_copies_76 hv19 ?_
    obtain ⟨S20, hS20, h⟩ := xbs h
    refine x_iastore (pc := 77) o dX12_copies_77 hS20 ?_
    obtain ⟨v21, hv21, h⟩ := xbs h
    refine x_iincE (pc := 78) o dX12_copies_78 rfl ic_1 hn3 hv21 ?_
    refine x_goto (pc := 81) (tgt := 50) o dX12_copies_81 (by decide) ?_
    refine x_to (l := [(0, .ref (M.2.1 k0)), (1, .int a1), (2, .int a2), (3, .int v21)]) ⟨rfl, rfl, rfl, rfl, trivial⟩ ?_
    exact hrec v21 S20 h
theorem tX12_copies_L50 {Γ : xGm} {M : xMg} (o : xOk Γ tM M 1 cX12_copies RX12) (hnL : Γ.2.2.2 = 4) (n : Nat) (k0 : Nat) (a1 : Int32) (a2 : Int32) (z : (xSt)) (K : xAt Γ tM M 84 (xlv [(0, .ref (M.2.1 k0)), (1, .int a1), (2, .int a2)]) [] z) : ∀ (q : Nat) (a3 : Int32) (S : xSt), fX12_copies_L50 n k0 a1 a2 q a3 S = some z → xAt Γ tM M 50 (xlv [(0, .ref (M.2.1 k0)), (1, .int a1), (2, .int a2), (3, .int a3)]) [] S := by
  intro q
  induction q with
  | zero => intro a3 S h; cases h
  | succ q ih => intro a3 S h; exact tX12_copies_L50b o hnL n k0 a1 a2 a3 S z ih K h
def fX12_copies_L86b (n : Nat) (k0 : Nat) (a1 : Int32) (a2 : Int32) (rec : Int32 → xSt → Option (xSt)) (a3 : Int32) (S : xSt) : Option (xSt) :=
  if ((48 : Int32)) ≤ a3 then
  (some S)
else
  ((xgF tM 12 59 k0 S).bind fun r24 =>
  (xgF tM 12 59 k0 S).bind fun r25 =>
  (xal tM r25 ((((48 : Int32)) * a2) + a3) S).bind fun v26 =>
  (xas tM r24 ((((48 : Int32)) * a1) + a3) v26 S).bind fun S27 =>
  (some (a3 + (1 : Int32))).bind fun v28 =>
  rec v28 S27)
def fX12_copies_L86 (n : Nat) (k0 : Nat) (a1 : Int32) (a2 : Int32) : Nat → Int32 → xSt → Option (xSt)
  | 0 => fun _ _ => none
  | q + 1 => fX12_copies_L86b n k0 a1 a2 (fX12_copies_L86 n k0 a1 a2 q)
set_option maxHeartbeats 4000000 in
theorem tX12_copies_L86b {Γ : xGm} {M : xMg} (o : xOk Γ tM M 1 cX12_copies RX12) (hnL : Γ.2.2.2 = 4) {rec : Int32 → xSt → Option (xSt)} (n : Nat) (k0 : Nat) (a1 : Int32) (a2 : Int32) (a3 : Int32) (S : xSt) (z : (xSt)) (hrec : ∀ (a3 : Int32) (S : xSt), rec a3 S = some z → xAt Γ tM M 86 (xlv [(0, .ref (M.2.1 k0)), (1, .int a1), (2, .int a2), (3, .int a3)]) [] S) (K : xAt Γ tM M 120 (xlv [(0, .ref (M.2.1 k0)), (1, .int a1), (2, .int a2)]) [] z) (h : fX12_copies_L86b n k0 a1 a2 rec a3 S = some z) : xAt Γ tM M 86 (xlv [(0, .ref (M.2.1 k0)), (1, .int a1), (2, .int a2), (3, .int a3)]) [] S := by
  have hn3 : 3 < Γ.2.2.2 := by omega
  unfold fX12_copies_L86b at h
  refine x_iload_n (pc := 86) o dX12_copies_86 rfl rfl ?_
  refine x_bipush (pc := 87) o dX12_copies_87 bp_48 ?_
  refine x_icmp_ge (pc := 89) (tgt := 120) o dX12_copies_89 (by decide) (fun c29 => ?_) (fun c29 => ?_)
  · have h := xit h c29
    refine x_to (l := [(0, .ref (M.2.1 k0)), (1, .int a1), (2, .int a2)]) ⟨rfl, rfl, rfl, trivial⟩ ?_
    cases Option.some.inj h
    exact K
  · have h := xif h c29
    refine x_aload_n (pc := 92) o dX12_copies_92 rfl rfl ?_
    obtain ⟨r24, hr24, h⟩ := xbs h
    refine gX12_192 (pc := 93) o dX12_copies_93 hr24 ?_
    refine x_bipush (pc := 96) o dX12_copies_96 bp_48 ?_
    refine x_iload_n (pc := 98) o dX12_copies_98 rfl rfl ?_
    refine x_imul (pc := 99) o dX12_copies_99 ?_
    refine x_iload_n (pc := 100) o dX12_copies_100 rfl rfl ?_
    refine x_iadd (pc := 101) o dX12_copies_101 ?_
    refine x_aload_n (pc := 102) o dX12_copies_102 rfl rfl ?_
    obtain ⟨r25, hr25, h⟩ := xbs h
    refine gX12_192 (pc := 103) o dX12_copies_103 hr25 ?_
    refine x_bipush (pc := 106) o dX12_copies_106 bp_48 ?_
    refine x_iload_n (pc := 108) o dX12_copies_108 rfl rfl ?_
    refine x_imul (pc := 109) o dX12_copies_109 ?_
    refine x_iload_n (pc := 110) o dX12_copies_110 rfl rfl ?_
    refine x_iadd (pc := 111) o dX12_copies_111 ?_
    obtain ⟨v26, hv26, h⟩ := xbs h
    refine x_iaload (pc := 112) o dX12_copies_112 hv26 ?_
    obtain ⟨S27, hS27, h⟩ := xbs h
    refine x_iastore (pc := 113) o dX12_copies_113 hS27 ?_
    obtain ⟨v28, hv28, h⟩ := xbs h
    refine x_iincE (pc := 114) o dX12_copies_114 rfl ic_1 hn3 hv28 ?_
    refine x_goto (pc := 117) (tgt := 86) o dX12_copies_117 (by decide) ?_
    refine x_to (l := [(0, .ref (M.2.1 k0)), (1, .int a1), (2, .int a2), (3, .int v28)]) ⟨rfl, rfl, rfl, rfl, trivial⟩ ?_
    exact hrec v28 S27 h
theorem tX12_copies_L86 {Γ : xGm} {M : xMg} (o : xOk Γ tM M 1 cX12_copies RX12) (hnL : Γ.2.2.2 = 4) (n : Nat) (k0 : Nat) (a1 : Int32) (a2 : Int32) (z : (xSt)) (K : xAt Γ tM M 120 (xlv [(0, .ref (M.2.1 k0)), (1, .int a1), (2, .int a2)]) [] z) : ∀ (q : Nat) (a3 : Int32) (S : xSt), fX12_copies_L86 n k0 a1 a2 q a3 S = some z → xAt Γ tM M 86 (xlv [(0, .ref (M.2.1 k0)), (1, .int a1), (2, .int a2), (3, .int a3)]) [] S := by
  intro q
  induction q with
  | zero => intro a3 S h; cases h
  | succ q ih => intro a3 S h; exact tX12_copies_L86b o hnL n k0 a1 a2 a3 S z ih K h
def fX12_copies_L122b (n : Nat) (k0 : Nat) (a1 : Int32) (a2 : Int32) (rec : Int32 → xSt → Option (xSt)) (a3 : Int32) (S : xSt) : Option (xSt) :=
  if ((6 : Int32)) ≤ a3 then
  (some S)
else
  ((xgF tM 12 60 k0 S).bind fun r31 =>
  (xgF tM 12 60 k0 S).bind fun r32 =>
  (xal tM r32 ((((6 : Int32)) * a2) + a3) S).bind fun v33 =>
  (xas tM r31 ((((6 : Int32)) * a1) + a3) v33 S).bind fun S34 =>
  (xgF tM 12 61 k0 S34).bind fun r35 =>
  (xgF tM 12 61 k0 S34).bind fun r36 =>
  (xal tM r36 ((((6 : Int32)) * a2) + a3) S34).bind fun v37 =>
  (xas tM r35 ((((6 : Int32)) * a1) + a3) v37 S34).bind fun S38 =>
  (some (a3 + (1 : Int32))).bind fun v39 =>
  rec v39 S38)
def fX12_copies_L122 (n : Nat) (k0 : Nat) (a1 : Int32) (a2 : Int32) : Nat → Int32 → xSt → Option (xSt)
  | 0 => fun _ _ => none
  | q + 1 => fX12_copies_L122b n k0 a1 a2 (fX12_copies_L122 n k0 a1 a2 q)
set_option maxHeartbeats 4000000 in
theorem tX12_copies_L122b {Γ : xGm} {M : xMg} (o : xOk Γ tM M 1 cX12_copies RX12) (hnL : Γ.2.2.2 = 4) {rec : Int32 → xSt → Option (xSt)} (n : Nat) (k0 : Nat) (a1 : Int32) (a2 : Int32) (a3 : Int32) (S : xSt) (z : (xSt)) (hrec : ∀ (a3 : Int32) (S : xSt), rec a3 S = some z → xAt Γ tM M 122 (xlv [(0, .ref (M.2.1 k0)), (1, .int a1), (2, .int a2), (3, .int a3)]) [] S) (K : xAt Γ tM M 178 (xlv [(0, .ref (M.2.1 k0)), (1, .int a1), (2, .int a2)]) [] z) (h : fX12_copies_L122b n k0 a1 a2 rec a3 S = some z) : xAt Γ tM M 122 (xlv [(0, .ref (M.2.1 k0)), (1, .int a1), (2, .int a2), (3, .int a3)]) [] S := by
  have hn3 : 3 < Γ.2.2.2 := by omega
  unfold fX12_copies_L122b at h
  refine x_iload_n (pc := 122) o dX12_copies_122 rfl rfl ?_
  refine x_bipush (pc := 123) o dX12_copies_123 bp_6 ?_
  refine x_icmp_ge (pc := 125) (tgt := 178) o dX12_copies_125 (by decide) (fun c40 => ?_) (fun c40 => ?_)
  · have h := xit h c40
    refine x_to (l := [(0, .ref (M.2.1 k0)), (1, .int a1), (2, .int a2)]) ⟨rfl, rfl, rfl, trivial⟩ ?_
    cases Option.some.inj h
    exact K
  · have h := xif h c40
    refine x_aload_n (pc := 128) o dX12_copies_128 rfl rfl ?_
    obtain ⟨r31, hr31, h⟩ := xbs h
    refine gX12_195 (pc := 129) o dX12_copies_129 hr31 ?_
    refine x_bipush (pc := 132) o dX12_copies_132 bp_6 ?_
    refine x_iload_n (pc := 134) o dX12_copies_134 rfl rfl ?_
    refine x_imul (pc := 135) o dX12_copies_135 ?_
    refine x_iload_n (pc := 136) o dX12_copies_136 rfl rfl ?_
    refine x_iadd (pc := 137) o dX12_copies_137 ?_
    refine x_aload_n (pc := 138) o dX12_copies_138 rfl rfl ?_
    obtain ⟨r32, hr32, h⟩ := xbs h
    refine gX12_195 (pc := 139) o dX12_copies_139 hr32 ?_
    refine x_bipush (pc := 142) o dX12_copies_142 bp_6 ?_
    refine x_iload_n (pc := 144) o dX12_copies_144 rfl rfl ?_
    refine x_imul (pc := 145) o dX12_copies_145 ?_
    refine x_iload_n (pc := 146) o dX12_copies_146 rfl rfl ?_
    refine x_iadd (pc := 147) o dX12_copies_147 ?_
    obtain ⟨v33, hv33, h⟩ := xbs h
    refine x_iaload (pc := 148) o dX12_copies_148 hv33 ?_
    obtain ⟨S34, hS34, h⟩ := xbs h
    refine x_iastore (pc := 149) o dX12_copies_149 hS34 ?_
    refine x_aload_n (pc := 150) o dX12_copies_150 rfl rfl ?_
    obtain ⟨r35, hr35, h⟩ := xbs h
    refine gX12_198 (pc := 151) o dX12_copies_151 hr35 ?_
    refine x_bipush (pc := 154) o dX12_copies_154 bp_6 ?_
    refine x_iload_n (pc := 156) o dX12_copies_156 rfl rfl ?_
    refine x_imul (pc := 157) o dX12_copies_157 ?_
    refine x_iload_n (pc := 158) o dX12_copies_158 rfl rfl ?_
    refine x_iadd (pc := 159) o dX12_copies_159 ?_
    refine x_aload_n (pc := 160) o dX12_copies_160 rfl rfl ?_
    obtain ⟨r36, hr36, h⟩ := xbs h
    refine gX12_198 (pc := 161) o dX12_copies_161 hr36 ?_
    refine x_bipush (pc := 164) o dX12_copies_164 bp_6 ?_
    refine x_iload_n (pc := 166) o dX12_copies_166 rfl rfl ?_
    refine x_imul (pc := 167) o dX12_copies_167 ?_
    refine x_iload_n (pc := 168) o dX12_copies_168 rfl rfl ?_
    refine x_iadd (pc := 169) o dX12_copies_169 ?_
    obtain ⟨v37, hv37, h⟩ := xbs h
    refine x_iaload (pc := 170) o dX12_copies_170 hv37 ?_
    obtain ⟨S38, hS38, h⟩ := xbs h
    refine x_iastore (pc := 171) o dX12_copies_171 hS38 ?_
    obtain ⟨v39, hv39, h⟩ := xbs h
    refine x_iincE (pc := 172) o dX12_copies_172 rfl ic_1 hn3 hv39 ?_
    refine x_goto (pc := 175) (tgt := 122) o dX12_copies_175 (by decide) ?_
    refine x_to (l := [(0, .ref (M.2.1 k0)), (1, .int a1), (2, .int a2), (3, .int v39)]) ⟨rfl, rfl, rfl, rfl, trivial⟩ ?_
    exact hrec v39 S38 h
theorem tX12_copies_L122 {Γ : xGm} {M : xMg} (o : xOk Γ tM M 1 cX12_copies RX12) (hnL : Γ.2.2.2 = 4) (n : Nat) (k0 : Nat) (a1 : Int32) (a2 : Int32) (z : (xSt)) (K : xAt Γ tM M 178 (xlv [(0, .ref (M.2.1 k0)), (1, .int a1), (2, .int a2)]) [] z) : ∀ (q : Nat) (a3 : Int32) (S : xSt), fX12_copies_L122 n k0 a1 a2 q a3 S = some z → xAt Γ tM M 122 (xlv [(0, .ref (M.2.1 k0)), (1, .int a1), (2, .int a2), (3, .int a3)]) [] S := by
  intro q
  induction q with
  | zero => intro a3 S h; cases h
  | succ q ih => intro a3 S h; exact tX12_copies_L122b o hnL n k0 a1 a2 a3 S z ih K h
def fX12_copies_L192b (n : Nat) (k0 : Nat) (a1 : Int32) (a2 : Int32) (rec : Int32 → xSt → Option (xSt)) (a3 : Int32) (S : xSt) : Option (xSt) :=
  (xgF tM 12 62 k0 S).bind fun r46 =>
  (xal tM r46 a2 S).bind fun v47 =>
  if (((4 : Int32)) * v47) ≤ a3 then
  (some S)
else
  ((xgF tM 12 63 k0 S).bind fun r48 =>
  (xgF tM 12 63 k0 S).bind fun r49 =>
  (xal tM r49 ((((240 : Int32)) * a2) + a3) S).bind fun v50 =>
  (xas tM r48 ((((240 : Int32)) * a1) + a3) v50 S).bind fun S51 =>
  (some (a3 + (1 : Int32))).bind fun v52 =>
  rec v52 S51)
def fX12_copies_L192 (n : Nat) (k0 : Nat) (a1 : Int32) (a2 : Int32) : Nat → Int32 → xSt → Option (xSt)
  | 0 => fun _ _ => none
  | q + 1 => fX12_copies_L192b n k0 a1 a2 (fX12_copies_L192 n k0 a1 a2 q)
set_option maxHeartbeats 4000000 in
theorem tX12_copies_L192b {Γ : xGm} {M : xMg} (o : xOk Γ tM M 1 cX12_copies RX12) (hnL : Γ.2.2.2 = 4) {rec : Int32 → xSt → Option (xSt)} (n : Nat) (k0 : Nat) (a1 : Int32) (a2 : Int32) (a3 : Int32) (S : xSt) (z : (xSt)) (hrec : ∀ (a3 : Int32) (S : xSt), rec a3 S = some z → xAt Γ tM M 192 (xlv [(0, .ref (M.2.1 k0)), (1, .int a1), (2, .int a2), (3, .int a3)]) [] S) (K : xAt Γ tM M 234 (xlv []) [] z) (h : fX12_copies_L192b n k0 a1 a2 rec a3 S = some z) : xAt Γ tM M 192 (xlv [(0, .ref (M.2.1 k0)), (1, .int a1), (2, .int a2), (3, .int a3)]) [] S := by
  have hn3 : 3 < Γ.2.2.2 := by omega
  unfold fX12_copies_L192b at h
  refine x_iload_n (pc := 192) o dX12_copies_192 rfl rfl ?_
  refine x_iconst (pc := 193) o dX12_copies_193 ic_4 ?_
  refine x_aload_n (pc := 194) o dX12_copies_194 rfl rfl ?_
  obtain ⟨r46, hr46, h⟩ := xbs h
  refine gX12_201 (pc := 195) o dX12_copies_195 hr46 ?_
  refine x_iload_n (pc := 198) o dX12_copies_198 rfl rfl ?_
  obtain ⟨v47, hv47, h⟩ := xbs h
  refine x_iaload (pc := 199) o dX12_copies_199 hv47 ?_
  refine x_imul (pc := 200) o dX12_copies_200 ?_
  refine x_icmp_ge (pc := 201) (tgt := 234) o dX12_copies_201 (by decide) (fun c53 => ?_) (fun c53 => ?_)
  · have h := xit h c53
    refine x_to (l := []) trivial ?_
    cases Option.some.inj h
    exact K
  · have h := xif h c53
    refine x_aload_n (pc := 204) o dX12_copies_204 rfl rfl ?_
    obtain ⟨r48, hr48, h⟩ := xbs h
    refine gX12_204 (pc := 205) o dX12_copies_205 hr48 ?_
    refine x_sipush (pc := 208) o dX12_copies_208 sp_240 ?_
    refine x_iload_n (pc := 211) o dX12_copies_211 rfl rfl ?_
    refine x_imul (pc := 212) o dX12_copies_212 ?_
    refine x_iload_n (pc := 213) o dX12_copies_213 rfl rfl ?_
    refine x_iadd (pc := 214) o dX12_copies_214 ?_
    refine x_aload_n (pc := 215) o dX12_copies_215 rfl rfl ?_
    obtain ⟨r49, hr49, h⟩ := xbs h
    refine gX12_204 (pc := 216) o dX12_copies_216 hr49 ?_
    refine x_sipush (pc := 219) o dX12_copies_219 sp_240 ?_
    refine x_iload_n (pc := 222) o dX12_copies_222 rfl rfl ?_
    refine x_imul (pc := 223) o dX12_copies_223 ?_
    refine x_iload_n (pc := 224) o dX12_copies_224 rfl rfl ?_
    refine x_iadd (pc := 225) o dX12_copies_225 ?_
    obtain ⟨v50, hv50, h⟩ := xbs h
    refine x_iaload (pc := 226) o dX12_copies_226 hv50 ?_
    obtain ⟨S51, hS51, h⟩ := xbs h
    refine x_iastore (pc := 227) o dX12_copies_227 hS51 ?_
    obtain ⟨v52, hv52, h⟩ := xbs h
    refine x_iincE (pc := 228) o dX12_copies_228 rfl ic_1 hn3 hv52 ?_
    refine x_goto (pc := 231) (tgt := 192) o dX12_copies_231 (by decide) ?_
    refine x_to (l := [(0, .ref (M.2.1 k0)), (1, .int a1), (2, .int a2), (3, .int v52)]) ⟨rfl, rfl, rfl, rfl, trivial⟩ ?_
    exact hrec v52 S51 h
theorem tX12_copies_L192 {Γ : xGm} {M : xMg} (o : xOk Γ tM M 1 cX12_copies RX12) (hnL : Γ.2.2.2 = 4) (n : Nat) (k0 : Nat) (a1 : Int32) (a2 : Int32) (z : (xSt)) (K : xAt Γ tM M 234 (xlv []) [] z) : ∀ (q : Nat) (a3 : Int32) (S : xSt), fX12_copies_L192 n k0 a1 a2 q a3 S = some z → xAt Γ tM M 192 (xlv [(0, .ref (M.2.1 k0)), (1, .int a1), (2, .int a2), (3, .int a3)]) [] S := by
  intro q
  induction q with
  | zero => intro a3 S h; cases h
  | succ q ih => intro a3 S h; exact tX12_copies_L192b o hnL n k0 a1 a2 a3 S z ih K h
def fX12_copies (n : Nat) (k0 : Nat) (a1 : Int32) (a2 : Int32) (S : xSt) : Option (xSt) :=
  if tM.1 k0 = 12 then
  ((xgF tM 12 54 k0 S).bind fun r1 =>
  (xgF tM 12 54 k0 S).bind fun r2 =>
  (xal tM r2 a2 S).bind fun v3 =>
  (xas tM r1 a1 v3 S).bind fun S4 =>
  (xgF tM 12 55 k0 S4).bind fun r5 =>
  (xgF tM 12 55 k0 S4).bind fun r6 =>
  (xal tM r6 a2 S4).bind fun v7 =>
  (xas tM r5 a1 v7 S4).bind fun S8 =>
  (xgF tM 12 57 k0 S8).bind fun r9 =>
  (xgF tM 12 57 k0 S8).bind fun r10 =>
  (xal tM r10 a2 S8).bind fun v11 =>
  (xas tM r9 a1 v11 S8).bind fun S12 =>
  (xgF tM 12 58 k0 S12).bind fun r13 =>
  (xgF tM 12 58 k0 S12).bind fun r14 =>
  (xal tM r14 a2 S12).bind fun v15 =>
  (xas tM r13 a1 v15 S12).bind fun S16 =>
  (fX12_copies_L50 n k0 a1 a2 n ((0 : Int32)) S16).bind fun z23 => (fX12_copies_L86 n k0 a1 a2 n ((0 : Int32)) z23).bind fun z30 => (fX12_copies_L122 n k0 a1 a2 n ((0 : Int32)) z30).bind fun z41 => (xgF tM 12 62 k0 z41).bind fun r42 =>
  (xgF tM 12 62 k0 z41).bind fun r43 =>
  (xal tM r43 a2 z41).bind fun v44 =>
  (xas tM r42 a1 v44 z41).bind fun S45 =>
  (fX12_copies_L192 n k0 a1 a2 n ((0 : Int32)) S45).bind fun z54 => some z54)
  else none
theorem kX12_copies {z : xSt} {n : Nat} {k0 : Nat} {a1 : Int32} {a2 : Int32} {S : xSt} (h : fX12_copies n k0 a1 a2 S = some z) : tM.1 k0 = 12 := by
  unfold fX12_copies at h
  exact (xck h).1
set_option maxHeartbeats 4000000 in
theorem tX12_copies (l : Launch) (M : xMg) (A : Nat → Prop) (n : Nat) (k0 : Nat) (a1 : Int32) (a2 : Int32) (S : xSt) (z : xSt) (h : fX12_copies n k0 a1 a2 S = some z) : xMV l yX12_copies cX12_copies 4 none 1 tM M A [.ref (M.2.1 k0), .int a1, .int a2] S z := by
  refine x_metV (plainFor_of_name (by decide)) tM_ok (Nat.le_of_ble_eq_true rfl) (fun Γ hA hnL hl hr o => ?_)
  subst hA; subst hl
  have o : xOk Γ tM M 1 cX12_copies RX12 := o
  unfold fX12_copies at h
  obtain ⟨hk0, h⟩ := xck h
  refine x_to (l := [(0, .ref (M.2.1 k0)), (1, .int a1), (2, .int a2)]) ⟨rfl, rfl, rfl, trivial⟩ ?_
  have hn3 : 3 < Γ.2.2.2 := by omega
  refine x_aload_n (pc := 0) o dX12_copies_0 rfl rfl ?_
  obtain ⟨r1, hr1, h⟩ := xbs h
  refine gX12_177 (pc := 1) o dX12_copies_1 hr1 ?_
  refine x_iload_n (pc := 4) o dX12_copies_4 rfl rfl ?_
  refine x_aload_n (pc := 5) o dX12_copies_5 rfl rfl ?_
  obtain ⟨r2, hr2, h⟩ := xbs h
  refine gX12_177 (pc := 6) o dX12_copies_6 hr2 ?_
  refine x_iload_n (pc := 9) o dX12_copies_9 rfl rfl ?_
  obtain ⟨v3, hv3, h⟩ := xbs h
  refine x_iaload (pc := 10) o dX12_copies_10 hv3 ?_
  obtain ⟨S4, hS4, h⟩ := xbs h
  refine x_iastore (pc := 11) o dX12_copies_11 hS4 ?_
  refine x_aload_n (pc := 12) o dX12_copies_12 rfl rfl ?_
  obtain ⟨r5, hr5, h⟩ := xbs h
  refine gX12_180 (pc := 13) o dX12_copies_13 hr5 ?_
  refine x_iload_n (pc := 16) o dX12_copies_16 rfl rfl ?_
  refine x_aload_n (pc := 17) o dX12_copies_17 rfl rfl ?_
  obtain ⟨r6, hr6, h⟩ := xbs h
  refine gX12_180 (pc := 18) o dX12_copies_18 hr6 ?_
  refine x_iload_n (pc := 21) o dX12_copies_21 rfl rfl ?_
  obtain ⟨v7, hv7, h⟩ := xbs h
  refine x_iaload (pc := 22) o dX12_copies_22 hv7 ?_
  obtain ⟨S8, hS8, h⟩ := xbs h
  refine x_iastore (pc := 23) o dX12_copies_23 hS8 ?_
  refine x_aload_n (pc := 24) o dX12_copies_24 rfl rfl ?_
  obtain ⟨r9, hr9, h⟩ := xbs h
  refine gX12_186 (pc := 25) o dX12_copies_25 hr9 ?_
  refine x_iload_n (pc := 28) o dX12_copies_28 rfl rfl ?_
  refine x_aload_n (pc := 29) o dX12_copies_29 rfl rfl ?_
  obtain ⟨r10, hr10, h⟩ := xbs h
  refine gX12_186 (pc := 30) o dX12_copies_30 hr10 ?_
  refine x_iload_n (pc := 33) o dX12_copies_33 rfl rfl ?_
  obtain ⟨v11, hv11, h⟩ := xbs h
  refine x_iaload (pc := 34) o dX12_copies_34 hv11 ?_
  obtain ⟨S12, hS12, h⟩ := xbs h
  refine x_iastore (pc := 35) o dX12_copies_35 hS12 ?_
  refine x_aload_n (pc := 36) o dX12_copies_36 rfl rfl ?_
  obtain ⟨r13, hr13, h⟩ := xbs h
  refine gX12_189 (pc := 37) o dX12_copies_37 hr13 ?_
  refine x_iload_n (pc := 40) o dX12_copies_40 rfl rfl ?_
  refine x_aload_n (pc := 41) o dX12_copies_41 rfl rfl ?_
  obtain ⟨r14, hr14, h⟩ := xbs h
  refine gX12_189 (pc := 42) o dX12_copies_42 hr14 ?_
  refine x_iload_n (pc := 45) o dX12_copies_45 rfl rfl ?_
  obtain ⟨v15, hv15, h⟩ := xbs h
  refine x_iaload (pc := 46) o dX12_copies_46 hv15 ?_
  obtain ⟨S16, hS16, h⟩ := xbs h
  refine x_iastore (pc := 47) o dX12_copies_47 hS16 ?_
  refine x_iconst (pc := 48) o dX12_copies_48 ic_0 ?_
  refine x_istore_n (pc := 49) o dX12_copies_49 rfl hn3 ?_
  obtain ⟨z23, hz23, h⟩ := xbs h
  refine x_to (l := [(0, .ref (M.2.1 k0)), (1, .int a1), (2, .int a2), (3, .int ((0 : Int32)))]) ⟨rfl, rfl, rfl, rfl, trivial⟩ ?_
  refine tX12_copies_L50 o hnL n k0 a1 a2 z23 ?_ n ((0 : Int32)) S16 hz23
  refine x_iconst (pc := 84) o dX12_copies_84 ic_0 ?_
  refine x_istore_n (pc := 85) o dX12_copies_85 rfl hn3 ?_
  obtain ⟨z30, hz30, h⟩ := xbs h
  refine x_to (l := [(0, .ref (M.2.1 k0)), (1, .int a1), (2, .int a2), (3, .int ((0 : Int32)))]) ⟨rfl, rfl, rfl, rfl, trivial⟩ ?_
  refine tX12_copies_L86 o hnL n k0 a1 a2 z30 ?_ n ((0 : Int32)) z23 hz30
  refine x_iconst (pc := 120) o dX12_copies_120 ic_0 ?_
  refine x_istore_n (pc := 121) o dX12_copies_121 rfl hn3 ?_
  obtain ⟨z41, hz41, h⟩ := xbs h
  refine x_to (l := [(0, .ref (M.2.1 k0)), (1, .int a1), (2, .int a2), (3, .int ((0 : Int32)))]) ⟨rfl, rfl, rfl, rfl, trivial⟩ ?_
  refine tX12_copies_L122 o hnL n k0 a1 a2 z41 ?_ n ((0 : Int32)) z30 hz41
  refine x_aload_n (pc := 178) o dX12_copies_178 rfl rfl ?_
  obtain ⟨r42, hr42, h⟩ := xbs h
  refine gX12_201 (pc := 179) o dX12_copies_179 hr42 ?_
  refine x_iload_n (pc := 182) o dX12_copies_182 rfl rfl ?_
  refine x_aload_n (pc := 183) o dX12_copies_183 rfl rfl ?_
  obtain ⟨r43, hr43, h⟩ := xbs h
  refine gX12_201 (pc := 184) o dX12_copies_184 hr43 ?_
  refine x_iload_n (pc := 187) o dX12_copies_187 rfl rfl ?_
  obtain ⟨v44, hv44, h⟩ := xbs h
  refine x_iaload (pc := 188) o dX12_copies_188 hv44 ?_
  obtain ⟨S45, hS45, h⟩ := xbs h
  refine x_iastore (pc := 189) o dX12_copies_189 hS45 ?_
  refine x_iconst (pc := 190) o dX12_copies_190 ic_0 ?_
  refine x_istore_n (pc := 191) o dX12_copies_191 rfl hn3 ?_
  obtain ⟨z54, hz54, h⟩ := xbs h
  refine x_to (l := [(0, .ref (M.2.1 k0)), (1, .int a1), (2, .int a2), (3, .int ((0 : Int32)))]) ⟨rfl, rfl, rfl, rfl, trivial⟩ ?_
  refine tX12_copies_L192 o hnL n k0 a1 a2 z54 ?_ n ((0 : Int32)) S45 hz54
  exact x_vreturn (pc := 234) o hr dX12_copies_234 (Option.some.inj h)
def fX12_slot (k0 : Nat) (a1 : Int32) (S : xSt) : Option (Int32) :=
  if tM.1 k0 = 12 then
  ((xgI tM 12 64 k0 S).bind fun v1 =>
  if ((20 : Int32)) = 0 then none else
  some (((2 : Int32)) + ((v1 + a1) - (v1 + a1) / ((20 : Int32)) * ((20 : Int32)))))
  else none
theorem kX12_slot {z : Int32} {k0 : Nat} {a1 : Int32} {S : xSt} (h : fX12_slot k0 a1 S = some z) : tM.1 k0 = 12 := by
  unfold fX12_slot at h
  exact (xck h).1
set_option maxHeartbeats 4000000 in
theorem tX12_slot (l : Launch) (M : xMg) (A : Nat → Prop) (k0 : Nat) (a1 : Int32) (S : xSt) (z : Int32) (h : fX12_slot k0 a1 S = some z) : xMI l yX12_slot cX12_slot 2 (some .int) 1 tM M A [.ref (M.2.1 k0), .int a1] S z S := by
  refine x_metI (plainFor_of_name (by decide)) tM_ok (Nat.le_of_ble_eq_true rfl) (fun Γ hA hnL hl hr o => ?_)
  subst hA; subst hl
  have o : xOk Γ tM M 1 cX12_slot RX12 := o
  unfold fX12_slot at h
  obtain ⟨hk0, h⟩ := xck h
  refine x_to (l := [(0, .ref (M.2.1 k0)), (1, .int a1)]) ⟨rfl, rfl, trivial⟩ ?_
  refine x_iconst (pc := 0) o dX12_slot_0 ic_2 ?_
  refine x_aload_n (pc := 1) o dX12_slot_1 rfl rfl ?_
  obtain ⟨v1, hv1, h⟩ := xbs h
  refine gX12_207 (pc := 2) o dX12_slot_2 hv1 ?_
  refine x_iload_n (pc := 5) o dX12_slot_5 rfl rfl ?_
  refine x_iadd (pc := 6) o dX12_slot_6 ?_
  refine x_bipush (pc := 7) o dX12_slot_7 bp_20 ?_
  obtain ⟨hq, h⟩ := xcn h
  refine x_irem (pc := 9) o dX12_slot_9 hq ?_
  refine x_iadd (pc := 10) o dX12_slot_10 ?_
  exact x_ireturn (pc := 11) o hr dX12_slot_11 (Option.some.inj h) rfl
def fX12_keeps_B32 (n : Nat) (k0 : Nat) (S : xSt) : Option (xSt) :=
  (xgI tM 12 65 k0 S).bind fun v2 =>
  (fX12_slot k0 v2 S).bind fun v3 =>
  (fX12_copies n k0 v3 ((0 : Int32)) S).bind fun S4 =>
  (xgI tM 12 65 k0 S4).bind fun v5 =>
  (xpI tM 12 65 k0 (v5 + ((1 : Int32))) S4).bind fun S6 =>
  some S6
set_option maxHeartbeats 4000000 in
theorem tX12_keeps_B32 {Γ : xGm} {M : xMg} (o : xOk Γ tM M 2 cX12_keeps RX12) (hnL : Γ.2.2.2 = 1) (n : Nat) (k0 : Nat) (S : xSt) (z : (xSt)) (hr : xRV Γ tM M none z) (h : fX12_keeps_B32 n k0 S = some z) : xAt Γ tM M 32 (xlv [(0, .ref (M.2.1 k0))]) [] S := by
  unfold fX12_keeps_B32 at h
  refine x_aload_n (pc := 32) o dX12_keeps_32 rfl rfl ?_
  refine x_aload_n (pc := 33) o dX12_keeps_33 rfl rfl ?_
  refine x_aload_n (pc := 34) o dX12_keeps_34 rfl rfl ?_
  obtain ⟨v2, hv2, h⟩ := xbs h
  refine gX12_210 (pc := 35) o dX12_keeps_35 hv2 ?_
  obtain ⟨v3, hv3, h⟩ := xbs h
  refine x_callI (pc := 38) (As := [.int v2]) (b := k0) (rest := [.ref (M.2.1 k0)]) o (tX12_slot _ M _ k0 v2 S v3 hv3) eX12_slot mX12_490 clX12 (kX12_slot hv3) (by decide) rfl rfl (Nat.le_of_ble_eq_true rfl) dX12_keeps_38 ?_
  refine x_iconst (pc := 41) o dX12_keeps_41 ic_0 ?_
  obtain ⟨S4, hS4, h⟩ := xbs h
  refine x_callV (pc := 42) (As := [.int v3, .int ((0 : Int32))]) (b := k0) (rest := []) o (tX12_copies _ M _ n k0 v3 ((0 : Int32)) S S4 hS4) eX12_copies mX12_493 clX12 (kX12_copies hS4) (by decide) rfl rfl (Nat.le_of_ble_eq_true rfl) dX12_keeps_42 ?_
  refine x_aload_n (pc := 45) o dX12_keeps_45 rfl rfl ?_
  refine x_dup (pc := 46) o dX12_keeps_46 rfl ?_
  obtain ⟨v5, hv5, h⟩ := xbs h
  refine gX12_210 (pc := 47) o dX12_keeps_47 hv5 ?_
  refine x_iconst (pc := 50) o dX12_keeps_50 ic_1 ?_
  refine x_iadd (pc := 51) o dX12_keeps_51 ?_
  obtain ⟨S6, hS6, h⟩ := xbs h
  refine pX12_210 (pc := 52) o dX12_keeps_52 hS6 ?_
  exact x_vreturn (pc := 55) o hr dX12_keeps_55 (Option.some.inj h)
def fX12_keeps (n : Nat) (k0 : Nat) (S : xSt) : Option (xSt) :=
  if tM.1 k0 = 12 then
  ((xgI tM 12 65 k0 S).bind fun v1 =>
  if v1 = ((20 : Int32)) then
  ((xgI tM 12 64 k0 S).bind fun v7 =>
  if ((20 : Int32)) = 0 then none else
  (xpI tM 12 64 k0 ((v7 + ((1 : Int32))) - (v7 + ((1 : Int32))) / ((20 : Int32)) * ((20 : Int32))) S).bind fun S8 =>
  (xgI tM 12 65 k0 S8).bind fun v9 =>
  (xpI tM 12 65 k0 (v9 - ((1 : Int32))) S8).bind fun S10 =>
  fX12_keeps_B32 n k0 S10)
else
  (fX12_keeps_B32 n k0 S))
  else none
theorem kX12_keeps {z : xSt} {n : Nat} {k0 : Nat} {S : xSt} (h : fX12_keeps n k0 S = some z) : tM.1 k0 = 12 := by
  unfold fX12_keeps at h
  exact (xck h).1
set_option maxHeartbeats 4000000 in
theorem tX12_keeps (l : Launch) (M : xMg) (A : Nat → Prop) (n : Nat) (k0 : Nat) (S : xSt) (z : xSt) (h : fX12_keeps n k0 S = some z) : xMV l yX12_keeps cX12_keeps 1 none 2 tM M A [.ref (M.2.1 k0)] S z := by
  refine x_metV (plainFor_of_name (by decide)) tM_ok (Nat.le_of_ble_eq_true rfl) (fun Γ hA hnL hl hr o => ?_)
  subst hA; subst hl
  have o : xOk Γ tM M 2 cX12_keeps RX12 := o
  unfold fX12_keeps at h
  obtain ⟨hk0, h⟩ := xck h
  refine x_to (l := [(0, .ref (M.2.1 k0))]) ⟨rfl, trivial⟩ ?_
  refine x_aload_n (pc := 0) o dX12_keeps_0 rfl rfl ?_
  obtain ⟨v1, hv1, h⟩ := xbs h
  refine gX12_210 (pc := 1) o dX12_keeps_1 hv1 ?_
  refine x_bipush (pc := 4) o dX12_keeps_4 bp_20 ?_
  refine x_icmp_ne (pc := 6) (tgt := 32) o dX12_keeps_6 (by decide) (fun c11 => ?_) (fun c11 => ?_)
  · have h := xif h c11
    refine x_to (l := [(0, .ref (M.2.1 k0))]) ⟨rfl, trivial⟩ ?_
    exact tX12_keeps_B32 o hnL n k0 S z hr h
  · have h := xit h c11
    refine x_aload_n (pc := 9) o dX12_keeps_9 rfl rfl ?_
    refine x_aload_n (pc := 10) o dX12_keeps_10 rfl rfl ?_
    obtain ⟨v7, hv7, h⟩ := xbs h
    refine gX12_207 (pc := 11) o dX12_keeps_11 hv7 ?_
    refine x_iconst (pc := 14) o dX12_keeps_14 ic_1 ?_
    refine x_iadd (pc := 15) o dX12_keeps_15 ?_
    refine x_bipush (pc := 16) o dX12_keeps_16 bp_20 ?_
    obtain ⟨hq, h⟩ := xcn h
    refine x_irem (pc := 18) o dX12_keeps_18 hq ?_
    obtain ⟨S8, hS8, h⟩ := xbs h
    refine pX12_207 (pc := 19) o dX12_keeps_19 hS8 ?_
    refine x_aload_n (pc := 22) o dX12_keeps_22 rfl rfl ?_
    refine x_dup (pc := 23) o dX12_keeps_23 rfl ?_
    obtain ⟨v9, hv9, h⟩ := xbs h
    refine gX12_210 (pc := 24) o dX12_keeps_24 hv9 ?_
    refine x_iconst (pc := 27) o dX12_keeps_27 ic_1 ?_
    refine x_isub (pc := 28) o dX12_keeps_28 ?_
    obtain ⟨S10, hS10, h⟩ := xbs h
    refine pX12_210 (pc := 29) o dX12_keeps_29 hS10 ?_
    refine x_to (l := [(0, .ref (M.2.1 k0))]) ⟨rfl, trivial⟩ ?_
    exact tX12_keeps_B32 o hnL n k0 S10 z hr h
def fX12_undo (n : Nat) (k0 : Nat) (S : xSt) : Option (Int32 × xSt) :=
  if tM.1 k0 = 12 then
  ((xgI tM 12 65 k0 S).bind fun v1 =>
  if v1 = 0 then
  ((fX12_refuses k0 ((4 : Int32)) S).bind fun q7 =>
  if q7.1 < 0 then
  (some ((0 : Int32), q7.2))
else
  (some ((1 : Int32), q7.2)))
else
  ((xgI tM 12 65 k0 S).bind fun v2 =>
  (xpI tM 12 65 k0 (v2 - ((1 : Int32))) S).bind fun S3 =>
  (xgI tM 12 65 k0 S3).bind fun v4 =>
  (fX12_slot k0 v4 S3).bind fun v5 =>
  (fX12_copies n k0 ((0 : Int32)) v5 S3).bind fun S6 =>
  some ((1 : Int32), S6)))
  else none
theorem kX12_undo {z : Int32 × xSt} {n : Nat} {k0 : Nat} {S : xSt} (h : fX12_undo n k0 S = some z) : tM.1 k0 = 12 := by
  unfold fX12_undo at h
  exact (xck h).1
set_option maxHeartbeats 4000000 in
theorem tX12_undo (l : Launch) (M : xMg) (A : Nat → Prop) (n : Nat) (k0 : Nat) (S : xSt) (z : Int32 × xSt) (h : fX12_undo n k0 S = some z) : xMI l yX12_undo cX12_undo 1 (some .boolean) 2 tM M A [.ref (M.2.1 k0)] S z.1 z.2 := by
  refine x_metI (plainFor_of_name (by decide)) tM_ok (Nat.le_of_ble_eq_true rfl) (fun Γ hA hnL hl hr o => ?_)
  subst hA; subst hl
  have o : xOk Γ tM M 2 cX12_undo RX12 := o
  unfold fX12_undo at h
  obtain ⟨hk0, h⟩ := xck h
  refine x_to (l := [(0, .ref (M.2.1 k0))]) ⟨rfl, trivial⟩ ?_
  refine x_aload_n (pc := 0) o dX12_undo_0 rfl rfl ?_
  obtain ⟨v1, hv1, h⟩ := xbs h
  refine gX12_210 (pc := 1) o dX12_undo_1 hv1 ?_
  refine x_if_ne (pc := 4) (tgt := 21) o dX12_undo_4 (by decide) (fun c9 => ?_) (fun c9 => ?_)
  · have h := xif h c9
    refine x_aload_n (pc := 21) o dX12_undo_21 rfl rfl ?_
    refine x_dup (pc := 22) o dX12_undo_22 rfl ?_
    obtain ⟨v2, hv2, h⟩ := xbs h
    refine gX12_210 (pc := 23) o dX12_undo_23 hv2 ?_
    refine x_iconst (pc := 26) o dX12_undo_26 ic_1 ?_
    refine x_isub (pc := 27) o dX12_undo_27 ?_
    obtain ⟨S3, hS3, h⟩ := xbs h
    refine pX12_210 (pc := 28) o dX12_undo_28 hS3 ?_
    refine x_aload_n (pc := 31) o dX12_undo_31 rfl rfl ?_
    refine x_iconst (pc := 32) o dX12_undo_32 ic_0 ?_
    refine x_aload_n (pc := 33) o dX12_undo_33 rfl rfl ?_
    refine x_aload_n (pc := 34) o dX12_undo_34 rfl rfl ?_
    obtain ⟨v4, hv4, h⟩ := xbs h
    refine gX12_210 (pc := 35) o dX12_undo_35 hv4 ?_
    obtain ⟨v5, hv5, h⟩ := xbs h
    refine x_callI (pc := 38) (As := [.int v4]) (b := k0) (rest := [.int ((0 : Int32)), .ref (M.2.1 k0)]) o (tX12_slot _ M _ k0 v4 S3 v5 hv5) eX12_slot mX12_490 clX12 (kX12_slot hv5) (by decide) rfl rfl (Nat.le_of_ble_eq_true rfl) dX12_undo_38 ?_
    obtain ⟨S6, hS6, h⟩ := xbs h
    refine x_callV (pc := 41) (As := [.int ((0 : Int32)), .int v5]) (b := k0) (rest := []) o (tX12_copies _ M _ n k0 ((0 : Int32)) v5 S3 S6 hS6) eX12_copies mX12_493 clX12 (kX12_copies hS6) (by decide) rfl rfl (Nat.le_of_ble_eq_true rfl) dX12_undo_41 ?_
    refine x_iconst (pc := 44) o dX12_undo_44 ic_1 ?_
    exact x_zreturn (pc := 45) o hr dX12_undo_45 (by decide) (xr1 h) (xr2 h)
  · have h := xit h c9
    refine x_aload_n (pc := 7) o dX12_undo_7 rfl rfl ?_
    refine x_iconst (pc := 8) o dX12_undo_8 ic_4 ?_
    obtain ⟨q7, hq7, h⟩ := xbs h
    refine x_callI (pc := 9) (As := [.int ((4 : Int32))]) (b := k0) (rest := []) o (tX12_refuses _ M _ k0 ((4 : Int32)) S q7 hq7) eX12_refuses mX12_280 clX12 (kX12_refuses hq7) (by decide) rfl rfl (Nat.le_of_ble_eq_true rfl) dX12_undo_9 ?_
    refine x_if_lt (pc := 12) (tgt := 19) o dX12_undo_12 (by decide) (fun c8 => ?_) (fun c8 => ?_)
    · have h := xit h c8
      refine x_iconst (pc := 19) o dX12_undo_19 ic_0 ?_
      exact x_zreturn (pc := 20) o hr dX12_undo_20 (by decide) (xr1 h) (xr2 h)
    · have h := xif h c8
      refine x_iconst (pc := 15) o dX12_undo_15 ic_1 ?_
      refine x_goto (pc := 16) (tgt := 20) o dX12_undo_16 (by decide) ?_
      exact x_zreturn (pc := 20) o hr dX12_undo_20 (by decide) (xr1 h) (xr2 h)
def fX12_held (b0 : Int64) (S : xSt) : Option (Int64) :=
  if (lg_cmp b0 ((1000000 : Int64))) ≤ 0 then
  (if 0 ≤ (lg_cmp b0 ((-1000000 : Int64))) then
  (some b0)
else
  (some ((-1000000 : Int64))))
else
  (some ((1000000 : Int64)))
set_option maxHeartbeats 4000000 in
theorem tX12_held (l : Launch) (M : xMg) (A : Nat → Prop) (b0 : Int64) (S : xSt) (z : Int64) (h : fX12_held b0 S = some z) : xML l yX12_held cX12_held 2 (some .long) 1 tM M A [.long b0] S z S := by
  refine x_metL (plainFor_of_name (by decide)) tM_ok (Nat.le_of_ble_eq_true rfl) (fun Γ hA hnL hl hr o => ?_)
  subst hA; subst hl
  have o : xOk Γ tM M 1 cX12_held RX12 := o
  unfold fX12_held at h
  refine x_to (l := [(0, .long b0)]) ⟨rfl, trivial⟩ ?_
  refine x_lload_n (pc := 0) o dX12_held_0 rfl rfl ?_
  refine x_ldc2 (pc := 1) o kcX12_496 dX12_held_1 ?_
  refine x_lcmp (pc := 4) o dX12_held_4 ?_
  refine x_if_le (pc := 5) (tgt := 14) o dX12_held_5 (by decide) (fun c2 => ?_) (fun c2 => ?_)
  · have h := xit h c2
    refine x_lload_n (pc := 14) o dX12_held_14 rfl rfl ?_
    refine x_ldc2 (pc := 15) o kcX12_498 dX12_held_15 ?_
    refine x_lcmp (pc := 18) o dX12_held_18 ?_
    refine x_if_ge (pc := 19) (tgt := 28) o dX12_held_19 (by decide) (fun c1 => ?_) (fun c1 => ?_)
    · have h := xit h c1
      refine x_lload_n (pc := 28) o dX12_held_28 rfl rfl ?_
      exact x_lreturn (pc := 29) o hr dX12_held_29 (Option.some.inj h) rfl
    · have h := xif h c1
      refine x_ldc2 (pc := 22) o kcX12_498 dX12_held_22 ?_
      refine x_goto (pc := 25) (tgt := 29) o dX12_held_25 (by decide) ?_
      exact x_lreturn (pc := 29) o hr dX12_held_29 (Option.some.inj h) rfl
  · have h := xif h c2
    refine x_ldc2 (pc := 8) o kcX12_496 dX12_held_8 ?_
    refine x_goto (pc := 11) (tgt := 29) o dX12_held_11 (by decide) ?_
    exact x_lreturn (pc := 29) o hr dX12_held_29 (Option.some.inj h) rfl
def fX12_floor_B32 (b2 : Int64) (b4 : Int64) (s0 : Int32) (S : xSt) : Option (Int64) :=
  if 0 ≤ (lg_cmp b2 ((0 : Int64))) then
  (if s0 = ((0 : Int32)) then
  (some b4)
else
  (some (b4 - ((1 : Int64)))))
else
  (if s0 = ((1 : Int32)) then
  (some b4)
else
  (some (b4 - ((1 : Int64)))))
set_option maxHeartbeats 4000000 in
theorem tX12_floor_B32 {Γ : xGm} {M : xMg} (o : xOk Γ tM M 1 cX12_floor RX12) (hnL : Γ.2.2.2 = 6) (b2 : Int64) (b4 : Int64) (s0 : Int32) (S : xSt) (z : (Int64)) (hr : xRL Γ tM M (some .long) z S) (h : fX12_floor_B32 b2 b4 s0 S = some z) : xAt Γ tM M 32 (xlv [(2, .long b2), (4, .long b4)]) [.int s0] S := by
  unfold fX12_floor_B32 at h
  refine x_lload_n (pc := 32) o dX12_floor_32 rfl rfl ?_
  refine x_lconst (pc := 33) (v := 0) o dX12_floor_33 rfl ?_
  refine x_lcmp (pc := 34) o dX12_floor_34 ?_
  refine x_if_ge (pc := 35) (tgt := 42) o dX12_floor_35 (by decide) (fun c4 => ?_) (fun c4 => ?_)
  · have h := xit h c4
    refine x_iconst (pc := 42) o dX12_floor_42 ic_0 ?_
    refine x_icmp_eq (pc := 43) (tgt := 53) o dX12_floor_43 (by decide) (fun c2 => ?_) (fun c2 => ?_)
    · have h := xit h c2
      refine x_lload (pc := 53) o dX12_floor_53 rfl ?_
      exact x_lreturn (pc := 55) o hr dX12_floor_55 (Option.some.inj h) rfl
    · have h := xif h c2
      refine x_lload (pc := 46) o dX12_floor_46 rfl ?_
      refine x_lconst (pc := 48) (v := 1) o dX12_floor_48 rfl ?_
      refine x_lsub (pc := 49) o dX12_floor_49 ?_
      refine x_goto (pc := 50) (tgt := 55) o dX12_floor_50 (by decide) ?_
      exact x_lreturn (pc := 55) o hr dX12_floor_55 (Option.some.inj h) rfl
  · have h := xif h c4
    refine x_iconst (pc := 38) o dX12_floor_38 ic_1 ?_
    refine x_goto (pc := 39) (tgt := 43) o dX12_floor_39 (by decide) ?_
    refine x_icmp_eq (pc := 43) (tgt := 53) o dX12_floor_43 (by decide) (fun c3 => ?_) (fun c3 => ?_)
    · have h := xit h c3
      refine x_lload (pc := 53) o dX12_floor_53 rfl ?_
      exact x_lreturn (pc := 55) o hr dX12_floor_55 (Option.some.inj h) rfl
    · have h := xif h c3
      refine x_lload (pc := 46) o dX12_floor_46 rfl ?_
      refine x_lconst (pc := 48) (v := 1) o dX12_floor_48 rfl ?_
      refine x_lsub (pc := 49) o dX12_floor_49 ?_
      refine x_goto (pc := 50) (tgt := 55) o dX12_floor_50 (by decide) ?_
      exact x_lreturn (pc := 55) o hr dX12_floor_55 (Option.some.inj h) rfl
def fX12_floor (b0 : Int64) (b2 : Int64) (S : xSt) : Option (Int64) :=
  if (lg_cmp b2 ((0 : Int64))) = 0 then
  (some ((0 : Int64)))
else
  (if b2 = 0 then none else
  (some (b0 / b2)).bind fun v1 =>
  if b2 = 0 then none else
  if (lg_cmp (b0 - b0 / b2 * b2) ((0 : Int64))) = 0 then
  (some v1)
else
  (if 0 ≤ (lg_cmp b0 ((0 : Int64))) then
  (fX12_floor_B32 b2 v1 ((0 : Int32)) S)
else
  (fX12_floor_B32 b2 v1 ((1 : Int32)) S)))
set_option maxHeartbeats 4000000 in
theorem tX12_floor (l : Launch) (M : xMg) (A : Nat → Prop) (b0 : Int64) (b2 : Int64) (S : xSt) (z : Int64) (h : fX12_floor b0 b2 S = some z) : xML l yX12_floor cX12_floor 6 (some .long) 1 tM M A [.long b0, .long b2] S z S := by
  refine x_metL (plainFor_of_name (by decide)) tM_ok (Nat.le_of_ble_eq_true rfl) (fun Γ hA hnL hl hr o => ?_)
  subst hA; subst hl
  have o : xOk Γ tM M 1 cX12_floor RX12 := o
  unfold fX12_floor at h
  refine x_to (l := [(0, .long b0), (2, .long b2)]) ⟨rfl, rfl, trivial⟩ ?_
  have hn5 : 5 < Γ.2.2.2 := by omega
  refine x_lload_n (pc := 0) o dX12_floor_0 rfl rfl ?_
  refine x_lconst (pc := 1) (v := 0) o dX12_floor_1 rfl ?_
  refine x_lcmp (pc := 2) o dX12_floor_2 ?_
  refine x_if_ne (pc := 3) (tgt := 8) o dX12_floor_3 (by decide) (fun c7 => ?_) (fun c7 => ?_)
  · have h := xif h c7
    refine x_lload_n (pc := 8) o dX12_floor_8 rfl rfl ?_
    refine x_lload_n (pc := 9) o dX12_floor_9 rfl rfl ?_
    obtain ⟨hq, h⟩ := xcn h
    refine x_ldiv (pc := 10) o dX12_floor_10 hq ?_
    obtain ⟨v1, hv1, h⟩ := xbs h
    refine x_lstoreE (pc := 11) o dX12_floor_11 hn5 hv1 ?_
    refine x_lload_n (pc := 13) o dX12_floor_13 rfl rfl ?_
    refine x_lload_n (pc := 14) o dX12_floor_14 rfl rfl ?_
    obtain ⟨hq, h⟩ := xcn h
    refine x_lrem (pc := 15) o dX12_floor_15 hq ?_
    refine x_lconst (pc := 16) (v := 0) o dX12_floor_16 rfl ?_
    refine x_lcmp (pc := 17) o dX12_floor_17 ?_
    refine x_if_eq (pc := 18) (tgt := 53) o dX12_floor_18 (by decide) (fun c6 => ?_) (fun c6 => ?_)
    · have h := xit h c6
      refine x_lload (pc := 53) o dX12_floor_53 rfl ?_
      exact x_lreturn (pc := 55) o hr dX12_floor_55 (Option.some.inj h) rfl
    · have h := xif h c6
      refine x_lload_n (pc := 21) o dX12_floor_21 rfl rfl ?_
      refine x_lconst (pc := 22) (v := 0) o dX12_floor_22 rfl ?_
      refine x_lcmp (pc := 23) o dX12_floor_23 ?_
      refine x_if_ge (pc := 24) (tgt := 31) o dX12_floor_24 (by decide) (fun c5 => ?_) (fun c5 => ?_)
      · have h := xit h c5
        refine x_iconst (pc := 31) o dX12_floor_31 ic_0 ?_
        refine x_to (l := [(2, .long b2), (4, .long v1)]) ⟨rfl, rfl, trivial⟩ ?_
        exact tX12_floor_B32 o hnL b2 v1 ((0 : Int32)) S z hr h
      · have h := xif h c5
        refine x_iconst (pc := 27) o dX12_floor_27 ic_1 ?_
        refine x_goto (pc := 28) (tgt := 32) o dX12_floor_28 (by decide) ?_
        refine x_to (l := [(2, .long b2), (4, .long v1)]) ⟨rfl, rfl, trivial⟩ ?_
        exact tX12_floor_B32 o hnL b2 v1 ((1 : Int32)) S z hr h
  · have h := xit h c7
    refine x_lconst (pc := 6) (v := 0) o dX12_floor_6 rfl ?_
    exact x_lreturn (pc := 7) o hr dX12_floor_7 (Option.some.inj h) rfl
def fX12_two (a0 : Int32) (b1 : Int64) (b3 : Int64) (S : xSt) : Option (Int64) :=
  if a0 = (31 : Int32) then
  ((fX12_held (b1 + b3) S).bind fun v1 =>
  some v1)
else if a0 = (32 : Int32) then
  ((fX12_held (b1 - b3) S).bind fun v3 =>
  some v3)
else if a0 = (33 : Int32) then
  ((fX12_held (b1 * b3) S).bind fun v5 =>
  some v5)
else if a0 = (34 : Int32) then
  ((fX12_floor b1 b3 S).bind fun v7 =>
  (fX12_held v7 S).bind fun v8 =>
  some v8)
else if a0 = (35 : Int32) then
  (if (lg_cmp b3 ((0 : Int64))) = 0 then
  (some ((0 : Int64)))
else
  ((fX12_floor b1 b3 S).bind fun v10 =>
  (fX12_held (b1 - (b3 * v10)) S).bind fun v11 =>
  some v11))
else if a0 = (36 : Int32) then
  (if 0 ≤ (lg_cmp b1 b3) then
  (some b3)
else
  (some b1))
else if a0 = (37 : Int32) then
  (if (lg_cmp b1 b3) ≤ 0 then
  (some b3)
else
  (some b1))
else if a0 = (38 : Int32) then
  (if 0 ≤ (lg_cmp b1 b3) then
  (some ((0 : Int64)))
else
  (some ((1 : Int64))))
else if a0 = (39 : Int32) then
  (if (lg_cmp b1 b3) ≤ 0 then
  (some ((0 : Int64)))
else
  (some ((1 : Int64))))
else if a0 = (40 : Int32) then
  (if (lg_cmp b1 b3) = 0 then
  (some ((1 : Int64)))
else
  (some ((0 : Int64))))
else if a0 = (41 : Int32) then
  (some (b1 &&& b3))
else 
  (some (b1 ||| b3))
set_option maxHeartbeats 4000000 in
theorem tX12_two (l : Launch) (M : xMg) (A : Nat → Prop) (a0 : Int32) (b1 : Int64) (b3 : Int64) (S : xSt) (z : Int64) (h : fX12_two a0 b1 b3 S = some z) : xML l yX12_two cX12_two 5 (some .long) 2 tM M A [.int a0, .long b1, .long b3] S z S := by
  refine x_metL (plainFor_of_name (by decide)) tM_ok (Nat.le_of_ble_eq_true rfl) (fun Γ hA hnL hl hr o => ?_)
  subst hA; subst hl
  have o : xOk Γ tM M 2 cX12_two RX12 := o
  unfold fX12_two at h
  refine x_to (l := [(0, .int a0), (1, .long b1), (3, .long b3)]) ⟨rfl, rfl, rfl, trivial⟩ ?_
  refine x_iload_n (pc := 0) o dX12_two_0 rfl rfl ?_
  by_cases c2 : a0 = (31 : Int32)
  · have h := xit h c2
    refine x_tableIn (pc := 1) (tgt := 60) o dX12_two_1 (by rw [c2]; decide) (by rw [c2]; decide) (by rw [c2]; rfl) (by decide) ?_
    refine x_lload_n (pc := 60) o dX12_two_60 rfl rfl ?_
    refine x_lload_n (pc := 61) o dX12_two_61 rfl rfl ?_
    refine x_ladd (pc := 62) o dX12_two_62 ?_
    obtain ⟨v1, hv1, h⟩ := xbs h
    refine x_statL (pc := 63) (As := [.long (b1 + b3)]) (rest := []) o (tX12_held _ M _ (b1 + b3) S v1 hv1) eX12_held mX12_500 (by decide) rfl rfl (Nat.le_of_ble_eq_true rfl) dX12_two_63 ?_
    exact x_lreturn (pc := 66) o hr dX12_two_66 (Option.some.inj h) rfl
  have h := xif h c2
  by_cases c4 : a0 = (32 : Int32)
  · have h := xit h c4
    refine x_tableIn (pc := 1) (tgt := 67) o dX12_two_1 (by rw [c4]; decide) (by rw [c4]; decide) (by rw [c4]; rfl) (by decide) ?_
    refine x_lload_n (pc := 67) o dX12_two_67 rfl rfl ?_
    refine x_lload_n (pc := 68) o dX12_two_68 rfl rfl ?_
    refine x_lsub (pc := 69) o dX12_two_69 ?_
    obtain ⟨v3, hv3, h⟩ := xbs h
    refine x_statL (pc := 70) (As := [.long (b1 - b3)]) (rest := []) o (tX12_held _ M _ (b1 - b3) S v3 hv3) eX12_held mX12_500 (by decide) rfl rfl (Nat.le_of_ble_eq_true rfl) dX12_two_70 ?_
    exact x_lreturn (pc := 73) o hr dX12_two_73 (Option.some.inj h) rfl
  have h := xif h c4
  by_cases c6 : a0 = (33 : Int32)
  · have h := xit h c6
    refine x_tableIn (pc := 1) (tgt := 74) o dX12_two_1 (by rw [c6]; decide) (by rw [c6]; decide) (by rw [c6]; rfl) (by decide) ?_
    refine x_lload_n (pc := 74) o dX12_two_74 rfl rfl ?_
    refine x_lload_n (pc := 75) o dX12_two_75 rfl rfl ?_
    refine x_lmul (pc := 76) o dX12_two_76 ?_
    obtain ⟨v5, hv5, h⟩ := xbs h
    refine x_statL (pc := 77) (As := [.long (b1 * b3)]) (rest := []) o (tX12_held _ M _ (b1 * b3) S v5 hv5) eX12_held mX12_500 (by decide) rfl rfl (Nat.le_of_ble_eq_true rfl) dX12_two_77 ?_
    exact x_lreturn (pc := 80) o hr dX12_two_80 (Option.some.inj h) rfl
  have h := xif h c6
  by_cases c9 : a0 = (34 : Int32)
  · have h := xit h c9
    refine x_tableIn (pc := 1) (tgt := 81) o dX12_two_1 (by rw [c9]; decide) (by rw [c9]; decide) (by rw [c9]; rfl) (by decide) ?_
    refine x_lload_n (pc := 81) o dX12_two_81 rfl rfl ?_
    refine x_lload_n (pc := 82) o dX12_two_82 rfl rfl ?_
    obtain ⟨v7, hv7, h⟩ := xbs h
    refine x_statL (pc := 83) (As := [.long b1, .long b3]) (rest := []) o (tX12_floor _ M _ b1 b3 S v7 hv7) eX12_floor mX12_504 (by decide) rfl rfl (Nat.le_of_ble_eq_true rfl) dX12_two_83 ?_
    obtain ⟨v8, hv8, h⟩ := xbs h
    refine x_statL (pc := 86) (As := [.long v7]) (rest := []) o (tX12_held _ M _ v7 S v8 hv8) eX12_held mX12_500 (by decide) rfl rfl (Nat.le_of_ble_eq_true rfl) dX12_two_86 ?_
    exact x_lreturn (pc := 89) o hr dX12_two_89 (Option.some.inj h) rfl
  have h := xif h c9
  by_cases c13 : a0 = (35 : Int32)
  · have h := xit h c13
    refine x_tableIn (pc := 1) (tgt := 90) o dX12_two_1 (by rw [c13]; decide) (by rw [c13]; decide) (by rw [c13]; rfl) (by decide) ?_
    refine x_lload_n (pc := 90) o dX12_two_90 rfl rfl ?_
    refine x_lconst (pc := 91) (v := 0) o dX12_two_91 rfl ?_
    refine x_lcmp (pc := 92) o dX12_two_92 ?_
    refine x_if_ne (pc := 93) (tgt := 100) o dX12_two_93 (by decide) (fun c12 => ?_) (fun c12 => ?_)
    · have h := xif h c12
      refine x_lload_n (pc := 100) o dX12_two_100 rfl rfl ?_
      refine x_lload_n (pc := 101) o dX12_two_101 rfl rfl ?_
      refine x_lload_n (pc := 102) o dX12_two_102 rfl rfl ?_
      refine x_lload_n (pc := 103) o dX12_two_103 rfl rfl ?_
      obtain ⟨v10, hv10, h⟩ := xbs h
      refine x_statL (pc := 104) (As := [.long b1, .long b3]) (rest := [.long b3, .long b1]) o (tX12_floor _ M _ b1 b3 S v10 hv10) eX12_floor mX12_504 (by decide) rfl rfl (Nat.le_of_ble_eq_true rfl) dX12_two_104 ?_
      refine x_lmul (pc := 107) o dX12_two_107 ?_
      refine x_lsub (pc := 108) o dX12_two_108 ?_
      obtain ⟨v11, hv11, h⟩ := xbs h
      refine x_statL (pc := 109) (As := [.long (b1 - (b3 * v10))]) (rest := []) o (tX12_held _ M _ (b1 - (b3 * v10)) S v11 hv11) eX12_held mX12_500 (by decide) rfl rfl (Nat.le_of_ble_eq_true rfl) dX12_two_109 ?_
      exact x_lreturn (pc := 112) o hr dX12_two_112 (Option.some.inj h) rfl
    · have h := xit h c12
      refine x_lconst (pc := 96) (v := 0) o dX12_two_96 rfl ?_
      refine x_goto (pc := 97) (tgt := 112) o dX12_two_97 (by decide) ?_
      exact x_lreturn (pc := 112) o hr dX12_two_112 (Option.some.inj h) rfl
  have h := xif h c13
  by_cases c15 : a0 = (36 : Int32)
  · have h := xit h c15
    refine x_tableIn (pc := 1) (tgt := 113) o dX12_two_1 (by rw [c15]; decide) (by rw [c15]; decide) (by rw [c15]; rfl) (by decide) ?_
    refine x_lload_n (pc := 113) o dX12_two_113 rfl rfl ?_
    refine x_lload_n (pc := 114) o dX12_two_114 rfl rfl ?_
    refine x_lcmp (pc := 115) o dX12_two_115 ?_
    refine x_if_ge (pc := 116) (tgt := 123) o dX12_two_116 (by decide) (fun c14 => ?_) (fun c14 => ?_)
    · have h := xit h c14
      refine x_lload_n (pc := 123) o dX12_two_123 rfl rfl ?_
      exact x_lreturn (pc := 124) o hr dX12_two_124 (Option.some.inj h) rfl
    · have h := xif h c14
      refine x_lload_n (pc := 119) o dX12_two_119 rfl rfl ?_
      refine x_goto (pc := 120) (tgt := 124) o dX12_two_120 (by decide) ?_
      exact x_lreturn (pc := 124) o hr dX12_two_124 (Option.some.inj h) rfl
  have h := xif h c15
  by_cases c17 : a0 = (37 : Int32)
  · have h := xit h c17
    refine x_tableIn (pc := 1) (tgt := 125) o dX12_two_1 (by rw [c17]; decide) (by rw [c17]; decide) (by rw [c17]; rfl) (by decide) ?_
    refine x_lload_n (pc := 125) o dX12_two_125 rfl rfl ?_
    refine x_lload_n (pc := 126) o dX12_two_126 rfl rfl ?_
    refine x_lcmp (pc := 127) o dX12_two_127 ?_
    refine x_if_le (pc := 128) (tgt := 135) o dX12_two_128 (by decide) (fun c16 => ?_) (fun c16 => ?_)
    · have h := xit h c16
      refine x_lload_n (pc := 135) o dX12_two_135 rfl rfl ?_
      exact x_lreturn (pc := 136) o hr dX12_two_136 (Option.some.inj h) rfl
    · have h := xif h c16
      refine x_lload_n (pc := 131) o dX12_two_131 rfl rfl ?_
      refine x_goto (pc := 132) (tgt := 136) o dX12_two_132 (by decide) ?_
      exact x_lreturn (pc := 136) o hr dX12_two_136 (Option.some.inj h) rfl
  have h := xif h c17
  by_cases c19 : a0 = (38 : Int32)
  · have h := xit h c19
    refine x_tableIn (pc := 1) (tgt := 137) o dX12_two_1 (by rw [c19]; decide) (by rw [c19]; decide) (by rw [c19]; rfl) (by decide) ?_
    refine x_lload_n (pc := 137) o dX12_two_137 rfl rfl ?_
    refine x_lload_n (pc := 138) o dX12_two_138 rfl rfl ?_
    refine x_lcmp (pc := 139) o dX12_two_139 ?_
    refine x_if_ge (pc := 140) (tgt := 147) o dX12_two_140 (by decide) (fun c18 => ?_) (fun c18 => ?_)
    · have h := xit h c18
      refine x_lconst (pc := 147) (v := 0) o dX12_two_147 rfl ?_
      exact x_lreturn (pc := 148) o hr dX12_two_148 (Option.some.inj h) rfl
    · have h := xif h c18
      refine x_lconst (pc := 143) (v := 1) o dX12_two_143 rfl ?_
      refine x_goto (pc := 144) (tgt := 148) o dX12_two_144 (by decide) ?_
      exact x_lreturn (pc := 148) o hr dX12_two_148 (Option.some.inj h) rfl
  have h := xif h c19
  by_cases c21 : a0 = (39 : Int32)
  · have h := xit h c21
    refine x_tableIn (pc := 1) (tgt := 149) o dX12_two_1 (by rw [c21]; decide) (by rw [c21]; decide) (by rw [c21]; rfl) (by decide) ?_
    refine x_lload_n (pc := 149) o dX12_two_149 rfl rfl ?_
    refine x_lload_n (pc := 150) o dX12_two_150 rfl rfl ?_
    refine x_lcmp (pc := 151) o dX12_two_151 ?_
    refine x_if_le (pc := 152) (tgt := 159) o dX12_two_152 (by decide) (fun c20 => ?_) (fun c20 => ?_)
    · have h := xit h c20
      refine x_lconst (pc := 159) (v := 0) o dX12_two_159 rfl ?_
      exact x_lreturn (pc := 160) o hr dX12_two_160 (Option.some.inj h) rfl
    · have h := xif h c20
      refine x_lconst (pc := 155) (v := 1) o dX12_two_155 rfl ?_
      refine x_goto (pc := 156) (tgt := 160) o dX12_two_156 (by decide) ?_
      exact x_lreturn (pc := 160) o hr dX12_two_160 (Option.some.inj h) rfl
  have h := xif h c21
  by_cases c23 : a0 = (40 : Int32)
  · have h := xit h c23
    refine x_tableIn (pc := 1) (tgt := 161) o dX12_two_1 (by rw [c23]; decide) (by rw [c23]; decide) (by rw [c23]; rfl) (by decide) ?_
    refine x_lload_n (pc := 161) o dX12_two_161 rfl rfl ?_
    refine x_lload_n (pc := 162) o dX12_two_162 rfl rfl ?_
    refine x_lcmp (pc := 163) o dX12_two_163 ?_
    refine x_if_ne (pc := 164) (tgt := 171) o dX12_two_164 (by decide) (fun c22 => ?_) (fun c22 => ?_)
    · have h := xif h c22
      refine x_lconst (pc := 171) (v := 0) o dX12_two_171 rfl ?_
      exact x_lreturn (pc := 172) o hr dX12_two_172 (Option.some.inj h) rfl
    · have h := xit h c22
      refine x_lconst (pc := 167) (v := 1) o dX12_two_167 rfl ?_
      refine x_goto (pc := 168) (tgt := 172) o dX12_two_168 (by decide) ?_
      exact x_lreturn (pc := 172) o hr dX12_two_172 (Option.some.inj h) rfl
  have h := xif h c23
  by_cases c24 : a0 = (41 : Int32)
  · have h := xit h c24
    refine x_tableIn (pc := 1) (tgt := 173) o dX12_two_1 (by rw [c24]; decide) (by rw [c24]; decide) (by rw [c24]; rfl) (by decide) ?_
    refine x_lload_n (pc := 173) o dX12_two_173 rfl rfl ?_
    refine x_lload_n (pc := 174) o dX12_two_174 rfl rfl ?_
    refine x_land (pc := 175) o dX12_two_175 ?_
    exact x_lreturn (pc := 176) o hr dX12_two_176 (Option.some.inj h) rfl
  have h := xif h c24
  refine x_tableOut (pc := 1) (tgt := 177) o dX12_two_1 (by have := lv_neT c2 (a := 31) (by decide); have := lv_neT c4 (a := 32) (by decide); have := lv_neT c6 (a := 33) (by decide); have := lv_neT c9 (a := 34) (by decide); have := lv_neT c13 (a := 35) (by decide); have := lv_neT c15 (a := 36) (by decide); have := lv_neT c17 (a := 37) (by decide); have := lv_neT c19 (a := 38) (by decide); have := lv_neT c21 (a := 39) (by decide); have := lv_neT c23 (a := 40) (by decide); have := lv_neT c24 (a := 41) (by decide); omega) (by decide) ?_
  refine x_lload_n (pc := 177) o dX12_two_177 rfl rfl ?_
  refine x_lload_n (pc := 178) o dX12_two_178 rfl rfl ?_
  refine x_lor (pc := 179) o dX12_two_179 ?_
  exact x_lreturn (pc := 180) o hr dX12_two_180 (Option.some.inj h) rfl
def fX12_reckons_L25b (n : Nat) (k0 : Nat) (a1 : Int32) (rec : Int32 → Int32 → xSt → Option (xSt)) (a2 : Int32) (a3 : Int32) (S : xSt) : Option (xSt) :=
  (xgI tM 12 13 k0 S).bind fun v6 =>
  (xgF tM 12 32 k0 S).bind fun r7 =>
  (xgI tM 12 13 k0 S).bind fun v8 =>
  (xal tM r7 ((((2 : Int32)) * v8) + a1) S).bind fun v9 =>
  if ((((1600 : Int32)) * v6) + v9) ≤ a3 then
  (some S)
else
  ((xgF tM 12 33 k0 S).bind fun r10 =>
  (xal tM r10 a3 S).bind fun v11 =>
  if ((30 : Int32)) < v11 then
  (if v11 = ((43 : Int32)) then
  ((xgF tM 12 67 k0 S).bind fun r35 =>
  (xgF tM 12 67 k0 S).bind fun r36 =>
  (xll tM r36 (a2 - ((1 : Int32))) S).bind fun v37 =>
  (xls tM r35 (a2 - ((1 : Int32))) (((1 : Int64)) - v37) S).bind fun S38 =>
  (some (a3 + (1 : Int32))).bind fun v39 =>
  rec a2 v39 S38)
else
  (if v11 = ((44 : Int32)) then
  ((some (a2 + (-2 : Int32))).bind fun v21 =>
  (xgF tM 12 67 k0 S).bind fun r22 =>
  (xgF tM 12 67 k0 S).bind fun r23 =>
  (xll tM r23 (v21 - ((1 : Int32))) S).bind fun v24 =>
  if (lg_cmp v24 ((1 : Int64))) = 0 then
  ((xgF tM 12 67 k0 S).bind fun r29 =>
  (xll tM r29 v21 S).bind fun v30 =>
  (xls tM r22 (v21 - ((1 : Int32))) v30 S).bind fun S31 =>
  (some (a3 + (1 : Int32))).bind fun v32 =>
  rec v21 v32 S31)
else
  ((xgF tM 12 67 k0 S).bind fun r25 =>
  (xll tM r25 (v21 + ((1 : Int32))) S).bind fun v26 =>
  (xls tM r22 (v21 - ((1 : Int32))) v26 S).bind fun S27 =>
  (some (a3 + (1 : Int32))).bind fun v28 =>
  rec v21 v28 S27))
else
  ((some (a2 + (-1 : Int32))).bind fun v12 =>
  (xgF tM 12 67 k0 S).bind fun r13 =>
  (xgF tM 12 67 k0 S).bind fun r14 =>
  (xll tM r14 (v12 - ((1 : Int32))) S).bind fun v15 =>
  (xgF tM 12 67 k0 S).bind fun r16 =>
  (xll tM r16 v12 S).bind fun v17 =>
  (fX12_two v11 v15 v17 S).bind fun v18 =>
  (xls tM r13 (v12 - ((1 : Int32))) v18 S).bind fun S19 =>
  (some (a3 + (1 : Int32))).bind fun v20 =>
  rec v12 v20 S19)))
else
  ((xgF tM 12 67 k0 S).bind fun r41 =>
  if v11 = 0 then
  ((xgF tM 12 34 k0 S).bind fun r51 =>
  (xal tM r51 a3 S).bind fun v52 =>
  (xls tM r41 a2 v52.toInt64 S).bind fun S53 =>
  (some (a2 + (1 : Int32))).bind fun v54 =>
  (some (a3 + (1 : Int32))).bind fun v55 =>
  rec v54 v55 S53)
else
  (if v11 = ((30 : Int32)) then
  ((xls tM r41 a2 ((1 : Int64)) S).bind fun S47 =>
  (some (a2 + (1 : Int32))).bind fun v48 =>
  (some (a3 + (1 : Int32))).bind fun v49 =>
  rec v48 v49 S47)
else
  ((xgF tM 12 68 k0 S).bind fun r42 =>
  (xal tM r42 v11 S).bind fun v43 =>
  (xls tM r41 a2 v43.toInt64 S).bind fun S44 =>
  (some (a2 + (1 : Int32))).bind fun v45 =>
  (some (a3 + (1 : Int32))).bind fun v46 =>
  rec v45 v46 S44))))
def fX12_reckons_L25 (n : Nat) (k0 : Nat) (a1 : Int32) : Nat → Int32 → Int32 → xSt → Option (xSt)
  | 0 => fun _ _ _ => none
  | q + 1 => fX12_reckons_L25b n k0 a1 (fX12_reckons_L25 n k0 a1 q)
set_option maxHeartbeats 4000000 in
theorem tX12_reckons_L25b {Γ : xGm} {M : xMg} (o : xOk Γ tM M 3 cX12_reckons RX12) (hnL : Γ.2.2.2 = 5) {rec : Int32 → Int32 → xSt → Option (xSt)} (n : Nat) (k0 : Nat) (a1 : Int32) (a2 : Int32) (a3 : Int32) (S : xSt) (z : (xSt)) (hrec : ∀ (a2 : Int32) (a3 : Int32) (S : xSt), rec a2 a3 S = some z → xAt Γ tM M 25 (xlv [(0, .ref (M.2.1 k0)), (1, .int a1), (2, .int a2), (3, .int a3)]) [] S) (K : xAt Γ tM M 227 (xlv [(0, .ref (M.2.1 k0))]) [] z) (h : fX12_reckons_L25b n k0 a1 rec a2 a3 S = some z) : xAt Γ tM M 25 (xlv [(0, .ref (M.2.1 k0)), (1, .int a1), (2, .int a2), (3, .int a3)]) [] S := by
  have hn2 : 2 < Γ.2.2.2 := by omega
  have hn3 : 3 < Γ.2.2.2 := by omega
  have hn4 : 4 < Γ.2.2.2 := by omega
  unfold fX12_reckons_L25b at h
  refine x_iload_n (pc := 25) o dX12_reckons_25 rfl rfl ?_
  refine x_sipush (pc := 26) o dX12_reckons_26 sp_1600 ?_
  refine x_aload_n (pc := 29) o dX12_reckons_29 rfl rfl ?_
  obtain ⟨v6, hv6, h⟩ := xbs h
  refine gX12_51 (pc := 30) o dX12_reckons_30 hv6 ?_
  refine x_imul (pc := 33) o dX12_reckons_33 ?_
  refine x_aload_n (pc := 34) o dX12_reckons_34 rfl rfl ?_
  obtain ⟨r7, hr7, h⟩ := xbs h
  refine gX12_108 (pc := 35) o dX12_reckons_35 hr7 ?_
  refine x_iconst (pc := 38) o dX12_reckons_38 ic_2 ?_
  refine x_aload_n (pc := 39) o dX12_reckons_39 rfl rfl ?_
  obtain ⟨v8, hv8, h⟩ := xbs h
  refine gX12_51 (pc := 40) o dX12_reckons_40 hv8 ?_
  refine x_imul (pc := 43) o dX12_reckons_43 ?_
  refine x_iload_n (pc := 44) o dX12_reckons_44 rfl rfl ?_
  refine x_iadd (pc := 45) o dX12_reckons_45 ?_
  obtain ⟨v9, hv9, h⟩ := xbs h
  refine x_iaload (pc := 46) o dX12_reckons_46 hv9 ?_
  refine x_iadd (pc := 47) o dX12_reckons_47 ?_
  refine x_icmp_ge (pc := 48) (tgt := 227) o dX12_reckons_48 (by decide) (fun c58 => ?_) (fun c58 => ?_)
  · have h := xit h c58
    refine x_to (l := [(0, .ref (M.2.1 k0))]) ⟨rfl, trivial⟩ ?_
    cases Option.some.inj h
    exact K
  · have h := xif h c58
    refine x_aload_n (pc := 51) o dX12_reckons_51 rfl rfl ?_
    obtain ⟨r10, hr10, h⟩ := xbs h
    refine gX12_111 (pc := 52) o dX12_reckons_52 hr10 ?_
    refine x_iload_n (pc := 55) o dX12_reckons_55 rfl rfl ?_
    obtain ⟨v11, hv11, h⟩ := xbs h
    refine x_iaload (pc := 56) o dX12_reckons_56 hv11 ?_
    refine x_istore (pc := 57) o dX12_reckons_57 hn4 ?_
    refine x_iload (pc := 59) o dX12_reckons_59 rfl ?_
    refine x_bipush (pc := 61) o dX12_reckons_61 bp_30 ?_
    refine x_icmp_gt (pc := 63) (tgt := 112) o dX12_reckons_63 (by decide) (fun c57 => ?_) (fun c57 => ?_)
    · have h := xit h c57
      refine x_iload (pc := 112) o dX12_reckons_112 rfl ?_
      refine x_bipush (pc := 114) o dX12_reckons_114 bp_43 ?_
      refine x_icmp_ne (pc := 116) (tgt := 140) o dX12_reckons_116 (by decide) (fun c40 => ?_) (fun c40 => ?_)
      · have h := xif h c40
        refine x_iload (pc := 140) o dX12_reckons_140 rfl ?_
        refine x_bipush (pc := 142) o dX12_reckons_142 bp_44 ?_
        refine x_icmp_ne (pc := 144) (tgt := 191) o dX12_reckons_144 (by decide) (fun c34 => ?_) (fun c34 => ?_)
        · have h := xif h c34
          obtain ⟨v12, hv12, h⟩ := xbs h
          refine x_iincE (pc := 191) o dX12_reckons_191 rfl ic_m1 hn2 hv12 ?_
          refine x_aload_n (pc := 194) o dX12_reckons_194 rfl rfl ?_
          obtain ⟨r13, hr13, h⟩ := xbs h
          refine gX12_216 (pc := 195) o dX12_reckons_195 hr13 ?_
          refine x_iload_n (pc := 198) o dX12_reckons_198 rfl rfl ?_
          refine x_iconst (pc := 199) o dX12_reckons_199 ic_1 ?_
          refine x_isub (pc := 200) o dX12_reckons_200 ?_
          refine x_iload (pc := 201) o dX12_reckons_201 rfl ?_
          refine x_aload_n (pc := 203) o dX12_reckons_203 rfl rfl ?_
          obtain ⟨r14, hr14, h⟩ := xbs h
          refine gX12_216 (pc := 204) o dX12_reckons_204 hr14 ?_
          refine x_iload_n (pc := 207) o dX12_reckons_207 rfl rfl ?_
          refine x_iconst (pc := 208) o dX12_reckons_208 ic_1 ?_
          refine x_isub (pc := 209) o dX12_reckons_209 ?_
          obtain ⟨v15, hv15, h⟩ := xbs h
          refine x_laload (pc := 210) o dX12_reckons_210 hv15 ?_
          refine x_aload_n (pc := 211) o dX12_reckons_211 rfl rfl ?_
          obtain ⟨r16, hr16, h⟩ := xbs h
          refine gX12_216 (pc := 212) o dX12_reckons_212 hr16 ?_
          refine x_iload_n (pc := 215) o dX12_reckons_215 rfl rfl ?_
          obtain ⟨v17, hv17, h⟩ := xbs h
          refine x_laload (pc := 216) o dX12_reckons_216 hv17 ?_
          obtain ⟨v18, hv18, h⟩ := xbs h
          refine x_statL (pc := 217) (As := [.int v11, .long v15, .long v17]) (rest := [.int (v12 - ((1 : Int32))), .ref (M.2.1 r13)]) o (tX12_two _ M _ v11 v15 v17 S v18 hv18) eX12_two mX12_508 (by decide) rfl rfl (Nat.le_of_ble_eq_true rfl) dX12_reckons_217 ?_
          obtain ⟨S19, hS19, h⟩ := xbs h
          refine x_lastore (pc := 220) o dX12_reckons_220 hS19 ?_
          obtain ⟨v20, hv20, h⟩ := xbs h
          refine x_iincE (pc := 221) o dX12_reckons_221 rfl ic_1 hn3 hv20 ?_
          refine x_goto (pc := 224) (tgt := 25) o dX12_reckons_224 (by decide) ?_
          refine x_to (l := [(0, .ref (M.2.1 k0)), (1, .int a1), (2, .int v12), (3, .int v20)]) ⟨rfl, rfl, rfl, rfl, trivial⟩ ?_
          exact hrec v12 v20 S19 h
        · have h := xit h c34
          obtain ⟨v21, hv21, h⟩ := xbs h
          refine x_iincE (pc := 147) o dX12_reckons_147 rfl ic_m2 hn2 hv21 ?_
          refine x_aload_n (pc := 150) o dX12_reckons_150 rfl rfl ?_
          obtain ⟨r22, hr22, h⟩ := xbs h
          refine gX12_216 (pc := 151) o dX12_reckons_151 hr22 ?_
          refine x_iload_n (pc := 154) o dX12_reckons_154 rfl rfl ?_
          refine x_iconst (pc := 155) o dX12_reckons_155 ic_1 ?_
          refine x_isub (pc := 156) o dX12_reckons_156 ?_
          refine x_aload_n (pc := 157) o dX12_reckons_157 rfl rfl ?_
          obtain ⟨r23, hr23, h⟩ := xbs h
          refine gX12_216 (pc := 158) o dX12_reckons_158 hr23 ?_
          refine x_iload_n (pc := 161) o dX12_reckons_161 rfl rfl ?_
          refine x_iconst (pc := 162) o dX12_reckons_162 ic_1 ?_
          refine x_isub (pc := 163) o dX12_reckons_163 ?_
          obtain ⟨v24, hv24, h⟩ := xbs h
          refine x_laload (pc := 164) o dX12_reckons_164 hv24 ?_
          refine x_lconst (pc := 165) (v := 1) o dX12_reckons_165 rfl ?_
          refine x_lcmp (pc := 166) o dX12_reckons_166 ?_
          refine x_if_ne (pc := 167) (tgt := 179) o dX12_reckons_167 (by decide) (fun c33 => ?_) (fun c33 => ?_)
          · have h := xif h c33
            refine x_aload_n (pc := 179) o dX12_reckons_179 rfl rfl ?_
            obtain ⟨r25, hr25, h⟩ := xbs h
            refine gX12_216 (pc := 180) o dX12_reckons_180 hr25 ?_
            refine x_iload_n (pc := 183) o dX12_reckons_183 rfl rfl ?_
            refine x_iconst (pc := 184) o dX12_reckons_184 ic_1 ?_
            refine x_iadd (pc := 185) o dX12_reckons_185 ?_
            obtain ⟨v26, hv26, h⟩ := xbs h
            refine x_laload (pc := 186) o dX12_reckons_186 hv26 ?_
            obtain ⟨S27, hS27, h⟩ := xbs h
            refine x_lastore (pc := 187) o dX12_reckons_187 hS27 ?_
            refine x_goto (pc := 188) (tgt := 221) o dX12_reckons_188 (by decide) ?_
            obtain ⟨v28, hv28, h⟩ := xbs h
            refine x_iincE (pc := 221) o dX12_reckons_221 rfl ic_1 hn3 hv28 ?_
            refine x_goto (pc := 224) (tgt := 25) o dX12_reckons_224 (by decide) ?_
            refine x_to (l := [(0, .ref (M.2.1 k0)), (1, .int a1), (2, .int v21), (3, .int v28)]) ⟨rfl, rfl, rfl, rfl, trivial⟩ ?_
            exact hrec v21 v28 S27 h
          · have h := xit h c33
            refine x_aload_n (pc := 170) o dX12_reckons_170 rfl rfl ?_
            obtain ⟨r29, hr29, h⟩ := xbs h
            refine gX12_216 (pc := 171) o dX12_reckons_171 hr29 ?_
            refine x_iload_n (pc := 174) o dX12_reckons_174 rfl rfl ?_
            obtain ⟨v30, hv30, h⟩ := xbs h
            refine x_laload (pc := 175) o dX12_reckons_175 hv30 ?_
            refine x_goto (pc := 176) (tgt := 187) o dX12_reckons_176 (by decide) ?_
            obtain ⟨S31, hS31, h⟩ := xbs h
            refine x_lastore (pc := 187) o dX12_reckons_187 hS31 ?_
            refine x_goto (pc := 188) (tgt := 221) o dX12_reckons_188 (by decide) ?_
            obtain ⟨v32, hv32, h⟩ := xbs h
            refine x_iincE (pc := 221) o dX12_reckons_221 rfl ic_1 hn3 hv32 ?_
            refine x_goto (pc := 224) (tgt := 25) o dX12_reckons_224 (by decide) ?_
            refine x_to (l := [(0, .ref (M.2.1 k0)), (1, .int a1), (2, .int v21), (3, .int v32)]) ⟨rfl, rfl, rfl, rfl, trivial⟩ ?_
            exact hrec v21 v32 S31 h
      · have h := xit h c40
        refine x_aload_n (pc := 119) o dX12_reckons_119 rfl rfl ?_
        obtain ⟨r35, hr35, h⟩ := xbs h
        refine gX12_216 (pc := 120) o dX12_reckons_120 hr35 ?_
        refine x_iload_n (pc := 123) o dX12_reckons_123 rfl rfl ?_
        refine x_iconst (pc := 124) o dX12_reckons_124 ic_1 ?_
        refine x_isub (pc := 125) o dX12_reckons_125 ?_
        refine x_lconst (pc := 126) (v := 1) o dX12_reckons_126 rfl ?_
        refine x_aload_n (pc := 127) o dX12_reckons_127 rfl rfl ?_
        obtain ⟨r36, hr36, h⟩ := xbs h
        refine gX12_216 (pc := 128) o dX12_reckons_128 hr36 ?_
        refine x_iload_n (pc := 131) o dX12_reckons_131 rfl rfl ?_
        refine x_iconst (pc := 132) o dX12_reckons_132 ic_1 ?_
        refine x_isub (pc := 133) o dX12_reckons_133 ?_
        obtain ⟨v37, hv37, h⟩ := xbs h
        refine x_laload (pc := 134) o dX12_reckons_134 hv37 ?_
        refine x_lsub (pc := 135) o dX12_reckons_135 ?_
        obtain ⟨S38, hS38, h⟩ := xbs h
        refine x_lastore (pc := 136) o dX12_reckons_136 hS38 ?_
        refine x_goto (pc := 137) (tgt := 221) o dX12_reckons_137 (by decide) ?_
        obtain ⟨v39, hv39, h⟩ := xbs h
        refine x_iincE (pc := 221) o dX12_reckons_221 rfl ic_1 hn3 hv39 ?_
        refine x_goto (pc := 224) (tgt := 25) o dX12_reckons_224 (by decide) ?_
        refine x_to (l := [(0, .ref (M.2.1 k0)), (1, .int a1), (2, .int a2), (3, .int v39)]) ⟨rfl, rfl, rfl, rfl, trivial⟩ ?_
        exact hrec a2 v39 S38 h
    · have h := xif h c57
      refine x_aload_n (pc := 66) o dX12_reckons_66 rfl rfl ?_
      obtain ⟨r41, hr41, h⟩ := xbs h
      refine gX12_216 (pc := 67) o dX12_reckons_67 hr41 ?_
      refine x_iload_n (pc := 70) o dX12_reckons_70 rfl rfl ?_
      refine x_iload (pc := 71) o dX12_reckons_71 rfl ?_
      refine x_if_ne (pc := 73) (tgt := 86) o dX12_reckons_73 (by decide) (fun c56 => ?_) (fun c56 => ?_)
      · have h := xif h c56
        refine x_iload (pc := 86) o dX12_reckons_86 rfl ?_
        refine x_bipush (pc := 88) o dX12_reckons_88 bp_30 ?_
        refine x_icmp_ne (pc := 90) (tgt := 97) o dX12_reckons_90 (by decide) (fun c50 => ?_) (fun c50 => ?_)
        · have h := xif h c50
          refine x_aload_n (pc := 97) o dX12_reckons_97 rfl rfl ?_
          obtain ⟨r42, hr42, h⟩ := xbs h
          refine gX12_219 (pc := 98) o dX12_reckons_98 hr42 ?_
          refine x_iload (pc := 101) o dX12_reckons_101 rfl ?_
          obtain ⟨v43, hv43, h⟩ := xbs h
          refine x_iaload (pc := 103) o dX12_reckons_103 hv43 ?_
          refine x_i2l (pc := 104) o dX12_reckons_104 ?_
          obtain ⟨S44, hS44, h⟩ := xbs h
          refine x_lastore (pc := 105) o dX12_reckons_105 hS44 ?_
          obtain ⟨v45, hv45, h⟩ := xbs h
          refine x_iincE (pc := 106) o dX12_reckons_106 rfl ic_1 hn2 hv45 ?_
          refine x_goto (pc := 109) (tgt := 221) o dX12_reckons_109 (by decide) ?_
          obtain ⟨v46, hv46, h⟩ := xbs h
          refine x_iincE (pc := 221) o dX12_reckons_221 rfl ic_1 hn3 hv46 ?_
          refine x_goto (pc := 224) (tgt := 25) o dX12_reckons_224 (by decide) ?_
          refine x_to (l := [(0, .ref (M.2.1 k0)), (1, .int a1), (2, .int v45), (3, .int v46)]) ⟨rfl, rfl, rfl, rfl, trivial⟩ ?_
          exact hrec v45 v46 S44 h
        · have h := xit h c50
          refine x_lconst (pc := 93) (v := 1) o dX12_reckons_93 rfl ?_
          refine x_goto (pc := 94) (tgt := 105) o dX12_reckons_94 (by decide) ?_
          obtain ⟨S47, hS47, h⟩ := xbs h
          refine x_lastore (pc := 105) o dX12_reckons_105 hS47 ?_
          obtain ⟨v48, hv48, h⟩ := xbs h
          refine x_iincE (pc := 106) o dX12_reckons_106 rfl ic_1 hn2 hv48 ?_
          refine x_goto (pc := 109) (tgt := 221) o dX12_reckons_109 (by decide) ?_
          obtain ⟨v49, hv49, h⟩ := xbs h
          refine x_iincE (pc := 221) o dX12_reckons_221 rfl ic_1 hn3 hv49 ?_
          refine x_goto (pc := 224) (tgt := 25) o dX12_reckons_224 (by decide) ?_
          refine x_to (l := [(0, .ref (M.2.1 k0)), (1, .int a1), (2, .int v48), (3, .int v49)]) ⟨rfl, rfl, rfl, rfl, trivial⟩ ?_
          exact hrec v48 v49 S47 h
      · have h := xit h c56
        refine x_aload_n (pc := 76) o dX12_reckons_76 rfl rfl ?_
        obtain ⟨r51, hr51, h⟩ := xbs h
        refine gX12_114 (pc := 77) o dX12_reckons_77 hr51 ?_
        refine x_iload_n (pc := 80) o dX12_reckons_80 rfl rfl ?_
        obtain ⟨v52, hv52, h⟩ := xbs h
        refine x_iaload (pc := 81) o dX12_reckons_81 hv52 ?_
        refine x_i2l (pc := 82) o dX12_reckons_82 ?_
        refine x_goto (pc := 83) (tgt := 105) o dX12_reckons_83 (by decide) ?_
        obtain ⟨S53, hS53, h⟩ := xbs h
        refine x_lastore (pc := 105) o dX12_reckons_105 hS53 ?_
        obtain ⟨v54, hv54, h⟩ := xbs h
        refine x_iincE (pc := 106) o dX12_reckons_106 rfl ic_1 hn2 hv54 ?_
        refine x_goto (pc := 109) (tgt := 221) o dX12_reckons_109 (by decide) ?_
        obtain ⟨v55, hv55, h⟩ := xbs h
        refine x_iincE (pc := 221) o dX12_reckons_221 rfl ic_1 hn3 hv55 ?_
        refine x_goto (pc := 224) (tgt := 25) o dX12_reckons_224 (by decide) ?_
        refine x_to (l := [(0, .ref (M.2.1 k0)), (1, .int a1), (2, .int v54), (3, .int v55)]) ⟨rfl, rfl, rfl, rfl, trivial⟩ ?_
        exact hrec v54 v55 S53 h
theorem tX12_reckons_L25 {Γ : xGm} {M : xMg} (o : xOk Γ tM M 3 cX12_reckons RX12) (hnL : Γ.2.2.2 = 5) (n : Nat) (k0 : Nat) (a1 : Int32) (z : (xSt)) (K : xAt Γ tM M 227 (xlv [(0, .ref (M.2.1 k0))]) [] z) : ∀ (q : Nat) (a2 : Int32) (a3 : Int32) (S : xSt), fX12_reckons_L25 n k0 a1 q a2 a3 S = some z → xAt Γ tM M 25 (xlv [(0, .ref (M.2.1 k0)), (1, .int a1), (2, .int a2), (3, .int a3)]) [] S := by
  intro q
  induction q with
  | zero => intro a2 a3 S h; cases h
  | succ q ih => intro a2 a3 S h; exact tX12_reckons_L25b o hnL n k0 a1 a2 a3 S z ih K h
def fX12_reckons (n : Nat) (k0 : Nat) (a1 : Int32) (S : xSt) : Option (Int64 × xSt) :=
  if tM.1 k0 = 12 then
  ((xgI tM 12 13 k0 S).bind fun v1 =>
  (xgF tM 12 31 k0 S).bind fun r2 =>
  (xgI tM 12 13 k0 S).bind fun v3 =>
  (xal tM r2 ((((2 : Int32)) * v3) + a1) S).bind fun v4 =>
  (some ((((1600 : Int32)) * v1) + v4)).bind fun v5 =>
  (fX12_reckons_L25 n k0 a1 n ((0 : Int32)) v5 S).bind fun z59 => (xgF tM 12 67 k0 z59).bind fun r60 =>
  (xll tM r60 ((0 : Int32)) z59).bind fun v61 =>
  some (v61, z59))
  else none
theorem kX12_reckons {z : Int64 × xSt} {n : Nat} {k0 : Nat} {a1 : Int32} {S : xSt} (h : fX12_reckons n k0 a1 S = some z) : tM.1 k0 = 12 := by
  unfold fX12_reckons at h
  exact (xck h).1
set_option maxHeartbeats 4000000 in
theorem tX12_reckons (l : Launch) (M : xMg) (A : Nat → Prop) (n : Nat) (k0 : Nat) (a1 : Int32) (S : xSt) (z : Int64 × xSt) (h : fX12_reckons n k0 a1 S = some z) : xML l yX12_reckons cX12_reckons 5 (some .long) 3 tM M A [.ref (M.2.1 k0), .int a1] S z.1 z.2 := by
  refine x_metL (plainFor_of_name (by decide)) tM_ok (Nat.le_of_ble_eq_true rfl) (fun Γ hA hnL hl hr o => ?_)
  subst hA; subst hl
  have o : xOk Γ tM M 3 cX12_reckons RX12 := o
  unfold fX12_reckons at h
  obtain ⟨hk0, h⟩ := xck h
  refine x_to (l := [(0, .ref (M.2.1 k0)), (1, .int a1)]) ⟨rfl, rfl, trivial⟩ ?_
  have hn2 : 2 < Γ.2.2.2 := by omega
  have hn3 : 3 < Γ.2.2.2 := by omega
  refine x_iconst (pc := 0) o dX12_reckons_0 ic_0 ?_
  refine x_istore_n (pc := 1) o dX12_reckons_1 rfl hn2 ?_
  refine x_sipush (pc := 2) o dX12_reckons_2 sp_1600 ?_
  refine x_aload_n (pc := 5) o dX12_reckons_5 rfl rfl ?_
  obtain ⟨v1, hv1, h⟩ := xbs h
  refine gX12_51 (pc := 6) o dX12_reckons_6 hv1 ?_
  refine x_imul (pc := 9) o dX12_reckons_9 ?_
  refine x_aload_n (pc := 10) o dX12_reckons_10 rfl rfl ?_
  obtain ⟨r2, hr2, h⟩ := xbs h
  refine gX12_105 (pc := 11) o dX12_reckons_11 hr2 ?_
  refine x_iconst (pc := 14) o dX12_reckons_14 ic_2 ?_
  refine x_aload_n (pc := 15) o dX12_reckons_15 rfl rfl ?_
  obtain ⟨v3, hv3, h⟩ := xbs h
  refine gX12_51 (pc := 16) o dX12_reckons_16 hv3 ?_
  refine x_imul (pc := 19) o dX12_reckons_19 ?_
  refine x_iload_n (pc := 20) o dX12_reckons_20 rfl rfl ?_
  refine x_iadd (pc := 21) o dX12_reckons_21 ?_
  obtain ⟨v4, hv4, h⟩ := xbs h
  refine x_iaload (pc := 22) o dX12_reckons_22 hv4 ?_
  refine x_iadd (pc := 23) o dX12_reckons_23 ?_
  obtain ⟨v5, hv5, h⟩ := xbs h
  refine x_istore_nE (pc := 24) o dX12_reckons_24 rfl hn3 hv5 ?_
  obtain ⟨z59, hz59, h⟩ := xbs h
  refine x_to (l := [(0, .ref (M.2.1 k0)), (1, .int a1), (2, .int ((0 : Int32))), (3, .int v5)]) ⟨rfl, rfl, rfl, rfl, trivial⟩ ?_
  refine tX12_reckons_L25 o hnL n k0 a1 z59 ?_ n ((0 : Int32)) v5 S hz59
  refine x_aload_n (pc := 227) o dX12_reckons_227 rfl rfl ?_
  obtain ⟨r60, hr60, h⟩ := xbs h
  refine gX12_216 (pc := 228) o dX12_reckons_228 hr60 ?_
  refine x_iconst (pc := 231) o dX12_reckons_231 ic_0 ?_
  obtain ⟨v61, hv61, h⟩ := xbs h
  refine x_laload (pc := 232) o dX12_reckons_232 hv61 ?_
  exact x_lreturn (pc := 233) o hr dX12_reckons_233 (xr1 h) (xr2 h)
def fX12_isTold (k0 : Nat) (a1 : Int32) (S : xSt) : Option (Int32) :=
  if tM.1 k0 = 12 then
  ((xgF tM 12 31 k0 S).bind fun r1 =>
  (xgI tM 12 13 k0 S).bind fun v2 =>
  (xal tM r1 ((((2 : Int32)) * v2) + a1) S).bind fun v3 =>
  if v3 = ((-1 : Int32)) then
  (some ((0 : Int32)))
else
  (some ((1 : Int32))))
  else none
theorem kX12_isTold {z : Int32} {k0 : Nat} {a1 : Int32} {S : xSt} (h : fX12_isTold k0 a1 S = some z) : tM.1 k0 = 12 := by
  unfold fX12_isTold at h
  exact (xck h).1
set_option maxHeartbeats 4000000 in
theorem tX12_isTold (l : Launch) (M : xMg) (A : Nat → Prop) (k0 : Nat) (a1 : Int32) (S : xSt) (z : Int32) (h : fX12_isTold k0 a1 S = some z) : xMI l yX12_isTold cX12_isTold 2 (some .boolean) 1 tM M A [.ref (M.2.1 k0), .int a1] S z S := by
  refine x_metI (plainFor_of_name (by decide)) tM_ok (Nat.le_of_ble_eq_true rfl) (fun Γ hA hnL hl hr o => ?_)
  subst hA; subst hl
  have o : xOk Γ tM M 1 cX12_isTold RX12 := o
  unfold fX12_isTold at h
  obtain ⟨hk0, h⟩ := xck h
  refine x_to (l := [(0, .ref (M.2.1 k0)), (1, .int a1)]) ⟨rfl, rfl, trivial⟩ ?_
  refine x_aload_n (pc := 0) o dX12_isTold_0 rfl rfl ?_
  obtain ⟨r1, hr1, h⟩ := xbs h
  refine gX12_105 (pc := 1) o dX12_isTold_1 hr1 ?_
  refine x_iconst (pc := 4) o dX12_isTold_4 ic_2 ?_
  refine x_aload_n (pc := 5) o dX12_isTold_5 rfl rfl ?_
  obtain ⟨v2, hv2, h⟩ := xbs h
  refine gX12_51 (pc := 6) o dX12_isTold_6 hv2 ?_
  refine x_imul (pc := 9) o dX12_isTold_9 ?_
  refine x_iload_n (pc := 10) o dX12_isTold_10 rfl rfl ?_
  refine x_iadd (pc := 11) o dX12_isTold_11 ?_
  obtain ⟨v3, hv3, h⟩ := xbs h
  refine x_iaload (pc := 12) o dX12_isTold_12 hv3 ?_
  refine x_iconst (pc := 13) o dX12_isTold_13 ic_m1 ?_
  refine x_icmp_eq (pc := 14) (tgt := 21) o dX12_isTold_14 (by decide) (fun c4 => ?_) (fun c4 => ?_)
  · have h := xit h c4
    refine x_iconst (pc := 21) o dX12_isTold_21 ic_0 ?_
    exact x_zreturn (pc := 22) o hr dX12_isTold_22 (by decide) (Option.some.inj h) rfl
  · have h := xif h c4
    refine x_iconst (pc := 17) o dX12_isTold_17 ic_1 ?_
    refine x_goto (pc := 18) (tgt := 22) o dX12_isTold_18 (by decide) ?_
    exact x_zreturn (pc := 22) o hr dX12_isTold_22 (by decide) (Option.some.inj h) rfl
def fX12_restOf (k0 : Nat) (a1 : Int32) (S : xSt) : Option (Int32) :=
  if tM.1 k0 = 12 then
  ((xgI tM 12 69 k0 S).bind fun v1 =>
  if a1 = v1 then
  ((xgI tM 12 70 k0 S).bind fun v5 =>
  some v5)
else
  ((xgF tM 12 15 k0 S).bind fun r2 =>
  (xgI tM 12 13 k0 S).bind fun v3 =>
  (xal tM r2 ((((6 : Int32)) * v3) + a1) S).bind fun v4 =>
  some v4))
  else none
theorem kX12_restOf {z : Int32} {k0 : Nat} {a1 : Int32} {S : xSt} (h : fX12_restOf k0 a1 S = some z) : tM.1 k0 = 12 := by
  unfold fX12_restOf at h
  exact (xck h).1
set_option maxHeartbeats 4000000 in
theorem tX12_restOf (l : Launch) (M : xMg) (A : Nat → Prop) (k0 : Nat) (a1 : Int32) (S : xSt) (z : Int32) (h : fX12_restOf k0 a1 S = some z) : xMI l yX12_restOf cX12_restOf 2 (some .int) 1 tM M A [.ref (M.2.1 k0), .int a1] S z S := by
  refine x_metI (plainFor_of_name (by decide)) tM_ok (Nat.le_of_ble_eq_true rfl) (fun Γ hA hnL hl hr o => ?_)
  subst hA; subst hl
  have o : xOk Γ tM M 1 cX12_restOf RX12 := o
  unfold fX12_restOf at h
  obtain ⟨hk0, h⟩ := xck h
  refine x_to (l := [(0, .ref (M.2.1 k0)), (1, .int a1)]) ⟨rfl, rfl, trivial⟩ ?_
  refine x_iload_n (pc := 0) o dX12_restOf_0 rfl rfl ?_
  refine x_aload_n (pc := 1) o dX12_restOf_1 rfl rfl ?_
  obtain ⟨v1, hv1, h⟩ := xbs h
  refine gX12_222 (pc := 2) o dX12_restOf_2 hv1 ?_
  refine x_icmp_ne (pc := 5) (tgt := 15) o dX12_restOf_5 (by decide) (fun c6 => ?_) (fun c6 => ?_)
  · have h := xif h c6
    refine x_aload_n (pc := 15) o dX12_restOf_15 rfl rfl ?_
    obtain ⟨r2, hr2, h⟩ := xbs h
    refine gX12_57 (pc := 16) o dX12_restOf_16 hr2 ?_
    refine x_bipush (pc := 19) o dX12_restOf_19 bp_6 ?_
    refine x_aload_n (pc := 21) o dX12_restOf_21 rfl rfl ?_
    obtain ⟨v3, hv3, h⟩ := xbs h
    refine gX12_51 (pc := 22) o dX12_restOf_22 hv3 ?_
    refine x_imul (pc := 25) o dX12_restOf_25 ?_
    refine x_iload_n (pc := 26) o dX12_restOf_26 rfl rfl ?_
    refine x_iadd (pc := 27) o dX12_restOf_27 ?_
    obtain ⟨v4, hv4, h⟩ := xbs h
    refine x_iaload (pc := 28) o dX12_restOf_28 hv4 ?_
    exact x_ireturn (pc := 29) o hr dX12_restOf_29 (Option.some.inj h) rfl
  · have h := xit h c6
    refine x_aload_n (pc := 8) o dX12_restOf_8 rfl rfl ?_
    obtain ⟨v5, hv5, h⟩ := xbs h
    refine gX12_225 (pc := 9) o dX12_restOf_9 hv5 ?_
    refine x_goto (pc := 12) (tgt := 29) o dX12_restOf_12 (by decide) ?_
    exact x_ireturn (pc := 29) o hr dX12_restOf_29 (Option.some.inj h) rfl
def fX12_isRestDay (k0 : Nat) (a1 : Int32) (a2 : Int32) (S : xSt) : Option (Int32) :=
  if tM.1 k0 = 12 then
  ((xgF tM 12 16 k0 S).bind fun r1 =>
  (xgI tM 12 13 k0 S).bind fun v2 =>
  (xal tM r1 ((((6 : Int32)) * v2) + a1) S).bind fun v3 =>
  if v3 = 0 then none else
  (fX12_restOf k0 a1 S).bind fun v4 =>
  if (a2 - a2 / v3 * v3) = v4 then
  (some ((1 : Int32)))
else
  (some ((0 : Int32))))
  else none
theorem kX12_isRestDay {z : Int32} {k0 : Nat} {a1 : Int32} {a2 : Int32} {S : xSt} (h : fX12_isRestDay k0 a1 a2 S = some z) : tM.1 k0 = 12 := by
  unfold fX12_isRestDay at h
  exact (xck h).1
set_option maxHeartbeats 4000000 in
theorem tX12_isRestDay (l : Launch) (M : xMg) (A : Nat → Prop) (k0 : Nat) (a1 : Int32) (a2 : Int32) (S : xSt) (z : Int32) (h : fX12_isRestDay k0 a1 a2 S = some z) : xMI l yX12_isRestDay cX12_isRestDay 3 (some .boolean) 2 tM M A [.ref (M.2.1 k0), .int a1, .int a2] S z S := by
  refine x_metI (plainFor_of_name (by decide)) tM_ok (Nat.le_of_ble_eq_true rfl) (fun Γ hA hnL hl hr o => ?_)
  subst hA; subst hl
  have o : xOk Γ tM M 2 cX12_isRestDay RX12 := o
  unfold fX12_isRestDay at h
  obtain ⟨hk0, h⟩ := xck h
  refine x_to (l := [(0, .ref (M.2.1 k0)), (1, .int a1), (2, .int a2)]) ⟨rfl, rfl, rfl, trivial⟩ ?_
  refine x_iload_n (pc := 0) o dX12_isRestDay_0 rfl rfl ?_
  refine x_aload_n (pc := 1) o dX12_isRestDay_1 rfl rfl ?_
  obtain ⟨r1, hr1, h⟩ := xbs h
  refine gX12_60 (pc := 2) o dX12_isRestDay_2 hr1 ?_
  refine x_bipush (pc := 5) o dX12_isRestDay_5 bp_6 ?_
  refine x_aload_n (pc := 7) o dX12_isRestDay_7 rfl rfl ?_
  obtain ⟨v2, hv2, h⟩ := xbs h
  refine gX12_51 (pc := 8) o dX12_isRestDay_8 hv2 ?_
  refine x_imul (pc := 11) o dX12_isRestDay_11 ?_
  refine x_iload_n (pc := 12) o dX12_isRestDay_12 rfl rfl ?_
  refine x_iadd (pc := 13) o dX12_isRestDay_13 ?_
  obtain ⟨v3, hv3, h⟩ := xbs h
  refine x_iaload (pc := 14) o dX12_isRestDay_14 hv3 ?_
  obtain ⟨hq, h⟩ := xcn h
  refine x_irem (pc := 15) o dX12_isRestDay_15 hq ?_
  refine x_aload_n (pc := 16) o dX12_isRestDay_16 rfl rfl ?_
  refine x_iload_n (pc := 17) o dX12_isRestDay_17 rfl rfl ?_
  obtain ⟨v4, hv4, h⟩ := xbs h
  refine x_callI (pc := 18) (As := [.int a1]) (b := k0) (rest := [.int (a2 - a2 / v3 * v3)]) o (tX12_restOf _ M _ k0 a1 S v4 hv4) eX12_restOf mX12_512 clX12 (kX12_restOf hv4) (by decide) rfl rfl (Nat.le_of_ble_eq_true rfl) dX12_isRestDay_18 ?_
  refine x_icmp_ne (pc := 21) (tgt := 28) o dX12_isRestDay_21 (by decide) (fun c5 => ?_) (fun c5 => ?_)
  · have h := xif h c5
    refine x_iconst (pc := 28) o dX12_isRestDay_28 ic_0 ?_
    exact x_zreturn (pc := 29) o hr dX12_isRestDay_29 (by decide) (Option.some.inj h) rfl
  · have h := xit h c5
    refine x_iconst (pc := 24) o dX12_isRestDay_24 ic_1 ?_
    refine x_goto (pc := 25) (tgt := 29) o dX12_isRestDay_25 (by decide) ?_
    exact x_zreturn (pc := 29) o hr dX12_isRestDay_29 (by decide) (Option.some.inj h) rfl
def fX12_kindOfTool (k0 : Nat) (a1 : Int32) (S : xSt) : Option (Int32) :=
  if tM.1 k0 = 12 then
  ((xgF tM 12 18 k0 S).bind fun r1 =>
  (xgI tM 12 13 k0 S).bind fun v2 =>
  (xal tM r1 ((((8 : Int32)) * v2) + a1) S).bind fun v3 =>
  some v3)
  else none
theorem kX12_kindOfTool {z : Int32} {k0 : Nat} {a1 : Int32} {S : xSt} (h : fX12_kindOfTool k0 a1 S = some z) : tM.1 k0 = 12 := by
  unfold fX12_kindOfTool at h
  exact (xck h).1
set_option maxHeartbeats 4000000 in
theorem tX12_kindOfTool (l : Launch) (M : xMg) (A : Nat → Prop) (k0 : Nat) (a1 : Int32) (S : xSt) (z : Int32) (h : fX12_kindOfTool k0 a1 S = some z) : xMI l yX12_kindOfTool cX12_kindOfTool 2 (some .int) 1 tM M A [.ref (M.2.1 k0), .int a1] S z S := by
  refine x_metI (plainFor_of_name (by decide)) tM_ok (Nat.le_of_ble_eq_true rfl) (fun Γ hA hnL hl hr o => ?_)
  subst hA; subst hl
  have o : xOk Γ tM M 1 cX12_kindOfTool RX12 := o
  unfold fX12_kindOfTool at h
  obtain ⟨hk0, h⟩ := xck h
  refine x_to (l := [(0, .ref (M.2.1 k0)), (1, .int a1)]) ⟨rfl, rfl, trivial⟩ ?_
  refine x_aload_n (pc := 0) o dX12_kindOfTool_0 rfl rfl ?_
  obtain ⟨r1, hr1, h⟩ := xbs h
  refine gX12_66 (pc := 1) o dX12_kindOfTool_1 hr1 ?_
  refine x_bipush (pc := 4) o dX12_kindOfTool_4 bp_8 ?_
  refine x_aload_n (pc := 6) o dX12_kindOfTool_6 rfl rfl ?_
  obtain ⟨v2, hv2, h⟩ := xbs h
  refine gX12_51 (pc := 7) o dX12_kindOfTool_7 hv2 ?_
  refine x_imul (pc := 10) o dX12_kindOfTool_10 ?_
  refine x_iload_n (pc := 11) o dX12_kindOfTool_11 rfl rfl ?_
  refine x_iadd (pc := 12) o dX12_kindOfTool_12 ?_
  obtain ⟨v3, hv3, h⟩ := xbs h
  refine x_iaload (pc := 13) o dX12_kindOfTool_13 hv3 ?_
  exact x_ireturn (pc := 14) o hr dX12_kindOfTool_14 (Option.some.inj h) rfl
def fX12_knownIn (k0 : Nat) (a1 : Int32) (a2 : Int32) (a3 : Int32) (S : xSt) : Option (Int32) :=
  if tM.1 k0 = 12 then
  ((xgF tM 12 59 k0 S).bind fun r1 =>
  (xal tM r1 (((((48 : Int32)) * a1) + (((8 : Int32)) * a2)) + a3) S).bind fun v2 =>
  some v2)
  else none
theorem kX12_knownIn {z : Int32} {k0 : Nat} {a1 : Int32} {a2 : Int32} {a3 : Int32} {S : xSt} (h : fX12_knownIn k0 a1 a2 a3 S = some z) : tM.1 k0 = 12 := by
  unfold fX12_knownIn at h
  exact (xck h).1
set_option maxHeartbeats 4000000 in
theorem tX12_knownIn (l : Launch) (M : xMg) (A : Nat → Prop) (k0 : Nat) (a1 : Int32) (a2 : Int32) (a3 : Int32) (S : xSt) (z : Int32) (h : fX12_knownIn k0 a1 a2 a3 S = some z) : xMI l yX12_knownIn cX12_knownIn 4 (some .int) 1 tM M A [.ref (M.2.1 k0), .int a1, .int a2, .int a3] S z S := by
  refine x_metI (plainFor_of_name (by decide)) tM_ok (Nat.le_of_ble_eq_true rfl) (fun Γ hA hnL hl hr o => ?_)
  subst hA; subst hl
  have o : xOk Γ tM M 1 cX12_knownIn RX12 := o
  unfold fX12_knownIn at h
  obtain ⟨hk0, h⟩ := xck h
  refine x_to (l := [(0, .ref (M.2.1 k0)), (1, .int a1), (2, .int a2), (3, .int a3)]) ⟨rfl, rfl, rfl, rfl, trivial⟩ ?_
  refine x_aload_n (pc := 0) o dX12_knownIn_0 rfl rfl ?_
  obtain ⟨r1, hr1, h⟩ := xbs h
  refine gX12_192 (pc := 1) o dX12_knownIn_1 hr1 ?_
  refine x_bipush (pc := 4) o dX12_knownIn_4 bp_48 ?_
  refine x_iload_n (pc := 6) o dX12_knownIn_6 rfl rfl ?_
  refine x_imul (pc := 7) o dX12_knownIn_7 ?_
  refine x_bipush (pc := 8) o dX12_knownIn_8 bp_8 ?_
  refine x_iload_n (pc := 10) o dX12_knownIn_10 rfl rfl ?_
  refine x_imul (pc := 11) o dX12_knownIn_11 ?_
  refine x_iadd (pc := 12) o dX12_knownIn_12 ?_
  refine x_iload_n (pc := 13) o dX12_knownIn_13 rfl rfl ?_
  refine x_iadd (pc := 14) o dX12_knownIn_14 ?_
  obtain ⟨v2, hv2, h⟩ := xbs h
  refine x_iaload (pc := 15) o dX12_knownIn_15 hv2 ?_
  exact x_ireturn (pc := 16) o hr dX12_knownIn_16 (Option.some.inj h) rfl
def fX12_doneIn (k0 : Nat) (a1 : Int32) (a2 : Int32) (S : xSt) : Option (Int32) :=
  if tM.1 k0 = 12 then
  ((xgF tM 12 60 k0 S).bind fun r1 =>
  (xal tM r1 ((((6 : Int32)) * a1) + a2) S).bind fun v2 =>
  some v2)
  else none
theorem kX12_doneIn {z : Int32} {k0 : Nat} {a1 : Int32} {a2 : Int32} {S : xSt} (h : fX12_doneIn k0 a1 a2 S = some z) : tM.1 k0 = 12 := by
  unfold fX12_doneIn at h
  exact (xck h).1
set_option maxHeartbeats 4000000 in
theorem tX12_doneIn (l : Launch) (M : xMg) (A : Nat → Prop) (k0 : Nat) (a1 : Int32) (a2 : Int32) (S : xSt) (z : Int32) (h : fX12_doneIn k0 a1 a2 S = some z) : xMI l yX12_doneIn cX12_doneIn 3 (some .int) 1 tM M A [.ref (M.2.1 k0), .int a1, .int a2] S z S := by
  refine x_metI (plainFor_of_name (by decide)) tM_ok (Nat.le_of_ble_eq_true rfl) (fun Γ hA hnL hl hr o => ?_)
  subst hA; subst hl
  have o : xOk Γ tM M 1 cX12_doneIn RX12 := o
  unfold fX12_doneIn at h
  obtain ⟨hk0, h⟩ := xck h
  refine x_to (l := [(0, .ref (M.2.1 k0)), (1, .int a1), (2, .int a2)]) ⟨rfl, rfl, rfl, trivial⟩ ?_
  refine x_aload_n (pc := 0) o dX12_doneIn_0 rfl rfl ?_
  obtain ⟨r1, hr1, h⟩ := xbs h
  refine gX12_195 (pc := 1) o dX12_doneIn_1 hr1 ?_
  refine x_bipush (pc := 4) o dX12_doneIn_4 bp_6 ?_
  refine x_iload_n (pc := 6) o dX12_doneIn_6 rfl rfl ?_
  refine x_imul (pc := 7) o dX12_doneIn_7 ?_
  refine x_iload_n (pc := 8) o dX12_doneIn_8 rfl rfl ?_
  refine x_iadd (pc := 9) o dX12_doneIn_9 ?_
  obtain ⟨v2, hv2, h⟩ := xbs h
  refine x_iaload (pc := 10) o dX12_doneIn_10 hv2 ?_
  exact x_ireturn (pc := 11) o hr dX12_doneIn_11 (Option.some.inj h) rfl
def fX12_stepsOf (k0 : Nat) (a1 : Int32) (S : xSt) : Option (Int32) :=
  if tM.1 k0 = 12 then
  ((xgF tM 12 24 k0 S).bind fun r1 =>
  (xgI tM 12 13 k0 S).bind fun v2 =>
  (xal tM r1 ((((6 : Int32)) * v2) + a1) S).bind fun v3 =>
  some v3)
  else none
theorem kX12_stepsOf {z : Int32} {k0 : Nat} {a1 : Int32} {S : xSt} (h : fX12_stepsOf k0 a1 S = some z) : tM.1 k0 = 12 := by
  unfold fX12_stepsOf at h
  exact (xck h).1
set_option maxHeartbeats 4000000 in
theorem tX12_stepsOf (l : Launch) (M : xMg) (A : Nat → Prop) (k0 : Nat) (a1 : Int32) (S : xSt) (z : Int32) (h : fX12_stepsOf k0 a1 S = some z) : xMI l yX12_stepsOf cX12_stepsOf 2 (some .int) 1 tM M A [.ref (M.2.1 k0), .int a1] S z S := by
  refine x_metI (plainFor_of_name (by decide)) tM_ok (Nat.le_of_ble_eq_true rfl) (fun Γ hA hnL hl hr o => ?_)
  subst hA; subst hl
  have o : xOk Γ tM M 1 cX12_stepsOf RX12 := o
  unfold fX12_stepsOf at h
  obtain ⟨hk0, h⟩ := xck h
  refine x_to (l := [(0, .ref (M.2.1 k0)), (1, .int a1)]) ⟨rfl, rfl, trivial⟩ ?_
  refine x_aload_n (pc := 0) o dX12_stepsOf_0 rfl rfl ?_
  obtain ⟨r1, hr1, h⟩ := xbs h
  refine gX12_84 (pc := 1) o dX12_stepsOf_1 hr1 ?_
  refine x_bipush (pc := 4) o dX12_stepsOf_4 bp_6 ?_
  refine x_aload_n (pc := 6) o dX12_stepsOf_6 rfl rfl ?_
  obtain ⟨v2, hv2, h⟩ := xbs h
  refine gX12_51 (pc := 7) o dX12_stepsOf_7 hv2 ?_
  refine x_imul (pc := 10) o dX12_stepsOf_10 ?_
  refine x_iload_n (pc := 11) o dX12_stepsOf_11 rfl rfl ?_
  refine x_iadd (pc := 12) o dX12_stepsOf_12 ?_
  obtain ⟨v3, hv3, h⟩ := xbs h
  refine x_iaload (pc := 13) o dX12_stepsOf_13 hv3 ?_
  exact x_ireturn (pc := 14) o hr dX12_stepsOf_14 (Option.some.inj h) rfl
def fX12_isDone (k0 : Nat) (a1 : Int32) (a2 : Int32) (S : xSt) : Option (Int32) :=
  if tM.1 k0 = 12 then
  ((fX12_doneIn k0 a1 a2 S).bind fun v1 =>
  (fX12_stepsOf k0 a2 S).bind fun v2 =>
  if v1 = v2 then
  (some ((1 : Int32)))
else
  (some ((0 : Int32))))
  else none
theorem kX12_isDone {z : Int32} {k0 : Nat} {a1 : Int32} {a2 : Int32} {S : xSt} (h : fX12_isDone k0 a1 a2 S = some z) : tM.1 k0 = 12 := by
  unfold fX12_isDone at h
  exact (xck h).1
set_option maxHeartbeats 4000000 in
theorem tX12_isDone (l : Launch) (M : xMg) (A : Nat → Prop) (k0 : Nat) (a1 : Int32) (a2 : Int32) (S : xSt) (z : Int32) (h : fX12_isDone k0 a1 a2 S = some z) : xMI l yX12_isDone cX12_isDone 3 (some .boolean) 2 tM M A [.ref (M.2.1 k0), .int a1, .int a2] S z S := by
  refine x_metI (plainFor_of_name (by decide)) tM_ok (Nat.le_of_ble_eq_true rfl) (fun Γ hA hnL hl hr o => ?_)
  subst hA; subst hl
  have o : xOk Γ tM M 2 cX12_isDone RX12 := o
  unfold fX12_isDone at h
  obtain ⟨hk0, h⟩ := xck h
  refine x_to (l := [(0, .ref (M.2.1 k0)), (1, .int a1), (2, .int a2)]) ⟨rfl, rfl, rfl, trivial⟩ ?_
  refine x_aload_n (pc := 0) o dX12_isDone_0 rfl rfl ?_
  refine x_iload_n (pc := 1) o dX12_isDone_1 rfl rfl ?_
  refine x_iload_n (pc := 2) o dX12_isDone_2 rfl rfl ?_
  obtain ⟨v1, hv1, h⟩ := xbs h
  refine x_callI (pc := 3) (As := [.int a1, .int a2]) (b := k0) (rest := []) o (tX12_doneIn _ M _ k0 a1 a2 S v1 hv1) eX12_doneIn mX12_515 clX12 (kX12_doneIn hv1) (by decide) rfl rfl (Nat.le_of_ble_eq_true rfl) dX12_isDone_3 ?_
  refine x_aload_n (pc := 6) o dX12_isDone_6 rfl rfl ?_
  refine x_iload_n (pc := 7) o dX12_isDone_7 rfl rfl ?_
  obtain ⟨v2, hv2, h⟩ := xbs h
  refine x_callI (pc := 8) (As := [.int a2]) (b := k0) (rest := [.int v1]) o (tX12_stepsOf _ M _ k0 a2 S v2 hv2) eX12_stepsOf mX12_518 clX12 (kX12_stepsOf hv2) (by decide) rfl rfl (Nat.le_of_ble_eq_true rfl) dX12_isDone_8 ?_
  refine x_icmp_ne (pc := 11) (tgt := 18) o dX12_isDone_11 (by decide) (fun c3 => ?_) (fun c3 => ?_)
  · have h := xif h c3
    refine x_iconst (pc := 18) o dX12_isDone_18 ic_0 ?_
    exact x_zreturn (pc := 19) o hr dX12_isDone_19 (by decide) (Option.some.inj h) rfl
  · have h := xit h c3
    refine x_iconst (pc := 14) o dX12_isDone_14 ic_1 ?_
    refine x_goto (pc := 15) (tgt := 19) o dX12_isDone_15 (by decide) ?_
    exact x_zreturn (pc := 19) o hr dX12_isDone_19 (by decide) (Option.some.inj h) rfl
def fX12_lateIn (k0 : Nat) (a1 : Int32) (a2 : Int32) (S : xSt) : Option (Int32) :=
  if tM.1 k0 = 12 then
  ((fX12_isDone k0 a1 a2 S).bind fun v1 =>
  if v1 = 0 then
  ((xgF tM 12 54 k0 S).bind fun r2 =>
  (xal tM r2 a1 S).bind fun v3 =>
  (xgF tM 12 61 k0 S).bind fun r4 =>
  (xal tM r4 ((((6 : Int32)) * a1) + a2) S).bind fun v5 =>
  if v5 < v3 then
  ((xgF tM 12 54 k0 S).bind fun r6 =>
  (xal tM r6 a1 S).bind fun v7 =>
  (xgF tM 12 61 k0 S).bind fun r8 =>
  (xal tM r8 ((((6 : Int32)) * a1) + a2) S).bind fun v9 =>
  some (v7 - v9))
else
  (some ((0 : Int32))))
else
  (some ((0 : Int32))))
  else none
theorem kX12_lateIn {z : Int32} {k0 : Nat} {a1 : Int32} {a2 : Int32} {S : xSt} (h : fX12_lateIn k0 a1 a2 S = some z) : tM.1 k0 = 12 := by
  unfold fX12_lateIn at h
  exact (xck h).1
set_option maxHeartbeats 4000000 in
theorem tX12_lateIn (l : Launch) (M : xMg) (A : Nat → Prop) (k0 : Nat) (a1 : Int32) (a2 : Int32) (S : xSt) (z : Int32) (h : fX12_lateIn k0 a1 a2 S = some z) : xMI l yX12_lateIn cX12_lateIn 3 (some .int) 3 tM M A [.ref (M.2.1 k0), .int a1, .int a2] S z S := by
  refine x_metI (plainFor_of_name (by decide)) tM_ok (Nat.le_of_ble_eq_true rfl) (fun Γ hA hnL hl hr o => ?_)
  subst hA; subst hl
  have o : xOk Γ tM M 3 cX12_lateIn RX12 := o
  unfold fX12_lateIn at h
  obtain ⟨hk0, h⟩ := xck h
  refine x_to (l := [(0, .ref (M.2.1 k0)), (1, .int a1), (2, .int a2)]) ⟨rfl, rfl, rfl, trivial⟩ ?_
  refine x_aload_n (pc := 0) o dX12_lateIn_0 rfl rfl ?_
  refine x_iload_n (pc := 1) o dX12_lateIn_1 rfl rfl ?_
  refine x_iload_n (pc := 2) o dX12_lateIn_2 rfl rfl ?_
  obtain ⟨v1, hv1, h⟩ := xbs h
  refine x_callI (pc := 3) (As := [.int a1, .int a2]) (b := k0) (rest := []) o (tX12_isDone _ M _ k0 a1 a2 S v1 hv1) eX12_isDone mX12_521 clX12 (kX12_isDone hv1) (by decide) rfl rfl (Nat.le_of_ble_eq_true rfl) dX12_lateIn_3 ?_
  refine x_if_ne (pc := 6) (tgt := 29) o dX12_lateIn_6 (by decide) (fun c11 => ?_) (fun c11 => ?_)
  · have h := xif h c11
    refine x_iconst (pc := 29) o dX12_lateIn_29 ic_0 ?_
    refine x_goto (pc := 30) (tgt := 51) o dX12_lateIn_30 (by decide) ?_
    exact x_ireturn (pc := 51) o hr dX12_lateIn_51 (Option.some.inj h) rfl
  · have h := xit h c11
    refine x_aload_n (pc := 9) o dX12_lateIn_9 rfl rfl ?_
    obtain ⟨r2, hr2, h⟩ := xbs h
    refine gX12_177 (pc := 10) o dX12_lateIn_10 hr2 ?_
    refine x_iload_n (pc := 13) o dX12_lateIn_13 rfl rfl ?_
    obtain ⟨v3, hv3, h⟩ := xbs h
    refine x_iaload (pc := 14) o dX12_lateIn_14 hv3 ?_
    refine x_aload_n (pc := 15) o dX12_lateIn_15 rfl rfl ?_
    obtain ⟨r4, hr4, h⟩ := xbs h
    refine gX12_198 (pc := 16) o dX12_lateIn_16 hr4 ?_
    refine x_bipush (pc := 19) o dX12_lateIn_19 bp_6 ?_
    refine x_iload_n (pc := 21) o dX12_lateIn_21 rfl rfl ?_
    refine x_imul (pc := 22) o dX12_lateIn_22 ?_
    refine x_iload_n (pc := 23) o dX12_lateIn_23 rfl rfl ?_
    refine x_iadd (pc := 24) o dX12_lateIn_24 ?_
    obtain ⟨v5, hv5, h⟩ := xbs h
    refine x_iaload (pc := 25) o dX12_lateIn_25 hv5 ?_
    refine x_icmp_gt (pc := 26) (tgt := 33) o dX12_lateIn_26 (by decide) (fun c10 => ?_) (fun c10 => ?_)
    · have h := xit h c10
      refine x_aload_n (pc := 33) o dX12_lateIn_33 rfl rfl ?_
      obtain ⟨r6, hr6, h⟩ := xbs h
      refine gX12_177 (pc := 34) o dX12_lateIn_34 hr6 ?_
      refine x_iload_n (pc := 37) o dX12_lateIn_37 rfl rfl ?_
      obtain ⟨v7, hv7, h⟩ := xbs h
      refine x_iaload (pc := 38) o dX12_lateIn_38 hv7 ?_
      refine x_aload_n (pc := 39) o dX12_lateIn_39 rfl rfl ?_
      obtain ⟨r8, hr8, h⟩ := xbs h
      refine gX12_198 (pc := 40) o dX12_lateIn_40 hr8 ?_
      refine x_bipush (pc := 43) o dX12_lateIn_43 bp_6 ?_
      refine x_iload_n (pc := 45) o dX12_lateIn_45 rfl rfl ?_
      refine x_imul (pc := 46) o dX12_lateIn_46 ?_
      refine x_iload_n (pc := 47) o dX12_lateIn_47 rfl rfl ?_
      refine x_iadd (pc := 48) o dX12_lateIn_48 ?_
      obtain ⟨v9, hv9, h⟩ := xbs h
      refine x_iaload (pc := 49) o dX12_lateIn_49 hv9 ?_
      refine x_isub (pc := 50) o dX12_lateIn_50 ?_
      exact x_ireturn (pc := 51) o hr dX12_lateIn_51 (Option.some.inj h) rfl
    · have h := xif h c10
      refine x_iconst (pc := 29) o dX12_lateIn_29 ic_0 ?_
      refine x_goto (pc := 30) (tgt := 51) o dX12_lateIn_30 (by decide) ?_
      exact x_ireturn (pc := 51) o hr dX12_lateIn_51 (Option.some.inj h) rfl
def fX12_step (k0 : Nat) (a1 : Int32) (a2 : Int32) (S : xSt) : Option (Int32) :=
  if tM.1 k0 = 12 then
  ((xgI tM 12 13 k0 S).bind fun v1 =>
  (fX12_doneIn k0 a1 a2 S).bind fun v2 =>
  some ((((4 : Int32)) * ((((6 : Int32)) * v1) + a2)) + v2))
  else none
theorem kX12_step {z : Int32} {k0 : Nat} {a1 : Int32} {a2 : Int32} {S : xSt} (h : fX12_step k0 a1 a2 S = some z) : tM.1 k0 = 12 := by
  unfold fX12_step at h
  exact (xck h).1
set_option maxHeartbeats 4000000 in
theorem tX12_step (l : Launch) (M : xMg) (A : Nat → Prop) (k0 : Nat) (a1 : Int32) (a2 : Int32) (S : xSt) (z : Int32) (h : fX12_step k0 a1 a2 S = some z) : xMI l yX12_step cX12_step 3 (some .int) 2 tM M A [.ref (M.2.1 k0), .int a1, .int a2] S z S := by
  refine x_metI (plainFor_of_name (by decide)) tM_ok (Nat.le_of_ble_eq_true rfl) (fun Γ hA hnL hl hr o => ?_)
  subst hA; subst hl
  have o : xOk Γ tM M 2 cX12_step RX12 := o
  unfold fX12_step at h
  obtain ⟨hk0, h⟩ := xck h
  refine x_to (l := [(0, .ref (M.2.1 k0)), (1, .int a1), (2, .int a2)]) ⟨rfl, rfl, rfl, trivial⟩ ?_
  refine x_iconst (pc := 0) o dX12_step_0 ic_4 ?_
  refine x_bipush (pc := 1) o dX12_step_1 bp_6 ?_
  refine x_aload_n (pc := 3) o dX12_step_3 rfl rfl ?_
  obtain ⟨v1, hv1, h⟩ := xbs h
  refine gX12_51 (pc := 4) o dX12_step_4 hv1 ?_
  refine x_imul (pc := 7) o dX12_step_7 ?_
  refine x_iload_n (pc := 8) o dX12_step_8 rfl rfl ?_
  refine x_iadd (pc := 9) o dX12_step_9 ?_
  refine x_imul (pc := 10) o dX12_step_10 ?_
  refine x_aload_n (pc := 11) o dX12_step_11 rfl rfl ?_
  refine x_iload_n (pc := 12) o dX12_step_12 rfl rfl ?_
  refine x_iload_n (pc := 13) o dX12_step_13 rfl rfl ?_
  obtain ⟨v2, hv2, h⟩ := xbs h
  refine x_callI (pc := 14) (As := [.int a1, .int a2]) (b := k0) (rest := [.int (((4 : Int32)) * ((((6 : Int32)) * v1) + a2))]) o (tX12_doneIn _ M _ k0 a1 a2 S v2 hv2) eX12_doneIn mX12_515 clX12 (kX12_doneIn hv2) (by decide) rfl rfl (Nat.le_of_ble_eq_true rfl) dX12_step_14 ?_
  refine x_iadd (pc := 17) o dX12_step_17 ?_
  exact x_ireturn (pc := 18) o hr dX12_step_18 (Option.some.inj h) rfl
def fX12_tells_B28 (k0 : Nat) (a1 : Int32) (a2 : Int32) (a3 : Int32) (a4 : Int32) (s0 : Nat) (s1 : Int32) (s2 : Int32) (S : xSt) : Option (xSt) :=
  (xas tM s0 s1 s2 S).bind fun S6 =>
  (xgF tM 12 68 k0 S6).bind fun r7 =>
  (xgF tM 12 56 k0 S6).bind fun r8 =>
  (xal tM r8 ((((8 : Int32)) * a1) + a3) S6).bind fun v9 =>
  (xas tM r7 ((2 : Int32)) v9 S6).bind fun S10 =>
  (xgF tM 12 68 k0 S10).bind fun r11 =>
  (fX12_knownIn k0 a1 a4 a3 S10).bind fun v12 =>
  (xas tM r11 ((3 : Int32)) v12 S10).bind fun S13 =>
  (xgF tM 12 68 k0 S13).bind fun r14 =>
  (xgF tM 12 26 k0 S13).bind fun r15 =>
  (fX12_step k0 a1 a2 S13).bind fun v16 =>
  (xal tM r15 v16 S13).bind fun v17 =>
  (xas tM r14 ((4 : Int32)) v17 S13).bind fun S18 =>
  (xgF tM 12 68 k0 S18).bind fun r19 =>
  (xgF tM 12 54 k0 S18).bind fun r20 =>
  (xal tM r20 a1 S18).bind fun v21 =>
  (xas tM r19 ((5 : Int32)) v21 S18).bind fun S22 =>
  (xgF tM 12 68 k0 S22).bind fun r23 =>
  (fX12_lateIn k0 a1 a2 S22).bind fun v24 =>
  (xas tM r23 ((6 : Int32)) v24 S22).bind fun S25 =>
  some S25
set_option maxHeartbeats 4000000 in
theorem tX12_tells_B28 {Γ : xGm} {M : xMg} (o : xOk Γ tM M 4 cX12_tells RX12) (hnL : Γ.2.2.2 = 5) (k0 : Nat) (a1 : Int32) (a2 : Int32) (a3 : Int32) (a4 : Int32) (s0 : Nat) (s1 : Int32) (s2 : Int32) (S : xSt) (z : (xSt)) (hr : xRV Γ tM M none z) (h : fX12_tells_B28 k0 a1 a2 a3 a4 s0 s1 s2 S = some z) : xAt Γ tM M 28 (xlv [(0, .ref (M.2.1 k0)), (1, .int a1), (2, .int a2), (3, .int a3), (4, .int a4)]) [.int s2, .int s1, .ref (M.2.1 s0)] S := by
  unfold fX12_tells_B28 at h
  obtain ⟨S6, hS6, h⟩ := xbs h
  refine x_iastore (pc := 28) o dX12_tells_28 hS6 ?_
  refine x_aload_n (pc := 29) o dX12_tells_29 rfl rfl ?_
  obtain ⟨r7, hr7, h⟩ := xbs h
  refine gX12_219 (pc := 30) o dX12_tells_30 hr7 ?_
  refine x_iconst (pc := 33) o dX12_tells_33 ic_2 ?_
  refine x_aload_n (pc := 34) o dX12_tells_34 rfl rfl ?_
  obtain ⟨r8, hr8, h⟩ := xbs h
  refine gX12_183 (pc := 35) o dX12_tells_35 hr8 ?_
  refine x_bipush (pc := 38) o dX12_tells_38 bp_8 ?_
  refine x_iload_n (pc := 40) o dX12_tells_40 rfl rfl ?_
  refine x_imul (pc := 41) o dX12_tells_41 ?_
  refine x_iload_n (pc := 42) o dX12_tells_42 rfl rfl ?_
  refine x_iadd (pc := 43) o dX12_tells_43 ?_
  obtain ⟨v9, hv9, h⟩ := xbs h
  refine x_iaload (pc := 44) o dX12_tells_44 hv9 ?_
  obtain ⟨S10, hS10, h⟩ := xbs h
  refine x_iastore (pc := 45) o dX12_tells_45 hS10 ?_
  refine x_aload_n (pc := 46) o dX12_tells_46 rfl rfl ?_
  obtain ⟨r11, hr11, h⟩ := xbs h
  refine gX12_219 (pc := 47) o dX12_tells_47 hr11 ?_
  refine x_iconst (pc := 50) o dX12_tells_50 ic_3 ?_
  refine x_aload_n (pc := 51) o dX12_tells_51 rfl rfl ?_
  refine x_iload_n (pc := 52) o dX12_tells_52 rfl rfl ?_
  refine x_iload (pc := 53) o dX12_tells_53 rfl ?_
  refine x_iload_n (pc := 55) o dX12_tells_55 rfl rfl ?_
  obtain ⟨v12, hv12, h⟩ := xbs h
  refine x_callI (pc := 56) (As := [.int a1, .int a4, .int a3]) (b := k0) (rest := [.int ((3 : Int32)), .ref (M.2.1 r11)]) o (tX12_knownIn _ M _ k0 a1 a4 a3 S10 v12 hv12) eX12_knownIn mX12_530 clX12 (kX12_knownIn hv12) (by decide) rfl rfl (Nat.le_of_ble_eq_true rfl) dX12_tells_56 ?_
  obtain ⟨S13, hS13, h⟩ := xbs h
  refine x_iastore (pc := 59) o dX12_tells_59 hS13 ?_
  refine x_aload_n (pc := 60) o dX12_tells_60 rfl rfl ?_
  obtain ⟨r14, hr14, h⟩ := xbs h
  refine gX12_219 (pc := 61) o dX12_tells_61 hr14 ?_
  refine x_iconst (pc := 64) o dX12_tells_64 ic_4 ?_
  refine x_aload_n (pc := 65) o dX12_tells_65 rfl rfl ?_
  obtain ⟨r15, hr15, h⟩ := xbs h
  refine gX12_90 (pc := 66) o dX12_tells_66 hr15 ?_
  refine x_aload_n (pc := 69) o dX12_tells_69 rfl rfl ?_
  refine x_iload_n (pc := 70) o dX12_tells_70 rfl rfl ?_
  refine x_iload_n (pc := 71) o dX12_tells_71 rfl rfl ?_
  obtain ⟨v16, hv16, h⟩ := xbs h
  refine x_callI (pc := 72) (As := [.int a1, .int a2]) (b := k0) (rest := [.ref (M.2.1 r15), .int ((4 : Int32)), .ref (M.2.1 r14)]) o (tX12_step _ M _ k0 a1 a2 S13 v16 hv16) eX12_step mX12_534 clX12 (kX12_step hv16) (by decide) rfl rfl (Nat.le_of_ble_eq_true rfl) dX12_tells_72 ?_
  obtain ⟨v17, hv17, h⟩ := xbs h
  refine x_iaload (pc := 75) o dX12_tells_75 hv17 ?_
  obtain ⟨S18, hS18, h⟩ := xbs h
  refine x_iastore (pc := 76) o dX12_tells_76 hS18 ?_
  refine x_aload_n (pc := 77) o dX12_tells_77 rfl rfl ?_
  obtain ⟨r19, hr19, h⟩ := xbs h
  refine gX12_219 (pc := 78) o dX12_tells_78 hr19 ?_
  refine x_iconst (pc := 81) o dX12_tells_81 ic_5 ?_
  refine x_aload_n (pc := 82) o dX12_tells_82 rfl rfl ?_
  obtain ⟨r20, hr20, h⟩ := xbs h
  refine gX12_177 (pc := 83) o dX12_tells_83 hr20 ?_
  refine x_iload_n (pc := 86) o dX12_tells_86 rfl rfl ?_
  obtain ⟨v21, hv21, h⟩ := xbs h
  refine x_iaload (pc := 87) o dX12_tells_87 hv21 ?_
  obtain ⟨S22, hS22, h⟩ := xbs h
  refine x_iastore (pc := 88) o dX12_tells_88 hS22 ?_
  refine x_aload_n (pc := 89) o dX12_tells_89 rfl rfl ?_
  obtain ⟨r23, hr23, h⟩ := xbs h
  refine gX12_219 (pc := 90) o dX12_tells_90 hr23 ?_
  refine x_bipush (pc := 93) o dX12_tells_93 bp_6 ?_
  refine x_aload_n (pc := 95) o dX12_tells_95 rfl rfl ?_
  refine x_iload_n (pc := 96) o dX12_tells_96 rfl rfl ?_
  refine x_iload_n (pc := 97) o dX12_tells_97 rfl rfl ?_
  obtain ⟨v24, hv24, h⟩ := xbs h
  refine x_callI (pc := 98) (As := [.int a1, .int a2]) (b := k0) (rest := [.int ((6 : Int32)), .ref (M.2.1 r23)]) o (tX12_lateIn _ M _ k0 a1 a2 S22 v24 hv24) eX12_lateIn mX12_537 clX12 (kX12_lateIn hv24) (by decide) rfl rfl (Nat.le_of_ble_eq_true rfl) dX12_tells_98 ?_
  obtain ⟨S25, hS25, h⟩ := xbs h
  refine x_iastore (pc := 101) o dX12_tells_101 hS25 ?_
  exact x_vreturn (pc := 102) o hr dX12_tells_102 (Option.some.inj h)
def fX12_tells (k0 : Nat) (a1 : Int32) (a2 : Int32) (a3 : Int32) (a4 : Int32) (S : xSt) : Option (xSt) :=
  if tM.1 k0 = 12 then
  ((xgF tM 12 68 k0 S).bind fun r1 =>
  (fX12_kindOfTool k0 a3 S).bind fun v2 =>
  (xgF tM 12 54 k0 S).bind fun r3 =>
  (xal tM r3 a1 S).bind fun v4 =>
  (fX12_isRestDay k0 v2 v4 S).bind fun v5 =>
  if v5 = 0 then
  (fX12_tells_B28 k0 a1 a2 a3 a4 r1 ((1 : Int32)) ((0 : Int32)) S)
else
  (fX12_tells_B28 k0 a1 a2 a3 a4 r1 ((1 : Int32)) ((1 : Int32)) S))
  else none
theorem kX12_tells {z : xSt} {k0 : Nat} {a1 : Int32} {a2 : Int32} {a3 : Int32} {a4 : Int32} {S : xSt} (h : fX12_tells k0 a1 a2 a3 a4 S = some z) : tM.1 k0 = 12 := by
  unfold fX12_tells at h
  exact (xck h).1
set_option maxHeartbeats 4000000 in
theorem tX12_tells (l : Launch) (M : xMg) (A : Nat → Prop) (k0 : Nat) (a1 : Int32) (a2 : Int32) (a3 : Int32) (a4 : Int32) (S : xSt) (z : xSt) (h : fX12_tells k0 a1 a2 a3 a4 S = some z) : xMV l yX12_tells cX12_tells 5 none 4 tM M A [.ref (M.2.1 k0), .int a1, .int a2, .int a3, .int a4] S z := by
  refine x_metV (plainFor_of_name (by decide)) tM_ok (Nat.le_of_ble_eq_true rfl) (fun Γ hA hnL hl hr o => ?_)
  subst hA; subst hl
  have o : xOk Γ tM M 4 cX12_tells RX12 := o
  unfold fX12_tells at h
  obtain ⟨hk0, h⟩ := xck h
  refine x_to (l := [(0, .ref (M.2.1 k0)), (1, .int a1), (2, .int a2), (3, .int a3), (4, .int a4)]) ⟨rfl, rfl, rfl, rfl, rfl, trivial⟩ ?_
  refine x_aload_n (pc := 0) o dX12_tells_0 rfl rfl ?_
  obtain ⟨r1, hr1, h⟩ := xbs h
  refine gX12_219 (pc := 1) o dX12_tells_1 hr1 ?_
  refine x_iconst (pc := 4) o dX12_tells_4 ic_1 ?_
  refine x_aload_n (pc := 5) o dX12_tells_5 rfl rfl ?_
  refine x_aload_n (pc := 6) o dX12_tells_6 rfl rfl ?_
  refine x_iload_n (pc := 7) o dX12_tells_7 rfl rfl ?_
  obtain ⟨v2, hv2, h⟩ := xbs h
  refine x_callI (pc := 8) (As := [.int a3]) (b := k0) (rest := [.ref (M.2.1 k0), .int ((1 : Int32)), .ref (M.2.1 r1)]) o (tX12_kindOfTool _ M _ k0 a3 S v2 hv2) eX12_kindOfTool mX12_524 clX12 (kX12_kindOfTool hv2) (by decide) rfl rfl (Nat.le_of_ble_eq_true rfl) dX12_tells_8 ?_
  refine x_aload_n (pc := 11) o dX12_tells_11 rfl rfl ?_
  obtain ⟨r3, hr3, h⟩ := xbs h
  refine gX12_177 (pc := 12) o dX12_tells_12 hr3 ?_
  refine x_iload_n (pc := 15) o dX12_tells_15 rfl rfl ?_
  obtain ⟨v4, hv4, h⟩ := xbs h
  refine x_iaload (pc := 16) o dX12_tells_16 hv4 ?_
  obtain ⟨v5, hv5, h⟩ := xbs h
  refine x_callI (pc := 17) (As := [.int v2, .int v4]) (b := k0) (rest := [.int ((1 : Int32)), .ref (M.2.1 r1)]) o (tX12_isRestDay _ M _ k0 v2 v4 S v5 hv5) eX12_isRestDay mX12_527 clX12 (kX12_isRestDay hv5) (by decide) rfl rfl (Nat.le_of_ble_eq_true rfl) dX12_tells_17 ?_
  refine x_if_eq (pc := 20) (tgt := 27) o dX12_tells_20 (by decide) (fun c26 => ?_) (fun c26 => ?_)
  · have h := xit h c26
    refine x_iconst (pc := 27) o dX12_tells_27 ic_0 ?_
    refine x_to (l := [(0, .ref (M.2.1 k0)), (1, .int a1), (2, .int a2), (3, .int a3), (4, .int a4)]) ⟨rfl, rfl, rfl, rfl, rfl, trivial⟩ ?_
    exact tX12_tells_B28 o hnL k0 a1 a2 a3 a4 r1 ((1 : Int32)) ((0 : Int32)) S z hr h
  · have h := xif h c26
    refine x_iconst (pc := 23) o dX12_tells_23 ic_1 ?_
    refine x_goto (pc := 24) (tgt := 28) o dX12_tells_24 (by decide) ?_
    refine x_to (l := [(0, .ref (M.2.1 k0)), (1, .int a1), (2, .int a2), (3, .int a3), (4, .int a4)]) ⟨rfl, rfl, rfl, rfl, rfl, trivial⟩ ?_
    exact tX12_tells_B28 o hnL k0 a1 a2 a3 a4 r1 ((1 : Int32)) ((1 : Int32)) S z hr h
def fX12_bits_L4b (n : Nat) (S : xSt) (rec : Int32 → Int32 → Option (Int32)) (a1 : Int32) (a2 : Int32) : Option (Int32) :=
  if a2 = 0 then
  (some a1)
else
  ((some (a1 + (1 : Int32))).bind fun v1 =>
  (some (a2 &&& (a2 - ((1 : Int32))))).bind fun v2 =>
  rec v1 v2)
def fX12_bits_L4 (n : Nat) (S : xSt) : Nat → Int32 → Int32 → Option (Int32)
  | 0 => fun _ _ => none
  | q + 1 => fX12_bits_L4b n S (fX12_bits_L4 n S q)
set_option maxHeartbeats 4000000 in
theorem tX12_bits_L4b {Γ : xGm} {M : xMg} (o : xOk Γ tM M 1 cX12_bits RX12) (hnL : Γ.2.2.2 = 3) {rec : Int32 → Int32 → Option (Int32)} (n : Nat) (S : xSt) (a1 : Int32) (a2 : Int32) (z : (Int32)) (hrec : ∀ (a1 : Int32) (a2 : Int32), rec a1 a2 = some z → xAt Γ tM M 4 (xlv [(1, .int a1), (2, .int a2)]) [] S) (K : xAt Γ tM M 20 (xlv [(1, .int z)]) [] S) (h : fX12_bits_L4b n S rec a1 a2 = some z) : xAt Γ tM M 4 (xlv [(1, .int a1), (2, .int a2)]) [] S := by
  have hn1 : 1 < Γ.2.2.2 := by omega
  have hn2 : 2 < Γ.2.2.2 := by omega
  unfold fX12_bits_L4b at h
  refine x_iload_n (pc := 4) o dX12_bits_4 rfl rfl ?_
  refine x_if_eq (pc := 5) (tgt := 20) o dX12_bits_5 (by decide) (fun c3 => ?_) (fun c3 => ?_)
  · have h := xit h c3
    refine x_to (l := [(1, .int a1)]) ⟨rfl, trivial⟩ ?_
    cases Option.some.inj h
    exact K
  · have h := xif h c3
    obtain ⟨v1, hv1, h⟩ := xbs h
    refine x_iincE (pc := 8) o dX12_bits_8 rfl ic_1 hn1 hv1 ?_
    refine x_iload_n (pc := 11) o dX12_bits_11 rfl rfl ?_
    refine x_iload_n (pc := 12) o dX12_bits_12 rfl rfl ?_
    refine x_iconst (pc := 13) o dX12_bits_13 ic_1 ?_
    refine x_isub (pc := 14) o dX12_bits_14 ?_
    refine x_iand (pc := 15) o dX12_bits_15 ?_
    obtain ⟨v2, hv2, h⟩ := xbs h
    refine x_istore_nE (pc := 16) o dX12_bits_16 rfl hn2 hv2 ?_
    refine x_goto (pc := 17) (tgt := 4) o dX12_bits_17 (by decide) ?_
    refine x_to (l := [(1, .int v1), (2, .int v2)]) ⟨rfl, rfl, trivial⟩ ?_
    exact hrec v1 v2 h
theorem tX12_bits_L4 {Γ : xGm} {M : xMg} (o : xOk Γ tM M 1 cX12_bits RX12) (hnL : Γ.2.2.2 = 3) (n : Nat) (S : xSt) (z : (Int32)) (K : xAt Γ tM M 20 (xlv [(1, .int z)]) [] S) : ∀ (q : Nat) (a1 : Int32) (a2 : Int32), fX12_bits_L4 n S q a1 a2 = some z → xAt Γ tM M 4 (xlv [(1, .int a1), (2, .int a2)]) [] S := by
  intro q
  induction q with
  | zero => intro a1 a2 h; cases h
  | succ q ih => intro a1 a2 h; exact tX12_bits_L4b o hnL n S a1 a2 z ih K h
def fX12_bits (n : Nat) (a0 : Int32) (S : xSt) : Option (Int32) :=
  (fX12_bits_L4 n S n ((0 : Int32)) a0).bind fun z4 => some z4
set_option maxHeartbeats 4000000 in
theorem tX12_bits (l : Launch) (M : xMg) (A : Nat → Prop) (n : Nat) (a0 : Int32) (S : xSt) (z : Int32) (h : fX12_bits n a0 S = some z) : xMI l yX12_bits cX12_bits 3 (some .int) 1 tM M A [.int a0] S z S := by
  refine x_metI (plainFor_of_name (by decide)) tM_ok (Nat.le_of_ble_eq_true rfl) (fun Γ hA hnL hl hr o => ?_)
  subst hA; subst hl
  have o : xOk Γ tM M 1 cX12_bits RX12 := o
  unfold fX12_bits at h
  refine x_to (l := [(0, .int a0)]) ⟨rfl, trivial⟩ ?_
  have hn1 : 1 < Γ.2.2.2 := by omega
  have hn2 : 2 < Γ.2.2.2 := by omega
  refine x_iconst (pc := 0) o dX12_bits_0 ic_0 ?_
  refine x_istore_n (pc := 1) o dX12_bits_1 rfl hn1 ?_
  refine x_iload_n (pc := 2) o dX12_bits_2 rfl rfl ?_
  refine x_istore_n (pc := 3) o dX12_bits_3 rfl hn2 ?_
  obtain ⟨z4, hz4, h⟩ := xbs h
  refine x_to (l := [(1, .int ((0 : Int32))), (2, .int a0)]) ⟨rfl, rfl, trivial⟩ ?_
  refine tX12_bits_L4 o hnL n S z4 ?_ n ((0 : Int32)) a0 hz4
  refine x_iload_n (pc := 20) o dX12_bits_20 rfl rfl ?_
  exact x_ireturn (pc := 21) o hr dX12_bits_21 (Option.some.inj h) rfl
def fX12_bestHand_L5b (n : Nat) (k0 : Nat) (a1 : Int32) (a2 : Int32) (S : xSt) (rec : Int32 → Int32 → Option (Int32)) (a3 : Int32) (a4 : Int32) : Option (Int32) :=
  (xgF tM 12 20 k0 S).bind fun r1 =>
  (xgI tM 12 13 k0 S).bind fun v2 =>
  (xal tM r1 v2 S).bind fun v3 =>
  if v3 ≤ a4 then
  (some a3)
else
  ((xgI tM 12 74 k0 S).bind fun v4 =>
  (fX12_has2 v4 a4 S).bind fun v5 =>
  if v5 = 0 then
  (if a3 = ((-1 : Int32)) then
  ((some (a4 + (1 : Int32))).bind fun v7 =>
  rec a4 v7)
else
  ((fX12_knownIn k0 a1 a4 a2 S).bind fun v8 =>
  (fX12_knownIn k0 a1 a3 a2 S).bind fun v9 =>
  if v8 ≤ v9 then
  ((some (a4 + (1 : Int32))).bind fun v10 =>
  rec a3 v10)
else
  ((some (a4 + (1 : Int32))).bind fun v11 =>
  rec a4 v11)))
else
  ((some (a4 + (1 : Int32))).bind fun v6 =>
  rec a3 v6))
def fX12_bestHand_L5 (n : Nat) (k0 : Nat) (a1 : Int32) (a2 : Int32) (S : xSt) : Nat → Int32 → Int32 → Option (Int32)
  | 0 => fun _ _ => none
  | q + 1 => fX12_bestHand_L5b n k0 a1 a2 S (fX12_bestHand_L5 n k0 a1 a2 S q)
set_option maxHeartbeats 4000000 in
theorem tX12_bestHand_L5b {Γ : xGm} {M : xMg} (o : xOk Γ tM M 2 cX12_bestHand RX12) (hnL : Γ.2.2.2 = 5) {rec : Int32 → Int32 → Option (Int32)} (n : Nat) (k0 : Nat) (a1 : Int32) (a2 : Int32) (S : xSt) (a3 : Int32) (a4 : Int32) (z : (Int32)) (hrec : ∀ (a3 : Int32) (a4 : Int32), rec a3 a4 = some z → xAt Γ tM M 5 (xlv [(0, .ref (M.2.1 k0)), (1, .int a1), (2, .int a2), (3, .int a3), (4, .int a4)]) [] S) (K : xAt Γ tM M 63 (xlv [(3, .int z)]) [] S) (h : fX12_bestHand_L5b n k0 a1 a2 S rec a3 a4 = some z) : xAt Γ tM M 5 (xlv [(0, .ref (M.2.1 k0)), (1, .int a1), (2, .int a2), (3, .int a3), (4, .int a4)]) [] S := by
  have hn3 : 3 < Γ.2.2.2 := by omega
  have hn4 : 4 < Γ.2.2.2 := by omega
  unfold fX12_bestHand_L5b at h
  refine x_iload (pc := 5) o dX12_bestHand_5 rfl ?_
  refine x_aload_n (pc := 7) o dX12_bestHand_7 rfl rfl ?_
  obtain ⟨r1, hr1, h⟩ := xbs h
  refine gX12_72 (pc := 8) o dX12_bestHand_8 hr1 ?_
  refine x_aload_n (pc := 11) o dX12_bestHand_11 rfl rfl ?_
  obtain ⟨v2, hv2, h⟩ := xbs h
  refine gX12_51 (pc := 12) o dX12_bestHand_12 hv2 ?_
  obtain ⟨v3, hv3, h⟩ := xbs h
  refine x_iaload (pc := 15) o dX12_bestHand_15 hv3 ?_
  refine x_icmp_ge (pc := 16) (tgt := 63) o dX12_bestHand_16 (by decide) (fun c15 => ?_) (fun c15 => ?_)
  · have h := xit h c15
    refine x_to (l := [(3, .int a3)]) ⟨rfl, trivial⟩ ?_
    cases Option.some.inj h
    exact K
  · have h := xif h c15
    refine x_aload_n (pc := 19) o dX12_bestHand_19 rfl rfl ?_
    obtain ⟨v4, hv4, h⟩ := xbs h
    refine gX12_237 (pc := 20) o dX12_bestHand_20 hv4 ?_
    refine x_iload (pc := 23) o dX12_bestHand_23 rfl ?_
    obtain ⟨v5, hv5, h⟩ := xbs h
    refine x_statI (pc := 25) (As := [.int v4, .int a4]) (rest := []) o (tX12_has2 _ M _ v4 a4 S v5 hv5) eX12_has2 mX12_421 (by decide) rfl rfl (Nat.le_of_ble_eq_true rfl) dX12_bestHand_25 ?_
    refine x_if_ne (pc := 28) (tgt := 57) o dX12_bestHand_28 (by decide) (fun c14 => ?_) (fun c14 => ?_)
    · have h := xif h c14
      obtain ⟨v6, hv6, h⟩ := xbs h
      refine x_iincE (pc := 57) o dX12_bestHand_57 rfl ic_1 hn4 hv6 ?_
      refine x_goto (pc := 60) (tgt := 5) o dX12_bestHand_60 (by decide) ?_
      refine x_to (l := [(0, .ref (M.2.1 k0)), (1, .int a1), (2, .int a2), (3, .int a3), (4, .int v6)]) ⟨rfl, rfl, rfl, rfl, rfl, trivial⟩ ?_
      exact hrec a3 v6 h
    · have h := xit h c14
      refine x_iload_n (pc := 31) o dX12_bestHand_31 rfl rfl ?_
      refine x_iconst (pc := 32) o dX12_bestHand_32 ic_m1 ?_
      refine x_icmp_eq (pc := 33) (tgt := 54) o dX12_bestHand_33 (by decide) (fun c13 => ?_) (fun c13 => ?_)
      · have h := xit h c13
        refine x_iload (pc := 54) o dX12_bestHand_54 rfl ?_
        refine x_istore_n (pc := 56) o dX12_bestHand_56 rfl hn3 ?_
        obtain ⟨v7, hv7, h⟩ := xbs h
        refine x_iincE (pc := 57) o dX12_bestHand_57 rfl ic_1 hn4 hv7 ?_
        refine x_goto (pc := 60) (tgt := 5) o dX12_bestHand_60 (by decide) ?_
        refine x_to (l := [(0, .ref (M.2.1 k0)), (1, .int a1), (2, .int a2), (3, .int a4), (4, .int v7)]) ⟨rfl, rfl, rfl, rfl, rfl, trivial⟩ ?_
        exact hrec a4 v7 h
      · have h := xif h c13
        refine x_aload_n (pc := 36) o dX12_bestHand_36 rfl rfl ?_
        refine x_iload_n (pc := 37) o dX12_bestHand_37 rfl rfl ?_
        refine x_iload (pc := 38) o dX12_bestHand_38 rfl ?_
        refine x_iload_n (pc := 40) o dX12_bestHand_40 rfl rfl ?_
        obtain ⟨v8, hv8, h⟩ := xbs h
        refine x_callI (pc := 41) (As := [.int a1, .int a4, .int a2]) (b := k0) (rest := []) o (tX12_knownIn _ M _ k0 a1 a4 a2 S v8 hv8) eX12_knownIn mX12_530 clX12 (kX12_knownIn hv8) (by decide) rfl rfl (Nat.le_of_ble_eq_true rfl) dX12_bestHand_41 ?_
        refine x_aload_n (pc := 44) o dX12_bestHand_44 rfl rfl ?_
        refine x_iload_n (pc := 45) o dX12_bestHand_45 rfl rfl ?_
        refine x_iload_n (pc := 46) o dX12_bestHand_46 rfl rfl ?_
        refine x_iload_n (pc := 47) o dX12_bestHand_47 rfl rfl ?_
        obtain ⟨v9, hv9, h⟩ := xbs h
        refine x_callI (pc := 48) (As := [.int a1, .int a3, .int a2]) (b := k0) (rest := [.int v8]) o (tX12_knownIn _ M _ k0 a1 a3 a2 S v9 hv9) eX12_knownIn mX12_530 clX12 (kX12_knownIn hv9) (by decide) rfl rfl (Nat.le_of_ble_eq_true rfl) dX12_bestHand_48 ?_
        refine x_icmp_le (pc := 51) (tgt := 57) o dX12_bestHand_51 (by decide) (fun c12 => ?_) (fun c12 => ?_)
        · have h := xit h c12
          obtain ⟨v10, hv10, h⟩ := xbs h
          refine x_iincE (pc := 57) o dX12_bestHand_57 rfl ic_1 hn4 hv10 ?_
          refine x_goto (pc := 60) (tgt := 5) o dX12_bestHand_60 (by decide) ?_
          refine x_to (l := [(0, .ref (M.2.1 k0)), (1, .int a1), (2, .int a2), (3, .int a3), (4, .int v10)]) ⟨rfl, rfl, rfl, rfl, rfl, trivial⟩ ?_
          exact hrec a3 v10 h
        · have h := xif h c12
          refine x_iload (pc := 54) o dX12_bestHand_54 rfl ?_
          refine x_istore_n (pc := 56) o dX12_bestHand_56 rfl hn3 ?_
          obtain ⟨v11, hv11, h⟩ := xbs h
          refine x_iincE (pc := 57) o dX12_bestHand_57 rfl ic_1 hn4 hv11 ?_
          refine x_goto (pc := 60) (tgt := 5) o dX12_bestHand_60 (by decide) ?_
          refine x_to (l := [(0, .ref (M.2.1 k0)), (1, .int a1), (2, .int a2), (3, .int a4), (4, .int v11)]) ⟨rfl, rfl, rfl, rfl, rfl, trivial⟩ ?_
          exact hrec a4 v11 h
theorem tX12_bestHand_L5 {Γ : xGm} {M : xMg} (o : xOk Γ tM M 2 cX12_bestHand RX12) (hnL : Γ.2.2.2 = 5) (n : Nat) (k0 : Nat) (a1 : Int32) (a2 : Int32) (S : xSt) (z : (Int32)) (K : xAt Γ tM M 63 (xlv [(3, .int z)]) [] S) : ∀ (q : Nat) (a3 : Int32) (a4 : Int32), fX12_bestHand_L5 n k0 a1 a2 S q a3 a4 = some z → xAt Γ tM M 5 (xlv [(0, .ref (M.2.1 k0)), (1, .int a1), (2, .int a2), (3, .int a3), (4, .int a4)]) [] S := by
  intro q
  induction q with
  | zero => intro a3 a4 h; cases h
  | succ q ih => intro a3 a4 h; exact tX12_bestHand_L5b o hnL n k0 a1 a2 S a3 a4 z ih K h
def fX12_bestHand (n : Nat) (k0 : Nat) (a1 : Int32) (a2 : Int32) (S : xSt) : Option (Int32) :=
  if tM.1 k0 = 12 then
  ((fX12_bestHand_L5 n k0 a1 a2 S n ((-1 : Int32)) ((0 : Int32))).bind fun z16 => some z16)
  else none
theorem kX12_bestHand {z : Int32} {n : Nat} {k0 : Nat} {a1 : Int32} {a2 : Int32} {S : xSt} (h : fX12_bestHand n k0 a1 a2 S = some z) : tM.1 k0 = 12 := by
  unfold fX12_bestHand at h
  exact (xck h).1
set_option maxHeartbeats 4000000 in
theorem tX12_bestHand (l : Launch) (M : xMg) (A : Nat → Prop) (n : Nat) (k0 : Nat) (a1 : Int32) (a2 : Int32) (S : xSt) (z : Int32) (h : fX12_bestHand n k0 a1 a2 S = some z) : xMI l yX12_bestHand cX12_bestHand 5 (some .int) 2 tM M A [.ref (M.2.1 k0), .int a1, .int a2] S z S := by
  refine x_metI (plainFor_of_name (by decide)) tM_ok (Nat.le_of_ble_eq_true rfl) (fun Γ hA hnL hl hr o => ?_)
  subst hA; subst hl
  have o : xOk Γ tM M 2 cX12_bestHand RX12 := o
  unfold fX12_bestHand at h
  obtain ⟨hk0, h⟩ := xck h
  refine x_to (l := [(0, .ref (M.2.1 k0)), (1, .int a1), (2, .int a2)]) ⟨rfl, rfl, rfl, trivial⟩ ?_
  have hn3 : 3 < Γ.2.2.2 := by omega
  have hn4 : 4 < Γ.2.2.2 := by omega
  refine x_iconst (pc := 0) o dX12_bestHand_0 ic_m1 ?_
  refine x_istore_n (pc := 1) o dX12_bestHand_1 rfl hn3 ?_
  refine x_iconst (pc := 2) o dX12_bestHand_2 ic_0 ?_
  refine x_istore (pc := 3) o dX12_bestHand_3 hn4 ?_
  obtain ⟨z16, hz16, h⟩ := xbs h
  refine x_to (l := [(0, .ref (M.2.1 k0)), (1, .int a1), (2, .int a2), (3, .int ((-1 : Int32))), (4, .int ((0 : Int32)))]) ⟨rfl, rfl, rfl, rfl, rfl, trivial⟩ ?_
  refine tX12_bestHand_L5 o hnL n k0 a1 a2 S z16 ?_ n ((-1 : Int32)) ((0 : Int32)) hz16
  refine x_iload_n (pc := 63) o dX12_bestHand_63 rfl rfl ?_
  exact x_ireturn (pc := 64) o hr dX12_bestHand_64 (Option.some.inj h) rfl
def fX12_isAllowed_B59 (n : Nat) (k0 : Nat) (s0 : Nat) (s1 : Int32) (s2 : Int32) (S : xSt) : Option (Int32 × xSt) :=
  (xas tM s0 s1 s2 S).bind fun S5 =>
  (xgF tM 12 68 k0 S5).bind fun r6 =>
  (xgI tM 12 73 k0 S5).bind fun v7 =>
  (fX12_bits n v7 S5).bind fun v8 =>
  (xas tM r6 ((8 : Int32)) v8 S5).bind fun S9 =>
  (fX12_reckons n k0 ((1 : Int32)) S9).bind fun q10 =>
  if (lg_cmp q10.1 ((1 : Int64))) = 0 then
  (some ((1 : Int32), q10.2))
else
  (some ((0 : Int32), q10.2))
set_option maxHeartbeats 4000000 in
theorem tX12_isAllowed_B59 {Γ : xGm} {M : xMg} (o : xOk Γ tM M 5 cX12_isAllowed RX12) (hnL : Γ.2.2.2 = 5) (n : Nat) (k0 : Nat) (s0 : Nat) (s1 : Int32) (s2 : Int32) (S : xSt) (z : (Int32 × xSt)) (hr : xRI Γ tM M (some .boolean) z.1 z.2) (h : fX12_isAllowed_B59 n k0 s0 s1 s2 S = some z) : xAt Γ tM M 59 (xlv [(0, .ref (M.2.1 k0))]) [.int s2, .int s1, .ref (M.2.1 s0)] S := by
  unfold fX12_isAllowed_B59 at h
  obtain ⟨S5, hS5, h⟩ := xbs h
  refine x_iastore (pc := 59) o dX12_isAllowed_59 hS5 ?_
  refine x_aload_n (pc := 60) o dX12_isAllowed_60 rfl rfl ?_
  obtain ⟨r6, hr6, h⟩ := xbs h
  refine gX12_219 (pc := 61) o dX12_isAllowed_61 hr6 ?_
  refine x_bipush (pc := 64) o dX12_isAllowed_64 bp_8 ?_
  refine x_aload_n (pc := 66) o dX12_isAllowed_66 rfl rfl ?_
  obtain ⟨v7, hv7, h⟩ := xbs h
  refine gX12_234 (pc := 67) o dX12_isAllowed_67 hv7 ?_
  obtain ⟨v8, hv8, h⟩ := xbs h
  refine x_statI (pc := 70) (As := [.int v7]) (rest := [.int ((8 : Int32)), .ref (M.2.1 r6)]) o (tX12_bits _ M _ n v7 S5 v8 hv8) eX12_bits mX12_547 (by decide) rfl rfl (Nat.le_of_ble_eq_true rfl) dX12_isAllowed_70 ?_
  obtain ⟨S9, hS9, h⟩ := xbs h
  refine x_iastore (pc := 73) o dX12_isAllowed_73 hS9 ?_
  refine x_aload_n (pc := 74) o dX12_isAllowed_74 rfl rfl ?_
  refine x_iconst (pc := 75) o dX12_isAllowed_75 ic_1 ?_
  obtain ⟨q10, hq10, h⟩ := xbs h
  refine x_callL (pc := 76) (As := [.int ((1 : Int32))]) (b := k0) (rest := []) o (tX12_reckons _ M _ n k0 ((1 : Int32)) S9 q10 hq10) eX12_reckons mX12_550 clX12 (kX12_reckons hq10) (by decide) rfl rfl (Nat.le_of_ble_eq_true rfl) dX12_isAllowed_76 ?_
  refine x_lconst (pc := 79) (v := 1) o dX12_isAllowed_79 rfl ?_
  refine x_lcmp (pc := 80) o dX12_isAllowed_80 ?_
  refine x_if_ne (pc := 81) (tgt := 88) o dX12_isAllowed_81 (by decide) (fun c11 => ?_) (fun c11 => ?_)
  · have h := xif h c11
    refine x_iconst (pc := 88) o dX12_isAllowed_88 ic_0 ?_
    exact x_zreturn (pc := 89) o hr dX12_isAllowed_89 (by decide) (xr1 h) (xr2 h)
  · have h := xit h c11
    refine x_iconst (pc := 84) o dX12_isAllowed_84 ic_1 ?_
    refine x_goto (pc := 85) (tgt := 89) o dX12_isAllowed_85 (by decide) ?_
    exact x_zreturn (pc := 89) o hr dX12_isAllowed_89 (by decide) (xr1 h) (xr2 h)
def fX12_isAllowed (n : Nat) (k0 : Nat) (a1 : Int32) (a2 : Int32) (a3 : Int32) (a4 : Int32) (S : xSt) : Option (Int32 × xSt) :=
  if tM.1 k0 = 12 then
  ((fX12_isTold k0 ((1 : Int32)) S).bind fun v1 =>
  if v1 = 0 then
  ((fX12_kindOfTool k0 a3 S).bind fun v13 =>
  (xgF tM 12 54 k0 S).bind fun r14 =>
  (xal tM r14 a1 S).bind fun v15 =>
  (fX12_isRestDay k0 v13 v15 S).bind fun v16 =>
  if v16 = 0 then
  (some ((1 : Int32), S))
else
  (some ((0 : Int32), S)))
else
  ((fX12_tells k0 a1 a2 a3 a4 S).bind fun S2 =>
  (xgF tM 12 68 k0 S2).bind fun r3 =>
  (xgI tM 12 75 k0 S2).bind fun v4 =>
  if v4 = 0 then
  (fX12_isAllowed_B59 n k0 r3 ((7 : Int32)) ((0 : Int32)) S2)
else
  (fX12_isAllowed_B59 n k0 r3 ((7 : Int32)) ((1 : Int32)) S2)))
  else none
theorem kX12_isAllowed {z : Int32 × xSt} {n : Nat} {k0 : Nat} {a1 : Int32} {a2 : Int32} {a3 : Int32} {a4 : Int32} {S : xSt} (h : fX12_isAllowed n k0 a1 a2 a3 a4 S = some z) : tM.1 k0 = 12 := by
  unfold fX12_isAllowed at h
  exact (xck h).1
set_option maxHeartbeats 4000000 in
theorem tX12_isAllowed (l : Launch) (M : xMg) (A : Nat → Prop) (n : Nat) (k0 : Nat) (a1 : Int32) (a2 : Int32) (a3 : Int32) (a4 : Int32) (S : xSt) (z : Int32 × xSt) (h : fX12_isAllowed n k0 a1 a2 a3 a4 S = some z) : xMI l yX12_isAllowed cX12_isAllowed 5 (some .boolean) 5 tM M A [.ref (M.2.1 k0), .int a1, .int a2, .int a3, .int a4] S z.1 z.2 := by
  refine x_metI (plainFor_of_name (by decide)) tM_ok (Nat.le_of_ble_eq_true rfl) (fun Γ hA hnL hl hr o => ?_)
  subst hA; subst hl
  have o : xOk Γ tM M 5 cX12_isAllowed RX12 := o
  unfold fX12_isAllowed at h
  obtain ⟨hk0, h⟩ := xck h
  refine x_to (l := [(0, .ref (M.2.1 k0)), (1, .int a1), (2, .int a2), (3, .int a3), (4, .int a4)]) ⟨rfl, rfl, rfl, rfl, rfl, trivial⟩ ?_
  refine x_aload_n (pc := 0) o dX12_isAllowed_0 rfl rfl ?_
  refine x_iconst (pc := 1) o dX12_isAllowed_1 ic_1 ?_
  obtain ⟨v1, hv1, h⟩ := xbs h
  refine x_callI (pc := 2) (As := [.int ((1 : Int32))]) (b := k0) (rest := []) o (tX12_isTold _ M _ k0 ((1 : Int32)) S v1 hv1) eX12_isTold mX12_540 clX12 (kX12_isTold hv1) (by decide) rfl rfl (Nat.le_of_ble_eq_true rfl) dX12_isAllowed_2 ?_
  refine x_if_ne (pc := 5) (tgt := 32) o dX12_isAllowed_5 (by decide) (fun c18 => ?_) (fun c18 => ?_)
  · have h := xif h c18
    refine x_aload_n (pc := 32) o dX12_isAllowed_32 rfl rfl ?_
    refine x_iload_n (pc := 33) o dX12_isAllowed_33 rfl rfl ?_
    refine x_iload_n (pc := 34) o dX12_isAllowed_34 rfl rfl ?_
    refine x_iload_n (pc := 35) o dX12_isAllowed_35 rfl rfl ?_
    refine x_iload (pc := 36) o dX12_isAllowed_36 rfl ?_
    obtain ⟨S2, hS2, h⟩ := xbs h
    refine x_callV (pc := 38) (As := [.int a1, .int a2, .int a3, .int a4]) (b := k0) (rest := []) o (tX12_tells _ M _ k0 a1 a2 a3 a4 S S2 hS2) eX12_tells mX12_543 clX12 (kX12_tells hS2) (by decide) rfl rfl (Nat.le_of_ble_eq_true rfl) dX12_isAllowed_38 ?_
    refine x_aload_n (pc := 41) o dX12_isAllowed_41 rfl rfl ?_
    obtain ⟨r3, hr3, h⟩ := xbs h
    refine gX12_219 (pc := 42) o dX12_isAllowed_42 hr3 ?_
    refine x_bipush (pc := 45) o dX12_isAllowed_45 bp_7 ?_
    refine x_aload_n (pc := 47) o dX12_isAllowed_47 rfl rfl ?_
    obtain ⟨v4, hv4, h⟩ := xbs h
    refine gX12_240 (pc := 48) o dX12_isAllowed_48 hv4 ?_
    refine x_if_eq (pc := 51) (tgt := 58) o dX12_isAllowed_51 (by decide) (fun c12 => ?_) (fun c12 => ?_)
    · have h := xit h c12
      refine x_iconst (pc := 58) o dX12_isAllowed_58 ic_0 ?_
      refine x_to (l := [(0, .ref (M.2.1 k0))]) ⟨rfl, trivial⟩ ?_
      exact tX12_isAllowed_B59 o hnL n k0 r3 ((7 : Int32)) ((0 : Int32)) S2 z hr h
    · have h := xif h c12
      refine x_iconst (pc := 54) o dX12_isAllowed_54 ic_1 ?_
      refine x_goto (pc := 55) (tgt := 59) o dX12_isAllowed_55 (by decide) ?_
      refine x_to (l := [(0, .ref (M.2.1 k0))]) ⟨rfl, trivial⟩ ?_
      exact tX12_isAllowed_B59 o hnL n k0 r3 ((7 : Int32)) ((1 : Int32)) S2 z hr h
  · have h := xit h c18
    refine x_aload_n (pc := 8) o dX12_isAllowed_8 rfl rfl ?_
    refine x_aload_n (pc := 9) o dX12_isAllowed_9 rfl rfl ?_
    refine x_iload_n (pc := 10) o dX12_isAllowed_10 rfl rfl ?_
    obtain ⟨v13, hv13, h⟩ := xbs h
    refine x_callI (pc := 11) (As := [.int a3]) (b := k0) (rest := [.ref (M.2.1 k0)]) o (tX12_kindOfTool _ M _ k0 a3 S v13 hv13) eX12_kindOfTool mX12_524 clX12 (kX12_kindOfTool hv13) (by decide) rfl rfl (Nat.le_of_ble_eq_true rfl) dX12_isAllowed_11 ?_
    refine x_aload_n (pc := 14) o dX12_isAllowed_14 rfl rfl ?_
    obtain ⟨r14, hr14, h⟩ := xbs h
    refine gX12_177 (pc := 15) o dX12_isAllowed_15 hr14 ?_
    refine x_iload_n (pc := 18) o dX12_isAllowed_18 rfl rfl ?_
    obtain ⟨v15, hv15, h⟩ := xbs h
    refine x_iaload (pc := 19) o dX12_isAllowed_19 hv15 ?_
    obtain ⟨v16, hv16, h⟩ := xbs h
    refine x_callI (pc := 20) (As := [.int v13, .int v15]) (b := k0) (rest := []) o (tX12_isRestDay _ M _ k0 v13 v15 S v16 hv16) eX12_isRestDay mX12_527 clX12 (kX12_isRestDay hv16) (by decide) rfl rfl (Nat.le_of_ble_eq_true rfl) dX12_isAllowed_20 ?_
    refine x_if_ne (pc := 23) (tgt := 30) o dX12_isAllowed_23 (by decide) (fun c17 => ?_) (fun c17 => ?_)
    · have h := xif h c17
      refine x_iconst (pc := 30) o dX12_isAllowed_30 ic_0 ?_
      exact x_zreturn (pc := 31) o hr dX12_isAllowed_31 (by decide) (xr1 h) (xr2 h)
    · have h := xit h c17
      refine x_iconst (pc := 26) o dX12_isAllowed_26 ic_1 ?_
      refine x_goto (pc := 27) (tgt := 31) o dX12_isAllowed_27 (by decide) ?_
      exact x_zreturn (pc := 31) o hr dX12_isAllowed_31 (by decide) (xr1 h) (xr2 h)
def fX12_bestTool_B113_5 (n : Nat) (rec : Int32 → Int32 → xSt → Option (Int32 × xSt)) (k0 : Nat) (a1 : Int32) (a2 : Int32) (a3 : Int32) (a4 : Int32) (S : xSt) : Option (Int32 × xSt) :=
  (fX12_bestHand n k0 a1 a4 S).bind fun v17 =>
  (fX12_isAllowed n k0 a1 a2 a4 v17 S).bind fun q18 =>
  if q18.1 = 0 then
  ((some (a4 + (1 : Int32))).bind fun v19 =>
  rec a3 v19 q18.2)
else
  ((some (a4 + (1 : Int32))).bind fun v20 =>
  rec a4 v20 q18.2)
set_option maxHeartbeats 4000000 in
theorem tX12_bestTool_B113_5 {Γ : xGm} {M : xMg} (o : xOk Γ tM M 6 cX12_bestTool RX12) (hnL : Γ.2.2.2 = 5) {rec : Int32 → Int32 → xSt → Option (Int32 × xSt)} (n : Nat) (k0 : Nat) (a1 : Int32) (a2 : Int32) (a3 : Int32) (a4 : Int32) (S : xSt) (z : (Int32 × xSt)) (hrec : ∀ (a3 : Int32) (a4 : Int32) (S : xSt), rec a3 a4 S = some z → xAt Γ tM M 5 (xlv [(0, .ref (M.2.1 k0)), (1, .int a1), (2, .int a2), (3, .int a3), (4, .int a4)]) [] S) (K : xAt Γ tM M 140 (xlv [(3, .int z.1)]) [] z.2) (h : fX12_bestTool_B113_5 n rec k0 a1 a2 a3 a4 S = some z) : xAt Γ tM M 113 (xlv [(0, .ref (M.2.1 k0)), (1, .int a1), (2, .int a2), (3, .int a3), (4, .int a4)]) [] S := by
  have hn3 : 3 < Γ.2.2.2 := by omega
  have hn4 : 4 < Γ.2.2.2 := by omega
  unfold fX12_bestTool_B113_5 at h
  refine x_aload_n (pc := 113) o dX12_bestTool_113 rfl rfl ?_
  refine x_iload_n (pc := 114) o dX12_bestTool_114 rfl rfl ?_
  refine x_iload_n (pc := 115) o dX12_bestTool_115 rfl rfl ?_
  refine x_iload (pc := 116) o dX12_bestTool_116 rfl ?_
  refine x_aload_n (pc := 118) o dX12_bestTool_118 rfl rfl ?_
  refine x_iload_n (pc := 119) o dX12_bestTool_119 rfl rfl ?_
  refine x_iload (pc := 120) o dX12_bestTool_120 rfl ?_
  obtain ⟨v17, hv17, h⟩ := xbs h
  refine x_callI (pc := 122) (As := [.int a1, .int a4]) (b := k0) (rest := [.int a4, .int a2, .int a1, .ref (M.2.1 k0)]) o (tX12_bestHand _ M _ n k0 a1 a4 S v17 hv17) eX12_bestHand mX12_554 clX12 (kX12_bestHand hv17) (by decide) rfl rfl (Nat.le_of_ble_eq_true rfl) dX12_bestTool_122 ?_
  obtain ⟨q18, hq18, h⟩ := xbs h
  refine x_callI (pc := 125) (As := [.int a1, .int a2, .int a4, .int v17]) (b := k0) (rest := []) o (tX12_isAllowed _ M _ n k0 a1 a2 a4 v17 S q18 hq18) eX12_isAllowed mX12_557 clX12 (kX12_isAllowed hq18) (by decide) rfl rfl (Nat.le_of_ble_eq_true rfl) dX12_bestTool_125 ?_
  refine x_if_eq (pc := 128) (tgt := 134) o dX12_bestTool_128 (by decide) (fun c21 => ?_) (fun c21 => ?_)
  · have h := xit h c21
    obtain ⟨v19, hv19, h⟩ := xbs h
    refine x_iincE (pc := 134) o dX12_bestTool_134 rfl ic_1 hn4 hv19 ?_
    refine x_goto (pc := 137) (tgt := 5) o dX12_bestTool_137 (by decide) ?_
    refine x_to (l := [(0, .ref (M.2.1 k0)), (1, .int a1), (2, .int a2), (3, .int a3), (4, .int v19)]) ⟨rfl, rfl, rfl, rfl, rfl, trivial⟩ ?_
    exact hrec a3 v19 q18.2 h
  · have h := xif h c21
    refine x_iload (pc := 131) o dX12_bestTool_131 rfl ?_
    refine x_istore_n (pc := 133) o dX12_bestTool_133 rfl hn3 ?_
    obtain ⟨v20, hv20, h⟩ := xbs h
    refine x_iincE (pc := 134) o dX12_bestTool_134 rfl ic_1 hn4 hv20 ?_
    refine x_goto (pc := 137) (tgt := 5) o dX12_bestTool_137 (by decide) ?_
    refine x_to (l := [(0, .ref (M.2.1 k0)), (1, .int a1), (2, .int a2), (3, .int a4), (4, .int v20)]) ⟨rfl, rfl, rfl, rfl, rfl, trivial⟩ ?_
    exact hrec a4 v20 q18.2 h
def fX12_bestTool_L5b (n : Nat) (k0 : Nat) (a1 : Int32) (a2 : Int32) (rec : Int32 → Int32 → xSt → Option (Int32 × xSt)) (a3 : Int32) (a4 : Int32) (S : xSt) : Option (Int32 × xSt) :=
  (xgF tM 12 17 k0 S).bind fun r1 =>
  (xgI tM 12 13 k0 S).bind fun v2 =>
  (xal tM r1 v2 S).bind fun v3 =>
  if v3 ≤ a4 then
  (some (a3, S))
else
  ((fX12_kindOfTool k0 a4 S).bind fun v4 =>
  (xgF tM 12 25 k0 S).bind fun r5 =>
  (fX12_step k0 a1 a2 S).bind fun v6 =>
  (xal tM r5 v6 S).bind fun v7 =>
  if v4 = v7 then
  ((xgF tM 12 57 k0 S).bind fun r9 =>
  (xal tM r9 a1 S).bind fun v10 =>
  (xgF tM 12 58 k0 S).bind fun r11 =>
  (xal tM r11 a1 S).bind fun v12 =>
  (xgI tM 12 73 k0 S).bind fun v13 =>
  (fX12_has2 ((v10 ||| v12) ||| v13) a4 S).bind fun v14 =>
  if v14 = 0 then
  ((fX12_bestHand n k0 a1 a4 S).bind fun v16 =>
  if v16 = ((-1 : Int32)) then
  ((some (a4 + (1 : Int32))).bind fun v29 =>
  rec a3 v29 S)
else
  (if a3 = ((-1 : Int32)) then
  (fX12_bestTool_B113_5 n rec k0 a1 a2 a3 a4 S)
else
  ((xgF tM 12 56 k0 S).bind fun r22 =>
  (xal tM r22 ((((8 : Int32)) * a1) + a4) S).bind fun v23 =>
  (xgF tM 12 56 k0 S).bind fun r24 =>
  (xal tM r24 ((((8 : Int32)) * a1) + a3) S).bind fun v25 =>
  if v23 < v25 then
  (fX12_bestTool_B113_5 n rec k0 a1 a2 a3 a4 S)
else
  ((some (a4 + (1 : Int32))).bind fun v26 =>
  rec a3 v26 S))))
else
  ((some (a4 + (1 : Int32))).bind fun v15 =>
  rec a3 v15 S))
else
  ((some (a4 + (1 : Int32))).bind fun v8 =>
  rec a3 v8 S))
def fX12_bestTool_L5 (n : Nat) (k0 : Nat) (a1 : Int32) (a2 : Int32) : Nat → Int32 → Int32 → xSt → Option (Int32 × xSt)
  | 0 => fun _ _ _ => none
  | q + 1 => fX12_bestTool_L5b n k0 a1 a2 (fX12_bestTool_L5 n k0 a1 a2 q)
set_option maxHeartbeats 4000000 in
theorem tX12_bestTool_L5b {Γ : xGm} {M : xMg} (o : xOk Γ tM M 6 cX12_bestTool RX12) (hnL : Γ.2.2.2 = 5) {rec : Int32 → Int32 → xSt → Option (Int32 × xSt)} (n : Nat) (k0 : Nat) (a1 : Int32) (a2 : Int32) (a3 : Int32) (a4 : Int32) (S : xSt) (z : (Int32 × xSt)) (hrec : ∀ (a3 : Int32) (a4 : Int32) (S : xSt), rec a3 a4 S = some z → xAt Γ tM M 5 (xlv [(0, .ref (M.2.1 k0)), (1, .int a1), (2, .int a2), (3, .int a3), (4, .int a4)]) [] S) (K : xAt Γ tM M 140 (xlv [(3, .int z.1)]) [] z.2) (h : fX12_bestTool_L5b n k0 a1 a2 rec a3 a4 S = some z) : xAt Γ tM M 5 (xlv [(0, .ref (M.2.1 k0)), (1, .int a1), (2, .int a2), (3, .int a3), (4, .int a4)]) [] S := by
  have hn4 : 4 < Γ.2.2.2 := by omega
  unfold fX12_bestTool_L5b at h
  refine x_iload (pc := 5) o dX12_bestTool_5 rfl ?_
  refine x_aload_n (pc := 7) o dX12_bestTool_7 rfl rfl ?_
  obtain ⟨r1, hr1, h⟩ := xbs h
  refine gX12_63 (pc := 8) o dX12_bestTool_8 hr1 ?_
  refine x_aload_n (pc := 11) o dX12_bestTool_11 rfl rfl ?_
  obtain ⟨v2, hv2, h⟩ := xbs h
  refine gX12_51 (pc := 12) o dX12_bestTool_12 hv2 ?_
  obtain ⟨v3, hv3, h⟩ := xbs h
  refine x_iaload (pc := 15) o dX12_bestTool_15 hv3 ?_
  refine x_icmp_ge (pc := 16) (tgt := 140) o dX12_bestTool_16 (by decide) (fun c33 => ?_) (fun c33 => ?_)
  · have h := xit h c33
    refine x_to (l := [(3, .int a3)]) ⟨rfl, trivial⟩ ?_
    cases Option.some.inj h
    exact K
  · have h := xif h c33
    refine x_aload_n (pc := 19) o dX12_bestTool_19 rfl rfl ?_
    refine x_iload (pc := 20) o dX12_bestTool_20 rfl ?_
    obtain ⟨v4, hv4, h⟩ := xbs h
    refine x_callI (pc := 22) (As := [.int a4]) (b := k0) (rest := []) o (tX12_kindOfTool _ M _ k0 a4 S v4 hv4) eX12_kindOfTool mX12_524 clX12 (kX12_kindOfTool hv4) (by decide) rfl rfl (Nat.le_of_ble_eq_true rfl) dX12_bestTool_22 ?_
    refine x_aload_n (pc := 25) o dX12_bestTool_25 rfl rfl ?_
    obtain ⟨r5, hr5, h⟩ := xbs h
    refine gX12_87 (pc := 26) o dX12_bestTool_26 hr5 ?_
    refine x_aload_n (pc := 29) o dX12_bestTool_29 rfl rfl ?_
    refine x_iload_n (pc := 30) o dX12_bestTool_30 rfl rfl ?_
    refine x_iload_n (pc := 31) o dX12_bestTool_31 rfl rfl ?_
    obtain ⟨v6, hv6, h⟩ := xbs h
    refine x_callI (pc := 32) (As := [.int a1, .int a2]) (b := k0) (rest := [.ref (M.2.1 r5), .int v4]) o (tX12_step _ M _ k0 a1 a2 S v6 hv6) eX12_step mX12_534 clX12 (kX12_step hv6) (by decide) rfl rfl (Nat.le_of_ble_eq_true rfl) dX12_bestTool_32 ?_
    obtain ⟨v7, hv7, h⟩ := xbs h
    refine x_iaload (pc := 35) o dX12_bestTool_35 hv7 ?_
    refine x_icmp_ne (pc := 36) (tgt := 134) o dX12_bestTool_36 (by decide) (fun c32 => ?_) (fun c32 => ?_)
    · have h := xif h c32
      obtain ⟨v8, hv8, h⟩ := xbs h
      refine x_iincE (pc := 134) o dX12_bestTool_134 rfl ic_1 hn4 hv8 ?_
      refine x_goto (pc := 137) (tgt := 5) o dX12_bestTool_137 (by decide) ?_
      refine x_to (l := [(0, .ref (M.2.1 k0)), (1, .int a1), (2, .int a2), (3, .int a3), (4, .int v8)]) ⟨rfl, rfl, rfl, rfl, rfl, trivial⟩ ?_
      exact hrec a3 v8 S h
    · have h := xit h c32
      refine x_aload_n (pc := 39) o dX12_bestTool_39 rfl rfl ?_
      obtain ⟨r9, hr9, h⟩ := xbs h
      refine gX12_186 (pc := 40) o dX12_bestTool_40 hr9 ?_
      refine x_iload_n (pc := 43) o dX12_bestTool_43 rfl rfl ?_
      obtain ⟨v10, hv10, h⟩ := xbs h
      refine x_iaload (pc := 44) o dX12_bestTool_44 hv10 ?_
      refine x_aload_n (pc := 45) o dX12_bestTool_45 rfl rfl ?_
      obtain ⟨r11, hr11, h⟩ := xbs h
      refine gX12_189 (pc := 46) o dX12_bestTool_46 hr11 ?_
      refine x_iload_n (pc := 49) o dX12_bestTool_49 rfl rfl ?_
      obtain ⟨v12, hv12, h⟩ := xbs h
      refine x_iaload (pc := 50) o dX12_bestTool_50 hv12 ?_
      refine x_ior (pc := 51) o dX12_bestTool_51 ?_
      refine x_aload_n (pc := 52) o dX12_bestTool_52 rfl rfl ?_
      obtain ⟨v13, hv13, h⟩ := xbs h
      refine gX12_234 (pc := 53) o dX12_bestTool_53 hv13 ?_
      refine x_ior (pc := 56) o dX12_bestTool_56 ?_
      refine x_iload (pc := 57) o dX12_bestTool_57 rfl ?_
      obtain ⟨v14, hv14, h⟩ := xbs h
      refine x_statI (pc := 59) (As := [.int ((v10 ||| v12) ||| v13), .int a4]) (rest := []) o (tX12_has2 _ M _ ((v10 ||| v12) ||| v13) a4 S v14 hv14) eX12_has2 mX12_421 (by decide) rfl rfl (Nat.le_of_ble_eq_true rfl) dX12_bestTool_59 ?_
      refine x_if_ne (pc := 62) (tgt := 134) o dX12_bestTool_62 (by decide) (fun c31 => ?_) (fun c31 => ?_)
      · have h := xif h c31
        obtain ⟨v15, hv15, h⟩ := xbs h
        refine x_iincE (pc := 134) o dX12_bestTool_134 rfl ic_1 hn4 hv15 ?_
        refine x_goto (pc := 137) (tgt := 5) o dX12_bestTool_137 (by decide) ?_
        refine x_to (l := [(0, .ref (M.2.1 k0)), (1, .int a1), (2, .int a2), (3, .int a3), (4, .int v15)]) ⟨rfl, rfl, rfl, rfl, rfl, trivial⟩ ?_
        exact hrec a3 v15 S h
      · have h := xit h c31
        refine x_aload_n (pc := 65) o dX12_bestTool_65 rfl rfl ?_
        refine x_iload_n (pc := 66) o dX12_bestTool_66 rfl rfl ?_
        refine x_iload (pc := 67) o dX12_bestTool_67 rfl ?_
        obtain ⟨v16, hv16, h⟩ := xbs h
        refine x_callI (pc := 69) (As := [.int a1, .int a4]) (b := k0) (rest := []) o (tX12_bestHand _ M _ n k0 a1 a4 S v16 hv16) eX12_bestHand mX12_554 clX12 (kX12_bestHand hv16) (by decide) rfl rfl (Nat.le_of_ble_eq_true rfl) dX12_bestTool_69 ?_
        refine x_iconst (pc := 72) o dX12_bestTool_72 ic_m1 ?_
        refine x_icmp_ne (pc := 73) (tgt := 79) o dX12_bestTool_73 (by decide) (fun c30 => ?_) (fun c30 => ?_)
        · have h := xif h c30
          refine x_iload_n (pc := 79) o dX12_bestTool_79 rfl rfl ?_
          refine x_iconst (pc := 80) o dX12_bestTool_80 ic_m1 ?_
          refine x_icmp_eq (pc := 81) (tgt := 113) o dX12_bestTool_81 (by decide) (fun c28 => ?_) (fun c28 => ?_)
          · have h := xit h c28
            refine x_to (l := [(0, .ref (M.2.1 k0)), (1, .int a1), (2, .int a2), (3, .int a3), (4, .int a4)]) ⟨rfl, rfl, rfl, rfl, rfl, trivial⟩ ?_
            exact tX12_bestTool_B113_5 o hnL n k0 a1 a2 a3 a4 S z hrec K  h
          · have h := xif h c28
            refine x_aload_n (pc := 84) o dX12_bestTool_84 rfl rfl ?_
            obtain ⟨r22, hr22, h⟩ := xbs h
            refine gX12_183 (pc := 85) o dX12_bestTool_85 hr22 ?_
            refine x_bipush (pc := 88) o dX12_bestTool_88 bp_8 ?_
            refine x_iload_n (pc := 90) o dX12_bestTool_90 rfl rfl ?_
            refine x_imul (pc := 91) o dX12_bestTool_91 ?_
            refine x_iload (pc := 92) o dX12_bestTool_92 rfl ?_
            refine x_iadd (pc := 94) o dX12_bestTool_94 ?_
            obtain ⟨v23, hv23, h⟩ := xbs h
            refine x_iaload (pc := 95) o dX12_bestTool_95 hv23 ?_
            refine x_aload_n (pc := 96) o dX12_bestTool_96 rfl rfl ?_
            obtain ⟨r24, hr24, h⟩ := xbs h
            refine gX12_183 (pc := 97) o dX12_bestTool_97 hr24 ?_
            refine x_bipush (pc := 100) o dX12_bestTool_100 bp_8 ?_
            refine x_iload_n (pc := 102) o dX12_bestTool_102 rfl rfl ?_
            refine x_imul (pc := 103) o dX12_bestTool_103 ?_
            refine x_iload_n (pc := 104) o dX12_bestTool_104 rfl rfl ?_
            refine x_iadd (pc := 105) o dX12_bestTool_105 ?_
            obtain ⟨v25, hv25, h⟩ := xbs h
            refine x_iaload (pc := 106) o dX12_bestTool_106 hv25 ?_
            refine x_icmp_lt (pc := 107) (tgt := 113) o dX12_bestTool_107 (by decide) (fun c27 => ?_) (fun c27 => ?_)
            · have h := xit h c27
              refine x_to (l := [(0, .ref (M.2.1 k0)), (1, .int a1), (2, .int a2), (3, .int a3), (4, .int a4)]) ⟨rfl, rfl, rfl, rfl, rfl, trivial⟩ ?_
              exact tX12_bestTool_B113_5 o hnL n k0 a1 a2 a3 a4 S z hrec K  h
            · have h := xif h c27
              refine x_goto (pc := 110) (tgt := 134) o dX12_bestTool_110 (by decide) ?_
              obtain ⟨v26, hv26, h⟩ := xbs h
              refine x_iincE (pc := 134) o dX12_bestTool_134 rfl ic_1 hn4 hv26 ?_
              refine x_goto (pc := 137) (tgt := 5) o dX12_bestTool_137 (by decide) ?_
              refine x_to (l := [(0, .ref (M.2.1 k0)), (1, .int a1), (2, .int a2), (3, .int a3), (4, .int v26)]) ⟨rfl, rfl, rfl, rfl, rfl, trivial⟩ ?_
              exact hrec a3 v26 S h
        · have h := xit h c30
          refine x_goto (pc := 76) (tgt := 134) o dX12_bestTool_76 (by decide) ?_
          obtain ⟨v29, hv29, h⟩ := xbs h
          refine x_iincE (pc := 134) o dX12_bestTool_134 rfl ic_1 hn4 hv29 ?_
          refine x_goto (pc := 137) (tgt := 5) o dX12_bestTool_137 (by decide) ?_
          refine x_to (l := [(0, .ref (M.2.1 k0)), (1, .int a1), (2, .int a2), (3, .int a3), (4, .int v29)]) ⟨rfl, rfl, rfl, rfl, rfl, trivial⟩ ?_
          exact hrec a3 v29 S h
theorem tX12_bestTool_L5 {Γ : xGm} {M : xMg} (o : xOk Γ tM M 6 cX12_bestTool RX12) (hnL : Γ.2.2.2 = 5) (n : Nat) (k0 : Nat) (a1 : Int32) (a2 : Int32) (z : (Int32 × xSt)) (K : xAt Γ tM M 140 (xlv [(3, .int z.1)]) [] z.2) : ∀ (q : Nat) (a3 : Int32) (a4 : Int32) (S : xSt), fX12_bestTool_L5 n k0 a1 a2 q a3 a4 S = some z → xAt Γ tM M 5 (xlv [(0, .ref (M.2.1 k0)), (1, .int a1), (2, .int a2), (3, .int a3), (4, .int a4)]) [] S := by
  intro q
  induction q with
  | zero => intro a3 a4 S h; cases h
  | succ q ih => intro a3 a4 S h; exact tX12_bestTool_L5b o hnL n k0 a1 a2 a3 a4 S z ih K h
def fX12_bestTool (n : Nat) (k0 : Nat) (a1 : Int32) (a2 : Int32) (S : xSt) : Option (Int32 × xSt) :=
  if tM.1 k0 = 12 then
  ((fX12_bestTool_L5 n k0 a1 a2 n ((-1 : Int32)) ((0 : Int32)) S).bind fun z34 => some (z34.1, z34.2))
  else none
theorem kX12_bestTool {z : Int32 × xSt} {n : Nat} {k0 : Nat} {a1 : Int32} {a2 : Int32} {S : xSt} (h : fX12_bestTool n k0 a1 a2 S = some z) : tM.1 k0 = 12 := by
  unfold fX12_bestTool at h
  exact (xck h).1
set_option maxHeartbeats 4000000 in
theorem tX12_bestTool (l : Launch) (M : xMg) (A : Nat → Prop) (n : Nat) (k0 : Nat) (a1 : Int32) (a2 : Int32) (S : xSt) (z : Int32 × xSt) (h : fX12_bestTool n k0 a1 a2 S = some z) : xMI l yX12_bestTool cX12_bestTool 5 (some .int) 6 tM M A [.ref (M.2.1 k0), .int a1, .int a2] S z.1 z.2 := by
  refine x_metI (plainFor_of_name (by decide)) tM_ok (Nat.le_of_ble_eq_true rfl) (fun Γ hA hnL hl hr o => ?_)
  subst hA; subst hl
  have o : xOk Γ tM M 6 cX12_bestTool RX12 := o
  unfold fX12_bestTool at h
  obtain ⟨hk0, h⟩ := xck h
  refine x_to (l := [(0, .ref (M.2.1 k0)), (1, .int a1), (2, .int a2)]) ⟨rfl, rfl, rfl, trivial⟩ ?_
  have hn3 : 3 < Γ.2.2.2 := by omega
  have hn4 : 4 < Γ.2.2.2 := by omega
  refine x_iconst (pc := 0) o dX12_bestTool_0 ic_m1 ?_
  refine x_istore_n (pc := 1) o dX12_bestTool_1 rfl hn3 ?_
  refine x_iconst (pc := 2) o dX12_bestTool_2 ic_0 ?_
  refine x_istore (pc := 3) o dX12_bestTool_3 hn4 ?_
  obtain ⟨z34, hz34, h⟩ := xbs h
  refine x_to (l := [(0, .ref (M.2.1 k0)), (1, .int a1), (2, .int a2), (3, .int ((-1 : Int32))), (4, .int ((0 : Int32)))]) ⟨rfl, rfl, rfl, rfl, rfl, trivial⟩ ?_
  refine tX12_bestTool_L5 o hnL n k0 a1 a2 z34 ?_ n ((-1 : Int32)) ((0 : Int32)) S hz34
  refine x_iload_n (pc := 140) o dX12_bestTool_140 rfl rfl ?_
  exact x_ireturn (pc := 141) o hr dX12_bestTool_141 (xr1 h) (xr2 h)
def fX12_pays (k0 : Nat) (a1 : Int32) (S : xSt) : Option (xSt) :=
  if tM.1 k0 = 12 then
  ((xgF tM 12 55 k0 S).bind fun r1 =>
  (xal tM r1 a1 S).bind fun v2 =>
  (fX12_toldOf k0 ((1 : Int32)) S).bind fun v3 =>
  (some (v2 + v3)).bind fun v4 =>
  (xgF tM 12 55 k0 S).bind fun r5 =>
  if v4 ≤ ((9999 : Int32)) then
  ((xas tM r5 a1 v4 S).bind fun S6 =>
  some S6)
else
  ((xas tM r5 a1 ((9999 : Int32)) S).bind fun S7 =>
  some S7))
  else none
theorem kX12_pays {z : xSt} {k0 : Nat} {a1 : Int32} {S : xSt} (h : fX12_pays k0 a1 S = some z) : tM.1 k0 = 12 := by
  unfold fX12_pays at h
  exact (xck h).1
set_option maxHeartbeats 4000000 in
theorem tX12_pays (l : Launch) (M : xMg) (A : Nat → Prop) (k0 : Nat) (a1 : Int32) (S : xSt) (z : xSt) (h : fX12_pays k0 a1 S = some z) : xMV l yX12_pays cX12_pays 3 none 2 tM M A [.ref (M.2.1 k0), .int a1] S z := by
  refine x_metV (plainFor_of_name (by decide)) tM_ok (Nat.le_of_ble_eq_true rfl) (fun Γ hA hnL hl hr o => ?_)
  subst hA; subst hl
  have o : xOk Γ tM M 2 cX12_pays RX12 := o
  unfold fX12_pays at h
  obtain ⟨hk0, h⟩ := xck h
  refine x_to (l := [(0, .ref (M.2.1 k0)), (1, .int a1)]) ⟨rfl, rfl, trivial⟩ ?_
  have hn2 : 2 < Γ.2.2.2 := by omega
  refine x_aload_n (pc := 0) o dX12_pays_0 rfl rfl ?_
  obtain ⟨r1, hr1, h⟩ := xbs h
  refine gX12_180 (pc := 1) o dX12_pays_1 hr1 ?_
  refine x_iload_n (pc := 4) o dX12_pays_4 rfl rfl ?_
  obtain ⟨v2, hv2, h⟩ := xbs h
  refine x_iaload (pc := 5) o dX12_pays_5 hv2 ?_
  refine x_aload_n (pc := 6) o dX12_pays_6 rfl rfl ?_
  refine x_iconst (pc := 7) o dX12_pays_7 ic_1 ?_
  obtain ⟨v3, hv3, h⟩ := xbs h
  refine x_callI (pc := 8) (As := [.int ((1 : Int32))]) (b := k0) (rest := [.int v2]) o (tX12_toldOf _ M _ k0 ((1 : Int32)) S v3 hv3) eX12_toldOf mX12_561 clX12 (kX12_toldOf hv3) (by decide) rfl rfl (Nat.le_of_ble_eq_true rfl) dX12_pays_8 ?_
  refine x_iadd (pc := 11) o dX12_pays_11 ?_
  obtain ⟨v4, hv4, h⟩ := xbs h
  refine x_istore_nE (pc := 12) o dX12_pays_12 rfl hn2 hv4 ?_
  refine x_aload_n (pc := 13) o dX12_pays_13 rfl rfl ?_
  obtain ⟨r5, hr5, h⟩ := xbs h
  refine gX12_180 (pc := 14) o dX12_pays_14 hr5 ?_
  refine x_iload_n (pc := 17) o dX12_pays_17 rfl rfl ?_
  refine x_iload_n (pc := 18) o dX12_pays_18 rfl rfl ?_
  refine x_sipush (pc := 19) o dX12_pays_19 sp_9999 ?_
  refine x_icmp_le (pc := 22) (tgt := 31) o dX12_pays_22 (by decide) (fun c8 => ?_) (fun c8 => ?_)
  · have h := xit h c8
    refine x_iload_n (pc := 31) o dX12_pays_31 rfl rfl ?_
    obtain ⟨S6, hS6, h⟩ := xbs h
    refine x_iastore (pc := 32) o dX12_pays_32 hS6 ?_
    exact x_vreturn (pc := 33) o hr dX12_pays_33 (Option.some.inj h)
  · have h := xif h c8
    refine x_sipush (pc := 25) o dX12_pays_25 sp_9999 ?_
    refine x_goto (pc := 28) (tgt := 32) o dX12_pays_28 (by decide) ?_
    obtain ⟨S7, hS7, h⟩ := xbs h
    refine x_iastore (pc := 32) o dX12_pays_32 hS7 ?_
    exact x_vreturn (pc := 33) o hr dX12_pays_33 (Option.some.inj h)
def fX12_writesDown_B66 (n : Nat) (k0 : Nat) (a1 : Int32) (a2 : Int32) (a3 : Int32) (a4 : Int32) (S : xSt) : Option (xSt) :=
  (xgF tM 12 62 k0 S).bind fun r3 =>
  (xal tM r3 a1 S).bind fun v4 =>
  (some (((4 : Int32)) * ((((60 : Int32)) * a1) + v4))).bind fun v5 =>
  (xgF tM 12 63 k0 S).bind fun r6 =>
  (xgF tM 12 54 k0 S).bind fun r7 =>
  (xal tM r7 a1 S).bind fun v8 =>
  (xas tM r6 v5 v8 S).bind fun S9 =>
  (xgF tM 12 63 k0 S9).bind fun r10 =>
  (xas tM r10 (v5 + ((1 : Int32))) a2 S9).bind fun S11 =>
  (xgF tM 12 63 k0 S11).bind fun r12 =>
  (xas tM r12 (v5 + ((2 : Int32))) a3 S11).bind fun S13 =>
  (xgF tM 12 63 k0 S13).bind fun r14 =>
  (xas tM r14 (v5 + ((3 : Int32))) a4 S13).bind fun S15 =>
  (xgF tM 12 62 k0 S15).bind fun r16 =>
  (xal tM r16 a1 S15).bind fun v17 =>
  (xas tM r16 a1 (v17 + ((1 : Int32))) S15).bind fun S18 =>
  some S18
set_option maxHeartbeats 4000000 in
theorem tX12_writesDown_B66 {Γ : xGm} {M : xMg} (o : xOk Γ tM M 1 cX12_writesDown RX12) (hnL : Γ.2.2.2 = 6) (n : Nat) (k0 : Nat) (a1 : Int32) (a2 : Int32) (a3 : Int32) (a4 : Int32) (S : xSt) (z : (xSt)) (hr : xRV Γ tM M none z) (h : fX12_writesDown_B66 n k0 a1 a2 a3 a4 S = some z) : xAt Γ tM M 66 (xlv [(0, .ref (M.2.1 k0)), (1, .int a1), (2, .int a2), (3, .int a3), (4, .int a4)]) [] S := by
  have hn5 : 5 < Γ.2.2.2 := by omega
  unfold fX12_writesDown_B66 at h
  refine x_iconst (pc := 66) o dX12_writesDown_66 ic_4 ?_
  refine x_bipush (pc := 67) o dX12_writesDown_67 bp_60 ?_
  refine x_iload_n (pc := 69) o dX12_writesDown_69 rfl rfl ?_
  refine x_imul (pc := 70) o dX12_writesDown_70 ?_
  refine x_aload_n (pc := 71) o dX12_writesDown_71 rfl rfl ?_
  obtain ⟨r3, hr3, h⟩ := xbs h
  refine gX12_201 (pc := 72) o dX12_writesDown_72 hr3 ?_
  refine x_iload_n (pc := 75) o dX12_writesDown_75 rfl rfl ?_
  obtain ⟨v4, hv4, h⟩ := xbs h
  refine x_iaload (pc := 76) o dX12_writesDown_76 hv4 ?_
  refine x_iadd (pc := 77) o dX12_writesDown_77 ?_
  refine x_imul (pc := 78) o dX12_writesDown_78 ?_
  obtain ⟨v5, hv5, h⟩ := xbs h
  refine x_istoreE (pc := 79) o dX12_writesDown_79 hn5 hv5 ?_
  refine x_aload_n (pc := 81) o dX12_writesDown_81 rfl rfl ?_
  obtain ⟨r6, hr6, h⟩ := xbs h
  refine gX12_204 (pc := 82) o dX12_writesDown_82 hr6 ?_
  refine x_iload (pc := 85) o dX12_writesDown_85 rfl ?_
  refine x_aload_n (pc := 87) o dX12_writesDown_87 rfl rfl ?_
  obtain ⟨r7, hr7, h⟩ := xbs h
  refine gX12_177 (pc := 88) o dX12_writesDown_88 hr7 ?_
  refine x_iload_n (pc := 91) o dX12_writesDown_91 rfl rfl ?_
  obtain ⟨v8, hv8, h⟩ := xbs h
  refine x_iaload (pc := 92) o dX12_writesDown_92 hv8 ?_
  obtain ⟨S9, hS9, h⟩ := xbs h
  refine x_iastore (pc := 93) o dX12_writesDown_93 hS9 ?_
  refine x_aload_n (pc := 94) o dX12_writesDown_94 rfl rfl ?_
  obtain ⟨r10, hr10, h⟩ := xbs h
  refine gX12_204 (pc := 95) o dX12_writesDown_95 hr10 ?_
  refine x_iload (pc := 98) o dX12_writesDown_98 rfl ?_
  refine x_iconst (pc := 100) o dX12_writesDown_100 ic_1 ?_
  refine x_iadd (pc := 101) o dX12_writesDown_101 ?_
  refine x_iload_n (pc := 102) o dX12_writesDown_102 rfl rfl ?_
  obtain ⟨S11, hS11, h⟩ := xbs h
  refine x_iastore (pc := 103) o dX12_writesDown_103 hS11 ?_
  refine x_aload_n (pc := 104) o dX12_writesDown_104 rfl rfl ?_
  obtain ⟨r12, hr12, h⟩ := xbs h
  refine gX12_204 (pc := 105) o dX12_writesDown_105 hr12 ?_
  refine x_iload (pc := 108) o dX12_writesDown_108 rfl ?_
  refine x_iconst (pc := 110) o dX12_writesDown_110 ic_2 ?_
  refine x_iadd (pc := 111) o dX12_writesDown_111 ?_
  refine x_iload_n (pc := 112) o dX12_writesDown_112 rfl rfl ?_
  obtain ⟨S13, hS13, h⟩ := xbs h
  refine x_iastore (pc := 113) o dX12_writesDown_113 hS13 ?_
  refine x_aload_n (pc := 114) o dX12_writesDown_114 rfl rfl ?_
  obtain ⟨r14, hr14, h⟩ := xbs h
  refine gX12_204 (pc := 115) o dX12_writesDown_115 hr14 ?_
  refine x_iload (pc := 118) o dX12_writesDown_118 rfl ?_
  refine x_iconst (pc := 120) o dX12_writesDown_120 ic_3 ?_
  refine x_iadd (pc := 121) o dX12_writesDown_121 ?_
  refine x_iload (pc := 122) o dX12_writesDown_122 rfl ?_
  obtain ⟨S15, hS15, h⟩ := xbs h
  refine x_iastore (pc := 124) o dX12_writesDown_124 hS15 ?_
  refine x_aload_n (pc := 125) o dX12_writesDown_125 rfl rfl ?_
  obtain ⟨r16, hr16, h⟩ := xbs h
  refine gX12_201 (pc := 126) o dX12_writesDown_126 hr16 ?_
  refine x_iload_n (pc := 129) o dX12_writesDown_129 rfl rfl ?_
  refine x_dup2 (pc := 130) o dX12_writesDown_130 rfl rfl ?_
  obtain ⟨v17, hv17, h⟩ := xbs h
  refine x_iaload (pc := 131) o dX12_writesDown_131 hv17 ?_
  refine x_iconst (pc := 132) o dX12_writesDown_132 ic_1 ?_
  refine x_iadd (pc := 133) o dX12_writesDown_133 ?_
  obtain ⟨S18, hS18, h⟩ := xbs h
  refine x_iastore (pc := 134) o dX12_writesDown_134 hS18 ?_
  exact x_vreturn (pc := 135) o hr dX12_writesDown_135 (Option.some.inj h)
def fX12_writesDown_L18b (n : Nat) (k0 : Nat) (a1 : Int32) (a2 : Int32) (a3 : Int32) (a4 : Int32) (rec : Int32 → xSt → Option (xSt)) (a5 : Int32) (S : xSt) : Option (xSt) :=
  if (((((240 : Int32)) * a1) + ((240 : Int32))) - ((4 : Int32))) ≤ a5 then
  (some S)
else
  ((xgF tM 12 63 k0 S).bind fun r20 =>
  (xgF tM 12 63 k0 S).bind fun r21 =>
  (xal tM r21 (a5 + ((4 : Int32))) S).bind fun v22 =>
  (xas tM r20 a5 v22 S).bind fun S23 =>
  (some (a5 + (1 : Int32))).bind fun v24 =>
  rec v24 S23)
def fX12_writesDown_L18 (n : Nat) (k0 : Nat) (a1 : Int32) (a2 : Int32) (a3 : Int32) (a4 : Int32) : Nat → Int32 → xSt → Option (xSt)
  | 0 => fun _ _ => none
  | q + 1 => fX12_writesDown_L18b n k0 a1 a2 a3 a4 (fX12_writesDown_L18 n k0 a1 a2 a3 a4 q)
set_option maxHeartbeats 4000000 in
theorem tX12_writesDown_L18b {Γ : xGm} {M : xMg} (o : xOk Γ tM M 1 cX12_writesDown RX12) (hnL : Γ.2.2.2 = 6) {rec : Int32 → xSt → Option (xSt)} (n : Nat) (k0 : Nat) (a1 : Int32) (a2 : Int32) (a3 : Int32) (a4 : Int32) (a5 : Int32) (S : xSt) (z : (xSt)) (hrec : ∀ (a5 : Int32) (S : xSt), rec a5 S = some z → xAt Γ tM M 18 (xlv [(0, .ref (M.2.1 k0)), (1, .int a1), (2, .int a2), (3, .int a3), (4, .int a4), (5, .int a5)]) [] S) (K : xAt Γ tM M 56 (xlv [(0, .ref (M.2.1 k0)), (1, .int a1), (2, .int a2), (3, .int a3), (4, .int a4)]) [] z) (h : fX12_writesDown_L18b n k0 a1 a2 a3 a4 rec a5 S = some z) : xAt Γ tM M 18 (xlv [(0, .ref (M.2.1 k0)), (1, .int a1), (2, .int a2), (3, .int a3), (4, .int a4), (5, .int a5)]) [] S := by
  have hn5 : 5 < Γ.2.2.2 := by omega
  unfold fX12_writesDown_L18b at h
  refine x_iload (pc := 18) o dX12_writesDown_18 rfl ?_
  refine x_sipush (pc := 20) o dX12_writesDown_20 sp_240 ?_
  refine x_iload_n (pc := 23) o dX12_writesDown_23 rfl rfl ?_
  refine x_imul (pc := 24) o dX12_writesDown_24 ?_
  refine x_sipush (pc := 25) o dX12_writesDown_25 sp_240 ?_
  refine x_iadd (pc := 28) o dX12_writesDown_28 ?_
  refine x_iconst (pc := 29) o dX12_writesDown_29 ic_4 ?_
  refine x_isub (pc := 30) o dX12_writesDown_30 ?_
  refine x_icmp_ge (pc := 31) (tgt := 56) o dX12_writesDown_31 (by decide) (fun c25 => ?_) (fun c25 => ?_)
  · have h := xit h c25
    refine x_to (l := [(0, .ref (M.2.1 k0)), (1, .int a1), (2, .int a2), (3, .int a3), (4, .int a4)]) ⟨rfl, rfl, rfl, rfl, rfl, trivial⟩ ?_
    cases Option.some.inj h
    exact K
  · have h := xif h c25
    refine x_aload_n (pc := 34) o dX12_writesDown_34 rfl rfl ?_
    obtain ⟨r20, hr20, h⟩ := xbs h
    refine gX12_204 (pc := 35) o dX12_writesDown_35 hr20 ?_
    refine x_iload (pc := 38) o dX12_writesDown_38 rfl ?_
    refine x_aload_n (pc := 40) o dX12_writesDown_40 rfl rfl ?_
    obtain ⟨r21, hr21, h⟩ := xbs h
    refine gX12_204 (pc := 41) o dX12_writesDown_41 hr21 ?_
    refine x_iload (pc := 44) o dX12_writesDown_44 rfl ?_
    refine x_iconst (pc := 46) o dX12_writesDown_46 ic_4 ?_
    refine x_iadd (pc := 47) o dX12_writesDown_47 ?_
    obtain ⟨v22, hv22, h⟩ := xbs h
    refine x_iaload (pc := 48) o dX12_writesDown_48 hv22 ?_
    obtain ⟨S23, hS23, h⟩ := xbs h
    refine x_iastore (pc := 49) o dX12_writesDown_49 hS23 ?_
    obtain ⟨v24, hv24, h⟩ := xbs h
    refine x_iincE (pc := 50) o dX12_writesDown_50 rfl ic_1 hn5 hv24 ?_
    refine x_goto (pc := 53) (tgt := 18) o dX12_writesDown_53 (by decide) ?_
    refine x_to (l := [(0, .ref (M.2.1 k0)), (1, .int a1), (2, .int a2), (3, .int a3), (4, .int a4), (5, .int v24)]) ⟨rfl, rfl, rfl, rfl, rfl, rfl, trivial⟩ ?_
    exact hrec v24 S23 h
theorem tX12_writesDown_L18 {Γ : xGm} {M : xMg} (o : xOk Γ tM M 1 cX12_writesDown RX12) (hnL : Γ.2.2.2 = 6) (n : Nat) (k0 : Nat) (a1 : Int32) (a2 : Int32) (a3 : Int32) (a4 : Int32) (z : (xSt)) (K : xAt Γ tM M 56 (xlv [(0, .ref (M.2.1 k0)), (1, .int a1), (2, .int a2), (3, .int a3), (4, .int a4)]) [] z) : ∀ (q : Nat) (a5 : Int32) (S : xSt), fX12_writesDown_L18 n k0 a1 a2 a3 a4 q a5 S = some z → xAt Γ tM M 18 (xlv [(0, .ref (M.2.1 k0)), (1, .int a1), (2, .int a2), (3, .int a3), (4, .int a4), (5, .int a5)]) [] S := by
  intro q
  induction q with
  | zero => intro a5 S h; cases h
  | succ q ih => intro a5 S h; exact tX12_writesDown_L18b o hnL n k0 a1 a2 a3 a4 a5 S z ih K h
def fX12_writesDown (n : Nat) (k0 : Nat) (a1 : Int32) (a2 : Int32) (a3 : Int32) (a4 : Int32) (S : xSt) : Option (xSt) :=
  if tM.1 k0 = 12 then
  ((xgF tM 12 62 k0 S).bind fun r1 =>
  (xal tM r1 a1 S).bind fun v2 =>
  if v2 = ((60 : Int32)) then
  ((some (((240 : Int32)) * a1)).bind fun v19 =>
  (fX12_writesDown_L18 n k0 a1 a2 a3 a4 n v19 S).bind fun z26 => (xgF tM 12 62 k0 z26).bind fun r27 =>
  (xal tM r27 a1 z26).bind fun v28 =>
  (xas tM r27 a1 (v28 - ((1 : Int32))) z26).bind fun S29 =>
  fX12_writesDown_B66 n k0 a1 a2 a3 a4 S29)
else
  (fX12_writesDown_B66 n k0 a1 a2 a3 a4 S))
  else none
theorem kX12_writesDown {z : xSt} {n : Nat} {k0 : Nat} {a1 : Int32} {a2 : Int32} {a3 : Int32} {a4 : Int32} {S : xSt} (h : fX12_writesDown n k0 a1 a2 a3 a4 S = some z) : tM.1 k0 = 12 := by
  unfold fX12_writesDown at h
  exact (xck h).1
set_option maxHeartbeats 4000000 in
theorem tX12_writesDown (l : Launch) (M : xMg) (A : Nat → Prop) (n : Nat) (k0 : Nat) (a1 : Int32) (a2 : Int32) (a3 : Int32) (a4 : Int32) (S : xSt) (z : xSt) (h : fX12_writesDown n k0 a1 a2 a3 a4 S = some z) : xMV l yX12_writesDown cX12_writesDown 6 none 1 tM M A [.ref (M.2.1 k0), .int a1, .int a2, .int a3, .int a4] S z := by
  refine x_metV (plainFor_of_name (by decide)) tM_ok (Nat.le_of_ble_eq_true rfl) (fun Γ hA hnL hl hr o => ?_)
  subst hA; subst hl
  have o : xOk Γ tM M 1 cX12_writesDown RX12 := o
  unfold fX12_writesDown at h
  obtain ⟨hk0, h⟩ := xck h
  refine x_to (l := [(0, .ref (M.2.1 k0)), (1, .int a1), (2, .int a2), (3, .int a3), (4, .int a4)]) ⟨rfl, rfl, rfl, rfl, rfl, trivial⟩ ?_
  have hn5 : 5 < Γ.2.2.2 := by omega
  refine x_aload_n (pc := 0) o dX12_writesDown_0 rfl rfl ?_
  obtain ⟨r1, hr1, h⟩ := xbs h
  refine gX12_201 (pc := 1) o dX12_writesDown_1 hr1 ?_
  refine x_iload_n (pc := 4) o dX12_writesDown_4 rfl rfl ?_
  obtain ⟨v2, hv2, h⟩ := xbs h
  refine x_iaload (pc := 5) o dX12_writesDown_5 hv2 ?_
  refine x_bipush (pc := 6) o dX12_writesDown_6 bp_60 ?_
  refine x_icmp_ne (pc := 8) (tgt := 66) o dX12_writesDown_8 (by decide) (fun c30 => ?_) (fun c30 => ?_)
  · have h := xif h c30
    refine x_to (l := [(0, .ref (M.2.1 k0)), (1, .int a1), (2, .int a2), (3, .int a3), (4, .int a4)]) ⟨rfl, rfl, rfl, rfl, rfl, trivial⟩ ?_
    exact tX12_writesDown_B66 o hnL n k0 a1 a2 a3 a4 S z hr h
  · have h := xit h c30
    refine x_sipush (pc := 11) o dX12_writesDown_11 sp_240 ?_
    refine x_iload_n (pc := 14) o dX12_writesDown_14 rfl rfl ?_
    refine x_imul (pc := 15) o dX12_writesDown_15 ?_
    obtain ⟨v19, hv19, h⟩ := xbs h
    refine x_istoreE (pc := 16) o dX12_writesDown_16 hn5 hv19 ?_
    obtain ⟨z26, hz26, h⟩ := xbs h
    refine x_to (l := [(0, .ref (M.2.1 k0)), (1, .int a1), (2, .int a2), (3, .int a3), (4, .int a4), (5, .int v19)]) ⟨rfl, rfl, rfl, rfl, rfl, rfl, trivial⟩ ?_
    refine tX12_writesDown_L18 o hnL n k0 a1 a2 a3 a4 z26 ?_ n v19 S hz26
    refine x_aload_n (pc := 56) o dX12_writesDown_56 rfl rfl ?_
    obtain ⟨r27, hr27, h⟩ := xbs h
    refine gX12_201 (pc := 57) o dX12_writesDown_57 hr27 ?_
    refine x_iload_n (pc := 60) o dX12_writesDown_60 rfl rfl ?_
    refine x_dup2 (pc := 61) o dX12_writesDown_61 rfl rfl ?_
    obtain ⟨v28, hv28, h⟩ := xbs h
    refine x_iaload (pc := 62) o dX12_writesDown_62 hv28 ?_
    refine x_iconst (pc := 63) o dX12_writesDown_63 ic_1 ?_
    refine x_isub (pc := 64) o dX12_writesDown_64 ?_
    obtain ⟨S29, hS29, h⟩ := xbs h
    refine x_iastore (pc := 65) o dX12_writesDown_65 hS29 ?_
    refine x_to (l := [(0, .ref (M.2.1 k0)), (1, .int a1), (2, .int a2), (3, .int a3), (4, .int a4)]) ⟨rfl, rfl, rfl, rfl, rfl, trivial⟩ ?_
    exact tX12_writesDown_B66 o hnL n k0 a1 a2 a3 a4 S29 z hr h
