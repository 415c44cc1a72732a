def fX12_shavings_L34b (n : Nat) (k0 : Nat) (a1 : Int32) (rec : Int32 → Int32 → xSt → Option (Int32 × xSt)) (a2 : Int32) (a3 : Int32) (S : xSt) : Option (Int32 × xSt) :=
  if a1 ≤ a3 then
  (some (a2, S))
else
  (if a2 = 0 then
  (some (a2, S))
else
  ((xgF tM 12 0 k0 S).bind fun r3 =>
  (xal tM r3 a3 S).bind fun v4 =>
  (fX12_isTool k0 v4 S).bind fun v5 =>
  if v5 = 0 then
  ((some (a3 + (2 : Int32))).bind fun v6 =>
  rec ((0 : Int32)) v6 S)
else
  ((xgF tM 12 0 k0 S).bind fun r7 =>
  (xal tM r7 (a3 + ((1 : Int32))) S).bind fun v8 =>
  if ((2 : Int32)) ≤ v8 then
  ((some (a3 + (2 : Int32))).bind fun v9 =>
  rec ((0 : Int32)) v9 S)
else
  ((some (a3 + (2 : Int32))).bind fun v10 =>
  rec ((1 : Int32)) v10 S))))
def fX12_shavings_L34 (n : Nat) (k0 : Nat) (a1 : Int32) : Nat → Int32 → Int32 → xSt → Option (Int32 × xSt)
  | 0 => fun _ _ _ => none
  | q + 1 => fX12_shavings_L34b n k0 a1 (fX12_shavings_L34 n k0 a1 q)
set_option maxHeartbeats 4000000 in
theorem tX12_shavings_L34b {Γ : xGm} {M : xMg} (o : xOk Γ tM M 9 cX12_shavings RX12) (hnL : Γ.2.2.2 = 6) {rec : Int32 → Int32 → xSt → Option (Int32 × xSt)} (n : Nat) (k0 : Nat) (a1 : Int32) (a2 : Int32) (a3 : Int32) (S : xSt) (z : (Int32 × xSt)) (hrec : ∀ (a2 : Int32) (a3 : Int32) (S : xSt), rec a2 a3 S = some z → xAt Γ tM M 34 (xlv [(0, .ref (M.2.1 k0)), (1, .int a1), (2, .int a2), (3, .int a3)]) [] S) (K : xAt Γ tM M 80 (xlv [(0, .ref (M.2.1 k0)), (1, .int a1), (2, .int z.1)]) [] z.2) (h : fX12_shavings_L34b n k0 a1 rec a2 a3 S = some z) : xAt Γ tM M 34 (xlv [(0, .ref (M.2.1 k0)), (1, .int a1), (2, .int a2), (3, .int a3)]) [] S := by
  have hn2 : 2 < Γ.2.2.2 := by omega
  have hn3 : 3 < Γ.2.2.2 := by omega
  unfold fX12_shavings_L34b at h
  refine x_iload_n (pc := 34) o dX12_shavings_34 rfl rfl ?_
  refine x_iload_n (pc := 35) o dX12_shavings_35 rfl rfl ?_
  refine x_icmp_ge (pc := 36) (tgt := 80) o dX12_shavings_36 (by decide) (fun c14 => ?_) (fun c14 => ?_)
  · have h := xit h c14
    refine x_to (l := [(0, .ref (M.2.1 k0)), (1, .int a1), (2, .int a2)]) ⟨rfl, rfl, rfl, trivial⟩ ?_
    cases Option.some.inj h
    exact K
  · have h := xif h c14
    refine x_iload_n (pc := 39) o dX12_shavings_39 rfl rfl ?_
    refine x_if_eq (pc := 40) (tgt := 80) o dX12_shavings_40 (by decide) (fun c13 => ?_) (fun c13 => ?_)
    · have h := xit h c13
      refine x_to (l := [(0, .ref (M.2.1 k0)), (1, .int a1), (2, .int a2)]) ⟨rfl, rfl, rfl, trivial⟩ ?_
      cases Option.some.inj h
      exact K
    · have h := xif h c13
      refine x_aload_n (pc := 43) o dX12_shavings_43 rfl rfl ?_
      refine x_aload_n (pc := 44) o dX12_shavings_44 rfl rfl ?_
      obtain ⟨r3, hr3, h⟩ := xbs h
      refine gX12_7 (pc := 45) o dX12_shavings_45 hr3 ?_
      refine x_iload_n (pc := 48) o dX12_shavings_48 rfl rfl ?_
      obtain ⟨v4, hv4, h⟩ := xbs h
      refine x_iaload (pc := 49) o dX12_shavings_49 hv4 ?_
      obtain ⟨v5, hv5, h⟩ := xbs h
      refine x_callI (pc := 50) (As := [.int v4]) (b := k0) (rest := []) o (tX12_isTool _ M _ k0 v4 S v5 hv5) eX12_isTool mX12_583 clX12 (kX12_isTool hv5) (by decide) rfl rfl (Nat.le_of_ble_eq_true rfl) dX12_shavings_50 ?_
      refine x_if_eq (pc := 53) (tgt := 72) o dX12_shavings_53 (by decide) (fun c12 => ?_) (fun c12 => ?_)
      · have h := xit h c12
        refine x_iconst (pc := 72) o dX12_shavings_72 ic_0 ?_
        refine x_istore_n (pc := 73) o dX12_shavings_73 rfl hn2 ?_
        obtain ⟨v6, hv6, h⟩ := xbs h
        refine x_iincE (pc := 74) o dX12_shavings_74 rfl ic_2 hn3 hv6 ?_
        refine x_goto (pc := 77) (tgt := 34) o dX12_shavings_77 (by decide) ?_
        refine x_to (l := [(0, .ref (M.2.1 k0)), (1, .int a1), (2, .int ((0 : Int32))), (3, .int v6)]) ⟨rfl, rfl, rfl, rfl, trivial⟩ ?_
        exact hrec ((0 : Int32)) v6 S h
      · have h := xif h c12
        refine x_aload_n (pc := 56) o dX12_shavings_56 rfl rfl ?_
        obtain ⟨r7, hr7, h⟩ := xbs h
        refine gX12_7 (pc := 57) o dX12_shavings_57 hr7 ?_
        refine x_iload_n (pc := 60) o dX12_shavings_60 rfl rfl ?_
        refine x_iconst (pc := 61) o dX12_shavings_61 ic_1 ?_
        refine x_iadd (pc := 62) o dX12_shavings_62 ?_
        obtain ⟨v8, hv8, h⟩ := xbs h
        refine x_iaload (pc := 63) o dX12_shavings_63 hv8 ?_
        refine x_iconst (pc := 64) o dX12_shavings_64 ic_2 ?_
        refine x_icmp_ge (pc := 65) (tgt := 72) o dX12_shavings_65 (by decide) (fun c11 => ?_) (fun c11 => ?_)
        · have h := xit h c11
          refine x_iconst (pc := 72) o dX12_shavings_72 ic_0 ?_
          refine x_istore_n (pc := 73) o dX12_shavings_73 rfl hn2 ?_
          obtain ⟨v9, hv9, h⟩ := xbs h
          refine x_iincE (pc := 74) o dX12_shavings_74 rfl ic_2 hn3 hv9 ?_
          refine x_goto (pc := 77) (tgt := 34) o dX12_shavings_77 (by decide) ?_
          refine x_to (l := [(0, .ref (M.2.1 k0)), (1, .int a1), (2, .int ((0 : Int32))), (3, .int v9)]) ⟨rfl, rfl, rfl, rfl, trivial⟩ ?_
          exact hrec ((0 : Int32)) v9 S h
        · have h := xif h c11
          refine x_iconst (pc := 68) o dX12_shavings_68 ic_1 ?_
          refine x_goto (pc := 69) (tgt := 73) o dX12_shavings_69 (by decide) ?_
          refine x_istore_n (pc := 73) o dX12_shavings_73 rfl hn2 ?_
          obtain ⟨v10, hv10, h⟩ := xbs h
          refine x_iincE (pc := 74) o dX12_shavings_74 rfl ic_2 hn3 hv10 ?_
          refine x_goto (pc := 77) (tgt := 34) o dX12_shavings_77 (by decide) ?_
          refine x_to (l := [(0, .ref (M.2.1 k0)), (1, .int a1), (2, .int ((1 : Int32))), (3, .int v10)]) ⟨rfl, rfl, rfl, rfl, trivial⟩ ?_
          exact hrec ((1 : Int32)) v10 S h
theorem tX12_shavings_L34 {Γ : xGm} {M : xMg} (o : xOk Γ tM M 9 cX12_shavings RX12) (hnL : Γ.2.2.2 = 6) (n : Nat) (k0 : Nat) (a1 : Int32) (z : (Int32 × xSt)) (K : xAt Γ tM M 80 (xlv [(0, .ref (M.2.1 k0)), (1, .int a1), (2, .int z.1)]) [] z.2) : ∀ (q : Nat) (a2 : Int32) (a3 : Int32) (S : xSt), fX12_shavings_L34 n k0 a1 q a2 a3 S = some z → xAt Γ tM M 34 (xlv [(0, .ref (M.2.1 k0)), (1, .int a1), (2, .int a2), (3, .int a3)]) [] S := by
  intro q
  induction q with
  | zero => intro a2 a3 S h; cases h
  | succ q ih => intro a2 a3 S h; exact tX12_shavings_L34b o hnL n k0 a1 a2 a3 S z ih K h
def fX12_shavings_L129b (n : Nat) (k0 : Nat) (a1 : Int32) (a3 : Int32) (rec : Int32 → Int32 → xSt → Option (Int32 × xSt)) (a4 : Int32) (a5 : Int32) (S : xSt) : Option (Int32 × xSt) :=
  if a1 ≤ a5 then
  (some (a4, S))
else
  (if a4 = 0 then
  ((some (a5 + (2 : Int32))).bind fun v20 =>
  rec ((0 : Int32)) v20 S)
else
  ((xgI tM 12 73 k0 S).bind fun v21 =>
  (xgF tM 12 0 k0 S).bind fun r22 =>
  (xal tM r22 a5 S).bind fun v23 =>
  (xgF tM 12 0 k0 S).bind fun r24 =>
  (xal tM r24 (a5 + ((1 : Int32))) S).bind fun v25 =>
  if ((v21 >>> (v23 &&& 31)) &&& ((1 : Int32))) = v25 then
  ((some (a5 + (2 : Int32))).bind fun v27 =>
  rec ((1 : Int32)) v27 S)
else
  ((some (a5 + (2 : Int32))).bind fun v26 =>
  rec ((0 : Int32)) v26 S)))
def fX12_shavings_L129 (n : Nat) (k0 : Nat) (a1 : Int32) (a3 : Int32) : Nat → Int32 → Int32 → xSt → Option (Int32 × xSt)
  | 0 => fun _ _ _ => none
  | q + 1 => fX12_shavings_L129b n k0 a1 a3 (fX12_shavings_L129 n k0 a1 a3 q)
set_option maxHeartbeats 4000000 in
theorem tX12_shavings_L129b {Γ : xGm} {M : xMg} (o : xOk Γ tM M 9 cX12_shavings RX12) (hnL : Γ.2.2.2 = 6) {rec : Int32 → Int32 → xSt → Option (Int32 × xSt)} (n : Nat) (k0 : Nat) (a1 : Int32) (a3 : Int32) (a4 : Int32) (a5 : Int32) (S : xSt) (z : (Int32 × xSt)) (hrec : ∀ (a4 : Int32) (a5 : Int32) (S : xSt), rec a4 a5 S = some z → xAt Γ tM M 129 (xlv [(0, .ref (M.2.1 k0)), (1, .int a1), (3, .int a3), (4, .int a4), (5, .int a5)]) [] S) (K : xAt Γ tM M 179 (xlv [(0, .ref (M.2.1 k0)), (1, .int a1), (3, .int a3), (4, .int z.1)]) [] z.2) (h : fX12_shavings_L129b n k0 a1 a3 rec a4 a5 S = some z) : xAt Γ tM M 129 (xlv [(0, .ref (M.2.1 k0)), (1, .int a1), (3, .int a3), (4, .int a4), (5, .int a5)]) [] S := by
  have hn4 : 4 < Γ.2.2.2 := by omega
  have hn5 : 5 < Γ.2.2.2 := by omega
  unfold fX12_shavings_L129b at h
  refine x_iload (pc := 129) o dX12_shavings_129 rfl ?_
  refine x_iload_n (pc := 131) o dX12_shavings_131 rfl rfl ?_
  refine x_icmp_ge (pc := 132) (tgt := 179) o dX12_shavings_132 (by decide) (fun c30 => ?_) (fun c30 => ?_)
  · have h := xit h c30
    refine x_to (l := [(0, .ref (M.2.1 k0)), (1, .int a1), (3, .int a3), (4, .int a4)]) ⟨rfl, rfl, rfl, rfl, trivial⟩ ?_
    cases Option.some.inj h
    exact K
  · have h := xif h c30
    refine x_iload (pc := 135) o dX12_shavings_135 rfl ?_
    refine x_if_eq (pc := 137) (tgt := 170) o dX12_shavings_137 (by decide) (fun c29 => ?_) (fun c29 => ?_)
    · have h := xit h c29
      refine x_iconst (pc := 170) o dX12_shavings_170 ic_0 ?_
      refine x_istore (pc := 171) o dX12_shavings_171 hn4 ?_
      obtain ⟨v20, hv20, h⟩ := xbs h
      refine x_iincE (pc := 173) o dX12_shavings_173 rfl ic_2 hn5 hv20 ?_
      refine x_goto (pc := 176) (tgt := 129) o dX12_shavings_176 (by decide) ?_
      refine x_to (l := [(0, .ref (M.2.1 k0)), (1, .int a1), (3, .int a3), (4, .int ((0 : Int32))), (5, .int v20)]) ⟨rfl, rfl, rfl, rfl, rfl, trivial⟩ ?_
      exact hrec ((0 : Int32)) v20 S h
    · have h := xif h c29
      refine x_aload_n (pc := 140) o dX12_shavings_140 rfl rfl ?_
      obtain ⟨v21, hv21, h⟩ := xbs h
      refine gX12_234 (pc := 141) o dX12_shavings_141 hv21 ?_
      refine x_aload_n (pc := 144) o dX12_shavings_144 rfl rfl ?_
      obtain ⟨r22, hr22, h⟩ := xbs h
      refine gX12_7 (pc := 145) o dX12_shavings_145 hr22 ?_
      refine x_iload (pc := 148) o dX12_shavings_148 rfl ?_
      obtain ⟨v23, hv23, h⟩ := xbs h
      refine x_iaload (pc := 150) o dX12_shavings_150 hv23 ?_
      refine x_ishr (pc := 151) o dX12_shavings_151 ?_
      refine x_iconst (pc := 152) o dX12_shavings_152 ic_1 ?_
      refine x_iand (pc := 153) o dX12_shavings_153 ?_
      refine x_aload_n (pc := 154) o dX12_shavings_154 rfl rfl ?_
      obtain ⟨r24, hr24, h⟩ := xbs h
      refine gX12_7 (pc := 155) o dX12_shavings_155 hr24 ?_
      refine x_iload (pc := 158) o dX12_shavings_158 rfl ?_
      refine x_iconst (pc := 160) o dX12_shavings_160 ic_1 ?_
      refine x_iadd (pc := 161) o dX12_shavings_161 ?_
      obtain ⟨v25, hv25, h⟩ := xbs h
      refine x_iaload (pc := 162) o dX12_shavings_162 hv25 ?_
      refine x_icmp_ne (pc := 163) (tgt := 170) o dX12_shavings_163 (by decide) (fun c28 => ?_) (fun c28 => ?_)
      · have h := xif h c28
        refine x_iconst (pc := 170) o dX12_shavings_170 ic_0 ?_
        refine x_istore (pc := 171) o dX12_shavings_171 hn4 ?_
        obtain ⟨v26, hv26, h⟩ := xbs h
        refine x_iincE (pc := 173) o dX12_shavings_173 rfl ic_2 hn5 hv26 ?_
        refine x_goto (pc := 176) (tgt := 129) o dX12_shavings_176 (by decide) ?_
        refine x_to (l := [(0, .ref (M.2.1 k0)), (1, .int a1), (3, .int a3), (4, .int ((0 : Int32))), (5, .int v26)]) ⟨rfl, rfl, rfl, rfl, rfl, trivial⟩ ?_
        exact hrec ((0 : Int32)) v26 S h
      · have h := xit h c28
        refine x_iconst (pc := 166) o dX12_shavings_166 ic_1 ?_
        refine x_goto (pc := 167) (tgt := 171) o dX12_shavings_167 (by decide) ?_
        refine x_istore (pc := 171) o dX12_shavings_171 hn4 ?_
        obtain ⟨v27, hv27, h⟩ := xbs h
        refine x_iincE (pc := 173) o dX12_shavings_173 rfl ic_2 hn5 hv27 ?_
        refine x_goto (pc := 176) (tgt := 129) o dX12_shavings_176 (by decide) ?_
        refine x_to (l := [(0, .ref (M.2.1 k0)), (1, .int a1), (3, .int a3), (4, .int ((1 : Int32))), (5, .int v27)]) ⟨rfl, rfl, rfl, rfl, rfl, trivial⟩ ?_
        exact hrec ((1 : Int32)) v27 S h
theorem tX12_shavings_L129 {Γ : xGm} {M : xMg} (o : xOk Γ tM M 9 cX12_shavings RX12) (hnL : Γ.2.2.2 = 6) (n : Nat) (k0 : Nat) (a1 : Int32) (a3 : Int32) (z : (Int32 × xSt)) (K : xAt Γ tM M 179 (xlv [(0, .ref (M.2.1 k0)), (1, .int a1), (3, .int a3), (4, .int z.1)]) [] z.2) : ∀ (q : Nat) (a4 : Int32) (a5 : Int32) (S : xSt), fX12_shavings_L129 n k0 a1 a3 q a4 a5 S = some z → xAt Γ tM M 129 (xlv [(0, .ref (M.2.1 k0)), (1, .int a1), (3, .int a3), (4, .int a4), (5, .int a5)]) [] S := by
  intro q
  induction q with
  | zero => intro a4 a5 S h; cases h
  | succ q ih => intro a4 a5 S h; exact tX12_shavings_L129b o hnL n k0 a1 a3 a4 a5 S z ih K h
def fX12_shavings_L103b (n : Nat) (k0 : Nat) (a1 : Int32) (rec : Int32 → xSt → Option (xSt)) (a3 : Int32) (S : xSt) : Option (xSt) :=
  (fX12_isAhead k0 (a3 + ((1 : Int32))) ((1 : Int32)) ((61 : Int32)) S).bind fun v18 =>
  if v18 = 0 then
  (some S)
else
  ((fX12_passes n k0 ((1 : Int32)) ((0 : Int32)) S).bind fun q19 =>
  (fX12_shavings_L129 n k0 a1 a3 n ((1 : Int32)) ((0 : Int32)) q19.2).bind fun z31 => if z31.1 = 0 then
  ((some (a3 + (1 : Int32))).bind fun v38 =>
  rec v38 z31.2)
else
  ((xgF tM 12 84 k0 z31.2).bind fun r32 =>
  (xgI tM 12 83 k0 z31.2).bind fun v33 =>
  (xas tM r32 v33 a3 z31.2).bind fun S34 =>
  (xgI tM 12 83 k0 S34).bind fun v35 =>
  (xpI tM 12 83 k0 (v35 + ((1 : Int32))) S34).bind fun S36 =>
  (some (a3 + (1 : Int32))).bind fun v37 =>
  rec v37 S36))
def fX12_shavings_L103 (n : Nat) (k0 : Nat) (a1 : Int32) : Nat → Int32 → xSt → Option (xSt)
  | 0 => fun _ _ => none
  | q + 1 => fX12_shavings_L103b n k0 a1 (fX12_shavings_L103 n k0 a1 q)
set_option maxHeartbeats 4000000 in
theorem tX12_shavings_L103b {Γ : xGm} {M : xMg} (o : xOk Γ tM M 9 cX12_shavings RX12) (hnL : Γ.2.2.2 = 6) {rec : Int32 → xSt → Option (xSt)} (n : Nat) (k0 : Nat) (a1 : Int32) (a3 : Int32) (S : xSt) (z : (xSt)) (hrec : ∀ (a3 : Int32) (S : xSt), rec a3 S = some z → xAt Γ tM M 103 (xlv [(0, .ref (M.2.1 k0)), (1, .int a1), (3, .int a3)]) [] S) (K : xAt Γ tM M 213 (xlv [(0, .ref (M.2.1 k0))]) [] z) (h : fX12_shavings_L103b n k0 a1 rec a3 S = some z) : xAt Γ tM M 103 (xlv [(0, .ref (M.2.1 k0)), (1, .int a1), (3, .int a3)]) [] S := by
  have hn3 : 3 < Γ.2.2.2 := by omega
  have hn4 : 4 < Γ.2.2.2 := by omega
  have hn5 : 5 < Γ.2.2.2 := by omega
  unfold fX12_shavings_L103b at h
  refine x_aload_n (pc := 103) o dX12_shavings_103 rfl rfl ?_
  refine x_iload_n (pc := 104) o dX12_shavings_104 rfl rfl ?_
  refine x_iconst (pc := 105) o dX12_shavings_105 ic_1 ?_
  refine x_iadd (pc := 106) o dX12_shavings_106 ?_
  refine x_iconst (pc := 107) o dX12_shavings_107 ic_1 ?_
  refine x_bipush (pc := 108) o dX12_shavings_108 bp_61 ?_
  obtain ⟨v18, hv18, h⟩ := xbs h
  refine x_callI (pc := 110) (As := [.int (a3 + ((1 : Int32))), .int ((1 : Int32)), .int ((61 : Int32))]) (b := k0) (rest := []) o (tX12_isAhead _ M _ k0 (a3 + ((1 : Int32))) ((1 : Int32)) ((61 : Int32)) S v18 hv18) eX12_isAhead mX12_592 clX12 (kX12_isAhead hv18) (by decide) rfl rfl (Nat.le_of_ble_eq_true rfl) dX12_shavings_110 ?_
  refine x_if_eq (pc := 113) (tgt := 213) o dX12_shavings_113 (by decide) (fun c40 => ?_) (fun c40 => ?_)
  · have h := xit h c40
    refine x_to (l := [(0, .ref (M.2.1 k0))]) ⟨rfl, trivial⟩ ?_
    cases Option.some.inj h
    exact K
  · have h := xif h c40
    refine x_aload_n (pc := 116) o dX12_shavings_116 rfl rfl ?_
    refine x_iconst (pc := 117) o dX12_shavings_117 ic_1 ?_
    refine x_iconst (pc := 118) o dX12_shavings_118 ic_0 ?_
    obtain ⟨q19, hq19, h⟩ := xbs h
    refine x_callI (pc := 119) (As := [.int ((1 : Int32)), .int ((0 : Int32))]) (b := k0) (rest := []) o (tX12_passes _ M _ n k0 ((1 : Int32)) ((0 : Int32)) S q19 hq19) eX12_passes mX12_595 clX12 (kX12_passes hq19) (by decide) rfl rfl (Nat.le_of_ble_eq_true rfl) dX12_shavings_119 ?_
    refine x_pop (pc := 122) o dX12_shavings_122 rfl ?_
    refine x_iconst (pc := 123) o dX12_shavings_123 ic_1 ?_
    refine x_istore (pc := 124) o dX12_shavings_124 hn4 ?_
    refine x_iconst (pc := 126) o dX12_shavings_126 ic_0 ?_
    refine x_istore (pc := 127) o dX12_shavings_127 hn5 ?_
    obtain ⟨z31, hz31, h⟩ := xbs h
    refine x_to (l := [(0, .ref (M.2.1 k0)), (1, .int a1), (3, .int a3), (4, .int ((1 : Int32))), (5, .int ((0 : Int32)))]) ⟨rfl, rfl, rfl, rfl, rfl, trivial⟩ ?_
    refine tX12_shavings_L129 o hnL n k0 a1 a3 z31 ?_ n ((1 : Int32)) ((0 : Int32)) q19.2 hz31
    refine x_iload (pc := 179) o dX12_shavings_179 rfl ?_
    refine x_if_ne (pc := 181) (tgt := 187) o dX12_shavings_181 (by decide) (fun c39 => ?_) (fun c39 => ?_)
    · have h := xif h c39
      refine x_aload_n (pc := 187) o dX12_shavings_187 rfl rfl ?_
      obtain ⟨r32, hr32, h⟩ := xbs h
      refine gX12_267 (pc := 188) o dX12_shavings_188 hr32 ?_
      refine x_aload_n (pc := 191) o dX12_shavings_191 rfl rfl ?_
      obtain ⟨v33, hv33, h⟩ := xbs h
      refine gX12_264 (pc := 192) o dX12_shavings_192 hv33 ?_
      refine x_iload_n (pc := 195) o dX12_shavings_195 rfl rfl ?_
      obtain ⟨S34, hS34, h⟩ := xbs h
      refine x_iastore (pc := 196) o dX12_shavings_196 hS34 ?_
      refine x_aload_n (pc := 197) o dX12_shavings_197 rfl rfl ?_
      refine x_dup (pc := 198) o dX12_shavings_198 rfl ?_
      obtain ⟨v35, hv35, h⟩ := xbs h
      refine gX12_264 (pc := 199) o dX12_shavings_199 hv35 ?_
      refine x_iconst (pc := 202) o dX12_shavings_202 ic_1 ?_
      refine x_iadd (pc := 203) o dX12_shavings_203 ?_
      obtain ⟨S36, hS36, h⟩ := xbs h
      refine pX12_264 (pc := 204) o dX12_shavings_204 hS36 ?_
      obtain ⟨v37, hv37, h⟩ := xbs h
      refine x_iincE (pc := 207) o dX12_shavings_207 rfl ic_1 hn3 hv37 ?_
      refine x_goto (pc := 210) (tgt := 103) o dX12_shavings_210 (by decide) ?_
      refine x_to (l := [(0, .ref (M.2.1 k0)), (1, .int a1), (3, .int v37)]) ⟨rfl, rfl, rfl, trivial⟩ ?_
      exact hrec v37 S36 h
    · have h := xit h c39
      refine x_goto (pc := 184) (tgt := 207) o dX12_shavings_184 (by decide) ?_
      obtain ⟨v38, hv38, h⟩ := xbs h
      refine x_iincE (pc := 207) o dX12_shavings_207 rfl ic_1 hn3 hv38 ?_
      refine x_goto (pc := 210) (tgt := 103) o dX12_shavings_210 (by decide) ?_
      refine x_to (l := [(0, .ref (M.2.1 k0)), (1, .int a1), (3, .int v38)]) ⟨rfl, rfl, rfl, trivial⟩ ?_
      exact hrec v38 z31.2 h
theorem tX12_shavings_L103 {Γ : xGm} {M : xMg} (o : xOk Γ tM M 9 cX12_shavings RX12) (hnL : Γ.2.2.2 = 6) (n : Nat) (k0 : Nat) (a1 : Int32) (z : (xSt)) (K : xAt Γ tM M 213 (xlv [(0, .ref (M.2.1 k0))]) [] z) : ∀ (q : Nat) (a3 : Int32) (S : xSt), fX12_shavings_L103 n k0 a1 q a3 S = some z → xAt Γ tM M 103 (xlv [(0, .ref (M.2.1 k0)), (1, .int a1), (3, .int a3)]) [] S := by
  intro q
  induction q with
  | zero => intro a3 S h; cases h
  | succ q ih => intro a3 S h; exact tX12_shavings_L103b o hnL n k0 a1 a3 S z ih K h
def fX12_shavings_B80 (n : Nat) (k0 : Nat) (a1 : Int32) (a2 : Int32) (S : xSt) : Option (Int32 × xSt) :=
  if a2 = 0 then
  ((fX12_refuses k0 ((5 : Int32)) S).bind fun q43 =>
  some (q43.1, q43.2))
else
  ((xpI tM 12 83 k0 ((0 : Int32)) S).bind fun S16 =>
  (fX12_copies n k0 ((1 : Int32)) ((0 : Int32)) S16).bind fun S17 =>
  (fX12_shavings_L103 n k0 a1 n ((0 : Int32)) S17).bind fun z41 => (xgI tM 12 83 k0 z41).bind fun v42 =>
  some (v42, z41))
set_option maxHeartbeats 4000000 in
theorem tX12_shavings_B80 {Γ : xGm} {M : xMg} (o : xOk Γ tM M 9 cX12_shavings RX12) (hnL : Γ.2.2.2 = 6) (n : Nat) (k0 : Nat) (a1 : Int32) (a2 : Int32) (S : xSt) (z : (Int32 × xSt)) (hr : xRI Γ tM M (some .int) z.1 z.2) (h : fX12_shavings_B80 n k0 a1 a2 S = some z) : xAt Γ tM M 80 (xlv [(0, .ref (M.2.1 k0)), (1, .int a1), (2, .int a2)]) [] S := by
  have hn3 : 3 < Γ.2.2.2 := by omega
  unfold fX12_shavings_B80 at h
  refine x_iload_n (pc := 80) o dX12_shavings_80 rfl rfl ?_
  refine x_if_ne (pc := 81) (tgt := 90) o dX12_shavings_81 (by decide) (fun c44 => ?_) (fun c44 => ?_)
  · have h := xif h c44
    refine x_aload_n (pc := 90) o dX12_shavings_90 rfl rfl ?_
    refine x_iconst (pc := 91) o dX12_shavings_91 ic_0 ?_
    obtain ⟨S16, hS16, h⟩ := xbs h
    refine pX12_264 (pc := 92) o dX12_shavings_92 hS16 ?_
    refine x_aload_n (pc := 95) o dX12_shavings_95 rfl rfl ?_
    refine x_iconst (pc := 96) o dX12_shavings_96 ic_1 ?_
    refine x_iconst (pc := 97) o dX12_shavings_97 ic_0 ?_
    obtain ⟨S17, hS17, h⟩ := xbs h
    refine x_callV (pc := 98) (As := [.int ((1 : Int32)), .int ((0 : Int32))]) (b := k0) (rest := []) o (tX12_copies _ M _ n k0 ((1 : Int32)) ((0 : Int32)) S16 S17 hS17) eX12_copies mX12_493 clX12 (kX12_copies hS17) (by decide) rfl rfl (Nat.le_of_ble_eq_true rfl) dX12_shavings_98 ?_
    refine x_iconst (pc := 101) o dX12_shavings_101 ic_0 ?_
    refine x_istore_n (pc := 102) o dX12_shavings_102 rfl hn3 ?_
    obtain ⟨z41, hz41, h⟩ := xbs h
    refine x_to (l := [(0, .ref (M.2.1 k0)), (1, .int a1), (3, .int ((0 : Int32)))]) ⟨rfl, rfl, rfl, trivial⟩ ?_
    refine tX12_shavings_L103 o hnL n k0 a1 z41 ?_ n ((0 : Int32)) S17 hz41
    refine x_aload_n (pc := 213) o dX12_shavings_213 rfl rfl ?_
    obtain ⟨v42, hv42, h⟩ := xbs h
    refine gX12_264 (pc := 214) o dX12_shavings_214 hv42 ?_
    exact x_ireturn (pc := 217) o hr dX12_shavings_217 (xr1 h) (xr2 h)
  · have h := xit h c44
    refine x_aload_n (pc := 84) o dX12_shavings_84 rfl rfl ?_
    refine x_iconst (pc := 85) o dX12_shavings_85 ic_5 ?_
    obtain ⟨q43, hq43, h⟩ := xbs h
    refine x_callI (pc := 86) (As := [.int ((5 : Int32))]) (b := k0) (rest := []) o (tX12_refuses _ M _ k0 ((5 : Int32)) S q43 hq43) eX12_refuses mX12_280 clX12 (kX12_refuses hq43) (by decide) rfl rfl (Nat.le_of_ble_eq_true rfl) dX12_shavings_86 ?_
    exact x_ireturn (pc := 89) o hr dX12_shavings_89 (xr1 h) (xr2 h)
def fX12_shavings_B31 (n : Nat) (k0 : Nat) (a1 : Int32) (s0 : Int32) (S : xSt) : Option (Int32 × xSt) :=
  (fX12_shavings_L34 n k0 a1 n s0 ((0 : Int32)) S).bind fun z15 => fX12_shavings_B80 n k0 a1 z15.1 z15.2
set_option maxHeartbeats 4000000 in
theorem tX12_shavings_B31 {Γ : xGm} {M : xMg} (o : xOk Γ tM M 9 cX12_shavings RX12) (hnL : Γ.2.2.2 = 6) (n : Nat) (k0 : Nat) (a1 : Int32) (s0 : Int32) (S : xSt) (z : (Int32 × xSt)) (hr : xRI Γ tM M (some .int) z.1 z.2) (h : fX12_shavings_B31 n k0 a1 s0 S = some z) : xAt Γ tM M 31 (xlv [(0, .ref (M.2.1 k0)), (1, .int a1)]) [.int s0] S := by
  have hn2 : 2 < Γ.2.2.2 := by omega
  have hn3 : 3 < Γ.2.2.2 := by omega
  unfold fX12_shavings_B31 at h
  refine x_istore_n (pc := 31) o dX12_shavings_31 rfl hn2 ?_
  refine x_iconst (pc := 32) o dX12_shavings_32 ic_0 ?_
  refine x_istore_n (pc := 33) o dX12_shavings_33 rfl hn3 ?_
  obtain ⟨z15, hz15, h⟩ := xbs h
  refine x_to (l := [(0, .ref (M.2.1 k0)), (1, .int a1), (2, .int s0), (3, .int ((0 : Int32)))]) ⟨rfl, rfl, rfl, rfl, trivial⟩ ?_
  refine tX12_shavings_L34 o hnL n k0 a1 z15 ?_ n s0 ((0 : Int32)) S hz15
  refine x_to (l := [(0, .ref (M.2.1 k0)), (1, .int a1), (2, .int z15.1)]) ⟨rfl, rfl, rfl, trivial⟩ ?_
  exact tX12_shavings_B80 o hnL n k0 a1 z15.1 z15.2 z hr h
def fX12_shavings_B30 (n : Nat) (k0 : Nat) (a1 : Int32) (S : xSt) : Option (Int32 × xSt) :=
  fX12_shavings_B31 n k0 a1 ((0 : Int32)) S
set_option maxHeartbeats 4000000 in
theorem tX12_shavings_B30 {Γ : xGm} {M : xMg} (o : xOk Γ tM M 9 cX12_shavings RX12) (hnL : Γ.2.2.2 = 6) (n : Nat) (k0 : Nat) (a1 : Int32) (S : xSt) (z : (Int32 × xSt)) (hr : xRI Γ tM M (some .int) z.1 z.2) (h : fX12_shavings_B30 n k0 a1 S = some z) : xAt Γ tM M 30 (xlv [(0, .ref (M.2.1 k0)), (1, .int a1)]) [] S := by
  unfold fX12_shavings_B30 at h
  refine x_iconst (pc := 30) o dX12_shavings_30 ic_0 ?_
  refine x_to (l := [(0, .ref (M.2.1 k0)), (1, .int a1)]) ⟨rfl, rfl, trivial⟩ ?_
  exact tX12_shavings_B31 o hnL n k0 a1 ((0 : Int32)) S z hr h
def fX12_shavings (n : Nat) (k0 : Nat) (S : xSt) : Option (Int32 × xSt) :=
  if tM.1 k0 = 12 then
  ((xgI tM 12 1 k0 S).bind fun v1 =>
  (xpI tM 12 1 k0 ((0 : Int32)) S).bind fun S2 =>
  if v1 ≤ 0 then
  (fX12_shavings_B30 n k0 v1 S2)
else
  (if ((2 : Int32)) = 0 then none else
  if (v1 - v1 / ((2 : Int32)) * ((2 : Int32))) = 0 then
  (if ((32 : Int32)) < v1 then
  (fX12_shavings_B30 n k0 v1 S2)
else
  (fX12_shavings_B31 n k0 v1 ((1 : Int32)) S2))
else
  (fX12_shavings_B30 n k0 v1 S2)))
  else none
theorem kX12_shavings {z : Int32 × xSt} {n : Nat} {k0 : Nat} {S : xSt} (h : fX12_shavings n k0 S = some z) : tM.1 k0 = 12 := by
  unfold fX12_shavings at h
  exact (xck h).1
set_option maxHeartbeats 4000000 in
theorem tX12_shavings (l : Launch) (M : xMg) (A : Nat → Prop) (n : Nat) (k0 : Nat) (S : xSt) (z : Int32 × xSt) (h : fX12_shavings n k0 S = some z) : xMI l yX12_shavings cX12_shavings 6 (some .int) 9 tM M A [.ref (M.2.1 k0)] S z.1 z.2 := by
  refine x_metI (plainFor_of_name (by decide)) tM_ok (Nat.le_of_ble_eq_true rfl) (fun Γ hA hnL hl hr o => ?_)
  subst hA; subst hl
  have o : xOk Γ tM M 9 cX12_shavings RX12 := o
  unfold fX12_shavings at h
  obtain ⟨hk0, h⟩ := xck h
  refine x_to (l := [(0, .ref (M.2.1 k0))]) ⟨rfl, trivial⟩ ?_
  have hn1 : 1 < Γ.2.2.2 := by omega
  refine x_aload_n (pc := 0) o dX12_shavings_0 rfl rfl ?_
  obtain ⟨v1, hv1, h⟩ := xbs h
  refine gX12_13 (pc := 1) o dX12_shavings_1 hv1 ?_
  refine x_istore_n (pc := 4) o dX12_shavings_4 rfl hn1 ?_
  refine x_aload_n (pc := 5) o dX12_shavings_5 rfl rfl ?_
  refine x_iconst (pc := 6) o dX12_shavings_6 ic_0 ?_
  obtain ⟨S2, hS2, h⟩ := xbs h
  refine pX12_13 (pc := 7) o dX12_shavings_7 hS2 ?_
  refine x_iload_n (pc := 10) o dX12_shavings_10 rfl rfl ?_
  refine x_if_le (pc := 11) (tgt := 30) o dX12_shavings_11 (by decide) (fun c47 => ?_) (fun c47 => ?_)
  · have h := xit h c47
    refine x_to (l := [(0, .ref (M.2.1 k0)), (1, .int v1)]) ⟨rfl, rfl, trivial⟩ ?_
    exact tX12_shavings_B30 o hnL n k0 v1 S2 z hr h
  · have h := xif h c47
    refine x_iload_n (pc := 14) o dX12_shavings_14 rfl rfl ?_
    refine x_iconst (pc := 15) o dX12_shavings_15 ic_2 ?_
    obtain ⟨hq, h⟩ := xcn h
    refine x_irem (pc := 16) o dX12_shavings_16 hq ?_
    refine x_if_ne (pc := 17) (tgt := 30) o dX12_shavings_17 (by decide) (fun c46 => ?_) (fun c46 => ?_)
    · have h := xif h c46
      refine x_to (l := [(0, .ref (M.2.1 k0)), (1, .int v1)]) ⟨rfl, rfl, trivial⟩ ?_
      exact tX12_shavings_B30 o hnL n k0 v1 S2 z hr h
    · have h := xit h c46
      refine x_iload_n (pc := 20) o dX12_shavings_20 rfl rfl ?_
      refine x_bipush (pc := 21) o dX12_shavings_21 bp_32 ?_
      refine x_icmp_gt (pc := 23) (tgt := 30) o dX12_shavings_23 (by decide) (fun c45 => ?_) (fun c45 => ?_)
      · have h := xit h c45
        refine x_to (l := [(0, .ref (M.2.1 k0)), (1, .int v1)]) ⟨rfl, rfl, trivial⟩ ?_
        exact tX12_shavings_B30 o hnL n k0 v1 S2 z hr h
      · have h := xif h c45
        refine x_iconst (pc := 26) o dX12_shavings_26 ic_1 ?_
        refine x_goto (pc := 27) (tgt := 31) o dX12_shavings_27 (by decide) ?_
        refine x_to (l := [(0, .ref (M.2.1 k0)), (1, .int v1)]) ⟨rfl, rfl, trivial⟩ ?_
        exact tX12_shavings_B31 o hnL n k0 v1 ((1 : Int32)) S2 z hr h
def fX12_when (k0 : Nat) (a1 : Int32) (S : xSt) : Option (Int32) :=
  if tM.1 k0 = 12 then
  ((xgI tM 12 83 k0 S).bind fun v1 =>
  (fX12_is a1 ((0 : Int32)) (v1 - ((1 : Int32))) S).bind fun v2 =>
  if v2 = 0 then
  (some ((-1 : Int32)))
else
  ((xgF tM 12 84 k0 S).bind fun r3 =>
  (xal tM r3 a1 S).bind fun v4 =>
  some v4))
  else none
theorem kX12_when {z : Int32} {k0 : Nat} {a1 : Int32} {S : xSt} (h : fX12_when k0 a1 S = some z) : tM.1 k0 = 12 := by
  unfold fX12_when at h
  exact (xck h).1
set_option maxHeartbeats 4000000 in
theorem tX12_when (l : Launch) (M : xMg) (A : Nat → Prop) (k0 : Nat) (a1 : Int32) (S : xSt) (z : Int32) (h : fX12_when k0 a1 S = some z) : xMI l yX12_when cX12_when 2 (some .int) 2 tM M A [.ref (M.2.1 k0), .int a1] S z S := by
  refine x_metI (plainFor_of_name (by decide)) tM_ok (Nat.le_of_ble_eq_true rfl) (fun Γ hA hnL hl hr o => ?_)
  subst hA; subst hl
  have o : xOk Γ tM M 2 cX12_when RX12 := o
  unfold fX12_when at h
  obtain ⟨hk0, h⟩ := xck h
  refine x_to (l := [(0, .ref (M.2.1 k0)), (1, .int a1)]) ⟨rfl, rfl, trivial⟩ ?_
  refine x_iload_n (pc := 0) o dX12_when_0 rfl rfl ?_
  refine x_iconst (pc := 1) o dX12_when_1 ic_0 ?_
  refine x_aload_n (pc := 2) o dX12_when_2 rfl rfl ?_
  obtain ⟨v1, hv1, h⟩ := xbs h
  refine gX12_264 (pc := 3) o dX12_when_3 hv1 ?_
  refine x_iconst (pc := 6) o dX12_when_6 ic_1 ?_
  refine x_isub (pc := 7) o dX12_when_7 ?_
  obtain ⟨v2, hv2, h⟩ := xbs h
  refine x_statI (pc := 8) (As := [.int a1, .int ((0 : Int32)), .int (v1 - ((1 : Int32)))]) (rest := []) o (tX12_is _ M _ a1 ((0 : Int32)) (v1 - ((1 : Int32))) S v2 hv2) eX12_is mX12_379 (by decide) rfl rfl (Nat.le_of_ble_eq_true rfl) dX12_when_8 ?_
  refine x_if_eq (pc := 11) (tgt := 23) o dX12_when_11 (by decide) (fun c5 => ?_) (fun c5 => ?_)
  · have h := xit h c5
    refine x_iconst (pc := 23) o dX12_when_23 ic_m1 ?_
    exact x_ireturn (pc := 24) o hr dX12_when_24 (Option.some.inj h) rfl
  · have h := xif h c5
    refine x_aload_n (pc := 14) o dX12_when_14 rfl rfl ?_
    obtain ⟨r3, hr3, h⟩ := xbs h
    refine gX12_267 (pc := 15) o dX12_when_15 hr3 ?_
    refine x_iload_n (pc := 18) o dX12_when_18 rfl rfl ?_
    obtain ⟨v4, hv4, h⟩ := xbs h
    refine x_iaload (pc := 19) o dX12_when_19 hv4 ?_
    refine x_goto (pc := 20) (tgt := 24) o dX12_when_20 (by decide) ?_
    exact x_ireturn (pc := 24) o hr dX12_when_24 (Option.some.inj h) rfl
def fX12_days_L25b (n : Nat) (k0 : Nat) (a1 : Int32) (rec : Int32 → Int32 → xSt → Option (Int32 × xSt)) (a2 : Int32) (a3 : Int32) (S : xSt) : Option (Int32 × xSt) :=
  if a1 ≤ a3 then
  (some (a2, S))
else
  ((fX12_passes n k0 ((0 : Int32)) ((0 : Int32)) S).bind fun q3 =>
  (some (a2 + q3.1)).bind fun v4 =>
  (some (a3 + (1 : Int32))).bind fun v5 =>
  rec v4 v5 q3.2)
def fX12_days_L25 (n : Nat) (k0 : Nat) (a1 : Int32) : Nat → Int32 → Int32 → xSt → Option (Int32 × xSt)
  | 0 => fun _ _ _ => none
  | q + 1 => fX12_days_L25b n k0 a1 (fX12_days_L25 n k0 a1 q)
set_option maxHeartbeats 4000000 in
theorem tX12_days_L25b {Γ : xGm} {M : xMg} (o : xOk Γ tM M 9 cX12_days RX12) (hnL : Γ.2.2.2 = 4) {rec : Int32 → Int32 → xSt → Option (Int32 × xSt)} (n : Nat) (k0 : Nat) (a1 : Int32) (a2 : Int32) (a3 : Int32) (S : xSt) (z : (Int32 × xSt)) (hrec : ∀ (a2 : Int32) (a3 : Int32) (S : xSt), rec a2 a3 S = some z → xAt Γ tM M 25 (xlv [(0, .ref (M.2.1 k0)), (1, .int a1), (2, .int a2), (3, .int a3)]) [] S) (K : xAt Γ tM M 45 (xlv [(2, .int z.1)]) [] z.2) (h : fX12_days_L25b n k0 a1 rec a2 a3 S = some z) : xAt Γ tM M 25 (xlv [(0, .ref (M.2.1 k0)), (1, .int a1), (2, .int a2), (3, .int a3)]) [] S := by
  have hn2 : 2 < Γ.2.2.2 := by omega
  have hn3 : 3 < Γ.2.2.2 := by omega
  unfold fX12_days_L25b at h
  refine x_iload_n (pc := 25) o dX12_days_25 rfl rfl ?_
  refine x_iload_n (pc := 26) o dX12_days_26 rfl rfl ?_
  refine x_icmp_ge (pc := 27) (tgt := 45) o dX12_days_27 (by decide) (fun c6 => ?_) (fun c6 => ?_)
  · have h := xit h c6
    refine x_to (l := [(2, .int a2)]) ⟨rfl, trivial⟩ ?_
    cases Option.some.inj h
    exact K
  · have h := xif h c6
    refine x_iload_n (pc := 30) o dX12_days_30 rfl rfl ?_
    refine x_aload_n (pc := 31) o dX12_days_31 rfl rfl ?_
    refine x_iconst (pc := 32) o dX12_days_32 ic_0 ?_
    refine x_iconst (pc := 33) o dX12_days_33 ic_0 ?_
    obtain ⟨q3, hq3, h⟩ := xbs h
    refine x_callI (pc := 34) (As := [.int ((0 : Int32)), .int ((0 : Int32))]) (b := k0) (rest := [.int a2]) o (tX12_passes _ M _ n k0 ((0 : Int32)) ((0 : Int32)) S q3 hq3) eX12_passes mX12_595 clX12 (kX12_passes hq3) (by decide) rfl rfl (Nat.le_of_ble_eq_true rfl) dX12_days_34 ?_
    refine x_iadd (pc := 37) o dX12_days_37 ?_
    obtain ⟨v4, hv4, h⟩ := xbs h
    refine x_istore_nE (pc := 38) o dX12_days_38 rfl hn2 hv4 ?_
    obtain ⟨v5, hv5, h⟩ := xbs h
    refine x_iincE (pc := 39) o dX12_days_39 rfl ic_1 hn3 hv5 ?_
    refine x_goto (pc := 42) (tgt := 25) o dX12_days_42 (by decide) ?_
    refine x_to (l := [(0, .ref (M.2.1 k0)), (1, .int a1), (2, .int v4), (3, .int v5)]) ⟨rfl, rfl, rfl, rfl, trivial⟩ ?_
    exact hrec v4 v5 q3.2 h
theorem tX12_days_L25 {Γ : xGm} {M : xMg} (o : xOk Γ tM M 9 cX12_days RX12) (hnL : Γ.2.2.2 = 4) (n : Nat) (k0 : Nat) (a1 : Int32) (z : (Int32 × xSt)) (K : xAt Γ tM M 45 (xlv [(2, .int z.1)]) [] z.2) : ∀ (q : Nat) (a2 : Int32) (a3 : Int32) (S : xSt), fX12_days_L25 n k0 a1 q a2 a3 S = some z → xAt Γ tM M 25 (xlv [(0, .ref (M.2.1 k0)), (1, .int a1), (2, .int a2), (3, .int a3)]) [] S := by
  intro q
  induction q with
  | zero => intro a2 a3 S h; cases h
  | succ q ih => intro a2 a3 S h; exact tX12_days_L25b o hnL n k0 a1 a2 a3 S z ih K h
def fX12_days (n : Nat) (k0 : Nat) (a1 : Int32) (S : xSt) : Option (Int32 × xSt) :=
  if tM.1 k0 = 12 then
  ((fX12_isAhead k0 a1 ((1 : Int32)) ((100 : Int32)) S).bind fun v1 =>
  if v1 = 0 then
  ((fX12_refuses k0 ((2 : Int32)) S).bind fun q8 =>
  some (q8.1, q8.2))
else
  ((fX12_keeps n k0 S).bind fun S2 =>
  (fX12_days_L25 n k0 a1 n ((0 : Int32)) ((0 : Int32)) S2).bind fun z7 => some (z7.1, z7.2)))
  else none
theorem kX12_days {z : Int32 × xSt} {n : Nat} {k0 : Nat} {a1 : Int32} {S : xSt} (h : fX12_days n k0 a1 S = some z) : tM.1 k0 = 12 := by
  unfold fX12_days at h
  exact (xck h).1
set_option maxHeartbeats 4000000 in
theorem tX12_days (l : Launch) (M : xMg) (A : Nat → Prop) (n : Nat) (k0 : Nat) (a1 : Int32) (S : xSt) (z : Int32 × xSt) (h : fX12_days n k0 a1 S = some z) : xMI l yX12_days cX12_days 4 (some .int) 9 tM M A [.ref (M.2.1 k0), .int a1] S z.1 z.2 := by
  refine x_metI (plainFor_of_name (by decide)) tM_ok (Nat.le_of_ble_eq_true rfl) (fun Γ hA hnL hl hr o => ?_)
  subst hA; subst hl
  have o : xOk Γ tM M 9 cX12_days RX12 := o
  unfold fX12_days at h
  obtain ⟨hk0, h⟩ := xck h
  refine x_to (l := [(0, .ref (M.2.1 k0)), (1, .int a1)]) ⟨rfl, rfl, trivial⟩ ?_
  have hn2 : 2 < Γ.2.2.2 := by omega
  have hn3 : 3 < Γ.2.2.2 := by omega
  refine x_aload_n (pc := 0) o dX12_days_0 rfl rfl ?_
  refine x_iload_n (pc := 1) o dX12_days_1 rfl rfl ?_
  refine x_iconst (pc := 2) o dX12_days_2 ic_1 ?_
  refine x_bipush (pc := 3) o dX12_days_3 bp_100 ?_
  obtain ⟨v1, hv1, h⟩ := xbs h
  refine x_callI (pc := 5) (As := [.int a1, .int ((1 : Int32)), .int ((100 : Int32))]) (b := k0) (rest := []) o (tX12_isAhead _ M _ k0 a1 ((1 : Int32)) ((100 : Int32)) S v1 hv1) eX12_isAhead mX12_592 clX12 (kX12_isAhead hv1) (by decide) rfl rfl (Nat.le_of_ble_eq_true rfl) dX12_days_5 ?_
  refine x_if_ne (pc := 8) (tgt := 17) o dX12_days_8 (by decide) (fun c9 => ?_) (fun c9 => ?_)
  · have h := xif h c9
    refine x_aload_n (pc := 17) o dX12_days_17 rfl rfl ?_
    obtain ⟨S2, hS2, h⟩ := xbs h
    refine x_callV (pc := 18) (As := []) (b := k0) (rest := []) o (tX12_keeps _ M _ n k0 S S2 hS2) eX12_keeps mX12_624 clX12 (kX12_keeps hS2) (by decide) rfl rfl (Nat.le_of_ble_eq_true rfl) dX12_days_18 ?_
    refine x_iconst (pc := 21) o dX12_days_21 ic_0 ?_
    refine x_istore_n (pc := 22) o dX12_days_22 rfl hn2 ?_
    refine x_iconst (pc := 23) o dX12_days_23 ic_0 ?_
    refine x_istore_n (pc := 24) o dX12_days_24 rfl hn3 ?_
    obtain ⟨z7, hz7, h⟩ := xbs h
    refine x_to (l := [(0, .ref (M.2.1 k0)), (1, .int a1), (2, .int ((0 : Int32))), (3, .int ((0 : Int32)))]) ⟨rfl, rfl, rfl, rfl, trivial⟩ ?_
    refine tX12_days_L25 o hnL n k0 a1 z7 ?_ n ((0 : Int32)) ((0 : Int32)) S2 hz7
    refine x_iload_n (pc := 45) o dX12_days_45 rfl rfl ?_
    exact x_ireturn (pc := 46) o hr dX12_days_46 (xr1 h) (xr2 h)
  · have h := xit h c9
    refine x_aload_n (pc := 11) o dX12_days_11 rfl rfl ?_
    refine x_iconst (pc := 12) o dX12_days_12 ic_2 ?_
    obtain ⟨q8, hq8, h⟩ := xbs h
    refine x_callI (pc := 13) (As := [.int ((2 : Int32))]) (b := k0) (rest := []) o (tX12_refuses _ M _ k0 ((2 : Int32)) S q8 hq8) eX12_refuses mX12_280 clX12 (kX12_refuses hq8) (by decide) rfl rfl (Nat.le_of_ble_eq_true rfl) dX12_days_13 ?_
    exact x_ireturn (pc := 16) o hr dX12_days_16 (xr1 h) (xr2 h)
def fX12_draw (k0 : Nat) (a1 : Int32) (S : xSt) : Option (Int32 × xSt) :=
  if tM.1 k0 = 12 then
  ((xgL tM 12 66 k0 S).bind fun v1 =>
  if ((2147483648 : Int64)) = 0 then none else
  (xpL tM 12 66 k0 (((((1103515245 : Int64)) * v1) + ((12345 : Int64))) - ((((1103515245 : Int64)) * v1) + ((12345 : Int64))) / ((2147483648 : Int64)) * ((2147483648 : Int64))) S).bind fun S2 =>
  (xgL tM 12 66 k0 S2).bind fun v3 =>
  if ((64 : Int64)) = 0 then none else
  if a1.toInt64 = 0 then none else
  some (((v3 / ((64 : Int64))) - (v3 / ((64 : Int64))) / a1.toInt64 * a1.toInt64).toInt32, S2))
  else none
theorem kX12_draw {z : Int32 × xSt} {k0 : Nat} {a1 : Int32} {S : xSt} (h : fX12_draw k0 a1 S = some z) : tM.1 k0 = 12 := by
  unfold fX12_draw at h
  exact (xck h).1
set_option maxHeartbeats 4000000 in
theorem tX12_draw (l : Launch) (M : xMg) (A : Nat → Prop) (k0 : Nat) (a1 : Int32) (S : xSt) (z : Int32 × xSt) (h : fX12_draw k0 a1 S = some z) : xMI l yX12_draw cX12_draw 2 (some .int) 1 tM M A [.ref (M.2.1 k0), .int a1] S z.1 z.2 := by
  refine x_metI (plainFor_of_name (by decide)) tM_ok (Nat.le_of_ble_eq_true rfl) (fun Γ hA hnL hl hr o => ?_)
  subst hA; subst hl
  have o : xOk Γ tM M 1 cX12_draw RX12 := o
  unfold fX12_draw at h
  obtain ⟨hk0, h⟩ := xck h
  refine x_to (l := [(0, .ref (M.2.1 k0)), (1, .int a1)]) ⟨rfl, rfl, trivial⟩ ?_
  refine x_aload_n (pc := 0) o dX12_draw_0 rfl rfl ?_
  refine x_ldc2 (pc := 1) o kcX12_627 dX12_draw_1 ?_
  refine x_aload_n (pc := 4) o dX12_draw_4 rfl rfl ?_
  obtain ⟨v1, hv1, h⟩ := xbs h
  refine gX12_213 (pc := 5) o dX12_draw_5 hv1 ?_
  refine x_lmul (pc := 8) o dX12_draw_8 ?_
  refine x_ldc2 (pc := 9) o kcX12_629 dX12_draw_9 ?_
  refine x_ladd (pc := 12) o dX12_draw_12 ?_
  refine x_ldc2 (pc := 13) o kcX12_631 dX12_draw_13 ?_
  obtain ⟨hq, h⟩ := xcn h
  refine x_lrem (pc := 16) o dX12_draw_16 hq ?_
  obtain ⟨S2, hS2, h⟩ := xbs h
  refine pX12_213 (pc := 17) o dX12_draw_17 hS2 ?_
  refine x_aload_n (pc := 20) o dX12_draw_20 rfl rfl ?_
  obtain ⟨v3, hv3, h⟩ := xbs h
  refine gX12_213 (pc := 21) o dX12_draw_21 hv3 ?_
  refine x_ldc2 (pc := 24) o kcX12_633 dX12_draw_24 ?_
  obtain ⟨hq, h⟩ := xcn h
  refine x_ldiv (pc := 27) o dX12_draw_27 hq ?_
  refine x_iload_n (pc := 28) o dX12_draw_28 rfl rfl ?_
  refine x_i2l (pc := 29) o dX12_draw_29 ?_
  obtain ⟨hq, h⟩ := xcn h
  refine x_lrem (pc := 30) o dX12_draw_30 hq ?_
  refine x_l2i (pc := 31) o dX12_draw_31 ?_
  exact x_ireturn (pc := 32) o hr dX12_draw_32 (xr1 h) (xr2 h)
def fX12_chance_B49_25 (n : Nat) (rec : Int32 → Int32 → xSt → Option (Int32 × xSt)) (k0 : Nat) (a1 : Int32) (a2 : Int32) (a3 : Int32) (s0 : Int32) (S : xSt) : Option (Int32 × xSt) :=
  if s0 = 0 then
  ((some (a2 + ((0 : Int32)))).bind fun v5 =>
  (fX12_passes n k0 ((0 : Int32)) s0 S).bind fun q6 =>
  (some (a3 + (1 : Int32))).bind fun v7 =>
  rec v5 v7 q6.2)
else
  ((some (a2 + ((1 : Int32)))).bind fun v8 =>
  (fX12_passes n k0 ((0 : Int32)) s0 S).bind fun q9 =>
  (some (a3 + (1 : Int32))).bind fun v10 =>
  rec v8 v10 q9.2)
set_option maxHeartbeats 4000000 in
theorem tX12_chance_B49_25 {Γ : xGm} {M : xMg} (o : xOk Γ tM M 9 cX12_chance RX12) (hnL : Γ.2.2.2 = 5) {rec : Int32 → Int32 → xSt → Option (Int32 × xSt)} (n : Nat) (k0 : Nat) (a1 : Int32) (a2 : Int32) (a3 : Int32) (s0 : Int32) (S : xSt) (z : (Int32 × xSt)) (hrec : ∀ (a2 : Int32) (a3 : Int32) (S : xSt), rec a2 a3 S = some z → xAt Γ tM M 25 (xlv [(0, .ref (M.2.1 k0)), (1, .int a1), (2, .int a2), (3, .int a3)]) [] S) (K : xAt Γ tM M 78 (xlv [(2, .int z.1)]) [] z.2) (h : fX12_chance_B49_25 n rec k0 a1 a2 a3 s0 S = some z) : xAt Γ tM M 49 (xlv [(0, .ref (M.2.1 k0)), (1, .int a1), (2, .int a2), (3, .int a3)]) [.int s0] S := by
  have hn2 : 2 < Γ.2.2.2 := by omega
  have hn3 : 3 < Γ.2.2.2 := by omega
  have hn4 : 4 < Γ.2.2.2 := by omega
  unfold fX12_chance_B49_25 at h
  refine x_istore (pc := 49) o dX12_chance_49 hn4 ?_
  refine x_iload_n (pc := 51) o dX12_chance_51 rfl rfl ?_
  refine x_iload (pc := 52) o dX12_chance_52 rfl ?_
  refine x_if_eq (pc := 54) (tgt := 61) o dX12_chance_54 (by decide) (fun c11 => ?_) (fun c11 => ?_)
  · have h := xit h c11
    refine x_iconst (pc := 61) o dX12_chance_61 ic_0 ?_
    refine x_iadd (pc := 62) o dX12_chance_62 ?_
    obtain ⟨v5, hv5, h⟩ := xbs h
    refine x_istore_nE (pc := 63) o dX12_chance_63 rfl hn2 hv5 ?_
    refine x_aload_n (pc := 64) o dX12_chance_64 rfl rfl ?_
    refine x_iconst (pc := 65) o dX12_chance_65 ic_0 ?_
    refine x_iload (pc := 66) o dX12_chance_66 rfl ?_
    obtain ⟨q6, hq6, h⟩ := xbs h
    refine x_callI (pc := 68) (As := [.int ((0 : Int32)), .int s0]) (b := k0) (rest := []) o (tX12_passes _ M _ n k0 ((0 : Int32)) s0 S q6 hq6) eX12_passes mX12_595 clX12 (kX12_passes hq6) (by decide) rfl rfl (Nat.le_of_ble_eq_true rfl) dX12_chance_68 ?_
    refine x_pop (pc := 71) o dX12_chance_71 rfl ?_
    obtain ⟨v7, hv7, h⟩ := xbs h
    refine x_iincE (pc := 72) o dX12_chance_72 rfl ic_1 hn3 hv7 ?_
    refine x_goto (pc := 75) (tgt := 25) o dX12_chance_75 (by decide) ?_
    refine x_to (l := [(0, .ref (M.2.1 k0)), (1, .int a1), (2, .int v5), (3, .int v7)]) ⟨rfl, rfl, rfl, rfl, trivial⟩ ?_
    exact hrec v5 v7 q6.2 h
  · have h := xif h c11
    refine x_iconst (pc := 57) o dX12_chance_57 ic_1 ?_
    refine x_goto (pc := 58) (tgt := 62) o dX12_chance_58 (by decide) ?_
    refine x_iadd (pc := 62) o dX12_chance_62 ?_
    obtain ⟨v8, hv8, h⟩ := xbs h
    refine x_istore_nE (pc := 63) o dX12_chance_63 rfl hn2 hv8 ?_
    refine x_aload_n (pc := 64) o dX12_chance_64 rfl rfl ?_
    refine x_iconst (pc := 65) o dX12_chance_65 ic_0 ?_
    refine x_iload (pc := 66) o dX12_chance_66 rfl ?_
    obtain ⟨q9, hq9, h⟩ := xbs h
    refine x_callI (pc := 68) (As := [.int ((0 : Int32)), .int s0]) (b := k0) (rest := []) o (tX12_passes _ M _ n k0 ((0 : Int32)) s0 S q9 hq9) eX12_passes mX12_595 clX12 (kX12_passes hq9) (by decide) rfl rfl (Nat.le_of_ble_eq_true rfl) dX12_chance_68 ?_
    refine x_pop (pc := 71) o dX12_chance_71 rfl ?_
    obtain ⟨v10, hv10, h⟩ := xbs h
    refine x_iincE (pc := 72) o dX12_chance_72 rfl ic_1 hn3 hv10 ?_
    refine x_goto (pc := 75) (tgt := 25) o dX12_chance_75 (by decide) ?_
    refine x_to (l := [(0, .ref (M.2.1 k0)), (1, .int a1), (2, .int v8), (3, .int v10)]) ⟨rfl, rfl, rfl, rfl, trivial⟩ ?_
    exact hrec v8 v10 q9.2 h
def fX12_chance_L25b (n : Nat) (k0 : Nat) (a1 : Int32) (rec : Int32 → Int32 → xSt → Option (Int32 × xSt)) (a2 : Int32) (a3 : Int32) (S : xSt) : Option (Int32 × xSt) :=
  if a1 ≤ a3 then
  (some (a2, S))
else
  ((fX12_draw k0 ((100 : Int32)) S).bind fun q3 =>
  (fX12_toldOf k0 ((2 : Int32)) q3.2).bind fun v4 =>
  if v4 ≤ q3.1 then
  (fX12_chance_B49_25 n rec k0 a1 a2 a3 ((0 : Int32)) q3.2)
else
  (fX12_chance_B49_25 n rec k0 a1 a2 a3 ((1 : Int32)) q3.2))
def fX12_chance_L25 (n : Nat) (k0 : Nat) (a1 : Int32) : Nat → Int32 → Int32 → xSt → Option (Int32 × xSt)
  | 0 => fun _ _ _ => none
  | q + 1 => fX12_chance_L25b n k0 a1 (fX12_chance_L25 n k0 a1 q)
set_option maxHeartbeats 4000000 in
theorem tX12_chance_L25b {Γ : xGm} {M : xMg} (o : xOk Γ tM M 9 cX12_chance RX12) (hnL : Γ.2.2.2 = 5) {rec : Int32 → Int32 → xSt → Option (Int32 × xSt)} (n : Nat) (k0 : Nat) (a1 : Int32) (a2 : Int32) (a3 : Int32) (S : xSt) (z : (Int32 × xSt)) (hrec : ∀ (a2 : Int32) (a3 : Int32) (S : xSt), rec a2 a3 S = some z → xAt Γ tM M 25 (xlv [(0, .ref (M.2.1 k0)), (1, .int a1), (2, .int a2), (3, .int a3)]) [] S) (K : xAt Γ tM M 78 (xlv [(2, .int z.1)]) [] z.2) (h : fX12_chance_L25b n k0 a1 rec a2 a3 S = some z) : xAt Γ tM M 25 (xlv [(0, .ref (M.2.1 k0)), (1, .int a1), (2, .int a2), (3, .int a3)]) [] S := by
  unfold fX12_chance_L25b at h
  refine x_iload_n (pc := 25) o dX12_chance_25 rfl rfl ?_
  refine x_iload_n (pc := 26) o dX12_chance_26 rfl rfl ?_
  refine x_icmp_ge (pc := 27) (tgt := 78) o dX12_chance_27 (by decide) (fun c13 => ?_) (fun c13 => ?_)
  · have h := xit h c13
    refine x_to (l := [(2, .int a2)]) ⟨rfl, trivial⟩ ?_
    cases Option.some.inj h
    exact K
  · have h := xif h c13
    refine x_aload_n (pc := 30) o dX12_chance_30 rfl rfl ?_
    refine x_bipush (pc := 31) o dX12_chance_31 bp_100 ?_
    obtain ⟨q3, hq3, h⟩ := xbs h
    refine x_callI (pc := 33) (As := [.int ((100 : Int32))]) (b := k0) (rest := []) o (tX12_draw _ M _ k0 ((100 : Int32)) S q3 hq3) eX12_draw mX12_635 clX12 (kX12_draw hq3) (by decide) rfl rfl (Nat.le_of_ble_eq_true rfl) dX12_chance_33 ?_
    refine x_aload_n (pc := 36) o dX12_chance_36 rfl rfl ?_
    refine x_iconst (pc := 37) o dX12_chance_37 ic_2 ?_
    obtain ⟨v4, hv4, h⟩ := xbs h
    refine x_callI (pc := 38) (As := [.int ((2 : Int32))]) (b := k0) (rest := [.int q3.1]) o (tX12_toldOf _ M _ k0 ((2 : Int32)) q3.2 v4 hv4) eX12_toldOf mX12_561 clX12 (kX12_toldOf hv4) (by decide) rfl rfl (Nat.le_of_ble_eq_true rfl) dX12_chance_38 ?_
    refine x_icmp_ge (pc := 41) (tgt := 48) o dX12_chance_41 (by decide) (fun c12 => ?_) (fun c12 => ?_)
    · have h := xit h c12
      refine x_iconst (pc := 48) o dX12_chance_48 ic_0 ?_
      refine x_to (l := [(0, .ref (M.2.1 k0)), (1, .int a1), (2, .int a2), (3, .int a3)]) ⟨rfl, rfl, rfl, rfl, trivial⟩ ?_
      exact tX12_chance_B49_25 o hnL n k0 a1 a2 a3 ((0 : Int32)) q3.2 z hrec K  h
    · have h := xif h c12
      refine x_iconst (pc := 44) o dX12_chance_44 ic_1 ?_
      refine x_goto (pc := 45) (tgt := 49) o dX12_chance_45 (by decide) ?_
      refine x_to (l := [(0, .ref (M.2.1 k0)), (1, .int a1), (2, .int a2), (3, .int a3)]) ⟨rfl, rfl, rfl, rfl, trivial⟩ ?_
      exact tX12_chance_B49_25 o hnL n k0 a1 a2 a3 ((1 : Int32)) q3.2 z hrec K  h
theorem tX12_chance_L25 {Γ : xGm} {M : xMg} (o : xOk Γ tM M 9 cX12_chance RX12) (hnL : Γ.2.2.2 = 5) (n : Nat) (k0 : Nat) (a1 : Int32) (z : (Int32 × xSt)) (K : xAt Γ tM M 78 (xlv [(2, .int z.1)]) [] z.2) : ∀ (q : Nat) (a2 : Int32) (a3 : Int32) (S : xSt), fX12_chance_L25 n k0 a1 q a2 a3 S = some z → xAt Γ tM M 25 (xlv [(0, .ref (M.2.1 k0)), (1, .int a1), (2, .int a2), (3, .int a3)]) [] S := by
  intro q
  induction q with
  | zero => intro a2 a3 S h; cases h
  | succ q ih => intro a2 a3 S h; exact tX12_chance_L25b o hnL n k0 a1 a2 a3 S z ih K h
def fX12_chance (n : Nat) (k0 : Nat) (a1 : Int32) (S : xSt) : Option (Int32 × xSt) :=
  if tM.1 k0 = 12 then
  ((fX12_isAhead k0 a1 ((1 : Int32)) ((100 : Int32)) S).bind fun v1 =>
  if v1 = 0 then
  ((fX12_refuses k0 ((2 : Int32)) S).bind fun q15 =>
  some (q15.1, q15.2))
else
  ((fX12_keeps n k0 S).bind fun S2 =>
  (fX12_chance_L25 n k0 a1 n ((0 : Int32)) ((0 : Int32)) S2).bind fun z14 => some (z14.1, z14.2)))
  else none
theorem kX12_chance {z : Int32 × xSt} {n : Nat} {k0 : Nat} {a1 : Int32} {S : xSt} (h : fX12_chance n k0 a1 S = some z) : tM.1 k0 = 12 := by
  unfold fX12_chance at h
  exact (xck h).1
set_option maxHeartbeats 4000000 in
theorem tX12_chance (l : Launch) (M : xMg) (A : Nat → Prop) (n : Nat) (k0 : Nat) (a1 : Int32) (S : xSt) (z : Int32 × xSt) (h : fX12_chance n k0 a1 S = some z) : xMI l yX12_chance cX12_chance 5 (some .int) 9 tM M A [.ref (M.2.1 k0), .int a1] S z.1 z.2 := by
  refine x_metI (plainFor_of_name (by decide)) tM_ok (Nat.le_of_ble_eq_true rfl) (fun Γ hA hnL hl hr o => ?_)
  subst hA; subst hl
  have o : xOk Γ tM M 9 cX12_chance RX12 := o
  unfold fX12_chance at h
  obtain ⟨hk0, h⟩ := xck h
  refine x_to (l := [(0, .ref (M.2.1 k0)), (1, .int a1)]) ⟨rfl, rfl, trivial⟩ ?_
  have hn2 : 2 < Γ.2.2.2 := by omega
  have hn3 : 3 < Γ.2.2.2 := by omega
  refine x_aload_n (pc := 0) o dX12_chance_0 rfl rfl ?_
  refine x_iload_n (pc := 1) o dX12_chance_1 rfl rfl ?_
  refine x_iconst (pc := 2) o dX12_chance_2 ic_1 ?_
  refine x_bipush (pc := 3) o dX12_chance_3 bp_100 ?_
  obtain ⟨v1, hv1, h⟩ := xbs h
  refine x_callI (pc := 5) (As := [.int a1, .int ((1 : Int32)), .int ((100 : Int32))]) (b := k0) (rest := []) o (tX12_isAhead _ M _ k0 a1 ((1 : Int32)) ((100 : Int32)) S v1 hv1) eX12_isAhead mX12_592 clX12 (kX12_isAhead hv1) (by decide) rfl rfl (Nat.le_of_ble_eq_true rfl) dX12_chance_5 ?_
  refine x_if_ne (pc := 8) (tgt := 17) o dX12_chance_8 (by decide) (fun c16 => ?_) (fun c16 => ?_)
  · have h := xif h c16
    refine x_aload_n (pc := 17) o dX12_chance_17 rfl rfl ?_
    obtain ⟨S2, hS2, h⟩ := xbs h
    refine x_callV (pc := 18) (As := []) (b := k0) (rest := []) o (tX12_keeps _ M _ n k0 S S2 hS2) eX12_keeps mX12_624 clX12 (kX12_keeps hS2) (by decide) rfl rfl (Nat.le_of_ble_eq_true rfl) dX12_chance_18 ?_
    refine x_iconst (pc := 21) o dX12_chance_21 ic_0 ?_
    refine x_istore_n (pc := 22) o dX12_chance_22 rfl hn2 ?_
    refine x_iconst (pc := 23) o dX12_chance_23 ic_0 ?_
    refine x_istore_n (pc := 24) o dX12_chance_24 rfl hn3 ?_
    obtain ⟨z14, hz14, h⟩ := xbs h
    refine x_to (l := [(0, .ref (M.2.1 k0)), (1, .int a1), (2, .int ((0 : Int32))), (3, .int ((0 : Int32)))]) ⟨rfl, rfl, rfl, rfl, trivial⟩ ?_
    refine tX12_chance_L25 o hnL n k0 a1 z14 ?_ n ((0 : Int32)) ((0 : Int32)) S2 hz14
    refine x_iload_n (pc := 78) o dX12_chance_78 rfl rfl ?_
    exact x_ireturn (pc := 79) o hr dX12_chance_79 (xr1 h) (xr2 h)
  · have h := xit h c16
    refine x_aload_n (pc := 11) o dX12_chance_11 rfl rfl ?_
    refine x_iconst (pc := 12) o dX12_chance_12 ic_2 ?_
    obtain ⟨q15, hq15, h⟩ := xbs h
    refine x_callI (pc := 13) (As := [.int ((2 : Int32))]) (b := k0) (rest := []) o (tX12_refuses _ M _ k0 ((2 : Int32)) S q15 hq15) eX12_refuses mX12_280 clX12 (kX12_refuses hq15) (by decide) rfl rfl (Nat.le_of_ble_eq_true rfl) dX12_chance_13 ?_
    exact x_ireturn (pc := 16) o hr dX12_chance_16 (xr1 h) (xr2 h)
def fX12_hold (n : Nat) (k0 : Nat) (a1 : Int32) (a2 : Int32) (S : xSt) : Option (Int32 × xSt) :=
  if tM.1 k0 = 12 then
  ((fX12_isTool k0 a1 S).bind fun v1 =>
  if v1 = 0 then
  ((fX12_refuses k0 ((3 : Int32)) S).bind fun q2 =>
  if q2.1 < 0 then
  (some ((0 : Int32), q2.2))
else
  (some ((1 : Int32), q2.2)))
else
  ((fX12_is a2 ((0 : Int32)) ((1 : Int32)) S).bind fun v4 =>
  if v4 = 0 then
  ((fX12_refuses k0 ((3 : Int32)) S).bind fun q5 =>
  if q5.1 < 0 then
  (some ((0 : Int32), q5.2))
else
  (some ((1 : Int32), q5.2)))
else
  ((xgF tM 12 58 k0 S).bind fun r7 =>
  (xal tM r7 ((0 : Int32)) S).bind fun v8 =>
  if ((v8 >>> (a1 &&& 31)) &&& ((1 : Int32))) = a2 then
  ((fX12_refuses k0 ((3 : Int32)) S).bind fun q13 =>
  if q13.1 < 0 then
  (some ((0 : Int32), q13.2))
else
  (some ((1 : Int32), q13.2)))
else
  ((fX12_keeps n k0 S).bind fun S9 =>
  (xgF tM 12 58 k0 S9).bind fun r10 =>
  (xal tM r10 ((0 : Int32)) S9).bind fun v11 =>
  (xas tM r10 ((0 : Int32)) (v11 ^^^ (((1 : Int32)) <<< (a1 &&& 31))) S9).bind fun S12 =>
  some ((1 : Int32), S12)))))
  else none
theorem kX12_hold {z : Int32 × xSt} {n : Nat} {k0 : Nat} {a1 : Int32} {a2 : Int32} {S : xSt} (h : fX12_hold n k0 a1 a2 S = some z) : tM.1 k0 = 12 := by
  unfold fX12_hold at h
  exact (xck h).1
set_option maxHeartbeats 4000000 in
theorem tX12_hold (l : Launch) (M : xMg) (A : Nat → Prop) (n : Nat) (k0 : Nat) (a1 : Int32) (a2 : Int32) (S : xSt) (z : Int32 × xSt) (h : fX12_hold n k0 a1 a2 S = some z) : xMI l yX12_hold cX12_hold 3 (some .boolean) 3 tM M A [.ref (M.2.1 k0), .int a1, .int a2] S z.1 z.2 := by
  refine x_metI (plainFor_of_name (by decide)) tM_ok (Nat.le_of_ble_eq_true rfl) (fun Γ hA hnL hl hr o => ?_)
  subst hA; subst hl
  have o : xOk Γ tM M 3 cX12_hold RX12 := o
  unfold fX12_hold at h
  obtain ⟨hk0, h⟩ := xck h
  refine x_to (l := [(0, .ref (M.2.1 k0)), (1, .int a1), (2, .int a2)]) ⟨rfl, rfl, rfl, trivial⟩ ?_
  refine x_aload_n (pc := 0) o dX12_hold_0 rfl rfl ?_
  refine x_iload_n (pc := 1) o dX12_hold_1 rfl rfl ?_
  obtain ⟨v1, hv1, h⟩ := xbs h
  refine x_callI (pc := 2) (As := [.int a1]) (b := k0) (rest := []) o (tX12_isTool _ M _ k0 a1 S v1 hv1) eX12_isTool mX12_583 clX12 (kX12_isTool hv1) (by decide) rfl rfl (Nat.le_of_ble_eq_true rfl) dX12_hold_2 ?_
  refine x_if_eq (pc := 5) (tgt := 31) o dX12_hold_5 (by decide) (fun c17 => ?_) (fun c17 => ?_)
  · have h := xit h c17
    refine x_aload_n (pc := 31) o dX12_hold_31 rfl rfl ?_
    refine x_iconst (pc := 32) o dX12_hold_32 ic_3 ?_
    obtain ⟨q2, hq2, h⟩ := xbs h
    refine x_callI (pc := 33) (As := [.int ((3 : Int32))]) (b := k0) (rest := []) o (tX12_refuses _ M _ k0 ((3 : Int32)) S q2 hq2) eX12_refuses mX12_280 clX12 (kX12_refuses hq2) (by decide) rfl rfl (Nat.le_of_ble_eq_true rfl) dX12_hold_33 ?_
    refine x_if_lt (pc := 36) (tgt := 43) o dX12_hold_36 (by decide) (fun c3 => ?_) (fun c3 => ?_)
    · have h := xit h c3
      refine x_iconst (pc := 43) o dX12_hold_43 ic_0 ?_
      exact x_zreturn (pc := 44) o hr dX12_hold_44 (by decide) (xr1 h) (xr2 h)
    · have h := xif h c3
      refine x_iconst (pc := 39) o dX12_hold_39 ic_1 ?_
      refine x_goto (pc := 40) (tgt := 44) o dX12_hold_40 (by decide) ?_
      exact x_zreturn (pc := 44) o hr dX12_hold_44 (by decide) (xr1 h) (xr2 h)
  · have h := xif h c17
    refine x_iload_n (pc := 8) o dX12_hold_8 rfl rfl ?_
    refine x_iconst (pc := 9) o dX12_hold_9 ic_0 ?_
    refine x_iconst (pc := 10) o dX12_hold_10 ic_1 ?_
    obtain ⟨v4, hv4, h⟩ := xbs h
    refine x_statI (pc := 11) (As := [.int a2, .int ((0 : Int32)), .int ((1 : Int32))]) (rest := []) o (tX12_is _ M _ a2 ((0 : Int32)) ((1 : Int32)) S v4 hv4) eX12_is mX12_379 (by decide) rfl rfl (Nat.le_of_ble_eq_true rfl) dX12_hold_11 ?_
    refine x_if_eq (pc := 14) (tgt := 31) o dX12_hold_14 (by decide) (fun c16 => ?_) (fun c16 => ?_)
    · have h := xit h c16
      refine x_aload_n (pc := 31) o dX12_hold_31 rfl rfl ?_
      refine x_iconst (pc := 32) o dX12_hold_32 ic_3 ?_
      obtain ⟨q5, hq5, h⟩ := xbs h
      refine x_callI (pc := 33) (As := [.int ((3 : Int32))]) (b := k0) (rest := []) o (tX12_refuses _ M _ k0 ((3 : Int32)) S q5 hq5) eX12_refuses mX12_280 clX12 (kX12_refuses hq5) (by decide) rfl rfl (Nat.le_of_ble_eq_true rfl) dX12_hold_33 ?_
      refine x_if_lt (pc := 36) (tgt := 43) o dX12_hold_36 (by decide) (fun c6 => ?_) (fun c6 => ?_)
      · have h := xit h c6
        refine x_iconst (pc := 43) o dX12_hold_43 ic_0 ?_
        exact x_zreturn (pc := 44) o hr dX12_hold_44 (by decide) (xr1 h) (xr2 h)
      · have h := xif h c6
        refine x_iconst (pc := 39) o dX12_hold_39 ic_1 ?_
        refine x_goto (pc := 40) (tgt := 44) o dX12_hold_40 (by decide) ?_
        exact x_zreturn (pc := 44) o hr dX12_hold_44 (by decide) (xr1 h) (xr2 h)
    · have h := xif h c16
      refine x_aload_n (pc := 17) o dX12_hold_17 rfl rfl ?_
      obtain ⟨r7, hr7, h⟩ := xbs h
      refine gX12_189 (pc := 18) o dX12_hold_18 hr7 ?_
      refine x_iconst (pc := 21) o dX12_hold_21 ic_0 ?_
      obtain ⟨v8, hv8, h⟩ := xbs h
      refine x_iaload (pc := 22) o dX12_hold_22 hv8 ?_
      refine x_iload_n (pc := 23) o dX12_hold_23 rfl rfl ?_
      refine x_ishr (pc := 24) o dX12_hold_24 ?_
      refine x_iconst (pc := 25) o dX12_hold_25 ic_1 ?_
      refine x_iand (pc := 26) o dX12_hold_26 ?_
      refine x_iload_n (pc := 27) o dX12_hold_27 rfl rfl ?_
      refine x_icmp_ne (pc := 28) (tgt := 45) o dX12_hold_28 (by decide) (fun c15 => ?_) (fun c15 => ?_)
      · have h := xif h c15
        refine x_aload_n (pc := 45) o dX12_hold_45 rfl rfl ?_
        obtain ⟨S9, hS9, h⟩ := xbs h
        refine x_callV (pc := 46) (As := []) (b := k0) (rest := []) o (tX12_keeps _ M _ n k0 S S9 hS9) eX12_keeps mX12_624 clX12 (kX12_keeps hS9) (by decide) rfl rfl (Nat.le_of_ble_eq_true rfl) dX12_hold_46 ?_
        refine x_aload_n (pc := 49) o dX12_hold_49 rfl rfl ?_
        obtain ⟨r10, hr10, h⟩ := xbs h
        refine gX12_189 (pc := 50) o dX12_hold_50 hr10 ?_
        refine x_iconst (pc := 53) o dX12_hold_53 ic_0 ?_
        refine x_dup2 (pc := 54) o dX12_hold_54 rfl rfl ?_
        obtain ⟨v11, hv11, h⟩ := xbs h
        refine x_iaload (pc := 55) o dX12_hold_55 hv11 ?_
        refine x_iconst (pc := 56) o dX12_hold_56 ic_1 ?_
        refine x_iload_n (pc := 57) o dX12_hold_57 rfl rfl ?_
        refine x_ishl (pc := 58) o dX12_hold_58 ?_
        refine x_ixor (pc := 59) o dX12_hold_59 ?_
        obtain ⟨S12, hS12, h⟩ := xbs h
        refine x_iastore (pc := 60) o dX12_hold_60 hS12 ?_
        refine x_iconst (pc := 61) o dX12_hold_61 ic_1 ?_
        exact x_zreturn (pc := 62) o hr dX12_hold_62 (by decide) (xr1 h) (xr2 h)
      · have h := xit h c15
        refine x_aload_n (pc := 31) o dX12_hold_31 rfl rfl ?_
        refine x_iconst (pc := 32) o dX12_hold_32 ic_3 ?_
        obtain ⟨q13, hq13, h⟩ := xbs h
        refine x_callI (pc := 33) (As := [.int ((3 : Int32))]) (b := k0) (rest := []) o (tX12_refuses _ M _ k0 ((3 : Int32)) S q13 hq13) eX12_refuses mX12_280 clX12 (kX12_refuses hq13) (by decide) rfl rfl (Nat.le_of_ble_eq_true rfl) dX12_hold_33 ?_
        refine x_if_lt (pc := 36) (tgt := 43) o dX12_hold_36 (by decide) (fun c14 => ?_) (fun c14 => ?_)
        · have h := xit h c14
          refine x_iconst (pc := 43) o dX12_hold_43 ic_0 ?_
          exact x_zreturn (pc := 44) o hr dX12_hold_44 (by decide) (xr1 h) (xr2 h)
        · have h := xif h c14
          refine x_iconst (pc := 39) o dX12_hold_39 ic_1 ?_
          refine x_goto (pc := 40) (tgt := 44) o dX12_hold_40 (by decide) ?_
          exact x_zreturn (pc := 44) o hr dX12_hold_44 (by decide) (xr1 h) (xr2 h)
def fX12_swap_L41b (n : Nat) (k0 : Nat) (a1 : Int32) (a2 : Int32) (rec : Int32 → xSt → Option (xSt)) (a3 : Int32) (S : xSt) : Option (xSt) :=
  if ((8 : Int32)) ≤ a3 then
  (some S)
else
  ((xgF tM 12 59 k0 S).bind fun r8 =>
  (xal tM r8 ((((8 : Int32)) * a1) + a3) S).bind fun v9 =>
  (xgF tM 12 59 k0 S).bind fun r10 =>
  (xgF tM 12 59 k0 S).bind fun r11 =>
  (xal tM r11 ((((8 : Int32)) * a2) + a3) S).bind fun v12 =>
  (xas tM r10 ((((8 : Int32)) * a1) + a3) v12 S).bind fun S13 =>
  (xgF tM 12 59 k0 S13).bind fun r14 =>
  (xas tM r14 ((((8 : Int32)) * a2) + a3) v9 S13).bind fun S15 =>
  (some (a3 + (1 : Int32))).bind fun v16 =>
  rec v16 S15)
def fX12_swap_L41 (n : Nat) (k0 : Nat) (a1 : Int32) (a2 : Int32) : Nat → Int32 → xSt → Option (xSt)
  | 0 => fun _ _ => none
  | q + 1 => fX12_swap_L41b n k0 a1 a2 (fX12_swap_L41 n k0 a1 a2 q)
set_option maxHeartbeats 4000000 in
theorem tX12_swap_L41b {Γ : xGm} {M : xMg} (o : xOk Γ tM M 3 cX12_swap RX12) (hnL : Γ.2.2.2 = 5) {rec : Int32 → xSt → Option (xSt)} (n : Nat) (k0 : Nat) (a1 : Int32) (a2 : Int32) (a3 : Int32) (S : xSt) (z : (xSt)) (hrec : ∀ (a3 : Int32) (S : xSt), rec a3 S = some z → xAt Γ tM M 41 (xlv [(0, .ref (M.2.1 k0)), (1, .int a1), (2, .int a2), (3, .int a3)]) [] S) (K : xAt Γ tM M 101 (xlv []) [] z) (h : fX12_swap_L41b n k0 a1 a2 rec a3 S = some z) : xAt Γ tM M 41 (xlv [(0, .ref (M.2.1 k0)), (1, .int a1), (2, .int a2), (3, .int a3)]) [] S := by
  have hn3 : 3 < Γ.2.2.2 := by omega
  have hn4 : 4 < Γ.2.2.2 := by omega
  unfold fX12_swap_L41b at h
  refine x_iload_n (pc := 41) o dX12_swap_41 rfl rfl ?_
  refine x_bipush (pc := 42) o dX12_swap_42 bp_8 ?_
  refine x_icmp_ge (pc := 44) (tgt := 101) o dX12_swap_44 (by decide) (fun c17 => ?_) (fun c17 => ?_)
  · have h := xit h c17
    refine x_to (l := []) trivial ?_
    cases Option.some.inj h
    exact K
  · have h := xif h c17
    refine x_aload_n (pc := 47) o dX12_swap_47 rfl rfl ?_
    obtain ⟨r8, hr8, h⟩ := xbs h
    refine gX12_192 (pc := 48) o dX12_swap_48 hr8 ?_
    refine x_bipush (pc := 51) o dX12_swap_51 bp_8 ?_
    refine x_iload_n (pc := 53) o dX12_swap_53 rfl rfl ?_
    refine x_imul (pc := 54) o dX12_swap_54 ?_
    refine x_iload_n (pc := 55) o dX12_swap_55 rfl rfl ?_
    refine x_iadd (pc := 56) o dX12_swap_56 ?_
    obtain ⟨v9, hv9, h⟩ := xbs h
    refine x_iaload (pc := 57) o dX12_swap_57 hv9 ?_
    refine x_istore (pc := 58) o dX12_swap_58 hn4 ?_
    refine x_aload_n (pc := 60) o dX12_swap_60 rfl rfl ?_
    obtain ⟨r10, hr10, h⟩ := xbs h
    refine gX12_192 (pc := 61) o dX12_swap_61 hr10 ?_
    refine x_bipush (pc := 64) o dX12_swap_64 bp_8 ?_
    refine x_iload_n (pc := 66) o dX12_swap_66 rfl rfl ?_
    refine x_imul (pc := 67) o dX12_swap_67 ?_
    refine x_iload_n (pc := 68) o dX12_swap_68 rfl rfl ?_
    refine x_iadd (pc := 69) o dX12_swap_69 ?_
    refine x_aload_n (pc := 70) o dX12_swap_70 rfl rfl ?_
    obtain ⟨r11, hr11, h⟩ := xbs h
    refine gX12_192 (pc := 71) o dX12_swap_71 hr11 ?_
    refine x_bipush (pc := 74) o dX12_swap_74 bp_8 ?_
    refine x_iload_n (pc := 76) o dX12_swap_76 rfl rfl ?_
    refine x_imul (pc := 77) o dX12_swap_77 ?_
    refine x_iload_n (pc := 78) o dX12_swap_78 rfl rfl ?_
    refine x_iadd (pc := 79) o dX12_swap_79 ?_
    obtain ⟨v12, hv12, h⟩ := xbs h
    refine x_iaload (pc := 80) o dX12_swap_80 hv12 ?_
    obtain ⟨S13, hS13, h⟩ := xbs h
    refine x_iastore (pc := 81) o dX12_swap_81 hS13 ?_
    refine x_aload_n (pc := 82) o dX12_swap_82 rfl rfl ?_
    obtain ⟨r14, hr14, h⟩ := xbs h
    refine gX12_192 (pc := 83) o dX12_swap_83 hr14 ?_
    refine x_bipush (pc := 86) o dX12_swap_86 bp_8 ?_
    refine x_iload_n (pc := 88) o dX12_swap_88 rfl rfl ?_
    refine x_imul (pc := 89) o dX12_swap_89 ?_
    refine x_iload_n (pc := 90) o dX12_swap_90 rfl rfl ?_
    refine x_iadd (pc := 91) o dX12_swap_91 ?_
    refine x_iload (pc := 92) o dX12_swap_92 rfl ?_
    obtain ⟨S15, hS15, h⟩ := xbs h
    refine x_iastore (pc := 94) o dX12_swap_94 hS15 ?_
    obtain ⟨v16, hv16, h⟩ := xbs h
    refine x_iincE (pc := 95) o dX12_swap_95 rfl ic_1 hn3 hv16 ?_
    refine x_goto (pc := 98) (tgt := 41) o dX12_swap_98 (by decide) ?_
    refine x_to (l := [(0, .ref (M.2.1 k0)), (1, .int a1), (2, .int a2), (3, .int v16)]) ⟨rfl, rfl, rfl, rfl, trivial⟩ ?_
    exact hrec v16 S15 h
theorem tX12_swap_L41 {Γ : xGm} {M : xMg} (o : xOk Γ tM M 3 cX12_swap RX12) (hnL : Γ.2.2.2 = 5) (n : Nat) (k0 : Nat) (a1 : Int32) (a2 : Int32) (z : (xSt)) (K : xAt Γ tM M 101 (xlv []) [] z) : ∀ (q : Nat) (a3 : Int32) (S : xSt), fX12_swap_L41 n k0 a1 a2 q a3 S = some z → xAt Γ tM M 41 (xlv [(0, .ref (M.2.1 k0)), (1, .int a1), (2, .int a2), (3, .int a3)]) [] S := by
  intro q
  induction q with
  | zero => intro a3 S h; cases h
  | succ q ih => intro a3 S h; exact tX12_swap_L41b o hnL n k0 a1 a2 a3 S z ih K h
def fX12_swap (n : Nat) (k0 : Nat) (a1 : Int32) (a2 : Int32) (S : xSt) : Option (Int32 × xSt) :=
  if tM.1 k0 = 12 then
  ((fX12_isHand k0 a1 S).bind fun v1 =>
  if v1 = 0 then
  ((fX12_refuses k0 ((3 : Int32)) S).bind fun q2 =>
  if q2.1 < 0 then
  (some ((0 : Int32), q2.2))
else
  (some ((1 : Int32), q2.2)))
else
  ((fX12_isHand k0 a2 S).bind fun v4 =>
  if v4 = 0 then
  ((fX12_refuses k0 ((3 : Int32)) S).bind fun q5 =>
  if q5.1 < 0 then
  (some ((0 : Int32), q5.2))
else
  (some ((1 : Int32), q5.2)))
else
  (if a1 = a2 then
  ((fX12_refuses k0 ((3 : Int32)) S).bind fun q19 =>
  if q19.1 < 0 then
  (some ((0 : Int32), q19.2))
else
  (some ((1 : Int32), q19.2)))
else
  ((fX12_keeps n k0 S).bind fun S7 =>
  (fX12_swap_L41 n k0 a1 a2 n ((0 : Int32)) S7).bind fun z18 => some ((1 : Int32), z18)))))
  else none
theorem kX12_swap {z : Int32 × xSt} {n : Nat} {k0 : Nat} {a1 : Int32} {a2 : Int32} {S : xSt} (h : fX12_swap n k0 a1 a2 S = some z) : tM.1 k0 = 12 := by
  unfold fX12_swap at h
  exact (xck h).1
set_option maxHeartbeats 4000000 in
theorem tX12_swap (l : Launch) (M : xMg) (A : Nat → Prop) (n : Nat) (k0 : Nat) (a1 : Int32) (a2 : Int32) (S : xSt) (z : Int32 × xSt) (h : fX12_swap n k0 a1 a2 S = some z) : xMI l yX12_swap cX12_swap 5 (some .boolean) 3 tM M A [.ref (M.2.1 k0), .int a1, .int a2] S z.1 z.2 := by
  refine x_metI (plainFor_of_name (by decide)) tM_ok (Nat.le_of_ble_eq_true rfl) (fun Γ hA hnL hl hr o => ?_)
  subst hA; subst hl
  have o : xOk Γ tM M 3 cX12_swap RX12 := o
  unfold fX12_swap at h
  obtain ⟨hk0, h⟩ := xck h
  refine x_to (l := [(0, .ref (M.2.1 k0)), (1, .int a1), (2, .int a2)]) ⟨rfl, rfl, rfl, trivial⟩ ?_
  have hn3 : 3 < Γ.2.2.2 := by omega
  refine x_aload_n (pc := 0) o dX12_swap_0 rfl rfl ?_
  refine x_iload_n (pc := 1) o dX12_swap_1 rfl rfl ?_
  obtain ⟨v1, hv1, h⟩ := xbs h
  refine x_callI (pc := 2) (As := [.int a1]) (b := k0) (rest := []) o (tX12_isHand _ M _ k0 a1 S v1 hv1) eX12_isHand mX12_586 clX12 (kX12_isHand hv1) (by decide) rfl rfl (Nat.le_of_ble_eq_true rfl) dX12_swap_2 ?_
  refine x_if_eq (pc := 5) (tgt := 21) o dX12_swap_5 (by decide) (fun c23 => ?_) (fun c23 => ?_)
  · have h := xit h c23
    refine x_aload_n (pc := 21) o dX12_swap_21 rfl rfl ?_
    refine x_iconst (pc := 22) o dX12_swap_22 ic_3 ?_
    obtain ⟨q2, hq2, h⟩ := xbs h
    refine x_callI (pc := 23) (As := [.int ((3 : Int32))]) (b := k0) (rest := []) o (tX12_refuses _ M _ k0 ((3 : Int32)) S q2 hq2) eX12_refuses mX12_280 clX12 (kX12_refuses hq2) (by decide) rfl rfl (Nat.le_of_ble_eq_true rfl) dX12_swap_23 ?_
    refine x_if_lt (pc := 26) (tgt := 33) o dX12_swap_26 (by decide) (fun c3 => ?_) (fun c3 => ?_)
    · have h := xit h c3
      refine x_iconst (pc := 33) o dX12_swap_33 ic_0 ?_
      exact x_zreturn (pc := 34) o hr dX12_swap_34 (by decide) (xr1 h) (xr2 h)
    · have h := xif h c3
      refine x_iconst (pc := 29) o dX12_swap_29 ic_1 ?_
      refine x_goto (pc := 30) (tgt := 34) o dX12_swap_30 (by decide) ?_
      exact x_zreturn (pc := 34) o hr dX12_swap_34 (by decide) (xr1 h) (xr2 h)
  · have h := xif h c23
    refine x_aload_n (pc := 8) o dX12_swap_8 rfl rfl ?_
    refine x_iload_n (pc := 9) o dX12_swap_9 rfl rfl ?_
    obtain ⟨v4, hv4, h⟩ := xbs h
    refine x_callI (pc := 10) (As := [.int a2]) (b := k0) (rest := []) o (tX12_isHand _ M _ k0 a2 S v4 hv4) eX12_isHand mX12_586 clX12 (kX12_isHand hv4) (by decide) rfl rfl (Nat.le_of_ble_eq_true rfl) dX12_swap_10 ?_
    refine x_if_eq (pc := 13) (tgt := 21) o dX12_swap_13 (by decide) (fun c22 => ?_) (fun c22 => ?_)
    · have h := xit h c22
      refine x_aload_n (pc := 21) o dX12_swap_21 rfl rfl ?_
      refine x_iconst (pc := 22) o dX12_swap_22 ic_3 ?_
      obtain ⟨q5, hq5, h⟩ := xbs h
      refine x_callI (pc := 23) (As := [.int ((3 : Int32))]) (b := k0) (rest := []) o (tX12_refuses _ M _ k0 ((3 : Int32)) S q5 hq5) eX12_refuses mX12_280 clX12 (kX12_refuses hq5) (by decide) rfl rfl (Nat.le_of_ble_eq_true rfl) dX12_swap_23 ?_
      refine x_if_lt (pc := 26) (tgt := 33) o dX12_swap_26 (by decide) (fun c6 => ?_) (fun c6 => ?_)
      · have h := xit h c6
        refine x_iconst (pc := 33) o dX12_swap_33 ic_0 ?_
        exact x_zreturn (pc := 34) o hr dX12_swap_34 (by decide) (xr1 h) (xr2 h)
      · have h := xif h c6
        refine x_iconst (pc := 29) o dX12_swap_29 ic_1 ?_
        refine x_goto (pc := 30) (tgt := 34) o dX12_swap_30 (by decide) ?_
        exact x_zreturn (pc := 34) o hr dX12_swap_34 (by decide) (xr1 h) (xr2 h)
    · have h := xif h c22
      refine x_iload_n (pc := 16) o dX12_swap_16 rfl rfl ?_
      refine x_iload_n (pc := 17) o dX12_swap_17 rfl rfl ?_
      refine x_icmp_ne (pc := 18) (tgt := 35) o dX12_swap_18 (by decide) (fun c21 => ?_) (fun c21 => ?_)
      · have h := xif h c21
        refine x_aload_n (pc := 35) o dX12_swap_35 rfl rfl ?_
        obtain ⟨S7, hS7, h⟩ := xbs h
        refine x_callV (pc := 36) (As := []) (b := k0) (rest := []) o (tX12_keeps _ M _ n k0 S S7 hS7) eX12_keeps mX12_624 clX12 (kX12_keeps hS7) (by decide) rfl rfl (Nat.le_of_ble_eq_true rfl) dX12_swap_36 ?_
        refine x_iconst (pc := 39) o dX12_swap_39 ic_0 ?_
        refine x_istore_n (pc := 40) o dX12_swap_40 rfl hn3 ?_
        obtain ⟨z18, hz18, h⟩ := xbs h
        refine x_to (l := [(0, .ref (M.2.1 k0)), (1, .int a1), (2, .int a2), (3, .int ((0 : Int32)))]) ⟨rfl, rfl, rfl, rfl, trivial⟩ ?_
        refine tX12_swap_L41 o hnL n k0 a1 a2 z18 ?_ n ((0 : Int32)) S7 hz18
        refine x_iconst (pc := 101) o dX12_swap_101 ic_1 ?_
        exact x_zreturn (pc := 102) o hr dX12_swap_102 (by decide) (xr1 h) (xr2 h)
      · have h := xit h c21
        refine x_aload_n (pc := 21) o dX12_swap_21 rfl rfl ?_
        refine x_iconst (pc := 22) o dX12_swap_22 ic_3 ?_
        obtain ⟨q19, hq19, h⟩ := xbs h
        refine x_callI (pc := 23) (As := [.int ((3 : Int32))]) (b := k0) (rest := []) o (tX12_refuses _ M _ k0 ((3 : Int32)) S q19 hq19) eX12_refuses mX12_280 clX12 (kX12_refuses hq19) (by decide) rfl rfl (Nat.le_of_ble_eq_true rfl) dX12_swap_23 ?_
        refine x_if_lt (pc := 26) (tgt := 33) o dX12_swap_26 (by decide) (fun c20 => ?_) (fun c20 => ?_)
        · have h := xit h c20
          refine x_iconst (pc := 33) o dX12_swap_33 ic_0 ?_
          exact x_zreturn (pc := 34) o hr dX12_swap_34 (by decide) (xr1 h) (xr2 h)
        · have h := xif h c20
          refine x_iconst (pc := 29) o dX12_swap_29 ic_1 ?_
          refine x_goto (pc := 30) (tgt := 34) o dX12_swap_30 (by decide) ?_
          exact x_zreturn (pc := 34) o hr dX12_swap_34 (by decide) (xr1 h) (xr2 h)
def fX12_due (n : Nat) (k0 : Nat) (a1 : Int32) (a2 : Int32) (S : xSt) : Option (Int32 × xSt) :=
  if tM.1 k0 = 12 then
  ((fX12_isJob k0 a1 S).bind fun v1 =>
  if v1 = 0 then
  ((fX12_refuses k0 ((3 : Int32)) S).bind fun q2 =>
  if q2.1 < 0 then
  (some ((0 : Int32), q2.2))
else
  (some ((1 : Int32), q2.2)))
else
  ((fX12_is a2 ((0 : Int32)) ((999 : Int32)) S).bind fun v4 =>
  if v4 = 0 then
  ((fX12_refuses k0 ((3 : Int32)) S).bind fun q5 =>
  if q5.1 < 0 then
  (some ((0 : Int32), q5.2))
else
  (some ((1 : Int32), q5.2)))
else
  ((xgF tM 12 61 k0 S).bind fun r7 =>
  (xal tM r7 a1 S).bind fun v8 =>
  if v8 = a2 then
  ((fX12_refuses k0 ((3 : Int32)) S).bind fun q12 =>
  if q12.1 < 0 then
  (some ((0 : Int32), q12.2))
else
  (some ((1 : Int32), q12.2)))
else
  ((fX12_keeps n k0 S).bind fun S9 =>
  (xgF tM 12 61 k0 S9).bind fun r10 =>
  (xas tM r10 a1 a2 S9).bind fun S11 =>
  some ((1 : Int32), S11)))))
  else none
theorem kX12_due {z : Int32 × xSt} {n : Nat} {k0 : Nat} {a1 : Int32} {a2 : Int32} {S : xSt} (h : fX12_due n k0 a1 a2 S = some z) : tM.1 k0 = 12 := by
  unfold fX12_due at h
  exact (xck h).1
set_option maxHeartbeats 4000000 in
theorem tX12_due (l : Launch) (M : xMg) (A : Nat → Prop) (n : Nat) (k0 : Nat) (a1 : Int32) (a2 : Int32) (S : xSt) (z : Int32 × xSt) (h : fX12_due n k0 a1 a2 S = some z) : xMI l yX12_due cX12_due 3 (some .boolean) 3 tM M A [.ref (M.2.1 k0), .int a1, .int a2] S z.1 z.2 := by
  refine x_metI (plainFor_of_name (by decide)) tM_ok (Nat.le_of_ble_eq_true rfl) (fun Γ hA hnL hl hr o => ?_)
  subst hA; subst hl
  have o : xOk Γ tM M 3 cX12_due RX12 := o
  unfold fX12_due at h
  obtain ⟨hk0, h⟩ := xck h
  refine x_to (l := [(0, .ref (M.2.1 k0)), (1, .int a1), (2, .int a2)]) ⟨rfl, rfl, rfl, trivial⟩ ?_
  refine x_aload_n (pc := 0) o dX12_due_0 rfl rfl ?_
  refine x_iload_n (pc := 1) o dX12_due_1 rfl rfl ?_
  obtain ⟨v1, hv1, h⟩ := xbs h
  refine x_callI (pc := 2) (As := [.int a1]) (b := k0) (rest := []) o (tX12_isJob _ M _ k0 a1 S v1 hv1) eX12_isJob mX12_589 clX12 (kX12_isJob hv1) (by decide) rfl rfl (Nat.le_of_ble_eq_true rfl) dX12_due_2 ?_
  refine x_if_eq (pc := 5) (tgt := 29) o dX12_due_5 (by decide) (fun c16 => ?_) (fun c16 => ?_)
  · have h := xit h c16
    refine x_aload_n (pc := 29) o dX12_due_29 rfl rfl ?_
    refine x_iconst (pc := 30) o dX12_due_30 ic_3 ?_
    obtain ⟨q2, hq2, h⟩ := xbs h
    refine x_callI (pc := 31) (As := [.int ((3 : Int32))]) (b := k0) (rest := []) o (tX12_refuses _ M _ k0 ((3 : Int32)) S q2 hq2) eX12_refuses mX12_280 clX12 (kX12_refuses hq2) (by decide) rfl rfl (Nat.le_of_ble_eq_true rfl) dX12_due_31 ?_
    refine x_if_lt (pc := 34) (tgt := 41) o dX12_due_34 (by decide) (fun c3 => ?_) (fun c3 => ?_)
    · have h := xit h c3
      refine x_iconst (pc := 41) o dX12_due_41 ic_0 ?_
      exact x_zreturn (pc := 42) o hr dX12_due_42 (by decide) (xr1 h) (xr2 h)
    · have h := xif h c3
      refine x_iconst (pc := 37) o dX12_due_37 ic_1 ?_
      refine x_goto (pc := 38) (tgt := 42) o dX12_due_38 (by decide) ?_
      exact x_zreturn (pc := 42) o hr dX12_due_42 (by decide) (xr1 h) (xr2 h)
  · have h := xif h c16
    refine x_iload_n (pc := 8) o dX12_due_8 rfl rfl ?_
    refine x_iconst (pc := 9) o dX12_due_9 ic_0 ?_
    refine x_sipush (pc := 10) o dX12_due_10 sp_999 ?_
    obtain ⟨v4, hv4, h⟩ := xbs h
    refine x_statI (pc := 13) (As := [.int a2, .int ((0 : Int32)), .int ((999 : Int32))]) (rest := []) o (tX12_is _ M _ a2 ((0 : Int32)) ((999 : Int32)) S v4 hv4) eX12_is mX12_379 (by decide) rfl rfl (Nat.le_of_ble_eq_true rfl) dX12_due_13 ?_
    refine x_if_eq (pc := 16) (tgt := 29) o dX12_due_16 (by decide) (fun c15 => ?_) (fun c15 => ?_)
    · have h := xit h c15
      refine x_aload_n (pc := 29) o dX12_due_29 rfl rfl ?_
      refine x_iconst (pc := 30) o dX12_due_30 ic_3 ?_
      obtain ⟨q5, hq5, h⟩ := xbs h
      refine x_callI (pc := 31) (As := [.int ((3 : Int32))]) (b := k0) (rest := []) o (tX12_refuses _ M _ k0 ((3 : Int32)) S q5 hq5) eX12_refuses mX12_280 clX12 (kX12_refuses hq5) (by decide) rfl rfl (Nat.le_of_ble_eq_true rfl) dX12_due_31 ?_
      refine x_if_lt (pc := 34) (tgt := 41) o dX12_due_34 (by decide) (fun c6 => ?_) (fun c6 => ?_)
      · have h := xit h c6
        refine x_iconst (pc := 41) o dX12_due_41 ic_0 ?_
        exact x_zreturn (pc := 42) o hr dX12_due_42 (by decide) (xr1 h) (xr2 h)
      · have h := xif h c6
        refine x_iconst (pc := 37) o dX12_due_37 ic_1 ?_
        refine x_goto (pc := 38) (tgt := 42) o dX12_due_38 (by decide) ?_
        exact x_zreturn (pc := 42) o hr dX12_due_42 (by decide) (xr1 h) (xr2 h)
    · have h := xif h c15
      refine x_aload_n (pc := 19) o dX12_due_19 rfl rfl ?_
      obtain ⟨r7, hr7, h⟩ := xbs h
      refine gX12_198 (pc := 20) o dX12_due_20 hr7 ?_
      refine x_iload_n (pc := 23) o dX12_due_23 rfl rfl ?_
      obtain ⟨v8, hv8, h⟩ := xbs h
      refine x_iaload (pc := 24) o dX12_due_24 hv8 ?_
      refine x_iload_n (pc := 25) o dX12_due_25 rfl rfl ?_
      refine x_icmp_ne (pc := 26) (tgt := 43) o dX12_due_26 (by decide) (fun c14 => ?_) (fun c14 => ?_)
      · have h := xif h c14
        refine x_aload_n (pc := 43) o dX12_due_43 rfl rfl ?_
        obtain ⟨S9, hS9, h⟩ := xbs h
        refine x_callV (pc := 44) (As := []) (b := k0) (rest := []) o (tX12_keeps _ M _ n k0 S S9 hS9) eX12_keeps mX12_624 clX12 (kX12_keeps hS9) (by decide) rfl rfl (Nat.le_of_ble_eq_true rfl) dX12_due_44 ?_
        refine x_aload_n (pc := 47) o dX12_due_47 rfl rfl ?_
        obtain ⟨r10, hr10, h⟩ := xbs h
        refine gX12_198 (pc := 48) o dX12_due_48 hr10 ?_
        refine x_iload_n (pc := 51) o dX12_due_51 rfl rfl ?_
        refine x_iload_n (pc := 52) o dX12_due_52 rfl rfl ?_
        obtain ⟨S11, hS11, h⟩ := xbs h
        refine x_iastore (pc := 53) o dX12_due_53 hS11 ?_
        refine x_iconst (pc := 54) o dX12_due_54 ic_1 ?_
        exact x_zreturn (pc := 55) o hr dX12_due_55 (by decide) (xr1 h) (xr2 h)
      · have h := xit h c14
        refine x_aload_n (pc := 29) o dX12_due_29 rfl rfl ?_
        refine x_iconst (pc := 30) o dX12_due_30 ic_3 ?_
        obtain ⟨q12, hq12, h⟩ := xbs h
        refine x_callI (pc := 31) (As := [.int ((3 : Int32))]) (b := k0) (rest := []) o (tX12_refuses _ M _ k0 ((3 : Int32)) S q12 hq12) eX12_refuses mX12_280 clX12 (kX12_refuses hq12) (by decide) rfl rfl (Nat.le_of_ble_eq_true rfl) dX12_due_31 ?_
        refine x_if_lt (pc := 34) (tgt := 41) o dX12_due_34 (by decide) (fun c13 => ?_) (fun c13 => ?_)
        · have h := xit h c13
          refine x_iconst (pc := 41) o dX12_due_41 ic_0 ?_
          exact x_zreturn (pc := 42) o hr dX12_due_42 (by decide) (xr1 h) (xr2 h)
        · have h := xif h c13
          refine x_iconst (pc := 37) o dX12_due_37 ic_1 ?_
          refine x_goto (pc := 38) (tgt := 42) o dX12_due_38 (by decide) ?_
          exact x_zreturn (pc := 42) o hr dX12_due_42 (by decide) (xr1 h) (xr2 h)
def fX12_seed (k0 : Nat) (a1 : Int32) (S : xSt) : Option (Int32 × xSt) :=
  if tM.1 k0 = 12 then
  (if 0 ≤ a1 then
  ((xpL tM 12 66 k0 a1.toInt64 S).bind fun S1 =>
  some ((1 : Int32), S1))
else
  ((fX12_refuses k0 ((5 : Int32)) S).bind fun q2 =>
  if q2.1 < 0 then
  (some ((0 : Int32), q2.2))
else
  (some ((1 : Int32), q2.2))))
  else none
theorem kX12_seed {z : Int32 × xSt} {k0 : Nat} {a1 : Int32} {S : xSt} (h : fX12_seed k0 a1 S = some z) : tM.1 k0 = 12 := by
  unfold fX12_seed at h
  exact (xck h).1
set_option maxHeartbeats 4000000 in
theorem tX12_seed (l : Launch) (M : xMg) (A : Nat → Prop) (k0 : Nat) (a1 : Int32) (S : xSt) (z : Int32 × xSt) (h : fX12_seed k0 a1 S = some z) : xMI l yX12_seed cX12_seed 2 (some .boolean) 2 tM M A [.ref (M.2.1 k0), .int a1] S z.1 z.2 := by
  refine x_metI (plainFor_of_name (by decide)) tM_ok (Nat.le_of_ble_eq_true rfl) (fun Γ hA hnL hl hr o => ?_)
  subst hA; subst hl
  have o : xOk Γ tM M 2 cX12_seed RX12 := o
  unfold fX12_seed at h
  obtain ⟨hk0, h⟩ := xck h
  refine x_to (l := [(0, .ref (M.2.1 k0)), (1, .int a1)]) ⟨rfl, rfl, trivial⟩ ?_
  refine x_iload_n (pc := 0) o dX12_seed_0 rfl rfl ?_
  refine x_if_ge (pc := 1) (tgt := 18) o dX12_seed_1 (by decide) (fun c4 => ?_) (fun c4 => ?_)
  · have h := xit h c4
    refine x_aload_n (pc := 18) o dX12_seed_18 rfl rfl ?_
    refine x_iload_n (pc := 19) o dX12_seed_19 rfl rfl ?_
    refine x_i2l (pc := 20) o dX12_seed_20 ?_
    obtain ⟨S1, hS1, h⟩ := xbs h
    refine pX12_213 (pc := 21) o dX12_seed_21 hS1 ?_
    refine x_iconst (pc := 24) o dX12_seed_24 ic_1 ?_
    exact x_zreturn (pc := 25) o hr dX12_seed_25 (by decide) (xr1 h) (xr2 h)
  · have h := xif h c4
    refine x_aload_n (pc := 4) o dX12_seed_4 rfl rfl ?_
    refine x_iconst (pc := 5) o dX12_seed_5 ic_5 ?_
    obtain ⟨q2, hq2, h⟩ := xbs h
    refine x_callI (pc := 6) (As := [.int ((5 : Int32))]) (b := k0) (rest := []) o (tX12_refuses _ M _ k0 ((5 : Int32)) S q2 hq2) eX12_refuses mX12_280 clX12 (kX12_refuses hq2) (by decide) rfl rfl (Nat.le_of_ble_eq_true rfl) dX12_seed_6 ?_
    refine x_if_lt (pc := 9) (tgt := 16) o dX12_seed_9 (by decide) (fun c3 => ?_) (fun c3 => ?_)
    · have h := xit h c3
      refine x_iconst (pc := 16) o dX12_seed_16 ic_0 ?_
      exact x_zreturn (pc := 17) o hr dX12_seed_17 (by decide) (xr1 h) (xr2 h)
    · have h := xif h c3
      refine x_iconst (pc := 12) o dX12_seed_12 ic_1 ?_
      refine x_goto (pc := 13) (tgt := 17) o dX12_seed_13 (by decide) ?_
      exact x_zreturn (pc := 17) o hr dX12_seed_17 (by decide) (xr1 h) (xr2 h)
def fX12_kept (k0 : Nat) (a1 : Int32) (a2 : Int32) (S : xSt) : Option (Int32) :=
  if tM.1 k0 = 12 then
  ((xgF tM 12 62 k0 S).bind fun r1 =>
  (xal tM r1 ((0 : Int32)) S).bind fun v2 =>
  (fX12_is a1 ((0 : Int32)) (v2 - ((1 : Int32))) S).bind fun v3 =>
  if v3 = 0 then
  (some ((-1 : Int32)))
else
  ((fX12_is a2 ((0 : Int32)) ((3 : Int32)) S).bind fun v4 =>
  if v4 = 0 then
  (some ((-1 : Int32)))
else
  ((xgF tM 12 63 k0 S).bind fun r5 =>
  (xal tM r5 ((((4 : Int32)) * a1) + a2) S).bind fun v6 =>
  some v6)))
  else none
theorem kX12_kept {z : Int32} {k0 : Nat} {a1 : Int32} {a2 : Int32} {S : xSt} (h : fX12_kept k0 a1 a2 S = some z) : tM.1 k0 = 12 := by
  unfold fX12_kept at h
  exact (xck h).1
set_option maxHeartbeats 4000000 in
theorem tX12_kept (l : Launch) (M : xMg) (A : Nat → Prop) (k0 : Nat) (a1 : Int32) (a2 : Int32) (S : xSt) (z : Int32) (h : fX12_kept k0 a1 a2 S = some z) : xMI l yX12_kept cX12_kept 3 (some .int) 2 tM M A [.ref (M.2.1 k0), .int a1, .int a2] S z S := by
  refine x_metI (plainFor_of_name (by decide)) tM_ok (Nat.le_of_ble_eq_true rfl) (fun Γ hA hnL hl hr o => ?_)
  subst hA; subst hl
  have o : xOk Γ tM M 2 cX12_kept RX12 := o
  unfold fX12_kept at h
  obtain ⟨hk0, h⟩ := xck h
  refine x_to (l := [(0, .ref (M.2.1 k0)), (1, .int a1), (2, .int a2)]) ⟨rfl, rfl, rfl, trivial⟩ ?_
  refine x_iload_n (pc := 0) o dX12_kept_0 rfl rfl ?_
  refine x_iconst (pc := 1) o dX12_kept_1 ic_0 ?_
  refine x_aload_n (pc := 2) o dX12_kept_2 rfl rfl ?_
  obtain ⟨r1, hr1, h⟩ := xbs h
  refine gX12_201 (pc := 3) o dX12_kept_3 hr1 ?_
  refine x_iconst (pc := 6) o dX12_kept_6 ic_0 ?_
  obtain ⟨v2, hv2, h⟩ := xbs h
  refine x_iaload (pc := 7) o dX12_kept_7 hv2 ?_
  refine x_iconst (pc := 8) o dX12_kept_8 ic_1 ?_
  refine x_isub (pc := 9) o dX12_kept_9 ?_
  obtain ⟨v3, hv3, h⟩ := xbs h
  refine x_statI (pc := 10) (As := [.int a1, .int ((0 : Int32)), .int (v2 - ((1 : Int32)))]) (rest := []) o (tX12_is _ M _ a1 ((0 : Int32)) (v2 - ((1 : Int32))) S v3 hv3) eX12_is mX12_379 (by decide) rfl rfl (Nat.le_of_ble_eq_true rfl) dX12_kept_10 ?_
  refine x_if_eq (pc := 13) (tgt := 38) o dX12_kept_13 (by decide) (fun c8 => ?_) (fun c8 => ?_)
  · have h := xit h c8
    refine x_iconst (pc := 38) o dX12_kept_38 ic_m1 ?_
    exact x_ireturn (pc := 39) o hr dX12_kept_39 (Option.some.inj h) rfl
  · have h := xif h c8
    refine x_iload_n (pc := 16) o dX12_kept_16 rfl rfl ?_
    refine x_iconst (pc := 17) o dX12_kept_17 ic_0 ?_
    refine x_iconst (pc := 18) o dX12_kept_18 ic_3 ?_
    obtain ⟨v4, hv4, h⟩ := xbs h
    refine x_statI (pc := 19) (As := [.int a2, .int ((0 : Int32)), .int ((3 : Int32))]) (rest := []) o (tX12_is _ M _ a2 ((0 : Int32)) ((3 : Int32)) S v4 hv4) eX12_is mX12_379 (by decide) rfl rfl (Nat.le_of_ble_eq_true rfl) dX12_kept_19 ?_
    refine x_if_eq (pc := 22) (tgt := 38) o dX12_kept_22 (by decide) (fun c7 => ?_) (fun c7 => ?_)
    · have h := xit h c7
      refine x_iconst (pc := 38) o dX12_kept_38 ic_m1 ?_
      exact x_ireturn (pc := 39) o hr dX12_kept_39 (Option.some.inj h) rfl
    · have h := xif h c7
      refine x_aload_n (pc := 25) o dX12_kept_25 rfl rfl ?_
      obtain ⟨r5, hr5, h⟩ := xbs h
      refine gX12_204 (pc := 26) o dX12_kept_26 hr5 ?_
      refine x_iconst (pc := 29) o dX12_kept_29 ic_4 ?_
      refine x_iload_n (pc := 30) o dX12_kept_30 rfl rfl ?_
      refine x_imul (pc := 31) o dX12_kept_31 ?_
      refine x_iload_n (pc := 32) o dX12_kept_32 rfl rfl ?_
      refine x_iadd (pc := 33) o dX12_kept_33 ?_
      obtain ⟨v6, hv6, h⟩ := xbs h
      refine x_iaload (pc := 34) o dX12_kept_34 hv6 ?_
      refine x_goto (pc := 35) (tgt := 39) o dX12_kept_35 (by decide) ?_
      exact x_ireturn (pc := 39) o hr dX12_kept_39 (Option.some.inj h) rfl
def fX12_writes (k0 : Nat) (a1 : Int32) (S : xSt) : Option (xSt) :=
  if tM.1 k0 = 12 then
  ((xgF tM 12 85 k0 S).bind fun r1 =>
  (xgI tM 12 86 k0 S).bind fun v2 =>
  (xas tM r1 v2 (a1 &&& ((255 : Int32))) S).bind fun S3 =>
  (xgI tM 12 86 k0 S3).bind fun v4 =>
  (xpI tM 12 86 k0 (v4 + ((1 : Int32))) S3).bind fun S5 =>
  some S5)
  else none
theorem kX12_writes {z : xSt} {k0 : Nat} {a1 : Int32} {S : xSt} (h : fX12_writes k0 a1 S = some z) : tM.1 k0 = 12 := by
  unfold fX12_writes at h
  exact (xck h).1
set_option maxHeartbeats 4000000 in
theorem tX12_writes (l : Launch) (M : xMg) (A : Nat → Prop) (k0 : Nat) (a1 : Int32) (S : xSt) (z : xSt) (h : fX12_writes k0 a1 S = some z) : xMV l yX12_writes cX12_writes 2 none 1 tM M A [.ref (M.2.1 k0), .int a1] S z := by
  refine x_metV (plainFor_of_name (by decide)) tM_ok (Nat.le_of_ble_eq_true rfl) (fun Γ hA hnL hl hr o => ?_)
  subst hA; subst hl
  have o : xOk Γ tM M 1 cX12_writes RX12 := o
  unfold fX12_writes at h
  obtain ⟨hk0, h⟩ := xck h
  refine x_to (l := [(0, .ref (M.2.1 k0)), (1, .int a1)]) ⟨rfl, rfl, trivial⟩ ?_
  refine x_aload_n (pc := 0) o dX12_writes_0 rfl rfl ?_
  obtain ⟨r1, hr1, h⟩ := xbs h
  refine gX12_270 (pc := 1) o dX12_writes_1 hr1 ?_
  refine x_aload_n (pc := 4) o dX12_writes_4 rfl rfl ?_
  obtain ⟨v2, hv2, h⟩ := xbs h
  refine gX12_273 (pc := 5) o dX12_writes_5 hv2 ?_
  refine x_iload_n (pc := 8) o dX12_writes_8 rfl rfl ?_
  refine x_sipush (pc := 9) o dX12_writes_9 sp_255 ?_
  refine x_iand (pc := 12) o dX12_writes_12 ?_
  obtain ⟨S3, hS3, h⟩ := xbs h
  refine x_iastore (pc := 13) o dX12_writes_13 hS3 ?_
  refine x_aload_n (pc := 14) o dX12_writes_14 rfl rfl ?_
  refine x_dup (pc := 15) o dX12_writes_15 rfl ?_
  obtain ⟨v4, hv4, h⟩ := xbs h
  refine gX12_273 (pc := 16) o dX12_writes_16 hv4 ?_
  refine x_iconst (pc := 19) o dX12_writes_19 ic_1 ?_
  refine x_iadd (pc := 20) o dX12_writes_20 ?_
  obtain ⟨S5, hS5, h⟩ := xbs h
  refine pX12_273 (pc := 21) o dX12_writes_21 hS5 ?_
  exact x_vreturn (pc := 24) o hr dX12_writes_24 (Option.some.inj h)
def fX12_writesTwo (k0 : Nat) (a1 : Int32) (S : xSt) : Option (xSt) :=
  if tM.1 k0 = 12 then
  ((fX12_writes k0 (a1 >>> (((8 : Int32)) &&& 31)) S).bind fun S1 =>
  (fX12_writes k0 a1 S1).bind fun S2 =>
  some S2)
  else none
theorem kX12_writesTwo {z : xSt} {k0 : Nat} {a1 : Int32} {S : xSt} (h : fX12_writesTwo k0 a1 S = some z) : tM.1 k0 = 12 := by
  unfold fX12_writesTwo at h
  exact (xck h).1
set_option maxHeartbeats 4000000 in
theorem tX12_writesTwo (l : Launch) (M : xMg) (A : Nat → Prop) (k0 : Nat) (a1 : Int32) (S : xSt) (z : xSt) (h : fX12_writesTwo k0 a1 S = some z) : xMV l yX12_writesTwo cX12_writesTwo 2 none 2 tM M A [.ref (M.2.1 k0), .int a1] S z := by
  refine x_metV (plainFor_of_name (by decide)) tM_ok (Nat.le_of_ble_eq_true rfl) (fun Γ hA hnL hl hr o => ?_)
  subst hA; subst hl
  have o : xOk Γ tM M 2 cX12_writesTwo RX12 := o
  unfold fX12_writesTwo at h
  obtain ⟨hk0, h⟩ := xck h
  refine x_to (l := [(0, .ref (M.2.1 k0)), (1, .int a1)]) ⟨rfl, rfl, trivial⟩ ?_
  refine x_aload_n (pc := 0) o dX12_writesTwo_0 rfl rfl ?_
  refine x_iload_n (pc := 1) o dX12_writesTwo_1 rfl rfl ?_
  refine x_bipush (pc := 2) o dX12_writesTwo_2 bp_8 ?_
  refine x_ishr (pc := 4) o dX12_writesTwo_4 ?_
  obtain ⟨S1, hS1, h⟩ := xbs h
  refine x_callV (pc := 5) (As := [.int (a1 >>> (((8 : Int32)) &&& 31))]) (b := k0) (rest := []) o (tX12_writes _ M _ k0 (a1 >>> (((8 : Int32)) &&& 31)) S S1 hS1) eX12_writes mX12_638 clX12 (kX12_writes hS1) (by decide) rfl rfl (Nat.le_of_ble_eq_true rfl) dX12_writesTwo_5 ?_
  refine x_aload_n (pc := 8) o dX12_writesTwo_8 rfl rfl ?_
  refine x_iload_n (pc := 9) o dX12_writesTwo_9 rfl rfl ?_
  obtain ⟨S2, hS2, h⟩ := xbs h
  refine x_callV (pc := 10) (As := [.int a1]) (b := k0) (rest := []) o (tX12_writes _ M _ k0 a1 S1 S2 hS2) eX12_writes mX12_638 clX12 (kX12_writes hS2) (by decide) rfl rfl (Nat.le_of_ble_eq_true rfl) dX12_writesTwo_10 ?_
  exact x_vreturn (pc := 13) o hr dX12_writesTwo_13 (Option.some.inj h)
def fX12_image_L27b (n : Nat) (k0 : Nat) (rec : Int32 → xSt → Option (xSt)) (a1 : Int32) (S : xSt) : Option (xSt) :=
  (xgF tM 12 17 k0 S).bind fun r8 =>
  (xgI tM 12 13 k0 S).bind fun v9 =>
  (xal tM r8 v9 S).bind fun v10 =>
  if v10 ≤ a1 then
  (some S)
else
  ((xgF tM 12 56 k0 S).bind fun r11 =>
  (xal tM r11 a1 S).bind fun v12 =>
  (fX12_writes k0 v12 S).bind fun S13 =>
  (xgF tM 12 57 k0 S13).bind fun r14 =>
  (xal tM r14 ((0 : Int32)) S13).bind fun v15 =>
  (fX12_writes k0 ((v15 >>> (a1 &&& 31)) &&& ((1 : Int32))) S13).bind fun S16 =>
  (xgF tM 12 58 k0 S16).bind fun r17 =>
  (xal tM r17 ((0 : Int32)) S16).bind fun v18 =>
  (fX12_writes k0 ((v18 >>> (a1 &&& 31)) &&& ((1 : Int32))) S16).bind fun S19 =>
  (some (a1 + (1 : Int32))).bind fun v20 =>
  rec v20 S19)
def fX12_image_L27 (n : Nat) (k0 : Nat) : Nat → Int32 → xSt → Option (xSt)
  | 0 => fun _ _ => none
  | q + 1 => fX12_image_L27b n k0 (fX12_image_L27 n k0 q)
set_option maxHeartbeats 4000000 in
theorem tX12_image_L27b {Γ : xGm} {M : xMg} (o : xOk Γ tM M 3 cX12_image RX12) (hnL : Γ.2.2.2 = 3) {rec : Int32 → xSt → Option (xSt)} (n : Nat) (k0 : Nat) (a1 : Int32) (S : xSt) (z : (xSt)) (hrec : ∀ (a1 : Int32) (S : xSt), rec a1 S = some z → xAt Γ tM M 27 (xlv [(0, .ref (M.2.1 k0)), (1, .int a1)]) [] S) (K : xAt Γ tM M 84 (xlv [(0, .ref (M.2.1 k0))]) [] z) (h : fX12_image_L27b n k0 rec a1 S = some z) : xAt Γ tM M 27 (xlv [(0, .ref (M.2.1 k0)), (1, .int a1)]) [] S := by
  have hn1 : 1 < Γ.2.2.2 := by omega
  unfold fX12_image_L27b at h
  refine x_iload_n (pc := 27) o dX12_image_27 rfl rfl ?_
  refine x_aload_n (pc := 28) o dX12_image_28 rfl rfl ?_
  obtain ⟨r8, hr8, h⟩ := xbs h
  refine gX12_63 (pc := 29) o dX12_image_29 hr8 ?_
  refine x_aload_n (pc := 32) o dX12_image_32 rfl rfl ?_
  obtain ⟨v9, hv9, h⟩ := xbs h
  refine gX12_51 (pc := 33) o dX12_image_33 hv9 ?_
  obtain ⟨v10, hv10, h⟩ := xbs h
  refine x_iaload (pc := 36) o dX12_image_36 hv10 ?_
  refine x_icmp_ge (pc := 37) (tgt := 84) o dX12_image_37 (by decide) (fun c21 => ?_) (fun c21 => ?_)
  · have h := xit h c21
    refine x_to (l := [(0, .ref (M.2.1 k0))]) ⟨rfl, trivial⟩ ?_
    cases Option.some.inj h
    exact K
  · have h := xif h c21
    refine x_aload_n (pc := 40) o dX12_image_40 rfl rfl ?_
    refine x_aload_n (pc := 41) o dX12_image_41 rfl rfl ?_
    obtain ⟨r11, hr11, h⟩ := xbs h
    refine gX12_183 (pc := 42) o dX12_image_42 hr11 ?_
    refine x_iload_n (pc := 45) o dX12_image_45 rfl rfl ?_
    obtain ⟨v12, hv12, h⟩ := xbs h
    refine x_iaload (pc := 46) o dX12_image_46 hv12 ?_
    obtain ⟨S13, hS13, h⟩ := xbs h
    refine x_callV (pc := 47) (As := [.int v12]) (b := k0) (rest := []) o (tX12_writes _ M _ k0 v12 S S13 hS13) eX12_writes mX12_638 clX12 (kX12_writes hS13) (by decide) rfl rfl (Nat.le_of_ble_eq_true rfl) dX12_image_47 ?_
    refine x_aload_n (pc := 50) o dX12_image_50 rfl rfl ?_
    refine x_aload_n (pc := 51) o dX12_image_51 rfl rfl ?_
    obtain ⟨r14, hr14, h⟩ := xbs h
    refine gX12_186 (pc := 52) o dX12_image_52 hr14 ?_
    refine x_iconst (pc := 55) o dX12_image_55 ic_0 ?_
    obtain ⟨v15, hv15, h⟩ := xbs h
    refine x_iaload (pc := 56) o dX12_image_56 hv15 ?_
    refine x_iload_n (pc := 57) o dX12_image_57 rfl rfl ?_
    refine x_ishr (pc := 58) o dX12_image_58 ?_
    refine x_iconst (pc := 59) o dX12_image_59 ic_1 ?_
    refine x_iand (pc := 60) o dX12_image_60 ?_
    obtain ⟨S16, hS16, h⟩ := xbs h
    refine x_callV (pc := 61) (As := [.int ((v15 >>> (a1 &&& 31)) &&& ((1 : Int32)))]) (b := k0) (rest := []) o (tX12_writes _ M _ k0 ((v15 >>> (a1 &&& 31)) &&& ((1 : Int32))) S13 S16 hS16) eX12_writes mX12_638 clX12 (kX12_writes hS16) (by decide) rfl rfl (Nat.le_of_ble_eq_true rfl) dX12_image_61 ?_
    refine x_aload_n (pc := 64) o dX12_image_64 rfl rfl ?_
    refine x_aload_n (pc := 65) o dX12_image_65 rfl rfl ?_
    obtain ⟨r17, hr17, h⟩ := xbs h
    refine gX12_189 (pc := 66) o dX12_image_66 hr17 ?_
    refine x_iconst (pc := 69) o dX12_image_69 ic_0 ?_
    obtain ⟨v18, hv18, h⟩ := xbs h
    refine x_iaload (pc := 70) o dX12_image_70 hv18 ?_
    refine x_iload_n (pc := 71) o dX12_image_71 rfl rfl ?_
    refine x_ishr (pc := 72) o dX12_image_72 ?_
    refine x_iconst (pc := 73) o dX12_image_73 ic_1 ?_
    refine x_iand (pc := 74) o dX12_image_74 ?_
    obtain ⟨S19, hS19, h⟩ := xbs h
    refine x_callV (pc := 75) (As := [.int ((v18 >>> (a1 &&& 31)) &&& ((1 : Int32)))]) (b := k0) (rest := []) o (tX12_writes _ M _ k0 ((v18 >>> (a1 &&& 31)) &&& ((1 : Int32))) S16 S19 hS19) eX12_writes mX12_638 clX12 (kX12_writes hS19) (by decide) rfl rfl (Nat.le_of_ble_eq_true rfl) dX12_image_75 ?_
    obtain ⟨v20, hv20, h⟩ := xbs h
    refine x_iincE (pc := 78) o dX12_image_78 rfl ic_1 hn1 hv20 ?_
    refine x_goto (pc := 81) (tgt := 27) o dX12_image_81 (by decide) ?_
    refine x_to (l := [(0, .ref (M.2.1 k0)), (1, .int v20)]) ⟨rfl, rfl, trivial⟩ ?_
    exact hrec v20 S19 h
theorem tX12_image_L27 {Γ : xGm} {M : xMg} (o : xOk Γ tM M 3 cX12_image RX12) (hnL : Γ.2.2.2 = 3) (n : Nat) (k0 : Nat) (z : (xSt)) (K : xAt Γ tM M 84 (xlv [(0, .ref (M.2.1 k0))]) [] z) : ∀ (q : Nat) (a1 : Int32) (S : xSt), fX12_image_L27 n k0 q a1 S = some z → xAt Γ tM M 27 (xlv [(0, .ref (M.2.1 k0)), (1, .int a1)]) [] S := by
  intro q
  induction q with
  | zero => intro a1 S h; cases h
  | succ q ih => intro a1 S h; exact tX12_image_L27b o hnL n k0 a1 S z ih K h
def fX12_image_L101b (n : Nat) (k0 : Nat) (a1 : Int32) (rec : Int32 → xSt → Option (xSt)) (a2 : Int32) (S : xSt) : Option (xSt) :=
  (xgF tM 12 17 k0 S).bind fun r26 =>
  (xgI tM 12 13 k0 S).bind fun v27 =>
  (xal tM r26 v27 S).bind fun v28 =>
  if v28 ≤ a2 then
  (some S)
else
  ((fX12_knownIn k0 ((0 : Int32)) a1 a2 S).bind fun v29 =>
  (fX12_writes k0 v29 S).bind fun S30 =>
  (some (a2 + (1 : Int32))).bind fun v31 =>
  rec v31 S30)
def fX12_image_L101 (n : Nat) (k0 : Nat) (a1 : Int32) : Nat → Int32 → xSt → Option (xSt)
  | 0 => fun _ _ => none
  | q + 1 => fX12_image_L101b n k0 a1 (fX12_image_L101 n k0 a1 q)
set_option maxHeartbeats 4000000 in
theorem tX12_image_L101b {Γ : xGm} {M : xMg} (o : xOk Γ tM M 3 cX12_image RX12) (hnL : Γ.2.2.2 = 3) {rec : Int32 → xSt → Option (xSt)} (n : Nat) (k0 : Nat) (a1 : Int32) (a2 : Int32) (S : xSt) (z : (xSt)) (hrec : ∀ (a2 : Int32) (S : xSt), rec a2 S = some z → xAt Γ tM M 101 (xlv [(0, .ref (M.2.1 k0)), (1, .int a1), (2, .int a2)]) [] S) (K : xAt Γ tM M 131 (xlv [(0, .ref (M.2.1 k0)), (1, .int a1)]) [] z) (h : fX12_image_L101b n k0 a1 rec a2 S = some z) : xAt Γ tM M 101 (xlv [(0, .ref (M.2.1 k0)), (1, .int a1), (2, .int a2)]) [] S := by
  have hn2 : 2 < Γ.2.2.2 := by omega
  unfold fX12_image_L101b at h
  refine x_iload_n (pc := 101) o dX12_image_101 rfl rfl ?_
  refine x_aload_n (pc := 102) o dX12_image_102 rfl rfl ?_
  obtain ⟨r26, hr26, h⟩ := xbs h
  refine gX12_63 (pc := 103) o dX12_image_103 hr26 ?_
  refine x_aload_n (pc := 106) o dX12_image_106 rfl rfl ?_
  obtain ⟨v27, hv27, h⟩ := xbs h
  refine gX12_51 (pc := 107) o dX12_image_107 hv27 ?_
  obtain ⟨v28, hv28, h⟩ := xbs h
  refine x_iaload (pc := 110) o dX12_image_110 hv28 ?_
  refine x_icmp_ge (pc := 111) (tgt := 131) o dX12_image_111 (by decide) (fun c32 => ?_) (fun c32 => ?_)
  · have h := xit h c32
    refine x_to (l := [(0, .ref (M.2.1 k0)), (1, .int a1)]) ⟨rfl, rfl, trivial⟩ ?_
    cases Option.some.inj h
    exact K
  · have h := xif h c32
    refine x_aload_n (pc := 114) o dX12_image_114 rfl rfl ?_
    refine x_aload_n (pc := 115) o dX12_image_115 rfl rfl ?_
    refine x_iconst (pc := 116) o dX12_image_116 ic_0 ?_
    refine x_iload_n (pc := 117) o dX12_image_117 rfl rfl ?_
    refine x_iload_n (pc := 118) o dX12_image_118 rfl rfl ?_
    obtain ⟨v29, hv29, h⟩ := xbs h
    refine x_callI (pc := 119) (As := [.int ((0 : Int32)), .int a1, .int a2]) (b := k0) (rest := [.ref (M.2.1 k0)]) o (tX12_knownIn _ M _ k0 ((0 : Int32)) a1 a2 S v29 hv29) eX12_knownIn mX12_530 clX12 (kX12_knownIn hv29) (by decide) rfl rfl (Nat.le_of_ble_eq_true rfl) dX12_image_119 ?_
    obtain ⟨S30, hS30, h⟩ := xbs h
    refine x_callV (pc := 122) (As := [.int v29]) (b := k0) (rest := []) o (tX12_writes _ M _ k0 v29 S S30 hS30) eX12_writes mX12_638 clX12 (kX12_writes hS30) (by decide) rfl rfl (Nat.le_of_ble_eq_true rfl) dX12_image_122 ?_
    obtain ⟨v31, hv31, h⟩ := xbs h
    refine x_iincE (pc := 125) o dX12_image_125 rfl ic_1 hn2 hv31 ?_
    refine x_goto (pc := 128) (tgt := 101) o dX12_image_128 (by decide) ?_
    refine x_to (l := [(0, .ref (M.2.1 k0)), (1, .int a1), (2, .int v31)]) ⟨rfl, rfl, rfl, trivial⟩ ?_
    exact hrec v31 S30 h
theorem tX12_image_L101 {Γ : xGm} {M : xMg} (o : xOk Γ tM M 3 cX12_image RX12) (hnL : Γ.2.2.2 = 3) (n : Nat) (k0 : Nat) (a1 : Int32) (z : (xSt)) (K : xAt Γ tM M 131 (xlv [(0, .ref (M.2.1 k0)), (1, .int a1)]) [] z) : ∀ (q : Nat) (a2 : Int32) (S : xSt), fX12_image_L101 n k0 a1 q a2 S = some z → xAt Γ tM M 101 (xlv [(0, .ref (M.2.1 k0)), (1, .int a1), (2, .int a2)]) [] S := by
  intro q
  induction q with
  | zero => intro a2 S h; cases h
  | succ q ih => intro a2 S h; exact tX12_image_L101b o hnL n k0 a1 a2 S z ih K h
def fX12_image_L86b (n : Nat) (k0 : Nat) (rec : Int32 → xSt → Option (xSt)) (a1 : Int32) (S : xSt) : Option (xSt) :=
  (xgF tM 12 20 k0 S).bind fun r23 =>
  (xgI tM 12 13 k0 S).bind fun v24 =>
  (xal tM r23 v24 S).bind fun v25 =>
  if v25 ≤ a1 then
  (some S)
else
  ((fX12_image_L101 n k0 a1 n ((0 : Int32)) S).bind fun z33 => (some (a1 + (1 : Int32))).bind fun v34 =>
  rec v34 z33)
def fX12_image_L86 (n : Nat) (k0 : Nat) : Nat → Int32 → xSt → Option (xSt)
  | 0 => fun _ _ => none
  | q + 1 => fX12_image_L86b n k0 (fX12_image_L86 n k0 q)
set_option maxHeartbeats 4000000 in
theorem tX12_image_L86b {Γ : xGm} {M : xMg} (o : xOk Γ tM M 3 cX12_image RX12) (hnL : Γ.2.2.2 = 3) {rec : Int32 → xSt → Option (xSt)} (n : Nat) (k0 : Nat) (a1 : Int32) (S : xSt) (z : (xSt)) (hrec : ∀ (a1 : Int32) (S : xSt), rec a1 S = some z → xAt Γ tM M 86 (xlv [(0, .ref (M.2.1 k0)), (1, .int a1)]) [] S) (K : xAt Γ tM M 137 (xlv [(0, .ref (M.2.1 k0))]) [] z) (h : fX12_image_L86b n k0 rec a1 S = some z) : xAt Γ tM M 86 (xlv [(0, .ref (M.2.1 k0)), (1, .int a1)]) [] S := by
  have hn1 : 1 < Γ.2.2.2 := by omega
  have hn2 : 2 < Γ.2.2.2 := by omega
  unfold fX12_image_L86b at h
  refine x_iload_n (pc := 86) o dX12_image_86 rfl rfl ?_
  refine x_aload_n (pc := 87) o dX12_image_87 rfl rfl ?_
  obtain ⟨r23, hr23, h⟩ := xbs h
  refine gX12_72 (pc := 88) o dX12_image_88 hr23 ?_
  refine x_aload_n (pc := 91) o dX12_image_91 rfl rfl ?_
  obtain ⟨v24, hv24, h⟩ := xbs h
  refine gX12_51 (pc := 92) o dX12_image_92 hv24 ?_
  obtain ⟨v25, hv25, h⟩ := xbs h
  refine x_iaload (pc := 95) o dX12_image_95 hv25 ?_
  refine x_icmp_ge (pc := 96) (tgt := 137) o dX12_image_96 (by decide) (fun c35 => ?_) (fun c35 => ?_)
  · have h := xit h c35
    refine x_to (l := [(0, .ref (M.2.1 k0))]) ⟨rfl, trivial⟩ ?_
    cases Option.some.inj h
    exact K
  · have h := xif h c35
    refine x_iconst (pc := 99) o dX12_image_99 ic_0 ?_
    refine x_istore_n (pc := 100) o dX12_image_100 rfl hn2 ?_
    obtain ⟨z33, hz33, h⟩ := xbs h
    refine x_to (l := [(0, .ref (M.2.1 k0)), (1, .int a1), (2, .int ((0 : Int32)))]) ⟨rfl, rfl, rfl, trivial⟩ ?_
    refine tX12_image_L101 o hnL n k0 a1 z33 ?_ n ((0 : Int32)) S hz33
    obtain ⟨v34, hv34, h⟩ := xbs h
    refine x_iincE (pc := 131) o dX12_image_131 rfl ic_1 hn1 hv34 ?_
    refine x_goto (pc := 134) (tgt := 86) o dX12_image_134 (by decide) ?_
    refine x_to (l := [(0, .ref (M.2.1 k0)), (1, .int v34)]) ⟨rfl, rfl, trivial⟩ ?_
    exact hrec v34 z33 h
theorem tX12_image_L86 {Γ : xGm} {M : xMg} (o : xOk Γ tM M 3 cX12_image RX12) (hnL : Γ.2.2.2 = 3) (n : Nat) (k0 : Nat) (z : (xSt)) (K : xAt Γ tM M 137 (xlv [(0, .ref (M.2.1 k0))]) [] z) : ∀ (q : Nat) (a1 : Int32) (S : xSt), fX12_image_L86 n k0 q a1 S = some z → xAt Γ tM M 86 (xlv [(0, .ref (M.2.1 k0)), (1, .int a1)]) [] S := by
  intro q
  induction q with
  | zero => intro a1 S h; cases h
  | succ q ih => intro a1 S h; exact tX12_image_L86b o hnL n k0 a1 S z ih K h
def fX12_image_L139b (n : Nat) (k0 : Nat) (rec : Int32 → xSt → Option (xSt)) (a1 : Int32) (S : xSt) : Option (xSt) :=
  (xgF tM 12 22 k0 S).bind fun r37 =>
  (xgI tM 12 13 k0 S).bind fun v38 =>
  (xal tM r37 v38 S).bind fun v39 =>
  if v39 ≤ a1 then
  (some S)
else
  ((fX12_doneIn k0 ((0 : Int32)) a1 S).bind fun v40 =>
  (fX12_writes k0 v40 S).bind fun S41 =>
  (xgF tM 12 61 k0 S41).bind fun r42 =>
  (xal tM r42 a1 S41).bind fun v43 =>
  (fX12_writesTwo k0 v43 S41).bind fun S44 =>
  (some (a1 + (1 : Int32))).bind fun v45 =>
  rec v45 S44)
def fX12_image_L139 (n : Nat) (k0 : Nat) : Nat → Int32 → xSt → Option (xSt)
  | 0 => fun _ _ => none
  | q + 1 => fX12_image_L139b n k0 (fX12_image_L139 n k0 q)
set_option maxHeartbeats 4000000 in
theorem tX12_image_L139b {Γ : xGm} {M : xMg} (o : xOk Γ tM M 3 cX12_image RX12) (hnL : Γ.2.2.2 = 3) {rec : Int32 → xSt → Option (xSt)} (n : Nat) (k0 : Nat) (a1 : Int32) (S : xSt) (z : (xSt)) (hrec : ∀ (a1 : Int32) (S : xSt), rec a1 S = some z → xAt Γ tM M 139 (xlv [(0, .ref (M.2.1 k0)), (1, .int a1)]) [] S) (K : xAt Γ tM M 178 (xlv [(0, .ref (M.2.1 k0))]) [] z) (h : fX12_image_L139b n k0 rec a1 S = some z) : xAt Γ tM M 139 (xlv [(0, .ref (M.2.1 k0)), (1, .int a1)]) [] S := by
  have hn1 : 1 < Γ.2.2.2 := by omega
  unfold fX12_image_L139b at h
  refine x_iload_n (pc := 139) o dX12_image_139 rfl rfl ?_
  refine x_aload_n (pc := 140) o dX12_image_140 rfl rfl ?_
  obtain ⟨r37, hr37, h⟩ := xbs h
  refine gX12_78 (pc := 141) o dX12_image_141 hr37 ?_
  refine x_aload_n (pc := 144) o dX12_image_144 rfl rfl ?_
  obtain ⟨v38, hv38, h⟩ := xbs h
  refine gX12_51 (pc := 145) o dX12_image_145 hv38 ?_
  obtain ⟨v39, hv39, h⟩ := xbs h
  refine x_iaload (pc := 148) o dX12_image_148 hv39 ?_
  refine x_icmp_ge (pc := 149) (tgt := 178) o dX12_image_149 (by decide) (fun c46 => ?_) (fun c46 => ?_)
  · have h := xit h c46
    refine x_to (l := [(0, .ref (M.2.1 k0))]) ⟨rfl, trivial⟩ ?_
    cases Option.some.inj h
    exact K
  · have h := xif h c46
    refine x_aload_n (pc := 152) o dX12_image_152 rfl rfl ?_
    refine x_aload_n (pc := 153) o dX12_image_153 rfl rfl ?_
    refine x_iconst (pc := 154) o dX12_image_154 ic_0 ?_
    refine x_iload_n (pc := 155) o dX12_image_155 rfl rfl ?_
    obtain ⟨v40, hv40, h⟩ := xbs h
    refine x_callI (pc := 156) (As := [.int ((0 : Int32)), .int a1]) (b := k0) (rest := [.ref (M.2.1 k0)]) o (tX12_doneIn _ M _ k0 ((0 : Int32)) a1 S v40 hv40) eX12_doneIn mX12_515 clX12 (kX12_doneIn hv40) (by decide) rfl rfl (Nat.le_of_ble_eq_true rfl) dX12_image_156 ?_
    obtain ⟨S41, hS41, h⟩ := xbs h
    refine x_callV (pc := 159) (As := [.int v40]) (b := k0) (rest := []) o (tX12_writes _ M _ k0 v40 S S41 hS41) eX12_writes mX12_638 clX12 (kX12_writes hS41) (by decide) rfl rfl (Nat.le_of_ble_eq_true rfl) dX12_image_159 ?_
    refine x_aload_n (pc := 162) o dX12_image_162 rfl rfl ?_
    refine x_aload_n (pc := 163) o dX12_image_163 rfl rfl ?_
    obtain ⟨r42, hr42, h⟩ := xbs h
    refine gX12_198 (pc := 164) o dX12_image_164 hr42 ?_
    refine x_iload_n (pc := 167) o dX12_image_167 rfl rfl ?_
    obtain ⟨v43, hv43, h⟩ := xbs h
    refine x_iaload (pc := 168) o dX12_image_168 hv43 ?_
    obtain ⟨S44, hS44, h⟩ := xbs h
    refine x_callV (pc := 169) (As := [.int v43]) (b := k0) (rest := []) o (tX12_writesTwo _ M _ k0 v43 S41 S44 hS44) eX12_writesTwo mX12_641 clX12 (kX12_writesTwo hS44) (by decide) rfl rfl (Nat.le_of_ble_eq_true rfl) dX12_image_169 ?_
    obtain ⟨v45, hv45, h⟩ := xbs h
    refine x_iincE (pc := 172) o dX12_image_172 rfl ic_1 hn1 hv45 ?_
    refine x_goto (pc := 175) (tgt := 139) o dX12_image_175 (by decide) ?_
    refine x_to (l := [(0, .ref (M.2.1 k0)), (1, .int v45)]) ⟨rfl, rfl, trivial⟩ ?_
    exact hrec v45 S44 h
theorem tX12_image_L139 {Γ : xGm} {M : xMg} (o : xOk Γ tM M 3 cX12_image RX12) (hnL : Γ.2.2.2 = 3) (n : Nat) (k0 : Nat) (z : (xSt)) (K : xAt Γ tM M 178 (xlv [(0, .ref (M.2.1 k0))]) [] z) : ∀ (q : Nat) (a1 : Int32) (S : xSt), fX12_image_L139 n k0 q a1 S = some z → xAt Γ tM M 139 (xlv [(0, .ref (M.2.1 k0)), (1, .int a1)]) [] S := by
  intro q
  induction q with
  | zero => intro a1 S h; cases h
  | succ q ih => intro a1 S h; exact tX12_image_L139b o hnL n k0 a1 S z ih K h
def fX12_image_L184b (n : Nat) (k0 : Nat) (rec : Int32 → Int32 → xSt → Option (Int32 × xSt)) (a1 : Int32) (a2 : Int32) (S : xSt) : Option (Int32 × xSt) :=
  (xgI tM 12 86 k0 S).bind fun v48 =>
  if v48 ≤ a2 then
  (some (a1, S))
else
  ((xgF tM 12 85 k0 S).bind fun r49 =>
  (xal tM r49 a2 S).bind fun v50 =>
  if ((251 : Int32)) = 0 then none else
  (some (((((5 : Int32)) * a1) + v50) - ((((5 : Int32)) * a1) + v50) / ((251 : Int32)) * ((251 : Int32)))).bind fun v51 =>
  (some (a2 + (1 : Int32))).bind fun v52 =>
  rec v51 v52 S)
def fX12_image_L184 (n : Nat) (k0 : Nat) : Nat → Int32 → Int32 → xSt → Option (Int32 × xSt)
  | 0 => fun _ _ _ => none
  | q + 1 => fX12_image_L184b n k0 (fX12_image_L184 n k0 q)
set_option maxHeartbeats 4000000 in
theorem tX12_image_L184b {Γ : xGm} {M : xMg} (o : xOk Γ tM M 3 cX12_image RX12) (hnL : Γ.2.2.2 = 3) {rec : Int32 → Int32 → xSt → Option (Int32 × xSt)} (n : Nat) (k0 : Nat) (a1 : Int32) (a2 : Int32) (S : xSt) (z : (Int32 × xSt)) (hrec : ∀ (a1 : Int32) (a2 : Int32) (S : xSt), rec a1 a2 S = some z → xAt Γ tM M 184 (xlv [(0, .ref (M.2.1 k0)), (1, .int a1), (2, .int a2)]) [] S) (K : xAt Γ tM M 213 (xlv [(0, .ref (M.2.1 k0)), (1, .int z.1)]) [] z.2) (h : fX12_image_L184b n k0 rec a1 a2 S = some z) : xAt Γ tM M 184 (xlv [(0, .ref (M.2.1 k0)), (1, .int a1), (2, .int a2)]) [] S := by
  have hn1 : 1 < Γ.2.2.2 := by omega
  have hn2 : 2 < Γ.2.2.2 := by omega
  unfold fX12_image_L184b at h
  refine x_iload_n (pc := 184) o dX12_image_184 rfl rfl ?_
  refine x_aload_n (pc := 185) o dX12_image_185 rfl rfl ?_
  obtain ⟨v48, hv48, h⟩ := xbs h
  refine gX12_273 (pc := 186) o dX12_image_186 hv48 ?_
  refine x_icmp_ge (pc := 189) (tgt := 213) o dX12_image_189 (by decide) (fun c53 => ?_) (fun c53 => ?_)
  · have h := xit h c53
    refine x_to (l := [(0, .ref (M.2.1 k0)), (1, .int a1)]) ⟨rfl, rfl, trivial⟩ ?_
    cases Option.some.inj h
    exact K
  · have h := xif h c53
    refine x_iconst (pc := 192) o dX12_image_192 ic_5 ?_
    refine x_iload_n (pc := 193) o dX12_image_193 rfl rfl ?_
    refine x_imul (pc := 194) o dX12_image_194 ?_
    refine x_aload_n (pc := 195) o dX12_image_195 rfl rfl ?_
    obtain ⟨r49, hr49, h⟩ := xbs h
    refine gX12_270 (pc := 196) o dX12_image_196 hr49 ?_
    refine x_iload_n (pc := 199) o dX12_image_199 rfl rfl ?_
    obtain ⟨v50, hv50, h⟩ := xbs h
    refine x_iaload (pc := 200) o dX12_image_200 hv50 ?_
    refine x_iadd (pc := 201) o dX12_image_201 ?_
    refine x_sipush (pc := 202) o dX12_image_202 sp_251 ?_
    obtain ⟨hq, h⟩ := xcn h
    refine x_irem (pc := 205) o dX12_image_205 hq ?_
    obtain ⟨v51, hv51, h⟩ := xbs h
    refine x_istore_nE (pc := 206) o dX12_image_206 rfl hn1 hv51 ?_
    obtain ⟨v52, hv52, h⟩ := xbs h
    refine x_iincE (pc := 207) o dX12_image_207 rfl ic_1 hn2 hv52 ?_
    refine x_goto (pc := 210) (tgt := 184) o dX12_image_210 (by decide) ?_
    refine x_to (l := [(0, .ref (M.2.1 k0)), (1, .int v51), (2, .int v52)]) ⟨rfl, rfl, rfl, trivial⟩ ?_
    exact hrec v51 v52 S h
theorem tX12_image_L184 {Γ : xGm} {M : xMg} (o : xOk Γ tM M 3 cX12_image RX12) (hnL : Γ.2.2.2 = 3) (n : Nat) (k0 : Nat) (z : (Int32 × xSt)) (K : xAt Γ tM M 213 (xlv [(0, .ref (M.2.1 k0)), (1, .int z.1)]) [] z.2) : ∀ (q : Nat) (a1 : Int32) (a2 : Int32) (S : xSt), fX12_image_L184 n k0 q a1 a2 S = some z → xAt Γ tM M 184 (xlv [(0, .ref (M.2.1 k0)), (1, .int a1), (2, .int a2)]) [] S := by
  intro q
  induction q with
  | zero => intro a1 a2 S h; cases h
  | succ q ih => intro a1 a2 S h; exact tX12_image_L184b o hnL n k0 a1 a2 S z ih K h
def fX12_image (n : Nat) (k0 : Nat) (S : xSt) : Option (Int32 × xSt) :=
  if tM.1 k0 = 12 then
  ((xpI tM 12 86 k0 ((0 : Int32)) S).bind fun S1 =>
  (xgF tM 12 54 k0 S1).bind fun r2 =>
  (xal tM r2 ((0 : Int32)) S1).bind fun v3 =>
  (fX12_writesTwo k0 v3 S1).bind fun S4 =>
  (xgF tM 12 55 k0 S4).bind fun r5 =>
  (xal tM r5 ((0 : Int32)) S4).bind fun v6 =>
  (fX12_writesTwo k0 v6 S4).bind fun S7 =>
  (fX12_image_L27 n k0 n ((0 : Int32)) S7).bind fun z22 => (fX12_image_L86 n k0 n ((0 : Int32)) z22).bind fun z36 => (fX12_image_L139 n k0 n ((0 : Int32)) z36).bind fun z47 => (fX12_image_L184 n k0 n ((157 : Int32)) ((0 : Int32)) z47).bind fun z54 => (fX12_writes k0 z54.1 z54.2).bind fun S55 =>
  (xgI tM 12 86 k0 S55).bind fun v56 =>
  some (v56, S55))
  else none
theorem kX12_image {z : Int32 × xSt} {n : Nat} {k0 : Nat} {S : xSt} (h : fX12_image n k0 S = some z) : tM.1 k0 = 12 := by
  unfold fX12_image at h
  exact (xck h).1
set_option maxHeartbeats 4000000 in
theorem tX12_image (l : Launch) (M : xMg) (A : Nat → Prop) (n : Nat) (k0 : Nat) (S : xSt) (z : Int32 × xSt) (h : fX12_image n k0 S = some z) : xMI l yX12_image cX12_image 3 (some .int) 3 tM M A [.ref (M.2.1 k0)] S z.1 z.2 := by
  refine x_metI (plainFor_of_name (by decide)) tM_ok (Nat.le_of_ble_eq_true rfl) (fun Γ hA hnL hl hr o => ?_)
  subst hA; subst hl
  have o : xOk Γ tM M 3 cX12_image RX12 := o
  unfold fX12_image at h
  obtain ⟨hk0, h⟩ := xck h
  refine x_to (l := [(0, .ref (M.2.1 k0))]) ⟨rfl, trivial⟩ ?_
  have hn1 : 1 < Γ.2.2.2 := by omega
  have hn2 : 2 < Γ.2.2.2 := by omega
  refine x_aload_n (pc := 0) o dX12_image_0 rfl rfl ?_
  refine x_iconst (pc := 1) o dX12_image_1 ic_0 ?_
  obtain ⟨S1, hS1, h⟩ := xbs h
  refine pX12_273 (pc := 2) o dX12_image_2 hS1 ?_
  refine x_aload_n (pc := 5) o dX12_image_5 rfl rfl ?_
  refine x_aload_n (pc := 6) o dX12_image_6 rfl rfl ?_
  obtain ⟨r2, hr2, h⟩ := xbs h
  refine gX12_177 (pc := 7) o dX12_image_7 hr2 ?_
  refine x_iconst (pc := 10) o dX12_image_10 ic_0 ?_
  obtain ⟨v3, hv3, h⟩ := xbs h
  refine x_iaload (pc := 11) o dX12_image_11 hv3 ?_
  obtain ⟨S4, hS4, h⟩ := xbs h
  refine x_callV (pc := 12) (As := [.int v3]) (b := k0) (rest := []) o (tX12_writesTwo _ M _ k0 v3 S1 S4 hS4) eX12_writesTwo mX12_641 clX12 (kX12_writesTwo hS4) (by decide) rfl rfl (Nat.le_of_ble_eq_true rfl) dX12_image_12 ?_
  refine x_aload_n (pc := 15) o dX12_image_15 rfl rfl ?_
  refine x_aload_n (pc := 16) o dX12_image_16 rfl rfl ?_
  obtain ⟨r5, hr5, h⟩ := xbs h
  refine gX12_180 (pc := 17) o dX12_image_17 hr5 ?_
  refine x_iconst (pc := 20) o dX12_image_20 ic_0 ?_
  obtain ⟨v6, hv6, h⟩ := xbs h
  refine x_iaload (pc := 21) o dX12_image_21 hv6 ?_
  obtain ⟨S7, hS7, h⟩ := xbs h
  refine x_callV (pc := 22) (As := [.int v6]) (b := k0) (rest := []) o (tX12_writesTwo _ M _ k0 v6 S4 S7 hS7) eX12_writesTwo mX12_641 clX12 (kX12_writesTwo hS7) (by decide) rfl rfl (Nat.le_of_ble_eq_true rfl) dX12_image_22 ?_
  refine x_iconst (pc := 25) o dX12_image_25 ic_0 ?_
  refine x_istore_n (pc := 26) o dX12_image_26 rfl hn1 ?_
  obtain ⟨z22, hz22, h⟩ := xbs h
  refine x_to (l := [(0, .ref (M.2.1 k0)), (1, .int ((0 : Int32)))]) ⟨rfl, rfl, trivial⟩ ?_
  refine tX12_image_L27 o hnL n k0 z22 ?_ n ((0 : Int32)) S7 hz22
  refine x_iconst (pc := 84) o dX12_image_84 ic_0 ?_
  refine x_istore_n (pc := 85) o dX12_image_85 rfl hn1 ?_
  obtain ⟨z36, hz36, h⟩ := xbs h
  refine x_to (l := [(0, .ref (M.2.1 k0)), (1, .int ((0 : Int32)))]) ⟨rfl, rfl, trivial⟩ ?_
  refine tX12_image_L86 o hnL n k0 z36 ?_ n ((0 : Int32)) z22 hz36
  refine x_iconst (pc := 137) o dX12_image_137 ic_0 ?_
  refine x_istore_n (pc := 138) o dX12_image_138 rfl hn1 ?_
  obtain ⟨z47, hz47, h⟩ := xbs h
  refine x_to (l := [(0, .ref (M.2.1 k0)), (1, .int ((0 : Int32)))]) ⟨rfl, rfl, trivial⟩ ?_
  refine tX12_image_L139 o hnL n k0 z47 ?_ n ((0 : Int32)) z36 hz47
  refine x_sipush (pc := 178) o dX12_image_178 sp_157 ?_
  refine x_istore_n (pc := 181) o dX12_image_181 rfl hn1 ?_
  refine x_iconst (pc := 182) o dX12_image_182 ic_0 ?_
  refine x_istore_n (pc := 183) o dX12_image_183 rfl hn2 ?_
  obtain ⟨z54, hz54, h⟩ := xbs h
  refine x_to (l := [(0, .ref (M.2.1 k0)), (1, .int ((157 : Int32))), (2, .int ((0 : Int32)))]) ⟨rfl, rfl, rfl, trivial⟩ ?_
  refine tX12_image_L184 o hnL n k0 z54 ?_ n ((157 : Int32)) ((0 : Int32)) z47 hz54
  refine x_aload_n (pc := 213) o dX12_image_213 rfl rfl ?_
  refine x_iload_n (pc := 214) o dX12_image_214 rfl rfl ?_
  obtain ⟨S55, hS55, h⟩ := xbs h
  refine x_callV (pc := 215) (As := [.int z54.1]) (b := k0) (rest := []) o (tX12_writes _ M _ k0 z54.1 z54.2 S55 hS55) eX12_writes mX12_638 clX12 (kX12_writes hS55) (by decide) rfl rfl (Nat.le_of_ble_eq_true rfl) dX12_image_215 ?_
  refine x_aload_n (pc := 218) o dX12_image_218 rfl rfl ?_
  obtain ⟨v56, hv56, h⟩ := xbs h
  refine gX12_273 (pc := 219) o dX12_image_219 hv56 ?_
  exact x_ireturn (pc := 222) o hr dX12_image_222 (xr1 h) (xr2 h)
def fX12_octet (k0 : Nat) (a1 : Int32) (S : xSt) : Option (Int32) :=
  if tM.1 k0 = 12 then
  ((xgI tM 12 86 k0 S).bind fun v1 =>
  (fX12_is a1 ((0 : Int32)) (v1 - ((1 : Int32))) S).bind fun v2 =>
  if v2 = 0 then
  (some ((-1 : Int32)))
else
  ((xgF tM 12 85 k0 S).bind fun r3 =>
  (xal tM r3 a1 S).bind fun v4 =>
  some v4))
  else none
theorem kX12_octet {z : Int32} {k0 : Nat} {a1 : Int32} {S : xSt} (h : fX12_octet k0 a1 S = some z) : tM.1 k0 = 12 := by
  unfold fX12_octet at h
  exact (xck h).1
set_option maxHeartbeats 4000000 in
theorem tX12_octet (l : Launch) (M : xMg) (A : Nat → Prop) (k0 : Nat) (a1 : Int32) (S : xSt) (z : Int32) (h : fX12_octet k0 a1 S = some z) : xMI l yX12_octet cX12_octet 2 (some .int) 2 tM M A [.ref (M.2.1 k0), .int a1] S z S := by
  refine x_metI (plainFor_of_name (by decide)) tM_ok (Nat.le_of_ble_eq_true rfl) (fun Γ hA hnL hl hr o => ?_)
  subst hA; subst hl
  have o : xOk Γ tM M 2 cX12_octet RX12 := o
  unfold fX12_octet at h
  obtain ⟨hk0, h⟩ := xck h
  refine x_to (l := [(0, .ref (M.2.1 k0)), (1, .int a1)]) ⟨rfl, rfl, trivial⟩ ?_
  refine x_iload_n (pc := 0) o dX12_octet_0 rfl rfl ?_
  refine x_iconst (pc := 1) o dX12_octet_1 ic_0 ?_
  refine x_aload_n (pc := 2) o dX12_octet_2 rfl rfl ?_
  obtain ⟨v1, hv1, h⟩ := xbs h
  refine gX12_273 (pc := 3) o dX12_octet_3 hv1 ?_
  refine x_iconst (pc := 6) o dX12_octet_6 ic_1 ?_
  refine x_isub (pc := 7) o dX12_octet_7 ?_
  obtain ⟨v2, hv2, h⟩ := xbs h
  refine x_statI (pc := 8) (As := [.int a1, .int ((0 : Int32)), .int (v1 - ((1 : Int32)))]) (rest := []) o (tX12_is _ M _ a1 ((0 : Int32)) (v1 - ((1 : Int32))) S v2 hv2) eX12_is mX12_379 (by decide) rfl rfl (Nat.le_of_ble_eq_true rfl) dX12_octet_8 ?_
  refine x_if_eq (pc := 11) (tgt := 23) o dX12_octet_11 (by decide) (fun c5 => ?_) (fun c5 => ?_)
  · have h := xit h c5
    refine x_iconst (pc := 23) o dX12_octet_23 ic_m1 ?_
    exact x_ireturn (pc := 24) o hr dX12_octet_24 (Option.some.inj h) rfl
  · have h := xif h c5
    refine x_aload_n (pc := 14) o dX12_octet_14 rfl rfl ?_
    obtain ⟨r3, hr3, h⟩ := xbs h
    refine gX12_270 (pc := 15) o dX12_octet_15 hr3 ?_
    refine x_iload_n (pc := 18) o dX12_octet_18 rfl rfl ?_
    obtain ⟨v4, hv4, h⟩ := xbs h
    refine x_iaload (pc := 19) o dX12_octet_19 hv4 ?_
    refine x_goto (pc := 20) (tgt := 24) o dX12_octet_20 (by decide) ?_
    exact x_ireturn (pc := 24) o hr dX12_octet_24 (Option.some.inj h) rfl
def fX12_twoBytes (k0 : Nat) (a1 : Int32) (S : xSt) : Option (Int32) :=
  if tM.1 k0 = 12 then
  ((xgF tM 12 0 k0 S).bind fun r1 =>
  (xal tM r1 a1 S).bind fun v2 =>
  (xgF tM 12 0 k0 S).bind fun r3 =>
  (xal tM r3 (a1 + ((1 : Int32))) S).bind fun v4 =>
  some ((v2 <<< (((8 : Int32)) &&& 31)) ||| v4))
  else none
theorem kX12_twoBytes {z : Int32} {k0 : Nat} {a1 : Int32} {S : xSt} (h : fX12_twoBytes k0 a1 S = some z) : tM.1 k0 = 12 := by
  unfold fX12_twoBytes at h
  exact (xck h).1
set_option maxHeartbeats 4000000 in
theorem tX12_twoBytes (l : Launch) (M : xMg) (A : Nat → Prop) (k0 : Nat) (a1 : Int32) (S : xSt) (z : Int32) (h : fX12_twoBytes k0 a1 S = some z) : xMI l yX12_twoBytes cX12_twoBytes 2 (some .int) 1 tM M A [.ref (M.2.1 k0), .int a1] S z S := by
  refine x_metI (plainFor_of_name (by decide)) tM_ok (Nat.le_of_ble_eq_true rfl) (fun Γ hA hnL hl hr o => ?_)
  subst hA; subst hl
  have o : xOk Γ tM M 1 cX12_twoBytes RX12 := o
  unfold fX12_twoBytes at h
  obtain ⟨hk0, h⟩ := xck h
  refine x_to (l := [(0, .ref (M.2.1 k0)), (1, .int a1)]) ⟨rfl, rfl, trivial⟩ ?_
  refine x_aload_n (pc := 0) o dX12_twoBytes_0 rfl rfl ?_
  obtain ⟨r1, hr1, h⟩ := xbs h
  refine gX12_7 (pc := 1) o dX12_twoBytes_1 hr1 ?_
  refine x_iload_n (pc := 4) o dX12_twoBytes_4 rfl rfl ?_
  obtain ⟨v2, hv2, h⟩ := xbs h
  refine x_iaload (pc := 5) o dX12_twoBytes_5 hv2 ?_
  refine x_bipush (pc := 6) o dX12_twoBytes_6 bp_8 ?_
  refine x_ishl (pc := 8) o dX12_twoBytes_8 ?_
  refine x_aload_n (pc := 9) o dX12_twoBytes_9 rfl rfl ?_
  obtain ⟨r3, hr3, h⟩ := xbs h
  refine gX12_7 (pc := 10) o dX12_twoBytes_10 hr3 ?_
  refine x_iload_n (pc := 13) o dX12_twoBytes_13 rfl rfl ?_
  refine x_iconst (pc := 14) o dX12_twoBytes_14 ic_1 ?_
  refine x_iadd (pc := 15) o dX12_twoBytes_15 ?_
  obtain ⟨v4, hv4, h⟩ := xbs h
  refine x_iaload (pc := 16) o dX12_twoBytes_16 hv4 ?_
  refine x_ior (pc := 17) o dX12_twoBytes_17 ?_
  exact x_ireturn (pc := 18) o hr dX12_twoBytes_18 (Option.some.inj h) rfl
def fX12_toolOn_B69 (k0 : Nat) (a2 : Int32) (s0 : Nat) (s1 : Int32) (s2 : Int32) (s3 : Int32) (S : xSt) : Option (Int32 × xSt) :=
  (xas tM s0 s1 (s2 ||| s3) S).bind fun S14 =>
  (xgF tM 12 0 k0 S14).bind fun r15 =>
  (xal tM r15 a2 S14).bind fun v16 =>
  if ((100 : Int32)) < v16 then
  (some ((0 : Int32), S14))
else
  ((xgF tM 12 0 k0 S14).bind fun r17 =>
  (xal tM r17 (a2 + ((1 : Int32))) S14).bind fun v18 =>
  if ((2 : Int32)) ≤ v18 then
  (some ((0 : Int32), S14))
else
  ((xgF tM 12 0 k0 S14).bind fun r19 =>
  (xal tM r19 (a2 + ((2 : Int32))) S14).bind fun v20 =>
  if ((2 : Int32)) ≤ v20 then
  (some ((0 : Int32), S14))
else
  (some ((1 : Int32), S14))))
set_option maxHeartbeats 4000000 in
theorem tX12_toolOn_B69 {Γ : xGm} {M : xMg} (o : xOk Γ tM M 1 cX12_toolOn RX12) (hnL : Γ.2.2.2 = 3) (k0 : Nat) (a2 : Int32) (s0 : Nat) (s1 : Int32) (s2 : Int32) (s3 : Int32) (S : xSt) (z : (Int32 × xSt)) (hr : xRI Γ tM M (some .boolean) z.1 z.2) (h : fX12_toolOn_B69 k0 a2 s0 s1 s2 s3 S = some z) : xAt Γ tM M 69 (xlv [(0, .ref (M.2.1 k0)), (2, .int a2)]) [.int s3, .int s2, .int s1, .ref (M.2.1 s0)] S := by
  unfold fX12_toolOn_B69 at h
  refine x_ior (pc := 69) o dX12_toolOn_69 ?_
  obtain ⟨S14, hS14, h⟩ := xbs h
  refine x_iastore (pc := 70) o dX12_toolOn_70 hS14 ?_
  refine x_aload_n (pc := 71) o dX12_toolOn_71 rfl rfl ?_
  obtain ⟨r15, hr15, h⟩ := xbs h
  refine gX12_7 (pc := 72) o dX12_toolOn_72 hr15 ?_
  refine x_iload_n (pc := 75) o dX12_toolOn_75 rfl rfl ?_
  obtain ⟨v16, hv16, h⟩ := xbs h
  refine x_iaload (pc := 76) o dX12_toolOn_76 hv16 ?_
  refine x_bipush (pc := 77) o dX12_toolOn_77 bp_100 ?_
  refine x_icmp_gt (pc := 79) (tgt := 110) o dX12_toolOn_79 (by decide) (fun c23 => ?_) (fun c23 => ?_)
  · have h := xit h c23
    refine x_iconst (pc := 110) o dX12_toolOn_110 ic_0 ?_
    exact x_zreturn (pc := 111) o hr dX12_toolOn_111 (by decide) (xr1 h) (xr2 h)
  · have h := xif h c23
    refine x_aload_n (pc := 82) o dX12_toolOn_82 rfl rfl ?_
    obtain ⟨r17, hr17, h⟩ := xbs h
    refine gX12_7 (pc := 83) o dX12_toolOn_83 hr17 ?_
    refine x_iload_n (pc := 86) o dX12_toolOn_86 rfl rfl ?_
    refine x_iconst (pc := 87) o dX12_toolOn_87 ic_1 ?_
    refine x_iadd (pc := 88) o dX12_toolOn_88 ?_
    obtain ⟨v18, hv18, h⟩ := xbs h
    refine x_iaload (pc := 89) o dX12_toolOn_89 hv18 ?_
    refine x_iconst (pc := 90) o dX12_toolOn_90 ic_2 ?_
    refine x_icmp_ge (pc := 91) (tgt := 110) o dX12_toolOn_91 (by decide) (fun c22 => ?_) (fun c22 => ?_)
    · have h := xit h c22
      refine x_iconst (pc := 110) o dX12_toolOn_110 ic_0 ?_
      exact x_zreturn (pc := 111) o hr dX12_toolOn_111 (by decide) (xr1 h) (xr2 h)
    · have h := xif h c22
      refine x_aload_n (pc := 94) o dX12_toolOn_94 rfl rfl ?_
      obtain ⟨r19, hr19, h⟩ := xbs h
      refine gX12_7 (pc := 95) o dX12_toolOn_95 hr19 ?_
      refine x_iload_n (pc := 98) o dX12_toolOn_98 rfl rfl ?_
      refine x_iconst (pc := 99) o dX12_toolOn_99 ic_2 ?_
      refine x_iadd (pc := 100) o dX12_toolOn_100 ?_
      obtain ⟨v20, hv20, h⟩ := xbs h
      refine x_iaload (pc := 101) o dX12_toolOn_101 hv20 ?_
      refine x_iconst (pc := 102) o dX12_toolOn_102 ic_2 ?_
      refine x_icmp_ge (pc := 103) (tgt := 110) o dX12_toolOn_103 (by decide) (fun c21 => ?_) (fun c21 => ?_)
      · have h := xit h c21
        refine x_iconst (pc := 110) o dX12_toolOn_110 ic_0 ?_
        exact x_zreturn (pc := 111) o hr dX12_toolOn_111 (by decide) (xr1 h) (xr2 h)
      · have h := xif h c21
        refine x_iconst (pc := 106) o dX12_toolOn_106 ic_1 ?_
        refine x_goto (pc := 107) (tgt := 111) o dX12_toolOn_107 (by decide) ?_
        exact x_zreturn (pc := 111) o hr dX12_toolOn_111 (by decide) (xr1 h) (xr2 h)
def fX12_toolOn_B41 (k0 : Nat) (a1 : Int32) (a2 : Int32) (s0 : Nat) (s1 : Int32) (s2 : Int32) (s3 : Int32) (S : xSt) : Option (Int32 × xSt) :=
  (xas tM s0 s1 (s2 ||| s3) S).bind fun S9 =>
  (xgF tM 12 58 k0 S9).bind fun r10 =>
  (xal tM r10 ((1 : Int32)) S9).bind fun v11 =>
  (xgF tM 12 0 k0 S9).bind fun r12 =>
  (xal tM r12 (a2 + ((2 : Int32))) S9).bind fun v13 =>
  if v13 = ((1 : Int32)) then
  (fX12_toolOn_B69 k0 a2 r10 ((1 : Int32)) v11 (((1 : Int32)) <<< (a1 &&& 31)) S9)
else
  (fX12_toolOn_B69 k0 a2 r10 ((1 : Int32)) v11 ((0 : Int32)) S9)
set_option maxHeartbeats 4000000 in
theorem tX12_toolOn_B41 {Γ : xGm} {M : xMg} (o : xOk Γ tM M 1 cX12_toolOn RX12) (hnL : Γ.2.2.2 = 3) (k0 : Nat) (a1 : Int32) (a2 : Int32) (s0 : Nat) (s1 : Int32) (s2 : Int32) (s3 : Int32) (S : xSt) (z : (Int32 × xSt)) (hr : xRI Γ tM M (some .boolean) z.1 z.2) (h : fX12_toolOn_B41 k0 a1 a2 s0 s1 s2 s3 S = some z) : xAt Γ tM M 41 (xlv [(0, .ref (M.2.1 k0)), (1, .int a1), (2, .int a2)]) [.int s3, .int s2, .int s1, .ref (M.2.1 s0)] S := by
  unfold fX12_toolOn_B41 at h
  refine x_ior (pc := 41) o dX12_toolOn_41 ?_
  obtain ⟨S9, hS9, h⟩ := xbs h
  refine x_iastore (pc := 42) o dX12_toolOn_42 hS9 ?_
  refine x_aload_n (pc := 43) o dX12_toolOn_43 rfl rfl ?_
  obtain ⟨r10, hr10, h⟩ := xbs h
  refine gX12_189 (pc := 44) o dX12_toolOn_44 hr10 ?_
  refine x_iconst (pc := 47) o dX12_toolOn_47 ic_1 ?_
  refine x_dup2 (pc := 48) o dX12_toolOn_48 rfl rfl ?_
  obtain ⟨v11, hv11, h⟩ := xbs h
  refine x_iaload (pc := 49) o dX12_toolOn_49 hv11 ?_
  refine x_aload_n (pc := 50) o dX12_toolOn_50 rfl rfl ?_
  obtain ⟨r12, hr12, h⟩ := xbs h
  refine gX12_7 (pc := 51) o dX12_toolOn_51 hr12 ?_
  refine x_iload_n (pc := 54) o dX12_toolOn_54 rfl rfl ?_
  refine x_iconst (pc := 55) o dX12_toolOn_55 ic_2 ?_
  refine x_iadd (pc := 56) o dX12_toolOn_56 ?_
  obtain ⟨v13, hv13, h⟩ := xbs h
  refine x_iaload (pc := 57) o dX12_toolOn_57 hv13 ?_
  refine x_iconst (pc := 58) o dX12_toolOn_58 ic_1 ?_
  refine x_icmp_ne (pc := 59) (tgt := 68) o dX12_toolOn_59 (by decide) (fun c24 => ?_) (fun c24 => ?_)
  · have h := xif h c24
    refine x_iconst (pc := 68) o dX12_toolOn_68 ic_0 ?_
    refine x_to (l := [(0, .ref (M.2.1 k0)), (2, .int a2)]) ⟨rfl, rfl, trivial⟩ ?_
    exact tX12_toolOn_B69 o hnL k0 a2 r10 ((1 : Int32)) v11 ((0 : Int32)) S9 z hr h
  · have h := xit h c24
    refine x_iconst (pc := 62) o dX12_toolOn_62 ic_1 ?_
    refine x_iload_n (pc := 63) o dX12_toolOn_63 rfl rfl ?_
    refine x_ishl (pc := 64) o dX12_toolOn_64 ?_
    refine x_goto (pc := 65) (tgt := 69) o dX12_toolOn_65 (by decide) ?_
    refine x_to (l := [(0, .ref (M.2.1 k0)), (2, .int a2)]) ⟨rfl, rfl, trivial⟩ ?_
    exact tX12_toolOn_B69 o hnL k0 a2 r10 ((1 : Int32)) v11 (((1 : Int32)) <<< (a1 &&& 31)) S9 z hr h
def fX12_toolOn (k0 : Nat) (a1 : Int32) (a2 : Int32) (S : xSt) : Option (Int32 × xSt) :=
  if tM.1 k0 = 12 then
  ((xgF tM 12 56 k0 S).bind fun r1 =>
  (xgF tM 12 0 k0 S).bind fun r2 =>
  (xal tM r2 a2 S).bind fun v3 =>
  (xas tM r1 (((8 : Int32)) + a1) v3 S).bind fun S4 =>
  (xgF tM 12 57 k0 S4).bind fun r5 =>
  (xal tM r5 ((1 : Int32)) S4).bind fun v6 =>
  (xgF tM 12 0 k0 S4).bind fun r7 =>
  (xal tM r7 (a2 + ((1 : Int32))) S4).bind fun v8 =>
  if v8 = ((1 : Int32)) then
  (fX12_toolOn_B41 k0 a1 a2 r5 ((1 : Int32)) v6 (((1 : Int32)) <<< (a1 &&& 31)) S4)
else
  (fX12_toolOn_B41 k0 a1 a2 r5 ((1 : Int32)) v6 ((0 : Int32)) S4))
  else none
theorem kX12_toolOn {z : Int32 × xSt} {k0 : Nat} {a1 : Int32} {a2 : Int32} {S : xSt} (h : fX12_toolOn k0 a1 a2 S = some z) : tM.1 k0 = 12 := by
  unfold fX12_toolOn at h
  exact (xck h).1
set_option maxHeartbeats 4000000 in
theorem tX12_toolOn (l : Launch) (M : xMg) (A : Nat → Prop) (k0 : Nat) (a1 : Int32) (a2 : Int32) (S : xSt) (z : Int32 × xSt) (h : fX12_toolOn k0 a1 a2 S = some z) : xMI l yX12_toolOn cX12_toolOn 3 (some .boolean) 1 tM M A [.ref (M.2.1 k0), .int a1, .int a2] S z.1 z.2 := by
  refine x_metI (plainFor_of_name (by decide)) tM_ok (Nat.le_of_ble_eq_true rfl) (fun Γ hA hnL hl hr o => ?_)
  subst hA; subst hl
  have o : xOk Γ tM M 1 cX12_toolOn RX12 := o
  unfold fX12_toolOn at h
  obtain ⟨hk0, h⟩ := xck h
  refine x_to (l := [(0, .ref (M.2.1 k0)), (1, .int a1), (2, .int a2)]) ⟨rfl, rfl, rfl, trivial⟩ ?_
  refine x_aload_n (pc := 0) o dX12_toolOn_0 rfl rfl ?_
  obtain ⟨r1, hr1, h⟩ := xbs h
  refine gX12_183 (pc := 1) o dX12_toolOn_1 hr1 ?_
  refine x_bipush (pc := 4) o dX12_toolOn_4 bp_8 ?_
  refine x_iload_n (pc := 6) o dX12_toolOn_6 rfl rfl ?_
  refine x_iadd (pc := 7) o dX12_toolOn_7 ?_
  refine x_aload_n (pc := 8) o dX12_toolOn_8 rfl rfl ?_
  obtain ⟨r2, hr2, h⟩ := xbs h
  refine gX12_7 (pc := 9) o dX12_toolOn_9 hr2 ?_
  refine x_iload_n (pc := 12) o dX12_toolOn_12 rfl rfl ?_
  obtain ⟨v3, hv3, h⟩ := xbs h
  refine x_iaload (pc := 13) o dX12_toolOn_13 hv3 ?_
  obtain ⟨S4, hS4, h⟩ := xbs h
  refine x_iastore (pc := 14) o dX12_toolOn_14 hS4 ?_
  refine x_aload_n (pc := 15) o dX12_toolOn_15 rfl rfl ?_
  obtain ⟨r5, hr5, h⟩ := xbs h
  refine gX12_186 (pc := 16) o dX12_toolOn_16 hr5 ?_
  refine x_iconst (pc := 19) o dX12_toolOn_19 ic_1 ?_
  refine x_dup2 (pc := 20) o dX12_toolOn_20 rfl rfl ?_
  obtain ⟨v6, hv6, h⟩ := xbs h
  refine x_iaload (pc := 21) o dX12_toolOn_21 hv6 ?_
  refine x_aload_n (pc := 22) o dX12_toolOn_22 rfl rfl ?_
  obtain ⟨r7, hr7, h⟩ := xbs h
  refine gX12_7 (pc := 23) o dX12_toolOn_23 hr7 ?_
  refine x_iload_n (pc := 26) o dX12_toolOn_26 rfl rfl ?_
  refine x_iconst (pc := 27) o dX12_toolOn_27 ic_1 ?_
  refine x_iadd (pc := 28) o dX12_toolOn_28 ?_
  obtain ⟨v8, hv8, h⟩ := xbs h
  refine x_iaload (pc := 29) o dX12_toolOn_29 hv8 ?_
  refine x_iconst (pc := 30) o dX12_toolOn_30 ic_1 ?_
  refine x_icmp_ne (pc := 31) (tgt := 40) o dX12_toolOn_31 (by decide) (fun c25 => ?_) (fun c25 => ?_)
  · have h := xif h c25
    refine x_iconst (pc := 40) o dX12_toolOn_40 ic_0 ?_
    refine x_to (l := [(0, .ref (M.2.1 k0)), (1, .int a1), (2, .int a2)]) ⟨rfl, rfl, rfl, trivial⟩ ?_
    exact tX12_toolOn_B41 o hnL k0 a1 a2 r5 ((1 : Int32)) v6 ((0 : Int32)) S4 z hr h
  · have h := xit h c25
    refine x_iconst (pc := 34) o dX12_toolOn_34 ic_1 ?_
    refine x_iload_n (pc := 35) o dX12_toolOn_35 rfl rfl ?_
    refine x_ishl (pc := 36) o dX12_toolOn_36 ?_
    refine x_goto (pc := 37) (tgt := 41) o dX12_toolOn_37 (by decide) ?_
    refine x_to (l := [(0, .ref (M.2.1 k0)), (1, .int a1), (2, .int a2)]) ⟨rfl, rfl, rfl, trivial⟩ ?_
    exact tX12_toolOn_B41 o hnL k0 a1 a2 r5 ((1 : Int32)) v6 (((1 : Int32)) <<< (a1 &&& 31)) S4 z hr h
def fX12_handOn_L5b (n : Nat) (k0 : Nat) (a1 : Int32) (a2 : Int32) (rec : Int32 → Int32 → xSt → Option (Int32 × xSt)) (a3 : Int32) (a4 : Int32) (S : xSt) : Option (Int32 × xSt) :=
  (xgF tM 12 17 k0 S).bind fun r1 =>
  (xgI tM 12 13 k0 S).bind fun v2 =>
  (xal tM r1 v2 S).bind fun v3 =>
  if v3 ≤ a4 then
  (some (a3, S))
else
  ((xgF tM 12 59 k0 S).bind fun r4 =>
  (xgF tM 12 0 k0 S).bind fun r5 =>
  (xal tM r5 (a2 + a4) S).bind fun v6 =>
  (xas tM r4 ((((48 : Int32)) + (((8 : Int32)) * a1)) + a4) v6 S).bind fun S7 =>
  if a3 = 0 then
  ((some (a4 + (1 : Int32))).bind fun v8 =>
  rec ((0 : Int32)) v8 S7)
else
  ((xgF tM 12 0 k0 S7).bind fun r9 =>
  (xal tM r9 (a2 + a4) S7).bind fun v10 =>
  if ((9 : Int32)) < v10 then
  ((some (a4 + (1 : Int32))).bind fun v11 =>
  rec ((0 : Int32)) v11 S7)
else
  ((some (a4 + (1 : Int32))).bind fun v12 =>
  rec ((1 : Int32)) v12 S7)))
def fX12_handOn_L5 (n : Nat) (k0 : Nat) (a1 : Int32) (a2 : Int32) : Nat → Int32 → Int32 → xSt → Option (Int32 × xSt)
  | 0 => fun _ _ _ => none
  | q + 1 => fX12_handOn_L5b n k0 a1 a2 (fX12_handOn_L5 n k0 a1 a2 q)
set_option maxHeartbeats 4000000 in
theorem tX12_handOn_L5b {Γ : xGm} {M : xMg} (o : xOk Γ tM M 1 cX12_handOn RX12) (hnL : Γ.2.2.2 = 5) {rec : Int32 → Int32 → xSt → Option (Int32 × xSt)} (n : Nat) (k0 : Nat) (a1 : Int32) (a2 : Int32) (a3 : Int32) (a4 : Int32) (S : xSt) (z : (Int32 × xSt)) (hrec : ∀ (a3 : Int32) (a4 : Int32) (S : xSt), rec a3 a4 S = some z → xAt Γ tM M 5 (xlv [(0, .ref (M.2.1 k0)), (1, .int a1), (2, .int a2), (3, .int a3), (4, .int a4)]) [] S) (K : xAt Γ tM M 73 (xlv [(3, .int z.1)]) [] z.2) (h : fX12_handOn_L5b n k0 a1 a2 rec a3 a4 S = some z) : xAt Γ tM M 5 (xlv [(0, .ref (M.2.1 k0)), (1, .int a1), (2, .int a2), (3, .int a3), (4, .int a4)]) [] S := by
  have hn3 : 3 < Γ.2.2.2 := by omega
  have hn4 : 4 < Γ.2.2.2 := by omega
  unfold fX12_handOn_L5b at h
  refine x_iload (pc := 5) o dX12_handOn_5 rfl ?_
  refine x_aload_n (pc := 7) o dX12_handOn_7 rfl rfl ?_
  obtain ⟨r1, hr1, h⟩ := xbs h
  refine gX12_63 (pc := 8) o dX12_handOn_8 hr1 ?_
  refine x_aload_n (pc := 11) o dX12_handOn_11 rfl rfl ?_
  obtain ⟨v2, hv2, h⟩ := xbs h
  refine gX12_51 (pc := 12) o dX12_handOn_12 hv2 ?_
  obtain ⟨v3, hv3, h⟩ := xbs h
  refine x_iaload (pc := 15) o dX12_handOn_15 hv3 ?_
  refine x_icmp_ge (pc := 16) (tgt := 73) o dX12_handOn_16 (by decide) (fun c15 => ?_) (fun c15 => ?_)
  · have h := xit h c15
    refine x_to (l := [(3, .int a3)]) ⟨rfl, trivial⟩ ?_
    cases Option.some.inj h
    exact K
  · have h := xif h c15
    refine x_aload_n (pc := 19) o dX12_handOn_19 rfl rfl ?_
    obtain ⟨r4, hr4, h⟩ := xbs h
    refine gX12_192 (pc := 20) o dX12_handOn_20 hr4 ?_
    refine x_bipush (pc := 23) o dX12_handOn_23 bp_48 ?_
    refine x_bipush (pc := 25) o dX12_handOn_25 bp_8 ?_
    refine x_iload_n (pc := 27) o dX12_handOn_27 rfl rfl ?_
    refine x_imul (pc := 28) o dX12_handOn_28 ?_
    refine x_iadd (pc := 29) o dX12_handOn_29 ?_
    refine x_iload (pc := 30) o dX12_handOn_30 rfl ?_
    refine x_iadd (pc := 32) o dX12_handOn_32 ?_
    refine x_aload_n (pc := 33) o dX12_handOn_33 rfl rfl ?_
    obtain ⟨r5, hr5, h⟩ := xbs h
    refine gX12_7 (pc := 34) o dX12_handOn_34 hr5 ?_
    refine x_iload_n (pc := 37) o dX12_handOn_37 rfl rfl ?_
    refine x_iload (pc := 38) o dX12_handOn_38 rfl ?_
    refine x_iadd (pc := 40) o dX12_handOn_40 ?_
    obtain ⟨v6, hv6, h⟩ := xbs h
    refine x_iaload (pc := 41) o dX12_handOn_41 hv6 ?_
    obtain ⟨S7, hS7, h⟩ := xbs h
    refine x_iastore (pc := 42) o dX12_handOn_42 hS7 ?_
    refine x_iload_n (pc := 43) o dX12_handOn_43 rfl rfl ?_
    refine x_if_eq (pc := 44) (tgt := 65) o dX12_handOn_44 (by decide) (fun c14 => ?_) (fun c14 => ?_)
    · have h := xit h c14
      refine x_iconst (pc := 65) o dX12_handOn_65 ic_0 ?_
      refine x_istore_n (pc := 66) o dX12_handOn_66 rfl hn3 ?_
      obtain ⟨v8, hv8, h⟩ := xbs h
      refine x_iincE (pc := 67) o dX12_handOn_67 rfl ic_1 hn4 hv8 ?_
      refine x_goto (pc := 70) (tgt := 5) o dX12_handOn_70 (by decide) ?_
      refine x_to (l := [(0, .ref (M.2.1 k0)), (1, .int a1), (2, .int a2), (3, .int ((0 : Int32))), (4, .int v8)]) ⟨rfl, rfl, rfl, rfl, rfl, trivial⟩ ?_
      exact hrec ((0 : Int32)) v8 S7 h
    · have h := xif h c14
      refine x_aload_n (pc := 47) o dX12_handOn_47 rfl rfl ?_
      obtain ⟨r9, hr9, h⟩ := xbs h
      refine gX12_7 (pc := 48) o dX12_handOn_48 hr9 ?_
      refine x_iload_n (pc := 51) o dX12_handOn_51 rfl rfl ?_
      refine x_iload (pc := 52) o dX12_handOn_52 rfl ?_
      refine x_iadd (pc := 54) o dX12_handOn_54 ?_
      obtain ⟨v10, hv10, h⟩ := xbs h
      refine x_iaload (pc := 55) o dX12_handOn_55 hv10 ?_
      refine x_bipush (pc := 56) o dX12_handOn_56 bp_9 ?_
      refine x_icmp_gt (pc := 58) (tgt := 65) o dX12_handOn_58 (by decide) (fun c13 => ?_) (fun c13 => ?_)
      · have h := xit h c13
        refine x_iconst (pc := 65) o dX12_handOn_65 ic_0 ?_
        refine x_istore_n (pc := 66) o dX12_handOn_66 rfl hn3 ?_
        obtain ⟨v11, hv11, h⟩ := xbs h
        refine x_iincE (pc := 67) o dX12_handOn_67 rfl ic_1 hn4 hv11 ?_
        refine x_goto (pc := 70) (tgt := 5) o dX12_handOn_70 (by decide) ?_
        refine x_to (l := [(0, .ref (M.2.1 k0)), (1, .int a1), (2, .int a2), (3, .int ((0 : Int32))), (4, .int v11)]) ⟨rfl, rfl, rfl, rfl, rfl, trivial⟩ ?_
        exact hrec ((0 : Int32)) v11 S7 h
      · have h := xif h c13
        refine x_iconst (pc := 61) o dX12_handOn_61 ic_1 ?_
        refine x_goto (pc := 62) (tgt := 66) o dX12_handOn_62 (by decide) ?_
        refine x_istore_n (pc := 66) o dX12_handOn_66 rfl hn3 ?_
        obtain ⟨v12, hv12, h⟩ := xbs h
        refine x_iincE (pc := 67) o dX12_handOn_67 rfl ic_1 hn4 hv12 ?_
        refine x_goto (pc := 70) (tgt := 5) o dX12_handOn_70 (by decide) ?_
        refine x_to (l := [(0, .ref (M.2.1 k0)), (1, .int a1), (2, .int a2), (3, .int ((1 : Int32))), (4, .int v12)]) ⟨rfl, rfl, rfl, rfl, rfl, trivial⟩ ?_
        exact hrec ((1 : Int32)) v12 S7 h
theorem tX12_handOn_L5 {Γ : xGm} {M : xMg} (o : xOk Γ tM M 1 cX12_handOn RX12) (hnL : Γ.2.2.2 = 5) (n : Nat) (k0 : Nat) (a1 : Int32) (a2 : Int32) (z : (Int32 × xSt)) (K : xAt Γ tM M 73 (xlv [(3, .int z.1)]) [] z.2) : ∀ (q : Nat) (a3 : Int32) (a4 : Int32) (S : xSt), fX12_handOn_L5 n k0 a1 a2 q a3 a4 S = some z → xAt Γ tM M 5 (xlv [(0, .ref (M.2.1 k0)), (1, .int a1), (2, .int a2), (3, .int a3), (4, .int a4)]) [] S := by
  intro q
  induction q with
  | zero => intro a3 a4 S h; cases h
  | succ q ih => intro a3 a4 S h; exact tX12_handOn_L5b o hnL n k0 a1 a2 a3 a4 S z ih K h
def fX12_handOn (n : Nat) (k0 : Nat) (a1 : Int32) (a2 : Int32) (S : xSt) : Option (Int32 × xSt) :=
  if tM.1 k0 = 12 then
  ((fX12_handOn_L5 n k0 a1 a2 n ((1 : Int32)) ((0 : Int32)) S).bind fun z16 => if z16.1 = 0 ∨ z16.1 = 1 then (some (z16.1, z16.2)) else none)
  else none
theorem kX12_handOn {z : Int32 × xSt} {n : Nat} {k0 : Nat} {a1 : Int32} {a2 : Int32} {S : xSt} (h : fX12_handOn n k0 a1 a2 S = some z) : tM.1 k0 = 12 := by
  unfold fX12_handOn at h
  exact (xck h).1
set_option maxHeartbeats 4000000 in
theorem tX12_handOn (l : Launch) (M : xMg) (A : Nat → Prop) (n : Nat) (k0 : Nat) (a1 : Int32) (a2 : Int32) (S : xSt) (z : Int32 × xSt) (h : fX12_handOn n k0 a1 a2 S = some z) : xMI l yX12_handOn cX12_handOn 5 (some .boolean) 1 tM M A [.ref (M.2.1 k0), .int a1, .int a2] S z.1 z.2 := by
  refine x_metI (plainFor_of_name (by decide)) tM_ok (Nat.le_of_ble_eq_true rfl) (fun Γ hA hnL hl hr o => ?_)
  subst hA; subst hl
  have o : xOk Γ tM M 1 cX12_handOn RX12 := o
  unfold fX12_handOn at h
  obtain ⟨hk0, h⟩ := xck h
  refine x_to (l := [(0, .ref (M.2.1 k0)), (1, .int a1), (2, .int a2)]) ⟨rfl, rfl, rfl, trivial⟩ ?_
  have hn3 : 3 < Γ.2.2.2 := by omega
  have hn4 : 4 < Γ.2.2.2 := by omega
  refine x_iconst (pc := 0) o dX12_handOn_0 ic_1 ?_
  refine x_istore_n (pc := 1) o dX12_handOn_1 rfl hn3 ?_
  refine x_iconst (pc := 2) o dX12_handOn_2 ic_0 ?_
  refine x_istore (pc := 3) o dX12_handOn_3 hn4 ?_
  obtain ⟨z16, hz16, h⟩ := xbs h
  refine x_to (l := [(0, .ref (M.2.1 k0)), (1, .int a1), (2, .int a2), (3, .int ((1 : Int32))), (4, .int ((0 : Int32)))]) ⟨rfl, rfl, rfl, rfl, rfl, trivial⟩ ?_
  refine tX12_handOn_L5 o hnL n k0 a1 a2 z16 ?_ n ((1 : Int32)) ((0 : Int32)) S hz16
  refine x_iload_n (pc := 73) o dX12_handOn_73 rfl rfl ?_
  obtain ⟨hz, h⟩ := xck h
  exact x_zreturn (pc := 74) o hr dX12_handOn_74 hz (xr1 h) (xr2 h)
def fX12_jobOn (k0 : Nat) (a1 : Int32) (a2 : Int32) (S : xSt) : Option (Int32 × xSt) :=
  if tM.1 k0 = 12 then
  ((xgF tM 12 60 k0 S).bind fun r1 =>
  (xgF tM 12 0 k0 S).bind fun r2 =>
  (xal tM r2 a2 S).bind fun v3 =>
  (xas tM r1 (((6 : Int32)) + a1) v3 S).bind fun S4 =>
  (xgF tM 12 61 k0 S4).bind fun r5 =>
  (fX12_twoBytes k0 (a2 + ((1 : Int32))) S4).bind fun v6 =>
  (xas tM r5 (((6 : Int32)) + a1) v6 S4).bind fun S7 =>
  (xgF tM 12 0 k0 S7).bind fun r8 =>
  (xal tM r8 a2 S7).bind fun v9 =>
  (fX12_stepsOf k0 a1 S7).bind fun v10 =>
  if v10 < v9 then
  (some ((0 : Int32), S7))
else
  ((fX12_twoBytes k0 (a2 + ((1 : Int32))) S7).bind fun v11 =>
  if ((999 : Int32)) < v11 then
  (some ((0 : Int32), S7))
else
  (some ((1 : Int32), S7))))
  else none
theorem kX12_jobOn {z : Int32 × xSt} {k0 : Nat} {a1 : Int32} {a2 : Int32} {S : xSt} (h : fX12_jobOn k0 a1 a2 S = some z) : tM.1 k0 = 12 := by
  unfold fX12_jobOn at h
  exact (xck h).1
set_option maxHeartbeats 4000000 in
theorem tX12_jobOn (l : Launch) (M : xMg) (A : Nat → Prop) (k0 : Nat) (a1 : Int32) (a2 : Int32) (S : xSt) (z : Int32 × xSt) (h : fX12_jobOn k0 a1 a2 S = some z) : xMI l yX12_jobOn cX12_jobOn 3 (some .boolean) 2 tM M A [.ref (M.2.1 k0), .int a1, .int a2] S z.1 z.2 := by
  refine x_metI (plainFor_of_name (by decide)) tM_ok (Nat.le_of_ble_eq_true rfl) (fun Γ hA hnL hl hr o => ?_)
  subst hA; subst hl
  have o : xOk Γ tM M 2 cX12_jobOn RX12 := o
  unfold fX12_jobOn at h
  obtain ⟨hk0, h⟩ := xck h
  refine x_to (l := [(0, .ref (M.2.1 k0)), (1, .int a1), (2, .int a2)]) ⟨rfl, rfl, rfl, trivial⟩ ?_
  refine x_aload_n (pc := 0) o dX12_jobOn_0 rfl rfl ?_
  obtain ⟨r1, hr1, h⟩ := xbs h
  refine gX12_195 (pc := 1) o dX12_jobOn_1 hr1 ?_
  refine x_bipush (pc := 4) o dX12_jobOn_4 bp_6 ?_
  refine x_iload_n (pc := 6) o dX12_jobOn_6 rfl rfl ?_
  refine x_iadd (pc := 7) o dX12_jobOn_7 ?_
  refine x_aload_n (pc := 8) o dX12_jobOn_8 rfl rfl ?_
  obtain ⟨r2, hr2, h⟩ := xbs h
  refine gX12_7 (pc := 9) o dX12_jobOn_9 hr2 ?_
  refine x_iload_n (pc := 12) o dX12_jobOn_12 rfl rfl ?_
  obtain ⟨v3, hv3, h⟩ := xbs h
  refine x_iaload (pc := 13) o dX12_jobOn_13 hv3 ?_
  obtain ⟨S4, hS4, h⟩ := xbs h
  refine x_iastore (pc := 14) o dX12_jobOn_14 hS4 ?_
  refine x_aload_n (pc := 15) o dX12_jobOn_15 rfl rfl ?_
  obtain ⟨r5, hr5, h⟩ := xbs h
  refine gX12_198 (pc := 16) o dX12_jobOn_16 hr5 ?_
  refine x_bipush (pc := 19) o dX12_jobOn_19 bp_6 ?_
  refine x_iload_n (pc := 21) o dX12_jobOn_21 rfl rfl ?_
  refine x_iadd (pc := 22) o dX12_jobOn_22 ?_
  refine x_aload_n (pc := 23) o dX12_jobOn_23 rfl rfl ?_
  refine x_iload_n (pc := 24) o dX12_jobOn_24 rfl rfl ?_
  refine x_iconst (pc := 25) o dX12_jobOn_25 ic_1 ?_
  refine x_iadd (pc := 26) o dX12_jobOn_26 ?_
  obtain ⟨v6, hv6, h⟩ := xbs h
  refine x_callI (pc := 27) (As := [.int (a2 + ((1 : Int32)))]) (b := k0) (rest := [.int (((6 : Int32)) + a1), .ref (M.2.1 r5)]) o (tX12_twoBytes _ M _ k0 (a2 + ((1 : Int32))) S4 v6 hv6) eX12_twoBytes mX12_644 clX12 (kX12_twoBytes hv6) (by decide) rfl rfl (Nat.le_of_ble_eq_true rfl) dX12_jobOn_27 ?_
  obtain ⟨S7, hS7, h⟩ := xbs h
  refine x_iastore (pc := 30) o dX12_jobOn_30 hS7 ?_
  refine x_aload_n (pc := 31) o dX12_jobOn_31 rfl rfl ?_
  obtain ⟨r8, hr8, h⟩ := xbs h
  refine gX12_7 (pc := 32) o dX12_jobOn_32 hr8 ?_
  refine x_iload_n (pc := 35) o dX12_jobOn_35 rfl rfl ?_
  obtain ⟨v9, hv9, h⟩ := xbs h
  refine x_iaload (pc := 36) o dX12_jobOn_36 hv9 ?_
  refine x_aload_n (pc := 37) o dX12_jobOn_37 rfl rfl ?_
  refine x_iload_n (pc := 38) o dX12_jobOn_38 rfl rfl ?_
  obtain ⟨v10, hv10, h⟩ := xbs h
  refine x_callI (pc := 39) (As := [.int a1]) (b := k0) (rest := [.int v9]) o (tX12_stepsOf _ M _ k0 a1 S7 v10 hv10) eX12_stepsOf mX12_518 clX12 (kX12_stepsOf hv10) (by decide) rfl rfl (Nat.le_of_ble_eq_true rfl) dX12_jobOn_39 ?_
  refine x_icmp_gt (pc := 42) (tgt := 62) o dX12_jobOn_42 (by decide) (fun c13 => ?_) (fun c13 => ?_)
  · have h := xit h c13
    refine x_iconst (pc := 62) o dX12_jobOn_62 ic_0 ?_
    exact x_zreturn (pc := 63) o hr dX12_jobOn_63 (by decide) (xr1 h) (xr2 h)
  · have h := xif h c13
    refine x_aload_n (pc := 45) o dX12_jobOn_45 rfl rfl ?_
    refine x_iload_n (pc := 46) o dX12_jobOn_46 rfl rfl ?_
    refine x_iconst (pc := 47) o dX12_jobOn_47 ic_1 ?_
    refine x_iadd (pc := 48) o dX12_jobOn_48 ?_
    obtain ⟨v11, hv11, h⟩ := xbs h
    refine x_callI (pc := 49) (As := [.int (a2 + ((1 : Int32)))]) (b := k0) (rest := []) o (tX12_twoBytes _ M _ k0 (a2 + ((1 : Int32))) S7 v11 hv11) eX12_twoBytes mX12_644 clX12 (kX12_twoBytes hv11) (by decide) rfl rfl (Nat.le_of_ble_eq_true rfl) dX12_jobOn_49 ?_
    refine x_sipush (pc := 52) o dX12_jobOn_52 sp_999 ?_
    refine x_icmp_gt (pc := 55) (tgt := 62) o dX12_jobOn_55 (by decide) (fun c12 => ?_) (fun c12 => ?_)
    · have h := xit h c12
      refine x_iconst (pc := 62) o dX12_jobOn_62 ic_0 ?_
      exact x_zreturn (pc := 63) o hr dX12_jobOn_63 (by decide) (xr1 h) (xr2 h)
    · have h := xif h c12
      refine x_iconst (pc := 58) o dX12_jobOn_58 ic_1 ?_
      refine x_goto (pc := 59) (tgt := 63) o dX12_jobOn_59 (by decide) ?_
      exact x_zreturn (pc := 63) o hr dX12_jobOn_63 (by decide) (xr1 h) (xr2 h)
def fX12_comesOn_L79b (n : Nat) (k0 : Nat) (a1 : Int32) (a2 : Int32) (a3 : Int32) (rec : Int32 → Int32 → xSt → Option (Int32 × xSt)) (a4 : Int32) (a5 : Int32) (S : xSt) : Option (Int32 × xSt) :=
  if (a1 - ((1 : Int32))) ≤ a5 then
  (some (a4, S))
else
  ((xgF tM 12 0 k0 S).bind fun r13 =>
  (xal tM r13 a5 S).bind fun v14 =>
  if ((251 : Int32)) = 0 then none else
  (some (((((5 : Int32)) * a4) + v14) - ((((5 : Int32)) * a4) + v14) / ((251 : Int32)) * ((251 : Int32)))).bind fun v15 =>
  (some (a5 + (1 : Int32))).bind fun v16 =>
  rec v15 v16 S)
def fX12_comesOn_L79 (n : Nat) (k0 : Nat) (a1 : Int32) (a2 : Int32) (a3 : Int32) : Nat → Int32 → Int32 → xSt → Option (Int32 × xSt)
  | 0 => fun _ _ _ => none
  | q + 1 => fX12_comesOn_L79b n k0 a1 a2 a3 (fX12_comesOn_L79 n k0 a1 a2 a3 q)
set_option maxHeartbeats 4000000 in
theorem tX12_comesOn_L79b {Γ : xGm} {M : xMg} (o : xOk Γ tM M 3 cX12_comesOn RX12) (hnL : Γ.2.2.2 = 6) {rec : Int32 → Int32 → xSt → Option (Int32 × xSt)} (n : Nat) (k0 : Nat) (a1 : Int32) (a2 : Int32) (a3 : Int32) (a4 : Int32) (a5 : Int32) (S : xSt) (z : (Int32 × xSt)) (hrec : ∀ (a4 : Int32) (a5 : Int32) (S : xSt), rec a4 a5 S = some z → xAt Γ tM M 79 (xlv [(0, .ref (M.2.1 k0)), (1, .int a1), (2, .int a2), (3, .int a3), (4, .int a4), (5, .int a5)]) [] S) (K : xAt Γ tM M 111 (xlv [(0, .ref (M.2.1 k0)), (1, .int a1), (2, .int a2), (3, .int a3), (4, .int z.1)]) [] z.2) (h : fX12_comesOn_L79b n k0 a1 a2 a3 rec a4 a5 S = some z) : xAt Γ tM M 79 (xlv [(0, .ref (M.2.1 k0)), (1, .int a1), (2, .int a2), (3, .int a3), (4, .int a4), (5, .int a5)]) [] S := by
  have hn4 : 4 < Γ.2.2.2 := by omega
  have hn5 : 5 < Γ.2.2.2 := by omega
  unfold fX12_comesOn_L79b at h
  refine x_iload (pc := 79) o dX12_comesOn_79 rfl ?_
  refine x_iload_n (pc := 81) o dX12_comesOn_81 rfl rfl ?_
  refine x_iconst (pc := 82) o dX12_comesOn_82 ic_1 ?_
  refine x_isub (pc := 83) o dX12_comesOn_83 ?_
  refine x_icmp_ge (pc := 84) (tgt := 111) o dX12_comesOn_84 (by decide) (fun c17 => ?_) (fun c17 => ?_)
  · have h := xit h c17
    refine x_to (l := [(0, .ref (M.2.1 k0)), (1, .int a1), (2, .int a2), (3, .int a3), (4, .int a4)]) ⟨rfl, rfl, rfl, rfl, rfl, trivial⟩ ?_
    cases Option.some.inj h
    exact K
  · have h := xif h c17
    refine x_iconst (pc := 87) o dX12_comesOn_87 ic_5 ?_
    refine x_iload (pc := 88) o dX12_comesOn_88 rfl ?_
    refine x_imul (pc := 90) o dX12_comesOn_90 ?_
    refine x_aload_n (pc := 91) o dX12_comesOn_91 rfl rfl ?_
    obtain ⟨r13, hr13, h⟩ := xbs h
    refine gX12_7 (pc := 92) o dX12_comesOn_92 hr13 ?_
    refine x_iload (pc := 95) o dX12_comesOn_95 rfl ?_
    obtain ⟨v14, hv14, h⟩ := xbs h
    refine x_iaload (pc := 97) o dX12_comesOn_97 hv14 ?_
    refine x_iadd (pc := 98) o dX12_comesOn_98 ?_
    refine x_sipush (pc := 99) o dX12_comesOn_99 sp_251 ?_
    obtain ⟨hq, h⟩ := xcn h
    refine x_irem (pc := 102) o dX12_comesOn_102 hq ?_
    obtain ⟨v15, hv15, h⟩ := xbs h
    refine x_istoreE (pc := 103) o dX12_comesOn_103 hn4 hv15 ?_
    obtain ⟨v16, hv16, h⟩ := xbs h
    refine x_iincE (pc := 105) o dX12_comesOn_105 rfl ic_1 hn5 hv16 ?_
    refine x_goto (pc := 108) (tgt := 79) o dX12_comesOn_108 (by decide) ?_
    refine x_to (l := [(0, .ref (M.2.1 k0)), (1, .int a1), (2, .int a2), (3, .int a3), (4, .int v15), (5, .int v16)]) ⟨rfl, rfl, rfl, rfl, rfl, rfl, trivial⟩ ?_
    exact hrec v15 v16 S h
theorem tX12_comesOn_L79 {Γ : xGm} {M : xMg} (o : xOk Γ tM M 3 cX12_comesOn RX12) (hnL : Γ.2.2.2 = 6) (n : Nat) (k0 : Nat) (a1 : Int32) (a2 : Int32) (a3 : Int32) (z : (Int32 × xSt)) (K : xAt Γ tM M 111 (xlv [(0, .ref (M.2.1 k0)), (1, .int a1), (2, .int a2), (3, .int a3), (4, .int z.1)]) [] z.2) : ∀ (q : Nat) (a4 : Int32) (a5 : Int32) (S : xSt), fX12_comesOn_L79 n k0 a1 a2 a3 q a4 a5 S = some z → xAt Γ tM M 79 (xlv [(0, .ref (M.2.1 k0)), (1, .int a1), (2, .int a2), (3, .int a3), (4, .int a4), (5, .int a5)]) [] S := by
  intro q
  induction q with
  | zero => intro a4 a5 S h; cases h
  | succ q ih => intro a4 a5 S h; exact tX12_comesOn_L79b o hnL n k0 a1 a2 a3 a4 a5 S z ih K h
def fX12_comesOn_L178b (n : Nat) (k0 : Nat) (a2 : Int32) (a3 : Int32) (rec : Int32 → xSt → Option ((xSt) ⊕ (Int32 × xSt))) (a5 : Int32) (S : xSt) : Option ((xSt) ⊕ (Int32 × xSt)) :=
  if a2 ≤ a5 then
  (some (.inl S))
else
  ((fX12_toolOn k0 a5 (((4 : Int32)) + (((3 : Int32)) * a5)) S).bind fun q34 =>
  if q34.1 = 0 then
  (some (.inr ((0 : Int32), q34.2)))
else
  ((some (a5 + (1 : Int32))).bind fun v35 =>
  rec v35 q34.2))
def fX12_comesOn_L178 (n : Nat) (k0 : Nat) (a2 : Int32) (a3 : Int32) : Nat → Int32 → xSt → Option ((xSt) ⊕ (Int32 × xSt))
  | 0 => fun _ _ => none
  | q + 1 => fX12_comesOn_L178b n k0 a2 a3 (fX12_comesOn_L178 n k0 a2 a3 q)
set_option maxHeartbeats 4000000 in
theorem tX12_comesOn_L178b {Γ : xGm} {M : xMg} (o : xOk Γ tM M 3 cX12_comesOn RX12) (hnL : Γ.2.2.2 = 6) {rec : Int32 → xSt → Option ((xSt) ⊕ (Int32 × xSt))} (n : Nat) (k0 : Nat) (a2 : Int32) (a3 : Int32) (a5 : Int32) (S : xSt) (z : ((xSt) ⊕ (Int32 × xSt))) (hrec : ∀ (a5 : Int32) (S : xSt), rec a5 S = some z → xAt Γ tM M 178 (xlv [(0, .ref (M.2.1 k0)), (2, .int a2), (3, .int a3), (5, .int a5)]) [] S) (K : ∀ e, z = .inl e → xAt Γ tM M 207 (xlv [(0, .ref (M.2.1 k0)), (2, .int a2), (3, .int a3)]) [] e) (R : ∀ r, z = .inr r → xRI Γ tM M (some .boolean) r.1 r.2) (h : fX12_comesOn_L178b n k0 a2 a3 rec a5 S = some z) : xAt Γ tM M 178 (xlv [(0, .ref (M.2.1 k0)), (2, .int a2), (3, .int a3), (5, .int a5)]) [] S := by
  have hn5 : 5 < Γ.2.2.2 := by omega
  unfold fX12_comesOn_L178b at h
  refine x_iload (pc := 178) o dX12_comesOn_178 rfl ?_
  refine x_iload_n (pc := 180) o dX12_comesOn_180 rfl rfl ?_
  refine x_icmp_ge (pc := 181) (tgt := 207) o dX12_comesOn_181 (by decide) (fun c37 => ?_) (fun c37 => ?_)
  · have h := xit h c37
    refine x_to (l := [(0, .ref (M.2.1 k0)), (2, .int a2), (3, .int a3)]) ⟨rfl, rfl, rfl, trivial⟩ ?_
    exact K _ (Option.some.inj h).symm
  · have h := xif h c37
    refine x_aload_n (pc := 184) o dX12_comesOn_184 rfl rfl ?_
    refine x_iload (pc := 185) o dX12_comesOn_185 rfl ?_
    refine x_iconst (pc := 187) o dX12_comesOn_187 ic_4 ?_
    refine x_iconst (pc := 188) o dX12_comesOn_188 ic_3 ?_
    refine x_iload (pc := 189) o dX12_comesOn_189 rfl ?_
    refine x_imul (pc := 191) o dX12_comesOn_191 ?_
    refine x_iadd (pc := 192) o dX12_comesOn_192 ?_
    obtain ⟨q34, hq34, h⟩ := xbs h
    refine x_callI (pc := 193) (As := [.int a5, .int (((4 : Int32)) + (((3 : Int32)) * a5))]) (b := k0) (rest := []) o (tX12_toolOn _ M _ k0 a5 (((4 : Int32)) + (((3 : Int32)) * a5)) S q34 hq34) eX12_toolOn mX12_647 clX12 (kX12_toolOn hq34) (by decide) rfl rfl (Nat.le_of_ble_eq_true rfl) dX12_comesOn_193 ?_
    refine x_if_ne (pc := 196) (tgt := 201) o dX12_comesOn_196 (by decide) (fun c36 => ?_) (fun c36 => ?_)
    · have h := xif h c36
      obtain ⟨v35, hv35, h⟩ := xbs h
      refine x_iincE (pc := 201) o dX12_comesOn_201 rfl ic_1 hn5 hv35 ?_
      refine x_goto (pc := 204) (tgt := 178) o dX12_comesOn_204 (by decide) ?_
      refine x_to (l := [(0, .ref (M.2.1 k0)), (2, .int a2), (3, .int a3), (5, .int v35)]) ⟨rfl, rfl, rfl, rfl, trivial⟩ ?_
      exact hrec v35 q34.2 h
    · have h := xit h c36
      refine x_iconst (pc := 199) o dX12_comesOn_199 ic_0 ?_
      exact x_zreturn (pc := 200) o (R _ (Option.some.inj h).symm) dX12_comesOn_200 (by decide) rfl rfl
theorem tX12_comesOn_L178 {Γ : xGm} {M : xMg} (o : xOk Γ tM M 3 cX12_comesOn RX12) (hnL : Γ.2.2.2 = 6) (n : Nat) (k0 : Nat) (a2 : Int32) (a3 : Int32) (z : ((xSt) ⊕ (Int32 × xSt))) (K : ∀ e, z = .inl e → xAt Γ tM M 207 (xlv [(0, .ref (M.2.1 k0)), (2, .int a2), (3, .int a3)]) [] e) (R : ∀ r, z = .inr r → xRI Γ tM M (some .boolean) r.1 r.2) : ∀ (q : Nat) (a5 : Int32) (S : xSt), fX12_comesOn_L178 n k0 a2 a3 q a5 S = some z → xAt Γ tM M 178 (xlv [(0, .ref (M.2.1 k0)), (2, .int a2), (3, .int a3), (5, .int a5)]) [] S := by
  intro q
  induction q with
  | zero => intro a5 S h; cases h
  | succ q ih => intro a5 S h; exact tX12_comesOn_L178b o hnL n k0 a2 a3 a5 S z ih K R h
def fX12_comesOn_L210b (n : Nat) (k0 : Nat) (a2 : Int32) (a3 : Int32) (rec : Int32 → xSt → Option ((xSt) ⊕ (Int32 × xSt))) (a5 : Int32) (S : xSt) : Option ((xSt) ⊕ (Int32 × xSt)) :=
  (xgF tM 12 20 k0 S).bind fun r39 =>
  (xgI tM 12 13 k0 S).bind fun v40 =>
  (xal tM r39 v40 S).bind fun v41 =>
  if v41 ≤ a5 then
  (some (.inl S))
else
  ((fX12_handOn n k0 a5 ((((4 : Int32)) + (((3 : Int32)) * a2)) + (a2 * a5)) S).bind fun q42 =>
  if q42.1 = 0 then
  (some (.inr ((0 : Int32), q42.2)))
else
  ((some (a5 + (1 : Int32))).bind fun v43 =>
  rec v43 q42.2))
def fX12_comesOn_L210 (n : Nat) (k0 : Nat) (a2 : Int32) (a3 : Int32) : Nat → Int32 → xSt → Option ((xSt) ⊕ (Int32 × xSt))
  | 0 => fun _ _ => none
  | q + 1 => fX12_comesOn_L210b n k0 a2 a3 (fX12_comesOn_L210 n k0 a2 a3 q)
set_option maxHeartbeats 4000000 in
theorem tX12_comesOn_L210b {Γ : xGm} {M : xMg} (o : xOk Γ tM M 3 cX12_comesOn RX12) (hnL : Γ.2.2.2 = 6) {rec : Int32 → xSt → Option ((xSt) ⊕ (Int32 × xSt))} (n : Nat) (k0 : Nat) (a2 : Int32) (a3 : Int32) (a5 : Int32) (S : xSt) (z : ((xSt) ⊕ (Int32 × xSt))) (hrec : ∀ (a5 : Int32) (S : xSt), rec a5 S = some z → xAt Γ tM M 210 (xlv [(0, .ref (M.2.1 k0)), (2, .int a2), (3, .int a3), (5, .int a5)]) [] S) (K : ∀ e, z = .inl e → xAt Γ tM M 251 (xlv [(0, .ref (M.2.1 k0)), (3, .int a3)]) [] e) (R : ∀ r, z = .inr r → xRI Γ tM M (some .boolean) r.1 r.2) (h : fX12_comesOn_L210b n k0 a2 a3 rec a5 S = some z) : xAt Γ tM M 210 (xlv [(0, .ref (M.2.1 k0)), (2, .int a2), (3, .int a3), (5, .int a5)]) [] S := by
  have hn5 : 5 < Γ.2.2.2 := by omega
  unfold fX12_comesOn_L210b at h
  refine x_iload (pc := 210) o dX12_comesOn_210 rfl ?_
  refine x_aload_n (pc := 212) o dX12_comesOn_212 rfl rfl ?_
  obtain ⟨r39, hr39, h⟩ := xbs h
  refine gX12_72 (pc := 213) o dX12_comesOn_213 hr39 ?_
  refine x_aload_n (pc := 216) o dX12_comesOn_216 rfl rfl ?_
  obtain ⟨v40, hv40, h⟩ := xbs h
  refine gX12_51 (pc := 217) o dX12_comesOn_217 hv40 ?_
  obtain ⟨v41, hv41, h⟩ := xbs h
  refine x_iaload (pc := 220) o dX12_comesOn_220 hv41 ?_
  refine x_icmp_ge (pc := 221) (tgt := 251) o dX12_comesOn_221 (by decide) (fun c45 => ?_) (fun c45 => ?_)
  · have h := xit h c45
    refine x_to (l := [(0, .ref (M.2.1 k0)), (3, .int a3)]) ⟨rfl, rfl, trivial⟩ ?_
    exact K _ (Option.some.inj h).symm
  · have h := xif h c45
    refine x_aload_n (pc := 224) o dX12_comesOn_224 rfl rfl ?_
    refine x_iload (pc := 225) o dX12_comesOn_225 rfl ?_
    refine x_iconst (pc := 227) o dX12_comesOn_227 ic_4 ?_
    refine x_iconst (pc := 228) o dX12_comesOn_228 ic_3 ?_
    refine x_iload_n (pc := 229) o dX12_comesOn_229 rfl rfl ?_
    refine x_imul (pc := 230) o dX12_comesOn_230 ?_
    refine x_iadd (pc := 231) o dX12_comesOn_231 ?_
    refine x_iload_n (pc := 232) o dX12_comesOn_232 rfl rfl ?_
    refine x_iload (pc := 233) o dX12_comesOn_233 rfl ?_
    refine x_imul (pc := 235) o dX12_comesOn_235 ?_
    refine x_iadd (pc := 236) o dX12_comesOn_236 ?_
    obtain ⟨q42, hq42, h⟩ := xbs h
    refine x_callI (pc := 237) (As := [.int a5, .int ((((4 : Int32)) + (((3 : Int32)) * a2)) + (a2 * a5))]) (b := k0) (rest := []) o (tX12_handOn _ M _ n k0 a5 ((((4 : Int32)) + (((3 : Int32)) * a2)) + (a2 * a5)) S q42 hq42) eX12_handOn mX12_650 clX12 (kX12_handOn hq42) (by decide) rfl rfl (Nat.le_of_ble_eq_true rfl) dX12_comesOn_237 ?_
    refine x_if_ne (pc := 240) (tgt := 245) o dX12_comesOn_240 (by decide) (fun c44 => ?_) (fun c44 => ?_)
    · have h := xif h c44
      obtain ⟨v43, hv43, h⟩ := xbs h
      refine x_iincE (pc := 245) o dX12_comesOn_245 rfl ic_1 hn5 hv43 ?_
      refine x_goto (pc := 248) (tgt := 210) o dX12_comesOn_248 (by decide) ?_
      refine x_to (l := [(0, .ref (M.2.1 k0)), (2, .int a2), (3, .int a3), (5, .int v43)]) ⟨rfl, rfl, rfl, rfl, trivial⟩ ?_
      exact hrec v43 q42.2 h
    · have h := xit h c44
      refine x_iconst (pc := 243) o dX12_comesOn_243 ic_0 ?_
      exact x_zreturn (pc := 244) o (R _ (Option.some.inj h).symm) dX12_comesOn_244 (by decide) rfl rfl
theorem tX12_comesOn_L210 {Γ : xGm} {M : xMg} (o : xOk Γ tM M 3 cX12_comesOn RX12) (hnL : Γ.2.2.2 = 6) (n : Nat) (k0 : Nat) (a2 : Int32) (a3 : Int32) (z : ((xSt) ⊕ (Int32 × xSt))) (K : ∀ e, z = .inl e → xAt Γ tM M 251 (xlv [(0, .ref (M.2.1 k0)), (3, .int a3)]) [] e) (R : ∀ r, z = .inr r → xRI Γ tM M (some .boolean) r.1 r.2) : ∀ (q : Nat) (a5 : Int32) (S : xSt), fX12_comesOn_L210 n k0 a2 a3 q a5 S = some z → xAt Γ tM M 210 (xlv [(0, .ref (M.2.1 k0)), (2, .int a2), (3, .int a3), (5, .int a5)]) [] S := by
  intro q
  induction q with
  | zero => intro a5 S h; cases h
  | succ q ih => intro a5 S h; exact tX12_comesOn_L210b o hnL n k0 a2 a3 a5 S z ih K R h
def fX12_comesOn_L254b (n : Nat) (k0 : Nat) (a3 : Int32) (rec : Int32 → xSt → Option ((xSt) ⊕ (Int32 × xSt))) (a5 : Int32) (S : xSt) : Option ((xSt) ⊕ (Int32 × xSt)) :=
  (xgF tM 12 22 k0 S).bind fun r47 =>
  (xgI tM 12 13 k0 S).bind fun v48 =>
  (xal tM r47 v48 S).bind fun v49 =>
  if v49 ≤ a5 then
  (some (.inl S))
else
  ((fX12_jobOn k0 a5 (a3 + (((3 : Int32)) * a5)) S).bind fun q50 =>
  if q50.1 = 0 then
  (some (.inr ((0 : Int32), q50.2)))
else
  ((some (a5 + (1 : Int32))).bind fun v51 =>
  rec v51 q50.2))
def fX12_comesOn_L254 (n : Nat) (k0 : Nat) (a3 : Int32) : Nat → Int32 → xSt → Option ((xSt) ⊕ (Int32 × xSt))
  | 0 => fun _ _ => none
  | q + 1 => fX12_comesOn_L254b n k0 a3 (fX12_comesOn_L254 n k0 a3 q)
set_option maxHeartbeats 4000000 in
theorem tX12_comesOn_L254b {Γ : xGm} {M : xMg} (o : xOk Γ tM M 3 cX12_comesOn RX12) (hnL : Γ.2.2.2 = 6) {rec : Int32 → xSt → Option ((xSt) ⊕ (Int32 × xSt))} (n : Nat) (k0 : Nat) (a3 : Int32) (a5 : Int32) (S : xSt) (z : ((xSt) ⊕ (Int32 × xSt))) (hrec : ∀ (a5 : Int32) (S : xSt), rec a5 S = some z → xAt Γ tM M 254 (xlv [(0, .ref (M.2.1 k0)), (3, .int a3), (5, .int a5)]) [] S) (K : ∀ e, z = .inl e → xAt Γ tM M 291 (xlv []) [] e) (R : ∀ r, z = .inr r → xRI Γ tM M (some .boolean) r.1 r.2) (h : fX12_comesOn_L254b n k0 a3 rec a5 S = some z) : xAt Γ tM M 254 (xlv [(0, .ref (M.2.1 k0)), (3, .int a3), (5, .int a5)]) [] S := by
  have hn5 : 5 < Γ.2.2.2 := by omega
  unfold fX12_comesOn_L254b at h
  refine x_iload (pc := 254) o dX12_comesOn_254 rfl ?_
  refine x_aload_n (pc := 256) o dX12_comesOn_256 rfl rfl ?_
  obtain ⟨r47, hr47, h⟩ := xbs h
  refine gX12_78 (pc := 257) o dX12_comesOn_257 hr47 ?_
  refine x_aload_n (pc := 260) o dX12_comesOn_260 rfl rfl ?_
  obtain ⟨v48, hv48, h⟩ := xbs h
  refine gX12_51 (pc := 261) o dX12_comesOn_261 hv48 ?_
  obtain ⟨v49, hv49, h⟩ := xbs h
  refine x_iaload (pc := 264) o dX12_comesOn_264 hv49 ?_
  refine x_icmp_ge (pc := 265) (tgt := 291) o dX12_comesOn_265 (by decide) (fun c53 => ?_) (fun c53 => ?_)
  · have h := xit h c53
    refine x_to (l := []) trivial ?_
    exact K _ (Option.some.inj h).symm
  · have h := xif h c53
    refine x_aload_n (pc := 268) o dX12_comesOn_268 rfl rfl ?_
    refine x_iload (pc := 269) o dX12_comesOn_269 rfl ?_
    refine x_iload_n (pc := 271) o dX12_comesOn_271 rfl rfl ?_
    refine x_iconst (pc := 272) o dX12_comesOn_272 ic_3 ?_
    refine x_iload (pc := 273) o dX12_comesOn_273 rfl ?_
    refine x_imul (pc := 275) o dX12_comesOn_275 ?_
    refine x_iadd (pc := 276) o dX12_comesOn_276 ?_
    obtain ⟨q50, hq50, h⟩ := xbs h
    refine x_callI (pc := 277) (As := [.int a5, .int (a3 + (((3 : Int32)) * a5))]) (b := k0) (rest := []) o (tX12_jobOn _ M _ k0 a5 (a3 + (((3 : Int32)) * a5)) S q50 hq50) eX12_jobOn mX12_653 clX12 (kX12_jobOn hq50) (by decide) rfl rfl (Nat.le_of_ble_eq_true rfl) dX12_comesOn_277 ?_
    refine x_if_ne (pc := 280) (tgt := 285) o dX12_comesOn_280 (by decide) (fun c52 => ?_) (fun c52 => ?_)
    · have h := xif h c52
      obtain ⟨v51, hv51, h⟩ := xbs h
      refine x_iincE (pc := 285) o dX12_comesOn_285 rfl ic_1 hn5 hv51 ?_
      refine x_goto (pc := 288) (tgt := 254) o dX12_comesOn_288 (by decide) ?_
      refine x_to (l := [(0, .ref (M.2.1 k0)), (3, .int a3), (5, .int v51)]) ⟨rfl, rfl, rfl, trivial⟩ ?_
      exact hrec v51 q50.2 h
    · have h := xit h c52
      refine x_iconst (pc := 283) o dX12_comesOn_283 ic_0 ?_
      exact x_zreturn (pc := 284) o (R _ (Option.some.inj h).symm) dX12_comesOn_284 (by decide) rfl rfl
theorem tX12_comesOn_L254 {Γ : xGm} {M : xMg} (o : xOk Γ tM M 3 cX12_comesOn RX12) (hnL : Γ.2.2.2 = 6) (n : Nat) (k0 : Nat) (a3 : Int32) (z : ((xSt) ⊕ (Int32 × xSt))) (K : ∀ e, z = .inl e → xAt Γ tM M 291 (xlv []) [] e) (R : ∀ r, z = .inr r → xRI Γ tM M (some .boolean) r.1 r.2) : ∀ (q : Nat) (a5 : Int32) (S : xSt), fX12_comesOn_L254 n k0 a3 q a5 S = some z → xAt Γ tM M 254 (xlv [(0, .ref (M.2.1 k0)), (3, .int a3), (5, .int a5)]) [] S := by
  intro q
  induction q with
  | zero => intro a5 S h; cases h
  | succ q ih => intro a5 S h; exact tX12_comesOn_L254b o hnL n k0 a3 a5 S z ih K R h
def fX12_comesOn (n : Nat) (k0 : Nat) (a1 : Int32) (S : xSt) : Option (Int32 × xSt) :=
  if tM.1 k0 = 12 then
  ((xgF tM 12 17 k0 S).bind fun r1 =>
  (xgI tM 12 13 k0 S).bind fun v2 =>
  (xal tM r1 v2 S).bind fun v3 =>
  (xgF tM 12 20 k0 S).bind fun r4 =>
  (xgI tM 12 13 k0 S).bind fun v5 =>
  (xal tM r4 v5 S).bind fun v6 =>
  (some ((((4 : Int32)) + (((3 : Int32)) * v3)) + (v3 * v6))).bind fun v7 =>
  (xgF tM 12 22 k0 S).bind fun r8 =>
  (xgI tM 12 13 k0 S).bind fun v9 =>
  (xal tM r8 v9 S).bind fun v10 =>
  if a1 = ((v7 + (((3 : Int32)) * v10)) + ((1 : Int32))) then
  ((fX12_twoBytes k0 ((0 : Int32)) S).bind fun v11 =>
  if ((999 : Int32)) < v11 then
  (some ((0 : Int32), S))
else
  ((fX12_twoBytes k0 ((2 : Int32)) S).bind fun v12 =>
  if v12 ≤ ((9999 : Int32)) then
  ((fX12_comesOn_L79 n k0 a1 v3 v7 n ((157 : Int32)) ((0 : Int32)) S).bind fun z18 => (xgF tM 12 0 k0 z18.2).bind fun r19 =>
  (xal tM r19 (a1 - ((1 : Int32))) z18.2).bind fun v20 =>
  if v20 = z18.1 then
  ((fX12_copies n k0 ((1 : Int32)) ((0 : Int32)) z18.2).bind fun S21 =>
  (xgF tM 12 54 k0 S21).bind fun r22 =>
  (fX12_twoBytes k0 ((0 : Int32)) S21).bind fun v23 =>
  (xas tM r22 ((1 : Int32)) v23 S21).bind fun S24 =>
  (xgF tM 12 55 k0 S24).bind fun r25 =>
  (fX12_twoBytes k0 ((2 : Int32)) S24).bind fun v26 =>
  (xas tM r25 ((1 : Int32)) v26 S24).bind fun S27 =>
  (xgF tM 12 57 k0 S27).bind fun r28 =>
  (xas tM r28 ((1 : Int32)) ((0 : Int32)) S27).bind fun S29 =>
  (xgF tM 12 58 k0 S29).bind fun r30 =>
  (xas tM r30 ((1 : Int32)) ((0 : Int32)) S29).bind fun S31 =>
  (xgF tM 12 62 k0 S31).bind fun r32 =>
  (xas tM r32 ((1 : Int32)) ((0 : Int32)) S31).bind fun S33 =>
  (fX12_comesOn_L178 n k0 v3 v7 n ((0 : Int32)) S33).bind fun z38 => xel z38 (fun ez38 => (fX12_comesOn_L210 n k0 v3 v7 n ((0 : Int32)) ez38).bind fun z46 => xel z46 (fun ez46 => (fX12_comesOn_L254 n k0 v7 n ((0 : Int32)) ez46).bind fun z54 => xel z54 (fun ez54 => some ((1 : Int32), ez54)) (fun r => some r)) (fun r => some r)) (fun r => some r))
else
  (some ((0 : Int32), z18.2)))
else
  (some ((0 : Int32), S))))
else
  (some ((0 : Int32), S)))
  else none
theorem kX12_comesOn {z : Int32 × xSt} {n : Nat} {k0 : Nat} {a1 : Int32} {S : xSt} (h : fX12_comesOn n k0 a1 S = some z) : tM.1 k0 = 12 := by
  unfold fX12_comesOn at h
  exact (xck h).1
set_option maxHeartbeats 4000000 in
theorem tX12_comesOn (l : Launch) (M : xMg) (A : Nat → Prop) (n : Nat) (k0 : Nat) (a1 : Int32) (S : xSt) (z : Int32 × xSt) (h : fX12_comesOn n k0 a1 S = some z) : xMI l yX12_comesOn cX12_comesOn 6 (some .boolean) 3 tM M A [.ref (M.2.1 k0), .int a1] S z.1 z.2 := by
  refine x_metI (plainFor_of_name (by decide)) tM_ok (Nat.le_of_ble_eq_true rfl) (fun Γ hA hnL hl hr o => ?_)
  subst hA; subst hl
  have o : xOk Γ tM M 3 cX12_comesOn RX12 := o
  unfold fX12_comesOn at h
  obtain ⟨hk0, h⟩ := xck h
  refine x_to (l := [(0, .ref (M.2.1 k0)), (1, .int a1)]) ⟨rfl, rfl, trivial⟩ ?_
  have hn2 : 2 < Γ.2.2.2 := by omega
  have hn3 : 3 < Γ.2.2.2 := by omega
  have hn4 : 4 < Γ.2.2.2 := by omega
  have hn5 : 5 < Γ.2.2.2 := by omega
  refine x_aload_n (pc := 0) o dX12_comesOn_0 rfl rfl ?_
  obtain ⟨r1, hr1, h⟩ := xbs h
  refine gX12_63 (pc := 1) o dX12_comesOn_1 hr1 ?_
  refine x_aload_n (pc := 4) o dX12_comesOn_4 rfl rfl ?_
  obtain ⟨v2, hv2, h⟩ := xbs h
  refine gX12_51 (pc := 5) o dX12_comesOn_5 hv2 ?_
  obtain ⟨v3, hv3, h⟩ := xbs h
  refine x_iaload (pc := 8) o dX12_comesOn_8 hv3 ?_
  refine x_istore_n (pc := 9) o dX12_comesOn_9 rfl hn2 ?_
  refine x_iconst (pc := 10) o dX12_comesOn_10 ic_4 ?_
  refine x_iconst (pc := 11) o dX12_comesOn_11 ic_3 ?_
  refine x_iload_n (pc := 12) o dX12_comesOn_12 rfl rfl ?_
  refine x_imul (pc := 13) o dX12_comesOn_13 ?_
  refine x_iadd (pc := 14) o dX12_comesOn_14 ?_
  refine x_iload_n (pc := 15) o dX12_comesOn_15 rfl rfl ?_
  refine x_aload_n (pc := 16) o dX12_comesOn_16 rfl rfl ?_
  obtain ⟨r4, hr4, h⟩ := xbs h
  refine gX12_72 (pc := 17) o dX12_comesOn_17 hr4 ?_
  refine x_aload_n (pc := 20) o dX12_comesOn_20 rfl rfl ?_
  obtain ⟨v5, hv5, h⟩ := xbs h
  refine gX12_51 (pc := 21) o dX12_comesOn_21 hv5 ?_
  obtain ⟨v6, hv6, h⟩ := xbs h
  refine x_iaload (pc := 24) o dX12_comesOn_24 hv6 ?_
  refine x_imul (pc := 25) o dX12_comesOn_25 ?_
  refine x_iadd (pc := 26) o dX12_comesOn_26 ?_
  obtain ⟨v7, hv7, h⟩ := xbs h
  refine x_istore_nE (pc := 27) o dX12_comesOn_27 rfl hn3 hv7 ?_
  refine x_iload_n (pc := 28) o dX12_comesOn_28 rfl rfl ?_
  refine x_iload_n (pc := 29) o dX12_comesOn_29 rfl rfl ?_
  refine x_iconst (pc := 30) o dX12_comesOn_30 ic_3 ?_
  refine x_aload_n (pc := 31) o dX12_comesOn_31 rfl rfl ?_
  obtain ⟨r8, hr8, h⟩ := xbs h
  refine gX12_78 (pc := 32) o dX12_comesOn_32 hr8 ?_
  refine x_aload_n (pc := 35) o dX12_comesOn_35 rfl rfl ?_
  obtain ⟨v9, hv9, h⟩ := xbs h
  refine gX12_51 (pc := 36) o dX12_comesOn_36 hv9 ?_
  obtain ⟨v10, hv10, h⟩ := xbs h
  refine x_iaload (pc := 39) o dX12_comesOn_39 hv10 ?_
  refine x_imul (pc := 40) o dX12_comesOn_40 ?_
  refine x_iadd (pc := 41) o dX12_comesOn_41 ?_
  refine x_iconst (pc := 42) o dX12_comesOn_42 ic_1 ?_
  refine x_iadd (pc := 43) o dX12_comesOn_43 ?_
  refine x_icmp_ne (pc := 44) (tgt := 69) o dX12_comesOn_44 (by decide) (fun c58 => ?_) (fun c58 => ?_)
  · have h := xif h c58
    refine x_iconst (pc := 69) o dX12_comesOn_69 ic_0 ?_
    exact x_zreturn (pc := 70) o hr dX12_comesOn_70 (by decide) (xr1 h) (xr2 h)
  · have h := xit h c58
    refine x_aload_n (pc := 47) o dX12_comesOn_47 rfl rfl ?_
    refine x_iconst (pc := 48) o dX12_comesOn_48 ic_0 ?_
    obtain ⟨v11, hv11, h⟩ := xbs h
    refine x_callI (pc := 49) (As := [.int ((0 : Int32))]) (b := k0) (rest := []) o (tX12_twoBytes _ M _ k0 ((0 : Int32)) S v11 hv11) eX12_twoBytes mX12_644 clX12 (kX12_twoBytes hv11) (by decide) rfl rfl (Nat.le_of_ble_eq_true rfl) dX12_comesOn_49 ?_
    refine x_sipush (pc := 52) o dX12_comesOn_52 sp_999 ?_
    refine x_icmp_gt (pc := 55) (tgt := 69) o dX12_comesOn_55 (by decide) (fun c57 => ?_) (fun c57 => ?_)
    · have h := xit h c57
      refine x_iconst (pc := 69) o dX12_comesOn_69 ic_0 ?_
      exact x_zreturn (pc := 70) o hr dX12_comesOn_70 (by decide) (xr1 h) (xr2 h)
    · have h := xif h c57
      refine x_aload_n (pc := 58) o dX12_comesOn_58 rfl rfl ?_
      refine x_iconst (pc := 59) o dX12_comesOn_59 ic_2 ?_
      obtain ⟨v12, hv12, h⟩ := xbs h
      refine x_callI (pc := 60) (As := [.int ((2 : Int32))]) (b := k0) (rest := []) o (tX12_twoBytes _ M _ k0 ((2 : Int32)) S v12 hv12) eX12_twoBytes mX12_644 clX12 (kX12_twoBytes hv12) (by decide) rfl rfl (Nat.le_of_ble_eq_true rfl) dX12_comesOn_60 ?_
      refine x_sipush (pc := 63) o dX12_comesOn_63 sp_9999 ?_
      refine x_icmp_le (pc := 66) (tgt := 71) o dX12_comesOn_66 (by decide) (fun c56 => ?_) (fun c56 => ?_)
      · have h := xit h c56
        refine x_sipush (pc := 71) o dX12_comesOn_71 sp_157 ?_
        refine x_istore (pc := 74) o dX12_comesOn_74 hn4 ?_
        refine x_iconst (pc := 76) o dX12_comesOn_76 ic_0 ?_
        refine x_istore (pc := 77) o dX12_comesOn_77 hn5 ?_
        obtain ⟨z18, hz18, h⟩ := xbs h
        refine x_to (l := [(0, .ref (M.2.1 k0)), (1, .int a1), (2, .int v3), (3, .int v7), (4, .int ((157 : Int32))), (5, .int ((0 : Int32)))]) ⟨rfl, rfl, rfl, rfl, rfl, rfl, trivial⟩ ?_
        refine tX12_comesOn_L79 o hnL n k0 a1 v3 v7 z18 ?_ n ((157 : Int32)) ((0 : Int32)) S hz18
        refine x_aload_n (pc := 111) o dX12_comesOn_111 rfl rfl ?_
        obtain ⟨r19, hr19, h⟩ := xbs h
        refine gX12_7 (pc := 112) o dX12_comesOn_112 hr19 ?_
        refine x_iload_n (pc := 115) o dX12_comesOn_115 rfl rfl ?_
        refine x_iconst (pc := 116) o dX12_comesOn_116 ic_1 ?_
        refine x_isub (pc := 117) o dX12_comesOn_117 ?_
        obtain ⟨v20, hv20, h⟩ := xbs h
        refine x_iaload (pc := 118) o dX12_comesOn_118 hv20 ?_
        refine x_iload (pc := 119) o dX12_comesOn_119 rfl ?_
        refine x_icmp_eq (pc := 121) (tgt := 126) o dX12_comesOn_121 (by decide) (fun c55 => ?_) (fun c55 => ?_)
        · have h := xit h c55
          refine x_aload_n (pc := 126) o dX12_comesOn_126 rfl rfl ?_
          refine x_iconst (pc := 127) o dX12_comesOn_127 ic_1 ?_
          refine x_iconst (pc := 128) o dX12_comesOn_128 ic_0 ?_
          obtain ⟨S21, hS21, h⟩ := xbs h
          refine x_callV (pc := 129) (As := [.int ((1 : Int32)), .int ((0 : Int32))]) (b := k0) (rest := []) o (tX12_copies _ M _ n k0 ((1 : Int32)) ((0 : Int32)) z18.2 S21 hS21) eX12_copies mX12_493 clX12 (kX12_copies hS21) (by decide) rfl rfl (Nat.le_of_ble_eq_true rfl) dX12_comesOn_129 ?_
          refine x_aload_n (pc := 132) o dX12_comesOn_132 rfl rfl ?_
          obtain ⟨r22, hr22, h⟩ := xbs h
          refine gX12_177 (pc := 133) o dX12_comesOn_133 hr22 ?_
          refine x_iconst (pc := 136) o dX12_comesOn_136 ic_1 ?_
          refine x_aload_n (pc := 137) o dX12_comesOn_137 rfl rfl ?_
          refine x_iconst (pc := 138) o dX12_comesOn_138 ic_0 ?_
          obtain ⟨v23, hv23, h⟩ := xbs h
          refine x_callI (pc := 139) (As := [.int ((0 : Int32))]) (b := k0) (rest := [.int ((1 : Int32)), .ref (M.2.1 r22)]) o (tX12_twoBytes _ M _ k0 ((0 : Int32)) S21 v23 hv23) eX12_twoBytes mX12_644 clX12 (kX12_twoBytes hv23) (by decide) rfl rfl (Nat.le_of_ble_eq_true rfl) dX12_comesOn_139 ?_
          obtain ⟨S24, hS24, h⟩ := xbs h
          refine x_iastore (pc := 142) o dX12_comesOn_142 hS24 ?_
          refine x_aload_n (pc := 143) o dX12_comesOn_143 rfl rfl ?_
          obtain ⟨r25, hr25, h⟩ := xbs h
          refine gX12_180 (pc := 144) o dX12_comesOn_144 hr25 ?_
          refine x_iconst (pc := 147) o dX12_comesOn_147 ic_1 ?_
          refine x_aload_n (pc := 148) o dX12_comesOn_148 rfl rfl ?_
          refine x_iconst (pc := 149) o dX12_comesOn_149 ic_2 ?_
          obtain ⟨v26, hv26, h⟩ := xbs h
          refine x_callI (pc := 150) (As := [.int ((2 : Int32))]) (b := k0) (rest := [.int ((1 : Int32)), .ref (M.2.1 r25)]) o (tX12_twoBytes _ M _ k0 ((2 : Int32)) S24 v26 hv26) eX12_twoBytes mX12_644 clX12 (kX12_twoBytes hv26) (by decide) rfl rfl (Nat.le_of_ble_eq_true rfl) dX12_comesOn_150 ?_
          obtain ⟨S27, hS27, h⟩ := xbs h
          refine x_iastore (pc := 153) o dX12_comesOn_153 hS27 ?_
          refine x_aload_n (pc := 154) o dX12_comesOn_154 rfl rfl ?_
          obtain ⟨r28, hr28, h⟩ := xbs h
          refine gX12_186 (pc := 155) o dX12_comesOn_155 hr28 ?_
          refine x_iconst (pc := 158) o dX12_comesOn_158 ic_1 ?_
          refine x_iconst (pc := 159) o dX12_comesOn_159 ic_0 ?_
          obtain ⟨S29, hS29, h⟩ := xbs h
          refine x_iastore (pc := 160) o dX12_comesOn_160 hS29 ?_
          refine x_aload_n (pc := 161) o dX12_comesOn_161 rfl rfl ?_
          obtain ⟨r30, hr30, h⟩ := xbs h
          refine gX12_189 (pc := 162) o dX12_comesOn_162 hr30 ?_
          refine x_iconst (pc := 165) o dX12_comesOn_165 ic_1 ?_
          refine x_iconst (pc := 166) o dX12_comesOn_166 ic_0 ?_
          obtain ⟨S31, hS31, h⟩ := xbs h
          refine x_iastore (pc := 167) o dX12_comesOn_167 hS31 ?_
          refine x_aload_n (pc := 168) o dX12_comesOn_168 rfl rfl ?_
          obtain ⟨r32, hr32, h⟩ := xbs h
          refine gX12_201 (pc := 169) o dX12_comesOn_169 hr32 ?_
          refine x_iconst (pc := 172) o dX12_comesOn_172 ic_1 ?_
          refine x_iconst (pc := 173) o dX12_comesOn_173 ic_0 ?_
          obtain ⟨S33, hS33, h⟩ := xbs h
          refine x_iastore (pc := 174) o dX12_comesOn_174 hS33 ?_
          refine x_iconst (pc := 175) o dX12_comesOn_175 ic_0 ?_
          refine x_istore (pc := 176) o dX12_comesOn_176 hn5 ?_
          obtain ⟨z38, hz38, h⟩ := xbs h
          refine x_to (l := [(0, .ref (M.2.1 k0)), (2, .int v3), (3, .int v7), (5, .int ((0 : Int32)))]) ⟨rfl, rfl, rfl, rfl, trivial⟩ ?_
          refine tX12_comesOn_L178 o hnL n k0 v3 v7 z38 (fun ez38 he => ?_) (fun r he => ?_) n ((0 : Int32)) S33 hz38
          · subst he; have h := xel_l h
            refine x_iconst (pc := 207) o dX12_comesOn_207 ic_0 ?_
            refine x_istore (pc := 208) o dX12_comesOn_208 hn5 ?_
            obtain ⟨z46, hz46, h⟩ := xbs h
            refine x_to (l := [(0, .ref (M.2.1 k0)), (2, .int v3), (3, .int v7), (5, .int ((0 : Int32)))]) ⟨rfl, rfl, rfl, rfl, trivial⟩ ?_
            refine tX12_comesOn_L210 o hnL n k0 v3 v7 z46 (fun ez46 he => ?_) (fun r he => ?_) n ((0 : Int32)) ez38 hz46
            · subst he; have h := xel_l h
              refine x_iconst (pc := 251) o dX12_comesOn_251 ic_0 ?_
              refine x_istore (pc := 252) o dX12_comesOn_252 hn5 ?_
              obtain ⟨z54, hz54, h⟩ := xbs h
              refine x_to (l := [(0, .ref (M.2.1 k0)), (3, .int v7), (5, .int ((0 : Int32)))]) ⟨rfl, rfl, rfl, trivial⟩ ?_
              refine tX12_comesOn_L254 o hnL n k0 v7 z54 (fun ez54 he => ?_) (fun r he => ?_) n ((0 : Int32)) ez46 hz54
              · subst he; have h := xel_l h
                refine x_iconst (pc := 291) o dX12_comesOn_291 ic_1 ?_
                exact x_zreturn (pc := 292) o hr dX12_comesOn_292 (by decide) (xr1 h) (xr2 h)
              · subst he; have h := xel_r h
                cases Option.some.inj h
                exact hr
            · subst he; have h := xel_r h
              cases Option.some.inj h
              exact hr
          · subst he; have h := xel_r h
            cases Option.some.inj h
            exact hr
        · have h := xif h c55
          refine x_iconst (pc := 124) o dX12_comesOn_124 ic_0 ?_
          exact x_zreturn (pc := 125) o hr dX12_comesOn_125 (by decide) (xr1 h) (xr2 h)
      · have h := xif h c56
        refine x_iconst (pc := 69) o dX12_comesOn_69 ic_0 ?_
        exact x_zreturn (pc := 70) o hr dX12_comesOn_70 (by decide) (xr1 h) (xr2 h)
def fX12_on (n : Nat) (k0 : Nat) (S : xSt) : Option (Int32 × xSt) :=
  if tM.1 k0 = 12 then
  ((xgI tM 12 1 k0 S).bind fun v1 =>
  (xpI tM 12 1 k0 ((0 : Int32)) S).bind fun S2 =>
  (fX12_comesOn n k0 v1 S2).bind fun q3 =>
  if q3.1 = 0 then
  ((fX12_refuses k0 ((5 : Int32)) q3.2).bind fun q6 =>
  if q6.1 < 0 then
  (some ((0 : Int32), q6.2))
else
  (some ((1 : Int32), q6.2)))
else
  ((fX12_copies n k0 ((0 : Int32)) ((1 : Int32)) q3.2).bind fun S4 =>
  (xpI tM 12 65 k0 ((0 : Int32)) S4).bind fun S5 =>
  some ((1 : Int32), S5)))
  else none
theorem kX12_on {z : Int32 × xSt} {n : Nat} {k0 : Nat} {S : xSt} (h : fX12_on n k0 S = some z) : tM.1 k0 = 12 := by
  unfold fX12_on at h
  exact (xck h).1
set_option maxHeartbeats 4000000 in
theorem tX12_on (l : Launch) (M : xMg) (A : Nat → Prop) (n : Nat) (k0 : Nat) (S : xSt) (z : Int32 × xSt) (h : fX12_on n k0 S = some z) : xMI l yX12_on cX12_on 2 (some .boolean) 4 tM M A [.ref (M.2.1 k0)] S z.1 z.2 := by
  refine x_metI (plainFor_of_name (by decide)) tM_ok (Nat.le_of_ble_eq_true rfl) (fun Γ hA hnL hl hr o => ?_)
  subst hA; subst hl
  have o : xOk Γ tM M 4 cX12_on RX12 := o
  unfold fX12_on at h
  obtain ⟨hk0, h⟩ := xck h
  refine x_to (l := [(0, .ref (M.2.1 k0))]) ⟨rfl, trivial⟩ ?_
  have hn1 : 1 < Γ.2.2.2 := by omega
  refine x_aload_n (pc := 0) o dX12_on_0 rfl rfl ?_
  obtain ⟨v1, hv1, h⟩ := xbs h
  refine gX12_13 (pc := 1) o dX12_on_1 hv1 ?_
  refine x_istore_n (pc := 4) o dX12_on_4 rfl hn1 ?_
  refine x_aload_n (pc := 5) o dX12_on_5 rfl rfl ?_
  refine x_iconst (pc := 6) o dX12_on_6 ic_0 ?_
  obtain ⟨S2, hS2, h⟩ := xbs h
  refine pX12_13 (pc := 7) o dX12_on_7 hS2 ?_
  refine x_aload_n (pc := 10) o dX12_on_10 rfl rfl ?_
  refine x_iload_n (pc := 11) o dX12_on_11 rfl rfl ?_
  obtain ⟨q3, hq3, h⟩ := xbs h
  refine x_callI (pc := 12) (As := [.int v1]) (b := k0) (rest := []) o (tX12_comesOn _ M _ n k0 v1 S2 q3 hq3) eX12_comesOn mX12_656 clX12 (kX12_comesOn hq3) (by decide) rfl rfl (Nat.le_of_ble_eq_true rfl) dX12_on_12 ?_
  refine x_if_ne (pc := 15) (tgt := 32) o dX12_on_15 (by decide) (fun c8 => ?_) (fun c8 => ?_)
  · have h := xif h c8
    refine x_aload_n (pc := 32) o dX12_on_32 rfl rfl ?_
    refine x_iconst (pc := 33) o dX12_on_33 ic_0 ?_
    refine x_iconst (pc := 34) o dX12_on_34 ic_1 ?_
    obtain ⟨S4, hS4, h⟩ := xbs h
    refine x_callV (pc := 35) (As := [.int ((0 : Int32)), .int ((1 : Int32))]) (b := k0) (rest := []) o (tX12_copies _ M _ n k0 ((0 : Int32)) ((1 : Int32)) q3.2 S4 hS4) eX12_copies mX12_493 clX12 (kX12_copies hS4) (by decide) rfl rfl (Nat.le_of_ble_eq_true rfl) dX12_on_35 ?_
    refine x_aload_n (pc := 38) o dX12_on_38 rfl rfl ?_
    refine x_iconst (pc := 39) o dX12_on_39 ic_0 ?_
    obtain ⟨S5, hS5, h⟩ := xbs h
    refine pX12_210 (pc := 40) o dX12_on_40 hS5 ?_
    refine x_iconst (pc := 43) o dX12_on_43 ic_1 ?_
    exact x_zreturn (pc := 44) o hr dX12_on_44 (by decide) (xr1 h) (xr2 h)
  · have h := xit h c8
    refine x_aload_n (pc := 18) o dX12_on_18 rfl rfl ?_
    refine x_iconst (pc := 19) o dX12_on_19 ic_5 ?_
    obtain ⟨q6, hq6, h⟩ := xbs h
    refine x_callI (pc := 20) (As := [.int ((5 : Int32))]) (b := k0) (rest := []) o (tX12_refuses _ M _ k0 ((5 : Int32)) q3.2 q6 hq6) eX12_refuses mX12_280 clX12 (kX12_refuses hq6) (by decide) rfl rfl (Nat.le_of_ble_eq_true rfl) dX12_on_20 ?_
    refine x_if_lt (pc := 23) (tgt := 30) o dX12_on_23 (by decide) (fun c7 => ?_) (fun c7 => ?_)
    · have h := xit h c7
      refine x_iconst (pc := 30) o dX12_on_30 ic_0 ?_
      exact x_zreturn (pc := 31) o hr dX12_on_31 (by decide) (xr1 h) (xr2 h)
    · have h := xif h c7
      refine x_iconst (pc := 26) o dX12_on_26 ic_1 ?_
      refine x_goto (pc := 27) (tgt := 31) o dX12_on_27 (by decide) ?_
      exact x_zreturn (pc := 31) o hr dX12_on_31 (by decide) (xr1 h) (xr2 h)
def fJ9_max_7cf53 (a0 : Int32) (a1 : Int32) (S : xSt) : Option (Int32) :=
  if a0 < a1 then
  (some a1)
else
  (some a0)
set_option maxHeartbeats 4000000 in
theorem tJ9_max_7cf53 (l : Launch) (M : xMg) (A : Nat → Prop) (a0 : Int32) (a1 : Int32) (S : xSt) (z : Int32) (h : fJ9_max_7cf53 a0 a1 S = some z) : xMI l yJ9_max_7cf53 cJ9_max_7cf53 2 (some .int) 1 tC M A [.int a0, .int a1] S z S := by
  refine x_metI (by decide +kernel) tC_ok (Nat.le_of_ble_eq_true rfl) (fun Γ hA hnL hl hr o => ?_)
  subst hA; subst hl
  have o : xOk Γ tC M 1 cJ9_max_7cf53 RJ9 := o
  unfold fJ9_max_7cf53 at h
  refine x_to (l := [(0, .int a0), (1, .int a1)]) ⟨rfl, rfl, trivial⟩ ?_
  refine x_iload_n (pc := 0) o dJ9_max_7cf53_0 rfl rfl ?_
  refine x_iload_n (pc := 1) o dJ9_max_7cf53_1 rfl rfl ?_
  refine x_icmp_lt (pc := 2) (tgt := 9) o dJ9_max_7cf53_2 (by decide) (fun c1 => ?_) (fun c1 => ?_)
  · have h := xit h c1
    refine x_iload_n (pc := 9) o dJ9_max_7cf53_9 rfl rfl ?_
    exact x_ireturn (pc := 10) o hr dJ9_max_7cf53_10 (Option.some.inj h) rfl
  · have h := xif h c1
    refine x_iload_n (pc := 5) o dJ9_max_7cf53_5 rfl rfl ?_
    refine x_goto (pc := 6) (tgt := 10) o dJ9_max_7cf53_6 (by decide) ?_
    exact x_ireturn (pc := 10) o hr dJ9_max_7cf53_10 (Option.some.inj h) rfl
def fJ9_min_7cf53 (a0 : Int32) (a1 : Int32) (S : xSt) : Option (Int32) :=
  if a1 < a0 then
  (some a1)
else
  (some a0)
set_option maxHeartbeats 4000000 in
theorem tJ9_min_7cf53 (l : Launch) (M : xMg) (A : Nat → Prop) (a0 : Int32) (a1 : Int32) (S : xSt) (z : Int32) (h : fJ9_min_7cf53 a0 a1 S = some z) : xMI l yJ9_min_7cf53 cJ9_min_7cf53 2 (some .int) 1 tC M A [.int a0, .int a1] S z S := by
  refine x_metI (by decide +kernel) tC_ok (Nat.le_of_ble_eq_true rfl) (fun Γ hA hnL hl hr o => ?_)
  subst hA; subst hl
  have o : xOk Γ tC M 1 cJ9_min_7cf53 RJ9 := o
  unfold fJ9_min_7cf53 at h
  refine x_to (l := [(0, .int a0), (1, .int a1)]) ⟨rfl, rfl, trivial⟩ ?_
  refine x_iload_n (pc := 0) o dJ9_min_7cf53_0 rfl rfl ?_
  refine x_iload_n (pc := 1) o dJ9_min_7cf53_1 rfl rfl ?_
  refine x_icmp_gt (pc := 2) (tgt := 9) o dJ9_min_7cf53_2 (by decide) (fun c1 => ?_) (fun c1 => ?_)
  · have h := xit h c1
    refine x_iload_n (pc := 9) o dJ9_min_7cf53_9 rfl rfl ?_
    exact x_ireturn (pc := 10) o hr dJ9_min_7cf53_10 (Option.some.inj h) rfl
  · have h := xif h c1
    refine x_iload_n (pc := 5) o dJ9_min_7cf53_5 rfl rfl ?_
    refine x_goto (pc := 6) (tgt := 10) o dJ9_min_7cf53_6 (by decide) ?_
    exact x_ireturn (pc := 10) o hr dJ9_min_7cf53_10 (Option.some.inj h) rfl
