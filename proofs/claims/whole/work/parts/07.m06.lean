def fX12_works_B237 (n : Nat) (k0 : Nat) (a1 : Int32) (a2 : Int32) (a3 : Int32) (a4 : Int32) (S : xSt) : Option (xSt) :=
  (xgI tM 12 73 k0 S).bind fun v26 =>
  (xpI tM 12 73 k0 (v26 ||| (((1 : Int32)) <<< (a3 &&& 31))) S).bind fun S27 =>
  (xgI tM 12 74 k0 S27).bind fun v28 =>
  (xpI tM 12 74 k0 (v28 ||| (((1 : Int32)) <<< (a4 &&& 31))) S27).bind fun S29 =>
  (xgF tM 12 60 k0 S29).bind fun r30 =>
  (xal tM r30 ((((6 : Int32)) * a1) + a2) S29).bind fun v31 =>
  (xas tM r30 ((((6 : Int32)) * a1) + a2) (v31 + ((1 : Int32))) S29).bind fun S32 =>
  (fX12_writesDown n k0 a1 a2 a3 a4 S32).bind fun S33 =>
  some S33
set_option maxHeartbeats 4000000 in
theorem tX12_works_B237 {Γ : xGm} {M : xMg} (o : xOk Γ tM M 7 cX12_works RX12) (hnL : Γ.2.2.2 = 10) (n : Nat) (k0 : Nat) (a1 : Int32) (a2 : Int32) (a3 : Int32) (a4 : Int32) (S : xSt) (z : (xSt)) (hr : xRV Γ tM M none z) (h : fX12_works_B237 n k0 a1 a2 a3 a4 S = some z) : xAt Γ tM M 237 (xlv [(0, .ref (M.2.1 k0)), (1, .int a1), (2, .int a2), (3, .int a3), (4, .int a4)]) [] S := by
  unfold fX12_works_B237 at h
  refine x_aload_n (pc := 237) o dX12_works_237 rfl rfl ?_
  refine x_dup (pc := 238) o dX12_works_238 rfl ?_
  obtain ⟨v26, hv26, h⟩ := xbs h
  refine gX12_234 (pc := 239) o dX12_works_239 hv26 ?_
  refine x_iconst (pc := 242) o dX12_works_242 ic_1 ?_
  refine x_iload_n (pc := 243) o dX12_works_243 rfl rfl ?_
  refine x_ishl (pc := 244) o dX12_works_244 ?_
  refine x_ior (pc := 245) o dX12_works_245 ?_
  obtain ⟨S27, hS27, h⟩ := xbs h
  refine pX12_234 (pc := 246) o dX12_works_246 hS27 ?_
  refine x_aload_n (pc := 249) o dX12_works_249 rfl rfl ?_
  refine x_dup (pc := 250) o dX12_works_250 rfl ?_
  obtain ⟨v28, hv28, h⟩ := xbs h
  refine gX12_237 (pc := 251) o dX12_works_251 hv28 ?_
  refine x_iconst (pc := 254) o dX12_works_254 ic_1 ?_
  refine x_iload (pc := 255) o dX12_works_255 rfl ?_
  refine x_ishl (pc := 257) o dX12_works_257 ?_
  refine x_ior (pc := 258) o dX12_works_258 ?_
  obtain ⟨S29, hS29, h⟩ := xbs h
  refine pX12_237 (pc := 259) o dX12_works_259 hS29 ?_
  refine x_aload_n (pc := 262) o dX12_works_262 rfl rfl ?_
  obtain ⟨r30, hr30, h⟩ := xbs h
  refine gX12_195 (pc := 263) o dX12_works_263 hr30 ?_
  refine x_bipush (pc := 266) o dX12_works_266 bp_6 ?_
  refine x_iload_n (pc := 268) o dX12_works_268 rfl rfl ?_
  refine x_imul (pc := 269) o dX12_works_269 ?_
  refine x_iload_n (pc := 270) o dX12_works_270 rfl rfl ?_
  refine x_iadd (pc := 271) o dX12_works_271 ?_
  refine x_dup2 (pc := 272) o dX12_works_272 rfl rfl ?_
  obtain ⟨v31, hv31, h⟩ := xbs h
  refine x_iaload (pc := 273) o dX12_works_273 hv31 ?_
  refine x_iconst (pc := 274) o dX12_works_274 ic_1 ?_
  refine x_iadd (pc := 275) o dX12_works_275 ?_
  obtain ⟨S32, hS32, h⟩ := xbs h
  refine x_iastore (pc := 276) o dX12_works_276 hS32 ?_
  refine x_aload_n (pc := 277) o dX12_works_277 rfl rfl ?_
  refine x_iload_n (pc := 278) o dX12_works_278 rfl rfl ?_
  refine x_iload_n (pc := 279) o dX12_works_279 rfl rfl ?_
  refine x_iload_n (pc := 280) o dX12_works_280 rfl rfl ?_
  refine x_iload (pc := 281) o dX12_works_281 rfl ?_
  obtain ⟨S33, hS33, h⟩ := xbs h
  refine x_callV (pc := 283) (As := [.int a1, .int a2, .int a3, .int a4]) (b := k0) (rest := []) o (tX12_writesDown _ M _ n k0 a1 a2 a3 a4 S32 S33 hS33) eX12_writesDown mX12_572 clX12 (kX12_writesDown hS33) (by decide) rfl rfl (Nat.le_of_ble_eq_true rfl) dX12_works_283 ?_
  exact x_vreturn (pc := 286) o hr dX12_works_286 (Option.some.inj h)
def fX12_works_B210 (n : Nat) (k0 : Nat) (a1 : Int32) (a2 : Int32) (a3 : Int32) (a4 : Int32) (a7 : Int32) (S : xSt) : Option (xSt) :=
  (xgF tM 12 56 k0 S).bind fun r23 =>
  (xal tM r23 a7 S).bind fun v24 =>
  (fX12_toldOf k0 ((0 : Int32)) S).bind fun v25 =>
  if v24 < v25 then
  (fX12_works_B237 n k0 a1 a2 a3 a4 S)
else
  ((xgF tM 12 57 k0 S).bind fun r34 =>
  (xal tM r34 a1 S).bind fun v35 =>
  (xas tM r34 a1 (v35 ||| (((1 : Int32)) <<< (a3 &&& 31))) S).bind fun S36 =>
  fX12_works_B237 n k0 a1 a2 a3 a4 S36)
set_option maxHeartbeats 4000000 in
theorem tX12_works_B210 {Γ : xGm} {M : xMg} (o : xOk Γ tM M 7 cX12_works RX12) (hnL : Γ.2.2.2 = 10) (n : Nat) (k0 : Nat) (a1 : Int32) (a2 : Int32) (a3 : Int32) (a4 : Int32) (a7 : Int32) (S : xSt) (z : (xSt)) (hr : xRV Γ tM M none z) (h : fX12_works_B210 n k0 a1 a2 a3 a4 a7 S = some z) : xAt Γ tM M 210 (xlv [(0, .ref (M.2.1 k0)), (1, .int a1), (2, .int a2), (3, .int a3), (4, .int a4), (7, .int a7)]) [] S := by
  unfold fX12_works_B210 at h
  refine x_aload_n (pc := 210) o dX12_works_210 rfl rfl ?_
  obtain ⟨r23, hr23, h⟩ := xbs h
  refine gX12_183 (pc := 211) o dX12_works_211 hr23 ?_
  refine x_iload (pc := 214) o dX12_works_214 rfl ?_
  obtain ⟨v24, hv24, h⟩ := xbs h
  refine x_iaload (pc := 216) o dX12_works_216 hv24 ?_
  refine x_aload_n (pc := 217) o dX12_works_217 rfl rfl ?_
  refine x_iconst (pc := 218) o dX12_works_218 ic_0 ?_
  obtain ⟨v25, hv25, h⟩ := xbs h
  refine x_callI (pc := 219) (As := [.int ((0 : Int32))]) (b := k0) (rest := [.int v24]) o (tX12_toldOf _ M _ k0 ((0 : Int32)) S v25 hv25) eX12_toldOf mX12_561 clX12 (kX12_toldOf hv25) (by decide) rfl rfl (Nat.le_of_ble_eq_true rfl) dX12_works_219 ?_
  refine x_icmp_lt (pc := 222) (tgt := 237) o dX12_works_222 (by decide) (fun c37 => ?_) (fun c37 => ?_)
  · have h := xit h c37
    refine x_to (l := [(0, .ref (M.2.1 k0)), (1, .int a1), (2, .int a2), (3, .int a3), (4, .int a4)]) ⟨rfl, rfl, rfl, rfl, rfl, trivial⟩ ?_
    exact tX12_works_B237 o hnL n k0 a1 a2 a3 a4 S z hr h
  · have h := xif h c37
    refine x_aload_n (pc := 225) o dX12_works_225 rfl rfl ?_
    obtain ⟨r34, hr34, h⟩ := xbs h
    refine gX12_186 (pc := 226) o dX12_works_226 hr34 ?_
    refine x_iload_n (pc := 229) o dX12_works_229 rfl rfl ?_
    refine x_dup2 (pc := 230) o dX12_works_230 rfl rfl ?_
    obtain ⟨v35, hv35, h⟩ := xbs h
    refine x_iaload (pc := 231) o dX12_works_231 hv35 ?_
    refine x_iconst (pc := 232) o dX12_works_232 ic_1 ?_
    refine x_iload_n (pc := 233) o dX12_works_233 rfl rfl ?_
    refine x_ishl (pc := 234) o dX12_works_234 ?_
    refine x_ior (pc := 235) o dX12_works_235 ?_
    obtain ⟨S36, hS36, h⟩ := xbs h
    refine x_iastore (pc := 236) o dX12_works_236 hS36 ?_
    refine x_to (l := [(0, .ref (M.2.1 k0)), (1, .int a1), (2, .int a2), (3, .int a3), (4, .int a4)]) ⟨rfl, rfl, rfl, rfl, rfl, trivial⟩ ?_
    exact tX12_works_B237 o hnL n k0 a1 a2 a3 a4 S36 z hr h
def fX12_works_B186 (n : Nat) (k0 : Nat) (a1 : Int32) (a2 : Int32) (a3 : Int32) (a4 : Int32) (a7 : Int32) (s0 : Nat) (s1 : Int32) (s2 : Int32) (S : xSt) : Option (xSt) :=
  (xas tM s0 s1 s2 S).bind fun S18 =>
  (fX12_kindOfTool k0 a3 S18).bind fun v19 =>
  (xgF tM 12 54 k0 S18).bind fun r20 =>
  (xal tM r20 a1 S18).bind fun v21 =>
  (fX12_isRestDay k0 v19 v21 S18).bind fun v22 =>
  if v22 = 0 then
  (fX12_works_B210 n k0 a1 a2 a3 a4 a7 S18)
else
  ((fX12_pays k0 a1 S18).bind fun S38 =>
  fX12_works_B210 n k0 a1 a2 a3 a4 a7 S38)
set_option maxHeartbeats 4000000 in
theorem tX12_works_B186 {Γ : xGm} {M : xMg} (o : xOk Γ tM M 7 cX12_works RX12) (hnL : Γ.2.2.2 = 10) (n : Nat) (k0 : Nat) (a1 : Int32) (a2 : Int32) (a3 : Int32) (a4 : Int32) (a7 : Int32) (s0 : Nat) (s1 : Int32) (s2 : Int32) (S : xSt) (z : (xSt)) (hr : xRV Γ tM M none z) (h : fX12_works_B186 n k0 a1 a2 a3 a4 a7 s0 s1 s2 S = some z) : xAt Γ tM M 186 (xlv [(0, .ref (M.2.1 k0)), (1, .int a1), (2, .int a2), (3, .int a3), (4, .int a4), (7, .int a7)]) [.int s2, .int s1, .ref (M.2.1 s0)] S := by
  unfold fX12_works_B186 at h
  obtain ⟨S18, hS18, h⟩ := xbs h
  refine x_iastore (pc := 186) o dX12_works_186 hS18 ?_
  refine x_aload_n (pc := 187) o dX12_works_187 rfl rfl ?_
  refine x_aload_n (pc := 188) o dX12_works_188 rfl rfl ?_
  refine x_iload_n (pc := 189) o dX12_works_189 rfl rfl ?_
  obtain ⟨v19, hv19, h⟩ := xbs h
  refine x_callI (pc := 190) (As := [.int a3]) (b := k0) (rest := [.ref (M.2.1 k0)]) o (tX12_kindOfTool _ M _ k0 a3 S18 v19 hv19) eX12_kindOfTool mX12_524 clX12 (kX12_kindOfTool hv19) (by decide) rfl rfl (Nat.le_of_ble_eq_true rfl) dX12_works_190 ?_
  refine x_aload_n (pc := 193) o dX12_works_193 rfl rfl ?_
  obtain ⟨r20, hr20, h⟩ := xbs h
  refine gX12_177 (pc := 194) o dX12_works_194 hr20 ?_
  refine x_iload_n (pc := 197) o dX12_works_197 rfl rfl ?_
  obtain ⟨v21, hv21, h⟩ := xbs h
  refine x_iaload (pc := 198) o dX12_works_198 hv21 ?_
  obtain ⟨v22, hv22, h⟩ := xbs h
  refine x_callI (pc := 199) (As := [.int v19, .int v21]) (b := k0) (rest := []) o (tX12_isRestDay _ M _ k0 v19 v21 S18 v22 hv22) eX12_isRestDay mX12_527 clX12 (kX12_isRestDay hv22) (by decide) rfl rfl (Nat.le_of_ble_eq_true rfl) dX12_works_199 ?_
  refine x_if_eq (pc := 202) (tgt := 210) o dX12_works_202 (by decide) (fun c39 => ?_) (fun c39 => ?_)
  · have h := xit h c39
    refine x_to (l := [(0, .ref (M.2.1 k0)), (1, .int a1), (2, .int a2), (3, .int a3), (4, .int a4), (7, .int a7)]) ⟨rfl, rfl, rfl, rfl, rfl, rfl, trivial⟩ ?_
    exact tX12_works_B210 o hnL n k0 a1 a2 a3 a4 a7 S18 z hr h
  · have h := xif h c39
    refine x_aload_n (pc := 205) o dX12_works_205 rfl rfl ?_
    refine x_iload_n (pc := 206) o dX12_works_206 rfl rfl ?_
    obtain ⟨S38, hS38, h⟩ := xbs h
    refine x_callV (pc := 207) (As := [.int a1]) (b := k0) (rest := []) o (tX12_pays _ M _ k0 a1 S18 S38 hS38) eX12_pays mX12_569 clX12 (kX12_pays hS38) (by decide) rfl rfl (Nat.le_of_ble_eq_true rfl) dX12_works_207 ?_
    refine x_to (l := [(0, .ref (M.2.1 k0)), (1, .int a1), (2, .int a2), (3, .int a3), (4, .int a4), (7, .int a7)]) ⟨rfl, rfl, rfl, rfl, rfl, rfl, trivial⟩ ?_
    exact tX12_works_B210 o hnL n k0 a1 a2 a3 a4 a7 S38 z hr h
def fX12_works_B139 (n : Nat) (k0 : Nat) (a1 : Int32) (a2 : Int32) (a3 : Int32) (a4 : Int32) (a7 : Int32) (s0 : Nat) (s1 : Int32) (s2 : Int32) (S : xSt) : Option (xSt) :=
  (xas tM s0 s1 s2 S).bind fun S13 =>
  (some (((((48 : Int32)) * a1) + (((8 : Int32)) * a4)) + a3)).bind fun v14 =>
  (xgF tM 12 59 k0 S13).bind fun r15 =>
  (xgF tM 12 59 k0 S13).bind fun r16 =>
  (xal tM r16 v14 S13).bind fun v17 =>
  if ((9 : Int32)) ≤ v17 then
  (fX12_works_B186 n k0 a1 a2 a3 a4 a7 r15 v14 ((9 : Int32)) S13)
else
  ((xgF tM 12 59 k0 S13).bind fun r40 =>
  (xal tM r40 v14 S13).bind fun v41 =>
  fX12_works_B186 n k0 a1 a2 a3 a4 a7 r15 v14 (v41 + ((1 : Int32))) S13)
set_option maxHeartbeats 4000000 in
theorem tX12_works_B139 {Γ : xGm} {M : xMg} (o : xOk Γ tM M 7 cX12_works RX12) (hnL : Γ.2.2.2 = 10) (n : Nat) (k0 : Nat) (a1 : Int32) (a2 : Int32) (a3 : Int32) (a4 : Int32) (a7 : Int32) (s0 : Nat) (s1 : Int32) (s2 : Int32) (S : xSt) (z : (xSt)) (hr : xRV Γ tM M none z) (h : fX12_works_B139 n k0 a1 a2 a3 a4 a7 s0 s1 s2 S = some z) : xAt Γ tM M 139 (xlv [(0, .ref (M.2.1 k0)), (1, .int a1), (2, .int a2), (3, .int a3), (4, .int a4), (7, .int a7)]) [.int s2, .int s1, .ref (M.2.1 s0)] S := by
  have hn9 : 9 < Γ.2.2.2 := by omega
  unfold fX12_works_B139 at h
  obtain ⟨S13, hS13, h⟩ := xbs h
  refine x_iastore (pc := 139) o dX12_works_139 hS13 ?_
  refine x_bipush (pc := 140) o dX12_works_140 bp_48 ?_
  refine x_iload_n (pc := 142) o dX12_works_142 rfl rfl ?_
  refine x_imul (pc := 143) o dX12_works_143 ?_
  refine x_bipush (pc := 144) o dX12_works_144 bp_8 ?_
  refine x_iload (pc := 146) o dX12_works_146 rfl ?_
  refine x_imul (pc := 148) o dX12_works_148 ?_
  refine x_iadd (pc := 149) o dX12_works_149 ?_
  refine x_iload_n (pc := 150) o dX12_works_150 rfl rfl ?_
  refine x_iadd (pc := 151) o dX12_works_151 ?_
  obtain ⟨v14, hv14, h⟩ := xbs h
  refine x_istoreE (pc := 152) o dX12_works_152 hn9 hv14 ?_
  refine x_aload_n (pc := 154) o dX12_works_154 rfl rfl ?_
  obtain ⟨r15, hr15, h⟩ := xbs h
  refine gX12_192 (pc := 155) o dX12_works_155 hr15 ?_
  refine x_iload (pc := 158) o dX12_works_158 rfl ?_
  refine x_aload_n (pc := 160) o dX12_works_160 rfl rfl ?_
  obtain ⟨r16, hr16, h⟩ := xbs h
  refine gX12_192 (pc := 161) o dX12_works_161 hr16 ?_
  refine x_iload (pc := 164) o dX12_works_164 rfl ?_
  obtain ⟨v17, hv17, h⟩ := xbs h
  refine x_iaload (pc := 166) o dX12_works_166 hv17 ?_
  refine x_bipush (pc := 167) o dX12_works_167 bp_9 ?_
  refine x_icmp_ge (pc := 169) (tgt := 184) o dX12_works_169 (by decide) (fun c42 => ?_) (fun c42 => ?_)
  · have h := xit h c42
    refine x_bipush (pc := 184) o dX12_works_184 bp_9 ?_
    refine x_to (l := [(0, .ref (M.2.1 k0)), (1, .int a1), (2, .int a2), (3, .int a3), (4, .int a4), (7, .int a7)]) ⟨rfl, rfl, rfl, rfl, rfl, rfl, trivial⟩ ?_
    exact tX12_works_B186 o hnL n k0 a1 a2 a3 a4 a7 r15 v14 ((9 : Int32)) S13 z hr h
  · have h := xif h c42
    refine x_aload_n (pc := 172) o dX12_works_172 rfl rfl ?_
    obtain ⟨r40, hr40, h⟩ := xbs h
    refine gX12_192 (pc := 173) o dX12_works_173 hr40 ?_
    refine x_iload (pc := 176) o dX12_works_176 rfl ?_
    obtain ⟨v41, hv41, h⟩ := xbs h
    refine x_iaload (pc := 178) o dX12_works_178 hv41 ?_
    refine x_iconst (pc := 179) o dX12_works_179 ic_1 ?_
    refine x_iadd (pc := 180) o dX12_works_180 ?_
    refine x_goto (pc := 181) (tgt := 186) o dX12_works_181 (by decide) ?_
    refine x_to (l := [(0, .ref (M.2.1 k0)), (1, .int a1), (2, .int a2), (3, .int a3), (4, .int a4), (7, .int a7)]) ⟨rfl, rfl, rfl, rfl, rfl, rfl, trivial⟩ ?_
    exact tX12_works_B186 o hnL n k0 a1 a2 a3 a4 a7 r15 v14 (v41 + ((1 : Int32))) S13 z hr h
def fX12_works_B96 (n : Nat) (k0 : Nat) (a1 : Int32) (a2 : Int32) (a3 : Int32) (a4 : Int32) (s0 : Int64) (S : xSt) : Option (xSt) :=
  (some ((((8 : Int32)) * a1) + a3)).bind fun v8 =>
  (xgF tM 12 56 k0 S).bind fun r9 =>
  (xal tM r9 v8 S).bind fun v10 =>
  (some (v10 + s0.toInt32)).bind fun v11 =>
  (xgF tM 12 56 k0 S).bind fun r12 =>
  if v11 ≤ ((100 : Int32)) then
  (fX12_works_B139 n k0 a1 a2 a3 a4 v8 r12 v8 v11 S)
else
  (fX12_works_B139 n k0 a1 a2 a3 a4 v8 r12 v8 ((100 : Int32)) S)
set_option maxHeartbeats 4000000 in
theorem tX12_works_B96 {Γ : xGm} {M : xMg} (o : xOk Γ tM M 7 cX12_works RX12) (hnL : Γ.2.2.2 = 10) (n : Nat) (k0 : Nat) (a1 : Int32) (a2 : Int32) (a3 : Int32) (a4 : Int32) (s0 : Int64) (S : xSt) (z : (xSt)) (hr : xRV Γ tM M none z) (h : fX12_works_B96 n k0 a1 a2 a3 a4 s0 S = some z) : xAt Γ tM M 96 (xlv [(0, .ref (M.2.1 k0)), (1, .int a1), (2, .int a2), (3, .int a3), (4, .int a4)]) [.long s0] S := by
  have hn6 : 6 < Γ.2.2.2 := by omega
  have hn7 : 7 < Γ.2.2.2 := by omega
  have hn8 : 8 < Γ.2.2.2 := by omega
  unfold fX12_works_B96 at h
  refine x_lstore (pc := 96) o dX12_works_96 hn6 ?_
  refine x_bipush (pc := 98) o dX12_works_98 bp_8 ?_
  refine x_iload_n (pc := 100) o dX12_works_100 rfl rfl ?_
  refine x_imul (pc := 101) o dX12_works_101 ?_
  refine x_iload_n (pc := 102) o dX12_works_102 rfl rfl ?_
  refine x_iadd (pc := 103) o dX12_works_103 ?_
  obtain ⟨v8, hv8, h⟩ := xbs h
  refine x_istoreE (pc := 104) o dX12_works_104 hn7 hv8 ?_
  refine x_aload_n (pc := 106) o dX12_works_106 rfl rfl ?_
  obtain ⟨r9, hr9, h⟩ := xbs h
  refine gX12_183 (pc := 107) o dX12_works_107 hr9 ?_
  refine x_iload (pc := 110) o dX12_works_110 rfl ?_
  obtain ⟨v10, hv10, h⟩ := xbs h
  refine x_iaload (pc := 112) o dX12_works_112 hv10 ?_
  refine x_lload (pc := 113) o dX12_works_113 rfl ?_
  refine x_l2i (pc := 115) o dX12_works_115 ?_
  refine x_iadd (pc := 116) o dX12_works_116 ?_
  obtain ⟨v11, hv11, h⟩ := xbs h
  refine x_istoreE (pc := 117) o dX12_works_117 hn8 hv11 ?_
  refine x_aload_n (pc := 119) o dX12_works_119 rfl rfl ?_
  obtain ⟨r12, hr12, h⟩ := xbs h
  refine gX12_183 (pc := 120) o dX12_works_120 hr12 ?_
  refine x_iload (pc := 123) o dX12_works_123 rfl ?_
  refine x_iload (pc := 125) o dX12_works_125 rfl ?_
  refine x_bipush (pc := 127) o dX12_works_127 bp_100 ?_
  refine x_icmp_le (pc := 129) (tgt := 137) o dX12_works_129 (by decide) (fun c43 => ?_) (fun c43 => ?_)
  · have h := xit h c43
    refine x_iload (pc := 137) o dX12_works_137 rfl ?_
    refine x_to (l := [(0, .ref (M.2.1 k0)), (1, .int a1), (2, .int a2), (3, .int a3), (4, .int a4), (7, .int v8)]) ⟨rfl, rfl, rfl, rfl, rfl, rfl, trivial⟩ ?_
    exact tX12_works_B139 o hnL n k0 a1 a2 a3 a4 v8 r12 v8 v11 S z hr h
  · have h := xif h c43
    refine x_bipush (pc := 132) o dX12_works_132 bp_100 ?_
    refine x_goto (pc := 134) (tgt := 139) o dX12_works_134 (by decide) ?_
    refine x_to (l := [(0, .ref (M.2.1 k0)), (1, .int a1), (2, .int a2), (3, .int a3), (4, .int a4), (7, .int v8)]) ⟨rfl, rfl, rfl, rfl, rfl, rfl, trivial⟩ ?_
    exact tX12_works_B139 o hnL n k0 a1 a2 a3 a4 v8 r12 v8 ((100 : Int32)) S z hr h
def fX12_works_B66 (n : Nat) (k0 : Nat) (a1 : Int32) (a2 : Int32) (a3 : Int32) (a4 : Int32) (s0 : Int64) (S : xSt) : Option (xSt) :=
  if 0 ≤ (lg_cmp s0 ((0 : Int64))) then
  (if (lg_cmp s0 ((99 : Int64))) ≤ 0 then
  (fX12_works_B96 n k0 a1 a2 a3 a4 s0 S)
else
  (fX12_works_B96 n k0 a1 a2 a3 a4 ((99 : Int64)) S))
else
  (fX12_works_B96 n k0 a1 a2 a3 a4 ((0 : Int64)) S)
set_option maxHeartbeats 4000000 in
theorem tX12_works_B66 {Γ : xGm} {M : xMg} (o : xOk Γ tM M 7 cX12_works RX12) (hnL : Γ.2.2.2 = 10) (n : Nat) (k0 : Nat) (a1 : Int32) (a2 : Int32) (a3 : Int32) (a4 : Int32) (s0 : Int64) (S : xSt) (z : (xSt)) (hr : xRV Γ tM M none z) (h : fX12_works_B66 n k0 a1 a2 a3 a4 s0 S = some z) : xAt Γ tM M 66 (xlv [(0, .ref (M.2.1 k0)), (1, .int a1), (2, .int a2), (3, .int a3), (4, .int a4)]) [.long s0] S := by
  have hn6 : 6 < Γ.2.2.2 := by omega
  unfold fX12_works_B66 at h
  refine x_lstore (pc := 66) o dX12_works_66 hn6 ?_
  refine x_lload (pc := 68) o dX12_works_68 rfl ?_
  refine x_lconst (pc := 70) (v := 0) o dX12_works_70 rfl ?_
  refine x_lcmp (pc := 71) o dX12_works_71 ?_
  refine x_if_ge (pc := 72) (tgt := 79) o dX12_works_72 (by decide) (fun c45 => ?_) (fun c45 => ?_)
  · have h := xit h c45
    refine x_lload (pc := 79) o dX12_works_79 rfl ?_
    refine x_ldc2 (pc := 81) o kcX12_567 dX12_works_81 ?_
    refine x_lcmp (pc := 84) o dX12_works_84 ?_
    refine x_if_le (pc := 85) (tgt := 94) o dX12_works_85 (by decide) (fun c44 => ?_) (fun c44 => ?_)
    · have h := xit h c44
      refine x_lload (pc := 94) o dX12_works_94 rfl ?_
      refine x_to (l := [(0, .ref (M.2.1 k0)), (1, .int a1), (2, .int a2), (3, .int a3), (4, .int a4)]) ⟨rfl, rfl, rfl, rfl, rfl, trivial⟩ ?_
      exact tX12_works_B96 o hnL n k0 a1 a2 a3 a4 s0 S z hr h
    · have h := xif h c44
      refine x_ldc2 (pc := 88) o kcX12_567 dX12_works_88 ?_
      refine x_goto (pc := 91) (tgt := 96) o dX12_works_91 (by decide) ?_
      refine x_to (l := [(0, .ref (M.2.1 k0)), (1, .int a1), (2, .int a2), (3, .int a3), (4, .int a4)]) ⟨rfl, rfl, rfl, rfl, rfl, trivial⟩ ?_
      exact tX12_works_B96 o hnL n k0 a1 a2 a3 a4 ((99 : Int64)) S z hr h
  · have h := xif h c45
    refine x_lconst (pc := 75) (v := 0) o dX12_works_75 rfl ?_
    refine x_goto (pc := 76) (tgt := 96) o dX12_works_76 (by decide) ?_
    refine x_to (l := [(0, .ref (M.2.1 k0)), (1, .int a1), (2, .int a2), (3, .int a3), (4, .int a4)]) ⟨rfl, rfl, rfl, rfl, rfl, trivial⟩ ?_
    exact tX12_works_B96 o hnL n k0 a1 a2 a3 a4 ((0 : Int64)) S z hr h
def fX12_works_B19 (n : Nat) (k0 : Nat) (a1 : Int32) (a2 : Int32) (s0 : Int32) (S : xSt) : Option (xSt) :=
  if s0 = ((-1 : Int32)) then
  (some S)
else
  ((fX12_bestHand n k0 a1 s0 S).bind fun v3 =>
  (fX12_tells k0 a1 a2 s0 v3 S).bind fun S4 =>
  (fX12_isTold k0 ((0 : Int32)) S4).bind fun v5 =>
  if v5 = 0 then
  ((xgF tM 12 68 k0 S4).bind fun r6 =>
  (xal tM r6 ((4 : Int32)) S4).bind fun v7 =>
  fX12_works_B66 n k0 a1 a2 s0 v3 v7.toInt64 S4)
else
  ((fX12_reckons n k0 ((0 : Int32)) S4).bind fun q46 =>
  fX12_works_B66 n k0 a1 a2 s0 v3 q46.1 q46.2))
set_option maxHeartbeats 4000000 in
theorem tX12_works_B19 {Γ : xGm} {M : xMg} (o : xOk Γ tM M 7 cX12_works RX12) (hnL : Γ.2.2.2 = 10) (n : Nat) (k0 : Nat) (a1 : Int32) (a2 : Int32) (s0 : Int32) (S : xSt) (z : (xSt)) (hr : xRV Γ tM M none z) (h : fX12_works_B19 n k0 a1 a2 s0 S = some z) : xAt Γ tM M 19 (xlv [(0, .ref (M.2.1 k0)), (1, .int a1), (2, .int a2)]) [.int s0] S := by
  have hn3 : 3 < Γ.2.2.2 := by omega
  have hn4 : 4 < Γ.2.2.2 := by omega
  unfold fX12_works_B19 at h
  refine x_istore_n (pc := 19) o dX12_works_19 rfl hn3 ?_
  refine x_iload_n (pc := 20) o dX12_works_20 rfl rfl ?_
  refine x_iconst (pc := 21) o dX12_works_21 ic_m1 ?_
  refine x_icmp_ne (pc := 22) (tgt := 26) o dX12_works_22 (by decide) (fun c48 => ?_) (fun c48 => ?_)
  · have h := xif h c48
    refine x_aload_n (pc := 26) o dX12_works_26 rfl rfl ?_
    refine x_iload_n (pc := 27) o dX12_works_27 rfl rfl ?_
    refine x_iload_n (pc := 28) o dX12_works_28 rfl rfl ?_
    obtain ⟨v3, hv3, h⟩ := xbs h
    refine x_callI (pc := 29) (As := [.int a1, .int s0]) (b := k0) (rest := []) o (tX12_bestHand _ M _ n k0 a1 s0 S v3 hv3) eX12_bestHand mX12_554 clX12 (kX12_bestHand hv3) (by decide) rfl rfl (Nat.le_of_ble_eq_true rfl) dX12_works_29 ?_
    refine x_istore (pc := 32) o dX12_works_32 hn4 ?_
    refine x_aload_n (pc := 34) o dX12_works_34 rfl rfl ?_
    refine x_iload_n (pc := 35) o dX12_works_35 rfl rfl ?_
    refine x_iload_n (pc := 36) o dX12_works_36 rfl rfl ?_
    refine x_iload_n (pc := 37) o dX12_works_37 rfl rfl ?_
    refine x_iload (pc := 38) o dX12_works_38 rfl ?_
    obtain ⟨S4, hS4, h⟩ := xbs h
    refine x_callV (pc := 40) (As := [.int a1, .int a2, .int s0, .int v3]) (b := k0) (rest := []) o (tX12_tells _ M _ k0 a1 a2 s0 v3 S S4 hS4) eX12_tells mX12_543 clX12 (kX12_tells hS4) (by decide) rfl rfl (Nat.le_of_ble_eq_true rfl) dX12_works_40 ?_
    refine x_aload_n (pc := 43) o dX12_works_43 rfl rfl ?_
    refine x_iconst (pc := 44) o dX12_works_44 ic_0 ?_
    obtain ⟨v5, hv5, h⟩ := xbs h
    refine x_callI (pc := 45) (As := [.int ((0 : Int32))]) (b := k0) (rest := []) o (tX12_isTold _ M _ k0 ((0 : Int32)) S4 v5 hv5) eX12_isTold mX12_540 clX12 (kX12_isTold hv5) (by decide) rfl rfl (Nat.le_of_ble_eq_true rfl) dX12_works_45 ?_
    refine x_if_eq (pc := 48) (tgt := 59) o dX12_works_48 (by decide) (fun c47 => ?_) (fun c47 => ?_)
    · have h := xit h c47
      refine x_aload_n (pc := 59) o dX12_works_59 rfl rfl ?_
      obtain ⟨r6, hr6, h⟩ := xbs h
      refine gX12_219 (pc := 60) o dX12_works_60 hr6 ?_
      refine x_iconst (pc := 63) o dX12_works_63 ic_4 ?_
      obtain ⟨v7, hv7, h⟩ := xbs h
      refine x_iaload (pc := 64) o dX12_works_64 hv7 ?_
      refine x_i2l (pc := 65) o dX12_works_65 ?_
      refine x_to (l := [(0, .ref (M.2.1 k0)), (1, .int a1), (2, .int a2), (3, .int s0), (4, .int v3)]) ⟨rfl, rfl, rfl, rfl, rfl, trivial⟩ ?_
      exact tX12_works_B66 o hnL n k0 a1 a2 s0 v3 v7.toInt64 S4 z hr h
    · have h := xif h c47
      refine x_aload_n (pc := 51) o dX12_works_51 rfl rfl ?_
      refine x_iconst (pc := 52) o dX12_works_52 ic_0 ?_
      obtain ⟨q46, hq46, h⟩ := xbs h
      refine x_callL (pc := 53) (As := [.int ((0 : Int32))]) (b := k0) (rest := []) o (tX12_reckons _ M _ n k0 ((0 : Int32)) S4 q46 hq46) eX12_reckons mX12_550 clX12 (kX12_reckons hq46) (by decide) rfl rfl (Nat.le_of_ble_eq_true rfl) dX12_works_53 ?_
      refine x_goto (pc := 56) (tgt := 66) o dX12_works_56 (by decide) ?_
      refine x_to (l := [(0, .ref (M.2.1 k0)), (1, .int a1), (2, .int a2), (3, .int s0), (4, .int v3)]) ⟨rfl, rfl, rfl, rfl, rfl, trivial⟩ ?_
      exact tX12_works_B66 o hnL n k0 a1 a2 s0 v3 q46.1 q46.2 z hr h
  · have h := xit h c48
    exact x_vreturn (pc := 25) o hr dX12_works_25 (Option.some.inj h)
def fX12_works (n : Nat) (k0 : Nat) (a1 : Int32) (a2 : Int32) (S : xSt) : Option (xSt) :=
  if tM.1 k0 = 12 then
  ((fX12_isDone k0 a1 a2 S).bind fun v1 =>
  if v1 = 0 then
  ((fX12_bestTool n k0 a1 a2 S).bind fun q2 =>
  fX12_works_B19 n k0 a1 a2 q2.1 q2.2)
else
  (fX12_works_B19 n k0 a1 a2 ((-1 : Int32)) S))
  else none
theorem kX12_works {z : xSt} {n : Nat} {k0 : Nat} {a1 : Int32} {a2 : Int32} {S : xSt} (h : fX12_works n k0 a1 a2 S = some z) : tM.1 k0 = 12 := by
  unfold fX12_works at h
  exact (xck h).1
set_option maxHeartbeats 4000000 in
theorem tX12_works (l : Launch) (M : xMg) (A : Nat → Prop) (n : Nat) (k0 : Nat) (a1 : Int32) (a2 : Int32) (S : xSt) (z : xSt) (h : fX12_works n k0 a1 a2 S = some z) : xMV l yX12_works cX12_works 10 none 7 tM M A [.ref (M.2.1 k0), .int a1, .int a2] S z := by
  refine x_metV (plainFor_of_name (by decide)) tM_ok (Nat.le_of_ble_eq_true rfl) (fun Γ hA hnL hl hr o => ?_)
  subst hA; subst hl
  have o : xOk Γ tM M 7 cX12_works RX12 := o
  unfold fX12_works at h
  obtain ⟨hk0, h⟩ := xck h
  refine x_to (l := [(0, .ref (M.2.1 k0)), (1, .int a1), (2, .int a2)]) ⟨rfl, rfl, rfl, trivial⟩ ?_
  refine x_aload_n (pc := 0) o dX12_works_0 rfl rfl ?_
  refine x_iload_n (pc := 1) o dX12_works_1 rfl rfl ?_
  refine x_iload_n (pc := 2) o dX12_works_2 rfl rfl ?_
  obtain ⟨v1, hv1, h⟩ := xbs h
  refine x_callI (pc := 3) (As := [.int a1, .int a2]) (b := k0) (rest := []) o (tX12_isDone _ M _ k0 a1 a2 S v1 hv1) eX12_isDone mX12_521 clX12 (kX12_isDone hv1) (by decide) rfl rfl (Nat.le_of_ble_eq_true rfl) dX12_works_3 ?_
  refine x_if_eq (pc := 6) (tgt := 13) o dX12_works_6 (by decide) (fun c49 => ?_) (fun c49 => ?_)
  · have h := xit h c49
    refine x_aload_n (pc := 13) o dX12_works_13 rfl rfl ?_
    refine x_iload_n (pc := 14) o dX12_works_14 rfl rfl ?_
    refine x_iload_n (pc := 15) o dX12_works_15 rfl rfl ?_
    obtain ⟨q2, hq2, h⟩ := xbs h
    refine x_callI (pc := 16) (As := [.int a1, .int a2]) (b := k0) (rest := []) o (tX12_bestTool _ M _ n k0 a1 a2 S q2 hq2) eX12_bestTool mX12_564 clX12 (kX12_bestTool hq2) (by decide) rfl rfl (Nat.le_of_ble_eq_true rfl) dX12_works_16 ?_
    refine x_to (l := [(0, .ref (M.2.1 k0)), (1, .int a1), (2, .int a2)]) ⟨rfl, rfl, rfl, trivial⟩ ?_
    exact tX12_works_B19 o hnL n k0 a1 a2 q2.1 q2.2 z hr h
  · have h := xif h c49
    refine x_iconst (pc := 9) o dX12_works_9 ic_m1 ?_
    refine x_goto (pc := 10) (tgt := 19) o dX12_works_10 (by decide) ?_
    refine x_to (l := [(0, .ref (M.2.1 k0)), (1, .int a1), (2, .int a2)]) ⟨rfl, rfl, rfl, trivial⟩ ?_
    exact tX12_works_B19 o hnL n k0 a1 a2 ((-1 : Int32)) S z hr h
def fX12_passes_L98b (n : Nat) (k0 : Nat) (a1 : Int32) (rec : Int32 → xSt → Option (xSt)) (a3 : Int32) (S : xSt) : Option (xSt) :=
  (xgF tM 12 22 k0 S).bind fun r12 =>
  (xgI tM 12 13 k0 S).bind fun v13 =>
  (xal tM r12 v13 S).bind fun v14 =>
  if v14 ≤ a3 then
  (some S)
else
  ((xgI tM 12 71 k0 S).bind fun v15 =>
  if v15 = 0 then
  ((fX12_works n k0 a1 a3 S).bind fun S16 =>
  (some (a3 + (1 : Int32))).bind fun v17 =>
  rec v17 S16)
else
  ((xgF tM 12 72 k0 S).bind fun r18 =>
  (xal tM r18 a3 S).bind fun v19 =>
  (fX12_works n k0 a1 v19 S).bind fun S20 =>
  (some (a3 + (1 : Int32))).bind fun v21 =>
  rec v21 S20))
def fX12_passes_L98 (n : Nat) (k0 : Nat) (a1 : Int32) : Nat → Int32 → xSt → Option (xSt)
  | 0 => fun _ _ => none
  | q + 1 => fX12_passes_L98b n k0 a1 (fX12_passes_L98 n k0 a1 q)
set_option maxHeartbeats 4000000 in
theorem tX12_passes_L98b {Γ : xGm} {M : xMg} (o : xOk Γ tM M 8 cX12_passes RX12) (hnL : Γ.2.2.2 = 4) {rec : Int32 → xSt → Option (xSt)} (n : Nat) (k0 : Nat) (a1 : Int32) (a3 : Int32) (S : xSt) (z : (xSt)) (hrec : ∀ (a3 : Int32) (S : xSt), rec a3 S = some z → xAt Γ tM M 98 (xlv [(0, .ref (M.2.1 k0)), (1, .int a1), (3, .int a3)]) [] S) (K : xAt Γ tM M 139 (xlv [(0, .ref (M.2.1 k0)), (1, .int a1)]) [] z) (h : fX12_passes_L98b n k0 a1 rec a3 S = some z) : xAt Γ tM M 98 (xlv [(0, .ref (M.2.1 k0)), (1, .int a1), (3, .int a3)]) [] S := by
  have hn3 : 3 < Γ.2.2.2 := by omega
  unfold fX12_passes_L98b at h
  refine x_iload_n (pc := 98) o dX12_passes_98 rfl rfl ?_
  refine x_aload_n (pc := 99) o dX12_passes_99 rfl rfl ?_
  obtain ⟨r12, hr12, h⟩ := xbs h
  refine gX12_78 (pc := 100) o dX12_passes_100 hr12 ?_
  refine x_aload_n (pc := 103) o dX12_passes_103 rfl rfl ?_
  obtain ⟨v13, hv13, h⟩ := xbs h
  refine gX12_51 (pc := 104) o dX12_passes_104 hv13 ?_
  obtain ⟨v14, hv14, h⟩ := xbs h
  refine x_iaload (pc := 107) o dX12_passes_107 hv14 ?_
  refine x_icmp_ge (pc := 108) (tgt := 139) o dX12_passes_108 (by decide) (fun c23 => ?_) (fun c23 => ?_)
  · have h := xit h c23
    refine x_to (l := [(0, .ref (M.2.1 k0)), (1, .int a1)]) ⟨rfl, rfl, trivial⟩ ?_
    cases Option.some.inj h
    exact K
  · have h := xif h c23
    refine x_aload_n (pc := 111) o dX12_passes_111 rfl rfl ?_
    refine x_iload_n (pc := 112) o dX12_passes_112 rfl rfl ?_
    refine x_aload_n (pc := 113) o dX12_passes_113 rfl rfl ?_
    obtain ⟨v15, hv15, h⟩ := xbs h
    refine gX12_228 (pc := 114) o dX12_passes_114 hv15 ?_
    refine x_if_eq (pc := 117) (tgt := 129) o dX12_passes_117 (by decide) (fun c22 => ?_) (fun c22 => ?_)
    · have h := xit h c22
      refine x_iload_n (pc := 129) o dX12_passes_129 rfl rfl ?_
      obtain ⟨S16, hS16, h⟩ := xbs h
      refine x_callV (pc := 130) (As := [.int a1, .int a3]) (b := k0) (rest := []) o (tX12_works _ M _ n k0 a1 a3 S S16 hS16) eX12_works mX12_575 clX12 (kX12_works hS16) (by decide) rfl rfl (Nat.le_of_ble_eq_true rfl) dX12_passes_130 ?_
      obtain ⟨v17, hv17, h⟩ := xbs h
      refine x_iincE (pc := 133) o dX12_passes_133 rfl ic_1 hn3 hv17 ?_
      refine x_goto (pc := 136) (tgt := 98) o dX12_passes_136 (by decide) ?_
      refine x_to (l := [(0, .ref (M.2.1 k0)), (1, .int a1), (3, .int v17)]) ⟨rfl, rfl, rfl, trivial⟩ ?_
      exact hrec v17 S16 h
    · have h := xif h c22
      refine x_aload_n (pc := 120) o dX12_passes_120 rfl rfl ?_
      obtain ⟨r18, hr18, h⟩ := xbs h
      refine gX12_231 (pc := 121) o dX12_passes_121 hr18 ?_
      refine x_iload_n (pc := 124) o dX12_passes_124 rfl rfl ?_
      obtain ⟨v19, hv19, h⟩ := xbs h
      refine x_iaload (pc := 125) o dX12_passes_125 hv19 ?_
      refine x_goto (pc := 126) (tgt := 130) o dX12_passes_126 (by decide) ?_
      obtain ⟨S20, hS20, h⟩ := xbs h
      refine x_callV (pc := 130) (As := [.int a1, .int v19]) (b := k0) (rest := []) o (tX12_works _ M _ n k0 a1 v19 S S20 hS20) eX12_works mX12_575 clX12 (kX12_works hS20) (by decide) rfl rfl (Nat.le_of_ble_eq_true rfl) dX12_passes_130 ?_
      obtain ⟨v21, hv21, h⟩ := xbs h
      refine x_iincE (pc := 133) o dX12_passes_133 rfl ic_1 hn3 hv21 ?_
      refine x_goto (pc := 136) (tgt := 98) o dX12_passes_136 (by decide) ?_
      refine x_to (l := [(0, .ref (M.2.1 k0)), (1, .int a1), (3, .int v21)]) ⟨rfl, rfl, rfl, trivial⟩ ?_
      exact hrec v21 S20 h
theorem tX12_passes_L98 {Γ : xGm} {M : xMg} (o : xOk Γ tM M 8 cX12_passes RX12) (hnL : Γ.2.2.2 = 4) (n : Nat) (k0 : Nat) (a1 : Int32) (z : (xSt)) (K : xAt Γ tM M 139 (xlv [(0, .ref (M.2.1 k0)), (1, .int a1)]) [] z) : ∀ (q : Nat) (a3 : Int32) (S : xSt), fX12_passes_L98 n k0 a1 q a3 S = some z → xAt Γ tM M 98 (xlv [(0, .ref (M.2.1 k0)), (1, .int a1), (3, .int a3)]) [] S := by
  intro q
  induction q with
  | zero => intro a3 S h; cases h
  | succ q ih => intro a3 S h; exact tX12_passes_L98b o hnL n k0 a1 a3 S z ih K h
def fX12_passes_L141b (n : Nat) (k0 : Nat) (a1 : Int32) (rec : Int32 → xSt → Option (xSt)) (a3 : Int32) (S : xSt) : Option (xSt) :=
  (xgF tM 12 22 k0 S).bind fun r25 =>
  (xgI tM 12 13 k0 S).bind fun v26 =>
  (xal tM r25 v26 S).bind fun v27 =>
  if v27 ≤ a3 then
  (some S)
else
  ((fX12_lateIn k0 a1 a3 S).bind fun v28 =>
  if v28 ≤ 0 then
  ((some (a3 + (1 : Int32))).bind fun v29 =>
  rec v29 S)
else
  ((fX12_pays k0 a1 S).bind fun S30 =>
  (some (a3 + (1 : Int32))).bind fun v31 =>
  rec v31 S30))
def fX12_passes_L141 (n : Nat) (k0 : Nat) (a1 : Int32) : Nat → Int32 → xSt → Option (xSt)
  | 0 => fun _ _ => none
  | q + 1 => fX12_passes_L141b n k0 a1 (fX12_passes_L141 n k0 a1 q)
set_option maxHeartbeats 4000000 in
theorem tX12_passes_L141b {Γ : xGm} {M : xMg} (o : xOk Γ tM M 8 cX12_passes RX12) (hnL : Γ.2.2.2 = 4) {rec : Int32 → xSt → Option (xSt)} (n : Nat) (k0 : Nat) (a1 : Int32) (a3 : Int32) (S : xSt) (z : (xSt)) (hrec : ∀ (a3 : Int32) (S : xSt), rec a3 S = some z → xAt Γ tM M 141 (xlv [(0, .ref (M.2.1 k0)), (1, .int a1), (3, .int a3)]) [] S) (K : xAt Γ tM M 174 (xlv [(0, .ref (M.2.1 k0)), (1, .int a1)]) [] z) (h : fX12_passes_L141b n k0 a1 rec a3 S = some z) : xAt Γ tM M 141 (xlv [(0, .ref (M.2.1 k0)), (1, .int a1), (3, .int a3)]) [] S := by
  have hn3 : 3 < Γ.2.2.2 := by omega
  unfold fX12_passes_L141b at h
  refine x_iload_n (pc := 141) o dX12_passes_141 rfl rfl ?_
  refine x_aload_n (pc := 142) o dX12_passes_142 rfl rfl ?_
  obtain ⟨r25, hr25, h⟩ := xbs h
  refine gX12_78 (pc := 143) o dX12_passes_143 hr25 ?_
  refine x_aload_n (pc := 146) o dX12_passes_146 rfl rfl ?_
  obtain ⟨v26, hv26, h⟩ := xbs h
  refine gX12_51 (pc := 147) o dX12_passes_147 hv26 ?_
  obtain ⟨v27, hv27, h⟩ := xbs h
  refine x_iaload (pc := 150) o dX12_passes_150 hv27 ?_
  refine x_icmp_ge (pc := 151) (tgt := 174) o dX12_passes_151 (by decide) (fun c33 => ?_) (fun c33 => ?_)
  · have h := xit h c33
    refine x_to (l := [(0, .ref (M.2.1 k0)), (1, .int a1)]) ⟨rfl, rfl, trivial⟩ ?_
    cases Option.some.inj h
    exact K
  · have h := xif h c33
    refine x_aload_n (pc := 154) o dX12_passes_154 rfl rfl ?_
    refine x_iload_n (pc := 155) o dX12_passes_155 rfl rfl ?_
    refine x_iload_n (pc := 156) o dX12_passes_156 rfl rfl ?_
    obtain ⟨v28, hv28, h⟩ := xbs h
    refine x_callI (pc := 157) (As := [.int a1, .int a3]) (b := k0) (rest := []) o (tX12_lateIn _ M _ k0 a1 a3 S v28 hv28) eX12_lateIn mX12_537 clX12 (kX12_lateIn hv28) (by decide) rfl rfl (Nat.le_of_ble_eq_true rfl) dX12_passes_157 ?_
    refine x_if_le (pc := 160) (tgt := 168) o dX12_passes_160 (by decide) (fun c32 => ?_) (fun c32 => ?_)
    · have h := xit h c32
      obtain ⟨v29, hv29, h⟩ := xbs h
      refine x_iincE (pc := 168) o dX12_passes_168 rfl ic_1 hn3 hv29 ?_
      refine x_goto (pc := 171) (tgt := 141) o dX12_passes_171 (by decide) ?_
      refine x_to (l := [(0, .ref (M.2.1 k0)), (1, .int a1), (3, .int v29)]) ⟨rfl, rfl, rfl, trivial⟩ ?_
      exact hrec v29 S h
    · have h := xif h c32
      refine x_aload_n (pc := 163) o dX12_passes_163 rfl rfl ?_
      refine x_iload_n (pc := 164) o dX12_passes_164 rfl rfl ?_
      obtain ⟨S30, hS30, h⟩ := xbs h
      refine x_callV (pc := 165) (As := [.int a1]) (b := k0) (rest := []) o (tX12_pays _ M _ k0 a1 S S30 hS30) eX12_pays mX12_569 clX12 (kX12_pays hS30) (by decide) rfl rfl (Nat.le_of_ble_eq_true rfl) dX12_passes_165 ?_
      obtain ⟨v31, hv31, h⟩ := xbs h
      refine x_iincE (pc := 168) o dX12_passes_168 rfl ic_1 hn3 hv31 ?_
      refine x_goto (pc := 171) (tgt := 141) o dX12_passes_171 (by decide) ?_
      refine x_to (l := [(0, .ref (M.2.1 k0)), (1, .int a1), (3, .int v31)]) ⟨rfl, rfl, rfl, trivial⟩ ?_
      exact hrec v31 S30 h
theorem tX12_passes_L141 {Γ : xGm} {M : xMg} (o : xOk Γ tM M 8 cX12_passes RX12) (hnL : Γ.2.2.2 = 4) (n : Nat) (k0 : Nat) (a1 : Int32) (z : (xSt)) (K : xAt Γ tM M 174 (xlv [(0, .ref (M.2.1 k0)), (1, .int a1)]) [] z) : ∀ (q : Nat) (a3 : Int32) (S : xSt), fX12_passes_L141 n k0 a1 q a3 S = some z → xAt Γ tM M 141 (xlv [(0, .ref (M.2.1 k0)), (1, .int a1), (3, .int a3)]) [] S := by
  intro q
  induction q with
  | zero => intro a3 S h; cases h
  | succ q ih => intro a3 S h; exact tX12_passes_L141b o hnL n k0 a1 a3 S z ih K h
def fX12_passes_B96 (n : Nat) (k0 : Nat) (a1 : Int32) (S : xSt) : Option (Int32 × xSt) :=
  (fX12_passes_L98 n k0 a1 n ((0 : Int32)) S).bind fun z24 => (fX12_passes_L141 n k0 a1 n ((0 : Int32)) z24).bind fun z34 => (xgF tM 12 54 k0 z34).bind fun r35 =>
  (xal tM r35 a1 z34).bind fun v36 =>
  (xas tM r35 a1 (v36 + ((1 : Int32))) z34).bind fun S37 =>
  (xgI tM 12 73 k0 S37).bind fun v38 =>
  (fX12_bits n v38 S37).bind fun v39 =>
  some (v39, S37)
set_option maxHeartbeats 4000000 in
theorem tX12_passes_B96 {Γ : xGm} {M : xMg} (o : xOk Γ tM M 8 cX12_passes RX12) (hnL : Γ.2.2.2 = 4) (n : Nat) (k0 : Nat) (a1 : Int32) (S : xSt) (z : (Int32 × xSt)) (hr : xRI Γ tM M (some .int) z.1 z.2) (h : fX12_passes_B96 n k0 a1 S = some z) : xAt Γ tM M 96 (xlv [(0, .ref (M.2.1 k0)), (1, .int a1)]) [] S := by
  have hn3 : 3 < Γ.2.2.2 := by omega
  unfold fX12_passes_B96 at h
  refine x_iconst (pc := 96) o dX12_passes_96 ic_0 ?_
  refine x_istore_n (pc := 97) o dX12_passes_97 rfl hn3 ?_
  obtain ⟨z24, hz24, h⟩ := xbs h
  refine x_to (l := [(0, .ref (M.2.1 k0)), (1, .int a1), (3, .int ((0 : Int32)))]) ⟨rfl, rfl, rfl, trivial⟩ ?_
  refine tX12_passes_L98 o hnL n k0 a1 z24 ?_ n ((0 : Int32)) S hz24
  refine x_iconst (pc := 139) o dX12_passes_139 ic_0 ?_
  refine x_istore_n (pc := 140) o dX12_passes_140 rfl hn3 ?_
  obtain ⟨z34, hz34, h⟩ := xbs h
  refine x_to (l := [(0, .ref (M.2.1 k0)), (1, .int a1), (3, .int ((0 : Int32)))]) ⟨rfl, rfl, rfl, trivial⟩ ?_
  refine tX12_passes_L141 o hnL n k0 a1 z34 ?_ n ((0 : Int32)) z24 hz34
  refine x_aload_n (pc := 174) o dX12_passes_174 rfl rfl ?_
  obtain ⟨r35, hr35, h⟩ := xbs h
  refine gX12_177 (pc := 175) o dX12_passes_175 hr35 ?_
  refine x_iload_n (pc := 178) o dX12_passes_178 rfl rfl ?_
  refine x_dup2 (pc := 179) o dX12_passes_179 rfl rfl ?_
  obtain ⟨v36, hv36, h⟩ := xbs h
  refine x_iaload (pc := 180) o dX12_passes_180 hv36 ?_
  refine x_iconst (pc := 181) o dX12_passes_181 ic_1 ?_
  refine x_iadd (pc := 182) o dX12_passes_182 ?_
  obtain ⟨S37, hS37, h⟩ := xbs h
  refine x_iastore (pc := 183) o dX12_passes_183 hS37 ?_
  refine x_aload_n (pc := 184) o dX12_passes_184 rfl rfl ?_
  obtain ⟨v38, hv38, h⟩ := xbs h
  refine gX12_234 (pc := 185) o dX12_passes_185 hv38 ?_
  obtain ⟨v39, hv39, h⟩ := xbs h
  refine x_statI (pc := 188) (As := [.int v38]) (rest := []) o (tX12_bits _ M _ n v38 S37 v39 hv39) eX12_bits mX12_547 (by decide) rfl rfl (Nat.le_of_ble_eq_true rfl) dX12_passes_188 ?_
  exact x_ireturn (pc := 191) o hr dX12_passes_191 (xr1 h) (xr2 h)
def fX12_passes_L45b (n : Nat) (k0 : Nat) (a1 : Int32) (rec : Int32 → xSt → Option (xSt)) (a3 : Int32) (S : xSt) : Option (xSt) :=
  (xgF tM 12 17 k0 S).bind fun r40 =>
  (xgI tM 12 13 k0 S).bind fun v41 =>
  (xal tM r40 v41 S).bind fun v42 =>
  if v42 ≤ a3 then
  (some S)
else
  ((xgF tM 12 57 k0 S).bind fun r43 =>
  (xal tM r43 a1 S).bind fun v44 =>
  (fX12_has2 v44 a3 S).bind fun v45 =>
  if v45 = 0 then
  ((some (a3 + (1 : Int32))).bind fun v46 =>
  rec v46 S)
else
  ((xgF tM 12 56 k0 S).bind fun r47 =>
  (xas tM r47 ((((8 : Int32)) * a1) + a3) ((0 : Int32)) S).bind fun S48 =>
  (some (a3 + (1 : Int32))).bind fun v49 =>
  rec v49 S48))
def fX12_passes_L45 (n : Nat) (k0 : Nat) (a1 : Int32) : Nat → Int32 → xSt → Option (xSt)
  | 0 => fun _ _ => none
  | q + 1 => fX12_passes_L45b n k0 a1 (fX12_passes_L45 n k0 a1 q)
set_option maxHeartbeats 4000000 in
theorem tX12_passes_L45b {Γ : xGm} {M : xMg} (o : xOk Γ tM M 8 cX12_passes RX12) (hnL : Γ.2.2.2 = 4) {rec : Int32 → xSt → Option (xSt)} (n : Nat) (k0 : Nat) (a1 : Int32) (a3 : Int32) (S : xSt) (z : (xSt)) (hrec : ∀ (a3 : Int32) (S : xSt), rec a3 S = some z → xAt Γ tM M 45 (xlv [(0, .ref (M.2.1 k0)), (1, .int a1), (3, .int a3)]) [] S) (K : xAt Γ tM M 89 (xlv [(0, .ref (M.2.1 k0)), (1, .int a1)]) [] z) (h : fX12_passes_L45b n k0 a1 rec a3 S = some z) : xAt Γ tM M 45 (xlv [(0, .ref (M.2.1 k0)), (1, .int a1), (3, .int a3)]) [] S := by
  have hn3 : 3 < Γ.2.2.2 := by omega
  unfold fX12_passes_L45b at h
  refine x_iload_n (pc := 45) o dX12_passes_45 rfl rfl ?_
  refine x_aload_n (pc := 46) o dX12_passes_46 rfl rfl ?_
  obtain ⟨r40, hr40, h⟩ := xbs h
  refine gX12_63 (pc := 47) o dX12_passes_47 hr40 ?_
  refine x_aload_n (pc := 50) o dX12_passes_50 rfl rfl ?_
  obtain ⟨v41, hv41, h⟩ := xbs h
  refine gX12_51 (pc := 51) o dX12_passes_51 hv41 ?_
  obtain ⟨v42, hv42, h⟩ := xbs h
  refine x_iaload (pc := 54) o dX12_passes_54 hv42 ?_
  refine x_icmp_ge (pc := 55) (tgt := 89) o dX12_passes_55 (by decide) (fun c51 => ?_) (fun c51 => ?_)
  · have h := xit h c51
    refine x_to (l := [(0, .ref (M.2.1 k0)), (1, .int a1)]) ⟨rfl, rfl, trivial⟩ ?_
    cases Option.some.inj h
    exact K
  · have h := xif h c51
    refine x_aload_n (pc := 58) o dX12_passes_58 rfl rfl ?_
    obtain ⟨r43, hr43, h⟩ := xbs h
    refine gX12_186 (pc := 59) o dX12_passes_59 hr43 ?_
    refine x_iload_n (pc := 62) o dX12_passes_62 rfl rfl ?_
    obtain ⟨v44, hv44, h⟩ := xbs h
    refine x_iaload (pc := 63) o dX12_passes_63 hv44 ?_
    refine x_iload_n (pc := 64) o dX12_passes_64 rfl rfl ?_
    obtain ⟨v45, hv45, h⟩ := xbs h
    refine x_statI (pc := 65) (As := [.int v44, .int a3]) (rest := []) o (tX12_has2 _ M _ v44 a3 S v45 hv45) eX12_has2 mX12_421 (by decide) rfl rfl (Nat.le_of_ble_eq_true rfl) dX12_passes_65 ?_
    refine x_if_eq (pc := 68) (tgt := 83) o dX12_passes_68 (by decide) (fun c50 => ?_) (fun c50 => ?_)
    · have h := xit h c50
      obtain ⟨v46, hv46, h⟩ := xbs h
      refine x_iincE (pc := 83) o dX12_passes_83 rfl ic_1 hn3 hv46 ?_
      refine x_goto (pc := 86) (tgt := 45) o dX12_passes_86 (by decide) ?_
      refine x_to (l := [(0, .ref (M.2.1 k0)), (1, .int a1), (3, .int v46)]) ⟨rfl, rfl, rfl, trivial⟩ ?_
      exact hrec v46 S h
    · have h := xif h c50
      refine x_aload_n (pc := 71) o dX12_passes_71 rfl rfl ?_
      obtain ⟨r47, hr47, h⟩ := xbs h
      refine gX12_183 (pc := 72) o dX12_passes_72 hr47 ?_
      refine x_bipush (pc := 75) o dX12_passes_75 bp_8 ?_
      refine x_iload_n (pc := 77) o dX12_passes_77 rfl rfl ?_
      refine x_imul (pc := 78) o dX12_passes_78 ?_
      refine x_iload_n (pc := 79) o dX12_passes_79 rfl rfl ?_
      refine x_iadd (pc := 80) o dX12_passes_80 ?_
      refine x_iconst (pc := 81) o dX12_passes_81 ic_0 ?_
      obtain ⟨S48, hS48, h⟩ := xbs h
      refine x_iastore (pc := 82) o dX12_passes_82 hS48 ?_
      obtain ⟨v49, hv49, h⟩ := xbs h
      refine x_iincE (pc := 83) o dX12_passes_83 rfl ic_1 hn3 hv49 ?_
      refine x_goto (pc := 86) (tgt := 45) o dX12_passes_86 (by decide) ?_
      refine x_to (l := [(0, .ref (M.2.1 k0)), (1, .int a1), (3, .int v49)]) ⟨rfl, rfl, rfl, trivial⟩ ?_
      exact hrec v49 S48 h
theorem tX12_passes_L45 {Γ : xGm} {M : xMg} (o : xOk Γ tM M 8 cX12_passes RX12) (hnL : Γ.2.2.2 = 4) (n : Nat) (k0 : Nat) (a1 : Int32) (z : (xSt)) (K : xAt Γ tM M 89 (xlv [(0, .ref (M.2.1 k0)), (1, .int a1)]) [] z) : ∀ (q : Nat) (a3 : Int32) (S : xSt), fX12_passes_L45 n k0 a1 q a3 S = some z → xAt Γ tM M 45 (xlv [(0, .ref (M.2.1 k0)), (1, .int a1), (3, .int a3)]) [] S := by
  intro q
  induction q with
  | zero => intro a3 S h; cases h
  | succ q ih => intro a3 S h; exact tX12_passes_L45b o hnL n k0 a1 a3 S z ih K h
def fX12_passes (n : Nat) (k0 : Nat) (a1 : Int32) (a2 : Int32) (S : xSt) : Option (Int32 × xSt) :=
  if tM.1 k0 = 12 then
  ((xpI tM 12 73 k0 ((0 : Int32)) S).bind fun S1 =>
  (xpI tM 12 74 k0 ((0 : Int32)) S1).bind fun S2 =>
  (xpZ tM 12 75 k0 a2 S2).bind fun S3 =>
  (xgF tM 12 54 k0 S3).bind fun r4 =>
  (xal tM r4 a1 S3).bind fun v5 =>
  (xgF tM 12 29 k0 S3).bind fun r6 =>
  (xgI tM 12 13 k0 S3).bind fun v7 =>
  (xal tM r6 v7 S3).bind fun v8 =>
  if v8 = 0 then none else
  (xgF tM 12 28 k0 S3).bind fun r9 =>
  (xgI tM 12 13 k0 S3).bind fun v10 =>
  (xal tM r9 v10 S3).bind fun v11 =>
  if (v5 - v5 / v8 * v8) = v11 then
  ((fX12_passes_L45 n k0 a1 n ((0 : Int32)) S3).bind fun z52 => (xgF tM 12 57 k0 z52).bind fun r53 =>
  (xas tM r53 a1 ((0 : Int32)) z52).bind fun S54 =>
  fX12_passes_B96 n k0 a1 S54)
else
  (fX12_passes_B96 n k0 a1 S3))
  else none
theorem kX12_passes {z : Int32 × xSt} {n : Nat} {k0 : Nat} {a1 : Int32} {a2 : Int32} {S : xSt} (h : fX12_passes n k0 a1 a2 S = some z) : tM.1 k0 = 12 := by
  unfold fX12_passes at h
  exact (xck h).1
set_option maxHeartbeats 4000000 in
theorem tX12_passes (l : Launch) (M : xMg) (A : Nat → Prop) (n : Nat) (k0 : Nat) (a1 : Int32) (a2 : Int32) (S : xSt) (z : Int32 × xSt) (h : fX12_passes n k0 a1 a2 S = some z) : xMI l yX12_passes cX12_passes 4 (some .int) 8 tM M A [.ref (M.2.1 k0), .int a1, .int a2] S z.1 z.2 := by
  refine x_metI (plainFor_of_name (by decide)) tM_ok (Nat.le_of_ble_eq_true rfl) (fun Γ hA hnL hl hr o => ?_)
  subst hA; subst hl
  have o : xOk Γ tM M 8 cX12_passes RX12 := o
  unfold fX12_passes at h
  obtain ⟨hk0, h⟩ := xck h
  refine x_to (l := [(0, .ref (M.2.1 k0)), (1, .int a1), (2, .int a2)]) ⟨rfl, rfl, rfl, trivial⟩ ?_
  have hn3 : 3 < Γ.2.2.2 := by omega
  refine x_aload_n (pc := 0) o dX12_passes_0 rfl rfl ?_
  refine x_iconst (pc := 1) o dX12_passes_1 ic_0 ?_
  obtain ⟨S1, hS1, h⟩ := xbs h
  refine pX12_234 (pc := 2) o dX12_passes_2 hS1 ?_
  refine x_aload_n (pc := 5) o dX12_passes_5 rfl rfl ?_
  refine x_iconst (pc := 6) o dX12_passes_6 ic_0 ?_
  obtain ⟨S2, hS2, h⟩ := xbs h
  refine pX12_237 (pc := 7) o dX12_passes_7 hS2 ?_
  refine x_aload_n (pc := 10) o dX12_passes_10 rfl rfl ?_
  refine x_iload_n (pc := 11) o dX12_passes_11 rfl rfl ?_
  obtain ⟨S3, hS3, h⟩ := xbs h
  refine pX12_240 (pc := 12) o dX12_passes_12 hS3 ?_
  refine x_aload_n (pc := 15) o dX12_passes_15 rfl rfl ?_
  obtain ⟨r4, hr4, h⟩ := xbs h
  refine gX12_177 (pc := 16) o dX12_passes_16 hr4 ?_
  refine x_iload_n (pc := 19) o dX12_passes_19 rfl rfl ?_
  obtain ⟨v5, hv5, h⟩ := xbs h
  refine x_iaload (pc := 20) o dX12_passes_20 hv5 ?_
  refine x_aload_n (pc := 21) o dX12_passes_21 rfl rfl ?_
  obtain ⟨r6, hr6, h⟩ := xbs h
  refine gX12_99 (pc := 22) o dX12_passes_22 hr6 ?_
  refine x_aload_n (pc := 25) o dX12_passes_25 rfl rfl ?_
  obtain ⟨v7, hv7, h⟩ := xbs h
  refine gX12_51 (pc := 26) o dX12_passes_26 hv7 ?_
  obtain ⟨v8, hv8, h⟩ := xbs h
  refine x_iaload (pc := 29) o dX12_passes_29 hv8 ?_
  obtain ⟨hq, h⟩ := xcn h
  refine x_irem (pc := 30) o dX12_passes_30 hq ?_
  refine x_aload_n (pc := 31) o dX12_passes_31 rfl rfl ?_
  obtain ⟨r9, hr9, h⟩ := xbs h
  refine gX12_96 (pc := 32) o dX12_passes_32 hr9 ?_
  refine x_aload_n (pc := 35) o dX12_passes_35 rfl rfl ?_
  obtain ⟨v10, hv10, h⟩ := xbs h
  refine gX12_51 (pc := 36) o dX12_passes_36 hv10 ?_
  obtain ⟨v11, hv11, h⟩ := xbs h
  refine x_iaload (pc := 39) o dX12_passes_39 hv11 ?_
  refine x_icmp_ne (pc := 40) (tgt := 96) o dX12_passes_40 (by decide) (fun c55 => ?_) (fun c55 => ?_)
  · have h := xif h c55
    refine x_to (l := [(0, .ref (M.2.1 k0)), (1, .int a1)]) ⟨rfl, rfl, trivial⟩ ?_
    exact tX12_passes_B96 o hnL n k0 a1 S3 z hr h
  · have h := xit h c55
    refine x_iconst (pc := 43) o dX12_passes_43 ic_0 ?_
    refine x_istore_n (pc := 44) o dX12_passes_44 rfl hn3 ?_
    obtain ⟨z52, hz52, h⟩ := xbs h
    refine x_to (l := [(0, .ref (M.2.1 k0)), (1, .int a1), (3, .int ((0 : Int32)))]) ⟨rfl, rfl, rfl, trivial⟩ ?_
    refine tX12_passes_L45 o hnL n k0 a1 z52 ?_ n ((0 : Int32)) S3 hz52
    refine x_aload_n (pc := 89) o dX12_passes_89 rfl rfl ?_
    obtain ⟨r53, hr53, h⟩ := xbs h
    refine gX12_186 (pc := 90) o dX12_passes_90 hr53 ?_
    refine x_iload_n (pc := 93) o dX12_passes_93 rfl rfl ?_
    refine x_iconst (pc := 94) o dX12_passes_94 ic_0 ?_
    obtain ⟨S54, hS54, h⟩ := xbs h
    refine x_iastore (pc := 95) o dX12_passes_95 hS54 ?_
    refine x_to (l := [(0, .ref (M.2.1 k0)), (1, .int a1)]) ⟨rfl, rfl, trivial⟩ ?_
    exact tX12_passes_B96 o hnL n k0 a1 S54 z hr h
def fX12_isKind (k0 : Nat) (a1 : Int32) (S : xSt) : Option (Int32) :=
  if tM.1 k0 = 12 then
  (if a1 < 0 then
  (some ((0 : Int32)))
else
  ((xgF tM 12 14 k0 S).bind fun r1 =>
  (xgI tM 12 13 k0 S).bind fun v2 =>
  (xal tM r1 v2 S).bind fun v3 =>
  if v3 ≤ a1 then
  (some ((0 : Int32)))
else
  (some ((1 : Int32)))))
  else none
theorem kX12_isKind {z : Int32} {k0 : Nat} {a1 : Int32} {S : xSt} (h : fX12_isKind k0 a1 S = some z) : tM.1 k0 = 12 := by
  unfold fX12_isKind at h
  exact (xck h).1
set_option maxHeartbeats 4000000 in
theorem tX12_isKind (l : Launch) (M : xMg) (A : Nat → Prop) (k0 : Nat) (a1 : Int32) (S : xSt) (z : Int32) (h : fX12_isKind k0 a1 S = some z) : xMI l yX12_isKind cX12_isKind 2 (some .boolean) 1 tM M A [.ref (M.2.1 k0), .int a1] S z S := by
  refine x_metI (plainFor_of_name (by decide)) tM_ok (Nat.le_of_ble_eq_true rfl) (fun Γ hA hnL hl hr o => ?_)
  subst hA; subst hl
  have o : xOk Γ tM M 1 cX12_isKind RX12 := o
  unfold fX12_isKind at h
  obtain ⟨hk0, h⟩ := xck h
  refine x_to (l := [(0, .ref (M.2.1 k0)), (1, .int a1)]) ⟨rfl, rfl, trivial⟩ ?_
  refine x_iload_n (pc := 0) o dX12_isKind_0 rfl rfl ?_
  refine x_if_lt (pc := 1) (tgt := 21) o dX12_isKind_1 (by decide) (fun c5 => ?_) (fun c5 => ?_)
  · have h := xit h c5
    refine x_iconst (pc := 21) o dX12_isKind_21 ic_0 ?_
    exact x_zreturn (pc := 22) o hr dX12_isKind_22 (by decide) (Option.some.inj h) rfl
  · have h := xif h c5
    refine x_iload_n (pc := 4) o dX12_isKind_4 rfl rfl ?_
    refine x_aload_n (pc := 5) o dX12_isKind_5 rfl rfl ?_
    obtain ⟨r1, hr1, h⟩ := xbs h
    refine gX12_54 (pc := 6) o dX12_isKind_6 hr1 ?_
    refine x_aload_n (pc := 9) o dX12_isKind_9 rfl rfl ?_
    obtain ⟨v2, hv2, h⟩ := xbs h
    refine gX12_51 (pc := 10) o dX12_isKind_10 hv2 ?_
    obtain ⟨v3, hv3, h⟩ := xbs h
    refine x_iaload (pc := 13) o dX12_isKind_13 hv3 ?_
    refine x_icmp_ge (pc := 14) (tgt := 21) o dX12_isKind_14 (by decide) (fun c4 => ?_) (fun c4 => ?_)
    · have h := xit h c4
      refine x_iconst (pc := 21) o dX12_isKind_21 ic_0 ?_
      exact x_zreturn (pc := 22) o hr dX12_isKind_22 (by decide) (Option.some.inj h) rfl
    · have h := xif h c4
      refine x_iconst (pc := 17) o dX12_isKind_17 ic_1 ?_
      refine x_goto (pc := 18) (tgt := 22) o dX12_isKind_18 (by decide) ?_
      exact x_zreturn (pc := 22) o hr dX12_isKind_22 (by decide) (Option.some.inj h) rfl
def fX12_isTool (k0 : Nat) (a1 : Int32) (S : xSt) : Option (Int32) :=
  if tM.1 k0 = 12 then
  (if a1 < 0 then
  (some ((0 : Int32)))
else
  ((xgF tM 12 17 k0 S).bind fun r1 =>
  (xgI tM 12 13 k0 S).bind fun v2 =>
  (xal tM r1 v2 S).bind fun v3 =>
  if v3 ≤ a1 then
  (some ((0 : Int32)))
else
  (some ((1 : Int32)))))
  else none
theorem kX12_isTool {z : Int32} {k0 : Nat} {a1 : Int32} {S : xSt} (h : fX12_isTool k0 a1 S = some z) : tM.1 k0 = 12 := by
  unfold fX12_isTool at h
  exact (xck h).1
set_option maxHeartbeats 4000000 in
theorem tX12_isTool (l : Launch) (M : xMg) (A : Nat → Prop) (k0 : Nat) (a1 : Int32) (S : xSt) (z : Int32) (h : fX12_isTool k0 a1 S = some z) : xMI l yX12_isTool cX12_isTool 2 (some .boolean) 1 tM M A [.ref (M.2.1 k0), .int a1] S z S := by
  refine x_metI (plainFor_of_name (by decide)) tM_ok (Nat.le_of_ble_eq_true rfl) (fun Γ hA hnL hl hr o => ?_)
  subst hA; subst hl
  have o : xOk Γ tM M 1 cX12_isTool RX12 := o
  unfold fX12_isTool at h
  obtain ⟨hk0, h⟩ := xck h
  refine x_to (l := [(0, .ref (M.2.1 k0)), (1, .int a1)]) ⟨rfl, rfl, trivial⟩ ?_
  refine x_iload_n (pc := 0) o dX12_isTool_0 rfl rfl ?_
  refine x_if_lt (pc := 1) (tgt := 21) o dX12_isTool_1 (by decide) (fun c5 => ?_) (fun c5 => ?_)
  · have h := xit h c5
    refine x_iconst (pc := 21) o dX12_isTool_21 ic_0 ?_
    exact x_zreturn (pc := 22) o hr dX12_isTool_22 (by decide) (Option.some.inj h) rfl
  · have h := xif h c5
    refine x_iload_n (pc := 4) o dX12_isTool_4 rfl rfl ?_
    refine x_aload_n (pc := 5) o dX12_isTool_5 rfl rfl ?_
    obtain ⟨r1, hr1, h⟩ := xbs h
    refine gX12_63 (pc := 6) o dX12_isTool_6 hr1 ?_
    refine x_aload_n (pc := 9) o dX12_isTool_9 rfl rfl ?_
    obtain ⟨v2, hv2, h⟩ := xbs h
    refine gX12_51 (pc := 10) o dX12_isTool_10 hv2 ?_
    obtain ⟨v3, hv3, h⟩ := xbs h
    refine x_iaload (pc := 13) o dX12_isTool_13 hv3 ?_
    refine x_icmp_ge (pc := 14) (tgt := 21) o dX12_isTool_14 (by decide) (fun c4 => ?_) (fun c4 => ?_)
    · have h := xit h c4
      refine x_iconst (pc := 21) o dX12_isTool_21 ic_0 ?_
      exact x_zreturn (pc := 22) o hr dX12_isTool_22 (by decide) (Option.some.inj h) rfl
    · have h := xif h c4
      refine x_iconst (pc := 17) o dX12_isTool_17 ic_1 ?_
      refine x_goto (pc := 18) (tgt := 22) o dX12_isTool_18 (by decide) ?_
      exact x_zreturn (pc := 22) o hr dX12_isTool_22 (by decide) (Option.some.inj h) rfl
def fX12_isHand (k0 : Nat) (a1 : Int32) (S : xSt) : Option (Int32) :=
  if tM.1 k0 = 12 then
  (if a1 < 0 then
  (some ((0 : Int32)))
else
  ((xgF tM 12 20 k0 S).bind fun r1 =>
  (xgI tM 12 13 k0 S).bind fun v2 =>
  (xal tM r1 v2 S).bind fun v3 =>
  if v3 ≤ a1 then
  (some ((0 : Int32)))
else
  (some ((1 : Int32)))))
  else none
theorem kX12_isHand {z : Int32} {k0 : Nat} {a1 : Int32} {S : xSt} (h : fX12_isHand k0 a1 S = some z) : tM.1 k0 = 12 := by
  unfold fX12_isHand at h
  exact (xck h).1
set_option maxHeartbeats 4000000 in
theorem tX12_isHand (l : Launch) (M : xMg) (A : Nat → Prop) (k0 : Nat) (a1 : Int32) (S : xSt) (z : Int32) (h : fX12_isHand k0 a1 S = some z) : xMI l yX12_isHand cX12_isHand 2 (some .boolean) 1 tM M A [.ref (M.2.1 k0), .int a1] S z S := by
  refine x_metI (plainFor_of_name (by decide)) tM_ok (Nat.le_of_ble_eq_true rfl) (fun Γ hA hnL hl hr o => ?_)
  subst hA; subst hl
  have o : xOk Γ tM M 1 cX12_isHand RX12 := o
  unfold fX12_isHand at h
  obtain ⟨hk0, h⟩ := xck h
  refine x_to (l := [(0, .ref (M.2.1 k0)), (1, .int a1)]) ⟨rfl, rfl, trivial⟩ ?_
  refine x_iload_n (pc := 0) o dX12_isHand_0 rfl rfl ?_
  refine x_if_lt (pc := 1) (tgt := 21) o dX12_isHand_1 (by decide) (fun c5 => ?_) (fun c5 => ?_)
  · have h := xit h c5
    refine x_iconst (pc := 21) o dX12_isHand_21 ic_0 ?_
    exact x_zreturn (pc := 22) o hr dX12_isHand_22 (by decide) (Option.some.inj h) rfl
  · have h := xif h c5
    refine x_iload_n (pc := 4) o dX12_isHand_4 rfl rfl ?_
    refine x_aload_n (pc := 5) o dX12_isHand_5 rfl rfl ?_
    obtain ⟨r1, hr1, h⟩ := xbs h
    refine gX12_72 (pc := 6) o dX12_isHand_6 hr1 ?_
    refine x_aload_n (pc := 9) o dX12_isHand_9 rfl rfl ?_
    obtain ⟨v2, hv2, h⟩ := xbs h
    refine gX12_51 (pc := 10) o dX12_isHand_10 hv2 ?_
    obtain ⟨v3, hv3, h⟩ := xbs h
    refine x_iaload (pc := 13) o dX12_isHand_13 hv3 ?_
    refine x_icmp_ge (pc := 14) (tgt := 21) o dX12_isHand_14 (by decide) (fun c4 => ?_) (fun c4 => ?_)
    · have h := xit h c4
      refine x_iconst (pc := 21) o dX12_isHand_21 ic_0 ?_
      exact x_zreturn (pc := 22) o hr dX12_isHand_22 (by decide) (Option.some.inj h) rfl
    · have h := xif h c4
      refine x_iconst (pc := 17) o dX12_isHand_17 ic_1 ?_
      refine x_goto (pc := 18) (tgt := 22) o dX12_isHand_18 (by decide) ?_
      exact x_zreturn (pc := 22) o hr dX12_isHand_22 (by decide) (Option.some.inj h) rfl
def fX12_isJob (k0 : Nat) (a1 : Int32) (S : xSt) : Option (Int32) :=
  if tM.1 k0 = 12 then
  (if a1 < 0 then
  (some ((0 : Int32)))
else
  ((xgF tM 12 22 k0 S).bind fun r1 =>
  (xgI tM 12 13 k0 S).bind fun v2 =>
  (xal tM r1 v2 S).bind fun v3 =>
  if v3 ≤ a1 then
  (some ((0 : Int32)))
else
  (some ((1 : Int32)))))
  else none
theorem kX12_isJob {z : Int32} {k0 : Nat} {a1 : Int32} {S : xSt} (h : fX12_isJob k0 a1 S = some z) : tM.1 k0 = 12 := by
  unfold fX12_isJob at h
  exact (xck h).1
set_option maxHeartbeats 4000000 in
theorem tX12_isJob (l : Launch) (M : xMg) (A : Nat → Prop) (k0 : Nat) (a1 : Int32) (S : xSt) (z : Int32) (h : fX12_isJob k0 a1 S = some z) : xMI l yX12_isJob cX12_isJob 2 (some .boolean) 1 tM M A [.ref (M.2.1 k0), .int a1] S z S := by
  refine x_metI (plainFor_of_name (by decide)) tM_ok (Nat.le_of_ble_eq_true rfl) (fun Γ hA hnL hl hr o => ?_)
  subst hA; subst hl
  have o : xOk Γ tM M 1 cX12_isJob RX12 := o
  unfold fX12_isJob at h
  obtain ⟨hk0, h⟩ := xck h
  refine x_to (l := [(0, .ref (M.2.1 k0)), (1, .int a1)]) ⟨rfl, rfl, trivial⟩ ?_
  refine x_iload_n (pc := 0) o dX12_isJob_0 rfl rfl ?_
  refine x_if_lt (pc := 1) (tgt := 21) o dX12_isJob_1 (by decide) (fun c5 => ?_) (fun c5 => ?_)
  · have h := xit h c5
    refine x_iconst (pc := 21) o dX12_isJob_21 ic_0 ?_
    exact x_zreturn (pc := 22) o hr dX12_isJob_22 (by decide) (Option.some.inj h) rfl
  · have h := xif h c5
    refine x_iload_n (pc := 4) o dX12_isJob_4 rfl rfl ?_
    refine x_aload_n (pc := 5) o dX12_isJob_5 rfl rfl ?_
    obtain ⟨r1, hr1, h⟩ := xbs h
    refine gX12_78 (pc := 6) o dX12_isJob_6 hr1 ?_
    refine x_aload_n (pc := 9) o dX12_isJob_9 rfl rfl ?_
    obtain ⟨v2, hv2, h⟩ := xbs h
    refine gX12_51 (pc := 10) o dX12_isJob_10 hv2 ?_
    obtain ⟨v3, hv3, h⟩ := xbs h
    refine x_iaload (pc := 13) o dX12_isJob_13 hv3 ?_
    refine x_icmp_ge (pc := 14) (tgt := 21) o dX12_isJob_14 (by decide) (fun c4 => ?_) (fun c4 => ?_)
    · have h := xit h c4
      refine x_iconst (pc := 21) o dX12_isJob_21 ic_0 ?_
      exact x_zreturn (pc := 22) o hr dX12_isJob_22 (by decide) (Option.some.inj h) rfl
    · have h := xif h c4
      refine x_iconst (pc := 17) o dX12_isJob_17 ic_1 ?_
      refine x_goto (pc := 18) (tgt := 22) o dX12_isJob_18 (by decide) ?_
      exact x_zreturn (pc := 22) o hr dX12_isJob_22 (by decide) (Option.some.inj h) rfl
def fX12_has_L144b (n : Nat) (k0 : Nat) (S : xSt) (rec : Int32 → Int32 → Option (Int32)) (a2 : Int32) (a3 : Int32) : Option (Int32) :=
  (xgF tM 12 22 k0 S).bind fun r31 =>
  (xgI tM 12 13 k0 S).bind fun v32 =>
  (xal tM r31 v32 S).bind fun v33 =>
  if v33 ≤ a3 then
  (some a2)
else
  ((fX12_isDone k0 ((0 : Int32)) a3 S).bind fun v34 =>
  if v34 = 0 then
  ((some (a2 + ((0 : Int32)))).bind fun v35 =>
  (some (a3 + (1 : Int32))).bind fun v36 =>
  rec v35 v36)
else
  ((some (a2 + ((1 : Int32)))).bind fun v37 =>
  (some (a3 + (1 : Int32))).bind fun v38 =>
  rec v37 v38))
def fX12_has_L144 (n : Nat) (k0 : Nat) (S : xSt) : Nat → Int32 → Int32 → Option (Int32)
  | 0 => fun _ _ => none
  | q + 1 => fX12_has_L144b n k0 S (fX12_has_L144 n k0 S q)
set_option maxHeartbeats 4000000 in
theorem tX12_has_L144b {Γ : xGm} {M : xMg} (o : xOk Γ tM M 4 cX12_has RX12) (hnL : Γ.2.2.2 = 4) {rec : Int32 → Int32 → Option (Int32)} (n : Nat) (k0 : Nat) (S : xSt) (a2 : Int32) (a3 : Int32) (z : (Int32)) (hrec : ∀ (a2 : Int32) (a3 : Int32), rec a2 a3 = some z → xAt Γ tM M 144 (xlv [(0, .ref (M.2.1 k0)), (2, .int a2), (3, .int a3)]) [] S) (K : xAt Γ tM M 180 (xlv [(2, .int z)]) [] S) (h : fX12_has_L144b n k0 S rec a2 a3 = some z) : xAt Γ tM M 144 (xlv [(0, .ref (M.2.1 k0)), (2, .int a2), (3, .int a3)]) [] S := by
  have hn2 : 2 < Γ.2.2.2 := by omega
  have hn3 : 3 < Γ.2.2.2 := by omega
  unfold fX12_has_L144b at h
  refine x_iload_n (pc := 144) o dX12_has_144 rfl rfl ?_
  refine x_aload_n (pc := 145) o dX12_has_145 rfl rfl ?_
  obtain ⟨r31, hr31, h⟩ := xbs h
  refine gX12_78 (pc := 146) o dX12_has_146 hr31 ?_
  refine x_aload_n (pc := 149) o dX12_has_149 rfl rfl ?_
  obtain ⟨v32, hv32, h⟩ := xbs h
  refine gX12_51 (pc := 150) o dX12_has_150 hv32 ?_
  obtain ⟨v33, hv33, h⟩ := xbs h
  refine x_iaload (pc := 153) o dX12_has_153 hv33 ?_
  refine x_icmp_ge (pc := 154) (tgt := 180) o dX12_has_154 (by decide) (fun c40 => ?_) (fun c40 => ?_)
  · have h := xit h c40
    refine x_to (l := [(2, .int a2)]) ⟨rfl, trivial⟩ ?_
    cases Option.some.inj h
    exact K
  · have h := xif h c40
    refine x_iload_n (pc := 157) o dX12_has_157 rfl rfl ?_
    refine x_aload_n (pc := 158) o dX12_has_158 rfl rfl ?_
    refine x_iconst (pc := 159) o dX12_has_159 ic_0 ?_
    refine x_iload_n (pc := 160) o dX12_has_160 rfl rfl ?_
    obtain ⟨v34, hv34, h⟩ := xbs h
    refine x_callI (pc := 161) (As := [.int ((0 : Int32)), .int a3]) (b := k0) (rest := [.int a2]) o (tX12_isDone _ M _ k0 ((0 : Int32)) a3 S v34 hv34) eX12_isDone mX12_521 clX12 (kX12_isDone hv34) (by decide) rfl rfl (Nat.le_of_ble_eq_true rfl) dX12_has_161 ?_
    refine x_if_eq (pc := 164) (tgt := 171) o dX12_has_164 (by decide) (fun c39 => ?_) (fun c39 => ?_)
    · have h := xit h c39
      refine x_iconst (pc := 171) o dX12_has_171 ic_0 ?_
      refine x_iadd (pc := 172) o dX12_has_172 ?_
      obtain ⟨v35, hv35, h⟩ := xbs h
      refine x_istore_nE (pc := 173) o dX12_has_173 rfl hn2 hv35 ?_
      obtain ⟨v36, hv36, h⟩ := xbs h
      refine x_iincE (pc := 174) o dX12_has_174 rfl ic_1 hn3 hv36 ?_
      refine x_goto (pc := 177) (tgt := 144) o dX12_has_177 (by decide) ?_
      refine x_to (l := [(0, .ref (M.2.1 k0)), (2, .int v35), (3, .int v36)]) ⟨rfl, rfl, rfl, trivial⟩ ?_
      exact hrec v35 v36 h
    · have h := xif h c39
      refine x_iconst (pc := 167) o dX12_has_167 ic_1 ?_
      refine x_goto (pc := 168) (tgt := 172) o dX12_has_168 (by decide) ?_
      refine x_iadd (pc := 172) o dX12_has_172 ?_
      obtain ⟨v37, hv37, h⟩ := xbs h
      refine x_istore_nE (pc := 173) o dX12_has_173 rfl hn2 hv37 ?_
      obtain ⟨v38, hv38, h⟩ := xbs h
      refine x_iincE (pc := 174) o dX12_has_174 rfl ic_1 hn3 hv38 ?_
      refine x_goto (pc := 177) (tgt := 144) o dX12_has_177 (by decide) ?_
      refine x_to (l := [(0, .ref (M.2.1 k0)), (2, .int v37), (3, .int v38)]) ⟨rfl, rfl, rfl, trivial⟩ ?_
      exact hrec v37 v38 h
theorem tX12_has_L144 {Γ : xGm} {M : xMg} (o : xOk Γ tM M 4 cX12_has RX12) (hnL : Γ.2.2.2 = 4) (n : Nat) (k0 : Nat) (S : xSt) (z : (Int32)) (K : xAt Γ tM M 180 (xlv [(2, .int z)]) [] S) : ∀ (q : Nat) (a2 : Int32) (a3 : Int32), fX12_has_L144 n k0 S q a2 a3 = some z → xAt Γ tM M 144 (xlv [(0, .ref (M.2.1 k0)), (2, .int a2), (3, .int a3)]) [] S := by
  intro q
  induction q with
  | zero => intro a2 a3 h; cases h
  | succ q ih => intro a2 a3 h; exact tX12_has_L144b o hnL n k0 S a2 a3 z ih K h
def fX12_has_L184b (n : Nat) (k0 : Nat) (S : xSt) (rec : Int32 → Int32 → Option (Int32)) (a2 : Int32) (a3 : Int32) : Option (Int32) :=
  (xgF tM 12 22 k0 S).bind fun r43 =>
  (xgI tM 12 13 k0 S).bind fun v44 =>
  (xal tM r43 v44 S).bind fun v45 =>
  if v45 ≤ a3 then
  (some a2)
else
  ((fX12_lateIn k0 ((0 : Int32)) a3 S).bind fun v46 =>
  if v46 ≤ 0 then
  ((some (a2 + ((0 : Int32)))).bind fun v47 =>
  (some (a3 + (1 : Int32))).bind fun v48 =>
  rec v47 v48)
else
  ((some (a2 + ((1 : Int32)))).bind fun v49 =>
  (some (a3 + (1 : Int32))).bind fun v50 =>
  rec v49 v50))
def fX12_has_L184 (n : Nat) (k0 : Nat) (S : xSt) : Nat → Int32 → Int32 → Option (Int32)
  | 0 => fun _ _ => none
  | q + 1 => fX12_has_L184b n k0 S (fX12_has_L184 n k0 S q)
set_option maxHeartbeats 4000000 in
theorem tX12_has_L184b {Γ : xGm} {M : xMg} (o : xOk Γ tM M 4 cX12_has RX12) (hnL : Γ.2.2.2 = 4) {rec : Int32 → Int32 → Option (Int32)} (n : Nat) (k0 : Nat) (S : xSt) (a2 : Int32) (a3 : Int32) (z : (Int32)) (hrec : ∀ (a2 : Int32) (a3 : Int32), rec a2 a3 = some z → xAt Γ tM M 184 (xlv [(0, .ref (M.2.1 k0)), (2, .int a2), (3, .int a3)]) [] S) (K : xAt Γ tM M 220 (xlv [(2, .int z)]) [] S) (h : fX12_has_L184b n k0 S rec a2 a3 = some z) : xAt Γ tM M 184 (xlv [(0, .ref (M.2.1 k0)), (2, .int a2), (3, .int a3)]) [] S := by
  have hn2 : 2 < Γ.2.2.2 := by omega
  have hn3 : 3 < Γ.2.2.2 := by omega
  unfold fX12_has_L184b at h
  refine x_iload_n (pc := 184) o dX12_has_184 rfl rfl ?_
  refine x_aload_n (pc := 185) o dX12_has_185 rfl rfl ?_
  obtain ⟨r43, hr43, h⟩ := xbs h
  refine gX12_78 (pc := 186) o dX12_has_186 hr43 ?_
  refine x_aload_n (pc := 189) o dX12_has_189 rfl rfl ?_
  obtain ⟨v44, hv44, h⟩ := xbs h
  refine gX12_51 (pc := 190) o dX12_has_190 hv44 ?_
  obtain ⟨v45, hv45, h⟩ := xbs h
  refine x_iaload (pc := 193) o dX12_has_193 hv45 ?_
  refine x_icmp_ge (pc := 194) (tgt := 220) o dX12_has_194 (by decide) (fun c52 => ?_) (fun c52 => ?_)
  · have h := xit h c52
    refine x_to (l := [(2, .int a2)]) ⟨rfl, trivial⟩ ?_
    cases Option.some.inj h
    exact K
  · have h := xif h c52
    refine x_iload_n (pc := 197) o dX12_has_197 rfl rfl ?_
    refine x_aload_n (pc := 198) o dX12_has_198 rfl rfl ?_
    refine x_iconst (pc := 199) o dX12_has_199 ic_0 ?_
    refine x_iload_n (pc := 200) o dX12_has_200 rfl rfl ?_
    obtain ⟨v46, hv46, h⟩ := xbs h
    refine x_callI (pc := 201) (As := [.int ((0 : Int32)), .int a3]) (b := k0) (rest := [.int a2]) o (tX12_lateIn _ M _ k0 ((0 : Int32)) a3 S v46 hv46) eX12_lateIn mX12_537 clX12 (kX12_lateIn hv46) (by decide) rfl rfl (Nat.le_of_ble_eq_true rfl) dX12_has_201 ?_
    refine x_if_le (pc := 204) (tgt := 211) o dX12_has_204 (by decide) (fun c51 => ?_) (fun c51 => ?_)
    · have h := xit h c51
      refine x_iconst (pc := 211) o dX12_has_211 ic_0 ?_
      refine x_iadd (pc := 212) o dX12_has_212 ?_
      obtain ⟨v47, hv47, h⟩ := xbs h
      refine x_istore_nE (pc := 213) o dX12_has_213 rfl hn2 hv47 ?_
      obtain ⟨v48, hv48, h⟩ := xbs h
      refine x_iincE (pc := 214) o dX12_has_214 rfl ic_1 hn3 hv48 ?_
      refine x_goto (pc := 217) (tgt := 184) o dX12_has_217 (by decide) ?_
      refine x_to (l := [(0, .ref (M.2.1 k0)), (2, .int v47), (3, .int v48)]) ⟨rfl, rfl, rfl, trivial⟩ ?_
      exact hrec v47 v48 h
    · have h := xif h c51
      refine x_iconst (pc := 207) o dX12_has_207 ic_1 ?_
      refine x_goto (pc := 208) (tgt := 212) o dX12_has_208 (by decide) ?_
      refine x_iadd (pc := 212) o dX12_has_212 ?_
      obtain ⟨v49, hv49, h⟩ := xbs h
      refine x_istore_nE (pc := 213) o dX12_has_213 rfl hn2 hv49 ?_
      obtain ⟨v50, hv50, h⟩ := xbs h
      refine x_iincE (pc := 214) o dX12_has_214 rfl ic_1 hn3 hv50 ?_
      refine x_goto (pc := 217) (tgt := 184) o dX12_has_217 (by decide) ?_
      refine x_to (l := [(0, .ref (M.2.1 k0)), (2, .int v49), (3, .int v50)]) ⟨rfl, rfl, rfl, trivial⟩ ?_
      exact hrec v49 v50 h
theorem tX12_has_L184 {Γ : xGm} {M : xMg} (o : xOk Γ tM M 4 cX12_has RX12) (hnL : Γ.2.2.2 = 4) (n : Nat) (k0 : Nat) (S : xSt) (z : (Int32)) (K : xAt Γ tM M 220 (xlv [(2, .int z)]) [] S) : ∀ (q : Nat) (a2 : Int32) (a3 : Int32), fX12_has_L184 n k0 S q a2 a3 = some z → xAt Γ tM M 184 (xlv [(0, .ref (M.2.1 k0)), (2, .int a2), (3, .int a3)]) [] S := by
  intro q
  induction q with
  | zero => intro a2 a3 h; cases h
  | succ q ih => intro a2 a3 h; exact tX12_has_L184b o hnL n k0 S a2 a3 z ih K h
def fX12_has (n : Nat) (k0 : Nat) (a1 : Int32) (S : xSt) : Option (Int32) :=
  if tM.1 k0 = 12 then
  (if a1 = (0 : Int32) then
  ((xgF tM 12 14 k0 S).bind fun r1 =>
  (xgI tM 12 13 k0 S).bind fun v2 =>
  (xal tM r1 v2 S).bind fun v3 =>
  some v3)
else if a1 = (1 : Int32) then
  ((xgF tM 12 17 k0 S).bind fun r5 =>
  (xgI tM 12 13 k0 S).bind fun v6 =>
  (xal tM r5 v6 S).bind fun v7 =>
  some v7)
else if a1 = (2 : Int32) then
  ((xgF tM 12 20 k0 S).bind fun r9 =>
  (xgI tM 12 13 k0 S).bind fun v10 =>
  (xal tM r9 v10 S).bind fun v11 =>
  some v11)
else if a1 = (3 : Int32) then
  ((xgF tM 12 22 k0 S).bind fun r13 =>
  (xgI tM 12 13 k0 S).bind fun v14 =>
  (xal tM r13 v14 S).bind fun v15 =>
  some v15)
else if a1 = (4 : Int32) then
  ((xgF tM 12 54 k0 S).bind fun r17 =>
  (xal tM r17 ((0 : Int32)) S).bind fun v18 =>
  some v18)
else if a1 = (5 : Int32) then
  ((xgF tM 12 55 k0 S).bind fun r20 =>
  (xal tM r20 ((0 : Int32)) S).bind fun v21 =>
  some v21)
else if a1 = (6 : Int32) then
  ((xgF tM 12 57 k0 S).bind fun r23 =>
  (xal tM r23 ((0 : Int32)) S).bind fun v24 =>
  (fX12_bits n v24 S).bind fun v25 =>
  some v25)
else if a1 = (7 : Int32) then
  ((xgF tM 12 58 k0 S).bind fun r27 =>
  (xal tM r27 ((0 : Int32)) S).bind fun v28 =>
  (fX12_bits n v28 S).bind fun v29 =>
  some v29)
else if a1 = (8 : Int32) then
  ((fX12_has_L144 n k0 S n ((0 : Int32)) ((0 : Int32))).bind fun z41 => some z41)
else if a1 = (9 : Int32) then
  ((fX12_has_L184 n k0 S n ((0 : Int32)) ((0 : Int32))).bind fun z53 => some z53)
else if a1 = (10 : Int32) then
  ((xgF tM 12 62 k0 S).bind fun r55 =>
  (xal tM r55 ((0 : Int32)) S).bind fun v56 =>
  some v56)
else if a1 = (11 : Int32) then
  ((xgI tM 12 65 k0 S).bind fun v58 =>
  some v58)
else if a1 = (12 : Int32) then
  ((xgL tM 12 66 k0 S).bind fun v60 =>
  some v60.toInt32)
else 
  (some ((-1 : Int32))))
  else none
theorem kX12_has {z : Int32} {n : Nat} {k0 : Nat} {a1 : Int32} {S : xSt} (h : fX12_has n k0 a1 S = some z) : tM.1 k0 = 12 := by
  unfold fX12_has at h
  exact (xck h).1
set_option maxHeartbeats 4000000 in
theorem tX12_has (l : Launch) (M : xMg) (A : Nat → Prop) (n : Nat) (k0 : Nat) (a1 : Int32) (S : xSt) (z : Int32) (h : fX12_has n k0 a1 S = some z) : xMI l yX12_has cX12_has 4 (some .int) 4 tM M A [.ref (M.2.1 k0), .int a1] S z S := by
  refine x_metI (plainFor_of_name (by decide)) tM_ok (Nat.le_of_ble_eq_true rfl) (fun Γ hA hnL hl hr o => ?_)
  subst hA; subst hl
  have o : xOk Γ tM M 4 cX12_has RX12 := o
  unfold fX12_has at h
  obtain ⟨hk0, h⟩ := xck h
  refine x_to (l := [(0, .ref (M.2.1 k0)), (1, .int a1)]) ⟨rfl, rfl, trivial⟩ ?_
  have hn2 : 2 < Γ.2.2.2 := by omega
  have hn3 : 3 < Γ.2.2.2 := by omega
  refine x_iconst (pc := 0) o dX12_has_0 ic_0 ?_
  refine x_istore_n (pc := 1) o dX12_has_1 rfl hn2 ?_
  refine x_iload_n (pc := 2) o dX12_has_2 rfl rfl ?_
  by_cases c4 : a1 = (0 : Int32)
  · have h := xit h c4
    refine x_tableIn (pc := 3) (tgt := 68) o dX12_has_3 (by rw [c4]; decide) (by rw [c4]; decide) (by rw [c4]; rfl) (by decide) ?_
    refine x_aload_n (pc := 68) o dX12_has_68 rfl rfl ?_
    obtain ⟨r1, hr1, h⟩ := xbs h
    refine gX12_54 (pc := 69) o dX12_has_69 hr1 ?_
    refine x_aload_n (pc := 72) o dX12_has_72 rfl rfl ?_
    obtain ⟨v2, hv2, h⟩ := xbs h
    refine gX12_51 (pc := 73) o dX12_has_73 hv2 ?_
    obtain ⟨v3, hv3, h⟩ := xbs h
    refine x_iaload (pc := 76) o dX12_has_76 hv3 ?_
    exact x_ireturn (pc := 77) o hr dX12_has_77 (Option.some.inj h) rfl
  have h := xif h c4
  by_cases c8 : a1 = (1 : Int32)
  · have h := xit h c8
    refine x_tableIn (pc := 3) (tgt := 78) o dX12_has_3 (by rw [c8]; decide) (by rw [c8]; decide) (by rw [c8]; rfl) (by decide) ?_
    refine x_aload_n (pc := 78) o dX12_has_78 rfl rfl ?_
    obtain ⟨r5, hr5, h⟩ := xbs h
    refine gX12_63 (pc := 79) o dX12_has_79 hr5 ?_
    refine x_aload_n (pc := 82) o dX12_has_82 rfl rfl ?_
    obtain ⟨v6, hv6, h⟩ := xbs h
    refine gX12_51 (pc := 83) o dX12_has_83 hv6 ?_
    obtain ⟨v7, hv7, h⟩ := xbs h
    refine x_iaload (pc := 86) o dX12_has_86 hv7 ?_
    exact x_ireturn (pc := 87) o hr dX12_has_87 (Option.some.inj h) rfl
  have h := xif h c8
  by_cases c12 : a1 = (2 : Int32)
  · have h := xit h c12
    refine x_tableIn (pc := 3) (tgt := 88) o dX12_has_3 (by rw [c12]; decide) (by rw [c12]; decide) (by rw [c12]; rfl) (by decide) ?_
    refine x_aload_n (pc := 88) o dX12_has_88 rfl rfl ?_
    obtain ⟨r9, hr9, h⟩ := xbs h
    refine gX12_72 (pc := 89) o dX12_has_89 hr9 ?_
    refine x_aload_n (pc := 92) o dX12_has_92 rfl rfl ?_
    obtain ⟨v10, hv10, h⟩ := xbs h
    refine gX12_51 (pc := 93) o dX12_has_93 hv10 ?_
    obtain ⟨v11, hv11, h⟩ := xbs h
    refine x_iaload (pc := 96) o dX12_has_96 hv11 ?_
    exact x_ireturn (pc := 97) o hr dX12_has_97 (Option.some.inj h) rfl
  have h := xif h c12
  by_cases c16 : a1 = (3 : Int32)
  · have h := xit h c16
    refine x_tableIn (pc := 3) (tgt := 98) o dX12_has_3 (by rw [c16]; decide) (by rw [c16]; decide) (by rw [c16]; rfl) (by decide) ?_
    refine x_aload_n (pc := 98) o dX12_has_98 rfl rfl ?_
    obtain ⟨r13, hr13, h⟩ := xbs h
    refine gX12_78 (pc := 99) o dX12_has_99 hr13 ?_
    refine x_aload_n (pc := 102) o dX12_has_102 rfl rfl ?_
    obtain ⟨v14, hv14, h⟩ := xbs h
    refine gX12_51 (pc := 103) o dX12_has_103 hv14 ?_
    obtain ⟨v15, hv15, h⟩ := xbs h
    refine x_iaload (pc := 106) o dX12_has_106 hv15 ?_
    exact x_ireturn (pc := 107) o hr dX12_has_107 (Option.some.inj h) rfl
  have h := xif h c16
  by_cases c19 : a1 = (4 : Int32)
  · have h := xit h c19
    refine x_tableIn (pc := 3) (tgt := 108) o dX12_has_3 (by rw [c19]; decide) (by rw [c19]; decide) (by rw [c19]; rfl) (by decide) ?_
    refine x_aload_n (pc := 108) o dX12_has_108 rfl rfl ?_
    obtain ⟨r17, hr17, h⟩ := xbs h
    refine gX12_177 (pc := 109) o dX12_has_109 hr17 ?_
    refine x_iconst (pc := 112) o dX12_has_112 ic_0 ?_
    obtain ⟨v18, hv18, h⟩ := xbs h
    refine x_iaload (pc := 113) o dX12_has_113 hv18 ?_
    exact x_ireturn (pc := 114) o hr dX12_has_114 (Option.some.inj h) rfl
  have h := xif h c19
  by_cases c22 : a1 = (5 : Int32)
  · have h := xit h c22
    refine x_tableIn (pc := 3) (tgt := 115) o dX12_has_3 (by rw [c22]; decide) (by rw [c22]; decide) (by rw [c22]; rfl) (by decide) ?_
    refine x_aload_n (pc := 115) o dX12_has_115 rfl rfl ?_
    obtain ⟨r20, hr20, h⟩ := xbs h
    refine gX12_180 (pc := 116) o dX12_has_116 hr20 ?_
    refine x_iconst (pc := 119) o dX12_has_119 ic_0 ?_
    obtain ⟨v21, hv21, h⟩ := xbs h
    refine x_iaload (pc := 120) o dX12_has_120 hv21 ?_
    exact x_ireturn (pc := 121) o hr dX12_has_121 (Option.some.inj h) rfl
  have h := xif h c22
  by_cases c26 : a1 = (6 : Int32)
  · have h := xit h c26
    refine x_tableIn (pc := 3) (tgt := 122) o dX12_has_3 (by rw [c26]; decide) (by rw [c26]; decide) (by rw [c26]; rfl) (by decide) ?_
    refine x_aload_n (pc := 122) o dX12_has_122 rfl rfl ?_
    obtain ⟨r23, hr23, h⟩ := xbs h
    refine gX12_186 (pc := 123) o dX12_has_123 hr23 ?_
    refine x_iconst (pc := 126) o dX12_has_126 ic_0 ?_
    obtain ⟨v24, hv24, h⟩ := xbs h
    refine x_iaload (pc := 127) o dX12_has_127 hv24 ?_
    obtain ⟨v25, hv25, h⟩ := xbs h
    refine x_statI (pc := 128) (As := [.int v24]) (rest := []) o (tX12_bits _ M _ n v24 S v25 hv25) eX12_bits mX12_547 (by decide) rfl rfl (Nat.le_of_ble_eq_true rfl) dX12_has_128 ?_
    exact x_ireturn (pc := 131) o hr dX12_has_131 (Option.some.inj h) rfl
  have h := xif h c26
  by_cases c30 : a1 = (7 : Int32)
  · have h := xit h c30
    refine x_tableIn (pc := 3) (tgt := 132) o dX12_has_3 (by rw [c30]; decide) (by rw [c30]; decide) (by rw [c30]; rfl) (by decide) ?_
    refine x_aload_n (pc := 132) o dX12_has_132 rfl rfl ?_
    obtain ⟨r27, hr27, h⟩ := xbs h
    refine gX12_189 (pc := 133) o dX12_has_133 hr27 ?_
    refine x_iconst (pc := 136) o dX12_has_136 ic_0 ?_
    obtain ⟨v28, hv28, h⟩ := xbs h
    refine x_iaload (pc := 137) o dX12_has_137 hv28 ?_
    obtain ⟨v29, hv29, h⟩ := xbs h
    refine x_statI (pc := 138) (As := [.int v28]) (rest := []) o (tX12_bits _ M _ n v28 S v29 hv29) eX12_bits mX12_547 (by decide) rfl rfl (Nat.le_of_ble_eq_true rfl) dX12_has_138 ?_
    exact x_ireturn (pc := 141) o hr dX12_has_141 (Option.some.inj h) rfl
  have h := xif h c30
  by_cases c42 : a1 = (8 : Int32)
  · have h := xit h c42
    refine x_tableIn (pc := 3) (tgt := 142) o dX12_has_3 (by rw [c42]; decide) (by rw [c42]; decide) (by rw [c42]; rfl) (by decide) ?_
    refine x_iconst (pc := 142) o dX12_has_142 ic_0 ?_
    refine x_istore_n (pc := 143) o dX12_has_143 rfl hn3 ?_
    obtain ⟨z41, hz41, h⟩ := xbs h
    refine x_to (l := [(0, .ref (M.2.1 k0)), (2, .int ((0 : Int32))), (3, .int ((0 : Int32)))]) ⟨rfl, rfl, rfl, trivial⟩ ?_
    refine tX12_has_L144 o hnL n k0 S z41 ?_ n ((0 : Int32)) ((0 : Int32)) hz41
    refine x_iload_n (pc := 180) o dX12_has_180 rfl rfl ?_
    exact x_ireturn (pc := 181) o hr dX12_has_181 (Option.some.inj h) rfl
  have h := xif h c42
  by_cases c54 : a1 = (9 : Int32)
  · have h := xit h c54
    refine x_tableIn (pc := 3) (tgt := 182) o dX12_has_3 (by rw [c54]; decide) (by rw [c54]; decide) (by rw [c54]; rfl) (by decide) ?_
    refine x_iconst (pc := 182) o dX12_has_182 ic_0 ?_
    refine x_istore_n (pc := 183) o dX12_has_183 rfl hn3 ?_
    obtain ⟨z53, hz53, h⟩ := xbs h
    refine x_to (l := [(0, .ref (M.2.1 k0)), (2, .int ((0 : Int32))), (3, .int ((0 : Int32)))]) ⟨rfl, rfl, rfl, trivial⟩ ?_
    refine tX12_has_L184 o hnL n k0 S z53 ?_ n ((0 : Int32)) ((0 : Int32)) hz53
    refine x_iload_n (pc := 220) o dX12_has_220 rfl rfl ?_
    exact x_ireturn (pc := 221) o hr dX12_has_221 (Option.some.inj h) rfl
  have h := xif h c54
  by_cases c57 : a1 = (10 : Int32)
  · have h := xit h c57
    refine x_tableIn (pc := 3) (tgt := 222) o dX12_has_3 (by rw [c57]; decide) (by rw [c57]; decide) (by rw [c57]; rfl) (by decide) ?_
    refine x_aload_n (pc := 222) o dX12_has_222 rfl rfl ?_
    obtain ⟨r55, hr55, h⟩ := xbs h
    refine gX12_201 (pc := 223) o dX12_has_223 hr55 ?_
    refine x_iconst (pc := 226) o dX12_has_226 ic_0 ?_
    obtain ⟨v56, hv56, h⟩ := xbs h
    refine x_iaload (pc := 227) o dX12_has_227 hv56 ?_
    exact x_ireturn (pc := 228) o hr dX12_has_228 (Option.some.inj h) rfl
  have h := xif h c57
  by_cases c59 : a1 = (11 : Int32)
  · have h := xit h c59
    refine x_tableIn (pc := 3) (tgt := 229) o dX12_has_3 (by rw [c59]; decide) (by rw [c59]; decide) (by rw [c59]; rfl) (by decide) ?_
    refine x_aload_n (pc := 229) o dX12_has_229 rfl rfl ?_
    obtain ⟨v58, hv58, h⟩ := xbs h
    refine gX12_210 (pc := 230) o dX12_has_230 hv58 ?_
    exact x_ireturn (pc := 233) o hr dX12_has_233 (Option.some.inj h) rfl
  have h := xif h c59
  by_cases c61 : a1 = (12 : Int32)
  · have h := xit h c61
    refine x_tableIn (pc := 3) (tgt := 234) o dX12_has_3 (by rw [c61]; decide) (by rw [c61]; decide) (by rw [c61]; rfl) (by decide) ?_
    refine x_aload_n (pc := 234) o dX12_has_234 rfl rfl ?_
    obtain ⟨v60, hv60, h⟩ := xbs h
    refine gX12_213 (pc := 235) o dX12_has_235 hv60 ?_
    refine x_l2i (pc := 238) o dX12_has_238 ?_
    exact x_ireturn (pc := 239) o hr dX12_has_239 (Option.some.inj h) rfl
  have h := xif h c61
  refine x_tableOut (pc := 3) (tgt := 240) o dX12_has_3 (by have := lv_neT c4 (a := 0) (by decide); have := lv_neT c8 (a := 1) (by decide); have := lv_neT c12 (a := 2) (by decide); have := lv_neT c16 (a := 3) (by decide); have := lv_neT c19 (a := 4) (by decide); have := lv_neT c22 (a := 5) (by decide); have := lv_neT c26 (a := 6) (by decide); have := lv_neT c30 (a := 7) (by decide); have := lv_neT c42 (a := 8) (by decide); have := lv_neT c54 (a := 9) (by decide); have := lv_neT c57 (a := 10) (by decide); have := lv_neT c59 (a := 11) (by decide); have := lv_neT c61 (a := 12) (by decide); omega) (by decide) ?_
  refine x_iconst (pc := 240) o dX12_has_240 ic_m1 ?_
  exact x_ireturn (pc := 241) o hr dX12_has_241 (Option.some.inj h) rfl
def fX12_letter_L58b (n : Nat) (a3 : Int32) (b4 : Int64) (S : xSt) (rec : Int32 → Int64 → Option (Int32)) (a6 : Int32) (b7 : Int64) : Option (Int32) :=
  if (lg_cmp b7 ((0 : Int64))) ≤ 0 then
  (some a6)
else
  ((some (a6 + (1 : Int32))).bind fun v8 =>
  (some (b7 >>> (((8 : Int32)).toInt64 &&& 63))).bind fun v9 =>
  rec v8 v9)
def fX12_letter_L58 (n : Nat) (a3 : Int32) (b4 : Int64) (S : xSt) : Nat → Int32 → Int64 → Option (Int32)
  | 0 => fun _ _ => none
  | q + 1 => fX12_letter_L58b n a3 b4 S (fX12_letter_L58 n a3 b4 S q)
set_option maxHeartbeats 4000000 in
theorem tX12_letter_L58b {Γ : xGm} {M : xMg} (o : xOk Γ tM M 2 cX12_letter RX12) (hnL : Γ.2.2.2 = 9) {rec : Int32 → Int64 → Option (Int32)} (n : Nat) (a3 : Int32) (b4 : Int64) (S : xSt) (a6 : Int32) (b7 : Int64) (z : (Int32)) (hrec : ∀ (a6 : Int32) (b7 : Int64), rec a6 b7 = some z → xAt Γ tM M 58 (xlv [(3, .int a3), (4, .long b4), (6, .int a6), (7, .long b7)]) [] S) (K : xAt Γ tM M 78 (xlv [(3, .int a3), (4, .long b4), (6, .int z)]) [] S) (h : fX12_letter_L58b n a3 b4 S rec a6 b7 = some z) : xAt Γ tM M 58 (xlv [(3, .int a3), (4, .long b4), (6, .int a6), (7, .long b7)]) [] S := by
  have hn6 : 6 < Γ.2.2.2 := by omega
  have hn8 : 8 < Γ.2.2.2 := by omega
  unfold fX12_letter_L58b at h
  refine x_lload (pc := 58) o dX12_letter_58 rfl ?_
  refine x_lconst (pc := 60) (v := 0) o dX12_letter_60 rfl ?_
  refine x_lcmp (pc := 61) o dX12_letter_61 ?_
  refine x_if_le (pc := 62) (tgt := 78) o dX12_letter_62 (by decide) (fun c10 => ?_) (fun c10 => ?_)
  · have h := xit h c10
    refine x_to (l := [(3, .int a3), (4, .long b4), (6, .int a6)]) ⟨rfl, rfl, rfl, trivial⟩ ?_
    cases Option.some.inj h
    exact K
  · have h := xif h c10
    obtain ⟨v8, hv8, h⟩ := xbs h
    refine x_iincE (pc := 65) o dX12_letter_65 rfl ic_1 hn6 hv8 ?_
    refine x_lload (pc := 68) o dX12_letter_68 rfl ?_
    refine x_bipush (pc := 70) o dX12_letter_70 bp_8 ?_
    refine x_lshr (pc := 72) o dX12_letter_72 ?_
    obtain ⟨v9, hv9, h⟩ := xbs h
    refine x_lstoreE (pc := 73) o dX12_letter_73 hn8 hv9 ?_
    refine x_goto (pc := 75) (tgt := 58) o dX12_letter_75 (by decide) ?_
    refine x_to (l := [(3, .int a3), (4, .long b4), (6, .int v8), (7, .long v9)]) ⟨rfl, rfl, rfl, rfl, trivial⟩ ?_
    exact hrec v8 v9 h
theorem tX12_letter_L58 {Γ : xGm} {M : xMg} (o : xOk Γ tM M 2 cX12_letter RX12) (hnL : Γ.2.2.2 = 9) (n : Nat) (a3 : Int32) (b4 : Int64) (S : xSt) (z : (Int32)) (K : xAt Γ tM M 78 (xlv [(3, .int a3), (4, .long b4), (6, .int z)]) [] S) : ∀ (q : Nat) (a6 : Int32) (b7 : Int64), fX12_letter_L58 n a3 b4 S q a6 b7 = some z → xAt Γ tM M 58 (xlv [(3, .int a3), (4, .long b4), (6, .int a6), (7, .long b7)]) [] S := by
  intro q
  induction q with
  | zero => intro a6 b7 h; cases h
  | succ q ih => intro a6 b7 h; exact tX12_letter_L58b o hnL n a3 b4 S a6 b7 z ih K h
def fX12_letter (n : Nat) (k0 : Nat) (a1 : Int32) (a2 : Int32) (a3 : Int32) (S : xSt) : Option (Int32) :=
  if tM.1 k0 = 12 then
  ((fX12_is a1 ((0 : Int32)) ((3 : Int32)) S).bind fun v1 =>
  if v1 = 0 then
  (some ((-1 : Int32)))
else
  ((xgI tM 12 13 k0 S).bind fun v2 =>
  (fX12_manyOf k0 v2 a1 S).bind fun v3 =>
  (fX12_is a2 ((0 : Int32)) (v3 - ((1 : Int32))) S).bind fun v4 =>
  if v4 = 0 then
  (some ((-1 : Int32)))
else
  ((fX12_is a3 ((0 : Int32)) ((5 : Int32)) S).bind fun v5 =>
  if v5 = 0 then
  (some ((-1 : Int32)))
else
  ((xgI tM 12 13 k0 S).bind fun v6 =>
  (fX12_nameOf k0 v6 a1 a2 S).bind fun v7 =>
  (fX12_letter_L58 n a3 v7 S n ((0 : Int32)) v7).bind fun z11 => if a3 < z11 then
  (some (((((v7 >>> ((((8 : Int32)) * ((z11 - ((1 : Int32))) - a3)).toInt64 &&& 63)) &&& ((255 : Int64))).toInt32) - ((97 : Int32))) + ((1 : Int32))))
else
  (some ((0 : Int32)))))))
  else none
theorem kX12_letter {z : Int32} {n : Nat} {k0 : Nat} {a1 : Int32} {a2 : Int32} {a3 : Int32} {S : xSt} (h : fX12_letter n k0 a1 a2 a3 S = some z) : tM.1 k0 = 12 := by
  unfold fX12_letter at h
  exact (xck h).1
set_option maxHeartbeats 4000000 in
theorem tX12_letter (l : Launch) (M : xMg) (A : Nat → Prop) (n : Nat) (k0 : Nat) (a1 : Int32) (a2 : Int32) (a3 : Int32) (S : xSt) (z : Int32) (h : fX12_letter n k0 a1 a2 a3 S = some z) : xMI l yX12_letter cX12_letter 9 (some .int) 2 tM M A [.ref (M.2.1 k0), .int a1, .int a2, .int a3] S z S := by
  refine x_metI (plainFor_of_name (by decide)) tM_ok (Nat.le_of_ble_eq_true rfl) (fun Γ hA hnL hl hr o => ?_)
  subst hA; subst hl
  have o : xOk Γ tM M 2 cX12_letter RX12 := o
  unfold fX12_letter at h
  obtain ⟨hk0, h⟩ := xck h
  refine x_to (l := [(0, .ref (M.2.1 k0)), (1, .int a1), (2, .int a2), (3, .int a3)]) ⟨rfl, rfl, rfl, rfl, trivial⟩ ?_
  have hn5 : 5 < Γ.2.2.2 := by omega
  have hn6 : 6 < Γ.2.2.2 := by omega
  have hn8 : 8 < Γ.2.2.2 := by omega
  refine x_iload_n (pc := 0) o dX12_letter_0 rfl rfl ?_
  refine x_iconst (pc := 1) o dX12_letter_1 ic_0 ?_
  refine x_iconst (pc := 2) o dX12_letter_2 ic_3 ?_
  obtain ⟨v1, hv1, h⟩ := xbs h
  refine x_statI (pc := 3) (As := [.int a1, .int ((0 : Int32)), .int ((3 : Int32))]) (rest := []) o (tX12_is _ M _ a1 ((0 : Int32)) ((3 : Int32)) S v1 hv1) eX12_is mX12_379 (by decide) rfl rfl (Nat.le_of_ble_eq_true rfl) dX12_letter_3 ?_
  refine x_if_eq (pc := 6) (tgt := 37) o dX12_letter_6 (by decide) (fun c15 => ?_) (fun c15 => ?_)
  · have h := xit h c15
    refine x_iconst (pc := 37) o dX12_letter_37 ic_m1 ?_
    exact x_ireturn (pc := 38) o hr dX12_letter_38 (Option.some.inj h) rfl
  · have h := xif h c15
    refine x_iload_n (pc := 9) o dX12_letter_9 rfl rfl ?_
    refine x_iconst (pc := 10) o dX12_letter_10 ic_0 ?_
    refine x_aload_n (pc := 11) o dX12_letter_11 rfl rfl ?_
    refine x_aload_n (pc := 12) o dX12_letter_12 rfl rfl ?_
    obtain ⟨v2, hv2, h⟩ := xbs h
    refine gX12_51 (pc := 13) o dX12_letter_13 hv2 ?_
    refine x_iload_n (pc := 16) o dX12_letter_16 rfl rfl ?_
    obtain ⟨v3, hv3, h⟩ := xbs h
    refine x_callI (pc := 17) (As := [.int v2, .int a1]) (b := k0) (rest := [.int ((0 : Int32)), .int a2]) o (tX12_manyOf _ M _ k0 v2 a1 S v3 hv3) eX12_manyOf mX12_371 clX12 (kX12_manyOf hv3) (by decide) rfl rfl (Nat.le_of_ble_eq_true rfl) dX12_letter_17 ?_
    refine x_iconst (pc := 20) o dX12_letter_20 ic_1 ?_
    refine x_isub (pc := 21) o dX12_letter_21 ?_
    obtain ⟨v4, hv4, h⟩ := xbs h
    refine x_statI (pc := 22) (As := [.int a2, .int ((0 : Int32)), .int (v3 - ((1 : Int32)))]) (rest := []) o (tX12_is _ M _ a2 ((0 : Int32)) (v3 - ((1 : Int32))) S v4 hv4) eX12_is mX12_379 (by decide) rfl rfl (Nat.le_of_ble_eq_true rfl) dX12_letter_22 ?_
    refine x_if_eq (pc := 25) (tgt := 37) o dX12_letter_25 (by decide) (fun c14 => ?_) (fun c14 => ?_)
    · have h := xit h c14
      refine x_iconst (pc := 37) o dX12_letter_37 ic_m1 ?_
      exact x_ireturn (pc := 38) o hr dX12_letter_38 (Option.some.inj h) rfl
    · have h := xif h c14
      refine x_iload_n (pc := 28) o dX12_letter_28 rfl rfl ?_
      refine x_iconst (pc := 29) o dX12_letter_29 ic_0 ?_
      refine x_iconst (pc := 30) o dX12_letter_30 ic_5 ?_
      obtain ⟨v5, hv5, h⟩ := xbs h
      refine x_statI (pc := 31) (As := [.int a3, .int ((0 : Int32)), .int ((5 : Int32))]) (rest := []) o (tX12_is _ M _ a3 ((0 : Int32)) ((5 : Int32)) S v5 hv5) eX12_is mX12_379 (by decide) rfl rfl (Nat.le_of_ble_eq_true rfl) dX12_letter_31 ?_
      refine x_if_ne (pc := 34) (tgt := 39) o dX12_letter_34 (by decide) (fun c13 => ?_) (fun c13 => ?_)
      · have h := xif h c13
        refine x_aload_n (pc := 39) o dX12_letter_39 rfl rfl ?_
        refine x_aload_n (pc := 40) o dX12_letter_40 rfl rfl ?_
        obtain ⟨v6, hv6, h⟩ := xbs h
        refine gX12_51 (pc := 41) o dX12_letter_41 hv6 ?_
        refine x_iload_n (pc := 44) o dX12_letter_44 rfl rfl ?_
        refine x_iload_n (pc := 45) o dX12_letter_45 rfl rfl ?_
        obtain ⟨v7, hv7, h⟩ := xbs h
        refine x_callL (pc := 46) (As := [.int v6, .int a1, .int a2]) (b := k0) (rest := []) o (tX12_nameOf _ M _ k0 v6 a1 a2 S v7 hv7) eX12_nameOf mX12_375 clX12 (kX12_nameOf hv7) (by decide) rfl rfl (Nat.le_of_ble_eq_true rfl) dX12_letter_46 ?_
        refine x_lstore (pc := 49) o dX12_letter_49 hn5 ?_
        refine x_iconst (pc := 51) o dX12_letter_51 ic_0 ?_
        refine x_istore (pc := 52) o dX12_letter_52 hn6 ?_
        refine x_lload (pc := 54) o dX12_letter_54 rfl ?_
        refine x_lstore (pc := 56) o dX12_letter_56 hn8 ?_
        obtain ⟨z11, hz11, h⟩ := xbs h
        refine x_to (l := [(3, .int a3), (4, .long v7), (6, .int ((0 : Int32))), (7, .long v7)]) ⟨rfl, rfl, rfl, rfl, trivial⟩ ?_
        refine tX12_letter_L58 o hnL n a3 v7 S z11 ?_ n ((0 : Int32)) v7 hz11
        refine x_iload_n (pc := 78) o dX12_letter_78 rfl rfl ?_
        refine x_iload (pc := 79) o dX12_letter_79 rfl ?_
        refine x_icmp_lt (pc := 81) (tgt := 88) o dX12_letter_81 (by decide) (fun c12 => ?_) (fun c12 => ?_)
        · have h := xit h c12
          refine x_lload (pc := 88) o dX12_letter_88 rfl ?_
          refine x_bipush (pc := 90) o dX12_letter_90 bp_8 ?_
          refine x_iload (pc := 92) o dX12_letter_92 rfl ?_
          refine x_iconst (pc := 94) o dX12_letter_94 ic_1 ?_
          refine x_isub (pc := 95) o dX12_letter_95 ?_
          refine x_iload_n (pc := 96) o dX12_letter_96 rfl rfl ?_
          refine x_isub (pc := 97) o dX12_letter_97 ?_
          refine x_imul (pc := 98) o dX12_letter_98 ?_
          refine x_lshr (pc := 99) o dX12_letter_99 ?_
          refine x_ldc2 (pc := 100) o kcX12_578 dX12_letter_100 ?_
          refine x_land (pc := 103) o dX12_letter_103 ?_
          refine x_l2i (pc := 104) o dX12_letter_104 ?_
          refine x_bipush (pc := 105) o dX12_letter_105 bp_97 ?_
          refine x_isub (pc := 107) o dX12_letter_107 ?_
          refine x_iconst (pc := 108) o dX12_letter_108 ic_1 ?_
          refine x_iadd (pc := 109) o dX12_letter_109 ?_
          exact x_ireturn (pc := 110) o hr dX12_letter_110 (Option.some.inj h) rfl
        · have h := xif h c12
          refine x_iconst (pc := 84) o dX12_letter_84 ic_0 ?_
          refine x_goto (pc := 85) (tgt := 110) o dX12_letter_85 (by decide) ?_
          exact x_ireturn (pc := 110) o hr dX12_letter_110 (Option.some.inj h) rfl
      · have h := xit h c13
        refine x_iconst (pc := 37) o dX12_letter_37 ic_m1 ?_
        exact x_ireturn (pc := 38) o hr dX12_letter_38 (Option.some.inj h) rfl
def fX12_kind_L74b (n : Nat) (k0 : Nat) (a1 : Int32) (S : xSt) (rec : Int32 → Int32 → Option (Int32)) (a4 : Int32) (a5 : Int32) : Option (Int32) :=
  (xgF tM 12 17 k0 S).bind fun r8 =>
  (xgI tM 12 13 k0 S).bind fun v9 =>
  (xal tM r8 v9 S).bind fun v10 =>
  if v10 ≤ a5 then
  (some a4)
else
  ((fX12_kindOfTool k0 a5 S).bind fun v11 =>
  if v11 = a1 then
  ((some (a4 ||| (((1 : Int32)) <<< (a5 &&& 31)))).bind fun v14 =>
  (some (a5 + (1 : Int32))).bind fun v15 =>
  rec v14 v15)
else
  ((some (a4 ||| ((0 : Int32)))).bind fun v12 =>
  (some (a5 + (1 : Int32))).bind fun v13 =>
  rec v12 v13))
def fX12_kind_L74 (n : Nat) (k0 : Nat) (a1 : Int32) (S : xSt) : Nat → Int32 → Int32 → Option (Int32)
  | 0 => fun _ _ => none
  | q + 1 => fX12_kind_L74b n k0 a1 S (fX12_kind_L74 n k0 a1 S q)
set_option maxHeartbeats 4000000 in
theorem tX12_kind_L74b {Γ : xGm} {M : xMg} (o : xOk Γ tM M 3 cX12_kind RX12) (hnL : Γ.2.2.2 = 6) {rec : Int32 → Int32 → Option (Int32)} (n : Nat) (k0 : Nat) (a1 : Int32) (S : xSt) (a4 : Int32) (a5 : Int32) (z : (Int32)) (hrec : ∀ (a4 : Int32) (a5 : Int32), rec a4 a5 = some z → xAt Γ tM M 74 (xlv [(0, .ref (M.2.1 k0)), (1, .int a1), (4, .int a4), (5, .int a5)]) [] S) (K : xAt Γ tM M 117 (xlv [(4, .int z)]) [] S) (h : fX12_kind_L74b n k0 a1 S rec a4 a5 = some z) : xAt Γ tM M 74 (xlv [(0, .ref (M.2.1 k0)), (1, .int a1), (4, .int a4), (5, .int a5)]) [] S := by
  have hn4 : 4 < Γ.2.2.2 := by omega
  have hn5 : 5 < Γ.2.2.2 := by omega
  unfold fX12_kind_L74b at h
  refine x_iload (pc := 74) o dX12_kind_74 rfl ?_
  refine x_aload_n (pc := 76) o dX12_kind_76 rfl rfl ?_
  obtain ⟨r8, hr8, h⟩ := xbs h
  refine gX12_63 (pc := 77) o dX12_kind_77 hr8 ?_
  refine x_aload_n (pc := 80) o dX12_kind_80 rfl rfl ?_
  obtain ⟨v9, hv9, h⟩ := xbs h
  refine gX12_51 (pc := 81) o dX12_kind_81 hv9 ?_
  obtain ⟨v10, hv10, h⟩ := xbs h
  refine x_iaload (pc := 84) o dX12_kind_84 hv10 ?_
  refine x_icmp_ge (pc := 85) (tgt := 117) o dX12_kind_85 (by decide) (fun c17 => ?_) (fun c17 => ?_)
  · have h := xit h c17
    refine x_to (l := [(4, .int a4)]) ⟨rfl, trivial⟩ ?_
    cases Option.some.inj h
    exact K
  · have h := xif h c17
    refine x_iload (pc := 88) o dX12_kind_88 rfl ?_
    refine x_aload_n (pc := 90) o dX12_kind_90 rfl rfl ?_
    refine x_iload (pc := 91) o dX12_kind_91 rfl ?_
    obtain ⟨v11, hv11, h⟩ := xbs h
    refine x_callI (pc := 93) (As := [.int a5]) (b := k0) (rest := [.int a4]) o (tX12_kindOfTool _ M _ k0 a5 S v11 hv11) eX12_kindOfTool mX12_524 clX12 (kX12_kindOfTool hv11) (by decide) rfl rfl (Nat.le_of_ble_eq_true rfl) dX12_kind_93 ?_
    refine x_iload_n (pc := 96) o dX12_kind_96 rfl rfl ?_
    refine x_icmp_ne (pc := 97) (tgt := 107) o dX12_kind_97 (by decide) (fun c16 => ?_) (fun c16 => ?_)
    · have h := xif h c16
      refine x_iconst (pc := 107) o dX12_kind_107 ic_0 ?_
      refine x_ior (pc := 108) o dX12_kind_108 ?_
      obtain ⟨v12, hv12, h⟩ := xbs h
      refine x_istoreE (pc := 109) o dX12_kind_109 hn4 hv12 ?_
      obtain ⟨v13, hv13, h⟩ := xbs h
      refine x_iincE (pc := 111) o dX12_kind_111 rfl ic_1 hn5 hv13 ?_
      refine x_goto (pc := 114) (tgt := 74) o dX12_kind_114 (by decide) ?_
      refine x_to (l := [(0, .ref (M.2.1 k0)), (1, .int a1), (4, .int v12), (5, .int v13)]) ⟨rfl, rfl, rfl, rfl, trivial⟩ ?_
      exact hrec v12 v13 h
    · have h := xit h c16
      refine x_iconst (pc := 100) o dX12_kind_100 ic_1 ?_
      refine x_iload (pc := 101) o dX12_kind_101 rfl ?_
      refine x_ishl (pc := 103) o dX12_kind_103 ?_
      refine x_goto (pc := 104) (tgt := 108) o dX12_kind_104 (by decide) ?_
      refine x_ior (pc := 108) o dX12_kind_108 ?_
      obtain ⟨v14, hv14, h⟩ := xbs h
      refine x_istoreE (pc := 109) o dX12_kind_109 hn4 hv14 ?_
      obtain ⟨v15, hv15, h⟩ := xbs h
      refine x_iincE (pc := 111) o dX12_kind_111 rfl ic_1 hn5 hv15 ?_
      refine x_goto (pc := 114) (tgt := 74) o dX12_kind_114 (by decide) ?_
      refine x_to (l := [(0, .ref (M.2.1 k0)), (1, .int a1), (4, .int v14), (5, .int v15)]) ⟨rfl, rfl, rfl, rfl, trivial⟩ ?_
      exact hrec v14 v15 h
theorem tX12_kind_L74 {Γ : xGm} {M : xMg} (o : xOk Γ tM M 3 cX12_kind RX12) (hnL : Γ.2.2.2 = 6) (n : Nat) (k0 : Nat) (a1 : Int32) (S : xSt) (z : (Int32)) (K : xAt Γ tM M 117 (xlv [(4, .int z)]) [] S) : ∀ (q : Nat) (a4 : Int32) (a5 : Int32), fX12_kind_L74 n k0 a1 S q a4 a5 = some z → xAt Γ tM M 74 (xlv [(0, .ref (M.2.1 k0)), (1, .int a1), (4, .int a4), (5, .int a5)]) [] S := by
  intro q
  induction q with
  | zero => intro a4 a5 h; cases h
  | succ q ih => intro a4 a5 h; exact tX12_kind_L74b o hnL n k0 a1 S a4 a5 z ih K h
def fX12_kind (n : Nat) (k0 : Nat) (a1 : Int32) (a2 : Int32) (S : xSt) : Option (Int32) :=
  if tM.1 k0 = 12 then
  ((fX12_isKind k0 a1 S).bind fun v1 =>
  if v1 = 0 then
  (some ((-1 : Int32)))
else
  ((xgF tM 12 16 k0 S).bind fun r2 =>
  (xgI tM 12 13 k0 S).bind fun v3 =>
  (xal tM r2 ((((6 : Int32)) * v3) + a1) S).bind fun v4 =>
  if a2 = (0 : Int32) then
  ((fX12_restOf k0 a1 S).bind fun v5 =>
  some v5)
else if a2 = (1 : Int32) then
  (some v4)
else if a2 = (2 : Int32) then
  ((fX12_kind_L74 n k0 a1 S n ((0 : Int32)) ((0 : Int32))).bind fun z18 => some z18)
else if a2 = (3 : Int32) then
  ((xgF tM 12 54 k0 S).bind fun r20 =>
  (xal tM r20 ((0 : Int32)) S).bind fun v21 =>
  (fX12_isRestDay k0 a1 v21 S).bind fun v22 =>
  if v22 = 0 then
  (some ((0 : Int32)))
else
  (some ((1 : Int32))))
else if a2 = (4 : Int32) then
  ((fX12_restOf k0 a1 S).bind fun v25 =>
  (xgF tM 12 54 k0 S).bind fun r26 =>
  (xal tM r26 ((0 : Int32)) S).bind fun v27 =>
  if v4 = 0 then none else
  if v4 = 0 then none else
  some (((v25 + v4) - (v27 - v27 / v4 * v4)) - ((v25 + v4) - (v27 - v27 / v4 * v4)) / v4 * v4))
else 
  (some ((-1 : Int32)))))
  else none
theorem kX12_kind {z : Int32} {n : Nat} {k0 : Nat} {a1 : Int32} {a2 : Int32} {S : xSt} (h : fX12_kind n k0 a1 a2 S = some z) : tM.1 k0 = 12 := by
  unfold fX12_kind at h
  exact (xck h).1
set_option maxHeartbeats 4000000 in
theorem tX12_kind (l : Launch) (M : xMg) (A : Nat → Prop) (n : Nat) (k0 : Nat) (a1 : Int32) (a2 : Int32) (S : xSt) (z : Int32) (h : fX12_kind n k0 a1 a2 S = some z) : xMI l yX12_kind cX12_kind 6 (some .int) 3 tM M A [.ref (M.2.1 k0), .int a1, .int a2] S z S := by
  refine x_metI (plainFor_of_name (by decide)) tM_ok (Nat.le_of_ble_eq_true rfl) (fun Γ hA hnL hl hr o => ?_)
  subst hA; subst hl
  have o : xOk Γ tM M 3 cX12_kind RX12 := o
  unfold fX12_kind at h
  obtain ⟨hk0, h⟩ := xck h
  refine x_to (l := [(0, .ref (M.2.1 k0)), (1, .int a1), (2, .int a2)]) ⟨rfl, rfl, rfl, trivial⟩ ?_
  have hn3 : 3 < Γ.2.2.2 := by omega
  have hn4 : 4 < Γ.2.2.2 := by omega
  have hn5 : 5 < Γ.2.2.2 := by omega
  refine x_aload_n (pc := 0) o dX12_kind_0 rfl rfl ?_
  refine x_iload_n (pc := 1) o dX12_kind_1 rfl rfl ?_
  obtain ⟨v1, hv1, h⟩ := xbs h
  refine x_callI (pc := 2) (As := [.int a1]) (b := k0) (rest := []) o (tX12_isKind _ M _ k0 a1 S v1 hv1) eX12_isKind mX12_580 clX12 (kX12_isKind hv1) (by decide) rfl rfl (Nat.le_of_ble_eq_true rfl) dX12_kind_2 ?_
  refine x_if_ne (pc := 5) (tgt := 10) o dX12_kind_5 (by decide) (fun c29 => ?_) (fun c29 => ?_)
  · have h := xif h c29
    refine x_aload_n (pc := 10) o dX12_kind_10 rfl rfl ?_
    obtain ⟨r2, hr2, h⟩ := xbs h
    refine gX12_60 (pc := 11) o dX12_kind_11 hr2 ?_
    refine x_bipush (pc := 14) o dX12_kind_14 bp_6 ?_
    refine x_aload_n (pc := 16) o dX12_kind_16 rfl rfl ?_
    obtain ⟨v3, hv3, h⟩ := xbs h
    refine gX12_51 (pc := 17) o dX12_kind_17 hv3 ?_
    refine x_imul (pc := 20) o dX12_kind_20 ?_
    refine x_iload_n (pc := 21) o dX12_kind_21 rfl rfl ?_
    refine x_iadd (pc := 22) o dX12_kind_22 ?_
    obtain ⟨v4, hv4, h⟩ := xbs h
    refine x_iaload (pc := 23) o dX12_kind_23 hv4 ?_
    refine x_istore_n (pc := 24) o dX12_kind_24 rfl hn3 ?_
    refine x_iload_n (pc := 25) o dX12_kind_25 rfl rfl ?_
    by_cases c6 : a2 = (0 : Int32)
    · have h := xit h c6
      refine x_tableIn (pc := 26) (tgt := 60) o dX12_kind_26 (by rw [c6]; decide) (by rw [c6]; decide) (by rw [c6]; rfl) (by decide) ?_
      refine x_aload_n (pc := 60) o dX12_kind_60 rfl rfl ?_
      refine x_iload_n (pc := 61) o dX12_kind_61 rfl rfl ?_
      obtain ⟨v5, hv5, h⟩ := xbs h
      refine x_callI (pc := 62) (As := [.int a1]) (b := k0) (rest := []) o (tX12_restOf _ M _ k0 a1 S v5 hv5) eX12_restOf mX12_512 clX12 (kX12_restOf hv5) (by decide) rfl rfl (Nat.le_of_ble_eq_true rfl) dX12_kind_62 ?_
      exact x_ireturn (pc := 65) o hr dX12_kind_65 (Option.some.inj h) rfl
    have h := xif h c6
    by_cases c7 : a2 = (1 : Int32)
    · have h := xit h c7
      refine x_tableIn (pc := 26) (tgt := 66) o dX12_kind_26 (by rw [c7]; decide) (by rw [c7]; decide) (by rw [c7]; rfl) (by decide) ?_
      refine x_iload_n (pc := 66) o dX12_kind_66 rfl rfl ?_
      exact x_ireturn (pc := 67) o hr dX12_kind_67 (Option.some.inj h) rfl
    have h := xif h c7
    by_cases c19 : a2 = (2 : Int32)
    · have h := xit h c19
      refine x_tableIn (pc := 26) (tgt := 68) o dX12_kind_26 (by rw [c19]; decide) (by rw [c19]; decide) (by rw [c19]; rfl) (by decide) ?_
      refine x_iconst (pc := 68) o dX12_kind_68 ic_0 ?_
      refine x_istore (pc := 69) o dX12_kind_69 hn4 ?_
      refine x_iconst (pc := 71) o dX12_kind_71 ic_0 ?_
      refine x_istore (pc := 72) o dX12_kind_72 hn5 ?_
      obtain ⟨z18, hz18, h⟩ := xbs h
      refine x_to (l := [(0, .ref (M.2.1 k0)), (1, .int a1), (4, .int ((0 : Int32))), (5, .int ((0 : Int32)))]) ⟨rfl, rfl, rfl, rfl, trivial⟩ ?_
      refine tX12_kind_L74 o hnL n k0 a1 S z18 ?_ n ((0 : Int32)) ((0 : Int32)) hz18
      refine x_iload (pc := 117) o dX12_kind_117 rfl ?_
      exact x_ireturn (pc := 119) o hr dX12_kind_119 (Option.some.inj h) rfl
    have h := xif h c19
    by_cases c24 : a2 = (3 : Int32)
    · have h := xit h c24
      refine x_tableIn (pc := 26) (tgt := 120) o dX12_kind_26 (by rw [c24]; decide) (by rw [c24]; decide) (by rw [c24]; rfl) (by decide) ?_
      refine x_aload_n (pc := 120) o dX12_kind_120 rfl rfl ?_
      refine x_iload_n (pc := 121) o dX12_kind_121 rfl rfl ?_
      refine x_aload_n (pc := 122) o dX12_kind_122 rfl rfl ?_
      obtain ⟨r20, hr20, h⟩ := xbs h
      refine gX12_177 (pc := 123) o dX12_kind_123 hr20 ?_
      refine x_iconst (pc := 126) o dX12_kind_126 ic_0 ?_
      obtain ⟨v21, hv21, h⟩ := xbs h
      refine x_iaload (pc := 127) o dX12_kind_127 hv21 ?_
      obtain ⟨v22, hv22, h⟩ := xbs h
      refine x_callI (pc := 128) (As := [.int a1, .int v21]) (b := k0) (rest := []) o (tX12_isRestDay _ M _ k0 a1 v21 S v22 hv22) eX12_isRestDay mX12_527 clX12 (kX12_isRestDay hv22) (by decide) rfl rfl (Nat.le_of_ble_eq_true rfl) dX12_kind_128 ?_
      refine x_if_eq (pc := 131) (tgt := 138) o dX12_kind_131 (by decide) (fun c23 => ?_) (fun c23 => ?_)
      · have h := xit h c23
        refine x_iconst (pc := 138) o dX12_kind_138 ic_0 ?_
        exact x_ireturn (pc := 139) o hr dX12_kind_139 (Option.some.inj h) rfl
      · have h := xif h c23
        refine x_iconst (pc := 134) o dX12_kind_134 ic_1 ?_
        refine x_goto (pc := 135) (tgt := 139) o dX12_kind_135 (by decide) ?_
        exact x_ireturn (pc := 139) o hr dX12_kind_139 (Option.some.inj h) rfl
    have h := xif h c24
    by_cases c28 : a2 = (4 : Int32)
    · have h := xit h c28
      refine x_tableIn (pc := 26) (tgt := 140) o dX12_kind_26 (by rw [c28]; decide) (by rw [c28]; decide) (by rw [c28]; rfl) (by decide) ?_
      refine x_aload_n (pc := 140) o dX12_kind_140 rfl rfl ?_
      refine x_iload_n (pc := 141) o dX12_kind_141 rfl rfl ?_
      obtain ⟨v25, hv25, h⟩ := xbs h
      refine x_callI (pc := 142) (As := [.int a1]) (b := k0) (rest := []) o (tX12_restOf _ M _ k0 a1 S v25 hv25) eX12_restOf mX12_512 clX12 (kX12_restOf hv25) (by decide) rfl rfl (Nat.le_of_ble_eq_true rfl) dX12_kind_142 ?_
      refine x_iload_n (pc := 145) o dX12_kind_145 rfl rfl ?_
      refine x_iadd (pc := 146) o dX12_kind_146 ?_
      refine x_aload_n (pc := 147) o dX12_kind_147 rfl rfl ?_
      obtain ⟨r26, hr26, h⟩ := xbs h
      refine gX12_177 (pc := 148) o dX12_kind_148 hr26 ?_
      refine x_iconst (pc := 151) o dX12_kind_151 ic_0 ?_
      obtain ⟨v27, hv27, h⟩ := xbs h
      refine x_iaload (pc := 152) o dX12_kind_152 hv27 ?_
      refine x_iload_n (pc := 153) o dX12_kind_153 rfl rfl ?_
      obtain ⟨hq, h⟩ := xcn h
      refine x_irem (pc := 154) o dX12_kind_154 hq ?_
      refine x_isub (pc := 155) o dX12_kind_155 ?_
      refine x_iload_n (pc := 156) o dX12_kind_156 rfl rfl ?_
      obtain ⟨hq, h⟩ := xcn h
      refine x_irem (pc := 157) o dX12_kind_157 hq ?_
      exact x_ireturn (pc := 158) o hr dX12_kind_158 (Option.some.inj h) rfl
    have h := xif h c28
    refine x_tableOut (pc := 26) (tgt := 159) o dX12_kind_26 (by have := lv_neT c6 (a := 0) (by decide); have := lv_neT c7 (a := 1) (by decide); have := lv_neT c19 (a := 2) (by decide); have := lv_neT c24 (a := 3) (by decide); have := lv_neT c28 (a := 4) (by decide); omega) (by decide) ?_
    refine x_iconst (pc := 159) o dX12_kind_159 ic_m1 ?_
    exact x_ireturn (pc := 160) o hr dX12_kind_160 (Option.some.inj h) rfl
  · have h := xit h c29
    refine x_iconst (pc := 8) o dX12_kind_8 ic_m1 ?_
    exact x_ireturn (pc := 9) o hr dX12_kind_9 (Option.some.inj h) rfl
def fX12_tool (k0 : Nat) (a1 : Int32) (a2 : Int32) (S : xSt) : Option (Int32) :=
  if tM.1 k0 = 12 then
  ((fX12_isTool k0 a1 S).bind fun v1 =>
  if v1 = 0 then
  (some ((-1 : Int32)))
else
  (if a2 = 0 then
  ((fX12_kindOfTool k0 a1 S).bind fun v11 =>
  some v11)
else
  (if a2 = ((1 : Int32)) then
  ((xgF tM 12 56 k0 S).bind fun r8 =>
  (xal tM r8 a1 S).bind fun v9 =>
  some v9)
else
  (if a2 = ((2 : Int32)) then
  ((xgF tM 12 57 k0 S).bind fun r5 =>
  (xal tM r5 ((0 : Int32)) S).bind fun v6 =>
  some ((v6 >>> (a1 &&& 31)) &&& ((1 : Int32))))
else
  (if a2 = ((3 : Int32)) then
  ((xgF tM 12 58 k0 S).bind fun r2 =>
  (xal tM r2 ((0 : Int32)) S).bind fun v3 =>
  some ((v3 >>> (a1 &&& 31)) &&& ((1 : Int32))))
else
  (some ((-1 : Int32))))))))
  else none
theorem kX12_tool {z : Int32} {k0 : Nat} {a1 : Int32} {a2 : Int32} {S : xSt} (h : fX12_tool k0 a1 a2 S = some z) : tM.1 k0 = 12 := by
  unfold fX12_tool at h
  exact (xck h).1
set_option maxHeartbeats 4000000 in
theorem tX12_tool (l : Launch) (M : xMg) (A : Nat → Prop) (k0 : Nat) (a1 : Int32) (a2 : Int32) (S : xSt) (z : Int32) (h : fX12_tool k0 a1 a2 S = some z) : xMI l yX12_tool cX12_tool 3 (some .int) 2 tM M A [.ref (M.2.1 k0), .int a1, .int a2] S z S := by
  refine x_metI (plainFor_of_name (by decide)) tM_ok (Nat.le_of_ble_eq_true rfl) (fun Γ hA hnL hl hr o => ?_)
  subst hA; subst hl
  have o : xOk Γ tM M 2 cX12_tool RX12 := o
  unfold fX12_tool at h
  obtain ⟨hk0, h⟩ := xck h
  refine x_to (l := [(0, .ref (M.2.1 k0)), (1, .int a1), (2, .int a2)]) ⟨rfl, rfl, rfl, trivial⟩ ?_
  refine x_aload_n (pc := 0) o dX12_tool_0 rfl rfl ?_
  refine x_iload_n (pc := 1) o dX12_tool_1 rfl rfl ?_
  obtain ⟨v1, hv1, h⟩ := xbs h
  refine x_callI (pc := 2) (As := [.int a1]) (b := k0) (rest := []) o (tX12_isTool _ M _ k0 a1 S v1 hv1) eX12_isTool mX12_583 clX12 (kX12_isTool hv1) (by decide) rfl rfl (Nat.le_of_ble_eq_true rfl) dX12_tool_2 ?_
  refine x_if_ne (pc := 5) (tgt := 10) o dX12_tool_5 (by decide) (fun c13 => ?_) (fun c13 => ?_)
  · have h := xif h c13
    refine x_iload_n (pc := 10) o dX12_tool_10 rfl rfl ?_
    refine x_if_ne (pc := 11) (tgt := 22) o dX12_tool_11 (by decide) (fun c12 => ?_) (fun c12 => ?_)
    · have h := xif h c12
      refine x_iload_n (pc := 22) o dX12_tool_22 rfl rfl ?_
      refine x_iconst (pc := 23) o dX12_tool_23 ic_1 ?_
      refine x_icmp_ne (pc := 24) (tgt := 36) o dX12_tool_24 (by decide) (fun c10 => ?_) (fun c10 => ?_)
      · have h := xif h c10
        refine x_iload_n (pc := 36) o dX12_tool_36 rfl rfl ?_
        refine x_iconst (pc := 37) o dX12_tool_37 ic_2 ?_
        refine x_icmp_ne (pc := 38) (tgt := 54) o dX12_tool_38 (by decide) (fun c7 => ?_) (fun c7 => ?_)
        · have h := xif h c7
          refine x_iload_n (pc := 54) o dX12_tool_54 rfl rfl ?_
          refine x_iconst (pc := 55) o dX12_tool_55 ic_3 ?_
          refine x_icmp_ne (pc := 56) (tgt := 72) o dX12_tool_56 (by decide) (fun c4 => ?_) (fun c4 => ?_)
          · have h := xif h c4
            refine x_iconst (pc := 72) o dX12_tool_72 ic_m1 ?_
            exact x_ireturn (pc := 73) o hr dX12_tool_73 (Option.some.inj h) rfl
          · have h := xit h c4
            refine x_aload_n (pc := 59) o dX12_tool_59 rfl rfl ?_
            obtain ⟨r2, hr2, h⟩ := xbs h
            refine gX12_189 (pc := 60) o dX12_tool_60 hr2 ?_
            refine x_iconst (pc := 63) o dX12_tool_63 ic_0 ?_
            obtain ⟨v3, hv3, h⟩ := xbs h
            refine x_iaload (pc := 64) o dX12_tool_64 hv3 ?_
            refine x_iload_n (pc := 65) o dX12_tool_65 rfl rfl ?_
            refine x_ishr (pc := 66) o dX12_tool_66 ?_
            refine x_iconst (pc := 67) o dX12_tool_67 ic_1 ?_
            refine x_iand (pc := 68) o dX12_tool_68 ?_
            refine x_goto (pc := 69) (tgt := 73) o dX12_tool_69 (by decide) ?_
            exact x_ireturn (pc := 73) o hr dX12_tool_73 (Option.some.inj h) rfl
        · have h := xit h c7
          refine x_aload_n (pc := 41) o dX12_tool_41 rfl rfl ?_
          obtain ⟨r5, hr5, h⟩ := xbs h
          refine gX12_186 (pc := 42) o dX12_tool_42 hr5 ?_
          refine x_iconst (pc := 45) o dX12_tool_45 ic_0 ?_
          obtain ⟨v6, hv6, h⟩ := xbs h
          refine x_iaload (pc := 46) o dX12_tool_46 hv6 ?_
          refine x_iload_n (pc := 47) o dX12_tool_47 rfl rfl ?_
          refine x_ishr (pc := 48) o dX12_tool_48 ?_
          refine x_iconst (pc := 49) o dX12_tool_49 ic_1 ?_
          refine x_iand (pc := 50) o dX12_tool_50 ?_
          refine x_goto (pc := 51) (tgt := 73) o dX12_tool_51 (by decide) ?_
          exact x_ireturn (pc := 73) o hr dX12_tool_73 (Option.some.inj h) rfl
      · have h := xit h c10
        refine x_aload_n (pc := 27) o dX12_tool_27 rfl rfl ?_
        obtain ⟨r8, hr8, h⟩ := xbs h
        refine gX12_183 (pc := 28) o dX12_tool_28 hr8 ?_
        refine x_iload_n (pc := 31) o dX12_tool_31 rfl rfl ?_
        obtain ⟨v9, hv9, h⟩ := xbs h
        refine x_iaload (pc := 32) o dX12_tool_32 hv9 ?_
        refine x_goto (pc := 33) (tgt := 73) o dX12_tool_33 (by decide) ?_
        exact x_ireturn (pc := 73) o hr dX12_tool_73 (Option.some.inj h) rfl
    · have h := xit h c12
      refine x_aload_n (pc := 14) o dX12_tool_14 rfl rfl ?_
      refine x_iload_n (pc := 15) o dX12_tool_15 rfl rfl ?_
      obtain ⟨v11, hv11, h⟩ := xbs h
      refine x_callI (pc := 16) (As := [.int a1]) (b := k0) (rest := []) o (tX12_kindOfTool _ M _ k0 a1 S v11 hv11) eX12_kindOfTool mX12_524 clX12 (kX12_kindOfTool hv11) (by decide) rfl rfl (Nat.le_of_ble_eq_true rfl) dX12_tool_16 ?_
      refine x_goto (pc := 19) (tgt := 73) o dX12_tool_19 (by decide) ?_
      exact x_ireturn (pc := 73) o hr dX12_tool_73 (Option.some.inj h) rfl
  · have h := xit h c13
    refine x_iconst (pc := 8) o dX12_tool_8 ic_m1 ?_
    exact x_ireturn (pc := 9) o hr dX12_tool_9 (Option.some.inj h) rfl
def fX12_knows (k0 : Nat) (a1 : Int32) (a2 : Int32) (S : xSt) : Option (Int32) :=
  if tM.1 k0 = 12 then
  ((fX12_isHand k0 a1 S).bind fun v1 =>
  if v1 = 0 then
  (some ((-1 : Int32)))
else
  ((fX12_isTool k0 a2 S).bind fun v2 =>
  if v2 = 0 then
  (some ((-1 : Int32)))
else
  ((fX12_knownIn k0 ((0 : Int32)) a1 a2 S).bind fun v3 =>
  some v3)))
  else none
theorem kX12_knows {z : Int32} {k0 : Nat} {a1 : Int32} {a2 : Int32} {S : xSt} (h : fX12_knows k0 a1 a2 S = some z) : tM.1 k0 = 12 := by
  unfold fX12_knows at h
  exact (xck h).1
set_option maxHeartbeats 4000000 in
theorem tX12_knows (l : Launch) (M : xMg) (A : Nat → Prop) (k0 : Nat) (a1 : Int32) (a2 : Int32) (S : xSt) (z : Int32) (h : fX12_knows k0 a1 a2 S = some z) : xMI l yX12_knows cX12_knows 3 (some .int) 2 tM M A [.ref (M.2.1 k0), .int a1, .int a2] S z S := by
  refine x_metI (plainFor_of_name (by decide)) tM_ok (Nat.le_of_ble_eq_true rfl) (fun Γ hA hnL hl hr o => ?_)
  subst hA; subst hl
  have o : xOk Γ tM M 2 cX12_knows RX12 := o
  unfold fX12_knows at h
  obtain ⟨hk0, h⟩ := xck h
  refine x_to (l := [(0, .ref (M.2.1 k0)), (1, .int a1), (2, .int a2)]) ⟨rfl, rfl, rfl, trivial⟩ ?_
  refine x_aload_n (pc := 0) o dX12_knows_0 rfl rfl ?_
  refine x_iload_n (pc := 1) o dX12_knows_1 rfl rfl ?_
  obtain ⟨v1, hv1, h⟩ := xbs h
  refine x_callI (pc := 2) (As := [.int a1]) (b := k0) (rest := []) o (tX12_isHand _ M _ k0 a1 S v1 hv1) eX12_isHand mX12_586 clX12 (kX12_isHand hv1) (by decide) rfl rfl (Nat.le_of_ble_eq_true rfl) dX12_knows_2 ?_
  refine x_if_eq (pc := 5) (tgt := 26) o dX12_knows_5 (by decide) (fun c5 => ?_) (fun c5 => ?_)
  · have h := xit h c5
    refine x_iconst (pc := 26) o dX12_knows_26 ic_m1 ?_
    exact x_ireturn (pc := 27) o hr dX12_knows_27 (Option.some.inj h) rfl
  · have h := xif h c5
    refine x_aload_n (pc := 8) o dX12_knows_8 rfl rfl ?_
    refine x_iload_n (pc := 9) o dX12_knows_9 rfl rfl ?_
    obtain ⟨v2, hv2, h⟩ := xbs h
    refine x_callI (pc := 10) (As := [.int a2]) (b := k0) (rest := []) o (tX12_isTool _ M _ k0 a2 S v2 hv2) eX12_isTool mX12_583 clX12 (kX12_isTool hv2) (by decide) rfl rfl (Nat.le_of_ble_eq_true rfl) dX12_knows_10 ?_
    refine x_if_eq (pc := 13) (tgt := 26) o dX12_knows_13 (by decide) (fun c4 => ?_) (fun c4 => ?_)
    · have h := xit h c4
      refine x_iconst (pc := 26) o dX12_knows_26 ic_m1 ?_
      exact x_ireturn (pc := 27) o hr dX12_knows_27 (Option.some.inj h) rfl
    · have h := xif h c4
      refine x_aload_n (pc := 16) o dX12_knows_16 rfl rfl ?_
      refine x_iconst (pc := 17) o dX12_knows_17 ic_0 ?_
      refine x_iload_n (pc := 18) o dX12_knows_18 rfl rfl ?_
      refine x_iload_n (pc := 19) o dX12_knows_19 rfl rfl ?_
      obtain ⟨v3, hv3, h⟩ := xbs h
      refine x_callI (pc := 20) (As := [.int ((0 : Int32)), .int a1, .int a2]) (b := k0) (rest := []) o (tX12_knownIn _ M _ k0 ((0 : Int32)) a1 a2 S v3 hv3) eX12_knownIn mX12_530 clX12 (kX12_knownIn hv3) (by decide) rfl rfl (Nat.le_of_ble_eq_true rfl) dX12_knows_20 ?_
      refine x_goto (pc := 23) (tgt := 27) o dX12_knows_23 (by decide) ?_
      exact x_ireturn (pc := 27) o hr dX12_knows_27 (Option.some.inj h) rfl
def fX12_job (k0 : Nat) (a1 : Int32) (a2 : Int32) (S : xSt) : Option (Int32) :=
  if tM.1 k0 = 12 then
  ((fX12_isJob k0 a1 S).bind fun v1 =>
  if v1 = 0 then
  (some ((-1 : Int32)))
else
  ((xgI tM 12 13 k0 S).bind fun v2 =>
  (some (((4 : Int32)) * ((((6 : Int32)) * v2) + a1))).bind fun v3 =>
  if a2 = (0 : Int32) then
  ((xgF tM 12 61 k0 S).bind fun r14 =>
  (xal tM r14 a1 S).bind fun v15 =>
  some v15)
else if a2 = (1 : Int32) then
  ((fX12_stepsOf k0 a1 S).bind fun v17 =>
  some v17)
else if a2 = (2 : Int32) then
  ((fX12_doneIn k0 ((0 : Int32)) a1 S).bind fun v19 =>
  some v19)
else if a2 = (3 : Int32) then
  ((fX12_lateIn k0 ((0 : Int32)) a1 S).bind fun v21 =>
  some v21)
else 
  ((fX12_stepsOf k0 a1 S).bind fun v4 =>
  (fX12_is a2 ((10 : Int32)) (((9 : Int32)) + v4) S).bind fun v5 =>
  if v5 = 0 then
  ((fX12_stepsOf k0 a1 S).bind fun v6 =>
  (fX12_is a2 ((20 : Int32)) (((19 : Int32)) + v6) S).bind fun v7 =>
  if v7 = 0 then
  (some ((-1 : Int32)))
else
  ((xgF tM 12 26 k0 S).bind fun r8 =>
  (xal tM r8 ((v3 + a2) - ((20 : Int32))) S).bind fun v9 =>
  some v9))
else
  ((xgF tM 12 25 k0 S).bind fun r11 =>
  (xal tM r11 ((v3 + a2) - ((10 : Int32))) S).bind fun v12 =>
  some v12))))
  else none
theorem kX12_job {z : Int32} {k0 : Nat} {a1 : Int32} {a2 : Int32} {S : xSt} (h : fX12_job k0 a1 a2 S = some z) : tM.1 k0 = 12 := by
  unfold fX12_job at h
  exact (xck h).1
set_option maxHeartbeats 4000000 in
theorem tX12_job (l : Launch) (M : xMg) (A : Nat → Prop) (k0 : Nat) (a1 : Int32) (a2 : Int32) (S : xSt) (z : Int32) (h : fX12_job k0 a1 a2 S = some z) : xMI l yX12_job cX12_job 4 (some .int) 4 tM M A [.ref (M.2.1 k0), .int a1, .int a2] S z S := by
  refine x_metI (plainFor_of_name (by decide)) tM_ok (Nat.le_of_ble_eq_true rfl) (fun Γ hA hnL hl hr o => ?_)
  subst hA; subst hl
  have o : xOk Γ tM M 4 cX12_job RX12 := o
  unfold fX12_job at h
  obtain ⟨hk0, h⟩ := xck h
  refine x_to (l := [(0, .ref (M.2.1 k0)), (1, .int a1), (2, .int a2)]) ⟨rfl, rfl, rfl, trivial⟩ ?_
  have hn3 : 3 < Γ.2.2.2 := by omega
  refine x_aload_n (pc := 0) o dX12_job_0 rfl rfl ?_
  refine x_iload_n (pc := 1) o dX12_job_1 rfl rfl ?_
  obtain ⟨v1, hv1, h⟩ := xbs h
  refine x_callI (pc := 2) (As := [.int a1]) (b := k0) (rest := []) o (tX12_isJob _ M _ k0 a1 S v1 hv1) eX12_isJob mX12_589 clX12 (kX12_isJob hv1) (by decide) rfl rfl (Nat.le_of_ble_eq_true rfl) dX12_job_2 ?_
  refine x_if_ne (pc := 5) (tgt := 10) o dX12_job_5 (by decide) (fun c23 => ?_) (fun c23 => ?_)
  · have h := xif h c23
    refine x_iconst (pc := 10) o dX12_job_10 ic_4 ?_
    refine x_bipush (pc := 11) o dX12_job_11 bp_6 ?_
    refine x_aload_n (pc := 13) o dX12_job_13 rfl rfl ?_
    obtain ⟨v2, hv2, h⟩ := xbs h
    refine gX12_51 (pc := 14) o dX12_job_14 hv2 ?_
    refine x_imul (pc := 17) o dX12_job_17 ?_
    refine x_iload_n (pc := 18) o dX12_job_18 rfl rfl ?_
    refine x_iadd (pc := 19) o dX12_job_19 ?_
    refine x_imul (pc := 20) o dX12_job_20 ?_
    obtain ⟨v3, hv3, h⟩ := xbs h
    refine x_istore_nE (pc := 21) o dX12_job_21 rfl hn3 hv3 ?_
    refine x_iload_n (pc := 22) o dX12_job_22 rfl rfl ?_
    by_cases c16 : a2 = (0 : Int32)
    · have h := xit h c16
      refine x_tableIn (pc := 23) (tgt := 52) o dX12_job_23 (by rw [c16]; decide) (by rw [c16]; decide) (by rw [c16]; rfl) (by decide) ?_
      refine x_aload_n (pc := 52) o dX12_job_52 rfl rfl ?_
      obtain ⟨r14, hr14, h⟩ := xbs h
      refine gX12_198 (pc := 53) o dX12_job_53 hr14 ?_
      refine x_iload_n (pc := 56) o dX12_job_56 rfl rfl ?_
      obtain ⟨v15, hv15, h⟩ := xbs h
      refine x_iaload (pc := 57) o dX12_job_57 hv15 ?_
      exact x_ireturn (pc := 58) o hr dX12_job_58 (Option.some.inj h) rfl
    have h := xif h c16
    by_cases c18 : a2 = (1 : Int32)
    · have h := xit h c18
      refine x_tableIn (pc := 23) (tgt := 59) o dX12_job_23 (by rw [c18]; decide) (by rw [c18]; decide) (by rw [c18]; rfl) (by decide) ?_
      refine x_aload_n (pc := 59) o dX12_job_59 rfl rfl ?_
      refine x_iload_n (pc := 60) o dX12_job_60 rfl rfl ?_
      obtain ⟨v17, hv17, h⟩ := xbs h
      refine x_callI (pc := 61) (As := [.int a1]) (b := k0) (rest := []) o (tX12_stepsOf _ M _ k0 a1 S v17 hv17) eX12_stepsOf mX12_518 clX12 (kX12_stepsOf hv17) (by decide) rfl rfl (Nat.le_of_ble_eq_true rfl) dX12_job_61 ?_
      exact x_ireturn (pc := 64) o hr dX12_job_64 (Option.some.inj h) rfl
    have h := xif h c18
    by_cases c20 : a2 = (2 : Int32)
    · have h := xit h c20
      refine x_tableIn (pc := 23) (tgt := 65) o dX12_job_23 (by rw [c20]; decide) (by rw [c20]; decide) (by rw [c20]; rfl) (by decide) ?_
      refine x_aload_n (pc := 65) o dX12_job_65 rfl rfl ?_
      refine x_iconst (pc := 66) o dX12_job_66 ic_0 ?_
      refine x_iload_n (pc := 67) o dX12_job_67 rfl rfl ?_
      obtain ⟨v19, hv19, h⟩ := xbs h
      refine x_callI (pc := 68) (As := [.int ((0 : Int32)), .int a1]) (b := k0) (rest := []) o (tX12_doneIn _ M _ k0 ((0 : Int32)) a1 S v19 hv19) eX12_doneIn mX12_515 clX12 (kX12_doneIn hv19) (by decide) rfl rfl (Nat.le_of_ble_eq_true rfl) dX12_job_68 ?_
      exact x_ireturn (pc := 71) o hr dX12_job_71 (Option.some.inj h) rfl
    have h := xif h c20
    by_cases c22 : a2 = (3 : Int32)
    · have h := xit h c22
      refine x_tableIn (pc := 23) (tgt := 72) o dX12_job_23 (by rw [c22]; decide) (by rw [c22]; decide) (by rw [c22]; rfl) (by decide) ?_
      refine x_aload_n (pc := 72) o dX12_job_72 rfl rfl ?_
      refine x_iconst (pc := 73) o dX12_job_73 ic_0 ?_
      refine x_iload_n (pc := 74) o dX12_job_74 rfl rfl ?_
      obtain ⟨v21, hv21, h⟩ := xbs h
      refine x_callI (pc := 75) (As := [.int ((0 : Int32)), .int a1]) (b := k0) (rest := []) o (tX12_lateIn _ M _ k0 ((0 : Int32)) a1 S v21 hv21) eX12_lateIn mX12_537 clX12 (kX12_lateIn hv21) (by decide) rfl rfl (Nat.le_of_ble_eq_true rfl) dX12_job_75 ?_
      exact x_ireturn (pc := 78) o hr dX12_job_78 (Option.some.inj h) rfl
    have h := xif h c22
    refine x_tableOut (pc := 23) (tgt := 79) o dX12_job_23 (by have := lv_neT c16 (a := 0) (by decide); have := lv_neT c18 (a := 1) (by decide); have := lv_neT c20 (a := 2) (by decide); have := lv_neT c22 (a := 3) (by decide); omega) (by decide) ?_
    refine x_iload_n (pc := 79) o dX12_job_79 rfl rfl ?_
    refine x_bipush (pc := 80) o dX12_job_80 bp_10 ?_
    refine x_bipush (pc := 82) o dX12_job_82 bp_9 ?_
    refine x_aload_n (pc := 84) o dX12_job_84 rfl rfl ?_
    refine x_iload_n (pc := 85) o dX12_job_85 rfl rfl ?_
    obtain ⟨v4, hv4, h⟩ := xbs h
    refine x_callI (pc := 86) (As := [.int a1]) (b := k0) (rest := [.int ((9 : Int32)), .int ((10 : Int32)), .int a2]) o (tX12_stepsOf _ M _ k0 a1 S v4 hv4) eX12_stepsOf mX12_518 clX12 (kX12_stepsOf hv4) (by decide) rfl rfl (Nat.le_of_ble_eq_true rfl) dX12_job_86 ?_
    refine x_iadd (pc := 89) o dX12_job_89 ?_
    obtain ⟨v5, hv5, h⟩ := xbs h
    refine x_statI (pc := 90) (As := [.int a2, .int ((10 : Int32)), .int (((9 : Int32)) + v4)]) (rest := []) o (tX12_is _ M _ a2 ((10 : Int32)) (((9 : Int32)) + v4) S v5 hv5) eX12_is mX12_379 (by decide) rfl rfl (Nat.le_of_ble_eq_true rfl) dX12_job_90 ?_
    refine x_if_eq (pc := 93) (tgt := 108) o dX12_job_93 (by decide) (fun c13 => ?_) (fun c13 => ?_)
    · have h := xit h c13
      refine x_iload_n (pc := 108) o dX12_job_108 rfl rfl ?_
      refine x_bipush (pc := 109) o dX12_job_109 bp_20 ?_
      refine x_bipush (pc := 111) o dX12_job_111 bp_19 ?_
      refine x_aload_n (pc := 113) o dX12_job_113 rfl rfl ?_
      refine x_iload_n (pc := 114) o dX12_job_114 rfl rfl ?_
      obtain ⟨v6, hv6, h⟩ := xbs h
      refine x_callI (pc := 115) (As := [.int a1]) (b := k0) (rest := [.int ((19 : Int32)), .int ((20 : Int32)), .int a2]) o (tX12_stepsOf _ M _ k0 a1 S v6 hv6) eX12_stepsOf mX12_518 clX12 (kX12_stepsOf hv6) (by decide) rfl rfl (Nat.le_of_ble_eq_true rfl) dX12_job_115 ?_
      refine x_iadd (pc := 118) o dX12_job_118 ?_
      obtain ⟨v7, hv7, h⟩ := xbs h
      refine x_statI (pc := 119) (As := [.int a2, .int ((20 : Int32)), .int (((19 : Int32)) + v6)]) (rest := []) o (tX12_is _ M _ a2 ((20 : Int32)) (((19 : Int32)) + v6) S v7 hv7) eX12_is mX12_379 (by decide) rfl rfl (Nat.le_of_ble_eq_true rfl) dX12_job_119 ?_
      refine x_if_eq (pc := 122) (tgt := 139) o dX12_job_122 (by decide) (fun c10 => ?_) (fun c10 => ?_)
      · have h := xit h c10
        refine x_iconst (pc := 139) o dX12_job_139 ic_m1 ?_
        exact x_ireturn (pc := 140) o hr dX12_job_140 (Option.some.inj h) rfl
      · have h := xif h c10
        refine x_aload_n (pc := 125) o dX12_job_125 rfl rfl ?_
        obtain ⟨r8, hr8, h⟩ := xbs h
        refine gX12_90 (pc := 126) o dX12_job_126 hr8 ?_
        refine x_iload_n (pc := 129) o dX12_job_129 rfl rfl ?_
        refine x_iload_n (pc := 130) o dX12_job_130 rfl rfl ?_
        refine x_iadd (pc := 131) o dX12_job_131 ?_
        refine x_bipush (pc := 132) o dX12_job_132 bp_20 ?_
        refine x_isub (pc := 134) o dX12_job_134 ?_
        obtain ⟨v9, hv9, h⟩ := xbs h
        refine x_iaload (pc := 135) o dX12_job_135 hv9 ?_
        refine x_goto (pc := 136) (tgt := 140) o dX12_job_136 (by decide) ?_
        exact x_ireturn (pc := 140) o hr dX12_job_140 (Option.some.inj h) rfl
    · have h := xif h c13
      refine x_aload_n (pc := 96) o dX12_job_96 rfl rfl ?_
      obtain ⟨r11, hr11, h⟩ := xbs h
      refine gX12_87 (pc := 97) o dX12_job_97 hr11 ?_
      refine x_iload_n (pc := 100) o dX12_job_100 rfl rfl ?_
      refine x_iload_n (pc := 101) o dX12_job_101 rfl rfl ?_
      refine x_iadd (pc := 102) o dX12_job_102 ?_
      refine x_bipush (pc := 103) o dX12_job_103 bp_10 ?_
      refine x_isub (pc := 105) o dX12_job_105 ?_
      obtain ⟨v12, hv12, h⟩ := xbs h
      refine x_iaload (pc := 106) o dX12_job_106 hv12 ?_
      exact x_ireturn (pc := 107) o hr dX12_job_107 (Option.some.inj h) rfl
  · have h := xit h c23
    refine x_iconst (pc := 8) o dX12_job_8 ic_m1 ?_
    exact x_ireturn (pc := 9) o hr dX12_job_9 (Option.some.inj h) rfl
def fX12_isAhead (k0 : Nat) (a1 : Int32) (a2 : Int32) (a3 : Int32) (S : xSt) : Option (Int32) :=
  if tM.1 k0 = 12 then
  ((fX12_is a1 a2 a3 S).bind fun v1 =>
  if v1 = 0 then
  (some ((0 : Int32)))
else
  ((xgF tM 12 54 k0 S).bind fun r2 =>
  (xal tM r2 ((0 : Int32)) S).bind fun v3 =>
  if (((999 : Int32)) - a1) < v3 then
  (some ((0 : Int32)))
else
  (some ((1 : Int32)))))
  else none
theorem kX12_isAhead {z : Int32} {k0 : Nat} {a1 : Int32} {a2 : Int32} {a3 : Int32} {S : xSt} (h : fX12_isAhead k0 a1 a2 a3 S = some z) : tM.1 k0 = 12 := by
  unfold fX12_isAhead at h
  exact (xck h).1
set_option maxHeartbeats 4000000 in
theorem tX12_isAhead (l : Launch) (M : xMg) (A : Nat → Prop) (k0 : Nat) (a1 : Int32) (a2 : Int32) (a3 : Int32) (S : xSt) (z : Int32) (h : fX12_isAhead k0 a1 a2 a3 S = some z) : xMI l yX12_isAhead cX12_isAhead 4 (some .boolean) 2 tM M A [.ref (M.2.1 k0), .int a1, .int a2, .int a3] S z S := by
  refine x_metI (plainFor_of_name (by decide)) tM_ok (Nat.le_of_ble_eq_true rfl) (fun Γ hA hnL hl hr o => ?_)
  subst hA; subst hl
  have o : xOk Γ tM M 2 cX12_isAhead RX12 := o
  unfold fX12_isAhead at h
  obtain ⟨hk0, h⟩ := xck h
  refine x_to (l := [(0, .ref (M.2.1 k0)), (1, .int a1), (2, .int a2), (3, .int a3)]) ⟨rfl, rfl, rfl, rfl, trivial⟩ ?_
  refine x_iload_n (pc := 0) o dX12_isAhead_0 rfl rfl ?_
  refine x_iload_n (pc := 1) o dX12_isAhead_1 rfl rfl ?_
  refine x_iload_n (pc := 2) o dX12_isAhead_2 rfl rfl ?_
  obtain ⟨v1, hv1, h⟩ := xbs h
  refine x_statI (pc := 3) (As := [.int a1, .int a2, .int a3]) (rest := []) o (tX12_is _ M _ a1 a2 a3 S v1 hv1) eX12_is mX12_379 (by decide) rfl rfl (Nat.le_of_ble_eq_true rfl) dX12_isAhead_3 ?_
  refine x_if_eq (pc := 6) (tgt := 27) o dX12_isAhead_6 (by decide) (fun c5 => ?_) (fun c5 => ?_)
  · have h := xit h c5
    refine x_iconst (pc := 27) o dX12_isAhead_27 ic_0 ?_
    exact x_zreturn (pc := 28) o hr dX12_isAhead_28 (by decide) (Option.some.inj h) rfl
  · have h := xif h c5
    refine x_aload_n (pc := 9) o dX12_isAhead_9 rfl rfl ?_
    obtain ⟨r2, hr2, h⟩ := xbs h
    refine gX12_177 (pc := 10) o dX12_isAhead_10 hr2 ?_
    refine x_iconst (pc := 13) o dX12_isAhead_13 ic_0 ?_
    obtain ⟨v3, hv3, h⟩ := xbs h
    refine x_iaload (pc := 14) o dX12_isAhead_14 hv3 ?_
    refine x_sipush (pc := 15) o dX12_isAhead_15 sp_999 ?_
    refine x_iload_n (pc := 18) o dX12_isAhead_18 rfl rfl ?_
    refine x_isub (pc := 19) o dX12_isAhead_19 ?_
    refine x_icmp_gt (pc := 20) (tgt := 27) o dX12_isAhead_20 (by decide) (fun c4 => ?_) (fun c4 => ?_)
    · have h := xit h c4
      refine x_iconst (pc := 27) o dX12_isAhead_27 ic_0 ?_
      exact x_zreturn (pc := 28) o hr dX12_isAhead_28 (by decide) (Option.some.inj h) rfl
    · have h := xif h c4
      refine x_iconst (pc := 23) o dX12_isAhead_23 ic_1 ?_
      refine x_goto (pc := 24) (tgt := 28) o dX12_isAhead_24 (by decide) ?_
      exact x_zreturn (pc := 28) o hr dX12_isAhead_28 (by decide) (Option.some.inj h) rfl
def fX12_later_L34b (n : Nat) (k0 : Nat) (a1 : Int32) (a2 : Int32) (rec : Int32 → xSt → Option (xSt)) (a3 : Int32) (S : xSt) : Option (xSt) :=
  if a1 ≤ a3 then
  (some S)
else
  ((fX12_passes n k0 ((1 : Int32)) ((0 : Int32)) S).bind fun q3 =>
  (some (a3 + (1 : Int32))).bind fun v4 =>
  rec v4 q3.2)
def fX12_later_L34 (n : Nat) (k0 : Nat) (a1 : Int32) (a2 : Int32) : Nat → Int32 → xSt → Option (xSt)
  | 0 => fun _ _ => none
  | q + 1 => fX12_later_L34b n k0 a1 a2 (fX12_later_L34 n k0 a1 a2 q)
set_option maxHeartbeats 4000000 in
theorem tX12_later_L34b {Γ : xGm} {M : xMg} (o : xOk Γ tM M 9 cX12_later RX12) (hnL : Γ.2.2.2 = 4) {rec : Int32 → xSt → Option (xSt)} (n : Nat) (k0 : Nat) (a1 : Int32) (a2 : Int32) (a3 : Int32) (S : xSt) (z : (xSt)) (hrec : ∀ (a3 : Int32) (S : xSt), rec a3 S = some z → xAt Γ tM M 34 (xlv [(0, .ref (M.2.1 k0)), (1, .int a1), (2, .int a2), (3, .int a3)]) [] S) (K : xAt Γ tM M 52 (xlv [(0, .ref (M.2.1 k0)), (2, .int a2)]) [] z) (h : fX12_later_L34b n k0 a1 a2 rec a3 S = some z) : xAt Γ tM M 34 (xlv [(0, .ref (M.2.1 k0)), (1, .int a1), (2, .int a2), (3, .int a3)]) [] S := by
  have hn3 : 3 < Γ.2.2.2 := by omega
  unfold fX12_later_L34b at h
  refine x_iload_n (pc := 34) o dX12_later_34 rfl rfl ?_
  refine x_iload_n (pc := 35) o dX12_later_35 rfl rfl ?_
  refine x_icmp_ge (pc := 36) (tgt := 52) o dX12_later_36 (by decide) (fun c5 => ?_) (fun c5 => ?_)
  · have h := xit h c5
    refine x_to (l := [(0, .ref (M.2.1 k0)), (2, .int a2)]) ⟨rfl, rfl, trivial⟩ ?_
    cases Option.some.inj h
    exact K
  · have h := xif h c5
    refine x_aload_n (pc := 39) o dX12_later_39 rfl rfl ?_
    refine x_iconst (pc := 40) o dX12_later_40 ic_1 ?_
    refine x_iconst (pc := 41) o dX12_later_41 ic_0 ?_
    obtain ⟨q3, hq3, h⟩ := xbs h
    refine x_callI (pc := 42) (As := [.int ((1 : Int32)), .int ((0 : Int32))]) (b := k0) (rest := []) o (tX12_passes _ M _ n k0 ((1 : Int32)) ((0 : Int32)) S q3 hq3) eX12_passes mX12_595 clX12 (kX12_passes hq3) (by decide) rfl rfl (Nat.le_of_ble_eq_true rfl) dX12_later_42 ?_
    refine x_pop (pc := 45) o dX12_later_45 rfl ?_
    obtain ⟨v4, hv4, h⟩ := xbs h
    refine x_iincE (pc := 46) o dX12_later_46 rfl ic_1 hn3 hv4 ?_
    refine x_goto (pc := 49) (tgt := 34) o dX12_later_49 (by decide) ?_
    refine x_to (l := [(0, .ref (M.2.1 k0)), (1, .int a1), (2, .int a2), (3, .int v4)]) ⟨rfl, rfl, rfl, rfl, trivial⟩ ?_
    exact hrec v4 q3.2 h
theorem tX12_later_L34 {Γ : xGm} {M : xMg} (o : xOk Γ tM M 9 cX12_later RX12) (hnL : Γ.2.2.2 = 4) (n : Nat) (k0 : Nat) (a1 : Int32) (a2 : Int32) (z : (xSt)) (K : xAt Γ tM M 52 (xlv [(0, .ref (M.2.1 k0)), (2, .int a2)]) [] z) : ∀ (q : Nat) (a3 : Int32) (S : xSt), fX12_later_L34 n k0 a1 a2 q a3 S = some z → xAt Γ tM M 34 (xlv [(0, .ref (M.2.1 k0)), (1, .int a1), (2, .int a2), (3, .int a3)]) [] S := by
  intro q
  induction q with
  | zero => intro a3 S h; cases h
  | succ q ih => intro a3 S h; exact tX12_later_L34b o hnL n k0 a1 a2 a3 S z ih K h
def fX12_later_B26 (n : Nat) (k0 : Nat) (a1 : Int32) (a2 : Int32) (S : xSt) : Option (Int32 × xSt) :=
  (fX12_copies n k0 ((1 : Int32)) ((0 : Int32)) S).bind fun S2 =>
  (fX12_later_L34 n k0 a1 a2 n ((0 : Int32)) S2).bind fun z6 => if a2 = ((-1 : Int32)) then
  ((xgF tM 12 55 k0 z6).bind fun r8 =>
  (xal tM r8 ((1 : Int32)) z6).bind fun v9 =>
  some (v9, z6))
else
  ((fX12_doneIn k0 ((1 : Int32)) a2 z6).bind fun v7 =>
  some (v7, z6))
set_option maxHeartbeats 4000000 in
theorem tX12_later_B26 {Γ : xGm} {M : xMg} (o : xOk Γ tM M 9 cX12_later RX12) (hnL : Γ.2.2.2 = 4) (n : Nat) (k0 : Nat) (a1 : Int32) (a2 : Int32) (S : xSt) (z : (Int32 × xSt)) (hr : xRI Γ tM M (some .int) z.1 z.2) (h : fX12_later_B26 n k0 a1 a2 S = some z) : xAt Γ tM M 26 (xlv [(0, .ref (M.2.1 k0)), (1, .int a1), (2, .int a2)]) [] S := by
  have hn3 : 3 < Γ.2.2.2 := by omega
  unfold fX12_later_B26 at h
  refine x_aload_n (pc := 26) o dX12_later_26 rfl rfl ?_
  refine x_iconst (pc := 27) o dX12_later_27 ic_1 ?_
  refine x_iconst (pc := 28) o dX12_later_28 ic_0 ?_
  obtain ⟨S2, hS2, h⟩ := xbs h
  refine x_callV (pc := 29) (As := [.int ((1 : Int32)), .int ((0 : Int32))]) (b := k0) (rest := []) o (tX12_copies _ M _ n k0 ((1 : Int32)) ((0 : Int32)) S S2 hS2) eX12_copies mX12_493 clX12 (kX12_copies hS2) (by decide) rfl rfl (Nat.le_of_ble_eq_true rfl) dX12_later_29 ?_
  refine x_iconst (pc := 32) o dX12_later_32 ic_0 ?_
  refine x_istore_n (pc := 33) o dX12_later_33 rfl hn3 ?_
  obtain ⟨z6, hz6, h⟩ := xbs h
  refine x_to (l := [(0, .ref (M.2.1 k0)), (1, .int a1), (2, .int a2), (3, .int ((0 : Int32)))]) ⟨rfl, rfl, rfl, rfl, trivial⟩ ?_
  refine tX12_later_L34 o hnL n k0 a1 a2 z6 ?_ n ((0 : Int32)) S2 hz6
  refine x_iload_n (pc := 52) o dX12_later_52 rfl rfl ?_
  refine x_iconst (pc := 53) o dX12_later_53 ic_m1 ?_
  refine x_icmp_ne (pc := 54) (tgt := 66) o dX12_later_54 (by decide) (fun c10 => ?_) (fun c10 => ?_)
  · have h := xif h c10
    refine x_aload_n (pc := 66) o dX12_later_66 rfl rfl ?_
    refine x_iconst (pc := 67) o dX12_later_67 ic_1 ?_
    refine x_iload_n (pc := 68) o dX12_later_68 rfl rfl ?_
    obtain ⟨v7, hv7, h⟩ := xbs h
    refine x_callI (pc := 69) (As := [.int ((1 : Int32)), .int a2]) (b := k0) (rest := []) o (tX12_doneIn _ M _ k0 ((1 : Int32)) a2 z6 v7 hv7) eX12_doneIn mX12_515 clX12 (kX12_doneIn hv7) (by decide) rfl rfl (Nat.le_of_ble_eq_true rfl) dX12_later_69 ?_
    exact x_ireturn (pc := 72) o hr dX12_later_72 (xr1 h) (xr2 h)
  · have h := xit h c10
    refine x_aload_n (pc := 57) o dX12_later_57 rfl rfl ?_
    obtain ⟨r8, hr8, h⟩ := xbs h
    refine gX12_180 (pc := 58) o dX12_later_58 hr8 ?_
    refine x_iconst (pc := 61) o dX12_later_61 ic_1 ?_
    obtain ⟨v9, hv9, h⟩ := xbs h
    refine x_iaload (pc := 62) o dX12_later_62 hv9 ?_
    refine x_goto (pc := 63) (tgt := 72) o dX12_later_63 (by decide) ?_
    exact x_ireturn (pc := 72) o hr dX12_later_72 (xr1 h) (xr2 h)
def fX12_later (n : Nat) (k0 : Nat) (a1 : Int32) (a2 : Int32) (S : xSt) : Option (Int32 × xSt) :=
  if tM.1 k0 = 12 then
  ((fX12_isAhead k0 a1 ((0 : Int32)) ((100 : Int32)) S).bind fun v1 =>
  if v1 = 0 then
  (some ((-1 : Int32), S))
else
  (if a2 = ((-1 : Int32)) then
  (fX12_later_B26 n k0 a1 a2 S)
else
  ((fX12_isJob k0 a2 S).bind fun v11 =>
  if v11 = 0 then
  (some ((-1 : Int32), S))
else
  (fX12_later_B26 n k0 a1 a2 S))))
  else none
theorem kX12_later {z : Int32 × xSt} {n : Nat} {k0 : Nat} {a1 : Int32} {a2 : Int32} {S : xSt} (h : fX12_later n k0 a1 a2 S = some z) : tM.1 k0 = 12 := by
  unfold fX12_later at h
  exact (xck h).1
set_option maxHeartbeats 4000000 in
theorem tX12_later (l : Launch) (M : xMg) (A : Nat → Prop) (n : Nat) (k0 : Nat) (a1 : Int32) (a2 : Int32) (S : xSt) (z : Int32 × xSt) (h : fX12_later n k0 a1 a2 S = some z) : xMI l yX12_later cX12_later 4 (some .int) 9 tM M A [.ref (M.2.1 k0), .int a1, .int a2] S z.1 z.2 := by
  refine x_metI (plainFor_of_name (by decide)) tM_ok (Nat.le_of_ble_eq_true rfl) (fun Γ hA hnL hl hr o => ?_)
  subst hA; subst hl
  have o : xOk Γ tM M 9 cX12_later RX12 := o
  unfold fX12_later at h
  obtain ⟨hk0, h⟩ := xck h
  refine x_to (l := [(0, .ref (M.2.1 k0)), (1, .int a1), (2, .int a2)]) ⟨rfl, rfl, rfl, trivial⟩ ?_
  refine x_aload_n (pc := 0) o dX12_later_0 rfl rfl ?_
  refine x_iload_n (pc := 1) o dX12_later_1 rfl rfl ?_
  refine x_iconst (pc := 2) o dX12_later_2 ic_0 ?_
  refine x_bipush (pc := 3) o dX12_later_3 bp_100 ?_
  obtain ⟨v1, hv1, h⟩ := xbs h
  refine x_callI (pc := 5) (As := [.int a1, .int ((0 : Int32)), .int ((100 : Int32))]) (b := k0) (rest := []) o (tX12_isAhead _ M _ k0 a1 ((0 : Int32)) ((100 : Int32)) S v1 hv1) eX12_isAhead mX12_592 clX12 (kX12_isAhead hv1) (by decide) rfl rfl (Nat.le_of_ble_eq_true rfl) dX12_later_5 ?_
  refine x_if_eq (pc := 8) (tgt := 24) o dX12_later_8 (by decide) (fun c14 => ?_) (fun c14 => ?_)
  · have h := xit h c14
    refine x_iconst (pc := 24) o dX12_later_24 ic_m1 ?_
    exact x_ireturn (pc := 25) o hr dX12_later_25 (xr1 h) (xr2 h)
  · have h := xif h c14
    refine x_iload_n (pc := 11) o dX12_later_11 rfl rfl ?_
    refine x_iconst (pc := 12) o dX12_later_12 ic_m1 ?_
    refine x_icmp_eq (pc := 13) (tgt := 26) o dX12_later_13 (by decide) (fun c13 => ?_) (fun c13 => ?_)
    · have h := xit h c13
      refine x_to (l := [(0, .ref (M.2.1 k0)), (1, .int a1), (2, .int a2)]) ⟨rfl, rfl, rfl, trivial⟩ ?_
      exact tX12_later_B26 o hnL n k0 a1 a2 S z hr h
    · have h := xif h c13
      refine x_aload_n (pc := 16) o dX12_later_16 rfl rfl ?_
      refine x_iload_n (pc := 17) o dX12_later_17 rfl rfl ?_
      obtain ⟨v11, hv11, h⟩ := xbs h
      refine x_callI (pc := 18) (As := [.int a2]) (b := k0) (rest := []) o (tX12_isJob _ M _ k0 a2 S v11 hv11) eX12_isJob mX12_589 clX12 (kX12_isJob hv11) (by decide) rfl rfl (Nat.le_of_ble_eq_true rfl) dX12_later_18 ?_
      refine x_if_ne (pc := 21) (tgt := 26) o dX12_later_21 (by decide) (fun c12 => ?_) (fun c12 => ?_)
      · have h := xif h c12
        refine x_to (l := [(0, .ref (M.2.1 k0)), (1, .int a1), (2, .int a2)]) ⟨rfl, rfl, rfl, trivial⟩ ?_
        exact tX12_later_B26 o hnL n k0 a1 a2 S z hr h
      · have h := xit h c12
        refine x_iconst (pc := 24) o dX12_later_24 ic_m1 ?_
        exact x_ireturn (pc := 25) o hr dX12_later_25 (xr1 h) (xr2 h)
def fX12_done_L18b (n : Nat) (k0 : Nat) (a1 : Int32) (rec : Int32 → xSt → Option ((xSt) ⊕ (Int32 × xSt))) (a2 : Int32) (S : xSt) : Option ((xSt) ⊕ (Int32 × xSt)) :=
  (fX12_isAhead k0 a2 ((0 : Int32)) ((100 : Int32)) S).bind fun v3 =>
  if v3 = 0 then
  (some (.inl S))
else
  ((fX12_isDone k0 ((1 : Int32)) a1 S).bind fun v4 =>
  if v4 = 0 then
  ((fX12_passes n k0 ((1 : Int32)) ((0 : Int32)) S).bind fun q5 =>
  (some (a2 + (1 : Int32))).bind fun v6 =>
  rec v6 q5.2)
else
  (some (.inr (a2, S))))
def fX12_done_L18 (n : Nat) (k0 : Nat) (a1 : Int32) : Nat → Int32 → xSt → Option ((xSt) ⊕ (Int32 × xSt))
  | 0 => fun _ _ => none
  | q + 1 => fX12_done_L18b n k0 a1 (fX12_done_L18 n k0 a1 q)
set_option maxHeartbeats 4000000 in
theorem tX12_done_L18b {Γ : xGm} {M : xMg} (o : xOk Γ tM M 9 cX12_done RX12) (hnL : Γ.2.2.2 = 3) {rec : Int32 → xSt → Option ((xSt) ⊕ (Int32 × xSt))} (n : Nat) (k0 : Nat) (a1 : Int32) (a2 : Int32) (S : xSt) (z : ((xSt) ⊕ (Int32 × xSt))) (hrec : ∀ (a2 : Int32) (S : xSt), rec a2 S = some z → xAt Γ tM M 18 (xlv [(0, .ref (M.2.1 k0)), (1, .int a1), (2, .int a2)]) [] S) (K : ∀ e, z = .inl e → xAt Γ tM M 53 (xlv []) [] e) (R : ∀ r, z = .inr r → xRI Γ tM M (some .int) r.1 r.2) (h : fX12_done_L18b n k0 a1 rec a2 S = some z) : xAt Γ tM M 18 (xlv [(0, .ref (M.2.1 k0)), (1, .int a1), (2, .int a2)]) [] S := by
  have hn2 : 2 < Γ.2.2.2 := by omega
  unfold fX12_done_L18b at h
  refine x_aload_n (pc := 18) o dX12_done_18 rfl rfl ?_
  refine x_iload_n (pc := 19) o dX12_done_19 rfl rfl ?_
  refine x_iconst (pc := 20) o dX12_done_20 ic_0 ?_
  refine x_bipush (pc := 21) o dX12_done_21 bp_100 ?_
  obtain ⟨v3, hv3, h⟩ := xbs h
  refine x_callI (pc := 23) (As := [.int a2, .int ((0 : Int32)), .int ((100 : Int32))]) (b := k0) (rest := []) o (tX12_isAhead _ M _ k0 a2 ((0 : Int32)) ((100 : Int32)) S v3 hv3) eX12_isAhead mX12_592 clX12 (kX12_isAhead hv3) (by decide) rfl rfl (Nat.le_of_ble_eq_true rfl) dX12_done_23 ?_
  refine x_if_eq (pc := 26) (tgt := 53) o dX12_done_26 (by decide) (fun c8 => ?_) (fun c8 => ?_)
  · have h := xit h c8
    refine x_to (l := []) trivial ?_
    exact K _ (Option.some.inj h).symm
  · have h := xif h c8
    refine x_aload_n (pc := 29) o dX12_done_29 rfl rfl ?_
    refine x_iconst (pc := 30) o dX12_done_30 ic_1 ?_
    refine x_iload_n (pc := 31) o dX12_done_31 rfl rfl ?_
    obtain ⟨v4, hv4, h⟩ := xbs h
    refine x_callI (pc := 32) (As := [.int ((1 : Int32)), .int a1]) (b := k0) (rest := []) o (tX12_isDone _ M _ k0 ((1 : Int32)) a1 S v4 hv4) eX12_isDone mX12_521 clX12 (kX12_isDone hv4) (by decide) rfl rfl (Nat.le_of_ble_eq_true rfl) dX12_done_32 ?_
    refine x_if_eq (pc := 35) (tgt := 40) o dX12_done_35 (by decide) (fun c7 => ?_) (fun c7 => ?_)
    · have h := xit h c7
      refine x_aload_n (pc := 40) o dX12_done_40 rfl rfl ?_
      refine x_iconst (pc := 41) o dX12_done_41 ic_1 ?_
      refine x_iconst (pc := 42) o dX12_done_42 ic_0 ?_
      obtain ⟨q5, hq5, h⟩ := xbs h
      refine x_callI (pc := 43) (As := [.int ((1 : Int32)), .int ((0 : Int32))]) (b := k0) (rest := []) o (tX12_passes _ M _ n k0 ((1 : Int32)) ((0 : Int32)) S q5 hq5) eX12_passes mX12_595 clX12 (kX12_passes hq5) (by decide) rfl rfl (Nat.le_of_ble_eq_true rfl) dX12_done_43 ?_
      refine x_pop (pc := 46) o dX12_done_46 rfl ?_
      obtain ⟨v6, hv6, h⟩ := xbs h
      refine x_iincE (pc := 47) o dX12_done_47 rfl ic_1 hn2 hv6 ?_
      refine x_goto (pc := 50) (tgt := 18) o dX12_done_50 (by decide) ?_
      refine x_to (l := [(0, .ref (M.2.1 k0)), (1, .int a1), (2, .int v6)]) ⟨rfl, rfl, rfl, trivial⟩ ?_
      exact hrec v6 q5.2 h
    · have h := xif h c7
      refine x_iload_n (pc := 38) o dX12_done_38 rfl rfl ?_
      exact x_ireturn (pc := 39) o (R _ (Option.some.inj h).symm) dX12_done_39 rfl rfl
theorem tX12_done_L18 {Γ : xGm} {M : xMg} (o : xOk Γ tM M 9 cX12_done RX12) (hnL : Γ.2.2.2 = 3) (n : Nat) (k0 : Nat) (a1 : Int32) (z : ((xSt) ⊕ (Int32 × xSt))) (K : ∀ e, z = .inl e → xAt Γ tM M 53 (xlv []) [] e) (R : ∀ r, z = .inr r → xRI Γ tM M (some .int) r.1 r.2) : ∀ (q : Nat) (a2 : Int32) (S : xSt), fX12_done_L18 n k0 a1 q a2 S = some z → xAt Γ tM M 18 (xlv [(0, .ref (M.2.1 k0)), (1, .int a1), (2, .int a2)]) [] S := by
  intro q
  induction q with
  | zero => intro a2 S h; cases h
  | succ q ih => intro a2 S h; exact tX12_done_L18b o hnL n k0 a1 a2 S z ih K R h
def fX12_done (n : Nat) (k0 : Nat) (a1 : Int32) (S : xSt) : Option (Int32 × xSt) :=
  if tM.1 k0 = 12 then
  ((fX12_isJob k0 a1 S).bind fun v1 =>
  if v1 = 0 then
  (some ((-1 : Int32), S))
else
  ((fX12_copies n k0 ((1 : Int32)) ((0 : Int32)) S).bind fun S2 =>
  (fX12_done_L18 n k0 a1 n ((0 : Int32)) S2).bind fun z9 => xel z9 (fun ez9 => some ((-1 : Int32), ez9)) (fun r => some r)))
  else none
theorem kX12_done {z : Int32 × xSt} {n : Nat} {k0 : Nat} {a1 : Int32} {S : xSt} (h : fX12_done n k0 a1 S = some z) : tM.1 k0 = 12 := by
  unfold fX12_done at h
  exact (xck h).1
set_option maxHeartbeats 4000000 in
theorem tX12_done (l : Launch) (M : xMg) (A : Nat → Prop) (n : Nat) (k0 : Nat) (a1 : Int32) (S : xSt) (z : Int32 × xSt) (h : fX12_done n k0 a1 S = some z) : xMI l yX12_done cX12_done 3 (some .int) 9 tM M A [.ref (M.2.1 k0), .int a1] S z.1 z.2 := by
  refine x_metI (plainFor_of_name (by decide)) tM_ok (Nat.le_of_ble_eq_true rfl) (fun Γ hA hnL hl hr o => ?_)
  subst hA; subst hl
  have o : xOk Γ tM M 9 cX12_done RX12 := o
  unfold fX12_done at h
  obtain ⟨hk0, h⟩ := xck h
  refine x_to (l := [(0, .ref (M.2.1 k0)), (1, .int a1)]) ⟨rfl, rfl, trivial⟩ ?_
  have hn2 : 2 < Γ.2.2.2 := by omega
  refine x_aload_n (pc := 0) o dX12_done_0 rfl rfl ?_
  refine x_iload_n (pc := 1) o dX12_done_1 rfl rfl ?_
  obtain ⟨v1, hv1, h⟩ := xbs h
  refine x_callI (pc := 2) (As := [.int a1]) (b := k0) (rest := []) o (tX12_isJob _ M _ k0 a1 S v1 hv1) eX12_isJob mX12_589 clX12 (kX12_isJob hv1) (by decide) rfl rfl (Nat.le_of_ble_eq_true rfl) dX12_done_2 ?_
  refine x_if_ne (pc := 5) (tgt := 10) o dX12_done_5 (by decide) (fun c10 => ?_) (fun c10 => ?_)
  · have h := xif h c10
    refine x_aload_n (pc := 10) o dX12_done_10 rfl rfl ?_
    refine x_iconst (pc := 11) o dX12_done_11 ic_1 ?_
    refine x_iconst (pc := 12) o dX12_done_12 ic_0 ?_
    obtain ⟨S2, hS2, h⟩ := xbs h
    refine x_callV (pc := 13) (As := [.int ((1 : Int32)), .int ((0 : Int32))]) (b := k0) (rest := []) o (tX12_copies _ M _ n k0 ((1 : Int32)) ((0 : Int32)) S S2 hS2) eX12_copies mX12_493 clX12 (kX12_copies hS2) (by decide) rfl rfl (Nat.le_of_ble_eq_true rfl) dX12_done_13 ?_
    refine x_iconst (pc := 16) o dX12_done_16 ic_0 ?_
    refine x_istore_n (pc := 17) o dX12_done_17 rfl hn2 ?_
    obtain ⟨z9, hz9, h⟩ := xbs h
    refine x_to (l := [(0, .ref (M.2.1 k0)), (1, .int a1), (2, .int ((0 : Int32)))]) ⟨rfl, rfl, rfl, trivial⟩ ?_
    refine tX12_done_L18 o hnL n k0 a1 z9 (fun ez9 he => ?_) (fun r he => ?_) n ((0 : Int32)) S2 hz9
    · subst he; have h := xel_l h
      refine x_iconst (pc := 53) o dX12_done_53 ic_m1 ?_
      exact x_ireturn (pc := 54) o hr dX12_done_54 (xr1 h) (xr2 h)
    · subst he; have h := xel_r h
      cases Option.some.inj h
      exact hr
  · have h := xit h c10
    refine x_iconst (pc := 8) o dX12_done_8 ic_m1 ?_
    exact x_ireturn (pc := 9) o hr dX12_done_9 (xr1 h) (xr2 h)
def fX12_lateAll_L35b (n : Nat) (k0 : Nat) (a1 : Int32) (a3 : Int32) (rec : Int32 → Int32 → xSt → Option (Int32 × xSt)) (a2 : Int32) (a4 : Int32) (S : xSt) : Option (Int32 × xSt) :=
  (xgF tM 12 22 k0 S).bind fun r6 =>
  (xgI tM 12 13 k0 S).bind fun v7 =>
  (xal tM r6 v7 S).bind fun v8 =>
  if v8 ≤ a4 then
  (some (a2, S))
else
  ((fX12_lateIn k0 ((1 : Int32)) a4 S).bind fun v9 =>
  (some (a2 + v9)).bind fun v10 =>
  (some (a4 + (1 : Int32))).bind fun v11 =>
  rec v10 v11 S)
def fX12_lateAll_L35 (n : Nat) (k0 : Nat) (a1 : Int32) (a3 : Int32) : Nat → Int32 → Int32 → xSt → Option (Int32 × xSt)
  | 0 => fun _ _ _ => none
  | q + 1 => fX12_lateAll_L35b n k0 a1 a3 (fX12_lateAll_L35 n k0 a1 a3 q)
set_option maxHeartbeats 4000000 in
theorem tX12_lateAll_L35b {Γ : xGm} {M : xMg} (o : xOk Γ tM M 9 cX12_lateAll RX12) (hnL : Γ.2.2.2 = 5) {rec : Int32 → Int32 → xSt → Option (Int32 × xSt)} (n : Nat) (k0 : Nat) (a1 : Int32) (a3 : Int32) (a2 : Int32) (a4 : Int32) (S : xSt) (z : (Int32 × xSt)) (hrec : ∀ (a2 : Int32) (a4 : Int32) (S : xSt), rec a2 a4 S = some z → xAt Γ tM M 35 (xlv [(0, .ref (M.2.1 k0)), (1, .int a1), (2, .int a2), (3, .int a3), (4, .int a4)]) [] S) (K : xAt Γ tM M 65 (xlv [(0, .ref (M.2.1 k0)), (1, .int a1), (2, .int z.1), (3, .int a3)]) [] z.2) (h : fX12_lateAll_L35b n k0 a1 a3 rec a2 a4 S = some z) : xAt Γ tM M 35 (xlv [(0, .ref (M.2.1 k0)), (1, .int a1), (2, .int a2), (3, .int a3), (4, .int a4)]) [] S := by
  have hn2 : 2 < Γ.2.2.2 := by omega
  have hn4 : 4 < Γ.2.2.2 := by omega
  unfold fX12_lateAll_L35b at h
  refine x_iload (pc := 35) o dX12_lateAll_35 rfl ?_
  refine x_aload_n (pc := 37) o dX12_lateAll_37 rfl rfl ?_
  obtain ⟨r6, hr6, h⟩ := xbs h
  refine gX12_78 (pc := 38) o dX12_lateAll_38 hr6 ?_
  refine x_aload_n (pc := 41) o dX12_lateAll_41 rfl rfl ?_
  obtain ⟨v7, hv7, h⟩ := xbs h
  refine gX12_51 (pc := 42) o dX12_lateAll_42 hv7 ?_
  obtain ⟨v8, hv8, h⟩ := xbs h
  refine x_iaload (pc := 45) o dX12_lateAll_45 hv8 ?_
  refine x_icmp_ge (pc := 46) (tgt := 65) o dX12_lateAll_46 (by decide) (fun c12 => ?_) (fun c12 => ?_)
  · have h := xit h c12
    refine x_to (l := [(0, .ref (M.2.1 k0)), (1, .int a1), (2, .int a2), (3, .int a3)]) ⟨rfl, rfl, rfl, rfl, trivial⟩ ?_
    cases Option.some.inj h
    exact K
  · have h := xif h c12
    refine x_iload_n (pc := 49) o dX12_lateAll_49 rfl rfl ?_
    refine x_aload_n (pc := 50) o dX12_lateAll_50 rfl rfl ?_
    refine x_iconst (pc := 51) o dX12_lateAll_51 ic_1 ?_
    refine x_iload (pc := 52) o dX12_lateAll_52 rfl ?_
    obtain ⟨v9, hv9, h⟩ := xbs h
    refine x_callI (pc := 54) (As := [.int ((1 : Int32)), .int a4]) (b := k0) (rest := [.int a2]) o (tX12_lateIn _ M _ k0 ((1 : Int32)) a4 S v9 hv9) eX12_lateIn mX12_537 clX12 (kX12_lateIn hv9) (by decide) rfl rfl (Nat.le_of_ble_eq_true rfl) dX12_lateAll_54 ?_
    refine x_iadd (pc := 57) o dX12_lateAll_57 ?_
    obtain ⟨v10, hv10, h⟩ := xbs h
    refine x_istore_nE (pc := 58) o dX12_lateAll_58 rfl hn2 hv10 ?_
    obtain ⟨v11, hv11, h⟩ := xbs h
    refine x_iincE (pc := 59) o dX12_lateAll_59 rfl ic_1 hn4 hv11 ?_
    refine x_goto (pc := 62) (tgt := 35) o dX12_lateAll_62 (by decide) ?_
    refine x_to (l := [(0, .ref (M.2.1 k0)), (1, .int a1), (2, .int v10), (3, .int a3), (4, .int v11)]) ⟨rfl, rfl, rfl, rfl, rfl, trivial⟩ ?_
    exact hrec v10 v11 S h
theorem tX12_lateAll_L35 {Γ : xGm} {M : xMg} (o : xOk Γ tM M 9 cX12_lateAll RX12) (hnL : Γ.2.2.2 = 5) (n : Nat) (k0 : Nat) (a1 : Int32) (a3 : Int32) (z : (Int32 × xSt)) (K : xAt Γ tM M 65 (xlv [(0, .ref (M.2.1 k0)), (1, .int a1), (2, .int z.1), (3, .int a3)]) [] z.2) : ∀ (q : Nat) (a2 : Int32) (a4 : Int32) (S : xSt), fX12_lateAll_L35 n k0 a1 a3 q a2 a4 S = some z → xAt Γ tM M 35 (xlv [(0, .ref (M.2.1 k0)), (1, .int a1), (2, .int a2), (3, .int a3), (4, .int a4)]) [] S := by
  intro q
  induction q with
  | zero => intro a2 a4 S h; cases h
  | succ q ih => intro a2 a4 S h; exact tX12_lateAll_L35b o hnL n k0 a1 a3 a2 a4 S z ih K h
def fX12_lateAll_L10b (n : Nat) (k0 : Nat) (a1 : Int32) (rec : Int32 → Int32 → xSt → Option (Int32 × xSt)) (a2 : Int32) (a3 : Int32) (S : xSt) : Option (Int32 × xSt) :=
  if a1 ≤ a3 then
  (some (a2, S))
else
  ((fX12_passes n k0 ((1 : Int32)) ((0 : Int32)) S).bind fun q2 =>
  (xgF tM 12 54 k0 q2.2).bind fun r3 =>
  (xal tM r3 ((1 : Int32)) q2.2).bind fun v4 =>
  (xas tM r3 ((1 : Int32)) (v4 - ((1 : Int32))) q2.2).bind fun S5 =>
  (fX12_lateAll_L35 n k0 a1 a3 n a2 ((0 : Int32)) S5).bind fun z13 => (xgF tM 12 54 k0 z13.2).bind fun r14 =>
  (xal tM r14 ((1 : Int32)) z13.2).bind fun v15 =>
  (xas tM r14 ((1 : Int32)) (v15 + ((1 : Int32))) z13.2).bind fun S16 =>
  (some (a3 + (1 : Int32))).bind fun v17 =>
  rec z13.1 v17 S16)
def fX12_lateAll_L10 (n : Nat) (k0 : Nat) (a1 : Int32) : Nat → Int32 → Int32 → xSt → Option (Int32 × xSt)
  | 0 => fun _ _ _ => none
  | q + 1 => fX12_lateAll_L10b n k0 a1 (fX12_lateAll_L10 n k0 a1 q)
set_option maxHeartbeats 4000000 in
theorem tX12_lateAll_L10b {Γ : xGm} {M : xMg} (o : xOk Γ tM M 9 cX12_lateAll RX12) (hnL : Γ.2.2.2 = 5) {rec : Int32 → Int32 → xSt → Option (Int32 × xSt)} (n : Nat) (k0 : Nat) (a1 : Int32) (a2 : Int32) (a3 : Int32) (S : xSt) (z : (Int32 × xSt)) (hrec : ∀ (a2 : Int32) (a3 : Int32) (S : xSt), rec a2 a3 S = some z → xAt Γ tM M 10 (xlv [(0, .ref (M.2.1 k0)), (1, .int a1), (2, .int a2), (3, .int a3)]) [] S) (K : xAt Γ tM M 81 (xlv [(2, .int z.1)]) [] z.2) (h : fX12_lateAll_L10b n k0 a1 rec a2 a3 S = some z) : xAt Γ tM M 10 (xlv [(0, .ref (M.2.1 k0)), (1, .int a1), (2, .int a2), (3, .int a3)]) [] S := by
  have hn3 : 3 < Γ.2.2.2 := by omega
  have hn4 : 4 < Γ.2.2.2 := by omega
  unfold fX12_lateAll_L10b at h
  refine x_iload_n (pc := 10) o dX12_lateAll_10 rfl rfl ?_
  refine x_iload_n (pc := 11) o dX12_lateAll_11 rfl rfl ?_
  refine x_icmp_ge (pc := 12) (tgt := 81) o dX12_lateAll_12 (by decide) (fun c18 => ?_) (fun c18 => ?_)
  · have h := xit h c18
    refine x_to (l := [(2, .int a2)]) ⟨rfl, trivial⟩ ?_
    cases Option.some.inj h
    exact K
  · have h := xif h c18
    refine x_aload_n (pc := 15) o dX12_lateAll_15 rfl rfl ?_
    refine x_iconst (pc := 16) o dX12_lateAll_16 ic_1 ?_
    refine x_iconst (pc := 17) o dX12_lateAll_17 ic_0 ?_
    obtain ⟨q2, hq2, h⟩ := xbs h
    refine x_callI (pc := 18) (As := [.int ((1 : Int32)), .int ((0 : Int32))]) (b := k0) (rest := []) o (tX12_passes _ M _ n k0 ((1 : Int32)) ((0 : Int32)) S q2 hq2) eX12_passes mX12_595 clX12 (kX12_passes hq2) (by decide) rfl rfl (Nat.le_of_ble_eq_true rfl) dX12_lateAll_18 ?_
    refine x_pop (pc := 21) o dX12_lateAll_21 rfl ?_
    refine x_aload_n (pc := 22) o dX12_lateAll_22 rfl rfl ?_
    obtain ⟨r3, hr3, h⟩ := xbs h
    refine gX12_177 (pc := 23) o dX12_lateAll_23 hr3 ?_
    refine x_iconst (pc := 26) o dX12_lateAll_26 ic_1 ?_
    refine x_dup2 (pc := 27) o dX12_lateAll_27 rfl rfl ?_
    obtain ⟨v4, hv4, h⟩ := xbs h
    refine x_iaload (pc := 28) o dX12_lateAll_28 hv4 ?_
    refine x_iconst (pc := 29) o dX12_lateAll_29 ic_1 ?_
    refine x_isub (pc := 30) o dX12_lateAll_30 ?_
    obtain ⟨S5, hS5, h⟩ := xbs h
    refine x_iastore (pc := 31) o dX12_lateAll_31 hS5 ?_
    refine x_iconst (pc := 32) o dX12_lateAll_32 ic_0 ?_
    refine x_istore (pc := 33) o dX12_lateAll_33 hn4 ?_
    obtain ⟨z13, hz13, h⟩ := xbs h
    refine x_to (l := [(0, .ref (M.2.1 k0)), (1, .int a1), (2, .int a2), (3, .int a3), (4, .int ((0 : Int32)))]) ⟨rfl, rfl, rfl, rfl, rfl, trivial⟩ ?_
    refine tX12_lateAll_L35 o hnL n k0 a1 a3 z13 ?_ n a2 ((0 : Int32)) S5 hz13
    refine x_aload_n (pc := 65) o dX12_lateAll_65 rfl rfl ?_
    obtain ⟨r14, hr14, h⟩ := xbs h
    refine gX12_177 (pc := 66) o dX12_lateAll_66 hr14 ?_
    refine x_iconst (pc := 69) o dX12_lateAll_69 ic_1 ?_
    refine x_dup2 (pc := 70) o dX12_lateAll_70 rfl rfl ?_
    obtain ⟨v15, hv15, h⟩ := xbs h
    refine x_iaload (pc := 71) o dX12_lateAll_71 hv15 ?_
    refine x_iconst (pc := 72) o dX12_lateAll_72 ic_1 ?_
    refine x_iadd (pc := 73) o dX12_lateAll_73 ?_
    obtain ⟨S16, hS16, h⟩ := xbs h
    refine x_iastore (pc := 74) o dX12_lateAll_74 hS16 ?_
    obtain ⟨v17, hv17, h⟩ := xbs h
    refine x_iincE (pc := 75) o dX12_lateAll_75 rfl ic_1 hn3 hv17 ?_
    refine x_goto (pc := 78) (tgt := 10) o dX12_lateAll_78 (by decide) ?_
    refine x_to (l := [(0, .ref (M.2.1 k0)), (1, .int a1), (2, .int z13.1), (3, .int v17)]) ⟨rfl, rfl, rfl, rfl, trivial⟩ ?_
    exact hrec z13.1 v17 S16 h
theorem tX12_lateAll_L10 {Γ : xGm} {M : xMg} (o : xOk Γ tM M 9 cX12_lateAll RX12) (hnL : Γ.2.2.2 = 5) (n : Nat) (k0 : Nat) (a1 : Int32) (z : (Int32 × xSt)) (K : xAt Γ tM M 81 (xlv [(2, .int z.1)]) [] z.2) : ∀ (q : Nat) (a2 : Int32) (a3 : Int32) (S : xSt), fX12_lateAll_L10 n k0 a1 q a2 a3 S = some z → xAt Γ tM M 10 (xlv [(0, .ref (M.2.1 k0)), (1, .int a1), (2, .int a2), (3, .int a3)]) [] S := by
  intro q
  induction q with
  | zero => intro a2 a3 S h; cases h
  | succ q ih => intro a2 a3 S h; exact tX12_lateAll_L10b o hnL n k0 a1 a2 a3 S z ih K h
def fX12_lateAll (n : Nat) (k0 : Nat) (a1 : Int32) (S : xSt) : Option (Int32 × xSt) :=
  if tM.1 k0 = 12 then
  ((fX12_copies n k0 ((1 : Int32)) ((0 : Int32)) S).bind fun S1 =>
  (fX12_lateAll_L10 n k0 a1 n ((0 : Int32)) ((0 : Int32)) S1).bind fun z19 => some (z19.1, z19.2))
  else none
theorem kX12_lateAll {z : Int32 × xSt} {n : Nat} {k0 : Nat} {a1 : Int32} {S : xSt} (h : fX12_lateAll n k0 a1 S = some z) : tM.1 k0 = 12 := by
  unfold fX12_lateAll at h
  exact (xck h).1
set_option maxHeartbeats 4000000 in
theorem tX12_lateAll (l : Launch) (M : xMg) (A : Nat → Prop) (n : Nat) (k0 : Nat) (a1 : Int32) (S : xSt) (z : Int32 × xSt) (h : fX12_lateAll n k0 a1 S = some z) : xMI l yX12_lateAll cX12_lateAll 5 (some .int) 9 tM M A [.ref (M.2.1 k0), .int a1] S z.1 z.2 := by
  refine x_metI (plainFor_of_name (by decide)) tM_ok (Nat.le_of_ble_eq_true rfl) (fun Γ hA hnL hl hr o => ?_)
  subst hA; subst hl
  have o : xOk Γ tM M 9 cX12_lateAll RX12 := o
  unfold fX12_lateAll at h
  obtain ⟨hk0, h⟩ := xck h
  refine x_to (l := [(0, .ref (M.2.1 k0)), (1, .int a1)]) ⟨rfl, rfl, trivial⟩ ?_
  have hn2 : 2 < Γ.2.2.2 := by omega
  have hn3 : 3 < Γ.2.2.2 := by omega
  refine x_aload_n (pc := 0) o dX12_lateAll_0 rfl rfl ?_
  refine x_iconst (pc := 1) o dX12_lateAll_1 ic_1 ?_
  refine x_iconst (pc := 2) o dX12_lateAll_2 ic_0 ?_
  obtain ⟨S1, hS1, h⟩ := xbs h
  refine x_callV (pc := 3) (As := [.int ((1 : Int32)), .int ((0 : Int32))]) (b := k0) (rest := []) o (tX12_copies _ M _ n k0 ((1 : Int32)) ((0 : Int32)) S S1 hS1) eX12_copies mX12_493 clX12 (kX12_copies hS1) (by decide) rfl rfl (Nat.le_of_ble_eq_true rfl) dX12_lateAll_3 ?_
  refine x_iconst (pc := 6) o dX12_lateAll_6 ic_0 ?_
  refine x_istore_n (pc := 7) o dX12_lateAll_7 rfl hn2 ?_
  refine x_iconst (pc := 8) o dX12_lateAll_8 ic_0 ?_
  refine x_istore_n (pc := 9) o dX12_lateAll_9 rfl hn3 ?_
  obtain ⟨z19, hz19, h⟩ := xbs h
  refine x_to (l := [(0, .ref (M.2.1 k0)), (1, .int a1), (2, .int ((0 : Int32))), (3, .int ((0 : Int32)))]) ⟨rfl, rfl, rfl, rfl, trivial⟩ ?_
  refine tX12_lateAll_L10 o hnL n k0 a1 z19 ?_ n ((0 : Int32)) ((0 : Int32)) S1 hz19
  refine x_iload_n (pc := 81) o dX12_lateAll_81 rfl rfl ?_
  exact x_ireturn (pc := 82) o hr dX12_lateAll_82 (xr1 h) (xr2 h)
def fX12_late (n : Nat) (k0 : Nat) (a1 : Int32) (S : xSt) : Option (Int32 × xSt) :=
  if tM.1 k0 = 12 then
  ((fX12_isAhead k0 a1 ((1 : Int32)) ((100 : Int32)) S).bind fun v1 =>
  if v1 = 0 then
  (some ((-1 : Int32), S))
else
  ((fX12_lateAll n k0 a1 S).bind fun q2 =>
  some (q2.1, q2.2)))
  else none
theorem kX12_late {z : Int32 × xSt} {n : Nat} {k0 : Nat} {a1 : Int32} {S : xSt} (h : fX12_late n k0 a1 S = some z) : tM.1 k0 = 12 := by
  unfold fX12_late at h
  exact (xck h).1
set_option maxHeartbeats 4000000 in
theorem tX12_late (l : Launch) (M : xMg) (A : Nat → Prop) (n : Nat) (k0 : Nat) (a1 : Int32) (S : xSt) (z : Int32 × xSt) (h : fX12_late n k0 a1 S = some z) : xMI l yX12_late cX12_late 2 (some .int) 10 tM M A [.ref (M.2.1 k0), .int a1] S z.1 z.2 := by
  refine x_metI (plainFor_of_name (by decide)) tM_ok (Nat.le_of_ble_eq_true rfl) (fun Γ hA hnL hl hr o => ?_)
  subst hA; subst hl
  have o : xOk Γ tM M 10 cX12_late RX12 := o
  unfold fX12_late at h
  obtain ⟨hk0, h⟩ := xck h
  refine x_to (l := [(0, .ref (M.2.1 k0)), (1, .int a1)]) ⟨rfl, rfl, trivial⟩ ?_
  refine x_aload_n (pc := 0) o dX12_late_0 rfl rfl ?_
  refine x_iload_n (pc := 1) o dX12_late_1 rfl rfl ?_
  refine x_iconst (pc := 2) o dX12_late_2 ic_1 ?_
  refine x_bipush (pc := 3) o dX12_late_3 bp_100 ?_
  obtain ⟨v1, hv1, h⟩ := xbs h
  refine x_callI (pc := 5) (As := [.int a1, .int ((1 : Int32)), .int ((100 : Int32))]) (b := k0) (rest := []) o (tX12_isAhead _ M _ k0 a1 ((1 : Int32)) ((100 : Int32)) S v1 hv1) eX12_isAhead mX12_592 clX12 (kX12_isAhead hv1) (by decide) rfl rfl (Nat.le_of_ble_eq_true rfl) dX12_late_5 ?_
  refine x_if_eq (pc := 8) (tgt := 19) o dX12_late_8 (by decide) (fun c3 => ?_) (fun c3 => ?_)
  · have h := xit h c3
    refine x_iconst (pc := 19) o dX12_late_19 ic_m1 ?_
    exact x_ireturn (pc := 20) o hr dX12_late_20 (xr1 h) (xr2 h)
  · have h := xif h c3
    refine x_aload_n (pc := 11) o dX12_late_11 rfl rfl ?_
    refine x_iload_n (pc := 12) o dX12_late_12 rfl rfl ?_
    obtain ⟨q2, hq2, h⟩ := xbs h
    refine x_callI (pc := 13) (As := [.int a1]) (b := k0) (rest := []) o (tX12_lateAll _ M _ n k0 a1 S q2 hq2) eX12_lateAll mX12_599 clX12 (kX12_lateAll hq2) (by decide) rfl rfl (Nat.le_of_ble_eq_true rfl) dX12_late_13 ?_
    refine x_goto (pc := 16) (tgt := 20) o dX12_late_16 (by decide) ?_
    exact x_ireturn (pc := 20) o hr dX12_late_20 (xr1 h) (xr2 h)
def fX12_isRow_L17b (n : Nat) (k0 : Nat) (rec : Int32 → Int32 → Int32 → xSt → Option (Int32 × xSt)) (a2 : Int32) (a3 : Int32) (a4 : Int32) (S : xSt) : Option (Int32 × xSt) :=
  if a4 < 0 then
  (some (a3, S))
else
  ((xgF tM 12 72 k0 S).bind fun r5 =>
  (xgF tM 12 22 k0 S).bind fun r6 =>
  (xgI tM 12 13 k0 S).bind fun v7 =>
  (xal tM r6 v7 S).bind fun v8 =>
  if v8 = 0 then none else
  (xas tM r5 a4 (a2 - a2 / v8 * v8) S).bind fun S9 =>
  (xgF tM 12 72 k0 S9).bind fun r10 =>
  (xal tM r10 a4 S9).bind fun v11 =>
  (some (a3 ||| (((1 : Int32)) <<< (v11 &&& 31)))).bind fun v12 =>
  (xgF tM 12 22 k0 S9).bind fun r13 =>
  (xgI tM 12 13 k0 S9).bind fun v14 =>
  (xal tM r13 v14 S9).bind fun v15 =>
  if v15 = 0 then none else
  (some (a2 / v15)).bind fun v16 =>
  (some (a4 + (-1 : Int32))).bind fun v17 =>
  rec v16 v12 v17 S9)
def fX12_isRow_L17 (n : Nat) (k0 : Nat) : Nat → Int32 → Int32 → Int32 → xSt → Option (Int32 × xSt)
  | 0 => fun _ _ _ _ => none
  | q + 1 => fX12_isRow_L17b n k0 (fX12_isRow_L17 n k0 q)
set_option maxHeartbeats 4000000 in
theorem tX12_isRow_L17b {Γ : xGm} {M : xMg} (o : xOk Γ tM M 1 cX12_isRow RX12) (hnL : Γ.2.2.2 = 5) {rec : Int32 → Int32 → Int32 → xSt → Option (Int32 × xSt)} (n : Nat) (k0 : Nat) (a2 : Int32) (a3 : Int32) (a4 : Int32) (S : xSt) (z : (Int32 × xSt)) (hrec : ∀ (a2 : Int32) (a3 : Int32) (a4 : Int32) (S : xSt), rec a2 a3 a4 S = some z → xAt Γ tM M 17 (xlv [(0, .ref (M.2.1 k0)), (2, .int a2), (3, .int a3), (4, .int a4)]) [] S) (K : xAt Γ tM M 70 (xlv [(0, .ref (M.2.1 k0)), (3, .int z.1)]) [] z.2) (h : fX12_isRow_L17b n k0 rec a2 a3 a4 S = some z) : xAt Γ tM M 17 (xlv [(0, .ref (M.2.1 k0)), (2, .int a2), (3, .int a3), (4, .int a4)]) [] S := by
  have hn2 : 2 < Γ.2.2.2 := by omega
  have hn3 : 3 < Γ.2.2.2 := by omega
  have hn4 : 4 < Γ.2.2.2 := by omega
  unfold fX12_isRow_L17b at h
  refine x_iload (pc := 17) o dX12_isRow_17 rfl ?_
  refine x_if_lt (pc := 19) (tgt := 70) o dX12_isRow_19 (by decide) (fun c18 => ?_) (fun c18 => ?_)
  · have h := xit h c18
    refine x_to (l := [(0, .ref (M.2.1 k0)), (3, .int a3)]) ⟨rfl, rfl, trivial⟩ ?_
    cases Option.some.inj h
    exact K
  · have h := xif h c18
    refine x_aload_n (pc := 22) o dX12_isRow_22 rfl rfl ?_
    obtain ⟨r5, hr5, h⟩ := xbs h
    refine gX12_231 (pc := 23) o dX12_isRow_23 hr5 ?_
    refine x_iload (pc := 26) o dX12_isRow_26 rfl ?_
    refine x_iload_n (pc := 28) o dX12_isRow_28 rfl rfl ?_
    refine x_aload_n (pc := 29) o dX12_isRow_29 rfl rfl ?_
    obtain ⟨r6, hr6, h⟩ := xbs h
    refine gX12_78 (pc := 30) o dX12_isRow_30 hr6 ?_
    refine x_aload_n (pc := 33) o dX12_isRow_33 rfl rfl ?_
    obtain ⟨v7, hv7, h⟩ := xbs h
    refine gX12_51 (pc := 34) o dX12_isRow_34 hv7 ?_
    obtain ⟨v8, hv8, h⟩ := xbs h
    refine x_iaload (pc := 37) o dX12_isRow_37 hv8 ?_
    obtain ⟨hq, h⟩ := xcn h
    refine x_irem (pc := 38) o dX12_isRow_38 hq ?_
    obtain ⟨S9, hS9, h⟩ := xbs h
    refine x_iastore (pc := 39) o dX12_isRow_39 hS9 ?_
    refine x_iload_n (pc := 40) o dX12_isRow_40 rfl rfl ?_
    refine x_iconst (pc := 41) o dX12_isRow_41 ic_1 ?_
    refine x_aload_n (pc := 42) o dX12_isRow_42 rfl rfl ?_
    obtain ⟨r10, hr10, h⟩ := xbs h
    refine gX12_231 (pc := 43) o dX12_isRow_43 hr10 ?_
    refine x_iload (pc := 46) o dX12_isRow_46 rfl ?_
    obtain ⟨v11, hv11, h⟩ := xbs h
    refine x_iaload (pc := 48) o dX12_isRow_48 hv11 ?_
    refine x_ishl (pc := 49) o dX12_isRow_49 ?_
    refine x_ior (pc := 50) o dX12_isRow_50 ?_
    obtain ⟨v12, hv12, h⟩ := xbs h
    refine x_istore_nE (pc := 51) o dX12_isRow_51 rfl hn3 hv12 ?_
    refine x_iload_n (pc := 52) o dX12_isRow_52 rfl rfl ?_
    refine x_aload_n (pc := 53) o dX12_isRow_53 rfl rfl ?_
    obtain ⟨r13, hr13, h⟩ := xbs h
    refine gX12_78 (pc := 54) o dX12_isRow_54 hr13 ?_
    refine x_aload_n (pc := 57) o dX12_isRow_57 rfl rfl ?_
    obtain ⟨v14, hv14, h⟩ := xbs h
    refine gX12_51 (pc := 58) o dX12_isRow_58 hv14 ?_
    obtain ⟨v15, hv15, h⟩ := xbs h
    refine x_iaload (pc := 61) o dX12_isRow_61 hv15 ?_
    obtain ⟨hq, h⟩ := xcn h
    refine x_idiv (pc := 62) o dX12_isRow_62 hq ?_
    obtain ⟨v16, hv16, h⟩ := xbs h
    refine x_istore_nE (pc := 63) o dX12_isRow_63 rfl hn2 hv16 ?_
    obtain ⟨v17, hv17, h⟩ := xbs h
    refine x_iincE (pc := 64) o dX12_isRow_64 rfl ic_m1 hn4 hv17 ?_
    refine x_goto (pc := 67) (tgt := 17) o dX12_isRow_67 (by decide) ?_
    refine x_to (l := [(0, .ref (M.2.1 k0)), (2, .int v16), (3, .int v12), (4, .int v17)]) ⟨rfl, rfl, rfl, rfl, trivial⟩ ?_
    exact hrec v16 v12 v17 S9 h
theorem tX12_isRow_L17 {Γ : xGm} {M : xMg} (o : xOk Γ tM M 1 cX12_isRow RX12) (hnL : Γ.2.2.2 = 5) (n : Nat) (k0 : Nat) (z : (Int32 × xSt)) (K : xAt Γ tM M 70 (xlv [(0, .ref (M.2.1 k0)), (3, .int z.1)]) [] z.2) : ∀ (q : Nat) (a2 : Int32) (a3 : Int32) (a4 : Int32) (S : xSt), fX12_isRow_L17 n k0 q a2 a3 a4 S = some z → xAt Γ tM M 17 (xlv [(0, .ref (M.2.1 k0)), (2, .int a2), (3, .int a3), (4, .int a4)]) [] S := by
  intro q
  induction q with
  | zero => intro a2 a3 a4 S h; cases h
  | succ q ih => intro a2 a3 a4 S h; exact tX12_isRow_L17b o hnL n k0 a2 a3 a4 S z ih K h
def fX12_isRow (n : Nat) (k0 : Nat) (a1 : Int32) (S : xSt) : Option (Int32 × xSt) :=
  if tM.1 k0 = 12 then
  ((xgF tM 12 22 k0 S).bind fun r1 =>
  (xgI tM 12 13 k0 S).bind fun v2 =>
  (xal tM r1 v2 S).bind fun v3 =>
  (some (v3 - ((1 : Int32)))).bind fun v4 =>
  (fX12_isRow_L17 n k0 n a1 ((0 : Int32)) v4 S).bind fun z19 => (xgF tM 12 22 k0 z19.2).bind fun r20 =>
  (xgI tM 12 13 k0 z19.2).bind fun v21 =>
  (xal tM r20 v21 z19.2).bind fun v22 =>
  if z19.1 = ((((1 : Int32)) <<< (v22 &&& 31)) - ((1 : Int32))) then
  (some ((1 : Int32), z19.2))
else
  (some ((0 : Int32), z19.2)))
  else none
theorem kX12_isRow {z : Int32 × xSt} {n : Nat} {k0 : Nat} {a1 : Int32} {S : xSt} (h : fX12_isRow n k0 a1 S = some z) : tM.1 k0 = 12 := by
  unfold fX12_isRow at h
  exact (xck h).1
set_option maxHeartbeats 4000000 in
theorem tX12_isRow (l : Launch) (M : xMg) (A : Nat → Prop) (n : Nat) (k0 : Nat) (a1 : Int32) (S : xSt) (z : Int32 × xSt) (h : fX12_isRow n k0 a1 S = some z) : xMI l yX12_isRow cX12_isRow 5 (some .boolean) 1 tM M A [.ref (M.2.1 k0), .int a1] S z.1 z.2 := by
  refine x_metI (plainFor_of_name (by decide)) tM_ok (Nat.le_of_ble_eq_true rfl) (fun Γ hA hnL hl hr o => ?_)
  subst hA; subst hl
  have o : xOk Γ tM M 1 cX12_isRow RX12 := o
  unfold fX12_isRow at h
  obtain ⟨hk0, h⟩ := xck h
  refine x_to (l := [(0, .ref (M.2.1 k0)), (1, .int a1)]) ⟨rfl, rfl, trivial⟩ ?_
  have hn2 : 2 < Γ.2.2.2 := by omega
  have hn3 : 3 < Γ.2.2.2 := by omega
  have hn4 : 4 < Γ.2.2.2 := by omega
  refine x_iload_n (pc := 0) o dX12_isRow_0 rfl rfl ?_
  refine x_istore_n (pc := 1) o dX12_isRow_1 rfl hn2 ?_
  refine x_iconst (pc := 2) o dX12_isRow_2 ic_0 ?_
  refine x_istore_n (pc := 3) o dX12_isRow_3 rfl hn3 ?_
  refine x_aload_n (pc := 4) o dX12_isRow_4 rfl rfl ?_
  obtain ⟨r1, hr1, h⟩ := xbs h
  refine gX12_78 (pc := 5) o dX12_isRow_5 hr1 ?_
  refine x_aload_n (pc := 8) o dX12_isRow_8 rfl rfl ?_
  obtain ⟨v2, hv2, h⟩ := xbs h
  refine gX12_51 (pc := 9) o dX12_isRow_9 hv2 ?_
  obtain ⟨v3, hv3, h⟩ := xbs h
  refine x_iaload (pc := 12) o dX12_isRow_12 hv3 ?_
  refine x_iconst (pc := 13) o dX12_isRow_13 ic_1 ?_
  refine x_isub (pc := 14) o dX12_isRow_14 ?_
  obtain ⟨v4, hv4, h⟩ := xbs h
  refine x_istoreE (pc := 15) o dX12_isRow_15 hn4 hv4 ?_
  obtain ⟨z19, hz19, h⟩ := xbs h
  refine x_to (l := [(0, .ref (M.2.1 k0)), (2, .int a1), (3, .int ((0 : Int32))), (4, .int v4)]) ⟨rfl, rfl, rfl, rfl, trivial⟩ ?_
  refine tX12_isRow_L17 o hnL n k0 z19 ?_ n a1 ((0 : Int32)) v4 S hz19
  refine x_iload_n (pc := 70) o dX12_isRow_70 rfl rfl ?_
  refine x_iconst (pc := 71) o dX12_isRow_71 ic_1 ?_
  refine x_aload_n (pc := 72) o dX12_isRow_72 rfl rfl ?_
  obtain ⟨r20, hr20, h⟩ := xbs h
  refine gX12_78 (pc := 73) o dX12_isRow_73 hr20 ?_
  refine x_aload_n (pc := 76) o dX12_isRow_76 rfl rfl ?_
  obtain ⟨v21, hv21, h⟩ := xbs h
  refine gX12_51 (pc := 77) o dX12_isRow_77 hv21 ?_
  obtain ⟨v22, hv22, h⟩ := xbs h
  refine x_iaload (pc := 80) o dX12_isRow_80 hv22 ?_
  refine x_ishl (pc := 81) o dX12_isRow_81 ?_
  refine x_iconst (pc := 82) o dX12_isRow_82 ic_1 ?_
  refine x_isub (pc := 83) o dX12_isRow_83 ?_
  refine x_icmp_ne (pc := 84) (tgt := 91) o dX12_isRow_84 (by decide) (fun c23 => ?_) (fun c23 => ?_)
  · have h := xif h c23
    refine x_iconst (pc := 91) o dX12_isRow_91 ic_0 ?_
    exact x_zreturn (pc := 92) o hr dX12_isRow_92 (by decide) (xr1 h) (xr2 h)
  · have h := xit h c23
    refine x_iconst (pc := 87) o dX12_isRow_87 ic_1 ?_
    refine x_goto (pc := 88) (tgt := 92) o dX12_isRow_88 (by decide) ?_
    exact x_zreturn (pc := 92) o hr dX12_isRow_92 (by decide) (xr1 h) (xr2 h)
def fX12_order_L31b (n : Nat) (k0 : Nat) (a1 : Int32) (a2 : Int32) (rec : Int32 → Int32 → xSt → Option (Int32 × xSt)) (a3 : Int32) (a4 : Int32) (S : xSt) : Option (Int32 × xSt) :=
  (xgF tM 12 22 k0 S).bind fun r2 =>
  (xgI tM 12 13 k0 S).bind fun v3 =>
  (xal tM r2 v3 S).bind fun v4 =>
  if v4 ≤ a4 then
  (some (a3, S))
else
  ((xgF tM 12 22 k0 S).bind fun r5 =>
  (xgI tM 12 13 k0 S).bind fun v6 =>
  (xal tM r5 v6 S).bind fun v7 =>
  (some (a3 * v7)).bind fun v8 =>
  (some (a4 + (1 : Int32))).bind fun v9 =>
  rec v8 v9 S)
def fX12_order_L31 (n : Nat) (k0 : Nat) (a1 : Int32) (a2 : Int32) : Nat → Int32 → Int32 → xSt → Option (Int32 × xSt)
  | 0 => fun _ _ _ => none
  | q + 1 => fX12_order_L31b n k0 a1 a2 (fX12_order_L31 n k0 a1 a2 q)
set_option maxHeartbeats 4000000 in
theorem tX12_order_L31b {Γ : xGm} {M : xMg} (o : xOk Γ tM M 10 cX12_order RX12) (hnL : Γ.2.2.2 = 8) {rec : Int32 → Int32 → xSt → Option (Int32 × xSt)} (n : Nat) (k0 : Nat) (a1 : Int32) (a2 : Int32) (a3 : Int32) (a4 : Int32) (S : xSt) (z : (Int32 × xSt)) (hrec : ∀ (a3 : Int32) (a4 : Int32) (S : xSt), rec a3 a4 S = some z → xAt Γ tM M 31 (xlv [(0, .ref (M.2.1 k0)), (1, .int a1), (2, .int a2), (3, .int a3), (4, .int a4)]) [] S) (K : xAt Γ tM M 63 (xlv [(0, .ref (M.2.1 k0)), (1, .int a1), (2, .int a2), (3, .int z.1)]) [] z.2) (h : fX12_order_L31b n k0 a1 a2 rec a3 a4 S = some z) : xAt Γ tM M 31 (xlv [(0, .ref (M.2.1 k0)), (1, .int a1), (2, .int a2), (3, .int a3), (4, .int a4)]) [] S := by
  have hn3 : 3 < Γ.2.2.2 := by omega
  have hn4 : 4 < Γ.2.2.2 := by omega
  unfold fX12_order_L31b at h
  refine x_iload (pc := 31) o dX12_order_31 rfl ?_
  refine x_aload_n (pc := 33) o dX12_order_33 rfl rfl ?_
  obtain ⟨r2, hr2, h⟩ := xbs h
  refine gX12_78 (pc := 34) o dX12_order_34 hr2 ?_
  refine x_aload_n (pc := 37) o dX12_order_37 rfl rfl ?_
  obtain ⟨v3, hv3, h⟩ := xbs h
  refine gX12_51 (pc := 38) o dX12_order_38 hv3 ?_
  obtain ⟨v4, hv4, h⟩ := xbs h
  refine x_iaload (pc := 41) o dX12_order_41 hv4 ?_
  refine x_icmp_ge (pc := 42) (tgt := 63) o dX12_order_42 (by decide) (fun c10 => ?_) (fun c10 => ?_)
  · have h := xit h c10
    refine x_to (l := [(0, .ref (M.2.1 k0)), (1, .int a1), (2, .int a2), (3, .int a3)]) ⟨rfl, rfl, rfl, rfl, trivial⟩ ?_
    cases Option.some.inj h
    exact K
  · have h := xif h c10
    refine x_iload_n (pc := 45) o dX12_order_45 rfl rfl ?_
    refine x_aload_n (pc := 46) o dX12_order_46 rfl rfl ?_
    obtain ⟨r5, hr5, h⟩ := xbs h
    refine gX12_78 (pc := 47) o dX12_order_47 hr5 ?_
    refine x_aload_n (pc := 50) o dX12_order_50 rfl rfl ?_
    obtain ⟨v6, hv6, h⟩ := xbs h
    refine gX12_51 (pc := 51) o dX12_order_51 hv6 ?_
    obtain ⟨v7, hv7, h⟩ := xbs h
    refine x_iaload (pc := 54) o dX12_order_54 hv7 ?_
    refine x_imul (pc := 55) o dX12_order_55 ?_
    obtain ⟨v8, hv8, h⟩ := xbs h
    refine x_istore_nE (pc := 56) o dX12_order_56 rfl hn3 hv8 ?_
    obtain ⟨v9, hv9, h⟩ := xbs h
    refine x_iincE (pc := 57) o dX12_order_57 rfl ic_1 hn4 hv9 ?_
    refine x_goto (pc := 60) (tgt := 31) o dX12_order_60 (by decide) ?_
    refine x_to (l := [(0, .ref (M.2.1 k0)), (1, .int a1), (2, .int a2), (3, .int v8), (4, .int v9)]) ⟨rfl, rfl, rfl, rfl, rfl, trivial⟩ ?_
    exact hrec v8 v9 S h
theorem tX12_order_L31 {Γ : xGm} {M : xMg} (o : xOk Γ tM M 10 cX12_order RX12) (hnL : Γ.2.2.2 = 8) (n : Nat) (k0 : Nat) (a1 : Int32) (a2 : Int32) (z : (Int32 × xSt)) (K : xAt Γ tM M 63 (xlv [(0, .ref (M.2.1 k0)), (1, .int a1), (2, .int a2), (3, .int z.1)]) [] z.2) : ∀ (q : Nat) (a3 : Int32) (a4 : Int32) (S : xSt), fX12_order_L31 n k0 a1 a2 q a3 a4 S = some z → xAt Γ tM M 31 (xlv [(0, .ref (M.2.1 k0)), (1, .int a1), (2, .int a2), (3, .int a3), (4, .int a4)]) [] S := by
  intro q
  induction q with
  | zero => intro a3 a4 S h; cases h
  | succ q ih => intro a3 a4 S h; exact tX12_order_L31b o hnL n k0 a1 a2 a3 a4 S z ih K h
def fX12_order_L118b (n : Nat) (k0 : Nat) (a1 : Int32) (a2 : Int32) (a3 : Int32) (a4 : Int32) (a5 : Int32) (rec : Int32 → xSt → Option (xSt)) (a7 : Int32) (S : xSt) : Option (xSt) :=
  (xgF tM 12 22 k0 S).bind fun r15 =>
  (xgI tM 12 13 k0 S).bind fun v16 =>
  (xal tM r15 v16 S).bind fun v17 =>
  if v17 ≤ a7 then
  (some S)
else
  ((xgF tM 12 76 k0 S).bind fun r18 =>
  (xgF tM 12 72 k0 S).bind fun r19 =>
  (xal tM r19 a7 S).bind fun v20 =>
  (xas tM r18 a7 v20 S).bind fun S21 =>
  (some (a7 + (1 : Int32))).bind fun v22 =>
  rec v22 S21)
def fX12_order_L118 (n : Nat) (k0 : Nat) (a1 : Int32) (a2 : Int32) (a3 : Int32) (a4 : Int32) (a5 : Int32) : Nat → Int32 → xSt → Option (xSt)
  | 0 => fun _ _ => none
  | q + 1 => fX12_order_L118b n k0 a1 a2 a3 a4 a5 (fX12_order_L118 n k0 a1 a2 a3 a4 a5 q)
set_option maxHeartbeats 4000000 in
theorem tX12_order_L118b {Γ : xGm} {M : xMg} (o : xOk Γ tM M 10 cX12_order RX12) (hnL : Γ.2.2.2 = 8) {rec : Int32 → xSt → Option (xSt)} (n : Nat) (k0 : Nat) (a1 : Int32) (a2 : Int32) (a3 : Int32) (a4 : Int32) (a5 : Int32) (a7 : Int32) (S : xSt) (z : (xSt)) (hrec : ∀ (a7 : Int32) (S : xSt), rec a7 S = some z → xAt Γ tM M 118 (xlv [(0, .ref (M.2.1 k0)), (1, .int a1), (2, .int a2), (3, .int a3), (4, .int a4), (5, .int a5), (7, .int a7)]) [] S) (K : xAt Γ tM M 152 (xlv [(0, .ref (M.2.1 k0)), (1, .int a1), (2, .int a2), (3, .int a3), (4, .int a4), (5, .int a5)]) [] z) (h : fX12_order_L118b n k0 a1 a2 a3 a4 a5 rec a7 S = some z) : xAt Γ tM M 118 (xlv [(0, .ref (M.2.1 k0)), (1, .int a1), (2, .int a2), (3, .int a3), (4, .int a4), (5, .int a5), (7, .int a7)]) [] S := by
  have hn7 : 7 < Γ.2.2.2 := by omega
  unfold fX12_order_L118b at h
  refine x_iload (pc := 118) o dX12_order_118 rfl ?_
  refine x_aload_n (pc := 120) o dX12_order_120 rfl rfl ?_
  obtain ⟨r15, hr15, h⟩ := xbs h
  refine gX12_78 (pc := 121) o dX12_order_121 hr15 ?_
  refine x_aload_n (pc := 124) o dX12_order_124 rfl rfl ?_
  obtain ⟨v16, hv16, h⟩ := xbs h
  refine gX12_51 (pc := 125) o dX12_order_125 hv16 ?_
  obtain ⟨v17, hv17, h⟩ := xbs h
  refine x_iaload (pc := 128) o dX12_order_128 hv17 ?_
  refine x_icmp_ge (pc := 129) (tgt := 152) o dX12_order_129 (by decide) (fun c23 => ?_) (fun c23 => ?_)
  · have h := xit h c23
    refine x_to (l := [(0, .ref (M.2.1 k0)), (1, .int a1), (2, .int a2), (3, .int a3), (4, .int a4), (5, .int a5)]) ⟨rfl, rfl, rfl, rfl, rfl, rfl, trivial⟩ ?_
    cases Option.some.inj h
    exact K
  · have h := xif h c23
    refine x_aload_n (pc := 132) o dX12_order_132 rfl rfl ?_
    obtain ⟨r18, hr18, h⟩ := xbs h
    refine gX12_243 (pc := 133) o dX12_order_133 hr18 ?_
    refine x_iload (pc := 136) o dX12_order_136 rfl ?_
    refine x_aload_n (pc := 138) o dX12_order_138 rfl rfl ?_
    obtain ⟨r19, hr19, h⟩ := xbs h
    refine gX12_231 (pc := 139) o dX12_order_139 hr19 ?_
    refine x_iload (pc := 142) o dX12_order_142 rfl ?_
    obtain ⟨v20, hv20, h⟩ := xbs h
    refine x_iaload (pc := 144) o dX12_order_144 hv20 ?_
    obtain ⟨S21, hS21, h⟩ := xbs h
    refine x_iastore (pc := 145) o dX12_order_145 hS21 ?_
    obtain ⟨v22, hv22, h⟩ := xbs h
    refine x_iincE (pc := 146) o dX12_order_146 rfl ic_1 hn7 hv22 ?_
    refine x_goto (pc := 149) (tgt := 118) o dX12_order_149 (by decide) ?_
    refine x_to (l := [(0, .ref (M.2.1 k0)), (1, .int a1), (2, .int a2), (3, .int a3), (4, .int a4), (5, .int a5), (7, .int v22)]) ⟨rfl, rfl, rfl, rfl, rfl, rfl, rfl, trivial⟩ ?_
    exact hrec v22 S21 h
theorem tX12_order_L118 {Γ : xGm} {M : xMg} (o : xOk Γ tM M 10 cX12_order RX12) (hnL : Γ.2.2.2 = 8) (n : Nat) (k0 : Nat) (a1 : Int32) (a2 : Int32) (a3 : Int32) (a4 : Int32) (a5 : Int32) (z : (xSt)) (K : xAt Γ tM M 152 (xlv [(0, .ref (M.2.1 k0)), (1, .int a1), (2, .int a2), (3, .int a3), (4, .int a4), (5, .int a5)]) [] z) : ∀ (q : Nat) (a7 : Int32) (S : xSt), fX12_order_L118 n k0 a1 a2 a3 a4 a5 q a7 S = some z → xAt Γ tM M 118 (xlv [(0, .ref (M.2.1 k0)), (1, .int a1), (2, .int a2), (3, .int a3), (4, .int a4), (5, .int a5), (7, .int a7)]) [] S := by
  intro q
  induction q with
  | zero => intro a7 S h; cases h
  | succ q ih => intro a7 S h; exact tX12_order_L118b o hnL n k0 a1 a2 a3 a4 a5 a7 S z ih K h
def fX12_order_L76b (n : Nat) (k0 : Nat) (a1 : Int32) (a2 : Int32) (a3 : Int32) (rec : Int32 → Int32 → xSt → Option (Int32 × xSt)) (a4 : Int32) (a5 : Int32) (S : xSt) : Option (Int32 × xSt) :=
  if a3 ≤ a5 then
  (some (a4, S))
else
  ((fX12_isRow n k0 a5 S).bind fun q13 =>
  if q13.1 = 0 then
  ((some (a5 + (1 : Int32))).bind fun v28 =>
  rec a4 v28 q13.2)
else
  ((fX12_lateAll n k0 a1 q13.2).bind fun q14 =>
  if q14.1 < a4 then
  ((fX12_order_L118 n k0 a1 a2 a3 q14.1 a5 n ((0 : Int32)) q14.2).bind fun z24 => (some (a5 + (1 : Int32))).bind fun v25 =>
  rec q14.1 v25 z24)
else
  ((some (a5 + (1 : Int32))).bind fun v26 =>
  rec a4 v26 q14.2)))
def fX12_order_L76 (n : Nat) (k0 : Nat) (a1 : Int32) (a2 : Int32) (a3 : Int32) : Nat → Int32 → Int32 → xSt → Option (Int32 × xSt)
  | 0 => fun _ _ _ => none
  | q + 1 => fX12_order_L76b n k0 a1 a2 a3 (fX12_order_L76 n k0 a1 a2 a3 q)
set_option maxHeartbeats 4000000 in
theorem tX12_order_L76b {Γ : xGm} {M : xMg} (o : xOk Γ tM M 10 cX12_order RX12) (hnL : Γ.2.2.2 = 8) {rec : Int32 → Int32 → xSt → Option (Int32 × xSt)} (n : Nat) (k0 : Nat) (a1 : Int32) (a2 : Int32) (a3 : Int32) (a4 : Int32) (a5 : Int32) (S : xSt) (z : (Int32 × xSt)) (hrec : ∀ (a4 : Int32) (a5 : Int32) (S : xSt), rec a4 a5 S = some z → xAt Γ tM M 76 (xlv [(0, .ref (M.2.1 k0)), (1, .int a1), (2, .int a2), (3, .int a3), (4, .int a4), (5, .int a5)]) [] S) (K : xAt Γ tM M 158 (xlv [(0, .ref (M.2.1 k0)), (2, .int a2), (4, .int z.1)]) [] z.2) (h : fX12_order_L76b n k0 a1 a2 a3 rec a4 a5 S = some z) : xAt Γ tM M 76 (xlv [(0, .ref (M.2.1 k0)), (1, .int a1), (2, .int a2), (3, .int a3), (4, .int a4), (5, .int a5)]) [] S := by
  have hn4 : 4 < Γ.2.2.2 := by omega
  have hn5 : 5 < Γ.2.2.2 := by omega
  have hn6 : 6 < Γ.2.2.2 := by omega
  have hn7 : 7 < Γ.2.2.2 := by omega
  unfold fX12_order_L76b at h
  refine x_iload (pc := 76) o dX12_order_76 rfl ?_
  refine x_iload_n (pc := 78) o dX12_order_78 rfl rfl ?_
  refine x_icmp_ge (pc := 79) (tgt := 158) o dX12_order_79 (by decide) (fun c30 => ?_) (fun c30 => ?_)
  · have h := xit h c30
    refine x_to (l := [(0, .ref (M.2.1 k0)), (2, .int a2), (4, .int a4)]) ⟨rfl, rfl, rfl, trivial⟩ ?_
    cases Option.some.inj h
    exact K
  · have h := xif h c30
    refine x_aload_n (pc := 82) o dX12_order_82 rfl rfl ?_
    refine x_iload (pc := 83) o dX12_order_83 rfl ?_
    obtain ⟨q13, hq13, h⟩ := xbs h
    refine x_callI (pc := 85) (As := [.int a5]) (b := k0) (rest := []) o (tX12_isRow _ M _ n k0 a5 S q13 hq13) eX12_isRow mX12_603 clX12 (kX12_isRow hq13) (by decide) rfl rfl (Nat.le_of_ble_eq_true rfl) dX12_order_85 ?_
    refine x_if_ne (pc := 88) (tgt := 94) o dX12_order_88 (by decide) (fun c29 => ?_) (fun c29 => ?_)
    · have h := xif h c29
      refine x_aload_n (pc := 94) o dX12_order_94 rfl rfl ?_
      refine x_iload_n (pc := 95) o dX12_order_95 rfl rfl ?_
      obtain ⟨q14, hq14, h⟩ := xbs h
      refine x_callI (pc := 96) (As := [.int a1]) (b := k0) (rest := []) o (tX12_lateAll _ M _ n k0 a1 q13.2 q14 hq14) eX12_lateAll mX12_599 clX12 (kX12_lateAll hq14) (by decide) rfl rfl (Nat.le_of_ble_eq_true rfl) dX12_order_96 ?_
      refine x_istore (pc := 99) o dX12_order_99 hn6 ?_
      refine x_iload (pc := 101) o dX12_order_101 rfl ?_
      refine x_iload (pc := 103) o dX12_order_103 rfl ?_
      refine x_icmp_lt (pc := 105) (tgt := 111) o dX12_order_105 (by decide) (fun c27 => ?_) (fun c27 => ?_)
      · have h := xit h c27
        refine x_iload (pc := 111) o dX12_order_111 rfl ?_
        refine x_istore (pc := 113) o dX12_order_113 hn4 ?_
        refine x_iconst (pc := 115) o dX12_order_115 ic_0 ?_
        refine x_istore (pc := 116) o dX12_order_116 hn7 ?_
        obtain ⟨z24, hz24, h⟩ := xbs h
        refine x_to (l := [(0, .ref (M.2.1 k0)), (1, .int a1), (2, .int a2), (3, .int a3), (4, .int q14.1), (5, .int a5), (7, .int ((0 : Int32)))]) ⟨rfl, rfl, rfl, rfl, rfl, rfl, rfl, trivial⟩ ?_
        refine tX12_order_L118 o hnL n k0 a1 a2 a3 q14.1 a5 z24 ?_ n ((0 : Int32)) q14.2 hz24
        obtain ⟨v25, hv25, h⟩ := xbs h
        refine x_iincE (pc := 152) o dX12_order_152 rfl ic_1 hn5 hv25 ?_
        refine x_goto (pc := 155) (tgt := 76) o dX12_order_155 (by decide) ?_
        refine x_to (l := [(0, .ref (M.2.1 k0)), (1, .int a1), (2, .int a2), (3, .int a3), (4, .int q14.1), (5, .int v25)]) ⟨rfl, rfl, rfl, rfl, rfl, rfl, trivial⟩ ?_
        exact hrec q14.1 v25 z24 h
      · have h := xif h c27
        refine x_goto (pc := 108) (tgt := 152) o dX12_order_108 (by decide) ?_
        obtain ⟨v26, hv26, h⟩ := xbs h
        refine x_iincE (pc := 152) o dX12_order_152 rfl ic_1 hn5 hv26 ?_
        refine x_goto (pc := 155) (tgt := 76) o dX12_order_155 (by decide) ?_
        refine x_to (l := [(0, .ref (M.2.1 k0)), (1, .int a1), (2, .int a2), (3, .int a3), (4, .int a4), (5, .int v26)]) ⟨rfl, rfl, rfl, rfl, rfl, rfl, trivial⟩ ?_
        exact hrec a4 v26 q14.2 h
    · have h := xit h c29
      refine x_goto (pc := 91) (tgt := 152) o dX12_order_91 (by decide) ?_
      obtain ⟨v28, hv28, h⟩ := xbs h
      refine x_iincE (pc := 152) o dX12_order_152 rfl ic_1 hn5 hv28 ?_
      refine x_goto (pc := 155) (tgt := 76) o dX12_order_155 (by decide) ?_
      refine x_to (l := [(0, .ref (M.2.1 k0)), (1, .int a1), (2, .int a2), (3, .int a3), (4, .int a4), (5, .int v28)]) ⟨rfl, rfl, rfl, rfl, rfl, rfl, trivial⟩ ?_
      exact hrec a4 v28 q13.2 h
theorem tX12_order_L76 {Γ : xGm} {M : xMg} (o : xOk Γ tM M 10 cX12_order RX12) (hnL : Γ.2.2.2 = 8) (n : Nat) (k0 : Nat) (a1 : Int32) (a2 : Int32) (a3 : Int32) (z : (Int32 × xSt)) (K : xAt Γ tM M 158 (xlv [(0, .ref (M.2.1 k0)), (2, .int a2), (4, .int z.1)]) [] z.2) : ∀ (q : Nat) (a4 : Int32) (a5 : Int32) (S : xSt), fX12_order_L76 n k0 a1 a2 a3 q a4 a5 S = some z → xAt Γ tM M 76 (xlv [(0, .ref (M.2.1 k0)), (1, .int a1), (2, .int a2), (3, .int a3), (4, .int a4), (5, .int a5)]) [] S := by
  intro q
  induction q with
  | zero => intro a4 a5 S h; cases h
  | succ q ih => intro a4 a5 S h; exact tX12_order_L76b o hnL n k0 a1 a2 a3 a4 a5 S z ih K h
def fX12_order_B26 (n : Nat) (k0 : Nat) (a1 : Int32) (a2 : Int32) (S : xSt) : Option (Int32 × xSt) :=
  (fX12_order_L31 n k0 a1 a2 n ((1 : Int32)) ((0 : Int32)) S).bind fun z11 => (xpZ tM 12 71 k0 ((1 : Int32)) z11.2).bind fun S12 =>
  (fX12_order_L76 n k0 a1 a2 z11.1 n ((100000000 : Int32)) ((0 : Int32)) S12).bind fun z31 => (xpZ tM 12 71 k0 ((0 : Int32)) z31.2).bind fun S32 =>
  if a2 = ((-1 : Int32)) then
  (some (z31.1, S32))
else
  ((xgF tM 12 76 k0 S32).bind fun r33 =>
  (xal tM r33 a2 S32).bind fun v34 =>
  some (v34, S32))
set_option maxHeartbeats 4000000 in
theorem tX12_order_B26 {Γ : xGm} {M : xMg} (o : xOk Γ tM M 10 cX12_order RX12) (hnL : Γ.2.2.2 = 8) (n : Nat) (k0 : Nat) (a1 : Int32) (a2 : Int32) (S : xSt) (z : (Int32 × xSt)) (hr : xRI Γ tM M (some .int) z.1 z.2) (h : fX12_order_B26 n k0 a1 a2 S = some z) : xAt Γ tM M 26 (xlv [(0, .ref (M.2.1 k0)), (1, .int a1), (2, .int a2)]) [] S := by
  have hn3 : 3 < Γ.2.2.2 := by omega
  have hn4 : 4 < Γ.2.2.2 := by omega
  have hn5 : 5 < Γ.2.2.2 := by omega
  unfold fX12_order_B26 at h
  refine x_iconst (pc := 26) o dX12_order_26 ic_1 ?_
  refine x_istore_n (pc := 27) o dX12_order_27 rfl hn3 ?_
  refine x_iconst (pc := 28) o dX12_order_28 ic_0 ?_
  refine x_istore (pc := 29) o dX12_order_29 hn4 ?_
  obtain ⟨z11, hz11, h⟩ := xbs h
  refine x_to (l := [(0, .ref (M.2.1 k0)), (1, .int a1), (2, .int a2), (3, .int ((1 : Int32))), (4, .int ((0 : Int32)))]) ⟨rfl, rfl, rfl, rfl, rfl, trivial⟩ ?_
  refine tX12_order_L31 o hnL n k0 a1 a2 z11 ?_ n ((1 : Int32)) ((0 : Int32)) S hz11
  refine x_ldcw (pc := 63) o kcX12_602 dX12_order_63 ?_
  refine x_istore (pc := 66) o dX12_order_66 hn4 ?_
  refine x_aload_n (pc := 68) o dX12_order_68 rfl rfl ?_
  refine x_iconst (pc := 69) o dX12_order_69 ic_1 ?_
  obtain ⟨S12, hS12, h⟩ := xbs h
  refine pX12_228 (pc := 70) o dX12_order_70 hS12 ?_
  refine x_iconst (pc := 73) o dX12_order_73 ic_0 ?_
  refine x_istore (pc := 74) o dX12_order_74 hn5 ?_
  obtain ⟨z31, hz31, h⟩ := xbs h
  refine x_to (l := [(0, .ref (M.2.1 k0)), (1, .int a1), (2, .int a2), (3, .int z11.1), (4, .int ((100000000 : Int32))), (5, .int ((0 : Int32)))]) ⟨rfl, rfl, rfl, rfl, rfl, rfl, trivial⟩ ?_
  refine tX12_order_L76 o hnL n k0 a1 a2 z11.1 z31 ?_ n ((100000000 : Int32)) ((0 : Int32)) S12 hz31
  refine x_aload_n (pc := 158) o dX12_order_158 rfl rfl ?_
  refine x_iconst (pc := 159) o dX12_order_159 ic_0 ?_
  obtain ⟨S32, hS32, h⟩ := xbs h
  refine pX12_228 (pc := 160) o dX12_order_160 hS32 ?_
  refine x_iload_n (pc := 163) o dX12_order_163 rfl rfl ?_
  refine x_iconst (pc := 164) o dX12_order_164 ic_m1 ?_
  refine x_icmp_ne (pc := 165) (tgt := 173) o dX12_order_165 (by decide) (fun c35 => ?_) (fun c35 => ?_)
  · have h := xif h c35
    refine x_aload_n (pc := 173) o dX12_order_173 rfl rfl ?_
    obtain ⟨r33, hr33, h⟩ := xbs h
    refine gX12_243 (pc := 174) o dX12_order_174 hr33 ?_
    refine x_iload_n (pc := 177) o dX12_order_177 rfl rfl ?_
    obtain ⟨v34, hv34, h⟩ := xbs h
    refine x_iaload (pc := 178) o dX12_order_178 hv34 ?_
    exact x_ireturn (pc := 179) o hr dX12_order_179 (xr1 h) (xr2 h)
  · have h := xit h c35
    refine x_iload (pc := 168) o dX12_order_168 rfl ?_
    refine x_goto (pc := 170) (tgt := 179) o dX12_order_170 (by decide) ?_
    exact x_ireturn (pc := 179) o hr dX12_order_179 (xr1 h) (xr2 h)
def fX12_order (n : Nat) (k0 : Nat) (a1 : Int32) (a2 : Int32) (S : xSt) : Option (Int32 × xSt) :=
  if tM.1 k0 = 12 then
  ((fX12_isAhead k0 a1 ((1 : Int32)) ((30 : Int32)) S).bind fun v1 =>
  if v1 = 0 then
  (some ((-1 : Int32), S))
else
  (if a2 = ((-1 : Int32)) then
  (fX12_order_B26 n k0 a1 a2 S)
else
  ((fX12_isJob k0 a2 S).bind fun v36 =>
  if v36 = 0 then
  (some ((-1 : Int32), S))
else
  (fX12_order_B26 n k0 a1 a2 S))))
  else none
theorem kX12_order {z : Int32 × xSt} {n : Nat} {k0 : Nat} {a1 : Int32} {a2 : Int32} {S : xSt} (h : fX12_order n k0 a1 a2 S = some z) : tM.1 k0 = 12 := by
  unfold fX12_order at h
  exact (xck h).1
set_option maxHeartbeats 4000000 in
theorem tX12_order (l : Launch) (M : xMg) (A : Nat → Prop) (n : Nat) (k0 : Nat) (a1 : Int32) (a2 : Int32) (S : xSt) (z : Int32 × xSt) (h : fX12_order n k0 a1 a2 S = some z) : xMI l yX12_order cX12_order 8 (some .int) 10 tM M A [.ref (M.2.1 k0), .int a1, .int a2] S z.1 z.2 := by
  refine x_metI (plainFor_of_name (by decide)) tM_ok (Nat.le_of_ble_eq_true rfl) (fun Γ hA hnL hl hr o => ?_)
  subst hA; subst hl
  have o : xOk Γ tM M 10 cX12_order RX12 := o
  unfold fX12_order at h
  obtain ⟨hk0, h⟩ := xck h
  refine x_to (l := [(0, .ref (M.2.1 k0)), (1, .int a1), (2, .int a2)]) ⟨rfl, rfl, rfl, trivial⟩ ?_
  refine x_aload_n (pc := 0) o dX12_order_0 rfl rfl ?_
  refine x_iload_n (pc := 1) o dX12_order_1 rfl rfl ?_
  refine x_iconst (pc := 2) o dX12_order_2 ic_1 ?_
  refine x_bipush (pc := 3) o dX12_order_3 bp_30 ?_
  obtain ⟨v1, hv1, h⟩ := xbs h
  refine x_callI (pc := 5) (As := [.int a1, .int ((1 : Int32)), .int ((30 : Int32))]) (b := k0) (rest := []) o (tX12_isAhead _ M _ k0 a1 ((1 : Int32)) ((30 : Int32)) S v1 hv1) eX12_isAhead mX12_592 clX12 (kX12_isAhead hv1) (by decide) rfl rfl (Nat.le_of_ble_eq_true rfl) dX12_order_5 ?_
  refine x_if_eq (pc := 8) (tgt := 24) o dX12_order_8 (by decide) (fun c39 => ?_) (fun c39 => ?_)
  · have h := xit h c39
    refine x_iconst (pc := 24) o dX12_order_24 ic_m1 ?_
    exact x_ireturn (pc := 25) o hr dX12_order_25 (xr1 h) (xr2 h)
  · have h := xif h c39
    refine x_iload_n (pc := 11) o dX12_order_11 rfl rfl ?_
    refine x_iconst (pc := 12) o dX12_order_12 ic_m1 ?_
    refine x_icmp_eq (pc := 13) (tgt := 26) o dX12_order_13 (by decide) (fun c38 => ?_) (fun c38 => ?_)
    · have h := xit h c38
      refine x_to (l := [(0, .ref (M.2.1 k0)), (1, .int a1), (2, .int a2)]) ⟨rfl, rfl, rfl, trivial⟩ ?_
      exact tX12_order_B26 o hnL n k0 a1 a2 S z hr h
    · have h := xif h c38
      refine x_aload_n (pc := 16) o dX12_order_16 rfl rfl ?_
      refine x_iload_n (pc := 17) o dX12_order_17 rfl rfl ?_
      obtain ⟨v36, hv36, h⟩ := xbs h
      refine x_callI (pc := 18) (As := [.int a2]) (b := k0) (rest := []) o (tX12_isJob _ M _ k0 a2 S v36 hv36) eX12_isJob mX12_589 clX12 (kX12_isJob hv36) (by decide) rfl rfl (Nat.le_of_ble_eq_true rfl) dX12_order_18 ?_
      refine x_if_ne (pc := 21) (tgt := 26) o dX12_order_21 (by decide) (fun c37 => ?_) (fun c37 => ?_)
      · have h := xif h c37
        refine x_to (l := [(0, .ref (M.2.1 k0)), (1, .int a1), (2, .int a2)]) ⟨rfl, rfl, rfl, trivial⟩ ?_
        exact tX12_order_B26 o hnL n k0 a1 a2 S z hr h
      · have h := xit h c37
        refine x_iconst (pc := 24) o dX12_order_24 ic_m1 ?_
        exact x_ireturn (pc := 25) o hr dX12_order_25 (xr1 h) (xr2 h)
def fX12_moved_L57b (n : Nat) (k0 : Nat) (a1 : Int32) (a2 : Int32) (a3 : Int32) (a7 : Int32) (rec : Int32 → Int32 → Int32 → Int32 → xSt → Option (Int32 × Int32 × Int32 × xSt)) (a4 : Int32) (a5 : Int32) (a6 : Int32) (a8 : Int32) (S : xSt) : Option (Int32 × Int32 × Int32 × xSt) :=
  (xgF tM 12 16 k0 S).bind fun r7 =>
  (xgI tM 12 13 k0 S).bind fun v8 =>
  (xal tM r7 ((((6 : Int32)) * v8) + a7) S).bind fun v9 =>
  if v9 ≤ a8 then
  (some (a4, a5, a6, S))
else
  ((xgF tM 12 15 k0 S).bind fun r10 =>
  (xgI tM 12 13 k0 S).bind fun v11 =>
  (xal tM r10 ((((6 : Int32)) * v11) + a7) S).bind fun v12 =>
  if a8 = v12 then
  ((some (a8 + (1 : Int32))).bind fun v20 =>
  rec a4 a5 a6 v20 S)
else
  ((xpI tM 12 69 k0 a7 S).bind fun S13 =>
  (xpI tM 12 70 k0 a8 S13).bind fun S14 =>
  (fX12_lateAll n k0 a1 S14).bind fun q15 =>
  (xpI tM 12 69 k0 ((-1 : Int32)) q15.2).bind fun S16 =>
  if q15.1 < a4 then
  ((some (a8 + (1 : Int32))).bind fun v17 =>
  rec q15.1 a7 a8 v17 S16)
else
  ((some (a8 + (1 : Int32))).bind fun v18 =>
  rec a4 a5 a6 v18 S16)))
def fX12_moved_L57 (n : Nat) (k0 : Nat) (a1 : Int32) (a2 : Int32) (a3 : Int32) (a7 : Int32) : Nat → Int32 → Int32 → Int32 → Int32 → xSt → Option (Int32 × Int32 × Int32 × xSt)
  | 0 => fun _ _ _ _ _ => none
  | q + 1 => fX12_moved_L57b n k0 a1 a2 a3 a7 (fX12_moved_L57 n k0 a1 a2 a3 a7 q)
set_option maxHeartbeats 4000000 in
theorem tX12_moved_L57b {Γ : xGm} {M : xMg} (o : xOk Γ tM M 10 cX12_moved RX12) (hnL : Γ.2.2.2 = 10) {rec : Int32 → Int32 → Int32 → Int32 → xSt → Option (Int32 × Int32 × Int32 × xSt)} (n : Nat) (k0 : Nat) (a1 : Int32) (a2 : Int32) (a3 : Int32) (a7 : Int32) (a4 : Int32) (a5 : Int32) (a6 : Int32) (a8 : Int32) (S : xSt) (z : (Int32 × Int32 × Int32 × xSt)) (hrec : ∀ (a4 : Int32) (a5 : Int32) (a6 : Int32) (a8 : Int32) (S : xSt), rec a4 a5 a6 a8 S = some z → xAt Γ tM M 57 (xlv [(0, .ref (M.2.1 k0)), (1, .int a1), (2, .int a2), (3, .int a3), (4, .int a4), (5, .int a5), (6, .int a6), (7, .int a7), (8, .int a8)]) [] S) (K : xAt Γ tM M 152 (xlv [(0, .ref (M.2.1 k0)), (1, .int a1), (2, .int a2), (3, .int a3), (4, .int z.1), (5, .int z.2.1), (6, .int z.2.2.1), (7, .int a7)]) [] z.2.2.2) (h : fX12_moved_L57b n k0 a1 a2 a3 a7 rec a4 a5 a6 a8 S = some z) : xAt Γ tM M 57 (xlv [(0, .ref (M.2.1 k0)), (1, .int a1), (2, .int a2), (3, .int a3), (4, .int a4), (5, .int a5), (6, .int a6), (7, .int a7), (8, .int a8)]) [] S := by
  have hn4 : 4 < Γ.2.2.2 := by omega
  have hn5 : 5 < Γ.2.2.2 := by omega
  have hn6 : 6 < Γ.2.2.2 := by omega
  have hn8 : 8 < Γ.2.2.2 := by omega
  have hn9 : 9 < Γ.2.2.2 := by omega
  unfold fX12_moved_L57b at h
  refine x_iload (pc := 57) o dX12_moved_57 rfl ?_
  refine x_aload_n (pc := 59) o dX12_moved_59 rfl rfl ?_
  obtain ⟨r7, hr7, h⟩ := xbs h
  refine gX12_60 (pc := 60) o dX12_moved_60 hr7 ?_
  refine x_bipush (pc := 63) o dX12_moved_63 bp_6 ?_
  refine x_aload_n (pc := 65) o dX12_moved_65 rfl rfl ?_
  obtain ⟨v8, hv8, h⟩ := xbs h
  refine gX12_51 (pc := 66) o dX12_moved_66 hv8 ?_
  refine x_imul (pc := 69) o dX12_moved_69 ?_
  refine x_iload (pc := 70) o dX12_moved_70 rfl ?_
  refine x_iadd (pc := 72) o dX12_moved_72 ?_
  obtain ⟨v9, hv9, h⟩ := xbs h
  refine x_iaload (pc := 73) o dX12_moved_73 hv9 ?_
  refine x_icmp_ge (pc := 74) (tgt := 152) o dX12_moved_74 (by decide) (fun c22 => ?_) (fun c22 => ?_)
  · have h := xit h c22
    refine x_to (l := [(0, .ref (M.2.1 k0)), (1, .int a1), (2, .int a2), (3, .int a3), (4, .int a4), (5, .int a5), (6, .int a6), (7, .int a7)]) ⟨rfl, rfl, rfl, rfl, rfl, rfl, rfl, rfl, trivial⟩ ?_
    cases Option.some.inj h
    exact K
  · have h := xif h c22
    refine x_iload (pc := 77) o dX12_moved_77 rfl ?_
    refine x_aload_n (pc := 79) o dX12_moved_79 rfl rfl ?_
    obtain ⟨r10, hr10, h⟩ := xbs h
    refine gX12_57 (pc := 80) o dX12_moved_80 hr10 ?_
    refine x_bipush (pc := 83) o dX12_moved_83 bp_6 ?_
    refine x_aload_n (pc := 85) o dX12_moved_85 rfl rfl ?_
    obtain ⟨v11, hv11, h⟩ := xbs h
    refine gX12_51 (pc := 86) o dX12_moved_86 hv11 ?_
    refine x_imul (pc := 89) o dX12_moved_89 ?_
    refine x_iload (pc := 90) o dX12_moved_90 rfl ?_
    refine x_iadd (pc := 92) o dX12_moved_92 ?_
    obtain ⟨v12, hv12, h⟩ := xbs h
    refine x_iaload (pc := 93) o dX12_moved_93 hv12 ?_
    refine x_icmp_ne (pc := 94) (tgt := 100) o dX12_moved_94 (by decide) (fun c21 => ?_) (fun c21 => ?_)
    · have h := xif h c21
      refine x_aload_n (pc := 100) o dX12_moved_100 rfl rfl ?_
      refine x_iload (pc := 101) o dX12_moved_101 rfl ?_
      obtain ⟨S13, hS13, h⟩ := xbs h
      refine pX12_222 (pc := 103) o dX12_moved_103 hS13 ?_
      refine x_aload_n (pc := 106) o dX12_moved_106 rfl rfl ?_
      refine x_iload (pc := 107) o dX12_moved_107 rfl ?_
      obtain ⟨S14, hS14, h⟩ := xbs h
      refine pX12_225 (pc := 109) o dX12_moved_109 hS14 ?_
      refine x_aload_n (pc := 112) o dX12_moved_112 rfl rfl ?_
      refine x_iload_n (pc := 113) o dX12_moved_113 rfl rfl ?_
      obtain ⟨q15, hq15, h⟩ := xbs h
      refine x_callI (pc := 114) (As := [.int a1]) (b := k0) (rest := []) o (tX12_lateAll _ M _ n k0 a1 S14 q15 hq15) eX12_lateAll mX12_599 clX12 (kX12_lateAll hq15) (by decide) rfl rfl (Nat.le_of_ble_eq_true rfl) dX12_moved_114 ?_
      refine x_istore (pc := 117) o dX12_moved_117 hn9 ?_
      refine x_aload_n (pc := 119) o dX12_moved_119 rfl rfl ?_
      refine x_iconst (pc := 120) o dX12_moved_120 ic_m1 ?_
      obtain ⟨S16, hS16, h⟩ := xbs h
      refine pX12_222 (pc := 121) o dX12_moved_121 hS16 ?_
      refine x_iload (pc := 124) o dX12_moved_124 rfl ?_
      refine x_iload (pc := 126) o dX12_moved_126 rfl ?_
      refine x_icmp_lt (pc := 128) (tgt := 134) o dX12_moved_128 (by decide) (fun c19 => ?_) (fun c19 => ?_)
      · have h := xit h c19
        refine x_iload (pc := 134) o dX12_moved_134 rfl ?_
        refine x_istore (pc := 136) o dX12_moved_136 hn4 ?_
        refine x_iload (pc := 138) o dX12_moved_138 rfl ?_
        refine x_istore (pc := 140) o dX12_moved_140 hn5 ?_
        refine x_iload (pc := 142) o dX12_moved_142 rfl ?_
        refine x_istore (pc := 144) o dX12_moved_144 hn6 ?_
        obtain ⟨v17, hv17, h⟩ := xbs h
        refine x_iincE (pc := 146) o dX12_moved_146 rfl ic_1 hn8 hv17 ?_
        refine x_goto (pc := 149) (tgt := 57) o dX12_moved_149 (by decide) ?_
        refine x_to (l := [(0, .ref (M.2.1 k0)), (1, .int a1), (2, .int a2), (3, .int a3), (4, .int q15.1), (5, .int a7), (6, .int a8), (7, .int a7), (8, .int v17)]) ⟨rfl, rfl, rfl, rfl, rfl, rfl, rfl, rfl, rfl, trivial⟩ ?_
        exact hrec q15.1 a7 a8 v17 S16 h
      · have h := xif h c19
        refine x_goto (pc := 131) (tgt := 146) o dX12_moved_131 (by decide) ?_
        obtain ⟨v18, hv18, h⟩ := xbs h
        refine x_iincE (pc := 146) o dX12_moved_146 rfl ic_1 hn8 hv18 ?_
        refine x_goto (pc := 149) (tgt := 57) o dX12_moved_149 (by decide) ?_
        refine x_to (l := [(0, .ref (M.2.1 k0)), (1, .int a1), (2, .int a2), (3, .int a3), (4, .int a4), (5, .int a5), (6, .int a6), (7, .int a7), (8, .int v18)]) ⟨rfl, rfl, rfl, rfl, rfl, rfl, rfl, rfl, rfl, trivial⟩ ?_
        exact hrec a4 a5 a6 v18 S16 h
    · have h := xit h c21
      refine x_goto (pc := 97) (tgt := 146) o dX12_moved_97 (by decide) ?_
      obtain ⟨v20, hv20, h⟩ := xbs h
      refine x_iincE (pc := 146) o dX12_moved_146 rfl ic_1 hn8 hv20 ?_
      refine x_goto (pc := 149) (tgt := 57) o dX12_moved_149 (by decide) ?_
      refine x_to (l := [(0, .ref (M.2.1 k0)), (1, .int a1), (2, .int a2), (3, .int a3), (4, .int a4), (5, .int a5), (6, .int a6), (7, .int a7), (8, .int v20)]) ⟨rfl, rfl, rfl, rfl, rfl, rfl, rfl, rfl, rfl, trivial⟩ ?_
      exact hrec a4 a5 a6 v20 S h
theorem tX12_moved_L57 {Γ : xGm} {M : xMg} (o : xOk Γ tM M 10 cX12_moved RX12) (hnL : Γ.2.2.2 = 10) (n : Nat) (k0 : Nat) (a1 : Int32) (a2 : Int32) (a3 : Int32) (a7 : Int32) (z : (Int32 × Int32 × Int32 × xSt)) (K : xAt Γ tM M 152 (xlv [(0, .ref (M.2.1 k0)), (1, .int a1), (2, .int a2), (3, .int a3), (4, .int z.1), (5, .int z.2.1), (6, .int z.2.2.1), (7, .int a7)]) [] z.2.2.2) : ∀ (q : Nat) (a4 : Int32) (a5 : Int32) (a6 : Int32) (a8 : Int32) (S : xSt), fX12_moved_L57 n k0 a1 a2 a3 a7 q a4 a5 a6 a8 S = some z → xAt Γ tM M 57 (xlv [(0, .ref (M.2.1 k0)), (1, .int a1), (2, .int a2), (3, .int a3), (4, .int a4), (5, .int a5), (6, .int a6), (7, .int a7), (8, .int a8)]) [] S := by
  intro q
  induction q with
  | zero => intro a4 a5 a6 a8 S h; cases h
  | succ q ih => intro a4 a5 a6 a8 S h; exact tX12_moved_L57b o hnL n k0 a1 a2 a3 a7 a4 a5 a6 a8 S z ih K h
def fX12_moved_L40b (n : Nat) (k0 : Nat) (a1 : Int32) (a2 : Int32) (a3 : Int32) (rec : Int32 → Int32 → Int32 → Int32 → xSt → Option (Int32 × Int32 × Int32 × xSt)) (a4 : Int32) (a5 : Int32) (a6 : Int32) (a7 : Int32) (S : xSt) : Option (Int32 × Int32 × Int32 × xSt) :=
  (xgF tM 12 14 k0 S).bind fun r4 =>
  (xgI tM 12 13 k0 S).bind fun v5 =>
  (xal tM r4 v5 S).bind fun v6 =>
  if v6 ≤ a7 then
  (some (a4, a5, a6, S))
else
  ((fX12_moved_L57 n k0 a1 a2 a3 a7 n a4 a5 a6 ((0 : Int32)) S).bind fun z23 => (some (a7 + (1 : Int32))).bind fun v24 =>
  rec z23.1 z23.2.1 z23.2.2.1 v24 z23.2.2.2)
def fX12_moved_L40 (n : Nat) (k0 : Nat) (a1 : Int32) (a2 : Int32) (a3 : Int32) : Nat → Int32 → Int32 → Int32 → Int32 → xSt → Option (Int32 × Int32 × Int32 × xSt)
  | 0 => fun _ _ _ _ _ => none
  | q + 1 => fX12_moved_L40b n k0 a1 a2 a3 (fX12_moved_L40 n k0 a1 a2 a3 q)
set_option maxHeartbeats 4000000 in
theorem tX12_moved_L40b {Γ : xGm} {M : xMg} (o : xOk Γ tM M 10 cX12_moved RX12) (hnL : Γ.2.2.2 = 10) {rec : Int32 → Int32 → Int32 → Int32 → xSt → Option (Int32 × Int32 × Int32 × xSt)} (n : Nat) (k0 : Nat) (a1 : Int32) (a2 : Int32) (a3 : Int32) (a4 : Int32) (a5 : Int32) (a6 : Int32) (a7 : Int32) (S : xSt) (z : (Int32 × Int32 × Int32 × xSt)) (hrec : ∀ (a4 : Int32) (a5 : Int32) (a6 : Int32) (a7 : Int32) (S : xSt), rec a4 a5 a6 a7 S = some z → xAt Γ tM M 40 (xlv [(0, .ref (M.2.1 k0)), (1, .int a1), (2, .int a2), (3, .int a3), (4, .int a4), (5, .int a5), (6, .int a6), (7, .int a7)]) [] S) (K : xAt Γ tM M 158 (xlv [(2, .int a2), (3, .int a3), (4, .int z.1), (5, .int z.2.1), (6, .int z.2.2.1)]) [] z.2.2.2) (h : fX12_moved_L40b n k0 a1 a2 a3 rec a4 a5 a6 a7 S = some z) : xAt Γ tM M 40 (xlv [(0, .ref (M.2.1 k0)), (1, .int a1), (2, .int a2), (3, .int a3), (4, .int a4), (5, .int a5), (6, .int a6), (7, .int a7)]) [] S := by
  have hn7 : 7 < Γ.2.2.2 := by omega
  have hn8 : 8 < Γ.2.2.2 := by omega
  unfold fX12_moved_L40b at h
  refine x_iload (pc := 40) o dX12_moved_40 rfl ?_
  refine x_aload_n (pc := 42) o dX12_moved_42 rfl rfl ?_
  obtain ⟨r4, hr4, h⟩ := xbs h
  refine gX12_54 (pc := 43) o dX12_moved_43 hr4 ?_
  refine x_aload_n (pc := 46) o dX12_moved_46 rfl rfl ?_
  obtain ⟨v5, hv5, h⟩ := xbs h
  refine gX12_51 (pc := 47) o dX12_moved_47 hv5 ?_
  obtain ⟨v6, hv6, h⟩ := xbs h
  refine x_iaload (pc := 50) o dX12_moved_50 hv6 ?_
  refine x_icmp_ge (pc := 51) (tgt := 158) o dX12_moved_51 (by decide) (fun c25 => ?_) (fun c25 => ?_)
  · have h := xit h c25
    refine x_to (l := [(2, .int a2), (3, .int a3), (4, .int a4), (5, .int a5), (6, .int a6)]) ⟨rfl, rfl, rfl, rfl, rfl, trivial⟩ ?_
    cases Option.some.inj h
    exact K
  · have h := xif h c25
    refine x_iconst (pc := 54) o dX12_moved_54 ic_0 ?_
    refine x_istore (pc := 55) o dX12_moved_55 hn8 ?_
    obtain ⟨z23, hz23, h⟩ := xbs h
    refine x_to (l := [(0, .ref (M.2.1 k0)), (1, .int a1), (2, .int a2), (3, .int a3), (4, .int a4), (5, .int a5), (6, .int a6), (7, .int a7), (8, .int ((0 : Int32)))]) ⟨rfl, rfl, rfl, rfl, rfl, rfl, rfl, rfl, rfl, trivial⟩ ?_
    refine tX12_moved_L57 o hnL n k0 a1 a2 a3 a7 z23 ?_ n a4 a5 a6 ((0 : Int32)) S hz23
    obtain ⟨v24, hv24, h⟩ := xbs h
    refine x_iincE (pc := 152) o dX12_moved_152 rfl ic_1 hn7 hv24 ?_
    refine x_goto (pc := 155) (tgt := 40) o dX12_moved_155 (by decide) ?_
    refine x_to (l := [(0, .ref (M.2.1 k0)), (1, .int a1), (2, .int a2), (3, .int a3), (4, .int z23.1), (5, .int z23.2.1), (6, .int z23.2.2.1), (7, .int v24)]) ⟨rfl, rfl, rfl, rfl, rfl, rfl, rfl, rfl, trivial⟩ ?_
    exact hrec z23.1 z23.2.1 z23.2.2.1 v24 z23.2.2.2 h
theorem tX12_moved_L40 {Γ : xGm} {M : xMg} (o : xOk Γ tM M 10 cX12_moved RX12) (hnL : Γ.2.2.2 = 10) (n : Nat) (k0 : Nat) (a1 : Int32) (a2 : Int32) (a3 : Int32) (z : (Int32 × Int32 × Int32 × xSt)) (K : xAt Γ tM M 158 (xlv [(2, .int a2), (3, .int a3), (4, .int z.1), (5, .int z.2.1), (6, .int z.2.2.1)]) [] z.2.2.2) : ∀ (q : Nat) (a4 : Int32) (a5 : Int32) (a6 : Int32) (a7 : Int32) (S : xSt), fX12_moved_L40 n k0 a1 a2 a3 q a4 a5 a6 a7 S = some z → xAt Γ tM M 40 (xlv [(0, .ref (M.2.1 k0)), (1, .int a1), (2, .int a2), (3, .int a3), (4, .int a4), (5, .int a5), (6, .int a6), (7, .int a7)]) [] S := by
  intro q
  induction q with
  | zero => intro a4 a5 a6 a7 S h; cases h
  | succ q ih => intro a4 a5 a6 a7 S h; exact tX12_moved_L40b o hnL n k0 a1 a2 a3 a4 a5 a6 a7 S z ih K h
def fX12_moved (n : Nat) (k0 : Nat) (a1 : Int32) (a2 : Int32) (S : xSt) : Option (Int32 × xSt) :=
  if tM.1 k0 = 12 then
  ((fX12_isAhead k0 a1 ((1 : Int32)) ((60 : Int32)) S).bind fun v1 =>
  if v1 = 0 then
  (some ((-1 : Int32), S))
else
  ((fX12_is a2 ((0 : Int32)) ((2 : Int32)) S).bind fun v2 =>
  if v2 = 0 then
  (some ((-1 : Int32), S))
else
  ((fX12_lateAll n k0 a1 S).bind fun q3 =>
  (fX12_moved_L40 n k0 a1 a2 q3.1 n q3.1 ((-1 : Int32)) ((-1 : Int32)) ((0 : Int32)) q3.2).bind fun z26 => if z26.2.1 = ((-1 : Int32)) then
  (some ((-1 : Int32), z26.2.2.2))
else
  (if a2 = 0 then
  (some (z26.2.1, z26.2.2.2))
else
  (if a2 = ((1 : Int32)) then
  (some (z26.2.2.1, z26.2.2.2))
else
  (some (q3.1 - z26.1, z26.2.2.2)))))))
  else none
theorem kX12_moved {z : Int32 × xSt} {n : Nat} {k0 : Nat} {a1 : Int32} {a2 : Int32} {S : xSt} (h : fX12_moved n k0 a1 a2 S = some z) : tM.1 k0 = 12 := by
  unfold fX12_moved at h
  exact (xck h).1
set_option maxHeartbeats 4000000 in
theorem tX12_moved (l : Launch) (M : xMg) (A : Nat → Prop) (n : Nat) (k0 : Nat) (a1 : Int32) (a2 : Int32) (S : xSt) (z : Int32 × xSt) (h : fX12_moved n k0 a1 a2 S = some z) : xMI l yX12_moved cX12_moved 10 (some .int) 10 tM M A [.ref (M.2.1 k0), .int a1, .int a2] S z.1 z.2 := by
  refine x_metI (plainFor_of_name (by decide)) tM_ok (Nat.le_of_ble_eq_true rfl) (fun Γ hA hnL hl hr o => ?_)
  subst hA; subst hl
  have o : xOk Γ tM M 10 cX12_moved RX12 := o
  unfold fX12_moved at h
  obtain ⟨hk0, h⟩ := xck h
  refine x_to (l := [(0, .ref (M.2.1 k0)), (1, .int a1), (2, .int a2)]) ⟨rfl, rfl, rfl, trivial⟩ ?_
  have hn3 : 3 < Γ.2.2.2 := by omega
  have hn4 : 4 < Γ.2.2.2 := by omega
  have hn5 : 5 < Γ.2.2.2 := by omega
  have hn6 : 6 < Γ.2.2.2 := by omega
  have hn7 : 7 < Γ.2.2.2 := by omega
  refine x_aload_n (pc := 0) o dX12_moved_0 rfl rfl ?_
  refine x_iload_n (pc := 1) o dX12_moved_1 rfl rfl ?_
  refine x_iconst (pc := 2) o dX12_moved_2 ic_1 ?_
  refine x_bipush (pc := 3) o dX12_moved_3 bp_60 ?_
  obtain ⟨v1, hv1, h⟩ := xbs h
  refine x_callI (pc := 5) (As := [.int a1, .int ((1 : Int32)), .int ((60 : Int32))]) (b := k0) (rest := []) o (tX12_isAhead _ M _ k0 a1 ((1 : Int32)) ((60 : Int32)) S v1 hv1) eX12_isAhead mX12_592 clX12 (kX12_isAhead hv1) (by decide) rfl rfl (Nat.le_of_ble_eq_true rfl) dX12_moved_5 ?_
  refine x_if_eq (pc := 8) (tgt := 20) o dX12_moved_8 (by decide) (fun c31 => ?_) (fun c31 => ?_)
  · have h := xit h c31
    refine x_iconst (pc := 20) o dX12_moved_20 ic_m1 ?_
    exact x_ireturn (pc := 21) o hr dX12_moved_21 (xr1 h) (xr2 h)
  · have h := xif h c31
    refine x_iload_n (pc := 11) o dX12_moved_11 rfl rfl ?_
    refine x_iconst (pc := 12) o dX12_moved_12 ic_0 ?_
    refine x_iconst (pc := 13) o dX12_moved_13 ic_2 ?_
    obtain ⟨v2, hv2, h⟩ := xbs h
    refine x_statI (pc := 14) (As := [.int a2, .int ((0 : Int32)), .int ((2 : Int32))]) (rest := []) o (tX12_is _ M _ a2 ((0 : Int32)) ((2 : Int32)) S v2 hv2) eX12_is mX12_379 (by decide) rfl rfl (Nat.le_of_ble_eq_true rfl) dX12_moved_14 ?_
    refine x_if_ne (pc := 17) (tgt := 22) o dX12_moved_17 (by decide) (fun c30 => ?_) (fun c30 => ?_)
    · have h := xif h c30
      refine x_aload_n (pc := 22) o dX12_moved_22 rfl rfl ?_
      refine x_iload_n (pc := 23) o dX12_moved_23 rfl rfl ?_
      obtain ⟨q3, hq3, h⟩ := xbs h
      refine x_callI (pc := 24) (As := [.int a1]) (b := k0) (rest := []) o (tX12_lateAll _ M _ n k0 a1 S q3 hq3) eX12_lateAll mX12_599 clX12 (kX12_lateAll hq3) (by decide) rfl rfl (Nat.le_of_ble_eq_true rfl) dX12_moved_24 ?_
      refine x_istore_n (pc := 27) o dX12_moved_27 rfl hn3 ?_
      refine x_iload_n (pc := 28) o dX12_moved_28 rfl rfl ?_
      refine x_istore (pc := 29) o dX12_moved_29 hn4 ?_
      refine x_iconst (pc := 31) o dX12_moved_31 ic_m1 ?_
      refine x_istore (pc := 32) o dX12_moved_32 hn5 ?_
      refine x_iconst (pc := 34) o dX12_moved_34 ic_m1 ?_
      refine x_istore (pc := 35) o dX12_moved_35 hn6 ?_
      refine x_iconst (pc := 37) o dX12_moved_37 ic_0 ?_
      refine x_istore (pc := 38) o dX12_moved_38 hn7 ?_
      obtain ⟨z26, hz26, h⟩ := xbs h
      refine x_to (l := [(0, .ref (M.2.1 k0)), (1, .int a1), (2, .int a2), (3, .int q3.1), (4, .int q3.1), (5, .int ((-1 : Int32))), (6, .int ((-1 : Int32))), (7, .int ((0 : Int32)))]) ⟨rfl, rfl, rfl, rfl, rfl, rfl, rfl, rfl, trivial⟩ ?_
      refine tX12_moved_L40 o hnL n k0 a1 a2 q3.1 z26 ?_ n q3.1 ((-1 : Int32)) ((-1 : Int32)) ((0 : Int32)) q3.2 hz26
      refine x_iload (pc := 158) o dX12_moved_158 rfl ?_
      refine x_iconst (pc := 160) o dX12_moved_160 ic_m1 ?_
      refine x_icmp_ne (pc := 161) (tgt := 168) o dX12_moved_161 (by decide) (fun c29 => ?_) (fun c29 => ?_)
      · have h := xif h c29
        refine x_iload_n (pc := 168) o dX12_moved_168 rfl rfl ?_
        refine x_if_ne (pc := 169) (tgt := 177) o dX12_moved_169 (by decide) (fun c28 => ?_) (fun c28 => ?_)
        · have h := xif h c28
          refine x_iload_n (pc := 177) o dX12_moved_177 rfl rfl ?_
          refine x_iconst (pc := 178) o dX12_moved_178 ic_1 ?_
          refine x_icmp_ne (pc := 179) (tgt := 187) o dX12_moved_179 (by decide) (fun c27 => ?_) (fun c27 => ?_)
          · have h := xif h c27
            refine x_iload_n (pc := 187) o dX12_moved_187 rfl rfl ?_
            refine x_iload (pc := 188) o dX12_moved_188 rfl ?_
            refine x_isub (pc := 190) o dX12_moved_190 ?_
            exact x_ireturn (pc := 191) o hr dX12_moved_191 (xr1 h) (xr2 h)
          · have h := xit h c27
            refine x_iload (pc := 182) o dX12_moved_182 rfl ?_
            refine x_goto (pc := 184) (tgt := 191) o dX12_moved_184 (by decide) ?_
            exact x_ireturn (pc := 191) o hr dX12_moved_191 (xr1 h) (xr2 h)
        · have h := xit h c28
          refine x_iload (pc := 172) o dX12_moved_172 rfl ?_
          refine x_goto (pc := 174) (tgt := 191) o dX12_moved_174 (by decide) ?_
          exact x_ireturn (pc := 191) o hr dX12_moved_191 (xr1 h) (xr2 h)
      · have h := xit h c29
        refine x_iconst (pc := 164) o dX12_moved_164 ic_m1 ?_
        refine x_goto (pc := 165) (tgt := 191) o dX12_moved_165 (by decide) ?_
        exact x_ireturn (pc := 191) o hr dX12_moved_191 (xr1 h) (xr2 h)
    · have h := xit h c30
      refine x_iconst (pc := 20) o dX12_moved_20 ic_m1 ?_
      exact x_ireturn (pc := 21) o hr dX12_moved_21 (xr1 h) (xr2 h)
def fX12_serves (k0 : Nat) (a1 : Int32) (a2 : Int32) (S : xSt) : Option (Int32) :=
  if tM.1 k0 = 12 then
  ((xgF tM 12 27 k0 S).bind fun r1 =>
  (xgI tM 12 13 k0 S).bind fun v2 =>
  (xal tM r1 ((((6 : Int32)) * ((((6 : Int32)) * v2) + a1)) + a2) S).bind fun v3 =>
  some v3)
  else none
theorem kX12_serves {z : Int32} {k0 : Nat} {a1 : Int32} {a2 : Int32} {S : xSt} (h : fX12_serves k0 a1 a2 S = some z) : tM.1 k0 = 12 := by
  unfold fX12_serves at h
  exact (xck h).1
set_option maxHeartbeats 4000000 in
theorem tX12_serves (l : Launch) (M : xMg) (A : Nat → Prop) (k0 : Nat) (a1 : Int32) (a2 : Int32) (S : xSt) (z : Int32) (h : fX12_serves k0 a1 a2 S = some z) : xMI l yX12_serves cX12_serves 3 (some .int) 1 tM M A [.ref (M.2.1 k0), .int a1, .int a2] S z S := by
  refine x_metI (plainFor_of_name (by decide)) tM_ok (Nat.le_of_ble_eq_true rfl) (fun Γ hA hnL hl hr o => ?_)
  subst hA; subst hl
  have o : xOk Γ tM M 1 cX12_serves RX12 := o
  unfold fX12_serves at h
  obtain ⟨hk0, h⟩ := xck h
  refine x_to (l := [(0, .ref (M.2.1 k0)), (1, .int a1), (2, .int a2)]) ⟨rfl, rfl, rfl, trivial⟩ ?_
  refine x_aload_n (pc := 0) o dX12_serves_0 rfl rfl ?_
  obtain ⟨r1, hr1, h⟩ := xbs h
  refine gX12_93 (pc := 1) o dX12_serves_1 hr1 ?_
  refine x_bipush (pc := 4) o dX12_serves_4 bp_6 ?_
  refine x_bipush (pc := 6) o dX12_serves_6 bp_6 ?_
  refine x_aload_n (pc := 8) o dX12_serves_8 rfl rfl ?_
  obtain ⟨v2, hv2, h⟩ := xbs h
  refine gX12_51 (pc := 9) o dX12_serves_9 hv2 ?_
  refine x_imul (pc := 12) o dX12_serves_12 ?_
  refine x_iload_n (pc := 13) o dX12_serves_13 rfl rfl ?_
  refine x_iadd (pc := 14) o dX12_serves_14 ?_
  refine x_imul (pc := 15) o dX12_serves_15 ?_
  refine x_iload_n (pc := 16) o dX12_serves_16 rfl rfl ?_
  refine x_iadd (pc := 17) o dX12_serves_17 ?_
  obtain ⟨v3, hv3, h⟩ := xbs h
  refine x_iaload (pc := 18) o dX12_serves_18 hv3 ?_
  exact x_ireturn (pc := 19) o hr dX12_serves_19 (Option.some.inj h) rfl
def fX12_isBetter (k0 : Nat) (a1 : Int32) (a2 : Int32) (a3 : Int32) (S : xSt) : Option (Int32) :=
  if tM.1 k0 = 12 then
  ((xgF tM 12 77 k0 S).bind fun r1 =>
  (xal tM r1 a3 S).bind fun v2 =>
  if a1 < v2 then
  (some ((1 : Int32)))
else
  ((xgF tM 12 77 k0 S).bind fun r3 =>
  (xal tM r3 a3 S).bind fun v4 =>
  if a1 = v4 then
  ((xgF tM 12 78 k0 S).bind fun r5 =>
  (xal tM r5 a3 S).bind fun v6 =>
  if v6 ≤ a2 then
  (some ((0 : Int32)))
else
  (some ((1 : Int32))))
else
  (some ((0 : Int32)))))
  else none
theorem kX12_isBetter {z : Int32} {k0 : Nat} {a1 : Int32} {a2 : Int32} {a3 : Int32} {S : xSt} (h : fX12_isBetter k0 a1 a2 a3 S = some z) : tM.1 k0 = 12 := by
  unfold fX12_isBetter at h
  exact (xck h).1
set_option maxHeartbeats 4000000 in
theorem tX12_isBetter (l : Launch) (M : xMg) (A : Nat → Prop) (k0 : Nat) (a1 : Int32) (a2 : Int32) (a3 : Int32) (S : xSt) (z : Int32) (h : fX12_isBetter k0 a1 a2 a3 S = some z) : xMI l yX12_isBetter cX12_isBetter 4 (some .boolean) 1 tM M A [.ref (M.2.1 k0), .int a1, .int a2, .int a3] S z S := by
  refine x_metI (plainFor_of_name (by decide)) tM_ok (Nat.le_of_ble_eq_true rfl) (fun Γ hA hnL hl hr o => ?_)
  subst hA; subst hl
  have o : xOk Γ tM M 1 cX12_isBetter RX12 := o
  unfold fX12_isBetter at h
  obtain ⟨hk0, h⟩ := xck h
  refine x_to (l := [(0, .ref (M.2.1 k0)), (1, .int a1), (2, .int a2), (3, .int a3)]) ⟨rfl, rfl, rfl, rfl, trivial⟩ ?_
  refine x_iload_n (pc := 0) o dX12_isBetter_0 rfl rfl ?_
  refine x_aload_n (pc := 1) o dX12_isBetter_1 rfl rfl ?_
  obtain ⟨r1, hr1, h⟩ := xbs h
  refine gX12_246 (pc := 2) o dX12_isBetter_2 hr1 ?_
  refine x_iload_n (pc := 5) o dX12_isBetter_5 rfl rfl ?_
  obtain ⟨v2, hv2, h⟩ := xbs h
  refine x_iaload (pc := 6) o dX12_isBetter_6 hv2 ?_
  refine x_icmp_lt (pc := 7) (tgt := 30) o dX12_isBetter_7 (by decide) (fun c9 => ?_) (fun c9 => ?_)
  · have h := xit h c9
    refine x_iconst (pc := 30) o dX12_isBetter_30 ic_1 ?_
    refine x_goto (pc := 31) (tgt := 35) o dX12_isBetter_31 (by decide) ?_
    exact x_zreturn (pc := 35) o hr dX12_isBetter_35 (by decide) (Option.some.inj h) rfl
  · have h := xif h c9
    refine x_iload_n (pc := 10) o dX12_isBetter_10 rfl rfl ?_
    refine x_aload_n (pc := 11) o dX12_isBetter_11 rfl rfl ?_
    obtain ⟨r3, hr3, h⟩ := xbs h
    refine gX12_246 (pc := 12) o dX12_isBetter_12 hr3 ?_
    refine x_iload_n (pc := 15) o dX12_isBetter_15 rfl rfl ?_
    obtain ⟨v4, hv4, h⟩ := xbs h
    refine x_iaload (pc := 16) o dX12_isBetter_16 hv4 ?_
    refine x_icmp_ne (pc := 17) (tgt := 34) o dX12_isBetter_17 (by decide) (fun c8 => ?_) (fun c8 => ?_)
    · have h := xif h c8
      refine x_iconst (pc := 34) o dX12_isBetter_34 ic_0 ?_
      exact x_zreturn (pc := 35) o hr dX12_isBetter_35 (by decide) (Option.some.inj h) rfl
    · have h := xit h c8
      refine x_iload_n (pc := 20) o dX12_isBetter_20 rfl rfl ?_
      refine x_aload_n (pc := 21) o dX12_isBetter_21 rfl rfl ?_
      obtain ⟨r5, hr5, h⟩ := xbs h
      refine gX12_249 (pc := 22) o dX12_isBetter_22 hr5 ?_
      refine x_iload_n (pc := 25) o dX12_isBetter_25 rfl rfl ?_
      obtain ⟨v6, hv6, h⟩ := xbs h
      refine x_iaload (pc := 26) o dX12_isBetter_26 hv6 ?_
      refine x_icmp_ge (pc := 27) (tgt := 34) o dX12_isBetter_27 (by decide) (fun c7 => ?_) (fun c7 => ?_)
      · have h := xit h c7
        refine x_iconst (pc := 34) o dX12_isBetter_34 ic_0 ?_
        exact x_zreturn (pc := 35) o hr dX12_isBetter_35 (by decide) (Option.some.inj h) rfl
      · have h := xif h c7
        refine x_iconst (pc := 30) o dX12_isBetter_30 ic_1 ?_
        refine x_goto (pc := 31) (tgt := 35) o dX12_isBetter_31 (by decide) ?_
        exact x_zreturn (pc := 35) o hr dX12_isBetter_35 (by decide) (Option.some.inj h) rfl
def fX12_findsMakeshifts_L2b (n : Nat) (k0 : Nat) (a1 : Int32) (rec : Int32 → xSt → Option (xSt)) (a2 : Int32) (S : xSt) : Option (xSt) :=
  if ((6 : Int32)) ≤ a2 then
  (some S)
else
  ((xgF tM 12 77 k0 S).bind fun r1 =>
  if a2 = a1 then
  ((xas tM r1 a2 ((0 : Int32)) S).bind fun S6 =>
  (xgF tM 12 78 k0 S6).bind fun r7 =>
  (xas tM r7 a2 ((0 : Int32)) S6).bind fun S8 =>
  (some (a2 + (1 : Int32))).bind fun v9 =>
  rec v9 S8)
else
  ((xas tM r1 a2 ((100000000 : Int32)) S).bind fun S2 =>
  (xgF tM 12 78 k0 S2).bind fun r3 =>
  (xas tM r3 a2 ((0 : Int32)) S2).bind fun S4 =>
  (some (a2 + (1 : Int32))).bind fun v5 =>
  rec v5 S4))
def fX12_findsMakeshifts_L2 (n : Nat) (k0 : Nat) (a1 : Int32) : Nat → Int32 → xSt → Option (xSt)
  | 0 => fun _ _ => none
  | q + 1 => fX12_findsMakeshifts_L2b n k0 a1 (fX12_findsMakeshifts_L2 n k0 a1 q)
set_option maxHeartbeats 4000000 in
theorem tX12_findsMakeshifts_L2b {Γ : xGm} {M : xMg} (o : xOk Γ tM M 2 cX12_findsMakeshifts RX12) (hnL : Γ.2.2.2 = 5) {rec : Int32 → xSt → Option (xSt)} (n : Nat) (k0 : Nat) (a1 : Int32) (a2 : Int32) (S : xSt) (z : (xSt)) (hrec : ∀ (a2 : Int32) (S : xSt), rec a2 S = some z → xAt Γ tM M 2 (xlv [(0, .ref (M.2.1 k0)), (1, .int a1), (2, .int a2)]) [] S) (K : xAt Γ tM M 39 (xlv [(0, .ref (M.2.1 k0))]) [] z) (h : fX12_findsMakeshifts_L2b n k0 a1 rec a2 S = some z) : xAt Γ tM M 2 (xlv [(0, .ref (M.2.1 k0)), (1, .int a1), (2, .int a2)]) [] S := by
  have hn2 : 2 < Γ.2.2.2 := by omega
  unfold fX12_findsMakeshifts_L2b at h
  refine x_iload_n (pc := 2) o dX12_findsMakeshifts_2 rfl rfl ?_
  refine x_bipush (pc := 3) o dX12_findsMakeshifts_3 bp_6 ?_
  refine x_icmp_ge (pc := 5) (tgt := 39) o dX12_findsMakeshifts_5 (by decide) (fun c11 => ?_) (fun c11 => ?_)
  · have h := xit h c11
    refine x_to (l := [(0, .ref (M.2.1 k0))]) ⟨rfl, trivial⟩ ?_
    cases Option.some.inj h
    exact K
  · have h := xif h c11
    refine x_aload_n (pc := 8) o dX12_findsMakeshifts_8 rfl rfl ?_
    obtain ⟨r1, hr1, h⟩ := xbs h
    refine gX12_246 (pc := 9) o dX12_findsMakeshifts_9 hr1 ?_
    refine x_iload_n (pc := 12) o dX12_findsMakeshifts_12 rfl rfl ?_
    refine x_iload_n (pc := 13) o dX12_findsMakeshifts_13 rfl rfl ?_
    refine x_iload_n (pc := 14) o dX12_findsMakeshifts_14 rfl rfl ?_
    refine x_icmp_ne (pc := 15) (tgt := 22) o dX12_findsMakeshifts_15 (by decide) (fun c10 => ?_) (fun c10 => ?_)
    · have h := xif h c10
      refine x_ldcw (pc := 22) o kcX12_602 dX12_findsMakeshifts_22 ?_
      obtain ⟨S2, hS2, h⟩ := xbs h
      refine x_iastore (pc := 25) o dX12_findsMakeshifts_25 hS2 ?_
      refine x_aload_n (pc := 26) o dX12_findsMakeshifts_26 rfl rfl ?_
      obtain ⟨r3, hr3, h⟩ := xbs h
      refine gX12_249 (pc := 27) o dX12_findsMakeshifts_27 hr3 ?_
      refine x_iload_n (pc := 30) o dX12_findsMakeshifts_30 rfl rfl ?_
      refine x_iconst (pc := 31) o dX12_findsMakeshifts_31 ic_0 ?_
      obtain ⟨S4, hS4, h⟩ := xbs h
      refine x_iastore (pc := 32) o dX12_findsMakeshifts_32 hS4 ?_
      obtain ⟨v5, hv5, h⟩ := xbs h
      refine x_iincE (pc := 33) o dX12_findsMakeshifts_33 rfl ic_1 hn2 hv5 ?_
      refine x_goto (pc := 36) (tgt := 2) o dX12_findsMakeshifts_36 (by decide) ?_
      refine x_to (l := [(0, .ref (M.2.1 k0)), (1, .int a1), (2, .int v5)]) ⟨rfl, rfl, rfl, trivial⟩ ?_
      exact hrec v5 S4 h
    · have h := xit h c10
      refine x_iconst (pc := 18) o dX12_findsMakeshifts_18 ic_0 ?_
      refine x_goto (pc := 19) (tgt := 25) o dX12_findsMakeshifts_19 (by decide) ?_
      obtain ⟨S6, hS6, h⟩ := xbs h
      refine x_iastore (pc := 25) o dX12_findsMakeshifts_25 hS6 ?_
      refine x_aload_n (pc := 26) o dX12_findsMakeshifts_26 rfl rfl ?_
      obtain ⟨r7, hr7, h⟩ := xbs h
      refine gX12_249 (pc := 27) o dX12_findsMakeshifts_27 hr7 ?_
      refine x_iload_n (pc := 30) o dX12_findsMakeshifts_30 rfl rfl ?_
      refine x_iconst (pc := 31) o dX12_findsMakeshifts_31 ic_0 ?_
      obtain ⟨S8, hS8, h⟩ := xbs h
      refine x_iastore (pc := 32) o dX12_findsMakeshifts_32 hS8 ?_
      obtain ⟨v9, hv9, h⟩ := xbs h
      refine x_iincE (pc := 33) o dX12_findsMakeshifts_33 rfl ic_1 hn2 hv9 ?_
      refine x_goto (pc := 36) (tgt := 2) o dX12_findsMakeshifts_36 (by decide) ?_
      refine x_to (l := [(0, .ref (M.2.1 k0)), (1, .int a1), (2, .int v9)]) ⟨rfl, rfl, rfl, trivial⟩ ?_
      exact hrec v9 S8 h
theorem tX12_findsMakeshifts_L2 {Γ : xGm} {M : xMg} (o : xOk Γ tM M 2 cX12_findsMakeshifts RX12) (hnL : Γ.2.2.2 = 5) (n : Nat) (k0 : Nat) (a1 : Int32) (z : (xSt)) (K : xAt Γ tM M 39 (xlv [(0, .ref (M.2.1 k0))]) [] z) : ∀ (q : Nat) (a2 : Int32) (S : xSt), fX12_findsMakeshifts_L2 n k0 a1 q a2 S = some z → xAt Γ tM M 2 (xlv [(0, .ref (M.2.1 k0)), (1, .int a1), (2, .int a2)]) [] S := by
  intro q
  induction q with
  | zero => intro a2 S h; cases h
  | succ q ih => intro a2 S h; exact tX12_findsMakeshifts_L2b o hnL n k0 a1 a2 S z ih K h
def fX12_findsMakeshifts_L65b (n : Nat) (k0 : Nat) (a2 : Int32) (a3 : Int32) (rec : Int32 → xSt → Option (xSt)) (a4 : Int32) (S : xSt) : Option (xSt) :=
  (xgF tM 12 14 k0 S).bind fun r16 =>
  (xgI tM 12 13 k0 S).bind fun v17 =>
  (xal tM r16 v17 S).bind fun v18 =>
  if v18 ≤ a4 then
  (some S)
else
  ((fX12_serves k0 a4 a3 S).bind fun v19 =>
  if v19 = 0 then
  ((some (a4 + (1 : Int32))).bind fun v20 =>
  rec v20 S)
else
  ((xgF tM 12 77 k0 S).bind fun r21 =>
  (xal tM r21 a4 S).bind fun v22 =>
  if v22 = ((100000000 : Int32)) then
  ((some (a4 + (1 : Int32))).bind fun v23 =>
  rec v23 S)
else
  ((xgF tM 12 77 k0 S).bind fun r24 =>
  (xal tM r24 a4 S).bind fun v25 =>
  (fX12_serves k0 a4 a3 S).bind fun v26 =>
  (xgF tM 12 78 k0 S).bind fun r27 =>
  (xal tM r27 a4 S).bind fun v28 =>
  (fX12_isBetter k0 (v25 + v26) (v28 + ((1 : Int32))) a3 S).bind fun v29 =>
  if v29 = 0 then
  ((some (a4 + (1 : Int32))).bind fun v40 =>
  rec v40 S)
else
  ((xgF tM 12 77 k0 S).bind fun r30 =>
  (xgF tM 12 77 k0 S).bind fun r31 =>
  (xal tM r31 a4 S).bind fun v32 =>
  (fX12_serves k0 a4 a3 S).bind fun v33 =>
  (xas tM r30 a3 (v32 + v33) S).bind fun S34 =>
  (xgF tM 12 78 k0 S34).bind fun r35 =>
  (xgF tM 12 78 k0 S34).bind fun r36 =>
  (xal tM r36 a4 S34).bind fun v37 =>
  (xas tM r35 a3 (v37 + ((1 : Int32))) S34).bind fun S38 =>
  (some (a4 + (1 : Int32))).bind fun v39 =>
  rec v39 S38))))
def fX12_findsMakeshifts_L65 (n : Nat) (k0 : Nat) (a2 : Int32) (a3 : Int32) : Nat → Int32 → xSt → Option (xSt)
  | 0 => fun _ _ => none
  | q + 1 => fX12_findsMakeshifts_L65b n k0 a2 a3 (fX12_findsMakeshifts_L65 n k0 a2 a3 q)
set_option maxHeartbeats 4000000 in
theorem tX12_findsMakeshifts_L65b {Γ : xGm} {M : xMg} (o : xOk Γ tM M 2 cX12_findsMakeshifts RX12) (hnL : Γ.2.2.2 = 5) {rec : Int32 → xSt → Option (xSt)} (n : Nat) (k0 : Nat) (a2 : Int32) (a3 : Int32) (a4 : Int32) (S : xSt) (z : (xSt)) (hrec : ∀ (a4 : Int32) (S : xSt), rec a4 S = some z → xAt Γ tM M 65 (xlv [(0, .ref (M.2.1 k0)), (2, .int a2), (3, .int a3), (4, .int a4)]) [] S) (K : xAt Γ tM M 179 (xlv [(0, .ref (M.2.1 k0)), (2, .int a2), (3, .int a3)]) [] z) (h : fX12_findsMakeshifts_L65b n k0 a2 a3 rec a4 S = some z) : xAt Γ tM M 65 (xlv [(0, .ref (M.2.1 k0)), (2, .int a2), (3, .int a3), (4, .int a4)]) [] S := by
  have hn4 : 4 < Γ.2.2.2 := by omega
  unfold fX12_findsMakeshifts_L65b at h
  refine x_iload (pc := 65) o dX12_findsMakeshifts_65 rfl ?_
  refine x_aload_n (pc := 67) o dX12_findsMakeshifts_67 rfl rfl ?_
  obtain ⟨r16, hr16, h⟩ := xbs h
  refine gX12_54 (pc := 68) o dX12_findsMakeshifts_68 hr16 ?_
  refine x_aload_n (pc := 71) o dX12_findsMakeshifts_71 rfl rfl ?_
  obtain ⟨v17, hv17, h⟩ := xbs h
  refine gX12_51 (pc := 72) o dX12_findsMakeshifts_72 hv17 ?_
  obtain ⟨v18, hv18, h⟩ := xbs h
  refine x_iaload (pc := 75) o dX12_findsMakeshifts_75 hv18 ?_
  refine x_icmp_ge (pc := 76) (tgt := 179) o dX12_findsMakeshifts_76 (by decide) (fun c44 => ?_) (fun c44 => ?_)
  · have h := xit h c44
    refine x_to (l := [(0, .ref (M.2.1 k0)), (2, .int a2), (3, .int a3)]) ⟨rfl, rfl, rfl, trivial⟩ ?_
    cases Option.some.inj h
    exact K
  · have h := xif h c44
    refine x_aload_n (pc := 79) o dX12_findsMakeshifts_79 rfl rfl ?_
    refine x_iload (pc := 80) o dX12_findsMakeshifts_80 rfl ?_
    refine x_iload_n (pc := 82) o dX12_findsMakeshifts_82 rfl rfl ?_
    obtain ⟨v19, hv19, h⟩ := xbs h
    refine x_callI (pc := 83) (As := [.int a4, .int a3]) (b := k0) (rest := []) o (tX12_serves _ M _ k0 a4 a3 S v19 hv19) eX12_serves mX12_606 clX12 (kX12_serves hv19) (by decide) rfl rfl (Nat.le_of_ble_eq_true rfl) dX12_findsMakeshifts_83 ?_
    refine x_if_eq (pc := 86) (tgt := 173) o dX12_findsMakeshifts_86 (by decide) (fun c43 => ?_) (fun c43 => ?_)
    · have h := xit h c43
      obtain ⟨v20, hv20, h⟩ := xbs h
      refine x_iincE (pc := 173) o dX12_findsMakeshifts_173 rfl ic_1 hn4 hv20 ?_
      refine x_goto (pc := 176) (tgt := 65) o dX12_findsMakeshifts_176 (by decide) ?_
      refine x_to (l := [(0, .ref (M.2.1 k0)), (2, .int a2), (3, .int a3), (4, .int v20)]) ⟨rfl, rfl, rfl, rfl, trivial⟩ ?_
      exact hrec v20 S h
    · have h := xif h c43
      refine x_aload_n (pc := 89) o dX12_findsMakeshifts_89 rfl rfl ?_
      obtain ⟨r21, hr21, h⟩ := xbs h
      refine gX12_246 (pc := 90) o dX12_findsMakeshifts_90 hr21 ?_
      refine x_iload (pc := 93) o dX12_findsMakeshifts_93 rfl ?_
      obtain ⟨v22, hv22, h⟩ := xbs h
      refine x_iaload (pc := 95) o dX12_findsMakeshifts_95 hv22 ?_
      refine x_ldcw (pc := 96) o kcX12_602 dX12_findsMakeshifts_96 ?_
      refine x_icmp_eq (pc := 99) (tgt := 173) o dX12_findsMakeshifts_99 (by decide) (fun c42 => ?_) (fun c42 => ?_)
      · have h := xit h c42
        obtain ⟨v23, hv23, h⟩ := xbs h
        refine x_iincE (pc := 173) o dX12_findsMakeshifts_173 rfl ic_1 hn4 hv23 ?_
        refine x_goto (pc := 176) (tgt := 65) o dX12_findsMakeshifts_176 (by decide) ?_
        refine x_to (l := [(0, .ref (M.2.1 k0)), (2, .int a2), (3, .int a3), (4, .int v23)]) ⟨rfl, rfl, rfl, rfl, trivial⟩ ?_
        exact hrec v23 S h
      · have h := xif h c42
        refine x_aload_n (pc := 102) o dX12_findsMakeshifts_102 rfl rfl ?_
        refine x_aload_n (pc := 103) o dX12_findsMakeshifts_103 rfl rfl ?_
        obtain ⟨r24, hr24, h⟩ := xbs h
        refine gX12_246 (pc := 104) o dX12_findsMakeshifts_104 hr24 ?_
        refine x_iload (pc := 107) o dX12_findsMakeshifts_107 rfl ?_
        obtain ⟨v25, hv25, h⟩ := xbs h
        refine x_iaload (pc := 109) o dX12_findsMakeshifts_109 hv25 ?_
        refine x_aload_n (pc := 110) o dX12_findsMakeshifts_110 rfl rfl ?_
        refine x_iload (pc := 111) o dX12_findsMakeshifts_111 rfl ?_
        refine x_iload_n (pc := 113) o dX12_findsMakeshifts_113 rfl rfl ?_
        obtain ⟨v26, hv26, h⟩ := xbs h
        refine x_callI (pc := 114) (As := [.int a4, .int a3]) (b := k0) (rest := [.int v25, .ref (M.2.1 k0)]) o (tX12_serves _ M _ k0 a4 a3 S v26 hv26) eX12_serves mX12_606 clX12 (kX12_serves hv26) (by decide) rfl rfl (Nat.le_of_ble_eq_true rfl) dX12_findsMakeshifts_114 ?_
        refine x_iadd (pc := 117) o dX12_findsMakeshifts_117 ?_
        refine x_aload_n (pc := 118) o dX12_findsMakeshifts_118 rfl rfl ?_
        obtain ⟨r27, hr27, h⟩ := xbs h
        refine gX12_249 (pc := 119) o dX12_findsMakeshifts_119 hr27 ?_
        refine x_iload (pc := 122) o dX12_findsMakeshifts_122 rfl ?_
        obtain ⟨v28, hv28, h⟩ := xbs h
        refine x_iaload (pc := 124) o dX12_findsMakeshifts_124 hv28 ?_
        refine x_iconst (pc := 125) o dX12_findsMakeshifts_125 ic_1 ?_
        refine x_iadd (pc := 126) o dX12_findsMakeshifts_126 ?_
        refine x_iload_n (pc := 127) o dX12_findsMakeshifts_127 rfl rfl ?_
        obtain ⟨v29, hv29, h⟩ := xbs h
        refine x_callI (pc := 128) (As := [.int (v25 + v26), .int (v28 + ((1 : Int32))), .int a3]) (b := k0) (rest := []) o (tX12_isBetter _ M _ k0 (v25 + v26) (v28 + ((1 : Int32))) a3 S v29 hv29) eX12_isBetter mX12_609 clX12 (kX12_isBetter hv29) (by decide) rfl rfl (Nat.le_of_ble_eq_true rfl) dX12_findsMakeshifts_128 ?_
        refine x_if_ne (pc := 131) (tgt := 137) o dX12_findsMakeshifts_131 (by decide) (fun c41 => ?_) (fun c41 => ?_)
        · have h := xif h c41
          refine x_aload_n (pc := 137) o dX12_findsMakeshifts_137 rfl rfl ?_
          obtain ⟨r30, hr30, h⟩ := xbs h
          refine gX12_246 (pc := 138) o dX12_findsMakeshifts_138 hr30 ?_
          refine x_iload_n (pc := 141) o dX12_findsMakeshifts_141 rfl rfl ?_
          refine x_aload_n (pc := 142) o dX12_findsMakeshifts_142 rfl rfl ?_
          obtain ⟨r31, hr31, h⟩ := xbs h
          refine gX12_246 (pc := 143) o dX12_findsMakeshifts_143 hr31 ?_
          refine x_iload (pc := 146) o dX12_findsMakeshifts_146 rfl ?_
          obtain ⟨v32, hv32, h⟩ := xbs h
          refine x_iaload (pc := 148) o dX12_findsMakeshifts_148 hv32 ?_
          refine x_aload_n (pc := 149) o dX12_findsMakeshifts_149 rfl rfl ?_
          refine x_iload (pc := 150) o dX12_findsMakeshifts_150 rfl ?_
          refine x_iload_n (pc := 152) o dX12_findsMakeshifts_152 rfl rfl ?_
          obtain ⟨v33, hv33, h⟩ := xbs h
          refine x_callI (pc := 153) (As := [.int a4, .int a3]) (b := k0) (rest := [.int v32, .int a3, .ref (M.2.1 r30)]) o (tX12_serves _ M _ k0 a4 a3 S v33 hv33) eX12_serves mX12_606 clX12 (kX12_serves hv33) (by decide) rfl rfl (Nat.le_of_ble_eq_true rfl) dX12_findsMakeshifts_153 ?_
          refine x_iadd (pc := 156) o dX12_findsMakeshifts_156 ?_
          obtain ⟨S34, hS34, h⟩ := xbs h
          refine x_iastore (pc := 157) o dX12_findsMakeshifts_157 hS34 ?_
          refine x_aload_n (pc := 158) o dX12_findsMakeshifts_158 rfl rfl ?_
          obtain ⟨r35, hr35, h⟩ := xbs h
          refine gX12_249 (pc := 159) o dX12_findsMakeshifts_159 hr35 ?_
          refine x_iload_n (pc := 162) o dX12_findsMakeshifts_162 rfl rfl ?_
          refine x_aload_n (pc := 163) o dX12_findsMakeshifts_163 rfl rfl ?_
          obtain ⟨r36, hr36, h⟩ := xbs h
          refine gX12_249 (pc := 164) o dX12_findsMakeshifts_164 hr36 ?_
          refine x_iload (pc := 167) o dX12_findsMakeshifts_167 rfl ?_
          obtain ⟨v37, hv37, h⟩ := xbs h
          refine x_iaload (pc := 169) o dX12_findsMakeshifts_169 hv37 ?_
          refine x_iconst (pc := 170) o dX12_findsMakeshifts_170 ic_1 ?_
          refine x_iadd (pc := 171) o dX12_findsMakeshifts_171 ?_
          obtain ⟨S38, hS38, h⟩ := xbs h
          refine x_iastore (pc := 172) o dX12_findsMakeshifts_172 hS38 ?_
          obtain ⟨v39, hv39, h⟩ := xbs h
          refine x_iincE (pc := 173) o dX12_findsMakeshifts_173 rfl ic_1 hn4 hv39 ?_
          refine x_goto (pc := 176) (tgt := 65) o dX12_findsMakeshifts_176 (by decide) ?_
          refine x_to (l := [(0, .ref (M.2.1 k0)), (2, .int a2), (3, .int a3), (4, .int v39)]) ⟨rfl, rfl, rfl, rfl, trivial⟩ ?_
          exact hrec v39 S38 h
        · have h := xit h c41
          refine x_goto (pc := 134) (tgt := 173) o dX12_findsMakeshifts_134 (by decide) ?_
          obtain ⟨v40, hv40, h⟩ := xbs h
          refine x_iincE (pc := 173) o dX12_findsMakeshifts_173 rfl ic_1 hn4 hv40 ?_
          refine x_goto (pc := 176) (tgt := 65) o dX12_findsMakeshifts_176 (by decide) ?_
          refine x_to (l := [(0, .ref (M.2.1 k0)), (2, .int a2), (3, .int a3), (4, .int v40)]) ⟨rfl, rfl, rfl, rfl, trivial⟩ ?_
          exact hrec v40 S h
theorem tX12_findsMakeshifts_L65 {Γ : xGm} {M : xMg} (o : xOk Γ tM M 2 cX12_findsMakeshifts RX12) (hnL : Γ.2.2.2 = 5) (n : Nat) (k0 : Nat) (a2 : Int32) (a3 : Int32) (z : (xSt)) (K : xAt Γ tM M 179 (xlv [(0, .ref (M.2.1 k0)), (2, .int a2), (3, .int a3)]) [] z) : ∀ (q : Nat) (a4 : Int32) (S : xSt), fX12_findsMakeshifts_L65 n k0 a2 a3 q a4 S = some z → xAt Γ tM M 65 (xlv [(0, .ref (M.2.1 k0)), (2, .int a2), (3, .int a3), (4, .int a4)]) [] S := by
  intro q
  induction q with
  | zero => intro a4 S h; cases h
  | succ q ih => intro a4 S h; exact tX12_findsMakeshifts_L65b o hnL n k0 a2 a3 a4 S z ih K h
def fX12_findsMakeshifts_L49b (n : Nat) (k0 : Nat) (a2 : Int32) (rec : Int32 → xSt → Option (xSt)) (a3 : Int32) (S : xSt) : Option (xSt) :=
  (xgF tM 12 14 k0 S).bind fun r13 =>
  (xgI tM 12 13 k0 S).bind fun v14 =>
  (xal tM r13 v14 S).bind fun v15 =>
  if v15 ≤ a3 then
  (some S)
else
  ((fX12_findsMakeshifts_L65 n k0 a2 a3 n ((0 : Int32)) S).bind fun z45 => (some (a3 + (1 : Int32))).bind fun v46 =>
  rec v46 z45)
def fX12_findsMakeshifts_L49 (n : Nat) (k0 : Nat) (a2 : Int32) : Nat → Int32 → xSt → Option (xSt)
  | 0 => fun _ _ => none
  | q + 1 => fX12_findsMakeshifts_L49b n k0 a2 (fX12_findsMakeshifts_L49 n k0 a2 q)
set_option maxHeartbeats 4000000 in
theorem tX12_findsMakeshifts_L49b {Γ : xGm} {M : xMg} (o : xOk Γ tM M 2 cX12_findsMakeshifts RX12) (hnL : Γ.2.2.2 = 5) {rec : Int32 → xSt → Option (xSt)} (n : Nat) (k0 : Nat) (a2 : Int32) (a3 : Int32) (S : xSt) (z : (xSt)) (hrec : ∀ (a3 : Int32) (S : xSt), rec a3 S = some z → xAt Γ tM M 49 (xlv [(0, .ref (M.2.1 k0)), (2, .int a2), (3, .int a3)]) [] S) (K : xAt Γ tM M 185 (xlv [(0, .ref (M.2.1 k0)), (2, .int a2)]) [] z) (h : fX12_findsMakeshifts_L49b n k0 a2 rec a3 S = some z) : xAt Γ tM M 49 (xlv [(0, .ref (M.2.1 k0)), (2, .int a2), (3, .int a3)]) [] S := by
  have hn3 : 3 < Γ.2.2.2 := by omega
  have hn4 : 4 < Γ.2.2.2 := by omega
  unfold fX12_findsMakeshifts_L49b at h
  refine x_iload_n (pc := 49) o dX12_findsMakeshifts_49 rfl rfl ?_
  refine x_aload_n (pc := 50) o dX12_findsMakeshifts_50 rfl rfl ?_
  obtain ⟨r13, hr13, h⟩ := xbs h
  refine gX12_54 (pc := 51) o dX12_findsMakeshifts_51 hr13 ?_
  refine x_aload_n (pc := 54) o dX12_findsMakeshifts_54 rfl rfl ?_
  obtain ⟨v14, hv14, h⟩ := xbs h
  refine gX12_51 (pc := 55) o dX12_findsMakeshifts_55 hv14 ?_
  obtain ⟨v15, hv15, h⟩ := xbs h
  refine x_iaload (pc := 58) o dX12_findsMakeshifts_58 hv15 ?_
  refine x_icmp_ge (pc := 59) (tgt := 185) o dX12_findsMakeshifts_59 (by decide) (fun c47 => ?_) (fun c47 => ?_)
  · have h := xit h c47
    refine x_to (l := [(0, .ref (M.2.1 k0)), (2, .int a2)]) ⟨rfl, rfl, trivial⟩ ?_
    cases Option.some.inj h
    exact K
  · have h := xif h c47
    refine x_iconst (pc := 62) o dX12_findsMakeshifts_62 ic_0 ?_
    refine x_istore (pc := 63) o dX12_findsMakeshifts_63 hn4 ?_
    obtain ⟨z45, hz45, h⟩ := xbs h
    refine x_to (l := [(0, .ref (M.2.1 k0)), (2, .int a2), (3, .int a3), (4, .int ((0 : Int32)))]) ⟨rfl, rfl, rfl, rfl, trivial⟩ ?_
    refine tX12_findsMakeshifts_L65 o hnL n k0 a2 a3 z45 ?_ n ((0 : Int32)) S hz45
    obtain ⟨v46, hv46, h⟩ := xbs h
    refine x_iincE (pc := 179) o dX12_findsMakeshifts_179 rfl ic_1 hn3 hv46 ?_
    refine x_goto (pc := 182) (tgt := 49) o dX12_findsMakeshifts_182 (by decide) ?_
    refine x_to (l := [(0, .ref (M.2.1 k0)), (2, .int a2), (3, .int v46)]) ⟨rfl, rfl, rfl, trivial⟩ ?_
    exact hrec v46 z45 h
theorem tX12_findsMakeshifts_L49 {Γ : xGm} {M : xMg} (o : xOk Γ tM M 2 cX12_findsMakeshifts RX12) (hnL : Γ.2.2.2 = 5) (n : Nat) (k0 : Nat) (a2 : Int32) (z : (xSt)) (K : xAt Γ tM M 185 (xlv [(0, .ref (M.2.1 k0)), (2, .int a2)]) [] z) : ∀ (q : Nat) (a3 : Int32) (S : xSt), fX12_findsMakeshifts_L49 n k0 a2 q a3 S = some z → xAt Γ tM M 49 (xlv [(0, .ref (M.2.1 k0)), (2, .int a2), (3, .int a3)]) [] S := by
  intro q
  induction q with
  | zero => intro a3 S h; cases h
  | succ q ih => intro a3 S h; exact tX12_findsMakeshifts_L49b o hnL n k0 a2 a3 S z ih K h
def fX12_findsMakeshifts_L41b (n : Nat) (k0 : Nat) (rec : Int32 → xSt → Option (xSt)) (a2 : Int32) (S : xSt) : Option (xSt) :=
  if ((6 : Int32)) ≤ a2 then
  (some S)
else
  ((fX12_findsMakeshifts_L49 n k0 a2 n ((0 : Int32)) S).bind fun z48 => (some (a2 + (1 : Int32))).bind fun v49 =>
  rec v49 z48)
def fX12_findsMakeshifts_L41 (n : Nat) (k0 : Nat) : Nat → Int32 → xSt → Option (xSt)
  | 0 => fun _ _ => none
  | q + 1 => fX12_findsMakeshifts_L41b n k0 (fX12_findsMakeshifts_L41 n k0 q)
set_option maxHeartbeats 4000000 in
theorem tX12_findsMakeshifts_L41b {Γ : xGm} {M : xMg} (o : xOk Γ tM M 2 cX12_findsMakeshifts RX12) (hnL : Γ.2.2.2 = 5) {rec : Int32 → xSt → Option (xSt)} (n : Nat) (k0 : Nat) (a2 : Int32) (S : xSt) (z : (xSt)) (hrec : ∀ (a2 : Int32) (S : xSt), rec a2 S = some z → xAt Γ tM M 41 (xlv [(0, .ref (M.2.1 k0)), (2, .int a2)]) [] S) (K : xAt Γ tM M 191 (xlv []) [] z) (h : fX12_findsMakeshifts_L41b n k0 rec a2 S = some z) : xAt Γ tM M 41 (xlv [(0, .ref (M.2.1 k0)), (2, .int a2)]) [] S := by
  have hn2 : 2 < Γ.2.2.2 := by omega
  have hn3 : 3 < Γ.2.2.2 := by omega
  unfold fX12_findsMakeshifts_L41b at h
  refine x_iload_n (pc := 41) o dX12_findsMakeshifts_41 rfl rfl ?_
  refine x_bipush (pc := 42) o dX12_findsMakeshifts_42 bp_6 ?_
  refine x_icmp_ge (pc := 44) (tgt := 191) o dX12_findsMakeshifts_44 (by decide) (fun c50 => ?_) (fun c50 => ?_)
  · have h := xit h c50
    refine x_to (l := []) trivial ?_
    cases Option.some.inj h
    exact K
  · have h := xif h c50
    refine x_iconst (pc := 47) o dX12_findsMakeshifts_47 ic_0 ?_
    refine x_istore_n (pc := 48) o dX12_findsMakeshifts_48 rfl hn3 ?_
    obtain ⟨z48, hz48, h⟩ := xbs h
    refine x_to (l := [(0, .ref (M.2.1 k0)), (2, .int a2), (3, .int ((0 : Int32)))]) ⟨rfl, rfl, rfl, trivial⟩ ?_
    refine tX12_findsMakeshifts_L49 o hnL n k0 a2 z48 ?_ n ((0 : Int32)) S hz48
    obtain ⟨v49, hv49, h⟩ := xbs h
    refine x_iincE (pc := 185) o dX12_findsMakeshifts_185 rfl ic_1 hn2 hv49 ?_
    refine x_goto (pc := 188) (tgt := 41) o dX12_findsMakeshifts_188 (by decide) ?_
    refine x_to (l := [(0, .ref (M.2.1 k0)), (2, .int v49)]) ⟨rfl, rfl, trivial⟩ ?_
    exact hrec v49 z48 h
theorem tX12_findsMakeshifts_L41 {Γ : xGm} {M : xMg} (o : xOk Γ tM M 2 cX12_findsMakeshifts RX12) (hnL : Γ.2.2.2 = 5) (n : Nat) (k0 : Nat) (z : (xSt)) (K : xAt Γ tM M 191 (xlv []) [] z) : ∀ (q : Nat) (a2 : Int32) (S : xSt), fX12_findsMakeshifts_L41 n k0 q a2 S = some z → xAt Γ tM M 41 (xlv [(0, .ref (M.2.1 k0)), (2, .int a2)]) [] S := by
  intro q
  induction q with
  | zero => intro a2 S h; cases h
  | succ q ih => intro a2 S h; exact tX12_findsMakeshifts_L41b o hnL n k0 a2 S z ih K h
def fX12_findsMakeshifts (n : Nat) (k0 : Nat) (a1 : Int32) (S : xSt) : Option (xSt) :=
  if tM.1 k0 = 12 then
  ((fX12_findsMakeshifts_L2 n k0 a1 n ((0 : Int32)) S).bind fun z12 => (fX12_findsMakeshifts_L41 n k0 n ((0 : Int32)) z12).bind fun z51 => some z51)
  else none
theorem kX12_findsMakeshifts {z : xSt} {n : Nat} {k0 : Nat} {a1 : Int32} {S : xSt} (h : fX12_findsMakeshifts n k0 a1 S = some z) : tM.1 k0 = 12 := by
  unfold fX12_findsMakeshifts at h
  exact (xck h).1
set_option maxHeartbeats 4000000 in
theorem tX12_findsMakeshifts (l : Launch) (M : xMg) (A : Nat → Prop) (n : Nat) (k0 : Nat) (a1 : Int32) (S : xSt) (z : xSt) (h : fX12_findsMakeshifts n k0 a1 S = some z) : xMV l yX12_findsMakeshifts cX12_findsMakeshifts 5 none 2 tM M A [.ref (M.2.1 k0), .int a1] S z := by
  refine x_metV (plainFor_of_name (by decide)) tM_ok (Nat.le_of_ble_eq_true rfl) (fun Γ hA hnL hl hr o => ?_)
  subst hA; subst hl
  have o : xOk Γ tM M 2 cX12_findsMakeshifts RX12 := o
  unfold fX12_findsMakeshifts at h
  obtain ⟨hk0, h⟩ := xck h
  refine x_to (l := [(0, .ref (M.2.1 k0)), (1, .int a1)]) ⟨rfl, rfl, trivial⟩ ?_
  have hn2 : 2 < Γ.2.2.2 := by omega
  refine x_iconst (pc := 0) o dX12_findsMakeshifts_0 ic_0 ?_
  refine x_istore_n (pc := 1) o dX12_findsMakeshifts_1 rfl hn2 ?_
  obtain ⟨z12, hz12, h⟩ := xbs h
  refine x_to (l := [(0, .ref (M.2.1 k0)), (1, .int a1), (2, .int ((0 : Int32)))]) ⟨rfl, rfl, rfl, trivial⟩ ?_
  refine tX12_findsMakeshifts_L2 o hnL n k0 a1 z12 ?_ n ((0 : Int32)) S hz12
  refine x_iconst (pc := 39) o dX12_findsMakeshifts_39 ic_0 ?_
  refine x_istore_n (pc := 40) o dX12_findsMakeshifts_40 rfl hn2 ?_
  obtain ⟨z51, hz51, h⟩ := xbs h
  refine x_to (l := [(0, .ref (M.2.1 k0)), (2, .int ((0 : Int32)))]) ⟨rfl, rfl, trivial⟩ ?_
  refine tX12_findsMakeshifts_L41 o hnL n k0 z51 ?_ n ((0 : Int32)) z12 hz51
  exact x_vreturn (pc := 191) o hr dX12_findsMakeshifts_191 (Option.some.inj h)
def fX12_makeshift_L81b (n : Nat) (k0 : Nat) (a3 : Int32) (a4 : Int32) (a5 : Int32) (rec : Int32 → xSt → Option (Int32 × xSt)) (a6 : Int32) (S : xSt) : Option (Int32 × xSt) :=
  (fX12_serves k0 a6 a4 S).bind fun v8 =>
  if v8 = 0 then
  ((some (a6 + (1 : Int32))).bind fun v9 =>
  rec v9 S)
else
  ((xgF tM 12 77 k0 S).bind fun r10 =>
  (xal tM r10 a6 S).bind fun v11 =>
  (fX12_serves k0 a6 a4 S).bind fun v12 =>
  (xgF tM 12 77 k0 S).bind fun r13 =>
  (xal tM r13 a4 S).bind fun v14 =>
  if (v11 + v12) = v14 then
  ((xgF tM 12 78 k0 S).bind fun r16 =>
  (xal tM r16 a6 S).bind fun v17 =>
  (xgF tM 12 78 k0 S).bind fun r18 =>
  (xal tM r18 a4 S).bind fun v19 =>
  if (v17 + ((1 : Int32))) = v19 then
  (some (a6, S))
else
  ((some (a6 + (1 : Int32))).bind fun v20 =>
  rec v20 S))
else
  ((some (a6 + (1 : Int32))).bind fun v15 =>
  rec v15 S))
def fX12_makeshift_L81 (n : Nat) (k0 : Nat) (a3 : Int32) (a4 : Int32) (a5 : Int32) : Nat → Int32 → xSt → Option (Int32 × xSt)
  | 0 => fun _ _ => none
  | q + 1 => fX12_makeshift_L81b n k0 a3 a4 a5 (fX12_makeshift_L81 n k0 a3 a4 a5 q)
set_option maxHeartbeats 4000000 in
theorem tX12_makeshift_L81b {Γ : xGm} {M : xMg} (o : xOk Γ tM M 3 cX12_makeshift RX12) (hnL : Γ.2.2.2 = 7) {rec : Int32 → xSt → Option (Int32 × xSt)} (n : Nat) (k0 : Nat) (a3 : Int32) (a4 : Int32) (a5 : Int32) (a6 : Int32) (S : xSt) (z : (Int32 × xSt)) (hrec : ∀ (a6 : Int32) (S : xSt), rec a6 S = some z → xAt Γ tM M 81 (xlv [(0, .ref (M.2.1 k0)), (3, .int a3), (4, .int a4), (5, .int a5), (6, .int a6)]) [] S) (K : xAt Γ tM M 143 (xlv [(0, .ref (M.2.1 k0)), (3, .int a3), (5, .int a5), (6, .int z.1)]) [] z.2) (h : fX12_makeshift_L81b n k0 a3 a4 a5 rec a6 S = some z) : xAt Γ tM M 81 (xlv [(0, .ref (M.2.1 k0)), (3, .int a3), (4, .int a4), (5, .int a5), (6, .int a6)]) [] S := by
  have hn6 : 6 < Γ.2.2.2 := by omega
  unfold fX12_makeshift_L81b at h
  refine x_aload_n (pc := 81) o dX12_makeshift_81 rfl rfl ?_
  refine x_iload (pc := 82) o dX12_makeshift_82 rfl ?_
  refine x_iload (pc := 84) o dX12_makeshift_84 rfl ?_
  obtain ⟨v8, hv8, h⟩ := xbs h
  refine x_callI (pc := 86) (As := [.int a6, .int a4]) (b := k0) (rest := []) o (tX12_serves _ M _ k0 a6 a4 S v8 hv8) eX12_serves mX12_606 clX12 (kX12_serves hv8) (by decide) rfl rfl (Nat.le_of_ble_eq_true rfl) dX12_makeshift_86 ?_
  refine x_if_eq (pc := 89) (tgt := 137) o dX12_makeshift_89 (by decide) (fun c23 => ?_) (fun c23 => ?_)
  · have h := xit h c23
    obtain ⟨v9, hv9, h⟩ := xbs h
    refine x_iincE (pc := 137) o dX12_makeshift_137 rfl ic_1 hn6 hv9 ?_
    refine x_goto (pc := 140) (tgt := 81) o dX12_makeshift_140 (by decide) ?_
    refine x_to (l := [(0, .ref (M.2.1 k0)), (3, .int a3), (4, .int a4), (5, .int a5), (6, .int v9)]) ⟨rfl, rfl, rfl, rfl, rfl, trivial⟩ ?_
    exact hrec v9 S h
  · have h := xif h c23
    refine x_aload_n (pc := 92) o dX12_makeshift_92 rfl rfl ?_
    obtain ⟨r10, hr10, h⟩ := xbs h
    refine gX12_246 (pc := 93) o dX12_makeshift_93 hr10 ?_
    refine x_iload (pc := 96) o dX12_makeshift_96 rfl ?_
    obtain ⟨v11, hv11, h⟩ := xbs h
    refine x_iaload (pc := 98) o dX12_makeshift_98 hv11 ?_
    refine x_aload_n (pc := 99) o dX12_makeshift_99 rfl rfl ?_
    refine x_iload (pc := 100) o dX12_makeshift_100 rfl ?_
    refine x_iload (pc := 102) o dX12_makeshift_102 rfl ?_
    obtain ⟨v12, hv12, h⟩ := xbs h
    refine x_callI (pc := 104) (As := [.int a6, .int a4]) (b := k0) (rest := [.int v11]) o (tX12_serves _ M _ k0 a6 a4 S v12 hv12) eX12_serves mX12_606 clX12 (kX12_serves hv12) (by decide) rfl rfl (Nat.le_of_ble_eq_true rfl) dX12_makeshift_104 ?_
    refine x_iadd (pc := 107) o dX12_makeshift_107 ?_
    refine x_aload_n (pc := 108) o dX12_makeshift_108 rfl rfl ?_
    obtain ⟨r13, hr13, h⟩ := xbs h
    refine gX12_246 (pc := 109) o dX12_makeshift_109 hr13 ?_
    refine x_iload (pc := 112) o dX12_makeshift_112 rfl ?_
    obtain ⟨v14, hv14, h⟩ := xbs h
    refine x_iaload (pc := 114) o dX12_makeshift_114 hv14 ?_
    refine x_icmp_ne (pc := 115) (tgt := 137) o dX12_makeshift_115 (by decide) (fun c22 => ?_) (fun c22 => ?_)
    · have h := xif h c22
      obtain ⟨v15, hv15, h⟩ := xbs h
      refine x_iincE (pc := 137) o dX12_makeshift_137 rfl ic_1 hn6 hv15 ?_
      refine x_goto (pc := 140) (tgt := 81) o dX12_makeshift_140 (by decide) ?_
      refine x_to (l := [(0, .ref (M.2.1 k0)), (3, .int a3), (4, .int a4), (5, .int a5), (6, .int v15)]) ⟨rfl, rfl, rfl, rfl, rfl, trivial⟩ ?_
      exact hrec v15 S h
    · have h := xit h c22
      refine x_aload_n (pc := 118) o dX12_makeshift_118 rfl rfl ?_
      obtain ⟨r16, hr16, h⟩ := xbs h
      refine gX12_249 (pc := 119) o dX12_makeshift_119 hr16 ?_
      refine x_iload (pc := 122) o dX12_makeshift_122 rfl ?_
      obtain ⟨v17, hv17, h⟩ := xbs h
      refine x_iaload (pc := 124) o dX12_makeshift_124 hv17 ?_
      refine x_iconst (pc := 125) o dX12_makeshift_125 ic_1 ?_
      refine x_iadd (pc := 126) o dX12_makeshift_126 ?_
      refine x_aload_n (pc := 127) o dX12_makeshift_127 rfl rfl ?_
      obtain ⟨r18, hr18, h⟩ := xbs h
      refine gX12_249 (pc := 128) o dX12_makeshift_128 hr18 ?_
      refine x_iload (pc := 131) o dX12_makeshift_131 rfl ?_
      obtain ⟨v19, hv19, h⟩ := xbs h
      refine x_iaload (pc := 133) o dX12_makeshift_133 hv19 ?_
      refine x_icmp_eq (pc := 134) (tgt := 143) o dX12_makeshift_134 (by decide) (fun c21 => ?_) (fun c21 => ?_)
      · have h := xit h c21
        refine x_to (l := [(0, .ref (M.2.1 k0)), (3, .int a3), (5, .int a5), (6, .int a6)]) ⟨rfl, rfl, rfl, rfl, trivial⟩ ?_
        cases Option.some.inj h
        exact K
      · have h := xif h c21
        obtain ⟨v20, hv20, h⟩ := xbs h
        refine x_iincE (pc := 137) o dX12_makeshift_137 rfl ic_1 hn6 hv20 ?_
        refine x_goto (pc := 140) (tgt := 81) o dX12_makeshift_140 (by decide) ?_
        refine x_to (l := [(0, .ref (M.2.1 k0)), (3, .int a3), (4, .int a4), (5, .int a5), (6, .int v20)]) ⟨rfl, rfl, rfl, rfl, rfl, trivial⟩ ?_
        exact hrec v20 S h
theorem tX12_makeshift_L81 {Γ : xGm} {M : xMg} (o : xOk Γ tM M 3 cX12_makeshift RX12) (hnL : Γ.2.2.2 = 7) (n : Nat) (k0 : Nat) (a3 : Int32) (a4 : Int32) (a5 : Int32) (z : (Int32 × xSt)) (K : xAt Γ tM M 143 (xlv [(0, .ref (M.2.1 k0)), (3, .int a3), (5, .int a5), (6, .int z.1)]) [] z.2) : ∀ (q : Nat) (a6 : Int32) (S : xSt), fX12_makeshift_L81 n k0 a3 a4 a5 q a6 S = some z → xAt Γ tM M 81 (xlv [(0, .ref (M.2.1 k0)), (3, .int a3), (4, .int a4), (5, .int a5), (6, .int a6)]) [] S := by
  intro q
  induction q with
  | zero => intro a6 S h; cases h
  | succ q ih => intro a6 S h; exact tX12_makeshift_L81b o hnL n k0 a3 a4 a5 a6 S z ih K h
def fX12_makeshift_L72b (n : Nat) (k0 : Nat) (a3 : Int32) (rec : Int32 → Int32 → xSt → Option (Int32 × xSt)) (a4 : Int32) (a5 : Int32) (S : xSt) : Option (Int32 × xSt) :=
  if a3 < a5 then
  (some (a4, S))
else
  ((fX12_makeshift_L81 n k0 a3 a4 a5 n ((0 : Int32)) S).bind fun z24 => (some (a5 + (1 : Int32))).bind fun v25 =>
  rec z24.1 v25 z24.2)
def fX12_makeshift_L72 (n : Nat) (k0 : Nat) (a3 : Int32) : Nat → Int32 → Int32 → xSt → Option (Int32 × xSt)
  | 0 => fun _ _ _ => none
  | q + 1 => fX12_makeshift_L72b n k0 a3 (fX12_makeshift_L72 n k0 a3 q)
set_option maxHeartbeats 4000000 in
theorem tX12_makeshift_L72b {Γ : xGm} {M : xMg} (o : xOk Γ tM M 3 cX12_makeshift RX12) (hnL : Γ.2.2.2 = 7) {rec : Int32 → Int32 → xSt → Option (Int32 × xSt)} (n : Nat) (k0 : Nat) (a3 : Int32) (a4 : Int32) (a5 : Int32) (S : xSt) (z : (Int32 × xSt)) (hrec : ∀ (a4 : Int32) (a5 : Int32) (S : xSt), rec a4 a5 S = some z → xAt Γ tM M 72 (xlv [(0, .ref (M.2.1 k0)), (3, .int a3), (4, .int a4), (5, .int a5)]) [] S) (K : xAt Γ tM M 153 (xlv [(4, .int z.1)]) [] z.2) (h : fX12_makeshift_L72b n k0 a3 rec a4 a5 S = some z) : xAt Γ tM M 72 (xlv [(0, .ref (M.2.1 k0)), (3, .int a3), (4, .int a4), (5, .int a5)]) [] S := by
  have hn4 : 4 < Γ.2.2.2 := by omega
  have hn5 : 5 < Γ.2.2.2 := by omega
  have hn6 : 6 < Γ.2.2.2 := by omega
  unfold fX12_makeshift_L72b at h
  refine x_iload (pc := 72) o dX12_makeshift_72 rfl ?_
  refine x_iload_n (pc := 74) o dX12_makeshift_74 rfl rfl ?_
  refine x_icmp_gt (pc := 75) (tgt := 153) o dX12_makeshift_75 (by decide) (fun c26 => ?_) (fun c26 => ?_)
  · have h := xit h c26
    refine x_to (l := [(4, .int a4)]) ⟨rfl, trivial⟩ ?_
    cases Option.some.inj h
    exact K
  · have h := xif h c26
    refine x_iconst (pc := 78) o dX12_makeshift_78 ic_0 ?_
    refine x_istore (pc := 79) o dX12_makeshift_79 hn6 ?_
    obtain ⟨z24, hz24, h⟩ := xbs h
    refine x_to (l := [(0, .ref (M.2.1 k0)), (3, .int a3), (4, .int a4), (5, .int a5), (6, .int ((0 : Int32)))]) ⟨rfl, rfl, rfl, rfl, rfl, trivial⟩ ?_
    refine tX12_makeshift_L81 o hnL n k0 a3 a4 a5 z24 ?_ n ((0 : Int32)) S hz24
    refine x_iload (pc := 143) o dX12_makeshift_143 rfl ?_
    refine x_istore (pc := 145) o dX12_makeshift_145 hn4 ?_
    obtain ⟨v25, hv25, h⟩ := xbs h
    refine x_iincE (pc := 147) o dX12_makeshift_147 rfl ic_1 hn5 hv25 ?_
    refine x_goto (pc := 150) (tgt := 72) o dX12_makeshift_150 (by decide) ?_
    refine x_to (l := [(0, .ref (M.2.1 k0)), (3, .int a3), (4, .int z24.1), (5, .int v25)]) ⟨rfl, rfl, rfl, rfl, trivial⟩ ?_
    exact hrec z24.1 v25 z24.2 h
theorem tX12_makeshift_L72 {Γ : xGm} {M : xMg} (o : xOk Γ tM M 3 cX12_makeshift RX12) (hnL : Γ.2.2.2 = 7) (n : Nat) (k0 : Nat) (a3 : Int32) (z : (Int32 × xSt)) (K : xAt Γ tM M 153 (xlv [(4, .int z.1)]) [] z.2) : ∀ (q : Nat) (a4 : Int32) (a5 : Int32) (S : xSt), fX12_makeshift_L72 n k0 a3 q a4 a5 S = some z → xAt Γ tM M 72 (xlv [(0, .ref (M.2.1 k0)), (3, .int a3), (4, .int a4), (5, .int a5)]) [] S := by
  intro q
  induction q with
  | zero => intro a4 a5 S h; cases h
  | succ q ih => intro a4 a5 S h; exact tX12_makeshift_L72b o hnL n k0 a3 a4 a5 S z ih K h
def fX12_makeshift (n : Nat) (k0 : Nat) (a1 : Int32) (a2 : Int32) (a3 : Int32) (S : xSt) : Option (Int32 × xSt) :=
  if tM.1 k0 = 12 then
  ((fX12_isKind k0 a1 S).bind fun v1 =>
  if v1 = 0 then
  (some ((-1 : Int32), S))
else
  ((fX12_isKind k0 a2 S).bind fun v2 =>
  if v2 = 0 then
  (some ((-1 : Int32), S))
else
  (if ((-1 : Int32)) ≤ a3 then
  ((fX12_findsMakeshifts n k0 a1 S).bind fun S3 =>
  (xgF tM 12 77 k0 S3).bind fun r4 =>
  (xal tM r4 a2 S3).bind fun v5 =>
  if v5 = ((100000000 : Int32)) then
  (some ((-1 : Int32), S3))
else
  (if a3 = ((-1 : Int32)) then
  ((xgF tM 12 77 k0 S3).bind fun r29 =>
  (xal tM r29 a2 S3).bind fun v30 =>
  some (v30, S3))
else
  ((xgF tM 12 78 k0 S3).bind fun r6 =>
  (xal tM r6 a2 S3).bind fun v7 =>
  if a3 < v7 then
  ((fX12_makeshift_L72 n k0 a3 n a2 ((0 : Int32)) S3).bind fun z27 => some (z27.1, z27.2))
else
  (some ((-1 : Int32), S3)))))
else
  (some ((-1 : Int32), S)))))
  else none
theorem kX12_makeshift {z : Int32 × xSt} {n : Nat} {k0 : Nat} {a1 : Int32} {a2 : Int32} {a3 : Int32} {S : xSt} (h : fX12_makeshift n k0 a1 a2 a3 S = some z) : tM.1 k0 = 12 := by
  unfold fX12_makeshift at h
  exact (xck h).1
set_option maxHeartbeats 4000000 in
theorem tX12_makeshift (l : Launch) (M : xMg) (A : Nat → Prop) (n : Nat) (k0 : Nat) (a1 : Int32) (a2 : Int32) (a3 : Int32) (S : xSt) (z : Int32 × xSt) (h : fX12_makeshift n k0 a1 a2 a3 S = some z) : xMI l yX12_makeshift cX12_makeshift 7 (some .int) 3 tM M A [.ref (M.2.1 k0), .int a1, .int a2, .int a3] S z.1 z.2 := by
  refine x_metI (plainFor_of_name (by decide)) tM_ok (Nat.le_of_ble_eq_true rfl) (fun Γ hA hnL hl hr o => ?_)
  subst hA; subst hl
  have o : xOk Γ tM M 3 cX12_makeshift RX12 := o
  unfold fX12_makeshift at h
  obtain ⟨hk0, h⟩ := xck h
  refine x_to (l := [(0, .ref (M.2.1 k0)), (1, .int a1), (2, .int a2), (3, .int a3)]) ⟨rfl, rfl, rfl, rfl, trivial⟩ ?_
  have hn4 : 4 < Γ.2.2.2 := by omega
  have hn5 : 5 < Γ.2.2.2 := by omega
  refine x_aload_n (pc := 0) o dX12_makeshift_0 rfl rfl ?_
  refine x_iload_n (pc := 1) o dX12_makeshift_1 rfl rfl ?_
  obtain ⟨v1, hv1, h⟩ := xbs h
  refine x_callI (pc := 2) (As := [.int a1]) (b := k0) (rest := []) o (tX12_isKind _ M _ k0 a1 S v1 hv1) eX12_isKind mX12_580 clX12 (kX12_isKind hv1) (by decide) rfl rfl (Nat.le_of_ble_eq_true rfl) dX12_makeshift_2 ?_
  refine x_if_eq (pc := 5) (tgt := 21) o dX12_makeshift_5 (by decide) (fun c35 => ?_) (fun c35 => ?_)
  · have h := xit h c35
    refine x_iconst (pc := 21) o dX12_makeshift_21 ic_m1 ?_
    exact x_ireturn (pc := 22) o hr dX12_makeshift_22 (xr1 h) (xr2 h)
  · have h := xif h c35
    refine x_aload_n (pc := 8) o dX12_makeshift_8 rfl rfl ?_
    refine x_iload_n (pc := 9) o dX12_makeshift_9 rfl rfl ?_
    obtain ⟨v2, hv2, h⟩ := xbs h
    refine x_callI (pc := 10) (As := [.int a2]) (b := k0) (rest := []) o (tX12_isKind _ M _ k0 a2 S v2 hv2) eX12_isKind mX12_580 clX12 (kX12_isKind hv2) (by decide) rfl rfl (Nat.le_of_ble_eq_true rfl) dX12_makeshift_10 ?_
    refine x_if_eq (pc := 13) (tgt := 21) o dX12_makeshift_13 (by decide) (fun c34 => ?_) (fun c34 => ?_)
    · have h := xit h c34
      refine x_iconst (pc := 21) o dX12_makeshift_21 ic_m1 ?_
      exact x_ireturn (pc := 22) o hr dX12_makeshift_22 (xr1 h) (xr2 h)
    · have h := xif h c34
      refine x_iload_n (pc := 16) o dX12_makeshift_16 rfl rfl ?_
      refine x_iconst (pc := 17) o dX12_makeshift_17 ic_m1 ?_
      refine x_icmp_ge (pc := 18) (tgt := 23) o dX12_makeshift_18 (by decide) (fun c33 => ?_) (fun c33 => ?_)
      · have h := xit h c33
        refine x_aload_n (pc := 23) o dX12_makeshift_23 rfl rfl ?_
        refine x_iload_n (pc := 24) o dX12_makeshift_24 rfl rfl ?_
        obtain ⟨S3, hS3, h⟩ := xbs h
        refine x_callV (pc := 25) (As := [.int a1]) (b := k0) (rest := []) o (tX12_findsMakeshifts _ M _ n k0 a1 S S3 hS3) eX12_findsMakeshifts mX12_612 clX12 (kX12_findsMakeshifts hS3) (by decide) rfl rfl (Nat.le_of_ble_eq_true rfl) dX12_makeshift_25 ?_
        refine x_aload_n (pc := 28) o dX12_makeshift_28 rfl rfl ?_
        obtain ⟨r4, hr4, h⟩ := xbs h
        refine gX12_246 (pc := 29) o dX12_makeshift_29 hr4 ?_
        refine x_iload_n (pc := 32) o dX12_makeshift_32 rfl rfl ?_
        obtain ⟨v5, hv5, h⟩ := xbs h
        refine x_iaload (pc := 33) o dX12_makeshift_33 hv5 ?_
        refine x_ldcw (pc := 34) o kcX12_602 dX12_makeshift_34 ?_
        refine x_icmp_ne (pc := 37) (tgt := 42) o dX12_makeshift_37 (by decide) (fun c32 => ?_) (fun c32 => ?_)
        · have h := xif h c32
          refine x_iload_n (pc := 42) o dX12_makeshift_42 rfl rfl ?_
          refine x_iconst (pc := 43) o dX12_makeshift_43 ic_m1 ?_
          refine x_icmp_ne (pc := 44) (tgt := 54) o dX12_makeshift_44 (by decide) (fun c31 => ?_) (fun c31 => ?_)
          · have h := xif h c31
            refine x_iload_n (pc := 54) o dX12_makeshift_54 rfl rfl ?_
            refine x_aload_n (pc := 55) o dX12_makeshift_55 rfl rfl ?_
            obtain ⟨r6, hr6, h⟩ := xbs h
            refine gX12_249 (pc := 56) o dX12_makeshift_56 hr6 ?_
            refine x_iload_n (pc := 59) o dX12_makeshift_59 rfl rfl ?_
            obtain ⟨v7, hv7, h⟩ := xbs h
            refine x_iaload (pc := 60) o dX12_makeshift_60 hv7 ?_
            refine x_icmp_lt (pc := 61) (tgt := 66) o dX12_makeshift_61 (by decide) (fun c28 => ?_) (fun c28 => ?_)
            · have h := xit h c28
              refine x_iload_n (pc := 66) o dX12_makeshift_66 rfl rfl ?_
              refine x_istore (pc := 67) o dX12_makeshift_67 hn4 ?_
              refine x_iconst (pc := 69) o dX12_makeshift_69 ic_0 ?_
              refine x_istore (pc := 70) o dX12_makeshift_70 hn5 ?_
              obtain ⟨z27, hz27, h⟩ := xbs h
              refine x_to (l := [(0, .ref (M.2.1 k0)), (3, .int a3), (4, .int a2), (5, .int ((0 : Int32)))]) ⟨rfl, rfl, rfl, rfl, trivial⟩ ?_
              refine tX12_makeshift_L72 o hnL n k0 a3 z27 ?_ n a2 ((0 : Int32)) S3 hz27
              refine x_iload (pc := 153) o dX12_makeshift_153 rfl ?_
              exact x_ireturn (pc := 155) o hr dX12_makeshift_155 (xr1 h) (xr2 h)
            · have h := xif h c28
              refine x_iconst (pc := 64) o dX12_makeshift_64 ic_m1 ?_
              exact x_ireturn (pc := 65) o hr dX12_makeshift_65 (xr1 h) (xr2 h)
          · have h := xit h c31
            refine x_aload_n (pc := 47) o dX12_makeshift_47 rfl rfl ?_
            obtain ⟨r29, hr29, h⟩ := xbs h
            refine gX12_246 (pc := 48) o dX12_makeshift_48 hr29 ?_
            refine x_iload_n (pc := 51) o dX12_makeshift_51 rfl rfl ?_
            obtain ⟨v30, hv30, h⟩ := xbs h
            refine x_iaload (pc := 52) o dX12_makeshift_52 hv30 ?_
            exact x_ireturn (pc := 53) o hr dX12_makeshift_53 (xr1 h) (xr2 h)
        · have h := xit h c32
          refine x_iconst (pc := 40) o dX12_makeshift_40 ic_m1 ?_
          exact x_ireturn (pc := 41) o hr dX12_makeshift_41 (xr1 h) (xr2 h)
      · have h := xif h c33
        refine x_iconst (pc := 21) o dX12_makeshift_21 ic_m1 ?_
        exact x_ireturn (pc := 22) o hr dX12_makeshift_22 (xr1 h) (xr2 h)
def fX12_isDoneBy_L19b (n : Nat) (k0 : Nat) (a1 : Int32) (a2 : Int32) (rec : Int32 → xSt → Option (xSt)) (a4 : Int32) (S : xSt) : Option (xSt) :=
  if a2 ≤ a4 then
  (some S)
else
  ((fX12_passes n k0 ((1 : Int32)) ((0 : Int32)) S).bind fun q5 =>
  (some (a4 + (1 : Int32))).bind fun v6 =>
  rec v6 q5.2)
def fX12_isDoneBy_L19 (n : Nat) (k0 : Nat) (a1 : Int32) (a2 : Int32) : Nat → Int32 → xSt → Option (xSt)
  | 0 => fun _ _ => none
  | q + 1 => fX12_isDoneBy_L19b n k0 a1 a2 (fX12_isDoneBy_L19 n k0 a1 a2 q)
set_option maxHeartbeats 4000000 in
theorem tX12_isDoneBy_L19b {Γ : xGm} {M : xMg} (o : xOk Γ tM M 9 cX12_isDoneBy RX12) (hnL : Γ.2.2.2 = 5) {rec : Int32 → xSt → Option (xSt)} (n : Nat) (k0 : Nat) (a1 : Int32) (a2 : Int32) (a4 : Int32) (S : xSt) (z : (xSt)) (hrec : ∀ (a4 : Int32) (S : xSt), rec a4 S = some z → xAt Γ tM M 19 (xlv [(0, .ref (M.2.1 k0)), (1, .int a1), (2, .int a2), (4, .int a4)]) [] S) (K : xAt Γ tM M 38 (xlv [(0, .ref (M.2.1 k0)), (1, .int a1)]) [] z) (h : fX12_isDoneBy_L19b n k0 a1 a2 rec a4 S = some z) : xAt Γ tM M 19 (xlv [(0, .ref (M.2.1 k0)), (1, .int a1), (2, .int a2), (4, .int a4)]) [] S := by
  have hn4 : 4 < Γ.2.2.2 := by omega
  unfold fX12_isDoneBy_L19b at h
  refine x_iload (pc := 19) o dX12_isDoneBy_19 rfl ?_
  refine x_iload_n (pc := 21) o dX12_isDoneBy_21 rfl rfl ?_
  refine x_icmp_ge (pc := 22) (tgt := 38) o dX12_isDoneBy_22 (by decide) (fun c7 => ?_) (fun c7 => ?_)
  · have h := xit h c7
    refine x_to (l := [(0, .ref (M.2.1 k0)), (1, .int a1)]) ⟨rfl, rfl, trivial⟩ ?_
    cases Option.some.inj h
    exact K
  · have h := xif h c7
    refine x_aload_n (pc := 25) o dX12_isDoneBy_25 rfl rfl ?_
    refine x_iconst (pc := 26) o dX12_isDoneBy_26 ic_1 ?_
    refine x_iconst (pc := 27) o dX12_isDoneBy_27 ic_0 ?_
    obtain ⟨q5, hq5, h⟩ := xbs h
    refine x_callI (pc := 28) (As := [.int ((1 : Int32)), .int ((0 : Int32))]) (b := k0) (rest := []) o (tX12_passes _ M _ n k0 ((1 : Int32)) ((0 : Int32)) S q5 hq5) eX12_passes mX12_595 clX12 (kX12_passes hq5) (by decide) rfl rfl (Nat.le_of_ble_eq_true rfl) dX12_isDoneBy_28 ?_
    refine x_pop (pc := 31) o dX12_isDoneBy_31 rfl ?_
    obtain ⟨v6, hv6, h⟩ := xbs h
    refine x_iincE (pc := 32) o dX12_isDoneBy_32 rfl ic_1 hn4 hv6 ?_
    refine x_goto (pc := 35) (tgt := 19) o dX12_isDoneBy_35 (by decide) ?_
    refine x_to (l := [(0, .ref (M.2.1 k0)), (1, .int a1), (2, .int a2), (4, .int v6)]) ⟨rfl, rfl, rfl, rfl, trivial⟩ ?_
    exact hrec v6 q5.2 h
theorem tX12_isDoneBy_L19 {Γ : xGm} {M : xMg} (o : xOk Γ tM M 9 cX12_isDoneBy RX12) (hnL : Γ.2.2.2 = 5) (n : Nat) (k0 : Nat) (a1 : Int32) (a2 : Int32) (z : (xSt)) (K : xAt Γ tM M 38 (xlv [(0, .ref (M.2.1 k0)), (1, .int a1)]) [] z) : ∀ (q : Nat) (a4 : Int32) (S : xSt), fX12_isDoneBy_L19 n k0 a1 a2 q a4 S = some z → xAt Γ tM M 19 (xlv [(0, .ref (M.2.1 k0)), (1, .int a1), (2, .int a2), (4, .int a4)]) [] S := by
  intro q
  induction q with
  | zero => intro a4 S h; cases h
  | succ q ih => intro a4 S h; exact tX12_isDoneBy_L19b o hnL n k0 a1 a2 a4 S z ih K h
def fX12_isDoneBy (n : Nat) (k0 : Nat) (a1 : Int32) (a2 : Int32) (a3 : Int32) (S : xSt) : Option (Int32 × xSt) :=
  if tM.1 k0 = 12 then
  ((fX12_copies n k0 ((1 : Int32)) ((0 : Int32)) S).bind fun S1 =>
  (xgF tM 12 58 k0 S1).bind fun r2 =>
  (xal tM r2 ((1 : Int32)) S1).bind fun v3 =>
  (xas tM r2 ((1 : Int32)) (v3 ||| a3) S1).bind fun S4 =>
  (fX12_isDoneBy_L19 n k0 a1 a2 n ((0 : Int32)) S4).bind fun z8 => (fX12_isDone k0 ((1 : Int32)) a1 z8).bind fun v9 =>
  if v9 = 0 ∨ v9 = 1 then (some (v9, z8)) else none)
  else none
theorem kX12_isDoneBy {z : Int32 × xSt} {n : Nat} {k0 : Nat} {a1 : Int32} {a2 : Int32} {a3 : Int32} {S : xSt} (h : fX12_isDoneBy n k0 a1 a2 a3 S = some z) : tM.1 k0 = 12 := by
  unfold fX12_isDoneBy at h
  exact (xck h).1
set_option maxHeartbeats 4000000 in
theorem tX12_isDoneBy (l : Launch) (M : xMg) (A : Nat → Prop) (n : Nat) (k0 : Nat) (a1 : Int32) (a2 : Int32) (a3 : Int32) (S : xSt) (z : Int32 × xSt) (h : fX12_isDoneBy n k0 a1 a2 a3 S = some z) : xMI l yX12_isDoneBy cX12_isDoneBy 5 (some .boolean) 9 tM M A [.ref (M.2.1 k0), .int a1, .int a2, .int a3] S z.1 z.2 := by
  refine x_metI (plainFor_of_name (by decide)) tM_ok (Nat.le_of_ble_eq_true rfl) (fun Γ hA hnL hl hr o => ?_)
  subst hA; subst hl
  have o : xOk Γ tM M 9 cX12_isDoneBy RX12 := o
  unfold fX12_isDoneBy at h
  obtain ⟨hk0, h⟩ := xck h
  refine x_to (l := [(0, .ref (M.2.1 k0)), (1, .int a1), (2, .int a2), (3, .int a3)]) ⟨rfl, rfl, rfl, rfl, trivial⟩ ?_
  have hn4 : 4 < Γ.2.2.2 := by omega
  refine x_aload_n (pc := 0) o dX12_isDoneBy_0 rfl rfl ?_
  refine x_iconst (pc := 1) o dX12_isDoneBy_1 ic_1 ?_
  refine x_iconst (pc := 2) o dX12_isDoneBy_2 ic_0 ?_
  obtain ⟨S1, hS1, h⟩ := xbs h
  refine x_callV (pc := 3) (As := [.int ((1 : Int32)), .int ((0 : Int32))]) (b := k0) (rest := []) o (tX12_copies _ M _ n k0 ((1 : Int32)) ((0 : Int32)) S S1 hS1) eX12_copies mX12_493 clX12 (kX12_copies hS1) (by decide) rfl rfl (Nat.le_of_ble_eq_true rfl) dX12_isDoneBy_3 ?_
  refine x_aload_n (pc := 6) o dX12_isDoneBy_6 rfl rfl ?_
  obtain ⟨r2, hr2, h⟩ := xbs h
  refine gX12_189 (pc := 7) o dX12_isDoneBy_7 hr2 ?_
  refine x_iconst (pc := 10) o dX12_isDoneBy_10 ic_1 ?_
  refine x_dup2 (pc := 11) o dX12_isDoneBy_11 rfl rfl ?_
  obtain ⟨v3, hv3, h⟩ := xbs h
  refine x_iaload (pc := 12) o dX12_isDoneBy_12 hv3 ?_
  refine x_iload_n (pc := 13) o dX12_isDoneBy_13 rfl rfl ?_
  refine x_ior (pc := 14) o dX12_isDoneBy_14 ?_
  obtain ⟨S4, hS4, h⟩ := xbs h
  refine x_iastore (pc := 15) o dX12_isDoneBy_15 hS4 ?_
  refine x_iconst (pc := 16) o dX12_isDoneBy_16 ic_0 ?_
  refine x_istore (pc := 17) o dX12_isDoneBy_17 hn4 ?_
  obtain ⟨z8, hz8, h⟩ := xbs h
  refine x_to (l := [(0, .ref (M.2.1 k0)), (1, .int a1), (2, .int a2), (4, .int ((0 : Int32)))]) ⟨rfl, rfl, rfl, rfl, trivial⟩ ?_
  refine tX12_isDoneBy_L19 o hnL n k0 a1 a2 z8 ?_ n ((0 : Int32)) S4 hz8
  refine x_aload_n (pc := 38) o dX12_isDoneBy_38 rfl rfl ?_
  refine x_iconst (pc := 39) o dX12_isDoneBy_39 ic_1 ?_
  refine x_iload_n (pc := 40) o dX12_isDoneBy_40 rfl rfl ?_
  obtain ⟨v9, hv9, h⟩ := xbs h
  refine x_callI (pc := 41) (As := [.int ((1 : Int32)), .int a1]) (b := k0) (rest := []) o (tX12_isDone _ M _ k0 ((1 : Int32)) a1 z8 v9 hv9) eX12_isDone mX12_521 clX12 (kX12_isDone hv9) (by decide) rfl rfl (Nat.le_of_ble_eq_true rfl) dX12_isDoneBy_41 ?_
  obtain ⟨hz, h⟩ := xck h
  exact x_zreturn (pc := 44) o hr dX12_isDoneBy_44 hz (xr1 h) (xr2 h)
def fX12_hangs_L47b (n : Nat) (k0 : Nat) (a1 : Int32) (a2 : Int32) (rec : Int32 → Int32 → xSt → Option (Int32 × xSt)) (a3 : Int32) (a4 : Int32) (S : xSt) : Option (Int32 × xSt) :=
  (xgF tM 12 17 k0 S).bind fun r5 =>
  (xgI tM 12 13 k0 S).bind fun v6 =>
  (xal tM r5 v6 S).bind fun v7 =>
  if v7 ≤ a4 then
  (some (a3, S))
else
  ((xgF tM 12 58 k0 S).bind fun r8 =>
  (xal tM r8 ((0 : Int32)) S).bind fun v9 =>
  (fX12_has2 v9 a4 S).bind fun v10 =>
  if v10 = 0 then
  ((fX12_isDoneBy n k0 a1 a2 (((1 : Int32)) <<< (a4 &&& 31)) S).bind fun q13 =>
  if q13.1 = 0 then
  ((some (a3 ||| (((1 : Int32)) <<< (a4 &&& 31)))).bind fun v16 =>
  (some (a4 + (1 : Int32))).bind fun v17 =>
  rec v16 v17 q13.2)
else
  ((some (a3 ||| ((0 : Int32)))).bind fun v14 =>
  (some (a4 + (1 : Int32))).bind fun v15 =>
  rec v14 v15 q13.2))
else
  ((some (a3 ||| ((0 : Int32)))).bind fun v11 =>
  (some (a4 + (1 : Int32))).bind fun v12 =>
  rec v11 v12 S))
def fX12_hangs_L47 (n : Nat) (k0 : Nat) (a1 : Int32) (a2 : Int32) : Nat → Int32 → Int32 → xSt → Option (Int32 × xSt)
  | 0 => fun _ _ _ => none
  | q + 1 => fX12_hangs_L47b n k0 a1 a2 (fX12_hangs_L47 n k0 a1 a2 q)
set_option maxHeartbeats 4000000 in
theorem tX12_hangs_L47b {Γ : xGm} {M : xMg} (o : xOk Γ tM M 10 cX12_hangs RX12) (hnL : Γ.2.2.2 = 5) {rec : Int32 → Int32 → xSt → Option (Int32 × xSt)} (n : Nat) (k0 : Nat) (a1 : Int32) (a2 : Int32) (a3 : Int32) (a4 : Int32) (S : xSt) (z : (Int32 × xSt)) (hrec : ∀ (a3 : Int32) (a4 : Int32) (S : xSt), rec a3 a4 S = some z → xAt Γ tM M 47 (xlv [(0, .ref (M.2.1 k0)), (1, .int a1), (2, .int a2), (3, .int a3), (4, .int a4)]) [] S) (K : xAt Γ tM M 105 (xlv [(3, .int z.1)]) [] z.2) (h : fX12_hangs_L47b n k0 a1 a2 rec a3 a4 S = some z) : xAt Γ tM M 47 (xlv [(0, .ref (M.2.1 k0)), (1, .int a1), (2, .int a2), (3, .int a3), (4, .int a4)]) [] S := by
  have hn3 : 3 < Γ.2.2.2 := by omega
  have hn4 : 4 < Γ.2.2.2 := by omega
  unfold fX12_hangs_L47b at h
  refine x_iload (pc := 47) o dX12_hangs_47 rfl ?_
  refine x_aload_n (pc := 49) o dX12_hangs_49 rfl rfl ?_
  obtain ⟨r5, hr5, h⟩ := xbs h
  refine gX12_63 (pc := 50) o dX12_hangs_50 hr5 ?_
  refine x_aload_n (pc := 53) o dX12_hangs_53 rfl rfl ?_
  obtain ⟨v6, hv6, h⟩ := xbs h
  refine gX12_51 (pc := 54) o dX12_hangs_54 hv6 ?_
  obtain ⟨v7, hv7, h⟩ := xbs h
  refine x_iaload (pc := 57) o dX12_hangs_57 hv7 ?_
  refine x_icmp_ge (pc := 58) (tgt := 105) o dX12_hangs_58 (by decide) (fun c20 => ?_) (fun c20 => ?_)
  · have h := xit h c20
    refine x_to (l := [(3, .int a3)]) ⟨rfl, trivial⟩ ?_
    cases Option.some.inj h
    exact K
  · have h := xif h c20
    refine x_iload_n (pc := 61) o dX12_hangs_61 rfl rfl ?_
    refine x_aload_n (pc := 62) o dX12_hangs_62 rfl rfl ?_
    obtain ⟨r8, hr8, h⟩ := xbs h
    refine gX12_189 (pc := 63) o dX12_hangs_63 hr8 ?_
    refine x_iconst (pc := 66) o dX12_hangs_66 ic_0 ?_
    obtain ⟨v9, hv9, h⟩ := xbs h
    refine x_iaload (pc := 67) o dX12_hangs_67 hv9 ?_
    refine x_iload (pc := 68) o dX12_hangs_68 rfl ?_
    obtain ⟨v10, hv10, h⟩ := xbs h
    refine x_statI (pc := 70) (As := [.int v9, .int a4]) (rest := [.int a3]) o (tX12_has2 _ M _ v9 a4 S v10 hv10) eX12_has2 mX12_421 (by decide) rfl rfl (Nat.le_of_ble_eq_true rfl) dX12_hangs_70 ?_
    refine x_if_ne (pc := 73) (tgt := 96) o dX12_hangs_73 (by decide) (fun c19 => ?_) (fun c19 => ?_)
    · have h := xif h c19
      refine x_iconst (pc := 96) o dX12_hangs_96 ic_0 ?_
      refine x_ior (pc := 97) o dX12_hangs_97 ?_
      obtain ⟨v11, hv11, h⟩ := xbs h
      refine x_istore_nE (pc := 98) o dX12_hangs_98 rfl hn3 hv11 ?_
      obtain ⟨v12, hv12, h⟩ := xbs h
      refine x_iincE (pc := 99) o dX12_hangs_99 rfl ic_1 hn4 hv12 ?_
      refine x_goto (pc := 102) (tgt := 47) o dX12_hangs_102 (by decide) ?_
      refine x_to (l := [(0, .ref (M.2.1 k0)), (1, .int a1), (2, .int a2), (3, .int v11), (4, .int v12)]) ⟨rfl, rfl, rfl, rfl, rfl, trivial⟩ ?_
      exact hrec v11 v12 S h
    · have h := xit h c19
      refine x_aload_n (pc := 76) o dX12_hangs_76 rfl rfl ?_
      refine x_iload_n (pc := 77) o dX12_hangs_77 rfl rfl ?_
      refine x_iload_n (pc := 78) o dX12_hangs_78 rfl rfl ?_
      refine x_iconst (pc := 79) o dX12_hangs_79 ic_1 ?_
      refine x_iload (pc := 80) o dX12_hangs_80 rfl ?_
      refine x_ishl (pc := 82) o dX12_hangs_82 ?_
      obtain ⟨q13, hq13, h⟩ := xbs h
      refine x_callI (pc := 83) (As := [.int a1, .int a2, .int (((1 : Int32)) <<< (a4 &&& 31))]) (b := k0) (rest := [.int a3]) o (tX12_isDoneBy _ M _ n k0 a1 a2 (((1 : Int32)) <<< (a4 &&& 31)) S q13 hq13) eX12_isDoneBy mX12_615 clX12 (kX12_isDoneBy hq13) (by decide) rfl rfl (Nat.le_of_ble_eq_true rfl) dX12_hangs_83 ?_
      refine x_if_ne (pc := 86) (tgt := 96) o dX12_hangs_86 (by decide) (fun c18 => ?_) (fun c18 => ?_)
      · have h := xif h c18
        refine x_iconst (pc := 96) o dX12_hangs_96 ic_0 ?_
        refine x_ior (pc := 97) o dX12_hangs_97 ?_
        obtain ⟨v14, hv14, h⟩ := xbs h
        refine x_istore_nE (pc := 98) o dX12_hangs_98 rfl hn3 hv14 ?_
        obtain ⟨v15, hv15, h⟩ := xbs h
        refine x_iincE (pc := 99) o dX12_hangs_99 rfl ic_1 hn4 hv15 ?_
        refine x_goto (pc := 102) (tgt := 47) o dX12_hangs_102 (by decide) ?_
        refine x_to (l := [(0, .ref (M.2.1 k0)), (1, .int a1), (2, .int a2), (3, .int v14), (4, .int v15)]) ⟨rfl, rfl, rfl, rfl, rfl, trivial⟩ ?_
        exact hrec v14 v15 q13.2 h
      · have h := xit h c18
        refine x_iconst (pc := 89) o dX12_hangs_89 ic_1 ?_
        refine x_iload (pc := 90) o dX12_hangs_90 rfl ?_
        refine x_ishl (pc := 92) o dX12_hangs_92 ?_
        refine x_goto (pc := 93) (tgt := 97) o dX12_hangs_93 (by decide) ?_
        refine x_ior (pc := 97) o dX12_hangs_97 ?_
        obtain ⟨v16, hv16, h⟩ := xbs h
        refine x_istore_nE (pc := 98) o dX12_hangs_98 rfl hn3 hv16 ?_
        obtain ⟨v17, hv17, h⟩ := xbs h
        refine x_iincE (pc := 99) o dX12_hangs_99 rfl ic_1 hn4 hv17 ?_
        refine x_goto (pc := 102) (tgt := 47) o dX12_hangs_102 (by decide) ?_
        refine x_to (l := [(0, .ref (M.2.1 k0)), (1, .int a1), (2, .int a2), (3, .int v16), (4, .int v17)]) ⟨rfl, rfl, rfl, rfl, rfl, trivial⟩ ?_
        exact hrec v16 v17 q13.2 h
theorem tX12_hangs_L47 {Γ : xGm} {M : xMg} (o : xOk Γ tM M 10 cX12_hangs RX12) (hnL : Γ.2.2.2 = 5) (n : Nat) (k0 : Nat) (a1 : Int32) (a2 : Int32) (z : (Int32 × xSt)) (K : xAt Γ tM M 105 (xlv [(3, .int z.1)]) [] z.2) : ∀ (q : Nat) (a3 : Int32) (a4 : Int32) (S : xSt), fX12_hangs_L47 n k0 a1 a2 q a3 a4 S = some z → xAt Γ tM M 47 (xlv [(0, .ref (M.2.1 k0)), (1, .int a1), (2, .int a2), (3, .int a3), (4, .int a4)]) [] S := by
  intro q
  induction q with
  | zero => intro a3 a4 S h; cases h
  | succ q ih => intro a3 a4 S h; exact tX12_hangs_L47b o hnL n k0 a1 a2 a3 a4 S z ih K h
def fX12_hangs (n : Nat) (k0 : Nat) (a1 : Int32) (a2 : Int32) (S : xSt) : Option (Int32 × xSt) :=
  if tM.1 k0 = 12 then
  ((fX12_isJob k0 a1 S).bind fun v1 =>
  if v1 = 0 then
  (some ((-1 : Int32), S))
else
  ((fX12_isAhead k0 a2 ((1 : Int32)) ((60 : Int32)) S).bind fun v2 =>
  if v2 = 0 then
  (some ((-1 : Int32), S))
else
  ((fX12_isDone k0 ((0 : Int32)) a1 S).bind fun v3 =>
  if v3 = 0 then
  ((fX12_isDoneBy n k0 a1 a2 ((0 : Int32)) S).bind fun q4 =>
  if q4.1 = 0 then
  (some ((0 : Int32), q4.2))
else
  ((fX12_hangs_L47 n k0 a1 a2 n ((0 : Int32)) ((0 : Int32)) q4.2).bind fun z21 => some (z21.1, z21.2)))
else
  (some ((0 : Int32), S)))))
  else none
theorem kX12_hangs {z : Int32 × xSt} {n : Nat} {k0 : Nat} {a1 : Int32} {a2 : Int32} {S : xSt} (h : fX12_hangs n k0 a1 a2 S = some z) : tM.1 k0 = 12 := by
  unfold fX12_hangs at h
  exact (xck h).1
set_option maxHeartbeats 4000000 in
theorem tX12_hangs (l : Launch) (M : xMg) (A : Nat → Prop) (n : Nat) (k0 : Nat) (a1 : Int32) (a2 : Int32) (S : xSt) (z : Int32 × xSt) (h : fX12_hangs n k0 a1 a2 S = some z) : xMI l yX12_hangs cX12_hangs 5 (some .int) 10 tM M A [.ref (M.2.1 k0), .int a1, .int a2] S z.1 z.2 := by
  refine x_metI (plainFor_of_name (by decide)) tM_ok (Nat.le_of_ble_eq_true rfl) (fun Γ hA hnL hl hr o => ?_)
  subst hA; subst hl
  have o : xOk Γ tM M 10 cX12_hangs RX12 := o
  unfold fX12_hangs at h
  obtain ⟨hk0, h⟩ := xck h
  refine x_to (l := [(0, .ref (M.2.1 k0)), (1, .int a1), (2, .int a2)]) ⟨rfl, rfl, rfl, trivial⟩ ?_
  have hn3 : 3 < Γ.2.2.2 := by omega
  have hn4 : 4 < Γ.2.2.2 := by omega
  refine x_aload_n (pc := 0) o dX12_hangs_0 rfl rfl ?_
  refine x_iload_n (pc := 1) o dX12_hangs_1 rfl rfl ?_
  obtain ⟨v1, hv1, h⟩ := xbs h
  refine x_callI (pc := 2) (As := [.int a1]) (b := k0) (rest := []) o (tX12_isJob _ M _ k0 a1 S v1 hv1) eX12_isJob mX12_589 clX12 (kX12_isJob hv1) (by decide) rfl rfl (Nat.le_of_ble_eq_true rfl) dX12_hangs_2 ?_
  refine x_if_eq (pc := 5) (tgt := 19) o dX12_hangs_5 (by decide) (fun c25 => ?_) (fun c25 => ?_)
  · have h := xit h c25
    refine x_iconst (pc := 19) o dX12_hangs_19 ic_m1 ?_
    exact x_ireturn (pc := 20) o hr dX12_hangs_20 (xr1 h) (xr2 h)
  · have h := xif h c25
    refine x_aload_n (pc := 8) o dX12_hangs_8 rfl rfl ?_
    refine x_iload_n (pc := 9) o dX12_hangs_9 rfl rfl ?_
    refine x_iconst (pc := 10) o dX12_hangs_10 ic_1 ?_
    refine x_bipush (pc := 11) o dX12_hangs_11 bp_60 ?_
    obtain ⟨v2, hv2, h⟩ := xbs h
    refine x_callI (pc := 13) (As := [.int a2, .int ((1 : Int32)), .int ((60 : Int32))]) (b := k0) (rest := []) o (tX12_isAhead _ M _ k0 a2 ((1 : Int32)) ((60 : Int32)) S v2 hv2) eX12_isAhead mX12_592 clX12 (kX12_isAhead hv2) (by decide) rfl rfl (Nat.le_of_ble_eq_true rfl) dX12_hangs_13 ?_
    refine x_if_ne (pc := 16) (tgt := 21) o dX12_hangs_16 (by decide) (fun c24 => ?_) (fun c24 => ?_)
    · have h := xif h c24
      refine x_aload_n (pc := 21) o dX12_hangs_21 rfl rfl ?_
      refine x_iconst (pc := 22) o dX12_hangs_22 ic_0 ?_
      refine x_iload_n (pc := 23) o dX12_hangs_23 rfl rfl ?_
      obtain ⟨v3, hv3, h⟩ := xbs h
      refine x_callI (pc := 24) (As := [.int ((0 : Int32)), .int a1]) (b := k0) (rest := []) o (tX12_isDone _ M _ k0 ((0 : Int32)) a1 S v3 hv3) eX12_isDone mX12_521 clX12 (kX12_isDone hv3) (by decide) rfl rfl (Nat.le_of_ble_eq_true rfl) dX12_hangs_24 ?_
      refine x_if_ne (pc := 27) (tgt := 40) o dX12_hangs_27 (by decide) (fun c23 => ?_) (fun c23 => ?_)
      · have h := xif h c23
        refine x_iconst (pc := 40) o dX12_hangs_40 ic_0 ?_
        exact x_ireturn (pc := 41) o hr dX12_hangs_41 (xr1 h) (xr2 h)
      · have h := xit h c23
        refine x_aload_n (pc := 30) o dX12_hangs_30 rfl rfl ?_
        refine x_iload_n (pc := 31) o dX12_hangs_31 rfl rfl ?_
        refine x_iload_n (pc := 32) o dX12_hangs_32 rfl rfl ?_
        refine x_iconst (pc := 33) o dX12_hangs_33 ic_0 ?_
        obtain ⟨q4, hq4, h⟩ := xbs h
        refine x_callI (pc := 34) (As := [.int a1, .int a2, .int ((0 : Int32))]) (b := k0) (rest := []) o (tX12_isDoneBy _ M _ n k0 a1 a2 ((0 : Int32)) S q4 hq4) eX12_isDoneBy mX12_615 clX12 (kX12_isDoneBy hq4) (by decide) rfl rfl (Nat.le_of_ble_eq_true rfl) dX12_hangs_34 ?_
        refine x_if_ne (pc := 37) (tgt := 42) o dX12_hangs_37 (by decide) (fun c22 => ?_) (fun c22 => ?_)
        · have h := xif h c22
          refine x_iconst (pc := 42) o dX12_hangs_42 ic_0 ?_
          refine x_istore_n (pc := 43) o dX12_hangs_43 rfl hn3 ?_
          refine x_iconst (pc := 44) o dX12_hangs_44 ic_0 ?_
          refine x_istore (pc := 45) o dX12_hangs_45 hn4 ?_
          obtain ⟨z21, hz21, h⟩ := xbs h
          refine x_to (l := [(0, .ref (M.2.1 k0)), (1, .int a1), (2, .int a2), (3, .int ((0 : Int32))), (4, .int ((0 : Int32)))]) ⟨rfl, rfl, rfl, rfl, rfl, trivial⟩ ?_
          refine tX12_hangs_L47 o hnL n k0 a1 a2 z21 ?_ n ((0 : Int32)) ((0 : Int32)) q4.2 hz21
          refine x_iload_n (pc := 105) o dX12_hangs_105 rfl rfl ?_
          exact x_ireturn (pc := 106) o hr dX12_hangs_106 (xr1 h) (xr2 h)
        · have h := xit h c22
          refine x_iconst (pc := 40) o dX12_hangs_40 ic_0 ?_
          exact x_ireturn (pc := 41) o hr dX12_hangs_41 (xr1 h) (xr2 h)
    · have h := xit h c24
      refine x_iconst (pc := 19) o dX12_hangs_19 ic_m1 ?_
      exact x_ireturn (pc := 20) o hr dX12_hangs_20 (xr1 h) (xr2 h)
def fX12_guard_L40b (n : Nat) (k0 : Nat) (a1 : Int32) (a2 : Int32) (a3 : Int32) (rec : Int32 → xSt → Option ((xSt) ⊕ (Int32 × xSt))) (a4 : Int32) (S : xSt) : Option ((xSt) ⊕ (Int32 × xSt)) :=
  (xgF tM 12 17 k0 S).bind fun r4 =>
  (xgI tM 12 13 k0 S).bind fun v5 =>
  (xal tM r4 v5 S).bind fun v6 =>
  if (((1 : Int32)) <<< (v6 &&& 31)) ≤ a4 then
  (some (.inl S))
else
  ((fX12_bits n a4 S).bind fun v7 =>
  if v7 = a3 then
  ((xgF tM 12 58 k0 S).bind fun r9 =>
  (xal tM r9 ((0 : Int32)) S).bind fun v10 =>
  if (a4 &&& v10) = 0 then
  ((fX12_isDoneBy n k0 a1 a2 a4 S).bind fun q12 =>
  if q12.1 = 0 then
  (some (.inr (a4, q12.2)))
else
  ((some (a4 + (1 : Int32))).bind fun v13 =>
  rec v13 q12.2))
else
  ((some (a4 + (1 : Int32))).bind fun v11 =>
  rec v11 S))
else
  ((some (a4 + (1 : Int32))).bind fun v8 =>
  rec v8 S))
def fX12_guard_L40 (n : Nat) (k0 : Nat) (a1 : Int32) (a2 : Int32) (a3 : Int32) : Nat → Int32 → xSt → Option ((xSt) ⊕ (Int32 × xSt))
  | 0 => fun _ _ => none
  | q + 1 => fX12_guard_L40b n k0 a1 a2 a3 (fX12_guard_L40 n k0 a1 a2 a3 q)
set_option maxHeartbeats 4000000 in
theorem tX12_guard_L40b {Γ : xGm} {M : xMg} (o : xOk Γ tM M 10 cX12_guard RX12) (hnL : Γ.2.2.2 = 5) {rec : Int32 → xSt → Option ((xSt) ⊕ (Int32 × xSt))} (n : Nat) (k0 : Nat) (a1 : Int32) (a2 : Int32) (a3 : Int32) (a4 : Int32) (S : xSt) (z : ((xSt) ⊕ (Int32 × xSt))) (hrec : ∀ (a4 : Int32) (S : xSt), rec a4 S = some z → xAt Γ tM M 40 (xlv [(0, .ref (M.2.1 k0)), (1, .int a1), (2, .int a2), (3, .int a3), (4, .int a4)]) [] S) (K : ∀ e, z = .inl e → xAt Γ tM M 97 (xlv [(0, .ref (M.2.1 k0)), (1, .int a1), (2, .int a2), (3, .int a3)]) [] e) (R : ∀ r, z = .inr r → xRI Γ tM M (some .int) r.1 r.2) (h : fX12_guard_L40b n k0 a1 a2 a3 rec a4 S = some z) : xAt Γ tM M 40 (xlv [(0, .ref (M.2.1 k0)), (1, .int a1), (2, .int a2), (3, .int a3), (4, .int a4)]) [] S := by
  have hn4 : 4 < Γ.2.2.2 := by omega
  unfold fX12_guard_L40b at h
  refine x_iload (pc := 40) o dX12_guard_40 rfl ?_
  refine x_iconst (pc := 42) o dX12_guard_42 ic_1 ?_
  refine x_aload_n (pc := 43) o dX12_guard_43 rfl rfl ?_
  obtain ⟨r4, hr4, h⟩ := xbs h
  refine gX12_63 (pc := 44) o dX12_guard_44 hr4 ?_
  refine x_aload_n (pc := 47) o dX12_guard_47 rfl rfl ?_
  obtain ⟨v5, hv5, h⟩ := xbs h
  refine gX12_51 (pc := 48) o dX12_guard_48 hv5 ?_
  obtain ⟨v6, hv6, h⟩ := xbs h
  refine x_iaload (pc := 51) o dX12_guard_51 hv6 ?_
  refine x_ishl (pc := 52) o dX12_guard_52 ?_
  refine x_icmp_ge (pc := 53) (tgt := 97) o dX12_guard_53 (by decide) (fun c17 => ?_) (fun c17 => ?_)
  · have h := xit h c17
    refine x_to (l := [(0, .ref (M.2.1 k0)), (1, .int a1), (2, .int a2), (3, .int a3)]) ⟨rfl, rfl, rfl, rfl, trivial⟩ ?_
    exact K _ (Option.some.inj h).symm
  · have h := xif h c17
    refine x_iload (pc := 56) o dX12_guard_56 rfl ?_
    obtain ⟨v7, hv7, h⟩ := xbs h
    refine x_statI (pc := 58) (As := [.int a4]) (rest := []) o (tX12_bits _ M _ n a4 S v7 hv7) eX12_bits mX12_547 (by decide) rfl rfl (Nat.le_of_ble_eq_true rfl) dX12_guard_58 ?_
    refine x_iload_n (pc := 61) o dX12_guard_61 rfl rfl ?_
    refine x_icmp_ne (pc := 62) (tgt := 91) o dX12_guard_62 (by decide) (fun c16 => ?_) (fun c16 => ?_)
    · have h := xif h c16
      obtain ⟨v8, hv8, h⟩ := xbs h
      refine x_iincE (pc := 91) o dX12_guard_91 rfl ic_1 hn4 hv8 ?_
      refine x_goto (pc := 94) (tgt := 40) o dX12_guard_94 (by decide) ?_
      refine x_to (l := [(0, .ref (M.2.1 k0)), (1, .int a1), (2, .int a2), (3, .int a3), (4, .int v8)]) ⟨rfl, rfl, rfl, rfl, rfl, trivial⟩ ?_
      exact hrec v8 S h
    · have h := xit h c16
      refine x_iload (pc := 65) o dX12_guard_65 rfl ?_
      refine x_aload_n (pc := 67) o dX12_guard_67 rfl rfl ?_
      obtain ⟨r9, hr9, h⟩ := xbs h
      refine gX12_189 (pc := 68) o dX12_guard_68 hr9 ?_
      refine x_iconst (pc := 71) o dX12_guard_71 ic_0 ?_
      obtain ⟨v10, hv10, h⟩ := xbs h
      refine x_iaload (pc := 72) o dX12_guard_72 hv10 ?_
      refine x_iand (pc := 73) o dX12_guard_73 ?_
      refine x_if_ne (pc := 74) (tgt := 91) o dX12_guard_74 (by decide) (fun c15 => ?_) (fun c15 => ?_)
      · have h := xif h c15
        obtain ⟨v11, hv11, h⟩ := xbs h
        refine x_iincE (pc := 91) o dX12_guard_91 rfl ic_1 hn4 hv11 ?_
        refine x_goto (pc := 94) (tgt := 40) o dX12_guard_94 (by decide) ?_
        refine x_to (l := [(0, .ref (M.2.1 k0)), (1, .int a1), (2, .int a2), (3, .int a3), (4, .int v11)]) ⟨rfl, rfl, rfl, rfl, rfl, trivial⟩ ?_
        exact hrec v11 S h
      · have h := xit h c15
        refine x_aload_n (pc := 77) o dX12_guard_77 rfl rfl ?_
        refine x_iload_n (pc := 78) o dX12_guard_78 rfl rfl ?_
        refine x_iload_n (pc := 79) o dX12_guard_79 rfl rfl ?_
        refine x_iload (pc := 80) o dX12_guard_80 rfl ?_
        obtain ⟨q12, hq12, h⟩ := xbs h
        refine x_callI (pc := 82) (As := [.int a1, .int a2, .int a4]) (b := k0) (rest := []) o (tX12_isDoneBy _ M _ n k0 a1 a2 a4 S q12 hq12) eX12_isDoneBy mX12_615 clX12 (kX12_isDoneBy hq12) (by decide) rfl rfl (Nat.le_of_ble_eq_true rfl) dX12_guard_82 ?_
        refine x_if_ne (pc := 85) (tgt := 91) o dX12_guard_85 (by decide) (fun c14 => ?_) (fun c14 => ?_)
        · have h := xif h c14
          obtain ⟨v13, hv13, h⟩ := xbs h
          refine x_iincE (pc := 91) o dX12_guard_91 rfl ic_1 hn4 hv13 ?_
          refine x_goto (pc := 94) (tgt := 40) o dX12_guard_94 (by decide) ?_
          refine x_to (l := [(0, .ref (M.2.1 k0)), (1, .int a1), (2, .int a2), (3, .int a3), (4, .int v13)]) ⟨rfl, rfl, rfl, rfl, rfl, trivial⟩ ?_
          exact hrec v13 q12.2 h
        · have h := xit h c14
          refine x_iload (pc := 88) o dX12_guard_88 rfl ?_
          exact x_ireturn (pc := 90) o (R _ (Option.some.inj h).symm) dX12_guard_90 rfl rfl
theorem tX12_guard_L40 {Γ : xGm} {M : xMg} (o : xOk Γ tM M 10 cX12_guard RX12) (hnL : Γ.2.2.2 = 5) (n : Nat) (k0 : Nat) (a1 : Int32) (a2 : Int32) (a3 : Int32) (z : ((xSt) ⊕ (Int32 × xSt))) (K : ∀ e, z = .inl e → xAt Γ tM M 97 (xlv [(0, .ref (M.2.1 k0)), (1, .int a1), (2, .int a2), (3, .int a3)]) [] e) (R : ∀ r, z = .inr r → xRI Γ tM M (some .int) r.1 r.2) : ∀ (q : Nat) (a4 : Int32) (S : xSt), fX12_guard_L40 n k0 a1 a2 a3 q a4 S = some z → xAt Γ tM M 40 (xlv [(0, .ref (M.2.1 k0)), (1, .int a1), (2, .int a2), (3, .int a3), (4, .int a4)]) [] S := by
  intro q
  induction q with
  | zero => intro a4 S h; cases h
  | succ q ih => intro a4 S h; exact tX12_guard_L40b o hnL n k0 a1 a2 a3 a4 S z ih K R h
def fX12_guard_L32b (n : Nat) (k0 : Nat) (a1 : Int32) (a2 : Int32) (rec : Int32 → xSt → Option ((xSt) ⊕ (Int32 × xSt))) (a3 : Int32) (S : xSt) : Option ((xSt) ⊕ (Int32 × xSt)) :=
  if ((3 : Int32)) < a3 then
  (some (.inl S))
else
  ((fX12_guard_L40 n k0 a1 a2 a3 n ((0 : Int32)) S).bind fun z18 => xel z18 (fun ez18 => (some (a3 + (1 : Int32))).bind fun v19 =>
  rec v19 ez18) (fun r => some (.inr r)))
def fX12_guard_L32 (n : Nat) (k0 : Nat) (a1 : Int32) (a2 : Int32) : Nat → Int32 → xSt → Option ((xSt) ⊕ (Int32 × xSt))
  | 0 => fun _ _ => none
  | q + 1 => fX12_guard_L32b n k0 a1 a2 (fX12_guard_L32 n k0 a1 a2 q)
set_option maxHeartbeats 4000000 in
theorem tX12_guard_L32b {Γ : xGm} {M : xMg} (o : xOk Γ tM M 10 cX12_guard RX12) (hnL : Γ.2.2.2 = 5) {rec : Int32 → xSt → Option ((xSt) ⊕ (Int32 × xSt))} (n : Nat) (k0 : Nat) (a1 : Int32) (a2 : Int32) (a3 : Int32) (S : xSt) (z : ((xSt) ⊕ (Int32 × xSt))) (hrec : ∀ (a3 : Int32) (S : xSt), rec a3 S = some z → xAt Γ tM M 32 (xlv [(0, .ref (M.2.1 k0)), (1, .int a1), (2, .int a2), (3, .int a3)]) [] S) (K : ∀ e, z = .inl e → xAt Γ tM M 103 (xlv []) [] e) (R : ∀ r, z = .inr r → xRI Γ tM M (some .int) r.1 r.2) (h : fX12_guard_L32b n k0 a1 a2 rec a3 S = some z) : xAt Γ tM M 32 (xlv [(0, .ref (M.2.1 k0)), (1, .int a1), (2, .int a2), (3, .int a3)]) [] S := by
  have hn3 : 3 < Γ.2.2.2 := by omega
  have hn4 : 4 < Γ.2.2.2 := by omega
  unfold fX12_guard_L32b at h
  refine x_iload_n (pc := 32) o dX12_guard_32 rfl rfl ?_
  refine x_iconst (pc := 33) o dX12_guard_33 ic_3 ?_
  refine x_icmp_gt (pc := 34) (tgt := 103) o dX12_guard_34 (by decide) (fun c20 => ?_) (fun c20 => ?_)
  · have h := xit h c20
    refine x_to (l := []) trivial ?_
    exact K _ (Option.some.inj h).symm
  · have h := xif h c20
    refine x_iconst (pc := 37) o dX12_guard_37 ic_0 ?_
    refine x_istore (pc := 38) o dX12_guard_38 hn4 ?_
    obtain ⟨z18, hz18, h⟩ := xbs h
    refine x_to (l := [(0, .ref (M.2.1 k0)), (1, .int a1), (2, .int a2), (3, .int a3), (4, .int ((0 : Int32)))]) ⟨rfl, rfl, rfl, rfl, rfl, trivial⟩ ?_
    refine tX12_guard_L40 o hnL n k0 a1 a2 a3 z18 (fun ez18 he => ?_) (fun r he => ?_) n ((0 : Int32)) S hz18
    · subst he; have h := xel_l h
      obtain ⟨v19, hv19, h⟩ := xbs h
      refine x_iincE (pc := 97) o dX12_guard_97 rfl ic_1 hn3 hv19 ?_
      refine x_goto (pc := 100) (tgt := 32) o dX12_guard_100 (by decide) ?_
      refine x_to (l := [(0, .ref (M.2.1 k0)), (1, .int a1), (2, .int a2), (3, .int v19)]) ⟨rfl, rfl, rfl, rfl, trivial⟩ ?_
      exact hrec v19 ez18 h
    · subst he; have h := xel_r h
      exact R _ (Option.some.inj h).symm
theorem tX12_guard_L32 {Γ : xGm} {M : xMg} (o : xOk Γ tM M 10 cX12_guard RX12) (hnL : Γ.2.2.2 = 5) (n : Nat) (k0 : Nat) (a1 : Int32) (a2 : Int32) (z : ((xSt) ⊕ (Int32 × xSt))) (K : ∀ e, z = .inl e → xAt Γ tM M 103 (xlv []) [] e) (R : ∀ r, z = .inr r → xRI Γ tM M (some .int) r.1 r.2) : ∀ (q : Nat) (a3 : Int32) (S : xSt), fX12_guard_L32 n k0 a1 a2 q a3 S = some z → xAt Γ tM M 32 (xlv [(0, .ref (M.2.1 k0)), (1, .int a1), (2, .int a2), (3, .int a3)]) [] S := by
  intro q
  induction q with
  | zero => intro a3 S h; cases h
  | succ q ih => intro a3 S h; exact tX12_guard_L32b o hnL n k0 a1 a2 a3 S z ih K R h
def fX12_guard (n : Nat) (k0 : Nat) (a1 : Int32) (a2 : Int32) (S : xSt) : Option (Int32 × xSt) :=
  if tM.1 k0 = 12 then
  ((fX12_isJob k0 a1 S).bind fun v1 =>
  if v1 = 0 then
  (some ((-1 : Int32), S))
else
  ((fX12_isAhead k0 a2 ((1 : Int32)) ((30 : Int32)) S).bind fun v2 =>
  if v2 = 0 then
  (some ((-1 : Int32), S))
else
  ((fX12_isDone k0 ((0 : Int32)) a1 S).bind fun v3 =>
  if v3 = 0 then
  ((fX12_guard_L32 n k0 a1 a2 n ((0 : Int32)) S).bind fun z21 => xel z21 (fun ez21 => some ((-1 : Int32), ez21)) (fun r => some r))
else
  (some ((-1 : Int32), S)))))
  else none
theorem kX12_guard {z : Int32 × xSt} {n : Nat} {k0 : Nat} {a1 : Int32} {a2 : Int32} {S : xSt} (h : fX12_guard n k0 a1 a2 S = some z) : tM.1 k0 = 12 := by
  unfold fX12_guard at h
  exact (xck h).1
set_option maxHeartbeats 4000000 in
theorem tX12_guard (l : Launch) (M : xMg) (A : Nat → Prop) (n : Nat) (k0 : Nat) (a1 : Int32) (a2 : Int32) (S : xSt) (z : Int32 × xSt) (h : fX12_guard n k0 a1 a2 S = some z) : xMI l yX12_guard cX12_guard 5 (some .int) 10 tM M A [.ref (M.2.1 k0), .int a1, .int a2] S z.1 z.2 := by
  refine x_metI (plainFor_of_name (by decide)) tM_ok (Nat.le_of_ble_eq_true rfl) (fun Γ hA hnL hl hr o => ?_)
  subst hA; subst hl
  have o : xOk Γ tM M 10 cX12_guard RX12 := o
  unfold fX12_guard at h
  obtain ⟨hk0, h⟩ := xck h
  refine x_to (l := [(0, .ref (M.2.1 k0)), (1, .int a1), (2, .int a2)]) ⟨rfl, rfl, rfl, trivial⟩ ?_
  have hn3 : 3 < Γ.2.2.2 := by omega
  refine x_aload_n (pc := 0) o dX12_guard_0 rfl rfl ?_
  refine x_iload_n (pc := 1) o dX12_guard_1 rfl rfl ?_
  obtain ⟨v1, hv1, h⟩ := xbs h
  refine x_callI (pc := 2) (As := [.int a1]) (b := k0) (rest := []) o (tX12_isJob _ M _ k0 a1 S v1 hv1) eX12_isJob mX12_589 clX12 (kX12_isJob hv1) (by decide) rfl rfl (Nat.le_of_ble_eq_true rfl) dX12_guard_2 ?_
  refine x_if_eq (pc := 5) (tgt := 28) o dX12_guard_5 (by decide) (fun c24 => ?_) (fun c24 => ?_)
  · have h := xit h c24
    refine x_iconst (pc := 28) o dX12_guard_28 ic_m1 ?_
    exact x_ireturn (pc := 29) o hr dX12_guard_29 (xr1 h) (xr2 h)
  · have h := xif h c24
    refine x_aload_n (pc := 8) o dX12_guard_8 rfl rfl ?_
    refine x_iload_n (pc := 9) o dX12_guard_9 rfl rfl ?_
    refine x_iconst (pc := 10) o dX12_guard_10 ic_1 ?_
    refine x_bipush (pc := 11) o dX12_guard_11 bp_30 ?_
    obtain ⟨v2, hv2, h⟩ := xbs h
    refine x_callI (pc := 13) (As := [.int a2, .int ((1 : Int32)), .int ((30 : Int32))]) (b := k0) (rest := []) o (tX12_isAhead _ M _ k0 a2 ((1 : Int32)) ((30 : Int32)) S v2 hv2) eX12_isAhead mX12_592 clX12 (kX12_isAhead hv2) (by decide) rfl rfl (Nat.le_of_ble_eq_true rfl) dX12_guard_13 ?_
    refine x_if_eq (pc := 16) (tgt := 28) o dX12_guard_16 (by decide) (fun c23 => ?_) (fun c23 => ?_)
    · have h := xit h c23
      refine x_iconst (pc := 28) o dX12_guard_28 ic_m1 ?_
      exact x_ireturn (pc := 29) o hr dX12_guard_29 (xr1 h) (xr2 h)
    · have h := xif h c23
      refine x_aload_n (pc := 19) o dX12_guard_19 rfl rfl ?_
      refine x_iconst (pc := 20) o dX12_guard_20 ic_0 ?_
      refine x_iload_n (pc := 21) o dX12_guard_21 rfl rfl ?_
      obtain ⟨v3, hv3, h⟩ := xbs h
      refine x_callI (pc := 22) (As := [.int ((0 : Int32)), .int a1]) (b := k0) (rest := []) o (tX12_isDone _ M _ k0 ((0 : Int32)) a1 S v3 hv3) eX12_isDone mX12_521 clX12 (kX12_isDone hv3) (by decide) rfl rfl (Nat.le_of_ble_eq_true rfl) dX12_guard_22 ?_
      refine x_if_eq (pc := 25) (tgt := 30) o dX12_guard_25 (by decide) (fun c22 => ?_) (fun c22 => ?_)
      · have h := xit h c22
        refine x_iconst (pc := 30) o dX12_guard_30 ic_0 ?_
        refine x_istore_n (pc := 31) o dX12_guard_31 rfl hn3 ?_
        obtain ⟨z21, hz21, h⟩ := xbs h
        refine x_to (l := [(0, .ref (M.2.1 k0)), (1, .int a1), (2, .int a2), (3, .int ((0 : Int32)))]) ⟨rfl, rfl, rfl, rfl, trivial⟩ ?_
        refine tX12_guard_L32 o hnL n k0 a1 a2 z21 (fun ez21 he => ?_) (fun r he => ?_) n ((0 : Int32)) S hz21
        · subst he; have h := xel_l h
          refine x_iconst (pc := 103) o dX12_guard_103 ic_m1 ?_
          exact x_ireturn (pc := 104) o hr dX12_guard_104 (xr1 h) (xr2 h)
        · subst he; have h := xel_r h
          cases Option.some.inj h
          exact hr
      · have h := xif h c22
        refine x_iconst (pc := 28) o dX12_guard_28 ic_m1 ?_
        exact x_ireturn (pc := 29) o hr dX12_guard_29 (xr1 h) (xr2 h)
def fX12_pointed_L5b (n : Nat) (k0 : Nat) (a1 : Int32) (a2 : Int32) (S : xSt) (rec : Int32 → Int32 → Option (Int32)) (a3 : Int32) (a4 : Int32) : Option (Int32) :=
  (xgF tM 12 20 k0 S).bind fun r1 =>
  (xgI tM 12 13 k0 S).bind fun v2 =>
  (xal tM r1 v2 S).bind fun v3 =>
  if v3 ≤ a4 then
  (some a3)
else
  ((fX12_has2 a2 a4 S).bind fun v4 =>
  if v4 = 0 then
  ((some (a4 + (1 : Int32))).bind fun v5 =>
  rec a3 v5)
else
  ((fX12_knownIn k0 ((0 : Int32)) a1 a4 S).bind fun v6 =>
  (fX12_knownIn k0 ((0 : Int32)) a1 a3 S).bind fun v7 =>
  if v6 ≤ v7 then
  ((some (a4 + (1 : Int32))).bind fun v8 =>
  rec a3 v8)
else
  ((some (a4 + (1 : Int32))).bind fun v9 =>
  rec a4 v9)))
def fX12_pointed_L5 (n : Nat) (k0 : Nat) (a1 : Int32) (a2 : Int32) (S : xSt) : Nat → Int32 → Int32 → Option (Int32)
  | 0 => fun _ _ => none
  | q + 1 => fX12_pointed_L5b n k0 a1 a2 S (fX12_pointed_L5 n k0 a1 a2 S q)
set_option maxHeartbeats 4000000 in
theorem tX12_pointed_L5b {Γ : xGm} {M : xMg} (o : xOk Γ tM M 2 cX12_pointed RX12) (hnL : Γ.2.2.2 = 5) {rec : Int32 → Int32 → Option (Int32)} (n : Nat) (k0 : Nat) (a1 : Int32) (a2 : Int32) (S : xSt) (a3 : Int32) (a4 : Int32) (z : (Int32)) (hrec : ∀ (a3 : Int32) (a4 : Int32), rec a3 a4 = some z → xAt Γ tM M 5 (xlv [(0, .ref (M.2.1 k0)), (1, .int a1), (2, .int a2), (3, .int a3), (4, .int a4)]) [] S) (K : xAt Γ tM M 55 (xlv [(3, .int z)]) [] S) (h : fX12_pointed_L5b n k0 a1 a2 S rec a3 a4 = some z) : xAt Γ tM M 5 (xlv [(0, .ref (M.2.1 k0)), (1, .int a1), (2, .int a2), (3, .int a3), (4, .int a4)]) [] S := by
  have hn3 : 3 < Γ.2.2.2 := by omega
  have hn4 : 4 < Γ.2.2.2 := by omega
  unfold fX12_pointed_L5b at h
  refine x_iload (pc := 5) o dX12_pointed_5 rfl ?_
  refine x_aload_n (pc := 7) o dX12_pointed_7 rfl rfl ?_
  obtain ⟨r1, hr1, h⟩ := xbs h
  refine gX12_72 (pc := 8) o dX12_pointed_8 hr1 ?_
  refine x_aload_n (pc := 11) o dX12_pointed_11 rfl rfl ?_
  obtain ⟨v2, hv2, h⟩ := xbs h
  refine gX12_51 (pc := 12) o dX12_pointed_12 hv2 ?_
  obtain ⟨v3, hv3, h⟩ := xbs h
  refine x_iaload (pc := 15) o dX12_pointed_15 hv3 ?_
  refine x_icmp_ge (pc := 16) (tgt := 55) o dX12_pointed_16 (by decide) (fun c12 => ?_) (fun c12 => ?_)
  · have h := xit h c12
    refine x_to (l := [(3, .int a3)]) ⟨rfl, trivial⟩ ?_
    cases Option.some.inj h
    exact K
  · have h := xif h c12
    refine x_iload_n (pc := 19) o dX12_pointed_19 rfl rfl ?_
    refine x_iload (pc := 20) o dX12_pointed_20 rfl ?_
    obtain ⟨v4, hv4, h⟩ := xbs h
    refine x_statI (pc := 22) (As := [.int a2, .int a4]) (rest := []) o (tX12_has2 _ M _ a2 a4 S v4 hv4) eX12_has2 mX12_421 (by decide) rfl rfl (Nat.le_of_ble_eq_true rfl) dX12_pointed_22 ?_
    refine x_if_eq (pc := 25) (tgt := 49) o dX12_pointed_25 (by decide) (fun c11 => ?_) (fun c11 => ?_)
    · have h := xit h c11
      obtain ⟨v5, hv5, h⟩ := xbs h
      refine x_iincE (pc := 49) o dX12_pointed_49 rfl ic_1 hn4 hv5 ?_
      refine x_goto (pc := 52) (tgt := 5) o dX12_pointed_52 (by decide) ?_
      refine x_to (l := [(0, .ref (M.2.1 k0)), (1, .int a1), (2, .int a2), (3, .int a3), (4, .int v5)]) ⟨rfl, rfl, rfl, rfl, rfl, trivial⟩ ?_
      exact hrec a3 v5 h
    · have h := xif h c11
      refine x_aload_n (pc := 28) o dX12_pointed_28 rfl rfl ?_
      refine x_iconst (pc := 29) o dX12_pointed_29 ic_0 ?_
      refine x_iload_n (pc := 30) o dX12_pointed_30 rfl rfl ?_
      refine x_iload (pc := 31) o dX12_pointed_31 rfl ?_
      obtain ⟨v6, hv6, h⟩ := xbs h
      refine x_callI (pc := 33) (As := [.int ((0 : Int32)), .int a1, .int a4]) (b := k0) (rest := []) o (tX12_knownIn _ M _ k0 ((0 : Int32)) a1 a4 S v6 hv6) eX12_knownIn mX12_530 clX12 (kX12_knownIn hv6) (by decide) rfl rfl (Nat.le_of_ble_eq_true rfl) dX12_pointed_33 ?_
      refine x_aload_n (pc := 36) o dX12_pointed_36 rfl rfl ?_
      refine x_iconst (pc := 37) o dX12_pointed_37 ic_0 ?_
      refine x_iload_n (pc := 38) o dX12_pointed_38 rfl rfl ?_
      refine x_iload_n (pc := 39) o dX12_pointed_39 rfl rfl ?_
      obtain ⟨v7, hv7, h⟩ := xbs h
      refine x_callI (pc := 40) (As := [.int ((0 : Int32)), .int a1, .int a3]) (b := k0) (rest := [.int v6]) o (tX12_knownIn _ M _ k0 ((0 : Int32)) a1 a3 S v7 hv7) eX12_knownIn mX12_530 clX12 (kX12_knownIn hv7) (by decide) rfl rfl (Nat.le_of_ble_eq_true rfl) dX12_pointed_40 ?_
      refine x_icmp_le (pc := 43) (tgt := 49) o dX12_pointed_43 (by decide) (fun c10 => ?_) (fun c10 => ?_)
      · have h := xit h c10
        obtain ⟨v8, hv8, h⟩ := xbs h
        refine x_iincE (pc := 49) o dX12_pointed_49 rfl ic_1 hn4 hv8 ?_
        refine x_goto (pc := 52) (tgt := 5) o dX12_pointed_52 (by decide) ?_
        refine x_to (l := [(0, .ref (M.2.1 k0)), (1, .int a1), (2, .int a2), (3, .int a3), (4, .int v8)]) ⟨rfl, rfl, rfl, rfl, rfl, trivial⟩ ?_
        exact hrec a3 v8 h
      · have h := xif h c10
        refine x_iload (pc := 46) o dX12_pointed_46 rfl ?_
        refine x_istore_n (pc := 48) o dX12_pointed_48 rfl hn3 ?_
        obtain ⟨v9, hv9, h⟩ := xbs h
        refine x_iincE (pc := 49) o dX12_pointed_49 rfl ic_1 hn4 hv9 ?_
        refine x_goto (pc := 52) (tgt := 5) o dX12_pointed_52 (by decide) ?_
        refine x_to (l := [(0, .ref (M.2.1 k0)), (1, .int a1), (2, .int a2), (3, .int a4), (4, .int v9)]) ⟨rfl, rfl, rfl, rfl, rfl, trivial⟩ ?_
        exact hrec a4 v9 h
theorem tX12_pointed_L5 {Γ : xGm} {M : xMg} (o : xOk Γ tM M 2 cX12_pointed RX12) (hnL : Γ.2.2.2 = 5) (n : Nat) (k0 : Nat) (a1 : Int32) (a2 : Int32) (S : xSt) (z : (Int32)) (K : xAt Γ tM M 55 (xlv [(3, .int z)]) [] S) : ∀ (q : Nat) (a3 : Int32) (a4 : Int32), fX12_pointed_L5 n k0 a1 a2 S q a3 a4 = some z → xAt Γ tM M 5 (xlv [(0, .ref (M.2.1 k0)), (1, .int a1), (2, .int a2), (3, .int a3), (4, .int a4)]) [] S := by
  intro q
  induction q with
  | zero => intro a3 a4 h; cases h
  | succ q ih => intro a3 a4 h; exact tX12_pointed_L5b o hnL n k0 a1 a2 S a3 a4 z ih K h
def fX12_pointed (n : Nat) (k0 : Nat) (a1 : Int32) (a2 : Int32) (S : xSt) : Option (Int32) :=
  if tM.1 k0 = 12 then
  ((fX12_pointed_L5 n k0 a1 a2 S n a1 ((0 : Int32))).bind fun z13 => some z13)
  else none
theorem kX12_pointed {z : Int32} {n : Nat} {k0 : Nat} {a1 : Int32} {a2 : Int32} {S : xSt} (h : fX12_pointed n k0 a1 a2 S = some z) : tM.1 k0 = 12 := by
  unfold fX12_pointed at h
  exact (xck h).1
set_option maxHeartbeats 4000000 in
theorem tX12_pointed (l : Launch) (M : xMg) (A : Nat → Prop) (n : Nat) (k0 : Nat) (a1 : Int32) (a2 : Int32) (S : xSt) (z : Int32) (h : fX12_pointed n k0 a1 a2 S = some z) : xMI l yX12_pointed cX12_pointed 5 (some .int) 2 tM M A [.ref (M.2.1 k0), .int a1, .int a2] S z S := by
  refine x_metI (plainFor_of_name (by decide)) tM_ok (Nat.le_of_ble_eq_true rfl) (fun Γ hA hnL hl hr o => ?_)
  subst hA; subst hl
  have o : xOk Γ tM M 2 cX12_pointed RX12 := o
  unfold fX12_pointed at h
  obtain ⟨hk0, h⟩ := xck h
  refine x_to (l := [(0, .ref (M.2.1 k0)), (1, .int a1), (2, .int a2)]) ⟨rfl, rfl, rfl, trivial⟩ ?_
  have hn3 : 3 < Γ.2.2.2 := by omega
  have hn4 : 4 < Γ.2.2.2 := by omega
  refine x_iload_n (pc := 0) o dX12_pointed_0 rfl rfl ?_
  refine x_istore_n (pc := 1) o dX12_pointed_1 rfl hn3 ?_
  refine x_iconst (pc := 2) o dX12_pointed_2 ic_0 ?_
  refine x_istore (pc := 3) o dX12_pointed_3 hn4 ?_
  obtain ⟨z13, hz13, h⟩ := xbs h
  refine x_to (l := [(0, .ref (M.2.1 k0)), (1, .int a1), (2, .int a2), (3, .int a1), (4, .int ((0 : Int32)))]) ⟨rfl, rfl, rfl, rfl, rfl, trivial⟩ ?_
  refine tX12_pointed_L5 o hnL n k0 a1 a2 S z13 ?_ n a1 ((0 : Int32)) hz13
  refine x_iload_n (pc := 55) o dX12_pointed_55 rfl rfl ?_
  exact x_ireturn (pc := 56) o hr dX12_pointed_56 (Option.some.inj h) rfl
def fX12_ringAt_L9b (n : Nat) (k0 : Nat) (a1 : Int32) (S : xSt) (rec : Int32 → Int32 → Option ((Unit) ⊕ (Int32))) (a2 : Int32) (a3 : Int32) : Option ((Unit) ⊕ (Int32)) :=
  if ((6 : Int32)) < a3 then
  (some (.inl ()))
else
  (if a2 = a1 then
  (some (.inr a3))
else
  ((xgF tM 12 79 k0 S).bind fun r3 =>
  (xal tM r3 a2 S).bind fun v4 =>
  (some (a3 + (1 : Int32))).bind fun v5 =>
  rec v4 v5))
def fX12_ringAt_L9 (n : Nat) (k0 : Nat) (a1 : Int32) (S : xSt) : Nat → Int32 → Int32 → Option ((Unit) ⊕ (Int32))
  | 0 => fun _ _ => none
  | q + 1 => fX12_ringAt_L9b n k0 a1 S (fX12_ringAt_L9 n k0 a1 S q)
set_option maxHeartbeats 4000000 in
theorem tX12_ringAt_L9b {Γ : xGm} {M : xMg} (o : xOk Γ tM M 1 cX12_ringAt RX12) (hnL : Γ.2.2.2 = 4) {rec : Int32 → Int32 → Option ((Unit) ⊕ (Int32))} (n : Nat) (k0 : Nat) (a1 : Int32) (S : xSt) (a2 : Int32) (a3 : Int32) (z : ((Unit) ⊕ (Int32))) (hrec : ∀ (a2 : Int32) (a3 : Int32), rec a2 a3 = some z → xAt Γ tM M 9 (xlv [(0, .ref (M.2.1 k0)), (1, .int a1), (2, .int a2), (3, .int a3)]) [] S) (K : ∀ e, z = .inl e → xAt Γ tM M 35 (xlv []) [] S) (R : ∀ r, z = .inr r → xRI Γ tM M (some .int) r S) (h : fX12_ringAt_L9b n k0 a1 S rec a2 a3 = some z) : xAt Γ tM M 9 (xlv [(0, .ref (M.2.1 k0)), (1, .int a1), (2, .int a2), (3, .int a3)]) [] S := by
  have hn2 : 2 < Γ.2.2.2 := by omega
  have hn3 : 3 < Γ.2.2.2 := by omega
  unfold fX12_ringAt_L9b at h
  refine x_iload_n (pc := 9) o dX12_ringAt_9 rfl rfl ?_
  refine x_bipush (pc := 10) o dX12_ringAt_10 bp_6 ?_
  refine x_icmp_gt (pc := 12) (tgt := 35) o dX12_ringAt_12 (by decide) (fun c7 => ?_) (fun c7 => ?_)
  · have h := xit h c7
    refine x_to (l := []) trivial ?_
    exact K _ (Option.some.inj h).symm
  · have h := xif h c7
    refine x_iload_n (pc := 15) o dX12_ringAt_15 rfl rfl ?_
    refine x_iload_n (pc := 16) o dX12_ringAt_16 rfl rfl ?_
    refine x_icmp_ne (pc := 17) (tgt := 22) o dX12_ringAt_17 (by decide) (fun c6 => ?_) (fun c6 => ?_)
    · have h := xif h c6
      refine x_aload_n (pc := 22) o dX12_ringAt_22 rfl rfl ?_
      obtain ⟨r3, hr3, h⟩ := xbs h
      refine gX12_252 (pc := 23) o dX12_ringAt_23 hr3 ?_
      refine x_iload_n (pc := 26) o dX12_ringAt_26 rfl rfl ?_
      obtain ⟨v4, hv4, h⟩ := xbs h
      refine x_iaload (pc := 27) o dX12_ringAt_27 hv4 ?_
      refine x_istore_n (pc := 28) o dX12_ringAt_28 rfl hn2 ?_
      obtain ⟨v5, hv5, h⟩ := xbs h
      refine x_iincE (pc := 29) o dX12_ringAt_29 rfl ic_1 hn3 hv5 ?_
      refine x_goto (pc := 32) (tgt := 9) o dX12_ringAt_32 (by decide) ?_
      refine x_to (l := [(0, .ref (M.2.1 k0)), (1, .int a1), (2, .int v4), (3, .int v5)]) ⟨rfl, rfl, rfl, rfl, trivial⟩ ?_
      exact hrec v4 v5 h
    · have h := xit h c6
      refine x_iload_n (pc := 20) o dX12_ringAt_20 rfl rfl ?_
      exact x_ireturn (pc := 21) o (R _ (Option.some.inj h).symm) dX12_ringAt_21 rfl rfl
theorem tX12_ringAt_L9 {Γ : xGm} {M : xMg} (o : xOk Γ tM M 1 cX12_ringAt RX12) (hnL : Γ.2.2.2 = 4) (n : Nat) (k0 : Nat) (a1 : Int32) (S : xSt) (z : ((Unit) ⊕ (Int32))) (K : ∀ e, z = .inl e → xAt Γ tM M 35 (xlv []) [] S) (R : ∀ r, z = .inr r → xRI Γ tM M (some .int) r S) : ∀ (q : Nat) (a2 : Int32) (a3 : Int32), fX12_ringAt_L9 n k0 a1 S q a2 a3 = some z → xAt Γ tM M 9 (xlv [(0, .ref (M.2.1 k0)), (1, .int a1), (2, .int a2), (3, .int a3)]) [] S := by
  intro q
  induction q with
  | zero => intro a2 a3 h; cases h
  | succ q ih => intro a2 a3 h; exact tX12_ringAt_L9b o hnL n k0 a1 S a2 a3 z ih K R h
def fX12_ringAt (n : Nat) (k0 : Nat) (a1 : Int32) (S : xSt) : Option (Int32) :=
  if tM.1 k0 = 12 then
  ((xgF tM 12 79 k0 S).bind fun r1 =>
  (xal tM r1 a1 S).bind fun v2 =>
  (fX12_ringAt_L9 n k0 a1 S n v2 ((1 : Int32))).bind fun z8 => xel z8 (fun ez8 => some ((0 : Int32))) (fun r => some r))
  else none
theorem kX12_ringAt {z : Int32} {n : Nat} {k0 : Nat} {a1 : Int32} {S : xSt} (h : fX12_ringAt n k0 a1 S = some z) : tM.1 k0 = 12 := by
  unfold fX12_ringAt at h
  exact (xck h).1
set_option maxHeartbeats 4000000 in
theorem tX12_ringAt (l : Launch) (M : xMg) (A : Nat → Prop) (n : Nat) (k0 : Nat) (a1 : Int32) (S : xSt) (z : Int32) (h : fX12_ringAt n k0 a1 S = some z) : xMI l yX12_ringAt cX12_ringAt 4 (some .int) 1 tM M A [.ref (M.2.1 k0), .int a1] S z S := by
  refine x_metI (plainFor_of_name (by decide)) tM_ok (Nat.le_of_ble_eq_true rfl) (fun Γ hA hnL hl hr o => ?_)
  subst hA; subst hl
  have o : xOk Γ tM M 1 cX12_ringAt RX12 := o
  unfold fX12_ringAt at h
  obtain ⟨hk0, h⟩ := xck h
  refine x_to (l := [(0, .ref (M.2.1 k0)), (1, .int a1)]) ⟨rfl, rfl, trivial⟩ ?_
  have hn2 : 2 < Γ.2.2.2 := by omega
  have hn3 : 3 < Γ.2.2.2 := by omega
  refine x_aload_n (pc := 0) o dX12_ringAt_0 rfl rfl ?_
  obtain ⟨r1, hr1, h⟩ := xbs h
  refine gX12_252 (pc := 1) o dX12_ringAt_1 hr1 ?_
  refine x_iload_n (pc := 4) o dX12_ringAt_4 rfl rfl ?_
  obtain ⟨v2, hv2, h⟩ := xbs h
  refine x_iaload (pc := 5) o dX12_ringAt_5 hv2 ?_
  refine x_istore_n (pc := 6) o dX12_ringAt_6 rfl hn2 ?_
  refine x_iconst (pc := 7) o dX12_ringAt_7 ic_1 ?_
  refine x_istore_n (pc := 8) o dX12_ringAt_8 rfl hn3 ?_
  obtain ⟨z8, hz8, h⟩ := xbs h
  refine x_to (l := [(0, .ref (M.2.1 k0)), (1, .int a1), (2, .int v2), (3, .int ((1 : Int32)))]) ⟨rfl, rfl, rfl, rfl, trivial⟩ ?_
  refine tX12_ringAt_L9 o hnL n k0 a1 S z8 (fun ez8 he => ?_) (fun r he => ?_) n v2 ((1 : Int32)) hz8
  · subst he; have h := xel_l h
    refine x_iconst (pc := 35) o dX12_ringAt_35 ic_0 ?_
    exact x_ireturn (pc := 36) o hr dX12_ringAt_36 (Option.some.inj h) rfl
  · subst he; have h := xel_r h
    cases Option.some.inj h
    exact hr
def fX12_loan_L32b (n : Nat) (k0 : Nat) (a1 : Int32) (a2 : Int32) (rec : Int32 → Int32 → xSt → Option (Int32 × xSt)) (a3 : Int32) (a4 : Int32) (S : xSt) : Option (Int32 × xSt) :=
  (xgF tM 12 20 k0 S).bind fun r4 =>
  (xgI tM 12 13 k0 S).bind fun v5 =>
  (xal tM r4 v5 S).bind fun v6 =>
  if v6 ≤ a4 then
  (some (a3, S))
else
  ((fX12_isTool k0 a4 S).bind fun v7 =>
  if v7 = 0 then
  ((some (a3 ||| ((0 : Int32)))).bind fun v8 =>
  (some (a4 + (1 : Int32))).bind fun v9 =>
  rec v8 v9 S)
else
  ((some (a3 ||| (((1 : Int32)) <<< (a4 &&& 31)))).bind fun v10 =>
  (some (a4 + (1 : Int32))).bind fun v11 =>
  rec v10 v11 S))
def fX12_loan_L32 (n : Nat) (k0 : Nat) (a1 : Int32) (a2 : Int32) : Nat → Int32 → Int32 → xSt → Option (Int32 × xSt)
  | 0 => fun _ _ _ => none
  | q + 1 => fX12_loan_L32b n k0 a1 a2 (fX12_loan_L32 n k0 a1 a2 q)
set_option maxHeartbeats 4000000 in
theorem tX12_loan_L32b {Γ : xGm} {M : xMg} (o : xOk Γ tM M 3 cX12_loan RX12) (hnL : Γ.2.2.2 = 7) {rec : Int32 → Int32 → xSt → Option (Int32 × xSt)} (n : Nat) (k0 : Nat) (a1 : Int32) (a2 : Int32) (a3 : Int32) (a4 : Int32) (S : xSt) (z : (Int32 × xSt)) (hrec : ∀ (a3 : Int32) (a4 : Int32) (S : xSt), rec a3 a4 S = some z → xAt Γ tM M 32 (xlv [(0, .ref (M.2.1 k0)), (1, .int a1), (2, .int a2), (3, .int a3), (4, .int a4)]) [] S) (K : xAt Γ tM M 72 (xlv [(0, .ref (M.2.1 k0)), (1, .int a1), (2, .int a2), (3, .int z.1)]) [] z.2) (h : fX12_loan_L32b n k0 a1 a2 rec a3 a4 S = some z) : xAt Γ tM M 32 (xlv [(0, .ref (M.2.1 k0)), (1, .int a1), (2, .int a2), (3, .int a3), (4, .int a4)]) [] S := by
  have hn3 : 3 < Γ.2.2.2 := by omega
  have hn4 : 4 < Γ.2.2.2 := by omega
  unfold fX12_loan_L32b at h
  refine x_iload (pc := 32) o dX12_loan_32 rfl ?_
  refine x_aload_n (pc := 34) o dX12_loan_34 rfl rfl ?_
  obtain ⟨r4, hr4, h⟩ := xbs h
  refine gX12_72 (pc := 35) o dX12_loan_35 hr4 ?_
  refine x_aload_n (pc := 38) o dX12_loan_38 rfl rfl ?_
  obtain ⟨v5, hv5, h⟩ := xbs h
  refine gX12_51 (pc := 39) o dX12_loan_39 hv5 ?_
  obtain ⟨v6, hv6, h⟩ := xbs h
  refine x_iaload (pc := 42) o dX12_loan_42 hv6 ?_
  refine x_icmp_ge (pc := 43) (tgt := 72) o dX12_loan_43 (by decide) (fun c13 => ?_) (fun c13 => ?_)
  · have h := xit h c13
    refine x_to (l := [(0, .ref (M.2.1 k0)), (1, .int a1), (2, .int a2), (3, .int a3)]) ⟨rfl, rfl, rfl, rfl, trivial⟩ ?_
    cases Option.some.inj h
    exact K
  · have h := xif h c13
    refine x_iload_n (pc := 46) o dX12_loan_46 rfl rfl ?_
    refine x_aload_n (pc := 47) o dX12_loan_47 rfl rfl ?_
    refine x_iload (pc := 48) o dX12_loan_48 rfl ?_
    obtain ⟨v7, hv7, h⟩ := xbs h
    refine x_callI (pc := 50) (As := [.int a4]) (b := k0) (rest := [.int a3]) o (tX12_isTool _ M _ k0 a4 S v7 hv7) eX12_isTool mX12_583 clX12 (kX12_isTool hv7) (by decide) rfl rfl (Nat.le_of_ble_eq_true rfl) dX12_loan_50 ?_
    refine x_if_eq (pc := 53) (tgt := 63) o dX12_loan_53 (by decide) (fun c12 => ?_) (fun c12 => ?_)
    · have h := xit h c12
      refine x_iconst (pc := 63) o dX12_loan_63 ic_0 ?_
      refine x_ior (pc := 64) o dX12_loan_64 ?_
      obtain ⟨v8, hv8, h⟩ := xbs h
      refine x_istore_nE (pc := 65) o dX12_loan_65 rfl hn3 hv8 ?_
      obtain ⟨v9, hv9, h⟩ := xbs h
      refine x_iincE (pc := 66) o dX12_loan_66 rfl ic_1 hn4 hv9 ?_
      refine x_goto (pc := 69) (tgt := 32) o dX12_loan_69 (by decide) ?_
      refine x_to (l := [(0, .ref (M.2.1 k0)), (1, .int a1), (2, .int a2), (3, .int v8), (4, .int v9)]) ⟨rfl, rfl, rfl, rfl, rfl, trivial⟩ ?_
      exact hrec v8 v9 S h
    · have h := xif h c12
      refine x_iconst (pc := 56) o dX12_loan_56 ic_1 ?_
      refine x_iload (pc := 57) o dX12_loan_57 rfl ?_
      refine x_ishl (pc := 59) o dX12_loan_59 ?_
      refine x_goto (pc := 60) (tgt := 64) o dX12_loan_60 (by decide) ?_
      refine x_ior (pc := 64) o dX12_loan_64 ?_
      obtain ⟨v10, hv10, h⟩ := xbs h
      refine x_istore_nE (pc := 65) o dX12_loan_65 rfl hn3 hv10 ?_
      obtain ⟨v11, hv11, h⟩ := xbs h
      refine x_iincE (pc := 66) o dX12_loan_66 rfl ic_1 hn4 hv11 ?_
      refine x_goto (pc := 69) (tgt := 32) o dX12_loan_69 (by decide) ?_
      refine x_to (l := [(0, .ref (M.2.1 k0)), (1, .int a1), (2, .int a2), (3, .int v10), (4, .int v11)]) ⟨rfl, rfl, rfl, rfl, rfl, trivial⟩ ?_
      exact hrec v10 v11 S h
theorem tX12_loan_L32 {Γ : xGm} {M : xMg} (o : xOk Γ tM M 3 cX12_loan RX12) (hnL : Γ.2.2.2 = 7) (n : Nat) (k0 : Nat) (a1 : Int32) (a2 : Int32) (z : (Int32 × xSt)) (K : xAt Γ tM M 72 (xlv [(0, .ref (M.2.1 k0)), (1, .int a1), (2, .int a2), (3, .int z.1)]) [] z.2) : ∀ (q : Nat) (a3 : Int32) (a4 : Int32) (S : xSt), fX12_loan_L32 n k0 a1 a2 q a3 a4 S = some z → xAt Γ tM M 32 (xlv [(0, .ref (M.2.1 k0)), (1, .int a1), (2, .int a2), (3, .int a3), (4, .int a4)]) [] S := by
  intro q
  induction q with
  | zero => intro a3 a4 S h; cases h
  | succ q ih => intro a3 a4 S h; exact tX12_loan_L32b o hnL n k0 a1 a2 a3 a4 S z ih K h
def fX12_loan_L82b (n : Nat) (k0 : Nat) (a1 : Int32) (a2 : Int32) (a3 : Int32) (a4 : Int32) (rec : Int32 → xSt → Option (xSt)) (a5 : Int32) (S : xSt) : Option (xSt) :=
  (xgF tM 12 20 k0 S).bind fun r15 =>
  (xgI tM 12 13 k0 S).bind fun v16 =>
  (xal tM r15 v16 S).bind fun v17 =>
  if v17 ≤ a5 then
  (some S)
else
  ((xgF tM 12 79 k0 S).bind fun r18 =>
  (fX12_has2 a3 a5 S).bind fun v19 =>
  if v19 = 0 then
  ((xas tM r18 a5 a5 S).bind fun S20 =>
  (some (a5 + (1 : Int32))).bind fun v21 =>
  rec v21 S20)
else
  ((fX12_pointed n k0 a5 a3 S).bind fun v22 =>
  (xas tM r18 a5 v22 S).bind fun S23 =>
  (some (a5 + (1 : Int32))).bind fun v24 =>
  rec v24 S23))
def fX12_loan_L82 (n : Nat) (k0 : Nat) (a1 : Int32) (a2 : Int32) (a3 : Int32) (a4 : Int32) : Nat → Int32 → xSt → Option (xSt)
  | 0 => fun _ _ => none
  | q + 1 => fX12_loan_L82b n k0 a1 a2 a3 a4 (fX12_loan_L82 n k0 a1 a2 a3 a4 q)
set_option maxHeartbeats 4000000 in
theorem tX12_loan_L82b {Γ : xGm} {M : xMg} (o : xOk Γ tM M 3 cX12_loan RX12) (hnL : Γ.2.2.2 = 7) {rec : Int32 → xSt → Option (xSt)} (n : Nat) (k0 : Nat) (a1 : Int32) (a2 : Int32) (a3 : Int32) (a4 : Int32) (a5 : Int32) (S : xSt) (z : (xSt)) (hrec : ∀ (a5 : Int32) (S : xSt), rec a5 S = some z → xAt Γ tM M 82 (xlv [(0, .ref (M.2.1 k0)), (1, .int a1), (2, .int a2), (3, .int a3), (4, .int a4), (5, .int a5)]) [] S) (K : xAt Γ tM M 130 (xlv [(0, .ref (M.2.1 k0)), (1, .int a1), (2, .int a2), (3, .int a3), (4, .int a4)]) [] z) (h : fX12_loan_L82b n k0 a1 a2 a3 a4 rec a5 S = some z) : xAt Γ tM M 82 (xlv [(0, .ref (M.2.1 k0)), (1, .int a1), (2, .int a2), (3, .int a3), (4, .int a4), (5, .int a5)]) [] S := by
  have hn5 : 5 < Γ.2.2.2 := by omega
  unfold fX12_loan_L82b at h
  refine x_iload (pc := 82) o dX12_loan_82 rfl ?_
  refine x_aload_n (pc := 84) o dX12_loan_84 rfl rfl ?_
  obtain ⟨r15, hr15, h⟩ := xbs h
  refine gX12_72 (pc := 85) o dX12_loan_85 hr15 ?_
  refine x_aload_n (pc := 88) o dX12_loan_88 rfl rfl ?_
  obtain ⟨v16, hv16, h⟩ := xbs h
  refine gX12_51 (pc := 89) o dX12_loan_89 hv16 ?_
  obtain ⟨v17, hv17, h⟩ := xbs h
  refine x_iaload (pc := 92) o dX12_loan_92 hv17 ?_
  refine x_icmp_ge (pc := 93) (tgt := 130) o dX12_loan_93 (by decide) (fun c26 => ?_) (fun c26 => ?_)
  · have h := xit h c26
    refine x_to (l := [(0, .ref (M.2.1 k0)), (1, .int a1), (2, .int a2), (3, .int a3), (4, .int a4)]) ⟨rfl, rfl, rfl, rfl, rfl, trivial⟩ ?_
    cases Option.some.inj h
    exact K
  · have h := xif h c26
    refine x_aload_n (pc := 96) o dX12_loan_96 rfl rfl ?_
    obtain ⟨r18, hr18, h⟩ := xbs h
    refine gX12_252 (pc := 97) o dX12_loan_97 hr18 ?_
    refine x_iload (pc := 100) o dX12_loan_100 rfl ?_
    refine x_iload_n (pc := 102) o dX12_loan_102 rfl rfl ?_
    refine x_iload (pc := 103) o dX12_loan_103 rfl ?_
    obtain ⟨v19, hv19, h⟩ := xbs h
    refine x_statI (pc := 105) (As := [.int a3, .int a5]) (rest := [.int a5, .ref (M.2.1 r18)]) o (tX12_has2 _ M _ a3 a5 S v19 hv19) eX12_has2 mX12_421 (by decide) rfl rfl (Nat.le_of_ble_eq_true rfl) dX12_loan_105 ?_
    refine x_if_eq (pc := 108) (tgt := 121) o dX12_loan_108 (by decide) (fun c25 => ?_) (fun c25 => ?_)
    · have h := xit h c25
      refine x_iload (pc := 121) o dX12_loan_121 rfl ?_
      obtain ⟨S20, hS20, h⟩ := xbs h
      refine x_iastore (pc := 123) o dX12_loan_123 hS20 ?_
      obtain ⟨v21, hv21, h⟩ := xbs h
      refine x_iincE (pc := 124) o dX12_loan_124 rfl ic_1 hn5 hv21 ?_
      refine x_goto (pc := 127) (tgt := 82) o dX12_loan_127 (by decide) ?_
      refine x_to (l := [(0, .ref (M.2.1 k0)), (1, .int a1), (2, .int a2), (3, .int a3), (4, .int a4), (5, .int v21)]) ⟨rfl, rfl, rfl, rfl, rfl, rfl, trivial⟩ ?_
      exact hrec v21 S20 h
    · have h := xif h c25
      refine x_aload_n (pc := 111) o dX12_loan_111 rfl rfl ?_
      refine x_iload (pc := 112) o dX12_loan_112 rfl ?_
      refine x_iload_n (pc := 114) o dX12_loan_114 rfl rfl ?_
      obtain ⟨v22, hv22, h⟩ := xbs h
      refine x_callI (pc := 115) (As := [.int a5, .int a3]) (b := k0) (rest := [.int a5, .ref (M.2.1 r18)]) o (tX12_pointed _ M _ n k0 a5 a3 S v22 hv22) eX12_pointed mX12_618 clX12 (kX12_pointed hv22) (by decide) rfl rfl (Nat.le_of_ble_eq_true rfl) dX12_loan_115 ?_
      refine x_goto (pc := 118) (tgt := 123) o dX12_loan_118 (by decide) ?_
      obtain ⟨S23, hS23, h⟩ := xbs h
      refine x_iastore (pc := 123) o dX12_loan_123 hS23 ?_
      obtain ⟨v24, hv24, h⟩ := xbs h
      refine x_iincE (pc := 124) o dX12_loan_124 rfl ic_1 hn5 hv24 ?_
      refine x_goto (pc := 127) (tgt := 82) o dX12_loan_127 (by decide) ?_
      refine x_to (l := [(0, .ref (M.2.1 k0)), (1, .int a1), (2, .int a2), (3, .int a3), (4, .int a4), (5, .int v24)]) ⟨rfl, rfl, rfl, rfl, rfl, rfl, trivial⟩ ?_
      exact hrec v24 S23 h
theorem tX12_loan_L82 {Γ : xGm} {M : xMg} (o : xOk Γ tM M 3 cX12_loan RX12) (hnL : Γ.2.2.2 = 7) (n : Nat) (k0 : Nat) (a1 : Int32) (a2 : Int32) (a3 : Int32) (a4 : Int32) (z : (xSt)) (K : xAt Γ tM M 130 (xlv [(0, .ref (M.2.1 k0)), (1, .int a1), (2, .int a2), (3, .int a3), (4, .int a4)]) [] z) : ∀ (q : Nat) (a5 : Int32) (S : xSt), fX12_loan_L82 n k0 a1 a2 a3 a4 q a5 S = some z → xAt Γ tM M 82 (xlv [(0, .ref (M.2.1 k0)), (1, .int a1), (2, .int a2), (3, .int a3), (4, .int a4), (5, .int a5)]) [] S := by
  intro q
  induction q with
  | zero => intro a5 S h; cases h
  | succ q ih => intro a5 S h; exact tX12_loan_L82b o hnL n k0 a1 a2 a3 a4 a5 S z ih K h
def fX12_loan_L136b (n : Nat) (k0 : Nat) (a1 : Int32) (a2 : Int32) (a3 : Int32) (a4 : Int32) (rec : Int32 → Int32 → xSt → Option (Int32 × xSt)) (a5 : Int32) (a6 : Int32) (S : xSt) : Option (Int32 × xSt) :=
  (xgF tM 12 20 k0 S).bind fun r28 =>
  (xgI tM 12 13 k0 S).bind fun v29 =>
  (xal tM r28 v29 S).bind fun v30 =>
  if v30 ≤ a6 then
  (some (a5, S))
else
  ((fX12_has2 a3 a6 S).bind fun v31 =>
  if v31 = 0 then
  ((some (a6 + (1 : Int32))).bind fun v32 =>
  rec a5 v32 S)
else
  ((fX12_ringAt n k0 a6 S).bind fun v33 =>
  if v33 = 0 then
  ((some (a6 + (1 : Int32))).bind fun v45 =>
  rec a5 v45 S)
else
  ((some (a5 ||| (((1 : Int32)) <<< (a6 &&& 31)))).bind fun v34 =>
  (xgF tM 12 80 k0 S).bind fun r35 =>
  (xgF tM 12 79 k0 S).bind fun r36 =>
  (xal tM r36 a6 S).bind fun v37 =>
  (xas tM r35 a6 v37 S).bind fun S38 =>
  (xgF tM 12 81 k0 S38).bind fun r39 =>
  (xas tM r39 a6 a4 S38).bind fun S40 =>
  (xgF tM 12 82 k0 S40).bind fun r41 =>
  (fX12_ringAt n k0 a6 S40).bind fun v42 =>
  (xas tM r41 a6 v42 S40).bind fun S43 =>
  (some (a6 + (1 : Int32))).bind fun v44 =>
  rec v34 v44 S43)))
def fX12_loan_L136 (n : Nat) (k0 : Nat) (a1 : Int32) (a2 : Int32) (a3 : Int32) (a4 : Int32) : Nat → Int32 → Int32 → xSt → Option (Int32 × xSt)
  | 0 => fun _ _ _ => none
  | q + 1 => fX12_loan_L136b n k0 a1 a2 a3 a4 (fX12_loan_L136 n k0 a1 a2 a3 a4 q)
set_option maxHeartbeats 4000000 in
theorem tX12_loan_L136b {Γ : xGm} {M : xMg} (o : xOk Γ tM M 3 cX12_loan RX12) (hnL : Γ.2.2.2 = 7) {rec : Int32 → Int32 → xSt → Option (Int32 × xSt)} (n : Nat) (k0 : Nat) (a1 : Int32) (a2 : Int32) (a3 : Int32) (a4 : Int32) (a5 : Int32) (a6 : Int32) (S : xSt) (z : (Int32 × xSt)) (hrec : ∀ (a5 : Int32) (a6 : Int32) (S : xSt), rec a5 a6 S = some z → xAt Γ tM M 136 (xlv [(0, .ref (M.2.1 k0)), (1, .int a1), (2, .int a2), (3, .int a3), (4, .int a4), (5, .int a5), (6, .int a6)]) [] S) (K : xAt Γ tM M 222 (xlv [(0, .ref (M.2.1 k0)), (1, .int a1), (2, .int a2), (3, .int a3), (4, .int a4), (5, .int z.1)]) [] z.2) (h : fX12_loan_L136b n k0 a1 a2 a3 a4 rec a5 a6 S = some z) : xAt Γ tM M 136 (xlv [(0, .ref (M.2.1 k0)), (1, .int a1), (2, .int a2), (3, .int a3), (4, .int a4), (5, .int a5), (6, .int a6)]) [] S := by
  have hn5 : 5 < Γ.2.2.2 := by omega
  have hn6 : 6 < Γ.2.2.2 := by omega
  unfold fX12_loan_L136b at h
  refine x_iload (pc := 136) o dX12_loan_136 rfl ?_
  refine x_aload_n (pc := 138) o dX12_loan_138 rfl rfl ?_
  obtain ⟨r28, hr28, h⟩ := xbs h
  refine gX12_72 (pc := 139) o dX12_loan_139 hr28 ?_
  refine x_aload_n (pc := 142) o dX12_loan_142 rfl rfl ?_
  obtain ⟨v29, hv29, h⟩ := xbs h
  refine gX12_51 (pc := 143) o dX12_loan_143 hv29 ?_
  obtain ⟨v30, hv30, h⟩ := xbs h
  refine x_iaload (pc := 146) o dX12_loan_146 hv30 ?_
  refine x_icmp_ge (pc := 147) (tgt := 222) o dX12_loan_147 (by decide) (fun c48 => ?_) (fun c48 => ?_)
  · have h := xit h c48
    refine x_to (l := [(0, .ref (M.2.1 k0)), (1, .int a1), (2, .int a2), (3, .int a3), (4, .int a4), (5, .int a5)]) ⟨rfl, rfl, rfl, rfl, rfl, rfl, trivial⟩ ?_
    cases Option.some.inj h
    exact K
  · have h := xif h c48
    refine x_iload_n (pc := 150) o dX12_loan_150 rfl rfl ?_
    refine x_iload (pc := 151) o dX12_loan_151 rfl ?_
    obtain ⟨v31, hv31, h⟩ := xbs h
    refine x_statI (pc := 153) (As := [.int a3, .int a6]) (rest := []) o (tX12_has2 _ M _ a3 a6 S v31 hv31) eX12_has2 mX12_421 (by decide) rfl rfl (Nat.le_of_ble_eq_true rfl) dX12_loan_153 ?_
    refine x_if_eq (pc := 156) (tgt := 216) o dX12_loan_156 (by decide) (fun c47 => ?_) (fun c47 => ?_)
    · have h := xit h c47
      obtain ⟨v32, hv32, h⟩ := xbs h
      refine x_iincE (pc := 216) o dX12_loan_216 rfl ic_1 hn6 hv32 ?_
      refine x_goto (pc := 219) (tgt := 136) o dX12_loan_219 (by decide) ?_
      refine x_to (l := [(0, .ref (M.2.1 k0)), (1, .int a1), (2, .int a2), (3, .int a3), (4, .int a4), (5, .int a5), (6, .int v32)]) ⟨rfl, rfl, rfl, rfl, rfl, rfl, rfl, trivial⟩ ?_
      exact hrec a5 v32 S h
    · have h := xif h c47
      refine x_aload_n (pc := 159) o dX12_loan_159 rfl rfl ?_
      refine x_iload (pc := 160) o dX12_loan_160 rfl ?_
      obtain ⟨v33, hv33, h⟩ := xbs h
      refine x_callI (pc := 162) (As := [.int a6]) (b := k0) (rest := []) o (tX12_ringAt _ M _ n k0 a6 S v33 hv33) eX12_ringAt mX12_621 clX12 (kX12_ringAt hv33) (by decide) rfl rfl (Nat.le_of_ble_eq_true rfl) dX12_loan_162 ?_
      refine x_if_ne (pc := 165) (tgt := 171) o dX12_loan_165 (by decide) (fun c46 => ?_) (fun c46 => ?_)
      · have h := xif h c46
        refine x_iload (pc := 171) o dX12_loan_171 rfl ?_
        refine x_iconst (pc := 173) o dX12_loan_173 ic_1 ?_
        refine x_iload (pc := 174) o dX12_loan_174 rfl ?_
        refine x_ishl (pc := 176) o dX12_loan_176 ?_
        refine x_ior (pc := 177) o dX12_loan_177 ?_
        obtain ⟨v34, hv34, h⟩ := xbs h
        refine x_istoreE (pc := 178) o dX12_loan_178 hn5 hv34 ?_
        refine x_aload_n (pc := 180) o dX12_loan_180 rfl rfl ?_
        obtain ⟨r35, hr35, h⟩ := xbs h
        refine gX12_255 (pc := 181) o dX12_loan_181 hr35 ?_
        refine x_iload (pc := 184) o dX12_loan_184 rfl ?_
        refine x_aload_n (pc := 186) o dX12_loan_186 rfl rfl ?_
        obtain ⟨r36, hr36, h⟩ := xbs h
        refine gX12_252 (pc := 187) o dX12_loan_187 hr36 ?_
        refine x_iload (pc := 190) o dX12_loan_190 rfl ?_
        obtain ⟨v37, hv37, h⟩ := xbs h
        refine x_iaload (pc := 192) o dX12_loan_192 hv37 ?_
        obtain ⟨S38, hS38, h⟩ := xbs h
        refine x_iastore (pc := 193) o dX12_loan_193 hS38 ?_
        refine x_aload_n (pc := 194) o dX12_loan_194 rfl rfl ?_
        obtain ⟨r39, hr39, h⟩ := xbs h
        refine gX12_258 (pc := 195) o dX12_loan_195 hr39 ?_
        refine x_iload (pc := 198) o dX12_loan_198 rfl ?_
        refine x_iload (pc := 200) o dX12_loan_200 rfl ?_
        obtain ⟨S40, hS40, h⟩ := xbs h
        refine x_iastore (pc := 202) o dX12_loan_202 hS40 ?_
        refine x_aload_n (pc := 203) o dX12_loan_203 rfl rfl ?_
        obtain ⟨r41, hr41, h⟩ := xbs h
        refine gX12_261 (pc := 204) o dX12_loan_204 hr41 ?_
        refine x_iload (pc := 207) o dX12_loan_207 rfl ?_
        refine x_aload_n (pc := 209) o dX12_loan_209 rfl rfl ?_
        refine x_iload (pc := 210) o dX12_loan_210 rfl ?_
        obtain ⟨v42, hv42, h⟩ := xbs h
        refine x_callI (pc := 212) (As := [.int a6]) (b := k0) (rest := [.int a6, .ref (M.2.1 r41)]) o (tX12_ringAt _ M _ n k0 a6 S40 v42 hv42) eX12_ringAt mX12_621 clX12 (kX12_ringAt hv42) (by decide) rfl rfl (Nat.le_of_ble_eq_true rfl) dX12_loan_212 ?_
        obtain ⟨S43, hS43, h⟩ := xbs h
        refine x_iastore (pc := 215) o dX12_loan_215 hS43 ?_
        obtain ⟨v44, hv44, h⟩ := xbs h
        refine x_iincE (pc := 216) o dX12_loan_216 rfl ic_1 hn6 hv44 ?_
        refine x_goto (pc := 219) (tgt := 136) o dX12_loan_219 (by decide) ?_
        refine x_to (l := [(0, .ref (M.2.1 k0)), (1, .int a1), (2, .int a2), (3, .int a3), (4, .int a4), (5, .int v34), (6, .int v44)]) ⟨rfl, rfl, rfl, rfl, rfl, rfl, rfl, trivial⟩ ?_
        exact hrec v34 v44 S43 h
      · have h := xit h c46
        refine x_goto (pc := 168) (tgt := 216) o dX12_loan_168 (by decide) ?_
        obtain ⟨v45, hv45, h⟩ := xbs h
        refine x_iincE (pc := 216) o dX12_loan_216 rfl ic_1 hn6 hv45 ?_
        refine x_goto (pc := 219) (tgt := 136) o dX12_loan_219 (by decide) ?_
        refine x_to (l := [(0, .ref (M.2.1 k0)), (1, .int a1), (2, .int a2), (3, .int a3), (4, .int a4), (5, .int a5), (6, .int v45)]) ⟨rfl, rfl, rfl, rfl, rfl, rfl, rfl, trivial⟩ ?_
        exact hrec a5 v45 S h
theorem tX12_loan_L136 {Γ : xGm} {M : xMg} (o : xOk Γ tM M 3 cX12_loan RX12) (hnL : Γ.2.2.2 = 7) (n : Nat) (k0 : Nat) (a1 : Int32) (a2 : Int32) (a3 : Int32) (a4 : Int32) (z : (Int32 × xSt)) (K : xAt Γ tM M 222 (xlv [(0, .ref (M.2.1 k0)), (1, .int a1), (2, .int a2), (3, .int a3), (4, .int a4), (5, .int z.1)]) [] z.2) : ∀ (q : Nat) (a5 : Int32) (a6 : Int32) (S : xSt), fX12_loan_L136 n k0 a1 a2 a3 a4 q a5 a6 S = some z → xAt Γ tM M 136 (xlv [(0, .ref (M.2.1 k0)), (1, .int a1), (2, .int a2), (3, .int a3), (4, .int a4), (5, .int a5), (6, .int a6)]) [] S := by
  intro q
  induction q with
  | zero => intro a5 a6 S h; cases h
  | succ q ih => intro a5 a6 S h; exact tX12_loan_L136b o hnL n k0 a1 a2 a3 a4 a5 a6 S z ih K h
def fX12_loan_L75b (n : Nat) (k0 : Nat) (a1 : Int32) (a2 : Int32) (rec : Int32 → Int32 → xSt → Option (xSt)) (a3 : Int32) (a4 : Int32) (S : xSt) : Option (xSt) :=
  if a3 = 0 then
  (some S)
else
  ((fX12_loan_L82 n k0 a1 a2 a3 a4 n ((0 : Int32)) S).bind fun z27 => (fX12_loan_L136 n k0 a1 a2 a3 a4 n ((0 : Int32)) ((0 : Int32)) z27).bind fun z49 => (some (a3 &&& (z49.1 ^^^ ((-1 : Int32))))).bind fun v50 =>
  (some (a4 + (1 : Int32))).bind fun v51 =>
  rec v50 v51 z49.2)
def fX12_loan_L75 (n : Nat) (k0 : Nat) (a1 : Int32) (a2 : Int32) : Nat → Int32 → Int32 → xSt → Option (xSt)
  | 0 => fun _ _ _ => none
  | q + 1 => fX12_loan_L75b n k0 a1 a2 (fX12_loan_L75 n k0 a1 a2 q)
set_option maxHeartbeats 4000000 in
theorem tX12_loan_L75b {Γ : xGm} {M : xMg} (o : xOk Γ tM M 3 cX12_loan RX12) (hnL : Γ.2.2.2 = 7) {rec : Int32 → Int32 → xSt → Option (xSt)} (n : Nat) (k0 : Nat) (a1 : Int32) (a2 : Int32) (a3 : Int32) (a4 : Int32) (S : xSt) (z : (xSt)) (hrec : ∀ (a3 : Int32) (a4 : Int32) (S : xSt), rec a3 a4 S = some z → xAt Γ tM M 75 (xlv [(0, .ref (M.2.1 k0)), (1, .int a1), (2, .int a2), (3, .int a3), (4, .int a4)]) [] S) (K : xAt Γ tM M 235 (xlv [(0, .ref (M.2.1 k0)), (1, .int a1), (2, .int a2)]) [] z) (h : fX12_loan_L75b n k0 a1 a2 rec a3 a4 S = some z) : xAt Γ tM M 75 (xlv [(0, .ref (M.2.1 k0)), (1, .int a1), (2, .int a2), (3, .int a3), (4, .int a4)]) [] S := by
  have hn3 : 3 < Γ.2.2.2 := by omega
  have hn4 : 4 < Γ.2.2.2 := by omega
  have hn5 : 5 < Γ.2.2.2 := by omega
  have hn6 : 6 < Γ.2.2.2 := by omega
  unfold fX12_loan_L75b at h
  refine x_iload_n (pc := 75) o dX12_loan_75 rfl rfl ?_
  refine x_if_eq (pc := 76) (tgt := 235) o dX12_loan_76 (by decide) (fun c52 => ?_) (fun c52 => ?_)
  · have h := xit h c52
    refine x_to (l := [(0, .ref (M.2.1 k0)), (1, .int a1), (2, .int a2)]) ⟨rfl, rfl, rfl, trivial⟩ ?_
    cases Option.some.inj h
    exact K
  · have h := xif h c52
    refine x_iconst (pc := 79) o dX12_loan_79 ic_0 ?_
    refine x_istore (pc := 80) o dX12_loan_80 hn5 ?_
    obtain ⟨z27, hz27, h⟩ := xbs h
    refine x_to (l := [(0, .ref (M.2.1 k0)), (1, .int a1), (2, .int a2), (3, .int a3), (4, .int a4), (5, .int ((0 : Int32)))]) ⟨rfl, rfl, rfl, rfl, rfl, rfl, trivial⟩ ?_
    refine tX12_loan_L82 o hnL n k0 a1 a2 a3 a4 z27 ?_ n ((0 : Int32)) S hz27
    refine x_iconst (pc := 130) o dX12_loan_130 ic_0 ?_
    refine x_istore (pc := 131) o dX12_loan_131 hn5 ?_
    refine x_iconst (pc := 133) o dX12_loan_133 ic_0 ?_
    refine x_istore (pc := 134) o dX12_loan_134 hn6 ?_
    obtain ⟨z49, hz49, h⟩ := xbs h
    refine x_to (l := [(0, .ref (M.2.1 k0)), (1, .int a1), (2, .int a2), (3, .int a3), (4, .int a4), (5, .int ((0 : Int32))), (6, .int ((0 : Int32)))]) ⟨rfl, rfl, rfl, rfl, rfl, rfl, rfl, trivial⟩ ?_
    refine tX12_loan_L136 o hnL n k0 a1 a2 a3 a4 z49 ?_ n ((0 : Int32)) ((0 : Int32)) z27 hz49
    refine x_iload_n (pc := 222) o dX12_loan_222 rfl rfl ?_
    refine x_iload (pc := 223) o dX12_loan_223 rfl ?_
    refine x_iconst (pc := 225) o dX12_loan_225 ic_m1 ?_
    refine x_ixor (pc := 226) o dX12_loan_226 ?_
    refine x_iand (pc := 227) o dX12_loan_227 ?_
    obtain ⟨v50, hv50, h⟩ := xbs h
    refine x_istore_nE (pc := 228) o dX12_loan_228 rfl hn3 hv50 ?_
    obtain ⟨v51, hv51, h⟩ := xbs h
    refine x_iincE (pc := 229) o dX12_loan_229 rfl ic_1 hn4 hv51 ?_
    refine x_goto (pc := 232) (tgt := 75) o dX12_loan_232 (by decide) ?_
    refine x_to (l := [(0, .ref (M.2.1 k0)), (1, .int a1), (2, .int a2), (3, .int v50), (4, .int v51)]) ⟨rfl, rfl, rfl, rfl, rfl, trivial⟩ ?_
    exact hrec v50 v51 z49.2 h
theorem tX12_loan_L75 {Γ : xGm} {M : xMg} (o : xOk Γ tM M 3 cX12_loan RX12) (hnL : Γ.2.2.2 = 7) (n : Nat) (k0 : Nat) (a1 : Int32) (a2 : Int32) (z : (xSt)) (K : xAt Γ tM M 235 (xlv [(0, .ref (M.2.1 k0)), (1, .int a1), (2, .int a2)]) [] z) : ∀ (q : Nat) (a3 : Int32) (a4 : Int32) (S : xSt), fX12_loan_L75 n k0 a1 a2 q a3 a4 S = some z → xAt Γ tM M 75 (xlv [(0, .ref (M.2.1 k0)), (1, .int a1), (2, .int a2), (3, .int a3), (4, .int a4)]) [] S := by
  intro q
  induction q with
  | zero => intro a3 a4 S h; cases h
  | succ q ih => intro a3 a4 S h; exact tX12_loan_L75b o hnL n k0 a1 a2 a3 a4 S z ih K h
def fX12_loan (n : Nat) (k0 : Nat) (a1 : Int32) (a2 : Int32) (S : xSt) : Option (Int32 × xSt) :=
  if tM.1 k0 = 12 then
  ((fX12_isHand k0 a1 S).bind fun v1 =>
  if v1 = 0 then
  (some ((-1 : Int32), S))
else
  ((fX12_isTool k0 a1 S).bind fun v2 =>
  if v2 = 0 then
  (some ((-1 : Int32), S))
else
  ((fX12_is a2 ((0 : Int32)) ((2 : Int32)) S).bind fun v3 =>
  if v3 = 0 then
  (some ((-1 : Int32), S))
else
  ((fX12_loan_L32 n k0 a1 a2 n ((0 : Int32)) ((0 : Int32)) S).bind fun z14 => (fX12_loan_L75 n k0 a1 a2 n z14.1 ((1 : Int32)) z14.2).bind fun z53 => if a2 = 0 then
  ((xgF tM 12 80 k0 z53).bind fun r59 =>
  (xal tM r59 a1 z53).bind fun v60 =>
  some (v60, z53))
else
  (if a2 = ((1 : Int32)) then
  ((xgF tM 12 81 k0 z53).bind fun r56 =>
  (xal tM r56 a1 z53).bind fun v57 =>
  some (v57, z53))
else
  ((xgF tM 12 82 k0 z53).bind fun r54 =>
  (xal tM r54 a1 z53).bind fun v55 =>
  some (v55, z53)))))))
  else none
theorem kX12_loan {z : Int32 × xSt} {n : Nat} {k0 : Nat} {a1 : Int32} {a2 : Int32} {S : xSt} (h : fX12_loan n k0 a1 a2 S = some z) : tM.1 k0 = 12 := by
  unfold fX12_loan at h
  exact (xck h).1
set_option maxHeartbeats 4000000 in
theorem tX12_loan (l : Launch) (M : xMg) (A : Nat → Prop) (n : Nat) (k0 : Nat) (a1 : Int32) (a2 : Int32) (S : xSt) (z : Int32 × xSt) (h : fX12_loan n k0 a1 a2 S = some z) : xMI l yX12_loan cX12_loan 7 (some .int) 3 tM M A [.ref (M.2.1 k0), .int a1, .int a2] S z.1 z.2 := by
  refine x_metI (plainFor_of_name (by decide)) tM_ok (Nat.le_of_ble_eq_true rfl) (fun Γ hA hnL hl hr o => ?_)
  subst hA; subst hl
  have o : xOk Γ tM M 3 cX12_loan RX12 := o
  unfold fX12_loan at h
  obtain ⟨hk0, h⟩ := xck h
  refine x_to (l := [(0, .ref (M.2.1 k0)), (1, .int a1), (2, .int a2)]) ⟨rfl, rfl, rfl, trivial⟩ ?_
  have hn3 : 3 < Γ.2.2.2 := by omega
  have hn4 : 4 < Γ.2.2.2 := by omega
  refine x_aload_n (pc := 0) o dX12_loan_0 rfl rfl ?_
  refine x_iload_n (pc := 1) o dX12_loan_1 rfl rfl ?_
  obtain ⟨v1, hv1, h⟩ := xbs h
  refine x_callI (pc := 2) (As := [.int a1]) (b := k0) (rest := []) o (tX12_isHand _ M _ k0 a1 S v1 hv1) eX12_isHand mX12_586 clX12 (kX12_isHand hv1) (by decide) rfl rfl (Nat.le_of_ble_eq_true rfl) dX12_loan_2 ?_
  refine x_if_eq (pc := 5) (tgt := 25) o dX12_loan_5 (by decide) (fun c64 => ?_) (fun c64 => ?_)
  · have h := xit h c64
    refine x_iconst (pc := 25) o dX12_loan_25 ic_m1 ?_
    exact x_ireturn (pc := 26) o hr dX12_loan_26 (xr1 h) (xr2 h)
  · have h := xif h c64
    refine x_aload_n (pc := 8) o dX12_loan_8 rfl rfl ?_
    refine x_iload_n (pc := 9) o dX12_loan_9 rfl rfl ?_
    obtain ⟨v2, hv2, h⟩ := xbs h
    refine x_callI (pc := 10) (As := [.int a1]) (b := k0) (rest := []) o (tX12_isTool _ M _ k0 a1 S v2 hv2) eX12_isTool mX12_583 clX12 (kX12_isTool hv2) (by decide) rfl rfl (Nat.le_of_ble_eq_true rfl) dX12_loan_10 ?_
    refine x_if_eq (pc := 13) (tgt := 25) o dX12_loan_13 (by decide) (fun c63 => ?_) (fun c63 => ?_)
    · have h := xit h c63
      refine x_iconst (pc := 25) o dX12_loan_25 ic_m1 ?_
      exact x_ireturn (pc := 26) o hr dX12_loan_26 (xr1 h) (xr2 h)
    · have h := xif h c63
      refine x_iload_n (pc := 16) o dX12_loan_16 rfl rfl ?_
      refine x_iconst (pc := 17) o dX12_loan_17 ic_0 ?_
      refine x_iconst (pc := 18) o dX12_loan_18 ic_2 ?_
      obtain ⟨v3, hv3, h⟩ := xbs h
      refine x_statI (pc := 19) (As := [.int a2, .int ((0 : Int32)), .int ((2 : Int32))]) (rest := []) o (tX12_is _ M _ a2 ((0 : Int32)) ((2 : Int32)) S v3 hv3) eX12_is mX12_379 (by decide) rfl rfl (Nat.le_of_ble_eq_true rfl) dX12_loan_19 ?_
      refine x_if_ne (pc := 22) (tgt := 27) o dX12_loan_22 (by decide) (fun c62 => ?_) (fun c62 => ?_)
      · have h := xif h c62
        refine x_iconst (pc := 27) o dX12_loan_27 ic_0 ?_
        refine x_istore_n (pc := 28) o dX12_loan_28 rfl hn3 ?_
        refine x_iconst (pc := 29) o dX12_loan_29 ic_0 ?_
        refine x_istore (pc := 30) o dX12_loan_30 hn4 ?_
        obtain ⟨z14, hz14, h⟩ := xbs h
        refine x_to (l := [(0, .ref (M.2.1 k0)), (1, .int a1), (2, .int a2), (3, .int ((0 : Int32))), (4, .int ((0 : Int32)))]) ⟨rfl, rfl, rfl, rfl, rfl, trivial⟩ ?_
        refine tX12_loan_L32 o hnL n k0 a1 a2 z14 ?_ n ((0 : Int32)) ((0 : Int32)) S hz14
        refine x_iconst (pc := 72) o dX12_loan_72 ic_1 ?_
        refine x_istore (pc := 73) o dX12_loan_73 hn4 ?_
        obtain ⟨z53, hz53, h⟩ := xbs h
        refine x_to (l := [(0, .ref (M.2.1 k0)), (1, .int a1), (2, .int a2), (3, .int z14.1), (4, .int ((1 : Int32)))]) ⟨rfl, rfl, rfl, rfl, rfl, trivial⟩ ?_
        refine tX12_loan_L75 o hnL n k0 a1 a2 z53 ?_ n z14.1 ((1 : Int32)) z14.2 hz53
        refine x_iload_n (pc := 235) o dX12_loan_235 rfl rfl ?_
        refine x_if_ne (pc := 236) (tgt := 248) o dX12_loan_236 (by decide) (fun c61 => ?_) (fun c61 => ?_)
        · have h := xif h c61
          refine x_iload_n (pc := 248) o dX12_loan_248 rfl rfl ?_
          refine x_iconst (pc := 249) o dX12_loan_249 ic_1 ?_
          refine x_icmp_ne (pc := 250) (tgt := 262) o dX12_loan_250 (by decide) (fun c58 => ?_) (fun c58 => ?_)
          · have h := xif h c58
            refine x_aload_n (pc := 262) o dX12_loan_262 rfl rfl ?_
            obtain ⟨r54, hr54, h⟩ := xbs h
            refine gX12_261 (pc := 263) o dX12_loan_263 hr54 ?_
            refine x_iload_n (pc := 266) o dX12_loan_266 rfl rfl ?_
            obtain ⟨v55, hv55, h⟩ := xbs h
            refine x_iaload (pc := 267) o dX12_loan_267 hv55 ?_
            exact x_ireturn (pc := 268) o hr dX12_loan_268 (xr1 h) (xr2 h)
          · have h := xit h c58
            refine x_aload_n (pc := 253) o dX12_loan_253 rfl rfl ?_
            obtain ⟨r56, hr56, h⟩ := xbs h
            refine gX12_258 (pc := 254) o dX12_loan_254 hr56 ?_
            refine x_iload_n (pc := 257) o dX12_loan_257 rfl rfl ?_
            obtain ⟨v57, hv57, h⟩ := xbs h
            refine x_iaload (pc := 258) o dX12_loan_258 hv57 ?_
            refine x_goto (pc := 259) (tgt := 268) o dX12_loan_259 (by decide) ?_
            exact x_ireturn (pc := 268) o hr dX12_loan_268 (xr1 h) (xr2 h)
        · have h := xit h c61
          refine x_aload_n (pc := 239) o dX12_loan_239 rfl rfl ?_
          obtain ⟨r59, hr59, h⟩ := xbs h
          refine gX12_255 (pc := 240) o dX12_loan_240 hr59 ?_
          refine x_iload_n (pc := 243) o dX12_loan_243 rfl rfl ?_
          obtain ⟨v60, hv60, h⟩ := xbs h
          refine x_iaload (pc := 244) o dX12_loan_244 hv60 ?_
          refine x_goto (pc := 245) (tgt := 268) o dX12_loan_245 (by decide) ?_
          exact x_ireturn (pc := 268) o hr dX12_loan_268 (xr1 h) (xr2 h)
      · have h := xit h c62
        refine x_iconst (pc := 25) o dX12_loan_25 ic_m1 ?_
        exact x_ireturn (pc := 26) o hr dX12_loan_26 (xr1 h) (xr2 h)
