def yc (b c : Nat) : Nat := 2 + 17 * b + c
def yd (w c : Nat) : Nat := 36 + 113 * w + c
def sh (w c : Nat) : Nat := 144 + 12 * w + c
def sv (i c : Nat) : Nat := 44 + 5 * i + c
section Q20
variable {S : xSt} {β : Type} {j : Nat} {v x : Int32} {r : Nat}
theorem yc0_k {b : Nat} (hb : b < 2) : tC.1 (yc b 0) = 9 := by rcases (by omega : b = 0 ∨ b = 1) with rfl | rfl <;> rfl
theorem yc0_gd {b : Nat} (hb : b < 2) {A B : Option β} : (if tC.1 (yc b 0) = 9 then A else B) = A := if_pos (yc0_k hb)
theorem yc0_gI {b : Nat} (hb : b < 2) {f : Int32 → Option β} : (xgI tC 9 j (yc b 0) S).bind f = f (S.1 (yc b 0) j) := qb_gI (yc0_k hb)
theorem yc0_gM {b : Nat} (hb : b < 2) {f : Nat → Option β} : (xgM tC 9 j (yc b 0) S).bind f = f (S.2.2 (yc b 0) j) := qb_gM (yc0_k hb)
theorem yc0_pI {b : Nat} (hb : b < 2) {f : xSt → Option β} : (xpI tC 9 j (yc b 0) v S).bind f = f (xuI S (yc b 0) j v) := qb_pI (yc0_k hb)
theorem yc0_pM {b : Nat} (hb : b < 2) {f : xSt → Option β} : (xpM tC 9 j (yc b 0) r S).bind f = f (xuR S (yc b 0) j r) := qb_pM (yc0_k hb)
theorem yc0_pZ {b : Nat} (hb : b < 2) {f : xSt → Option β} (hz : v = 0 ∨ v = 1) : (xpZ tC 9 j (yc b 0) v S).bind f = f (xuI S (yc b 0) j v) := qb_pZ (yc0_k hb) hz
theorem yc0_r0 {b : Nat} (hb : b < 2) : tC.2.2.1 (yc b 0) 0 = yc b 1 := by rcases (by omega : b = 0 ∨ b = 1) with rfl | rfl <;> rfl
theorem yc0_gF0 {b : Nat} (hb : b < 2) {f : Nat → Option β} : (xgF tC 9 0 (yc b 0) S).bind f = f (yc b 1) := by rw [qb_gF (yc0_k hb), yc0_r0 hb]
theorem yc0_r1 {b : Nat} (hb : b < 2) : tC.2.2.1 (yc b 0) 1 = yc b 2 := by rcases (by omega : b = 0 ∨ b = 1) with rfl | rfl <;> rfl
theorem yc0_gF1 {b : Nat} (hb : b < 2) {f : Nat → Option β} : (xgF tC 9 1 (yc b 0) S).bind f = f (yc b 2) := by rw [qb_gF (yc0_k hb), yc0_r1 hb]
theorem yc0_r2 {b : Nat} (hb : b < 2) : tC.2.2.1 (yc b 0) 2 = yc b 3 := by rcases (by omega : b = 0 ∨ b = 1) with rfl | rfl <;> rfl
theorem yc0_gF2 {b : Nat} (hb : b < 2) {f : Nat → Option β} : (xgF tC 9 2 (yc b 0) S).bind f = f (yc b 3) := by rw [qb_gF (yc0_k hb), yc0_r2 hb]
theorem yc0_r3 {b : Nat} (hb : b < 2) : tC.2.2.1 (yc b 0) 3 = yc b 4 := by rcases (by omega : b = 0 ∨ b = 1) with rfl | rfl <;> rfl
theorem yc0_gF3 {b : Nat} (hb : b < 2) {f : Nat → Option β} : (xgF tC 9 3 (yc b 0) S).bind f = f (yc b 4) := by rw [qb_gF (yc0_k hb), yc0_r3 hb]
theorem yc0_r4 {b : Nat} (hb : b < 2) : tC.2.2.1 (yc b 0) 4 = yc b 5 := by rcases (by omega : b = 0 ∨ b = 1) with rfl | rfl <;> rfl
theorem yc0_gF4 {b : Nat} (hb : b < 2) {f : Nat → Option β} : (xgF tC 9 4 (yc b 0) S).bind f = f (yc b 5) := by rw [qb_gF (yc0_k hb), yc0_r4 hb]
theorem yc0_r5 {b : Nat} (hb : b < 2) : tC.2.2.1 (yc b 0) 5 = yc b 6 := by rcases (by omega : b = 0 ∨ b = 1) with rfl | rfl <;> rfl
theorem yc0_gF5 {b : Nat} (hb : b < 2) {f : Nat → Option β} : (xgF tC 9 5 (yc b 0) S).bind f = f (yc b 6) := by rw [qb_gF (yc0_k hb), yc0_r5 hb]
theorem yc0_r6 {b : Nat} (hb : b < 2) : tC.2.2.1 (yc b 0) 6 = yc b 7 := by rcases (by omega : b = 0 ∨ b = 1) with rfl | rfl <;> rfl
theorem yc0_gF6 {b : Nat} (hb : b < 2) {f : Nat → Option β} : (xgF tC 9 6 (yc b 0) S).bind f = f (yc b 7) := by rw [qb_gF (yc0_k hb), yc0_r6 hb]
theorem yc0_r7 {b : Nat} (hb : b < 2) : tC.2.2.1 (yc b 0) 7 = yc b 8 := by rcases (by omega : b = 0 ∨ b = 1) with rfl | rfl <;> rfl
theorem yc0_gF7 {b : Nat} (hb : b < 2) {f : Nat → Option β} : (xgF tC 9 7 (yc b 0) S).bind f = f (yc b 8) := by rw [qb_gF (yc0_k hb), yc0_r7 hb]
theorem yc0_r8 {b : Nat} (hb : b < 2) : tC.2.2.1 (yc b 0) 8 = yc b 9 := by rcases (by omega : b = 0 ∨ b = 1) with rfl | rfl <;> rfl
theorem yc0_gF8 {b : Nat} (hb : b < 2) {f : Nat → Option β} : (xgF tC 9 8 (yc b 0) S).bind f = f (yc b 9) := by rw [qb_gF (yc0_k hb), yc0_r8 hb]
theorem yc0_r9 {b : Nat} (hb : b < 2) : tC.2.2.1 (yc b 0) 9 = yc b 10 := by rcases (by omega : b = 0 ∨ b = 1) with rfl | rfl <;> rfl
theorem yc0_gF9 {b : Nat} (hb : b < 2) {f : Nat → Option β} : (xgF tC 9 9 (yc b 0) S).bind f = f (yc b 10) := by rw [qb_gF (yc0_k hb), yc0_r9 hb]
theorem yc0_r10 {b : Nat} (hb : b < 2) : tC.2.2.1 (yc b 0) 10 = yc b 11 := by rcases (by omega : b = 0 ∨ b = 1) with rfl | rfl <;> rfl
theorem yc0_gF10 {b : Nat} (hb : b < 2) {f : Nat → Option β} : (xgF tC 9 10 (yc b 0) S).bind f = f (yc b 11) := by rw [qb_gF (yc0_k hb), yc0_r10 hb]
theorem yc0_r11 {b : Nat} (hb : b < 2) : tC.2.2.1 (yc b 0) 11 = yc b 12 := by rcases (by omega : b = 0 ∨ b = 1) with rfl | rfl <;> rfl
theorem yc0_gF11 {b : Nat} (hb : b < 2) {f : Nat → Option β} : (xgF tC 9 11 (yc b 0) S).bind f = f (yc b 12) := by rw [qb_gF (yc0_k hb), yc0_r11 hb]
theorem yc0_r12 {b : Nat} (hb : b < 2) : tC.2.2.1 (yc b 0) 12 = yc b 13 := by rcases (by omega : b = 0 ∨ b = 1) with rfl | rfl <;> rfl
theorem yc0_gF12 {b : Nat} (hb : b < 2) {f : Nat → Option β} : (xgF tC 9 12 (yc b 0) S).bind f = f (yc b 13) := by rw [qb_gF (yc0_k hb), yc0_r12 hb]
theorem yc0_r13 {b : Nat} (hb : b < 2) : tC.2.2.1 (yc b 0) 13 = yc b 14 := by rcases (by omega : b = 0 ∨ b = 1) with rfl | rfl <;> rfl
theorem yc0_gF13 {b : Nat} (hb : b < 2) {f : Nat → Option β} : (xgF tC 9 13 (yc b 0) S).bind f = f (yc b 14) := by rw [qb_gF (yc0_k hb), yc0_r13 hb]
theorem yc1_k {b : Nat} (hb : b < 2) : tC.1 (yc b 1) = 13 := by rcases (by omega : b = 0 ∨ b = 1) with rfl | rfl <;> rfl
theorem yc1_l {b : Nat} (hb : b < 2) : tC.2.1 (yc b 1) = 32 := by rcases (by omega : b = 0 ∨ b = 1) with rfl | rfl <;> rfl
theorem yc1_al {b : Nat} (hb : b < 2) {f : Int32 → Option β} (hi : qin x 32) : (xal tC (yc b 1) x S).bind f = f (S.1 (yc b 1) x.toNatClampNeg) := qb_al (yc1_k hb) (by rw [yc1_l hb]; exact hi)
theorem yc1_as {b : Nat} (hb : b < 2) {f : xSt → Option β} (hi : qin x 32) : (xas tC (yc b 1) x v S).bind f = f (xuI S (yc b 1) x.toNatClampNeg v) := qb_as (yc1_k hb) (by rw [yc1_l hb]; exact hi)
theorem yc1_ln {b : Nat} (hb : b < 2) {f : Int32 → Option β} : (xlen tC (yc b 1)).bind f = f (nI 32) := by rw [qb_len13 (yc1_k hb), yc1_l hb]
theorem yc2_k {b : Nat} (hb : b < 2) : tC.1 (yc b 2) = 13 := by rcases (by omega : b = 0 ∨ b = 1) with rfl | rfl <;> rfl
theorem yc2_l {b : Nat} (hb : b < 2) : tC.2.1 (yc b 2) = 4 := by rcases (by omega : b = 0 ∨ b = 1) with rfl | rfl <;> rfl
theorem yc2_al {b : Nat} (hb : b < 2) {f : Int32 → Option β} (hi : qin x 4) : (xal tC (yc b 2) x S).bind f = f (S.1 (yc b 2) x.toNatClampNeg) := qb_al (yc2_k hb) (by rw [yc2_l hb]; exact hi)
theorem yc2_as {b : Nat} (hb : b < 2) {f : xSt → Option β} (hi : qin x 4) : (xas tC (yc b 2) x v S).bind f = f (xuI S (yc b 2) x.toNatClampNeg v) := qb_as (yc2_k hb) (by rw [yc2_l hb]; exact hi)
theorem yc2_ln {b : Nat} (hb : b < 2) {f : Int32 → Option β} : (xlen tC (yc b 2)).bind f = f (nI 4) := by rw [qb_len13 (yc2_k hb), yc2_l hb]
theorem yc3_k {b : Nat} (hb : b < 2) : tC.1 (yc b 3) = 13 := by rcases (by omega : b = 0 ∨ b = 1) with rfl | rfl <;> rfl
theorem yc3_l {b : Nat} (hb : b < 2) : tC.2.1 (yc b 3) = 6 := by rcases (by omega : b = 0 ∨ b = 1) with rfl | rfl <;> rfl
theorem yc3_al {b : Nat} (hb : b < 2) {f : Int32 → Option β} (hi : qin x 6) : (xal tC (yc b 3) x S).bind f = f (S.1 (yc b 3) x.toNatClampNeg) := qb_al (yc3_k hb) (by rw [yc3_l hb]; exact hi)
theorem yc3_as {b : Nat} (hb : b < 2) {f : xSt → Option β} (hi : qin x 6) : (xas tC (yc b 3) x v S).bind f = f (xuI S (yc b 3) x.toNatClampNeg v) := qb_as (yc3_k hb) (by rw [yc3_l hb]; exact hi)
theorem yc3_ln {b : Nat} (hb : b < 2) {f : Int32 → Option β} : (xlen tC (yc b 3)).bind f = f (nI 6) := by rw [qb_len13 (yc3_k hb), yc3_l hb]
theorem yc4_k {b : Nat} (hb : b < 2) : tC.1 (yc b 4) = 13 := by rcases (by omega : b = 0 ∨ b = 1) with rfl | rfl <;> rfl
theorem yc4_l {b : Nat} (hb : b < 2) : tC.2.1 (yc b 4) = 6 := by rcases (by omega : b = 0 ∨ b = 1) with rfl | rfl <;> rfl
theorem yc4_al {b : Nat} (hb : b < 2) {f : Int32 → Option β} (hi : qin x 6) : (xal tC (yc b 4) x S).bind f = f (S.1 (yc b 4) x.toNatClampNeg) := qb_al (yc4_k hb) (by rw [yc4_l hb]; exact hi)
theorem yc4_as {b : Nat} (hb : b < 2) {f : xSt → Option β} (hi : qin x 6) : (xas tC (yc b 4) x v S).bind f = f (xuI S (yc b 4) x.toNatClampNeg v) := qb_as (yc4_k hb) (by rw [yc4_l hb]; exact hi)
theorem yc4_ln {b : Nat} (hb : b < 2) {f : Int32 → Option β} : (xlen tC (yc b 4)).bind f = f (nI 6) := by rw [qb_len13 (yc4_k hb), yc4_l hb]
theorem yc5_k {b : Nat} (hb : b < 2) : tC.1 (yc b 5) = 13 := by rcases (by omega : b = 0 ∨ b = 1) with rfl | rfl <;> rfl
theorem yc5_l {b : Nat} (hb : b < 2) : tC.2.1 (yc b 5) = 8 := by rcases (by omega : b = 0 ∨ b = 1) with rfl | rfl <;> rfl
theorem yc5_al {b : Nat} (hb : b < 2) {f : Int32 → Option β} (hi : qin x 8) : (xal tC (yc b 5) x S).bind f = f (S.1 (yc b 5) x.toNatClampNeg) := qb_al (yc5_k hb) (by rw [yc5_l hb]; exact hi)
theorem yc5_as {b : Nat} (hb : b < 2) {f : xSt → Option β} (hi : qin x 8) : (xas tC (yc b 5) x v S).bind f = f (xuI S (yc b 5) x.toNatClampNeg v) := qb_as (yc5_k hb) (by rw [yc5_l hb]; exact hi)
theorem yc5_ln {b : Nat} (hb : b < 2) {f : Int32 → Option β} : (xlen tC (yc b 5)).bind f = f (nI 8) := by rw [qb_len13 (yc5_k hb), yc5_l hb]
theorem yc6_k {b : Nat} (hb : b < 2) : tC.1 (yc b 6) = 13 := by rcases (by omega : b = 0 ∨ b = 1) with rfl | rfl <;> rfl
theorem yc6_l {b : Nat} (hb : b < 2) : tC.2.1 (yc b 6) = 8 := by rcases (by omega : b = 0 ∨ b = 1) with rfl | rfl <;> rfl
theorem yc6_al {b : Nat} (hb : b < 2) {f : Int32 → Option β} (hi : qin x 8) : (xal tC (yc b 6) x S).bind f = f (S.1 (yc b 6) x.toNatClampNeg) := qb_al (yc6_k hb) (by rw [yc6_l hb]; exact hi)
theorem yc6_as {b : Nat} (hb : b < 2) {f : xSt → Option β} (hi : qin x 8) : (xas tC (yc b 6) x v S).bind f = f (xuI S (yc b 6) x.toNatClampNeg v) := qb_as (yc6_k hb) (by rw [yc6_l hb]; exact hi)
theorem yc6_ln {b : Nat} (hb : b < 2) {f : Int32 → Option β} : (xlen tC (yc b 6)).bind f = f (nI 8) := by rw [qb_len13 (yc6_k hb), yc6_l hb]
theorem yc7_k {b : Nat} (hb : b < 2) : tC.1 (yc b 7) = 13 := by rcases (by omega : b = 0 ∨ b = 1) with rfl | rfl <;> rfl
theorem yc7_l {b : Nat} (hb : b < 2) : tC.2.1 (yc b 7) = 48 := by rcases (by omega : b = 0 ∨ b = 1) with rfl | rfl <;> rfl
theorem yc7_al {b : Nat} (hb : b < 2) {f : Int32 → Option β} (hi : qin x 48) : (xal tC (yc b 7) x S).bind f = f (S.1 (yc b 7) x.toNatClampNeg) := qb_al (yc7_k hb) (by rw [yc7_l hb]; exact hi)
theorem yc7_as {b : Nat} (hb : b < 2) {f : xSt → Option β} (hi : qin x 48) : (xas tC (yc b 7) x v S).bind f = f (xuI S (yc b 7) x.toNatClampNeg v) := qb_as (yc7_k hb) (by rw [yc7_l hb]; exact hi)
theorem yc7_ln {b : Nat} (hb : b < 2) {f : Int32 → Option β} : (xlen tC (yc b 7)).bind f = f (nI 48) := by rw [qb_len13 (yc7_k hb), yc7_l hb]
theorem yc8_k {b : Nat} (hb : b < 2) : tC.1 (yc b 8) = 13 := by rcases (by omega : b = 0 ∨ b = 1) with rfl | rfl <;> rfl
theorem yc8_l {b : Nat} (hb : b < 2) : tC.2.1 (yc b 8) = 6 := by rcases (by omega : b = 0 ∨ b = 1) with rfl | rfl <;> rfl
theorem yc8_al {b : Nat} (hb : b < 2) {f : Int32 → Option β} (hi : qin x 6) : (xal tC (yc b 8) x S).bind f = f (S.1 (yc b 8) x.toNatClampNeg) := qb_al (yc8_k hb) (by rw [yc8_l hb]; exact hi)
theorem yc8_as {b : Nat} (hb : b < 2) {f : xSt → Option β} (hi : qin x 6) : (xas tC (yc b 8) x v S).bind f = f (xuI S (yc b 8) x.toNatClampNeg v) := qb_as (yc8_k hb) (by rw [yc8_l hb]; exact hi)
theorem yc8_ln {b : Nat} (hb : b < 2) {f : Int32 → Option β} : (xlen tC (yc b 8)).bind f = f (nI 6) := by rw [qb_len13 (yc8_k hb), yc8_l hb]
theorem yc9_k {b : Nat} (hb : b < 2) : tC.1 (yc b 9) = 13 := by rcases (by omega : b = 0 ∨ b = 1) with rfl | rfl <;> rfl
theorem yc9_l {b : Nat} (hb : b < 2) : tC.2.1 (yc b 9) = 6 := by rcases (by omega : b = 0 ∨ b = 1) with rfl | rfl <;> rfl
theorem yc9_al {b : Nat} (hb : b < 2) {f : Int32 → Option β} (hi : qin x 6) : (xal tC (yc b 9) x S).bind f = f (S.1 (yc b 9) x.toNatClampNeg) := qb_al (yc9_k hb) (by rw [yc9_l hb]; exact hi)
theorem yc9_as {b : Nat} (hb : b < 2) {f : xSt → Option β} (hi : qin x 6) : (xas tC (yc b 9) x v S).bind f = f (xuI S (yc b 9) x.toNatClampNeg v) := qb_as (yc9_k hb) (by rw [yc9_l hb]; exact hi)
theorem yc9_ln {b : Nat} (hb : b < 2) {f : Int32 → Option β} : (xlen tC (yc b 9)).bind f = f (nI 6) := by rw [qb_len13 (yc9_k hb), yc9_l hb]
theorem yc10_k {b : Nat} (hb : b < 2) : tC.1 (yc b 10) = 13 := by rcases (by omega : b = 0 ∨ b = 1) with rfl | rfl <;> rfl
theorem yc10_l {b : Nat} (hb : b < 2) : tC.2.1 (yc b 10) = 24 := by rcases (by omega : b = 0 ∨ b = 1) with rfl | rfl <;> rfl
theorem yc10_al {b : Nat} (hb : b < 2) {f : Int32 → Option β} (hi : qin x 24) : (xal tC (yc b 10) x S).bind f = f (S.1 (yc b 10) x.toNatClampNeg) := qb_al (yc10_k hb) (by rw [yc10_l hb]; exact hi)
theorem yc10_as {b : Nat} (hb : b < 2) {f : xSt → Option β} (hi : qin x 24) : (xas tC (yc b 10) x v S).bind f = f (xuI S (yc b 10) x.toNatClampNeg v) := qb_as (yc10_k hb) (by rw [yc10_l hb]; exact hi)
theorem yc10_ln {b : Nat} (hb : b < 2) {f : Int32 → Option β} : (xlen tC (yc b 10)).bind f = f (nI 24) := by rw [qb_len13 (yc10_k hb), yc10_l hb]
theorem yc11_k {b : Nat} (hb : b < 2) : tC.1 (yc b 11) = 13 := by rcases (by omega : b = 0 ∨ b = 1) with rfl | rfl <;> rfl
theorem yc11_l {b : Nat} (hb : b < 2) : tC.2.1 (yc b 11) = 24 := by rcases (by omega : b = 0 ∨ b = 1) with rfl | rfl <;> rfl
theorem yc11_al {b : Nat} (hb : b < 2) {f : Int32 → Option β} (hi : qin x 24) : (xal tC (yc b 11) x S).bind f = f (S.1 (yc b 11) x.toNatClampNeg) := qb_al (yc11_k hb) (by rw [yc11_l hb]; exact hi)
theorem yc11_as {b : Nat} (hb : b < 2) {f : xSt → Option β} (hi : qin x 24) : (xas tC (yc b 11) x v S).bind f = f (xuI S (yc b 11) x.toNatClampNeg v) := qb_as (yc11_k hb) (by rw [yc11_l hb]; exact hi)
theorem yc11_ln {b : Nat} (hb : b < 2) {f : Int32 → Option β} : (xlen tC (yc b 11)).bind f = f (nI 24) := by rw [qb_len13 (yc11_k hb), yc11_l hb]
theorem yc12_k {b : Nat} (hb : b < 2) : tC.1 (yc b 12) = 13 := by rcases (by omega : b = 0 ∨ b = 1) with rfl | rfl <;> rfl
theorem yc12_l {b : Nat} (hb : b < 2) : tC.2.1 (yc b 12) = 36 := by rcases (by omega : b = 0 ∨ b = 1) with rfl | rfl <;> rfl
theorem yc12_al {b : Nat} (hb : b < 2) {f : Int32 → Option β} (hi : qin x 36) : (xal tC (yc b 12) x S).bind f = f (S.1 (yc b 12) x.toNatClampNeg) := qb_al (yc12_k hb) (by rw [yc12_l hb]; exact hi)
theorem yc12_as {b : Nat} (hb : b < 2) {f : xSt → Option β} (hi : qin x 36) : (xas tC (yc b 12) x v S).bind f = f (xuI S (yc b 12) x.toNatClampNeg v) := qb_as (yc12_k hb) (by rw [yc12_l hb]; exact hi)
theorem yc12_ln {b : Nat} (hb : b < 2) {f : Int32 → Option β} : (xlen tC (yc b 12)).bind f = f (nI 36) := by rw [qb_len13 (yc12_k hb), yc12_l hb]
theorem yc13_k {b : Nat} (hb : b < 2) : tC.1 (yc b 13) = 13 := by rcases (by omega : b = 0 ∨ b = 1) with rfl | rfl <;> rfl
theorem yc13_l {b : Nat} (hb : b < 2) : tC.2.1 (yc b 13) = 6 := by rcases (by omega : b = 0 ∨ b = 1) with rfl | rfl <;> rfl
theorem yc13_al {b : Nat} (hb : b < 2) {f : Int32 → Option β} (hi : qin x 6) : (xal tC (yc b 13) x S).bind f = f (S.1 (yc b 13) x.toNatClampNeg) := qb_al (yc13_k hb) (by rw [yc13_l hb]; exact hi)
theorem yc13_as {b : Nat} (hb : b < 2) {f : xSt → Option β} (hi : qin x 6) : (xas tC (yc b 13) x v S).bind f = f (xuI S (yc b 13) x.toNatClampNeg v) := qb_as (yc13_k hb) (by rw [yc13_l hb]; exact hi)
theorem yc13_ln {b : Nat} (hb : b < 2) {f : Int32 → Option β} : (xlen tC (yc b 13)).bind f = f (nI 6) := by rw [qb_len13 (yc13_k hb), yc13_l hb]
theorem yc14_k {b : Nat} (hb : b < 2) : tC.1 (yc b 14) = 1 := by rcases (by omega : b = 0 ∨ b = 1) with rfl | rfl <;> rfl
theorem yc14_gd {b : Nat} (hb : b < 2) {A B : Option β} : (if tC.1 (yc b 14) = 1 then A else B) = A := if_pos (yc14_k hb)
theorem yc14_gI {b : Nat} (hb : b < 2) {f : Int32 → Option β} : (xgI tC 1 j (yc b 14) S).bind f = f (S.1 (yc b 14) j) := qb_gI (yc14_k hb)
theorem yc14_gM {b : Nat} (hb : b < 2) {f : Nat → Option β} : (xgM tC 1 j (yc b 14) S).bind f = f (S.2.2 (yc b 14) j) := qb_gM (yc14_k hb)
theorem yc14_pI {b : Nat} (hb : b < 2) {f : xSt → Option β} : (xpI tC 1 j (yc b 14) v S).bind f = f (xuI S (yc b 14) j v) := qb_pI (yc14_k hb)
theorem yc14_pM {b : Nat} (hb : b < 2) {f : xSt → Option β} : (xpM tC 1 j (yc b 14) r S).bind f = f (xuR S (yc b 14) j r) := qb_pM (yc14_k hb)
theorem yc14_pZ {b : Nat} (hb : b < 2) {f : xSt → Option β} (hz : v = 0 ∨ v = 1) : (xpZ tC 1 j (yc b 14) v S).bind f = f (xuI S (yc b 14) j v) := qb_pZ (yc14_k hb) hz
theorem yc14_r0 {b : Nat} (hb : b < 2) : tC.2.2.1 (yc b 14) 0 = yc b 15 := by rcases (by omega : b = 0 ∨ b = 1) with rfl | rfl <;> rfl
theorem yc14_gF0 {b : Nat} (hb : b < 2) {f : Nat → Option β} : (xgF tC 1 0 (yc b 14) S).bind f = f (yc b 15) := by rw [qb_gF (yc14_k hb), yc14_r0 hb]
theorem yc14_r1 {b : Nat} (hb : b < 2) : tC.2.2.1 (yc b 14) 1 = yc b 16 := by rcases (by omega : b = 0 ∨ b = 1) with rfl | rfl <;> rfl
theorem yc14_gF1 {b : Nat} (hb : b < 2) {f : Nat → Option β} : (xgF tC 1 1 (yc b 14) S).bind f = f (yc b 16) := by rw [qb_gF (yc14_k hb), yc14_r1 hb]
theorem yc15_k {b : Nat} (hb : b < 2) : tC.1 (yc b 15) = 13 := by rcases (by omega : b = 0 ∨ b = 1) with rfl | rfl <;> rfl
theorem yc15_l {b : Nat} (hb : b < 2) : tC.2.1 (yc b 15) = 1600 := by rcases (by omega : b = 0 ∨ b = 1) with rfl | rfl <;> rfl
theorem yc15_al {b : Nat} (hb : b < 2) {f : Int32 → Option β} (hi : qin x 1600) : (xal tC (yc b 15) x S).bind f = f (S.1 (yc b 15) x.toNatClampNeg) := qb_al (yc15_k hb) (by rw [yc15_l hb]; exact hi)
theorem yc15_as {b : Nat} (hb : b < 2) {f : xSt → Option β} (hi : qin x 1600) : (xas tC (yc b 15) x v S).bind f = f (xuI S (yc b 15) x.toNatClampNeg v) := qb_as (yc15_k hb) (by rw [yc15_l hb]; exact hi)
theorem yc15_ln {b : Nat} (hb : b < 2) {f : Int32 → Option β} : (xlen tC (yc b 15)).bind f = f (nI 1600) := by rw [qb_len13 (yc15_k hb), yc15_l hb]
theorem yc16_k {b : Nat} (hb : b < 2) : tC.1 (yc b 16) = 13 := by rcases (by omega : b = 0 ∨ b = 1) with rfl | rfl <;> rfl
theorem yc16_l {b : Nat} (hb : b < 2) : tC.2.1 (yc b 16) = 64 := by rcases (by omega : b = 0 ∨ b = 1) with rfl | rfl <;> rfl
theorem yc16_al {b : Nat} (hb : b < 2) {f : Int32 → Option β} (hi : qin x 64) : (xal tC (yc b 16) x S).bind f = f (S.1 (yc b 16) x.toNatClampNeg) := qb_al (yc16_k hb) (by rw [yc16_l hb]; exact hi)
theorem yc16_as {b : Nat} (hb : b < 2) {f : xSt → Option β} (hi : qin x 64) : (xas tC (yc b 16) x v S).bind f = f (xuI S (yc b 16) x.toNatClampNeg v) := qb_as (yc16_k hb) (by rw [yc16_l hb]; exact hi)
theorem yc16_ln {b : Nat} (hb : b < 2) {f : Int32 → Option β} : (xlen tC (yc b 16)).bind f = f (nI 64) := by rw [qb_len13 (yc16_k hb), yc16_l hb]
theorem yd0_k {w : Nat} (hw : w < 2) : tC.1 (yd w 0) = 8 := by rcases (by omega : w = 0 ∨ w = 1) with rfl | rfl <;> rfl
theorem yd0_gd {w : Nat} (hw : w < 2) {A B : Option β} : (if tC.1 (yd w 0) = 8 then A else B) = A := if_pos (yd0_k hw)
theorem yd0_gI {w : Nat} (hw : w < 2) {f : Int32 → Option β} : (xgI tC 8 j (yd w 0) S).bind f = f (S.1 (yd w 0) j) := qb_gI (yd0_k hw)
theorem yd0_gM {w : Nat} (hw : w < 2) {f : Nat → Option β} : (xgM tC 8 j (yd w 0) S).bind f = f (S.2.2 (yd w 0) j) := qb_gM (yd0_k hw)
theorem yd0_pI {w : Nat} (hw : w < 2) {f : xSt → Option β} : (xpI tC 8 j (yd w 0) v S).bind f = f (xuI S (yd w 0) j v) := qb_pI (yd0_k hw)
theorem yd0_pM {w : Nat} (hw : w < 2) {f : xSt → Option β} : (xpM tC 8 j (yd w 0) r S).bind f = f (xuR S (yd w 0) j r) := qb_pM (yd0_k hw)
theorem yd0_pZ {w : Nat} (hw : w < 2) {f : xSt → Option β} (hz : v = 0 ∨ v = 1) : (xpZ tC 8 j (yd w 0) v S).bind f = f (xuI S (yd w 0) j v) := qb_pZ (yd0_k hw) hz
theorem yd0_r5 {w : Nat} (hw : w < 2) : tC.2.2.1 (yd w 0) 5 = yd w 1 := by rcases (by omega : w = 0 ∨ w = 1) with rfl | rfl <;> rfl
theorem yd0_gF5 {w : Nat} (hw : w < 2) {f : Nat → Option β} : (xgF tC 8 5 (yd w 0) S).bind f = f (yd w 1) := by rw [qb_gF (yd0_k hw), yd0_r5 hw]
theorem yd0_r6 {w : Nat} (hw : w < 2) : tC.2.2.1 (yd w 0) 6 = yd w 2 := by rcases (by omega : w = 0 ∨ w = 1) with rfl | rfl <;> rfl
theorem yd0_gF6 {w : Nat} (hw : w < 2) {f : Nat → Option β} : (xgF tC 8 6 (yd w 0) S).bind f = f (yd w 2) := by rw [qb_gF (yd0_k hw), yd0_r6 hw]
theorem yd0_r7 {w : Nat} (hw : w < 2) : tC.2.2.1 (yd w 0) 7 = yd w 3 := by rcases (by omega : w = 0 ∨ w = 1) with rfl | rfl <;> rfl
theorem yd0_gF7 {w : Nat} (hw : w < 2) {f : Nat → Option β} : (xgF tC 8 7 (yd w 0) S).bind f = f (yd w 3) := by rw [qb_gF (yd0_k hw), yd0_r7 hw]
theorem yd0_r8 {w : Nat} (hw : w < 2) : tC.2.2.1 (yd w 0) 8 = yd w 4 := by rcases (by omega : w = 0 ∨ w = 1) with rfl | rfl <;> rfl
theorem yd0_gF8 {w : Nat} (hw : w < 2) {f : Nat → Option β} : (xgF tC 8 8 (yd w 0) S).bind f = f (yd w 4) := by rw [qb_gF (yd0_k hw), yd0_r8 hw]
theorem yd1_k {w : Nat} (hw : w < 2) : tC.1 (yd w 1) = 13 := by rcases (by omega : w = 0 ∨ w = 1) with rfl | rfl <;> rfl
theorem yd1_l {w : Nat} (hw : w < 2) : tC.2.1 (yd w 1) = 8 := by rcases (by omega : w = 0 ∨ w = 1) with rfl | rfl <;> rfl
theorem yd1_al {w : Nat} (hw : w < 2) {f : Int32 → Option β} (hi : qin x 8) : (xal tC (yd w 1) x S).bind f = f (S.1 (yd w 1) x.toNatClampNeg) := qb_al (yd1_k hw) (by rw [yd1_l hw]; exact hi)
theorem yd1_as {w : Nat} (hw : w < 2) {f : xSt → Option β} (hi : qin x 8) : (xas tC (yd w 1) x v S).bind f = f (xuI S (yd w 1) x.toNatClampNeg v) := qb_as (yd1_k hw) (by rw [yd1_l hw]; exact hi)
theorem yd1_ln {w : Nat} (hw : w < 2) {f : Int32 → Option β} : (xlen tC (yd w 1)).bind f = f (nI 8) := by rw [qb_len13 (yd1_k hw), yd1_l hw]
theorem yd2_k {w : Nat} (hw : w < 2) : tC.1 (yd w 2) = 13 := by rcases (by omega : w = 0 ∨ w = 1) with rfl | rfl <;> rfl
theorem yd2_l {w : Nat} (hw : w < 2) : tC.2.1 (yd w 2) = 48 := by rcases (by omega : w = 0 ∨ w = 1) with rfl | rfl <;> rfl
theorem yd2_al {w : Nat} (hw : w < 2) {f : Int32 → Option β} (hi : qin x 48) : (xal tC (yd w 2) x S).bind f = f (S.1 (yd w 2) x.toNatClampNeg) := qb_al (yd2_k hw) (by rw [yd2_l hw]; exact hi)
theorem yd2_as {w : Nat} (hw : w < 2) {f : xSt → Option β} (hi : qin x 48) : (xas tC (yd w 2) x v S).bind f = f (xuI S (yd w 2) x.toNatClampNeg v) := qb_as (yd2_k hw) (by rw [yd2_l hw]; exact hi)
theorem yd2_ln {w : Nat} (hw : w < 2) {f : Int32 → Option β} : (xlen tC (yd w 2)).bind f = f (nI 48) := by rw [qb_len13 (yd2_k hw), yd2_l hw]
theorem yd3_k {w : Nat} (hw : w < 2) : tC.1 (yd w 3) = 13 := by rcases (by omega : w = 0 ∨ w = 1) with rfl | rfl <;> rfl
theorem yd3_l {w : Nat} (hw : w < 2) : tC.2.1 (yd w 3) = 6 := by rcases (by omega : w = 0 ∨ w = 1) with rfl | rfl <;> rfl
theorem yd3_al {w : Nat} (hw : w < 2) {f : Int32 → Option β} (hi : qin x 6) : (xal tC (yd w 3) x S).bind f = f (S.1 (yd w 3) x.toNatClampNeg) := qb_al (yd3_k hw) (by rw [yd3_l hw]; exact hi)
theorem yd3_as {w : Nat} (hw : w < 2) {f : xSt → Option β} (hi : qin x 6) : (xas tC (yd w 3) x v S).bind f = f (xuI S (yd w 3) x.toNatClampNeg v) := qb_as (yd3_k hw) (by rw [yd3_l hw]; exact hi)
theorem yd3_ln {w : Nat} (hw : w < 2) {f : Int32 → Option β} : (xlen tC (yd w 3)).bind f = f (nI 6) := by rw [qb_len13 (yd3_k hw), yd3_l hw]
theorem yd4_k {w : Nat} (hw : w < 2) : tC.1 (yd w 4) = 13 := by rcases (by omega : w = 0 ∨ w = 1) with rfl | rfl <;> rfl
theorem yd4_l {w : Nat} (hw : w < 2) : tC.2.1 (yd w 4) = 6 := by rcases (by omega : w = 0 ∨ w = 1) with rfl | rfl <;> rfl
theorem yd4_al {w : Nat} (hw : w < 2) {f : Int32 → Option β} (hi : qin x 6) : (xal tC (yd w 4) x S).bind f = f (S.1 (yd w 4) x.toNatClampNeg) := qb_al (yd4_k hw) (by rw [yd4_l hw]; exact hi)
theorem yd4_as {w : Nat} (hw : w < 2) {f : xSt → Option β} (hi : qin x 6) : (xas tC (yd w 4) x v S).bind f = f (xuI S (yd w 4) x.toNatClampNeg v) := qb_as (yd4_k hw) (by rw [yd4_l hw]; exact hi)
theorem yd4_ln {w : Nat} (hw : w < 2) {f : Int32 → Option β} : (xlen tC (yd w 4)).bind f = f (nI 6) := by rw [qb_len13 (yd4_k hw), yd4_l hw]
theorem sh0_k {w : Nat} (hw : w < 2) : tC.1 (sh w 0) = 6 := by rcases (by omega : w = 0 ∨ w = 1) with rfl | rfl <;> rfl
theorem sh0_gd {w : Nat} (hw : w < 2) {A B : Option β} : (if tC.1 (sh w 0) = 6 then A else B) = A := if_pos (sh0_k hw)
theorem sh0_gI {w : Nat} (hw : w < 2) {f : Int32 → Option β} : (xgI tC 6 j (sh w 0) S).bind f = f (S.1 (sh w 0) j) := qb_gI (sh0_k hw)
theorem sh0_gM {w : Nat} (hw : w < 2) {f : Nat → Option β} : (xgM tC 6 j (sh w 0) S).bind f = f (S.2.2 (sh w 0) j) := qb_gM (sh0_k hw)
theorem sh0_pI {w : Nat} (hw : w < 2) {f : xSt → Option β} : (xpI tC 6 j (sh w 0) v S).bind f = f (xuI S (sh w 0) j v) := qb_pI (sh0_k hw)
theorem sh0_pM {w : Nat} (hw : w < 2) {f : xSt → Option β} : (xpM tC 6 j (sh w 0) r S).bind f = f (xuR S (sh w 0) j r) := qb_pM (sh0_k hw)
theorem sh0_pZ {w : Nat} (hw : w < 2) {f : xSt → Option β} (hz : v = 0 ∨ v = 1) : (xpZ tC 6 j (sh w 0) v S).bind f = f (xuI S (sh w 0) j v) := qb_pZ (sh0_k hw) hz
theorem sh0_r0 {w : Nat} (hw : w < 2) : tC.2.2.1 (sh w 0) 0 = sh w 1 := by rcases (by omega : w = 0 ∨ w = 1) with rfl | rfl <;> rfl
theorem sh0_gF0 {w : Nat} (hw : w < 2) {f : Nat → Option β} : (xgF tC 6 0 (sh w 0) S).bind f = f (sh w 1) := by rw [qb_gF (sh0_k hw), sh0_r0 hw]
theorem sh0_r1 {w : Nat} (hw : w < 2) : tC.2.2.1 (sh w 0) 1 = sh w 2 := by rcases (by omega : w = 0 ∨ w = 1) with rfl | rfl <;> rfl
theorem sh0_gF1 {w : Nat} (hw : w < 2) {f : Nat → Option β} : (xgF tC 6 1 (sh w 0) S).bind f = f (sh w 2) := by rw [qb_gF (sh0_k hw), sh0_r1 hw]
theorem sh0_r2 {w : Nat} (hw : w < 2) : tC.2.2.1 (sh w 0) 2 = sh w 3 := by rcases (by omega : w = 0 ∨ w = 1) with rfl | rfl <;> rfl
theorem sh0_gF2 {w : Nat} (hw : w < 2) {f : Nat → Option β} : (xgF tC 6 2 (sh w 0) S).bind f = f (sh w 3) := by rw [qb_gF (sh0_k hw), sh0_r2 hw]
theorem sh0_r3 {w : Nat} (hw : w < 2) : tC.2.2.1 (sh w 0) 3 = 41 := by rcases (by omega : w = 0 ∨ w = 1) with rfl | rfl <;> rfl
theorem sh0_gF3 {w : Nat} (hw : w < 2) {f : Nat → Option β} : (xgF tC 6 3 (sh w 0) S).bind f = f (41) := by rw [qb_gF (sh0_k hw), sh0_r3 hw]
theorem sh1_k {w : Nat} (hw : w < 2) : tC.1 (sh w 1) = 13 := by rcases (by omega : w = 0 ∨ w = 1) with rfl | rfl <;> rfl
theorem sh1_l {w : Nat} (hw : w < 2) : tC.2.1 (sh w 1) = 6 := by rcases (by omega : w = 0 ∨ w = 1) with rfl | rfl <;> rfl
theorem sh1_al {w : Nat} (hw : w < 2) {f : Int32 → Option β} (hi : qin x 6) : (xal tC (sh w 1) x S).bind f = f (S.1 (sh w 1) x.toNatClampNeg) := qb_al (sh1_k hw) (by rw [sh1_l hw]; exact hi)
theorem sh1_as {w : Nat} (hw : w < 2) {f : xSt → Option β} (hi : qin x 6) : (xas tC (sh w 1) x v S).bind f = f (xuI S (sh w 1) x.toNatClampNeg v) := qb_as (sh1_k hw) (by rw [sh1_l hw]; exact hi)
theorem sh1_ln {w : Nat} (hw : w < 2) {f : Int32 → Option β} : (xlen tC (sh w 1)).bind f = f (nI 6) := by rw [qb_len13 (sh1_k hw), sh1_l hw]
theorem sh2_k {w : Nat} (hw : w < 2) : tC.1 (sh w 2) = 13 := by rcases (by omega : w = 0 ∨ w = 1) with rfl | rfl <;> rfl
theorem sh2_l {w : Nat} (hw : w < 2) : tC.2.1 (sh w 2) = 6 := by rcases (by omega : w = 0 ∨ w = 1) with rfl | rfl <;> rfl
theorem sh2_al {w : Nat} (hw : w < 2) {f : Int32 → Option β} (hi : qin x 6) : (xal tC (sh w 2) x S).bind f = f (S.1 (sh w 2) x.toNatClampNeg) := qb_al (sh2_k hw) (by rw [sh2_l hw]; exact hi)
theorem sh2_as {w : Nat} (hw : w < 2) {f : xSt → Option β} (hi : qin x 6) : (xas tC (sh w 2) x v S).bind f = f (xuI S (sh w 2) x.toNatClampNeg v) := qb_as (sh2_k hw) (by rw [sh2_l hw]; exact hi)
theorem sh2_ln {w : Nat} (hw : w < 2) {f : Int32 → Option β} : (xlen tC (sh w 2)).bind f = f (nI 6) := by rw [qb_len13 (sh2_k hw), sh2_l hw]
theorem sh3_k {w : Nat} (hw : w < 2) : tC.1 (sh w 3) = 13 := by rcases (by omega : w = 0 ∨ w = 1) with rfl | rfl <;> rfl
theorem sh3_l {w : Nat} (hw : w < 2) : tC.2.1 (sh w 3) = 8 := by rcases (by omega : w = 0 ∨ w = 1) with rfl | rfl <;> rfl
theorem sh3_al {w : Nat} (hw : w < 2) {f : Int32 → Option β} (hi : qin x 8) : (xal tC (sh w 3) x S).bind f = f (S.1 (sh w 3) x.toNatClampNeg) := qb_al (sh3_k hw) (by rw [sh3_l hw]; exact hi)
theorem sh3_as {w : Nat} (hw : w < 2) {f : xSt → Option β} (hi : qin x 8) : (xas tC (sh w 3) x v S).bind f = f (xuI S (sh w 3) x.toNatClampNeg v) := qb_as (sh3_k hw) (by rw [sh3_l hw]; exact hi)
theorem sh3_ln {w : Nat} (hw : w < 2) {f : Int32 → Option β} : (xlen tC (sh w 3)).bind f = f (nI 8) := by rw [qb_len13 (sh3_k hw), sh3_l hw]
theorem sv0_k {i : Nat} (hi : i < 20) : tC.1 (sv i 0) = 8 := by rcases (by omega : i = 0 ∨ i = 1 ∨ i = 2 ∨ i = 3 ∨ i = 4 ∨ i = 5 ∨ i = 6 ∨ i = 7 ∨ i = 8 ∨ i = 9 ∨ i = 10 ∨ i = 11 ∨ i = 12 ∨ i = 13 ∨ i = 14 ∨ i = 15 ∨ i = 16 ∨ i = 17 ∨ i = 18 ∨ i = 19) with rfl | rfl | rfl | rfl | rfl | rfl | rfl | rfl | rfl | rfl | rfl | rfl | rfl | rfl | rfl | rfl | rfl | rfl | rfl | rfl <;> rfl
theorem sv0_gd {i : Nat} (hi : i < 20) {A B : Option β} : (if tC.1 (sv i 0) = 8 then A else B) = A := if_pos (sv0_k hi)
theorem sv0_gI {i : Nat} (hi : i < 20) {f : Int32 → Option β} : (xgI tC 8 j (sv i 0) S).bind f = f (S.1 (sv i 0) j) := qb_gI (sv0_k hi)
theorem sv0_gM {i : Nat} (hi : i < 20) {f : Nat → Option β} : (xgM tC 8 j (sv i 0) S).bind f = f (S.2.2 (sv i 0) j) := qb_gM (sv0_k hi)
theorem sv0_pI {i : Nat} (hi : i < 20) {f : xSt → Option β} : (xpI tC 8 j (sv i 0) v S).bind f = f (xuI S (sv i 0) j v) := qb_pI (sv0_k hi)
theorem sv0_pM {i : Nat} (hi : i < 20) {f : xSt → Option β} : (xpM tC 8 j (sv i 0) r S).bind f = f (xuR S (sv i 0) j r) := qb_pM (sv0_k hi)
theorem sv0_pZ {i : Nat} (hi : i < 20) {f : xSt → Option β} (hz : v = 0 ∨ v = 1) : (xpZ tC 8 j (sv i 0) v S).bind f = f (xuI S (sv i 0) j v) := qb_pZ (sv0_k hi) hz
theorem sv0_r5 {i : Nat} (hi : i < 20) : tC.2.2.1 (sv i 0) 5 = sv i 1 := by rcases (by omega : i = 0 ∨ i = 1 ∨ i = 2 ∨ i = 3 ∨ i = 4 ∨ i = 5 ∨ i = 6 ∨ i = 7 ∨ i = 8 ∨ i = 9 ∨ i = 10 ∨ i = 11 ∨ i = 12 ∨ i = 13 ∨ i = 14 ∨ i = 15 ∨ i = 16 ∨ i = 17 ∨ i = 18 ∨ i = 19) with rfl | rfl | rfl | rfl | rfl | rfl | rfl | rfl | rfl | rfl | rfl | rfl | rfl | rfl | rfl | rfl | rfl | rfl | rfl | rfl <;> rfl
theorem sv0_gF5 {i : Nat} (hi : i < 20) {f : Nat → Option β} : (xgF tC 8 5 (sv i 0) S).bind f = f (sv i 1) := by rw [qb_gF (sv0_k hi), sv0_r5 hi]
theorem sv0_r6 {i : Nat} (hi : i < 20) : tC.2.2.1 (sv i 0) 6 = sv i 2 := by rcases (by omega : i = 0 ∨ i = 1 ∨ i = 2 ∨ i = 3 ∨ i = 4 ∨ i = 5 ∨ i = 6 ∨ i = 7 ∨ i = 8 ∨ i = 9 ∨ i = 10 ∨ i = 11 ∨ i = 12 ∨ i = 13 ∨ i = 14 ∨ i = 15 ∨ i = 16 ∨ i = 17 ∨ i = 18 ∨ i = 19) with rfl | rfl | rfl | rfl | rfl | rfl | rfl | rfl | rfl | rfl | rfl | rfl | rfl | rfl | rfl | rfl | rfl | rfl | rfl | rfl <;> rfl
theorem sv0_gF6 {i : Nat} (hi : i < 20) {f : Nat → Option β} : (xgF tC 8 6 (sv i 0) S).bind f = f (sv i 2) := by rw [qb_gF (sv0_k hi), sv0_r6 hi]
theorem sv0_r7 {i : Nat} (hi : i < 20) : tC.2.2.1 (sv i 0) 7 = sv i 3 := by rcases (by omega : i = 0 ∨ i = 1 ∨ i = 2 ∨ i = 3 ∨ i = 4 ∨ i = 5 ∨ i = 6 ∨ i = 7 ∨ i = 8 ∨ i = 9 ∨ i = 10 ∨ i = 11 ∨ i = 12 ∨ i = 13 ∨ i = 14 ∨ i = 15 ∨ i = 16 ∨ i = 17 ∨ i = 18 ∨ i = 19) with rfl | rfl | rfl | rfl | rfl | rfl | rfl | rfl | rfl | rfl | rfl | rfl | rfl | rfl | rfl | rfl | rfl | rfl | rfl | rfl <;> rfl
theorem sv0_gF7 {i : Nat} (hi : i < 20) {f : Nat → Option β} : (xgF tC 8 7 (sv i 0) S).bind f = f (sv i 3) := by rw [qb_gF (sv0_k hi), sv0_r7 hi]
theorem sv0_r8 {i : Nat} (hi : i < 20) : tC.2.2.1 (sv i 0) 8 = sv i 4 := by rcases (by omega : i = 0 ∨ i = 1 ∨ i = 2 ∨ i = 3 ∨ i = 4 ∨ i = 5 ∨ i = 6 ∨ i = 7 ∨ i = 8 ∨ i = 9 ∨ i = 10 ∨ i = 11 ∨ i = 12 ∨ i = 13 ∨ i = 14 ∨ i = 15 ∨ i = 16 ∨ i = 17 ∨ i = 18 ∨ i = 19) with rfl | rfl | rfl | rfl | rfl | rfl | rfl | rfl | rfl | rfl | rfl | rfl | rfl | rfl | rfl | rfl | rfl | rfl | rfl | rfl <;> rfl
theorem sv0_gF8 {i : Nat} (hi : i < 20) {f : Nat → Option β} : (xgF tC 8 8 (sv i 0) S).bind f = f (sv i 4) := by rw [qb_gF (sv0_k hi), sv0_r8 hi]
theorem sv1_k {i : Nat} (h20 : i < 20) : tC.1 (sv i 1) = 13 := by rcases (by omega : i = 0 ∨ i = 1 ∨ i = 2 ∨ i = 3 ∨ i = 4 ∨ i = 5 ∨ i = 6 ∨ i = 7 ∨ i = 8 ∨ i = 9 ∨ i = 10 ∨ i = 11 ∨ i = 12 ∨ i = 13 ∨ i = 14 ∨ i = 15 ∨ i = 16 ∨ i = 17 ∨ i = 18 ∨ i = 19) with rfl | rfl | rfl | rfl | rfl | rfl | rfl | rfl | rfl | rfl | rfl | rfl | rfl | rfl | rfl | rfl | rfl | rfl | rfl | rfl <;> rfl
theorem sv1_l {i : Nat} (h20 : i < 20) : tC.2.1 (sv i 1) = 8 := by rcases (by omega : i = 0 ∨ i = 1 ∨ i = 2 ∨ i = 3 ∨ i = 4 ∨ i = 5 ∨ i = 6 ∨ i = 7 ∨ i = 8 ∨ i = 9 ∨ i = 10 ∨ i = 11 ∨ i = 12 ∨ i = 13 ∨ i = 14 ∨ i = 15 ∨ i = 16 ∨ i = 17 ∨ i = 18 ∨ i = 19) with rfl | rfl | rfl | rfl | rfl | rfl | rfl | rfl | rfl | rfl | rfl | rfl | rfl | rfl | rfl | rfl | rfl | rfl | rfl | rfl <;> rfl
theorem sv1_al {i : Nat} (h20 : i < 20) {f : Int32 → Option β} (hi : qin x 8) : (xal tC (sv i 1) x S).bind f = f (S.1 (sv i 1) x.toNatClampNeg) := qb_al (sv1_k h20) (by rw [sv1_l h20]; exact hi)
theorem sv1_as {i : Nat} (h20 : i < 20) {f : xSt → Option β} (hi : qin x 8) : (xas tC (sv i 1) x v S).bind f = f (xuI S (sv i 1) x.toNatClampNeg v) := qb_as (sv1_k h20) (by rw [sv1_l h20]; exact hi)
theorem sv1_ln {i : Nat} (h20 : i < 20) {f : Int32 → Option β} : (xlen tC (sv i 1)).bind f = f (nI 8) := by rw [qb_len13 (sv1_k h20), sv1_l h20]
theorem sv2_k {i : Nat} (h20 : i < 20) : tC.1 (sv i 2) = 13 := by rcases (by omega : i = 0 ∨ i = 1 ∨ i = 2 ∨ i = 3 ∨ i = 4 ∨ i = 5 ∨ i = 6 ∨ i = 7 ∨ i = 8 ∨ i = 9 ∨ i = 10 ∨ i = 11 ∨ i = 12 ∨ i = 13 ∨ i = 14 ∨ i = 15 ∨ i = 16 ∨ i = 17 ∨ i = 18 ∨ i = 19) with rfl | rfl | rfl | rfl | rfl | rfl | rfl | rfl | rfl | rfl | rfl | rfl | rfl | rfl | rfl | rfl | rfl | rfl | rfl | rfl <;> rfl
theorem sv2_l {i : Nat} (h20 : i < 20) : tC.2.1 (sv i 2) = 48 := by rcases (by omega : i = 0 ∨ i = 1 ∨ i = 2 ∨ i = 3 ∨ i = 4 ∨ i = 5 ∨ i = 6 ∨ i = 7 ∨ i = 8 ∨ i = 9 ∨ i = 10 ∨ i = 11 ∨ i = 12 ∨ i = 13 ∨ i = 14 ∨ i = 15 ∨ i = 16 ∨ i = 17 ∨ i = 18 ∨ i = 19) with rfl | rfl | rfl | rfl | rfl | rfl | rfl | rfl | rfl | rfl | rfl | rfl | rfl | rfl | rfl | rfl | rfl | rfl | rfl | rfl <;> rfl
theorem sv2_al {i : Nat} (h20 : i < 20) {f : Int32 → Option β} (hi : qin x 48) : (xal tC (sv i 2) x S).bind f = f (S.1 (sv i 2) x.toNatClampNeg) := qb_al (sv2_k h20) (by rw [sv2_l h20]; exact hi)
theorem sv2_as {i : Nat} (h20 : i < 20) {f : xSt → Option β} (hi : qin x 48) : (xas tC (sv i 2) x v S).bind f = f (xuI S (sv i 2) x.toNatClampNeg v) := qb_as (sv2_k h20) (by rw [sv2_l h20]; exact hi)
theorem sv2_ln {i : Nat} (h20 : i < 20) {f : Int32 → Option β} : (xlen tC (sv i 2)).bind f = f (nI 48) := by rw [qb_len13 (sv2_k h20), sv2_l h20]
theorem sv3_k {i : Nat} (h20 : i < 20) : tC.1 (sv i 3) = 13 := by rcases (by omega : i = 0 ∨ i = 1 ∨ i = 2 ∨ i = 3 ∨ i = 4 ∨ i = 5 ∨ i = 6 ∨ i = 7 ∨ i = 8 ∨ i = 9 ∨ i = 10 ∨ i = 11 ∨ i = 12 ∨ i = 13 ∨ i = 14 ∨ i = 15 ∨ i = 16 ∨ i = 17 ∨ i = 18 ∨ i = 19) with rfl | rfl | rfl | rfl | rfl | rfl | rfl | rfl | rfl | rfl | rfl | rfl | rfl | rfl | rfl | rfl | rfl | rfl | rfl | rfl <;> rfl
theorem sv3_l {i : Nat} (h20 : i < 20) : tC.2.1 (sv i 3) = 6 := by rcases (by omega : i = 0 ∨ i = 1 ∨ i = 2 ∨ i = 3 ∨ i = 4 ∨ i = 5 ∨ i = 6 ∨ i = 7 ∨ i = 8 ∨ i = 9 ∨ i = 10 ∨ i = 11 ∨ i = 12 ∨ i = 13 ∨ i = 14 ∨ i = 15 ∨ i = 16 ∨ i = 17 ∨ i = 18 ∨ i = 19) with rfl | rfl | rfl | rfl | rfl | rfl | rfl | rfl | rfl | rfl | rfl | rfl | rfl | rfl | rfl | rfl | rfl | rfl | rfl | rfl <;> rfl
theorem sv3_al {i : Nat} (h20 : i < 20) {f : Int32 → Option β} (hi : qin x 6) : (xal tC (sv i 3) x S).bind f = f (S.1 (sv i 3) x.toNatClampNeg) := qb_al (sv3_k h20) (by rw [sv3_l h20]; exact hi)
theorem sv3_as {i : Nat} (h20 : i < 20) {f : xSt → Option β} (hi : qin x 6) : (xas tC (sv i 3) x v S).bind f = f (xuI S (sv i 3) x.toNatClampNeg v) := qb_as (sv3_k h20) (by rw [sv3_l h20]; exact hi)
theorem sv3_ln {i : Nat} (h20 : i < 20) {f : Int32 → Option β} : (xlen tC (sv i 3)).bind f = f (nI 6) := by rw [qb_len13 (sv3_k h20), sv3_l h20]
theorem sv4_k {i : Nat} (h20 : i < 20) : tC.1 (sv i 4) = 13 := by rcases (by omega : i = 0 ∨ i = 1 ∨ i = 2 ∨ i = 3 ∨ i = 4 ∨ i = 5 ∨ i = 6 ∨ i = 7 ∨ i = 8 ∨ i = 9 ∨ i = 10 ∨ i = 11 ∨ i = 12 ∨ i = 13 ∨ i = 14 ∨ i = 15 ∨ i = 16 ∨ i = 17 ∨ i = 18 ∨ i = 19) with rfl | rfl | rfl | rfl | rfl | rfl | rfl | rfl | rfl | rfl | rfl | rfl | rfl | rfl | rfl | rfl | rfl | rfl | rfl | rfl <;> rfl
theorem sv4_l {i : Nat} (h20 : i < 20) : tC.2.1 (sv i 4) = 6 := by rcases (by omega : i = 0 ∨ i = 1 ∨ i = 2 ∨ i = 3 ∨ i = 4 ∨ i = 5 ∨ i = 6 ∨ i = 7 ∨ i = 8 ∨ i = 9 ∨ i = 10 ∨ i = 11 ∨ i = 12 ∨ i = 13 ∨ i = 14 ∨ i = 15 ∨ i = 16 ∨ i = 17 ∨ i = 18 ∨ i = 19) with rfl | rfl | rfl | rfl | rfl | rfl | rfl | rfl | rfl | rfl | rfl | rfl | rfl | rfl | rfl | rfl | rfl | rfl | rfl | rfl <;> rfl
theorem sv4_al {i : Nat} (h20 : i < 20) {f : Int32 → Option β} (hi : qin x 6) : (xal tC (sv i 4) x S).bind f = f (S.1 (sv i 4) x.toNatClampNeg) := qb_al (sv4_k h20) (by rw [sv4_l h20]; exact hi)
theorem sv4_as {i : Nat} (h20 : i < 20) {f : xSt → Option β} (hi : qin x 6) : (xas tC (sv i 4) x v S).bind f = f (xuI S (sv i 4) x.toNatClampNeg v) := qb_as (sv4_k h20) (by rw [sv4_l h20]; exact hi)
theorem sv4_ln {i : Nat} (h20 : i < 20) {f : Int32 → Option β} : (xlen tC (sv i 4)).bind f = f (nI 6) := by rw [qb_len13 (sv4_k h20), sv4_l h20]
theorem kc0_k  : tC.1 (0) = 11 := by rfl
theorem kc0_gd  {A B : Option β} : (if tC.1 (0) = 11 then A else B) = A := if_pos (kc0_k)
theorem kc0_gI  {f : Int32 → Option β} : (xgI tC 11 j (0) S).bind f = f (S.1 (0) j) := qb_gI (kc0_k)
theorem kc0_gM  {f : Nat → Option β} : (xgM tC 11 j (0) S).bind f = f (S.2.2 (0) j) := qb_gM (kc0_k)
theorem kc0_pI  {f : xSt → Option β} : (xpI tC 11 j (0) v S).bind f = f (xuI S (0) j v) := qb_pI (kc0_k)
theorem kc0_pM  {f : xSt → Option β} : (xpM tC 11 j (0) r S).bind f = f (xuR S (0) j r) := qb_pM (kc0_k)
theorem kc0_pZ  {f : xSt → Option β} (hz : v = 0 ∨ v = 1) : (xpZ tC 11 j (0) v S).bind f = f (xuI S (0) j v) := qb_pZ (kc0_k) hz
theorem kc0_r0  : tC.2.2.1 (0) 0 = 1 := by rfl
theorem kc0_gF0  {f : Nat → Option β} : (xgF tC 11 0 (0) S).bind f = f (1) := by rw [qb_gF (kc0_k), kc0_r0]
theorem kc0_r4  : tC.2.2.1 (0) 4 = yd 0 0 := by rfl
theorem kc0_gF4  {f : Nat → Option β} : (xgF tC 11 4 (0) S).bind f = f (yd 0 0) := by rw [qb_gF (kc0_k), kc0_r4]
theorem kc0_r5  : tC.2.2.1 (0) 5 = 41 := by rfl
theorem kc0_gF5  {f : Nat → Option β} : (xgF tC 11 5 (0) S).bind f = f (41) := by rw [qb_gF (kc0_k), kc0_r5]
theorem kc0_r6  : tC.2.2.1 (0) 6 = sh 0 0 := by rfl
theorem kc0_gF6  {f : Nat → Option β} : (xgF tC 11 6 (0) S).bind f = f (sh 0 0) := by rw [qb_gF (kc0_k), kc0_r6]
theorem kc0_r7  : tC.2.2.1 (0) 7 = 148 := by rfl
theorem kc0_gF7  {f : Nat → Option β} : (xgF tC 11 7 (0) S).bind f = f (148) := by rw [qb_gF (kc0_k), kc0_r7]
theorem kc0_r8  : tC.2.2.1 (0) 8 = 160 := by rfl
theorem kc0_gF8  {f : Nat → Option β} : (xgF tC 11 8 (0) S).bind f = f (160) := by rw [qb_gF (kc0_k), kc0_r8]
theorem kc0_r9  : tC.2.2.1 (0) 9 = 162 := by rfl
theorem kc0_gF9  {f : Nat → Option β} : (xgF tC 11 9 (0) S).bind f = f (162) := by rw [qb_gF (kc0_k), kc0_r9]
theorem kc0_r10  : tC.2.2.1 (0) 10 = 164 := by rfl
theorem kc0_gF10  {f : Nat → Option β} : (xgF tC 11 10 (0) S).bind f = f (164) := by rw [qb_gF (kc0_k), kc0_r10]
theorem kc0_r11  : tC.2.2.1 (0) 11 = 169 := by rfl
theorem kc0_gF11  {f : Nat → Option β} : (xgF tC 11 11 (0) S).bind f = f (169) := by rw [qb_gF (kc0_k), kc0_r11]
theorem kc0_r12  : tC.2.2.1 (0) 12 = 176 := by rfl
theorem kc0_gF12  {f : Nat → Option β} : (xgF tC 11 12 (0) S).bind f = f (176) := by rw [qb_gF (kc0_k), kc0_r12]
theorem kc0_r14  : tC.2.2.1 (0) 14 = 177 := by rfl
theorem kc0_gF14  {f : Nat → Option β} : (xgF tC 11 14 (0) S).bind f = f (177) := by rw [qb_gF (kc0_k), kc0_r14]
theorem kc1_k  : tC.1 (1) = 13 := by rfl
theorem kc1_l  : tC.2.1 (1) = 1600 := by rfl
theorem kc1_al  {f : Int32 → Option β} (hi : qin x 1600) : (xal tC (1) x S).bind f = f (S.1 (1) x.toNatClampNeg) := qb_al (kc1_k) (by rw [kc1_l]; exact hi)
theorem kc1_as  {f : xSt → Option β} (hi : qin x 1600) : (xas tC (1) x v S).bind f = f (xuI S (1) x.toNatClampNeg v) := qb_as (kc1_k) (by rw [kc1_l]; exact hi)
theorem kc1_ln  {f : Int32 → Option β} : (xlen tC (1)).bind f = f (nI 1600) := by rw [qb_len13 (kc1_k), kc1_l]
theorem kc41_k  : tC.1 (41) = 3 := by rfl
theorem kc41_gd  {A B : Option β} : (if tC.1 (41) = 3 then A else B) = A := if_pos (kc41_k)
theorem kc41_gI  {f : Int32 → Option β} : (xgI tC 3 j (41) S).bind f = f (S.1 (41) j) := qb_gI (kc41_k)
theorem kc41_gM  {f : Nat → Option β} : (xgM tC 3 j (41) S).bind f = f (S.2.2 (41) j) := qb_gM (kc41_k)
theorem kc41_pI  {f : xSt → Option β} : (xpI tC 3 j (41) v S).bind f = f (xuI S (41) j v) := qb_pI (kc41_k)
theorem kc41_pM  {f : xSt → Option β} : (xpM tC 3 j (41) r S).bind f = f (xuR S (41) j r) := qb_pM (kc41_k)
theorem kc41_pZ  {f : xSt → Option β} (hz : v = 0 ∨ v = 1) : (xpZ tC 3 j (41) v S).bind f = f (xuI S (41) j v) := qb_pZ (kc41_k) hz
theorem kc41_r0  : tC.2.2.1 (41) 0 = 42 := by rfl
theorem kc41_gF0  {f : Nat → Option β} : (xgF tC 3 0 (41) S).bind f = f (42) := by rw [qb_gF (kc41_k), kc41_r0]
theorem kc41_r1  : tC.2.2.1 (41) 1 = 43 := by rfl
theorem kc41_gF1  {f : Nat → Option β} : (xgF tC 3 1 (41) S).bind f = f (43) := by rw [qb_gF (kc41_k), kc41_r1]
theorem kc42_k  : tC.1 (42) = 16 := by rfl
theorem kc42_l  : tC.2.1 (42) = 20 := by rfl
theorem kc42_ql  {i : Nat} {f : Nat → Option β} (hi : i < 20) : (xql tC (42) (nI i) S).bind f = f (sv i 0) := by rw [qb_ql (kc42_k) (by rw [kc42_l]; exact qin_nI hi (by decide)), nI_clamp (by omega)]; rfl
theorem kc43_k  : tC.1 (43) = 13 := by rfl
theorem kc43_l  : tC.2.1 (43) = 240 := by rfl
theorem kc43_al  {f : Int32 → Option β} (hi : qin x 240) : (xal tC (43) x S).bind f = f (S.1 (43) x.toNatClampNeg) := qb_al (kc43_k) (by rw [kc43_l]; exact hi)
theorem kc43_as  {f : xSt → Option β} (hi : qin x 240) : (xas tC (43) x v S).bind f = f (xuI S (43) x.toNatClampNeg v) := qb_as (kc43_k) (by rw [kc43_l]; exact hi)
theorem kc43_ln  {f : Int32 → Option β} : (xlen tC (43)).bind f = f (nI 240) := by rw [qb_len13 (kc43_k), kc43_l]
theorem kc148_k  : tC.1 (148) = 0 := by rfl
theorem kc148_gd  {A B : Option β} : (if tC.1 (148) = 0 then A else B) = A := if_pos (kc148_k)
theorem kc148_gI  {f : Int32 → Option β} : (xgI tC 0 j (148) S).bind f = f (S.1 (148) j) := qb_gI (kc148_k)
theorem kc148_gM  {f : Nat → Option β} : (xgM tC 0 j (148) S).bind f = f (S.2.2 (148) j) := qb_gM (kc148_k)
theorem kc148_pI  {f : xSt → Option β} : (xpI tC 0 j (148) v S).bind f = f (xuI S (148) j v) := qb_pI (kc148_k)
theorem kc148_pM  {f : xSt → Option β} : (xpM tC 0 j (148) r S).bind f = f (xuR S (148) j r) := qb_pM (kc148_k)
theorem kc148_pZ  {f : xSt → Option β} (hz : v = 0 ∨ v = 1) : (xpZ tC 0 j (148) v S).bind f = f (xuI S (148) j v) := qb_pZ (kc148_k) hz
theorem kc148_r0  : tC.2.2.1 (148) 0 = yd 0 0 := by rfl
theorem kc148_gF0  {f : Nat → Option β} : (xgF tC 0 0 (148) S).bind f = f (yd 0 0) := by rw [qb_gF (kc148_k), kc148_r0]
theorem kc148_r1  : tC.2.2.1 (148) 1 = yd 1 0 := by rfl
theorem kc148_gF1  {f : Nat → Option β} : (xgF tC 0 1 (148) S).bind f = f (yd 1 0) := by rw [qb_gF (kc148_k), kc148_r1]
theorem kc148_r2  : tC.2.2.1 (148) 2 = sh 1 0 := by rfl
theorem kc148_gF2  {f : Nat → Option β} : (xgF tC 0 2 (148) S).bind f = f (sh 1 0) := by rw [qb_gF (kc148_k), kc148_r2]
theorem kc148_r4  : tC.2.2.1 (148) 4 = 154 := by rfl
theorem kc148_gF4  {f : Nat → Option β} : (xgF tC 0 4 (148) S).bind f = f (154) := by rw [qb_gF (kc148_k), kc148_r4]
theorem kc148_r5  : tC.2.2.1 (148) 5 = 155 := by rfl
theorem kc148_gF5  {f : Nat → Option β} : (xgF tC 0 5 (148) S).bind f = f (155) := by rw [qb_gF (kc148_k), kc148_r5]
theorem kc154_k  : tC.1 (154) = 13 := by rfl
theorem kc154_l  : tC.2.1 (154) = 6 := by rfl
theorem kc154_al  {f : Int32 → Option β} (hi : qin x 6) : (xal tC (154) x S).bind f = f (S.1 (154) x.toNatClampNeg) := qb_al (kc154_k) (by rw [kc154_l]; exact hi)
theorem kc154_as  {f : xSt → Option β} (hi : qin x 6) : (xas tC (154) x v S).bind f = f (xuI S (154) x.toNatClampNeg v) := qb_as (kc154_k) (by rw [kc154_l]; exact hi)
theorem kc154_ln  {f : Int32 → Option β} : (xlen tC (154)).bind f = f (nI 6) := by rw [qb_len13 (kc154_k), kc154_l]
theorem kc155_k  : tC.1 (155) = 13 := by rfl
theorem kc155_l  : tC.2.1 (155) = 6 := by rfl
theorem kc155_al  {f : Int32 → Option β} (hi : qin x 6) : (xal tC (155) x S).bind f = f (S.1 (155) x.toNatClampNeg) := qb_al (kc155_k) (by rw [kc155_l]; exact hi)
theorem kc155_as  {f : xSt → Option β} (hi : qin x 6) : (xas tC (155) x v S).bind f = f (xuI S (155) x.toNatClampNeg v) := qb_as (kc155_k) (by rw [kc155_l]; exact hi)
theorem kc155_ln  {f : Int32 → Option β} : (xlen tC (155)).bind f = f (nI 6) := by rw [qb_len13 (kc155_k), kc155_l]
theorem kc160_k  : tC.1 (160) = 7 := by rfl
theorem kc160_gd  {A B : Option β} : (if tC.1 (160) = 7 then A else B) = A := if_pos (kc160_k)
theorem kc160_gI  {f : Int32 → Option β} : (xgI tC 7 j (160) S).bind f = f (S.1 (160) j) := qb_gI (kc160_k)
theorem kc160_gM  {f : Nat → Option β} : (xgM tC 7 j (160) S).bind f = f (S.2.2 (160) j) := qb_gM (kc160_k)
theorem kc160_pI  {f : xSt → Option β} : (xpI tC 7 j (160) v S).bind f = f (xuI S (160) j v) := qb_pI (kc160_k)
theorem kc160_pM  {f : xSt → Option β} : (xpM tC 7 j (160) r S).bind f = f (xuR S (160) j r) := qb_pM (kc160_k)
theorem kc160_pZ  {f : xSt → Option β} (hz : v = 0 ∨ v = 1) : (xpZ tC 7 j (160) v S).bind f = f (xuI S (160) j v) := qb_pZ (kc160_k) hz
theorem kc160_r0  : tC.2.2.1 (160) 0 = 1 := by rfl
theorem kc160_gF0  {f : Nat → Option β} : (xgF tC 7 0 (160) S).bind f = f (1) := by rw [qb_gF (kc160_k), kc160_r0]
theorem kc160_r1  : tC.2.2.1 (160) 1 = 161 := by rfl
theorem kc160_gF1  {f : Nat → Option β} : (xgF tC 7 1 (160) S).bind f = f (161) := by rw [qb_gF (kc160_k), kc160_r1]
theorem kc161_k  : tC.1 (161) = 13 := by rfl
theorem kc161_l  : tC.2.1 (161) = 32 := by rfl
theorem kc161_al  {f : Int32 → Option β} (hi : qin x 32) : (xal tC (161) x S).bind f = f (S.1 (161) x.toNatClampNeg) := qb_al (kc161_k) (by rw [kc161_l]; exact hi)
theorem kc161_as  {f : xSt → Option β} (hi : qin x 32) : (xas tC (161) x v S).bind f = f (xuI S (161) x.toNatClampNeg v) := qb_as (kc161_k) (by rw [kc161_l]; exact hi)
theorem kc161_ln  {f : Int32 → Option β} : (xlen tC (161)).bind f = f (nI 32) := by rw [qb_len13 (kc161_k), kc161_l]
theorem kc162_k  : tC.1 (162) = 10 := by rfl
theorem kc162_gd  {A B : Option β} : (if tC.1 (162) = 10 then A else B) = A := if_pos (kc162_k)
theorem kc162_gI  {f : Int32 → Option β} : (xgI tC 10 j (162) S).bind f = f (S.1 (162) j) := qb_gI (kc162_k)
theorem kc162_gM  {f : Nat → Option β} : (xgM tC 10 j (162) S).bind f = f (S.2.2 (162) j) := qb_gM (kc162_k)
theorem kc162_pI  {f : xSt → Option β} : (xpI tC 10 j (162) v S).bind f = f (xuI S (162) j v) := qb_pI (kc162_k)
theorem kc162_pM  {f : xSt → Option β} : (xpM tC 10 j (162) r S).bind f = f (xuR S (162) j r) := qb_pM (kc162_k)
theorem kc162_pZ  {f : xSt → Option β} (hz : v = 0 ∨ v = 1) : (xpZ tC 10 j (162) v S).bind f = f (xuI S (162) j v) := qb_pZ (kc162_k) hz
theorem kc162_r0  : tC.2.2.1 (162) 0 = 160 := by rfl
theorem kc162_gF0  {f : Nat → Option β} : (xgF tC 10 0 (162) S).bind f = f (160) := by rw [qb_gF (kc162_k), kc162_r0]
theorem kc162_r1  : tC.2.2.1 (162) 1 = 163 := by rfl
theorem kc162_gF1  {f : Nat → Option β} : (xgF tC 10 1 (162) S).bind f = f (163) := by rw [qb_gF (kc162_k), kc162_r1]
theorem kc163_k  : tC.1 (163) = 5 := by rfl
theorem kc163_gd  {A B : Option β} : (if tC.1 (163) = 5 then A else B) = A := if_pos (kc163_k)
theorem kc163_gI  {f : Int32 → Option β} : (xgI tC 5 j (163) S).bind f = f (S.1 (163) j) := qb_gI (kc163_k)
theorem kc163_gM  {f : Nat → Option β} : (xgM tC 5 j (163) S).bind f = f (S.2.2 (163) j) := qb_gM (kc163_k)
theorem kc163_pI  {f : xSt → Option β} : (xpI tC 5 j (163) v S).bind f = f (xuI S (163) j v) := qb_pI (kc163_k)
theorem kc163_pM  {f : xSt → Option β} : (xpM tC 5 j (163) r S).bind f = f (xuR S (163) j r) := qb_pM (kc163_k)
theorem kc163_pZ  {f : xSt → Option β} (hz : v = 0 ∨ v = 1) : (xpZ tC 5 j (163) v S).bind f = f (xuI S (163) j v) := qb_pZ (kc163_k) hz
theorem kc163_r0  : tC.2.2.1 (163) 0 = 160 := by rfl
theorem kc163_gF0  {f : Nat → Option β} : (xgF tC 5 0 (163) S).bind f = f (160) := by rw [qb_gF (kc163_k), kc163_r0]
theorem kc164_k  : tC.1 (164) = 2 := by rfl
theorem kc164_gd  {A B : Option β} : (if tC.1 (164) = 2 then A else B) = A := if_pos (kc164_k)
theorem kc164_gI  {f : Int32 → Option β} : (xgI tC 2 j (164) S).bind f = f (S.1 (164) j) := qb_gI (kc164_k)
theorem kc164_gM  {f : Nat → Option β} : (xgM tC 2 j (164) S).bind f = f (S.2.2 (164) j) := qb_gM (kc164_k)
theorem kc164_pI  {f : xSt → Option β} : (xpI tC 2 j (164) v S).bind f = f (xuI S (164) j v) := qb_pI (kc164_k)
theorem kc164_pM  {f : xSt → Option β} : (xpM tC 2 j (164) r S).bind f = f (xuR S (164) j r) := qb_pM (kc164_k)
theorem kc164_pZ  {f : xSt → Option β} (hz : v = 0 ∨ v = 1) : (xpZ tC 2 j (164) v S).bind f = f (xuI S (164) j v) := qb_pZ (kc164_k) hz
theorem kc164_r0  : tC.2.2.1 (164) 0 = 165 := by rfl
theorem kc164_gF0  {f : Nat → Option β} : (xgF tC 2 0 (164) S).bind f = f (165) := by rw [qb_gF (kc164_k), kc164_r0]
theorem kc164_r1  : tC.2.2.1 (164) 1 = 166 := by rfl
theorem kc164_gF1  {f : Nat → Option β} : (xgF tC 2 1 (164) S).bind f = f (166) := by rw [qb_gF (kc164_k), kc164_r1]
theorem kc164_r2  : tC.2.2.1 (164) 2 = 167 := by rfl
theorem kc164_gF2  {f : Nat → Option β} : (xgF tC 2 2 (164) S).bind f = f (167) := by rw [qb_gF (kc164_k), kc164_r2]
theorem kc164_r3  : tC.2.2.1 (164) 3 = 168 := by rfl
theorem kc164_gF3  {f : Nat → Option β} : (xgF tC 2 3 (164) S).bind f = f (168) := by rw [qb_gF (kc164_k), kc164_r3]
theorem kc165_k  : tC.1 (165) = 13 := by rfl
theorem kc165_l  : tC.2.1 (165) = 6 := by rfl
theorem kc165_al  {f : Int32 → Option β} (hi : qin x 6) : (xal tC (165) x S).bind f = f (S.1 (165) x.toNatClampNeg) := qb_al (kc165_k) (by rw [kc165_l]; exact hi)
theorem kc165_as  {f : xSt → Option β} (hi : qin x 6) : (xas tC (165) x v S).bind f = f (xuI S (165) x.toNatClampNeg v) := qb_as (kc165_k) (by rw [kc165_l]; exact hi)
theorem kc165_ln  {f : Int32 → Option β} : (xlen tC (165)).bind f = f (nI 6) := by rw [qb_len13 (kc165_k), kc165_l]
theorem kc166_k  : tC.1 (166) = 13 := by rfl
theorem kc166_l  : tC.2.1 (166) = 6 := by rfl
theorem kc166_al  {f : Int32 → Option β} (hi : qin x 6) : (xal tC (166) x S).bind f = f (S.1 (166) x.toNatClampNeg) := qb_al (kc166_k) (by rw [kc166_l]; exact hi)
theorem kc166_as  {f : xSt → Option β} (hi : qin x 6) : (xas tC (166) x v S).bind f = f (xuI S (166) x.toNatClampNeg v) := qb_as (kc166_k) (by rw [kc166_l]; exact hi)
theorem kc166_ln  {f : Int32 → Option β} : (xlen tC (166)).bind f = f (nI 6) := by rw [qb_len13 (kc166_k), kc166_l]
theorem kc167_k  : tC.1 (167) = 13 := by rfl
theorem kc167_l  : tC.2.1 (167) = 6 := by rfl
theorem kc167_al  {f : Int32 → Option β} (hi : qin x 6) : (xal tC (167) x S).bind f = f (S.1 (167) x.toNatClampNeg) := qb_al (kc167_k) (by rw [kc167_l]; exact hi)
theorem kc167_as  {f : xSt → Option β} (hi : qin x 6) : (xas tC (167) x v S).bind f = f (xuI S (167) x.toNatClampNeg v) := qb_as (kc167_k) (by rw [kc167_l]; exact hi)
theorem kc167_ln  {f : Int32 → Option β} : (xlen tC (167)).bind f = f (nI 6) := by rw [qb_len13 (kc167_k), kc167_l]
theorem kc168_k  : tC.1 (168) = 13 := by rfl
theorem kc168_l  : tC.2.1 (168) = 6 := by rfl
theorem kc168_al  {f : Int32 → Option β} (hi : qin x 6) : (xal tC (168) x S).bind f = f (S.1 (168) x.toNatClampNeg) := qb_al (kc168_k) (by rw [kc168_l]; exact hi)
theorem kc168_as  {f : xSt → Option β} (hi : qin x 6) : (xas tC (168) x v S).bind f = f (xuI S (168) x.toNatClampNeg v) := qb_as (kc168_k) (by rw [kc168_l]; exact hi)
theorem kc168_ln  {f : Int32 → Option β} : (xlen tC (168)).bind f = f (nI 6) := by rw [qb_len13 (kc168_k), kc168_l]
theorem kc169_k  : tC.1 (169) = 4 := by rfl
theorem kc169_gd  {A B : Option β} : (if tC.1 (169) = 4 then A else B) = A := if_pos (kc169_k)
theorem kc169_gI  {f : Int32 → Option β} : (xgI tC 4 j (169) S).bind f = f (S.1 (169) j) := qb_gI (kc169_k)
theorem kc169_gM  {f : Nat → Option β} : (xgM tC 4 j (169) S).bind f = f (S.2.2 (169) j) := qb_gM (kc169_k)
theorem kc169_pI  {f : xSt → Option β} : (xpI tC 4 j (169) v S).bind f = f (xuI S (169) j v) := qb_pI (kc169_k)
theorem kc169_pM  {f : xSt → Option β} : (xpM tC 4 j (169) r S).bind f = f (xuR S (169) j r) := qb_pM (kc169_k)
theorem kc169_pZ  {f : xSt → Option β} (hz : v = 0 ∨ v = 1) : (xpZ tC 4 j (169) v S).bind f = f (xuI S (169) j v) := qb_pZ (kc169_k) hz
theorem kc169_r0  : tC.2.2.1 (169) 0 = 170 := by rfl
theorem kc169_gF0  {f : Nat → Option β} : (xgF tC 4 0 (169) S).bind f = f (170) := by rw [qb_gF (kc169_k), kc169_r0]
theorem kc169_r2  : tC.2.2.1 (169) 2 = 171 := by rfl
theorem kc169_gF2  {f : Nat → Option β} : (xgF tC 4 2 (169) S).bind f = f (171) := by rw [qb_gF (kc169_k), kc169_r2]
theorem kc170_k  : tC.1 (170) = 13 := by rfl
theorem kc170_l  : tC.2.1 (170) = 95 := by rfl
theorem kc170_al  {f : Int32 → Option β} (hi : qin x 95) : (xal tC (170) x S).bind f = f (S.1 (170) x.toNatClampNeg) := qb_al (kc170_k) (by rw [kc170_l]; exact hi)
theorem kc170_as  {f : xSt → Option β} (hi : qin x 95) : (xas tC (170) x v S).bind f = f (xuI S (170) x.toNatClampNeg v) := qb_as (kc170_k) (by rw [kc170_l]; exact hi)
theorem kc170_ln  {f : Int32 → Option β} : (xlen tC (170)).bind f = f (nI 95) := by rw [qb_len13 (kc170_k), kc170_l]
theorem kc171_k  : tC.1 (171) = 8 := by rfl
theorem kc171_gd  {A B : Option β} : (if tC.1 (171) = 8 then A else B) = A := if_pos (kc171_k)
theorem kc171_gI  {f : Int32 → Option β} : (xgI tC 8 j (171) S).bind f = f (S.1 (171) j) := qb_gI (kc171_k)
theorem kc171_gM  {f : Nat → Option β} : (xgM tC 8 j (171) S).bind f = f (S.2.2 (171) j) := qb_gM (kc171_k)
theorem kc171_pI  {f : xSt → Option β} : (xpI tC 8 j (171) v S).bind f = f (xuI S (171) j v) := qb_pI (kc171_k)
theorem kc171_pM  {f : xSt → Option β} : (xpM tC 8 j (171) r S).bind f = f (xuR S (171) j r) := qb_pM (kc171_k)
theorem kc171_pZ  {f : xSt → Option β} (hz : v = 0 ∨ v = 1) : (xpZ tC 8 j (171) v S).bind f = f (xuI S (171) j v) := qb_pZ (kc171_k) hz
theorem kc171_r5  : tC.2.2.1 (171) 5 = 172 := by rfl
theorem kc171_gF5  {f : Nat → Option β} : (xgF tC 8 5 (171) S).bind f = f (172) := by rw [qb_gF (kc171_k), kc171_r5]
theorem kc171_r6  : tC.2.2.1 (171) 6 = 173 := by rfl
theorem kc171_gF6  {f : Nat → Option β} : (xgF tC 8 6 (171) S).bind f = f (173) := by rw [qb_gF (kc171_k), kc171_r6]
theorem kc171_r7  : tC.2.2.1 (171) 7 = 174 := by rfl
theorem kc171_gF7  {f : Nat → Option β} : (xgF tC 8 7 (171) S).bind f = f (174) := by rw [qb_gF (kc171_k), kc171_r7]
theorem kc171_r8  : tC.2.2.1 (171) 8 = 175 := by rfl
theorem kc171_gF8  {f : Nat → Option β} : (xgF tC 8 8 (171) S).bind f = f (175) := by rw [qb_gF (kc171_k), kc171_r8]
theorem kc172_k  : tC.1 (172) = 13 := by rfl
theorem kc172_l  : tC.2.1 (172) = 8 := by rfl
theorem kc172_al  {f : Int32 → Option β} (hi : qin x 8) : (xal tC (172) x S).bind f = f (S.1 (172) x.toNatClampNeg) := qb_al (kc172_k) (by rw [kc172_l]; exact hi)
theorem kc172_as  {f : xSt → Option β} (hi : qin x 8) : (xas tC (172) x v S).bind f = f (xuI S (172) x.toNatClampNeg v) := qb_as (kc172_k) (by rw [kc172_l]; exact hi)
theorem kc172_ln  {f : Int32 → Option β} : (xlen tC (172)).bind f = f (nI 8) := by rw [qb_len13 (kc172_k), kc172_l]
theorem kc173_k  : tC.1 (173) = 13 := by rfl
theorem kc173_l  : tC.2.1 (173) = 48 := by rfl
theorem kc173_al  {f : Int32 → Option β} (hi : qin x 48) : (xal tC (173) x S).bind f = f (S.1 (173) x.toNatClampNeg) := qb_al (kc173_k) (by rw [kc173_l]; exact hi)
theorem kc173_as  {f : xSt → Option β} (hi : qin x 48) : (xas tC (173) x v S).bind f = f (xuI S (173) x.toNatClampNeg v) := qb_as (kc173_k) (by rw [kc173_l]; exact hi)
theorem kc173_ln  {f : Int32 → Option β} : (xlen tC (173)).bind f = f (nI 48) := by rw [qb_len13 (kc173_k), kc173_l]
theorem kc174_k  : tC.1 (174) = 13 := by rfl
theorem kc174_l  : tC.2.1 (174) = 6 := by rfl
theorem kc174_al  {f : Int32 → Option β} (hi : qin x 6) : (xal tC (174) x S).bind f = f (S.1 (174) x.toNatClampNeg) := qb_al (kc174_k) (by rw [kc174_l]; exact hi)
theorem kc174_as  {f : xSt → Option β} (hi : qin x 6) : (xas tC (174) x v S).bind f = f (xuI S (174) x.toNatClampNeg v) := qb_as (kc174_k) (by rw [kc174_l]; exact hi)
theorem kc174_ln  {f : Int32 → Option β} : (xlen tC (174)).bind f = f (nI 6) := by rw [qb_len13 (kc174_k), kc174_l]
theorem kc175_k  : tC.1 (175) = 13 := by rfl
theorem kc175_l  : tC.2.1 (175) = 6 := by rfl
theorem kc175_al  {f : Int32 → Option β} (hi : qin x 6) : (xal tC (175) x S).bind f = f (S.1 (175) x.toNatClampNeg) := qb_al (kc175_k) (by rw [kc175_l]; exact hi)
theorem kc175_as  {f : xSt → Option β} (hi : qin x 6) : (xas tC (175) x v S).bind f = f (xuI S (175) x.toNatClampNeg v) := qb_as (kc175_k) (by rw [kc175_l]; exact hi)
theorem kc175_ln  {f : Int32 → Option β} : (xlen tC (175)).bind f = f (nI 6) := by rw [qb_len13 (kc175_k), kc175_l]
theorem kc176_k  : tC.1 (176) = 13 := by rfl
theorem kc176_l  : tC.2.1 (176) = 61 := by rfl
theorem kc176_al  {f : Int32 → Option β} (hi : qin x 61) : (xal tC (176) x S).bind f = f (S.1 (176) x.toNatClampNeg) := qb_al (kc176_k) (by rw [kc176_l]; exact hi)
theorem kc176_as  {f : xSt → Option β} (hi : qin x 61) : (xas tC (176) x v S).bind f = f (xuI S (176) x.toNatClampNeg v) := qb_as (kc176_k) (by rw [kc176_l]; exact hi)
theorem kc176_ln  {f : Int32 → Option β} : (xlen tC (176)).bind f = f (nI 61) := by rw [qb_len13 (kc176_k), kc176_l]
theorem kc177_k  : tC.1 (177) = 13 := by rfl
theorem kc177_l  : tC.2.1 (177) = 6 := by rfl
theorem kc177_al  {f : Int32 → Option β} (hi : qin x 6) : (xal tC (177) x S).bind f = f (S.1 (177) x.toNatClampNeg) := qb_al (kc177_k) (by rw [kc177_l]; exact hi)
theorem kc177_as  {f : xSt → Option β} (hi : qin x 6) : (xas tC (177) x v S).bind f = f (xuI S (177) x.toNatClampNeg v) := qb_as (kc177_k) (by rw [kc177_l]; exact hi)
theorem kc177_ln  {f : Int32 → Option β} : (xlen tC (177)).bind f = f (nI 6) := by rw [qb_len13 (kc177_k), kc177_l]
theorem km0_k  : tM.1 (0) = 12 := by rfl
theorem km0_gd  {A B : Option β} : (if tM.1 (0) = 12 then A else B) = A := if_pos (km0_k)
theorem km0_gI  {f : Int32 → Option β} : (xgI tM 12 j (0) S).bind f = f (S.1 (0) j) := qb_gI (km0_k)
theorem km0_gM  {f : Nat → Option β} : (xgM tM 12 j (0) S).bind f = f (S.2.2 (0) j) := qb_gM (km0_k)
theorem km0_pI  {f : xSt → Option β} : (xpI tM 12 j (0) v S).bind f = f (xuI S (0) j v) := qb_pI (km0_k)
theorem km0_pM  {f : xSt → Option β} : (xpM tM 12 j (0) r S).bind f = f (xuR S (0) j r) := qb_pM (km0_k)
theorem km0_pZ  {f : xSt → Option β} (hz : v = 0 ∨ v = 1) : (xpZ tM 12 j (0) v S).bind f = f (xuI S (0) j v) := qb_pZ (km0_k) hz
theorem km0_gL  {f : Int64 → Option β} : (xgL tM 12 j (0) S).bind f = f (S.2.1 (0) j) := qb_gL (km0_k)
theorem km0_pL  {v : Int64} {f : xSt → Option β} : (xpL tM 12 j (0) v S).bind f = f (xuL S (0) j v) := qb_pL (km0_k)
theorem km0_r0  : tM.2.2.1 (0) 0 = 1 := by rfl
theorem km0_gF0  {f : Nat → Option β} : (xgF tM 12 0 (0) S).bind f = f (1) := by rw [qb_gF (km0_k), km0_r0]
theorem km0_r14  : tM.2.2.1 (0) 14 = 2 := by rfl
theorem km0_gF14  {f : Nat → Option β} : (xgF tM 12 14 (0) S).bind f = f (2) := by rw [qb_gF (km0_k), km0_r14]
theorem km0_r15  : tM.2.2.1 (0) 15 = 3 := by rfl
theorem km0_gF15  {f : Nat → Option β} : (xgF tM 12 15 (0) S).bind f = f (3) := by rw [qb_gF (km0_k), km0_r15]
theorem km0_r16  : tM.2.2.1 (0) 16 = 4 := by rfl
theorem km0_gF16  {f : Nat → Option β} : (xgF tM 12 16 (0) S).bind f = f (4) := by rw [qb_gF (km0_k), km0_r16]
theorem km0_r17  : tM.2.2.1 (0) 17 = 5 := by rfl
theorem km0_gF17  {f : Nat → Option β} : (xgF tM 12 17 (0) S).bind f = f (5) := by rw [qb_gF (km0_k), km0_r17]
theorem km0_r18  : tM.2.2.1 (0) 18 = 6 := by rfl
theorem km0_gF18  {f : Nat → Option β} : (xgF tM 12 18 (0) S).bind f = f (6) := by rw [qb_gF (km0_k), km0_r18]
theorem km0_r19  : tM.2.2.1 (0) 19 = 7 := by rfl
theorem km0_gF19  {f : Nat → Option β} : (xgF tM 12 19 (0) S).bind f = f (7) := by rw [qb_gF (km0_k), km0_r19]
theorem km0_r20  : tM.2.2.1 (0) 20 = 8 := by rfl
theorem km0_gF20  {f : Nat → Option β} : (xgF tM 12 20 (0) S).bind f = f (8) := by rw [qb_gF (km0_k), km0_r20]
theorem km0_r21  : tM.2.2.1 (0) 21 = 9 := by rfl
theorem km0_gF21  {f : Nat → Option β} : (xgF tM 12 21 (0) S).bind f = f (9) := by rw [qb_gF (km0_k), km0_r21]
theorem km0_r22  : tM.2.2.1 (0) 22 = 10 := by rfl
theorem km0_gF22  {f : Nat → Option β} : (xgF tM 12 22 (0) S).bind f = f (10) := by rw [qb_gF (km0_k), km0_r22]
theorem km0_r23  : tM.2.2.1 (0) 23 = 11 := by rfl
theorem km0_gF23  {f : Nat → Option β} : (xgF tM 12 23 (0) S).bind f = f (11) := by rw [qb_gF (km0_k), km0_r23]
theorem km0_r24  : tM.2.2.1 (0) 24 = 12 := by rfl
theorem km0_gF24  {f : Nat → Option β} : (xgF tM 12 24 (0) S).bind f = f (12) := by rw [qb_gF (km0_k), km0_r24]
theorem km0_r25  : tM.2.2.1 (0) 25 = 13 := by rfl
theorem km0_gF25  {f : Nat → Option β} : (xgF tM 12 25 (0) S).bind f = f (13) := by rw [qb_gF (km0_k), km0_r25]
theorem km0_r26  : tM.2.2.1 (0) 26 = 14 := by rfl
theorem km0_gF26  {f : Nat → Option β} : (xgF tM 12 26 (0) S).bind f = f (14) := by rw [qb_gF (km0_k), km0_r26]
theorem km0_r27  : tM.2.2.1 (0) 27 = 15 := by rfl
theorem km0_gF27  {f : Nat → Option β} : (xgF tM 12 27 (0) S).bind f = f (15) := by rw [qb_gF (km0_k), km0_r27]
theorem km0_r28  : tM.2.2.1 (0) 28 = 16 := by rfl
theorem km0_gF28  {f : Nat → Option β} : (xgF tM 12 28 (0) S).bind f = f (16) := by rw [qb_gF (km0_k), km0_r28]
theorem km0_r29  : tM.2.2.1 (0) 29 = 17 := by rfl
theorem km0_gF29  {f : Nat → Option β} : (xgF tM 12 29 (0) S).bind f = f (17) := by rw [qb_gF (km0_k), km0_r29]
theorem km0_r30  : tM.2.2.1 (0) 30 = 18 := by rfl
theorem km0_gF30  {f : Nat → Option β} : (xgF tM 12 30 (0) S).bind f = f (18) := by rw [qb_gF (km0_k), km0_r30]
theorem km0_r31  : tM.2.2.1 (0) 31 = 19 := by rfl
theorem km0_gF31  {f : Nat → Option β} : (xgF tM 12 31 (0) S).bind f = f (19) := by rw [qb_gF (km0_k), km0_r31]
theorem km0_r32  : tM.2.2.1 (0) 32 = 20 := by rfl
theorem km0_gF32  {f : Nat → Option β} : (xgF tM 12 32 (0) S).bind f = f (20) := by rw [qb_gF (km0_k), km0_r32]
theorem km0_r33  : tM.2.2.1 (0) 33 = 21 := by rfl
theorem km0_gF33  {f : Nat → Option β} : (xgF tM 12 33 (0) S).bind f = f (21) := by rw [qb_gF (km0_k), km0_r33]
theorem km0_r34  : tM.2.2.1 (0) 34 = 22 := by rfl
theorem km0_gF34  {f : Nat → Option β} : (xgF tM 12 34 (0) S).bind f = f (22) := by rw [qb_gF (km0_k), km0_r34]
theorem km0_r35  : tM.2.2.1 (0) 35 = 23 := by rfl
theorem km0_gF35  {f : Nat → Option β} : (xgF tM 12 35 (0) S).bind f = f (23) := by rw [qb_gF (km0_k), km0_r35]
theorem km0_r36  : tM.2.2.1 (0) 36 = 24 := by rfl
theorem km0_gF36  {f : Nat → Option β} : (xgF tM 12 36 (0) S).bind f = f (24) := by rw [qb_gF (km0_k), km0_r36]
theorem km0_r37  : tM.2.2.1 (0) 37 = 25 := by rfl
theorem km0_gF37  {f : Nat → Option β} : (xgF tM 12 37 (0) S).bind f = f (25) := by rw [qb_gF (km0_k), km0_r37]
theorem km0_r38  : tM.2.2.1 (0) 38 = 26 := by rfl
theorem km0_gF38  {f : Nat → Option β} : (xgF tM 12 38 (0) S).bind f = f (26) := by rw [qb_gF (km0_k), km0_r38]
theorem km0_r42  : tM.2.2.1 (0) 42 = 27 := by rfl
theorem km0_gF42  {f : Nat → Option β} : (xgF tM 12 42 (0) S).bind f = f (27) := by rw [qb_gF (km0_k), km0_r42]
theorem km0_r43  : tM.2.2.1 (0) 43 = 28 := by rfl
theorem km0_gF43  {f : Nat → Option β} : (xgF tM 12 43 (0) S).bind f = f (28) := by rw [qb_gF (km0_k), km0_r43]
theorem km0_r44  : tM.2.2.1 (0) 44 = 29 := by rfl
theorem km0_gF44  {f : Nat → Option β} : (xgF tM 12 44 (0) S).bind f = f (29) := by rw [qb_gF (km0_k), km0_r44]
theorem km0_r45  : tM.2.2.1 (0) 45 = 30 := by rfl
theorem km0_gF45  {f : Nat → Option β} : (xgF tM 12 45 (0) S).bind f = f (30) := by rw [qb_gF (km0_k), km0_r45]
theorem km0_r46  : tM.2.2.1 (0) 46 = 31 := by rfl
theorem km0_gF46  {f : Nat → Option β} : (xgF tM 12 46 (0) S).bind f = f (31) := by rw [qb_gF (km0_k), km0_r46]
theorem km0_r49  : tM.2.2.1 (0) 49 = 32 := by rfl
theorem km0_gF49  {f : Nat → Option β} : (xgF tM 12 49 (0) S).bind f = f (32) := by rw [qb_gF (km0_k), km0_r49]
theorem km0_r53  : tM.2.2.1 (0) 53 = 33 := by rfl
theorem km0_gF53  {f : Nat → Option β} : (xgF tM 12 53 (0) S).bind f = f (33) := by rw [qb_gF (km0_k), km0_r53]
theorem km0_r54  : tM.2.2.1 (0) 54 = 34 := by rfl
theorem km0_gF54  {f : Nat → Option β} : (xgF tM 12 54 (0) S).bind f = f (34) := by rw [qb_gF (km0_k), km0_r54]
theorem km0_r55  : tM.2.2.1 (0) 55 = 35 := by rfl
theorem km0_gF55  {f : Nat → Option β} : (xgF tM 12 55 (0) S).bind f = f (35) := by rw [qb_gF (km0_k), km0_r55]
theorem km0_r56  : tM.2.2.1 (0) 56 = 36 := by rfl
theorem km0_gF56  {f : Nat → Option β} : (xgF tM 12 56 (0) S).bind f = f (36) := by rw [qb_gF (km0_k), km0_r56]
theorem km0_r57  : tM.2.2.1 (0) 57 = 37 := by rfl
theorem km0_gF57  {f : Nat → Option β} : (xgF tM 12 57 (0) S).bind f = f (37) := by rw [qb_gF (km0_k), km0_r57]
theorem km0_r58  : tM.2.2.1 (0) 58 = 38 := by rfl
theorem km0_gF58  {f : Nat → Option β} : (xgF tM 12 58 (0) S).bind f = f (38) := by rw [qb_gF (km0_k), km0_r58]
theorem km0_r59  : tM.2.2.1 (0) 59 = 39 := by rfl
theorem km0_gF59  {f : Nat → Option β} : (xgF tM 12 59 (0) S).bind f = f (39) := by rw [qb_gF (km0_k), km0_r59]
theorem km0_r60  : tM.2.2.1 (0) 60 = 40 := by rfl
theorem km0_gF60  {f : Nat → Option β} : (xgF tM 12 60 (0) S).bind f = f (40) := by rw [qb_gF (km0_k), km0_r60]
theorem km0_r61  : tM.2.2.1 (0) 61 = 41 := by rfl
theorem km0_gF61  {f : Nat → Option β} : (xgF tM 12 61 (0) S).bind f = f (41) := by rw [qb_gF (km0_k), km0_r61]
theorem km0_r62  : tM.2.2.1 (0) 62 = 42 := by rfl
theorem km0_gF62  {f : Nat → Option β} : (xgF tM 12 62 (0) S).bind f = f (42) := by rw [qb_gF (km0_k), km0_r62]
theorem km0_r63  : tM.2.2.1 (0) 63 = 43 := by rfl
theorem km0_gF63  {f : Nat → Option β} : (xgF tM 12 63 (0) S).bind f = f (43) := by rw [qb_gF (km0_k), km0_r63]
theorem km0_r67  : tM.2.2.1 (0) 67 = 44 := by rfl
theorem km0_gF67  {f : Nat → Option β} : (xgF tM 12 67 (0) S).bind f = f (44) := by rw [qb_gF (km0_k), km0_r67]
theorem km0_r68  : tM.2.2.1 (0) 68 = 45 := by rfl
theorem km0_gF68  {f : Nat → Option β} : (xgF tM 12 68 (0) S).bind f = f (45) := by rw [qb_gF (km0_k), km0_r68]
theorem km0_r72  : tM.2.2.1 (0) 72 = 46 := by rfl
theorem km0_gF72  {f : Nat → Option β} : (xgF tM 12 72 (0) S).bind f = f (46) := by rw [qb_gF (km0_k), km0_r72]
theorem km0_r76  : tM.2.2.1 (0) 76 = 47 := by rfl
theorem km0_gF76  {f : Nat → Option β} : (xgF tM 12 76 (0) S).bind f = f (47) := by rw [qb_gF (km0_k), km0_r76]
theorem km0_r77  : tM.2.2.1 (0) 77 = 48 := by rfl
theorem km0_gF77  {f : Nat → Option β} : (xgF tM 12 77 (0) S).bind f = f (48) := by rw [qb_gF (km0_k), km0_r77]
theorem km0_r78  : tM.2.2.1 (0) 78 = 49 := by rfl
theorem km0_gF78  {f : Nat → Option β} : (xgF tM 12 78 (0) S).bind f = f (49) := by rw [qb_gF (km0_k), km0_r78]
theorem km0_r79  : tM.2.2.1 (0) 79 = 50 := by rfl
theorem km0_gF79  {f : Nat → Option β} : (xgF tM 12 79 (0) S).bind f = f (50) := by rw [qb_gF (km0_k), km0_r79]
theorem km0_r80  : tM.2.2.1 (0) 80 = 51 := by rfl
theorem km0_gF80  {f : Nat → Option β} : (xgF tM 12 80 (0) S).bind f = f (51) := by rw [qb_gF (km0_k), km0_r80]
theorem km0_r81  : tM.2.2.1 (0) 81 = 52 := by rfl
theorem km0_gF81  {f : Nat → Option β} : (xgF tM 12 81 (0) S).bind f = f (52) := by rw [qb_gF (km0_k), km0_r81]
theorem km0_r82  : tM.2.2.1 (0) 82 = 53 := by rfl
theorem km0_gF82  {f : Nat → Option β} : (xgF tM 12 82 (0) S).bind f = f (53) := by rw [qb_gF (km0_k), km0_r82]
theorem km0_r84  : tM.2.2.1 (0) 84 = 54 := by rfl
theorem km0_gF84  {f : Nat → Option β} : (xgF tM 12 84 (0) S).bind f = f (54) := by rw [qb_gF (km0_k), km0_r84]
theorem km0_r85  : tM.2.2.1 (0) 85 = 55 := by rfl
theorem km0_gF85  {f : Nat → Option β} : (xgF tM 12 85 (0) S).bind f = f (55) := by rw [qb_gF (km0_k), km0_r85]
theorem km1_k  : tM.1 (1) = 13 := by rfl
theorem km1_l  : tM.2.1 (1) = 1800 := by rfl
theorem km1_al  {f : Int32 → Option β} (hi : qin x 1800) : (xal tM (1) x S).bind f = f (S.1 (1) x.toNatClampNeg) := qb_al (km1_k) (by rw [km1_l]; exact hi)
theorem km1_as  {f : xSt → Option β} (hi : qin x 1800) : (xas tM (1) x v S).bind f = f (xuI S (1) x.toNatClampNeg v) := qb_as (km1_k) (by rw [km1_l]; exact hi)
theorem km1_ln  {f : Int32 → Option β} : (xlen tM (1)).bind f = f (nI 1800) := by rw [qb_len13 (km1_k), km1_l]
theorem km2_k  : tM.1 (2) = 13 := by rfl
theorem km2_l  : tM.2.1 (2) = 2 := by rfl
theorem km2_al  {f : Int32 → Option β} (hi : qin x 2) : (xal tM (2) x S).bind f = f (S.1 (2) x.toNatClampNeg) := qb_al (km2_k) (by rw [km2_l]; exact hi)
theorem km2_as  {f : xSt → Option β} (hi : qin x 2) : (xas tM (2) x v S).bind f = f (xuI S (2) x.toNatClampNeg v) := qb_as (km2_k) (by rw [km2_l]; exact hi)
theorem km2_ln  {f : Int32 → Option β} : (xlen tM (2)).bind f = f (nI 2) := by rw [qb_len13 (km2_k), km2_l]
theorem km3_k  : tM.1 (3) = 13 := by rfl
theorem km3_l  : tM.2.1 (3) = 12 := by rfl
theorem km3_al  {f : Int32 → Option β} (hi : qin x 12) : (xal tM (3) x S).bind f = f (S.1 (3) x.toNatClampNeg) := qb_al (km3_k) (by rw [km3_l]; exact hi)
theorem km3_as  {f : xSt → Option β} (hi : qin x 12) : (xas tM (3) x v S).bind f = f (xuI S (3) x.toNatClampNeg v) := qb_as (km3_k) (by rw [km3_l]; exact hi)
theorem km3_ln  {f : Int32 → Option β} : (xlen tM (3)).bind f = f (nI 12) := by rw [qb_len13 (km3_k), km3_l]
theorem km4_k  : tM.1 (4) = 13 := by rfl
theorem km4_l  : tM.2.1 (4) = 12 := by rfl
theorem km4_al  {f : Int32 → Option β} (hi : qin x 12) : (xal tM (4) x S).bind f = f (S.1 (4) x.toNatClampNeg) := qb_al (km4_k) (by rw [km4_l]; exact hi)
theorem km4_as  {f : xSt → Option β} (hi : qin x 12) : (xas tM (4) x v S).bind f = f (xuI S (4) x.toNatClampNeg v) := qb_as (km4_k) (by rw [km4_l]; exact hi)
theorem km4_ln  {f : Int32 → Option β} : (xlen tM (4)).bind f = f (nI 12) := by rw [qb_len13 (km4_k), km4_l]
theorem km5_k  : tM.1 (5) = 13 := by rfl
theorem km5_l  : tM.2.1 (5) = 2 := by rfl
theorem km5_al  {f : Int32 → Option β} (hi : qin x 2) : (xal tM (5) x S).bind f = f (S.1 (5) x.toNatClampNeg) := qb_al (km5_k) (by rw [km5_l]; exact hi)
theorem km5_as  {f : xSt → Option β} (hi : qin x 2) : (xas tM (5) x v S).bind f = f (xuI S (5) x.toNatClampNeg v) := qb_as (km5_k) (by rw [km5_l]; exact hi)
theorem km5_ln  {f : Int32 → Option β} : (xlen tM (5)).bind f = f (nI 2) := by rw [qb_len13 (km5_k), km5_l]
theorem km6_k  : tM.1 (6) = 13 := by rfl
theorem km6_l  : tM.2.1 (6) = 16 := by rfl
theorem km6_al  {f : Int32 → Option β} (hi : qin x 16) : (xal tM (6) x S).bind f = f (S.1 (6) x.toNatClampNeg) := qb_al (km6_k) (by rw [km6_l]; exact hi)
theorem km6_as  {f : xSt → Option β} (hi : qin x 16) : (xas tM (6) x v S).bind f = f (xuI S (6) x.toNatClampNeg v) := qb_as (km6_k) (by rw [km6_l]; exact hi)
theorem km6_ln  {f : Int32 → Option β} : (xlen tM (6)).bind f = f (nI 16) := by rw [qb_len13 (km6_k), km6_l]
theorem km7_k  : tM.1 (7) = 13 := by rfl
theorem km7_l  : tM.2.1 (7) = 16 := by rfl
theorem km7_al  {f : Int32 → Option β} (hi : qin x 16) : (xal tM (7) x S).bind f = f (S.1 (7) x.toNatClampNeg) := qb_al (km7_k) (by rw [km7_l]; exact hi)
theorem km7_as  {f : xSt → Option β} (hi : qin x 16) : (xas tM (7) x v S).bind f = f (xuI S (7) x.toNatClampNeg v) := qb_as (km7_k) (by rw [km7_l]; exact hi)
theorem km7_ln  {f : Int32 → Option β} : (xlen tM (7)).bind f = f (nI 16) := by rw [qb_len13 (km7_k), km7_l]
theorem km8_k  : tM.1 (8) = 13 := by rfl
theorem km8_l  : tM.2.1 (8) = 2 := by rfl
theorem km8_al  {f : Int32 → Option β} (hi : qin x 2) : (xal tM (8) x S).bind f = f (S.1 (8) x.toNatClampNeg) := qb_al (km8_k) (by rw [km8_l]; exact hi)
theorem km8_as  {f : xSt → Option β} (hi : qin x 2) : (xas tM (8) x v S).bind f = f (xuI S (8) x.toNatClampNeg v) := qb_as (km8_k) (by rw [km8_l]; exact hi)
theorem km8_ln  {f : Int32 → Option β} : (xlen tM (8)).bind f = f (nI 2) := by rw [qb_len13 (km8_k), km8_l]
theorem km9_k  : tM.1 (9) = 13 := by rfl
theorem km9_l  : tM.2.1 (9) = 96 := by rfl
theorem km9_al  {f : Int32 → Option β} (hi : qin x 96) : (xal tM (9) x S).bind f = f (S.1 (9) x.toNatClampNeg) := qb_al (km9_k) (by rw [km9_l]; exact hi)
theorem km9_as  {f : xSt → Option β} (hi : qin x 96) : (xas tM (9) x v S).bind f = f (xuI S (9) x.toNatClampNeg v) := qb_as (km9_k) (by rw [km9_l]; exact hi)
theorem km9_ln  {f : Int32 → Option β} : (xlen tM (9)).bind f = f (nI 96) := by rw [qb_len13 (km9_k), km9_l]
theorem km10_k  : tM.1 (10) = 13 := by rfl
theorem km10_l  : tM.2.1 (10) = 2 := by rfl
theorem km10_al  {f : Int32 → Option β} (hi : qin x 2) : (xal tM (10) x S).bind f = f (S.1 (10) x.toNatClampNeg) := qb_al (km10_k) (by rw [km10_l]; exact hi)
theorem km10_as  {f : xSt → Option β} (hi : qin x 2) : (xas tM (10) x v S).bind f = f (xuI S (10) x.toNatClampNeg v) := qb_as (km10_k) (by rw [km10_l]; exact hi)
theorem km10_ln  {f : Int32 → Option β} : (xlen tM (10)).bind f = f (nI 2) := by rw [qb_len13 (km10_k), km10_l]
theorem km11_k  : tM.1 (11) = 13 := by rfl
theorem km11_l  : tM.2.1 (11) = 12 := by rfl
theorem km11_al  {f : Int32 → Option β} (hi : qin x 12) : (xal tM (11) x S).bind f = f (S.1 (11) x.toNatClampNeg) := qb_al (km11_k) (by rw [km11_l]; exact hi)
theorem km11_as  {f : xSt → Option β} (hi : qin x 12) : (xas tM (11) x v S).bind f = f (xuI S (11) x.toNatClampNeg v) := qb_as (km11_k) (by rw [km11_l]; exact hi)
theorem km11_ln  {f : Int32 → Option β} : (xlen tM (11)).bind f = f (nI 12) := by rw [qb_len13 (km11_k), km11_l]
theorem km12_k  : tM.1 (12) = 13 := by rfl
theorem km12_l  : tM.2.1 (12) = 12 := by rfl
theorem km12_al  {f : Int32 → Option β} (hi : qin x 12) : (xal tM (12) x S).bind f = f (S.1 (12) x.toNatClampNeg) := qb_al (km12_k) (by rw [km12_l]; exact hi)
theorem km12_as  {f : xSt → Option β} (hi : qin x 12) : (xas tM (12) x v S).bind f = f (xuI S (12) x.toNatClampNeg v) := qb_as (km12_k) (by rw [km12_l]; exact hi)
theorem km12_ln  {f : Int32 → Option β} : (xlen tM (12)).bind f = f (nI 12) := by rw [qb_len13 (km12_k), km12_l]
theorem km13_k  : tM.1 (13) = 13 := by rfl
theorem km13_l  : tM.2.1 (13) = 48 := by rfl
theorem km13_al  {f : Int32 → Option β} (hi : qin x 48) : (xal tM (13) x S).bind f = f (S.1 (13) x.toNatClampNeg) := qb_al (km13_k) (by rw [km13_l]; exact hi)
theorem km13_as  {f : xSt → Option β} (hi : qin x 48) : (xas tM (13) x v S).bind f = f (xuI S (13) x.toNatClampNeg v) := qb_as (km13_k) (by rw [km13_l]; exact hi)
theorem km13_ln  {f : Int32 → Option β} : (xlen tM (13)).bind f = f (nI 48) := by rw [qb_len13 (km13_k), km13_l]
theorem km14_k  : tM.1 (14) = 13 := by rfl
theorem km14_l  : tM.2.1 (14) = 48 := by rfl
theorem km14_al  {f : Int32 → Option β} (hi : qin x 48) : (xal tM (14) x S).bind f = f (S.1 (14) x.toNatClampNeg) := qb_al (km14_k) (by rw [km14_l]; exact hi)
theorem km14_as  {f : xSt → Option β} (hi : qin x 48) : (xas tM (14) x v S).bind f = f (xuI S (14) x.toNatClampNeg v) := qb_as (km14_k) (by rw [km14_l]; exact hi)
theorem km14_ln  {f : Int32 → Option β} : (xlen tM (14)).bind f = f (nI 48) := by rw [qb_len13 (km14_k), km14_l]
theorem km15_k  : tM.1 (15) = 13 := by rfl
theorem km15_l  : tM.2.1 (15) = 72 := by rfl
theorem km15_al  {f : Int32 → Option β} (hi : qin x 72) : (xal tM (15) x S).bind f = f (S.1 (15) x.toNatClampNeg) := qb_al (km15_k) (by rw [km15_l]; exact hi)
theorem km15_as  {f : xSt → Option β} (hi : qin x 72) : (xas tM (15) x v S).bind f = f (xuI S (15) x.toNatClampNeg v) := qb_as (km15_k) (by rw [km15_l]; exact hi)
theorem km15_ln  {f : Int32 → Option β} : (xlen tM (15)).bind f = f (nI 72) := by rw [qb_len13 (km15_k), km15_l]
theorem km16_k  : tM.1 (16) = 13 := by rfl
theorem km16_l  : tM.2.1 (16) = 2 := by rfl
theorem km16_al  {f : Int32 → Option β} (hi : qin x 2) : (xal tM (16) x S).bind f = f (S.1 (16) x.toNatClampNeg) := qb_al (km16_k) (by rw [km16_l]; exact hi)
theorem km16_as  {f : xSt → Option β} (hi : qin x 2) : (xas tM (16) x v S).bind f = f (xuI S (16) x.toNatClampNeg v) := qb_as (km16_k) (by rw [km16_l]; exact hi)
theorem km16_ln  {f : Int32 → Option β} : (xlen tM (16)).bind f = f (nI 2) := by rw [qb_len13 (km16_k), km16_l]
theorem km17_k  : tM.1 (17) = 13 := by rfl
theorem km17_l  : tM.2.1 (17) = 2 := by rfl
theorem km17_al  {f : Int32 → Option β} (hi : qin x 2) : (xal tM (17) x S).bind f = f (S.1 (17) x.toNatClampNeg) := qb_al (km17_k) (by rw [km17_l]; exact hi)
theorem km17_as  {f : xSt → Option β} (hi : qin x 2) : (xas tM (17) x v S).bind f = f (xuI S (17) x.toNatClampNeg v) := qb_as (km17_k) (by rw [km17_l]; exact hi)
theorem km17_ln  {f : Int32 → Option β} : (xlen tM (17)).bind f = f (nI 2) := by rw [qb_len13 (km17_k), km17_l]
theorem km18_k  : tM.1 (18) = 13 := by rfl
theorem km18_l  : tM.2.1 (18) = 6 := by rfl
theorem km18_al  {f : Int32 → Option β} (hi : qin x 6) : (xal tM (18) x S).bind f = f (S.1 (18) x.toNatClampNeg) := qb_al (km18_k) (by rw [km18_l]; exact hi)
theorem km18_as  {f : xSt → Option β} (hi : qin x 6) : (xas tM (18) x v S).bind f = f (xuI S (18) x.toNatClampNeg v) := qb_as (km18_k) (by rw [km18_l]; exact hi)
theorem km18_ln  {f : Int32 → Option β} : (xlen tM (18)).bind f = f (nI 6) := by rw [qb_len13 (km18_k), km18_l]
theorem km19_k  : tM.1 (19) = 13 := by rfl
theorem km19_l  : tM.2.1 (19) = 4 := by rfl
theorem km19_al  {f : Int32 → Option β} (hi : qin x 4) : (xal tM (19) x S).bind f = f (S.1 (19) x.toNatClampNeg) := qb_al (km19_k) (by rw [km19_l]; exact hi)
theorem km19_as  {f : xSt → Option β} (hi : qin x 4) : (xas tM (19) x v S).bind f = f (xuI S (19) x.toNatClampNeg v) := qb_as (km19_k) (by rw [km19_l]; exact hi)
theorem km19_ln  {f : Int32 → Option β} : (xlen tM (19)).bind f = f (nI 4) := by rw [qb_len13 (km19_k), km19_l]
theorem km20_k  : tM.1 (20) = 13 := by rfl
theorem km20_l  : tM.2.1 (20) = 4 := by rfl
theorem km20_al  {f : Int32 → Option β} (hi : qin x 4) : (xal tM (20) x S).bind f = f (S.1 (20) x.toNatClampNeg) := qb_al (km20_k) (by rw [km20_l]; exact hi)
theorem km20_as  {f : xSt → Option β} (hi : qin x 4) : (xas tM (20) x v S).bind f = f (xuI S (20) x.toNatClampNeg v) := qb_as (km20_k) (by rw [km20_l]; exact hi)
theorem km20_ln  {f : Int32 → Option β} : (xlen tM (20)).bind f = f (nI 4) := by rw [qb_len13 (km20_k), km20_l]
theorem km21_k  : tM.1 (21) = 13 := by rfl
theorem km21_l  : tM.2.1 (21) = 3200 := by rfl
theorem km21_al  {f : Int32 → Option β} (hi : qin x 3200) : (xal tM (21) x S).bind f = f (S.1 (21) x.toNatClampNeg) := qb_al (km21_k) (by rw [km21_l]; exact hi)
theorem km21_as  {f : xSt → Option β} (hi : qin x 3200) : (xas tM (21) x v S).bind f = f (xuI S (21) x.toNatClampNeg v) := qb_as (km21_k) (by rw [km21_l]; exact hi)
theorem km21_ln  {f : Int32 → Option β} : (xlen tM (21)).bind f = f (nI 3200) := by rw [qb_len13 (km21_k), km21_l]
theorem km22_k  : tM.1 (22) = 13 := by rfl
theorem km22_l  : tM.2.1 (22) = 3200 := by rfl
theorem km22_al  {f : Int32 → Option β} (hi : qin x 3200) : (xal tM (22) x S).bind f = f (S.1 (22) x.toNatClampNeg) := qb_al (km22_k) (by rw [km22_l]; exact hi)
theorem km22_as  {f : xSt → Option β} (hi : qin x 3200) : (xas tM (22) x v S).bind f = f (xuI S (22) x.toNatClampNeg v) := qb_as (km22_k) (by rw [km22_l]; exact hi)
theorem km22_ln  {f : Int32 → Option β} : (xlen tM (22)).bind f = f (nI 3200) := by rw [qb_len13 (km22_k), km22_l]
theorem km23_k  : tM.1 (23) = 14 := by rfl
theorem km23_l  : tM.2.1 (23) = 12 := by rfl
theorem km23_ll  {f : Int64 → Option β} (hi : qin x 12) : (xll tM (23) x S).bind f = f (S.2.1 (23) x.toNatClampNeg) := qb_ll (km23_k) (by rw [km23_l]; exact hi)
theorem km23_ls  {v : Int64} {f : xSt → Option β} (hi : qin x 12) : (xls tM (23) x v S).bind f = f (xuL S (23) x.toNatClampNeg v) := qb_ls (km23_k) (by rw [km23_l]; exact hi)
theorem km24_k  : tM.1 (24) = 14 := by rfl
theorem km24_l  : tM.2.1 (24) = 16 := by rfl
theorem km24_ll  {f : Int64 → Option β} (hi : qin x 16) : (xll tM (24) x S).bind f = f (S.2.1 (24) x.toNatClampNeg) := qb_ll (km24_k) (by rw [km24_l]; exact hi)
theorem km24_ls  {v : Int64} {f : xSt → Option β} (hi : qin x 16) : (xls tM (24) x v S).bind f = f (xuL S (24) x.toNatClampNeg v) := qb_ls (km24_k) (by rw [km24_l]; exact hi)
theorem km25_k  : tM.1 (25) = 14 := by rfl
theorem km25_l  : tM.2.1 (25) = 12 := by rfl
theorem km25_ll  {f : Int64 → Option β} (hi : qin x 12) : (xll tM (25) x S).bind f = f (S.2.1 (25) x.toNatClampNeg) := qb_ll (km25_k) (by rw [km25_l]; exact hi)
theorem km25_ls  {v : Int64} {f : xSt → Option β} (hi : qin x 12) : (xls tM (25) x v S).bind f = f (xuL S (25) x.toNatClampNeg v) := qb_ls (km25_k) (by rw [km25_l]; exact hi)
theorem km26_k  : tM.1 (26) = 14 := by rfl
theorem km26_l  : tM.2.1 (26) = 12 := by rfl
theorem km26_ll  {f : Int64 → Option β} (hi : qin x 12) : (xll tM (26) x S).bind f = f (S.2.1 (26) x.toNatClampNeg) := qb_ll (km26_k) (by rw [km26_l]; exact hi)
theorem km26_ls  {v : Int64} {f : xSt → Option β} (hi : qin x 12) : (xls tM (26) x v S).bind f = f (xuL S (26) x.toNatClampNeg v) := qb_ls (km26_k) (by rw [km26_l]; exact hi)
theorem km27_k  : tM.1 (27) = 13 := by rfl
theorem km27_l  : tM.2.1 (27) = 20 := by rfl
theorem km27_al  {f : Int32 → Option β} (hi : qin x 20) : (xal tM (27) x S).bind f = f (S.1 (27) x.toNatClampNeg) := qb_al (km27_k) (by rw [km27_l]; exact hi)
theorem km27_as  {f : xSt → Option β} (hi : qin x 20) : (xas tM (27) x v S).bind f = f (xuI S (27) x.toNatClampNeg v) := qb_as (km27_k) (by rw [km27_l]; exact hi)
theorem km27_ln  {f : Int32 → Option β} : (xlen tM (27)).bind f = f (nI 20) := by rw [qb_len13 (km27_k), km27_l]
theorem km28_k  : tM.1 (28) = 13 := by rfl
theorem km28_l  : tM.2.1 (28) = 20 := by rfl
theorem km28_al  {f : Int32 → Option β} (hi : qin x 20) : (xal tM (28) x S).bind f = f (S.1 (28) x.toNatClampNeg) := qb_al (km28_k) (by rw [km28_l]; exact hi)
theorem km28_as  {f : xSt → Option β} (hi : qin x 20) : (xas tM (28) x v S).bind f = f (xuI S (28) x.toNatClampNeg v) := qb_as (km28_k) (by rw [km28_l]; exact hi)
theorem km28_ln  {f : Int32 → Option β} : (xlen tM (28)).bind f = f (nI 20) := by rw [qb_len13 (km28_k), km28_l]
theorem km29_k  : tM.1 (29) = 15 := by rfl
theorem km29_l  : tM.2.1 (29) = 20 := by rfl
theorem km29_zl  {f : Int32 → Option β} (hi : qin x 20) : (xzl tM (29) x S).bind f = f (S.1 (29) x.toNatClampNeg) := qb_zl (km29_k) (by rw [km29_l]; exact hi)
theorem km29_zs0  {f : xSt → Option β} (hi : qin x 20) : (xzs tM (29) x 0 S).bind f = f (xuI S (29) x.toNatClampNeg 0) := qb_zs0 (km29_k) (by rw [km29_l]; exact hi)
theorem km29_zs1  {f : xSt → Option β} (hi : qin x 20) : (xzs tM (29) x 1 S).bind f = f (xuI S (29) x.toNatClampNeg 1) := qb_zs1 (km29_k) (by rw [km29_l]; exact hi)
theorem km30_k  : tM.1 (30) = 13 := by rfl
theorem km30_l  : tM.2.1 (30) = 20 := by rfl
theorem km30_al  {f : Int32 → Option β} (hi : qin x 20) : (xal tM (30) x S).bind f = f (S.1 (30) x.toNatClampNeg) := qb_al (km30_k) (by rw [km30_l]; exact hi)
theorem km30_as  {f : xSt → Option β} (hi : qin x 20) : (xas tM (30) x v S).bind f = f (xuI S (30) x.toNatClampNeg v) := qb_as (km30_k) (by rw [km30_l]; exact hi)
theorem km30_ln  {f : Int32 → Option β} : (xlen tM (30)).bind f = f (nI 20) := by rw [qb_len13 (km30_k), km30_l]
theorem km31_k  : tM.1 (31) = 13 := by rfl
theorem km31_l  : tM.2.1 (31) = 20 := by rfl
theorem km31_al  {f : Int32 → Option β} (hi : qin x 20) : (xal tM (31) x S).bind f = f (S.1 (31) x.toNatClampNeg) := qb_al (km31_k) (by rw [km31_l]; exact hi)
theorem km31_as  {f : xSt → Option β} (hi : qin x 20) : (xas tM (31) x v S).bind f = f (xuI S (31) x.toNatClampNeg v) := qb_as (km31_k) (by rw [km31_l]; exact hi)
theorem km31_ln  {f : Int32 → Option β} : (xlen tM (31)).bind f = f (nI 20) := by rw [qb_len13 (km31_k), km31_l]
theorem km32_k  : tM.1 (32) = 13 := by rfl
theorem km32_l  : tM.2.1 (32) = 500 := by rfl
theorem km32_al  {f : Int32 → Option β} (hi : qin x 500) : (xal tM (32) x S).bind f = f (S.1 (32) x.toNatClampNeg) := qb_al (km32_k) (by rw [km32_l]; exact hi)
theorem km32_as  {f : xSt → Option β} (hi : qin x 500) : (xas tM (32) x v S).bind f = f (xuI S (32) x.toNatClampNeg v) := qb_as (km32_k) (by rw [km32_l]; exact hi)
theorem km32_ln  {f : Int32 → Option β} : (xlen tM (32)).bind f = f (nI 500) := by rw [qb_len13 (km32_k), km32_l]
theorem km33_k  : tM.1 (33) = 13 := by rfl
theorem km33_l  : tM.2.1 (33) = 6 := by rfl
theorem km33_al  {f : Int32 → Option β} (hi : qin x 6) : (xal tM (33) x S).bind f = f (S.1 (33) x.toNatClampNeg) := qb_al (km33_k) (by rw [km33_l]; exact hi)
theorem km33_as  {f : xSt → Option β} (hi : qin x 6) : (xas tM (33) x v S).bind f = f (xuI S (33) x.toNatClampNeg v) := qb_as (km33_k) (by rw [km33_l]; exact hi)
theorem km33_ln  {f : Int32 → Option β} : (xlen tM (33)).bind f = f (nI 6) := by rw [qb_len13 (km33_k), km33_l]
theorem km34_k  : tM.1 (34) = 13 := by rfl
theorem km34_l  : tM.2.1 (34) = 22 := by rfl
theorem km34_al  {f : Int32 → Option β} (hi : qin x 22) : (xal tM (34) x S).bind f = f (S.1 (34) x.toNatClampNeg) := qb_al (km34_k) (by rw [km34_l]; exact hi)
theorem km34_as  {f : xSt → Option β} (hi : qin x 22) : (xas tM (34) x v S).bind f = f (xuI S (34) x.toNatClampNeg v) := qb_as (km34_k) (by rw [km34_l]; exact hi)
theorem km34_ln  {f : Int32 → Option β} : (xlen tM (34)).bind f = f (nI 22) := by rw [qb_len13 (km34_k), km34_l]
theorem km35_k  : tM.1 (35) = 13 := by rfl
theorem km35_l  : tM.2.1 (35) = 22 := by rfl
theorem km35_al  {f : Int32 → Option β} (hi : qin x 22) : (xal tM (35) x S).bind f = f (S.1 (35) x.toNatClampNeg) := qb_al (km35_k) (by rw [km35_l]; exact hi)
theorem km35_as  {f : xSt → Option β} (hi : qin x 22) : (xas tM (35) x v S).bind f = f (xuI S (35) x.toNatClampNeg v) := qb_as (km35_k) (by rw [km35_l]; exact hi)
theorem km35_ln  {f : Int32 → Option β} : (xlen tM (35)).bind f = f (nI 22) := by rw [qb_len13 (km35_k), km35_l]
theorem km36_k  : tM.1 (36) = 13 := by rfl
theorem km36_l  : tM.2.1 (36) = 176 := by rfl
theorem km36_al  {f : Int32 → Option β} (hi : qin x 176) : (xal tM (36) x S).bind f = f (S.1 (36) x.toNatClampNeg) := qb_al (km36_k) (by rw [km36_l]; exact hi)
theorem km36_as  {f : xSt → Option β} (hi : qin x 176) : (xas tM (36) x v S).bind f = f (xuI S (36) x.toNatClampNeg v) := qb_as (km36_k) (by rw [km36_l]; exact hi)
theorem km36_ln  {f : Int32 → Option β} : (xlen tM (36)).bind f = f (nI 176) := by rw [qb_len13 (km36_k), km36_l]
theorem km37_k  : tM.1 (37) = 13 := by rfl
theorem km37_l  : tM.2.1 (37) = 22 := by rfl
theorem km37_al  {f : Int32 → Option β} (hi : qin x 22) : (xal tM (37) x S).bind f = f (S.1 (37) x.toNatClampNeg) := qb_al (km37_k) (by rw [km37_l]; exact hi)
theorem km37_as  {f : xSt → Option β} (hi : qin x 22) : (xas tM (37) x v S).bind f = f (xuI S (37) x.toNatClampNeg v) := qb_as (km37_k) (by rw [km37_l]; exact hi)
theorem km37_ln  {f : Int32 → Option β} : (xlen tM (37)).bind f = f (nI 22) := by rw [qb_len13 (km37_k), km37_l]
theorem km38_k  : tM.1 (38) = 13 := by rfl
theorem km38_l  : tM.2.1 (38) = 22 := by rfl
theorem km38_al  {f : Int32 → Option β} (hi : qin x 22) : (xal tM (38) x S).bind f = f (S.1 (38) x.toNatClampNeg) := qb_al (km38_k) (by rw [km38_l]; exact hi)
theorem km38_as  {f : xSt → Option β} (hi : qin x 22) : (xas tM (38) x v S).bind f = f (xuI S (38) x.toNatClampNeg v) := qb_as (km38_k) (by rw [km38_l]; exact hi)
theorem km38_ln  {f : Int32 → Option β} : (xlen tM (38)).bind f = f (nI 22) := by rw [qb_len13 (km38_k), km38_l]
theorem km39_k  : tM.1 (39) = 13 := by rfl
theorem km39_l  : tM.2.1 (39) = 1056 := by rfl
theorem km39_al  {f : Int32 → Option β} (hi : qin x 1056) : (xal tM (39) x S).bind f = f (S.1 (39) x.toNatClampNeg) := qb_al (km39_k) (by rw [km39_l]; exact hi)
theorem km39_as  {f : xSt → Option β} (hi : qin x 1056) : (xas tM (39) x v S).bind f = f (xuI S (39) x.toNatClampNeg v) := qb_as (km39_k) (by rw [km39_l]; exact hi)
theorem km39_ln  {f : Int32 → Option β} : (xlen tM (39)).bind f = f (nI 1056) := by rw [qb_len13 (km39_k), km39_l]
theorem km40_k  : tM.1 (40) = 13 := by rfl
theorem km40_l  : tM.2.1 (40) = 132 := by rfl
theorem km40_al  {f : Int32 → Option β} (hi : qin x 132) : (xal tM (40) x S).bind f = f (S.1 (40) x.toNatClampNeg) := qb_al (km40_k) (by rw [km40_l]; exact hi)
theorem km40_as  {f : xSt → Option β} (hi : qin x 132) : (xas tM (40) x v S).bind f = f (xuI S (40) x.toNatClampNeg v) := qb_as (km40_k) (by rw [km40_l]; exact hi)
theorem km40_ln  {f : Int32 → Option β} : (xlen tM (40)).bind f = f (nI 132) := by rw [qb_len13 (km40_k), km40_l]
theorem km41_k  : tM.1 (41) = 13 := by rfl
theorem km41_l  : tM.2.1 (41) = 132 := by rfl
theorem km41_al  {f : Int32 → Option β} (hi : qin x 132) : (xal tM (41) x S).bind f = f (S.1 (41) x.toNatClampNeg) := qb_al (km41_k) (by rw [km41_l]; exact hi)
theorem km41_as  {f : xSt → Option β} (hi : qin x 132) : (xas tM (41) x v S).bind f = f (xuI S (41) x.toNatClampNeg v) := qb_as (km41_k) (by rw [km41_l]; exact hi)
theorem km41_ln  {f : Int32 → Option β} : (xlen tM (41)).bind f = f (nI 132) := by rw [qb_len13 (km41_k), km41_l]
theorem km42_k  : tM.1 (42) = 13 := by rfl
theorem km42_l  : tM.2.1 (42) = 22 := by rfl
theorem km42_al  {f : Int32 → Option β} (hi : qin x 22) : (xal tM (42) x S).bind f = f (S.1 (42) x.toNatClampNeg) := qb_al (km42_k) (by rw [km42_l]; exact hi)
theorem km42_as  {f : xSt → Option β} (hi : qin x 22) : (xas tM (42) x v S).bind f = f (xuI S (42) x.toNatClampNeg v) := qb_as (km42_k) (by rw [km42_l]; exact hi)
theorem km42_ln  {f : Int32 → Option β} : (xlen tM (42)).bind f = f (nI 22) := by rw [qb_len13 (km42_k), km42_l]
theorem km43_k  : tM.1 (43) = 13 := by rfl
theorem km43_l  : tM.2.1 (43) = 5280 := by rfl
theorem km43_al  {f : Int32 → Option β} (hi : qin x 5280) : (xal tM (43) x S).bind f = f (S.1 (43) x.toNatClampNeg) := qb_al (km43_k) (by rw [km43_l]; exact hi)
theorem km43_as  {f : xSt → Option β} (hi : qin x 5280) : (xas tM (43) x v S).bind f = f (xuI S (43) x.toNatClampNeg v) := qb_as (km43_k) (by rw [km43_l]; exact hi)
theorem km43_ln  {f : Int32 → Option β} : (xlen tM (43)).bind f = f (nI 5280) := by rw [qb_len13 (km43_k), km43_l]
theorem km44_k  : tM.1 (44) = 14 := by rfl
theorem km44_l  : tM.2.1 (44) = 500 := by rfl
theorem km44_ll  {f : Int64 → Option β} (hi : qin x 500) : (xll tM (44) x S).bind f = f (S.2.1 (44) x.toNatClampNeg) := qb_ll (km44_k) (by rw [km44_l]; exact hi)
theorem km44_ls  {v : Int64} {f : xSt → Option β} (hi : qin x 500) : (xls tM (44) x v S).bind f = f (xuL S (44) x.toNatClampNeg v) := qb_ls (km44_k) (by rw [km44_l]; exact hi)
theorem km45_k  : tM.1 (45) = 13 := by rfl
theorem km45_l  : tM.2.1 (45) = 12 := by rfl
theorem km45_al  {f : Int32 → Option β} (hi : qin x 12) : (xal tM (45) x S).bind f = f (S.1 (45) x.toNatClampNeg) := qb_al (km45_k) (by rw [km45_l]; exact hi)
theorem km45_as  {f : xSt → Option β} (hi : qin x 12) : (xas tM (45) x v S).bind f = f (xuI S (45) x.toNatClampNeg v) := qb_as (km45_k) (by rw [km45_l]; exact hi)
theorem km45_ln  {f : Int32 → Option β} : (xlen tM (45)).bind f = f (nI 12) := by rw [qb_len13 (km45_k), km45_l]
theorem km46_k  : tM.1 (46) = 13 := by rfl
theorem km46_l  : tM.2.1 (46) = 6 := by rfl
theorem km46_al  {f : Int32 → Option β} (hi : qin x 6) : (xal tM (46) x S).bind f = f (S.1 (46) x.toNatClampNeg) := qb_al (km46_k) (by rw [km46_l]; exact hi)
theorem km46_as  {f : xSt → Option β} (hi : qin x 6) : (xas tM (46) x v S).bind f = f (xuI S (46) x.toNatClampNeg v) := qb_as (km46_k) (by rw [km46_l]; exact hi)
theorem km46_ln  {f : Int32 → Option β} : (xlen tM (46)).bind f = f (nI 6) := by rw [qb_len13 (km46_k), km46_l]
theorem km47_k  : tM.1 (47) = 13 := by rfl
theorem km47_l  : tM.2.1 (47) = 6 := by rfl
theorem km47_al  {f : Int32 → Option β} (hi : qin x 6) : (xal tM (47) x S).bind f = f (S.1 (47) x.toNatClampNeg) := qb_al (km47_k) (by rw [km47_l]; exact hi)
theorem km47_as  {f : xSt → Option β} (hi : qin x 6) : (xas tM (47) x v S).bind f = f (xuI S (47) x.toNatClampNeg v) := qb_as (km47_k) (by rw [km47_l]; exact hi)
theorem km47_ln  {f : Int32 → Option β} : (xlen tM (47)).bind f = f (nI 6) := by rw [qb_len13 (km47_k), km47_l]
theorem km48_k  : tM.1 (48) = 13 := by rfl
theorem km48_l  : tM.2.1 (48) = 6 := by rfl
theorem km48_al  {f : Int32 → Option β} (hi : qin x 6) : (xal tM (48) x S).bind f = f (S.1 (48) x.toNatClampNeg) := qb_al (km48_k) (by rw [km48_l]; exact hi)
theorem km48_as  {f : xSt → Option β} (hi : qin x 6) : (xas tM (48) x v S).bind f = f (xuI S (48) x.toNatClampNeg v) := qb_as (km48_k) (by rw [km48_l]; exact hi)
theorem km48_ln  {f : Int32 → Option β} : (xlen tM (48)).bind f = f (nI 6) := by rw [qb_len13 (km48_k), km48_l]
theorem km49_k  : tM.1 (49) = 13 := by rfl
theorem km49_l  : tM.2.1 (49) = 6 := by rfl
theorem km49_al  {f : Int32 → Option β} (hi : qin x 6) : (xal tM (49) x S).bind f = f (S.1 (49) x.toNatClampNeg) := qb_al (km49_k) (by rw [km49_l]; exact hi)
theorem km49_as  {f : xSt → Option β} (hi : qin x 6) : (xas tM (49) x v S).bind f = f (xuI S (49) x.toNatClampNeg v) := qb_as (km49_k) (by rw [km49_l]; exact hi)
theorem km49_ln  {f : Int32 → Option β} : (xlen tM (49)).bind f = f (nI 6) := by rw [qb_len13 (km49_k), km49_l]
theorem km50_k  : tM.1 (50) = 13 := by rfl
theorem km50_l  : tM.2.1 (50) = 6 := by rfl
theorem km50_al  {f : Int32 → Option β} (hi : qin x 6) : (xal tM (50) x S).bind f = f (S.1 (50) x.toNatClampNeg) := qb_al (km50_k) (by rw [km50_l]; exact hi)
theorem km50_as  {f : xSt → Option β} (hi : qin x 6) : (xas tM (50) x v S).bind f = f (xuI S (50) x.toNatClampNeg v) := qb_as (km50_k) (by rw [km50_l]; exact hi)
theorem km50_ln  {f : Int32 → Option β} : (xlen tM (50)).bind f = f (nI 6) := by rw [qb_len13 (km50_k), km50_l]
theorem km51_k  : tM.1 (51) = 13 := by rfl
theorem km51_l  : tM.2.1 (51) = 6 := by rfl
theorem km51_al  {f : Int32 → Option β} (hi : qin x 6) : (xal tM (51) x S).bind f = f (S.1 (51) x.toNatClampNeg) := qb_al (km51_k) (by rw [km51_l]; exact hi)
theorem km51_as  {f : xSt → Option β} (hi : qin x 6) : (xas tM (51) x v S).bind f = f (xuI S (51) x.toNatClampNeg v) := qb_as (km51_k) (by rw [km51_l]; exact hi)
theorem km51_ln  {f : Int32 → Option β} : (xlen tM (51)).bind f = f (nI 6) := by rw [qb_len13 (km51_k), km51_l]
theorem km52_k  : tM.1 (52) = 13 := by rfl
theorem km52_l  : tM.2.1 (52) = 6 := by rfl
theorem km52_al  {f : Int32 → Option β} (hi : qin x 6) : (xal tM (52) x S).bind f = f (S.1 (52) x.toNatClampNeg) := qb_al (km52_k) (by rw [km52_l]; exact hi)
theorem km52_as  {f : xSt → Option β} (hi : qin x 6) : (xas tM (52) x v S).bind f = f (xuI S (52) x.toNatClampNeg v) := qb_as (km52_k) (by rw [km52_l]; exact hi)
theorem km52_ln  {f : Int32 → Option β} : (xlen tM (52)).bind f = f (nI 6) := by rw [qb_len13 (km52_k), km52_l]
theorem km53_k  : tM.1 (53) = 13 := by rfl
theorem km53_l  : tM.2.1 (53) = 6 := by rfl
theorem km53_al  {f : Int32 → Option β} (hi : qin x 6) : (xal tM (53) x S).bind f = f (S.1 (53) x.toNatClampNeg) := qb_al (km53_k) (by rw [km53_l]; exact hi)
theorem km53_as  {f : xSt → Option β} (hi : qin x 6) : (xas tM (53) x v S).bind f = f (xuI S (53) x.toNatClampNeg v) := qb_as (km53_k) (by rw [km53_l]; exact hi)
theorem km53_ln  {f : Int32 → Option β} : (xlen tM (53)).bind f = f (nI 6) := by rw [qb_len13 (km53_k), km53_l]
theorem km54_k  : tM.1 (54) = 13 := by rfl
theorem km54_l  : tM.2.1 (54) = 61 := by rfl
theorem km54_al  {f : Int32 → Option β} (hi : qin x 61) : (xal tM (54) x S).bind f = f (S.1 (54) x.toNatClampNeg) := qb_al (km54_k) (by rw [km54_l]; exact hi)
theorem km54_as  {f : xSt → Option β} (hi : qin x 61) : (xas tM (54) x v S).bind f = f (xuI S (54) x.toNatClampNeg v) := qb_as (km54_k) (by rw [km54_l]; exact hi)
theorem km54_ln  {f : Int32 → Option β} : (xlen tM (54)).bind f = f (nI 61) := by rw [qb_len13 (km54_k), km54_l]
theorem km55_k  : tM.1 (55) = 13 := by rfl
theorem km55_l  : tM.2.1 (55) = 110 := by rfl
theorem km55_al  {f : Int32 → Option β} (hi : qin x 110) : (xal tM (55) x S).bind f = f (S.1 (55) x.toNatClampNeg) := qb_al (km55_k) (by rw [km55_l]; exact hi)
theorem km55_as  {f : xSt → Option β} (hi : qin x 110) : (xas tM (55) x v S).bind f = f (xuI S (55) x.toNatClampNeg v) := qb_as (km55_k) (by rw [km55_l]; exact hi)
theorem km55_ln  {f : Int32 → Option β} : (xlen tM (55)).bind f = f (nI 110) := by rw [qb_len13 (km55_k), km55_l]
end Q20
