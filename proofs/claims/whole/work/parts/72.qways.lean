/-! ===== makeshifts: the shortest ways, over plain numbers ===== -/
def s_cd (p E : Nat → Nat) (b a : Nat) : Nat := if p (6 * a + b) = 0 then 1000000 else 8 * p (6 * a + b) + 1 + E a
def s_rx (p E : Nat → Nat) (b a : Nat) : Nat → Nat := fun k => if k = b then (if s_cd p E b a < E b then s_cd p E b a else E b) else E k
def s_rA (p : Nat → Nat) (b : Nat) : Nat → Nat → (Nat → Nat) → (Nat → Nat)
  | 0, _, E => E
  | k + 1, a, E => s_rA p b k (a + 1) (s_rx p E b a)
def s_rB (p : Nat → Nat) (n : Nat) : Nat → Nat → (Nat → Nat) → (Nat → Nat)
  | 0, _, E => E
  | k + 1, b, E => s_rB p n k (b + 1) (s_rA p b n 0 E)
def s_rN (p : Nat → Nat) (n : Nat) : Nat → (Nat → Nat) → (Nat → Nat)
  | 0, E => E
  | k + 1, E => s_rN p n k (s_rB p n n 0 E)
def s_E0 (l : Nat) : Nat → Nat := fun k => if k = l then 0 else 1000000
def s_ct (E : Nat → Nat) (x : Nat) : Nat → Nat
  | 0 => 0
  | j + 1 => s_ct E x j + (if E j < x then 1 else 0)
/-- what holds of the ways at any time -/
def wB (p : Nat → Nat) (n l : Nat) (E : Nat → Nat) : Prop :=
  (∀ k, E k ≤ 1000000) ∧ E l = 0 ∧ (∀ k, k < n → E k < 1000000 → E k ≤ 793 * (E k % 8) ∧ E k % 8 ≤ s_ct E (E k) n) ∧
  (∀ k, k < n → k ≠ l → E k < 1000000 → ∃ a, a < n ∧ p (6 * a + k) ≠ 0 ∧ 8 * p (6 * a + k) + 1 + E a ≤ E k)
def wC (p : Nat → Nat) (n : Nat) (E : Nat → Nat) (O : List Nat) : Prop :=
  (∀ b, b < n → b ∉ O → ∀ x, x ∈ O → E b ≤ E x) ∧ (∀ b, b < n → b ∉ O → ∀ a, a < n → a ∉ O → ∀ x, x ∈ O → p (6 * a + x) ≠ 0 → E b ≤ 8 * p (6 * a + x) + 1 + E a) ∧
  (∀ b, b < n → b ∉ O → ∀ a, a < n → a ∉ O → p (6 * a + b) ≠ 0 → E b ≤ 8 * p (6 * a + b) + 1 + E a)
def wR (p E : Nat → Nat) (a x : Nat) : Prop := p (6 * a + x) ≠ 0 → E x ≤ 8 * p (6 * a + x) + 1 + E a
section Q72
variable {p E E' : Nat → Nat} {n l a b : Nat} {O : List Nat}
theorem s_rx_le (k : Nat) : s_rx p E b a k ≤ E k := by
  unfold s_rx
  split
  · rename_i h; subst h; split <;> omega
  · exact Nat.le_refl _
theorem s_rx_n {k : Nat} (h : k ≠ b) : s_rx p E b a k = E k := if_neg h
theorem s_ct_mono {x : Nat} (h : ∀ k, E' k ≤ E k) : ∀ j, s_ct E x j ≤ s_ct E' x j
  | 0 => Nat.le_refl _
  | j + 1 => by
    have := s_ct_mono (x := x) h j
    have := h j
    unfold s_ct
    split <;> split <;> omega
theorem s_ct_up {x y : Nat} (hxy : x ≤ y) : ∀ j, s_ct E x j ≤ s_ct E y j
  | 0 => Nat.le_refl _
  | j + 1 => by
    have := s_ct_up hxy j
    unfold s_ct
    split <;> split <;> omega
theorem s_ct_one {y : Nat} (ha : E a < y) : ∀ j, a < j → s_ct E (E a) j + 1 ≤ s_ct E y j
  | 0, h => by omega
  | j + 1, h => by
    unfold s_ct
    by_cases e : a = j
    · subst e
      have := s_ct_up (E := E) (x := E a) (y := y) (by omega) a
      rw [if_neg (Nat.lt_irrefl _), if_pos ha]
      omega
    · have := s_ct_one ha j (by omega)
      split <;> split <;> omega
theorem s_ct_b {k : Nat} : ∀ j, k < j → s_ct E (E k) j + 1 ≤ j
  | 0, h => by omega
  | j + 1, h => by
    unfold s_ct
    by_cases e : k = j
    · subst e
      rw [if_neg (Nat.lt_irrefl _)]
      have : ∀ x m, s_ct E x m ≤ m := by
        intro x m
        induction m with
        | zero => exact Nat.le_refl _
        | succ m ih => unfold s_ct; split <;> omega
      have := this (E k) k
      omega
    · have := s_ct_b (k := k) j (by omega)
      split <;> omega
theorem s_ct_off {x : Nat} {v : Nat} (hb : ¬ E b < x) (hv : ¬ v < x) : ∀ j, s_ct (fun k => if k = b then v else E k) x j = s_ct E x j
  | 0 => rfl
  | j + 1 => by
    unfold s_ct
    rw [s_ct_off hb hv j]
    by_cases e : j = b
    · subst e; simp only [if_true, if_neg hb, if_neg hv]
    · simp only [if_neg e]
theorem wB_m (hn : n ≤ 6) (h : wB p n l E) {k : Nat} (hk : k < n) (hE : E k < 1000000) : E k % 8 ≤ 5 ∧ E k ≤ 3965 := by
  obtain ⟨h1, h2⟩ := h.2.2.1 k hk hE
  have := s_ct_b (E := E) (k := k) n hk
  omega
theorem wB_rx (hn : n ≤ 6) (hp : ∀ i, p i ≤ 99) (ha : a < n) (hb : b < n) (hl : l < n) (h : wB p n l E) : wB p n l (s_rx p E b a) := by
  have h' := h
  obtain ⟨h1, h2, h3, h4⟩ := h
  by_cases hc : s_cd p E b a < E b
  · -- the way is mended
    have hp0 : p (6 * a + b) ≠ 0 := by
      intro e
      unfold s_cd at hc
      rw [if_pos e] at hc
      have := h1 b
      omega
    have hcd : s_cd p E b a = 8 * p (6 * a + b) + 1 + E a := by unfold s_cd; rw [if_neg hp0]
    have hEa : E a < 1000000 := by have := h1 b; omega
    obtain ⟨ma, mb⟩ := wB_m hn h' ha hEa
    obtain ⟨q1, q2⟩ := h3 a ha hEa
    have hab : a ≠ b := by intro e; subst e; omega
    have hbl : b ≠ l := by intro e; subst e; omega
    have ee : s_rx p E b a = fun k => if k = b then s_cd p E b a else E k := by
      funext k
      unfold s_rx
      by_cases e : k = b
      · rw [if_pos e, if_pos e, if_pos hc]
      · rw [if_neg e, if_neg e]
    have le : ∀ k, s_rx p E b a k ≤ E k := s_rx_le
    have eb : s_rx p E b a b = s_cd p E b a := by rw [ee]; simp
    have en : ∀ k, k ≠ b → s_rx p E b a k = E k := fun k hk => s_rx_n hk
    refine ⟨fun k => Nat.le_trans (le k) (h1 k), by rw [en l (Ne.symm hbl)]; exact h2, fun k hk hE => ?_, fun k hk hkl hE => ?_⟩
    · by_cases e : k = b
      · subst e
        rw [eb]
        have hx := hp (6 * a + k)
        have m8 : s_cd p E k a % 8 = E a % 8 + 1 := by rw [hcd]; omega
        refine ⟨by rw [m8, hcd]; omega, ?_⟩
        rw [m8]
        have c1 := s_ct_one (E := E) (a := a) (y := s_cd p E k a) (by rw [hcd]; omega) n ha
        have c2 := s_ct_mono (E := E) (E' := s_rx p E k a) (x := s_cd p E k a) le n
        omega
      · rw [en k e] at hE ⊢
        obtain ⟨r1, r2⟩ := h3 k hk hE
        exact ⟨r1, Nat.le_trans r2 (s_ct_mono le n)⟩
    · by_cases e : k = b
      · subst e
        refine ⟨a, ha, hp0, ?_⟩
        rw [eb, en a hab, hcd]
        exact Nat.le_refl _
      · rw [en k e] at hE ⊢
        obtain ⟨a', r1, r2, r3⟩ := h4 k hk hkl hE
        exact ⟨a', r1, r2, by have := le a'; omega⟩
  · have ee : s_rx p E b a = E := by
      funext k
      unfold s_rx
      by_cases e : k = b
      · subst e; rw [if_pos rfl, if_neg hc]
      · rw [if_neg e]
    rw [ee]
    exact h'
theorem s_rx_O (h1 : ∀ k, E k ≤ 1000000) (ha : a < n) (hb : b < n) (h : wC p n E O) (hO : b ∉ O) : s_rx p E b a = E := by
  funext k
  unfold s_rx
  by_cases e : k = b
  · subst e
    rw [if_pos rfl, if_neg]
    unfold s_cd
    split
    · have := h1 k; omega
    · rename_i hp
      by_cases hao : a ∈ O
      · have := h.1 k hb hO a hao; omega
      · have := h.2.2 k hb hO a ha hao hp; omega
  · rw [if_neg e]
theorem s_rx_k (h1 : ∀ k, E k ≤ 1000000) (ha : a < n) (hb : b < n) (h : wC p n E O) {k : Nat} (hk : k ∉ O) : s_rx p E b a k = E k := by
  by_cases hO : b ∈ O
  · exact s_rx_n (fun e => hk (e ▸ hO))
  · rw [s_rx_O h1 ha hb h hO]
theorem wC_rx (h1 : ∀ k, E k ≤ 1000000) (ha : a < n) (hb : b < n) (h : wC p n E O) : wC p n (s_rx p E b a) O := by
  have k0 : ∀ k, k ∉ O → s_rx p E b a k = E k := fun k hk => s_rx_k h1 ha hb h hk
  refine ⟨fun c hc hcO x hx => ?_, fun c hc hcO a' ha' haO x hx hp => ?_, fun c hc hcO a' ha' haO hp => ?_⟩
  · rw [k0 c hcO]
    unfold s_rx
    by_cases e : x = b
    · subst e
      rw [if_pos rfl]
      split
      · unfold s_cd
        split
        · exact h1 c
        · rename_i hp
          by_cases hao : a ∈ O
          · have := h.1 c hc hcO a hao; omega
          · exact h.2.1 c hc hcO a ha hao x hx hp
      · exact h.1 c hc hcO x hx
    · rw [if_neg e]; exact h.1 c hc hcO x hx
  · rw [k0 c hcO, k0 a' haO]; exact h.2.1 c hc hcO a' ha' haO x hx hp
  · rw [k0 c hcO, k0 a' haO]; exact h.2.2 c hc hcO a' ha' haO hp
theorem wR_rx (h1 : ∀ k, E k ≤ 1000000) (ha : a < n) (hb : b < n) (h : wC p n E O) {a' x : Nat} (hO : a' ∉ O) (hr : wR p E a' x) : wR p (s_rx p E b a) a' x := by
  intro hp
  rw [s_rx_k h1 ha hb h hO]
  exact Nat.le_trans (s_rx_le x) (hr hp)
theorem wR_new (h1 : ∀ k, E k ≤ 1000000) (ha : a < n) (hb : b < n) (h : wC p n E O) (hO : a ∉ O) : wR p (s_rx p E b a) a b := by
  intro hp
  rw [s_rx_k h1 ha hb h hO]
  unfold s_rx
  rw [if_pos rfl]
  have : s_cd p E b a = 8 * p (6 * a + b) + 1 + E a := by unfold s_cd; rw [if_neg hp]
  split <;> omega
/-- one kind's turn -/
theorem w_A (hn : n ≤ 6) (hp : ∀ i, p i ≤ 99) (hb : b < n) (hl : l < n) : ∀ (k a : Nat) (E : Nat → Nat), a + k = n → wB p n l E → wC p n E O → wB p n l (s_rA p b k a E) ∧ wC p n (s_rA p b k a E) O ∧ (∀ a' x, a' ∉ O → wR p E a' x → wR p (s_rA p b k a E) a' x) ∧ (∀ a', a ≤ a' → a' < n → a' ∉ O → wR p (s_rA p b k a E) a' b)
  | 0, a, E, hk, hB, hC => ⟨hB, hC, fun _ _ _ h => h, fun a' h1 h2 _ => by omega⟩
  | k + 1, a, E, hk, hB, hC => by
    have ha : a < n := by omega
    obtain ⟨b1, c1, r1, r2⟩ := w_A hn hp hb hl k (a + 1) (s_rx p E b a) (by omega) (wB_rx hn hp ha hb hl hB) (wC_rx hB.1 ha hb hC)
    refine ⟨b1, c1, fun a' x hO hr => r1 a' x hO (wR_rx hB.1 ha hb hC hO hr), fun a' h1 h2 hO => ?_⟩
    by_cases e : a' = a
    · subst e; exact r1 a' b hO (wR_new hB.1 ha hb hC hO)
    · exact r2 a' (by omega) h2 hO
theorem w_B (hn : n ≤ 6) (hp : ∀ i, p i ≤ 99) (hl : l < n) : ∀ (k b : Nat) (E : Nat → Nat), b + k = n → wB p n l E → wC p n E O → wB p n l (s_rB p n k b E) ∧ wC p n (s_rB p n k b E) O ∧ (∀ a' x, a' ∉ O → wR p E a' x → wR p (s_rB p n k b E) a' x) ∧ (∀ a' x, a' < n → a' ∉ O → b ≤ x → x < n → wR p (s_rB p n k b E) a' x)
  | 0, b, E, hk, hB, hC => ⟨hB, hC, fun _ _ _ h => h, fun a' x _ _ h1 h2 => by omega⟩
  | k + 1, b, E, hk, hB, hC => by
    obtain ⟨b0, c0, r0, r0'⟩ := w_A hn hp (by omega : b < n) hl n 0 E (by omega) hB hC
    obtain ⟨b1, c1, r1, r2⟩ := w_B hn hp hl k (b + 1) (s_rA p b n 0 E) (by omega) b0 c0
    refine ⟨b1, c1, fun a' x hO hr => r1 a' x hO (r0 a' x hO hr), fun a' x h1 hO h2 h3 => ?_⟩
    by_cases e : x = b
    · subst e; exact r1 a' x hO (r0' a' (Nat.zero_le _) h1 hO)
    · exact r2 a' x h1 hO (by omega) h3
theorem l_min : ∀ (O : List Nat), O ≠ [] → ∃ x, x ∈ O ∧ ∀ y, y ∈ O → E x ≤ E y
  | [], h => absurd rfl h
  | [x], _ => ⟨x, List.mem_singleton.mpr rfl, fun y hy => by rw [List.mem_singleton.mp hy]; exact Nat.le_refl _⟩
  | x :: y :: t, _ => by
    obtain ⟨z, hz, hm⟩ := l_min (y :: t) (by simp)
    by_cases hx : E x ≤ E z
    · refine ⟨x, List.mem_cons_self, fun w hw => ?_⟩
      rcases List.mem_cons.mp hw with rfl | hw
      · exact Nat.le_refl _
      · exact Nat.le_trans hx (hm w hw)
    · refine ⟨z, List.mem_cons_of_mem _ hz, fun w hw => ?_⟩
      rcases List.mem_cons.mp hw with rfl | hw
      · omega
      · exact hm w hw
theorem wC_next (hOn : ∀ x, x ∈ O → x < n) (h : wC p n E O) (hR : ∀ a x, a < n → a ∉ O → x < n → wR p E a x) (hO : O ≠ []) : ∃ O', wC p n E O' ∧ O'.length < O.length ∧ ∀ x, x ∈ O' → x < n := by
  obtain ⟨m, hm, hmin⟩ := l_min (E := E) O hO
  have mem : ∀ x, x ∈ O.filter (fun y => decide (y ≠ m)) ↔ x ∈ O ∧ x ≠ m := fun x => by simp [List.mem_filter]
  refine ⟨O.filter (fun y => decide (y ≠ m)), ⟨fun b hb hbO x hx => ?_, fun b hb hbO a ha haO x hx hp => ?_, fun b hb hbO a ha haO hp => ?_⟩, ?_, fun x hx => hOn x ((mem x).mp hx).1⟩
  · obtain ⟨x1, x2⟩ := (mem x).mp hx
    by_cases e : b = m
    · subst e; exact hmin x x1
    · exact h.1 b hb (fun hh => hbO ((mem b).mpr ⟨hh, e⟩)) x x1
  · obtain ⟨x1, x2⟩ := (mem x).mp hx
    by_cases ea : a = m
    · subst ea
      by_cases eb : b = a
      · subst eb; omega
      · have := h.1 b hb (fun hh => hbO ((mem b).mpr ⟨hh, eb⟩)) a hm; omega
    · have haO' : a ∉ O := fun hh => haO ((mem a).mpr ⟨hh, ea⟩)
      by_cases eb : b = m
      · subst eb
        have r1 := hmin x x1
        have r2 := hR a x ha haO' (hOn x x1) hp
        omega
      · exact h.2.1 b hb (fun hh => hbO ((mem b).mpr ⟨hh, eb⟩)) a ha haO' x x1 hp
  · by_cases ea : a = m
    · subst ea
      by_cases eb : b = a
      · subst eb; omega
      · have := h.1 b hb (fun hh => hbO ((mem b).mpr ⟨hh, eb⟩)) a hm; omega
    · have haO' : a ∉ O := fun hh => haO ((mem a).mpr ⟨hh, ea⟩)
      by_cases eb : b = m
      · exact hR a b ha haO' hb hp
      · exact h.2.2 b hb (fun hh => hbO ((mem b).mpr ⟨hh, eb⟩)) a ha haO' hp
  · rw [List.length_filter_lt_length_iff_exists]
    exact ⟨m, hm, by simp⟩
theorem w_N (hn : n ≤ 6) (hp : ∀ i, p i ≤ 99) (hl : l < n) : ∀ (k : Nat) (E : Nat → Nat) (O : List Nat), wB p n l E → wC p n E O → (∀ x, x ∈ O → x < n) → ∃ O', wB p n l (s_rN p n k E) ∧ wC p n (s_rN p n k E) O' ∧ O'.length ≤ O.length - k
  | 0, E, O, hB, hC, hO => ⟨O, hB, hC, Nat.le_refl _⟩
  | k + 1, E, O, hB, hC, hO => by
    obtain ⟨b1, c1, r1, r2⟩ := w_B hn hp hl n 0 E (by omega) hB hC
    by_cases e : O = []
    · obtain ⟨O', x1, x2, x3⟩ := w_N hn hp hl k (s_rB p n n 0 E) O b1 c1 hO
      exact ⟨O', x1, x2, by rw [e] at x3 ⊢; simp at x3 ⊢; exact x3⟩
    · obtain ⟨O1, y1, y2, y3⟩ := wC_next hO c1 (fun a x h1 h2 h3 => r2 a x h1 h2 (Nat.zero_le _) h3) e
      obtain ⟨O', x1, x2, x3⟩ := w_N hn hp hl k (s_rB p n n 0 E) O1 b1 y1 y3
      exact ⟨O', x1, x2, by omega⟩
theorem wB_0 (hl : l < n) : wB p n l (s_E0 l) := by
  refine ⟨fun k => ?_, if_pos rfl, fun k hk hE => ?_, fun k hk hkl hE => ?_⟩
  · unfold s_E0; split <;> omega
  · unfold s_E0 at hE ⊢
    by_cases e : k = l
    · rw [if_pos e]; exact ⟨by decide, Nat.zero_le _⟩
    · rw [if_neg e] at hE; omega
  · unfold s_E0 at hE; rw [if_neg hkl] at hE; omega
theorem wC_0 (hl : l < n) : wC p n (s_E0 l) ((List.range n).filter (fun y => decide (y ≠ l))) := by
  have mem : ∀ x, x ∈ (List.range n).filter (fun y => decide (y ≠ l)) ↔ x < n ∧ x ≠ l := fun x => by simp [List.mem_filter, List.mem_range]
  have out : ∀ b, b < n → b ∉ (List.range n).filter (fun y => decide (y ≠ l)) → s_E0 l b = 0 := by
    intro b hb hO
    have : b = l := by
      apply Classical.byContradiction
      intro e
      exact hO ((mem b).mpr ⟨hb, e⟩)
    unfold s_E0; rw [if_pos this]
  refine ⟨fun b hb hO x hx => ?_, fun b hb hO a ha haO x hx hp => ?_, fun b hb hO a ha haO hp => ?_⟩
  all_goals rw [out b hb hO]; exact Nat.zero_le _
def s_E (p : Nat → Nat) (n l : Nat) : Nat → Nat := s_rN p n 6 (s_E0 l)
/-- at the end every way that is there goes over a next one -/
theorem w_fin (hn : n ≤ 6) (hp : ∀ i, p i ≤ 99) (hl : l < n) : wB p n l (s_E p n l) ∧ ∀ k, k < n → k ≠ l → s_E p n l k < 1000000 → ∃ a, a < n ∧ p (6 * a + k) ≠ 0 ∧ 8 * p (6 * a + k) + 1 + s_E p n l a = s_E p n l k := by
  obtain ⟨O, h1, h2, h3⟩ := w_N hn hp hl 6 (s_E0 l) _ (wB_0 hl) (wC_0 hl) (fun x hx => by simp [List.mem_filter, List.mem_range] at hx; exact hx.1)
  have hlen : ((List.range n).filter (fun y => decide (y ≠ l))).length ≤ 6 := Nat.le_trans (List.length_filter_le _ _) (by simp; exact hn)
  have hO : O = [] := List.eq_nil_of_length_eq_zero (by omega)
  subst hO
  refine ⟨h1, fun k hk hkl hE => ?_⟩
  obtain ⟨a, a1, a2, a3⟩ := h1.2.2.2 k hk hkl hE
  have := h2.2.2 k hk (by simp) a a1 (by simp) a2
  refine ⟨a, a1, a2, ?_⟩
  unfold s_E at *
  omega
end Q72

