/-! block starts in a chunk -/
theorem bk_max {P : Nat → Prop} (h0 : P 0) : ∀ N : Nat, ∃ m, m ≤ N ∧ P m ∧ (m = N ∨ ¬ P (m + 1))
  | 0 => ⟨0, Nat.le_refl _, h0, Or.inl rfl⟩
  | N + 1 => by
    obtain ⟨m, hm, hP, h⟩ := bk_max h0 N
    rcases h with h | h
    · subst h
      by_cases hq : P (m + 1)
      · exact ⟨m + 1, Nat.le_refl _, hq, Or.inl rfl⟩
      · exact ⟨m, by omega, hP, Or.inr hq⟩
    · exact ⟨m, by omega, hP, Or.inr h⟩
theorem bk_base {i p : Nat} (hp : 0 < p) (h : i % p = 0) : i / (2 * p) * (2 * p) = i ∨ (p ≤ i ∧ i / (2 * p) * (2 * p) = i - p) := by
  obtain ⟨q, rfl⟩ := Nat.dvd_of_mod_eq_zero h
  have e : p * q / (2 * p) = q / 2 := by rw [Nat.mul_comm 2 p, Nat.mul_div_mul_left _ _ hp]
  rw [e]
  have hq : q / 2 * (2 * p) = p * (q / 2 * 2) := by rw [← Nat.mul_assoc, Nat.mul_comm]
  rw [hq]
  rcases Nat.mod_two_eq_zero_or_one q with z | z
  · left
    congr 1
    omega
  · right
    have h1 : q = q / 2 * 2 + 1 := by omega
    constructor
    · exact Nat.le_mul_of_pos_right p (by omega)
    · have : p * q = p * (q / 2 * 2) + p := by
        rw [← Nat.mul_succ]
        congr 1
      omega
theorem bk_le64 {i m : Nat} (hi : i < 64) (hm : m ≤ 6) (h : i % 2 ^ m = 0) : i + 2 ^ m ≤ 64 := by
  have : ∀ m, m ≤ 6 → ∀ i, i < 64 → i % 2 ^ m = 0 → i + 2 ^ m ≤ 64 := by decide +kernel
  exact this m hm i hi h
theorem bk_wiff {x : Int64} {m i : Nat} (hm : m ≤ 6) (hi : i < 64) : bL (bk_w x m) i = true ↔ (i % 2 ^ m = 0 ∧ bk_full (bL x) m i) := by
  rw [bk_w_bit x m hm i]
  constructor
  · rintro ⟨a, -, b⟩
    exact ⟨a, (bk_full_at a).mpr b⟩
  · rintro ⟨a, b⟩
    exact ⟨a, bk_le64 hi hm a, (bk_full_at a).mp b⟩
theorem bk_siff (x : Int64) {i : Nat} (hi : i < 64) : ∀ j, j ≤ 6 → (bL (bk_s x j) i = true ↔ ∃ m, m < j ∧ (i % 2 ^ m = 0 ∧ bk_full (bL x) m i) ∧ ¬ bk_full (bL x) (m + 1) i)
  | 0, _ => by
    rw [bk_s, bL_0]
    exact ⟨fun h => (by cases h), fun ⟨m, h, _⟩ => absurd h (Nat.not_lt_zero _)⟩
  | j + 1, hj => by
    have hp : 2 ^ (j + 1) = 2 * 2 ^ j := by rw [Nat.pow_succ, Nat.mul_comm]
    have hpos : 0 < 2 ^ j := Nat.two_pow_pos j
    have hlt : 2 ^ j < 64 := by
      have : 2 ^ j ≤ 2 ^ 5 := Nat.pow_le_pow_right (by decide) (by omega)
      omega
    rw [bk_s, bL_or, Bool.or_eq_true, bk_siff x hi j (by omega), bL_and, Bool.and_eq_true, bk_wiff (by omega) hi, bL_not _ hi, bL_or, bL_shl _ (show 2 ^ j < 2 ^ 31 by omega), Nat.mod_eq_of_lt hlt]
    have key : i % 2 ^ j = 0 → ((!(bL (bk_w x (j + 1)) i || (decide (i < 64) && (decide (2 ^ j ≤ i) && bL (bk_w x (j + 1)) (i - 2 ^ j))))) = true ↔ ¬ bk_full (bL x) (j + 1) i) := by
      intro h0
      rw [Bool.not_eq_true', Bool.or_eq_false_iff, decide_eq_true hi, Bool.true_and]
      constructor
      · rintro ⟨h1, h2⟩ hf
        rcases bk_base hpos h0 with e | ⟨e1, e2⟩
        · have hm : i % 2 ^ (j + 1) = 0 := by
            rw [hp, ← e]
            exact Nat.mul_mod_left _ _
          have := (bk_wiff (x := x) (m := j + 1) hj hi).mpr ⟨hm, hf⟩
          rw [h1] at this; cases this
        · have hm : (i - 2 ^ j) % 2 ^ (j + 1) = 0 := by
            rw [hp, ← e2]
            exact Nat.mul_mod_left _ _
          have hs : i / 2 ^ (j + 1) = (i - 2 ^ j) / 2 ^ (j + 1) := by
            rw [hp, ← e2, Nat.mul_div_cancel _ (by omega)]
          have := (bk_wiff (x := x) (m := j + 1) hj (show i - 2 ^ j < 64 by omega)).mpr ⟨hm, (bk_full_same hs).mp hf⟩
          rw [decide_eq_true e1, Bool.true_and, this] at h2
          cases h2
      · intro hf
        constructor
        · cases hz : bL (bk_w x (j + 1)) i
          · rfl
          · exact absurd ((bk_wiff hj hi).mp hz).2 hf
        · by_cases h1 : 2 ^ j ≤ i
          · rw [decide_eq_true h1, Bool.true_and]
            cases hz : bL (bk_w x (j + 1)) (i - 2 ^ j)
            · rfl
            · obtain ⟨h3, h4⟩ := (bk_wiff hj (show i - 2 ^ j < 64 by omega)).mp hz
              refine absurd ((bk_full_same ?_).mp h4) hf
              obtain ⟨q, hq⟩ := Nat.dvd_of_mod_eq_zero h3
              have : i = 2 ^ (j + 1) * q + 2 ^ j := by omega
              rw [hq, this, Nat.mul_div_cancel_left _ (by omega), Nat.mul_add_div (by omega), Nat.div_eq_of_lt (show 2 ^ j < 2 ^ (j + 1) by omega), Nat.add_zero]
          · rw [decide_eq_false h1, Bool.false_and]
    constructor
    · rintro (⟨m, h1, h2⟩ | ⟨h1, h2⟩)
      · exact ⟨m, by omega, h2⟩
      · exact ⟨j, by omega, h1, (key h1.1).mp h2⟩
    · rintro ⟨m, h1, h2, h3⟩
      by_cases e : m = j
      · subst e
        exact Or.inr ⟨h2, (key h2.1).mpr h3⟩
      · exact Or.inl ⟨m, by omega, h2, h3⟩
/-- what blockStarts gives -/
theorem bk_chunk (x : Int64) {i : Nat} (hi : i < 64) : bL (bk_s x 6 ||| bk_w x 6) i = true ↔ bk_start (bL x) 6 i := by
  rw [bL_or, Bool.or_eq_true, bk_siff x hi 6 (Nat.le_refl _), bk_wiff (Nat.le_refl _) hi]
  constructor
  · rintro (⟨m, hm, ⟨h1, h2⟩, h3⟩ | ⟨h1, h2⟩)
    · refine ⟨bk_full_self h2, fun n hn hf => ?_⟩
      by_cases e : n ≤ m
      · obtain ⟨d, rfl⟩ := Nat.le.dest e
        exact Nat.mod_eq_zero_of_dvd (Nat.dvd_trans (Nat.pow_dvd_pow 2 (Nat.le_add_right n d)) (Nat.dvd_of_mod_eq_zero h1))
      · obtain ⟨d, hd⟩ := Nat.le.dest (show m + 1 ≤ n by omega)
        rw [← hd] at hf
        exact absurd (bk_full_le d hf) h3
    · refine ⟨bk_full_self h2, fun n hn _ => ?_⟩
      have : i = 0 := by omega
      rw [this, Nat.zero_mod]
  · rintro ⟨h1, h2⟩
    have h0 : bk_full (bL x) 0 i := fun t ht => by
      have : t = 0 := by omega
      subst this
      rw [Nat.pow_zero, Nat.div_one, Nat.mul_one, Nat.add_zero]
      exact h1
    obtain ⟨m, hm, hf, he⟩ := bk_max (P := fun m => bk_full (bL x) m i) h0 6
    rcases he with he | he
    · subst he
      exact Or.inr ⟨h2 6 (Nat.le_refl _) hf, hf⟩
    · by_cases e : m = 6
      · subst e
        exact Or.inr ⟨h2 6 (Nat.le_refl _) hf, hf⟩
      · exact Or.inl ⟨m, by omega, ⟨h2 m hm hf, hf⟩, he⟩
/-! block starts over chunks -/
noncomputable def bkS (S : Nat → Bool) (V w : Nat) : Bool := @decide (bk_start S V w) (Classical.propDecidable _)
theorem bkS_iff {S : Nat → Bool} {V w : Nat} : bkS S V w = true ↔ bk_start S V w := by
  unfold bkS
  exact @decide_eq_true_iff _ (Classical.propDecidable _)
theorem bkS_ff {S : Nat → Bool} {V w : Nat} (h : ¬ bk_start S V w) : bkS S V w = false := by
  cases hz : bkS S V w
  · rfl
  · exact absurd (bkS_iff.mp hz) h
/-- no block stands open at w -/
def bk_bd (S : Nat → Bool) (V w : Nat) : Prop := ∀ m, m ≤ V → bk_full S m w → w % 2 ^ m = 0
theorem bk_div {c i m : Nat} (hm : m ≤ 6) (hi : i < 64) : (64 * c + i) / 2 ^ m * 2 ^ m = 64 * c + i / 2 ^ m * 2 ^ m := by
  have e : 64 = 2 ^ m * 2 ^ (6 - m) := by rw [← Nat.pow_add, show m + (6 - m) = 6 by omega]
  have hp : 0 < 2 ^ m := Nat.two_pow_pos m
  have h1 : 64 * c = 2 ^ m * (2 ^ (6 - m) * c) := by rw [← Nat.mul_assoc, ← e]
  rw [h1, Nat.mul_add_div hp, Nat.add_mul, Nat.mul_comm (2 ^ (6 - m) * c) (2 ^ m)]
theorem bk_mod {c i m : Nat} (hm : m ≤ 6) : (64 * c + i) % 2 ^ m = i % 2 ^ m := by
  have e : 64 = 2 ^ m * 2 ^ (6 - m) := by rw [← Nat.pow_add, show m + (6 - m) = 6 by omega]
  have h1 : 64 * c = 2 ^ m * (2 ^ (6 - m) * c) := by rw [← Nat.mul_assoc, ← e]
  rw [h1, Nat.mul_add_mod]
theorem bk_in_lt {i m t : Nat} (hi : i < 64) (hm : m ≤ 6) (ht : t < 2 ^ m) : i / 2 ^ m * 2 ^ m + t < 64 := by
  have h := bk_le64 (i := i / 2 ^ m * 2 ^ m) (Nat.lt_of_le_of_lt (Nat.div_mul_le_self _ _) hi) hm (Nat.mul_mod_left _ _)
  omega
theorem bk_full_chunk {S : Nat → Bool} {x : Int64} {c i m : Nat} (hS : ∀ q, q < 64 → S (64 * c + q) = bL x q) (hi : i < 64) (hm : m ≤ 6) : bk_full S m (64 * c + i) ↔ bk_full (bL x) m i := by
  unfold bk_full
  rw [bk_div hm hi]
  constructor
  · intro h t ht
    have := h t ht
    rw [Nat.add_assoc, hS _ (bk_in_lt hi hm ht)] at this
    exact this
  · intro h t ht
    rw [Nat.add_assoc, hS _ (bk_in_lt hi hm ht)]
    exact h t ht
theorem bk_full_6 {S : Nat → Bool} {c i m : Nat} (hi : i < 64) (hm : 6 ≤ m) (h : bk_full S m (64 * c + i)) : ∀ q, q < 64 → S (64 * c + q) = true := by
  intro q hq
  obtain ⟨d, hd⟩ := Nat.le.dest hm
  rw [← hd] at h
  have h6 := bk_full_le d h
  have := h6 q hq
  rw [show (2 : Nat) ^ 6 = 64 from rfl, show (64 * c + i) / 64 = c by omega, Nat.mul_comm c 64] at this
  exact this
/-- a chunk that isn't full: its starts are the set's -/
theorem bk_part {S : Nat → Bool} {x : Int64} {c i V : Nat} (hV : 6 ≤ V) (hS : ∀ q, q < 64 → S (64 * c + q) = bL x q) (hx : x ≠ -1) (hi : i < 64) : bk_start (bL x) 6 i ↔ bk_start S V (64 * c + i) := by
  have nf : ∀ m, 6 ≤ m → ¬ bk_full S m (64 * c + i) := fun m hm h => hx (bL_ext fun q hq => by rw [← hS q hq, bk_full_6 hi hm h q hq, bL_m1 hq])
  constructor
  · rintro ⟨h1, h2⟩
    refine ⟨by rw [hS i hi]; exact h1, fun m hm hf => ?_⟩
    by_cases e : m ≤ 6
    · rw [bk_mod e]
      exact h2 m e ((bk_full_chunk hS hi e).mp hf)
    · exact absurd hf (nf m (by omega))
  · rintro ⟨h1, h2⟩
    refine ⟨by rw [← hS i hi]; exact h1, fun m hm hf => ?_⟩
    have := h2 m (by omega) ((bk_full_chunk hS hi hm).mpr hf)
    rw [bk_mod hm] at this
    exact this
/-- behind a chunk that isn't full no block stands open -/
theorem bk_bd_part {S : Nat → Bool} {x : Int64} {c V : Nat} (hS : ∀ q, q < 64 → S (64 * c + q) = bL x q) (hx : x ≠ -1) : bk_bd S V (64 * (c + 1)) := by
  intro m hm hf
  by_cases e : m ≤ 6
  · have := bk_mod (c := c + 1) (i := 0) e
    rw [Nat.add_zero, Nat.zero_mod] at this
    exact this
  · -- the block of 2^m words holds the word before, or begins here
    rcases Nat.eq_zero_or_pos (64 * (c + 1) % 2 ^ m) with z | z
    · exact z
    · exfalso
      have hp : 0 < 2 ^ m := Nat.two_pow_pos m
      have hb : (64 * c + 63) / 2 ^ m = 64 * (c + 1) / 2 ^ m := by
        have h1 := Nat.div_add_mod (64 * (c + 1)) (2 ^ m)
        have h2 : 64 * c + 63 = 2 ^ m * (64 * (c + 1) / 2 ^ m) + (64 * (c + 1) % 2 ^ m - 1) := by omega
        have h3 := Nat.mod_lt (64 * (c + 1)) hp
        have h4 : (64 * (c + 1) % 2 ^ m - 1) / 2 ^ m = 0 := Nat.div_eq_of_lt (by omega)
        rw [h2, Nat.mul_add_div hp, h4, Nat.add_zero]
      have hf2 := (bk_full_same hb).mpr hf
      exact hx (bL_ext fun q hq => by rw [← hS q hq, bk_full_6 (by decide) (by omega) hf2 q hq, bL_m1 hq])
/-- the set of a row -/
def rowS (f : Nat → Int64) (n w : Nat) : Bool := decide (w < 64 * n) && wm f w
theorem rowS_at {f : Nat → Int64} {n c q : Nat} (hc : c < n) (hq : q < 64) : rowS f n (64 * c + q) = bL (f c) q := by
  unfold rowS wm
  rw [decide_eq_true (show 64 * c + q < 64 * n by omega), Bool.true_and, show (64 * c + q) / 64 = c by omega, show (64 * c + q) % 64 = q by omega]
theorem rowS_lt {f : Nat → Int64} {n w : Nat} (h : rowS f n w = true) : w < 64 * n := by
  unfold rowS at h
  rw [Bool.and_eq_true, decide_eq_true_eq] at h
  exact h.1
theorem ck_full {f : Nat → Int64} {n c j : Nat} (h : ckF f n c j) : 64 * c % 2 ^ (6 + j) = 0 ∧ bk_full (rowS f n) (6 + j) (64 * c) := by
  have hp : 2 ^ (6 + j) = 64 * 2 ^ j := by rw [Nat.pow_add]
  have hm : 64 * c % 2 ^ (6 + j) = 0 := by rw [hp, Nat.mul_mod_mul_left, h.1, Nat.mul_zero]
  refine ⟨hm, (bk_full_at hm).mpr fun t ht => ?_⟩
  rw [hp] at ht
  have h1 := h.2.1
  have hd := h.2.2 (c + t / 64) (by omega) (by omega)
  have e : 64 * c + t = 64 * (c + t / 64) + t % 64 := by omega
  rw [e, rowS_at (by omega) (by omega), hd, bL_m1 (by omega)]
theorem ck_of_full {f : Nat → Int64} {n c j : Nat} (hm : 64 * c % 2 ^ (6 + j) = 0) (hf : bk_full (rowS f n) (6 + j) (64 * c)) : ckF f n c j := by
  have hp : 2 ^ (6 + j) = 64 * 2 ^ j := by rw [Nat.pow_add]
  have hpos : 0 < 2 ^ j := Nat.two_pow_pos j
  have hf2 := (bk_full_at hm).mp hf
  rw [hp] at hm hf2
  rw [Nat.mul_mod_mul_left] at hm
  have hle : c + 2 ^ j ≤ n := by
    have := rowS_lt (hf2 (64 * 2 ^ j - 1) (by omega))
    omega
  refine ⟨by omega, hle, fun d h1 h2 => bL_ext fun q hq => ?_⟩
  have := hf2 (64 * (d - c) + q) (by omega)
  rw [show 64 * c + (64 * (d - c) + q) = 64 * d + q by omega, rowS_at (by omega) hq] at this
  rw [this, bL_m1 hq]
theorem ck_block {f : Nat → Int64} {n W c j : Nat} (hbd : bk_bd (rowS f n) W (64 * c)) (h : ckF f n c j) (hj : 6 + j ≤ W) (hmax : ¬ (6 + j < W ∧ ckF f n c (j + 1))) :
    (∀ w, 64 * c ≤ w → w < 64 * (c + 2 ^ j) → (bk_start (rowS f n) W w ↔ w = 64 * c)) ∧ bk_bd (rowS f n) W (64 * (c + 2 ^ j)) := by
  obtain ⟨hm, hf⟩ := ck_full h
  have hp : 2 ^ (6 + j) = 64 * 2 ^ j := by rw [Nat.pow_add]
  have hpos : 0 < 2 ^ (6 + j) := Nat.two_pow_pos _
  have same : ∀ w, 64 * c ≤ w → w < 64 * (c + 2 ^ j) → w / 2 ^ (6 + j) = 64 * c / 2 ^ (6 + j) := by
    intro w h1 h2
    obtain ⟨q, hq⟩ := Nat.dvd_of_mod_eq_zero hm
    have e : w = 2 ^ (6 + j) * q + (w - 64 * c) := by omega
    have h4 : (w - 64 * c) / 2 ^ (6 + j) = 0 := Nat.div_eq_of_lt (by rw [hp]; omega)
    rw [e, Nat.mul_add_div hpos, h4, Nat.add_zero, hq, Nat.mul_div_cancel_left _ hpos]
  refine ⟨fun w h1 h2 => ⟨fun hs => ?_, fun e => ?_⟩, fun m hmW hfm => ?_⟩
  · have hw := hs.2 (6 + j) hj ((bk_full_same (same w h1 h2)).mpr hf)
    obtain ⟨q, hq⟩ := Nat.dvd_of_mod_eq_zero hw
    have e2 := same w h1 h2
    rw [hq, Nat.mul_div_cancel_left _ hpos] at e2
    obtain ⟨q2, hq2⟩ := Nat.dvd_of_mod_eq_zero hm
    rw [hq2, Nat.mul_div_cancel_left _ hpos] at e2
    rw [hq, hq2, e2]
  · subst e
    exact ⟨bk_full_self hf, hbd⟩
  · have e64 : 64 * (c + 2 ^ j) = 64 * c + 2 ^ (6 + j) := by rw [hp]; omega
    by_cases e : m ≤ 6 + j
    · obtain ⟨d, hd⟩ := Nat.le.dest e
      have d1 : 2 ^ m ∣ 2 ^ (6 + j) := Nat.pow_dvd_pow 2 e
      rw [e64]
      exact Nat.mod_eq_zero_of_dvd (Nat.dvd_add (Nat.dvd_trans d1 (Nat.dvd_of_mod_eq_zero hm)) d1)
    · rcases Nat.eq_zero_or_pos (64 * (c + 2 ^ j) % 2 ^ m) with z | z
      · exact z
      · exfalso
        have hpm : 0 < 2 ^ m := Nat.two_pow_pos m
        obtain ⟨d, hd⟩ := Nat.le.dest (show 6 + j + 1 ≤ m by omega)
        have em : 2 ^ m = 2 ^ (6 + j) * 2 ^ (m - (6 + j)) := by rw [← Nat.pow_add]; congr 1; omega
        have hb : (64 * (c + 2 ^ j) - 1) / 2 ^ m = 64 * (c + 2 ^ j) / 2 ^ m := by
          have h1 := Nat.div_add_mod (64 * (c + 2 ^ j)) (2 ^ m)
          have h3 := Nat.mod_lt (64 * (c + 2 ^ j)) hpm
          have h2 : 64 * (c + 2 ^ j) - 1 = 2 ^ m * (64 * (c + 2 ^ j) / 2 ^ m) + (64 * (c + 2 ^ j) % 2 ^ m - 1) := by omega
          have h4 : (64 * (c + 2 ^ j) % 2 ^ m - 1) / 2 ^ m = 0 := Nat.div_eq_of_lt (by omega)
          rw [h2, Nat.mul_add_div hpm, h4, Nat.add_zero]
        have hc1 : (64 * (c + 2 ^ j) - 1) / 2 ^ m = 64 * c / 2 ^ m := by
          rw [em, ← Nat.div_div_eq_div_mul, ← Nat.div_div_eq_div_mul, same _ (by have := Nat.two_pow_pos j; omega) (by have := Nat.two_pow_pos j; omega)]
        have hfc : bk_full (rowS f n) m (64 * c) := (bk_full_same (hc1.symm.trans hb)).mpr hfm
        have hmc := hbd m hmW hfc
        rw [← hd] at hfc hmc
        have hf7 := bk_full_le d hfc
        have hm7 : 64 * c % 2 ^ (6 + (j + 1)) = 0 := Nat.mod_eq_zero_of_dvd (Nat.dvd_trans (Nat.pow_dvd_pow 2 (by omega)) (Nat.dvd_of_mod_eq_zero hmc))
        exact hmax ⟨by omega, ck_of_full hm7 hf7⟩
