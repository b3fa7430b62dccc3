/-! blocks: w lies in the block of 2^n words from w / 2^n * 2^n on -/
def bk_full (S : Nat → Bool) (n w : Nat) : Prop := ∀ t, t < 2 ^ n → S (w / 2 ^ n * 2 ^ n + t) = true
/-- the lowest word of a greatest block of the set, among blocks of at most 2^W words -/
def bk_start (S : Nat → Bool) (W w : Nat) : Prop := S w = true ∧ ∀ n, n ≤ W → bk_full S n w → w % 2 ^ n = 0
theorem bk_full_at {S : Nat → Bool} {n w : Nat} (h : w % 2 ^ n = 0) : bk_full S n w ↔ ∀ t, t < 2 ^ n → S (w + t) = true := by
  have e : w / 2 ^ n * 2 ^ n = w := by
    have := Nat.div_add_mod w (2 ^ n)
    rw [h, Nat.add_zero, Nat.mul_comm] at this
    exact this
  unfold bk_full
  rw [e]
theorem bk_full_self {S : Nat → Bool} {n w : Nat} (h : bk_full S n w) : S w = true := by
  have := h (w % 2 ^ n) (Nat.mod_lt _ (Nat.two_pow_pos n))
  have e : w / 2 ^ n * 2 ^ n + w % 2 ^ n = w := by
    have := Nat.div_add_mod w (2 ^ n)
    rw [Nat.mul_comm] at this
    exact this
  rw [e] at this
  exact this
/-- the same block from another word of it -/
theorem bk_full_same {S : Nat → Bool} {n w v : Nat} (e : w / 2 ^ n = v / 2 ^ n) : bk_full S n w ↔ bk_full S n v := by
  unfold bk_full
  rw [e]
theorem bk_full_succ {S : Nat → Bool} {n w : Nat} (h : bk_full S (n + 1) w) : bk_full S n w := by
  intro t ht
  have hp : 2 ^ (n + 1) = 2 * 2 ^ n := by rw [Nat.pow_succ, Nat.mul_comm]
  have hpos : 0 < 2 ^ n := Nat.two_pow_pos n
  unfold bk_full at h
  rw [hp] at h
  generalize 2 ^ n = p at h ht hpos ⊢
  have e0 : w / (2 * p) = w / p / 2 := by rw [Nat.mul_comm, Nat.div_div_eq_div_mul]
  rw [e0] at h
  generalize w / p = q at h ⊢
  have := h (q % 2 * p + t) (by
    rcases Nat.mod_two_eq_zero_or_one q with z | z <;> rw [z] <;> omega)
  have e : q / 2 * (2 * p) + (q % 2 * p + t) = q * p + t := by
    rw [← Nat.add_assoc, ← Nat.mul_assoc, ← Nat.add_mul]
    congr 2
    omega
  rw [e] at this
  exact this
theorem bk_full_le {S : Nat → Bool} {n w : Nat} : ∀ k, bk_full S (n + k) w → bk_full S n w
  | 0, h => h
  | k + 1, h => bk_full_le k (bk_full_succ h)
/-! the places of blocks in a long -/
def bk_P : Nat → Int64
  | 0 => 0x5555555555555555
  | 1 => 0x1111111111111111
  | 2 => 0x0101010101010101
  | 3 => 0x0001000100010001
  | 4 => 0x0000000100000001
  | _ => 0x0000000000000001
theorem bk_P_bit : ∀ j, j < 6 → ∀ i, i < 64 → bL (bk_P j) i = decide (i % 2 ^ (j + 1) = 0) := by decide +kernel
/-- whole blocks of 2^j words in a long -/
def bk_w (x : Int64) : Nat → Int64
  | 0 => x
  | j + 1 => (bk_w x j &&& jushrL (bk_w x j) (nI (2 ^ j))) &&& bk_P j
theorem bk_w_bit (x : Int64) : ∀ j, j ≤ 6 → ∀ i, bL (bk_w x j) i = true ↔ (i % 2 ^ j = 0 ∧ i + 2 ^ j ≤ 64 ∧ ∀ t, t < 2 ^ j → bL x (i + t) = true)
  | 0, _, i => by
    rw [bk_w]
    constructor
    · intro h
      refine ⟨Nat.mod_one i, ?_, fun t ht => ?_⟩
      · by_cases hi : i < 64
        · omega
        · rw [bL_ge (by omega)] at h; cases h
      · have : t = 0 := by omega
        rw [this]; exact h
    · intro h
      exact h.2.2 0 (by decide)
  | j + 1, hj, i => by
    have hpow : 2 ^ j < 64 := by
      have : 2 ^ j ≤ 2 ^ 5 := Nat.pow_le_pow_right (by decide) (by omega)
      omega
    have hp : 2 ^ (j + 1) = 2 * 2 ^ j := by rw [Nat.pow_succ, Nat.mul_comm]
    rw [bk_w, bL_and, bL_and, bL_ushr _ hpow, Bool.and_eq_true, Bool.and_eq_true, bk_w_bit x j (by omega) i, bk_w_bit x j (by omega) (2 ^ j + i)]
    constructor
    · rintro ⟨⟨⟨a1, a2, a3⟩, b1, b2, b3⟩, c1⟩
      have hi : i < 64 := by have := Nat.two_pow_pos j; omega
      rw [bk_P_bit j (by omega) i hi, decide_eq_true_eq] at c1
      refine ⟨c1, by rw [hp]; omega, fun t ht => ?_⟩
      by_cases h : t < 2 ^ j
      · exact a3 t h
      · have := b3 (t - 2 ^ j) (by rw [hp] at ht; omega)
        rw [show 2 ^ j + i + (t - 2 ^ j) = i + t by omega] at this
        exact this
    · rintro ⟨a1, a2, a3⟩
      have hi : i < 64 := by have := Nat.two_pow_pos (j + 1); omega
      have m0 : i % 2 ^ j = 0 := by
        rw [hp] at a1
        have := Nat.mod_mod_of_dvd i (Nat.dvd_mul_left (2 ^ j) 2)
        rw [a1, Nat.zero_mod] at this
        exact this.symm
      refine ⟨⟨⟨m0, by rw [hp] at a2; omega, fun t ht => a3 t (by rw [hp]; omega)⟩, by rw [Nat.add_mod_left]; exact m0, by rw [hp] at a2; omega, fun t ht => ?_⟩, by rw [bk_P_bit j (by omega) i hi, decide_eq_true_eq]; exact a1⟩
      have := a3 (2 ^ j + t) (by rw [hp]; omega)
      rw [show i + (2 ^ j + t) = 2 ^ j + i + t by omega] at this
      exact this
/-- the starts that the loop of blockStarts has after j rounds -/
def bk_s (x : Int64) : Nat → Int64
  | 0 => 0
  | j + 1 => bk_s x j ||| (bk_w x j &&& ((bk_w x (j + 1) ||| jshlL (bk_w x (j + 1)) (nI (2 ^ j))) ^^^ (-1)))
/-! the lowest bit -/
theorem nz_and {k a b c d : Nat} (ha : a < 2 ^ k) (hc : c < 2 ^ k) : (a + 2 ^ k * b) &&& (c + 2 ^ k * d) = (a &&& c) + 2 ^ k * (b &&& d) := by
  have hp : 0 < 2 ^ k := Nat.two_pow_pos k
  have m1 : (a + 2 ^ k * b) % 2 ^ k = a := by rw [Nat.add_mul_mod_self_left, Nat.mod_eq_of_lt ha]
  have m2 : (c + 2 ^ k * d) % 2 ^ k = c := by rw [Nat.add_mul_mod_self_left, Nat.mod_eq_of_lt hc]
  have d1 : (a + 2 ^ k * b) / 2 ^ k = b := by rw [Nat.add_mul_div_left _ _ hp, Nat.div_eq_of_lt ha, Nat.zero_add]
  have d2 : (c + 2 ^ k * d) / 2 ^ k = d := by rw [Nat.add_mul_div_left _ _ hp, Nat.div_eq_of_lt hc, Nat.zero_add]
  have h1 : ((a + 2 ^ k * b) &&& (c + 2 ^ k * d)) % 2 ^ k = (a &&& c) := by rw [Nat.and_mod_two_pow, m1, m2]
  have h2 : ((a + 2 ^ k * b) &&& (c + 2 ^ k * d)) / 2 ^ k = (b &&& d) := by rw [Nat.and_div_two_pow, d1, d2]
  have := Nat.mod_add_div ((a + 2 ^ k * b) &&& (c + 2 ^ k * d)) (2 ^ k)
  rw [h1, h2] at this
  exact this.symm
/-- the lowest set bit of x -/
def nz_low (x : Nat → Bool) (t : Nat) : Prop := x t = true ∧ ∀ i, i < t → x i = false
/-- what the JDK's numberOfTrailingZeros makes of i = ~x & (x - 1) -/
def nz_core (i : Int32) : Int32 :=
  if i ≤ 0 then i &&& 32 else
  let a : Int32 × Int32 := if 65536 < i then (17, jushr i 16) else (1, i)
  let b : Int32 × Int32 := if 256 < a.2 then (a.1 + 8, jushr a.2 8) else a
  let d : Int32 × Int32 := if 16 < b.2 then (b.1 + 4, jushr b.2 4) else b
  let f : Int32 × Int32 := if 4 < d.2 then (d.1 + 2, jushr d.2 2) else d
  f.1 + jushr f.2 1
theorem nz_core_pow : ∀ t, t < 32 → nz_core (nI (2 ^ t - 1)) = nI t := by decide +kernel
theorem nz_core_m1 : nz_core (-1) = 32 := by decide +kernel
