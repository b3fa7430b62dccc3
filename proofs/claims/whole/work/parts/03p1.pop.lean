/-! counting -/
def pu_c (p : Nat → Bool) : Nat → Nat
  | 0 => 0
  | n + 1 => pu_c p n + (if p n = true then 1 else 0)
theorem pu_c_congr {p q : Nat → Bool} : ∀ n : Nat, (∀ i, i < n → p i = q i) → pu_c p n = pu_c q n
  | 0, _ => rfl
  | n + 1, h => by
    rw [pu_c, pu_c, pu_c_congr n (fun i hi => h i (by omega)), h n (by omega)]
theorem pu_c_add (p : Nat → Bool) (a : Nat) : ∀ b : Nat, pu_c p (a + b) = pu_c p a + pu_c (fun i => p (a + i)) b
  | 0 => rfl
  | b + 1 => by
    rw [← Nat.add_assoc, pu_c, pu_c_add p a b, pu_c, Nat.add_assoc]
theorem pu_c_le (p : Nat → Bool) : ∀ n : Nat, pu_c p n ≤ n
  | 0 => Nat.le_refl 0
  | n + 1 => by
    have := pu_c_le p n
    rw [pu_c]
    split <;> omega
/-! bits of a long counted by bytes -/
def pu_mk (k : Nat) : Nat → Nat
  | 0 => 0
  | n + 1 => k + 256 * pu_mk k n
theorem pu_and {a b c d : Nat} (ha : a < 256) (hc : c < 256) : (a + 256 * b) &&& (c + 256 * d) = (a &&& c) + 256 * (b &&& d) := by
  have m1 : (a + 256 * b) % 2 ^ 8 = a := by omega
  have m2 : (c + 256 * d) % 2 ^ 8 = c := by omega
  have d1 : (a + 256 * b) / 2 ^ 8 = b := by omega
  have d2 : (c + 256 * d) / 2 ^ 8 = d := by omega
  have h1 : ((a + 256 * b) &&& (c + 256 * d)) % 2 ^ 8 = (a &&& c) := by rw [Nat.and_mod_two_pow, m1, m2]
  have h2 : ((a + 256 * b) &&& (c + 256 * d)) / 2 ^ 8 = (b &&& d) := by rw [Nat.and_div_two_pow, d1, d2]
  generalize (a + 256 * b) &&& (c + 256 * d) = z at h1 h2 ⊢
  generalize (a &&& c) = u at h1 ⊢
  generalize (b &&& d) = v at h2 ⊢
  omega
def pu_1 (n x : Nat) : Nat := x - ((x / 2) &&& pu_mk 85 n)
def pu_2 (n x : Nat) : Nat := (x &&& pu_mk 51 n) + ((x / 4) &&& pu_mk 51 n)
def pu_3 (n x : Nat) : Nat := (x + x / 16) &&& pu_mk 15 n
theorem pu_t1 : ∀ a, a < 128 → ∀ z, z < 2 → (a + 128 * z) &&& 85 = a &&& 85 := by decide +kernel
theorem pu_t2 : ∀ a, a < 64 → ∀ z, z < 4 → (a + 64 * z) &&& 51 = a &&& 51 := by decide +kernel
def pu_b1 (b : Nat) : Nat := b - ((b / 2) &&& 85)
def pu_b2 (b : Nat) : Nat := (pu_b1 b &&& 51) + ((pu_b1 b / 4) &&& 51)
def pu_8 (b : Nat) : Nat := pu_c (fun i => b.testBit i) 8
theorem pu_tb : ∀ b, b < 256 → pu_b2 b % 16 ≤ 4 ∧ pu_b2 b / 16 ≤ 4 ∧ pu_b2 b % 16 + pu_b2 b / 16 = pu_8 b ∧ pu_8 b ≤ 8 := by decide +kernel
theorem pu_1_step {n lo hi : Nat} (h : lo < 256) : pu_1 (n + 1) (lo + 256 * hi) = pu_b1 lo + 256 * pu_1 n hi := by
  unfold pu_1 pu_b1
  have e1 : (lo + 256 * hi) / 2 = (lo / 2 + 128 * (hi % 2)) + 256 * (hi / 2) := by omega
  rw [e1, pu_mk, pu_and (by omega) (by decide), pu_t1 (lo / 2) (by omega) (hi % 2) (by omega)]
  have l1 : (lo / 2) &&& 85 ≤ lo / 2 := Nat.and_le_left
  have l2 : (hi / 2) &&& pu_mk 85 n ≤ hi / 2 := Nat.and_le_left
  generalize (lo / 2) &&& 85 = u at l1 ⊢
  generalize (hi / 2) &&& pu_mk 85 n = v at l2 ⊢
  omega
theorem pu_2_step {n lo hi : Nat} (h : lo < 256) : pu_2 (n + 1) (lo + 256 * hi) = ((lo &&& 51) + ((lo / 4) &&& 51)) + 256 * pu_2 n hi := by
  unfold pu_2
  have e1 : (lo + 256 * hi) / 4 = (lo / 4 + 64 * (hi % 4)) + 256 * (hi / 4) := by omega
  rw [e1, pu_mk, pu_and h (by decide), pu_and (by omega) (by decide), pu_t2 (lo / 4) (by omega) (hi % 4) (by omega)]
  generalize lo &&& 51 = a
  generalize (lo / 4) &&& 51 = b
  generalize hi &&& pu_mk 51 n = d
  generalize (hi / 4) &&& pu_mk 51 n = f
  omega
def pu_21 (n x : Nat) : Nat := pu_2 n (pu_1 n x)
theorem pu_b1_lt {b : Nat} (h : b < 256) : pu_b1 b < 256 := by unfold pu_b1; omega
theorem pu_21_step {n lo hi : Nat} (h : lo < 256) : pu_21 (n + 1) (lo + 256 * hi) = pu_b2 lo + 256 * pu_21 n hi := by
  unfold pu_21
  rw [pu_1_step h, pu_2_step (pu_b1_lt h)]
  rfl
theorem pu_21_nib : ∀ (n x : Nat), x < 256 ^ n → pu_21 n x % 16 ≤ 4
  | 0, x, h => by
    have : x = 0 := by omega
    subst this
    decide
  | n + 1, x, h => by
    have e : x = x % 256 + 256 * (x / 256) := by omega
    have hl : x % 256 < 256 := by omega
    rw [e, pu_21_step hl]
    have := (pu_tb _ hl).1
    omega
theorem pu_3_step {n u y : Nat} (h1 : u % 16 ≤ 4) (h2 : u / 16 ≤ 4) (hy : y % 16 ≤ 4) : pu_3 (n + 1) (u + 256 * y) = (u % 16 + u / 16) + 256 * pu_3 n y := by
  unfold pu_3
  have e1 : (u + 256 * y) + (u + 256 * y) / 16 = (u + u / 16 + 16 * (y % 16)) + 256 * (y + y / 16) := by omega
  have e2 : (u + u / 16 + 16 * (y % 16)) &&& 15 = u % 16 + u / 16 := by
    have := Nat.and_two_pow_sub_one_eq_mod (u + u / 16 + 16 * (y % 16)) 4
    rw [show (15 : Nat) = 2 ^ 4 - 1 from rfl, this]
    omega
  rw [e1, pu_mk, pu_and (by omega) (by decide), e2]
def pu_a (n x : Nat) : Nat := pu_3 n (pu_21 n x)
theorem pu_a_step {n lo hi : Nat} (h : lo < 256) (hh : hi < 256 ^ n) : pu_a (n + 1) (lo + 256 * hi) = pu_8 lo + 256 * pu_a n hi := by
  unfold pu_a
  obtain ⟨a, b, d, -⟩ := pu_tb lo h
  rw [pu_21_step h, pu_3_step a b (pu_21_nib n hi hh), d]
theorem pu_c_byte {lo hi m : Nat} (h : lo < 256) : pu_c (fun i => (lo + 256 * hi).testBit i) (8 + m) = pu_8 lo + pu_c (fun i => hi.testBit i) m := by
  rw [pu_c_add]
  have e1 : (lo + 256 * hi) % 2 ^ 8 = lo := by omega
  have e2 : (lo + 256 * hi) / 2 ^ 8 = hi := by omega
  congr 1
  · unfold pu_8
    refine pu_c_congr 8 (fun i hi' => ?_)
    show (lo + 256 * hi).testBit i = lo.testBit i
    have := Nat.testBit_mod_two_pow (lo + 256 * hi) 8 i
    rw [e1] at this
    rw [this, decide_eq_true hi', Bool.true_and]
  · refine pu_c_congr m (fun i _ => ?_)
    show (lo + 256 * hi).testBit (8 + i) = hi.testBit i
    have := Nat.testBit_div_two_pow (n := 8) (lo + 256 * hi) i
    rw [e2] at this
    rw [this, Nat.add_comm 8 i]
def pu_f8 (z : Nat) : Nat := (z + z / 256 + (z + z / 256) / 65536 + (z + z / 256 + (z + z / 256) / 65536) / 4294967296) % 128
def pu_f4 (z : Nat) : Nat := (z + z / 256 + (z + z / 256) / 65536) % 64
theorem pu_split (x : Nat) : ∃ lo hi : Nat, lo < 256 ∧ x = lo + 256 * hi ∧ hi = x / 256 := ⟨x % 256, x / 256, by omega, by omega, rfl⟩
theorem pu_div32 {L B : Nat} (h : L < 4294967296) : (L + 4294967296 * B) / 4294967296 = B := by
  rw [Nat.add_mul_div_left _ _ (by decide), Nat.div_eq_of_lt h, Nat.zero_add]
theorem pu_div16 {L B : Nat} (h : L < 65536) : (L + 65536 * B) / 65536 = B := by
  rw [Nat.add_mul_div_left _ _ (by decide), Nat.div_eq_of_lt h, Nat.zero_add]
theorem pu_div8 {L B : Nat} (h : L < 256) : (L + 256 * B) / 256 = B := by
  rw [Nat.add_mul_div_left _ _ (by decide), Nat.div_eq_of_lt h, Nat.zero_add]
theorem pu_sum8 {q0 q1 q2 q3 q4 q5 q6 q7 : Nat} (p0 : q0 ≤ 8) (p1 : q1 ≤ 8) (p2 : q2 ≤ 8) (p3 : q3 ≤ 8) (p4 : q4 ≤ 8) (p5 : q5 ≤ 8) (p6 : q6 ≤ 8) (p7 : q7 ≤ 8) : pu_f8 (q0 + 256 * (q1 + 256 * (q2 + 256 * (q3 + 256 * (q4 + 256 * (q5 + 256 * (q6 + 256 * q7))))))) = q0 + q1 + q2 + q3 + q4 + q5 + q6 + q7 := by
  obtain ⟨B7, h7⟩ : ∃ z, z = q7 := ⟨_, rfl⟩
  obtain ⟨B6, h6⟩ : ∃ z, z = q6 + 256 * B7 := ⟨_, rfl⟩
  obtain ⟨B5, h5⟩ : ∃ z, z = q5 + 256 * B6 := ⟨_, rfl⟩
  obtain ⟨B4, h4⟩ : ∃ z, z = q4 + 256 * B5 := ⟨_, rfl⟩
  obtain ⟨B3, h3⟩ : ∃ z, z = q3 + 256 * B4 := ⟨_, rfl⟩
  obtain ⟨B2, h2⟩ : ∃ z, z = q2 + 256 * B3 := ⟨_, rfl⟩
  obtain ⟨B1, h1⟩ : ∃ z, z = q1 + 256 * B2 := ⟨_, rfl⟩
  rw [← h7, ← h6, ← h5, ← h4, ← h3, ← h2, ← h1]
  unfold pu_f8
  have e1 : (q0 + 256 * B1) / 256 = B1 := pu_div8 (by omega)
  rw [e1]
  have e2 : (q0 + 256 * B1 + B1) / 65536 = B2 + B3 := by
    have : q0 + 256 * B1 + B1 = (q0 + q1 + 256 * (q1 + q2)) + 65536 * (B2 + B3) := by omega
    rw [this, pu_div16 (by omega)]
  rw [e2]
  have e3 : (q0 + 256 * B1 + B1 + (B2 + B3)) / 4294967296 = B4 + B5 + B6 + B7 := by
    have a0 : 256 * B1 = 256 * q1 + 65536 * q2 + 16777216 * q3 + 4294967296 * B4 := by omega
    have a1 : B1 = q1 + 256 * q2 + 65536 * q3 + 16777216 * q4 + 4294967296 * B5 := by omega
    have a2 : B2 = q2 + 256 * q3 + 65536 * q4 + 16777216 * q5 + 4294967296 * B6 := by omega
    have a3 : B3 = q3 + 256 * q4 + 65536 * q5 + 16777216 * q6 + 4294967296 * B7 := by omega
    have : q0 + 256 * B1 + B1 + (B2 + B3) = (q0 + (256 * q1 + 65536 * q2 + 16777216 * q3) + (q1 + 256 * q2 + 65536 * q3 + 16777216 * q4) + ((q2 + 256 * q3 + 65536 * q4 + 16777216 * q5) + (q3 + 256 * q4 + 65536 * q5 + 16777216 * q6))) + 4294967296 * (B4 + B5 + B6 + B7) := by
      rw [a0, a2, a3]
      clear h1 h2 h3 h4 h5 h6 h7 a0 a2 a3 e1 e2
      omega
    rw [this, pu_div32 (by clear this a0 a1 a2 a3 e1 e2 h1 h2 h3 h4 h5 h6 h7; omega)]
  rw [e3]
  clear e1 e2 e3
  omega
theorem pu_sum4 {q0 q1 q2 q3 : Nat} (p0 : q0 ≤ 8) (p1 : q1 ≤ 8) (p2 : q2 ≤ 8) (p3 : q3 ≤ 8) : pu_f4 (q0 + 256 * (q1 + 256 * (q2 + 256 * q3))) = q0 + q1 + q2 + q3 := by
  obtain ⟨B3, h3⟩ : ∃ z, z = q3 := ⟨_, rfl⟩
  obtain ⟨B2, h2⟩ : ∃ z, z = q2 + 256 * B3 := ⟨_, rfl⟩
  obtain ⟨B1, h1⟩ : ∃ z, z = q1 + 256 * B2 := ⟨_, rfl⟩
  rw [← h3, ← h2, ← h1]
  unfold pu_f4
  have e1 : (q0 + 256 * B1) / 256 = B1 := pu_div8 (by omega)
  rw [e1]
  have e2 : (q0 + 256 * B1 + B1) / 65536 = B2 + B3 := by
    have : q0 + 256 * B1 + B1 = (q0 + q1 + 256 * (q1 + q2)) + 65536 * (B2 + B3) := by omega
    rw [this, pu_div16 (by omega)]
  rw [e2]
  clear e1 e2
  omega
theorem pu_pop64 {x : Nat} (h : x < 2 ^ 64) : pu_f8 (pu_a 8 x) = pu_c (fun i => x.testBit i) 64 := by
  obtain ⟨b0, x1, h0, e0, f0⟩ := pu_split x
  obtain ⟨b1, x2, h1, e1, f1⟩ := pu_split x1
  obtain ⟨b2, x3, h2, e2, f2⟩ := pu_split x2
  obtain ⟨b3, x4, h3, e3, f3⟩ := pu_split x3
  obtain ⟨b4, x5, h4, e4, f4⟩ := pu_split x4
  obtain ⟨b5, x6, h5, e5, f5⟩ := pu_split x5
  obtain ⟨b6, x7, h6, e6, f6⟩ := pu_split x6
  obtain ⟨b7, x8, h7, e7, f7⟩ := pu_split x7
  have l1 : x1 < 256 ^ 7 := by rw [f0]; exact Nat.div_lt_of_lt_mul (by rw [show 256 * 256 ^ 7 = 2 ^ 64 from by decide]; exact h)
  have l2 : x2 < 256 ^ 6 := by rw [f1]; exact Nat.div_lt_of_lt_mul (by rw [show 256 * 256 ^ 6 = 256 ^ 7 from by decide]; exact l1)
  have l3 : x3 < 256 ^ 5 := by rw [f2]; exact Nat.div_lt_of_lt_mul (by rw [show 256 * 256 ^ 5 = 256 ^ 6 from by decide]; exact l2)
  have l4 : x4 < 256 ^ 4 := by rw [f3]; exact Nat.div_lt_of_lt_mul (by rw [show 256 * 256 ^ 4 = 256 ^ 5 from by decide]; exact l3)
  have l5 : x5 < 256 ^ 3 := by rw [f4]; exact Nat.div_lt_of_lt_mul (by rw [show 256 * 256 ^ 3 = 256 ^ 4 from by decide]; exact l4)
  have l6 : x6 < 256 ^ 2 := by rw [f5]; exact Nat.div_lt_of_lt_mul (by rw [show 256 * 256 ^ 2 = 256 ^ 3 from by decide]; exact l5)
  have l7 : x7 < 256 ^ 1 := by rw [f6]; exact Nat.div_lt_of_lt_mul (by rw [show 256 * 256 ^ 1 = 256 ^ 2 from by decide]; exact l6)
  have l8 : x8 = 0 := by rw [f7]; exact Nat.div_eq_of_lt (by rw [Nat.pow_one] at l7; exact l7)
  have ha : pu_a 8 x = pu_8 b0 + 256 * (pu_8 b1 + 256 * (pu_8 b2 + 256 * (pu_8 b3 + 256 * (pu_8 b4 + 256 * (pu_8 b5 + 256 * (pu_8 b6 + 256 * (pu_8 b7 + 256 * pu_a 0 0))))))) := by
    rw [e0, pu_a_step h0 l1, e1, pu_a_step h1 l2, e2, pu_a_step h2 l3, e3, pu_a_step h3 l4, e4, pu_a_step h4 l5, e5, pu_a_step h5 l6, e6, pu_a_step h6 l7, e7, l8, pu_a_step h7 (by decide)]
  have hc : pu_c (fun i => x.testBit i) 64 = pu_8 b0 + (pu_8 b1 + (pu_8 b2 + (pu_8 b3 + (pu_8 b4 + (pu_8 b5 + (pu_8 b6 + (pu_8 b7 + 0))))))) := by
    rw [show (64 : Nat) = 8 + (8 + (8 + (8 + (8 + (8 + (8 + (8 + 0))))))) from rfl, e0, pu_c_byte h0, e1, pu_c_byte h1, e2, pu_c_byte h2, e3, pu_c_byte h3, e4, pu_c_byte h4, e5, pu_c_byte h5, e6, pu_c_byte h6, e7, pu_c_byte h7]
    rfl
  have z0 : pu_a 0 0 = 0 := by decide
  rw [ha, hc, z0, show pu_8 b7 + 256 * 0 = pu_8 b7 from rfl, pu_sum8 (pu_tb b0 h0).2.2.2 (pu_tb b1 h1).2.2.2 (pu_tb b2 h2).2.2.2 (pu_tb b3 h3).2.2.2 (pu_tb b4 h4).2.2.2 (pu_tb b5 h5).2.2.2 (pu_tb b6 h6).2.2.2 (pu_tb b7 h7).2.2.2]
  clear ha hc
  omega
theorem pu_pop32 {x : Nat} (h : x < 2 ^ 32) : pu_f4 (pu_a 4 x) = pu_c (fun i => x.testBit i) 32 := by
  obtain ⟨b0, b1, b2, b3, h0, h1, h2, h3, e⟩ : ∃ b0 b1 b2 b3 : Nat, b0 < 256 ∧ b1 < 256 ∧ b2 < 256 ∧ b3 < 256 ∧ x = b0 + 256 * (b1 + 256 * (b2 + 256 * (b3 + 256 * 0))) :=
    ⟨x % 256, x / 256 % 256, x / 65536 % 256, x / 16777216 % 256, by omega, by omega, by omega, by omega, by omega⟩
  have ha : pu_a 4 x = pu_8 b0 + 256 * (pu_8 b1 + 256 * (pu_8 b2 + 256 * (pu_8 b3 + 256 * pu_a 0 0))) := by
    rw [e, pu_a_step h0 (by omega), pu_a_step h1 (by omega), pu_a_step h2 (by omega), pu_a_step h3 (by omega)]
  have hc : pu_c (fun i => x.testBit i) 32 = pu_8 b0 + (pu_8 b1 + (pu_8 b2 + (pu_8 b3 + 0))) := by
    rw [e, show (32 : Nat) = 8 + (8 + (8 + (8 + 0))) from rfl, pu_c_byte h0, pu_c_byte h1, pu_c_byte h2, pu_c_byte h3]
    rfl
  have z0 : pu_a 0 0 = 0 := by decide
  rw [ha, hc, z0, show pu_8 b3 + 256 * 0 = pu_8 b3 from rfl, pu_sum4 (pu_tb b0 h0).2.2.2 (pu_tb b1 h1).2.2.2 (pu_tb b2 h2).2.2.2 (pu_tb b3 h3).2.2.2]
  clear ha hc
  omega
