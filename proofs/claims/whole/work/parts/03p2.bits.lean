/-! ===== lN n to 2^64: shifts, and, or, masks, one bit ===== -/
theorem wb_tb (n : Nat) : (lN n).toBitVec = BitVec.ofNat 64 n := rfl
theorem wb_inj {a b : Int64} (h : a.toBitVec = b.toBitVec) : a = b := Int64.toBitVec_inj.mp h
theorem wb_tn {n : Nat} (h : n < 2 ^ 64) : (lN n).toBitVec.toNat = n := by rw [wb_tb, BitVec.toNat_ofNat, Nat.mod_eq_of_lt h]
theorem wb_of (x : Int64) : ∃ n, n < 2 ^ 64 ∧ x = lN n := ⟨x.toBitVec.toNat, x.toBitVec.isLt, wb_inj (by rw [wb_tb]; simp)⟩
theorem wb_of32 (x : Int32) : ∃ n, n < 2 ^ 32 ∧ x = nI n := ⟨x.toBitVec.toNat, x.toBitVec.isLt, Int32.toBitVec_inj.mp (by show _ = BitVec.ofNat 32 _; simp)⟩
theorem wb_c : ∀ k, k < 64 → ((nI k).toInt64 &&& 63) = lN k := by decide +kernel
theorem wb_cu : ∀ k, k < 64 → ((nI k).toInt64.toUInt64 &&& Int64.toUInt64 63) = UInt64.ofNat k := by decide +kernel
theorem wb_sm : ∀ k, k < 64 → (BitVec.ofNat 64 k).smod 64 = BitVec.ofNat 64 k := by decide +kernel
theorem wb_pw {a b : Nat} (h : a ≤ b) : 2 ^ b = 2 ^ a * 2 ^ (b - a) := by rw [← Nat.pow_add]; congr 1; omega
theorem wb_lt2 {a b : Nat} (h : a < b) : 2 ^ a < 2 ^ b := Nat.pow_lt_pow_right (by decide) h
theorem wb_mod (n : Nat) : lN n = lN (n % 2 ^ 64) := wb_inj (by rw [wb_tb, wb_tb]; apply BitVec.eq_of_toNat_eq; rw [BitVec.toNat_ofNat, BitVec.toNat_ofNat, Nat.mod_mod])
theorem wb_shr {n k : Nat} (hn : n < 2 ^ 64) (hk : k < 64) : ((lN n).toUInt64 >>> ((nI k).toInt64.toUInt64 &&& Int64.toUInt64 63)).toInt64 = lN (n / 2 ^ k) := by
  rw [wb_cu k hk]
  apply wb_inj
  apply BitVec.eq_of_toNat_eq
  show ((lN n).toUInt64 >>> UInt64.ofNat k).toNat = (BitVec.ofNat 64 _).toNat
  have h1 : (UInt64.ofNat k).toNat = k := by
    show (BitVec.ofNat 64 k).toNat = k
    rw [BitVec.toNat_ofNat, Nat.mod_eq_of_lt (by omega)]
  have h2 : (lN n).toUInt64.toNat = n := wb_tn hn
  rw [UInt64.toNat_shiftRight, h1, h2, Nat.mod_eq_of_lt hk, Nat.shiftRight_eq_div_pow, BitVec.toNat_ofNat, Nat.mod_eq_of_lt (Nat.lt_of_le_of_lt (Nat.div_le_self _ _) hn)]
theorem wb_shl (n : Nat) {k : Nat} (hk : k < 64) : lN n <<< ((nI k).toInt64 &&& 63) = lN (n * 2 ^ k) := by
  rw [wb_c k hk]
  apply wb_inj
  rw [Int64.toBitVec_shiftLeft, wb_tb, wb_tb, wb_tb, wb_sm k hk]
  apply BitVec.eq_of_toNat_eq
  rw [BitVec.shiftLeft_eq', BitVec.toNat_shiftLeft, BitVec.toNat_ofNat, BitVec.toNat_ofNat, BitVec.toNat_ofNat, Nat.mod_eq_of_lt (show k < 2 ^ 64 by omega), Nat.shiftLeft_eq, Nat.mul_mod, Nat.mod_mod, ← Nat.mul_mod]
theorem wb_and {a b : Nat} (ha : a < 2 ^ 64) (hb : b < 2 ^ 64) : lN a &&& lN b = lN (a &&& b) := by
  apply wb_inj
  rw [Int64.toBitVec_and, wb_tb, wb_tb, wb_tb]
  apply BitVec.eq_of_toNat_eq
  rw [BitVec.toNat_and, BitVec.toNat_ofNat, BitVec.toNat_ofNat, BitVec.toNat_ofNat, Nat.mod_eq_of_lt ha, Nat.mod_eq_of_lt hb, Nat.mod_eq_of_lt (Nat.and_lt_two_pow _ hb)]
theorem wb_or {a b : Nat} (ha : a < 2 ^ 64) (hb : b < 2 ^ 64) : lN a ||| lN b = lN (a ||| b) := by
  apply wb_inj
  rw [Int64.toBitVec_or, wb_tb, wb_tb, wb_tb]
  apply BitVec.eq_of_toNat_eq
  rw [BitVec.toNat_or, BitVec.toNat_ofNat, BitVec.toNat_ofNat, BitVec.toNat_ofNat, Nat.mod_eq_of_lt ha, Nat.mod_eq_of_lt hb, Nat.mod_eq_of_lt (Nat.or_lt_two_pow ha hb)]
theorem wb_mask {n k : Nat} (hn : n < 2 ^ 64) (hk : k < 64) : lN n &&& lN (2 ^ k - 1) = lN (n % 2 ^ k) := by
  rw [wb_and hn (by have := wb_lt2 hk; omega), Nat.and_two_pow_sub_one_eq_mod]
theorem wb_a1 {n : Nat} (hn : n < 2 ^ 64) : lN n &&& 1 = lN (n % 2) := wb_mask (k := 1) hn (by decide)
theorem wb_bit {n k : Nat} (hn : n < 2 ^ 64) (hk : k < 64) : ((lN n).toUInt64 >>> ((nI k).toInt64.toUInt64 &&& Int64.toUInt64 63)).toInt64 &&& 1 = lN (n / 2 ^ k % 2) := by
  rw [wb_shr hn hk, wb_a1 (Nat.lt_of_le_of_lt (Nat.div_le_self _ _) hn)]
theorem wb_xor {q k : Nat} (hk : k < 63) (h : 2 ^ k ≤ q) (h2 : q < 2 ^ (k + 1)) : lN q ^^^ lN (2 ^ k) = lN (q - 2 ^ k) := by
  obtain ⟨r, rfl⟩ : ∃ r, q = 2 ^ k + r := ⟨q - 2 ^ k, by omega⟩
  have hr : r < 2 ^ k := by rw [Nat.pow_succ] at h2; omega
  have hx : (2 ^ k + r) ^^^ 2 ^ k = r := by
    apply Nat.eq_of_testBit_eq
    intro i
    rw [Nat.testBit_xor, Nat.testBit_two_pow]
    rcases Nat.lt_trichotomy i k with h | h | h
    · rw [Nat.testBit_two_pow_add_gt h]
      simp [show ¬ k = i by omega]
    · subst h
      rw [Nat.testBit_two_pow_add_eq]
      simp
    · have a1 : 2 ^ (k + 1) ≤ 2 ^ i := Nat.pow_le_pow_right (by decide) h
      rw [Nat.testBit_lt_two_pow (show 2 ^ k + r < 2 ^ i by omega), Nat.testBit_lt_two_pow (show r < 2 ^ i by omega)]
      simp [show ¬ k = i by omega]
  have b1 := wb_lt2 (show k + 1 < 64 by omega)
  have b2 := wb_lt2 (show k < 64 by omega)
  apply wb_inj
  rw [Int64.toBitVec_xor, wb_tb, wb_tb, wb_tb]
  apply BitVec.eq_of_toNat_eq
  rw [BitVec.toNat_xor, BitVec.toNat_ofNat, BitVec.toNat_ofNat, BitVec.toNat_ofNat, Nat.mod_eq_of_lt (by omega : 2 ^ k + r < 2 ^ 64), Nat.mod_eq_of_lt b2, hx, Nat.add_sub_cancel_left, Nat.mod_eq_of_lt (by omega)]
/-! a long as a row of bits -/
def bL (x : Int64) (i : Nat) : Bool := x.toBitVec.getLsbD i
def bI (x : Int32) (i : Nat) : Bool := x.toBitVec.getLsbD i
theorem bL_ext {x y : Int64} (h : ∀ i, i < 64 → bL x i = bL y i) : x = y := Int64.toBitVec_inj.mp (BitVec.eq_of_getLsbD_eq fun i hi => h i hi)
theorem bI_ext {x y : Int32} (h : ∀ i, i < 32 → bI x i = bI y i) : x = y := Int32.toBitVec_inj.mp (BitVec.eq_of_getLsbD_eq fun i hi => h i hi)
theorem bL_and (x y : Int64) (i : Nat) : bL (x &&& y) i = (bL x i && bL y i) := by unfold bL; rw [Int64.toBitVec_and, BitVec.getLsbD_and]
theorem bL_or (x y : Int64) (i : Nat) : bL (x ||| y) i = (bL x i || bL y i) := by unfold bL; rw [Int64.toBitVec_or, BitVec.getLsbD_or]
theorem bL_xor (x y : Int64) (i : Nat) : bL (x ^^^ y) i = (bL x i ^^ bL y i) := by unfold bL; rw [Int64.toBitVec_xor, BitVec.getLsbD_xor]
theorem bI_and (x y : Int32) (i : Nat) : bI (x &&& y) i = (bI x i && bI y i) := by unfold bI; rw [Int32.toBitVec_and, BitVec.getLsbD_and]
theorem bI_or (x y : Int32) (i : Nat) : bI (x ||| y) i = (bI x i || bI y i) := by unfold bI; rw [Int32.toBitVec_or, BitVec.getLsbD_or]
theorem bI_xor (x y : Int32) (i : Nat) : bI (x ^^^ y) i = (bI x i ^^ bI y i) := by unfold bI; rw [Int32.toBitVec_xor, BitVec.getLsbD_xor]
theorem bL_ge {x : Int64} {i : Nat} (h : 64 ≤ i) : bL x i = false := BitVec.getLsbD_of_ge _ _ h
theorem bI_ge {x : Int32} {i : Nat} (h : 32 ≤ i) : bI x i = false := BitVec.getLsbD_of_ge _ _ h
theorem bL_lN (n i : Nat) : bL (lN n) i = (decide (i < 64) && n.testBit i) := by
  unfold bL
  rw [wb_tb, BitVec.getLsbD_ofNat]
theorem bI_nI (n i : Nat) : bI (nI n) i = (decide (i < 32) && n.testBit i) := by
  unfold bI
  rw [show (nI n).toBitVec = BitVec.ofNat 32 n from rfl, BitVec.getLsbD_ofNat]
theorem bL_0 (i : Nat) : bL 0 i = false := by
  rw [show (0 : Int64) = lN 0 from rfl, bL_lN, Nat.zero_testBit, Bool.and_false]
theorem bL_m1 {i : Nat} (h : i < 64) : bL (-1) i = true := by
  unfold bL
  rw [show (-1 : Int64).toBitVec = BitVec.allOnes 64 from by decide, BitVec.getLsbD_allOnes, decide_eq_true h]
theorem bI_m1 {i : Nat} (h : i < 32) : bI (-1) i = true := by
  unfold bI
  rw [show (-1 : Int32).toBitVec = BitVec.allOnes 32 from by decide, BitVec.getLsbD_allOnes, decide_eq_true h]
theorem bL_not (x : Int64) {i : Nat} (h : i < 64) : bL (x ^^^ (-1)) i = !bL x i := by
  rw [bL_xor, bL_m1 h, Bool.xor_true]
theorem bI_not (x : Int32) {i : Nat} (h : i < 32) : bI (x ^^^ (-1)) i = !bI x i := by
  rw [bI_xor, bI_m1 h, Bool.xor_true]
theorem bL_amt {k : Nat} (h : k < 2 ^ 31) : ((nI k).toInt64 &&& 63) = lN (k % 64) := by
  rw [nI_l h, show (63 : Int64) = lN (2 ^ 6 - 1) from rfl, wb_mask (by omega) (by decide)]
theorem bL_shl (x : Int64) {k : Nat} (hk : k < 2 ^ 31) (i : Nat) : bL (jshlL x (nI k)) i = (decide (i < 64) && (decide (k % 64 ≤ i) && bL x (i - k % 64))) := by
  unfold jshlL bL
  rw [bL_amt hk, Int64.toBitVec_shiftLeft, wb_tb, wb_sm (k % 64) (Nat.mod_lt _ (by decide)), BitVec.shiftLeft_eq', BitVec.toNat_ofNat, Nat.mod_eq_of_lt (show k % 64 < 2 ^ 64 by omega), BitVec.getLsbD_shiftLeft]
  by_cases h1 : i < k % 64
  · simp [h1, Nat.not_le.mpr h1]
  · simp [h1, Nat.le_of_not_lt h1]
theorem bL_one (i : Nat) : bL 1 i = decide (i = 0) := by
  rw [show (1 : Int64) = lN 1 from rfl, bL_lN]
  cases i with
  | zero => rfl
  | succ i =>
    have h : (1 : Nat).testBit (i + 1) = false := by rw [Nat.testBit_succ]; simp
    rw [h, Bool.and_false]
    simp
/-- 1L << k -/
theorem bL_bit {k : Nat} (hk : k < 2 ^ 31) (i : Nat) : bL (jshlL 1 (nI k)) i = decide (i = k % 64) := by
  rw [bL_shl 1 hk, bL_one]
  have hm : k % 64 < 64 := Nat.mod_lt _ (by decide)
  by_cases h : i = k % 64
  · subst h
    simp [hm]
  · by_cases h2 : k % 64 ≤ i
    · have : i - k % 64 ≠ 0 := by omega
      simp [h, this]
    · simp [h, h2]
theorem bL_ushr (x : Int64) {k : Nat} (hk : k < 64) (i : Nat) : bL (jushrL x (nI k)) i = bL x (k + i) := by
  obtain ⟨n, hn, rfl⟩ := wb_of x
  unfold jushrL
  rw [wb_shr hn hk, bL_lN, bL_lN, Nat.testBit_div_two_pow]
  by_cases h : i < 64
  · by_cases h2 : k + i < 64
    · simp [h, h2, Nat.add_comm]
    · have : n.testBit (i + k) = false := Nat.testBit_lt_two_pow (Nat.lt_of_lt_of_le hn (Nat.pow_le_pow_right (by decide) (by omega)))
      simp [this, h2]
  · have h2 : ¬ k + i < 64 := by omega
    simp [h, h2]
theorem bL_zero_iff {x : Int64} : x = 0 ↔ ∀ i, i < 64 → bL x i = false :=
  ⟨fun h i _ => by rw [h, bL_0], fun h => bL_ext fun i hi => by rw [h i hi, bL_0]⟩
/-- x & (1L << k) is 0 -/
theorem bL_test (x : Int64) {k : Nat} (hk : k < 2 ^ 31) : (x &&& jshlL 1 (nI k)) = 0 ↔ bL x (k % 64) = false := by
  rw [bL_zero_iff]
  constructor
  · intro h
    have := h (k % 64) (Nat.mod_lt _ (by decide))
    rw [bL_and, bL_bit hk, decide_eq_true rfl, Bool.and_true] at this
    exact this
  · intro h i hi
    rw [bL_and, bL_bit hk]
    by_cases e : i = k % 64
    · rw [e, h, Bool.false_and]
    · rw [decide_eq_false e, Bool.and_false]
/-! Long.bitCount and Integer.bitCount, as the JDK has them -/
theorem pu_mk8 : pu_mk 85 8 = 0x5555555555555555 ∧ pu_mk 51 8 = 0x3333333333333333 ∧ pu_mk 15 8 = 0x0f0f0f0f0f0f0f0f := by decide +kernel
theorem pu_mk4 : pu_mk 85 4 = 0x55555555 ∧ pu_mk 51 4 = 0x33333333 ∧ pu_mk 15 4 = 0x0f0f0f0f := by decide +kernel
def pop64 (x : Int64) : Nat := pu_c (bL x) 64
def pop32 (x : Int32) : Nat := pu_c (bI x) 32
theorem pop64_lN {n : Nat} : pop64 (lN n) = pu_c (fun i => n.testBit i) 64 := by
  unfold pop64
  exact pu_c_congr 64 (fun i hi => by rw [bL_lN, decide_eq_true hi, Bool.true_and])
theorem pop32_nI {n : Nat} : pop32 (nI n) = pu_c (fun i => n.testBit i) 32 := by
  unfold pop32
  exact pu_c_congr 32 (fun i hi => by rw [bI_nI, decide_eq_true hi, Bool.true_and])
