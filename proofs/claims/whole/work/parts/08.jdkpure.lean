/-! Long.bitCount, Integer.bitCount, as the JDK has them; ones of the reference -/
theorem jb_shr {n : Nat} (hn : n < 2 ^ 64) {k : Nat} (hk : k < 64) : jushrL (lN n) (nI k) = lN (n / 2 ^ k) := wb_shr hn hk
theorem jb_ushr {n : Nat} (hn : n < 2 ^ 32) {k : Nat} (hk : k < 32) : jushr (nI n) (nI k) = nI (n / 2 ^ k) := by
  unfold jushr
  refine pk_ushrN hn (nI k) k ?_
  have : ∀ k, k < 32 → (((nI k).toUInt32 &&& Int32.toUInt32 31).toBitVec % 32).toNat = k := by decide +kernel
  exact this k hk
theorem jb_andI (a b : Nat) : nI a &&& nI b = nI (a &&& b) := by
  apply Int32.toBitVec_inj.mp
  rw [Int32.toBitVec_and]
  apply BitVec.eq_of_toNat_eq
  show ((BitVec.ofNat 32 a) &&& (BitVec.ofNat 32 b)).toNat = (BitVec.ofNat 32 (a &&& b)).toNat
  rw [BitVec.toNat_and, BitVec.toNat_ofNat, BitVec.toNat_ofNat, BitVec.toNat_ofNat, Nat.and_mod_two_pow]
theorem jb_low {z k : Nat} (hk : k ≤ 32) {m : Int32} (hm : m.toBitVec.toNat = 2 ^ k - 1) : nI z &&& m = nI (z % 2 ^ k) := by
  rw [pk_and (nI z) k hm]
  congr 1
  show (BitVec.ofNat 32 z).toNat % 2 ^ k = z % 2 ^ k
  rw [BitVec.toNat_ofNat]
  exact Nat.mod_mod_of_dvd z (Nat.pow_dvd_pow 2 hk)
theorem pu_1_le (n x : Nat) : pu_1 n x ≤ x := Nat.sub_le _ _
theorem pu_21_le8 (x : Nat) : pu_21 8 x ≤ 2 * 0x3333333333333333 := by
  unfold pu_21 pu_2
  rw [pu_mk8.2.1]
  have h1 : (pu_1 8 x &&& 0x3333333333333333) ≤ 0x3333333333333333 := Nat.and_le_right
  have h2 : (pu_1 8 x / 4 &&& 0x3333333333333333) ≤ 0x3333333333333333 := Nat.and_le_right
  omega
theorem pu_a_le8 (x : Nat) : pu_a 8 x ≤ 0x0f0f0f0f0f0f0f0f := by
  unfold pu_a pu_3
  rw [pu_mk8.2.2]
  exact Nat.and_le_right
theorem jb_64 {x x1 x2 x3 x4 x5 x6 : Int64} (e1 : x1 = x - (jushrL x 1 &&& 6148914691236517205)) (e2 : x2 = (x1 &&& 3689348814741910323) + (jushrL x1 2 &&& 3689348814741910323)) (e3 : x3 = (x2 + jushrL x2 4) &&& 1085102592571150095) (e4 : x4 = x3 + jushrL x3 8) (e5 : x5 = x4 + jushrL x4 16) (e6 : x6 = x5 + jushrL x5 32) : x6.toInt32 &&& 127 = nI (pop64 x) := by
  obtain ⟨n, hn, rfl⟩ := wb_of x
  have c5 : (6148914691236517205 : Int64) = lN (pu_mk 85 8) := by decide +kernel
  have c3 : (3689348814741910323 : Int64) = lN (pu_mk 51 8) := by decide +kernel
  have cf : (1085102592571150095 : Int64) = lN (pu_mk 15 8) := by decide +kernel
  have m5 : pu_mk 85 8 < 2 ^ 64 := by decide +kernel
  have m3 : pu_mk 51 8 < 2 ^ 64 := by decide +kernel
  have mf : pu_mk 15 8 < 2 ^ 64 := by decide +kernel
  have hp1 : pu_1 8 n < 2 ^ 64 := Nat.lt_of_le_of_lt (pu_1_le 8 n) hn
  have f1 : x1 = lN (pu_1 8 n) := by
    rw [e1, show (1 : Int32) = nI 1 from rfl, jb_shr hn (by decide), c5, wb_and (by omega) m5, lN_sub]
    · rfl
    · exact Nat.le_trans Nat.and_le_left (Nat.div_le_self _ _)
  have f2 : x2 = lN (pu_21 8 n) := by
    rw [e2, f1, show (2 : Int32) = nI 2 from rfl, jb_shr hp1 (by decide), c3, wb_and hp1 m3, wb_and (by omega) m3, lN_add]
    rfl
  have hv2 := pu_21_le8 n
  have f3 : x3 = lN (pu_a 8 n) := by
    rw [e3, f2, show (4 : Int32) = nI 4 from rfl, jb_shr (by omega) (by decide), lN_add, cf, wb_and (by omega) mf]
    rfl
  have hv3 := pu_a_le8 n
  have hpop := pu_pop64 hn
  rw [pop64_lN, ← hpop]
  generalize pu_a 8 n = v at f3 hv3 ⊢
  have f4 : x4 = lN (v + v / 256) := by
    rw [e4, f3, show (8 : Int32) = nI 8 from rfl, jb_shr (by omega) (by decide), lN_add]
  have f5 : x5 = lN (v + v / 256 + (v + v / 256) / 65536) := by
    rw [e5, f4, show (16 : Int32) = nI 16 from rfl, jb_shr (by omega) (by decide), lN_add]
  have f6 : x6 = lN (v + v / 256 + (v + v / 256) / 65536 + (v + v / 256 + (v + v / 256) / 65536) / 4294967296) := by
    rw [e6, f5, show (32 : Int32) = nI 32 from rfl, jb_shr (by omega) (by decide), lN_add]
  rw [f6, lN_i, jb_low (k := 7) (by decide) (by decide)]
  rfl
theorem pu_21_le4 (x : Nat) : pu_21 4 x ≤ 2 * 0x33333333 := by
  unfold pu_21 pu_2
  rw [pu_mk4.2.1]
  have h1 : (pu_1 4 x &&& 0x33333333) ≤ 0x33333333 := Nat.and_le_right
  have h2 : (pu_1 4 x / 4 &&& 0x33333333) ≤ 0x33333333 := Nat.and_le_right
  omega
theorem pu_a_le4 (x : Nat) : pu_a 4 x ≤ 0x0f0f0f0f := by
  unfold pu_a pu_3
  rw [pu_mk4.2.2]
  exact Nat.and_le_right
theorem jb_I3 {x x1 x2 x3 : Int32} {n : Nat} (hn : n < 2 ^ 32) (hx : x = nI n) (e1 : x1 = x - (jushr x 1 &&& 1431655765)) (e2 : x2 = (x1 &&& 858993459) + (jushr x1 2 &&& 858993459)) (e3 : x3 = (x2 + jushr x2 4) &&& 252645135) : x3 = nI (pu_a 4 n) := by
  have c5 : (1431655765 : Int32) = nI (pu_mk 85 4) := by decide +kernel
  have c3 : (858993459 : Int32) = nI (pu_mk 51 4) := by decide +kernel
  have cf : (252645135 : Int32) = nI (pu_mk 15 4) := by decide +kernel
  have hp1 : pu_1 4 n < 2 ^ 32 := Nat.lt_of_le_of_lt (pu_1_le 4 n) hn
  have f1 : x1 = nI (pu_1 4 n) := by
    rw [e1, hx, show (1 : Int32) = nI 1 from rfl, jb_ushr hn (by decide), c5, jb_andI, pk_sub]
    · rfl
    · exact Nat.le_trans Nat.and_le_left (Nat.div_le_self _ _)
  have f2 : x2 = nI (pu_21 4 n) := by
    rw [e2, f1, show (2 : Int32) = nI 2 from rfl, jb_ushr hp1 (by decide), c3, jb_andI, jb_andI, nI_add]
    rfl
  have hv2 := pu_21_le4 n
  rw [e3, f2, show (4 : Int32) = nI 4 from rfl, jb_ushr (by omega) (by decide), nI_add, cf, jb_andI]
  rfl
theorem jb_32 {x x1 x2 x3 x4 x5 : Int32} (e1 : x1 = x - (jushr x 1 &&& 1431655765)) (e2 : x2 = (x1 &&& 858993459) + (jushr x1 2 &&& 858993459)) (e3 : x3 = (x2 + jushr x2 4) &&& 252645135) (e4 : x4 = x3 + jushr x3 8) (e5 : x5 = x4 + jushr x4 16) : x5 &&& 63 = nI (pop32 x) := by
  obtain ⟨n, hn, rfl⟩ := wb_of32 x
  have f3 := jb_I3 hn rfl e1 e2 e3
  have hv3 := pu_a_le4 n
  have hpop := pu_pop32 hn
  rw [pop32_nI, ← hpop]
  generalize pu_a 4 n = v at f3 hv3 ⊢
  have f4 : x4 = nI (v + v / 256) := by
    rw [e4, f3, show (8 : Int32) = nI 8 from rfl, jb_ushr (by omega) (by decide), nI_add]
  have f5 : x5 = nI (v + v / 256 + (v + v / 256) / 65536) := by
    rw [e5, f4, show (16 : Int32) = nI 16 from rfl, jb_ushr (by omega) (by decide), nI_add]
  rw [f5, jb_low (k := 6) (by decide) (by decide)]
  rfl
