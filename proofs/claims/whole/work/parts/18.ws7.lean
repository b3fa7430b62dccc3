theorem nz_comp {q k : Nat} (h : q < 2 ^ k) : q &&& (2 ^ k - (q + 1)) = 0 := by
  apply Nat.eq_of_testBit_eq
  intro i
  rw [Nat.testBit_and, Nat.testBit_two_pow_sub_succ h, Nat.zero_testBit]
  cases q.testBit i <;> simp
theorem nz_nat {n t : Nat} (hn : n < 2 ^ 32) (ht : n.testBit t = true) (hlow : ∀ i, i < t → n.testBit i = false) : t < 32 ∧ (2 ^ 32 - 1 - n) &&& (n - 1) = 2 ^ t - 1 := by
  have ht32 : t < 32 := by
    rcases Nat.lt_or_ge t 32 with h | h
    · exact h
    · have := Nat.testBit_lt_two_pow (Nat.lt_of_lt_of_le hn (Nat.pow_le_pow_right (by decide) h))
      rw [this] at ht; cases ht
  refine ⟨ht32, ?_⟩
  have hm : n % 2 ^ t = 0 := by
    apply Nat.eq_of_testBit_eq
    intro i
    rw [Nat.testBit_mod_two_pow, Nat.zero_testBit]
    by_cases h : i < t
    · rw [hlow i h, Bool.and_false]
    · rw [decide_eq_false h, Bool.false_and]
  have ho : n / 2 ^ t % 2 = 1 := by
    have h := Nat.testBit_div_two_pow (n := t) n 0
    rw [Nat.zero_add, ht, Nat.testBit_zero, decide_eq_true_eq] at h
    exact h
  obtain ⟨q, hq⟩ : ∃ q, n / 2 ^ t = 2 * q + 1 := ⟨n / 2 ^ t / 2, by omega⟩
  have hnq : n = 2 ^ t * (2 * q + 1) := by
    have := Nat.div_add_mod n (2 ^ t)
    rw [hm, hq, Nat.add_zero] at this
    exact this.symm
  have hp : 0 < 2 ^ t := Nat.two_pow_pos t
  have e32 : 2 ^ 32 = 2 ^ t * (2 * 2 ^ (31 - t)) := by
    rw [show 2 * 2 ^ (31 - t) = 2 ^ (32 - t) by rw [show 32 - t = (31 - t) + 1 by omega, Nat.pow_succ, Nat.mul_comm], ← Nat.pow_add]
    congr 1
    omega
  have hqk : q < 2 ^ (31 - t) := by
    rw [hnq, e32] at hn
    have := Nat.lt_of_mul_lt_mul_left hn
    omega
  have a1 : n - 1 = (2 ^ t - 1) + 2 ^ t * (2 * q) := by
    rw [hnq, Nat.mul_add, Nat.mul_one]
    omega
  have a2 : 2 ^ 32 - 1 - n = (2 ^ t - 1) + 2 ^ t * (2 * (2 ^ (31 - t) - (q + 1))) := by
    have h1 : 2 ^ t * (2 * 2 ^ (31 - t)) = 2 ^ t * (2 * q + 1) + 2 ^ t + 2 ^ t * (2 * (2 ^ (31 - t) - (q + 1))) := by
      rw [← Nat.mul_succ, ← Nat.mul_add]
      congr 1
      omega
    rw [← e32, ← hnq] at h1
    omega
  rw [a1, a2, nz_and (by omega) (by omega), Nat.and_self]
  have hz : (2 * (2 ^ (31 - t) - (q + 1))) &&& (2 * q) = 0 := by
    have h2 := nz_and (k := 1) (a := 0) (c := 0) (b := 2 ^ (31 - t) - (q + 1)) (d := q) (by decide) (by decide)
    rw [Nat.pow_one, Nat.zero_add, Nat.zero_add, Nat.and_zero, Nat.zero_add, Nat.and_comm (2 ^ (31 - t) - (q + 1)) q, nz_comp hqk, Nat.mul_zero] at h2
    exact h2
  rw [hz, Nat.mul_zero, Nat.add_zero]
theorem nz_notI {n : Nat} (h : n < 2 ^ 32) : nI n ^^^ (-1) = nI (2 ^ 32 - 1 - n) := by
  apply Int32.toBitVec_inj.mp
  rw [Int32.toBitVec_xor, show (-1 : Int32).toBitVec = BitVec.allOnes 32 from by decide, BitVec.xor_allOnes]
  apply BitVec.eq_of_toNat_eq
  rw [BitVec.toNat_not]
  show 2 ^ 32 - 1 - (BitVec.ofNat 32 n).toNat = (BitVec.ofNat 32 (2 ^ 32 - 1 - n)).toNat
  rw [BitVec.toNat_ofNat, BitVec.toNat_ofNat, Nat.mod_eq_of_lt h, Nat.mod_eq_of_lt (by omega)]
theorem nz_I {y : Int32} {t : Nat} (ht : bI y t = true) (hlow : ∀ i, i < t → bI y i = false) : t < 32 ∧ nz_core ((y ^^^ (-1)) &&& (y - 1)) = nI t := by
  obtain ⟨n, hn, rfl⟩ := wb_of32 y
  have ht32 : t < 32 := by
    rcases Nat.lt_or_ge t 32 with h | h
    · exact h
    · rw [bI_ge h] at ht; cases ht
  rw [bI_nI, decide_eq_true ht32, Bool.true_and] at ht
  have hl : ∀ i, i < t → n.testBit i = false := fun i hi => by
    have := hlow i hi
    rw [bI_nI, decide_eq_true (show i < 32 by omega), Bool.true_and] at this
    exact this
  obtain ⟨-, h2⟩ := nz_nat hn ht hl
  have hn0 : 1 ≤ n := by
    rcases Nat.eq_zero_or_pos n with z | z
    · rw [z, Nat.zero_testBit] at ht; cases ht
    · exact z
  refine ⟨ht32, ?_⟩
  rw [nz_notI hn, show (1 : Int32) = nI 1 from rfl, pk_sub hn0, jb_andI, h2, nz_core_pow t ht32]
theorem bI_l2i (x : Int64) {i : Nat} (hi : i < 32) : bI x.toInt32 i = bL x i := by
  obtain ⟨n, hn, rfl⟩ := wb_of x
  rw [lN_i, bI_nI, bL_lN, decide_eq_true hi, decide_eq_true (show i < 64 by omega)]
theorem nz_exL {x : Int64} (h : x ≠ 0) : ∃ t, t < 64 ∧ nz_low (bL x) t := by
  obtain ⟨k, hk⟩ : ∃ k, bL x k = true := Classical.byContradiction fun hn => h (bL_zero_iff.mpr fun i _ => by
    cases hz : bL x i
    · rfl
    · exact absurd ⟨i, hz⟩ hn)
  obtain ⟨t, h1, h2⟩ := pk_least (fun i => bL x i = true) ⟨k, hk⟩
  refine ⟨t, ?_, h1, fun i hi => ?_⟩
  · rcases Nat.lt_or_ge t 64 with z | z
    · exact z
    · rw [bL_ge z] at h1; cases h1
  · cases hz : bL x i
    · rfl
    · exact absurd hz (h2 i hi)

set_option maxHeartbeats 4000000 in
set_option maxRecDepth 100000 in
/-- Long.numberOfTrailingZeros -/
theorem c_JL_numberOfTrailingZeros (l : Launch) (D : va_G) (tc : Nat → ClassId) (x : Int64) (t : Nat) (μ : sx_M) (ht64 : t < 64) (ht : nz_low (bL x) t) : sx_Mi l yJL_numberOfTrailingZeros (Cond.code yJL_numberOfTrailingZeros cJL_numberOfTrailingZeros 3 (some .int) :: sxW) (rmL 1 0 0) D sxCl (sxT tc) sxE [.long x] μ (fun r μ' => μ = μ' ∧ r = nI t) 0 0 := by
  refine sx_ofiQ (cc := cJL_numberOfTrailingZeros) (maxL := 3) (ret := (some .int)) (own := RJL) sxE_ok (by decide) rfl rfl (Nat.le_of_ble_eq_true rfl) [some (.long x), none, none] 1 rfl (fun p e s m below meth c A Q hQ C hr hlocks hnm => ?_)
  refine sx_lload_n C dJL_numberOfTrailingZeros_0 rfl rfl ?_
  refine sx_l2i C dJL_numberOfTrailingZeros_1 ?_
  refine sx_istore_n (lv' := [some (.long x), none, some (.int x.toInt32)]) C dJL_numberOfTrailingZeros_2 rfl (by decide) rfl rfl ?_
  refine sx_iload_n C dJL_numberOfTrailingZeros_3 rfl rfl ?_
  refine sx_if_ne (tgt := 21) C dJL_numberOfTrailingZeros_4 (by decide) (fun c4 => ?_) (fun c4 => ?_)
  · have ht32 : t < 32 := by
      rcases Nat.lt_or_ge t 32 with z | z
      · exact z
      · exact absurd (bI_ext fun i hi => by rw [bI_l2i x hi, ht.2 i (by omega), show (0 : Int32) = nI 0 from rfl, bI_nI, Nat.zero_testBit, Bool.and_false]) c4
    refine sx_iload_n C dJL_numberOfTrailingZeros_21 rfl rfl ?_
    refine sx_calli C (sx_runS (As := [.int x.toInt32]) (rest := []) C sx_all (c_JI_numberOfTrailingZeros l D tc x.toInt32 μ) (sx_cwS C 1 kM_JL_311 ks_JI_numberOfTrailingZeros kn_JI kc_JI_numberOfTrailingZeros rfl rfl (by decide +kernel) ⟨Nat.le_of_ble_eq_true rfl, Nat.le_of_ble_eq_true rfl⟩) rfl rfl (Nat.le_of_ble_eq_true rfl) dJL_numberOfTrailingZeros_22 ⟨Nat.le_of_ble_eq_true rfl, Nat.le_of_ble_eq_true rfl⟩) (fun r1 μ1 h1 => ?_)
    obtain ⟨hm, h1⟩ := h1
    subst hm
    refine sx_eqi (nI t) (by rw [h1]; exact (nz_I (by rw [bI_l2i x ht32]; exact ht.1) (fun i hi => by rw [bI_l2i x (by omega)]; exact ht.2 i hi)).2) ?_
    exact sx_iretQ C hQ dJL_numberOfTrailingZeros_25 hr hlocks (Nat.le_of_ble_eq_true rfl) (Nat.le_of_ble_eq_true rfl) (⟨rfl, rfl⟩)
  · have ht32 : 32 ≤ t := by
      rcases Nat.lt_or_ge t 32 with z | z
      · have := bI_l2i x z
        rw [c4, ht.1, show (0 : Int32) = nI 0 from rfl, bI_nI, Nat.zero_testBit, Bool.and_false] at this
        cases this
      · exact z
    have hz := nz_I (y := (jushrL x 32).toInt32) (t := t - 32) (by rw [bI_l2i _ (by omega), show (32 : Int32) = nI 32 from rfl, bL_ushr _ (by decide), show 32 + (t - 32) = t by omega]; exact ht.1) (fun i hi => by rw [bI_l2i _ (by omega), show (32 : Int32) = nI 32 from rfl, bL_ushr _ (by decide)]; exact ht.2 _ (by omega))
    refine sx_bipush (v := 32) C dJL_numberOfTrailingZeros_7 (by decide) ?_
    refine sx_lload_n C dJL_numberOfTrailingZeros_9 rfl rfl ?_
    refine sx_bipush (v := 32) C dJL_numberOfTrailingZeros_10 (by decide) ?_
    refine sx_lushr C dJL_numberOfTrailingZeros_12 ?_
    refine sx_l2i C dJL_numberOfTrailingZeros_13 ?_
    refine sx_calli C (sx_runS (As := [.int ((jushrL x 32).toInt32)]) (rest := [.int 32]) C sx_all (c_JI_numberOfTrailingZeros l D tc ((jushrL x 32).toInt32) μ) (sx_cwS C 1 kM_JL_311 ks_JI_numberOfTrailingZeros kn_JI kc_JI_numberOfTrailingZeros rfl rfl (by decide +kernel) ⟨Nat.le_of_ble_eq_true rfl, Nat.le_of_ble_eq_true rfl⟩) rfl rfl (Nat.le_of_ble_eq_true rfl) dJL_numberOfTrailingZeros_14 ⟨Nat.le_of_ble_eq_true rfl, Nat.le_of_ble_eq_true rfl⟩) (fun r1 μ1 h1 => ?_)
    obtain ⟨hm, h1⟩ := h1
    subst hm
    refine sx_eqi (nI (t - 32)) (by rw [h1]; exact hz.2) ?_
    refine sx_iadd C dJL_numberOfTrailingZeros_17 ?_
    refine sx_eqi (nI t) ((nI_add 32 (t - 32)).trans (by rw [show 32 + (t - 32) = t by omega])) ?_
    refine sx_goto (tgt := 25) C dJL_numberOfTrailingZeros_18 (by decide) ?_
    exact sx_iretQ C hQ dJL_numberOfTrailingZeros_25 hr hlocks (Nat.le_of_ble_eq_true rfl) (Nat.le_of_ble_eq_true rfl) (⟨rfl, rfl⟩)

theorem lc_at (f : Nat → Int64) {c i : Nat} (hi : i < 64) : wm f (64 * c + i) = bL (f c) i := by
  unfold wm
  rw [show (64 * c + i) / 64 = c by omega, show (64 * c + i) % 64 = i by omega]
theorem lc_step {f g : Nat → Int64} {i : Nat} (h : ∀ v, v < 64 * i → ¬ (wm f v = true ∧ wm g v = true)) (hz : (f i &&& g i) = 0) : ∀ v, v < 64 * (i + 1) → ¬ (wm f v = true ∧ wm g v = true) := by
  intro v hv
  by_cases e : v < 64 * i
  · exact h v e
  · rw [show v = 64 * i + (v - 64 * i) by omega, lc_at f (by omega), lc_at g (by omega)]
    intro ⟨h1, h2⟩
    have := bL_zero_iff.mp hz (v - 64 * i) (by omega)
    rw [bL_and, h1, h2] at this
    cases this

set_option maxHeartbeats 4000000 in
set_option maxRecDepth 100000 in
/-- lowestCommon -/
theorem c_S_lowestCommon (l : Launch) (D : va_G) (tc : Nat → ClassId) (o r W n q t W2 k : Nat) (f g : Nat → Int64) (μ : sx_M) (hn : n < 2 ^ 20) (hk : k < 2 ^ 20) (ho : μ o = some (.inr (1, [.int (nI W), .ref r]))) (hr9 : μ r = some (.inl (tc 1, n, .inr (.inl f)))) (hq : μ q = some (.inr (1, [.int (nI W2), .ref t]))) (ht : μ t = some (.inl (tc 1, k, .inr (.inl g)))) : sx_Mi l yS_lowestCommon (Cond.code yS_lowestCommon cS_lowestCommon 5 (some .int) :: sxW) (rmL 2 0 0) D sxCl (sxT tc) sxE [.ref o, .ref q] μ (fun r2 μ' => μ = μ' ∧ ((∃ w, w < 64 * min n k ∧ wm f w = true ∧ wm g w = true ∧ (∀ v, v < w → ¬ (wm f v = true ∧ wm g v = true)) ∧ r2 = nI w) ∨ ((∀ v, v < 64 * min n k → ¬ (wm f v = true ∧ wm g v = true)) ∧ r2 = -1))) 0 0 := by
  refine sx_ofiQ (cc := cS_lowestCommon) (maxL := 5) (ret := (some .int)) (own := RS) sxE_ok (by decide) rfl rfl (Nat.le_of_ble_eq_true rfl) [some (.ref o), some (.ref q), none, none, none] 3 rfl (fun p e s m below meth c A Q hQ C hr hlocks hnm => ?_)
  refine sx_iconst (v := 0) C dS_lowestCommon_0 (by decide) ?_
  refine sx_eqi (nI 0) (rfl) ?_
  refine sx_istore_n (lv' := [some (.ref o), some (.ref q), some (.int (nI 0)), none, none]) C dS_lowestCommon_1 rfl (by decide) rfl rfl ?_
  have L2 : ∀ (fu : Nat) (i : Nat), n - i < fu → (i ≤ n) → (i ≤ k) → (∀ v, v < 64 * i → ¬ (wm f v = true ∧ wm g v = true)) → SW p l e (rmL 2 0 0) s m [.ref o, .ref q].toArray below meth c 5 D sxCl A 0 0 Q μ 2 [some (.ref o), some (.ref q), some (.int (nI i)), none, none] [] := by
    intro fu
    induction fu with
    | zero => intro _ h; exact absurd h (Nat.not_lt_zero _)
    | succ fu ih =>
      intro i hfu hi hi2 h1
      refine sx_iload_n C dS_lowestCommon_2 rfl rfl ?_
      refine sx_aload_n C dS_lowestCommon_3 rfl rfl ?_
      refine sx_getf (Cn := RS) (T := TS) (N := 2) C dS_lowestCommon_4 (sx_in inS) rfl 1 (by decide) (sx_w C kF_S_15) (fun _ h => h) ho rfl ?_
      refine sx_alen (v := nI n) C dS_lowestCommon_7 1 rfl hr9 rfl ?_
      refine sx_icmp_ge (tgt := 56) C dS_lowestCommon_8 (by decide) (fun c8 => ?_) (fun c8 => ?_)
      · have hc : n ≤ i := (nI_leI (by omega) (by omega)).mp c8
        have hmn : min n k = i := by omega
        refine sx_iconst (v := -1) C dS_lowestCommon_56 (by decide) ?_
        exact sx_iretQ C hQ dS_lowestCommon_57 hr hlocks (Nat.le_of_ble_eq_true rfl) (Nat.le_of_ble_eq_true rfl) (⟨rfl, Or.inr ⟨by rw [hmn]; exact h1, rfl⟩⟩)
      · have hc : ¬ n ≤ i := fun h => c8 ((nI_leI (by omega) (by omega)).mpr h)
        refine sx_iload_n C dS_lowestCommon_11 rfl rfl ?_
        refine sx_aload_n C dS_lowestCommon_12 rfl rfl ?_
        refine sx_getf (Cn := RS) (T := TS) (N := 2) C dS_lowestCommon_13 (sx_in inS) rfl 1 (by decide) (sx_w C kF_S_15) (fun _ h => h) hq rfl ?_
        refine sx_alen (v := nI k) C dS_lowestCommon_16 1 rfl ht rfl ?_
        refine sx_icmp_ge (tgt := 56) C dS_lowestCommon_17 (by decide) (fun c17 => ?_) (fun c17 => ?_)
        · have hc2 : k ≤ i := (nI_leI (by omega) (by omega)).mp c17
          have hmn : min n k = i := by omega
          refine sx_iconst (v := -1) C dS_lowestCommon_56 (by decide) ?_
          exact sx_iretQ C hQ dS_lowestCommon_57 hr hlocks (Nat.le_of_ble_eq_true rfl) (Nat.le_of_ble_eq_true rfl) (⟨rfl, Or.inr ⟨by rw [hmn]; exact h1, rfl⟩⟩)
        · have hc2 : ¬ k ≤ i := fun h => c17 ((nI_leI (by omega) (by omega)).mpr h)
          refine sx_aload_n C dS_lowestCommon_20 rfl rfl ?_
          refine sx_getf (Cn := RS) (T := TS) (N := 2) C dS_lowestCommon_21 (sx_in inS) rfl 1 (by decide) (sx_w C kF_S_15) (fun _ h => h) ho rfl ?_
          refine sx_iload_n C dS_lowestCommon_24 rfl rfl ?_
          refine sx_lald (j := i) C dS_lowestCommon_25 1 rfl hr9 (rfl) (by omega) (by omega) ?_
          refine sx_aload_n C dS_lowestCommon_26 rfl rfl ?_
          refine sx_getf (Cn := RS) (T := TS) (N := 2) C dS_lowestCommon_27 (sx_in inS) rfl 1 (by decide) (sx_w C kF_S_15) (fun _ h => h) hq rfl ?_
          refine sx_iload_n C dS_lowestCommon_30 rfl rfl ?_
          refine sx_lald (j := i) C dS_lowestCommon_31 1 rfl ht (rfl) (by omega) (by omega) ?_
          refine sx_land C dS_lowestCommon_32 ?_
          refine sx_lstore_n (lv' := [some (.ref o), some (.ref q), some (.int (nI i)), some (.long ((f i) &&& (g i))), none]) C dS_lowestCommon_33 rfl (by decide) rfl rfl ?_
          refine sx_lload_n C dS_lowestCommon_34 rfl rfl ?_
          refine sx_lconst (v := 0) C dS_lowestCommon_35 (by decide) ?_
          refine sx_lcmp C dS_lowestCommon_36 ?_
          refine sx_if_eq (tgt := 50) C dS_lowestCommon_37 (by decide) (fun c37 => ?_) (fun c37 => ?_)
          · have hz : (f i &&& g i) = 0 := (lg_cmp_eq _ _).mp c37
            refine sx_weak (lv' := [some (.ref o), some (.ref q), some (.int (nI i)), none, none]) (And.intro rfl (And.intro rfl (And.intro rfl trivial))) ?_
            refine sx_iinc (v := nI (i + 1)) (lv' := [some (.ref o), some (.ref q), some (.int (nI (i + 1))), none, none]) C dS_lowestCommon_50 rfl (nI_1 i) (by decide) rfl rfl ?_
            refine sx_goto (tgt := 2) C dS_lowestCommon_53 (by decide) ?_
            exact ih (i + 1) (by omega) (by omega) (by omega) (lc_step h1 hz)
          · have hz : ¬ (f i &&& g i) = 0 := fun h => c37 ((lg_cmp_eq _ _).mpr h)
            obtain ⟨b, hb, hlow⟩ := nz_exL hz
            refine sx_iload_n C dS_lowestCommon_40 rfl rfl ?_
            refine sx_bipush (v := 64) C dS_lowestCommon_41 (by decide) ?_
            refine sx_imul C dS_lowestCommon_43 ?_
            refine sx_eqi (nI (i * 64)) (pk_mul i 64) ?_
            refine sx_lload_n C dS_lowestCommon_44 rfl rfl ?_
            refine sx_calli C (sx_runS (As := [.long ((f i) &&& (g i))]) (rest := [.int (nI (i * 64))]) C sx_all (c_JL_numberOfTrailingZeros l D tc (f i &&& g i) b μ hb hlow) (sx_cwS C 1 kM_S_50 ks_JL_numberOfTrailingZeros kn_JL kc_JL_numberOfTrailingZeros rfl rfl (by decide +kernel) ⟨Nat.le_of_ble_eq_true rfl, Nat.le_of_ble_eq_true rfl⟩) rfl rfl (Nat.le_of_ble_eq_true rfl) dS_lowestCommon_45 ⟨Nat.le_of_ble_eq_true rfl, Nat.le_of_ble_eq_true rfl⟩) (fun r1 μ1 h2 => ?_)
            obtain ⟨hm, h2⟩ := h2
            subst hm
            refine sx_eqi (nI b) (h2) ?_
            refine sx_iadd C dS_lowestCommon_48 ?_
            refine sx_eqi (nI (i * 64 + b)) (nI_add _ _) ?_
            exact sx_iretQ C hQ dS_lowestCommon_49 hr hlocks (Nat.le_of_ble_eq_true rfl) (Nat.le_of_ble_eq_true rfl) (⟨rfl, Or.inl ⟨64 * i + b, by omega, by
              have h3 := hlow.1
              rw [bL_and, Bool.and_eq_true] at h3
              rw [lc_at f hb]
              exact h3.1, by
              have h3 := hlow.1
              rw [bL_and, Bool.and_eq_true] at h3
              rw [lc_at g hb]
              exact h3.2, (fun v hv => by
              by_cases e : v < 64 * i
              · exact h1 v e
              · obtain ⟨d, rfl⟩ : ∃ d, v = 64 * i + d := ⟨v - 64 * i, by omega⟩
                rw [lc_at f (by omega), lc_at g (by omega)]
                intro ⟨h4, h5⟩
                have h6 := hlow.2 d (by omega)
                rw [bL_and, h4, h5] at h6
                cases h6), (by rw [Nat.mul_comm])⟩⟩)
  exact L2 _ 0 (Nat.lt_succ_self _) (Nat.zero_le _) (Nat.zero_le _) (fun v hv => absurd hv (Nat.not_lt_zero _))

set_option maxHeartbeats 4000000 in
set_option maxRecDepth 100000 in
/-- Encoding(int) -/
theorem c_E_init (l : Launch) (D : va_G) (tc : Nat → ClassId) (o W : Nat) (μ : sx_M) (ho : μ o = some (.inr (0, [.null, .int 0, .int 0, .int 0, .int 0, .int 0]))) : sx_Mv l yE_init (Cond.code yE_init cE_init 2 none :: sxW) (rmL 2 2 2) D sxCl (sxT tc) sxE [.ref o, .int (nI W)] μ (fun μ' => ∃ q r, μ q = none ∧ μ r = none ∧ q ≠ r ∧ q ≠ o ∧ r ≠ o ∧ sx_up (sx_up (sx_up μ r (.inl (tc 1, 0, .inr (.inl (fun _ => 0))))) q (.inr (1, [.int (nI W), .ref r]))) o (.inr (0, [.ref q, .int 0, .int 0, .int 0, .int 0, .int 0])) = μ') 2 2 := by
  refine sx_ofvQ (cc := cE_init) (maxL := 2) (ret := none) (own := RE) sxE_ok (by decide) rfl rfl (Nat.le_of_ble_eq_true rfl) [some (.ref o), some (.int (nI W))] 0 rfl (fun p e s m below meth c A Q hQ C hr hlocks hnm => ?_)
  refine sx_aload_n C dE_init_0 rfl rfl ?_
  refine sx_objInit C dE_init_1 (sx_w C kM_E_1) (sx_w C ki_obj) (sx_w C kc_obj) (Nat.le_of_ble_eq_true rfl) (Nat.le_of_ble_eq_true rfl) ?_
  refine sx_aload_n C dE_init_4 rfl rfl ?_
  refine sx_new (Cn := RS) (T := TS) (N := 2) (ci := 1) (fs := [.int 0, .null]) C dE_init_5 (sx_in inS) tS tS_ok (sx_w C kC_E_7) (sx_w C kt_S) (sx_w C kn_S) rfl (by decide) (Nat.le_of_ble_eq_true rfl) (Nat.le_of_ble_eq_true rfl) (fun q hq => ?_)
  refine sx_dup C dE_init_8 rfl ?_
  refine sx_iload_n C dE_init_9 rfl rfl ?_
  refine sx_callv C (sx_runI (As := [.int (nI W)]) (rest := [.ref q, .ref o]) (b := q) C sx_all (c_S_init l D tc q W (sx_up μ q (.inr (1, [.int 0, .null]))) (sx_up_s _ _ _)) (sx_cwI C 1 kM_E_9 ki_S_init kn_S kc_S_init rfl rfl rfl (by decide +kernel) ⟨Nat.le_of_ble_eq_true rfl, Nat.le_of_ble_eq_true rfl⟩) rfl rfl (Nat.le_of_ble_eq_true rfl) dE_init_10 ⟨Nat.le_of_ble_eq_true rfl, Nat.le_of_ble_eq_true rfl⟩) (fun μ1 h1 => ?_)
  obtain ⟨r, hr1, hrq, h1⟩ := h1
  have hqo : q ≠ o := fun e => by rw [e, ho] at hq; cases hq
  have hr2 : μ r = none := by rw [sx_up_n _ _ hrq] at hr1; exact hr1
  have hro : r ≠ o := fun e => by rw [e, ho] at hr2; cases hr2
  have h2 : sx_up (sx_up μ r (.inl (tc 1, 0, .inr (.inl (fun _ => 0))))) q (.inr (1, [.int (nI W), .ref r])) = μ1 := by rw [← h1, sx_com hrq, sx_up_up, sx_com (Ne.symm hrq)]
  subst h2
  refine sx_putF (Cn := RE) (T := TE) (N := 6) (ty := .object "EncodingChecks$WordSet") (fs' := [.ref q, .int 0, .int 0, .int 0, .int 0, .int 0]) C dE_init_13 (sx_in inE) tE tE_ok nE rfl 0 (by decide) (sx_w C kF_E_12) (fun _ h => h) rfl (hnm.trans rfl) rfl (by decide +kernel) rfl rfl (sx_upo (Ne.symm hqo) (sx_upo (Ne.symm hro) ho)) (by simp) rfl ?_
  exact sx_vretQ C hQ dE_init_16 hr hlocks (Nat.le_of_ble_eq_true rfl) (Nat.le_of_ble_eq_true rfl) (⟨q, r, hq, hr2, Ne.symm hrq, hqo, hro, rfl⟩)
