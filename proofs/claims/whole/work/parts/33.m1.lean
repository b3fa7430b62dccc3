def inB (v lo hi : Int32) : Bool := decide (¬ v < lo) && decide (¬ hi < v)
theorem m_sub1 {u : Nat} (h : u ≤ 70000) : (nI u - 1).toInt = (u : Int) - 1 := by
  rcases u with _ | u
  · rfl
  · rw [nI_pred, nI_toInt (by omega)]
    omega
theorem inB_iff {x : Int32} {n : Nat} (hn : n ≤ 70000) : inB x 0 (nI n - 1) = true ↔ ∃ j, j < n ∧ x = nI j := by
  unfold inB
  rw [Bool.and_eq_true, decide_eq_true_eq, decide_eq_true_eq]
  constructor
  · rintro ⟨h1, h2⟩
    refine ab_ix (by omega) h1 ?_
    rw [Int32.lt_iff_toInt_lt, m_sub1 hn] at h2
    rw [Int32.lt_iff_toInt_lt, nI_toInt (by omega)]
    omega
  · rintro ⟨j, hj, rfl⟩
    refine ⟨nI_pos (by omega), ?_⟩
    rw [Int32.lt_iff_toInt_lt, m_sub1 hn, nI_toInt (by omega)]
    omega
theorem inB_le {x hi : Int32} {n : Nat} (hh : hi = nI n) (hn : n ≤ 69000) : inB x 0 hi = true ↔ ∃ j, j ≤ n ∧ x = nI j := by
  have e : hi = nI (n + 1) - 1 := by rw [nI_pred]; exact hh
  rw [e, inB_iff (n := n + 1) (by omega)]
  constructor
  · rintro ⟨j, h1, h2⟩; exact ⟨j, by omega, h2⟩
  · rintro ⟨j, h1, h2⟩; exact ⟨j, by omega, h2⟩
def isB (u : Nat) (x : Int32) : Bool := inB x 0 (nI u - 1)
theorem isB_iff {u : Nat} {x : Int32} (hu : u ≤ 40) : isB u x = true ↔ ∃ j, j < u ∧ x = nI j := inB_iff (by omega)
theorem isB_ff {u : Nat} {x : Int32} (hu : u ≤ 40) : isB u x = false ↔ ∀ j, j < u → x ≠ nI j := by
  constructor
  · intro h j hj e
    rw [(isB_iff hu).mpr ⟨j, hj, e⟩] at h
    cases h
  · intro h
    cases hb : isB u x
    · rfl
    · obtain ⟨j, hj, e⟩ := (isB_iff hu).mp hb
      exact absurd e (h j hj)
def fdB (W : Nat) (f t : Int32) : Bool := decide (¬ f < 0) && (decide (¬ t < f) && decide (t < nI W))
theorem fdB_iff {W : Nat} {f t : Int32} (hW : W ≤ 16) : fdB W f t = true ↔ ∃ a b, a ≤ b ∧ b < W ∧ f = nI a ∧ t = nI b := by
  unfold fdB
  rw [Bool.and_eq_true, Bool.and_eq_true, decide_eq_true_eq, decide_eq_true_eq, decide_eq_true_eq]
  constructor
  · rintro ⟨h1, h2, h3⟩
    obtain ⟨a, ha, rfl⟩ := ab_nat h1
    have ht : ¬ t < 0 := by
      rw [Int32.lt_iff_toInt_lt] at h1 h2 ⊢
      omega
    obtain ⟨b, hb, rfl⟩ := ab_ix (by omega) ht h3
    refine ⟨a, b, ?_, hb, rfl, rfl⟩
    rw [Int32.lt_iff_toInt_lt, nI_toInt (n := b) (by omega), nI_toInt (by omega)] at h2
    omega
  · rintro ⟨a, b, hab, hb, rfl, rfl⟩
    exact ⟨nI_pos (by omega), nI_nlt hab (by omega), nI_lt hb (by omega)⟩
/-- which exception the reference notes -/
def thI (a b c : Bool) : Int32 := if a = true then 1 else if b = true then 2 else if c = true then 3 else 0
theorem thI_pos (a b c : Bool) : decide (0 < thI a b c) = (a || b || c) := by cases a <;> cases b <;> cases c <;> rfl
theorem fb_eq2 : ∀ a, a < 16 → ∀ b, b < 16 → a ≤ b → jshl 1 (nI b + 1) - jshl 1 (nI a) = nI (fbN a b) := by decide +kernel
theorem pu_sm4 {q0 q1 q2 q3 : Nat} (p0 : q0 ≤ 8) (p1 : q1 ≤ 8) (p2 : q2 ≤ 8) (p3 : q3 ≤ 8) : (q0 + 256 * (q1 + 256 * (q2 + 256 * q3))) * 16843009 % 4294967296 / 16777216 = q0 + q1 + q2 + q3 := by
  have e : (q0 + 256 * (q1 + 256 * (q2 + 256 * q3))) * 16843009 = ((q0 + 256 * (q0 + q1) + 65536 * (q0 + q1 + q2)) + 16777216 * (q0 + q1 + q2 + q3)) + 4294967296 * ((q1 + q2 + q3) + 256 * (q2 + q3) + 65536 * q3) := by omega
  rw [e, Nat.add_mul_mod_self_left, Nat.mod_eq_of_lt (by omega), Nat.add_mul_div_left _ _ (by decide), Nat.div_eq_of_lt (by omega)]
  omega
theorem m_ones {x x1 x2 x3 : Int32} (e1 : x1 = x - (jushr x 1 &&& 1431655765)) (e2 : x2 = (x1 &&& 858993459) + (jushr x1 2 &&& 858993459)) (e3 : x3 = (x2 + jushr x2 4) &&& 252645135) : jushr (x3 * 16843009) 24 = nI (pop32 x) := by
  obtain ⟨n, hn, rfl⟩ := wb_of32 x
  rw [jb_I3 hn rfl e1 e2 e3, show (16843009 : Int32) = nI 16843009 from rfl, nI_mul, show (24 : Int32) = nI 24 from rfl, pop32_nI]
  obtain ⟨b0, x1, h0, rfl, -⟩ := pu_split n
  obtain ⟨b1, x2, h1, rfl, -⟩ := pu_split x1
  obtain ⟨b2, x3, h2, rfl, -⟩ := pu_split x2
  obtain ⟨b3, x4, h3, rfl, -⟩ := pu_split x3
  have hx4 : x4 = 0 := by omega
  subst hx4
  have c0 := (pu_tb b0 h0).2.2.2
  have c1 := (pu_tb b1 h1).2.2.2
  have c2 := (pu_tb b2 h2).2.2.2
  have c3 := (pu_tb b3 h3).2.2.2
  rw [pu_a_step h0 (by omega), pu_a_step h1 (by omega), pu_a_step h2 (by omega), pu_a_step h3 (by omega)]
  rw [show (32 : Nat) = 8 + 24 from rfl, pu_c_byte h0, show (24 : Nat) = 8 + 16 from rfl, pu_c_byte h1, show (16 : Nat) = 8 + 8 from rfl, pu_c_byte h2, show (8 : Nat) = 8 + 0 from rfl, pu_c_byte h3]
  have e0 : pu_a 0 0 = 0 := by decide
  rw [e0]
  have hm : ∀ z : Nat, nI z = nI (z % 4294967296) := fun z => by
    apply Int32.toBitVec_inj.mp
    show BitVec.ofNat 32 z = BitVec.ofNat 32 (z % 4294967296)
    apply BitVec.eq_of_toNat_eq
    rw [BitVec.toNat_ofNat, BitVec.toNat_ofNat, Nat.mod_mod]
  rw [hm]
  have hlt : ∀ z : Nat, z % 4294967296 < 2 ^ 32 := fun z => Nat.mod_lt _ (by decide)
  rw [jb_ushr (hlt _) (k := 24) (by decide)]
  have := pu_sm4 (q3 := pu_8 b3 + 256 * 0) c0 c1 c2 (by omega)
  simp only [Nat.mul_zero, Nat.add_zero] at this ⊢
  rw [show (2 : Nat) ^ 24 = 16777216 from rfl, this]
  congr 1
  show _ = pu_8 b0 + (pu_8 b1 + (pu_8 b2 + (pu_8 b3 + 0)))
  omega
theorem m_bit (x : Int32) {k : Nat} (hk : k < 32) : (jshr x (nI k) &&& 1) = b2i (bI x k) := by
  apply bI_ext
  intro i hi
  have e1 : bI 1 i = decide (i = 0) := by
    rw [show (1 : Int32) = nI 1 from rfl, bI_nI, decide_eq_true hi, Bool.true_and]
    cases i with
    | zero => rfl
    | succ i => rw [decide_eq_false (by omega)]; exact Nat.testBit_lt_two_pow (by rw [Nat.pow_succ]; have := Nat.two_pow_pos i; omega)
  have e2 : bI (b2i (bI x k)) i = (decide (i = 0) && bI x k) := by
    cases bI x k
    · rw [b2i_ff, bI_0, Bool.and_false]
    · rw [b2i_tt, e1, Bool.and_true]
  rw [bI_and, e1, e2, Bool.and_comm]
  by_cases h : i = 0
  · subst h
    congr 1
    have e3 : ∀ k, k < 32 → ((nI k &&& 31).toBitVec.smod 32).toNat = k := by decide +kernel
    unfold jshr bI
    show (x.toBitVec.sshiftRight' ((nI k &&& 31).toBitVec.smod 32)).getLsbD 0 = _
    rw [BitVec.getLsbD_sshiftRight', e3 k hk]
    simp [hk]
  · rw [decide_eq_false h, Bool.false_and, Bool.false_and]

set_option maxHeartbeats 4000000 in
set_option maxRecDepth 100000 in
/-- in -/
theorem c_M_in (l : Launch) (D : va_G) (tc : Nat → ClassId) (v lo hi : Int32) (μ : sx_M) : sx_Mi l yM_in (Cond.code yM_in cM_in 3 (some .boolean) :: sxW) (rmL 0 0 0) D sxCl (sxT tc) sxE [.int v, .int lo, .int hi] μ (fun r μ' => μ = μ' ∧ r = b2i (inB v lo hi)) 0 0 := by
  refine sx_ofiQ (cc := cM_in) (maxL := 3) (ret := (some .boolean)) (own := RM) sxE_ok (by decide) rfl rfl (Nat.le_of_ble_eq_true rfl) [some (.int v), some (.int lo), some (.int hi)] 0 rfl (fun p e s m below meth c A Q hQ C hr hlocks hnm => ?_)
  have J15 : SW p l e (rmL 0 0 0) s m [.int v, .int lo, .int hi].toArray below meth c 3 D sxCl A 0 0 Q μ 15 [some (.int v), some (.int lo), some (.int hi)] [.int (b2i (inB v lo hi))] := by
    exact sx_zretQ C hQ dM_in_15 hr (by exact b2i_01 _) hlocks (Nat.le_of_ble_eq_true rfl) (Nat.le_of_ble_eq_true rfl) (⟨rfl, rfl⟩)
  refine sx_iload_n C dM_in_0 rfl rfl ?_
  refine sx_iload_n C dM_in_1 rfl rfl ?_
  refine sx_icmp_lt (tgt := 14) C dM_in_2 (by decide) (fun c2 => ?_) (fun c2 => ?_)
  · refine sx_iconst (v := 0) C dM_in_14 (by decide) ?_
    refine sx_eqi ((b2i (inB v lo hi))) (by unfold inB; simp [b2i, c2]) ?_
    exact J15
  · refine sx_iload_n C dM_in_5 rfl rfl ?_
    refine sx_iload_n C dM_in_6 rfl rfl ?_
    refine sx_icmp_gt (tgt := 14) C dM_in_7 (by decide) (fun c7 => ?_) (fun c7 => ?_)
    · refine sx_iconst (v := 0) C dM_in_14 (by decide) ?_
      refine sx_eqi ((b2i (inB v lo hi))) (by unfold inB; simp [b2i, c2, c7]) ?_
      exact J15
    · refine sx_iconst (v := 1) C dM_in_10 (by decide) ?_
      refine sx_goto (tgt := 15) C dM_in_11 (by decide) ?_
      refine sx_eqi ((b2i (inB v lo hi))) (by unfold inB; simp [b2i, c2, c7]) ?_
      exact J15

set_option maxHeartbeats 4000000 in
set_option maxRecDepth 100000 in
/-- fails -/
theorem c_M_fails (l : Launch) (D : va_G) (tc : Nat → ClassId) (a b d : Bool) (ad : Nat → Nat) (W : Nat) (u : Nat) (th : Int32) (kn : Bool) (lst : Int32) (sb : Int32) (mk : Nat → Int32) (cd : Nat → Int32) (lk : Nat → Int32) (fl : Nat → Int32) (vr : Nat → Int32) (wd : Nat → Int32) (cn : Nat → Int32) (li : Nat → Int32) (od : Nat → Int32) (μ : sx_M) (hS : MS tc μ ad W u th kn lst sb mk cd lk fl vr wd cn li od) : sx_Mi l yM_fails (Cond.code yM_fails cM_fails 4 (some .boolean) :: sxW) (rmL 0 0 0) D sxCl (sxT tc) sxE [.ref (ad 0), .int (b2i a), .int (b2i b), .int (b2i d)] μ (fun r μ' => r = b2i (a || b || d) ∧ MS tc μ' ad W u (thI a b d) kn lst sb mk cd lk fl vr wd cn li od) 0 0 := by
  refine sx_ofiQ (cc := cM_fails) (maxL := 4) (ret := (some .boolean)) (own := RM) sxE_ok (by decide) rfl rfl (Nat.le_of_ble_eq_true rfl) [some (.ref (ad 0)), some (.int (b2i a)), some (.int (b2i b)), some (.int (b2i d))] 0 rfl (fun p e s m below meth c A Q hQ C hr hlocks hnm => ?_)
  refine sx_aload_n C dM_fails_0 rfl rfl ?_
  have J26 : SW p l e (rmL 0 0 0) s m [.ref (ad 0), .int (b2i a), .int (b2i b), .int (b2i d)].toArray below meth c 4 D sxCl A 0 0 Q μ 26 [some (.ref (ad 0)), some (.int (b2i a)), some (.int (b2i b)), some (.int (b2i d))] [.int (thI a b d), .ref (ad 0)] := by
    refine sx_putf (Cn := RM) (T := TM) (N := 17) (ty := .int) (fs' := [.int (thI a b d), .int (nI W), .int (nI (nRw W)), .int (alM W), .int (nI u), .ref (ad 1), .ref (ad 2), .ref (ad 3), .ref (ad 4), .ref (ad 5), .ref (ad 6), .int (b2i kn), .ref (ad 7), .ref (ad 8), .ref (ad 9), .int lst, .int sb]) C dM_fails_26 (sx_in inM) tM tM_ok nM rfl 0 (by decide) (sx_w C kF_M_49) (fun _ h => h) rfl (by decide +kernel) rfl rfl (MS_f0 hS) (by simp) rfl ?_
    have hS1 : MS tc (sx_up μ (ad 0) (.inr (3, [.int (thI a b d), .int (nI W), .int (nI (nRw W)), .int (alM W), .int (nI u), .ref (ad 1), .ref (ad 2), .ref (ad 3), .ref (ad 4), .ref (ad 5), .ref (ad 6), .int (b2i kn), .ref (ad 7), .ref (ad 8), .ref (ad 9), .int lst, .int sb]))) ad W u (thI a b d) kn lst sb mk cd lk fl vr wd cn li od := MS_th hS _
    have J41 : SW p l e (rmL 0 0 0) s m [.ref (ad 0), .int (b2i a), .int (b2i b), .int (b2i d)].toArray below meth c 4 D sxCl A 0 0 Q (sx_up μ (ad 0) (.inr (3, [.int (thI a b d), .int (nI W), .int (nI (nRw W)), .int (alM W), .int (nI u), .ref (ad 1), .ref (ad 2), .ref (ad 3), .ref (ad 4), .ref (ad 5), .ref (ad 6), .int (b2i kn), .ref (ad 7), .ref (ad 8), .ref (ad 9), .int lst, .int sb]))) 41 [some (.ref (ad 0)), some (.int (b2i a)), some (.int (b2i b)), some (.int (b2i d))] [.int (b2i (a || b || d))] := by
      exact sx_zretQ C hQ dM_fails_41 hr (by exact b2i_01 _) hlocks (Nat.le_of_ble_eq_true rfl) (Nat.le_of_ble_eq_true rfl) (⟨rfl, hS1⟩)
    refine sx_aload_n C dM_fails_29 rfl rfl ?_
    refine sx_getf (Cn := RM) (T := TM) (N := 17) C dM_fails_30 (sx_in inM) rfl 0 (by decide) (sx_w C kF_M_49) (fun _ h => h) (MS_f0 hS1) rfl ?_
    refine sx_if_le (tgt := 40) C dM_fails_33 (by decide) (fun c33 => ?_) (fun c33 => ?_)
    · refine sx_iconst (v := 0) C dM_fails_40 (by decide) ?_
      refine sx_eqi ((b2i (a || b || d))) (by rw [← thI_pos]; first | (have := Int32.not_lt.mpr c33; simp [b2i, this]) | (have := Int32.not_le.mp c33; simp [b2i, this])) ?_
      exact J41
    · refine sx_iconst (v := 1) C dM_fails_36 (by decide) ?_
      refine sx_goto (tgt := 41) C dM_fails_37 (by decide) ?_
      refine sx_eqi ((b2i (a || b || d))) (by rw [← thI_pos]; first | (have := Int32.not_lt.mpr c33; simp [b2i, this]) | (have := Int32.not_le.mp c33; simp [b2i, this])) ?_
      exact J41
  refine sx_iload_n C dM_fails_1 rfl rfl ?_
  refine sx_if_eq (tgt := 9) C dM_fails_2 (by decide) (fun c2 => ?_) (fun c2 => ?_)
  · have b2 := b2i_z.mp c2
    refine sx_iload_n C dM_fails_9 rfl rfl ?_
    refine sx_if_eq (tgt := 17) C dM_fails_10 (by decide) (fun c10 => ?_) (fun c10 => ?_)
    · have b10 := b2i_z.mp c10
      refine sx_iload_n C dM_fails_17 rfl rfl ?_
      refine sx_if_eq (tgt := 25) C dM_fails_18 (by decide) (fun c18 => ?_) (fun c18 => ?_)
      · have b18 := b2i_z.mp c18
        refine sx_iconst (v := 0) C dM_fails_25 (by decide) ?_
        refine sx_eqi ((thI a b d)) (by unfold thI; simp [b2, b10, b18]) ?_
        exact J26
      · have b18 := b2i_ne.mp c18
        refine sx_iconst (v := 3) C dM_fails_21 (by decide) ?_
        refine sx_goto (tgt := 26) C dM_fails_22 (by decide) ?_
        refine sx_eqi ((thI a b d)) (by unfold thI; simp [b2, b10, b18]) ?_
        exact J26
    · have b10 := b2i_ne.mp c10
      refine sx_iconst (v := 2) C dM_fails_13 (by decide) ?_
      refine sx_goto (tgt := 26) C dM_fails_14 (by decide) ?_
      refine sx_eqi ((thI a b d)) (by unfold thI; simp [b2, b10]) ?_
      exact J26
  · have b2 := b2i_ne.mp c2
    refine sx_iconst (v := 1) C dM_fails_5 (by decide) ?_
    refine sx_goto (tgt := 26) C dM_fails_6 (by decide) ?_
    refine sx_eqi ((thI a b d)) (by unfold thI; simp [b2]) ?_
    exact J26

set_option maxHeartbeats 4000000 in
set_option maxRecDepth 100000 in
/-- is -/
theorem c_M_is (l : Launch) (D : va_G) (tc : Nat → ClassId) (x : Int32) (ad : Nat → Nat) (W : Nat) (u : Nat) (th : Int32) (kn : Bool) (lst : Int32) (sb : Int32) (mk : Nat → Int32) (cd : Nat → Int32) (lk : Nat → Int32) (fl : Nat → Int32) (vr : Nat → Int32) (wd : Nat → Int32) (cn : Nat → Int32) (li : Nat → Int32) (od : Nat → Int32) (μ : sx_M) (hS : MS tc μ ad W u th kn lst sb mk cd lk fl vr wd cn li od) : sx_Mi l yM_is (Cond.code yM_is cM_is 2 (some .boolean) :: sxW) (rmL 1 0 0) D sxCl (sxT tc) sxE [.ref (ad 0), .int x] μ (fun r μ' => μ = μ' ∧ r = b2i (isB u x)) 0 0 := by
  refine sx_ofiQ (cc := cM_is) (maxL := 2) (ret := (some .boolean)) (own := RM) sxE_ok (by decide) rfl rfl (Nat.le_of_ble_eq_true rfl) [some (.ref (ad 0)), some (.int x)] 0 rfl (fun p e s m below meth c A Q hQ C hr hlocks hnm => ?_)
  refine sx_iload_n C dM_is_0 rfl rfl ?_
  refine sx_iconst (v := 0) C dM_is_1 (by decide) ?_
  refine sx_aload_n C dM_is_2 rfl rfl ?_
  refine sx_getf (Cn := RM) (T := TM) (N := 17) C dM_is_3 (sx_in inM) rfl 4 (by decide) (sx_w C kF_M_52) (fun _ h => h) (MS_f0 hS) rfl ?_
  refine sx_iconst (v := 1) C dM_is_6 (by decide) ?_
  refine sx_isub C dM_is_7 ?_
  refine sx_calli C (sx_runS (As := [.int x, .int 0, .int ((nI u) - 1)]) (rest := []) C sx_all (c_M_in l D tc x 0 (nI u - 1) μ) (sx_cwS C 3 kM_M_55 ks_M_in kn_M kc_M_in rfl rfl (by decide +kernel) ⟨Nat.le_of_ble_eq_true rfl, Nat.le_of_ble_eq_true rfl⟩) rfl rfl (Nat.le_of_ble_eq_true rfl) dM_is_8 ⟨Nat.le_of_ble_eq_true rfl, Nat.le_of_ble_eq_true rfl⟩) (fun q1 μ1 h1 => ?_)
  obtain ⟨hm, h1⟩ := h1
  subst hm
  refine sx_eqi (b2i (isB u x)) (h1) ?_
  exact sx_zretQ C hQ dM_is_11 hr (by exact b2i_01 _) hlocks (Nat.le_of_ble_eq_true rfl) (Nat.le_of_ble_eq_true rfl) (⟨rfl, rfl⟩)

set_option maxHeartbeats 4000000 in
set_option maxRecDepth 100000 in
/-- isField -/
theorem c_M_isField (l : Launch) (D : va_G) (tc : Nat → ClassId) (f t : Int32) (ad : Nat → Nat) (W : Nat) (u : Nat) (th : Int32) (kn : Bool) (lst : Int32) (sb : Int32) (mk : Nat → Int32) (cd : Nat → Int32) (lk : Nat → Int32) (fl : Nat → Int32) (vr : Nat → Int32) (wd : Nat → Int32) (cn : Nat → Int32) (li : Nat → Int32) (od : Nat → Int32) (μ : sx_M) (hS : MS tc μ ad W u th kn lst sb mk cd lk fl vr wd cn li od) : sx_Mi l yM_isField (Cond.code yM_isField cM_isField 3 (some .boolean) :: sxW) (rmL 0 0 0) D sxCl (sxT tc) sxE [.ref (ad 0), .int f, .int t] μ (fun r μ' => μ = μ' ∧ r = b2i (fdB W f t)) 0 0 := by
  refine sx_ofiQ (cc := cM_isField) (maxL := 3) (ret := (some .boolean)) (own := RM) sxE_ok (by decide) rfl rfl (Nat.le_of_ble_eq_true rfl) [some (.ref (ad 0)), some (.int f), some (.int t)] 0 rfl (fun p e s m below meth c A Q hQ C hr hlocks hnm => ?_)
  have J22 : SW p l e (rmL 0 0 0) s m [.ref (ad 0), .int f, .int t].toArray below meth c 3 D sxCl A 0 0 Q μ 22 [some (.ref (ad 0)), some (.int f), some (.int t)] [.int (b2i (fdB W f t))] := by
    exact sx_zretQ C hQ dM_isField_22 hr (by exact b2i_01 _) hlocks (Nat.le_of_ble_eq_true rfl) (Nat.le_of_ble_eq_true rfl) (⟨rfl, rfl⟩)
  refine sx_iload_n C dM_isField_0 rfl rfl ?_
  refine sx_if_lt (tgt := 21) C dM_isField_1 (by decide) (fun c1 => ?_) (fun c1 => ?_)
  · refine sx_iconst (v := 0) C dM_isField_21 (by decide) ?_
    refine sx_eqi ((b2i (fdB W f t))) (by unfold fdB; simp [b2i, c1]) ?_
    exact J22
  · refine sx_iload_n C dM_isField_4 rfl rfl ?_
    refine sx_iload_n C dM_isField_5 rfl rfl ?_
    refine sx_icmp_gt (tgt := 21) C dM_isField_6 (by decide) (fun c6 => ?_) (fun c6 => ?_)
    · refine sx_iconst (v := 0) C dM_isField_21 (by decide) ?_
      refine sx_eqi ((b2i (fdB W f t))) (by unfold fdB; simp [b2i, c1, c6]) ?_
      exact J22
    · refine sx_iload_n C dM_isField_9 rfl rfl ?_
      refine sx_aload_n C dM_isField_10 rfl rfl ?_
      refine sx_getf (Cn := RM) (T := TM) (N := 17) C dM_isField_11 (sx_in inM) rfl 1 (by decide) (sx_w C kF_M_39) (fun _ h => h) (MS_f0 hS) rfl ?_
      refine sx_icmp_ge (tgt := 21) C dM_isField_14 (by decide) (fun c14 => ?_) (fun c14 => ?_)
      · have c15 := Int32.not_lt.mpr c14
        refine sx_iconst (v := 0) C dM_isField_21 (by decide) ?_
        refine sx_eqi ((b2i (fdB W f t))) (by unfold fdB; simp [b2i, c1, c6, c15]) ?_
        exact J22
      · have c15 := Int32.not_le.mp c14
        refine sx_iconst (v := 1) C dM_isField_17 (by decide) ?_
        refine sx_goto (tgt := 22) C dM_isField_18 (by decide) ?_
        refine sx_eqi ((b2i (fdB W f t))) (by unfold fdB; simp [b2i, c1, c6, c15]) ?_
        exact J22

set_option maxHeartbeats 4000000 in
set_option maxRecDepth 100000 in
/-- bitsOf -/
theorem c_M_bitsOf (l : Launch) (D : va_G) (tc : Nat → ClassId) (a b : Nat) (μ : sx_M) (hab : a ≤ b) (hb : b < 16) : sx_Mi l yM_bitsOf (Cond.code yM_bitsOf cM_bitsOf 2 (some .int) :: sxW) (rmL 0 0 0) D sxCl (sxT tc) sxE [.int (nI a), .int (nI b)] μ (fun r μ' => μ = μ' ∧ r = nI (fbN a b)) 0 0 := by
  refine sx_ofiQ (cc := cM_bitsOf) (maxL := 2) (ret := (some .int)) (own := RM) sxE_ok (by decide) rfl rfl (Nat.le_of_ble_eq_true rfl) [some (.int (nI a)), some (.int (nI b))] 0 rfl (fun p e s m below meth c A Q hQ C hr hlocks hnm => ?_)
  refine sx_iconst (v := 1) C dM_bitsOf_0 (by decide) ?_
  refine sx_iload_n C dM_bitsOf_1 rfl rfl ?_
  refine sx_iconst (v := 1) C dM_bitsOf_2 (by decide) ?_
  refine sx_iadd C dM_bitsOf_3 ?_
  refine sx_ishl C dM_bitsOf_4 ?_
  refine sx_iconst (v := 1) C dM_bitsOf_5 (by decide) ?_
  refine sx_iload_n C dM_bitsOf_6 rfl rfl ?_
  refine sx_ishl C dM_bitsOf_7 ?_
  refine sx_isub C dM_bitsOf_8 ?_
  exact sx_iretQ C hQ dM_bitsOf_9 hr hlocks (Nat.le_of_ble_eq_true rfl) (Nat.le_of_ble_eq_true rfl) (⟨rfl, fb_eq2 a (by omega) b hb hab⟩)

set_option maxHeartbeats 4000000 in
set_option maxRecDepth 100000 in
/-- ones -/
theorem c_M_ones (l : Launch) (D : va_G) (tc : Nat → ClassId) (x : Int32) (μ : sx_M) : sx_Mi l yM_ones (Cond.code yM_ones cM_ones 4 (some .int) :: sxW) (rmL 0 0 0) D sxCl (sxT tc) sxE [.int x] μ (fun r μ' => μ = μ' ∧ r = nI (pop32 x)) 0 0 := by
  refine sx_ofiQ (cc := cM_ones) (maxL := 4) (ret := (some .int)) (own := RM) sxE_ok (by decide) rfl rfl (Nat.le_of_ble_eq_true rfl) [some (.int x), none, none, none] 3 rfl (fun p e s m below meth c A Q hQ C hr hlocks hnm => ?_)
  refine sx_iload_n C dM_ones_0 rfl rfl ?_
  refine sx_iload_n C dM_ones_1 rfl rfl ?_
  refine sx_iconst (v := 1) C dM_ones_2 (by decide) ?_
  refine sx_iushr C dM_ones_3 ?_
  refine sx_ldc (v := 1431655765) C dM_ones_4 (sx_w C kK_M_59) ?_
  refine sx_iand C dM_ones_6 ?_
  refine sx_isub C dM_ones_7 ?_
  refine sx_topi (fun x1 ex1 => ?_)
  refine sx_istore_n (lv' := [some (.int x), some (.int x1), none, none]) C dM_ones_8 rfl (by decide) rfl rfl ?_
  refine sx_iload_n C dM_ones_9 rfl rfl ?_
  refine sx_ldc (v := 858993459) C dM_ones_10 (sx_w C kK_M_60) ?_
  refine sx_iand C dM_ones_12 ?_
  refine sx_iload_n C dM_ones_13 rfl rfl ?_
  refine sx_iconst (v := 2) C dM_ones_14 (by decide) ?_
  refine sx_iushr C dM_ones_15 ?_
  refine sx_ldc (v := 858993459) C dM_ones_16 (sx_w C kK_M_60) ?_
  refine sx_iand C dM_ones_18 ?_
  refine sx_iadd C dM_ones_19 ?_
  refine sx_topi (fun x2 ex2 => ?_)
  refine sx_istore_n (lv' := [some (.int x), some (.int x1), some (.int x2), none]) C dM_ones_20 rfl (by decide) rfl rfl ?_
  refine sx_iload_n C dM_ones_21 rfl rfl ?_
  refine sx_iload_n C dM_ones_22 rfl rfl ?_
  refine sx_iconst (v := 4) C dM_ones_23 (by decide) ?_
  refine sx_iushr C dM_ones_24 ?_
  refine sx_iadd C dM_ones_25 ?_
  refine sx_ldc (v := 252645135) C dM_ones_26 (sx_w C kK_M_61) ?_
  refine sx_iand C dM_ones_28 ?_
  refine sx_topi (fun x3 ex3 => ?_)
  refine sx_istore_n (lv' := [some (.int x), some (.int x1), some (.int x2), some (.int x3)]) C dM_ones_29 rfl (by decide) rfl rfl ?_
  refine sx_iload_n C dM_ones_30 rfl rfl ?_
  refine sx_ldc (v := 16843009) C dM_ones_31 (sx_w C kK_M_62) ?_
  refine sx_imul C dM_ones_33 ?_
  refine sx_bipush (v := 24) C dM_ones_34 (by decide) ?_
  refine sx_iushr C dM_ones_36 ?_
  exact sx_iretQ C hQ dM_ones_37 hr hlocks (Nat.le_of_ble_eq_true rfl) (Nat.le_of_ble_eq_true rfl) (⟨rfl, m_ones ex1 ex2 ex3⟩)

set_option maxHeartbeats 4000000 in
set_option maxRecDepth 100000 in
/-- thrown -/
theorem c_M_thrown (l : Launch) (D : va_G) (tc : Nat → ClassId) (ad : Nat → Nat) (W : Nat) (u : Nat) (th : Int32) (kn : Bool) (lst : Int32) (sb : Int32) (mk : Nat → Int32) (cd : Nat → Int32) (lk : Nat → Int32) (fl : Nat → Int32) (vr : Nat → Int32) (wd : Nat → Int32) (cn : Nat → Int32) (li : Nat → Int32) (od : Nat → Int32) (μ : sx_M) (hS : MS tc μ ad W u th kn lst sb mk cd lk fl vr wd cn li od) (S : Nat → Nat → Bool) (ed : Nat → Nat → Nat) (hA : AW W u S ed) (hP : MP W u S ed kn mk cd lk fl vr wd cn li) : sx_Mi l yM_thrown (Cond.code yM_thrown cM_thrown 1 (some .int) :: sxW) (rmL 0 0 0) D sxCl (sxT tc) sxE [.ref (ad 0)] μ (fun r μ' => r = th ∧ MInv tc μ' (ad 0) W u S ed th) 0 0 := by
  refine sx_ofiQ (cc := cM_thrown) (maxL := 1) (ret := (some .int)) (own := RM) sxE_ok (by decide) rfl rfl (Nat.le_of_ble_eq_true rfl) [some (.ref (ad 0))] 0 rfl (fun p e s m below meth c A Q hQ C hr hlocks hnm => ?_)
  refine sx_aload_n C dM_thrown_0 rfl rfl ?_
  refine sx_getf (Cn := RM) (T := TM) (N := 17) C dM_thrown_1 (sx_in inM) rfl 0 (by decide) (sx_w C kF_M_49) (fun _ h => h) (MS_f0 hS) rfl ?_
  exact sx_iretQ C hQ dM_thrown_4 hr hlocks (Nat.le_of_ble_eq_true rfl) (Nat.le_of_ble_eq_true rfl) (⟨rfl, MInv_of hA hS hP⟩)

set_option maxHeartbeats 4000000 in
set_option maxRecDepth 100000 in
/-- size -/
theorem c_M_size (l : Launch) (D : va_G) (tc : Nat → ClassId) (x : Int32) (ad : Nat → Nat) (W : Nat) (u : Nat) (th : Int32) (kn : Bool) (lst : Int32) (sb : Int32) (mk : Nat → Int32) (cd : Nat → Int32) (lk : Nat → Int32) (fl : Nat → Int32) (vr : Nat → Int32) (wd : Nat → Int32) (cn : Nat → Int32) (li : Nat → Int32) (od : Nat → Int32) (μ : sx_M) (hS : MS tc μ ad W u th kn lst sb mk cd lk fl vr wd cn li od) (S : Nat → Nat → Bool) (ed : Nat → Nat → Nat) (hA : AW W u S ed) (hP : MP W u S ed kn mk cd lk fl vr wd cn li) : sx_Mi l yM_size (Cond.code yM_size cM_size 2 (some .int) :: sxW) (rmL 0 0 0) D sxCl (sxT tc) sxE [.ref (ad 0), .int x] μ (fun r μ' => r = szI W u x ∧ MInv tc μ' (ad 0) W u S ed 0) 0 0 := by
  refine sx_ofiQ (cc := cM_size) (maxL := 2) (ret := (some .int)) (own := RM) sxE_ok (by decide) rfl rfl (Nat.le_of_ble_eq_true rfl) [some (.ref (ad 0)), some (.int x)] 0 rfl (fun p e s m below meth c A Q hQ C hr hlocks hnm => ?_)
  refine sx_aload_n C dM_size_0 rfl rfl ?_
  refine sx_iconst (v := 0) C dM_size_1 (by decide) ?_
  refine sx_putf (Cn := RM) (T := TM) (N := 17) (ty := .int) (fs' := [.int 0, .int (nI W), .int (nI (nRw W)), .int (alM W), .int (nI u), .ref (ad 1), .ref (ad 2), .ref (ad 3), .ref (ad 4), .ref (ad 5), .ref (ad 6), .int (b2i kn), .ref (ad 7), .ref (ad 8), .ref (ad 9), .int lst, .int sb]) C dM_size_2 (sx_in inM) tM tM_ok nM rfl 0 (by decide) (sx_w C kF_M_49) (fun _ h => h) rfl (by decide +kernel) rfl rfl (MS_f0 hS) (by simp) rfl ?_
  have hS1 : MS tc (sx_up μ (ad 0) (.inr (3, [.int 0, .int (nI W), .int (nI (nRw W)), .int (alM W), .int (nI u), .ref (ad 1), .ref (ad 2), .ref (ad 3), .ref (ad 4), .ref (ad 5), .ref (ad 6), .int (b2i kn), .ref (ad 7), .ref (ad 8), .ref (ad 9), .int lst, .int sb]))) ad W u 0 kn lst sb mk cd lk fl vr wd cn li od := MS_th hS 0
  refine sx_iload_n C dM_size_5 rfl rfl ?_
  refine sx_if_ne (tgt := 16) C dM_size_6 (by decide) (fun c6 => ?_) (fun c6 => ?_)
  · refine sx_iload_n C dM_size_16 rfl rfl ?_
    refine sx_iconst (v := 1) C dM_size_17 (by decide) ?_
    refine sx_icmp_ne (tgt := 28) C dM_size_18 (by decide) (fun c18 => ?_) (fun c18 => ?_)
    · refine sx_iconst (v := -1) C dM_size_28 (by decide) ?_
      exact sx_iretQ C hQ dM_size_29 hr hlocks (Nat.le_of_ble_eq_true rfl) (Nat.le_of_ble_eq_true rfl) (⟨by unfold szI; first | rw [if_pos c6] | rw [if_neg c6, if_pos c18] | rw [if_neg c6, if_neg c18], MInv_of hA hS1 hP⟩)
    · refine sx_aload_n C dM_size_21 rfl rfl ?_
      refine sx_getf (Cn := RM) (T := TM) (N := 17) C dM_size_22 (sx_in inM) rfl 1 (by decide) (sx_w C kF_M_39) (fun _ h => h) (MS_f0 hS1) rfl ?_
      refine sx_goto (tgt := 29) C dM_size_25 (by decide) ?_
      exact sx_iretQ C hQ dM_size_29 hr hlocks (Nat.le_of_ble_eq_true rfl) (Nat.le_of_ble_eq_true rfl) (⟨by unfold szI; first | rw [if_pos c6] | rw [if_neg c6, if_pos c18] | rw [if_neg c6, if_neg c18], MInv_of hA hS1 hP⟩)
  · refine sx_aload_n C dM_size_9 rfl rfl ?_
    refine sx_getf (Cn := RM) (T := TM) (N := 17) C dM_size_10 (sx_in inM) rfl 4 (by decide) (sx_w C kF_M_52) (fun _ h => h) (MS_f0 hS1) rfl ?_
    refine sx_goto (tgt := 29) C dM_size_13 (by decide) ?_
    exact sx_iretQ C hQ dM_size_29 hr hlocks (Nat.le_of_ble_eq_true rfl) (Nat.le_of_ble_eq_true rfl) (⟨by unfold szI; first | rw [if_pos c6] | rw [if_neg c6, if_pos c18] | rw [if_neg c6, if_neg c18], MInv_of hA hS1 hP⟩)

set_option maxHeartbeats 4000000 in
set_option maxRecDepth 100000 in
/-- clear -/
theorem c_M_clear (l : Launch) (D : va_G) (tc : Nat → ClassId) (ad : Nat → Nat) (W : Nat) (u : Nat) (th : Int32) (kn : Bool) (lst : Int32) (sb : Int32) (mk : Nat → Int32) (cd : Nat → Int32) (lk : Nat → Int32) (fl : Nat → Int32) (vr : Nat → Int32) (wd : Nat → Int32) (cn : Nat → Int32) (li : Nat → Int32) (od : Nat → Int32) (μ : sx_M) (hS : MS tc μ ad W u th kn lst sb mk cd lk fl vr wd cn li od) (S : Nat → Nat → Bool) (ed : Nat → Nat → Nat) (hA : AW W u S ed) (hP : MP W u S ed kn mk cd lk fl vr wd cn li) : sx_Mi l yM_clear (Cond.code yM_clear cM_clear 2 (some .int) :: sxW) (rmL 0 0 0) D sxCl (sxT tc) sxE [.ref (ad 0)] μ (fun r μ' => r = nI u ∧ MInv tc μ' (ad 0) W 0 S ed 0) 0 0 := by
  refine sx_ofiQ (cc := cM_clear) (maxL := 2) (ret := (some .int)) (own := RM) sxE_ok (by decide) rfl rfl (Nat.le_of_ble_eq_true rfl) [some (.ref (ad 0)), none] 1 rfl (fun p e s m below meth c A Q hQ C hr hlocks hnm => ?_)
  refine sx_aload_n C dM_clear_0 rfl rfl ?_
  refine sx_iconst (v := 0) C dM_clear_1 (by decide) ?_
  refine sx_putf (Cn := RM) (T := TM) (N := 17) (ty := .int) (fs' := [.int 0, .int (nI W), .int (nI (nRw W)), .int (alM W), .int (nI u), .ref (ad 1), .ref (ad 2), .ref (ad 3), .ref (ad 4), .ref (ad 5), .ref (ad 6), .int (b2i kn), .ref (ad 7), .ref (ad 8), .ref (ad 9), .int lst, .int sb]) C dM_clear_2 (sx_in inM) tM tM_ok nM rfl 0 (by decide) (sx_w C kF_M_49) (fun _ h => h) rfl (by decide +kernel) rfl rfl (MS_f0 hS) (by simp) rfl ?_
  have hS1 : MS tc (sx_up μ (ad 0) (.inr (3, [.int 0, .int (nI W), .int (nI (nRw W)), .int (alM W), .int (nI u), .ref (ad 1), .ref (ad 2), .ref (ad 3), .ref (ad 4), .ref (ad 5), .ref (ad 6), .int (b2i kn), .ref (ad 7), .ref (ad 8), .ref (ad 9), .int lst, .int sb]))) ad W u 0 kn lst sb mk cd lk fl vr wd cn li od := MS_th hS 0
  refine sx_aload_n C dM_clear_5 rfl rfl ?_
  refine sx_getf (Cn := RM) (T := TM) (N := 17) C dM_clear_6 (sx_in inM) rfl 4 (by decide) (sx_w C kF_M_52) (fun _ h => h) (MS_f0 hS1) rfl ?_
  refine sx_istore_n (lv' := [some (.ref (ad 0)), some (.int (nI u))]) C dM_clear_9 rfl (by decide) rfl rfl ?_
  refine sx_aload_n C dM_clear_10 rfl rfl ?_
  refine sx_iconst (v := 0) C dM_clear_11 (by decide) ?_
  refine sx_putf (Cn := RM) (T := TM) (N := 17) (ty := .int) (fs' := [.int 0, .int (nI W), .int (nI (nRw W)), .int (alM W), .int 0, .ref (ad 1), .ref (ad 2), .ref (ad 3), .ref (ad 4), .ref (ad 5), .ref (ad 6), .int (b2i kn), .ref (ad 7), .ref (ad 8), .ref (ad 9), .int lst, .int sb]) C dM_clear_12 (sx_in inM) tM tM_ok nM rfl 4 (by decide) (sx_w C kF_M_52) (fun _ h => h) rfl (by decide +kernel) rfl rfl (MS_f0 hS1) (by simp) rfl ?_
  have hS2 : MS tc (sx_up (sx_up μ (ad 0) (.inr (3, [.int 0, .int (nI W), .int (nI (nRw W)), .int (alM W), .int (nI u), .ref (ad 1), .ref (ad 2), .ref (ad 3), .ref (ad 4), .ref (ad 5), .ref (ad 6), .int (b2i kn), .ref (ad 7), .ref (ad 8), .ref (ad 9), .int lst, .int sb]))) (ad 0) (.inr (3, [.int 0, .int (nI W), .int (nI (nRw W)), .int (alM W), .int 0, .ref (ad 1), .ref (ad 2), .ref (ad 3), .ref (ad 4), .ref (ad 5), .ref (ad 6), .int (b2i kn), .ref (ad 7), .ref (ad 8), .ref (ad 9), .int lst, .int sb]))) ad W 0 0 kn lst sb mk cd lk fl vr wd cn li od := MS_u hS1 0
  refine sx_aload_n C dM_clear_15 rfl rfl ?_
  refine sx_iconst (v := 0) C dM_clear_16 (by decide) ?_
  refine sx_putf (Cn := RM) (T := TM) (N := 17) (ty := .boolean) (fs' := [.int 0, .int (nI W), .int (nI (nRw W)), .int (alM W), .int (nI 0), .ref (ad 1), .ref (ad 2), .ref (ad 3), .ref (ad 4), .ref (ad 5), .ref (ad 6), .int 0, .ref (ad 7), .ref (ad 8), .ref (ad 9), .int lst, .int sb]) C dM_clear_17 (sx_in inM) tM tM_ok nM rfl 11 (by decide) (sx_w C kF_M_73) (fun _ h => h) rfl (by decide +kernel) rfl rfl (MS_f0 hS2) (by simp) rfl ?_
  have hS3 : MS tc (sx_up (sx_up (sx_up μ (ad 0) (.inr (3, [.int 0, .int (nI W), .int (nI (nRw W)), .int (alM W), .int (nI u), .ref (ad 1), .ref (ad 2), .ref (ad 3), .ref (ad 4), .ref (ad 5), .ref (ad 6), .int (b2i kn), .ref (ad 7), .ref (ad 8), .ref (ad 9), .int lst, .int sb]))) (ad 0) (.inr (3, [.int 0, .int (nI W), .int (nI (nRw W)), .int (alM W), .int 0, .ref (ad 1), .ref (ad 2), .ref (ad 3), .ref (ad 4), .ref (ad 5), .ref (ad 6), .int (b2i kn), .ref (ad 7), .ref (ad 8), .ref (ad 9), .int lst, .int sb]))) (ad 0) (.inr (3, [.int 0, .int (nI W), .int (nI (nRw W)), .int (alM W), .int (nI 0), .ref (ad 1), .ref (ad 2), .ref (ad 3), .ref (ad 4), .ref (ad 5), .ref (ad 6), .int 0, .ref (ad 7), .ref (ad 8), .ref (ad 9), .int lst, .int sb]))) ad W 0 0 false lst sb mk cd lk fl vr wd cn li od := MS_kn hS2 false
  refine sx_iload_n C dM_clear_20 rfl rfl ?_
  exact sx_iretQ C hQ dM_clear_21 hr hlocks (Nat.le_of_ble_eq_true rfl) (Nat.le_of_ble_eq_true rfl) (⟨rfl, MInv_of ⟨hA.1, Nat.zero_le _, fun i hi => absurd hi (Nat.not_lt_zero _), fun i hi => absurd hi (Nat.not_lt_zero _)⟩ hS3 ⟨fun i hi => absurd hi (Nat.not_lt_zero _), fun i hi => absurd hi (Nat.not_lt_zero _), fun z => (by cases z)⟩⟩)

set_option maxHeartbeats 4000000 in
set_option maxRecDepth 100000 in
/-- has -/
theorem c_M_has (l : Launch) (D : va_G) (tc : Nat → ClassId) (a w : Nat) (ad : Nat → Nat) (W : Nat) (u : Nat) (th : Int32) (kn : Bool) (lst : Int32) (sb : Int32) (mk : Nat → Int32) (cd : Nat → Int32) (lk : Nat → Int32) (fl : Nat → Int32) (vr : Nat → Int32) (wd : Nat → Int32) (cn : Nat → Int32) (li : Nat → Int32) (od : Nat → Int32) (μ : sx_M) (hS : MS tc μ ad W u th kn lst sb mk cd lk fl vr wd cn li od) (ha : a ≤ 40) (hw : w < 65536) : sx_Mi l yM_has (Cond.code yM_has cM_has 3 (some .boolean) :: sxW) (rmL 0 0 0) D sxCl (sxT tc) sxE [.ref (ad 0), .int (nI a), .int (nI w)] μ (fun r μ' => μ = μ' ∧ r = b2i (bI (wd (2048 * a + w / 32)) (w % 32))) 0 0 := by
  have hq : 2048 * a + w / 32 < 83968 := by omega
  have hr9 : w % 32 < 32 := Nat.mod_lt _ (by decide)
  refine sx_ofiQ (cc := cM_has) (maxL := 3) (ret := (some .boolean)) (own := RM) sxE_ok (by decide) rfl rfl (Nat.le_of_ble_eq_true rfl) [some (.ref (ad 0)), some (.int (nI a)), some (.int (nI w))] 0 rfl (fun p e s m below meth c A Q hQ C hr hlocks hnm => ?_)
  have J31 : SW p l e (rmL 0 0 0) s m [.ref (ad 0), .int (nI a), .int (nI w)].toArray below meth c 3 D sxCl A 0 0 Q μ 31 [some (.ref (ad 0)), some (.int (nI a)), some (.int (nI w))] [.int (b2i (bI (wd (2048 * a + w / 32)) (w % 32)))] := by
    exact sx_zretQ C hQ dM_has_31 hr (by exact b2i_01 _) hlocks (Nat.le_of_ble_eq_true rfl) (Nat.le_of_ble_eq_true rfl) (⟨rfl, rfl⟩)
  refine sx_aload_n C dM_has_0 rfl rfl ?_
  refine sx_getf (Cn := RM) (T := TM) (N := 17) C dM_has_1 (sx_in inM) rfl 10 (by decide) (sx_w C kF_M_26) (fun _ h => h) (MS_f0 hS) rfl ?_
  refine sx_sipush (v := 2048) C dM_has_4 (by decide) ?_
  refine sx_iload_n C dM_has_7 rfl rfl ?_
  refine sx_imul C dM_has_8 ?_
  refine sx_eqi (nI (2048 * a)) (nI_mul 2048 a) ?_
  refine sx_iload_n C dM_has_9 rfl rfl ?_
  refine sx_bipush (v := 32) C dM_has_10 (by decide) ?_
  refine sx_idiv C dM_has_12 (by decide) ?_
  refine sx_eqi (nI (w / 32)) (nI_div (k := 32) (by omega) (by decide) (by decide)) ?_
  refine sx_iadd C dM_has_13 ?_
  refine sx_eqi (nI (2048 * a + w / 32)) (nI_add _ _) ?_
  refine sx_iald (j := (2048 * a + w / 32)) C dM_has_14 0 rfl (MS_f6 hS) (rfl) (hq) (Nat.le_of_ble_eq_true rfl) ?_
  refine sx_iload_n C dM_has_15 rfl rfl ?_
  refine sx_bipush (v := 32) C dM_has_16 (by decide) ?_
  refine sx_irem C dM_has_18 (by decide) ?_
  refine sx_eqi (nI (w % 32)) (nI_rem (k := 32) (by omega) (by decide) (by decide)) ?_
  refine sx_ishr C dM_has_19 ?_
  refine sx_iconst (v := 1) C dM_has_20 (by decide) ?_
  refine sx_iand C dM_has_21 ?_
  refine sx_eqi (b2i (bI (wd (2048 * a + w / 32)) (w % 32))) (m_bit _ hr9) ?_
  refine sx_iconst (v := 1) C dM_has_22 (by decide) ?_
  refine sx_icmp_ne (tgt := 30) C dM_has_23 (by decide) (fun c23 => ?_) (fun c23 => ?_)
  · have c24 : bI (wd (2048 * a + w / 32)) (w % 32) = false := by
      cases hb : bI (wd (2048 * a + w / 32)) (w % 32)
      · rfl
      · rw [hb] at c23; exact absurd rfl c23
    refine sx_iconst (v := 0) C dM_has_30 (by decide) ?_
    refine sx_eqi ((b2i (bI (wd (2048 * a + w / 32)) (w % 32)))) (by rw [c24]; rfl) ?_
    exact J31
  · have c24 : bI (wd (2048 * a + w / 32)) (w % 32) = true := b2i_inj c23
    refine sx_iconst (v := 1) C dM_has_26 (by decide) ?_
    refine sx_goto (tgt := 31) C dM_has_27 (by decide) ?_
    refine sx_eqi ((b2i (bI (wd (2048 * a + w / 32)) (w % 32)))) (by rw [c24]; rfl) ?_
    exact J31

theorem m_half {x n : Nat} : pu_c (fun i => x.testBit i) (n + 1) = x % 2 + pu_c (fun i => (x / 2).testBit i) n := by
  rw [Nat.add_comm n 1, pu_c_add]
  congr 1
  · show 0 + (if x.testBit 0 = true then 1 else 0) = _
    rw [Nat.testBit_zero]
    rcases Nat.mod_two_eq_zero_or_one x with h | h <;> rw [h] <;> rfl
  · refine pu_c_congr n (fun i _ => ?_)
    rw [Nat.add_comm 1 i, Nat.testBit_succ]
theorem m_c0 : ∀ {n x : Nat}, x < 2 ^ n → (pu_c (fun i => x.testBit i) n = 0 ↔ x = 0)
  | 0, x, h => ⟨fun _ => by simpa using h, fun _ => rfl⟩
  | n + 1, x, h => by
    rw [m_half]
    have := m_c0 (n := n) (x := x / 2) (by rw [Nat.pow_succ] at h; omega)
    omega
theorem m_c1 : ∀ {n x : Nat}, x + 1 < 2 ^ n → ((x + 1) &&& x = 0 ↔ pu_c (fun i => (x + 1).testBit i) n = 1)
  | 0, x, h => by omega
  | n + 1, x, h => by
    have h' : (x + 1) / 2 < 2 ^ n := by rw [Nat.pow_succ] at h; omega
    rw [m_half]
    rcases Nat.mod_two_eq_zero_or_one (x + 1) with z | z
    · obtain ⟨y, hy⟩ : ∃ y, (x + 1) / 2 = y + 1 := ⟨(x + 1) / 2 - 1, by omega⟩
      have e := nz_and (k := 1) (a := 0) (b := y + 1) (c := 1) (d := y) (by decide) (by decide)
      rw [show 0 + 2 ^ 1 * (y + 1) = x + 1 by omega, show 1 + 2 ^ 1 * y = x by omega, show (0 &&& 1 : Nat) = 0 from rfl] at e
      have ih := m_c1 (n := n) (x := y) (by omega)
      rw [z, hy, e]
      omega
    · have e := nz_and (k := 1) (a := 1) (b := (x + 1) / 2) (c := 0) (d := (x + 1) / 2) (by decide) (by decide)
      rw [show 1 + 2 ^ 1 * ((x + 1) / 2) = x + 1 by omega, show 0 + 2 ^ 1 * ((x + 1) / 2) = x by omega, show (1 &&& 0 : Nat) = 0 from rfl, Nat.and_self] at e
      have h0 := m_c0 h'
      rw [z, e]
      omega
theorem m_pow2 {f : Nat} (hf : f < 2 ^ 31) : pop32 (nI f) = 1 ↔ ¬ nI f ≤ 0 ∧ (nI f &&& (nI f - 1)) = 0 := by
  rcases f with _ | f
  · rw [pop32_nI]
    have : pu_c (fun i => (0 : Nat).testBit i) 32 = 0 := (m_c0 (by decide)).mpr rfl
    rw [this]
    exact ⟨fun h => absurd h (by decide), fun h => absurd (by decide) h.1⟩
  · have hle : (f + 1) &&& f ≤ f := Nat.and_le_right
    rw [nI_pred, jb_andI, pop32_nI, show (0 : Int32) = nI 0 from rfl, ab_nI (by omega) (by decide), m_c1 (n := 32) (by omega)]
    exact ⟨fun h => ⟨nI_nle (by omega) hf, h⟩, fun h => h.2⟩

set_option maxHeartbeats 4000000 in
set_option maxRecDepth 100000 in
/-- holds -/
theorem c_M_holds (l : Launch) (D : va_G) (tc : Nat → ClassId) (f kd v : Nat) (μ : sx_M) (hf : f < 2 ^ 31) (hk : kd ≤ 5) (hv : v < 2 ^ 31) : sx_Mi l yM_holds (Cond.code yM_holds cM_holds 3 (some .boolean) :: sxW) (rmL 0 0 0) D sxCl (sxT tc) sxE [.int (nI f), .int (nI kd), .int (nI v)] μ (fun r μ' => μ = μ' ∧ r = b2i (cdH f kd v)) 0 0 := by
  have hk6 : kd = 0 ∨ kd = 1 ∨ kd = 2 ∨ kd = 3 ∨ kd = 4 ∨ kd = 5 := by omega
  refine sx_ofiQ (cc := cM_holds) (maxL := 3) (ret := (some .boolean)) (own := RM) sxE_ok (by decide) rfl rfl (Nat.le_of_ble_eq_true rfl) [some (.int (nI f)), some (.int (nI kd)), some (.int (nI v))] 0 rfl (fun p e s m below meth c A Q hQ C hr hlocks hnm => ?_)
  refine sx_iload_n C dM_holds_0 rfl rfl ?_
  rcases hk6 with rfl | rfl | rfl | rfl | rfl | rfl
  · refine sx_tableIn (off := 35) (tgt := 36) C dM_holds_1 (by decide) (by decide) rfl (by decide) ?_
    refine sx_iload_n C dM_holds_36 rfl rfl ?_
    refine sx_iload_n C dM_holds_37 rfl rfl ?_
    refine sx_icmp_ne (tgt := 45) C dM_holds_38 (by decide) (fun c38 => ?_) (fun c38 => ?_)
    · have hx : ¬ f = v := fun h => c38 (by rw [h])
      refine sx_iconst (v := 0) C dM_holds_45 (by decide) ?_
      exact sx_zretQ C hQ dM_holds_46 hr (by simp) hlocks (Nat.le_of_ble_eq_true rfl) (Nat.le_of_ble_eq_true rfl) (⟨rfl, by simp [b2i, cdH, hx]⟩)
    · have hx : f = v := (nI_eq hf hv).mp c38
      refine sx_iconst (v := 1) C dM_holds_41 (by decide) ?_
      refine sx_goto (tgt := 46) C dM_holds_42 (by decide) ?_
      exact sx_zretQ C hQ dM_holds_46 hr (by simp) hlocks (Nat.le_of_ble_eq_true rfl) (Nat.le_of_ble_eq_true rfl) (⟨rfl, by simp [b2i, cdH, hx]⟩)
  · refine sx_tableIn (off := 46) (tgt := 47) C dM_holds_1 (by decide) (by decide) rfl (by decide) ?_
    refine sx_iload_n C dM_holds_47 rfl rfl ?_
    refine sx_iload_n C dM_holds_48 rfl rfl ?_
    refine sx_icmp_eq (tgt := 56) C dM_holds_49 (by decide) (fun c49 => ?_) (fun c49 => ?_)
    · have hx : f = v := (nI_eq hf hv).mp c49
      refine sx_iconst (v := 0) C dM_holds_56 (by decide) ?_
      exact sx_zretQ C hQ dM_holds_57 hr (by simp) hlocks (Nat.le_of_ble_eq_true rfl) (Nat.le_of_ble_eq_true rfl) (⟨rfl, by simp [b2i, cdH, hx]⟩)
    · have hx : ¬ f = v := fun h => c49 (by rw [h])
      refine sx_iconst (v := 1) C dM_holds_52 (by decide) ?_
      refine sx_goto (tgt := 57) C dM_holds_53 (by decide) ?_
      exact sx_zretQ C hQ dM_holds_57 hr (by simp) hlocks (Nat.le_of_ble_eq_true rfl) (Nat.le_of_ble_eq_true rfl) (⟨rfl, by simp [b2i, cdH, hx]⟩)
  · refine sx_tableIn (off := 57) (tgt := 58) C dM_holds_1 (by decide) (by decide) rfl (by decide) ?_
    refine sx_iload_n C dM_holds_58 rfl rfl ?_
    refine sx_iload_n C dM_holds_59 rfl rfl ?_
    refine sx_icmp_ge (tgt := 67) C dM_holds_60 (by decide) (fun c60 => ?_) (fun c60 => ?_)
    · have hx : ¬ f < v := Nat.not_lt.mpr ((nI_leI hv hf).mp c60)
      refine sx_iconst (v := 0) C dM_holds_67 (by decide) ?_
      exact sx_zretQ C hQ dM_holds_68 hr (by simp) hlocks (Nat.le_of_ble_eq_true rfl) (Nat.le_of_ble_eq_true rfl) (⟨rfl, by simp [b2i, cdH, hx]⟩)
    · have hx : f < v := Nat.not_le.mp (fun h => c60 ((nI_leI hv hf).mpr h))
      refine sx_iconst (v := 1) C dM_holds_63 (by decide) ?_
      refine sx_goto (tgt := 68) C dM_holds_64 (by decide) ?_
      exact sx_zretQ C hQ dM_holds_68 hr (by simp) hlocks (Nat.le_of_ble_eq_true rfl) (Nat.le_of_ble_eq_true rfl) (⟨rfl, by simp [b2i, cdH, hx]⟩)
  · refine sx_tableIn (off := 68) (tgt := 69) C dM_holds_1 (by decide) (by decide) rfl (by decide) ?_
    refine sx_iload_n C dM_holds_69 rfl rfl ?_
    refine sx_iload_n C dM_holds_70 rfl rfl ?_
    refine sx_icmp_le (tgt := 78) C dM_holds_71 (by decide) (fun c71 => ?_) (fun c71 => ?_)
    · have hx : ¬ v < f := Nat.not_lt.mpr ((nI_leI hf hv).mp c71)
      refine sx_iconst (v := 0) C dM_holds_78 (by decide) ?_
      exact sx_zretQ C hQ dM_holds_79 hr (by simp) hlocks (Nat.le_of_ble_eq_true rfl) (Nat.le_of_ble_eq_true rfl) (⟨rfl, by simp [b2i, cdH, hx]⟩)
    · have hx : v < f := Nat.not_le.mp (fun h => c71 ((nI_leI hf hv).mpr h))
      refine sx_iconst (v := 1) C dM_holds_74 (by decide) ?_
      refine sx_goto (tgt := 79) C dM_holds_75 (by decide) ?_
      exact sx_zretQ C hQ dM_holds_79 hr (by simp) hlocks (Nat.le_of_ble_eq_true rfl) (Nat.le_of_ble_eq_true rfl) (⟨rfl, by simp [b2i, cdH, hx]⟩)
  · refine sx_tableIn (off := 79) (tgt := 80) C dM_holds_1 (by decide) (by decide) rfl (by decide) ?_
    refine sx_iload_n C dM_holds_80 rfl rfl ?_
    refine sx_if_le (tgt := 101) C dM_holds_81 (by decide) (fun c81 => ?_) (fun c81 => ?_)
    · have hy : ¬ pop32 (nI f) = 1 := fun h => ((m_pow2 hf).mp h).1 c81
      have hx : True := trivial
      refine sx_iconst (v := 0) C dM_holds_101 (by decide) ?_
      exact sx_zretQ C hQ dM_holds_102 hr (by simp) hlocks (Nat.le_of_ble_eq_true rfl) (Nat.le_of_ble_eq_true rfl) (⟨rfl, by simp [b2i, cdH, hx, hy]⟩)
    · refine sx_iload_n C dM_holds_84 rfl rfl ?_
      refine sx_iload_n C dM_holds_85 rfl rfl ?_
      refine sx_iconst (v := 1) C dM_holds_86 (by decide) ?_
      refine sx_isub C dM_holds_87 ?_
      refine sx_iand C dM_holds_88 ?_
      refine sx_if_ne (tgt := 101) C dM_holds_89 (by decide) (fun c89 => ?_) (fun c89 => ?_)
      · have hy : ¬ pop32 (nI f) = 1 := fun h => c89 ((m_pow2 hf).mp h).2
        have hx : True := trivial
        refine sx_iconst (v := 0) C dM_holds_101 (by decide) ?_
        exact sx_zretQ C hQ dM_holds_102 hr (by simp) hlocks (Nat.le_of_ble_eq_true rfl) (Nat.le_of_ble_eq_true rfl) (⟨rfl, by simp [b2i, cdH, hx, hy]⟩)
      · have hy : pop32 (nI f) = 1 := (m_pow2 hf).mpr ⟨c81, c89⟩
        refine sx_iload_n C dM_holds_92 rfl rfl ?_
        refine sx_iload_n C dM_holds_93 rfl rfl ?_
        refine sx_icmp_gt (tgt := 101) C dM_holds_94 (by decide) (fun c94 => ?_) (fun c94 => ?_)
        · have hx : ¬ f ≤ v := Nat.not_le.mpr ((nI_ltI hv hf).mp c94)
          refine sx_iconst (v := 0) C dM_holds_101 (by decide) ?_
          exact sx_zretQ C hQ dM_holds_102 hr (by simp) hlocks (Nat.le_of_ble_eq_true rfl) (Nat.le_of_ble_eq_true rfl) (⟨rfl, by simp [b2i, cdH, hx, hy]⟩)
        · have hx : f ≤ v := Nat.not_lt.mp (fun h => c94 ((nI_ltI hv hf).mpr h))
          refine sx_iconst (v := 1) C dM_holds_97 (by decide) ?_
          refine sx_goto (tgt := 102) C dM_holds_98 (by decide) ?_
          exact sx_zretQ C hQ dM_holds_102 hr (by simp) hlocks (Nat.le_of_ble_eq_true rfl) (Nat.le_of_ble_eq_true rfl) (⟨rfl, by simp [b2i, cdH, hx, hy]⟩)
  · refine sx_tableOut (tgt := 103) C dM_holds_1 (Or.inr (by decide)) (by decide) ?_
    refine sx_iload_n C dM_holds_103 rfl rfl ?_
    refine sx_iload_n C dM_holds_104 rfl rfl ?_
    refine sx_icmp_lt (tgt := 118) C dM_holds_105 (by decide) (fun c105 => ?_) (fun c105 => ?_)
    · have hx : ¬ v ≤ f := Nat.not_le.mpr ((nI_ltI hf hv).mp c105)
      have hy : True := trivial
      refine sx_iconst (v := 0) C dM_holds_118 (by decide) ?_
      exact sx_zretQ C hQ dM_holds_119 hr (by simp) hlocks (Nat.le_of_ble_eq_true rfl) (Nat.le_of_ble_eq_true rfl) (⟨rfl, by simp [b2i, cdH, hx, hy]⟩)
    · have hx : v ≤ f := Nat.not_lt.mp (fun h => c105 ((nI_ltI hf hv).mpr h))
      refine sx_iload_n C dM_holds_108 rfl rfl ?_
      refine sx_iconst (v := 2) C dM_holds_109 (by decide) ?_
      refine sx_irem C dM_holds_110 (by decide) ?_
      refine sx_eqi (nI (f % 2)) (nI_rem (k := 2) hf (by decide) (by decide)) ?_
      refine sx_if_ne (tgt := 118) C dM_holds_111 (by decide) (fun c111 => ?_) (fun c111 => ?_)
      · have hy : ¬ f % 2 = 0 := fun h => c111 (by rw [h]; rfl)
        refine sx_iconst (v := 0) C dM_holds_118 (by decide) ?_
        exact sx_zretQ C hQ dM_holds_119 hr (by simp) hlocks (Nat.le_of_ble_eq_true rfl) (Nat.le_of_ble_eq_true rfl) (⟨rfl, by simp [b2i, cdH, hx, hy]⟩)
      · have hy : f % 2 = 0 := (nI_eq (by omega) (by decide)).mp c111
        refine sx_iconst (v := 1) C dM_holds_114 (by decide) ?_
        refine sx_goto (tgt := 119) C dM_holds_115 (by decide) ?_
        exact sx_zretQ C hQ dM_holds_119 hr (by simp) hlocks (Nat.le_of_ble_eq_true rfl) (Nat.le_of_ble_eq_true rfl) (⟨rfl, by simp [b2i, cdH, hx, hy]⟩)

theorem m_row {W : Nat} {wd : Nat → Int32} {a n : Nat} : ∀ {m : Nat}, m ≤ n → smN (fun k => pop32 (wd (2048 * a + k))) m = pu_c (rowM wd n a) (32 * m)
  | 0, _ => rfl
  | m + 1, h => by
    have ih := m_row (W := W) (wd := wd) (a := a) (n := n) (m := m) (by omega)
    have e2 : pop32 (wd (2048 * a + m)) = pu_c (fun i => rowM wd n a (32 * m + i)) 32 := pu_c_congr 32 (fun i hi => (rowM_at (by omega) hi).symm)
    show smN (fun k => pop32 (wd (2048 * a + k))) m + pop32 (wd (2048 * a + m)) = _
    rw [ih, e2, Nat.mul_succ, pu_c_add]
theorem m_cnt {W a : Nat} {wd : Nat → Int32} {T : Nat → Bool} (h : rowM wd (nRw W) a = T) (hz : ∀ w, 2 ^ W ≤ w → T w = false) : smN (fun k => pop32 (wd (2048 * a + k))) (nRw W) = pu_c T (2 ^ W) := by
  rw [m_row (W := W) (Nat.le_refl _), h]
  exact pu_trim nRw_W (fun i h1 _ => hz i h1)
theorem m_pop0 : pop32 0 = 0 := by decide +kernel
theorem m_pop1 : pop32 (-1) = 32 := by decide +kernel

set_option maxHeartbeats 4000000 in
set_option maxRecDepth 100000 in
/-- countOf -/
theorem c_M_countOf (l : Launch) (D : va_G) (tc : Nat → ClassId) (a : Nat) (ad : Nat → Nat) (W : Nat) (u : Nat) (th : Int32) (kn : Bool) (lst : Int32) (sb : Int32) (mk : Nat → Int32) (cd : Nat → Int32) (lk : Nat → Int32) (fl : Nat → Int32) (vr : Nat → Int32) (wd : Nat → Int32) (cn : Nat → Int32) (li : Nat → Int32) (od : Nat → Int32) (μ : sx_M) (hS : MS tc μ ad W u th kn lst sb mk cd lk fl vr wd cn li od) (ha : a ≤ 40) (hW : W ≤ 16) : sx_Mi l yM_countOf (Cond.code yM_countOf cM_countOf 5 (some .int) :: sxW) (rmL 1 0 0) D sxCl (sxT tc) sxE [.ref (ad 0), .int (nI a)] μ (fun r μ' => μ = μ' ∧ r = nI (smN (fun k => pop32 (wd (2048 * a + k))) (nRw W))) 0 0 := by
  have hR := nRw_le hW
  refine sx_ofiQ (cc := cM_countOf) (maxL := 5) (ret := (some .int)) (own := RM) sxE_ok (by decide) rfl rfl (Nat.le_of_ble_eq_true rfl) [some (.ref (ad 0)), some (.int (nI a)), none, none, none] 3 rfl (fun p e s m below meth c A Q hQ C hr hlocks hnm => ?_)
  refine sx_iconst (v := 0) C dM_countOf_0 (by decide) ?_
  refine sx_istore_n (lv' := [some (.ref (ad 0)), some (.int (nI a)), some (.int 0), none, none]) C dM_countOf_1 rfl (by decide) rfl rfl ?_
  refine sx_iconst (v := 0) C dM_countOf_2 (by decide) ?_
  refine sx_istore_n (lv' := [some (.ref (ad 0)), some (.int (nI a)), some (.int 0), some (.int 0), none]) C dM_countOf_3 rfl (by decide) rfl rfl ?_
  have L4 : ∀ (fu : Nat) (i : Nat), nRw W - i < fu → (i ≤ nRw W) → SW p l e (rmL 1 0 0) s m [.ref (ad 0), .int (nI a)].toArray below meth c 5 D sxCl A 0 0 Q μ 4 [some (.ref (ad 0)), some (.int (nI a)), some (.int (nI (smN (fun k => pop32 (wd (2048 * a + k))) i))), some (.int (nI i)), none] [] := by
    intro fu
    induction fu with
    | zero => intro _ h; exact absurd h (Nat.not_lt_zero _)
    | succ fu ih =>
      intro i hfu hiR
      refine sx_iload_n C dM_countOf_4 rfl rfl ?_
      refine sx_aload_n C dM_countOf_5 rfl rfl ?_
      refine sx_getf (Cn := RM) (T := TM) (N := 17) C dM_countOf_6 (sx_in inM) rfl 2 (by decide) (sx_w C kF_M_43) (fun _ h => h) (MS_f0 hS) rfl ?_
      refine sx_icmp_ge (tgt := 60) C dM_countOf_9 (by decide) (fun c9 => ?_) (fun c9 => ?_)
      · have hi : i = nRw W := Nat.le_antisymm hiR ((nI_leI (by omega) (by omega)).mp c9)
        subst hi
        refine sx_iload_n C dM_countOf_60 rfl rfl ?_
        exact sx_iretQ C hQ dM_countOf_61 hr hlocks (Nat.le_of_ble_eq_true rfl) (Nat.le_of_ble_eq_true rfl) (⟨rfl, rfl⟩)
      · have hi : i < nRw W := Nat.not_le.mp (fun h => c9 ((nI_leI (by omega) (by omega)).mpr h))
        refine sx_aload_n C dM_countOf_12 rfl rfl ?_
        refine sx_getf (Cn := RM) (T := TM) (N := 17) C dM_countOf_13 (sx_in inM) rfl 10 (by decide) (sx_w C kF_M_26) (fun _ h => h) (MS_f0 hS) rfl ?_
        refine sx_sipush (v := 2048) C dM_countOf_16 (by decide) ?_
        refine sx_iload_n C dM_countOf_19 rfl rfl ?_
        refine sx_imul C dM_countOf_20 ?_
        refine sx_eqi (nI (2048 * a)) (nI_mul 2048 a) ?_
        refine sx_iload_n C dM_countOf_21 rfl rfl ?_
        refine sx_iadd C dM_countOf_22 ?_
        refine sx_eqi (nI (2048 * a + i)) (nI_add _ _) ?_
        refine sx_iald (j := (2048 * a + i)) C dM_countOf_23 0 rfl (MS_f6 hS) (rfl) ((by omega)) (Nat.le_of_ble_eq_true rfl) ?_
        refine sx_istore (lv' := [some (.ref (ad 0)), some (.int (nI a)), some (.int (nI (smN (fun k => pop32 (wd (2048 * a + k))) i))), some (.int (nI i)), some (.int (wd (2048 * a + i)))]) C dM_countOf_24 (by decide) rfl rfl ?_
        refine sx_iload_n C dM_countOf_26 rfl rfl ?_
        have J52 : SW p l e (rmL 1 0 0) s m [.ref (ad 0), .int (nI a)].toArray below meth c 5 D sxCl A 0 0 Q μ 52 [some (.ref (ad 0)), some (.int (nI a)), some (.int (nI (smN (fun k => pop32 (wd (2048 * a + k))) i))), some (.int (nI i)), some (.int (wd (2048 * a + i)))] [.int (nI (pop32 (wd (2048 * a + i)))), .int (nI (smN (fun k => pop32 (wd (2048 * a + k))) i))] := by
          refine sx_iadd C dM_countOf_52 ?_
          refine sx_eqi (nI (smN (fun k => pop32 (wd (2048 * a + k))) (i + 1))) (nI_add _ _) ?_
          refine sx_istore_n (lv' := [some (.ref (ad 0)), some (.int (nI a)), some (.int (nI (smN (fun k => pop32 (wd (2048 * a + k))) (i + 1)))), some (.int (nI i)), some (.int (wd (2048 * a + i)))]) C dM_countOf_53 rfl (by decide) rfl rfl ?_
          refine sx_iinc (v := nI (i + 1)) (lv' := [some (.ref (ad 0)), some (.int (nI a)), some (.int (nI (smN (fun k => pop32 (wd (2048 * a + k))) (i + 1)))), some (.int (nI (i + 1))), some (.int (wd (2048 * a + i)))]) C dM_countOf_54 rfl (nI_1 i) (by decide) rfl rfl ?_
          refine sx_goto (tgt := 4) C dM_countOf_57 (by decide) ?_
          refine sx_weak (lv' := [some (.ref (ad 0)), some (.int (nI a)), some (.int (nI (smN (fun k => pop32 (wd (2048 * a + k))) (i + 1)))), some (.int (nI (i + 1))), none]) (And.intro rfl (And.intro rfl (And.intro rfl (And.intro rfl trivial)))) ?_
          exact ih (i + 1) (by omega) (by omega)
        refine sx_iload C dM_countOf_27 rfl ?_
        refine sx_if_ne (tgt := 36) C dM_countOf_29 (by decide) (fun c29 => ?_) (fun c29 => ?_)
        · refine sx_iload C dM_countOf_36 rfl ?_
          refine sx_iconst (v := -1) C dM_countOf_38 (by decide) ?_
          refine sx_icmp_ne (tgt := 47) C dM_countOf_39 (by decide) (fun c39 => ?_) (fun c39 => ?_)
          · refine sx_iload C dM_countOf_47 rfl ?_
            refine sx_calli C (sx_runS (As := [.int (wd (2048 * a + i))]) (rest := [.int (nI (smN (fun k => pop32 (wd (2048 * a + k))) i))]) C sx_all (c_M_ones l D tc (wd (2048 * a + i)) μ) (sx_cwS C 1 kM_M_63 ks_M_ones kn_M kc_M_ones rfl rfl (by decide +kernel) ⟨Nat.le_of_ble_eq_true rfl, Nat.le_of_ble_eq_true rfl⟩) rfl rfl (Nat.le_of_ble_eq_true rfl) dM_countOf_49 ⟨Nat.le_of_ble_eq_true rfl, Nat.le_of_ble_eq_true rfl⟩) (fun q1 μ1 h1 => ?_)
            obtain ⟨hm, h1⟩ := h1
            subst hm
            refine sx_eqi (nI (pop32 (wd (2048 * a + i)))) (h1) ?_
            refine sx_eqi ((nI (pop32 (wd (2048 * a + i))))) (by first | rfl | (rw [c29, m_pop0]; rfl) | (rw [c39, m_pop1]; rfl)) ?_
            exact J52
          · refine sx_bipush (v := 32) C dM_countOf_42 (by decide) ?_
            refine sx_goto (tgt := 52) C dM_countOf_44 (by decide) ?_
            refine sx_eqi ((nI (pop32 (wd (2048 * a + i))))) (by first | rfl | (rw [c29, m_pop0]; rfl) | (rw [c39, m_pop1]; rfl)) ?_
            exact J52
        · refine sx_iconst (v := 0) C dM_countOf_32 (by decide) ?_
          refine sx_goto (tgt := 52) C dM_countOf_33 (by decide) ?_
          refine sx_eqi ((nI (pop32 (wd (2048 * a + i))))) (by first | rfl | (rw [c29, m_pop0]; rfl) | (rw [c39, m_pop1]; rfl)) ?_
          exact J52
  exact L4 _ 0 (Nat.lt_succ_self _) (Nat.zero_le _)
