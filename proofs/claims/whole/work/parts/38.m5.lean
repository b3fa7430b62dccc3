/-! encoding -/
theorem m_ashr (x : Int64) {k : Nat} (hk : k < 64) (i : Nat) (hi : i < 64) : bL (jshrL x (nI k)) i = if k + i < 64 then bL x (k + i) else bL x 63 := by
  have e3 : ∀ k, k < 64 → (((nI k).toInt64 &&& 63).toBitVec.smod 64).toNat = k := by decide +kernel
  unfold jshrL bL
  show (x.toBitVec.sshiftRight' (((nI k).toInt64 &&& 63).toBitVec.smod 64)).getLsbD i = _
  rw [BitVec.getLsbD_sshiftRight', e3 k hk, BitVec.msb_eq_getLsbD_last]
  simp [hi]
theorem m_sh0 {W : Nat} (hW : W ≤ 16) {x : Int64} : jshrL x (nI W) = 0 ↔ ∃ m, m < 2 ^ W ∧ x = lN m := by
  have hp := en_pw hW
  constructor
  · intro h
    have hb := bL_zero_iff.mp h
    obtain ⟨n, hn, rfl⟩ := wb_of x
    refine ⟨n, Nat.lt_pow_two_of_testBit n fun i hi => ?_, rfl⟩
    rcases Nat.lt_or_ge i 64 with z | z
    · have := hb (i - W) (by omega)
      rw [m_ashr _ (by omega) _ (by omega), if_pos (by omega), show W + (i - W) = i by omega, bL_lN, decide_eq_true z, Bool.true_and] at this
      exact this
    · exact Nat.testBit_lt_two_pow (Nat.lt_of_lt_of_le hn (Nat.pow_le_pow_right (by decide) z))
  · rintro ⟨m, hm, rfl⟩
    refine bL_zero_iff.mpr fun i hi => ?_
    have hz : ∀ j, W ≤ j → bL (lN m) j = false := fun j hj => by
      rw [bL_lN, Nat.testBit_lt_two_pow (Nat.lt_of_lt_of_le hm (Nat.pow_le_pow_right (by decide) hj)), Bool.and_false]
    rw [m_ashr _ (by omega) _ hi]
    split
    · exact hz _ (by omega)
    · exact hz _ (by omega)
def encB (W : Nat) (x y : Int64) : Bool := decide (jshrL x (nI W) = 0) && decide (jshrL y (nI W) = 0) && decide ((y &&& (x ^^^ (-1))) = 0)
theorem encB_iff {W : Nat} (hW : W ≤ 16) {x y : Int64} : encB W x y = true ↔ ∃ m v, encOk W x y m v := by
  have hp := en_pw hW
  unfold encB
  rw [Bool.and_eq_true, Bool.and_eq_true, decide_eq_true_eq, decide_eq_true_eq, decide_eq_true_eq, m_sh0 hW, m_sh0 hW]
  constructor
  · rintro ⟨⟨⟨m, hm, rfl⟩, v, hv, rfl⟩, h⟩
    obtain ⟨v2, h1, h2, h3⟩ := (en_2 (by omega)).mp h
    have : v = v2 := (pk_lEQ (by omega) (by omega)).mp h2
    subst this
    exact ⟨m, v, hm, hv, rfl, rfl, h3⟩
  · rintro ⟨m, v, hm, hv, rfl, rfl, h⟩
    exact ⟨⟨⟨m, hm, rfl⟩, v, hv, rfl⟩, (en_2 (by omega)).mpr ⟨v, by rw [← h]; exact Nat.and_le_right, rfl, h⟩⟩
theorem enb_s {i k m v : Nat} {b b2 : Int32} (hi : i < 32) (h : ∀ j, j < 32 → bI b j = (decide (j < i) && decide ((32 * k + j) &&& m = v))) (hb : b2 = b ||| (if (32 * k + i) &&& m = v then jshl 1 (nI i) else 0)) : ∀ j, j < 32 → bI b2 j = (decide (j < i + 1) && decide ((32 * k + j) &&& m = v)) := by
  intro j hj
  rw [hb, bI_or, h j hj]
  by_cases e : (32 * k + i) &&& m = v
  · rw [if_pos e, bI_bit hi hj]
    by_cases z : i = j
    · subst z
      rw [decide_eq_true e, decide_eq_true (rfl : i = i), decide_eq_true (Nat.lt_succ_self i), Bool.or_true]
      rfl
    · rw [decide_eq_false z, Bool.or_false]
      congr 1
      rw [decide_eq_decide]
      omega
  · rw [if_neg e, bI_0, Bool.or_false]
    by_cases z : i = j
    · subst z
      rw [decide_eq_false e, Bool.and_false, Bool.and_false]
    · congr 1
      rw [decide_eq_decide]
      omega
theorem enb_f {W k m v : Nat} {b : Int32} (hk : k < nRw W) (h : ∀ j, j < 32 → bI b j = (decide (j < 32) && decide ((32 * k + j) &&& m = v))) : ∀ j, j < 32 → bI (b &&& alM W) j = fxS W m v (32 * k + j) := by
  intro j hj
  have := al_bit (W := W) (w := 32 * k + j) (by omega)
  rw [show (32 * k + j) % 32 = j by omega] at this
  rw [bI_and, h j hj, this, decide_eq_true hj, Bool.true_and, Bool.and_comm]
  rfl
theorem row_st {k u : Nat} {wd wd1 : Nat → Int32} {X : Int32} {Y : Nat → Nat → Bool} (h1 : ∀ q, q < 2048 * u → wd1 q = wd q) (h2 : ∀ j, j < k → ∀ i, i < 32 → bI (wd1 (2048 * u + j)) i = Y j i) (hX : ∀ i, i < 32 → bI X i = Y k i) : (∀ q, q < 2048 * u → va_up wd1 (2048 * u + k) X q = wd q) ∧ ∀ j, j < k + 1 → ∀ i, i < 32 → bI (va_up wd1 (2048 * u + k) X (2048 * u + j)) i = Y j i := by
  refine ⟨fun q hq => by rw [va_up_o _ _ (by omega)]; exact h1 q hq, fun j hj i hi => ?_⟩
  by_cases z : j = k
  · subst z; rw [va_up_s]; exact hX i hi
  · rw [va_up_o _ _ (by omega)]; exact h2 j (by omega) i hi
theorem row_eq {W e : Nat} {wd : Nat → Int32} {T : Nat → Bool} (h : ∀ j, j < nRw W → ∀ i, i < 32 → bI (wd (2048 * e + j)) i = T (32 * j + i)) (hz : ∀ w, 2 ^ W ≤ w → T w = false) : rowM wd (nRw W) e = T := by
  funext w
  by_cases hw : w < 32 * nRw W
  · rw [rowM_in hw, h _ (by omega) _ (Nat.mod_lt _ (by decide)), show 32 * (w / 32) + w % 32 = w by omega]
  · rw [hz w (Nat.le_trans nRw_W (by omega))]
    unfold rowM
    rw [decide_eq_false hw, Bool.false_and]
theorem en_MP {W u m v : Nat} {S : Nat → Nat → Bool} {ed : Nat → Nat → Nat} {kn : Bool} {mk cd lk fl vr wd cn li wd1 : Nat → Int32} (hW : W ≤ 16) (hP : MP W u S ed kn mk cd lk fl vr wd cn li) (h1 : ∀ q, q < 2048 * u → wd1 q = wd q) (h2 : ∀ j, j < nRw W → ∀ i, i < 32 → bI (wd1 (2048 * u + j)) i = fxS W m v (32 * j + i)) : MP W (u + 1) (va_up S u (fxS W m v)) (edU ed u m 0 0 0 0) false (va_up mk u (nI m)) (va_up cd u 0) (va_up lk u 0) (va_up fl u 0) (va_up vr u 0) wd1 cn li := by
  have hR := nRw_le hW
  refine ⟨fun e he => ?_, fun e he => ?_, fun z => (by cases z)⟩
  · by_cases z : e = u
    · subst z
      simp only [edU_s, edV, va_up_s]
      exact ⟨trivial, rfl, rfl, rfl, rfl⟩
    · simp only [edU_n _ _ _ _ _ _ _ z, va_up_o _ _ z]
      exact hP.1 e (by omega)
  · by_cases z : e = u
    · subst z
      rw [va_up_s]
      exact row_eq h2 fxS_z
    · rw [va_up_o _ _ z, rowM_same hR (fun k hk => h1 _ (by omega))]
      exact hP.2.1 e (by omega)

set_option maxHeartbeats 4000000 in
set_option maxRecDepth 100000 in
/-- encoding -/
theorem c_M_encoding (l : Launch) (D : va_G) (tc : Nat → ClassId) (x y : Int64) (ad : Nat → Nat) (W : Nat) (u : Nat) (th : Int32) (kn : Bool) (lst : Int32) (sb : Int32) (mk : Nat → Int32) (cd : Nat → Int32) (lk : Nat → Int32) (fl : Nat → Int32) (vr : Nat → Int32) (wd : Nat → Int32) (cn : Nat → Int32) (li : Nat → Int32) (od : Nat → Int32) (μ : sx_M) (hS : MS tc μ ad W u th kn lst sb mk cd lk fl vr wd cn li od) (S : Nat → Nat → Bool) (ed : Nat → Nat → Nat) (hA : AW W u S ed) (hP : MP W u S ed kn mk cd lk fl vr wd cn li) : sx_Mi l yM_encoding (Cond.code yM_encoding cM_encoding 10 (some .int) :: sxW) (rmL 1 0 0) D sxCl (sxT tc) sxE [.ref (ad 0), .long x, .long y] μ (fun r μ' => ∃ k u' S' ed', R_enc W u S ed x y k r u' S' ed' ∧ MInv tc μ' (ad 0) W u' S' ed' k) 0 0 := by
  have hW := hA.1.2
  have hu := hA.2.1
  have hR := nRw_le hW
  have hpw := en_pw hW
  refine sx_ofiQ (cc := cM_encoding) (maxL := 10) (ret := (some .int)) (own := RM) sxE_ok (by decide) rfl rfl (Nat.le_of_ble_eq_true rfl) [some (.ref (ad 0)), some (.long x), none, some (.long y), none, none, none, none, none, none] 5 rfl (fun p e s m below meth c A Q hQ C hr hlocks hnm => ?_)
  have J39 : SW p l e (rmL 1 0 0) s m [.ref (ad 0), .long x, .long y].toArray below meth c 10 D sxCl A 0 0 Q μ 39 [some (.ref (ad 0)), some (.long x), none, some (.long y), none, none, none, none, none, none] [.int (b2i (!encB W x y))] := by
    refine sx_istore (lv' := [some (.ref (ad 0)), some (.long x), none, some (.long y), none, some (.int (b2i (!encB W x y))), none, none, none, none]) C dM_encoding_39 (by decide) rfl rfl ?_
    refine sx_aload_n C dM_encoding_41 rfl rfl ?_
    refine sx_iload C dM_encoding_42 rfl ?_
    have J58 : SW p l e (rmL 1 0 0) s m [.ref (ad 0), .long x, .long y].toArray below meth c 10 D sxCl A 0 0 Q μ 58 [some (.ref (ad 0)), some (.long x), none, some (.long y), none, some (.int (b2i (!encB W x y))), none, none, none, none] [.int (b2i (decide (u = 40))), .int (b2i (!encB W x y)), .ref (ad 0)] := by
      refine sx_iconst (v := 0) C dM_encoding_58 (by decide) ?_
      refine sx_calli C (sx_runV (As := [.int (b2i (!encB W x y)), .int (b2i (decide (u = 40))), .int 0]) (rest := []) C sx_all (c_M_fails l D tc (!encB W x y) (decide (u = 40)) false ad W u th kn lst sb mk cd lk fl vr wd cn li od μ hS) (ci := 3) rfl (MS_f0 hS) (sx_cwV C 3 kM_M_69 ki_M_fails ke_M_fails kn_M kc_M_fails rfl rfl (by decide +kernel) ⟨Nat.le_of_ble_eq_true rfl, Nat.le_of_ble_eq_true rfl⟩) rfl rfl (Nat.le_of_ble_eq_true rfl) dM_encoding_59 ⟨Nat.le_of_ble_eq_true rfl, Nat.le_of_ble_eq_true rfl⟩) (fun q9 μ9 h9 => ?_)
      obtain ⟨h9, hT9⟩ := h9
      refine sx_eqi (b2i ((!encB W x y) || (decide (u = 40)) || false)) (h9) ?_
      refine sx_if_eq (tgt := 67) C dM_encoding_62 (by decide) (fun c62 => ?_) (fun c62 => ?_)
      · obtain ⟨t0, t1, t2, t3⟩ := th_0 (b2i_z.mp c62)
        rw [t0] at hT9
        obtain ⟨m9, v9, hok⟩ := (encB_iff hW).mp (th_f t1)
        have hu4 : u < 40 := by
          have := of_decide_eq_false t2
          omega
        have hx9 := hok.2.2.1
        have hy9 := hok.2.2.2.1
        have hm9 := hok.1
        have hv9 := hok.2.1
        refine sx_aload_n C dM_encoding_67 rfl rfl ?_
        refine sx_getf (Cn := RM) (T := TM) (N := 17) C dM_encoding_68 (sx_in inM) rfl 4 (by decide) (sx_w C kF_M_52) (fun _ h => h) (MS_f0 hT9) rfl ?_
        refine sx_istore (lv' := [some (.ref (ad 0)), some (.long x), none, some (.long y), none, some (.int (b2i (!encB W x y))), some (.int (nI u)), none, none, none]) C dM_encoding_71 (by decide) rfl rfl ?_
        refine sx_aload_n C dM_encoding_73 rfl rfl ?_
        refine sx_dup C dM_encoding_74 rfl ?_
        refine sx_getf (Cn := RM) (T := TM) (N := 17) C dM_encoding_75 (sx_in inM) rfl 4 (by decide) (sx_w C kF_M_52) (fun _ h => h) (MS_f0 hT9) rfl ?_
        refine sx_iconst (v := 1) C dM_encoding_78 (by decide) ?_
        refine sx_iadd C dM_encoding_79 ?_
        refine sx_eqi (nI (u + 1)) (nI_1 u) ?_
        refine sx_putf (Cn := RM) (T := TM) (N := 17) (ty := .int) (fs' := [.int 0, .int (nI W), .int (nI (nRw W)), .int (alM W), .int (nI (u + 1)), .ref (ad 1), .ref (ad 2), .ref (ad 3), .ref (ad 4), .ref (ad 5), .ref (ad 6), .int (b2i kn), .ref (ad 7), .ref (ad 8), .ref (ad 9), .int lst, .int sb]) C dM_encoding_80 (sx_in inM) tM tM_ok nM rfl 4 (by decide) (sx_w C kF_M_52) (fun _ h => h) rfl (by decide +kernel) rfl rfl (MS_f0 hT9) (by simp) rfl ?_
        have h1s : MS tc (sx_up μ9 (ad 0) (.inr (3, [.int 0, .int (nI W), .int (nI (nRw W)), .int (alM W), .int (nI (u + 1)), .ref (ad 1), .ref (ad 2), .ref (ad 3), .ref (ad 4), .ref (ad 5), .ref (ad 6), .int (b2i kn), .ref (ad 7), .ref (ad 8), .ref (ad 9), .int lst, .int sb]))) ad W (u + 1) 0 kn lst sb mk cd lk fl vr wd cn li od := MS_u hT9 (u + 1)
        refine sx_aload_n C dM_encoding_83 rfl rfl ?_
        refine sx_getf (Cn := RM) (T := TM) (N := 17) C dM_encoding_84 (sx_in inM) rfl 5 (by decide) (sx_w C kF_M_7) (fun _ h => h) (MS_f0 h1s) rfl ?_
        refine sx_iload C dM_encoding_87 rfl ?_
        refine sx_lload_n C dM_encoding_89 rfl rfl ?_
        refine sx_l2i C dM_encoding_90 ?_
        refine sx_eqi (nI m9) (by rw [hx9]; exact lN_i m9) ?_
        refine sx_iast (j := u) C dM_encoding_91 0 rfl (MS_f1 h1s) (rfl) (hu4) (Nat.le_of_ble_eq_true rfl) ?_
        have h2s : MS tc (sx_up (sx_up μ9 (ad 0) (.inr (3, [.int 0, .int (nI W), .int (nI (nRw W)), .int (alM W), .int (nI (u + 1)), .ref (ad 1), .ref (ad 2), .ref (ad 3), .ref (ad 4), .ref (ad 5), .ref (ad 6), .int (b2i kn), .ref (ad 7), .ref (ad 8), .ref (ad 9), .int lst, .int sb]))) (ad 1) (.inl (tc 0, 40, .inl (va_up mk u (nI m9))))) ad W (u + 1) 0 kn lst sb (va_up mk u (nI m9)) cd lk fl vr wd cn li od := MS_mk h1s _
        refine sx_aload_n C dM_encoding_92 rfl rfl ?_
        refine sx_getf (Cn := RM) (T := TM) (N := 17) C dM_encoding_93 (sx_in inM) rfl 6 (by decide) (sx_w C kF_M_13) (fun _ h => h) (MS_f0 h2s) rfl ?_
        refine sx_iload C dM_encoding_96 rfl ?_
        refine sx_iconst (v := 0) C dM_encoding_98 (by decide) ?_
        refine sx_iast (j := u) C dM_encoding_99 0 rfl (MS_f2 h2s) (rfl) (hu4) (Nat.le_of_ble_eq_true rfl) ?_
        have h3s : MS tc (sx_up (sx_up (sx_up μ9 (ad 0) (.inr (3, [.int 0, .int (nI W), .int (nI (nRw W)), .int (alM W), .int (nI (u + 1)), .ref (ad 1), .ref (ad 2), .ref (ad 3), .ref (ad 4), .ref (ad 5), .ref (ad 6), .int (b2i kn), .ref (ad 7), .ref (ad 8), .ref (ad 9), .int lst, .int sb]))) (ad 1) (.inl (tc 0, 40, .inl (va_up mk u (nI m9))))) (ad 2) (.inl (tc 0, 40, .inl (va_up cd u 0)))) ad W (u + 1) 0 kn lst sb (va_up mk u (nI m9)) (va_up cd u 0) lk fl vr wd cn li od := MS_cd h2s _
        refine sx_aload_n C dM_encoding_100 rfl rfl ?_
        refine sx_getf (Cn := RM) (T := TM) (N := 17) C dM_encoding_101 (sx_in inM) rfl 7 (by decide) (sx_w C kF_M_16) (fun _ h => h) (MS_f0 h3s) rfl ?_
        refine sx_iload C dM_encoding_104 rfl ?_
        refine sx_iconst (v := 0) C dM_encoding_106 (by decide) ?_
        refine sx_iast (j := u) C dM_encoding_107 0 rfl (MS_f3 h3s) (rfl) (hu4) (Nat.le_of_ble_eq_true rfl) ?_
        have h4s : MS tc (sx_up (sx_up (sx_up (sx_up μ9 (ad 0) (.inr (3, [.int 0, .int (nI W), .int (nI (nRw W)), .int (alM W), .int (nI (u + 1)), .ref (ad 1), .ref (ad 2), .ref (ad 3), .ref (ad 4), .ref (ad 5), .ref (ad 6), .int (b2i kn), .ref (ad 7), .ref (ad 8), .ref (ad 9), .int lst, .int sb]))) (ad 1) (.inl (tc 0, 40, .inl (va_up mk u (nI m9))))) (ad 2) (.inl (tc 0, 40, .inl (va_up cd u 0)))) (ad 3) (.inl (tc 0, 40, .inl (va_up lk u 0)))) ad W (u + 1) 0 kn lst sb (va_up mk u (nI m9)) (va_up cd u 0) (va_up lk u 0) fl vr wd cn li od := MS_lk h3s _
        refine sx_aload_n C dM_encoding_108 rfl rfl ?_
        refine sx_getf (Cn := RM) (T := TM) (N := 17) C dM_encoding_109 (sx_in inM) rfl 8 (by decide) (sx_w C kF_M_19) (fun _ h => h) (MS_f0 h4s) rfl ?_
        refine sx_iload C dM_encoding_112 rfl ?_
        refine sx_iconst (v := 0) C dM_encoding_114 (by decide) ?_
        refine sx_iast (j := u) C dM_encoding_115 0 rfl (MS_f4 h4s) (rfl) (hu4) (Nat.le_of_ble_eq_true rfl) ?_
        have h5s : MS tc (sx_up (sx_up (sx_up (sx_up (sx_up μ9 (ad 0) (.inr (3, [.int 0, .int (nI W), .int (nI (nRw W)), .int (alM W), .int (nI (u + 1)), .ref (ad 1), .ref (ad 2), .ref (ad 3), .ref (ad 4), .ref (ad 5), .ref (ad 6), .int (b2i kn), .ref (ad 7), .ref (ad 8), .ref (ad 9), .int lst, .int sb]))) (ad 1) (.inl (tc 0, 40, .inl (va_up mk u (nI m9))))) (ad 2) (.inl (tc 0, 40, .inl (va_up cd u 0)))) (ad 3) (.inl (tc 0, 40, .inl (va_up lk u 0)))) (ad 4) (.inl (tc 0, 40, .inl (va_up fl u 0)))) ad W (u + 1) 0 kn lst sb (va_up mk u (nI m9)) (va_up cd u 0) (va_up lk u 0) (va_up fl u 0) vr wd cn li od := MS_fl h4s _
        refine sx_aload_n C dM_encoding_116 rfl rfl ?_
        refine sx_getf (Cn := RM) (T := TM) (N := 17) C dM_encoding_117 (sx_in inM) rfl 9 (by decide) (sx_w C kF_M_22) (fun _ h => h) (MS_f0 h5s) rfl ?_
        refine sx_iload C dM_encoding_120 rfl ?_
        refine sx_iconst (v := 0) C dM_encoding_122 (by decide) ?_
        refine sx_iast (j := u) C dM_encoding_123 0 rfl (MS_f5 h5s) (rfl) (hu4) (Nat.le_of_ble_eq_true rfl) ?_
        have h6s : MS tc (sx_up (sx_up (sx_up (sx_up (sx_up (sx_up μ9 (ad 0) (.inr (3, [.int 0, .int (nI W), .int (nI (nRw W)), .int (alM W), .int (nI (u + 1)), .ref (ad 1), .ref (ad 2), .ref (ad 3), .ref (ad 4), .ref (ad 5), .ref (ad 6), .int (b2i kn), .ref (ad 7), .ref (ad 8), .ref (ad 9), .int lst, .int sb]))) (ad 1) (.inl (tc 0, 40, .inl (va_up mk u (nI m9))))) (ad 2) (.inl (tc 0, 40, .inl (va_up cd u 0)))) (ad 3) (.inl (tc 0, 40, .inl (va_up lk u 0)))) (ad 4) (.inl (tc 0, 40, .inl (va_up fl u 0)))) (ad 5) (.inl (tc 0, 40, .inl (va_up vr u 0)))) ad W (u + 1) 0 kn lst sb (va_up mk u (nI m9)) (va_up cd u 0) (va_up lk u 0) (va_up fl u 0) (va_up vr u 0) wd cn li od := MS_vr h5s _
        refine sx_iconst (v := 0) C dM_encoding_124 (by decide) ?_
        refine sx_eqi (nI 0) (rfl) ?_
        refine sx_istore (lv' := [some (.ref (ad 0)), some (.long x), none, some (.long y), none, some (.int (b2i (!encB W x y))), some (.int (nI u)), some (.int (nI 0)), none, none]) C dM_encoding_125 (by decide) rfl rfl ?_
        have L127 : ∀ (fu : Nat) (k : Nat) (μ1 : sx_M) (wd1 : Nat → Int32), nRw W - k < fu → (k ≤ nRw W) → (MS tc μ1 ad W (u + 1) 0 kn lst sb (va_up mk u (nI m9)) (va_up cd u 0) (va_up lk u 0) (va_up fl u 0) (va_up vr u 0) wd1 cn li od) → (∀ q, q < 2048 * u → wd1 q = wd q) → (∀ j, j < k → ∀ i, i < 32 → bI (wd1 (2048 * u + j)) i = (fun j i => fxS W m9 v9 (32 * j + i)) j i) → SW p l e (rmL 1 0 0) s m [.ref (ad 0), .long x, .long y].toArray below meth c 10 D sxCl A 0 0 Q μ1 127 [some (.ref (ad 0)), some (.long x), none, some (.long y), none, some (.int (b2i (!encB W x y))), some (.int (nI u)), some (.int (nI k)), none, none] [] := by
          intro fu
          induction fu with
          | zero => intro _ _ _ h; exact absurd h (Nat.not_lt_zero _)
          | succ fu ih =>
            intro k μ1 wd1 hfu hk hL r1 r2
            refine sx_iload C dM_encoding_127 rfl ?_
            refine sx_aload_n C dM_encoding_129 rfl rfl ?_
            refine sx_getf (Cn := RM) (T := TM) (N := 17) C dM_encoding_130 (sx_in inM) rfl 2 (by decide) (sx_w C kF_M_43) (fun _ h => h) (MS_f0 hL) rfl ?_
            refine sx_icmp_ge (tgt := 211) C dM_encoding_133 (by decide) (fun c133 => ?_) (fun c133 => ?_)
            · have hc133 : nRw W ≤ k := (nI_leI (by omega) (by omega)).mp c133
              have hkn : k = nRw W := by omega
              rw [hkn] at r2
              refine sx_aload_n C dM_encoding_211 rfl rfl ?_
              refine sx_iconst (v := 0) C dM_encoding_212 (by decide) ?_
              refine sx_putf (Cn := RM) (T := TM) (N := 17) (ty := .boolean) (fs' := [.int 0, .int (nI W), .int (nI (nRw W)), .int (alM W), .int (nI (u + 1)), .ref (ad 1), .ref (ad 2), .ref (ad 3), .ref (ad 4), .ref (ad 5), .ref (ad 6), .int 0, .ref (ad 7), .ref (ad 8), .ref (ad 9), .int lst, .int sb]) C dM_encoding_213 (sx_in inM) tM tM_ok nM rfl 11 (by decide) (sx_w C kF_M_73) (fun _ h => h) rfl (by decide +kernel) rfl rfl (MS_f0 hL) (by simp) rfl ?_
              have hL9 : MS tc (sx_up μ1 (ad 0) (.inr (3, [.int 0, .int (nI W), .int (nI (nRw W)), .int (alM W), .int (nI (u + 1)), .ref (ad 1), .ref (ad 2), .ref (ad 3), .ref (ad 4), .ref (ad 5), .ref (ad 6), .int 0, .ref (ad 7), .ref (ad 8), .ref (ad 9), .int lst, .int sb]))) ad W (u + 1) 0 false lst sb (va_up mk u (nI m9)) (va_up cd u 0) (va_up lk u 0) (va_up fl u 0) (va_up vr u 0) wd1 cn li od := MS_kn hL false
              refine sx_iload C dM_encoding_216 rfl ?_
              exact sx_iretQ C hQ dM_encoding_218 hr hlocks (Nat.le_of_ble_eq_true rfl) (Nat.le_of_ble_eq_true rfl) (⟨0, _, _, _, Or.inl ⟨rfl, m9, v9, hok, hu4, rfl, rfl, rfl, rfl⟩, MInv_of (en_AW hA hu4 hm9) hL9 (en_MP hW hP r1 r2)⟩)
            · have hc133 : ¬ nRw W ≤ k := fun h => c133 ((nI_leI (by omega) (by omega)).mpr h)
              refine sx_iconst (v := 0) C dM_encoding_136 (by decide) ?_
              refine sx_istore (lv' := [some (.ref (ad 0)), some (.long x), none, some (.long y), none, some (.int (b2i (!encB W x y))), some (.int (nI u)), some (.int (nI k)), some (.int 0), none]) C dM_encoding_137 (by decide) rfl rfl ?_
              refine sx_iconst (v := 0) C dM_encoding_139 (by decide) ?_
              refine sx_eqi (nI 0) (rfl) ?_
              refine sx_istore (lv' := [some (.ref (ad 0)), some (.long x), none, some (.long y), none, some (.int (b2i (!encB W x y))), some (.int (nI u)), some (.int (nI k)), some (.int 0), some (.int (nI 0))]) C dM_encoding_140 (by decide) rfl rfl ?_
              have L142 : ∀ (fu2 : Nat) (i : Nat) (bt : Int32), 32 - i < fu2 → (i ≤ 32) → (∀ j, j < 32 → bI bt j = (decide (j < i) && decide ((32 * k + j) &&& m9 = v9))) → SW p l e (rmL 1 0 0) s m [.ref (ad 0), .long x, .long y].toArray below meth c 10 D sxCl A 0 0 Q μ1 142 [some (.ref (ad 0)), some (.long x), none, some (.long y), none, some (.int (b2i (!encB W x y))), some (.int (nI u)), some (.int (nI k)), some (.int bt), some (.int (nI i))] [] := by
                intro fu2
                induction fu2 with
                | zero => intro _ _ h; exact absurd h (Nat.not_lt_zero _)
                | succ fu2 ih2 =>
                  intro i bt hfu2 hi hbt
                  refine sx_iload C dM_encoding_142 rfl ?_
                  refine sx_bipush (v := 32) C dM_encoding_144 (by decide) ?_
                  refine sx_icmp_ge (tgt := 184) C dM_encoding_146 (by decide) (fun c146 => ?_) (fun c146 => ?_)
                  · have hi32 : i = 32 := by
                      have := (nI_leI (a := 32) (by omega) (by omega)).mp c146
                      omega
                    rw [hi32] at hbt
                    refine sx_aload_n C dM_encoding_184 rfl rfl ?_
                    refine sx_getf (Cn := RM) (T := TM) (N := 17) C dM_encoding_185 (sx_in inM) rfl 10 (by decide) (sx_w C kF_M_26) (fun _ h => h) (MS_f0 hL) rfl ?_
                    refine sx_sipush (v := 2048) C dM_encoding_188 (by decide) ?_
                    refine sx_iload C dM_encoding_191 rfl ?_
                    refine sx_imul C dM_encoding_193 ?_
                    refine sx_eqi (nI (2048 * u)) (nI_mul 2048 u) ?_
                    refine sx_iload C dM_encoding_194 rfl ?_
                    refine sx_iadd C dM_encoding_196 ?_
                    refine sx_eqi (nI (2048 * u + k)) (nI_add _ _) ?_
                    refine sx_iload C dM_encoding_197 rfl ?_
                    refine sx_aload_n C dM_encoding_199 rfl rfl ?_
                    refine sx_getf (Cn := RM) (T := TM) (N := 17) C dM_encoding_200 (sx_in inM) rfl 3 (by decide) (sx_w C kF_M_46) (fun _ h => h) (MS_f0 hL) rfl ?_
                    refine sx_iand C dM_encoding_203 ?_
                    refine sx_iast (j := (2048 * u + k)) C dM_encoding_204 0 rfl (MS_f6 hL) (rfl) ((by omega)) (Nat.le_of_ble_eq_true rfl) ?_
                    have hL2 := MS_wd hL (va_up wd1 (2048 * u + k) (bt &&& alM W))
                    have r3 := row_st r1 r2 (enb_f (by omega) hbt)
                    refine sx_weak (lv' := [some (.ref (ad 0)), some (.long x), none, some (.long y), none, some (.int (b2i (!encB W x y))), some (.int (nI u)), some (.int (nI k)), none, none]) (And.intro rfl (And.intro rfl (And.intro rfl (And.intro rfl (And.intro rfl (And.intro rfl trivial)))))) ?_
                    refine sx_iinc (v := nI (k + 1)) (lv' := [some (.ref (ad 0)), some (.long x), none, some (.long y), none, some (.int (b2i (!encB W x y))), some (.int (nI u)), some (.int (nI (k + 1))), none, none]) C dM_encoding_205 rfl (nI_1 k) (by decide) rfl rfl ?_
                    refine sx_goto (tgt := 127) C dM_encoding_208 (by decide) ?_
                    exact ih (k + 1) _ _ (by omega) (by omega) hL2 r3.1 r3.2
                  · have hi32 : ¬ 32 ≤ i := fun h => c146 ((nI_leI (a := 32) (by omega) (by omega)).mpr h)
                    refine sx_iload C dM_encoding_149 rfl ?_
                    have J175 : SW p l e (rmL 1 0 0) s m [.ref (ad 0), .long x, .long y].toArray below meth c 10 D sxCl A 0 0 Q μ1 175 [some (.ref (ad 0)), some (.long x), none, some (.long y), none, some (.int (b2i (!encB W x y))), some (.int (nI u)), some (.int (nI k)), some (.int bt), some (.int (nI i))] [.int (if (32 * k + i) &&& m9 = v9 then jshl 1 (nI i) else 0), .int bt] := by
                      refine sx_ior C dM_encoding_175 ?_
                      refine sx_topi (fun bt2 ebt2 => ?_)
                      refine sx_istore (lv' := [some (.ref (ad 0)), some (.long x), none, some (.long y), none, some (.int (b2i (!encB W x y))), some (.int (nI u)), some (.int (nI k)), some (.int bt2), some (.int (nI i))]) C dM_encoding_176 (by decide) rfl rfl ?_
                      refine sx_iinc (v := nI (i + 1)) (lv' := [some (.ref (ad 0)), some (.long x), none, some (.long y), none, some (.int (b2i (!encB W x y))), some (.int (nI u)), some (.int (nI k)), some (.int bt2), some (.int (nI (i + 1)))]) C dM_encoding_178 rfl (nI_1 i) (by decide) rfl rfl ?_
                      refine sx_goto (tgt := 142) C dM_encoding_181 (by decide) ?_
                      exact ih2 (i + 1) bt2 (by omega) (by omega) (enb_s (by omega) hbt ebt2)
                    refine sx_bipush (v := 32) C dM_encoding_151 (by decide) ?_
                    refine sx_iload C dM_encoding_153 rfl ?_
                    refine sx_imul C dM_encoding_155 ?_
                    refine sx_eqi (nI (32 * k)) (nI_mul 32 k) ?_
                    refine sx_iload C dM_encoding_156 rfl ?_
                    refine sx_iadd C dM_encoding_158 ?_
                    refine sx_eqi (nI (32 * k + i)) (nI_add _ _) ?_
                    refine sx_lload_n C dM_encoding_159 rfl rfl ?_
                    refine sx_l2i C dM_encoding_160 ?_
                    refine sx_eqi (nI m9) (by rw [hx9]; exact lN_i m9) ?_
                    refine sx_iand C dM_encoding_161 ?_
                    refine sx_eqi (nI ((32 * k + i) &&& m9)) (jb_andI _ _) ?_
                    refine sx_lload_n C dM_encoding_162 rfl rfl ?_
                    refine sx_l2i C dM_encoding_163 ?_
                    refine sx_eqi (nI v9) (by rw [hy9]; exact lN_i v9) ?_
                    refine sx_icmp_ne (tgt := 174) C dM_encoding_164 (by decide) (fun c164 => ?_) (fun c164 => ?_)
                    · have b164 : ¬ (32 * k + i) &&& m9 = v9 := fun z => c164 (by rw [z])
                      refine sx_iconst (v := 0) C dM_encoding_174 (by decide) ?_
                      refine sx_eqi ((if (32 * k + i) &&& m9 = v9 then jshl 1 (nI i) else 0)) (by first | rw [if_pos b164] | rw [if_neg b164]) ?_
                      exact J175
                    · have b164 : (32 * k + i) &&& m9 = v9 := (ab_nI (by have : (32 * k + i) &&& m9 ≤ m9 := Nat.and_le_right; omega) (by omega)).mp c164
                      refine sx_iconst (v := 1) C dM_encoding_167 (by decide) ?_
                      refine sx_iload C dM_encoding_168 rfl ?_
                      refine sx_ishl C dM_encoding_170 ?_
                      refine sx_goto (tgt := 175) C dM_encoding_171 (by decide) ?_
                      refine sx_eqi ((if (32 * k + i) &&& m9 = v9 then jshl 1 (nI i) else 0)) (by first | rw [if_pos b164] | rw [if_neg b164]) ?_
                      exact J175
              exact L142 _ 0 0 (Nat.lt_succ_self _) (Nat.zero_le _) (fun j _ => by rw [bI_0, decide_eq_false (Nat.not_lt_zero _), Bool.false_and])
        exact L127 _ 0 _ wd (Nat.lt_succ_self _) (Nat.zero_le _) h6s (fun _ _ => rfl) (fun j hj => absurd hj (Nat.not_lt_zero _))
      · have hE : R_enc W u S ed x y (thI (!encB W x y) (decide (u = 40)) false) 0 u S ed := by
          rcases th_2 (b2i_ne.mp c62) with ⟨z1, z2⟩ | ⟨z1, z2, z3⟩
          · exact Or.inr ⟨Or.inl ⟨z2, fun m v h => by rw [(encB_iff hW).mpr ⟨m, v, h⟩] at z1; cases z1⟩, rfl, rfl, rfl⟩
          · exact Or.inr ⟨Or.inr ⟨z3, of_decide_eq_true z2, (encB_iff hW).mp (th_f z1)⟩, rfl, rfl, rfl⟩
        refine sx_iconst (v := 0) C dM_encoding_65 (by decide) ?_
        exact sx_iretQ C hQ dM_encoding_66 hr hlocks (Nat.le_of_ble_eq_true rfl) (Nat.le_of_ble_eq_true rfl) (⟨_, u, S, ed, hE, MInv_of hA hT9 hP⟩)
    refine sx_aload_n C dM_encoding_44 rfl rfl ?_
    refine sx_getf (Cn := RM) (T := TM) (N := 17) C dM_encoding_45 (sx_in inM) rfl 4 (by decide) (sx_w C kF_M_52) (fun _ h => h) (MS_f0 hS) rfl ?_
    refine sx_bipush (v := 40) C dM_encoding_48 (by decide) ?_
    refine sx_icmp_ne (tgt := 57) C dM_encoding_50 (by decide) (fun c50 => ?_) (fun c50 => ?_)
    · have b50 : ¬ u = 40 := fun z => c50 (by rw [z]; rfl)
      refine sx_iconst (v := 0) C dM_encoding_57 (by decide) ?_
      refine sx_eqi ((b2i (decide (u = 40)))) (by first | (rw [decide_eq_true b50]; rfl) | (rw [decide_eq_false b50]; rfl)) ?_
      exact J58
    · have b50 : u = 40 := (ab_nI (b := 40) (by omega) (by decide)).mp c50
      refine sx_iconst (v := 1) C dM_encoding_53 (by decide) ?_
      refine sx_goto (tgt := 58) C dM_encoding_54 (by decide) ?_
      refine sx_eqi ((b2i (decide (u = 40)))) (by first | (rw [decide_eq_true b50]; rfl) | (rw [decide_eq_false b50]; rfl)) ?_
      exact J58
  refine sx_lload_n C dM_encoding_0 rfl rfl ?_
  refine sx_aload_n C dM_encoding_1 rfl rfl ?_
  refine sx_getf (Cn := RM) (T := TM) (N := 17) C dM_encoding_2 (sx_in inM) rfl 1 (by decide) (sx_w C kF_M_39) (fun _ h => h) (MS_f0 hS) rfl ?_
  refine sx_lshr C dM_encoding_5 ?_
  refine sx_lconst (v := 0) C dM_encoding_6 (by decide) ?_
  refine sx_lcmp C dM_encoding_7 ?_
  refine sx_if_ne (tgt := 34) C dM_encoding_8 (by decide) (fun c8 => ?_) (fun c8 => ?_)
  · have b8 : ¬ jshrL x (nI W) = 0 := fun z => c8 ((lg_cmp_eq _ _).mpr z)
    refine sx_iconst (v := 1) C dM_encoding_34 (by decide) ?_
    refine sx_goto (tgt := 39) C dM_encoding_35 (by decide) ?_
    refine sx_eqi ((b2i (!encB W x y))) (by unfold encB; first | (rw [decide_eq_false b8]; rfl) | (rw [decide_eq_true b8, decide_eq_false b19]; rfl) | (rw [decide_eq_true b8, decide_eq_true b19, decide_eq_true b31]; rfl) | (rw [decide_eq_true b8, decide_eq_true b19, decide_eq_false b31]; rfl)) ?_
    exact J39
  · have b8 : jshrL x (nI W) = 0 := (lg_cmp_eq _ _).mp c8
    refine sx_lload_n C dM_encoding_11 rfl rfl ?_
    refine sx_aload_n C dM_encoding_12 rfl rfl ?_
    refine sx_getf (Cn := RM) (T := TM) (N := 17) C dM_encoding_13 (sx_in inM) rfl 1 (by decide) (sx_w C kF_M_39) (fun _ h => h) (MS_f0 hS) rfl ?_
    refine sx_lshr C dM_encoding_16 ?_
    refine sx_lconst (v := 0) C dM_encoding_17 (by decide) ?_
    refine sx_lcmp C dM_encoding_18 ?_
    refine sx_if_ne (tgt := 34) C dM_encoding_19 (by decide) (fun c19 => ?_) (fun c19 => ?_)
    · have b19 : ¬ jshrL y (nI W) = 0 := fun z => c19 ((lg_cmp_eq _ _).mpr z)
      refine sx_iconst (v := 1) C dM_encoding_34 (by decide) ?_
      refine sx_goto (tgt := 39) C dM_encoding_35 (by decide) ?_
      refine sx_eqi ((b2i (!encB W x y))) (by unfold encB; first | (rw [decide_eq_false b8]; rfl) | (rw [decide_eq_true b8, decide_eq_false b19]; rfl) | (rw [decide_eq_true b8, decide_eq_true b19, decide_eq_true b31]; rfl) | (rw [decide_eq_true b8, decide_eq_true b19, decide_eq_false b31]; rfl)) ?_
      exact J39
    · have b19 : jshrL y (nI W) = 0 := (lg_cmp_eq _ _).mp c19
      refine sx_lload_n C dM_encoding_22 rfl rfl ?_
      refine sx_lload_n C dM_encoding_23 rfl rfl ?_
      refine sx_ldc2 (v := (-1)) C dM_encoding_24 (sx_w C kL_M_67) ?_
      refine sx_lxor C dM_encoding_27 ?_
      refine sx_land C dM_encoding_28 ?_
      refine sx_lconst (v := 0) C dM_encoding_29 (by decide) ?_
      refine sx_lcmp C dM_encoding_30 ?_
      refine sx_if_eq (tgt := 38) C dM_encoding_31 (by decide) (fun c31 => ?_) (fun c31 => ?_)
      · have b31 : (y &&& (x ^^^ (-1))) = 0 := (lg_cmp_eq _ _).mp c31
        refine sx_iconst (v := 0) C dM_encoding_38 (by decide) ?_
        refine sx_eqi ((b2i (!encB W x y))) (by unfold encB; first | (rw [decide_eq_false b8]; rfl) | (rw [decide_eq_true b8, decide_eq_false b19]; rfl) | (rw [decide_eq_true b8, decide_eq_true b19, decide_eq_true b31]; rfl) | (rw [decide_eq_true b8, decide_eq_true b19, decide_eq_false b31]; rfl)) ?_
        exact J39
      · have b31 : ¬ (y &&& (x ^^^ (-1))) = 0 := fun z => c31 ((lg_cmp_eq _ _).mpr z)
        refine sx_iconst (v := 1) C dM_encoding_34 (by decide) ?_
        refine sx_goto (tgt := 39) C dM_encoding_35 (by decide) ?_
        refine sx_eqi ((b2i (!encB W x y))) (by unfold encB; first | (rw [decide_eq_false b8]; rfl) | (rw [decide_eq_true b8, decide_eq_false b19]; rfl) | (rw [decide_eq_true b8, decide_eq_true b19, decide_eq_true b31]; rfl) | (rw [decide_eq_true b8, decide_eq_true b19, decide_eq_false b31]; rfl)) ?_
        exact J39
