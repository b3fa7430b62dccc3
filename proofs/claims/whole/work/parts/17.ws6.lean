theorem ck_ex (f : Nat → Int64) (n W c : Nat) : ∃ j, ckN f n W c j := by
  by_cases h : c < n ∧ f c = -1
  · have h0 : ckF f n c 0 := ⟨Nat.mod_one _, by rw [Nat.pow_zero]; omega, fun d h1 h2 => by
      rw [Nat.pow_zero] at h2
      rw [show d = c by omega]; exact h.2⟩
    obtain ⟨m, hm, hP, he⟩ := bk_max (P := fun j => ckF f n c j) h0 (W - 6)
    refine ⟨m, Or.inr ⟨hP, hm, fun ⟨h1, h2⟩ => ?_⟩⟩
    rcases he with e | e
    · omega
    · exact e h2
  · exact ⟨0, Or.inl ⟨h, rfl⟩⟩

set_option maxHeartbeats 4000000 in
set_option maxRecDepth 100000 in
/-- lowestOfBlock -/
theorem c_S_lowestOfBlock (l : Launch) (D : va_G) (tc : Nat → ClassId) (o r W k : Nat) (f : Nat → Int64) (μ : sx_M) (hW : W ≤ 16) (hk : k < 2 ^ 31) (hok : wsOk f W) (ho : μ o = some (.inr (1, [.int (nI W), .ref r]))) (hr9 : μ r = some (.inl (tc 1, nCh W, .inr (.inl f)))) : sx_Mi l yS_lowestOfBlock (Cond.code yS_lowestOfBlock cS_lowestOfBlock 8 (some .int) :: sxW) (rmL 2 0 0) D sxCl (sxT tc) sxE [.ref o, .int (nI k)] μ (fun r2 μ' => μ = μ' ∧ ((∃ w, w < 64 * nCh W ∧ bkS (rowS f (nCh W)) (max W 6) w = true ∧ pu_c (bkS (rowS f (nCh W)) (max W 6)) w = k ∧ r2 = nI w) ∨ (pu_c (bkS (rowS f (nCh W)) (max W 6)) (64 * nCh W) ≤ k ∧ r2 = -1))) 0 0 := by
  have hN := nCh_le hW
  refine sx_ofiQ (cc := cS_lowestOfBlock) (maxL := 8) (ret := (some .int)) (own := RS) sxE_ok (by decide) rfl rfl (Nat.le_of_ble_eq_true rfl) [some (.ref o), some (.int (nI k)), none, none, none, none, none, none] 6 rfl (fun p e s m below meth c A Q hQ C hr hlocks hnm => ?_)
  refine sx_iload_n C dS_lowestOfBlock_0 rfl rfl ?_
  refine sx_eqi (nI (k - pu_c (bkS (rowS f (nCh W)) (max W 6)) (64 * 0))) (rfl) ?_
  refine sx_istore_n (lv' := [some (.ref o), some (.int (nI k)), some (.int (nI (k - pu_c (bkS (rowS f (nCh W)) (max W 6)) (64 * 0)))), none, none, none, none, none]) C dS_lowestOfBlock_1 rfl (by decide) rfl rfl ?_
  refine sx_iconst (v := 0) C dS_lowestOfBlock_2 (by decide) ?_
  refine sx_eqi (nI 0) (rfl) ?_
  refine sx_istore_n (lv' := [some (.ref o), some (.int (nI k)), some (.int (nI (k - pu_c (bkS (rowS f (nCh W)) (max W 6)) (64 * 0)))), some (.int (nI 0)), none, none, none, none]) C dS_lowestOfBlock_3 rfl (by decide) rfl rfl ?_
  refine sx_iconst (v := 0) C dS_lowestOfBlock_4 (by decide) ?_
  refine sx_eqi (nI 0) (rfl) ?_
  refine sx_istore (lv' := [some (.ref o), some (.int (nI k)), some (.int (nI (k - pu_c (bkS (rowS f (nCh W)) (max W 6)) (64 * 0)))), some (.int (nI 0)), some (.int (nI 0)), none, none, none]) C dS_lowestOfBlock_5 (by decide) rfl rfl ?_
  have L7 : ∀ (fu : Nat) (i nx : Nat), nCh W - i < fu → (i ≤ nCh W) → (i ≤ nx) → (nx ≤ nCh W) → (bk_bd (rowS f (nCh W)) (max W 6) (64 * nx)) → (pu_c (bkS (rowS f (nCh W)) (max W 6)) (64 * nx) ≤ k) → SW p l e (rmL 2 0 0) s m [.ref o, .int (nI k)].toArray below meth c 8 D sxCl A 0 0 Q μ 7 [some (.ref o), some (.int (nI k)), some (.int (nI (k - pu_c (bkS (rowS f (nCh W)) (max W 6)) (64 * nx)))), some (.int (nI nx)), some (.int (nI i)), none, none, none] [] := by
    intro fu
    induction fu with
    | zero => intro _ _ h; exact absurd h (Nat.not_lt_zero _)
    | succ fu ih =>
      intro i nx hfu hi hinx hnx hbd hcnt
      refine sx_iload C dS_lowestOfBlock_7 rfl ?_
      refine sx_aload_n C dS_lowestOfBlock_9 rfl rfl ?_
      refine sx_getf (Cn := RS) (T := TS) (N := 2) C dS_lowestOfBlock_10 (sx_in inS) rfl 1 (by decide) (sx_w C kF_S_15) (fun _ h => h) ho rfl ?_
      refine sx_alen (v := nI (nCh W)) C dS_lowestOfBlock_13 1 rfl hr9 rfl ?_
      refine sx_icmp_ge (tgt := 81) C dS_lowestOfBlock_14 (by decide) (fun c14 => ?_) (fun c14 => ?_)
      · have hc : nCh W ≤ i := (nI_leI (by omega) (by omega)).mp c14
        obtain rfl : nx = nCh W := by omega
        refine sx_iconst (v := -1) C dS_lowestOfBlock_81 (by decide) ?_
        exact sx_iretQ C hQ dS_lowestOfBlock_82 hr hlocks (Nat.le_of_ble_eq_true rfl) (Nat.le_of_ble_eq_true rfl) (⟨rfl, Or.inr ⟨hcnt, rfl⟩⟩)
      · have hc : ¬ nCh W ≤ i := fun h => c14 ((nI_leI (by omega) (by omega)).mpr h)
        refine sx_iload C dS_lowestOfBlock_17 rfl ?_
        refine sx_iload_n C dS_lowestOfBlock_19 rfl rfl ?_
        refine sx_icmp_ne (tgt := 75) C dS_lowestOfBlock_20 (by decide) (fun c20 => ?_) (fun c20 => ?_)
        · have hne : ¬ i = nx := fun h => c20 (by rw [h])
          refine sx_iinc (v := nI (i + 1)) (lv' := [some (.ref o), some (.int (nI k)), some (.int (nI (k - pu_c (bkS (rowS f (nCh W)) (max W 6)) (64 * nx)))), some (.int (nI nx)), some (.int (nI (i + 1))), none, none, none]) C dS_lowestOfBlock_75 rfl (nI_1 i) (by decide) rfl rfl ?_
          refine sx_goto (tgt := 7) C dS_lowestOfBlock_78 (by decide) ?_
          exact ih (i + 1) nx (by omega) (by omega) (by omega) hnx hbd hcnt
        · obtain rfl : i = nx := (nI_eq (by omega) (by omega)).mp c20
          refine sx_aload_n C dS_lowestOfBlock_23 rfl rfl ?_
          refine sx_getf (Cn := RS) (T := TS) (N := 2) C dS_lowestOfBlock_24 (sx_in inS) rfl 1 (by decide) (sx_w C kF_S_15) (fun _ h => h) ho rfl ?_
          refine sx_iload C dS_lowestOfBlock_27 rfl ?_
          refine sx_lald (j := i) C dS_lowestOfBlock_29 1 rfl hr9 (rfl) (by omega) (by omega) ?_
          refine sx_calll C (sx_runS (As := [.long (f i)]) (rest := []) C sx_all (c_S_blockStarts l D tc (f i) μ) (sx_cwS C 1 kM_S_53 ks_S_blockStarts kn_S kc_S_blockStarts rfl rfl (by decide +kernel) ⟨Nat.le_of_ble_eq_true rfl, Nat.le_of_ble_eq_true rfl⟩) rfl rfl (Nat.le_of_ble_eq_true rfl) dS_lowestOfBlock_30 ⟨Nat.le_of_ble_eq_true rfl, Nat.le_of_ble_eq_true rfl⟩) (fun r1 μ1 h1 => ?_)
          obtain ⟨hm, h1⟩ := h1
          subst hm
          refine sx_eql (bk_s (f i) 6 ||| bk_w (f i) 6) (h1) ?_
          refine sx_lstore (lv' := [some (.ref o), some (.int (nI k)), some (.int (nI (k - pu_c (bkS (rowS f (nCh W)) (max W 6)) (64 * i)))), some (.int (nI i)), some (.int (nI i)), some (.long (bk_s (f i) 6 ||| bk_w (f i) 6)), none, none]) C dS_lowestOfBlock_33 (by decide) rfl rfl ?_
          refine sx_lload C dS_lowestOfBlock_35 rfl ?_
          refine sx_calli C (sx_runS (As := [.long (bk_s (f i) 6 ||| bk_w (f i) 6)]) (rest := []) C sx_all (c_JL_bitCount l D tc (bk_s (f i) 6 ||| bk_w (f i) 6) μ) (sx_cwS C 1 kM_S_44 ks_JL_bitCount kn_JL kc_JL_bitCount rfl rfl (by decide +kernel) ⟨Nat.le_of_ble_eq_true rfl, Nat.le_of_ble_eq_true rfl⟩) rfl rfl (Nat.le_of_ble_eq_true rfl) dS_lowestOfBlock_37 ⟨Nat.le_of_ble_eq_true rfl, Nat.le_of_ble_eq_true rfl⟩) (fun r2 μ2 h2 => ?_)
          obtain ⟨hm, h2⟩ := h2
          have hm := hm.symm
          subst hm
          refine sx_eqi (nI (pop64 (bk_s (f i) 6 ||| bk_w (f i) 6))) (h2) ?_
          refine sx_istore (lv' := [some (.ref o), some (.int (nI k)), some (.int (nI (k - pu_c (bkS (rowS f (nCh W)) (max W 6)) (64 * i)))), some (.int (nI i)), some (.int (nI i)), some (.long (bk_s (f i) 6 ||| bk_w (f i) 6)), none, some (.int (nI (pop64 (bk_s (f i) 6 ||| bk_w (f i) 6))))]) C dS_lowestOfBlock_40 (by decide) rfl rfl ?_
          refine sx_iload_n C dS_lowestOfBlock_42 rfl rfl ?_
          refine sx_iload C dS_lowestOfBlock_43 rfl ?_
          refine sx_icmp_ge (tgt := 61) C dS_lowestOfBlock_45 (by decide) (fun c45 => ?_) (fun c45 => ?_)
          · have hle := pop64_le (bk_s (f i) 6 ||| bk_w (f i) 6)
            have hge : pop64 (bk_s (f i) 6 ||| bk_w (f i) 6) ≤ k - pu_c (bkS (rowS f (nCh W)) (max W 6)) (64 * i) := (nI_leI (by omega) (by omega)).mp c45
            refine sx_iload_n C dS_lowestOfBlock_61 rfl rfl ?_
            refine sx_iload C dS_lowestOfBlock_62 rfl ?_
            refine sx_isub C dS_lowestOfBlock_64 ?_
            refine sx_eqi (nI (k - pu_c (bkS (rowS f (nCh W)) (max W 6)) (64 * i) - pop64 (bk_s (f i) 6 ||| bk_w (f i) 6))) (pk_sub hge) ?_
            refine sx_istore_n (lv' := [some (.ref o), some (.int (nI k)), some (.int (nI (k - pu_c (bkS (rowS f (nCh W)) (max W 6)) (64 * i) - pop64 (bk_s (f i) 6 ||| bk_w (f i) 6)))), some (.int (nI i)), some (.int (nI i)), some (.long (bk_s (f i) 6 ||| bk_w (f i) 6)), none, some (.int (nI (pop64 (bk_s (f i) 6 ||| bk_w (f i) 6))))]) C dS_lowestOfBlock_65 rfl (by decide) rfl rfl ?_
            refine sx_iload_n C dS_lowestOfBlock_66 rfl rfl ?_
            refine sx_aload_n C dS_lowestOfBlock_67 rfl rfl ?_
            refine sx_iload C dS_lowestOfBlock_68 rfl ?_
            refine sx_calli C (sx_runV (As := [.int (nI i)]) (rest := [.int (nI i)]) C sx_all (c_S_chunksToNext l D tc o r W (nCh W) i f μ hW hN (by omega) ho hr9) (ci := 1) rfl ho (sx_cwV C 1 kM_S_57 ki_S_chunksToNext ke_S_chunksToNext kn_S kc_S_chunksToNext rfl rfl (by decide +kernel) ⟨Nat.le_of_ble_eq_true rfl, Nat.le_of_ble_eq_true rfl⟩) rfl rfl (Nat.le_of_ble_eq_true rfl) dS_lowestOfBlock_70 ⟨Nat.le_of_ble_eq_true rfl, Nat.le_of_ble_eq_true rfl⟩) (fun r3 μ3 h3 => ?_)
            obtain ⟨hm, j, hj, h3, hck⟩ := h3
            subst hm
            have hst := hb_step hok (by omega) hbd hck
            refine sx_eqi (nI (2 ^ j)) (h3) ?_
            refine sx_iadd C dS_lowestOfBlock_73 ?_
            refine sx_eqi (nI (i + 2 ^ j)) (nI_add _ _) ?_
            refine sx_istore_n (lv' := [some (.ref o), some (.int (nI k)), some (.int (nI (k - pu_c (bkS (rowS f (nCh W)) (max W 6)) (64 * i) - pop64 (bk_s (f i) 6 ||| bk_w (f i) 6)))), some (.int (nI (i + 2 ^ j))), some (.int (nI i)), some (.long (bk_s (f i) 6 ||| bk_w (f i) 6)), none, some (.int (nI (pop64 (bk_s (f i) 6 ||| bk_w (f i) 6))))]) C dS_lowestOfBlock_74 rfl (by decide) rfl rfl ?_
            obtain ⟨nx2, enx⟩ : ∃ z, z = i + 2 ^ j := ⟨_, rfl⟩
            have hpos := Nat.two_pow_pos j
            rw [← enx] at hst
            have hle2 : pu_c (bkS (rowS f (nCh W)) (max W 6)) (64 * nx2) ≤ k := by rw [hst.2.2.1]; omega
            refine sx_weak (lv' := [some (.ref o), some (.int (nI k)), some (.int (nI (k - pu_c (bkS (rowS f (nCh W)) (max W 6)) (64 * i) - pop64 (bk_s (f i) 6 ||| bk_w (f i) 6)))), some (.int (nI (i + 2 ^ j))), some (.int (nI i)), none, none, none]) (And.intro rfl (And.intro rfl (And.intro rfl (And.intro rfl (And.intro rfl trivial))))) ?_
            refine sx_lvEq [some (.ref o), some (.int (nI k)), some (.int (nI (k - pu_c (bkS (rowS f (nCh W)) (max W 6)) (64 * nx2)))), some (.int (nI nx2)), some (.int (nI i)), none, none, none] (by rw [hst.2.2.1, enx, Nat.sub_sub]) ?_
            refine sx_iinc (v := nI (i + 1)) (lv' := [some (.ref o), some (.int (nI k)), some (.int (nI (k - pu_c (bkS (rowS f (nCh W)) (max W 6)) (64 * nx2)))), some (.int (nI nx2)), some (.int (nI (i + 1))), none, none, none]) C dS_lowestOfBlock_75 rfl (nI_1 i) (by decide) rfl rfl ?_
            refine sx_goto (tgt := 7) C dS_lowestOfBlock_78 (by decide) ?_
            exact ih (i + 1) nx2 (by clear hst hck; omega) (by clear hst hck; omega) (by clear hst hck; omega) hst.1 hst.2.1 hle2
          · have hle := pop64_le (bk_s (f i) 6 ||| bk_w (f i) 6)
            have hlt : k - pu_c (bkS (rowS f (nCh W)) (max W 6)) (64 * i) < pop64 (bk_s (f i) 6 ||| bk_w (f i) 6) := Nat.not_le.mp (fun h => c45 ((nI_leI (by omega) (by omega)).mpr h))
            refine sx_iload C dS_lowestOfBlock_48 rfl ?_
            refine sx_bipush (v := 64) C dS_lowestOfBlock_50 (by decide) ?_
            refine sx_imul C dS_lowestOfBlock_52 ?_
            refine sx_eqi (nI (i * 64)) (pk_mul i 64) ?_
            refine sx_lload C dS_lowestOfBlock_53 rfl ?_
            refine sx_iload_n C dS_lowestOfBlock_55 rfl rfl ?_
            refine sx_calli C (sx_runS (As := [.long (bk_s (f i) 6 ||| bk_w (f i) 6), .int (nI (k - pu_c (bkS (rowS f (nCh W)) (max W 6)) (64 * i)))]) (rest := [.int (nI (i * 64))]) C sx_all (c_S_placeOfBit l D tc (bk_s (f i) 6 ||| bk_w (f i) 6) (k - pu_c (bkS (rowS f (nCh W)) (max W 6)) (64 * i)) μ (by omega)) (sx_cwS C 2 kM_S_61 ks_S_placeOfBit kn_S kc_S_placeOfBit rfl rfl (by decide +kernel) ⟨Nat.le_of_ble_eq_true rfl, Nat.le_of_ble_eq_true rfl⟩) rfl rfl (Nat.le_of_ble_eq_true rfl) dS_lowestOfBlock_56 ⟨Nat.le_of_ble_eq_true rfl, Nat.le_of_ble_eq_true rfl⟩) (fun r4 μ4 h4 => ?_)
            obtain ⟨hm, h4⟩ := h4
            subst hm
            obtain ⟨p4, hp4, hb4, hc4, rfl⟩ : ∃ p, p < 64 ∧ bL (bk_s (f i) 6 ||| bk_w (f i) 6) p = true ∧ pu_c (bL (bk_s (f i) 6 ||| bk_w (f i) 6)) p = k - pu_c (bkS (rowS f (nCh W)) (max W 6)) (64 * i) ∧ r4 = nI p := by
              rcases h4 with h4 | ⟨h4, -⟩
              · exact h4
              · exact absurd h4 (by omega)
            clear h4
            refine sx_iadd C dS_lowestOfBlock_59 ?_
            refine sx_eqi (nI (i * 64 + p4)) (nI_add _ _) ?_
            exact sx_iretQ C hQ dS_lowestOfBlock_60 hr hlocks (Nat.le_of_ble_eq_true rfl) (Nat.le_of_ble_eq_true rfl) (⟨rfl, Or.inl (by
              obtain ⟨j, hj⟩ := ck_ex f (nCh W) W i
              have hst := (hb_step hok (by omega) hbd hj).2.2.2 p4 hp4 hb4
              clear hj
              exact ⟨64 * i + p4, by clear hst; omega, hst.1, by rw [hst.2, hc4]; omega, by rw [Nat.mul_comm]⟩)⟩)
  exact L7 _ 0 0 (Nat.lt_succ_self _) (Nat.zero_le _) (Nat.le_refl _) (Nat.zero_le _) (fun m _ _ => Nat.zero_mod _) (Nat.zero_le _)

/-- the level of the block at w -/
def bk_lev (S : Nat → Bool) (V w m : Nat) : Prop := m ≤ V ∧ bk_full S m w ∧ (m = V ∨ ¬ bk_full S (m + 1) w)
theorem fb_ntz {j : Nat} (h : j ≤ 10) : nz_core ((nI (2 ^ j) ^^^ (-1)) &&& (nI (2 ^ j) - 1)) = nI j := by
  have : ∀ j, j ≤ 10 → nz_core ((nI (2 ^ j) ^^^ (-1)) &&& (nI (2 ^ j) - 1)) = nI j := by decide +kernel
  exact this j h
theorem fb_want : ∀ n, n < 6 → ∀ t, t < 64 → bL (jshlL 1 (jshl 1 (nI n)) - 1) t = decide (t < 2 ^ n) := by decide +kernel
theorem fb_cond {x : Int64} {p n : Nat} (hn : n < 6) (hp : p < 64) (h0 : p % 2 ^ n = 0) : (jushrL x (nI p) &&& (jshlL 1 (jshl 1 (nI n)) - 1)) = (jshlL 1 (jshl 1 (nI n)) - 1) ↔ bk_full (bL x) n p := by
  rw [bk_full_at h0]
  have hp64 : 2 ^ n ≤ 64 := by
    have : 2 ^ n ≤ 2 ^ 6 := Nat.pow_le_pow_right (by decide) (by omega)
    omega
  constructor
  · intro h t ht
    have := congrArg (fun z => bL z t) h
    simp only [bL_and] at this
    rw [fb_want n hn t (by omega), decide_eq_true ht, Bool.and_true, bL_ushr _ hp] at this
    exact this
  · intro h
    apply bL_ext
    intro t ht
    rw [bL_and, fb_want n hn t ht, bL_ushr _ hp]
    by_cases e : t < 2 ^ n
    · rw [h t e]; simp
    · rw [decide_eq_false e, Bool.and_false]
theorem fb_may {p n : Nat} (h1 : 1 ≤ n) (hn : n < 6) (hp : p < 64) : (bk_P (n - 1) &&& jshlL 1 (nI p)) = 0 ↔ ¬ p % 2 ^ n = 0 := by
  rw [bL_test _ (by omega), Nat.mod_eq_of_lt hp, bk_P_bit (n - 1) (by omega) p hp, show n - 1 + 1 = n by omega, decide_eq_false_iff_not]
theorem fb_lev1 {f : Nat → Int64} {W c j : Nat} (hok : wsOk f W) (hc : c < nCh W) (hf : f c = -1) (hs : bk_start (rowS f (nCh W)) (max W 6) (64 * c)) (hck : ckN f (nCh W) W c j) : bk_lev (rowS f (nCh W)) (max W 6) (64 * c) (6 + j) := by
  have hW := wsOk_full hok hc hf
  have hV : max W 6 = W := by omega
  rw [hV] at hs ⊢
  rcases hck with ⟨h, -⟩ | ⟨h1, h2, h3⟩
  · exact absurd ⟨hc, hf⟩ h
  · refine ⟨by omega, (ck_full h1).2, ?_⟩
    by_cases e : 6 + j = W
    · exact Or.inl e
    · exact Or.inr fun hq => h3 ⟨by omega, ck_of_full (hs.2 _ (by omega) hq) hq⟩
theorem fb_start {S : Nat → Bool} {V w : Nat} (h : bk_start S V w) {x : Int64} {c p : Nat} (hw : w = 64 * c + p) (hp : p < 64) (hS : ∀ q, q < 64 → S (64 * c + q) = bL x q) (hV : 6 ≤ V) {q : Nat} (hq : q ≤ 6) (hf : bk_full (bL x) q p) : p % 2 ^ q = 0 := by
  have h1 := h.2 q (by omega) (by rw [hw]; exact (bk_full_chunk hS hp hq).mpr hf)
  rw [hw, bk_mod hq] at h1
  exact h1

set_option maxHeartbeats 4000000 in
set_option maxRecDepth 100000 in
/-- freeBitsOfBlock -/
theorem c_S_freeBitsOfBlock (l : Launch) (D : va_G) (tc : Nat → ClassId) (o r W w : Nat) (f : Nat → Int64) (μ : sx_M) (hW : W ≤ 16) (hok : wsOk f W) (hs : bk_start (rowS f (nCh W)) (max W 6) w) (ho : μ o = some (.inr (1, [.int (nI W), .ref r]))) (hr9 : μ r = some (.inl (tc 1, nCh W, .inr (.inl f)))) : sx_Mi l yS_freeBitsOfBlock (Cond.code yS_freeBitsOfBlock cS_freeBitsOfBlock 9 (some .int) :: sxW) (rmL 2 0 0) D sxCl (sxT tc) sxE [.ref o, .int (nI w)] μ (fun r2 μ' => μ = μ' ∧ ∃ m, r2 = nI m ∧ bk_lev (rowS f (nCh W)) (max W 6) w m) 0 0 := by
  have hN := nCh_le hW
  have hwl := rowS_lt hs.1
  have hS : ∀ q, q < 64 → rowS f (nCh W) (64 * (w / 64) + q) = bL (f (w / 64)) q := fun q hq => rowS_at (by omega) hq
  have hwe : w = 64 * (w / 64) + w % 64 := by omega
  refine sx_ofiQ (cc := cS_freeBitsOfBlock) (maxL := 9) (ret := (some .int)) (own := RS) sxE_ok (by decide) rfl rfl (Nat.le_of_ble_eq_true rfl) [some (.ref o), some (.int (nI w)), none, none, none, none, none, none, none] 7 rfl (fun p e s m below meth c A Q hQ C hr hlocks hnm => ?_)
  refine sx_iload_n C dS_freeBitsOfBlock_0 rfl rfl ?_
  refine sx_bipush (v := 6) C dS_freeBitsOfBlock_1 (by decide) ?_
  refine sx_ishr C dS_freeBitsOfBlock_3 ?_
  refine sx_eqi (nI (w / 64)) (jb_s6 (by omega)) ?_
  refine sx_istore_n (lv' := [some (.ref o), some (.int (nI w)), some (.int (nI (w / 64))), none, none, none, none, none, none]) C dS_freeBitsOfBlock_4 rfl (by decide) rfl rfl ?_
  refine sx_iload_n C dS_freeBitsOfBlock_5 rfl rfl ?_
  refine sx_if_lt (tgt := 18) C dS_freeBitsOfBlock_6 (by decide) (fun c6 => ?_) (fun c6 => ?_)
  · exact absurd c6 (nI_pos (by omega))
  · refine sx_iload_n C dS_freeBitsOfBlock_9 rfl rfl ?_
    refine sx_aload_n C dS_freeBitsOfBlock_10 rfl rfl ?_
    refine sx_getf (Cn := RS) (T := TS) (N := 2) C dS_freeBitsOfBlock_11 (sx_in inS) rfl 1 (by decide) (sx_w C kF_S_15) (fun _ h => h) ho rfl ?_
    refine sx_alen (v := nI (nCh W)) C dS_freeBitsOfBlock_14 1 rfl hr9 rfl ?_
    refine sx_icmp_lt (tgt := 20) C dS_freeBitsOfBlock_15 (by decide) (fun c15 => ?_) (fun c15 => ?_)
    · refine sx_aload_n C dS_freeBitsOfBlock_20 rfl rfl ?_
      refine sx_getf (Cn := RS) (T := TS) (N := 2) C dS_freeBitsOfBlock_21 (sx_in inS) rfl 1 (by decide) (sx_w C kF_S_15) (fun _ h => h) ho rfl ?_
      refine sx_iload_n C dS_freeBitsOfBlock_24 rfl rfl ?_
      refine sx_lald (j := w / 64) C dS_freeBitsOfBlock_25 1 rfl hr9 (rfl) (by omega) (by omega) ?_
      refine sx_ldc2 (v := (-1)) C dS_freeBitsOfBlock_26 (sx_w C kL_S_42) ?_
      refine sx_lcmp C dS_freeBitsOfBlock_29 ?_
      refine sx_if_ne (tgt := 45) C dS_freeBitsOfBlock_30 (by decide) (fun c30 => ?_) (fun c30 => ?_)
      · have hnf : f (w / 64) ≠ -1 := fun h => c30 ((lg_cmp_eq _ _).mpr h)
        refine sx_iload_n C dS_freeBitsOfBlock_45 rfl rfl ?_
        refine sx_bipush (v := 63) C dS_freeBitsOfBlock_46 (by decide) ?_
        refine sx_iand C dS_freeBitsOfBlock_48 ?_
        refine sx_eqi (nI (w % 64)) (jb_63 w) ?_
        refine sx_istore_n (lv' := [some (.ref o), some (.int (nI w)), some (.int (nI (w / 64))), some (.int (nI (w % 64))), none, none, none, none, none]) C dS_freeBitsOfBlock_49 rfl (by decide) rfl rfl ?_
        refine sx_iconst (v := 0) C dS_freeBitsOfBlock_50 (by decide) ?_
        refine sx_eqi (nI 0) (rfl) ?_
        refine sx_istore (lv' := [some (.ref o), some (.int (nI w)), some (.int (nI (w / 64))), some (.int (nI (w % 64))), some (.int (nI 0)), none, none, none, none]) C dS_freeBitsOfBlock_51 (by decide) rfl rfl ?_
        refine sx_iconst (v := 1) C dS_freeBitsOfBlock_53 (by decide) ?_
        refine sx_eqi (nI 1) (rfl) ?_
        refine sx_istore (lv' := [some (.ref o), some (.int (nI w)), some (.int (nI (w / 64))), some (.int (nI (w % 64))), some (.int (nI 0)), some (.int (nI 1)), none, none, none]) C dS_freeBitsOfBlock_54 (by decide) rfl rfl ?_
        have L56 : ∀ (fu : Nat) (i b0 : Nat), 6 - i < fu → (1 ≤ i) → (i ≤ 6) → (b0 < i) → (bk_full (bL (f (w / 64))) b0 (w % 64)) → (∀ q, b0 < q → q < i → ¬ bk_full (bL (f (w / 64))) q (w % 64)) → SW p l e (rmL 2 0 0) s m [.ref o, .int (nI w)].toArray below meth c 9 D sxCl A 0 0 Q μ 56 [some (.ref o), some (.int (nI w)), some (.int (nI (w / 64))), some (.int (nI (w % 64))), some (.int (nI b0)), some (.int (nI i)), none, none, none] [] := by
          intro fu
          induction fu with
          | zero => intro _ _ h; exact absurd h (Nat.not_lt_zero _)
          | succ fu ih =>
            intro i b0 hfu hi1 hi hmi hm hmx
            refine sx_iload C dS_freeBitsOfBlock_56 rfl ?_
            refine sx_bipush (v := 6) C dS_freeBitsOfBlock_58 (by decide) ?_
            refine sx_icmp_ge (tgt := 129) C dS_freeBitsOfBlock_60 (by decide) (fun c60 => ?_) (fun c60 => ?_)
            · have hc : 6 ≤ i := (nI_leI (by decide) (by omega)).mp c60
              obtain rfl : i = 6 := by omega
              refine sx_iload C dS_freeBitsOfBlock_129 rfl ?_
              exact sx_iretQ C hQ dS_freeBitsOfBlock_131 hr hlocks (Nat.le_of_ble_eq_true rfl) (Nat.le_of_ble_eq_true rfl) (⟨rfl, b0, rfl, by have := Nat.le_max_right W 6; omega, by rw [hwe]; exact (bk_full_chunk hS (by omega) (by omega)).mpr hm, Or.inr fun h => by
                rw [hwe] at h
                by_cases e : b0 + 1 = 6
                · exact hnf (bL_ext fun q hq => by rw [← hS q hq, bk_full_6 (show w % 64 < 64 by omega) (by omega) h q hq, bL_m1 hq])
                · exact hmx (b0 + 1) (by omega) (by omega) ((bk_full_chunk hS (by omega) (by omega)).mp h)⟩)
            · have hc : ¬ 6 ≤ i := fun h => c60 ((nI_leI (by decide) (by omega)).mpr h)
              refine sx_lconst (v := 1) C dS_freeBitsOfBlock_63 (by decide) ?_
              refine sx_iconst (v := 1) C dS_freeBitsOfBlock_64 (by decide) ?_
              refine sx_iload C dS_freeBitsOfBlock_65 rfl ?_
              refine sx_ishl C dS_freeBitsOfBlock_67 ?_
              refine sx_lshl C dS_freeBitsOfBlock_68 ?_
              refine sx_lconst (v := 1) C dS_freeBitsOfBlock_69 (by decide) ?_
              refine sx_lsub C dS_freeBitsOfBlock_70 ?_
              refine sx_lstore (lv' := [some (.ref o), some (.int (nI w)), some (.int (nI (w / 64))), some (.int (nI (w % 64))), some (.int (nI b0)), some (.int (nI i)), some (.long ((jshlL 1 (jshl 1 (nI i))) - 1)), none, none]) C dS_freeBitsOfBlock_71 (by decide) rfl rfl ?_
              obtain ⟨t, hZ, hT⟩ := C.2.2.2.1.2.1
              refine sx_gets C dS_freeBitsOfBlock_73 hZ (sx_w C kF_S_69) (fun _ h => h) ?_
              refine sx_iload C dS_freeBitsOfBlock_76 rfl ?_
              refine sx_iconst (v := 1) C dS_freeBitsOfBlock_78 (by decide) ?_
              refine sx_isub C dS_freeBitsOfBlock_79 ?_
              refine sx_eqi (nI (i - 1)) (pk_sub (a := i) (b := 1) (by omega)) ?_
              refine sx_tl (x := bk_P (i - 1)) C dS_freeBitsOfBlock_80 hT (rfl) (by omega) (by decide) rfl ?_
              refine sx_lconst (v := 1) C dS_freeBitsOfBlock_81 (by decide) ?_
              refine sx_iload_n C dS_freeBitsOfBlock_82 rfl rfl ?_
              refine sx_lshl C dS_freeBitsOfBlock_83 ?_
              refine sx_land C dS_freeBitsOfBlock_84 ?_
              refine sx_lconst (v := 0) C dS_freeBitsOfBlock_85 (by decide) ?_
              refine sx_lcmp C dS_freeBitsOfBlock_86 ?_
              refine sx_if_eq (tgt := 94) C dS_freeBitsOfBlock_87 (by decide) (fun c87 => ?_) (fun c87 => ?_)
              · have hp0 : ¬ w % 64 % 2 ^ i = 0 := (fb_may (by omega) (by omega) (by omega)).mp ((lg_cmp_eq _ _).mp c87)
                refine sx_iconst (v := 0) C dS_freeBitsOfBlock_94 (by decide) ?_
                refine sx_istore (lv' := [some (.ref o), some (.int (nI w)), some (.int (nI (w / 64))), some (.int (nI (w % 64))), some (.int (nI b0)), some (.int (nI i)), some (.long ((jshlL 1 (jshl 1 (nI i))) - 1)), none, some (.int 0)]) C dS_freeBitsOfBlock_95 (by decide) rfl rfl ?_
                refine sx_iload C dS_freeBitsOfBlock_97 rfl ?_
                refine sx_if_eq (tgt := 123) C dS_freeBitsOfBlock_99 (by decide) (fun c99 => ?_) (fun c99 => ?_)
                · have hno : ¬ bk_full (bL (f (w / 64))) i (w % 64) := fun h => hp0 (fb_start hs hwe (by omega) hS (Nat.le_max_right _ _) (by omega) h)
                  refine sx_weak (lv' := [some (.ref o), some (.int (nI w)), some (.int (nI (w / 64))), some (.int (nI (w % 64))), some (.int (nI b0)), some (.int (nI i)), none, none, none]) (And.intro rfl (And.intro rfl (And.intro rfl (And.intro rfl (And.intro rfl (And.intro rfl trivial)))))) ?_
                  refine sx_iinc (v := nI (i + 1)) (lv' := [some (.ref o), some (.int (nI w)), some (.int (nI (w / 64))), some (.int (nI (w % 64))), some (.int (nI b0)), some (.int (nI (i + 1))), none, none, none]) C dS_freeBitsOfBlock_123 rfl (nI_1 i) (by decide) rfl rfl ?_
                  refine sx_goto (tgt := 56) C dS_freeBitsOfBlock_126 (by decide) ?_
                  exact ih (i + 1) b0 (by omega) (by omega) (by omega) (by omega) hm (fun q h1 h2 h3 => by
                    by_cases e : q = i
                    · subst e; exact hno h3
                    · exact hmx q h1 (by omega) h3)
                · exact absurd rfl c99
              · have hp0 : w % 64 % 2 ^ i = 0 := Classical.not_not.mp (fun h => c87 ((lg_cmp_eq _ _).mpr ((fb_may (by omega) (by omega) (by omega)).mpr h)))
                refine sx_iconst (v := 1) C dS_freeBitsOfBlock_90 (by decide) ?_
                refine sx_goto (tgt := 95) C dS_freeBitsOfBlock_91 (by decide) ?_
                refine sx_istore (lv' := [some (.ref o), some (.int (nI w)), some (.int (nI (w / 64))), some (.int (nI (w % 64))), some (.int (nI b0)), some (.int (nI i)), some (.long ((jshlL 1 (jshl 1 (nI i))) - 1)), none, some (.int 1)]) C dS_freeBitsOfBlock_95 (by decide) rfl rfl ?_
                refine sx_iload C dS_freeBitsOfBlock_97 rfl ?_
                refine sx_if_eq (tgt := 123) C dS_freeBitsOfBlock_99 (by decide) (fun c99 => ?_) (fun c99 => ?_)
                · exact absurd c99 (by decide)
                · refine sx_aload_n C dS_freeBitsOfBlock_102 rfl rfl ?_
                  refine sx_getf (Cn := RS) (T := TS) (N := 2) C dS_freeBitsOfBlock_103 (sx_in inS) rfl 1 (by decide) (sx_w C kF_S_15) (fun _ h => h) ho rfl ?_
                  refine sx_iload_n C dS_freeBitsOfBlock_106 rfl rfl ?_
                  refine sx_lald (j := w / 64) C dS_freeBitsOfBlock_107 1 rfl hr9 (rfl) (by omega) (by omega) ?_
                  refine sx_iload_n C dS_freeBitsOfBlock_108 rfl rfl ?_
                  refine sx_lushr C dS_freeBitsOfBlock_109 ?_
                  refine sx_lload C dS_freeBitsOfBlock_110 rfl ?_
                  refine sx_land C dS_freeBitsOfBlock_112 ?_
                  refine sx_lload C dS_freeBitsOfBlock_113 rfl ?_
                  refine sx_lcmp C dS_freeBitsOfBlock_115 ?_
                  refine sx_if_ne (tgt := 123) C dS_freeBitsOfBlock_116 (by decide) (fun c116 => ?_) (fun c116 => ?_)
                  · have hno : ¬ bk_full (bL (f (w / 64))) i (w % 64) := fun h => c116 ((lg_cmp_eq _ _).mpr ((fb_cond (by omega) (by omega) hp0).mpr h))
                    refine sx_weak (lv' := [some (.ref o), some (.int (nI w)), some (.int (nI (w / 64))), some (.int (nI (w % 64))), some (.int (nI b0)), some (.int (nI i)), none, none, none]) (And.intro rfl (And.intro rfl (And.intro rfl (And.intro rfl (And.intro rfl (And.intro rfl trivial)))))) ?_
                    refine sx_iinc (v := nI (i + 1)) (lv' := [some (.ref o), some (.int (nI w)), some (.int (nI (w / 64))), some (.int (nI (w % 64))), some (.int (nI b0)), some (.int (nI (i + 1))), none, none, none]) C dS_freeBitsOfBlock_123 rfl (nI_1 i) (by decide) rfl rfl ?_
                    refine sx_goto (tgt := 56) C dS_freeBitsOfBlock_126 (by decide) ?_
                    exact ih (i + 1) b0 (by omega) (by omega) (by omega) (by omega) hm (fun q h1 h2 h3 => by
                      by_cases e : q = i
                      · subst e; exact hno h3
                      · exact hmx q h1 (by omega) h3)
                  · have hyes : bk_full (bL (f (w / 64))) i (w % 64) := (fb_cond (by omega) (by omega) hp0).mp ((lg_cmp_eq _ _).mp c116)
                    refine sx_iload C dS_freeBitsOfBlock_119 rfl ?_
                    refine sx_istore (lv' := [some (.ref o), some (.int (nI w)), some (.int (nI (w / 64))), some (.int (nI (w % 64))), some (.int (nI i)), some (.int (nI i)), some (.long ((jshlL 1 (jshl 1 (nI i))) - 1)), none, some (.int 1)]) C dS_freeBitsOfBlock_121 (by decide) rfl rfl ?_
                    refine sx_weak (lv' := [some (.ref o), some (.int (nI w)), some (.int (nI (w / 64))), some (.int (nI (w % 64))), some (.int (nI i)), some (.int (nI i)), none, none, none]) (And.intro rfl (And.intro rfl (And.intro rfl (And.intro rfl (And.intro rfl (And.intro rfl trivial)))))) ?_
                    refine sx_iinc (v := nI (i + 1)) (lv' := [some (.ref o), some (.int (nI w)), some (.int (nI (w / 64))), some (.int (nI (w % 64))), some (.int (nI i)), some (.int (nI (i + 1))), none, none, none]) C dS_freeBitsOfBlock_123 rfl (nI_1 i) (by decide) rfl rfl ?_
                    refine sx_goto (tgt := 56) C dS_freeBitsOfBlock_126 (by decide) ?_
                    exact ih (i + 1) i (by omega) (by omega) (by omega) (by omega) hyes (fun q h1 h2 h3 => by omega)
        exact L56 _ 1 0 (Nat.lt_succ_self _) (Nat.le_refl _) (by decide) (by decide) (fun t ht => by
          rw [Nat.pow_zero] at ht ⊢
          rw [show t = 0 by omega, Nat.div_one, Nat.mul_one, Nat.add_zero, ← hS _ (by omega), ← hwe]
          exact hs.1) (fun q h1 h2 => by omega)
      · have hf : f (w / 64) = -1 := (lg_cmp_eq _ _).mp c30
        have hw0 : w % 64 = 0 := by
          have := hs.2 6 (Nat.le_max_right _ _) (by rw [hwe]; exact (bk_full_chunk hS (by omega) (Nat.le_refl _)).mpr (fun t ht => by rw [hf]; exact bL_m1 (bk_in_lt (by omega) (Nat.le_refl _) ht)))
          exact this
        refine sx_bipush (v := 6) C dS_freeBitsOfBlock_33 (by decide) ?_
        refine sx_aload_n C dS_freeBitsOfBlock_35 rfl rfl ?_
        refine sx_iload_n C dS_freeBitsOfBlock_36 rfl rfl ?_
        refine sx_calli C (sx_runV (As := [.int (nI (w / 64))]) (rest := [.int 6]) C sx_all (c_S_chunksToNext l D tc o r W (nCh W) (w / 64) f μ hW hN (by omega) ho hr9) (ci := 1) rfl ho (sx_cwV C 1 kM_S_57 ki_S_chunksToNext ke_S_chunksToNext kn_S kc_S_chunksToNext rfl rfl (by decide +kernel) ⟨Nat.le_of_ble_eq_true rfl, Nat.le_of_ble_eq_true rfl⟩) rfl rfl (Nat.le_of_ble_eq_true rfl) dS_freeBitsOfBlock_37 ⟨Nat.le_of_ble_eq_true rfl, Nat.le_of_ble_eq_true rfl⟩) (fun r3 μ3 h3 => ?_)
        obtain ⟨hm, j, hj, h3, hck⟩ := h3
        subst hm
        refine sx_eqi (nI (2 ^ j)) (h3) ?_
        refine sx_calli C (sx_runS (As := [.int (nI (2 ^ j))]) (rest := [.int 6]) C sx_all (c_JI_numberOfTrailingZeros l D tc (nI (2 ^ j)) μ) (sx_cwS C 1 kM_S_65 ks_JI_numberOfTrailingZeros kn_JI kc_JI_numberOfTrailingZeros rfl rfl (by decide +kernel) ⟨Nat.le_of_ble_eq_true rfl, Nat.le_of_ble_eq_true rfl⟩) rfl rfl (Nat.le_of_ble_eq_true rfl) dS_freeBitsOfBlock_40 ⟨Nat.le_of_ble_eq_true rfl, Nat.le_of_ble_eq_true rfl⟩) (fun r4 μ4 h4 => ?_)
        obtain ⟨hm, h4⟩ := h4
        subst hm
        refine sx_eqi (nI j) (by rw [h4]; exact fb_ntz hj) ?_
        refine sx_iadd C dS_freeBitsOfBlock_43 ?_
        refine sx_eqi (nI (6 + j)) (nI_add 6 j) ?_
        exact sx_iretQ C hQ dS_freeBitsOfBlock_44 hr hlocks (Nat.le_of_ble_eq_true rfl) (Nat.le_of_ble_eq_true rfl) (⟨rfl, 6 + j, rfl, by
          have e : w = 64 * (w / 64) := by omega
          have h9 := fb_lev1 hok (show w / 64 < nCh W by omega) hf (by rw [← e]; exact hs) hck
          rw [← e] at h9
          exact h9⟩)
    · exact absurd ((nI_ltI (by omega) (by omega)).mpr (show w / 64 < nCh W by omega)) c15
