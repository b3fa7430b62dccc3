set_option maxHeartbeats 4000000 in
set_option maxRecDepth 100000 in
/-- allFull -/
theorem c_S_allFull (l : Launch) (D : va_G) (tc : Nat → ClassId) (o r W n a k : Nat) (f : Nat → Int64) (μ : sx_M) (hn : n ≤ 1024) (ha : a < 2 ^ 20) (hk : k < 2 ^ 20) (ho : μ o = some (.inr (1, [.int (nI W), .ref r]))) (hr9 : μ r = some (.inl (tc 1, n, .inr (.inl f)))) : sx_Mi l yS_allFull (Cond.code yS_allFull cS_allFull 4 (some .boolean) :: sxW) (rmL 0 0 0) D sxCl (sxT tc) sxE [.ref o, .int (nI a), .int (nI k)] μ (fun r2 μ' => μ = μ' ∧ ∃ t : Bool, r2 = b2i t ∧ (t = true ↔ a + k ≤ n ∧ ∀ c, a ≤ c → c < a + k → f c = -1)) 0 0 := by
  refine sx_ofiQ (cc := cS_allFull) (maxL := 4) (ret := (some .boolean)) (own := RS) sxE_ok (by decide) rfl rfl (Nat.le_of_ble_eq_true rfl) [some (.ref o), some (.int (nI a)), some (.int (nI k)), none] 1 rfl (fun p e s m below meth c A Q hQ C hr hlocks hnm => ?_)
  refine sx_iload_n C dS_allFull_0 rfl rfl ?_
  refine sx_if_lt (tgt := 15) C dS_allFull_1 (by decide) (fun c1 => ?_) (fun c1 => ?_)
  · exact absurd c1 (nI_pos (by omega))
  · refine sx_iload_n C dS_allFull_4 rfl rfl ?_
    refine sx_iload_n C dS_allFull_5 rfl rfl ?_
    refine sx_iadd C dS_allFull_6 ?_
    refine sx_eqi (nI (a + k)) (nI_add a k) ?_
    refine sx_aload_n C dS_allFull_7 rfl rfl ?_
    refine sx_getf (Cn := RS) (T := TS) (N := 2) C dS_allFull_8 (sx_in inS) rfl 1 (by decide) (sx_w C kF_S_15) (fun _ h => h) ho rfl ?_
    refine sx_alen (v := nI n) C dS_allFull_11 1 rfl hr9 rfl ?_
    refine sx_icmp_le (tgt := 17) C dS_allFull_12 (by decide) (fun c12 => ?_) (fun c12 => ?_)
    · have hc : a + k ≤ n := (nI_leI (by omega) (by omega)).mp c12
      refine sx_iload_n C dS_allFull_17 rfl rfl ?_
      refine sx_istore_n (lv' := [some (.ref o), some (.int (nI a)), some (.int (nI k)), some (.int (nI a))]) C dS_allFull_18 rfl (by decide) rfl rfl ?_
      have L19 : ∀ (fu : Nat) (i : Nat), a + k - i < fu → (a ≤ i) → (i ≤ a + k) → (∀ c, a ≤ c → c < i → f c = -1) → SW p l e (rmL 0 0 0) s m [.ref o, .int (nI a), .int (nI k)].toArray below meth c 4 D sxCl A 0 0 Q μ 19 [some (.ref o), some (.int (nI a)), some (.int (nI k)), some (.int (nI i))] [] := by
        intro fu
        induction fu with
        | zero => intro _ h; exact absurd h (Nat.not_lt_zero _)
        | succ fu ih =>
          intro i hfu hi hi2 h1
          refine sx_iload_n C dS_allFull_19 rfl rfl ?_
          refine sx_iload_n C dS_allFull_20 rfl rfl ?_
          refine sx_iload_n C dS_allFull_21 rfl rfl ?_
          refine sx_iadd C dS_allFull_22 ?_
          refine sx_eqi (nI (a + k)) (nI_add a k) ?_
          refine sx_icmp_ge (tgt := 47) C dS_allFull_23 (by decide) (fun c23 => ?_) (fun c23 => ?_)
          · have hc2 : a + k ≤ i := (nI_leI (by omega) (by omega)).mp c23
            refine sx_iconst (v := 1) C dS_allFull_47 (by decide) ?_
            exact sx_zretQ C hQ dS_allFull_48 hr (by simp) hlocks (Nat.le_of_ble_eq_true rfl) (Nat.le_of_ble_eq_true rfl) (⟨rfl, true, rfl, ⟨fun _ => ⟨hc, fun c h2 h3 => h1 c h2 (by omega)⟩, fun _ => rfl⟩⟩)
          · have hc2 : ¬ a + k ≤ i := fun h => c23 ((nI_leI (by omega) (by omega)).mpr h)
            refine sx_aload_n C dS_allFull_26 rfl rfl ?_
            refine sx_getf (Cn := RS) (T := TS) (N := 2) C dS_allFull_27 (sx_in inS) rfl 1 (by decide) (sx_w C kF_S_15) (fun _ h => h) ho rfl ?_
            refine sx_iload_n C dS_allFull_30 rfl rfl ?_
            refine sx_lald (j := i) C dS_allFull_31 1 rfl hr9 (rfl) (by omega) (by omega) ?_
            refine sx_ldc2 (v := (-1)) C dS_allFull_32 (sx_w C kL_S_42) ?_
            refine sx_lcmp C dS_allFull_35 ?_
            refine sx_if_eq (tgt := 41) C dS_allFull_36 (by decide) (fun c36 => ?_) (fun c36 => ?_)
            · have hf : f i = -1 := (lg_cmp_eq _ _).mp c36
              refine sx_iinc (v := nI (i + 1)) (lv' := [some (.ref o), some (.int (nI a)), some (.int (nI k)), some (.int (nI (i + 1)))]) C dS_allFull_41 rfl (nI_1 i) (by decide) rfl rfl ?_
              refine sx_goto (tgt := 19) C dS_allFull_44 (by decide) ?_
              exact ih (i + 1) (by omega) (by omega) (by omega) (fun c h2 h3 => by
                by_cases e : c = i
                · rw [e]; exact hf
                · exact h1 c h2 (by omega))
            · have hf : ¬ f i = -1 := fun h => c36 ((lg_cmp_eq _ _).mpr h)
              refine sx_iconst (v := 0) C dS_allFull_39 (by decide) ?_
              exact sx_zretQ C hQ dS_allFull_40 hr (by simp) hlocks (Nat.le_of_ble_eq_true rfl) (Nat.le_of_ble_eq_true rfl) (⟨rfl, false, rfl, ⟨fun h => (by cases h), fun h => absurd (h.2 i hi (by omega)) hf⟩⟩)
      exact L19 _ a (Nat.lt_succ_self _) (Nat.le_refl _) (Nat.le_add_right _ _) (fun c h1 h2 => absurd h1 (by omega))
    · have hc : ¬ a + k ≤ n := fun h => c12 ((nI_leI (by omega) (by omega)).mpr h)
      refine sx_iconst (v := 0) C dS_allFull_15 (by decide) ?_
      exact sx_zretQ C hQ dS_allFull_16 hr (by simp) hlocks (Nat.le_of_ble_eq_true rfl) (Nat.le_of_ble_eq_true rfl) (⟨rfl, false, rfl, ⟨fun h => (by cases h), fun h => absurd h.1 hc⟩⟩)

/-- 2^j chunks from c on are full, and the place c is theirs -/
def ckF (f : Nat → Int64) (n c j : Nat) : Prop := c % 2 ^ j = 0 ∧ c + 2 ^ j ≤ n ∧ ∀ d, c ≤ d → d < c + 2 ^ j → f d = -1
/-- what chunksToNext finds: 2^j -/
def ckN (f : Nat → Int64) (n W c j : Nat) : Prop := (¬ (c < n ∧ f c = -1) ∧ j = 0) ∨ (ckF f n c j ∧ j ≤ W - 6 ∧ ¬ (6 + j < W ∧ ckF f n c (j + 1)))
theorem ck_mask {c j : Nat} (hj : j < 12) : nI c &&& (2 * nI (2 ^ j) - 1) = nI (c % 2 ^ (j + 1)) := by
  have h : ∀ j, j < 12 → (2 * nI (2 ^ j) - 1 : Int32) = nI (2 ^ (j + 1) - 1) := by decide +kernel
  rw [h j hj, jb_andI, Nat.and_two_pow_sub_one_eq_mod]
theorem ck_2 {j : Nat} (hj : j < 12) : nI (2 ^ j) * 2 = nI (2 ^ (j + 1)) := by
  have h : ∀ j, j < 12 → nI (2 ^ j) * 2 = nI (2 ^ (j + 1)) := by decide +kernel
  exact h j hj
theorem ck_p {j : Nat} (hj : j < 12) : 2 ^ j ≤ 2048 := by
  have h : ∀ j, j < 12 → 2 ^ j ≤ 2048 := by decide +kernel
  exact h j hj
theorem ck_s (j : Nat) : 2 ^ (j + 1) = 2 ^ j + 2 ^ j := by rw [Nat.pow_succ]; omega
theorem ck_up {f : Nat → Int64} {n c j : Nat} (h : ckF f n c j) (hm : c % 2 ^ (j + 1) = 0) (h2 : c + 2 ^ j + 2 ^ j ≤ n) (h3 : ∀ d, c + 2 ^ j ≤ d → d < c + 2 ^ j + 2 ^ j → f d = -1) : ckF f n c (j + 1) := by
  refine ⟨hm, by rw [ck_s]; omega, fun d h4 h5 => ?_⟩
  rw [ck_s] at h5
  by_cases e : d < c + 2 ^ j
  · exact h.2.2 d h4 e
  · exact h3 d (by omega) (by omega)
theorem ck_dn {f : Nat → Int64} {n c j : Nat} (h : ckF f n c (j + 1)) : c % 2 ^ (j + 1) = 0 ∧ c + 2 ^ j + 2 ^ j ≤ n ∧ ∀ d, c + 2 ^ j ≤ d → d < c + 2 ^ j + 2 ^ j → f d = -1 := by
  obtain ⟨h1, h2, h3⟩ := h
  rw [ck_s] at h2 h3
  exact ⟨h1, by omega, fun d h4 h5 => h3 d (by omega) (by omega)⟩

set_option maxHeartbeats 4000000 in
set_option maxRecDepth 100000 in
/-- chunksToNext -/
theorem c_S_chunksToNext (l : Launch) (D : va_G) (tc : Nat → ClassId) (o r W n c0 : Nat) (f : Nat → Int64) (μ : sx_M) (hW : W ≤ 16) (hn : n ≤ 1024) (hc0 : c0 < 2 ^ 20) (ho : μ o = some (.inr (1, [.int (nI W), .ref r]))) (hr9 : μ r = some (.inl (tc 1, n, .inr (.inl f)))) : sx_Mi l yS_chunksToNext (Cond.code yS_chunksToNext cS_chunksToNext 4 (some .int) :: sxW) (rmL 1 0 0) D sxCl (sxT tc) sxE [.ref o, .int (nI c0)] μ (fun r2 μ' => μ = μ' ∧ ∃ j, j ≤ 10 ∧ r2 = nI (2 ^ j) ∧ ckN f n W c0 j) 0 0 := by
  refine sx_ofiQ (cc := cS_chunksToNext) (maxL := 4) (ret := (some .int)) (own := RS) sxE_ok (by decide) rfl rfl (Nat.le_of_ble_eq_true rfl) [some (.ref o), some (.int (nI c0)), none, none] 2 rfl (fun p e s m below meth c A Q hQ C hr hlocks hnm => ?_)
  refine sx_iload_n C dS_chunksToNext_0 rfl rfl ?_
  refine sx_if_lt (tgt := 26) C dS_chunksToNext_1 (by decide) (fun c1 => ?_) (fun c1 => ?_)
  · exact absurd c1 (nI_pos (by omega))
  · refine sx_iload_n C dS_chunksToNext_4 rfl rfl ?_
    refine sx_aload_n C dS_chunksToNext_5 rfl rfl ?_
    refine sx_getf (Cn := RS) (T := TS) (N := 2) C dS_chunksToNext_6 (sx_in inS) rfl 1 (by decide) (sx_w C kF_S_15) (fun _ h => h) ho rfl ?_
    refine sx_alen (v := nI n) C dS_chunksToNext_9 1 rfl hr9 rfl ?_
    refine sx_icmp_ge (tgt := 26) C dS_chunksToNext_10 (by decide) (fun c10 => ?_) (fun c10 => ?_)
    · have hx : ¬ (c0 < n ∧ f c0 = -1) := fun h => absurd h.1 (Nat.not_lt.mpr ((nI_leI (by omega) (by omega)).mp c10))
      refine sx_iconst (v := 1) C dS_chunksToNext_26 (by decide) ?_
      exact sx_iretQ C hQ dS_chunksToNext_27 hr hlocks (Nat.le_of_ble_eq_true rfl) (Nat.le_of_ble_eq_true rfl) (⟨rfl, 0, by decide, rfl, Or.inl ⟨hx, rfl⟩⟩)
    · have hc : ¬ n ≤ c0 := fun h => c10 ((nI_leI (by omega) (by omega)).mpr h)
      refine sx_aload_n C dS_chunksToNext_13 rfl rfl ?_
      refine sx_getf (Cn := RS) (T := TS) (N := 2) C dS_chunksToNext_14 (sx_in inS) rfl 1 (by decide) (sx_w C kF_S_15) (fun _ h => h) ho rfl ?_
      refine sx_iload_n C dS_chunksToNext_17 rfl rfl ?_
      refine sx_lald (j := c0) C dS_chunksToNext_18 1 rfl hr9 (rfl) (by omega) (by omega) ?_
      refine sx_ldc2 (v := (-1)) C dS_chunksToNext_19 (sx_w C kL_S_42) ?_
      refine sx_lcmp C dS_chunksToNext_22 ?_
      refine sx_if_eq (tgt := 28) C dS_chunksToNext_23 (by decide) (fun c23 => ?_) (fun c23 => ?_)
      · have hf : f c0 = -1 := (lg_cmp_eq _ _).mp c23
        refine sx_iconst (v := 1) C dS_chunksToNext_28 (by decide) ?_
        refine sx_eqi (nI (2 ^ 0)) (rfl) ?_
        refine sx_istore_n (lv' := [some (.ref o), some (.int (nI c0)), some (.int (nI (2 ^ 0))), none]) C dS_chunksToNext_29 rfl (by decide) rfl rfl ?_
        refine sx_bipush (v := 6) C dS_chunksToNext_30 (by decide) ?_
        refine sx_eqi (nI (6 + 0)) (rfl) ?_
        refine sx_istore_n (lv' := [some (.ref o), some (.int (nI c0)), some (.int (nI (2 ^ 0))), some (.int (nI (6 + 0)))]) C dS_chunksToNext_32 rfl (by decide) rfl rfl ?_
        have L33 : ∀ (fu : Nat) (j : Nat), 16 - j < fu → (j ≤ W - 6) → (ckF f n c0 j) → SW p l e (rmL 1 0 0) s m [.ref o, .int (nI c0)].toArray below meth c 4 D sxCl A 0 0 Q μ 33 [some (.ref o), some (.int (nI c0)), some (.int (nI (2 ^ j))), some (.int (nI (6 + j)))] [] := by
          intro fu
          induction fu with
          | zero => intro _ h; exact absurd h (Nat.not_lt_zero _)
          | succ fu ih =>
            intro j hfu hj hF
            have hpj := ck_p (show j < 12 by omega)
            refine sx_iload_n C dS_chunksToNext_33 rfl rfl ?_
            refine sx_aload_n C dS_chunksToNext_34 rfl rfl ?_
            refine sx_getf (Cn := RS) (T := TS) (N := 2) C dS_chunksToNext_35 (sx_in inS) rfl 0 (by decide) (sx_w C kF_S_9) (fun _ h => h) ho rfl ?_
            refine sx_icmp_ge (tgt := 75) C dS_chunksToNext_38 (by decide) (fun c38 => ?_) (fun c38 => ?_)
            · have hend : ¬ (6 + j < W ∧ ckF f n c0 (j + 1)) := fun h => absurd ((nI_leI (by omega) (by omega)).mp c38) (by omega)
              refine sx_iload_n C dS_chunksToNext_75 rfl rfl ?_
              exact sx_iretQ C hQ dS_chunksToNext_76 hr hlocks (Nat.le_of_ble_eq_true rfl) (Nat.le_of_ble_eq_true rfl) (⟨rfl, j, by omega, rfl, Or.inr ⟨hF, hj, hend⟩⟩)
            · have hlt : 6 + j < W := Nat.not_le.mp (fun h => c38 ((nI_leI (by omega) (by omega)).mpr h))
              refine sx_iload_n C dS_chunksToNext_41 rfl rfl ?_
              refine sx_iconst (v := 2) C dS_chunksToNext_42 (by decide) ?_
              refine sx_iload_n C dS_chunksToNext_43 rfl rfl ?_
              refine sx_imul C dS_chunksToNext_44 ?_
              refine sx_iconst (v := 1) C dS_chunksToNext_45 (by decide) ?_
              refine sx_isub C dS_chunksToNext_46 ?_
              refine sx_iand C dS_chunksToNext_47 ?_
              refine sx_eqi (nI (c0 % 2 ^ (j + 1))) (ck_mask (by omega)) ?_
              refine sx_if_ne (tgt := 75) C dS_chunksToNext_48 (by decide) (fun c48 => ?_) (fun c48 => ?_)
              · have hend : ¬ (6 + j < W ∧ ckF f n c0 (j + 1)) := fun h => c48 (by rw [h.2.1]; rfl)
                refine sx_iload_n C dS_chunksToNext_75 rfl rfl ?_
                exact sx_iretQ C hQ dS_chunksToNext_76 hr hlocks (Nat.le_of_ble_eq_true rfl) (Nat.le_of_ble_eq_true rfl) (⟨rfl, j, by omega, rfl, Or.inr ⟨hF, hj, hend⟩⟩)
              · have hm : c0 % 2 ^ (j + 1) = 0 := (nI_eq (Nat.lt_of_le_of_lt (Nat.mod_le _ _) (by omega)) (by decide)).mp (show nI (c0 % 2 ^ (j + 1)) = nI 0 from c48)
                refine sx_aload_n C dS_chunksToNext_51 rfl rfl ?_
                refine sx_iload_n C dS_chunksToNext_52 rfl rfl ?_
                refine sx_iload_n C dS_chunksToNext_53 rfl rfl ?_
                refine sx_iadd C dS_chunksToNext_54 ?_
                refine sx_eqi (nI (c0 + 2 ^ j)) (nI_add _ _) ?_
                refine sx_iload_n C dS_chunksToNext_55 rfl rfl ?_
                refine sx_calli C (sx_runV (As := [.int (nI (c0 + 2 ^ j)), .int (nI (2 ^ j))]) (rest := []) C sx_all (c_S_allFull l D tc o r W n (c0 + 2 ^ j) (2 ^ j) f μ hn (by omega) (by omega) ho hr9) (ci := 1) rfl ho (sx_cwV C 2 kM_S_72 ki_S_allFull ke_S_allFull kn_S kc_S_allFull rfl rfl (by decide +kernel) ⟨Nat.le_of_ble_eq_true rfl, Nat.le_of_ble_eq_true rfl⟩) rfl rfl (Nat.le_of_ble_eq_true rfl) dS_chunksToNext_56 ⟨Nat.le_of_ble_eq_true rfl, Nat.le_of_ble_eq_true rfl⟩) (fun r1 μ1 h1 => ?_)
                obtain ⟨hm0, t, h1, ht⟩ := h1
                subst hm0
                refine sx_if_ne (tgt := 65) C dS_chunksToNext_59 (by decide) (fun c59 => ?_) (fun c59 => ?_)
                · have ht := ht.mp (by
                    cases t
                    · exact absurd h1 c59
                    · rfl)
                  refine sx_iload_n C dS_chunksToNext_65 rfl rfl ?_
                  refine sx_iconst (v := 2) C dS_chunksToNext_66 (by decide) ?_
                  refine sx_imul C dS_chunksToNext_67 ?_
                  refine sx_eqi (nI (2 ^ (j + 1))) (ck_2 (by omega)) ?_
                  refine sx_istore_n (lv' := [some (.ref o), some (.int (nI c0)), some (.int (nI (2 ^ (j + 1)))), some (.int (nI (6 + j)))]) C dS_chunksToNext_68 rfl (by decide) rfl rfl ?_
                  refine sx_iinc (v := nI (6 + (j + 1))) (lv' := [some (.ref o), some (.int (nI c0)), some (.int (nI (2 ^ (j + 1)))), some (.int (nI (6 + (j + 1))))]) C dS_chunksToNext_69 rfl (nI_1 _) (by decide) rfl rfl ?_
                  refine sx_goto (tgt := 33) C dS_chunksToNext_72 (by decide) ?_
                  exact ih (j + 1) (by omega) (by omega) (ck_up hF hm ht.1 ht.2)
                · have hend : ¬ (6 + j < W ∧ ckF f n c0 (j + 1)) := fun h => by
                    have h9 := ht.mpr (ck_dn h.2).2
                    rw [h1, h9] at c59
                    exact absurd c59 (by decide)
                  refine sx_goto (tgt := 75) C dS_chunksToNext_62 (by decide) ?_
                  refine sx_iload_n C dS_chunksToNext_75 rfl rfl ?_
                  exact sx_iretQ C hQ dS_chunksToNext_76 hr hlocks (Nat.le_of_ble_eq_true rfl) (Nat.le_of_ble_eq_true rfl) (⟨rfl, j, by omega, rfl, Or.inr ⟨hF, hj, hend⟩⟩)
        exact L33 _ 0 (Nat.lt_succ_self _) (Nat.zero_le _) ⟨Nat.mod_one _, by omega, fun d h1 h2 => by rw [show d = c0 by omega]; exact hf⟩
      · have hx : ¬ (c0 < n ∧ f c0 = -1) := fun h => c23 ((lg_cmp_eq _ _).mpr h.2)
        refine sx_iconst (v := 1) C dS_chunksToNext_26 (by decide) ?_
        exact sx_iretQ C hQ dS_chunksToNext_27 hr hlocks (Nat.le_of_ble_eq_true rfl) (Nat.le_of_ble_eq_true rfl) (⟨rfl, 0, by decide, rfl, Or.inl ⟨hx, rfl⟩⟩)

set_option maxHeartbeats 4000000 in
set_option maxRecDepth 100000 in
/-- placeOfBit -/
theorem c_S_placeOfBit (l : Launch) (D : va_G) (tc : Nat → ClassId) (x : Int64) (k : Nat) (μ : sx_M) (hk : k < 2 ^ 31) : sx_Mi l yS_placeOfBit (Cond.code yS_placeOfBit cS_placeOfBit 5 (some .int) :: sxW) (rmL 0 0 0) D sxCl (sxT tc) sxE [.long x, .int (nI k)] μ (fun r2 μ' => μ = μ' ∧ ((∃ p, p < 64 ∧ bL x p = true ∧ pu_c (bL x) p = k ∧ r2 = nI p) ∨ (pop64 x ≤ k ∧ r2 = -1))) 0 0 := by
  refine sx_ofiQ (cc := cS_placeOfBit) (maxL := 5) (ret := (some .int)) (own := RS) sxE_ok (by decide) rfl rfl (Nat.le_of_ble_eq_true rfl) [some (.long x), none, some (.int (nI k)), none, none] 2 rfl (fun p e s m below meth c A Q hQ C hr hlocks hnm => ?_)
  refine sx_iload_n C dS_placeOfBit_0 rfl rfl ?_
  refine sx_istore_n (lv' := [some (.long x), none, some (.int (nI k)), some (.int (nI k)), none]) C dS_placeOfBit_1 rfl (by decide) rfl rfl ?_
  refine sx_iconst (v := 0) C dS_placeOfBit_2 (by decide) ?_
  refine sx_eqi (nI 0) (rfl) ?_
  refine sx_istore (lv' := [some (.long x), none, some (.int (nI k)), some (.int (nI k)), some (.int (nI 0))]) C dS_placeOfBit_3 (by decide) rfl rfl ?_
  have L5 : ∀ (fu : Nat) (i : Nat), 64 - i < fu → (i ≤ 64) → (pu_c (bL x) i ≤ k) → SW p l e (rmL 0 0 0) s m [.long x, .int (nI k)].toArray below meth c 5 D sxCl A 0 0 Q μ 5 [some (.long x), none, some (.int (nI k)), some (.int (nI (k - pu_c (bL x) i))), some (.int (nI i))] [] := by
    intro fu
    induction fu with
    | zero => intro _ h; exact absurd h (Nat.not_lt_zero _)
    | succ fu ih =>
      intro i hfu hi h1
      refine sx_iload C dS_placeOfBit_5 rfl ?_
      refine sx_bipush (v := 64) C dS_placeOfBit_7 (by decide) ?_
      refine sx_icmp_ge (tgt := 39) C dS_placeOfBit_9 (by decide) (fun c9 => ?_) (fun c9 => ?_)
      · have hc : 64 ≤ i := (nI_leI (by decide) (by omega)).mp c9
        obtain rfl : i = 64 := by omega
        refine sx_iconst (v := -1) C dS_placeOfBit_39 (by decide) ?_
        exact sx_iretQ C hQ dS_placeOfBit_40 hr hlocks (Nat.le_of_ble_eq_true rfl) (Nat.le_of_ble_eq_true rfl) (⟨rfl, Or.inr ⟨h1, rfl⟩⟩)
      · have hc : ¬ 64 ≤ i := fun h => c9 ((nI_leI (by decide) (by omega)).mpr h)
        refine sx_lload_n C dS_placeOfBit_12 rfl rfl ?_
        refine sx_lconst (v := 1) C dS_placeOfBit_13 (by decide) ?_
        refine sx_iload C dS_placeOfBit_14 rfl ?_
        refine sx_lshl C dS_placeOfBit_16 ?_
        refine sx_land C dS_placeOfBit_17 ?_
        refine sx_lconst (v := 0) C dS_placeOfBit_18 (by decide) ?_
        refine sx_lcmp C dS_placeOfBit_19 ?_
        refine sx_if_eq (tgt := 33) C dS_placeOfBit_20 (by decide) (fun c20 => ?_) (fun c20 => ?_)
        · have hb : bL x i = false := by
            have h := (bL_test _ (show i < 2 ^ 31 by omega)).mp ((lg_cmp_eq _ _).mp c20)
            rw [Nat.mod_eq_of_lt (show i < 64 by omega)] at h
            exact h
          have hs : pu_c (bL x) (i + 1) = pu_c (bL x) i := by rw [pu_c, hb]; rfl
          refine sx_lvEq [some (.long x), none, some (.int (nI k)), some (.int (nI (k - pu_c (bL x) (i + 1)))), some (.int (nI i))] (by rw [hs]) ?_
          refine sx_iinc (v := nI (i + 1)) (lv' := [some (.long x), none, some (.int (nI k)), some (.int (nI (k - pu_c (bL x) (i + 1)))), some (.int (nI (i + 1)))]) C dS_placeOfBit_33 rfl (nI_1 i) (by decide) rfl rfl ?_
          refine sx_goto (tgt := 5) C dS_placeOfBit_36 (by decide) ?_
          exact ih (i + 1) (by omega) (by omega) (by rw [hs]; omega)
        · have hb : bL x i = true := by
            cases hz : bL x i
            · exact absurd ((lg_cmp_eq _ _).mpr ((bL_test _ (show i < 2 ^ 31 by omega)).mpr (by rw [Nat.mod_eq_of_lt (show i < 64 by omega)]; exact hz))) c20
            · rfl
          have hs : pu_c (bL x) (i + 1) = pu_c (bL x) i + 1 := by rw [pu_c, hb]; rfl
          refine sx_iload_n C dS_placeOfBit_23 rfl rfl ?_
          refine sx_if_ne (tgt := 30) C dS_placeOfBit_24 (by decide) (fun c24 => ?_) (fun c24 => ?_)
          · have hne : k - pu_c (bL x) i ≠ 0 := fun h => c24 (by rw [h]; rfl)
            refine sx_iinc (v := nI (k - pu_c (bL x) (i + 1))) (lv' := [some (.long x), none, some (.int (nI k)), some (.int (nI (k - pu_c (bL x) (i + 1)))), some (.int (nI i))]) C dS_placeOfBit_30 rfl (by rw [hs, show k - pu_c (bL x) i = (k - (pu_c (bL x) i + 1)) + 1 by omega]; exact pk_m1 _) (by decide) rfl rfl ?_
            refine sx_iinc (v := nI (i + 1)) (lv' := [some (.long x), none, some (.int (nI k)), some (.int (nI (k - pu_c (bL x) (i + 1)))), some (.int (nI (i + 1)))]) C dS_placeOfBit_33 rfl (nI_1 i) (by decide) rfl rfl ?_
            refine sx_goto (tgt := 5) C dS_placeOfBit_36 (by decide) ?_
            exact ih (i + 1) (by omega) (by omega) (by rw [hs]; omega)
          · have heq : k - pu_c (bL x) i = 0 := (nI_eq (by omega) (by decide)).mp (show nI _ = nI 0 from c24)
            refine sx_iload C dS_placeOfBit_27 rfl ?_
            exact sx_iretQ C hQ dS_placeOfBit_29 hr hlocks (Nat.le_of_ble_eq_true rfl) (Nat.le_of_ble_eq_true rfl) (⟨rfl, Or.inl ⟨i, by omega, hb, by omega, rfl⟩⟩)
  exact L5 _ 0 (Nat.lt_succ_self _) (Nat.zero_le _) (Nat.zero_le _)

set_option maxHeartbeats 4000000 in
set_option maxRecDepth 100000 in
/-- blockStarts -/
theorem c_S_blockStarts (l : Launch) (D : va_G) (tc : Nat → ClassId) (x : Int64) (μ : sx_M) : sx_Ml l yS_blockStarts (Cond.code yS_blockStarts cS_blockStarts 14 (some .long) :: sxW) (rmL 0 0 0) D sxCl (sxT tc) sxE [.long x] μ (fun r2 μ' => μ = μ' ∧ r2 = (bk_s x 6 ||| bk_w x 6)) 0 0 := by
  refine sx_oflQ (cc := cS_blockStarts) (maxL := 14) (ret := (some .long)) (own := RS) sxE_ok (by decide) rfl rfl (Nat.le_of_ble_eq_true rfl) [some (.long x), none, none, none, none, none, none, none, none, none, none, none, none, none] 12 rfl (fun p e s m below meth c A Q hQ C hr hlocks hnm => ?_)
  refine sx_lconst (v := 0) C dS_blockStarts_0 (by decide) ?_
  refine sx_eql (bk_s x 0) (rfl) ?_
  refine sx_lstore_n (lv' := [some (.long x), none, some (.long (bk_s x 0)), none, none, none, none, none, none, none, none, none, none, none]) C dS_blockStarts_1 rfl (by decide) rfl rfl ?_
  refine sx_lload_n C dS_blockStarts_2 rfl rfl ?_
  refine sx_eql (bk_w x 0) (rfl) ?_
  refine sx_lstore (lv' := [some (.long x), none, some (.long (bk_s x 0)), none, some (.long (bk_w x 0)), none, none, none, none, none, none, none, none, none]) C dS_blockStarts_3 (by decide) rfl rfl ?_
  refine sx_iconst (v := 1) C dS_blockStarts_5 (by decide) ?_
  refine sx_eqi (nI (2 ^ 0)) (rfl) ?_
  refine sx_istore (lv' := [some (.long x), none, some (.long (bk_s x 0)), none, some (.long (bk_w x 0)), none, some (.int (nI (2 ^ 0))), none, none, none, none, none, none, none]) C dS_blockStarts_6 (by decide) rfl rfl ?_
  obtain ⟨t, hZ, hT⟩ := C.2.2.2.1.2.1
  refine sx_gets C dS_blockStarts_8 hZ (sx_w C kF_S_69) (fun _ h => h) ?_
  refine sx_astore (lv' := [some (.long x), none, some (.long (bk_s x 0)), none, some (.long (bk_w x 0)), none, some (.int (nI (2 ^ 0))), some (.ref t), none, none, none, none, none, none]) C dS_blockStarts_11 (by decide) rfl rfl ?_
  refine sx_aload C dS_blockStarts_13 rfl ?_
  refine sx_tlen C dS_blockStarts_15 hT ?_
  refine sx_istore (lv' := [some (.long x), none, some (.long (bk_s x 0)), none, some (.long (bk_w x 0)), none, some (.int (nI (2 ^ 0))), some (.ref t), some (.int (nI 6)), none, none, none, none, none]) C dS_blockStarts_16 (by decide) rfl rfl ?_
  refine sx_iconst (v := 0) C dS_blockStarts_18 (by decide) ?_
  refine sx_eqi (nI 0) (rfl) ?_
  refine sx_istore (lv' := [some (.long x), none, some (.long (bk_s x 0)), none, some (.long (bk_w x 0)), none, some (.int (nI (2 ^ 0))), some (.ref t), some (.int (nI 6)), some (.int (nI 0)), none, none, none, none]) C dS_blockStarts_19 (by decide) rfl rfl ?_
  have L21 : ∀ (fu : Nat) (i : Nat), 6 - i < fu → (i ≤ 6) → SW p l e (rmL 0 0 0) s m [.long x].toArray below meth c 14 D sxCl A 0 0 Q μ 21 [some (.long x), none, some (.long (bk_s x i)), none, some (.long (bk_w x i)), none, some (.int (nI (2 ^ i))), some (.ref t), some (.int (nI 6)), some (.int (nI i)), none, none, none, none] [] := by
    intro fu
    induction fu with
    | zero => intro _ h; exact absurd h (Nat.not_lt_zero _)
    | succ fu ih =>
      intro i hfu hi
      refine sx_iload C dS_blockStarts_21 rfl ?_
      refine sx_iload C dS_blockStarts_23 rfl ?_
      refine sx_icmp_ge (tgt := 82) C dS_blockStarts_25 (by decide) (fun c25 => ?_) (fun c25 => ?_)
      · have hc : 6 ≤ i := (nI_leI (by decide) (by omega)).mp c25
        obtain rfl : i = 6 := by omega
        refine sx_lload_n C dS_blockStarts_82 rfl rfl ?_
        refine sx_lload C dS_blockStarts_83 rfl ?_
        refine sx_lor C dS_blockStarts_85 ?_
        exact sx_lretQ C hQ dS_blockStarts_86 hr hlocks (Nat.le_of_ble_eq_true rfl) (Nat.le_of_ble_eq_true rfl) (⟨rfl, rfl⟩)
      · have hc : ¬ 6 ≤ i := fun h => c25 ((nI_leI (by decide) (by omega)).mpr h)
        refine sx_aload C dS_blockStarts_28 rfl ?_
        refine sx_iload C dS_blockStarts_30 rfl ?_
        refine sx_tl (x := bk_P i) C dS_blockStarts_32 hT (rfl) (by omega) (by decide) rfl ?_
        refine sx_lstore (lv' := [some (.long x), none, some (.long (bk_s x i)), none, some (.long (bk_w x i)), none, some (.int (nI (2 ^ i))), some (.ref t), some (.int (nI 6)), some (.int (nI i)), some (.long (bk_P i)), none, none, none]) C dS_blockStarts_33 (by decide) rfl rfl ?_
        refine sx_lload C dS_blockStarts_35 rfl ?_
        refine sx_lload C dS_blockStarts_37 rfl ?_
        refine sx_iload C dS_blockStarts_39 rfl ?_
        refine sx_lushr C dS_blockStarts_41 ?_
        refine sx_land C dS_blockStarts_42 ?_
        refine sx_lload C dS_blockStarts_43 rfl ?_
        refine sx_land C dS_blockStarts_45 ?_
        refine sx_eql (bk_w x (i + 1)) (rfl) ?_
        refine sx_lstore (lv' := [some (.long x), none, some (.long (bk_s x i)), none, some (.long (bk_w x i)), none, some (.int (nI (2 ^ i))), some (.ref t), some (.int (nI 6)), some (.int (nI i)), some (.long (bk_P i)), none, some (.long (bk_w x (i + 1))), none]) C dS_blockStarts_46 (by decide) rfl rfl ?_
        refine sx_lload_n C dS_blockStarts_48 rfl rfl ?_
        refine sx_lload C dS_blockStarts_49 rfl ?_
        refine sx_lload C dS_blockStarts_51 rfl ?_
        refine sx_lload C dS_blockStarts_53 rfl ?_
        refine sx_iload C dS_blockStarts_55 rfl ?_
        refine sx_lshl C dS_blockStarts_57 ?_
        refine sx_lor C dS_blockStarts_58 ?_
        refine sx_ldc2 (v := (-1)) C dS_blockStarts_59 (sx_w C kL_S_42) ?_
        refine sx_lxor C dS_blockStarts_62 ?_
        refine sx_land C dS_blockStarts_63 ?_
        refine sx_lor C dS_blockStarts_64 ?_
        refine sx_eql (bk_s x (i + 1)) (rfl) ?_
        refine sx_lstore_n (lv' := [some (.long x), none, some (.long (bk_s x (i + 1))), none, some (.long (bk_w x i)), none, some (.int (nI (2 ^ i))), some (.ref t), some (.int (nI 6)), some (.int (nI i)), some (.long (bk_P i)), none, some (.long (bk_w x (i + 1))), none]) C dS_blockStarts_65 rfl (by decide) rfl rfl ?_
        refine sx_lload C dS_blockStarts_66 rfl ?_
        refine sx_lstore (lv' := [some (.long x), none, some (.long (bk_s x (i + 1))), none, some (.long (bk_w x (i + 1))), none, some (.int (nI (2 ^ i))), some (.ref t), some (.int (nI 6)), some (.int (nI i)), some (.long (bk_P i)), none, some (.long (bk_w x (i + 1))), none]) C dS_blockStarts_68 (by decide) rfl rfl ?_
        refine sx_iload C dS_blockStarts_70 rfl ?_
        refine sx_iconst (v := 2) C dS_blockStarts_72 (by decide) ?_
        refine sx_imul C dS_blockStarts_73 ?_
        refine sx_eqi (nI (2 ^ (i + 1))) (ck_2 (by omega)) ?_
        refine sx_istore (lv' := [some (.long x), none, some (.long (bk_s x (i + 1))), none, some (.long (bk_w x (i + 1))), none, some (.int (nI (2 ^ (i + 1)))), some (.ref t), some (.int (nI 6)), some (.int (nI i)), some (.long (bk_P i)), none, some (.long (bk_w x (i + 1))), none]) C dS_blockStarts_74 (by decide) rfl rfl ?_
        refine sx_weak (lv' := [some (.long x), none, some (.long (bk_s x (i + 1))), none, some (.long (bk_w x (i + 1))), none, some (.int (nI (2 ^ (i + 1)))), some (.ref t), some (.int (nI 6)), some (.int (nI i)), none, none, none, none]) (And.intro rfl (And.intro rfl (And.intro rfl (And.intro rfl (And.intro rfl (And.intro rfl (And.intro rfl trivial))))))) ?_
        refine sx_iinc (v := nI (i + 1)) (lv' := [some (.long x), none, some (.long (bk_s x (i + 1))), none, some (.long (bk_w x (i + 1))), none, some (.int (nI (2 ^ (i + 1)))), some (.ref t), some (.int (nI 6)), some (.int (nI (i + 1))), none, none, none, none]) C dS_blockStarts_76 rfl (nI_1 i) (by decide) rfl rfl ?_
        refine sx_goto (tgt := 21) C dS_blockStarts_79 (by decide) ?_
        exact ih (i + 1) (by omega) (by omega)
  exact L21 _ 0 (Nat.lt_succ_self _) (Nat.zero_le _)
