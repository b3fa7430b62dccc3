theorem pu_ex {p : Nat → Bool} {j : Nat} : ∀ {n : Nat}, j < pu_c p n → ∃ w, w < n ∧ p w = true ∧ pu_c p w = j
  | 0, h => absurd h (Nat.not_lt_zero _)
  | n + 1, h => by
    rcases Nat.lt_or_ge j (pu_c p n) with z | z
    · obtain ⟨w, h1, h2, h3⟩ := pu_ex z
      exact ⟨w, by omega, h2, h3⟩
    · cases hp : p n
      · rw [pr_b0 hp] at h; omega
      · rw [pr_b1 hp] at h
        exact ⟨n, by omega, hp, by omega⟩
theorem goP_end {T : Nat → Bool} {V W : Nat} {x lst sb : Int32} (hz : ∀ v, 2 ^ W ≤ v → T v = false) (h : goP T V x (2 ^ W) lst sb) : goP T V x (64 * nCh W) lst sb := fun j w h1 h2 h3 h4 h5 => by
  refine h j w h1 h2 ?_ h4 h5
  rcases Nat.lt_or_ge w (2 ^ W) with z | z
  · exact z
  · have := (bkS_iff.mp h4).1
    rw [hz w z] at this
    cases this

set_option maxHeartbeats 4000000 in
set_option maxRecDepth 100000 in
/-- isWhole -/
theorem c_M_isWhole (l : Launch) (D : va_G) (tc : Nat → ClassId) (e0 a n : Nat) (ad : Nat → Nat) (W : Nat) (u : Nat) (th : Int32) (kn : Bool) (lst : Int32) (sb : Int32) (mk : Nat → Int32) (cd : Nat → Int32) (lk : Nat → Int32) (fl : Nat → Int32) (vr : Nat → Int32) (wd : Nat → Int32) (cn : Nat → Int32) (li : Nat → Int32) (od : Nat → Int32) (μ : sx_M) (hS : MS tc μ ad W u th kn lst sb mk cd lk fl vr wd cn li od) (T : Nat → Bool) (hW : W ≤ 16) (he : e0 ≤ 40) (hr9 : rowM wd (nRw W) e0 = T) (han : a + n ≤ 2 ^ W) : sx_Mi l yM_isWhole (Cond.code yM_isWhole cM_isWhole 6 (some .boolean) :: sxW) (rmL 1 0 0) D sxCl (sxT tc) sxE [.ref (ad 0), .int (nI e0), .int (nI a), .int (nI n)] μ (fun r μ' => μ = μ' ∧ r = b2i (!anB (fun t => !T (a + t)) n)) 0 0 := by
  have hpw := en_pw hW
  have hnR := nRw_W (W := W)
  refine sx_ofiQ (cc := cM_isWhole) (maxL := 6) (ret := (some .boolean)) (own := RM) sxE_ok (by decide) rfl rfl (Nat.le_of_ble_eq_true rfl) [some (.ref (ad 0)), some (.int (nI e0)), some (.int (nI a)), some (.int (nI n)), none, none] 2 rfl (fun p e s m below meth c A Q hQ C hr hlocks hnm => ?_)
  refine sx_iconst (v := 1) C dM_isWhole_0 (by decide) ?_
  refine sx_eqi (b2i (!anB (fun t => !T (a + t)) 0)) (rfl) ?_
  refine sx_istore (lv' := [some (.ref (ad 0)), some (.int (nI e0)), some (.int (nI a)), some (.int (nI n)), some (.int (b2i (!anB (fun t => !T (a + t)) 0))), none]) C dM_isWhole_1 (by decide) rfl rfl ?_
  refine sx_iload_n C dM_isWhole_3 rfl rfl ?_
  refine sx_eqi (nI (a + 0)) (rfl) ?_
  refine sx_istore (lv' := [some (.ref (ad 0)), some (.int (nI e0)), some (.int (nI a)), some (.int (nI n)), some (.int (b2i (!anB (fun t => !T (a + t)) 0))), some (.int (nI (a + 0)))]) C dM_isWhole_4 (by decide) rfl rfl ?_
  have L6 : ∀ (fu : Nat) (t : Nat), n - t < fu → (t ≤ n) → SW p l e (rmL 1 0 0) s m [.ref (ad 0), .int (nI e0), .int (nI a), .int (nI n)].toArray below meth c 6 D sxCl A 0 0 Q μ 6 [some (.ref (ad 0)), some (.int (nI e0)), some (.int (nI a)), some (.int (nI n)), some (.int (b2i (!anB (fun t => !T (a + t)) t))), some (.int (nI (a + t)))] [] := by
    intro fu
    induction fu with
    | zero => intro _ h; exact absurd h (Nat.not_lt_zero _)
    | succ fu ih =>
      intro t hfu ht
      refine sx_iload C dM_isWhole_6 rfl ?_
      refine sx_iload_n C dM_isWhole_8 rfl rfl ?_
      refine sx_iload_n C dM_isWhole_9 rfl rfl ?_
      refine sx_iadd C dM_isWhole_10 ?_
      refine sx_eqi (nI (a + n)) (nI_add _ _) ?_
      refine sx_icmp_ge (tgt := 34) C dM_isWhole_11 (by decide) (fun c11 => ?_) (fun c11 => ?_)
      · have hc : a + n ≤ a + t := (nI_leI (by omega) (by omega)).mp c11
        have hfin : (!anB (fun t => !T (a + t)) t) = (!anB (fun t => !T (a + t)) n) := by rw [show t = n by omega]
        refine sx_iload C dM_isWhole_34 rfl ?_
        exact sx_zretQ C hQ dM_isWhole_36 hr (by exact b2i_01 _) hlocks (Nat.le_of_ble_eq_true rfl) (Nat.le_of_ble_eq_true rfl) (⟨rfl, by rw [hfin]⟩)
      · have hc : ¬ a + n ≤ a + t := fun h => c11 ((nI_leI (by omega) (by omega)).mpr h)
        refine sx_iload C dM_isWhole_14 rfl ?_
        refine sx_if_eq (tgt := 34) C dM_isWhole_16 (by decide) (fun c16 => ?_) (fun c16 => ?_)
        · have b16 := b2i_z.mp c16
          have hfin : (!anB (fun t => !T (a + t)) t) = (!anB (fun t => !T (a + t)) n) := by rw [b16, wh_x ht b16]
          refine sx_iload C dM_isWhole_34 rfl ?_
          exact sx_zretQ C hQ dM_isWhole_36 hr (by exact b2i_01 _) hlocks (Nat.le_of_ble_eq_true rfl) (Nat.le_of_ble_eq_true rfl) (⟨rfl, by rw [hfin]⟩)
        · have b16 := b2i_ne.mp c16
          refine sx_aload_n C dM_isWhole_19 rfl rfl ?_
          refine sx_iload_n C dM_isWhole_20 rfl rfl ?_
          refine sx_iload C dM_isWhole_21 rfl ?_
          refine sx_calli C (sx_runV (As := [.int (nI e0), .int (nI (a + t))]) (rest := []) C sx_all (c_M_has l D tc e0 (a + t) ad W u th kn lst sb mk cd lk fl vr wd cn li od μ hS (by omega) (by omega)) (ci := 3) rfl (MS_f0 hS) (sx_cwV C 2 kM_M_100 ki_M_has ke_M_has kn_M kc_M_has rfl rfl (by decide +kernel) ⟨Nat.le_of_ble_eq_true rfl, Nat.le_of_ble_eq_true rfl⟩) rfl rfl (Nat.le_of_ble_eq_true rfl) dM_isWhole_23 ⟨Nat.le_of_ble_eq_true rfl, Nat.le_of_ble_eq_true rfl⟩) (fun q1 μ1 h1 => ?_)
          obtain ⟨hm, h1⟩ := h1
          subst hm
          rw [← rowM_in (n := nRw W) (by omega), hr9] at h1
          refine sx_eqi (b2i (!anB (fun t => !T (a + t)) (t + 1))) (by rw [wh_s b16]; exact h1) ?_
          refine sx_istore (lv' := [some (.ref (ad 0)), some (.int (nI e0)), some (.int (nI a)), some (.int (nI n)), some (.int (b2i (!anB (fun t => !T (a + t)) (t + 1)))), some (.int (nI (a + t)))]) C dM_isWhole_26 (by decide) rfl rfl ?_
          refine sx_iinc (v := nI (a + (t + 1))) (lv' := [some (.ref (ad 0)), some (.int (nI e0)), some (.int (nI a)), some (.int (nI n)), some (.int (b2i (!anB (fun t => !T (a + t)) (t + 1)))), some (.int (nI (a + (t + 1))))]) C dM_isWhole_28 rfl (nI_1 _) (by decide) rfl rfl ?_
          refine sx_goto (tgt := 6) C dM_isWhole_31 (by decide) ?_
          exact ih (t + 1) (by omega) (by omega)
  exact L6 _ 0 (Nat.lt_succ_self _) (Nat.zero_le _)

set_option maxHeartbeats 4000000 in
set_option maxRecDepth 100000 in
/-- goOver -/
theorem c_M_goOver (l : Launch) (D : va_G) (tc : Nat → ClassId) (e0 : Nat) (x : Int32) (ad : Nat → Nat) (W : Nat) (u : Nat) (th : Int32) (kn : Bool) (lst : Int32) (sb : Int32) (mk : Nat → Int32) (cd : Nat → Int32) (lk : Nat → Int32) (fl : Nat → Int32) (vr : Nat → Int32) (wd : Nat → Int32) (cn : Nat → Int32) (li : Nat → Int32) (od : Nat → Int32) (μ : sx_M) (hS : MS tc μ ad W u th kn lst sb mk cd lk fl vr wd cn li od) (T : Nat → Bool) (hW : W ≤ 16) (he : e0 ≤ 40) (hr9 : rowM wd (nRw W) e0 = T) (hz : ∀ v, 2 ^ W ≤ v → T v = false) : sx_Mi l yM_goOver (Cond.code yM_goOver cM_goOver 6 (some .int) :: sxW) (rmL 2 0 0) D sxCl (sxT tc) sxE [.ref (ad 0), .int (nI e0), .int x] μ (fun r μ' => r = nI (pu_c (bkS T (max W 6)) (64 * nCh W)) ∧ ∃ lst1 sb1, MS tc μ' ad W u th kn lst1 sb1 mk cd lk fl vr wd cn li od ∧ goP T (max W 6) x (64 * nCh W) lst1 sb1) 0 0 := by
  have hpw := en_pw hW
  have hnR := nRw_W (W := W)
  refine sx_ofiQ (cc := cM_goOver) (maxL := 6) (ret := (some .int)) (own := RM) sxE_ok (by decide) rfl rfl (Nat.le_of_ble_eq_true rfl) [some (.ref (ad 0)), some (.int (nI e0)), some (.int x), none, none, none] 3 rfl (fun p e s m below meth c A Q hQ C hr hlocks hnm => ?_)
  refine sx_iconst (v := 0) C dM_goOver_0 (by decide) ?_
  refine sx_eqi (nI (pu_c (bkS T (max W 6)) 0)) (rfl) ?_
  refine sx_istore_n (lv' := [some (.ref (ad 0)), some (.int (nI e0)), some (.int x), some (.int (nI (pu_c (bkS T (max W 6)) 0))), none, none]) C dM_goOver_1 rfl (by decide) rfl rfl ?_
  refine sx_iconst (v := 0) C dM_goOver_2 (by decide) ?_
  refine sx_eqi (nI 0) (rfl) ?_
  refine sx_istore (lv' := [some (.ref (ad 0)), some (.int (nI e0)), some (.int x), some (.int (nI (pu_c (bkS T (max W 6)) 0))), some (.int (nI 0)), none]) C dM_goOver_3 (by decide) rfl rfl ?_
  have L5 : ∀ (fu : Nat) (w : Nat) (μ1 : sx_M) (lst1 sb1 : Int32), 2 ^ W - w < fu → (w ≤ 2 ^ W) → (MS tc μ1 ad W u th kn lst1 sb1 mk cd lk fl vr wd cn li od) → (bk_bd T (max W 6) w) → (goP T (max W 6) x w lst1 sb1) → SW p l e (rmL 2 0 0) s m [.ref (ad 0), .int (nI e0), .int x].toArray below meth c 6 D sxCl A 0 0 Q μ1 5 [some (.ref (ad 0)), some (.int (nI e0)), some (.int x), some (.int (nI (pu_c (bkS T (max W 6)) w))), some (.int (nI w)), none] [] := by
    intro fu
    induction fu with
    | zero => intro _ _ _ _ h; exact absurd h (Nat.not_lt_zero _)
    | succ fu ih =>
      intro w μ1 lst1 sb1 hfu hw hS1 hbd hg
      refine sx_iload C dM_goOver_5 rfl ?_
      refine sx_iconst (v := 1) C dM_goOver_7 (by decide) ?_
      refine sx_aload_n C dM_goOver_8 rfl rfl ?_
      refine sx_getf (Cn := RM) (T := TM) (N := 17) C dM_goOver_9 (sx_in inM) rfl 1 (by decide) (sx_w C kF_M_39) (fun _ h => h) (MS_f0 hS1) rfl ?_
      refine sx_ishl C dM_goOver_12 ?_
      refine sx_eqi (nI (2 ^ W)) (w2_pow W (by omega)) ?_
      refine sx_icmp_ge (tgt := 130) C dM_goOver_13 (by decide) (fun c13 => ?_) (fun c13 => ?_)
      · have hc13 : 2 ^ W ≤ w := (nI_leI (by omega) (by omega)).mp c13
        have hwW : w = 2 ^ W := by omega
        rw [hwW] at hg
        refine sx_iload_n C dM_goOver_130 rfl rfl ?_
        exact sx_iretQ C hQ dM_goOver_131 hr hlocks (Nat.le_of_ble_eq_true rfl) (Nat.le_of_ble_eq_true rfl) (⟨by rw [go_end hz, hwW], lst1, sb1, hS1, goP_end hz hg⟩)
      · have hc13 : ¬ 2 ^ W ≤ w := fun h => c13 ((nI_leI (by omega) (by omega)).mpr h)
        refine sx_aload_n C dM_goOver_16 rfl rfl ?_
        refine sx_iload_n C dM_goOver_17 rfl rfl ?_
        refine sx_iload C dM_goOver_18 rfl ?_
        refine sx_calli C (sx_runV (As := [.int (nI e0), .int (nI w)]) (rest := []) C sx_all (c_M_has l D tc e0 w ad W u th kn lst1 sb1 mk cd lk fl vr wd cn li od μ1 hS1 (by omega) (by omega)) (ci := 3) rfl (MS_f0 hS1) (sx_cwV C 2 kM_M_100 ki_M_has ke_M_has kn_M kc_M_has rfl rfl (by decide +kernel) ⟨Nat.le_of_ble_eq_true rfl, Nat.le_of_ble_eq_true rfl⟩) rfl rfl (Nat.le_of_ble_eq_true rfl) dM_goOver_20 ⟨Nat.le_of_ble_eq_true rfl, Nat.le_of_ble_eq_true rfl⟩) (fun q1 μ2 h1 => ?_)
        obtain ⟨hm, h1⟩ := h1
        subst hm
        rw [← rowM_in (n := nRw W) (by omega), hr9] at h1
        refine sx_eqi (b2i (T w)) (h1) ?_
        refine sx_if_ne (tgt := 32) C dM_goOver_23 (by decide) (fun c23 => ?_) (fun c23 => ?_)
        · have b23 := b2i_ne.mp c23
          refine sx_iconst (v := 0) C dM_goOver_32 (by decide) ?_
          refine sx_eqi (nI 0) (rfl) ?_
          refine sx_istore (lv' := [some (.ref (ad 0)), some (.int (nI e0)), some (.int x), some (.int (nI (pu_c (bkS T (max W 6)) w))), some (.int (nI w)), some (.int (nI 0))]) C dM_goOver_33 (by decide) rfl rfl ?_
          have L35 : ∀ (fu2 : Nat) (fr : Nat), W - fr < fu2 → (fr ≤ W) → (w % 2 ^ fr = 0) → (∀ t, t < 2 ^ fr → T (w + t) = true) → SW p l e (rmL 2 0 0) s m [.ref (ad 0), .int (nI e0), .int x].toArray below meth c 6 D sxCl A 0 0 Q μ1 35 [some (.ref (ad 0)), some (.int (nI e0)), some (.int x), some (.int (nI (pu_c (bkS T (max W 6)) w))), some (.int (nI w)), some (.int (nI fr))] [] := by
            intro fu2
            induction fu2 with
            | zero => intro _ h; exact absurd h (Nat.not_lt_zero _)
            | succ fu2 ih2 =>
              intro fr hfu2 hf hf0 hf1
              refine sx_iload C dM_goOver_35 rfl ?_
              refine sx_aload_n C dM_goOver_37 rfl rfl ?_
              refine sx_getf (Cn := RM) (T := TM) (N := 17) C dM_goOver_38 (sx_in inM) rfl 1 (by decide) (sx_w C kF_M_39) (fun _ h => h) (MS_f0 hS1) rfl ?_
              refine sx_icmp_ge (tgt := 79) C dM_goOver_41 (by decide) (fun c41 => ?_) (fun c41 => ?_)
              · have hc41 : W ≤ fr := (nI_leI (by omega) (by omega)).mp c41
                have hlev : bk_lev T (max W 6) w fr := go_lev rfl hbd hf hf0 hf1 hz (Or.inl (by omega))
                have hin := go_in hz hf1
                obtain ⟨hb2, hN⟩ := go_next b23 hbd hlev hf0
                refine sx_aload_n C dM_goOver_79 rfl rfl ?_
                have J94 : SW p l e (rmL 2 0 0) s m [.ref (ad 0), .int (nI e0), .int x].toArray below meth c 6 D sxCl A 0 0 Q μ1 94 [some (.ref (ad 0)), some (.int (nI e0)), some (.int x), some (.int (nI (pu_c (bkS T (max W 6)) w))), some (.int (nI w)), some (.int (nI fr))] [.int (if nI (pu_c (bkS T (max W 6)) w) = x then nI w else lst1), .ref (ad 0)] := by
                  refine sx_putf (Cn := RM) (T := TM) (N := 17) (ty := .int) (fs' := [.int th, .int (nI W), .int (nI (nRw W)), .int (alM W), .int (nI u), .ref (ad 1), .ref (ad 2), .ref (ad 3), .ref (ad 4), .ref (ad 5), .ref (ad 6), .int (b2i kn), .ref (ad 7), .ref (ad 8), .ref (ad 9), .int (if nI (pu_c (bkS T (max W 6)) w) = x then nI w else lst1), .int sb1]) C dM_goOver_94 (sx_in inM) tM tM_ok nM rfl 15 (by decide) (sx_w C kF_M_122) (fun _ h => h) rfl (by decide +kernel) rfl rfl (MS_f0 hS1) (by simp) rfl ?_
                  have hS2 : MS tc (sx_up μ1 (ad 0) (.inr (3, [.int th, .int (nI W), .int (nI (nRw W)), .int (alM W), .int (nI u), .ref (ad 1), .ref (ad 2), .ref (ad 3), .ref (ad 4), .ref (ad 5), .ref (ad 6), .int (b2i kn), .ref (ad 7), .ref (ad 8), .ref (ad 9), .int (if nI (pu_c (bkS T (max W 6)) w) = x then nI w else lst1), .int sb1]))) ad W u th kn (if nI (pu_c (bkS T (max W 6)) w) = x then nI w else lst1) sb1 mk cd lk fl vr wd cn li od := MS_lst hS1 _
                  refine sx_aload_n C dM_goOver_97 rfl rfl ?_
                  have J112 : SW p l e (rmL 2 0 0) s m [.ref (ad 0), .int (nI e0), .int x].toArray below meth c 6 D sxCl A 0 0 Q (sx_up μ1 (ad 0) (.inr (3, [.int th, .int (nI W), .int (nI (nRw W)), .int (alM W), .int (nI u), .ref (ad 1), .ref (ad 2), .ref (ad 3), .ref (ad 4), .ref (ad 5), .ref (ad 6), .int (b2i kn), .ref (ad 7), .ref (ad 8), .ref (ad 9), .int (if nI (pu_c (bkS T (max W 6)) w) = x then nI w else lst1), .int sb1]))) 112 [some (.ref (ad 0)), some (.int (nI e0)), some (.int x), some (.int (nI (pu_c (bkS T (max W 6)) w))), some (.int (nI w)), some (.int (nI fr))] [.int (if nI (pu_c (bkS T (max W 6)) w) = x then nI fr else sb1), .ref (ad 0)] := by
                    refine sx_putf (Cn := RM) (T := TM) (N := 17) (ty := .int) (fs' := [.int th, .int (nI W), .int (nI (nRw W)), .int (alM W), .int (nI u), .ref (ad 1), .ref (ad 2), .ref (ad 3), .ref (ad 4), .ref (ad 5), .ref (ad 6), .int (b2i kn), .ref (ad 7), .ref (ad 8), .ref (ad 9), .int (if nI (pu_c (bkS T (max W 6)) w) = x then nI w else lst1), .int (if nI (pu_c (bkS T (max W 6)) w) = x then nI fr else sb1)]) C dM_goOver_112 (sx_in inM) tM tM_ok nM rfl 16 (by decide) (sx_w C kF_M_125) (fun _ h => h) rfl (by decide +kernel) rfl rfl (MS_f0 hS2) (by simp) rfl ?_
                    have hS3 : MS tc (sx_up (sx_up μ1 (ad 0) (.inr (3, [.int th, .int (nI W), .int (nI (nRw W)), .int (alM W), .int (nI u), .ref (ad 1), .ref (ad 2), .ref (ad 3), .ref (ad 4), .ref (ad 5), .ref (ad 6), .int (b2i kn), .ref (ad 7), .ref (ad 8), .ref (ad 9), .int (if nI (pu_c (bkS T (max W 6)) w) = x then nI w else lst1), .int sb1]))) (ad 0) (.inr (3, [.int th, .int (nI W), .int (nI (nRw W)), .int (alM W), .int (nI u), .ref (ad 1), .ref (ad 2), .ref (ad 3), .ref (ad 4), .ref (ad 5), .ref (ad 6), .int (b2i kn), .ref (ad 7), .ref (ad 8), .ref (ad 9), .int (if nI (pu_c (bkS T (max W 6)) w) = x then nI w else lst1), .int (if nI (pu_c (bkS T (max W 6)) w) = x then nI fr else sb1)]))) ad W u th kn (if nI (pu_c (bkS T (max W 6)) w) = x then nI w else lst1) (if nI (pu_c (bkS T (max W 6)) w) = x then nI fr else sb1) mk cd lk fl vr wd cn li od := MS_sb hS2 _
                    refine sx_iinc (v := nI (pu_c (bkS T (max W 6)) (w + 2 ^ fr))) (lv' := [some (.ref (ad 0)), some (.int (nI e0)), some (.int x), some (.int (nI (pu_c (bkS T (max W 6)) (w + 2 ^ fr)))), some (.int (nI w)), some (.int (nI fr))]) C dM_goOver_115 rfl (by rw [hN]; exact nI_1 _) (by decide) rfl rfl ?_
                    refine sx_iload C dM_goOver_118 rfl ?_
                    refine sx_iconst (v := 1) C dM_goOver_120 (by decide) ?_
                    refine sx_iload C dM_goOver_121 rfl ?_
                    refine sx_ishl C dM_goOver_123 ?_
                    refine sx_eqi (nI (2 ^ fr)) (m_shl fr (by omega)) ?_
                    refine sx_iadd C dM_goOver_124 ?_
                    refine sx_eqi (nI (w + 2 ^ fr)) (nI_add _ _) ?_
                    refine sx_istore (lv' := [some (.ref (ad 0)), some (.int (nI e0)), some (.int x), some (.int (nI (pu_c (bkS T (max W 6)) (w + 2 ^ fr)))), some (.int (nI (w + 2 ^ fr))), some (.int (nI fr))]) C dM_goOver_125 (by decide) rfl rfl ?_
                    refine sx_weak (lv' := [some (.ref (ad 0)), some (.int (nI e0)), some (.int x), some (.int (nI (pu_c (bkS T (max W 6)) (w + 2 ^ fr)))), some (.int (nI (w + 2 ^ fr))), none]) (And.intro rfl (And.intro rfl (And.intro rfl (And.intro rfl (And.intro rfl trivial))))) ?_
                    refine sx_goto (tgt := 5) C dM_goOver_127 (by decide) ?_
                    exact ih (w + 2 ^ fr) _ _ _ (by have := Nat.two_pow_pos fr; omega) hin hS3 hb2 (goP_y (by omega) (go_yes b23 hbd) hlev hN hg)
                  refine sx_iload_n C dM_goOver_98 rfl rfl ?_
                  refine sx_iload_n C dM_goOver_99 rfl rfl ?_
                  refine sx_icmp_ne (tgt := 108) C dM_goOver_100 (by decide) (fun c100 => ?_) (fun c100 => ?_)
                  · refine sx_aload_n C dM_goOver_108 rfl rfl ?_
                    refine sx_getf (Cn := RM) (T := TM) (N := 17) C dM_goOver_109 (sx_in inM) rfl 16 (by decide) (sx_w C kF_M_125) (fun _ h => h) (MS_f0 hS2) rfl ?_
                    refine sx_eqi ((if nI (pu_c (bkS T (max W 6)) w) = x then nI fr else sb1)) (by first | rw [if_pos c100] | rw [if_neg c100]) ?_
                    exact J112
                  · refine sx_iload C dM_goOver_103 rfl ?_
                    refine sx_goto (tgt := 112) C dM_goOver_105 (by decide) ?_
                    refine sx_eqi ((if nI (pu_c (bkS T (max W 6)) w) = x then nI fr else sb1)) (by first | rw [if_pos c100] | rw [if_neg c100]) ?_
                    exact J112
                refine sx_iload_n C dM_goOver_80 rfl rfl ?_
                refine sx_iload_n C dM_goOver_81 rfl rfl ?_
                refine sx_icmp_ne (tgt := 90) C dM_goOver_82 (by decide) (fun c82 => ?_) (fun c82 => ?_)
                · refine sx_aload_n C dM_goOver_90 rfl rfl ?_
                  refine sx_getf (Cn := RM) (T := TM) (N := 17) C dM_goOver_91 (sx_in inM) rfl 15 (by decide) (sx_w C kF_M_122) (fun _ h => h) (MS_f0 hS1) rfl ?_
                  refine sx_eqi ((if nI (pu_c (bkS T (max W 6)) w) = x then nI w else lst1)) (by first | rw [if_pos c82] | rw [if_neg c82]) ?_
                  exact J94
                · refine sx_iload C dM_goOver_85 rfl ?_
                  refine sx_goto (tgt := 94) C dM_goOver_87 (by decide) ?_
                  refine sx_eqi ((if nI (pu_c (bkS T (max W 6)) w) = x then nI w else lst1)) (by first | rw [if_pos c82] | rw [if_neg c82]) ?_
                  exact J94
              · have hc41 : ¬ W ≤ fr := fun h => c41 ((nI_leI (by omega) (by omega)).mpr h)
                refine sx_iload C dM_goOver_44 rfl ?_
                refine sx_iconst (v := 2) C dM_goOver_46 (by decide) ?_
                refine sx_iload C dM_goOver_47 rfl ?_
                have hp2 : 2 ^ (fr + 1) ≤ 2 ^ W := Nat.pow_le_pow_right (by decide) (by omega)
                have hp0 := Nat.two_pow_pos (fr + 1)
                refine sx_ishl C dM_goOver_49 ?_
                refine sx_eqi (nI (2 ^ (fr + 1))) (m_shl2 fr (by omega)) ?_
                refine sx_irem C dM_goOver_50 (nI_ne0 hp0 (by omega)) ?_
                refine sx_eqi (nI (w % 2 ^ (fr + 1))) (nI_rem (by omega) (by omega) hp0) ?_
                refine sx_if_ne (tgt := 79) C dM_goOver_51 (by decide) (fun c51 => ?_) (fun c51 => ?_)
                · have b51 : ¬ w % 2 ^ (fr + 1) = 0 := fun z => c51 (by rw [z]; rfl)
                  have hlev : bk_lev T (max W 6) w fr := go_lev rfl hbd hf hf0 hf1 hz (Or.inr (fun z => b51 z.1))
                  have hin := go_in hz hf1
                  obtain ⟨hb2, hN⟩ := go_next b23 hbd hlev hf0
                  refine sx_aload_n C dM_goOver_79 rfl rfl ?_
                  have J94 : SW p l e (rmL 2 0 0) s m [.ref (ad 0), .int (nI e0), .int x].toArray below meth c 6 D sxCl A 0 0 Q μ1 94 [some (.ref (ad 0)), some (.int (nI e0)), some (.int x), some (.int (nI (pu_c (bkS T (max W 6)) w))), some (.int (nI w)), some (.int (nI fr))] [.int (if nI (pu_c (bkS T (max W 6)) w) = x then nI w else lst1), .ref (ad 0)] := by
                    refine sx_putf (Cn := RM) (T := TM) (N := 17) (ty := .int) (fs' := [.int th, .int (nI W), .int (nI (nRw W)), .int (alM W), .int (nI u), .ref (ad 1), .ref (ad 2), .ref (ad 3), .ref (ad 4), .ref (ad 5), .ref (ad 6), .int (b2i kn), .ref (ad 7), .ref (ad 8), .ref (ad 9), .int (if nI (pu_c (bkS T (max W 6)) w) = x then nI w else lst1), .int sb1]) C dM_goOver_94 (sx_in inM) tM tM_ok nM rfl 15 (by decide) (sx_w C kF_M_122) (fun _ h => h) rfl (by decide +kernel) rfl rfl (MS_f0 hS1) (by simp) rfl ?_
                    have hS2 : MS tc (sx_up μ1 (ad 0) (.inr (3, [.int th, .int (nI W), .int (nI (nRw W)), .int (alM W), .int (nI u), .ref (ad 1), .ref (ad 2), .ref (ad 3), .ref (ad 4), .ref (ad 5), .ref (ad 6), .int (b2i kn), .ref (ad 7), .ref (ad 8), .ref (ad 9), .int (if nI (pu_c (bkS T (max W 6)) w) = x then nI w else lst1), .int sb1]))) ad W u th kn (if nI (pu_c (bkS T (max W 6)) w) = x then nI w else lst1) sb1 mk cd lk fl vr wd cn li od := MS_lst hS1 _
                    refine sx_aload_n C dM_goOver_97 rfl rfl ?_
                    have J112 : SW p l e (rmL 2 0 0) s m [.ref (ad 0), .int (nI e0), .int x].toArray below meth c 6 D sxCl A 0 0 Q (sx_up μ1 (ad 0) (.inr (3, [.int th, .int (nI W), .int (nI (nRw W)), .int (alM W), .int (nI u), .ref (ad 1), .ref (ad 2), .ref (ad 3), .ref (ad 4), .ref (ad 5), .ref (ad 6), .int (b2i kn), .ref (ad 7), .ref (ad 8), .ref (ad 9), .int (if nI (pu_c (bkS T (max W 6)) w) = x then nI w else lst1), .int sb1]))) 112 [some (.ref (ad 0)), some (.int (nI e0)), some (.int x), some (.int (nI (pu_c (bkS T (max W 6)) w))), some (.int (nI w)), some (.int (nI fr))] [.int (if nI (pu_c (bkS T (max W 6)) w) = x then nI fr else sb1), .ref (ad 0)] := by
                      refine sx_putf (Cn := RM) (T := TM) (N := 17) (ty := .int) (fs' := [.int th, .int (nI W), .int (nI (nRw W)), .int (alM W), .int (nI u), .ref (ad 1), .ref (ad 2), .ref (ad 3), .ref (ad 4), .ref (ad 5), .ref (ad 6), .int (b2i kn), .ref (ad 7), .ref (ad 8), .ref (ad 9), .int (if nI (pu_c (bkS T (max W 6)) w) = x then nI w else lst1), .int (if nI (pu_c (bkS T (max W 6)) w) = x then nI fr else sb1)]) C dM_goOver_112 (sx_in inM) tM tM_ok nM rfl 16 (by decide) (sx_w C kF_M_125) (fun _ h => h) rfl (by decide +kernel) rfl rfl (MS_f0 hS2) (by simp) rfl ?_
                      have hS3 : MS tc (sx_up (sx_up μ1 (ad 0) (.inr (3, [.int th, .int (nI W), .int (nI (nRw W)), .int (alM W), .int (nI u), .ref (ad 1), .ref (ad 2), .ref (ad 3), .ref (ad 4), .ref (ad 5), .ref (ad 6), .int (b2i kn), .ref (ad 7), .ref (ad 8), .ref (ad 9), .int (if nI (pu_c (bkS T (max W 6)) w) = x then nI w else lst1), .int sb1]))) (ad 0) (.inr (3, [.int th, .int (nI W), .int (nI (nRw W)), .int (alM W), .int (nI u), .ref (ad 1), .ref (ad 2), .ref (ad 3), .ref (ad 4), .ref (ad 5), .ref (ad 6), .int (b2i kn), .ref (ad 7), .ref (ad 8), .ref (ad 9), .int (if nI (pu_c (bkS T (max W 6)) w) = x then nI w else lst1), .int (if nI (pu_c (bkS T (max W 6)) w) = x then nI fr else sb1)]))) ad W u th kn (if nI (pu_c (bkS T (max W 6)) w) = x then nI w else lst1) (if nI (pu_c (bkS T (max W 6)) w) = x then nI fr else sb1) mk cd lk fl vr wd cn li od := MS_sb hS2 _
                      refine sx_iinc (v := nI (pu_c (bkS T (max W 6)) (w + 2 ^ fr))) (lv' := [some (.ref (ad 0)), some (.int (nI e0)), some (.int x), some (.int (nI (pu_c (bkS T (max W 6)) (w + 2 ^ fr)))), some (.int (nI w)), some (.int (nI fr))]) C dM_goOver_115 rfl (by rw [hN]; exact nI_1 _) (by decide) rfl rfl ?_
                      refine sx_iload C dM_goOver_118 rfl ?_
                      refine sx_iconst (v := 1) C dM_goOver_120 (by decide) ?_
                      refine sx_iload C dM_goOver_121 rfl ?_
                      refine sx_ishl C dM_goOver_123 ?_
                      refine sx_eqi (nI (2 ^ fr)) (m_shl fr (by omega)) ?_
                      refine sx_iadd C dM_goOver_124 ?_
                      refine sx_eqi (nI (w + 2 ^ fr)) (nI_add _ _) ?_
                      refine sx_istore (lv' := [some (.ref (ad 0)), some (.int (nI e0)), some (.int x), some (.int (nI (pu_c (bkS T (max W 6)) (w + 2 ^ fr)))), some (.int (nI (w + 2 ^ fr))), some (.int (nI fr))]) C dM_goOver_125 (by decide) rfl rfl ?_
                      refine sx_weak (lv' := [some (.ref (ad 0)), some (.int (nI e0)), some (.int x), some (.int (nI (pu_c (bkS T (max W 6)) (w + 2 ^ fr)))), some (.int (nI (w + 2 ^ fr))), none]) (And.intro rfl (And.intro rfl (And.intro rfl (And.intro rfl (And.intro rfl trivial))))) ?_
                      refine sx_goto (tgt := 5) C dM_goOver_127 (by decide) ?_
                      exact ih (w + 2 ^ fr) _ _ _ (by have := Nat.two_pow_pos fr; omega) hin hS3 hb2 (goP_y (by omega) (go_yes b23 hbd) hlev hN hg)
                    refine sx_iload_n C dM_goOver_98 rfl rfl ?_
                    refine sx_iload_n C dM_goOver_99 rfl rfl ?_
                    refine sx_icmp_ne (tgt := 108) C dM_goOver_100 (by decide) (fun c100 => ?_) (fun c100 => ?_)
                    · refine sx_aload_n C dM_goOver_108 rfl rfl ?_
                      refine sx_getf (Cn := RM) (T := TM) (N := 17) C dM_goOver_109 (sx_in inM) rfl 16 (by decide) (sx_w C kF_M_125) (fun _ h => h) (MS_f0 hS2) rfl ?_
                      refine sx_eqi ((if nI (pu_c (bkS T (max W 6)) w) = x then nI fr else sb1)) (by first | rw [if_pos c100] | rw [if_neg c100]) ?_
                      exact J112
                    · refine sx_iload C dM_goOver_103 rfl ?_
                      refine sx_goto (tgt := 112) C dM_goOver_105 (by decide) ?_
                      refine sx_eqi ((if nI (pu_c (bkS T (max W 6)) w) = x then nI fr else sb1)) (by first | rw [if_pos c100] | rw [if_neg c100]) ?_
                      exact J112
                  refine sx_iload_n C dM_goOver_80 rfl rfl ?_
                  refine sx_iload_n C dM_goOver_81 rfl rfl ?_
                  refine sx_icmp_ne (tgt := 90) C dM_goOver_82 (by decide) (fun c82 => ?_) (fun c82 => ?_)
                  · refine sx_aload_n C dM_goOver_90 rfl rfl ?_
                    refine sx_getf (Cn := RM) (T := TM) (N := 17) C dM_goOver_91 (sx_in inM) rfl 15 (by decide) (sx_w C kF_M_122) (fun _ h => h) (MS_f0 hS1) rfl ?_
                    refine sx_eqi ((if nI (pu_c (bkS T (max W 6)) w) = x then nI w else lst1)) (by first | rw [if_pos c82] | rw [if_neg c82]) ?_
                    exact J94
                  · refine sx_iload C dM_goOver_85 rfl ?_
                    refine sx_goto (tgt := 94) C dM_goOver_87 (by decide) ?_
                    refine sx_eqi ((if nI (pu_c (bkS T (max W 6)) w) = x then nI w else lst1)) (by first | rw [if_pos c82] | rw [if_neg c82]) ?_
                    exact J94
                · have hmw : w % 2 ^ (fr + 1) ≤ w := Nat.mod_le _ _
                  have b51 : w % 2 ^ (fr + 1) = 0 := (ab_nI (b := 0) (by omega) (by decide)).mp c51
                  have hft := go_fit (f := fr) (by omega) (show w < 2 ^ W by omega) b51
                  refine sx_aload_n C dM_goOver_54 rfl rfl ?_
                  refine sx_iload_n C dM_goOver_55 rfl rfl ?_
                  refine sx_iload C dM_goOver_56 rfl ?_
                  refine sx_iconst (v := 1) C dM_goOver_58 (by decide) ?_
                  refine sx_iload C dM_goOver_59 rfl ?_
                  refine sx_ishl C dM_goOver_61 ?_
                  refine sx_eqi (nI (2 ^ fr)) (m_shl fr (by omega)) ?_
                  refine sx_iadd C dM_goOver_62 ?_
                  refine sx_eqi (nI (w + 2 ^ fr)) (nI_add _ _) ?_
                  refine sx_iconst (v := 1) C dM_goOver_63 (by decide) ?_
                  refine sx_iload C dM_goOver_64 rfl ?_
                  refine sx_ishl C dM_goOver_66 ?_
                  refine sx_eqi (nI (2 ^ fr)) (m_shl fr (by omega)) ?_
                  refine sx_calli C (sx_runV (As := [.int (nI e0), .int (nI (w + 2 ^ fr)), .int (nI (2 ^ fr))]) (rest := []) C sx_all (c_M_isWhole l D tc e0 (w + 2 ^ fr) (2 ^ fr) ad W u th kn lst1 sb1 mk cd lk fl vr wd cn li od μ1 hS1 T hW he hr9 hft) (ci := 3) rfl (MS_f0 hS1) (sx_cwV C 3 kM_M_119 ki_M_isWhole ke_M_isWhole kn_M kc_M_isWhole rfl rfl (by decide +kernel) ⟨Nat.le_of_ble_eq_true rfl, Nat.le_of_ble_eq_true rfl⟩) rfl rfl (Nat.le_of_ble_eq_true rfl) dM_goOver_67 ⟨Nat.le_of_ble_eq_true rfl, Nat.le_of_ble_eq_true rfl⟩) (fun q3 μ3 h3 => ?_)
                  obtain ⟨hm, h3⟩ := h3
                  subst hm
                  refine sx_eqi (b2i (!anB (fun t => !T (w + 2 ^ fr + t)) (2 ^ fr))) (h3) ?_
                  refine sx_if_eq (tgt := 79) C dM_goOver_70 (by decide) (fun c70 => ?_) (fun c70 => ?_)
                  · have b70 : ¬ ∀ t, t < 2 ^ fr → T (w + 2 ^ fr + t) = true := fun z => by
                      have z1 := b2i_z.mp c70
                      rw [wh_iff.mpr z] at z1
                      cases z1
                    have hlev : bk_lev T (max W 6) w fr := go_lev rfl hbd hf hf0 hf1 hz (Or.inr (fun z => b70 z.2))
                    have hin := go_in hz hf1
                    obtain ⟨hb2, hN⟩ := go_next b23 hbd hlev hf0
                    refine sx_aload_n C dM_goOver_79 rfl rfl ?_
                    have J94 : SW p l e (rmL 2 0 0) s m [.ref (ad 0), .int (nI e0), .int x].toArray below meth c 6 D sxCl A 0 0 Q μ1 94 [some (.ref (ad 0)), some (.int (nI e0)), some (.int x), some (.int (nI (pu_c (bkS T (max W 6)) w))), some (.int (nI w)), some (.int (nI fr))] [.int (if nI (pu_c (bkS T (max W 6)) w) = x then nI w else lst1), .ref (ad 0)] := by
                      refine sx_putf (Cn := RM) (T := TM) (N := 17) (ty := .int) (fs' := [.int th, .int (nI W), .int (nI (nRw W)), .int (alM W), .int (nI u), .ref (ad 1), .ref (ad 2), .ref (ad 3), .ref (ad 4), .ref (ad 5), .ref (ad 6), .int (b2i kn), .ref (ad 7), .ref (ad 8), .ref (ad 9), .int (if nI (pu_c (bkS T (max W 6)) w) = x then nI w else lst1), .int sb1]) C dM_goOver_94 (sx_in inM) tM tM_ok nM rfl 15 (by decide) (sx_w C kF_M_122) (fun _ h => h) rfl (by decide +kernel) rfl rfl (MS_f0 hS1) (by simp) rfl ?_
                      have hS2 : MS tc (sx_up μ1 (ad 0) (.inr (3, [.int th, .int (nI W), .int (nI (nRw W)), .int (alM W), .int (nI u), .ref (ad 1), .ref (ad 2), .ref (ad 3), .ref (ad 4), .ref (ad 5), .ref (ad 6), .int (b2i kn), .ref (ad 7), .ref (ad 8), .ref (ad 9), .int (if nI (pu_c (bkS T (max W 6)) w) = x then nI w else lst1), .int sb1]))) ad W u th kn (if nI (pu_c (bkS T (max W 6)) w) = x then nI w else lst1) sb1 mk cd lk fl vr wd cn li od := MS_lst hS1 _
                      refine sx_aload_n C dM_goOver_97 rfl rfl ?_
                      have J112 : SW p l e (rmL 2 0 0) s m [.ref (ad 0), .int (nI e0), .int x].toArray below meth c 6 D sxCl A 0 0 Q (sx_up μ1 (ad 0) (.inr (3, [.int th, .int (nI W), .int (nI (nRw W)), .int (alM W), .int (nI u), .ref (ad 1), .ref (ad 2), .ref (ad 3), .ref (ad 4), .ref (ad 5), .ref (ad 6), .int (b2i kn), .ref (ad 7), .ref (ad 8), .ref (ad 9), .int (if nI (pu_c (bkS T (max W 6)) w) = x then nI w else lst1), .int sb1]))) 112 [some (.ref (ad 0)), some (.int (nI e0)), some (.int x), some (.int (nI (pu_c (bkS T (max W 6)) w))), some (.int (nI w)), some (.int (nI fr))] [.int (if nI (pu_c (bkS T (max W 6)) w) = x then nI fr else sb1), .ref (ad 0)] := by
                        refine sx_putf (Cn := RM) (T := TM) (N := 17) (ty := .int) (fs' := [.int th, .int (nI W), .int (nI (nRw W)), .int (alM W), .int (nI u), .ref (ad 1), .ref (ad 2), .ref (ad 3), .ref (ad 4), .ref (ad 5), .ref (ad 6), .int (b2i kn), .ref (ad 7), .ref (ad 8), .ref (ad 9), .int (if nI (pu_c (bkS T (max W 6)) w) = x then nI w else lst1), .int (if nI (pu_c (bkS T (max W 6)) w) = x then nI fr else sb1)]) C dM_goOver_112 (sx_in inM) tM tM_ok nM rfl 16 (by decide) (sx_w C kF_M_125) (fun _ h => h) rfl (by decide +kernel) rfl rfl (MS_f0 hS2) (by simp) rfl ?_
                        have hS3 : MS tc (sx_up (sx_up μ1 (ad 0) (.inr (3, [.int th, .int (nI W), .int (nI (nRw W)), .int (alM W), .int (nI u), .ref (ad 1), .ref (ad 2), .ref (ad 3), .ref (ad 4), .ref (ad 5), .ref (ad 6), .int (b2i kn), .ref (ad 7), .ref (ad 8), .ref (ad 9), .int (if nI (pu_c (bkS T (max W 6)) w) = x then nI w else lst1), .int sb1]))) (ad 0) (.inr (3, [.int th, .int (nI W), .int (nI (nRw W)), .int (alM W), .int (nI u), .ref (ad 1), .ref (ad 2), .ref (ad 3), .ref (ad 4), .ref (ad 5), .ref (ad 6), .int (b2i kn), .ref (ad 7), .ref (ad 8), .ref (ad 9), .int (if nI (pu_c (bkS T (max W 6)) w) = x then nI w else lst1), .int (if nI (pu_c (bkS T (max W 6)) w) = x then nI fr else sb1)]))) ad W u th kn (if nI (pu_c (bkS T (max W 6)) w) = x then nI w else lst1) (if nI (pu_c (bkS T (max W 6)) w) = x then nI fr else sb1) mk cd lk fl vr wd cn li od := MS_sb hS2 _
                        refine sx_iinc (v := nI (pu_c (bkS T (max W 6)) (w + 2 ^ fr))) (lv' := [some (.ref (ad 0)), some (.int (nI e0)), some (.int x), some (.int (nI (pu_c (bkS T (max W 6)) (w + 2 ^ fr)))), some (.int (nI w)), some (.int (nI fr))]) C dM_goOver_115 rfl (by rw [hN]; exact nI_1 _) (by decide) rfl rfl ?_
                        refine sx_iload C dM_goOver_118 rfl ?_
                        refine sx_iconst (v := 1) C dM_goOver_120 (by decide) ?_
                        refine sx_iload C dM_goOver_121 rfl ?_
                        refine sx_ishl C dM_goOver_123 ?_
                        refine sx_eqi (nI (2 ^ fr)) (m_shl fr (by omega)) ?_
                        refine sx_iadd C dM_goOver_124 ?_
                        refine sx_eqi (nI (w + 2 ^ fr)) (nI_add _ _) ?_
                        refine sx_istore (lv' := [some (.ref (ad 0)), some (.int (nI e0)), some (.int x), some (.int (nI (pu_c (bkS T (max W 6)) (w + 2 ^ fr)))), some (.int (nI (w + 2 ^ fr))), some (.int (nI fr))]) C dM_goOver_125 (by decide) rfl rfl ?_
                        refine sx_weak (lv' := [some (.ref (ad 0)), some (.int (nI e0)), some (.int x), some (.int (nI (pu_c (bkS T (max W 6)) (w + 2 ^ fr)))), some (.int (nI (w + 2 ^ fr))), none]) (And.intro rfl (And.intro rfl (And.intro rfl (And.intro rfl (And.intro rfl trivial))))) ?_
                        refine sx_goto (tgt := 5) C dM_goOver_127 (by decide) ?_
                        exact ih (w + 2 ^ fr) _ _ _ (by have := Nat.two_pow_pos fr; omega) hin hS3 hb2 (goP_y (by omega) (go_yes b23 hbd) hlev hN hg)
                      refine sx_iload_n C dM_goOver_98 rfl rfl ?_
                      refine sx_iload_n C dM_goOver_99 rfl rfl ?_
                      refine sx_icmp_ne (tgt := 108) C dM_goOver_100 (by decide) (fun c100 => ?_) (fun c100 => ?_)
                      · refine sx_aload_n C dM_goOver_108 rfl rfl ?_
                        refine sx_getf (Cn := RM) (T := TM) (N := 17) C dM_goOver_109 (sx_in inM) rfl 16 (by decide) (sx_w C kF_M_125) (fun _ h => h) (MS_f0 hS2) rfl ?_
                        refine sx_eqi ((if nI (pu_c (bkS T (max W 6)) w) = x then nI fr else sb1)) (by first | rw [if_pos c100] | rw [if_neg c100]) ?_
                        exact J112
                      · refine sx_iload C dM_goOver_103 rfl ?_
                        refine sx_goto (tgt := 112) C dM_goOver_105 (by decide) ?_
                        refine sx_eqi ((if nI (pu_c (bkS T (max W 6)) w) = x then nI fr else sb1)) (by first | rw [if_pos c100] | rw [if_neg c100]) ?_
                        exact J112
                    refine sx_iload_n C dM_goOver_80 rfl rfl ?_
                    refine sx_iload_n C dM_goOver_81 rfl rfl ?_
                    refine sx_icmp_ne (tgt := 90) C dM_goOver_82 (by decide) (fun c82 => ?_) (fun c82 => ?_)
                    · refine sx_aload_n C dM_goOver_90 rfl rfl ?_
                      refine sx_getf (Cn := RM) (T := TM) (N := 17) C dM_goOver_91 (sx_in inM) rfl 15 (by decide) (sx_w C kF_M_122) (fun _ h => h) (MS_f0 hS1) rfl ?_
                      refine sx_eqi ((if nI (pu_c (bkS T (max W 6)) w) = x then nI w else lst1)) (by first | rw [if_pos c82] | rw [if_neg c82]) ?_
                      exact J94
                    · refine sx_iload C dM_goOver_85 rfl ?_
                      refine sx_goto (tgt := 94) C dM_goOver_87 (by decide) ?_
                      refine sx_eqi ((if nI (pu_c (bkS T (max W 6)) w) = x then nI w else lst1)) (by first | rw [if_pos c82] | rw [if_neg c82]) ?_
                      exact J94
                  · refine sx_iinc (v := nI (fr + 1)) (lv' := [some (.ref (ad 0)), some (.int (nI e0)), some (.int x), some (.int (nI (pu_c (bkS T (max W 6)) w))), some (.int (nI w)), some (.int (nI (fr + 1)))]) C dM_goOver_73 rfl (nI_1 fr) (by decide) rfl rfl ?_
                    refine sx_goto (tgt := 35) C dM_goOver_76 (by decide) ?_
                    exact ih2 (fr + 1) (by omega) (by omega) b51 (fun t ht => by
                      rcases Nat.lt_or_ge t (2 ^ fr) with z | z
                      · exact hf1 t z
                      · have z2 := wh_iff.mp (b2i_ne.mp c70) (t - 2 ^ fr) (by rw [Nat.pow_succ] at ht; omega)
                        rw [show w + 2 ^ fr + (t - 2 ^ fr) = w + t by omega] at z2
                        exact z2)
          exact L35 _ 0 (Nat.lt_succ_self _) (Nat.zero_le _) (by rw [Nat.pow_zero]; exact Nat.mod_one _) (fun t ht => by rw [show t = 0 by simpa using ht]; exact b23)
        · have b23 := b2i_z.mp c23
          have hno := go_no b23 hbd
          refine sx_iinc (v := nI (w + 1)) (lv' := [some (.ref (ad 0)), some (.int (nI e0)), some (.int x), some (.int (nI (pu_c (bkS T (max W 6)) w))), some (.int (nI (w + 1))), none]) C dM_goOver_26 rfl (nI_1 w) (by decide) rfl rfl ?_
          refine sx_goto (tgt := 5) C dM_goOver_29 (by decide) ?_
          have z := ih (w + 1) μ1 lst1 sb1 (by omega) (by omega) hS1 hno.1 (goP_no b23 hg)
          rw [hno.2] at z
          exact z
  exact L5 _ 0 μ lst sb (Nat.lt_succ_self _) (Nat.zero_le _) hS (fun m _ _ => Nat.zero_mod _) (fun j v _ _ hv => absurd hv (Nat.not_lt_zero _))

set_option maxHeartbeats 4000000 in
set_option maxRecDepth 100000 in
/-- rowOf -/
theorem c_M_rowOf (l : Launch) (D : va_G) (tc : Nat → ClassId) (x : Int32) (ad : Nat → Nat) (W : Nat) (u : Nat) (th : Int32) (kn : Bool) (lst : Int32) (sb : Int32) (mk : Nat → Int32) (cd : Nat → Int32) (lk : Nat → Int32) (fl : Nat → Int32) (vr : Nat → Int32) (wd : Nat → Int32) (cn : Nat → Int32) (li : Nat → Int32) (od : Nat → Int32) (μ : sx_M) (hS : MS tc μ ad W u th kn lst sb mk cd lk fl vr wd cn li od) (S : Nat → Nat → Bool) (ed : Nat → Nat → Nat) (hA : AW W u S ed) (hP : MP W u S ed kn mk cd lk fl vr wd cn li) (hx : x = -1 ∨ ∃ j, j < u ∧ x = nI j) : sx_Mi l yM_rowOf (Cond.code yM_rowOf cM_rowOf 2 (some .int) :: sxW) (rmL 1 0 0) D sxCl (sxT tc) sxE [.ref (ad 0), .int x] μ (fun r μ' => ∃ wd1 e0 T, r = nI e0 ∧ e0 ≤ 40 ∧ MS tc μ' ad W u th kn lst sb mk cd lk fl vr wd1 cn li od ∧ MP W u S ed kn mk cd lk fl vr wd1 cn li ∧ rowM wd1 (nRw W) e0 = T ∧ selT W u S x T) 0 0 := by
  have hW := hA.1.2
  have hu := hA.2.1
  refine sx_ofiQ (cc := cM_rowOf) (maxL := 2) (ret := (some .int)) (own := RM) sxE_ok (by decide) rfl rfl (Nat.le_of_ble_eq_true rfl) [some (.ref (ad 0)), some (.int x)] 0 rfl (fun p e s m below meth c A Q hQ C hr hlocks hnm => ?_)
  refine sx_iload_n C dM_rowOf_0 rfl rfl ?_
  refine sx_iconst (v := -1) C dM_rowOf_1 (by decide) ?_
  refine sx_icmp_ne (tgt := 12) C dM_rowOf_2 (by decide) (fun c2 => ?_) (fun c2 => ?_)
  · obtain ⟨j, hj, hxj⟩ := hx.resolve_left c2
    refine sx_iload_n C dM_rowOf_12 rfl rfl ?_
    exact sx_iretQ C hQ dM_rowOf_13 hr hlocks (Nat.le_of_ble_eq_true rfl) (Nat.le_of_ble_eq_true rfl) (⟨wd, j, _, hxj, by omega, hS, hP, hP.2.1 j hj, Or.inr ⟨j, hj, hxj, rfl⟩⟩)
  · refine sx_aload_n C dM_rowOf_5 rfl rfl ?_
    refine sx_callv C (sx_runV (As := []) (rest := []) C sx_all (c_M_lack l D tc ad W u th kn lst sb mk cd lk fl vr wd cn li od μ hS S ed hA hP) (ci := 3) rfl (MS_f0 hS) (sx_cwV C 0 kM_M_116 ki_M_lack ke_M_lack kn_M kc_M_lack rfl rfl (by decide +kernel) ⟨Nat.le_of_ble_eq_true rfl, Nat.le_of_ble_eq_true rfl⟩) rfl rfl (Nat.le_of_ble_eq_true rfl) dM_rowOf_6 ⟨Nat.le_of_ble_eq_true rfl, Nat.le_of_ble_eq_true rfl⟩) (fun μ2 h2 => ?_)
    obtain ⟨wd1, hS2, hP2, hg⟩ := h2
    refine sx_bipush (v := 40) C dM_rowOf_9 (by decide) ?_
    exact sx_iretQ C hQ dM_rowOf_11 hr hlocks (Nat.le_of_ble_eq_true rfl) (Nat.le_of_ble_eq_true rfl) (⟨wd1, 40, _, rfl, by omega, hS2, hP2, hg, Or.inl ⟨c2, rfl⟩⟩)

theorem nb_t {u : Nat} {x : Int32} (hu : u ≤ 40) (h : (!(decide (x = -1) || isB u x)) = true) : x ≠ -1 ∧ ∀ j, j < u → x ≠ nI j := by
  have h1 := th_n h
  rw [Bool.or_eq_false_iff] at h1
  exact ⟨of_decide_eq_false h1.1, (isB_ff hu).mp h1.2⟩
theorem nb_f {u : Nat} {x : Int32} (hu : u ≤ 40) (h : (!(decide (x = -1) || isB u x)) = false) : x = -1 ∨ ∃ j, j < u ∧ x = nI j := by
  have h1 := th_f h
  rw [Bool.or_eq_true] at h1
  rcases h1 with h1 | h1
  · exact Or.inl (of_decide_eq_true h1)
  · exact Or.inr ((isB_iff hu).mp h1)
theorem zB_iff2 {z : Int32} : inB z 0 1 = true ↔ z = 0 ∨ z = 1 := by
  rw [inB_le (hi := 1) (n := 1) rfl (by omega)]
  constructor
  · rintro ⟨j, hj, rfl⟩
    rcases (show j = 0 ∨ j = 1 by omega) with rfl | rfl
    · exact Or.inl rfl
    · exact Or.inr rfl
  · rintro (rfl | rfl)
    · exact ⟨0, by omega, rfl⟩
    · exact ⟨1, by omega, rfl⟩

set_option maxHeartbeats 4000000 in
set_option maxRecDepth 100000 in
/-- blocks -/
theorem c_M_blocks (l : Launch) (D : va_G) (tc : Nat → ClassId) (x : Int32) (ad : Nat → Nat) (W : Nat) (u : Nat) (th : Int32) (kn : Bool) (lst : Int32) (sb : Int32) (mk : Nat → Int32) (cd : Nat → Int32) (lk : Nat → Int32) (fl : Nat → Int32) (vr : Nat → Int32) (wd : Nat → Int32) (cn : Nat → Int32) (li : Nat → Int32) (od : Nat → Int32) (μ : sx_M) (hS : MS tc μ ad W u th kn lst sb mk cd lk fl vr wd cn li od) (S : Nat → Nat → Bool) (ed : Nat → Nat → Nat) (hA : AW W u S ed) (hP : MP W u S ed kn mk cd lk fl vr wd cn li) : sx_Mi l yM_blocks (Cond.code yM_blocks cM_blocks 2 (some .int) :: sxW) (rmL 3 0 0) D sxCl (sxT tc) sxE [.ref (ad 0), .int x] μ (fun r μ' => ∃ k, R_bks W u S x k r ∧ MInv tc μ' (ad 0) W u S ed k) 0 0 := by
  have hW := hA.1.2
  have hu := hA.2.1
  refine sx_ofiQ (cc := cM_blocks) (maxL := 2) (ret := (some .int)) (own := RM) sxE_ok (by decide) rfl rfl (Nat.le_of_ble_eq_true rfl) [some (.ref (ad 0)), some (.int x)] 0 rfl (fun p e s m below meth c A Q hQ C hr hlocks hnm => ?_)
  refine sx_aload_n C dM_blocks_0 rfl rfl ?_
  have J19 : SW p l e (rmL 3 0 0) s m [.ref (ad 0), .int x].toArray below meth c 2 D sxCl A 0 0 Q μ 19 [some (.ref (ad 0)), some (.int x)] [.int (b2i (!(decide (x = -1) || isB u x))), .ref (ad 0)] := by
    refine sx_iconst (v := 0) C dM_blocks_19 (by decide) ?_
    refine sx_iconst (v := 0) C dM_blocks_20 (by decide) ?_
    refine sx_calli C (sx_runV (As := [.int (b2i (!(decide (x = -1) || isB u x))), .int 0, .int 0]) (rest := []) C sx_all (c_M_fails l D tc (!(decide (x = -1) || isB u x)) false false ad W u th kn lst sb mk cd lk fl vr wd cn li od μ hS) (ci := 3) rfl (MS_f0 hS) (sx_cwV C 3 kM_M_69 ki_M_fails ke_M_fails kn_M kc_M_fails rfl rfl (by decide +kernel) ⟨Nat.le_of_ble_eq_true rfl, Nat.le_of_ble_eq_true rfl⟩) rfl rfl (Nat.le_of_ble_eq_true rfl) dM_blocks_21 ⟨Nat.le_of_ble_eq_true rfl, Nat.le_of_ble_eq_true rfl⟩) (fun q9 μ9 h9 => ?_)
    obtain ⟨h9, hT9⟩ := h9
    refine sx_eqi (b2i ((!(decide (x = -1) || isB u x)) || false || false)) (h9) ?_
    refine sx_if_eq (tgt := 31) C dM_blocks_24 (by decide) (fun c24 => ?_) (fun c24 => ?_)
    · obtain ⟨t0, t1, t2, t3⟩ := th_0 (b2i_z.mp c24)
      rw [t0] at hT9
      have hxs := nb_f hu t1
      refine sx_aload_n C dM_blocks_31 rfl rfl ?_
      refine sx_aload_n C dM_blocks_32 rfl rfl ?_
      refine sx_iload_n C dM_blocks_33 rfl rfl ?_
      refine sx_calli C (sx_runV (As := [.int x]) (rest := [.ref (ad 0)]) C sx_all (c_M_rowOf l D tc x ad W u 0 kn lst sb mk cd lk fl vr wd cn li od μ9 hT9 S ed hA hP hxs) (ci := 3) rfl (MS_f0 hT9) (sx_cwV C 1 kM_M_128 ki_M_rowOf ke_M_rowOf kn_M kc_M_rowOf rfl rfl (by decide +kernel) ⟨Nat.le_of_ble_eq_true rfl, Nat.le_of_ble_eq_true rfl⟩) rfl rfl (Nat.le_of_ble_eq_true rfl) dM_blocks_34 ⟨Nat.le_of_ble_eq_true rfl, Nat.le_of_ble_eq_true rfl⟩) (fun q2 μ2 h2 => ?_)
      obtain ⟨wd1, e0, T, h2, he, hS2, hP2, hr9, hsel⟩ := h2
      refine sx_eqi (nI e0) (h2) ?_
      refine sx_iconst (v := -1) C dM_blocks_37 (by decide) ?_
      refine sx_calli C (sx_runV (As := [.int (nI e0), .int (-1)]) (rest := []) C sx_all (c_M_goOver l D tc e0 (-1) ad W u 0 kn lst sb mk cd lk fl vr wd1 cn li od μ2 hS2 T hW he hr9 (sel_z hA hsel)) (ci := 3) rfl (MS_f0 hS2) (sx_cwV C 2 kM_M_131 ki_M_goOver ke_M_goOver kn_M kc_M_goOver rfl rfl (by decide +kernel) ⟨Nat.le_of_ble_eq_true rfl, Nat.le_of_ble_eq_true rfl⟩) rfl rfl (Nat.le_of_ble_eq_true rfl) dM_blocks_38 ⟨Nat.le_of_ble_eq_true rfl, Nat.le_of_ble_eq_true rfl⟩) (fun q3 μ3 h3 => ?_)
      obtain ⟨h3, lst1, sb1, hS3, -⟩ := h3
      exact sx_iretQ C hQ dM_blocks_41 hr hlocks (Nat.le_of_ble_eq_true rfl) (Nat.le_of_ble_eq_true rfl) (⟨0, Or.inl ⟨rfl, T, hsel, h3⟩, MInv_of hA hS3 hP2⟩)
    · obtain ⟨z2, z1⟩ := th_1 (b2i_ne.mp c24)
      refine sx_iconst (v := 0) C dM_blocks_27 (by decide) ?_
      refine sx_goto (tgt := 41) C dM_blocks_28 (by decide) ?_
      exact sx_iretQ C hQ dM_blocks_41 hr hlocks (Nat.le_of_ble_eq_true rfl) (Nat.le_of_ble_eq_true rfl) (⟨_, Or.inr ⟨z2, nb_t hu z1⟩, MInv_of hA hT9 hP⟩)
  refine sx_iload_n C dM_blocks_1 rfl rfl ?_
  refine sx_iconst (v := -1) C dM_blocks_2 (by decide) ?_
  refine sx_icmp_eq (tgt := 18) C dM_blocks_3 (by decide) (fun c3 => ?_) (fun c3 => ?_)
  · refine sx_iconst (v := 0) C dM_blocks_18 (by decide) ?_
    refine sx_eqi ((b2i (!(decide (x = -1) || isB u x)))) (by first | (rw [decide_eq_true c3]; rfl) | (rw [decide_eq_false c3, b2i_ne.mp c11]; rfl) | (rw [decide_eq_false c3, b2i_z.mp c11]; rfl)) ?_
    exact J19
  · refine sx_aload_n C dM_blocks_6 rfl rfl ?_
    refine sx_iload_n C dM_blocks_7 rfl rfl ?_
    refine sx_calli C (sx_runV (As := [.int x]) (rest := [.ref (ad 0)]) C sx_all (c_M_is l D tc x ad W u th kn lst sb mk cd lk fl vr wd cn li od μ hS) (ci := 3) rfl (MS_f0 hS) (sx_cwV C 1 kM_M_82 ki_M_is ke_M_is kn_M kc_M_is rfl rfl (by decide +kernel) ⟨Nat.le_of_ble_eq_true rfl, Nat.le_of_ble_eq_true rfl⟩) rfl rfl (Nat.le_of_ble_eq_true rfl) dM_blocks_8 ⟨Nat.le_of_ble_eq_true rfl, Nat.le_of_ble_eq_true rfl⟩) (fun q1 μ1 h1 => ?_)
    obtain ⟨hm, h1⟩ := h1
    subst hm
    refine sx_eqi (b2i (isB u x)) (h1) ?_
    refine sx_if_ne (tgt := 18) C dM_blocks_11 (by decide) (fun c11 => ?_) (fun c11 => ?_)
    · refine sx_iconst (v := 0) C dM_blocks_18 (by decide) ?_
      refine sx_eqi ((b2i (!(decide (x = -1) || isB u x)))) (by first | (rw [decide_eq_true c3]; rfl) | (rw [decide_eq_false c3, b2i_ne.mp c11]; rfl) | (rw [decide_eq_false c3, b2i_z.mp c11]; rfl)) ?_
      exact J19
    · refine sx_iconst (v := 1) C dM_blocks_14 (by decide) ?_
      refine sx_goto (tgt := 19) C dM_blocks_15 (by decide) ?_
      refine sx_eqi ((b2i (!(decide (x = -1) || isB u x)))) (by first | (rw [decide_eq_true c3]; rfl) | (rw [decide_eq_false c3, b2i_ne.mp c11]; rfl) | (rw [decide_eq_false c3, b2i_z.mp c11]; rfl)) ?_
      exact J19

set_option maxHeartbeats 4000000 in
set_option maxRecDepth 100000 in
/-- block -/
theorem c_M_block (l : Launch) (D : va_G) (tc : Nat → ClassId) (x y z : Int32) (ad : Nat → Nat) (W : Nat) (u : Nat) (th : Int32) (kn : Bool) (lst : Int32) (sb : Int32) (mk : Nat → Int32) (cd : Nat → Int32) (lk : Nat → Int32) (fl : Nat → Int32) (vr : Nat → Int32) (wd : Nat → Int32) (cn : Nat → Int32) (li : Nat → Int32) (od : Nat → Int32) (μ : sx_M) (hS : MS tc μ ad W u th kn lst sb mk cd lk fl vr wd cn li od) (S : Nat → Nat → Bool) (ed : Nat → Nat → Nat) (hA : AW W u S ed) (hP : MP W u S ed kn mk cd lk fl vr wd cn li) : sx_Mi l yM_block (Cond.code yM_block cM_block 6 (some .int) :: sxW) (rmL 3 0 0) D sxCl (sxT tc) sxE [.ref (ad 0), .int x, .int y, .int z] μ (fun r μ' => ∃ k, R_blk W u S x y z k r ∧ MInv tc μ' (ad 0) W u S ed k) 0 0 := by
  have hW := hA.1.2
  have hu := hA.2.1
  have hpw := en_pw hW
  have hC := nCh_le hW
  refine sx_ofiQ (cc := cM_block) (maxL := 6) (ret := (some .int)) (own := RM) sxE_ok (by decide) rfl rfl (Nat.le_of_ble_eq_true rfl) [some (.ref (ad 0)), some (.int x), some (.int y), some (.int z), none, none] 2 rfl (fun p e s m below meth c A Q hQ C hr hlocks hnm => ?_)
  have J18 : SW p l e (rmL 3 0 0) s m [.ref (ad 0), .int x, .int y, .int z].toArray below meth c 6 D sxCl A 0 0 Q μ 18 [some (.ref (ad 0)), some (.int x), some (.int y), some (.int z), none, none] [.int (b2i (!(decide (x = -1) || isB u x)))] := by
    refine sx_istore (lv' := [some (.ref (ad 0)), some (.int x), some (.int y), some (.int z), some (.int (b2i (!(decide (x = -1) || isB u x)))), none]) C dM_block_18 (by decide) rfl rfl ?_
    refine sx_iload C dM_block_20 rfl ?_
    refine sx_if_eq (tgt := 29) C dM_block_22 (by decide) (fun c22 => ?_) (fun c22 => ?_)
    · have b22 := b2i_z.mp c22
      have hxs := nb_f hu b22
      refine sx_aload_n C dM_block_29 rfl rfl ?_
      refine sx_aload_n C dM_block_30 rfl rfl ?_
      refine sx_iload_n C dM_block_31 rfl rfl ?_
      refine sx_calli C (sx_runV (As := [.int x]) (rest := [.ref (ad 0)]) C sx_all (c_M_rowOf l D tc x ad W u th kn lst sb mk cd lk fl vr wd cn li od μ hS S ed hA hP hxs) (ci := 3) rfl (MS_f0 hS) (sx_cwV C 1 kM_M_128 ki_M_rowOf ke_M_rowOf kn_M kc_M_rowOf rfl rfl (by decide +kernel) ⟨Nat.le_of_ble_eq_true rfl, Nat.le_of_ble_eq_true rfl⟩) rfl rfl (Nat.le_of_ble_eq_true rfl) dM_block_32 ⟨Nat.le_of_ble_eq_true rfl, Nat.le_of_ble_eq_true rfl⟩) (fun q2 μ2 h2 => ?_)
      obtain ⟨wd1, e0, T, h2, he, hS2, hP2, hr9, hsel⟩ := h2
      refine sx_eqi (nI e0) (h2) ?_
      refine sx_iload_n C dM_block_35 rfl rfl ?_
      refine sx_calli C (sx_runV (As := [.int (nI e0), .int y]) (rest := []) C sx_all (c_M_goOver l D tc e0 y ad W u th kn lst sb mk cd lk fl vr wd1 cn li od μ2 hS2 T hW he hr9 (sel_z hA hsel)) (ci := 3) rfl (MS_f0 hS2) (sx_cwV C 2 kM_M_131 ki_M_goOver ke_M_goOver kn_M kc_M_goOver rfl rfl (by decide +kernel) ⟨Nat.le_of_ble_eq_true rfl, Nat.le_of_ble_eq_true rfl⟩) rfl rfl (Nat.le_of_ble_eq_true rfl) dM_block_36 ⟨Nat.le_of_ble_eq_true rfl, Nat.le_of_ble_eq_true rfl⟩) (fun q3 μ3 h3 => ?_)
      obtain ⟨h3, lst1, sb1, hS3, hgo⟩ := h3
      have hNl := pu_c_le (bkS T (max W 6)) (64 * nCh W)
      have hN6 : (pu_c (bkS T (max W 6)) (64 * nCh W)) ≤ 65536 := by rw [go_end (sel_z hA hsel)]; exact Nat.le_trans (pu_c_le _ _) hpw
      refine sx_eqi (nI (pu_c (bkS T (max W 6)) (64 * nCh W))) (h3) ?_
      refine sx_istore (lv' := [some (.ref (ad 0)), some (.int x), some (.int y), some (.int z), some (.int (b2i (!(decide (x = -1) || isB u x)))), some (.int (nI (pu_c (bkS T (max W 6)) (64 * nCh W))))]) C dM_block_39 (by decide) rfl rfl ?_
      refine sx_aload_n C dM_block_41 rfl rfl ?_
      refine sx_iload C dM_block_42 rfl ?_
      have J70 : SW p l e (rmL 3 0 0) s m [.ref (ad 0), .int x, .int y, .int z].toArray below meth c 6 D sxCl A 0 0 Q μ3 70 [some (.ref (ad 0)), some (.int x), some (.int y), some (.int z), some (.int (b2i (!(decide (x = -1) || isB u x)))), some (.int (nI (pu_c (bkS T (max W 6)) (64 * nCh W))))] [.int (b2i (!(inB y 0 ((nI (pu_c (bkS T (max W 6)) (64 * nCh W))) - 1) && inB z 0 1))), .int (b2i (!(decide (x = -1) || isB u x))), .ref (ad 0)] := by
        refine sx_iconst (v := 0) C dM_block_70 (by decide) ?_
        refine sx_calli C (sx_runV (As := [.int (b2i (!(decide (x = -1) || isB u x))), .int (b2i (!(inB y 0 ((nI (pu_c (bkS T (max W 6)) (64 * nCh W))) - 1) && inB z 0 1))), .int 0]) (rest := []) C sx_all (c_M_fails l D tc (!(decide (x = -1) || isB u x)) (!(inB y 0 ((nI (pu_c (bkS T (max W 6)) (64 * nCh W))) - 1) && inB z 0 1)) false ad W u th kn lst1 sb1 mk cd lk fl vr wd1 cn li od μ3 hS3) (ci := 3) rfl (MS_f0 hS3) (sx_cwV C 3 kM_M_69 ki_M_fails ke_M_fails kn_M kc_M_fails rfl rfl (by decide +kernel) ⟨Nat.le_of_ble_eq_true rfl, Nat.le_of_ble_eq_true rfl⟩) rfl rfl (Nat.le_of_ble_eq_true rfl) dM_block_71 ⟨Nat.le_of_ble_eq_true rfl, Nat.le_of_ble_eq_true rfl⟩) (fun q9 μ9 h9 => ?_)
        obtain ⟨h9, hT9⟩ := h9
        refine sx_eqi (b2i ((!(decide (x = -1) || isB u x)) || (!(inB y 0 ((nI (pu_c (bkS T (max W 6)) (64 * nCh W))) - 1) && inB z 0 1)) || false)) (h9) ?_
        refine sx_if_eq (tgt := 79) C dM_block_74 (by decide) (fun c74 => ?_) (fun c74 => ?_)
        · obtain ⟨t0, t1, t2, t3⟩ := th_0 (b2i_z.mp c74)
          rw [t0] at hT9
          have hQ9 := Bool.and_eq_true_iff.mp (th_f t2)
          obtain ⟨j, hj, hyj⟩ := (inB_iff (by omega)).mp hQ9.1
          have hz1 := zB_iff2.mp hQ9.2
          obtain ⟨w, hw, hbw, hcw⟩ := pu_ex hj
          obtain ⟨hl1, q9, hl2, hl3⟩ := hgo j w hyj (by omega) hw hbw hcw
          refine sx_iload_n C dM_block_79 rfl rfl ?_
          refine sx_if_ne (tgt := 90) C dM_block_80 (by decide) (fun c80 => ?_) (fun c80 => ?_)
          · refine sx_aload_n C dM_block_90 rfl rfl ?_
            refine sx_getf (Cn := RM) (T := TM) (N := 17) C dM_block_91 (sx_in inM) rfl 16 (by decide) (sx_w C kF_M_125) (fun _ h => h) (MS_f0 hT9) rfl ?_
            exact sx_iretQ C hQ dM_block_94 hr hlocks (Nat.le_of_ble_eq_true rfl) (Nat.le_of_ble_eq_true rfl) (⟨0, Or.inl ⟨rfl, T, j, w, hsel, hyj, by omega, hw, hbw, hcw, Or.inr ⟨hz1.resolve_left c80, q9, hl2, hl3⟩⟩, MInv_of hA hT9 hP2⟩)
          · refine sx_aload_n C dM_block_83 rfl rfl ?_
            refine sx_getf (Cn := RM) (T := TM) (N := 17) C dM_block_84 (sx_in inM) rfl 15 (by decide) (sx_w C kF_M_122) (fun _ h => h) (MS_f0 hT9) rfl ?_
            refine sx_goto (tgt := 94) C dM_block_87 (by decide) ?_
            exact sx_iretQ C hQ dM_block_94 hr hlocks (Nat.le_of_ble_eq_true rfl) (Nat.le_of_ble_eq_true rfl) (⟨0, Or.inl ⟨rfl, T, j, w, hsel, hyj, by omega, hw, hbw, hcw, Or.inl ⟨c80, hl1⟩⟩, MInv_of hA hT9 hP2⟩)
        · have hR : R_blk W u S x y z (thI (!(decide (x = -1) || isB u x)) (!(inB y 0 ((nI (pu_c (bkS T (max W 6)) (64 * nCh W))) - 1) && inB z 0 1)) false) 0 := by
            rcases th_2 (b2i_ne.mp c74) with ⟨z1, z2⟩ | ⟨z1, z2, z3⟩
            · rw [b22] at z1; cases z1
            · refine Or.inr (Or.inr ⟨z3, T, hsel, fun j w hy hz hw hb e => ?_⟩)
              have h5 := pu_lt hw hb
              have z4 := th_n z2
              rw [(inB_iff (by omega)).mpr ⟨j, by omega, hy⟩, zB_iff2.mpr hz] at z4
              cases z4
          refine sx_iconst (v := 0) C dM_block_77 (by decide) ?_
          exact sx_iretQ C hQ dM_block_78 hr hlocks (Nat.le_of_ble_eq_true rfl) (Nat.le_of_ble_eq_true rfl) (⟨_, hR, MInv_of hA hT9 hP2⟩)
      refine sx_iload_n C dM_block_44 rfl rfl ?_
      refine sx_iconst (v := 0) C dM_block_45 (by decide) ?_
      refine sx_iload C dM_block_46 rfl ?_
      refine sx_iconst (v := 1) C dM_block_48 (by decide) ?_
      refine sx_isub C dM_block_49 ?_
      refine sx_calli C (sx_runS (As := [.int y, .int 0, .int ((nI (pu_c (bkS T (max W 6)) (64 * nCh W))) - 1)]) (rest := [.int (b2i (!(decide (x = -1) || isB u x))), .ref (ad 0)]) C sx_all (c_M_in l D tc y 0 ((nI (pu_c (bkS T (max W 6)) (64 * nCh W))) - 1) μ3) (sx_cwS C 3 kM_M_55 ks_M_in kn_M kc_M_in rfl rfl (by decide +kernel) ⟨Nat.le_of_ble_eq_true rfl, Nat.le_of_ble_eq_true rfl⟩) rfl rfl (Nat.le_of_ble_eq_true rfl) dM_block_50 ⟨Nat.le_of_ble_eq_true rfl, Nat.le_of_ble_eq_true rfl⟩) (fun q4 μ4 h4 => ?_)
      obtain ⟨hm, h4⟩ := h4
      subst hm
      refine sx_eqi (b2i (inB y 0 ((nI (pu_c (bkS T (max W 6)) (64 * nCh W))) - 1))) (h4) ?_
      refine sx_if_eq (tgt := 65) C dM_block_53 (by decide) (fun c53 => ?_) (fun c53 => ?_)
      · refine sx_iconst (v := 1) C dM_block_65 (by decide) ?_
        refine sx_goto (tgt := 70) C dM_block_66 (by decide) ?_
        refine sx_eqi ((b2i (!(inB y 0 ((nI (pu_c (bkS T (max W 6)) (64 * nCh W))) - 1) && inB z 0 1)))) (by first | (rw [b2i_z.mp c53]; rfl) | (rw [b2i_ne.mp c53, b2i_z.mp c62]; rfl) | (rw [b2i_ne.mp c53, b2i_ne.mp c62]; rfl)) ?_
        exact J70
      · refine sx_iload_n C dM_block_56 rfl rfl ?_
        refine sx_iconst (v := 0) C dM_block_57 (by decide) ?_
        refine sx_iconst (v := 1) C dM_block_58 (by decide) ?_
        refine sx_calli C (sx_runS (As := [.int z, .int 0, .int 1]) (rest := [.int (b2i (!(decide (x = -1) || isB u x))), .ref (ad 0)]) C sx_all (c_M_in l D tc z 0 1 μ3) (sx_cwS C 3 kM_M_55 ks_M_in kn_M kc_M_in rfl rfl (by decide +kernel) ⟨Nat.le_of_ble_eq_true rfl, Nat.le_of_ble_eq_true rfl⟩) rfl rfl (Nat.le_of_ble_eq_true rfl) dM_block_59 ⟨Nat.le_of_ble_eq_true rfl, Nat.le_of_ble_eq_true rfl⟩) (fun q5 μ5 h5 => ?_)
        obtain ⟨hm, h5⟩ := h5
        subst hm
        refine sx_eqi (b2i (inB z 0 1)) (h5) ?_
        refine sx_if_ne (tgt := 69) C dM_block_62 (by decide) (fun c62 => ?_) (fun c62 => ?_)
        · refine sx_iconst (v := 0) C dM_block_69 (by decide) ?_
          refine sx_eqi ((b2i (!(inB y 0 ((nI (pu_c (bkS T (max W 6)) (64 * nCh W))) - 1) && inB z 0 1)))) (by first | (rw [b2i_z.mp c53]; rfl) | (rw [b2i_ne.mp c53, b2i_z.mp c62]; rfl) | (rw [b2i_ne.mp c53, b2i_ne.mp c62]; rfl)) ?_
          exact J70
        · refine sx_iconst (v := 1) C dM_block_65 (by decide) ?_
          refine sx_goto (tgt := 70) C dM_block_66 (by decide) ?_
          refine sx_eqi ((b2i (!(inB y 0 ((nI (pu_c (bkS T (max W 6)) (64 * nCh W))) - 1) && inB z 0 1)))) (by first | (rw [b2i_z.mp c53]; rfl) | (rw [b2i_ne.mp c53, b2i_z.mp c62]; rfl) | (rw [b2i_ne.mp c53, b2i_ne.mp c62]; rfl)) ?_
          exact J70
    · have b22 := b2i_ne.mp c22
      refine sx_iconst (v := 0) C dM_block_25 (by decide) ?_
      refine sx_goto (tgt := 39) C dM_block_26 (by decide) ?_
      refine sx_istore (lv' := [some (.ref (ad 0)), some (.int x), some (.int y), some (.int z), some (.int (b2i (!(decide (x = -1) || isB u x)))), some (.int 0)]) C dM_block_39 (by decide) rfl rfl ?_
      refine sx_aload_n C dM_block_41 rfl rfl ?_
      refine sx_iload C dM_block_42 rfl ?_
      have J70 : SW p l e (rmL 3 0 0) s m [.ref (ad 0), .int x, .int y, .int z].toArray below meth c 6 D sxCl A 0 0 Q μ 70 [some (.ref (ad 0)), some (.int x), some (.int y), some (.int z), some (.int (b2i (!(decide (x = -1) || isB u x)))), some (.int 0)] [.int (b2i (!(inB y 0 (0 - 1) && inB z 0 1))), .int (b2i (!(decide (x = -1) || isB u x))), .ref (ad 0)] := by
        refine sx_iconst (v := 0) C dM_block_70 (by decide) ?_
        refine sx_calli C (sx_runV (As := [.int (b2i (!(decide (x = -1) || isB u x))), .int (b2i (!(inB y 0 (0 - 1) && inB z 0 1))), .int 0]) (rest := []) C sx_all (c_M_fails l D tc (!(decide (x = -1) || isB u x)) (!(inB y 0 (0 - 1) && inB z 0 1)) false ad W u th kn lst sb mk cd lk fl vr wd cn li od μ hS) (ci := 3) rfl (MS_f0 hS) (sx_cwV C 3 kM_M_69 ki_M_fails ke_M_fails kn_M kc_M_fails rfl rfl (by decide +kernel) ⟨Nat.le_of_ble_eq_true rfl, Nat.le_of_ble_eq_true rfl⟩) rfl rfl (Nat.le_of_ble_eq_true rfl) dM_block_71 ⟨Nat.le_of_ble_eq_true rfl, Nat.le_of_ble_eq_true rfl⟩) (fun q9 μ9 h9 => ?_)
        obtain ⟨h9, hT9⟩ := h9
        refine sx_eqi (b2i ((!(decide (x = -1) || isB u x)) || (!(inB y 0 (0 - 1) && inB z 0 1)) || false)) (h9) ?_
        refine sx_if_eq (tgt := 79) C dM_block_74 (by decide) (fun c74 => ?_) (fun c74 => ?_)
        · exact absurd (th_0 (b2i_z.mp c74)).2.1 (by rw [b22]; decide)
        · have hR : R_blk W u S x y z (thI (!(decide (x = -1) || isB u x)) (!(inB y 0 (0 - 1) && inB z 0 1)) false) 0 := Or.inr (Or.inl ⟨by rw [b22]; rfl, nb_t hu b22⟩)
          refine sx_iconst (v := 0) C dM_block_77 (by decide) ?_
          exact sx_iretQ C hQ dM_block_78 hr hlocks (Nat.le_of_ble_eq_true rfl) (Nat.le_of_ble_eq_true rfl) (⟨_, hR, MInv_of hA hT9 hP⟩)
      refine sx_iload_n C dM_block_44 rfl rfl ?_
      refine sx_iconst (v := 0) C dM_block_45 (by decide) ?_
      refine sx_iload C dM_block_46 rfl ?_
      refine sx_iconst (v := 1) C dM_block_48 (by decide) ?_
      refine sx_isub C dM_block_49 ?_
      refine sx_calli C (sx_runS (As := [.int y, .int 0, .int (0 - 1)]) (rest := [.int (b2i (!(decide (x = -1) || isB u x))), .ref (ad 0)]) C sx_all (c_M_in l D tc y 0 (0 - 1) μ) (sx_cwS C 3 kM_M_55 ks_M_in kn_M kc_M_in rfl rfl (by decide +kernel) ⟨Nat.le_of_ble_eq_true rfl, Nat.le_of_ble_eq_true rfl⟩) rfl rfl (Nat.le_of_ble_eq_true rfl) dM_block_50 ⟨Nat.le_of_ble_eq_true rfl, Nat.le_of_ble_eq_true rfl⟩) (fun q4 μ4 h4 => ?_)
      obtain ⟨hm, h4⟩ := h4
      subst hm
      refine sx_eqi (b2i (inB y 0 (0 - 1))) (h4) ?_
      refine sx_if_eq (tgt := 65) C dM_block_53 (by decide) (fun c53 => ?_) (fun c53 => ?_)
      · refine sx_iconst (v := 1) C dM_block_65 (by decide) ?_
        refine sx_goto (tgt := 70) C dM_block_66 (by decide) ?_
        refine sx_eqi ((b2i (!(inB y 0 (0 - 1) && inB z 0 1)))) (by first | (rw [b2i_z.mp c53]; rfl) | (rw [b2i_ne.mp c53, b2i_z.mp c62]; rfl) | (rw [b2i_ne.mp c53, b2i_ne.mp c62]; rfl)) ?_
        exact J70
      · refine sx_iload_n C dM_block_56 rfl rfl ?_
        refine sx_iconst (v := 0) C dM_block_57 (by decide) ?_
        refine sx_iconst (v := 1) C dM_block_58 (by decide) ?_
        refine sx_calli C (sx_runS (As := [.int z, .int 0, .int 1]) (rest := [.int (b2i (!(decide (x = -1) || isB u x))), .ref (ad 0)]) C sx_all (c_M_in l D tc z 0 1 μ) (sx_cwS C 3 kM_M_55 ks_M_in kn_M kc_M_in rfl rfl (by decide +kernel) ⟨Nat.le_of_ble_eq_true rfl, Nat.le_of_ble_eq_true rfl⟩) rfl rfl (Nat.le_of_ble_eq_true rfl) dM_block_59 ⟨Nat.le_of_ble_eq_true rfl, Nat.le_of_ble_eq_true rfl⟩) (fun q5 μ5 h5 => ?_)
        obtain ⟨hm, h5⟩ := h5
        subst hm
        refine sx_eqi (b2i (inB z 0 1)) (h5) ?_
        refine sx_if_ne (tgt := 69) C dM_block_62 (by decide) (fun c62 => ?_) (fun c62 => ?_)
        · refine sx_iconst (v := 0) C dM_block_69 (by decide) ?_
          refine sx_eqi ((b2i (!(inB y 0 (0 - 1) && inB z 0 1)))) (by first | (rw [b2i_z.mp c53]; rfl) | (rw [b2i_ne.mp c53, b2i_z.mp c62]; rfl) | (rw [b2i_ne.mp c53, b2i_ne.mp c62]; rfl)) ?_
          exact J70
        · refine sx_iconst (v := 1) C dM_block_65 (by decide) ?_
          refine sx_goto (tgt := 70) C dM_block_66 (by decide) ?_
          refine sx_eqi ((b2i (!(inB y 0 (0 - 1) && inB z 0 1)))) (by first | (rw [b2i_z.mp c53]; rfl) | (rw [b2i_ne.mp c53, b2i_z.mp c62]; rfl) | (rw [b2i_ne.mp c53, b2i_ne.mp c62]; rfl)) ?_
          exact J70
  refine sx_iload_n C dM_block_0 rfl rfl ?_
  refine sx_iconst (v := -1) C dM_block_1 (by decide) ?_
  refine sx_icmp_eq (tgt := 17) C dM_block_2 (by decide) (fun c2 => ?_) (fun c2 => ?_)
  · refine sx_iconst (v := 0) C dM_block_17 (by decide) ?_
    refine sx_eqi ((b2i (!(decide (x = -1) || isB u x)))) (by first | (rw [decide_eq_true c2]; rfl) | (rw [decide_eq_false c2, b2i_ne.mp c10]; rfl) | (rw [decide_eq_false c2, b2i_z.mp c10]; rfl)) ?_
    exact J18
  · refine sx_aload_n C dM_block_5 rfl rfl ?_
    refine sx_iload_n C dM_block_6 rfl rfl ?_
    refine sx_calli C (sx_runV (As := [.int x]) (rest := []) C sx_all (c_M_is l D tc x ad W u th kn lst sb mk cd lk fl vr wd cn li od μ hS) (ci := 3) rfl (MS_f0 hS) (sx_cwV C 1 kM_M_82 ki_M_is ke_M_is kn_M kc_M_is rfl rfl (by decide +kernel) ⟨Nat.le_of_ble_eq_true rfl, Nat.le_of_ble_eq_true rfl⟩) rfl rfl (Nat.le_of_ble_eq_true rfl) dM_block_7 ⟨Nat.le_of_ble_eq_true rfl, Nat.le_of_ble_eq_true rfl⟩) (fun q1 μ1 h1 => ?_)
    obtain ⟨hm, h1⟩ := h1
    subst hm
    refine sx_eqi (b2i (isB u x)) (h1) ?_
    refine sx_if_ne (tgt := 17) C dM_block_10 (by decide) (fun c10 => ?_) (fun c10 => ?_)
    · refine sx_iconst (v := 0) C dM_block_17 (by decide) ?_
      refine sx_eqi ((b2i (!(decide (x = -1) || isB u x)))) (by first | (rw [decide_eq_true c2]; rfl) | (rw [decide_eq_false c2, b2i_ne.mp c10]; rfl) | (rw [decide_eq_false c2, b2i_z.mp c10]; rfl)) ?_
      exact J18
    · refine sx_iconst (v := 1) C dM_block_13 (by decide) ?_
      refine sx_goto (tgt := 18) C dM_block_14 (by decide) ?_
      refine sx_eqi ((b2i (!(decide (x = -1) || isB u x)))) (by first | (rw [decide_eq_true c2]; rfl) | (rw [decide_eq_false c2, b2i_ne.mp c10]; rfl) | (rw [decide_eq_false c2, b2i_z.mp c10]; rfl)) ?_
      exact J18
