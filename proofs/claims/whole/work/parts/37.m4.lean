def idX (W u : Nat) (ed : Nat → Nat → Nat) (x : Int32) : Int32 := if isB u x = true then nI (idN W ed x.toNatClampNeg) else 0
theorem idX_in {W u i : Nat} {ed : Nat → Nat → Nat} {x : Int32} (h : isB u x = true) (hi : i < 2 ^ 31) (hx : x = nI i) : idX W u ed x = nI (idN W ed i) := by
  unfold idX
  rw [if_pos h, hx, nI_clamp hi]
theorem il_sub {B : Nat → Bool} {p j : Nat} (h : pu_c B (p + 1) ≤ j) : nI (j - pu_c B p) - b2i (B p) = nI (j - pu_c B (p + 1)) := by
  cases hb : B p
  · rw [pr_b0 hb]; exact Int32.sub_zero _
  · rw [pr_b1 hb] at h ⊢
    rw [show j - pu_c B p = (j - (pu_c B p + 1)) + 1 by omega]
    exact nI_pred _

set_option maxHeartbeats 4000000 in
set_option maxRecDepth 100000 in
/-- idle -/
theorem c_M_idle (l : Launch) (D : va_G) (tc : Nat → ClassId) (x y : Int32) (ad : Nat → Nat) (W : Nat) (u : Nat) (th : Int32) (kn : Bool) (lst : Int32) (sb : Int32) (mk : Nat → Int32) (cd : Nat → Int32) (lk : Nat → Int32) (fl : Nat → Int32) (vr : Nat → Int32) (wd : Nat → Int32) (cn : Nat → Int32) (li : Nat → Int32) (od : Nat → Int32) (μ : sx_M) (hS : MS tc μ ad W u th kn lst sb mk cd lk fl vr wd cn li od) (S : Nat → Nat → Bool) (ed : Nat → Nat → Nat) (hA : AW W u S ed) (hP : MP W u S ed kn mk cd lk fl vr wd cn li) : sx_Mi l yM_idle (Cond.code yM_idle cM_idle 6 (some .int) :: sxW) (rmL 2 0 0) D sxCl (sxT tc) sxE [.ref (ad 0), .int x, .int y] μ (fun r μ' => ∃ k, R_idl W u ed x y k r ∧ MInv tc μ' (ad 0) W u S ed k) 0 0 := by
  have hW := hA.1.2
  have hu := hA.2.1
  refine sx_ofiQ (cc := cM_idle) (maxL := 6) (ret := (some .int)) (own := RM) sxE_ok (by decide) rfl rfl (Nat.le_of_ble_eq_true rfl) [some (.ref (ad 0)), some (.int x), some (.int y), none, none, none] 3 rfl (fun p e s m below meth c A Q hQ C hr hlocks hnm => ?_)
  have J17 : SW p l e (rmL 2 0 0) s m [.ref (ad 0), .int x, .int y].toArray below meth c 6 D sxCl A 0 0 Q μ 17 [some (.ref (ad 0)), some (.int x), some (.int y), none, none, none] [.int (idX W u ed x)] := by
    refine sx_istore_n (lv' := [some (.ref (ad 0)), some (.int x), some (.int y), some (.int (idX W u ed x)), none, none]) C dM_idle_17 rfl (by decide) rfl rfl ?_
    refine sx_aload_n C dM_idle_18 rfl rfl ?_
    have J32 : SW p l e (rmL 2 0 0) s m [.ref (ad 0), .int x, .int y].toArray below meth c 6 D sxCl A 0 0 Q μ 32 [some (.ref (ad 0)), some (.int x), some (.int y), some (.int (idX W u ed x)), none, none] [.int (b2i (!isB u x)), .ref (ad 0)] := by
      have J59 : SW p l e (rmL 2 0 0) s m [.ref (ad 0), .int x, .int y].toArray below meth c 6 D sxCl A 0 0 Q μ 59 [some (.ref (ad 0)), some (.int x), some (.int y), some (.int (idX W u ed x)), none, none] [.int (b2i (isB u x && !inB y 0 (nI (pop32 (idX W u ed x)) - 1))), .int (b2i (!isB u x)), .ref (ad 0)] := by
        refine sx_iconst (v := 0) C dM_idle_59 (by decide) ?_
        refine sx_calli C (sx_runV (As := [.int (b2i (!isB u x)), .int (b2i (isB u x && !inB y 0 (nI (pop32 (idX W u ed x)) - 1))), .int 0]) (rest := []) C sx_all (c_M_fails l D tc (!isB u x) (isB u x && !inB y 0 (nI (pop32 (idX W u ed x)) - 1)) false ad W u th kn lst sb mk cd lk fl vr wd cn li od μ hS) (ci := 3) rfl (MS_f0 hS) (sx_cwV C 3 kM_M_69 ki_M_fails ke_M_fails kn_M kc_M_fails rfl rfl (by decide +kernel) ⟨Nat.le_of_ble_eq_true rfl, Nat.le_of_ble_eq_true rfl⟩) rfl rfl (Nat.le_of_ble_eq_true rfl) dM_idle_60 ⟨Nat.le_of_ble_eq_true rfl, Nat.le_of_ble_eq_true rfl⟩) (fun q9 μ9 h9 => ?_)
        obtain ⟨h9, hT9⟩ := h9
        refine sx_eqi (b2i ((!isB u x) || (isB u x && !inB y 0 (nI (pop32 (idX W u ed x)) - 1)) || false)) (h9) ?_
        refine sx_if_eq (tgt := 68) C dM_idle_63 (by decide) (fun c63 => ?_) (fun c63 => ?_)
        · obtain ⟨t0, t1, t2, t3⟩ := th_0 (b2i_z.mp c63)
          rw [t0] at hT9
          have tb := th_f t1
          obtain ⟨i, hi, hxi⟩ := (isB_iff hu).mp tb
          have hX := idX_in (W := W) (ed := ed) tb (by omega) hxi
          have hp32 := pop32_le (nI (idN W ed i))
          rw [tb, Bool.true_and, hX] at t2
          obtain ⟨j, hj, hyj⟩ := (inB_iff (by omega)).mp (th_f t2)
          refine sx_lvEq [some (.ref (ad 0)), some (.int x), some (.int (nI j)), some (.int (nI (idN W ed i))), none, none] (by rw [hX, hyj]) ?_
          refine sx_iload_n C dM_idle_68 rfl rfl ?_
          refine sx_eqi (nI (j - pu_c (bI (nI (idN W ed i))) 0)) (rfl) ?_
          refine sx_istore (lv' := [some (.ref (ad 0)), some (.int x), some (.int (nI j)), some (.int (nI (idN W ed i))), some (.int (nI (j - pu_c (bI (nI (idN W ed i))) 0))), none]) C dM_idle_69 (by decide) rfl rfl ?_
          refine sx_iconst (v := 0) C dM_idle_71 (by decide) ?_
          refine sx_eqi (nI 0) (rfl) ?_
          refine sx_istore (lv' := [some (.ref (ad 0)), some (.int x), some (.int (nI j)), some (.int (nI (idN W ed i))), some (.int (nI (j - pu_c (bI (nI (idN W ed i))) 0))), some (.int (nI 0))]) C dM_idle_72 (by decide) rfl rfl ?_
          have L74 : ∀ (fu : Nat) (p0 : Nat), 32 - p0 < fu → (pu_c (bI (nI (idN W ed i))) p0 ≤ j) → SW p l e (rmL 2 0 0) s m [.ref (ad 0), .int x, .int y].toArray below meth c 6 D sxCl A 0 0 Q μ9 74 [some (.ref (ad 0)), some (.int x), some (.int (nI j)), some (.int (nI (idN W ed i))), some (.int (nI (j - pu_c (bI (nI (idN W ed i))) p0))), some (.int (nI p0))] [] := by
            intro fu
            induction fu with
            | zero => intro _ h; exact absurd h (Nat.not_lt_zero _)
            | succ fu ih =>
              intro p0 hfu hp
              have hp2 : p0 < 32 := by
                rcases Nat.lt_or_ge p0 32 with z | z
                · exact z
                · have z1 := pu_mono (P := bI (nI (idN W ed i))) z
                  unfold pop32 at hj
                  omega
              refine sx_iload C dM_idle_74 rfl ?_
              refine sx_if_gt (tgt := 88) C dM_idle_76 (by decide) (fun c76 => ?_) (fun c76 => ?_)
              · have hb : pu_c (bI (nI (idN W ed i))) (p0 + 1) ≤ j := by
                  have z := (ab_0 (by omega)).mp c76
                  have z2 : pu_c (bI (nI (idN W ed i))) (p0 + 1) ≤ pu_c (bI (nI (idN W ed i))) p0 + 1 := by
                    show pu_c (bI (nI (idN W ed i))) p0 + (if bI (nI (idN W ed i)) p0 = true then 1 else 0) ≤ _
                    split <;> omega
                  omega
                refine sx_iload C dM_idle_88 rfl ?_
                refine sx_iload_n C dM_idle_90 rfl rfl ?_
                refine sx_iload C dM_idle_91 rfl ?_
                refine sx_ishr C dM_idle_93 ?_
                refine sx_iconst (v := 1) C dM_idle_94 (by decide) ?_
                refine sx_iand C dM_idle_95 ?_
                refine sx_eqi (b2i (bI (nI (idN W ed i)) p0)) (m_bit _ hp2) ?_
                refine sx_isub C dM_idle_96 ?_
                refine sx_eqi (nI (j - pu_c (bI (nI (idN W ed i))) (p0 + 1))) (il_sub hb) ?_
                refine sx_istore (lv' := [some (.ref (ad 0)), some (.int x), some (.int (nI j)), some (.int (nI (idN W ed i))), some (.int (nI (j - pu_c (bI (nI (idN W ed i))) (p0 + 1)))), some (.int (nI p0))]) C dM_idle_97 (by decide) rfl rfl ?_
                refine sx_iinc (v := nI (p0 + 1)) (lv' := [some (.ref (ad 0)), some (.int x), some (.int (nI j)), some (.int (nI (idN W ed i))), some (.int (nI (j - pu_c (bI (nI (idN W ed i))) (p0 + 1)))), some (.int (nI (p0 + 1)))]) C dM_idle_99 rfl (nI_1 p0) (by decide) rfl rfl ?_
                refine sx_goto (tgt := 74) C dM_idle_102 (by decide) ?_
                exact ih (p0 + 1) (by omega) hb
              · have hj2 : pu_c (bI (nI (idN W ed i))) p0 = j := by
                  have z : ¬ 0 < j - pu_c (bI (nI (idN W ed i))) p0 := fun z => c76 ((ab_0 (by omega)).mpr z)
                  omega
                refine sx_iload_n C dM_idle_79 rfl rfl ?_
                refine sx_iload C dM_idle_80 rfl ?_
                refine sx_ishr C dM_idle_82 ?_
                refine sx_iconst (v := 1) C dM_idle_83 (by decide) ?_
                refine sx_iand C dM_idle_84 ?_
                refine sx_eqi (b2i (bI (nI (idN W ed i)) p0)) (m_bit _ hp2) ?_
                refine sx_if_ne (tgt := 105) C dM_idle_85 (by decide) (fun c85 => ?_) (fun c85 => ?_)
                · have b85 := b2i_ne.mp c85
                  refine sx_iload C dM_idle_105 rfl ?_
                  exact sx_iretQ C hQ dM_idle_107 hr hlocks (Nat.le_of_ble_eq_true rfl) (Nat.le_of_ble_eq_true rfl) (⟨0, Or.inl ⟨rfl, i, j, p0, hi, hxi, hyj, hj, rfl, hp2, b85, hj2⟩, MInv_of hA hT9 hP⟩)
                · have hb : pu_c (bI (nI (idN W ed i))) (p0 + 1) ≤ j := by rw [pr_b0 (b2i_z.mp c85)]; exact hp
                  refine sx_iload C dM_idle_88 rfl ?_
                  refine sx_iload_n C dM_idle_90 rfl rfl ?_
                  refine sx_iload C dM_idle_91 rfl ?_
                  refine sx_ishr C dM_idle_93 ?_
                  refine sx_iconst (v := 1) C dM_idle_94 (by decide) ?_
                  refine sx_iand C dM_idle_95 ?_
                  refine sx_eqi (b2i (bI (nI (idN W ed i)) p0)) (m_bit _ hp2) ?_
                  refine sx_isub C dM_idle_96 ?_
                  refine sx_eqi (nI (j - pu_c (bI (nI (idN W ed i))) (p0 + 1))) (il_sub hb) ?_
                  refine sx_istore (lv' := [some (.ref (ad 0)), some (.int x), some (.int (nI j)), some (.int (nI (idN W ed i))), some (.int (nI (j - pu_c (bI (nI (idN W ed i))) (p0 + 1)))), some (.int (nI p0))]) C dM_idle_97 (by decide) rfl rfl ?_
                  refine sx_iinc (v := nI (p0 + 1)) (lv' := [some (.ref (ad 0)), some (.int x), some (.int (nI j)), some (.int (nI (idN W ed i))), some (.int (nI (j - pu_c (bI (nI (idN W ed i))) (p0 + 1)))), some (.int (nI (p0 + 1)))]) C dM_idle_99 rfl (nI_1 p0) (by decide) rfl rfl ?_
                  refine sx_goto (tgt := 74) C dM_idle_102 (by decide) ?_
                  exact ih (p0 + 1) (by omega) hb
          exact L74 _ 0 (Nat.lt_succ_self _) (Nat.zero_le _)
        · have hR : R_idl W u ed x y (thI (!isB u x) (isB u x && !inB y 0 (nI (pop32 (idX W u ed x)) - 1)) false) 0 := by
            rcases th_2 (b2i_ne.mp c63) with ⟨z1, z2⟩ | ⟨z1, z2, z3⟩
            · exact Or.inr (Or.inl ⟨z2, (isB_ff hu).mp (th_n z1)⟩)
            · have tb := th_f z1
              obtain ⟨i, hi, hxi⟩ := (isB_iff hu).mp tb
              have hX := idX_in (W := W) (ed := ed) tb (by omega) hxi
              have hp32 := pop32_le (nI (idN W ed i))
              refine Or.inr (Or.inr ⟨z3, i, hi, hxi, fun j hj e => ?_⟩)
              rw [hX, tb, Bool.true_and, (inB_iff (by omega)).mpr ⟨j, hj, e⟩] at z2
              cases z2
          refine sx_iconst (v := 0) C dM_idle_66 (by decide) ?_
          exact sx_iretQ C hQ dM_idle_67 hr hlocks (Nat.le_of_ble_eq_true rfl) (Nat.le_of_ble_eq_true rfl) (⟨_, hR, MInv_of hA hT9 hP⟩)
      refine sx_aload_n C dM_idle_32 rfl rfl ?_
      refine sx_iload_n C dM_idle_33 rfl rfl ?_
      refine sx_calli C (sx_runV (As := [.int x]) (rest := [.int (b2i (!isB u x)), .ref (ad 0)]) C sx_all (c_M_is l D tc x ad W u th kn lst sb mk cd lk fl vr wd cn li od μ hS) (ci := 3) rfl (MS_f0 hS) (sx_cwV C 1 kM_M_82 ki_M_is ke_M_is kn_M kc_M_is rfl rfl (by decide +kernel) ⟨Nat.le_of_ble_eq_true rfl, Nat.le_of_ble_eq_true rfl⟩) rfl rfl (Nat.le_of_ble_eq_true rfl) dM_idle_34 ⟨Nat.le_of_ble_eq_true rfl, Nat.le_of_ble_eq_true rfl⟩) (fun q4 μ4 h4 => ?_)
      obtain ⟨hm, h4⟩ := h4
      subst hm
      refine sx_eqi (b2i (isB u x)) (h4) ?_
      refine sx_if_eq (tgt := 58) C dM_idle_37 (by decide) (fun c37 => ?_) (fun c37 => ?_)
      · refine sx_iconst (v := 0) C dM_idle_58 (by decide) ?_
        refine sx_eqi ((b2i (isB u x && !inB y 0 (nI (pop32 (idX W u ed x)) - 1)))) (by first | (rw [b2i_z.mp c37]; rfl) | (rw [b2i_ne.mp c37, b2i_z.mp c51]; rfl) | (rw [b2i_ne.mp c37, b2i_ne.mp c51]; rfl)) ?_
        exact J59
      · refine sx_iload_n C dM_idle_40 rfl rfl ?_
        refine sx_iconst (v := 0) C dM_idle_41 (by decide) ?_
        refine sx_iload_n C dM_idle_42 rfl rfl ?_
        refine sx_calli C (sx_runS (As := [.int (idX W u ed x)]) (rest := [.int 0, .int y, .int (b2i (!isB u x)), .ref (ad 0)]) C sx_all (c_M_ones l D tc (idX W u ed x) μ) (sx_cwS C 1 kM_M_63 ks_M_ones kn_M kc_M_ones rfl rfl (by decide +kernel) ⟨Nat.le_of_ble_eq_true rfl, Nat.le_of_ble_eq_true rfl⟩) rfl rfl (Nat.le_of_ble_eq_true rfl) dM_idle_43 ⟨Nat.le_of_ble_eq_true rfl, Nat.le_of_ble_eq_true rfl⟩) (fun q5 μ5 h5 => ?_)
        obtain ⟨hm, h5⟩ := h5
        subst hm
        refine sx_eqi (nI (pop32 (idX W u ed x))) (h5) ?_
        refine sx_iconst (v := 1) C dM_idle_46 (by decide) ?_
        refine sx_isub C dM_idle_47 ?_
        refine sx_calli C (sx_runS (As := [.int y, .int 0, .int ((nI (pop32 (idX W u ed x))) - 1)]) (rest := [.int (b2i (!isB u x)), .ref (ad 0)]) C sx_all (c_M_in l D tc y 0 (nI (pop32 (idX W u ed x)) - 1) μ) (sx_cwS C 3 kM_M_55 ks_M_in kn_M kc_M_in rfl rfl (by decide +kernel) ⟨Nat.le_of_ble_eq_true rfl, Nat.le_of_ble_eq_true rfl⟩) rfl rfl (Nat.le_of_ble_eq_true rfl) dM_idle_48 ⟨Nat.le_of_ble_eq_true rfl, Nat.le_of_ble_eq_true rfl⟩) (fun q6 μ6 h6 => ?_)
        obtain ⟨hm, h6⟩ := h6
        subst hm
        refine sx_eqi (b2i (inB y 0 (nI (pop32 (idX W u ed x)) - 1))) (h6) ?_
        refine sx_if_ne (tgt := 58) C dM_idle_51 (by decide) (fun c51 => ?_) (fun c51 => ?_)
        · refine sx_iconst (v := 0) C dM_idle_58 (by decide) ?_
          refine sx_eqi ((b2i (isB u x && !inB y 0 (nI (pop32 (idX W u ed x)) - 1)))) (by first | (rw [b2i_z.mp c37]; rfl) | (rw [b2i_ne.mp c37, b2i_z.mp c51]; rfl) | (rw [b2i_ne.mp c37, b2i_ne.mp c51]; rfl)) ?_
          exact J59
        · refine sx_iconst (v := 1) C dM_idle_54 (by decide) ?_
          refine sx_goto (tgt := 59) C dM_idle_55 (by decide) ?_
          refine sx_eqi ((b2i (isB u x && !inB y 0 (nI (pop32 (idX W u ed x)) - 1)))) (by first | (rw [b2i_z.mp c37]; rfl) | (rw [b2i_ne.mp c37, b2i_z.mp c51]; rfl) | (rw [b2i_ne.mp c37, b2i_ne.mp c51]; rfl)) ?_
          exact J59
    refine sx_aload_n C dM_idle_19 rfl rfl ?_
    refine sx_iload_n C dM_idle_20 rfl rfl ?_
    refine sx_calli C (sx_runV (As := [.int x]) (rest := [.ref (ad 0)]) C sx_all (c_M_is l D tc x ad W u th kn lst sb mk cd lk fl vr wd cn li od μ hS) (ci := 3) rfl (MS_f0 hS) (sx_cwV C 1 kM_M_82 ki_M_is ke_M_is kn_M kc_M_is rfl rfl (by decide +kernel) ⟨Nat.le_of_ble_eq_true rfl, Nat.le_of_ble_eq_true rfl⟩) rfl rfl (Nat.le_of_ble_eq_true rfl) dM_idle_21 ⟨Nat.le_of_ble_eq_true rfl, Nat.le_of_ble_eq_true rfl⟩) (fun q3 μ3 h3 => ?_)
    obtain ⟨hm, h3⟩ := h3
    subst hm
    refine sx_eqi (b2i (isB u x)) (h3) ?_
    refine sx_if_ne (tgt := 31) C dM_idle_24 (by decide) (fun c24 => ?_) (fun c24 => ?_)
    · refine sx_iconst (v := 0) C dM_idle_31 (by decide) ?_
      refine sx_eqi ((b2i (!isB u x))) (by first | (rw [b2i_z.mp c24]; rfl) | (rw [b2i_ne.mp c24]; rfl)) ?_
      exact J32
    · refine sx_iconst (v := 1) C dM_idle_27 (by decide) ?_
      refine sx_goto (tgt := 32) C dM_idle_28 (by decide) ?_
      refine sx_eqi ((b2i (!isB u x))) (by first | (rw [b2i_z.mp c24]; rfl) | (rw [b2i_ne.mp c24]; rfl)) ?_
      exact J32
  refine sx_aload_n C dM_idle_0 rfl rfl ?_
  refine sx_iload_n C dM_idle_1 rfl rfl ?_
  refine sx_calli C (sx_runV (As := [.int x]) (rest := []) C sx_all (c_M_is l D tc x ad W u th kn lst sb mk cd lk fl vr wd cn li od μ hS) (ci := 3) rfl (MS_f0 hS) (sx_cwV C 1 kM_M_82 ki_M_is ke_M_is kn_M kc_M_is rfl rfl (by decide +kernel) ⟨Nat.le_of_ble_eq_true rfl, Nat.le_of_ble_eq_true rfl⟩) rfl rfl (Nat.le_of_ble_eq_true rfl) dM_idle_2 ⟨Nat.le_of_ble_eq_true rfl, Nat.le_of_ble_eq_true rfl⟩) (fun q1 μ1 h1 => ?_)
  obtain ⟨hm, h1⟩ := h1
  subst hm
  refine sx_eqi (b2i (isB u x)) (h1) ?_
  refine sx_if_eq (tgt := 16) C dM_idle_5 (by decide) (fun c5 => ?_) (fun c5 => ?_)
  · have b5 := b2i_z.mp c5
    refine sx_iconst (v := 0) C dM_idle_16 (by decide) ?_
    refine sx_eqi ((idX W u ed x)) (by first | (unfold idX; rw [if_neg (by rw [b5]; decide)]) | (exact (idX_in b5 (by omega) hxi).symm)) ?_
    exact J17
  · have b5 := b2i_ne.mp c5
    obtain ⟨i, hi, hxi⟩ := (isB_iff hu).mp b5
    refine sx_aload_n C dM_idle_8 rfl rfl ?_
    refine sx_iload_n C dM_idle_9 rfl rfl ?_
    refine sx_eqi (nI i) (hxi) ?_
    refine sx_calli C (sx_runV (As := [.int (nI i)]) (rest := []) C sx_all (c_M_idleBits l D tc i ad W u th kn lst sb mk cd lk fl vr wd cn li od μ hS S ed hA hP hi) (ci := 3) rfl (MS_f0 hS) (sx_cwV C 1 kM_M_109 ki_M_idleBits ke_M_idleBits kn_M kc_M_idleBits rfl rfl (by decide +kernel) ⟨Nat.le_of_ble_eq_true rfl, Nat.le_of_ble_eq_true rfl⟩) rfl rfl (Nat.le_of_ble_eq_true rfl) dM_idle_10 ⟨Nat.le_of_ble_eq_true rfl, Nat.le_of_ble_eq_true rfl⟩) (fun q2 μ2 h2 => ?_)
    obtain ⟨hm, h2⟩ := h2
    subst hm
    refine sx_eqi (nI (idN W ed i)) (h2) ?_
    refine sx_goto (tgt := 17) C dM_idle_13 (by decide) ?_
    refine sx_eqi ((idX W u ed x)) (by first | (unfold idX; rw [if_neg (by rw [b5]; decide)]) | (exact (idX_in b5 (by omega) hxi).symm)) ?_
    exact J17

def dlQ (W : Nat) (S : Nat → Nat → Bool) (w i : Nat) : Nat → Bool := fun k => S k w && !lsB W S i k
theorem an_mono {q : Nat → Bool} {m n : Nat} (h : m ≤ n) (hq : anB q m = true) : anB q n = true := by
  obtain ⟨i, h1, h2⟩ := anB_iff.mp hq
  exact anB_iff.mpr ⟨i, by omega, h2⟩
theorem dl_iff {W u w i : Nat} {S : Nat → Nat → Bool} : (S i w && !anB (dlQ W S w i) u) = true ↔ dcB W u S w i := by
  rw [Bool.and_eq_true, Bool.not_eq_true', anB_ff]
  unfold dcB dlQ
  constructor
  · rintro ⟨h1, h2⟩
    refine ⟨h1, fun j hj hs => ?_⟩
    have := h2 j hj
    rw [hs] at this
    revert this
    cases lsB W S i j <;> simp
  · rintro ⟨h1, h2⟩
    refine ⟨h1, fun j hj => ?_⟩
    cases hs : S j w
    · rfl
    · rw [h2 j hj hs]; rfl
theorem dl_s {a b c d : Bool} (h : (a && !b) = true) : (a && !(b || (c && !d))) = (!c || d) := by
  revert h; cases a <;> cases b <;> cases c <;> cases d <;> simp
theorem dl_x {W u w i k : Nat} {S : Nat → Nat → Bool} (hk : k ≤ u) (h : (S i w && !anB (dlQ W S w i) k) = false) : (S i w && !anB (dlQ W S w i) u) = false := by
  cases hs : S i w
  · rfl
  · rw [hs, Bool.true_and] at h
    rw [an_mono hk (by simpa using h)]
    rfl
/-- the least of those that hold, from n on -/
def lsI (P : Nat → Prop) (n u : Nat) (v : Int32) : Prop := (∃ i, n ≤ i ∧ i < u ∧ v = nI i ∧ P i ∧ ∀ k, n ≤ k → k < i → ¬ P k) ∨ (v = -1 ∧ ∀ k, n ≤ k → k < u → ¬ P k)
theorem lsI_y {P : Nat → Prop} {e u : Nat} (he : e < u) (h : P e) : lsI P e u (nI e) := Or.inl ⟨e, Nat.le_refl _, he, rfl, h, fun k h1 h2 => absurd h1 (by omega)⟩
theorem lsI_n {P : Nat → Prop} {e u : Nat} {v : Int32} (h : ¬ P e) (hv : lsI P (e + 1) u v) : lsI P e u v := by
  rcases hv with ⟨i, h1, h2, h3, h4, h5⟩ | ⟨h1, h2⟩
  · refine Or.inl ⟨i, by omega, h2, h3, h4, fun k k1 k2 => ?_⟩
    by_cases z : k = e
    · rw [z]; exact h
    · exact h5 k (by omega) k2
  · refine Or.inr ⟨h1, fun k k1 k2 => ?_⟩
    by_cases z : k = e
    · rw [z]; exact h
    · exact h2 k (by omega) k2
theorem lsI_u {P : Nat → Prop} {u : Nat} : lsI P u u (-1) := Or.inr ⟨rfl, fun k h1 h2 => absurd h1 (by omega)⟩
theorem lsI_b {P : Nat → Prop} {e u : Nat} {v : Int32} {b : Bool} (he : e < u) (hb : b = true ↔ P e) (hv : lsI P (e + 1) u v) : lsI P e u (if b = true then nI e else v) := by
  by_cases z : b = true
  · rw [if_pos z]; exact lsI_y he (hb.mp z)
  · rw [if_neg z]; exact lsI_n (fun q => z (hb.mpr q)) hv
theorem lsI_lt {P : Nat → Prop} {n u : Nat} {v : Int32} (hu : u ≤ 40) (h : lsI P n u v) : (v < 0 ∧ v = -1 ∧ ∀ k, n ≤ k → k < u → ¬ P k) ∨ (¬ v < 0 ∧ ∃ i, n ≤ i ∧ i < u ∧ v = nI i ∧ P i ∧ ∀ k, n ≤ k → k < i → ¬ P k) := by
  rcases h with ⟨i, h1, h2, h3, h4⟩ | ⟨h1, h2⟩
  · exact Or.inr ⟨by rw [h3]; exact nI_pos (by omega), i, h1, h2, h3, h4⟩
  · exact Or.inl ⟨by rw [h1]; decide, h1, h2⟩
theorem dc_fin {W u w : Nat} {S : Nat → Nat → Bool} {best any : Int32} (hu : u ≤ 40) (hb : lsI (fun i => dcB W u S w i) 0 u best) (ha : lsI (fun i => S i w = true) 0 u any) : (best < 0 → dcP W u S w any) ∧ (¬ best < 0 → dcP W u S w best) := by
  constructor
  · intro h
    rcases lsI_lt hu hb with ⟨-, -, h2⟩ | ⟨h2, -⟩
    · refine Or.inr ⟨fun k hk => h2 k (Nat.zero_le _) hk, ?_⟩
      rcases ha with ⟨i, -, q2, q3, q4, q5⟩ | ⟨q1, q2⟩
      · exact Or.inl ⟨i, q2, q3, q4, fun k hk => by simpa using q5 k (Nat.zero_le _) hk⟩
      · exact Or.inr ⟨q1, fun k hk => by simpa using q2 k (Nat.zero_le _) hk⟩
    · exact absurd h h2
  · intro h
    rcases lsI_lt hu hb with ⟨h2, -⟩ | ⟨-, i, -, q2, q3, q4, q5⟩
    · exact absurd h2 h
    · exact Or.inl ⟨i, q2, q3, q4, fun k hk => q5 k (Nat.zero_le _) hk⟩
theorem m_neg {n : Nat} (hn : n ≤ 40) : nI n - 1 < 0 ↔ n = 0 := by
  rw [Int32.lt_iff_toInt_lt, m_sub1 (by omega)]
  have : (0 : Int32).toInt = 0 := rfl
  omega
theorem m_dec (n : Nat) : nI n + (-1) = nI n - 1 := (Int32.sub_eq_add_neg (nI n) 1).symm

set_option maxHeartbeats 4000000 in
set_option maxRecDepth 100000 in
/-- isLeast -/
theorem c_M_isLeast (l : Launch) (D : va_G) (tc : Nat → ClassId) (i w : Nat) (ad : Nat → Nat) (W : Nat) (u : Nat) (th : Int32) (kn : Bool) (lst : Int32) (sb : Int32) (mk : Nat → Int32) (cd : Nat → Int32) (lk : Nat → Int32) (fl : Nat → Int32) (vr : Nat → Int32) (wd : Nat → Int32) (cn : Nat → Int32) (li : Nat → Int32) (od : Nat → Int32) (μ : sx_M) (hS : MS tc μ ad W u th kn lst sb mk cd lk fl vr wd cn li od) (S : Nat → Nat → Bool) (ed : Nat → Nat → Nat) (hA : AW W u S ed) (hP : MP W u S ed kn mk cd lk fl vr wd cn li) (hK : ∀ a, a < u → ∀ b, b < u → cn (40 * a + b) = nI (cm W S a b) ∧ li (40 * a + b) = b2i (lsB W S a b)) (hi : i < u) (hw : w < 2 ^ W) : sx_Mi l yM_isLeast (Cond.code yM_isLeast cM_isLeast 5 (some .boolean) :: sxW) (rmL 1 0 0) D sxCl (sxT tc) sxE [.ref (ad 0), .int (nI i), .int (nI w)] μ (fun r μ' => μ = μ' ∧ r = b2i (S i w && !anB (dlQ W S w i) u)) 0 0 := by
  have hW := hA.1.2
  have hu := hA.2.1
  have hpw := en_pw hW
  have hnR := nRw_W (W := W)
  refine sx_ofiQ (cc := cM_isLeast) (maxL := 5) (ret := (some .boolean)) (own := RM) sxE_ok (by decide) rfl rfl (Nat.le_of_ble_eq_true rfl) [some (.ref (ad 0)), some (.int (nI i)), some (.int (nI w)), none, none] 2 rfl (fun p e s m below meth c A Q hQ C hr hlocks hnm => ?_)
  refine sx_aload_n C dM_isLeast_0 rfl rfl ?_
  refine sx_iload_n C dM_isLeast_1 rfl rfl ?_
  refine sx_iload_n C dM_isLeast_2 rfl rfl ?_
  refine sx_calli C (sx_runV (As := [.int (nI i), .int (nI w)]) (rest := []) C sx_all (c_M_has l D tc i w ad W u th kn lst sb mk cd lk fl vr wd cn li od μ hS (by omega) (by omega)) (ci := 3) rfl (MS_f0 hS) (sx_cwV C 2 kM_M_100 ki_M_has ke_M_has kn_M kc_M_has rfl rfl (by decide +kernel) ⟨Nat.le_of_ble_eq_true rfl, Nat.le_of_ble_eq_true rfl⟩) rfl rfl (Nat.le_of_ble_eq_true rfl) dM_isLeast_3 ⟨Nat.le_of_ble_eq_true rfl, Nat.le_of_ble_eq_true rfl⟩) (fun q1 μ1 h1 => ?_)
  obtain ⟨hm, h1⟩ := h1
  subst hm
  rw [← rowM_in (n := nRw W) (by omega), hP.2.1 i (by omega)] at h1
  refine sx_eqi (b2i (S i w)) (h1) ?_
  refine sx_istore_n (lv' := [some (.ref (ad 0)), some (.int (nI i)), some (.int (nI w)), some (.int (b2i (S i w))), none]) C dM_isLeast_6 rfl (by decide) rfl rfl ?_
  refine sx_iconst (v := 0) C dM_isLeast_7 (by decide) ?_
  refine sx_eqi (nI 0) (rfl) ?_
  refine sx_istore (lv' := [some (.ref (ad 0)), some (.int (nI i)), some (.int (nI w)), some (.int (b2i (S i w))), some (.int (nI 0))]) C dM_isLeast_8 (by decide) rfl rfl ?_
  refine sx_lvEq [some (.ref (ad 0)), some (.int (nI i)), some (.int (nI w)), some (.int (b2i (S i w && !anB (dlQ W S w i) 0))), some (.int (nI 0))] (by rw [show (S i w && !anB (dlQ W S w i) 0) = S i w from Bool.and_true _]) ?_
  have L10 : ∀ (fu : Nat) (k : Nat), u - k < fu → (k ≤ u) → SW p l e (rmL 1 0 0) s m [.ref (ad 0), .int (nI i), .int (nI w)].toArray below meth c 5 D sxCl A 0 0 Q μ 10 [some (.ref (ad 0)), some (.int (nI i)), some (.int (nI w)), some (.int (b2i (S i w && !anB (dlQ W S w i) k))), some (.int (nI k))] [] := by
    intro fu
    induction fu with
    | zero => intro _ h; exact absurd h (Nat.not_lt_zero _)
    | succ fu ih =>
      intro k hfu hk
      refine sx_iload C dM_isLeast_10 rfl ?_
      refine sx_aload_n C dM_isLeast_12 rfl rfl ?_
      refine sx_getf (Cn := RM) (T := TM) (N := 17) C dM_isLeast_13 (sx_in inM) rfl 4 (by decide) (sx_w C kF_M_52) (fun _ h => h) (MS_f0 hS) rfl ?_
      refine sx_icmp_ge (tgt := 60) C dM_isLeast_16 (by decide) (fun c16 => ?_) (fun c16 => ?_)
      · have hc16 : u ≤ k := (nI_leI (by omega) (by omega)).mp c16
        have hku : k = u := by omega
        have hfin : (S i w && !anB (dlQ W S w i) k) = (S i w && !anB (dlQ W S w i) u) := by rw [hku]
        refine sx_iload_n C dM_isLeast_60 rfl rfl ?_
        exact sx_zretQ C hQ dM_isLeast_61 hr (by exact b2i_01 _) hlocks (Nat.le_of_ble_eq_true rfl) (Nat.le_of_ble_eq_true rfl) (⟨rfl, by rw [hfin]⟩)
      · have hc16 : ¬ u ≤ k := fun h => c16 ((nI_leI (by omega) (by omega)).mpr h)
        refine sx_iload_n C dM_isLeast_19 rfl rfl ?_
        refine sx_if_eq (tgt := 60) C dM_isLeast_20 (by decide) (fun c20 => ?_) (fun c20 => ?_)
        · have b20 := b2i_z.mp c20
          have hfin : (S i w && !anB (dlQ W S w i) k) = (S i w && !anB (dlQ W S w i) u) := by rw [b20, dl_x hk b20]
          refine sx_iload_n C dM_isLeast_60 rfl rfl ?_
          exact sx_zretQ C hQ dM_isLeast_61 hr (by exact b2i_01 _) hlocks (Nat.le_of_ble_eq_true rfl) (Nat.le_of_ble_eq_true rfl) (⟨rfl, by rw [hfin]⟩)
        · have b20 := b2i_ne.mp c20
          have hst : (S i w && !anB (dlQ W S w i) (k + 1)) = (!S k w || lsB W S i k) := dl_s b20
          have J53 : SW p l e (rmL 1 0 0) s m [.ref (ad 0), .int (nI i), .int (nI w)].toArray below meth c 5 D sxCl A 0 0 Q μ 53 [some (.ref (ad 0)), some (.int (nI i)), some (.int (nI w)), some (.int (b2i (S i w && !anB (dlQ W S w i) k))), some (.int (nI k))] [.int (b2i (S i w && !anB (dlQ W S w i) (k + 1)))] := by
            refine sx_istore_n (lv' := [some (.ref (ad 0)), some (.int (nI i)), some (.int (nI w)), some (.int (b2i (S i w && !anB (dlQ W S w i) (k + 1)))), some (.int (nI k))]) C dM_isLeast_53 rfl (by decide) rfl rfl ?_
            refine sx_iinc (v := nI (k + 1)) (lv' := [some (.ref (ad 0)), some (.int (nI i)), some (.int (nI w)), some (.int (b2i (S i w && !anB (dlQ W S w i) (k + 1)))), some (.int (nI (k + 1)))]) C dM_isLeast_54 rfl (nI_1 k) (by decide) rfl rfl ?_
            refine sx_goto (tgt := 10) C dM_isLeast_57 (by decide) ?_
            exact ih (k + 1) (by omega) (by omega)
          refine sx_aload_n C dM_isLeast_23 rfl rfl ?_
          refine sx_iload C dM_isLeast_24 rfl ?_
          refine sx_iload_n C dM_isLeast_26 rfl rfl ?_
          refine sx_calli C (sx_runV (As := [.int (nI k), .int (nI w)]) (rest := []) C sx_all (c_M_has l D tc k w ad W u th kn lst sb mk cd lk fl vr wd cn li od μ hS (by omega) (by omega)) (ci := 3) rfl (MS_f0 hS) (sx_cwV C 2 kM_M_100 ki_M_has ke_M_has kn_M kc_M_has rfl rfl (by decide +kernel) ⟨Nat.le_of_ble_eq_true rfl, Nat.le_of_ble_eq_true rfl⟩) rfl rfl (Nat.le_of_ble_eq_true rfl) dM_isLeast_27 ⟨Nat.le_of_ble_eq_true rfl, Nat.le_of_ble_eq_true rfl⟩) (fun q2 μ2 h2 => ?_)
          obtain ⟨hm, h2⟩ := h2
          subst hm
          rw [← rowM_in (n := nRw W) (by omega), hP.2.1 k (by omega)] at h2
          refine sx_eqi (b2i (S k w)) (h2) ?_
          refine sx_if_eq (tgt := 48) C dM_isLeast_30 (by decide) (fun c30 => ?_) (fun c30 => ?_)
          · refine sx_iconst (v := 1) C dM_isLeast_48 (by decide) ?_
            refine sx_goto (tgt := 53) C dM_isLeast_49 (by decide) ?_
            refine sx_eqi ((b2i (S i w && !anB (dlQ W S w i) (k + 1)))) (by rw [hst]; first | (rw [b2i_z.mp c30]; rfl) | (rw [b2i_ne.mp c30, b2i_z.mp c45]; rfl) | (rw [b2i_ne.mp c30, b2i_ne.mp c45]; rfl)) ?_
            exact J53
          · refine sx_aload_n C dM_isLeast_33 rfl rfl ?_
            refine sx_getf (Cn := RM) (T := TM) (N := 17) C dM_isLeast_34 (sx_in inM) rfl 13 (by decide) (sx_w C kF_M_32) (fun _ h => h) (MS_f0 hS) rfl ?_
            refine sx_bipush (v := 40) C dM_isLeast_37 (by decide) ?_
            refine sx_iload_n C dM_isLeast_39 rfl rfl ?_
            refine sx_imul C dM_isLeast_40 ?_
            refine sx_eqi (nI (40 * i)) (nI_mul 40 i) ?_
            refine sx_iload C dM_isLeast_41 rfl ?_
            refine sx_iadd C dM_isLeast_43 ?_
            refine sx_eqi (nI (40 * i + k)) (nI_add _ _) ?_
            refine sx_zald (j := (40 * i + k)) C dM_isLeast_44 4 rfl (MS_f8 hS) (rfl) ((by omega)) (Nat.le_of_ble_eq_true rfl) ?_
            refine sx_eqi (b2i (lsB W S i k)) ((hK i (by omega) k (by omega)).2) ?_
            refine sx_if_eq (tgt := 52) C dM_isLeast_45 (by decide) (fun c45 => ?_) (fun c45 => ?_)
            · refine sx_iconst (v := 0) C dM_isLeast_52 (by decide) ?_
              refine sx_eqi ((b2i (S i w && !anB (dlQ W S w i) (k + 1)))) (by rw [hst]; first | (rw [b2i_z.mp c30]; rfl) | (rw [b2i_ne.mp c30, b2i_z.mp c45]; rfl) | (rw [b2i_ne.mp c30, b2i_ne.mp c45]; rfl)) ?_
              exact J53
            · refine sx_iconst (v := 1) C dM_isLeast_48 (by decide) ?_
              refine sx_goto (tgt := 53) C dM_isLeast_49 (by decide) ?_
              refine sx_eqi ((b2i (S i w && !anB (dlQ W S w i) (k + 1)))) (by rw [hst]; first | (rw [b2i_z.mp c30]; rfl) | (rw [b2i_ne.mp c30, b2i_z.mp c45]; rfl) | (rw [b2i_ne.mp c30, b2i_ne.mp c45]; rfl)) ?_
              exact J53
  exact L10 _ 0 (Nat.lt_succ_self _) (Nat.zero_le _)

set_option maxHeartbeats 4000000 in
set_option maxRecDepth 100000 in
/-- decode -/
theorem c_M_decode (l : Launch) (D : va_G) (tc : Nat → ClassId) (x : Int32) (ad : Nat → Nat) (W : Nat) (u : Nat) (th : Int32) (kn : Bool) (lst : Int32) (sb : Int32) (mk : Nat → Int32) (cd : Nat → Int32) (lk : Nat → Int32) (fl : Nat → Int32) (vr : Nat → Int32) (wd : Nat → Int32) (cn : Nat → Int32) (li : Nat → Int32) (od : Nat → Int32) (μ : sx_M) (hS : MS tc μ ad W u th kn lst sb mk cd lk fl vr wd cn li od) (S : Nat → Nat → Bool) (ed : Nat → Nat → Nat) (hA : AW W u S ed) (hP : MP W u S ed kn mk cd lk fl vr wd cn li) : sx_Mi l yM_decode (Cond.code yM_decode cM_decode 5 (some .int) :: sxW) (rmL 3 0 0) D sxCl (sxT tc) sxE [.ref (ad 0), .int x] μ (fun r μ' => ∃ k, R_dec W u S x k r ∧ MInv tc μ' (ad 0) W u S ed k) 0 0 := by
  have hW := hA.1.2
  have hu := hA.2.1
  have hpw := en_pw hW
  have hnR := nRw_W (W := W)
  refine sx_ofiQ (cc := cM_decode) (maxL := 5) (ret := (some .int)) (own := RM) sxE_ok (by decide) rfl rfl (Nat.le_of_ble_eq_true rfl) [some (.ref (ad 0)), some (.int x), none, none, none] 3 rfl (fun p e s m below meth c A Q hQ C hr hlocks hnm => ?_)
  refine sx_aload_n C dM_decode_0 rfl rfl ?_
  have J22 : SW p l e (rmL 3 0 0) s m [.ref (ad 0), .int x].toArray below meth c 5 D sxCl A 0 0 Q μ 22 [some (.ref (ad 0)), some (.int x), none, none, none] [.int (b2i (!inB x 0 (nI (2 ^ W) - 1))), .ref (ad 0)] := by
    refine sx_iconst (v := 0) C dM_decode_22 (by decide) ?_
    refine sx_iconst (v := 0) C dM_decode_23 (by decide) ?_
    refine sx_calli C (sx_runV (As := [.int (b2i (!inB x 0 (nI (2 ^ W) - 1))), .int 0, .int 0]) (rest := []) C sx_all (c_M_fails l D tc (!inB x 0 (nI (2 ^ W) - 1)) false false ad W u th kn lst sb mk cd lk fl vr wd cn li od μ hS) (ci := 3) rfl (MS_f0 hS) (sx_cwV C 3 kM_M_69 ki_M_fails ke_M_fails kn_M kc_M_fails rfl rfl (by decide +kernel) ⟨Nat.le_of_ble_eq_true rfl, Nat.le_of_ble_eq_true rfl⟩) rfl rfl (Nat.le_of_ble_eq_true rfl) dM_decode_24 ⟨Nat.le_of_ble_eq_true rfl, Nat.le_of_ble_eq_true rfl⟩) (fun q9 μ9 h9 => ?_)
    obtain ⟨h9, hT9⟩ := h9
    refine sx_eqi (b2i ((!inB x 0 (nI (2 ^ W) - 1)) || false || false)) (h9) ?_
    refine sx_if_eq (tgt := 32) C dM_decode_27 (by decide) (fun c27 => ?_) (fun c27 => ?_)
    · obtain ⟨t0, t1, t2, t3⟩ := th_0 (b2i_z.mp c27)
      rw [t0] at hT9
      obtain ⟨w, hw, hxw⟩ := (inB_iff (by omega)).mp (th_f t1)
      refine sx_aload_n C dM_decode_32 rfl rfl ?_
      refine sx_callv C (sx_runV (As := []) (rest := []) C sx_all (c_M_know l D tc ad W u 0 kn lst sb mk cd lk fl vr wd cn li od _ hT9 S ed hA hP) (ci := 3) rfl (MS_f0 hT9) (sx_cwV C 0 kM_M_97 ki_M_know ke_M_know kn_M kc_M_know rfl rfl (by decide +kernel) ⟨Nat.le_of_ble_eq_true rfl, Nat.le_of_ble_eq_true rfl⟩) rfl rfl (Nat.le_of_ble_eq_true rfl) dM_decode_33 ⟨Nat.le_of_ble_eq_true rfl, Nat.le_of_ble_eq_true rfl⟩) (fun μ1 h1 => ?_)
      obtain ⟨cn1, li1, hS1, hP1⟩ := h1
      have hK := hP1.2.2 rfl
      refine sx_iconst (v := -1) C dM_decode_36 (by decide) ?_
      refine sx_istore_n (lv' := [some (.ref (ad 0)), some (.int x), some (.int (-1)), none, none]) C dM_decode_37 rfl (by decide) rfl rfl ?_
      refine sx_iconst (v := -1) C dM_decode_38 (by decide) ?_
      refine sx_istore_n (lv' := [some (.ref (ad 0)), some (.int x), some (.int (-1)), some (.int (-1)), none]) C dM_decode_39 rfl (by decide) rfl rfl ?_
      refine sx_aload_n C dM_decode_40 rfl rfl ?_
      refine sx_getf (Cn := RM) (T := TM) (N := 17) C dM_decode_41 (sx_in inM) rfl 4 (by decide) (sx_w C kF_M_52) (fun _ h => h) (MS_f0 hS1) rfl ?_
      refine sx_iconst (v := 1) C dM_decode_44 (by decide) ?_
      refine sx_isub C dM_decode_45 ?_
      refine sx_istore (lv' := [some (.ref (ad 0)), some (.int x), some (.int (-1)), some (.int (-1)), some (.int ((nI u) - 1))]) C dM_decode_46 (by decide) rfl rfl ?_
      have L48 : ∀ (fu : Nat) (n : Nat) (any best : Int32), n < fu → (n ≤ u) → (lsI (fun i => S i w = true) n u any) → (lsI (fun i => dcB W u S w i) n u best) → SW p l e (rmL 3 0 0) s m [.ref (ad 0), .int x].toArray below meth c 5 D sxCl A 0 0 Q μ1 48 [some (.ref (ad 0)), some (.int x), some (.int any), some (.int best), some (.int (nI n - 1))] [] := by
        intro fu
        induction fu with
        | zero => intro _ _ _ h; exact absurd h (Nat.not_lt_zero _)
        | succ fu ih =>
          intro n any best hfu hn g1 g2
          refine sx_iload C dM_decode_48 rfl ?_
          refine sx_if_lt (tgt := 93) C dM_decode_50 (by decide) (fun c50 => ?_) (fun c50 => ?_)
          · have hn0 : n = 0 := (m_neg (by omega)).mp c50
            rw [hn0] at g1 g2
            obtain ⟨f1, f2⟩ := dc_fin hu g2 g1
            refine sx_iload_n C dM_decode_93 rfl rfl ?_
            refine sx_if_lt (tgt := 101) C dM_decode_94 (by decide) (fun c94 => ?_) (fun c94 => ?_)
            · refine sx_iload_n C dM_decode_101 rfl rfl ?_
              exact sx_iretQ C hQ dM_decode_102 hr hlocks (Nat.le_of_ble_eq_true rfl) (Nat.le_of_ble_eq_true rfl) (⟨0, Or.inl ⟨rfl, w, hw, hxw, f1 c94⟩, MInv_of hA hS1 hP1⟩)
            · refine sx_iload_n C dM_decode_97 rfl rfl ?_
              refine sx_goto (tgt := 102) C dM_decode_98 (by decide) ?_
              exact sx_iretQ C hQ dM_decode_102 hr hlocks (Nat.le_of_ble_eq_true rfl) (Nat.le_of_ble_eq_true rfl) (⟨0, Or.inl ⟨rfl, w, hw, hxw, f2 c94⟩, MInv_of hA hS1 hP1⟩)
          · obtain ⟨e0, rfl⟩ : ∃ e0, n = e0 + 1 := ⟨n - 1, by have : ¬ n = 0 := fun z => c50 ((m_neg (by omega)).mpr z); omega⟩
            refine sx_lvEq [some (.ref (ad 0)), some (.int x), some (.int any), some (.int best), some (.int (nI e0))] (by rw [nI_pred]) ?_
            have J69 : SW p l e (rmL 3 0 0) s m [.ref (ad 0), .int x].toArray below meth c 5 D sxCl A 0 0 Q μ1 69 [some (.ref (ad 0)), some (.int x), some (.int any), some (.int best), some (.int (nI e0))] [.int (if S e0 w = true then nI e0 else any)] := by
              refine sx_istore_n (lv' := [some (.ref (ad 0)), some (.int x), some (.int (if S e0 w = true then nI e0 else any)), some (.int best), some (.int (nI e0))]) C dM_decode_69 rfl (by decide) rfl rfl ?_
              have J86 : SW p l e (rmL 3 0 0) s m [.ref (ad 0), .int x].toArray below meth c 5 D sxCl A 0 0 Q μ1 86 [some (.ref (ad 0)), some (.int x), some (.int (if S e0 w = true then nI e0 else any)), some (.int best), some (.int (nI e0))] [.int (if (S e0 w && !anB (dlQ W S w e0) u) = true then nI e0 else best)] := by
                refine sx_istore_n (lv' := [some (.ref (ad 0)), some (.int x), some (.int (if S e0 w = true then nI e0 else any)), some (.int (if (S e0 w && !anB (dlQ W S w e0) u) = true then nI e0 else best)), some (.int (nI e0))]) C dM_decode_86 rfl (by decide) rfl rfl ?_
                refine sx_iinc (v := nI e0 - 1) (lv' := [some (.ref (ad 0)), some (.int x), some (.int (if S e0 w = true then nI e0 else any)), some (.int (if (S e0 w && !anB (dlQ W S w e0) u) = true then nI e0 else best)), some (.int (nI e0 - 1))]) C dM_decode_87 rfl (m_dec e0) (by decide) rfl rfl ?_
                refine sx_goto (tgt := 48) C dM_decode_90 (by decide) ?_
                exact ih e0 _ _ (by omega) (by omega) (lsI_b (P := fun i => S i w = true) (by omega) Iff.rfl g1) (lsI_b (P := fun i => dcB W u S w i) (by omega) dl_iff g2)
              refine sx_aload_n C dM_decode_70 rfl rfl ?_
              refine sx_iload C dM_decode_71 rfl ?_
              refine sx_iload_n C dM_decode_73 rfl rfl ?_
              refine sx_eqi (nI w) (hxw) ?_
              refine sx_calli C (sx_runV (As := [.int (nI e0), .int (nI w)]) (rest := []) C sx_all (c_M_isLeast l D tc e0 w ad W u 0 true lst sb mk cd lk fl vr wd cn1 li1 od μ1 hS1 S ed hA hP1 hK (by omega) hw) (ci := 3) rfl (MS_f0 hS1) (sx_cwV C 2 kM_M_134 ki_M_isLeast ke_M_isLeast kn_M kc_M_isLeast rfl rfl (by decide +kernel) ⟨Nat.le_of_ble_eq_true rfl, Nat.le_of_ble_eq_true rfl⟩) rfl rfl (Nat.le_of_ble_eq_true rfl) dM_decode_74 ⟨Nat.le_of_ble_eq_true rfl, Nat.le_of_ble_eq_true rfl⟩) (fun q6 μ6 h6 => ?_)
              obtain ⟨hm, h6⟩ := h6
              subst hm
              refine sx_eqi (b2i (S e0 w && !anB (dlQ W S w e0) u)) (h6) ?_
              refine sx_if_eq (tgt := 85) C dM_decode_77 (by decide) (fun c77 => ?_) (fun c77 => ?_)
              · refine sx_iload_n C dM_decode_85 rfl rfl ?_
                refine sx_eqi ((if (S e0 w && !anB (dlQ W S w e0) u) = true then nI e0 else best)) (by first | (rw [if_pos (b2i_ne.mp c77)]) | (rw [if_neg (by rw [b2i_z.mp c77]; decide)])) ?_
                exact J86
              · refine sx_iload C dM_decode_80 rfl ?_
                refine sx_goto (tgt := 86) C dM_decode_82 (by decide) ?_
                refine sx_eqi ((if (S e0 w && !anB (dlQ W S w e0) u) = true then nI e0 else best)) (by first | (rw [if_pos (b2i_ne.mp c77)]) | (rw [if_neg (by rw [b2i_z.mp c77]; decide)])) ?_
                exact J86
            refine sx_aload_n C dM_decode_53 rfl rfl ?_
            refine sx_iload C dM_decode_54 rfl ?_
            refine sx_iload_n C dM_decode_56 rfl rfl ?_
            refine sx_eqi (nI w) (hxw) ?_
            refine sx_calli C (sx_runV (As := [.int (nI e0), .int (nI w)]) (rest := []) C sx_all (c_M_has l D tc e0 w ad W u 0 true lst sb mk cd lk fl vr wd cn1 li1 od μ1 hS1 (by omega) (by omega)) (ci := 3) rfl (MS_f0 hS1) (sx_cwV C 2 kM_M_100 ki_M_has ke_M_has kn_M kc_M_has rfl rfl (by decide +kernel) ⟨Nat.le_of_ble_eq_true rfl, Nat.le_of_ble_eq_true rfl⟩) rfl rfl (Nat.le_of_ble_eq_true rfl) dM_decode_57 ⟨Nat.le_of_ble_eq_true rfl, Nat.le_of_ble_eq_true rfl⟩) (fun q5 μ5 h5 => ?_)
            obtain ⟨hm, h5⟩ := h5
            subst hm
            rw [← rowM_in (n := nRw W) (by omega), hP1.2.1 e0 (by omega)] at h5
            refine sx_eqi (b2i (S e0 w)) (h5) ?_
            refine sx_if_eq (tgt := 68) C dM_decode_60 (by decide) (fun c60 => ?_) (fun c60 => ?_)
            · refine sx_iload_n C dM_decode_68 rfl rfl ?_
              refine sx_eqi ((if S e0 w = true then nI e0 else any)) (by first | (rw [if_pos (b2i_ne.mp c60)]) | (rw [if_neg (by rw [b2i_z.mp c60]; decide)])) ?_
              exact J69
            · refine sx_iload C dM_decode_63 rfl ?_
              refine sx_goto (tgt := 69) C dM_decode_65 (by decide) ?_
              refine sx_eqi ((if S e0 w = true then nI e0 else any)) (by first | (rw [if_pos (b2i_ne.mp c60)]) | (rw [if_neg (by rw [b2i_z.mp c60]; decide)])) ?_
              exact J69
      exact L48 _ u (-1) (-1) (Nat.lt_succ_self _) (Nat.le_refl _) lsI_u lsI_u
    · obtain ⟨z2, z1⟩ := th_1 (b2i_ne.mp c27)
      have hR : ∀ w, w < 2 ^ W → x ≠ nI w := fun w hw e => by
        have z3 := th_n z1
        rw [(inB_iff (by omega)).mpr ⟨w, hw, e⟩] at z3
        cases z3
      refine sx_iconst (v := 0) C dM_decode_30 (by decide) ?_
      exact sx_iretQ C hQ dM_decode_31 hr hlocks (Nat.le_of_ble_eq_true rfl) (Nat.le_of_ble_eq_true rfl) (⟨_, Or.inr ⟨z2, hR⟩, MInv_of hA hT9 hP⟩)
  refine sx_iload_n C dM_decode_1 rfl rfl ?_
  refine sx_iconst (v := 0) C dM_decode_2 (by decide) ?_
  refine sx_iconst (v := 1) C dM_decode_3 (by decide) ?_
  refine sx_aload_n C dM_decode_4 rfl rfl ?_
  refine sx_getf (Cn := RM) (T := TM) (N := 17) C dM_decode_5 (sx_in inM) rfl 1 (by decide) (sx_w C kF_M_39) (fun _ h => h) (MS_f0 hS) rfl ?_
  refine sx_ishl C dM_decode_8 ?_
  refine sx_eqi (nI (2 ^ W)) (w2_pow W (by omega)) ?_
  refine sx_iconst (v := 1) C dM_decode_9 (by decide) ?_
  refine sx_isub C dM_decode_10 ?_
  refine sx_calli C (sx_runS (As := [.int x, .int 0, .int ((nI (2 ^ W)) - 1)]) (rest := [.ref (ad 0)]) C sx_all (c_M_in l D tc x 0 (nI (2 ^ W) - 1) μ) (sx_cwS C 3 kM_M_55 ks_M_in kn_M kc_M_in rfl rfl (by decide +kernel) ⟨Nat.le_of_ble_eq_true rfl, Nat.le_of_ble_eq_true rfl⟩) rfl rfl (Nat.le_of_ble_eq_true rfl) dM_decode_11 ⟨Nat.le_of_ble_eq_true rfl, Nat.le_of_ble_eq_true rfl⟩) (fun q2 μ2 h2 => ?_)
  obtain ⟨hm, h2⟩ := h2
  subst hm
  refine sx_eqi (b2i (inB x 0 (nI (2 ^ W) - 1))) (h2) ?_
  refine sx_if_ne (tgt := 21) C dM_decode_14 (by decide) (fun c14 => ?_) (fun c14 => ?_)
  · refine sx_iconst (v := 0) C dM_decode_21 (by decide) ?_
    refine sx_eqi ((b2i (!inB x 0 (nI (2 ^ W) - 1)))) (by first | (rw [b2i_z.mp c14]; rfl) | (rw [b2i_ne.mp c14]; rfl)) ?_
    exact J22
  · refine sx_iconst (v := 1) C dM_decode_17 (by decide) ?_
    refine sx_goto (tgt := 22) C dM_decode_18 (by decide) ?_
    refine sx_eqi ((b2i (!inB x 0 (nI (2 ^ W) - 1)))) (by first | (rw [b2i_z.mp c14]; rfl) | (rw [b2i_ne.mp c14]; rfl)) ?_
    exact J22

theorem st_y {o : Nat → Nat} {a q : Nat} (h : anB (fun q => decide (o q = a)) q = true) : (1 : Int32) = b2i (anB (fun q => decide (o q = a)) (q + 1)) := by
  rw [an_s, h]; rfl
theorem st_1 {o : Nat → Nat} {a q : Nat} (h : anB (fun q => decide (o q = a)) q = false) (h1 : o q = a) : (1 : Int32) = b2i (anB (fun q => decide (o q = a)) (q + 1)) := by
  rw [an_s, h, decide_eq_true h1]; rfl
theorem st_0 {o : Nat → Nat} {a q : Nat} (h : anB (fun q => decide (o q = a)) q = false) (h1 : ¬ o q = a) : (0 : Int32) = b2i (anB (fun q => decide (o q = a)) (q + 1)) := by
  rw [an_s, h, decide_eq_false h1]; rfl

set_option maxHeartbeats 4000000 in
set_option maxRecDepth 100000 in
/-- waits -/
theorem c_M_waits (l : Launch) (D : va_G) (tc : Nat → ClassId) (i p0 : Nat) (o : Nat → Nat) (ad : Nat → Nat) (W : Nat) (u : Nat) (th : Int32) (kn : Bool) (lst : Int32) (sb : Int32) (mk : Nat → Int32) (cd : Nat → Int32) (lk : Nat → Int32) (fl : Nat → Int32) (vr : Nat → Int32) (wd : Nat → Int32) (cn : Nat → Int32) (li : Nat → Int32) (od : Nat → Int32) (μ : sx_M) (hS : MS tc μ ad W u th kn lst sb mk cd lk fl vr wd cn li od) (S : Nat → Nat → Bool) (ed : Nat → Nat → Nat) (hA : AW W u S ed) (hP : MP W u S ed kn mk cd lk fl vr wd cn li) (hK : ∀ a, a < u → ∀ b, b < u → cn (40 * a + b) = nI (cm W S a b) ∧ li (40 * a + b) = b2i (lsB W S a b)) (hi : i < u) (hp : p0 ≤ u) (hod : ∀ q, q < p0 → od q = nI (o q) ∧ o q < u) : sx_Mi l yM_waits (Cond.code yM_waits cM_waits 7 (some .boolean) :: sxW) (rmL 0 0 0) D sxCl (sxT tc) sxE [.ref (ad 0), .int (nI i), .int (nI p0)] μ (fun r μ' => μ = μ' ∧ r = b2i (anB (fun a => !anB (fun q => decide (o q = a)) p0 && lsB W S a i && !lsB W S i a) u)) 0 0 := by
  have hW := hA.1.2
  have hu := hA.2.1
  refine sx_ofiQ (cc := cM_waits) (maxL := 7) (ret := (some .boolean)) (own := RM) sxE_ok (by decide) rfl rfl (Nat.le_of_ble_eq_true rfl) [some (.ref (ad 0)), some (.int (nI i)), some (.int (nI p0)), none, none, none, none] 4 rfl (fun p e s m below meth c A Q hQ C hr hlocks hnm => ?_)
  refine sx_iconst (v := 0) C dM_waits_0 (by decide) ?_
  refine sx_eqi (b2i (anB (fun a => !anB (fun q => decide (o q = a)) p0 && lsB W S a i && !lsB W S i a) 0)) (rfl) ?_
  refine sx_istore_n (lv' := [some (.ref (ad 0)), some (.int (nI i)), some (.int (nI p0)), some (.int (b2i (anB (fun a => !anB (fun q => decide (o q = a)) p0 && lsB W S a i && !lsB W S i a) 0))), none, none, none]) C dM_waits_1 rfl (by decide) rfl rfl ?_
  refine sx_iconst (v := 0) C dM_waits_2 (by decide) ?_
  refine sx_eqi (nI 0) (rfl) ?_
  refine sx_istore (lv' := [some (.ref (ad 0)), some (.int (nI i)), some (.int (nI p0)), some (.int (b2i (anB (fun a => !anB (fun q => decide (o q = a)) p0 && lsB W S a i && !lsB W S i a) 0))), some (.int (nI 0)), none, none]) C dM_waits_3 (by decide) rfl rfl ?_
  have L5 : ∀ (fu : Nat) (a : Nat), u - a < fu → (a ≤ u) → SW p l e (rmL 0 0 0) s m [.ref (ad 0), .int (nI i), .int (nI p0)].toArray below meth c 7 D sxCl A 0 0 Q μ 5 [some (.ref (ad 0)), some (.int (nI i)), some (.int (nI p0)), some (.int (b2i (anB (fun a => !anB (fun q => decide (o q = a)) p0 && lsB W S a i && !lsB W S i a) a))), some (.int (nI a)), none, none] [] := by
    intro fu
    induction fu with
    | zero => intro _ h; exact absurd h (Nat.not_lt_zero _)
    | succ fu ih =>
      intro a hfu ha
      refine sx_iload C dM_waits_5 rfl ?_
      refine sx_aload_n C dM_waits_7 rfl rfl ?_
      refine sx_getf (Cn := RM) (T := TM) (N := 17) C dM_waits_8 (sx_in inM) rfl 4 (by decide) (sx_w C kF_M_52) (fun _ h => h) (MS_f0 hS) rfl ?_
      refine sx_icmp_ge (tgt := 107) C dM_waits_11 (by decide) (fun c11 => ?_) (fun c11 => ?_)
      · have hc11 : u ≤ a := (nI_leI (by omega) (by omega)).mp c11
        obtain rfl : a = u := by omega
        refine sx_iload_n C dM_waits_107 rfl rfl ?_
        exact sx_zretQ C hQ dM_waits_108 hr (by exact b2i_01 _) hlocks (Nat.le_of_ble_eq_true rfl) (Nat.le_of_ble_eq_true rfl) (⟨rfl, rfl⟩)
      · have hc11 : ¬ u ≤ a := fun h => c11 ((nI_leI (by omega) (by omega)).mpr h)
        refine sx_iconst (v := 0) C dM_waits_14 (by decide) ?_
        refine sx_eqi (b2i (anB (fun q => decide (o q = a)) 0)) (rfl) ?_
        refine sx_istore (lv' := [some (.ref (ad 0)), some (.int (nI i)), some (.int (nI p0)), some (.int (b2i (anB (fun a => !anB (fun q => decide (o q = a)) p0 && lsB W S a i && !lsB W S i a) a))), some (.int (nI a)), some (.int (b2i (anB (fun q => decide (o q = a)) 0))), none]) C dM_waits_15 (by decide) rfl rfl ?_
        refine sx_iconst (v := 0) C dM_waits_17 (by decide) ?_
        refine sx_eqi (nI 0) (rfl) ?_
        refine sx_istore (lv' := [some (.ref (ad 0)), some (.int (nI i)), some (.int (nI p0)), some (.int (b2i (anB (fun a => !anB (fun q => decide (o q = a)) p0 && lsB W S a i && !lsB W S i a) a))), some (.int (nI a)), some (.int (b2i (anB (fun q => decide (o q = a)) 0))), some (.int (nI 0))]) C dM_waits_18 (by decide) rfl rfl ?_
        have L20 : ∀ (fu2 : Nat) (q0 : Nat), p0 - q0 < fu2 → (q0 ≤ p0) → SW p l e (rmL 0 0 0) s m [.ref (ad 0), .int (nI i), .int (nI p0)].toArray below meth c 7 D sxCl A 0 0 Q μ 20 [some (.ref (ad 0)), some (.int (nI i)), some (.int (nI p0)), some (.int (b2i (anB (fun a => !anB (fun q => decide (o q = a)) p0 && lsB W S a i && !lsB W S i a) a))), some (.int (nI a)), some (.int (b2i (anB (fun q => decide (o q = a)) q0))), some (.int (nI q0))] [] := by
          intro fu2
          induction fu2 with
          | zero => intro _ h; exact absurd h (Nat.not_lt_zero _)
          | succ fu2 ih2 =>
            intro q0 hfu2 hq
            refine sx_iload C dM_waits_20 rfl ?_
            refine sx_iload_n C dM_waits_22 rfl rfl ?_
            refine sx_icmp_ge (tgt := 56) C dM_waits_23 (by decide) (fun c23 => ?_) (fun c23 => ?_)
            · have hc23 : p0 ≤ q0 := (nI_leI (by omega) (by omega)).mp c23
              obtain rfl : p0 = q0 := by omega
              have J100 : SW p l e (rmL 0 0 0) s m [.ref (ad 0), .int (nI i), .int (nI p0)].toArray below meth c 7 D sxCl A 0 0 Q μ 100 [some (.ref (ad 0)), some (.int (nI i)), some (.int (nI p0)), some (.int (b2i (anB (fun a => !anB (fun q => decide (o q = a)) p0 && lsB W S a i && !lsB W S i a) a))), some (.int (nI a)), some (.int (b2i (anB (fun q => decide (o q = a)) p0))), some (.int (nI p0))] [.int (b2i (anB (fun a => !anB (fun q => decide (o q = a)) p0 && lsB W S a i && !lsB W S i a) (a + 1)))] := by
                refine sx_istore_n (lv' := [some (.ref (ad 0)), some (.int (nI i)), some (.int (nI p0)), some (.int (b2i (anB (fun a => !anB (fun q => decide (o q = a)) p0 && lsB W S a i && !lsB W S i a) (a + 1)))), some (.int (nI a)), some (.int (b2i (anB (fun q => decide (o q = a)) p0))), some (.int (nI p0))]) C dM_waits_100 rfl (by decide) rfl rfl ?_
                refine sx_weak (lv' := [some (.ref (ad 0)), some (.int (nI i)), some (.int (nI p0)), some (.int (b2i (anB (fun a => !anB (fun q => decide (o q = a)) p0 && lsB W S a i && !lsB W S i a) (a + 1)))), some (.int (nI a)), none, none]) (And.intro rfl (And.intro rfl (And.intro rfl (And.intro rfl (And.intro rfl trivial))))) ?_
                refine sx_iinc (v := nI (a + 1)) (lv' := [some (.ref (ad 0)), some (.int (nI i)), some (.int (nI p0)), some (.int (b2i (anB (fun a => !anB (fun q => decide (o q = a)) p0 && lsB W S a i && !lsB W S i a) (a + 1)))), some (.int (nI (a + 1))), none, none]) C dM_waits_101 rfl (nI_1 a) (by decide) rfl rfl ?_
                refine sx_goto (tgt := 5) C dM_waits_104 (by decide) ?_
                exact ih (a + 1) (by omega) (by omega)
              refine sx_iload_n C dM_waits_56 rfl rfl ?_
              refine sx_if_ne (tgt := 95) C dM_waits_57 (by decide) (fun c57 => ?_) (fun c57 => ?_)
              · refine sx_iconst (v := 1) C dM_waits_95 (by decide) ?_
                refine sx_goto (tgt := 100) C dM_waits_96 (by decide) ?_
                refine sx_eqi ((b2i (anB (fun a => !anB (fun q => decide (o q = a)) p0 && lsB W S a i && !lsB W S i a) (a + 1)))) (by rw [an_s]; first | (rw [b2i_ne.mp c57]; rfl) | (rw [b2i_z.mp c57, b2i_ne.mp c62]; rfl) | (rw [b2i_z.mp c57, b2i_z.mp c62, b2i_z.mp c77]; rfl) | (rw [b2i_z.mp c57, b2i_z.mp c62, b2i_ne.mp c77, b2i_ne.mp c92]; rfl) | (rw [b2i_z.mp c57, b2i_z.mp c62, b2i_ne.mp c77, b2i_z.mp c92]; rfl)) ?_
                exact J100
              · refine sx_iload C dM_waits_60 rfl ?_
                refine sx_if_ne (tgt := 99) C dM_waits_62 (by decide) (fun c62 => ?_) (fun c62 => ?_)
                · refine sx_iconst (v := 0) C dM_waits_99 (by decide) ?_
                  refine sx_eqi ((b2i (anB (fun a => !anB (fun q => decide (o q = a)) p0 && lsB W S a i && !lsB W S i a) (a + 1)))) (by rw [an_s]; first | (rw [b2i_ne.mp c57]; rfl) | (rw [b2i_z.mp c57, b2i_ne.mp c62]; rfl) | (rw [b2i_z.mp c57, b2i_z.mp c62, b2i_z.mp c77]; rfl) | (rw [b2i_z.mp c57, b2i_z.mp c62, b2i_ne.mp c77, b2i_ne.mp c92]; rfl) | (rw [b2i_z.mp c57, b2i_z.mp c62, b2i_ne.mp c77, b2i_z.mp c92]; rfl)) ?_
                  exact J100
                · refine sx_aload_n C dM_waits_65 rfl rfl ?_
                  refine sx_getf (Cn := RM) (T := TM) (N := 17) C dM_waits_66 (sx_in inM) rfl 13 (by decide) (sx_w C kF_M_32) (fun _ h => h) (MS_f0 hS) rfl ?_
                  refine sx_bipush (v := 40) C dM_waits_69 (by decide) ?_
                  refine sx_iload C dM_waits_71 rfl ?_
                  refine sx_imul C dM_waits_73 ?_
                  refine sx_eqi (nI (40 * a)) (nI_mul 40 a) ?_
                  refine sx_iload_n C dM_waits_74 rfl rfl ?_
                  refine sx_iadd C dM_waits_75 ?_
                  refine sx_eqi (nI (40 * a + i)) (nI_add _ _) ?_
                  refine sx_zald (j := (40 * a + i)) C dM_waits_76 4 rfl (MS_f8 hS) (rfl) ((by omega)) (Nat.le_of_ble_eq_true rfl) ?_
                  refine sx_eqi (b2i (lsB W S a i)) ((hK a (by omega) i (by omega)).2) ?_
                  refine sx_if_eq (tgt := 99) C dM_waits_77 (by decide) (fun c77 => ?_) (fun c77 => ?_)
                  · refine sx_iconst (v := 0) C dM_waits_99 (by decide) ?_
                    refine sx_eqi ((b2i (anB (fun a => !anB (fun q => decide (o q = a)) p0 && lsB W S a i && !lsB W S i a) (a + 1)))) (by rw [an_s]; first | (rw [b2i_ne.mp c57]; rfl) | (rw [b2i_z.mp c57, b2i_ne.mp c62]; rfl) | (rw [b2i_z.mp c57, b2i_z.mp c62, b2i_z.mp c77]; rfl) | (rw [b2i_z.mp c57, b2i_z.mp c62, b2i_ne.mp c77, b2i_ne.mp c92]; rfl) | (rw [b2i_z.mp c57, b2i_z.mp c62, b2i_ne.mp c77, b2i_z.mp c92]; rfl)) ?_
                    exact J100
                  · refine sx_aload_n C dM_waits_80 rfl rfl ?_
                    refine sx_getf (Cn := RM) (T := TM) (N := 17) C dM_waits_81 (sx_in inM) rfl 13 (by decide) (sx_w C kF_M_32) (fun _ h => h) (MS_f0 hS) rfl ?_
                    refine sx_bipush (v := 40) C dM_waits_84 (by decide) ?_
                    refine sx_iload_n C dM_waits_86 rfl rfl ?_
                    refine sx_imul C dM_waits_87 ?_
                    refine sx_eqi (nI (40 * i)) (nI_mul 40 i) ?_
                    refine sx_iload C dM_waits_88 rfl ?_
                    refine sx_iadd C dM_waits_90 ?_
                    refine sx_eqi (nI (40 * i + a)) (nI_add _ _) ?_
                    refine sx_zald (j := (40 * i + a)) C dM_waits_91 4 rfl (MS_f8 hS) (rfl) ((by omega)) (Nat.le_of_ble_eq_true rfl) ?_
                    refine sx_eqi (b2i (lsB W S i a)) ((hK i (by omega) a (by omega)).2) ?_
                    refine sx_if_ne (tgt := 99) C dM_waits_92 (by decide) (fun c92 => ?_) (fun c92 => ?_)
                    · refine sx_iconst (v := 0) C dM_waits_99 (by decide) ?_
                      refine sx_eqi ((b2i (anB (fun a => !anB (fun q => decide (o q = a)) p0 && lsB W S a i && !lsB W S i a) (a + 1)))) (by rw [an_s]; first | (rw [b2i_ne.mp c57]; rfl) | (rw [b2i_z.mp c57, b2i_ne.mp c62]; rfl) | (rw [b2i_z.mp c57, b2i_z.mp c62, b2i_z.mp c77]; rfl) | (rw [b2i_z.mp c57, b2i_z.mp c62, b2i_ne.mp c77, b2i_ne.mp c92]; rfl) | (rw [b2i_z.mp c57, b2i_z.mp c62, b2i_ne.mp c77, b2i_z.mp c92]; rfl)) ?_
                      exact J100
                    · refine sx_iconst (v := 1) C dM_waits_95 (by decide) ?_
                      refine sx_goto (tgt := 100) C dM_waits_96 (by decide) ?_
                      refine sx_eqi ((b2i (anB (fun a => !anB (fun q => decide (o q = a)) p0 && lsB W S a i && !lsB W S i a) (a + 1)))) (by rw [an_s]; first | (rw [b2i_ne.mp c57]; rfl) | (rw [b2i_z.mp c57, b2i_ne.mp c62]; rfl) | (rw [b2i_z.mp c57, b2i_z.mp c62, b2i_z.mp c77]; rfl) | (rw [b2i_z.mp c57, b2i_z.mp c62, b2i_ne.mp c77, b2i_ne.mp c92]; rfl) | (rw [b2i_z.mp c57, b2i_z.mp c62, b2i_ne.mp c77, b2i_z.mp c92]; rfl)) ?_
                      exact J100
            · have hc23 : ¬ p0 ≤ q0 := fun h => c23 ((nI_leI (by omega) (by omega)).mpr h)
              have J48 : SW p l e (rmL 0 0 0) s m [.ref (ad 0), .int (nI i), .int (nI p0)].toArray below meth c 7 D sxCl A 0 0 Q μ 48 [some (.ref (ad 0)), some (.int (nI i)), some (.int (nI p0)), some (.int (b2i (anB (fun a => !anB (fun q => decide (o q = a)) p0 && lsB W S a i && !lsB W S i a) a))), some (.int (nI a)), some (.int (b2i (anB (fun q => decide (o q = a)) q0))), some (.int (nI q0))] [.int (b2i (anB (fun q => decide (o q = a)) (q0 + 1)))] := by
                refine sx_istore (lv' := [some (.ref (ad 0)), some (.int (nI i)), some (.int (nI p0)), some (.int (b2i (anB (fun a => !anB (fun q => decide (o q = a)) p0 && lsB W S a i && !lsB W S i a) a))), some (.int (nI a)), some (.int (b2i (anB (fun q => decide (o q = a)) (q0 + 1)))), some (.int (nI q0))]) C dM_waits_48 (by decide) rfl rfl ?_
                refine sx_iinc (v := nI (q0 + 1)) (lv' := [some (.ref (ad 0)), some (.int (nI i)), some (.int (nI p0)), some (.int (b2i (anB (fun a => !anB (fun q => decide (o q = a)) p0 && lsB W S a i && !lsB W S i a) a))), some (.int (nI a)), some (.int (b2i (anB (fun q => decide (o q = a)) (q0 + 1)))), some (.int (nI (q0 + 1)))]) C dM_waits_50 rfl (nI_1 q0) (by decide) rfl rfl ?_
                refine sx_goto (tgt := 20) C dM_waits_53 (by decide) ?_
                exact ih2 (q0 + 1) (by omega) (by omega)
              refine sx_iload C dM_waits_26 rfl ?_
              refine sx_if_ne (tgt := 43) C dM_waits_28 (by decide) (fun c28 => ?_) (fun c28 => ?_)
              · refine sx_iconst (v := 1) C dM_waits_43 (by decide) ?_
                refine sx_goto (tgt := 48) C dM_waits_44 (by decide) ?_
                refine sx_eqi ((b2i (anB (fun q => decide (o q = a)) (q0 + 1)))) (by first | exact st_y (b2i_ne.mp c28) | exact st_1 (b2i_z.mp c28) b40 | exact st_0 (b2i_z.mp c28) b40) ?_
                exact J48
              · refine sx_aload_n C dM_waits_31 rfl rfl ?_
                refine sx_getf (Cn := RM) (T := TM) (N := 17) C dM_waits_32 (sx_in inM) rfl 14 (by decide) (sx_w C kF_M_36) (fun _ h => h) (MS_f0 hS) rfl ?_
                refine sx_iload C dM_waits_35 rfl ?_
                refine sx_iald (j := q0) C dM_waits_37 0 rfl (MS_f9 hS) (rfl) ((by omega)) (Nat.le_of_ble_eq_true rfl) ?_
                refine sx_eqi (nI (o q0)) ((hod q0 (by omega)).1) ?_
                refine sx_iload C dM_waits_38 rfl ?_
                refine sx_icmp_ne (tgt := 47) C dM_waits_40 (by decide) (fun c40 => ?_) (fun c40 => ?_)
                · have b40 : ¬ o q0 = a := fun z => c40 (by rw [z])
                  refine sx_iconst (v := 0) C dM_waits_47 (by decide) ?_
                  refine sx_eqi ((b2i (anB (fun q => decide (o q = a)) (q0 + 1)))) (by first | exact st_y (b2i_ne.mp c28) | exact st_1 (b2i_z.mp c28) b40 | exact st_0 (b2i_z.mp c28) b40) ?_
                  exact J48
                · have b40 : o q0 = a := (ab_nI (by have := (hod q0 (by omega)).2; omega) (by omega)).mp c40
                  refine sx_iconst (v := 1) C dM_waits_43 (by decide) ?_
                  refine sx_goto (tgt := 48) C dM_waits_44 (by decide) ?_
                  refine sx_eqi ((b2i (anB (fun q => decide (o q = a)) (q0 + 1)))) (by first | exact st_y (b2i_ne.mp c28) | exact st_1 (b2i_z.mp c28) b40 | exact st_0 (b2i_z.mp c28) b40) ?_
                  exact J48
        exact L20 _ 0 (Nat.lt_succ_self _) (Nat.zero_le _)
  exact L5 _ 0 (Nat.lt_succ_self _) (Nat.zero_le _)

theorem of_iff {W u p0 e : Nat} {S : Nat → Nat → Bool} {o : Nat → Nat} : ((!anB (fun q => decide (o q = e)) p0) && !anB (fun a => !anB (fun q => decide (o q = a)) p0 && lsB W S a e && !lsB W S e a) u) = true ↔ ofr W u S o p0 e := by
  rw [Bool.and_eq_true, Bool.not_eq_true', Bool.not_eq_true', anB_ff, anB_ff]
  unfold ofr
  constructor
  · rintro ⟨h1, h2⟩
    refine ⟨fun q hq => of_decide_eq_false (h1 q hq), fun a ha l1 l2 => ?_⟩
    have h3 := h2 a ha
    rw [l1, l2] at h3
    have h4 : anB (fun q => decide (o q = a)) p0 = true := by
      revert h3
      cases anB (fun q => decide (o q = a)) p0 <;> simp
    obtain ⟨q, hq, hd⟩ := anB_iff.mp h4
    exact ⟨q, hq, of_decide_eq_true hd⟩
  · rintro ⟨h1, h2⟩
    refine ⟨fun q hq => decide_eq_false (h1 q hq), fun a ha => ?_⟩
    cases l1 : lsB W S a e
    · rw [Bool.and_false, Bool.false_and]
    · cases l2 : lsB W S e a
      · obtain ⟨q, hq, e1⟩ := h2 a ha l1 l2
        rw [anB_iff.mpr ⟨q, hq, decide_eq_true e1⟩]
        rfl
      · rw [Bool.not_true, Bool.and_false]
theorem ord_fin {W u p0 : Nat} {S : Nat → Nat → Bool} {o : Nat → Nat} {v : Int32} (hp : p0 < u) (h : lsI (fun e => ofr W u S o p0 e) 0 u v) : ∃ i, i < u ∧ v = nI i ∧ ofr W u S o p0 i ∧ ∀ k, k < i → ¬ ofr W u S o p0 k := by
  rcases h with ⟨i, -, h2, h3, h4, h5⟩ | ⟨-, h2⟩
  · exact ⟨i, h2, h3, h4, fun k hk => h5 k (Nat.zero_le _) hk⟩
  · obtain ⟨x, hx, hf⟩ := ord_ex (W := W) (S := S) (o := o) hp
    exact absurd hf (h2 x (Nat.zero_le _) hx)
theorem od_step {u p0 i : Nat} {o : Nat → Nat} {od : Nat → Int32} (h : ∀ q, q < p0 → od q = nI (o q) ∧ o q < u) (hi : i < u) : ∀ q, q < p0 + 1 → va_up od p0 (nI i) q = nI (va_up o p0 i q) ∧ va_up o p0 i q < u := by
  intro q hq
  by_cases z : q = p0
  · subst z; rw [va_up_s, va_up_s]; exact ⟨rfl, hi⟩
  · rw [va_up_o _ _ z, va_up_o _ _ z]; exact h q (by omega)

set_option maxHeartbeats 4000000 in
set_option maxRecDepth 100000 in
/-- order -/
theorem c_M_order (l : Launch) (D : va_G) (tc : Nat → ClassId) (x : Int32) (ad : Nat → Nat) (W : Nat) (u : Nat) (th : Int32) (kn : Bool) (lst : Int32) (sb : Int32) (mk : Nat → Int32) (cd : Nat → Int32) (lk : Nat → Int32) (fl : Nat → Int32) (vr : Nat → Int32) (wd : Nat → Int32) (cn : Nat → Int32) (li : Nat → Int32) (od : Nat → Int32) (μ : sx_M) (hS : MS tc μ ad W u th kn lst sb mk cd lk fl vr wd cn li od) (S : Nat → Nat → Bool) (ed : Nat → Nat → Nat) (hA : AW W u S ed) (hP : MP W u S ed kn mk cd lk fl vr wd cn li) : sx_Mi l yM_order (Cond.code yM_order cM_order 7 (some .int) :: sxW) (rmL 3 0 0) D sxCl (sxT tc) sxE [.ref (ad 0), .int x] μ (fun r μ' => ∃ k, R_ord W u S x k r ∧ MInv tc μ' (ad 0) W u S ed k) 0 0 := by
  have hW := hA.1.2
  have hu := hA.2.1
  refine sx_ofiQ (cc := cM_order) (maxL := 7) (ret := (some .int)) (own := RM) sxE_ok (by decide) rfl rfl (Nat.le_of_ble_eq_true rfl) [some (.ref (ad 0)), some (.int x), none, none, none, none, none] 5 rfl (fun p e s m below meth c A Q hQ C hr hlocks hnm => ?_)
  refine sx_aload_n C dM_order_0 rfl rfl ?_
  have J20 : SW p l e (rmL 3 0 0) s m [.ref (ad 0), .int x].toArray below meth c 7 D sxCl A 0 0 Q μ 20 [some (.ref (ad 0)), some (.int x), none, none, none, none, none] [.int (b2i (!isB u x)), .ref (ad 0)] := by
    refine sx_iconst (v := 0) C dM_order_20 (by decide) ?_
    refine sx_iconst (v := 0) C dM_order_21 (by decide) ?_
    refine sx_calli C (sx_runV (As := [.int (b2i (!isB u x)), .int 0, .int 0]) (rest := []) C sx_all (c_M_fails l D tc (!isB u x) false false ad W u th kn lst sb mk cd lk fl vr wd cn li od μ hS) (ci := 3) rfl (MS_f0 hS) (sx_cwV C 3 kM_M_69 ki_M_fails ke_M_fails kn_M kc_M_fails rfl rfl (by decide +kernel) ⟨Nat.le_of_ble_eq_true rfl, Nat.le_of_ble_eq_true rfl⟩) rfl rfl (Nat.le_of_ble_eq_true rfl) dM_order_22 ⟨Nat.le_of_ble_eq_true rfl, Nat.le_of_ble_eq_true rfl⟩) (fun q9 μ9 h9 => ?_)
    obtain ⟨h9, hT9⟩ := h9
    refine sx_eqi (b2i ((!isB u x) || false || false)) (h9) ?_
    refine sx_if_eq (tgt := 30) C dM_order_25 (by decide) (fun c25 => ?_) (fun c25 => ?_)
    · obtain ⟨t0, t1, t2, t3⟩ := th_0 (b2i_z.mp c25)
      rw [t0] at hT9
      obtain ⟨j, hj, hxj⟩ := (isB_iff hu).mp (th_f t1)
      refine sx_aload_n C dM_order_30 rfl rfl ?_
      refine sx_callv C (sx_runV (As := []) (rest := []) C sx_all (c_M_know l D tc ad W u 0 kn lst sb mk cd lk fl vr wd cn li od _ hT9 S ed hA hP) (ci := 3) rfl (MS_f0 hT9) (sx_cwV C 0 kM_M_97 ki_M_know ke_M_know kn_M kc_M_know rfl rfl (by decide +kernel) ⟨Nat.le_of_ble_eq_true rfl, Nat.le_of_ble_eq_true rfl⟩) rfl rfl (Nat.le_of_ble_eq_true rfl) dM_order_31 ⟨Nat.le_of_ble_eq_true rfl, Nat.le_of_ble_eq_true rfl⟩) (fun μ1 h1 => ?_)
      obtain ⟨cn1, li1, hS1, hP1⟩ := h1
      have hK := hP1.2.2 rfl
      refine sx_iconst (v := 0) C dM_order_34 (by decide) ?_
      refine sx_eqi (nI 0) (rfl) ?_
      refine sx_istore_n (lv' := [some (.ref (ad 0)), some (.int x), some (.int (nI 0)), none, none, none, none]) C dM_order_35 rfl (by decide) rfl rfl ?_
      have L36 : ∀ (fu : Nat) (p0 : Nat) (μ2 : sx_M) (od1 : Nat → Int32) (o : Nat → Nat), j + 1 - p0 < fu → (p0 ≤ j + 1) → (MS tc μ2 ad W u 0 true lst sb mk cd lk fl vr wd cn1 li1 od1) → (∀ q, q < p0 → od1 q = nI (o q) ∧ o q < u) → (∀ q, q < p0 → onx W u S o q) → SW p l e (rmL 3 0 0) s m [.ref (ad 0), .int x].toArray below meth c 7 D sxCl A 0 0 Q μ2 36 [some (.ref (ad 0)), some (.int x), some (.int (nI p0)), none, none, none, none] [] := by
        intro fu
        induction fu with
        | zero => intro _ _ _ _ h; exact absurd h (Nat.not_lt_zero _)
        | succ fu ih =>
          intro p0 μ2 od1 o hfu hp hS2 hod hox
          refine sx_iload_n C dM_order_36 rfl rfl ?_
          refine sx_iload_n C dM_order_37 rfl rfl ?_
          refine sx_eqi (nI j) (hxj) ?_
          refine sx_icmp_gt (tgt := 139) C dM_order_38 (by decide) (fun c38 => ?_) (fun c38 => ?_)
          · have hpj : p0 = j + 1 := by
              have := (nI_ltI (by omega) (by omega)).mp c38
              omega
            refine sx_aload_n C dM_order_139 rfl rfl ?_
            refine sx_getf (Cn := RM) (T := TM) (N := 17) C dM_order_140 (sx_in inM) rfl 14 (by decide) (sx_w C kF_M_36) (fun _ h => h) (MS_f0 hS2) rfl ?_
            refine sx_iload_n C dM_order_143 rfl rfl ?_
            refine sx_eqi (nI j) (hxj) ?_
            refine sx_iald (j := j) C dM_order_144 0 rfl (MS_f9 hS2) (rfl) ((by omega)) (Nat.le_of_ble_eq_true rfl) ?_
            refine sx_eqi (nI (o j)) ((hod j (by omega)).1) ?_
            exact sx_iretQ C hQ dM_order_145 hr hlocks (Nat.le_of_ble_eq_true rfl) (Nat.le_of_ble_eq_true rfl) (⟨0, Or.inl ⟨rfl, j, o, hj, hxj, fun q hq => hox q (by omega), rfl⟩, MInv_of hA hS2 hP1⟩)
          · have hpj : p0 ≤ j := Nat.not_lt.mp (fun z => c38 ((nI_ltI (by omega) (by omega)).mpr z))
            refine sx_iconst (v := -1) C dM_order_41 (by decide) ?_
            refine sx_istore_n (lv' := [some (.ref (ad 0)), some (.int x), some (.int (nI p0)), some (.int (-1)), none, none, none]) C dM_order_42 rfl (by decide) rfl rfl ?_
            refine sx_aload_n C dM_order_43 rfl rfl ?_
            refine sx_getf (Cn := RM) (T := TM) (N := 17) C dM_order_44 (sx_in inM) rfl 4 (by decide) (sx_w C kF_M_52) (fun _ h => h) (MS_f0 hS2) rfl ?_
            refine sx_iconst (v := 1) C dM_order_47 (by decide) ?_
            refine sx_isub C dM_order_48 ?_
            refine sx_istore (lv' := [some (.ref (ad 0)), some (.int x), some (.int (nI p0)), some (.int (-1)), some (.int ((nI u) - 1)), none, none]) C dM_order_49 (by decide) rfl rfl ?_
            have L51 : ∀ (fu2 : Nat) (n : Nat) (nx : Int32), n < fu2 → (n ≤ u) → (lsI (fun e => ofr W u S o p0 e) n u nx) → SW p l e (rmL 3 0 0) s m [.ref (ad 0), .int x].toArray below meth c 7 D sxCl A 0 0 Q μ2 51 [some (.ref (ad 0)), some (.int x), some (.int (nI p0)), some (.int nx), some (.int (nI n - 1)), none, none] [] := by
              intro fu2
              induction fu2 with
              | zero => intro _ _ h; exact absurd h (Nat.not_lt_zero _)
              | succ fu2 ih2 =>
                intro n nx hfu2 hn g1
                refine sx_iload C dM_order_51 rfl ?_
                refine sx_if_lt (tgt := 126) C dM_order_53 (by decide) (fun c53 => ?_) (fun c53 => ?_)
                · have hn0 : n = 0 := (m_neg (by omega)).mp c53
                  rw [hn0] at g1
                  obtain ⟨e1, he1, hnx, hf1, hf2⟩ := ord_fin (by omega) g1
                  refine sx_lvEq [some (.ref (ad 0)), some (.int x), some (.int (nI p0)), some (.int (nI e1)), some (.int (nI n - 1)), none, none] (by rw [hnx]) ?_
                  refine sx_aload_n C dM_order_126 rfl rfl ?_
                  refine sx_getf (Cn := RM) (T := TM) (N := 17) C dM_order_127 (sx_in inM) rfl 14 (by decide) (sx_w C kF_M_36) (fun _ h => h) (MS_f0 hS2) rfl ?_
                  refine sx_iload_n C dM_order_130 rfl rfl ?_
                  refine sx_iload_n C dM_order_131 rfl rfl ?_
                  refine sx_iast (j := p0) C dM_order_132 0 rfl (MS_f9 hS2) (rfl) ((by omega)) (Nat.le_of_ble_eq_true rfl) ?_
                  have hS3 := MS_od hS2 (va_up od1 p0 (nI e1))
                  refine sx_weak (lv' := [some (.ref (ad 0)), some (.int x), some (.int (nI p0)), none, none, none, none]) (And.intro rfl (And.intro rfl (And.intro rfl trivial))) ?_
                  refine sx_iinc (v := nI (p0 + 1)) (lv' := [some (.ref (ad 0)), some (.int x), some (.int (nI (p0 + 1))), none, none, none, none]) C dM_order_133 rfl (nI_1 p0) (by decide) rfl rfl ?_
                  refine sx_goto (tgt := 36) C dM_order_136 (by decide) ?_
                  exact ih (p0 + 1) _ _ (va_up o p0 e1) (by omega) (by omega) hS3 (od_step hod he1) (ox_step hox he1 hf1 hf2)
                · obtain ⟨e0, rfl⟩ : ∃ e0, n = e0 + 1 := ⟨n - 1, by have : ¬ n = 0 := fun z => c53 ((m_neg (by omega)).mpr z); omega⟩
                  refine sx_lvEq [some (.ref (ad 0)), some (.int x), some (.int (nI p0)), some (.int nx), some (.int (nI e0)), none, none] (by rw [nI_pred]) ?_
                  refine sx_iconst (v := 0) C dM_order_56 (by decide) ?_
                  refine sx_eqi (b2i (anB (fun q => decide (o q = e0)) 0)) (rfl) ?_
                  refine sx_istore (lv' := [some (.ref (ad 0)), some (.int x), some (.int (nI p0)), some (.int nx), some (.int (nI e0)), some (.int (b2i (anB (fun q => decide (o q = e0)) 0))), none]) C dM_order_57 (by decide) rfl rfl ?_
                  refine sx_iconst (v := 0) C dM_order_59 (by decide) ?_
                  refine sx_eqi (nI 0) (rfl) ?_
                  refine sx_istore (lv' := [some (.ref (ad 0)), some (.int x), some (.int (nI p0)), some (.int nx), some (.int (nI e0)), some (.int (b2i (anB (fun q => decide (o q = e0)) 0))), some (.int (nI 0))]) C dM_order_60 (by decide) rfl rfl ?_
                  have L62 : ∀ (fu3 : Nat) (q0 : Nat), p0 - q0 < fu3 → (q0 ≤ p0) → SW p l e (rmL 3 0 0) s m [.ref (ad 0), .int x].toArray below meth c 7 D sxCl A 0 0 Q μ2 62 [some (.ref (ad 0)), some (.int x), some (.int (nI p0)), some (.int nx), some (.int (nI e0)), some (.int (b2i (anB (fun q => decide (o q = e0)) q0))), some (.int (nI q0))] [] := by
                    intro fu3
                    induction fu3 with
                    | zero => intro _ h; exact absurd h (Nat.not_lt_zero _)
                    | succ fu3 ih3 =>
                      intro q0 hfu3 hq
                      refine sx_iload C dM_order_62 rfl ?_
                      refine sx_iload_n C dM_order_64 rfl rfl ?_
                      refine sx_icmp_ge (tgt := 98) C dM_order_65 (by decide) (fun c65 => ?_) (fun c65 => ?_)
                      · have hc65 : p0 ≤ q0 := (nI_leI (by omega) (by omega)).mp c65
                        obtain rfl : p0 = q0 := by omega
                        have J119 : SW p l e (rmL 3 0 0) s m [.ref (ad 0), .int x].toArray below meth c 7 D sxCl A 0 0 Q μ2 119 [some (.ref (ad 0)), some (.int x), some (.int (nI p0)), some (.int nx), some (.int (nI e0)), some (.int (b2i (anB (fun q => decide (o q = e0)) p0))), some (.int (nI p0))] [.int (if ((!anB (fun q => decide (o q = e0)) p0) && !anB (fun a => !anB (fun q => decide (o q = a)) p0 && lsB W S a e0 && !lsB W S e0 a) u) = true then nI e0 else nx)] := by
                          refine sx_istore_n (lv' := [some (.ref (ad 0)), some (.int x), some (.int (nI p0)), some (.int (if ((!anB (fun q => decide (o q = e0)) p0) && !anB (fun a => !anB (fun q => decide (o q = a)) p0 && lsB W S a e0 && !lsB W S e0 a) u) = true then nI e0 else nx)), some (.int (nI e0)), some (.int (b2i (anB (fun q => decide (o q = e0)) p0))), some (.int (nI p0))]) C dM_order_119 rfl (by decide) rfl rfl ?_
                          refine sx_weak (lv' := [some (.ref (ad 0)), some (.int x), some (.int (nI p0)), some (.int (if ((!anB (fun q => decide (o q = e0)) p0) && !anB (fun a => !anB (fun q => decide (o q = a)) p0 && lsB W S a e0 && !lsB W S e0 a) u) = true then nI e0 else nx)), some (.int (nI e0)), none, none]) (And.intro rfl (And.intro rfl (And.intro rfl (And.intro rfl (And.intro rfl trivial))))) ?_
                          refine sx_iinc (v := nI e0 - 1) (lv' := [some (.ref (ad 0)), some (.int x), some (.int (nI p0)), some (.int (if ((!anB (fun q => decide (o q = e0)) p0) && !anB (fun a => !anB (fun q => decide (o q = a)) p0 && lsB W S a e0 && !lsB W S e0 a) u) = true then nI e0 else nx)), some (.int (nI e0 - 1)), none, none]) C dM_order_120 rfl (m_dec e0) (by decide) rfl rfl ?_
                          refine sx_goto (tgt := 51) C dM_order_123 (by decide) ?_
                          exact ih2 e0 _ (by omega) (by omega) (lsI_b (P := fun e => ofr W u S o p0 e) (by omega) of_iff g1)
                        refine sx_iload C dM_order_98 rfl ?_
                        refine sx_if_ne (tgt := 118) C dM_order_100 (by decide) (fun c100 => ?_) (fun c100 => ?_)
                        · refine sx_iload_n C dM_order_118 rfl rfl ?_
                          refine sx_eqi ((if ((!anB (fun q => decide (o q = e0)) p0) && !anB (fun a => !anB (fun q => decide (o q = a)) p0 && lsB W S a e0 && !lsB W S e0 a) u) = true then nI e0 else nx)) (by first | (rw [b2i_ne.mp c100]; rfl) | (rw [b2i_z.mp c100, b2i_ne.mp c110]; rfl) | (rw [b2i_z.mp c100, b2i_z.mp c110]; rfl)) ?_
                          exact J119
                        · refine sx_aload_n C dM_order_103 rfl rfl ?_
                          refine sx_iload C dM_order_104 rfl ?_
                          refine sx_iload_n C dM_order_106 rfl rfl ?_
                          refine sx_calli C (sx_runV (As := [.int (nI e0), .int (nI p0)]) (rest := []) C sx_all (c_M_waits l D tc e0 p0 o ad W u 0 true lst sb mk cd lk fl vr wd cn1 li1 od1 μ2 hS2 S ed hA hP1 hK (by omega) (by omega) hod) (ci := 3) rfl (MS_f0 hS2) (sx_cwV C 2 kM_M_137 ki_M_waits ke_M_waits kn_M kc_M_waits rfl rfl (by decide +kernel) ⟨Nat.le_of_ble_eq_true rfl, Nat.le_of_ble_eq_true rfl⟩) rfl rfl (Nat.le_of_ble_eq_true rfl) dM_order_107 ⟨Nat.le_of_ble_eq_true rfl, Nat.le_of_ble_eq_true rfl⟩) (fun q6 μ6 h6 => ?_)
                          obtain ⟨hm, h6⟩ := h6
                          subst hm
                          refine sx_eqi (b2i (anB (fun a => !anB (fun q => decide (o q = a)) p0 && lsB W S a e0 && !lsB W S e0 a) u)) (h6) ?_
                          refine sx_if_ne (tgt := 118) C dM_order_110 (by decide) (fun c110 => ?_) (fun c110 => ?_)
                          · refine sx_iload_n C dM_order_118 rfl rfl ?_
                            refine sx_eqi ((if ((!anB (fun q => decide (o q = e0)) p0) && !anB (fun a => !anB (fun q => decide (o q = a)) p0 && lsB W S a e0 && !lsB W S e0 a) u) = true then nI e0 else nx)) (by first | (rw [b2i_ne.mp c100]; rfl) | (rw [b2i_z.mp c100, b2i_ne.mp c110]; rfl) | (rw [b2i_z.mp c100, b2i_z.mp c110]; rfl)) ?_
                            exact J119
                          · refine sx_iload C dM_order_113 rfl ?_
                            refine sx_goto (tgt := 119) C dM_order_115 (by decide) ?_
                            refine sx_eqi ((if ((!anB (fun q => decide (o q = e0)) p0) && !anB (fun a => !anB (fun q => decide (o q = a)) p0 && lsB W S a e0 && !lsB W S e0 a) u) = true then nI e0 else nx)) (by first | (rw [b2i_ne.mp c100]; rfl) | (rw [b2i_z.mp c100, b2i_ne.mp c110]; rfl) | (rw [b2i_z.mp c100, b2i_z.mp c110]; rfl)) ?_
                            exact J119
                      · have hc65 : ¬ p0 ≤ q0 := fun h => c65 ((nI_leI (by omega) (by omega)).mpr h)
                        have J90 : SW p l e (rmL 3 0 0) s m [.ref (ad 0), .int x].toArray below meth c 7 D sxCl A 0 0 Q μ2 90 [some (.ref (ad 0)), some (.int x), some (.int (nI p0)), some (.int nx), some (.int (nI e0)), some (.int (b2i (anB (fun q => decide (o q = e0)) q0))), some (.int (nI q0))] [.int (b2i (anB (fun q => decide (o q = e0)) (q0 + 1)))] := by
                          refine sx_istore (lv' := [some (.ref (ad 0)), some (.int x), some (.int (nI p0)), some (.int nx), some (.int (nI e0)), some (.int (b2i (anB (fun q => decide (o q = e0)) (q0 + 1)))), some (.int (nI q0))]) C dM_order_90 (by decide) rfl rfl ?_
                          refine sx_iinc (v := nI (q0 + 1)) (lv' := [some (.ref (ad 0)), some (.int x), some (.int (nI p0)), some (.int nx), some (.int (nI e0)), some (.int (b2i (anB (fun q => decide (o q = e0)) (q0 + 1)))), some (.int (nI (q0 + 1)))]) C dM_order_92 rfl (nI_1 q0) (by decide) rfl rfl ?_
                          refine sx_goto (tgt := 62) C dM_order_95 (by decide) ?_
                          exact ih3 (q0 + 1) (by omega) (by omega)
                        refine sx_iload C dM_order_68 rfl ?_
                        refine sx_if_ne (tgt := 85) C dM_order_70 (by decide) (fun c70 => ?_) (fun c70 => ?_)
                        · refine sx_iconst (v := 1) C dM_order_85 (by decide) ?_
                          refine sx_goto (tgt := 90) C dM_order_86 (by decide) ?_
                          refine sx_eqi ((b2i (anB (fun q => decide (o q = e0)) (q0 + 1)))) (by first | exact st_y (b2i_ne.mp c70) | exact st_1 (b2i_z.mp c70) b82 | exact st_0 (b2i_z.mp c70) b82) ?_
                          exact J90
                        · refine sx_aload_n C dM_order_73 rfl rfl ?_
                          refine sx_getf (Cn := RM) (T := TM) (N := 17) C dM_order_74 (sx_in inM) rfl 14 (by decide) (sx_w C kF_M_36) (fun _ h => h) (MS_f0 hS2) rfl ?_
                          refine sx_iload C dM_order_77 rfl ?_
                          refine sx_iald (j := q0) C dM_order_79 0 rfl (MS_f9 hS2) (rfl) ((by omega)) (Nat.le_of_ble_eq_true rfl) ?_
                          refine sx_eqi (nI (o q0)) ((hod q0 (by omega)).1) ?_
                          refine sx_iload C dM_order_80 rfl ?_
                          refine sx_icmp_ne (tgt := 89) C dM_order_82 (by decide) (fun c82 => ?_) (fun c82 => ?_)
                          · have b82 : ¬ o q0 = e0 := fun z => c82 (by rw [z])
                            refine sx_iconst (v := 0) C dM_order_89 (by decide) ?_
                            refine sx_eqi ((b2i (anB (fun q => decide (o q = e0)) (q0 + 1)))) (by first | exact st_y (b2i_ne.mp c70) | exact st_1 (b2i_z.mp c70) b82 | exact st_0 (b2i_z.mp c70) b82) ?_
                            exact J90
                          · have b82 : o q0 = e0 := (ab_nI (by have := (hod q0 (by omega)).2; omega) (by omega)).mp c82
                            refine sx_iconst (v := 1) C dM_order_85 (by decide) ?_
                            refine sx_goto (tgt := 90) C dM_order_86 (by decide) ?_
                            refine sx_eqi ((b2i (anB (fun q => decide (o q = e0)) (q0 + 1)))) (by first | exact st_y (b2i_ne.mp c70) | exact st_1 (b2i_z.mp c70) b82 | exact st_0 (b2i_z.mp c70) b82) ?_
                            exact J90
                  exact L62 _ 0 (Nat.lt_succ_self _) (Nat.zero_le _)
            exact L51 _ u (-1) (Nat.lt_succ_self _) (Nat.le_refl _) lsI_u
      exact L36 _ 0 μ1 od (fun _ => 0) (Nat.lt_succ_self _) (Nat.zero_le _) hS1 (fun q hq => absurd hq (Nat.not_lt_zero _)) (fun q hq => absurd hq (Nat.not_lt_zero _))
    · obtain ⟨z2, z1⟩ := th_1 (b2i_ne.mp c25)
      refine sx_iconst (v := 0) C dM_order_28 (by decide) ?_
      exact sx_iretQ C hQ dM_order_29 hr hlocks (Nat.le_of_ble_eq_true rfl) (Nat.le_of_ble_eq_true rfl) (⟨_, Or.inr ⟨z2, (isB_ff hu).mp (th_n z1)⟩, MInv_of hA hT9 hP⟩)
  refine sx_iload_n C dM_order_1 rfl rfl ?_
  refine sx_iconst (v := 0) C dM_order_2 (by decide) ?_
  refine sx_aload_n C dM_order_3 rfl rfl ?_
  refine sx_getf (Cn := RM) (T := TM) (N := 17) C dM_order_4 (sx_in inM) rfl 4 (by decide) (sx_w C kF_M_52) (fun _ h => h) (MS_f0 hS) rfl ?_
  refine sx_iconst (v := 1) C dM_order_7 (by decide) ?_
  refine sx_isub C dM_order_8 ?_
  refine sx_calli C (sx_runS (As := [.int x, .int 0, .int ((nI u) - 1)]) (rest := [.ref (ad 0)]) C sx_all (c_M_in l D tc x 0 (nI u - 1) μ) (sx_cwS C 3 kM_M_55 ks_M_in kn_M kc_M_in rfl rfl (by decide +kernel) ⟨Nat.le_of_ble_eq_true rfl, Nat.le_of_ble_eq_true rfl⟩) rfl rfl (Nat.le_of_ble_eq_true rfl) dM_order_9 ⟨Nat.le_of_ble_eq_true rfl, Nat.le_of_ble_eq_true rfl⟩) (fun q2 μ2 h2 => ?_)
  obtain ⟨hm, h2⟩ := h2
  subst hm
  refine sx_eqi (b2i (isB u x)) (h2) ?_
  refine sx_if_ne (tgt := 19) C dM_order_12 (by decide) (fun c12 => ?_) (fun c12 => ?_)
  · refine sx_iconst (v := 0) C dM_order_19 (by decide) ?_
    refine sx_eqi ((b2i (!isB u x))) (by first | (rw [b2i_z.mp c12]; rfl) | (rw [b2i_ne.mp c12]; rfl)) ?_
    exact J20
  · refine sx_iconst (v := 1) C dM_order_15 (by decide) ?_
    refine sx_goto (tgt := 20) C dM_order_16 (by decide) ?_
    refine sx_eqi ((b2i (!isB u x))) (by first | (rw [b2i_z.mp c12]; rfl) | (rw [b2i_ne.mp c12]; rfl)) ?_
    exact J20
