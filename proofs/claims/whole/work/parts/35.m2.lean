section MPS
variable {W u i : Nat} {S : Nat → Nat → Bool} {ed : Nat → Nat → Nat} {kn : Bool} {mk cd lk fl vr wd cn li : Nat → Int32}
theorem mp_fl (hP : MP W u S ed kn mk cd lk fl vr wd cn li) (v : Nat) : MP W u S (edU ed i (ed 0 i) (ed 1 i) v (ed 3 i) (ed 4 i)) kn mk cd lk (va_up fl i (nI v)) vr wd cn li := by
  refine ⟨fun e he => ?_, hP.2.1, hP.2.2⟩
  obtain ⟨h0, h1, h2, h3, h4⟩ := hP.1 e he
  by_cases z : e = i
  · subst z
    simp only [edU_s, edV, va_up_s]
    exact ⟨h0, h1, trivial, h3, h4⟩
  · simp only [edU_n _ _ _ _ _ _ _ z, va_up_o _ _ z]
    exact ⟨h0, h1, h2, h3, h4⟩
theorem mp_vr (hP : MP W u S ed kn mk cd lk fl vr wd cn li) (v : Nat) : MP W u S (edU ed i (ed 0 i) (ed 1 i) (ed 2 i) (ed 3 i) v) kn mk cd lk fl (va_up vr i (nI v)) wd cn li := by
  refine ⟨fun e he => ?_, hP.2.1, hP.2.2⟩
  obtain ⟨h0, h1, h2, h3, h4⟩ := hP.1 e he
  by_cases z : e = i
  · subst z
    simp only [edU_s, edV, va_up_s]
    exact ⟨h0, h1, h2, h3, trivial⟩
  · simp only [edU_n _ _ _ _ _ _ _ z, va_up_o _ _ z]
    exact ⟨h0, h1, h2, h3, h4⟩
end MPS
theorem fdB_ff {W : Nat} {f t : Int32} (hW : W ≤ 16) (h : fdB W f t = false) : ∀ a b, a ≤ b → b < W → ¬ (f = nI a ∧ t = nI b) := by
  rintro a b h1 h2 ⟨h3, h4⟩
  rw [(fdB_iff hW).mpr ⟨a, b, h1, h2, h3, h4⟩] at h
  cases h
theorem vaB_iff {v : Int32} : inB v 0 255 = true ↔ ∃ n, n < 256 ∧ v = nI n := by
  rw [inB_le (hi := 255) (n := 255) rfl (by omega)]
  constructor
  · rintro ⟨j, h, e⟩; exact ⟨j, by omega, e⟩
  · rintro ⟨j, h, e⟩; exact ⟨j, by omega, e⟩
theorem vaB_ff {v : Int32} (h : inB v 0 255 = false) : ∀ n, n < 256 → v ≠ nI n := fun n hn e => by
  rw [vaB_iff.mpr ⟨n, hn, e⟩] at h
  cases h

set_option maxHeartbeats 4000000 in
set_option maxRecDepth 100000 in
/-- operand -/
theorem c_M_operand (l : Launch) (D : va_G) (tc : Nat → ClassId) (x f t : Int32) (ad : Nat → Nat) (W : Nat) (u : Nat) (th : Int32) (kn : Bool) (lst : Int32) (sb : Int32) (mk : Nat → Int32) (cd : Nat → Int32) (lk : Nat → Int32) (fl : Nat → Int32) (vr : Nat → Int32) (wd : Nat → Int32) (cn : Nat → Int32) (li : Nat → Int32) (od : Nat → Int32) (μ : sx_M) (hS : MS tc μ ad W u th kn lst sb mk cd lk fl vr wd cn li od) (S : Nat → Nat → Bool) (ed : Nat → Nat → Nat) (hA : AW W u S ed) (hP : MP W u S ed kn mk cd lk fl vr wd cn li) : sx_Mi l yM_operand (Cond.code yM_operand cM_operand 5 (some .int) :: sxW) (rmL 2 0 0) D sxCl (sxT tc) sxE [.ref (ad 0), .int x, .int f, .int t] μ (fun r μ' => ∃ k ed', R_opd W u ed x f t k r ed' ∧ MInv tc μ' (ad 0) W u S ed' k) 0 0 := by
  have hW := hA.1.2
  have hu := hA.2.1
  refine sx_ofiQ (cc := cM_operand) (maxL := 5) (ret := (some .int)) (own := RM) sxE_ok (by decide) rfl rfl (Nat.le_of_ble_eq_true rfl) [some (.ref (ad 0)), some (.int x), some (.int f), some (.int t), none] 1 rfl (fun p e s m below meth c A Q hQ C hr hlocks hnm => ?_)
  refine sx_aload_n C dM_operand_0 rfl rfl ?_
  have J14 : SW p l e (rmL 2 0 0) s m [.ref (ad 0), .int x, .int f, .int t].toArray below meth c 5 D sxCl A 0 0 Q μ 14 [some (.ref (ad 0)), some (.int x), some (.int f), some (.int t), none] [.int (b2i (!isB u x)), .ref (ad 0)] := by
    have J28 : SW p l e (rmL 2 0 0) s m [.ref (ad 0), .int x, .int f, .int t].toArray below meth c 5 D sxCl A 0 0 Q μ 28 [some (.ref (ad 0)), some (.int x), some (.int f), some (.int t), none] [.int (b2i (!fdB W f t)), .int (b2i (!isB u x)), .ref (ad 0)] := by
      refine sx_iconst (v := 0) C dM_operand_28 (by decide) ?_
      refine sx_calli C (sx_runV (As := [.int (b2i (!isB u x)), .int (b2i (!fdB W f t)), .int 0]) (rest := []) C sx_all (c_M_fails l D tc (!isB u x) (!fdB W f t) false ad W u th kn lst sb mk cd lk fl vr wd cn li od μ hS) (ci := 3) rfl (MS_f0 hS) (sx_cwV C 3 kM_M_69 ki_M_fails ke_M_fails kn_M kc_M_fails rfl rfl (by decide +kernel) ⟨Nat.le_of_ble_eq_true rfl, Nat.le_of_ble_eq_true rfl⟩) rfl rfl (Nat.le_of_ble_eq_true rfl) dM_operand_29 ⟨Nat.le_of_ble_eq_true rfl, Nat.le_of_ble_eq_true rfl⟩) (fun q9 μ9 h9 => ?_)
      obtain ⟨h9, hT9⟩ := h9
      refine sx_eqi (b2i ((!isB u x) || (!fdB W f t) || false)) (h9) ?_
      refine sx_if_eq (tgt := 37) C dM_operand_32 (by decide) (fun c32 => ?_) (fun c32 => ?_)
      · obtain ⟨t0, t1, t2, t3⟩ := th_0 (b2i_z.mp c32)
        rw [t0] at hT9
        obtain ⟨i, hi, hxi⟩ := (isB_iff hu).mp (th_f t1)
        obtain ⟨a, b, hab, hbW, hfa, htb⟩ := (fdB_iff hW).mp (th_f t2)
        have hi4 : i < 40 := by omega
        have hE := hP.1 i hi
        refine sx_iload_n C dM_operand_37 rfl rfl ?_
        refine sx_eqi (nI a) (hfa) ?_
        refine sx_iload_n C dM_operand_38 rfl rfl ?_
        refine sx_eqi (nI b) (htb) ?_
        refine sx_calli C (sx_runS (As := [.int (nI a), .int (nI b)]) (rest := []) C sx_all (c_M_bitsOf l D tc a b μ9 hab (by omega)) (sx_cwS C 2 kM_M_86 ks_M_bitsOf kn_M kc_M_bitsOf rfl rfl (by decide +kernel) ⟨Nat.le_of_ble_eq_true rfl, Nat.le_of_ble_eq_true rfl⟩) rfl rfl (Nat.le_of_ble_eq_true rfl) dM_operand_39 ⟨Nat.le_of_ble_eq_true rfl, Nat.le_of_ble_eq_true rfl⟩) (fun q4 μ4 h4 => ?_)
        obtain ⟨hm, h4⟩ := h4
        subst hm
        refine sx_eqi (nI (fbN a b)) (h4) ?_
        refine sx_aload_n C dM_operand_42 rfl rfl ?_
        refine sx_getf (Cn := RM) (T := TM) (N := 17) C dM_operand_43 (sx_in inM) rfl 8 (by decide) (sx_w C kF_M_19) (fun _ h => h) (MS_f0 hT9) rfl ?_
        refine sx_iload_n C dM_operand_46 rfl rfl ?_
        refine sx_eqi (nI i) (hxi) ?_
        refine sx_iald (j := i) C dM_operand_47 0 rfl (MS_f4 hT9) (rfl) (hi4) (Nat.le_of_ble_eq_true rfl) ?_
        refine sx_eqi (nI (ed 2 i)) (hE.2.2.1) ?_
        refine sx_iconst (v := -1) C dM_operand_48 (by decide) ?_
        refine sx_ixor C dM_operand_49 ?_
        refine sx_iand C dM_operand_50 ?_
        refine sx_istore (lv' := [some (.ref (ad 0)), some (.int x), some (.int f), some (.int t), some (.int ((nI (fbN a b)) &&& ((nI (ed 2 i)) ^^^ (-1))))]) C dM_operand_51 (by decide) rfl rfl ?_
        refine sx_aload_n C dM_operand_53 rfl rfl ?_
        refine sx_getf (Cn := RM) (T := TM) (N := 17) C dM_operand_54 (sx_in inM) rfl 8 (by decide) (sx_w C kF_M_19) (fun _ h => h) (MS_f0 hT9) rfl ?_
        refine sx_iload_n C dM_operand_57 rfl rfl ?_
        refine sx_eqi (nI i) (hxi) ?_
        refine sx_dup2_11 C dM_operand_58 rfl rfl ?_
        refine sx_iald (j := i) C dM_operand_59 0 rfl (MS_f4 hT9) (rfl) (hi4) (Nat.le_of_ble_eq_true rfl) ?_
        refine sx_eqi (nI (ed 2 i)) (hE.2.2.1) ?_
        refine sx_iload C dM_operand_60 rfl ?_
        refine sx_ior C dM_operand_62 ?_
        refine sx_eqi (nI (ed 2 i ||| fbN a b)) (op_or _ _) ?_
        refine sx_iast (j := i) C dM_operand_63 0 rfl (MS_f4 hT9) (rfl) (hi4) (Nat.le_of_ble_eq_true rfl) ?_
        have hS2 : MS tc (sx_up μ9 (ad 4) (.inl (tc 0, 40, .inl (va_up fl i (nI (ed 2 i ||| fbN a b)))))) ad W u 0 kn lst sb mk cd lk (va_up fl i (nI (ed 2 i ||| fbN a b))) vr wd cn li od := MS_fl hT9 _
        refine sx_iload C dM_operand_64 rfl ?_
        refine sx_calli C (sx_runS (As := [.int ((nI (fbN a b)) &&& ((nI (ed 2 i)) ^^^ (-1)))]) (rest := []) C sx_all (c_M_ones l D tc (nI (fbN a b) &&& (nI (ed 2 i) ^^^ (-1))) _) (sx_cwS C 1 kM_M_63 ks_M_ones kn_M kc_M_ones rfl rfl (by decide +kernel) ⟨Nat.le_of_ble_eq_true rfl, Nat.le_of_ble_eq_true rfl⟩) rfl rfl (Nat.le_of_ble_eq_true rfl) dM_operand_66 ⟨Nat.le_of_ble_eq_true rfl, Nat.le_of_ble_eq_true rfl⟩) (fun q5 μ5 h5 => ?_)
        obtain ⟨hm, h5⟩ := h5
        subst hm
        refine sx_eqi (nI (pop32 (nI (fbN a b) &&& (nI (ed 2 i) ^^^ (-1))))) (h5) ?_
        exact sx_iretQ C hQ dM_operand_69 hr hlocks (Nat.le_of_ble_eq_true rfl) (Nat.le_of_ble_eq_true rfl) (⟨0, _, Or.inl ⟨rfl, i, a, b, hi, hxi, ⟨hab, hbW, hfa, htb⟩, rfl, rfl⟩, MInv_of (ed_AW hA hi (hA.2.2.2 i hi).2.1 (or_lt (hA.2.2.2 i hi).2.2.1 (fbN_lt hbW)) (hA.2.2.2 i hi).2.2.2.1 (hA.2.2.2 i hi).2.2.2.2) hS2 (mp_fl hP _)⟩)
      · have hR : R_opd W u ed x f t (thI (!isB u x) (!fdB W f t) false) 0 ed := by
          rcases th_2 (b2i_ne.mp c32) with ⟨z1, z2⟩ | ⟨z1, z2, z3⟩
          · exact Or.inr ⟨Or.inl ⟨z2, (isB_ff hu).mp (th_n z1)⟩, rfl⟩
          · exact Or.inr ⟨Or.inr ⟨z3, (isB_iff hu).mp (th_f z1), fdB_ff hW (th_n z2)⟩, rfl⟩
        refine sx_iconst (v := 0) C dM_operand_35 (by decide) ?_
        exact sx_iretQ C hQ dM_operand_36 hr hlocks (Nat.le_of_ble_eq_true rfl) (Nat.le_of_ble_eq_true rfl) (⟨_, ed, hR, MInv_of hA hT9 hP⟩)
    refine sx_aload_n C dM_operand_14 rfl rfl ?_
    refine sx_iload_n C dM_operand_15 rfl rfl ?_
    refine sx_iload_n C dM_operand_16 rfl rfl ?_
    refine sx_calli C (sx_runV (As := [.int f, .int t]) (rest := [.int (b2i (!isB u x)), .ref (ad 0)]) C sx_all (c_M_isField l D tc f t ad W u th kn lst sb mk cd lk fl vr wd cn li od μ hS) (ci := 3) rfl (MS_f0 hS) (sx_cwV C 2 kM_M_77 ki_M_isField ke_M_isField kn_M kc_M_isField rfl rfl (by decide +kernel) ⟨Nat.le_of_ble_eq_true rfl, Nat.le_of_ble_eq_true rfl⟩) rfl rfl (Nat.le_of_ble_eq_true rfl) dM_operand_17 ⟨Nat.le_of_ble_eq_true rfl, Nat.le_of_ble_eq_true rfl⟩) (fun q2 μ2 h2 => ?_)
    obtain ⟨hm, h2⟩ := h2
    subst hm
    refine sx_eqi (b2i (fdB W f t)) (h2) ?_
    refine sx_if_ne (tgt := 27) C dM_operand_20 (by decide) (fun c20 => ?_) (fun c20 => ?_)
    · refine sx_iconst (v := 0) C dM_operand_27 (by decide) ?_
      refine sx_eqi ((b2i (!fdB W f t))) (by first | (rw [b2i_z.mp c20]; rfl) | (rw [b2i_ne.mp c20]; rfl)) ?_
      exact J28
    · refine sx_iconst (v := 1) C dM_operand_23 (by decide) ?_
      refine sx_goto (tgt := 28) C dM_operand_24 (by decide) ?_
      refine sx_eqi ((b2i (!fdB W f t))) (by first | (rw [b2i_z.mp c20]; rfl) | (rw [b2i_ne.mp c20]; rfl)) ?_
      exact J28
  refine sx_aload_n C dM_operand_1 rfl rfl ?_
  refine sx_iload_n C dM_operand_2 rfl rfl ?_
  refine sx_calli C (sx_runV (As := [.int x]) (rest := [.ref (ad 0)]) C sx_all (c_M_is l D tc x ad W u th kn lst sb mk cd lk fl vr wd cn li od μ hS) (ci := 3) rfl (MS_f0 hS) (sx_cwV C 1 kM_M_82 ki_M_is ke_M_is kn_M kc_M_is rfl rfl (by decide +kernel) ⟨Nat.le_of_ble_eq_true rfl, Nat.le_of_ble_eq_true rfl⟩) rfl rfl (Nat.le_of_ble_eq_true rfl) dM_operand_3 ⟨Nat.le_of_ble_eq_true rfl, Nat.le_of_ble_eq_true rfl⟩) (fun qi μi hi0 => ?_)
  obtain ⟨hm, hi0⟩ := hi0
  subst hm
  refine sx_eqi (b2i (isB u x)) (hi0) ?_
  refine sx_if_ne (tgt := 13) C dM_operand_6 (by decide) (fun c6 => ?_) (fun c6 => ?_)
  · refine sx_iconst (v := 0) C dM_operand_13 (by decide) ?_
    refine sx_eqi ((b2i (!isB u x))) (by first | (rw [b2i_z.mp c6]; rfl) | (rw [b2i_ne.mp c6]; rfl)) ?_
    exact J14
  · refine sx_iconst (v := 1) C dM_operand_9 (by decide) ?_
    refine sx_goto (tgt := 14) C dM_operand_10 (by decide) ?_
    refine sx_eqi ((b2i (!isB u x))) (by first | (rw [b2i_z.mp c6]; rfl) | (rw [b2i_ne.mp c6]; rfl)) ?_
    exact J14

set_option maxHeartbeats 4000000 in
set_option maxRecDepth 100000 in
/-- needs -/
theorem c_M_needs (l : Launch) (D : va_G) (tc : Nat → ClassId) (x v : Int32) (ad : Nat → Nat) (W : Nat) (u : Nat) (th : Int32) (kn : Bool) (lst : Int32) (sb : Int32) (mk : Nat → Int32) (cd : Nat → Int32) (lk : Nat → Int32) (fl : Nat → Int32) (vr : Nat → Int32) (wd : Nat → Int32) (cn : Nat → Int32) (li : Nat → Int32) (od : Nat → Int32) (μ : sx_M) (hS : MS tc μ ad W u th kn lst sb mk cd lk fl vr wd cn li od) (S : Nat → Nat → Bool) (ed : Nat → Nat → Nat) (hA : AW W u S ed) (hP : MP W u S ed kn mk cd lk fl vr wd cn li) : sx_Mi l yM_needs (Cond.code yM_needs cM_needs 4 (some .int) :: sxW) (rmL 2 0 0) D sxCl (sxT tc) sxE [.ref (ad 0), .int x, .int v] μ (fun r μ' => ∃ k ed', R_nds u ed x v k r ed' ∧ MInv tc μ' (ad 0) W u S ed' k) 0 0 := by
  have hW := hA.1.2
  have hu := hA.2.1
  refine sx_ofiQ (cc := cM_needs) (maxL := 4) (ret := (some .int)) (own := RM) sxE_ok (by decide) rfl rfl (Nat.le_of_ble_eq_true rfl) [some (.ref (ad 0)), some (.int x), some (.int v), none] 1 rfl (fun p e s m below meth c A Q hQ C hr hlocks hnm => ?_)
  refine sx_aload_n C dM_needs_0 rfl rfl ?_
  have J14 : SW p l e (rmL 2 0 0) s m [.ref (ad 0), .int x, .int v].toArray below meth c 4 D sxCl A 0 0 Q μ 14 [some (.ref (ad 0)), some (.int x), some (.int v), none] [.int (b2i (!isB u x)), .ref (ad 0)] := by
    have J30 : SW p l e (rmL 2 0 0) s m [.ref (ad 0), .int x, .int v].toArray below meth c 4 D sxCl A 0 0 Q μ 30 [some (.ref (ad 0)), some (.int x), some (.int v), none] [.int (b2i (!inB v 0 255)), .int (b2i (!isB u x)), .ref (ad 0)] := by
      refine sx_iconst (v := 0) C dM_needs_30 (by decide) ?_
      refine sx_calli C (sx_runV (As := [.int (b2i (!isB u x)), .int (b2i (!inB v 0 255)), .int 0]) (rest := []) C sx_all (c_M_fails l D tc (!isB u x) (!inB v 0 255) false ad W u th kn lst sb mk cd lk fl vr wd cn li od μ hS) (ci := 3) rfl (MS_f0 hS) (sx_cwV C 3 kM_M_69 ki_M_fails ke_M_fails kn_M kc_M_fails rfl rfl (by decide +kernel) ⟨Nat.le_of_ble_eq_true rfl, Nat.le_of_ble_eq_true rfl⟩) rfl rfl (Nat.le_of_ble_eq_true rfl) dM_needs_31 ⟨Nat.le_of_ble_eq_true rfl, Nat.le_of_ble_eq_true rfl⟩) (fun q9 μ9 h9 => ?_)
      obtain ⟨h9, hT9⟩ := h9
      refine sx_eqi (b2i ((!isB u x) || (!inB v 0 255) || false)) (h9) ?_
      refine sx_if_eq (tgt := 39) C dM_needs_34 (by decide) (fun c34 => ?_) (fun c34 => ?_)
      · obtain ⟨t0, t1, t2, t3⟩ := th_0 (b2i_z.mp c34)
        rw [t0] at hT9
        obtain ⟨i, hi, hxi⟩ := (isB_iff hu).mp (th_f t1)
        obtain ⟨n, hn, hvn⟩ := vaB_iff.mp (th_f t2)
        have hi4 : i < 40 := by omega
        have hE := hP.1 i hi
        refine sx_aload_n C dM_needs_39 rfl rfl ?_
        refine sx_getf (Cn := RM) (T := TM) (N := 17) C dM_needs_40 (sx_in inM) rfl 9 (by decide) (sx_w C kF_M_22) (fun _ h => h) (MS_f0 hT9) rfl ?_
        refine sx_iload_n C dM_needs_43 rfl rfl ?_
        refine sx_eqi (nI i) (hxi) ?_
        refine sx_iald (j := i) C dM_needs_44 0 rfl (MS_f5 hT9) (rfl) (hi4) (Nat.le_of_ble_eq_true rfl) ?_
        refine sx_eqi (nI (ed 4 i)) (hE.2.2.2.2) ?_
        refine sx_istore_n (lv' := [some (.ref (ad 0)), some (.int x), some (.int v), some (.int (nI (ed 4 i)))]) C dM_needs_45 rfl (by decide) rfl rfl ?_
        refine sx_aload_n C dM_needs_46 rfl rfl ?_
        refine sx_getf (Cn := RM) (T := TM) (N := 17) C dM_needs_47 (sx_in inM) rfl 9 (by decide) (sx_w C kF_M_22) (fun _ h => h) (MS_f0 hT9) rfl ?_
        refine sx_iload_n C dM_needs_50 rfl rfl ?_
        refine sx_eqi (nI i) (hxi) ?_
        refine sx_iload_n C dM_needs_51 rfl rfl ?_
        refine sx_eqi (nI n) (hvn) ?_
        refine sx_iast (j := i) C dM_needs_52 0 rfl (MS_f5 hT9) (rfl) (hi4) (Nat.le_of_ble_eq_true rfl) ?_
        have hS2 : MS tc (sx_up μ9 (ad 5) (.inl (tc 0, 40, .inl (va_up vr i (nI n))))) ad W u 0 kn lst sb mk cd lk fl (va_up vr i (nI n)) wd cn li od := MS_vr hT9 _
        refine sx_iload_n C dM_needs_53 rfl rfl ?_
        exact sx_iretQ C hQ dM_needs_54 hr hlocks (Nat.le_of_ble_eq_true rfl) (Nat.le_of_ble_eq_true rfl) (⟨0, _, Or.inl ⟨rfl, i, n, hi, hxi, hn, hvn, rfl, rfl⟩, MInv_of (ed_AW hA hi (hA.2.2.2 i hi).2.1 (hA.2.2.2 i hi).2.2.1 (hA.2.2.2 i hi).2.2.2.1 hn) hS2 (mp_vr hP _)⟩)
      · have hR : R_nds u ed x v (thI (!isB u x) (!inB v 0 255) false) 0 ed := by
          rcases th_2 (b2i_ne.mp c34) with ⟨z1, z2⟩ | ⟨z1, z2, z3⟩
          · exact Or.inr ⟨Or.inl ⟨z2, (isB_ff hu).mp (th_n z1)⟩, rfl⟩
          · exact Or.inr ⟨Or.inr ⟨z3, (isB_iff hu).mp (th_f z1), vaB_ff (th_n z2)⟩, rfl⟩
        refine sx_iconst (v := 0) C dM_needs_37 (by decide) ?_
        exact sx_iretQ C hQ dM_needs_38 hr hlocks (Nat.le_of_ble_eq_true rfl) (Nat.le_of_ble_eq_true rfl) (⟨_, ed, hR, MInv_of hA hT9 hP⟩)
    refine sx_iload_n C dM_needs_14 rfl rfl ?_
    refine sx_iconst (v := 0) C dM_needs_15 (by decide) ?_
    refine sx_sipush (v := 255) C dM_needs_16 (by decide) ?_
    refine sx_calli C (sx_runS (As := [.int v, .int 0, .int 255]) (rest := [.int (b2i (!isB u x)), .ref (ad 0)]) C sx_all (c_M_in l D tc v 0 255 μ) (sx_cwS C 3 kM_M_55 ks_M_in kn_M kc_M_in rfl rfl (by decide +kernel) ⟨Nat.le_of_ble_eq_true rfl, Nat.le_of_ble_eq_true rfl⟩) rfl rfl (Nat.le_of_ble_eq_true rfl) dM_needs_19 ⟨Nat.le_of_ble_eq_true rfl, Nat.le_of_ble_eq_true rfl⟩) (fun q2 μ2 h2 => ?_)
    obtain ⟨hm, h2⟩ := h2
    subst hm
    refine sx_eqi (b2i (inB v 0 255)) (h2) ?_
    refine sx_if_ne (tgt := 29) C dM_needs_22 (by decide) (fun c22 => ?_) (fun c22 => ?_)
    · refine sx_iconst (v := 0) C dM_needs_29 (by decide) ?_
      refine sx_eqi ((b2i (!inB v 0 255))) (by first | (rw [b2i_z.mp c22]; rfl) | (rw [b2i_ne.mp c22]; rfl)) ?_
      exact J30
    · refine sx_iconst (v := 1) C dM_needs_25 (by decide) ?_
      refine sx_goto (tgt := 30) C dM_needs_26 (by decide) ?_
      refine sx_eqi ((b2i (!inB v 0 255))) (by first | (rw [b2i_z.mp c22]; rfl) | (rw [b2i_ne.mp c22]; rfl)) ?_
      exact J30
  refine sx_aload_n C dM_needs_1 rfl rfl ?_
  refine sx_iload_n C dM_needs_2 rfl rfl ?_
  refine sx_calli C (sx_runV (As := [.int x]) (rest := [.ref (ad 0)]) C sx_all (c_M_is l D tc x ad W u th kn lst sb mk cd lk fl vr wd cn li od μ hS) (ci := 3) rfl (MS_f0 hS) (sx_cwV C 1 kM_M_82 ki_M_is ke_M_is kn_M kc_M_is rfl rfl (by decide +kernel) ⟨Nat.le_of_ble_eq_true rfl, Nat.le_of_ble_eq_true rfl⟩) rfl rfl (Nat.le_of_ble_eq_true rfl) dM_needs_3 ⟨Nat.le_of_ble_eq_true rfl, Nat.le_of_ble_eq_true rfl⟩) (fun qi μi hi0 => ?_)
  obtain ⟨hm, hi0⟩ := hi0
  subst hm
  refine sx_eqi (b2i (isB u x)) (hi0) ?_
  refine sx_if_ne (tgt := 13) C dM_needs_6 (by decide) (fun c6 => ?_) (fun c6 => ?_)
  · refine sx_iconst (v := 0) C dM_needs_13 (by decide) ?_
    refine sx_eqi ((b2i (!isB u x))) (by first | (rw [b2i_z.mp c6]; rfl) | (rw [b2i_ne.mp c6]; rfl)) ?_
    exact J14
  · refine sx_iconst (v := 1) C dM_needs_9 (by decide) ?_
    refine sx_goto (tgt := 14) C dM_needs_10 (by decide) ?_
    refine sx_eqi ((b2i (!isB u x))) (by first | (rw [b2i_z.mp c6]; rfl) | (rw [b2i_ne.mp c6]; rfl)) ?_
    exact J14

theorem m_cc {W a : Nat} {wd : Nat → Int32} {S : Nat → Nat → Bool} (h : rowM wd (nRw W) a = S a) (hz : ∀ w, 2 ^ W ≤ w → S a w = false) : smN (fun k => pop32 (wd (2048 * a + k))) (nRw W) = cm W S a a := by
  rw [m_cnt h hz]
  exact pu_c_congr _ (fun i _ => (Bool.and_self _).symm)

set_option maxHeartbeats 4000000 in
set_option maxRecDepth 100000 in
/-- count -/
theorem c_M_count (l : Launch) (D : va_G) (tc : Nat → ClassId) (x : Int32) (ad : Nat → Nat) (W : Nat) (u : Nat) (th : Int32) (kn : Bool) (lst : Int32) (sb : Int32) (mk : Nat → Int32) (cd : Nat → Int32) (lk : Nat → Int32) (fl : Nat → Int32) (vr : Nat → Int32) (wd : Nat → Int32) (cn : Nat → Int32) (li : Nat → Int32) (od : Nat → Int32) (μ : sx_M) (hS : MS tc μ ad W u th kn lst sb mk cd lk fl vr wd cn li od) (S : Nat → Nat → Bool) (ed : Nat → Nat → Nat) (hA : AW W u S ed) (hP : MP W u S ed kn mk cd lk fl vr wd cn li) : sx_Mi l yM_count (Cond.code yM_count cM_count 2 (some .int) :: sxW) (rmL 2 0 0) D sxCl (sxT tc) sxE [.ref (ad 0), .int x] μ (fun r μ' => ∃ k, R_cnt W u S x k r ∧ MInv tc μ' (ad 0) W u S ed k) 0 0 := by
  have hW := hA.1.2
  have hu := hA.2.1
  refine sx_ofiQ (cc := cM_count) (maxL := 2) (ret := (some .int)) (own := RM) sxE_ok (by decide) rfl rfl (Nat.le_of_ble_eq_true rfl) [some (.ref (ad 0)), some (.int x)] 0 rfl (fun p e s m below meth c A Q hQ C hr hlocks hnm => ?_)
  refine sx_aload_n C dM_count_0 rfl rfl ?_
  have J14 : SW p l e (rmL 2 0 0) s m [.ref (ad 0), .int x].toArray below meth c 2 D sxCl A 0 0 Q μ 14 [some (.ref (ad 0)), some (.int x)] [.int (b2i (!isB u x)), .ref (ad 0)] := by
    refine sx_iconst (v := 0) C dM_count_14 (by decide) ?_
    refine sx_iconst (v := 0) C dM_count_15 (by decide) ?_
    refine sx_calli C (sx_runV (As := [.int (b2i (!isB u x)), .int 0, .int 0]) (rest := []) C sx_all (c_M_fails l D tc (!isB u x) false false ad W u th kn lst sb mk cd lk fl vr wd cn li od μ hS) (ci := 3) rfl (MS_f0 hS) (sx_cwV C 3 kM_M_69 ki_M_fails ke_M_fails kn_M kc_M_fails rfl rfl (by decide +kernel) ⟨Nat.le_of_ble_eq_true rfl, Nat.le_of_ble_eq_true rfl⟩) rfl rfl (Nat.le_of_ble_eq_true rfl) dM_count_16 ⟨Nat.le_of_ble_eq_true rfl, Nat.le_of_ble_eq_true rfl⟩) (fun q9 μ9 h9 => ?_)
    obtain ⟨h9, hT9⟩ := h9
    refine sx_eqi (b2i ((!isB u x) || false || false)) (h9) ?_
    refine sx_if_eq (tgt := 26) C dM_count_19 (by decide) (fun c19 => ?_) (fun c19 => ?_)
    · obtain ⟨t0, t1, t2, t3⟩ := th_0 (b2i_z.mp c19)
      rw [t0] at hT9
      obtain ⟨i, hi, hxi⟩ := (isB_iff hu).mp (th_f t1)
      have hi4 : i < 40 := by omega
      refine sx_aload_n C dM_count_26 rfl rfl ?_
      refine sx_iload_n C dM_count_27 rfl rfl ?_
      refine sx_eqi (nI i) (hxi) ?_
      refine sx_calli C (sx_runV (As := [.int (nI i)]) (rest := []) C sx_all (c_M_countOf l D tc i ad W u 0 kn lst sb mk cd lk fl vr wd cn li od μ9 hT9 (by omega) hW) (ci := 3) rfl (MS_f0 hT9) (sx_cwV C 1 kM_M_112 ki_M_countOf ke_M_countOf kn_M kc_M_countOf rfl rfl (by decide +kernel) ⟨Nat.le_of_ble_eq_true rfl, Nat.le_of_ble_eq_true rfl⟩) rfl rfl (Nat.le_of_ble_eq_true rfl) dM_count_28 ⟨Nat.le_of_ble_eq_true rfl, Nat.le_of_ble_eq_true rfl⟩) (fun q4 μ4 h4 => ?_)
      obtain ⟨hm, h4⟩ := h4
      subst hm
      rw [m_cc (hP.2.1 i hi) (hA.2.2.1 i hi)] at h4
      refine sx_eqi (nI (cm W S i i)) (h4) ?_
      exact sx_iretQ C hQ dM_count_31 hr hlocks (Nat.le_of_ble_eq_true rfl) (Nat.le_of_ble_eq_true rfl) (⟨_, Or.inl ⟨rfl, i, hi, hxi, rfl⟩, MInv_of hA hT9 hP⟩)
    · obtain ⟨z2, z1⟩ := th_1 (b2i_ne.mp c19)
      refine sx_iconst (v := 0) C dM_count_22 (by decide) ?_
      refine sx_goto (tgt := 31) C dM_count_23 (by decide) ?_
      exact sx_iretQ C hQ dM_count_31 hr hlocks (Nat.le_of_ble_eq_true rfl) (Nat.le_of_ble_eq_true rfl) (⟨_, Or.inr ⟨z2, (isB_ff hu).mp (th_n z1)⟩, MInv_of hA hT9 hP⟩)
  refine sx_aload_n C dM_count_1 rfl rfl ?_
  refine sx_iload_n C dM_count_2 rfl rfl ?_
  refine sx_calli C (sx_runV (As := [.int x]) (rest := [.ref (ad 0)]) C sx_all (c_M_is l D tc x ad W u th kn lst sb mk cd lk fl vr wd cn li od μ hS) (ci := 3) rfl (MS_f0 hS) (sx_cwV C 1 kM_M_82 ki_M_is ke_M_is kn_M kc_M_is rfl rfl (by decide +kernel) ⟨Nat.le_of_ble_eq_true rfl, Nat.le_of_ble_eq_true rfl⟩) rfl rfl (Nat.le_of_ble_eq_true rfl) dM_count_3 ⟨Nat.le_of_ble_eq_true rfl, Nat.le_of_ble_eq_true rfl⟩) (fun qi μi hi0 => ?_)
  obtain ⟨hm, hi0⟩ := hi0
  subst hm
  refine sx_eqi (b2i (isB u x)) (hi0) ?_
  refine sx_if_ne (tgt := 13) C dM_count_6 (by decide) (fun c6 => ?_) (fun c6 => ?_)
  · refine sx_iconst (v := 0) C dM_count_13 (by decide) ?_
    refine sx_eqi ((b2i (!isB u x))) (by first | (rw [b2i_z.mp c6]; rfl) | (rw [b2i_ne.mp c6]; rfl)) ?_
    exact J14
  · refine sx_iconst (v := 1) C dM_count_9 (by decide) ?_
    refine sx_goto (tgt := 14) C dM_count_10 (by decide) ?_
    refine sx_eqi ((b2i (!isB u x))) (by first | (rw [b2i_z.mp c6]; rfl) | (rw [b2i_ne.mp c6]; rfl)) ?_
    exact J14

theorem id_eq2 {W : Nat} (hW : W ≤ 16) (ed : Nat → Nat → Nat) (i : Nat) : (((jshl 1 (nI W) - 1) &&& (nI (ed 0 i) ^^^ (-1))) &&& (nI (ed 1 i) ^^^ (-1))) &&& (nI (ed 2 i) ^^^ (-1)) = nI (idN W ed i) := by
  rw [← id_eq hW]
  apply bI_ext
  intro j hj
  simp only [bI_and, bI_not _ hj, bI_or]
  cases bI (jshl 1 (nI W) - 1) j <;> cases bI (nI (ed 0 i)) j <;> cases bI (nI (ed 1 i)) j <;> cases bI (nI (ed 2 i)) j <;> rfl

set_option maxHeartbeats 4000000 in
set_option maxRecDepth 100000 in
/-- idleBits -/
theorem c_M_idleBits (l : Launch) (D : va_G) (tc : Nat → ClassId) (i : Nat) (ad : Nat → Nat) (W : Nat) (u : Nat) (th : Int32) (kn : Bool) (lst : Int32) (sb : Int32) (mk : Nat → Int32) (cd : Nat → Int32) (lk : Nat → Int32) (fl : Nat → Int32) (vr : Nat → Int32) (wd : Nat → Int32) (cn : Nat → Int32) (li : Nat → Int32) (od : Nat → Int32) (μ : sx_M) (hS : MS tc μ ad W u th kn lst sb mk cd lk fl vr wd cn li od) (S : Nat → Nat → Bool) (ed : Nat → Nat → Nat) (hA : AW W u S ed) (hP : MP W u S ed kn mk cd lk fl vr wd cn li) (hi : i < u) : sx_Mi l yM_idleBits (Cond.code yM_idleBits cM_idleBits 2 (some .int) :: sxW) (rmL 0 0 0) D sxCl (sxT tc) sxE [.ref (ad 0), .int (nI i)] μ (fun r μ' => μ = μ' ∧ r = nI (idN W ed i)) 0 0 := by
  have hW := hA.1.2
  have hu := hA.2.1
  have hi4 : i < 40 := by omega
  have hE := hP.1 i hi
  refine sx_ofiQ (cc := cM_idleBits) (maxL := 2) (ret := (some .int)) (own := RM) sxE_ok (by decide) rfl rfl (Nat.le_of_ble_eq_true rfl) [some (.ref (ad 0)), some (.int (nI i))] 0 rfl (fun p e s m below meth c A Q hQ C hr hlocks hnm => ?_)
  refine sx_iconst (v := 1) C dM_idleBits_0 (by decide) ?_
  refine sx_aload_n C dM_idleBits_1 rfl rfl ?_
  refine sx_getf (Cn := RM) (T := TM) (N := 17) C dM_idleBits_2 (sx_in inM) rfl 1 (by decide) (sx_w C kF_M_39) (fun _ h => h) (MS_f0 hS) rfl ?_
  refine sx_ishl C dM_idleBits_5 ?_
  refine sx_iconst (v := 1) C dM_idleBits_6 (by decide) ?_
  refine sx_isub C dM_idleBits_7 ?_
  refine sx_aload_n C dM_idleBits_8 rfl rfl ?_
  refine sx_getf (Cn := RM) (T := TM) (N := 17) C dM_idleBits_9 (sx_in inM) rfl 5 (by decide) (sx_w C kF_M_7) (fun _ h => h) (MS_f0 hS) rfl ?_
  refine sx_iload_n C dM_idleBits_12 rfl rfl ?_
  refine sx_iald (j := i) C dM_idleBits_13 0 rfl (MS_f1 hS) (rfl) (hi4) (Nat.le_of_ble_eq_true rfl) ?_
  refine sx_eqi (nI (ed 0 i)) (hE.1) ?_
  refine sx_iconst (v := -1) C dM_idleBits_14 (by decide) ?_
  refine sx_ixor C dM_idleBits_15 ?_
  refine sx_iand C dM_idleBits_16 ?_
  refine sx_aload_n C dM_idleBits_17 rfl rfl ?_
  refine sx_getf (Cn := RM) (T := TM) (N := 17) C dM_idleBits_18 (sx_in inM) rfl 7 (by decide) (sx_w C kF_M_16) (fun _ h => h) (MS_f0 hS) rfl ?_
  refine sx_iload_n C dM_idleBits_21 rfl rfl ?_
  refine sx_iald (j := i) C dM_idleBits_22 0 rfl (MS_f3 hS) (rfl) (hi4) (Nat.le_of_ble_eq_true rfl) ?_
  refine sx_eqi (nI (ed 1 i)) (hE.2.1) ?_
  refine sx_iconst (v := -1) C dM_idleBits_23 (by decide) ?_
  refine sx_ixor C dM_idleBits_24 ?_
  refine sx_iand C dM_idleBits_25 ?_
  refine sx_aload_n C dM_idleBits_26 rfl rfl ?_
  refine sx_getf (Cn := RM) (T := TM) (N := 17) C dM_idleBits_27 (sx_in inM) rfl 8 (by decide) (sx_w C kF_M_19) (fun _ h => h) (MS_f0 hS) rfl ?_
  refine sx_iload_n C dM_idleBits_30 rfl rfl ?_
  refine sx_iald (j := i) C dM_idleBits_31 0 rfl (MS_f4 hS) (rfl) (hi4) (Nat.le_of_ble_eq_true rfl) ?_
  refine sx_eqi (nI (ed 2 i)) (hE.2.2.1) ?_
  refine sx_iconst (v := -1) C dM_idleBits_32 (by decide) ?_
  refine sx_ixor C dM_idleBits_33 ?_
  refine sx_iand C dM_idleBits_34 ?_
  exact sx_iretQ C hQ dM_idleBits_35 hr hlocks (Nat.le_of_ble_eq_true rfl) (Nat.le_of_ble_eq_true rfl) (⟨rfl, id_eq2 hW ed i⟩)

set_option maxHeartbeats 4000000 in
set_option maxRecDepth 100000 in
/-- meaningless -/
theorem c_M_meaningless (l : Launch) (D : va_G) (tc : Nat → ClassId) (x : Int32) (ad : Nat → Nat) (W : Nat) (u : Nat) (th : Int32) (kn : Bool) (lst : Int32) (sb : Int32) (mk : Nat → Int32) (cd : Nat → Int32) (lk : Nat → Int32) (fl : Nat → Int32) (vr : Nat → Int32) (wd : Nat → Int32) (cn : Nat → Int32) (li : Nat → Int32) (od : Nat → Int32) (μ : sx_M) (hS : MS tc μ ad W u th kn lst sb mk cd lk fl vr wd cn li od) (S : Nat → Nat → Bool) (ed : Nat → Nat → Nat) (hA : AW W u S ed) (hP : MP W u S ed kn mk cd lk fl vr wd cn li) : sx_Mi l yM_meaningless (Cond.code yM_meaningless cM_meaningless 2 (some .int) :: sxW) (rmL 2 0 0) D sxCl (sxT tc) sxE [.ref (ad 0), .int x] μ (fun r μ' => ∃ k, R_mls W u ed x k r ∧ MInv tc μ' (ad 0) W u S ed k) 0 0 := by
  have hW := hA.1.2
  have hu := hA.2.1
  refine sx_ofiQ (cc := cM_meaningless) (maxL := 2) (ret := (some .int)) (own := RM) sxE_ok (by decide) rfl rfl (Nat.le_of_ble_eq_true rfl) [some (.ref (ad 0)), some (.int x)] 0 rfl (fun p e s m below meth c A Q hQ C hr hlocks hnm => ?_)
  refine sx_aload_n C dM_meaningless_0 rfl rfl ?_
  have J14 : SW p l e (rmL 2 0 0) s m [.ref (ad 0), .int x].toArray below meth c 2 D sxCl A 0 0 Q μ 14 [some (.ref (ad 0)), some (.int x)] [.int (b2i (!isB u x)), .ref (ad 0)] := by
    refine sx_iconst (v := 0) C dM_meaningless_14 (by decide) ?_
    refine sx_iconst (v := 0) C dM_meaningless_15 (by decide) ?_
    refine sx_calli C (sx_runV (As := [.int (b2i (!isB u x)), .int 0, .int 0]) (rest := []) C sx_all (c_M_fails l D tc (!isB u x) false false ad W u th kn lst sb mk cd lk fl vr wd cn li od μ hS) (ci := 3) rfl (MS_f0 hS) (sx_cwV C 3 kM_M_69 ki_M_fails ke_M_fails kn_M kc_M_fails rfl rfl (by decide +kernel) ⟨Nat.le_of_ble_eq_true rfl, Nat.le_of_ble_eq_true rfl⟩) rfl rfl (Nat.le_of_ble_eq_true rfl) dM_meaningless_16 ⟨Nat.le_of_ble_eq_true rfl, Nat.le_of_ble_eq_true rfl⟩) (fun q9 μ9 h9 => ?_)
    obtain ⟨h9, hT9⟩ := h9
    refine sx_eqi (b2i ((!isB u x) || false || false)) (h9) ?_
    refine sx_if_eq (tgt := 26) C dM_meaningless_19 (by decide) (fun c19 => ?_) (fun c19 => ?_)
    · obtain ⟨t0, t1, t2, t3⟩ := th_0 (b2i_z.mp c19)
      rw [t0] at hT9
      obtain ⟨i, hi, hxi⟩ := (isB_iff hu).mp (th_f t1)
      have hi4 : i < 40 := by omega
      refine sx_aload_n C dM_meaningless_26 rfl rfl ?_
      refine sx_iload_n C dM_meaningless_27 rfl rfl ?_
      refine sx_eqi (nI i) (hxi) ?_
      refine sx_calli C (sx_runV (As := [.int (nI i)]) (rest := []) C sx_all (c_M_idleBits l D tc i ad W u 0 kn lst sb mk cd lk fl vr wd cn li od μ9 hT9 S ed hA hP hi) (ci := 3) rfl (MS_f0 hT9) (sx_cwV C 1 kM_M_109 ki_M_idleBits ke_M_idleBits kn_M kc_M_idleBits rfl rfl (by decide +kernel) ⟨Nat.le_of_ble_eq_true rfl, Nat.le_of_ble_eq_true rfl⟩) rfl rfl (Nat.le_of_ble_eq_true rfl) dM_meaningless_28 ⟨Nat.le_of_ble_eq_true rfl, Nat.le_of_ble_eq_true rfl⟩) (fun q4 μ4 h4 => ?_)
      obtain ⟨hm, h4⟩ := h4
      subst hm
      refine sx_eqi (nI (idN W ed i)) (h4) ?_
      refine sx_calli C (sx_runS (As := [.int (nI (idN W ed i))]) (rest := []) C sx_all (c_M_ones l D tc (nI (idN W ed i)) μ9) (sx_cwS C 1 kM_M_63 ks_M_ones kn_M kc_M_ones rfl rfl (by decide +kernel) ⟨Nat.le_of_ble_eq_true rfl, Nat.le_of_ble_eq_true rfl⟩) rfl rfl (Nat.le_of_ble_eq_true rfl) dM_meaningless_31 ⟨Nat.le_of_ble_eq_true rfl, Nat.le_of_ble_eq_true rfl⟩) (fun q5 μ5 h5 => ?_)
      obtain ⟨hm, h5⟩ := h5
      subst hm
      refine sx_eqi (nI (pop32 (nI (idN W ed i)))) (h5) ?_
      exact sx_iretQ C hQ dM_meaningless_34 hr hlocks (Nat.le_of_ble_eq_true rfl) (Nat.le_of_ble_eq_true rfl) (⟨_, Or.inl ⟨rfl, i, hi, hxi, rfl⟩, MInv_of hA hT9 hP⟩)
    · obtain ⟨z2, z1⟩ := th_1 (b2i_ne.mp c19)
      refine sx_iconst (v := 0) C dM_meaningless_22 (by decide) ?_
      refine sx_goto (tgt := 34) C dM_meaningless_23 (by decide) ?_
      exact sx_iretQ C hQ dM_meaningless_34 hr hlocks (Nat.le_of_ble_eq_true rfl) (Nat.le_of_ble_eq_true rfl) (⟨_, Or.inr ⟨z2, (isB_ff hu).mp (th_n z1)⟩, MInv_of hA hT9 hP⟩)
  refine sx_aload_n C dM_meaningless_1 rfl rfl ?_
  refine sx_iload_n C dM_meaningless_2 rfl rfl ?_
  refine sx_calli C (sx_runV (As := [.int x]) (rest := [.ref (ad 0)]) C sx_all (c_M_is l D tc x ad W u th kn lst sb mk cd lk fl vr wd cn li od μ hS) (ci := 3) rfl (MS_f0 hS) (sx_cwV C 1 kM_M_82 ki_M_is ke_M_is kn_M kc_M_is rfl rfl (by decide +kernel) ⟨Nat.le_of_ble_eq_true rfl, Nat.le_of_ble_eq_true rfl⟩) rfl rfl (Nat.le_of_ble_eq_true rfl) dM_meaningless_3 ⟨Nat.le_of_ble_eq_true rfl, Nat.le_of_ble_eq_true rfl⟩) (fun qi μi hi0 => ?_)
  obtain ⟨hm, hi0⟩ := hi0
  subst hm
  refine sx_eqi (b2i (isB u x)) (hi0) ?_
  refine sx_if_ne (tgt := 13) C dM_meaningless_6 (by decide) (fun c6 => ?_) (fun c6 => ?_)
  · refine sx_iconst (v := 0) C dM_meaningless_13 (by decide) ?_
    refine sx_eqi ((b2i (!isB u x))) (by first | (rw [b2i_z.mp c6]; rfl) | (rw [b2i_ne.mp c6]; rfl)) ?_
    exact J14
  · refine sx_iconst (v := 1) C dM_meaningless_9 (by decide) ?_
    refine sx_goto (tgt := 14) C dM_meaningless_10 (by decide) ?_
    refine sx_eqi ((b2i (!isB u x))) (by first | (rw [b2i_z.mp c6]; rfl) | (rw [b2i_ne.mp c6]; rfl)) ?_
    exact J14

theorem lk_end {W u : Nat} {S : Nat → Nat → Bool} {ed : Nat → Nat → Nat} {kn : Bool} {mk cd lk fl vr wd cn li wd1 : Nat → Int32} (hA : AW W u S ed) (hP : MP W u S ed kn mk cd lk fl vr wd cn li) (h1 : ∀ q, q < 81920 → wd1 q = wd q) (h2 : ∀ k, k < nRw W → wd1 (81920 + k) = (orN (fun e => wd (2048 * e + k)) u ^^^ (-1)) &&& alM W) : MP W u S ed kn mk cd lk fl vr wd1 cn li ∧ rowM wd1 (nRw W) 40 = gpS W u S := by
  have hR := nRw_le hA.1.2
  have hu := hA.2.1
  exact ⟨⟨hP.1, fun e he => by rw [rowM_same hR (fun k hk => h1 _ (by omega))]; exact hP.2.1 e he, hP.2.2⟩, m_gp hP.2.1 h2⟩
theorem lk_step {u k : Nat} {wd wd1 : Nat → Int32} {X : Int32} {Y : Nat → Int32} (h1 : ∀ q, q < 81920 → wd1 q = wd q) (h2 : ∀ j, j < k → wd1 (81920 + j) = Y j) (hX : X = Y k) : (∀ q, q < 81920 → va_up wd1 (81920 + k) X q = wd q) ∧ ∀ j, j < k + 1 → va_up wd1 (81920 + k) X (81920 + j) = Y j := by
  refine ⟨fun q hq => by rw [va_up_o _ _ (by omega)]; exact h1 q hq, fun j hj => ?_⟩
  by_cases z : j = k
  · subst z; rw [va_up_s]; exact hX
  · rw [va_up_o _ _ (by omega)]; exact h2 j (by omega)

set_option maxHeartbeats 4000000 in
set_option maxRecDepth 100000 in
/-- lack -/
theorem c_M_lack (l : Launch) (D : va_G) (tc : Nat → ClassId) (ad : Nat → Nat) (W : Nat) (u : Nat) (th : Int32) (kn : Bool) (lst : Int32) (sb : Int32) (mk : Nat → Int32) (cd : Nat → Int32) (lk : Nat → Int32) (fl : Nat → Int32) (vr : Nat → Int32) (wd : Nat → Int32) (cn : Nat → Int32) (li : Nat → Int32) (od : Nat → Int32) (μ : sx_M) (hS : MS tc μ ad W u th kn lst sb mk cd lk fl vr wd cn li od) (S : Nat → Nat → Bool) (ed : Nat → Nat → Nat) (hA : AW W u S ed) (hP : MP W u S ed kn mk cd lk fl vr wd cn li) : sx_Mv l yM_lack (Cond.code yM_lack cM_lack 4 none :: sxW) (rmL 0 0 0) D sxCl (sxT tc) sxE [.ref (ad 0)] μ (fun μ' => ∃ wd1, MS tc μ' ad W u th kn lst sb mk cd lk fl vr wd1 cn li od ∧ MP W u S ed kn mk cd lk fl vr wd1 cn li ∧ rowM wd1 (nRw W) 40 = gpS W u S) 0 0 := by
  have hW := hA.1.2
  have hu := hA.2.1
  have hR := nRw_le hW
  refine sx_ofvQ (cc := cM_lack) (maxL := 4) (ret := none) (own := RM) sxE_ok (by decide) rfl rfl (Nat.le_of_ble_eq_true rfl) [some (.ref (ad 0)), none, none, none] 3 rfl (fun p e s m below meth c A Q hQ C hr hlocks hnm => ?_)
  refine sx_iconst (v := 0) C dM_lack_0 (by decide) ?_
  refine sx_eqi (nI 0) (rfl) ?_
  refine sx_istore_n (lv' := [some (.ref (ad 0)), some (.int (nI 0)), none, none]) C dM_lack_1 rfl (by decide) rfl rfl ?_
  have L2 : ∀ (fu : Nat) (k : Nat) (μ1 : sx_M) (wd1 : Nat → Int32), nRw W - k < fu → (k ≤ nRw W) → (MS tc μ1 ad W u th kn lst sb mk cd lk fl vr wd1 cn li od) → (∀ q, q < 81920 → wd1 q = wd q) → (∀ j, j < k → wd1 (81920 + j) = (fun k => (orN (fun e => wd (2048 * e + k)) u ^^^ (-1)) &&& alM W) j) → SW p l e (rmL 0 0 0) s m [.ref (ad 0)].toArray below meth c 4 D sxCl A 0 0 Q μ1 2 [some (.ref (ad 0)), some (.int (nI k)), none, none] [] := by
    intro fu
    induction fu with
    | zero => intro _ _ _ h; exact absurd h (Nat.not_lt_zero _)
    | succ fu ih =>
      intro k μ1 wd1 hfu hk hS1 h1 h2
      refine sx_iload_n C dM_lack_2 rfl rfl ?_
      refine sx_aload_n C dM_lack_3 rfl rfl ?_
      refine sx_getf (Cn := RM) (T := TM) (N := 17) C dM_lack_4 (sx_in inM) rfl 2 (by decide) (sx_w C kF_M_43) (fun _ h => h) (MS_f0 hS1) rfl ?_
      refine sx_icmp_ge (tgt := 66) C dM_lack_7 (by decide) (fun c7 => ?_) (fun c7 => ?_)
      · have hc7 : nRw W ≤ k := (nI_leI (by omega) (by omega)).mp c7
        obtain rfl : k = nRw W := by omega
        exact sx_vretQ C hQ dM_lack_66 hr hlocks (Nat.le_of_ble_eq_true rfl) (Nat.le_of_ble_eq_true rfl) (⟨wd1, hS1, lk_end hA hP h1 h2⟩)
      · have hc7 : ¬ nRw W ≤ k := fun h => c7 ((nI_leI (by omega) (by omega)).mpr h)
        refine sx_iconst (v := 0) C dM_lack_10 (by decide) ?_
        refine sx_eqi (orN (fun e => wd (2048 * e + k)) 0) (rfl) ?_
        refine sx_istore_n (lv' := [some (.ref (ad 0)), some (.int (nI k)), some (.int (orN (fun e => wd (2048 * e + k)) 0)), none]) C dM_lack_11 rfl (by decide) rfl rfl ?_
        refine sx_iconst (v := 0) C dM_lack_12 (by decide) ?_
        refine sx_eqi (nI 0) (rfl) ?_
        refine sx_istore_n (lv' := [some (.ref (ad 0)), some (.int (nI k)), some (.int (orN (fun e => wd (2048 * e + k)) 0)), some (.int (nI 0))]) C dM_lack_13 rfl (by decide) rfl rfl ?_
        have L14 : ∀ (fu2 : Nat) (e0 : Nat), u - e0 < fu2 → (e0 ≤ u) → SW p l e (rmL 0 0 0) s m [.ref (ad 0)].toArray below meth c 4 D sxCl A 0 0 Q μ1 14 [some (.ref (ad 0)), some (.int (nI k)), some (.int (orN (fun e => wd (2048 * e + k)) e0)), some (.int (nI e0))] [] := by
          intro fu2
          induction fu2 with
          | zero => intro _ h; exact absurd h (Nat.not_lt_zero _)
          | succ fu2 ih2 =>
            intro e0 hfu2 he
            refine sx_iload_n C dM_lack_14 rfl rfl ?_
            refine sx_aload_n C dM_lack_15 rfl rfl ?_
            refine sx_getf (Cn := RM) (T := TM) (N := 17) C dM_lack_16 (sx_in inM) rfl 4 (by decide) (sx_w C kF_M_52) (fun _ h => h) (MS_f0 hS1) rfl ?_
            refine sx_icmp_ge (tgt := 43) C dM_lack_19 (by decide) (fun c19 => ?_) (fun c19 => ?_)
            · have hc19 : u ≤ e0 := (nI_leI (by omega) (by omega)).mp c19
              have heu : e0 = u := by omega
              subst heu
              refine sx_aload_n C dM_lack_43 rfl rfl ?_
              refine sx_getf (Cn := RM) (T := TM) (N := 17) C dM_lack_44 (sx_in inM) rfl 10 (by decide) (sx_w C kF_M_26) (fun _ h => h) (MS_f0 hS1) rfl ?_
              refine sx_ldc (v := 81920) C dM_lack_47 (sx_w C kK_M_115) ?_
              refine sx_iload_n C dM_lack_49 rfl rfl ?_
              refine sx_iadd C dM_lack_50 ?_
              refine sx_eqi (nI (81920 + k)) (nI_add 81920 k) ?_
              refine sx_iload_n C dM_lack_51 rfl rfl ?_
              refine sx_iconst (v := -1) C dM_lack_52 (by decide) ?_
              refine sx_ixor C dM_lack_53 ?_
              refine sx_aload_n C dM_lack_54 rfl rfl ?_
              refine sx_getf (Cn := RM) (T := TM) (N := 17) C dM_lack_55 (sx_in inM) rfl 3 (by decide) (sx_w C kF_M_46) (fun _ h => h) (MS_f0 hS1) rfl ?_
              refine sx_iand C dM_lack_58 ?_
              refine sx_iast (j := (81920 + k)) C dM_lack_59 0 rfl (MS_f6 hS1) (rfl) ((by omega)) (Nat.le_of_ble_eq_true rfl) ?_
              have hS2 := MS_wd hS1 (va_up wd1 (81920 + k) (((orN (fun e => wd (2048 * e + k)) e0) ^^^ (-1)) &&& alM W))
              have h3 := lk_step (u := e0) h1 h2 (X := ((orN (fun e => wd (2048 * e + k)) e0) ^^^ (-1)) &&& alM W) rfl
              refine sx_weak (lv' := [some (.ref (ad 0)), some (.int (nI k)), none, none]) (And.intro rfl (And.intro rfl trivial)) ?_
              refine sx_iinc (v := nI (k + 1)) (lv' := [some (.ref (ad 0)), some (.int (nI (k + 1))), none, none]) C dM_lack_60 rfl (nI_1 k) (by decide) rfl rfl ?_
              refine sx_goto (tgt := 2) C dM_lack_63 (by decide) ?_
              exact ih (k + 1) _ _ (by omega) (by omega) hS2 h3.1 h3.2
            · have hc19 : ¬ u ≤ e0 := fun h => c19 ((nI_leI (by omega) (by omega)).mpr h)
              refine sx_iload_n C dM_lack_22 rfl rfl ?_
              refine sx_aload_n C dM_lack_23 rfl rfl ?_
              refine sx_getf (Cn := RM) (T := TM) (N := 17) C dM_lack_24 (sx_in inM) rfl 10 (by decide) (sx_w C kF_M_26) (fun _ h => h) (MS_f0 hS1) rfl ?_
              refine sx_sipush (v := 2048) C dM_lack_27 (by decide) ?_
              refine sx_iload_n C dM_lack_30 rfl rfl ?_
              refine sx_imul C dM_lack_31 ?_
              refine sx_eqi (nI (2048 * e0)) (nI_mul 2048 e0) ?_
              refine sx_iload_n C dM_lack_32 rfl rfl ?_
              refine sx_iadd C dM_lack_33 ?_
              refine sx_eqi (nI (2048 * e0 + k)) (nI_add _ _) ?_
              refine sx_iald (j := (2048 * e0 + k)) C dM_lack_34 0 rfl (MS_f6 hS1) (rfl) ((by omega)) (Nat.le_of_ble_eq_true rfl) ?_
              refine sx_eqi (wd (2048 * e0 + k)) (h1 _ (by omega)) ?_
              refine sx_ior C dM_lack_35 ?_
              refine sx_eqi (orN (fun e => wd (2048 * e + k)) (e0 + 1)) (rfl) ?_
              refine sx_istore_n (lv' := [some (.ref (ad 0)), some (.int (nI k)), some (.int (orN (fun e => wd (2048 * e + k)) (e0 + 1))), some (.int (nI e0))]) C dM_lack_36 rfl (by decide) rfl rfl ?_
              refine sx_iinc (v := nI (e0 + 1)) (lv' := [some (.ref (ad 0)), some (.int (nI k)), some (.int (orN (fun e => wd (2048 * e + k)) (e0 + 1))), some (.int (nI (e0 + 1)))]) C dM_lack_37 rfl (nI_1 e0) (by decide) rfl rfl ?_
              refine sx_goto (tgt := 14) C dM_lack_40 (by decide) ?_
              exact ih2 (e0 + 1) (by omega) (by omega)
        exact L14 _ 0 (Nat.lt_succ_self _) (Nat.zero_le _)
  exact L2 _ 0 μ wd (Nat.lt_succ_self _) (Nat.zero_le _) hS (fun _ _ => rfl) (fun j hj => absurd hj (Nat.not_lt_zero _))

set_option maxHeartbeats 4000000 in
set_option maxRecDepth 100000 in
/-- gaps -/
theorem c_M_gaps (l : Launch) (D : va_G) (tc : Nat → ClassId) (ad : Nat → Nat) (W : Nat) (u : Nat) (th : Int32) (kn : Bool) (lst : Int32) (sb : Int32) (mk : Nat → Int32) (cd : Nat → Int32) (lk : Nat → Int32) (fl : Nat → Int32) (vr : Nat → Int32) (wd : Nat → Int32) (cn : Nat → Int32) (li : Nat → Int32) (od : Nat → Int32) (μ : sx_M) (hS : MS tc μ ad W u th kn lst sb mk cd lk fl vr wd cn li od) (S : Nat → Nat → Bool) (ed : Nat → Nat → Nat) (hA : AW W u S ed) (hP : MP W u S ed kn mk cd lk fl vr wd cn li) : sx_Mi l yM_gaps (Cond.code yM_gaps cM_gaps 1 (some .int) :: sxW) (rmL 2 0 0) D sxCl (sxT tc) sxE [.ref (ad 0)] μ (fun r μ' => r = nI (pu_c (gpS W u S) (2 ^ W)) ∧ MInv tc μ' (ad 0) W u S ed 0) 0 0 := by
  have hW := hA.1.2
  have hu := hA.2.1
  refine sx_ofiQ (cc := cM_gaps) (maxL := 1) (ret := (some .int)) (own := RM) sxE_ok (by decide) rfl rfl (Nat.le_of_ble_eq_true rfl) [some (.ref (ad 0))] 0 rfl (fun p e s m below meth c A Q hQ C hr hlocks hnm => ?_)
  refine sx_aload_n C dM_gaps_0 rfl rfl ?_
  refine sx_iconst (v := 0) C dM_gaps_1 (by decide) ?_
  refine sx_putf (Cn := RM) (T := TM) (N := 17) (ty := .int) (fs' := [.int 0, .int (nI W), .int (nI (nRw W)), .int (alM W), .int (nI u), .ref (ad 1), .ref (ad 2), .ref (ad 3), .ref (ad 4), .ref (ad 5), .ref (ad 6), .int (b2i kn), .ref (ad 7), .ref (ad 8), .ref (ad 9), .int lst, .int sb]) C dM_gaps_2 (sx_in inM) tM tM_ok nM rfl 0 (by decide) (sx_w C kF_M_49) (fun _ h => h) rfl (by decide +kernel) rfl rfl (MS_f0 hS) (by simp) rfl ?_
  have hS1 : MS tc (sx_up μ (ad 0) (.inr (3, [.int 0, .int (nI W), .int (nI (nRw W)), .int (alM W), .int (nI u), .ref (ad 1), .ref (ad 2), .ref (ad 3), .ref (ad 4), .ref (ad 5), .ref (ad 6), .int (b2i kn), .ref (ad 7), .ref (ad 8), .ref (ad 9), .int lst, .int sb]))) ad W u 0 kn lst sb mk cd lk fl vr wd cn li od := MS_th hS 0
  refine sx_aload_n C dM_gaps_5 rfl rfl ?_
  refine sx_callv C (sx_runV (As := []) (rest := []) C sx_all (c_M_lack l D tc ad W u 0 kn lst sb mk cd lk fl vr wd cn li od _ hS1 S ed hA hP) (ci := 3) rfl (MS_f0 hS1) (sx_cwV C 0 kM_M_116 ki_M_lack ke_M_lack kn_M kc_M_lack rfl rfl (by decide +kernel) ⟨Nat.le_of_ble_eq_true rfl, Nat.le_of_ble_eq_true rfl⟩) rfl rfl (Nat.le_of_ble_eq_true rfl) dM_gaps_6 ⟨Nat.le_of_ble_eq_true rfl, Nat.le_of_ble_eq_true rfl⟩) (fun μ2 h2 => ?_)
  obtain ⟨wd1, hS2, hP2, hg⟩ := h2
  refine sx_aload_n C dM_gaps_9 rfl rfl ?_
  refine sx_bipush (v := 40) C dM_gaps_10 (by decide) ?_
  refine sx_eqi (nI 40) (rfl) ?_
  refine sx_calli C (sx_runV (As := [.int (nI 40)]) (rest := []) C sx_all (c_M_countOf l D tc 40 ad W u 0 kn lst sb mk cd lk fl vr wd1 cn li od μ2 hS2 (by omega) hW) (ci := 3) rfl (MS_f0 hS2) (sx_cwV C 1 kM_M_112 ki_M_countOf ke_M_countOf kn_M kc_M_countOf rfl rfl (by decide +kernel) ⟨Nat.le_of_ble_eq_true rfl, Nat.le_of_ble_eq_true rfl⟩) rfl rfl (Nat.le_of_ble_eq_true rfl) dM_gaps_12 ⟨Nat.le_of_ble_eq_true rfl, Nat.le_of_ble_eq_true rfl⟩) (fun q4 μ4 h4 => ?_)
  obtain ⟨hm, h4⟩ := h4
  subst hm
  rw [m_cnt hg gp_z] at h4
  refine sx_eqi (nI (pu_c (gpS W u S) (2 ^ W))) (h4) ?_
  exact sx_iretQ C hQ dM_gaps_15 hr hlocks (Nat.le_of_ble_eq_true rfl) (Nat.le_of_ble_eq_true rfl) (⟨rfl, MInv_of hA hS2 hP2⟩)

theorem an_0 {q : Nat → Bool} {n : Nat} (h : (!anB (fun k => !q k) n) = false) : (0 : Int32) = b2i (!anB (fun k => !q k) (n + 1)) := by
  rw [an_s, Bool.not_or, h]; rfl
theorem an_1 {q : Nat → Bool} {n : Nat} (h : (!anB (fun k => !q k) n) = true) (h2 : q n = false) : (0 : Int32) = b2i (!anB (fun k => !q k) (n + 1)) := by
  rw [an_s, Bool.not_or, h, h2]; rfl
theorem an_2 {q : Nat → Bool} {n : Nat} (h : (!anB (fun k => !q k) n) = true) (h2 : q n = true) : (1 : Int32) = b2i (!anB (fun k => !q k) (n + 1)) := by
  rw [an_s, Bool.not_or, h, h2]; rfl

set_option maxHeartbeats 4000000 in
set_option maxRecDepth 100000 in
/-- compare -/
theorem c_M_compare (l : Launch) (D : va_G) (tc : Nat → ClassId) (a b : Nat) (ad : Nat → Nat) (W : Nat) (u : Nat) (th : Int32) (kn : Bool) (lst : Int32) (sb : Int32) (mk : Nat → Int32) (cd : Nat → Int32) (lk : Nat → Int32) (fl : Nat → Int32) (vr : Nat → Int32) (wd : Nat → Int32) (cn : Nat → Int32) (li : Nat → Int32) (od : Nat → Int32) (μ : sx_M) (hS : MS tc μ ad W u th kn lst sb mk cd lk fl vr wd cn li od) (S : Nat → Nat → Bool) (hW : W ≤ 16) (ha : a < 40) (hb : b < 40) (hra : rowM wd (nRw W) a = S a) (hrb : rowM wd (nRw W) b = S b) (hz : ∀ w, 2 ^ W ≤ w → S a w = false) : sx_Mv l yM_compare (Cond.code yM_compare cM_compare 8 none :: sxW) (rmL 1 0 0) D sxCl (sxT tc) sxE [.ref (ad 0), .int (nI a), .int (nI b)] μ (fun μ' => MS tc μ' ad W u th kn lst sb mk cd lk fl vr wd (va_up cn (40 * a + b) (nI (cm W S a b))) (va_up li (40 * a + b) (b2i (lsB W S a b))) od) 0 0 := by
  have hR := nRw_le hW
  refine sx_ofvQ (cc := cM_compare) (maxL := 8) (ret := none) (own := RM) sxE_ok (by decide) rfl rfl (Nat.le_of_ble_eq_true rfl) [some (.ref (ad 0)), some (.int (nI a)), some (.int (nI b)), none, none, none, none, none] 5 rfl (fun p e s m below meth c A Q hQ C hr hlocks hnm => ?_)
  refine sx_iconst (v := 0) C dM_compare_0 (by decide) ?_
  refine sx_eqi (nI (smN (fun k => pop32 (wd (2048 * a + k) &&& wd (2048 * b + k))) 0)) (rfl) ?_
  refine sx_istore_n (lv' := [some (.ref (ad 0)), some (.int (nI a)), some (.int (nI b)), some (.int (nI (smN (fun k => pop32 (wd (2048 * a + k) &&& wd (2048 * b + k))) 0))), none, none, none, none]) C dM_compare_1 rfl (by decide) rfl rfl ?_
  refine sx_iconst (v := 1) C dM_compare_2 (by decide) ?_
  refine sx_eqi (b2i (!anB (fun k => !decide ((wd (2048 * a + k) &&& (wd (2048 * b + k) ^^^ (-1))) = 0)) 0)) (rfl) ?_
  refine sx_istore (lv' := [some (.ref (ad 0)), some (.int (nI a)), some (.int (nI b)), some (.int (nI (smN (fun k => pop32 (wd (2048 * a + k) &&& wd (2048 * b + k))) 0))), some (.int (b2i (!anB (fun k => !decide ((wd (2048 * a + k) &&& (wd (2048 * b + k) ^^^ (-1))) = 0)) 0))), none, none, none]) C dM_compare_3 (by decide) rfl rfl ?_
  refine sx_iconst (v := 0) C dM_compare_5 (by decide) ?_
  refine sx_eqi (nI 0) (rfl) ?_
  refine sx_istore (lv' := [some (.ref (ad 0)), some (.int (nI a)), some (.int (nI b)), some (.int (nI (smN (fun k => pop32 (wd (2048 * a + k) &&& wd (2048 * b + k))) 0))), some (.int (b2i (!anB (fun k => !decide ((wd (2048 * a + k) &&& (wd (2048 * b + k) ^^^ (-1))) = 0)) 0))), some (.int (nI 0)), none, none]) C dM_compare_6 (by decide) rfl rfl ?_
  have L8 : ∀ (fu : Nat) (k : Nat), nRw W - k < fu → (k ≤ nRw W) → SW p l e (rmL 1 0 0) s m [.ref (ad 0), .int (nI a), .int (nI b)].toArray below meth c 8 D sxCl A 0 0 Q μ 8 [some (.ref (ad 0)), some (.int (nI a)), some (.int (nI b)), some (.int (nI (smN (fun k => pop32 (wd (2048 * a + k) &&& wd (2048 * b + k))) k))), some (.int (b2i (!anB (fun k => !decide ((wd (2048 * a + k) &&& (wd (2048 * b + k) ^^^ (-1))) = 0)) k))), some (.int (nI k)), none, none] [] := by
    intro fu
    induction fu with
    | zero => intro _ h; exact absurd h (Nat.not_lt_zero _)
    | succ fu ih =>
      intro k hfu hk
      refine sx_iload C dM_compare_8 rfl ?_
      refine sx_aload_n C dM_compare_10 rfl rfl ?_
      refine sx_getf (Cn := RM) (T := TM) (N := 17) C dM_compare_11 (sx_in inM) rfl 2 (by decide) (sx_w C kF_M_43) (fun _ h => h) (MS_f0 hS) rfl ?_
      refine sx_icmp_ge (tgt := 98) C dM_compare_14 (by decide) (fun c14 => ?_) (fun c14 => ?_)
      · have hc14 : nRw W ≤ k := (nI_leI (by omega) (by omega)).mp c14
        obtain rfl : k = nRw W := by omega
        refine sx_lvEq [some (.ref (ad 0)), some (.int (nI a)), some (.int (nI b)), some (.int (nI (cm W S a b))), some (.int (b2i (lsB W S a b))), some (.int (nI (nRw W))), none, none] (by rw [m_cm hra hrb hz, m_ls hra hrb hz]) ?_
        refine sx_aload_n C dM_compare_98 rfl rfl ?_
        refine sx_getf (Cn := RM) (T := TM) (N := 17) C dM_compare_99 (sx_in inM) rfl 12 (by decide) (sx_w C kF_M_29) (fun _ h => h) (MS_f0 hS) rfl ?_
        refine sx_bipush (v := 40) C dM_compare_102 (by decide) ?_
        refine sx_iload_n C dM_compare_104 rfl rfl ?_
        refine sx_imul C dM_compare_105 ?_
        refine sx_eqi (nI (40 * a)) (nI_mul 40 a) ?_
        refine sx_iload_n C dM_compare_106 rfl rfl ?_
        refine sx_iadd C dM_compare_107 ?_
        refine sx_eqi (nI (40 * a + b)) (nI_add _ _) ?_
        refine sx_iload_n C dM_compare_108 rfl rfl ?_
        refine sx_iast (j := (40 * a + b)) C dM_compare_109 0 rfl (MS_f7 hS) (rfl) ((by omega)) (Nat.le_of_ble_eq_true rfl) ?_
        have hS1 : MS tc (sx_up μ (ad 7) (.inl (tc 0, 1600, .inl (va_up cn (40 * a + b) (nI (cm W S a b)))))) ad W u th kn lst sb mk cd lk fl vr wd (va_up cn (40 * a + b) (nI (cm W S a b))) li od := MS_cn hS _
        refine sx_aload_n C dM_compare_110 rfl rfl ?_
        refine sx_getf (Cn := RM) (T := TM) (N := 17) C dM_compare_111 (sx_in inM) rfl 13 (by decide) (sx_w C kF_M_32) (fun _ h => h) (MS_f0 hS1) rfl ?_
        refine sx_bipush (v := 40) C dM_compare_114 (by decide) ?_
        refine sx_iload_n C dM_compare_116 rfl rfl ?_
        refine sx_imul C dM_compare_117 ?_
        refine sx_eqi (nI (40 * a)) (nI_mul 40 a) ?_
        refine sx_iload_n C dM_compare_118 rfl rfl ?_
        refine sx_iadd C dM_compare_119 ?_
        refine sx_eqi (nI (40 * a + b)) (nI_add _ _) ?_
        refine sx_iload C dM_compare_120 rfl ?_
        refine sx_zast (j := (40 * a + b)) C dM_compare_122 4 rfl (MS_f8 hS1) (rfl) ((by omega)) (Nat.le_of_ble_eq_true rfl) ?_
        have hS2 : MS tc (sx_up (sx_up μ (ad 7) (.inl (tc 0, 1600, .inl (va_up cn (40 * a + b) (nI (cm W S a b)))))) (ad 8) (.inl (tc 4, 1600, .inl (va_up li (40 * a + b) (b2i (lsB W S a b)))))) ad W u th kn lst sb mk cd lk fl vr wd (va_up cn (40 * a + b) (nI (cm W S a b))) (va_up li (40 * a + b) (b2i (lsB W S a b))) od := MS_li hS1 _
        exact sx_vretQ C hQ dM_compare_123 hr hlocks (Nat.le_of_ble_eq_true rfl) (Nat.le_of_ble_eq_true rfl) (hS2)
      · have hc14 : ¬ nRw W ≤ k := fun h => c14 ((nI_leI (by omega) (by omega)).mpr h)
        refine sx_aload_n C dM_compare_17 rfl rfl ?_
        refine sx_getf (Cn := RM) (T := TM) (N := 17) C dM_compare_18 (sx_in inM) rfl 10 (by decide) (sx_w C kF_M_26) (fun _ h => h) (MS_f0 hS) rfl ?_
        refine sx_sipush (v := 2048) C dM_compare_21 (by decide) ?_
        refine sx_iload_n C dM_compare_24 rfl rfl ?_
        refine sx_imul C dM_compare_25 ?_
        refine sx_eqi (nI (2048 * a)) (nI_mul 2048 a) ?_
        refine sx_iload C dM_compare_26 rfl ?_
        refine sx_iadd C dM_compare_28 ?_
        refine sx_eqi (nI (2048 * a + k)) (nI_add _ _) ?_
        refine sx_iald (j := (2048 * a + k)) C dM_compare_29 0 rfl (MS_f6 hS) (rfl) ((by omega)) (Nat.le_of_ble_eq_true rfl) ?_
        refine sx_istore (lv' := [some (.ref (ad 0)), some (.int (nI a)), some (.int (nI b)), some (.int (nI (smN (fun k => pop32 (wd (2048 * a + k) &&& wd (2048 * b + k))) k))), some (.int (b2i (!anB (fun k => !decide ((wd (2048 * a + k) &&& (wd (2048 * b + k) ^^^ (-1))) = 0)) k))), some (.int (nI k)), some (.int (wd (2048 * a + k))), none]) C dM_compare_30 (by decide) rfl rfl ?_
        refine sx_aload_n C dM_compare_32 rfl rfl ?_
        refine sx_getf (Cn := RM) (T := TM) (N := 17) C dM_compare_33 (sx_in inM) rfl 10 (by decide) (sx_w C kF_M_26) (fun _ h => h) (MS_f0 hS) rfl ?_
        refine sx_sipush (v := 2048) C dM_compare_36 (by decide) ?_
        refine sx_iload_n C dM_compare_39 rfl rfl ?_
        refine sx_imul C dM_compare_40 ?_
        refine sx_eqi (nI (2048 * b)) (nI_mul 2048 b) ?_
        refine sx_iload C dM_compare_41 rfl ?_
        refine sx_iadd C dM_compare_43 ?_
        refine sx_eqi (nI (2048 * b + k)) (nI_add _ _) ?_
        refine sx_iald (j := (2048 * b + k)) C dM_compare_44 0 rfl (MS_f6 hS) (rfl) ((by omega)) (Nat.le_of_ble_eq_true rfl) ?_
        refine sx_istore (lv' := [some (.ref (ad 0)), some (.int (nI a)), some (.int (nI b)), some (.int (nI (smN (fun k => pop32 (wd (2048 * a + k) &&& wd (2048 * b + k))) k))), some (.int (b2i (!anB (fun k => !decide ((wd (2048 * a + k) &&& (wd (2048 * b + k) ^^^ (-1))) = 0)) k))), some (.int (nI k)), some (.int (wd (2048 * a + k))), some (.int (wd (2048 * b + k)))]) C dM_compare_45 (by decide) rfl rfl ?_
        refine sx_iload_n C dM_compare_47 rfl rfl ?_
        have J68 : SW p l e (rmL 1 0 0) s m [.ref (ad 0), .int (nI a), .int (nI b)].toArray below meth c 8 D sxCl A 0 0 Q μ 68 [some (.ref (ad 0)), some (.int (nI a)), some (.int (nI b)), some (.int (nI (smN (fun k => pop32 (wd (2048 * a + k) &&& wd (2048 * b + k))) k))), some (.int (b2i (!anB (fun k => !decide ((wd (2048 * a + k) &&& (wd (2048 * b + k) ^^^ (-1))) = 0)) k))), some (.int (nI k)), some (.int (wd (2048 * a + k))), some (.int (wd (2048 * b + k)))] [.int (nI (pop32 (wd (2048 * a + k) &&& wd (2048 * b + k)))), .int (nI (smN (fun k => pop32 (wd (2048 * a + k) &&& wd (2048 * b + k))) k))] := by
          refine sx_iadd C dM_compare_68 ?_
          refine sx_eqi (nI (smN (fun k => pop32 (wd (2048 * a + k) &&& wd (2048 * b + k))) (k + 1))) (nI_add _ _) ?_
          refine sx_istore_n (lv' := [some (.ref (ad 0)), some (.int (nI a)), some (.int (nI b)), some (.int (nI (smN (fun k => pop32 (wd (2048 * a + k) &&& wd (2048 * b + k))) (k + 1)))), some (.int (b2i (!anB (fun k => !decide ((wd (2048 * a + k) &&& (wd (2048 * b + k) ^^^ (-1))) = 0)) k))), some (.int (nI k)), some (.int (wd (2048 * a + k))), some (.int (wd (2048 * b + k)))]) C dM_compare_69 rfl (by decide) rfl rfl ?_
          have J90 : SW p l e (rmL 1 0 0) s m [.ref (ad 0), .int (nI a), .int (nI b)].toArray below meth c 8 D sxCl A 0 0 Q μ 90 [some (.ref (ad 0)), some (.int (nI a)), some (.int (nI b)), some (.int (nI (smN (fun k => pop32 (wd (2048 * a + k) &&& wd (2048 * b + k))) (k + 1)))), some (.int (b2i (!anB (fun k => !decide ((wd (2048 * a + k) &&& (wd (2048 * b + k) ^^^ (-1))) = 0)) k))), some (.int (nI k)), some (.int (wd (2048 * a + k))), some (.int (wd (2048 * b + k)))] [.int (b2i (!anB (fun k => !decide ((wd (2048 * a + k) &&& (wd (2048 * b + k) ^^^ (-1))) = 0)) (k + 1)))] := by
            refine sx_istore (lv' := [some (.ref (ad 0)), some (.int (nI a)), some (.int (nI b)), some (.int (nI (smN (fun k => pop32 (wd (2048 * a + k) &&& wd (2048 * b + k))) (k + 1)))), some (.int (b2i (!anB (fun k => !decide ((wd (2048 * a + k) &&& (wd (2048 * b + k) ^^^ (-1))) = 0)) (k + 1)))), some (.int (nI k)), some (.int (wd (2048 * a + k))), some (.int (wd (2048 * b + k)))]) C dM_compare_90 (by decide) rfl rfl ?_
            refine sx_weak (lv' := [some (.ref (ad 0)), some (.int (nI a)), some (.int (nI b)), some (.int (nI (smN (fun k => pop32 (wd (2048 * a + k) &&& wd (2048 * b + k))) (k + 1)))), some (.int (b2i (!anB (fun k => !decide ((wd (2048 * a + k) &&& (wd (2048 * b + k) ^^^ (-1))) = 0)) (k + 1)))), some (.int (nI k)), none, none]) (And.intro rfl (And.intro rfl (And.intro rfl (And.intro rfl (And.intro rfl (And.intro rfl trivial)))))) ?_
            refine sx_iinc (v := nI (k + 1)) (lv' := [some (.ref (ad 0)), some (.int (nI a)), some (.int (nI b)), some (.int (nI (smN (fun k => pop32 (wd (2048 * a + k) &&& wd (2048 * b + k))) (k + 1)))), some (.int (b2i (!anB (fun k => !decide ((wd (2048 * a + k) &&& (wd (2048 * b + k) ^^^ (-1))) = 0)) (k + 1)))), some (.int (nI (k + 1))), none, none]) C dM_compare_92 rfl (nI_1 k) (by decide) rfl rfl ?_
            refine sx_goto (tgt := 8) C dM_compare_95 (by decide) ?_
            exact ih (k + 1) (by omega) (by omega)
          refine sx_iload C dM_compare_70 rfl ?_
          refine sx_if_eq (tgt := 89) C dM_compare_72 (by decide) (fun c72 => ?_) (fun c72 => ?_)
          · have b72 := b2i_z.mp c72
            refine sx_iconst (v := 0) C dM_compare_89 (by decide) ?_
            refine sx_eqi ((b2i (!anB (fun k => !decide ((wd (2048 * a + k) &&& (wd (2048 * b + k) ^^^ (-1))) = 0)) (k + 1)))) (by first | exact an_2 b72 (decide_eq_true c82) | exact an_1 b72 (decide_eq_false c82) | exact an_0 b72) ?_
            exact J90
          · have b72 := b2i_ne.mp c72
            refine sx_iload C dM_compare_75 rfl ?_
            refine sx_iload C dM_compare_77 rfl ?_
            refine sx_iconst (v := -1) C dM_compare_79 (by decide) ?_
            refine sx_ixor C dM_compare_80 ?_
            refine sx_iand C dM_compare_81 ?_
            refine sx_if_ne (tgt := 89) C dM_compare_82 (by decide) (fun c82 => ?_) (fun c82 => ?_)
            · refine sx_iconst (v := 0) C dM_compare_89 (by decide) ?_
              refine sx_eqi ((b2i (!anB (fun k => !decide ((wd (2048 * a + k) &&& (wd (2048 * b + k) ^^^ (-1))) = 0)) (k + 1)))) (by first | exact an_2 b72 (decide_eq_true c82) | exact an_1 b72 (decide_eq_false c82) | exact an_0 b72) ?_
              exact J90
            · refine sx_iconst (v := 1) C dM_compare_85 (by decide) ?_
              refine sx_goto (tgt := 90) C dM_compare_86 (by decide) ?_
              refine sx_eqi ((b2i (!anB (fun k => !decide ((wd (2048 * a + k) &&& (wd (2048 * b + k) ^^^ (-1))) = 0)) (k + 1)))) (by first | exact an_2 b72 (decide_eq_true c82) | exact an_1 b72 (decide_eq_false c82) | exact an_0 b72) ?_
              exact J90
        refine sx_iload C dM_compare_48 rfl ?_
        refine sx_iload C dM_compare_50 rfl ?_
        refine sx_iand C dM_compare_52 ?_
        refine sx_if_ne (tgt := 60) C dM_compare_53 (by decide) (fun c53 => ?_) (fun c53 => ?_)
        · refine sx_iload C dM_compare_60 rfl ?_
          refine sx_iload C dM_compare_62 rfl ?_
          refine sx_iand C dM_compare_64 ?_
          refine sx_calli C (sx_runS (As := [.int ((wd (2048 * a + k)) &&& (wd (2048 * b + k)))]) (rest := [.int (nI (smN (fun k => pop32 (wd (2048 * a + k) &&& wd (2048 * b + k))) k))]) C sx_all (c_M_ones l D tc (wd (2048 * a + k) &&& wd (2048 * b + k)) μ) (sx_cwS C 1 kM_M_63 ks_M_ones kn_M kc_M_ones rfl rfl (by decide +kernel) ⟨Nat.le_of_ble_eq_true rfl, Nat.le_of_ble_eq_true rfl⟩) rfl rfl (Nat.le_of_ble_eq_true rfl) dM_compare_65 ⟨Nat.le_of_ble_eq_true rfl, Nat.le_of_ble_eq_true rfl⟩) (fun q1 μ1 h1 => ?_)
          obtain ⟨hm, h1⟩ := h1
          subst hm
          refine sx_eqi (nI (pop32 (wd (2048 * a + k) &&& wd (2048 * b + k)))) (h1) ?_
          refine sx_eqi ((nI (pop32 (wd (2048 * a + k) &&& wd (2048 * b + k))))) (by first | rfl | (rw [c53, m_pop0]; rfl)) ?_
          exact J68
        · refine sx_iconst (v := 0) C dM_compare_56 (by decide) ?_
          refine sx_goto (tgt := 68) C dM_compare_57 (by decide) ?_
          refine sx_eqi ((nI (pop32 (wd (2048 * a + k) &&& wd (2048 * b + k))))) (by first | rfl | (rw [c53, m_pop0]; rfl)) ?_
          exact J68
  exact L8 _ 0 (Nat.lt_succ_self _) (Nat.zero_le _)

theorem kn_step {W u a b : Nat} {S : Nat → Nat → Bool} {cn li : Nat → Int32} (hb : b < 40) (h : ∀ a', a' < u → ∀ b', b' < u → (a' < a ∨ (a' = a ∧ b' < b)) → cn (40 * a' + b') = nI (cm W S a' b') ∧ li (40 * a' + b') = b2i (lsB W S a' b')) (hu : u ≤ 40) : ∀ a', a' < u → ∀ b', b' < u → (a' < a ∨ (a' = a ∧ b' < b + 1)) → va_up cn (40 * a + b) (nI (cm W S a b)) (40 * a' + b') = nI (cm W S a' b') ∧ va_up li (40 * a + b) (b2i (lsB W S a b)) (40 * a' + b') = b2i (lsB W S a' b') := by
  intro a' ha' b' hb' hc
  by_cases z : a' = a ∧ b' = b
  · obtain ⟨rfl, rfl⟩ := z
    rw [va_up_s, va_up_s]
    exact ⟨rfl, rfl⟩
  · have hne : ¬ 40 * a' + b' = 40 * a + b := by omega
    rw [va_up_o _ _ hne, va_up_o _ _ hne]
    exact h a' ha' b' hb' (by omega)

set_option maxHeartbeats 4000000 in
set_option maxRecDepth 100000 in
/-- know -/
theorem c_M_know (l : Launch) (D : va_G) (tc : Nat → ClassId) (ad : Nat → Nat) (W : Nat) (u : Nat) (th : Int32) (kn : Bool) (lst : Int32) (sb : Int32) (mk : Nat → Int32) (cd : Nat → Int32) (lk : Nat → Int32) (fl : Nat → Int32) (vr : Nat → Int32) (wd : Nat → Int32) (cn : Nat → Int32) (li : Nat → Int32) (od : Nat → Int32) (μ : sx_M) (hS : MS tc μ ad W u th kn lst sb mk cd lk fl vr wd cn li od) (S : Nat → Nat → Bool) (ed : Nat → Nat → Nat) (hA : AW W u S ed) (hP : MP W u S ed kn mk cd lk fl vr wd cn li) : sx_Mv l yM_know (Cond.code yM_know cM_know 3 none :: sxW) (rmL 2 0 0) D sxCl (sxT tc) sxE [.ref (ad 0)] μ (fun μ' => ∃ cn1 li1, MS tc μ' ad W u th true lst sb mk cd lk fl vr wd cn1 li1 od ∧ MP W u S ed true mk cd lk fl vr wd cn1 li1) 0 0 := by
  have hW := hA.1.2
  have hu := hA.2.1
  refine sx_ofvQ (cc := cM_know) (maxL := 3) (ret := none) (own := RM) sxE_ok (by decide) rfl rfl (Nat.le_of_ble_eq_true rfl) [some (.ref (ad 0)), none, none] 2 rfl (fun p e s m below meth c A Q hQ C hr hlocks hnm => ?_)
  refine sx_iconst (v := 0) C dM_know_0 (by decide) ?_
  refine sx_eqi (nI 0) (rfl) ?_
  refine sx_istore_n (lv' := [some (.ref (ad 0)), some (.int (nI 0)), none]) C dM_know_1 rfl (by decide) rfl rfl ?_
  have L2 : ∀ (fu : Nat) (a : Nat) (μ1 : sx_M) (cn1 li1 : Nat → Int32), u - a < fu → (a ≤ u) → (MS tc μ1 ad W u th kn lst sb mk cd lk fl vr wd cn1 li1 od) → (∀ a', a' < u → ∀ b', b' < u → (a' < a) → cn1 (40 * a' + b') = nI (cm W S a' b') ∧ li1 (40 * a' + b') = b2i (lsB W S a' b')) → (kn = true → cn1 = cn ∧ li1 = li) → SW p l e (rmL 2 0 0) s m [.ref (ad 0)].toArray below meth c 3 D sxCl A 0 0 Q μ1 2 [some (.ref (ad 0)), some (.int (nI a)), none] [] := by
    intro fu
    induction fu with
    | zero => intro _ _ _ _ h; exact absurd h (Nat.not_lt_zero _)
    | succ fu ih =>
      intro a μ1 cn1 li1 hfu ha hS1 hi1 hk1
      refine sx_iload_n C dM_know_2 rfl rfl ?_
      refine sx_aload_n C dM_know_3 rfl rfl ?_
      refine sx_getf (Cn := RM) (T := TM) (N := 17) C dM_know_4 (sx_in inM) rfl 4 (by decide) (sx_w C kF_M_52) (fun _ h => h) (MS_f0 hS1) rfl ?_
      refine sx_icmp_ge (tgt := 45) C dM_know_7 (by decide) (fun c7 => ?_) (fun c7 => ?_)
      · have hc7 : u ≤ a := (nI_leI (by omega) (by omega)).mp c7
        have hfin : MP W u S ed true mk cd lk fl vr wd cn1 li1 := ⟨hP.1, hP.2.1, fun _ a' h1 b' h2 => hi1 a' h1 b' h2 (by omega)⟩
        refine sx_aload_n C dM_know_45 rfl rfl ?_
        refine sx_iconst (v := 1) C dM_know_46 (by decide) ?_
        refine sx_putf (Cn := RM) (T := TM) (N := 17) (ty := .boolean) (fs' := [.int th, .int (nI W), .int (nI (nRw W)), .int (alM W), .int (nI u), .ref (ad 1), .ref (ad 2), .ref (ad 3), .ref (ad 4), .ref (ad 5), .ref (ad 6), .int 1, .ref (ad 7), .ref (ad 8), .ref (ad 9), .int lst, .int sb]) C dM_know_47 (sx_in inM) tM tM_ok nM rfl 11 (by decide) (sx_w C kF_M_73) (fun _ h => h) rfl (by decide +kernel) rfl rfl (MS_f0 hS1) (by simp) rfl ?_
        have hS9 : MS tc (sx_up μ1 (ad 0) (.inr (3, [.int th, .int (nI W), .int (nI (nRw W)), .int (alM W), .int (nI u), .ref (ad 1), .ref (ad 2), .ref (ad 3), .ref (ad 4), .ref (ad 5), .ref (ad 6), .int 1, .ref (ad 7), .ref (ad 8), .ref (ad 9), .int lst, .int sb]))) ad W u th true lst sb mk cd lk fl vr wd cn1 li1 od := MS_kn hS1 true
        exact sx_vretQ C hQ dM_know_50 hr hlocks (Nat.le_of_ble_eq_true rfl) (Nat.le_of_ble_eq_true rfl) (⟨cn1, li1, hS9, hfin⟩)
      · have hc7 : ¬ u ≤ a := fun h => c7 ((nI_leI (by omega) (by omega)).mpr h)
        refine sx_aload_n C dM_know_10 rfl rfl ?_
        refine sx_getf (Cn := RM) (T := TM) (N := 17) C dM_know_11 (sx_in inM) rfl 11 (by decide) (sx_w C kF_M_73) (fun _ h => h) (MS_f0 hS1) rfl ?_
        refine sx_if_ne (tgt := 45) C dM_know_14 (by decide) (fun c14 => ?_) (fun c14 => ?_)
        · have hfin : MP W u S ed true mk cd lk fl vr wd cn1 li1 := by
            have bk := b2i_ne.mp c14
            obtain ⟨z1, z2⟩ := hk1 bk
            rw [z1, z2]
            exact ⟨hP.1, hP.2.1, fun _ => hP.2.2 bk⟩
          refine sx_aload_n C dM_know_45 rfl rfl ?_
          refine sx_iconst (v := 1) C dM_know_46 (by decide) ?_
          refine sx_putf (Cn := RM) (T := TM) (N := 17) (ty := .boolean) (fs' := [.int th, .int (nI W), .int (nI (nRw W)), .int (alM W), .int (nI u), .ref (ad 1), .ref (ad 2), .ref (ad 3), .ref (ad 4), .ref (ad 5), .ref (ad 6), .int 1, .ref (ad 7), .ref (ad 8), .ref (ad 9), .int lst, .int sb]) C dM_know_47 (sx_in inM) tM tM_ok nM rfl 11 (by decide) (sx_w C kF_M_73) (fun _ h => h) rfl (by decide +kernel) rfl rfl (MS_f0 hS1) (by simp) rfl ?_
          have hS9 : MS tc (sx_up μ1 (ad 0) (.inr (3, [.int th, .int (nI W), .int (nI (nRw W)), .int (alM W), .int (nI u), .ref (ad 1), .ref (ad 2), .ref (ad 3), .ref (ad 4), .ref (ad 5), .ref (ad 6), .int 1, .ref (ad 7), .ref (ad 8), .ref (ad 9), .int lst, .int sb]))) ad W u th true lst sb mk cd lk fl vr wd cn1 li1 od := MS_kn hS1 true
          exact sx_vretQ C hQ dM_know_50 hr hlocks (Nat.le_of_ble_eq_true rfl) (Nat.le_of_ble_eq_true rfl) (⟨cn1, li1, hS9, hfin⟩)
        · have bk := b2i_z.mp c14
          refine sx_iconst (v := 0) C dM_know_17 (by decide) ?_
          refine sx_eqi (nI 0) (rfl) ?_
          refine sx_istore_n (lv' := [some (.ref (ad 0)), some (.int (nI a)), some (.int (nI 0))]) C dM_know_18 rfl (by decide) rfl rfl ?_
          have L19 : ∀ (fu2 : Nat) (b : Nat) (μ2 : sx_M) (cn2 li2 : Nat → Int32), u - b < fu2 → (b ≤ u) → (MS tc μ2 ad W u th kn lst sb mk cd lk fl vr wd cn2 li2 od) → (∀ a', a' < u → ∀ b', b' < u → (a' < a ∨ (a' = a ∧ b' < b)) → cn2 (40 * a' + b') = nI (cm W S a' b') ∧ li2 (40 * a' + b') = b2i (lsB W S a' b')) → SW p l e (rmL 2 0 0) s m [.ref (ad 0)].toArray below meth c 3 D sxCl A 0 0 Q μ2 19 [some (.ref (ad 0)), some (.int (nI a)), some (.int (nI b))] [] := by
            intro fu2
            induction fu2 with
            | zero => intro _ _ _ _ h; exact absurd h (Nat.not_lt_zero _)
            | succ fu2 ih2 =>
              intro b μ2 cn2 li2 hfu2 hb hS2 hi2
              refine sx_iload_n C dM_know_19 rfl rfl ?_
              refine sx_aload_n C dM_know_20 rfl rfl ?_
              refine sx_getf (Cn := RM) (T := TM) (N := 17) C dM_know_21 (sx_in inM) rfl 4 (by decide) (sx_w C kF_M_52) (fun _ h => h) (MS_f0 hS2) rfl ?_
              refine sx_icmp_ge (tgt := 39) C dM_know_24 (by decide) (fun c24 => ?_) (fun c24 => ?_)
              · have hc24 : u ≤ b := (nI_leI (by omega) (by omega)).mp c24
                have hbu : b = u := by omega
                refine sx_weak (lv' := [some (.ref (ad 0)), some (.int (nI a)), none]) (And.intro rfl (And.intro rfl trivial)) ?_
                refine sx_iinc (v := nI (a + 1)) (lv' := [some (.ref (ad 0)), some (.int (nI (a + 1))), none]) C dM_know_39 rfl (nI_1 a) (by decide) rfl rfl ?_
                refine sx_goto (tgt := 2) C dM_know_42 (by decide) ?_
                exact ih (a + 1) _ _ _ (by omega) (by omega) hS2 (fun a' h1 b' h2 h3 => hi2 a' h1 b' h2 (by omega)) (fun z => by rw [z] at bk; cases bk)
              · have hc24 : ¬ u ≤ b := fun h => c24 ((nI_leI (by omega) (by omega)).mpr h)
                refine sx_aload_n C dM_know_27 rfl rfl ?_
                refine sx_iload_n C dM_know_28 rfl rfl ?_
                refine sx_iload_n C dM_know_29 rfl rfl ?_
                refine sx_callv C (sx_runV (As := [.int (nI a), .int (nI b)]) (rest := []) C sx_all (c_M_compare l D tc a b ad W u th kn lst sb mk cd lk fl vr wd cn2 li2 od μ2 hS2 S hW (by omega) (by omega) (hP.2.1 a (by omega)) (hP.2.1 b (by omega)) (hA.2.2.1 a (by omega))) (ci := 3) rfl (MS_f0 hS2) (sx_cwV C 2 kM_M_93 ki_M_compare ke_M_compare kn_M kc_M_compare rfl rfl (by decide +kernel) ⟨Nat.le_of_ble_eq_true rfl, Nat.le_of_ble_eq_true rfl⟩) rfl rfl (Nat.le_of_ble_eq_true rfl) dM_know_30 ⟨Nat.le_of_ble_eq_true rfl, Nat.le_of_ble_eq_true rfl⟩) (fun μ3 hS3 => ?_)
                refine sx_iinc (v := nI (b + 1)) (lv' := [some (.ref (ad 0)), some (.int (nI a)), some (.int (nI (b + 1)))]) C dM_know_33 rfl (nI_1 b) (by decide) rfl rfl ?_
                refine sx_goto (tgt := 19) C dM_know_36 (by decide) ?_
                exact ih2 (b + 1) _ _ _ (by omega) (by omega) hS3 (kn_step (by omega) hi2 hu)
          exact L19 _ 0 μ1 cn1 li1 (Nat.lt_succ_self _) (Nat.zero_le _) hS1 (fun a' h1 b' h2 h3 => hi1 a' h1 b' h2 (by omega))
  exact L2 _ 0 μ cn li (Nat.lt_succ_self _) (Nat.zero_le _) hS (fun a' _ b' _ h => absurd h (Nat.not_lt_zero _)) (fun _ => ⟨rfl, rfl⟩)

theorem mt_b {W u : Nat} {S : Nat → Nat → Bool} {a b : Nat} (hW : W ≤ 16) (h : a + 1 ≤ b) : mt W S a b = decide (¬ nI (cm W S a b) ≤ 0) := by
  rw [mt_at (u := u) h, decide_eq_decide]
  have := cm_lt hW S a b
  rw [i_le0, ab_0 (by omega)]
  omega

set_option maxHeartbeats 4000000 in
set_option maxRecDepth 100000 in
/-- pairs -/
theorem c_M_pairs (l : Launch) (D : va_G) (tc : Nat → ClassId) (ad : Nat → Nat) (W : Nat) (u : Nat) (th : Int32) (kn : Bool) (lst : Int32) (sb : Int32) (mk : Nat → Int32) (cd : Nat → Int32) (lk : Nat → Int32) (fl : Nat → Int32) (vr : Nat → Int32) (wd : Nat → Int32) (cn : Nat → Int32) (li : Nat → Int32) (od : Nat → Int32) (μ : sx_M) (hS : MS tc μ ad W u th kn lst sb mk cd lk fl vr wd cn li od) (S : Nat → Nat → Bool) (ed : Nat → Nat → Nat) (hA : AW W u S ed) (hP : MP W u S ed kn mk cd lk fl vr wd cn li) : sx_Mi l yM_pairs (Cond.code yM_pairs cM_pairs 4 (some .int) :: sxW) (rmL 3 0 0) D sxCl (sxT tc) sxE [.ref (ad 0)] μ (fun r μ' => r = nI (prT (mt W S) u u) ∧ MInv tc μ' (ad 0) W u S ed 0) 0 0 := by
  have hW := hA.1.2
  have hu := hA.2.1
  refine sx_ofiQ (cc := cM_pairs) (maxL := 4) (ret := (some .int)) (own := RM) sxE_ok (by decide) rfl rfl (Nat.le_of_ble_eq_true rfl) [some (.ref (ad 0)), none, none, none] 3 rfl (fun p e s m below meth c A Q hQ C hr hlocks hnm => ?_)
  refine sx_aload_n C dM_pairs_0 rfl rfl ?_
  refine sx_iconst (v := 0) C dM_pairs_1 (by decide) ?_
  refine sx_putf (Cn := RM) (T := TM) (N := 17) (ty := .int) (fs' := [.int 0, .int (nI W), .int (nI (nRw W)), .int (alM W), .int (nI u), .ref (ad 1), .ref (ad 2), .ref (ad 3), .ref (ad 4), .ref (ad 5), .ref (ad 6), .int (b2i kn), .ref (ad 7), .ref (ad 8), .ref (ad 9), .int lst, .int sb]) C dM_pairs_2 (sx_in inM) tM tM_ok nM rfl 0 (by decide) (sx_w C kF_M_49) (fun _ h => h) rfl (by decide +kernel) rfl rfl (MS_f0 hS) (by simp) rfl ?_
  have hS0 : MS tc (sx_up μ (ad 0) (.inr (3, [.int 0, .int (nI W), .int (nI (nRw W)), .int (alM W), .int (nI u), .ref (ad 1), .ref (ad 2), .ref (ad 3), .ref (ad 4), .ref (ad 5), .ref (ad 6), .int (b2i kn), .ref (ad 7), .ref (ad 8), .ref (ad 9), .int lst, .int sb]))) ad W u 0 kn lst sb mk cd lk fl vr wd cn li od := MS_th hS 0
  refine sx_aload_n C dM_pairs_5 rfl rfl ?_
  refine sx_callv C (sx_runV (As := []) (rest := []) C sx_all (c_M_know l D tc ad W u 0 kn lst sb mk cd lk fl vr wd cn li od _ hS0 S ed hA hP) (ci := 3) rfl (MS_f0 hS0) (sx_cwV C 0 kM_M_97 ki_M_know ke_M_know kn_M kc_M_know rfl rfl (by decide +kernel) ⟨Nat.le_of_ble_eq_true rfl, Nat.le_of_ble_eq_true rfl⟩) rfl rfl (Nat.le_of_ble_eq_true rfl) dM_pairs_6 ⟨Nat.le_of_ble_eq_true rfl, Nat.le_of_ble_eq_true rfl⟩) (fun μ1 h1 => ?_)
  obtain ⟨cn1, li1, hS1, hP1⟩ := h1
  have hK := hP1.2.2 rfl
  refine sx_iconst (v := 0) C dM_pairs_9 (by decide) ?_
  refine sx_eqi (nI (prT (mt W S) u 0)) (rfl) ?_
  refine sx_istore_n (lv' := [some (.ref (ad 0)), some (.int (nI (prT (mt W S) u 0))), none, none]) C dM_pairs_10 rfl (by decide) rfl rfl ?_
  refine sx_iconst (v := 0) C dM_pairs_11 (by decide) ?_
  refine sx_eqi (nI 0) (rfl) ?_
  refine sx_istore_n (lv' := [some (.ref (ad 0)), some (.int (nI (prT (mt W S) u 0))), some (.int (nI 0)), none]) C dM_pairs_12 rfl (by decide) rfl rfl ?_
  have L13 : ∀ (fu : Nat) (a : Nat), u - a < fu → (a ≤ u) → SW p l e (rmL 3 0 0) s m [.ref (ad 0)].toArray below meth c 4 D sxCl A 0 0 Q μ1 13 [some (.ref (ad 0)), some (.int (nI (prT (mt W S) u a))), some (.int (nI a)), none] [] := by
    intro fu
    induction fu with
    | zero => intro _ h; exact absurd h (Nat.not_lt_zero _)
    | succ fu ih =>
      intro a hfu ha
      refine sx_iload_n C dM_pairs_13 rfl rfl ?_
      refine sx_aload_n C dM_pairs_14 rfl rfl ?_
      refine sx_getf (Cn := RM) (T := TM) (N := 17) C dM_pairs_15 (sx_in inM) rfl 4 (by decide) (sx_w C kF_M_52) (fun _ h => h) (MS_f0 hS1) rfl ?_
      refine sx_icmp_ge (tgt := 67) C dM_pairs_18 (by decide) (fun c18 => ?_) (fun c18 => ?_)
      · have hc18 : u ≤ a := (nI_leI (by omega) (by omega)).mp c18
        obtain rfl : a = u := by omega
        refine sx_iload_n C dM_pairs_67 rfl rfl ?_
        exact sx_iretQ C hQ dM_pairs_68 hr hlocks (Nat.le_of_ble_eq_true rfl) (Nat.le_of_ble_eq_true rfl) (⟨rfl, MInv_of hA hS1 hP1⟩)
      · have hc18 : ¬ u ≤ a := fun h => c18 ((nI_leI (by omega) (by omega)).mpr h)
        refine sx_iload_n C dM_pairs_21 rfl rfl ?_
        refine sx_iconst (v := 1) C dM_pairs_22 (by decide) ?_
        refine sx_iadd C dM_pairs_23 ?_
        refine sx_eqi (nI (a + 1)) (nI_1 a) ?_
        refine sx_istore_n (lv' := [some (.ref (ad 0)), some (.int (nI (prT (mt W S) u a))), some (.int (nI a)), some (.int (nI (a + 1)))]) C dM_pairs_24 rfl (by decide) rfl rfl ?_
        refine sx_lvEq [some (.ref (ad 0)), some (.int (nI (prN (mt W S) u a (a + 1)))), some (.int (nI a)), some (.int (nI (a + 1)))] (by rw [show prN (mt W S) u a (a + 1) = prT (mt W S) u a from pn_i]) ?_
        have L25 : ∀ (fu2 : Nat) (b : Nat), u - b < fu2 → (a + 1 ≤ b) → (b ≤ u) → SW p l e (rmL 3 0 0) s m [.ref (ad 0)].toArray below meth c 4 D sxCl A 0 0 Q μ1 25 [some (.ref (ad 0)), some (.int (nI (prN (mt W S) u a b))), some (.int (nI a)), some (.int (nI b))] [] := by
          intro fu2
          induction fu2 with
          | zero => intro _ h; exact absurd h (Nat.not_lt_zero _)
          | succ fu2 ih2 =>
            intro b hfu2 hb1 hb2
            refine sx_iload_n C dM_pairs_25 rfl rfl ?_
            refine sx_aload_n C dM_pairs_26 rfl rfl ?_
            refine sx_getf (Cn := RM) (T := TM) (N := 17) C dM_pairs_27 (sx_in inM) rfl 4 (by decide) (sx_w C kF_M_52) (fun _ h => h) (MS_f0 hS1) rfl ?_
            refine sx_icmp_ge (tgt := 61) C dM_pairs_30 (by decide) (fun c30 => ?_) (fun c30 => ?_)
            · have hc30 : u ≤ b := (nI_leI (by omega) (by omega)).mp c30
              have hbu : b = u := by omega
              refine sx_weak (lv' := [some (.ref (ad 0)), some (.int (nI (prN (mt W S) u a b))), some (.int (nI a)), none]) (And.intro rfl (And.intro rfl (And.intro rfl trivial))) ?_
              refine sx_iinc (v := nI (a + 1)) (lv' := [some (.ref (ad 0)), some (.int (nI (prN (mt W S) u a b))), some (.int (nI (a + 1))), none]) C dM_pairs_61 rfl (nI_1 a) (by decide) rfl rfl ?_
              refine sx_goto (tgt := 13) C dM_pairs_64 (by decide) ?_
              have z := ih (a + 1) (by omega) (by omega)
              rw [show prT (mt W S) u (a + 1) = prN (mt W S) u a b from by rw [hbu]; rfl] at z
              exact z
            · have hc30 : ¬ u ≤ b := fun h => c30 ((nI_leI (by omega) (by omega)).mpr h)
              refine sx_iload_n C dM_pairs_33 rfl rfl ?_
              have J53 : SW p l e (rmL 3 0 0) s m [.ref (ad 0)].toArray below meth c 4 D sxCl A 0 0 Q μ1 53 [some (.ref (ad 0)), some (.int (nI (prN (mt W S) u a b))), some (.int (nI a)), some (.int (nI b))] [.int (b2i (mt W S a b)), .int (nI (prN (mt W S) u a b))] := by
                refine sx_iadd C dM_pairs_53 ?_
                refine sx_eqi (nI (prN (mt W S) u a (b + 1))) (pn_b) ?_
                refine sx_istore_n (lv' := [some (.ref (ad 0)), some (.int (nI (prN (mt W S) u a (b + 1)))), some (.int (nI a)), some (.int (nI b))]) C dM_pairs_54 rfl (by decide) rfl rfl ?_
                refine sx_iinc (v := nI (b + 1)) (lv' := [some (.ref (ad 0)), some (.int (nI (prN (mt W S) u a (b + 1)))), some (.int (nI a)), some (.int (nI (b + 1)))]) C dM_pairs_55 rfl (nI_1 b) (by decide) rfl rfl ?_
                refine sx_goto (tgt := 25) C dM_pairs_58 (by decide) ?_
                exact ih2 (b + 1) (by omega) (by omega) (by omega)
              refine sx_aload_n C dM_pairs_34 rfl rfl ?_
              refine sx_getf (Cn := RM) (T := TM) (N := 17) C dM_pairs_35 (sx_in inM) rfl 12 (by decide) (sx_w C kF_M_29) (fun _ h => h) (MS_f0 hS1) rfl ?_
              refine sx_bipush (v := 40) C dM_pairs_38 (by decide) ?_
              refine sx_iload_n C dM_pairs_40 rfl rfl ?_
              refine sx_imul C dM_pairs_41 ?_
              refine sx_eqi (nI (40 * a)) (nI_mul 40 a) ?_
              refine sx_iload_n C dM_pairs_42 rfl rfl ?_
              refine sx_iadd C dM_pairs_43 ?_
              refine sx_eqi (nI (40 * a + b)) (nI_add _ _) ?_
              refine sx_iald (j := (40 * a + b)) C dM_pairs_44 0 rfl (MS_f7 hS1) (rfl) ((by omega)) (Nat.le_of_ble_eq_true rfl) ?_
              refine sx_eqi (nI (cm W S a b)) ((hK a (by omega) b (by omega)).1) ?_
              refine sx_if_le (tgt := 52) C dM_pairs_45 (by decide) (fun c45 => ?_) (fun c45 => ?_)
              · refine sx_iconst (v := 0) C dM_pairs_52 (by decide) ?_
                refine sx_eqi ((b2i (mt W S a b))) (by rw [mt_b (u := u) hW hb1]; simp [b2i, c45]) ?_
                exact J53
              · refine sx_iconst (v := 1) C dM_pairs_48 (by decide) ?_
                refine sx_goto (tgt := 53) C dM_pairs_49 (by decide) ?_
                refine sx_eqi ((b2i (mt W S a b))) (by rw [mt_b (u := u) hW hb1]; simp [b2i, c45]) ?_
                exact J53
        exact L25 _ (a + 1) (Nat.lt_succ_self _) (Nat.le_refl _) (by omega)
  exact L13 _ 0 (Nat.lt_succ_self _) (Nat.zero_le _)
