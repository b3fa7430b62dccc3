/-! the law's helpers -/
theorem kx_iae : Cond.castable iaeN iaeN ∈ sxN := List.mem_append_left _ (List.mem_map.mpr ⟨(iaeN, iaeN), by simp [sxN1], rfl⟩)
theorem kx_uoe : Cond.castable uoeN uoeN ∈ sxN := List.mem_append_left _ (List.mem_map.mpr ⟨(uoeN, uoeN), by simp [sxN1], rfl⟩)
theorem kx_ioe : Cond.castable ioeN ioeN ∈ sxN := List.mem_append_left _ (List.mem_map.mpr ⟨(ioeN, ioeN), by simp [sxN1], rfl⟩)
/-- the answer's cell -/
def oc (tc : Nat → ClassId) (f : Nat → Int64) : va_E := .inl (tc 1, 1, .inr (.inl f))

set_option maxHeartbeats 4000000 in
set_option maxRecDepth 100000 in
/-- cell -/
theorem c_L_cell (l : Launch) (D : va_G) (tc : Nat → ClassId) (b L k : Nat) (xs : Nat → Int32) (μ : sx_M) (hL : L < 2 ^ 31) (hk : k < 2 ^ 31) : sx_Mi l yL_cell (Cond.code yL_cell cL_cell 2 (some .int) :: sxW) (rmL 0 0 0) D sxCl (sxT tc) (sxX b L xs) [.ref b, .int (nI k)] μ (fun r μ' => μ = μ' ∧ r = if k < L then xs k else 0) 0 0 := by
  refine sx_ofiQ (cc := cL_cell) (maxL := 2) (ret := (some .int)) (own := RL) (sxX_ok b L xs) (by decide) rfl rfl (Nat.le_of_ble_eq_true rfl) [some (.ref b), some (.int (nI k))] 0 rfl (fun p e s m below meth c A Q hQ C hr hlocks hnm => ?_)
  refine sx_iload_n C dL_cell_0 rfl rfl ?_
  refine sx_aload_n C dL_cell_1 rfl rfl ?_
  refine sx_slen C C.2.2.2.1 dL_cell_2 ?_
  refine sx_icmp_ge (tgt := 12) C dL_cell_3 (by decide) (fun c3 => ?_) (fun c3 => ?_)
  · have hkL : ¬ k < L := Nat.not_lt.mpr ((nI_leI hL hk).mp c3)
    refine sx_iconst (v := 0) C dL_cell_12 (by decide) ?_
    exact sx_iretQ C hQ dL_cell_13 hr hlocks (Nat.le_of_ble_eq_true rfl) (Nat.le_of_ble_eq_true rfl) (⟨rfl, by first | rw [if_pos hkL] | rw [if_neg hkL]⟩)
  · have hkL : k < L := Nat.not_le.mp (fun z => c3 ((nI_leI hL hk).mpr z))
    refine sx_aload_n C dL_cell_6 rfl rfl ?_
    refine sx_iload_n C dL_cell_7 rfl rfl ?_
    refine sx_sld (j := k) C C.2.2.2.1 dL_cell_8 rfl hkL hL ?_
    refine sx_goto (tgt := 13) C dL_cell_9 (by decide) ?_
    exact sx_iretQ C hQ dL_cell_13 hr hlocks (Nat.le_of_ble_eq_true rfl) (Nat.le_of_ble_eq_true rfl) (⟨rfl, by first | rw [if_pos hkL] | rw [if_neg hkL]⟩)

set_option maxHeartbeats 4000000 in
set_option maxRecDepth 100000 in
/-- encoding -/
theorem c_L_encoding (l : Launch) (D : va_G) (tc : Nat → ClassId) (hl : l.stackTraces = false) (x y : Int64) (xo o W u : Nat) (S : Nat → Nat → Bool) (ed : Nat → Nat → Nat) (f : Nat → Int64) (νc : sx_M) (ho : νc o = none) (hC : CInv tc νc xo W u S ed) : sx_Mi l yL_encoding (Cond.codeWith yL_encoding cL_encoding 7 (some .int) [(0, 11, 14, 13), (0, 11, 18, 15)] :: sxW) (rmL 9 2 1030) D sxCl (sxT tc) sxE [.ref xo, .long x, .long y, .ref o] (sx_up νc o (oc tc f)) (fun r μ' => ∃ (ν' : sx_M) (g : Nat → Int64) (u' : Nat) (S' : Nat → Nat → Bool) (ed' : Nat → Nat → Nat), μ' = sx_up ν' o (oc tc g) ∧ ν' o = none ∧ CInv tc ν' xo W u' S' ed' ∧ ∃ v : Int32, R_enc W u S ed x y r v u' S' ed' ∧ (r = 0 → g 0 = v.toInt64)) 2 1030 := by
  obtain ⟨fs, hx0⟩ := ci_x hC
  refine sx_ofiWQ (cc := cL_encoding) (maxL := 7) (ret := (some .int)) (own := RL) sxE_ok (by decide) rfl rfl (Nat.le_of_ble_eq_true rfl) [some (.ref xo), some (.long x), none, some (.long y), none, some (.ref o), none] 1 rfl (fun p e s m below meth c A Q hQ C hr hlocks hnm htab => ?_)
  refine sx_aload C dL_encoding_0 rfl ?_
  refine sx_iconst (v := 0) C dL_encoding_2 (by decide) ?_
  refine sx_aload_n C dL_encoding_3 rfl rfl ?_
  refine sx_lload_n C dL_encoding_4 rfl rfl ?_
  refine sx_lload_n C dL_encoding_5 rfl rfl ?_
  refine sx_callXFi C (lc_in ho) (sx_runXV (As := [.long x, .long y]) (rest := [.int 0, .ref o]) C (lc_in ho) (d_C_encoding l D tc hl x y xo W u S ed νc hC) (ci := 2) rfl (lc_in ho _ _ hx0) (sx_cwV C 2 kM_L_7 ki_C_encoding ke_C_encoding kn_C kc_C_encoding rfl rfl (by decide +kernel) ⟨Nat.le_of_ble_eq_true rfl, Nat.le_of_ble_eq_true rfl⟩) rfl rfl (Nat.le_of_ble_eq_true rfl) dL_encoding_6 ⟨Nat.le_of_ble_eq_true rfl, Nat.le_of_ble_eq_true rfl⟩) (fun Ex μx hx hfx => ?_) (fun r1 ν1 h1 hf1 => ?_)
  · obtain ⟨ho2, hov⟩ := lc_ov ho hfx
    rw [hov]
    obtain ⟨hC2, ⟨hE1, hE2⟩ | ⟨hE1, hE2⟩⟩ := hx
    · subst hE1
      refine sx_catch (name := iaeN) C [] ⟨0, 11, 14, 13⟩ [⟨0, 11, 18, 15⟩] (htab.trans rfl) (fun z hz => absurd hz List.not_mem_nil) (by decide) (by decide) (sx_w C kC_L_13) (va_Nw.use (sxN_tab kx_iae) (C.2.2.2.1.2.2.2.1 _ kx_iae)) (fun q9 => ?_)
      refine sx_astore (lv' := [some (.ref xo), some (.long x), none, some (.long y), none, some (.ref o), some (.ref q9)]) C dL_encoding_14 (by decide) rfl rfl ?_
      refine sx_iconst (v := 1) C dL_encoding_16 (by decide) ?_
      exact sx_iretQ C hQ dL_encoding_17 hr hlocks (Nat.le_of_ble_eq_true rfl) (Nat.le_of_ble_eq_true rfl) (⟨μx, f, u, S, ed, rfl, ho2, hC2, 0, Or.inr ⟨Or.inl ⟨rfl, hE2⟩, rfl, rfl, rfl⟩, fun z => absurd z (by decide)⟩)
    · subst hE1
      refine sx_catch (name := uoeN) C [⟨0, 11, 14, 13⟩] ⟨0, 11, 18, 15⟩ [] (htab.trans rfl) (fun z hz => by
          simp only [List.mem_cons, List.mem_nil_iff, or_false] at hz
          rcases hz with rfl
          · exact Or.inr ⟨by decide, iaeN, sx_w C kC_L_13, C.2.2.2.1.2.2.2.2.1.2.2.1⟩) (by decide) (by decide) (sx_w C kC_L_15) (va_Nw.use (sxN_tab kx_uoe) (C.2.2.2.1.2.2.2.1 _ kx_uoe)) (fun q9 => ?_)
      refine sx_astore (lv' := [some (.ref xo), some (.long x), none, some (.long y), none, some (.ref o), some (.ref q9)]) C dL_encoding_18 (by decide) rfl rfl ?_
      refine sx_iconst (v := 2) C dL_encoding_20 (by decide) ?_
      exact sx_iretQ C hQ dL_encoding_21 hr hlocks (Nat.le_of_ble_eq_true rfl) (Nat.le_of_ble_eq_true rfl) (⟨μx, f, u, S, ed, rfl, ho2, hC2, 0, Or.inr ⟨Or.inr ⟨rfl, hE2⟩, rfl, rfl, rfl⟩, fun z => absurd z (by decide)⟩)
  · obtain ⟨ho2, hov⟩ := lc_ov ho hf1
    refine sx_mu _ hov ?_
    obtain ⟨m9, v9, h2, h3, h4, hC2⟩ := h1
    refine sx_i2l C dL_encoding_9 ?_
    refine sx_last (j := 0) C dL_encoding_10 1 rfl (sx_up_s _ _ _) (rfl) (by decide) (Nat.le_of_ble_eq_true rfl) ?_
    refine sx_goto (tgt := 22) C dL_encoding_11 (by decide) ?_
    refine sx_iconst (v := 0) C dL_encoding_22 (by decide) ?_
    exact sx_iretQ C hQ dL_encoding_23 hr hlocks (Nat.le_of_ble_eq_true rfl) (Nat.le_of_ble_eq_true rfl) (⟨ν1, va_up f 0 _, _, _, _, sx_up_up _ _ _ _, ho2, hC2, r1, Or.inl ⟨rfl, m9, v9, h2, h3, h4, rfl, rfl, rfl⟩, fun _ => va_up_s f 0 _⟩)

set_option maxHeartbeats 4000000 in
set_option maxRecDepth 100000 in
/-- condition -/
theorem c_L_condition (l : Launch) (D : va_G) (tc : Nat → ClassId) (hl : l.stackTraces = false) (x f0 t kd v0 : Int32) (xo o W u : Nat) (S : Nat → Nat → Bool) (ed : Nat → Nat → Nat) (f : Nat → Int64) (νc : sx_M) (ho : νc o = none) (hC : CInv tc νc xo W u S ed) : sx_Mi l yL_condition (Cond.codeWith yL_condition cL_condition 8 (some .int) [(0, 23, 26, 21), (0, 23, 30, 13), (0, 23, 34, 15)] :: sxW) (rmL 9 3 18) D sxCl (sxT tc) sxE [.ref xo, .int x, .int f0, .int t, .int kd, .int v0, .ref o] (sx_up νc o (oc tc f)) (fun r μ' => ∃ (ν' : sx_M) (g : Nat → Int64) (S' : Nat → Nat → Bool) (ed' : Nat → Nat → Nat), μ' = sx_up ν' o (oc tc g) ∧ ν' o = none ∧ CInv tc ν' xo W u S' ed' ∧ ∃ v : Int32, R_cnd W u S ed x f0 t kd v0 r v S' ed' ∧ (r = 0 → g 0 = v.toInt64)) 3 18 := by
  obtain ⟨fs, hx0⟩ := ci_x hC
  refine sx_ofiWQ (cc := cL_condition) (maxL := 8) (ret := (some .int)) (own := RL) sxE_ok (by decide) rfl rfl (Nat.le_of_ble_eq_true rfl) [some (.ref xo), some (.int x), some (.int f0), some (.int t), some (.int kd), some (.int v0), some (.ref o), none] 1 rfl (fun p e s m below meth c A Q hQ C hr hlocks hnm htab => ?_)
  refine sx_aload C dL_condition_0 rfl ?_
  refine sx_iconst (v := 0) C dL_condition_2 (by decide) ?_
  refine sx_aload_n C dL_condition_3 rfl rfl ?_
  refine sx_iload_n C dL_condition_4 rfl rfl ?_
  refine sx_iload_n C dL_condition_5 rfl rfl ?_
  refine sx_iload_n C dL_condition_6 rfl rfl ?_
  refine sx_iload C dL_condition_7 rfl ?_
  refine sx_iload C dL_condition_9 rfl ?_
  refine sx_callXFi C (lc_in ho) (sx_runXV (As := [.int x, .int f0, .int t, .int kd, .int v0]) (rest := [.int 0, .ref o]) C (lc_in ho) (d_C_condition l D tc hl x f0 t kd v0 xo W u S ed νc hC) (ci := 2) rfl (lc_in ho _ _ hx0) (sx_cwV C 5 kM_L_17 ki_C_condition ke_C_condition kn_C kc_C_condition rfl rfl (by decide +kernel) ⟨Nat.le_of_ble_eq_true rfl, Nat.le_of_ble_eq_true rfl⟩) rfl rfl (Nat.le_of_ble_eq_true rfl) dL_condition_11 ⟨Nat.le_of_ble_eq_true rfl, Nat.le_of_ble_eq_true rfl⟩) (fun Ex μx hx hfx => ?_) (fun r1 ν1 h1 hf1 => ?_)
  · obtain ⟨ho2, hov⟩ := lc_ov ho hfx
    rw [hov]
    obtain ⟨hC2, ⟨hE1, hE2⟩ | ⟨hE1, hE2⟩ | ⟨hE1, hE2⟩⟩ := hx
    · subst hE1
      refine sx_catch (name := ioeN) C [] ⟨0, 23, 26, 21⟩ [⟨0, 23, 30, 13⟩, ⟨0, 23, 34, 15⟩] (htab.trans rfl) (fun z hz => absurd hz List.not_mem_nil) (by decide) (by decide) (sx_w C kC_L_21) (va_Nw.use (sxN_tab kx_ioe) (C.2.2.2.1.2.2.2.1 _ kx_ioe)) (fun q9 => ?_)
      refine sx_astore (lv' := [some (.ref xo), some (.int x), some (.int f0), some (.int t), some (.int kd), some (.int v0), some (.ref o), some (.ref q9)]) C dL_condition_26 (by decide) rfl rfl ?_
      refine sx_iconst (v := 1) C dL_condition_28 (by decide) ?_
      exact sx_iretQ C hQ dL_condition_29 hr hlocks (Nat.le_of_ble_eq_true rfl) (Nat.le_of_ble_eq_true rfl) (⟨μx, f, S, ed, rfl, ho2, hC2, 0, Or.inr ⟨Or.inl ⟨rfl, hE2⟩, rfl, rfl⟩, fun z => absurd z (by decide)⟩)
    · subst hE1
      refine sx_catch (name := iaeN) C [⟨0, 23, 26, 21⟩] ⟨0, 23, 30, 13⟩ [⟨0, 23, 34, 15⟩] (htab.trans rfl) (fun z hz => by
          simp only [List.mem_cons, List.mem_nil_iff, or_false] at hz
          rcases hz with rfl
          · exact Or.inr ⟨by decide, ioeN, sx_w C kC_L_21, C.2.2.2.1.2.2.2.2.1.1⟩) (by decide) (by decide) (sx_w C kC_L_13) (va_Nw.use (sxN_tab kx_iae) (C.2.2.2.1.2.2.2.1 _ kx_iae)) (fun q9 => ?_)
      refine sx_astore (lv' := [some (.ref xo), some (.int x), some (.int f0), some (.int t), some (.int kd), some (.int v0), some (.ref o), some (.ref q9)]) C dL_condition_30 (by decide) rfl rfl ?_
      refine sx_iconst (v := 2) C dL_condition_32 (by decide) ?_
      exact sx_iretQ C hQ dL_condition_33 hr hlocks (Nat.le_of_ble_eq_true rfl) (Nat.le_of_ble_eq_true rfl) (⟨μx, f, S, ed, rfl, ho2, hC2, 0, Or.inr ⟨Or.inr (Or.inl ⟨rfl, hE2⟩), rfl, rfl⟩, fun z => absurd z (by decide)⟩)
    · subst hE1
      refine sx_catch (name := uoeN) C [⟨0, 23, 26, 21⟩, ⟨0, 23, 30, 13⟩] ⟨0, 23, 34, 15⟩ [] (htab.trans rfl) (fun z hz => by
          simp only [List.mem_cons, List.mem_nil_iff, or_false] at hz
          rcases hz with rfl | rfl
          · exact Or.inr ⟨by decide, ioeN, sx_w C kC_L_21, C.2.2.2.1.2.2.2.2.1.2.1⟩
          · exact Or.inr ⟨by decide, iaeN, sx_w C kC_L_13, C.2.2.2.1.2.2.2.2.1.2.2.1⟩) (by decide) (by decide) (sx_w C kC_L_15) (va_Nw.use (sxN_tab kx_uoe) (C.2.2.2.1.2.2.2.1 _ kx_uoe)) (fun q9 => ?_)
      refine sx_astore (lv' := [some (.ref xo), some (.int x), some (.int f0), some (.int t), some (.int kd), some (.int v0), some (.ref o), some (.ref q9)]) C dL_condition_34 (by decide) rfl rfl ?_
      refine sx_iconst (v := 3) C dL_condition_36 (by decide) ?_
      exact sx_iretQ C hQ dL_condition_37 hr hlocks (Nat.le_of_ble_eq_true rfl) (Nat.le_of_ble_eq_true rfl) (⟨μx, f, S, ed, rfl, ho2, hC2, 0, Or.inr ⟨Or.inr (Or.inr ⟨rfl, hE2⟩), rfl, rfl⟩, fun z => absurd z (by decide)⟩)
  · obtain ⟨ho2, hov⟩ := lc_ov ho hf1
    refine sx_mu _ hov ?_
    obtain ⟨i9, a9, b9, k9, n9, h2, h3, h4, h5, q9, hr1, h6, hC2⟩ := h1
    refine sx_if_eq (tgt := 21) C dL_condition_14 (by decide) (fun c14 => ?_) (fun c14 => ?_)
    · rw [hr1] at c14
      have hq0 : q9 = false := b2i_z.mp c14
      refine sx_lconst (v := 0) C dL_condition_21 (by decide) ?_
      refine sx_last (j := 0) C dL_condition_22 1 rfl (sx_up_s _ _ _) (rfl) (by decide) (Nat.le_of_ble_eq_true rfl) ?_
      refine sx_goto (tgt := 38) C dL_condition_23 (by decide) ?_
      refine sx_iconst (v := 0) C dL_condition_38 (by decide) ?_
      exact sx_iretQ C hQ dL_condition_39 hr hlocks (Nat.le_of_ble_eq_true rfl) (Nat.le_of_ble_eq_true rfl) (⟨ν1, va_up f 0 _, _, _, sx_up_up _ _ _ _, ho2, hC2, b2i q9, Or.inl ⟨rfl, i9, a9, b9, k9, n9, h2, h3, h4, h5, q9, rfl, h6, rfl, rfl⟩, fun _ => by rw [va_up_s, hq0]; rfl⟩)
    · rw [hr1] at c14
      have hq0 : q9 = true := b2i_ne.mp c14
      refine sx_lconst (v := 1) C dL_condition_17 (by decide) ?_
      refine sx_goto (tgt := 22) C dL_condition_18 (by decide) ?_
      refine sx_last (j := 0) C dL_condition_22 1 rfl (sx_up_s _ _ _) (rfl) (by decide) (Nat.le_of_ble_eq_true rfl) ?_
      refine sx_goto (tgt := 38) C dL_condition_23 (by decide) ?_
      refine sx_iconst (v := 0) C dL_condition_38 (by decide) ?_
      exact sx_iretQ C hQ dL_condition_39 hr hlocks (Nat.le_of_ble_eq_true rfl) (Nat.le_of_ble_eq_true rfl) (⟨ν1, va_up f 0 _, _, _, sx_up_up _ _ _ _, ho2, hC2, b2i q9, Or.inl ⟨rfl, i9, a9, b9, k9, n9, h2, h3, h4, h5, q9, rfl, h6, rfl, rfl⟩, fun _ => by rw [va_up_s, hq0]; rfl⟩)

set_option maxHeartbeats 4000000 in
set_option maxRecDepth 100000 in
/-- operand -/
theorem c_L_operand (l : Launch) (D : va_G) (tc : Nat → ClassId) (hl : l.stackTraces = false) (x f0 t : Int32) (xo o W u : Nat) (S : Nat → Nat → Bool) (ed : Nat → Nat → Nat) (f : Nat → Int64) (νc : sx_M) (ho : νc o = none) (hC : CInv tc νc xo W u S ed) : sx_Mi l yL_operand (Cond.codeWith yL_operand cL_operand 6 (some .int) [(0, 12, 15, 21), (0, 12, 19, 13)] :: sxW) (rmL 9 2 12) D sxCl (sxT tc) sxE [.ref xo, .int x, .int f0, .int t, .ref o] (sx_up νc o (oc tc f)) (fun r μ' => ∃ (ν' : sx_M) (g : Nat → Int64) (ed' : Nat → Nat → Nat), μ' = sx_up ν' o (oc tc g) ∧ ν' o = none ∧ CInv tc ν' xo W u S ed' ∧ ∃ v : Int32, R_opd W u ed x f0 t r v ed' ∧ (r = 0 → g 0 = v.toInt64)) 2 12 := by
  obtain ⟨fs, hx0⟩ := ci_x hC
  refine sx_ofiWQ (cc := cL_operand) (maxL := 6) (ret := (some .int)) (own := RL) sxE_ok (by decide) rfl rfl (Nat.le_of_ble_eq_true rfl) [some (.ref xo), some (.int x), some (.int f0), some (.int t), some (.ref o), none] 1 rfl (fun p e s m below meth c A Q hQ C hr hlocks hnm htab => ?_)
  refine sx_aload C dL_operand_0 rfl ?_
  refine sx_iconst (v := 0) C dL_operand_2 (by decide) ?_
  refine sx_aload_n C dL_operand_3 rfl rfl ?_
  refine sx_iload_n C dL_operand_4 rfl rfl ?_
  refine sx_iload_n C dL_operand_5 rfl rfl ?_
  refine sx_iload_n C dL_operand_6 rfl rfl ?_
  refine sx_callXFi C (lc_in ho) (sx_runXV (As := [.int x, .int f0, .int t]) (rest := [.int 0, .ref o]) C (lc_in ho) (d_C_operand l D tc hl x f0 t xo W u S ed νc hC) (ci := 2) rfl (lc_in ho _ _ hx0) (sx_cwV C 3 kM_L_23 ki_C_operand ke_C_operand kn_C kc_C_operand rfl rfl (by decide +kernel) ⟨Nat.le_of_ble_eq_true rfl, Nat.le_of_ble_eq_true rfl⟩) rfl rfl (Nat.le_of_ble_eq_true rfl) dL_operand_7 ⟨Nat.le_of_ble_eq_true rfl, Nat.le_of_ble_eq_true rfl⟩) (fun Ex μx hx hfx => ?_) (fun r1 ν1 h1 hf1 => ?_)
  · obtain ⟨ho2, hov⟩ := lc_ov ho hfx
    rw [hov]
    obtain ⟨hC2, ⟨hE1, hE2⟩ | ⟨hE1, hE2⟩⟩ := hx
    · subst hE1
      refine sx_catch (name := ioeN) C [] ⟨0, 12, 15, 21⟩ [⟨0, 12, 19, 13⟩] (htab.trans rfl) (fun z hz => absurd hz List.not_mem_nil) (by decide) (by decide) (sx_w C kC_L_21) (va_Nw.use (sxN_tab kx_ioe) (C.2.2.2.1.2.2.2.1 _ kx_ioe)) (fun q9 => ?_)
      refine sx_astore (lv' := [some (.ref xo), some (.int x), some (.int f0), some (.int t), some (.ref o), some (.ref q9)]) C dL_operand_15 (by decide) rfl rfl ?_
      refine sx_iconst (v := 1) C dL_operand_17 (by decide) ?_
      exact sx_iretQ C hQ dL_operand_18 hr hlocks (Nat.le_of_ble_eq_true rfl) (Nat.le_of_ble_eq_true rfl) (⟨μx, f, ed, rfl, ho2, hC2, 0, Or.inr ⟨Or.inl ⟨rfl, hE2⟩, rfl⟩, fun z => absurd z (by decide)⟩)
    · subst hE1
      refine sx_catch (name := iaeN) C [⟨0, 12, 15, 21⟩] ⟨0, 12, 19, 13⟩ [] (htab.trans rfl) (fun z hz => by
          simp only [List.mem_cons, List.mem_nil_iff, or_false] at hz
          rcases hz with rfl
          · exact Or.inr ⟨by decide, ioeN, sx_w C kC_L_21, C.2.2.2.1.2.2.2.2.1.1⟩) (by decide) (by decide) (sx_w C kC_L_13) (va_Nw.use (sxN_tab kx_iae) (C.2.2.2.1.2.2.2.1 _ kx_iae)) (fun q9 => ?_)
      refine sx_astore (lv' := [some (.ref xo), some (.int x), some (.int f0), some (.int t), some (.ref o), some (.ref q9)]) C dL_operand_19 (by decide) rfl rfl ?_
      refine sx_iconst (v := 2) C dL_operand_21 (by decide) ?_
      exact sx_iretQ C hQ dL_operand_22 hr hlocks (Nat.le_of_ble_eq_true rfl) (Nat.le_of_ble_eq_true rfl) (⟨μx, f, ed, rfl, ho2, hC2, 0, Or.inr ⟨Or.inr ⟨rfl, hE2⟩, rfl⟩, fun z => absurd z (by decide)⟩)
  · obtain ⟨ho2, hov⟩ := lc_ov ho hf1
    refine sx_mu _ hov ?_
    obtain ⟨i9, a9, b9, h2, h3, h4, h5, hC2⟩ := h1
    refine sx_i2l C dL_operand_10 ?_
    refine sx_last (j := 0) C dL_operand_11 1 rfl (sx_up_s _ _ _) (rfl) (by decide) (Nat.le_of_ble_eq_true rfl) ?_
    refine sx_goto (tgt := 23) C dL_operand_12 (by decide) ?_
    refine sx_iconst (v := 0) C dL_operand_23 (by decide) ?_
    exact sx_iretQ C hQ dL_operand_24 hr hlocks (Nat.le_of_ble_eq_true rfl) (Nat.le_of_ble_eq_true rfl) (⟨ν1, va_up f 0 _, _, sx_up_up _ _ _ _, ho2, hC2, r1, Or.inl ⟨rfl, i9, a9, b9, h2, h3, h4, h5, rfl⟩, fun _ => va_up_s f 0 _⟩)

set_option maxHeartbeats 4000000 in
set_option maxRecDepth 100000 in
/-- needs -/
theorem c_L_needs (l : Launch) (D : va_G) (tc : Nat → ClassId) (hl : l.stackTraces = false) (x v0 : Int32) (xo o W u : Nat) (S : Nat → Nat → Bool) (ed : Nat → Nat → Nat) (f : Nat → Int64) (νc : sx_M) (ho : νc o = none) (hC : CInv tc νc xo W u S ed) : sx_Mi l yL_needs (Cond.codeWith yL_needs cL_needs 5 (some .int) [(0, 10, 13, 21), (0, 10, 17, 13)] :: sxW) (rmL 9 2 12) D sxCl (sxT tc) sxE [.ref xo, .int x, .int v0, .ref o] (sx_up νc o (oc tc f)) (fun r μ' => ∃ (ν' : sx_M) (g : Nat → Int64) (ed' : Nat → Nat → Nat), μ' = sx_up ν' o (oc tc g) ∧ ν' o = none ∧ CInv tc ν' xo W u S ed' ∧ ∃ v : Int32, R_nds u ed x v0 r v ed' ∧ (r = 0 → g 0 = v.toInt64)) 2 12 := by
  obtain ⟨fs, hx0⟩ := ci_x hC
  refine sx_ofiWQ (cc := cL_needs) (maxL := 5) (ret := (some .int)) (own := RL) sxE_ok (by decide) rfl rfl (Nat.le_of_ble_eq_true rfl) [some (.ref xo), some (.int x), some (.int v0), some (.ref o), none] 1 rfl (fun p e s m below meth c A Q hQ C hr hlocks hnm htab => ?_)
  refine sx_aload_n C dL_needs_0 rfl rfl ?_
  refine sx_iconst (v := 0) C dL_needs_1 (by decide) ?_
  refine sx_aload_n C dL_needs_2 rfl rfl ?_
  refine sx_iload_n C dL_needs_3 rfl rfl ?_
  refine sx_iload_n C dL_needs_4 rfl rfl ?_
  refine sx_callXFi C (lc_in ho) (sx_runXV (As := [.int x, .int v0]) (rest := [.int 0, .ref o]) C (lc_in ho) (d_C_needs l D tc hl x v0 xo W u S ed νc hC) (ci := 2) rfl (lc_in ho _ _ hx0) (sx_cwV C 2 kM_L_27 ki_C_needs ke_C_needs kn_C kc_C_needs rfl rfl (by decide +kernel) ⟨Nat.le_of_ble_eq_true rfl, Nat.le_of_ble_eq_true rfl⟩) rfl rfl (Nat.le_of_ble_eq_true rfl) dL_needs_5 ⟨Nat.le_of_ble_eq_true rfl, Nat.le_of_ble_eq_true rfl⟩) (fun Ex μx hx hfx => ?_) (fun r1 ν1 h1 hf1 => ?_)
  · obtain ⟨ho2, hov⟩ := lc_ov ho hfx
    rw [hov]
    obtain ⟨hC2, ⟨hE1, hE2⟩ | ⟨hE1, hE2⟩⟩ := hx
    · subst hE1
      refine sx_catch (name := ioeN) C [] ⟨0, 10, 13, 21⟩ [⟨0, 10, 17, 13⟩] (htab.trans rfl) (fun z hz => absurd hz List.not_mem_nil) (by decide) (by decide) (sx_w C kC_L_21) (va_Nw.use (sxN_tab kx_ioe) (C.2.2.2.1.2.2.2.1 _ kx_ioe)) (fun q9 => ?_)
      refine sx_astore (lv' := [some (.ref xo), some (.int x), some (.int v0), some (.ref o), some (.ref q9)]) C dL_needs_13 (by decide) rfl rfl ?_
      refine sx_iconst (v := 1) C dL_needs_15 (by decide) ?_
      exact sx_iretQ C hQ dL_needs_16 hr hlocks (Nat.le_of_ble_eq_true rfl) (Nat.le_of_ble_eq_true rfl) (⟨μx, f, ed, rfl, ho2, hC2, 0, Or.inr ⟨Or.inl ⟨rfl, hE2⟩, rfl⟩, fun z => absurd z (by decide)⟩)
    · subst hE1
      refine sx_catch (name := iaeN) C [⟨0, 10, 13, 21⟩] ⟨0, 10, 17, 13⟩ [] (htab.trans rfl) (fun z hz => by
          simp only [List.mem_cons, List.mem_nil_iff, or_false] at hz
          rcases hz with rfl
          · exact Or.inr ⟨by decide, ioeN, sx_w C kC_L_21, C.2.2.2.1.2.2.2.2.1.1⟩) (by decide) (by decide) (sx_w C kC_L_13) (va_Nw.use (sxN_tab kx_iae) (C.2.2.2.1.2.2.2.1 _ kx_iae)) (fun q9 => ?_)
      refine sx_astore (lv' := [some (.ref xo), some (.int x), some (.int v0), some (.ref o), some (.ref q9)]) C dL_needs_17 (by decide) rfl rfl ?_
      refine sx_iconst (v := 2) C dL_needs_19 (by decide) ?_
      exact sx_iretQ C hQ dL_needs_20 hr hlocks (Nat.le_of_ble_eq_true rfl) (Nat.le_of_ble_eq_true rfl) (⟨μx, f, ed, rfl, ho2, hC2, 0, Or.inr ⟨Or.inr ⟨rfl, hE2⟩, rfl⟩, fun z => absurd z (by decide)⟩)
  · obtain ⟨ho2, hov⟩ := lc_ov ho hf1
    refine sx_mu _ hov ?_
    obtain ⟨i9, n9, h2, h3, h4, h5, h6, hC2⟩ := h1
    refine sx_i2l C dL_needs_8 ?_
    refine sx_last (j := 0) C dL_needs_9 1 rfl (sx_up_s _ _ _) (rfl) (by decide) (Nat.le_of_ble_eq_true rfl) ?_
    refine sx_goto (tgt := 21) C dL_needs_10 (by decide) ?_
    refine sx_iconst (v := 0) C dL_needs_21 (by decide) ?_
    exact sx_iretQ C hQ dL_needs_22 hr hlocks (Nat.le_of_ble_eq_true rfl) (Nat.le_of_ble_eq_true rfl) (⟨ν1, va_up f 0 _, _, sx_up_up _ _ _ _, ho2, hC2, r1, Or.inl ⟨rfl, i9, n9, h2, h3, h4, h5, h6, rfl⟩, fun _ => va_up_s f 0 _⟩)

set_option maxHeartbeats 4000000 in
set_option maxRecDepth 100000 in
/-- pair -/
theorem c_L_pair (l : Launch) (D : va_G) (tc : Nat → ClassId) (hl : l.stackTraces = false) (x y : Int32) (xo o W u : Nat) (S : Nat → Nat → Bool) (ed : Nat → Nat → Nat) (f : Nat → Int64) (νc : sx_M) (ho : νc o = none) (hC : CInv tc νc xo W u S ed) : sx_Mi l yL_pair (Cond.codeWith yL_pair cL_pair 5 (some .int) [(0, 10, 13, 21)] :: sxW) (rmL 9 1 6) D sxCl (sxT tc) sxE [.ref xo, .int x, .int y, .ref o] (sx_up νc o (oc tc f)) (fun r μ' => ∃ (ν' : sx_M) (g : Nat → Int64), μ' = sx_up ν' o (oc tc g) ∧ ν' o = none ∧ CInv tc ν' xo W u S ed ∧ ∃ v : Int32, R_pair W u S x y r v ∧ (r = 0 → g 0 = v.toInt64)) 1 6 := by
  obtain ⟨fs, hx0⟩ := ci_x hC
  refine sx_ofiWQ (cc := cL_pair) (maxL := 5) (ret := (some .int)) (own := RL) sxE_ok (by decide) rfl rfl (Nat.le_of_ble_eq_true rfl) [some (.ref xo), some (.int x), some (.int y), some (.ref o), none] 1 rfl (fun p e s m below meth c A Q hQ C hr hlocks hnm htab => ?_)
  refine sx_aload_n C dL_pair_0 rfl rfl ?_
  refine sx_iconst (v := 0) C dL_pair_1 (by decide) ?_
  refine sx_aload_n C dL_pair_2 rfl rfl ?_
  refine sx_iload_n C dL_pair_3 rfl rfl ?_
  refine sx_iload_n C dL_pair_4 rfl rfl ?_
  refine sx_callXFi C (lc_in ho) (sx_runXV (As := [.int x, .int y]) (rest := [.int 0, .ref o]) C (lc_in ho) (d_C_pair l D tc hl x y xo W u S ed νc hC) (ci := 2) rfl (lc_in ho _ _ hx0) (sx_cwV C 2 kM_L_31 ki_C_pair ke_C_pair kn_C kc_C_pair rfl rfl (by decide +kernel) ⟨Nat.le_of_ble_eq_true rfl, Nat.le_of_ble_eq_true rfl⟩) rfl rfl (Nat.le_of_ble_eq_true rfl) dL_pair_5 ⟨Nat.le_of_ble_eq_true rfl, Nat.le_of_ble_eq_true rfl⟩) (fun Ex μx hx hfx => ?_) (fun r1 ν1 h1 hf1 => ?_)
  · obtain ⟨ho2, hov⟩ := lc_ov ho hfx
    rw [hov]
    obtain ⟨hC2, hE1, hE2⟩ := hx
    subst hE1
    refine sx_catch (name := ioeN) C [] ⟨0, 10, 13, 21⟩ [] (htab.trans rfl) (fun z hz => absurd hz List.not_mem_nil) (by decide) (by decide) (sx_w C kC_L_21) (va_Nw.use (sxN_tab kx_ioe) (C.2.2.2.1.2.2.2.1 _ kx_ioe)) (fun q9 => ?_)
    refine sx_astore (lv' := [some (.ref xo), some (.int x), some (.int y), some (.ref o), some (.ref q9)]) C dL_pair_13 (by decide) rfl rfl ?_
    refine sx_iconst (v := 1) C dL_pair_15 (by decide) ?_
    exact sx_iretQ C hQ dL_pair_16 hr hlocks (Nat.le_of_ble_eq_true rfl) (Nat.le_of_ble_eq_true rfl) (⟨μx, f, rfl, ho2, hC2, 0, Or.inr ⟨rfl, hE2⟩, fun z => absurd z (by decide)⟩)
  · obtain ⟨ho2, hov⟩ := lc_ov ho hf1
    refine sx_mu _ hov ?_
    obtain ⟨h2, hC2⟩ := h1
    refine sx_i2l C dL_pair_8 ?_
    refine sx_last (j := 0) C dL_pair_9 1 rfl (sx_up_s _ _ _) (rfl) (by decide) (Nat.le_of_ble_eq_true rfl) ?_
    refine sx_goto (tgt := 17) C dL_pair_10 (by decide) ?_
    refine sx_iconst (v := 0) C dL_pair_17 (by decide) ?_
    exact sx_iretQ C hQ dL_pair_18 hr hlocks (Nat.le_of_ble_eq_true rfl) (Nat.le_of_ble_eq_true rfl) (⟨ν1, va_up f 0 _, sx_up_up _ _ _ _, ho2, hC2, r1, Or.inl ⟨rfl, h2⟩, fun _ => va_up_s f 0 _⟩)

set_option maxHeartbeats 4000000 in
set_option maxRecDepth 100000 in
/-- alias -/
theorem c_L_alias (l : Launch) (D : va_G) (tc : Nat → ClassId) (hl : l.stackTraces = false) (x y : Int32) (xo o W u : Nat) (S : Nat → Nat → Bool) (ed : Nat → Nat → Nat) (f : Nat → Int64) (νc : sx_M) (ho : νc o = none) (hC : CInv tc νc xo W u S ed) : sx_Mi l yL_alias (Cond.codeWith yL_alias cL_alias 5 (some .int) [(0, 10, 13, 21)] :: sxW) (rmL 9 2 12) D sxCl (sxT tc) sxE [.ref xo, .int x, .int y, .ref o] (sx_up νc o (oc tc f)) (fun r μ' => ∃ (ν' : sx_M) (g : Nat → Int64), μ' = sx_up ν' o (oc tc g) ∧ ν' o = none ∧ CInv tc ν' xo W u S ed ∧ ∃ v : Int32, R_als W u S x y r v ∧ (r = 0 → g 0 = v.toInt64)) 2 12 := by
  obtain ⟨fs, hx0⟩ := ci_x hC
  refine sx_ofiWQ (cc := cL_alias) (maxL := 5) (ret := (some .int)) (own := RL) sxE_ok (by decide) rfl rfl (Nat.le_of_ble_eq_true rfl) [some (.ref xo), some (.int x), some (.int y), some (.ref o), none] 1 rfl (fun p e s m below meth c A Q hQ C hr hlocks hnm htab => ?_)
  refine sx_aload_n C dL_alias_0 rfl rfl ?_
  refine sx_iconst (v := 0) C dL_alias_1 (by decide) ?_
  refine sx_aload_n C dL_alias_2 rfl rfl ?_
  refine sx_iload_n C dL_alias_3 rfl rfl ?_
  refine sx_iload_n C dL_alias_4 rfl rfl ?_
  refine sx_callXFi C (lc_in ho) (sx_runXV (As := [.int x, .int y]) (rest := [.int 0, .ref o]) C (lc_in ho) (d_C_alias l D tc hl x y xo W u S ed νc hC) (ci := 2) rfl (lc_in ho _ _ hx0) (sx_cwV C 2 kM_L_34 ki_C_alias ke_C_alias kn_C kc_C_alias rfl rfl (by decide +kernel) ⟨Nat.le_of_ble_eq_true rfl, Nat.le_of_ble_eq_true rfl⟩) rfl rfl (Nat.le_of_ble_eq_true rfl) dL_alias_5 ⟨Nat.le_of_ble_eq_true rfl, Nat.le_of_ble_eq_true rfl⟩) (fun Ex μx hx hfx => ?_) (fun r1 ν1 h1 hf1 => ?_)
  · obtain ⟨ho2, hov⟩ := lc_ov ho hfx
    rw [hov]
    obtain ⟨hC2, hE1, hE2⟩ := hx
    subst hE1
    refine sx_catch (name := ioeN) C [] ⟨0, 10, 13, 21⟩ [] (htab.trans rfl) (fun z hz => absurd hz List.not_mem_nil) (by decide) (by decide) (sx_w C kC_L_21) (va_Nw.use (sxN_tab kx_ioe) (C.2.2.2.1.2.2.2.1 _ kx_ioe)) (fun q9 => ?_)
    refine sx_astore (lv' := [some (.ref xo), some (.int x), some (.int y), some (.ref o), some (.ref q9)]) C dL_alias_13 (by decide) rfl rfl ?_
    refine sx_iconst (v := 1) C dL_alias_15 (by decide) ?_
    exact sx_iretQ C hQ dL_alias_16 hr hlocks (Nat.le_of_ble_eq_true rfl) (Nat.le_of_ble_eq_true rfl) (⟨μx, f, rfl, ho2, hC2, 0, Or.inr ⟨rfl, hE2⟩, fun z => absurd z (by decide)⟩)
  · obtain ⟨ho2, hov⟩ := lc_ov ho hf1
    refine sx_mu _ hov ?_
    obtain ⟨h2, hC2⟩ := h1
    refine sx_i2l C dL_alias_8 ?_
    refine sx_last (j := 0) C dL_alias_9 1 rfl (sx_up_s _ _ _) (rfl) (by decide) (Nat.le_of_ble_eq_true rfl) ?_
    refine sx_goto (tgt := 17) C dL_alias_10 (by decide) ?_
    refine sx_iconst (v := 0) C dL_alias_17 (by decide) ?_
    exact sx_iretQ C hQ dL_alias_18 hr hlocks (Nat.le_of_ble_eq_true rfl) (Nat.le_of_ble_eq_true rfl) (⟨ν1, va_up f 0 _, sx_up_up _ _ _ _, ho2, hC2, r1, Or.inl ⟨rfl, h2⟩, fun _ => va_up_s f 0 _⟩)

set_option maxHeartbeats 4000000 in
set_option maxRecDepth 100000 in
/-- clashes -/
theorem c_L_clashes (l : Launch) (D : va_G) (tc : Nat → ClassId) (hl : l.stackTraces = false) (x : Int32) (xo o W u : Nat) (S : Nat → Nat → Bool) (ed : Nat → Nat → Nat) (f : Nat → Int64) (νc : sx_M) (ho : νc o = none) (hC : CInv tc νc xo W u S ed) : sx_Mi l yL_clashes (Cond.codeWith yL_clashes cL_clashes 4 (some .int) [(0, 9, 12, 13)] :: sxW) (rmL 9 1 6) D sxCl (sxT tc) sxE [.ref xo, .int x, .ref o] (sx_up νc o (oc tc f)) (fun r μ' => ∃ (ν' : sx_M) (g : Nat → Int64), μ' = sx_up ν' o (oc tc g) ∧ ν' o = none ∧ CInv tc ν' xo W u S ed ∧ ∃ v : Int32, R_cls W u S ed x r v ∧ (r = 0 → g 0 = v.toInt64)) 1 6 := by
  obtain ⟨fs, hx0⟩ := ci_x hC
  refine sx_ofiWQ (cc := cL_clashes) (maxL := 4) (ret := (some .int)) (own := RL) sxE_ok (by decide) rfl rfl (Nat.le_of_ble_eq_true rfl) [some (.ref xo), some (.int x), some (.ref o), none] 1 rfl (fun p e s m below meth c A Q hQ C hr hlocks hnm htab => ?_)
  refine sx_aload_n C dL_clashes_0 rfl rfl ?_
  refine sx_iconst (v := 0) C dL_clashes_1 (by decide) ?_
  refine sx_aload_n C dL_clashes_2 rfl rfl ?_
  refine sx_iload_n C dL_clashes_3 rfl rfl ?_
  refine sx_callXFi C (lc_in ho) (sx_runXV (As := [.int x]) (rest := [.int 0, .ref o]) C (lc_in ho) (d_C_clashes l D tc hl x xo W u S ed νc hC) (ci := 2) rfl (lc_in ho _ _ hx0) (sx_cwV C 1 kM_L_37 ki_C_clashes ke_C_clashes kn_C kc_C_clashes rfl rfl (by decide +kernel) ⟨Nat.le_of_ble_eq_true rfl, Nat.le_of_ble_eq_true rfl⟩) rfl rfl (Nat.le_of_ble_eq_true rfl) dL_clashes_4 ⟨Nat.le_of_ble_eq_true rfl, Nat.le_of_ble_eq_true rfl⟩) (fun Ex μx hx hfx => ?_) (fun r1 ν1 h1 hf1 => ?_)
  · obtain ⟨ho2, hov⟩ := lc_ov ho hfx
    rw [hov]
    obtain ⟨hC2, hE1, hE2⟩ := hx
    subst hE1
    refine sx_catch (name := iaeN) C [] ⟨0, 9, 12, 13⟩ [] (htab.trans rfl) (fun z hz => absurd hz List.not_mem_nil) (by decide) (by decide) (sx_w C kC_L_13) (va_Nw.use (sxN_tab kx_iae) (C.2.2.2.1.2.2.2.1 _ kx_iae)) (fun q9 => ?_)
    refine sx_astore_n (lv' := [some (.ref xo), some (.int x), some (.ref o), some (.ref q9)]) C dL_clashes_12 rfl (by decide) rfl rfl ?_
    refine sx_iconst (v := 1) C dL_clashes_13 (by decide) ?_
    exact sx_iretQ C hQ dL_clashes_14 hr hlocks (Nat.le_of_ble_eq_true rfl) (Nat.le_of_ble_eq_true rfl) (⟨μx, f, rfl, ho2, hC2, 0, Or.inr ⟨rfl, hE2⟩, fun z => absurd z (by decide)⟩)
  · obtain ⟨ho2, hov⟩ := lc_ov ho hf1
    refine sx_mu _ hov ?_
    obtain ⟨h2, hC2⟩ := h1
    refine sx_i2l C dL_clashes_7 ?_
    refine sx_last (j := 0) C dL_clashes_8 1 rfl (sx_up_s _ _ _) (rfl) (by decide) (Nat.le_of_ble_eq_true rfl) ?_
    refine sx_goto (tgt := 15) C dL_clashes_9 (by decide) ?_
    refine sx_iconst (v := 0) C dL_clashes_15 (by decide) ?_
    exact sx_iretQ C hQ dL_clashes_16 hr hlocks (Nat.le_of_ble_eq_true rfl) (Nat.le_of_ble_eq_true rfl) (⟨ν1, va_up f 0 _, sx_up_up _ _ _ _, ho2, hC2, r1, Or.inl ⟨rfl, h2⟩, fun _ => va_up_s f 0 _⟩)

set_option maxHeartbeats 4000000 in
set_option maxRecDepth 100000 in
/-- meaningless -/
theorem c_L_meaningless (l : Launch) (D : va_G) (tc : Nat → ClassId) (hl : l.stackTraces = false) (x : Int32) (xo o W u : Nat) (S : Nat → Nat → Bool) (ed : Nat → Nat → Nat) (f : Nat → Int64) (νc : sx_M) (ho : νc o = none) (hC : CInv tc νc xo W u S ed) : sx_Mi l yL_meaningless (Cond.codeWith yL_meaningless cL_meaningless 4 (some .int) [(0, 9, 12, 21)] :: sxW) (rmL 9 1 6) D sxCl (sxT tc) sxE [.ref xo, .int x, .ref o] (sx_up νc o (oc tc f)) (fun r μ' => ∃ (ν' : sx_M) (g : Nat → Int64), μ' = sx_up ν' o (oc tc g) ∧ ν' o = none ∧ CInv tc ν' xo W u S ed ∧ ∃ v : Int32, R_mls W u ed x r v ∧ (r = 0 → g 0 = v.toInt64)) 1 6 := by
  obtain ⟨fs, hx0⟩ := ci_x hC
  refine sx_ofiWQ (cc := cL_meaningless) (maxL := 4) (ret := (some .int)) (own := RL) sxE_ok (by decide) rfl rfl (Nat.le_of_ble_eq_true rfl) [some (.ref xo), some (.int x), some (.ref o), none] 1 rfl (fun p e s m below meth c A Q hQ C hr hlocks hnm htab => ?_)
  refine sx_aload_n C dL_meaningless_0 rfl rfl ?_
  refine sx_iconst (v := 0) C dL_meaningless_1 (by decide) ?_
  refine sx_aload_n C dL_meaningless_2 rfl rfl ?_
  refine sx_iload_n C dL_meaningless_3 rfl rfl ?_
  refine sx_callXFi C (lc_in ho) (sx_runXV (As := [.int x]) (rest := [.int 0, .ref o]) C (lc_in ho) (d_C_meaningless l D tc hl x xo W u S ed νc hC) (ci := 2) rfl (lc_in ho _ _ hx0) (sx_cwV C 1 kM_L_41 ki_C_meaningless ke_C_meaningless kn_C kc_C_meaningless rfl rfl (by decide +kernel) ⟨Nat.le_of_ble_eq_true rfl, Nat.le_of_ble_eq_true rfl⟩) rfl rfl (Nat.le_of_ble_eq_true rfl) dL_meaningless_4 ⟨Nat.le_of_ble_eq_true rfl, Nat.le_of_ble_eq_true rfl⟩) (fun Ex μx hx hfx => ?_) (fun r1 ν1 h1 hf1 => ?_)
  · obtain ⟨ho2, hov⟩ := lc_ov ho hfx
    rw [hov]
    obtain ⟨hC2, hE1, hE2⟩ := hx
    subst hE1
    refine sx_catch (name := ioeN) C [] ⟨0, 9, 12, 21⟩ [] (htab.trans rfl) (fun z hz => absurd hz List.not_mem_nil) (by decide) (by decide) (sx_w C kC_L_21) (va_Nw.use (sxN_tab kx_ioe) (C.2.2.2.1.2.2.2.1 _ kx_ioe)) (fun q9 => ?_)
    refine sx_astore_n (lv' := [some (.ref xo), some (.int x), some (.ref o), some (.ref q9)]) C dL_meaningless_12 rfl (by decide) rfl rfl ?_
    refine sx_iconst (v := 1) C dL_meaningless_13 (by decide) ?_
    exact sx_iretQ C hQ dL_meaningless_14 hr hlocks (Nat.le_of_ble_eq_true rfl) (Nat.le_of_ble_eq_true rfl) (⟨μx, f, rfl, ho2, hC2, 0, Or.inr ⟨rfl, hE2⟩, fun z => absurd z (by decide)⟩)
  · obtain ⟨ho2, hov⟩ := lc_ov ho hf1
    refine sx_mu _ hov ?_
    obtain ⟨h2, hC2⟩ := h1
    refine sx_i2l C dL_meaningless_7 ?_
    refine sx_last (j := 0) C dL_meaningless_8 1 rfl (sx_up_s _ _ _) (rfl) (by decide) (Nat.le_of_ble_eq_true rfl) ?_
    refine sx_goto (tgt := 15) C dL_meaningless_9 (by decide) ?_
    refine sx_iconst (v := 0) C dL_meaningless_15 (by decide) ?_
    exact sx_iretQ C hQ dL_meaningless_16 hr hlocks (Nat.le_of_ble_eq_true rfl) (Nat.le_of_ble_eq_true rfl) (⟨ν1, va_up f 0 _, sx_up_up _ _ _ _, ho2, hC2, r1, Or.inl ⟨rfl, h2⟩, fun _ => va_up_s f 0 _⟩)

set_option maxHeartbeats 4000000 in
set_option maxRecDepth 100000 in
/-- idle -/
theorem c_L_idle (l : Launch) (D : va_G) (tc : Nat → ClassId) (hl : l.stackTraces = false) (x y : Int32) (xo o W u : Nat) (S : Nat → Nat → Bool) (ed : Nat → Nat → Nat) (f : Nat → Int64) (νc : sx_M) (ho : νc o = none) (hC : CInv tc νc xo W u S ed) : sx_Mi l yL_idle (Cond.codeWith yL_idle cL_idle 5 (some .int) [(0, 10, 13, 21), (0, 10, 17, 13)] :: sxW) (rmL 9 2 12) D sxCl (sxT tc) sxE [.ref xo, .int x, .int y, .ref o] (sx_up νc o (oc tc f)) (fun r μ' => ∃ (ν' : sx_M) (g : Nat → Int64), μ' = sx_up ν' o (oc tc g) ∧ ν' o = none ∧ CInv tc ν' xo W u S ed ∧ ∃ v : Int32, R_idl W u ed x y r v ∧ (r = 0 → g 0 = v.toInt64)) 2 12 := by
  obtain ⟨fs, hx0⟩ := ci_x hC
  refine sx_ofiWQ (cc := cL_idle) (maxL := 5) (ret := (some .int)) (own := RL) sxE_ok (by decide) rfl rfl (Nat.le_of_ble_eq_true rfl) [some (.ref xo), some (.int x), some (.int y), some (.ref o), none] 1 rfl (fun p e s m below meth c A Q hQ C hr hlocks hnm htab => ?_)
  refine sx_aload_n C dL_idle_0 rfl rfl ?_
  refine sx_iconst (v := 0) C dL_idle_1 (by decide) ?_
  refine sx_aload_n C dL_idle_2 rfl rfl ?_
  refine sx_iload_n C dL_idle_3 rfl rfl ?_
  refine sx_iload_n C dL_idle_4 rfl rfl ?_
  refine sx_callXFi C (lc_in ho) (sx_runXV (As := [.int x, .int y]) (rest := [.int 0, .ref o]) C (lc_in ho) (d_C_idle l D tc hl x y xo W u S ed νc hC) (ci := 2) rfl (lc_in ho _ _ hx0) (sx_cwV C 2 kM_L_44 ki_C_idle ke_C_idle kn_C kc_C_idle rfl rfl (by decide +kernel) ⟨Nat.le_of_ble_eq_true rfl, Nat.le_of_ble_eq_true rfl⟩) rfl rfl (Nat.le_of_ble_eq_true rfl) dL_idle_5 ⟨Nat.le_of_ble_eq_true rfl, Nat.le_of_ble_eq_true rfl⟩) (fun Ex μx hx hfx => ?_) (fun r1 ν1 h1 hf1 => ?_)
  · obtain ⟨ho2, hov⟩ := lc_ov ho hfx
    rw [hov]
    obtain ⟨hC2, ⟨hE1, hE2⟩ | ⟨hE1, hE2⟩⟩ := hx
    · subst hE1
      refine sx_catch (name := ioeN) C [] ⟨0, 10, 13, 21⟩ [⟨0, 10, 17, 13⟩] (htab.trans rfl) (fun z hz => absurd hz List.not_mem_nil) (by decide) (by decide) (sx_w C kC_L_21) (va_Nw.use (sxN_tab kx_ioe) (C.2.2.2.1.2.2.2.1 _ kx_ioe)) (fun q9 => ?_)
      refine sx_astore (lv' := [some (.ref xo), some (.int x), some (.int y), some (.ref o), some (.ref q9)]) C dL_idle_13 (by decide) rfl rfl ?_
      refine sx_iconst (v := 1) C dL_idle_15 (by decide) ?_
      exact sx_iretQ C hQ dL_idle_16 hr hlocks (Nat.le_of_ble_eq_true rfl) (Nat.le_of_ble_eq_true rfl) (⟨μx, f, rfl, ho2, hC2, 0, Or.inr (Or.inl ⟨rfl, hE2⟩), fun z => absurd z (by decide)⟩)
    · subst hE1
      refine sx_catch (name := iaeN) C [⟨0, 10, 13, 21⟩] ⟨0, 10, 17, 13⟩ [] (htab.trans rfl) (fun z hz => by
          simp only [List.mem_cons, List.mem_nil_iff, or_false] at hz
          rcases hz with rfl
          · exact Or.inr ⟨by decide, ioeN, sx_w C kC_L_21, C.2.2.2.1.2.2.2.2.1.1⟩) (by decide) (by decide) (sx_w C kC_L_13) (va_Nw.use (sxN_tab kx_iae) (C.2.2.2.1.2.2.2.1 _ kx_iae)) (fun q9 => ?_)
      refine sx_astore (lv' := [some (.ref xo), some (.int x), some (.int y), some (.ref o), some (.ref q9)]) C dL_idle_17 (by decide) rfl rfl ?_
      refine sx_iconst (v := 2) C dL_idle_19 (by decide) ?_
      exact sx_iretQ C hQ dL_idle_20 hr hlocks (Nat.le_of_ble_eq_true rfl) (Nat.le_of_ble_eq_true rfl) (⟨μx, f, rfl, ho2, hC2, 0, Or.inr (Or.inr ⟨rfl, hE2⟩), fun z => absurd z (by decide)⟩)
  · obtain ⟨ho2, hov⟩ := lc_ov ho hf1
    refine sx_mu _ hov ?_
    obtain ⟨h2, hC2⟩ := h1
    refine sx_i2l C dL_idle_8 ?_
    refine sx_last (j := 0) C dL_idle_9 1 rfl (sx_up_s _ _ _) (rfl) (by decide) (Nat.le_of_ble_eq_true rfl) ?_
    refine sx_goto (tgt := 21) C dL_idle_10 (by decide) ?_
    refine sx_iconst (v := 0) C dL_idle_21 (by decide) ?_
    exact sx_iretQ C hQ dL_idle_22 hr hlocks (Nat.le_of_ble_eq_true rfl) (Nat.le_of_ble_eq_true rfl) (⟨ν1, va_up f 0 _, sx_up_up _ _ _ _, ho2, hC2, r1, Or.inl ⟨rfl, h2⟩, fun _ => va_up_s f 0 _⟩)

set_option maxHeartbeats 4000000 in
set_option maxRecDepth 100000 in
/-- count -/
theorem c_L_count (l : Launch) (D : va_G) (tc : Nat → ClassId) (hl : l.stackTraces = false) (x : Int32) (xo o W u : Nat) (S : Nat → Nat → Bool) (ed : Nat → Nat → Nat) (f : Nat → Int64) (νc : sx_M) (ho : νc o = none) (hC : CInv tc νc xo W u S ed) : sx_Mi l yL_count (Cond.codeWith yL_count cL_count 4 (some .int) [(0, 9, 12, 21)] :: sxW) (rmL 9 1 6) D sxCl (sxT tc) sxE [.ref xo, .int x, .ref o] (sx_up νc o (oc tc f)) (fun r μ' => ∃ (ν' : sx_M) (g : Nat → Int64), μ' = sx_up ν' o (oc tc g) ∧ ν' o = none ∧ CInv tc ν' xo W u S ed ∧ ∃ v : Int32, R_cnt W u S x r v ∧ (r = 0 → g 0 = v.toInt64)) 1 6 := by
  obtain ⟨fs, hx0⟩ := ci_x hC
  refine sx_ofiWQ (cc := cL_count) (maxL := 4) (ret := (some .int)) (own := RL) sxE_ok (by decide) rfl rfl (Nat.le_of_ble_eq_true rfl) [some (.ref xo), some (.int x), some (.ref o), none] 1 rfl (fun p e s m below meth c A Q hQ C hr hlocks hnm htab => ?_)
  refine sx_aload_n C dL_count_0 rfl rfl ?_
  refine sx_iconst (v := 0) C dL_count_1 (by decide) ?_
  refine sx_aload_n C dL_count_2 rfl rfl ?_
  refine sx_iload_n C dL_count_3 rfl rfl ?_
  refine sx_callXFi C (lc_in ho) (sx_runXV (As := [.int x]) (rest := [.int 0, .ref o]) C (lc_in ho) (d_C_count l D tc hl x xo W u S ed νc hC) (ci := 2) rfl (lc_in ho _ _ hx0) (sx_cwV C 1 kM_L_47 ki_C_count ke_C_count kn_C kc_C_count rfl rfl (by decide +kernel) ⟨Nat.le_of_ble_eq_true rfl, Nat.le_of_ble_eq_true rfl⟩) rfl rfl (Nat.le_of_ble_eq_true rfl) dL_count_4 ⟨Nat.le_of_ble_eq_true rfl, Nat.le_of_ble_eq_true rfl⟩) (fun Ex μx hx hfx => ?_) (fun r1 ν1 h1 hf1 => ?_)
  · obtain ⟨ho2, hov⟩ := lc_ov ho hfx
    rw [hov]
    obtain ⟨hC2, hE1, hE2⟩ := hx
    subst hE1
    refine sx_catch (name := ioeN) C [] ⟨0, 9, 12, 21⟩ [] (htab.trans rfl) (fun z hz => absurd hz List.not_mem_nil) (by decide) (by decide) (sx_w C kC_L_21) (va_Nw.use (sxN_tab kx_ioe) (C.2.2.2.1.2.2.2.1 _ kx_ioe)) (fun q9 => ?_)
    refine sx_astore_n (lv' := [some (.ref xo), some (.int x), some (.ref o), some (.ref q9)]) C dL_count_12 rfl (by decide) rfl rfl ?_
    refine sx_iconst (v := 1) C dL_count_13 (by decide) ?_
    exact sx_iretQ C hQ dL_count_14 hr hlocks (Nat.le_of_ble_eq_true rfl) (Nat.le_of_ble_eq_true rfl) (⟨μx, f, rfl, ho2, hC2, 0, Or.inr ⟨rfl, hE2⟩, fun z => absurd z (by decide)⟩)
  · obtain ⟨ho2, hov⟩ := lc_ov ho hf1
    refine sx_mu _ hov ?_
    obtain ⟨h2, hC2⟩ := h1
    refine sx_i2l C dL_count_7 ?_
    refine sx_last (j := 0) C dL_count_8 1 rfl (sx_up_s _ _ _) (rfl) (by decide) (Nat.le_of_ble_eq_true rfl) ?_
    refine sx_goto (tgt := 15) C dL_count_9 (by decide) ?_
    refine sx_iconst (v := 0) C dL_count_15 (by decide) ?_
    exact sx_iretQ C hQ dL_count_16 hr hlocks (Nat.le_of_ble_eq_true rfl) (Nat.le_of_ble_eq_true rfl) (⟨ν1, va_up f 0 _, sx_up_up _ _ _ _, ho2, hC2, r1, Or.inl ⟨rfl, h2⟩, fun _ => va_up_s f 0 _⟩)

set_option maxHeartbeats 4000000 in
set_option maxRecDepth 100000 in
/-- blocks -/
theorem c_L_blocks (l : Launch) (D : va_G) (tc : Nat → ClassId) (hl : l.stackTraces = false) (x : Int32) (xo o W u : Nat) (S : Nat → Nat → Bool) (ed : Nat → Nat → Nat) (f : Nat → Int64) (νc : sx_M) (ho : νc o = none) (hC : CInv tc νc xo W u S ed) : sx_Mi l yL_blocks (Cond.codeWith yL_blocks cL_blocks 4 (some .int) [(0, 9, 12, 21)] :: sxW) (rmL 9 2 1030) D sxCl (sxT tc) sxE [.ref xo, .int x, .ref o] (sx_up νc o (oc tc f)) (fun r μ' => ∃ (ν' : sx_M) (g : Nat → Int64), μ' = sx_up ν' o (oc tc g) ∧ ν' o = none ∧ CInv tc ν' xo W u S ed ∧ ∃ v : Int32, R_bks W u S x r v ∧ (r = 0 → g 0 = v.toInt64)) 2 1030 := by
  obtain ⟨fs, hx0⟩ := ci_x hC
  refine sx_ofiWQ (cc := cL_blocks) (maxL := 4) (ret := (some .int)) (own := RL) sxE_ok (by decide) rfl rfl (Nat.le_of_ble_eq_true rfl) [some (.ref xo), some (.int x), some (.ref o), none] 1 rfl (fun p e s m below meth c A Q hQ C hr hlocks hnm htab => ?_)
  refine sx_aload_n C dL_blocks_0 rfl rfl ?_
  refine sx_iconst (v := 0) C dL_blocks_1 (by decide) ?_
  refine sx_aload_n C dL_blocks_2 rfl rfl ?_
  refine sx_iload_n C dL_blocks_3 rfl rfl ?_
  refine sx_callXFi C (lc_in ho) (sx_runXV (As := [.int x]) (rest := [.int 0, .ref o]) C (lc_in ho) (d_C_blocks l D tc hl x xo W u S ed νc hC) (ci := 2) rfl (lc_in ho _ _ hx0) (sx_cwV C 1 kM_L_50 ki_C_blocks ke_C_blocks kn_C kc_C_blocks rfl rfl (by decide +kernel) ⟨Nat.le_of_ble_eq_true rfl, Nat.le_of_ble_eq_true rfl⟩) rfl rfl (Nat.le_of_ble_eq_true rfl) dL_blocks_4 ⟨Nat.le_of_ble_eq_true rfl, Nat.le_of_ble_eq_true rfl⟩) (fun Ex μx hx hfx => ?_) (fun r1 ν1 h1 hf1 => ?_)
  · obtain ⟨ho2, hov⟩ := lc_ov ho hfx
    rw [hov]
    obtain ⟨hC2, hE1, hE2⟩ := hx
    subst hE1
    refine sx_catch (name := ioeN) C [] ⟨0, 9, 12, 21⟩ [] (htab.trans rfl) (fun z hz => absurd hz List.not_mem_nil) (by decide) (by decide) (sx_w C kC_L_21) (va_Nw.use (sxN_tab kx_ioe) (C.2.2.2.1.2.2.2.1 _ kx_ioe)) (fun q9 => ?_)
    refine sx_astore_n (lv' := [some (.ref xo), some (.int x), some (.ref o), some (.ref q9)]) C dL_blocks_12 rfl (by decide) rfl rfl ?_
    refine sx_iconst (v := 1) C dL_blocks_13 (by decide) ?_
    exact sx_iretQ C hQ dL_blocks_14 hr hlocks (Nat.le_of_ble_eq_true rfl) (Nat.le_of_ble_eq_true rfl) (⟨μx, f, rfl, ho2, hC2, 0, Or.inr ⟨rfl, hE2⟩, fun z => absurd z (by decide)⟩)
  · obtain ⟨ho2, hov⟩ := lc_ov ho hf1
    refine sx_mu _ hov ?_
    obtain ⟨h2, hC2⟩ := h1
    refine sx_i2l C dL_blocks_7 ?_
    refine sx_last (j := 0) C dL_blocks_8 1 rfl (sx_up_s _ _ _) (rfl) (by decide) (Nat.le_of_ble_eq_true rfl) ?_
    refine sx_goto (tgt := 15) C dL_blocks_9 (by decide) ?_
    refine sx_iconst (v := 0) C dL_blocks_15 (by decide) ?_
    exact sx_iretQ C hQ dL_blocks_16 hr hlocks (Nat.le_of_ble_eq_true rfl) (Nat.le_of_ble_eq_true rfl) (⟨ν1, va_up f 0 _, sx_up_up _ _ _ _, ho2, hC2, r1, Or.inl ⟨rfl, h2⟩, fun _ => va_up_s f 0 _⟩)

set_option maxHeartbeats 4000000 in
set_option maxRecDepth 100000 in
/-- block -/
theorem c_L_block (l : Launch) (D : va_G) (tc : Nat → ClassId) (hl : l.stackTraces = false) (x y z0 : Int32) (xo o W u : Nat) (S : Nat → Nat → Bool) (ed : Nat → Nat → Nat) (f : Nat → Int64) (νc : sx_M) (ho : νc o = none) (hC : CInv tc νc xo W u S ed) : sx_Mi l yL_block (Cond.codeWith yL_block cL_block 6 (some .int) [(0, 12, 15, 21), (0, 12, 19, 13)] :: sxW) (rmL 9 4 1042) D sxCl (sxT tc) sxE [.ref xo, .int x, .int y, .int z0, .ref o] (sx_up νc o (oc tc f)) (fun r μ' => ∃ (ν' : sx_M) (g : Nat → Int64), μ' = sx_up ν' o (oc tc g) ∧ ν' o = none ∧ CInv tc ν' xo W u S ed ∧ ∃ v : Int32, R_blk W u S x y z0 r v ∧ (r = 0 → g 0 = v.toInt64)) 4 1042 := by
  obtain ⟨fs, hx0⟩ := ci_x hC
  refine sx_ofiWQ (cc := cL_block) (maxL := 6) (ret := (some .int)) (own := RL) sxE_ok (by decide) rfl rfl (Nat.le_of_ble_eq_true rfl) [some (.ref xo), some (.int x), some (.int y), some (.int z0), some (.ref o), none] 1 rfl (fun p e s m below meth c A Q hQ C hr hlocks hnm htab => ?_)
  refine sx_aload C dL_block_0 rfl ?_
  refine sx_iconst (v := 0) C dL_block_2 (by decide) ?_
  refine sx_aload_n C dL_block_3 rfl rfl ?_
  refine sx_iload_n C dL_block_4 rfl rfl ?_
  refine sx_iload_n C dL_block_5 rfl rfl ?_
  refine sx_iload_n C dL_block_6 rfl rfl ?_
  refine sx_callXFi C (lc_in ho) (sx_runXV (As := [.int x, .int y, .int z0]) (rest := [.int 0, .ref o]) C (lc_in ho) (d_C_block l D tc hl x y z0 xo W u S ed νc hC) (ci := 2) rfl (lc_in ho _ _ hx0) (sx_cwV C 3 kM_L_53 ki_C_block ke_C_block kn_C kc_C_block rfl rfl (by decide +kernel) ⟨Nat.le_of_ble_eq_true rfl, Nat.le_of_ble_eq_true rfl⟩) rfl rfl (Nat.le_of_ble_eq_true rfl) dL_block_7 ⟨Nat.le_of_ble_eq_true rfl, Nat.le_of_ble_eq_true rfl⟩) (fun Ex μx hx hfx => ?_) (fun r1 ν1 h1 hf1 => ?_)
  · obtain ⟨ho2, hov⟩ := lc_ov ho hfx
    rw [hov]
    obtain ⟨hC2, ⟨hE1, hE2⟩ | ⟨hE1, hE2⟩⟩ := hx
    · subst hE1
      refine sx_catch (name := ioeN) C [] ⟨0, 12, 15, 21⟩ [⟨0, 12, 19, 13⟩] (htab.trans rfl) (fun z hz => absurd hz List.not_mem_nil) (by decide) (by decide) (sx_w C kC_L_21) (va_Nw.use (sxN_tab kx_ioe) (C.2.2.2.1.2.2.2.1 _ kx_ioe)) (fun q9 => ?_)
      refine sx_astore (lv' := [some (.ref xo), some (.int x), some (.int y), some (.int z0), some (.ref o), some (.ref q9)]) C dL_block_15 (by decide) rfl rfl ?_
      refine sx_iconst (v := 1) C dL_block_17 (by decide) ?_
      exact sx_iretQ C hQ dL_block_18 hr hlocks (Nat.le_of_ble_eq_true rfl) (Nat.le_of_ble_eq_true rfl) (⟨μx, f, rfl, ho2, hC2, 0, Or.inr (Or.inl ⟨rfl, hE2⟩), fun z => absurd z (by decide)⟩)
    · subst hE1
      refine sx_catch (name := iaeN) C [⟨0, 12, 15, 21⟩] ⟨0, 12, 19, 13⟩ [] (htab.trans rfl) (fun z hz => by
          simp only [List.mem_cons, List.mem_nil_iff, or_false] at hz
          rcases hz with rfl
          · exact Or.inr ⟨by decide, ioeN, sx_w C kC_L_21, C.2.2.2.1.2.2.2.2.1.1⟩) (by decide) (by decide) (sx_w C kC_L_13) (va_Nw.use (sxN_tab kx_iae) (C.2.2.2.1.2.2.2.1 _ kx_iae)) (fun q9 => ?_)
      refine sx_astore (lv' := [some (.ref xo), some (.int x), some (.int y), some (.int z0), some (.ref o), some (.ref q9)]) C dL_block_19 (by decide) rfl rfl ?_
      refine sx_iconst (v := 2) C dL_block_21 (by decide) ?_
      exact sx_iretQ C hQ dL_block_22 hr hlocks (Nat.le_of_ble_eq_true rfl) (Nat.le_of_ble_eq_true rfl) (⟨μx, f, rfl, ho2, hC2, 0, Or.inr (Or.inr ⟨rfl, hE2⟩), fun z => absurd z (by decide)⟩)
  · obtain ⟨ho2, hov⟩ := lc_ov ho hf1
    refine sx_mu _ hov ?_
    obtain ⟨h2, hC2⟩ := h1
    refine sx_i2l C dL_block_10 ?_
    refine sx_last (j := 0) C dL_block_11 1 rfl (sx_up_s _ _ _) (rfl) (by decide) (Nat.le_of_ble_eq_true rfl) ?_
    refine sx_goto (tgt := 23) C dL_block_12 (by decide) ?_
    refine sx_iconst (v := 0) C dL_block_23 (by decide) ?_
    exact sx_iretQ C hQ dL_block_24 hr hlocks (Nat.le_of_ble_eq_true rfl) (Nat.le_of_ble_eq_true rfl) (⟨ν1, va_up f 0 _, sx_up_up _ _ _ _, ho2, hC2, r1, Or.inl ⟨rfl, h2⟩, fun _ => va_up_s f 0 _⟩)

set_option maxHeartbeats 4000000 in
set_option maxRecDepth 100000 in
/-- decode -/
theorem c_L_decode (l : Launch) (D : va_G) (tc : Nat → ClassId) (hl : l.stackTraces = false) (x : Int32) (xo o W u : Nat) (S : Nat → Nat → Bool) (ed : Nat → Nat → Nat) (f : Nat → Int64) (νc : sx_M) (ho : νc o = none) (hC : CInv tc νc xo W u S ed) : sx_Mi l yL_decode (Cond.codeWith yL_decode cL_decode 4 (some .int) [(0, 9, 12, 13)] :: sxW) (rmL 9 1 6) D sxCl (sxT tc) sxE [.ref xo, .int x, .ref o] (sx_up νc o (oc tc f)) (fun r μ' => ∃ (ν' : sx_M) (g : Nat → Int64), μ' = sx_up ν' o (oc tc g) ∧ ν' o = none ∧ CInv tc ν' xo W u S ed ∧ ∃ v : Int32, R_dec W u S x r v ∧ (r = 0 → g 0 = v.toInt64)) 1 6 := by
  obtain ⟨fs, hx0⟩ := ci_x hC
  refine sx_ofiWQ (cc := cL_decode) (maxL := 4) (ret := (some .int)) (own := RL) sxE_ok (by decide) rfl rfl (Nat.le_of_ble_eq_true rfl) [some (.ref xo), some (.int x), some (.ref o), none] 1 rfl (fun p e s m below meth c A Q hQ C hr hlocks hnm htab => ?_)
  refine sx_aload_n C dL_decode_0 rfl rfl ?_
  refine sx_iconst (v := 0) C dL_decode_1 (by decide) ?_
  refine sx_aload_n C dL_decode_2 rfl rfl ?_
  refine sx_iload_n C dL_decode_3 rfl rfl ?_
  refine sx_callXFi C (lc_in ho) (sx_runXV (As := [.int x]) (rest := [.int 0, .ref o]) C (lc_in ho) (d_C_decode l D tc hl x xo W u S ed νc hC) (ci := 2) rfl (lc_in ho _ _ hx0) (sx_cwV C 1 kM_L_56 ki_C_decode ke_C_decode kn_C kc_C_decode rfl rfl (by decide +kernel) ⟨Nat.le_of_ble_eq_true rfl, Nat.le_of_ble_eq_true rfl⟩) rfl rfl (Nat.le_of_ble_eq_true rfl) dL_decode_4 ⟨Nat.le_of_ble_eq_true rfl, Nat.le_of_ble_eq_true rfl⟩) (fun Ex μx hx hfx => ?_) (fun r1 ν1 h1 hf1 => ?_)
  · obtain ⟨ho2, hov⟩ := lc_ov ho hfx
    rw [hov]
    obtain ⟨hC2, hE1, hE2⟩ := hx
    subst hE1
    refine sx_catch (name := iaeN) C [] ⟨0, 9, 12, 13⟩ [] (htab.trans rfl) (fun z hz => absurd hz List.not_mem_nil) (by decide) (by decide) (sx_w C kC_L_13) (va_Nw.use (sxN_tab kx_iae) (C.2.2.2.1.2.2.2.1 _ kx_iae)) (fun q9 => ?_)
    refine sx_astore_n (lv' := [some (.ref xo), some (.int x), some (.ref o), some (.ref q9)]) C dL_decode_12 rfl (by decide) rfl rfl ?_
    refine sx_iconst (v := 1) C dL_decode_13 (by decide) ?_
    exact sx_iretQ C hQ dL_decode_14 hr hlocks (Nat.le_of_ble_eq_true rfl) (Nat.le_of_ble_eq_true rfl) (⟨μx, f, rfl, ho2, hC2, 0, Or.inr ⟨rfl, hE2⟩, fun z => absurd z (by decide)⟩)
  · obtain ⟨ho2, hov⟩ := lc_ov ho hf1
    refine sx_mu _ hov ?_
    obtain ⟨h2, hC2⟩ := h1
    refine sx_i2l C dL_decode_7 ?_
    refine sx_last (j := 0) C dL_decode_8 1 rfl (sx_up_s _ _ _) (rfl) (by decide) (Nat.le_of_ble_eq_true rfl) ?_
    refine sx_goto (tgt := 15) C dL_decode_9 (by decide) ?_
    refine sx_iconst (v := 0) C dL_decode_15 (by decide) ?_
    exact sx_iretQ C hQ dL_decode_16 hr hlocks (Nat.le_of_ble_eq_true rfl) (Nat.le_of_ble_eq_true rfl) (⟨ν1, va_up f 0 _, sx_up_up _ _ _ _, ho2, hC2, r1, Or.inl ⟨rfl, h2⟩, fun _ => va_up_s f 0 _⟩)

set_option maxHeartbeats 4000000 in
set_option maxRecDepth 100000 in
/-- order -/
theorem c_L_order (l : Launch) (D : va_G) (tc : Nat → ClassId) (hl : l.stackTraces = false) (x : Int32) (xo o W u : Nat) (S : Nat → Nat → Bool) (ed : Nat → Nat → Nat) (f : Nat → Int64) (νc : sx_M) (ho : νc o = none) (hC : CInv tc νc xo W u S ed) : sx_Mi l yL_order (Cond.codeWith yL_order cL_order 4 (some .int) [(0, 9, 12, 21)] :: sxW) (rmL 9 1 6) D sxCl (sxT tc) sxE [.ref xo, .int x, .ref o] (sx_up νc o (oc tc f)) (fun r μ' => ∃ (ν' : sx_M) (g : Nat → Int64), μ' = sx_up ν' o (oc tc g) ∧ ν' o = none ∧ CInv tc ν' xo W u S ed ∧ ∃ v : Int32, R_ord W u S x r v ∧ (r = 0 → g 0 = v.toInt64)) 1 6 := by
  obtain ⟨fs, hx0⟩ := ci_x hC
  refine sx_ofiWQ (cc := cL_order) (maxL := 4) (ret := (some .int)) (own := RL) sxE_ok (by decide) rfl rfl (Nat.le_of_ble_eq_true rfl) [some (.ref xo), some (.int x), some (.ref o), none] 1 rfl (fun p e s m below meth c A Q hQ C hr hlocks hnm htab => ?_)
  refine sx_aload_n C dL_order_0 rfl rfl ?_
  refine sx_iconst (v := 0) C dL_order_1 (by decide) ?_
  refine sx_aload_n C dL_order_2 rfl rfl ?_
  refine sx_iload_n C dL_order_3 rfl rfl ?_
  refine sx_callXFi C (lc_in ho) (sx_runXV (As := [.int x]) (rest := [.int 0, .ref o]) C (lc_in ho) (d_C_order l D tc hl x xo W u S ed νc hC) (ci := 2) rfl (lc_in ho _ _ hx0) (sx_cwV C 1 kM_L_59 ki_C_order ke_C_order kn_C kc_C_order rfl rfl (by decide +kernel) ⟨Nat.le_of_ble_eq_true rfl, Nat.le_of_ble_eq_true rfl⟩) rfl rfl (Nat.le_of_ble_eq_true rfl) dL_order_4 ⟨Nat.le_of_ble_eq_true rfl, Nat.le_of_ble_eq_true rfl⟩) (fun Ex μx hx hfx => ?_) (fun r1 ν1 h1 hf1 => ?_)
  · obtain ⟨ho2, hov⟩ := lc_ov ho hfx
    rw [hov]
    obtain ⟨hC2, hE1, hE2⟩ := hx
    subst hE1
    refine sx_catch (name := ioeN) C [] ⟨0, 9, 12, 21⟩ [] (htab.trans rfl) (fun z hz => absurd hz List.not_mem_nil) (by decide) (by decide) (sx_w C kC_L_21) (va_Nw.use (sxN_tab kx_ioe) (C.2.2.2.1.2.2.2.1 _ kx_ioe)) (fun q9 => ?_)
    refine sx_astore_n (lv' := [some (.ref xo), some (.int x), some (.ref o), some (.ref q9)]) C dL_order_12 rfl (by decide) rfl rfl ?_
    refine sx_iconst (v := 1) C dL_order_13 (by decide) ?_
    exact sx_iretQ C hQ dL_order_14 hr hlocks (Nat.le_of_ble_eq_true rfl) (Nat.le_of_ble_eq_true rfl) (⟨μx, f, rfl, ho2, hC2, 0, Or.inr ⟨rfl, hE2⟩, fun z => absurd z (by decide)⟩)
  · obtain ⟨ho2, hov⟩ := lc_ov ho hf1
    refine sx_mu _ hov ?_
    obtain ⟨h2, hC2⟩ := h1
    refine sx_i2l C dL_order_7 ?_
    refine sx_last (j := 0) C dL_order_8 1 rfl (sx_up_s _ _ _) (rfl) (by decide) (Nat.le_of_ble_eq_true rfl) ?_
    refine sx_goto (tgt := 15) C dL_order_9 (by decide) ?_
    refine sx_iconst (v := 0) C dL_order_15 (by decide) ?_
    exact sx_iretQ C hQ dL_order_16 hr hlocks (Nat.le_of_ble_eq_true rfl) (Nat.le_of_ble_eq_true rfl) (⟨ν1, va_up f 0 _, sx_up_up _ _ _ _, ho2, hC2, r1, Or.inl ⟨rfl, h2⟩, fun _ => va_up_s f 0 _⟩)
