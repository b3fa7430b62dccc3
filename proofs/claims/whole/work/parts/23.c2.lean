theorem all_step {P : Nat → Prop} {j : Nat} (h : ∀ k, k < j → P k) (hj : P j) : ∀ k, k < j + 1 → P k := by
  intro k hk
  rcases Nat.lt_or_ge k j with z | z
  · exact h k z
  · rw [show k = j by omega]; exact hj

set_option maxHeartbeats 4000000 in
set_option maxRecDepth 100000 in
/-- wordsChanged -/
theorem c_C_wordsChanged (l : Launch) (D : va_G) (tc : Nat → ClassId) (i : Nat) (ad : Nat → Nat → Nat) (ro : Nat → Nat) (ur : Nat) (W : Nat) (u : Nat) (ln : Nat → Nat) (rf : Nat → Nat → Int64) (sc : Nat → Nat → Int32) (uk : Bool) (ul : Nat) (uf : Nat → Int64) (sf : Nat → Int64) (ed : Nat → Nat → Nat) (μ : sx_M) (hS : CS tc μ ad ro ur W u ln rf sc uk ul uf sf ed) (S : Nat → Nat → Bool) (hi : i < u) (hu : u ≤ 40) (hW : W ≤ 16) (hz : ∀ k, k < u → ∀ w, 2 ^ W ≤ w → S k w = false) (hr8 : ∀ k, k < u → ln k = nCh W ∧ rowS (rf k) (nCh W) = S k) (hsc : ∀ a, a < u → ∀ b, b < u → a ≠ i → b ≠ i → sc a b = nI (cm W S a b)) : sx_Mv l yC_wordsChanged (Cond.code yC_wordsChanged cC_wordsChanged 5 none :: sxW) (rmL 2 0 0) D sxCl (sxT tc) sxE [.ref (ad 0 0), .int (nI i)] μ (fun μ' => ∃ sc', CS tc μ' ad ro ur W u ln rf sc' false ul uf sf ed ∧ ∀ a, a < u → ∀ b, b < u → sc' a b = nI (cm W S a b)) 0 0 := by
  have hi4 : i < 40 := by omega
  have hC := nCh_le hW
  refine sx_ofvQ (cc := cC_wordsChanged) (maxL := 5) (ret := none) (own := RC) sxE_ok (by decide) rfl rfl (Nat.le_of_ble_eq_true rfl) [some (.ref (ad 0 0)), some (.int (nI i)), none, none, none] 3 rfl (fun p e s m below meth c A Q hQ C hr hlocks hnm => ?_)
  refine sx_aload_n C dC_wordsChanged_0 rfl rfl ?_
  refine sx_iconst (v := 0) C dC_wordsChanged_1 (by decide) ?_
  refine sx_putf (Cn := RC) (T := TC) (N := 7) (ty := .boolean) (fs' := [.int (nI W), .ref (ad 1 0), .int (nI u), .ref (ad 5 0), .ref (ad 7 0), .int 0, .ref (ad 9 0)]) C dC_wordsChanged_2 (sx_in inC) tC tC_ok nC rfl 5 (by decide) (sx_w C kF_C_43) (fun _ h => h) rfl (by decide +kernel) rfl rfl (CS_f0 hS) (by simp) rfl ?_
  have hS1 : CS tc (sx_up μ (ad 0 0) (.inr (2, [.int (nI W), .ref (ad 1 0), .int (nI u), .ref (ad 5 0), .ref (ad 7 0), .int 0, .ref (ad 9 0)]))) ad ro ur W u ln rf sc false ul uf sf ed := CS_uk hS false
  refine sx_aload_n C dC_wordsChanged_5 rfl rfl ?_
  refine sx_getf (Cn := RC) (T := TC) (N := 7) C dC_wordsChanged_6 (sx_in inC) rfl 1 (by decide) (sx_w C kF_C_21) (fun _ h => h) (CS_f0 hS1) rfl ?_
  refine sx_iload_n C dC_wordsChanged_9 rfl rfl ?_
  refine sx_aald (j := i) (b := (ad 2 i)) C dC_wordsChanged_10 2 rfl (CS_f1 hS1) (rfl) (hi4) (Nat.le_of_ble_eq_true rfl) (if_pos (hi4)) ?_
  refine sx_getf (Cn := RE) (T := TE) (N := 6) C dC_wordsChanged_11 (sx_in inE) rfl 0 (by decide) (sx_w C kF_C_92) (fun _ h => h) (CS_f2 hS1 hi4) rfl ?_
  refine sx_astore_n (lv' := [some (.ref (ad 0 0)), some (.int (nI i)), some (.ref (ad 3 i)), none, none]) C dC_wordsChanged_14 rfl (by decide) rfl rfl ?_
  refine sx_iconst (v := 0) C dC_wordsChanged_15 (by decide) ?_
  refine sx_eqi (nI 0) (rfl) ?_
  refine sx_istore_n (lv' := [some (.ref (ad 0 0)), some (.int (nI i)), some (.ref (ad 3 i)), some (.int (nI 0)), none]) C dC_wordsChanged_16 rfl (by decide) rfl rfl ?_
  have L17 : ∀ (fu : Nat) (j : Nat) (μ : sx_M) (sc' : Nat → Nat → Int32), u - j < fu → (j ≤ u) → (CS tc μ ad ro ur W u ln rf sc' false ul uf sf ed) → (∀ a, a < u → ∀ b, b < u → ((a ≠ i ∧ b ≠ i) ∨ (a = i ∧ b < j) ∨ (b = i ∧ a < j)) → sc' a b = nI (cm W S a b)) → SW p l e (rmL 2 0 0) s m [.ref (ad 0 0), .int (nI i)].toArray below meth c 5 D sxCl A 0 0 Q μ 17 [some (.ref (ad 0 0)), some (.int (nI i)), some (.ref (ad 3 i)), some (.int (nI j)), none] [] := by
    intro fu
    induction fu with
    | zero => intro _ _ _ h; exact absurd h (Nat.not_lt_zero _)
    | succ fu ih =>
      intro j μ sc' hfu hj hSL h1
      refine sx_iload_n C dC_wordsChanged_17 rfl rfl ?_
      refine sx_aload_n C dC_wordsChanged_18 rfl rfl ?_
      refine sx_getf (Cn := RC) (T := TC) (N := 7) C dC_wordsChanged_19 (sx_in inC) rfl 2 (by decide) (sx_w C kF_C_28) (fun _ h => h) (CS_f0 hSL) rfl ?_
      refine sx_icmp_ge (tgt := 66) C dC_wordsChanged_22 (by decide) (fun c22 => ?_) (fun c22 => ?_)
      · have hc : u ≤ j := (nI_leI (by omega) (by omega)).mp c22
        exact sx_vretQ C hQ dC_wordsChanged_66 hr hlocks (Nat.le_of_ble_eq_true rfl) (Nat.le_of_ble_eq_true rfl) (⟨_, hSL, fun a ha b hb => h1 a ha b hb (by omega)⟩)
      · have hc : ¬ u ≤ j := fun h => c22 ((nI_leI (by omega) (by omega)).mpr h)
        have hj4 : j < 40 := by omega
        have hl1 := (hr8 i hi).1
        have hl2 := (hr8 j (by omega)).1
        refine sx_aload_n C dC_wordsChanged_25 rfl rfl ?_
        refine sx_aload_n C dC_wordsChanged_26 rfl rfl ?_
        refine sx_getf (Cn := RC) (T := TC) (N := 7) C dC_wordsChanged_27 (sx_in inC) rfl 1 (by decide) (sx_w C kF_C_21) (fun _ h => h) (CS_f0 hSL) rfl ?_
        refine sx_iload_n C dC_wordsChanged_30 rfl rfl ?_
        refine sx_aald (j := j) (b := (ad 2 j)) C dC_wordsChanged_31 2 rfl (CS_f1 hSL) (rfl) (hj4) (Nat.le_of_ble_eq_true rfl) (if_pos (hj4)) ?_
        refine sx_getf (Cn := RE) (T := TE) (N := 6) C dC_wordsChanged_32 (sx_in inE) rfl 0 (by decide) (sx_w C kF_C_92) (fun _ h => h) (CS_f2 hSL hj4) rfl ?_
        refine sx_calli C (sx_runV (As := [.ref (ad 3 j)]) (rest := []) C sx_all (c_S_howManyCommon l D tc (ad 3 i) (ro i) W (ln i) (ad 3 j) (ro j) W (ln j) (rf i) (rf j) μ (by omega) (by omega) (CS_f3 hSL hi4) (CS_f4 hSL hi4) (CS_f3 hSL hj4) (CS_f4 hSL hj4)) (ci := 1) rfl (CS_f3 hSL hi4) (sx_cwV C 1 kM_C_148 ki_S_howManyCommon ke_S_howManyCommon kn_S kc_S_howManyCommon rfl rfl (by decide +kernel) ⟨Nat.le_of_ble_eq_true rfl, Nat.le_of_ble_eq_true rfl⟩) rfl rfl (Nat.le_of_ble_eq_true rfl) dC_wordsChanged_35 ⟨Nat.le_of_ble_eq_true rfl, Nat.le_of_ble_eq_true rfl⟩) (fun x μ1 hx => ?_)
        obtain ⟨hm, hx⟩ := hx
        subst hm
        rw [hl1, hl2, Nat.min_self, cm_rows (hr8 i hi).2 (hr8 j (by omega)).2 (hz i hi)] at hx
        refine sx_istore (lv' := [some (.ref (ad 0 0)), some (.int (nI i)), some (.ref (ad 3 i)), some (.int (nI j)), some (.int x)]) C dC_wordsChanged_38 (by decide) rfl rfl ?_
        refine sx_aload_n C dC_wordsChanged_40 rfl rfl ?_
        refine sx_getf (Cn := RC) (T := TC) (N := 7) C dC_wordsChanged_41 (sx_in inC) rfl 3 (by decide) (sx_w C kF_C_33) (fun _ h => h) (CS_f0 hSL) rfl ?_
        refine sx_iload_n C dC_wordsChanged_44 rfl rfl ?_
        refine sx_aaldA (j := i) (b := (ad 6 i)) C dC_wordsChanged_45 3 rfl (CS_f5 hSL) (rfl) (hi4) (Nat.le_of_ble_eq_true rfl) (if_pos (hi4)) ?_
        refine sx_iload_n C dC_wordsChanged_46 rfl rfl ?_
        refine sx_iload C dC_wordsChanged_47 rfl ?_
        refine sx_iast (j := j) C dC_wordsChanged_49 0 rfl (CS_f6 hSL hi4) (rfl) (hj4) (Nat.le_of_ble_eq_true rfl) ?_
        have hS2 : CS tc (sx_up μ (ad 6 i) (.inl (tc 0, 40, .inl (va_up (sc' i) j x)))) ad ro ur W u ln rf (va_up sc' i (va_up (sc' i) j x)) false ul uf sf ed := CS_sc hSL hi4 (va_up (sc' i) j x)
        refine sx_aload_n C dC_wordsChanged_50 rfl rfl ?_
        refine sx_getf (Cn := RC) (T := TC) (N := 7) C dC_wordsChanged_51 (sx_in inC) rfl 3 (by decide) (sx_w C kF_C_33) (fun _ h => h) (CS_f0 hS2) rfl ?_
        refine sx_iload_n C dC_wordsChanged_54 rfl rfl ?_
        refine sx_aaldA (j := j) (b := (ad 6 j)) C dC_wordsChanged_55 3 rfl (CS_f5 hS2) (rfl) (hj4) (Nat.le_of_ble_eq_true rfl) (if_pos (hj4)) ?_
        refine sx_iload_n C dC_wordsChanged_56 rfl rfl ?_
        refine sx_iload C dC_wordsChanged_57 rfl ?_
        refine sx_iast (j := i) C dC_wordsChanged_59 0 rfl (CS_f6 hS2 hj4) (rfl) (hi4) (Nat.le_of_ble_eq_true rfl) ?_
        have hS3 : CS tc (sx_up (sx_up μ (ad 6 i) (.inl (tc 0, 40, .inl (va_up (sc' i) j x)))) (ad 6 j) (.inl (tc 0, 40, .inl (va_up ((va_up sc' i (va_up (sc' i) j x)) j) i x)))) ad ro ur W u ln rf (va_up (va_up sc' i (va_up (sc' i) j x)) j (va_up (va_up sc' i (va_up (sc' i) j x) j) i x)) false ul uf sf ed := CS_sc hS2 hj4 _
        refine sx_weak (lv' := [some (.ref (ad 0 0)), some (.int (nI i)), some (.ref (ad 3 i)), some (.int (nI j)), none]) (And.intro rfl (And.intro rfl (And.intro rfl (And.intro rfl trivial)))) ?_
        refine sx_iinc (v := nI (j + 1)) (lv' := [some (.ref (ad 0 0)), some (.int (nI i)), some (.ref (ad 3 i)), some (.int (nI (j + 1))), none]) C dC_wordsChanged_60 rfl (nI_1 j) (by decide) rfl rfl ?_
        refine sx_goto (tgt := 17) C dC_wordsChanged_63 (by decide) ?_
        exact ih (j + 1) _ _ (by omega) (by omega) hS3 (wc_step hx h1)
  exact L17 _ 0 _ sc (Nat.lt_succ_self _) (Nat.zero_le _) hS1 (fun a ha b hb hc => hsc a ha b hb (by omega) (by omega))

set_option maxHeartbeats 4000000 in
set_option maxRecDepth 100000 in
/-- wordsOfNone -/
theorem c_C_wordsOfNone (l : Launch) (D : va_G) (tc : Nat → ClassId) (ad : Nat → Nat → Nat) (ro : Nat → Nat) (ur : Nat) (W : Nat) (u : Nat) (ln : Nat → Nat) (rf : Nat → Nat → Int64) (sc : Nat → Nat → Int32) (uk : Bool) (ul : Nat) (uf : Nat → Int64) (sf : Nat → Int64) (ed : Nat → Nat → Nat) (μ : sx_M) (hS : CS tc μ ad ro ur W u ln rf sc uk ul uf sf ed) (S : Nat → Nat → Bool) (ed0 : Nat → Nat → Nat) (hA : AW W u S ed0) (hP : CP W u S ed0 ln rf sc uk ul uf ed) : sx_Mr l yC_wordsOfNone (Cond.code yC_wordsOfNone cC_wordsOfNone 2 (some (.object "EncodingChecks$WordSet")) :: sxW) (rmL 3 1 1024) D sxCl (sxT tc) sxE [.ref (ad 0 0)] μ (fun r μ' => r = ad 7 0 ∧ ∃ (ur2 : Nat) (f : Nat → Int64), CS tc μ' ad ro ur2 W u ln rf sc true (nCh W) f sf ed ∧ rowS f (nCh W) = gpS W u S) 1 1024 := by
  have hW := hA.1.2
  have hu := hA.2.1
  have hC := nCh_le hW
  refine sx_ofrQ (cc := cC_wordsOfNone) (maxL := 2) (ret := (some (.object "EncodingChecks$WordSet"))) (own := RC) sxE_ok (by decide) rfl rfl (Nat.le_of_ble_eq_true rfl) [some (.ref (ad 0 0)), none] 1 rfl (fun p e s m below meth c A Q hQ C hr hlocks hnm => ?_)
  refine sx_aload_n C dC_wordsOfNone_0 rfl rfl ?_
  refine sx_getf (Cn := RC) (T := TC) (N := 7) C dC_wordsOfNone_1 (sx_in inC) rfl 5 (by decide) (sx_w C kF_C_43) (fun _ h => h) (CS_f0 hS) rfl ?_
  refine sx_if_ne (tgt := 53) C dC_wordsOfNone_4 (by decide) (fun c4 => ?_) (fun c4 => ?_)
  · have hk := b2i_ne.mp c4
    obtain ⟨hul, hrow⟩ := hP.2.2.2.2.1 hk
    subst hk
    subst hul
    refine sx_aload_n C dC_wordsOfNone_53 rfl rfl ?_
    refine sx_getf (Cn := RC) (T := TC) (N := 7) C dC_wordsOfNone_54 (sx_in inC) rfl 4 (by decide) (sx_w C kF_C_39) (fun _ h => h) (CS_f0 hS) rfl ?_
    exact sx_aretQ C hQ dC_wordsOfNone_57 hr hlocks (Nat.le_of_ble_eq_true rfl) (Nat.le_of_ble_eq_true rfl) (⟨rfl, _, _, hS, hrow⟩)
  · have hk := b2i_z.mp c4
    refine sx_aload_n C dC_wordsOfNone_7 rfl rfl ?_
    refine sx_getf (Cn := RC) (T := TC) (N := 7) C dC_wordsOfNone_8 (sx_in inC) rfl 4 (by decide) (sx_w C kF_C_39) (fun _ h => h) (CS_f0 hS) rfl ?_
    refine sx_iconst (v := 0) C dC_wordsOfNone_11 (by decide) ?_
    refine sx_eqi (nI 0) (rfl) ?_
    refine sx_iconst (v := 0) C dC_wordsOfNone_12 (by decide) ?_
    refine sx_eqi (nI 0) (rfl) ?_
    refine sx_callv C (sx_runV (As := [.int (nI 0), .int (nI 0)]) (rest := []) C sx_all (c_S_setToFixed l D tc (ad 7 0) ur W ul 0 0 uf μ hW hP.2.2.2.1 (by decide) (by decide) (CS_f7 hS) (CS_f8 hS)) (ci := 1) rfl (CS_f7 hS) (sx_cwV C 2 kM_C_201 ki_S_setToFixed ke_S_setToFixed kn_S kc_S_setToFixed rfl rfl (by decide +kernel) ⟨Nat.le_of_ble_eq_true rfl, Nat.le_of_ble_eq_true rfl⟩) rfl rfl (Nat.le_of_ble_eq_true rfl) dC_wordsOfNone_13 ⟨Nat.le_of_ble_eq_true rfl, Nat.le_of_ble_eq_true rfl⟩) (fun μ1 h1 => ?_)
    obtain ⟨ur2, g, hr2, -, hm, hg⟩ := h1
    subst hm
    have hS1 : CS tc (sx_up (sx_up μ (ad 7 0) (.inr (1, [.int (nI W), .ref ur2]))) ur2 (.inl (tc 1, nCh W, .inr (.inl g)))) ad ro ur2 W u ln rf sc uk (nCh W) g sf ed := CS_ur hS ur2 (nCh W) g hr2
    refine sx_iconst (v := 0) C dC_wordsOfNone_16 (by decide) ?_
    refine sx_eqi (nI 0) (rfl) ?_
    refine sx_istore_n (lv' := [some (.ref (ad 0 0)), some (.int (nI 0))]) C dC_wordsOfNone_17 rfl (by decide) rfl rfl ?_
    have L18 : ∀ (fu : Nat) (i : Nat) (μ : sx_M) (f : Nat → Int64), u - i < fu → (i ≤ u) → (CS tc μ ad ro ur2 W u ln rf sc uk (nCh W) f sf ed) → (∀ c, c < nCh W → ∀ q, q < 64 → bL (f c) q = (fxB W 0 0 c q && !anB (fun j => S j (64 * c + q)) i)) → SW p l e (rmL 3 1 1024) s m [.ref (ad 0 0)].toArray below meth c 2 D sxCl A 1 1024 Q μ 18 [some (.ref (ad 0 0)), some (.int (nI i))] [] := by
      intro fu
      induction fu with
      | zero => intro _ _ _ h; exact absurd h (Nat.not_lt_zero _)
      | succ fu ih =>
        intro i μ f hfu hi hSL h1
        refine sx_iload_n C dC_wordsOfNone_18 rfl rfl ?_
        refine sx_aload_n C dC_wordsOfNone_19 rfl rfl ?_
        refine sx_getf (Cn := RC) (T := TC) (N := 7) C dC_wordsOfNone_20 (sx_in inC) rfl 2 (by decide) (sx_w C kF_C_28) (fun _ h => h) (CS_f0 hSL) rfl ?_
        refine sx_icmp_ge (tgt := 48) C dC_wordsOfNone_23 (by decide) (fun c23 => ?_) (fun c23 => ?_)
        · have hc : u ≤ i := (nI_leI (by omega) (by omega)).mp c23
          have hiu : i = u := by omega
          rw [hiu] at h1
          refine sx_aload_n C dC_wordsOfNone_48 rfl rfl ?_
          refine sx_iconst (v := 1) C dC_wordsOfNone_49 (by decide) ?_
          refine sx_putf (Cn := RC) (T := TC) (N := 7) (ty := .boolean) (fs' := [.int (nI W), .ref (ad 1 0), .int (nI u), .ref (ad 5 0), .ref (ad 7 0), .int 1, .ref (ad 9 0)]) C dC_wordsOfNone_50 (sx_in inC) tC tC_ok nC rfl 5 (by decide) (sx_w C kF_C_43) (fun _ h => h) rfl (by decide +kernel) rfl rfl (CS_f0 hSL) (by simp) rfl ?_
          have hS4 : CS tc (sx_up μ (ad 0 0) (.inr (2, [.int (nI W), .ref (ad 1 0), .int (nI u), .ref (ad 5 0), .ref (ad 7 0), .int 1, .ref (ad 9 0)]))) ad ro ur2 W u ln rf sc true (nCh W) f sf ed := CS_uk hSL true
          refine sx_aload_n C dC_wordsOfNone_53 rfl rfl ?_
          refine sx_getf (Cn := RC) (T := TC) (N := 7) C dC_wordsOfNone_54 (sx_in inC) rfl 4 (by decide) (sx_w C kF_C_39) (fun _ h => h) (CS_f0 hS4) rfl ?_
          exact sx_aretQ C hQ dC_wordsOfNone_57 hr hlocks (Nat.le_of_ble_eq_true rfl) (Nat.le_of_ble_eq_true rfl) (⟨rfl, _, _, hS4, gp_row h1⟩)
        · have hc : ¬ u ≤ i := fun h => c23 ((nI_leI (by omega) (by omega)).mpr h)
          have hi4 : i < 40 := by omega
          have hl1 := (hP.2.1 i (by omega)).1
          refine sx_aload_n C dC_wordsOfNone_26 rfl rfl ?_
          refine sx_getf (Cn := RC) (T := TC) (N := 7) C dC_wordsOfNone_27 (sx_in inC) rfl 4 (by decide) (sx_w C kF_C_39) (fun _ h => h) (CS_f0 hSL) rfl ?_
          refine sx_aload_n C dC_wordsOfNone_30 rfl rfl ?_
          refine sx_getf (Cn := RC) (T := TC) (N := 7) C dC_wordsOfNone_31 (sx_in inC) rfl 1 (by decide) (sx_w C kF_C_21) (fun _ h => h) (CS_f0 hSL) rfl ?_
          refine sx_iload_n C dC_wordsOfNone_34 rfl rfl ?_
          refine sx_aald (j := i) (b := (ad 2 i)) C dC_wordsOfNone_35 2 rfl (CS_f1 hSL) (rfl) (hi4) (Nat.le_of_ble_eq_true rfl) (if_pos (hi4)) ?_
          refine sx_getf (Cn := RE) (T := TE) (N := 6) C dC_wordsOfNone_36 (sx_in inE) rfl 0 (by decide) (sx_w C kF_C_92) (fun _ h => h) (CS_f2 hSL hi4) rfl ?_
          refine sx_callv C (sx_runV (As := [.ref (ad 3 i)]) (rest := []) C sx_all (c_S_takeOut l D tc (ad 7 0) ur2 W (nCh W) (ad 3 i) (ro i) W (ln i) f (rf i) μ (by omega) (by omega) (CS_ne (k := 4) (i := i) (k' := 8) (i' := 0) hSL ⟨by decide, hi4⟩ ⟨by decide, by decide⟩ (by omega)) (CS_f7 hSL) (CS_f8 hSL) (CS_f3 hSL hi4) (CS_f4 hSL hi4)) (ci := 1) rfl (CS_f7 hSL) (sx_cwV C 1 kM_C_204 ki_S_takeOut ke_S_takeOut kn_S kc_S_takeOut rfl rfl (by decide +kernel) ⟨Nat.le_of_ble_eq_true rfl, Nat.le_of_ble_eq_true rfl⟩) rfl rfl (Nat.le_of_ble_eq_true rfl) dC_wordsOfNone_39 ⟨Nat.le_of_ble_eq_true rfl, Nat.le_of_ble_eq_true rfl⟩) (fun μ2 h2 => ?_)
          obtain ⟨n2, -, hn2, hm⟩ := h2
          subst hm
          have hS3 : CS tc (sx_up μ ur2 (.inl (tc 1, nCh W, .inr (.inl (ws_out f (rf i) (ln i) n2))))) ad ro ur2 W u ln rf sc uk (nCh W) (ws_out f (rf i) (ln i) n2) sf ed := CS_uf hSL _
          refine sx_iinc (v := nI (i + 1)) (lv' := [some (.ref (ad 0 0)), some (.int (nI (i + 1)))]) C dC_wordsOfNone_42 rfl (nI_1 i) (by decide) rfl rfl ?_
          refine sx_goto (tgt := 18) C dC_wordsOfNone_45 (by decide) ?_
          exact ih (i + 1) _ _ (by omega) (by omega) hS3 (to_step hl1 (hP.2.1 i (by omega)).2 (by omega) h1)
    exact L18 _ 0 _ g (Nat.lt_succ_self _) (Nat.zero_le _) hS1 (fun c hc q hq => by rw [hg c hc q hq]; exact (Bool.and_true _).symm)

set_option maxHeartbeats 4000000 in
set_option maxRecDepth 100000 in
/-- wordsOrNone -/
theorem c_C_wordsOrNone (l : Launch) (D : va_G) (tc : Nat → ClassId) (hl : l.stackTraces = false) (x : Int32) (ad : Nat → Nat → Nat) (ro : Nat → Nat) (ur : Nat) (W : Nat) (u : Nat) (ln : Nat → Nat) (rf : Nat → Nat → Int64) (sc : Nat → Nat → Int32) (uk : Bool) (ul : Nat) (uf : Nat → Int64) (sf : Nat → Int64) (ed : Nat → Nat → Nat) (μ : sx_M) (hS : CS tc μ ad ro ur W u ln rf sc uk ul uf sf ed) (S : Nat → Nat → Bool) (ed0 : Nat → Nat → Nat) (hA : AW W u S ed0) (hP : CP W u S ed0 ln rf sc uk ul uf ed) : sx_Xr l yC_wordsOrNone (Cond.code yC_wordsOrNone cC_wordsOrNone 2 (some (.object "EncodingChecks$WordSet")) :: sxW) (rmL 7 2 1030) D sxCl (sxT tc) sxE [.ref (ad 0 0), .int x] μ (fun r μ' => CInv tc μ' (ad 0 0) W u S ed0 ∧ ∃ (r' : Nat) (f : Nat → Int64) (T : Nat → Bool), μ' r = some (.inr (1, [.int (nI W), .ref r'])) ∧ μ' r' = some (.inl (tc 1, nCh W, .inr (.inl f))) ∧ rowS f (nCh W) = T ∧ selT W u S x T) (fun Ex μ' => μ = μ' ∧ Ex = ioeN ∧ x ≠ -1 ∧ ∀ j, j < u → x ≠ nI j) 2 1030 := by
  have hu := hA.2.1
  refine sx_ofXrQ (cc := cC_wordsOrNone) (maxL := 2) (ret := (some (.object "EncodingChecks$WordSet"))) (own := RC) sxE_ok (by decide) rfl rfl (Nat.le_of_ble_eq_true rfl) [some (.ref (ad 0 0)), some (.int x)] 0 rfl (fun p e s m below meth c A Q hQ C hr hlocks hnm hno => ?_)
  refine sx_iload_n C dC_wordsOrNone_0 rfl rfl ?_
  refine sx_iconst (v := -1) C dC_wordsOrNone_1 (by decide) ?_
  refine sx_icmp_ne (tgt := 10) C dC_wordsOrNone_2 (by decide) (fun c2 => ?_) (fun c2 => ?_)
  · refine sx_aload_n C dC_wordsOrNone_10 rfl rfl ?_
    refine sx_iload_n C dC_wordsOrNone_11 rfl rfl ?_
    refine sx_callXv C (sx_runXV (As := [.int x]) (rest := []) C sx_all (c_C_requireEncoding l D tc hl x ad ro ur W u ln rf sc uk ul uf sf ed μ hS hu) (ci := 2) rfl (CS_f0 hS) (sx_cwV C 1 kM_C_72 ki_C_requireEncoding ke_C_requireEncoding kn_C kc_C_requireEncoding rfl rfl (by decide +kernel) ⟨Nat.le_of_ble_eq_true rfl, Nat.le_of_ble_eq_true rfl⟩) rfl rfl (Nat.le_of_ble_eq_true rfl) dC_wordsOrNone_12 ⟨Nat.le_of_ble_eq_true rfl, Nat.le_of_ble_eq_true rfl⟩) (fun Ex μx hx => ?_) (fun μ1 h1 => ?_)
    · exact sx_passQ C hQ hno hlocks (Nat.le_of_ble_eq_true rfl) (Nat.le_of_ble_eq_true rfl) (by obtain ⟨h1, h2, h3⟩ := hx; exact ⟨h1, h2, c2, h3⟩)
    · obtain ⟨hm, i, hi, hxi⟩ := h1
      subst hm
      have hi4 : i < 40 := by omega
      refine sx_aload_n C dC_wordsOrNone_15 rfl rfl ?_
      refine sx_getf (Cn := RC) (T := TC) (N := 7) C dC_wordsOrNone_16 (sx_in inC) rfl 1 (by decide) (sx_w C kF_C_21) (fun _ h => h) (CS_f0 hS) rfl ?_
      refine sx_iload_n C dC_wordsOrNone_19 rfl rfl ?_
      refine sx_aald (j := i) (b := (ad 2 i)) C dC_wordsOrNone_20 2 rfl (CS_f1 hS) (hxi) (hi4) (Nat.le_of_ble_eq_true rfl) (if_pos hi4) ?_
      refine sx_getf (Cn := RE) (T := TE) (N := 6) C dC_wordsOrNone_21 (sx_in inE) rfl 0 (by decide) (sx_w C kF_C_92) (fun _ h => h) (CS_f2 hS hi4) rfl ?_
      exact sx_aretQX C hQ dC_wordsOrNone_24 hr hlocks (Nat.le_of_ble_eq_true rfl) (Nat.le_of_ble_eq_true rfl) (⟨CInv_of hA hS hP, ro i, rf i, _, CS_f3 hS hi4, by have h8 := CS_f4 hS hi4; rw [(hP.2.1 i hi).1] at h8; exact h8, (hP.2.1 i hi).2, Or.inr ⟨i, hi, hxi, rfl⟩⟩)
  · refine sx_aload_n C dC_wordsOrNone_5 rfl rfl ?_
    refine sx_callr C (sx_runV (As := []) (rest := []) C sx_all (c_C_wordsOfNone l D tc ad ro ur W u ln rf sc uk ul uf sf ed μ hS S ed0 hA hP) (ci := 2) rfl (CS_f0 hS) (sx_cwV C 0 kM_C_144 ki_C_wordsOfNone ke_C_wordsOfNone kn_C kc_C_wordsOfNone rfl rfl (by decide +kernel) ⟨Nat.le_of_ble_eq_true rfl, Nat.le_of_ble_eq_true rfl⟩) rfl rfl (Nat.le_of_ble_eq_true rfl) dC_wordsOrNone_6 ⟨Nat.le_of_ble_eq_true rfl, Nat.le_of_ble_eq_true rfl⟩) (fun r μ1 h1 => ?_)
    obtain ⟨rfl, ur2, f, hS1, hrow⟩ := h1
    exact sx_aretQX C hQ dC_wordsOrNone_9 hr hlocks (Nat.le_of_ble_eq_true rfl) (Nat.le_of_ble_eq_true rfl) (⟨CInv_of hA hS1 ⟨hP.1, hP.2.1, hP.2.2.1, Or.inr rfl, fun _ => ⟨rfl, hrow⟩, hP.2.2.2.2.2⟩, ur2, f, _, CS_f7 hS1, CS_f8 hS1, hrow, Or.inl ⟨c2, rfl⟩⟩)

theorem cm_ex {W : Nat} {S : Nat → Nat → Bool} {a b : Nat} (h : 0 < cm W S a b) : ∃ w, w < 2 ^ W ∧ S a w = true ∧ S b w = true := by
  refine Classical.byContradiction fun hn => ?_
  have : cm W S a b = pu_c (fun w => S a w && S b w) 0 := pu_trim (Nat.zero_le _) (fun i _ hi => by
    cases h1 : S a i
    · rfl
    · cases h2 : S b i
      · rfl
      · exact absurd ⟨i, hi, h1, h2⟩ hn)
  rw [this] at h
  exact absurd h (Nat.lt_irrefl 0)
theorem lw_of {W n : Nat} {S : Nat → Nat → Bool} {a b : Nat} {f g : Nat → Int64} {r2 : Int32} (hn : n = nCh W) (hf : rowS f (nCh W) = S a) (hg : rowS g (nCh W) = S b) (hc : 0 < cm W S a b) (h : (∃ w, w < 64 * n ∧ wm f w = true ∧ wm g w = true ∧ (∀ v, v < w → ¬ (wm f v = true ∧ wm g v = true)) ∧ r2 = nI w) ∨ ((∀ v, v < 64 * n → ¬ (wm f v = true ∧ wm g v = true)) ∧ r2 = -1)) : ∃ w, r2 = nI w ∧ lwP S a b w := by
  subst hn
  rcases h with ⟨w, h1, h2, h3, h4, h5⟩ | ⟨h1, -⟩
  · refine ⟨w, h5, ?_, ?_, fun v hv => ?_⟩
    · rw [← hf, wm_row h1]; exact h2
    · rw [← hg, wm_row h1]; exact h3
    · rw [← hf, ← hg, wm_row (by omega), wm_row (by omega)]; exact h4 v hv
  · obtain ⟨w, g1, g2, g3⟩ := cm_ex hc
    have hw := Nat.lt_of_lt_of_le g1 nCh_W
    rw [← hf, wm_row hw] at g2
    rw [← hg, wm_row hw] at g3
    exact absurd ⟨g2, g3⟩ (h1 w hw)

set_option maxHeartbeats 4000000 in
set_option maxRecDepth 100000 in
/-- ofPair -/
theorem c_C_ofPair (l : Launch) (D : va_G) (tc : Nat → ClassId) (a b k : Nat) (ad : Nat → Nat → Nat) (ro : Nat → Nat) (ur : Nat) (W : Nat) (u : Nat) (ln : Nat → Nat) (rf : Nat → Nat → Int64) (sc : Nat → Nat → Int32) (uk : Bool) (ul : Nat) (uf : Nat → Int64) (sf : Nat → Int64) (ed : Nat → Nat → Nat) (μ : sx_M) (hS : CS tc μ ad ro ur W u ln rf sc uk ul uf sf ed) (S : Nat → Nat → Bool) (ed0 : Nat → Nat → Nat) (hA : AW W u S ed0) (hP : CP W u S ed0 ln rf sc uk ul uf ed) (ha : a < u) (hb : b < u) (hk : k ≤ 3) (hcm : 0 < cm W S a b) : sx_Mi l yC_ofPair (Cond.code yC_ofPair cC_ofPair 4 (some .int) :: sxW) (rmL 3 0 0) D sxCl (sxT tc) sxE [.ref (ad 0 0), .int (nI a), .int (nI b), .int (nI k)] μ (fun r μ' => μ = μ' ∧ ((k = 0 ∧ r = nI a) ∨ (k = 1 ∧ r = nI b) ∨ (k = 2 ∧ ∃ w, r = nI w ∧ lwP S a b w) ∨ (k = 3 ∧ r = nI (cm W S a b)))) 0 0 := by
  have hW := hA.1.2
  have hu := hA.2.1
  have hC := nCh_le hW
  have ha4 : a < 40 := by omega
  have hb4 : b < 40 := by omega
  have hk4 : k = 0 ∨ k = 1 ∨ k = 2 ∨ k = 3 := by omega
  have hl1 := (hP.2.1 a ha).1
  have hl2 := (hP.2.1 b hb).1
  refine sx_ofiQ (cc := cC_ofPair) (maxL := 4) (ret := (some .int)) (own := RC) sxE_ok (by decide) rfl rfl (Nat.le_of_ble_eq_true rfl) [some (.ref (ad 0 0)), some (.int (nI a)), some (.int (nI b)), some (.int (nI k))] 0 rfl (fun p e s m below meth c A Q hQ C hr hlocks hnm => ?_)
  refine sx_iload_n C dC_ofPair_0 rfl rfl ?_
  rcases hk4 with rfl | rfl | rfl | rfl
  · refine sx_tableIn (off := 27) (tgt := 28) C dC_ofPair_1 (by decide) (by decide) rfl (by decide) ?_
    refine sx_iload_n C dC_ofPair_28 rfl rfl ?_
    exact sx_iretQ C hQ dC_ofPair_29 hr hlocks (Nat.le_of_ble_eq_true rfl) (Nat.le_of_ble_eq_true rfl) (⟨rfl, Or.inl ⟨rfl, rfl⟩⟩)
  · refine sx_tableIn (off := 29) (tgt := 30) C dC_ofPair_1 (by decide) (by decide) rfl (by decide) ?_
    refine sx_iload_n C dC_ofPair_30 rfl rfl ?_
    exact sx_iretQ C hQ dC_ofPair_31 hr hlocks (Nat.le_of_ble_eq_true rfl) (Nat.le_of_ble_eq_true rfl) (⟨rfl, Or.inr (Or.inl ⟨rfl, rfl⟩)⟩)
  · refine sx_tableIn (off := 31) (tgt := 32) C dC_ofPair_1 (by decide) (by decide) rfl (by decide) ?_
    refine sx_aload_n C dC_ofPair_32 rfl rfl ?_
    refine sx_getf (Cn := RC) (T := TC) (N := 7) C dC_ofPair_33 (sx_in inC) rfl 1 (by decide) (sx_w C kF_C_21) (fun _ h => h) (CS_f0 hS) rfl ?_
    refine sx_iload_n C dC_ofPair_36 rfl rfl ?_
    refine sx_aald (j := a) (b := (ad 2 a)) C dC_ofPair_37 2 rfl (CS_f1 hS) (rfl) (ha4) (Nat.le_of_ble_eq_true rfl) (if_pos (ha4)) ?_
    refine sx_getf (Cn := RE) (T := TE) (N := 6) C dC_ofPair_38 (sx_in inE) rfl 0 (by decide) (sx_w C kF_C_92) (fun _ h => h) (CS_f2 hS ha4) rfl ?_
    refine sx_aload_n C dC_ofPair_41 rfl rfl ?_
    refine sx_getf (Cn := RC) (T := TC) (N := 7) C dC_ofPair_42 (sx_in inC) rfl 1 (by decide) (sx_w C kF_C_21) (fun _ h => h) (CS_f0 hS) rfl ?_
    refine sx_iload_n C dC_ofPair_45 rfl rfl ?_
    refine sx_aald (j := b) (b := (ad 2 b)) C dC_ofPair_46 2 rfl (CS_f1 hS) (rfl) (hb4) (Nat.le_of_ble_eq_true rfl) (if_pos (hb4)) ?_
    refine sx_getf (Cn := RE) (T := TE) (N := 6) C dC_ofPair_47 (sx_in inE) rfl 0 (by decide) (sx_w C kF_C_92) (fun _ h => h) (CS_f2 hS hb4) rfl ?_
    refine sx_calli C (sx_runV (As := [.ref (ad 3 b)]) (rest := []) C sx_all (c_S_lowestCommon l D tc (ad 3 a) (ro a) W (ln a) (ad 3 b) (ro b) W (ln b) (rf a) (rf b) μ (by omega) (by omega) (CS_f3 hS ha4) (CS_f4 hS ha4) (CS_f3 hS hb4) (CS_f4 hS hb4)) (ci := 1) rfl (CS_f3 hS ha4) (sx_cwV C 1 kM_C_195 ki_S_lowestCommon ke_S_lowestCommon kn_S kc_S_lowestCommon rfl rfl (by decide +kernel) ⟨Nat.le_of_ble_eq_true rfl, Nat.le_of_ble_eq_true rfl⟩) rfl rfl (Nat.le_of_ble_eq_true rfl) dC_ofPair_50 ⟨Nat.le_of_ble_eq_true rfl, Nat.le_of_ble_eq_true rfl⟩) (fun x μ1 hx => ?_)
    obtain ⟨hm, hx⟩ := hx
    subst hm
    rw [hl1, hl2, Nat.min_self] at hx
    exact sx_iretQ C hQ dC_ofPair_53 hr hlocks (Nat.le_of_ble_eq_true rfl) (Nat.le_of_ble_eq_true rfl) (⟨rfl, Or.inr (Or.inr (Or.inl ⟨rfl, lw_of rfl (hP.2.1 a ha).2 (hP.2.1 b hb).2 hcm hx⟩))⟩)
  · refine sx_tableOut (tgt := 54) C dC_ofPair_1 (Or.inr (by decide)) (by decide) ?_
    refine sx_aload_n C dC_ofPair_54 rfl rfl ?_
    refine sx_getf (Cn := RC) (T := TC) (N := 7) C dC_ofPair_55 (sx_in inC) rfl 3 (by decide) (sx_w C kF_C_33) (fun _ h => h) (CS_f0 hS) rfl ?_
    refine sx_iload_n C dC_ofPair_58 rfl rfl ?_
    refine sx_aaldA (j := a) (b := (ad 6 a)) C dC_ofPair_59 3 rfl (CS_f5 hS) (rfl) (ha4) (Nat.le_of_ble_eq_true rfl) (if_pos (ha4)) ?_
    refine sx_iload_n C dC_ofPair_60 rfl rfl ?_
    refine sx_iald (j := b) C dC_ofPair_61 0 rfl (CS_f6 hS ha4) (rfl) (hb4) (Nat.le_of_ble_eq_true rfl) ?_
    exact sx_iretQ C hQ dC_ofPair_62 hr hlocks (Nat.le_of_ble_eq_true rfl) (Nat.le_of_ble_eq_true rfl) (⟨rfl, Or.inr (Or.inr (Or.inr ⟨rfl, hP.2.2.1 a ha b hb⟩))⟩)

theorem has_S {n w : Nat} {f : Nat → Int64} : (decide (w / 64 < n) && wm f w) = rowS f n w := by
  unfold rowS
  rw [decide_eq_decide.mpr (show w / 64 < n ↔ w < 64 * n by omega)]

set_option maxHeartbeats 4000000 in
set_option maxRecDepth 100000 in
/-- liesInAllWith -/
theorem c_C_liesInAllWith (l : Launch) (D : va_G) (tc : Nat → ClassId) (i w : Nat) (ad : Nat → Nat → Nat) (ro : Nat → Nat) (ur : Nat) (W : Nat) (u : Nat) (ln : Nat → Nat) (rf : Nat → Nat → Int64) (sc : Nat → Nat → Int32) (uk : Bool) (ul : Nat) (uf : Nat → Int64) (sf : Nat → Int64) (ed : Nat → Nat → Nat) (μ : sx_M) (hS : CS tc μ ad ro ur W u ln rf sc uk ul uf sf ed) (S : Nat → Nat → Bool) (ed0 : Nat → Nat → Nat) (hA : AW W u S ed0) (hP : CP W u S ed0 ln rf sc uk ul uf ed) (hi : i < u) (hw : w < 2 ^ 31) : sx_Mi l yC_liesInAllWith (Cond.code yC_liesInAllWith cC_liesInAllWith 4 (some .boolean) :: sxW) (rmL 1 0 0) D sxCl (sxT tc) sxE [.ref (ad 0 0), .int (nI i), .int (nI w)] μ (fun r μ' => μ = μ' ∧ ∃ t : Bool, r = b2i t ∧ (t = true ↔ ∀ j, j < u → S j w = true → lsB W S i j = true)) 0 0 := by
  have hW := hA.1.2
  have hu := hA.2.1
  have hi4 : i < 40 := by omega
  have hC := nCh_le hW
  refine sx_ofiQ (cc := cC_liesInAllWith) (maxL := 4) (ret := (some .boolean)) (own := RC) sxE_ok (by decide) rfl rfl (Nat.le_of_ble_eq_true rfl) [some (.ref (ad 0 0)), some (.int (nI i)), some (.int (nI w)), none] 1 rfl (fun p e s m below meth c A Q hQ C hr hlocks hnm => ?_)
  refine sx_iconst (v := 0) C dC_liesInAllWith_0 (by decide) ?_
  refine sx_eqi (nI 0) (rfl) ?_
  refine sx_istore_n (lv' := [some (.ref (ad 0 0)), some (.int (nI i)), some (.int (nI w)), some (.int (nI 0))]) C dC_liesInAllWith_1 rfl (by decide) rfl rfl ?_
  have L2 : ∀ (fu : Nat) (j : Nat), u - j < fu → (j ≤ u) → (∀ k, k < j → S k w = true → lsB W S i k = true) → SW p l e (rmL 1 0 0) s m [.ref (ad 0 0), .int (nI i), .int (nI w)].toArray below meth c 4 D sxCl A 0 0 Q μ 2 [some (.ref (ad 0 0)), some (.int (nI i)), some (.int (nI w)), some (.int (nI j))] [] := by
    intro fu
    induction fu with
    | zero => intro _ h; exact absurd h (Nat.not_lt_zero _)
    | succ fu ih =>
      intro j hfu hj h1
      refine sx_iload_n C dC_liesInAllWith_2 rfl rfl ?_
      refine sx_aload_n C dC_liesInAllWith_3 rfl rfl ?_
      refine sx_getf (Cn := RC) (T := TC) (N := 7) C dC_liesInAllWith_4 (sx_in inC) rfl 2 (by decide) (sx_w C kF_C_28) (fun _ h => h) (CS_f0 hS) rfl ?_
      refine sx_icmp_ge (tgt := 43) C dC_liesInAllWith_7 (by decide) (fun c7 => ?_) (fun c7 => ?_)
      · have hc : u ≤ j := (nI_leI (by omega) (by omega)).mp c7
        refine sx_iconst (v := 1) C dC_liesInAllWith_43 (by decide) ?_
        exact sx_zretQ C hQ dC_liesInAllWith_44 hr (by first | exact Or.inl rfl | exact Or.inr rfl) hlocks (Nat.le_of_ble_eq_true rfl) (Nat.le_of_ble_eq_true rfl) (⟨rfl, true, rfl, ⟨fun _ k hk hs => h1 k (by omega) hs, fun _ => rfl⟩⟩)
      · have hc : ¬ u ≤ j := fun h => c7 ((nI_leI (by omega) (by omega)).mpr h)
        have hj4 : j < 40 := by omega
        have hl1 := (hP.2.1 j (by omega)).1
        refine sx_aload_n C dC_liesInAllWith_10 rfl rfl ?_
        refine sx_getf (Cn := RC) (T := TC) (N := 7) C dC_liesInAllWith_11 (sx_in inC) rfl 1 (by decide) (sx_w C kF_C_21) (fun _ h => h) (CS_f0 hS) rfl ?_
        refine sx_iload_n C dC_liesInAllWith_14 rfl rfl ?_
        refine sx_aald (j := j) (b := (ad 2 j)) C dC_liesInAllWith_15 2 rfl (CS_f1 hS) (rfl) (hj4) (Nat.le_of_ble_eq_true rfl) (if_pos (hj4)) ?_
        refine sx_getf (Cn := RE) (T := TE) (N := 6) C dC_liesInAllWith_16 (sx_in inE) rfl 0 (by decide) (sx_w C kF_C_92) (fun _ h => h) (CS_f2 hS hj4) rfl ?_
        refine sx_iload_n C dC_liesInAllWith_19 rfl rfl ?_
        refine sx_calli C (sx_runV (As := [.int (nI w)]) (rest := []) C sx_all (c_S_has l D tc (ad 3 j) (ro j) W (ln j) w (rf j) μ (by omega) hw (CS_f3 hS hj4) (CS_f4 hS hj4)) (ci := 1) rfl (CS_f3 hS hj4) (sx_cwV C 1 kM_C_172 ki_S_has ke_S_has kn_S kc_S_has rfl rfl (by decide +kernel) ⟨Nat.le_of_ble_eq_true rfl, Nat.le_of_ble_eq_true rfl⟩) rfl rfl (Nat.le_of_ble_eq_true rfl) dC_liesInAllWith_20 ⟨Nat.le_of_ble_eq_true rfl, Nat.le_of_ble_eq_true rfl⟩) (fun x μ1 hx => ?_)
        obtain ⟨hm, hx⟩ := hx
        subst hm
        rw [hl1, has_S, (hP.2.1 j (by omega)).2] at hx
        refine sx_if_eq (tgt := 37) C dC_liesInAllWith_23 (by decide) (fun c23 => ?_) (fun c23 => ?_)
        · rw [hx] at c23
          have hs := b2i_z.mp c23
          have h2 : S j w = true → lsB W S i j = true := fun z => by rw [hs] at z; cases z
          refine sx_iinc (v := nI (j + 1)) (lv' := [some (.ref (ad 0 0)), some (.int (nI i)), some (.int (nI w)), some (.int (nI (j + 1)))]) C dC_liesInAllWith_37 rfl (nI_1 j) (by decide) rfl rfl ?_
          refine sx_goto (tgt := 2) C dC_liesInAllWith_40 (by decide) ?_
          exact ih (j + 1) (by omega) (by omega) (all_step h1 h2)
        · rw [hx] at c23
          have hs := b2i_ne.mp c23
          refine sx_aload_n C dC_liesInAllWith_26 rfl rfl ?_
          refine sx_iload_n C dC_liesInAllWith_27 rfl rfl ?_
          refine sx_iload_n C dC_liesInAllWith_28 rfl rfl ?_
          refine sx_calli C (sx_runV (As := [.int (nI i), .int (nI j)]) (rest := []) C sx_all (c_C_liesIn l D tc i j ad ro ur W u ln rf sc uk ul uf sf ed μ hS hi4 hj4) (ci := 2) rfl (CS_f0 hS) (sx_cwV C 2 kM_C_125 ki_C_liesIn ke_C_liesIn kn_C kc_C_liesIn rfl rfl (by decide +kernel) ⟨Nat.le_of_ble_eq_true rfl, Nat.le_of_ble_eq_true rfl⟩) rfl rfl (Nat.le_of_ble_eq_true rfl) dC_liesInAllWith_29 ⟨Nat.le_of_ble_eq_true rfl, Nat.le_of_ble_eq_true rfl⟩) (fun y μ1 hy => ?_)
          obtain ⟨hm, hy⟩ := hy
          subst hm
          rw [cp_ls hA hP hi (by omega)] at hy
          refine sx_if_ne (tgt := 37) C dC_liesInAllWith_32 (by decide) (fun c32 => ?_) (fun c32 => ?_)
          · rw [hy] at c32
            have h2 : S j w = true → lsB W S i j = true := fun _ => b2i_ne.mp c32
            refine sx_iinc (v := nI (j + 1)) (lv' := [some (.ref (ad 0 0)), some (.int (nI i)), some (.int (nI w)), some (.int (nI (j + 1)))]) C dC_liesInAllWith_37 rfl (nI_1 j) (by decide) rfl rfl ?_
            refine sx_goto (tgt := 2) C dC_liesInAllWith_40 (by decide) ?_
            exact ih (j + 1) (by omega) (by omega) (all_step h1 h2)
          · rw [hy] at c32
            have h3 := b2i_z.mp c32
            refine sx_iconst (v := 0) C dC_liesInAllWith_35 (by decide) ?_
            exact sx_zretQ C hQ dC_liesInAllWith_36 hr (by first | exact Or.inl rfl | exact Or.inr rfl) hlocks (Nat.le_of_ble_eq_true rfl) (Nat.le_of_ble_eq_true rfl) (⟨rfl, false, rfl, ⟨fun z => (by cases z), fun z => by rw [z j (by omega) hs] at h3; cases h3⟩⟩)
  exact L2 _ 0 (Nat.lt_succ_self _) (Nat.zero_le _) (fun k hk => absurd hk (Nat.not_lt_zero _))

theorem ss_no {P : Nat → Bool} {x : Int64} {j : Nat} (h : ∀ k, bL x k = (decide (k < j) && P k)) (hp : P j = false) : ∀ k, bL x k = (decide (k < j + 1) && P k) := by
  intro k
  rw [h k]
  by_cases e : k = j
  · subst e; rw [hp, Bool.and_false, Bool.and_false]
  · rw [decide_eq_decide.mpr (show k < j ↔ k < j + 1 by omega)]
theorem ss_yes {P : Nat → Bool} {x : Int64} {j : Nat} (hj : j < 64) (h : ∀ k, bL x k = (decide (k < j) && P k)) (hp : P j = true) : ∀ k, bL (x ||| jshlL 1 (nI j)) k = (decide (k < j + 1) && P k) := by
  intro k
  rw [bL_or, bL_bit (by omega), h k, Nat.mod_eq_of_lt hj]
  by_cases e : k = j
  · subst e; rw [hp, decide_eq_true rfl, decide_eq_true (Nat.lt_succ_self _), Bool.or_true]; rfl
  · rw [decide_eq_false e, Bool.or_false, decide_eq_decide.mpr (show k < j ↔ k < j + 1 by omega)]

set_option maxHeartbeats 4000000 in
set_option maxRecDepth 100000 in
/-- setOfSmaller -/
theorem c_C_setOfSmaller (l : Launch) (D : va_G) (tc : Nat → ClassId) (i : Nat) (ad : Nat → Nat → Nat) (ro : Nat → Nat) (ur : Nat) (W : Nat) (u : Nat) (ln : Nat → Nat) (rf : Nat → Nat → Int64) (sc : Nat → Nat → Int32) (uk : Bool) (ul : Nat) (uf : Nat → Int64) (sf : Nat → Int64) (ed : Nat → Nat → Nat) (μ : sx_M) (hS : CS tc μ ad ro ur W u ln rf sc uk ul uf sf ed) (S : Nat → Nat → Bool) (ed0 : Nat → Nat → Nat) (hA : AW W u S ed0) (hP : CP W u S ed0 ln rf sc uk ul uf ed) (hi : i < u) : sx_Ml l yC_setOfSmaller (Cond.code yC_setOfSmaller cC_setOfSmaller 5 (some .long) :: sxW) (rmL 1 0 0) D sxCl (sxT tc) sxE [.ref (ad 0 0), .int (nI i)] μ (fun r μ' => μ = μ' ∧ ∀ k, bL r k = (decide (k < u) && (lsB W S k i && !lsB W S i k))) 0 0 := by
  have hW := hA.1.2
  have hu := hA.2.1
  have hi4 : i < 40 := by omega
  refine sx_oflQ (cc := cC_setOfSmaller) (maxL := 5) (ret := (some .long)) (own := RC) sxE_ok (by decide) rfl rfl (Nat.le_of_ble_eq_true rfl) [some (.ref (ad 0 0)), some (.int (nI i)), none, none, none] 3 rfl (fun p e s m below meth c A Q hQ C hr hlocks hnm => ?_)
  refine sx_lconst (v := 0) C dC_setOfSmaller_0 (by decide) ?_
  refine sx_lstore_n (lv' := [some (.ref (ad 0 0)), some (.int (nI i)), some (.long 0), none, none]) C dC_setOfSmaller_1 rfl (by decide) rfl rfl ?_
  refine sx_iconst (v := 0) C dC_setOfSmaller_2 (by decide) ?_
  refine sx_eqi (nI 0) (rfl) ?_
  refine sx_istore (lv' := [some (.ref (ad 0 0)), some (.int (nI i)), some (.long 0), none, some (.int (nI 0))]) C dC_setOfSmaller_3 (by decide) rfl rfl ?_
  have L5 : ∀ (fu : Nat) (j : Nat) (x : Int64), u - j < fu → (j ≤ u) → (∀ k, bL x k = (decide (k < j) && (fun k => lsB W S k i && !lsB W S i k) k)) → SW p l e (rmL 1 0 0) s m [.ref (ad 0 0), .int (nI i)].toArray below meth c 5 D sxCl A 0 0 Q μ 5 [some (.ref (ad 0 0)), some (.int (nI i)), some (.long x), none, some (.int (nI j))] [] := by
    intro fu
    induction fu with
    | zero => intro _ _ h; exact absurd h (Nat.not_lt_zero _)
    | succ fu ih =>
      intro j x hfu hj h1
      refine sx_iload C dC_setOfSmaller_5 rfl ?_
      refine sx_aload_n C dC_setOfSmaller_7 rfl rfl ?_
      refine sx_getf (Cn := RC) (T := TC) (N := 7) C dC_setOfSmaller_8 (sx_in inC) rfl 2 (by decide) (sx_w C kF_C_28) (fun _ h => h) (CS_f0 hS) rfl ?_
      refine sx_icmp_ge (tgt := 47) C dC_setOfSmaller_11 (by decide) (fun c11 => ?_) (fun c11 => ?_)
      · have hc : u ≤ j := (nI_leI (by omega) (by omega)).mp c11
        obtain rfl : j = u := by omega
        refine sx_lload_n C dC_setOfSmaller_47 rfl rfl ?_
        exact sx_lretQ C hQ dC_setOfSmaller_48 hr hlocks (Nat.le_of_ble_eq_true rfl) (Nat.le_of_ble_eq_true rfl) (⟨rfl, h1⟩)
      · have hc : ¬ u ≤ j := fun h => c11 ((nI_leI (by omega) (by omega)).mpr h)
        have hj4 : j < 40 := by omega
        refine sx_aload_n C dC_setOfSmaller_14 rfl rfl ?_
        refine sx_iload C dC_setOfSmaller_15 rfl ?_
        refine sx_iload_n C dC_setOfSmaller_17 rfl rfl ?_
        refine sx_calli C (sx_runV (As := [.int (nI j), .int (nI i)]) (rest := []) C sx_all (c_C_liesIn l D tc j i ad ro ur W u ln rf sc uk ul uf sf ed μ hS hj4 hi4) (ci := 2) rfl (CS_f0 hS) (sx_cwV C 2 kM_C_125 ki_C_liesIn ke_C_liesIn kn_C kc_C_liesIn rfl rfl (by decide +kernel) ⟨Nat.le_of_ble_eq_true rfl, Nat.le_of_ble_eq_true rfl⟩) rfl rfl (Nat.le_of_ble_eq_true rfl) dC_setOfSmaller_18 ⟨Nat.le_of_ble_eq_true rfl, Nat.le_of_ble_eq_true rfl⟩) (fun y μ1 hy => ?_)
        obtain ⟨hm, hy⟩ := hy
        subst hm
        rw [cp_ls hA hP (by omega) hi] at hy
        refine sx_if_eq (tgt := 41) C dC_setOfSmaller_21 (by decide) (fun c21 => ?_) (fun c21 => ?_)
        · rw [hy] at c21
          have hz := b2i_z.mp c21
          have h2 := ss_no (P := fun k => lsB W S k i && !lsB W S i k) h1 (by show (lsB W S j i && !lsB W S i j) = false; rw [hz, Bool.false_and])
          refine sx_iinc (v := nI (j + 1)) (lv' := [some (.ref (ad 0 0)), some (.int (nI i)), some (.long x), none, some (.int (nI (j + 1)))]) C dC_setOfSmaller_41 rfl (nI_1 j) (by decide) rfl rfl ?_
          refine sx_goto (tgt := 5) C dC_setOfSmaller_44 (by decide) ?_
          exact ih (j + 1) _ (by omega) (by omega) h2
        · rw [hy] at c21
          have hz := b2i_ne.mp c21
          refine sx_aload_n C dC_setOfSmaller_24 rfl rfl ?_
          refine sx_iload_n C dC_setOfSmaller_25 rfl rfl ?_
          refine sx_iload C dC_setOfSmaller_26 rfl ?_
          refine sx_calli C (sx_runV (As := [.int (nI i), .int (nI j)]) (rest := []) C sx_all (c_C_liesIn l D tc i j ad ro ur W u ln rf sc uk ul uf sf ed μ hS hi4 hj4) (ci := 2) rfl (CS_f0 hS) (sx_cwV C 2 kM_C_125 ki_C_liesIn ke_C_liesIn kn_C kc_C_liesIn rfl rfl (by decide +kernel) ⟨Nat.le_of_ble_eq_true rfl, Nat.le_of_ble_eq_true rfl⟩) rfl rfl (Nat.le_of_ble_eq_true rfl) dC_setOfSmaller_28 ⟨Nat.le_of_ble_eq_true rfl, Nat.le_of_ble_eq_true rfl⟩) (fun t μ1 ht => ?_)
          obtain ⟨hm, ht⟩ := ht
          subst hm
          rw [cp_ls hA hP hi (by omega)] at ht
          refine sx_if_ne (tgt := 41) C dC_setOfSmaller_31 (by decide) (fun c31 => ?_) (fun c31 => ?_)
          · rw [ht] at c31
            have hz2 := b2i_ne.mp c31
            have h2 := ss_no (P := fun k => lsB W S k i && !lsB W S i k) h1 (by show (lsB W S j i && !lsB W S i j) = false; rw [hz2, Bool.not_true, Bool.and_false])
            refine sx_iinc (v := nI (j + 1)) (lv' := [some (.ref (ad 0 0)), some (.int (nI i)), some (.long x), none, some (.int (nI (j + 1)))]) C dC_setOfSmaller_41 rfl (nI_1 j) (by decide) rfl rfl ?_
            refine sx_goto (tgt := 5) C dC_setOfSmaller_44 (by decide) ?_
            exact ih (j + 1) _ (by omega) (by omega) h2
          · rw [ht] at c31
            have hz2 := b2i_z.mp c31
            have h2 := ss_yes (P := fun k => lsB W S k i && !lsB W S i k) (by omega) h1 (by show (lsB W S j i && !lsB W S i j) = true; rw [hz, hz2]; rfl)
            refine sx_lload_n C dC_setOfSmaller_34 rfl rfl ?_
            refine sx_lconst (v := 1) C dC_setOfSmaller_35 (by decide) ?_
            refine sx_iload C dC_setOfSmaller_36 rfl ?_
            refine sx_lshl C dC_setOfSmaller_38 ?_
            refine sx_lor C dC_setOfSmaller_39 ?_
            refine sx_lstore_n (lv' := [some (.ref (ad 0 0)), some (.int (nI i)), some (.long (x ||| (jshlL 1 (nI j)))), none, some (.int (nI j))]) C dC_setOfSmaller_40 rfl (by decide) rfl rfl ?_
            refine sx_iinc (v := nI (j + 1)) (lv' := [some (.ref (ad 0 0)), some (.int (nI i)), some (.long (x ||| (jshlL 1 (nI j)))), none, some (.int (nI (j + 1)))]) C dC_setOfSmaller_41 rfl (nI_1 j) (by decide) rfl rfl ?_
            refine sx_goto (tgt := 5) C dC_setOfSmaller_44 (by decide) ?_
            exact ih (j + 1) _ (by omega) (by omega) h2
  exact L5 _ 0 0 (Nat.lt_succ_self _) (Nat.zero_le _) (fun k => by rw [bL_0, decide_eq_false (Nat.not_lt_zero _), Bool.false_and])

set_option maxHeartbeats 4000000 in
set_option maxRecDepth 100000 in
/-- nextInOrder -/
theorem c_C_nextInOrder (l : Launch) (D : va_G) (tc : Nat → ClassId) (x : Int64) (ad : Nat → Nat → Nat) (ro : Nat → Nat) (ur : Nat) (W : Nat) (u : Nat) (ln : Nat → Nat) (rf : Nat → Nat → Int64) (sc : Nat → Nat → Int32) (uk : Bool) (ul : Nat) (uf : Nat → Int64) (sf : Nat → Int64) (ed : Nat → Nat → Nat) (μ : sx_M) (hS : CS tc μ ad ro ur W u ln rf sc uk ul uf sf ed) (hu : u ≤ 40) : sx_Mi l yC_nextInOrder (Cond.code yC_nextInOrder cC_nextInOrder 5 (some .int) :: sxW) (rmL 0 0 0) D sxCl (sxT tc) sxE [.ref (ad 0 0), .long x] μ (fun r μ' => μ = μ' ∧ ((∃ i, i < u ∧ r = nI i ∧ (bL x i = false ∧ (sf i &&& (x ^^^ (-1))) = 0) ∧ ∀ k, k < i → ¬ (bL x k = false ∧ (sf k &&& (x ^^^ (-1))) = 0)) ∨ (r = -1 ∧ ∀ k, k < u → ¬ (bL x k = false ∧ (sf k &&& (x ^^^ (-1))) = 0)))) 0 0 := by
  refine sx_ofiQ (cc := cC_nextInOrder) (maxL := 5) (ret := (some .int)) (own := RC) sxE_ok (by decide) rfl rfl (Nat.le_of_ble_eq_true rfl) [some (.ref (ad 0 0)), some (.long x), none, none, none] 2 rfl (fun p e s m below meth c A Q hQ C hr hlocks hnm => ?_)
  refine sx_iconst (v := 0) C dC_nextInOrder_0 (by decide) ?_
  refine sx_eqi (nI 0) (rfl) ?_
  refine sx_istore_n (lv' := [some (.ref (ad 0 0)), some (.long x), none, some (.int (nI 0)), none]) C dC_nextInOrder_1 rfl (by decide) rfl rfl ?_
  have L2 : ∀ (fu : Nat) (j : Nat), u - j < fu → (j ≤ u) → (∀ k, k < j → ¬ (bL x k = false ∧ (sf k &&& (x ^^^ (-1))) = 0)) → SW p l e (rmL 0 0 0) s m [.ref (ad 0 0), .long x].toArray below meth c 5 D sxCl A 0 0 Q μ 2 [some (.ref (ad 0 0)), some (.long x), none, some (.int (nI j)), none] [] := by
    intro fu
    induction fu with
    | zero => intro _ h; exact absurd h (Nat.not_lt_zero _)
    | succ fu ih =>
      intro j hfu hj h1
      refine sx_iload_n C dC_nextInOrder_2 rfl rfl ?_
      refine sx_aload_n C dC_nextInOrder_3 rfl rfl ?_
      refine sx_getf (Cn := RC) (T := TC) (N := 7) C dC_nextInOrder_4 (sx_in inC) rfl 2 (by decide) (sx_w C kF_C_28) (fun _ h => h) (CS_f0 hS) rfl ?_
      refine sx_icmp_ge (tgt := 57) C dC_nextInOrder_7 (by decide) (fun c7 => ?_) (fun c7 => ?_)
      · have hc : u ≤ j := (nI_leI (by omega) (by omega)).mp c7
        refine sx_iconst (v := -1) C dC_nextInOrder_57 (by decide) ?_
        exact sx_iretQ C hQ dC_nextInOrder_58 hr hlocks (Nat.le_of_ble_eq_true rfl) (Nat.le_of_ble_eq_true rfl) (⟨rfl, Or.inr ⟨rfl, fun k hk => h1 k (by omega)⟩⟩)
      · have hc : ¬ u ≤ j := fun h => c7 ((nI_leI (by omega) (by omega)).mpr h)
        have hj4 : j < 40 := by omega
        have hm6 : j % 64 = j := Nat.mod_eq_of_lt (by omega)
        refine sx_lload_n C dC_nextInOrder_10 rfl rfl ?_
        refine sx_lconst (v := 1) C dC_nextInOrder_11 (by decide) ?_
        refine sx_iload_n C dC_nextInOrder_12 rfl rfl ?_
        refine sx_lshl C dC_nextInOrder_13 ?_
        refine sx_land C dC_nextInOrder_14 ?_
        refine sx_lconst (v := 0) C dC_nextInOrder_15 (by decide) ?_
        refine sx_lcmp C dC_nextInOrder_16 ?_
        refine sx_if_eq (tgt := 24) C dC_nextInOrder_17 (by decide) (fun c17 => ?_) (fun c17 => ?_)
        · have hb : bL x j = false := by
            have := (bL_test x (k := j) (by omega)).mp ((lg_cmp_eq _ _).mp c17)
            rw [hm6] at this
            exact this
          refine sx_iconst (v := 0) C dC_nextInOrder_24 (by decide) ?_
          refine sx_istore (lv' := [some (.ref (ad 0 0)), some (.long x), none, some (.int (nI j)), some (.int 0)]) C dC_nextInOrder_25 (by decide) rfl rfl ?_
          refine sx_iload C dC_nextInOrder_27 rfl ?_
          refine sx_if_ne (tgt := 51) C dC_nextInOrder_29 (by decide) (fun c29 => ?_) (fun c29 => ?_)
          · exact absurd rfl c29
          · refine sx_aload_n C dC_nextInOrder_32 rfl rfl ?_
            refine sx_getf (Cn := RC) (T := TC) (N := 7) C dC_nextInOrder_33 (sx_in inC) rfl 6 (by decide) (sx_w C kF_C_47) (fun _ h => h) (CS_f0 hS) rfl ?_
            refine sx_iload_n C dC_nextInOrder_36 rfl rfl ?_
            refine sx_lald (j := j) C dC_nextInOrder_37 1 rfl (CS_f9 hS) (rfl) (hj4) (Nat.le_of_ble_eq_true rfl) ?_
            refine sx_lload_n C dC_nextInOrder_38 rfl rfl ?_
            refine sx_ldc2 (v := (-1)) C dC_nextInOrder_39 (sx_w C kL_C_51) ?_
            refine sx_lxor C dC_nextInOrder_42 ?_
            refine sx_land C dC_nextInOrder_43 ?_
            refine sx_lconst (v := 0) C dC_nextInOrder_44 (by decide) ?_
            refine sx_lcmp C dC_nextInOrder_45 ?_
            refine sx_if_ne (tgt := 51) C dC_nextInOrder_46 (by decide) (fun c46 => ?_) (fun c46 => ?_)
            · have h2 : ¬ (bL x j = false ∧ (sf j &&& (x ^^^ (-1))) = 0) := fun z => c46 ((lg_cmp_eq _ _).mpr z.2)
              refine sx_weak (lv' := [some (.ref (ad 0 0)), some (.long x), none, some (.int (nI j)), none]) (And.intro rfl (And.intro rfl (And.intro rfl trivial))) ?_
              refine sx_iinc (v := nI (j + 1)) (lv' := [some (.ref (ad 0 0)), some (.long x), none, some (.int (nI (j + 1))), none]) C dC_nextInOrder_51 rfl (nI_1 j) (by decide) rfl rfl ?_
              refine sx_goto (tgt := 2) C dC_nextInOrder_54 (by decide) ?_
              exact ih (j + 1) (by omega) (by omega) (all_step h1 h2)
            · have h3 := (lg_cmp_eq _ _).mp c46
              refine sx_iload_n C dC_nextInOrder_49 rfl rfl ?_
              exact sx_iretQ C hQ dC_nextInOrder_50 hr hlocks (Nat.le_of_ble_eq_true rfl) (Nat.le_of_ble_eq_true rfl) (⟨rfl, Or.inl ⟨j, by omega, rfl, ⟨hb, h3⟩, h1⟩⟩)
        · have hb : bL x j = true := by
            cases hq : bL x j
            · exact absurd ((lg_cmp_eq _ _).mpr ((bL_test x (k := j) (by omega)).mpr (by rw [hm6]; exact hq))) c17
            · rfl
          have h2 : ¬ (bL x j = false ∧ (sf j &&& (x ^^^ (-1))) = 0) := fun z => by rw [hb] at z; cases z.1
          refine sx_iconst (v := 1) C dC_nextInOrder_20 (by decide) ?_
          refine sx_goto (tgt := 25) C dC_nextInOrder_21 (by decide) ?_
          refine sx_istore (lv' := [some (.ref (ad 0 0)), some (.long x), none, some (.int (nI j)), some (.int 1)]) C dC_nextInOrder_25 (by decide) rfl rfl ?_
          refine sx_iload C dC_nextInOrder_27 rfl ?_
          refine sx_if_ne (tgt := 51) C dC_nextInOrder_29 (by decide) (fun c29 => ?_) (fun c29 => ?_)
          · refine sx_weak (lv' := [some (.ref (ad 0 0)), some (.long x), none, some (.int (nI j)), none]) (And.intro rfl (And.intro rfl (And.intro rfl trivial))) ?_
            refine sx_iinc (v := nI (j + 1)) (lv' := [some (.ref (ad 0 0)), some (.long x), none, some (.int (nI (j + 1))), none]) C dC_nextInOrder_51 rfl (nI_1 j) (by decide) rfl rfl ?_
            refine sx_goto (tgt := 2) C dC_nextInOrder_54 (by decide) ?_
            exact ih (j + 1) (by omega) (by omega) (all_step h1 h2)
          · exact absurd c29 (by decide)
  exact L2 _ 0 (Nat.lt_succ_self _) (Nat.zero_le _) (fun k hk => absurd hk (Nat.not_lt_zero _))
