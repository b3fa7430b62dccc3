set_option maxHeartbeats 4000000 in
set_option maxRecDepth 100000 in
/-- EncodingChecks(int) -/
theorem c_C_init (l : Launch) (D : va_G) (tc : Nat → ClassId) (o : Nat) (x : Int32) (μ : sx_M) (ho : μ o = some (.inr (2, [.int 0, .null, .int 0, .null, .null, .int 0, .null]))) : sx_Mv l yC_init (Cond.code yC_init cC_init 3 none :: sxW) (rmL 4 166 2298) D sxCl (sxT tc) sxE [.ref o, .int x] μ (fun μ' => CInv tc μ' o (wdN x) 0 (fun _ _ => false) (fun _ _ => 0)) 166 2298 := by
  refine sx_ofvQ (cc := cC_init) (maxL := 3) (ret := none) (own := RC) sxE_ok (by decide) rfl rfl (Nat.le_of_ble_eq_true rfl) [some (.ref o), some (.int x), none] 1 rfl (fun p e s m below meth c A Q hQ C hr hlocks hnm => ?_)
  refine sx_aload_n C dC_init_0 rfl rfl ?_
  refine sx_objInit C dC_init_1 (sx_w C kM_C_1) (sx_w C ki_obj) (sx_w C kc_obj) (Nat.le_of_ble_eq_true rfl) (Nat.le_of_ble_eq_true rfl) ?_
  refine sx_aload_n C dC_init_4 rfl rfl ?_
  refine sx_iconst (v := 1) C dC_init_5 (by decide) ?_
  refine sx_iload_n C dC_init_6 rfl rfl ?_
  refine sx_iconst (v := 1) C dC_init_7 (by decide) ?_
  refine sx_isub C dC_init_8 ?_
  refine sx_bipush (v := 16) C dC_init_9 (by decide) ?_
  refine sx_calli C (sx_runS (As := [.int (x - 1), .int 16]) (rest := [.int 1, .ref o]) C sx_all (c_JM_floorMod l D tc (x - 1) _) (sx_cwS C 2 kM_C_9 ks_JM_floorMod kn_JM kc_JM_floorMod rfl rfl (by decide +kernel) ⟨Nat.le_of_ble_eq_true rfl, Nat.le_of_ble_eq_true rfl⟩) rfl rfl (Nat.le_of_ble_eq_true rfl) dC_init_11 ⟨Nat.le_of_ble_eq_true rfl, Nat.le_of_ble_eq_true rfl⟩) (fun r1 μ1 h1 => ?_)
  obtain ⟨hm, h1⟩ := h1
  refine sx_mu _ hm ?_
  refine sx_eqi ((x - 1) &&& 15) (h1) ?_
  refine sx_iadd C dC_init_14 ?_
  refine sx_eqi (nI (wdN x)) (wd_eq x) ?_
  refine sx_putF (Cn := RC) (T := TC) (N := 7) (ty := .int) (fs' := [.int (nI (wdN x)), .null, .int 0, .null, .null, .int 0, .null]) C dC_init_15 (sx_in inC) tC tC_ok nC rfl 0 (by decide) (sx_w C kF_C_15) (fun _ h => h) rfl (hnm.trans rfl) rfl (by decide +kernel) rfl rfl ho (by simp) rfl ?_
  refine sx_aload_n C dC_init_18 rfl rfl ?_
  refine sx_bipush (v := 40) C dC_init_19 (by decide) ?_
  refine sx_newq (Cx := "EncodingChecks$Encoding") (N := 40) C dC_init_21 (sx_w C kC_C_19) C.2.2.2.1.2.2.1.1 2 rfl (rfl) (Nat.le_of_ble_eq_true rfl) (Nat.le_of_ble_eq_true rfl) (Nat.le_of_ble_eq_true rfl) (Nat.le_of_ble_eq_true rfl) (fun q hq => ?_)
  refine sx_putF (Cn := RC) (T := TC) (N := 7) (ty := .array (.object "EncodingChecks$Encoding")) (fs' := [.int (nI (wdN x)), .ref q, .int 0, .null, .null, .int 0, .null]) C dC_init_24 (sx_in inC) tC tC_ok nC rfl 1 (by decide) (sx_w C kF_C_21) (fun _ h => h) rfl (hnm.trans rfl) rfl (by decide +kernel) rfl rfl (sx_upo (sx_nw (sx_up_s _ _ _) hq) (sx_up_s _ _ _)) (by simp) rfl ?_
  refine sx_iconst (v := 0) C dC_init_27 (by decide) ?_
  refine sx_eqi (nI 0) (rfl) ?_
  refine sx_istore_n (lv' := [some (.ref o), some (.int x), some (.int (nI 0))]) C dC_init_28 rfl (by decide) rfl rfl ?_
  have L29 : ∀ (fu : Nat) (i : Nat) (μ : sx_M) (ad : Nat → Nat → Nat), 40 - i < fu → (i ≤ 40) → (ad 0 0 = o) → (ad 1 0 = q) → (PM μ (okI i) ad (ceI tc ad (wdN x) (.inr (2, [.int (nI (wdN x)), .ref q, .int 0, .null, .null, .int 0, .null])) i)) → SW p l e (rmL 4 166 2298) s m [.ref o, .int x].toArray below meth c 3 D sxCl A (1 + 3 * i) (40 + 8 * i) Q μ 29 [some (.ref o), some (.int x), some (.int (nI i))] [] := by
    intro fu
    induction fu with
    | zero => intro _ _ _ h; exact absurd h (Nat.not_lt_zero _)
    | succ fu ih =>
      intro i μ ad hfu hi h0 h1 hL
      have ho2 : μ o = some (.inr (2, [.int (nI (wdN x)), .ref q, .int 0, .null, .null, .int 0, .null])) := by
        have h9 := hL.1 0 0 (Or.inl ⟨rfl, rfl⟩)
        rw [h0] at h9
        exact h9
      have hq9 : μ q = some (.inl (tc 2, 40, .inr (.inr (.inr (.inr (fun e => if e < i then some (ad 2 e) else none)))))) := by
        have h9 := hL.1 1 0 (Or.inr (Or.inl ⟨rfl, rfl⟩))
        rw [h1] at h9
        exact h9
      refine sx_iload_n C dC_init_29 rfl rfl ?_
      refine sx_aload_n C dC_init_30 rfl rfl ?_
      refine sx_getf (Cn := RC) (T := TC) (N := 7) C dC_init_31 (sx_in inC) rfl 1 (by decide) (sx_w C kF_C_21) (fun _ h => h) ho2 rfl ?_
      refine sx_alen (v := nI 40) C dC_init_34 2 rfl hq9 rfl ?_
      refine sx_icmp_ge (tgt := 61) C dC_init_35 (by decide) (fun c35 => ?_) (fun c35 => ?_)
      · have hc : 40 ≤ i := (nI_leI (a := 40) (by omega) (by omega)).mp c35
        obtain rfl : i = 40 := by omega
        have hS5 := ci_end h0 hL
        refine sx_aload_n C dC_init_61 rfl rfl ?_
        refine sx_iconst (v := 0) C dC_init_62 (by decide) ?_
        refine sx_putf (Cn := RC) (T := TC) (N := 7) (ty := .int) (fs' := [.int (nI (wdN x)), .ref q, .int 0, .null, .null, .int 0, .null]) C dC_init_63 (sx_in inC) tC tC_ok nC rfl 2 (by decide) (sx_w C kF_C_28) (fun _ h => h) rfl (by decide +kernel) rfl rfl ho2 (by simp) rfl ?_
        have hS6 := ST_x hS5 (by simp) (.inr (2, [.int (nI (wdN x)), .ref q, .int 0, .null, .null, .int 0, .null]))
        refine sx_aload_n C dC_init_66 rfl rfl ?_
        refine sx_bipush (v := 40) C dC_init_67 (by decide) ?_
        refine sx_bipush (v := 40) C dC_init_69 (by decide) ?_
        refine sx_mna (N := 40) (K := 40) (cA := tc 3) (cy := tc 0) C dC_init_71 (sx_w C kC_C_31) C.2.2.2.1.2.2.1.2 (sx_w C ka_int) 3 rfl 0 rfl rfl rfl (by decide) (by decide) (Nat.le_of_ble_eq_true rfl) (Nat.le_of_ble_eq_true rfl) (fun q5 r5 μ5 hr5 hq5 hf5 g1 g2 g3 => ?_)
        obtain ⟨ad5, ha5, hao, hS7⟩ := ST_rows hS6 hr5 hq5 hf5 g1 g2 g3
        refine sx_putF (Cn := RC) (T := TC) (N := 7) (ty := .array (.array .int)) (fs' := [.int (nI (wdN x)), .ref q, .int 0, .ref q5, .null, .int 0, .null]) C dC_init_75 (sx_in inC) tC tC_ok nC rfl 3 (by decide) (sx_w C kF_C_33) (fun _ h => h) rfl (hnm.trans rfl) rfl (by decide +kernel) rfl rfl (ST_o hS7 (by simp)) (by simp) rfl ?_
        have hS8 := ST_x hS7 (by simp) (.inr (2, [.int (nI (wdN x)), .ref q, .int 0, .ref q5, .null, .int 0, .null]))
        refine sx_aload_n C dC_init_78 rfl rfl ?_
        refine sx_new (Cn := RS) (T := TS) (N := 2) (ci := 1) (fs := [.int 0, .null]) C dC_init_79 (sx_in inS) tS tS_ok (sx_w C kC_C_36) (sx_w C kt_S) (sx_w C kn_S) rfl (by decide) (Nat.le_of_ble_eq_true rfl) (Nat.le_of_ble_eq_true rfl) (fun q7 hq7 => ?_)
        refine sx_dup C dC_init_82 rfl ?_
        refine sx_aload_n C dC_init_83 rfl rfl ?_
        refine sx_getf (Cn := RC) (T := TC) (N := 7) C dC_init_84 (sx_in inC) rfl 0 (by decide) (sx_w C kF_C_15) (fun _ h => h) (sx_upo (sx_nw (ST_o hS8 (by simp)) hq7) (ST_o hS8 (by simp))) rfl ?_
        obtain ⟨μ8, hμ8⟩ : ∃ z, z = sx_up μ5 o (.inr (2, [.int (nI (wdN x)), .ref q, .int 0, .ref q5, .null, .int 0, .null])) := ⟨_, rfl⟩
        refine sx_callv C (sx_runI (As := [.int (nI (wdN x))]) (rest := [.ref q7, .ref o]) (b := q7) C sx_all (c_S_init l D tc q7 (wdN x) _ (sx_up_s _ _ _)) (sx_cwI C 1 kM_C_38 ki_S_init kn_S kc_S_init rfl rfl rfl (by decide +kernel) ⟨Nat.le_of_ble_eq_true rfl, Nat.le_of_ble_eq_true rfl⟩) rfl rfl (Nat.le_of_ble_eq_true rfl) dC_init_87 ⟨Nat.le_of_ble_eq_true rfl, Nat.le_of_ble_eq_true rfl⟩) (fun μ7 h7 => ?_)
        obtain ⟨r7, hr7, hn7, hm⟩ := h7
        rw [sx_up_n _ _ hn7] at hr7
        rw [sx_com hn7, sx_up_up] at hm
        rw [← hμ8] at hm hS8 hq7 hr7
        have hS9 := ST_add hS8 hr7 8 rfl (by decide) (c := .inl (tc 1, 0, .inr (.inl (fun _ => 0)))) rfl (fun k j hk hL hn => by simp at hL; first | (rcases hL with rfl | rfl | rfl | rfl | rfl | rfl | rfl <;> simp [ceK, ceC, up2]) | (rcases hL with rfl | rfl | rfl | rfl | rfl | rfl | rfl | rfl <;> simp [ceK, ceC, up2]) | (rcases hL with rfl | rfl | rfl | rfl | rfl | rfl | rfl | rfl | rfl <;> simp [ceK, ceC, up2]) | (rcases hL with rfl | rfl | rfl | rfl | rfl | rfl | rfl | rfl | rfl | rfl <;> simp [ceK, ceC, up2]))
        have hS10 := ST_add (c := .inr (1, [.int (nI (wdN x)), .ref r7])) hS9 (show sx_up μ8 r7 _ q7 = none by rw [sx_up_n _ _ (Ne.symm hn7)]; exact hq7) 7 rfl (by decide) (by simp [ceK, ceC, up2]) (fun k j hk hL hn => by simp at hL; first | (rcases hL with rfl | rfl | rfl | rfl | rfl | rfl | rfl <;> simp [ceK, ceC, up2]) | (rcases hL with rfl | rfl | rfl | rfl | rfl | rfl | rfl | rfl <;> simp [ceK, ceC, up2]) | (rcases hL with rfl | rfl | rfl | rfl | rfl | rfl | rfl | rfl | rfl <;> simp [ceK, ceC, up2]) | (rcases hL with rfl | rfl | rfl | rfl | rfl | rfl | rfl | rfl | rfl | rfl <;> simp [ceK, ceC, up2]))
        rw [hm] at hS10
        refine sx_putF (Cn := RC) (T := TC) (N := 7) (ty := .object "EncodingChecks$WordSet") (fs' := [.int (nI (wdN x)), .ref q, .int 0, .ref q5, .ref q7, .int 0, .null]) C dC_init_90 (sx_in inC) tC tC_ok nC rfl 4 (by decide) (sx_w C kF_C_39) (fun _ h => h) rfl (hnm.trans rfl) rfl (by decide +kernel) rfl rfl (ST_o hS10 (by simp)) (by simp) rfl ?_
        have hS11 := ST_x hS10 (by simp) (.inr (2, [.int (nI (wdN x)), .ref q, .int 0, .ref q5, .ref q7, .int 0, .null]))
        refine sx_aload_n C dC_init_93 rfl rfl ?_
        refine sx_iconst (v := 0) C dC_init_94 (by decide) ?_
        refine sx_putf (Cn := RC) (T := TC) (N := 7) (ty := .boolean) (fs' := [.int (nI (wdN x)), .ref q, .int 0, .ref q5, .ref q7, .int 0, .null]) C dC_init_95 (sx_in inC) tC tC_ok nC rfl 5 (by decide) (sx_w C kF_C_43) (fun _ h => h) rfl (by decide +kernel) rfl rfl (ST_o hS11 (by simp)) (by simp) rfl ?_
        have hS12 := ST_x hS11 (by simp) (.inr (2, [.int (nI (wdN x)), .ref q, .int 0, .ref q5, .ref q7, .int 0, .null]))
        refine sx_aload_n C dC_init_98 rfl rfl ?_
        refine sx_bipush (v := 40) C dC_init_99 (by decide) ?_
        refine sx_newa (N := 40) (a0 := (40, .inr (.inl (fun _ => 0)))) C dC_init_101 (sx_w C ka_long) rfl 1 rfl sx_unJ (fun _ => by first | rfl | (rw [vp_cell_l]; rfl)) (rfl) (Nat.le_of_ble_eq_true rfl) (Nat.le_of_ble_eq_true rfl) (Nat.le_of_ble_eq_true rfl) (Nat.le_of_ble_eq_true rfl) (fun q9 hq9 => ?_)
        have hS13 := ST_add hS12 hq9 9 rfl (by decide) (c := .inl (tc 1, 40, .inr (.inl (fun _ => 0)))) rfl (fun k j hk hL hn => by simp at hL; first | (rcases hL with rfl | rfl | rfl | rfl | rfl | rfl | rfl <;> simp [ceK, ceC, up2]) | (rcases hL with rfl | rfl | rfl | rfl | rfl | rfl | rfl | rfl <;> simp [ceK, ceC, up2]) | (rcases hL with rfl | rfl | rfl | rfl | rfl | rfl | rfl | rfl | rfl <;> simp [ceK, ceC, up2]) | (rcases hL with rfl | rfl | rfl | rfl | rfl | rfl | rfl | rfl | rfl | rfl <;> simp [ceK, ceC, up2]))
        refine sx_putF (Cn := RC) (T := TC) (N := 7) (ty := .array .long) (fs' := [.int (nI (wdN x)), .ref q, .int 0, .ref q5, .ref q7, .int 0, .ref q9]) C dC_init_103 (sx_in inC) tC tC_ok nC rfl 6 (by decide) (sx_w C kF_C_47) (fun _ h => h) rfl (hnm.trans rfl) rfl (by decide +kernel) rfl rfl (ST_o hS13 (by simp)) (by simp) rfl ?_
        have hS14 := ST_x hS13 (by simp) (.inr (2, [.int (nI (wdN x)), .ref q, .int 0, .ref q5, .ref q7, .int 0, .ref q9]))
        exact sx_vretQ C hQ dC_init_106 hr hlocks (Nat.le_of_ble_eq_true rfl) (Nat.le_of_ble_eq_true rfl) (by
          have e1 : ad5 1 0 = q := (hao 1 0 (by decide) (by decide)).trans h1
          have e0 : ad5 0 0 = o := (hao 0 0 (by decide) (by decide)).trans h0
          have hS17 := ST_CS (L := [9, 7, 8, 0, 1, 2, 3, 4, 5, 6]) (ad := up2 (up2 (up2 ad5 8 0 r7) 7 0 q7) 9 0 q9) (by intro k hk; simp; omega) (by simpa [up2, e1, ha5] using hS14)
          exact ⟨⟨wd_le x, Nat.zero_le _, fun i hi => absurd hi (Nat.not_lt_zero _), fun i hi => absurd hi (Nat.not_lt_zero _)⟩, _, _, _, _, _, _, _, _, _, _, _, by simp [up2, e0], hS17, ⟨fun i _ => Or.inl rfl, fun i hi => absurd hi (Nat.not_lt_zero _), fun i hi => absurd hi (Nat.not_lt_zero _), Or.inl rfl, fun z => (by cases z), fun i hi => absurd hi (Nat.not_lt_zero _)⟩⟩)
      · have hc : ¬ 40 ≤ i := fun h => c35 ((nI_leI (a := 40) (by omega) (by omega)).mpr h)
        refine sx_aload_n C dC_init_38 rfl rfl ?_
        refine sx_getf (Cn := RC) (T := TC) (N := 7) C dC_init_39 (sx_in inC) rfl 1 (by decide) (sx_w C kF_C_21) (fun _ h => h) ho2 rfl ?_
        refine sx_iload_n C dC_init_42 rfl rfl ?_
        refine sx_new (Cn := RE) (T := TE) (N := 6) (ci := 0) (fs := [.null, .int 0, .int 0, .int 0, .int 0, .int 0]) C dC_init_43 (sx_in inE) tE tE_ok (sx_w C kC_C_19) (sx_w C kt_E) (sx_w C kn_E) rfl (by decide) (by simp only [rmL]; omega) (by simp only [rmL]; omega) (fun qe hqe => ?_)
        refine sx_dup C dC_init_46 rfl ?_
        refine sx_aload_n C dC_init_47 rfl rfl ?_
        refine sx_getf (Cn := RC) (T := TC) (N := 7) C dC_init_48 (sx_in inC) rfl 0 (by decide) (sx_w C kF_C_15) (fun _ h => h) (sx_upo (sx_nw ho2 hqe) ho2) rfl ?_
        refine sx_callv C (sx_runI (As := [.int (nI (wdN x))]) (rest := [.ref qe, .int (nI i), .ref q]) (b := qe) C sx_all (c_E_init l D tc qe (wdN x) _ (sx_up_s _ _ _)) (sx_cwI C 1 kM_C_25 ki_E_init kn_E kc_E_init rfl rfl rfl (by decide +kernel) ⟨Nat.le_of_ble_eq_true rfl, Nat.le_of_ble_eq_true rfl⟩) rfl rfl (Nat.le_of_ble_eq_true rfl) dC_init_51 ⟨by simp only [rmL]; omega, by simp only [rmL]; omega⟩) (fun μ3 h3 => ?_)
        obtain ⟨q2, r2, hq2, hr2, hn1, hn2, hn3, hm⟩ := h3
        rw [sx_up_n _ _ hn2] at hq2
        rw [sx_up_n _ _ hn3] at hr2
        have hm2 : sx_up (sx_up (sx_up μ r2 (.inl (tc 1, 0, .inr (.inl (fun _ => 0))))) q2 (.inr (1, [.int (nI (wdN x)), .ref r2]))) qe (.inr (0, [.ref q2, .int 0, .int 0, .int 0, .int 0, .int 0])) = μ3 := by
          rw [← hm]
          funext a
          by_cases e1 : a = qe
          · subst e1; rw [sx_up_s, sx_up_s]
          · rw [sx_up_n _ _ e1, sx_up_n _ _ e1]
            by_cases e2 : a = q2
            · subst e2; rw [sx_up_s, sx_up_s]
            · rw [sx_up_n _ _ e2, sx_up_n _ _ e2]
              by_cases e3 : a = r2
              · subst e3; rw [sx_up_s, sx_up_s]
              · rw [sx_up_n _ _ e3, sx_up_n _ _ e3, sx_up_n _ _ e1]
        subst hm2
        refine sx_aast (j := i) (ci := 0) C dC_init_54 2 rfl rfl (sx_upo (sx_nw hq9 hqe) (sx_upo (sx_nw hq9 hq2) (sx_upo (sx_nw hq9 hr2) hq9))) (sx_up_s _ _ _) (rfl) (by omega) (Nat.le_of_ble_eq_true rfl) ?_
        refine sx_iinc (v := nI (i + 1)) (lv' := [some (.ref o), some (.int x), some (.int (nI (i + 1)))]) C dC_init_55 rfl (nI_1 i) (by decide) rfl rfl ?_
        refine sx_goto (tgt := 29) C dC_init_58 (by decide) ?_
        obtain ⟨ad9, a1, a2, a3⟩ := ci_step hL hqe hq2 hr2 hn1 hn2 hn3
        rw [h1] at a3
        exact sx_widen (by omega) (by omega) (ih (i + 1) _ ad9 (by omega) (by omega) (a1.trans h0) (a2.trans h1) a3)
  have hne9 : o ≠ q := sx_nw (sx_up_s _ _ _) hq
  have hA1 : (sx_up (sx_up (sx_up μ o (.inr (2, [.int (nI (wdN x)), .null, .int 0, .null, .null, .int 0, .null]))) q (.inl (tc 2, 40, .inr (.inr (.inr (.inr (fun _ => none))))))) o (.inr (2, [.int (nI (wdN x)), .ref q, .int 0, .null, .null, .int 0, .null]))) o = some (.inr (2, [.int (nI (wdN x)), .ref q, .int 0, .null, .null, .int 0, .null])) := sx_up_s _ _ _
  have hA2 : (sx_up (sx_up (sx_up μ o (.inr (2, [.int (nI (wdN x)), .null, .int 0, .null, .null, .int 0, .null]))) q (.inl (tc 2, 40, .inr (.inr (.inr (.inr (fun _ => none))))))) o (.inr (2, [.int (nI (wdN x)), .ref q, .int 0, .null, .null, .int 0, .null]))) q = some (.inl (tc 2, 40, .inr (.inr (.inr (.inr (fun _ => none)))))) := sx_upo (Ne.symm hne9) (sx_up_s _ _ _)
  exact L29 _ 0 _ (fun k _ => if k = 0 then o else q) (Nat.lt_succ_self _) (Nat.zero_le _) rfl rfl (ci_0 hA1 hA2 (Ne.symm hne9))
