/-! the law's loop, and its start -/
theorem lw_sub6 {L : Nat} (h : L ≤ 3073) : (nI L - 6).toInt = (L : Int) - 6 := by
  rw [Int32.toInt_sub, nI_toInt (by omega), show (6 : Int32).toInt = 6 from rfl, Int.bmod_eq_of_le (by omega) (by omega)]
theorem lw_gt {L t : Nat} (h : L ≤ 3073) (ht : 6 * t ≤ L) : nI L - 6 < nI (1 + 6 * t) ↔ ¬ 1 + 6 * t + 6 ≤ L := by
  rw [Int32.lt_iff_toInt_lt, lw_sub6 h, nI_toInt (by omega)]
  omega
theorem lw_31 (v : Int32) : ∃ k, k < 32 ∧ v &&& 31 = nI k := by
  obtain ⟨n, hn, rfl⟩ := wb_of32 v
  exact ⟨n % 2 ^ 5, Nat.mod_lt _ (by decide), jb_low (k := 5) (by decide) (by decide)⟩
theorem st_in {μ1 : sx_M} {mo : Nat} {cell : va_E} : ∀ q e, sx_up (fun _ => none) mo cell q = some e → sx_up μ1 mo cell q = some e := fun q e h => by
  by_cases z : q = mo
  · subst z
    rw [sx_up_s] at h ⊢
    exact h
  · rw [sx_up_n _ _ z] at h
    cases h
theorem LW_start {μ1 ν' : sx_M} {mo o : Nat} {cell c : va_E} (hmo : μ1 mo = none) (hf : ∀ q e, sx_up μ1 mo cell q = some e → sx_up (fun _ => none) mo cell q = none → ν' q = none) (ho : sx_ov (sx_up μ1 mo cell) (sx_up (fun _ => none) mo cell) ν' o = none) : LW (sx_up (sx_ov (sx_up μ1 mo cell) (sx_up (fun _ => none) mo cell) ν') o c) μ1 ν' o c := by
  have key : ∀ q e, μ1 q = some e → ν' q = none ∧ sx_ov (sx_up μ1 mo cell) (sx_up (fun _ => none) mo cell) ν' q = some e := fun q e hq => by
    have hne : q ≠ mo := fun z => by rw [z, hmo] at hq; cases hq
    have h1 : sx_up μ1 mo cell q = some e := by rw [sx_up_n _ _ hne]; exact hq
    have h2 : sx_up (fun _ => none) mo cell q = none := by rw [sx_up_n _ _ hne]
    have h3 := hf q e h1 h2
    exact ⟨h3, by rw [sx_ov_out h3 h2]; exact h1⟩
  have n1 : μ1 o = none := by
    cases z : μ1 o with
    | none => rfl
    | some e => rw [(key o e z).2] at ho; cases ho
  have n2 : ν' o = none := by
    cases z : ν' o with
    | none => rfl
    | some e => rw [sx_ov_in z] at ho; cases ho
  refine ⟨fun q e hq => ?_, fun q e hq => ?_, sx_up_s _ _ _, fun q e hq => (key q e hq).1, n1, n2⟩
  · rw [sx_up_n _ _ (fun z => by rw [z, n1] at hq; cases hq)]
    exact (key q e hq).2
  · rw [sx_up_n _ _ (fun z => by rw [z, n2] at hq; cases hq)]
    exact sx_ov_in hq

set_option maxHeartbeats 4000000 in
set_option maxRecDepth 100000 in
theorem law_loop {p : Program} {e : Env} {s : State} {m : MethodId} {below : List Frame} {meth : Method} {c : Code} {Q : State → Prop} {c0 : Cond} (l : Launch) (hl : l.stackTraces = false) (D : va_G) (tc : Nat → ClassId) {b L : Nat} {xs : Nat → Int32} (hL : L ≤ 3073) {A : Nat → Prop} (hA : ∀ q, A q → s.heap.size ≤ q) (C : sx_C p s m [Value.ref b].toArray c code 7 RL (c0 :: sxW) D sxCl (sxT tc) sxE A) (hX : sxX b L xs A s s.heap) (hQ : Q = lw_Z below #[Value.ref b] s) (hr : meth.sig.returnType = ret) (hlocks : meth.locks = false) (x mo o W : Nat) : ∀ (fu : Nat) (t u : Nat) (S : Nat → Nat → Bool) (ed : Nat → Nat → Nat) (th : Int32) (f : Nat → Int64) (μ νc νm : sx_M), L - 6 * t < fu → 6 * t ≤ L → LW μ νc νm o (oc tc f) → CInv tc νc x W u S ed → MInv tc νm mo W u S ed th → SW p l e room_1 s m [Value.ref b].toArray below meth c 7 D sxCl A (178 + 4 * t) (90000 + 1042 * t) Q μ 33 [some (.ref b), some (.ref x), some (.ref mo), some (.ref o), some (.int (nI (1 + 6 * t))), none, none] [] := by
  intro fu
  induction fu with
  | zero => intro t _ _ _ _ _ _ _ _ h; exact absurd h (Nat.not_lt_zero _)
  | succ fu ih =>
    intro t u S ed th f μ νc νm hfu ht0 hW hC hM
    refine sx_iload C dL_law_33 rfl ?_
    refine sx_aload_n C dL_law_35 rfl rfl ?_
    refine sx_slen C hX dL_law_36 ?_
    refine sx_bipush (v := 6) C dL_law_37 (by decide) ?_
    refine sx_isub C dL_law_39 ?_
    refine sx_icmp_gt (tgt := 1234) C dL_law_40 (by decide) (fun c40 => ?_) (fun c40 => ?_)
    · have ht : ¬ 1 + 6 * t + 6 ≤ L := (lw_gt hL ht0).mp c40
      refine sx_iconst (v := 1) C dL_law_1234 (by decide) ?_
      exact sx_lawret hQ hA C hr hlocks dL_law_1235 (by omega) (by omega)
    · have ht : 1 + 6 * t + 6 ≤ L := Classical.not_not.mp (fun z => c40 ((lw_gt hL ht0).mpr z))
      refine sx_aload_n C dL_law_43 rfl rfl ?_
      refine sx_iload C dL_law_44 rfl ?_
      refine sx_sld (j := 1 + 6 * t) C hX dL_law_46 rfl (by omega) (by omega) ?_
      refine sx_bipush (v := 31) C dL_law_47 (by decide) ?_
      refine sx_iand C dL_law_49 ?_
      obtain ⟨k, hk, hv⟩ := lw_31 (xs (1 + 6 * t))
      refine sx_eqi (nI k) hv ?_
      have K : ∀ (μ' νc' νm' : sx_M) (f' : Nat → Int64) (u' : Nat) (S' : Nat → Nat → Bool) (ed' : Nat → Nat → Nat) (th' : Int32), LW μ' νc' νm' o (oc tc f') → CInv tc νc' x W u' S' ed' → MInv tc νm' mo W u' S' ed' th' → SW p l e room_1 s m [Value.ref b].toArray below meth c 7 D sxCl A (178 + 4 * (t + 1)) (90000 + 1042 * (t + 1)) Q μ' 1228 [some (.ref b), some (.ref x), some (.ref mo), some (.ref o), some (.int (nI (1 + 6 * t))), none, none] [] := by
        intro μ' νc' νm' f' u' S' ed' th' hW' hC' hM'
        refine sx_iinc (v := nI (1 + 6 * (t + 1))) (lv' := [some (.ref b), some (.ref x), some (.ref mo), some (.ref o), some (.int (nI (1 + 6 * (t + 1)))), none, none]) C dL_law_1228 rfl (by rw [show 1 + 6 * (t + 1) = 1 + 6 * t + 6 by omega]; exact nI_add _ 6) (by decide) rfl rfl ?_
        refine sx_goto (tgt := 33) C dL_law_1231 (by decide) ?_
        exact ih (t + 1) u' S' ed' th' f' μ' νc' νm' (by omega) (by omega) hW' hC' hM'
      rcases (show k = 0 ∨ k = 1 ∨ k = 2 ∨ k = 3 ∨ k = 4 ∨ k = 5 ∨ k = 6 ∨ k = 7 ∨ k = 8 ∨ k = 9 ∨ k = 10 ∨ k = 11 ∨ k = 12 ∨ k = 13 ∨ k = 14 ∨ k = 15 ∨ k = 16 ∨ k = 17 ∨ k = 18 ∨ 19 ≤ k by omega) with rfl | rfl | rfl | rfl | rfl | rfl | rfl | rfl | rfl | rfl | rfl | rfl | rfl | rfl | rfl | rfl | rfl | rfl | rfl | hk19
      · exact sx_tableIn (off := 90) (tgt := 140) C dL_law_50 (by decide) (by decide) rfl (by decide) (lc_0 l hl D tc hL C hX t ht x mo o W u S ed th f μ νc νm hW hC hM K)
      · exact sx_tableIn (off := 222) (tgt := 272) C dL_law_50 (by decide) (by decide) rfl (by decide) (lc_1 l hl D tc hL C hX t ht x mo o W u S ed th f μ νc νm hW hC hM K)
      · exact sx_tableIn (off := 333) (tgt := 383) C dL_law_50 (by decide) (by decide) rfl (by decide) (lc_2 l hl D tc hL C hX t ht x mo o W u S ed th f μ νc νm hW hC hM K)
      · exact sx_tableIn (off := 413) (tgt := 463) C dL_law_50 (by decide) (by decide) rfl (by decide) (lc_3 l hl D tc hL C hX t ht x mo o W u S ed th f μ νc νm hW hC hM K)
      · exact sx_tableIn (off := 481) (tgt := 531) C dL_law_50 (by decide) (by decide) rfl (by decide) (lc_4 l hl D tc hL C hX t ht x mo o W u S ed th f μ νc νm hW hC hM K)
      · exact sx_tableIn (off := 494) (tgt := 544) C dL_law_50 (by decide) (by decide) rfl (by decide) (lc_5 l hl D tc hL C hX t ht x mo o W u S ed th f μ νc νm hW hC hM K)
      · exact sx_tableIn (off := 507) (tgt := 557) C dL_law_50 (by decide) (by decide) rfl (by decide) (lc_6 l hl D tc hL C hX t ht x mo o W u S ed th f μ νc νm hW hC hM K)
      · exact sx_tableIn (off := 575) (tgt := 625) C dL_law_50 (by decide) (by decide) rfl (by decide) (lc_7 l hl D tc hL C hX t ht x mo o W u S ed th f μ νc νm hW hC hM K)
      · exact sx_tableIn (off := 643) (tgt := 693) C dL_law_50 (by decide) (by decide) rfl (by decide) (lc_8 l hl D tc hL C hX t ht x mo o W u S ed th f μ νc νm hW hC hM K)
      · exact sx_tableIn (off := 699) (tgt := 749) C dL_law_50 (by decide) (by decide) rfl (by decide) (lc_9 l hl D tc hL C hX t ht x mo o W u S ed th f μ νc νm hW hC hM K)
      · exact sx_tableIn (off := 712) (tgt := 762) C dL_law_50 (by decide) (by decide) rfl (by decide) (lc_10 l hl D tc hL C hX t ht x mo o W u S ed th f μ νc νm hW hC hM K)
      · exact sx_tableIn (off := 768) (tgt := 818) C dL_law_50 (by decide) (by decide) rfl (by decide) (lc_11 l hl D tc hL C hX t ht x mo o W u S ed th f μ νc νm hW hC hM K)
      · exact sx_tableIn (off := 836) (tgt := 886) C dL_law_50 (by decide) (by decide) rfl (by decide) (lc_12 l hl D tc hL C hX t ht x mo o W u S ed th f μ νc νm hW hC hM K)
      · exact sx_tableIn (off := 892) (tgt := 942) C dL_law_50 (by decide) (by decide) rfl (by decide) (lc_13 l hl D tc hL C hX t ht x mo o W u S ed th f μ νc νm hW hC hM K)
      · exact sx_tableIn (off := 905) (tgt := 955) C dL_law_50 (by decide) (by decide) rfl (by decide) (lc_14 l hl D tc hL C hX t ht x mo o W u S ed th f μ νc νm hW hC hM K)
      · exact sx_tableIn (off := 961) (tgt := 1011) C dL_law_50 (by decide) (by decide) rfl (by decide) (lc_15 l hl D tc hL C hX t ht x mo o W u S ed th f μ νc νm hW hC hM K)
      · exact sx_tableIn (off := 1041) (tgt := 1091) C dL_law_50 (by decide) (by decide) rfl (by decide) (lc_16 l hl D tc hL C hX t ht x mo o W u S ed th f μ νc νm hW hC hM K)
      · exact sx_tableIn (off := 1097) (tgt := 1147) C dL_law_50 (by decide) (by decide) rfl (by decide) (lc_17 l hl D tc hL C hX t ht x mo o W u S ed th f μ νc νm hW hC hM K)
      · exact sx_tableIn (off := 1153) (tgt := 1203) C dL_law_50 (by decide) (by decide) rfl (by decide) (lc_18 l hl D tc hL C hX t ht x mo o W u S ed th f μ νc νm hW hC hM K)
      · exact sx_tableOut (tgt := 1228) C dL_law_50 (Or.inr (by rw [nI_toInt (by omega)]; omega)) (by decide) (sx_widen (by omega) (by omega) (K μ νc νm f u S ed th hW hC hM))

set_option maxHeartbeats 4000000 in
set_option maxRecDepth 100000 in
/-- THE LAW, from its entry -/
theorem whole_start {p : Program} {e : Env} {s : State} {m : MethodId} {below : List Frame} {meth : Method} {c : Code} (l : Launch) (hl : l.stackTraces = false) {b L : Nat} {xs : Nat → Int32} (hL : L ≤ 3073) (C0 : lw_At p s m meth c b L xs) : W p l e room_1 s m #[Value.ref b] below meth c s.heap [] 0 0 (lw_Z below #[Value.ref b] s) (entryFrame m ([Value.ref b] : List Value).toArray 7) := by
  obtain ⟨hx, hb, hr, hml, hown, hts, hXs, hbl, hlocks, hgv⟩ := id C0
  obtain ⟨D, tc, hK⟩ := sxK_start hts
  have hE := sxE_start hts hgv
  obtain ⟨A, hAe⟩ : ∃ A : Nat → Prop, A = fun q => s.heap.size ≤ q := ⟨_, rfl⟩
  rw [← hAe] at hE
  have hA : ∀ q, A q → s.heap.size ≤ q := fun q h => by rw [hAe] at h; exact h
  have hA2 : ∀ q, s.heap.size ≤ q → A q := fun q h => by rw [hAe]; exact h
  have hF : CallFix p m c code 7 s [Value.ref b].toArray (Cond.initialized RL :: sxW) RL := ⟨hx, hb, hml, hown, fun w hw => (List.mem_cons.mp hw).elim (fun z => by rw [z]; exact hts _ (sxW_tbl kn_L)) (fun z => hts w (sxW_tbl z))⟩
  have C : sx_C p s m [Value.ref b].toArray c code 7 RL (Cond.initialized RL :: sxW) D sxCl (sxT tc) sxE A := ⟨hF, hK, hA2, hE, sxE_ok⟩
  have hX : sxX b L xs A s s.heap := ⟨hXs, hbl, fun z => absurd (hA b z) (Nat.not_le.mpr hbl)⟩
  have C9 : sx_C p s m [Value.ref b].toArray c code 7 RL (Cond.initialized RL :: sxW) D sxCl (sxT tc) (sxX b L xs) A := ⟨hF, hK, hA2, hX, sxX_ok b L xs⟩
  obtain ⟨Q, hQ⟩ : ∃ Q : State → Prop, Q = lw_Z below #[Value.ref b] s := ⟨_, rfl⟩
  rw [← hQ, lg_entry_eq]
  have main : SW p l e room_1 s m [Value.ref b].toArray below meth c 7 D sxCl A 0 0 Q (fun _ => none) 0 [some (.ref b), none, none, none, none, none, none] [] := by
    refine sx_new (Cn := RC) (T := TC) (N := 7) (ci := 2) (fs := [.int 0, .null, .int 0, .null, .null, .int 0, .null]) C dL_law_0 (sx_in inC) tC tC_ok (sx_w C kC_L_8) (sx_w C kt_C) (sx_w C kn_C) rfl (by decide) (Nat.le_of_ble_eq_true rfl) (Nat.le_of_ble_eq_true rfl) (fun x hx => ?_)
    refine sx_dup C dL_law_3 rfl ?_
    refine sx_aload_n C dL_law_4 rfl rfl ?_
    refine sx_iconst (v := 0) C dL_law_5 (by decide) ?_
    refine sx_eqi (nI 0) (rfl) ?_
    refine sx_callFi C9 (fun q e h => by cases h) (sx_runS (As := [.ref b, .int (nI 0)]) (rest := [.ref x, .ref x]) C9 (fun q e h => by cases h) (c_L_cell l D tc b L 0 xs (fun _ => none) (by omega) (by decide)) (sx_cwS C 2 kM_L_62 ks_L_cell kn_L kc_L_cell rfl rfl (by decide +kernel) ⟨Nat.le_of_ble_eq_true rfl, Nat.le_of_ble_eq_true rfl⟩) rfl rfl (Nat.le_of_ble_eq_true rfl) dL_law_6 ⟨Nat.le_of_ble_eq_true rfl, Nat.le_of_ble_eq_true rfl⟩) (fun r1 ν1 h1 hf1 => ?_)
    obtain ⟨rfl, h1⟩ := h1
    refine sx_mu _ sx_ov_0 ?_
    refine sx_callv C (sx_runI (As := [.int r1]) (rest := [.ref x]) (b := x) C sx_all (c_C_init l D tc x r1 _ (sx_up_s _ _ _)) (sx_cwI C 1 kM_L_68 ki_C_init kn_C kc_C_init rfl rfl rfl (by decide +kernel) ⟨Nat.le_of_ble_eq_true rfl, Nat.le_of_ble_eq_true rfl⟩) rfl rfl (Nat.le_of_ble_eq_true rfl) dL_law_9 ⟨Nat.le_of_ble_eq_true rfl, Nat.le_of_ble_eq_true rfl⟩) (fun μ1 hC => ?_)
    refine sx_astore_n (lv' := [some (.ref b), some (.ref x), none, none, none, none, none]) C dL_law_12 rfl (by decide) rfl rfl ?_
    refine sx_new (Cn := RM) (T := TM) (N := 17) (ci := 3) (fs := [.int 0, .int 0, .int 0, .int 0, .int 0, .null, .null, .null, .null, .null, .null, .int 0, .null, .null, .null, .int 0, .int 0]) C dL_law_13 (sx_in inM) tM tM_ok (sx_w C kC_L_71) (sx_w C kt_M) (sx_w C kn_M) rfl (by decide) (Nat.le_of_ble_eq_true rfl) (Nat.le_of_ble_eq_true rfl) (fun mo hmo => ?_)
    refine sx_dup C dL_law_16 rfl ?_
    refine sx_aload_n C dL_law_17 rfl rfl ?_
    refine sx_iconst (v := 0) C dL_law_18 (by decide) ?_
    refine sx_eqi (nI 0) (rfl) ?_
    refine sx_callFi C9 (fun q e h => by cases h) (sx_runS (As := [.ref b, .int (nI 0)]) (rest := [.ref mo, .ref mo]) C9 (fun q e h => by cases h) (c_L_cell l D tc b L 0 xs (fun _ => none) (by omega) (by decide)) (sx_cwS C 2 kM_L_62 ks_L_cell kn_L kc_L_cell rfl rfl (by decide +kernel) ⟨Nat.le_of_ble_eq_true rfl, Nat.le_of_ble_eq_true rfl⟩) rfl rfl (Nat.le_of_ble_eq_true rfl) dL_law_19 ⟨Nat.le_of_ble_eq_true rfl, Nat.le_of_ble_eq_true rfl⟩) (fun r2 ν2 h2 hf2 => ?_)
    obtain ⟨rfl, h2⟩ := h2
    refine sx_mu _ sx_ov_0 ?_
    refine sx_callFv C st_in (sx_runI (As := [.int r2]) (rest := [.ref mo]) (b := mo) C st_in (c_M_init l D tc mo r2 (sx_up (fun _ => none) mo (.inr (3, [.int 0, .int 0, .int 0, .int 0, .int 0, .null, .null, .null, .null, .null, .null, .int 0, .null, .null, .null, .int 0, .int 0]))) (sx_up_s _ _ _)) (sx_cwI C 1 kM_L_73 ki_M_init kn_M kc_M_init rfl rfl rfl (by decide +kernel) ⟨Nat.le_of_ble_eq_true rfl, Nat.le_of_ble_eq_true rfl⟩) rfl rfl (Nat.le_of_ble_eq_true rfl) dL_law_22 ⟨Nat.le_of_ble_eq_true rfl, Nat.le_of_ble_eq_true rfl⟩) (fun ν3 hM hf3 => ?_)
    have he : r2 = r1 := h2.trans h1.symm
    subst he
    refine sx_astore_n (lv' := [some (.ref b), some (.ref x), some (.ref mo), none, none, none, none]) C dL_law_25 rfl (by decide) rfl rfl ?_
    refine sx_iconst (v := 1) C dL_law_26 (by decide) ?_
    refine sx_newa (N := 1) (a0 := (1, .inr (.inl (fun _ => 0)))) C dL_law_27 (sx_w C ka_long) rfl 1 rfl sx_unJ (fun _ => by first | rfl | (rw [vp_cell_l]; rfl)) (rfl) (Nat.le_of_ble_eq_true rfl) (Nat.le_of_ble_eq_true rfl) (Nat.le_of_ble_eq_true rfl) (Nat.le_of_ble_eq_true rfl) (fun o ho => ?_)
    have hW := LW_start (c := oc tc (fun _ => 0)) hmo hf3 ho
    refine sx_astore_n (lv' := [some (.ref b), some (.ref x), some (.ref mo), some (.ref o), none, none, none]) C dL_law_29 rfl (by decide) rfl rfl ?_
    refine sx_iconst (v := 1) C dL_law_30 (by decide) ?_
    refine sx_eqi (nI (1 + 6 * 0)) (rfl) ?_
    refine sx_istore (lv' := [some (.ref b), some (.ref x), some (.ref mo), some (.ref o), some (.int (nI (1 + 6 * 0))), none, none]) C dL_law_31 (by decide) rfl rfl ?_
    exact sx_widen (k := 178 + 4 * 0) (n := 90000 + 1042 * 0) (Nat.le_of_ble_eq_true rfl) (Nat.le_of_ble_eq_true rfl) (law_loop l hl D tc hL hA C hX hQ hr hlocks x mo o (wdN r2) (L + 1) 0 0 (fun _ _ => false) (fun _ _ => 0) 0 (fun _ => 0) _ _ _ (by omega) (by omega) hW hC hM)
  exact main s.heap [] _ sx_H_nil va_S.rf (sx_V_entry [Value.ref b] (Nat.le_of_ble_eq_true rfl) 6 rfl)
