/-! the reference's constructor -/
def zcN : Nat → Nat
  | 6 => 83968
  | 7 => 1600
  | 8 => 1600
  | _ => 40
def zcM (tc : Nat → ClassId) (k : Nat) : va_E := .inl (tc (if k = 8 then 4 else 0), zcN k, .inl (fun _ => 0))
def MI (tc : Nat → ClassId) (μ : sx_M) (L : List Nat) (X : va_E) : Prop := PM μ (fun k i => k < L.length ∧ i = 0) (fun k _ => L.getD k 0) (fun k _ => if k = 0 then X else zcM tc k)
theorem mi_0 {tc : Nat → ClassId} {μ : sx_M} {o : Nat} {X : va_E} (h : μ o = some X) : MI tc μ [o] X := by
  refine ⟨fun k i hk => ?_, fun k i k' i' hk hk' _ => ?_⟩
  · obtain ⟨h1, -⟩ := hk
    have e : k = 0 := by simpa using h1
    subst e
    exact h
  · obtain ⟨h1, h2⟩ := hk
    obtain ⟨h3, h4⟩ := hk'
    simp at h1 h3
    exact ⟨by omega, by omega⟩
theorem mi_add {tc : Nat → ClassId} {μ : sx_M} {L : List Nat} {X : va_E} {q : Nat} (h : MI tc μ L X) (hL : 0 < L.length) (hq : μ q = none) {c : va_E} (hc : c = zcM tc L.length) : MI tc (sx_up μ q c) (L ++ [q]) X := by
  refine PM_add h hq L.length 0 (fun k i hk hn => ?_) ?_ ?_
  · obtain ⟨h1, h2⟩ := hk
    rw [List.length_append, List.length_singleton] at h1
    have hk : k < L.length := by
      rcases Nat.lt_or_ge k L.length with z | z
      · exact z
      · exact absurd ⟨by omega, h2⟩ hn
    refine ⟨⟨hk, h2⟩, ?_, rfl⟩
    show (L ++ [q]).getD k 0 = L.getD k 0
    rw [List.getD_eq_getElem?_getD, List.getD_eq_getElem?_getD, List.getElem?_append_left hk]
  · show (L ++ [q]).getD L.length 0 = q
    rw [List.getD_eq_getElem?_getD, List.getElem?_append_right (Nat.le_refl _), Nat.sub_self]
    rfl
  · show (if L.length = 0 then X else zcM tc L.length) = c
    rw [if_neg (by omega), hc]
theorem mi_x {tc : Nat → ClassId} {μ : sx_M} {L : List Nat} {X : va_E} {o : Nat} (h : MI tc μ (o :: L) X) (X' : va_E) : MI tc (sx_up μ o X') (o :: L) X' :=
  PM_up (ce' := fun k _ => if k = 0 then X' else zcM tc k) h 0 0 ⟨Nat.succ_pos _, rfl⟩ (fun k i hk hn => by
    have e : ¬ k = 0 := fun z => hn ⟨z, hk.2⟩
    show (if k = 0 then X' else zcM tc k) = (if k = 0 then X else zcM tc k)
    rw [if_neg e, if_neg e])
theorem mi_o {tc : Nat → ClassId} {μ : sx_M} {L : List Nat} {X : va_E} {o : Nat} (h : MI tc μ (o :: L) X) : μ o = some X := h.1 0 0 ⟨Nat.succ_pos _, rfl⟩
theorem mi_end {tc : Nat → ClassId} {μ : sx_M} {W o q1 q2 q3 q4 q5 q6 q7 q8 q9 : Nat} (hW : 1 ≤ W ∧ W ≤ 16) (h : MI tc μ [o, q1, q2, q3, q4, q5, q6, q7, q8, q9] (.inr (3, [.int 0, .int (nI W), .int (nI (nRw W)), .int (alM W), .int 0, .ref q1, .ref q2, .ref q3, .ref q4, .ref q5, .ref q6, .int 0, .ref q7, .ref q8, .ref q9, .int 0, .int 0]))) : MInv tc μ o W 0 (fun _ _ => false) (fun _ _ => 0) 0 := by
  refine ⟨⟨hW, Nat.zero_le _, fun i hi => absurd hi (Nat.not_lt_zero _), fun i hi => absurd hi (Nat.not_lt_zero _)⟩, fun k => [o, q1, q2, q3, q4, q5, q6, q7, q8, q9].getD k 0, false, 0, 0, fun _ => 0, fun _ => 0, fun _ => 0, fun _ => 0, fun _ => 0, fun _ => 0, fun _ => 0, fun _ => 0, fun _ => 0, rfl, ?_, fun i hi => absurd hi (Nat.not_lt_zero _), fun i hi => absurd hi (Nat.not_lt_zero _), fun z => (by cases z)⟩
  refine PM_mono h (fun k i hk => ⟨hk, rfl, ?_⟩)
  obtain ⟨hk1, hk2⟩ := hk
  rcases k with _ | _ | _ | _ | _ | _ | _ | _ | _ | _ | k <;> first | rfl | (exfalso; omega)
theorem mi_r1 : ∀ W, W < 17 → nI W ≤ 5 → (1 : Int32) = nI (nRw W) := by decide +kernel
theorem mi_r2 : ∀ W, W < 17 → ¬ nI W ≤ 5 → jshl 1 (nI W - 5) = nI (nRw W) := by decide +kernel
theorem mi_a1 : ∀ W, W < 17 → nI W ≤ 4 → jshl 1 (jshl 1 (nI W)) - 1 = alM W := by decide +kernel
theorem mi_a2 : ∀ W, W < 17 → ¬ nI W ≤ 4 → (-1 : Int32) = alM W := by decide +kernel

set_option maxHeartbeats 4000000 in
set_option maxRecDepth 100000 in
/-- EncodingChecksModel(int) -/
theorem c_M_init (l : Launch) (D : va_G) (tc : Nat → ClassId) (o : Nat) (x : Int32) (μ : sx_M) (ho : μ o = some (.inr (3, [.int 0, .int 0, .int 0, .int 0, .int 0, .null, .null, .null, .null, .null, .null, .int 0, .null, .null, .null, .int 0, .int 0]))) : sx_Mv l yM_init (Cond.code yM_init cM_init 2 none :: sxW) (rmL 1 9 87408) D sxCl (sxT tc) sxE [.ref o, .int x] μ (fun μ' => MInv tc μ' o (wdN x) 0 (fun _ _ => false) (fun _ _ => 0) 0) 9 87408 := by
  have hI0 := mi_0 (tc := tc) ho
  have hwd := wd_le x
  refine sx_ofvQ (cc := cM_init) (maxL := 2) (ret := none) (own := RM) sxE_ok (by decide) rfl rfl (Nat.le_of_ble_eq_true rfl) [some (.ref o), some (.int x)] 0 rfl (fun p e s m below meth c A Q hQ C hr hlocks hnm => ?_)
  refine sx_aload_n C dM_init_0 rfl rfl ?_
  refine sx_objInit C dM_init_1 (sx_w C kM_M_1) (sx_w C ki_obj) (sx_w C kc_obj) (Nat.le_of_ble_eq_true rfl) (Nat.le_of_ble_eq_true rfl) ?_
  refine sx_aload_n C dM_init_4 rfl rfl ?_
  refine sx_bipush (v := 40) C dM_init_5 (by decide) ?_
  refine sx_newa (N := 40) (a0 := (40, .inl (fun _ => 0))) C dM_init_7 (sx_w C ka_int) rfl 0 rfl sx_unI (fun _ => by first | rfl | (rw [vp_cell_i]; rfl)) (rfl) (Nat.le_of_ble_eq_true rfl) (Nat.le_of_ble_eq_true rfl) (Nat.le_of_ble_eq_true rfl) (Nat.le_of_ble_eq_true rfl) (fun q1 hq1 => ?_)
  have hA1 := mi_add hI0 (Nat.succ_pos _) hq1 rfl
  refine sx_putF (Cn := RM) (T := TM) (N := 17) (ty := .array .int) (fs' := [.int 0, .int 0, .int 0, .int 0, .int 0, .ref q1, .null, .null, .null, .null, .null, .int 0, .null, .null, .null, .int 0, .int 0]) C dM_init_9 (sx_in inM) tM tM_ok nM rfl 5 (by decide) (sx_w C kF_M_7) (fun _ h => h) rfl (hnm.trans rfl) rfl (by decide +kernel) rfl rfl (mi_o hA1) (by simp) rfl ?_
  have hB1 := mi_x hA1 (.inr (3, [.int 0, .int 0, .int 0, .int 0, .int 0, .ref q1, .null, .null, .null, .null, .null, .int 0, .null, .null, .null, .int 0, .int 0]))
  refine sx_aload_n C dM_init_12 rfl rfl ?_
  refine sx_bipush (v := 40) C dM_init_13 (by decide) ?_
  refine sx_newa (N := 40) (a0 := (40, .inl (fun _ => 0))) C dM_init_15 (sx_w C ka_int) rfl 0 rfl sx_unI (fun _ => by first | rfl | (rw [vp_cell_i]; rfl)) (rfl) (Nat.le_of_ble_eq_true rfl) (Nat.le_of_ble_eq_true rfl) (Nat.le_of_ble_eq_true rfl) (Nat.le_of_ble_eq_true rfl) (fun q2 hq2 => ?_)
  have hA2 := mi_add hB1 (Nat.succ_pos _) hq2 rfl
  refine sx_putF (Cn := RM) (T := TM) (N := 17) (ty := .array .int) (fs' := [.int 0, .int 0, .int 0, .int 0, .int 0, .ref q1, .ref q2, .null, .null, .null, .null, .int 0, .null, .null, .null, .int 0, .int 0]) C dM_init_17 (sx_in inM) tM tM_ok nM rfl 6 (by decide) (sx_w C kF_M_13) (fun _ h => h) rfl (hnm.trans rfl) rfl (by decide +kernel) rfl rfl (mi_o hA2) (by simp) rfl ?_
  have hB2 := mi_x hA2 (.inr (3, [.int 0, .int 0, .int 0, .int 0, .int 0, .ref q1, .ref q2, .null, .null, .null, .null, .int 0, .null, .null, .null, .int 0, .int 0]))
  refine sx_aload_n C dM_init_20 rfl rfl ?_
  refine sx_bipush (v := 40) C dM_init_21 (by decide) ?_
  refine sx_newa (N := 40) (a0 := (40, .inl (fun _ => 0))) C dM_init_23 (sx_w C ka_int) rfl 0 rfl sx_unI (fun _ => by first | rfl | (rw [vp_cell_i]; rfl)) (rfl) (Nat.le_of_ble_eq_true rfl) (Nat.le_of_ble_eq_true rfl) (Nat.le_of_ble_eq_true rfl) (Nat.le_of_ble_eq_true rfl) (fun q3 hq3 => ?_)
  have hA3 := mi_add hB2 (Nat.succ_pos _) hq3 rfl
  refine sx_putF (Cn := RM) (T := TM) (N := 17) (ty := .array .int) (fs' := [.int 0, .int 0, .int 0, .int 0, .int 0, .ref q1, .ref q2, .ref q3, .null, .null, .null, .int 0, .null, .null, .null, .int 0, .int 0]) C dM_init_25 (sx_in inM) tM tM_ok nM rfl 7 (by decide) (sx_w C kF_M_16) (fun _ h => h) rfl (hnm.trans rfl) rfl (by decide +kernel) rfl rfl (mi_o hA3) (by simp) rfl ?_
  have hB3 := mi_x hA3 (.inr (3, [.int 0, .int 0, .int 0, .int 0, .int 0, .ref q1, .ref q2, .ref q3, .null, .null, .null, .int 0, .null, .null, .null, .int 0, .int 0]))
  refine sx_aload_n C dM_init_28 rfl rfl ?_
  refine sx_bipush (v := 40) C dM_init_29 (by decide) ?_
  refine sx_newa (N := 40) (a0 := (40, .inl (fun _ => 0))) C dM_init_31 (sx_w C ka_int) rfl 0 rfl sx_unI (fun _ => by first | rfl | (rw [vp_cell_i]; rfl)) (rfl) (Nat.le_of_ble_eq_true rfl) (Nat.le_of_ble_eq_true rfl) (Nat.le_of_ble_eq_true rfl) (Nat.le_of_ble_eq_true rfl) (fun q4 hq4 => ?_)
  have hA4 := mi_add hB3 (Nat.succ_pos _) hq4 rfl
  refine sx_putF (Cn := RM) (T := TM) (N := 17) (ty := .array .int) (fs' := [.int 0, .int 0, .int 0, .int 0, .int 0, .ref q1, .ref q2, .ref q3, .ref q4, .null, .null, .int 0, .null, .null, .null, .int 0, .int 0]) C dM_init_33 (sx_in inM) tM tM_ok nM rfl 8 (by decide) (sx_w C kF_M_19) (fun _ h => h) rfl (hnm.trans rfl) rfl (by decide +kernel) rfl rfl (mi_o hA4) (by simp) rfl ?_
  have hB4 := mi_x hA4 (.inr (3, [.int 0, .int 0, .int 0, .int 0, .int 0, .ref q1, .ref q2, .ref q3, .ref q4, .null, .null, .int 0, .null, .null, .null, .int 0, .int 0]))
  refine sx_aload_n C dM_init_36 rfl rfl ?_
  refine sx_bipush (v := 40) C dM_init_37 (by decide) ?_
  refine sx_newa (N := 40) (a0 := (40, .inl (fun _ => 0))) C dM_init_39 (sx_w C ka_int) rfl 0 rfl sx_unI (fun _ => by first | rfl | (rw [vp_cell_i]; rfl)) (rfl) (Nat.le_of_ble_eq_true rfl) (Nat.le_of_ble_eq_true rfl) (Nat.le_of_ble_eq_true rfl) (Nat.le_of_ble_eq_true rfl) (fun q5 hq5 => ?_)
  have hA5 := mi_add hB4 (Nat.succ_pos _) hq5 rfl
  refine sx_putF (Cn := RM) (T := TM) (N := 17) (ty := .array .int) (fs' := [.int 0, .int 0, .int 0, .int 0, .int 0, .ref q1, .ref q2, .ref q3, .ref q4, .ref q5, .null, .int 0, .null, .null, .null, .int 0, .int 0]) C dM_init_41 (sx_in inM) tM tM_ok nM rfl 9 (by decide) (sx_w C kF_M_22) (fun _ h => h) rfl (hnm.trans rfl) rfl (by decide +kernel) rfl rfl (mi_o hA5) (by simp) rfl ?_
  have hB5 := mi_x hA5 (.inr (3, [.int 0, .int 0, .int 0, .int 0, .int 0, .ref q1, .ref q2, .ref q3, .ref q4, .ref q5, .null, .int 0, .null, .null, .null, .int 0, .int 0]))
  refine sx_aload_n C dM_init_44 rfl rfl ?_
  refine sx_ldc (v := 83968) C dM_init_45 (sx_w C kK_M_25) ?_
  refine sx_newa (N := 83968) (a0 := (83968, .inl (fun _ => 0))) C dM_init_47 (sx_w C ka_int) rfl 0 rfl sx_unI (fun _ => by first | rfl | (rw [vp_cell_i]; rfl)) (rfl) (Nat.le_of_ble_eq_true rfl) (Nat.le_of_ble_eq_true rfl) (Nat.le_of_ble_eq_true rfl) (Nat.le_of_ble_eq_true rfl) (fun q6 hq6 => ?_)
  have hA6 := mi_add hB5 (Nat.succ_pos _) hq6 rfl
  refine sx_putF (Cn := RM) (T := TM) (N := 17) (ty := .array .int) (fs' := [.int 0, .int 0, .int 0, .int 0, .int 0, .ref q1, .ref q2, .ref q3, .ref q4, .ref q5, .ref q6, .int 0, .null, .null, .null, .int 0, .int 0]) C dM_init_49 (sx_in inM) tM tM_ok nM rfl 10 (by decide) (sx_w C kF_M_26) (fun _ h => h) rfl (hnm.trans rfl) rfl (by decide +kernel) rfl rfl (mi_o hA6) (by simp) rfl ?_
  have hB6 := mi_x hA6 (.inr (3, [.int 0, .int 0, .int 0, .int 0, .int 0, .ref q1, .ref q2, .ref q3, .ref q4, .ref q5, .ref q6, .int 0, .null, .null, .null, .int 0, .int 0]))
  refine sx_aload_n C dM_init_52 rfl rfl ?_
  refine sx_sipush (v := 1600) C dM_init_53 (by decide) ?_
  refine sx_newa (N := 1600) (a0 := (1600, .inl (fun _ => 0))) C dM_init_56 (sx_w C ka_int) rfl 0 rfl sx_unI (fun _ => by first | rfl | (rw [vp_cell_i]; rfl)) (rfl) (Nat.le_of_ble_eq_true rfl) (Nat.le_of_ble_eq_true rfl) (Nat.le_of_ble_eq_true rfl) (Nat.le_of_ble_eq_true rfl) (fun q7 hq7 => ?_)
  have hA7 := mi_add hB6 (Nat.succ_pos _) hq7 rfl
  refine sx_putF (Cn := RM) (T := TM) (N := 17) (ty := .array .int) (fs' := [.int 0, .int 0, .int 0, .int 0, .int 0, .ref q1, .ref q2, .ref q3, .ref q4, .ref q5, .ref q6, .int 0, .ref q7, .null, .null, .int 0, .int 0]) C dM_init_58 (sx_in inM) tM tM_ok nM rfl 12 (by decide) (sx_w C kF_M_29) (fun _ h => h) rfl (hnm.trans rfl) rfl (by decide +kernel) rfl rfl (mi_o hA7) (by simp) rfl ?_
  have hB7 := mi_x hA7 (.inr (3, [.int 0, .int 0, .int 0, .int 0, .int 0, .ref q1, .ref q2, .ref q3, .ref q4, .ref q5, .ref q6, .int 0, .ref q7, .null, .null, .int 0, .int 0]))
  refine sx_aload_n C dM_init_61 rfl rfl ?_
  refine sx_sipush (v := 1600) C dM_init_62 (by decide) ?_
  refine sx_newa (N := 1600) (a0 := (1600, .inl (fun _ => 0))) C dM_init_65 (sx_w C ka_boolean) rfl 4 rfl sx_unZ (fun _ => by first | rfl | (rw [vp_cell_i]; rfl)) (rfl) (Nat.le_of_ble_eq_true rfl) (Nat.le_of_ble_eq_true rfl) (Nat.le_of_ble_eq_true rfl) (Nat.le_of_ble_eq_true rfl) (fun q8 hq8 => ?_)
  have hA8 := mi_add hB7 (Nat.succ_pos _) hq8 rfl
  refine sx_putF (Cn := RM) (T := TM) (N := 17) (ty := .array .boolean) (fs' := [.int 0, .int 0, .int 0, .int 0, .int 0, .ref q1, .ref q2, .ref q3, .ref q4, .ref q5, .ref q6, .int 0, .ref q7, .ref q8, .null, .int 0, .int 0]) C dM_init_67 (sx_in inM) tM tM_ok nM rfl 13 (by decide) (sx_w C kF_M_32) (fun _ h => h) rfl (hnm.trans rfl) rfl (by decide +kernel) rfl rfl (mi_o hA8) (by simp) rfl ?_
  have hB8 := mi_x hA8 (.inr (3, [.int 0, .int 0, .int 0, .int 0, .int 0, .ref q1, .ref q2, .ref q3, .ref q4, .ref q5, .ref q6, .int 0, .ref q7, .ref q8, .null, .int 0, .int 0]))
  refine sx_aload_n C dM_init_70 rfl rfl ?_
  refine sx_bipush (v := 40) C dM_init_71 (by decide) ?_
  refine sx_newa (N := 40) (a0 := (40, .inl (fun _ => 0))) C dM_init_73 (sx_w C ka_int) rfl 0 rfl sx_unI (fun _ => by first | rfl | (rw [vp_cell_i]; rfl)) (rfl) (Nat.le_of_ble_eq_true rfl) (Nat.le_of_ble_eq_true rfl) (Nat.le_of_ble_eq_true rfl) (Nat.le_of_ble_eq_true rfl) (fun q9 hq9 => ?_)
  have hA9 := mi_add hB8 (Nat.succ_pos _) hq9 rfl
  refine sx_putF (Cn := RM) (T := TM) (N := 17) (ty := .array .int) (fs' := [.int 0, .int 0, .int 0, .int 0, .int 0, .ref q1, .ref q2, .ref q3, .ref q4, .ref q5, .ref q6, .int 0, .ref q7, .ref q8, .ref q9, .int 0, .int 0]) C dM_init_75 (sx_in inM) tM tM_ok nM rfl 14 (by decide) (sx_w C kF_M_36) (fun _ h => h) rfl (hnm.trans rfl) rfl (by decide +kernel) rfl rfl (mi_o hA9) (by simp) rfl ?_
  have hB9 := mi_x hA9 (.inr (3, [.int 0, .int 0, .int 0, .int 0, .int 0, .ref q1, .ref q2, .ref q3, .ref q4, .ref q5, .ref q6, .int 0, .ref q7, .ref q8, .ref q9, .int 0, .int 0]))
  refine sx_aload_n C dM_init_78 rfl rfl ?_
  refine sx_iconst (v := 1) C dM_init_79 (by decide) ?_
  refine sx_iload_n C dM_init_80 rfl rfl ?_
  refine sx_iconst (v := 1) C dM_init_81 (by decide) ?_
  refine sx_isub C dM_init_82 ?_
  refine sx_bipush (v := 15) C dM_init_83 (by decide) ?_
  refine sx_iand C dM_init_85 ?_
  refine sx_iadd C dM_init_86 ?_
  refine sx_eqi (nI (wdN x)) (wd_eq x) ?_
  refine sx_putF (Cn := RM) (T := TM) (N := 17) (ty := .int) (fs' := [.int 0, .int (nI (wdN x)), .int 0, .int 0, .int 0, .ref q1, .ref q2, .ref q3, .ref q4, .ref q5, .ref q6, .int 0, .ref q7, .ref q8, .ref q9, .int 0, .int 0]) C dM_init_87 (sx_in inM) tM tM_ok nM rfl 1 (by decide) (sx_w C kF_M_39) (fun _ h => h) rfl (hnm.trans rfl) rfl (by decide +kernel) rfl rfl (mi_o hB9) (by simp) rfl ?_
  have hC1 := mi_x hB9 (.inr (3, [.int 0, .int (nI (wdN x)), .int 0, .int 0, .int 0, .ref q1, .ref q2, .ref q3, .ref q4, .ref q5, .ref q6, .int 0, .ref q7, .ref q8, .ref q9, .int 0, .int 0]))
  refine sx_aload_n C dM_init_90 rfl rfl ?_
  have J111 : SW p l e (rmL 1 9 87408) s m [.ref o, .int x].toArray below meth c 2 D sxCl A 9 87408 Q (sx_up (sx_up (sx_up (sx_up (sx_up (sx_up (sx_up (sx_up (sx_up (sx_up (sx_up (sx_up (sx_up (sx_up (sx_up (sx_up (sx_up (sx_up (sx_up μ q1 (.inl (tc 0, 40, .inl (fun _ => 0)))) o (.inr (3, [.int 0, .int 0, .int 0, .int 0, .int 0, .ref q1, .null, .null, .null, .null, .null, .int 0, .null, .null, .null, .int 0, .int 0]))) q2 (.inl (tc 0, 40, .inl (fun _ => 0)))) o (.inr (3, [.int 0, .int 0, .int 0, .int 0, .int 0, .ref q1, .ref q2, .null, .null, .null, .null, .int 0, .null, .null, .null, .int 0, .int 0]))) q3 (.inl (tc 0, 40, .inl (fun _ => 0)))) o (.inr (3, [.int 0, .int 0, .int 0, .int 0, .int 0, .ref q1, .ref q2, .ref q3, .null, .null, .null, .int 0, .null, .null, .null, .int 0, .int 0]))) q4 (.inl (tc 0, 40, .inl (fun _ => 0)))) o (.inr (3, [.int 0, .int 0, .int 0, .int 0, .int 0, .ref q1, .ref q2, .ref q3, .ref q4, .null, .null, .int 0, .null, .null, .null, .int 0, .int 0]))) q5 (.inl (tc 0, 40, .inl (fun _ => 0)))) o (.inr (3, [.int 0, .int 0, .int 0, .int 0, .int 0, .ref q1, .ref q2, .ref q3, .ref q4, .ref q5, .null, .int 0, .null, .null, .null, .int 0, .int 0]))) q6 (.inl (tc 0, 83968, .inl (fun _ => 0)))) o (.inr (3, [.int 0, .int 0, .int 0, .int 0, .int 0, .ref q1, .ref q2, .ref q3, .ref q4, .ref q5, .ref q6, .int 0, .null, .null, .null, .int 0, .int 0]))) q7 (.inl (tc 0, 1600, .inl (fun _ => 0)))) o (.inr (3, [.int 0, .int 0, .int 0, .int 0, .int 0, .ref q1, .ref q2, .ref q3, .ref q4, .ref q5, .ref q6, .int 0, .ref q7, .null, .null, .int 0, .int 0]))) q8 (.inl (tc 4, 1600, .inl (fun _ => 0)))) o (.inr (3, [.int 0, .int 0, .int 0, .int 0, .int 0, .ref q1, .ref q2, .ref q3, .ref q4, .ref q5, .ref q6, .int 0, .ref q7, .ref q8, .null, .int 0, .int 0]))) q9 (.inl (tc 0, 40, .inl (fun _ => 0)))) o (.inr (3, [.int 0, .int 0, .int 0, .int 0, .int 0, .ref q1, .ref q2, .ref q3, .ref q4, .ref q5, .ref q6, .int 0, .ref q7, .ref q8, .ref q9, .int 0, .int 0]))) o (.inr (3, [.int 0, .int (nI (wdN x)), .int 0, .int 0, .int 0, .ref q1, .ref q2, .ref q3, .ref q4, .ref q5, .ref q6, .int 0, .ref q7, .ref q8, .ref q9, .int 0, .int 0]))) 111 [some (.ref o), some (.int x)] [.int (nI (nRw (wdN x))), .ref o] := by
    refine sx_putF (Cn := RM) (T := TM) (N := 17) (ty := .int) (fs' := [.int 0, .int (nI (wdN x)), .int (nI (nRw (wdN x))), .int 0, .int 0, .ref q1, .ref q2, .ref q3, .ref q4, .ref q5, .ref q6, .int 0, .ref q7, .ref q8, .ref q9, .int 0, .int 0]) C dM_init_111 (sx_in inM) tM tM_ok nM rfl 2 (by decide) (sx_w C kF_M_43) (fun _ h => h) rfl (hnm.trans rfl) rfl (by decide +kernel) rfl rfl (mi_o hC1) (by simp) rfl ?_
    have hC2 := mi_x hC1 (.inr (3, [.int 0, .int (nI (wdN x)), .int (nI (nRw (wdN x))), .int 0, .int 0, .ref q1, .ref q2, .ref q3, .ref q4, .ref q5, .ref q6, .int 0, .ref q7, .ref q8, .ref q9, .int 0, .int 0]))
    refine sx_aload_n C dM_init_114 rfl rfl ?_
    have J137 : SW p l e (rmL 1 9 87408) s m [.ref o, .int x].toArray below meth c 2 D sxCl A 9 87408 Q (sx_up (sx_up (sx_up (sx_up (sx_up (sx_up (sx_up (sx_up (sx_up (sx_up (sx_up (sx_up (sx_up (sx_up (sx_up (sx_up (sx_up (sx_up (sx_up (sx_up μ q1 (.inl (tc 0, 40, .inl (fun _ => 0)))) o (.inr (3, [.int 0, .int 0, .int 0, .int 0, .int 0, .ref q1, .null, .null, .null, .null, .null, .int 0, .null, .null, .null, .int 0, .int 0]))) q2 (.inl (tc 0, 40, .inl (fun _ => 0)))) o (.inr (3, [.int 0, .int 0, .int 0, .int 0, .int 0, .ref q1, .ref q2, .null, .null, .null, .null, .int 0, .null, .null, .null, .int 0, .int 0]))) q3 (.inl (tc 0, 40, .inl (fun _ => 0)))) o (.inr (3, [.int 0, .int 0, .int 0, .int 0, .int 0, .ref q1, .ref q2, .ref q3, .null, .null, .null, .int 0, .null, .null, .null, .int 0, .int 0]))) q4 (.inl (tc 0, 40, .inl (fun _ => 0)))) o (.inr (3, [.int 0, .int 0, .int 0, .int 0, .int 0, .ref q1, .ref q2, .ref q3, .ref q4, .null, .null, .int 0, .null, .null, .null, .int 0, .int 0]))) q5 (.inl (tc 0, 40, .inl (fun _ => 0)))) o (.inr (3, [.int 0, .int 0, .int 0, .int 0, .int 0, .ref q1, .ref q2, .ref q3, .ref q4, .ref q5, .null, .int 0, .null, .null, .null, .int 0, .int 0]))) q6 (.inl (tc 0, 83968, .inl (fun _ => 0)))) o (.inr (3, [.int 0, .int 0, .int 0, .int 0, .int 0, .ref q1, .ref q2, .ref q3, .ref q4, .ref q5, .ref q6, .int 0, .null, .null, .null, .int 0, .int 0]))) q7 (.inl (tc 0, 1600, .inl (fun _ => 0)))) o (.inr (3, [.int 0, .int 0, .int 0, .int 0, .int 0, .ref q1, .ref q2, .ref q3, .ref q4, .ref q5, .ref q6, .int 0, .ref q7, .null, .null, .int 0, .int 0]))) q8 (.inl (tc 4, 1600, .inl (fun _ => 0)))) o (.inr (3, [.int 0, .int 0, .int 0, .int 0, .int 0, .ref q1, .ref q2, .ref q3, .ref q4, .ref q5, .ref q6, .int 0, .ref q7, .ref q8, .null, .int 0, .int 0]))) q9 (.inl (tc 0, 40, .inl (fun _ => 0)))) o (.inr (3, [.int 0, .int 0, .int 0, .int 0, .int 0, .ref q1, .ref q2, .ref q3, .ref q4, .ref q5, .ref q6, .int 0, .ref q7, .ref q8, .ref q9, .int 0, .int 0]))) o (.inr (3, [.int 0, .int (nI (wdN x)), .int 0, .int 0, .int 0, .ref q1, .ref q2, .ref q3, .ref q4, .ref q5, .ref q6, .int 0, .ref q7, .ref q8, .ref q9, .int 0, .int 0]))) o (.inr (3, [.int 0, .int (nI (wdN x)), .int (nI (nRw (wdN x))), .int 0, .int 0, .ref q1, .ref q2, .ref q3, .ref q4, .ref q5, .ref q6, .int 0, .ref q7, .ref q8, .ref q9, .int 0, .int 0]))) 137 [some (.ref o), some (.int x)] [.int (alM (wdN x)), .ref o] := by
      refine sx_putF (Cn := RM) (T := TM) (N := 17) (ty := .int) (fs' := [.int 0, .int (nI (wdN x)), .int (nI (nRw (wdN x))), .int (alM (wdN x)), .int 0, .ref q1, .ref q2, .ref q3, .ref q4, .ref q5, .ref q6, .int 0, .ref q7, .ref q8, .ref q9, .int 0, .int 0]) C dM_init_137 (sx_in inM) tM tM_ok nM rfl 3 (by decide) (sx_w C kF_M_46) (fun _ h => h) rfl (hnm.trans rfl) rfl (by decide +kernel) rfl rfl (mi_o hC2) (by simp) rfl ?_
      have hC3 := mi_x hC2 (.inr (3, [.int 0, .int (nI (wdN x)), .int (nI (nRw (wdN x))), .int (alM (wdN x)), .int 0, .ref q1, .ref q2, .ref q3, .ref q4, .ref q5, .ref q6, .int 0, .ref q7, .ref q8, .ref q9, .int 0, .int 0]))
      exact sx_vretQ C hQ dM_init_140 hr hlocks (Nat.le_of_ble_eq_true rfl) (Nat.le_of_ble_eq_true rfl) (mi_end hwd hC3)
    refine sx_aload_n C dM_init_115 rfl rfl ?_
    refine sx_getf (Cn := RM) (T := TM) (N := 17) C dM_init_116 (sx_in inM) rfl 1 (by decide) (sx_w C kF_M_39) (fun _ h => h) (mi_o hC2) rfl ?_
    refine sx_iconst (v := 4) C dM_init_119 (by decide) ?_
    refine sx_icmp_le (tgt := 127) C dM_init_120 (by decide) (fun c120 => ?_) (fun c120 => ?_)
    · refine sx_iconst (v := 1) C dM_init_127 (by decide) ?_
      refine sx_iconst (v := 1) C dM_init_128 (by decide) ?_
      refine sx_aload_n C dM_init_129 rfl rfl ?_
      refine sx_getf (Cn := RM) (T := TM) (N := 17) C dM_init_130 (sx_in inM) rfl 1 (by decide) (sx_w C kF_M_39) (fun _ h => h) (mi_o hC2) rfl ?_
      refine sx_ishl C dM_init_133 ?_
      refine sx_ishl C dM_init_134 ?_
      refine sx_iconst (v := 1) C dM_init_135 (by decide) ?_
      refine sx_isub C dM_init_136 ?_
      refine sx_eqi ((alM (wdN x))) (by first | exact mi_a1 _ (by omega) c120 | exact mi_a2 _ (by omega) c120) ?_
      exact J137
    · refine sx_iconst (v := -1) C dM_init_123 (by decide) ?_
      refine sx_goto (tgt := 137) C dM_init_124 (by decide) ?_
      refine sx_eqi ((alM (wdN x))) (by first | exact mi_a1 _ (by omega) c120 | exact mi_a2 _ (by omega) c120) ?_
      exact J137
  refine sx_aload_n C dM_init_91 rfl rfl ?_
  refine sx_getf (Cn := RM) (T := TM) (N := 17) C dM_init_92 (sx_in inM) rfl 1 (by decide) (sx_w C kF_M_39) (fun _ h => h) (mi_o hC1) rfl ?_
  refine sx_iconst (v := 5) C dM_init_95 (by decide) ?_
  refine sx_icmp_le (tgt := 110) C dM_init_96 (by decide) (fun c96 => ?_) (fun c96 => ?_)
  · refine sx_iconst (v := 1) C dM_init_110 (by decide) ?_
    refine sx_eqi ((nI (nRw (wdN x)))) (by first | exact mi_r1 _ (by omega) c96 | exact mi_r2 _ (by omega) c96) ?_
    exact J111
  · refine sx_iconst (v := 1) C dM_init_99 (by decide) ?_
    refine sx_aload_n C dM_init_100 rfl rfl ?_
    refine sx_getf (Cn := RM) (T := TM) (N := 17) C dM_init_101 (sx_in inM) rfl 1 (by decide) (sx_w C kF_M_39) (fun _ h => h) (mi_o hC1) rfl ?_
    refine sx_iconst (v := 5) C dM_init_104 (by decide) ?_
    refine sx_isub C dM_init_105 ?_
    refine sx_ishl C dM_init_106 ?_
    refine sx_goto (tgt := 111) C dM_init_107 (by decide) ?_
    refine sx_eqi ((nI (nRw (wdN x)))) (by first | exact mi_r1 _ (by omega) c96 | exact mi_r2 _ (by omega) c96) ?_
    exact J111
