theorem jm_sgn (x : Int32) : 0 ≤ x ^^^ 16 ↔ 0 ≤ x := by
  have h : ∀ z : Int32, 0 ≤ z ↔ z.toBitVec.msb = false := fun z => by
    rw [Int32.le_iff_toInt_le, BitVec.msb_eq_toInt]
    show (0 : Int) ≤ z.toBitVec.toInt ↔ _
    simp
  rw [h, h, Int32.toBitVec_xor, BitVec.msb_xor, show (16 : Int32).toBitVec.msb = false from by decide, Bool.xor_false]
theorem jm_tm (a : Int) : a.tmod 16 = if 0 ≤ a then a % 16 else -((-a) % 16) := by
  by_cases h : 0 ≤ a
  · rw [if_pos h, Int.tmod_eq_emod_of_nonneg h]
  · rw [if_neg h, ← Int.tmod_eq_emod_of_nonneg (show 0 ≤ -a by omega), Int.neg_tmod, Int.neg_neg]
theorem jm_15 (x : Int32) : (x &&& 15).toInt = x.toInt % 16 := by
  rw [pk_and x (m := 15) 4 (by decide), nI_toInt (by omega)]
  show ((x.toBitVec.toNat % 16 : Nat) : Int) = x.toBitVec.toInt % 16
  rw [BitVec.toInt_eq_toNat_cond]
  split <;> omega
theorem jm_f1 {x r : Int32} (er : r = x - x / 16 * 16) (c : 0 ≤ x ^^^ 16 ∨ r = 0) : r = x &&& 15 := by
  apply Int32.toInt_inj.mp
  have hr : r.toInt = x.toInt.tmod 16 := by rw [er]; exact rem_toInt x 16
  rw [jm_15]
  rw [jm_tm] at hr
  rcases c with c | c
  · have := Int32.le_iff_toInt_le.mp ((jm_sgn x).mp c)
    rw [hr, if_pos (show (0 : Int) ≤ x.toInt from this)]
  · rw [c] at hr ⊢
    have h0 : (0 : Int32).toInt = 0 := rfl
    rw [h0] at hr ⊢
    split at hr <;> omega
theorem jm_f2 {x r : Int32} (er : r = x - x / 16 * 16) (c : ¬ 0 ≤ x ^^^ 16) (c2 : ¬ r = 0) : r + 16 = x &&& 15 := by
  apply Int32.toInt_inj.mp
  have hr : r.toInt = x.toInt.tmod 16 := by rw [er]; exact rem_toInt x 16
  have hx : ¬ 0 ≤ x.toInt := fun h => c ((jm_sgn x).mpr (Int32.le_iff_toInt_le.mpr h))
  rw [jm_tm, if_neg hx] at hr
  have hne : r.toInt ≠ 0 := fun h => c2 (Int32.toInt_inj.mp h)
  have h16 : (16 : Int32).toInt = 16 := rfl
  rw [Jvm.Kit.i32_add (by omega) (by omega), jm_15, h16]
  omega
def ar_fill (f : Nat → Int32) (v : Int32) (i : Nat) : Nat → Int32 := fun j => if j < i then v else f j
theorem ar_fill_0 (f : Nat → Int32) (v : Int32) : ar_fill f v 0 = f := funext fun j => by simp [ar_fill]
theorem ar_fill_s (f : Nat → Int32) (v : Int32) (i : Nat) : va_up (ar_fill f v i) i v = ar_fill f v (i + 1) := by
  funext j
  unfold va_up ar_fill
  by_cases h : j = i
  · simp [h]
  · by_cases h2 : j < i
    · simp [h, h2, show j < i + 1 by omega]
    · simp [h, h2, show ¬ j < i + 1 by omega]

set_option maxHeartbeats 4000000 in
set_option maxRecDepth 100000 in
/-- Long.bitCount -/
theorem c_JL_bitCount (l : Launch) (D : va_G) (tc : Nat → ClassId) (x : Int64) (μ : sx_M) : sx_Mi l yJL_bitCount (Cond.code yJL_bitCount cJL_bitCount 2 (some .int) :: sxW) (rmL 0 0 0) D sxCl (sxT tc) sxE [.long x] μ (fun r μ' => μ' = μ ∧ r = nI (pop64 x)) 0 0 := by
  refine sx_ofiQ (cc := cJL_bitCount) (maxL := 2) (ret := (some .int)) (own := RJL) sxE_ok (by decide) rfl rfl (Nat.le_of_ble_eq_true rfl) [some (.long x), none] 0 rfl (fun p e s m below meth c A Q hQ C hr hlocks hnm => ?_)
  refine sx_lload_n C dJL_bitCount_0 rfl rfl ?_
  refine sx_lload_n C dJL_bitCount_1 rfl rfl ?_
  refine sx_iconst (v := 1) C dJL_bitCount_2 (by decide) ?_
  refine sx_lushr C dJL_bitCount_3 ?_
  refine sx_ldc2 (v := 6148914691236517205) C dJL_bitCount_4 (sx_w C kL_JL_314) ?_
  refine sx_land C dJL_bitCount_7 ?_
  refine sx_lsub C dJL_bitCount_8 ?_
  refine sx_topl (fun x1 ex1 => ?_)
  refine sx_lstore_n (lv' := [some (.long x1), none]) C dJL_bitCount_9 rfl (by decide) rfl rfl ?_
  refine sx_lload_n C dJL_bitCount_10 rfl rfl ?_
  refine sx_ldc2 (v := 3689348814741910323) C dJL_bitCount_11 (sx_w C kL_JL_316) ?_
  refine sx_land C dJL_bitCount_14 ?_
  refine sx_lload_n C dJL_bitCount_15 rfl rfl ?_
  refine sx_iconst (v := 2) C dJL_bitCount_16 (by decide) ?_
  refine sx_lushr C dJL_bitCount_17 ?_
  refine sx_ldc2 (v := 3689348814741910323) C dJL_bitCount_18 (sx_w C kL_JL_316) ?_
  refine sx_land C dJL_bitCount_21 ?_
  refine sx_ladd C dJL_bitCount_22 ?_
  refine sx_topl (fun x2 ex2 => ?_)
  refine sx_lstore_n (lv' := [some (.long x2), none]) C dJL_bitCount_23 rfl (by decide) rfl rfl ?_
  refine sx_lload_n C dJL_bitCount_24 rfl rfl ?_
  refine sx_lload_n C dJL_bitCount_25 rfl rfl ?_
  refine sx_iconst (v := 4) C dJL_bitCount_26 (by decide) ?_
  refine sx_lushr C dJL_bitCount_27 ?_
  refine sx_ladd C dJL_bitCount_28 ?_
  refine sx_ldc2 (v := 1085102592571150095) C dJL_bitCount_29 (sx_w C kL_JL_318) ?_
  refine sx_land C dJL_bitCount_32 ?_
  refine sx_topl (fun x3 ex3 => ?_)
  refine sx_lstore_n (lv' := [some (.long x3), none]) C dJL_bitCount_33 rfl (by decide) rfl rfl ?_
  refine sx_lload_n C dJL_bitCount_34 rfl rfl ?_
  refine sx_lload_n C dJL_bitCount_35 rfl rfl ?_
  refine sx_bipush (v := 8) C dJL_bitCount_36 (by decide) ?_
  refine sx_lushr C dJL_bitCount_38 ?_
  refine sx_ladd C dJL_bitCount_39 ?_
  refine sx_topl (fun x4 ex4 => ?_)
  refine sx_lstore_n (lv' := [some (.long x4), none]) C dJL_bitCount_40 rfl (by decide) rfl rfl ?_
  refine sx_lload_n C dJL_bitCount_41 rfl rfl ?_
  refine sx_lload_n C dJL_bitCount_42 rfl rfl ?_
  refine sx_bipush (v := 16) C dJL_bitCount_43 (by decide) ?_
  refine sx_lushr C dJL_bitCount_45 ?_
  refine sx_ladd C dJL_bitCount_46 ?_
  refine sx_topl (fun x5 ex5 => ?_)
  refine sx_lstore_n (lv' := [some (.long x5), none]) C dJL_bitCount_47 rfl (by decide) rfl rfl ?_
  refine sx_lload_n C dJL_bitCount_48 rfl rfl ?_
  refine sx_lload_n C dJL_bitCount_49 rfl rfl ?_
  refine sx_bipush (v := 32) C dJL_bitCount_50 (by decide) ?_
  refine sx_lushr C dJL_bitCount_52 ?_
  refine sx_ladd C dJL_bitCount_53 ?_
  refine sx_topl (fun x6 ex6 => ?_)
  refine sx_lstore_n (lv' := [some (.long x6), none]) C dJL_bitCount_54 rfl (by decide) rfl rfl ?_
  refine sx_lload_n C dJL_bitCount_55 rfl rfl ?_
  refine sx_l2i C dJL_bitCount_56 ?_
  refine sx_bipush (v := 127) C dJL_bitCount_57 (by decide) ?_
  refine sx_iand C dJL_bitCount_59 ?_
  exact sx_iretQ C hQ dJL_bitCount_60 hr hlocks (Nat.le_of_ble_eq_true rfl) (Nat.le_of_ble_eq_true rfl) (⟨rfl, jb_64 ex1 ex2 ex3 ex4 ex5 ex6⟩)

set_option maxHeartbeats 4000000 in
set_option maxRecDepth 100000 in
/-- Integer.bitCount -/
theorem c_JI_bitCount (l : Launch) (D : va_G) (tc : Nat → ClassId) (x : Int32) (μ : sx_M) : sx_Mi l yJI_bitCount (Cond.code yJI_bitCount cJI_bitCount 1 (some .int) :: sxW) (rmL 0 0 0) D sxCl (sxT tc) sxE [.int x] μ (fun r μ' => μ' = μ ∧ r = nI (pop32 x)) 0 0 := by
  refine sx_ofiQ (cc := cJI_bitCount) (maxL := 1) (ret := (some .int)) (own := RJI) sxE_ok (by decide) rfl rfl (Nat.le_of_ble_eq_true rfl) [some (.int x)] 0 rfl (fun p e s m below meth c A Q hQ C hr hlocks hnm => ?_)
  refine sx_iload_n C dJI_bitCount_0 rfl rfl ?_
  refine sx_iload_n C dJI_bitCount_1 rfl rfl ?_
  refine sx_iconst (v := 1) C dJI_bitCount_2 (by decide) ?_
  refine sx_iushr C dJI_bitCount_3 ?_
  refine sx_ldcw (v := 1431655765) C dJI_bitCount_4 (sx_w C kK_JI_265) ?_
  refine sx_iand C dJI_bitCount_7 ?_
  refine sx_isub C dJI_bitCount_8 ?_
  refine sx_topi (fun x1 ex1 => ?_)
  refine sx_istore_n (lv' := [some (.int x1)]) C dJI_bitCount_9 rfl (by decide) rfl rfl ?_
  refine sx_iload_n C dJI_bitCount_10 rfl rfl ?_
  refine sx_ldcw (v := 858993459) C dJI_bitCount_11 (sx_w C kK_JI_266) ?_
  refine sx_iand C dJI_bitCount_14 ?_
  refine sx_iload_n C dJI_bitCount_15 rfl rfl ?_
  refine sx_iconst (v := 2) C dJI_bitCount_16 (by decide) ?_
  refine sx_iushr C dJI_bitCount_17 ?_
  refine sx_ldcw (v := 858993459) C dJI_bitCount_18 (sx_w C kK_JI_266) ?_
  refine sx_iand C dJI_bitCount_21 ?_
  refine sx_iadd C dJI_bitCount_22 ?_
  refine sx_topi (fun x2 ex2 => ?_)
  refine sx_istore_n (lv' := [some (.int x2)]) C dJI_bitCount_23 rfl (by decide) rfl rfl ?_
  refine sx_iload_n C dJI_bitCount_24 rfl rfl ?_
  refine sx_iload_n C dJI_bitCount_25 rfl rfl ?_
  refine sx_iconst (v := 4) C dJI_bitCount_26 (by decide) ?_
  refine sx_iushr C dJI_bitCount_27 ?_
  refine sx_iadd C dJI_bitCount_28 ?_
  refine sx_ldcw (v := 252645135) C dJI_bitCount_29 (sx_w C kK_JI_267) ?_
  refine sx_iand C dJI_bitCount_32 ?_
  refine sx_topi (fun x3 ex3 => ?_)
  refine sx_istore_n (lv' := [some (.int x3)]) C dJI_bitCount_33 rfl (by decide) rfl rfl ?_
  refine sx_iload_n C dJI_bitCount_34 rfl rfl ?_
  refine sx_iload_n C dJI_bitCount_35 rfl rfl ?_
  refine sx_bipush (v := 8) C dJI_bitCount_36 (by decide) ?_
  refine sx_iushr C dJI_bitCount_38 ?_
  refine sx_iadd C dJI_bitCount_39 ?_
  refine sx_topi (fun x4 ex4 => ?_)
  refine sx_istore_n (lv' := [some (.int x4)]) C dJI_bitCount_40 rfl (by decide) rfl rfl ?_
  refine sx_iload_n C dJI_bitCount_41 rfl rfl ?_
  refine sx_iload_n C dJI_bitCount_42 rfl rfl ?_
  refine sx_bipush (v := 16) C dJI_bitCount_43 (by decide) ?_
  refine sx_iushr C dJI_bitCount_45 ?_
  refine sx_iadd C dJI_bitCount_46 ?_
  refine sx_topi (fun x5 ex5 => ?_)
  refine sx_istore_n (lv' := [some (.int x5)]) C dJI_bitCount_47 rfl (by decide) rfl rfl ?_
  refine sx_iload_n C dJI_bitCount_48 rfl rfl ?_
  refine sx_bipush (v := 63) C dJI_bitCount_49 (by decide) ?_
  refine sx_iand C dJI_bitCount_51 ?_
  exact sx_iretQ C hQ dJI_bitCount_52 hr hlocks (Nat.le_of_ble_eq_true rfl) (Nat.le_of_ble_eq_true rfl) (⟨rfl, jb_32 ex1 ex2 ex3 ex4 ex5⟩)

set_option maxHeartbeats 4000000 in
set_option maxRecDepth 100000 in
/-- Math.max -/
theorem c_JM_max (l : Launch) (D : va_G) (tc : Nat → ClassId) (x y : Int32) (μ : sx_M) : sx_Mi l yJM_max (Cond.code yJM_max cJM_max 2 (some .int) :: sxW) (rmL 0 0 0) D sxCl (sxT tc) sxE [.int x, .int y] μ (fun r μ' => μ' = μ ∧ r = if x < y then y else x) 0 0 := by
  refine sx_ofiFQ (cc := cJM_max) (maxL := 2) (ret := (some .int)) (own := RJM) sxE_ok (by decide +kernel) rfl rfl (Nat.le_of_ble_eq_true rfl) [some (.int x), some (.int y)] 0 rfl (fun p e s m below meth c A Q hQ C hr hlocks hnm => ?_)
  refine sx_iload_n C dJM_max_0 rfl rfl ?_
  refine sx_iload_n C dJM_max_1 rfl rfl ?_
  refine sx_icmp_lt (tgt := 9) C dJM_max_2 (by decide) (fun c2 => ?_) (fun c2 => ?_)
  · refine sx_iload_n C dJM_max_9 rfl rfl ?_
    exact sx_iretQ C hQ dJM_max_10 hr hlocks (Nat.le_of_ble_eq_true rfl) (Nat.le_of_ble_eq_true rfl) (⟨rfl, (if_pos c2).symm⟩)
  · refine sx_iload_n C dJM_max_5 rfl rfl ?_
    refine sx_goto (tgt := 10) C dJM_max_6 (by decide) ?_
    exact sx_iretQ C hQ dJM_max_10 hr hlocks (Nat.le_of_ble_eq_true rfl) (Nat.le_of_ble_eq_true rfl) (⟨rfl, (if_neg c2).symm⟩)

set_option maxHeartbeats 4000000 in
set_option maxRecDepth 100000 in
/-- Math.min -/
theorem c_JM_min (l : Launch) (D : va_G) (tc : Nat → ClassId) (x y : Int32) (μ : sx_M) : sx_Mi l yJM_min (Cond.code yJM_min cJM_min 2 (some .int) :: sxW) (rmL 0 0 0) D sxCl (sxT tc) sxE [.int x, .int y] μ (fun r μ' => μ' = μ ∧ r = if y < x then y else x) 0 0 := by
  refine sx_ofiFQ (cc := cJM_min) (maxL := 2) (ret := (some .int)) (own := RJM) sxE_ok (by decide +kernel) rfl rfl (Nat.le_of_ble_eq_true rfl) [some (.int x), some (.int y)] 0 rfl (fun p e s m below meth c A Q hQ C hr hlocks hnm => ?_)
  refine sx_iload_n C dJM_min_0 rfl rfl ?_
  refine sx_iload_n C dJM_min_1 rfl rfl ?_
  refine sx_icmp_gt (tgt := 9) C dJM_min_2 (by decide) (fun c2 => ?_) (fun c2 => ?_)
  · refine sx_iload_n C dJM_min_9 rfl rfl ?_
    exact sx_iretQ C hQ dJM_min_10 hr hlocks (Nat.le_of_ble_eq_true rfl) (Nat.le_of_ble_eq_true rfl) (⟨rfl, (if_pos c2).symm⟩)
  · refine sx_iload_n C dJM_min_5 rfl rfl ?_
    refine sx_goto (tgt := 10) C dJM_min_6 (by decide) ?_
    exact sx_iretQ C hQ dJM_min_10 hr hlocks (Nat.le_of_ble_eq_true rfl) (Nat.le_of_ble_eq_true rfl) (⟨rfl, (if_neg c2).symm⟩)

set_option maxHeartbeats 4000000 in
set_option maxRecDepth 100000 in
/-- Math.floorMod(x, 16) -/
theorem c_JM_floorMod (l : Launch) (D : va_G) (tc : Nat → ClassId) (x : Int32) (μ : sx_M) : sx_Mi l yJM_floorMod (Cond.code yJM_floorMod cJM_floorMod 3 (some .int) :: sxW) (rmL 0 0 0) D sxCl (sxT tc) sxE [.int x, .int 16] μ (fun r μ' => μ' = μ ∧ r = x &&& 15) 0 0 := by
  refine sx_ofiFQ (cc := cJM_floorMod) (maxL := 3) (ret := (some .int)) (own := RJM) sxE_ok (by decide +kernel) rfl rfl (Nat.le_of_ble_eq_true rfl) [some (.int x), some (.int 16), none] 1 rfl (fun p e s m below meth c A Q hQ C hr hlocks hnm => ?_)
  refine sx_iload_n C dJM_floorMod_0 rfl rfl ?_
  refine sx_iload_n C dJM_floorMod_1 rfl rfl ?_
  refine sx_irem C dJM_floorMod_2 (by decide) ?_
  refine sx_topi (fun r er => ?_)
  refine sx_istore_n (lv' := [some (.int x), some (.int 16), some (.int r)]) C dJM_floorMod_3 rfl (by decide) rfl rfl ?_
  refine sx_iload_n C dJM_floorMod_4 rfl rfl ?_
  refine sx_iload_n C dJM_floorMod_5 rfl rfl ?_
  refine sx_ixor C dJM_floorMod_6 ?_
  refine sx_if_ge (tgt := 18) C dJM_floorMod_7 (by decide) (fun c7 => ?_) (fun c7 => ?_)
  · refine sx_iload_n C dJM_floorMod_18 rfl rfl ?_
    exact sx_iretQ C hQ dJM_floorMod_19 hr hlocks (Nat.le_of_ble_eq_true rfl) (Nat.le_of_ble_eq_true rfl) (⟨rfl, jm_f1 er (by first | exact Or.inl c7 | exact Or.inr c11)⟩)
  · refine sx_iload_n C dJM_floorMod_10 rfl rfl ?_
    refine sx_if_eq (tgt := 18) C dJM_floorMod_11 (by decide) (fun c11 => ?_) (fun c11 => ?_)
    · refine sx_iload_n C dJM_floorMod_18 rfl rfl ?_
      exact sx_iretQ C hQ dJM_floorMod_19 hr hlocks (Nat.le_of_ble_eq_true rfl) (Nat.le_of_ble_eq_true rfl) (⟨rfl, jm_f1 er (by first | exact Or.inl c7 | exact Or.inr c11)⟩)
    · refine sx_iload_n C dJM_floorMod_14 rfl rfl ?_
      refine sx_iload_n C dJM_floorMod_15 rfl rfl ?_
      refine sx_iadd C dJM_floorMod_16 ?_
      exact sx_iretQ C hQ dJM_floorMod_17 hr hlocks (Nat.le_of_ble_eq_true rfl) (Nat.le_of_ble_eq_true rfl) (⟨rfl, jm_f2 er c7 c11⟩)
