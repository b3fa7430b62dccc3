set_option maxHeartbeats 4000000 in
set_option maxRecDepth 100000 in
/-- Integer.numberOfTrailingZeros -/
theorem c_JI_numberOfTrailingZeros (l : Launch) (D : va_G) (tc : Nat → ClassId) (x : Int32) (μ : sx_M) : sx_Mi l yJI_numberOfTrailingZeros (Cond.code yJI_numberOfTrailingZeros cJI_numberOfTrailingZeros 2 (some .int) :: sxW) (rmL 0 0 0) D sxCl (sxT tc) sxE [.int x] μ (fun r μ' => μ = μ' ∧ r = nz_core ((x ^^^ (-1)) &&& (x - 1))) 0 0 := by
  refine sx_ofiQ (cc := cJI_numberOfTrailingZeros) (maxL := 2) (ret := (some .int)) (own := RJI) sxE_ok (by decide) rfl rfl (Nat.le_of_ble_eq_true rfl) [some (.int x), none] 1 rfl (fun p e s m below meth c A Q hQ C hr hlocks hnm => ?_)
  refine sx_iload_n C dJI_numberOfTrailingZeros_0 rfl rfl ?_
  refine sx_iconst (v := -1) C dJI_numberOfTrailingZeros_1 (by decide) ?_
  refine sx_ixor C dJI_numberOfTrailingZeros_2 ?_
  refine sx_iload_n C dJI_numberOfTrailingZeros_3 rfl rfl ?_
  refine sx_iconst (v := 1) C dJI_numberOfTrailingZeros_4 (by decide) ?_
  refine sx_isub C dJI_numberOfTrailingZeros_5 ?_
  refine sx_iand C dJI_numberOfTrailingZeros_6 ?_
  refine sx_topi (fun y ey => ?_)
  refine sx_istore_n (lv' := [some (.int y), none]) C dJI_numberOfTrailingZeros_7 rfl (by decide) rfl rfl ?_
  refine sx_iload_n C dJI_numberOfTrailingZeros_8 rfl rfl ?_
  refine sx_if_gt (tgt := 17) C dJI_numberOfTrailingZeros_9 (by decide) (fun c9 => ?_) (fun c9 => ?_)
  · have g9 : ¬ y ≤ 0 := Int32.not_le.mpr c9
    refine sx_iconst (v := 1) C dJI_numberOfTrailingZeros_17 (by decide) ?_
    refine sx_istore_n (lv' := [some (.int y), some (.int 1)]) C dJI_numberOfTrailingZeros_18 rfl (by decide) rfl rfl ?_
    refine sx_iload_n C dJI_numberOfTrailingZeros_19 rfl rfl ?_
    refine sx_ldcw (v := 65536) C dJI_numberOfTrailingZeros_20 (sx_w C kK_JI_264) ?_
    refine sx_icmp_le (tgt := 34) C dJI_numberOfTrailingZeros_23 (by decide) (fun c23 => ?_) (fun c23 => ?_)
    · have g23 : ¬ 65536 < y := Int32.not_lt.mpr c23
      refine sx_iload_n C dJI_numberOfTrailingZeros_34 rfl rfl ?_
      refine sx_sipush (v := 256) C dJI_numberOfTrailingZeros_35 (by decide) ?_
      refine sx_icmp_le (tgt := 49) C dJI_numberOfTrailingZeros_38 (by decide) (fun c38 => ?_) (fun c38 => ?_)
      · have g38 : ¬ 256 < y := Int32.not_lt.mpr c38
        refine sx_iload_n C dJI_numberOfTrailingZeros_49 rfl rfl ?_
        refine sx_bipush (v := 16) C dJI_numberOfTrailingZeros_50 (by decide) ?_
        refine sx_icmp_le (tgt := 62) C dJI_numberOfTrailingZeros_52 (by decide) (fun c52 => ?_) (fun c52 => ?_)
        · have g52 : ¬ 16 < y := Int32.not_lt.mpr c52
          refine sx_iload_n C dJI_numberOfTrailingZeros_62 rfl rfl ?_
          refine sx_iconst (v := 4) C dJI_numberOfTrailingZeros_63 (by decide) ?_
          refine sx_icmp_le (tgt := 74) C dJI_numberOfTrailingZeros_64 (by decide) (fun c64 => ?_) (fun c64 => ?_)
          · have g64 : ¬ 4 < y := Int32.not_lt.mpr c64
            refine sx_iload_n C dJI_numberOfTrailingZeros_74 rfl rfl ?_
            refine sx_iload_n C dJI_numberOfTrailingZeros_75 rfl rfl ?_
            refine sx_iconst (v := 1) C dJI_numberOfTrailingZeros_76 (by decide) ?_
            refine sx_iushr C dJI_numberOfTrailingZeros_77 ?_
            refine sx_iadd C dJI_numberOfTrailingZeros_78 ?_
            exact sx_iretQ C hQ dJI_numberOfTrailingZeros_79 hr hlocks (Nat.le_of_ble_eq_true rfl) (Nat.le_of_ble_eq_true rfl) (⟨rfl, by rw [← ey]; simp [nz_core, g9, g23, g38, g52, g64]⟩)
          · have g64 : 4 < y := Int32.not_le.mp c64
            refine sx_iinc (v := 1 + 2) (lv' := [some (.int y), some (.int (1 + 2))]) C dJI_numberOfTrailingZeros_67 rfl (rfl) (by decide) rfl rfl ?_
            refine sx_iload_n C dJI_numberOfTrailingZeros_70 rfl rfl ?_
            refine sx_iconst (v := 2) C dJI_numberOfTrailingZeros_71 (by decide) ?_
            refine sx_iushr C dJI_numberOfTrailingZeros_72 ?_
            refine sx_istore_n (lv' := [some (.int (jushr y 2)), some (.int (1 + 2))]) C dJI_numberOfTrailingZeros_73 rfl (by decide) rfl rfl ?_
            refine sx_iload_n C dJI_numberOfTrailingZeros_74 rfl rfl ?_
            refine sx_iload_n C dJI_numberOfTrailingZeros_75 rfl rfl ?_
            refine sx_iconst (v := 1) C dJI_numberOfTrailingZeros_76 (by decide) ?_
            refine sx_iushr C dJI_numberOfTrailingZeros_77 ?_
            refine sx_iadd C dJI_numberOfTrailingZeros_78 ?_
            exact sx_iretQ C hQ dJI_numberOfTrailingZeros_79 hr hlocks (Nat.le_of_ble_eq_true rfl) (Nat.le_of_ble_eq_true rfl) (⟨rfl, by rw [← ey]; simp [nz_core, g9, g23, g38, g52, g64]⟩)
        · have g52 : 16 < y := Int32.not_le.mp c52
          refine sx_iinc (v := 1 + 4) (lv' := [some (.int y), some (.int (1 + 4))]) C dJI_numberOfTrailingZeros_55 rfl (rfl) (by decide) rfl rfl ?_
          refine sx_iload_n C dJI_numberOfTrailingZeros_58 rfl rfl ?_
          refine sx_iconst (v := 4) C dJI_numberOfTrailingZeros_59 (by decide) ?_
          refine sx_iushr C dJI_numberOfTrailingZeros_60 ?_
          refine sx_istore_n (lv' := [some (.int (jushr y 4)), some (.int (1 + 4))]) C dJI_numberOfTrailingZeros_61 rfl (by decide) rfl rfl ?_
          refine sx_iload_n C dJI_numberOfTrailingZeros_62 rfl rfl ?_
          refine sx_iconst (v := 4) C dJI_numberOfTrailingZeros_63 (by decide) ?_
          refine sx_icmp_le (tgt := 74) C dJI_numberOfTrailingZeros_64 (by decide) (fun c64 => ?_) (fun c64 => ?_)
          · have g64 : ¬ 4 < (jushr y 4) := Int32.not_lt.mpr c64
            refine sx_iload_n C dJI_numberOfTrailingZeros_74 rfl rfl ?_
            refine sx_iload_n C dJI_numberOfTrailingZeros_75 rfl rfl ?_
            refine sx_iconst (v := 1) C dJI_numberOfTrailingZeros_76 (by decide) ?_
            refine sx_iushr C dJI_numberOfTrailingZeros_77 ?_
            refine sx_iadd C dJI_numberOfTrailingZeros_78 ?_
            exact sx_iretQ C hQ dJI_numberOfTrailingZeros_79 hr hlocks (Nat.le_of_ble_eq_true rfl) (Nat.le_of_ble_eq_true rfl) (⟨rfl, by rw [← ey]; simp [nz_core, g9, g23, g38, g52, g64]⟩)
          · have g64 : 4 < (jushr y 4) := Int32.not_le.mp c64
            refine sx_iinc (v := (1 + 4) + 2) (lv' := [some (.int (jushr y 4)), some (.int ((1 + 4) + 2))]) C dJI_numberOfTrailingZeros_67 rfl (rfl) (by decide) rfl rfl ?_
            refine sx_iload_n C dJI_numberOfTrailingZeros_70 rfl rfl ?_
            refine sx_iconst (v := 2) C dJI_numberOfTrailingZeros_71 (by decide) ?_
            refine sx_iushr C dJI_numberOfTrailingZeros_72 ?_
            refine sx_istore_n (lv' := [some (.int (jushr (jushr y 4) 2)), some (.int ((1 + 4) + 2))]) C dJI_numberOfTrailingZeros_73 rfl (by decide) rfl rfl ?_
            refine sx_iload_n C dJI_numberOfTrailingZeros_74 rfl rfl ?_
            refine sx_iload_n C dJI_numberOfTrailingZeros_75 rfl rfl ?_
            refine sx_iconst (v := 1) C dJI_numberOfTrailingZeros_76 (by decide) ?_
            refine sx_iushr C dJI_numberOfTrailingZeros_77 ?_
            refine sx_iadd C dJI_numberOfTrailingZeros_78 ?_
            exact sx_iretQ C hQ dJI_numberOfTrailingZeros_79 hr hlocks (Nat.le_of_ble_eq_true rfl) (Nat.le_of_ble_eq_true rfl) (⟨rfl, by rw [← ey]; simp [nz_core, g9, g23, g38, g52, g64]⟩)
      · have g38 : 256 < y := Int32.not_le.mp c38
        refine sx_iinc (v := 1 + 8) (lv' := [some (.int y), some (.int (1 + 8))]) C dJI_numberOfTrailingZeros_41 rfl (rfl) (by decide) rfl rfl ?_
        refine sx_iload_n C dJI_numberOfTrailingZeros_44 rfl rfl ?_
        refine sx_bipush (v := 8) C dJI_numberOfTrailingZeros_45 (by decide) ?_
        refine sx_iushr C dJI_numberOfTrailingZeros_47 ?_
        refine sx_istore_n (lv' := [some (.int (jushr y 8)), some (.int (1 + 8))]) C dJI_numberOfTrailingZeros_48 rfl (by decide) rfl rfl ?_
        refine sx_iload_n C dJI_numberOfTrailingZeros_49 rfl rfl ?_
        refine sx_bipush (v := 16) C dJI_numberOfTrailingZeros_50 (by decide) ?_
        refine sx_icmp_le (tgt := 62) C dJI_numberOfTrailingZeros_52 (by decide) (fun c52 => ?_) (fun c52 => ?_)
        · have g52 : ¬ 16 < (jushr y 8) := Int32.not_lt.mpr c52
          refine sx_iload_n C dJI_numberOfTrailingZeros_62 rfl rfl ?_
          refine sx_iconst (v := 4) C dJI_numberOfTrailingZeros_63 (by decide) ?_
          refine sx_icmp_le (tgt := 74) C dJI_numberOfTrailingZeros_64 (by decide) (fun c64 => ?_) (fun c64 => ?_)
          · have g64 : ¬ 4 < (jushr y 8) := Int32.not_lt.mpr c64
            refine sx_iload_n C dJI_numberOfTrailingZeros_74 rfl rfl ?_
            refine sx_iload_n C dJI_numberOfTrailingZeros_75 rfl rfl ?_
            refine sx_iconst (v := 1) C dJI_numberOfTrailingZeros_76 (by decide) ?_
            refine sx_iushr C dJI_numberOfTrailingZeros_77 ?_
            refine sx_iadd C dJI_numberOfTrailingZeros_78 ?_
            exact sx_iretQ C hQ dJI_numberOfTrailingZeros_79 hr hlocks (Nat.le_of_ble_eq_true rfl) (Nat.le_of_ble_eq_true rfl) (⟨rfl, by rw [← ey]; simp [nz_core, g9, g23, g38, g52, g64]⟩)
          · have g64 : 4 < (jushr y 8) := Int32.not_le.mp c64
            refine sx_iinc (v := (1 + 8) + 2) (lv' := [some (.int (jushr y 8)), some (.int ((1 + 8) + 2))]) C dJI_numberOfTrailingZeros_67 rfl (rfl) (by decide) rfl rfl ?_
            refine sx_iload_n C dJI_numberOfTrailingZeros_70 rfl rfl ?_
            refine sx_iconst (v := 2) C dJI_numberOfTrailingZeros_71 (by decide) ?_
            refine sx_iushr C dJI_numberOfTrailingZeros_72 ?_
            refine sx_istore_n (lv' := [some (.int (jushr (jushr y 8) 2)), some (.int ((1 + 8) + 2))]) C dJI_numberOfTrailingZeros_73 rfl (by decide) rfl rfl ?_
            refine sx_iload_n C dJI_numberOfTrailingZeros_74 rfl rfl ?_
            refine sx_iload_n C dJI_numberOfTrailingZeros_75 rfl rfl ?_
            refine sx_iconst (v := 1) C dJI_numberOfTrailingZeros_76 (by decide) ?_
            refine sx_iushr C dJI_numberOfTrailingZeros_77 ?_
            refine sx_iadd C dJI_numberOfTrailingZeros_78 ?_
            exact sx_iretQ C hQ dJI_numberOfTrailingZeros_79 hr hlocks (Nat.le_of_ble_eq_true rfl) (Nat.le_of_ble_eq_true rfl) (⟨rfl, by rw [← ey]; simp [nz_core, g9, g23, g38, g52, g64]⟩)
        · have g52 : 16 < (jushr y 8) := Int32.not_le.mp c52
          refine sx_iinc (v := (1 + 8) + 4) (lv' := [some (.int (jushr y 8)), some (.int ((1 + 8) + 4))]) C dJI_numberOfTrailingZeros_55 rfl (rfl) (by decide) rfl rfl ?_
          refine sx_iload_n C dJI_numberOfTrailingZeros_58 rfl rfl ?_
          refine sx_iconst (v := 4) C dJI_numberOfTrailingZeros_59 (by decide) ?_
          refine sx_iushr C dJI_numberOfTrailingZeros_60 ?_
          refine sx_istore_n (lv' := [some (.int (jushr (jushr y 8) 4)), some (.int ((1 + 8) + 4))]) C dJI_numberOfTrailingZeros_61 rfl (by decide) rfl rfl ?_
          refine sx_iload_n C dJI_numberOfTrailingZeros_62 rfl rfl ?_
          refine sx_iconst (v := 4) C dJI_numberOfTrailingZeros_63 (by decide) ?_
          refine sx_icmp_le (tgt := 74) C dJI_numberOfTrailingZeros_64 (by decide) (fun c64 => ?_) (fun c64 => ?_)
          · have g64 : ¬ 4 < (jushr (jushr y 8) 4) := Int32.not_lt.mpr c64
            refine sx_iload_n C dJI_numberOfTrailingZeros_74 rfl rfl ?_
            refine sx_iload_n C dJI_numberOfTrailingZeros_75 rfl rfl ?_
            refine sx_iconst (v := 1) C dJI_numberOfTrailingZeros_76 (by decide) ?_
            refine sx_iushr C dJI_numberOfTrailingZeros_77 ?_
            refine sx_iadd C dJI_numberOfTrailingZeros_78 ?_
            exact sx_iretQ C hQ dJI_numberOfTrailingZeros_79 hr hlocks (Nat.le_of_ble_eq_true rfl) (Nat.le_of_ble_eq_true rfl) (⟨rfl, by rw [← ey]; simp [nz_core, g9, g23, g38, g52, g64]⟩)
          · have g64 : 4 < (jushr (jushr y 8) 4) := Int32.not_le.mp c64
            refine sx_iinc (v := ((1 + 8) + 4) + 2) (lv' := [some (.int (jushr (jushr y 8) 4)), some (.int (((1 + 8) + 4) + 2))]) C dJI_numberOfTrailingZeros_67 rfl (rfl) (by decide) rfl rfl ?_
            refine sx_iload_n C dJI_numberOfTrailingZeros_70 rfl rfl ?_
            refine sx_iconst (v := 2) C dJI_numberOfTrailingZeros_71 (by decide) ?_
            refine sx_iushr C dJI_numberOfTrailingZeros_72 ?_
            refine sx_istore_n (lv' := [some (.int (jushr (jushr (jushr y 8) 4) 2)), some (.int (((1 + 8) + 4) + 2))]) C dJI_numberOfTrailingZeros_73 rfl (by decide) rfl rfl ?_
            refine sx_iload_n C dJI_numberOfTrailingZeros_74 rfl rfl ?_
            refine sx_iload_n C dJI_numberOfTrailingZeros_75 rfl rfl ?_
            refine sx_iconst (v := 1) C dJI_numberOfTrailingZeros_76 (by decide) ?_
            refine sx_iushr C dJI_numberOfTrailingZeros_77 ?_
            refine sx_iadd C dJI_numberOfTrailingZeros_78 ?_
            exact sx_iretQ C hQ dJI_numberOfTrailingZeros_79 hr hlocks (Nat.le_of_ble_eq_true rfl) (Nat.le_of_ble_eq_true rfl) (⟨rfl, by rw [← ey]; simp [nz_core, g9, g23, g38, g52, g64]⟩)
    · have g23 : 65536 < y := Int32.not_le.mp c23
      refine sx_iinc (v := 1 + 16) (lv' := [some (.int y), some (.int (1 + 16))]) C dJI_numberOfTrailingZeros_26 rfl (rfl) (by decide) rfl rfl ?_
      refine sx_iload_n C dJI_numberOfTrailingZeros_29 rfl rfl ?_
      refine sx_bipush (v := 16) C dJI_numberOfTrailingZeros_30 (by decide) ?_
      refine sx_iushr C dJI_numberOfTrailingZeros_32 ?_
      refine sx_istore_n (lv' := [some (.int (jushr y 16)), some (.int (1 + 16))]) C dJI_numberOfTrailingZeros_33 rfl (by decide) rfl rfl ?_
      refine sx_iload_n C dJI_numberOfTrailingZeros_34 rfl rfl ?_
      refine sx_sipush (v := 256) C dJI_numberOfTrailingZeros_35 (by decide) ?_
      refine sx_icmp_le (tgt := 49) C dJI_numberOfTrailingZeros_38 (by decide) (fun c38 => ?_) (fun c38 => ?_)
      · have g38 : ¬ 256 < (jushr y 16) := Int32.not_lt.mpr c38
        refine sx_iload_n C dJI_numberOfTrailingZeros_49 rfl rfl ?_
        refine sx_bipush (v := 16) C dJI_numberOfTrailingZeros_50 (by decide) ?_
        refine sx_icmp_le (tgt := 62) C dJI_numberOfTrailingZeros_52 (by decide) (fun c52 => ?_) (fun c52 => ?_)
        · have g52 : ¬ 16 < (jushr y 16) := Int32.not_lt.mpr c52
          refine sx_iload_n C dJI_numberOfTrailingZeros_62 rfl rfl ?_
          refine sx_iconst (v := 4) C dJI_numberOfTrailingZeros_63 (by decide) ?_
          refine sx_icmp_le (tgt := 74) C dJI_numberOfTrailingZeros_64 (by decide) (fun c64 => ?_) (fun c64 => ?_)
          · have g64 : ¬ 4 < (jushr y 16) := Int32.not_lt.mpr c64
            refine sx_iload_n C dJI_numberOfTrailingZeros_74 rfl rfl ?_
            refine sx_iload_n C dJI_numberOfTrailingZeros_75 rfl rfl ?_
            refine sx_iconst (v := 1) C dJI_numberOfTrailingZeros_76 (by decide) ?_
            refine sx_iushr C dJI_numberOfTrailingZeros_77 ?_
            refine sx_iadd C dJI_numberOfTrailingZeros_78 ?_
            exact sx_iretQ C hQ dJI_numberOfTrailingZeros_79 hr hlocks (Nat.le_of_ble_eq_true rfl) (Nat.le_of_ble_eq_true rfl) (⟨rfl, by rw [← ey]; simp [nz_core, g9, g23, g38, g52, g64]⟩)
          · have g64 : 4 < (jushr y 16) := Int32.not_le.mp c64
            refine sx_iinc (v := (1 + 16) + 2) (lv' := [some (.int (jushr y 16)), some (.int ((1 + 16) + 2))]) C dJI_numberOfTrailingZeros_67 rfl (rfl) (by decide) rfl rfl ?_
            refine sx_iload_n C dJI_numberOfTrailingZeros_70 rfl rfl ?_
            refine sx_iconst (v := 2) C dJI_numberOfTrailingZeros_71 (by decide) ?_
            refine sx_iushr C dJI_numberOfTrailingZeros_72 ?_
            refine sx_istore_n (lv' := [some (.int (jushr (jushr y 16) 2)), some (.int ((1 + 16) + 2))]) C dJI_numberOfTrailingZeros_73 rfl (by decide) rfl rfl ?_
            refine sx_iload_n C dJI_numberOfTrailingZeros_74 rfl rfl ?_
            refine sx_iload_n C dJI_numberOfTrailingZeros_75 rfl rfl ?_
            refine sx_iconst (v := 1) C dJI_numberOfTrailingZeros_76 (by decide) ?_
            refine sx_iushr C dJI_numberOfTrailingZeros_77 ?_
            refine sx_iadd C dJI_numberOfTrailingZeros_78 ?_
            exact sx_iretQ C hQ dJI_numberOfTrailingZeros_79 hr hlocks (Nat.le_of_ble_eq_true rfl) (Nat.le_of_ble_eq_true rfl) (⟨rfl, by rw [← ey]; simp [nz_core, g9, g23, g38, g52, g64]⟩)
        · have g52 : 16 < (jushr y 16) := Int32.not_le.mp c52
          refine sx_iinc (v := (1 + 16) + 4) (lv' := [some (.int (jushr y 16)), some (.int ((1 + 16) + 4))]) C dJI_numberOfTrailingZeros_55 rfl (rfl) (by decide) rfl rfl ?_
          refine sx_iload_n C dJI_numberOfTrailingZeros_58 rfl rfl ?_
          refine sx_iconst (v := 4) C dJI_numberOfTrailingZeros_59 (by decide) ?_
          refine sx_iushr C dJI_numberOfTrailingZeros_60 ?_
          refine sx_istore_n (lv' := [some (.int (jushr (jushr y 16) 4)), some (.int ((1 + 16) + 4))]) C dJI_numberOfTrailingZeros_61 rfl (by decide) rfl rfl ?_
          refine sx_iload_n C dJI_numberOfTrailingZeros_62 rfl rfl ?_
          refine sx_iconst (v := 4) C dJI_numberOfTrailingZeros_63 (by decide) ?_
          refine sx_icmp_le (tgt := 74) C dJI_numberOfTrailingZeros_64 (by decide) (fun c64 => ?_) (fun c64 => ?_)
          · have g64 : ¬ 4 < (jushr (jushr y 16) 4) := Int32.not_lt.mpr c64
            refine sx_iload_n C dJI_numberOfTrailingZeros_74 rfl rfl ?_
            refine sx_iload_n C dJI_numberOfTrailingZeros_75 rfl rfl ?_
            refine sx_iconst (v := 1) C dJI_numberOfTrailingZeros_76 (by decide) ?_
            refine sx_iushr C dJI_numberOfTrailingZeros_77 ?_
            refine sx_iadd C dJI_numberOfTrailingZeros_78 ?_
            exact sx_iretQ C hQ dJI_numberOfTrailingZeros_79 hr hlocks (Nat.le_of_ble_eq_true rfl) (Nat.le_of_ble_eq_true rfl) (⟨rfl, by rw [← ey]; simp [nz_core, g9, g23, g38, g52, g64]⟩)
          · have g64 : 4 < (jushr (jushr y 16) 4) := Int32.not_le.mp c64
            refine sx_iinc (v := ((1 + 16) + 4) + 2) (lv' := [some (.int (jushr (jushr y 16) 4)), some (.int (((1 + 16) + 4) + 2))]) C dJI_numberOfTrailingZeros_67 rfl (rfl) (by decide) rfl rfl ?_
            refine sx_iload_n C dJI_numberOfTrailingZeros_70 rfl rfl ?_
            refine sx_iconst (v := 2) C dJI_numberOfTrailingZeros_71 (by decide) ?_
            refine sx_iushr C dJI_numberOfTrailingZeros_72 ?_
            refine sx_istore_n (lv' := [some (.int (jushr (jushr (jushr y 16) 4) 2)), some (.int (((1 + 16) + 4) + 2))]) C dJI_numberOfTrailingZeros_73 rfl (by decide) rfl rfl ?_
            refine sx_iload_n C dJI_numberOfTrailingZeros_74 rfl rfl ?_
            refine sx_iload_n C dJI_numberOfTrailingZeros_75 rfl rfl ?_
            refine sx_iconst (v := 1) C dJI_numberOfTrailingZeros_76 (by decide) ?_
            refine sx_iushr C dJI_numberOfTrailingZeros_77 ?_
            refine sx_iadd C dJI_numberOfTrailingZeros_78 ?_
            exact sx_iretQ C hQ dJI_numberOfTrailingZeros_79 hr hlocks (Nat.le_of_ble_eq_true rfl) (Nat.le_of_ble_eq_true rfl) (⟨rfl, by rw [← ey]; simp [nz_core, g9, g23, g38, g52, g64]⟩)
      · have g38 : 256 < (jushr y 16) := Int32.not_le.mp c38
        refine sx_iinc (v := (1 + 16) + 8) (lv' := [some (.int (jushr y 16)), some (.int ((1 + 16) + 8))]) C dJI_numberOfTrailingZeros_41 rfl (rfl) (by decide) rfl rfl ?_
        refine sx_iload_n C dJI_numberOfTrailingZeros_44 rfl rfl ?_
        refine sx_bipush (v := 8) C dJI_numberOfTrailingZeros_45 (by decide) ?_
        refine sx_iushr C dJI_numberOfTrailingZeros_47 ?_
        refine sx_istore_n (lv' := [some (.int (jushr (jushr y 16) 8)), some (.int ((1 + 16) + 8))]) C dJI_numberOfTrailingZeros_48 rfl (by decide) rfl rfl ?_
        refine sx_iload_n C dJI_numberOfTrailingZeros_49 rfl rfl ?_
        refine sx_bipush (v := 16) C dJI_numberOfTrailingZeros_50 (by decide) ?_
        refine sx_icmp_le (tgt := 62) C dJI_numberOfTrailingZeros_52 (by decide) (fun c52 => ?_) (fun c52 => ?_)
        · have g52 : ¬ 16 < (jushr (jushr y 16) 8) := Int32.not_lt.mpr c52
          refine sx_iload_n C dJI_numberOfTrailingZeros_62 rfl rfl ?_
          refine sx_iconst (v := 4) C dJI_numberOfTrailingZeros_63 (by decide) ?_
          refine sx_icmp_le (tgt := 74) C dJI_numberOfTrailingZeros_64 (by decide) (fun c64 => ?_) (fun c64 => ?_)
          · have g64 : ¬ 4 < (jushr (jushr y 16) 8) := Int32.not_lt.mpr c64
            refine sx_iload_n C dJI_numberOfTrailingZeros_74 rfl rfl ?_
            refine sx_iload_n C dJI_numberOfTrailingZeros_75 rfl rfl ?_
            refine sx_iconst (v := 1) C dJI_numberOfTrailingZeros_76 (by decide) ?_
            refine sx_iushr C dJI_numberOfTrailingZeros_77 ?_
            refine sx_iadd C dJI_numberOfTrailingZeros_78 ?_
            exact sx_iretQ C hQ dJI_numberOfTrailingZeros_79 hr hlocks (Nat.le_of_ble_eq_true rfl) (Nat.le_of_ble_eq_true rfl) (⟨rfl, by rw [← ey]; simp [nz_core, g9, g23, g38, g52, g64]⟩)
          · have g64 : 4 < (jushr (jushr y 16) 8) := Int32.not_le.mp c64
            refine sx_iinc (v := ((1 + 16) + 8) + 2) (lv' := [some (.int (jushr (jushr y 16) 8)), some (.int (((1 + 16) + 8) + 2))]) C dJI_numberOfTrailingZeros_67 rfl (rfl) (by decide) rfl rfl ?_
            refine sx_iload_n C dJI_numberOfTrailingZeros_70 rfl rfl ?_
            refine sx_iconst (v := 2) C dJI_numberOfTrailingZeros_71 (by decide) ?_
            refine sx_iushr C dJI_numberOfTrailingZeros_72 ?_
            refine sx_istore_n (lv' := [some (.int (jushr (jushr (jushr y 16) 8) 2)), some (.int (((1 + 16) + 8) + 2))]) C dJI_numberOfTrailingZeros_73 rfl (by decide) rfl rfl ?_
            refine sx_iload_n C dJI_numberOfTrailingZeros_74 rfl rfl ?_
            refine sx_iload_n C dJI_numberOfTrailingZeros_75 rfl rfl ?_
            refine sx_iconst (v := 1) C dJI_numberOfTrailingZeros_76 (by decide) ?_
            refine sx_iushr C dJI_numberOfTrailingZeros_77 ?_
            refine sx_iadd C dJI_numberOfTrailingZeros_78 ?_
            exact sx_iretQ C hQ dJI_numberOfTrailingZeros_79 hr hlocks (Nat.le_of_ble_eq_true rfl) (Nat.le_of_ble_eq_true rfl) (⟨rfl, by rw [← ey]; simp [nz_core, g9, g23, g38, g52, g64]⟩)
        · have g52 : 16 < (jushr (jushr y 16) 8) := Int32.not_le.mp c52
          refine sx_iinc (v := ((1 + 16) + 8) + 4) (lv' := [some (.int (jushr (jushr y 16) 8)), some (.int (((1 + 16) + 8) + 4))]) C dJI_numberOfTrailingZeros_55 rfl (rfl) (by decide) rfl rfl ?_
          refine sx_iload_n C dJI_numberOfTrailingZeros_58 rfl rfl ?_
          refine sx_iconst (v := 4) C dJI_numberOfTrailingZeros_59 (by decide) ?_
          refine sx_iushr C dJI_numberOfTrailingZeros_60 ?_
          refine sx_istore_n (lv' := [some (.int (jushr (jushr (jushr y 16) 8) 4)), some (.int (((1 + 16) + 8) + 4))]) C dJI_numberOfTrailingZeros_61 rfl (by decide) rfl rfl ?_
          refine sx_iload_n C dJI_numberOfTrailingZeros_62 rfl rfl ?_
          refine sx_iconst (v := 4) C dJI_numberOfTrailingZeros_63 (by decide) ?_
          refine sx_icmp_le (tgt := 74) C dJI_numberOfTrailingZeros_64 (by decide) (fun c64 => ?_) (fun c64 => ?_)
          · have g64 : ¬ 4 < (jushr (jushr (jushr y 16) 8) 4) := Int32.not_lt.mpr c64
            refine sx_iload_n C dJI_numberOfTrailingZeros_74 rfl rfl ?_
            refine sx_iload_n C dJI_numberOfTrailingZeros_75 rfl rfl ?_
            refine sx_iconst (v := 1) C dJI_numberOfTrailingZeros_76 (by decide) ?_
            refine sx_iushr C dJI_numberOfTrailingZeros_77 ?_
            refine sx_iadd C dJI_numberOfTrailingZeros_78 ?_
            exact sx_iretQ C hQ dJI_numberOfTrailingZeros_79 hr hlocks (Nat.le_of_ble_eq_true rfl) (Nat.le_of_ble_eq_true rfl) (⟨rfl, by rw [← ey]; simp [nz_core, g9, g23, g38, g52, g64]⟩)
          · have g64 : 4 < (jushr (jushr (jushr y 16) 8) 4) := Int32.not_le.mp c64
            refine sx_iinc (v := (((1 + 16) + 8) + 4) + 2) (lv' := [some (.int (jushr (jushr (jushr y 16) 8) 4)), some (.int ((((1 + 16) + 8) + 4) + 2))]) C dJI_numberOfTrailingZeros_67 rfl (rfl) (by decide) rfl rfl ?_
            refine sx_iload_n C dJI_numberOfTrailingZeros_70 rfl rfl ?_
            refine sx_iconst (v := 2) C dJI_numberOfTrailingZeros_71 (by decide) ?_
            refine sx_iushr C dJI_numberOfTrailingZeros_72 ?_
            refine sx_istore_n (lv' := [some (.int (jushr (jushr (jushr (jushr y 16) 8) 4) 2)), some (.int ((((1 + 16) + 8) + 4) + 2))]) C dJI_numberOfTrailingZeros_73 rfl (by decide) rfl rfl ?_
            refine sx_iload_n C dJI_numberOfTrailingZeros_74 rfl rfl ?_
            refine sx_iload_n C dJI_numberOfTrailingZeros_75 rfl rfl ?_
            refine sx_iconst (v := 1) C dJI_numberOfTrailingZeros_76 (by decide) ?_
            refine sx_iushr C dJI_numberOfTrailingZeros_77 ?_
            refine sx_iadd C dJI_numberOfTrailingZeros_78 ?_
            exact sx_iretQ C hQ dJI_numberOfTrailingZeros_79 hr hlocks (Nat.le_of_ble_eq_true rfl) (Nat.le_of_ble_eq_true rfl) (⟨rfl, by rw [← ey]; simp [nz_core, g9, g23, g38, g52, g64]⟩)
  · have g9 : y ≤ 0 := Int32.not_lt.mp c9
    refine sx_iload_n C dJI_numberOfTrailingZeros_12 rfl rfl ?_
    refine sx_bipush (v := 32) C dJI_numberOfTrailingZeros_13 (by decide) ?_
    refine sx_iand C dJI_numberOfTrailingZeros_15 ?_
    exact sx_iretQ C hQ dJI_numberOfTrailingZeros_16 hr hlocks (Nat.le_of_ble_eq_true rfl) (Nat.le_of_ble_eq_true rfl) (⟨rfl, by rw [← ey]; simp [nz_core, g9]⟩)

theorem pu_c_one {p : Nat → Bool} : ∀ n, 0 < n → p 0 = true → (∀ i, 0 < i → i < n → p i = false) → pu_c p n = 1
  | 1, _, h0, _ => by simp [pu_c, h0]
  | n + 2, _, h0, h => by
    rw [pu_c, pu_c_one (n + 1) (by omega) h0 (fun i h1 h2 => h i h1 (by omega)), h (n + 1) (by omega) (by omega)]
    rfl
theorem bs_m1 : pop64 (bk_s (-1) 6 ||| bk_w (-1) 6) = 1 ∧ ∀ p, p < 64 → bL (bk_s (-1) 6 ||| bk_w (-1) 6) p = decide (p = 0) := by decide +kernel
/-- a row of a word set of W bits -/
def wsOk (f : Nat → Int64) (W : Nat) : Prop := ∀ w, 2 ^ W ≤ w → rowS f (nCh W) w = false
theorem wsOk_full {f : Nat → Int64} {W c : Nat} (h : wsOk f W) (hc : c < nCh W) (hf : f c = -1) : 6 ≤ W := by
  by_cases e : 6 ≤ W
  · exact e
  · exfalso
    have hn : nCh W = 1 := by unfold nCh; rw [show W - 6 = 0 by omega]
    have h1 := rowS_at (f := f) (n := nCh W) (c := c) (q := 63) hc (by decide)
    rw [hf, bL_m1 (by decide), h (64 * c + 63) ?_] at h1
    · cases h1
    · have : 2 ^ W ≤ 2 ^ 5 := Nat.pow_le_pow_right (by decide) (by omega)
      omega
/-- one step over the chunk c, where no block stands open -/
theorem hb_step {f : Nat → Int64} {W c j : Nat} (hok : wsOk f W) (hc : c < nCh W) (hbd : bk_bd (rowS f (nCh W)) (max W 6) (64 * c)) (hck : ckN f (nCh W) W c j) :
    c + 2 ^ j ≤ nCh W ∧ bk_bd (rowS f (nCh W)) (max W 6) (64 * (c + 2 ^ j)) ∧ pu_c (bkS (rowS f (nCh W)) (max W 6)) (64 * (c + 2 ^ j)) = pu_c (bkS (rowS f (nCh W)) (max W 6)) (64 * c) + pop64 (bk_s (f c) 6 ||| bk_w (f c) 6) ∧
    ∀ p, p < 64 → bL (bk_s (f c) 6 ||| bk_w (f c) 6) p = true → bkS (rowS f (nCh W)) (max W 6) (64 * c + p) = true ∧ pu_c (bkS (rowS f (nCh W)) (max W 6)) (64 * c + p) = pu_c (bkS (rowS f (nCh W)) (max W 6)) (64 * c) + pu_c (bL (bk_s (f c) 6 ||| bk_w (f c) 6)) p := by
  by_cases hf : f c = -1
  · have hW := wsOk_full hok hc hf
    have hV : max W 6 = W := by omega
    rw [hV] at hbd ⊢
    rcases hck with ⟨h, -⟩ | ⟨h1, h2, h3⟩
    · exact absurd ⟨hc, hf⟩ h
    · obtain ⟨b1, b2⟩ := ck_block hbd h1 (by omega) h3
      have hpos : 0 < 2 ^ j := Nat.two_pow_pos j
      have hs : ∀ i, i < 64 * 2 ^ j → bkS (rowS f (nCh W)) W (64 * c + i) = decide (i = 0) := fun i hi => by
        by_cases e : i = 0
        · rw [decide_eq_true e]
          exact bkS_iff.mpr ((b1 _ (by omega) (by omega)).mpr (by omega))
        · rw [decide_eq_false e]
          exact bkS_ff fun h => e (by have := (b1 _ (by omega) (by omega)).mp h; omega)
      refine ⟨h1.2.1, b2, ?_, fun p hp hb => ?_⟩
      · rw [hf, bs_m1.1, show 64 * (c + 2 ^ j) = 64 * c + 64 * 2 ^ j by omega, pu_c_add]
        rw [pu_c_one (64 * 2 ^ j) (by omega) (by rw [hs 0 (by omega)]; rfl) (fun i h4 h5 => by rw [hs i h5]; exact decide_eq_false (by omega))]
      · rw [hf, bs_m1.2 p hp, decide_eq_true_eq] at hb
        subst hb
        refine ⟨by rw [hs 0 (by omega)]; rfl, ?_⟩
        rw [Nat.add_zero]
        rfl
  · have hj : j = 0 := by
      rcases hck with ⟨-, h⟩ | ⟨h1, -, -⟩
      · exact h
      · exact absurd (h1.2.2 c (Nat.le_refl _) (by have := Nat.two_pow_pos j; omega)) hf
    subst hj
    have hS : ∀ q, q < 64 → rowS f (nCh W) (64 * c + q) = bL (f c) q := fun q hq => rowS_at hc hq
    have hs : ∀ i, i < 64 → bL (bk_s (f c) 6 ||| bk_w (f c) 6) i = bkS (rowS f (nCh W)) (max W 6) (64 * c + i) := fun i hi => by
      rw [Bool.eq_iff_iff, bk_chunk (f c) hi, bkS_iff]
      exact bk_part (Nat.le_max_right _ _) hS hf hi
    refine ⟨by rw [Nat.pow_zero]; omega, by rw [Nat.pow_zero]; exact bk_bd_part hS hf, ?_, fun p hp hb => ⟨by rw [← hs p hp]; exact hb, ?_⟩⟩
    · rw [Nat.pow_zero, show 64 * (c + 1) = 64 * c + 64 by omega, pu_c_add]
      congr 1
      exact pu_c_congr 64 (fun i hi => (hs i hi).symm)
    · rw [pu_c_add]
      congr 1
      exact pu_c_congr p (fun i hi => (hs i (by omega)).symm)

set_option maxHeartbeats 4000000 in
set_option maxRecDepth 100000 in
/-- howManyBlocks -/
theorem c_S_howManyBlocks (l : Launch) (D : va_G) (tc : Nat → ClassId) (o r W : Nat) (f : Nat → Int64) (μ : sx_M) (hW : W ≤ 16) (hok : wsOk f W) (ho : μ o = some (.inr (1, [.int (nI W), .ref r]))) (hr9 : μ r = some (.inl (tc 1, nCh W, .inr (.inl f)))) : sx_Mi l yS_howManyBlocks (Cond.code yS_howManyBlocks cS_howManyBlocks 4 (some .int) :: sxW) (rmL 2 0 0) D sxCl (sxT tc) sxE [.ref o] μ (fun r2 μ' => μ = μ' ∧ r2 = nI (pu_c (bkS (rowS f (nCh W)) (max W 6)) (64 * nCh W))) 0 0 := by
  have hN := nCh_le hW
  refine sx_ofiQ (cc := cS_howManyBlocks) (maxL := 4) (ret := (some .int)) (own := RS) sxE_ok (by decide) rfl rfl (Nat.le_of_ble_eq_true rfl) [some (.ref o), none, none, none] 3 rfl (fun p e s m below meth c A Q hQ C hr hlocks hnm => ?_)
  refine sx_iconst (v := 0) C dS_howManyBlocks_0 (by decide) ?_
  refine sx_eqi (nI (pu_c (bkS (rowS f (nCh W)) (max W 6)) (64 * 0))) (rfl) ?_
  refine sx_istore_n (lv' := [some (.ref o), some (.int (nI (pu_c (bkS (rowS f (nCh W)) (max W 6)) (64 * 0)))), none, none]) C dS_howManyBlocks_1 rfl (by decide) rfl rfl ?_
  refine sx_iconst (v := 0) C dS_howManyBlocks_2 (by decide) ?_
  refine sx_eqi (nI 0) (rfl) ?_
  refine sx_istore_n (lv' := [some (.ref o), some (.int (nI (pu_c (bkS (rowS f (nCh W)) (max W 6)) (64 * 0)))), some (.int (nI 0)), none]) C dS_howManyBlocks_3 rfl (by decide) rfl rfl ?_
  refine sx_iconst (v := 0) C dS_howManyBlocks_4 (by decide) ?_
  refine sx_eqi (nI 0) (rfl) ?_
  refine sx_istore_n (lv' := [some (.ref o), some (.int (nI (pu_c (bkS (rowS f (nCh W)) (max W 6)) (64 * 0)))), some (.int (nI 0)), some (.int (nI 0))]) C dS_howManyBlocks_5 rfl (by decide) rfl rfl ?_
  have L6 : ∀ (fu : Nat) (i nx : Nat), nCh W - i < fu → (i ≤ nCh W) → (i ≤ nx) → (nx ≤ nCh W) → (bk_bd (rowS f (nCh W)) (max W 6) (64 * nx)) → SW p l e (rmL 2 0 0) s m [.ref o].toArray below meth c 4 D sxCl A 0 0 Q μ 6 [some (.ref o), some (.int (nI (pu_c (bkS (rowS f (nCh W)) (max W 6)) (64 * nx)))), some (.int (nI nx)), some (.int (nI i))] [] := by
    intro fu
    induction fu with
    | zero => intro _ _ h; exact absurd h (Nat.not_lt_zero _)
    | succ fu ih =>
      intro i nx hfu hi hinx hnx hbd
      refine sx_iload_n C dS_howManyBlocks_6 rfl rfl ?_
      refine sx_aload_n C dS_howManyBlocks_7 rfl rfl ?_
      refine sx_getf (Cn := RS) (T := TS) (N := 2) C dS_howManyBlocks_8 (sx_in inS) rfl 1 (by decide) (sx_w C kF_S_15) (fun _ h => h) ho rfl ?_
      refine sx_alen (v := nI (nCh W)) C dS_howManyBlocks_11 1 rfl hr9 rfl ?_
      refine sx_icmp_ge (tgt := 49) C dS_howManyBlocks_12 (by decide) (fun c12 => ?_) (fun c12 => ?_)
      · have hc : nCh W ≤ i := (nI_leI (by omega) (by omega)).mp c12
        obtain rfl : nx = nCh W := by omega
        refine sx_iload_n C dS_howManyBlocks_49 rfl rfl ?_
        exact sx_iretQ C hQ dS_howManyBlocks_50 hr hlocks (Nat.le_of_ble_eq_true rfl) (Nat.le_of_ble_eq_true rfl) (⟨rfl, rfl⟩)
      · have hc : ¬ nCh W ≤ i := fun h => c12 ((nI_leI (by omega) (by omega)).mpr h)
        refine sx_iload_n C dS_howManyBlocks_15 rfl rfl ?_
        refine sx_iload_n C dS_howManyBlocks_16 rfl rfl ?_
        refine sx_icmp_ne (tgt := 43) C dS_howManyBlocks_17 (by decide) (fun c17 => ?_) (fun c17 => ?_)
        · have hne : ¬ i = nx := fun h => c17 (by rw [h])
          refine sx_iinc (v := nI (i + 1)) (lv' := [some (.ref o), some (.int (nI (pu_c (bkS (rowS f (nCh W)) (max W 6)) (64 * nx)))), some (.int (nI nx)), some (.int (nI (i + 1)))]) C dS_howManyBlocks_43 rfl (nI_1 i) (by decide) rfl rfl ?_
          refine sx_goto (tgt := 6) C dS_howManyBlocks_46 (by decide) ?_
          exact ih (i + 1) nx (by omega) (by omega) (by omega) hnx hbd
        · obtain rfl : i = nx := (nI_eq (by omega) (by omega)).mp c17
          refine sx_iload_n C dS_howManyBlocks_20 rfl rfl ?_
          refine sx_aload_n C dS_howManyBlocks_21 rfl rfl ?_
          refine sx_getf (Cn := RS) (T := TS) (N := 2) C dS_howManyBlocks_22 (sx_in inS) rfl 1 (by decide) (sx_w C kF_S_15) (fun _ h => h) ho rfl ?_
          refine sx_iload_n C dS_howManyBlocks_25 rfl rfl ?_
          refine sx_lald (j := i) C dS_howManyBlocks_26 1 rfl hr9 (rfl) (by omega) (by omega) ?_
          refine sx_calll C (sx_runS (As := [.long (f i)]) (rest := [.int (nI (pu_c (bkS (rowS f (nCh W)) (max W 6)) (64 * i)))]) C sx_all (c_S_blockStarts l D tc (f i) μ) (sx_cwS C 1 kM_S_53 ks_S_blockStarts kn_S kc_S_blockStarts rfl rfl (by decide +kernel) ⟨Nat.le_of_ble_eq_true rfl, Nat.le_of_ble_eq_true rfl⟩) rfl rfl (Nat.le_of_ble_eq_true rfl) dS_howManyBlocks_27 ⟨Nat.le_of_ble_eq_true rfl, Nat.le_of_ble_eq_true rfl⟩) (fun r1 μ1 h1 => ?_)
          obtain ⟨hm, h1⟩ := h1
          subst hm
          refine sx_eql (bk_s (f i) 6 ||| bk_w (f i) 6) (h1) ?_
          refine sx_calli C (sx_runS (As := [.long (bk_s (f i) 6 ||| bk_w (f i) 6)]) (rest := [.int (nI (pu_c (bkS (rowS f (nCh W)) (max W 6)) (64 * i)))]) C sx_all (c_JL_bitCount l D tc (bk_s (f i) 6 ||| bk_w (f i) 6) μ) (sx_cwS C 1 kM_S_44 ks_JL_bitCount kn_JL kc_JL_bitCount rfl rfl (by decide +kernel) ⟨Nat.le_of_ble_eq_true rfl, Nat.le_of_ble_eq_true rfl⟩) rfl rfl (Nat.le_of_ble_eq_true rfl) dS_howManyBlocks_30 ⟨Nat.le_of_ble_eq_true rfl, Nat.le_of_ble_eq_true rfl⟩) (fun r2 μ2 h2 => ?_)
          obtain ⟨hm, h2⟩ := h2
          have hm := hm.symm
          subst hm
          refine sx_eqi (nI (pop64 (bk_s (f i) 6 ||| bk_w (f i) 6))) (h2) ?_
          refine sx_iadd C dS_howManyBlocks_33 ?_
          refine sx_eqi (nI (pu_c (bkS (rowS f (nCh W)) (max W 6)) (64 * i) + pop64 (bk_s (f i) 6 ||| bk_w (f i) 6))) (nI_add _ _) ?_
          refine sx_istore_n (lv' := [some (.ref o), some (.int (nI (pu_c (bkS (rowS f (nCh W)) (max W 6)) (64 * i) + pop64 (bk_s (f i) 6 ||| bk_w (f i) 6)))), some (.int (nI i)), some (.int (nI i))]) C dS_howManyBlocks_34 rfl (by decide) rfl rfl ?_
          refine sx_iload_n C dS_howManyBlocks_35 rfl rfl ?_
          refine sx_aload_n C dS_howManyBlocks_36 rfl rfl ?_
          refine sx_iload_n C dS_howManyBlocks_37 rfl rfl ?_
          refine sx_calli C (sx_runV (As := [.int (nI i)]) (rest := [.int (nI i)]) C sx_all (c_S_chunksToNext l D tc o r W (nCh W) i f μ hW hN (by omega) ho hr9) (ci := 1) rfl ho (sx_cwV C 1 kM_S_57 ki_S_chunksToNext ke_S_chunksToNext kn_S kc_S_chunksToNext rfl rfl (by decide +kernel) ⟨Nat.le_of_ble_eq_true rfl, Nat.le_of_ble_eq_true rfl⟩) rfl rfl (Nat.le_of_ble_eq_true rfl) dS_howManyBlocks_38 ⟨Nat.le_of_ble_eq_true rfl, Nat.le_of_ble_eq_true rfl⟩) (fun r3 μ3 h3 => ?_)
          obtain ⟨hm, j, hj, h3, hck⟩ := h3
          subst hm
          have hst := hb_step hok (by omega) hbd hck
          refine sx_eqi (nI (2 ^ j)) (h3) ?_
          refine sx_iadd C dS_howManyBlocks_41 ?_
          refine sx_eqi (nI (i + 2 ^ j)) (nI_add _ _) ?_
          refine sx_istore_n (lv' := [some (.ref o), some (.int (nI (pu_c (bkS (rowS f (nCh W)) (max W 6)) (64 * i) + pop64 (bk_s (f i) 6 ||| bk_w (f i) 6)))), some (.int (nI (i + 2 ^ j))), some (.int (nI i))]) C dS_howManyBlocks_42 rfl (by decide) rfl rfl ?_
          obtain ⟨nx2, enx⟩ : ∃ z, z = i + 2 ^ j := ⟨_, rfl⟩
          have hpos := Nat.two_pow_pos j
          rw [← enx] at hst
          refine sx_lvEq [some (.ref o), some (.int (nI (pu_c (bkS (rowS f (nCh W)) (max W 6)) (64 * nx2)))), some (.int (nI nx2)), some (.int (nI i))] (by rw [hst.2.2.1, enx]) ?_
          refine sx_iinc (v := nI (i + 1)) (lv' := [some (.ref o), some (.int (nI (pu_c (bkS (rowS f (nCh W)) (max W 6)) (64 * nx2)))), some (.int (nI nx2)), some (.int (nI (i + 1)))]) C dS_howManyBlocks_43 rfl (nI_1 i) (by decide) rfl rfl ?_
          refine sx_goto (tgt := 6) C dS_howManyBlocks_46 (by decide) ?_
          exact ih (i + 1) nx2 (by clear hst hck; omega) (by clear hst hck; omega) (by clear hst hck; omega) hst.1 hst.2.1
  exact L6 _ 0 0 (Nat.lt_succ_self _) (Nat.zero_le _) (Nat.le_refl _) (Nat.zero_le _) (fun m _ _ => Nat.zero_mod _)
