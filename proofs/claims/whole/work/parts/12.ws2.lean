/-- a condition of kind k beside v, of the field's number f -/
def cdH (f k v : Nat) : Bool := match k with
  | 0 => decide (f = v)
  | 1 => !decide (f = v)
  | 2 => decide (f < v)
  | 3 => decide (v < f)
  | 4 => decide (f ≤ v) && decide (pop32 (nI f) = 1)
  | _ => decide (v ≤ f) && decide (f % 2 = 0)
/-- the field's number of a word -/
def fld (a b w : Nat) : Nat := w / 2 ^ a % 2 ^ (b + 1 - a)
theorem fld_lt (a b w : Nat) : fld a b w < 2 ^ (b + 1 - a) := Nat.mod_lt _ (Nat.two_pow_pos _)
theorem jb_one (f : Nat) : nI f &&& 1 = nI (f % 2) := jb_low (k := 1) (by decide) (by decide)
theorem jb_fm {a b : Nat} (h : a ≤ b) (hb : b < 16) : jshl 2 (nI b - nI a) - 1 = nI (2 ^ (b + 1 - a) - 1) := by
  have : ∀ b, b < 16 → ∀ a, a ≤ b → jshl 2 (nI b - nI a) - 1 = nI (2 ^ (b + 1 - a) - 1) := by decide +kernel
  exact this b hb a h
theorem jb_fld {c i a b : Nat} (h : a ≤ b) (hb : b < 16) (hc : c * 64 + i < 2 ^ 31) : jshr (nI (c * 64 + i)) (nI a) &&& nI (2 ^ (b + 1 - a) - 1) = nI (fld a b (c * 64 + i)) := by
  rw [jb_sshr hc (by omega), jb_andI, Nat.and_two_pow_sub_one_eq_mod]
  rfl

set_option maxHeartbeats 4000000 in
set_option maxRecDepth 100000 in
/-- holds -/
theorem c_E_holds (l : Launch) (D : va_G) (tc : Nat → ClassId) (f kd v : Nat) (μ : sx_M) (hf : f < 2 ^ 31) (hk : kd ≤ 5) (hv : v < 2 ^ 31) : sx_Mi l yE_holds (Cond.code yE_holds cE_holds 3 (some .boolean) :: sxW) (rmL 1 0 0) D sxCl (sxT tc) sxE [.int (nI f), .int (nI kd), .int (nI v)] μ (fun r μ' => μ = μ' ∧ r = b2i (cdH f kd v)) 0 0 := by
  have hk6 : kd = 0 ∨ kd = 1 ∨ kd = 2 ∨ kd = 3 ∨ kd = 4 ∨ kd = 5 := by omega
  refine sx_ofiQ (cc := cE_holds) (maxL := 3) (ret := (some .boolean)) (own := RE) sxE_ok (by decide) rfl rfl (Nat.le_of_ble_eq_true rfl) [some (.int (nI f)), some (.int (nI kd)), some (.int (nI v))] 0 rfl (fun p e s m below meth c A Q hQ C hr hlocks hnm => ?_)
  refine sx_iload_n C dE_holds_0 rfl rfl ?_
  rcases hk6 with rfl | rfl | rfl | rfl | rfl | rfl
  · refine sx_tableIn (off := 35) (tgt := 36) C dE_holds_1 (by decide) (by decide) rfl (by decide) ?_
    refine sx_iload_n C dE_holds_36 rfl rfl ?_
    refine sx_iload_n C dE_holds_37 rfl rfl ?_
    refine sx_icmp_ne (tgt := 45) C dE_holds_38 (by decide) (fun c38 => ?_) (fun c38 => ?_)
    · have hx : ¬ f = v := fun h => c38 (by rw [h])
      refine sx_iconst (v := 0) C dE_holds_45 (by decide) ?_
      exact sx_zretQ C hQ dE_holds_46 hr (by simp) hlocks (Nat.le_of_ble_eq_true rfl) (Nat.le_of_ble_eq_true rfl) (⟨rfl, by simp [b2i, cdH, hx]⟩)
    · have hx : f = v := (nI_eq hf hv).mp c38
      refine sx_iconst (v := 1) C dE_holds_41 (by decide) ?_
      refine sx_goto (tgt := 46) C dE_holds_42 (by decide) ?_
      exact sx_zretQ C hQ dE_holds_46 hr (by simp) hlocks (Nat.le_of_ble_eq_true rfl) (Nat.le_of_ble_eq_true rfl) (⟨rfl, by simp [b2i, cdH, hx]⟩)
  · refine sx_tableIn (off := 46) (tgt := 47) C dE_holds_1 (by decide) (by decide) rfl (by decide) ?_
    refine sx_iload_n C dE_holds_47 rfl rfl ?_
    refine sx_iload_n C dE_holds_48 rfl rfl ?_
    refine sx_icmp_eq (tgt := 56) C dE_holds_49 (by decide) (fun c49 => ?_) (fun c49 => ?_)
    · have hx : f = v := (nI_eq hf hv).mp c49
      refine sx_iconst (v := 0) C dE_holds_56 (by decide) ?_
      exact sx_zretQ C hQ dE_holds_57 hr (by simp) hlocks (Nat.le_of_ble_eq_true rfl) (Nat.le_of_ble_eq_true rfl) (⟨rfl, by simp [b2i, cdH, hx]⟩)
    · have hx : ¬ f = v := fun h => c49 (by rw [h])
      refine sx_iconst (v := 1) C dE_holds_52 (by decide) ?_
      refine sx_goto (tgt := 57) C dE_holds_53 (by decide) ?_
      exact sx_zretQ C hQ dE_holds_57 hr (by simp) hlocks (Nat.le_of_ble_eq_true rfl) (Nat.le_of_ble_eq_true rfl) (⟨rfl, by simp [b2i, cdH, hx]⟩)
  · refine sx_tableIn (off := 57) (tgt := 58) C dE_holds_1 (by decide) (by decide) rfl (by decide) ?_
    refine sx_iload_n C dE_holds_58 rfl rfl ?_
    refine sx_iload_n C dE_holds_59 rfl rfl ?_
    refine sx_icmp_ge (tgt := 67) C dE_holds_60 (by decide) (fun c60 => ?_) (fun c60 => ?_)
    · have hx : ¬ f < v := Nat.not_lt.mpr ((nI_leI hv hf).mp c60)
      refine sx_iconst (v := 0) C dE_holds_67 (by decide) ?_
      exact sx_zretQ C hQ dE_holds_68 hr (by simp) hlocks (Nat.le_of_ble_eq_true rfl) (Nat.le_of_ble_eq_true rfl) (⟨rfl, by simp [b2i, cdH, hx]⟩)
    · have hx : f < v := Nat.not_le.mp (fun h => c60 ((nI_leI hv hf).mpr h))
      refine sx_iconst (v := 1) C dE_holds_63 (by decide) ?_
      refine sx_goto (tgt := 68) C dE_holds_64 (by decide) ?_
      exact sx_zretQ C hQ dE_holds_68 hr (by simp) hlocks (Nat.le_of_ble_eq_true rfl) (Nat.le_of_ble_eq_true rfl) (⟨rfl, by simp [b2i, cdH, hx]⟩)
  · refine sx_tableIn (off := 68) (tgt := 69) C dE_holds_1 (by decide) (by decide) rfl (by decide) ?_
    refine sx_iload_n C dE_holds_69 rfl rfl ?_
    refine sx_iload_n C dE_holds_70 rfl rfl ?_
    refine sx_icmp_le (tgt := 78) C dE_holds_71 (by decide) (fun c71 => ?_) (fun c71 => ?_)
    · have hx : ¬ v < f := Nat.not_lt.mpr ((nI_leI hf hv).mp c71)
      refine sx_iconst (v := 0) C dE_holds_78 (by decide) ?_
      exact sx_zretQ C hQ dE_holds_79 hr (by simp) hlocks (Nat.le_of_ble_eq_true rfl) (Nat.le_of_ble_eq_true rfl) (⟨rfl, by simp [b2i, cdH, hx]⟩)
    · have hx : v < f := Nat.not_le.mp (fun h => c71 ((nI_leI hf hv).mpr h))
      refine sx_iconst (v := 1) C dE_holds_74 (by decide) ?_
      refine sx_goto (tgt := 79) C dE_holds_75 (by decide) ?_
      exact sx_zretQ C hQ dE_holds_79 hr (by simp) hlocks (Nat.le_of_ble_eq_true rfl) (Nat.le_of_ble_eq_true rfl) (⟨rfl, by simp [b2i, cdH, hx]⟩)
  · refine sx_tableIn (off := 79) (tgt := 80) C dE_holds_1 (by decide) (by decide) rfl (by decide) ?_
    refine sx_iload_n C dE_holds_80 rfl rfl ?_
    refine sx_iload_n C dE_holds_81 rfl rfl ?_
    refine sx_icmp_gt (tgt := 97) C dE_holds_82 (by decide) (fun c82 => ?_) (fun c82 => ?_)
    · have hx : ¬ f ≤ v := Nat.not_le.mpr ((nI_ltI hv hf).mp c82)
      have hy : True := trivial
      refine sx_iconst (v := 0) C dE_holds_97 (by decide) ?_
      exact sx_zretQ C hQ dE_holds_98 hr (by simp) hlocks (Nat.le_of_ble_eq_true rfl) (Nat.le_of_ble_eq_true rfl) (⟨rfl, by simp [b2i, cdH, hx, hy]⟩)
    · have hx : f ≤ v := Nat.not_lt.mp (fun h => c82 ((nI_ltI hv hf).mpr h))
      refine sx_iload_n C dE_holds_85 rfl rfl ?_
      refine sx_calli C (sx_runS (As := [.int (nI f)]) (rest := []) C sx_all (c_JI_bitCount l D tc (nI f) μ) (sx_cwS C 1 kM_E_38 ks_JI_bitCount kn_JI kc_JI_bitCount rfl rfl (by decide +kernel) ⟨Nat.le_of_ble_eq_true rfl, Nat.le_of_ble_eq_true rfl⟩) rfl rfl (Nat.le_of_ble_eq_true rfl) dE_holds_86 ⟨Nat.le_of_ble_eq_true rfl, Nat.le_of_ble_eq_true rfl⟩) (fun r1 μ1 h1 => ?_)
      obtain ⟨hm, h1⟩ := h1
      have hm := hm.symm
      subst hm
      refine sx_eqi (nI (pop32 (nI f))) (h1) ?_
      refine sx_iconst (v := 1) C dE_holds_89 (by decide) ?_
      refine sx_icmp_ne (tgt := 97) C dE_holds_90 (by decide) (fun c90 => ?_) (fun c90 => ?_)
      · have hy : ¬ pop32 (nI f) = 1 := fun h => c90 (by rw [h]; rfl)
        refine sx_iconst (v := 0) C dE_holds_97 (by decide) ?_
        exact sx_zretQ C hQ dE_holds_98 hr (by simp) hlocks (Nat.le_of_ble_eq_true rfl) (Nat.le_of_ble_eq_true rfl) (⟨rfl, by simp [b2i, cdH, hx, hy]⟩)
      · have hy : pop32 (nI f) = 1 := (nI_eq (Nat.lt_of_le_of_lt (pu_c_le _ 32) (by decide)) (by decide)).mp c90
        refine sx_iconst (v := 1) C dE_holds_93 (by decide) ?_
        refine sx_goto (tgt := 98) C dE_holds_94 (by decide) ?_
        exact sx_zretQ C hQ dE_holds_98 hr (by simp) hlocks (Nat.le_of_ble_eq_true rfl) (Nat.le_of_ble_eq_true rfl) (⟨rfl, by simp [b2i, cdH, hx, hy]⟩)
  · refine sx_tableOut (tgt := 99) C dE_holds_1 (Or.inr (by decide)) (by decide) ?_
    refine sx_iload_n C dE_holds_99 rfl rfl ?_
    refine sx_iload_n C dE_holds_100 rfl rfl ?_
    refine sx_icmp_lt (tgt := 114) C dE_holds_101 (by decide) (fun c101 => ?_) (fun c101 => ?_)
    · have hx : ¬ v ≤ f := Nat.not_le.mpr ((nI_ltI hf hv).mp c101)
      have hy : True := trivial
      refine sx_iconst (v := 0) C dE_holds_114 (by decide) ?_
      exact sx_zretQ C hQ dE_holds_115 hr (by simp) hlocks (Nat.le_of_ble_eq_true rfl) (Nat.le_of_ble_eq_true rfl) (⟨rfl, by simp [b2i, cdH, hx, hy]⟩)
    · have hx : v ≤ f := Nat.not_lt.mp (fun h => c101 ((nI_ltI hf hv).mpr h))
      refine sx_iload_n C dE_holds_104 rfl rfl ?_
      refine sx_iconst (v := 1) C dE_holds_105 (by decide) ?_
      refine sx_iand C dE_holds_106 ?_
      refine sx_eqi (nI (f % 2)) (jb_one f) ?_
      refine sx_if_ne (tgt := 114) C dE_holds_107 (by decide) (fun c107 => ?_) (fun c107 => ?_)
      · have hy : ¬ f % 2 = 0 := fun h => c107 (by rw [h]; rfl)
        refine sx_iconst (v := 0) C dE_holds_114 (by decide) ?_
        exact sx_zretQ C hQ dE_holds_115 hr (by simp) hlocks (Nat.le_of_ble_eq_true rfl) (Nat.le_of_ble_eq_true rfl) (⟨rfl, by simp [b2i, cdH, hx, hy]⟩)
      · have hy : f % 2 = 0 := (nI_eq (by omega) (by decide)).mp c107
        refine sx_iconst (v := 1) C dE_holds_110 (by decide) ?_
        refine sx_goto (tgt := 115) C dE_holds_111 (by decide) ?_
        exact sx_zretQ C hQ dE_holds_115 hr (by simp) hlocks (Nat.le_of_ble_eq_true rfl) (Nat.le_of_ble_eq_true rfl) (⟨rfl, by simp [b2i, cdH, hx, hy]⟩)

theorem kc_lit {fc : Bool} {i j : Nat} {H : Nat → Bool} (h : j ≠ i) : (fc && (decide (i ≤ j) || H j)) = (fc && (decide (i + 1 ≤ j) || H j)) := by
  by_cases h2 : i ≤ j
  · simp [h2, show i + 1 ≤ j by omega]
  · simp [h2, show ¬ i + 1 ≤ j by omega]

set_option maxHeartbeats 4000000 in
set_option maxRecDepth 100000 in
/-- keptOfChunk -/
theorem c_S_keptOfChunk (l : Launch) (D : va_G) (tc : Nat → ClassId) (o r W n c0 a b kd v : Nat) (f : Nat → Int64) (μ : sx_M) (hn : n ≤ 1024) (hc0 : c0 < n) (hab : a ≤ b) (hb : b < 16) (hk : kd ≤ 5) (hv : v < 2 ^ 31) (ho : μ o = some (.inr (1, [.int (nI W), .ref r]))) (hr9 : μ r = some (.inl (tc 1, n, .inr (.inl f)))) : sx_Ml l yS_keptOfChunk (Cond.code yS_keptOfChunk cS_keptOfChunk 11 (some .long) :: sxW) (rmL 2 0 0) D sxCl (sxT tc) sxE [.ref o, .int (nI c0), .int (nI a), .int (nI b), .int (nI kd), .int (nI v)] μ (fun r μ' => μ = μ' ∧ ∀ j, j < 64 → bL r j = (bL (f c0) j && cdH (fld a b (c0 * 64 + j)) kd v)) 0 0 := by
  refine sx_oflQ (cc := cS_keptOfChunk) (maxL := 11) (ret := (some .long)) (own := RS) sxE_ok (by decide) rfl rfl (Nat.le_of_ble_eq_true rfl) [some (.ref o), some (.int (nI c0)), some (.int (nI a)), some (.int (nI b)), some (.int (nI kd)), some (.int (nI v)), none, none, none, none, none] 5 rfl (fun p e s m below meth c A Q hQ C hr hlocks hnm => ?_)
  refine sx_iconst (v := 2) C dS_keptOfChunk_0 (by decide) ?_
  refine sx_iload_n C dS_keptOfChunk_1 rfl rfl ?_
  refine sx_iload_n C dS_keptOfChunk_2 rfl rfl ?_
  refine sx_isub C dS_keptOfChunk_3 ?_
  refine sx_ishl C dS_keptOfChunk_4 ?_
  refine sx_iconst (v := 1) C dS_keptOfChunk_5 (by decide) ?_
  refine sx_isub C dS_keptOfChunk_6 ?_
  refine sx_eqi (nI (2 ^ (b + 1 - a) - 1)) (jb_fm hab hb) ?_
  refine sx_istore (lv' := [some (.ref o), some (.int (nI c0)), some (.int (nI a)), some (.int (nI b)), some (.int (nI kd)), some (.int (nI v)), some (.int (nI (2 ^ (b + 1 - a) - 1))), none, none, none, none]) C dS_keptOfChunk_7 (by decide) rfl rfl ?_
  refine sx_aload_n C dS_keptOfChunk_9 rfl rfl ?_
  refine sx_getf (Cn := RS) (T := TS) (N := 2) C dS_keptOfChunk_10 (sx_in inS) rfl 1 (by decide) (sx_w C kF_S_15) (fun _ h => h) ho rfl ?_
  refine sx_iload_n C dS_keptOfChunk_13 rfl rfl ?_
  refine sx_lald (j := c0) C dS_keptOfChunk_14 1 rfl hr9 (rfl) (hc0) (by omega) ?_
  refine sx_lstore (lv' := [some (.ref o), some (.int (nI c0)), some (.int (nI a)), some (.int (nI b)), some (.int (nI kd)), some (.int (nI v)), some (.int (nI (2 ^ (b + 1 - a) - 1))), some (.long (f c0)), none, none, none]) C dS_keptOfChunk_15 (by decide) rfl rfl ?_
  refine sx_iconst (v := 0) C dS_keptOfChunk_17 (by decide) ?_
  refine sx_eqi (nI 0) (rfl) ?_
  refine sx_istore (lv' := [some (.ref o), some (.int (nI c0)), some (.int (nI a)), some (.int (nI b)), some (.int (nI kd)), some (.int (nI v)), some (.int (nI (2 ^ (b + 1 - a) - 1))), some (.long (f c0)), none, some (.int (nI 0)), none]) C dS_keptOfChunk_18 (by decide) rfl rfl ?_
  have L20 : ∀ (fu : Nat) (i : Nat) (kp : Int64), 64 - i < fu → (i ≤ 64) → (∀ j, j < 64 → bL kp j = (bL (f c0) j && (decide (i ≤ j) || cdH (fld a b (c0 * 64 + j)) kd v))) → SW p l e (rmL 2 0 0) s m [.ref o, .int (nI c0), .int (nI a), .int (nI b), .int (nI kd), .int (nI v)].toArray below meth c 11 D sxCl A 0 0 Q μ 20 [some (.ref o), some (.int (nI c0)), some (.int (nI a)), some (.int (nI b)), some (.int (nI kd)), some (.int (nI v)), some (.int (nI (2 ^ (b + 1 - a) - 1))), some (.long kp), none, some (.int (nI i)), none] [] := by
    intro fu
    induction fu with
    | zero => intro _ _ h; exact absurd h (Nat.not_lt_zero _)
    | succ fu ih =>
      intro i kp hfu hi hinv
      refine sx_iload C dS_keptOfChunk_20 rfl ?_
      refine sx_bipush (v := 64) C dS_keptOfChunk_22 (by decide) ?_
      refine sx_icmp_ge (tgt := 80) C dS_keptOfChunk_24 (by decide) (fun c24 => ?_) (fun c24 => ?_)
      · have hc : 64 ≤ i := (nI_leI (by decide) (by omega)).mp c24
        obtain rfl : i = 64 := by omega
        refine sx_lload C dS_keptOfChunk_80 rfl ?_
        exact sx_lretQ C hQ dS_keptOfChunk_82 hr hlocks (Nat.le_of_ble_eq_true rfl) (Nat.le_of_ble_eq_true rfl) (⟨rfl, fun j hj => by rw [hinv j hj]; simp [show ¬ 64 ≤ j by omega]⟩)
      · have hc : ¬ 64 ≤ i := fun h => c24 ((nI_leI (by decide) (by omega)).mpr h)
        refine sx_iload_n C dS_keptOfChunk_27 rfl rfl ?_
        refine sx_bipush (v := 64) C dS_keptOfChunk_28 (by decide) ?_
        refine sx_imul C dS_keptOfChunk_30 ?_
        refine sx_eqi (nI (c0 * 64)) (pk_mul c0 64) ?_
        refine sx_iload C dS_keptOfChunk_31 rfl ?_
        refine sx_iadd C dS_keptOfChunk_33 ?_
        refine sx_eqi (nI (c0 * 64 + i)) (nI_add _ _) ?_
        refine sx_iload_n C dS_keptOfChunk_34 rfl rfl ?_
        refine sx_ishr C dS_keptOfChunk_35 ?_
        refine sx_iload C dS_keptOfChunk_36 rfl ?_
        refine sx_iand C dS_keptOfChunk_38 ?_
        refine sx_eqi (nI (fld a b (c0 * 64 + i))) (jb_fld hab hb (by omega)) ?_
        refine sx_istore (lv' := [some (.ref o), some (.int (nI c0)), some (.int (nI a)), some (.int (nI b)), some (.int (nI kd)), some (.int (nI v)), some (.int (nI (2 ^ (b + 1 - a) - 1))), some (.long kp), none, some (.int (nI i)), some (.int (nI (fld a b (c0 * 64 + i))))]) C dS_keptOfChunk_39 (by decide) rfl rfl ?_
        refine sx_lload C dS_keptOfChunk_41 rfl ?_
        refine sx_lconst (v := 1) C dS_keptOfChunk_43 (by decide) ?_
        refine sx_iload C dS_keptOfChunk_44 rfl ?_
        refine sx_lshl C dS_keptOfChunk_46 ?_
        refine sx_land C dS_keptOfChunk_47 ?_
        refine sx_lconst (v := 0) C dS_keptOfChunk_48 (by decide) ?_
        refine sx_lcmp C dS_keptOfChunk_49 ?_
        refine sx_if_eq (tgt := 74) C dS_keptOfChunk_50 (by decide) (fun c50 => ?_) (fun c50 => ?_)
        · have hbt : bL (f c0) i = false := by
            have h := (bL_test _ (show i < 2 ^ 31 by omega)).mp ((lg_cmp_eq _ _).mp c50)
            rw [Nat.mod_eq_of_lt (show i < 64 by omega), hinv i (by omega)] at h
            simpa using h
          refine sx_weak (lv' := [some (.ref o), some (.int (nI c0)), some (.int (nI a)), some (.int (nI b)), some (.int (nI kd)), some (.int (nI v)), some (.int (nI (2 ^ (b + 1 - a) - 1))), some (.long kp), none, some (.int (nI i)), none]) (And.intro rfl (And.intro rfl (And.intro rfl (And.intro rfl (And.intro rfl (And.intro rfl (And.intro rfl (And.intro rfl (And.intro rfl trivial))))))))) ?_
          refine sx_iinc (v := nI (i + 1)) (lv' := [some (.ref o), some (.int (nI c0)), some (.int (nI a)), some (.int (nI b)), some (.int (nI kd)), some (.int (nI v)), some (.int (nI (2 ^ (b + 1 - a) - 1))), some (.long kp), none, some (.int (nI (i + 1))), none]) C dS_keptOfChunk_74 rfl (nI_1 i) (by decide) rfl rfl ?_
          refine sx_goto (tgt := 20) C dS_keptOfChunk_77 (by decide) ?_
          exact ih (i + 1) kp (by omega) (by omega) (fun j hj => by
            rw [hinv j hj]
            by_cases e : j = i
            · subst e; first | (simp [hh]; done) | (simp [hbt]; done)
            · exact kc_lit (H := fun j => cdH (fld a b (c0 * 64 + j)) kd v) e)
        · have hbt : bL (f c0) i = true := by
            cases hz : bL (f c0) i
            · exact absurd ((lg_cmp_eq _ _).mpr ((bL_test _ (show i < 2 ^ 31 by omega)).mpr (by rw [Nat.mod_eq_of_lt (show i < 64 by omega), hinv i (by omega), hz]; rfl))) c50
            · rfl
          refine sx_iload C dS_keptOfChunk_53 rfl ?_
          refine sx_iload C dS_keptOfChunk_55 rfl ?_
          refine sx_iload C dS_keptOfChunk_57 rfl ?_
          refine sx_calli C (sx_runS (As := [.int (nI (fld a b (c0 * 64 + i))), .int (nI kd), .int (nI v)]) (rest := []) C sx_all (c_E_holds l D tc (fld a b (c0 * 64 + i)) kd v μ (Nat.lt_of_lt_of_le (fld_lt a b _) (Nat.le_trans (Nat.pow_le_pow_right (by decide) (show b + 1 - a ≤ 16 by omega)) (by decide))) hk hv) (sx_cwS C 3 kM_S_36 ks_E_holds kn_E kc_E_holds rfl rfl (by decide +kernel) ⟨Nat.le_of_ble_eq_true rfl, Nat.le_of_ble_eq_true rfl⟩) rfl rfl (Nat.le_of_ble_eq_true rfl) dS_keptOfChunk_59 ⟨Nat.le_of_ble_eq_true rfl, Nat.le_of_ble_eq_true rfl⟩) (fun r1 μ1 h1 => ?_)
          obtain ⟨hm, h1⟩ := h1
          have hm := hm.symm
          subst hm
          refine sx_if_ne (tgt := 74) C dS_keptOfChunk_62 (by decide) (fun c62 => ?_) (fun c62 => ?_)
          · have hh : cdH (fld a b (c0 * 64 + i)) kd v = true := by
              cases hz : cdH (fld a b (c0 * 64 + i)) kd v
              · exact absurd (by rw [h1, hz]; rfl) c62
              · rfl
            refine sx_weak (lv' := [some (.ref o), some (.int (nI c0)), some (.int (nI a)), some (.int (nI b)), some (.int (nI kd)), some (.int (nI v)), some (.int (nI (2 ^ (b + 1 - a) - 1))), some (.long kp), none, some (.int (nI i)), none]) (And.intro rfl (And.intro rfl (And.intro rfl (And.intro rfl (And.intro rfl (And.intro rfl (And.intro rfl (And.intro rfl (And.intro rfl trivial))))))))) ?_
            refine sx_iinc (v := nI (i + 1)) (lv' := [some (.ref o), some (.int (nI c0)), some (.int (nI a)), some (.int (nI b)), some (.int (nI kd)), some (.int (nI v)), some (.int (nI (2 ^ (b + 1 - a) - 1))), some (.long kp), none, some (.int (nI (i + 1))), none]) C dS_keptOfChunk_74 rfl (nI_1 i) (by decide) rfl rfl ?_
            refine sx_goto (tgt := 20) C dS_keptOfChunk_77 (by decide) ?_
            exact ih (i + 1) kp (by omega) (by omega) (fun j hj => by
              rw [hinv j hj]
              by_cases e : j = i
              · subst e; first | (simp [hh]; done) | (simp [hbt]; done)
              · exact kc_lit (H := fun j => cdH (fld a b (c0 * 64 + j)) kd v) e)
          · have hh : cdH (fld a b (c0 * 64 + i)) kd v = false := by
              cases hz : cdH (fld a b (c0 * 64 + i)) kd v
              · rfl
              · rw [h1, hz] at c62; exact absurd c62 (by decide)
            refine sx_lload C dS_keptOfChunk_65 rfl ?_
            refine sx_lconst (v := 1) C dS_keptOfChunk_67 (by decide) ?_
            refine sx_iload C dS_keptOfChunk_68 rfl ?_
            refine sx_lshl C dS_keptOfChunk_70 ?_
            refine sx_lxor C dS_keptOfChunk_71 ?_
            refine sx_lstore (lv' := [some (.ref o), some (.int (nI c0)), some (.int (nI a)), some (.int (nI b)), some (.int (nI kd)), some (.int (nI v)), some (.int (nI (2 ^ (b + 1 - a) - 1))), some (.long (kp ^^^ (jshlL 1 (nI i)))), none, some (.int (nI i)), some (.int (nI (fld a b (c0 * 64 + i))))]) C dS_keptOfChunk_72 (by decide) rfl rfl ?_
            refine sx_weak (lv' := [some (.ref o), some (.int (nI c0)), some (.int (nI a)), some (.int (nI b)), some (.int (nI kd)), some (.int (nI v)), some (.int (nI (2 ^ (b + 1 - a) - 1))), some (.long (kp ^^^ (jshlL 1 (nI i)))), none, some (.int (nI i)), none]) (And.intro rfl (And.intro rfl (And.intro rfl (And.intro rfl (And.intro rfl (And.intro rfl (And.intro rfl (And.intro rfl (And.intro rfl trivial))))))))) ?_
            refine sx_iinc (v := nI (i + 1)) (lv' := [some (.ref o), some (.int (nI c0)), some (.int (nI a)), some (.int (nI b)), some (.int (nI kd)), some (.int (nI v)), some (.int (nI (2 ^ (b + 1 - a) - 1))), some (.long (kp ^^^ (jshlL 1 (nI i)))), none, some (.int (nI (i + 1))), none]) C dS_keptOfChunk_74 rfl (nI_1 i) (by decide) rfl rfl ?_
            refine sx_goto (tgt := 20) C dS_keptOfChunk_77 (by decide) ?_
            exact ih (i + 1) (kp ^^^ (jshlL 1 (nI i))) (by omega) (by omega) (fun j hj => by
              rw [bL_xor, hinv j hj, bL_bit (by omega), Nat.mod_eq_of_lt (show i < 64 by omega)]
              by_cases e : j = i
              · subst e; simp [hh, hbt]
              · rw [decide_eq_false e, Bool.xor_false]; exact kc_lit (H := fun j => cdH (fld a b (c0 * 64 + j)) kd v) e)
  exact L20 _ 0 (f c0) (Nat.lt_succ_self _) (Nat.zero_le _) (fun j hj => by simp)
