/-- how many chunks a row has -/
def nCh (W : Nat) : Nat := 2 ^ (W - 6)
theorem nCh_le {W : Nat} (h : W ≤ 16) : nCh W ≤ 1024 := by
  have : ∀ W, W ≤ 16 → nCh W ≤ 1024 := by decide +kernel
  exact this W h
theorem nCh_pos (W : Nat) : 0 < nCh W := Nat.two_pow_pos _
theorem jb_max0 {W : Nat} (h : W ≤ 16) : (if 0 < nI W - 6 then nI W - 6 else 0) = nI (W - 6) := by
  have : ∀ W, W ≤ 16 → (if 0 < nI W - 6 then nI W - 6 else 0) = nI (W - 6) := by decide +kernel
  exact this W h
theorem jb_nCh {W : Nat} (h : W ≤ 16) : jshl 1 (nI (W - 6)) = nI (nCh W) := by
  have : ∀ W, W ≤ 16 → jshl 1 (nI (W - 6)) = nI (nCh W) := by decide +kernel
  exact this W h
theorem jb_63 (a : Nat) : nI a &&& 63 = nI (a % 64) := jb_low (k := 6) (by decide) (by decide)
theorem jb_s6 {a : Nat} (h : a < 2 ^ 31) : jshr (nI a) 6 = nI (a / 64) := jb_sshr (k := 6) h (by decide)
/-- a chunk of the words whose bits of a are b -/
def fxB (W a b c i : Nat) : Bool := decide (i < 2 ^ min 6 W) && decide (i &&& a % 64 = b % 64) && decide (c &&& a / 64 = b / 64)

theorem sx_com {μ : sx_M} {a b : Nat} {x y : va_E} (h : a ≠ b) : sx_up (sx_up μ b y) a x = sx_up (sx_up μ a x) b y := by
  funext q
  by_cases h1 : q = a
  · subst h1; rw [sx_up_s, sx_up_n _ _ h, sx_up_s]
  · by_cases h2 : q = b
    · subst h2; rw [sx_up_n _ _ h1, sx_up_s, sx_up_s]
    · rw [sx_up_n _ _ h1, sx_up_n _ _ h2, sx_up_n _ _ h2, sx_up_n _ _ h1]

set_option maxHeartbeats 4000000 in
set_option maxRecDepth 100000 in
/-- WordSet(int) -/
theorem c_S_init (l : Launch) (D : va_G) (tc : Nat → ClassId) (o W : Nat) (μ : sx_M) (ho : μ o = some (.inr (1, [.int 0, .null]))) : sx_Mv l yS_init (Cond.code yS_init cS_init 2 none :: sxW) (rmL 1 1 0) D sxCl (sxT tc) sxE [.ref o, .int (nI W)] μ (fun μ' => ∃ r, μ r = none ∧ r ≠ o ∧ sx_up (sx_up μ r (.inl (tc 1, 0, .inr (.inl (fun _ => 0))))) o (.inr (1, [.int (nI W), .ref r])) = μ') 1 0 := by
  refine sx_ofvQ (cc := cS_init) (maxL := 2) (ret := none) (own := RS) sxE_ok (by decide) rfl rfl (Nat.le_of_ble_eq_true rfl) [some (.ref o), some (.int (nI W))] 0 rfl (fun p e s m below meth c A Q hQ C hr hlocks hnm => ?_)
  refine sx_aload_n C dS_init_0 rfl rfl ?_
  refine sx_objInit C dS_init_1 (sx_w C kM_S_3) (sx_w C ki_obj) (sx_w C kc_obj) (Nat.le_of_ble_eq_true rfl) (Nat.le_of_ble_eq_true rfl) ?_
  refine sx_aload_n C dS_init_4 rfl rfl ?_
  refine sx_iload_n C dS_init_5 rfl rfl ?_
  refine sx_putF (Cn := RS) (T := TS) (N := 2) (ty := .int) (fs' := [.int (nI W), .null]) C dS_init_6 (sx_in inS) tS tS_ok nS rfl 0 (by decide) (sx_w C kF_S_9) (fun _ h => h) rfl (hnm.trans rfl) rfl (by decide +kernel) rfl rfl ho (by simp) rfl ?_
  refine sx_aload_n C dS_init_9 rfl rfl ?_
  refine sx_iconst (v := 0) C dS_init_10 (by decide) ?_
  refine sx_eqi (nI 0) (rfl) ?_
  refine sx_newa (N := 0) (a0 := (0, .inr (.inl (fun _ => 0)))) C dS_init_11 (sx_w C ka_long) rfl 1 rfl sx_unJ (fun _ => by first | rfl | (rw [vp_cell_l]; rfl)) (rfl) (by decide) (by decide) (Nat.le_of_ble_eq_true rfl) (Nat.le_of_ble_eq_true rfl) (fun q hq => ?_)
  have hoq : o ≠ q := sx_nw (sx_up_s μ o (.inr (1, [.int (nI W), .null]))) hq
  refine sx_putf (Cn := RS) (T := TS) (N := 2) (ty := .array .long) (fs' := [.int (nI W), .ref q]) C dS_init_13 (sx_in inS) tS tS_ok nS rfl 1 (by decide) (sx_w C kF_S_15) (fun _ h => h) rfl (by decide +kernel) rfl rfl (sx_upo (sx_nw (sx_up_s _ _ _) hq) (sx_up_s _ _ _)) (by simp) rfl ?_
  exact sx_vretQ C hQ dS_init_16 hr hlocks (Nat.le_of_ble_eq_true rfl) (Nat.le_of_ble_eq_true rfl) (⟨q, by rw [sx_up_n _ _ (Ne.symm hoq)] at hq; exact hq, Ne.symm hoq, by rw [sx_com (Ne.symm hoq), sx_up_up]⟩)

theorem ko_step {f g : Nat → Int64} {i : Nat} {t : Bool} {k : Int64} {H : Nat → Nat → Bool} (h1 : ∀ j, j < i → ∀ q, q < 64 → bL (g j) q = (bL (f j) q && H j q)) (h2 : ∀ j, i ≤ j → g j = f j) (h3 : t = true ↔ ∃ j, j < i ∧ g j ≠ f j) (hk : ∀ q, q < 64 → bL k q = (bL (f i) q && H i q)) :
    (∀ j, j < i + 1 → ∀ q, q < 64 → bL (va_up g i k j) q = (bL (f j) q && H j q)) ∧ (∀ j, i + 1 ≤ j → va_up g i k j = f j) ∧ ((t || decide (k ≠ f i)) = true ↔ ∃ j, j < i + 1 ∧ va_up g i k j ≠ f j) := by
  refine ⟨fun j hj q hq => ?_, fun j hj => ?_, ?_⟩
  · by_cases e : j = i
    · subst e; rw [va_up_self]; exact hk q hq
    · rw [va_up_ne _ _ e]; exact h1 j (by omega) q hq
  · rw [va_up_ne _ _ (by omega)]; exact h2 j (by omega)
  · rw [Bool.or_eq_true, decide_eq_true_eq, h3]
    constructor
    · rintro (⟨j, hj, hne⟩ | hne)
      · exact ⟨j, by omega, by rw [va_up_ne _ _ (by omega)]; exact hne⟩
      · exact ⟨i, by omega, by rw [va_up_self]; exact hne⟩
    · rintro ⟨j, hj, hne⟩
      by_cases e : j = i
      · subst e; rw [va_up_self] at hne; exact Or.inr hne
      · rw [va_up_ne _ _ e] at hne; exact Or.inl ⟨j, by omega, hne⟩
theorem ko_or (t : Bool) {x y : Int64} (b : Int32) (h : b = b2i (decide (x ≠ y))) : b2i t ||| b = b2i (t || decide (x ≠ y)) := by
  rw [h]
  cases t <;> cases decide (x ≠ y) <;> rfl

set_option maxHeartbeats 4000000 in
set_option maxRecDepth 100000 in
/-- keepOnly -/
theorem c_S_keepOnly (l : Launch) (D : va_G) (tc : Nat → ClassId) (o r W n a b kd v : Nat) (f : Nat → Int64) (μ : sx_M) (hn : n ≤ 1024) (hab : a ≤ b) (hb : b < 16) (hk : kd ≤ 5) (hv : v < 2 ^ 31) (ho : μ o = some (.inr (1, [.int (nI W), .ref r]))) (hr9 : μ r = some (.inl (tc 1, n, .inr (.inl f)))) : sx_Mi l yS_keepOnly (Cond.code yS_keepOnly cS_keepOnly 9 (some .boolean) :: sxW) (rmL 3 0 0) D sxCl (sxT tc) sxE [.ref o, .int (nI a), .int (nI b), .int (nI kd), .int (nI v)] μ (fun r2 μ' => ∃ (g : Nat → Int64) (t : Bool), sx_up μ r (.inl (tc 1, n, .inr (.inl g))) = μ' ∧ r2 = b2i t ∧ (∀ j, j < n → ∀ i, i < 64 → bL (g j) i = (bL (f j) i && cdH (fld a b (j * 64 + i)) kd v)) ∧ (t = true ↔ ∃ j, j < n ∧ g j ≠ f j)) 0 0 := by
  have ho1 : ∀ g, sx_up μ r (.inl (tc 1, n, .inr (.inl g))) o = some (.inr (1, [.int (nI W), .ref r])) := fun g => sx_upo (sx_ne ho hr9 (by simp)) ho
  refine sx_ofiQ (cc := cS_keepOnly) (maxL := 9) (ret := (some .boolean)) (own := RS) sxE_ok (by decide) rfl rfl (Nat.le_of_ble_eq_true rfl) [some (.ref o), some (.int (nI a)), some (.int (nI b)), some (.int (nI kd)), some (.int (nI v)), none, none, none, none] 4 rfl (fun p e s m below meth c A Q hQ C hr hlocks hnm => ?_)
  refine sx_iconst (v := 0) C dS_keepOnly_0 (by decide) ?_
  refine sx_eqi (b2i false) (rfl) ?_
  refine sx_istore (lv' := [some (.ref o), some (.int (nI a)), some (.int (nI b)), some (.int (nI kd)), some (.int (nI v)), some (.int (b2i false)), none, none, none]) C dS_keepOnly_1 (by decide) rfl rfl ?_
  refine sx_iconst (v := 0) C dS_keepOnly_3 (by decide) ?_
  refine sx_eqi (nI 0) (rfl) ?_
  refine sx_istore (lv' := [some (.ref o), some (.int (nI a)), some (.int (nI b)), some (.int (nI kd)), some (.int (nI v)), some (.int (b2i false)), some (.int (nI 0)), none, none]) C dS_keepOnly_4 (by decide) rfl rfl ?_
  refine sx_mu (sx_up μ r (.inl (tc 1, n, .inr (.inl f)))) (by rw [sx_up_id μ hr9]) ?_
  have L6 : ∀ (fu : Nat) (i : Nat) (g : Nat → Int64) (t : Bool), n - i < fu → (i ≤ n) → (∀ j, j < i → ∀ q, q < 64 → bL (g j) q = (bL (f j) q && cdH (fld a b (j * 64 + q)) kd v)) → (∀ j, i ≤ j → g j = f j) → (t = true ↔ ∃ j, j < i ∧ g j ≠ f j) → SW p l e (rmL 3 0 0) s m [.ref o, .int (nI a), .int (nI b), .int (nI kd), .int (nI v)].toArray below meth c 9 D sxCl A 0 0 Q (sx_up μ r (.inl (tc 1, n, .inr (.inl g)))) 6 [some (.ref o), some (.int (nI a)), some (.int (nI b)), some (.int (nI kd)), some (.int (nI v)), some (.int (b2i t)), some (.int (nI i)), none, none] [] := by
    intro fu
    induction fu with
    | zero => intro _ _ _ h; exact absurd h (Nat.not_lt_zero _)
    | succ fu ih =>
      intro i g t hfu hi h1 h2 h3
      refine sx_iload C dS_keepOnly_6 rfl ?_
      refine sx_aload_n C dS_keepOnly_8 rfl rfl ?_
      refine sx_getf (Cn := RS) (T := TS) (N := 2) C dS_keepOnly_9 (sx_in inS) rfl 1 (by decide) (sx_w C kF_S_15) (fun _ h => h) (ho1 g) rfl ?_
      refine sx_alen (v := nI n) C dS_keepOnly_12 1 rfl (sx_up_s _ _ _) rfl ?_
      refine sx_icmp_ge (tgt := 83) C dS_keepOnly_13 (by decide) (fun c13 => ?_) (fun c13 => ?_)
      · have hc : n ≤ i := (nI_leI (by omega) (by omega)).mp c13
        obtain rfl : i = n := by omega
        refine sx_iload C dS_keepOnly_83 rfl ?_
        exact sx_zretQ C hQ dS_keepOnly_85 hr (b2i_01 t) hlocks (Nat.le_of_ble_eq_true rfl) (Nat.le_of_ble_eq_true rfl) (⟨g, t, rfl, rfl, h1, h3⟩)
      · have hc : ¬ n ≤ i := fun h => c13 ((nI_leI (by omega) (by omega)).mpr h)
        refine sx_aload_n C dS_keepOnly_16 rfl rfl ?_
        refine sx_getf (Cn := RS) (T := TS) (N := 2) C dS_keepOnly_17 (sx_in inS) rfl 1 (by decide) (sx_w C kF_S_15) (fun _ h => h) (ho1 g) rfl ?_
        refine sx_iload C dS_keepOnly_20 rfl ?_
        refine sx_lald (j := i) C dS_keepOnly_22 1 rfl (sx_up_s _ _ _) (rfl) (by omega) (by omega) ?_
        refine sx_lconst (v := 0) C dS_keepOnly_23 (by decide) ?_
        refine sx_lcmp C dS_keepOnly_24 ?_
        refine sx_if_ne (tgt := 32) C dS_keepOnly_25 (by decide) (fun c25 => ?_) (fun c25 => ?_)
        · refine sx_aload_n C dS_keepOnly_32 rfl rfl ?_
          refine sx_iload C dS_keepOnly_33 rfl ?_
          refine sx_iload_n C dS_keepOnly_35 rfl rfl ?_
          refine sx_iload_n C dS_keepOnly_36 rfl rfl ?_
          refine sx_iload_n C dS_keepOnly_37 rfl rfl ?_
          refine sx_iload C dS_keepOnly_38 rfl ?_
          refine sx_calll C (sx_runV (As := [.int (nI i), .int (nI a), .int (nI b), .int (nI kd), .int (nI v)]) (rest := []) C sx_all (c_S_keptOfChunk l D tc o r W n i a b kd v g (sx_up μ r (.inl (tc 1, n, .inr (.inl g)))) hn (by omega) hab hb hk hv (ho1 g) (sx_up_s _ _ _)) (ci := 1) rfl (ho1 g) (sx_cwV C 5 kM_S_32 ki_S_keptOfChunk ke_S_keptOfChunk kn_S kc_S_keptOfChunk rfl rfl (by decide +kernel) ⟨Nat.le_of_ble_eq_true rfl, Nat.le_of_ble_eq_true rfl⟩) rfl rfl (Nat.le_of_ble_eq_true rfl) dS_keepOnly_40 ⟨Nat.le_of_ble_eq_true rfl, Nat.le_of_ble_eq_true rfl⟩) (fun r1 μ1 h1k => ?_)
          obtain ⟨hm, h1k⟩ := h1k
          subst hm
          refine sx_topl (fun kk ekk => ?_)
          have hkk : ∀ q, q < 64 → bL kk q = (bL (f i) q && cdH (fld a b (i * 64 + q)) kd v) := fun q hq => by rw [ekk, h1k q hq, h2 i (Nat.le_refl _)]
          have hst := ko_step (H := fun j q => cdH (fld a b (j * 64 + q)) kd v) h1 h2 h3 hkk
          refine sx_lstore (lv' := [some (.ref o), some (.int (nI a)), some (.int (nI b)), some (.int (nI kd)), some (.int (nI v)), some (.int (b2i t)), some (.int (nI i)), some (.long kk), none]) C dS_keepOnly_43 (by decide) rfl rfl ?_
          refine sx_iload C dS_keepOnly_45 rfl ?_
          refine sx_lload C dS_keepOnly_47 rfl ?_
          refine sx_aload_n C dS_keepOnly_49 rfl rfl ?_
          refine sx_getf (Cn := RS) (T := TS) (N := 2) C dS_keepOnly_50 (sx_in inS) rfl 1 (by decide) (sx_w C kF_S_15) (fun _ h => h) (ho1 g) rfl ?_
          refine sx_iload C dS_keepOnly_53 rfl ?_
          refine sx_lald (j := i) C dS_keepOnly_55 1 rfl (sx_up_s _ _ _) (rfl) (by omega) (by omega) ?_
          refine sx_lcmp C dS_keepOnly_56 ?_
          refine sx_if_eq (tgt := 64) C dS_keepOnly_57 (by decide) (fun c57 => ?_) (fun c57 => ?_)
          · have hd : decide (kk ≠ f i) = false := by
              have := (lg_cmp_eq _ _).mp c57
              rw [h2 i (Nat.le_refl _)] at this
              simp [this]
            refine sx_iconst (v := 0) C dS_keepOnly_64 (by decide) ?_
            refine sx_ior C dS_keepOnly_65 ?_
            refine sx_eqi (b2i (t || decide (kk ≠ f i))) (ko_or t _ (by rw [hd]; rfl)) ?_
            refine sx_istore (lv' := [some (.ref o), some (.int (nI a)), some (.int (nI b)), some (.int (nI kd)), some (.int (nI v)), some (.int (b2i (t || decide (kk ≠ f i)))), some (.int (nI i)), some (.long kk), none]) C dS_keepOnly_66 (by decide) rfl rfl ?_
            refine sx_aload_n C dS_keepOnly_68 rfl rfl ?_
            refine sx_getf (Cn := RS) (T := TS) (N := 2) C dS_keepOnly_69 (sx_in inS) rfl 1 (by decide) (sx_w C kF_S_15) (fun _ h => h) (ho1 g) rfl ?_
            refine sx_iload C dS_keepOnly_72 rfl ?_
            refine sx_lload C dS_keepOnly_74 rfl ?_
            refine sx_last (j := i) C dS_keepOnly_76 1 rfl (sx_up_s _ _ _) (rfl) (by omega) (by omega) ?_
            refine sx_mu (sx_up μ r (.inl (tc 1, n, .inr (.inl (va_up g i kk))))) (by rw [sx_up_up]) ?_
            refine sx_weak (lv' := [some (.ref o), some (.int (nI a)), some (.int (nI b)), some (.int (nI kd)), some (.int (nI v)), some (.int (b2i (t || decide (kk ≠ f i)))), some (.int (nI i)), none, none]) (And.intro rfl (And.intro rfl (And.intro rfl (And.intro rfl (And.intro rfl (And.intro rfl (And.intro rfl trivial))))))) ?_
            refine sx_iinc (v := nI (i + 1)) (lv' := [some (.ref o), some (.int (nI a)), some (.int (nI b)), some (.int (nI kd)), some (.int (nI v)), some (.int (b2i (t || decide (kk ≠ f i)))), some (.int (nI (i + 1))), none, none]) C dS_keepOnly_77 rfl (nI_1 i) (by decide) rfl rfl ?_
            refine sx_goto (tgt := 6) C dS_keepOnly_80 (by decide) ?_
            exact ih (i + 1) (va_up g i kk) (t || decide (kk ≠ f i)) (by clear hst h3; omega) (by clear hst h3; omega) hst.1 hst.2.1 hst.2.2
          · have hd : decide (kk ≠ f i) = true := by
              have : ¬ kk = g i := fun h => c57 ((lg_cmp_eq _ _).mpr h)
              rw [h2 i (Nat.le_refl _)] at this
              simp [this]
            refine sx_iconst (v := 1) C dS_keepOnly_60 (by decide) ?_
            refine sx_goto (tgt := 65) C dS_keepOnly_61 (by decide) ?_
            refine sx_ior C dS_keepOnly_65 ?_
            refine sx_eqi (b2i (t || decide (kk ≠ f i))) (ko_or t _ (by rw [hd]; rfl)) ?_
            refine sx_istore (lv' := [some (.ref o), some (.int (nI a)), some (.int (nI b)), some (.int (nI kd)), some (.int (nI v)), some (.int (b2i (t || decide (kk ≠ f i)))), some (.int (nI i)), some (.long kk), none]) C dS_keepOnly_66 (by decide) rfl rfl ?_
            refine sx_aload_n C dS_keepOnly_68 rfl rfl ?_
            refine sx_getf (Cn := RS) (T := TS) (N := 2) C dS_keepOnly_69 (sx_in inS) rfl 1 (by decide) (sx_w C kF_S_15) (fun _ h => h) (ho1 g) rfl ?_
            refine sx_iload C dS_keepOnly_72 rfl ?_
            refine sx_lload C dS_keepOnly_74 rfl ?_
            refine sx_last (j := i) C dS_keepOnly_76 1 rfl (sx_up_s _ _ _) (rfl) (by omega) (by omega) ?_
            refine sx_mu (sx_up μ r (.inl (tc 1, n, .inr (.inl (va_up g i kk))))) (by rw [sx_up_up]) ?_
            refine sx_weak (lv' := [some (.ref o), some (.int (nI a)), some (.int (nI b)), some (.int (nI kd)), some (.int (nI v)), some (.int (b2i (t || decide (kk ≠ f i)))), some (.int (nI i)), none, none]) (And.intro rfl (And.intro rfl (And.intro rfl (And.intro rfl (And.intro rfl (And.intro rfl (And.intro rfl trivial))))))) ?_
            refine sx_iinc (v := nI (i + 1)) (lv' := [some (.ref o), some (.int (nI a)), some (.int (nI b)), some (.int (nI kd)), some (.int (nI v)), some (.int (b2i (t || decide (kk ≠ f i)))), some (.int (nI (i + 1))), none, none]) C dS_keepOnly_77 rfl (nI_1 i) (by decide) rfl rfl ?_
            refine sx_goto (tgt := 6) C dS_keepOnly_80 (by decide) ?_
            exact ih (i + 1) (va_up g i kk) (t || decide (kk ≠ f i)) (by clear hst h3; omega) (by clear hst h3; omega) hst.1 hst.2.1 hst.2.2
        · have hz : g i = 0 := (lg_cmp_eq _ _).mp c25
          refine sx_lconst (v := 0) C dS_keepOnly_28 (by decide) ?_
          refine sx_goto (tgt := 43) C dS_keepOnly_29 (by decide) ?_
          refine sx_topl (fun kk ekk => ?_)
          have hkk : ∀ q, q < 64 → bL kk q = (bL (f i) q && cdH (fld a b (i * 64 + q)) kd v) := fun q hq => by rw [ekk, bL_0, ← h2 i (Nat.le_refl _), hz, bL_0, Bool.false_and]
          have hst := ko_step (H := fun j q => cdH (fld a b (j * 64 + q)) kd v) h1 h2 h3 hkk
          refine sx_lstore (lv' := [some (.ref o), some (.int (nI a)), some (.int (nI b)), some (.int (nI kd)), some (.int (nI v)), some (.int (b2i t)), some (.int (nI i)), some (.long kk), none]) C dS_keepOnly_43 (by decide) rfl rfl ?_
          refine sx_iload C dS_keepOnly_45 rfl ?_
          refine sx_lload C dS_keepOnly_47 rfl ?_
          refine sx_aload_n C dS_keepOnly_49 rfl rfl ?_
          refine sx_getf (Cn := RS) (T := TS) (N := 2) C dS_keepOnly_50 (sx_in inS) rfl 1 (by decide) (sx_w C kF_S_15) (fun _ h => h) (ho1 g) rfl ?_
          refine sx_iload C dS_keepOnly_53 rfl ?_
          refine sx_lald (j := i) C dS_keepOnly_55 1 rfl (sx_up_s _ _ _) (rfl) (by omega) (by omega) ?_
          refine sx_lcmp C dS_keepOnly_56 ?_
          refine sx_if_eq (tgt := 64) C dS_keepOnly_57 (by decide) (fun c57 => ?_) (fun c57 => ?_)
          · have hd : decide (kk ≠ f i) = false := by
              have := (lg_cmp_eq _ _).mp c57
              rw [h2 i (Nat.le_refl _)] at this
              simp [this]
            refine sx_iconst (v := 0) C dS_keepOnly_64 (by decide) ?_
            refine sx_ior C dS_keepOnly_65 ?_
            refine sx_eqi (b2i (t || decide (kk ≠ f i))) (ko_or t _ (by rw [hd]; rfl)) ?_
            refine sx_istore (lv' := [some (.ref o), some (.int (nI a)), some (.int (nI b)), some (.int (nI kd)), some (.int (nI v)), some (.int (b2i (t || decide (kk ≠ f i)))), some (.int (nI i)), some (.long kk), none]) C dS_keepOnly_66 (by decide) rfl rfl ?_
            refine sx_aload_n C dS_keepOnly_68 rfl rfl ?_
            refine sx_getf (Cn := RS) (T := TS) (N := 2) C dS_keepOnly_69 (sx_in inS) rfl 1 (by decide) (sx_w C kF_S_15) (fun _ h => h) (ho1 g) rfl ?_
            refine sx_iload C dS_keepOnly_72 rfl ?_
            refine sx_lload C dS_keepOnly_74 rfl ?_
            refine sx_last (j := i) C dS_keepOnly_76 1 rfl (sx_up_s _ _ _) (rfl) (by omega) (by omega) ?_
            refine sx_mu (sx_up μ r (.inl (tc 1, n, .inr (.inl (va_up g i kk))))) (by rw [sx_up_up]) ?_
            refine sx_weak (lv' := [some (.ref o), some (.int (nI a)), some (.int (nI b)), some (.int (nI kd)), some (.int (nI v)), some (.int (b2i (t || decide (kk ≠ f i)))), some (.int (nI i)), none, none]) (And.intro rfl (And.intro rfl (And.intro rfl (And.intro rfl (And.intro rfl (And.intro rfl (And.intro rfl trivial))))))) ?_
            refine sx_iinc (v := nI (i + 1)) (lv' := [some (.ref o), some (.int (nI a)), some (.int (nI b)), some (.int (nI kd)), some (.int (nI v)), some (.int (b2i (t || decide (kk ≠ f i)))), some (.int (nI (i + 1))), none, none]) C dS_keepOnly_77 rfl (nI_1 i) (by decide) rfl rfl ?_
            refine sx_goto (tgt := 6) C dS_keepOnly_80 (by decide) ?_
            exact ih (i + 1) (va_up g i kk) (t || decide (kk ≠ f i)) (by clear hst h3; omega) (by clear hst h3; omega) hst.1 hst.2.1 hst.2.2
          · have hd : decide (kk ≠ f i) = true := by
              have : ¬ kk = g i := fun h => c57 ((lg_cmp_eq _ _).mpr h)
              rw [h2 i (Nat.le_refl _)] at this
              simp [this]
            refine sx_iconst (v := 1) C dS_keepOnly_60 (by decide) ?_
            refine sx_goto (tgt := 65) C dS_keepOnly_61 (by decide) ?_
            refine sx_ior C dS_keepOnly_65 ?_
            refine sx_eqi (b2i (t || decide (kk ≠ f i))) (ko_or t _ (by rw [hd]; rfl)) ?_
            refine sx_istore (lv' := [some (.ref o), some (.int (nI a)), some (.int (nI b)), some (.int (nI kd)), some (.int (nI v)), some (.int (b2i (t || decide (kk ≠ f i)))), some (.int (nI i)), some (.long kk), none]) C dS_keepOnly_66 (by decide) rfl rfl ?_
            refine sx_aload_n C dS_keepOnly_68 rfl rfl ?_
            refine sx_getf (Cn := RS) (T := TS) (N := 2) C dS_keepOnly_69 (sx_in inS) rfl 1 (by decide) (sx_w C kF_S_15) (fun _ h => h) (ho1 g) rfl ?_
            refine sx_iload C dS_keepOnly_72 rfl ?_
            refine sx_lload C dS_keepOnly_74 rfl ?_
            refine sx_last (j := i) C dS_keepOnly_76 1 rfl (sx_up_s _ _ _) (rfl) (by omega) (by omega) ?_
            refine sx_mu (sx_up μ r (.inl (tc 1, n, .inr (.inl (va_up g i kk))))) (by rw [sx_up_up]) ?_
            refine sx_weak (lv' := [some (.ref o), some (.int (nI a)), some (.int (nI b)), some (.int (nI kd)), some (.int (nI v)), some (.int (b2i (t || decide (kk ≠ f i)))), some (.int (nI i)), none, none]) (And.intro rfl (And.intro rfl (And.intro rfl (And.intro rfl (And.intro rfl (And.intro rfl (And.intro rfl trivial))))))) ?_
            refine sx_iinc (v := nI (i + 1)) (lv' := [some (.ref o), some (.int (nI a)), some (.int (nI b)), some (.int (nI kd)), some (.int (nI v)), some (.int (b2i (t || decide (kk ≠ f i)))), some (.int (nI (i + 1))), none, none]) C dS_keepOnly_77 rfl (nI_1 i) (by decide) rfl rfl ?_
            refine sx_goto (tgt := 6) C dS_keepOnly_80 (by decide) ?_
            exact ih (i + 1) (va_up g i kk) (t || decide (kk ≠ f i)) (by clear hst h3; omega) (by clear hst h3; omega) hst.1 hst.2.1 hst.2.2
  exact L6 _ 0 f false (Nat.lt_succ_self _) (Nat.zero_le _) (fun j hj => absurd hj (Nat.not_lt_zero _)) (fun _ _ => rfl) ⟨fun h => (by cases h), fun ⟨j, hj, _⟩ => absurd hj (Nat.not_lt_zero _)⟩

set_option maxHeartbeats 4000000 in
set_option maxRecDepth 100000 in
/-- setToFixed -/
theorem c_S_setToFixed (l : Launch) (D : va_G) (tc : Nat → ClassId) (o r W n a b : Nat) (f : Nat → Int64) (μ : sx_M) (hW : W ≤ 16) (hn : n = 0 ∨ n = nCh W) (ha : a < 2 ^ 31) (hb : b < 2 ^ 31) (ho : μ o = some (.inr (1, [.int (nI W), .ref r]))) (hr9 : μ r = some (.inl (tc 1, n, .inr (.inl f)))) : sx_Mv l yS_setToFixed (Cond.code yS_setToFixed cS_setToFixed 8 none :: sxW) (rmL 2 1 1024) D sxCl (sxT tc) sxE [.ref o, .int (nI a), .int (nI b)] μ (fun μ' => ∃ (r2 : Nat) (g : Nat → Int64), (r2 = r ∨ μ r2 = none) ∧ (n ≠ 0 → r2 = r) ∧ sx_up (sx_up μ o (.inr (1, [.int (nI W), .ref r2]))) r2 (.inl (tc 1, nCh W, .inr (.inl g))) = μ' ∧ ∀ c, c < nCh W → ∀ i, i < 64 → bL (g c) i = fxB W a b c i) 1 1024 := by
  have hN := nCh_le hW
  refine sx_ofvQ (cc := cS_setToFixed) (maxL := 8) (ret := none) (own := RS) sxE_ok (by decide) rfl rfl (Nat.le_of_ble_eq_true rfl) [some (.ref o), some (.int (nI a)), some (.int (nI b)), none, none, none, none, none] 5 rfl (fun p e s m below meth c A Q hQ C hr hlocks hnm => ?_)
  have J27 : ∀ (r2 : Nat) (g : Nat → Int64), (r2 = r ∨ μ r2 = none) → (n ≠ 0 → r2 = r) → (o ≠ r2) → SW p l e (rmL 2 1 1024) s m [.ref o, .int (nI a), .int (nI b)].toArray below meth c 8 D sxCl A 1 1024 Q (sx_up (sx_up μ o (.inr (1, [.int (nI W), .ref r2]))) r2 (.inl (tc 1, nCh W, .inr (.inl g)))) 27 [some (.ref o), some (.int (nI a)), some (.int (nI b)), none, none, none, none, none] [] := by
    intro r2 g hr2 hr3 hor
    have ho2 : ∀ g, sx_up (sx_up μ o (.inr (1, [.int (nI W), .ref r2]))) r2 (.inl (tc 1, nCh W, .inr (.inl g))) o = some (.inr (1, [.int (nI W), .ref r2])) := fun g => sx_upo hor (sx_up_s _ _ _)
    refine sx_aload_n C dS_setToFixed_27 rfl rfl ?_
    refine sx_iload_n C dS_setToFixed_28 rfl rfl ?_
    refine sx_bipush (v := 63) C dS_setToFixed_29 (by decide) ?_
    refine sx_iand C dS_setToFixed_31 ?_
    refine sx_eqi (nI (a % 64)) (jb_63 a) ?_
    refine sx_iload_n C dS_setToFixed_32 rfl rfl ?_
    refine sx_bipush (v := 63) C dS_setToFixed_33 (by decide) ?_
    refine sx_iand C dS_setToFixed_35 ?_
    refine sx_eqi (nI (b % 64)) (jb_63 b) ?_
    refine sx_calll C (sx_runV (As := [.int (nI (a % 64)), .int (nI (b % 64))]) (rest := []) C sx_all (c_S_lowWords l D tc o r2 W (a % 64) (b % 64) (sx_up (sx_up μ o (.inr (1, [.int (nI W), .ref r2]))) r2 (.inl (tc 1, nCh W, .inr (.inl g)))) hW (by omega) (by omega) (ho2 g)) (ci := 1) rfl (ho2 g) (sx_cwV C 2 kM_S_25 ki_S_lowWords ke_S_lowWords kn_S kc_S_lowWords rfl rfl (by decide +kernel) ⟨Nat.le_of_ble_eq_true rfl, Nat.le_of_ble_eq_true rfl⟩) rfl rfl (Nat.le_of_ble_eq_true rfl) dS_setToFixed_36 ⟨Nat.le_of_ble_eq_true rfl, Nat.le_of_ble_eq_true rfl⟩) (fun low μ1 hlow => ?_)
    obtain ⟨hm, hlow⟩ := hlow
    subst hm
    refine sx_lstore_n (lv' := [some (.ref o), some (.int (nI a)), some (.int (nI b)), some (.long low), none, none, none, none]) C dS_setToFixed_39 rfl (by decide) rfl rfl ?_
    refine sx_iload_n C dS_setToFixed_40 rfl rfl ?_
    refine sx_bipush (v := 6) C dS_setToFixed_41 (by decide) ?_
    refine sx_ishr C dS_setToFixed_43 ?_
    refine sx_eqi (nI (a / 64)) (jb_s6 ha) ?_
    refine sx_istore (lv' := [some (.ref o), some (.int (nI a)), some (.int (nI b)), some (.long low), none, some (.int (nI (a / 64))), none, none]) C dS_setToFixed_44 (by decide) rfl rfl ?_
    refine sx_iload_n C dS_setToFixed_46 rfl rfl ?_
    refine sx_bipush (v := 6) C dS_setToFixed_47 (by decide) ?_
    refine sx_ishr C dS_setToFixed_49 ?_
    refine sx_eqi (nI (b / 64)) (jb_s6 hb) ?_
    refine sx_istore (lv' := [some (.ref o), some (.int (nI a)), some (.int (nI b)), some (.long low), none, some (.int (nI (a / 64))), some (.int (nI (b / 64))), none]) C dS_setToFixed_50 (by decide) rfl rfl ?_
    refine sx_iconst (v := 0) C dS_setToFixed_52 (by decide) ?_
    refine sx_eqi (nI 0) (rfl) ?_
    refine sx_istore (lv' := [some (.ref o), some (.int (nI a)), some (.int (nI b)), some (.long low), none, some (.int (nI (a / 64))), some (.int (nI (b / 64))), some (.int (nI 0))]) C dS_setToFixed_53 (by decide) rfl rfl ?_
    have L55 : ∀ (fu : Nat) (i : Nat) (g : Nat → Int64), nCh W - i < fu → (i ≤ nCh W) → (∀ j, j < i → ∀ q, q < 64 → bL (g j) q = fxB W a b j q) → SW p l e (rmL 2 1 1024) s m [.ref o, .int (nI a), .int (nI b)].toArray below meth c 8 D sxCl A 1 1024 Q (sx_up (sx_up μ o (.inr (1, [.int (nI W), .ref r2]))) r2 (.inl (tc 1, nCh W, .inr (.inl g)))) 55 [some (.ref o), some (.int (nI a)), some (.int (nI b)), some (.long low), none, some (.int (nI (a / 64))), some (.int (nI (b / 64))), some (.int (nI i))] [] := by
      intro fu
      induction fu with
      | zero => intro _ _ h; exact absurd h (Nat.not_lt_zero _)
      | succ fu ih =>
        intro i g hfu hi h1
        refine sx_iload C dS_setToFixed_55 rfl ?_
        refine sx_aload_n C dS_setToFixed_57 rfl rfl ?_
        refine sx_getf (Cn := RS) (T := TS) (N := 2) C dS_setToFixed_58 (sx_in inS) rfl 1 (by decide) (sx_w C kF_S_15) (fun _ h => h) (ho2 g) rfl ?_
        refine sx_alen (v := nI (nCh W)) C dS_setToFixed_61 1 rfl (sx_up_s _ _ _) rfl ?_
        refine sx_icmp_ge (tgt := 93) C dS_setToFixed_62 (by decide) (fun c62 => ?_) (fun c62 => ?_)
        · have hc : nCh W ≤ i := (nI_leI (by omega) (by omega)).mp c62
          obtain rfl : i = nCh W := by omega
          exact sx_vretQ C hQ dS_setToFixed_93 hr hlocks (Nat.le_of_ble_eq_true rfl) (Nat.le_of_ble_eq_true rfl) (⟨r2, g, hr2, hr3, rfl, h1⟩)
        · have hc : ¬ nCh W ≤ i := fun h => c62 ((nI_leI (by omega) (by omega)).mpr h)
          have hle : i &&& a / 64 ≤ i := Nat.and_le_left
          refine sx_aload_n C dS_setToFixed_65 rfl rfl ?_
          refine sx_getf (Cn := RS) (T := TS) (N := 2) C dS_setToFixed_66 (sx_in inS) rfl 1 (by decide) (sx_w C kF_S_15) (fun _ h => h) (ho2 g) rfl ?_
          refine sx_iload C dS_setToFixed_69 rfl ?_
          refine sx_iload C dS_setToFixed_71 rfl ?_
          refine sx_iload C dS_setToFixed_73 rfl ?_
          refine sx_iand C dS_setToFixed_75 ?_
          refine sx_eqi (nI (i &&& a / 64)) (jb_andI i _) ?_
          refine sx_iload C dS_setToFixed_76 rfl ?_
          refine sx_icmp_ne (tgt := 85) C dS_setToFixed_78 (by decide) (fun c78 => ?_) (fun c78 => ?_)
          · have hx : ¬ i &&& a / 64 = b / 64 := fun h => c78 (by rw [h])
            refine sx_lconst (v := 0) C dS_setToFixed_85 (by decide) ?_
            refine sx_topl (fun vv evv => ?_)
            have hvv : ∀ q, q < 64 → bL vv q = fxB W a b i q := fun q hq => by rw [evv, bL_0]; simp [fxB, hx]
            refine sx_last (j := i) C dS_setToFixed_86 1 rfl (sx_up_s _ _ _) (rfl) (by omega) (by omega) ?_
            refine sx_mu (sx_up (sx_up μ o (.inr (1, [.int (nI W), .ref r2]))) r2 (.inl (tc 1, nCh W, .inr (.inl (va_up g i vv))))) (by rw [sx_up_up]) ?_
            refine sx_iinc (v := nI (i + 1)) (lv' := [some (.ref o), some (.int (nI a)), some (.int (nI b)), some (.long low), none, some (.int (nI (a / 64))), some (.int (nI (b / 64))), some (.int (nI (i + 1)))]) C dS_setToFixed_87 rfl (nI_1 i) (by decide) rfl rfl ?_
            refine sx_goto (tgt := 55) C dS_setToFixed_90 (by decide) ?_
            exact ih (i + 1) (va_up g i vv) (by omega) (by omega) (fun j hj q hq => by
              by_cases e : j = i
              · subst e; rw [va_up_self]; exact hvv q hq
              · rw [va_up_ne _ _ e]; exact h1 j (by omega) q hq)
          · have hx : i &&& a / 64 = b / 64 := (nI_eq (by omega) (by omega)).mp c78
            refine sx_lload_n C dS_setToFixed_81 rfl rfl ?_
            refine sx_goto (tgt := 86) C dS_setToFixed_82 (by decide) ?_
            refine sx_topl (fun vv evv => ?_)
            have hvv : ∀ q, q < 64 → bL vv q = fxB W a b i q := fun q hq => by rw [evv, hlow q]; simp [fxB, hx]
            refine sx_last (j := i) C dS_setToFixed_86 1 rfl (sx_up_s _ _ _) (rfl) (by omega) (by omega) ?_
            refine sx_mu (sx_up (sx_up μ o (.inr (1, [.int (nI W), .ref r2]))) r2 (.inl (tc 1, nCh W, .inr (.inl (va_up g i vv))))) (by rw [sx_up_up]) ?_
            refine sx_iinc (v := nI (i + 1)) (lv' := [some (.ref o), some (.int (nI a)), some (.int (nI b)), some (.long low), none, some (.int (nI (a / 64))), some (.int (nI (b / 64))), some (.int (nI (i + 1)))]) C dS_setToFixed_87 rfl (nI_1 i) (by decide) rfl rfl ?_
            refine sx_goto (tgt := 55) C dS_setToFixed_90 (by decide) ?_
            exact ih (i + 1) (va_up g i vv) (by omega) (by omega) (fun j hj q hq => by
              by_cases e : j = i
              · subst e; rw [va_up_self]; exact hvv q hq
              · rw [va_up_ne _ _ e]; exact h1 j (by omega) q hq)
    exact L55 _ 0 g (Nat.lt_succ_self _) (Nat.zero_le _) (fun j hj => absurd hj (Nat.not_lt_zero _))
  refine sx_aload_n C dS_setToFixed_0 rfl rfl ?_
  refine sx_getf (Cn := RS) (T := TS) (N := 2) C dS_setToFixed_1 (sx_in inS) rfl 1 (by decide) (sx_w C kF_S_15) (fun _ h => h) ho rfl ?_
  refine sx_alen (v := nI n) C dS_setToFixed_4 1 rfl hr9 rfl ?_
  refine sx_if_ne (tgt := 27) C dS_setToFixed_5 (by decide) (fun c5 => ?_) (fun c5 => ?_)
  · have hnn : n = nCh W := by
      rcases hn with h | h
      · exact absurd (by rw [h]; rfl) c5
      · exact h
    refine sx_widen (k := 1) (n := 1024) (Nat.le_of_ble_eq_true rfl) (by omega) ?_
    refine sx_mu (sx_up (sx_up μ o (.inr (1, [.int (nI W), .ref r]))) r (.inl (tc 1, nCh W, .inr (.inl f)))) (by rw [sx_up_id μ ho, sx_up_id μ (by rw [hr9, hnn])]) ?_
    exact J27 r f (Or.inl rfl) (fun _ => rfl) (sx_ne ho hr9 (by simp))
  · have hn0 : n = 0 := by
      rcases hn with h | h
      · exact h
      · have := (nI_eq (show n < 2 ^ 31 by omega) (by decide)).mp (show nI n = nI 0 from c5)
        exact this
    refine sx_aload_n C dS_setToFixed_8 rfl rfl ?_
    refine sx_iconst (v := 1) C dS_setToFixed_9 (by decide) ?_
    refine sx_iconst (v := 0) C dS_setToFixed_10 (by decide) ?_
    refine sx_aload_n C dS_setToFixed_11 rfl rfl ?_
    refine sx_getf (Cn := RS) (T := TS) (N := 2) C dS_setToFixed_12 (sx_in inS) rfl 0 (by decide) (sx_w C kF_S_9) (fun _ h => h) ho rfl ?_
    refine sx_bipush (v := 6) C dS_setToFixed_15 (by decide) ?_
    refine sx_isub C dS_setToFixed_17 ?_
    refine sx_calli C (sx_runS (As := [.int 0, .int ((nI W) - 6)]) (rest := [.int 1, .ref o]) C sx_all (c_JM_max l D tc 0 (nI W - 6) μ) (sx_cwS C 2 kM_S_19 ks_JM_max kn_JM kc_JM_max rfl rfl (by decide +kernel) ⟨Nat.le_of_ble_eq_true rfl, Nat.le_of_ble_eq_true rfl⟩) rfl rfl (Nat.le_of_ble_eq_true rfl) dS_setToFixed_18 ⟨Nat.le_of_ble_eq_true rfl, Nat.le_of_ble_eq_true rfl⟩) (fun r1 μ1 h1 => ?_)
    obtain ⟨hm, h1⟩ := h1
    have hm := hm.symm
    subst hm
    refine sx_eqi (nI (W - 6)) (by rw [h1]; exact jb_max0 hW) ?_
    refine sx_ishl C dS_setToFixed_21 ?_
    refine sx_eqi (nI (nCh W)) (jb_nCh hW) ?_
    refine sx_newa (N := nCh W) (a0 := (nCh W, .inr (.inl (fun _ => 0)))) C dS_setToFixed_22 (sx_w C ka_long) rfl 1 rfl sx_unJ (fun _ => by first | rfl | (rw [vp_cell_l]; rfl)) (rfl) (by omega) (by show nCh W * 8 ≤ _; omega) (Nat.le_of_ble_eq_true rfl) (by show 0 + nCh W ≤ 1024; omega) (fun q hq => ?_)
    have hoq : o ≠ q := sx_nw ho hq
    refine sx_putf (Cn := RS) (T := TS) (N := 2) (ty := .array .long) (fs' := [.int (nI W), .ref q]) C dS_setToFixed_24 (sx_in inS) tS tS_ok nS rfl 1 (by decide) (sx_w C kF_S_15) (fun _ h => h) rfl (by decide +kernel) rfl rfl (sx_upo (sx_nw ho hq) ho) (by simp) rfl ?_
    refine sx_widen (k := 1) (n := 1024) (Nat.le_of_ble_eq_true rfl) (by omega) ?_
    refine sx_mu (sx_up (sx_up μ o (.inr (1, [.int (nI W), .ref q]))) q (.inl (tc 1, nCh W, .inr (.inl (fun _ => 0))))) (by rw [sx_com hoq]) ?_
    exact J27 q _ (Or.inr hq) (fun h => absurd hn0 h) hoq
