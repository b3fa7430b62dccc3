set_option maxHeartbeats 4000000 in
set_option maxRecDepth 100000 in
/-- encoding -/
theorem c_C_encoding (l : Launch) (D : va_G) (tc : Nat → ClassId) (hl : l.stackTraces = false) (x y : Int64) (ad : Nat → Nat → Nat) (ro : Nat → Nat) (ur : Nat) (W : Nat) (u : Nat) (ln : Nat → Nat) (rf : Nat → Nat → Int64) (sc : Nat → Nat → Int32) (uk : Bool) (ul : Nat) (uf : Nat → Int64) (sf : Nat → Int64) (ed : Nat → Nat → Nat) (μ : sx_M) (hS : CS tc μ ad ro ur W u ln rf sc uk ul uf sf ed) (S : Nat → Nat → Bool) (ed0 : Nat → Nat → Nat) (hA : AW W u S ed0) (hP : CP W u S ed0 ln rf sc uk ul uf ed) : sx_Xi l yC_encoding (Cond.code yC_encoding cC_encoding 8 (some .int) :: sxW) (rmL 8 2 1030) D sxCl (sxT tc) sxE [.ref (ad 0 0), .long x, .long y] μ (fun r μ' => ∃ m v, encOk W x y m v ∧ u < 40 ∧ r = nI u ∧ CInv tc μ' (ad 0 0) W (u + 1) (va_up S u (fxS W m v)) (edU ed0 u m 0 0 0 0)) (fun Ex μ' => CInv tc μ' (ad 0 0) W u S ed0 ∧ ((Ex = iaeN ∧ ∀ m v, ¬ encOk W x y m v) ∨ (Ex = uoeN ∧ u = 40 ∧ ∃ m v, encOk W x y m v))) 2 1030 := by
  have hW := hA.1.2
  have hu := hA.2.1
  refine sx_ofXiQ (cc := cC_encoding) (maxL := 8) (ret := (some .int)) (own := RC) sxE_ok (by decide) rfl rfl (Nat.le_of_ble_eq_true rfl) [some (.ref (ad 0 0)), some (.long x), none, some (.long y), none, none, none, none] 3 rfl (fun p e s m below meth c A Q hQ C hr hlocks hnm hno => ?_)
  refine sx_lconst (v := 1) C dC_encoding_0 (by decide) ?_
  refine sx_aload_n C dC_encoding_1 rfl rfl ?_
  refine sx_getf (Cn := RC) (T := TC) (N := 7) C dC_encoding_2 (sx_in inC) rfl 0 (by decide) (sx_w C kF_C_15) (fun _ h => h) (CS_f0 hS) rfl ?_
  refine sx_lshl C dC_encoding_5 ?_
  refine sx_lconst (v := 1) C dC_encoding_6 (by decide) ?_
  refine sx_lsub C dC_encoding_7 ?_
  refine sx_lstore (lv' := [some (.ref (ad 0 0)), some (.long x), none, some (.long y), none, some (.long ((jshlL 1 (nI W)) - 1)), none, none]) C dC_encoding_8 (by decide) rfl rfl ?_
  refine sx_lload_n C dC_encoding_10 rfl rfl ?_
  refine sx_lload C dC_encoding_11 rfl ?_
  refine sx_ldc2 (v := (-1)) C dC_encoding_13 (sx_w C kL_C_51) ?_
  refine sx_lxor C dC_encoding_16 ?_
  refine sx_land C dC_encoding_17 ?_
  refine sx_lconst (v := 0) C dC_encoding_18 (by decide) ?_
  refine sx_lcmp C dC_encoding_19 ?_
  refine sx_if_ne (tgt := 35) C dC_encoding_20 (by decide) (fun c20 => ?_) (fun c20 => ?_)
  · have hbad : ∀ m v, ¬ encOk W x y m v := fun m v h => c20 ((lg_cmp_eq _ _).mpr ((en_1 hW).mpr ⟨m, h.1, h.2.2.1⟩))
    exact sx_thr_iae (text := "bits outside the word or the mask") hl C hQ dC_encoding_35 dC_encoding_38 dC_encoding_39 dC_encoding_41 dC_encoding_44 (by simp [sxStr]) hno hlocks (Nat.le_of_ble_eq_true rfl) (Nat.le_of_ble_eq_true rfl) (Nat.le_of_ble_eq_true rfl) (Nat.le_of_ble_eq_true rfl) (Nat.le_of_ble_eq_true rfl) (Nat.le_of_ble_eq_true rfl) (⟨CInv_of hA hS hP, Or.inl ⟨rfl, hbad⟩⟩)
  · obtain ⟨m9, hm9, hx9⟩ := (en_1 hW).mp ((lg_cmp_eq _ _).mp c20)
    have hp9 := en_pw hW
    refine sx_lload_n C dC_encoding_23 rfl rfl ?_
    refine sx_lload_n C dC_encoding_24 rfl rfl ?_
    refine sx_ldc2 (v := (-1)) C dC_encoding_25 (sx_w C kL_C_51) ?_
    refine sx_lxor C dC_encoding_28 ?_
    refine sx_land C dC_encoding_29 ?_
    refine sx_lconst (v := 0) C dC_encoding_30 (by decide) ?_
    refine sx_lcmp C dC_encoding_31 ?_
    refine sx_if_eq (tgt := 45) C dC_encoding_32 (by decide) (fun c32 => ?_) (fun c32 => ?_)
    · have c33 := (lg_cmp_eq _ _).mp c32
      rw [hx9] at c33
      obtain ⟨v9, hv9, hy9, hmv⟩ := (en_2 (by omega)).mp c33
      have hok : encOk W x y m9 v9 := ⟨hm9, by omega, hx9, hy9, hmv⟩
      refine sx_aload_n C dC_encoding_45 rfl rfl ?_
      refine sx_getf (Cn := RC) (T := TC) (N := 7) C dC_encoding_46 (sx_in inC) rfl 2 (by decide) (sx_w C kF_C_28) (fun _ h => h) (CS_f0 hS) rfl ?_
      refine sx_bipush (v := 40) C dC_encoding_49 (by decide) ?_
      refine sx_icmp_lt (tgt := 64) C dC_encoding_51 (by decide) (fun c51 => ?_) (fun c51 => ?_)
      · have hu4 : u < 40 := (nI_ltI (b := 40) (by omega) (by omega)).mp c51
        refine sx_aload_n C dC_encoding_64 rfl rfl ?_
        refine sx_getf (Cn := RC) (T := TC) (N := 7) C dC_encoding_65 (sx_in inC) rfl 2 (by decide) (sx_w C kF_C_28) (fun _ h => h) (CS_f0 hS) rfl ?_
        refine sx_istore (lv' := [some (.ref (ad 0 0)), some (.long x), none, some (.long y), none, some (.long ((jshlL 1 (nI W)) - 1)), none, some (.int (nI u))]) C dC_encoding_68 (by decide) rfl rfl ?_
        refine sx_aload_n C dC_encoding_70 rfl rfl ?_
        refine sx_dup C dC_encoding_71 rfl ?_
        refine sx_getf (Cn := RC) (T := TC) (N := 7) C dC_encoding_72 (sx_in inC) rfl 2 (by decide) (sx_w C kF_C_28) (fun _ h => h) (CS_f0 hS) rfl ?_
        refine sx_iconst (v := 1) C dC_encoding_75 (by decide) ?_
        refine sx_iadd C dC_encoding_76 ?_
        refine sx_eqi (nI (u + 1)) (nI_1 u) ?_
        refine sx_putf (Cn := RC) (T := TC) (N := 7) (ty := .int) (fs' := [.int (nI W), .ref (ad 1 0), .int (nI (u + 1)), .ref (ad 5 0), .ref (ad 7 0), .int (b2i uk), .ref (ad 9 0)]) C dC_encoding_77 (sx_in inC) tC tC_ok nC rfl 2 (by decide) (sx_w C kF_C_28) (fun _ h => h) rfl (by decide +kernel) rfl rfl (CS_f0 hS) (by simp) rfl ?_
        have hS1 : CS tc (sx_up μ (ad 0 0) (.inr (2, [.int (nI W), .ref (ad 1 0), .int (nI (u + 1)), .ref (ad 5 0), .ref (ad 7 0), .int (b2i uk), .ref (ad 9 0)]))) ad ro ur W (u + 1) ln rf sc uk ul uf sf ed := CS_u hS (u + 1)
        refine sx_aload_n C dC_encoding_80 rfl rfl ?_
        refine sx_getf (Cn := RC) (T := TC) (N := 7) C dC_encoding_81 (sx_in inC) rfl 1 (by decide) (sx_w C kF_C_21) (fun _ h => h) (CS_f0 hS1) rfl ?_
        refine sx_iload C dC_encoding_84 rfl ?_
        refine sx_aald (j := u) (b := (ad 2 u)) C dC_encoding_86 2 rfl (CS_f1 hS1) (rfl) (hu4) (Nat.le_of_ble_eq_true rfl) (if_pos (hu4)) ?_
        refine sx_lload_n C dC_encoding_87 rfl rfl ?_
        refine sx_l2i C dC_encoding_88 ?_
        refine sx_eqi (nI m9) (by rw [hx9]; exact lN_i m9) ?_
        refine sx_lload_n C dC_encoding_89 rfl rfl ?_
        refine sx_l2i C dC_encoding_90 ?_
        refine sx_eqi (nI v9) (by rw [hy9]; exact lN_i v9) ?_
        refine sx_callv C (sx_runV (As := [.int (nI m9), .int (nI v9)]) (rest := []) C sx_all (c_E_begin l D tc u m9 v9 ad ro ur W (u + 1) ln rf sc uk ul uf sf ed _ hS1 hu4 hW (hP.1 u hu4) (by omega) (by omega)) (ci := 0) rfl (CS_f2 hS1 hu4) (sx_cwV C 2 kM_C_65 ki_E_begin ke_E_begin kn_E kc_E_begin rfl rfl (by decide +kernel) ⟨Nat.le_of_ble_eq_true rfl, Nat.le_of_ble_eq_true rfl⟩) rfl rfl (Nat.le_of_ble_eq_true rfl) dC_encoding_91 ⟨Nat.le_of_ble_eq_true rfl, Nat.le_of_ble_eq_true rfl⟩) (fun μ2 h2 => ?_)
        obtain ⟨r2, g, hS2, hg⟩ := h2
        refine sx_aload_n C dC_encoding_94 rfl rfl ?_
        refine sx_iload C dC_encoding_95 rfl ?_
        refine sx_callv C (sx_runV (As := [.int (nI u)]) (rest := []) C sx_all (c_C_wordsChanged l D tc u ad (va_up ro u r2) ur W (u + 1) (va_up ln u (nCh W)) (va_up rf u g) sc uk ul uf sf (edU ed u m9 0 0 0 0) μ2 hS2 (va_up S u (fxS W m9 v9)) (by omega) (by omega) hW (en_AW (v := v9) hA hu4 hm9).2.2.1 (en_rows hP hg) (fun a ha b hb h1 h2 => by rw [cm_up h1 h2]; exact hP.2.2.1 a (by omega) b (by omega))) (ci := 2) rfl (CS_f0 hS2) (sx_cwV C 1 kM_C_69 ki_C_wordsChanged ke_C_wordsChanged kn_C kc_C_wordsChanged rfl rfl (by decide +kernel) ⟨Nat.le_of_ble_eq_true rfl, Nat.le_of_ble_eq_true rfl⟩) rfl rfl (Nat.le_of_ble_eq_true rfl) dC_encoding_97 ⟨Nat.le_of_ble_eq_true rfl, Nat.le_of_ble_eq_true rfl⟩) (fun μ3 h3 => ?_)
        obtain ⟨sc', hS3, hsc⟩ := h3
        refine sx_iload C dC_encoding_100 rfl ?_
        exact sx_iretQX C hQ dC_encoding_102 hr hlocks (Nat.le_of_ble_eq_true rfl) (Nat.le_of_ble_eq_true rfl) (⟨m9, v9, hok, hu4, rfl, CInv_of (en_AW hA hu4 hm9) hS3 ⟨en_ln hP.1 hu4, en_rows hP hg, hsc, hP.2.2.2.1, fun z => (by cases z), ed_rel (fun k hk hn j => hP.2.2.2.2.2 k (by omega) j)⟩⟩)
      · have hu4 : u = 40 := by
          rcases Nat.lt_or_ge u 40 with z | z
          · exact absurd ((nI_ltI (b := 40) (by omega) (by omega)).mpr z) c51
          · omega
        exact sx_thr_uoe (text := "no room for an encoding") hl C hQ dC_encoding_54 dC_encoding_57 dC_encoding_58 dC_encoding_60 dC_encoding_63 (by simp [sxStr]) hno hlocks (Nat.le_of_ble_eq_true rfl) (Nat.le_of_ble_eq_true rfl) (Nat.le_of_ble_eq_true rfl) (Nat.le_of_ble_eq_true rfl) (Nat.le_of_ble_eq_true rfl) (Nat.le_of_ble_eq_true rfl) (⟨CInv_of hA hS hP, Or.inr ⟨rfl, hu4, m9, v9, hok⟩⟩)
    · have hbad : ∀ m v, ¬ encOk W x y m v := fun m v h => c32 ((lg_cmp_eq _ _).mpr (by rw [h.2.2.1]; exact (en_2 (by have := h.1; omega)).mpr ⟨v, by rw [← h.2.2.2.2]; exact Nat.and_le_right, h.2.2.2.1, h.2.2.2.2⟩))
      exact sx_thr_iae (text := "bits outside the word or the mask") hl C hQ dC_encoding_35 dC_encoding_38 dC_encoding_39 dC_encoding_41 dC_encoding_44 (by simp [sxStr]) hno hlocks (Nat.le_of_ble_eq_true rfl) (Nat.le_of_ble_eq_true rfl) (Nat.le_of_ble_eq_true rfl) (Nat.le_of_ble_eq_true rfl) (Nat.le_of_ble_eq_true rfl) (Nat.le_of_ble_eq_true rfl) (⟨CInv_of hA hS hP, Or.inl ⟨rfl, hbad⟩⟩)

def cndOk (W : Nat) (f t kd v : Int32) (a b k n : Nat) : Prop := a ≤ b ∧ b < W ∧ k ≤ 5 ∧ n ≤ 65535 ∧ f = nI a ∧ t = nI b ∧ kd = nI k ∧ v = nI n
theorem cn_AW {W u i v1 v3 : Nat} {S : Nat → Nat → Bool} {ed0 : Nat → Nat → Nat} {T : Nat → Bool} (hA : AW W u S ed0) (hi : i < u) (hT : ∀ w, 2 ^ W ≤ w → T w = false) (h1 : v1 < 2 ^ W) (h3 : v3 ≤ 4) : AW W u (va_up S i T) (edU ed0 i (ed0 0 i) v1 (ed0 2 i) v3 (ed0 4 i)) := by
  obtain ⟨q0, q1, q2, q3, q4⟩ := hA.2.2.2 i hi
  refine ⟨hA.1, hA.2.1, fun k hk w hw => ?_, fun k hk => ?_⟩
  · by_cases e : k = i
    · subst e; rw [va_up_s]; exact hT w hw
    · rw [va_up_o _ _ e]; exact hA.2.2.1 k hk w hw
  · by_cases e : k = i
    · subst e
      simp only [edU_s, edV]
      exact ⟨q0, h1, q2, h3, q4⟩
    · simp only [edU_n _ _ _ _ _ _ _ e]
      exact hA.2.2.2 k hk
theorem cn_rows {W u i : Nat} {S : Nat → Nat → Bool} {ln : Nat → Nat} {rf : Nat → Nat → Int64} {g : Nat → Int64} {T : Nat → Bool} (h : ∀ k, k < u → ln k = nCh W ∧ rowS (rf k) (nCh W) = S k) (hg : rowS g (nCh W) = T) : ∀ k, k < u → ln k = nCh W ∧ rowS (va_up rf i g k) (nCh W) = va_up S i T k := by
  intro k hk
  by_cases e : k = i
  · subst e; rw [va_up_s, va_up_s]; exact ⟨(h k hk).1, hg⟩
  · rw [va_up_o _ _ e, va_up_o _ _ e]; exact h k hk
theorem ab_bad {x : Int32} {n : Nat} (hn : n < 2 ^ 31) (h : x < 0 ∨ nI n < x) {k : Nat} (hk : k ≤ n) : x ≠ nI k := fun e => by
  subst e
  rcases h with h | h
  · exact nI_pos (by omega) h
  · exact nI_nlt hk hn h
theorem ab_le {x : Int32} {n : Nat} (hn : n + 1 < 2 ^ 31) (h0 : ¬ x < 0) (h1 : ¬ nI n < x) : ∃ j, j ≤ n ∧ x = nI j := by
  have h2 : x < nI (n + 1) := by
    rw [Int32.lt_iff_toInt_lt, nI_toInt (by omega)] at *
    omega
  obtain ⟨j, hj, rfl⟩ := ab_ix hn h0 h2
  exact ⟨j, by omega, rfl⟩

set_option maxHeartbeats 4000000 in
set_option maxRecDepth 100000 in
/-- condition -/
theorem c_C_condition (l : Launch) (D : va_G) (tc : Nat → ClassId) (hl : l.stackTraces = false) (x f t kd v : Int32) (ad : Nat → Nat → Nat) (ro : Nat → Nat) (ur : Nat) (W : Nat) (u : Nat) (ln : Nat → Nat) (rf : Nat → Nat → Int64) (sc : Nat → Nat → Int32) (uk : Bool) (ul : Nat) (uf : Nat → Int64) (sf : Nat → Int64) (ed : Nat → Nat → Nat) (μ : sx_M) (hS : CS tc μ ad ro ur W u ln rf sc uk ul uf sf ed) (S : Nat → Nat → Bool) (ed0 : Nat → Nat → Nat) (hA : AW W u S ed0) (hP : CP W u S ed0 ln rf sc uk ul uf ed) : sx_Xi l yC_condition (Cond.code yC_condition cC_condition 8 (some .boolean) :: sxW) (rmL 8 3 18) D sxCl (sxT tc) sxE [.ref (ad 0 0), .int x, .int f, .int t, .int kd, .int v] μ (fun r μ' => ∃ i a b k n, i < u ∧ x = nI i ∧ cndOk W f t kd v a b k n ∧ ed0 3 i < 4 ∧ ∃ q : Bool, r = b2i q ∧ (q = true ↔ ∃ w, S i w = true ∧ cdH (fld a b w) k n = false) ∧ CInv tc μ' (ad 0 0) W u (va_up S i (cdS (S i) a b k n)) (edU ed0 i (ed0 0 i) (ed0 1 i ||| fbN a b) (ed0 2 i) (ed0 3 i + 1) (ed0 4 i))) (fun Ex μ' => CInv tc μ' (ad 0 0) W u S ed0 ∧ ((Ex = ioeN ∧ ∀ j, j < u → x ≠ nI j) ∨ (Ex = iaeN ∧ (∃ j, j < u ∧ x = nI j) ∧ ∀ a b k n, ¬ cndOk W f t kd v a b k n) ∨ (Ex = uoeN ∧ ∃ i a b k n, i < u ∧ x = nI i ∧ cndOk W f t kd v a b k n ∧ ed0 3 i = 4))) 3 18 := by
  have hW := hA.1.2
  have hu := hA.2.1
  refine sx_ofXiQ (cc := cC_condition) (maxL := 8) (ret := (some .boolean)) (own := RC) sxE_ok (by decide) rfl rfl (Nat.le_of_ble_eq_true rfl) [some (.ref (ad 0 0)), some (.int x), some (.int f), some (.int t), some (.int kd), some (.int v), none, none] 2 rfl (fun p e s m below meth c A Q hQ C hr hlocks hnm hno => ?_)
  refine sx_aload_n C dC_condition_0 rfl rfl ?_
  refine sx_iload_n C dC_condition_1 rfl rfl ?_
  refine sx_callXv C (sx_runXV (As := [.int x]) (rest := []) C sx_all (c_C_requireEncoding l D tc hl x ad ro ur W u ln rf sc uk ul uf sf ed μ hS hu) (ci := 2) rfl (CS_f0 hS) (sx_cwV C 1 kM_C_72 ki_C_requireEncoding ke_C_requireEncoding kn_C kc_C_requireEncoding rfl rfl (by decide +kernel) ⟨Nat.le_of_ble_eq_true rfl, Nat.le_of_ble_eq_true rfl⟩) rfl rfl (Nat.le_of_ble_eq_true rfl) dC_condition_2 ⟨Nat.le_of_ble_eq_true rfl, Nat.le_of_ble_eq_true rfl⟩) (fun Ex μx hx => ?_) (fun μ1 h1 => ?_)
  · exact sx_passQ C hQ hno hlocks (Nat.le_of_ble_eq_true rfl) (Nat.le_of_ble_eq_true rfl) (⟨hx.1 ▸ CInv_of hA hS hP, Or.inl hx.2⟩)
  · obtain ⟨hm, i, hi, hxi⟩ := h1
    subst hm
    have hi4 : i < 40 := by omega
    refine sx_aload_n C dC_condition_5 rfl rfl ?_
    refine sx_iload_n C dC_condition_6 rfl rfl ?_
    refine sx_iload_n C dC_condition_7 rfl rfl ?_
    refine sx_callXv C (sx_runXV (As := [.int f, .int t]) (rest := []) C sx_all (c_C_requireField l D tc hl f t ad ro ur W u ln rf sc uk ul uf sf ed μ hS hW) (ci := 2) rfl (CS_f0 hS) (sx_cwV C 2 kM_C_75 ki_C_requireField ke_C_requireField kn_C kc_C_requireField rfl rfl (by decide +kernel) ⟨Nat.le_of_ble_eq_true rfl, Nat.le_of_ble_eq_true rfl⟩) rfl rfl (Nat.le_of_ble_eq_true rfl) dC_condition_8 ⟨Nat.le_of_ble_eq_true rfl, Nat.le_of_ble_eq_true rfl⟩) (fun Ex μx hx => ?_) (fun μ2 h2 => ?_)
    · exact sx_passQ C hQ hno hlocks (Nat.le_of_ble_eq_true rfl) (Nat.le_of_ble_eq_true rfl) (⟨hx.1 ▸ CInv_of hA hS hP, Or.inr (Or.inl ⟨hx.2.1, ⟨i, hi, hxi⟩, fun a b k n h => hx.2.2 a b h.1 h.2.1 ⟨h.2.2.2.2.1, h.2.2.2.2.2.1⟩⟩)⟩)
    · obtain ⟨hm, a, b, hab, hbW, hfa, htb⟩ := h2
      subst hm
      refine sx_iload C dC_condition_11 rfl ?_
      refine sx_if_lt (tgt := 34) C dC_condition_13 (by decide) (fun c13 => ?_) (fun c13 => ?_)
      · have hbad : ∀ a b k n, ¬ cndOk W f t kd v a b k n := fun a b k n h => ab_bad (n := 5) (by omega) (Or.inl c13) h.2.2.1 h.2.2.2.2.2.2.1
        exact sx_thr_iae (text := "no such condition") hl C hQ dC_condition_34 dC_condition_37 dC_condition_38 dC_condition_40 dC_condition_43 (by simp [sxStr]) hno hlocks (Nat.le_of_ble_eq_true rfl) (Nat.le_of_ble_eq_true rfl) (Nat.le_of_ble_eq_true rfl) (Nat.le_of_ble_eq_true rfl) (Nat.le_of_ble_eq_true rfl) (Nat.le_of_ble_eq_true rfl) (⟨CInv_of hA hS hP, Or.inr (Or.inl ⟨rfl, ⟨i, hi, hxi⟩, hbad⟩)⟩)
      · refine sx_iload C dC_condition_16 rfl ?_
        refine sx_iconst (v := 5) C dC_condition_18 (by decide) ?_
        refine sx_icmp_gt (tgt := 34) C dC_condition_19 (by decide) (fun c19 => ?_) (fun c19 => ?_)
        · have hbad : ∀ a b k n, ¬ cndOk W f t kd v a b k n := fun a b k n h => ab_bad (n := 5) (by omega) (Or.inr c19) h.2.2.1 h.2.2.2.2.2.2.1
          exact sx_thr_iae (text := "no such condition") hl C hQ dC_condition_34 dC_condition_37 dC_condition_38 dC_condition_40 dC_condition_43 (by simp [sxStr]) hno hlocks (Nat.le_of_ble_eq_true rfl) (Nat.le_of_ble_eq_true rfl) (Nat.le_of_ble_eq_true rfl) (Nat.le_of_ble_eq_true rfl) (Nat.le_of_ble_eq_true rfl) (Nat.le_of_ble_eq_true rfl) (⟨CInv_of hA hS hP, Or.inr (Or.inl ⟨rfl, ⟨i, hi, hxi⟩, hbad⟩)⟩)
        · obtain ⟨k, hk5, hkd⟩ := ab_le (n := 5) (by omega) c13 c19
          refine sx_iload C dC_condition_22 rfl ?_
          refine sx_if_lt (tgt := 34) C dC_condition_24 (by decide) (fun c24 => ?_) (fun c24 => ?_)
          · have hbad : ∀ a b k n, ¬ cndOk W f t kd v a b k n := fun a b k n h => ab_bad (n := 65535) (by omega) (Or.inl c24) h.2.2.2.1 h.2.2.2.2.2.2.2
            exact sx_thr_iae (text := "no such condition") hl C hQ dC_condition_34 dC_condition_37 dC_condition_38 dC_condition_40 dC_condition_43 (by simp [sxStr]) hno hlocks (Nat.le_of_ble_eq_true rfl) (Nat.le_of_ble_eq_true rfl) (Nat.le_of_ble_eq_true rfl) (Nat.le_of_ble_eq_true rfl) (Nat.le_of_ble_eq_true rfl) (Nat.le_of_ble_eq_true rfl) (⟨CInv_of hA hS hP, Or.inr (Or.inl ⟨rfl, ⟨i, hi, hxi⟩, hbad⟩)⟩)
          · refine sx_iload C dC_condition_27 rfl ?_
            refine sx_ldc (v := 65535) C dC_condition_29 (sx_w C kK_C_78) ?_
            refine sx_icmp_le (tgt := 44) C dC_condition_31 (by decide) (fun c31 => ?_) (fun c31 => ?_)
            · obtain ⟨n, hn5, hvn⟩ := ab_le (n := 65535) (by omega) c24 (fun z => (by rw [Int32.le_iff_toInt_le] at c31; rw [Int32.lt_iff_toInt_lt] at z; have e5 : (nI 65535).toInt = (65535 : Int32).toInt := rfl; omega))
              have hok : cndOk W f t kd v a b k n := ⟨hab, hbW, hk5, hn5, hfa, htb, hkd, hvn⟩
              have hE := hP.2.2.2.2.2 i hi
              refine sx_aload_n C dC_condition_44 rfl rfl ?_
              refine sx_getf (Cn := RC) (T := TC) (N := 7) C dC_condition_45 (sx_in inC) rfl 1 (by decide) (sx_w C kF_C_21) (fun _ h => h) (CS_f0 hS) rfl ?_
              refine sx_iload_n C dC_condition_48 rfl rfl ?_
              refine sx_aald (j := i) (b := (ad 2 i)) C dC_condition_49 2 rfl (CS_f1 hS) (hxi) (hi4) (Nat.le_of_ble_eq_true rfl) (if_pos hi4) ?_
              refine sx_astore (lv' := [some (.ref (ad 0 0)), some (.int x), some (.int f), some (.int t), some (.int kd), some (.int v), some (.ref (ad 2 i)), none]) C dC_condition_50 (by decide) rfl rfl ?_
              refine sx_aload C dC_condition_52 rfl ?_
              refine sx_getf (Cn := RE) (T := TE) (N := 6) C dC_condition_54 (sx_in inE) rfl 4 (by decide) (sx_w C kF_C_81) (fun _ h => h) (CS_f2 hS hi4) rfl ?_
              refine sx_iconst (v := 4) C dC_condition_57 (by decide) ?_
              refine sx_icmp_lt (tgt := 71) C dC_condition_58 (by decide) (fun c58 => ?_) (fun c58 => ?_)
              · have h34 : ed 3 i < 4 := (nI_ltI (b := 4) (by have := (hA.2.2.2 i hi).2.2.2.1; rw [hE 3]; omega) (by omega)).mp c58
                refine sx_aload C dC_condition_71 rfl ?_
                refine sx_dup C dC_condition_73 rfl ?_
                refine sx_getf (Cn := RE) (T := TE) (N := 6) C dC_condition_74 (sx_in inE) rfl 4 (by decide) (sx_w C kF_C_81) (fun _ h => h) (CS_f2 hS hi4) rfl ?_
                refine sx_iconst (v := 1) C dC_condition_77 (by decide) ?_
                refine sx_iadd C dC_condition_78 ?_
                refine sx_eqi (nI (ed 3 i + 1)) (nI_1 _) ?_
                refine sx_putf (Cn := RE) (T := TE) (N := 6) (ty := .int) (fs' := [.ref (ad 3 i), .int (nI (ed 0 i)), .int (nI (ed 1 i)), .int (nI (ed 2 i)), .int (nI (ed 3 i + 1)), .int (nI (ed 4 i))]) C dC_condition_79 (sx_in inE) tE tE_ok nE rfl 4 (by decide) (sx_w C kF_C_81) (fun _ h => h) rfl (by decide +kernel) rfl rfl (CS_f2 hS hi4) (by simp) rfl ?_
                refine sx_aload C dC_condition_82 rfl ?_
                refine sx_dup C dC_condition_84 rfl ?_
                refine sx_getf (Cn := RE) (T := TE) (N := 6) C dC_condition_85 (sx_in inE) rfl 2 (by decide) (sx_w C kF_C_86) (fun _ h => h) (sx_up_s _ _ _) rfl ?_
                refine sx_iload_n C dC_condition_88 rfl rfl ?_
                refine sx_eqi (nI a) (hfa) ?_
                refine sx_iload_n C dC_condition_89 rfl rfl ?_
                refine sx_eqi (nI b) (htb) ?_
                refine sx_calli C (sx_runS (As := [.int (nI a), .int (nI b)]) (rest := [.int (nI (ed 1 i)), .ref (ad 2 i)]) C sx_all (c_C_fieldBits l D tc a b _ hab (by omega)) (sx_cwS C 2 kM_C_89 ks_C_fieldBits kn_C kc_C_fieldBits rfl rfl (by decide +kernel) ⟨Nat.le_of_ble_eq_true rfl, Nat.le_of_ble_eq_true rfl⟩) rfl rfl (Nat.le_of_ble_eq_true rfl) dC_condition_90 ⟨Nat.le_of_ble_eq_true rfl, Nat.le_of_ble_eq_true rfl⟩) (fun q1 μ3 h3 => ?_)
                obtain ⟨hm, h3⟩ := h3
                subst hm
                refine sx_eqi (nI (fbN a b)) (h3) ?_
                refine sx_ior C dC_condition_93 ?_
                refine sx_eqi (nI (ed 1 i ||| fbN a b)) (jb_orI _ _) ?_
                refine sx_putf (Cn := RE) (T := TE) (N := 6) (ty := .int) (fs' := [.ref (ad 3 i), .int (nI (ed 0 i)), .int (nI (ed 1 i ||| fbN a b)), .int (nI (ed 2 i)), .int (nI (ed 3 i + 1)), .int (nI (ed 4 i))]) C dC_condition_94 (sx_in inE) tE tE_ok nE rfl 2 (by decide) (sx_w C kF_C_86) (fun _ h => h) rfl (by decide +kernel) rfl rfl (sx_up_s _ _ _) (by simp) rfl ?_
                refine sx_mu _ (sx_up_up _ _ _ _) ?_
                have hS1 : CS tc (sx_up μ (ad 2 i) (.inr (0, [.ref (ad 3 i), .int (nI (ed 0 i)), .int (nI (ed 1 i ||| fbN a b)), .int (nI (ed 2 i)), .int (nI (ed 3 i + 1)), .int (nI (ed 4 i))]))) ad ro ur W u ln rf sc uk ul uf sf (edU ed i (ed 0 i) (ed 1 i ||| fbN a b) (ed 2 i) (ed 3 i + 1) (ed 4 i)) := CS_edA hS hi4 _ _ _ _ _
                refine sx_aload C dC_condition_97 rfl ?_
                refine sx_getf (Cn := RE) (T := TE) (N := 6) C dC_condition_99 (sx_in inE) rfl 0 (by decide) (sx_w C kF_C_92) (fun _ h => h) (CS_f2 hS1 hi4) rfl ?_
                refine sx_iload_n C dC_condition_102 rfl rfl ?_
                refine sx_eqi (nI a) (hfa) ?_
                refine sx_iload_n C dC_condition_103 rfl rfl ?_
                refine sx_eqi (nI b) (htb) ?_
                refine sx_iload C dC_condition_104 rfl ?_
                refine sx_eqi (nI k) (hkd) ?_
                refine sx_iload C dC_condition_106 rfl ?_
                refine sx_eqi (nI n) (hvn) ?_
                refine sx_calli C (sx_runV (As := [.int (nI a), .int (nI b), .int (nI k), .int (nI n)]) (rest := []) C sx_all (c_S_keepOnly l D tc (ad 3 i) (ro i) W (ln i) a b k n (rf i) _ (by rw [(hP.2.1 i hi).1]; exact nCh_le hW) hab (by omega) hk5 (by omega) (CS_f3 hS1 hi4) (CS_f4 hS1 hi4)) (ci := 1) rfl (CS_f3 hS1 hi4) (sx_cwV C 4 kM_C_95 ki_S_keepOnly ke_S_keepOnly kn_S kc_S_keepOnly rfl rfl (by decide +kernel) ⟨Nat.le_of_ble_eq_true rfl, Nat.le_of_ble_eq_true rfl⟩) rfl rfl (Nat.le_of_ble_eq_true rfl) dC_condition_108 ⟨Nat.le_of_ble_eq_true rfl, Nat.le_of_ble_eq_true rfl⟩) (fun q2 μ4 h4 => ?_)
                obtain ⟨g, q, hm, hq, hg, ht⟩ := h4
                subst hm
                rw [(hP.2.1 i hi).1] at hg ht
                have hz := hA.2.2.1 i hi
                have hE := hP.2.2.2.2.2 i hi
                have hrow := cd_row (hP.2.1 i hi).2 hz hg
                have hch := cd_ch (hP.2.1 i hi).2 hg ht
                have hS2 : CS tc (sx_up (sx_up μ (ad 2 i) (.inr (0, [.ref (ad 3 i), .int (nI (ed 0 i)), .int (nI (ed 1 i ||| fbN a b)), .int (nI (ed 2 i)), .int (nI (ed 3 i + 1)), .int (nI (ed 4 i))]))) (ro i) (.inl (tc 1, ln i, .inr (.inl g)))) ad ro ur W u ln (va_up rf i g) sc uk ul uf sf (edU ed i (ed 0 i) (ed 1 i ||| fbN a b) (ed 2 i) (ed 3 i + 1) (ed 4 i)) := CS_rf hS1 hi4 g
                have hA' := cn_AW (v1 := ed0 1 i ||| fbN a b) (v3 := ed0 3 i + 1) hA hi (T := cdS (S i) a b k n) (fun w hw => by unfold cdS; rw [hz w hw, Bool.false_and]) (or_lt (hA.2.2.2 i hi).2.1 (fbN_lt hbW)) (by rw [← hE 3]; omega)
                have hed : ∀ k, k < u → ∀ j, edU ed i (ed 0 i) (ed 1 i ||| fbN a b) (ed 2 i) (ed 3 i + 1) (ed 4 i) j k = edU ed0 i (ed0 0 i) (ed0 1 i ||| fbN a b) (ed0 2 i) (ed0 3 i + 1) (ed0 4 i) j k := by
                  rw [hE 0, hE 1, hE 2, hE 3, hE 4]
                  exact ed_rel (fun k hk _ j => hP.2.2.2.2.2 k hk j)
                refine sx_istore (lv' := [some (.ref (ad 0 0)), some (.int x), some (.int f), some (.int t), some (.int kd), some (.int v), some (.ref (ad 2 i)), some (.int q2)]) C dC_condition_111 (by decide) rfl rfl ?_
                refine sx_iload C dC_condition_113 rfl ?_
                refine sx_if_eq (tgt := 123) C dC_condition_115 (by decide) (fun c115 => ?_) (fun c115 => ?_)
                · rw [hq] at c115
                  have hqf := b2i_z.mp c115
                  have hsm := cd_same (S := S) (i := i) (a := a) (b := b) (k := k) (v := n) (fun z => by rw [hch.mpr z] at hqf; cases hqf)
                  have hfin := CInv_of hA' hS2 (by rw [hsm]; exact ⟨hP.1, by have := cn_rows (i := i) hP.2.1 hrow; rw [hsm] at this; exact this, hP.2.2.1, hP.2.2.2.1, hP.2.2.2.2.1, hed⟩)
                  refine sx_iload C dC_condition_123 rfl ?_
                  exact sx_zretQX C hQ dC_condition_125 hr (by rw [hq]; exact b2i_01 q) hlocks (Nat.le_of_ble_eq_true rfl) (Nat.le_of_ble_eq_true rfl) (⟨i, a, b, k, n, hi, hxi, hok, by rw [← hE 3]; exact h34, q, hq, hch, hfin⟩)
                · refine sx_aload_n C dC_condition_118 rfl rfl ?_
                  refine sx_iload_n C dC_condition_119 rfl rfl ?_
                  refine sx_eqi (nI i) (hxi) ?_
                  refine sx_callv C (sx_runV (As := [.int (nI i)]) (rest := []) C sx_all (c_C_wordsChanged l D tc i ad ro ur W u ln (va_up rf i g) sc uk ul uf sf (edU ed i (ed 0 i) (ed 1 i ||| fbN a b) (ed 2 i) (ed 3 i + 1) (ed 4 i)) _ hS2 (va_up S i (cdS (S i) a b k n)) hi hu hW hA'.2.2.1 (cn_rows hP.2.1 hrow) (fun a ha b hb h1 h2 => by rw [cm_up h1 h2]; exact hP.2.2.1 a ha b hb)) (ci := 2) rfl (CS_f0 hS2) (sx_cwV C 1 kM_C_69 ki_C_wordsChanged ke_C_wordsChanged kn_C kc_C_wordsChanged rfl rfl (by decide +kernel) ⟨Nat.le_of_ble_eq_true rfl, Nat.le_of_ble_eq_true rfl⟩) rfl rfl (Nat.le_of_ble_eq_true rfl) dC_condition_120 ⟨Nat.le_of_ble_eq_true rfl, Nat.le_of_ble_eq_true rfl⟩) (fun μ5 h5 => ?_)
                  obtain ⟨sc', hS3, hsc⟩ := h5
                  have hfin := CInv_of hA' hS3 ⟨hP.1, cn_rows hP.2.1 hrow, hsc, hP.2.2.2.1, fun z => (by cases z), hed⟩
                  refine sx_iload C dC_condition_123 rfl ?_
                  exact sx_zretQX C hQ dC_condition_125 hr (by rw [hq]; exact b2i_01 q) hlocks (Nat.le_of_ble_eq_true rfl) (Nat.le_of_ble_eq_true rfl) (⟨i, a, b, k, n, hi, hxi, hok, by rw [← hE 3]; exact h34, q, hq, hch, hfin⟩)
              · have h34 : ed0 3 i = 4 := by
                  have h5 := (hA.2.2.2 i hi).2.2.2.1
                  rcases Nat.lt_or_ge (ed0 3 i) 4 with z | z
                  · exact absurd ((nI_ltI (a := ed 3 i) (b := 4) (by rw [hE 3]; omega) (by omega)).mpr (by rw [hE 3]; exact z)) c58
                  · omega
                exact sx_thr_uoe (text := "no room for a condition") hl C hQ dC_condition_61 dC_condition_64 dC_condition_65 dC_condition_67 dC_condition_70 (by simp [sxStr]) hno hlocks (Nat.le_of_ble_eq_true rfl) (Nat.le_of_ble_eq_true rfl) (Nat.le_of_ble_eq_true rfl) (Nat.le_of_ble_eq_true rfl) (Nat.le_of_ble_eq_true rfl) (Nat.le_of_ble_eq_true rfl) (⟨CInv_of hA hS hP, Or.inr (Or.inr ⟨rfl, i, a, b, k, n, hi, hxi, hok, h34⟩)⟩)
            · have hbad : ∀ a b k n, ¬ cndOk W f t kd v a b k n := fun a b k n h => ab_bad (n := 65535) (by omega) (Or.inr (by rw [Int32.le_iff_toInt_le] at c31; rw [Int32.lt_iff_toInt_lt]; have e5 : (nI 65535).toInt = (65535 : Int32).toInt := rfl; omega)) h.2.2.2.1 h.2.2.2.2.2.2.2
              exact sx_thr_iae (text := "no such condition") hl C hQ dC_condition_34 dC_condition_37 dC_condition_38 dC_condition_40 dC_condition_43 (by simp [sxStr]) hno hlocks (Nat.le_of_ble_eq_true rfl) (Nat.le_of_ble_eq_true rfl) (Nat.le_of_ble_eq_true rfl) (Nat.le_of_ble_eq_true rfl) (Nat.le_of_ble_eq_true rfl) (Nat.le_of_ble_eq_true rfl) (⟨CInv_of hA hS hP, Or.inr (Or.inl ⟨rfl, ⟨i, hi, hxi⟩, hbad⟩)⟩)

theorem ed_AW {W u i v1 v2 v3 v4 : Nat} {S : Nat → Nat → Bool} {ed0 : Nat → Nat → Nat} (hA : AW W u S ed0) (hi : i < u) (h1 : v1 < 2 ^ W) (h2 : v2 < 2 ^ W) (h3 : v3 ≤ 4) (h4 : v4 < 256) : AW W u S (edU ed0 i (ed0 0 i) v1 v2 v3 v4) := by
  obtain ⟨q0, q1, q2, q3, q4⟩ := hA.2.2.2 i hi
  refine ⟨hA.1, hA.2.1, hA.2.2.1, fun k hk => ?_⟩
  by_cases e : k = i
  · subst e
    simp only [edU_s, edV]
    exact ⟨q0, h1, h2, h3, h4⟩
  · simp only [edU_n _ _ _ _ _ _ _ e]
    exact hA.2.2.2 k hk

set_option maxHeartbeats 4000000 in
set_option maxRecDepth 100000 in
/-- operand -/
theorem c_C_operand (l : Launch) (D : va_G) (tc : Nat → ClassId) (hl : l.stackTraces = false) (x f t : Int32) (ad : Nat → Nat → Nat) (ro : Nat → Nat) (ur : Nat) (W : Nat) (u : Nat) (ln : Nat → Nat) (rf : Nat → Nat → Int64) (sc : Nat → Nat → Int32) (uk : Bool) (ul : Nat) (uf : Nat → Int64) (sf : Nat → Int64) (ed : Nat → Nat → Nat) (μ : sx_M) (hS : CS tc μ ad ro ur W u ln rf sc uk ul uf sf ed) (S : Nat → Nat → Bool) (ed0 : Nat → Nat → Nat) (hA : AW W u S ed0) (hP : CP W u S ed0 ln rf sc uk ul uf ed) : sx_Xi l yC_operand (Cond.code yC_operand cC_operand 6 (some .int) :: sxW) (rmL 7 2 12) D sxCl (sxT tc) sxE [.ref (ad 0 0), .int x, .int f, .int t] μ (fun r μ' => ∃ i a b, i < u ∧ x = nI i ∧ (a ≤ b ∧ b < W ∧ f = nI a ∧ t = nI b) ∧ r = nI (pop32 (nI (fbN a b) &&& (nI (ed0 2 i) ^^^ (-1)))) ∧ CInv tc μ' (ad 0 0) W u S (edU ed0 i (ed0 0 i) (ed0 1 i) (ed0 2 i ||| fbN a b) (ed0 3 i) (ed0 4 i))) (fun Ex μ' => CInv tc μ' (ad 0 0) W u S ed0 ∧ ((Ex = ioeN ∧ ∀ j, j < u → x ≠ nI j) ∨ (Ex = iaeN ∧ (∃ j, j < u ∧ x = nI j) ∧ ∀ a b, a ≤ b → b < W → ¬ (f = nI a ∧ t = nI b)))) 2 12 := by
  have hW := hA.1.2
  have hu := hA.2.1
  refine sx_ofXiQ (cc := cC_operand) (maxL := 6) (ret := (some .int)) (own := RC) sxE_ok (by decide) rfl rfl (Nat.le_of_ble_eq_true rfl) [some (.ref (ad 0 0)), some (.int x), some (.int f), some (.int t), none, none] 2 rfl (fun p e s m below meth c A Q hQ C hr hlocks hnm hno => ?_)
  refine sx_aload_n C dC_operand_0 rfl rfl ?_
  refine sx_iload_n C dC_operand_1 rfl rfl ?_
  refine sx_callXv C (sx_runXV (As := [.int x]) (rest := []) C sx_all (c_C_requireEncoding l D tc hl x ad ro ur W u ln rf sc uk ul uf sf ed μ hS hu) (ci := 2) rfl (CS_f0 hS) (sx_cwV C 1 kM_C_72 ki_C_requireEncoding ke_C_requireEncoding kn_C kc_C_requireEncoding rfl rfl (by decide +kernel) ⟨Nat.le_of_ble_eq_true rfl, Nat.le_of_ble_eq_true rfl⟩) rfl rfl (Nat.le_of_ble_eq_true rfl) dC_operand_2 ⟨Nat.le_of_ble_eq_true rfl, Nat.le_of_ble_eq_true rfl⟩) (fun Ex μx hx => ?_) (fun μ1 h1 => ?_)
  · exact sx_passQ C hQ hno hlocks (Nat.le_of_ble_eq_true rfl) (Nat.le_of_ble_eq_true rfl) (⟨hx.1 ▸ CInv_of hA hS hP, Or.inl hx.2⟩)
  · obtain ⟨hm, i, hi, hxi⟩ := h1
    subst hm
    have hi4 : i < 40 := by omega
    refine sx_aload_n C dC_operand_5 rfl rfl ?_
    refine sx_iload_n C dC_operand_6 rfl rfl ?_
    refine sx_iload_n C dC_operand_7 rfl rfl ?_
    refine sx_callXv C (sx_runXV (As := [.int f, .int t]) (rest := []) C sx_all (c_C_requireField l D tc hl f t ad ro ur W u ln rf sc uk ul uf sf ed μ hS hW) (ci := 2) rfl (CS_f0 hS) (sx_cwV C 2 kM_C_75 ki_C_requireField ke_C_requireField kn_C kc_C_requireField rfl rfl (by decide +kernel) ⟨Nat.le_of_ble_eq_true rfl, Nat.le_of_ble_eq_true rfl⟩) rfl rfl (Nat.le_of_ble_eq_true rfl) dC_operand_8 ⟨Nat.le_of_ble_eq_true rfl, Nat.le_of_ble_eq_true rfl⟩) (fun Ex μx hx => ?_) (fun μ2 h2 => ?_)
    · exact sx_passQ C hQ hno hlocks (Nat.le_of_ble_eq_true rfl) (Nat.le_of_ble_eq_true rfl) (⟨hx.1 ▸ CInv_of hA hS hP, Or.inr ⟨hx.2.1, ⟨i, hi, hxi⟩, hx.2.2⟩⟩)
    · obtain ⟨hm, a, b, hab, hbW, hfa, htb⟩ := h2
      subst hm
      have hE := hP.2.2.2.2.2 i hi
      refine sx_aload_n C dC_operand_11 rfl rfl ?_
      refine sx_getf (Cn := RC) (T := TC) (N := 7) C dC_operand_12 (sx_in inC) rfl 1 (by decide) (sx_w C kF_C_21) (fun _ h => h) (CS_f0 hS) rfl ?_
      refine sx_iload_n C dC_operand_15 rfl rfl ?_
      refine sx_aald (j := i) (b := (ad 2 i)) C dC_operand_16 2 rfl (CS_f1 hS) (hxi) (hi4) (Nat.le_of_ble_eq_true rfl) (if_pos hi4) ?_
      refine sx_astore (lv' := [some (.ref (ad 0 0)), some (.int x), some (.int f), some (.int t), some (.ref (ad 2 i)), none]) C dC_operand_17 (by decide) rfl rfl ?_
      refine sx_iload_n C dC_operand_19 rfl rfl ?_
      refine sx_eqi (nI a) (hfa) ?_
      refine sx_iload_n C dC_operand_20 rfl rfl ?_
      refine sx_eqi (nI b) (htb) ?_
      refine sx_calli C (sx_runS (As := [.int (nI a), .int (nI b)]) (rest := []) C sx_all (c_C_fieldBits l D tc a b _ hab (by omega)) (sx_cwS C 2 kM_C_89 ks_C_fieldBits kn_C kc_C_fieldBits rfl rfl (by decide +kernel) ⟨Nat.le_of_ble_eq_true rfl, Nat.le_of_ble_eq_true rfl⟩) rfl rfl (Nat.le_of_ble_eq_true rfl) dC_operand_21 ⟨Nat.le_of_ble_eq_true rfl, Nat.le_of_ble_eq_true rfl⟩) (fun q1 μ3 h3 => ?_)
      obtain ⟨hm, h3⟩ := h3
      subst hm
      refine sx_eqi (nI (fbN a b)) (h3) ?_
      refine sx_aload C dC_operand_24 rfl ?_
      refine sx_getf (Cn := RE) (T := TE) (N := 6) C dC_operand_26 (sx_in inE) rfl 3 (by decide) (sx_w C kF_C_99) (fun _ h => h) (CS_f2 hS hi4) rfl ?_
      refine sx_iconst (v := -1) C dC_operand_29 (by decide) ?_
      refine sx_ixor C dC_operand_30 ?_
      refine sx_iand C dC_operand_31 ?_
      refine sx_istore (lv' := [some (.ref (ad 0 0)), some (.int x), some (.int f), some (.int t), some (.ref (ad 2 i)), some (.int ((nI (fbN a b)) &&& ((nI (ed 2 i)) ^^^ (-1))))]) C dC_operand_32 (by decide) rfl rfl ?_
      refine sx_aload C dC_operand_34 rfl ?_
      refine sx_dup C dC_operand_36 rfl ?_
      refine sx_getf (Cn := RE) (T := TE) (N := 6) C dC_operand_37 (sx_in inE) rfl 3 (by decide) (sx_w C kF_C_99) (fun _ h => h) (CS_f2 hS hi4) rfl ?_
      refine sx_iload C dC_operand_40 rfl ?_
      refine sx_ior C dC_operand_42 ?_
      refine sx_eqi (nI (ed 2 i ||| fbN a b)) (op_or _ _) ?_
      refine sx_putf (Cn := RE) (T := TE) (N := 6) (ty := .int) (fs' := [.ref (ad 3 i), .int (nI (ed 0 i)), .int (nI (ed 1 i)), .int (nI (ed 2 i ||| fbN a b)), .int (nI (ed 3 i)), .int (nI (ed 4 i))]) C dC_operand_43 (sx_in inE) tE tE_ok nE rfl 3 (by decide) (sx_w C kF_C_99) (fun _ h => h) rfl (by decide +kernel) rfl rfl (CS_f2 hS hi4) (by simp) rfl ?_
      have hS1 : CS tc (sx_up μ (ad 2 i) (.inr (0, [.ref (ad 3 i), .int (nI (ed 0 i)), .int (nI (ed 1 i)), .int (nI (ed 2 i ||| fbN a b)), .int (nI (ed 3 i)), .int (nI (ed 4 i))]))) ad ro ur W u ln rf sc uk ul uf sf (edU ed i (ed 0 i) (ed 1 i) (ed 2 i ||| fbN a b) (ed 3 i) (ed 4 i)) := CS_edA hS hi4 _ _ _ _ _
      refine sx_iload C dC_operand_46 rfl ?_
      refine sx_calli C (sx_runS (As := [.int ((nI (fbN a b)) &&& ((nI (ed 2 i)) ^^^ (-1)))]) (rest := []) C sx_all (c_JI_bitCount l D tc (nI (fbN a b) &&& (nI (ed 2 i) ^^^ (-1))) _) (sx_cwS C 1 kM_C_102 ks_JI_bitCount kn_JI kc_JI_bitCount rfl rfl (by decide +kernel) ⟨Nat.le_of_ble_eq_true rfl, Nat.le_of_ble_eq_true rfl⟩) rfl rfl (Nat.le_of_ble_eq_true rfl) dC_operand_48 ⟨Nat.le_of_ble_eq_true rfl, Nat.le_of_ble_eq_true rfl⟩) (fun q2 μ4 h4 => ?_)
      obtain ⟨hm, h4⟩ := h4
      refine sx_mu _ hm ?_
      exact sx_iretQX C hQ dC_operand_51 hr hlocks (Nat.le_of_ble_eq_true rfl) (Nat.le_of_ble_eq_true rfl) (⟨i, a, b, hi, hxi, ⟨hab, hbW, hfa, htb⟩, by rw [h4, hE 2], CInv_of (ed_AW hA hi (hA.2.2.2 i hi).2.1 (or_lt (hA.2.2.2 i hi).2.2.1 (fbN_lt hbW)) (hA.2.2.2 i hi).2.2.2.1 (hA.2.2.2 i hi).2.2.2.2) hS1 ⟨hP.1, hP.2.1, hP.2.2.1, hP.2.2.2.1, hP.2.2.2.2.1, by rw [hE 0, hE 1, hE 2, hE 3, hE 4]; exact ed_rel (fun k hk _ j => hP.2.2.2.2.2 k hk j)⟩⟩)

set_option maxHeartbeats 4000000 in
set_option maxRecDepth 100000 in
/-- needs -/
theorem c_C_needs (l : Launch) (D : va_G) (tc : Nat → ClassId) (hl : l.stackTraces = false) (x v : Int32) (ad : Nat → Nat → Nat) (ro : Nat → Nat) (ur : Nat) (W : Nat) (u : Nat) (ln : Nat → Nat) (rf : Nat → Nat → Int64) (sc : Nat → Nat → Int32) (uk : Bool) (ul : Nat) (uf : Nat → Int64) (sf : Nat → Int64) (ed : Nat → Nat → Nat) (μ : sx_M) (hS : CS tc μ ad ro ur W u ln rf sc uk ul uf sf ed) (S : Nat → Nat → Bool) (ed0 : Nat → Nat → Nat) (hA : AW W u S ed0) (hP : CP W u S ed0 ln rf sc uk ul uf ed) : sx_Xi l yC_needs (Cond.code yC_needs cC_needs 4 (some .int) :: sxW) (rmL 7 2 12) D sxCl (sxT tc) sxE [.ref (ad 0 0), .int x, .int v] μ (fun r μ' => ∃ i n, i < u ∧ x = nI i ∧ n < 256 ∧ v = nI n ∧ r = nI (ed0 4 i) ∧ CInv tc μ' (ad 0 0) W u S (edU ed0 i (ed0 0 i) (ed0 1 i) (ed0 2 i) (ed0 3 i) n)) (fun Ex μ' => CInv tc μ' (ad 0 0) W u S ed0 ∧ ((Ex = ioeN ∧ ∀ j, j < u → x ≠ nI j) ∨ (Ex = iaeN ∧ (∃ j, j < u ∧ x = nI j) ∧ ∀ n, n < 256 → v ≠ nI n))) 2 12 := by
  have hW := hA.1.2
  have hu := hA.2.1
  refine sx_ofXiQ (cc := cC_needs) (maxL := 4) (ret := (some .int)) (own := RC) sxE_ok (by decide) rfl rfl (Nat.le_of_ble_eq_true rfl) [some (.ref (ad 0 0)), some (.int x), some (.int v), none] 1 rfl (fun p e s m below meth c A Q hQ C hr hlocks hnm hno => ?_)
  refine sx_aload_n C dC_needs_0 rfl rfl ?_
  refine sx_iload_n C dC_needs_1 rfl rfl ?_
  refine sx_callXv C (sx_runXV (As := [.int x]) (rest := []) C sx_all (c_C_requireEncoding l D tc hl x ad ro ur W u ln rf sc uk ul uf sf ed μ hS hu) (ci := 2) rfl (CS_f0 hS) (sx_cwV C 1 kM_C_72 ki_C_requireEncoding ke_C_requireEncoding kn_C kc_C_requireEncoding rfl rfl (by decide +kernel) ⟨Nat.le_of_ble_eq_true rfl, Nat.le_of_ble_eq_true rfl⟩) rfl rfl (Nat.le_of_ble_eq_true rfl) dC_needs_2 ⟨Nat.le_of_ble_eq_true rfl, Nat.le_of_ble_eq_true rfl⟩) (fun Ex μx hx => ?_) (fun μ1 h1 => ?_)
  · exact sx_passQ C hQ hno hlocks (Nat.le_of_ble_eq_true rfl) (Nat.le_of_ble_eq_true rfl) (⟨hx.1 ▸ CInv_of hA hS hP, Or.inl hx.2⟩)
  · obtain ⟨hm, i, hi, hxi⟩ := h1
    subst hm
    have hi4 : i < 40 := by omega
    refine sx_aload_n C dC_needs_5 rfl rfl ?_
    refine sx_iload_n C dC_needs_6 rfl rfl ?_
    refine sx_callXv C (sx_runXV (As := [.int v]) (rest := []) C sx_all (c_C_requireVariants l D tc hl (ad 0 0) v μ) (ci := 2) rfl (CS_f0 hS) (sx_cwV C 1 kM_C_108 ki_C_requireVariants ke_C_requireVariants kn_C kc_C_requireVariants rfl rfl (by decide +kernel) ⟨Nat.le_of_ble_eq_true rfl, Nat.le_of_ble_eq_true rfl⟩) rfl rfl (Nat.le_of_ble_eq_true rfl) dC_needs_7 ⟨Nat.le_of_ble_eq_true rfl, Nat.le_of_ble_eq_true rfl⟩) (fun Ex μx hx => ?_) (fun μ2 h2 => ?_)
    · exact sx_passQ C hQ hno hlocks (Nat.le_of_ble_eq_true rfl) (Nat.le_of_ble_eq_true rfl) (⟨hx.1 ▸ CInv_of hA hS hP, Or.inr ⟨hx.2.1, ⟨i, hi, hxi⟩, hx.2.2⟩⟩)
    · obtain ⟨hm, n, hn, hvn⟩ := h2
      subst hm
      have hE := hP.2.2.2.2.2 i hi
      refine sx_aload_n C dC_needs_10 rfl rfl ?_
      refine sx_getf (Cn := RC) (T := TC) (N := 7) C dC_needs_11 (sx_in inC) rfl 1 (by decide) (sx_w C kF_C_21) (fun _ h => h) (CS_f0 hS) rfl ?_
      refine sx_iload_n C dC_needs_14 rfl rfl ?_
      refine sx_aald (j := i) (b := (ad 2 i)) C dC_needs_15 2 rfl (CS_f1 hS) (hxi) (hi4) (Nat.le_of_ble_eq_true rfl) (if_pos hi4) ?_
      refine sx_getf (Cn := RE) (T := TE) (N := 6) C dC_needs_16 (sx_in inE) rfl 5 (by decide) (sx_w C kF_C_111) (fun _ h => h) (CS_f2 hS hi4) rfl ?_
      refine sx_istore_n (lv' := [some (.ref (ad 0 0)), some (.int x), some (.int v), some (.int (nI (ed 4 i)))]) C dC_needs_19 rfl (by decide) rfl rfl ?_
      refine sx_aload_n C dC_needs_20 rfl rfl ?_
      refine sx_getf (Cn := RC) (T := TC) (N := 7) C dC_needs_21 (sx_in inC) rfl 1 (by decide) (sx_w C kF_C_21) (fun _ h => h) (CS_f0 hS) rfl ?_
      refine sx_iload_n C dC_needs_24 rfl rfl ?_
      refine sx_aald (j := i) (b := (ad 2 i)) C dC_needs_25 2 rfl (CS_f1 hS) (hxi) (hi4) (Nat.le_of_ble_eq_true rfl) (if_pos hi4) ?_
      refine sx_iload_n C dC_needs_26 rfl rfl ?_
      refine sx_eqi (nI n) (hvn) ?_
      refine sx_putf (Cn := RE) (T := TE) (N := 6) (ty := .int) (fs' := [.ref (ad 3 i), .int (nI (ed 0 i)), .int (nI (ed 1 i)), .int (nI (ed 2 i)), .int (nI (ed 3 i)), .int (nI n)]) C dC_needs_27 (sx_in inE) tE tE_ok nE rfl 5 (by decide) (sx_w C kF_C_111) (fun _ h => h) rfl (by decide +kernel) rfl rfl (CS_f2 hS hi4) (by simp) rfl ?_
      have hS1 : CS tc (sx_up μ (ad 2 i) (.inr (0, [.ref (ad 3 i), .int (nI (ed 0 i)), .int (nI (ed 1 i)), .int (nI (ed 2 i)), .int (nI (ed 3 i)), .int (nI n)]))) ad ro ur W u ln rf sc uk ul uf sf (edU ed i (ed 0 i) (ed 1 i) (ed 2 i) (ed 3 i) n) := CS_edA hS hi4 _ _ _ _ _
      refine sx_iload_n C dC_needs_30 rfl rfl ?_
      exact sx_iretQX C hQ dC_needs_31 hr hlocks (Nat.le_of_ble_eq_true rfl) (Nat.le_of_ble_eq_true rfl) (⟨i, n, hi, hxi, hn, hvn, by rw [hE 4], CInv_of (ed_AW hA hi (hA.2.2.2 i hi).2.1 (hA.2.2.2 i hi).2.2.1 (hA.2.2.2 i hi).2.2.2.1 hn) hS1 ⟨hP.1, hP.2.1, hP.2.2.1, hP.2.2.2.1, hP.2.2.2.2.1, by rw [hE 0, hE 1, hE 2, hE 3]; exact ed_rel (fun k hk _ j => hP.2.2.2.2.2 k hk j)⟩⟩)

set_option maxHeartbeats 4000000 in
set_option maxRecDepth 100000 in
/-- clear -/
theorem c_C_clear (l : Launch) (D : va_G) (tc : Nat → ClassId) (ad : Nat → Nat → Nat) (ro : Nat → Nat) (ur : Nat) (W : Nat) (u : Nat) (ln : Nat → Nat) (rf : Nat → Nat → Int64) (sc : Nat → Nat → Int32) (uk : Bool) (ul : Nat) (uf : Nat → Int64) (sf : Nat → Int64) (ed : Nat → Nat → Nat) (μ : sx_M) (hS : CS tc μ ad ro ur W u ln rf sc uk ul uf sf ed) (S : Nat → Nat → Bool) (ed0 : Nat → Nat → Nat) (hA : AW W u S ed0) (hP : CP W u S ed0 ln rf sc uk ul uf ed) : sx_Mi l yC_clear (Cond.code yC_clear cC_clear 2 (some .int) :: sxW) (rmL 0 0 0) D sxCl (sxT tc) sxE [.ref (ad 0 0)] μ (fun r μ' => r = nI u ∧ CInv tc μ' (ad 0 0) W 0 S ed0) 0 0 := by
  refine sx_ofiQ (cc := cC_clear) (maxL := 2) (ret := (some .int)) (own := RC) sxE_ok (by decide) rfl rfl (Nat.le_of_ble_eq_true rfl) [some (.ref (ad 0 0)), none] 1 rfl (fun p e s m below meth c A Q hQ C hr hlocks hnm => ?_)
  refine sx_aload_n C dC_clear_0 rfl rfl ?_
  refine sx_getf (Cn := RC) (T := TC) (N := 7) C dC_clear_1 (sx_in inC) rfl 2 (by decide) (sx_w C kF_C_28) (fun _ h => h) (CS_f0 hS) rfl ?_
  refine sx_istore_n (lv' := [some (.ref (ad 0 0)), some (.int (nI u))]) C dC_clear_4 rfl (by decide) rfl rfl ?_
  refine sx_aload_n C dC_clear_5 rfl rfl ?_
  refine sx_iconst (v := 0) C dC_clear_6 (by decide) ?_
  refine sx_putf (Cn := RC) (T := TC) (N := 7) (ty := .int) (fs' := [.int (nI W), .ref (ad 1 0), .int 0, .ref (ad 5 0), .ref (ad 7 0), .int (b2i uk), .ref (ad 9 0)]) C dC_clear_7 (sx_in inC) tC tC_ok nC rfl 2 (by decide) (sx_w C kF_C_28) (fun _ h => h) rfl (by decide +kernel) rfl rfl (CS_f0 hS) (by simp) rfl ?_
  have hS1 : CS tc (sx_up μ (ad 0 0) (.inr (2, [.int (nI W), .ref (ad 1 0), .int 0, .ref (ad 5 0), .ref (ad 7 0), .int (b2i uk), .ref (ad 9 0)]))) ad ro ur W 0 ln rf sc uk ul uf sf ed := CS_u hS 0
  refine sx_aload_n C dC_clear_10 rfl rfl ?_
  refine sx_iconst (v := 0) C dC_clear_11 (by decide) ?_
  refine sx_putf (Cn := RC) (T := TC) (N := 7) (ty := .boolean) (fs' := [.int (nI W), .ref (ad 1 0), .int (nI 0), .ref (ad 5 0), .ref (ad 7 0), .int 0, .ref (ad 9 0)]) C dC_clear_12 (sx_in inC) tC tC_ok nC rfl 5 (by decide) (sx_w C kF_C_43) (fun _ h => h) rfl (by decide +kernel) rfl rfl (CS_f0 hS1) (by simp) rfl ?_
  have hS2 : CS tc (sx_up (sx_up μ (ad 0 0) (.inr (2, [.int (nI W), .ref (ad 1 0), .int 0, .ref (ad 5 0), .ref (ad 7 0), .int (b2i uk), .ref (ad 9 0)]))) (ad 0 0) (.inr (2, [.int (nI W), .ref (ad 1 0), .int (nI 0), .ref (ad 5 0), .ref (ad 7 0), .int 0, .ref (ad 9 0)]))) ad ro ur W 0 ln rf sc false ul uf sf ed := CS_uk hS1 false
  refine sx_iload_n C dC_clear_15 rfl rfl ?_
  exact sx_iretQ C hQ dC_clear_16 hr hlocks (Nat.le_of_ble_eq_true rfl) (Nat.le_of_ble_eq_true rfl) (⟨rfl, CInv_of ⟨hA.1, Nat.zero_le _, fun i hi => absurd hi (Nat.not_lt_zero _), fun i hi => absurd hi (Nat.not_lt_zero _)⟩ hS2 ⟨hP.1, fun i hi => absurd hi (Nat.not_lt_zero _), fun i hi => absurd hi (Nat.not_lt_zero _), hP.2.2.2.1, fun z => (by cases z), fun i hi => absurd hi (Nat.not_lt_zero _)⟩⟩)

def szI (W u : Nat) (x : Int32) : Int32 := if x = 0 then nI u else if x = 1 then nI W else -1

set_option maxHeartbeats 4000000 in
set_option maxRecDepth 100000 in
/-- size -/
theorem c_C_size (l : Launch) (D : va_G) (tc : Nat → ClassId) (x : Int32) (ad : Nat → Nat → Nat) (ro : Nat → Nat) (ur : Nat) (W : Nat) (u : Nat) (ln : Nat → Nat) (rf : Nat → Nat → Int64) (sc : Nat → Nat → Int32) (uk : Bool) (ul : Nat) (uf : Nat → Int64) (sf : Nat → Int64) (ed : Nat → Nat → Nat) (μ : sx_M) (hS : CS tc μ ad ro ur W u ln rf sc uk ul uf sf ed) (S : Nat → Nat → Bool) (ed0 : Nat → Nat → Nat) (hA : AW W u S ed0) (hP : CP W u S ed0 ln rf sc uk ul uf ed) : sx_Mi l yC_size (Cond.code yC_size cC_size 2 (some .int) :: sxW) (rmL 0 0 0) D sxCl (sxT tc) sxE [.ref (ad 0 0), .int x] μ (fun r μ' => r = szI W u x ∧ CInv tc μ' (ad 0 0) W u S ed0) 0 0 := by
  refine sx_ofiQ (cc := cC_size) (maxL := 2) (ret := (some .int)) (own := RC) sxE_ok (by decide) rfl rfl (Nat.le_of_ble_eq_true rfl) [some (.ref (ad 0 0)), some (.int x)] 0 rfl (fun p e s m below meth c A Q hQ C hr hlocks hnm => ?_)
  refine sx_iload_n C dC_size_0 rfl rfl ?_
  refine sx_if_ne (tgt := 9) C dC_size_1 (by decide) (fun c1 => ?_) (fun c1 => ?_)
  · refine sx_iload_n C dC_size_9 rfl rfl ?_
    refine sx_iconst (v := 1) C dC_size_10 (by decide) ?_
    refine sx_icmp_ne (tgt := 21) C dC_size_11 (by decide) (fun c11 => ?_) (fun c11 => ?_)
    · refine sx_iconst (v := -1) C dC_size_21 (by decide) ?_
      exact sx_iretQ C hQ dC_size_22 hr hlocks (Nat.le_of_ble_eq_true rfl) (Nat.le_of_ble_eq_true rfl) (⟨by unfold szI; first | rw [if_neg c1, if_neg c11] | rw [if_neg c1, if_pos c11], CInv_of hA hS hP⟩)
    · refine sx_aload_n C dC_size_14 rfl rfl ?_
      refine sx_getf (Cn := RC) (T := TC) (N := 7) C dC_size_15 (sx_in inC) rfl 0 (by decide) (sx_w C kF_C_15) (fun _ h => h) (CS_f0 hS) rfl ?_
      refine sx_goto (tgt := 22) C dC_size_18 (by decide) ?_
      exact sx_iretQ C hQ dC_size_22 hr hlocks (Nat.le_of_ble_eq_true rfl) (Nat.le_of_ble_eq_true rfl) (⟨by unfold szI; first | rw [if_neg c1, if_neg c11] | rw [if_neg c1, if_pos c11], CInv_of hA hS hP⟩)
  · refine sx_aload_n C dC_size_4 rfl rfl ?_
    refine sx_getf (Cn := RC) (T := TC) (N := 7) C dC_size_5 (sx_in inC) rfl 2 (by decide) (sx_w C kF_C_28) (fun _ h => h) (CS_f0 hS) rfl ?_
    exact sx_iretQ C hQ dC_size_8 hr hlocks (Nat.le_of_ble_eq_true rfl) (Nat.le_of_ble_eq_true rfl) (⟨by unfold szI; rw [if_pos c1], CInv_of hA hS hP⟩)

set_option maxHeartbeats 4000000 in
set_option maxRecDepth 100000 in
/-- count -/
theorem c_C_count (l : Launch) (D : va_G) (tc : Nat → ClassId) (hl : l.stackTraces = false) (x : Int32) (ad : Nat → Nat → Nat) (ro : Nat → Nat) (ur : Nat) (W : Nat) (u : Nat) (ln : Nat → Nat) (rf : Nat → Nat → Int64) (sc : Nat → Nat → Int32) (uk : Bool) (ul : Nat) (uf : Nat → Int64) (sf : Nat → Int64) (ed : Nat → Nat → Nat) (μ : sx_M) (hS : CS tc μ ad ro ur W u ln rf sc uk ul uf sf ed) (S : Nat → Nat → Bool) (ed0 : Nat → Nat → Nat) (hA : AW W u S ed0) (hP : CP W u S ed0 ln rf sc uk ul uf ed) : sx_Xi l yC_count (Cond.code yC_count cC_count 2 (some .int) :: sxW) (rmL 7 1 6) D sxCl (sxT tc) sxE [.ref (ad 0 0), .int x] μ (fun r μ' => (∃ i, i < u ∧ x = nI i ∧ r = nI (cm W S i i)) ∧ CInv tc μ' (ad 0 0) W u S ed0) (fun Ex μ' => CInv tc μ' (ad 0 0) W u S ed0 ∧ Ex = ioeN ∧ ∀ j, j < u → x ≠ nI j) 1 6 := by
  have hW := hA.1.2
  have hu := hA.2.1
  refine sx_ofXiQ (cc := cC_count) (maxL := 2) (ret := (some .int)) (own := RC) sxE_ok (by decide) rfl rfl (Nat.le_of_ble_eq_true rfl) [some (.ref (ad 0 0)), some (.int x)] 0 rfl (fun p e s m below meth c A Q hQ C hr hlocks hnm hno => ?_)
  refine sx_aload_n C dC_count_0 rfl rfl ?_
  refine sx_iload_n C dC_count_1 rfl rfl ?_
  refine sx_callXv C (sx_runXV (As := [.int x]) (rest := []) C sx_all (c_C_requireEncoding l D tc hl x ad ro ur W u ln rf sc uk ul uf sf ed μ hS hu) (ci := 2) rfl (CS_f0 hS) (sx_cwV C 1 kM_C_72 ki_C_requireEncoding ke_C_requireEncoding kn_C kc_C_requireEncoding rfl rfl (by decide +kernel) ⟨Nat.le_of_ble_eq_true rfl, Nat.le_of_ble_eq_true rfl⟩) rfl rfl (Nat.le_of_ble_eq_true rfl) dC_count_2 ⟨Nat.le_of_ble_eq_true rfl, Nat.le_of_ble_eq_true rfl⟩) (fun Ex μx hx => ?_) (fun μ1 h1 => ?_)
  · exact sx_passQ C hQ hno hlocks (Nat.le_of_ble_eq_true rfl) (Nat.le_of_ble_eq_true rfl) (⟨hx.1 ▸ CInv_of hA hS hP, hx.2⟩)
  · obtain ⟨hm, i, hi, hxi⟩ := h1
    subst hm
    have hi4 : i < 40 := by omega
    refine sx_aload_n C dC_count_5 rfl rfl ?_
    refine sx_getf (Cn := RC) (T := TC) (N := 7) C dC_count_6 (sx_in inC) rfl 3 (by decide) (sx_w C kF_C_33) (fun _ h => h) (CS_f0 hS) rfl ?_
    refine sx_iload_n C dC_count_9 rfl rfl ?_
    refine sx_aaldA (j := i) (b := (ad 6 i)) C dC_count_10 3 rfl (CS_f5 hS) (hxi) (hi4) (Nat.le_of_ble_eq_true rfl) (if_pos hi4) ?_
    refine sx_iload_n C dC_count_11 rfl rfl ?_
    refine sx_iald (j := i) C dC_count_12 0 rfl (CS_f6 hS hi4) (hxi) (hi4) (Nat.le_of_ble_eq_true rfl) ?_
    exact sx_iretQX C hQ dC_count_13 hr hlocks (Nat.le_of_ble_eq_true rfl) (Nat.le_of_ble_eq_true rfl) (⟨⟨i, hi, hxi, hP.2.2.1 i hi i hi⟩, CInv_of hA hS hP⟩)

set_option maxHeartbeats 4000000 in
set_option maxRecDepth 100000 in
/-- meaningless -/
theorem c_C_meaningless (l : Launch) (D : va_G) (tc : Nat → ClassId) (hl : l.stackTraces = false) (x : Int32) (ad : Nat → Nat → Nat) (ro : Nat → Nat) (ur : Nat) (W : Nat) (u : Nat) (ln : Nat → Nat) (rf : Nat → Nat → Int64) (sc : Nat → Nat → Int32) (uk : Bool) (ul : Nat) (uf : Nat → Int64) (sf : Nat → Int64) (ed : Nat → Nat → Nat) (μ : sx_M) (hS : CS tc μ ad ro ur W u ln rf sc uk ul uf sf ed) (S : Nat → Nat → Bool) (ed0 : Nat → Nat → Nat) (hA : AW W u S ed0) (hP : CP W u S ed0 ln rf sc uk ul uf ed) : sx_Xi l yC_meaningless (Cond.code yC_meaningless cC_meaningless 2 (some .int) :: sxW) (rmL 7 1 6) D sxCl (sxT tc) sxE [.ref (ad 0 0), .int x] μ (fun r μ' => (∃ i, i < u ∧ x = nI i ∧ r = nI (pop32 (nI (idN W ed0 i)))) ∧ CInv tc μ' (ad 0 0) W u S ed0) (fun Ex μ' => CInv tc μ' (ad 0 0) W u S ed0 ∧ Ex = ioeN ∧ ∀ j, j < u → x ≠ nI j) 1 6 := by
  have hW := hA.1.2
  have hu := hA.2.1
  refine sx_ofXiQ (cc := cC_meaningless) (maxL := 2) (ret := (some .int)) (own := RC) sxE_ok (by decide) rfl rfl (Nat.le_of_ble_eq_true rfl) [some (.ref (ad 0 0)), some (.int x)] 0 rfl (fun p e s m below meth c A Q hQ C hr hlocks hnm hno => ?_)
  refine sx_aload_n C dC_meaningless_0 rfl rfl ?_
  refine sx_iload_n C dC_meaningless_1 rfl rfl ?_
  refine sx_callXv C (sx_runXV (As := [.int x]) (rest := []) C sx_all (c_C_requireEncoding l D tc hl x ad ro ur W u ln rf sc uk ul uf sf ed μ hS hu) (ci := 2) rfl (CS_f0 hS) (sx_cwV C 1 kM_C_72 ki_C_requireEncoding ke_C_requireEncoding kn_C kc_C_requireEncoding rfl rfl (by decide +kernel) ⟨Nat.le_of_ble_eq_true rfl, Nat.le_of_ble_eq_true rfl⟩) rfl rfl (Nat.le_of_ble_eq_true rfl) dC_meaningless_2 ⟨Nat.le_of_ble_eq_true rfl, Nat.le_of_ble_eq_true rfl⟩) (fun Ex μx hx => ?_) (fun μ1 h1 => ?_)
  · exact sx_passQ C hQ hno hlocks (Nat.le_of_ble_eq_true rfl) (Nat.le_of_ble_eq_true rfl) (⟨hx.1 ▸ CInv_of hA hS hP, hx.2⟩)
  · obtain ⟨hm, i, hi, hxi⟩ := h1
    subst hm
    have hi4 : i < 40 := by omega
    refine sx_aload_n C dC_meaningless_5 rfl rfl ?_
    refine sx_iload_n C dC_meaningless_6 rfl rfl ?_
    refine sx_eqi (nI i) (hxi) ?_
    refine sx_calli C (sx_runV (As := [.int (nI i)]) (rest := []) C sx_all (c_C_idleBits l D tc i ad ro ur W u ln rf sc uk ul uf sf ed μ hS hi4) (ci := 2) rfl (CS_f0 hS) (sx_cwV C 1 kM_C_135 ki_C_idleBits ke_C_idleBits kn_C kc_C_idleBits rfl rfl (by decide +kernel) ⟨Nat.le_of_ble_eq_true rfl, Nat.le_of_ble_eq_true rfl⟩) rfl rfl (Nat.le_of_ble_eq_true rfl) dC_meaningless_7 ⟨Nat.le_of_ble_eq_true rfl, Nat.le_of_ble_eq_true rfl⟩) (fun q1 μ2 h2 => ?_)
    obtain ⟨hm, h2⟩ := h2
    subst hm
    have hE := hP.2.2.2.2.2 i hi
    rw [id_eq hW, show idN W ed i = idN W ed0 i by unfold idN; rw [hE 0, hE 1, hE 2]] at h2
    refine sx_eqi (nI (idN W ed0 i)) (h2) ?_
    refine sx_calli C (sx_runS (As := [.int (nI (idN W ed0 i))]) (rest := []) C sx_all (c_JI_bitCount l D tc (nI (idN W ed0 i)) μ) (sx_cwS C 1 kM_C_102 ks_JI_bitCount kn_JI kc_JI_bitCount rfl rfl (by decide +kernel) ⟨Nat.le_of_ble_eq_true rfl, Nat.le_of_ble_eq_true rfl⟩) rfl rfl (Nat.le_of_ble_eq_true rfl) dC_meaningless_10 ⟨Nat.le_of_ble_eq_true rfl, Nat.le_of_ble_eq_true rfl⟩) (fun q2 μ3 h3 => ?_)
    obtain ⟨hm, h3⟩ := h3
    refine sx_mu μ hm ?_
    refine sx_eqi (nI (pop32 (nI (idN W ed0 i)))) (h3) ?_
    exact sx_iretQX C hQ dC_meaningless_13 hr hlocks (Nat.le_of_ble_eq_true rfl) (Nat.le_of_ble_eq_true rfl) (⟨⟨i, hi, hxi, rfl⟩, CInv_of hA hS hP⟩)

theorem pop32_le (x : Int32) : pop32 x ≤ 32 := pu_c_le _ _
theorem idl_place {n k W : Nat} {r2 : Int32} (hW : W ≤ 16) (hn : n < 2 ^ W) (hk : k < pop32 (nI n)) (h : (∃ p, p < 64 ∧ bL (nI n).toInt64 p = true ∧ pu_c (bL (nI n).toInt64) p = k ∧ r2 = nI p) ∨ (pop64 (nI n).toInt64 ≤ k ∧ r2 = -1)) : ∃ p, r2 = nI p ∧ p < 32 ∧ bI (nI n) p = true ∧ pu_c (bI (nI n)) p = k := by
  have hp := en_pw hW
  rw [nI_l (by omega)] at h
  have hz : ∀ i, 32 ≤ i → bL (lN n) i = false := fun i hi => by
    rw [bL_lN, Nat.testBit_lt_two_pow (Nat.lt_of_lt_of_le (show n < 2 ^ 32 by omega) (Nat.pow_le_pow_right (by decide) hi)), Bool.and_false]
  have hb : ∀ i, i < 32 → bL (lN n) i = bI (nI n) i := fun i hi => by
    rw [bL_lN, bI_nI, decide_eq_true hi, decide_eq_true (show i < 64 by omega)]
  rcases h with ⟨p, h1, h2, h3, h4⟩ | ⟨h1, -⟩
  · have h32 : p < 32 := by
      rcases Nat.lt_or_ge p 32 with z | z
      · exact z
      · rw [hz p z] at h2; cases h2
    exact ⟨p, h4, h32, by rw [← hb p h32]; exact h2, by rw [← h3]; exact pu_c_congr p (fun i hi => (hb i (by omega)).symm)⟩
  · have e : pop64 (lN n) = pop32 (nI n) := by
      unfold pop64 pop32
      rw [pu_trim (n := 32) (by decide) (fun i h1 _ => hz i h1)]
      exact pu_c_congr 32 hb
    omega

set_option maxHeartbeats 4000000 in
set_option maxRecDepth 100000 in
/-- idle -/
theorem c_C_idle (l : Launch) (D : va_G) (tc : Nat → ClassId) (hl : l.stackTraces = false) (x y : Int32) (ad : Nat → Nat → Nat) (ro : Nat → Nat) (ur : Nat) (W : Nat) (u : Nat) (ln : Nat → Nat) (rf : Nat → Nat → Int64) (sc : Nat → Nat → Int32) (uk : Bool) (ul : Nat) (uf : Nat → Int64) (sf : Nat → Int64) (ed : Nat → Nat → Nat) (μ : sx_M) (hS : CS tc μ ad ro ur W u ln rf sc uk ul uf sf ed) (S : Nat → Nat → Bool) (ed0 : Nat → Nat → Nat) (hA : AW W u S ed0) (hP : CP W u S ed0 ln rf sc uk ul uf ed) : sx_Xi l yC_idle (Cond.code yC_idle cC_idle 4 (some .int) :: sxW) (rmL 7 2 12) D sxCl (sxT tc) sxE [.ref (ad 0 0), .int x, .int y] μ (fun r μ' => (∃ i k p, i < u ∧ x = nI i ∧ y = nI k ∧ k < pop32 (nI (idN W ed0 i)) ∧ r = nI p ∧ p < 32 ∧ bI (nI (idN W ed0 i)) p = true ∧ pu_c (bI (nI (idN W ed0 i))) p = k) ∧ CInv tc μ' (ad 0 0) W u S ed0) (fun Ex μ' => CInv tc μ' (ad 0 0) W u S ed0 ∧ ((Ex = ioeN ∧ ∀ j, j < u → x ≠ nI j) ∨ (Ex = iaeN ∧ ∃ i, i < u ∧ x = nI i ∧ ∀ k, k < pop32 (nI (idN W ed0 i)) → y ≠ nI k))) 2 12 := by
  have hW := hA.1.2
  have hu := hA.2.1
  refine sx_ofXiQ (cc := cC_idle) (maxL := 4) (ret := (some .int)) (own := RC) sxE_ok (by decide) rfl rfl (Nat.le_of_ble_eq_true rfl) [some (.ref (ad 0 0)), some (.int x), some (.int y), none] 1 rfl (fun p e s m below meth c A Q hQ C hr hlocks hnm hno => ?_)
  refine sx_aload_n C dC_idle_0 rfl rfl ?_
  refine sx_iload_n C dC_idle_1 rfl rfl ?_
  refine sx_callXv C (sx_runXV (As := [.int x]) (rest := []) C sx_all (c_C_requireEncoding l D tc hl x ad ro ur W u ln rf sc uk ul uf sf ed μ hS hu) (ci := 2) rfl (CS_f0 hS) (sx_cwV C 1 kM_C_72 ki_C_requireEncoding ke_C_requireEncoding kn_C kc_C_requireEncoding rfl rfl (by decide +kernel) ⟨Nat.le_of_ble_eq_true rfl, Nat.le_of_ble_eq_true rfl⟩) rfl rfl (Nat.le_of_ble_eq_true rfl) dC_idle_2 ⟨Nat.le_of_ble_eq_true rfl, Nat.le_of_ble_eq_true rfl⟩) (fun Ex μx hx => ?_) (fun μ1 h1 => ?_)
  · exact sx_passQ C hQ hno hlocks (Nat.le_of_ble_eq_true rfl) (Nat.le_of_ble_eq_true rfl) (⟨hx.1 ▸ CInv_of hA hS hP, Or.inl hx.2⟩)
  · obtain ⟨hm, i, hi, hxi⟩ := h1
    subst hm
    have hi4 : i < 40 := by omega
    refine sx_aload_n C dC_idle_5 rfl rfl ?_
    refine sx_iload_n C dC_idle_6 rfl rfl ?_
    refine sx_eqi (nI i) (hxi) ?_
    refine sx_calli C (sx_runV (As := [.int (nI i)]) (rest := []) C sx_all (c_C_idleBits l D tc i ad ro ur W u ln rf sc uk ul uf sf ed μ hS hi4) (ci := 2) rfl (CS_f0 hS) (sx_cwV C 1 kM_C_135 ki_C_idleBits ke_C_idleBits kn_C kc_C_idleBits rfl rfl (by decide +kernel) ⟨Nat.le_of_ble_eq_true rfl, Nat.le_of_ble_eq_true rfl⟩) rfl rfl (Nat.le_of_ble_eq_true rfl) dC_idle_7 ⟨Nat.le_of_ble_eq_true rfl, Nat.le_of_ble_eq_true rfl⟩) (fun q1 μ2 h2 => ?_)
    obtain ⟨hm, h2⟩ := h2
    subst hm
    have hE := hP.2.2.2.2.2 i hi
    rw [id_eq hW, show idN W ed i = idN W ed0 i by unfold idN; rw [hE 0, hE 1, hE 2]] at h2
    refine sx_eqi (nI (idN W ed0 i)) (h2) ?_
    refine sx_istore_n (lv' := [some (.ref (ad 0 0)), some (.int x), some (.int y), some (.int (nI (idN W ed0 i)))]) C dC_idle_10 rfl (by decide) rfl rfl ?_
    refine sx_iload_n C dC_idle_11 rfl rfl ?_
    refine sx_if_lt (tgt := 23) C dC_idle_12 (by decide) (fun c12 => ?_) (fun c12 => ?_)
    · have hbad : ∀ k, k < pop32 (nI (idN W ed0 i)) → y ≠ nI k := fun k hk => ab_bad (n := 32) (by omega) (Or.inl c12) (by have := pop32_le (nI (idN W ed0 i)); omega)
      exact sx_thr_iae (text := "no such bit") hl C hQ dC_idle_23 dC_idle_26 dC_idle_27 dC_idle_29 dC_idle_32 (by simp [sxStr]) hno hlocks (Nat.le_of_ble_eq_true rfl) (Nat.le_of_ble_eq_true rfl) (Nat.le_of_ble_eq_true rfl) (Nat.le_of_ble_eq_true rfl) (Nat.le_of_ble_eq_true rfl) (Nat.le_of_ble_eq_true rfl) (⟨CInv_of hA hS hP, Or.inr ⟨rfl, i, hi, hxi, hbad⟩⟩)
    · refine sx_iload_n C dC_idle_15 rfl rfl ?_
      refine sx_iload_n C dC_idle_16 rfl rfl ?_
      refine sx_calli C (sx_runS (As := [.int (nI (idN W ed0 i))]) (rest := [.int y]) C sx_all (c_JI_bitCount l D tc (nI (idN W ed0 i)) μ) (sx_cwS C 1 kM_C_102 ks_JI_bitCount kn_JI kc_JI_bitCount rfl rfl (by decide +kernel) ⟨Nat.le_of_ble_eq_true rfl, Nat.le_of_ble_eq_true rfl⟩) rfl rfl (Nat.le_of_ble_eq_true rfl) dC_idle_17 ⟨Nat.le_of_ble_eq_true rfl, Nat.le_of_ble_eq_true rfl⟩) (fun q2 μ3 h3 => ?_)
      obtain ⟨hm, h3⟩ := h3
      refine sx_mu μ hm ?_
      refine sx_eqi (nI (pop32 (nI (idN W ed0 i)))) (h3) ?_
      refine sx_icmp_lt (tgt := 33) C dC_idle_20 (by decide) (fun c20 => ?_) (fun c20 => ?_)
      · have hpl := pop32_le (nI (idN W ed0 i))
        obtain ⟨k, hk, hyk⟩ := ab_ix (by omega) c12 c20
        refine sx_iload_n C dC_idle_33 rfl rfl ?_
        refine sx_i2l C dC_idle_34 ?_
        refine sx_iload_n C dC_idle_35 rfl rfl ?_
        refine sx_eqi (nI k) (hyk) ?_
        refine sx_calli C (sx_runS (As := [.long ((nI (idN W ed0 i)).toInt64), .int (nI k)]) (rest := []) C sx_all (c_S_placeOfBit l D tc (nI (idN W ed0 i)).toInt64 k μ (by omega)) (sx_cwS C 2 kM_C_140 ks_S_placeOfBit kn_S kc_S_placeOfBit rfl rfl (by decide +kernel) ⟨Nat.le_of_ble_eq_true rfl, Nat.le_of_ble_eq_true rfl⟩) rfl rfl (Nat.le_of_ble_eq_true rfl) dC_idle_36 ⟨Nat.le_of_ble_eq_true rfl, Nat.le_of_ble_eq_true rfl⟩) (fun q4 μ4 h4 => ?_)
        obtain ⟨hm, h4⟩ := h4
        subst hm
        obtain ⟨p9, h5, h6, h7, h8⟩ := idl_place hW (id_lt W ed0 i) hk h4
        exact sx_iretQX C hQ dC_idle_39 hr hlocks (Nat.le_of_ble_eq_true rfl) (Nat.le_of_ble_eq_true rfl) (⟨⟨i, k, p9, hi, hxi, hyk, hk, h5, h6, h7, h8⟩, CInv_of hA hS hP⟩)
      · have hpl := pop32_le (nI (idN W ed0 i))
        have hbad : ∀ k, k < pop32 (nI (idN W ed0 i)) → y ≠ nI k := fun k hk e => c20 (by rw [e]; exact nI_lt hk (by omega))
        exact sx_thr_iae (text := "no such bit") hl C hQ dC_idle_23 dC_idle_26 dC_idle_27 dC_idle_29 dC_idle_32 (by simp [sxStr]) hno hlocks (Nat.le_of_ble_eq_true rfl) (Nat.le_of_ble_eq_true rfl) (Nat.le_of_ble_eq_true rfl) (Nat.le_of_ble_eq_true rfl) (Nat.le_of_ble_eq_true rfl) (Nat.le_of_ble_eq_true rfl) (⟨CInv_of hA hS hP, Or.inr ⟨rfl, i, hi, hxi, hbad⟩⟩)

set_option maxHeartbeats 4000000 in
set_option maxRecDepth 100000 in
/-- alias -/
theorem c_C_alias (l : Launch) (D : va_G) (tc : Nat → ClassId) (hl : l.stackTraces = false) (x y : Int32) (ad : Nat → Nat → Nat) (ro : Nat → Nat) (ur : Nat) (W : Nat) (u : Nat) (ln : Nat → Nat) (rf : Nat → Nat → Int64) (sc : Nat → Nat → Int32) (uk : Bool) (ul : Nat) (uf : Nat → Int64) (sf : Nat → Int64) (ed : Nat → Nat → Nat) (μ : sx_M) (hS : CS tc μ ad ro ur W u ln rf sc uk ul uf sf ed) (S : Nat → Nat → Bool) (ed0 : Nat → Nat → Nat) (hA : AW W u S ed0) (hP : CP W u S ed0 ln rf sc uk ul uf ed) : sx_Xi l yC_alias (Cond.code yC_alias cC_alias 3 (some .int) :: sxW) (rmL 7 2 12) D sxCl (sxT tc) sxE [.ref (ad 0 0), .int x, .int y] μ (fun r μ' => (∃ a b, a < u ∧ b < u ∧ x = nI a ∧ y = nI b ∧ r = nI (alN W S a b)) ∧ CInv tc μ' (ad 0 0) W u S ed0) (fun Ex μ' => CInv tc μ' (ad 0 0) W u S ed0 ∧ Ex = ioeN ∧ ∀ a b, a < u → b < u → ¬ (x = nI a ∧ y = nI b)) 2 12 := by
  have hW := hA.1.2
  have hu := hA.2.1
  refine sx_ofXiQ (cc := cC_alias) (maxL := 3) (ret := (some .int)) (own := RC) sxE_ok (by decide) rfl rfl (Nat.le_of_ble_eq_true rfl) [some (.ref (ad 0 0)), some (.int x), some (.int y)] 0 rfl (fun p e s m below meth c A Q hQ C hr hlocks hnm hno => ?_)
  refine sx_aload_n C dC_alias_0 rfl rfl ?_
  refine sx_iload_n C dC_alias_1 rfl rfl ?_
  refine sx_callXv C (sx_runXV (As := [.int x]) (rest := []) C sx_all (c_C_requireEncoding l D tc hl x ad ro ur W u ln rf sc uk ul uf sf ed μ hS hu) (ci := 2) rfl (CS_f0 hS) (sx_cwV C 1 kM_C_72 ki_C_requireEncoding ke_C_requireEncoding kn_C kc_C_requireEncoding rfl rfl (by decide +kernel) ⟨Nat.le_of_ble_eq_true rfl, Nat.le_of_ble_eq_true rfl⟩) rfl rfl (Nat.le_of_ble_eq_true rfl) dC_alias_2 ⟨Nat.le_of_ble_eq_true rfl, Nat.le_of_ble_eq_true rfl⟩) (fun Ex μx hx => ?_) (fun μ1 h1 => ?_)
  · exact sx_passQ C hQ hno hlocks (Nat.le_of_ble_eq_true rfl) (Nat.le_of_ble_eq_true rfl) (⟨hx.1 ▸ CInv_of hA hS hP, hx.2.1, fun a b ha _ h => hx.2.2 a ha h.1⟩)
  · obtain ⟨hm, a, ha, hxa⟩ := h1
    subst hm
    have ha4 : a < 40 := by omega
    refine sx_aload_n C dC_alias_5 rfl rfl ?_
    refine sx_iload_n C dC_alias_6 rfl rfl ?_
    refine sx_callXv C (sx_runXV (As := [.int y]) (rest := []) C sx_all (c_C_requireEncoding l D tc hl y ad ro ur W u ln rf sc uk ul uf sf ed μ hS hu) (ci := 2) rfl (CS_f0 hS) (sx_cwV C 1 kM_C_72 ki_C_requireEncoding ke_C_requireEncoding kn_C kc_C_requireEncoding rfl rfl (by decide +kernel) ⟨Nat.le_of_ble_eq_true rfl, Nat.le_of_ble_eq_true rfl⟩) rfl rfl (Nat.le_of_ble_eq_true rfl) dC_alias_7 ⟨Nat.le_of_ble_eq_true rfl, Nat.le_of_ble_eq_true rfl⟩) (fun Ex μx hx => ?_) (fun μ2 h2 => ?_)
    · exact sx_passQ C hQ hno hlocks (Nat.le_of_ble_eq_true rfl) (Nat.le_of_ble_eq_true rfl) (⟨hx.1 ▸ CInv_of hA hS hP, hx.2.1, fun a b _ hb h => hx.2.2 b hb h.2⟩)
    · obtain ⟨hm, b, hb, hxb⟩ := h2
      subst hm
      have hb4 : b < 40 := by omega
      refine sx_aload_n C dC_alias_10 rfl rfl ?_
      refine sx_getf (Cn := RC) (T := TC) (N := 7) C dC_alias_11 (sx_in inC) rfl 3 (by decide) (sx_w C kF_C_33) (fun _ h => h) (CS_f0 hS) rfl ?_
      refine sx_iload_n C dC_alias_14 rfl rfl ?_
      refine sx_aaldA (j := a) (b := (ad 6 a)) C dC_alias_15 3 rfl (CS_f5 hS) (hxa) (ha4) (Nat.le_of_ble_eq_true rfl) (if_pos ha4) ?_
      refine sx_iload_n C dC_alias_16 rfl rfl ?_
      refine sx_iald (j := b) C dC_alias_17 0 rfl (CS_f6 hS ha4) (hxb) (hb4) (Nat.le_of_ble_eq_true rfl) ?_
      refine sx_if_ne (tgt := 23) C dC_alias_18 (by decide) (fun c18 => ?_) (fun c18 => ?_)
      · have hcm := cm_lt hW S a b
        have hc0 : ¬ cm W S a b = 0 := fun z => c18 (by rw [hP.2.2.1 a ha b hb, z]; rfl)
        refine sx_aload_n C dC_alias_23 rfl rfl ?_
        refine sx_iload_n C dC_alias_24 rfl rfl ?_
        refine sx_eqi (nI a) (hxa) ?_
        refine sx_iload_n C dC_alias_25 rfl rfl ?_
        refine sx_eqi (nI b) (hxb) ?_
        refine sx_calli C (sx_runV (As := [.int (nI a), .int (nI b)]) (rest := []) C sx_all (c_C_liesIn l D tc a b ad ro ur W u ln rf sc uk ul uf sf ed μ hS ha4 hb4) (ci := 2) rfl (CS_f0 hS) (sx_cwV C 2 kM_C_125 ki_C_liesIn ke_C_liesIn kn_C kc_C_liesIn rfl rfl (by decide +kernel) ⟨Nat.le_of_ble_eq_true rfl, Nat.le_of_ble_eq_true rfl⟩) rfl rfl (Nat.le_of_ble_eq_true rfl) dC_alias_26 ⟨Nat.le_of_ble_eq_true rfl, Nat.le_of_ble_eq_true rfl⟩) (fun q1 μ4 g1 => ?_)
        obtain ⟨hm, g1⟩ := g1
        subst hm
        rw [cp_ls hA hP ha hb] at g1
        refine sx_if_eq (tgt := 47) C dC_alias_29 (by decide) (fun c29 => ?_) (fun c29 => ?_)
        · rw [g1] at c29
          have l1 := b2i_z.mp c29
          refine sx_aload_n C dC_alias_47 rfl rfl ?_
          refine sx_iload_n C dC_alias_48 rfl rfl ?_
          refine sx_eqi (nI b) (hxb) ?_
          refine sx_iload_n C dC_alias_49 rfl rfl ?_
          refine sx_eqi (nI a) (hxa) ?_
          refine sx_calli C (sx_runV (As := [.int (nI b), .int (nI a)]) (rest := []) C sx_all (c_C_liesIn l D tc b a ad ro ur W u ln rf sc uk ul uf sf ed μ hS hb4 ha4) (ci := 2) rfl (CS_f0 hS) (sx_cwV C 2 kM_C_125 ki_C_liesIn ke_C_liesIn kn_C kc_C_liesIn rfl rfl (by decide +kernel) ⟨Nat.le_of_ble_eq_true rfl, Nat.le_of_ble_eq_true rfl⟩) rfl rfl (Nat.le_of_ble_eq_true rfl) dC_alias_50 ⟨Nat.le_of_ble_eq_true rfl, Nat.le_of_ble_eq_true rfl⟩) (fun q2 μ4 g2 => ?_)
          obtain ⟨hm, g2⟩ := g2
          subst hm
          rw [cp_ls hA hP hb ha] at g2
          refine sx_if_eq (tgt := 60) C dC_alias_53 (by decide) (fun c53 => ?_) (fun c53 => ?_)
          · rw [g2] at c53
            have l2 := b2i_z.mp c53
            refine sx_iconst (v := 4) C dC_alias_60 (by decide) ?_
            exact sx_iretQX C hQ dC_alias_61 hr hlocks (Nat.le_of_ble_eq_true rfl) (Nat.le_of_ble_eq_true rfl) (⟨⟨a, b, ha, hb, hxa, hxb, by unfold alN; rw [if_neg hc0, l1, l2]; rfl⟩, CInv_of hA hS hP⟩)
          · rw [g2] at c53
            have l2 := b2i_ne.mp c53
            refine sx_iconst (v := 3) C dC_alias_56 (by decide) ?_
            refine sx_goto (tgt := 61) C dC_alias_57 (by decide) ?_
            exact sx_iretQX C hQ dC_alias_61 hr hlocks (Nat.le_of_ble_eq_true rfl) (Nat.le_of_ble_eq_true rfl) (⟨⟨a, b, ha, hb, hxa, hxb, by unfold alN; rw [if_neg hc0, l1, l2]; rfl⟩, CInv_of hA hS hP⟩)
        · rw [g1] at c29
          have l1 := b2i_ne.mp c29
          refine sx_aload_n C dC_alias_32 rfl rfl ?_
          refine sx_iload_n C dC_alias_33 rfl rfl ?_
          refine sx_eqi (nI b) (hxb) ?_
          refine sx_iload_n C dC_alias_34 rfl rfl ?_
          refine sx_eqi (nI a) (hxa) ?_
          refine sx_calli C (sx_runV (As := [.int (nI b), .int (nI a)]) (rest := []) C sx_all (c_C_liesIn l D tc b a ad ro ur W u ln rf sc uk ul uf sf ed μ hS hb4 ha4) (ci := 2) rfl (CS_f0 hS) (sx_cwV C 2 kM_C_125 ki_C_liesIn ke_C_liesIn kn_C kc_C_liesIn rfl rfl (by decide +kernel) ⟨Nat.le_of_ble_eq_true rfl, Nat.le_of_ble_eq_true rfl⟩) rfl rfl (Nat.le_of_ble_eq_true rfl) dC_alias_35 ⟨Nat.le_of_ble_eq_true rfl, Nat.le_of_ble_eq_true rfl⟩) (fun q2 μ4 g2 => ?_)
          obtain ⟨hm, g2⟩ := g2
          subst hm
          rw [cp_ls hA hP hb ha] at g2
          refine sx_if_eq (tgt := 45) C dC_alias_38 (by decide) (fun c38 => ?_) (fun c38 => ?_)
          · rw [g2] at c38
            have l2 := b2i_z.mp c38
            refine sx_iconst (v := 2) C dC_alias_45 (by decide) ?_
            exact sx_iretQX C hQ dC_alias_46 hr hlocks (Nat.le_of_ble_eq_true rfl) (Nat.le_of_ble_eq_true rfl) (⟨⟨a, b, ha, hb, hxa, hxb, by unfold alN; rw [if_neg hc0, l1, l2]; rfl⟩, CInv_of hA hS hP⟩)
          · rw [g2] at c38
            have l2 := b2i_ne.mp c38
            refine sx_iconst (v := 1) C dC_alias_41 (by decide) ?_
            refine sx_goto (tgt := 46) C dC_alias_42 (by decide) ?_
            exact sx_iretQX C hQ dC_alias_46 hr hlocks (Nat.le_of_ble_eq_true rfl) (Nat.le_of_ble_eq_true rfl) (⟨⟨a, b, ha, hb, hxa, hxb, by unfold alN; rw [if_neg hc0, l1, l2]; rfl⟩, CInv_of hA hS hP⟩)
      · have hcm := cm_lt hW S a b
        have hc0 : cm W S a b = 0 := (ab_nI (b := 0) (by omega) (by decide)).mp (by rw [← hP.2.2.1 a ha b hb]; exact c18)
        refine sx_iconst (v := 0) C dC_alias_21 (by decide) ?_
        exact sx_iretQX C hQ dC_alias_22 hr hlocks (Nat.le_of_ble_eq_true rfl) (Nat.le_of_ble_eq_true rfl) (⟨⟨a, b, ha, hb, hxa, hxb, by unfold alN; rw [if_pos hc0]; rfl⟩, CInv_of hA hS hP⟩)

set_option maxHeartbeats 4000000 in
set_option maxRecDepth 100000 in
/-- gaps -/
theorem c_C_gaps (l : Launch) (D : va_G) (tc : Nat → ClassId) (ad : Nat → Nat → Nat) (ro : Nat → Nat) (ur : Nat) (W : Nat) (u : Nat) (ln : Nat → Nat) (rf : Nat → Nat → Int64) (sc : Nat → Nat → Int32) (uk : Bool) (ul : Nat) (uf : Nat → Int64) (sf : Nat → Int64) (ed : Nat → Nat → Nat) (μ : sx_M) (hS : CS tc μ ad ro ur W u ln rf sc uk ul uf sf ed) (S : Nat → Nat → Bool) (ed0 : Nat → Nat → Nat) (hA : AW W u S ed0) (hP : CP W u S ed0 ln rf sc uk ul uf ed) : sx_Mi l yC_gaps (Cond.code yC_gaps cC_gaps 2 (some .int) :: sxW) (rmL 4 1 1024) D sxCl (sxT tc) sxE [.ref (ad 0 0)] μ (fun r μ' => r = nI (pu_c (gpS W u S) (2 ^ W)) ∧ CInv tc μ' (ad 0 0) W u S ed0) 1 1024 := by
  have hW := hA.1.2
  have hu := hA.2.1
  have hC := nCh_le hW
  refine sx_ofiQ (cc := cC_gaps) (maxL := 2) (ret := (some .int)) (own := RC) sxE_ok (by decide) rfl rfl (Nat.le_of_ble_eq_true rfl) [some (.ref (ad 0 0)), none] 1 rfl (fun p e s m below meth c A Q hQ C hr hlocks hnm => ?_)
  refine sx_aload_n C dC_gaps_0 rfl rfl ?_
  refine sx_callr C (sx_runV (As := []) (rest := []) C sx_all (c_C_wordsOfNone l D tc ad ro ur W u ln rf sc uk ul uf sf ed μ hS S ed0 hA hP) (ci := 2) rfl (CS_f0 hS) (sx_cwV C 0 kM_C_144 ki_C_wordsOfNone ke_C_wordsOfNone kn_C kc_C_wordsOfNone rfl rfl (by decide +kernel) ⟨Nat.le_of_ble_eq_true rfl, Nat.le_of_ble_eq_true rfl⟩) rfl rfl (Nat.le_of_ble_eq_true rfl) dC_gaps_1 ⟨Nat.le_of_ble_eq_true rfl, Nat.le_of_ble_eq_true rfl⟩) (fun r μ1 h1 => ?_)
  obtain ⟨rfl, ur2, f, hS1, hrow⟩ := h1
  refine sx_astore_n (lv' := [some (.ref (ad 0 0)), some (.ref (ad 7 0))]) C dC_gaps_4 rfl (by decide) rfl rfl ?_
  refine sx_aload_n C dC_gaps_5 rfl rfl ?_
  refine sx_aload_n C dC_gaps_6 rfl rfl ?_
  refine sx_calli C (sx_runV (As := [.ref (ad 7 0)]) (rest := []) C sx_all (c_S_howManyCommon l D tc (ad 7 0) ur2 W (nCh W) (ad 7 0) ur2 W (nCh W) f f μ1 (by omega) (by omega) (CS_f7 hS1) (CS_f8 hS1) (CS_f7 hS1) (CS_f8 hS1)) (ci := 1) rfl (CS_f7 hS1) (sx_cwV C 1 kM_C_148 ki_S_howManyCommon ke_S_howManyCommon kn_S kc_S_howManyCommon rfl rfl (by decide +kernel) ⟨Nat.le_of_ble_eq_true rfl, Nat.le_of_ble_eq_true rfl⟩) rfl rfl (Nat.le_of_ble_eq_true rfl) dC_gaps_7 ⟨Nat.le_of_ble_eq_true rfl, Nat.le_of_ble_eq_true rfl⟩) (fun q1 μ2 h2 => ?_)
  obtain ⟨hm, h2⟩ := h2
  subst hm
  rw [Nat.min_self, gp_cnt hrow gp_z] at h2
  exact sx_iretQ C hQ dC_gaps_10 hr hlocks (Nat.le_of_ble_eq_true rfl) (Nat.le_of_ble_eq_true rfl) (⟨h2, CInv_of hA hS1 ⟨hP.1, hP.2.1, hP.2.2.1, Or.inr rfl, fun _ => ⟨rfl, hrow⟩, hP.2.2.2.2.2⟩⟩)

set_option maxHeartbeats 4000000 in
set_option maxRecDepth 100000 in
/-- blocks -/
theorem c_C_blocks (l : Launch) (D : va_G) (tc : Nat → ClassId) (hl : l.stackTraces = false) (x : Int32) (ad : Nat → Nat → Nat) (ro : Nat → Nat) (ur : Nat) (W : Nat) (u : Nat) (ln : Nat → Nat) (rf : Nat → Nat → Int64) (sc : Nat → Nat → Int32) (uk : Bool) (ul : Nat) (uf : Nat → Int64) (sf : Nat → Int64) (ed : Nat → Nat → Nat) (μ : sx_M) (hS : CS tc μ ad ro ur W u ln rf sc uk ul uf sf ed) (S : Nat → Nat → Bool) (ed0 : Nat → Nat → Nat) (hA : AW W u S ed0) (hP : CP W u S ed0 ln rf sc uk ul uf ed) : sx_Xi l yC_blocks (Cond.code yC_blocks cC_blocks 2 (some .int) :: sxW) (rmL 8 2 1030) D sxCl (sxT tc) sxE [.ref (ad 0 0), .int x] μ (fun r μ' => (∃ T, selT W u S x T ∧ r = nI (pu_c (bkS T (max W 6)) (64 * nCh W))) ∧ CInv tc μ' (ad 0 0) W u S ed0) (fun Ex μ' => CInv tc μ' (ad 0 0) W u S ed0 ∧ Ex = ioeN ∧ x ≠ -1 ∧ ∀ j, j < u → x ≠ nI j) 2 1030 := by
  have hW := hA.1.2
  have hu := hA.2.1
  refine sx_ofXiQ (cc := cC_blocks) (maxL := 2) (ret := (some .int)) (own := RC) sxE_ok (by decide) rfl rfl (Nat.le_of_ble_eq_true rfl) [some (.ref (ad 0 0)), some (.int x)] 0 rfl (fun p e s m below meth c A Q hQ C hr hlocks hnm hno => ?_)
  refine sx_aload_n C dC_blocks_0 rfl rfl ?_
  refine sx_iload_n C dC_blocks_1 rfl rfl ?_
  refine sx_callXr C (sx_runXV (As := [.int x]) (rest := []) C sx_all (c_C_wordsOrNone l D tc hl x ad ro ur W u ln rf sc uk ul uf sf ed μ hS S ed0 hA hP) (ci := 2) rfl (CS_f0 hS) (sx_cwV C 1 kM_C_152 ki_C_wordsOrNone ke_C_wordsOrNone kn_C kc_C_wordsOrNone rfl rfl (by decide +kernel) ⟨Nat.le_of_ble_eq_true rfl, Nat.le_of_ble_eq_true rfl⟩) rfl rfl (Nat.le_of_ble_eq_true rfl) dC_blocks_2 ⟨Nat.le_of_ble_eq_true rfl, Nat.le_of_ble_eq_true rfl⟩) (fun Ex μx hx => ?_) (fun ro9 μ1 h1 => ?_)
  · exact sx_passQ C hQ hno hlocks (Nat.le_of_ble_eq_true rfl) (Nat.le_of_ble_eq_true rfl) (⟨hx.1 ▸ CInv_of hA hS hP, hx.2⟩)
  · obtain ⟨hI, r9, f9, T, ho9, hr9, hrow, hsel⟩ := h1
    have hok9 := rowS_ok hrow (sel_z hA hsel)
    refine sx_calli C (sx_runV (As := []) (rest := []) C sx_all (c_S_howManyBlocks l D tc ro9 r9 W f9 μ1 hW hok9 ho9 hr9) (ci := 1) rfl ho9 (sx_cwV C 0 kM_C_156 ki_S_howManyBlocks ke_S_howManyBlocks kn_S kc_S_howManyBlocks rfl rfl (by decide +kernel) ⟨Nat.le_of_ble_eq_true rfl, Nat.le_of_ble_eq_true rfl⟩) rfl rfl (Nat.le_of_ble_eq_true rfl) dC_blocks_5 ⟨Nat.le_of_ble_eq_true rfl, Nat.le_of_ble_eq_true rfl⟩) (fun q1 μ2 h2 => ?_)
    obtain ⟨hm, h2⟩ := h2
    subst hm
    rw [hrow] at h2
    exact sx_iretQX C hQ dC_blocks_8 hr hlocks (Nat.le_of_ble_eq_true rfl) (Nat.le_of_ble_eq_true rfl) (⟨⟨T, hsel, h2⟩, hI⟩)

theorem bl_bad {y : Int32} {N : Nat} {P : Nat → Bool} (hN : N < 2 ^ 31) (h : y < 0) : ∀ k w, y = nI k → w < N → P w = true → pu_c P w ≠ k := by
  intro k w hy hw hP e
  have := pu_c_le P w
  exact nI_pos (n := k) (by omega) (hy ▸ h)
theorem pu_mono {P : Nat → Bool} {a : Nat} : ∀ {b : Nat}, a ≤ b → pu_c P a ≤ pu_c P b := by
  intro b h
  obtain ⟨d, rfl⟩ : ∃ d, b = a + d := ⟨b - a, by omega⟩
  rw [pu_c_add]
  omega
theorem pu_lt {P : Nat → Bool} {w N : Nat} (hw : w < N) (hP : P w = true) : pu_c P w < pu_c P N := by
  have h1 : pu_c P (w + 1) = pu_c P w + 1 := by
    show pu_c P w + (if P w = true then 1 else 0) = _
    rw [if_pos hP]
  have := pu_mono (P := P) (show w + 1 ≤ N from hw)
  omega
theorem ab_nat {y : Int32} (h : ¬ y < 0) : ∃ k, k < 2 ^ 31 ∧ y = nI k := by
  have e0 : 0 ≤ y.toInt := by
    rw [Int32.lt_iff_toInt_lt, Int32.toInt_zero] at h
    omega
  have e1 : y.toInt < 2 ^ 31 := by have := y.toInt_lt; omega
  refine ⟨y.toInt.toNat, by omega, Int32.toInt_inj.mp ?_⟩
  rw [nI_toInt (by omega)]
  omega
theorem ab_01 {z : Int32} (h0 : ¬ z < 0) (h1 : z ≤ 1) : z = 0 ∨ z = 1 := by
  rw [Int32.lt_iff_toInt_lt, Int32.toInt_zero] at h0
  rw [Int32.le_iff_toInt_le, show (1 : Int32).toInt = 1 from rfl] at h1
  rcases (show z.toInt = 0 ∨ z.toInt = 1 by omega) with h | h
  · exact Or.inl (Int32.toInt_inj.mp h)
  · exact Or.inr (Int32.toInt_inj.mp h)

set_option maxHeartbeats 4000000 in
set_option maxRecDepth 100000 in
/-- block -/
theorem c_C_block (l : Launch) (D : va_G) (tc : Nat → ClassId) (hl : l.stackTraces = false) (x y z : Int32) (ad : Nat → Nat → Nat) (ro : Nat → Nat) (ur : Nat) (W : Nat) (u : Nat) (ln : Nat → Nat) (rf : Nat → Nat → Int64) (sc : Nat → Nat → Int32) (uk : Bool) (ul : Nat) (uf : Nat → Int64) (sf : Nat → Int64) (ed : Nat → Nat → Nat) (μ : sx_M) (hS : CS tc μ ad ro ur W u ln rf sc uk ul uf sf ed) (S : Nat → Nat → Bool) (ed0 : Nat → Nat → Nat) (hA : AW W u S ed0) (hP : CP W u S ed0 ln rf sc uk ul uf ed) : sx_Xi l yC_block (Cond.code yC_block cC_block 6 (some .int) :: sxW) (rmL 8 4 1042) D sxCl (sxT tc) sxE [.ref (ad 0 0), .int x, .int y, .int z] μ (fun r μ' => (∃ T k w, selT W u S x T ∧ y = nI k ∧ k < 2 ^ 31 ∧ w < 64 * nCh W ∧ bkS T (max W 6) w = true ∧ pu_c (bkS T (max W 6)) w = k ∧ ((z = 0 ∧ r = nI w) ∨ (z = 1 ∧ ∃ q, r = nI q ∧ bk_lev T (max W 6) w q))) ∧ CInv tc μ' (ad 0 0) W u S ed0) (fun Ex μ' => CInv tc μ' (ad 0 0) W u S ed0 ∧ ((Ex = ioeN ∧ x ≠ -1 ∧ ∀ j, j < u → x ≠ nI j) ∨ (Ex = iaeN ∧ ∃ T, selT W u S x T ∧ ∀ k w, y = nI k → (z = 0 ∨ z = 1) → w < 64 * nCh W → bkS T (max W 6) w = true → pu_c (bkS T (max W 6)) w ≠ k))) 4 1042 := by
  have hW := hA.1.2
  have hu := hA.2.1
  have hC := nCh_le hW
  refine sx_ofXiQ (cc := cC_block) (maxL := 6) (ret := (some .int)) (own := RC) sxE_ok (by decide) rfl rfl (Nat.le_of_ble_eq_true rfl) [some (.ref (ad 0 0)), some (.int x), some (.int y), some (.int z), none, none] 2 rfl (fun p e s m below meth c A Q hQ C hr hlocks hnm hno => ?_)
  refine sx_aload_n C dC_block_0 rfl rfl ?_
  refine sx_iload_n C dC_block_1 rfl rfl ?_
  refine sx_callXr C (sx_runXV (As := [.int x]) (rest := []) C sx_all (c_C_wordsOrNone l D tc hl x ad ro ur W u ln rf sc uk ul uf sf ed μ hS S ed0 hA hP) (ci := 2) rfl (CS_f0 hS) (sx_cwV C 1 kM_C_152 ki_C_wordsOrNone ke_C_wordsOrNone kn_C kc_C_wordsOrNone rfl rfl (by decide +kernel) ⟨Nat.le_of_ble_eq_true rfl, Nat.le_of_ble_eq_true rfl⟩) rfl rfl (Nat.le_of_ble_eq_true rfl) dC_block_2 ⟨Nat.le_of_ble_eq_true rfl, Nat.le_of_ble_eq_true rfl⟩) (fun Ex μx hx => ?_) (fun ro9 μ1 h1 => ?_)
  · exact sx_passQ C hQ hno hlocks (Nat.le_of_ble_eq_true rfl) (Nat.le_of_ble_eq_true rfl) (⟨hx.1 ▸ CInv_of hA hS hP, Or.inl hx.2⟩)
  · obtain ⟨hI, r9, f9, T, ho9, hr9, hrow, hsel⟩ := h1
    have hok9 := rowS_ok hrow (sel_z hA hsel)
    refine sx_astore (lv' := [some (.ref (ad 0 0)), some (.int x), some (.int y), some (.int z), some (.ref ro9), none]) C dC_block_5 (by decide) rfl rfl ?_
    refine sx_iload_n C dC_block_7 rfl rfl ?_
    refine sx_if_lt (tgt := 20) C dC_block_8 (by decide) (fun c8 => ?_) (fun c8 => ?_)
    · have hbad : ∀ k w, y = nI k → (z = 0 ∨ z = 1) → w < 64 * nCh W → bkS T (max W 6) w = true → pu_c (bkS T (max W 6)) w ≠ k := fun k w hy _ hw hb => bl_bad (N := 64 * nCh W) (by omega) c8 k w hy hw hb
      exact sx_thr_iae (text := "no such block or what") hl C hQ dC_block_20 dC_block_23 dC_block_24 dC_block_26 dC_block_29 (by simp [sxStr]) hno hlocks (Nat.le_of_ble_eq_true rfl) (Nat.le_of_ble_eq_true rfl) (Nat.le_of_ble_eq_true rfl) (Nat.le_of_ble_eq_true rfl) (Nat.le_of_ble_eq_true rfl) (Nat.le_of_ble_eq_true rfl) (⟨hI, Or.inr ⟨rfl, T, hsel, hbad⟩⟩)
    · obtain ⟨k9, hk9, hyk⟩ := ab_nat c8
      refine sx_iload_n C dC_block_11 rfl rfl ?_
      refine sx_if_lt (tgt := 20) C dC_block_12 (by decide) (fun c12 => ?_) (fun c12 => ?_)
      · have hbad : ∀ k w, y = nI k → (z = 0 ∨ z = 1) → w < 64 * nCh W → bkS T (max W 6) w = true → pu_c (bkS T (max W 6)) w ≠ k := fun k w _ hz _ _ => absurd hz (by rintro (rfl | rfl) <;> exact absurd c12 (by decide))
        exact sx_thr_iae (text := "no such block or what") hl C hQ dC_block_20 dC_block_23 dC_block_24 dC_block_26 dC_block_29 (by simp [sxStr]) hno hlocks (Nat.le_of_ble_eq_true rfl) (Nat.le_of_ble_eq_true rfl) (Nat.le_of_ble_eq_true rfl) (Nat.le_of_ble_eq_true rfl) (Nat.le_of_ble_eq_true rfl) (Nat.le_of_ble_eq_true rfl) (⟨hI, Or.inr ⟨rfl, T, hsel, hbad⟩⟩)
      · refine sx_iload_n C dC_block_15 rfl rfl ?_
        refine sx_iconst (v := 1) C dC_block_16 (by decide) ?_
        refine sx_icmp_le (tgt := 30) C dC_block_17 (by decide) (fun c17 => ?_) (fun c17 => ?_)
        · have hz01 := ab_01 c12 c17
          refine sx_aload C dC_block_30 rfl ?_
          refine sx_iload_n C dC_block_32 rfl rfl ?_
          refine sx_eqi (nI k9) (hyk) ?_
          refine sx_calli C (sx_runV (As := [.int (nI k9)]) (rest := []) C sx_all (c_S_lowestOfBlock l D tc ro9 r9 W k9 f9 μ1 hW hk9 hok9 ho9 hr9) (ci := 1) rfl ho9 (sx_cwV C 1 kM_C_162 ki_S_lowestOfBlock ke_S_lowestOfBlock kn_S kc_S_lowestOfBlock rfl rfl (by decide +kernel) ⟨Nat.le_of_ble_eq_true rfl, Nat.le_of_ble_eq_true rfl⟩) rfl rfl (Nat.le_of_ble_eq_true rfl) dC_block_33 ⟨Nat.le_of_ble_eq_true rfl, Nat.le_of_ble_eq_true rfl⟩) (fun q1 μ2 h2 => ?_)
          obtain ⟨hm, h2⟩ := h2
          subst hm
          rw [hrow] at h2
          refine sx_istore (lv' := [some (.ref (ad 0 0)), some (.int x), some (.int y), some (.int z), some (.ref ro9), some (.int q1)]) C dC_block_36 (by decide) rfl rfl ?_
          refine sx_iload C dC_block_38 rfl ?_
          refine sx_iconst (v := -1) C dC_block_40 (by decide) ?_
          refine sx_icmp_ne (tgt := 54) C dC_block_41 (by decide) (fun c41 => ?_) (fun c41 => ?_)
          · have hx2 : ∃ w, w < 64 * nCh W ∧ bkS T (max W 6) w = true ∧ pu_c (bkS T (max W 6)) w = k9 ∧ q1 = nI w := by
              rcases h2 with h2 | h2
              · exact h2
              · exact absurd h2.2 c41
            obtain ⟨w9, hw9, hb9, hc9, hq9⟩ := hx2
            refine sx_iload_n C dC_block_54 rfl rfl ?_
            refine sx_if_ne (tgt := 63) C dC_block_55 (by decide) (fun c55 => ?_) (fun c55 => ?_)
            · refine sx_aload C dC_block_63 rfl ?_
              refine sx_iload C dC_block_65 rfl ?_
              refine sx_eqi (nI w9) (hq9) ?_
              refine sx_calli C (sx_runV (As := [.int (nI w9)]) (rest := []) C sx_all (c_S_freeBitsOfBlock l D tc ro9 r9 W w9 f9 μ1 hW hok9 (by rw [hrow]; exact bkS_iff.mp hb9) ho9 hr9) (ci := 1) rfl ho9 (sx_cwV C 1 kM_C_167 ki_S_freeBitsOfBlock ke_S_freeBitsOfBlock kn_S kc_S_freeBitsOfBlock rfl rfl (by decide +kernel) ⟨Nat.le_of_ble_eq_true rfl, Nat.le_of_ble_eq_true rfl⟩) rfl rfl (Nat.le_of_ble_eq_true rfl) dC_block_67 ⟨Nat.le_of_ble_eq_true rfl, Nat.le_of_ble_eq_true rfl⟩) (fun q3 μ3 h3 => ?_)
              obtain ⟨hm, h3⟩ := h3
              subst hm
              rw [hrow] at h3
              exact sx_iretQX C hQ dC_block_70 hr hlocks (Nat.le_of_ble_eq_true rfl) (Nat.le_of_ble_eq_true rfl) (⟨⟨T, k9, w9, hsel, hyk, hk9, hw9, hb9, hc9, Or.inr ⟨hz01.resolve_left c55, h3⟩⟩, hI⟩)
            · refine sx_iload C dC_block_58 rfl ?_
              refine sx_goto (tgt := 70) C dC_block_60 (by decide) ?_
              exact sx_iretQX C hQ dC_block_70 hr hlocks (Nat.le_of_ble_eq_true rfl) (Nat.le_of_ble_eq_true rfl) (⟨⟨T, k9, w9, hsel, hyk, hk9, hw9, hb9, hc9, Or.inl ⟨c55, hq9⟩⟩, hI⟩)
          · have hbad : ∀ k w, y = nI k → (z = 0 ∨ z = 1) → w < 64 * nCh W → bkS T (max W 6) w = true → pu_c (bkS T (max W 6)) w ≠ k := by
              intro k w hy _ hw hb e
              have hlt := pu_lt hw hb
              have hle := pu_c_le (bkS T (max W 6)) w
              have hkk : k = k9 := (ab_nI (by omega) hk9).mp (hy.symm.trans hyk)
              rcases h2 with ⟨w2, hw2, -, -, hq⟩ | ⟨h3, -⟩
              · rw [hq] at c41
                exact absurd c41 (fun z => (by have := nI_toInt (n := w2) (by omega); rw [z] at this; have e1 : (-1 : Int32).toInt = -1 := rfl; omega))
              · omega
            exact sx_thr_iae (text := "no such block") hl C hQ dC_block_44 dC_block_47 dC_block_48 dC_block_50 dC_block_53 (by simp [sxStr]) hno hlocks (Nat.le_of_ble_eq_true rfl) (Nat.le_of_ble_eq_true rfl) (Nat.le_of_ble_eq_true rfl) (Nat.le_of_ble_eq_true rfl) (Nat.le_of_ble_eq_true rfl) (Nat.le_of_ble_eq_true rfl) (⟨hI, Or.inr ⟨rfl, T, hsel, hbad⟩⟩)
        · have hbad : ∀ k w, y = nI k → (z = 0 ∨ z = 1) → w < 64 * nCh W → bkS T (max W 6) w = true → pu_c (bkS T (max W 6)) w ≠ k := fun k w _ hz _ _ => absurd hz (by rintro (rfl | rfl) <;> exact c17 (by decide))
          exact sx_thr_iae (text := "no such block or what") hl C hQ dC_block_20 dC_block_23 dC_block_24 dC_block_26 dC_block_29 (by simp [sxStr]) hno hlocks (Nat.le_of_ble_eq_true rfl) (Nat.le_of_ble_eq_true rfl) (Nat.le_of_ble_eq_true rfl) (Nat.le_of_ble_eq_true rfl) (Nat.le_of_ble_eq_true rfl) (Nat.le_of_ble_eq_true rfl) (⟨hI, Or.inr ⟨rfl, T, hsel, hbad⟩⟩)
