/-! condition -/
theorem zf_1 (b : Bool) : fits FieldType.boolean (Value.int (b2i b)) = true := by cases b <;> rfl
theorem zf_2 (b : Bool) : narrow FieldType.boolean (Value.int (b2i b)) = Value.int (b2i b) := by cases b <;> rfl
theorem cd_fld {w a b : Nat} (hw : w < 2 ^ 31) (hab : a ≤ b) (hb : b < 16) : jshr (nI w &&& nI (fbN a b)) (nI a) = nI (fld a b w) := by
  have hle : w &&& fbN a b ≤ w := Nat.and_le_left
  rw [jb_andI, jb_sshr (by omega) (by omega)]
  congr 1
  have hp : 0 < 2 ^ a := Nat.two_pow_pos a
  have e1 : fbN a b = 0 + 2 ^ a * (2 ^ (b + 1 - a) - 1) := by
    unfold fbN
    rw [Nat.zero_add, Nat.mul_sub, Nat.mul_one, ← Nat.pow_add, show a + (b + 1 - a) = b + 1 by omega]
  have e2 : w = w % 2 ^ a + 2 ^ a * (w / 2 ^ a) := (Nat.mod_add_div w (2 ^ a)).symm
  have e3 := nz_and (k := a) (a := w % 2 ^ a) (b := w / 2 ^ a) (c := 0) (d := 2 ^ (b + 1 - a) - 1) (Nat.mod_lt _ hp) hp
  rw [← e2, ← e1, Nat.and_zero, Nat.zero_add, Nat.and_two_pow_sub_one_eq_mod] at e3
  rw [e3, Nat.mul_div_cancel_left _ hp]
  rfl
def cndB (W : Nat) (f t kd v : Int32) : Bool := fdB W f t && inB kd 0 5 && inB v 0 65535
theorem cndB_iff {W : Nat} (hW : W ≤ 16) {f t kd v : Int32} : cndB W f t kd v = true ↔ ∃ a b j n, cndOk W f t kd v a b j n := by
  unfold cndB
  rw [Bool.and_eq_true, Bool.and_eq_true, fdB_iff hW, inB_le (hi := 5) (n := 5) rfl (by omega), inB_le (hi := 65535) (n := 65535) rfl (by omega)]
  constructor
  · rintro ⟨⟨⟨a, b, h1, h2, h3, h4⟩, j, h5, h6⟩, n, h7, h8⟩
    exact ⟨a, b, j, n, h1, h2, h5, h7, h3, h4, h6, h8⟩
  · rintro ⟨a, b, j, n, h1, h2, h5, h7, h3, h4, h6, h8⟩
    exact ⟨⟨⟨a, b, h1, h2, h3, h4⟩, j, h5, h6⟩, n, h7, h8⟩
def cdX (u : Nat) (ed : Nat → Nat → Nat) (x : Int32) : Bool := isB u x && decide (ed 3 x.toNatClampNeg = 4)
theorem cdb_s {i : Nat} {P : Nat → Bool} {b b2 : Int32} (hi : i < 32) (h : ∀ j, j < 32 → bI b j = (decide (j < i) && P j)) (hb : b2 = b ||| (if P i = true then jshl 1 (nI i) else 0)) : ∀ j, j < 32 → bI b2 j = (decide (j < i + 1) && P j) := by
  intro j hj
  rw [hb, bI_or, h j hj]
  by_cases e : P i = true
  · rw [if_pos e, bI_bit hi hj]
    by_cases z : i = j
    · subst z
      rw [e, decide_eq_true (rfl : i = i), decide_eq_true (Nat.lt_succ_self i), Bool.or_true]
      rfl
    · rw [decide_eq_false z, Bool.or_false]
      congr 1
      rw [decide_eq_decide]
      omega
  · rw [if_neg e, bI_0, Bool.or_false]
    by_cases z : i = j
    · subst z
      rw [Bool.not_eq_true] at e
      rw [e, Bool.and_false, Bool.and_false]
    · congr 1
      rw [decide_eq_decide]
      omega
theorem cw_s {u i k : Nat} {wd wd1 : Nat → Int32} {P : Nat → Nat → Bool} {X : Int32} {fq : Bool} (hk : k < 2048) (r1 : ∀ e, e < u → e ≠ i → ∀ j, j < 2048 → wd1 (2048 * e + j) = wd (2048 * e + j)) (r0 : ∀ j, k ≤ j → j < 2048 → wd1 (2048 * i + j) = wd (2048 * i + j)) (r2 : ∀ j, j < k → ∀ z, z < 32 → bI (wd1 (2048 * i + j)) z = (bI (wd (2048 * i + j)) z && P j z)) (rf : fq = true ↔ ∃ j, j < k ∧ wd1 (2048 * i + j) ≠ wd (2048 * i + j)) (hX : ∀ z, z < 32 → bI X z = (bI (wd (2048 * i + k)) z && P k z)) :
    (∀ e, e < u → e ≠ i → ∀ j, j < 2048 → va_up wd1 (2048 * i + k) X (2048 * e + j) = wd (2048 * e + j)) ∧ (∀ j, k + 1 ≤ j → j < 2048 → va_up wd1 (2048 * i + k) X (2048 * i + j) = wd (2048 * i + j)) ∧ (∀ j, j < k + 1 → ∀ z, z < 32 → bI (va_up wd1 (2048 * i + k) X (2048 * i + j)) z = (bI (wd (2048 * i + j)) z && P j z)) ∧ ((fq || decide (¬ X = wd (2048 * i + k))) = true ↔ ∃ j, j < k + 1 ∧ va_up wd1 (2048 * i + k) X (2048 * i + j) ≠ wd (2048 * i + j)) := by
  have ho : ∀ j, j ≠ k → va_up wd1 (2048 * i + k) X (2048 * i + j) = wd1 (2048 * i + j) := fun j hj => va_up_o _ _ (by omega)
  refine ⟨fun e he hn j hj => ?_, fun j h1 h2 => ?_, fun j hj z hz => ?_, ?_⟩
  · rw [va_up_o _ _ (by omega)]; exact r1 e he hn j hj
  · rw [ho j (by omega)]; exact r0 j (by omega) h2
  · by_cases q : j = k
    · subst q; rw [va_up_s]; exact hX z hz
    · rw [ho j q]; exact r2 j (by omega) z hz
  · rw [Bool.or_eq_true, rf, decide_eq_true_eq]
    constructor
    · rintro (⟨j, h1, h2⟩ | h)
      · exact ⟨j, by omega, by rw [ho j (by omega)]; exact h2⟩
      · exact ⟨k, by omega, by rw [va_up_s]; exact h⟩
    · rintro ⟨j, h1, h2⟩
      by_cases q : j = k
      · subst q; rw [va_up_s] at h2; exact Or.inr h2
      · rw [ho j q] at h2; exact Or.inl ⟨j, by omega, h2⟩
section CDM
variable {W u i a b j9 n9 : Nat} {S : Nat → Nat → Bool} {ed : Nat → Nat → Nat} {kn fq : Bool} {mk cd lk fl vr wd cn li wd1 : Nat → Int32}
theorem cd_q (hr : rowM wd (nRw W) i = S i) (r2 : ∀ j, j < nRw W → ∀ z, z < 32 → bI (wd1 (2048 * i + j)) z = (bI (wd (2048 * i + j)) z && cdH (fld a b (32 * j + z)) j9 n9)) (rf : fq = true ↔ ∃ j, j < nRw W ∧ wd1 (2048 * i + j) ≠ wd (2048 * i + j)) : fq = true ↔ ∃ w, S i w = true ∧ cdH (fld a b w) j9 n9 = false := by
  rw [rf]
  constructor
  · rintro ⟨j, hj, hne⟩
    refine Classical.byContradiction fun hn => hne (bI_ext fun z hz => ?_)
    rw [r2 j hj z hz]
    cases h1 : bI (wd (2048 * i + j)) z
    · rfl
    · cases h2 : cdH (fld a b (32 * j + z)) j9 n9
      · exact absurd ⟨32 * j + z, by rw [← hr, rowM_at hj hz]; exact h1, h2⟩ hn
      · rfl
  · rintro ⟨w, h1, h2⟩
    have hw : w < 32 * nRw W := by
      rw [← hr] at h1
      unfold rowM at h1
      rw [Bool.and_eq_true] at h1
      exact of_decide_eq_true h1.1
    refine ⟨w / 32, by omega, fun e => ?_⟩
    have := r2 (w / 32) (by omega) (w % 32) (Nat.mod_lt _ (by decide))
    rw [e, ← rowM_in hw, hr, h1, show 32 * (w / 32) + w % 32 = w by omega, h2] at this
    cases this
theorem cd_MP (hA : AW W u S ed) (hi : i < u) (hP : MP W u S ed kn mk cd lk fl vr wd cn li) (r1 : ∀ e, e < u → e ≠ i → ∀ j, j < 2048 → wd1 (2048 * e + j) = wd (2048 * e + j)) (r2 : ∀ j, j < nRw W → ∀ z, z < 32 → bI (wd1 (2048 * i + j)) z = (bI (wd (2048 * i + j)) z && cdH (fld a b (32 * j + z)) j9 n9)) (hq : fq = true ↔ ∃ w, S i w = true ∧ cdH (fld a b w) j9 n9 = false) : MP W u (va_up S i (cdS (S i) a b j9 n9)) (edU ed i (ed 0 i) (ed 1 i ||| fbN a b) (ed 2 i) (ed 3 i + 1) (ed 4 i)) (kn && !fq) mk (va_up cd i (nI (ed 3 i + 1))) (va_up lk i (nI (ed 1 i ||| fbN a b))) fl vr wd1 cn li := by
  have hR := nRw_le hA.1.2
  refine ⟨fun e he => ?_, fun e he => ?_, fun hk => ?_⟩
  · obtain ⟨h0, h1, h2, h3, h4⟩ := hP.1 e he
    by_cases z : e = i
    · subst z
      simp only [edU_s, edV, va_up_s]
      exact ⟨h0, trivial, h2, trivial, h4⟩
    · simp only [edU_n _ _ _ _ _ _ _ z, va_up_o _ _ z]
      exact ⟨h0, h1, h2, h3, h4⟩
  · by_cases z : e = i
    · subst z
      rw [va_up_s]
      refine row_eq (fun j hj q hz => ?_) (fun w hw => by unfold cdS; rw [hA.2.2.1 e he w hw, Bool.false_and])
      rw [r2 j hj q hz]
      unfold cdS
      rw [← hP.2.1 e he, rowM_at hj hz]
    · rw [va_up_o _ _ z, rowM_same hR (fun k hk => r1 e he z k (by omega))]
      exact hP.2.1 e he
  · rw [Bool.and_eq_true, Bool.not_eq_true'] at hk
    rw [cd_same (fun z => by rw [hq.mpr z] at hk; exact absurd hk.2 (by decide))]
    exact hP.2.2 hk.1
end CDM

set_option maxHeartbeats 4000000 in
set_option maxRecDepth 100000 in
/-- condition -/
theorem c_M_condition (l : Launch) (D : va_G) (tc : Nat → ClassId) (x f t kd v : Int32) (ad : Nat → Nat) (W : Nat) (u : Nat) (th : Int32) (kn : Bool) (lst : Int32) (sb : Int32) (mk : Nat → Int32) (cd : Nat → Int32) (lk : Nat → Int32) (fl : Nat → Int32) (vr : Nat → Int32) (wd : Nat → Int32) (cn : Nat → Int32) (li : Nat → Int32) (od : Nat → Int32) (μ : sx_M) (hS : MS tc μ ad W u th kn lst sb mk cd lk fl vr wd cn li od) (S : Nat → Nat → Bool) (ed : Nat → Nat → Nat) (hA : AW W u S ed) (hP : MP W u S ed kn mk cd lk fl vr wd cn li) : sx_Mi l yM_condition (Cond.code yM_condition cM_condition 13 (some .boolean) :: sxW) (rmL 2 0 0) D sxCl (sxT tc) sxE [.ref (ad 0), .int x, .int f, .int t, .int kd, .int v] μ (fun r μ' => ∃ k S' ed', R_cnd W u S ed x f t kd v k r S' ed' ∧ MInv tc μ' (ad 0) W u S' ed' k) 0 0 := by
  have hW := hA.1.2
  have hu := hA.2.1
  have hR := nRw_le hW
  have hpw := en_pw hW
  refine sx_ofiQ (cc := cM_condition) (maxL := 13) (ret := (some .boolean)) (own := RM) sxE_ok (by decide) rfl rfl (Nat.le_of_ble_eq_true rfl) [some (.ref (ad 0)), some (.int x), some (.int f), some (.int t), some (.int kd), some (.int v), none, none, none, none, none, none, none] 7 rfl (fun p e s m below meth c A Q hQ C hr hlocks hnm => ?_)
  have J35 : SW p l e (rmL 2 0 0) s m [.ref (ad 0), .int x, .int f, .int t, .int kd, .int v].toArray below meth c 13 D sxCl A 0 0 Q μ 35 [some (.ref (ad 0)), some (.int x), some (.int f), some (.int t), some (.int kd), some (.int v), none, none, none, none, none, none, none] [.int (b2i (!cndB W f t kd v))] := by
    refine sx_istore (lv' := [some (.ref (ad 0)), some (.int x), some (.int f), some (.int t), some (.int kd), some (.int v), some (.int (b2i (!cndB W f t kd v))), none, none, none, none, none, none]) C dM_condition_35 (by decide) rfl rfl ?_
    refine sx_aload_n C dM_condition_37 rfl rfl ?_
    have J51 : SW p l e (rmL 2 0 0) s m [.ref (ad 0), .int x, .int f, .int t, .int kd, .int v].toArray below meth c 13 D sxCl A 0 0 Q μ 51 [some (.ref (ad 0)), some (.int x), some (.int f), some (.int t), some (.int kd), some (.int v), some (.int (b2i (!cndB W f t kd v))), none, none, none, none, none, none] [.int (b2i (!isB u x)), .ref (ad 0)] := by
      refine sx_iload C dM_condition_51 rfl ?_
      have J76 : SW p l e (rmL 2 0 0) s m [.ref (ad 0), .int x, .int f, .int t, .int kd, .int v].toArray below meth c 13 D sxCl A 0 0 Q μ 76 [some (.ref (ad 0)), some (.int x), some (.int f), some (.int t), some (.int kd), some (.int v), some (.int (b2i (!cndB W f t kd v))), none, none, none, none, none, none] [.int (b2i (cdX u ed x)), .int (b2i (!cndB W f t kd v)), .int (b2i (!isB u x)), .ref (ad 0)] := by
        refine sx_calli C (sx_runV (As := [.int (b2i (!isB u x)), .int (b2i (!cndB W f t kd v)), .int (b2i (cdX u ed x))]) (rest := []) C sx_all (c_M_fails l D tc (!isB u x) (!cndB W f t kd v) (cdX u ed x) ad W u th kn lst sb mk cd lk fl vr wd cn li od μ hS) (ci := 3) rfl (MS_f0 hS) (sx_cwV C 3 kM_M_69 ki_M_fails ke_M_fails kn_M kc_M_fails rfl rfl (by decide +kernel) ⟨Nat.le_of_ble_eq_true rfl, Nat.le_of_ble_eq_true rfl⟩) rfl rfl (Nat.le_of_ble_eq_true rfl) dM_condition_76 ⟨Nat.le_of_ble_eq_true rfl, Nat.le_of_ble_eq_true rfl⟩) (fun q9 μ9 h9 => ?_)
        obtain ⟨h9, hT9⟩ := h9
        refine sx_eqi (b2i ((!isB u x) || (!cndB W f t kd v) || (cdX u ed x))) (h9) ?_
        refine sx_if_eq (tgt := 84) C dM_condition_79 (by decide) (fun c79 => ?_) (fun c79 => ?_)
        · obtain ⟨t0, t1, t2, t3⟩ := th_0 (b2i_z.mp c79)
          rw [t0] at hT9
          have tb := th_f t1
          obtain ⟨i, hi, hxi⟩ := (isB_iff hu).mp tb
          obtain ⟨a, b, j9, n9, hok⟩ := (cndB_iff hW).mp (th_f t2)
          obtain ⟨hab, hbW, hj5, hn5, hfa, htb, hkj, hvn⟩ := id hok
          have hi4 : i < 40 := by omega
          have hE := hP.1 i hi
          have h34 : ed 3 i < 4 := by
            have h5 := (hA.2.2.2 i hi).2.2.2.1
            unfold cdX at t3
            rw [tb, Bool.true_and, hxi, nI_clamp (by omega)] at t3
            have := of_decide_eq_false t3
            omega
          refine sx_aload_n C dM_condition_84 rfl rfl ?_
          refine sx_getf (Cn := RM) (T := TM) (N := 17) C dM_condition_85 (sx_in inM) rfl 6 (by decide) (sx_w C kF_M_13) (fun _ h => h) (MS_f0 hT9) rfl ?_
          refine sx_iload_n C dM_condition_88 rfl rfl ?_
          refine sx_eqi (nI i) (hxi) ?_
          refine sx_dup2_11 C dM_condition_89 rfl rfl ?_
          refine sx_iald (j := i) C dM_condition_90 0 rfl (MS_f2 hT9) (rfl) (hi4) (Nat.le_of_ble_eq_true rfl) ?_
          refine sx_eqi (nI (ed 3 i)) (hE.2.2.2.1) ?_
          refine sx_iconst (v := 1) C dM_condition_91 (by decide) ?_
          refine sx_iadd C dM_condition_92 ?_
          refine sx_eqi (nI (ed 3 i + 1)) (nI_1 _) ?_
          refine sx_iast (j := i) C dM_condition_93 0 rfl (MS_f2 hT9) (rfl) (hi4) (Nat.le_of_ble_eq_true rfl) ?_
          have h1s : MS tc (sx_up μ9 (ad 2) (.inl (tc 0, 40, .inl (va_up cd i (nI (ed 3 i + 1)))))) ad W u 0 kn lst sb mk (va_up cd i (nI (ed 3 i + 1))) lk fl vr wd cn li od := MS_cd hT9 _
          refine sx_aload_n C dM_condition_94 rfl rfl ?_
          refine sx_getf (Cn := RM) (T := TM) (N := 17) C dM_condition_95 (sx_in inM) rfl 7 (by decide) (sx_w C kF_M_16) (fun _ h => h) (MS_f0 h1s) rfl ?_
          refine sx_iload_n C dM_condition_98 rfl rfl ?_
          refine sx_eqi (nI i) (hxi) ?_
          refine sx_dup2_11 C dM_condition_99 rfl rfl ?_
          refine sx_iald (j := i) C dM_condition_100 0 rfl (MS_f3 h1s) (rfl) (hi4) (Nat.le_of_ble_eq_true rfl) ?_
          refine sx_eqi (nI (ed 1 i)) (hE.2.1) ?_
          refine sx_iload_n C dM_condition_101 rfl rfl ?_
          refine sx_eqi (nI a) (hfa) ?_
          refine sx_iload_n C dM_condition_102 rfl rfl ?_
          refine sx_eqi (nI b) (htb) ?_
          refine sx_calli C (sx_runS (As := [.int (nI a), .int (nI b)]) (rest := [.int (nI (ed 1 i)), .int (nI i), .ref (ad 3)]) C sx_all (c_M_bitsOf l D tc a b _ hab (by omega)) (sx_cwS C 2 kM_M_86 ks_M_bitsOf kn_M kc_M_bitsOf rfl rfl (by decide +kernel) ⟨Nat.le_of_ble_eq_true rfl, Nat.le_of_ble_eq_true rfl⟩) rfl rfl (Nat.le_of_ble_eq_true rfl) dM_condition_103 ⟨Nat.le_of_ble_eq_true rfl, Nat.le_of_ble_eq_true rfl⟩) (fun q7 μ7 h7 => ?_)
          obtain ⟨hm, h7⟩ := h7
          subst hm
          refine sx_eqi (nI (fbN a b)) (h7) ?_
          refine sx_ior C dM_condition_106 ?_
          refine sx_eqi (nI (ed 1 i ||| fbN a b)) (jb_orI _ _) ?_
          refine sx_iast (j := i) C dM_condition_107 0 rfl (MS_f3 h1s) (rfl) (hi4) (Nat.le_of_ble_eq_true rfl) ?_
          have h2s : MS tc (sx_up (sx_up μ9 (ad 2) (.inl (tc 0, 40, .inl (va_up cd i (nI (ed 3 i + 1)))))) (ad 3) (.inl (tc 0, 40, .inl (va_up lk i (nI (ed 1 i ||| fbN a b)))))) ad W u 0 kn lst sb mk (va_up cd i (nI (ed 3 i + 1))) (va_up lk i (nI (ed 1 i ||| fbN a b))) fl vr wd cn li od := MS_lk h1s _
          refine sx_iconst (v := 0) C dM_condition_108 (by decide) ?_
          refine sx_eqi (b2i false) (rfl) ?_
          refine sx_istore (lv' := [some (.ref (ad 0)), some (.int x), some (.int f), some (.int t), some (.int kd), some (.int v), some (.int (b2i (!cndB W f t kd v))), some (.int (b2i false)), none, none, none, none, none]) C dM_condition_109 (by decide) rfl rfl ?_
          refine sx_iconst (v := 0) C dM_condition_111 (by decide) ?_
          refine sx_eqi (nI 0) (rfl) ?_
          refine sx_istore (lv' := [some (.ref (ad 0)), some (.int x), some (.int f), some (.int t), some (.int kd), some (.int v), some (.int (b2i (!cndB W f t kd v))), some (.int (b2i false)), some (.int (nI 0)), none, none, none, none]) C dM_condition_112 (by decide) rfl rfl ?_
          have L114 : ∀ (fu : Nat) (k : Nat) (μ1 : sx_M) (wd1 : Nat → Int32) (fq : Bool), nRw W - k < fu → (k ≤ nRw W) → (MS tc μ1 ad W u 0 kn lst sb mk (va_up cd i (nI (ed 3 i + 1))) (va_up lk i (nI (ed 1 i ||| fbN a b))) fl vr wd1 cn li od) → (∀ e, e < u → e ≠ i → ∀ j, j < 2048 → wd1 (2048 * e + j) = wd (2048 * e + j)) → (∀ j, k ≤ j → j < 2048 → wd1 (2048 * i + j) = wd (2048 * i + j)) → (∀ j, j < k → ∀ z, z < 32 → bI (wd1 (2048 * i + j)) z = (bI (wd (2048 * i + j)) z && (fun j z => cdH (fld a b (32 * j + z)) j9 n9) j z)) → (fq = true ↔ ∃ j, j < k ∧ wd1 (2048 * i + j) ≠ wd (2048 * i + j)) → SW p l e (rmL 2 0 0) s m [.ref (ad 0), .int x, .int f, .int t, .int kd, .int v].toArray below meth c 13 D sxCl A 0 0 Q μ1 114 [some (.ref (ad 0)), some (.int x), some (.int f), some (.int t), some (.int kd), some (.int v), some (.int (b2i (!cndB W f t kd v))), some (.int (b2i fq)), some (.int (nI k)), none, none, none, none] [] := by
            intro fu
            induction fu with
            | zero => intro _ _ _ _ h; exact absurd h (Nat.not_lt_zero _)
            | succ fu ih =>
              intro k μ1 wd1 fq hfu hk hL r1 r0 r2 rf
              refine sx_iload C dM_condition_114 rfl ?_
              refine sx_aload_n C dM_condition_116 rfl rfl ?_
              refine sx_getf (Cn := RM) (T := TM) (N := 17) C dM_condition_117 (sx_in inM) rfl 2 (by decide) (sx_w C kF_M_43) (fun _ h => h) (MS_f0 hL) rfl ?_
              refine sx_icmp_ge (tgt := 251) C dM_condition_120 (by decide) (fun c120 => ?_) (fun c120 => ?_)
              · have hc120 : nRw W ≤ k := (nI_leI (by omega) (by omega)).mp c120
                have hkn : k = nRw W := by omega
                rw [hkn] at r2 rf
                have hq := cd_q (hP.2.1 i hi) r2 rf
                refine sx_aload_n C dM_condition_251 rfl rfl ?_
                have J269 : SW p l e (rmL 2 0 0) s m [.ref (ad 0), .int x, .int f, .int t, .int kd, .int v].toArray below meth c 13 D sxCl A 0 0 Q μ1 269 [some (.ref (ad 0)), some (.int x), some (.int f), some (.int t), some (.int kd), some (.int v), some (.int (b2i (!cndB W f t kd v))), some (.int (b2i fq)), some (.int (nI k)), none, none, none, none] [.int (b2i (kn && !fq)), .ref (ad 0)] := by
                  refine sx_putf (Cn := RM) (T := TM) (N := 17) (ty := .boolean) (fs' := [.int 0, .int (nI W), .int (nI (nRw W)), .int (alM W), .int (nI u), .ref (ad 1), .ref (ad 2), .ref (ad 3), .ref (ad 4), .ref (ad 5), .ref (ad 6), .int (b2i (kn && !fq)), .ref (ad 7), .ref (ad 8), .ref (ad 9), .int lst, .int sb]) C dM_condition_269 (sx_in inM) tM tM_ok nM rfl 11 (by decide) (sx_w C kF_M_73) (fun _ h => h) rfl (by decide +kernel) (zf_2 _) (zf_1 _) (MS_f0 hL) (by simp) rfl ?_
                  have hL9 : MS tc (sx_up μ1 (ad 0) (.inr (3, [.int 0, .int (nI W), .int (nI (nRw W)), .int (alM W), .int (nI u), .ref (ad 1), .ref (ad 2), .ref (ad 3), .ref (ad 4), .ref (ad 5), .ref (ad 6), .int (b2i (kn && !fq)), .ref (ad 7), .ref (ad 8), .ref (ad 9), .int lst, .int sb]))) ad W u 0 (kn && !fq) lst sb mk (va_up cd i (nI (ed 3 i + 1))) (va_up lk i (nI (ed 1 i ||| fbN a b))) fl vr wd1 cn li od := MS_kn hL (kn && !fq)
                  refine sx_iload C dM_condition_272 rfl ?_
                  exact sx_zretQ C hQ dM_condition_274 hr (by exact b2i_01 _) hlocks (Nat.le_of_ble_eq_true rfl) (Nat.le_of_ble_eq_true rfl) (⟨0, _, _, Or.inl ⟨rfl, i, a, b, j9, n9, hi, hxi, hok, h34, fq, rfl, hq, rfl, rfl⟩, MInv_of (cn_AW hA hi (fun w hw => by unfold cdS; rw [hA.2.2.1 i hi w hw, Bool.false_and]) (or_lt (hA.2.2.2 i hi).2.1 (fbN_lt hbW)) (by omega)) hL9 (cd_MP hA hi hP r1 r2 hq)⟩)
                refine sx_aload_n C dM_condition_252 rfl rfl ?_
                refine sx_getf (Cn := RM) (T := TM) (N := 17) C dM_condition_253 (sx_in inM) rfl 11 (by decide) (sx_w C kF_M_73) (fun _ h => h) (MS_f0 hL) rfl ?_
                refine sx_if_eq (tgt := 268) C dM_condition_256 (by decide) (fun c256 => ?_) (fun c256 => ?_)
                · refine sx_iconst (v := 0) C dM_condition_268 (by decide) ?_
                  refine sx_eqi ((b2i (kn && !fq))) (by first | (rw [b2i_z.mp c256]; rfl) | (rw [b2i_ne.mp c256, b2i_ne.mp c261]; rfl) | (rw [b2i_ne.mp c256, b2i_z.mp c261]; rfl)) ?_
                  exact J269
                · refine sx_iload C dM_condition_259 rfl ?_
                  refine sx_if_ne (tgt := 268) C dM_condition_261 (by decide) (fun c261 => ?_) (fun c261 => ?_)
                  · refine sx_iconst (v := 0) C dM_condition_268 (by decide) ?_
                    refine sx_eqi ((b2i (kn && !fq))) (by first | (rw [b2i_z.mp c256]; rfl) | (rw [b2i_ne.mp c256, b2i_ne.mp c261]; rfl) | (rw [b2i_ne.mp c256, b2i_z.mp c261]; rfl)) ?_
                    exact J269
                  · refine sx_iconst (v := 1) C dM_condition_264 (by decide) ?_
                    refine sx_goto (tgt := 269) C dM_condition_265 (by decide) ?_
                    refine sx_eqi ((b2i (kn && !fq))) (by first | (rw [b2i_z.mp c256]; rfl) | (rw [b2i_ne.mp c256, b2i_ne.mp c261]; rfl) | (rw [b2i_ne.mp c256, b2i_z.mp c261]; rfl)) ?_
                    exact J269
              · have hc120 : ¬ nRw W ≤ k := fun h => c120 ((nI_leI (by omega) (by omega)).mpr h)
                refine sx_aload_n C dM_condition_123 rfl rfl ?_
                refine sx_getf (Cn := RM) (T := TM) (N := 17) C dM_condition_124 (sx_in inM) rfl 10 (by decide) (sx_w C kF_M_26) (fun _ h => h) (MS_f0 hL) rfl ?_
                refine sx_sipush (v := 2048) C dM_condition_127 (by decide) ?_
                refine sx_iload_n C dM_condition_130 rfl rfl ?_
                refine sx_eqi (nI i) (hxi) ?_
                refine sx_imul C dM_condition_131 ?_
                refine sx_eqi (nI (2048 * i)) (nI_mul 2048 i) ?_
                refine sx_iload C dM_condition_132 rfl ?_
                refine sx_iadd C dM_condition_134 ?_
                refine sx_eqi (nI (2048 * i + k)) (nI_add _ _) ?_
                refine sx_iald (j := (2048 * i + k)) C dM_condition_135 0 rfl (MS_f6 hL) (rfl) ((by omega)) (Nat.le_of_ble_eq_true rfl) ?_
                refine sx_eqi (wd (2048 * i + k)) (r0 k (Nat.le_refl _) (by omega)) ?_
                refine sx_istore (lv' := [some (.ref (ad 0)), some (.int x), some (.int f), some (.int t), some (.int kd), some (.int v), some (.int (b2i (!cndB W f t kd v))), some (.int (b2i fq)), some (.int (nI k)), some (.int (wd (2048 * i + k))), none, none, none]) C dM_condition_136 (by decide) rfl rfl ?_
                refine sx_iconst (v := 0) C dM_condition_138 (by decide) ?_
                refine sx_istore (lv' := [some (.ref (ad 0)), some (.int x), some (.int f), some (.int t), some (.int kd), some (.int v), some (.int (b2i (!cndB W f t kd v))), some (.int (b2i fq)), some (.int (nI k)), some (.int (wd (2048 * i + k))), some (.int 0), none, none]) C dM_condition_139 (by decide) rfl rfl ?_
                refine sx_iconst (v := 0) C dM_condition_141 (by decide) ?_
                refine sx_eqi (nI 0) (rfl) ?_
                refine sx_istore (lv' := [some (.ref (ad 0)), some (.int x), some (.int f), some (.int t), some (.int kd), some (.int v), some (.int (b2i (!cndB W f t kd v))), some (.int (b2i fq)), some (.int (nI k)), some (.int (wd (2048 * i + k))), some (.int 0), some (.int (nI 0)), none]) C dM_condition_142 (by decide) rfl rfl ?_
                have L144 : ∀ (fu2 : Nat) (z : Nat) (bt : Int32), 32 - z < fu2 → (z ≤ 32) → (∀ j, j < 32 → bI bt j = (decide (j < z) && cdH (fld a b (32 * k + j)) j9 n9)) → SW p l e (rmL 2 0 0) s m [.ref (ad 0), .int x, .int f, .int t, .int kd, .int v].toArray below meth c 13 D sxCl A 0 0 Q μ1 144 [some (.ref (ad 0)), some (.int x), some (.int f), some (.int t), some (.int kd), some (.int v), some (.int (b2i (!cndB W f t kd v))), some (.int (b2i fq)), some (.int (nI k)), some (.int (wd (2048 * i + k))), some (.int bt), some (.int (nI z)), none] [] := by
                  intro fu2
                  induction fu2 with
                  | zero => intro _ _ h; exact absurd h (Nat.not_lt_zero _)
                  | succ fu2 ih2 =>
                    intro z bt hfu2 hz hbt
                    refine sx_iload C dM_condition_144 rfl ?_
                    refine sx_bipush (v := 32) C dM_condition_146 (by decide) ?_
                    refine sx_icmp_ge (tgt := 205) C dM_condition_148 (by decide) (fun c148 => ?_) (fun c148 => ?_)
                    · have hz32 : z = 32 := by
                        have := (nI_leI (a := 32) (by omega) (by omega)).mp c148
                        omega
                      rw [hz32] at hbt
                      have hnw : ∀ q, q < 32 → bI (wd (2048 * i + k) &&& bt) q = (bI (wd (2048 * i + k)) q && (fun j z => cdH (fld a b (32 * j + z)) j9 n9) k q) := fun q hq => by rw [bI_and, hbt q hq, decide_eq_true hq, Bool.true_and]
                      refine sx_aload_n C dM_condition_205 rfl rfl ?_
                      refine sx_getf (Cn := RM) (T := TM) (N := 17) C dM_condition_206 (sx_in inM) rfl 10 (by decide) (sx_w C kF_M_26) (fun _ h => h) (MS_f0 hL) rfl ?_
                      refine sx_sipush (v := 2048) C dM_condition_209 (by decide) ?_
                      refine sx_iload_n C dM_condition_212 rfl rfl ?_
                      refine sx_eqi (nI i) (hxi) ?_
                      refine sx_imul C dM_condition_213 ?_
                      refine sx_eqi (nI (2048 * i)) (nI_mul 2048 i) ?_
                      refine sx_iload C dM_condition_214 rfl ?_
                      refine sx_iadd C dM_condition_216 ?_
                      refine sx_eqi (nI (2048 * i + k)) (nI_add _ _) ?_
                      refine sx_iload C dM_condition_217 rfl ?_
                      refine sx_iload C dM_condition_219 rfl ?_
                      refine sx_iand C dM_condition_221 ?_
                      refine sx_iast (j := (2048 * i + k)) C dM_condition_222 0 rfl (MS_f6 hL) (rfl) ((by omega)) (Nat.le_of_ble_eq_true rfl) ?_
                      have hL2 := MS_wd hL (va_up wd1 (2048 * i + k) (wd (2048 * i + k) &&& bt))
                      have r3 := cw_s (P := (fun j z => cdH (fld a b (32 * j + z)) j9 n9)) (by omega) r1 r0 r2 rf hnw
                      have J243 : SW p l e (rmL 2 0 0) s m [.ref (ad 0), .int x, .int f, .int t, .int kd, .int v].toArray below meth c 13 D sxCl A 0 0 Q (sx_up μ1 (ad 6) (.inl (tc 0, 83968, .inl (va_up wd1 (2048 * i + k) ((wd (2048 * i + k)) &&& bt))))) 243 [some (.ref (ad 0)), some (.int x), some (.int f), some (.int t), some (.int kd), some (.int v), some (.int (b2i (!cndB W f t kd v))), some (.int (b2i fq)), some (.int (nI k)), some (.int (wd (2048 * i + k))), some (.int bt), some (.int (nI z)), none] [.int (b2i (fq || decide (¬ (wd (2048 * i + k) &&& bt) = wd (2048 * i + k))))] := by
                        refine sx_istore (lv' := [some (.ref (ad 0)), some (.int x), some (.int f), some (.int t), some (.int kd), some (.int v), some (.int (b2i (!cndB W f t kd v))), some (.int (b2i (fq || decide (¬ (wd (2048 * i + k) &&& bt) = wd (2048 * i + k))))), some (.int (nI k)), some (.int (wd (2048 * i + k))), some (.int bt), some (.int (nI z)), none]) C dM_condition_243 (by decide) rfl rfl ?_
                        refine sx_weak (lv' := [some (.ref (ad 0)), some (.int x), some (.int f), some (.int t), some (.int kd), some (.int v), some (.int (b2i (!cndB W f t kd v))), some (.int (b2i (fq || decide (¬ (wd (2048 * i + k) &&& bt) = wd (2048 * i + k))))), some (.int (nI k)), none, none, none, none]) (And.intro rfl (And.intro rfl (And.intro rfl (And.intro rfl (And.intro rfl (And.intro rfl (And.intro rfl (And.intro rfl (And.intro rfl trivial))))))))) ?_
                        refine sx_iinc (v := nI (k + 1)) (lv' := [some (.ref (ad 0)), some (.int x), some (.int f), some (.int t), some (.int kd), some (.int v), some (.int (b2i (!cndB W f t kd v))), some (.int (b2i (fq || decide (¬ (wd (2048 * i + k) &&& bt) = wd (2048 * i + k))))), some (.int (nI (k + 1))), none, none, none, none]) C dM_condition_245 rfl (nI_1 k) (by decide) rfl rfl ?_
                        refine sx_goto (tgt := 114) C dM_condition_248 (by decide) ?_
                        have g1 : nRw W - (k + 1) < fu := by clear rf r3; omega
                        have g2 : k + 1 ≤ nRw W := by clear rf r3; omega
                        exact ih (k + 1) _ _ _ g1 g2 hL2 r3.1 r3.2.1 r3.2.2.1 r3.2.2.2
                      refine sx_iload C dM_condition_223 rfl ?_
                      refine sx_if_ne (tgt := 238) C dM_condition_225 (by decide) (fun c225 => ?_) (fun c225 => ?_)
                      · refine sx_iconst (v := 1) C dM_condition_238 (by decide) ?_
                        refine sx_goto (tgt := 243) C dM_condition_239 (by decide) ?_
                        refine sx_eqi ((b2i (fq || decide (¬ (wd (2048 * i + k) &&& bt) = wd (2048 * i + k))))) (by first | (rw [b2i_ne.mp c225]; rfl) | (rw [b2i_z.mp c225, decide_eq_true c235]; rfl) | (rw [b2i_z.mp c225, decide_eq_false (fun h => h c235)]; rfl)) ?_
                        exact J243
                      · refine sx_iload C dM_condition_228 rfl ?_
                        refine sx_iload C dM_condition_230 rfl ?_
                        refine sx_iand C dM_condition_232 ?_
                        refine sx_iload C dM_condition_233 rfl ?_
                        refine sx_icmp_eq (tgt := 242) C dM_condition_235 (by decide) (fun c235 => ?_) (fun c235 => ?_)
                        · refine sx_iconst (v := 0) C dM_condition_242 (by decide) ?_
                          refine sx_eqi ((b2i (fq || decide (¬ (wd (2048 * i + k) &&& bt) = wd (2048 * i + k))))) (by first | (rw [b2i_ne.mp c225]; rfl) | (rw [b2i_z.mp c225, decide_eq_true c235]; rfl) | (rw [b2i_z.mp c225, decide_eq_false (fun h => h c235)]; rfl)) ?_
                          exact J243
                        · refine sx_iconst (v := 1) C dM_condition_238 (by decide) ?_
                          refine sx_goto (tgt := 243) C dM_condition_239 (by decide) ?_
                          refine sx_eqi ((b2i (fq || decide (¬ (wd (2048 * i + k) &&& bt) = wd (2048 * i + k))))) (by first | (rw [b2i_ne.mp c225]; rfl) | (rw [b2i_z.mp c225, decide_eq_true c235]; rfl) | (rw [b2i_z.mp c225, decide_eq_false (fun h => h c235)]; rfl)) ?_
                          exact J243
                    · have hz32 : ¬ 32 ≤ z := fun h => c148 ((nI_leI (a := 32) (by omega) (by omega)).mpr h)
                      refine sx_iload C dM_condition_151 rfl ?_
                      refine sx_if_eq (tgt := 205) C dM_condition_153 (by decide) (fun c153 => ?_) (fun c153 => ?_)
                      · have hnw : ∀ q, q < 32 → bI (wd (2048 * i + k) &&& bt) q = (bI (wd (2048 * i + k)) q && (fun j z => cdH (fld a b (32 * j + z)) j9 n9) k q) := fun q hq => by rw [bI_and, c153, bI_0, Bool.false_and, Bool.false_and]
                        refine sx_aload_n C dM_condition_205 rfl rfl ?_
                        refine sx_getf (Cn := RM) (T := TM) (N := 17) C dM_condition_206 (sx_in inM) rfl 10 (by decide) (sx_w C kF_M_26) (fun _ h => h) (MS_f0 hL) rfl ?_
                        refine sx_sipush (v := 2048) C dM_condition_209 (by decide) ?_
                        refine sx_iload_n C dM_condition_212 rfl rfl ?_
                        refine sx_eqi (nI i) (hxi) ?_
                        refine sx_imul C dM_condition_213 ?_
                        refine sx_eqi (nI (2048 * i)) (nI_mul 2048 i) ?_
                        refine sx_iload C dM_condition_214 rfl ?_
                        refine sx_iadd C dM_condition_216 ?_
                        refine sx_eqi (nI (2048 * i + k)) (nI_add _ _) ?_
                        refine sx_iload C dM_condition_217 rfl ?_
                        refine sx_iload C dM_condition_219 rfl ?_
                        refine sx_iand C dM_condition_221 ?_
                        refine sx_iast (j := (2048 * i + k)) C dM_condition_222 0 rfl (MS_f6 hL) (rfl) ((by omega)) (Nat.le_of_ble_eq_true rfl) ?_
                        have hL2 := MS_wd hL (va_up wd1 (2048 * i + k) (wd (2048 * i + k) &&& bt))
                        have r3 := cw_s (P := (fun j z => cdH (fld a b (32 * j + z)) j9 n9)) (by omega) r1 r0 r2 rf hnw
                        have J243 : SW p l e (rmL 2 0 0) s m [.ref (ad 0), .int x, .int f, .int t, .int kd, .int v].toArray below meth c 13 D sxCl A 0 0 Q (sx_up μ1 (ad 6) (.inl (tc 0, 83968, .inl (va_up wd1 (2048 * i + k) ((wd (2048 * i + k)) &&& bt))))) 243 [some (.ref (ad 0)), some (.int x), some (.int f), some (.int t), some (.int kd), some (.int v), some (.int (b2i (!cndB W f t kd v))), some (.int (b2i fq)), some (.int (nI k)), some (.int (wd (2048 * i + k))), some (.int bt), some (.int (nI z)), none] [.int (b2i (fq || decide (¬ (wd (2048 * i + k) &&& bt) = wd (2048 * i + k))))] := by
                          refine sx_istore (lv' := [some (.ref (ad 0)), some (.int x), some (.int f), some (.int t), some (.int kd), some (.int v), some (.int (b2i (!cndB W f t kd v))), some (.int (b2i (fq || decide (¬ (wd (2048 * i + k) &&& bt) = wd (2048 * i + k))))), some (.int (nI k)), some (.int (wd (2048 * i + k))), some (.int bt), some (.int (nI z)), none]) C dM_condition_243 (by decide) rfl rfl ?_
                          refine sx_weak (lv' := [some (.ref (ad 0)), some (.int x), some (.int f), some (.int t), some (.int kd), some (.int v), some (.int (b2i (!cndB W f t kd v))), some (.int (b2i (fq || decide (¬ (wd (2048 * i + k) &&& bt) = wd (2048 * i + k))))), some (.int (nI k)), none, none, none, none]) (And.intro rfl (And.intro rfl (And.intro rfl (And.intro rfl (And.intro rfl (And.intro rfl (And.intro rfl (And.intro rfl (And.intro rfl trivial))))))))) ?_
                          refine sx_iinc (v := nI (k + 1)) (lv' := [some (.ref (ad 0)), some (.int x), some (.int f), some (.int t), some (.int kd), some (.int v), some (.int (b2i (!cndB W f t kd v))), some (.int (b2i (fq || decide (¬ (wd (2048 * i + k) &&& bt) = wd (2048 * i + k))))), some (.int (nI (k + 1))), none, none, none, none]) C dM_condition_245 rfl (nI_1 k) (by decide) rfl rfl ?_
                          refine sx_goto (tgt := 114) C dM_condition_248 (by decide) ?_
                          have g1 : nRw W - (k + 1) < fu := by clear rf r3; omega
                          have g2 : k + 1 ≤ nRw W := by clear rf r3; omega
                          exact ih (k + 1) _ _ _ g1 g2 hL2 r3.1 r3.2.1 r3.2.2.1 r3.2.2.2
                        refine sx_iload C dM_condition_223 rfl ?_
                        refine sx_if_ne (tgt := 238) C dM_condition_225 (by decide) (fun c225 => ?_) (fun c225 => ?_)
                        · refine sx_iconst (v := 1) C dM_condition_238 (by decide) ?_
                          refine sx_goto (tgt := 243) C dM_condition_239 (by decide) ?_
                          refine sx_eqi ((b2i (fq || decide (¬ (wd (2048 * i + k) &&& bt) = wd (2048 * i + k))))) (by first | (rw [b2i_ne.mp c225]; rfl) | (rw [b2i_z.mp c225, decide_eq_true c235]; rfl) | (rw [b2i_z.mp c225, decide_eq_false (fun h => h c235)]; rfl)) ?_
                          exact J243
                        · refine sx_iload C dM_condition_228 rfl ?_
                          refine sx_iload C dM_condition_230 rfl ?_
                          refine sx_iand C dM_condition_232 ?_
                          refine sx_iload C dM_condition_233 rfl ?_
                          refine sx_icmp_eq (tgt := 242) C dM_condition_235 (by decide) (fun c235 => ?_) (fun c235 => ?_)
                          · refine sx_iconst (v := 0) C dM_condition_242 (by decide) ?_
                            refine sx_eqi ((b2i (fq || decide (¬ (wd (2048 * i + k) &&& bt) = wd (2048 * i + k))))) (by first | (rw [b2i_ne.mp c225]; rfl) | (rw [b2i_z.mp c225, decide_eq_true c235]; rfl) | (rw [b2i_z.mp c225, decide_eq_false (fun h => h c235)]; rfl)) ?_
                            exact J243
                          · refine sx_iconst (v := 1) C dM_condition_238 (by decide) ?_
                            refine sx_goto (tgt := 243) C dM_condition_239 (by decide) ?_
                            refine sx_eqi ((b2i (fq || decide (¬ (wd (2048 * i + k) &&& bt) = wd (2048 * i + k))))) (by first | (rw [b2i_ne.mp c225]; rfl) | (rw [b2i_z.mp c225, decide_eq_true c235]; rfl) | (rw [b2i_z.mp c225, decide_eq_false (fun h => h c235)]; rfl)) ?_
                            exact J243
                      · refine sx_bipush (v := 32) C dM_condition_156 (by decide) ?_
                        refine sx_iload C dM_condition_158 rfl ?_
                        refine sx_imul C dM_condition_160 ?_
                        refine sx_eqi (nI (32 * k)) (nI_mul 32 k) ?_
                        refine sx_iload C dM_condition_161 rfl ?_
                        refine sx_iadd C dM_condition_163 ?_
                        refine sx_eqi (nI (32 * k + z)) (nI_add _ _) ?_
                        refine sx_iload_n C dM_condition_164 rfl rfl ?_
                        refine sx_eqi (nI a) (hfa) ?_
                        refine sx_iload_n C dM_condition_165 rfl rfl ?_
                        refine sx_eqi (nI b) (htb) ?_
                        refine sx_calli C (sx_runS (As := [.int (nI a), .int (nI b)]) (rest := [.int (nI (32 * k + z))]) C sx_all (c_M_bitsOf l D tc a b μ1 hab (by omega)) (sx_cwS C 2 kM_M_86 ks_M_bitsOf kn_M kc_M_bitsOf rfl rfl (by decide +kernel) ⟨Nat.le_of_ble_eq_true rfl, Nat.le_of_ble_eq_true rfl⟩) rfl rfl (Nat.le_of_ble_eq_true rfl) dM_condition_166 ⟨Nat.le_of_ble_eq_true rfl, Nat.le_of_ble_eq_true rfl⟩) (fun q8 μ8 h8 => ?_)
                        obtain ⟨hm, h8⟩ := h8
                        subst hm
                        refine sx_eqi (nI (fbN a b)) (h8) ?_
                        refine sx_iand C dM_condition_169 ?_
                        refine sx_iload_n C dM_condition_170 rfl rfl ?_
                        refine sx_eqi (nI a) (hfa) ?_
                        refine sx_ishr C dM_condition_171 ?_
                        refine sx_eqi (nI (fld a b (32 * k + z))) (cd_fld (by omega) hab (by omega)) ?_
                        refine sx_istore (lv' := [some (.ref (ad 0)), some (.int x), some (.int f), some (.int t), some (.int kd), some (.int v), some (.int (b2i (!cndB W f t kd v))), some (.int (b2i fq)), some (.int (nI k)), some (.int (wd (2048 * i + k))), some (.int bt), some (.int (nI z)), some (.int (nI (fld a b (32 * k + z))))]) C dM_condition_172 (by decide) rfl rfl ?_
                        refine sx_iload C dM_condition_174 rfl ?_
                        have J196 : SW p l e (rmL 2 0 0) s m [.ref (ad 0), .int x, .int f, .int t, .int kd, .int v].toArray below meth c 13 D sxCl A 0 0 Q μ1 196 [some (.ref (ad 0)), some (.int x), some (.int f), some (.int t), some (.int kd), some (.int v), some (.int (b2i (!cndB W f t kd v))), some (.int (b2i fq)), some (.int (nI k)), some (.int (wd (2048 * i + k))), some (.int bt), some (.int (nI z)), some (.int (nI (fld a b (32 * k + z))))] [.int (if cdH (fld a b (32 * k + z)) j9 n9 = true then jshl 1 (nI z) else 0), .int bt] := by
                          refine sx_ior C dM_condition_196 ?_
                          refine sx_topi (fun bt2 ebt2 => ?_)
                          refine sx_istore (lv' := [some (.ref (ad 0)), some (.int x), some (.int f), some (.int t), some (.int kd), some (.int v), some (.int (b2i (!cndB W f t kd v))), some (.int (b2i fq)), some (.int (nI k)), some (.int (wd (2048 * i + k))), some (.int bt2), some (.int (nI z)), some (.int (nI (fld a b (32 * k + z))))]) C dM_condition_197 (by decide) rfl rfl ?_
                          refine sx_weak (lv' := [some (.ref (ad 0)), some (.int x), some (.int f), some (.int t), some (.int kd), some (.int v), some (.int (b2i (!cndB W f t kd v))), some (.int (b2i fq)), some (.int (nI k)), some (.int (wd (2048 * i + k))), some (.int bt2), some (.int (nI z)), none]) (And.intro rfl (And.intro rfl (And.intro rfl (And.intro rfl (And.intro rfl (And.intro rfl (And.intro rfl (And.intro rfl (And.intro rfl (And.intro rfl (And.intro rfl (And.intro rfl trivial)))))))))))) ?_
                          refine sx_iinc (v := nI (z + 1)) (lv' := [some (.ref (ad 0)), some (.int x), some (.int f), some (.int t), some (.int kd), some (.int v), some (.int (b2i (!cndB W f t kd v))), some (.int (b2i fq)), some (.int (nI k)), some (.int (wd (2048 * i + k))), some (.int bt2), some (.int (nI (z + 1))), none]) C dM_condition_199 rfl (nI_1 z) (by decide) rfl rfl ?_
                          refine sx_goto (tgt := 144) C dM_condition_202 (by decide) ?_
                          exact ih2 (z + 1) bt2 (by omega) (by omega) (cdb_s (P := fun j => cdH (fld a b (32 * k + j)) j9 n9) (by omega) hbt ebt2)
                        refine sx_iload C dM_condition_176 rfl ?_
                        refine sx_iload C dM_condition_178 rfl ?_
                        refine sx_eqi (nI j9) (hkj) ?_
                        refine sx_iload C dM_condition_180 rfl ?_
                        refine sx_eqi (nI n9) (hvn) ?_
                        refine sx_calli C (sx_runS (As := [.int (nI (fld a b (32 * k + z))), .int (nI j9), .int (nI n9)]) (rest := [.int bt]) C sx_all (c_M_holds l D tc (fld a b (32 * k + z)) j9 n9 μ1 (by have := fld_lt a b (32 * k + z); have h16 : 2 ^ (b + 1 - a) ≤ 2 ^ 16 := Nat.pow_le_pow_right (by decide) (by omega); omega) hj5 (by omega)) (sx_cwS C 3 kM_M_90 ks_M_holds kn_M kc_M_holds rfl rfl (by decide +kernel) ⟨Nat.le_of_ble_eq_true rfl, Nat.le_of_ble_eq_true rfl⟩) rfl rfl (Nat.le_of_ble_eq_true rfl) dM_condition_182 ⟨Nat.le_of_ble_eq_true rfl, Nat.le_of_ble_eq_true rfl⟩) (fun q10 μ10 h10 => ?_)
                        obtain ⟨hm, h10⟩ := h10
                        subst hm
                        refine sx_eqi (b2i (cdH (fld a b (32 * k + z)) j9 n9)) (h10) ?_
                        refine sx_if_eq (tgt := 195) C dM_condition_185 (by decide) (fun c185 => ?_) (fun c185 => ?_)
                        · refine sx_iconst (v := 0) C dM_condition_195 (by decide) ?_
                          refine sx_eqi ((if cdH (fld a b (32 * k + z)) j9 n9 = true then jshl 1 (nI z) else 0)) (by first | rw [if_pos (b2i_ne.mp c185)] | rw [if_neg (by rw [b2i_z.mp c185]; decide)]) ?_
                          exact J196
                        · refine sx_iconst (v := 1) C dM_condition_188 (by decide) ?_
                          refine sx_iload C dM_condition_189 rfl ?_
                          refine sx_ishl C dM_condition_191 ?_
                          refine sx_goto (tgt := 196) C dM_condition_192 (by decide) ?_
                          refine sx_eqi ((if cdH (fld a b (32 * k + z)) j9 n9 = true then jshl 1 (nI z) else 0)) (by first | rw [if_pos (b2i_ne.mp c185)] | rw [if_neg (by rw [b2i_z.mp c185]; decide)]) ?_
                          exact J196
                exact L144 _ 0 0 (Nat.lt_succ_self _) (Nat.zero_le _) (fun j _ => by rw [bI_0, decide_eq_false (Nat.not_lt_zero _), Bool.false_and])
          exact L114 _ 0 _ wd false (Nat.lt_succ_self _) (Nat.zero_le _) h2s (fun _ _ _ _ _ => rfl) (fun _ _ _ => rfl) (fun j hj => absurd hj (Nat.not_lt_zero _)) ⟨fun z => (by cases z), fun ⟨j, hj, _⟩ => absurd hj (Nat.not_lt_zero _)⟩
        · have hE : R_cnd W u S ed x f t kd v (thI (!isB u x) (!cndB W f t kd v) (cdX u ed x)) 0 S ed := by
            rcases th_3 (b2i_ne.mp c79) with ⟨z1, z2⟩ | ⟨z1, z2, z3⟩ | ⟨z1, z2, z3, z4⟩
            · exact Or.inr ⟨Or.inl ⟨z2, (isB_ff hu).mp (th_n z1)⟩, rfl, rfl⟩
            · exact Or.inr ⟨Or.inr (Or.inl ⟨z3, (isB_iff hu).mp (th_f z1), fun a b j n h => by rw [(cndB_iff hW).mpr ⟨a, b, j, n, h⟩] at z2; cases z2⟩), rfl, rfl⟩
            · have tb := th_f z1
              obtain ⟨i, hi, hxi⟩ := (isB_iff hu).mp tb
              obtain ⟨a, b, j9, n9, hok⟩ := (cndB_iff hW).mp (th_f z2)
              unfold cdX at z3
              rw [tb, Bool.true_and, hxi, nI_clamp (by omega)] at z3
              exact Or.inr ⟨Or.inr (Or.inr ⟨z4, i, a, b, j9, n9, hi, hxi, hok, of_decide_eq_true z3⟩), rfl, rfl⟩
          refine sx_iconst (v := 0) C dM_condition_82 (by decide) ?_
          exact sx_zretQ C hQ dM_condition_83 hr (by simp) hlocks (Nat.le_of_ble_eq_true rfl) (Nat.le_of_ble_eq_true rfl) (⟨_, S, ed, hE, MInv_of hA hT9 hP⟩)
      refine sx_aload_n C dM_condition_53 rfl rfl ?_
      refine sx_iload_n C dM_condition_54 rfl rfl ?_
      refine sx_calli C (sx_runV (As := [.int x]) (rest := [.int (b2i (!cndB W f t kd v)), .int (b2i (!isB u x)), .ref (ad 0)]) C sx_all (c_M_is l D tc x ad W u th kn lst sb mk cd lk fl vr wd cn li od μ hS) (ci := 3) rfl (MS_f0 hS) (sx_cwV C 1 kM_M_82 ki_M_is ke_M_is kn_M kc_M_is rfl rfl (by decide +kernel) ⟨Nat.le_of_ble_eq_true rfl, Nat.le_of_ble_eq_true rfl⟩) rfl rfl (Nat.le_of_ble_eq_true rfl) dM_condition_55 ⟨Nat.le_of_ble_eq_true rfl, Nat.le_of_ble_eq_true rfl⟩) (fun q5 μ5 h5 => ?_)
      obtain ⟨hm, h5⟩ := h5
      subst hm
      refine sx_eqi (b2i (isB u x)) (h5) ?_
      refine sx_if_eq (tgt := 75) C dM_condition_58 (by decide) (fun c58 => ?_) (fun c58 => ?_)
      · have b58 := b2i_z.mp c58
        refine sx_iconst (v := 0) C dM_condition_75 (by decide) ?_
        refine sx_eqi ((b2i (cdX u ed x))) (by unfold cdX; first | (rw [b58]; rfl) | (rw [b58, hxi, nI_clamp (by omega), decide_eq_true b68]; rfl) | (rw [b58, hxi, nI_clamp (by omega), decide_eq_false b68]; rfl)) ?_
        exact J76
      · have b58 := b2i_ne.mp c58
        obtain ⟨i, hi, hxi⟩ := (isB_iff hu).mp b58
        refine sx_aload_n C dM_condition_61 rfl rfl ?_
        refine sx_getf (Cn := RM) (T := TM) (N := 17) C dM_condition_62 (sx_in inM) rfl 6 (by decide) (sx_w C kF_M_13) (fun _ h => h) (MS_f0 hS) rfl ?_
        refine sx_iload_n C dM_condition_65 rfl rfl ?_
        refine sx_eqi (nI i) (hxi) ?_
        refine sx_iald (j := i) C dM_condition_66 0 rfl (MS_f2 hS) (rfl) ((by omega)) (Nat.le_of_ble_eq_true rfl) ?_
        refine sx_eqi (nI (ed 3 i)) ((hP.1 i hi).2.2.2.1) ?_
        refine sx_iconst (v := 4) C dM_condition_67 (by decide) ?_
        refine sx_icmp_ne (tgt := 75) C dM_condition_68 (by decide) (fun c68 => ?_) (fun c68 => ?_)
        · have b68 : ¬ ed 3 i = 4 := fun z => c68 (by rw [z]; rfl)
          refine sx_iconst (v := 0) C dM_condition_75 (by decide) ?_
          refine sx_eqi ((b2i (cdX u ed x))) (by unfold cdX; first | (rw [b58]; rfl) | (rw [b58, hxi, nI_clamp (by omega), decide_eq_true b68]; rfl) | (rw [b58, hxi, nI_clamp (by omega), decide_eq_false b68]; rfl)) ?_
          exact J76
        · have b68 : ed 3 i = 4 := (ab_nI (b := 4) (by have := (hA.2.2.2 i hi).2.2.2.1; omega) (by decide)).mp c68
          refine sx_iconst (v := 1) C dM_condition_71 (by decide) ?_
          refine sx_goto (tgt := 76) C dM_condition_72 (by decide) ?_
          refine sx_eqi ((b2i (cdX u ed x))) (by unfold cdX; first | (rw [b58]; rfl) | (rw [b58, hxi, nI_clamp (by omega), decide_eq_true b68]; rfl) | (rw [b58, hxi, nI_clamp (by omega), decide_eq_false b68]; rfl)) ?_
          exact J76
    refine sx_aload_n C dM_condition_38 rfl rfl ?_
    refine sx_iload_n C dM_condition_39 rfl rfl ?_
    refine sx_calli C (sx_runV (As := [.int x]) (rest := [.ref (ad 0)]) C sx_all (c_M_is l D tc x ad W u th kn lst sb mk cd lk fl vr wd cn li od μ hS) (ci := 3) rfl (MS_f0 hS) (sx_cwV C 1 kM_M_82 ki_M_is ke_M_is kn_M kc_M_is rfl rfl (by decide +kernel) ⟨Nat.le_of_ble_eq_true rfl, Nat.le_of_ble_eq_true rfl⟩) rfl rfl (Nat.le_of_ble_eq_true rfl) dM_condition_40 ⟨Nat.le_of_ble_eq_true rfl, Nat.le_of_ble_eq_true rfl⟩) (fun q4 μ4 h4 => ?_)
    obtain ⟨hm, h4⟩ := h4
    subst hm
    refine sx_eqi (b2i (isB u x)) (h4) ?_
    refine sx_if_ne (tgt := 50) C dM_condition_43 (by decide) (fun c43 => ?_) (fun c43 => ?_)
    · refine sx_iconst (v := 0) C dM_condition_50 (by decide) ?_
      refine sx_eqi ((b2i (!isB u x))) (by first | (rw [b2i_z.mp c43]; rfl) | (rw [b2i_ne.mp c43]; rfl)) ?_
      exact J51
    · refine sx_iconst (v := 1) C dM_condition_46 (by decide) ?_
      refine sx_goto (tgt := 51) C dM_condition_47 (by decide) ?_
      refine sx_eqi ((b2i (!isB u x))) (by first | (rw [b2i_z.mp c43]; rfl) | (rw [b2i_ne.mp c43]; rfl)) ?_
      exact J51
  refine sx_aload_n C dM_condition_0 rfl rfl ?_
  refine sx_iload_n C dM_condition_1 rfl rfl ?_
  refine sx_iload_n C dM_condition_2 rfl rfl ?_
  refine sx_calli C (sx_runV (As := [.int f, .int t]) (rest := []) C sx_all (c_M_isField l D tc f t ad W u th kn lst sb mk cd lk fl vr wd cn li od μ hS) (ci := 3) rfl (MS_f0 hS) (sx_cwV C 2 kM_M_77 ki_M_isField ke_M_isField kn_M kc_M_isField rfl rfl (by decide +kernel) ⟨Nat.le_of_ble_eq_true rfl, Nat.le_of_ble_eq_true rfl⟩) rfl rfl (Nat.le_of_ble_eq_true rfl) dM_condition_3 ⟨Nat.le_of_ble_eq_true rfl, Nat.le_of_ble_eq_true rfl⟩) (fun q1 μ1 h1 => ?_)
  obtain ⟨hm, h1⟩ := h1
  subst hm
  refine sx_eqi (b2i (fdB W f t)) (h1) ?_
  refine sx_if_eq (tgt := 30) C dM_condition_6 (by decide) (fun c6 => ?_) (fun c6 => ?_)
  · refine sx_iconst (v := 1) C dM_condition_30 (by decide) ?_
    refine sx_goto (tgt := 35) C dM_condition_31 (by decide) ?_
    refine sx_eqi ((b2i (!cndB W f t kd v))) (by unfold cndB; first | (rw [b2i_z.mp c6]; rfl) | (rw [b2i_ne.mp c6, b2i_z.mp c16]; rfl) | (rw [b2i_ne.mp c6, b2i_ne.mp c16, b2i_z.mp c27]; rfl) | (rw [b2i_ne.mp c6, b2i_ne.mp c16, b2i_ne.mp c27]; rfl)) ?_
    exact J35
  · refine sx_iload C dM_condition_9 rfl ?_
    refine sx_iconst (v := 0) C dM_condition_11 (by decide) ?_
    refine sx_iconst (v := 5) C dM_condition_12 (by decide) ?_
    refine sx_calli C (sx_runS (As := [.int kd, .int 0, .int 5]) (rest := []) C sx_all (c_M_in l D tc kd 0 5 μ) (sx_cwS C 3 kM_M_55 ks_M_in kn_M kc_M_in rfl rfl (by decide +kernel) ⟨Nat.le_of_ble_eq_true rfl, Nat.le_of_ble_eq_true rfl⟩) rfl rfl (Nat.le_of_ble_eq_true rfl) dM_condition_13 ⟨Nat.le_of_ble_eq_true rfl, Nat.le_of_ble_eq_true rfl⟩) (fun q2 μ2 h2 => ?_)
    obtain ⟨hm, h2⟩ := h2
    subst hm
    refine sx_eqi (b2i (inB kd 0 5)) (h2) ?_
    refine sx_if_eq (tgt := 30) C dM_condition_16 (by decide) (fun c16 => ?_) (fun c16 => ?_)
    · refine sx_iconst (v := 1) C dM_condition_30 (by decide) ?_
      refine sx_goto (tgt := 35) C dM_condition_31 (by decide) ?_
      refine sx_eqi ((b2i (!cndB W f t kd v))) (by unfold cndB; first | (rw [b2i_z.mp c6]; rfl) | (rw [b2i_ne.mp c6, b2i_z.mp c16]; rfl) | (rw [b2i_ne.mp c6, b2i_ne.mp c16, b2i_z.mp c27]; rfl) | (rw [b2i_ne.mp c6, b2i_ne.mp c16, b2i_ne.mp c27]; rfl)) ?_
      exact J35
    · refine sx_iload C dM_condition_19 rfl ?_
      refine sx_iconst (v := 0) C dM_condition_21 (by decide) ?_
      refine sx_ldc (v := 65535) C dM_condition_22 (sx_w C kK_M_81) ?_
      refine sx_calli C (sx_runS (As := [.int v, .int 0, .int 65535]) (rest := []) C sx_all (c_M_in l D tc v 0 65535 μ) (sx_cwS C 3 kM_M_55 ks_M_in kn_M kc_M_in rfl rfl (by decide +kernel) ⟨Nat.le_of_ble_eq_true rfl, Nat.le_of_ble_eq_true rfl⟩) rfl rfl (Nat.le_of_ble_eq_true rfl) dM_condition_24 ⟨Nat.le_of_ble_eq_true rfl, Nat.le_of_ble_eq_true rfl⟩) (fun q3 μ3 h3 => ?_)
      obtain ⟨hm, h3⟩ := h3
      subst hm
      refine sx_eqi (b2i (inB v 0 65535)) (h3) ?_
      refine sx_if_ne (tgt := 34) C dM_condition_27 (by decide) (fun c27 => ?_) (fun c27 => ?_)
      · refine sx_iconst (v := 0) C dM_condition_34 (by decide) ?_
        refine sx_eqi ((b2i (!cndB W f t kd v))) (by unfold cndB; first | (rw [b2i_z.mp c6]; rfl) | (rw [b2i_ne.mp c6, b2i_z.mp c16]; rfl) | (rw [b2i_ne.mp c6, b2i_ne.mp c16, b2i_z.mp c27]; rfl) | (rw [b2i_ne.mp c6, b2i_ne.mp c16, b2i_ne.mp c27]; rfl)) ?_
        exact J35
      · refine sx_iconst (v := 1) C dM_condition_30 (by decide) ?_
        refine sx_goto (tgt := 35) C dM_condition_31 (by decide) ?_
        refine sx_eqi ((b2i (!cndB W f t kd v))) (by unfold cndB; first | (rw [b2i_z.mp c6]; rfl) | (rw [b2i_ne.mp c6, b2i_z.mp c16]; rfl) | (rw [b2i_ne.mp c6, b2i_ne.mp c16, b2i_z.mp c27]; rfl) | (rw [b2i_ne.mp c6, b2i_ne.mp c16, b2i_ne.mp c27]; rfl)) ?_
        exact J35
