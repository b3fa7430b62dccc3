/-! encoding -/
def encOk (W : Nat) (x y : Int64) (m v : Nat) : Prop := m < 2 ^ W ∧ v < 2 ^ W ∧ x = lN m ∧ y = lN v ∧ v &&& m = v
def fxS (W m v : Nat) : Nat → Bool := fun w => decide (w < 2 ^ W) && decide (w &&& m = v)
theorem en_all : ∀ W, W < 17 → jshlL 1 (nI W) - 1 = lN (2 ^ W - 1) := by decide +kernel
theorem en_pw {W : Nat} (hW : W ≤ 16) : 2 ^ W ≤ 65536 := Nat.le_trans (Nat.pow_le_pow_right (by decide) hW) (by decide)
theorem en_1 {W : Nat} (hW : W ≤ 16) {x : Int64} : (x &&& ((jshlL 1 (nI W) - 1) ^^^ (-1))) = 0 ↔ ∃ m, m < 2 ^ W ∧ x = lN m := by
  rw [en_all W (by omega), bL_zero_iff]
  obtain ⟨n, hn, rfl⟩ := wb_of x
  have hb : ∀ i, i < 64 → bL (lN n &&& (lN (2 ^ W - 1) ^^^ (-1))) i = (n.testBit i && !decide (i < W)) := fun i hi => by
    rw [bL_and, bL_not _ hi, bL_lN, bL_lN, decide_eq_true hi, Nat.testBit_two_pow_sub_one, Bool.true_and, Bool.true_and]
  constructor
  · intro h
    refine ⟨n, Nat.lt_pow_two_of_testBit n fun i hi => ?_, rfl⟩
    rcases Nat.lt_or_ge i 64 with z | z
    · have := h i z
      rw [hb i z, decide_eq_false (by omega)] at this
      simpa using this
    · exact Nat.testBit_lt_two_pow (Nat.lt_of_lt_of_le hn (Nat.pow_le_pow_right (by decide) z))
  · rintro ⟨m, hm, e⟩ i hi
    have hp := en_pw hW
    have hnm : n = m := by
      have := congrArg (fun z => z.toBitVec.toNat) e
      rw [wb_tn hn, wb_tn (by omega)] at this
      exact this
    subst hnm
    rw [hb i hi]
    by_cases z : i < W
    · rw [decide_eq_true z, Bool.not_true, Bool.and_false]
    · rw [Nat.testBit_lt_two_pow (Nat.lt_of_lt_of_le hm (Nat.pow_le_pow_right (by decide) (by omega))), Bool.false_and]
theorem en_2 {m : Nat} (hm : m < 2 ^ 31) {y : Int64} : (y &&& (lN m ^^^ (-1))) = 0 ↔ ∃ v, v ≤ m ∧ y = lN v ∧ v &&& m = v := by
  rw [bL_zero_iff]
  obtain ⟨n, hn, rfl⟩ := wb_of y
  have hb : ∀ i, i < 64 → bL (lN n &&& (lN m ^^^ (-1))) i = (n.testBit i && !m.testBit i) := fun i hi => by
    rw [bL_and, bL_not _ hi, bL_lN, bL_lN, decide_eq_true hi, Bool.true_and, Bool.true_and]
  constructor
  · intro h
    have e : n &&& m = n := by
      apply Nat.eq_of_testBit_eq
      intro i
      rw [Nat.testBit_and]
      rcases Nat.lt_or_ge i 64 with z | z
      · have := h i z
        rw [hb i z] at this
        revert this
        cases n.testBit i <;> cases m.testBit i <;> simp
      · rw [Nat.testBit_lt_two_pow (Nat.lt_of_lt_of_le hn (Nat.pow_le_pow_right (by decide) z)), Bool.false_and]
    exact ⟨n, by rw [← e]; exact Nat.and_le_right, rfl, e⟩
  · rintro ⟨v, hv, e, h⟩ i hi
    have hnm : n = v := by
      have := congrArg (fun z => z.toBitVec.toNat) e
      rw [wb_tn hn, wb_tn (by omega)] at this
      exact this
    subst hnm
    rw [hb i hi]
    have h2 : (n &&& m).testBit i = n.testBit i := by rw [h]
    rw [Nat.testBit_and] at h2
    revert h2
    cases n.testBit i <;> cases m.testBit i <;> simp
theorem en_un {W : Nat} (hW : W ≤ 16) {x y : Int64} {m v m' v' : Nat} (h : encOk W x y m v) (h' : encOk W x y m' v') : m = m' ∧ v = v' := by
  obtain ⟨h1, h2, rfl, rfl, -⟩ := h
  obtain ⟨h3, h4, e1, e2, -⟩ := h'
  have hp := en_pw hW
  exact ⟨(pk_lEQ (by omega) (by omega)).mp e1, (pk_lEQ (by omega) (by omega)).mp e2⟩
theorem fx_word {W m v c k : Nat} (hc : c < nCh W) (hk : k < 64) : fxB W m v c k = fxS W m v (64 * c + k) := by
  have h0 := fx_all hc hk
  unfold fxB at h0
  rw [Nat.zero_mod, Nat.zero_div, Nat.and_zero, Nat.and_zero, decide_eq_true (rfl : (0 : Nat) = 0), Bool.and_true, Bool.and_true] at h0
  unfold fxB fxS
  rw [h0, Bool.and_assoc]
  congr 1
  have e : (64 * c + k) &&& m = (k &&& m % 64) + 64 * (c &&& m / 64) := by
    have := nz_and (k := 6) (a := k) (b := c) (c := m % 64) (d := m / 64) hk (Nat.mod_lt _ (by decide))
    rw [show (2 : Nat) ^ 6 = 64 from rfl, show m % 64 + 64 * (m / 64) = m by omega, show k + 64 * c = 64 * c + k by omega] at this
    exact this
  have hl : (k &&& m % 64) < 64 := Nat.lt_of_le_of_lt Nat.and_le_left hk
  rw [e, ← Bool.decide_and, decide_eq_decide]
  omega
theorem row_ext {W : Nat} {f : Nat → Int64} {T : Nat → Bool} (h : ∀ c, c < nCh W → ∀ k, k < 64 → bL (f c) k = T (64 * c + k)) (hz : ∀ w, 2 ^ W ≤ w → T w = false) : rowS f (nCh W) = T := by
  funext w
  by_cases hw : w < 64 * nCh W
  · have hc : w / 64 < nCh W := by omega
    have hk : w % 64 < 64 := Nat.mod_lt _ (by decide)
    rw [show w = 64 * (w / 64) + w % 64 by omega, rowS_at hc hk, h _ hc _ hk]
  · rw [hz w (Nat.le_trans nCh_W (by omega))]
    unfold rowS
    rw [decide_eq_false hw, Bool.false_and]
theorem fxS_z {W m v : Nat} : ∀ w, 2 ^ W ≤ w → fxS W m v w = false := fun w h => by unfold fxS; rw [decide_eq_false (by omega), Bool.false_and]
theorem cm_up {W : Nat} {S : Nat → Nat → Bool} {T : Nat → Bool} {i a b : Nat} (ha : a ≠ i) (hb : b ≠ i) : cm W (va_up S i T) a b = cm W S a b := by
  unfold cm
  rw [va_up_o S T ha, va_up_o S T hb]
section ENS
variable {W u : Nat} {S : Nat → Nat → Bool} {ed0 : Nat → Nat → Nat} {ln : Nat → Nat} {rf : Nat → Nat → Int64} {sc : Nat → Nat → Int32} {uk : Bool} {ul : Nat} {uf : Nat → Int64} {ed : Nat → Nat → Nat}
theorem en_AW {m v : Nat} (hA : AW W u S ed0) (hu : u < 40) (hm : m < 2 ^ W) : AW W (u + 1) (va_up S u (fxS W m v)) (edU ed0 u m 0 0 0 0) := by
  have hp : 0 < 2 ^ W := Nat.two_pow_pos W
  refine ⟨hA.1, by omega, fun i hi w hw => ?_, fun i hi => ?_⟩
  · by_cases e : i = u
    · subst e; rw [va_up_s]; exact fxS_z w hw
    · rw [va_up_o _ _ e]; exact hA.2.2.1 i (by omega) w hw
  · by_cases e : i = u
    · subst e
      simp only [edU_s, edV]
      exact ⟨hm, hp, hp, by omega, by omega⟩
    · simp only [edU_n _ _ _ _ _ _ _ e]
      exact hA.2.2.2 i (by omega)
theorem en_rows {m v : Nat} {g : Nat → Int64} (hP : CP W u S ed0 ln rf sc uk ul uf ed) (hg : ∀ c, c < nCh W → ∀ k, k < 64 → bL (g c) k = fxB W m v c k) : ∀ k, k < u + 1 → va_up ln u (nCh W) k = nCh W ∧ rowS (va_up rf u g k) (nCh W) = va_up S u (fxS W m v) k := by
  intro k hk
  by_cases e : k = u
  · subst e
    rw [va_up_s, va_up_s, va_up_s]
    exact ⟨rfl, row_ext (fun c hc i hi => by rw [hg c hc i hi, fx_word hc hi]) fxS_z⟩
  · rw [va_up_o _ _ e, va_up_o _ _ e, va_up_o _ _ e]
    exact hP.2.1 k (by omega)
theorem en_ln {n : Nat} (h : ∀ i, i < 40 → ln i = 0 ∨ ln i = nCh W) (hn : n < 40) : ∀ i, i < 40 → va_up ln n (nCh W) i = 0 ∨ va_up ln n (nCh W) i = nCh W := by
  intro i hi
  by_cases e : i = n
  · subst e; rw [va_up_s]; exact Or.inr rfl
  · rw [va_up_o _ _ e]; exact h i hi
theorem ed_rel {i v0 v1 v2 v3 v4 : Nat} {n : Nat} (h : ∀ k, k < n → k ≠ i → ∀ j, ed j k = ed0 j k) : ∀ k, k < n → ∀ j, edU ed i v0 v1 v2 v3 v4 j k = edU ed0 i v0 v1 v2 v3 v4 j k := by
  intro k hk j
  by_cases e : k = i
  · subst e; rw [edU_s, edU_s]
  · rw [edU_n _ _ _ _ _ _ _ e, edU_n _ _ _ _ _ _ _ e]; exact h k hk e j
end ENS
theorem jb_orI (a b : Nat) : nI a ||| nI b = nI (a ||| b) := by
  apply bI_ext
  intro i hi
  rw [bI_or, bI_nI, bI_nI, bI_nI, decide_eq_true hi, Nat.testBit_or]
  simp
/-! condition -/
def cdS (T : Nat → Bool) (a b k v : Nat) : Nat → Bool := fun w => T w && cdH (fld a b w) k v
theorem cd_row {W a b k v : Nat} {f g : Nat → Int64} {T : Nat → Bool} (hf : rowS f (nCh W) = T) (hz : ∀ w, 2 ^ W ≤ w → T w = false) (hg : ∀ j, j < nCh W → ∀ i, i < 64 → bL (g j) i = (bL (f j) i && cdH (fld a b (j * 64 + i)) k v)) : rowS g (nCh W) = cdS T a b k v :=
  row_ext (fun c hc i hi => by
    unfold cdS
    rw [hg c hc i hi, ← hf, rowS_at hc hi, Nat.mul_comm c 64]) (fun w hw => by unfold cdS; rw [hz w hw, Bool.false_and])
theorem cd_ch {W a b k v : Nat} {f g : Nat → Int64} {T : Nat → Bool} {t : Bool} (hf : rowS f (nCh W) = T) (hg : ∀ j, j < nCh W → ∀ i, i < 64 → bL (g j) i = (bL (f j) i && cdH (fld a b (j * 64 + i)) k v)) (ht : t = true ↔ ∃ j, j < nCh W ∧ g j ≠ f j) : t = true ↔ ∃ w, T w = true ∧ cdH (fld a b w) k v = false := by
  rw [ht]
  constructor
  · rintro ⟨j, hj, hne⟩
    refine Classical.byContradiction fun hn => hne (bL_ext fun i hi => ?_)
    rw [hg j hj i hi]
    cases h1 : bL (f j) i
    · rfl
    · cases h2 : cdH (fld a b (j * 64 + i)) k v
      · exact absurd ⟨64 * j + i, by rw [← hf, rowS_at hj hi]; exact h1, by rw [Nat.mul_comm 64 j]; exact h2⟩ hn
      · rfl
  · rintro ⟨w, h1, h2⟩
    rw [← hf] at h1
    have hw := rowS_lt h1
    have hj : w / 64 < nCh W := by omega
    have hk : w % 64 < 64 := Nat.mod_lt _ (by decide)
    rw [show w = 64 * (w / 64) + w % 64 by omega, rowS_at hj hk] at h1
    refine ⟨w / 64, hj, fun e => ?_⟩
    have := hg _ hj _ hk
    rw [e, h1, show w / 64 * 64 + w % 64 = w by omega, h2] at this
    cases this
theorem cd_same {S : Nat → Nat → Bool} {i a b k v : Nat} (h : ¬ ∃ w, S i w = true ∧ cdH (fld a b w) k v = false) : va_up S i (cdS (S i) a b k v) = S := by
  funext j w
  by_cases e : j = i
  · subst e
    rw [va_up_s]
    unfold cdS
    cases h1 : S j w
    · rfl
    · cases h2 : cdH (fld a b w) k v
      · exact absurd ⟨w, h1, h2⟩ h
      · rfl
  · rw [va_up_o _ _ e]
/-! operand -/
theorem op_or (a b : Nat) : nI a ||| (nI b &&& (nI a ^^^ (-1))) = nI (a ||| b) := by
  apply bI_ext
  intro i hi
  rw [bI_or, bI_and, bI_not _ hi, bI_nI, bI_nI, bI_nI, decide_eq_true hi, Nat.testBit_or]
  cases a.testBit i <;> cases b.testBit i <;> rfl
theorem or_lt {a b W : Nat} (ha : a < 2 ^ W) (hb : b < 2 ^ W) : a ||| b < 2 ^ W := Nat.or_lt_two_pow ha hb
/-- the bits that mean nothing -/
def idN (W : Nat) (ed : Nat → Nat → Nat) (i : Nat) : Nat := ((((nI (ed 0 i) ||| nI (ed 1 i)) ||| nI (ed 2 i)) ^^^ (-1)).toBitVec.toNat) % 2 ^ W
theorem id_mask : ∀ W, W < 17 → (jshl 1 (nI W) - 1).toBitVec.toNat = 2 ^ W - 1 := by decide +kernel
theorem id_eq {W : Nat} (hW : W ≤ 16) (ed : Nat → Nat → Nat) (i : Nat) : (jshl 1 (nI W) - 1) &&& (((nI (ed 0 i) ||| nI (ed 1 i)) ||| nI (ed 2 i)) ^^^ (-1)) = nI (idN W ed i) := by
  rw [Int32.and_comm]
  exact pk_and _ W (id_mask W (by omega))
theorem id_lt (W : Nat) (ed : Nat → Nat → Nat) (i : Nat) : idN W ed i < 2 ^ W := Nat.mod_lt _ (Nat.two_pow_pos W)
/-! alias -/
def alN (W : Nat) (S : Nat → Nat → Bool) (a b : Nat) : Nat := if cm W S a b = 0 then 0 else if lsB W S a b = true then (if lsB W S b a = true then 1 else 2) else if lsB W S b a = true then 3 else 4
theorem gp_cnt {W : Nat} {T : Nat → Bool} {f : Nat → Int64} (hf : rowS f (nCh W) = T) (hz : ∀ w, 2 ^ W ≤ w → T w = false) : smN (fun c => pop64 (f c &&& f c)) (nCh W) = pu_c T (2 ^ W) := by
  rw [sm_rows f f (Nat.le_refl _), hf, pu_c_congr (q := T) _ (fun i _ => Bool.and_self _)]
  exact pu_trim nCh_W (fun i h1 _ => hz i h1)
