/-! what a call answers: the code of the exception (0: none), the answer, the state after it -/
def R_enc (W u : Nat) (S : Nat → Nat → Bool) (ed : Nat → Nat → Nat) (x y : Int64) (k r : Int32) (u' : Nat) (S' : Nat → Nat → Bool) (ed' : Nat → Nat → Nat) : Prop :=
  (k = 0 ∧ ∃ m v, encOk W x y m v ∧ u < 40 ∧ r = nI u ∧ u' = u + 1 ∧ S' = va_up S u (fxS W m v) ∧ ed' = edU ed u m 0 0 0 0) ∨ (((k = 1 ∧ ∀ m v, ¬ encOk W x y m v) ∨ (k = 2 ∧ u = 40 ∧ ∃ m v, encOk W x y m v)) ∧ u' = u ∧ S' = S ∧ ed' = ed)
def R_cnd (W u : Nat) (S : Nat → Nat → Bool) (ed : Nat → Nat → Nat) (x f t kd v : Int32) (k r : Int32) (S' : Nat → Nat → Bool) (ed' : Nat → Nat → Nat) : Prop :=
  (k = 0 ∧ ∃ i a b j n, i < u ∧ x = nI i ∧ cndOk W f t kd v a b j n ∧ ed 3 i < 4 ∧ ∃ q : Bool, r = b2i q ∧ (q = true ↔ ∃ w, S i w = true ∧ cdH (fld a b w) j n = false) ∧ S' = va_up S i (cdS (S i) a b j n) ∧ ed' = edU ed i (ed 0 i) (ed 1 i ||| fbN a b) (ed 2 i) (ed 3 i + 1) (ed 4 i)) ∨ (((k = 1 ∧ ∀ j, j < u → x ≠ nI j) ∨ (k = 2 ∧ (∃ j, j < u ∧ x = nI j) ∧ ∀ a b j n, ¬ cndOk W f t kd v a b j n) ∨ (k = 3 ∧ ∃ i a b j n, i < u ∧ x = nI i ∧ cndOk W f t kd v a b j n ∧ ed 3 i = 4)) ∧ S' = S ∧ ed' = ed)
def R_opd (W u : Nat) (ed : Nat → Nat → Nat) (x f t : Int32) (k r : Int32) (ed' : Nat → Nat → Nat) : Prop :=
  (k = 0 ∧ ∃ i a b, i < u ∧ x = nI i ∧ (a ≤ b ∧ b < W ∧ f = nI a ∧ t = nI b) ∧ r = nI (pop32 (nI (fbN a b) &&& (nI (ed 2 i) ^^^ (-1)))) ∧ ed' = edU ed i (ed 0 i) (ed 1 i) (ed 2 i ||| fbN a b) (ed 3 i) (ed 4 i)) ∨ (((k = 1 ∧ ∀ j, j < u → x ≠ nI j) ∨ (k = 2 ∧ (∃ j, j < u ∧ x = nI j) ∧ ∀ a b, a ≤ b → b < W → ¬ (f = nI a ∧ t = nI b))) ∧ ed' = ed)
def R_nds (u : Nat) (ed : Nat → Nat → Nat) (x v : Int32) (k r : Int32) (ed' : Nat → Nat → Nat) : Prop :=
  (k = 0 ∧ ∃ i n, i < u ∧ x = nI i ∧ n < 256 ∧ v = nI n ∧ r = nI (ed 4 i) ∧ ed' = edU ed i (ed 0 i) (ed 1 i) (ed 2 i) (ed 3 i) n) ∨ (((k = 1 ∧ ∀ j, j < u → x ≠ nI j) ∨ (k = 2 ∧ (∃ j, j < u ∧ x = nI j) ∧ ∀ n, n < 256 → v ≠ nI n)) ∧ ed' = ed)
def R_pair (W u : Nat) (S : Nat → Nat → Bool) (x y : Int32) (k r : Int32) : Prop :=
  (k = 0 ∧ ∃ j n a b, x = nI j ∧ j < 2 ^ 31 ∧ y = nI n ∧ n ≤ 3 ∧ isPr W u S j a b ∧ ((n = 0 ∧ r = nI a) ∨ (n = 1 ∧ r = nI b) ∨ (n = 2 ∧ ∃ w, r = nI w ∧ lwP S a b w) ∨ (n = 3 ∧ r = nI (cm W S a b)))) ∨ (k = 1 ∧ ∀ j n a b, x = nI j → j < 2 ^ 31 → y = nI n → n ≤ 3 → ¬ isPr W u S j a b)
def R_als (W u : Nat) (S : Nat → Nat → Bool) (x y : Int32) (k r : Int32) : Prop :=
  (k = 0 ∧ ∃ a b, a < u ∧ b < u ∧ x = nI a ∧ y = nI b ∧ r = nI (alN W S a b)) ∨ (k = 1 ∧ ∀ a b, a < u → b < u → ¬ (x = nI a ∧ y = nI b))
def R_cls (W u : Nat) (S : Nat → Nat → Bool) (ed : Nat → Nat → Nat) (x : Int32) (k r : Int32) : Prop :=
  (k = 0 ∧ (∃ n, n < 256 ∧ x = nI n) ∧ r = nI (clN W u S ed x)) ∨ (k = 1 ∧ ∀ j, j < 256 → x ≠ nI j)
def R_mls (W u : Nat) (ed : Nat → Nat → Nat) (x : Int32) (k r : Int32) : Prop :=
  (k = 0 ∧ ∃ i, i < u ∧ x = nI i ∧ r = nI (pop32 (nI (idN W ed i)))) ∨ (k = 1 ∧ ∀ j, j < u → x ≠ nI j)
def R_idl (W u : Nat) (ed : Nat → Nat → Nat) (x y : Int32) (k r : Int32) : Prop :=
  (k = 0 ∧ ∃ i j p, i < u ∧ x = nI i ∧ y = nI j ∧ j < pop32 (nI (idN W ed i)) ∧ r = nI p ∧ p < 32 ∧ bI (nI (idN W ed i)) p = true ∧ pu_c (bI (nI (idN W ed i))) p = j) ∨ (k = 1 ∧ ∀ j, j < u → x ≠ nI j) ∨ (k = 2 ∧ ∃ i, i < u ∧ x = nI i ∧ ∀ j, j < pop32 (nI (idN W ed i)) → y ≠ nI j)
def R_cnt (W u : Nat) (S : Nat → Nat → Bool) (x : Int32) (k r : Int32) : Prop :=
  (k = 0 ∧ ∃ i, i < u ∧ x = nI i ∧ r = nI (cm W S i i)) ∨ (k = 1 ∧ ∀ j, j < u → x ≠ nI j)
def R_bks (W u : Nat) (S : Nat → Nat → Bool) (x : Int32) (k r : Int32) : Prop :=
  (k = 0 ∧ ∃ T, selT W u S x T ∧ r = nI (pu_c (bkS T (max W 6)) (64 * nCh W))) ∨ (k = 1 ∧ x ≠ -1 ∧ ∀ j, j < u → x ≠ nI j)
def R_blk (W u : Nat) (S : Nat → Nat → Bool) (x y z : Int32) (k r : Int32) : Prop :=
  (k = 0 ∧ ∃ T j w, selT W u S x T ∧ y = nI j ∧ j < 2 ^ 31 ∧ w < 64 * nCh W ∧ bkS T (max W 6) w = true ∧ pu_c (bkS T (max W 6)) w = j ∧ ((z = 0 ∧ r = nI w) ∨ (z = 1 ∧ ∃ q, r = nI q ∧ bk_lev T (max W 6) w q))) ∨ (k = 1 ∧ x ≠ -1 ∧ ∀ j, j < u → x ≠ nI j) ∨ (k = 2 ∧ ∃ T, selT W u S x T ∧ ∀ j w, y = nI j → (z = 0 ∨ z = 1) → w < 64 * nCh W → bkS T (max W 6) w = true → pu_c (bkS T (max W 6)) w ≠ j)
def R_dec (W u : Nat) (S : Nat → Nat → Bool) (x : Int32) (k r : Int32) : Prop :=
  (k = 0 ∧ ∃ w, w < 2 ^ W ∧ x = nI w ∧ dcP W u S w r) ∨ (k = 1 ∧ ∀ w, w < 2 ^ W → x ≠ nI w)
def R_ord (W u : Nat) (S : Nat → Nat → Bool) (x : Int32) (k r : Int32) : Prop :=
  (k = 0 ∧ ∃ j o, j < u ∧ x = nI j ∧ (∀ p, p ≤ j → onx W u S o p) ∧ r = nI (o j)) ∨ (k = 1 ∧ ∀ j, j < u → x ≠ nI j)
/-! the noted exception -/
theorem th_0 {a b d : Bool} (h : (a || b || d) = false) : thI a b d = 0 ∧ a = false ∧ b = false ∧ d = false := by
  revert h; cases a <;> cases b <;> cases d <;> simp [thI]
theorem th_1 {a : Bool} (h : (a || false || false) = true) : thI a false false = 1 ∧ a = true := by
  revert h; cases a <;> simp [thI]
theorem th_2 {a b : Bool} (h : (a || b || false) = true) : (a = true ∧ thI a b false = 1) ∨ (a = false ∧ b = true ∧ thI a b false = 2) := by
  revert h; cases a <;> cases b <;> simp [thI]
theorem th_3 {a b d : Bool} (h : (a || b || d) = true) : (a = true ∧ thI a b d = 1) ∨ (a = false ∧ b = true ∧ thI a b d = 2) ∨ (a = false ∧ b = false ∧ d = true ∧ thI a b d = 3) := by
  revert h; cases a <;> cases b <;> cases d <;> simp [thI]
theorem th_n {b : Bool} (h : (!b) = true) : b = false := by revert h; cases b <;> simp
theorem th_f {b : Bool} (h : (!b) = false) : b = true := by revert h; cases b <;> simp
theorem pn_b {M : Nat → Nat → Bool} {u a b : Nat} : nI (prN M u a b) + b2i (M a b) = nI (prN M u a (b + 1)) := by
  cases h : M a b
  · rw [pn_0 h]; exact Int32.add_zero _
  · rw [pn_1 h]; exact nI_1 _
/-! equal counts -/
theorem pu_eqI {p q : Nat → Bool} : ∀ {n : Nat}, (∀ i, i < n → p i = true → q i = true) → (pu_c p n = pu_c q n ↔ ∀ i, i < n → q i = true → p i = true)
  | 0, _ => ⟨fun _ i hi => absurd hi (Nat.not_lt_zero _), fun _ => rfl⟩
  | n + 1, h => by
    have ih := pu_eqI (n := n) (fun i hi => h i (by omega))
    have hle := pu_le (n := n) (fun i hi => h i (by omega))
    have h1 := h n (Nat.lt_succ_self _)
    have e : ∀ r : Nat → Bool, pu_c r (n + 1) = pu_c r n + (if r n = true then 1 else 0) := fun r => rfl
    rw [e p, e q]
    constructor
    · intro hh i hi
      have h2 : pu_c p n = pu_c q n ∧ (q n = true → p n = true) := by
        revert hh h1
        cases p n <;> cases q n <;> simp <;> omega
      by_cases z : i = n
      · subst z; exact h2.2
      · exact ih.mp h2.1 i (by omega)
    · intro hh
      have h2 := ih.mpr (fun i hi => hh i (by omega))
      have h3 := hh n (Nat.lt_succ_self _)
      have h4 : p n = q n := by
        revert h1 h3
        cases p n <;> cases q n <;> simp
      rw [h2, h4]
theorem ls_iff {W : Nat} {S : Nat → Nat → Bool} {a b : Nat} : lsB W S a b = true ↔ ∀ w, w < 2 ^ W → S a w = true → S b w = true := by
  unfold lsB
  rw [decide_eq_true_eq]
  unfold cm
  rw [pu_eqI (fun i _ h => by rw [Bool.and_eq_true] at h ⊢; exact ⟨h.1, h.1⟩)]
  constructor
  · intro h w hw ha
    have := h w hw (by rw [Bool.and_eq_true]; exact ⟨ha, ha⟩)
    rw [Bool.and_eq_true] at this
    exact this.2
  · intro h w hw ha
    rw [Bool.and_eq_true] at ha ⊢
    exact ⟨ha.1, h w hw ha.1⟩
section MCM
variable {W a b : Nat} {wd : Nat → Int32} {S : Nat → Nat → Bool}
theorem m_rows2 {n : Nat} : ∀ {m : Nat}, m ≤ n → smN (fun k => pop32 (wd (2048 * a + k) &&& wd (2048 * b + k))) m = pu_c (fun w => rowM wd n a w && rowM wd n b w) (32 * m)
  | 0, _ => rfl
  | m + 1, h => by
    have ih := m_rows2 (n := n) (m := m) (by omega)
    have e2 : pop32 (wd (2048 * a + m) &&& wd (2048 * b + m)) = pu_c (fun i => rowM wd n a (32 * m + i) && rowM wd n b (32 * m + i)) 32 := pu_c_congr 32 (fun i hi => by rw [rowM_at (by omega) hi, rowM_at (by omega) hi, bI_and])
    show smN _ m + pop32 (wd (2048 * a + m) &&& wd (2048 * b + m)) = _
    rw [ih, e2, Nat.mul_succ, pu_c_add]
theorem m_cm (ha : rowM wd (nRw W) a = S a) (hb : rowM wd (nRw W) b = S b) (hz : ∀ w, 2 ^ W ≤ w → S a w = false) : smN (fun k => pop32 (wd (2048 * a + k) &&& wd (2048 * b + k))) (nRw W) = cm W S a b := by
  rw [m_rows2 (Nat.le_refl _), ha, hb]
  exact pu_trim nRw_W (fun i h1 _ => by rw [hz i h1, Bool.false_and])
theorem m_ls (ha : rowM wd (nRw W) a = S a) (hb : rowM wd (nRw W) b = S b) (hz : ∀ w, 2 ^ W ≤ w → S a w = false) : (!anB (fun k => !decide ((wd (2048 * a + k) &&& (wd (2048 * b + k) ^^^ (-1))) = 0)) (nRw W)) = lsB W S a b := by
  rw [Bool.eq_iff_iff, ls_iff, Bool.not_eq_true', anB_ff]
  constructor
  · intro h w hw hs
    have h1 : w < 32 * nRw W := Nat.lt_of_lt_of_le hw nRw_W
    have h2 := h (w / 32) (by omega)
    rw [Bool.not_eq_false', decide_eq_true_eq, bI_zero_iff] at h2
    have h3 := h2 (w % 32) (Nat.mod_lt _ (by decide))
    rw [bI_and, bI_not _ (Nat.mod_lt _ (by decide)), ← rowM_in h1, ← rowM_in h1, ha, hb, hs] at h3
    revert h3
    cases S b w <;> simp
  · intro h k hk
    rw [Bool.not_eq_false', decide_eq_true_eq, bI_zero_iff]
    intro i hi
    rw [bI_and, bI_not _ hi, ← rowM_at hk hi, ← rowM_at hk hi, ha, hb]
    cases hs : S a (32 * k + i)
    · rfl
    · rcases Nat.lt_or_ge (32 * k + i) (2 ^ W) with z | z
      · rw [h _ z hs]; rfl
      · rw [hz _ z] at hs; cases hs
end MCM
theorem an_s {q : Nat → Bool} {n : Nat} : anB q (n + 1) = (anB q n || q n) := rfl
/-! one bit -/
theorem m_shl : ∀ i, i < 32 → jshl 1 (nI i) = nI (2 ^ i) := by decide +kernel
theorem bI_bit {i j : Nat} (hi : i < 32) (hj : j < 32) : bI (jshl 1 (nI i)) j = decide (i = j) := by
  rw [m_shl i hi, bI_nI, decide_eq_true hj, Bool.true_and, Nat.testBit_two_pow]
/-- or of many -/
def orN (f : Nat → Int32) : Nat → Int32
  | 0 => 0
  | n + 1 => orN f n ||| f n
theorem bI_orN (f : Nat → Int32) (i : Nat) : ∀ n, bI (orN f n) i = anB (fun e => bI (f e) i) n
  | 0 => bI_0 i
  | n + 1 => by rw [orN, bI_or, bI_orN f i n]; rfl
theorem al_bit {W w : Nat} (hw : w < 32 * nRw W) : bI (alM W) (w % 32) = decide (w < 2 ^ W) := by
  unfold alM
  by_cases h : W < 5
  · rw [if_pos h, bI_nI, Nat.testBit_two_pow_sub_one]
    have e : nRw W = 1 := by unfold nRw; rw [show W - 5 = 0 by omega]
    rw [show w % 32 = w by omega, decide_eq_true (show w < 32 by omega), Bool.true_and]
  · rw [if_neg h, bI_m1 (Nat.mod_lt _ (by decide))]
    have e := nRw_32 (W := W)
    rw [show max W 5 = W by omega] at e
    rw [decide_eq_true (show w < 2 ^ W by omega)]
theorem m_gp {W u : Nat} {wd wd1 : Nat → Int32} {S : Nat → Nat → Bool} (hr : ∀ e, e < u → rowM wd (nRw W) e = S e) (h : ∀ k, k < nRw W → wd1 (81920 + k) = (orN (fun e => wd (2048 * e + k)) u ^^^ (-1)) &&& alM W) : rowM wd1 (nRw W) 40 = gpS W u S := by
  funext w
  by_cases hw : w < 32 * nRw W
  · have hk : w / 32 < nRw W := by omega
    rw [rowM_in hw, show 2048 * 40 + w / 32 = 81920 + w / 32 by omega, h _ hk, bI_and, bI_not _ (Nat.mod_lt _ (by decide)), bI_orN, al_bit hw]
    unfold gpS
    rw [Bool.and_comm]
    congr 2
    refine Bool.eq_iff_iff.mpr (anB_iff.trans (Iff.trans ?_ anB_iff.symm))
    constructor
    · rintro ⟨i, hi, q⟩; exact ⟨i, hi, by rw [← hr i hi, rowM_in hw]; exact q⟩
    · rintro ⟨i, hi, q⟩; exact ⟨i, hi, by rw [← hr i hi, rowM_in hw] at q; exact q⟩
  · rw [gp_z w (Nat.le_trans nRw_W (by omega))]
    unfold rowM
    rw [decide_eq_false hw, Bool.false_and]
theorem rowM_same {wd wd1 : Nat → Int32} {n e : Nat} (hn : n ≤ 2048) (h : ∀ k, k < n → wd1 (2048 * e + k) = wd (2048 * e + k)) : rowM wd1 n e = rowM wd n e := by
  funext w
  unfold rowM
  by_cases hw : w < 32 * n
  · rw [h _ (by omega)]
  · rw [decide_eq_false hw, Bool.false_and, Bool.false_and]
