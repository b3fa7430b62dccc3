/-! the class's fields and what they stand for -/
def CP (W u : Nat) (S : Nat → Nat → Bool) (ed0 : Nat → Nat → Nat) (ln : Nat → Nat) (rf : Nat → Nat → Int64) (sc : Nat → Nat → Int32) (uk : Bool) (ul : Nat) (uf : Nat → Int64) (ed : Nat → Nat → Nat) : Prop :=
  (∀ i, i < 40 → ln i = 0 ∨ ln i = nCh W) ∧ (∀ i, i < u → ln i = nCh W ∧ rowS (rf i) (nCh W) = S i) ∧ (∀ a, a < u → ∀ b, b < u → sc a b = nI (cm W S a b)) ∧ (ul = 0 ∨ ul = nCh W) ∧ (uk = true → ul = nCh W ∧ rowS uf (nCh W) = gpS W u S) ∧ ∀ i, i < u → ∀ j, ed j i = ed0 j i
def CInv (tc : Nat → ClassId) (μ : sx_M) (x W u : Nat) (S : Nat → Nat → Bool) (ed0 : Nat → Nat → Nat) : Prop :=
  AW W u S ed0 ∧ ∃ ad ro ur ln rf sc uk ul uf sf ed, ad 0 0 = x ∧ CS tc μ ad ro ur W u ln rf sc uk ul uf sf ed ∧ CP W u S ed0 ln rf sc uk ul uf ed
theorem CInv_of {tc : Nat → ClassId} {μ : sx_M} {W u : Nat} {S : Nat → Nat → Bool} {ed0 : Nat → Nat → Nat} {ad ro ur ln rf sc uk ul uf sf ed} (hA : AW W u S ed0) (hS : CS tc μ ad ro ur W u ln rf sc uk ul uf sf ed) (hP : CP W u S ed0 ln rf sc uk ul uf ed) : CInv tc μ (ad 0 0) W u S ed0 := ⟨hA, ad, ro, ur, ln, rf, sc, uk, ul, uf, sf, ed, rfl, hS, hP⟩
section CPS
variable {W u : Nat} {S : Nat → Nat → Bool} {ed0 : Nat → Nat → Nat} {ln : Nat → Nat} {rf : Nat → Nat → Int64} {sc : Nat → Nat → Int32} {uk : Bool} {ul : Nat} {uf : Nat → Int64} {ed : Nat → Nat → Nat}
theorem cp_ls (hA : AW W u S ed0) (hP : CP W u S ed0 ln rf sc uk ul uf ed) {a b : Nat} (ha : a < u) (hb : b < u) : decide (sc a b = sc a a) = lsB W S a b := by
  rw [hP.2.2.1 a ha b hb, hP.2.2.1 a ha a ha]
  exact ab_lsB hA.1.2
theorem ab_0 {n : Nat} (h : n < 2 ^ 31) : 0 < nI n ↔ 0 < n := by
  rw [Int32.lt_iff_toInt_lt, nI_toInt h, Int32.toInt_zero]
  omega
theorem cp_pos (hA : AW W u S ed0) (hP : CP W u S ed0 ln rf sc uk ul uf ed) {a b : Nat} (ha : a < u) (hb : b < u) : 0 < sc a b ↔ 0 < cm W S a b := by
  rw [hP.2.2.1 a ha b hb]
  have := cm_lt hA.1.2 S a b
  exact ab_0 (by omega)
end CPS
theorem vu_2 {α : Type} (f : Nat → Nat → α) (i j : Nat) (x : α) (a b : Nat) : va_up f i (va_up (f i) j x) a b = if a = i ∧ b = j then x else f a b := by
  by_cases h : a = i
  · subst h
    rw [va_up_s]
    by_cases h2 : b = j
    · subst h2; rw [va_up_s, if_pos ⟨rfl, rfl⟩]
    · rw [va_up_o _ _ h2, if_neg (fun z => h2 z.2)]
  · rw [va_up_o _ _ h, if_neg (fun z => h z.1)]
/-- the words that a number names: those of an encoding, or those of none -/
def selT (W u : Nat) (S : Nat → Nat → Bool) (x : Int32) (T : Nat → Bool) : Prop := (x = -1 ∧ T = gpS W u S) ∨ ∃ j, j < u ∧ x = nI j ∧ T = S j
/-- the lowest word of two -/
def lwP (S : Nat → Nat → Bool) (a b w : Nat) : Prop := S a w = true ∧ S b w = true ∧ ∀ v, v < w → ¬ (S a v = true ∧ S b v = true)
theorem wm_row {f : Nat → Int64} {n w : Nat} (h : w < 64 * n) : rowS f n w = wm f w := by unfold rowS; rw [decide_eq_true h, Bool.true_and]
theorem gp_z {W u : Nat} {S : Nat → Nat → Bool} : ∀ w, 2 ^ W ≤ w → gpS W u S w = false := fun w h => by unfold gpS; rw [decide_eq_false (by omega), Bool.false_and]
theorem sel_z {W u : Nat} {S : Nat → Nat → Bool} {ed0 : Nat → Nat → Nat} {x : Int32} {T : Nat → Bool} (hA : AW W u S ed0) (h : selT W u S x T) : ∀ w, 2 ^ W ≤ w → T w = false := by
  rcases h with ⟨-, rfl⟩ | ⟨j, hj, -, rfl⟩
  · exact gp_z
  · exact hA.2.2.1 j hj
/-- no fixed bits: all words -/
theorem fx_all {W c k : Nat} (hc : c < nCh W) (hk : k < 64) : fxB W 0 0 c k = decide (64 * c + k < 2 ^ W) := by
  unfold fxB
  rw [Nat.zero_mod, Nat.zero_div, Nat.and_zero, Nat.and_zero, decide_eq_true (rfl : (0 : Nat) = 0), Bool.and_true, Bool.and_true]
  rcases Nat.lt_or_ge W 6 with h | h
  · have e1 : nCh W = 1 := by unfold nCh; rw [show W - 6 = 0 by omega]
    rw [show min 6 W = W by omega, show 64 * c + k = k by omega]
  · have e1 := nCh_64 (W := W)
    rw [show max W 6 = W by omega] at e1
    rw [show min 6 W = 6 by omega, decide_eq_true (show k < 2 ^ 6 from hk), decide_eq_true (show 64 * c + k < 2 ^ W by omega)]
theorem gp_row {W u : Nat} {S : Nat → Nat → Bool} {f : Nat → Int64} (h : ∀ c, c < nCh W → ∀ k, k < 64 → bL (f c) k = (fxB W 0 0 c k && !anB (fun j => S j (64 * c + k)) u)) : rowS f (nCh W) = gpS W u S := by
  funext w
  by_cases hw : w < 64 * nCh W
  · have hc : w / 64 < nCh W := by omega
    have hk : w % 64 < 64 := Nat.mod_lt _ (by decide)
    rw [show w = 64 * (w / 64) + w % 64 by omega, rowS_at hc hk, h _ hc _ hk, fx_all hc hk]
    rfl
  · rw [gp_z w (Nat.le_trans nCh_W (by omega))]
    unfold rowS
    rw [decide_eq_false hw, Bool.false_and]
theorem to_step {W i n k : Nat} {S : Nat → Nat → Bool} {f g : Nat → Int64} (hk : k = nCh W) (hg : rowS g (nCh W) = S i) (hn : nCh W ≤ n) (h : ∀ c, c < nCh W → ∀ q, q < 64 → bL (f c) q = (fxB W 0 0 c q && !anB (fun j => S j (64 * c + q)) i)) : ∀ c, c < nCh W → ∀ q, q < 64 → bL (ws_out f g k n c) q = (fxB W 0 0 c q && !anB (fun j => S j (64 * c + q)) (i + 1)) := by
  intro c hc q hq
  have e1 : ws_out f g k n c = f c &&& (g c ^^^ (-1)) := if_pos ⟨by omega, by omega⟩
  rw [e1, bL_and, bL_not _ hq, h c hc q hq, ← rowS_at hc hq, hg, show anB (fun j => S j (64 * c + q)) (i + 1) = (anB (fun j => S j (64 * c + q)) i || S i (64 * c + q)) from rfl]
  cases fxB W 0 0 c q <;> cases anB (fun j => S j (64 * c + q)) i <;> cases S i (64 * c + q) <;> rfl
theorem wc_step {W i j u : Nat} {S : Nat → Nat → Bool} {sc : Nat → Nat → Int32} {X : Int32} (hX : X = nI (cm W S i j)) (h : ∀ a, a < u → ∀ b, b < u → ((a ≠ i ∧ b ≠ i) ∨ (a = i ∧ b < j) ∨ (b = i ∧ a < j)) → sc a b = nI (cm W S a b)) : ∀ a, a < u → ∀ b, b < u → ((a ≠ i ∧ b ≠ i) ∨ (a = i ∧ b < j + 1) ∨ (b = i ∧ a < j + 1)) → va_up (va_up sc i (va_up (sc i) j X)) j (va_up (va_up sc i (va_up (sc i) j X) j) i X) a b = nI (cm W S a b) := by
  intro a ha b hb hc
  rw [vu_2]
  by_cases e1 : a = j ∧ b = i
  · rw [if_pos e1, hX, e1.1, e1.2, cm_comm]
  · rw [if_neg e1, vu_2]
    by_cases e2 : a = i ∧ b = j
    · rw [if_pos e2, hX, e2.1, e2.2]
    · rw [if_neg e2]
      exact h a ha b hb (by omega)
