/-! what the answers are, from the sets of words -/
def cm (W : Nat) (S : Nat → Nat → Bool) (a b : Nat) : Nat := pu_c (fun w => S a w && S b w) (2 ^ W)
def lsB (W : Nat) (S : Nat → Nat → Bool) (a b : Nat) : Bool := decide (cm W S a b = cm W S a a)
def anB (p : Nat → Bool) : Nat → Bool
  | 0 => false
  | n + 1 => anB p n || p n
theorem anB_iff {p : Nat → Bool} : ∀ {n : Nat}, anB p n = true ↔ ∃ i, i < n ∧ p i = true
  | 0 => ⟨fun h => (by cases h), fun ⟨i, h, _⟩ => absurd h (Nat.not_lt_zero _)⟩
  | n + 1 => by
    rw [anB, Bool.or_eq_true, anB_iff (n := n)]
    constructor
    · rintro (⟨i, h1, h2⟩ | h)
      · exact ⟨i, by omega, h2⟩
      · exact ⟨n, by omega, h⟩
    · rintro ⟨i, h1, h2⟩
      by_cases e : i = n
      · subst e; exact Or.inr h2
      · exact Or.inl ⟨i, by omega, h2⟩
theorem anB_ff {p : Nat → Bool} {n : Nat} : anB p n = false ↔ ∀ i, i < n → p i = false := by
  constructor
  · intro h i hi
    cases hp : p i
    · rfl
    · rw [anB_iff.mpr ⟨i, hi, hp⟩] at h; cases h
  · intro h
    cases hp : anB p n
    · rfl
    · obtain ⟨i, h1, h2⟩ := anB_iff.mp hp
      rw [h i h1] at h2; cases h2
/-- the words that no encoding has -/
def gpS (W u : Nat) (S : Nat → Nat → Bool) : Nat → Bool := fun w => decide (w < 2 ^ W) && !(anB (fun i => S i w) u)
/-- the sets and fields are of their sizes -/
def AW (W u : Nat) (S : Nat → Nat → Bool) (ed : Nat → Nat → Nat) : Prop := (1 ≤ W ∧ W ≤ 16) ∧ u ≤ 40 ∧ (∀ i, i < u → ∀ w, 2 ^ W ≤ w → S i w = false) ∧ ∀ i, i < u → ed 0 i < 2 ^ W ∧ ed 1 i < 2 ^ W ∧ ed 2 i < 2 ^ W ∧ ed 3 i ≤ 4 ∧ ed 4 i < 256
theorem pu_trim {p : Nat → Bool} {n : Nat} : ∀ {m : Nat}, n ≤ m → (∀ i, n ≤ i → i < m → p i = false) → pu_c p m = pu_c p n
  | 0, h, _ => by rw [show n = 0 by omega]
  | m + 1, h, hp => by
    by_cases e : n = m + 1
    · rw [e]
    · rw [show pu_c p (m + 1) = pu_c p m + (if p m = true then 1 else 0) from rfl, pu_trim (m := m) (by omega) (fun i h1 h2 => hp i h1 (by omega)), hp m (by omega) (by omega)]
      rfl
theorem nCh_64 {W : Nat} : 64 * nCh W = 2 ^ max W 6 := by
  unfold nCh
  rw [show 64 = 2 ^ 6 from rfl, ← Nat.pow_add]
  congr 1
  omega
theorem nCh_W {W : Nat} : 2 ^ W ≤ 64 * nCh W := by
  rw [nCh_64]
  exact Nat.pow_le_pow_right (by decide) (by omega)
theorem sm_rows (f g : Nat → Int64) {n : Nat} : ∀ {m : Nat}, m ≤ n → smN (fun c => pop64 (f c &&& g c)) m = pu_c (fun w => rowS f n w && rowS g n w) (64 * m)
  | 0, _ => rfl
  | m + 1, h => by
    have ih := sm_rows f g (n := n) (m := m) (by omega)
    have e2 : pop64 (f m &&& g m) = pu_c (fun i => rowS f n (64 * m + i) && rowS g n (64 * m + i)) 64 := pu_c_congr 64 (fun i hi => by rw [bL_and, rowS_at (by omega) hi, rowS_at (by omega) hi])
    show smN (fun c => pop64 (f c &&& g c)) m + pop64 (f m &&& g m) = _
    rw [ih, e2, Nat.mul_succ, pu_c_add]
theorem cm_rows {W : Nat} {S : Nat → Nat → Bool} {f g : Nat → Int64} {a b : Nat} (hf : rowS f (nCh W) = S a) (hg : rowS g (nCh W) = S b) (hz : ∀ w, 2 ^ W ≤ w → S a w = false) : smN (fun c => pop64 (f c &&& g c)) (nCh W) = cm W S a b := by
  rw [sm_rows f g (Nat.le_refl _), hf, hg]
  exact pu_trim nCh_W (fun i h1 _ => by rw [hz i h1, Bool.false_and])
theorem cm_le (W : Nat) (S : Nat → Nat → Bool) (a b : Nat) : cm W S a b ≤ 2 ^ W := pu_c_le _ _
theorem cm_lt {W : Nat} (hW : W ≤ 16) (S : Nat → Nat → Bool) (a b : Nat) : cm W S a b < 2 ^ 20 :=
  Nat.lt_of_le_of_lt (cm_le W S a b) (Nat.lt_of_le_of_lt (Nat.pow_le_pow_right (by decide) hW) (by decide))
theorem cm_comm (W : Nat) (S : Nat → Nat → Bool) (a b : Nat) : cm W S a b = cm W S b a := pu_c_congr _ (fun i _ => Bool.and_comm _ _)
theorem ab_nI {a b : Nat} (ha : a < 2 ^ 31) (hb : b < 2 ^ 31) : nI a = nI b ↔ a = b := by
  constructor
  · intro h
    have h1 := nI_toInt (n := a) ha
    have h2 := nI_toInt (n := b) hb
    rw [h] at h1
    omega
  · intro h; rw [h]
theorem ab_lsB {W : Nat} (hW : W ≤ 16) {S : Nat → Nat → Bool} {a b : Nat} : decide (nI (cm W S a b) = nI (cm W S a a)) = lsB W S a b := by
  unfold lsB
  have h1 := cm_lt hW S a b
  have h2 := cm_lt hW S a a
  rw [decide_eq_decide]
  exact ab_nI (by omega) (by omega)
theorem rowS_ok {W : Nat} {f : Nat → Int64} {T : Nat → Bool} (h : rowS f (nCh W) = T) (hz : ∀ w, 2 ^ W ≤ w → T w = false) : wsOk f W := fun w hw => by rw [h]; exact hz w hw
theorem ab_ix {x : Int32} {n : Nat} (hn : n < 2 ^ 31) (h0 : ¬ x < 0) (h1 : x < nI n) : ∃ j, j < n ∧ x = nI j := by
  have e0 : 0 ≤ x.toInt := by
    rw [Int32.lt_iff_toInt_lt] at h0
    have : (0 : Int32).toInt = 0 := rfl
    omega
  have e1 := h1
  rw [Int32.lt_iff_toInt_lt, nI_toInt hn] at e1
  refine ⟨x.toInt.toNat, by omega, Int32.toInt_inj.mp ?_⟩
  rw [nI_toInt (by omega)]
  omega
theorem ab_in {n j : Nat} (hn : n < 2 ^ 31) (hj : j < n) : ¬ nI j < 0 ∧ nI j < nI n := by
  constructor
  · rw [Int32.lt_iff_toInt_lt, nI_toInt (by omega)]
    have : (0 : Int32).toInt = 0 := rfl
    omega
  · rw [Int32.lt_iff_toInt_lt, nI_toInt (by omega), nI_toInt hn]
    omega
