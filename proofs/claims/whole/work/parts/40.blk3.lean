/-! the blocks, one after the other -/
theorem go_div {a q : Nat} (hq : 0 < q) (h : (a + 1) % q ≠ 0) : a / q = (a + 1) / q := by
  have e := Nat.mod_add_div (a + 1) q
  have hl := Nat.mod_lt (a + 1) hq
  have e2 : a = q * ((a + 1) / q) + ((a + 1) % q - 1) := by omega
  generalize (a + 1) / q = z at e e2 ⊢
  rw [e2, Nat.mul_add_div hq, Nat.div_eq_of_lt (by omega), Nat.add_zero]
section GO
variable {T : Nat → Bool} {V w f : Nat}
theorem go_no (hT : T w = false) (h : bk_bd T V w) : bk_bd T V (w + 1) ∧ pu_c (bkS T V) (w + 1) = pu_c (bkS T V) w := by
  refine ⟨fun m hm hf => Classical.byContradiction fun hn => ?_, pr_b0 (bkS_ff (fun hs => by rw [hs.1] at hT; cases hT))⟩
  have hs := bk_full_self ((bk_full_same (go_div (Nat.two_pow_pos m) hn)).mpr hf)
  rw [hs] at hT
  cases hT
theorem go_yes (hT : T w = true) (h : bk_bd T V w) : bkS T V w = true := bkS_iff.mpr ⟨hT, h⟩
theorem go_at {a m : Nat} (hm : f ≤ m) : (2 ^ f * a) / 2 ^ m = a / 2 ^ (m - f) ∧ (2 ^ f * a) % 2 ^ m = 2 ^ f * (a % 2 ^ (m - f)) := by
  have e : 2 ^ m = 2 ^ f * 2 ^ (m - f) := by rw [← Nat.pow_add]; congr 1; omega
  rw [e]
  exact ⟨Nat.mul_div_mul_left _ _ (Nat.two_pow_pos f), Nat.mul_mod_mul_left _ _ _⟩
theorem go_next (hT : T w = true) (h : bk_bd T V w) (hl : bk_lev T V w f) (hw : w % 2 ^ f = 0) : bk_bd T V (w + 2 ^ f) ∧ pu_c (bkS T V) (w + 2 ^ f) = pu_c (bkS T V) w + 1 := by
  have hpf := Nat.two_pow_pos f
  obtain ⟨a, rfl⟩ := Nat.dvd_of_mod_eq_zero hw
  constructor
  · intro m hm hf
    rcases Nat.lt_or_ge f m with z | z
    · refine Classical.byContradiction fun hn => ?_
      have e0 : 2 ^ f * a + 2 ^ f = 2 ^ f * (a + 1) := (Nat.mul_succ _ _).symm
      rw [e0] at hn hf
      have e1 := go_at (f := f) (a := a) (m := m) (by omega)
      have e2 := go_at (f := f) (a := a + 1) (m := m) (by omega)
      rw [e2.2] at hn
      have e3 : (a + 1) % 2 ^ (m - f) ≠ 0 := fun q => hn (by rw [q, Nat.mul_zero])
      have hf2 : bk_full T m (2 ^ f * a) := (bk_full_same (by rw [e1.1, e2.1]; exact go_div (Nat.two_pow_pos _) e3)).mpr hf
      rcases hl.2.2 with q | q
      · omega
      · refine q (bk_full_le (m - (f + 1)) ?_)
        rw [show f + 1 + (m - (f + 1)) = m by omega]
        exact hf2
    · obtain ⟨d, rfl⟩ : ∃ d, f = m + d := ⟨f - m, by omega⟩
      rw [Nat.pow_add, Nat.mul_assoc, ← Nat.mul_add]
      exact Nat.mul_mod_right _ _
  · rw [pu_c_add]
    congr 1
    rw [pu_trim (n := 1) hpf (fun t h1 h2 => bkS_ff (fun hs => ?_))]
    · show 0 + (if bkS T V (2 ^ f * a + 0) = true then 1 else 0) = 1
      rw [Nat.add_zero, if_pos (go_yes hT h)]
    · have e1 : (2 ^ f * a + t) / 2 ^ f = (2 ^ f * a) / 2 ^ f := by
        rw [Nat.mul_add_div hpf, Nat.div_eq_of_lt h2, Nat.add_zero, Nat.mul_div_cancel_left _ hpf]
      have := hs.2 f hl.1 ((bk_full_same e1).mpr hl.2.1)
      rw [Nat.mul_add_mod, Nat.mod_eq_of_lt h2] at this
      omega
theorem go_lev {W : Nat} (hV : V = max W 6) (h : bk_bd T V w) (hf : f ≤ W) (hw : w % 2 ^ f = 0) (hT : ∀ t, t < 2 ^ f → T (w + t) = true) (hz : ∀ v, 2 ^ W ≤ v → T v = false) (hs : f = W ∨ ¬ (w % 2 ^ (f + 1) = 0 ∧ ∀ t, t < 2 ^ f → T (w + 2 ^ f + t) = true)) : bk_lev T V w f := by
  have hp : 2 ^ (f + 1) = 2 * 2 ^ f := by rw [Nat.pow_succ, Nat.mul_comm]
  refine ⟨by omega, (bk_full_at hw).mpr hT, ?_⟩
  by_cases z : f = V
  · exact Or.inl z
  · refine Or.inr fun hfull => ?_
    have h1 := h (f + 1) (by omega) hfull
    have h2 := (bk_full_at h1).mp hfull
    rcases hs with q | q
    · have h3 := h2 (2 ^ f) (by have := Nat.two_pow_pos f; omega)
      rw [hz _ (by rw [q]; omega)] at h3
      cases h3
    · exact q ⟨h1, fun t ht => by rw [Nat.add_assoc]; exact h2 _ (by omega)⟩
theorem go_in {W : Nat} (hz : ∀ v, 2 ^ W ≤ v → T v = false) (hT : ∀ t, t < 2 ^ f → T (w + t) = true) : w + 2 ^ f ≤ 2 ^ W := by
  refine Classical.byContradiction fun hn => ?_
  have hp := Nat.two_pow_pos f
  have := hT (2 ^ f - 1) (by omega)
  rw [hz _ (by omega)] at this
  cases this
theorem go_end {W : Nat} (hz : ∀ v, 2 ^ W ≤ v → T v = false) : pu_c (bkS T V) (64 * nCh W) = pu_c (bkS T V) (2 ^ W) :=
  pu_trim nCh_W (fun i h1 _ => bkS_ff (fun hs => by have := hs.1; rw [hz i h1] at this; cases this))
theorem lev_un {q q' : Nat} (h : bk_lev T V w q) (h' : bk_lev T V w q') : q = q' := by
  have key : ∀ {a b : Nat}, bk_lev T V w a → bk_lev T V w b → a < b → False := fun {a b} ha hb hab => by
    rcases ha.2.2 with z | z
    · have := hb.1; omega
    · refine z (bk_full_le (b - (a + 1)) ?_)
      rw [show a + 1 + (b - (a + 1)) = b by omega]
      exact hb.2.1
  rcases Nat.lt_trichotomy q q' with z | z | z
  · exact absurd (key h h' z) id
  · exact z
  · exact absurd (key h' h z) id
theorem go_fit {W : Nat} (hf : f < W) (hw : w < 2 ^ W) (h : w % 2 ^ (f + 1) = 0) : w + 2 ^ f + 2 ^ f ≤ 2 ^ W := by
  have hp : 2 ^ (f + 1) = 2 * 2 ^ f := by rw [Nat.pow_succ, Nat.mul_comm]
  obtain ⟨a, rfl⟩ := Nat.dvd_of_mod_eq_zero h
  have e : 2 ^ W = 2 ^ (f + 1) * 2 ^ (W - (f + 1)) := by rw [← Nat.pow_add]; congr 1; omega
  have h1 : a < 2 ^ (W - (f + 1)) := by
    rw [e] at hw
    exact Nat.lt_of_mul_lt_mul_left hw
  have h2 : 2 ^ (f + 1) * (a + 1) ≤ 2 ^ W := by rw [e]; exact Nat.mul_le_mul_left _ h1
  rw [Nat.mul_succ] at h2
  omega
end GO
/-- what the last scan noted -/
def goP (T : Nat → Bool) (V : Nat) (x : Int32) (N : Nat) (lst sb : Int32) : Prop := ∀ j w, x = nI j → j < 2 ^ 31 → w < N → bkS T V w = true → pu_c (bkS T V) w = j → lst = nI w ∧ ∃ q, sb = nI q ∧ bk_lev T V w q
theorem goP_no {T : Nat → Bool} {V w : Nat} {x lst sb : Int32} (hT : T w = false) (h : goP T V x w lst sb) : goP T V x (w + 1) lst sb := fun j v h1 h1b h2 h3 h4 => by
  by_cases z : v = w
  · rw [z] at h3
    have := (bkS_iff.mp h3).1
    rw [hT] at this
    cases this
  · exact h j v h1 h1b (by omega) h3 h4
theorem goP_y {T : Nat → Bool} {V w f : Nat} {x lst sb : Int32} (hw : w ≤ 65536) (hb : bkS T V w = true) (hl : bk_lev T V w f) (hN : pu_c (bkS T V) (w + 2 ^ f) = pu_c (bkS T V) w + 1) (h : goP T V x w lst sb) : goP T V x (w + 2 ^ f) (if nI (pu_c (bkS T V) w) = x then nI w else lst) (if nI (pu_c (bkS T V) w) = x then nI f else sb) := fun j v h1 h1b h2 h3 h4 => by
  have hc := pu_c_le (bkS T V) w
  rcases Nat.lt_trichotomy v w with z | z | z
  · have h5 := pu_lt z h3
    have hne : ¬ nI (pu_c (bkS T V) w) = x := fun e => by
      have := (ab_nI (by omega) h1b).mp (e.trans h1)
      omega
    rw [if_neg hne, if_neg hne]
    exact h j v h1 h1b z h3 h4
  · subst z
    rw [if_pos (by rw [h4, h1]), if_pos (by rw [h4, h1])]
    exact ⟨rfl, f, rfl, hl⟩
  · have h5 := pu_lt h2 h3
    have h6 := pu_mono (P := bkS T V) (show w + 1 ≤ v from z)
    rw [pr_b1 hb] at h6
    omega
theorem m_shl2 : ∀ k, k < 16 → jshl 2 (nI k) = nI (2 ^ (k + 1)) := by decide +kernel
theorem wh_s {T : Nat → Bool} {a t : Nat} (h : (!anB (fun t => !T (a + t)) t) = true) : (!anB (fun t => !T (a + t)) (t + 1)) = T (a + t) := by
  rw [an_s, Bool.not_or, h, Bool.true_and, Bool.not_not]
theorem wh_x {q : Nat → Bool} {t n : Nat} (hn : t ≤ n) (h : (!anB q t) = false) : (!anB q n) = false := by
  rw [an_mono hn (by simpa using h)]; rfl
theorem wh_iff {T : Nat → Bool} {a n : Nat} : (!anB (fun t => !T (a + t)) n) = true ↔ ∀ t, t < n → T (a + t) = true := by
  rw [Bool.not_eq_true', anB_ff]
  constructor
  · intro h t ht
    have := h t ht
    simpa using this
  · intro h t ht
    rw [h t ht]; rfl
