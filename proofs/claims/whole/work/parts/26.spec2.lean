/-! pairs in their order -/
def prT (M : Nat → Nat → Bool) (u a : Nat) : Nat := smN (fun i => pu_c (M i) u) a
def prN (M : Nat → Nat → Bool) (u a b : Nat) : Nat := prT M u a + pu_c (M a) b
theorem pr_s (M : Nat → Nat → Bool) (u a : Nat) : prT M u (a + 1) = prT M u a + pu_c (M a) u := rfl
theorem pr_0 {P : Nat → Bool} {a : Nat} : pu_c (fun b => decide (a < b) && P b) (a + 1) = 0 := by
  rw [pu_trim (n := 0) (Nat.zero_le _) (fun i _ hi => by rw [decide_eq_false (by omega), Bool.false_and])]
  rfl
theorem pr_b1 {p : Nat → Bool} {b : Nat} (h : p b = true) : pu_c p (b + 1) = pu_c p b + 1 := by
  show pu_c p b + (if p b = true then 1 else 0) = _
  rw [if_pos h]
theorem pr_b0 {p : Nat → Bool} {b : Nat} (h : p b = false) : pu_c p (b + 1) = pu_c p b := by
  show pu_c p b + (if p b = true then 1 else 0) = _
  rw [if_neg (by rw [h]; decide)]
  rfl
theorem prT_le (M : Nat → Nat → Bool) (u : Nat) : ∀ a, prT M u a ≤ u * a
  | 0 => Nat.le_refl _
  | a + 1 => by
    have h1 := prT_le M u a
    have h2 := pu_c_le (M a) u
    rw [pr_s, Nat.mul_succ]
    omega
theorem prT_mono (M : Nat → Nat → Bool) (u a : Nat) : ∀ d, prT M u a ≤ prT M u (a + d)
  | 0 => Nat.le_refl _
  | d + 1 => by
    have := prT_mono M u a d
    rw [← Nat.add_assoc, pr_s]
    omega
theorem pr_lt {M : Nat → Nat → Bool} {u a b a' b' : Nat} (hb : b < u) (h : M a b = true) (hlt : a < a' ∨ (a = a' ∧ b < b')) : prN M u a b < prN M u a' b' := by
  unfold prN
  rcases hlt with h1 | ⟨rfl, h1⟩
  · obtain ⟨d, rfl⟩ : ∃ d, a' = a + 1 + d := ⟨a' - (a + 1), by omega⟩
    have h2 := prT_mono M u (a + 1) d
    rw [pr_s] at h2
    have h3 := pu_lt hb h
    omega
  · have := pu_lt h1 h
    omega
def mt (W : Nat) (S : Nat → Nat → Bool) (a b : Nat) : Bool := decide (a < b) && decide (0 < cm W S a b)
/-- the k-th pair that has a word in common -/
def isPr (W u : Nat) (S : Nat → Nat → Bool) (k a b : Nat) : Prop := b < u ∧ mt W S a b = true ∧ prN (mt W S) u a b = k
theorem mt_iff {W : Nat} {S : Nat → Nat → Bool} {a b : Nat} : mt W S a b = true ↔ a < b ∧ 0 < cm W S a b := by
  unfold mt
  rw [Bool.and_eq_true, decide_eq_true_eq, decide_eq_true_eq]
theorem pr_un {W u : Nat} {S : Nat → Nat → Bool} {k a b a' b' : Nat} (h : isPr W u S k a b) (h' : isPr W u S k a' b') : a = a' ∧ b = b' := by
  rcases Nat.lt_trichotomy a a' with z | z | z
  · have := pr_lt (a' := a') (b' := b') h.1 h.2.1 (Or.inl z)
    rw [h.2.2, h'.2.2] at this
    omega
  · subst z
    rcases Nat.lt_trichotomy b b' with y | y | y
    · have := pr_lt (a' := a) (b' := b') h.1 h.2.1 (Or.inr ⟨rfl, y⟩)
      rw [h.2.2, h'.2.2] at this
      omega
    · exact ⟨rfl, y⟩
    · have := pr_lt (a' := a) (b' := b) h'.1 h'.2.1 (Or.inr ⟨rfl, y⟩)
      rw [h.2.2, h'.2.2] at this
      omega
  · have := pr_lt (a' := a) (b' := b) h'.1 h'.2.1 (Or.inl z)
    rw [h.2.2, h'.2.2] at this
    omega
theorem pr_end {W u : Nat} {S : Nat → Nat → Bool} {k a b : Nat} (h : isPr W u S k a b) : k < prT (mt W S) u u := by
  have h0 := mt_iff.mp h.2.1
  have := pr_lt (a' := u) (b' := 0) h.1 h.2.1 (Or.inl (by have := h.1; omega))
  rw [h.2.2] at this
  exact this
/-! clashes -/
def clB (W : Nat) (S : Nat → Nat → Bool) (a b : Nat) : Bool := decide (0 < cm W S a b) && !lsB W S a b && !lsB W S b a
def ndB (ed : Nat → Nat → Nat) (v : Int32) (a : Nat) : Bool := decide ((nI (ed 4 a) &&& (v ^^^ (-1))) = 0)
def clM (W : Nat) (S : Nat → Nat → Bool) (ed : Nat → Nat → Nat) (v : Int32) (a b : Nat) : Bool := decide (a < b) && (ndB ed v a && ndB ed v b && clB W S a b)
def clN (W u : Nat) (S : Nat → Nat → Bool) (ed : Nat → Nat → Nat) (v : Int32) : Nat := prT (clM W S ed v) u u
theorem bI_0 (i : Nat) : bI 0 i = false := by
  rw [show (0 : Int32) = nI 0 from rfl, bI_nI, Nat.zero_testBit, Bool.and_false]
theorem bI_zero_iff {x : Int32} : x = 0 ↔ ∀ i, i < 32 → bI x i = false :=
  ⟨fun h i _ => by rw [h]; exact bI_0 i, fun h => bI_ext fun i hi => by rw [h i hi, bI_0]⟩
theorem nd_or {x y z : Int32} : ((x ||| y) &&& z) = 0 ↔ (x &&& z) = 0 ∧ (y &&& z) = 0 := by
  rw [bI_zero_iff, bI_zero_iff, bI_zero_iff]
  constructor
  · intro h
    constructor <;> intro i hi <;> have := h i hi <;> rw [bI_and, bI_or] at this <;> rw [bI_and] <;> revert this <;> cases bI x i <;> cases bI y i <;> cases bI z i <;> simp
  · rintro ⟨h1, h2⟩ i hi
    have a1 := h1 i hi
    have a2 := h2 i hi
    rw [bI_and] at a1 a2
    rw [bI_and, bI_or]
    revert a1 a2
    cases bI x i <;> cases bI y i <;> cases bI z i <;> simp
theorem nd_both {ed : Nat → Nat → Nat} {v : Int32} {a b : Nat} : decide (((nI (ed 4 a) ||| nI (ed 4 b)) &&& (v ^^^ (-1))) = 0) = (ndB ed v a && ndB ed v b) := by
  unfold ndB
  rw [← Bool.decide_and, decide_eq_decide]
  exact nd_or
/-! the tallies -/
def zP (j s n : Nat) : Prop := ∀ i, (i < j → n.testBit i = true → s.testBit i = true) ∧ (j ≤ i → n.testBit i = s.testBit i)
noncomputable def zB (j s n : Nat) : Bool := @decide (zP j s n) (Classical.propDecidable _)
theorem zB_iff {j s n : Nat} : zB j s n = true ↔ zP j s n := by
  unfold zB
  exact @decide_eq_true_iff _ (Classical.propDecidable _)
theorem zP_0 {s n : Nat} : zP 0 s n ↔ n = s := by
  constructor
  · intro h
    exact Nat.eq_of_testBit_eq fun i => (h i).2 (Nat.zero_le _)
  · rintro rfl i
    exact ⟨fun z => absurd z (Nat.not_lt_zero _), fun _ => rfl⟩
theorem zP_no {j s n : Nat} (hs : s.testBit j = false) : zP (j + 1) s n ↔ zP j s n := by
  constructor
  · intro h i
    refine ⟨fun hi => (h i).1 (by omega), fun hi => ?_⟩
    by_cases e : i = j
    · subst e
      have := (h i).1 (Nat.lt_succ_self _)
      rw [hs] at this ⊢
      cases hn : n.testBit i
      · rfl
      · exact absurd (this hn) (by decide)
    · exact (h i).2 (by omega)
  · intro h i
    refine ⟨fun hi hn => ?_, fun hi => (h i).2 (by omega)⟩
    by_cases e : i = j
    · subst e
      rw [← (h i).2 (Nat.le_refl _)]
      exact hn
    · exact (h i).1 (by omega) hn
theorem zx_bit (s j i : Nat) : (s ^^^ 2 ^ j).testBit i = (s.testBit i ^^ decide (j = i)) := by
  rw [Nat.testBit_xor, Nat.testBit_two_pow]
theorem zP_yes {j s n : Nat} (hs : s.testBit j = true) : zP (j + 1) s n ↔ (zP j s n ∨ zP j (s ^^^ 2 ^ j) n) := by
  constructor
  · intro h
    cases hn : n.testBit j
    · refine Or.inr fun i => ⟨fun hi hb => ?_, fun hi => ?_⟩
      · rw [zx_bit, decide_eq_false (by omega), Bool.xor_false]
        exact (h i).1 (by omega) hb
      · rw [zx_bit]
        by_cases e : j = i
        · subst e; rw [hn, hs, decide_eq_true rfl]; rfl
        · rw [decide_eq_false e, Bool.xor_false]; exact (h i).2 (by omega)
    · refine Or.inl fun i => ⟨fun hi hb => (h i).1 (by omega) hb, fun hi => ?_⟩
      by_cases e : j = i
      · subst e; rw [hn, hs]
      · exact (h i).2 (by omega)
  · rintro (h | h) i
    · refine ⟨fun hi hb => ?_, fun hi => (h i).2 (by omega)⟩
      by_cases e : i = j
      · subst e; exact hs
      · exact (h i).1 (by omega) hb
    · refine ⟨fun hi hb => ?_, fun hi => ?_⟩
      · by_cases e : i = j
        · subst e; exact hs
        · have := (h i).1 (by omega) hb
          rw [zx_bit, decide_eq_false (by omega), Bool.xor_false] at this
          exact this
      · have := (h i).2 (by omega)
        rw [zx_bit, decide_eq_false (by omega), Bool.xor_false] at this
        exact this
theorem zP_dis {j s n : Nat} (h1 : zP j s n) (h2 : zP j (s ^^^ 2 ^ j) n) : False := by
  have a1 := (h1 j).2 (Nat.le_refl _)
  have a2 := (h2 j).2 (Nat.le_refl _)
  rw [zx_bit, decide_eq_true rfl, a1] at a2
  cases s.testBit j <;> simp at a2
/-- clashing pairs by what they need -/
def tlM (W : Nat) (S : Nat → Nat → Bool) (ed : Nat → Nat → Nat) (P : Nat → Bool) (a b : Nat) : Bool := decide (a < b) && (clB W S a b && P (ed 4 a ||| ed 4 b))
theorem pu_add {p q r : Nat → Bool} : ∀ {n : Nat}, (∀ i, i < n → (p i = (q i || r i)) ∧ ¬ (q i = true ∧ r i = true)) → pu_c p n = pu_c q n + pu_c r n
  | 0, _ => rfl
  | n + 1, h => by
    have ih := pu_add (n := n) (fun i hi => h i (by omega))
    obtain ⟨h1, h2⟩ := h n (Nat.lt_succ_self _)
    show pu_c p n + (if p n = true then 1 else 0) = (pu_c q n + (if q n = true then 1 else 0)) + (pu_c r n + (if r n = true then 1 else 0))
    rw [ih, h1]
    revert h2
    cases q n <;> cases r n <;> simp <;> omega
theorem prT_add {p q r : Nat → Nat → Bool} {u : Nat} : ∀ {a : Nat}, (∀ i, i < a → ∀ b, b < u → (p i b = (q i b || r i b)) ∧ ¬ (q i b = true ∧ r i b = true)) → prT p u a = prT q u a + prT r u a
  | 0, _ => rfl
  | a + 1, h => by
    rw [pr_s, pr_s, pr_s, prT_add (a := a) (fun i hi => h i (by omega)), pu_add (h a (Nat.lt_succ_self _))]
    omega
theorem prT_congr {p q : Nat → Nat → Bool} {u : Nat} : ∀ {a : Nat}, (∀ i, i < a → ∀ b, b < u → p i b = q i b) → prT p u a = prT q u a
  | 0, _ => rfl
  | a + 1, h => by rw [pr_s, pr_s, prT_congr (a := a) (fun i hi => h i (by omega)), pu_c_congr u (h a (Nat.lt_succ_self _))]
theorem tl_no {W u j s : Nat} {S : Nat → Nat → Bool} {ed : Nat → Nat → Nat} (hs : s.testBit j = false) : prT (tlM W S ed (zB (j + 1) s)) u u = prT (tlM W S ed (zB j s)) u u := by
  refine prT_congr fun i _ b _ => ?_
  unfold tlM
  rw [show zB (j + 1) s (ed 4 i ||| ed 4 b) = zB j s (ed 4 i ||| ed 4 b) from Bool.eq_iff_iff.mpr (zB_iff.trans ((zP_no hs).trans zB_iff.symm))]
theorem tl_yes {W u j s : Nat} {S : Nat → Nat → Bool} {ed : Nat → Nat → Nat} (hs : s.testBit j = true) : prT (tlM W S ed (zB (j + 1) s)) u u = prT (tlM W S ed (zB j s)) u u + prT (tlM W S ed (zB j (s ^^^ 2 ^ j))) u u := by
  refine prT_add fun i _ b _ => ?_
  unfold tlM
  have e1 : zB (j + 1) s (ed 4 i ||| ed 4 b) = (zB j s (ed 4 i ||| ed 4 b) || zB j (s ^^^ 2 ^ j) (ed 4 i ||| ed 4 b)) := by
    rw [Bool.eq_iff_iff, Bool.or_eq_true, zB_iff, zB_iff, zB_iff]
    exact zP_yes hs
  have e2 : ¬ (zB j s (ed 4 i ||| ed 4 b) = true ∧ zB j (s ^^^ 2 ^ j) (ed 4 i ||| ed 4 b) = true) := fun z => zP_dis (zB_iff.mp z.1) (zB_iff.mp z.2)
  rw [e1]
  revert e2
  cases decide (i < b) <;> cases clB W S i b <;> cases zB j s (ed 4 i ||| ed 4 b) <;> cases zB j (s ^^^ 2 ^ j) (ed 4 i ||| ed 4 b) <;> simp
theorem sub_I {n s : Nat} : (nI n &&& (nI s ^^^ (-1))) = 0 ↔ ∀ i, i < 32 → n.testBit i = true → s.testBit i = true := by
  rw [bI_zero_iff]
  constructor
  · intro h i hi hn
    have := h i hi
    rw [bI_and, bI_not _ hi, bI_nI, bI_nI, decide_eq_true hi, hn] at this
    cases hs : s.testBit i
    · rw [hs] at this; simp at this
    · rfl
  · intro h i hi
    rw [bI_and, bI_not _ hi, bI_nI, bI_nI, decide_eq_true hi]
    cases hn : n.testBit i
    · rfl
    · rw [h i hi hn]; rfl
theorem zP_8 {s n : Nat} (hs : s < 256) (hn : n < 256) : zP 8 s n ↔ (nI n &&& (nI s ^^^ (-1))) = 0 := by
  rw [sub_I]
  have hz : ∀ {m i : Nat}, m < 256 → 8 ≤ i → m.testBit i = false := fun hm hi => Nat.testBit_lt_two_pow (Nat.lt_of_lt_of_le hm (Nat.pow_le_pow_right (n := 2) (by decide) hi))
  constructor
  · intro h i _ hb
    rcases Nat.lt_or_ge i 8 with z | z
    · exact (h i).1 z hb
    · rw [hz hn z] at hb; cases hb
  · intro h i
    exact ⟨fun hi hb => h i (by omega) hb, fun hi => by rw [hz hs hi, hz hn hi]⟩
theorem tl_8 {W u s : Nat} {S : Nat → Nat → Bool} {ed : Nat → Nat → Nat} (hs : s < 256) (he : ∀ i, i < u → ed 4 i < 256) : prT (tlM W S ed (zB 8 s)) u u = clN W u S ed (nI s) := by
  refine prT_congr fun i hi b hb => ?_
  unfold tlM clM
  have h8 : zB 8 s (ed 4 i ||| ed 4 b) = (ndB ed (nI s) i && ndB ed (nI s) b) := by
    rw [← nd_both, jb_orI]
    rw [Bool.eq_iff_iff, zB_iff, decide_eq_true_eq]
    exact zP_8 hs (Nat.or_lt_two_pow (n := 8) (he i hi) (he b hb))
  rw [h8]
  cases decide (i < b) <;> cases clB W S i b <;> cases ndB ed (nI s) i <;> cases ndB ed (nI s) b <;> rfl
/-- the lowest set of variants with the most clashes -/
def wsT (W u : Nat) (S : Nat → Nat → Bool) (ed : Nat → Nat → Nat) (t : Nat) : Prop := t < 256 ∧ (∀ s, s < 256 → clN W u S ed (nI s) ≤ clN W u S ed (nI t)) ∧ ∀ s, s < t → clN W u S ed (nI s) < clN W u S ed (nI t)
theorem ws_un {W u : Nat} {S : Nat → Nat → Bool} {ed : Nat → Nat → Nat} {t t' : Nat} (h : wsT W u S ed t) (h' : wsT W u S ed t') : t = t' := by
  rcases Nat.lt_trichotomy t t' with z | z | z
  · have h1 := h'.2.2 t z
    have h2 := h.2.1 t' h'.1
    omega
  · exact z
  · have h1 := h.2.2 t' z
    have h2 := h'.2.1 t h.1
    omega
theorem cl_le {W u : Nat} {S : Nat → Nat → Bool} {ed : Nat → Nat → Nat} {v : Int32} (hu : u ≤ 40) : clN W u S ed v ≤ 1600 :=
  Nat.le_trans (prT_le _ u u) (Nat.le_trans (Nat.mul_le_mul hu hu) (by decide))
/-! decode -/
def dcB (W u : Nat) (S : Nat → Nat → Bool) (w i : Nat) : Prop := S i w = true ∧ ∀ j, j < u → S j w = true → lsB W S i j = true
def dcP (W u : Nat) (S : Nat → Nat → Bool) (w : Nat) (r : Int32) : Prop :=
  (∃ i, i < u ∧ r = nI i ∧ dcB W u S w i ∧ ∀ k, k < i → ¬ dcB W u S w k) ∨ ((∀ k, k < u → ¬ dcB W u S w k) ∧ ((∃ i, i < u ∧ r = nI i ∧ S i w = true ∧ ∀ k, k < i → S k w = false) ∨ (r = -1 ∧ ∀ k, k < u → S k w = false)))
theorem dc_un {W u : Nat} {S : Nat → Nat → Bool} {w : Nat} {r r' : Int32} (h : dcP W u S w r) (h' : dcP W u S w r') : r = r' := by
  rcases h with ⟨i, hi, rfl, h1, h2⟩ | ⟨h0, h⟩ <;> rcases h' with ⟨i', hi', rfl, h1', h2'⟩ | ⟨h0', h'⟩
  · rcases Nat.lt_trichotomy i i' with z | z | z
    · exact absurd h1 (h2' i z)
    · rw [z]
    · exact absurd h1' (h2 i' z)
  · exact absurd h1 (h0' i hi)
  · exact absurd h1' (h0 i' hi')
  · rcases h with ⟨i, hi, rfl, h1, h2⟩ | ⟨rfl, h1⟩ <;> rcases h' with ⟨i', hi', rfl, h1', h2'⟩ | ⟨rfl, h1'⟩
    · rcases Nat.lt_trichotomy i i' with z | z | z
      · rw [h2' i z] at h1; cases h1
      · rw [z]
      · rw [h2 i' z] at h1'; cases h1'
    · rw [h1' i hi] at h1; cases h1
    · rw [h1 i' hi'] at h1'; cases h1'
    · rfl
/-! order -/
def ofr (W u : Nat) (S : Nat → Nat → Bool) (o : Nat → Nat) (p x : Nat) : Prop := (∀ q, q < p → o q ≠ x) ∧ ∀ a, a < u → lsB W S a x = true → lsB W S x a = false → ∃ q, q < p ∧ o q = a
def onx (W u : Nat) (S : Nat → Nat → Bool) (o : Nat → Nat) (p : Nat) : Prop := o p < u ∧ ofr W u S o p (o p) ∧ ∀ x, x < o p → ¬ ofr W u S o p x
theorem ofr_congr {W u : Nat} {S : Nat → Nat → Bool} {o o' : Nat → Nat} {p x : Nat} (h : ∀ q, q < p → o q = o' q) : ofr W u S o p x → ofr W u S o' p x := by
  rintro ⟨h1, h2⟩
  refine ⟨fun q hq => by rw [← h q hq]; exact h1 q hq, fun a ha l1 l2 => ?_⟩
  obtain ⟨q, hq, e⟩ := h2 a ha l1 l2
  exact ⟨q, hq, by rw [← h q hq]; exact e⟩
theorem onx_congr {W u : Nat} {S : Nat → Nat → Bool} {o o' : Nat → Nat} {p : Nat} (h : ∀ q, q ≤ p → o q = o' q) (ho : onx W u S o p) : onx W u S o' p := by
  obtain ⟨h1, h2, h3⟩ := ho
  rw [h p (Nat.le_refl _)] at h1 h2 h3
  exact ⟨h1, ofr_congr (fun q hq => h q (by omega)) h2, fun x hx hf => h3 x hx (ofr_congr (fun q hq => (h q (by omega)).symm) hf)⟩
theorem ord_un {W u : Nat} {S : Nat → Nat → Bool} {o o' : Nat → Nat} {k : Nat} (h : ∀ p, p ≤ k → onx W u S o p) (h' : ∀ p, p ≤ k → onx W u S o' p) : ∀ p, p ≤ k → o p = o' p := by
  intro p
  induction p using Nat.strongRecOn with
  | ind p ih =>
    intro hp
    have hq : ∀ q, q < p → o q = o' q := fun q hq => ih q hq (by omega)
    obtain ⟨a1, a2, a3⟩ := h p hp
    obtain ⟨b1, b2, b3⟩ := h' p hp
    rcases Nat.lt_trichotomy (o p) (o' p) with z | z | z
    · exact absurd (ofr_congr hq a2) (b3 _ z)
    · exact z
    · exact absurd (ofr_congr (fun q hq' => (hq q hq').symm) b2) (a3 _ z)
theorem pu_or {p q : Nat → Bool} : ∀ n, pu_c (fun i => p i || q i) n ≤ pu_c p n + pu_c q n
  | 0 => Nat.le_refl _
  | n + 1 => by
    have := pu_or (p := p) (q := q) n
    show pu_c _ n + (if (p n || q n) = true then 1 else 0) ≤ (pu_c p n + (if p n = true then 1 else 0)) + (pu_c q n + (if q n = true then 1 else 0))
    cases p n <;> cases q n <;> simp <;> omega
theorem pu_eq1 (c : Nat) : ∀ n, pu_c (fun i => decide (c = i)) n ≤ 1
  | 0 => Nat.zero_le _
  | n + 1 => by
    by_cases e : c = n
    · rw [show pu_c (fun i => decide (c = i)) (n + 1) = pu_c (fun i => decide (c = i)) n + (if decide (c = n) = true then 1 else 0) from rfl, pu_trim (n := 0) (Nat.zero_le _) (fun i _ hi => decide_eq_false (by omega)), if_pos (decide_eq_true e)]
      exact Nat.le_refl _
    · rw [pr_b0 (decide_eq_false e)]
      exact pu_eq1 c n
theorem pg_cnt (o : Nat → Nat) (n : Nat) : ∀ p, pu_c (fun x => anB (fun q => decide (o q = x)) p) n ≤ p
  | 0 => Nat.le_of_eq (pu_trim (p := fun x => anB (fun q => decide (o q = x)) 0) (n := 0) (m := n) (Nat.zero_le _) (fun i _ _ => rfl))
  | p + 1 => by
    have h1 := pg_cnt o n p
    have h2 := pu_or (p := fun x => anB (fun q => decide (o q = x)) p) (q := fun x => decide (o p = x)) n
    have h3 := pu_eq1 (o p) n
    have e : pu_c (fun x => anB (fun q => decide (o q = x)) (p + 1)) n = pu_c (fun x => anB (fun q => decide (o q = x)) p || decide (o p = x)) n := rfl
    omega
theorem pu_full {p : Nat → Bool} : ∀ {n : Nat}, (∀ i, i < n → p i = true) → pu_c p n = n
  | 0, _ => rfl
  | n + 1, h => by rw [pr_b1 (h n (Nat.lt_succ_self _)), pu_full (fun i hi => h i (by omega))]
theorem pg_ex (o : Nat → Nat) {p u : Nat} (h : p < u) : ∃ x, x < u ∧ ∀ q, q < p → o q ≠ x := by
  refine Classical.byContradiction fun hn => ?_
  have h1 := pg_cnt o u p
  rw [pu_full (fun i hi => ?_)] at h1
  · omega
  · refine anB_iff.mpr (Classical.byContradiction fun hm => hn ⟨i, hi, fun q hq e => hm ⟨q, hq, decide_eq_true e⟩⟩)
theorem pu_le {p q : Nat → Bool} : ∀ {n : Nat}, (∀ i, i < n → p i = true → q i = true) → pu_c p n ≤ pu_c q n
  | 0, _ => Nat.le_refl _
  | n + 1, h => by
    have ih := pu_le (n := n) (fun i hi => h i (by omega))
    have h1 := h n (Nat.lt_succ_self _)
    show pu_c p n + (if p n = true then 1 else 0) ≤ pu_c q n + (if q n = true then 1 else 0)
    revert h1
    cases p n <;> cases q n <;> simp <;> omega
theorem cm_self {W : Nat} {S : Nat → Nat → Bool} {a b : Nat} : cm W S a b ≤ cm W S a a := pu_le (fun i _ h => by
  rw [Bool.and_eq_true] at h ⊢
  exact ⟨h.1, h.1⟩)
theorem sm_cm {W : Nat} {S : Nat → Nat → Bool} {a x : Nat} (h1 : lsB W S a x = true) (h2 : lsB W S x a = false) : cm W S a a < cm W S x x := by
  unfold lsB at h1 h2
  have e1 := of_decide_eq_true h1
  have e2 := of_decide_eq_false h2
  have e3 := cm_self (W := W) (S := S) (a := x) (b := a)
  have e4 := cm_comm W S a x
  omega
theorem ord_ex {W u : Nat} {S : Nat → Nat → Bool} {o : Nat → Nat} {p : Nat} (h : p < u) : ∃ x, x < u ∧ ofr W u S o p x := by
  obtain ⟨x0, hx0, hp0⟩ := pg_ex o h
  obtain ⟨n, ⟨x, hx, hpx, hn⟩, hmin⟩ := pk_least (fun n => ∃ x, x < u ∧ (∀ q, q < p → o q ≠ x) ∧ cm W S x x = n) ⟨_, x0, hx0, hp0, rfl⟩
  refine ⟨x, hx, hpx, fun a ha l1 l2 => Classical.byContradiction fun hq => ?_⟩
  have := sm_cm l1 l2
  exact hmin (cm W S a a) (by omega) ⟨a, ha, fun q hq' e => hq ⟨q, hq', e⟩, rfl⟩
