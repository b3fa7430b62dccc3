theorem mt_at {W u : Nat} {S : Nat → Nat → Bool} {a b : Nat} (h : a + 1 ≤ b) : mt W S a b = decide (0 < cm W S a b) := by
  unfold mt
  rw [decide_eq_true (show a < b by omega), Bool.true_and]
theorem pn_1 {M : Nat → Nat → Bool} {u a b : Nat} (h : M a b = true) : prN M u a (b + 1) = prN M u a b + 1 := by
  unfold prN
  rw [pr_b1 h]
  rfl
theorem pn_0 {M : Nat → Nat → Bool} {u a b : Nat} (h : M a b = false) : prN M u a (b + 1) = prN M u a b := by
  unfold prN
  rw [pr_b0 h]
theorem pn_i {P : Nat → Nat → Bool} {u a : Nat} : prN (fun i j => decide (i < j) && P i j) u a (a + 1) = prT (fun i j => decide (i < j) && P i j) u a := by
  unfold prN
  rw [show pu_c ((fun i j => decide (i < j) && P i j) a) (a + 1) = 0 from pr_0]
  rfl
theorem cl_at {W : Nat} {S : Nat → Nat → Bool} {ed : Nat → Nat → Nat} {v : Int32} {a b : Nat} (h : a + 1 ≤ b) : clM W S ed v a b = (ndB ed v a && ndB ed v b && clB W S a b) := by
  unfold clM
  rw [decide_eq_true (show a < b by omega), Bool.true_and]
theorem tl_at {W : Nat} {S : Nat → Nat → Bool} {ed : Nat → Nat → Nat} {P : Nat → Bool} {a b : Nat} (h : a + 1 ≤ b) : tlM W S ed P a b = (clB W S a b && P (ed 4 a ||| ed 4 b)) := by
  unfold tlM
  rw [decide_eq_true (show a < b by omega), Bool.true_and]
section CLS
variable {W u : Nat} {S : Nat → Nat → Bool} {ed0 : Nat → Nat → Nat} {ln : Nat → Nat} {rf : Nat → Nat → Int64} {sc : Nat → Nat → Int32} {uk : Bool} {ul : Nat} {uf : Nat → Int64} {ed : Nat → Nat → Nat}
theorem cp_cl (hA : AW W u S ed0) (hP : CP W u S ed0 ln rf sc uk ul uf ed) {a b : Nat} (ha : a < u) (hb : b < u) : (decide (0 < sc a b) && !decide (sc a b = sc a a) && !decide (sc b a = sc b b)) = clB W S a b := by
  rw [cp_ls hA hP ha hb, cp_ls hA hP hb ha, decide_eq_decide.mpr (cp_pos hA hP ha hb)]
  rfl
end CLS
theorem tb_and {i j : Nat} (hj : j < 8) : nI i &&& nI (2 ^ j) = 0 ↔ i.testBit j = false := by
  rw [bI_zero_iff]
  constructor
  · intro h
    have := h j (by omega)
    rw [bI_and, bI_nI, bI_nI, decide_eq_true (show j < 32 by omega), Nat.testBit_two_pow, decide_eq_true rfl] at this
    simpa using this
  · intro h k hk
    rw [bI_and, bI_nI, bI_nI, decide_eq_true hk, Nat.testBit_two_pow]
    by_cases e : j = k
    · subst e; rw [h]; rfl
    · rw [decide_eq_false e]; simp
theorem tb_shl : ∀ j, j < 8 → jshl 1 (nI j) = nI (2 ^ j) := by decide +kernel
theorem jb_xorI (a b : Nat) : nI a ^^^ nI b = nI (a ^^^ b) := by
  apply bI_ext
  intro i hi
  rw [bI_xor, bI_nI, bI_nI, bI_nI, decide_eq_true hi, Nat.testBit_xor]
  simp
theorem tb_lt {i j : Nat} (hi : i < 256) (hj : j < 8) : i ^^^ 2 ^ j < 256 := Nat.xor_lt_two_pow (n := 8) hi (Nat.pow_lt_pow_right (by decide) hj)
theorem zt_step {W u i j : Nat} {S : Nat → Nat → Bool} {ed : Nat → Nat → Nat} {cf : Nat → Int32} (hj : j < 8) (hi : i < 256) (h1 : ∀ s, s < i → cf s = nI (prT (tlM W S ed (zB (j + 1) s)) u u)) (h2 : ∀ s, i ≤ s → s < 256 → cf s = nI (prT (tlM W S ed (zB j s)) u u)) (hb : i.testBit j = true) : (∀ s, s < i + 1 → va_up cf i (cf i + cf (i ^^^ 2 ^ j)) s = nI (prT (tlM W S ed (zB (j + 1) s)) u u)) ∧ ∀ s, i + 1 ≤ s → s < 256 → va_up cf i (cf i + cf (i ^^^ 2 ^ j)) s = nI (prT (tlM W S ed (zB j s)) u u) := by
  have hs' : (i ^^^ 2 ^ j).testBit j = false := by rw [zx_bit, hb, decide_eq_true rfl]; rfl
  have e1 : cf (i ^^^ 2 ^ j) = nI (prT (tlM W S ed (zB j (i ^^^ 2 ^ j))) u u) := by
    rcases Nat.lt_or_ge (i ^^^ 2 ^ j) i with z | z
    · rw [h1 _ z, tl_no hs']
    · exact h2 _ z (tb_lt hi hj)
  constructor
  · intro s hs
    by_cases e : s = i
    · subst e
      rw [va_up_s, e1, h2 s (Nat.le_refl _) hi, tl_yes hb, nI_add]
    · rw [va_up_o _ _ e]; exact h1 s (by omega)
  · intro s h3 h4
    rw [va_up_o _ _ (by omega)]; exact h2 s (by omega) h4
theorem zt_skip {W u i j : Nat} {S : Nat → Nat → Bool} {ed : Nat → Nat → Nat} {cf : Nat → Int32} (h1 : ∀ s, s < i → cf s = nI (prT (tlM W S ed (zB (j + 1) s)) u u)) (h2 : ∀ s, i ≤ s → s < 256 → cf s = nI (prT (tlM W S ed (zB j s)) u u)) (hi : i < 256) (hb : i.testBit j = false) : (∀ s, s < i + 1 → cf s = nI (prT (tlM W S ed (zB (j + 1) s)) u u)) ∧ ∀ s, i + 1 ≤ s → s < 256 → cf s = nI (prT (tlM W S ed (zB j s)) u u) := by
  refine ⟨fun s hs => ?_, fun s h3 h4 => h2 s (by omega) h4⟩
  by_cases e : s = i
  · subst e; rw [h2 s (Nat.le_refl _) hi, tl_no hb]
  · exact h1 s (by omega)
theorem zB_0 {s n : Nat} : zB 0 s n = decide (n = s) := by
  rw [Bool.eq_iff_iff, zB_iff, zP_0, decide_eq_true_eq]
theorem ta_step {W u a b : Nat} {S : Nat → Nat → Bool} {ed : Nat → Nat → Nat} {cf : Nat → Int32} (hab : a + 1 ≤ b) (h : ∀ t, t < 256 → cf t = nI (prN (tlM W S ed (zB 0 t)) u a b)) (hc : clB W S a b = true) : ∀ t, t < 256 → va_up cf (ed 4 a ||| ed 4 b) (cf (ed 4 a ||| ed 4 b) + 1) t = nI (prN (tlM W S ed (zB 0 t)) u a (b + 1)) := by
  intro t ht
  by_cases e : t = (ed 4 a ||| ed 4 b)
  · subst e
    rw [va_up_s, h _ ht, pn_1 (by rw [tl_at hab, hc, zB_0, decide_eq_true rfl]; rfl)]
    exact nI_1 _
  · rw [va_up_o _ _ e, h t ht, pn_0 (by rw [tl_at hab, zB_0, decide_eq_false (fun z => e z.symm), Bool.and_false])]
theorem ta_no {W u a b : Nat} {S : Nat → Nat → Bool} {ed : Nat → Nat → Nat} {cf : Nat → Int32} (hab : a + 1 ≤ b) (h : ∀ t, t < 256 → cf t = nI (prN (tlM W S ed (zB 0 t)) u a b)) (hc : clB W S a b = false) : ∀ t, t < 256 → cf t = nI (prN (tlM W S ed (zB 0 t)) u a (b + 1)) := fun t ht => by
  rw [h t ht, pn_0 (by rw [tl_at hab, hc, Bool.false_and])]
theorem w2_pow : ∀ W, W < 17 → jshl 1 (nI W) = nI (2 ^ W) := by decide +kernel
theorem on_iff {W u p i : Nat} {S : Nat → Nat → Bool} {o : Nat → Nat} {pl sfi : Int64} (hu : u ≤ 40) (hpl : ∀ k, bL pl k = true ↔ ∃ q, q < p ∧ o q = k) (hsf : ∀ k, bL sfi k = (decide (k < u) && (lsB W S k i && !lsB W S i k))) : (bL pl i = false ∧ (sfi &&& (pl ^^^ (-1))) = 0) ↔ ofr W u S o p i := by
  constructor
  · rintro ⟨h1, h2⟩
    refine ⟨fun q hq e => ?_, fun a ha l1 l2 => ?_⟩
    · rw [(hpl i).mpr ⟨q, hq, e⟩] at h1; cases h1
    · refine (hpl a).mp ?_
      have := bL_zero_iff.mp h2 a (by omega)
      rw [bL_and, bL_not _ (by omega), hsf a, decide_eq_true ha, l1, l2] at this
      simpa using this
  · rintro ⟨h1, h2⟩
    constructor
    · cases h : bL pl i
      · rfl
      · obtain ⟨q, hq, e⟩ := (hpl i).mp h
        exact absurd e (h1 q hq)
    · refine bL_zero_iff.mpr fun k hk => ?_
      rw [bL_and, bL_not _ hk, hsf k]
      by_cases hku : k < u
      · cases l1 : lsB W S k i
        · rw [Bool.false_and, Bool.and_false, Bool.false_and]
        · cases l2 : lsB W S i k
          · rw [(hpl k).mpr (h2 k hku l1 l2), Bool.not_true, Bool.and_false]
          · rw [Bool.not_true, Bool.and_false, Bool.and_false, Bool.false_and]
      · rw [decide_eq_false hku, Bool.false_and, Bool.false_and]
theorem pl_step {p i : Nat} {o : Nat → Nat} {pl : Int64} (hi : i < 64) (hpl : ∀ k, bL pl k = true ↔ ∃ q, q < p ∧ o q = k) : ∀ k, bL (pl ||| jshlL 1 (nI i)) k = true ↔ ∃ q, q < p + 1 ∧ va_up o p i q = k := by
  intro k
  rw [bL_or, bL_bit (by omega), Nat.mod_eq_of_lt hi, Bool.or_eq_true, hpl k, decide_eq_true_eq]
  constructor
  · rintro (⟨q, hq, e⟩ | e)
    · exact ⟨q, by omega, by rw [va_up_o _ _ (by omega)]; exact e⟩
    · exact ⟨p, by omega, by rw [va_up_s]; exact e.symm⟩
  · rintro ⟨q, hq, e⟩
    by_cases z : q = p
    · subst z; rw [va_up_s] at e; exact Or.inr e.symm
    · rw [va_up_o _ _ z] at e; exact Or.inl ⟨q, by omega, e⟩
theorem ox_step {W u p i : Nat} {S : Nat → Nat → Bool} {o : Nat → Nat} (h : ∀ q, q < p → onx W u S o q) (hi : i < u) (h1 : ofr W u S o p i) (h2 : ∀ x, x < i → ¬ ofr W u S o p x) : ∀ q, q < p + 1 → onx W u S (va_up o p i) q := by
  intro q hq
  by_cases e : q = p
  · subst e
    refine ⟨by rw [va_up_s]; exact hi, ?_, ?_⟩
    · rw [va_up_s]; exact ofr_congr (fun r hr => (va_up_o _ _ (by omega)).symm) h1
    · rw [va_up_s]; exact fun x hx hf => h2 x hx (ofr_congr (fun r hr => va_up_o _ _ (by omega)) hf)
  · exact onx_congr (fun r hr => (va_up_o _ _ (by omega)).symm) (h q (by omega))
/-! what all clashing pairs need, together -/
def wuI (W u : Nat) (S : Nat → Nat → Bool) (ed : Nat → Nat → Nat) (a b n : Nat) : Prop := n < 256 ∧ (∀ i j, i < j → j < u → (i < a ∨ (i = a ∧ j < b)) → clB W S i j = true → ∀ k, (ed 4 i ||| ed 4 j).testBit k = true → n.testBit k = true) ∧ ∀ k, n.testBit k = true → ∃ i j, i < j ∧ j < u ∧ clB W S i j = true ∧ (ed 4 i ||| ed 4 j).testBit k = true
section WU
variable {W u : Nat} {S : Nat → Nat → Bool} {ed : Nat → Nat → Nat} {a b n : Nat}
theorem wu_0 : wuI W u S ed 0 0 0 := ⟨by decide, fun i j _ _ h3 => absurd h3 (by omega), fun k h => by rw [Nat.zero_testBit] at h; cases h⟩
theorem wu_in (h : wuI W u S ed a 0 n) : wuI W u S ed a (a + 1) n := ⟨h.1, fun i j h1 h2 h3 => h.2.1 i j h1 h2 (by omega), h.2.2⟩
theorem wu_out (h : wuI W u S ed a b n) (hb : u ≤ b) : wuI W u S ed (a + 1) 0 n := ⟨h.1, fun i j h1 h2 h3 => h.2.1 i j h1 h2 (by omega), h.2.2⟩
theorem wu_no (h : wuI W u S ed a b n) (hc : clB W S a b = false) : wuI W u S ed a (b + 1) n := by
  refine ⟨h.1, fun i j h1 h2 h3 hcl => ?_, h.2.2⟩
  by_cases e : i = a ∧ j = b
  · rw [e.1, e.2, hc] at hcl; cases hcl
  · exact h.2.1 i j h1 h2 (by omega) hcl
theorem wu_yes (h : wuI W u S ed a b n) (hab : a + 1 ≤ b) (hb : b < u) (hn : (ed 4 a ||| ed 4 b) < 256) (hc : clB W S a b = true) : wuI W u S ed a (b + 1) (n ||| (ed 4 a ||| ed 4 b)) := by
  refine ⟨Nat.or_lt_two_pow (n := 8) h.1 hn, fun i j h1 h2 h3 hcl k hk => ?_, fun k hk => ?_⟩
  · rw [Nat.testBit_or, Bool.or_eq_true]
    by_cases e : i = a ∧ j = b
    · rw [e.1, e.2] at hk; exact Or.inr hk
    · exact Or.inl (h.2.1 i j h1 h2 (by omega) hcl k hk)
  · rw [Nat.testBit_or, Bool.or_eq_true] at hk
    rcases hk with z | z
    · exact h.2.2 k z
    · exact ⟨a, b, by omega, hb, hc, z⟩
theorem wu_nd {s i j : Nat} (hn : (ed 4 i ||| ed 4 j) < 256) : (ndB ed (nI s) i && ndB ed (nI s) j) = true ↔ ∀ k, (ed 4 i ||| ed 4 j).testBit k = true → s.testBit k = true := by
  rw [← nd_both, jb_orI, decide_eq_true_eq, sub_I]
  constructor
  · intro h k hk
    rcases Nat.lt_or_ge k 32 with z | z
    · exact h k z hk
    · rw [Nat.testBit_lt_two_pow (Nat.lt_of_lt_of_le hn (Nat.pow_le_pow_right (n := 2) (by decide) (show 8 ≤ k by omega)))] at hk; cases hk
  · exact fun h k _ hk => h k hk
theorem cl_iff {s i j : Nat} (hn : (ed 4 i ||| ed 4 j) < 256) : clM W S ed (nI s) i j = true ↔ i < j ∧ clB W S i j = true ∧ ∀ k, (ed 4 i ||| ed 4 j).testBit k = true → s.testBit k = true := by
  unfold clM
  rw [Bool.and_eq_true, Bool.and_eq_true, wu_nd hn, decide_eq_true_eq]
  exact ⟨fun h => ⟨h.1, h.2.2, h.2.1⟩, fun h => ⟨h.1, h.2.2, h.2.1⟩⟩
theorem wu_end (he : ∀ i, i < u → ed 4 i < 256) (h : wuI W u S ed u 0 n) : wsT W u S ed n := by
  have hn : ∀ i, i < u → ∀ j, j < u → (ed 4 i ||| ed 4 j) < 256 := fun i hi j hj => Nat.or_lt_two_pow (n := 8) (he i hi) (he j hj)
  have hadd : ∀ s, clN W u S ed (nI n) = clN W u S ed (nI s) + prT (fun i j => clM W S ed (nI n) i j && !clM W S ed (nI s) i j) u u := fun s => prT_add fun i hi j hj => by
    have key : clM W S ed (nI s) i j = true → clM W S ed (nI n) i j = true := fun z => by
      obtain ⟨h1, h2, -⟩ := (cl_iff (hn i hi j hj)).mp z
      exact (cl_iff (hn i hi j hj)).mpr ⟨h1, h2, h.2.1 i j h1 hj (Or.inl hi) h2⟩
    revert key
    cases clM W S ed (nI s) i j <;> cases clM W S ed (nI n) i j <;> simp
  refine ⟨h.1, fun s _ => by rw [hadd s]; exact Nat.le_add_right _ _, fun s hs => ?_⟩
  obtain ⟨k, hk1, hk2⟩ : ∃ k, n.testBit k = true ∧ s.testBit k = false := Classical.byContradiction fun z => by
    have hsub : n &&& s = n := Nat.eq_of_testBit_eq fun k => by
      rw [Nat.testBit_and]
      cases e1 : n.testBit k
      · rfl
      · cases e2 : s.testBit k
        · exact absurd ⟨k, e1, e2⟩ z
        · rfl
    have := Nat.and_le_right (n := n) (m := s)
    rw [hsub] at this
    omega
  obtain ⟨i, j, h1, h2, h3, h4⟩ := h.2.2 k hk1
  have hi : i < u := by omega
  have e1 : clM W S ed (nI n) i j = true := (cl_iff (hn i hi j h2)).mpr ⟨h1, h3, h.2.1 i j h1 h2 (Or.inl hi) h3⟩
  have e2 : clM W S ed (nI s) i j = false := by
    cases z : clM W S ed (nI s) i j
    · rfl
    · rw [((cl_iff (hn i hi j h2)).mp z).2.2 k h4] at hk2; cases hk2
  have hp := pr_lt (M := fun i j => clM W S ed (nI n) i j && !clM W S ed (nI s) i j) (u := u) (a := i) (b := j) (a' := u) (b' := 0) h2 (by show (clM W S ed (nI n) i j && !clM W S ed (nI s) i j) = true; rw [e1, e2]; rfl) (Or.inl hi)
  have hq : prN (fun i j => clM W S ed (nI n) i j && !clM W S ed (nI s) i j) u u 0 = prT (fun i j => clM W S ed (nI n) i j && !clM W S ed (nI s) i j) u u := rfl
  rw [hq] at hp
  rw [hadd s]
  omega
end WU
