/-! the making of the object, cell by cell -/
def ceK (tc : Nat → ClassId) (ad : Nat → Nat → Nat) (W : Nat) (x0 : va_E) : Nat → Nat → va_E
  | 0, _ => x0
  | k + 1, e => ceC tc ad (fun e => ad 4 e) (ad 8 0) W 0 (fun _ => 0) (fun _ _ => 0) (fun _ _ => 0) false 0 (fun _ => 0) (fun _ => 0) (fun _ _ => 0) (k + 1) e
def ceI (tc : Nat → ClassId) (ad : Nat → Nat → Nat) (W : Nat) (x0 : va_E) (i : Nat) : Nat → Nat → va_E
  | 1, _ => .inl (tc 2, 40, .inr (.inr (.inr (.inr (fun e => if e < i then some (ad 2 e) else none)))))
  | k, e => ceK tc ad W x0 k e
def okI (i k j : Nat) : Prop := (k = 0 ∧ j = 0) ∨ (k = 1 ∧ j = 0) ∨ ((k = 2 ∨ k = 3 ∨ k = 4) ∧ j < i)
def okJ (t i k j : Nat) : Prop := okI i k j ∨ (t ≤ k ∧ k ≤ 4 ∧ 2 ≤ k ∧ j = i)
def ST (tc : Nat → ClassId) (μ : sx_M) (L : List Nat) (ad : Nat → Nat → Nat) (W o : Nat) (x0 : va_E) : Prop := ad 0 0 = o ∧ PM μ (fun k j => okC k j ∧ k ∈ L) ad (ceK tc ad W x0)
theorem ci_0 {tc : Nat → ClassId} {μ : sx_M} {W o q : Nat} {x0 : va_E} (ho : μ o = some x0) (hq : μ q = some (.inl (tc 2, 40, .inr (.inr (.inr (.inr (fun _ => none))))))) (hne : q ≠ o) : PM μ (okI 0) (fun k _ => if k = 0 then o else q) (ceI tc (fun k _ => if k = 0 then o else q) W x0 0) := by
  refine ⟨fun k j hk => ?_, fun k j k' j' hk hk' h => ?_⟩
  · rcases hk with ⟨rfl, rfl⟩ | ⟨rfl, rfl⟩ | ⟨-, h⟩
    · exact ho
    · refine hq.trans ?_
      simp [ceI]
    · exact absurd h (Nat.not_lt_zero _)
  · rcases hk with ⟨rfl, rfl⟩ | ⟨rfl, rfl⟩ | ⟨-, h3⟩ <;> rcases hk' with ⟨rfl, rfl⟩ | ⟨rfl, rfl⟩ | ⟨-, h4⟩
    · exact ⟨rfl, rfl⟩
    · exact absurd h.symm (by simpa using hne)
    · exact absurd h4 (Nat.not_lt_zero _)
    · exact absurd h (by simpa using hne)
    · exact ⟨rfl, rfl⟩
    · exact absurd h4 (Nat.not_lt_zero _)
    · exact absurd h3 (Nat.not_lt_zero _)
    · exact absurd h3 (Nat.not_lt_zero _)
    · exact absurd h3 (Nat.not_lt_zero _)
/-- an encoding more -/
theorem ci_step {tc : Nat → ClassId} {μ : sx_M} {ad : Nat → Nat → Nat} {W i q q' r' : Nat} {x0 : va_E} (h : PM μ (okI i) ad (ceI tc ad W x0 i)) (hq : μ q = none) (hq' : μ q' = none) (hr' : μ r' = none) (h1 : q' ≠ r') (h2 : q' ≠ q) (h3 : r' ≠ q) :
    ∃ ad', ad' 0 0 = ad 0 0 ∧ ad' 1 0 = ad 1 0 ∧ PM (sx_up (sx_up (sx_up (sx_up μ r' (.inl (tc 1, 0, .inr (.inl (fun _ => 0))))) q' (.inr (1, [.int (nI W), .ref r']))) q (.inr (0, [.ref q', .int 0, .int 0, .int 0, .int 0, .int 0]))) (ad 1 0) (.inl (tc 2, 40, .inr (.inr (.inr (.inr (va_up (fun e => if e < i then some (ad 2 e) else none) i (some q)))))))) (okI (i + 1)) ad' (ceI tc ad' W x0 (i + 1)) := by
  refine ⟨fun k j => if j = i ∧ 2 ≤ k then (if k = 2 then q else if k = 3 then q' else r') else ad k j, by simp, by simp, ?_⟩
  generalize had : (fun k j => if j = i ∧ 2 ≤ k then (if k = 2 then q else if k = 3 then q' else r') else ad k j) = ad'
  have e2 : ad' 2 i = q := by rw [← had]; simp
  have e3 : ad' 3 i = q' := by rw [← had]; simp
  have e4 : ad' 4 i = r' := by rw [← had]; simp
  have eo : ∀ k j, okI i k j → ad' k j = ad k j := fun k j hk => by
    rw [← had]
    show (if j = i ∧ 2 ≤ k then _ else _) = _
    rw [if_neg (by unfold okI at hk; omega)]
  have hce : ∀ k j, okI i k j → ceI tc ad' W x0 i k j = ceI tc ad W x0 i k j := fun k j hk => by
    have hk0 := hk
    rcases hk with ⟨rfl, rfl⟩ | ⟨rfl, rfl⟩ | ⟨rfl | rfl | rfl, hj⟩
    · rfl
    · show (.inl (tc 2, 40, .inr (.inr (.inr (.inr (fun e => if e < i then some (ad' 2 e) else none))))) : va_E) = .inl (tc 2, 40, .inr (.inr (.inr (.inr (fun e => if e < i then some (ad 2 e) else none)))))
      have : (fun e => if e < i then some (ad' 2 e) else none) = (fun e => if e < i then some (ad 2 e) else none) := funext fun e => by
        by_cases he : e < i
        · rw [if_pos he, if_pos he, eo 2 e (Or.inr (Or.inr ⟨Or.inl rfl, he⟩))]
        · rw [if_neg he, if_neg he]
      rw [this]
    · show (.inr (0, [.ref (ad' 3 j), .int (nI 0), .int (nI 0), .int (nI 0), .int (nI 0), .int (nI 0)]) : va_E) = .inr (0, [.ref (ad 3 j), .int (nI 0), .int (nI 0), .int (nI 0), .int (nI 0), .int (nI 0)])
      rw [eo 3 j (Or.inr (Or.inr ⟨Or.inr (Or.inl rfl), hj⟩))]
    · show (.inr (1, [.int (nI W), .ref (ad' 4 j)]) : va_E) = .inr (1, [.int (nI W), .ref (ad 4 j)])
      rw [eo 4 j (Or.inr (Or.inr ⟨Or.inr (Or.inr rfl), hj⟩))]
    · rfl
  have p1 : PM (sx_up μ r' (.inl (tc 1, 0, .inr (.inl (fun _ => 0))))) (okJ 4 i) ad' (ceI tc ad' W x0 i) := by
    refine PM_add h hr' 4 i (fun k j hk hn => ?_) e4 rfl
    rcases hk with hk | hk
    · exact ⟨hk, eo k j hk, hce k j hk⟩
    · exact absurd ⟨by omega, hk.2.2.2⟩ hn
  have p2 : PM (sx_up (sx_up μ r' (.inl (tc 1, 0, .inr (.inl (fun _ => 0))))) q' (.inr (1, [.int (nI W), .ref r']))) (okJ 3 i) ad' (ceI tc ad' W x0 i) := by
    refine PM_add p1 (by rw [sx_up_n _ _ h1]; exact hq') 3 i (fun k j hk hn => ⟨?_, rfl, rfl⟩) e3 ?_
    · rcases hk with hk | hk
      · exact Or.inl hk
      · exact Or.inr ⟨by have := hk.2.2.2; omega, hk.2.1, hk.2.2.1, hk.2.2.2⟩
    · show (.inr (1, [.int (nI W), .ref (ad' 4 i)]) : va_E) = _
      rw [e4]
  have p3 : PM (sx_up (sx_up (sx_up μ r' (.inl (tc 1, 0, .inr (.inl (fun _ => 0))))) q' (.inr (1, [.int (nI W), .ref r']))) q (.inr (0, [.ref q', .int 0, .int 0, .int 0, .int 0, .int 0]))) (okI (i + 1)) ad' (ceI tc ad' W x0 i) := by
    refine PM_add p2 (by rw [sx_up_n _ _ (Ne.symm h2), sx_up_n _ _ (Ne.symm h3)]; exact hq) 2 i (fun k j hk hn => ⟨?_, rfl, rfl⟩) e2 ?_
    · unfold okI at hk
      unfold okJ okI
      omega
    · show (.inr (0, [.ref (ad' 3 i), .int (nI 0), .int (nI 0), .int (nI 0), .int (nI 0), .int (nI 0)]) : va_E) = _
      rw [e3]
      rfl
  have p4 := PM_up (ce' := ceI tc ad' W x0 (i + 1)) p3 1 0 (Or.inr (Or.inl ⟨rfl, rfl⟩)) (fun k j hk hn => by
    rcases hk with ⟨rfl, rfl⟩ | ⟨rfl, rfl⟩ | ⟨rfl | rfl | rfl, hj⟩
    · rfl
    · exact absurd ⟨rfl, rfl⟩ hn
    · rfl
    · rfl
    · rfl)
  have e1 : ad' 1 0 = ad 1 0 := eo 1 0 (Or.inr (Or.inl ⟨rfl, rfl⟩))
  have ec : ceI tc ad' W x0 (i + 1) 1 0 = (.inl (tc 2, 40, .inr (.inr (.inr (.inr (va_up (fun e => if e < i then some (ad 2 e) else none) i (some q)))))) : va_E) := by
    show (.inl (tc 2, 40, .inr (.inr (.inr (.inr (fun e => if e < i + 1 then some (ad' 2 e) else none))))) : va_E) = _
    have : (fun e => if e < i + 1 then some (ad' 2 e) else none) = va_up (fun e => if e < i then some (ad 2 e) else none) i (some q) := funext fun e => by
      by_cases he : e = i
      · subst he; rw [va_up_s, if_pos (Nat.lt_succ_self _), e2]
      · rw [va_up_o _ _ he]
        by_cases h4 : e < i
        · rw [if_pos h4, if_pos (by omega), eo 2 e (Or.inr (Or.inr ⟨Or.inl rfl, h4⟩))]
        · rw [if_neg h4, if_neg (by omega)]
    rw [this]
  rw [e1, ec] at p4
  exact p4
theorem ci_end {tc : Nat → ClassId} {μ : sx_M} {ad : Nat → Nat → Nat} {W o : Nat} {x0 : va_E} (ho : ad 0 0 = o) (h : PM μ (okI 40) ad (ceI tc ad W x0 40)) : ST tc μ [0, 1, 2, 3, 4] ad W o x0 := by
  refine ⟨ho, PM_mono h fun k j hk => ?_⟩
  obtain ⟨⟨h1, h2⟩, h3⟩ := hk
  rcases (show k = 0 ∨ k = 1 ∨ k = 2 ∨ k = 3 ∨ k = 4 by simpa using h3) with rfl | rfl | rfl | rfl | rfl
  · exact ⟨Or.inl ⟨rfl, Nat.lt_one_iff.mp h2⟩, rfl, rfl⟩
  · exact ⟨Or.inr (Or.inl ⟨rfl, Nat.lt_one_iff.mp h2⟩), rfl, rfl⟩
  · exact ⟨Or.inr (Or.inr ⟨Or.inl rfl, h2⟩), rfl, rfl⟩
  · exact ⟨Or.inr (Or.inr ⟨Or.inr (Or.inl rfl), h2⟩), rfl, rfl⟩
  · exact ⟨Or.inr (Or.inr ⟨Or.inr (Or.inr rfl), h2⟩), rfl, rfl⟩
theorem ST_x {tc : Nat → ClassId} {μ : sx_M} {L : List Nat} {ad : Nat → Nat → Nat} {W o : Nat} {x0 : va_E} (h : ST tc μ L ad W o x0) (hL : 0 ∈ L) (x1 : va_E) : ST tc (sx_up μ o x1) L ad W o x1 := by
  obtain ⟨h0, h⟩ := h
  subst h0
  refine ⟨rfl, PM_up (ce' := ceK tc ad W x1) h 0 0 ⟨⟨by decide, by decide⟩, hL⟩ (fun k j hk hn => ?_)⟩
  rcases k with _ | k
  · exact absurd ⟨rfl, Nat.lt_one_iff.mp hk.1.2⟩ hn
  · rfl
theorem ST_o {tc : Nat → ClassId} {μ : sx_M} {L : List Nat} {ad : Nat → Nat → Nat} {W o : Nat} {x0 : va_E} (h : ST tc μ L ad W o x0) (hL : 0 ∈ L) : μ o = some x0 := by
  have := h.2.1 0 0 ⟨⟨by decide, by decide⟩, hL⟩
  rw [h.1] at this
  exact this
theorem ST_add {tc : Nat → ClassId} {μ : sx_M} {L : List Nat} {ad : Nat → Nat → Nat} {W o q : Nat} {x0 c : va_E} (h : ST tc μ L ad W o x0) (hq : μ q = none) (k0 : Nat) (hk0 : cnC k0 = 1) (h0 : 0 ≠ k0) (hc : ceK tc (up2 ad k0 0 q) W x0 k0 0 = c) (hs : ∀ k j, okC k j → k ∈ L → ¬ (k = k0 ∧ j = 0) → ceK tc (up2 ad k0 0 q) W x0 k j = ceK tc ad W x0 k j) : ST tc (sx_up μ q c) (k0 :: L) (up2 ad k0 0 q) W o x0 := by
  refine ⟨by rw [up2_n _ _ (fun z => h0 z.1)]; exact h.1, PM_add h.2 hq k0 0 (fun k j hk hn => ?_) (up2_s _ _ _ _) hc⟩
  have hL : k ∈ L := by
    rcases List.mem_cons.mp hk.2 with z | z
    · subst z
      have := hk.1.2
      rw [hk0] at this
      exact absurd ⟨rfl, Nat.lt_one_iff.mp this⟩ hn
    · exact z
  exact ⟨⟨hk.1, hL⟩, up2_n _ _ hn, hs k j hk.1 hL hn⟩
theorem ST_rows {tc : Nat → ClassId} {μ μ' : sx_M} {ad : Nat → Nat → Nat} {W o q : Nat} {r : Nat → Nat} {x0 : va_E} (h : ST tc μ [0, 1, 2, 3, 4] ad W o x0) (hr : ∀ i j, i < 40 → j < 40 → r i = r j → i = j) (hq : μ q = none) (hf : ∀ i, i < 40 → μ (r i) = none ∧ r i ≠ q) (h1 : μ' q = some (.inl (tc 3, 40, .inr (.inr (.inr (.inr (fun i => if i < 40 then some (r i) else none))))))) (h2 : ∀ i, i < 40 → μ' (r i) = some (.inl (tc 0, 40, .inl (fun _ => 0)))) (h3 : ∀ a x, μ a = some x → μ' a = some x) : ∃ ad', ad' 5 0 = q ∧ (∀ k j, k ≠ 5 → k ≠ 6 → ad' k j = ad k j) ∧ ST tc μ' [0, 1, 2, 3, 4, 5, 6] ad' W o x0 := by
  refine ⟨fun k j => if k = 5 then q else if k = 6 then r j else ad k j, rfl, fun k j h5 h6 => by simp [h5, h6], ?_⟩
  generalize had : (fun k j => if k = 5 then q else if k = 6 then r j else ad k j) = ad'
  have eo : ∀ k j, k ≠ 5 → k ≠ 6 → ad' k j = ad k j := fun k j h5 h6 => by rw [← had]; simp [h5, h6]
  have e5 : ∀ j, ad' 5 j = q := fun j => by rw [← had]; rfl
  have e6 : ∀ j, ad' 6 j = r j := fun j => by rw [← had]; rfl
  have key : ∀ k j, okC k j → k ∈ [0, 1, 2, 3, 4] → ad k j ≠ q ∧ ∀ i, i < 40 → ad k j ≠ r i := fun k j hk hL => by
    have := h.2.1 k j ⟨hk, hL⟩
    refine ⟨fun z => ?_, fun i hi z => ?_⟩
    · rw [z, hq] at this; cases this
    · rw [z, (hf i hi).1] at this; cases this
  have hcs : ∀ k j, okC k j → k ∈ [0, 1, 2, 3, 4] → ceK tc ad' W x0 k j = ceK tc ad W x0 k j := fun k j hk hL => by
    rcases (show k = 0 ∨ k = 1 ∨ k = 2 ∨ k = 3 ∨ k = 4 by simpa using hL) with rfl | rfl | rfl | rfl | rfl
    · rfl
    · show (.inl (tc 2, 40, .inr (.inr (.inr (.inr (fun e => if e < 40 then some (ad' 2 e) else none))))) : va_E) = .inl (tc 2, 40, .inr (.inr (.inr (.inr (fun e => if e < 40 then some (ad 2 e) else none)))))
      rw [show (fun e => if e < 40 then some (ad' 2 e) else none) = (fun e => if e < 40 then some (ad 2 e) else none) from funext fun e => by rw [eo 2 e (by decide) (by decide)]]
    · show (.inr (0, [.ref (ad' 3 j), .int (nI 0), .int (nI 0), .int (nI 0), .int (nI 0), .int (nI 0)]) : va_E) = .inr (0, [.ref (ad 3 j), .int (nI 0), .int (nI 0), .int (nI 0), .int (nI 0), .int (nI 0)])
      rw [eo 3 j (by decide) (by decide)]
    · show (.inr (1, [.int (nI W), .ref (ad' 4 j)]) : va_E) = .inr (1, [.int (nI W), .ref (ad 4 j)])
      rw [eo 4 j (by decide) (by decide)]
    · rfl
  have hin : ∀ k, k ∈ [0, 1, 2, 3, 4, 5, 6] → k ∈ [0, 1, 2, 3, 4] ∨ k = 5 ∨ k = 6 := fun k hk => by
    simp at hk ⊢
    omega
  have hno : ∀ k, k ∈ [0, 1, 2, 3, 4] → k ≠ 5 ∧ k ≠ 6 := fun k hk => by
    simp at hk
    omega
  refine ⟨by rw [eo 0 0 (by decide) (by decide)]; exact h.1, fun k j hk => ?_, fun k j k' j' hk hk' e => ?_⟩
  · rcases hin k hk.2 with hL | rfl | rfl
    · rw [eo k j (hno k hL).1 (hno k hL).2, hcs k j hk.1 hL]
      exact h3 _ _ (h.2.1 k j ⟨hk.1, hL⟩)
    · rw [e5, h1]
      show _ = some (.inl (tc 3, 40, .inr (.inr (.inr (.inr (fun e => if e < 40 then some (ad' 6 e) else none))))) : va_E)
      rw [show (fun e => if e < 40 then some (ad' 6 e) else none) = (fun i => if i < 40 then some (r i) else none) from funext fun e => by rw [e6]]
    · rw [e6]
      exact h2 j hk.1.2
  · rcases hin k hk.2 with hL | rfl | rfl <;> rcases hin k' hk'.2 with hL' | rfl | rfl
    · rw [eo k j (hno k hL).1 (hno k hL).2, eo k' j' (hno k' hL').1 (hno k' hL').2] at e
      exact h.2.2 k j k' j' ⟨hk.1, hL⟩ ⟨hk'.1, hL'⟩ e
    · rw [eo k j (hno k hL).1 (hno k hL).2, e5] at e
      exact absurd e (key k j hk.1 hL).1
    · rw [eo k j (hno k hL).1 (hno k hL).2, e6] at e
      exact absurd e ((key k j hk.1 hL).2 j' hk'.1.2)
    · rw [eo k' j' (hno k' hL').1 (hno k' hL').2, e5] at e
      exact absurd e.symm (key k' j' hk'.1 hL').1
    · exact ⟨rfl, (Nat.lt_one_iff.mp hk.1.2).trans (Nat.lt_one_iff.mp hk'.1.2).symm⟩
    · rw [e5, e6] at e
      exact absurd e.symm (hf j' hk'.1.2).2
    · rw [eo k' j' (hno k' hL').1 (hno k' hL').2, e6] at e
      exact absurd e.symm ((key k' j' hk'.1 hL').2 j hk.1.2)
    · rw [e5, e6] at e
      exact absurd e (hf j hk.1.2).2
    · rw [e6, e6] at e
      exact ⟨rfl, hr j j' hk.1.2 hk'.1.2 e⟩
theorem ST_CS {tc : Nat → ClassId} {μ : sx_M} {L : List Nat} {ad : Nat → Nat → Nat} {W o : Nat} (hL : ∀ k, k < 10 → k ∈ L) (h : ST tc μ L ad W o (.inr (2, [.int (nI W), .ref (ad 1 0), .int 0, .ref (ad 5 0), .ref (ad 7 0), .int 0, .ref (ad 9 0)]))) : CS tc μ ad (fun e => ad 4 e) (ad 8 0) W 0 (fun _ => 0) (fun _ _ => 0) (fun _ _ => 0) false 0 (fun _ => 0) (fun _ => 0) (fun _ _ => 0) := by
  refine PM_mono h.2 fun k j hk => ⟨⟨hk, hL k hk.1⟩, ?_, ?_⟩
  · obtain ⟨hk1, hk2⟩ := hk
    rcases k with _ | _ | _ | _ | _ | _ | _ | _ | _ | k
    · rfl
    · rfl
    · rfl
    · rfl
    · rfl
    · rfl
    · rfl
    · rfl
    · rw [show j = 0 from Nat.lt_one_iff.mp hk2]; rfl
    · rfl
  · rcases k with _ | k
    · rfl
    · rfl
/-- the number of bits of a word -/
def wdN (x : Int32) : Nat := 1 + (x - 1).toBitVec.toNat % 16
theorem wd_eq (x : Int32) : 1 + ((x - 1) &&& 15) = nI (wdN x) := by
  rw [pk_and (x - 1) (m := 15) 4 rfl]
  exact nI_add 1 _
theorem wd_le (x : Int32) : 1 ≤ wdN x ∧ wdN x ≤ 16 := by unfold wdN; omega
