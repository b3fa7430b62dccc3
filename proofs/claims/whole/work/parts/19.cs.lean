/-! cells by kind and index -/
def PM (μ : sx_M) (ok : Nat → Nat → Prop) (ad : Nat → Nat → Nat) (ce : Nat → Nat → va_E) : Prop :=
  (∀ k i, ok k i → μ (ad k i) = some (ce k i)) ∧ ∀ k i k' i', ok k i → ok k' i' → ad k i = ad k' i' → k = k' ∧ i = i'
section PMS
variable {μ : sx_M} {ok ok' : Nat → Nat → Prop} {ad ad' : Nat → Nat → Nat} {ce ce' : Nat → Nat → va_E}
theorem PM_up (h : PM μ ok ad ce) (k0 i0 : Nat) (h0 : ok k0 i0) (hce : ∀ k i, ok k i → ¬ (k = k0 ∧ i = i0) → ce' k i = ce k i) : PM (sx_up μ (ad k0 i0) (ce' k0 i0)) ok ad ce' := by
  refine ⟨fun k i hk => ?_, h.2⟩
  by_cases hh : k = k0 ∧ i = i0
  · rw [hh.1, hh.2, sx_up_s]
  · rw [sx_up_n _ _ (fun e => hh (h.2 k i k0 i0 hk h0 e)), h.1 k i hk, hce k i hk hh]
theorem PM_re (h : PM μ ok ad ce) (k1 i1 k2 i2 : Nat) (h1 : ok k1 i1) (h2 : ok k2 i2) (hne : ¬ (k1 = k2 ∧ i1 = i2)) (had : ∀ k i, ok k i → ¬ (k = k2 ∧ i = i2) → ad' k i = ad k i) (hr : ad' k2 i2 = ad k2 i2 ∨ μ (ad' k2 i2) = none) (hce : ∀ k i, ok k i → ¬ (k = k1 ∧ i = i1) → ¬ (k = k2 ∧ i = i2) → ce' k i = ce k i) : PM (sx_up (sx_up μ (ad k1 i1) (ce' k1 i1)) (ad' k2 i2) (ce' k2 i2)) ok ad' ce' := by
  have key : ∀ k i, ok k i → ¬ (k = k2 ∧ i = i2) → ad k i ≠ ad' k2 i2 := fun k i hk hn e => by
    rcases hr with hr | hr
    · exact hn (h.2 k i k2 i2 hk h2 (e.trans hr))
    · have := h.1 k i hk
      rw [e, hr] at this
      cases this
  refine ⟨fun k i hk => ?_, fun k i k' i' hk hk' e => ?_⟩
  · by_cases hh : k = k2 ∧ i = i2
    · rw [hh.1, hh.2, sx_up_s]
    · rw [had k i hk hh, sx_up_n _ _ (key k i hk hh)]
      by_cases hg : k = k1 ∧ i = i1
      · rw [hg.1, hg.2, sx_up_s]
      · rw [sx_up_n _ _ (fun e => hg (h.2 k i k1 i1 hk h1 e)), h.1 k i hk, hce k i hk hg hh]
  · by_cases hh : k = k2 ∧ i = i2
    · by_cases hg : k' = k2 ∧ i' = i2
      · exact ⟨hh.1.trans hg.1.symm, hh.2.trans hg.2.symm⟩
      · rw [hh.1, hh.2, had k' i' hk' hg] at e
        exact absurd e.symm (key k' i' hk' hg)
    · by_cases hg : k' = k2 ∧ i' = i2
      · rw [hg.1, hg.2, had k i hk hh] at e
        exact absurd e (key k i hk hh)
      · rw [had k i hk hh, had k' i' hk' hg] at e
        exact h.2 k i k' i' hk hk' e
theorem PM_add (h : PM μ ok ad ce) {q : Nat} {c : va_E} (hq : μ q = none) (k0 i0 : Nat) (hok : ∀ k i, ok' k i → ¬ (k = k0 ∧ i = i0) → ok k i ∧ ad' k i = ad k i ∧ ce' k i = ce k i) (ha : ad' k0 i0 = q) (hc : ce' k0 i0 = c) : PM (sx_up μ q c) ok' ad' ce' := by
  have key : ∀ k i, ok k i → ad k i ≠ q := fun k i hk e => by
    have := h.1 k i hk
    rw [e, hq] at this
    cases this
  refine ⟨fun k i hk => ?_, fun k i k' i' hk hk' e => ?_⟩
  · by_cases hh : k = k0 ∧ i = i0
    · rw [hh.1, hh.2, ha, hc, sx_up_s]
    · obtain ⟨h1, h2, h3⟩ := hok k i hk hh
      rw [h2, h3, sx_up_n _ _ (key k i h1), h.1 k i h1]
  · by_cases hh : k = k0 ∧ i = i0
    · by_cases hg : k' = k0 ∧ i' = i0
      · exact ⟨hh.1.trans hg.1.symm, hh.2.trans hg.2.symm⟩
      · obtain ⟨h1, h2, h3⟩ := hok k' i' hk' hg
        rw [hh.1, hh.2, ha, h2] at e
        exact absurd e.symm (key k' i' h1)
    · obtain ⟨h1, h2, h3⟩ := hok k i hk hh
      by_cases hg : k' = k0 ∧ i' = i0
      · rw [hg.1, hg.2, ha, h2] at e
        exact absurd e (key k i h1)
      · obtain ⟨h4, h5, h6⟩ := hok k' i' hk' hg
        rw [h2, h5] at e
        exact h.2 k i k' i' h1 h4 e
theorem PM_mono (h : PM μ ok ad ce) (hok : ∀ k i, ok' k i → ok k i ∧ ad' k i = ad k i ∧ ce' k i = ce k i) : PM μ ok' ad' ce' :=
  ⟨fun k i hk => by obtain ⟨h1, h2, h3⟩ := hok k i hk; rw [h2, h3]; exact h.1 k i h1, fun k i k' i' hk hk' e => by
    obtain ⟨h1, h2, -⟩ := hok k i hk
    obtain ⟨h4, h5, -⟩ := hok k' i' hk'
    rw [h2, h5] at e
    exact h.2 k i k' i' h1 h4 e⟩
/-- many fresh cells of one kind -/
theorem PM_rows (h : PM μ ok ad ce) {μ' : sx_M} {r : Nat → Nat} {N : Nat} (k0 : Nat) (hr : ∀ i j, i < N → j < N → r i = r j → i = j) (hf : ∀ i, i < N → μ (r i) = none) (hn : ∀ i, i < N → μ' (r i) = some (ce' k0 i)) (hold : ∀ q e, μ q = some e → μ' q = some e) (hok : ∀ k i, ok' k i → (k = k0 ∧ i < N ∧ ad' k i = r i) ∨ (k ≠ k0 ∧ ok k i ∧ ad' k i = ad k i ∧ ce' k i = ce k i)) : PM μ' ok' ad' ce' := by
  have key : ∀ k i j, ok k i → j < N → ad k i ≠ r j := fun k i j hk hj e => by
    have := h.1 k i hk
    rw [e, hf j hj] at this
    cases this
  refine ⟨fun k i hk => ?_, fun k i k' i' hk hk' e => ?_⟩
  · rcases hok k i hk with ⟨h1, h2, h3⟩ | ⟨h1, h2, h3, h4⟩
    · rw [h3, hn i h2, h1]
    · rw [h3, h4]; exact hold _ _ (h.1 k i h2)
  · rcases hok k i hk with ⟨h1, h2, h3⟩ | ⟨h1, h2, h3, h4⟩ <;> rcases hok k' i' hk' with ⟨g1, g2, g3⟩ | ⟨g1, g2, g3, g4⟩
    · rw [h3, g3] at e
      exact ⟨h1.trans g1.symm, hr i i' h2 g2 e⟩
    · rw [h3, g3] at e
      exact absurd e.symm (key k' i' i g2 h2)
    · rw [h3, g3] at e
      exact absurd e (key k i i' h2 g2)
    · rw [h3, g3] at e
      exact h.2 k i k' i' h2 g2 e
end PMS
theorem va_up_o {α : Type} (f : Nat → α) {i j : Nat} (x : α) (h : ¬ j = i) : va_up f i x j = f j := if_neg h
theorem va_up_s {α : Type} (f : Nat → α) (i : Nat) (x : α) : va_up f i x i = x := if_pos rfl
/-- the number of cells of a kind -/
def cnC : Nat → Nat
  | 2 => 40
  | 3 => 40
  | 4 => 40
  | 6 => 40
  | _ => 1
def okC (k i : Nat) : Prop := k < 10 ∧ i < cnC k
def up2 {α : Type} (f : Nat → Nat → α) (k i : Nat) (x : α) : Nat → Nat → α := fun a b => if a = k ∧ b = i then x else f a b
theorem up2_s {α : Type} (f : Nat → Nat → α) (k i : Nat) (x : α) : up2 f k i x k i = x := if_pos ⟨rfl, rfl⟩
theorem up2_n {α : Type} (f : Nat → Nat → α) {k i a b : Nat} (x : α) (h : ¬ (a = k ∧ b = i)) : up2 f k i x a b = f a b := if_neg h

def adC (ad : Nat → Nat → Nat) (ro : Nat → Nat) (ur : Nat) : Nat → Nat → Nat
  | 4, e => ro e
  | 8, _ => ur
  | k, e => ad k e
def ceC (tc : Nat → ClassId) (ad : Nat → Nat → Nat) (ro : Nat → Nat) (ur : Nat) (W : Nat) (u : Nat) (ln : Nat → Nat) (rf : Nat → Nat → Int64) (sc : Nat → Nat → Int32) (uk : Bool) (ul : Nat) (uf : Nat → Int64) (sf : Nat → Int64) (ed : Nat → Nat → Nat) : Nat → Nat → va_E
  | 0, _ => .inr (2, [.int (nI W), .ref (ad 1 0), .int (nI u), .ref (ad 5 0), .ref (ad 7 0), .int (b2i uk), .ref (ad 9 0)])
  | 1, _ => .inl (tc 2, 40, .inr (.inr (.inr (.inr (fun e => if e < 40 then some (ad 2 e) else none)))))
  | 2, e => .inr (0, [.ref (ad 3 e), .int (nI (ed 0 e)), .int (nI (ed 1 e)), .int (nI (ed 2 e)), .int (nI (ed 3 e)), .int (nI (ed 4 e))])
  | 3, e => .inr (1, [.int (nI W), .ref (ro e)])
  | 4, e => .inl (tc 1, ln e, .inr (.inl (rf e)))
  | 5, _ => .inl (tc 3, 40, .inr (.inr (.inr (.inr (fun e => if e < 40 then some (ad 6 e) else none)))))
  | 6, e => .inl (tc 0, 40, .inl (sc e))
  | 7, _ => .inr (1, [.int (nI W), .ref ur])
  | 8, _ => .inl (tc 1, ul, .inr (.inl uf))
  | _, _ => .inl (tc 1, 40, .inr (.inl sf))
def CS (tc : Nat → ClassId) (μ : sx_M) (ad : Nat → Nat → Nat) (ro : Nat → Nat) (ur : Nat) (W : Nat) (u : Nat) (ln : Nat → Nat) (rf : Nat → Nat → Int64) (sc : Nat → Nat → Int32) (uk : Bool) (ul : Nat) (uf : Nat → Int64) (sf : Nat → Int64) (ed : Nat → Nat → Nat) : Prop := PM μ okC (adC ad ro ur) (ceC tc ad ro ur W u ln rf sc uk ul uf sf ed)
def edV (v0 v1 v2 v3 v4 : Nat) : Nat → Nat
  | 0 => v0
  | 1 => v1
  | 2 => v2
  | 3 => v3
  | _ => v4
def edU (ed : Nat → Nat → Nat) (i v0 v1 v2 v3 v4 : Nat) : Nat → Nat → Nat := fun j k => if k = i then edV v0 v1 v2 v3 v4 j else ed j k
theorem edU_s (ed : Nat → Nat → Nat) (i v0 v1 v2 v3 v4 j : Nat) : edU ed i v0 v1 v2 v3 v4 j i = edV v0 v1 v2 v3 v4 j := if_pos rfl
theorem edU_n (ed : Nat → Nat → Nat) {i k : Nat} (v0 v1 v2 v3 v4 j : Nat) (h : ¬ k = i) : edU ed i v0 v1 v2 v3 v4 j k = ed j k := if_neg h
section CSS
variable {tc : Nat → ClassId} {μ : sx_M} {ad : Nat → Nat → Nat} {ro : Nat → Nat} {ur : Nat} {W : Nat} {u : Nat} {ln : Nat → Nat} {rf : Nat → Nat → Int64} {sc : Nat → Nat → Int32} {uk : Bool} {ul : Nat} {uf : Nat → Int64} {sf : Nat → Int64} {ed : Nat → Nat → Nat}
theorem CS_f0 (h : CS tc μ ad ro ur W u ln rf sc uk ul uf sf ed) : μ (ad 0 0) = some (.inr (2, [.int (nI W), .ref (ad 1 0), .int (nI u), .ref (ad 5 0), .ref (ad 7 0), .int (b2i uk), .ref (ad 9 0)])) := h.1 0 0 ⟨by decide, by decide⟩
theorem CS_f1 (h : CS tc μ ad ro ur W u ln rf sc uk ul uf sf ed) : μ (ad 1 0) = some (.inl (tc 2, 40, .inr (.inr (.inr (.inr (fun e => if e < 40 then some (ad 2 e) else none)))))) := h.1 1 0 ⟨by decide, by decide⟩
theorem CS_f2 (h : CS tc μ ad ro ur W u ln rf sc uk ul uf sf ed) {e : Nat} (he : e < 40) : μ (ad 2 e) = some (.inr (0, [.ref (ad 3 e), .int (nI (ed 0 e)), .int (nI (ed 1 e)), .int (nI (ed 2 e)), .int (nI (ed 3 e)), .int (nI (ed 4 e))])) := h.1 2 e ⟨by decide, he⟩
theorem CS_f3 (h : CS tc μ ad ro ur W u ln rf sc uk ul uf sf ed) {e : Nat} (he : e < 40) : μ (ad 3 e) = some (.inr (1, [.int (nI W), .ref (ro e)])) := h.1 3 e ⟨by decide, he⟩
theorem CS_f4 (h : CS tc μ ad ro ur W u ln rf sc uk ul uf sf ed) {e : Nat} (he : e < 40) : μ (ro e) = some (.inl (tc 1, ln e, .inr (.inl (rf e)))) := h.1 4 e ⟨by decide, he⟩
theorem CS_f5 (h : CS tc μ ad ro ur W u ln rf sc uk ul uf sf ed) : μ (ad 5 0) = some (.inl (tc 3, 40, .inr (.inr (.inr (.inr (fun e => if e < 40 then some (ad 6 e) else none)))))) := h.1 5 0 ⟨by decide, by decide⟩
theorem CS_f6 (h : CS tc μ ad ro ur W u ln rf sc uk ul uf sf ed) {e : Nat} (he : e < 40) : μ (ad 6 e) = some (.inl (tc 0, 40, .inl (sc e))) := h.1 6 e ⟨by decide, he⟩
theorem CS_f7 (h : CS tc μ ad ro ur W u ln rf sc uk ul uf sf ed) : μ (ad 7 0) = some (.inr (1, [.int (nI W), .ref ur])) := h.1 7 0 ⟨by decide, by decide⟩
theorem CS_f8 (h : CS tc μ ad ro ur W u ln rf sc uk ul uf sf ed) : μ ur = some (.inl (tc 1, ul, .inr (.inl uf))) := h.1 8 0 ⟨by decide, by decide⟩
theorem CS_f9 (h : CS tc μ ad ro ur W u ln rf sc uk ul uf sf ed) : μ (ad 9 0) = some (.inl (tc 1, 40, .inr (.inl sf))) := h.1 9 0 ⟨by decide, by decide⟩
theorem CS_ne (h : CS tc μ ad ro ur W u ln rf sc uk ul uf sf ed) {k i k' i' : Nat} (h1 : okC k i) (h2 : okC k' i') (hn : ¬ (k = k' ∧ i = i')) : adC ad ro ur k i ≠ adC ad ro ur k' i' := fun e => hn (h.2 k i k' i' h1 h2 e)
theorem CS_u (h : CS tc μ ad ro ur W u ln rf sc uk ul uf sf ed) (u' : Nat) : CS tc (sx_up μ (ad 0 0) (.inr (2, [.int (nI W), .ref (ad 1 0), .int (nI u'), .ref (ad 5 0), .ref (ad 7 0), .int (b2i uk), .ref (ad 9 0)]))) ad ro ur W (u') ln rf sc uk ul uf sf ed := by
  have := PM_up (ce' := ceC tc ad ro ur W (u') ln rf sc uk ul uf sf ed) h 0 0 ⟨by decide, by decide⟩ (fun k i hk hne => by
    obtain ⟨hk1, hk2⟩ := hk
    rcases k with _ | _ | _ | _ | _ | _ | _ | _ | _ | _ | k <;> first | rfl | (exfalso; omega) | (exact absurd ⟨rfl, Nat.lt_one_iff.mp hk2⟩ hne) | (have hie : ¬ i = 0 := (fun z => hne ⟨rfl, z⟩); simp [ceC, va_up, up2, edU, edV, hie]))
  first | exact this | (unfold CS; simpa [ceC, adC, va_up_s, up2, edU, edV] using this)
theorem CS_uk (h : CS tc μ ad ro ur W u ln rf sc uk ul uf sf ed) (uk' : Bool) : CS tc (sx_up μ (ad 0 0) (.inr (2, [.int (nI W), .ref (ad 1 0), .int (nI u), .ref (ad 5 0), .ref (ad 7 0), .int (b2i uk'), .ref (ad 9 0)]))) ad ro ur W u ln rf sc (uk') ul uf sf ed := by
  have := PM_up (ce' := ceC tc ad ro ur W u ln rf sc (uk') ul uf sf ed) h 0 0 ⟨by decide, by decide⟩ (fun k i hk hne => by
    obtain ⟨hk1, hk2⟩ := hk
    rcases k with _ | _ | _ | _ | _ | _ | _ | _ | _ | _ | k <;> first | rfl | (exfalso; omega) | (exact absurd ⟨rfl, Nat.lt_one_iff.mp hk2⟩ hne) | (have hie : ¬ i = 0 := (fun z => hne ⟨rfl, z⟩); simp [ceC, va_up, up2, edU, edV, hie]))
  first | exact this | (unfold CS; simpa [ceC, adC, va_up_s, up2, edU, edV] using this)
theorem CS_rf (h : CS tc μ ad ro ur W u ln rf sc uk ul uf sf ed) {e : Nat} (he : e < 40) (g : Nat → Int64) : CS tc (sx_up μ (ro e) (.inl (tc 1, ln e, .inr (.inl g)))) ad ro ur W u ln (va_up rf e g) sc uk ul uf sf ed := by
  have := PM_up (ce' := ceC tc ad ro ur W u ln (va_up rf e g) sc uk ul uf sf ed) h 4 e ⟨by decide, he⟩ (fun k i hk hne => by
    obtain ⟨hk1, hk2⟩ := hk
    rcases k with _ | _ | _ | _ | _ | _ | _ | _ | _ | _ | k <;> first | rfl | (exfalso; omega) | (exact absurd ⟨rfl, Nat.lt_one_iff.mp hk2⟩ hne) | (have hie : ¬ i = e := (fun z => hne ⟨rfl, z⟩); simp [ceC, va_up, up2, edU, edV, hie]))
  first | exact this | (unfold CS; simpa [ceC, adC, va_up_s, up2, edU, edV] using this)
theorem CS_sc (h : CS tc μ ad ro ur W u ln rf sc uk ul uf sf ed) {e : Nat} (he : e < 40) (g : Nat → Int32) : CS tc (sx_up μ (ad 6 e) (.inl (tc 0, 40, .inl g))) ad ro ur W u ln rf (va_up sc e g) uk ul uf sf ed := by
  have := PM_up (ce' := ceC tc ad ro ur W u ln rf (va_up sc e g) uk ul uf sf ed) h 6 e ⟨by decide, he⟩ (fun k i hk hne => by
    obtain ⟨hk1, hk2⟩ := hk
    rcases k with _ | _ | _ | _ | _ | _ | _ | _ | _ | _ | k <;> first | rfl | (exfalso; omega) | (exact absurd ⟨rfl, Nat.lt_one_iff.mp hk2⟩ hne) | (have hie : ¬ i = e := (fun z => hne ⟨rfl, z⟩); simp [ceC, va_up, up2, edU, edV, hie]))
  first | exact this | (unfold CS; simpa [ceC, adC, va_up_s, up2, edU, edV] using this)
theorem CS_uf (h : CS tc μ ad ro ur W u ln rf sc uk ul uf sf ed) (g : Nat → Int64) : CS tc (sx_up μ ur (.inl (tc 1, ul, .inr (.inl g)))) ad ro ur W u ln rf sc uk ul (g) sf ed := by
  have := PM_up (ce' := ceC tc ad ro ur W u ln rf sc uk ul (g) sf ed) h 8 0 ⟨by decide, by decide⟩ (fun k i hk hne => by
    obtain ⟨hk1, hk2⟩ := hk
    rcases k with _ | _ | _ | _ | _ | _ | _ | _ | _ | _ | k <;> first | rfl | (exfalso; omega) | (exact absurd ⟨rfl, Nat.lt_one_iff.mp hk2⟩ hne) | (have hie : ¬ i = 0 := (fun z => hne ⟨rfl, z⟩); simp [ceC, va_up, up2, edU, edV, hie]))
  first | exact this | (unfold CS; simpa [ceC, adC, va_up_s, up2, edU, edV] using this)
theorem CS_sf (h : CS tc μ ad ro ur W u ln rf sc uk ul uf sf ed) (g : Nat → Int64) : CS tc (sx_up μ (ad 9 0) (.inl (tc 1, 40, .inr (.inl g)))) ad ro ur W u ln rf sc uk ul uf (g) ed := by
  have := PM_up (ce' := ceC tc ad ro ur W u ln rf sc uk ul uf (g) ed) h 9 0 ⟨by decide, by decide⟩ (fun k i hk hne => by
    obtain ⟨hk1, hk2⟩ := hk
    rcases k with _ | _ | _ | _ | _ | _ | _ | _ | _ | _ | k <;> first | rfl | (exfalso; omega) | (exact absurd ⟨rfl, Nat.lt_one_iff.mp hk2⟩ hne) | (have hie : ¬ i = 0 := (fun z => hne ⟨rfl, z⟩); simp [ceC, va_up, up2, edU, edV, hie]))
  first | exact this | (unfold CS; simpa [ceC, adC, va_up_s, up2, edU, edV] using this)
theorem CS_ed0 (h : CS tc μ ad ro ur W u ln rf sc uk ul uf sf ed) {e : Nat} (he : e < 40) (v : Nat) : CS tc (sx_up μ (ad 2 e) (.inr (0, [.ref (ad 3 e), .int (nI v), .int (nI (ed 1 e)), .int (nI (ed 2 e)), .int (nI (ed 3 e)), .int (nI (ed 4 e))]))) ad ro ur W u ln rf sc uk ul uf sf (up2 ed 0 e v) := by
  have := PM_up (ce' := ceC tc ad ro ur W u ln rf sc uk ul uf sf (up2 ed 0 e v)) h 2 e ⟨by decide, he⟩ (fun k i hk hne => by
    obtain ⟨hk1, hk2⟩ := hk
    rcases k with _ | _ | _ | _ | _ | _ | _ | _ | _ | _ | k <;> first | rfl | (exfalso; omega) | (exact absurd ⟨rfl, Nat.lt_one_iff.mp hk2⟩ hne) | (have hie : ¬ i = e := (fun z => hne ⟨rfl, z⟩); simp [ceC, va_up, up2, edU, edV, hie]))
  first | exact this | (unfold CS; simpa [ceC, adC, va_up_s, up2, edU, edV] using this)
theorem CS_ed1 (h : CS tc μ ad ro ur W u ln rf sc uk ul uf sf ed) {e : Nat} (he : e < 40) (v : Nat) : CS tc (sx_up μ (ad 2 e) (.inr (0, [.ref (ad 3 e), .int (nI (ed 0 e)), .int (nI v), .int (nI (ed 2 e)), .int (nI (ed 3 e)), .int (nI (ed 4 e))]))) ad ro ur W u ln rf sc uk ul uf sf (up2 ed 1 e v) := by
  have := PM_up (ce' := ceC tc ad ro ur W u ln rf sc uk ul uf sf (up2 ed 1 e v)) h 2 e ⟨by decide, he⟩ (fun k i hk hne => by
    obtain ⟨hk1, hk2⟩ := hk
    rcases k with _ | _ | _ | _ | _ | _ | _ | _ | _ | _ | k <;> first | rfl | (exfalso; omega) | (exact absurd ⟨rfl, Nat.lt_one_iff.mp hk2⟩ hne) | (have hie : ¬ i = e := (fun z => hne ⟨rfl, z⟩); simp [ceC, va_up, up2, edU, edV, hie]))
  first | exact this | (unfold CS; simpa [ceC, adC, va_up_s, up2, edU, edV] using this)
theorem CS_ed2 (h : CS tc μ ad ro ur W u ln rf sc uk ul uf sf ed) {e : Nat} (he : e < 40) (v : Nat) : CS tc (sx_up μ (ad 2 e) (.inr (0, [.ref (ad 3 e), .int (nI (ed 0 e)), .int (nI (ed 1 e)), .int (nI v), .int (nI (ed 3 e)), .int (nI (ed 4 e))]))) ad ro ur W u ln rf sc uk ul uf sf (up2 ed 2 e v) := by
  have := PM_up (ce' := ceC tc ad ro ur W u ln rf sc uk ul uf sf (up2 ed 2 e v)) h 2 e ⟨by decide, he⟩ (fun k i hk hne => by
    obtain ⟨hk1, hk2⟩ := hk
    rcases k with _ | _ | _ | _ | _ | _ | _ | _ | _ | _ | k <;> first | rfl | (exfalso; omega) | (exact absurd ⟨rfl, Nat.lt_one_iff.mp hk2⟩ hne) | (have hie : ¬ i = e := (fun z => hne ⟨rfl, z⟩); simp [ceC, va_up, up2, edU, edV, hie]))
  first | exact this | (unfold CS; simpa [ceC, adC, va_up_s, up2, edU, edV] using this)
theorem CS_ed3 (h : CS tc μ ad ro ur W u ln rf sc uk ul uf sf ed) {e : Nat} (he : e < 40) (v : Nat) : CS tc (sx_up μ (ad 2 e) (.inr (0, [.ref (ad 3 e), .int (nI (ed 0 e)), .int (nI (ed 1 e)), .int (nI (ed 2 e)), .int (nI v), .int (nI (ed 4 e))]))) ad ro ur W u ln rf sc uk ul uf sf (up2 ed 3 e v) := by
  have := PM_up (ce' := ceC tc ad ro ur W u ln rf sc uk ul uf sf (up2 ed 3 e v)) h 2 e ⟨by decide, he⟩ (fun k i hk hne => by
    obtain ⟨hk1, hk2⟩ := hk
    rcases k with _ | _ | _ | _ | _ | _ | _ | _ | _ | _ | k <;> first | rfl | (exfalso; omega) | (exact absurd ⟨rfl, Nat.lt_one_iff.mp hk2⟩ hne) | (have hie : ¬ i = e := (fun z => hne ⟨rfl, z⟩); simp [ceC, va_up, up2, edU, edV, hie]))
  first | exact this | (unfold CS; simpa [ceC, adC, va_up_s, up2, edU, edV] using this)
theorem CS_ed4 (h : CS tc μ ad ro ur W u ln rf sc uk ul uf sf ed) {e : Nat} (he : e < 40) (v : Nat) : CS tc (sx_up μ (ad 2 e) (.inr (0, [.ref (ad 3 e), .int (nI (ed 0 e)), .int (nI (ed 1 e)), .int (nI (ed 2 e)), .int (nI (ed 3 e)), .int (nI v)]))) ad ro ur W u ln rf sc uk ul uf sf (up2 ed 4 e v) := by
  have := PM_up (ce' := ceC tc ad ro ur W u ln rf sc uk ul uf sf (up2 ed 4 e v)) h 2 e ⟨by decide, he⟩ (fun k i hk hne => by
    obtain ⟨hk1, hk2⟩ := hk
    rcases k with _ | _ | _ | _ | _ | _ | _ | _ | _ | _ | k <;> first | rfl | (exfalso; omega) | (exact absurd ⟨rfl, Nat.lt_one_iff.mp hk2⟩ hne) | (have hie : ¬ i = e := (fun z => hne ⟨rfl, z⟩); simp [ceC, va_up, up2, edU, edV, hie]))
  first | exact this | (unfold CS; simpa [ceC, adC, va_up_s, up2, edU, edV] using this)
theorem CS_edA (h : CS tc μ ad ro ur W u ln rf sc uk ul uf sf ed) {e : Nat} (he : e < 40) (v0 v1 v2 v3 v4 : Nat) : CS tc (sx_up μ (ad 2 e) (.inr (0, [.ref (ad 3 e), .int (nI v0), .int (nI v1), .int (nI v2), .int (nI v3), .int (nI v4)]))) ad ro ur W u ln rf sc uk ul uf sf (edU ed e v0 v1 v2 v3 v4) := by
  have := PM_up (ce' := ceC tc ad ro ur W u ln rf sc uk ul uf sf (edU ed e v0 v1 v2 v3 v4)) h 2 e ⟨by decide, he⟩ (fun k i hk hne => by
    obtain ⟨hk1, hk2⟩ := hk
    rcases k with _ | _ | _ | _ | _ | _ | _ | _ | _ | _ | k <;> first | rfl | (exfalso; omega) | (exact absurd ⟨rfl, Nat.lt_one_iff.mp hk2⟩ hne) | (have hie : ¬ i = e := (fun z => hne ⟨rfl, z⟩); simp [ceC, va_up, up2, edU, edV, hie]))
  first | exact this | (unfold CS; simpa [ceC, adC, va_up_s, up2, edU, edV] using this)
theorem CS_ro (h : CS tc μ ad ro ur W u ln rf sc uk ul uf sf ed) {e : Nat} (he : e < 40) (r2 n2 : Nat) (g : Nat → Int64) (hr : r2 = (ro e) ∨ μ r2 = none) : CS tc (sx_up (sx_up μ (ad 3 e) (.inr (1, [.int (nI W), .ref r2]))) r2 (.inl (tc 1, n2, .inr (.inl g)))) ad (va_up ro e r2) ur W u (va_up ln e n2) (va_up rf e g) sc uk ul uf sf ed := by
  have := PM_re (ad' := adC ad (va_up ro e r2) ur) (ce' := ceC tc ad (va_up ro e r2) ur W u (va_up ln e n2) (va_up rf e g) sc uk ul uf sf ed) h 3 e 4 e ⟨by decide, he⟩ ⟨by decide, he⟩ (by omega) (fun k i hk hn => by
    obtain ⟨hk1, hk2⟩ := hk
    rcases k with _ | _ | _ | _ | _ | _ | _ | _ | _ | _ | k <;> first | rfl | (exfalso; omega) | (exact absurd ⟨rfl, Nat.lt_one_iff.mp hk2⟩ hn) | (have hi1 : ¬ i = e := (fun z => hn ⟨rfl, z⟩); simp [adC, va_up, hi1])) (by simpa [adC, va_up_s] using hr) (fun k i hk hn1 hn2 => by
    obtain ⟨hk1, hk2⟩ := hk
    rcases k with _ | _ | _ | _ | _ | _ | _ | _ | _ | _ | k <;> first | rfl | (exfalso; omega) | (exact absurd ⟨rfl, Nat.lt_one_iff.mp hk2⟩ hn1) | (exact absurd ⟨rfl, Nat.lt_one_iff.mp hk2⟩ hn2) | (have hi1 : ¬ i = e := (fun z => hn1 ⟨rfl, z⟩); simp [ceC, va_up, up2, hi1]) | (have hi1 : ¬ i = e := (fun z => hn2 ⟨rfl, z⟩); simp [ceC, va_up, up2, hi1]) | simp [ceC, va_up, up2])
  unfold CS
  simpa [ceC, adC, va_up_s, up2] using this
theorem CS_ur (h : CS tc μ ad ro ur W u ln rf sc uk ul uf sf ed) (r2 n2 : Nat) (g : Nat → Int64) (hr : r2 = ur ∨ μ r2 = none) : CS tc (sx_up (sx_up μ (ad 7 0) (.inr (1, [.int (nI W), .ref r2]))) r2 (.inl (tc 1, n2, .inr (.inl g)))) ad ro (r2) W u ln rf sc uk (n2) (g) sf ed := by
  have := PM_re (ad' := adC ad ro r2) (ce' := ceC tc ad ro (r2) W u ln rf sc uk (n2) (g) sf ed) h 7 0 8 0 ⟨by decide, by decide⟩ ⟨by decide, by decide⟩ (by omega) (fun k i hk hn => by
    obtain ⟨hk1, hk2⟩ := hk
    rcases k with _ | _ | _ | _ | _ | _ | _ | _ | _ | _ | k <;> first | rfl | (exfalso; omega) | (exact absurd ⟨rfl, Nat.lt_one_iff.mp hk2⟩ hn) | (have hi1 : ¬ i = 0 := (fun z => hn ⟨rfl, z⟩); simp [adC, va_up, hi1])) (by simpa [adC, va_up_s] using hr) (fun k i hk hn1 hn2 => by
    obtain ⟨hk1, hk2⟩ := hk
    rcases k with _ | _ | _ | _ | _ | _ | _ | _ | _ | _ | k <;> first | rfl | (exfalso; omega) | (exact absurd ⟨rfl, Nat.lt_one_iff.mp hk2⟩ hn1) | (exact absurd ⟨rfl, Nat.lt_one_iff.mp hk2⟩ hn2) | (have hi1 : ¬ i = 0 := (fun z => hn1 ⟨rfl, z⟩); simp [ceC, va_up, up2, hi1]) | (have hi1 : ¬ i = 0 := (fun z => hn2 ⟨rfl, z⟩); simp [ceC, va_up, up2, hi1]) | simp [ceC, va_up, up2])
  unfold CS
  simpa [ceC, adC, va_up_s, up2] using this
end CSS
