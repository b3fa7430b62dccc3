theorem mna_nm : "[" ++ (FieldType.array FieldType.int).toString = "[[I" := by decide +kernel
theorem mna_in : (FieldType.array FieldType.int).toString = "[" ++ FieldType.int.toString := by decide +kernel
theorem sx_L_of {A : Nat → Prop} {ws : va_W} (hD : va_D A ws) : sx_L (fun a => (ws.find? (fun q => q.1 == a)).map (fun q => q.2)) ws := by
  intro a e
  show (ws.find? (fun q => q.1 == a)).map (fun q => q.2) = some e ↔ _
  constructor
  · intro h
    cases hf : ws.find? (fun q => q.1 == a) with
    | none => rw [hf] at h; cases h
    | some p =>
      rw [hf] at h
      obtain ⟨k, hk⟩ := List.getElem?_of_mem (List.mem_of_find?_eq_some hf)
      have hp := List.find?_some hf
      have e1 : p.1 = a := by simpa using hp
      have e2 : p.2 = e := by simpa using h
      exact ⟨k, by rw [hk, ← e1, ← e2]⟩
  · rintro ⟨k, hk⟩
    cases hf : ws.find? (fun q => q.1 == a) with
    | none =>
      have := List.find?_eq_none.mp hf (a, e) (List.mem_of_getElem? hk)
      simp at this
    | some p =>
      obtain ⟨j, hj⟩ := List.getElem?_of_mem (List.mem_of_find?_eq_some hf)
      have hp := List.find?_some hf
      have e1 : p.1 = a := by simpa using hp
      have := hD.1 j k p (a, e) hj hk e1
      subst this
      rw [hk] at hj
      cases hj
      rfl
section MNA
variable {p : Program} {l : Launch} {e : Env} {R : Room} {s : State} {m : MethodId} {args : Array Value} {below : List Frame} {meth : Method} {c : Code} {cc : ByteArray} {nL : Nat} {own : String} {Ts : List Cond} {D : va_G} {cl : List vw_C} {tys : List (ClassId × FieldType)} {E : (Nat → Prop) → State → Heap → Prop} {A : Nat → Prop} {cells slots : Nat} {Q : State → Prop} {μ : sx_M} {pc : Nat} {lv : List (Option Value)} {rest : List Value}
theorem sx_mna (C : sx_C p s m args c cc nL own Ts D cl tys E A) {index : Nat} {cA cy : ClassId} {n k : Int32} {N K : Nat} (hd : decode cc pc = .ok (.multianewarray index 2, 4)) (hclink : (Cond.classLink own index "[[I").before args s = true) (hover : va_AOA .int s) (harr : (Cond.arrayClass .int).before args s = true) (t0 : Nat) (ht : tys[t0]? = some (cA, .array .int)) (t1 : Nat) (ht1 : tys[t1]? = some (cy, .int)) (hn : n = nI N) (hk : k = nI K) (hN : N ≤ 1000000) (hK : K ≤ 1000000) (hcells : cells + (1 + N) ≤ R.cells) (hslots : slots + (N + N * K) ≤ R.slots)
    (kk : ∀ (q : Nat) (r : Nat → Nat) (μ' : sx_M), (∀ i j, i < N → j < N → r i = r j → i = j) → μ q = none → (∀ i, i < N → μ (r i) = none ∧ r i ≠ q) → μ' q = some (.inl (cA, N, .inr (.inr (.inr (.inr (fun i => if i < N then some (r i) else none)))))) → (∀ i, i < N → μ' (r i) = some (.inl (cy, K, .inl (fun _ => 0)))) → (∀ a x, μ a = some x → μ' a = some x) → SW p l e R s m args below meth c nL D cl A (cells + 1 + N) (slots + N + N * K) Q μ' (pc + 4) lv (.ref q :: rest)) : SW p l e R s m args below meth c nL D cl A cells slots Q μ pc lv (.int k :: .int n :: rest) := by
  intro H locs ls hH hS hl
  obtain ⟨ws, hP, hD, hL⟩ := id hH
  have hws : ws ++ va_pl [] (fun _ => (.inl (cy, K, .inl (fun _ => 0)) : va_E)) = ws := List.append_nil ws
  refine va_mna (X := ws) (L := []) (f := fun _ => (.inl (cy, K, .inl (fun _ => 0)) : va_E)) (z := (K, .inl (fun _ => 0))) C.1.1 C.1.2.1 C.1.2.2.2.1 (by rw [mna_nm]; exact hclink) hover harr (by rw [mna_in]; exact (C.2.1.2 t1 _ ht1).2) C.2.1 (by rw [hws]; exact hP) (by rw [hws]; exact hD) hS C.2.2.1 (by rw [hn]; exact nI_pos (by omega)) (by rw [hk]; exact nI_pos (by omega)) (by rw [hn]; exact nI_clamp (by omega)) (by rw [hk]; exact nI_clamp (by omega)) (by omega) (by show K * 4 ≤ _; omega) (by omega) rfl rfl hcells hslots (fun c0 => by show ({ cls := c0, slots := Array.replicate K (.int 0), vm := .none } : Cell) = _; rw [arrV_new]; rfl) hd ?_
  intro q r cB H1 hr _ hK1 hP1 hD1 hS1
  have e : cB = cA := by
    have h1 := (hK1.2 tys.length (cB, .array .int) (by rw [List.getElem?_append_right (Nat.le_refl _), Nat.sub_self]; rfl)).2
    have h2 := (C.2.1.2 t0 _ ht).2
    exact Option.some.inj (Eq.trans (Eq.symm h1) h2)
  subst e
  have hL1 := sx_L_of hD1
  generalize hμ1 : (fun a => (List.find? (fun q => q.1 == a) ((ws ++ [(q, (.inl (cB, N, .inr (.inr (.inr (.inr (fun i => if i < N then some (r i) else none))))) : va_E))]) ++ va_pl ([] ++ (List.range N).map r) (vr_up (fun _ => (.inl (cy, K, .inl (fun _ => 0)) : va_E)) ((List.range N).map r) (.inl (cy, (K, .inl (fun _ => 0))))))).map (fun q => q.2)) = μ1 at hL1
  have kq : ∃ j : Nat, ws.length ≤ j ∧ ((ws ++ [(q, (.inl (cB, N, .inr (.inr (.inr (.inr (fun i => if i < N then some (r i) else none))))) : va_E))]) ++ va_pl ([] ++ (List.range N).map r) (vr_up (fun _ => (.inl (cy, K, .inl (fun _ => 0)) : va_E)) ((List.range N).map r) (.inl (cy, (K, .inl (fun _ => 0))))))[j]? = some (q, .inl (cB, N, .inr (.inr (.inr (.inr (fun i => if i < N then some (r i) else none)))))) ∧ j < ws.length + 1 := by
    refine ⟨ws.length, Nat.le_refl _, ?_, Nat.lt_succ_self _⟩
    rw [List.getElem?_append_left (by rw [List.length_append]; exact Nat.lt_succ_self _), List.getElem?_append_right (Nat.le_refl _), Nat.sub_self]
    rfl
  have kr : ∀ i, i < N → ∃ j : Nat, ws.length + 1 ≤ j ∧ ((ws ++ [(q, (.inl (cB, N, .inr (.inr (.inr (.inr (fun i => if i < N then some (r i) else none))))) : va_E))]) ++ va_pl ([] ++ (List.range N).map r) (vr_up (fun _ => (.inl (cy, K, .inl (fun _ => 0)) : va_E)) ((List.range N).map r) (.inl (cy, (K, .inl (fun _ => 0))))))[j]? = some (r i, .inl (cy, K, .inl (fun _ => 0))) := by
    intro i hi
    have hm : (r i, (.inl (cy, K, .inl (fun _ => 0)) : va_E)) ∈ va_pl ([] ++ (List.range N).map r) (vr_up (fun _ => (.inl (cy, K, .inl (fun _ => 0)) : va_E)) ((List.range N).map r) (.inl (cy, (K, .inl (fun _ => 0))))) := by
      have hmem : r i ∈ (List.range N).map r := List.mem_map.mpr ⟨i, List.mem_range.mpr hi, rfl⟩
      exact List.mem_map.mpr ⟨r i, hmem, by rw [vr_up_in hmem]⟩
    obtain ⟨j, hj⟩ := List.getElem?_of_mem hm
    refine ⟨(ws ++ [(q, (.inl (cB, N, .inr (.inr (.inr (.inr (fun i => if i < N then some (r i) else none))))) : va_E))]).length + j, by rw [List.length_append]; exact Nat.le_add_right _ _, ?_⟩
    rw [List.getElem?_append_right (Nat.le_add_right _ _), Nat.add_sub_cancel_left]
    exact hj
  have kw : ∀ a x, μ a = some x → ∃ j : Nat, j < ws.length ∧ ((ws ++ [(q, (.inl (cB, N, .inr (.inr (.inr (.inr (fun i => if i < N then some (r i) else none))))) : va_E))]) ++ va_pl ([] ++ (List.range N).map r) (vr_up (fun _ => (.inl (cy, K, .inl (fun _ => 0)) : va_E)) ((List.range N).map r) (.inl (cy, (K, .inl (fun _ => 0))))))[j]? = some (a, x) := by
    intro a x ha
    obtain ⟨j, hj⟩ := (hL a x).mp ha
    have hlt := (List.getElem?_eq_some_iff.mp hj).1
    refine ⟨j, hlt, ?_⟩
    rw [List.getElem?_append_left (by rw [List.length_append]; omega), List.getElem?_append_left hlt]
    exact hj
  obtain ⟨jq, hq1, hq2, hq3⟩ := kq
  refine kk q r μ1 hr ?_ (fun i hi => ⟨?_, ?_⟩) ((hL1 _ _).mpr ⟨jq, hq2⟩) (fun i hi => ?_) (fun a x ha => ?_) H1 locs ls ⟨_, hP1, hD1, hL1⟩ hS1 hl
  · cases hz : μ q with
    | none => rfl
    | some x =>
      obtain ⟨j, h1, h2⟩ := kw q x hz
      have := hD1.1 j jq _ _ h2 hq2 rfl
      omega
  · cases hz : μ (r i) with
    | none => rfl
    | some x =>
      obtain ⟨j, h1, h2⟩ := kw _ x hz
      obtain ⟨j2, h3, h4⟩ := kr i hi
      have := hD1.1 j j2 _ _ h2 h4 rfl
      omega
  · intro z
    obtain ⟨j2, h3, h4⟩ := kr i hi
    have := hD1.1 j2 jq _ _ h4 hq2 z
    omega
  · obtain ⟨j2, h3, h4⟩ := kr i hi
    exact (hL1 _ _).mpr ⟨j2, h4⟩
  · obtain ⟨j, h1, h2⟩ := kw a x ha
    exact (hL1 _ _).mpr ⟨j, h2⟩
end MNA
