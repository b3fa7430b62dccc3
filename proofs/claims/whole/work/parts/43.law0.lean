/-! the script, and methods with handlers -/
def sxX (b L : Nat) (xs : Nat → Int32) (A : Nat → Prop) (U : State) (H : Heap) : Prop := va_X b L xs U H ∧ b < H.size ∧ ¬ A b
theorem sxX_ok (b L : Nat) (xs : Nat → Int32) : sx_Eok (sxX b L xs) := by
  refine ⟨fun A u U H hW h => ⟨va_X.moved hW.alike h.1, h.2⟩, fun A U H H1 hq h => ?_, fun A B U H hAB h => ⟨h.1, h.2.1, fun z => h.2.2 (hAB b z)⟩⟩
  have e := hq b h.2.1 h.2.2
  refine ⟨va_X.kept h.1 e, ?_, h.2.2⟩
  obtain ⟨scr, h1, -⟩ := h.1
  rw [← e] at h1
  exact (Array.getElem?_eq_some_iff.mp h1).1
section LW0
variable {p : Program} {l : Launch} {e : Env} {R : Room} {s : State} {m : MethodId} {args : Array Value} {below : List Frame} {meth : Method} {c : Code} {cc : ByteArray} {nL : Nat} {own : String} {Ts : List Cond} {D : va_G} {cl : List vw_C} {tys : List (ClassId × FieldType)} {E : (Nat → Prop) → State → Heap → Prop} {A : Nat → Prop} {cells slots : Nat} {Q : State → Prop} {μ : sx_M} {pc : Nat} {lv : List (Option Value)} {rest : List Value}
theorem sx_sld (C : sx_C p s m args c cc nL own Ts D cl tys E A) {b L j : Nat} {xs : Nat → Int32} {i : Int32} (hX : sxX b L xs A s s.heap) (hd : decode cc pc = .ok (.iaload, 1)) (hi : i = nI j) (hj : j < L) (hL : L < 2 ^ 31) (k : SW p l e R s m args below meth c nL D cl A cells slots Q μ (pc + 1) lv (.int (xs j) :: rest)) : SW p l e R s m args below meth c nL D cl A cells slots Q μ pc lv (.int i :: .ref b :: rest) := by
  intro H locs ls hH hS hl
  subst hi
  refine va_sld C.1.1 C.1.2.1 hX.1 hX.2.1 hX.2.2 hS (vp_in_nI hj hL) hd ?_
  rw [nI_clamp (Nat.lt_trans hj hL)]
  exact k H locs ls hH hS hl
theorem sx_slen (C : sx_C p s m args c cc nL own Ts D cl tys E A) {b L : Nat} {xs : Nat → Int32} (hX : sxX b L xs A s s.heap) (hd : decode cc pc = .ok (.arraylength, 1)) (k : SW p l e R s m args below meth c nL D cl A cells slots Q μ (pc + 1) lv (.int (nI L) :: rest)) : SW p l e R s m args below meth c nL D cl A cells slots Q μ pc lv (.ref b :: rest) :=
  fun H locs ls hH hS hl => va_slen C.1.1 C.1.2.1 hX.1 hX.2.1 hX.2.2 hS hd (k H locs ls hH hS hl)
variable {ν : sx_M} {y : MethodName} {ws : List Cond} {rm : Room} {mc ms n index maxL : Nat} {bytes : ByteArray} {ret : Option FieldType} {As st0 : List Value} {hh : List (Nat × Nat × Nat × Nat)}
theorem sx_runSW (C : sx_C p s m args c cc nL own Ts D cl tys E A) {Qc : Nat → Array Value → State → Outcome → State → Prop} (hν : ∀ q e, ν q = some e → μ q = some e) (hM : ∀ sz, Met l y ws rm (va_Pc As (sx_Pre D cl tys E ν sz)) (Qc sz) mc ms (sx_A ν sz)) (cw : vx_CSW R s args own index y bytes maxL ret hh ws rm mc ms n) (hn : As.length = n) (hst : st0 = As.reverse ++ rest) (hrm : (rest.map fun v => v.category).sum ≤ 8) (hd : decode cc pc = .ok (.invokestatic index, 3)) (hf : cells + mc ≤ R.cells ∧ slots + ms ≤ R.slots) :
    sx_Run p l e R s m args below meth c nL D cl A cells slots mc ms μ ν pc lv st0 rest (fun sz => Qc sz As.toArray) := by
  intro H locs ls hH hS hl
  subst hst
  exact vx_runSW (As := As) (rest := rest) C.1 (hM H.size) cw ⟨sx_blind C.2.2.2.2, fun U hU hW => ⟨rfl, sx_preU C hν hH hS U hU hW⟩⟩ rfl hn hl.1 rfl (lv_room hrm) hd hf
end LW0
section LW1
variable {R : Room} {s : State} {args : Array Value} {own : String} {index maxL mc ms : Nat} {y : MethodName} {bytes : ByteArray} {ret : Option FieldType} {rm : Room} {c0 : Cond} {hh : List (Nat × Nat × Nat × Nat)}
variable {p : Program} {m : MethodId} {c : Code} {cc : ByteArray} {nL : Nat} {D : va_G} {cl : List vw_C} {tys : List (ClassId × FieldType)} {E : (Nat → Prop) → State → Heap → Prop} {A : Nat → Prop}
theorem sx_cwSW (C : sx_C p s m args c cc nL own (c0 :: sxW) D cl tys E A) (n : Nat) (h1 : Cond.methodLink own index y ∈ sxW) (h2 : Cond.static y ∈ sxW) (h4 : Cond.initialized y.cls ∈ sxW) (h5 : Cond.codeWith y bytes maxL ret hh ∈ sxW) (hrc : rm.cells = mc) (hrs : rm.slots = ms) (hd : y.cls ≠ "java/lang/invoke/MethodHandle" ∧ y.cls ≠ "java/lang/invoke/VarHandle" ∧ (parseMethodDescriptor y.desc).map (fun d => d.parameters.length) = some n) (hR : rm.frames + 1 ≤ R.frames ∧ 8 + (maxL + 11) + rm.locals ≤ R.locals) : vx_CSW R s args own index y bytes maxL ret hh (Cond.codeWith y bytes maxL ret hh :: sxW) rm mc ms n := by
  refine vx_cwSW n C.1.2.2.2.2 (sxW_sub ?_) rfl hrc hrs hd hR
  intro w hw
  unfold va_wsS at hw
  rcases List.mem_append.mp hw with h | h
  · simp only [List.mem_cons, List.mem_nil_iff, or_false] at h
    rcases h with h | h | h <;> (rw [h]; assumption)
  · rcases List.mem_cons.mp h with h | h
    · rw [h]; exact h5
    · exact h
end LW1
theorem sx_ofiWQ {l : Launch} {y : MethodName} {ws ws' : List Cond} {rm : Room} {D : va_G} {cl : List vw_C} {tys : List (ClassId × FieldType)} {E : (Nat → Prop) → State → Heap → Prop} {as : List Value} {μ : sx_M} {mc ms maxL : Nat} {cc : ByteArray} {ret : Option FieldType} {own : String} {post : Int32 → sx_M → Prop} {hh : List (Nat × Nat × Nat × Nat)} (hE : sx_Eok E) (hy : plainName y.cls = true) (hw : ws = Cond.codeWith y cc maxL ret hh :: ws') (hyc : y.cls = own) (hlen : (lg_sl as).length ≤ maxL) (lv : List (Option Value)) (j : Nat) (hlv : lv = sx_args as ++ List.replicate j none)
    (body : ∀ (p : Program) (e : Env) (s : State) (m : MethodId) (below : List Frame) (meth : Method) (c : Code) (A : Nat → Prop) (Q : State → Prop), Q = MQ below (va_Qi post (sx_B D cl A) A) as.toArray s mc ms A → sx_C p s m as.toArray c cc maxL own ws D cl tys E A → meth.sig.returnType = ret → meth.locks = false → (meth.name = y.name) → c.exceptionTable.toList = tableOf hh → SW p l e rm s m as.toArray below meth c maxL D cl A 0 0 Q μ 0 lv []) : sx_Mi l y ws rm D cl tys E as μ post mc ms := by
  intro sz
  refine va_MetW (cc := cc) (maxL := maxL) (ret := ret) hy hw ?_
  intro p e s m args below meth c s₁ B hml hv
  obtain ⟨rfl, hsz, hH, hK, hEs⟩ := hv
  subst hsz
  have hC : sx_C p s m as.toArray c cc maxL own ws D cl tys E (sx_A μ s.heap.size) := ⟨⟨B.exec, B.bytes, hml, hyc ▸ findClass_of_methodNamed B.named, atoms_spec (ws := ws) B.pre⟩, hK, fun q h => Or.inr h, hEs, hE⟩
  have ht : c.exceptionTable.toList = tableOf hh := vx_table (x := y) B (atoms_spec (ws := ws) B.pre _ (by rw [hw]; exact List.mem_cons_self))
  rw [lg_entry_eq]
  exact body p e s m below meth c (sx_A μ s.heap.size) _ rfl hC B.returns B.notSynchronized (name_of_methodNamed B.named B.method).1 ht s.heap [] _ (sx_H_self hH) va_S.rf (sx_V_entry as hlen j hlv)
/-! the two objects and the answer's cell, apart -/
theorem lc_ov {νc ν' : sx_M} {o : Nat} {c : va_E} (ho : νc o = none) (hf : ∀ q e, sx_up νc o c q = some e → νc q = none → ν' q = none) : ν' o = none ∧ sx_ov (sx_up νc o c) νc ν' = sx_up ν' o c := by
  have h1 : ν' o = none := hf o c (sx_up_s _ _ _) ho
  refine ⟨h1, ?_⟩
  funext q
  by_cases hq : q = o
  · subst hq
    rw [sx_ov_out h1 ho, sx_up_s, sx_up_s]
  · rw [sx_up_n _ _ hq]
    cases h2 : ν' q with
    | some e => exact sx_ov_in h2
    | none =>
      cases h3 : νc q with
      | some e => simp [sx_ov, h2, h3]
      | none => rw [sx_ov_out h2 h3, sx_up_n _ _ hq, h3]
theorem lc_in {νc : sx_M} {o : Nat} {c : va_E} (ho : νc o = none) : ∀ q e, νc q = some e → sx_up νc o c q = some e := fun q e h => by
  rw [sx_up_n _ _ (fun z => by rw [z, ho] at h; cases h)]
  exact h
def LW (μ νc νm : sx_M) (o : Nat) (c : va_E) : Prop := (∀ q e, νc q = some e → μ q = some e) ∧ (∀ q e, νm q = some e → μ q = some e) ∧ μ o = some c ∧ (∀ q e, νc q = some e → νm q = none) ∧ νc o = none ∧ νm o = none
section LWS
variable {μ νc νm ν' : sx_M} {o : Nat} {c c' : va_E}
theorem LW_h (h : LW μ νc νm o c) : ∀ q e, sx_up νc o c q = some e → μ q = some e := fun q e hq => by
  by_cases z : q = o
  · subst z
    rw [sx_up_s] at hq
    cases hq
    exact h.2.2.1
  · rw [sx_up_n _ _ z] at hq
    exact h.1 q e hq
theorem LW_mc (h : LW μ νc νm o c) {q : Nat} {e : va_E} (hq : νm q = some e) : q ≠ o ∧ νc q = none := by
  constructor
  · intro z
    rw [z, h.2.2.2.2.2] at hq
    cases hq
  · cases z : νc q with
    | none => rfl
    | some e' => rw [h.2.2.2.1 q e' z] at hq; cases hq
theorem LW_c (h : LW μ νc νm o c) (ho : ν' o = none) (hf : ∀ q e, μ q = some e → sx_up νc o c q = none → sx_up ν' o c' q = none) : LW (sx_ov μ (sx_up νc o c) (sx_up ν' o c')) ν' νm o c' := by
  have key : ∀ q e, νm q = some e → sx_up νc o c q = none ∧ sx_up ν' o c' q = none := fun q e hq => by
    obtain ⟨h1, h2⟩ := LW_mc h hq
    have h3 : sx_up νc o c q = none := by rw [sx_up_n _ _ h1]; exact h2
    exact ⟨h3, hf q e (h.2.1 q e hq) h3⟩
  refine ⟨fun q e hq => ?_, fun q e hq => ?_, sx_ov_in (sx_up_s _ _ _), fun q e hq => ?_, ho, h.2.2.2.2.2⟩
  · exact sx_ov_in (lc_in ho q e hq)
  · rw [sx_ov_out (key q e hq).2 (key q e hq).1]
    exact h.2.1 q e hq
  · cases z : νm q with
    | none => rfl
    | some e' =>
      have h1 := lc_in (c := c') ho q e hq
      rw [(key q e' z).2] at h1
      cases h1
theorem LW_d (h : LW μ νc νm o c) (hf : ∀ q e, μ q = some e → νc q = none → ν' q = none) : LW (sx_ov μ νc ν') ν' νm o c := by
  have ho : ν' o = none := hf o c h.2.2.1 h.2.2.2.2.1
  refine ⟨fun q e hq => sx_ov_in hq, fun q e hq => ?_, ?_, fun q e hq => ?_, ho, h.2.2.2.2.2⟩
  · have h1 := LW_mc h hq
    rw [sx_ov_out (hf q e (h.2.1 q e hq) h1.2) h1.2]
    exact h.2.1 q e hq
  · rw [sx_ov_out ho h.2.2.2.2.1]
    exact h.2.2.1
  · cases z : νm q with
    | none => rfl
    | some e' =>
      have h1 := LW_mc h z
      rw [hf q e' (h.2.1 q e' z) h1.2] at hq
      cases hq
theorem LW_m (h : LW μ νc νm o c) (hf : ∀ q e, μ q = some e → νm q = none → ν' q = none) : LW (sx_ov μ νm ν') νc ν' o c := by
  have ho : ν' o = none := hf o c h.2.2.1 h.2.2.2.2.2
  have key : ∀ q e, νc q = some e → ν' q = none := fun q e hq => hf q e (h.1 q e hq) (h.2.2.2.1 q e hq)
  refine ⟨fun q e hq => ?_, fun q e hq => sx_ov_in hq, ?_, fun q e hq => key q e hq, h.2.2.2.2.1, ho⟩
  · rw [sx_ov_out (key q e hq) (h.2.2.2.1 q e hq)]
    exact h.1 q e hq
  · rw [sx_ov_out ho h.2.2.2.2.2]
    exact h.2.2.1
end LWS
theorem sx_ov_0 {μ : sx_M} : sx_ov μ (fun _ => none) (fun _ => none) = μ := by
  funext q
  exact sx_ov_out rfl rfl
theorem ci_x {tc : Nat → ClassId} {μ : sx_M} {x W u : Nat} {S : Nat → Nat → Bool} {ed : Nat → Nat → Nat} (h : CInv tc μ x W u S ed) : ∃ fs, μ x = some (.inr (2, fs)) := by
  obtain ⟨hA, ad, ro, ur, ln, rf, sc, uk, ul, uf, sf, ed, rfl, hS, hP⟩ := h
  exact ⟨_, CS_f0 hS⟩
theorem mi_xx {tc : Nat → ClassId} {μ : sx_M} {x W u : Nat} {S : Nat → Nat → Bool} {ed : Nat → Nat → Nat} {th : Int32} (h : MInv tc μ x W u S ed th) : ∃ fs, μ x = some (.inr (3, fs)) := by
  obtain ⟨hA, ad, kn, lst, sb, mk, cd, lk, fl, vr, wd, cn, li, od, rfl, hS, hP⟩ := h
  exact ⟨_, MS_f0 hS⟩

theorem d_C_encoding (l : Launch) (D : va_G) (tc : Nat → ClassId) (hl : l.stackTraces = false) (x y : Int64) (o W u : Nat) (S : Nat → Nat → Bool) (ed0 : Nat → Nat → Nat) (μ : sx_M) (hC : CInv tc μ o W u S ed0) : sx_Xi l yC_encoding (Cond.code yC_encoding cC_encoding 8 (some .int) :: sxW) (rmL 8 2 1030) D sxCl (sxT tc) sxE [.ref o, .long x, .long y] μ (fun r μ' => ∃ m v, encOk W x y m v ∧ u < 40 ∧ r = nI u ∧ CInv tc μ' o W (u + 1) (va_up S u (fxS W m v)) (edU ed0 u m 0 0 0 0)) (fun Ex μ' => CInv tc μ' o W u S ed0 ∧ ((Ex = iaeN ∧ ∀ m v, ¬ encOk W x y m v) ∨ (Ex = uoeN ∧ u = 40 ∧ ∃ m v, encOk W x y m v))) 2 1030 := by
  obtain ⟨hA, ad, ro, ur, ln, rf, sc, uk, ul, uf, sf, ed, rfl, hS, hP⟩ := hC
  exact c_C_encoding l D tc hl x y ad ro ur W u ln rf sc uk ul uf sf ed μ hS S ed0 hA hP

theorem d_C_condition (l : Launch) (D : va_G) (tc : Nat → ClassId) (hl : l.stackTraces = false) (x f t kd v : Int32) (o W u : Nat) (S : Nat → Nat → Bool) (ed0 : Nat → Nat → Nat) (μ : sx_M) (hC : CInv tc μ o W u S ed0) : sx_Xi l yC_condition (Cond.code yC_condition cC_condition 8 (some .boolean) :: sxW) (rmL 8 3 18) D sxCl (sxT tc) sxE [.ref o, .int x, .int f, .int t, .int kd, .int v] μ (fun r μ' => ∃ i a b k n, i < u ∧ x = nI i ∧ cndOk W f t kd v a b k n ∧ ed0 3 i < 4 ∧ ∃ q : Bool, r = b2i q ∧ (q = true ↔ ∃ w, S i w = true ∧ cdH (fld a b w) k n = false) ∧ CInv tc μ' o W u (va_up S i (cdS (S i) a b k n)) (edU ed0 i (ed0 0 i) (ed0 1 i ||| fbN a b) (ed0 2 i) (ed0 3 i + 1) (ed0 4 i))) (fun Ex μ' => CInv tc μ' o W u S ed0 ∧ ((Ex = ioeN ∧ ∀ j, j < u → x ≠ nI j) ∨ (Ex = iaeN ∧ (∃ j, j < u ∧ x = nI j) ∧ ∀ a b k n, ¬ cndOk W f t kd v a b k n) ∨ (Ex = uoeN ∧ ∃ i a b k n, i < u ∧ x = nI i ∧ cndOk W f t kd v a b k n ∧ ed0 3 i = 4))) 3 18 := by
  obtain ⟨hA, ad, ro, ur, ln, rf, sc, uk, ul, uf, sf, ed, rfl, hS, hP⟩ := hC
  exact c_C_condition l D tc hl x f t kd v ad ro ur W u ln rf sc uk ul uf sf ed μ hS S ed0 hA hP

theorem d_C_operand (l : Launch) (D : va_G) (tc : Nat → ClassId) (hl : l.stackTraces = false) (x f t : Int32) (o W u : Nat) (S : Nat → Nat → Bool) (ed0 : Nat → Nat → Nat) (μ : sx_M) (hC : CInv tc μ o W u S ed0) : sx_Xi l yC_operand (Cond.code yC_operand cC_operand 6 (some .int) :: sxW) (rmL 7 2 12) D sxCl (sxT tc) sxE [.ref o, .int x, .int f, .int t] μ (fun r μ' => ∃ i a b, i < u ∧ x = nI i ∧ (a ≤ b ∧ b < W ∧ f = nI a ∧ t = nI b) ∧ r = nI (pop32 (nI (fbN a b) &&& (nI (ed0 2 i) ^^^ (-1)))) ∧ CInv tc μ' o W u S (edU ed0 i (ed0 0 i) (ed0 1 i) (ed0 2 i ||| fbN a b) (ed0 3 i) (ed0 4 i))) (fun Ex μ' => CInv tc μ' o W u S ed0 ∧ ((Ex = ioeN ∧ ∀ j, j < u → x ≠ nI j) ∨ (Ex = iaeN ∧ (∃ j, j < u ∧ x = nI j) ∧ ∀ a b, a ≤ b → b < W → ¬ (f = nI a ∧ t = nI b)))) 2 12 := by
  obtain ⟨hA, ad, ro, ur, ln, rf, sc, uk, ul, uf, sf, ed, rfl, hS, hP⟩ := hC
  exact c_C_operand l D tc hl x f t ad ro ur W u ln rf sc uk ul uf sf ed μ hS S ed0 hA hP

theorem d_C_needs (l : Launch) (D : va_G) (tc : Nat → ClassId) (hl : l.stackTraces = false) (x v : Int32) (o W u : Nat) (S : Nat → Nat → Bool) (ed0 : Nat → Nat → Nat) (μ : sx_M) (hC : CInv tc μ o W u S ed0) : sx_Xi l yC_needs (Cond.code yC_needs cC_needs 4 (some .int) :: sxW) (rmL 7 2 12) D sxCl (sxT tc) sxE [.ref o, .int x, .int v] μ (fun r μ' => ∃ i n, i < u ∧ x = nI i ∧ n < 256 ∧ v = nI n ∧ r = nI (ed0 4 i) ∧ CInv tc μ' o W u S (edU ed0 i (ed0 0 i) (ed0 1 i) (ed0 2 i) (ed0 3 i) n)) (fun Ex μ' => CInv tc μ' o W u S ed0 ∧ ((Ex = ioeN ∧ ∀ j, j < u → x ≠ nI j) ∨ (Ex = iaeN ∧ (∃ j, j < u ∧ x = nI j) ∧ ∀ n, n < 256 → v ≠ nI n))) 2 12 := by
  obtain ⟨hA, ad, ro, ur, ln, rf, sc, uk, ul, uf, sf, ed, rfl, hS, hP⟩ := hC
  exact c_C_needs l D tc hl x v ad ro ur W u ln rf sc uk ul uf sf ed μ hS S ed0 hA hP

theorem d_C_clear (l : Launch) (D : va_G) (tc : Nat → ClassId)  (o W u : Nat) (S : Nat → Nat → Bool) (ed0 : Nat → Nat → Nat) (μ : sx_M) (hC : CInv tc μ o W u S ed0) : sx_Mi l yC_clear (Cond.code yC_clear cC_clear 2 (some .int) :: sxW) (rmL 0 0 0) D sxCl (sxT tc) sxE [.ref o] μ (fun r μ' => r = nI u ∧ CInv tc μ' o W 0 S ed0) 0 0 := by
  obtain ⟨hA, ad, ro, ur, ln, rf, sc, uk, ul, uf, sf, ed, rfl, hS, hP⟩ := hC
  exact c_C_clear l D tc  ad ro ur W u ln rf sc uk ul uf sf ed μ hS S ed0 hA hP

theorem d_C_size (l : Launch) (D : va_G) (tc : Nat → ClassId) (x : Int32) (o W u : Nat) (S : Nat → Nat → Bool) (ed0 : Nat → Nat → Nat) (μ : sx_M) (hC : CInv tc μ o W u S ed0) : sx_Mi l yC_size (Cond.code yC_size cC_size 2 (some .int) :: sxW) (rmL 0 0 0) D sxCl (sxT tc) sxE [.ref o, .int x] μ (fun r μ' => r = szI W u x ∧ CInv tc μ' o W u S ed0) 0 0 := by
  obtain ⟨hA, ad, ro, ur, ln, rf, sc, uk, ul, uf, sf, ed, rfl, hS, hP⟩ := hC
  exact c_C_size l D tc x ad ro ur W u ln rf sc uk ul uf sf ed μ hS S ed0 hA hP

theorem d_C_count (l : Launch) (D : va_G) (tc : Nat → ClassId) (hl : l.stackTraces = false) (x : Int32) (o W u : Nat) (S : Nat → Nat → Bool) (ed0 : Nat → Nat → Nat) (μ : sx_M) (hC : CInv tc μ o W u S ed0) : sx_Xi l yC_count (Cond.code yC_count cC_count 2 (some .int) :: sxW) (rmL 7 1 6) D sxCl (sxT tc) sxE [.ref o, .int x] μ (fun r μ' => (∃ i, i < u ∧ x = nI i ∧ r = nI (cm W S i i)) ∧ CInv tc μ' o W u S ed0) (fun Ex μ' => CInv tc μ' o W u S ed0 ∧ Ex = ioeN ∧ ∀ j, j < u → x ≠ nI j) 1 6 := by
  obtain ⟨hA, ad, ro, ur, ln, rf, sc, uk, ul, uf, sf, ed, rfl, hS, hP⟩ := hC
  exact c_C_count l D tc hl x ad ro ur W u ln rf sc uk ul uf sf ed μ hS S ed0 hA hP

theorem d_C_meaningless (l : Launch) (D : va_G) (tc : Nat → ClassId) (hl : l.stackTraces = false) (x : Int32) (o W u : Nat) (S : Nat → Nat → Bool) (ed0 : Nat → Nat → Nat) (μ : sx_M) (hC : CInv tc μ o W u S ed0) : sx_Xi l yC_meaningless (Cond.code yC_meaningless cC_meaningless 2 (some .int) :: sxW) (rmL 7 1 6) D sxCl (sxT tc) sxE [.ref o, .int x] μ (fun r μ' => (∃ i, i < u ∧ x = nI i ∧ r = nI (pop32 (nI (idN W ed0 i)))) ∧ CInv tc μ' o W u S ed0) (fun Ex μ' => CInv tc μ' o W u S ed0 ∧ Ex = ioeN ∧ ∀ j, j < u → x ≠ nI j) 1 6 := by
  obtain ⟨hA, ad, ro, ur, ln, rf, sc, uk, ul, uf, sf, ed, rfl, hS, hP⟩ := hC
  exact c_C_meaningless l D tc hl x ad ro ur W u ln rf sc uk ul uf sf ed μ hS S ed0 hA hP

theorem d_C_idle (l : Launch) (D : va_G) (tc : Nat → ClassId) (hl : l.stackTraces = false) (x y : Int32) (o W u : Nat) (S : Nat → Nat → Bool) (ed0 : Nat → Nat → Nat) (μ : sx_M) (hC : CInv tc μ o W u S ed0) : sx_Xi l yC_idle (Cond.code yC_idle cC_idle 4 (some .int) :: sxW) (rmL 7 2 12) D sxCl (sxT tc) sxE [.ref o, .int x, .int y] μ (fun r μ' => (∃ i k p, i < u ∧ x = nI i ∧ y = nI k ∧ k < pop32 (nI (idN W ed0 i)) ∧ r = nI p ∧ p < 32 ∧ bI (nI (idN W ed0 i)) p = true ∧ pu_c (bI (nI (idN W ed0 i))) p = k) ∧ CInv tc μ' o W u S ed0) (fun Ex μ' => CInv tc μ' o W u S ed0 ∧ ((Ex = ioeN ∧ ∀ j, j < u → x ≠ nI j) ∨ (Ex = iaeN ∧ ∃ i, i < u ∧ x = nI i ∧ ∀ k, k < pop32 (nI (idN W ed0 i)) → y ≠ nI k))) 2 12 := by
  obtain ⟨hA, ad, ro, ur, ln, rf, sc, uk, ul, uf, sf, ed, rfl, hS, hP⟩ := hC
  exact c_C_idle l D tc hl x y ad ro ur W u ln rf sc uk ul uf sf ed μ hS S ed0 hA hP

theorem d_C_alias (l : Launch) (D : va_G) (tc : Nat → ClassId) (hl : l.stackTraces = false) (x y : Int32) (o W u : Nat) (S : Nat → Nat → Bool) (ed0 : Nat → Nat → Nat) (μ : sx_M) (hC : CInv tc μ o W u S ed0) : sx_Xi l yC_alias (Cond.code yC_alias cC_alias 3 (some .int) :: sxW) (rmL 7 2 12) D sxCl (sxT tc) sxE [.ref o, .int x, .int y] μ (fun r μ' => (∃ a b, a < u ∧ b < u ∧ x = nI a ∧ y = nI b ∧ r = nI (alN W S a b)) ∧ CInv tc μ' o W u S ed0) (fun Ex μ' => CInv tc μ' o W u S ed0 ∧ Ex = ioeN ∧ ∀ a b, a < u → b < u → ¬ (x = nI a ∧ y = nI b)) 2 12 := by
  obtain ⟨hA, ad, ro, ur, ln, rf, sc, uk, ul, uf, sf, ed, rfl, hS, hP⟩ := hC
  exact c_C_alias l D tc hl x y ad ro ur W u ln rf sc uk ul uf sf ed μ hS S ed0 hA hP

theorem d_C_gaps (l : Launch) (D : va_G) (tc : Nat → ClassId)  (o W u : Nat) (S : Nat → Nat → Bool) (ed0 : Nat → Nat → Nat) (μ : sx_M) (hC : CInv tc μ o W u S ed0) : sx_Mi l yC_gaps (Cond.code yC_gaps cC_gaps 2 (some .int) :: sxW) (rmL 4 1 1024) D sxCl (sxT tc) sxE [.ref o] μ (fun r μ' => r = nI (pu_c (gpS W u S) (2 ^ W)) ∧ CInv tc μ' o W u S ed0) 1 1024 := by
  obtain ⟨hA, ad, ro, ur, ln, rf, sc, uk, ul, uf, sf, ed, rfl, hS, hP⟩ := hC
  exact c_C_gaps l D tc  ad ro ur W u ln rf sc uk ul uf sf ed μ hS S ed0 hA hP

theorem d_C_blocks (l : Launch) (D : va_G) (tc : Nat → ClassId) (hl : l.stackTraces = false) (x : Int32) (o W u : Nat) (S : Nat → Nat → Bool) (ed0 : Nat → Nat → Nat) (μ : sx_M) (hC : CInv tc μ o W u S ed0) : sx_Xi l yC_blocks (Cond.code yC_blocks cC_blocks 2 (some .int) :: sxW) (rmL 8 2 1030) D sxCl (sxT tc) sxE [.ref o, .int x] μ (fun r μ' => (∃ T, selT W u S x T ∧ r = nI (pu_c (bkS T (max W 6)) (64 * nCh W))) ∧ CInv tc μ' o W u S ed0) (fun Ex μ' => CInv tc μ' o W u S ed0 ∧ Ex = ioeN ∧ x ≠ -1 ∧ ∀ j, j < u → x ≠ nI j) 2 1030 := by
  obtain ⟨hA, ad, ro, ur, ln, rf, sc, uk, ul, uf, sf, ed, rfl, hS, hP⟩ := hC
  exact c_C_blocks l D tc hl x ad ro ur W u ln rf sc uk ul uf sf ed μ hS S ed0 hA hP

theorem d_C_block (l : Launch) (D : va_G) (tc : Nat → ClassId) (hl : l.stackTraces = false) (x y z : Int32) (o W u : Nat) (S : Nat → Nat → Bool) (ed0 : Nat → Nat → Nat) (μ : sx_M) (hC : CInv tc μ o W u S ed0) : sx_Xi l yC_block (Cond.code yC_block cC_block 6 (some .int) :: sxW) (rmL 8 4 1042) D sxCl (sxT tc) sxE [.ref o, .int x, .int y, .int z] μ (fun r μ' => (∃ T k w, selT W u S x T ∧ y = nI k ∧ k < 2 ^ 31 ∧ w < 64 * nCh W ∧ bkS T (max W 6) w = true ∧ pu_c (bkS T (max W 6)) w = k ∧ ((z = 0 ∧ r = nI w) ∨ (z = 1 ∧ ∃ q, r = nI q ∧ bk_lev T (max W 6) w q))) ∧ CInv tc μ' o W u S ed0) (fun Ex μ' => CInv tc μ' o W u S ed0 ∧ ((Ex = ioeN ∧ x ≠ -1 ∧ ∀ j, j < u → x ≠ nI j) ∨ (Ex = iaeN ∧ ∃ T, selT W u S x T ∧ ∀ k w, y = nI k → (z = 0 ∨ z = 1) → w < 64 * nCh W → bkS T (max W 6) w = true → pu_c (bkS T (max W 6)) w ≠ k))) 4 1042 := by
  obtain ⟨hA, ad, ro, ur, ln, rf, sc, uk, ul, uf, sf, ed, rfl, hS, hP⟩ := hC
  exact c_C_block l D tc hl x y z ad ro ur W u ln rf sc uk ul uf sf ed μ hS S ed0 hA hP

theorem d_C_pairs (l : Launch) (D : va_G) (tc : Nat → ClassId)  (o W u : Nat) (S : Nat → Nat → Bool) (ed0 : Nat → Nat → Nat) (μ : sx_M) (hC : CInv tc μ o W u S ed0) : sx_Mi l yC_pairs (Cond.code yC_pairs cC_pairs 4 (some .int) :: sxW) (rmL 0 0 0) D sxCl (sxT tc) sxE [.ref o] μ (fun r μ' => r = nI (prT (mt W S) u u) ∧ CInv tc μ' o W u S ed0) 0 0 := by
  obtain ⟨hA, ad, ro, ur, ln, rf, sc, uk, ul, uf, sf, ed, rfl, hS, hP⟩ := hC
  exact c_C_pairs l D tc  ad ro ur W u ln rf sc uk ul uf sf ed μ hS S ed0 hA hP

theorem d_C_pair (l : Launch) (D : va_G) (tc : Nat → ClassId) (hl : l.stackTraces = false) (x y : Int32) (o W u : Nat) (S : Nat → Nat → Bool) (ed0 : Nat → Nat → Nat) (μ : sx_M) (hC : CInv tc μ o W u S ed0) : sx_Xi l yC_pair (Cond.code yC_pair cC_pair 6 (some .int) :: sxW) (rmL 7 1 6) D sxCl (sxT tc) sxE [.ref o, .int x, .int y] μ (fun r μ' => (∃ k n a b, x = nI k ∧ k < 2 ^ 31 ∧ y = nI n ∧ n ≤ 3 ∧ isPr W u S k a b ∧ ((n = 0 ∧ r = nI a) ∨ (n = 1 ∧ r = nI b) ∨ (n = 2 ∧ ∃ w, r = nI w ∧ lwP S a b w) ∨ (n = 3 ∧ r = nI (cm W S a b)))) ∧ CInv tc μ' o W u S ed0) (fun Ex μ' => CInv tc μ' o W u S ed0 ∧ Ex = ioeN ∧ ∀ k n a b, x = nI k → k < 2 ^ 31 → y = nI n → n ≤ 3 → ¬ isPr W u S k a b) 1 6 := by
  obtain ⟨hA, ad, ro, ur, ln, rf, sc, uk, ul, uf, sf, ed, rfl, hS, hP⟩ := hC
  exact c_C_pair l D tc hl x y ad ro ur W u ln rf sc uk ul uf sf ed μ hS S ed0 hA hP

theorem d_C_clashes (l : Launch) (D : va_G) (tc : Nat → ClassId) (hl : l.stackTraces = false) (x : Int32) (o W u : Nat) (S : Nat → Nat → Bool) (ed0 : Nat → Nat → Nat) (μ : sx_M) (hC : CInv tc μ o W u S ed0) : sx_Xi l yC_clashes (Cond.code yC_clashes cC_clashes 5 (some .int) :: sxW) (rmL 7 1 6) D sxCl (sxT tc) sxE [.ref o, .int x] μ (fun r μ' => ((∃ n, n < 256 ∧ x = nI n) ∧ r = nI (clN W u S ed0 x)) ∧ CInv tc μ' o W u S ed0) (fun Ex μ' => CInv tc μ' o W u S ed0 ∧ Ex = iaeN ∧ ∀ j, j < 256 → x ≠ nI j) 1 6 := by
  obtain ⟨hA, ad, ro, ur, ln, rf, sc, uk, ul, uf, sf, ed, rfl, hS, hP⟩ := hC
  exact c_C_clashes l D tc hl x ad ro ur W u ln rf sc uk ul uf sf ed μ hS S ed0 hA hP

theorem d_C_worst (l : Launch) (D : va_G) (tc : Nat → ClassId)  (o W u : Nat) (S : Nat → Nat → Bool) (ed0 : Nat → Nat → Nat) (μ : sx_M) (hC : CInv tc μ o W u S ed0) : sx_Mi l yC_worst (Cond.code yC_worst cC_worst 4 (some .int) :: sxW) (rmL 3 0 0) D sxCl (sxT tc) sxE [.ref o] μ (fun r μ' => (∃ t, wsT W u S ed0 t ∧ r = nI t) ∧ CInv tc μ' o W u S ed0) 0 0 := by
  obtain ⟨hA, ad, ro, ur, ln, rf, sc, uk, ul, uf, sf, ed, rfl, hS, hP⟩ := hC
  exact c_C_worst l D tc  ad ro ur W u ln rf sc uk ul uf sf ed μ hS S ed0 hA hP

theorem d_C_decode (l : Launch) (D : va_G) (tc : Nat → ClassId) (hl : l.stackTraces = false) (x : Int32) (o W u : Nat) (S : Nat → Nat → Bool) (ed0 : Nat → Nat → Nat) (μ : sx_M) (hC : CInv tc μ o W u S ed0) : sx_Xi l yC_decode (Cond.code yC_decode cC_decode 4 (some .int) :: sxW) (rmL 7 1 6) D sxCl (sxT tc) sxE [.ref o, .int x] μ (fun r μ' => (∃ w, w < 2 ^ W ∧ x = nI w ∧ dcP W u S w r) ∧ CInv tc μ' o W u S ed0) (fun Ex μ' => CInv tc μ' o W u S ed0 ∧ Ex = iaeN ∧ ∀ w, w < 2 ^ W → x ≠ nI w) 1 6 := by
  obtain ⟨hA, ad, ro, ur, ln, rf, sc, uk, ul, uf, sf, ed, rfl, hS, hP⟩ := hC
  exact c_C_decode l D tc hl x ad ro ur W u ln rf sc uk ul uf sf ed μ hS S ed0 hA hP

theorem d_C_order (l : Launch) (D : va_G) (tc : Nat → ClassId) (hl : l.stackTraces = false) (x : Int32) (o W u : Nat) (S : Nat → Nat → Bool) (ed0 : Nat → Nat → Nat) (μ : sx_M) (hC : CInv tc μ o W u S ed0) : sx_Xi l yC_order (Cond.code yC_order cC_order 6 (some .int) :: sxW) (rmL 7 1 6) D sxCl (sxT tc) sxE [.ref o, .int x] μ (fun r μ' => (∃ k o, k < u ∧ x = nI k ∧ (∀ p, p ≤ k → onx W u S o p) ∧ r = nI (o k)) ∧ CInv tc μ' o W u S ed0) (fun Ex μ' => CInv tc μ' o W u S ed0 ∧ Ex = ioeN ∧ ∀ j, j < u → x ≠ nI j) 1 6 := by
  obtain ⟨hA, ad, ro, ur, ln, rf, sc, uk, ul, uf, sf, ed, rfl, hS, hP⟩ := hC
  exact c_C_order l D tc hl x ad ro ur W u ln rf sc uk ul uf sf ed μ hS S ed0 hA hP

theorem d_M_encoding (l : Launch) (D : va_G) (tc : Nat → ClassId) (x y : Int64) (o W u : Nat) (S : Nat → Nat → Bool) (ed : Nat → Nat → Nat) (th : Int32) (μ : sx_M) (hM : MInv tc μ o W u S ed th) : sx_Mi l yM_encoding (Cond.code yM_encoding cM_encoding 10 (some .int) :: sxW) (rmL 1 0 0) D sxCl (sxT tc) sxE [.ref o, .long x, .long y] μ (fun r μ' => ∃ k u' S' ed', R_enc W u S ed x y k r u' S' ed' ∧ MInv tc μ' o W u' S' ed' k) 0 0 := by
  obtain ⟨hA, ad, kn, lst, sb, mk, cd, lk, fl, vr, wd, cn, li, od, rfl, hS, hP⟩ := hM
  exact c_M_encoding l D tc x y ad W u th kn lst sb mk cd lk fl vr wd cn li od μ hS S ed hA hP

theorem d_M_condition (l : Launch) (D : va_G) (tc : Nat → ClassId) (x f t kd v : Int32) (o W u : Nat) (S : Nat → Nat → Bool) (ed : Nat → Nat → Nat) (th : Int32) (μ : sx_M) (hM : MInv tc μ o W u S ed th) : sx_Mi l yM_condition (Cond.code yM_condition cM_condition 13 (some .boolean) :: sxW) (rmL 2 0 0) D sxCl (sxT tc) sxE [.ref o, .int x, .int f, .int t, .int kd, .int v] μ (fun r μ' => ∃ k S' ed', R_cnd W u S ed x f t kd v k r S' ed' ∧ MInv tc μ' o W u S' ed' k) 0 0 := by
  obtain ⟨hA, ad, kn, lst, sb, mk, cd, lk, fl, vr, wd, cn, li, od, rfl, hS, hP⟩ := hM
  exact c_M_condition l D tc x f t kd v ad W u th kn lst sb mk cd lk fl vr wd cn li od μ hS S ed hA hP

theorem d_M_operand (l : Launch) (D : va_G) (tc : Nat → ClassId) (x f t : Int32) (o W u : Nat) (S : Nat → Nat → Bool) (ed : Nat → Nat → Nat) (th : Int32) (μ : sx_M) (hM : MInv tc μ o W u S ed th) : sx_Mi l yM_operand (Cond.code yM_operand cM_operand 5 (some .int) :: sxW) (rmL 2 0 0) D sxCl (sxT tc) sxE [.ref o, .int x, .int f, .int t] μ (fun r μ' => ∃ k ed', R_opd W u ed x f t k r ed' ∧ MInv tc μ' o W u S ed' k) 0 0 := by
  obtain ⟨hA, ad, kn, lst, sb, mk, cd, lk, fl, vr, wd, cn, li, od, rfl, hS, hP⟩ := hM
  exact c_M_operand l D tc x f t ad W u th kn lst sb mk cd lk fl vr wd cn li od μ hS S ed hA hP

theorem d_M_needs (l : Launch) (D : va_G) (tc : Nat → ClassId) (x v : Int32) (o W u : Nat) (S : Nat → Nat → Bool) (ed : Nat → Nat → Nat) (th : Int32) (μ : sx_M) (hM : MInv tc μ o W u S ed th) : sx_Mi l yM_needs (Cond.code yM_needs cM_needs 4 (some .int) :: sxW) (rmL 2 0 0) D sxCl (sxT tc) sxE [.ref o, .int x, .int v] μ (fun r μ' => ∃ k ed', R_nds u ed x v k r ed' ∧ MInv tc μ' o W u S ed' k) 0 0 := by
  obtain ⟨hA, ad, kn, lst, sb, mk, cd, lk, fl, vr, wd, cn, li, od, rfl, hS, hP⟩ := hM
  exact c_M_needs l D tc x v ad W u th kn lst sb mk cd lk fl vr wd cn li od μ hS S ed hA hP

theorem d_M_clear (l : Launch) (D : va_G) (tc : Nat → ClassId)  (o W u : Nat) (S : Nat → Nat → Bool) (ed : Nat → Nat → Nat) (th : Int32) (μ : sx_M) (hM : MInv tc μ o W u S ed th) : sx_Mi l yM_clear (Cond.code yM_clear cM_clear 2 (some .int) :: sxW) (rmL 0 0 0) D sxCl (sxT tc) sxE [.ref o] μ (fun r μ' => r = nI u ∧ MInv tc μ' o W 0 S ed 0) 0 0 := by
  obtain ⟨hA, ad, kn, lst, sb, mk, cd, lk, fl, vr, wd, cn, li, od, rfl, hS, hP⟩ := hM
  exact c_M_clear l D tc  ad W u th kn lst sb mk cd lk fl vr wd cn li od μ hS S ed hA hP

theorem d_M_size (l : Launch) (D : va_G) (tc : Nat → ClassId) (x : Int32) (o W u : Nat) (S : Nat → Nat → Bool) (ed : Nat → Nat → Nat) (th : Int32) (μ : sx_M) (hM : MInv tc μ o W u S ed th) : sx_Mi l yM_size (Cond.code yM_size cM_size 2 (some .int) :: sxW) (rmL 0 0 0) D sxCl (sxT tc) sxE [.ref o, .int x] μ (fun r μ' => r = szI W u x ∧ MInv tc μ' o W u S ed 0) 0 0 := by
  obtain ⟨hA, ad, kn, lst, sb, mk, cd, lk, fl, vr, wd, cn, li, od, rfl, hS, hP⟩ := hM
  exact c_M_size l D tc x ad W u th kn lst sb mk cd lk fl vr wd cn li od μ hS S ed hA hP

theorem d_M_count (l : Launch) (D : va_G) (tc : Nat → ClassId) (x : Int32) (o W u : Nat) (S : Nat → Nat → Bool) (ed : Nat → Nat → Nat) (th : Int32) (μ : sx_M) (hM : MInv tc μ o W u S ed th) : sx_Mi l yM_count (Cond.code yM_count cM_count 2 (some .int) :: sxW) (rmL 2 0 0) D sxCl (sxT tc) sxE [.ref o, .int x] μ (fun r μ' => ∃ k, R_cnt W u S x k r ∧ MInv tc μ' o W u S ed k) 0 0 := by
  obtain ⟨hA, ad, kn, lst, sb, mk, cd, lk, fl, vr, wd, cn, li, od, rfl, hS, hP⟩ := hM
  exact c_M_count l D tc x ad W u th kn lst sb mk cd lk fl vr wd cn li od μ hS S ed hA hP

theorem d_M_meaningless (l : Launch) (D : va_G) (tc : Nat → ClassId) (x : Int32) (o W u : Nat) (S : Nat → Nat → Bool) (ed : Nat → Nat → Nat) (th : Int32) (μ : sx_M) (hM : MInv tc μ o W u S ed th) : sx_Mi l yM_meaningless (Cond.code yM_meaningless cM_meaningless 2 (some .int) :: sxW) (rmL 2 0 0) D sxCl (sxT tc) sxE [.ref o, .int x] μ (fun r μ' => ∃ k, R_mls W u ed x k r ∧ MInv tc μ' o W u S ed k) 0 0 := by
  obtain ⟨hA, ad, kn, lst, sb, mk, cd, lk, fl, vr, wd, cn, li, od, rfl, hS, hP⟩ := hM
  exact c_M_meaningless l D tc x ad W u th kn lst sb mk cd lk fl vr wd cn li od μ hS S ed hA hP

theorem d_M_idle (l : Launch) (D : va_G) (tc : Nat → ClassId) (x y : Int32) (o W u : Nat) (S : Nat → Nat → Bool) (ed : Nat → Nat → Nat) (th : Int32) (μ : sx_M) (hM : MInv tc μ o W u S ed th) : sx_Mi l yM_idle (Cond.code yM_idle cM_idle 6 (some .int) :: sxW) (rmL 2 0 0) D sxCl (sxT tc) sxE [.ref o, .int x, .int y] μ (fun r μ' => ∃ k, R_idl W u ed x y k r ∧ MInv tc μ' o W u S ed k) 0 0 := by
  obtain ⟨hA, ad, kn, lst, sb, mk, cd, lk, fl, vr, wd, cn, li, od, rfl, hS, hP⟩ := hM
  exact c_M_idle l D tc x y ad W u th kn lst sb mk cd lk fl vr wd cn li od μ hS S ed hA hP

theorem d_M_alias (l : Launch) (D : va_G) (tc : Nat → ClassId) (x y : Int32) (o W u : Nat) (S : Nat → Nat → Bool) (ed : Nat → Nat → Nat) (th : Int32) (μ : sx_M) (hM : MInv tc μ o W u S ed th) : sx_Mi l yM_alias (Cond.code yM_alias cM_alias 5 (some .int) :: sxW) (rmL 3 0 0) D sxCl (sxT tc) sxE [.ref o, .int x, .int y] μ (fun r μ' => ∃ k, R_als W u S x y k r ∧ MInv tc μ' o W u S ed k) 0 0 := by
  obtain ⟨hA, ad, kn, lst, sb, mk, cd, lk, fl, vr, wd, cn, li, od, rfl, hS, hP⟩ := hM
  exact c_M_alias l D tc x y ad W u th kn lst sb mk cd lk fl vr wd cn li od μ hS S ed hA hP

theorem d_M_gaps (l : Launch) (D : va_G) (tc : Nat → ClassId)  (o W u : Nat) (S : Nat → Nat → Bool) (ed : Nat → Nat → Nat) (th : Int32) (μ : sx_M) (hM : MInv tc μ o W u S ed th) : sx_Mi l yM_gaps (Cond.code yM_gaps cM_gaps 1 (some .int) :: sxW) (rmL 2 0 0) D sxCl (sxT tc) sxE [.ref o] μ (fun r μ' => r = nI (pu_c (gpS W u S) (2 ^ W)) ∧ MInv tc μ' o W u S ed 0) 0 0 := by
  obtain ⟨hA, ad, kn, lst, sb, mk, cd, lk, fl, vr, wd, cn, li, od, rfl, hS, hP⟩ := hM
  exact c_M_gaps l D tc  ad W u th kn lst sb mk cd lk fl vr wd cn li od μ hS S ed hA hP

theorem d_M_blocks (l : Launch) (D : va_G) (tc : Nat → ClassId) (x : Int32) (o W u : Nat) (S : Nat → Nat → Bool) (ed : Nat → Nat → Nat) (th : Int32) (μ : sx_M) (hM : MInv tc μ o W u S ed th) : sx_Mi l yM_blocks (Cond.code yM_blocks cM_blocks 2 (some .int) :: sxW) (rmL 3 0 0) D sxCl (sxT tc) sxE [.ref o, .int x] μ (fun r μ' => ∃ k, R_bks W u S x k r ∧ MInv tc μ' o W u S ed k) 0 0 := by
  obtain ⟨hA, ad, kn, lst, sb, mk, cd, lk, fl, vr, wd, cn, li, od, rfl, hS, hP⟩ := hM
  exact c_M_blocks l D tc x ad W u th kn lst sb mk cd lk fl vr wd cn li od μ hS S ed hA hP

theorem d_M_block (l : Launch) (D : va_G) (tc : Nat → ClassId) (x y z : Int32) (o W u : Nat) (S : Nat → Nat → Bool) (ed : Nat → Nat → Nat) (th : Int32) (μ : sx_M) (hM : MInv tc μ o W u S ed th) : sx_Mi l yM_block (Cond.code yM_block cM_block 6 (some .int) :: sxW) (rmL 3 0 0) D sxCl (sxT tc) sxE [.ref o, .int x, .int y, .int z] μ (fun r μ' => ∃ k, R_blk W u S x y z k r ∧ MInv tc μ' o W u S ed k) 0 0 := by
  obtain ⟨hA, ad, kn, lst, sb, mk, cd, lk, fl, vr, wd, cn, li, od, rfl, hS, hP⟩ := hM
  exact c_M_block l D tc x y z ad W u th kn lst sb mk cd lk fl vr wd cn li od μ hS S ed hA hP

theorem d_M_pairs (l : Launch) (D : va_G) (tc : Nat → ClassId)  (o W u : Nat) (S : Nat → Nat → Bool) (ed : Nat → Nat → Nat) (th : Int32) (μ : sx_M) (hM : MInv tc μ o W u S ed th) : sx_Mi l yM_pairs (Cond.code yM_pairs cM_pairs 4 (some .int) :: sxW) (rmL 3 0 0) D sxCl (sxT tc) sxE [.ref o] μ (fun r μ' => r = nI (prT (mt W S) u u) ∧ MInv tc μ' o W u S ed 0) 0 0 := by
  obtain ⟨hA, ad, kn, lst, sb, mk, cd, lk, fl, vr, wd, cn, li, od, rfl, hS, hP⟩ := hM
  exact c_M_pairs l D tc  ad W u th kn lst sb mk cd lk fl vr wd cn li od μ hS S ed hA hP

theorem d_M_pair (l : Launch) (D : va_G) (tc : Nat → ClassId) (x y : Int32) (o W u : Nat) (S : Nat → Nat → Bool) (ed : Nat → Nat → Nat) (th : Int32) (μ : sx_M) (hM : MInv tc μ o W u S ed th) : sx_Mi l yM_pair (Cond.code yM_pair cM_pair 9 (some .int) :: sxW) (rmL 3 0 0) D sxCl (sxT tc) sxE [.ref o, .int x, .int y] μ (fun r μ' => ∃ k, R_pair W u S x y k r ∧ MInv tc μ' o W u S ed k) 0 0 := by
  obtain ⟨hA, ad, kn, lst, sb, mk, cd, lk, fl, vr, wd, cn, li, od, rfl, hS, hP⟩ := hM
  exact c_M_pair l D tc x y ad W u th kn lst sb mk cd lk fl vr wd cn li od μ hS S ed hA hP

theorem d_M_clashes (l : Launch) (D : va_G) (tc : Nat → ClassId) (x : Int32) (o W u : Nat) (S : Nat → Nat → Bool) (ed : Nat → Nat → Nat) (th : Int32) (μ : sx_M) (hM : MInv tc μ o W u S ed th) : sx_Mi l yM_clashes (Cond.code yM_clashes cM_clashes 2 (some .int) :: sxW) (rmL 3 0 0) D sxCl (sxT tc) sxE [.ref o, .int x] μ (fun r μ' => ∃ k, R_cls W u S ed x k r ∧ MInv tc μ' o W u S ed k) 0 0 := by
  obtain ⟨hA, ad, kn, lst, sb, mk, cd, lk, fl, vr, wd, cn, li, od, rfl, hS, hP⟩ := hM
  exact c_M_clashes l D tc x ad W u th kn lst sb mk cd lk fl vr wd cn li od μ hS S ed hA hP

theorem d_M_worst (l : Launch) (D : va_G) (tc : Nat → ClassId)  (o W u : Nat) (S : Nat → Nat → Bool) (ed : Nat → Nat → Nat) (th : Int32) (μ : sx_M) (hM : MInv tc μ o W u S ed th) : sx_Mi l yM_worst (Cond.code yM_worst cM_worst 5 (some .int) :: sxW) (rmL 3 0 0) D sxCl (sxT tc) sxE [.ref o] μ (fun r μ' => (∃ t, wsT W u S ed t ∧ r = nI t) ∧ MInv tc μ' o W u S ed 0) 0 0 := by
  obtain ⟨hA, ad, kn, lst, sb, mk, cd, lk, fl, vr, wd, cn, li, od, rfl, hS, hP⟩ := hM
  exact c_M_worst l D tc  ad W u th kn lst sb mk cd lk fl vr wd cn li od μ hS S ed hA hP

theorem d_M_decode (l : Launch) (D : va_G) (tc : Nat → ClassId) (x : Int32) (o W u : Nat) (S : Nat → Nat → Bool) (ed : Nat → Nat → Nat) (th : Int32) (μ : sx_M) (hM : MInv tc μ o W u S ed th) : sx_Mi l yM_decode (Cond.code yM_decode cM_decode 5 (some .int) :: sxW) (rmL 3 0 0) D sxCl (sxT tc) sxE [.ref o, .int x] μ (fun r μ' => ∃ k, R_dec W u S x k r ∧ MInv tc μ' o W u S ed k) 0 0 := by
  obtain ⟨hA, ad, kn, lst, sb, mk, cd, lk, fl, vr, wd, cn, li, od, rfl, hS, hP⟩ := hM
  exact c_M_decode l D tc x ad W u th kn lst sb mk cd lk fl vr wd cn li od μ hS S ed hA hP

theorem d_M_order (l : Launch) (D : va_G) (tc : Nat → ClassId) (x : Int32) (o W u : Nat) (S : Nat → Nat → Bool) (ed : Nat → Nat → Nat) (th : Int32) (μ : sx_M) (hM : MInv tc μ o W u S ed th) : sx_Mi l yM_order (Cond.code yM_order cM_order 7 (some .int) :: sxW) (rmL 3 0 0) D sxCl (sxT tc) sxE [.ref o, .int x] μ (fun r μ' => ∃ k, R_ord W u S x k r ∧ MInv tc μ' o W u S ed k) 0 0 := by
  obtain ⟨hA, ad, kn, lst, sb, mk, cd, lk, fl, vr, wd, cn, li, od, rfl, hS, hP⟩ := hM
  exact c_M_order l D tc x ad W u th kn lst sb mk cd lk fl vr wd cn li od μ hS S ed hA hP

theorem d_M_thrown (l : Launch) (D : va_G) (tc : Nat → ClassId)  (o W u : Nat) (S : Nat → Nat → Bool) (ed : Nat → Nat → Nat) (th : Int32) (μ : sx_M) (hM : MInv tc μ o W u S ed th) : sx_Mi l yM_thrown (Cond.code yM_thrown cM_thrown 1 (some .int) :: sxW) (rmL 0 0 0) D sxCl (sxT tc) sxE [.ref o] μ (fun r μ' => r = th ∧ MInv tc μ' o W u S ed th) 0 0 := by
  obtain ⟨hA, ad, kn, lst, sb, mk, cd, lk, fl, vr, wd, cn, li, od, rfl, hS, hP⟩ := hM
  exact c_M_thrown l D tc  ad W u th kn lst sb mk cd lk fl vr wd cn li od μ hS S ed hA hP
