/-! THE CLAIM OUT OF ONE WALK OF THE LAW'S BODY. Your part is whole_start (and what it stands on); all else here is the same for every law, but numbers. -/
def R_law : String := "EncodingChecksLaw"
def lw_P (b : Addr) (xs : List Int32) (args : Array Value) (s : State) : Prop := args = #[.ref b] ∧ s.IntsAt b xs ∧ xs.length ≤ 3073 ∧ (Jvm.Cond.and given_1 narrow_1).before args s = true
def lw_Q (_ : Array Value) (s : State) (o : Outcome) (t : State) : Prop := o = .returned (some (.int 1)) ∧ Framed s o t [] 601024 7293000
def lw_Z (below : List Frame) (a : Array Value) (s : State) : State → Prop := fun t => ∃ o, t.status = .running ∧ Ended t below o ∧ lw_Q a s o t
/-- the law's own end, with 1 on the stack, nothing written that was there before, its room as the claim has it -/
theorem lw_ret {p : Program} {l : Launch} {e : Env} {s : State} {m : MethodId} {below : List Frame} {meth : Method} {c : Code} {b : Nat} (hx : p.tables.exec = Jvm.exec) (hb : c.code = code) (hr : meth.sig.returnType = ret) (hlocks : meth.locks = false) {pc : Nat} {H : Heap} {ls : Array Slot} (hdg : decode code pc = .ok (.ireturn, 1)) : W p l e room_1 s m #[Value.ref b] below meth c H [] 601024 7293000 (lw_Z below #[Value.ref b] s) (F0 m pc ls [.int 1]) := by
  intro T hT X
  obtain ⟨fs, hret, hrun, hended, hW, hframe⟩ := X.leave (v := some (.int 1)) (hlocks := hlocks) (fun h => by rw [hr] at h; cases h)
  have hmeth' : T.vm.method? m = some meth := X.method'
  refine ⟨T.setFrames fs, ?_, .returned (some (.int 1)), hrun, hended, rfl, ⟨_, rfl⟩, hW, hframe⟩
  jvm_step X.here [X.here.top, hx, hb, hdg, hmeth', hr, ret, narrow_b1]
  (try refine ⟨rfl, ?_⟩); (try refine ⟨rfl, ?_⟩)
  first | (intro acts; rw [hret _ acts rfl rfl rfl]) | rw [hret _ _ rfl rfl rfl]
  exact Steps.refl _
/-- what holds at the law's entry: the machine, the code, the tables' words (any of lw_tbl by 'hts w (by decide +kernel)'), the script of L ints xs at the cell b, what the Statement gives of the start (any of its parts by flat_of_before) -/
def lw_At (p : Program) (s : State) (m : MethodId) (meth : Method) (c : Code) (b L : Nat) (xs : Nat → Int32) : Prop :=
  p.tables.exec = Jvm.exec ∧ c.code = code ∧ meth.sig.returnType = ret ∧ c.maxLocals = 7 ∧ s.vm.findClass R_law = some m.cls ∧ (∀ w ∈ lw_tbl, w.before #[Value.ref b] s = true) ∧ va_X b L xs s s.heap ∧ b < s.heap.size ∧ meth.locks = false ∧ (Jvm.Cond.and given_1 narrow_1).before #[Value.ref b] s = true

section LR
variable {p : Program} {l : Launch} {e : Env} {s : State} {m : MethodId} {below : List Frame} {meth : Method} {c : Code} {Ts : List Cond} {D : va_G} {cl : List vw_C} {tys : List (ClassId × FieldType)} {E : (Nat → Prop) → State → Heap → Prop} {cells slots b : Nat} {μ : sx_M} {pc : Nat} {lv : List (Option Value)}
theorem sx_lawret {A : Nat → Prop} {Q : State → Prop} (hQ : Q = lw_Z below #[Value.ref b] s) (hA : ∀ q, A q → s.heap.size ≤ q) (C : sx_C p s m [Value.ref b].toArray c code 7 RL Ts D cl tys E A) (hr : meth.sig.returnType = ret) (hlocks : meth.locks = false) (hd : decode code pc = .ok (.ireturn, 1)) (hc : cells ≤ 601024) (hs : slots ≤ 7293000) : SW p l e room_1 s m [Value.ref b].toArray below meth c 7 D cl A cells slots Q μ pc lv [.int 1] := by
  intro H locs ls hH hS hl
  subst hQ
  exact W.widen hc hs (va_forget (fun q hq => hA _ (hS.2.2 q hq)) (lw_ret C.1.1 C.1.2.1 hr hlocks hd))
end LR
theorem sxN_in : ∀ w ∈ sxN, w ∈ lw_tbl := by decide +kernel
theorem sxStr_in : ∀ q ∈ sxStr, Cond.stringRef RC q.1 q.2 ∈ lw_tbl := by decide +kernel
theorem sxStr_ex : ∀ q ∈ sxStr, Cond.exactly (.string RC q.1) "java/lang/String" ∈ flatC (Jvm.Cond.and given_1 narrow_1) := by decide +kernel
abbrev bpT : Term := .static "EncodingChecks$WordSet" "BLOCK_PLACES" "[J"
theorem sxE_start {b : Nat} {s : State} (hts : ∀ w ∈ lw_tbl, w.before #[Value.ref b] s = true) (hgv : (Jvm.Cond.and given_1 narrow_1).before #[Value.ref b] s = true) : sxE (fun q => s.heap.size ≤ q) s s.heap := by
  have hA : ∀ a : Nat, a < s.heap.size → ¬ (fun q => s.heap.size ≤ q) a := fun a h => Nat.not_le.mpr h
  have hs := flat_of_before _ hgv
  have hel : ∀ j : Nat, j < 6 → (Term.elem bpT (.int (Int32.ofNat j))).eval #[Value.ref b] s none [] s = some (.long (bk_P j)) := by
    intro j hj
    rcases (show j = 0 ∨ j = 1 ∨ j = 2 ∨ j = 3 ∨ j = 4 ∨ j = 5 by omega) with rfl | rfl | rfl | rfl | rfl | rfl
    · exact va_eqtl (hs (.eq (.elem bpT (.int 0)) (.long 6148914691236517205)) (by decide +kernel))
    · exact va_eqtl (hs (.eq (.elem bpT (.int 1)) (.long 1229782938247303441)) (by decide +kernel))
    · exact va_eqtl (hs (.eq (.elem bpT (.int 2)) (.long 72340172838076673)) (by decide +kernel))
    · exact va_eqtl (hs (.eq (.elem bpT (.int 3)) (.long 281479271743489)) (by decide +kernel))
    · exact va_eqtl (hs (.eq (.elem bpT (.int 4)) (.long 4294967297)) (by decide +kernel))
    · exact va_eqtl (hs (.eq (.elem bpT (.int 5)) (.long 1)) (by decide +kernel))
  obtain ⟨t, ht, hT⟩ := va_Tof (ty := .long) (f := fun j => .long (bk_P j)) (A := fun q => s.heap.size ≤ q) (N := 6) (by decide) (hs (.arrayOf bpT .long) (by decide +kernel)) (va_eqt (hs (.eq (.length bpT) (.int 6)) (by decide +kernel))) hel hA
  refine ⟨⟨vx_Zqof (hts _ (by decide +kernel)) (hts _ (by decide +kernel)) (hs _ (by decide +kernel)) hA, vx_Zqof (hts _ (by decide +kernel)) (hts _ (by decide +kernel)) (hs _ (by decide +kernel)) hA⟩, ⟨t, va_Zof (hts _ (by decide +kernel)) (hts _ (by decide +kernel)) ht hA, hT⟩, ⟨va_AO.of (hts _ (by decide +kernel)), va_AOA.of (hts (.arrayOver (.array .int)) (by decide +kernel))⟩, fun w hw => va_Nw.of (sxN_tab hw) (hts w (sxN_in w hw)), ⟨va_Nc.of (hs (.not (.castable iaeN ioeN)) (by decide +kernel)), va_Nc.of (hs (.not (.castable uoeN ioeN)) (by decide +kernel)), va_Nc.of (hs (.not (.castable uoeN iaeN)) (by decide +kernel)), va_Nc.of (hs (.not (.castable ioeN iaeN)) (by decide +kernel))⟩, fun q hq => ?_⟩
  obtain ⟨a, c, cell, k, q1, -⟩ := Cond.exactly_spec (hs _ (sxStr_ex q hq))
  exact ⟨a, vk_R.of (hts _ (sxStr_in q hq)) q1⟩
theorem st_prim {s : State} {args : Array Value} {ty : FieldType} (h : (Cond.arrayClass ty).before args s = true) : ∃ cA, ArrOfT s cA ty ∧ s.vm.findClass ("[" ++ ty.toString) = some cA := by
  obtain ⟨c, k, comp, h1, h2, h3⟩ := Cond.arrayClass_spec h
  exact ⟨c, fun n z => ⟨fun k h => (by cases h), k, h2, comp, h3⟩, h1⟩
theorem st_obj {s : State} {args : Array Value} {C : String} (h : (Cond.arrayOver (.object C)).before args s = true) : ∃ cA, ArrOfT s cA (.object C) ∧ va_RA s cA (.object C) := by
  obtain ⟨comp, c, k, h1, -, h3, h4, h5⟩ := Cond.arrayOver_spec h
  exact ⟨c, fun n z => ⟨fun k h => (by cases h), k, h3, comp, h4⟩, k, comp, h3, h4, h1, h5⟩
theorem st_arr {s : State} {args : Array Value} {t : FieldType} (h : (Cond.arrayOver (.array t)).before args s = true) : ∃ cA, ArrOfT s cA (.array t) ∧ va_RA s cA (.array t) := by
  obtain ⟨comp, c, k, h1, h2, h3, h4⟩ := Cond.arrayOver_specA h
  exact ⟨c, fun n z => ⟨fun k h => (by cases h), k, h2, comp, h3⟩, h4⟩
theorem sxW_tbl {w : Cond} (h : w ∈ sxW) : w ∈ lw_tbl := (List.mem_filter.mp h).1
/-- the classes and the arrays' classes, as the tables have them -/
theorem sxK_start {s : State} {args : Array Value} (hts : ∀ w ∈ lw_tbl, w.before args s = true) : ∃ (D : va_G) (tc : Nat → ClassId), va_K D sxCl (sxT tc) s := by
  have hw : ∀ w ∈ sxW, w.before args s = true := fun w h => hts w (sxW_tbl h)
  obtain ⟨c0, i0, k0⟩ := u_known (n := 6) hw inE (hw _ kt_E)
  obtain ⟨c1, i1, k1⟩ := u_known (n := 2) hw inS (hw _ kt_S)
  obtain ⟨c2, i2, k2⟩ := u_known (n := 7) hw inC (hw _ kt_C)
  obtain ⟨c3, i3, k3⟩ := u_known (n := 17) hw inM (hw _ kt_M)
  obtain ⟨a0, p0, q0⟩ := st_prim (hw _ ka_int)
  obtain ⟨a1, p1, q1⟩ := st_prim (hw _ ka_long)
  obtain ⟨a4, p4, q4⟩ := st_prim (hw _ ka_boolean)
  obtain ⟨a2, p2, q2⟩ := st_obj (hts (.arrayOver (.object "EncodingChecks$Encoding")) (by decide +kernel))
  obtain ⟨a3, p3, q3⟩ := st_arr (hts (.arrayOver (.array .int)) (by decide +kernel))
  refine ⟨(fun k => match k with | 0 => c0 | 1 => c1 | 2 => c2 | _ => c3, fun k => match k with | 0 => i0 | 1 => i1 | 2 => i2 | _ => i3), fun k => match k with | 0 => a0 | 1 => a1 | 2 => a2 | 3 => a3 | _ => a4, fun k q hq => ?_, fun k q hq => ?_⟩
  · match k, hq with
    | 0, hq => cases hq; exact k0
    | 1, hq => cases hq; exact k1
    | 2, hq => cases hq; exact k2
    | 3, hq => cases hq; exact k3
    | k + 4, hq => simp [sxCl] at hq
  · match k, hq with
    | 0, hq => cases hq; exact ⟨p0, q0⟩
    | 1, hq => cases hq; exact ⟨p1, q1⟩
    | 2, hq => cases hq; exact ⟨p2, q2⟩
    | 3, hq => cases hq; exact ⟨p3, q3⟩
    | 4, hq => cases hq; exact ⟨p4, q4⟩
    | k + 5, hq => simp [sxT] at hq
