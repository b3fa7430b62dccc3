abbrev sxT (c : Nat → ClassId) : List (ClassId × FieldType) := [(c 0, .int), (c 1, .long), (c 2, .object "EncodingChecks$Encoding"), (c 3, .array .int), (c 4, .boolean)]
def iaeN : String := "java/lang/IllegalArgumentException"
def uoeN : String := "java/lang/UnsupportedOperationException"
def ioeN : String := "java/lang/IndexOutOfBoundsException"
def sxStr : List (Nat × String) := [(55, "bits outside the word or the mask"), (62, "no room for an encoding"), (79, "no such condition"), (84, "no room for a condition"), (116, "no such pair or which"), (123, "no such pair"), (138, "no such bit"), (160, "no such block or what"), (165, "no such block"), (170, "no such word"), (179, "no such place"), (189, "no such encoding"), (191, "no such field"), (193, "no such variants")]
def sxN1 : List (String × String) := [(iaeN, iaeN), (uoeN, uoeN), (ioeN, ioeN)]
def sxN2 : List MethodName := [⟨"java/lang/RuntimeException", "<init>", "()V"⟩, ⟨"java/lang/RuntimeException", "<init>", "(Ljava/lang/String;)V"⟩, ⟨"java/lang/Exception", "<init>", "()V"⟩, ⟨"java/lang/Exception", "<init>", "(Ljava/lang/String;)V"⟩, ⟨"java/lang/Throwable", "<init>", "()V"⟩, ⟨"java/lang/Throwable", "<init>", "(Ljava/lang/String;)V"⟩]
def sxN : List Cond := sxN1.map (fun q => .castable q.1 q.2) ++ sxN2.map (fun y => .declares y)
/-- what the tables say, beside the good words -/
def sxE0 (U : State) : Prop := (va_AO "EncodingChecks$Encoding" U ∧ va_AOA .int U) ∧ (∀ w ∈ sxN, va_Nw w U) ∧ (va_Nc iaeN ioeN U ∧ va_Nc uoeN ioeN U ∧ va_Nc uoeN iaeN U ∧ va_Nc ioeN iaeN U) ∧ ∀ q ∈ sxStr, ∃ a, vk_R RC q.1 q.2 a U
/-- the statics: nobody writes them -/
def sxE (A : Nat → Prop) (U : State) (H : Heap) : Prop := (vx_Zq Bundle.tN "UNASSIGNED_STACK" Bundle.steD A U H ∧ vx_Zq Bundle.tN "SUPPRESSED_SENTINEL" Bundle.listD A U H) ∧ (∃ t : Nat, va_Z "EncodingChecks$WordSet" "BLOCK_PLACES" "[J" (.ref t) A U H ∧ va_T .long t 6 (fun j => .long (bk_P j)) A U H) ∧ sxE0 U
theorem sxN_warm {s U : State} {w : Cond} (hW : s.WarmedH U.vm) (hw : w ∈ sxN) (h : va_Nw w s) : va_Nw w U := by
  rcases List.mem_append.mp hw with h1 | h1
  · obtain ⟨q, -, rfl⟩ := List.mem_map.mp h1
    exact va_Nw.warmC hW h
  · obtain ⟨y, -, rfl⟩ := List.mem_map.mp h1
    exact va_Nw.warmD hW h
theorem sxN_tab {w : Cond} (hw : w ∈ sxN) : w.onTables = true := by
  rcases List.mem_append.mp hw with h1 | h1
  · obtain ⟨q, -, rfl⟩ := List.mem_map.mp h1
    rfl
  · obtain ⟨y, -, rfl⟩ := List.mem_map.mp h1
    rfl
theorem sxE_ok : sx_Eok sxE := by
  refine ⟨fun A u U H hW h => ?_, fun A U H H1 hq h => ?_, fun A B U H hAB h => ?_⟩
  · obtain ⟨⟨h1, h2⟩, ⟨t, h3, h4⟩, ⟨⟨h5, h6⟩, h7, ⟨i1, i2, i3, i4⟩, h10⟩⟩ := h
    refine ⟨⟨vx_Zq.moved hW.alike h1, vx_Zq.moved hW.alike h2⟩, ⟨t, va_Z.moved hW.alike h3, va_T.moved hW.alike h4⟩, ⟨va_AO.moved hW.alike h5, va_AOA.moved hW.alike h6⟩, (fun w hw => sxN_warm hW hw (h7 w hw)), ⟨va_Nc.moved hW.alike i1, va_Nc.moved hW.alike i2, va_Nc.moved hW.alike i3, va_Nc.moved hW.alike i4⟩, fun q hq => ?_⟩
    obtain ⟨a, ha⟩ := h10 q hq
    exact ⟨a, vk_R.warm hW ha⟩
  · obtain ⟨⟨h1, h2⟩, ⟨t, h3, h4⟩, h5⟩ := h
    exact ⟨⟨vx_Zq.kept h1 hq, vx_Zq.kept h2 hq⟩, ⟨t, va_Z.kept h3 hq, va_T.kept h4 hq⟩, h5⟩
  · obtain ⟨⟨h1, h2⟩, ⟨t, h3, h4⟩, h5⟩ := h
    exact ⟨⟨vx_Zq.narrow h1 hAB, vx_Zq.narrow h2 hAB⟩, ⟨t, va_Z.narrow h3 hAB, va_T.narrow h4 hAB⟩, h5⟩
/-- the room of a method at a height k above the leaves -/
def rmL (k mc ms : Nat) : Room := { frames := k, cells := mc, slots := ms, locals := 40 * k }
theorem sxW_good {w : Cond} (h : w ∈ sxW) : (w.onTables && w.keeps) = true ∨ ∃ ty, w = .arrayClass ty := good_of_word (List.mem_filter.mp h).2
theorem sxW_sub {c0 : Cond} {L : List Cond} (h : ∀ w ∈ L, w ∈ sxW) : GoodIn (c0 :: sxW) L := fun w hw => ⟨List.mem_cons_of_mem _ (h w hw), sxW_good (h w hw)⟩
theorem sxW_cons {L : List Cond} {w : Cond} (h : w ∈ sxW) (t : ∀ x ∈ L, x ∈ sxW) : ∀ x ∈ w :: L, x ∈ sxW := fun x hx => (List.mem_cons.mp hx).elim (fun e => e ▸ h) (t x)
theorem sxW_all : ∀ x ∈ sxW, x ∈ sxW := fun _ h => h
section SXW
variable {R : Room} {s : State} {args : Array Value} {own Cn : String} {index maxL mc ms : Nat} {y : MethodName} {bytes : ByteArray} {ret : Option FieldType} {rm : Room} {c0 : Cond}
variable {p : Program} {m : MethodId} {c : Code} {cc : ByteArray} {nL : Nat} {D : va_G} {cl : List vw_C} {tys : List (ClassId × FieldType)} {E : (Nat → Prop) → State → Heap → Prop} {A : Nat → Prop}
theorem sx_w (C : sx_C p s m args c cc nL own (c0 :: sxW) D cl tys E A) {w : Cond} (h : w ∈ sxW) : w.before args s = true := C.1.2.2.2.2 w (List.mem_cons_of_mem _ h)
theorem sx_in {c0 : Cond} {L : List Cond} (h : ∀ w ∈ L, w ∈ sxW) : ∀ w ∈ L, w ∈ c0 :: sxW := fun w hw => List.mem_cons_of_mem _ (h w hw)
theorem sx_cwV (C : sx_C p s m args c cc nL own (c0 :: sxW) D cl tys E A) (n : Nat) (h1 : Cond.methodLink own index y ∈ sxW) (h2 : Cond.instanceMethod y ∈ sxW) (h3 : Cond.selects Cn y y ∈ sxW) (h4 : Cond.initialized Cn ∈ sxW) (h5 : Cond.code y bytes maxL ret ∈ sxW) (hrc : rm.cells = mc) (hrs : rm.slots = ms) (hd : y.cls = Cn ∧ y.cls ≠ "java/lang/invoke/MethodHandle" ∧ y.cls ≠ "java/lang/invoke/VarHandle" ∧ (parseMethodDescriptor y.desc).map (fun d => d.parameters.length) = some n) (hR : rm.frames + 1 ≤ R.frames ∧ 8 + (maxL + 11) + rm.locals ≤ R.locals) : CallW R s args own Cn index y bytes maxL ret (Cond.code y bytes maxL ret :: sxW) rm mc ms n :=
  cwV n C.1.2.2.2.2 (sxW_sub (sxW_cons h1 (sxW_cons h2 (sxW_cons h3 (sxW_cons h4 (sxW_cons h5 sxW_all)))))) rfl hrc hrs hd hR
theorem sx_cwS (C : sx_C p s m args c cc nL own (c0 :: sxW) D cl tys E A) (n : Nat) (h1 : Cond.methodLink own index y ∈ sxW) (h2 : Cond.static y ∈ sxW) (h4 : Cond.initialized y.cls ∈ sxW) (h5 : Cond.code y bytes maxL ret ∈ sxW) (hrc : rm.cells = mc) (hrs : rm.slots = ms) (hd : y.cls ≠ "java/lang/invoke/MethodHandle" ∧ y.cls ≠ "java/lang/invoke/VarHandle" ∧ (parseMethodDescriptor y.desc).map (fun d => d.parameters.length) = some n) (hR : rm.frames + 1 ≤ R.frames ∧ 8 + (maxL + 11) + rm.locals ≤ R.locals) : CallB R s args own index y bytes maxL ret (Cond.code y bytes maxL ret :: sxW) rm mc ms n ∧ (Cond.static y).before args s = true :=
  ⟨callB_of n C.1.2.2.2.2 (sxW_sub (sxW_cons h5 sxW_all)) rfl hrc hrs (sx_w C h4) (sx_w C h1) hd hR, sx_w C h2⟩
theorem sx_cwI (C : sx_C p s m args c cc nL own (c0 :: sxW) D cl tys E A) (n : Nat) (h1 : Cond.methodLink own index y ∈ sxW) (h2 : Cond.instanceMethod y ∈ sxW) (h4 : Cond.initialized y.cls ∈ sxW) (h5 : Cond.code y bytes maxL none ∈ sxW) (hrc : rm.cells = mc) (hrs : rm.slots = ms) (hy : y.name = "<init>") (hd : y.cls ≠ "java/lang/invoke/MethodHandle" ∧ y.cls ≠ "java/lang/invoke/VarHandle" ∧ (parseMethodDescriptor y.desc).map (fun d => d.parameters.length) = some n) (hR : rm.frames + 1 ≤ R.frames ∧ 8 + (maxL + 11) + rm.locals ≤ R.locals) : CallB R s args own index y bytes maxL none (Cond.code y bytes maxL none :: sxW) rm mc ms n ∧ y.name = "<init>" ∧ (Cond.instanceMethod y).before args s = true :=
  cwI n C.1.2.2.2.2 (sxW_sub (sxW_cons h5 sxW_all)) rfl hrc hrs (sx_w C h4) (sx_w C h1) (sx_w C h2) hy hd hR
end SXW
/-- the class of a primitive array is one -/
theorem sx_unI {s : State} : ∀ c1 c2 : ClassId, va_RA s c1 .int → va_RA s c2 .int → c1 = c2 := fun _ _ h1 h2 => Option.some.inj ((show s.vm.findClass _ = some _ from h1).symm.trans h2)
theorem sx_unJ {s : State} : ∀ c1 c2 : ClassId, va_RA s c1 .long → va_RA s c2 .long → c1 = c2 := fun _ _ h1 h2 => Option.some.inj ((show s.vm.findClass _ = some _ from h1).symm.trans h2)
theorem sx_unZ {s : State} : ∀ c1 c2 : ClassId, va_RA s c1 .boolean → va_RA s c2 .boolean → c1 = c2 := fun _ _ h1 h2 => Option.some.inj ((show s.vm.findClass _ = some _ from h1).symm.trans h2)
abbrev sxUp : List String := ["java/lang/RuntimeException", "java/lang/Exception"]
theorem sx_iae1 : ∀ w ∈ (vx_atS RC 57 iaeN sxUp).filter goodWord, w ∈ lw_tbl := by decide +kernel
theorem sx_iae2 : ∀ w ∈ (vx_atS RC 57 iaeN sxUp).filter (fun w => !goodWord w), w ∈ sxN := by decide +kernel
theorem sx_iae3 : ∀ w ∈ Cond.classLink RC 53 iaeN :: Cond.initialized iaeN :: vx_atS RC 57 iaeN sxUp, vx_ot w = true := by decide +kernel
theorem sx_uoe1 : ∀ w ∈ (vx_atS RC 64 uoeN sxUp).filter goodWord, w ∈ lw_tbl := by decide +kernel
theorem sx_uoe2 : ∀ w ∈ (vx_atS RC 64 uoeN sxUp).filter (fun w => !goodWord w), w ∈ sxN := by decide +kernel
theorem sx_uoe3 : ∀ w ∈ Cond.classLink RC 60 uoeN :: Cond.initialized uoeN :: vx_atS RC 64 uoeN sxUp, vx_ot w = true := by decide +kernel
theorem sx_ioe1 : ∀ w ∈ (vx_atS RC 118 ioeN sxUp).filter goodWord, w ∈ lw_tbl := by decide +kernel
theorem sx_ioe2 : ∀ w ∈ (vx_atS RC 118 ioeN sxUp).filter (fun w => !goodWord w), w ∈ sxN := by decide +kernel
theorem sx_ioe3 : ∀ w ∈ Cond.classLink RC 114 ioeN :: Cond.initialized ioeN :: vx_atS RC 118 ioeN sxUp, vx_ot w = true := by decide +kernel
section SXT
variable {p : Program} {l : Launch} {e : Env} {R : Room} {s : State} {m : MethodId} {args : Array Value} {below : List Frame} {meth : Method} {c : Code} {cc : ByteArray} {nL : Nat} {D : va_G} {cl : List vw_C} {tys : List (ClassId × FieldType)} {A : Nat → Prop} {cells slots : Nat} {μ : sx_M} {pc : Nat} {lv : List (Option Value)} {rest : List Value} {c0 : Cond} {mc ms : Nat}
theorem sx_throw_iae (hl : l.stackTraces = false) (C : sx_C p s m args c cc nL RC (c0 :: sxW) D cl tys sxE A) {Qc : Array Value → State → Outcome → State → Prop} {px : String → sx_M → Prop} {is : Nat} {text : String} (d0 : decode cc pc = .ok (.new 53, 3)) (d3 : decode cc (pc + 3) = .ok (.dup, 1)) (d4 : decode cc (pc + 4) = .ok (.ldc is, 2)) (d6 : decode cc (pc + 6) = .ok (.invokespecial 57, 3)) (d9 : decode cc (pc + 9) = .ok (.athrow, 1)) (hstr : (is, text) ∈ sxStr) (hout : ∀ x ∈ c.exceptionTable.toList, False) (hlocks : meth.locks = false) (hRf : 5 < R.frames) (hRl : (rest.map fun v => v.category).sum + 82 ≤ R.locals) (hRc : cells + 1 ≤ R.cells) (hRs : slots + 6 ≤ R.slots) (hc : cells + 1 ≤ mc) (hs : slots + 6 ≤ ms) (hp : px iaeN μ) : SW p l e R s m args below meth c nL D cl A cells slots (vx_MQ below Qc (sx_XC D cl A px) args s mc ms A) μ pc lv rest := by
  intro H locs ls hH hS hl9
  have hE := C.2.2.2.1
  obtain ⟨sa, hsa⟩ := hE.2.2.2.2.2 _ hstr
  have hN := hE.2.2.2.1
  refine vx_throwS (names := sxUp) (A := A) C.1.1 C.1.2.1 hl C.1.2.2.2.1 (by decide +kernel) (by decide +kernel) (sx_w C kC_C_53) (sx_w C kn_IllegalArgumentException) hsa (vx_hat (fun w hw => sx_w C (List.mem_filter.mpr ⟨sx_iae1 w hw, (List.mem_filter.mp hw).2⟩)) sx_iae2 (fun w hw => va_Nw.use (sxN_tab hw) (hN w hw))) sx_iae3 hE.1.1 hE.1.2 hS (hl9.1.trans C.1.2.2.1.symm) d0 d3 d4 d6 d9 (fun x hx => (hout x hx).elim) hRf hRl hRc hRs hlocks ?_ hS.2.2 hc hs
  intro t hvm hz hk
  have hk2 : ∀ q e, μ q = some e → t.heap[q]? = H[q]? := fun q e he => hk q (sx_H_lt hH he)
  exact ⟨μ, trivial, ⟨hp, sx_H_kept hH hk2⟩, Nat.le_trans hS.1 hz, fun q h1 h2 => (hk q (Nat.lt_of_lt_of_le h1 hS.1)).trans (hS.2.1 q h1 h2)⟩
theorem sx_throw_iaeW (hl : l.stackTraces = false) (C : sx_C p s m args c cc nL RC (c0 :: sxW) D cl tys sxE A) {Qc : Array Value → State → Outcome → State → Prop} {px : String → sx_M → Prop} {is : Nat} {text : String} (d0 : decode cc pc = .ok (.new 53, 3)) (d3 : decode cc (pc + 3) = .ok (.dup, 1)) (d4 : decode cc (pc + 4) = .ok (.ldc_w is, 3)) (d6 : decode cc (pc + 7) = .ok (.invokespecial 57, 3)) (d9 : decode cc (pc + 10) = .ok (.athrow, 1)) (hstr : (is, text) ∈ sxStr) (hout : ∀ x ∈ c.exceptionTable.toList, False) (hlocks : meth.locks = false) (hRf : 5 < R.frames) (hRl : (rest.map fun v => v.category).sum + 82 ≤ R.locals) (hRc : cells + 1 ≤ R.cells) (hRs : slots + 6 ≤ R.slots) (hc : cells + 1 ≤ mc) (hs : slots + 6 ≤ ms) (hp : px iaeN μ) : SW p l e R s m args below meth c nL D cl A cells slots (vx_MQ below Qc (sx_XC D cl A px) args s mc ms A) μ pc lv rest := by
  intro H locs ls hH hS hl9
  have hE := C.2.2.2.1
  obtain ⟨sa, hsa⟩ := hE.2.2.2.2.2 _ hstr
  have hN := hE.2.2.2.1
  refine vx_throwSW (names := sxUp) (A := A) C.1.1 C.1.2.1 hl C.1.2.2.2.1 (by decide +kernel) (by decide +kernel) (sx_w C kC_C_53) (sx_w C kn_IllegalArgumentException) hsa (vx_hat (fun w hw => sx_w C (List.mem_filter.mpr ⟨sx_iae1 w hw, (List.mem_filter.mp hw).2⟩)) sx_iae2 (fun w hw => va_Nw.use (sxN_tab hw) (hN w hw))) sx_iae3 hE.1.1 hE.1.2 hS (hl9.1.trans C.1.2.2.1.symm) d0 d3 d4 d6 d9 (fun x hx => (hout x hx).elim) hRf hRl hRc hRs hlocks ?_ hS.2.2 hc hs
  intro t hvm hz hk
  have hk2 : ∀ q e, μ q = some e → t.heap[q]? = H[q]? := fun q e he => hk q (sx_H_lt hH he)
  exact ⟨μ, trivial, ⟨hp, sx_H_kept hH hk2⟩, Nat.le_trans hS.1 hz, fun q h1 h2 => (hk q (Nat.lt_of_lt_of_le h1 hS.1)).trans (hS.2.1 q h1 h2)⟩
theorem sx_throw_uoe (hl : l.stackTraces = false) (C : sx_C p s m args c cc nL RC (c0 :: sxW) D cl tys sxE A) {Qc : Array Value → State → Outcome → State → Prop} {px : String → sx_M → Prop} {is : Nat} {text : String} (d0 : decode cc pc = .ok (.new 60, 3)) (d3 : decode cc (pc + 3) = .ok (.dup, 1)) (d4 : decode cc (pc + 4) = .ok (.ldc is, 2)) (d6 : decode cc (pc + 6) = .ok (.invokespecial 64, 3)) (d9 : decode cc (pc + 9) = .ok (.athrow, 1)) (hstr : (is, text) ∈ sxStr) (hout : ∀ x ∈ c.exceptionTable.toList, False) (hlocks : meth.locks = false) (hRf : 5 < R.frames) (hRl : (rest.map fun v => v.category).sum + 82 ≤ R.locals) (hRc : cells + 1 ≤ R.cells) (hRs : slots + 6 ≤ R.slots) (hc : cells + 1 ≤ mc) (hs : slots + 6 ≤ ms) (hp : px uoeN μ) : SW p l e R s m args below meth c nL D cl A cells slots (vx_MQ below Qc (sx_XC D cl A px) args s mc ms A) μ pc lv rest := by
  intro H locs ls hH hS hl9
  have hE := C.2.2.2.1
  obtain ⟨sa, hsa⟩ := hE.2.2.2.2.2 _ hstr
  have hN := hE.2.2.2.1
  refine vx_throwS (names := sxUp) (A := A) C.1.1 C.1.2.1 hl C.1.2.2.2.1 (by decide +kernel) (by decide +kernel) (sx_w C kC_C_60) (sx_w C kn_UnsupportedOperationException) hsa (vx_hat (fun w hw => sx_w C (List.mem_filter.mpr ⟨sx_uoe1 w hw, (List.mem_filter.mp hw).2⟩)) sx_uoe2 (fun w hw => va_Nw.use (sxN_tab hw) (hN w hw))) sx_uoe3 hE.1.1 hE.1.2 hS (hl9.1.trans C.1.2.2.1.symm) d0 d3 d4 d6 d9 (fun x hx => (hout x hx).elim) hRf hRl hRc hRs hlocks ?_ hS.2.2 hc hs
  intro t hvm hz hk
  have hk2 : ∀ q e, μ q = some e → t.heap[q]? = H[q]? := fun q e he => hk q (sx_H_lt hH he)
  exact ⟨μ, trivial, ⟨hp, sx_H_kept hH hk2⟩, Nat.le_trans hS.1 hz, fun q h1 h2 => (hk q (Nat.lt_of_lt_of_le h1 hS.1)).trans (hS.2.1 q h1 h2)⟩
theorem sx_throw_uoeW (hl : l.stackTraces = false) (C : sx_C p s m args c cc nL RC (c0 :: sxW) D cl tys sxE A) {Qc : Array Value → State → Outcome → State → Prop} {px : String → sx_M → Prop} {is : Nat} {text : String} (d0 : decode cc pc = .ok (.new 60, 3)) (d3 : decode cc (pc + 3) = .ok (.dup, 1)) (d4 : decode cc (pc + 4) = .ok (.ldc_w is, 3)) (d6 : decode cc (pc + 7) = .ok (.invokespecial 64, 3)) (d9 : decode cc (pc + 10) = .ok (.athrow, 1)) (hstr : (is, text) ∈ sxStr) (hout : ∀ x ∈ c.exceptionTable.toList, False) (hlocks : meth.locks = false) (hRf : 5 < R.frames) (hRl : (rest.map fun v => v.category).sum + 82 ≤ R.locals) (hRc : cells + 1 ≤ R.cells) (hRs : slots + 6 ≤ R.slots) (hc : cells + 1 ≤ mc) (hs : slots + 6 ≤ ms) (hp : px uoeN μ) : SW p l e R s m args below meth c nL D cl A cells slots (vx_MQ below Qc (sx_XC D cl A px) args s mc ms A) μ pc lv rest := by
  intro H locs ls hH hS hl9
  have hE := C.2.2.2.1
  obtain ⟨sa, hsa⟩ := hE.2.2.2.2.2 _ hstr
  have hN := hE.2.2.2.1
  refine vx_throwSW (names := sxUp) (A := A) C.1.1 C.1.2.1 hl C.1.2.2.2.1 (by decide +kernel) (by decide +kernel) (sx_w C kC_C_60) (sx_w C kn_UnsupportedOperationException) hsa (vx_hat (fun w hw => sx_w C (List.mem_filter.mpr ⟨sx_uoe1 w hw, (List.mem_filter.mp hw).2⟩)) sx_uoe2 (fun w hw => va_Nw.use (sxN_tab hw) (hN w hw))) sx_uoe3 hE.1.1 hE.1.2 hS (hl9.1.trans C.1.2.2.1.symm) d0 d3 d4 d6 d9 (fun x hx => (hout x hx).elim) hRf hRl hRc hRs hlocks ?_ hS.2.2 hc hs
  intro t hvm hz hk
  have hk2 : ∀ q e, μ q = some e → t.heap[q]? = H[q]? := fun q e he => hk q (sx_H_lt hH he)
  exact ⟨μ, trivial, ⟨hp, sx_H_kept hH hk2⟩, Nat.le_trans hS.1 hz, fun q h1 h2 => (hk q (Nat.lt_of_lt_of_le h1 hS.1)).trans (hS.2.1 q h1 h2)⟩
theorem sx_throw_ioe (hl : l.stackTraces = false) (C : sx_C p s m args c cc nL RC (c0 :: sxW) D cl tys sxE A) {Qc : Array Value → State → Outcome → State → Prop} {px : String → sx_M → Prop} {is : Nat} {text : String} (d0 : decode cc pc = .ok (.new 114, 3)) (d3 : decode cc (pc + 3) = .ok (.dup, 1)) (d4 : decode cc (pc + 4) = .ok (.ldc is, 2)) (d6 : decode cc (pc + 6) = .ok (.invokespecial 118, 3)) (d9 : decode cc (pc + 9) = .ok (.athrow, 1)) (hstr : (is, text) ∈ sxStr) (hout : ∀ x ∈ c.exceptionTable.toList, False) (hlocks : meth.locks = false) (hRf : 5 < R.frames) (hRl : (rest.map fun v => v.category).sum + 82 ≤ R.locals) (hRc : cells + 1 ≤ R.cells) (hRs : slots + 6 ≤ R.slots) (hc : cells + 1 ≤ mc) (hs : slots + 6 ≤ ms) (hp : px ioeN μ) : SW p l e R s m args below meth c nL D cl A cells slots (vx_MQ below Qc (sx_XC D cl A px) args s mc ms A) μ pc lv rest := by
  intro H locs ls hH hS hl9
  have hE := C.2.2.2.1
  obtain ⟨sa, hsa⟩ := hE.2.2.2.2.2 _ hstr
  have hN := hE.2.2.2.1
  refine vx_throwS (names := sxUp) (A := A) C.1.1 C.1.2.1 hl C.1.2.2.2.1 (by decide +kernel) (by decide +kernel) (sx_w C kC_C_114) (sx_w C kn_IndexOutOfBoundsException) hsa (vx_hat (fun w hw => sx_w C (List.mem_filter.mpr ⟨sx_ioe1 w hw, (List.mem_filter.mp hw).2⟩)) sx_ioe2 (fun w hw => va_Nw.use (sxN_tab hw) (hN w hw))) sx_ioe3 hE.1.1 hE.1.2 hS (hl9.1.trans C.1.2.2.1.symm) d0 d3 d4 d6 d9 (fun x hx => (hout x hx).elim) hRf hRl hRc hRs hlocks ?_ hS.2.2 hc hs
  intro t hvm hz hk
  have hk2 : ∀ q e, μ q = some e → t.heap[q]? = H[q]? := fun q e he => hk q (sx_H_lt hH he)
  exact ⟨μ, trivial, ⟨hp, sx_H_kept hH hk2⟩, Nat.le_trans hS.1 hz, fun q h1 h2 => (hk q (Nat.lt_of_lt_of_le h1 hS.1)).trans (hS.2.1 q h1 h2)⟩
theorem sx_throw_ioeW (hl : l.stackTraces = false) (C : sx_C p s m args c cc nL RC (c0 :: sxW) D cl tys sxE A) {Qc : Array Value → State → Outcome → State → Prop} {px : String → sx_M → Prop} {is : Nat} {text : String} (d0 : decode cc pc = .ok (.new 114, 3)) (d3 : decode cc (pc + 3) = .ok (.dup, 1)) (d4 : decode cc (pc + 4) = .ok (.ldc_w is, 3)) (d6 : decode cc (pc + 7) = .ok (.invokespecial 118, 3)) (d9 : decode cc (pc + 10) = .ok (.athrow, 1)) (hstr : (is, text) ∈ sxStr) (hout : ∀ x ∈ c.exceptionTable.toList, False) (hlocks : meth.locks = false) (hRf : 5 < R.frames) (hRl : (rest.map fun v => v.category).sum + 82 ≤ R.locals) (hRc : cells + 1 ≤ R.cells) (hRs : slots + 6 ≤ R.slots) (hc : cells + 1 ≤ mc) (hs : slots + 6 ≤ ms) (hp : px ioeN μ) : SW p l e R s m args below meth c nL D cl A cells slots (vx_MQ below Qc (sx_XC D cl A px) args s mc ms A) μ pc lv rest := by
  intro H locs ls hH hS hl9
  have hE := C.2.2.2.1
  obtain ⟨sa, hsa⟩ := hE.2.2.2.2.2 _ hstr
  have hN := hE.2.2.2.1
  refine vx_throwSW (names := sxUp) (A := A) C.1.1 C.1.2.1 hl C.1.2.2.2.1 (by decide +kernel) (by decide +kernel) (sx_w C kC_C_114) (sx_w C kn_IndexOutOfBoundsException) hsa (vx_hat (fun w hw => sx_w C (List.mem_filter.mpr ⟨sx_ioe1 w hw, (List.mem_filter.mp hw).2⟩)) sx_ioe2 (fun w hw => va_Nw.use (sxN_tab hw) (hN w hw))) sx_ioe3 hE.1.1 hE.1.2 hS (hl9.1.trans C.1.2.2.1.symm) d0 d3 d4 d6 d9 (fun x hx => (hout x hx).elim) hRf hRl hRc hRs hlocks ?_ hS.2.2 hc hs
  intro t hvm hz hk
  have hk2 : ∀ q e, μ q = some e → t.heap[q]? = H[q]? := fun q e he => hk q (sx_H_lt hH he)
  exact ⟨μ, trivial, ⟨hp, sx_H_kept hH hk2⟩, Nat.le_trans hS.1 hz, fun q h1 h2 => (hk q (Nat.lt_of_lt_of_le h1 hS.1)).trans (hS.2.1 q h1 h2)⟩
end SXT
