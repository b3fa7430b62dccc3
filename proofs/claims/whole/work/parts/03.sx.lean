/-! worlds as partial maps from addresses to cells -/
abbrev sx_M : Type := Nat → Option va_E
def sx_up (μ : sx_M) (a : Nat) (e : va_E) : sx_M := fun b => if b = a then some e else μ b
theorem sx_up_s (μ : sx_M) (a : Nat) (e : va_E) : sx_up μ a e a = some e := by simp [sx_up]
theorem sx_up_n (μ : sx_M) {a b : Nat} (e : va_E) (h : b ≠ a) : sx_up μ a e b = μ b := by simp [sx_up, h]
theorem sx_up_up (μ : sx_M) (a : Nat) (e f : va_E) : sx_up (sx_up μ a e) a f = sx_up μ a f := by
  funext b
  by_cases h : b = a
  · subst h; rw [sx_up_s, sx_up_s]
  · rw [sx_up_n _ _ h, sx_up_n _ _ h, sx_up_n _ _ h]
theorem sx_up_id (μ : sx_M) {a : Nat} {e : va_E} (h : μ a = some e) : sx_up μ a e = μ := by
  funext b
  by_cases hb : b = a
  · subst hb; rw [sx_up_s, h]
  · rw [sx_up_n _ _ hb]
def sx_L (μ : sx_M) (ws : va_W) : Prop := ∀ (a : Nat) (e : va_E), μ a = some e ↔ ∃ k : Nat, ws[k]? = some (a, e)
/-- the heap holds the cells of the map; they lie in A -/
def sx_H (D : va_G) (cl : List vw_C) (A : Nat → Prop) (μ : sx_M) (H : Heap) : Prop := ∃ ws : va_W, va_P D cl ws H ∧ va_D A ws ∧ sx_L μ ws
def sx_A (μ : sx_M) (sz : Nat) : Nat → Prop := fun q => (∃ e, μ q = some e) ∨ sz ≤ q
theorem sx_L_set {μ : sx_M} {ws : va_W} {A : Nat → Prop} {k a : Nat} {e0 : va_E} (e : va_E) (hL : sx_L μ ws) (hD : va_D A ws) (hk : ws[k]? = some (a, e0)) : sx_L (sx_up μ a e) (ws.set k (a, e)) := by
  have hl := (List.getElem?_eq_some_iff.mp hk).1
  intro b x
  by_cases hb : b = a
  · subst hb
    rw [sx_up_s]
    constructor
    · intro h
      cases h
      exact ⟨k, List.getElem?_set_self hl⟩
    · rintro ⟨j, hj⟩
      by_cases hjk : j = k
      · subst hjk
        rw [List.getElem?_set_self hl] at hj
        cases hj
        rfl
      · rw [List.getElem?_set_ne (Ne.symm hjk)] at hj
        exact absurd (hD.1 j k _ _ hj hk rfl) hjk
  · rw [sx_up_n _ _ hb, hL b x]
    constructor
    · rintro ⟨j, hj⟩
      refine ⟨j, ?_⟩
      have hjk : j ≠ k := fun z => by
        subst z
        rw [hk] at hj
        cases hj
        exact hb rfl
      rw [List.getElem?_set_ne (Ne.symm hjk)]
      exact hj
    · rintro ⟨j, hj⟩
      refine ⟨j, ?_⟩
      have hjk : j ≠ k := fun z => by
        subst z
        rw [List.getElem?_set_self hl] at hj
        cases hj
        exact hb rfl
      rw [List.getElem?_set_ne (Ne.symm hjk)] at hj
      exact hj
theorem sx_L_push {μ : sx_M} {ws : va_W} {a : Nat} (e : va_E) (hL : sx_L μ ws) (hn : μ a = none) : sx_L (sx_up μ a e) (ws ++ [(a, e)]) := by
  intro b x
  by_cases hb : b = a
  · subst hb
    rw [sx_up_s]
    constructor
    · intro h
      cases h
      exact ⟨ws.length, by rw [List.getElem?_append_right (Nat.le_refl _), Nat.sub_self]; rfl⟩
    · rintro ⟨j, hj⟩
      rcases List.mem_append.mp (List.mem_of_getElem? hj) with h | h
      · obtain ⟨i, hi⟩ := List.getElem?_of_mem h
        have := (hL b x).mpr ⟨i, hi⟩
        rw [hn] at this
        cases this
      · cases List.mem_singleton.mp h
        rfl
  · rw [sx_up_n _ _ hb, hL b x]
    constructor
    · rintro ⟨j, hj⟩
      have hl := (List.getElem?_eq_some_iff.mp hj).1
      exact ⟨j, by rw [List.getElem?_append_left hl]; exact hj⟩
    · rintro ⟨j, hj⟩
      rcases List.mem_append.mp (List.mem_of_getElem? hj) with h | h
      · obtain ⟨i, hi⟩ := List.getElem?_of_mem h
        exact ⟨i, hi⟩
      · cases List.mem_singleton.mp h
        exact absurd rfl hb
theorem sx_L_nil : sx_L (fun _ => none) [] := fun a e => ⟨fun h => (by cases h), fun ⟨k, h⟩ => by simp at h⟩
theorem sx_H_nil {D : va_G} {cl : List vw_C} {A : Nat → Prop} {H : Heap} : sx_H D cl A (fun _ => none) H := ⟨[], fun k q h => by simp at h, ⟨fun i j p q h => by simp at h, fun k q h => by simp at h⟩, sx_L_nil⟩
theorem sx_H_lt {D : va_G} {cl : List vw_C} {A : Nat → Prop} {μ : sx_M} {H : Heap} (h : sx_H D cl A μ H) {a : Nat} {e : va_E} (ha : μ a = some e) : a < H.size := by
  obtain ⟨ws, hP, -, hL⟩ := h
  obtain ⟨k, hk⟩ := (hL a e).mp ha
  exact (hP k _ hk).lt
theorem sx_H_new {D : va_G} {cl : List vw_C} {A : Nat → Prop} {μ : sx_M} {H : Heap} (h : sx_H D cl A μ H) {a : Nat} (ha : H.size ≤ a) : μ a = none := by
  cases hq : μ a with
  | none => rfl
  | some e => exact absurd (sx_H_lt h hq) (by omega)
theorem sx_H_in {D : va_G} {cl : List vw_C} {A : Nat → Prop} {μ : sx_M} {H : Heap} (h : sx_H D cl A μ H) {a : Nat} {e : va_E} (ha : μ a = some e) : A a := by
  obtain ⟨ws, -, hD, hL⟩ := h
  obtain ⟨k, hk⟩ := (hL a e).mp ha
  exact hD.2 k _ hk
theorem sx_H_mono {D : va_G} {cl : List vw_C} {A B : Nat → Prop} {μ : sx_M} {H : Heap} (h : sx_H D cl A μ H) (hAB : ∀ q e, μ q = some e → A q → B q) : sx_H D cl B μ H := by
  obtain ⟨ws, hP, hD, hL⟩ := h
  exact ⟨ws, hP, hD.weaken (fun k q hk ha => hAB q.1 q.2 ((hL q.1 q.2).mpr ⟨k, hk⟩) ha), hL⟩
theorem sx_H_kept {D : va_G} {cl : List vw_C} {A : Nat → Prop} {μ : sx_M} {H H1 : Heap} (h : sx_H D cl A μ H) (hq : ∀ q e, μ q = some e → H1[q]? = H[q]?) : sx_H D cl A μ H1 := by
  obtain ⟨ws, hP, hD, hL⟩ := h
  exact ⟨ws, hP.kept (fun k q hk => hq q.1 q.2 ((hL q.1 q.2).mpr ⟨k, hk⟩)), hD, hL⟩
/-- locals by their places -/
def sx_lv : Nat → List (Option Value) → List (Nat × Value)
  | _, [] => []
  | k, none :: t => sx_lv (k + 1) t
  | k, some v :: t => (k, v) :: sx_lv (k + 1) t
theorem sx_lv_mem : ∀ (lv : List (Option Value)) (k : Nat) (q : Nat × Value), q ∈ sx_lv k lv ↔ ∃ i : Nat, q.1 = k + i ∧ lv[i]? = some (some q.2)
  | [], k, q => by simp [sx_lv]
  | none :: t, k, q => by
    rw [sx_lv, sx_lv_mem t (k + 1) q]
    constructor
    · rintro ⟨i, h1, h2⟩
      exact ⟨i + 1, by omega, by rw [List.getElem?_cons_succ]; exact h2⟩
    · rintro ⟨i, h1, h2⟩
      cases i with
      | zero => rw [List.getElem?_cons_zero] at h2; cases h2
      | succ i => exact ⟨i, by omega, by rw [List.getElem?_cons_succ] at h2; exact h2⟩
  | some v :: t, k, q => by
    rw [sx_lv, List.mem_cons, sx_lv_mem t (k + 1) q]
    constructor
    · rintro (h | ⟨i, h1, h2⟩)
      · exact ⟨0, by rw [h]; rfl, by rw [h]; rfl⟩
      · exact ⟨i + 1, by omega, by rw [List.getElem?_cons_succ]; exact h2⟩
    · rintro ⟨i, h1, h2⟩
      cases i with
      | zero =>
        rw [List.getElem?_cons_zero] at h2
        refine Or.inl ?_
        obtain ⟨q1, q2⟩ := q
        cases h2
        rw [show q1 = k from h1]
      | succ i => exact Or.inr ⟨i, by omega, by rw [List.getElem?_cons_succ] at h2; exact h2⟩
def sx_V (ls : Array Slot) (nL : Nat) (lv : List (Option Value)) : Prop := lv_has ls nL (sx_lv 0 lv)
theorem sx_V_get {ls : Array Slot} {nL : Nat} {lv : List (Option Value)} (h : sx_V ls nL lv) {i : Nat} {v : Value} (hi : lv[i]? = some (some v)) : ls[i]? = some (.val v) :=
  h.2.2 (i, v) ((sx_lv_mem lv 0 (i, v)).mpr ⟨i, by omega, hi⟩)
theorem sx_V_sub {ls : Array Slot} {nL : Nat} {lv lv' : List (Option Value)} (h : sx_V ls nL lv) (hs : ∀ (i : Nat) (v : Value), lv'[i]? = some (some v) → lv[i]? = some (some v)) : sx_V ls nL lv' := by
  refine ⟨h.1, h.2.1, fun q hq => ?_⟩
  obtain ⟨i, h1, h2⟩ := (sx_lv_mem lv' 0 q).mp hq
  rw [Nat.zero_add] at h1
  rw [h1]
  exact sx_V_get h (hs i q.2 h2)
/-- no long lies just below the place i -/
def sx_ok (lv : List (Option Value)) : Nat → Bool
  | 0 => true
  | j + 1 => match lv[j]? with
    | some (some w) => !(w.category == 2)
    | _ => true
theorem sx_ok_ne {lv : List (Option Value)} {i j : Nat} {w : Value} (h : sx_ok lv i = true) (hj : j + 1 = i) (hw : lv[j]? = some (some w)) : (w.category == 2) = false := by
  subst hj
  simp only [sx_ok, hw] at h
  cases hc : (w.category == 2)
  · rfl
  · rw [hc] at h; cases h
theorem sx_V_set1 {ls : Array Slot} {nL i : Nat} {lv : List (Option Value)} {v : Value} (h : lv_has ls nL ((i, v) :: (sx_lv 0 lv).filter (fun q => !(q.1 == i) && !(q.1 + 1 == i && q.2.category == 2)))) (hok : sx_ok lv i = true) : sx_V ls nL (lv.set i (some v)) := by
  refine ⟨h.1, h.2.1, fun q hq => ?_⟩
  obtain ⟨j, h1, h2⟩ := (sx_lv_mem _ 0 q).mp hq
  rw [Nat.zero_add] at h1
  by_cases hj : j = i
  · subst hj
    have hl : j < lv.length := by
      have := (List.getElem?_eq_some_iff.mp h2).1
      rw [List.length_set] at this
      exact this
    rw [List.getElem?_set_self hl] at h2
    cases h2
    exact h.2.2 q (List.mem_cons.mpr (Or.inl (by obtain ⟨a, b⟩ := q; rw [show a = j from h1])))
  · rw [List.getElem?_set_ne (Ne.symm hj)] at h2
    refine h.2.2 q (List.mem_cons.mpr (Or.inr (List.mem_filter.mpr ⟨(sx_lv_mem lv 0 q).mpr ⟨j, by omega, h2⟩, ?_⟩)))
    have n1 : (q.1 == i) = false := by rw [h1]; exact beq_eq_false_iff_ne.mpr hj
    rw [n1]
    by_cases hs : q.1 + 1 = i
    · have := sx_ok_ne hok (j := j) (by omega) h2
      rw [this]
      simp
    · have n2 : (q.1 + 1 == i) = false := beq_eq_false_iff_ne.mpr hs
      rw [n2]
      rfl
theorem sx_V_set2 {ls : Array Slot} {nL i : Nat} {lv : List (Option Value)} {v : Value} (h : lv_has ls nL ((i, v) :: (sx_lv 0 lv).filter (fun q => !(q.1 == i) && (!(q.1 == i + 1) && !(q.1 + 1 == i && q.2.category == 2))))) (hok : sx_ok lv i = true) : sx_V ls nL ((lv.set i (some v)).set (i + 1) none) := by
  refine ⟨h.1, h.2.1, fun q hq => ?_⟩
  obtain ⟨j, h1, h2⟩ := (sx_lv_mem _ 0 q).mp hq
  rw [Nat.zero_add] at h1
  by_cases hj1 : j = i + 1
  · subst hj1
    have hl : i + 1 < (lv.set i (some v)).length := by
      have := (List.getElem?_eq_some_iff.mp h2).1
      rw [List.length_set] at this
      exact this
    rw [List.getElem?_set_self hl] at h2
    cases h2
  · rw [List.getElem?_set_ne (Ne.symm hj1)] at h2
    by_cases hj : j = i
    · subst hj
      have hl : j < lv.length := by
        have := (List.getElem?_eq_some_iff.mp h2).1
        rw [List.length_set] at this
        exact this
      rw [List.getElem?_set_self hl] at h2
      cases h2
      exact h.2.2 q (List.mem_cons.mpr (Or.inl (by obtain ⟨a, b⟩ := q; rw [show a = j from h1])))
    · rw [List.getElem?_set_ne (Ne.symm hj)] at h2
      refine h.2.2 q (List.mem_cons.mpr (Or.inr (List.mem_filter.mpr ⟨(sx_lv_mem lv 0 q).mpr ⟨j, by omega, h2⟩, ?_⟩)))
      have n1 : (q.1 == i) = false := by rw [h1]; exact beq_eq_false_iff_ne.mpr hj
      have n3 : (q.1 == i + 1) = false := by rw [h1]; exact beq_eq_false_iff_ne.mpr hj1
      rw [n1, n3]
      by_cases hs : q.1 + 1 = i
      · have := sx_ok_ne hok (j := j) (by omega) h2
        rw [this]
        simp
      · have n2 : (q.1 + 1 == i) = false := beq_eq_false_iff_ne.mpr hs
        rw [n2]
        rfl
def sx_args : List Value → List (Option Value)
  | [] => []
  | v :: t => if v.category = 2 then some v :: none :: sx_args t else some v :: sx_args t
/-- things of the start that nobody writes: they move with the tables, stay with the heap, and hold of smaller sets -/
def sx_Eok (E : (Nat → Prop) → State → Heap → Prop) : Prop :=
  (∀ (A : Nat → Prop) (u U : State) (H : Heap), u.WarmedH U.vm → E A u H → E A U H) ∧
  (∀ (A : Nat → Prop) (U : State) (H H1 : Heap), (∀ a : Nat, a < H.size → ¬ A a → H1[a]? = H[a]?) → E A U H → E A U H1) ∧
  (∀ (A B : Nat → Prop) (U : State) (H : Heap), (∀ q, B q → A q) → E A U H → E B U H)
/-- what stays over a method's walk -/
def sx_C (p : Program) (s : State) (m : MethodId) (args : Array Value) (c : Code) (cc : ByteArray) (nL : Nat) (own : String) (Ts : List Cond) (D : va_G) (cl : List vw_C) (tys : List (ClassId × FieldType)) (E : (Nat → Prop) → State → Heap → Prop) (A : Nat → Prop) : Prop :=
  CallFix p m c cc nL s args Ts own ∧ va_K D cl tys s ∧ (∀ q, s.heap.size ≤ q → A q) ∧ E A s s.heap ∧ sx_Eok E
/-- the machine at pc, in every heap that holds the map -/
def SW (p : Program) (l : Launch) (e : Env) (R : Room) (s : State) (m : MethodId) (args : Array Value) (below : List Frame) (meth : Method) (c : Code) (nL : Nat) (D : va_G) (cl : List vw_C) (A : Nat → Prop) (cells slots : Nat) (Q : State → Prop) (μ : sx_M) (pc : Nat) (lv : List (Option Value)) (st : List Value) : Prop :=
  ∀ (H : Heap) (locs : List Loc) (ls : Array Slot), sx_H D cl A μ H → va_S A s.heap H locs → sx_V ls nL lv → W p l e R s m args below meth c H locs cells slots Q (F0 m pc ls st)

def jushr (x y : Int32) : Int32 := (x.toUInt32 >>> (y.toUInt32 &&& Int32.toUInt32 31)).toInt32
def jushrL (x : Int64) (y : Int32) : Int64 := (x.toUInt64 >>> (y.toInt64.toUInt64 &&& Int64.toUInt64 63)).toInt64
def jshlL (x : Int64) (y : Int32) : Int64 := x <<< (y.toInt64 &&& 63)
def jshrL (x : Int64) (y : Int32) : Int64 := x >>> (y.toInt64 &&& 63)
def jshl (x y : Int32) : Int32 := x <<< (y &&& 31)
def jshr (x y : Int32) : Int32 := x >>> (y &&& 31)
section SXR
variable {p : Program} {l : Launch} {e : Env} {R : Room} {s : State} {m : MethodId} {args : Array Value} {below : List Frame} {meth : Method} {c : Code} {cc : ByteArray} {nL : Nat} {own : String} {Ts : List Cond} {D : va_G} {cl : List vw_C} {tys : List (ClassId × FieldType)} {E : (Nat → Prop) → State → Heap → Prop} {A : Nat → Prop} {cells slots : Nat} {Q : State → Prop} {μ : sx_M} {pc : Nat} {lv : List (Option Value)} {rest : List Value}
theorem sx_iconst (C : sx_C p s m args c cc nL own Ts D cl tys E A) {n : Int} {v : Int32} (hd : decode cc pc = .ok (.iconst n, 1)) (hv : Int32.ofInt n = v) (k : SW p l e R s m args below meth c nL D cl A cells slots Q μ (pc + 1) lv (.int v :: rest)) : SW p l e R s m args below meth c nL D cl A cells slots Q μ pc lv rest :=
  fun H locs ls hH hS hl => lv_iconst C.1.1 C.1.2.1 hd hv (k H locs ls hH hS hl)
theorem sx_bipush (C : sx_C p s m args c cc nL own Ts D cl tys E A) {n : Int} {v : Int32} (hd : decode cc pc = .ok (.bipush n, 2)) (hv : (Int8.ofInt n).toInt32 = v) (k : SW p l e R s m args below meth c nL D cl A cells slots Q μ (pc + 2) lv (.int v :: rest)) : SW p l e R s m args below meth c nL D cl A cells slots Q μ pc lv rest :=
  fun H locs ls hH hS hl => lv_bipush C.1.1 C.1.2.1 hd hv (k H locs ls hH hS hl)
theorem sx_sipush (C : sx_C p s m args c cc nL own Ts D cl tys E A) {n : Int} {v : Int32} (hd : decode cc pc = .ok (.sipush n, 3)) (hv : (Int16.ofInt n).toInt32 = v) (k : SW p l e R s m args below meth c nL D cl A cells slots Q μ (pc + 3) lv (.int v :: rest)) : SW p l e R s m args below meth c nL D cl A cells slots Q μ pc lv rest :=
  fun H locs ls hH hS hl => lv_sipush C.1.1 C.1.2.1 hd hv (k H locs ls hH hS hl)
theorem sx_lconst (C : sx_C p s m args c cc nL own Ts D cl tys E A) {n : Fin 2} {v : Int64} (hd : decode cc pc = .ok (.lconst n, 1)) (hv : Int64.ofNat (n : Nat) = v) (k : SW p l e R s m args below meth c nL D cl A cells slots Q μ (pc + 1) lv (.long v :: rest)) : SW p l e R s m args below meth c nL D cl A cells slots Q μ pc lv rest :=
  fun H locs ls hH hS hl => lv_lconst C.1.1 C.1.2.1 hd hv (k H locs ls hH hS hl)
theorem sx_ldc (C : sx_C p s m args c cc nL own Ts D cl tys E A) {index : Nat} {v : Int32} (hd : decode cc pc = .ok (.ldc index, 2)) (hc : (Jvm.Cond.constant own index v).before args s = true) (k : SW p l e R s m args below meth c nL D cl A cells slots Q μ (pc + 2) lv (.int v :: rest)) : SW p l e R s m args below meth c nL D cl A cells slots Q μ pc lv rest :=
  fun H locs ls hH hS hl => lv_ldc C.1.1 C.1.2.1 C.1.2.2.2.1 hc hd (k H locs ls hH hS hl)
theorem sx_ldc2 (C : sx_C p s m args c cc nL own Ts D cl tys E A) {index : Nat} {v : Int64} (hd : decode cc pc = .ok (.ldc2_w index, 3)) (hc : (Jvm.Cond.constantLong own index v).before args s = true) (k : SW p l e R s m args below meth c nL D cl A cells slots Q μ (pc + 3) lv (.long v :: rest)) : SW p l e R s m args below meth c nL D cl A cells slots Q μ pc lv rest :=
  fun H locs ls hH hS hl => lv_ldc2 C.1.1 C.1.2.1 C.1.2.2.2.1 hc hd (k H locs ls hH hS hl)
theorem sx_iload_n (C : sx_C p s m args c cc nL own Ts D cl tys E A) {k : Fin 4} {i : Nat} {x : Int32} (hd : decode cc pc = .ok (.iload_n k, 1)) (hi : (k : Nat) = i) (hg : lv[i]? = some (some (.int x))) (k : SW p l e R s m args below meth c nL D cl A cells slots Q μ (pc + 1) lv (.int x :: rest)) : SW p l e R s m args below meth c nL D cl A cells slots Q μ pc lv rest :=
  fun H locs ls hH hS hl => lv_iload_n C.1.1 C.1.2.1 hd hi (sx_V_get hl hg) (k H locs ls hH hS hl)
theorem sx_iload (C : sx_C p s m args c cc nL own Ts D cl tys E A) {i : Nat} {x : Int32} (hd : decode cc pc = .ok (.iload i, 2)) (hg : lv[i]? = some (some (.int x))) (k : SW p l e R s m args below meth c nL D cl A cells slots Q μ (pc + 2) lv (.int x :: rest)) : SW p l e R s m args below meth c nL D cl A cells slots Q μ pc lv rest :=
  fun H locs ls hH hS hl => lv_iload C.1.1 C.1.2.1 hd (sx_V_get hl hg) (k H locs ls hH hS hl)
theorem sx_istore_n (C : sx_C p s m args c cc nL own Ts D cl tys E A) {k : Fin 4} {i : Nat} {x : Int32} {lv' : List (Option Value)} (hd : decode cc pc = .ok (.istore_n k, 1)) (hi : (k : Nat) = i) (hn : i < nL) (hok : sx_ok lv i = true) (hlv : lv.set i (some (.int x)) = lv') (k : SW p l e R s m args below meth c nL D cl A cells slots Q μ (pc + 1) lv' rest) : SW p l e R s m args below meth c nL D cl A cells slots Q μ pc lv (.int x :: rest) :=
  fun H locs ls hH hS hl => lv_istore_n C.1.1 C.1.2.1 hd hi hl hn rfl (fun ls' h' => k H locs ls' hH hS (hlv ▸ sx_V_set1 h' hok))
theorem sx_istore (C : sx_C p s m args c cc nL own Ts D cl tys E A) {i : Nat} {x : Int32} {lv' : List (Option Value)} (hd : decode cc pc = .ok (.istore i, 2)) (hn : i < nL) (hok : sx_ok lv i = true) (hlv : lv.set i (some (.int x)) = lv') (k : SW p l e R s m args below meth c nL D cl A cells slots Q μ (pc + 2) lv' rest) : SW p l e R s m args below meth c nL D cl A cells slots Q μ pc lv (.int x :: rest) :=
  fun H locs ls hH hS hl => lv_istore C.1.1 C.1.2.1 hd hl hn rfl (fun ls' h' => k H locs ls' hH hS (hlv ▸ sx_V_set1 h' hok))
theorem sx_lload_n (C : sx_C p s m args c cc nL own Ts D cl tys E A) {k : Fin 4} {i : Nat} {x : Int64} (hd : decode cc pc = .ok (.lload_n k, 1)) (hi : (k : Nat) = i) (hg : lv[i]? = some (some (.long x))) (k : SW p l e R s m args below meth c nL D cl A cells slots Q μ (pc + 1) lv (.long x :: rest)) : SW p l e R s m args below meth c nL D cl A cells slots Q μ pc lv rest :=
  fun H locs ls hH hS hl => lv_lload_n C.1.1 C.1.2.1 hd hi (sx_V_get hl hg) (k H locs ls hH hS hl)
theorem sx_lload (C : sx_C p s m args c cc nL own Ts D cl tys E A) {i : Nat} {x : Int64} (hd : decode cc pc = .ok (.lload i, 2)) (hg : lv[i]? = some (some (.long x))) (k : SW p l e R s m args below meth c nL D cl A cells slots Q μ (pc + 2) lv (.long x :: rest)) : SW p l e R s m args below meth c nL D cl A cells slots Q μ pc lv rest :=
  fun H locs ls hH hS hl => lv_lload C.1.1 C.1.2.1 hd (sx_V_get hl hg) (k H locs ls hH hS hl)
theorem sx_lstore_n (C : sx_C p s m args c cc nL own Ts D cl tys E A) {k : Fin 4} {i : Nat} {x : Int64} {lv' : List (Option Value)} (hd : decode cc pc = .ok (.lstore_n k, 1)) (hi : (k : Nat) = i) (hn : i + 1 < nL) (hok : sx_ok lv i = true) (hlv : (lv.set i (some (.long x))).set (i + 1) none = lv') (k : SW p l e R s m args below meth c nL D cl A cells slots Q μ (pc + 1) lv' rest) : SW p l e R s m args below meth c nL D cl A cells slots Q μ pc lv (.long x :: rest) :=
  fun H locs ls hH hS hl => lv_lstore_n C.1.1 C.1.2.1 hd hi hl hn rfl (fun ls' h' => k H locs ls' hH hS (hlv ▸ sx_V_set2 h' hok))
theorem sx_lstore (C : sx_C p s m args c cc nL own Ts D cl tys E A) {i : Nat} {x : Int64} {lv' : List (Option Value)} (hd : decode cc pc = .ok (.lstore i, 2)) (hn : i + 1 < nL) (hok : sx_ok lv i = true) (hlv : (lv.set i (some (.long x))).set (i + 1) none = lv') (k : SW p l e R s m args below meth c nL D cl A cells slots Q μ (pc + 2) lv' rest) : SW p l e R s m args below meth c nL D cl A cells slots Q μ pc lv (.long x :: rest) :=
  fun H locs ls hH hS hl => lv_lstore C.1.1 C.1.2.1 hd hl hn rfl (fun ls' h' => k H locs ls' hH hS (hlv ▸ sx_V_set2 h' hok))
theorem sx_aload_n (C : sx_C p s m args c cc nL own Ts D cl tys E A) {k : Fin 4} {i : Nat} {x : Nat} (hd : decode cc pc = .ok (.aload_n k, 1)) (hi : (k : Nat) = i) (hg : lv[i]? = some (some (.ref x))) (k : SW p l e R s m args below meth c nL D cl A cells slots Q μ (pc + 1) lv (.ref x :: rest)) : SW p l e R s m args below meth c nL D cl A cells slots Q μ pc lv rest :=
  fun H locs ls hH hS hl => lv_aload_n C.1.1 C.1.2.1 hd hi (sx_V_get hl hg) (k H locs ls hH hS hl)
theorem sx_aload (C : sx_C p s m args c cc nL own Ts D cl tys E A) {i : Nat} {x : Nat} (hd : decode cc pc = .ok (.aload i, 2)) (hg : lv[i]? = some (some (.ref x))) (k : SW p l e R s m args below meth c nL D cl A cells slots Q μ (pc + 2) lv (.ref x :: rest)) : SW p l e R s m args below meth c nL D cl A cells slots Q μ pc lv rest :=
  fun H locs ls hH hS hl => lv_aload C.1.1 C.1.2.1 hd (sx_V_get hl hg) (k H locs ls hH hS hl)
theorem sx_astore_n (C : sx_C p s m args c cc nL own Ts D cl tys E A) {k : Fin 4} {i : Nat} {x : Nat} {lv' : List (Option Value)} (hd : decode cc pc = .ok (.astore_n k, 1)) (hi : (k : Nat) = i) (hn : i < nL) (hok : sx_ok lv i = true) (hlv : lv.set i (some (.ref x)) = lv') (k : SW p l e R s m args below meth c nL D cl A cells slots Q μ (pc + 1) lv' rest) : SW p l e R s m args below meth c nL D cl A cells slots Q μ pc lv (.ref x :: rest) :=
  fun H locs ls hH hS hl => lv_astore_n C.1.1 C.1.2.1 hd hi hl hn rfl (fun ls' h' => k H locs ls' hH hS (hlv ▸ sx_V_set1 h' hok))
theorem sx_astore (C : sx_C p s m args c cc nL own Ts D cl tys E A) {i : Nat} {x : Nat} {lv' : List (Option Value)} (hd : decode cc pc = .ok (.astore i, 2)) (hn : i < nL) (hok : sx_ok lv i = true) (hlv : lv.set i (some (.ref x)) = lv') (k : SW p l e R s m args below meth c nL D cl A cells slots Q μ (pc + 2) lv' rest) : SW p l e R s m args below meth c nL D cl A cells slots Q μ pc lv (.ref x :: rest) :=
  fun H locs ls hH hS hl => lv_astore C.1.1 C.1.2.1 hd hl hn rfl (fun ls' h' => k H locs ls' hH hS (hlv ▸ sx_V_set1 h' hok))
theorem sx_iinc (C : sx_C p s m args c cc nL own Ts D cl tys E A) {i : Nat} {n : Int} {x v : Int32} {lv' : List (Option Value)} (hd : decode cc pc = .ok (.iinc i n, 3)) (hg : lv[i]? = some (some (.int x))) (hv : x + Int32.ofInt n = v) (hn : i < nL) (hok : sx_ok lv i = true) (hlv : lv.set i (some (.int v)) = lv') (k : SW p l e R s m args below meth c nL D cl A cells slots Q μ (pc + 3) lv' rest) : SW p l e R s m args below meth c nL D cl A cells slots Q μ pc lv rest := by
  intro H locs ls hH hS hl
  obtain ⟨j, hj⟩ := List.getElem?_of_mem ((sx_lv_mem lv 0 (i, .int x)).mpr ⟨i, by omega, hg⟩)
  exact lv_iinc C.1.1 C.1.2.1 hd hl hj hv hn rfl (fun ls' h' => k H locs ls' hH hS (hlv ▸ sx_V_set1 h' hok))
theorem sx_iadd (C : sx_C p s m args c cc nL own Ts D cl tys E A) {x y : Int32} (hd : decode cc pc = .ok (.iadd, 1))  (k : SW p l e R s m args below meth c nL D cl A cells slots Q μ (pc + 1) lv (.int (x + y) :: rest)) : SW p l e R s m args below meth c nL D cl A cells slots Q μ pc lv (.int y :: .int x :: rest) :=
  fun H locs ls hH hS hl => lv_iadd C.1.1 C.1.2.1 hd (k H locs ls hH hS hl)
theorem sx_isub (C : sx_C p s m args c cc nL own Ts D cl tys E A) {x y : Int32} (hd : decode cc pc = .ok (.isub, 1))  (k : SW p l e R s m args below meth c nL D cl A cells slots Q μ (pc + 1) lv (.int (x - y) :: rest)) : SW p l e R s m args below meth c nL D cl A cells slots Q μ pc lv (.int y :: .int x :: rest) :=
  fun H locs ls hH hS hl => lv_isub C.1.1 C.1.2.1 hd (k H locs ls hH hS hl)
theorem sx_imul (C : sx_C p s m args c cc nL own Ts D cl tys E A) {x y : Int32} (hd : decode cc pc = .ok (.imul, 1))  (k : SW p l e R s m args below meth c nL D cl A cells slots Q μ (pc + 1) lv (.int (x * y) :: rest)) : SW p l e R s m args below meth c nL D cl A cells slots Q μ pc lv (.int y :: .int x :: rest) :=
  fun H locs ls hH hS hl => lv_imul C.1.1 C.1.2.1 hd (k H locs ls hH hS hl)
theorem sx_iand (C : sx_C p s m args c cc nL own Ts D cl tys E A) {x y : Int32} (hd : decode cc pc = .ok (.iand, 1))  (k : SW p l e R s m args below meth c nL D cl A cells slots Q μ (pc + 1) lv (.int (x &&& y) :: rest)) : SW p l e R s m args below meth c nL D cl A cells slots Q μ pc lv (.int y :: .int x :: rest) :=
  fun H locs ls hH hS hl => lv_iand C.1.1 C.1.2.1 hd (k H locs ls hH hS hl)
theorem sx_ior (C : sx_C p s m args c cc nL own Ts D cl tys E A) {x y : Int32} (hd : decode cc pc = .ok (.ior, 1))  (k : SW p l e R s m args below meth c nL D cl A cells slots Q μ (pc + 1) lv (.int (x ||| y) :: rest)) : SW p l e R s m args below meth c nL D cl A cells slots Q μ pc lv (.int y :: .int x :: rest) :=
  fun H locs ls hH hS hl => lv_ior C.1.1 C.1.2.1 hd (k H locs ls hH hS hl)
theorem sx_ixor (C : sx_C p s m args c cc nL own Ts D cl tys E A) {x y : Int32} (hd : decode cc pc = .ok (.ixor, 1))  (k : SW p l e R s m args below meth c nL D cl A cells slots Q μ (pc + 1) lv (.int (x ^^^ y) :: rest)) : SW p l e R s m args below meth c nL D cl A cells slots Q μ pc lv (.int y :: .int x :: rest) :=
  fun H locs ls hH hS hl => lv_ixor C.1.1 C.1.2.1 hd (k H locs ls hH hS hl)
theorem sx_ladd (C : sx_C p s m args c cc nL own Ts D cl tys E A) {x y : Int64} (hd : decode cc pc = .ok (.ladd, 1))  (k : SW p l e R s m args below meth c nL D cl A cells slots Q μ (pc + 1) lv (.long (x + y) :: rest)) : SW p l e R s m args below meth c nL D cl A cells slots Q μ pc lv (.long y :: .long x :: rest) :=
  fun H locs ls hH hS hl => lv_ladd C.1.1 C.1.2.1 hd (k H locs ls hH hS hl)
theorem sx_lsub (C : sx_C p s m args c cc nL own Ts D cl tys E A) {x y : Int64} (hd : decode cc pc = .ok (.lsub, 1))  (k : SW p l e R s m args below meth c nL D cl A cells slots Q μ (pc + 1) lv (.long (x - y) :: rest)) : SW p l e R s m args below meth c nL D cl A cells slots Q μ pc lv (.long y :: .long x :: rest) :=
  fun H locs ls hH hS hl => lv_lsub C.1.1 C.1.2.1 hd (k H locs ls hH hS hl)
theorem sx_lmul (C : sx_C p s m args c cc nL own Ts D cl tys E A) {x y : Int64} (hd : decode cc pc = .ok (.lmul, 1))  (k : SW p l e R s m args below meth c nL D cl A cells slots Q μ (pc + 1) lv (.long (x * y) :: rest)) : SW p l e R s m args below meth c nL D cl A cells slots Q μ pc lv (.long y :: .long x :: rest) :=
  fun H locs ls hH hS hl => lv_lmul C.1.1 C.1.2.1 hd (k H locs ls hH hS hl)
theorem sx_land (C : sx_C p s m args c cc nL own Ts D cl tys E A) {x y : Int64} (hd : decode cc pc = .ok (.land, 1))  (k : SW p l e R s m args below meth c nL D cl A cells slots Q μ (pc + 1) lv (.long (x &&& y) :: rest)) : SW p l e R s m args below meth c nL D cl A cells slots Q μ pc lv (.long y :: .long x :: rest) :=
  fun H locs ls hH hS hl => lv_land C.1.1 C.1.2.1 hd (k H locs ls hH hS hl)
theorem sx_lor (C : sx_C p s m args c cc nL own Ts D cl tys E A) {x y : Int64} (hd : decode cc pc = .ok (.lor, 1))  (k : SW p l e R s m args below meth c nL D cl A cells slots Q μ (pc + 1) lv (.long (x ||| y) :: rest)) : SW p l e R s m args below meth c nL D cl A cells slots Q μ pc lv (.long y :: .long x :: rest) :=
  fun H locs ls hH hS hl => lv_lor C.1.1 C.1.2.1 hd (k H locs ls hH hS hl)
theorem sx_lxor (C : sx_C p s m args c cc nL own Ts D cl tys E A) {x y : Int64} (hd : decode cc pc = .ok (.lxor, 1))  (k : SW p l e R s m args below meth c nL D cl A cells slots Q μ (pc + 1) lv (.long (x ^^^ y) :: rest)) : SW p l e R s m args below meth c nL D cl A cells slots Q μ pc lv (.long y :: .long x :: rest) :=
  fun H locs ls hH hS hl => lv_lxor C.1.1 C.1.2.1 hd (k H locs ls hH hS hl)
theorem sx_ineg (C : sx_C p s m args c cc nL own Ts D cl tys E A) {x : Int32} (hd : decode cc pc = .ok (.ineg, 1))  (k : SW p l e R s m args below meth c nL D cl A cells slots Q μ (pc + 1) lv (.int (-x) :: rest)) : SW p l e R s m args below meth c nL D cl A cells slots Q μ pc lv (.int x :: rest) :=
  fun H locs ls hH hS hl => lv_ineg C.1.1 C.1.2.1 hd (k H locs ls hH hS hl)
theorem sx_idiv (C : sx_C p s m args c cc nL own Ts D cl tys E A) {x y : Int32} (hd : decode cc pc = .ok (.idiv, 1)) (hne : ¬ y = 0) (k : SW p l e R s m args below meth c nL D cl A cells slots Q μ (pc + 1) lv (.int (x / y) :: rest)) : SW p l e R s m args below meth c nL D cl A cells slots Q μ pc lv (.int y :: .int x :: rest) :=
  fun H locs ls hH hS hl => lv_idiv C.1.1 C.1.2.1 hd hne (k H locs ls hH hS hl)
theorem sx_irem (C : sx_C p s m args c cc nL own Ts D cl tys E A) {x y : Int32} (hd : decode cc pc = .ok (.irem, 1)) (hne : ¬ y = 0) (k : SW p l e R s m args below meth c nL D cl A cells slots Q μ (pc + 1) lv (.int (x - x / y * y) :: rest)) : SW p l e R s m args below meth c nL D cl A cells slots Q μ pc lv (.int y :: .int x :: rest) :=
  fun H locs ls hH hS hl => lv_irem C.1.1 C.1.2.1 hd hne (k H locs ls hH hS hl)
theorem sx_ishl (C : sx_C p s m args c cc nL own Ts D cl tys E A) {x y : Int32} (hd : decode cc pc = .ok (.ishl, 1))  (k : SW p l e R s m args below meth c nL D cl A cells slots Q μ (pc + 1) lv (.int (jshl x y) :: rest)) : SW p l e R s m args below meth c nL D cl A cells slots Q μ pc lv (.int y :: .int x :: rest) :=
  fun H locs ls hH hS hl => lv_ishl C.1.1 C.1.2.1 hd (k H locs ls hH hS hl)
theorem sx_ishr (C : sx_C p s m args c cc nL own Ts D cl tys E A) {x y : Int32} (hd : decode cc pc = .ok (.ishr, 1))  (k : SW p l e R s m args below meth c nL D cl A cells slots Q μ (pc + 1) lv (.int (jshr x y) :: rest)) : SW p l e R s m args below meth c nL D cl A cells slots Q μ pc lv (.int y :: .int x :: rest) :=
  fun H locs ls hH hS hl => lv_ishr C.1.1 C.1.2.1 hd (k H locs ls hH hS hl)
theorem sx_iushr (C : sx_C p s m args c cc nL own Ts D cl tys E A) {x y : Int32} (hd : decode cc pc = .ok (.iushr, 1))  (k : SW p l e R s m args below meth c nL D cl A cells slots Q μ (pc + 1) lv (.int (jushr x y) :: rest)) : SW p l e R s m args below meth c nL D cl A cells slots Q μ pc lv (.int y :: .int x :: rest) :=
  fun H locs ls hH hS hl => lv_iushr C.1.1 C.1.2.1 hd rfl (k H locs ls hH hS hl)
theorem sx_lushr (C : sx_C p s m args c cc nL own Ts D cl tys E A) {x : Int64} {y : Int32} (hd : decode cc pc = .ok (.lushr, 1))  (k : SW p l e R s m args below meth c nL D cl A cells slots Q μ (pc + 1) lv (.long (jushrL x y) :: rest)) : SW p l e R s m args below meth c nL D cl A cells slots Q μ pc lv (.int y :: .long x :: rest) :=
  fun H locs ls hH hS hl => lv_lushr C.1.1 C.1.2.1 hd rfl (k H locs ls hH hS hl)
theorem sx_lshl (C : sx_C p s m args c cc nL own Ts D cl tys E A) {x : Int64} {y : Int32} (hd : decode cc pc = .ok (.lshl, 1))  (k : SW p l e R s m args below meth c nL D cl A cells slots Q μ (pc + 1) lv (.long (jshlL x y) :: rest)) : SW p l e R s m args below meth c nL D cl A cells slots Q μ pc lv (.int y :: .long x :: rest) :=
  fun H locs ls hH hS hl => lv_lshl C.1.1 C.1.2.1 hd rfl (k H locs ls hH hS hl)
theorem sx_lshr (C : sx_C p s m args c cc nL own Ts D cl tys E A) {x : Int64} {y : Int32} (hd : decode cc pc = .ok (.lshr, 1))  (k : SW p l e R s m args below meth c nL D cl A cells slots Q μ (pc + 1) lv (.long (jshrL x y) :: rest)) : SW p l e R s m args below meth c nL D cl A cells slots Q μ pc lv (.int y :: .long x :: rest) :=
  fun H locs ls hH hS hl => lv_lshr C.1.1 C.1.2.1 hd rfl (k H locs ls hH hS hl)
theorem sx_i2l (C : sx_C p s m args c cc nL own Ts D cl tys E A) {x : Int32} (hd : decode cc pc = .ok (.i2l, 1))  (k : SW p l e R s m args below meth c nL D cl A cells slots Q μ (pc + 1) lv (.long x.toInt64 :: rest)) : SW p l e R s m args below meth c nL D cl A cells slots Q μ pc lv (.int x :: rest) :=
  fun H locs ls hH hS hl => lv_i2l C.1.1 C.1.2.1 hd rfl (k H locs ls hH hS hl)
theorem sx_l2i (C : sx_C p s m args c cc nL own Ts D cl tys E A) {x : Int64} (hd : decode cc pc = .ok (.l2i, 1))  (k : SW p l e R s m args below meth c nL D cl A cells slots Q μ (pc + 1) lv (.int x.toInt32 :: rest)) : SW p l e R s m args below meth c nL D cl A cells slots Q μ pc lv (.long x :: rest) :=
  fun H locs ls hH hS hl => lv_l2i C.1.1 C.1.2.1 hd rfl (k H locs ls hH hS hl)
theorem sx_dup (C : sx_C p s m args c cc nL own Ts D cl tys E A) {va : Value} (hd : decode cc pc = .ok (.dup, 1)) (h1 : va.category = 1) (k : SW p l e R s m args below meth c nL D cl A cells slots Q μ (pc + 1) lv (va :: va :: rest)) : SW p l e R s m args below meth c nL D cl A cells slots Q μ pc lv (va :: rest) :=
  fun H locs ls hH hS hl => lv_dup C.1.1 C.1.2.1 hd h1 (k H locs ls hH hS hl)
theorem sx_pop (C : sx_C p s m args c cc nL own Ts D cl tys E A) {va : Value} (hd : decode cc pc = .ok (.pop, 1)) (h1 : va.category = 1) (k : SW p l e R s m args below meth c nL D cl A cells slots Q μ (pc + 1) lv rest) : SW p l e R s m args below meth c nL D cl A cells slots Q μ pc lv (va :: rest) :=
  fun H locs ls hH hS hl => lv_pop C.1.1 C.1.2.1 hd h1 (k H locs ls hH hS hl)
theorem sx_dup_x1 (C : sx_C p s m args c cc nL own Ts D cl tys E A) {va vb : Value} (hd : decode cc pc = .ok (.dup_x1, 1)) (h1 : va.category = 1) (h2 : vb.category = 1) (k : SW p l e R s m args below meth c nL D cl A cells slots Q μ (pc + 1) lv (va :: vb :: va :: rest)) : SW p l e R s m args below meth c nL D cl A cells slots Q μ pc lv (va :: vb :: rest) :=
  fun H locs ls hH hS hl => lv_dup_x1 C.1.1 C.1.2.1 hd h1 h2 (k H locs ls hH hS hl)
theorem sx_dup_x2 (C : sx_C p s m args c cc nL own Ts D cl tys E A) {va vb vd : Value} (hd : decode cc pc = .ok (.dup_x2, 1)) (h1 : va.category = 1) (h2 : vb.category = 1) (h3 : vd.category = 1) (k : SW p l e R s m args below meth c nL D cl A cells slots Q μ (pc + 1) lv (va :: vb :: vd :: va :: rest)) : SW p l e R s m args below meth c nL D cl A cells slots Q μ pc lv (va :: vb :: vd :: rest) :=
  fun H locs ls hH hS hl => lv_dup_x2 C.1.1 C.1.2.1 hd h1 h2 h3 (k H locs ls hH hS hl)
theorem sx_dup2_11 (C : sx_C p s m args c cc nL own Ts D cl tys E A) {va vb : Value} (hd : decode cc pc = .ok (.dup2, 1)) (h1 : va.category = 1) (h2 : vb.category = 1) (k : SW p l e R s m args below meth c nL D cl A cells slots Q μ (pc + 1) lv (va :: vb :: va :: vb :: rest)) : SW p l e R s m args below meth c nL D cl A cells slots Q μ pc lv (va :: vb :: rest) :=
  fun H locs ls hH hS hl => lv_dup2_11 C.1.1 C.1.2.1 hd h1 h2 (k H locs ls hH hS hl)
theorem sx_dup2_2 (C : sx_C p s m args c cc nL own Ts D cl tys E A) {va : Value} (hd : decode cc pc = .ok (.dup2, 1)) (h1 : va.category = 2) (k : SW p l e R s m args below meth c nL D cl A cells slots Q μ (pc + 1) lv (va :: va :: rest)) : SW p l e R s m args below meth c nL D cl A cells slots Q μ pc lv (va :: rest) :=
  fun H locs ls hH hS hl => lv_dup2_2 C.1.1 C.1.2.1 hd h1 (k H locs ls hH hS hl)
theorem sx_pop2_2 (C : sx_C p s m args c cc nL own Ts D cl tys E A) {va : Value} (hd : decode cc pc = .ok (.pop2, 1)) (h1 : va.category = 2) (k : SW p l e R s m args below meth c nL D cl A cells slots Q μ (pc + 1) lv rest) : SW p l e R s m args below meth c nL D cl A cells slots Q μ pc lv (va :: rest) :=
  fun H locs ls hH hS hl => lv_pop2_2 C.1.1 C.1.2.1 hd h1 (k H locs ls hH hS hl)
theorem sx_goto (C : sx_C p s m args c cc nL own Ts D cl tys E A) {off : Int} {tgt : Nat} (hd : decode cc pc = .ok (.goto off, 3)) (ht : (pc : Int) + off = (tgt : Int)) (k : SW p l e R s m args below meth c nL D cl A cells slots Q μ (tgt) lv rest) : SW p l e R s m args below meth c nL D cl A cells slots Q μ pc lv rest :=
  fun H locs ls hH hS hl => lv_goto C.1.1 C.1.2.1 hd ht (k H locs ls hH hS hl)
theorem sx_if_eq (C : sx_C p s m args c cc nL own Ts D cl tys E A) {x : Int32} {off : Int} {tgt : Nat} (hd : decode cc pc = .ok (.ifCond .eq off, 3)) (ht : (pc : Int) + off = (tgt : Int)) (kt : x = 0 → SW p l e R s m args below meth c nL D cl A cells slots Q μ tgt lv rest) (kf : ¬ (x = 0) → SW p l e R s m args below meth c nL D cl A cells slots Q μ (pc + 3) lv rest) : SW p l e R s m args below meth c nL D cl A cells slots Q μ pc lv (.int x :: rest) :=
  fun H locs ls hH hS hl => lv_if_eq C.1.1 C.1.2.1 hd ht (fun z => kt z H locs ls hH hS hl) (fun z => kf z H locs ls hH hS hl)
theorem sx_icmp_eq (C : sx_C p s m args c cc nL own Ts D cl tys E A) {x y : Int32} {off : Int} {tgt : Nat} (hd : decode cc pc = .ok (.if_icmp .eq off, 3)) (ht : (pc : Int) + off = (tgt : Int)) (kt : x = y → SW p l e R s m args below meth c nL D cl A cells slots Q μ tgt lv rest) (kf : ¬ (x = y) → SW p l e R s m args below meth c nL D cl A cells slots Q μ (pc + 3) lv rest) : SW p l e R s m args below meth c nL D cl A cells slots Q μ pc lv (.int y :: .int x :: rest) :=
  fun H locs ls hH hS hl => lv_icmp_eq C.1.1 C.1.2.1 hd ht (fun z => kt z H locs ls hH hS hl) (fun z => kf z H locs ls hH hS hl)
theorem sx_if_ne (C : sx_C p s m args c cc nL own Ts D cl tys E A) {x : Int32} {off : Int} {tgt : Nat} (hd : decode cc pc = .ok (.ifCond .ne off, 3)) (ht : (pc : Int) + off = (tgt : Int)) (kt : ¬ x = 0 → SW p l e R s m args below meth c nL D cl A cells slots Q μ tgt lv rest) (kf : x = 0 → SW p l e R s m args below meth c nL D cl A cells slots Q μ (pc + 3) lv rest) : SW p l e R s m args below meth c nL D cl A cells slots Q μ pc lv (.int x :: rest) :=
  fun H locs ls hH hS hl => lv_if_ne C.1.1 C.1.2.1 hd ht (fun z => kt z H locs ls hH hS hl) (fun z => kf z H locs ls hH hS hl)
theorem sx_icmp_ne (C : sx_C p s m args c cc nL own Ts D cl tys E A) {x y : Int32} {off : Int} {tgt : Nat} (hd : decode cc pc = .ok (.if_icmp .ne off, 3)) (ht : (pc : Int) + off = (tgt : Int)) (kt : ¬ x = y → SW p l e R s m args below meth c nL D cl A cells slots Q μ tgt lv rest) (kf : x = y → SW p l e R s m args below meth c nL D cl A cells slots Q μ (pc + 3) lv rest) : SW p l e R s m args below meth c nL D cl A cells slots Q μ pc lv (.int y :: .int x :: rest) :=
  fun H locs ls hH hS hl => lv_icmp_ne C.1.1 C.1.2.1 hd ht (fun z => kt z H locs ls hH hS hl) (fun z => kf z H locs ls hH hS hl)
theorem sx_if_lt (C : sx_C p s m args c cc nL own Ts D cl tys E A) {x : Int32} {off : Int} {tgt : Nat} (hd : decode cc pc = .ok (.ifCond .lt off, 3)) (ht : (pc : Int) + off = (tgt : Int)) (kt : x < 0 → SW p l e R s m args below meth c nL D cl A cells slots Q μ tgt lv rest) (kf : ¬ (x < 0) → SW p l e R s m args below meth c nL D cl A cells slots Q μ (pc + 3) lv rest) : SW p l e R s m args below meth c nL D cl A cells slots Q μ pc lv (.int x :: rest) :=
  fun H locs ls hH hS hl => lv_if_lt C.1.1 C.1.2.1 hd ht (fun z => kt z H locs ls hH hS hl) (fun z => kf z H locs ls hH hS hl)
theorem sx_icmp_lt (C : sx_C p s m args c cc nL own Ts D cl tys E A) {x y : Int32} {off : Int} {tgt : Nat} (hd : decode cc pc = .ok (.if_icmp .lt off, 3)) (ht : (pc : Int) + off = (tgt : Int)) (kt : x < y → SW p l e R s m args below meth c nL D cl A cells slots Q μ tgt lv rest) (kf : ¬ (x < y) → SW p l e R s m args below meth c nL D cl A cells slots Q μ (pc + 3) lv rest) : SW p l e R s m args below meth c nL D cl A cells slots Q μ pc lv (.int y :: .int x :: rest) :=
  fun H locs ls hH hS hl => lv_icmp_lt C.1.1 C.1.2.1 hd ht (fun z => kt z H locs ls hH hS hl) (fun z => kf z H locs ls hH hS hl)
theorem sx_if_ge (C : sx_C p s m args c cc nL own Ts D cl tys E A) {x : Int32} {off : Int} {tgt : Nat} (hd : decode cc pc = .ok (.ifCond .ge off, 3)) (ht : (pc : Int) + off = (tgt : Int)) (kt : 0 ≤ x → SW p l e R s m args below meth c nL D cl A cells slots Q μ tgt lv rest) (kf : ¬ (0 ≤ x) → SW p l e R s m args below meth c nL D cl A cells slots Q μ (pc + 3) lv rest) : SW p l e R s m args below meth c nL D cl A cells slots Q μ pc lv (.int x :: rest) :=
  fun H locs ls hH hS hl => lv_if_ge C.1.1 C.1.2.1 hd ht (fun z => kt z H locs ls hH hS hl) (fun z => kf z H locs ls hH hS hl)
theorem sx_icmp_ge (C : sx_C p s m args c cc nL own Ts D cl tys E A) {x y : Int32} {off : Int} {tgt : Nat} (hd : decode cc pc = .ok (.if_icmp .ge off, 3)) (ht : (pc : Int) + off = (tgt : Int)) (kt : y ≤ x → SW p l e R s m args below meth c nL D cl A cells slots Q μ tgt lv rest) (kf : ¬ (y ≤ x) → SW p l e R s m args below meth c nL D cl A cells slots Q μ (pc + 3) lv rest) : SW p l e R s m args below meth c nL D cl A cells slots Q μ pc lv (.int y :: .int x :: rest) :=
  fun H locs ls hH hS hl => lv_icmp_ge C.1.1 C.1.2.1 hd ht (fun z => kt z H locs ls hH hS hl) (fun z => kf z H locs ls hH hS hl)
theorem sx_if_gt (C : sx_C p s m args c cc nL own Ts D cl tys E A) {x : Int32} {off : Int} {tgt : Nat} (hd : decode cc pc = .ok (.ifCond .gt off, 3)) (ht : (pc : Int) + off = (tgt : Int)) (kt : 0 < x → SW p l e R s m args below meth c nL D cl A cells slots Q μ tgt lv rest) (kf : ¬ (0 < x) → SW p l e R s m args below meth c nL D cl A cells slots Q μ (pc + 3) lv rest) : SW p l e R s m args below meth c nL D cl A cells slots Q μ pc lv (.int x :: rest) :=
  fun H locs ls hH hS hl => lv_if_gt C.1.1 C.1.2.1 hd ht (fun z => kt z H locs ls hH hS hl) (fun z => kf z H locs ls hH hS hl)
theorem sx_icmp_gt (C : sx_C p s m args c cc nL own Ts D cl tys E A) {x y : Int32} {off : Int} {tgt : Nat} (hd : decode cc pc = .ok (.if_icmp .gt off, 3)) (ht : (pc : Int) + off = (tgt : Int)) (kt : y < x → SW p l e R s m args below meth c nL D cl A cells slots Q μ tgt lv rest) (kf : ¬ (y < x) → SW p l e R s m args below meth c nL D cl A cells slots Q μ (pc + 3) lv rest) : SW p l e R s m args below meth c nL D cl A cells slots Q μ pc lv (.int y :: .int x :: rest) :=
  fun H locs ls hH hS hl => lv_icmp_gt C.1.1 C.1.2.1 hd ht (fun z => kt z H locs ls hH hS hl) (fun z => kf z H locs ls hH hS hl)
theorem sx_if_le (C : sx_C p s m args c cc nL own Ts D cl tys E A) {x : Int32} {off : Int} {tgt : Nat} (hd : decode cc pc = .ok (.ifCond .le off, 3)) (ht : (pc : Int) + off = (tgt : Int)) (kt : x ≤ 0 → SW p l e R s m args below meth c nL D cl A cells slots Q μ tgt lv rest) (kf : ¬ (x ≤ 0) → SW p l e R s m args below meth c nL D cl A cells slots Q μ (pc + 3) lv rest) : SW p l e R s m args below meth c nL D cl A cells slots Q μ pc lv (.int x :: rest) :=
  fun H locs ls hH hS hl => lv_if_le C.1.1 C.1.2.1 hd ht (fun z => kt z H locs ls hH hS hl) (fun z => kf z H locs ls hH hS hl)
theorem sx_icmp_le (C : sx_C p s m args c cc nL own Ts D cl tys E A) {x y : Int32} {off : Int} {tgt : Nat} (hd : decode cc pc = .ok (.if_icmp .le off, 3)) (ht : (pc : Int) + off = (tgt : Int)) (kt : x ≤ y → SW p l e R s m args below meth c nL D cl A cells slots Q μ tgt lv rest) (kf : ¬ (x ≤ y) → SW p l e R s m args below meth c nL D cl A cells slots Q μ (pc + 3) lv rest) : SW p l e R s m args below meth c nL D cl A cells slots Q μ pc lv (.int y :: .int x :: rest) :=
  fun H locs ls hH hS hl => lv_icmp_le C.1.1 C.1.2.1 hd ht (fun z => kt z H locs ls hH hS hl) (fun z => kf z H locs ls hH hS hl)
theorem sx_lcmp (C : sx_C p s m args c cc nL own Ts D cl tys E A) {x y : Int64} (hd : decode cc pc = .ok (.lcmp, 1))  (k : SW p l e R s m args below meth c nL D cl A cells slots Q μ (pc + 1) lv (.int (lg_cmp x y) :: rest)) : SW p l e R s m args below meth c nL D cl A cells slots Q μ pc lv (.long y :: .long x :: rest) :=
  fun H locs ls hH hS hl => W.lcmp C.1.1 C.1.2.1 hd (k H locs ls hH hS hl)
theorem sx_topi {x : Int32} (k : ∀ y : Int32, y = x → SW p l e R s m args below meth c nL D cl A cells slots Q μ pc lv (.int y :: rest)) : SW p l e R s m args below meth c nL D cl A cells slots Q μ pc lv (.int x :: rest) := k x rfl
theorem sx_topl {x : Int64} (k : ∀ y : Int64, y = x → SW p l e R s m args below meth c nL D cl A cells slots Q μ pc lv (.long y :: rest)) : SW p l e R s m args below meth c nL D cl A cells slots Q μ pc lv (.long x :: rest) := k x rfl
theorem sx_eqi {x : Int32} (y : Int32) (h : x = y) (k : SW p l e R s m args below meth c nL D cl A cells slots Q μ pc lv (.int y :: rest)) : SW p l e R s m args below meth c nL D cl A cells slots Q μ pc lv (.int x :: rest) := h ▸ k
theorem sx_eql {x : Int64} (y : Int64) (h : x = y) (k : SW p l e R s m args below meth c nL D cl A cells slots Q μ pc lv (.long y :: rest)) : SW p l e R s m args below meth c nL D cl A cells slots Q μ pc lv (.long x :: rest) := h ▸ k
theorem sx_lvEq (lv' : List (Option Value)) (h : lv = lv') (k : SW p l e R s m args below meth c nL D cl A cells slots Q μ pc lv' rest) : SW p l e R s m args below meth c nL D cl A cells slots Q μ pc lv rest := h ▸ k
theorem sx_mu (μ' : sx_M) (h : μ = μ') (k : SW p l e R s m args below meth c nL D cl A cells slots Q μ' pc lv rest) : SW p l e R s m args below meth c nL D cl A cells slots Q μ pc lv rest := h ▸ k
theorem sx_widen {k n : Nat} (h1 : cells ≤ k) (h2 : slots ≤ n) (kk : SW p l e R s m args below meth c nL D cl A k n Q μ pc lv rest) : SW p l e R s m args below meth c nL D cl A cells slots Q μ pc lv rest :=
  fun H locs ls hH hS hl => W.widen h1 h2 (kk H locs ls hH hS hl)
def sx_le : List (Option Value) → List (Option Value) → Prop
  | [], _ => True
  | none :: a, [] => sx_le a []
  | some _ :: _, [] => False
  | none :: a, _ :: b => sx_le a b
  | some x :: a, y :: b => y = some x ∧ sx_le a b
theorem sx_le_get : ∀ (a b : List (Option Value)), sx_le a b → ∀ (i : Nat) (v : Value), a[i]? = some (some v) → b[i]? = some (some v)
  | [], _, _, i, v, h => by simp at h
  | none :: a, [], hs, i, v, h => by
    cases i with
    | zero => rw [List.getElem?_cons_zero] at h; cases h
    | succ i =>
      rw [List.getElem?_cons_succ] at h
      have := sx_le_get a [] hs i v h
      simp at this
  | some _ :: _, [], hs, _, _, _ => absurd hs (by simp [sx_le])
  | none :: a, y :: b, hs, i, v, h => by
    cases i with
    | zero => rw [List.getElem?_cons_zero] at h; cases h
    | succ i =>
      rw [List.getElem?_cons_succ] at h ⊢
      exact sx_le_get a b hs i v h
  | some x :: a, y :: b, hs, i, v, h => by
    cases i with
    | zero =>
      rw [List.getElem?_cons_zero] at h ⊢
      rw [hs.1, h]
    | succ i =>
      rw [List.getElem?_cons_succ] at h ⊢
      exact sx_le_get a b hs.2 i v h
theorem sx_weak {lv' : List (Option Value)} (h : sx_le lv' lv) (k : SW p l e R s m args below meth c nL D cl A cells slots Q μ pc lv' rest) : SW p l e R s m args below meth c nL D cl A cells slots Q μ pc lv rest :=
  fun H locs ls hH hS hl => k H locs ls hH hS (sx_V_sub hl (sx_le_get lv' lv h))
theorem sx_tableOut (C : sx_C p s m args c cc nL own Ts D cl tys E A) {dflt lo hi : Int} {offs : Array Int} {len : Nat} {x : Int32} {tgt : Nat} (hd : decode cc pc = .ok (.tableswitch dflt lo hi offs, len)) (h : x.toInt < lo ∨ hi < x.toInt) (ht : (pc : Int) + dflt = (tgt : Int)) (k : SW p l e R s m args below meth c nL D cl A cells slots Q μ tgt lv rest) : SW p l e R s m args below meth c nL D cl A cells slots Q μ pc lv (.int x :: rest) :=
  fun H locs ls hH hS hl => lv_tableOut C.1.1 C.1.2.1 hd h ht (k H locs ls hH hS hl)
theorem sx_tableIn (C : sx_C p s m args c cc nL own Ts D cl tys E A) {dflt lo hi : Int} {offs : Array Int} {len : Nat} {x : Int32} {off : Int} {tgt : Nat} (hd : decode cc pc = .ok (.tableswitch dflt lo hi offs, len)) (h1 : ¬ x.toInt < lo) (h2 : ¬ hi < x.toInt) (ho : offs[(x.toInt - lo).toNat]? = some off) (ht : (pc : Int) + off = (tgt : Int)) (k : SW p l e R s m args below meth c nL D cl A cells slots Q μ tgt lv rest) : SW p l e R s m args below meth c nL D cl A cells slots Q μ pc lv (.int x :: rest) :=
  fun H locs ls hH hS hl => lv_tableIn C.1.1 C.1.2.1 hd h1 h2 ho ht (k H locs ls hH hS hl)
theorem sx_getf (C : sx_C p s m args c cc nL own Ts D cl tys E A) {ref Cn : String} {T : u_T} {N ci index a : Nat} {fs : List Value} {v : Value} (hd : decode cc pc = .ok (.getfield index, 3)) (hin : ∀ w ∈ u_ws Cn T N, w ∈ Ts) (hc : cl[ci]? = some (Cn, T, N)) (j : Nat) (hj : j < N) (hlink : (Cond.fieldLink own index ref (T j).2.1 (T j).2.2.1).before args s = true) (hsame : ∀ x, s.fieldFound? (T j).1 (T j).2.1 (T j).2.2.1 = some x → s.fieldFound? ref (T j).2.1 (T j).2.2.1 = some x) (hμ : μ a = some (.inr (ci, fs))) (hv : fs[j]? = some v) (k : SW p l e R s m args below meth c nL D cl A cells slots Q μ (pc + 3) lv (v :: rest)) : SW p l e R s m args below meth c nL D cl A cells slots Q μ pc lv (.ref a :: rest) := by
  intro H locs ls hH hS hl
  obtain ⟨ws, hP, hD, hL⟩ := id hH
  obtain ⟨q, hq⟩ := (hL _ _).mp hμ
  exact va_get C.1.1 C.1.2.1 C.1.2.2.2.2 hin C.1.2.2.2.1 C.2.1 hP q hq hc j hj hlink hsame hv hd (k H locs ls hH hS hl)
theorem sx_putf (C : sx_C p s m args c cc nL own Ts D cl tys E A) {ref Cn : String} {T : u_T} {N ci index a : Nat} {fs : List Value} {v : Value} {ty : FieldType} (hd : decode cc pc = .ok (.putfield index, 3)) (hin : ∀ w ∈ u_ws Cn T N, w ∈ Ts) (ty0 : Nat → FieldType) (hty : ∀ k, k < N → parseFieldDescriptor (T k).2.2.1 = some (ty0 k)) (hnm : ∀ a, a < N → ∀ b, b < N → a ≠ b → (T a).2.1 ≠ (T b).2.1) (hc : cl[ci]? = some (Cn, T, N)) (j : Nat) (hj : j < N) (hlink : (Cond.fieldLink own index ref (T j).2.1 (T j).2.2.1).before args s = true) (hsame : ∀ x, s.fieldFound? (T j).1 (T j).2.1 (T j).2.2.1 = some x → s.fieldFound? ref (T j).2.1 (T j).2.2.1 = some x) (hfin : (T j).2.2.2 = false) (hds : parseFieldDescriptor (T j).2.2.1 = some ty) (hn : narrow ty v = v) (hfit : fits ty v = true) (hμ : μ a = some (.inr (ci, fs))) (hjl : j < fs.length) {fs' : List Value} (hfs : fs.set j v = fs') (k : SW p l e R s m args below meth c nL D cl A cells slots Q (sx_up μ a (.inr (ci, fs'))) (pc + 3) lv rest) : SW p l e R s m args below meth c nL D cl A cells slots Q μ pc lv (v :: .ref a :: rest) := by
  intro H locs ls hH hS hl
  subst hfs
  obtain ⟨ws, hP, hD, hL⟩ := id hH
  obtain ⟨q, hq⟩ := (hL _ _).mp hμ
  exact va_put C.1.1 C.1.2.1 C.1.2.2.2.2 hin ty0 hty hnm C.1.2.2.2.1 C.2.1 hP hD hS q hq hc j hj hlink hsame hfin hds hn hfit hjl hd (fun H1 locs1 hP1 hD1 hS1 => k H1 locs1 ls ⟨_, hP1, hD1, sx_L_set _ hL hD hq⟩ hS1 hl)
theorem sx_putF (C : sx_C p s m args c cc nL own Ts D cl tys E A) {ref Cn : String} {T : u_T} {N ci index a : Nat} {fs : List Value} {v : Value} {ty : FieldType} (hd : decode cc pc = .ok (.putfield index, 3)) (hin : ∀ w ∈ u_ws Cn T N, w ∈ Ts) (ty0 : Nat → FieldType) (hty : ∀ k, k < N → parseFieldDescriptor (T k).2.2.1 = some (ty0 k)) (hnm : ∀ a, a < N → ∀ b, b < N → a ≠ b → (T a).2.1 ≠ (T b).2.1) (hc : cl[ci]? = some (Cn, T, N)) (j : Nat) (hj : j < N) (hlink : (Cond.fieldLink own index ref (T j).2.1 (T j).2.2.1).before args s = true) (hsame : ∀ x, s.fieldFound? (T j).1 (T j).2.1 (T j).2.2.1 = some x → s.fieldFound? ref (T j).2.1 (T j).2.2.1 = some x) (hfin : (T j).2.2.2 = true) (hin2 : meth.name = "<init>") (hdecl : (T j).1 = own) (hds : parseFieldDescriptor (T j).2.2.1 = some ty) (hn : narrow ty v = v) (hfit : fits ty v = true) (hμ : μ a = some (.inr (ci, fs))) (hjl : j < fs.length) {fs' : List Value} (hfs : fs.set j v = fs') (k : SW p l e R s m args below meth c nL D cl A cells slots Q (sx_up μ a (.inr (ci, fs'))) (pc + 3) lv rest) : SW p l e R s m args below meth c nL D cl A cells slots Q μ pc lv (v :: .ref a :: rest) := by
  intro H locs ls hH hS hl
  subst hfs
  obtain ⟨ws, hP, hD, hL⟩ := id hH
  obtain ⟨q, hq⟩ := (hL _ _).mp hμ
  exact va_putF C.1.1 C.1.2.1 C.1.2.2.2.2 hin ty0 hty hnm C.1.2.2.2.1 C.2.1 hP hD hS q hq hc j hj hlink hsame hfin hin2 hdecl hds hn hfit hjl hd (fun H1 locs1 hP1 hD1 hS1 => k H1 locs1 ls ⟨_, hP1, hD1, sx_L_set _ hL hD hq⟩ hS1 hl)
theorem sx_updI (f : Nat → Int32) (k : Nat) (x : Int32) : upd f k x = va_up f k x := rfl
theorem sx_updL (f : Nat → Int64) (k : Nat) (x : Int64) : vp_updL f k x = va_up f k x := rfl
theorem sx_iald (C : sx_C p s m args c cc nL own Ts D cl tys E A) {a n j : Nat} {cA : ClassId} {f : Nat → Int32} {i : Int32} (hd : decode cc pc = .ok (.iaload, 1)) (t0 : Nat) (ht : tys[t0]? = some (cA, .int)) (hμ : μ a = some (.inl (cA, n, .inl f))) (hi : i = nI j) (hj : j < n) (hn : n < 2 ^ 31) (k : SW p l e R s m args below meth c nL D cl A cells slots Q μ (pc + 1) lv (.int (f j) :: rest)) : SW p l e R s m args below meth c nL D cl A cells slots Q μ pc lv (.int i :: .ref a :: rest) := by
  intro H locs ls hH hS hl
  obtain ⟨ws, hP, hD, hL⟩ := id hH
  obtain ⟨q, hq⟩ := (hL _ _).mp hμ
  subst hi
  refine va_iald C.1.1 C.1.2.1 C.2.1 hP q t0 hq ht (vp_in_nI hj hn) hd ?_
  rw [nI_clamp (Nat.lt_trans hj hn)]
  exact (k H locs ls hH hS hl)
theorem sx_iast (C : sx_C p s m args c cc nL own Ts D cl tys E A) {a n j : Nat} {cA : ClassId} {f : Nat → Int32} {i : Int32} {x : Int32} (hd : decode cc pc = .ok (.iastore, 1)) (t0 : Nat) (ht : tys[t0]? = some (cA, .int)) (hμ : μ a = some (.inl (cA, n, .inl f))) (hi : i = nI j) (hj : j < n) (hn : n < 2 ^ 31) (k : SW p l e R s m args below meth c nL D cl A cells slots Q (sx_up μ a (.inl (cA, n, .inl (va_up f j x)))) (pc + 1) lv rest) : SW p l e R s m args below meth c nL D cl A cells slots Q μ pc lv (.int x :: .int i :: .ref a :: rest) := by
  intro H locs ls hH hS hl
  obtain ⟨ws, hP, hD, hL⟩ := id hH
  obtain ⟨q, hq⟩ := (hL _ _).mp hμ
  subst hi
  refine va_iast C.1.1 C.1.2.1 C.2.1 hP hD hS q t0 hq ht (vp_in_nI hj hn) hd (fun H1 locs1 hP1 hD1 hS1 => ?_)
  rw [nI_clamp (Nat.lt_trans hj hn)] at hP1 hD1
  exact k H1 locs1 ls ⟨_, hP1, hD1, sx_L_set _ hL hD hq⟩ hS1 hl
theorem sx_lald (C : sx_C p s m args c cc nL own Ts D cl tys E A) {a n j : Nat} {cA : ClassId} {f : Nat → Int64} {i : Int32} (hd : decode cc pc = .ok (.laload, 1)) (t0 : Nat) (ht : tys[t0]? = some (cA, .long)) (hμ : μ a = some (.inl (cA, n, .inr (.inl f)))) (hi : i = nI j) (hj : j < n) (hn : n < 2 ^ 31) (k : SW p l e R s m args below meth c nL D cl A cells slots Q μ (pc + 1) lv (.long (f j) :: rest)) : SW p l e R s m args below meth c nL D cl A cells slots Q μ pc lv (.int i :: .ref a :: rest) := by
  intro H locs ls hH hS hl
  obtain ⟨ws, hP, hD, hL⟩ := id hH
  obtain ⟨q, hq⟩ := (hL _ _).mp hμ
  subst hi
  refine va_lald C.1.1 C.1.2.1 C.2.1 hP q t0 hq ht (vp_in_nI hj hn) hd ?_
  rw [nI_clamp (Nat.lt_trans hj hn)]
  exact (k H locs ls hH hS hl)
theorem sx_last (C : sx_C p s m args c cc nL own Ts D cl tys E A) {a n j : Nat} {cA : ClassId} {f : Nat → Int64} {i : Int32} {x : Int64} (hd : decode cc pc = .ok (.lastore, 1)) (t0 : Nat) (ht : tys[t0]? = some (cA, .long)) (hμ : μ a = some (.inl (cA, n, .inr (.inl f)))) (hi : i = nI j) (hj : j < n) (hn : n < 2 ^ 31) (k : SW p l e R s m args below meth c nL D cl A cells slots Q (sx_up μ a (.inl (cA, n, .inr (.inl (va_up f j x))))) (pc + 1) lv rest) : SW p l e R s m args below meth c nL D cl A cells slots Q μ pc lv (.long x :: .int i :: .ref a :: rest) := by
  intro H locs ls hH hS hl
  obtain ⟨ws, hP, hD, hL⟩ := id hH
  obtain ⟨q, hq⟩ := (hL _ _).mp hμ
  subst hi
  refine va_last C.1.1 C.1.2.1 C.2.1 hP hD hS q t0 hq ht (vp_in_nI hj hn) hd (fun H1 locs1 hP1 hD1 hS1 => ?_)
  rw [nI_clamp (Nat.lt_trans hj hn)] at hP1 hD1
  exact k H1 locs1 ls ⟨_, hP1, hD1, sx_L_set _ hL hD hq⟩ hS1 hl
theorem sx_alen (C : sx_C p s m args c cc nL own Ts D cl tys E A) {a : Nat} {cA : ClassId} {x : vp_A} {ty : FieldType} {v : Int32} (hd : decode cc pc = .ok (.arraylength, 1)) (t0 : Nat) (ht : tys[t0]? = some (cA, ty)) (hμ : μ a = some (.inl (cA, x))) (hv : Int32.ofNat x.1 = v) (k : SW p l e R s m args below meth c nL D cl A cells slots Q μ (pc + 1) lv (.int v :: rest)) : SW p l e R s m args below meth c nL D cl A cells slots Q μ pc lv (.ref a :: rest) := by
  intro H locs ls hH hS hl
  obtain ⟨ws, hP, hD, hL⟩ := id hH
  obtain ⟨q, hq⟩ := (hL _ _).mp hμ
  exact va_alen C.1.1 C.1.2.1 C.2.1 hP q t0 hq ht hv hd (k H locs ls hH hS hl)
theorem sx_aald (C : sx_C p s m args c cc nL own Ts D cl tys E A) {a n j b : Nat} {cA : ClassId} {Cx : String} {f : Nat → Option Nat} {i : Int32} (hd : decode cc pc = .ok (.aaload, 1)) (t0 : Nat) (ht : tys[t0]? = some (cA, .object Cx)) (hμ : μ a = some (.inl (cA, n, .inr (.inr (.inr (.inr f)))))) (hi : i = nI j) (hj : j < n) (hn : n < 2 ^ 31) (hf : f j = some b) (k : SW p l e R s m args below meth c nL D cl A cells slots Q μ (pc + 1) lv (.ref b :: rest)) : SW p l e R s m args below meth c nL D cl A cells slots Q μ pc lv (.int i :: .ref a :: rest) := by
  intro H locs ls hH hS hl
  obtain ⟨ws, hP, hD, hL⟩ := id hH
  obtain ⟨q, hq⟩ := (hL _ _).mp hμ
  subst hi
  refine va_aldq C.1.1 C.1.2.1 C.2.1 hP q t0 hq ht (vp_in_nI hj hn) hd ?_
  rw [nI_clamp (Nat.lt_trans hj hn), hf]
  exact (k H locs ls hH hS hl)
theorem sx_aaldA (C : sx_C p s m args c cc nL own Ts D cl tys E A) {a n j b : Nat} {cA : ClassId} {tx : FieldType} {f : Nat → Option Nat} {i : Int32} (hd : decode cc pc = .ok (.aaload, 1)) (t0 : Nat) (ht : tys[t0]? = some (cA, .array tx)) (hμ : μ a = some (.inl (cA, n, .inr (.inr (.inr (.inr f)))))) (hi : i = nI j) (hj : j < n) (hn : n < 2 ^ 31) (hf : f j = some b) (k : SW p l e R s m args below meth c nL D cl A cells slots Q μ (pc + 1) lv (.ref b :: rest)) : SW p l e R s m args below meth c nL D cl A cells slots Q μ pc lv (.int i :: .ref a :: rest) := by
  intro H locs ls hH hS hl
  obtain ⟨ws, hP, hD, hL⟩ := id hH
  obtain ⟨q, hq⟩ := (hL _ _).mp hμ
  subst hi
  have hc := nI_clamp (Nat.lt_trans hj hn)
  refine W.aald (v := va_rf (f j)) (ty := .array tx) C.1.1 C.1.2.1 (hP q _ hq) ((C.2.1.2 t0 _ ht).1 n (fun j => va_rf (f j))) rfl (fun q => by cases q) (by show ¬ (nI j < 0 ∨ (arrV _ _ _).slots.size ≤ _); rw [arrV_size]; exact vp_in_nI hj hn) (by show (arrV _ _ _).slots[_]? = _; rw [hc, arrV_read _ _ hj]) rfl rfl hd ?_
  rw [hf]
  exact (k H locs ls hH hS hl)
theorem sx_aast (C : sx_C p s m args c cc nL own Ts D cl tys E A) {a n j b ci : Nat} {cA : ClassId} {r : vw_C} {vs : List Value} {f : Nat → Option Nat} {i : Int32} (hd : decode cc pc = .ok (.aastore, 1)) (t0 : Nat) (ht : tys[t0]? = some (cA, .object r.1)) (hc : cl[ci]? = some r) (hμ : μ a = some (.inl (cA, n, .inr (.inr (.inr (.inr f)))))) (hb : μ b = some (.inr (ci, vs))) (hi : i = nI j) (hj : j < n) (hn : n < 2 ^ 31) (k : SW p l e R s m args below meth c nL D cl A cells slots Q (sx_up μ a (.inl (cA, n, .inr (.inr (.inr (.inr (va_up f j (some b)))))))) (pc + 1) lv rest) : SW p l e R s m args below meth c nL D cl A cells slots Q μ pc lv (.ref b :: .int i :: .ref a :: rest) := by
  intro H locs ls hH hS hl
  obtain ⟨ws, hP, hD, hL⟩ := id hH
  obtain ⟨q, hq⟩ := (hL _ _).mp hμ
  obtain ⟨q2, hq2⟩ := (hL _ _).mp hb
  subst hi
  refine va_astq C.1.1 C.1.2.1 C.2.1 hP hD hS q t0 q2 ci hq ht hq2 hc (vp_in_nI hj hn) hd (fun H1 locs1 hP1 hD1 hS1 => ?_)
  rw [nI_clamp (Nat.lt_trans hj hn)] at hP1 hD1
  exact k H1 locs1 ls ⟨_, hP1, hD1, sx_L_set _ hL hD hq⟩ hS1 hl
theorem sx_L_fresh {μ : sx_M} {ws : va_W} {A : Nat → Prop} {q : Nat} {e : va_E} (hL : sx_L μ ws) (hD : va_D A (ws ++ [(q, e)])) : μ q = none := by
  cases hq : μ q with
  | none => rfl
  | some x =>
    obtain ⟨k, hk⟩ := (hL q x).mp hq
    have hl := (List.getElem?_eq_some_iff.mp hk).1
    have h1 : (ws ++ [(q, e)])[k]? = some (q, x) := by rw [List.getElem?_append_left hl]; exact hk
    have h2 : (ws ++ [(q, e)])[ws.length]? = some (q, e) := by rw [List.getElem?_append_right (Nat.le_refl _), Nat.sub_self]; rfl
    have := hD.1 _ _ _ _ h1 h2 rfl
    omega
theorem sx_new (C : sx_C p s m args c cc nL own Ts D cl tys E A) {Cn : String} {T : u_T} {N ci index : Nat} {fs : List Value} (hd : decode cc pc = .ok (.new index, 3)) (hin : ∀ w ∈ u_ws Cn T N, w ∈ Ts) (ty : Nat → FieldType) (hty : ∀ k, k < N → parseFieldDescriptor (T k).2.2.1 = some (ty k)) (hcl : (Cond.classLink own index Cn).before args s = true) (hinst : (Cond.instantiable Cn N).before args s = true) (hini : (Cond.initialized Cn).before args s = true) (hc : cl[ci]? = some (Cn, T, N)) (hfs : ∀ j, j < N → defaultValue (ty j) = vp_V fs j) (hcells : cells + 1 ≤ R.cells) (hslots : slots + N ≤ R.slots) (k : ∀ q : Nat, μ q = none → SW p l e R s m args below meth c nL D cl A (cells + 1) (slots + N) Q (sx_up μ q (.inr (ci, fs))) (pc + 3) lv (.ref q :: rest)) : SW p l e R s m args below meth c nL D cl A cells slots Q μ pc lv rest := by
  intro H locs ls hH hS hl
  obtain ⟨ws, hP, hD, hL⟩ := id hH
  exact va_new C.1.1 C.1.2.1 C.1.2.2.2.2 hin ty hty C.1.2.2.2.1 hcl hinst hini C.2.1 hP hD hS C.2.2.1 hc hfs hcells hslots hd (fun q H1 hP1 hD1 hS1 => k q (sx_L_fresh hL hD1) H1 locs ls ⟨_, hP1, hD1, sx_L_push _ hL (sx_L_fresh hL hD1)⟩ hS1 hl)
theorem sx_newa (C : sx_C p s m args c cc nL own Ts D cl tys E A) {atype : ArrayType} {ty : FieldType} {cA : ClassId} {n : Int32} {N : Nat} {a0 : vp_A} (hd : decode cc pc = .ok (.newarray atype, 2)) (harr : (Cond.arrayClass (newarray.typeOf atype)).before args s = true) (hty : newarray.typeOf atype = ty) (t0 : Nat) (ht : tys[t0]? = some (cA, ty)) (hun : ∀ c1 c2 : ClassId, va_RA s c1 ty → va_RA s c2 ty → c1 = c2) (ha : ∀ cB : ClassId, vp_cell cB a0 = arrV cB N (fun _ => defaultValue ty)) (hn : n = nI N) (hN : N < 2 ^ 31) (hbytes : N * componentBytes ty ≤ 536870912) (hcells : cells + 1 ≤ R.cells) (hslots : slots + N ≤ R.slots) (k : ∀ q : Nat, μ q = none → SW p l e R s m args below meth c nL D cl A (cells + 1) (slots + N) Q (sx_up μ q (.inl (cA, a0))) (pc + 2) lv (.ref q :: rest)) : SW p l e R s m args below meth c nL D cl A cells slots Q μ pc lv (.int n :: rest) := by
  intro H locs ls hH hS hl
  obtain ⟨ws, hP, hD, hL⟩ := id hH
  refine va_newa C.1.1 C.1.2.1 harr hty C.2.1 hP hD hS C.2.2.1 ha (by rw [hn]; exact nI_pos hN) (by rw [hn]; exact nI_clamp hN) hbytes hcells hslots hd (fun q cB H1 hK1 hP1 hD1 hS1 => ?_)
  have e : cB = cA := hun _ _ (hK1.2 tys.length (cB, ty) (by rw [List.getElem?_append_right (Nat.le_refl _), Nat.sub_self]; rfl)).2 (C.2.1.2 t0 _ ht).2
  subst e
  exact k q (sx_L_fresh hL hD1) H1 locs ls ⟨_, hP1, hD1, sx_L_push _ hL (sx_L_fresh hL hD1)⟩ hS1 hl
theorem sx_newq (C : sx_C p s m args c cc nL own Ts D cl tys E A) {Cx : String} {index : Nat} {cA : ClassId} {n : Int32} {N : Nat} (hd : decode cc pc = .ok (.anewarray index, 3)) (hclink : (Cond.classLink own index Cx).before args s = true) (hover : va_AO Cx s) (t0 : Nat) (ht : tys[t0]? = some (cA, .object Cx)) (hn : n = nI N) (hN : N < 2 ^ 31) (hbytes : N * 4 ≤ 536870912) (hcells : cells + 1 ≤ R.cells) (hslots : slots + N ≤ R.slots) (k : ∀ q : Nat, μ q = none → SW p l e R s m args below meth c nL D cl A (cells + 1) (slots + N) Q (sx_up μ q (.inl (cA, N, .inr (.inr (.inr (.inr (fun _ => none))))))) (pc + 3) lv (.ref q :: rest)) : SW p l e R s m args below meth c nL D cl A cells slots Q μ pc lv (.int n :: rest) := by
  intro H locs ls hH hS hl
  obtain ⟨ws, hP, hD, hL⟩ := id hH
  refine va_newq C.1.1 C.1.2.1 C.1.2.2.2.1 hclink hover C.2.1 hP hD hS C.2.2.1 (by rw [hn]; exact nI_pos hN) (by rw [hn]; exact nI_clamp hN) hbytes hcells hslots hd (fun q cB H1 hK1 hP1 hD1 hS1 => ?_)
  have e : cB = cA := by
    obtain ⟨_, _, _, _, _, h1⟩ := (hK1.2 tys.length (cB, .object Cx) (by rw [List.getElem?_append_right (Nat.le_refl _), Nat.sub_self]; rfl)).2
    obtain ⟨_, _, _, _, _, h2⟩ := (C.2.1.2 t0 _ ht).2
    exact Option.some.inj (h1.symm.trans h2)
  subst e
  exact k q (sx_L_fresh hL hD1) H1 locs ls ⟨_, hP1, hD1, sx_L_push _ hL (sx_L_fresh hL hD1)⟩ hS1 hl
end SXR
/-! the frame rule over maps: a callee that is given a part of the map -/
/-- the map μ, where its part ν has become ν' -/
def sx_ov (μ ν ν' : sx_M) : sx_M := fun q => match ν' q with
  | some e => some e
  | none => match ν q with
    | some _ => none
    | none => μ q
theorem sx_ov_in {μ ν ν' : sx_M} {q : Nat} {e : va_E} (h : ν' q = some e) : sx_ov μ ν ν' q = some e := by simp [sx_ov, h]
theorem sx_ov_out {μ ν ν' : sx_M} {q : Nat} (h1 : ν' q = none) (h2 : ν q = none) : sx_ov μ ν ν' q = μ q := by simp [sx_ov, h1, h2]
theorem sx_L_filter {μ : sx_M} {ws : va_W} (hL : sx_L μ ws) (P : Nat → Bool) : sx_L (fun q => if P q = true then μ q else none) (ws.filter (fun q => P q.1)) := by
  intro a e
  by_cases h : P a = true
  · simp only [h, if_true]
    rw [hL a e]
    constructor
    · rintro ⟨k, hk⟩
      exact List.getElem?_of_mem (List.mem_filter.mpr ⟨List.mem_of_getElem? hk, h⟩)
    · rintro ⟨k, hk⟩
      exact List.getElem?_of_mem (List.mem_filter.mp (List.mem_of_getElem? hk)).1
  · simp only [h]
    constructor
    · intro z; cases z
    · rintro ⟨k, hk⟩
      exact absurd (List.mem_filter.mp (List.mem_of_getElem? hk)).2 h
theorem sx_D_filter : ∀ {A : Nat → Prop} {ws : va_W} (P : (Nat × va_E) → Bool), va_D A ws → va_D A (ws.filter P)
  | A, [], P, h => h
  | A, x :: t, P, h => by
    have ht : va_D A t := ⟨fun i j p q hi hj e => by
      have := h.1 (i + 1) (j + 1) p q (by rw [List.getElem?_cons_succ]; exact hi) (by rw [List.getElem?_cons_succ]; exact hj) e
      omega, fun k q hk => h.2 (k + 1) q (by rw [List.getElem?_cons_succ]; exact hk)⟩
    have ih := sx_D_filter P ht
    by_cases hx : P x = true
    · rw [List.filter_cons_of_pos hx]
      have hne : ∀ (k : Nat) (q : Nat × va_E), (t.filter P)[k]? = some q → x.1 ≠ q.1 := fun k q hk e => by
        obtain ⟨j, hj⟩ := List.getElem?_of_mem (List.mem_filter.mp (List.mem_of_getElem? hk)).1
        have := h.1 0 (j + 1) x q rfl (by rw [List.getElem?_cons_succ]; exact hj) e
        omega
      refine ⟨fun i j p q hi hj e => ?_, fun k q hk => ?_⟩
      · cases i with
        | zero =>
          cases j with
          | zero => rfl
          | succ j =>
            rw [List.getElem?_cons_zero] at hi
            rw [List.getElem?_cons_succ] at hj
            cases hi
            exact absurd e (hne j q hj)
        | succ i =>
          rw [List.getElem?_cons_succ] at hi
          cases j with
          | zero =>
            rw [List.getElem?_cons_zero] at hj
            cases hj
            exact absurd e.symm (hne i p hi)
          | succ j =>
            rw [List.getElem?_cons_succ] at hj
            rw [ih.1 i j p q hi hj e]
      · cases k with
        | zero =>
          rw [List.getElem?_cons_zero] at hk
          cases hk
          exact h.2 0 x rfl
        | succ k =>
          rw [List.getElem?_cons_succ] at hk
          exact ih.2 k q hk
    · rw [List.filter_cons_of_neg hx]
      exact ih
theorem sx_P_filter {D : va_G} {cl : List vw_C} {ws : va_W} {H : Heap} (P : (Nat × va_E) → Bool) (h : va_P D cl ws H) : va_P D cl (ws.filter P) H := by
  intro k q hk
  obtain ⟨j, hj⟩ := List.getElem?_of_mem (List.mem_filter.mp (List.mem_of_getElem? hk)).1
  exact h j q hj
/-- a part of the map -/
theorem sx_H_part {D : va_G} {cl : List vw_C} {A : Nat → Prop} {μ ν : sx_M} {H : Heap} (h : sx_H D cl A μ H) (hν : ∀ q e, ν q = some e → μ q = some e) : sx_H D cl A ν H := by
  obtain ⟨ws, hP, hD, hL⟩ := h
  refine ⟨ws.filter (fun q => (ν q.1).isSome), sx_P_filter _ hP, sx_D_filter _ hD, fun a e => ?_⟩
  rw [← sx_L_filter hL (fun q => (ν q).isSome) a e]
  cases hq : ν a with
  | none => simp [hq]
  | some x => simp [hq, hν a x hq]
theorem sx_L_app {μ ν : sx_M} {ws wv : va_W} (h1 : sx_L μ ws) (h2 : sx_L ν wv) (hd : ∀ q e, ν q = some e → μ q = none) : sx_L (fun q => match ν q with | some e => some e | none => μ q) (ws ++ wv) := by
  intro a e
  constructor
  · intro h
    cases hq : ν a with
    | some x =>
      simp only [hq] at h
      cases h
      obtain ⟨k, hk⟩ := (h2 a e).mp hq
      exact List.getElem?_of_mem (List.mem_append_right _ (List.mem_of_getElem? hk))
    | none =>
      simp only [hq] at h
      obtain ⟨k, hk⟩ := (h1 a e).mp h
      exact List.getElem?_of_mem (List.mem_append_left _ (List.mem_of_getElem? hk))
  · rintro ⟨k, hk⟩
    rcases List.mem_append.mp (List.mem_of_getElem? hk) with h | h
    · obtain ⟨i, hi⟩ := List.getElem?_of_mem h
      have hm := (h1 a e).mpr ⟨i, hi⟩
      cases hq : ν a with
      | none => simp [hq, hm]
      | some x => rw [hd a x hq] at hm; cases hm
    · obtain ⟨i, hi⟩ := List.getElem?_of_mem h
      have hm := (h2 a e).mpr ⟨i, hi⟩
      simp [hm]
/-- behind the callee -/
theorem sx_H_ov {D : va_G} {cl : List vw_C} {A : Nat → Prop} {μ ν ν' : sx_M} {H H1 : Heap} (h : sx_H D cl A μ H) (h1 : sx_H D cl (sx_A ν H.size) ν' H1) (hk : ∀ q : Nat, q < H.size → ¬ sx_A ν H.size q → H1[q]? = H[q]?) (hF : ∀ q, sx_A ν H.size q → A q) :
    sx_H D cl A (sx_ov μ ν ν') H1 ∧ ∀ q e, μ q = some e → ν q = none → ν' q = none := by
  have hfresh : ∀ q e, μ q = some e → ν q = none → ν' q = none := fun q e hq hn => by
    cases hz : ν' q with
    | none => rfl
    | some x =>
      rcases sx_H_in h1 hz with ⟨y, hy⟩ | hy
      · rw [hn] at hy; cases hy
      · exact absurd (sx_H_lt h hq) (by omega)
  refine ⟨?_, hfresh⟩
  obtain ⟨ws, hP, hD, hL⟩ := id h
  obtain ⟨wv, hPv, hDv, hLv⟩ := id h1
  have hL2 := sx_L_filter hL (fun q => (ν q).isNone)
  have hlt : ∀ (k : Nat) (q : Nat × va_E), (ws.filter (fun q => (ν q.1).isNone))[k]? = some q → q.1 < H.size ∧ ¬ sx_A ν H.size q.1 := fun k q hq => by
    obtain ⟨m1, m2⟩ := List.mem_filter.mp (List.mem_of_getElem? hq)
    obtain ⟨j, hj⟩ := List.getElem?_of_mem m1
    have := (hP j q hj).lt
    refine ⟨this, ?_⟩
    rintro (⟨e, he⟩ | hs)
    · rw [he] at m2; cases m2
    · omega
  refine ⟨ws.filter (fun q => (ν q.1).isNone) ++ wv, va_P.app ((sx_P_filter _ hP).kept (fun k q hq => hk q.1 (hlt k q hq).1 (hlt k q hq).2)) hPv, va_D.app (sx_D_filter _ hD) (hDv.weaken (fun k q _ hz => hF q.1 hz)) (fun i j x y hx hy e => ?_), ?_⟩
  · exact (hlt i x hx).2 (by rw [e]; exact hDv.2 j y hy)
  · have := sx_L_app hL2 hLv (fun q e hq => by
      rcases sx_H_in h1 hq with ⟨y, hy⟩ | hy
      · simp [hy]
      · cases hz : (ν q).isNone
        · simp [hz]
        · simp only [hz, if_true]
          exact sx_H_new h hy)
    intro a e
    rw [← this a e]
    unfold sx_ov
    cases hq : ν' a with
    | some x => simp [hq]
    | none =>
      cases hz : ν a with
      | some y => simp [hq, hz]
      | none => simp [hq, hz]
/-- a contract's start: the heap holds the map -/
def sx_Pre (D : va_G) (cl : List vw_C) (tys : List (ClassId × FieldType)) (E : (Nat → Prop) → State → Heap → Prop) (μ : sx_M) (sz : Nat) : State → Prop := fun U =>
  U.heap.size = sz ∧ sx_H D cl (fun _ => True) μ U.heap ∧ va_K D cl tys U ∧ E (sx_A μ sz) U U.heap
def sx_B (D : va_G) (cl : List vw_C) (A : Nat → Prop) : sx_M → State → Prop := fun μ' t => sx_H D cl A μ' t.heap
def sx_BX (D : va_G) (cl : List vw_C) (A : Nat → Prop) (px : String → sx_M → Prop) : String → sx_M → State → Prop := fun Ex μ' t => px Ex μ' ∧ sx_H D cl A μ' t.heap
def sx_XC (D : va_G) (cl : List vw_C) (A : Nat → Prop) (px : String → sx_M → Prop) : String → State → State → Prop := vx_X (fun _ : sx_M => True) (sx_BX D cl A px) A
theorem sx_blind {D : va_G} {cl : List vw_C} {tys : List (ClassId × FieldType)} {E : (Nat → Prop) → State → Heap → Prop} {μ : sx_M} {sz : Nat} {as : List Value} (hE : sx_Eok E) : FrameBlind (va_Pc as (sx_Pre D cl tys E μ sz)) := by
  intro a U g mk q
  obtain ⟨q0, q1, qP, qK, qE⟩ := q
  exact ⟨q0, q1, qP, va_K.moved (u := U) (U := U.calling g mk a) (Vm.Alike.refl U.vm) qK, hE.1 _ U (U.calling g mk a) _ (State.WarmedH.refl U) qE⟩
theorem sx_F {D : va_G} {cl : List vw_C} {A : Nat → Prop} {μ : sx_M} {H0 H : Heap} {locs : List Loc} (hH : sx_H D cl A μ H) (hS : va_S A H0 H locs) (hA : ∀ q, H0.size ≤ q → A q) : ∀ q, sx_A μ H.size q → A q := by
  rintro q (⟨e, he⟩ | hq)
  · exact sx_H_in hH he
  · exact hA q (Nat.le_trans hS.1 hq)
def sx_Mi (l : Launch) (y : MethodName) (ws : List Cond) (rm : Room) (D : va_G) (cl : List vw_C) (tys : List (ClassId × FieldType)) (E : (Nat → Prop) → State → Heap → Prop) (as : List Value) (μ : sx_M) (post : Int32 → sx_M → Prop) (mc ms : Nat) : Prop :=
  ∀ sz, Met l y ws rm (va_Pc as (sx_Pre D cl tys E μ sz)) (va_Qi post (sx_B D cl (sx_A μ sz)) (sx_A μ sz)) mc ms (sx_A μ sz)
def sx_Xi (l : Launch) (y : MethodName) (ws : List Cond) (rm : Room) (D : va_G) (cl : List vw_C) (tys : List (ClassId × FieldType)) (E : (Nat → Prop) → State → Heap → Prop) (as : List Value) (μ : sx_M) (post : Int32 → sx_M → Prop) (px : String → sx_M → Prop) (mc ms : Nat) : Prop :=
  ∀ sz, vx_Met l y ws rm (va_Pc as (sx_Pre D cl tys E μ sz)) (va_Qi post (sx_B D cl (sx_A μ sz)) (sx_A μ sz)) (sx_XC D cl (sx_A μ sz) px) mc ms (sx_A μ sz)
def sx_Ml (l : Launch) (y : MethodName) (ws : List Cond) (rm : Room) (D : va_G) (cl : List vw_C) (tys : List (ClassId × FieldType)) (E : (Nat → Prop) → State → Heap → Prop) (as : List Value) (μ : sx_M) (post : Int64 → sx_M → Prop) (mc ms : Nat) : Prop :=
  ∀ sz, Met l y ws rm (va_Pc as (sx_Pre D cl tys E μ sz)) (va_Ql post (sx_B D cl (sx_A μ sz)) (sx_A μ sz)) mc ms (sx_A μ sz)
def sx_Xl (l : Launch) (y : MethodName) (ws : List Cond) (rm : Room) (D : va_G) (cl : List vw_C) (tys : List (ClassId × FieldType)) (E : (Nat → Prop) → State → Heap → Prop) (as : List Value) (μ : sx_M) (post : Int64 → sx_M → Prop) (px : String → sx_M → Prop) (mc ms : Nat) : Prop :=
  ∀ sz, vx_Met l y ws rm (va_Pc as (sx_Pre D cl tys E μ sz)) (va_Ql post (sx_B D cl (sx_A μ sz)) (sx_A μ sz)) (sx_XC D cl (sx_A μ sz) px) mc ms (sx_A μ sz)
def sx_Mv (l : Launch) (y : MethodName) (ws : List Cond) (rm : Room) (D : va_G) (cl : List vw_C) (tys : List (ClassId × FieldType)) (E : (Nat → Prop) → State → Heap → Prop) (as : List Value) (μ : sx_M) (post : sx_M → Prop) (mc ms : Nat) : Prop :=
  ∀ sz, Met l y ws rm (va_Pc as (sx_Pre D cl tys E μ sz)) (va_Qv post (sx_B D cl (sx_A μ sz)) (sx_A μ sz)) mc ms (sx_A μ sz)
def sx_Xv (l : Launch) (y : MethodName) (ws : List Cond) (rm : Room) (D : va_G) (cl : List vw_C) (tys : List (ClassId × FieldType)) (E : (Nat → Prop) → State → Heap → Prop) (as : List Value) (μ : sx_M) (post : sx_M → Prop) (px : String → sx_M → Prop) (mc ms : Nat) : Prop :=
  ∀ sz, vx_Met l y ws rm (va_Pc as (sx_Pre D cl tys E μ sz)) (va_Qv post (sx_B D cl (sx_A μ sz)) (sx_A μ sz)) (sx_XC D cl (sx_A μ sz) px) mc ms (sx_A μ sz)
def sx_Qr (post : Nat → sx_M → Prop) (D : va_G) (cl : List vw_C) (A : Nat → Prop) : Array Value → State → Outcome → State → Prop := va_Qr (fun _ : sx_M => True) (fun μ' a t => post a μ' ∧ sx_H D cl A μ' t.heap) A
def sx_Mr (l : Launch) (y : MethodName) (ws : List Cond) (rm : Room) (D : va_G) (cl : List vw_C) (tys : List (ClassId × FieldType)) (E : (Nat → Prop) → State → Heap → Prop) (as : List Value) (μ : sx_M) (post : Nat → sx_M → Prop) (mc ms : Nat) : Prop :=
  ∀ sz, Met l y ws rm (va_Pc as (sx_Pre D cl tys E μ sz)) (sx_Qr post D cl (sx_A μ sz)) mc ms (sx_A μ sz)
def sx_Xr (l : Launch) (y : MethodName) (ws : List Cond) (rm : Room) (D : va_G) (cl : List vw_C) (tys : List (ClassId × FieldType)) (E : (Nat → Prop) → State → Heap → Prop) (as : List Value) (μ : sx_M) (post : Nat → sx_M → Prop) (px : String → sx_M → Prop) (mc ms : Nat) : Prop :=
  ∀ sz, vx_Met l y ws rm (va_Pc as (sx_Pre D cl tys E μ sz)) (sx_Qr post D cl (sx_A μ sz)) (sx_XC D cl (sx_A μ sz) px) mc ms (sx_A μ sz)
section SXC
variable {p : Program} {l : Launch} {e : Env} {R : Room} {s : State} {m : MethodId} {args : Array Value} {below : List Frame} {meth : Method} {c : Code} {cc : ByteArray} {nL : Nat} {own : String} {Ts : List Cond} {D : va_G} {cl : List vw_C} {tys : List (ClassId × FieldType)} {E : (Nat → Prop) → State → Heap → Prop} {A : Nat → Prop} {cells slots : Nat} {Q : State → Prop} {μ : sx_M} {pc : Nat} {lv : List (Option Value)} {rest : List Value}
variable {ν : sx_M} {y : MethodName} {ws : List Cond} {rm : Room} {mc ms n index maxL : Nat} {bytes : ByteArray} {ret : Option FieldType} {b : Nat} {As st0 : List Value}
theorem sx_all {μ : sx_M} : ∀ (q : Nat) (e : va_E), μ q = some e → μ q = some e := fun _ _ h => h
theorem sx_preU (C : sx_C p s m args c cc nL own Ts D cl tys E A) {ν : sx_M} {H : Heap} {locs : List Loc} (hν : ∀ q e, ν q = some e → μ q = some e) (hH0 : sx_H D cl A μ H) (hS : va_S A s.heap H locs) : ∀ U : State, U.heap = H → s.WarmedH U.vm → sx_Pre D cl tys E ν H.size U := by
  intro U hU hW
  have hH := sx_H_part hH0 hν
  have hF := sx_F hH hS C.2.2.1
  have hE := C.2.2.2.2
  refine ⟨by rw [hU], by rw [hU]; exact sx_H_mono hH (fun _ _ _ _ => trivial), va_K.moved hW.alike C.2.1, ?_⟩
  rw [hU]
  exact hE.1 _ s U H hW (hE.2.2 A _ s H hF (hE.2.1 A s s.heap H hS.2.1 C.2.2.2.1))
/-- a call, run -/
def sx_Run (p : Program) (l : Launch) (e : Env) (R : Room) (s : State) (m : MethodId) (args : Array Value) (below : List Frame) (meth : Method) (c : Code) (nL : Nat) (D : va_G) (cl : List vw_C) (A : Nat → Prop) (cells slots mc ms : Nat) (μ ν : sx_M) (pc : Nat) (lv : List (Option Value)) (st0 rest : List Value) (Qf : Nat → State → Outcome → State → Prop) : Prop :=
  ∀ (H : Heap) (locs : List Loc) (ls : Array Slot), sx_H D cl A μ H → va_S A s.heap H locs → sx_V ls nL lv → va_Run p l e R s m args below meth c H locs cells slots mc ms (F0 m pc ls st0) rest (Qf H.size) (sx_A ν H.size)
def sx_RunX (p : Program) (l : Launch) (e : Env) (R : Room) (s : State) (m : MethodId) (args : Array Value) (below : List Frame) (meth : Method) (c : Code) (nL : Nat) (D : va_G) (cl : List vw_C) (A : Nat → Prop) (cells slots mc ms : Nat) (μ ν : sx_M) (pc : Nat) (lv : List (Option Value)) (st0 rest : List Value) (Qf : Nat → State → Outcome → State → Prop) (px : String → sx_M → Prop) : Prop :=
  ∀ (H : Heap) (locs : List Loc) (ls : Array Slot), sx_H D cl A μ H → va_S A s.heap H locs → sx_V ls nL lv → vx_Run p l e R s m args below meth c H locs cells slots mc ms (F0 m pc ls st0) rest (Qf H.size) (sx_XC D cl (sx_A ν H.size) px) (sx_A ν H.size)
theorem sx_runV (C : sx_C p s m args c cc nL own Ts D cl tys E A) {Qc : Nat → Array Value → State → Outcome → State → Prop} (hν : ∀ q e, ν q = some e → μ q = some e) (hM : ∀ sz, Met l y ws rm (va_Pc (.ref b :: As) (sx_Pre D cl tys E ν sz)) (Qc sz) mc ms (sx_A ν sz)) {Cn : String} {T : u_T} {N ci : Nat} {fs : List Value} (hc : cl[ci]? = some (Cn, T, N)) (hμ : μ b = some (.inr (ci, fs))) (cw : CallW R s args own Cn index y bytes maxL ret ws rm mc ms n) (hn : As.length = n) (hst : st0 = As.reverse ++ .ref b :: rest) (hrm : (rest.map fun v => v.category).sum ≤ 8) (hd : decode cc pc = .ok (.invokevirtual index, 3)) (hf : cells + mc ≤ R.cells ∧ slots + ms ≤ R.slots) :
    sx_Run p l e R s m args below meth c nL D cl A cells slots mc ms μ ν pc lv st0 rest (fun sz => Qc sz (.ref b :: As).toArray) := by
  intro H locs ls hH hS hl
  subst hst
  obtain ⟨ws0, hP, hD, hL⟩ := id hH
  obtain ⟨q, hq⟩ := (hL _ _).mp hμ
  exact va_runV (As := As) (rest := rest) C.1 (hM H.size) cw ⟨sx_blind C.2.2.2.2, va_recv C.2.1 hP hc hq, fun U hU hW => ⟨rfl, sx_preU C hν hH hS U hU hW⟩⟩ rfl hn hl.1 rfl (lv_room hrm) hd hf
theorem sx_runXV (C : sx_C p s m args c cc nL own Ts D cl tys E A) {Qc : Nat → Array Value → State → Outcome → State → Prop} {px : String → sx_M → Prop} (hν : ∀ q e, ν q = some e → μ q = some e) (hM : ∀ sz, vx_Met l y ws rm (va_Pc (.ref b :: As) (sx_Pre D cl tys E ν sz)) (Qc sz) (sx_XC D cl (sx_A ν sz) px) mc ms (sx_A ν sz)) {Cn : String} {T : u_T} {N ci : Nat} {fs : List Value} (hc : cl[ci]? = some (Cn, T, N)) (hμ : μ b = some (.inr (ci, fs))) (cw : CallW R s args own Cn index y bytes maxL ret ws rm mc ms n) (hn : As.length = n) (hst : st0 = As.reverse ++ .ref b :: rest) (hrm : (rest.map fun v => v.category).sum ≤ 8) (hd : decode cc pc = .ok (.invokevirtual index, 3)) (hf : cells + mc ≤ R.cells ∧ slots + ms ≤ R.slots) :
    sx_RunX p l e R s m args below meth c nL D cl A cells slots mc ms μ ν pc lv st0 rest (fun sz => Qc sz (.ref b :: As).toArray) px := by
  intro H locs ls hH hS hl
  subst hst
  obtain ⟨ws0, hP, hD, hL⟩ := id hH
  obtain ⟨q, hq⟩ := (hL _ _).mp hμ
  exact vx_runV (As := As) (rest := rest) C.1 (hM H.size) cw ⟨sx_blind C.2.2.2.2, va_recv C.2.1 hP hc hq, fun U hU hW => ⟨rfl, sx_preU C hν hH hS U hU hW⟩⟩ rfl hn hl.1 rfl (lv_room hrm) hd hf
theorem sx_runS (C : sx_C p s m args c cc nL own Ts D cl tys E A) {Qc : Nat → Array Value → State → Outcome → State → Prop} (hν : ∀ q e, ν q = some e → μ q = some e) (hM : ∀ sz, Met l y ws rm (va_Pc As (sx_Pre D cl tys E ν sz)) (Qc sz) mc ms (sx_A ν sz)) (cw : CallB R s args own index y bytes maxL ret ws rm mc ms n ∧ (Cond.static y).before args s = true) (hn : As.length = n) (hst : st0 = As.reverse ++ rest) (hrm : (rest.map fun v => v.category).sum ≤ 8) (hd : decode cc pc = .ok (.invokestatic index, 3)) (hf : cells + mc ≤ R.cells ∧ slots + ms ≤ R.slots) :
    sx_Run p l e R s m args below meth c nL D cl A cells slots mc ms μ ν pc lv st0 rest (fun sz => Qc sz As.toArray) := by
  intro H locs ls hH hS hl
  subst hst
  exact va_runS (As := As) (rest := rest) C.1 (hM H.size) cw ⟨sx_blind C.2.2.2.2, fun U hU hW => ⟨rfl, sx_preU C hν hH hS U hU hW⟩⟩ rfl hn hl.1 rfl (lv_room hrm) hd hf
theorem sx_runXS (C : sx_C p s m args c cc nL own Ts D cl tys E A) {Qc : Nat → Array Value → State → Outcome → State → Prop} {px : String → sx_M → Prop} (hν : ∀ q e, ν q = some e → μ q = some e) (hM : ∀ sz, vx_Met l y ws rm (va_Pc As (sx_Pre D cl tys E ν sz)) (Qc sz) (sx_XC D cl (sx_A ν sz) px) mc ms (sx_A ν sz)) (cw : CallB R s args own index y bytes maxL ret ws rm mc ms n ∧ (Cond.static y).before args s = true) (hn : As.length = n) (hst : st0 = As.reverse ++ rest) (hrm : (rest.map fun v => v.category).sum ≤ 8) (hd : decode cc pc = .ok (.invokestatic index, 3)) (hf : cells + mc ≤ R.cells ∧ slots + ms ≤ R.slots) :
    sx_RunX p l e R s m args below meth c nL D cl A cells slots mc ms μ ν pc lv st0 rest (fun sz => Qc sz As.toArray) px := by
  intro H locs ls hH hS hl
  subst hst
  exact vx_runS (As := As) (rest := rest) C.1 (hM H.size) cw ⟨sx_blind C.2.2.2.2, fun U hU hW => ⟨rfl, sx_preU C hν hH hS U hU hW⟩⟩ rfl hn hl.1 rfl (lv_room hrm) hd hf
theorem sx_runI (C : sx_C p s m args c cc nL own Ts D cl tys E A) {Qc : Nat → Array Value → State → Outcome → State → Prop} (hν : ∀ q e, ν q = some e → μ q = some e) (hM : ∀ sz, Met l y ws rm (va_Pc (.ref b :: As) (sx_Pre D cl tys E ν sz)) (Qc sz) mc ms (sx_A ν sz)) (cw : CallB R s args own index y bytes maxL none ws rm mc ms n ∧ y.name = "<init>" ∧ (Cond.instanceMethod y).before args s = true) (hn : As.length = n) (hst : st0 = As.reverse ++ .ref b :: rest) (hrm : (rest.map fun v => v.category).sum ≤ 8) (hd : decode cc pc = .ok (.invokespecial index, 3)) (hf : cells + mc ≤ R.cells ∧ slots + ms ≤ R.slots) :
    sx_Run p l e R s m args below meth c nL D cl A cells slots mc ms μ ν pc lv st0 rest (fun sz => Qc sz (.ref b :: As).toArray) := by
  intro H locs ls hH hS hl
  subst hst
  exact va_runI (As := As) (rest := rest) C.1 (hM H.size) cw ⟨sx_blind C.2.2.2.2, fun U hU hW => ⟨rfl, sx_preU C hν hH hS U hU hW⟩⟩ rfl hn hl.1 rfl (lv_room hrm) hd hf
theorem sx_calli (C : sx_C p s m args c cc nL own Ts D cl tys E A) {post : Int32 → sx_M → Prop} {a : Array Value} (hr : sx_Run p l e R s m args below meth c nL D cl A cells slots mc ms μ μ pc lv st0 rest (fun sz => va_Qi post (sx_B D cl (sx_A μ sz)) (sx_A μ sz) a)) (k : ∀ (r : Int32) (μ' : sx_M), post r μ' → SW p l e R s m args below meth c nL D cl A (cells + mc) (slots + ms) Q μ' (pc + 3) lv (.int r :: rest)) : SW p l e R s m args below meth c nL D cl A cells slots Q μ pc lv st0 := by
  intro H locs ls hH hS hl
  have hF := sx_F hH hS C.2.2.1
  exact va_calli (hr H locs ls hH hS hl) hS (fun q _ h => hF q h) hF (fun r μ' t H1 locs1 ht hvm hw hB hz1 hk1 hS1 => k r μ' hw H1 locs1 ls (sx_H_mono (ht ▸ hB) (fun q e _ h => hF q h)) hS1 hl)
theorem sx_calll (C : sx_C p s m args c cc nL own Ts D cl tys E A) {post : Int64 → sx_M → Prop} {a : Array Value} (hr : sx_Run p l e R s m args below meth c nL D cl A cells slots mc ms μ μ pc lv st0 rest (fun sz => va_Ql post (sx_B D cl (sx_A μ sz)) (sx_A μ sz) a)) (k : ∀ (r : Int64) (μ' : sx_M), post r μ' → SW p l e R s m args below meth c nL D cl A (cells + mc) (slots + ms) Q μ' (pc + 3) lv (.long r :: rest)) : SW p l e R s m args below meth c nL D cl A cells slots Q μ pc lv st0 := by
  intro H locs ls hH hS hl
  have hF := sx_F hH hS C.2.2.1
  exact va_calll (hr H locs ls hH hS hl) hS (fun q _ h => hF q h) hF (fun r μ' t H1 locs1 ht hvm hw hB hz1 hk1 hS1 => k r μ' hw H1 locs1 ls (sx_H_mono (ht ▸ hB) (fun q e _ h => hF q h)) hS1 hl)
theorem sx_callv (C : sx_C p s m args c cc nL own Ts D cl tys E A) {post : sx_M → Prop} {a : Array Value} (hr : sx_Run p l e R s m args below meth c nL D cl A cells slots mc ms μ μ pc lv st0 rest (fun sz => va_Qv post (sx_B D cl (sx_A μ sz)) (sx_A μ sz) a)) (k : ∀ (μ' : sx_M), post μ' → SW p l e R s m args below meth c nL D cl A (cells + mc) (slots + ms) Q μ' (pc + 3) lv rest) : SW p l e R s m args below meth c nL D cl A cells slots Q μ pc lv st0 := by
  intro H locs ls hH hS hl
  have hF := sx_F hH hS C.2.2.1
  exact va_callv (hr H locs ls hH hS hl) hS (fun q _ h => hF q h) hF (fun μ' t H1 locs1 ht hvm hw hB hz1 hk1 hS1 => k μ' hw H1 locs1 ls (sx_H_mono (ht ▸ hB) (fun q e _ h => hF q h)) hS1 hl)
theorem sx_callr (C : sx_C p s m args c cc nL own Ts D cl tys E A) {post : Nat → sx_M → Prop} {a : Array Value} (hr : sx_Run p l e R s m args below meth c nL D cl A cells slots mc ms μ μ pc lv st0 rest (fun sz => sx_Qr post D cl (sx_A μ sz) a)) (k : ∀ (r : Nat) (μ' : sx_M), post r μ' → SW p l e R s m args below meth c nL D cl A (cells + mc) (slots + ms) Q μ' (pc + 3) lv (.ref r :: rest)) : SW p l e R s m args below meth c nL D cl A cells slots Q μ pc lv st0 := by
  intro H locs ls hH hS hl
  have hF := sx_F hH hS C.2.2.1
  exact va_callr (hr H locs ls hH hS hl) hS (fun q _ h => hF q h) hF (fun μ' r t H1 locs1 ht hvm hw hB hz1 hk1 hS1 => k r μ' hB.1 H1 locs1 ls (sx_H_mono (ht ▸ hB.2) (fun q e _ h => hF q h)) hS1 hl)
/-- the machine at pc, with an exception of the class Ex thrown over it -/
def SX (p : Program) (l : Launch) (e : Env) (R : Room) (s : State) (m : MethodId) (args : Array Value) (below : List Frame) (meth : Method) (c : Code) (nL : Nat) (D : va_G) (cl : List vw_C) (A : Nat → Prop) (cells slots : Nat) (Q : State → Prop) (μ : sx_M) (pc : Nat) (lv : List (Option Value)) (st : List Value) (Ex : String) : Prop :=
  ∀ (H : Heap) (locs : List Loc) (ls : Array Slot) (q : Addr) (ce : Cell), sx_H D cl A μ H → va_S A s.heap H locs → sx_V ls nL lv → H[q]? = some ce → ce.vm = .none → s.vm.findClass Ex = some ce.cls → vx_W p l e R s m args below meth c H locs cells slots Q (F0 m pc ls st) q
theorem sx_callXi (C : sx_C p s m args c cc nL own Ts D cl tys E A) {post : Int32 → sx_M → Prop} {px : String → sx_M → Prop} {a : Array Value} (hr : sx_RunX p l e R s m args below meth c nL D cl A cells slots mc ms μ μ pc lv st0 rest (fun sz => va_Qi post (sx_B D cl (sx_A μ sz)) (sx_A μ sz) a) px) (kx : ∀ (Ex : String) (μ' : sx_M), px Ex μ' → SX p l e R s m args below meth c nL D cl A (cells + mc) (slots + ms) Q μ' pc lv rest Ex) (k : ∀ (r : Int32) (μ' : sx_M), post r μ' → SW p l e R s m args below meth c nL D cl A (cells + mc) (slots + ms) Q μ' (pc + 3) lv (.int r :: rest)) : SW p l e R s m args below meth c nL D cl A cells slots Q μ pc lv st0 := by
  intro H locs ls hH hS hl
  have hF := sx_F hH hS C.2.2.1
  exact vx_calli (hr H locs ls hH hS hl) hS (fun q _ h => hF q h) hF (fun q _ h => hF q h) (fun Ex ce q9 μ' t H1 locs1 ht hvm hw hB hz1 hk1 hS1 h1 h2 h3 => kx Ex μ' hB.1 H1 locs1 ls q9 ce (sx_H_mono (ht ▸ hB.2) (fun q e _ h => hF q h)) hS1 hl h1 h2 h3) (fun r μ' t H1 locs1 ht hvm hw hB hz1 hk1 hS1 => k r μ' hw H1 locs1 ls (sx_H_mono (ht ▸ hB) (fun q e _ h => hF q h)) hS1 hl)
theorem sx_callXl (C : sx_C p s m args c cc nL own Ts D cl tys E A) {post : Int64 → sx_M → Prop} {px : String → sx_M → Prop} {a : Array Value} (hr : sx_RunX p l e R s m args below meth c nL D cl A cells slots mc ms μ μ pc lv st0 rest (fun sz => va_Ql post (sx_B D cl (sx_A μ sz)) (sx_A μ sz) a) px) (kx : ∀ (Ex : String) (μ' : sx_M), px Ex μ' → SX p l e R s m args below meth c nL D cl A (cells + mc) (slots + ms) Q μ' pc lv rest Ex) (k : ∀ (r : Int64) (μ' : sx_M), post r μ' → SW p l e R s m args below meth c nL D cl A (cells + mc) (slots + ms) Q μ' (pc + 3) lv (.long r :: rest)) : SW p l e R s m args below meth c nL D cl A cells slots Q μ pc lv st0 := by
  intro H locs ls hH hS hl
  have hF := sx_F hH hS C.2.2.1
  exact vx_calll (hr H locs ls hH hS hl) hS (fun q _ h => hF q h) hF (fun q _ h => hF q h) (fun Ex ce q9 μ' t H1 locs1 ht hvm hw hB hz1 hk1 hS1 h1 h2 h3 => kx Ex μ' hB.1 H1 locs1 ls q9 ce (sx_H_mono (ht ▸ hB.2) (fun q e _ h => hF q h)) hS1 hl h1 h2 h3) (fun r μ' t H1 locs1 ht hvm hw hB hz1 hk1 hS1 => k r μ' hw H1 locs1 ls (sx_H_mono (ht ▸ hB) (fun q e _ h => hF q h)) hS1 hl)
theorem sx_callXv (C : sx_C p s m args c cc nL own Ts D cl tys E A) {post : sx_M → Prop} {px : String → sx_M → Prop} {a : Array Value} (hr : sx_RunX p l e R s m args below meth c nL D cl A cells slots mc ms μ μ pc lv st0 rest (fun sz => va_Qv post (sx_B D cl (sx_A μ sz)) (sx_A μ sz) a) px) (kx : ∀ (Ex : String) (μ' : sx_M), px Ex μ' → SX p l e R s m args below meth c nL D cl A (cells + mc) (slots + ms) Q μ' pc lv rest Ex) (k : ∀ (μ' : sx_M), post μ' → SW p l e R s m args below meth c nL D cl A (cells + mc) (slots + ms) Q μ' (pc + 3) lv rest) : SW p l e R s m args below meth c nL D cl A cells slots Q μ pc lv st0 := by
  intro H locs ls hH hS hl
  have hF := sx_F hH hS C.2.2.1
  exact vx_callv (hr H locs ls hH hS hl) hS (fun q _ h => hF q h) hF (fun q _ h => hF q h) (fun Ex ce q9 μ' t H1 locs1 ht hvm hw hB hz1 hk1 hS1 h1 h2 h3 => kx Ex μ' hB.1 H1 locs1 ls q9 ce (sx_H_mono (ht ▸ hB.2) (fun q e _ h => hF q h)) hS1 hl h1 h2 h3) (fun μ' t H1 locs1 ht hvm hw hB hz1 hk1 hS1 => k μ' hw H1 locs1 ls (sx_H_mono (ht ▸ hB) (fun q e _ h => hF q h)) hS1 hl)
theorem sx_callFi (C : sx_C p s m args c cc nL own Ts D cl tys E A) {post : Int32 → sx_M → Prop} {a : Array Value} (hν : ∀ q e, ν q = some e → μ q = some e) (hr : sx_Run p l e R s m args below meth c nL D cl A cells slots mc ms μ ν pc lv st0 rest (fun sz => va_Qi post (sx_B D cl (sx_A ν sz)) (sx_A ν sz) a)) (k : ∀ (r : Int32) (ν' : sx_M), post r ν' → (∀ q e, μ q = some e → ν q = none → ν' q = none) → SW p l e R s m args below meth c nL D cl A (cells + mc) (slots + ms) Q (sx_ov μ ν ν') (pc + 3) lv (.int r :: rest)) : SW p l e R s m args below meth c nL D cl A cells slots Q μ pc lv st0 := by
  intro H locs ls hH hS hl
  have hF := sx_F (sx_H_part hH hν) hS C.2.2.1
  refine va_calli (hr H locs ls hH hS hl) hS (fun q _ h => hF q h) hF (fun r ν' t H1 locs1 ht hvm hw hB hz1 hk1 hS1 => ?_)
  have hO := sx_H_ov hH (show sx_H D cl (sx_A ν H.size) ν' H1 from ht ▸ hB) hk1 hF
  exact k r ν' hw hO.2 H1 locs1 ls hO.1 hS1 hl
theorem sx_callXFi (C : sx_C p s m args c cc nL own Ts D cl tys E A) {post : Int32 → sx_M → Prop} {px : String → sx_M → Prop} {a : Array Value} (hν : ∀ q e, ν q = some e → μ q = some e) (hr : sx_RunX p l e R s m args below meth c nL D cl A cells slots mc ms μ ν pc lv st0 rest (fun sz => va_Qi post (sx_B D cl (sx_A ν sz)) (sx_A ν sz) a) px) (kx : ∀ (Ex : String) (ν' : sx_M), px Ex ν' → (∀ q e, μ q = some e → ν q = none → ν' q = none) → SX p l e R s m args below meth c nL D cl A (cells + mc) (slots + ms) Q (sx_ov μ ν ν') pc lv rest Ex) (k : ∀ (r : Int32) (ν' : sx_M), post r ν' → (∀ q e, μ q = some e → ν q = none → ν' q = none) → SW p l e R s m args below meth c nL D cl A (cells + mc) (slots + ms) Q (sx_ov μ ν ν') (pc + 3) lv (.int r :: rest)) : SW p l e R s m args below meth c nL D cl A cells slots Q μ pc lv st0 := by
  intro H locs ls hH hS hl
  have hF := sx_F (sx_H_part hH hν) hS C.2.2.1
  refine vx_calli (hr H locs ls hH hS hl) hS (fun q _ h => hF q h) hF (fun q _ h => hF q h) (fun Ex ce q9 ν' t H1 locs1 ht hvm hw hB hz1 hk1 hS1 h1 h2 h3 => ?_) (fun r ν' t H1 locs1 ht hvm hw hB hz1 hk1 hS1 => ?_)
  · have hO := sx_H_ov hH (show sx_H D cl (sx_A ν H.size) ν' H1 from ht ▸ hB.2) hk1 hF
    exact kx Ex ν' hB.1 hO.2 H1 locs1 ls q9 ce hO.1 hS1 hl h1 h2 h3
  · have hO := sx_H_ov hH (show sx_H D cl (sx_A ν H.size) ν' H1 from ht ▸ hB) hk1 hF
    exact k r ν' hw hO.2 H1 locs1 ls hO.1 hS1 hl
theorem sx_callFl (C : sx_C p s m args c cc nL own Ts D cl tys E A) {post : Int64 → sx_M → Prop} {a : Array Value} (hν : ∀ q e, ν q = some e → μ q = some e) (hr : sx_Run p l e R s m args below meth c nL D cl A cells slots mc ms μ ν pc lv st0 rest (fun sz => va_Ql post (sx_B D cl (sx_A ν sz)) (sx_A ν sz) a)) (k : ∀ (r : Int64) (ν' : sx_M), post r ν' → (∀ q e, μ q = some e → ν q = none → ν' q = none) → SW p l e R s m args below meth c nL D cl A (cells + mc) (slots + ms) Q (sx_ov μ ν ν') (pc + 3) lv (.long r :: rest)) : SW p l e R s m args below meth c nL D cl A cells slots Q μ pc lv st0 := by
  intro H locs ls hH hS hl
  have hF := sx_F (sx_H_part hH hν) hS C.2.2.1
  refine va_calll (hr H locs ls hH hS hl) hS (fun q _ h => hF q h) hF (fun r ν' t H1 locs1 ht hvm hw hB hz1 hk1 hS1 => ?_)
  have hO := sx_H_ov hH (show sx_H D cl (sx_A ν H.size) ν' H1 from ht ▸ hB) hk1 hF
  exact k r ν' hw hO.2 H1 locs1 ls hO.1 hS1 hl
theorem sx_callXFl (C : sx_C p s m args c cc nL own Ts D cl tys E A) {post : Int64 → sx_M → Prop} {px : String → sx_M → Prop} {a : Array Value} (hν : ∀ q e, ν q = some e → μ q = some e) (hr : sx_RunX p l e R s m args below meth c nL D cl A cells slots mc ms μ ν pc lv st0 rest (fun sz => va_Ql post (sx_B D cl (sx_A ν sz)) (sx_A ν sz) a) px) (kx : ∀ (Ex : String) (ν' : sx_M), px Ex ν' → (∀ q e, μ q = some e → ν q = none → ν' q = none) → SX p l e R s m args below meth c nL D cl A (cells + mc) (slots + ms) Q (sx_ov μ ν ν') pc lv rest Ex) (k : ∀ (r : Int64) (ν' : sx_M), post r ν' → (∀ q e, μ q = some e → ν q = none → ν' q = none) → SW p l e R s m args below meth c nL D cl A (cells + mc) (slots + ms) Q (sx_ov μ ν ν') (pc + 3) lv (.long r :: rest)) : SW p l e R s m args below meth c nL D cl A cells slots Q μ pc lv st0 := by
  intro H locs ls hH hS hl
  have hF := sx_F (sx_H_part hH hν) hS C.2.2.1
  refine vx_calll (hr H locs ls hH hS hl) hS (fun q _ h => hF q h) hF (fun q _ h => hF q h) (fun Ex ce q9 ν' t H1 locs1 ht hvm hw hB hz1 hk1 hS1 h1 h2 h3 => ?_) (fun r ν' t H1 locs1 ht hvm hw hB hz1 hk1 hS1 => ?_)
  · have hO := sx_H_ov hH (show sx_H D cl (sx_A ν H.size) ν' H1 from ht ▸ hB.2) hk1 hF
    exact kx Ex ν' hB.1 hO.2 H1 locs1 ls q9 ce hO.1 hS1 hl h1 h2 h3
  · have hO := sx_H_ov hH (show sx_H D cl (sx_A ν H.size) ν' H1 from ht ▸ hB) hk1 hF
    exact k r ν' hw hO.2 H1 locs1 ls hO.1 hS1 hl
theorem sx_callFv (C : sx_C p s m args c cc nL own Ts D cl tys E A) {post : sx_M → Prop} {a : Array Value} (hν : ∀ q e, ν q = some e → μ q = some e) (hr : sx_Run p l e R s m args below meth c nL D cl A cells slots mc ms μ ν pc lv st0 rest (fun sz => va_Qv post (sx_B D cl (sx_A ν sz)) (sx_A ν sz) a)) (k : ∀ (ν' : sx_M), post ν' → (∀ q e, μ q = some e → ν q = none → ν' q = none) → SW p l e R s m args below meth c nL D cl A (cells + mc) (slots + ms) Q (sx_ov μ ν ν') (pc + 3) lv rest) : SW p l e R s m args below meth c nL D cl A cells slots Q μ pc lv st0 := by
  intro H locs ls hH hS hl
  have hF := sx_F (sx_H_part hH hν) hS C.2.2.1
  refine va_callv (hr H locs ls hH hS hl) hS (fun q _ h => hF q h) hF (fun ν' t H1 locs1 ht hvm hw hB hz1 hk1 hS1 => ?_)
  have hO := sx_H_ov hH (show sx_H D cl (sx_A ν H.size) ν' H1 from ht ▸ hB) hk1 hF
  exact k ν' hw hO.2 H1 locs1 ls hO.1 hS1 hl
theorem sx_callXFv (C : sx_C p s m args c cc nL own Ts D cl tys E A) {post : sx_M → Prop} {px : String → sx_M → Prop} {a : Array Value} (hν : ∀ q e, ν q = some e → μ q = some e) (hr : sx_RunX p l e R s m args below meth c nL D cl A cells slots mc ms μ ν pc lv st0 rest (fun sz => va_Qv post (sx_B D cl (sx_A ν sz)) (sx_A ν sz) a) px) (kx : ∀ (Ex : String) (ν' : sx_M), px Ex ν' → (∀ q e, μ q = some e → ν q = none → ν' q = none) → SX p l e R s m args below meth c nL D cl A (cells + mc) (slots + ms) Q (sx_ov μ ν ν') pc lv rest Ex) (k : ∀ (ν' : sx_M), post ν' → (∀ q e, μ q = some e → ν q = none → ν' q = none) → SW p l e R s m args below meth c nL D cl A (cells + mc) (slots + ms) Q (sx_ov μ ν ν') (pc + 3) lv rest) : SW p l e R s m args below meth c nL D cl A cells slots Q μ pc lv st0 := by
  intro H locs ls hH hS hl
  have hF := sx_F (sx_H_part hH hν) hS C.2.2.1
  refine vx_callv (hr H locs ls hH hS hl) hS (fun q _ h => hF q h) hF (fun q _ h => hF q h) (fun Ex ce q9 ν' t H1 locs1 ht hvm hw hB hz1 hk1 hS1 h1 h2 h3 => ?_) (fun ν' t H1 locs1 ht hvm hw hB hz1 hk1 hS1 => ?_)
  · have hO := sx_H_ov hH (show sx_H D cl (sx_A ν H.size) ν' H1 from ht ▸ hB.2) hk1 hF
    exact kx Ex ν' hB.1 hO.2 H1 locs1 ls q9 ce hO.1 hS1 hl h1 h2 h3
  · have hO := sx_H_ov hH (show sx_H D cl (sx_A ν H.size) ν' H1 from ht ▸ hB) hk1 hF
    exact k ν' hw hO.2 H1 locs1 ls hO.1 hS1 hl
end SXC
section SXE
variable {p : Program} {l : Launch} {e : Env} {R : Room} {s : State} {m : MethodId} {args : Array Value} {below : List Frame} {meth : Method} {c : Code} {cc : ByteArray} {nL : Nat} {own : String} {Ts : List Cond} {D : va_G} {cl : List vw_C} {tys : List (ClassId × FieldType)} {E : (Nat → Prop) → State → Heap → Prop} {A : Nat → Prop} {cells slots : Nat} {Q : State → Prop} {μ : sx_M} {pc : Nat} {lv : List (Option Value)} {rest : List Value} {mc ms : Nat}
theorem sx_iret (C : sx_C p s m args c cc nL own Ts D cl tys E A) {v : Int32} {post : Int32 → sx_M → Prop} (hd : decode cc pc = .ok (.ireturn, 1)) (hr : meth.sig.returnType = some .int) (hlocks : meth.locks = false) (hc : cells ≤ mc) (hs : slots ≤ ms) (hp : post v μ) : SW p l e R s m args below meth c nL D cl A cells slots (MQ below (va_Qi post (sx_B D cl A) A) args s mc ms A) μ pc lv [.int v] :=
  fun H locs ls hH hS hl => W.widen hc hs (W.iret (v := v) C.1.1 C.1.2.1 hr (fun t ht hW => ⟨⟨v, μ, rfl, hp, by show sx_H D cl A μ t.heap; rw [ht]; exact hH⟩, hS.F ht⟩) hS.2.2 hd hlocks)
theorem sx_lret (C : sx_C p s m args c cc nL own Ts D cl tys E A) {v : Int64} {post : Int64 → sx_M → Prop} (hd : decode cc pc = .ok (.lreturn, 1)) (hr : meth.sig.returnType = some .long) (hlocks : meth.locks = false) (hc : cells ≤ mc) (hs : slots ≤ ms) (hp : post v μ) : SW p l e R s m args below meth c nL D cl A cells slots (MQ below (va_Ql post (sx_B D cl A) A) args s mc ms A) μ pc lv [.long v] :=
  fun H locs ls hH hS hl => W.widen hc hs (W.lret (v := v) C.1.1 C.1.2.1 hr (fun t ht hW => ⟨⟨v, μ, rfl, hp, by show sx_H D cl A μ t.heap; rw [ht]; exact hH⟩, hS.F ht⟩) hS.2.2 hd hlocks)
theorem sx_zret (C : sx_C p s m args c cc nL own Ts D cl tys E A) {v : Int32} {ty : FieldType} {post : Int32 → sx_M → Prop} (hd : decode cc pc = .ok (.ireturn, 1)) (hr : meth.sig.returnType = some ty) (hn : narrow ty (.int v) = .int v) (hlocks : meth.locks = false) (hc : cells ≤ mc) (hs : slots ≤ ms) (hp : post v μ) : SW p l e R s m args below meth c nL D cl A cells slots (MQ below (va_Qi post (sx_B D cl A) A) args s mc ms A) μ pc lv [.int v] :=
  fun H locs ls hH hS hl => W.widen hc hs (W.zret (v := v) C.1.1 C.1.2.1 hr hn (fun t ht hW => ⟨⟨v, μ, rfl, hp, by show sx_H D cl A μ t.heap; rw [ht]; exact hH⟩, hS.F ht⟩) hS.2.2 hd hlocks)
theorem sx_vret (C : sx_C p s m args c cc nL own Ts D cl tys E A) {post : sx_M → Prop} (hd : decode cc pc = .ok (.return_, 1)) (hr : meth.sig.returnType = none) (hlocks : meth.locks = false) (hc : cells ≤ mc) (hs : slots ≤ ms) (hp : post μ) : SW p l e R s m args below meth c nL D cl A cells slots (MQ below (va_Qv post (sx_B D cl A) A) args s mc ms A) μ pc lv [] :=
  fun H locs ls hH hS hl => W.widen hc hs (W.vret C.1.1 C.1.2.1 hr (fun t ht hW => ⟨⟨μ, rfl, hp, by show sx_H D cl A μ t.heap; rw [ht]; exact hH⟩, hS.F ht⟩) hS.2.2 hd hlocks)
theorem sx_aret (C : sx_C p s m args c cc nL own Ts D cl tys E A) {a : Nat} {nm : String} {post : Nat → sx_M → Prop} (hd : decode cc pc = .ok (.areturn, 1)) (hr : meth.sig.returnType = some (.object nm)) (hlocks : meth.locks = false) (hc : cells ≤ mc) (hs : slots ≤ ms) (hp : post a μ) : SW p l e R s m args below meth c nL D cl A cells slots (MQ below (sx_Qr post D cl A) args s mc ms A) μ pc lv [.ref a] :=
  fun H locs ls hH hS hl => W.widen hc hs (W.aret (v := .ref a) C.1.1 C.1.2.1 hr (Or.inl ⟨nm, rfl⟩) (Or.inr ⟨a, rfl⟩) (fun t ht hW => ⟨⟨μ, a, rfl, trivial, hp, by rw [ht]; exact hH⟩, hS.F ht⟩) hS.2.2 hd hlocks)
theorem sx_vxret {Qc : Array Value → State → Outcome → State → Prop} {XC : String → State → State → Prop} {free : Addr → Prop} {st : List Value} (k : SW p l e R s m args below meth c nL D cl A cells slots (MQ below Qc args s mc ms free) μ pc lv st) : SW p l e R s m args below meth c nL D cl A cells slots (vx_MQ below Qc XC args s mc ms free) μ pc lv st :=
  fun H locs ls hH hS hl => vx_ret (k H locs ls hH hS hl)
theorem sx_pass (C : sx_C p s m args c cc nL own Ts D cl tys E A) {Qc : Array Value → State → Outcome → State → Prop} {px : String → sx_M → Prop} {st : List Value} {Ex : String} (hout : ∀ x ∈ c.exceptionTable.toList, covers x pc = false) (hlocks : meth.locks = false) (hc : cells ≤ mc) (hs : slots ≤ ms) (hp : px Ex μ) : SX p l e R s m args below meth c nL D cl A cells slots (vx_MQ below Qc (sx_XC D cl A px) args s mc ms A) μ pc lv st Ex :=
  fun H locs ls q ce hH hS hl h1 h2 h3 => vx_out hout hlocks h1 h2 h3 (fun t ht ha => ⟨μ, trivial, ⟨hp, by rw [ht]; exact hH⟩, hS.F ht⟩) hS.2.2 hc hs
theorem sx_catch (C : sx_C p s m args c cc nL own Ts D cl tys E A) {st : List Value} {Ex name : String} (pre : List ExceptionTableEntry) (x : ExceptionTableEntry) (suf : List ExceptionTableEntry) (hsplit : c.exceptionTable.toList = pre ++ x :: suf) (hpass : ∀ z ∈ pre, covers z pc = false ∨ (z.catchType ≠ 0 ∧ ∃ nm : String, (Cond.classLink own z.catchType nm).before args s = true ∧ va_Nc Ex nm s)) (hx : covers x pc = true) (h0 : x.catchType ≠ 0) (hlink : (Cond.classLink own x.catchType name).before args s = true) (hcast : (Cond.castable Ex name).before args s = true) (k : ∀ q : Nat, SW p l e R s m args below meth c nL D cl A cells slots Q μ x.handlerPc lv [.ref q]) : SX p l e R s m args below meth c nL D cl A cells slots Q μ pc lv st Ex :=
  fun H locs ls q ce hH hS hl h1 h2 h3 => vx_catch C.1.2.2.2.1 pre x suf hsplit hpass hx h0 hlink hcast h1 h2 h3 (k q H locs ls hH hS hl)
end SXE
theorem sx_args_lv : ∀ (vs : List Value) (k : Nat), sx_lv k (sx_args vs) = lv_args k vs
  | [], k => rfl
  | v :: t, k => by
    by_cases h : v.category = 2
    · rw [sx_args, if_pos h, lv_args, if_pos h, sx_lv, sx_lv, sx_args_lv t (k + 1 + 1)]
    · rw [sx_args, if_neg h, lv_args, if_neg h, sx_lv, sx_args_lv t (k + 1)]
theorem sx_V_entry (vs : List Value) {n : Nat} (h : (lg_sl vs).length ≤ n) {lv : List (Option Value)} (j : Nat) (hlv : lv = sx_args vs ++ List.replicate j none) : sx_V ((lg_sl vs ++ List.replicate (n - (lg_sl vs).length) Slot.unset).toArray) n lv := by
  have h0 : sx_V ((lg_sl vs ++ List.replicate (n - (lg_sl vs).length) Slot.unset).toArray) n (sx_args vs) := by
    unfold sx_V
    rw [sx_args_lv]
    exact lv_entry vs h
  refine sx_V_sub h0 (fun i v hi => ?_)
  rw [hlv] at hi
  by_cases hl : i < (sx_args vs).length
  · rw [List.getElem?_append_left hl] at hi
    exact hi
  · rw [List.getElem?_append_right (by omega)] at hi
    have := List.mem_of_getElem? hi
    rw [List.mem_replicate] at this
    cases this.2
theorem sx_H_self {D : va_G} {cl : List vw_C} {A : Nat → Prop} {μ : sx_M} {H : Heap} {sz : Nat} (h : sx_H D cl A μ H) : sx_H D cl (sx_A μ sz) μ H := sx_H_mono h (fun q e he _ => Or.inl ⟨e, he⟩)
theorem sx_of {l : Launch} {y : MethodName} {ws ws' : List Cond} {rm : Room} {D : va_G} {cl : List vw_C} {tys : List (ClassId × FieldType)} {E : (Nat → Prop) → State → Heap → Prop} {as : List Value} {μ : sx_M} {mc ms maxL : Nat} {cc : ByteArray} {ret : Option FieldType} {own : String} {Qf : (Nat → Prop) → Array Value → State → Outcome → State → Prop} (hE : sx_Eok E) (hy : plainName y.cls = true) (hw : ws = Cond.code y cc maxL ret :: ws') (hyc : y.cls = own) (hlen : (lg_sl as).length ≤ maxL) (lv : List (Option Value)) (j : Nat) (hlv : lv = sx_args as ++ List.replicate j none)
    (body : ∀ (p : Program) (e : Env) (s : State) (m : MethodId) (below : List Frame) (meth : Method) (c : Code) (A : Nat → Prop), sx_C p s m as.toArray c cc maxL own ws D cl tys E A → meth.sig.returnType = ret → meth.locks = false → (meth.name = y.name) → SW p l e rm s m as.toArray below meth c maxL D cl A 0 0 (MQ below (Qf A) as.toArray s mc ms A) μ 0 lv []) : ∀ sz, Met l y ws rm (va_Pc as (sx_Pre D cl tys E μ sz)) (Qf (sx_A μ sz)) mc ms (sx_A μ sz) := by
  intro sz
  refine Met.ofW (cc := cc) (maxL := maxL) (ret := ret) hy hw ?_
  intro p e s m args below meth c s₁ B hml hv
  obtain ⟨rfl, hsz, hH, hK, hEs⟩ := hv
  subst hsz
  have hC : sx_C p s m as.toArray c cc maxL own ws D cl tys E (sx_A μ s.heap.size) := ⟨⟨B.exec, B.bytes, hml, hyc ▸ findClass_of_methodNamed B.named, atoms_spec (ws := ws) B.pre⟩, hK, fun q h => Or.inr h, hEs, hE⟩
  rw [lg_entry_eq]
  exact body p e s m below meth c (sx_A μ s.heap.size) hC B.returns B.notSynchronized (name_of_methodNamed B.named B.method).1 s.heap [] _ (sx_H_self hH) va_S.rf (sx_V_entry as hlen j hlv)
theorem sx_ofX {l : Launch} {y : MethodName} {ws ws' : List Cond} {rm : Room} {D : va_G} {cl : List vw_C} {tys : List (ClassId × FieldType)} {E : (Nat → Prop) → State → Heap → Prop} {as : List Value} {μ : sx_M} {mc ms maxL : Nat} {cc : ByteArray} {ret : Option FieldType} {own : String} {Qf : (Nat → Prop) → Array Value → State → Outcome → State → Prop} {px : String → sx_M → Prop} (hE : sx_Eok E) (hy : plainName y.cls = true) (hw : ws = Cond.code y cc maxL ret :: ws') (hyc : y.cls = own) (hlen : (lg_sl as).length ≤ maxL) (lv : List (Option Value)) (j : Nat) (hlv : lv = sx_args as ++ List.replicate j none)
    (body : ∀ (p : Program) (e : Env) (s : State) (m : MethodId) (below : List Frame) (meth : Method) (c : Code) (A : Nat → Prop), sx_C p s m as.toArray c cc maxL own ws D cl tys E A → meth.sig.returnType = ret → meth.locks = false → (meth.name = y.name) → (∀ x ∈ c.exceptionTable.toList, False) → SW p l e rm s m as.toArray below meth c maxL D cl A 0 0 (vx_MQ below (Qf A) (sx_XC D cl A px) as.toArray s mc ms A) μ 0 lv []) : ∀ sz, vx_Met l y ws rm (va_Pc as (sx_Pre D cl tys E μ sz)) (Qf (sx_A μ sz)) (sx_XC D cl (sx_A μ sz) px) mc ms (sx_A μ sz) := by
  intro sz
  refine vx_ofW (cc := cc) (maxL := maxL) (ret := ret) hy hw ?_
  intro p e s m args below meth c s₁ B hml hno hv
  obtain ⟨rfl, hsz, hH, hK, hEs⟩ := hv
  subst hsz
  have hC : sx_C p s m as.toArray c cc maxL own ws D cl tys E (sx_A μ s.heap.size) := ⟨⟨B.exec, B.bytes, hml, hyc ▸ findClass_of_methodNamed B.named, atoms_spec (ws := ws) B.pre⟩, hK, fun q h => Or.inr h, hEs, hE⟩
  rw [lg_entry_eq]
  exact body p e s m below meth c (sx_A μ s.heap.size) hC B.returns B.notSynchronized (name_of_methodNamed B.named B.method).1 hno s.heap [] _ (sx_H_self hH) va_S.rf (sx_V_entry as hlen j hlv)
theorem sx_ofi {l : Launch} {y : MethodName} {ws ws' : List Cond} {rm : Room} {D : va_G} {cl : List vw_C} {tys : List (ClassId × FieldType)} {E : (Nat → Prop) → State → Heap → Prop} {as : List Value} {μ : sx_M} {mc ms maxL : Nat} {cc : ByteArray} {ret : Option FieldType} {own : String} {post : Int32 → sx_M → Prop} (hE : sx_Eok E) (hy : plainName y.cls = true) (hw : ws = Cond.code y cc maxL ret :: ws') (hyc : y.cls = own) (hlen : (lg_sl as).length ≤ maxL) (lv : List (Option Value)) (j : Nat) (hlv : lv = sx_args as ++ List.replicate j none)
    (body : ∀ (p : Program) (e : Env) (s : State) (m : MethodId) (below : List Frame) (meth : Method) (c : Code) (A : Nat → Prop), sx_C p s m as.toArray c cc maxL own ws D cl tys E A → meth.sig.returnType = ret → meth.locks = false → (meth.name = y.name) → SW p l e rm s m as.toArray below meth c maxL D cl A 0 0 (MQ below (va_Qi post (sx_B D cl A) A) as.toArray s mc ms A) μ 0 lv []) : sx_Mi l y ws rm D cl tys E as μ post mc ms :=
  sx_of (Qf := fun A => va_Qi post (sx_B D cl A) A) hE hy hw hyc hlen lv j hlv body
theorem sx_ofXi {l : Launch} {y : MethodName} {ws ws' : List Cond} {rm : Room} {D : va_G} {cl : List vw_C} {tys : List (ClassId × FieldType)} {E : (Nat → Prop) → State → Heap → Prop} {as : List Value} {μ : sx_M} {mc ms maxL : Nat} {cc : ByteArray} {ret : Option FieldType} {own : String} {post : Int32 → sx_M → Prop} {px : String → sx_M → Prop} (hE : sx_Eok E) (hy : plainName y.cls = true) (hw : ws = Cond.code y cc maxL ret :: ws') (hyc : y.cls = own) (hlen : (lg_sl as).length ≤ maxL) (lv : List (Option Value)) (j : Nat) (hlv : lv = sx_args as ++ List.replicate j none)
    (body : ∀ (p : Program) (e : Env) (s : State) (m : MethodId) (below : List Frame) (meth : Method) (c : Code) (A : Nat → Prop), sx_C p s m as.toArray c cc maxL own ws D cl tys E A → meth.sig.returnType = ret → meth.locks = false → (meth.name = y.name) → (∀ x ∈ c.exceptionTable.toList, False) → SW p l e rm s m as.toArray below meth c maxL D cl A 0 0 (vx_MQ below (va_Qi post (sx_B D cl A) A) (sx_XC D cl A px) as.toArray s mc ms A) μ 0 lv []) : sx_Xi l y ws rm D cl tys E as μ post px mc ms :=
  sx_ofX (Qf := fun A => va_Qi post (sx_B D cl A) A) hE hy hw hyc hlen lv j hlv body
theorem sx_ofl {l : Launch} {y : MethodName} {ws ws' : List Cond} {rm : Room} {D : va_G} {cl : List vw_C} {tys : List (ClassId × FieldType)} {E : (Nat → Prop) → State → Heap → Prop} {as : List Value} {μ : sx_M} {mc ms maxL : Nat} {cc : ByteArray} {ret : Option FieldType} {own : String} {post : Int64 → sx_M → Prop} (hE : sx_Eok E) (hy : plainName y.cls = true) (hw : ws = Cond.code y cc maxL ret :: ws') (hyc : y.cls = own) (hlen : (lg_sl as).length ≤ maxL) (lv : List (Option Value)) (j : Nat) (hlv : lv = sx_args as ++ List.replicate j none)
    (body : ∀ (p : Program) (e : Env) (s : State) (m : MethodId) (below : List Frame) (meth : Method) (c : Code) (A : Nat → Prop), sx_C p s m as.toArray c cc maxL own ws D cl tys E A → meth.sig.returnType = ret → meth.locks = false → (meth.name = y.name) → SW p l e rm s m as.toArray below meth c maxL D cl A 0 0 (MQ below (va_Ql post (sx_B D cl A) A) as.toArray s mc ms A) μ 0 lv []) : sx_Ml l y ws rm D cl tys E as μ post mc ms :=
  sx_of (Qf := fun A => va_Ql post (sx_B D cl A) A) hE hy hw hyc hlen lv j hlv body
theorem sx_ofXl {l : Launch} {y : MethodName} {ws ws' : List Cond} {rm : Room} {D : va_G} {cl : List vw_C} {tys : List (ClassId × FieldType)} {E : (Nat → Prop) → State → Heap → Prop} {as : List Value} {μ : sx_M} {mc ms maxL : Nat} {cc : ByteArray} {ret : Option FieldType} {own : String} {post : Int64 → sx_M → Prop} {px : String → sx_M → Prop} (hE : sx_Eok E) (hy : plainName y.cls = true) (hw : ws = Cond.code y cc maxL ret :: ws') (hyc : y.cls = own) (hlen : (lg_sl as).length ≤ maxL) (lv : List (Option Value)) (j : Nat) (hlv : lv = sx_args as ++ List.replicate j none)
    (body : ∀ (p : Program) (e : Env) (s : State) (m : MethodId) (below : List Frame) (meth : Method) (c : Code) (A : Nat → Prop), sx_C p s m as.toArray c cc maxL own ws D cl tys E A → meth.sig.returnType = ret → meth.locks = false → (meth.name = y.name) → (∀ x ∈ c.exceptionTable.toList, False) → SW p l e rm s m as.toArray below meth c maxL D cl A 0 0 (vx_MQ below (va_Ql post (sx_B D cl A) A) (sx_XC D cl A px) as.toArray s mc ms A) μ 0 lv []) : sx_Xl l y ws rm D cl tys E as μ post px mc ms :=
  sx_ofX (Qf := fun A => va_Ql post (sx_B D cl A) A) hE hy hw hyc hlen lv j hlv body
theorem sx_ofv {l : Launch} {y : MethodName} {ws ws' : List Cond} {rm : Room} {D : va_G} {cl : List vw_C} {tys : List (ClassId × FieldType)} {E : (Nat → Prop) → State → Heap → Prop} {as : List Value} {μ : sx_M} {mc ms maxL : Nat} {cc : ByteArray} {ret : Option FieldType} {own : String} {post : sx_M → Prop} (hE : sx_Eok E) (hy : plainName y.cls = true) (hw : ws = Cond.code y cc maxL ret :: ws') (hyc : y.cls = own) (hlen : (lg_sl as).length ≤ maxL) (lv : List (Option Value)) (j : Nat) (hlv : lv = sx_args as ++ List.replicate j none)
    (body : ∀ (p : Program) (e : Env) (s : State) (m : MethodId) (below : List Frame) (meth : Method) (c : Code) (A : Nat → Prop), sx_C p s m as.toArray c cc maxL own ws D cl tys E A → meth.sig.returnType = ret → meth.locks = false → (meth.name = y.name) → SW p l e rm s m as.toArray below meth c maxL D cl A 0 0 (MQ below (va_Qv post (sx_B D cl A) A) as.toArray s mc ms A) μ 0 lv []) : sx_Mv l y ws rm D cl tys E as μ post mc ms :=
  sx_of (Qf := fun A => va_Qv post (sx_B D cl A) A) hE hy hw hyc hlen lv j hlv body
theorem sx_ofXv {l : Launch} {y : MethodName} {ws ws' : List Cond} {rm : Room} {D : va_G} {cl : List vw_C} {tys : List (ClassId × FieldType)} {E : (Nat → Prop) → State → Heap → Prop} {as : List Value} {μ : sx_M} {mc ms maxL : Nat} {cc : ByteArray} {ret : Option FieldType} {own : String} {post : sx_M → Prop} {px : String → sx_M → Prop} (hE : sx_Eok E) (hy : plainName y.cls = true) (hw : ws = Cond.code y cc maxL ret :: ws') (hyc : y.cls = own) (hlen : (lg_sl as).length ≤ maxL) (lv : List (Option Value)) (j : Nat) (hlv : lv = sx_args as ++ List.replicate j none)
    (body : ∀ (p : Program) (e : Env) (s : State) (m : MethodId) (below : List Frame) (meth : Method) (c : Code) (A : Nat → Prop), sx_C p s m as.toArray c cc maxL own ws D cl tys E A → meth.sig.returnType = ret → meth.locks = false → (meth.name = y.name) → (∀ x ∈ c.exceptionTable.toList, False) → SW p l e rm s m as.toArray below meth c maxL D cl A 0 0 (vx_MQ below (va_Qv post (sx_B D cl A) A) (sx_XC D cl A px) as.toArray s mc ms A) μ 0 lv []) : sx_Xv l y ws rm D cl tys E as μ post px mc ms :=
  sx_ofX (Qf := fun A => va_Qv post (sx_B D cl A) A) hE hy hw hyc hlen lv j hlv body
theorem sx_ofr {l : Launch} {y : MethodName} {ws ws' : List Cond} {rm : Room} {D : va_G} {cl : List vw_C} {tys : List (ClassId × FieldType)} {E : (Nat → Prop) → State → Heap → Prop} {as : List Value} {μ : sx_M} {mc ms maxL : Nat} {cc : ByteArray} {ret : Option FieldType} {own : String} {post : Nat → sx_M → Prop} (hE : sx_Eok E) (hy : plainName y.cls = true) (hw : ws = Cond.code y cc maxL ret :: ws') (hyc : y.cls = own) (hlen : (lg_sl as).length ≤ maxL) (lv : List (Option Value)) (j : Nat) (hlv : lv = sx_args as ++ List.replicate j none)
    (body : ∀ (p : Program) (e : Env) (s : State) (m : MethodId) (below : List Frame) (meth : Method) (c : Code) (A : Nat → Prop), sx_C p s m as.toArray c cc maxL own ws D cl tys E A → meth.sig.returnType = ret → meth.locks = false → (meth.name = y.name) → SW p l e rm s m as.toArray below meth c maxL D cl A 0 0 (MQ below (sx_Qr post D cl A) as.toArray s mc ms A) μ 0 lv []) : sx_Mr l y ws rm D cl tys E as μ post mc ms :=
  sx_of (Qf := fun A => sx_Qr post D cl A) hE hy hw hyc hlen lv j hlv body
theorem sx_ofXr {l : Launch} {y : MethodName} {ws ws' : List Cond} {rm : Room} {D : va_G} {cl : List vw_C} {tys : List (ClassId × FieldType)} {E : (Nat → Prop) → State → Heap → Prop} {as : List Value} {μ : sx_M} {mc ms maxL : Nat} {cc : ByteArray} {ret : Option FieldType} {own : String} {post : Nat → sx_M → Prop} {px : String → sx_M → Prop} (hE : sx_Eok E) (hy : plainName y.cls = true) (hw : ws = Cond.code y cc maxL ret :: ws') (hyc : y.cls = own) (hlen : (lg_sl as).length ≤ maxL) (lv : List (Option Value)) (j : Nat) (hlv : lv = sx_args as ++ List.replicate j none)
    (body : ∀ (p : Program) (e : Env) (s : State) (m : MethodId) (below : List Frame) (meth : Method) (c : Code) (A : Nat → Prop), sx_C p s m as.toArray c cc maxL own ws D cl tys E A → meth.sig.returnType = ret → meth.locks = false → (meth.name = y.name) → (∀ x ∈ c.exceptionTable.toList, False) → SW p l e rm s m as.toArray below meth c maxL D cl A 0 0 (vx_MQ below (sx_Qr post D cl A) (sx_XC D cl A px) as.toArray s mc ms A) μ 0 lv []) : sx_Xr l y ws rm D cl tys E as μ post px mc ms :=
  sx_ofX (Qf := fun A => sx_Qr post D cl A) hE hy hw hyc hlen lv j hlv body
