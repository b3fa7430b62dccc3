section
-- ===== PART A: goes FIRST, ahead of the names: the tables' words, and 'selects' of the private methods out of them =====
/-- a private method of a class that the tables say can be made, by its rows of tables_1 -/
def lw_okq (q : MethodName × Nat) : Prop := (q.1.cls ≠ "java/lang/invoke/MethodHandle" ∧ q.1.cls ≠ "java/lang/invoke/VarHandle") ∧ Cond.instantiable q.1.cls q.2 ∈ tables_1 ∧ Cond.privateMethod q.1 ∈ tables_1 ∧ Cond.instanceMethod q.1 ∈ tables_1
theorem lw_p0 : lw_okq (⟨"EncodingChecks", "tallyClashesByNeed", "()V"⟩, 8) := ⟨⟨by decide +kernel, by decide +kernel⟩, List.mem_of_getElem? (i := 16) (by decide +kernel), List.mem_of_getElem? (i := 115) (by decide +kernel), List.mem_of_getElem? (i := 116) (by decide +kernel)⟩
theorem lw_p1 : lw_okq (⟨"EncodingChecks", "clash", "(II)Z"⟩, 8) := ⟨⟨by decide +kernel, by decide +kernel⟩, List.mem_of_getElem? (i := 16) (by decide +kernel), List.mem_of_getElem? (i := 122) (by decide +kernel), List.mem_of_getElem? (i := 123) (by decide +kernel)⟩
theorem lw_p2 : lw_okq (⟨"EncodingChecks", "liesIn", "(II)Z"⟩, 8) := ⟨⟨by decide +kernel, by decide +kernel⟩, List.mem_of_getElem? (i := 16) (by decide +kernel), List.mem_of_getElem? (i := 126) (by decide +kernel), List.mem_of_getElem? (i := 127) (by decide +kernel)⟩
theorem lw_p3 : lw_okq (⟨"EncodingChecks", "neededByBoth", "(II)I"⟩, 8) := ⟨⟨by decide +kernel, by decide +kernel⟩, List.mem_of_getElem? (i := 16) (by decide +kernel), List.mem_of_getElem? (i := 130) (by decide +kernel), List.mem_of_getElem? (i := 131) (by decide +kernel)⟩
theorem lw_p4 : lw_okq (⟨"EncodingChecks", "addTalliesOfSubsets", "()V"⟩, 8) := ⟨⟨by decide +kernel, by decide +kernel⟩, List.mem_of_getElem? (i := 16) (by decide +kernel), List.mem_of_getElem? (i := 134) (by decide +kernel), List.mem_of_getElem? (i := 135) (by decide +kernel)⟩
theorem lw_p5 : lw_okq (⟨"EncodingChecks", "wordsOfNone", "()LEncodingChecks$WordSet;"⟩, 8) := ⟨⟨by decide +kernel, by decide +kernel⟩, List.mem_of_getElem? (i := 16) (by decide +kernel), List.mem_of_getElem? (i := 142) (by decide +kernel), List.mem_of_getElem? (i := 143) (by decide +kernel)⟩
theorem lw_p6 : lw_okq (⟨"EncodingChecks$WordSet", "lowWords", "(II)J"⟩, 2) := ⟨⟨by decide +kernel, by decide +kernel⟩, List.mem_of_getElem? (i := 34) (by decide +kernel), List.mem_of_getElem? (i := 153) (by decide +kernel), List.mem_of_getElem? (i := 154) (by decide +kernel)⟩
theorem lw_p7 : lw_okq (⟨"java/lang/Throwable", "fillInStackTrace", "(I)Ljava/lang/Throwable;"⟩, 6) := ⟨⟨by decide +kernel, by decide +kernel⟩, List.mem_of_getElem? (i := 230) (by decide +kernel), List.mem_of_getElem? (i := 228) (by decide +kernel), List.mem_of_getElem? (i := 229) (by decide +kernel)⟩
theorem lw_p8 : lw_okq (⟨"EncodingChecks", "wordsChanged", "(I)V"⟩, 8) := ⟨⟨by decide +kernel, by decide +kernel⟩, List.mem_of_getElem? (i := 16) (by decide +kernel), List.mem_of_getElem? (i := 281) (by decide +kernel), List.mem_of_getElem? (i := 282) (by decide +kernel)⟩
theorem lw_p9 : lw_okq (⟨"EncodingChecks", "requireEncoding", "(I)V"⟩, 8) := ⟨⟨by decide +kernel, by decide +kernel⟩, List.mem_of_getElem? (i := 16) (by decide +kernel), List.mem_of_getElem? (i := 293) (by decide +kernel), List.mem_of_getElem? (i := 294) (by decide +kernel)⟩
theorem lw_p10 : lw_okq (⟨"EncodingChecks", "requireField", "(II)V"⟩, 8) := ⟨⟨by decide +kernel, by decide +kernel⟩, List.mem_of_getElem? (i := 16) (by decide +kernel), List.mem_of_getElem? (i := 313) (by decide +kernel), List.mem_of_getElem? (i := 314) (by decide +kernel)⟩
theorem lw_p11 : lw_okq (⟨"EncodingChecks$WordSet", "keptOfChunk", "(IIIII)J"⟩, 2) := ⟨⟨by decide +kernel, by decide +kernel⟩, List.mem_of_getElem? (i := 34) (by decide +kernel), List.mem_of_getElem? (i := 328) (by decide +kernel), List.mem_of_getElem? (i := 329) (by decide +kernel)⟩
theorem lw_p12 : lw_okq (⟨"EncodingChecks", "requireVariants", "(I)V"⟩, 8) := ⟨⟨by decide +kernel, by decide +kernel⟩, List.mem_of_getElem? (i := 16) (by decide +kernel), List.mem_of_getElem? (i := 356) (by decide +kernel), List.mem_of_getElem? (i := 357) (by decide +kernel)⟩
theorem lw_p13 : lw_okq (⟨"EncodingChecks", "ofPair", "(III)I"⟩, 8) := ⟨⟨by decide +kernel, by decide +kernel⟩, List.mem_of_getElem? (i := 16) (by decide +kernel), List.mem_of_getElem? (i := 369) (by decide +kernel), List.mem_of_getElem? (i := 370) (by decide +kernel)⟩
theorem lw_p14 : lw_okq (⟨"EncodingChecks", "idleBits", "(I)I"⟩, 8) := ⟨⟨by decide +kernel, by decide +kernel⟩, List.mem_of_getElem? (i := 16) (by decide +kernel), List.mem_of_getElem? (i := 406) (by decide +kernel), List.mem_of_getElem? (i := 407) (by decide +kernel)⟩
theorem lw_p15 : lw_okq (⟨"EncodingChecks", "wordsOrNone", "(I)LEncodingChecks$WordSet;"⟩, 8) := ⟨⟨by decide +kernel, by decide +kernel⟩, List.mem_of_getElem? (i := 16) (by decide +kernel), List.mem_of_getElem? (i := 435) (by decide +kernel), List.mem_of_getElem? (i := 436) (by decide +kernel)⟩
def lw_privs_1 : List (MethodName × Nat) := [(⟨"EncodingChecks", "tallyClashesByNeed", "()V"⟩, 8), (⟨"EncodingChecks", "clash", "(II)Z"⟩, 8), (⟨"EncodingChecks", "liesIn", "(II)Z"⟩, 8), (⟨"EncodingChecks", "neededByBoth", "(II)I"⟩, 8), (⟨"EncodingChecks", "addTalliesOfSubsets", "()V"⟩, 8), (⟨"EncodingChecks", "wordsOfNone", "()LEncodingChecks$WordSet;"⟩, 8), (⟨"EncodingChecks$WordSet", "lowWords", "(II)J"⟩, 2), (⟨"java/lang/Throwable", "fillInStackTrace", "(I)Ljava/lang/Throwable;"⟩, 6), (⟨"EncodingChecks", "wordsChanged", "(I)V"⟩, 8), (⟨"EncodingChecks", "requireEncoding", "(I)V"⟩, 8), (⟨"EncodingChecks", "requireField", "(II)V"⟩, 8), (⟨"EncodingChecks$WordSet", "keptOfChunk", "(IIIII)J"⟩, 2), (⟨"EncodingChecks", "requireVariants", "(I)V"⟩, 8), (⟨"EncodingChecks", "ofPair", "(III)I"⟩, 8), (⟨"EncodingChecks", "idleBits", "(I)I"⟩, 8), (⟨"EncodingChecks", "wordsOrNone", "(I)LEncodingChecks$WordSet;"⟩, 8)]
theorem lw_r1 : ∀ q ∈ lw_privs_1, lw_okq q := List.forall_mem_cons.mpr ⟨lw_p0, List.forall_mem_cons.mpr ⟨lw_p1, List.forall_mem_cons.mpr ⟨lw_p2, List.forall_mem_cons.mpr ⟨lw_p3, List.forall_mem_cons.mpr ⟨lw_p4, List.forall_mem_cons.mpr ⟨lw_p5, List.forall_mem_cons.mpr ⟨lw_p6, List.forall_mem_cons.mpr ⟨lw_p7, List.forall_mem_cons.mpr ⟨lw_p8, List.forall_mem_cons.mpr ⟨lw_p9, List.forall_mem_cons.mpr ⟨lw_p10, List.forall_mem_cons.mpr ⟨lw_p11, List.forall_mem_cons.mpr ⟨lw_p12, List.forall_mem_cons.mpr ⟨lw_p13, List.forall_mem_cons.mpr ⟨lw_p14, List.forall_mem_cons.mpr ⟨lw_p15, fun _ h => absurd h List.not_mem_nil⟩⟩⟩⟩⟩⟩⟩⟩⟩⟩⟩⟩⟩⟩⟩⟩
theorem lw_p16 : lw_okq (⟨"EncodingChecks$WordSet", "chunksToNext", "(I)I"⟩, 2) := ⟨⟨by decide +kernel, by decide +kernel⟩, List.mem_of_getElem? (i := 34) (by decide +kernel), List.mem_of_getElem? (i := 448) (by decide +kernel), List.mem_of_getElem? (i := 449) (by decide +kernel)⟩
theorem lw_p17 : lw_okq (⟨"EncodingChecks$WordSet", "allFull", "(II)Z"⟩, 2) := ⟨⟨by decide +kernel, by decide +kernel⟩, List.mem_of_getElem? (i := 34) (by decide +kernel), List.mem_of_getElem? (i := 452) (by decide +kernel), List.mem_of_getElem? (i := 453) (by decide +kernel)⟩
theorem lw_p18 : lw_okq (⟨"EncodingChecks", "liesInAllWith", "(II)Z"⟩, 8) := ⟨⟨by decide +kernel, by decide +kernel⟩, List.mem_of_getElem? (i := 16) (by decide +kernel), List.mem_of_getElem? (i := 487) (by decide +kernel), List.mem_of_getElem? (i := 488) (by decide +kernel)⟩
theorem lw_p19 : lw_okq (⟨"EncodingChecks", "setOfSmaller", "(I)J"⟩, 8) := ⟨⟨by decide +kernel, by decide +kernel⟩, List.mem_of_getElem? (i := 16) (by decide +kernel), List.mem_of_getElem? (i := 499) (by decide +kernel), List.mem_of_getElem? (i := 500) (by decide +kernel)⟩
theorem lw_p20 : lw_okq (⟨"EncodingChecks", "nextInOrder", "(J)I"⟩, 8) := ⟨⟨by decide +kernel, by decide +kernel⟩, List.mem_of_getElem? (i := 16) (by decide +kernel), List.mem_of_getElem? (i := 503) (by decide +kernel), List.mem_of_getElem? (i := 504) (by decide +kernel)⟩
theorem lw_p21 : lw_okq (⟨"EncodingChecksModel", "fails", "(ZZZ)Z"⟩, 17) := ⟨⟨by decide +kernel, by decide +kernel⟩, List.mem_of_getElem? (i := 507) (by decide +kernel), List.mem_of_getElem? (i := 576) (by decide +kernel), List.mem_of_getElem? (i := 577) (by decide +kernel)⟩
theorem lw_p22 : lw_okq (⟨"EncodingChecksModel", "isField", "(II)Z"⟩, 17) := ⟨⟨by decide +kernel, by decide +kernel⟩, List.mem_of_getElem? (i := 507) (by decide +kernel), List.mem_of_getElem? (i := 584) (by decide +kernel), List.mem_of_getElem? (i := 585) (by decide +kernel)⟩
theorem lw_p23 : lw_okq (⟨"EncodingChecksModel", "is", "(I)Z"⟩, 17) := ⟨⟨by decide +kernel, by decide +kernel⟩, List.mem_of_getElem? (i := 507) (by decide +kernel), List.mem_of_getElem? (i := 592) (by decide +kernel), List.mem_of_getElem? (i := 593) (by decide +kernel)⟩
theorem lw_p24 : lw_okq (⟨"EncodingChecksModel", "know", "()V"⟩, 17) := ⟨⟨by decide +kernel, by decide +kernel⟩, List.mem_of_getElem? (i := 507) (by decide +kernel), List.mem_of_getElem? (i := 625) (by decide +kernel), List.mem_of_getElem? (i := 626) (by decide +kernel)⟩
theorem lw_p25 : lw_okq (⟨"EncodingChecksModel", "compare", "(II)V"⟩, 17) := ⟨⟨by decide +kernel, by decide +kernel⟩, List.mem_of_getElem? (i := 507) (by decide +kernel), List.mem_of_getElem? (i := 629) (by decide +kernel), List.mem_of_getElem? (i := 630) (by decide +kernel)⟩
theorem lw_p26 : lw_okq (⟨"EncodingChecksModel", "lowest", "(II)I"⟩, 17) := ⟨⟨by decide +kernel, by decide +kernel⟩, List.mem_of_getElem? (i := 507) (by decide +kernel), List.mem_of_getElem? (i := 637) (by decide +kernel), List.mem_of_getElem? (i := 638) (by decide +kernel)⟩
theorem lw_p27 : lw_okq (⟨"EncodingChecksModel", "has", "(II)Z"⟩, 17) := ⟨⟨by decide +kernel, by decide +kernel⟩, List.mem_of_getElem? (i := 507) (by decide +kernel), List.mem_of_getElem? (i := 641) (by decide +kernel), List.mem_of_getElem? (i := 642) (by decide +kernel)⟩
theorem lw_p28 : lw_okq (⟨"EncodingChecksModel", "clashesIn", "(I)I"⟩, 17) := ⟨⟨by decide +kernel, by decide +kernel⟩, List.mem_of_getElem? (i := 507) (by decide +kernel), List.mem_of_getElem? (i := 653) (by decide +kernel), List.mem_of_getElem? (i := 654) (by decide +kernel)⟩
theorem lw_p29 : lw_okq (⟨"EncodingChecksModel", "idleBits", "(I)I"⟩, 17) := ⟨⟨by decide +kernel, by decide +kernel⟩, List.mem_of_getElem? (i := 507) (by decide +kernel), List.mem_of_getElem? (i := 665) (by decide +kernel), List.mem_of_getElem? (i := 666) (by decide +kernel)⟩
theorem lw_p30 : lw_okq (⟨"EncodingChecksModel", "countOf", "(I)I"⟩, 17) := ⟨⟨by decide +kernel, by decide +kernel⟩, List.mem_of_getElem? (i := 507) (by decide +kernel), List.mem_of_getElem? (i := 677) (by decide +kernel), List.mem_of_getElem? (i := 678) (by decide +kernel)⟩
theorem lw_p31 : lw_okq (⟨"EncodingChecksModel", "lack", "()V"⟩, 17) := ⟨⟨by decide +kernel, by decide +kernel⟩, List.mem_of_getElem? (i := 507) (by decide +kernel), List.mem_of_getElem? (i := 685) (by decide +kernel), List.mem_of_getElem? (i := 686) (by decide +kernel)⟩
def lw_privs_2 : List (MethodName × Nat) := [(⟨"EncodingChecks$WordSet", "chunksToNext", "(I)I"⟩, 2), (⟨"EncodingChecks$WordSet", "allFull", "(II)Z"⟩, 2), (⟨"EncodingChecks", "liesInAllWith", "(II)Z"⟩, 8), (⟨"EncodingChecks", "setOfSmaller", "(I)J"⟩, 8), (⟨"EncodingChecks", "nextInOrder", "(J)I"⟩, 8), (⟨"EncodingChecksModel", "fails", "(ZZZ)Z"⟩, 17), (⟨"EncodingChecksModel", "isField", "(II)Z"⟩, 17), (⟨"EncodingChecksModel", "is", "(I)Z"⟩, 17), (⟨"EncodingChecksModel", "know", "()V"⟩, 17), (⟨"EncodingChecksModel", "compare", "(II)V"⟩, 17), (⟨"EncodingChecksModel", "lowest", "(II)I"⟩, 17), (⟨"EncodingChecksModel", "has", "(II)Z"⟩, 17), (⟨"EncodingChecksModel", "clashesIn", "(I)I"⟩, 17), (⟨"EncodingChecksModel", "idleBits", "(I)I"⟩, 17), (⟨"EncodingChecksModel", "countOf", "(I)I"⟩, 17), (⟨"EncodingChecksModel", "lack", "()V"⟩, 17)]
theorem lw_r2 : ∀ q ∈ lw_privs_2, lw_okq q := List.forall_mem_cons.mpr ⟨lw_p16, List.forall_mem_cons.mpr ⟨lw_p17, List.forall_mem_cons.mpr ⟨lw_p18, List.forall_mem_cons.mpr ⟨lw_p19, List.forall_mem_cons.mpr ⟨lw_p20, List.forall_mem_cons.mpr ⟨lw_p21, List.forall_mem_cons.mpr ⟨lw_p22, List.forall_mem_cons.mpr ⟨lw_p23, List.forall_mem_cons.mpr ⟨lw_p24, List.forall_mem_cons.mpr ⟨lw_p25, List.forall_mem_cons.mpr ⟨lw_p26, List.forall_mem_cons.mpr ⟨lw_p27, List.forall_mem_cons.mpr ⟨lw_p28, List.forall_mem_cons.mpr ⟨lw_p29, List.forall_mem_cons.mpr ⟨lw_p30, List.forall_mem_cons.mpr ⟨lw_p31, fun _ h => absurd h List.not_mem_nil⟩⟩⟩⟩⟩⟩⟩⟩⟩⟩⟩⟩⟩⟩⟩⟩
theorem lw_p32 : lw_okq (⟨"EncodingChecksModel", "rowOf", "(I)I"⟩, 17) := ⟨⟨by decide +kernel, by decide +kernel⟩, List.mem_of_getElem? (i := 507) (by decide +kernel), List.mem_of_getElem? (i := 694) (by decide +kernel), List.mem_of_getElem? (i := 695) (by decide +kernel)⟩
theorem lw_p33 : lw_okq (⟨"EncodingChecksModel", "goOver", "(II)I"⟩, 17) := ⟨⟨by decide +kernel, by decide +kernel⟩, List.mem_of_getElem? (i := 507) (by decide +kernel), List.mem_of_getElem? (i := 698) (by decide +kernel), List.mem_of_getElem? (i := 699) (by decide +kernel)⟩
theorem lw_p34 : lw_okq (⟨"EncodingChecksModel", "isWhole", "(III)Z"⟩, 17) := ⟨⟨by decide +kernel, by decide +kernel⟩, List.mem_of_getElem? (i := 507) (by decide +kernel), List.mem_of_getElem? (i := 702) (by decide +kernel), List.mem_of_getElem? (i := 703) (by decide +kernel)⟩
theorem lw_p35 : lw_okq (⟨"EncodingChecksModel", "isLeast", "(II)Z"⟩, 17) := ⟨⟨by decide +kernel, by decide +kernel⟩, List.mem_of_getElem? (i := 507) (by decide +kernel), List.mem_of_getElem? (i := 714) (by decide +kernel), List.mem_of_getElem? (i := 715) (by decide +kernel)⟩
theorem lw_p36 : lw_okq (⟨"EncodingChecksModel", "waits", "(II)Z"⟩, 17) := ⟨⟨by decide +kernel, by decide +kernel⟩, List.mem_of_getElem? (i := 507) (by decide +kernel), List.mem_of_getElem? (i := 722) (by decide +kernel), List.mem_of_getElem? (i := 723) (by decide +kernel)⟩
def lw_privs_3 : List (MethodName × Nat) := [(⟨"EncodingChecksModel", "rowOf", "(I)I"⟩, 17), (⟨"EncodingChecksModel", "goOver", "(II)I"⟩, 17), (⟨"EncodingChecksModel", "isWhole", "(III)Z"⟩, 17), (⟨"EncodingChecksModel", "isLeast", "(II)Z"⟩, 17), (⟨"EncodingChecksModel", "waits", "(II)Z"⟩, 17)]
theorem lw_r3 : ∀ q ∈ lw_privs_3, lw_okq q := List.forall_mem_cons.mpr ⟨lw_p32, List.forall_mem_cons.mpr ⟨lw_p33, List.forall_mem_cons.mpr ⟨lw_p34, List.forall_mem_cons.mpr ⟨lw_p35, List.forall_mem_cons.mpr ⟨lw_p36, fun _ h => absurd h List.not_mem_nil⟩⟩⟩⟩⟩
def lw_privs : List (MethodName × Nat) := lw_privs_1 ++ (lw_privs_2 ++ (lw_privs_3))
def lw_tbl : List Cond := k2_sels lw_privs ++ tables_1
theorem lw_privs_ok : ∀ q ∈ lw_privs, lw_okq q := by
  show ∀ q ∈ lw_privs_1 ++ (lw_privs_2 ++ (lw_privs_3)), lw_okq q
  exact List.forall_mem_append.mpr ⟨lw_r1, List.forall_mem_append.mpr ⟨lw_r2, lw_r3⟩⟩
/-- arrays whose elements are arrays of t (a word of the tables) -/
def va_AOA (t : FieldType) (U : State) : Prop := (Cond.arrayOver (.array t)).before #[] U = true
theorem va_AOA.use {t : FieldType} {a : Array Value} {U : State} (h : va_AOA t U) : (Cond.arrayOver (.array t)).before a U = true := over_moved (Vm.Alike.refl U.vm) h
theorem va_AOA.of {t : FieldType} {a : Array Value} {U : State} (h : (Cond.arrayOver (.array t)).before a U = true) : va_AOA t U := over_moved (Vm.Alike.refl U.vm) h
theorem va_AOA.moved {t : FieldType} {u U : State} (hvm : u.vm.Alike U.vm) (h : va_AOA t u) : va_AOA t U := over_moved hvm h
/-! ===== BEGIN words of one list among another's, by their places ===== -/
theorem goodIn_r {big : List Cond} (ws : List Cond) (ps : List Nat) (hp : ws = ps.filterMap (fun i => big[i]?)) (h : ws.all goodWord = true) : GoodIn big ws := by
  intro w hw
  have h1 := List.all_eq_true.mp h w hw
  rw [hp] at hw
  obtain ⟨i, -, hi⟩ := List.mem_filterMap.mp hw
  have hm : w ∈ big := by first | exact List.mem_of_getElem? hi | exact List.getElem?_mem hi
  exact ⟨hm, good_of_word h1⟩
theorem goodIn_app {big a b : List Cond} (ha : GoodIn big a) (hb : GoodIn big b) : GoodIn big (a ++ b) := fun w h => (List.mem_append.mp h).elim (ha w) (hb w)
theorem goodIn_ca {big a b : List Cond} {c : Cond} (ha : GoodIn big (c :: a)) (hb : GoodIn big b) : GoodIn big (c :: (a ++ b)) := fun w h => (List.mem_cons.mp h).elim (fun e => ha w (List.mem_cons.mpr (Or.inl e))) (fun h => (List.mem_append.mp h).elim (fun h => ha w (List.mem_cons.mpr (Or.inr h))) (hb w))
theorem goodIn_sub {big ws : List Cond} (hm : ∀ w ∈ ws, w ∈ big) (h : ws.all goodWord = true) : GoodIn big ws := fun w hw => ⟨hm w hw, good_of_word (List.all_eq_true.mp h w hw)⟩
/-! ===== END ===== -/

/-! ===== BEGIN new T[n][m]: the outer array a place, the inner ones among the pooled ===== -/
/-- f, but v at every address of l -/
def vr_up {α : Type} (f : Nat → α) (l : List Nat) (v : α) : Nat → α := fun a => if a ∈ l then v else f a
theorem vr_up_in {α : Type} {f : Nat → α} {l : List Nat} {v : α} {a : Nat} (h : a ∈ l) : vr_up f l v a = v := if_pos h
theorem vr_up_ne {α : Type} {f : Nat → α} {l : List Nat} {v : α} {a : Nat} (h : a ∉ l) : vr_up f l v a = f a := if_neg h
theorem vr_rows {L l : List Nat} {f : Nat → va_E} {e : va_E} (h : ∀ a, a ∈ l → a ∉ L) : va_pl L f ++ l.map (fun a => (a, e)) = va_pl (L ++ l) (vr_up f l e) := by
  unfold va_pl
  rw [List.map_append]
  congr 1
  · apply List.map_congr_left
    intro a ha
    rw [vr_up_ne (fun q => h a q ha)]
  · apply List.map_congr_left
    intro a ha
    rw [vr_up_in ha]
theorem vr_lay {X rows : va_W} {x : Nat × va_E} {pl : va_W} {D : va_G} {cl : List vw_C} {H : Heap} (hP : va_P D cl (((X ++ pl) ++ [x]) ++ rows) H) : va_P D cl ((X ++ [x]) ++ (pl ++ rows)) H := by
  rw [List.append_assoc (X ++ pl)] at hP
  have h := va_P.swap hP
  rw [← List.append_assoc X] at h
  have h2 := va_P.swap h
  rw [List.append_assoc (X ++ [x])] at h2
  exact h2
theorem vr_layD {X rows : va_W} {x : Nat × va_E} {pl : va_W} {A : Nat → Prop} (hD : va_D A (((X ++ pl) ++ [x]) ++ rows)) : va_D A ((X ++ [x]) ++ (pl ++ rows)) := by
  rw [List.append_assoc (X ++ pl)] at hD
  have h := va_D.swap hD
  rw [← List.append_assoc X] at h
  have h2 := va_D.swap h
  rw [List.append_assoc (X ++ [x])] at h2
  exact h2
theorem vr_outer (c : ClassId) (N h0 : Nat) : ∀ i : Nat, Jvm.Free.Multi.outerC c N h0 i = arrV c N (fun j => va_rf (if j < i then some (h0 + 1 + j) else none))
  | 0 => by
    show ({ cls := c, slots := Array.replicate N .null, vm := .none } : Cell) = _
    rw [arrV_new]
    refine congrArg (arrV c N) (funext fun j => ?_)
    simp [va_rf]
  | i + 1 => by
    show (Jvm.Free.Multi.outerC c N h0 i).setSlot i (.ref (h0 + 1 + i)) = _
    rw [vr_outer c N h0 i, arrV_store]
    refine congrArg (arrV c N) (funext fun j => ?_)
    by_cases e : j = i
    · subst e
      simp [updV, va_rf]
    · by_cases h : j < i
      · simp [updV, e, h, Nat.lt_succ_of_lt h]
      · simp [updV, e, h, show ¬ j < i + 1 by omega]
section VGM
variable {p : Program} {l : Launch} {e : Env} {R : Room} {s : State} {m : MethodId} {args : Array Value} {below : List Frame} {meth : Method} {c : Code} {H : Heap} {locs : List Loc} {cells slots : Nat} {Q : State → Prop}
variable {cc : ByteArray} {pc : Nat} {ls : Array Slot} {rest : List Value} {D : va_G} {cl : List vw_C} {A : Nat → Prop} {a : Nat} {tys : List (ClassId × FieldType)} {ws : va_W} {H0 : Heap}
theorem va_mna {X : va_W} {L : List Nat} {f : Nat → va_E} {cc : ByteArray} (hexec : p.tables.exec = Jvm.exec) (hb : c.code = cc) {own : String} {index : Nat} {ty : FieldType} {cy : ClassId} (hown : s.vm.findClass own = some m.cls) (hclink : (Cond.classLink own index ("[" ++ (FieldType.array ty).toString)).before args s = true) (hover : va_AOA ty s) (harr : (Cond.arrayClass ty).before args s = true) (hcy : s.vm.findClass (FieldType.array ty).toString = some cy)
    (hK : va_K D cl tys s) (hP : va_P D cl (X ++ va_pl L f) H) (hD : va_D A (X ++ va_pl L f)) (hS : va_S A H0 H locs) (hA : ∀ q, H0.size ≤ q → A q) {n k : Int32} {N' K' : Nat} {z : vp_A} (hn : ¬ n < 0) (hk : ¬ k < 0) (hN : n.toNatClampNeg = N') (hM : k.toNatClampNeg = K')
    (hb1 : N' * 4 ≤ 536870912) (hb2 : K' * componentBytes ty ≤ 536870912) (hb3 : K' ≤ 536870912) (hdf : fits ty (defaultValue ty) = true) (hdd : (defaultValue ty).isDefault = true) (hcells : cells + (1 + N') ≤ R.cells) (hslots : slots + (N' + N' * K') ≤ R.slots) (hz : ∀ c : ClassId, Jvm.Free.Multi.innerC c K' (defaultValue ty) = vp_cell c z) (hdg : decode cc pc = .ok (.multianewarray index 2, 4))
    (kk : ∀ (q : Nat) (r : Nat → Nat) (cA : ClassId) (H1 : Heap), (∀ i j : Nat, i < N' → j < N' → r i = r j → i = j) → (∀ i : Nat, i < N' → r i ∉ L) → va_K D cl (tys ++ [(cA, .array ty)]) s →
      va_P D cl ((X ++ [(q, .inl (cA, N', .inr (.inr (.inr (.inr (fun i => if i < N' then some (r i) else none))))))]) ++ va_pl (L ++ (List.range N').map r) (vr_up f ((List.range N').map r) (.inl (cy, z)))) H1 → va_D A ((X ++ [(q, .inl (cA, N', .inr (.inr (.inr (.inr (fun i => if i < N' then some (r i) else none))))))]) ++ va_pl (L ++ (List.range N').map r) (vr_up f ((List.range N').map r) (.inl (cy, z)))) → va_S A H0 H1 locs →
      W p l e R s m args below meth c H1 locs (cells + 1 + N') (slots + N' + N' * K') Q (F0 m (pc + 4) ls (.ref q :: rest))) : W p l e R s m args below meth c H locs cells slots Q (F0 m pc ls (.int k :: .int n :: rest)) := by
  subst hN
  subst hM
  intro T hT Xs
  obtain ⟨vm₁, cA, comp, -, fA, fC, hO, -, X', step⟩ := Xs.multianewarray2F hexec hown hclink (va_AOA.use hover) harr (g := F0 m pc ls (.int k :: .int n :: rest)) rfl (by rw [hb]; exact hdg) rfl hn hk hb1 hb2 hb3 hdf hdd hcells hslots
  have ec : some cy = some comp := hcy.symm.trans fC
  cases ec
  generalize hF : Jvm.Free.Multi.fill (T.setVm vm₁) cA cy n.toNatClampNeg k.toNatClampNeg (defaultValue ty) n.toNatClampNeg = F at X' step
  have hTh : (T.setVm vm₁).heap = H := hT
  obtain ⟨f1, f2, -, -⟩ := Jvm.Free.Multi.fill_facts (T.setVm vm₁) cA cy n.toNatClampNeg k.toNatClampNeg (defaultValue ty) n.toNatClampNeg
  rw [hF, hTh] at f1 f2
  have hold : ∀ x : Nat, x < H.size → F.heap[x]? = H[x]? := fun x hx => by
    have := Jvm.Free.Multi.fill_old (T.setVm vm₁) cA cy n.toNatClampNeg k.toNatClampNeg (defaultValue ty) (a := x) (by rw [hTh]; exact hx) n.toNatClampNeg
    rw [hF, hTh] at this
    exact this
  have hrow : ∀ j : Nat, j < n.toNatClampNeg → F.heap[H.size + 1 + j]? = some (vp_cell cy z) := fun j hj => by
    have := Jvm.Free.Multi.fill_inner (T.setVm vm₁) cA cy n.toNatClampNeg k.toNatClampNeg (defaultValue ty) n.toNatClampNeg j hj
    rw [hF, hTh, hz] at this
    exact this
  have hout : Jvm.Free.Multi.outerC cA n.toNatClampNeg H.size n.toNatClampNeg = vp_cell cA (n.toNatClampNeg, .inr (.inr (.inr (.inr (fun i => if i < n.toNatClampNeg then some (H.size + 1 + i) else none))))) := by
    rw [vp_cell_q]
    exact vr_outer cA n.toNatClampNeg H.size n.toNatClampNeg
  rw [hout] at f2
  have hlt : ∀ a, a ∈ L → a < H.size := fun a ha => by
    obtain ⟨k9, hk9⟩ := va_pl_get (X := X) (f := f) ha
    exact (hP k9 _ hk9).lt
  have hnl : ∀ i : Nat, i < n.toNatClampNeg → H.size + 1 + i ∉ L := fun i _ h => by
    have := hlt _ h
    omega
  have hnm : ∀ a, a ∈ (List.range n.toNatClampNeg).map (fun i => H.size + 1 + i) → a ∉ L := fun a ha h => by
    obtain ⟨i, -, rfl⟩ := List.mem_map.mp ha
    have := hlt _ h
    omega
  have hP0 : va_P D cl (X ++ va_pl L f) F.heap := hP.kept (fun k9 x hx => hold x.1 ((hP k9 x hx).lt))
  have hP1 : va_P D cl ((X ++ va_pl L f) ++ [(H.size, .inl (cA, n.toNatClampNeg, .inr (.inr (.inr (.inr (fun i => if i < n.toNatClampNeg then some (H.size + 1 + i) else none))))))]) F.heap := hP0.app (fun k9 x hx => by
    have h0 : k9 < 1 := (List.getElem?_eq_some_iff.mp hx).1
    rw [show k9 = 0 by omega] at hx
    cases hx
    exact f2)
  have hP2 : va_P D cl (((X ++ va_pl L f) ++ [(H.size, .inl (cA, n.toNatClampNeg, .inr (.inr (.inr (.inr (fun i => if i < n.toNatClampNeg then some (H.size + 1 + i) else none))))))]) ++ ((List.range n.toNatClampNeg).map (fun i => H.size + 1 + i)).map (fun a => (a, .inl (cy, z)))) F.heap := hP1.app (fun k9 x hx => by
    obtain ⟨a, ha, rfl⟩ := List.mem_map.mp (List.mem_of_getElem? hx)
    obtain ⟨i, hi, rfl⟩ := List.mem_map.mp ha
    exact hrow i (List.mem_range.mp hi))
  have hD2 : va_D A (((X ++ va_pl L f) ++ [(H.size, .inl (cA, n.toNatClampNeg, .inr (.inr (.inr (.inr (fun i => if i < n.toNatClampNeg then some (H.size + 1 + i) else none))))))]) ++ ((List.range n.toNatClampNeg).map (fun i => H.size + 1 + i)).map (fun a => (a, .inl (cy, z)))) := by
    have hD1 := hD.push (e := .inl (cA, n.toNatClampNeg, .inr (.inr (.inr (.inr (fun i => if i < n.toNatClampNeg then some (H.size + 1 + i) else none)))))) hP rfl (hA _ hS.1)
    generalize hW1 : (X ++ va_pl L f) ++ [(H.size, .inl (cA, n.toNatClampNeg, .inr (.inr (.inr (.inr (fun i => if i < n.toNatClampNeg then some (H.size + 1 + i) else none))))))] = W1 at hD1 hP1 ⊢
    have hle : ∀ (k9 : Nat) (x : Nat × va_E), W1[k9]? = some x → x.1 ≤ H.size := fun k9 x hx => by
      rw [← hW1] at hx
      by_cases hl : k9 < (X ++ va_pl L f).length
      · rw [List.getElem?_append_left hl] at hx
        exact Nat.le_of_lt ((hP k9 x hx).lt)
      · rw [List.getElem?_append_right (by omega)] at hx
        have h0 : k9 - (X ++ va_pl L f).length < 1 := (List.getElem?_eq_some_iff.mp hx).1
        rw [show k9 - (X ++ va_pl L f).length = 0 by omega] at hx
        cases hx
        exact Nat.le_refl _
    have hr : ∀ (k9 : Nat) (x : Nat × va_E), (((List.range n.toNatClampNeg).map (fun i => H.size + 1 + i)).map (fun a => ((a, .inl (cy, z)) : Nat × va_E)))[k9]? = some x → x.1 = H.size + 1 + k9 := fun k9 x hx => by
      rw [List.getElem?_map, List.getElem?_map] at hx
      by_cases h9 : k9 < n.toNatClampNeg
      · rw [List.getElem?_range h9] at hx
        cases hx
        rfl
      · have hn0 : (List.range n.toNatClampNeg)[k9]? = none := List.getElem?_eq_none (by rw [List.length_range]; omega)
        rw [hn0] at hx
        cases hx
    refine ⟨fun i j x y hi hj hxy => ?_, fun k9 x hx => ?_⟩
    · by_cases h1 : i < W1.length <;> by_cases h2 : j < W1.length
      · rw [List.getElem?_append_left h1] at hi
        rw [List.getElem?_append_left h2] at hj
        exact hD1.1 i j x y hi hj hxy
      · rw [List.getElem?_append_left h1] at hi
        rw [List.getElem?_append_right (by omega)] at hj
        have := hle _ _ hi
        have := hr _ _ hj
        omega
      · rw [List.getElem?_append_right (by omega)] at hi
        rw [List.getElem?_append_left h2] at hj
        have := hle _ _ hj
        have := hr _ _ hi
        omega
      · rw [List.getElem?_append_right (by omega)] at hi hj
        have := hr _ _ hi
        have := hr _ _ hj
        omega
    · by_cases h1 : k9 < W1.length
      · rw [List.getElem?_append_left h1] at hx
        exact hD1.2 k9 x hx
      · rw [List.getElem?_append_right (by omega)] at hx
        have := hr _ _ hx
        exact hA _ (by have := hS.1; omega)
  have hAr : ArrOfT s cA (.array ty) := fun N9 z9 => by
    obtain ⟨-, k9, hk9, cm9, hkk9⟩ := (hO 0 0 0).1
    exact ⟨(fun q hq => by cases hq), k9, hk9, cm9, hkk9⟩
  have hK2 : va_K D cl (tys ++ [(cA, .array ty)]) s := ⟨hK.1, fun k9 x hx => by
    by_cases hl : k9 < tys.length
    · rw [List.getElem?_append_left hl] at hx
      exact hK.2 k9 x hx
    · rw [List.getElem?_append_right (by omega)] at hx
      have h0 : k9 - tys.length < 1 := (List.getElem?_eq_some_iff.mp hx).1
      rw [show k9 - tys.length = 0 by omega] at hx
      cases hx
      exact ⟨hAr, fA⟩⟩
  obtain ⟨t, a1, b1⟩ := kk H.size (fun i => H.size + 1 + i) cA F.heap (fun i j _ _ h => by have h9 : H.size + 1 + i = H.size + 1 + j := h; omega) hnl hK2 (by rw [← vr_rows hnm]; exact vr_lay hP2) (by rw [← vr_rows hnm]; exact vr_layD hD2) ⟨by rw [f1]; have := hS.1; omega, fun x h1 h2 => (hold x (Nat.lt_of_lt_of_le h1 hS.1)).trans (hS.2.1 x h1 h2), hS.2.2⟩ F rfl X'
  refine ⟨t, step t ?_, b1⟩
  have e : T.heap.size = H.size := by rw [hT]
  rw [e]
  exact a1
end VGM
/-! ===== END ===== -/

/-! ===== BEGIN exceptions that leave a method, and their catching by the caller (launches without stack traces) ===== -/
section VXA
/-! The laws vx_back, vx_callV, vx_callS, vx_callSW, vx_throw0, vx_throwS follow proofs of the library, with one case more: JvmDerived/Free/Laws.lean (Back.of_free), Shelf42/LK1.lean (callV, callS), Shelf/KitTraced.lean (throwNew0V, throwNewS). -/
/-- where a method has thrown q: the class by its name, the cell, what was written, the world -/
def vx_T (XC : String → State → State → Prop) (st : State) (q : Addr) (t : State) (mc ms : Nat) (free : Addr → Prop) : Prop :=
  ∃ (E : String) (ce : Cell) (L : List Loc), XC E st t ∧ t.heap[q]? = some ce ∧ ce.vm = .none ∧ st.vm.findClass E = some ce.cls ∧ st.WarmedH t.vm ∧ st.sameButNew ({ t with vm := st.vm } : State) L mc ms ∧ ∀ z ∈ L, free z.base
def vx_Q (Qc : Array Value → State → Outcome → State → Prop) (XC : String → State → State → Prop) (mc ms : Nat) (free : Addr → Prop) : Array Value → State → Outcome → State → Prop := fun a st o t =>
  (Qc a st o t ∧ ∃ L, FrameEnd st o t L mc ms ∧ ∀ q ∈ L, free q.base) ∨ ∃ q, o = .threw q ∧ vx_T XC st q t mc ms free
/-- a callee that returns or throws -/
def vx_Met (l : Launch) (y : MethodName) (ws : List Cond) (rm : Room) (Pc : Array Value → State → Prop) (Qc : Array Value → State → Outcome → State → Prop) (XC : String → State → State → Prop) (mc ms : Nat) (free : Addr → Prop) : Prop :=
  MetFree l y (headSpec ws rm) Pc (fun _ _ _ _ _ => True) (vx_Q Qc XC mc ms free)
def vx_Post (XC : String → State → State → Prop) (mc ms : Nat) (free : Addr → Prop) : Pt → Array Value → Addr → Pt → Prop := fun A a q B =>
  ∃ (g : JFrame) (mk : MethodId) (t : State) (L : List Loc) (E : String) (ce : Cell), B.U.heap = t.heap ∧ B.U.vm = t.vm ∧ XC E (A.U.calling g mk a) t ∧ t.heap[q]? = some ce ∧ ce.vm = .none ∧ A.U.vm.findClass E = some ce.cls ∧ B.locs = A.locs ++ L ∧ (∀ z ∈ L, free z.base) ∧ B.cells = A.cells + mc ∧ B.slots = A.slots + ms
def vx_Back (l : Launch) (R : Room) (p : Program) (e : Env) (below : List Frame) (s : State) (sargs : Array Value) (y : MethodName) (len W9 : Nat)
    (Pre : Pt → Array Value → Prop) (Post : Pt → Array Value → Option Value → Pt → Prop) (PostX : Pt → Array Value → Addr → Pt → Prop) : Prop :=
  ∀ (m : MethodId) (meth : Method) (c : Code) (A : Pt) (g : JFrame) (ig : Instr) (mk : MethodId) (a : Array Value),
    Stand p l e R s m sargs below meth c A.U A.locs A.cells A.slots → g.method = m → g.locals.size = c.maxLocals → decode c.code g.pc = .ok (ig, len) →
    2 * g.monitorRoom + (g.stack.map fun v => v.category).sum ≤ W9 → A.U.methodNamed? y = some mk → Pre A a →
    (∃ (v : Option Value) (B : Pt), Stand p l e R s m sargs below meth c B.U B.locs B.cells B.slots ∧ Post A a v B ∧
      Steps p.tables e below (doInvoke e (A.U.setTop g) [] mk a).1 (B.U.setTop { g with pc := g.pc + len, stack := v.toList ++ g.stack })) ∨
    (∃ (q : Addr) (B : Pt), Stand p l e R s m sargs below meth c B.U B.locs B.cells B.slots ∧ PostX A a q B ∧
      Steps p.tables e below (doInvoke e (A.U.setTop g) [] mk a).1 ((B.U.setTop g).pushFrame (.throwing q)))
section Payer
variable {l : Launch} {R : Room} {p : Program} {e : Env} {below : List Frame} {s : State} {sargs : Array Value} {y : MethodName} {len W9 : Nat}
theorem vx_back {ws : List Cond} {rm : Room} {Pc : Array Value → State → Prop} {Qc : Array Value → State → Outcome → State → Prop} {XC : String → State → State → Prop} {mc ms : Nat} {free : Addr → Prop} {bytes : ByteArray} {maxL : Nat} {ret : Option FieldType}
    (hM : vx_Met l y ws rm Pc Qc XC mc ms free) (hblind : FrameBlind Pc) (hrc : rm.cells = mc) (hrs : rm.slots = ms)
    (hframes : rm.frames + 1 ≤ R.frames) (hlocals : W9 + (maxL + 11) + rm.locals ≤ R.locals)
    (hws : ∀ w ∈ ws, ∀ a' U, s.WarmedH U.vm → w.before a' U = true) (hcode : Cond.code y bytes maxL ret ∈ ws) (hinit : ∀ a' U, s.WarmedH U.vm → (Cond.initialized y.cls).before a' U = true) :
    vx_Back l R p e below s sargs y len W9 (PreOf R mc ms Pc) (PostOf Qc mc ms free) (vx_Post XC mc ms free) := by
  intro m meth c A g ig mk a X hg hsize hdg hW hn hp
  have h1 : (headSpec ws rm).pre.before a A.U = true := atoms_intro fun w hw => hws w hw _ _ X.warmed
  have h2 : (Cond.code y bytes maxL ret).before a A.U = true := hws _ hcode _ _ X.warmed
  have h3 : (Cond.initialized y.cls).before a A.U = true := hinit _ _ X.warmed
  have h4 : A.cells + (headSpec ws rm).room.cells ≤ R.cells := by rw [show (headSpec ws rm).room.cells = mc from hrc]; exact hp.1
  have h5 : A.slots + (headSpec ws rm).room.slots ≤ R.slots := by rw [show (headSpec ws rm).room.slots = ms from hrs]; exact hp.2.1
  have hPc : Pc a (A.U.calling g mk a) := hblind _ _ _ _ hp.2.2
  obtain ⟨U, Ls, c0, s0⟩ := A
  dsimp only [Pt.U, Pt.locs, Pt.cells, Pt.slots] at h1 h2 h3 h4 h5 X hn hPc ⊢
  obtain ⟨methY, cY, hmY, hcY, -, hlY, -, -, -, -⟩ := Cond.code_spec hn h2
  obtain ⟨kY, hkY, -⟩ := className_of_methodNamed hn
  have hinitY : kY.init = .initialized := Cond.initialized_spec (findClass_of_methodNamed hn) hkY h3
  have h : At U g.method c below := by rw [hg]; exact X.here
  have hlocals9 : W9 + (maxL + 11) + (headSpec ws rm).room.locals ≤ R.locals := hlocals
  have happ : (headSpec ws rm).appliesLoose y e.platform (U.calling g mk a) = true :=
    Spec.appliesLoose_calling (g := g) h hdg hn hkY hinitY
      (X.room_calling (g := g) (R' := (headSpec ws rm).room) hsize hmY hcY hframes (by rw [hlY]; omega) h4 h5) h1
  obtain ⟨mid, hmid⟩ := h.above
  have hfr : (U.setTop g).frames = (.java g :: mid) ++ below := by rw [State.frames_setTop' g h.top, hmid]; rfl
  obtain ⟨o, s₂, hsteps, -, hend, hq⟩ := Steps.callFree hM p X.admits X.cas X.clock (acts := []) hfr happ hPc trivial
  have hq' : vx_Q Qc XC mc ms free a (U.calling g mk a) o s₂ := hq
  rw [State.frames_setTop' g h.top] at hend
  obtain ⟨g₀, hg0⟩ := Option.isSome_iff_exists.mp h.top
  obtain ⟨r, hr⟩ := State.topJava?_eq_some.mp hg0
  have hr' : (({ U with heap := s₂.heap, slotsUsed := s₂.slotsUsed } : State).setVm s₂.vm).frames = .java g₀ :: r := hr
  rcases hq' with ⟨hqc, L, hfe, hL⟩ | ⟨q, rfl, E, ce, L, hx, hce, hcv, hcl, hW₂, hsm, hL⟩
  · obtain ⟨⟨v, rfl⟩, hW₂, e2, q2, q3, q4, q5, q6⟩ := id hfe
    have e3 : s₂ = ({ (U.calling g mk a).setFrames s₂.frames with heap := s₂.heap, slotsUsed := s₂.slotsUsed } : State).setVm s₂.vm := by
      have : s₂ = ({ s₂ with vm := (U.calling g mk a).vm } : State).setVm s₂.vm := rfl
      rw [e2] at this
      exact this
    obtain ⟨c₂, i₂, len₂, hc₂, hd₂, hf₂⟩ := hend
    have hW' : U.WarmedH s₂.vm := hW₂
    have hcc : c₂ = c := by
      have h1 : s₂.code? g.method = U.code? g.method := by
        rw [State.code?_eq, State.code?_eq, hW'.alike.method?]
      exact Option.some.inj (hc₂.symm.trans (h1.trans h.code))
    subst hcc
    have hlen : len₂ = len := by rw [hdg] at hd₂; cases hd₂; rfl
    subst hlen
    have hs₂ : s₂ = (({ U with heap := s₂.heap, slotsUsed := s₂.slotsUsed } : State).setVm s₂.vm).setTop { g with pc := g.pc + len₂, stack := v.toList ++ g.stack } := by
      refine e3.trans ?_
      rw [hf₂, State.calling_eq h.top, State.setFrames_setFrames, State.setTop_of_frames _ hr', hr]
      rfl
    have hsame : U.sameButNew ({ U with heap := s₂.heap, slotsUsed := s₂.slotsUsed } : State) L mc ms := by
      refine ⟨?_, q2, q3, q4, q5, q6⟩
      obtain ⟨t, ht, -⟩ := State.frames_cons hr
      show ({ U with heap := s₂.heap, slotsUsed := s₂.slotsUsed } : State) = { U.setFrames U.frames with heap := s₂.heap, slotsUsed := s₂.slotsUsed }
      rw [State.setFrames_self ht]
    subst hg
    refine Or.inl ⟨v, ⟨(({ U with heap := s₂.heap, slotsUsed := s₂.slotsUsed } : State).setVm s₂.vm), Ls ++ L, c0 + mc, s0 + ms⟩,
      ⟨X.admits, X.cas, X.clock, X.frames, X.room, X.hears, X.method, X.code, (X.here.setHeapUsed s₂.heap s₂.slotsUsed).setVm hW'.alike, X.tail, State.WarmedH.trans X.warmed hW', X.limits, X.bytes, X.same.trans (hsame.setVm s.vm)⟩,
      ⟨g, mk, s₂, L, rfl, rfl, hqc, rfl, hL, rfl, rfl⟩, ?_⟩
    show Steps p.tables e below _ ((({ U with heap := s₂.heap, slotsUsed := s₂.slotsUsed } : State).setVm s₂.vm).setTop { g with pc := g.pc + len₂, stack := v.toList ++ g.stack })
    rw [← hs₂]
    exact hsteps
  · obtain ⟨e2, q2, q3, q4, q5, q6⟩ := id hsm
    have e3 : s₂ = ({ (U.calling g mk a).setFrames s₂.frames with heap := s₂.heap, slotsUsed := s₂.slotsUsed } : State).setVm s₂.vm := by
      have : s₂ = ({ s₂ with vm := (U.calling g mk a).vm } : State).setVm s₂.vm := rfl
      rw [e2] at this
      exact this
    have hf₂ : s₂.frames = .throwing q :: .java g :: U.frames.tail := hend
    have hW' : U.WarmedH s₂.vm := hW₂
    have hs₂ : s₂ = ((({ U with heap := s₂.heap, slotsUsed := s₂.slotsUsed } : State).setVm s₂.vm).setTop g).pushFrame (.throwing q) := by
      refine e3.trans ?_
      rw [hf₂, State.calling_eq h.top, State.setFrames_setFrames, State.pushFrame, State.frames_setTop _ hr', State.setTop_of_frames _ hr', State.setFrames_setFrames, hr]
      rfl
    have hsame : U.sameButNew ({ U with heap := s₂.heap, slotsUsed := s₂.slotsUsed } : State) L mc ms := by
      refine ⟨?_, q2, q3, q4, q5, q6⟩
      obtain ⟨t, ht, -⟩ := State.frames_cons hr
      show ({ U with heap := s₂.heap, slotsUsed := s₂.slotsUsed } : State) = { U.setFrames U.frames with heap := s₂.heap, slotsUsed := s₂.slotsUsed }
      rw [State.setFrames_self ht]
    subst hg
    refine Or.inr ⟨q, ⟨(({ U with heap := s₂.heap, slotsUsed := s₂.slotsUsed } : State).setVm s₂.vm), Ls ++ L, c0 + mc, s0 + ms⟩,
      ⟨X.admits, X.cas, X.clock, X.frames, X.room, X.hears, X.method, X.code, (X.here.setHeapUsed s₂.heap s₂.slotsUsed).setVm hW'.alike, X.tail, State.WarmedH.trans X.warmed hW', X.limits, X.bytes, X.same.trans (hsame.setVm s.vm)⟩,
      ⟨g, mk, s₂, L, E, ce, rfl, rfl, hx, hce, hcv, hcl, rfl, hL, rfl, rfl⟩, ?_⟩
    show Steps p.tables e below _ (((({ U with heap := s₂.heap, slotsUsed := s₂.slotsUsed } : State).setVm s₂.vm).setTop g).pushFrame (.throwing q))
    rw [← hs₂]
    exact hsteps
end Payer
section Calls
variable {p : Program} {l : Launch} {e : Env} {R : Room} {s : State} {m : MethodId} {args : Array Value} {below : List Frame} {meth : Method} {c : Code} {T : State} {locs : List Loc} {cells slots : Nat}
theorem vx_callV (X : Stand p l e R s m args below meth c T locs cells slots) (hexec : p.tables.exec = Jvm.exec) {own C : String} {index : Nat} {y : MethodName} {bytes : ByteArray} {maxL : Nat} {ret : Option FieldType}
    (hown : s.vm.findClass own = some m.cls) (hlink : (Cond.methodLink own index y).before args s = true) (hinst : (Cond.instanceMethod y).before args s = true) (hsel : (Cond.selects C y y).before args s = true)
    (hcode : (Cond.code y bytes maxL ret).before args s = true) (hy : y.cls ≠ "java/lang/invoke/MethodHandle" ∧ y.cls ≠ "java/lang/invoke/VarHandle")
    {W9 : Nat} {Pre : Pt → Array Value → Prop} {Post : Pt → Array Value → Option Value → Pt → Prop} {PostX : Pt → Array Value → Addr → Pt → Prop} (hK : vx_Back l R p e below s args y 3 W9 Pre Post PostX)
    {b : Addr} {cellB : Cell} (hcell : T.heap[b]? = some cellB) (hobj : cellB.vm.isStatics = false) (hcls : s.vm.findClass C = some cellB.cls)
    {g : JFrame} (hg : g.method = m) (hsize : g.locals.size = c.maxLocals) {argsL rest : List Value} (hlen : ∀ sig, parseMethodDescriptor y.desc = some sig → argsL.length = sig.parameters.length)
    (hstack : g.stack = argsL.reverse ++ .ref b :: rest) (hW : 2 * g.monitorRoom + (rest.map fun v => v.category).sum ≤ W9) (hdg : decode c.code g.pc = .ok (.invokevirtual index, 3))
    (hpre : ∀ vm₁, s.WarmedH vm₁ → Pre ⟨T.setVm vm₁, locs, cells, slots⟩ (Value.ref b :: argsL).toArray) :
    (∃ (v : Option Value) (vm₁ : Vm) (B : Pt), s.WarmedH vm₁ ∧ Stand p l e R s m args below meth c B.U B.locs B.cells B.slots ∧ Post ⟨T.setVm vm₁, locs, cells, slots⟩ (Value.ref b :: argsL).toArray v B ∧
      ∀ target, Steps p.tables e below (B.U.setTop { g with pc := g.pc + 3, stack := v.toList ++ rest }) target → Steps p.tables e below (T.setTop g) target) ∨
    (∃ (q : Addr) (vm₁ : Vm) (B : Pt), s.WarmedH vm₁ ∧ Stand p l e R s m args below meth c B.U B.locs B.cells B.slots ∧ PostX ⟨T.setVm vm₁, locs, cells, slots⟩ (Value.ref b :: argsL).toArray q B ∧
      Steps p.tables e below (T.setTop g) ((B.U.setTop { g with stack := rest }).pushFrame (.throwing q))) := by
  obtain ⟨mk, methM, hnamed, hmethM, hstM, habM⟩ := Cond.instanceMethod_spec hinst
  obtain ⟨methM', cM, hmethM', -, -, -, -, -, -, hsigM⟩ := Cond.code_spec hnamed hcode
  cases hmethM.symm.trans hmethM'
  obtain ⟨c2, r2, m2, q1, q2, q3, q4, kP, hkP, hkPi⟩ := Cond.selects_spec hsel
  cases hcls.symm.trans q1
  cases (State.methodFound?_of_named hnamed hy).symm.trans q2
  cases hnamed.symm.trans q3
  have hselP : selectMethod e.platform s.vm cellB.cls mk = .method mk := by rw [Launch.admits_selectMethod X.admits]; exact q4
  obtain ⟨vm₁, X₁, hstep₁⟩ := X.invokevirtual hexec hown hlink hnamed hmethM hstM hkP hkPi hy (a := b) (cell := cellB) hcell
    (fun z h => by rw [h] at hobj; cases hobj) hselP hmethM habM hkP hkPi (g := g) hg (argsL := argsL) (rest := rest) (hlen _ hsigM) hstack hdg
  rcases hK m meth c ⟨T.setVm vm₁, locs, cells, slots⟩ { g with stack := rest } (.invokevirtual index) mk (Value.ref b :: argsL).toArray X₁ hg hsize hdg hW (X₁.named hnamed) (hpre vm₁ X₁.warmed) with ⟨v, B, X', hpost, hsteps⟩ | ⟨q, B, X', hpost, hsteps⟩
  · exact Or.inl ⟨v, vm₁, B, X₁.warmed, X', hpost, fun target h => hstep₁ _ fun acts => by rw [doInvoke_state]; exact hsteps.trans h⟩
  · exact Or.inr ⟨q, vm₁, B, X₁.warmed, X', hpost, hstep₁ _ fun acts => by rw [doInvoke_state]; exact hsteps⟩
theorem vx_callS (X : Stand p l e R s m args below meth c T locs cells slots) (hexec : p.tables.exec = Jvm.exec) {own : String} {index : Nat} {y : MethodName} {bytes : ByteArray} {maxL : Nat} {ret : Option FieldType}
    (hown : s.vm.findClass own = some m.cls) (hlink : (Cond.methodLink own index y).before args s = true) (hstat : (Cond.static y).before args s = true) (hinit : (Cond.initialized y.cls).before args s = true)
    (hcode : (Cond.code y bytes maxL ret).before args s = true) (hy : y.cls ≠ "java/lang/invoke/MethodHandle" ∧ y.cls ≠ "java/lang/invoke/VarHandle")
    {W9 : Nat} {Pre : Pt → Array Value → Prop} {Post : Pt → Array Value → Option Value → Pt → Prop} {PostX : Pt → Array Value → Addr → Pt → Prop} (hK : vx_Back l R p e below s args y 3 W9 Pre Post PostX)
    {g : JFrame} (hg : g.method = m) (hsize : g.locals.size = c.maxLocals) {argsL rest : List Value} (hlen : ∀ sig, parseMethodDescriptor y.desc = some sig → argsL.length = sig.parameters.length)
    (hstack : g.stack = argsL.reverse ++ rest) (hW : 2 * g.monitorRoom + (rest.map fun v => v.category).sum ≤ W9) (hdg : decode c.code g.pc = .ok (.invokestatic index, 3))
    (hpre : ∀ vm₁, s.WarmedH vm₁ → Pre ⟨T.setVm vm₁, locs, cells, slots⟩ argsL.toArray) :
    (∃ (v : Option Value) (vm₁ : Vm) (B : Pt), s.WarmedH vm₁ ∧ Stand p l e R s m args below meth c B.U B.locs B.cells B.slots ∧ Post ⟨T.setVm vm₁, locs, cells, slots⟩ argsL.toArray v B ∧
      ∀ target, Steps p.tables e below (B.U.setTop { g with pc := g.pc + 3, stack := v.toList ++ rest }) target → Steps p.tables e below (T.setTop g) target) ∨
    (∃ (q : Addr) (vm₁ : Vm) (B : Pt), s.WarmedH vm₁ ∧ Stand p l e R s m args below meth c B.U B.locs B.cells B.slots ∧ PostX ⟨T.setVm vm₁, locs, cells, slots⟩ argsL.toArray q B ∧
      Steps p.tables e below (T.setTop g) ((B.U.setTop { g with stack := rest }).pushFrame (.throwing q))) := by
  obtain ⟨mk, hnamed⟩ := Cond.code_named hcode
  obtain ⟨methM, cM, hmethM, -, -, -, -, -, -, hsigM⟩ := Cond.code_spec hnamed hcode
  have hstatic : methM.isStatic = true := Cond.static_spec hnamed hmethM hstat
  obtain ⟨kP, hkP, -⟩ := className_of_methodNamed hnamed
  have hinitP : kP.init = .initialized := Cond.initialized_spec (findClass_of_methodNamed hnamed) hkP hinit
  obtain ⟨vm₁, X₁, hstep₁⟩ := X.invokestatic hexec hown hlink hnamed hmethM hstatic hkP hinitP hy (g := g) hg (argsL := argsL) (rest := rest) (hlen _ hsigM) hstack hdg
  rcases hK m meth c ⟨T.setVm vm₁, locs, cells, slots⟩ { g with stack := rest } (.invokestatic index) mk argsL.toArray X₁ hg hsize hdg hW (X₁.named hnamed) (hpre vm₁ X₁.warmed) with ⟨v, B, X', hpost, hsteps⟩ | ⟨q, B, X', hpost, hsteps⟩
  · exact Or.inl ⟨v, vm₁, B, X₁.warmed, X', hpost, fun target h => hstep₁ _ fun acts => by rw [doInvoke_state]; exact hsteps.trans h⟩
  · exact Or.inr ⟨q, vm₁, B, X₁.warmed, X', hpost, hstep₁ _ fun acts => by rw [doInvoke_state]; exact hsteps⟩
end Calls
theorem vx_cls {s : State} {T : State} {vm₁ : Vm} {E : String} {k : ClassId} (hW : s.WarmedH vm₁) (h : (T.setVm vm₁).vm.findClass E = some k) : s.vm.findClass E = some k := by
  have h1 : vm₁.findClass E = some k := h
  rw [hW.alike.findClass] at h1
  exact h1
/-- the method's frame g, with q thrown over it -/
def vx_W (p : Program) (l : Launch) (e : Env) (R : Room) (s : State) (m : MethodId) (args : Array Value) (below : List Frame) (meth : Method) (c : Code) (H : Heap) (locs : List Loc) (cells slots : Nat) (Q : State → Prop) (g : JFrame) (q : Addr) : Prop :=
  ∀ T : State, T.heap = H → Stand p l e R s m args below meth c T locs cells slots → ∃ t, Steps p.tables e below ((T.setTop g).pushFrame (.throwing q)) t ∧ Q t
def vx_Run (p : Program) (l : Launch) (e : Env) (R : Room) (s : State) (m : MethodId) (args : Array Value) (below : List Frame) (meth : Method) (c : Code) (H : Heap) (locs : List Loc) (cells slots mc ms : Nat) (g : JFrame) (rest : List Value) (Qa : State → Outcome → State → Prop) (XC : String → State → State → Prop) (free : Addr → Prop) : Prop :=
  ∀ T : State, T.heap = H → Stand p l e R s m args below meth c T locs cells slots →
    (∃ (v : Option Value) (st₀ t T' : State) (L : List Loc), st₀.heap = H ∧ Stand p l e R s m args below meth c T' (locs ++ L) (cells + mc) (slots + ms) ∧ (∀ q ∈ L, free q.base) ∧ T'.heap = t.heap ∧ T'.vm = t.vm ∧ Qa st₀ (.returned v) t ∧
      Goes p e below T g T' { g with pc := g.pc + 3, stack := v.toList ++ rest }) ∨
    (∃ (q : Addr) (st₀ t T' : State) (L : List Loc) (E : String) (ce : Cell), st₀.heap = H ∧ Stand p l e R s m args below meth c T' (locs ++ L) (cells + mc) (slots + ms) ∧ (∀ z ∈ L, free z.base) ∧ T'.heap = t.heap ∧ T'.vm = t.vm ∧ XC E st₀ t ∧ t.heap[q]? = some ce ∧ ce.vm = .none ∧ s.vm.findClass E = some ce.cls ∧
      Steps p.tables e below (T.setTop g) ((T'.setTop { g with stack := rest }).pushFrame (.throwing q)))
def vx_X {S : Type} (px : S → Prop) (B : String → S → State → Prop) (A : Nat → Prop) : String → State → State → Prop := fun E st t => ∃ u : S, px u ∧ B E u t ∧ va_F A st t
section Runs
variable {p : Program} {l : Launch} {e : Env} {R : Room} {s : State} {m : MethodId} {args : Array Value} {below : List Frame} {meth : Method} {c : Code} {H : Heap} {locs : List Loc} {cells slots : Nat}
variable {y : MethodName} {bytes cc : ByteArray} {maxL nL mc ms n index : Nat} {ret : Option FieldType} {ws : List Cond} {rm : Room} {Pc : Array Value → State → Prop} {Qc : Array Value → State → Outcome → State → Prop} {XC : String → State → State → Prop} {free : Addr → Prop} {Ts : List Cond} {own C : String} {b : Addr} {As rest : List Value} {g : JFrame}
theorem vx_callBack (cb : CallB R s args own index y bytes maxL ret ws rm mc ms n) (hM : vx_Met l y ws rm Pc Qc XC mc ms free) (hbl : FrameBlind Pc) : vx_Back l R p e below s args y 3 8 (PreOf R mc ms Pc) (PostOf Qc mc ms free) (vx_Post XC mc ms free) := by
  obtain ⟨hrc, hrs, hfr, hlo, hws, hcw, -, hini, -⟩ := cb
  exact vx_back (bytes := bytes) (maxL := maxL) (ret := ret) hM hbl hrc hrs hfr hlo hws hcw (fun a' U hW => word_at hW (Or.inl (by first | rfl | simp [Cond.onTables, Cond.keeps, Cond.steady])) hini)
theorem vx_runV (S : CallFix p m c cc nL s args Ts own) (hM : vx_Met l y ws rm Pc Qc XC mc ms free) (cw : CallW R s args own C index y bytes maxL ret ws rm mc ms n) (hp : PreV s H C b Pc As)
    (hg : g.method = m) (hn : As.length = n) (hsize : g.locals.size = nL) (hstack : g.stack = As.reverse ++ .ref b :: rest) (hW : 2 * g.monitorRoom + (rest.map fun v => v.category).sum ≤ 8) (hdg : decode cc g.pc = .ok (.invokevirtual index, 3)) (hf : cells + mc ≤ R.cells ∧ slots + ms ≤ R.slots) :
    vx_Run p l e R s m args below meth c H locs cells slots mc ms g rest (Qc (Value.ref b :: As).toArray) XC free := by
  have hK : vx_Back l R p e below s args y 3 8 (PreOf R mc ms Pc) (PostOf Qc mc ms free) (vx_Post XC mc ms free) := vx_callBack cw.1 hM hp.1
  obtain ⟨⟨-, -, -, -, -, -, hcode, -, hy, hlen, hl⟩, hin, hse⟩ := cw
  obtain ⟨hx, hb, hml, ho, -⟩ := S
  obtain ⟨-, ⟨cellB, hcB, hoB, hclB⟩, hPc⟩ := hp
  intro T hT X
  rcases vx_callV X hx (C := C) (bytes := bytes) (maxL := maxL) (ret := ret) ho hl hin hse hcode hy hK (by rw [hT]; exact hcB) hoB hclB hg (hsize.trans hml.symm) (argsL := As) (rest := rest) (fun sig h => hn.trans (hlen sig h)) hstack hW (by rw [hb]; exact hdg)
    (fun vm₁ hW₁ => ⟨hf.1, hf.2, hPc (T.setVm vm₁) hT hW₁⟩) with ⟨v, vm₁, ⟨U', l2, c2, s2⟩, hW₁, X', ⟨g', mk, t, L, e1, e2, hq, h1, hL, h2, h3⟩, st⟩ | ⟨q, vm₁, ⟨U', l2, c2, s2⟩, hW₁, X', ⟨g', mk, t, L, E, ce, e1, e2, hq, hce, hcv, hcl, h1, hL, h2, h3⟩, st⟩
  · dsimp only [Pt.U, Pt.locs, Pt.cells, Pt.slots] at X' e1 e2 h1 h2 h3 st
    subst h1; subst h2; subst h3
    exact Or.inl ⟨v, (T.setVm vm₁).calling g' mk (Value.ref b :: As).toArray, t, U', L, hT, X', hL, e1, e2, hq, st⟩
  · dsimp only [Pt.U, Pt.locs, Pt.cells, Pt.slots] at X' e1 e2 h1 h2 h3 st hcl
    subst h1; subst h2; subst h3
    exact Or.inr ⟨q, (T.setVm vm₁).calling g' mk (Value.ref b :: As).toArray, t, U', L, E, ce, hT, X', hL, e1, e2, hq, hce, hcv, vx_cls hW₁ hcl, st⟩
theorem vx_runS (S : CallFix p m c cc nL s args Ts own) (hM : vx_Met l y ws rm Pc Qc XC mc ms free) (cw : CallB R s args own index y bytes maxL ret ws rm mc ms n ∧ (Cond.static y).before args s = true) (hp : PreS s H Pc As)
    (hg : g.method = m) (hn : As.length = n) (hsize : g.locals.size = nL) (hstack : g.stack = As.reverse ++ rest) (hW : 2 * g.monitorRoom + (rest.map fun v => v.category).sum ≤ 8) (hdg : decode cc g.pc = .ok (.invokestatic index, 3)) (hf : cells + mc ≤ R.cells ∧ slots + ms ≤ R.slots) :
    vx_Run p l e R s m args below meth c H locs cells slots mc ms g rest (Qc As.toArray) XC free := by
  have hK : vx_Back l R p e below s args y 3 8 (PreOf R mc ms Pc) (PostOf Qc mc ms free) (vx_Post XC mc ms free) := vx_callBack cw.1 hM hp.1
  obtain ⟨⟨-, -, -, -, -, -, hcode, hini, hy, hlen, hl⟩, hstt⟩ := cw
  obtain ⟨hx, hb, hml, ho, -⟩ := S
  intro T hT X
  rcases vx_callS X hx (bytes := bytes) (maxL := maxL) (ret := ret) ho hl hstt hini hcode hy hK hg (hsize.trans hml.symm) (argsL := As) (rest := rest) (fun sig h => hn.trans (hlen sig h)) hstack hW (by rw [hb]; exact hdg)
    (fun vm₁ hW₁ => ⟨hf.1, hf.2, hp.2 (T.setVm vm₁) hT hW₁⟩) with ⟨v, vm₁, ⟨U', l2, c2, s2⟩, hW₁, X', ⟨g', mk, t, L, e1, e2, hq, h1, hL, h2, h3⟩, st⟩ | ⟨q, vm₁, ⟨U', l2, c2, s2⟩, hW₁, X', ⟨g', mk, t, L, E, ce, e1, e2, hq, hce, hcv, hcl, h1, hL, h2, h3⟩, st⟩
  · dsimp only [Pt.U, Pt.locs, Pt.cells, Pt.slots] at X' e1 e2 h1 h2 h3 st
    subst h1; subst h2; subst h3
    exact Or.inl ⟨v, (T.setVm vm₁).calling g' mk As.toArray, t, U', L, hT, X', hL, e1, e2, hq, st⟩
  · dsimp only [Pt.U, Pt.locs, Pt.cells, Pt.slots] at X' e1 e2 h1 h2 h3 st hcl
    subst h1; subst h2; subst h3
    exact Or.inr ⟨q, (T.setVm vm₁).calling g' mk As.toArray, t, U', L, E, ce, hT, X', hL, e1, e2, hq, hce, hcv, vx_cls hW₁ hcl, st⟩
end Runs
section Rows
variable {p : Program} {l : Launch} {e : Env} {R : Room} {s : State} {m : MethodId} {args : Array Value} {below : List Frame} {meth : Method} {c : Code} {H : Heap} {locs : List Loc} {cells slots : Nat} {Q : State → Prop}
variable {mc ms : Nat} {free : Addr → Prop} {A0 A1 : Nat → Prop} {H0 : Heap} {a : Array Value} {pc : Nat} {ls : Array Slot} {st0 rest : List Value}
theorem vx_keep {st₀ t T' : State} {L : List Loc} (h0 : st₀.heap = H) (e1 : T'.heap = t.heap) (hS : va_S A0 H0 H locs) (hA : ∀ q, q < H.size → A1 q → A0 q) (hf : ∀ q, free q → A0 q) (hL : ∀ q ∈ L, free q.base) (hF : va_F A1 st₀ t) :
    H.size ≤ T'.heap.size ∧ (∀ q : Nat, q < H.size → ¬ A1 q → T'.heap[q]? = H[q]?) ∧ va_S A0 H0 T'.heap (locs ++ L) := by
  obtain ⟨hz, hk⟩ := hF
  rw [h0] at hz hk
  exact ⟨by rw [e1]; exact hz, fun q h1 h2 => by rw [e1]; exact hk q h1 h2,
    ⟨Nat.le_trans hS.1 (by rw [e1]; exact hz), fun q h1 h2 => by rw [e1, hk q (Nat.lt_of_lt_of_le h1 hS.1) (fun z => h2 (hA q (Nat.lt_of_lt_of_le h1 hS.1) z))]; exact hS.2.1 q h1 h2, fun q hq => by
      rcases List.mem_append.mp hq with h | h
      · exact hS.2.2 q h
      · exact hf _ (hL q h)⟩⟩
theorem vx_calli {S SX : Type} {post : Int32 → S → Prop} {px : SX → Prop} {B : S → State → Prop} {BX : String → SX → State → Prop} {AX : Nat → Prop} (hr : vx_Run p l e R s m args below meth c H locs cells slots mc ms (F0 m pc ls st0) rest (va_Qi post B A1 a) (vx_X px BX AX) free) (hS : va_S A0 H0 H locs) (hA : ∀ q, q < H.size → A1 q → A0 q) (hf : ∀ q, free q → A0 q) (hAX : ∀ q, q < H.size → AX q → A0 q)
    (kx : ∀ (E : String) (ce : Cell) (q9 : Addr) (u : SX) (t : State) (H1 : Heap) (locs1 : List Loc), t.heap = H1 → s.vm.Alike t.vm → px u → BX E u t → H.size ≤ H1.size → (∀ q : Nat, q < H.size → ¬ AX q → H1[q]? = H[q]?) → va_S A0 H0 H1 locs1 → H1[q9]? = some ce → ce.vm = .none → s.vm.findClass E = some ce.cls → vx_W p l e R s m args below meth c H1 locs1 (cells + mc) (slots + ms) Q (F0 m pc ls rest) q9)
    (kk : ∀ (r : Int32) (u : S) (t : State) (H1 : Heap) (locs1 : List Loc), t.heap = H1 → s.vm.Alike t.vm → post r u → B u t → H.size ≤ H1.size → (∀ q : Nat, q < H.size → ¬ A1 q → H1[q]? = H[q]?) → va_S A0 H0 H1 locs1 → W p l e R s m args below meth c H1 locs1 (cells + mc) (slots + ms) Q (F0 m (pc + 3) ls (.int r :: rest))) : W p l e R s m args below meth c H locs cells slots Q (F0 m pc ls st0) := by
  intro T hT X
  rcases hr T hT X with ⟨v, st₀, t, T', L, h0, X', hL, e1, e2, ⟨⟨r, u, hv, hp, hb⟩, hF⟩, st⟩ | ⟨q, st₀, t, T', L, E, ce, h0, X', hL, e1, e2, ⟨u, hp, hb, hF⟩, hce, hcv, hcl, st⟩
  · cases hv
    obtain ⟨k1, k2, k3⟩ := vx_keep h0 e1 hS hA hf hL hF
    obtain ⟨t2, a1, b1⟩ := kk r u t T'.heap (locs ++ L) e1.symm (by rw [← e2]; exact X'.warmed.alike) hp hb k1 k2 k3 T' rfl X'
    exact ⟨t2, st t2 a1, b1⟩
  · obtain ⟨k1, k2, k3⟩ := vx_keep h0 e1 hS hAX hf hL hF
    obtain ⟨t2, a1, b1⟩ := kx E ce q u t T'.heap (locs ++ L) e1.symm (by rw [← e2]; exact X'.warmed.alike) hp hb k1 k2 k3 (by rw [e1]; exact hce) hcv hcl T' rfl X'
    exact ⟨t2, st.trans a1, b1⟩
theorem vx_calll {S SX : Type} {post : Int64 → S → Prop} {px : SX → Prop} {B : S → State → Prop} {BX : String → SX → State → Prop} {AX : Nat → Prop} (hr : vx_Run p l e R s m args below meth c H locs cells slots mc ms (F0 m pc ls st0) rest (va_Ql post B A1 a) (vx_X px BX AX) free) (hS : va_S A0 H0 H locs) (hA : ∀ q, q < H.size → A1 q → A0 q) (hf : ∀ q, free q → A0 q) (hAX : ∀ q, q < H.size → AX q → A0 q)
    (kx : ∀ (E : String) (ce : Cell) (q9 : Addr) (u : SX) (t : State) (H1 : Heap) (locs1 : List Loc), t.heap = H1 → s.vm.Alike t.vm → px u → BX E u t → H.size ≤ H1.size → (∀ q : Nat, q < H.size → ¬ AX q → H1[q]? = H[q]?) → va_S A0 H0 H1 locs1 → H1[q9]? = some ce → ce.vm = .none → s.vm.findClass E = some ce.cls → vx_W p l e R s m args below meth c H1 locs1 (cells + mc) (slots + ms) Q (F0 m pc ls rest) q9)
    (kk : ∀ (r : Int64) (u : S) (t : State) (H1 : Heap) (locs1 : List Loc), t.heap = H1 → s.vm.Alike t.vm → post r u → B u t → H.size ≤ H1.size → (∀ q : Nat, q < H.size → ¬ A1 q → H1[q]? = H[q]?) → va_S A0 H0 H1 locs1 → W p l e R s m args below meth c H1 locs1 (cells + mc) (slots + ms) Q (F0 m (pc + 3) ls (.long r :: rest))) : W p l e R s m args below meth c H locs cells slots Q (F0 m pc ls st0) := by
  intro T hT X
  rcases hr T hT X with ⟨v, st₀, t, T', L, h0, X', hL, e1, e2, ⟨⟨r, u, hv, hp, hb⟩, hF⟩, st⟩ | ⟨q, st₀, t, T', L, E, ce, h0, X', hL, e1, e2, ⟨u, hp, hb, hF⟩, hce, hcv, hcl, st⟩
  · cases hv
    obtain ⟨k1, k2, k3⟩ := vx_keep h0 e1 hS hA hf hL hF
    obtain ⟨t2, a1, b1⟩ := kk r u t T'.heap (locs ++ L) e1.symm (by rw [← e2]; exact X'.warmed.alike) hp hb k1 k2 k3 T' rfl X'
    exact ⟨t2, st t2 a1, b1⟩
  · obtain ⟨k1, k2, k3⟩ := vx_keep h0 e1 hS hAX hf hL hF
    obtain ⟨t2, a1, b1⟩ := kx E ce q u t T'.heap (locs ++ L) e1.symm (by rw [← e2]; exact X'.warmed.alike) hp hb k1 k2 k3 (by rw [e1]; exact hce) hcv hcl T' rfl X'
    exact ⟨t2, st.trans a1, b1⟩
theorem vx_callf {S SX : Type} {post : UInt32 → S → Prop} {px : SX → Prop} {B : S → State → Prop} {BX : String → SX → State → Prop} {AX : Nat → Prop} (hr : vx_Run p l e R s m args below meth c H locs cells slots mc ms (F0 m pc ls st0) rest (va_Qf post B A1 a) (vx_X px BX AX) free) (hS : va_S A0 H0 H locs) (hA : ∀ q, q < H.size → A1 q → A0 q) (hf : ∀ q, free q → A0 q) (hAX : ∀ q, q < H.size → AX q → A0 q)
    (kx : ∀ (E : String) (ce : Cell) (q9 : Addr) (u : SX) (t : State) (H1 : Heap) (locs1 : List Loc), t.heap = H1 → s.vm.Alike t.vm → px u → BX E u t → H.size ≤ H1.size → (∀ q : Nat, q < H.size → ¬ AX q → H1[q]? = H[q]?) → va_S A0 H0 H1 locs1 → H1[q9]? = some ce → ce.vm = .none → s.vm.findClass E = some ce.cls → vx_W p l e R s m args below meth c H1 locs1 (cells + mc) (slots + ms) Q (F0 m pc ls rest) q9)
    (kk : ∀ (r : UInt32) (u : S) (t : State) (H1 : Heap) (locs1 : List Loc), t.heap = H1 → s.vm.Alike t.vm → post r u → B u t → H.size ≤ H1.size → (∀ q : Nat, q < H.size → ¬ A1 q → H1[q]? = H[q]?) → va_S A0 H0 H1 locs1 → W p l e R s m args below meth c H1 locs1 (cells + mc) (slots + ms) Q (F0 m (pc + 3) ls (.float r :: rest))) : W p l e R s m args below meth c H locs cells slots Q (F0 m pc ls st0) := by
  intro T hT X
  rcases hr T hT X with ⟨v, st₀, t, T', L, h0, X', hL, e1, e2, ⟨⟨r, u, hv, hp, hb⟩, hF⟩, st⟩ | ⟨q, st₀, t, T', L, E, ce, h0, X', hL, e1, e2, ⟨u, hp, hb, hF⟩, hce, hcv, hcl, st⟩
  · cases hv
    obtain ⟨k1, k2, k3⟩ := vx_keep h0 e1 hS hA hf hL hF
    obtain ⟨t2, a1, b1⟩ := kk r u t T'.heap (locs ++ L) e1.symm (by rw [← e2]; exact X'.warmed.alike) hp hb k1 k2 k3 T' rfl X'
    exact ⟨t2, st t2 a1, b1⟩
  · obtain ⟨k1, k2, k3⟩ := vx_keep h0 e1 hS hAX hf hL hF
    obtain ⟨t2, a1, b1⟩ := kx E ce q u t T'.heap (locs ++ L) e1.symm (by rw [← e2]; exact X'.warmed.alike) hp hb k1 k2 k3 (by rw [e1]; exact hce) hcv hcl T' rfl X'
    exact ⟨t2, st.trans a1, b1⟩
theorem vx_calld {S SX : Type} {post : UInt64 → S → Prop} {px : SX → Prop} {B : S → State → Prop} {BX : String → SX → State → Prop} {AX : Nat → Prop} (hr : vx_Run p l e R s m args below meth c H locs cells slots mc ms (F0 m pc ls st0) rest (va_Qd post B A1 a) (vx_X px BX AX) free) (hS : va_S A0 H0 H locs) (hA : ∀ q, q < H.size → A1 q → A0 q) (hf : ∀ q, free q → A0 q) (hAX : ∀ q, q < H.size → AX q → A0 q)
    (kx : ∀ (E : String) (ce : Cell) (q9 : Addr) (u : SX) (t : State) (H1 : Heap) (locs1 : List Loc), t.heap = H1 → s.vm.Alike t.vm → px u → BX E u t → H.size ≤ H1.size → (∀ q : Nat, q < H.size → ¬ AX q → H1[q]? = H[q]?) → va_S A0 H0 H1 locs1 → H1[q9]? = some ce → ce.vm = .none → s.vm.findClass E = some ce.cls → vx_W p l e R s m args below meth c H1 locs1 (cells + mc) (slots + ms) Q (F0 m pc ls rest) q9)
    (kk : ∀ (r : UInt64) (u : S) (t : State) (H1 : Heap) (locs1 : List Loc), t.heap = H1 → s.vm.Alike t.vm → post r u → B u t → H.size ≤ H1.size → (∀ q : Nat, q < H.size → ¬ A1 q → H1[q]? = H[q]?) → va_S A0 H0 H1 locs1 → W p l e R s m args below meth c H1 locs1 (cells + mc) (slots + ms) Q (F0 m (pc + 3) ls (.double r :: rest))) : W p l e R s m args below meth c H locs cells slots Q (F0 m pc ls st0) := by
  intro T hT X
  rcases hr T hT X with ⟨v, st₀, t, T', L, h0, X', hL, e1, e2, ⟨⟨r, u, hv, hp, hb⟩, hF⟩, st⟩ | ⟨q, st₀, t, T', L, E, ce, h0, X', hL, e1, e2, ⟨u, hp, hb, hF⟩, hce, hcv, hcl, st⟩
  · cases hv
    obtain ⟨k1, k2, k3⟩ := vx_keep h0 e1 hS hA hf hL hF
    obtain ⟨t2, a1, b1⟩ := kk r u t T'.heap (locs ++ L) e1.symm (by rw [← e2]; exact X'.warmed.alike) hp hb k1 k2 k3 T' rfl X'
    exact ⟨t2, st t2 a1, b1⟩
  · obtain ⟨k1, k2, k3⟩ := vx_keep h0 e1 hS hAX hf hL hF
    obtain ⟨t2, a1, b1⟩ := kx E ce q u t T'.heap (locs ++ L) e1.symm (by rw [← e2]; exact X'.warmed.alike) hp hb k1 k2 k3 (by rw [e1]; exact hce) hcv hcl T' rfl X'
    exact ⟨t2, st.trans a1, b1⟩
theorem vx_callv {S SX : Type} {post : S → Prop} {px : SX → Prop} {B : S → State → Prop} {BX : String → SX → State → Prop} {AX : Nat → Prop} (hr : vx_Run p l e R s m args below meth c H locs cells slots mc ms (F0 m pc ls st0) rest (va_Qv post B A1 a) (vx_X px BX AX) free) (hS : va_S A0 H0 H locs) (hA : ∀ q, q < H.size → A1 q → A0 q) (hf : ∀ q, free q → A0 q) (hAX : ∀ q, q < H.size → AX q → A0 q)
    (kx : ∀ (E : String) (ce : Cell) (q9 : Addr) (u : SX) (t : State) (H1 : Heap) (locs1 : List Loc), t.heap = H1 → s.vm.Alike t.vm → px u → BX E u t → H.size ≤ H1.size → (∀ q : Nat, q < H.size → ¬ AX q → H1[q]? = H[q]?) → va_S A0 H0 H1 locs1 → H1[q9]? = some ce → ce.vm = .none → s.vm.findClass E = some ce.cls → vx_W p l e R s m args below meth c H1 locs1 (cells + mc) (slots + ms) Q (F0 m pc ls rest) q9)
    (kk : ∀ (u : S) (t : State) (H1 : Heap) (locs1 : List Loc), t.heap = H1 → s.vm.Alike t.vm → post u → B u t → H.size ≤ H1.size → (∀ q : Nat, q < H.size → ¬ A1 q → H1[q]? = H[q]?) → va_S A0 H0 H1 locs1 → W p l e R s m args below meth c H1 locs1 (cells + mc) (slots + ms) Q (F0 m (pc + 3) ls (rest))) : W p l e R s m args below meth c H locs cells slots Q (F0 m pc ls st0) := by
  intro T hT X
  rcases hr T hT X with ⟨v, st₀, t, T', L, h0, X', hL, e1, e2, ⟨⟨u, hv, hp, hb⟩, hF⟩, st⟩ | ⟨q, st₀, t, T', L, E, ce, h0, X', hL, e1, e2, ⟨u, hp, hb, hF⟩, hce, hcv, hcl, st⟩
  · cases hv
    obtain ⟨k1, k2, k3⟩ := vx_keep h0 e1 hS hA hf hL hF
    obtain ⟨t2, a1, b1⟩ := kk u t T'.heap (locs ++ L) e1.symm (by rw [← e2]; exact X'.warmed.alike) hp hb k1 k2 k3 T' rfl X'
    exact ⟨t2, st t2 a1, b1⟩
  · obtain ⟨k1, k2, k3⟩ := vx_keep h0 e1 hS hAX hf hL hF
    obtain ⟨t2, a1, b1⟩ := kx E ce q u t T'.heap (locs ++ L) e1.symm (by rw [← e2]; exact X'.warmed.alike) hp hb k1 k2 k3 (by rw [e1]; exact hce) hcv hcl T' rfl X'
    exact ⟨t2, st.trans a1, b1⟩
/-- caught by the row x of this method's table; the rows ahead don't take it -/
theorem vx_catch {own name : String} {E : String} {ce : Cell} {q : Addr} (hown : s.vm.findClass own = some m.cls) (pre : List ExceptionTableEntry) (x : ExceptionTableEntry) (suf : List ExceptionTableEntry) (hsplit : c.exceptionTable.toList = pre ++ x :: suf)
    (hpass : ∀ z ∈ pre, covers z pc = false ∨ (z.catchType ≠ 0 ∧ ∃ nm : String, (Cond.classLink own z.catchType nm).before args s = true ∧ va_Nc E nm s)) (hx : covers x pc = true) (h0 : x.catchType ≠ 0)
    (hlink : (Cond.classLink own x.catchType name).before args s = true) (hcast : (Cond.castable E name).before args s = true) (hcell : H[q]? = some ce) (hv : ce.vm = .none) (hcl : s.vm.findClass E = some ce.cls)
    (kk : W p l e R s m args below meth c H locs cells slots Q (F0 m x.handlerPc ls [.ref q])) : vx_W p l e R s m args below meth c H locs cells slots Q (F0 m pc ls rest) q := by
  intro T hT X
  have hpl : e.platform.magicAccessors = ({} : Platform).magicAccessors := by rw [X.admits.platform]
  obtain ⟨c3, c4, hc3, hc4, hasg⟩ := Cond.castable_spec hcast
  cases Option.some.inj (hc3.symm.trans hcl)
  obtain ⟨c5, hc5, hcl5⟩ := Cond.classLink_spec hown hlink e.platform hpl
  cases Option.some.inj (hc4.symm.trans hc5)
  obtain ⟨vm', X', st⟩ := X.thenCaughtThrough q (g := F0 m pc ls rest) rfl (Steps.refl _) (by rw [hT]; exact hcell) (by rw [hv]; rfl) (by obtain ⟨k9, h9, -⟩ := Vm.findClass_spec hcl; exact ⟨k9, h9⟩) pre x suf hsplit
    (fun z hz => by
      rcases hpass z hz with h | ⟨hz0, nm, hl1, hn1⟩
      · exact Or.inl h
      · obtain ⟨c6, hc6, hcl6⟩ := Cond.classLink_spec hown hl1 e.platform hpl
        obtain ⟨a8, b8, h1, h2, h3⟩ := hn1
        cases Option.some.inj (h1.symm.trans hcl)
        cases Option.some.inj (h2.symm.trans hc6)
        exact Or.inr ⟨hz0, _, hcl6, h3⟩) hx (Or.inr ⟨h0, c4, hcl5, hasg⟩)
  obtain ⟨t, a1, b1⟩ := kk (T.setVm vm') hT X'
  exact ⟨t, st.trans a1, b1⟩
end Rows
section Ends
variable {p : Program} {l : Launch} {e : Env} {R : Room} {s : State} {m : MethodId} {args : Array Value} {below : List Frame} {meth : Method} {c : Code} {H : Heap} {locs : List Loc} {cells slots : Nat} {Q : State → Prop}
variable {mc ms : Nat} {free : Addr → Prop} {A0 A1 : Nat → Prop} {H0 : Heap} {a : Array Value} {ls : Array Slot} {st0 rest : List Value}
variable {Qc : Array Value → State → Outcome → State → Prop} {XC : String → State → State → Prop}
/-- what a body that may throw owes at its end -/
def vx_MQ (below : List Frame) (Qc : Array Value → State → Outcome → State → Prop) (XC : String → State → State → Prop) (a : Array Value) (s : State) (mc ms : Nat) (free : Addr → Prop) : State → Prop := fun t =>
  ∃ o, t.status = .running ∧ Ended t below o ∧ vx_Q Qc XC mc ms free a s o t
theorem vx_ret {g : JFrame} {mc ms : Nat} (k : W p l e R s m args below meth c H locs cells slots (MQ below Qc args s mc ms free) g) : W p l e R s m args below meth c H locs cells slots (vx_MQ below Qc XC args s mc ms free) g := by
  intro T hT X
  obtain ⟨t, a1, o, b1, b2, b3, b4⟩ := k T hT X
  exact ⟨t, a1, o, b1, b2, Or.inl ⟨b3, b4⟩⟩
/-- not caught here: it goes on to the caller -/
theorem vx_widen {g : JFrame} {q : Addr} {k n : Nat} (h1 : cells ≤ k) (h2 : slots ≤ n) (kk : vx_W p l e R s m args below meth c H locs k n Q g q) : vx_W p l e R s m args below meth c H locs cells slots Q g q := fun T hT X => kk T hT (stand_widen X h1 h2)
theorem vx_out {pc : Nat} {E : String} {ce : Cell} {q : Addr} {mc ms : Nat} (hout : ∀ x ∈ c.exceptionTable.toList, covers x pc = false) (hlocks : meth.locks = false) (hcell : H[q]? = some ce) (hv : ce.vm = .none) (hcl : s.vm.findClass E = some ce.cls)
    (hx : ∀ t : State, t.heap = H → s.vm.Alike t.vm → XC E s t) (hf : ∀ z ∈ locs, free z.base) (hc : cells ≤ mc) (hs : slots ≤ ms) :
    vx_W p l e R s m args below meth c H locs cells slots (vx_MQ below Qc XC args s mc ms free) (F0 m pc ls rest) q := by
  intro T hT X
  obtain ⟨st1, hrun, hend, hW, hsm⟩ := X.leaveThrown q (g := F0 m pc ls rest) rfl rfl rfl hout hlocks
  have hcell9 : (T.setFrames (.throwing q :: below)).heap[q]? = some ce := by
    show T.heap[q]? = some ce
    rw [hT]; exact hcell
  exact ⟨_, st1, .threw q, hrun, hend, Or.inr ⟨q, rfl, E, ce, locs, hx _ hT hW.alike, hcell9, hv, hcl, hW, hsm.mono hc hs, hf⟩⟩
theorem vx_frame {U : State} {k n : Nat} (h : s.sameButNew ({ U with vm := s.vm } : State) locs k n) : s.heap.size ≤ U.heap.size ∧ ∀ q : Nat, q < s.heap.size → (∀ z ∈ locs, z.base ≠ q) → U.heap[q]? = s.heap[q]? := by
  obtain ⟨-, h2, -, -, -, h6⟩ := h
  refine ⟨h2, fun q hq hz => ?_⟩
  obtain ⟨c9, e1, e2, e3, e4⟩ := h6 q _ (Array.getElem?_eq_getElem hq)
  have hs : c9.slots = (s.heap[q]).slots := Array.ext_getElem? fun i => e4 i fun hm => hz _ hm rfl
  have h9 : c9 = s.heap[q] := by
    rw [hs] at e2
    exact e2
  have e5 : U.heap[q]? = some c9 := e1
  rw [e5, h9, Array.getElem?_eq_getElem hq]
/-- the words of a throw but the four that speak of the heap -/
def vx_no (w : Cond) : Bool := decide (w ≠ .isRef (.static Bundle.tN "UNASSIGNED_STACK" Bundle.steD)) && decide (w ≠ .isRef (.static Bundle.tN "SUPPRESSED_SENTINEL" Bundle.listD)) && decide (w ≠ .laysStatic Bundle.tN "UNASSIGNED_STACK" Bundle.steD) && decide (w ≠ .laysStatic Bundle.tN "SUPPRESSED_SENTINEL" Bundle.listD)
def vx_at0 (own : String) (ic : Nat) (X : String) (names : List String) : List Cond := (Bundle.ownAtoms0 own ic X names).filter vx_no
def vx_atS (own : String) (ic : Nat) (X : String) (names : List String) : List Cond := (Bundle.ownAtoms own ic X names).filter vx_no
/-- a word that the tables alone decide, or a good one -/
def vx_ot (w : Cond) : Bool := w.onTables || goodWord w
theorem vx_ot_at {args a' : Array Value} {s U : State} {w : Cond} (hW : s.WarmedH U.vm) (hvm : s.vm = U.vm) (hg : vx_ot w = true) (h : w.before args s = true) : w.before a' U = true := by
  simp only [vx_ot, Bool.or_eq_true] at hg
  rcases hg with hg | hg
  · exact va_tabs hg hvm h
  · exact word_at hW (good_of_word hg) h
/-- a list's words: the good ones out of the method's own list, the others by premises of their own -/
theorem vx_hat {args : Array Value} {s : State} {L B : List Cond} (h1 : ∀ w ∈ L.filter goodWord, w.before args s = true) (h2 : ∀ w ∈ L.filter (fun w => !goodWord w), w ∈ B) (h3 : ∀ w ∈ B, w.before args s = true) : ∀ w ∈ L, w.before args s = true := by
  intro w hw
  by_cases g : goodWord w = true
  · exact h1 w (List.mem_filter.mpr ⟨hw, g⟩)
  · refine h3 w (h2 w (List.mem_filter.mpr ⟨hw, ?_⟩))
    show (!goodWord w) = true
    cases hgw : goodWord w
    · rfl
    · exact absurd hgw g
theorem vx_c {args : Array Value} {s : State} {w : Cond} {B : List Cond} (h : w.before args s = true) (t : ∀ w ∈ B, w.before args s = true) : ∀ w' ∈ w :: B, w'.before args s = true := fun w' h' => (List.mem_cons.mp h').elim (fun e => by rw [e]; exact h) (t w')
theorem vx_n {args : Array Value} {s : State} : ∀ w ∈ ([] : List Cond), w.before args s = true := fun _ h => nomatch h
theorem vx_own {args : Array Value} {s : State} {L : List Cond} (h1 : ∀ w ∈ L.filter vx_no, w.before args s = true)
    (hU : (Cond.isRef (.static Bundle.tN "UNASSIGNED_STACK" Bundle.steD)).before args s = true) (hN : (Cond.isRef (.static Bundle.tN "SUPPRESSED_SENTINEL" Bundle.listD)).before args s = true)
    (lU : (Cond.laysStatic Bundle.tN "UNASSIGNED_STACK" Bundle.steD).before args s = true) (lN : (Cond.laysStatic Bundle.tN "SUPPRESSED_SENTINEL" Bundle.listD).before args s = true) : ∀ w ∈ L, w.before args s = true := by
  intro w hw
  by_cases e1 : w = .isRef (.static Bundle.tN "UNASSIGNED_STACK" Bundle.steD)
  · rw [e1]; exact hU
  · by_cases e2 : w = .isRef (.static Bundle.tN "SUPPRESSED_SENTINEL" Bundle.listD)
    · rw [e2]; exact hN
    · by_cases e3 : w = .laysStatic Bundle.tN "UNASSIGNED_STACK" Bundle.steD
      · rw [e3]; exact lU
      · by_cases e4 : w = .laysStatic Bundle.tN "SUPPRESSED_SENTINEL" Bundle.listD
        · rw [e4]; exact lN
        · exact h1 w (List.mem_filter.mpr ⟨hw, by unfold vx_no; rw [decide_eq_true e1, decide_eq_true e2, decide_eq_true e3, decide_eq_true e4]; rfl⟩)
/-- where a static field lies, its class's statics cell in H -/
def vx_L (C n d : String) (A : Nat → Prop) (U : State) (H : Heap) : Prop := ∃ (c : ClassId) (k : Class) (i : Nat) (f : Field) (a : Nat) (cell : Cell), U.vm.findClass C = some c ∧ U.fieldFound? C n d = some (c, k, i, f) ∧ f.isStatic = true ∧ k.statics = some a ∧ H[a]? = some cell ∧ cell.vm.isStatics = true ∧ cell.cls = c ∧ f.slot < cell.slots.size ∧ k.staticTypes[f.slot]? = some f.type ∧ ¬ A a
theorem vx_L.moved {C n d : String} {A : Nat → Prop} {u U : State} {H : Heap} (hvm : u.vm.Alike U.vm) (h : vx_L C n d A u H) : vx_L C n d A U H := by
  obtain ⟨c, k, i, f, a, cell, h1, h2, h3, h4, h5, h6, h7, h8, h9, h10⟩ := h
  obtain ⟨k', hi', he⟩ := State.fieldFound?_setVm hvm h2
  exact ⟨c, k', i, f, a, cell, by rw [hvm.findClass]; exact h1, hi', h3, by rw [he]; exact h4, h5, h6, h7, h8, by rw [he]; exact h9, h10⟩
theorem vx_L.kept {C n d : String} {A : Nat → Prop} {U : State} {H H1 : Heap} (h : vx_L C n d A U H) (hq : ∀ a : Nat, a < H.size → ¬ A a → H1[a]? = H[a]?) : vx_L C n d A U H1 := by
  obtain ⟨c, k, i, f, a, cell, h1, h2, h3, h4, h5, h6, h7, h8, h9, h10⟩ := h
  exact ⟨c, k, i, f, a, cell, h1, h2, h3, h4, by rw [hq a (Array.getElem?_eq_some_iff.mp h5).1 h10]; exact h5, h6, h7, h8, h9, h10⟩
theorem vx_L.narrow {C n d : String} {A B : Nat → Prop} {U : State} {H : Heap} (h : vx_L C n d A U H) (hAB : ∀ q, B q → A q) : vx_L C n d B U H := by
  obtain ⟨c, k, i, f, a, cell, h1, h2, h3, h4, h5, h6, h7, h8, h9, h10⟩ := h
  exact ⟨c, k, i, f, a, cell, h1, h2, h3, h4, h5, h6, h7, h8, h9, fun z => h10 (hAB _ z)⟩
theorem vx_L.word {C n d : String} {A : Nat → Prop} {s : State} {args : Array Value} (h : vx_L C n d A s s.heap) : (Cond.laysStatic C n d).before args s = true := by
  obtain ⟨c, k, i, f, a, cell, h1, h2, h3, h4, h5, h6, h7, h8, h9, -⟩ := h
  show (Cond.laysStatic C n d).holds args s none s [] = true
  exact Cond.laysStatic_of h1 h2 h3 h4 h5 h6 h7 h8 h9
/-- .. and what it holds: null or some reference -/
def vx_Zq (C n d : String) (A : Nat → Prop) (U : State) (H : Heap) : Prop := va_Zq C n d A U H ∧ vx_L C n d A U H
theorem vx_Zq.moved {C n d : String} {A : Nat → Prop} {u U : State} {H : Heap} (hvm : u.vm.Alike U.vm) (h : vx_Zq C n d A u H) : vx_Zq C n d A U H := ⟨va_Zq.moved hvm h.1, vx_L.moved hvm h.2⟩
theorem vx_Zq.kept {C n d : String} {A : Nat → Prop} {U : State} {H H1 : Heap} (h : vx_Zq C n d A U H) (hq : ∀ a : Nat, a < H.size → ¬ A a → H1[a]? = H[a]?) : vx_Zq C n d A U H1 := ⟨va_Zq.kept h.1 hq, vx_L.kept h.2 hq⟩
theorem vx_Zq.narrow {C n d : String} {A B : Nat → Prop} {U : State} {H : Heap} (h : vx_Zq C n d A U H) (hAB : ∀ q, B q → A q) : vx_Zq C n d B U H := ⟨va_Zq.narrow h.1 hAB, vx_L.narrow h.2 hAB⟩
theorem vx_Zqof {args : Array Value} {s : State} {C n d : String} {A : Nat → Prop} (hl : (Cond.laysStatic C n d).before args s = true) (hini : (Cond.initialized C).before args s = true) (h : (Cond.isRef (.static C n d)).before args s = true) (hA : ∀ a : Nat, a < s.heap.size → ¬ A a) : vx_Zq C n d A s s.heap := by
  refine ⟨va_Zqof hl hini h hA, ?_⟩
  obtain ⟨c, k, i, f, a, cell, h1, h2, h3, h4, h5, h6, h7, h8, h9⟩ := Cond.laysStatic_spec hl
  exact ⟨c, k, i, f, a, cell, h1, h2, h3, h4, h5, h6, h7, h8, h9, hA a (Array.getElem?_eq_some_iff.mp h5).1⟩
theorem vx_isRef {C n d : String} {v : Value} {A : Nat → Prop} {s : State} {args : Array Value} (h : va_Z C n d v A s s.heap) (hv : v.isRef = true) : (Cond.isRef (.static C n d)).before args s = true := by
  obtain ⟨cf, kf, fi, f, a, cell, h1, h2, h3, h4, h5, h6, h7, -⟩ := h
  have he : (Term.static C n d).eval args s none [] s = some v := by
    simp [Term.eval, State.fieldNamed?, h1, h2, h4, h5, h6, h7]
  simp only [Cond.before, Cond.holds, Cond.value, he]
  cases v <;> simp_all [Value.isRef]
theorem vx_isRefq {C n d : String} {A : Nat → Prop} {s : State} {args : Array Value} (h : va_Zq C n d A s s.heap) : (Cond.isRef (.static C n d)).before args s = true := by
  rcases h with h | ⟨t, h⟩
  · exact vx_isRef h rfl
  · exact vx_isRef h rfl
/-- the same frame, seen from here: as if the method were called anew in this heap -/
theorem vx_rebase {T : State} (X : Stand p l e R s m args below meth c T locs cells slots) {R' : Room} (hf : R'.frames ≤ R.frames) (hl : R'.locals ≤ R.locals) (hc : cells + R'.cells ≤ R.cells) (hs : slots + R'.slots ≤ R.slots) :
    Stand p l e R' ((T.setVm s.vm).setFrames (.invoking m args :: below)) m args below meth c T [] 0 0 := by
  have htop : (T.setVm s.vm).topJava?.isSome := X.here.top
  have hF : ((T.setVm s.vm).setFrames (.invoking m args :: below)).frames = .invoking m args :: below := State.frames_setFrames _ (State.cur_lt_of_top htop)
  obtain ⟨g₀, hg0⟩ := Option.isSome_iff_exists.mp htop
  obtain ⟨r, hr⟩ := State.topJava?_eq_some.mp hg0
  have hl9 : e.platform.stackLimits (T.setVm s.vm).me = e.platform.stackLimits s.me := X.limits
  have hb9 : (T.setVm s.vm).me.stackBytes = s.me.stackBytes := X.bytes
  refine ⟨X.admits, X.cas, X.clock, hF, ?_, X.hears, X.method, X.code, X.here, X.tail, X.warmed, ?_, ?_, ?_⟩
  · have h := X.room
    have hU : ((T.setVm s.vm).setFrames (.invoking m args :: below)).localsInUse = s.localsInUse := by
      rw [State.localsInUse_invoking hF (meth := meth) (c := c) X.method X.code, State.localsInUse_invoking X.frames X.method X.code]
    simp only [State.hasRoom, Bool.and_eq_true, decide_eq_true_eq] at h ⊢
    obtain ⟨⟨⟨⟨h1, h2, h3, h4, h5, h6⟩, h7⟩, h8⟩, h9⟩ := h
    rw [X.frames, List.length_cons] at h2 h3
    have q1 := X.heapSize
    have q2 := X.used
    simp only [hF, hU, List.length_cons, State.stackLimits_setFrames, State.stackBytes_setFrames, hl9, hb9]
    refine ⟨⟨⟨⟨by omega, by omega, by omega, by omega, by omega, h6⟩, ?_⟩, ?_⟩, X.book⟩
    · show T.heap.size + R'.cells ≤ e.platform.maxCells
      omega
    · show T.slotsUsed + R'.slots ≤ e.platform.maxSlots
      omega
  · rw [State.stackLimits_setFrames]; rfl
  · rw [State.stackBytes_setFrames]; rfl
  · refine ⟨?_, Nat.le_refl _, Nat.le_refl _, ?_, ?_, fun a c9 h9 => ⟨c9, h9, rfl, rfl, fun _ _ => rfl⟩⟩
    · obtain ⟨t, ht, -⟩ := State.frames_cons hr
      show T.setVm s.vm = { ((T.setVm s.vm).setFrames (.invoking m args :: below)).setFrames (T.setVm s.vm).frames with heap := T.heap, slotsUsed := T.slotsUsed }
      rw [State.setFrames_setFrames, State.setFrames_self ht]
      rfl
    · show T.slotsUsed = T.slotsUsed + ((T.heap.toList.drop T.heap.size).map (·.slots.size)).sum
      rw [List.drop_eq_nil_of_le (Nat.le_of_eq Array.length_toList)]
      rfl
    · show ((T.heap.toList.drop T.heap.size).map (·.slots.size)).sum ≤ 0
      rw [List.drop_eq_nil_of_le (Nat.le_of_eq Array.length_toList)]
      exact Nat.le_refl _
/-- 'throw new E()': new; dup; invokespecial; athrow -/
theorem vx_throw0 {cc : ByteArray} {pc : Nat} (hexec : p.tables.exec = Jvm.exec) (hb : c.code = cc) (hl : l.stackTraces = false) {own cls : String} {names : List String} {ik ic mc ms : Nat} {A : Nat → Prop}
    (hown : s.vm.findClass own = some m.cls) (hcls : Bundle.fit cls = true) (hnames : ∀ n ∈ names, Bundle.fit n = true)
    (hk : (Cond.classLink own ik cls).before args s = true) (hini : (Cond.initialized cls).before args s = true) (hat : ∀ w ∈ vx_at0 own ic cls names, w.before args s = true)
    (hgood : ∀ w ∈ Cond.classLink own ik cls :: Cond.initialized cls :: vx_at0 own ic cls names, vx_ot w = true)
    (hU : vx_Zq Bundle.tN "UNASSIGNED_STACK" Bundle.steD A s s.heap) (hN : vx_Zq Bundle.tN "SUPPRESSED_SENTINEL" Bundle.listD A s s.heap) (hS : va_S A s.heap H locs) (hsize : ls.size = c.maxLocals)
    (d0 : decode cc pc = .ok (.new ik, 3)) (d3 : decode cc (pc + 3) = .ok (.dup, 1)) (d4 : decode cc (pc + 4) = .ok (.invokespecial ic, 3)) (d7 : decode cc (pc + 7) = .ok (.athrow, 1))
    (hout : ∀ x ∈ c.exceptionTable.toList, covers x (pc + 7) = false)
    (hRframes : names.length + 3 < R.frames) (hRlocals : (rest.map fun v => v.category).sum + (13 * (names.length + 1) + 42) ≤ R.locals) (hRcells : cells + 1 ≤ R.cells) (hRslots : slots + 6 ≤ R.slots) (hlocks : meth.locks = false)
    (hx : ∀ t : State, s.vm.Alike t.vm → H.size ≤ t.heap.size → (∀ q : Nat, q < H.size → t.heap[q]? = H[q]?) → XC cls s t)
    (hf : ∀ z ∈ locs, free z.base) (hc : cells + 1 ≤ mc) (hs : slots + 6 ≤ ms) :
    W p l e R s m args below meth c H locs cells slots (vx_MQ below Qc XC args s mc ms free) (F0 m pc ls rest) := by
  intro T hT X
  have htr : e.platform.stackTraces = false := (show e.platform.stackTraces = l.stackTraces by rw [X.admits.platform]).trans hl
  have Y := vx_rebase X (R' := { frames := R.frames, locals := R.locals, cells := 1, slots := 6 }) (Nat.le_refl _) (Nat.le_refl _) hRcells hRslots
  obtain ⟨s', hA⟩ : ∃ z, z = (T.setVm s.vm).setFrames (.invoking m args :: below) := ⟨_, rfl⟩
  rw [← hA] at Y
  have hvm : s'.vm = s.vm := by rw [hA]; rfl
  have hhp : s'.heap = H := by rw [hA]; exact hT
  have hW0 : s.WarmedH s'.vm := by rw [hvm]; exact State.WarmedH.refl s
  have hat' : ∀ w ∈ vx_at0 own ic cls names, w.before args s' = true := fun w hw => vx_ot_at hW0 hvm.symm (hgood w (List.mem_cons_of_mem _ (List.mem_cons_of_mem _ hw))) (hat w hw)
  have hk' : (Cond.classLink own ik cls).before args s' = true := vx_ot_at hW0 hvm.symm (hgood _ List.mem_cons_self) hk
  have hini' : (Cond.initialized cls).before args s' = true := vx_ot_at hW0 hvm.symm (hgood _ (List.mem_cons_of_mem _ List.mem_cons_self)) hini
  have hU' : vx_Zq Bundle.tN "UNASSIGNED_STACK" Bundle.steD A s' s'.heap := by rw [hhp]; exact vx_Zq.moved hW0.alike (hU.kept hS.2.1)
  have hN' : vx_Zq Bundle.tN "SUPPRESSED_SENTINEL" Bundle.listD A s' s'.heap := by rw [hhp]; exact vx_Zq.moved hW0.alike (hN.kept hS.2.1)
  have h : ∀ w ∈ Bundle.ownAtoms0 own ic cls names, w.before args s' = true := vx_own hat' (vx_isRefq hU'.1) (vx_isRefq hN'.1) hU'.2.word hN'.2.word
  have hown' : s'.vm.findClass own = some m.cls := by rw [hvm]; exact hown
  have hins : (Cond.instantiable cls 6).before args s' = true := h _ (by simp [Bundle.ownAtoms0])
  obtain ⟨vm₁, cX, kX, hfX, hkX, -, -, X₁, st1⟩ := Y.newCold hexec (own := own) (C := cls) (index := ik) (n := 6) hown' hk' hins hini'
    (g := F0 m pc ls rest) rfl (by rw [hb]; exact d0) (Nat.le_refl _) (Nat.le_refl _)
  generalize hT1 : (T.setVm vm₁).pushCell { cls := cX, slots := kX.instanceTypes.map defaultValue, vm := .none } = T1 at X₁ st1
  have hcat : (Value.ref T.heap.size).category = 1 := rfl
  have hcellA : T1.heap[T.heap.size]? = some (freshCell cX kX) := by rw [← hT1]; exact State.heap_pushCell_size _ _
  have d3' : decode c.code (pc + 3) = .ok (.dup, 1) := by rw [hb]; exact d3
  obtain ⟨U, hsteps, hrun, hend, hW, hsame, ce, hce, hO⟩ := X₁.ctorThrow0 hexec htr (own := own) (cls := cls) (names := names) (ic := ic) hown' hcls hnames h (fun x hx => nomatch hx) hfX hkX hcellA (by rw [hhp, hT]; exact Nat.le_refl _)
    (g := { method := m, pc := pc + 4, locals := ls, stack := .ref T.heap.size :: .ref T.heap.size :: rest, locked := none }) rfl hsize rfl rfl (rest := rest) rfl
    (by rw [hb]; exact d4) (by rw [hb]; exact d7) hout hRframes (by simp only [List.map_cons, List.sum_cons, hcat]; omega) hlocks
  obtain ⟨f1, f2⟩ := vx_frame hsame
  rw [hhp] at f1 f2
  have hWs : s.WarmedH U.vm := State.WarmedH.trans hW0 hW
  have hcl : s.vm.findClass cls = some ce.cls := by
    have h9 := hO.cls
    rw [hvm] at h9
    exact h9
  have hall : s.sameButNew ({ U with vm := s.vm } : State) locs mc ms := by
    subst hA
    obtain ⟨e1, e2⟩ := hsame
    rw [State.setFrames_setFrames] at e1
    have h2 : (T.setVm s.vm).sameButNew ({ U with vm := s.vm } : State) [] (0 + 1) (0 + 6) := ⟨e1, e2⟩
    have h3 := X.same.trans h2
    rw [List.append_nil] at h3
    exact h3.mono hc hs
  refine ⟨U, ?_, .threw T.heap.size, hrun, hend, Or.inr ⟨T.heap.size, rfl, cls, ce, locs, hx U hWs.alike f1 (fun q hq => f2 q hq (fun z hz => nomatch hz)), hce, hO.vm, hcl, hWs, hall, hf⟩⟩
  refine st1 _ ?_
  show Steps p.tables e below (T1.setTop { method := m, pc := pc + 3, locals := ls, stack := .ref T.heap.size :: rest, locked := none }) _
  jvm_step X₁.here [X₁.here.top, hexec, d3', Value.category]
  exact hsteps
/-- 'throw new E("text")': new; dup; ldc; invokespecial; athrow -/
theorem vx_throwS {cc : ByteArray} {pc : Nat} (hexec : p.tables.exec = Jvm.exec) (hb : c.code = cc) (hl : l.stackTraces = false) {own cls text : String} {names : List String} {ik is ic mc ms sa : Nat} {A : Nat → Prop}
    (hown : s.vm.findClass own = some m.cls) (hcls : Bundle.fit cls = true) (hnames : ∀ n ∈ names, Bundle.fit n = true)
    (hk : (Cond.classLink own ik cls).before args s = true) (hini : (Cond.initialized cls).before args s = true) (hstr : vk_R own is text sa s) (hat : ∀ w ∈ vx_atS own ic cls names, w.before args s = true)
    (hgood : ∀ w ∈ Cond.classLink own ik cls :: Cond.initialized cls :: vx_atS own ic cls names, vx_ot w = true)
    (hU : vx_Zq Bundle.tN "UNASSIGNED_STACK" Bundle.steD A s s.heap) (hN : vx_Zq Bundle.tN "SUPPRESSED_SENTINEL" Bundle.listD A s s.heap) (hS : va_S A s.heap H locs) (hsize : ls.size = c.maxLocals)
    (d0 : decode cc pc = .ok (.new ik, 3)) (d3 : decode cc (pc + 3) = .ok (.dup, 1)) (d4 : decode cc (pc + 4) = .ok (.ldc is, 2)) (d6 : decode cc (pc + 6) = .ok (.invokespecial ic, 3)) (d9 : decode cc (pc + 9) = .ok (.athrow, 1))
    (hout : ∀ x ∈ c.exceptionTable.toList, covers x (pc + 9) = false)
    (hRframes : names.length + 3 < R.frames) (hRlocals : (rest.map fun v => v.category).sum + (13 * (names.length + 1) + 43) ≤ R.locals) (hRcells : cells + 1 ≤ R.cells) (hRslots : slots + 6 ≤ R.slots) (hlocks : meth.locks = false)
    (hx : ∀ t : State, s.vm.Alike t.vm → H.size ≤ t.heap.size → (∀ q : Nat, q < H.size → t.heap[q]? = H[q]?) → XC cls s t)
    (hf : ∀ z ∈ locs, free z.base) (hc : cells + 1 ≤ mc) (hs : slots + 6 ≤ ms) :
    W p l e R s m args below meth c H locs cells slots (vx_MQ below Qc XC args s mc ms free) (F0 m pc ls rest) := by
  intro T hT X
  have htr : e.platform.stackTraces = false := (show e.platform.stackTraces = l.stackTraces by rw [X.admits.platform]).trans hl
  have Y := vx_rebase X (R' := { frames := R.frames, locals := R.locals, cells := 1, slots := 6 }) (Nat.le_refl _) (Nat.le_refl _) hRcells hRslots
  obtain ⟨s', hA⟩ : ∃ z, z = (T.setVm s.vm).setFrames (.invoking m args :: below) := ⟨_, rfl⟩
  rw [← hA] at Y
  have hvm : s'.vm = s.vm := by rw [hA]; rfl
  have hhp : s'.heap = H := by rw [hA]; exact hT
  have hW0 : s.WarmedH s'.vm := by rw [hvm]; exact State.WarmedH.refl s
  have hat' : ∀ w ∈ vx_atS own ic cls names, w.before args s' = true := fun w hw => vx_ot_at hW0 hvm.symm (hgood w (List.mem_cons_of_mem _ (List.mem_cons_of_mem _ hw))) (hat w hw)
  have hk' : (Cond.classLink own ik cls).before args s' = true := vx_ot_at hW0 hvm.symm (hgood _ List.mem_cons_self) hk
  have hini' : (Cond.initialized cls).before args s' = true := vx_ot_at hW0 hvm.symm (hgood _ (List.mem_cons_of_mem _ List.mem_cons_self)) hini
  have hU' : vx_Zq Bundle.tN "UNASSIGNED_STACK" Bundle.steD A s' s'.heap := by rw [hhp]; exact vx_Zq.moved hW0.alike (hU.kept hS.2.1)
  have hN' : vx_Zq Bundle.tN "SUPPRESSED_SENTINEL" Bundle.listD A s' s'.heap := by rw [hhp]; exact vx_Zq.moved hW0.alike (hN.kept hS.2.1)
  have h : ∀ w ∈ Bundle.ownAtoms own ic cls names, w.before args s' = true := vx_own hat' (vx_isRefq hU'.1) (vx_isRefq hN'.1) hU'.2.word hN'.2.word
  have hown' : s'.vm.findClass own = some m.cls := by rw [hvm]; exact hown
  have hins : (Cond.instantiable cls 6).before args s' = true := h _ (by simp [Bundle.ownAtoms])
  obtain ⟨vm₁, cX, kX, hfX, hkX, -, -, X₁, st1⟩ := Y.newCold hexec (own := own) (C := cls) (index := ik) (n := 6) hown' hk' hins hini'
    (g := F0 m pc ls rest) rfl (by rw [hb]; exact d0) (Nat.le_refl _) (Nat.le_refl _)
  generalize hT1 : (T.setVm vm₁).pushCell { cls := cX, slots := kX.instanceTypes.map defaultValue, vm := .none } = T1 at X₁ st1
  have hcat : (Value.ref T.heap.size).category = 1 := rfl
  have hcellA : T1.heap[T.heap.size]? = some (freshCell cX kX) := by rw [← hT1]; exact State.heap_pushCell_size _ _
  have d3' : decode c.code (pc + 3) = .ok (.dup, 1) := by rw [hb]; exact d3
  have d4' : decode c.code (pc + 4) = .ok (.ldc is, 2) := by rw [hb]; exact d4
  have hstr' : vk_R own is text sa s' := vk_R.warm hW0 hstr
  obtain ⟨U, hsteps, hrun, hend, hW, hsame, ce, hce, hO⟩ := X₁.ctorThrowS hexec htr (own := own) (cls := cls) (names := names) (ic := ic) hown' hcls hnames h (fun x hx => nomatch hx) hfX hkX hcellA (by rw [hhp, hT]; exact Nat.le_refl _) (msg := .ref sa) rfl
    (g := { method := m, pc := pc + 6, locals := ls, stack := .ref sa :: .ref T.heap.size :: .ref T.heap.size :: rest, locked := none }) rfl hsize rfl rfl (rest := rest) rfl
    (by rw [hb]; exact d6) (by rw [hb]; exact d9) hout hRframes (by simp only [List.map_cons, List.sum_cons, hcat]; omega) hlocks
  obtain ⟨f1, f2⟩ := vx_frame hsame
  rw [hhp] at f1 f2
  have hWs : s.WarmedH U.vm := State.WarmedH.trans hW0 hW
  have hcl : s.vm.findClass cls = some ce.cls := by
    have h9 := hO.cls
    rw [hvm] at h9
    exact h9
  have hall : s.sameButNew ({ U with vm := s.vm } : State) locs mc ms := by
    subst hA
    obtain ⟨e1, e2⟩ := hsame
    rw [State.setFrames_setFrames] at e1
    have h2 : (T.setVm s.vm).sameButNew ({ U with vm := s.vm } : State) [] (0 + 1) (0 + 6) := ⟨e1, e2⟩
    have h3 := X.same.trans h2
    rw [List.append_nil] at h3
    exact h3.mono hc hs
  refine ⟨U, ?_, .threw T.heap.size, hrun, hend, Or.inr ⟨T.heap.size, rfl, cls, ce, locs, hx U hWs.alike f1 (fun q hq => f2 q hq (fun z hz => nomatch hz)), hce, hO.vm, hcl, hWs, hall, hf⟩⟩
  refine st1 _ ?_
  show Steps p.tables e below (T1.setTop { method := m, pc := pc + 3, locals := ls, stack := .ref T.heap.size :: rest, locked := none }) _
  jvm_step X₁.here [X₁.here.top, hexec, d3', Value.category]
  exact X₁.ldcString hexec (own := own) (text := text) (index := is) (a := sa) hown' hstr'.1 hstr'.2
    (g := { method := m, pc := pc + 4, locals := ls, stack := .ref T.heap.size :: .ref T.heap.size :: rest, locked := none }) rfl d4' _ hsteps
/-- 'throw new E("text")', the text by a wide index -/
theorem vx_throwSW {cc : ByteArray} {pc : Nat} (hexec : p.tables.exec = Jvm.exec) (hb : c.code = cc) (hl : l.stackTraces = false) {own cls text : String} {names : List String} {ik is ic mc ms sa : Nat} {A : Nat → Prop}
    (hown : s.vm.findClass own = some m.cls) (hcls : Bundle.fit cls = true) (hnames : ∀ n ∈ names, Bundle.fit n = true)
    (hk : (Cond.classLink own ik cls).before args s = true) (hini : (Cond.initialized cls).before args s = true) (hstr : vk_R own is text sa s) (hat : ∀ w ∈ vx_atS own ic cls names, w.before args s = true)
    (hgood : ∀ w ∈ Cond.classLink own ik cls :: Cond.initialized cls :: vx_atS own ic cls names, vx_ot w = true)
    (hU : vx_Zq Bundle.tN "UNASSIGNED_STACK" Bundle.steD A s s.heap) (hN : vx_Zq Bundle.tN "SUPPRESSED_SENTINEL" Bundle.listD A s s.heap) (hS : va_S A s.heap H locs) (hsize : ls.size = c.maxLocals)
    (d0 : decode cc pc = .ok (.new ik, 3)) (d3 : decode cc (pc + 3) = .ok (.dup, 1)) (d4 : decode cc (pc + 4) = .ok (.ldc_w is, 3)) (d7 : decode cc (pc + 7) = .ok (.invokespecial ic, 3)) (d10 : decode cc (pc + 10) = .ok (.athrow, 1))
    (hout : ∀ x ∈ c.exceptionTable.toList, covers x (pc + 10) = false)
    (hRframes : names.length + 3 < R.frames) (hRlocals : (rest.map fun v => v.category).sum + (13 * (names.length + 1) + 43) ≤ R.locals) (hRcells : cells + 1 ≤ R.cells) (hRslots : slots + 6 ≤ R.slots) (hlocks : meth.locks = false)
    (hx : ∀ t : State, s.vm.Alike t.vm → H.size ≤ t.heap.size → (∀ q : Nat, q < H.size → t.heap[q]? = H[q]?) → XC cls s t)
    (hf : ∀ z ∈ locs, free z.base) (hc : cells + 1 ≤ mc) (hs : slots + 6 ≤ ms) :
    W p l e R s m args below meth c H locs cells slots (vx_MQ below Qc XC args s mc ms free) (F0 m pc ls rest) := by
  intro T hT X
  have htr : e.platform.stackTraces = false := (show e.platform.stackTraces = l.stackTraces by rw [X.admits.platform]).trans hl
  have Y := vx_rebase X (R' := { frames := R.frames, locals := R.locals, cells := 1, slots := 6 }) (Nat.le_refl _) (Nat.le_refl _) hRcells hRslots
  obtain ⟨s', hA⟩ : ∃ z, z = (T.setVm s.vm).setFrames (.invoking m args :: below) := ⟨_, rfl⟩
  rw [← hA] at Y
  have hvm : s'.vm = s.vm := by rw [hA]; rfl
  have hhp : s'.heap = H := by rw [hA]; exact hT
  have hW0 : s.WarmedH s'.vm := by rw [hvm]; exact State.WarmedH.refl s
  have hat' : ∀ w ∈ vx_atS own ic cls names, w.before args s' = true := fun w hw => vx_ot_at hW0 hvm.symm (hgood w (List.mem_cons_of_mem _ (List.mem_cons_of_mem _ hw))) (hat w hw)
  have hk' : (Cond.classLink own ik cls).before args s' = true := vx_ot_at hW0 hvm.symm (hgood _ List.mem_cons_self) hk
  have hini' : (Cond.initialized cls).before args s' = true := vx_ot_at hW0 hvm.symm (hgood _ (List.mem_cons_of_mem _ List.mem_cons_self)) hini
  have hU' : vx_Zq Bundle.tN "UNASSIGNED_STACK" Bundle.steD A s' s'.heap := by rw [hhp]; exact vx_Zq.moved hW0.alike (hU.kept hS.2.1)
  have hN' : vx_Zq Bundle.tN "SUPPRESSED_SENTINEL" Bundle.listD A s' s'.heap := by rw [hhp]; exact vx_Zq.moved hW0.alike (hN.kept hS.2.1)
  have h : ∀ w ∈ Bundle.ownAtoms own ic cls names, w.before args s' = true := vx_own hat' (vx_isRefq hU'.1) (vx_isRefq hN'.1) hU'.2.word hN'.2.word
  have hown' : s'.vm.findClass own = some m.cls := by rw [hvm]; exact hown
  have hins : (Cond.instantiable cls 6).before args s' = true := h _ (by simp [Bundle.ownAtoms])
  obtain ⟨vm₁, cX, kX, hfX, hkX, -, -, X₁, st1⟩ := Y.newCold hexec (own := own) (C := cls) (index := ik) (n := 6) hown' hk' hins hini'
    (g := F0 m pc ls rest) rfl (by rw [hb]; exact d0) (Nat.le_refl _) (Nat.le_refl _)
  generalize hT1 : (T.setVm vm₁).pushCell { cls := cX, slots := kX.instanceTypes.map defaultValue, vm := .none } = T1 at X₁ st1
  have hcat : (Value.ref T.heap.size).category = 1 := rfl
  have hcellA : T1.heap[T.heap.size]? = some (freshCell cX kX) := by rw [← hT1]; exact State.heap_pushCell_size _ _
  have d3' : decode c.code (pc + 3) = .ok (.dup, 1) := by rw [hb]; exact d3
  have d4' : decode c.code (pc + 4) = .ok (.ldc_w is, 3) := by rw [hb]; exact d4
  have hstr' : vk_R own is text sa s' := vk_R.warm hW0 hstr
  obtain ⟨U, hsteps, hrun, hend, hW, hsame, ce, hce, hO⟩ := X₁.ctorThrowS hexec htr (own := own) (cls := cls) (names := names) (ic := ic) hown' hcls hnames h (fun x hx => nomatch hx) hfX hkX hcellA (by rw [hhp, hT]; exact Nat.le_refl _) (msg := .ref sa) rfl
    (g := { method := m, pc := pc + 7, locals := ls, stack := .ref sa :: .ref T.heap.size :: .ref T.heap.size :: rest, locked := none }) rfl hsize rfl rfl (rest := rest) rfl
    (by rw [hb]; exact d7) (by rw [hb]; exact d10) hout hRframes (by simp only [List.map_cons, List.sum_cons, hcat]; omega) hlocks
  obtain ⟨f1, f2⟩ := vx_frame hsame
  rw [hhp] at f1 f2
  have hWs : s.WarmedH U.vm := State.WarmedH.trans hW0 hW
  have hcl : s.vm.findClass cls = some ce.cls := by
    have h9 := hO.cls
    rw [hvm] at h9
    exact h9
  have hall : s.sameButNew ({ U with vm := s.vm } : State) locs mc ms := by
    subst hA
    obtain ⟨e1, e2⟩ := hsame
    rw [State.setFrames_setFrames] at e1
    have h2 : (T.setVm s.vm).sameButNew ({ U with vm := s.vm } : State) [] (0 + 1) (0 + 6) := ⟨e1, e2⟩
    have h3 := X.same.trans h2
    rw [List.append_nil] at h3
    exact h3.mono hc hs
  refine ⟨U, ?_, .threw T.heap.size, hrun, hend, Or.inr ⟨T.heap.size, rfl, cls, ce, locs, hx U hWs.alike f1 (fun q hq => f2 q hq (fun z hz => nomatch hz)), hce, hO.vm, hcl, hWs, hall, hf⟩⟩
  refine st1 _ ?_
  show Steps p.tables e below (T1.setTop { method := m, pc := pc + 3, locals := ls, stack := .ref T.heap.size :: rest, locked := none }) _
  jvm_step X₁.here [X₁.here.top, hexec, d3', Value.category]
  exact X₁.ldcStringW hexec (own := own) (text := text) (index := is) (a := sa) hown' hstr'.1 hstr'.2
    (g := { method := m, pc := pc + 4, locals := ls, stack := .ref T.heap.size :: .ref T.heap.size :: rest, locked := none }) rfl d4' _ hsteps
end Ends
section Bodies
variable {l : Launch}
theorem vx_ofW {y : MethodName} {ws ws' : List Cond} {rm : Room} {Pc : Array Value → State → Prop} {Qc : Array Value → State → Outcome → State → Prop} {XC : String → State → State → Prop} {mc ms : Nat} {free : Addr → Prop} {cc : ByteArray} {maxL : Nat} {ret : Option FieldType}
    (hy : plainName y.cls = true) (hw : ws = Cond.code y cc maxL ret :: ws')
    (body : ∀ p e s m args below meth c s₁, BodyLoose p l y (headSpec ws rm) cc maxL ret e s m args below meth c s₁ → c.maxLocals = maxL → (∀ x ∈ c.exceptionTable.toList, False) → Pc args s →
      W p l e (headSpec ws rm).room s m args below meth c s.heap [] 0 0 (vx_MQ below Qc XC args s mc ms free) (entryFrame m args maxL)) : vx_Met l y ws rm Pc Qc XC mc ms free := by
  refine MetFree.of_bodyS (code := cc) (maxLocals := maxL) (ret := ret) hy ?_ ?_
  · intro args s m h hn
    obtain ⟨meth, c, h1, h2, h3, h4, h5, h6, -, -⟩ := Cond.code_spec hn (atoms_spec (ws := ws) h _ (by rw [hw]; exact List.mem_cons_self))
    exact ⟨meth, c, h1, h2, h3, h4, h5, h6⟩
  · intro p e s m args below meth c s₁ B hml hP _
    have hh0 : s₁.heap = s.heap := by rw [B.state]; rfl
    have ht : ∀ x ∈ c.exceptionTable.toList, False := by
      obtain ⟨meth9, c9, h1, h2, -, -, -, -, h7, -⟩ := Cond.code_spec B.named (atoms_spec (ws := ws) B.pre _ (by rw [hw]; exact List.mem_cons_self))
      cases Option.some.inj (h1.symm.trans B.method)
      cases Option.some.inj (h2.symm.trans (Stand.of_body B).code)
      intro x hx
      rw [Array.isEmpty_iff.mp h7] at hx
      cases hx
    obtain ⟨t, a1, o, b1, b2, b3⟩ := body p e s m args below meth c s₁ B hml ht hP s₁ hh0 (Stand.of_body B)
    exact ⟨t, o, a1, b1, b2, b3⟩
/-- the table of a body with handlers -/
theorem vx_table {p : Program} {x y : MethodName} {S : Spec} {cc bytes : ByteArray} {maxL maxL' : Nat} {ret ret' : Option FieldType} {e : Env} {s s₁ : State} {m : MethodId} {args : Array Value} {below : List Frame} {meth : Method} {c : Code} {hh : List (Nat × Nat × Nat × Nat)}
    (B : BodyLoose p l y S cc maxL ret e s m args below meth c s₁) (h : (Cond.codeWith y bytes maxL' ret' hh).before args s = true) : c.exceptionTable.toList = tableOf hh := by
  obtain ⟨m9, meth9, c9, hn9, h1, h2, -, -, h6, -⟩ := Cond.codeWith_spec h
  cases Option.some.inj (hn9.symm.trans B.named)
  cases Option.some.inj (h1.symm.trans B.method)
  cases Option.some.inj (h2.symm.trans (Stand.of_body B).code)
  rw [← h6, table_eq]
end Bodies
end VXA
/-! ===== END ===== -/
/-! ===== BEGIN a static call of a method with an exception table ===== -/
section VXS
variable {p : Program} {l : Launch} {e : Env} {R : Room} {s : State} {m : MethodId} {args : Array Value} {below : List Frame} {meth : Method} {c : Code} {T : State} {H : Heap} {locs : List Loc} {cells slots : Nat}
abbrev vx_CSW (R : Room) (s : State) (args : Array Value) (own : String) (index : Nat) (y : MethodName) (bytes : ByteArray) (maxL : Nat) (ret : Option FieldType) (hh : List (Nat × Nat × Nat × Nat)) (ws : List Cond) (rm : Room) (mc ms n : Nat) : Prop :=
  (rm.cells = mc ∧ rm.slots = ms ∧ rm.frames + 1 ≤ R.frames ∧ 8 + (maxL + 11) + rm.locals ≤ R.locals ∧ (∀ w ∈ ws, ∀ (a' : Array Value) (U : State), s.WarmedH U.vm → w.before a' U = true) ∧ Cond.codeWith y bytes maxL ret hh ∈ ws) ∧
  (Cond.codeWith y bytes maxL ret hh).before args s = true ∧ (Cond.initialized y.cls).before args s = true ∧ (y.cls ≠ "java/lang/invoke/MethodHandle" ∧ y.cls ≠ "java/lang/invoke/VarHandle") ∧
  (∀ sig, parseMethodDescriptor y.desc = some sig → n = sig.parameters.length) ∧ (Cond.methodLink own index y).before args s = true ∧ (Cond.static y).before args s = true
theorem vx_cwSW {own : String} {index maxL mc ms : Nat} {y : MethodName} {bytes : ByteArray} {ret : Option FieldType} {hh : List (Nat × Nat × Nat × Nat)} {Ts ws ws' : List Cond} {rm : Room} (n : Nat) (ht : ∀ w ∈ Ts, w.before args s = true) (hT : GoodIn Ts (va_wsS own index y ws)) (hw : ws = Cond.codeWith y bytes maxL ret hh :: ws') (hrc : rm.cells = mc) (hrs : rm.slots = ms)
    (hd : y.cls ≠ "java/lang/invoke/MethodHandle" ∧ y.cls ≠ "java/lang/invoke/VarHandle" ∧ (parseMethodDescriptor y.desc).map (fun d => d.parameters.length) = some n) (hR : rm.frames + 1 ≤ R.frames ∧ 8 + (maxL + 11) + rm.locals ≤ R.locals) :
    vx_CSW R s args own index y bytes maxL ret hh ws rm mc ms n := by
  have ok : ∀ w ∈ va_wsS own index y ws, w.before args s = true := fun w h => ht w (hT w h).1
  have hG : GoodIn Ts ws := fun w h => hT w (by unfold va_wsS; exact List.mem_append_right _ h)
  have hc : Cond.codeWith y bytes maxL ret hh ∈ ws := by rw [hw]; exact List.mem_cons_self
  refine ⟨⟨hrc, hrs, hR.1, hR.2, pay_in ht hG, hc⟩, ht _ (hG _ hc).1, ok _ (by simp [va_wsS]), ⟨hd.1, hd.2.1⟩, fun sig h => ?_, ok _ (by simp [va_wsS]), ok _ (by simp [va_wsS])⟩
  have h2 := hd.2.2
  rw [h] at h2
  exact (Option.some.inj h2).symm
theorem vx_callSW (X : Stand p l e R s m args below meth c T locs cells slots) (hexec : p.tables.exec = Jvm.exec) {own : String} {index : Nat} {y : MethodName} {bytes : ByteArray} {maxL : Nat} {ret : Option FieldType} {hh : List (Nat × Nat × Nat × Nat)}
    (hown : s.vm.findClass own = some m.cls) (hlink : (Cond.methodLink own index y).before args s = true) (hstat : (Cond.static y).before args s = true) (hinit : (Cond.initialized y.cls).before args s = true)
    (hcode : (Cond.codeWith y bytes maxL ret hh).before args s = true) (hy : y.cls ≠ "java/lang/invoke/MethodHandle" ∧ y.cls ≠ "java/lang/invoke/VarHandle")
    {W9 : Nat} {Pre : Pt → Array Value → Prop} {Post : Pt → Array Value → Option Value → Pt → Prop} (hK : Back l R p e below s args y 3 W9 Pre Post)
    {g : JFrame} (hg : g.method = m) (hsize : g.locals.size = c.maxLocals) {argsL rest : List Value} (hlen : ∀ sig, parseMethodDescriptor y.desc = some sig → argsL.length = sig.parameters.length)
    (hstack : g.stack = argsL.reverse ++ rest) (hW : 2 * g.monitorRoom + (rest.map fun v => v.category).sum ≤ W9) (hdg : decode c.code g.pc = .ok (.invokestatic index, 3))
    (hpre : ∀ vm₁, s.WarmedH vm₁ → Pre ⟨T.setVm vm₁, locs, cells, slots⟩ argsL.toArray) :
    ∃ (v : Option Value) (vm₁ : Vm) (B : Pt), s.WarmedH vm₁ ∧ Stand p l e R s m args below meth c B.U B.locs B.cells B.slots ∧ Post ⟨T.setVm vm₁, locs, cells, slots⟩ argsL.toArray v B ∧
      ∀ target, Steps p.tables e below (B.U.setTop { g with pc := g.pc + 3, stack := v.toList ++ rest }) target → Steps p.tables e below (T.setTop g) target := by
  obtain ⟨mk, methM, cM, hnamed, hmethM, -, -, -, -, -, -, hsigM⟩ := Cond.codeWith_spec hcode
  have hstatic : methM.isStatic = true := Cond.static_spec hnamed hmethM hstat
  obtain ⟨kP, hkP, -⟩ := className_of_methodNamed hnamed
  have hinitP : kP.init = .initialized := Cond.initialized_spec (findClass_of_methodNamed hnamed) hkP hinit
  obtain ⟨vm₁, X₁, hstep₁⟩ := X.invokestatic hexec hown hlink hnamed hmethM hstatic hkP hinitP hy (g := g) hg (argsL := argsL) (rest := rest) (hlen _ hsigM) hstack hdg
  obtain ⟨v, B, X', hpost, hsteps⟩ := hK m meth c ⟨T.setVm vm₁, locs, cells, slots⟩ { g with stack := rest } (.invokestatic index) mk argsL.toArray X₁ hg hsize hdg hW (X₁.named hnamed) (hpre vm₁ X₁.warmed)
  exact ⟨v, vm₁, B, X₁.warmed, X', hpost, fun target h => hstep₁ _ fun acts => by rw [doInvoke_state]; exact hsteps.trans h⟩
theorem vx_runSW {y : MethodName} {bytes cc : ByteArray} {maxL nL mc ms n index : Nat} {ret : Option FieldType} {hh : List (Nat × Nat × Nat × Nat)} {ws : List Cond} {rm : Room} {Pc : Array Value → State → Prop} {Qc : Array Value → State → Outcome → State → Prop} {free : Addr → Prop} {Ts : List Cond} {own : String} {As rest : List Value} {g : JFrame}
    (S : CallFix p m c cc nL s args Ts own) (hM : Met l y ws rm Pc Qc mc ms free) (cw : vx_CSW R s args own index y bytes maxL ret hh ws rm mc ms n) (hp : PreS s H Pc As)
    (hg : g.method = m) (hn : As.length = n) (hsize : g.locals.size = nL) (hstack : g.stack = As.reverse ++ rest) (hW : 2 * g.monitorRoom + (rest.map fun v => v.category).sum ≤ 8) (hdg : decode cc g.pc = .ok (.invokestatic index, 3)) (hf : cells + mc ≤ R.cells ∧ slots + ms ≤ R.slots) :
    va_Run p l e R s m args below meth c H locs cells slots mc ms g rest (Qc As.toArray) (free) := by
  obtain ⟨⟨hrc, hrs, hfr, hlo, hws, hcw⟩, hcode, hini, hy, hlen, hl, hstt⟩ := cw
  have hK : Back l R p e below s args y 3 8 (PreOf R mc ms Pc) (PostOf Qc mc ms free) := va_backW (hh := hh) (bytes := bytes) (maxL := maxL) (ret := ret) hM hp.1 hrc hrs hfr hlo hws hcw (fun a' U hW => word_at hW (Or.inl (by first | rfl | simp [Cond.onTables, Cond.keeps, Cond.steady])) hini)
  obtain ⟨hx, hb, hml, ho, -⟩ := S
  intro T hT X
  obtain ⟨v, vm₁, ⟨U', l2, c2, s2⟩, hW₁, X', ⟨g', mk, t, L, e1, e2, hq, h1, hL, h2, h3⟩, st⟩ := vx_callSW X hx (hh := hh) (bytes := bytes) (maxL := maxL) (ret := ret) ho hl hstt hini hcode hy hK hg (hsize.trans hml.symm) (argsL := As) (rest := rest) (fun sig h => hn.trans (hlen sig h)) hstack hW (by rw [hb]; exact hdg)
    (fun vm₁ hW₁ => ⟨hf.1, hf.2, hp.2 (T.setVm vm₁) hT hW₁⟩)
  dsimp only [Pt.U, Pt.locs, Pt.cells, Pt.slots] at X' e1 e2 h1 h2 h3 st
  subst h1; subst h2; subst h3
  exact ⟨v, (T.setVm vm₁).calling g' mk As.toArray, t, U', L, hT, X', hL, e1, e2, hq, st⟩
/-- not caught here, past rows that name other classes: it goes on to the caller -/
theorem vx_outP {p : Program} {l : Launch} {e : Env} {R : Room} {s : State} {m : MethodId} {args : Array Value} {below : List Frame} {meth : Method} {c : Code} {H : Heap} {locs : List Loc} {cells slots : Nat} {free : Addr → Prop} {ls : Array Slot} {rest : List Value} {Qc : Array Value → State → Outcome → State → Prop} {XC : String → State → State → Prop}
    {pc : Nat} {own E : String} {ce : Cell} {q : Addr} {mc ms : Nat} (hown : s.vm.findClass own = some m.cls) (hlocks : meth.locks = false)
    (hpass : ∀ z ∈ c.exceptionTable.toList, covers z pc = false ∨ (z.catchType ≠ 0 ∧ ∃ nm : String, (Cond.classLink own z.catchType nm).before args s = true ∧ va_Nc E nm s)) (hcell : H[q]? = some ce) (hv : ce.vm = .none) (hcl : s.vm.findClass E = some ce.cls)
    (hx : ∀ t : State, t.heap = H → s.vm.Alike t.vm → XC E s t) (hf : ∀ z ∈ locs, free z.base) (hc : cells ≤ mc) (hs : slots ≤ ms) :
    vx_W p l e R s m args below meth c H locs cells slots (vx_MQ below Qc XC args s mc ms free) (F0 m pc ls rest) q := by
  intro T hT X
  have hpl : e.platform.magicAccessors = ({} : Platform).magicAccessors := by rw [X.admits.platform]
  obtain ⟨vm', hW', X', st⟩ := X.outThrough hlocks q (g := F0 m pc ls rest) rfl rfl rfl (cell := ce) (by rw [hT]; exact hcell) (by rw [hv]; rfl)
    (by obtain ⟨k9, h9, -⟩ := Vm.findClass_spec hcl; exact ⟨k9, h9⟩) (fun z hz => by
      rcases hpass z hz with h | ⟨hz0, nm, hl1, hn1⟩
      · exact Or.inl h
      · obtain ⟨c6, hc6, hcl6⟩ := Cond.classLink_spec hown hl1 e.platform hpl
        obtain ⟨a8, b8, h1, h2, h3⟩ := hn1
        cases Option.some.inj (h1.symm.trans hcl)
        cases Option.some.inj (h2.symm.trans hc6)
        exact Or.inr ⟨hz0, _, hcl6, h3⟩)
  obtain ⟨g₀, hfr⟩ := X'.frames_eq
  have hcell9 : ((T.setVm vm').setFrames (.throwing q :: below)).heap[q]? = some ce := by
    show T.heap[q]? = some ce
    rw [hT]; exact hcell
  have hend : Ended ((T.setVm vm').setFrames (.throwing q :: below)) below (.threw q) := State.frames_setFrames _ (State.cur_lt_of_frames hfr)
  refine ⟨(T.setVm vm').setFrames (.throwing q :: below), ?_, .threw q, X'.here.running, hend, Or.inr ⟨q, rfl, E, ce, locs, hx _ hT (X'.ends _).1.alike, hcell9, hv, hcl, (X'.ends _).1, (X'.ends _).2.mono hc hs, hf⟩⟩
  rw [X.pushThrowing_eq]
  exact st
/-- a thing of a world lies in the heap -/
theorem vx_lt {D : va_G} {cl : List vw_C} {ws : va_W} {H1 : Heap} (h : va_P D cl ws H1) {k : Nat} {q : Nat × va_E} (hk : ws[k]? = some q) : q.1 < H1.size := (h k q hk).lt
end VXS
/-! ===== END ===== -/
/-! ===== BEGIN methods with a table of their own: called by a name, returning or throwing ===== -/
section VXH
/-! vx_backW, vx_callVX, vx_callSX, vx_callVW, vx_runVW, vx_runVX, vx_runSX, vx_ofWH follow the same proofs as their sisters above (Free/Laws.lean, Shelf42/LK1.lean); vx_outP calls Shelf42/NT130.lean (outThrough). -/
section
variable {l : Launch} {R : Room} {p : Program} {e : Env} {below : List Frame} {s : State} {sargs : Array Value} {y : MethodName} {len W9 : Nat}
theorem vx_backW {ws : List Cond} {rm : Room} {Pc : Array Value → State → Prop} {Qc : Array Value → State → Outcome → State → Prop} {XC : String → State → State → Prop} {mc ms : Nat} {free : Addr → Prop} {bytes : ByteArray} {maxL : Nat} {ret : Option FieldType} {hh : List (Nat × Nat × Nat × Nat)}
    (hM : vx_Met l y ws rm Pc Qc XC mc ms free) (hblind : FrameBlind Pc) (hrc : rm.cells = mc) (hrs : rm.slots = ms)
    (hframes : rm.frames + 1 ≤ R.frames) (hlocals : W9 + (maxL + 11) + rm.locals ≤ R.locals)
    (hws : ∀ w ∈ ws, ∀ a' U, s.WarmedH U.vm → w.before a' U = true) (hcode : Cond.codeWith y bytes maxL ret hh ∈ ws) (hinit : ∀ a' U, s.WarmedH U.vm → (Cond.initialized y.cls).before a' U = true) :
    vx_Back l R p e below s sargs y len W9 (PreOf R mc ms Pc) (PostOf Qc mc ms free) (vx_Post XC mc ms free) := by
  intro m meth c A g ig mk a X hg hsize hdg hW hn hp
  have h1 : (headSpec ws rm).pre.before a A.U = true := atoms_intro fun w hw => hws w hw _ _ X.warmed
  have h2 : (Cond.codeWith y bytes maxL ret hh).before a A.U = true := hws _ hcode _ _ X.warmed
  have h3 : (Cond.initialized y.cls).before a A.U = true := hinit _ _ X.warmed
  have h4 : A.cells + (headSpec ws rm).room.cells ≤ R.cells := by rw [show (headSpec ws rm).room.cells = mc from hrc]; exact hp.1
  have h5 : A.slots + (headSpec ws rm).room.slots ≤ R.slots := by rw [show (headSpec ws rm).room.slots = ms from hrs]; exact hp.2.1
  have hPc : Pc a (A.U.calling g mk a) := hblind _ _ _ _ hp.2.2
  obtain ⟨U, Ls, c0, s0⟩ := A
  dsimp only [Pt.U, Pt.locs, Pt.cells, Pt.slots] at h1 h2 h3 h4 h5 X hn hPc ⊢
  obtain ⟨m9, methY, cY, hn9, hmY, hcY, -, hlY, -⟩ := Cond.codeWith_spec h2
  cases Option.some.inj (hn9.symm.trans hn)
  obtain ⟨kY, hkY, -⟩ := className_of_methodNamed hn
  have hinitY : kY.init = .initialized := Cond.initialized_spec (findClass_of_methodNamed hn) hkY h3
  have h : At U g.method c below := by rw [hg]; exact X.here
  have hlocals9 : W9 + (maxL + 11) + (headSpec ws rm).room.locals ≤ R.locals := hlocals
  have happ : (headSpec ws rm).appliesLoose y e.platform (U.calling g mk a) = true :=
    Spec.appliesLoose_calling (g := g) h hdg hn hkY hinitY
      (X.room_calling (g := g) (R' := (headSpec ws rm).room) hsize hmY hcY hframes (by rw [hlY]; omega) h4 h5) h1
  obtain ⟨mid, hmid⟩ := h.above
  have hfr : (U.setTop g).frames = (.java g :: mid) ++ below := by rw [State.frames_setTop' g h.top, hmid]; rfl
  obtain ⟨o, s₂, hsteps, -, hend, hq⟩ := Steps.callFree hM p X.admits X.cas X.clock (acts := []) hfr happ hPc trivial
  have hq' : vx_Q Qc XC mc ms free a (U.calling g mk a) o s₂ := hq
  rw [State.frames_setTop' g h.top] at hend
  obtain ⟨g₀, hg0⟩ := Option.isSome_iff_exists.mp h.top
  obtain ⟨r, hr⟩ := State.topJava?_eq_some.mp hg0
  have hr' : (({ U with heap := s₂.heap, slotsUsed := s₂.slotsUsed } : State).setVm s₂.vm).frames = .java g₀ :: r := hr
  rcases hq' with ⟨hqc, L, hfe, hL⟩ | ⟨q, rfl, E, ce, L, hx, hce, hcv, hcl, hW₂, hsm, hL⟩
  · obtain ⟨⟨v, rfl⟩, hW₂, e2, q2, q3, q4, q5, q6⟩ := id hfe
    have e3 : s₂ = ({ (U.calling g mk a).setFrames s₂.frames with heap := s₂.heap, slotsUsed := s₂.slotsUsed } : State).setVm s₂.vm := by
      have : s₂ = ({ s₂ with vm := (U.calling g mk a).vm } : State).setVm s₂.vm := rfl
      rw [e2] at this
      exact this
    obtain ⟨c₂, i₂, len₂, hc₂, hd₂, hf₂⟩ := hend
    have hW' : U.WarmedH s₂.vm := hW₂
    have hcc : c₂ = c := by
      have h1 : s₂.code? g.method = U.code? g.method := by
        rw [State.code?_eq, State.code?_eq, hW'.alike.method?]
      exact Option.some.inj (hc₂.symm.trans (h1.trans h.code))
    subst hcc
    have hlen : len₂ = len := by rw [hdg] at hd₂; cases hd₂; rfl
    subst hlen
    have hs₂ : s₂ = (({ U with heap := s₂.heap, slotsUsed := s₂.slotsUsed } : State).setVm s₂.vm).setTop { g with pc := g.pc + len₂, stack := v.toList ++ g.stack } := by
      refine e3.trans ?_
      rw [hf₂, State.calling_eq h.top, State.setFrames_setFrames, State.setTop_of_frames _ hr', hr]
      rfl
    have hsame : U.sameButNew ({ U with heap := s₂.heap, slotsUsed := s₂.slotsUsed } : State) L mc ms := by
      refine ⟨?_, q2, q3, q4, q5, q6⟩
      obtain ⟨t, ht, -⟩ := State.frames_cons hr
      show ({ U with heap := s₂.heap, slotsUsed := s₂.slotsUsed } : State) = { U.setFrames U.frames with heap := s₂.heap, slotsUsed := s₂.slotsUsed }
      rw [State.setFrames_self ht]
    subst hg
    refine Or.inl ⟨v, ⟨(({ U with heap := s₂.heap, slotsUsed := s₂.slotsUsed } : State).setVm s₂.vm), Ls ++ L, c0 + mc, s0 + ms⟩,
      ⟨X.admits, X.cas, X.clock, X.frames, X.room, X.hears, X.method, X.code, (X.here.setHeapUsed s₂.heap s₂.slotsUsed).setVm hW'.alike, X.tail, State.WarmedH.trans X.warmed hW', X.limits, X.bytes, X.same.trans (hsame.setVm s.vm)⟩,
      ⟨g, mk, s₂, L, rfl, rfl, hqc, rfl, hL, rfl, rfl⟩, ?_⟩
    show Steps p.tables e below _ ((({ U with heap := s₂.heap, slotsUsed := s₂.slotsUsed } : State).setVm s₂.vm).setTop { g with pc := g.pc + len₂, stack := v.toList ++ g.stack })
    rw [← hs₂]
    exact hsteps
  · obtain ⟨e2, q2, q3, q4, q5, q6⟩ := id hsm
    have e3 : s₂ = ({ (U.calling g mk a).setFrames s₂.frames with heap := s₂.heap, slotsUsed := s₂.slotsUsed } : State).setVm s₂.vm := by
      have : s₂ = ({ s₂ with vm := (U.calling g mk a).vm } : State).setVm s₂.vm := rfl
      rw [e2] at this
      exact this
    have hf₂ : s₂.frames = .throwing q :: .java g :: U.frames.tail := hend
    have hW' : U.WarmedH s₂.vm := hW₂
    have hs₂ : s₂ = ((({ U with heap := s₂.heap, slotsUsed := s₂.slotsUsed } : State).setVm s₂.vm).setTop g).pushFrame (.throwing q) := by
      refine e3.trans ?_
      rw [hf₂, State.calling_eq h.top, State.setFrames_setFrames, State.pushFrame, State.frames_setTop _ hr', State.setTop_of_frames _ hr', State.setFrames_setFrames, hr]
      rfl
    have hsame : U.sameButNew ({ U with heap := s₂.heap, slotsUsed := s₂.slotsUsed } : State) L mc ms := by
      refine ⟨?_, q2, q3, q4, q5, q6⟩
      obtain ⟨t, ht, -⟩ := State.frames_cons hr
      show ({ U with heap := s₂.heap, slotsUsed := s₂.slotsUsed } : State) = { U.setFrames U.frames with heap := s₂.heap, slotsUsed := s₂.slotsUsed }
      rw [State.setFrames_self ht]
    subst hg
    refine Or.inr ⟨q, ⟨(({ U with heap := s₂.heap, slotsUsed := s₂.slotsUsed } : State).setVm s₂.vm), Ls ++ L, c0 + mc, s0 + ms⟩,
      ⟨X.admits, X.cas, X.clock, X.frames, X.room, X.hears, X.method, X.code, (X.here.setHeapUsed s₂.heap s₂.slotsUsed).setVm hW'.alike, X.tail, State.WarmedH.trans X.warmed hW', X.limits, X.bytes, X.same.trans (hsame.setVm s.vm)⟩,
      ⟨g, mk, s₂, L, E, ce, rfl, rfl, hx, hce, hcv, hcl, rfl, hL, rfl, rfl⟩, ?_⟩
    show Steps p.tables e below _ (((({ U with heap := s₂.heap, slotsUsed := s₂.slotsUsed } : State).setVm s₂.vm).setTop g).pushFrame (.throwing q))
    rw [← hs₂]
    exact hsteps
end
variable {p : Program} {l : Launch} {e : Env} {R : Room} {s : State} {m : MethodId} {args : Array Value} {below : List Frame} {meth : Method} {c : Code} {T : State} {H : Heap} {locs : List Loc} {cells slots : Nat}
theorem vx_callVX (X : Stand p l e R s m args below meth c T locs cells slots) (hexec : p.tables.exec = Jvm.exec) {own C : String} {index : Nat} {y : MethodName} {bytes : ByteArray} {maxL : Nat} {ret : Option FieldType} {hh : List (Nat × Nat × Nat × Nat)}
    (hown : s.vm.findClass own = some m.cls) (hlink : (Cond.methodLink own index y).before args s = true) (hinst : (Cond.instanceMethod y).before args s = true) (hsel : (Cond.selects C y y).before args s = true)
    (hcode : (Cond.codeWith y bytes maxL ret hh).before args s = true) (hy : y.cls ≠ "java/lang/invoke/MethodHandle" ∧ y.cls ≠ "java/lang/invoke/VarHandle")
    {W9 : Nat} {Pre : Pt → Array Value → Prop} {Post : Pt → Array Value → Option Value → Pt → Prop} {PostX : Pt → Array Value → Addr → Pt → Prop} (hK : vx_Back l R p e below s args y 3 W9 Pre Post PostX)
    {b : Addr} {cellB : Cell} (hcell : T.heap[b]? = some cellB) (hobj : cellB.vm.isStatics = false) (hcls : s.vm.findClass C = some cellB.cls)
    {g : JFrame} (hg : g.method = m) (hsize : g.locals.size = c.maxLocals) {argsL rest : List Value} (hlen : ∀ sig, parseMethodDescriptor y.desc = some sig → argsL.length = sig.parameters.length)
    (hstack : g.stack = argsL.reverse ++ .ref b :: rest) (hW : 2 * g.monitorRoom + (rest.map fun v => v.category).sum ≤ W9) (hdg : decode c.code g.pc = .ok (.invokevirtual index, 3))
    (hpre : ∀ vm₁, s.WarmedH vm₁ → Pre ⟨T.setVm vm₁, locs, cells, slots⟩ (Value.ref b :: argsL).toArray) :
    (∃ (v : Option Value) (vm₁ : Vm) (B : Pt), s.WarmedH vm₁ ∧ Stand p l e R s m args below meth c B.U B.locs B.cells B.slots ∧ Post ⟨T.setVm vm₁, locs, cells, slots⟩ (Value.ref b :: argsL).toArray v B ∧
      ∀ target, Steps p.tables e below (B.U.setTop { g with pc := g.pc + 3, stack := v.toList ++ rest }) target → Steps p.tables e below (T.setTop g) target) ∨
    (∃ (q : Addr) (vm₁ : Vm) (B : Pt), s.WarmedH vm₁ ∧ Stand p l e R s m args below meth c B.U B.locs B.cells B.slots ∧ PostX ⟨T.setVm vm₁, locs, cells, slots⟩ (Value.ref b :: argsL).toArray q B ∧
      Steps p.tables e below (T.setTop g) ((B.U.setTop { g with stack := rest }).pushFrame (.throwing q))) := by
  obtain ⟨mk, methM, hnamed, hmethM, hstM, habM⟩ := Cond.instanceMethod_spec hinst
  obtain ⟨m8, methM', cM, hn8, hmethM', -, -, -, -, -, -, hsigM⟩ := Cond.codeWith_spec hcode
  cases Option.some.inj (hn8.symm.trans hnamed)
  cases hmethM.symm.trans hmethM'
  obtain ⟨c2, r2, m2, q1, q2, q3, q4, kP, hkP, hkPi⟩ := Cond.selects_spec hsel
  cases hcls.symm.trans q1
  cases (State.methodFound?_of_named hnamed hy).symm.trans q2
  cases hnamed.symm.trans q3
  have hselP : selectMethod e.platform s.vm cellB.cls mk = .method mk := by rw [Launch.admits_selectMethod X.admits]; exact q4
  obtain ⟨vm₁, X₁, hstep₁⟩ := X.invokevirtual hexec hown hlink hnamed hmethM hstM hkP hkPi hy (a := b) (cell := cellB) hcell
    (fun z h => by rw [h] at hobj; cases hobj) hselP hmethM habM hkP hkPi (g := g) hg (argsL := argsL) (rest := rest) (hlen _ hsigM) hstack hdg
  rcases hK m meth c ⟨T.setVm vm₁, locs, cells, slots⟩ { g with stack := rest } (.invokevirtual index) mk (Value.ref b :: argsL).toArray X₁ hg hsize hdg hW (X₁.named hnamed) (hpre vm₁ X₁.warmed) with ⟨v, B, X', hpost, hsteps⟩ | ⟨q, B, X', hpost, hsteps⟩
  · exact Or.inl ⟨v, vm₁, B, X₁.warmed, X', hpost, fun target h => hstep₁ _ fun acts => by rw [doInvoke_state]; exact hsteps.trans h⟩
  · exact Or.inr ⟨q, vm₁, B, X₁.warmed, X', hpost, hstep₁ _ fun acts => by rw [doInvoke_state]; exact hsteps⟩
theorem vx_callSX (X : Stand p l e R s m args below meth c T locs cells slots) (hexec : p.tables.exec = Jvm.exec) {own : String} {index : Nat} {y : MethodName} {bytes : ByteArray} {maxL : Nat} {ret : Option FieldType} {hh : List (Nat × Nat × Nat × Nat)}
    (hown : s.vm.findClass own = some m.cls) (hlink : (Cond.methodLink own index y).before args s = true) (hstat : (Cond.static y).before args s = true) (hinit : (Cond.initialized y.cls).before args s = true)
    (hcode : (Cond.codeWith y bytes maxL ret hh).before args s = true) (hy : y.cls ≠ "java/lang/invoke/MethodHandle" ∧ y.cls ≠ "java/lang/invoke/VarHandle")
    {W9 : Nat} {Pre : Pt → Array Value → Prop} {Post : Pt → Array Value → Option Value → Pt → Prop} {PostX : Pt → Array Value → Addr → Pt → Prop} (hK : vx_Back l R p e below s args y 3 W9 Pre Post PostX)
    {g : JFrame} (hg : g.method = m) (hsize : g.locals.size = c.maxLocals) {argsL rest : List Value} (hlen : ∀ sig, parseMethodDescriptor y.desc = some sig → argsL.length = sig.parameters.length)
    (hstack : g.stack = argsL.reverse ++ rest) (hW : 2 * g.monitorRoom + (rest.map fun v => v.category).sum ≤ W9) (hdg : decode c.code g.pc = .ok (.invokestatic index, 3))
    (hpre : ∀ vm₁, s.WarmedH vm₁ → Pre ⟨T.setVm vm₁, locs, cells, slots⟩ argsL.toArray) :
    (∃ (v : Option Value) (vm₁ : Vm) (B : Pt), s.WarmedH vm₁ ∧ Stand p l e R s m args below meth c B.U B.locs B.cells B.slots ∧ Post ⟨T.setVm vm₁, locs, cells, slots⟩ argsL.toArray v B ∧
      ∀ target, Steps p.tables e below (B.U.setTop { g with pc := g.pc + 3, stack := v.toList ++ rest }) target → Steps p.tables e below (T.setTop g) target) ∨
    (∃ (q : Addr) (vm₁ : Vm) (B : Pt), s.WarmedH vm₁ ∧ Stand p l e R s m args below meth c B.U B.locs B.cells B.slots ∧ PostX ⟨T.setVm vm₁, locs, cells, slots⟩ argsL.toArray q B ∧
      Steps p.tables e below (T.setTop g) ((B.U.setTop { g with stack := rest }).pushFrame (.throwing q))) := by
  obtain ⟨mk, methM, cM, hnamed, hmethM, -, -, -, -, -, -, hsigM⟩ := Cond.codeWith_spec hcode
  have hstatic : methM.isStatic = true := Cond.static_spec hnamed hmethM hstat
  obtain ⟨kP, hkP, -⟩ := className_of_methodNamed hnamed
  have hinitP : kP.init = .initialized := Cond.initialized_spec (findClass_of_methodNamed hnamed) hkP hinit
  obtain ⟨vm₁, X₁, hstep₁⟩ := X.invokestatic hexec hown hlink hnamed hmethM hstatic hkP hinitP hy (g := g) hg (argsL := argsL) (rest := rest) (hlen _ hsigM) hstack hdg
  rcases hK m meth c ⟨T.setVm vm₁, locs, cells, slots⟩ { g with stack := rest } (.invokestatic index) mk argsL.toArray X₁ hg hsize hdg hW (X₁.named hnamed) (hpre vm₁ X₁.warmed) with ⟨v, B, X', hpost, hsteps⟩ | ⟨q, B, X', hpost, hsteps⟩
  · exact Or.inl ⟨v, vm₁, B, X₁.warmed, X', hpost, fun target h => hstep₁ _ fun acts => by rw [doInvoke_state]; exact hsteps.trans h⟩
  · exact Or.inr ⟨q, vm₁, B, X₁.warmed, X', hpost, hstep₁ _ fun acts => by rw [doInvoke_state]; exact hsteps⟩
theorem vx_callVW (X : Stand p l e R s m args below meth c T locs cells slots) (hexec : p.tables.exec = Jvm.exec) {own C : String} {index : Nat} {y : MethodName} {bytes : ByteArray} {maxL : Nat} {ret : Option FieldType} {hh : List (Nat × Nat × Nat × Nat)}
    (hown : s.vm.findClass own = some m.cls) (hlink : (Cond.methodLink own index y).before args s = true) (hinst : (Cond.instanceMethod y).before args s = true) (hsel : (Cond.selects C y y).before args s = true)
    (hcode : (Cond.codeWith y bytes maxL ret hh).before args s = true) (hy : y.cls ≠ "java/lang/invoke/MethodHandle" ∧ y.cls ≠ "java/lang/invoke/VarHandle")
    {W9 : Nat} {Pre : Pt → Array Value → Prop} {Post : Pt → Array Value → Option Value → Pt → Prop} (hK : Back l R p e below s args y 3 W9 Pre Post)
    {b : Addr} {cellB : Cell} (hcell : T.heap[b]? = some cellB) (hobj : cellB.vm.isStatics = false) (hcls : s.vm.findClass C = some cellB.cls)
    {g : JFrame} (hg : g.method = m) (hsize : g.locals.size = c.maxLocals) {argsL rest : List Value} (hlen : ∀ sig, parseMethodDescriptor y.desc = some sig → argsL.length = sig.parameters.length)
    (hstack : g.stack = argsL.reverse ++ .ref b :: rest) (hW : 2 * g.monitorRoom + (rest.map fun v => v.category).sum ≤ W9) (hdg : decode c.code g.pc = .ok (.invokevirtual index, 3))
    (hpre : ∀ vm₁, s.WarmedH vm₁ → Pre ⟨T.setVm vm₁, locs, cells, slots⟩ (Value.ref b :: argsL).toArray) :
    ∃ (v : Option Value) (vm₁ : Vm) (B : Pt), s.WarmedH vm₁ ∧ Stand p l e R s m args below meth c B.U B.locs B.cells B.slots ∧ Post ⟨T.setVm vm₁, locs, cells, slots⟩ (Value.ref b :: argsL).toArray v B ∧
      ∀ target, Steps p.tables e below (B.U.setTop { g with pc := g.pc + 3, stack := v.toList ++ rest }) target → Steps p.tables e below (T.setTop g) target := by
  obtain ⟨mk, methM, hnamed, hmethM, hstM, habM⟩ := Cond.instanceMethod_spec hinst
  obtain ⟨m8, methM', cM, hn8, hmethM', -, -, -, -, -, -, hsigM⟩ := Cond.codeWith_spec hcode
  cases Option.some.inj (hn8.symm.trans hnamed)
  cases hmethM.symm.trans hmethM'
  obtain ⟨c2, r2, m2, q1, q2, q3, q4, kP, hkP, hkPi⟩ := Cond.selects_spec hsel
  cases hcls.symm.trans q1
  cases (State.methodFound?_of_named hnamed hy).symm.trans q2
  cases hnamed.symm.trans q3
  have hselP : selectMethod e.platform s.vm cellB.cls mk = .method mk := by rw [Launch.admits_selectMethod X.admits]; exact q4
  obtain ⟨vm₁, X₁, hstep₁⟩ := X.invokevirtual hexec hown hlink hnamed hmethM hstM hkP hkPi hy (a := b) (cell := cellB) hcell
    (fun z h => by rw [h] at hobj; cases hobj) hselP hmethM habM hkP hkPi (g := g) hg (argsL := argsL) (rest := rest) (hlen _ hsigM) hstack hdg
  obtain ⟨v, B, X', hpost, hsteps⟩ := hK m meth c ⟨T.setVm vm₁, locs, cells, slots⟩ { g with stack := rest } (.invokevirtual index) mk (Value.ref b :: argsL).toArray X₁ hg hsize hdg hW (X₁.named hnamed) (hpre vm₁ X₁.warmed)
  exact ⟨v, vm₁, B, X₁.warmed, X', hpost, fun target h => hstep₁ _ fun acts => by rw [doInvoke_state]; exact hsteps.trans h⟩
abbrev vx_CVW (R : Room) (s : State) (args : Array Value) (own C : String) (index : Nat) (y : MethodName) (bytes : ByteArray) (maxL : Nat) (ret : Option FieldType) (hh : List (Nat × Nat × Nat × Nat)) (ws : List Cond) (rm : Room) (mc ms n : Nat) : Prop :=
  (rm.cells = mc ∧ rm.slots = ms ∧ rm.frames + 1 ≤ R.frames ∧ 8 + (maxL + 11) + rm.locals ≤ R.locals ∧ (∀ w ∈ ws, ∀ (a' : Array Value) (U : State), s.WarmedH U.vm → w.before a' U = true) ∧ Cond.codeWith y bytes maxL ret hh ∈ ws) ∧
  (Cond.codeWith y bytes maxL ret hh).before args s = true ∧ (Cond.initialized y.cls).before args s = true ∧ (y.cls ≠ "java/lang/invoke/MethodHandle" ∧ y.cls ≠ "java/lang/invoke/VarHandle") ∧
  (∀ sig, parseMethodDescriptor y.desc = some sig → n = sig.parameters.length) ∧ (Cond.methodLink own index y).before args s = true ∧ (Cond.instanceMethod y).before args s = true ∧ (Cond.selects C y y).before args s = true
theorem vx_cwVW {own C : String} {index maxL mc ms : Nat} {y : MethodName} {bytes : ByteArray} {ret : Option FieldType} {hh : List (Nat × Nat × Nat × Nat)} {Ts ws ws' : List Cond} {rm : Room} (n : Nat) (ht : ∀ w ∈ Ts, w.before args s = true) (hT : GoodIn Ts (wsV own index C y ws)) (hw : ws = Cond.codeWith y bytes maxL ret hh :: ws') (hrc : rm.cells = mc) (hrs : rm.slots = ms)
    (hd : y.cls = C ∧ y.cls ≠ "java/lang/invoke/MethodHandle" ∧ y.cls ≠ "java/lang/invoke/VarHandle" ∧ (parseMethodDescriptor y.desc).map (fun d => d.parameters.length) = some n) (hR : rm.frames + 1 ≤ R.frames ∧ 8 + (maxL + 11) + rm.locals ≤ R.locals) :
    vx_CVW R s args own C index y bytes maxL ret hh ws rm mc ms n := by
  obtain ⟨hC, hd⟩ := hd
  subst hC
  have ok : ∀ w ∈ wsV own index y.cls y ws, w.before args s = true := fun w h => ht w (hT w h).1
  have hG : GoodIn Ts ws := fun w h => hT w (by unfold wsV; exact List.mem_append_right _ h)
  have hc : Cond.codeWith y bytes maxL ret hh ∈ ws := by rw [hw]; exact List.mem_cons_self
  refine ⟨⟨hrc, hrs, hR.1, hR.2, pay_in ht hG, hc⟩, ht _ (hG _ hc).1, ok _ (by simp [wsV]), ⟨hd.1, hd.2.1⟩, fun sig h => ?_, ok _ (by simp [wsV]), ok _ (by simp [wsV]), ok _ (by simp [wsV])⟩
  have h2 := hd.2.2
  rw [h] at h2
  exact (Option.some.inj h2).symm
theorem vx_runVW {y : MethodName} {bytes cc : ByteArray} {maxL nL mc ms n index : Nat} {ret : Option FieldType} {hh : List (Nat × Nat × Nat × Nat)} {ws : List Cond} {rm : Room} {Pc : Array Value → State → Prop} {Qc : Array Value → State → Outcome → State → Prop} {free : Addr → Prop} {Ts : List Cond} {own C : String} {b : Addr} {As rest : List Value} {g : JFrame}
    (S : CallFix p m c cc nL s args Ts own) (hM : Met l y ws rm Pc Qc mc ms free) (cw : vx_CVW R s args own C index y bytes maxL ret hh ws rm mc ms n) (hp : PreV s H C b Pc As)
    (hg : g.method = m) (hn : As.length = n) (hsize : g.locals.size = nL) (hstack : g.stack = As.reverse ++ .ref b :: rest) (hW : 2 * g.monitorRoom + (rest.map fun v => v.category).sum ≤ 8) (hdg : decode cc g.pc = .ok (.invokevirtual index, 3)) (hf : cells + mc ≤ R.cells ∧ slots + ms ≤ R.slots) :
    va_Run p l e R s m args below meth c H locs cells slots mc ms g rest (Qc (Value.ref b :: As).toArray) free := by
  obtain ⟨⟨hrc, hrs, hfr, hlo, hws, hcw⟩, hcode, hini, hy, hlen, hl, hin, hse⟩ := cw
  have hK : Back l R p e below s args y 3 8 (PreOf R mc ms Pc) (PostOf Qc mc ms free) := va_backW (hh := hh) (bytes := bytes) (maxL := maxL) (ret := ret) hM hp.1 hrc hrs hfr hlo hws hcw (fun a' U hW => word_at hW (Or.inl (by first | rfl | simp [Cond.onTables, Cond.keeps, Cond.steady])) hini)
  obtain ⟨hx, hb, hml, ho, -⟩ := S
  obtain ⟨-, ⟨cellB, hcB, hoB, hclB⟩, hPc⟩ := hp
  intro T hT X
  obtain ⟨v, vm₁, ⟨U', l2, c2, s2⟩, hW₁, X', ⟨g', mk, t, L, e1, e2, hq, h1, hL, h2, h3⟩, st⟩ := vx_callVW X hx (C := C) (hh := hh) (bytes := bytes) (maxL := maxL) (ret := ret) ho hl hin hse hcode hy hK (by rw [hT]; exact hcB) hoB hclB hg (hsize.trans hml.symm) (argsL := As) (rest := rest) (fun sig h => hn.trans (hlen sig h)) hstack hW (by rw [hb]; exact hdg)
    (fun vm₁ hW₁ => ⟨hf.1, hf.2, hPc (T.setVm vm₁) hT hW₁⟩)
  dsimp only [Pt.U, Pt.locs, Pt.cells, Pt.slots] at X' e1 e2 h1 h2 h3 st
  subst h1; subst h2; subst h3
  exact ⟨v, (T.setVm vm₁).calling g' mk (Value.ref b :: As).toArray, t, U', L, hT, X', hL, e1, e2, hq, st⟩
section
variable {y : MethodName} {bytes cc : ByteArray} {maxL nL mc ms n index : Nat} {ret : Option FieldType} {ws : List Cond} {rm : Room} {Pc : Array Value → State → Prop} {Qc : Array Value → State → Outcome → State → Prop} {XC : String → State → State → Prop} {free : Addr → Prop} {Ts : List Cond} {own C : String} {b : Addr} {As rest : List Value} {g : JFrame}
theorem vx_runVX {hh : List (Nat × Nat × Nat × Nat)} (S : CallFix p m c cc nL s args Ts own) (hM : vx_Met l y ws rm Pc Qc XC mc ms free) (cw : vx_CVW R s args own C index y bytes maxL ret hh ws rm mc ms n) (hp : PreV s H C b Pc As)
    (hg : g.method = m) (hn : As.length = n) (hsize : g.locals.size = nL) (hstack : g.stack = As.reverse ++ .ref b :: rest) (hW : 2 * g.monitorRoom + (rest.map fun v => v.category).sum ≤ 8) (hdg : decode cc g.pc = .ok (.invokevirtual index, 3)) (hf : cells + mc ≤ R.cells ∧ slots + ms ≤ R.slots) :
    vx_Run p l e R s m args below meth c H locs cells slots mc ms g rest (Qc (Value.ref b :: As).toArray) XC free := by
  obtain ⟨⟨hrc, hrs, hfr, hlo, hws, hcw⟩, hcode, hini, hy, hlen, hl, hin, hse⟩ := cw
  have hK : vx_Back l R p e below s args y 3 8 (PreOf R mc ms Pc) (PostOf Qc mc ms free) (vx_Post XC mc ms free) := vx_backW (hh := hh) (bytes := bytes) (maxL := maxL) (ret := ret) hM hp.1 hrc hrs hfr hlo hws hcw (fun a' U hW => word_at hW (Or.inl (by first | rfl | simp [Cond.onTables, Cond.keeps, Cond.steady])) hini)
  obtain ⟨hx, hb, hml, ho, -⟩ := S
  obtain ⟨-, ⟨cellB, hcB, hoB, hclB⟩, hPc⟩ := hp
  intro T hT X
  rcases vx_callVX X hx (C := C) (hh := hh) (bytes := bytes) (maxL := maxL) (ret := ret) ho hl hin hse hcode hy hK (by rw [hT]; exact hcB) hoB hclB hg (hsize.trans hml.symm) (argsL := As) (rest := rest) (fun sig h => hn.trans (hlen sig h)) hstack hW (by rw [hb]; exact hdg)
    (fun vm₁ hW₁ => ⟨hf.1, hf.2, hPc (T.setVm vm₁) hT hW₁⟩) with ⟨v, vm₁, ⟨U', l2, c2, s2⟩, hW₁, X', ⟨g', mk, t, L, e1, e2, hq, h1, hL, h2, h3⟩, st⟩ | ⟨q, vm₁, ⟨U', l2, c2, s2⟩, hW₁, X', ⟨g', mk, t, L, E, ce, e1, e2, hq, hce, hcv, hcl, h1, hL, h2, h3⟩, st⟩
  · dsimp only [Pt.U, Pt.locs, Pt.cells, Pt.slots] at X' e1 e2 h1 h2 h3 st
    subst h1; subst h2; subst h3
    exact Or.inl ⟨v, (T.setVm vm₁).calling g' mk (Value.ref b :: As).toArray, t, U', L, hT, X', hL, e1, e2, hq, st⟩
  · dsimp only [Pt.U, Pt.locs, Pt.cells, Pt.slots] at X' e1 e2 h1 h2 h3 st hcl
    subst h1; subst h2; subst h3
    exact Or.inr ⟨q, (T.setVm vm₁).calling g' mk (Value.ref b :: As).toArray, t, U', L, E, ce, hT, X', hL, e1, e2, hq, hce, hcv, vx_cls hW₁ hcl, st⟩
theorem vx_runSX {hh : List (Nat × Nat × Nat × Nat)} (S : CallFix p m c cc nL s args Ts own) (hM : vx_Met l y ws rm Pc Qc XC mc ms free) (cw : vx_CSW R s args own index y bytes maxL ret hh ws rm mc ms n) (hp : PreS s H Pc As)
    (hg : g.method = m) (hn : As.length = n) (hsize : g.locals.size = nL) (hstack : g.stack = As.reverse ++ rest) (hW : 2 * g.monitorRoom + (rest.map fun v => v.category).sum ≤ 8) (hdg : decode cc g.pc = .ok (.invokestatic index, 3)) (hf : cells + mc ≤ R.cells ∧ slots + ms ≤ R.slots) :
    vx_Run p l e R s m args below meth c H locs cells slots mc ms g rest (Qc As.toArray) XC free := by
  obtain ⟨⟨hrc, hrs, hfr, hlo, hws, hcw⟩, hcode, hini, hy, hlen, hl, hstt⟩ := cw
  have hK : vx_Back l R p e below s args y 3 8 (PreOf R mc ms Pc) (PostOf Qc mc ms free) (vx_Post XC mc ms free) := vx_backW (hh := hh) (bytes := bytes) (maxL := maxL) (ret := ret) hM hp.1 hrc hrs hfr hlo hws hcw (fun a' U hW => word_at hW (Or.inl (by first | rfl | simp [Cond.onTables, Cond.keeps, Cond.steady])) hini)
  obtain ⟨hx, hb, hml, ho, -⟩ := S
  intro T hT X
  rcases vx_callSX X hx (hh := hh) (bytes := bytes) (maxL := maxL) (ret := ret) ho hl hstt hini hcode hy hK hg (hsize.trans hml.symm) (argsL := As) (rest := rest) (fun sig h => hn.trans (hlen sig h)) hstack hW (by rw [hb]; exact hdg)
    (fun vm₁ hW₁ => ⟨hf.1, hf.2, hp.2 (T.setVm vm₁) hT hW₁⟩) with ⟨v, vm₁, ⟨U', l2, c2, s2⟩, hW₁, X', ⟨g', mk, t, L, e1, e2, hq, h1, hL, h2, h3⟩, st⟩ | ⟨q, vm₁, ⟨U', l2, c2, s2⟩, hW₁, X', ⟨g', mk, t, L, E, ce, e1, e2, hq, hce, hcv, hcl, h1, hL, h2, h3⟩, st⟩
  · dsimp only [Pt.U, Pt.locs, Pt.cells, Pt.slots] at X' e1 e2 h1 h2 h3 st
    subst h1; subst h2; subst h3
    exact Or.inl ⟨v, (T.setVm vm₁).calling g' mk As.toArray, t, U', L, hT, X', hL, e1, e2, hq, st⟩
  · dsimp only [Pt.U, Pt.locs, Pt.cells, Pt.slots] at X' e1 e2 h1 h2 h3 st hcl
    subst h1; subst h2; subst h3
    exact Or.inr ⟨q, (T.setVm vm₁).calling g' mk As.toArray, t, U', L, E, ce, hT, X', hL, e1, e2, hq, hce, hcv, vx_cls hW₁ hcl, st⟩
end
end VXH
theorem vx_ofWH {l : Launch} {y : MethodName} {ws ws' : List Cond} {rm : Room} {Pc : Array Value → State → Prop} {Qc : Array Value → State → Outcome → State → Prop} {XC : String → State → State → Prop} {mc ms : Nat} {free : Addr → Prop} {cc : ByteArray} {maxL : Nat} {ret : Option FieldType} {hh : List (Nat × Nat × Nat × Nat)}
    (hy : plainName y.cls = true) (hw : ws = Cond.codeWith y cc maxL ret hh :: ws')
    (body : ∀ p e s m args below meth c s₁, BodyLoose p l y (headSpec ws rm) cc maxL ret e s m args below meth c s₁ → c.maxLocals = maxL → Pc args s →
      W p l e (headSpec ws rm).room s m args below meth c s.heap [] 0 0 (vx_MQ below Qc XC args s mc ms free) (entryFrame m args maxL)) : vx_Met l y ws rm Pc Qc XC mc ms free := by
  refine MetFree.of_bodyS (code := cc) (maxLocals := maxL) (ret := ret) hy ?_ ?_
  · intro args s m h hn
    obtain ⟨m9, meth, c, hn9, h1, h2, h3, h4, -, h5, h6, -⟩ := Cond.codeWith_spec (atoms_spec (ws := ws) h _ (by rw [hw]; exact List.mem_cons_self))
    cases hn.symm.trans hn9
    exact ⟨meth, c, h1, h2, h3, h4, h5, h6⟩
  · intro p e s m args below meth c s₁ B hml hP _
    have hh0 : s₁.heap = s.heap := by rw [B.state]; rfl
    obtain ⟨t, a1, o, b1, b2, b3⟩ := body p e s m args below meth c s₁ B hml hP s₁ hh0 (Stand.of_body B)
    exact ⟨t, o, a1, b1, b2, b3⟩
/-! ===== END ===== -/
end
section
/-! worlds as partial maps from addresses to cells -/
abbrev sx_M : Type := Nat → Option va_E
def sx_up (μ : sx_M) (a : Nat) (e : va_E) : sx_M := fun b => if b = a then some e else μ b
theorem sx_up_s (μ : sx_M) (a : Nat) (e : va_E) : sx_up μ a e a = some e := by simp [sx_up]
theorem sx_up_n (μ : sx_M) {a b : Nat} (e : va_E) (h : b ≠ a) : sx_up μ a e b = μ b := by simp [sx_up, h]
theorem sx_up_up (μ : sx_M) (a : Nat) (e f : va_E) : sx_up (sx_up μ a e) a f = sx_up μ a f := by
  funext b
  by_cases h : b = a
  · subst h; rw [sx_up_s, sx_up_s]
  · rw [sx_up_n _ _ h, sx_up_n _ _ h, sx_up_n _ _ h]
theorem sx_up_id (μ : sx_M) {a : Nat} {e : va_E} (h : μ a = some e) : sx_up μ a e = μ := by
  funext b
  by_cases hb : b = a
  · subst hb; rw [sx_up_s, h]
  · rw [sx_up_n _ _ hb]
def sx_L (μ : sx_M) (ws : va_W) : Prop := ∀ (a : Nat) (e : va_E), μ a = some e ↔ ∃ k : Nat, ws[k]? = some (a, e)
/-- the heap holds the cells of the map; they lie in A -/
def sx_H (D : va_G) (cl : List vw_C) (A : Nat → Prop) (μ : sx_M) (H : Heap) : Prop := ∃ ws : va_W, va_P D cl ws H ∧ va_D A ws ∧ sx_L μ ws
def sx_A (μ : sx_M) (sz : Nat) : Nat → Prop := fun q => (∃ e, μ q = some e) ∨ sz ≤ q
theorem sx_L_set {μ : sx_M} {ws : va_W} {A : Nat → Prop} {k a : Nat} {e0 : va_E} (e : va_E) (hL : sx_L μ ws) (hD : va_D A ws) (hk : ws[k]? = some (a, e0)) : sx_L (sx_up μ a e) (ws.set k (a, e)) := by
  have hl := (List.getElem?_eq_some_iff.mp hk).1
  intro b x
  by_cases hb : b = a
  · subst hb
    rw [sx_up_s]
    constructor
    · intro h
      cases h
      exact ⟨k, List.getElem?_set_self hl⟩
    · rintro ⟨j, hj⟩
      by_cases hjk : j = k
      · subst hjk
        rw [List.getElem?_set_self hl] at hj
        cases hj
        rfl
      · rw [List.getElem?_set_ne (Ne.symm hjk)] at hj
        exact absurd (hD.1 j k _ _ hj hk rfl) hjk
  · rw [sx_up_n _ _ hb, hL b x]
    constructor
    · rintro ⟨j, hj⟩
      refine ⟨j, ?_⟩
      have hjk : j ≠ k := fun z => by
        subst z
        rw [hk] at hj
        cases hj
        exact hb rfl
      rw [List.getElem?_set_ne (Ne.symm hjk)]
      exact hj
    · rintro ⟨j, hj⟩
      refine ⟨j, ?_⟩
      have hjk : j ≠ k := fun z => by
        subst z
        rw [List.getElem?_set_self hl] at hj
        cases hj
        exact hb rfl
      rw [List.getElem?_set_ne (Ne.symm hjk)] at hj
      exact hj
theorem sx_L_push {μ : sx_M} {ws : va_W} {a : Nat} (e : va_E) (hL : sx_L μ ws) (hn : μ a = none) : sx_L (sx_up μ a e) (ws ++ [(a, e)]) := by
  intro b x
  by_cases hb : b = a
  · subst hb
    rw [sx_up_s]
    constructor
    · intro h
      cases h
      exact ⟨ws.length, by rw [List.getElem?_append_right (Nat.le_refl _), Nat.sub_self]; rfl⟩
    · rintro ⟨j, hj⟩
      rcases List.mem_append.mp (List.mem_of_getElem? hj) with h | h
      · obtain ⟨i, hi⟩ := List.getElem?_of_mem h
        have := (hL b x).mpr ⟨i, hi⟩
        rw [hn] at this
        cases this
      · cases List.mem_singleton.mp h
        rfl
  · rw [sx_up_n _ _ hb, hL b x]
    constructor
    · rintro ⟨j, hj⟩
      have hl := (List.getElem?_eq_some_iff.mp hj).1
      exact ⟨j, by rw [List.getElem?_append_left hl]; exact hj⟩
    · rintro ⟨j, hj⟩
      rcases List.mem_append.mp (List.mem_of_getElem? hj) with h | h
      · obtain ⟨i, hi⟩ := List.getElem?_of_mem h
        exact ⟨i, hi⟩
      · cases List.mem_singleton.mp h
        exact absurd rfl hb
theorem sx_L_nil : sx_L (fun _ => none) [] := fun a e => ⟨fun h => (by cases h), fun ⟨k, h⟩ => by simp at h⟩
theorem sx_H_nil {D : va_G} {cl : List vw_C} {A : Nat → Prop} {H : Heap} : sx_H D cl A (fun _ => none) H := ⟨[], fun k q h => by simp at h, ⟨fun i j p q h => by simp at h, fun k q h => by simp at h⟩, sx_L_nil⟩
theorem sx_H_lt {D : va_G} {cl : List vw_C} {A : Nat → Prop} {μ : sx_M} {H : Heap} (h : sx_H D cl A μ H) {a : Nat} {e : va_E} (ha : μ a = some e) : a < H.size := by
  obtain ⟨ws, hP, -, hL⟩ := h
  obtain ⟨k, hk⟩ := (hL a e).mp ha
  exact (hP k _ hk).lt
theorem sx_H_new {D : va_G} {cl : List vw_C} {A : Nat → Prop} {μ : sx_M} {H : Heap} (h : sx_H D cl A μ H) {a : Nat} (ha : H.size ≤ a) : μ a = none := by
  cases hq : μ a with
  | none => rfl
  | some e => exact absurd (sx_H_lt h hq) (by omega)
theorem sx_H_in {D : va_G} {cl : List vw_C} {A : Nat → Prop} {μ : sx_M} {H : Heap} (h : sx_H D cl A μ H) {a : Nat} {e : va_E} (ha : μ a = some e) : A a := by
  obtain ⟨ws, -, hD, hL⟩ := h
  obtain ⟨k, hk⟩ := (hL a e).mp ha
  exact hD.2 k _ hk
theorem sx_H_mono {D : va_G} {cl : List vw_C} {A B : Nat → Prop} {μ : sx_M} {H : Heap} (h : sx_H D cl A μ H) (hAB : ∀ q e, μ q = some e → A q → B q) : sx_H D cl B μ H := by
  obtain ⟨ws, hP, hD, hL⟩ := h
  exact ⟨ws, hP, hD.weaken (fun k q hk ha => hAB q.1 q.2 ((hL q.1 q.2).mpr ⟨k, hk⟩) ha), hL⟩
theorem sx_H_kept {D : va_G} {cl : List vw_C} {A : Nat → Prop} {μ : sx_M} {H H1 : Heap} (h : sx_H D cl A μ H) (hq : ∀ q e, μ q = some e → H1[q]? = H[q]?) : sx_H D cl A μ H1 := by
  obtain ⟨ws, hP, hD, hL⟩ := h
  exact ⟨ws, hP.kept (fun k q hk => hq q.1 q.2 ((hL q.1 q.2).mpr ⟨k, hk⟩)), hD, hL⟩
/-- locals by their places -/
def sx_lv : Nat → List (Option Value) → List (Nat × Value)
  | _, [] => []
  | k, none :: t => sx_lv (k + 1) t
  | k, some v :: t => (k, v) :: sx_lv (k + 1) t
theorem sx_lv_mem : ∀ (lv : List (Option Value)) (k : Nat) (q : Nat × Value), q ∈ sx_lv k lv ↔ ∃ i : Nat, q.1 = k + i ∧ lv[i]? = some (some q.2)
  | [], k, q => by simp [sx_lv]
  | none :: t, k, q => by
    rw [sx_lv, sx_lv_mem t (k + 1) q]
    constructor
    · rintro ⟨i, h1, h2⟩
      exact ⟨i + 1, by omega, by rw [List.getElem?_cons_succ]; exact h2⟩
    · rintro ⟨i, h1, h2⟩
      cases i with
      | zero => rw [List.getElem?_cons_zero] at h2; cases h2
      | succ i => exact ⟨i, by omega, by rw [List.getElem?_cons_succ] at h2; exact h2⟩
  | some v :: t, k, q => by
    rw [sx_lv, List.mem_cons, sx_lv_mem t (k + 1) q]
    constructor
    · rintro (h | ⟨i, h1, h2⟩)
      · exact ⟨0, by rw [h]; rfl, by rw [h]; rfl⟩
      · exact ⟨i + 1, by omega, by rw [List.getElem?_cons_succ]; exact h2⟩
    · rintro ⟨i, h1, h2⟩
      cases i with
      | zero =>
        rw [List.getElem?_cons_zero] at h2
        refine Or.inl ?_
        obtain ⟨q1, q2⟩ := q
        cases h2
        rw [show q1 = k from h1]
      | succ i => exact Or.inr ⟨i, by omega, by rw [List.getElem?_cons_succ] at h2; exact h2⟩
def sx_V (ls : Array Slot) (nL : Nat) (lv : List (Option Value)) : Prop := lv_has ls nL (sx_lv 0 lv)
theorem sx_V_get {ls : Array Slot} {nL : Nat} {lv : List (Option Value)} (h : sx_V ls nL lv) {i : Nat} {v : Value} (hi : lv[i]? = some (some v)) : ls[i]? = some (.val v) :=
  h.2.2 (i, v) ((sx_lv_mem lv 0 (i, v)).mpr ⟨i, by omega, hi⟩)
theorem sx_V_sub {ls : Array Slot} {nL : Nat} {lv lv' : List (Option Value)} (h : sx_V ls nL lv) (hs : ∀ (i : Nat) (v : Value), lv'[i]? = some (some v) → lv[i]? = some (some v)) : sx_V ls nL lv' := by
  refine ⟨h.1, h.2.1, fun q hq => ?_⟩
  obtain ⟨i, h1, h2⟩ := (sx_lv_mem lv' 0 q).mp hq
  rw [Nat.zero_add] at h1
  rw [h1]
  exact sx_V_get h (hs i q.2 h2)
/-- no long lies just below the place i -/
def sx_ok (lv : List (Option Value)) : Nat → Bool
  | 0 => true
  | j + 1 => match lv[j]? with
    | some (some w) => !(w.category == 2)
    | _ => true
theorem sx_ok_ne {lv : List (Option Value)} {i j : Nat} {w : Value} (h : sx_ok lv i = true) (hj : j + 1 = i) (hw : lv[j]? = some (some w)) : (w.category == 2) = false := by
  subst hj
  simp only [sx_ok, hw] at h
  cases hc : (w.category == 2)
  · rfl
  · rw [hc] at h; cases h
theorem sx_V_set1 {ls : Array Slot} {nL i : Nat} {lv : List (Option Value)} {v : Value} (h : lv_has ls nL ((i, v) :: (sx_lv 0 lv).filter (fun q => !(q.1 == i) && !(q.1 + 1 == i && q.2.category == 2)))) (hok : sx_ok lv i = true) : sx_V ls nL (lv.set i (some v)) := by
  refine ⟨h.1, h.2.1, fun q hq => ?_⟩
  obtain ⟨j, h1, h2⟩ := (sx_lv_mem _ 0 q).mp hq
  rw [Nat.zero_add] at h1
  by_cases hj : j = i
  · subst hj
    have hl : j < lv.length := by
      have := (List.getElem?_eq_some_iff.mp h2).1
      rw [List.length_set] at this
      exact this
    rw [List.getElem?_set_self hl] at h2
    cases h2
    exact h.2.2 q (List.mem_cons.mpr (Or.inl (by obtain ⟨a, b⟩ := q; rw [show a = j from h1])))
  · rw [List.getElem?_set_ne (Ne.symm hj)] at h2
    refine h.2.2 q (List.mem_cons.mpr (Or.inr (List.mem_filter.mpr ⟨(sx_lv_mem lv 0 q).mpr ⟨j, by omega, h2⟩, ?_⟩)))
    have n1 : (q.1 == i) = false := by rw [h1]; exact beq_eq_false_iff_ne.mpr hj
    rw [n1]
    by_cases hs : q.1 + 1 = i
    · have := sx_ok_ne hok (j := j) (by omega) h2
      rw [this]
      simp
    · have n2 : (q.1 + 1 == i) = false := beq_eq_false_iff_ne.mpr hs
      rw [n2]
      rfl
theorem sx_V_set2 {ls : Array Slot} {nL i : Nat} {lv : List (Option Value)} {v : Value} (h : lv_has ls nL ((i, v) :: (sx_lv 0 lv).filter (fun q => !(q.1 == i) && (!(q.1 == i + 1) && !(q.1 + 1 == i && q.2.category == 2))))) (hok : sx_ok lv i = true) : sx_V ls nL ((lv.set i (some v)).set (i + 1) none) := by
  refine ⟨h.1, h.2.1, fun q hq => ?_⟩
  obtain ⟨j, h1, h2⟩ := (sx_lv_mem _ 0 q).mp hq
  rw [Nat.zero_add] at h1
  by_cases hj1 : j = i + 1
  · subst hj1
    have hl : i + 1 < (lv.set i (some v)).length := by
      have := (List.getElem?_eq_some_iff.mp h2).1
      rw [List.length_set] at this
      exact this
    rw [List.getElem?_set_self hl] at h2
    cases h2
  · rw [List.getElem?_set_ne (Ne.symm hj1)] at h2
    by_cases hj : j = i
    · subst hj
      have hl : j < lv.length := by
        have := (List.getElem?_eq_some_iff.mp h2).1
        rw [List.length_set] at this
        exact this
      rw [List.getElem?_set_self hl] at h2
      cases h2
      exact h.2.2 q (List.mem_cons.mpr (Or.inl (by obtain ⟨a, b⟩ := q; rw [show a = j from h1])))
    · rw [List.getElem?_set_ne (Ne.symm hj)] at h2
      refine h.2.2 q (List.mem_cons.mpr (Or.inr (List.mem_filter.mpr ⟨(sx_lv_mem lv 0 q).mpr ⟨j, by omega, h2⟩, ?_⟩)))
      have n1 : (q.1 == i) = false := by rw [h1]; exact beq_eq_false_iff_ne.mpr hj
      have n3 : (q.1 == i + 1) = false := by rw [h1]; exact beq_eq_false_iff_ne.mpr hj1
      rw [n1, n3]
      by_cases hs : q.1 + 1 = i
      · have := sx_ok_ne hok (j := j) (by omega) h2
        rw [this]
        simp
      · have n2 : (q.1 + 1 == i) = false := beq_eq_false_iff_ne.mpr hs
        rw [n2]
        rfl
def sx_args : List Value → List (Option Value)
  | [] => []
  | v :: t => if v.category = 2 then some v :: none :: sx_args t else some v :: sx_args t
/-- things of the start that nobody writes: they move with the tables, stay with the heap, and hold of smaller sets -/
def sx_Eok (E : (Nat → Prop) → State → Heap → Prop) : Prop :=
  (∀ (A : Nat → Prop) (u U : State) (H : Heap), u.vm.Alike U.vm → E A u H → E A U H) ∧
  (∀ (A : Nat → Prop) (U : State) (H H1 : Heap), (∀ a : Nat, a < H.size → ¬ A a → H1[a]? = H[a]?) → E A U H → E A U H1) ∧
  (∀ (A B : Nat → Prop) (U : State) (H : Heap), (∀ q, B q → A q) → E A U H → E B U H)
/-- what stays over a method's walk -/
def sx_C (p : Program) (s : State) (m : MethodId) (args : Array Value) (c : Code) (cc : ByteArray) (nL : Nat) (own : String) (Ts : List Cond) (D : va_G) (cl : List vw_C) (tys : List (ClassId × FieldType)) (E : (Nat → Prop) → State → Heap → Prop) (A : Nat → Prop) : Prop :=
  CallFix p m c cc nL s args Ts own ∧ va_K D cl tys s ∧ (∀ q, s.heap.size ≤ q → A q) ∧ E A s s.heap ∧ sx_Eok E
/-- the machine at pc, in every heap that holds the map -/
def SW (p : Program) (l : Launch) (e : Env) (R : Room) (s : State) (m : MethodId) (args : Array Value) (below : List Frame) (meth : Method) (c : Code) (nL : Nat) (D : va_G) (cl : List vw_C) (A : Nat → Prop) (cells slots : Nat) (Q : State → Prop) (μ : sx_M) (pc : Nat) (lv : List (Option Value)) (st : List Value) : Prop :=
  ∀ (H : Heap) (locs : List Loc) (ls : Array Slot), sx_H D cl A μ H → va_S A s.heap H locs → sx_V ls nL lv → W p l e R s m args below meth c H locs cells slots Q (F0 m pc ls st)

def jushr (x y : Int32) : Int32 := (x.toUInt32 >>> (y.toUInt32 &&& Int32.toUInt32 31)).toInt32
def jushrL (x : Int64) (y : Int32) : Int64 := (x.toUInt64 >>> (y.toInt64.toUInt64 &&& Int64.toUInt64 63)).toInt64
def jshlL (x : Int64) (y : Int32) : Int64 := x <<< (y.toInt64 &&& 63)
def jshrL (x : Int64) (y : Int32) : Int64 := x >>> (y.toInt64 &&& 63)
def jshl (x y : Int32) : Int32 := x <<< (y &&& 31)
def jshr (x y : Int32) : Int32 := x >>> (y &&& 31)
section SXR
variable {p : Program} {l : Launch} {e : Env} {R : Room} {s : State} {m : MethodId} {args : Array Value} {below : List Frame} {meth : Method} {c : Code} {cc : ByteArray} {nL : Nat} {own : String} {Ts : List Cond} {D : va_G} {cl : List vw_C} {tys : List (ClassId × FieldType)} {E : (Nat → Prop) → State → Heap → Prop} {A : Nat → Prop} {cells slots : Nat} {Q : State → Prop} {μ : sx_M} {pc : Nat} {lv : List (Option Value)} {rest : List Value}
theorem sx_iconst (C : sx_C p s m args c cc nL own Ts D cl tys E A) {n : Int} {v : Int32} (hd : decode cc pc = .ok (.iconst n, 1)) (hv : Int32.ofInt n = v) (k : SW p l e R s m args below meth c nL D cl A cells slots Q μ (pc + 1) lv (.int v :: rest)) : SW p l e R s m args below meth c nL D cl A cells slots Q μ pc lv rest :=
  fun H locs ls hH hS hl => lv_iconst C.1.1 C.1.2.1 hd hv (k H locs ls hH hS hl)
theorem sx_bipush (C : sx_C p s m args c cc nL own Ts D cl tys E A) {n : Int} {v : Int32} (hd : decode cc pc = .ok (.bipush n, 2)) (hv : (Int8.ofInt n).toInt32 = v) (k : SW p l e R s m args below meth c nL D cl A cells slots Q μ (pc + 2) lv (.int v :: rest)) : SW p l e R s m args below meth c nL D cl A cells slots Q μ pc lv rest :=
  fun H locs ls hH hS hl => lv_bipush C.1.1 C.1.2.1 hd hv (k H locs ls hH hS hl)
theorem sx_sipush (C : sx_C p s m args c cc nL own Ts D cl tys E A) {n : Int} {v : Int32} (hd : decode cc pc = .ok (.sipush n, 3)) (hv : (Int16.ofInt n).toInt32 = v) (k : SW p l e R s m args below meth c nL D cl A cells slots Q μ (pc + 3) lv (.int v :: rest)) : SW p l e R s m args below meth c nL D cl A cells slots Q μ pc lv rest :=
  fun H locs ls hH hS hl => lv_sipush C.1.1 C.1.2.1 hd hv (k H locs ls hH hS hl)
theorem sx_lconst (C : sx_C p s m args c cc nL own Ts D cl tys E A) {n : Fin 2} {v : Int64} (hd : decode cc pc = .ok (.lconst n, 1)) (hv : Int64.ofNat (n : Nat) = v) (k : SW p l e R s m args below meth c nL D cl A cells slots Q μ (pc + 1) lv (.long v :: rest)) : SW p l e R s m args below meth c nL D cl A cells slots Q μ pc lv rest :=
  fun H locs ls hH hS hl => lv_lconst C.1.1 C.1.2.1 hd hv (k H locs ls hH hS hl)
theorem sx_ldc (C : sx_C p s m args c cc nL own Ts D cl tys E A) {index : Nat} {v : Int32} (hd : decode cc pc = .ok (.ldc index, 2)) (hc : (Jvm.Cond.constant own index v).before args s = true) (k : SW p l e R s m args below meth c nL D cl A cells slots Q μ (pc + 2) lv (.int v :: rest)) : SW p l e R s m args below meth c nL D cl A cells slots Q μ pc lv rest :=
  fun H locs ls hH hS hl => lv_ldc C.1.1 C.1.2.1 C.1.2.2.2.1 hc hd (k H locs ls hH hS hl)
theorem sx_ldc2 (C : sx_C p s m args c cc nL own Ts D cl tys E A) {index : Nat} {v : Int64} (hd : decode cc pc = .ok (.ldc2_w index, 3)) (hc : (Jvm.Cond.constantLong own index v).before args s = true) (k : SW p l e R s m args below meth c nL D cl A cells slots Q μ (pc + 3) lv (.long v :: rest)) : SW p l e R s m args below meth c nL D cl A cells slots Q μ pc lv rest :=
  fun H locs ls hH hS hl => lv_ldc2 C.1.1 C.1.2.1 C.1.2.2.2.1 hc hd (k H locs ls hH hS hl)
theorem sx_iload_n (C : sx_C p s m args c cc nL own Ts D cl tys E A) {k : Fin 4} {i : Nat} {x : Int32} (hd : decode cc pc = .ok (.iload_n k, 1)) (hi : (k : Nat) = i) (hg : lv[i]? = some (some (.int x))) (k : SW p l e R s m args below meth c nL D cl A cells slots Q μ (pc + 1) lv (.int x :: rest)) : SW p l e R s m args below meth c nL D cl A cells slots Q μ pc lv rest :=
  fun H locs ls hH hS hl => lv_iload_n C.1.1 C.1.2.1 hd hi (sx_V_get hl hg) (k H locs ls hH hS hl)
theorem sx_iload (C : sx_C p s m args c cc nL own Ts D cl tys E A) {i : Nat} {x : Int32} (hd : decode cc pc = .ok (.iload i, 2)) (hg : lv[i]? = some (some (.int x))) (k : SW p l e R s m args below meth c nL D cl A cells slots Q μ (pc + 2) lv (.int x :: rest)) : SW p l e R s m args below meth c nL D cl A cells slots Q μ pc lv rest :=
  fun H locs ls hH hS hl => lv_iload C.1.1 C.1.2.1 hd (sx_V_get hl hg) (k H locs ls hH hS hl)
theorem sx_istore_n (C : sx_C p s m args c cc nL own Ts D cl tys E A) {k : Fin 4} {i : Nat} {x : Int32} {lv' : List (Option Value)} (hd : decode cc pc = .ok (.istore_n k, 1)) (hi : (k : Nat) = i) (hn : i < nL) (hok : sx_ok lv i = true) (hlv : lv.set i (some (.int x)) = lv') (k : SW p l e R s m args below meth c nL D cl A cells slots Q μ (pc + 1) lv' rest) : SW p l e R s m args below meth c nL D cl A cells slots Q μ pc lv (.int x :: rest) :=
  fun H locs ls hH hS hl => lv_istore_n C.1.1 C.1.2.1 hd hi hl hn rfl (fun ls' h' => k H locs ls' hH hS (hlv ▸ sx_V_set1 h' hok))
theorem sx_istore (C : sx_C p s m args c cc nL own Ts D cl tys E A) {i : Nat} {x : Int32} {lv' : List (Option Value)} (hd : decode cc pc = .ok (.istore i, 2)) (hn : i < nL) (hok : sx_ok lv i = true) (hlv : lv.set i (some (.int x)) = lv') (k : SW p l e R s m args below meth c nL D cl A cells slots Q μ (pc + 2) lv' rest) : SW p l e R s m args below meth c nL D cl A cells slots Q μ pc lv (.int x :: rest) :=
  fun H locs ls hH hS hl => lv_istore C.1.1 C.1.2.1 hd hl hn rfl (fun ls' h' => k H locs ls' hH hS (hlv ▸ sx_V_set1 h' hok))
theorem sx_lload_n (C : sx_C p s m args c cc nL own Ts D cl tys E A) {k : Fin 4} {i : Nat} {x : Int64} (hd : decode cc pc = .ok (.lload_n k, 1)) (hi : (k : Nat) = i) (hg : lv[i]? = some (some (.long x))) (k : SW p l e R s m args below meth c nL D cl A cells slots Q μ (pc + 1) lv (.long x :: rest)) : SW p l e R s m args below meth c nL D cl A cells slots Q μ pc lv rest :=
  fun H locs ls hH hS hl => lv_lload_n C.1.1 C.1.2.1 hd hi (sx_V_get hl hg) (k H locs ls hH hS hl)
theorem sx_lload (C : sx_C p s m args c cc nL own Ts D cl tys E A) {i : Nat} {x : Int64} (hd : decode cc pc = .ok (.lload i, 2)) (hg : lv[i]? = some (some (.long x))) (k : SW p l e R s m args below meth c nL D cl A cells slots Q μ (pc + 2) lv (.long x :: rest)) : SW p l e R s m args below meth c nL D cl A cells slots Q μ pc lv rest :=
  fun H locs ls hH hS hl => lv_lload C.1.1 C.1.2.1 hd (sx_V_get hl hg) (k H locs ls hH hS hl)
theorem sx_lstore_n (C : sx_C p s m args c cc nL own Ts D cl tys E A) {k : Fin 4} {i : Nat} {x : Int64} {lv' : List (Option Value)} (hd : decode cc pc = .ok (.lstore_n k, 1)) (hi : (k : Nat) = i) (hn : i + 1 < nL) (hok : sx_ok lv i = true) (hlv : (lv.set i (some (.long x))).set (i + 1) none = lv') (k : SW p l e R s m args below meth c nL D cl A cells slots Q μ (pc + 1) lv' rest) : SW p l e R s m args below meth c nL D cl A cells slots Q μ pc lv (.long x :: rest) :=
  fun H locs ls hH hS hl => lv_lstore_n C.1.1 C.1.2.1 hd hi hl hn rfl (fun ls' h' => k H locs ls' hH hS (hlv ▸ sx_V_set2 h' hok))
theorem sx_lstore (C : sx_C p s m args c cc nL own Ts D cl tys E A) {i : Nat} {x : Int64} {lv' : List (Option Value)} (hd : decode cc pc = .ok (.lstore i, 2)) (hn : i + 1 < nL) (hok : sx_ok lv i = true) (hlv : (lv.set i (some (.long x))).set (i + 1) none = lv') (k : SW p l e R s m args below meth c nL D cl A cells slots Q μ (pc + 2) lv' rest) : SW p l e R s m args below meth c nL D cl A cells slots Q μ pc lv (.long x :: rest) :=
  fun H locs ls hH hS hl => lv_lstore C.1.1 C.1.2.1 hd hl hn rfl (fun ls' h' => k H locs ls' hH hS (hlv ▸ sx_V_set2 h' hok))
theorem sx_aload_n (C : sx_C p s m args c cc nL own Ts D cl tys E A) {k : Fin 4} {i : Nat} {x : Nat} (hd : decode cc pc = .ok (.aload_n k, 1)) (hi : (k : Nat) = i) (hg : lv[i]? = some (some (.ref x))) (k : SW p l e R s m args below meth c nL D cl A cells slots Q μ (pc + 1) lv (.ref x :: rest)) : SW p l e R s m args below meth c nL D cl A cells slots Q μ pc lv rest :=
  fun H locs ls hH hS hl => lv_aload_n C.1.1 C.1.2.1 hd hi (sx_V_get hl hg) (k H locs ls hH hS hl)
theorem sx_aload (C : sx_C p s m args c cc nL own Ts D cl tys E A) {i : Nat} {x : Nat} (hd : decode cc pc = .ok (.aload i, 2)) (hg : lv[i]? = some (some (.ref x))) (k : SW p l e R s m args below meth c nL D cl A cells slots Q μ (pc + 2) lv (.ref x :: rest)) : SW p l e R s m args below meth c nL D cl A cells slots Q μ pc lv rest :=
  fun H locs ls hH hS hl => lv_aload C.1.1 C.1.2.1 hd (sx_V_get hl hg) (k H locs ls hH hS hl)
theorem sx_astore_n (C : sx_C p s m args c cc nL own Ts D cl tys E A) {k : Fin 4} {i : Nat} {x : Nat} {lv' : List (Option Value)} (hd : decode cc pc = .ok (.astore_n k, 1)) (hi : (k : Nat) = i) (hn : i < nL) (hok : sx_ok lv i = true) (hlv : lv.set i (some (.ref x)) = lv') (k : SW p l e R s m args below meth c nL D cl A cells slots Q μ (pc + 1) lv' rest) : SW p l e R s m args below meth c nL D cl A cells slots Q μ pc lv (.ref x :: rest) :=
  fun H locs ls hH hS hl => lv_astore_n C.1.1 C.1.2.1 hd hi hl hn rfl (fun ls' h' => k H locs ls' hH hS (hlv ▸ sx_V_set1 h' hok))
theorem sx_astore (C : sx_C p s m args c cc nL own Ts D cl tys E A) {i : Nat} {x : Nat} {lv' : List (Option Value)} (hd : decode cc pc = .ok (.astore i, 2)) (hn : i < nL) (hok : sx_ok lv i = true) (hlv : lv.set i (some (.ref x)) = lv') (k : SW p l e R s m args below meth c nL D cl A cells slots Q μ (pc + 2) lv' rest) : SW p l e R s m args below meth c nL D cl A cells slots Q μ pc lv (.ref x :: rest) :=
  fun H locs ls hH hS hl => lv_astore C.1.1 C.1.2.1 hd hl hn rfl (fun ls' h' => k H locs ls' hH hS (hlv ▸ sx_V_set1 h' hok))
theorem sx_iinc (C : sx_C p s m args c cc nL own Ts D cl tys E A) {i : Nat} {n : Int} {x v : Int32} {lv' : List (Option Value)} (hd : decode cc pc = .ok (.iinc i n, 3)) (hg : lv[i]? = some (some (.int x))) (hv : x + Int32.ofInt n = v) (hn : i < nL) (hok : sx_ok lv i = true) (hlv : lv.set i (some (.int v)) = lv') (k : SW p l e R s m args below meth c nL D cl A cells slots Q μ (pc + 3) lv' rest) : SW p l e R s m args below meth c nL D cl A cells slots Q μ pc lv rest := by
  intro H locs ls hH hS hl
  obtain ⟨j, hj⟩ := List.getElem?_of_mem ((sx_lv_mem lv 0 (i, .int x)).mpr ⟨i, by omega, hg⟩)
  exact lv_iinc C.1.1 C.1.2.1 hd hl hj hv hn rfl (fun ls' h' => k H locs ls' hH hS (hlv ▸ sx_V_set1 h' hok))
theorem sx_iadd (C : sx_C p s m args c cc nL own Ts D cl tys E A) {x y : Int32} (hd : decode cc pc = .ok (.iadd, 1))  (k : SW p l e R s m args below meth c nL D cl A cells slots Q μ (pc + 1) lv (.int (x + y) :: rest)) : SW p l e R s m args below meth c nL D cl A cells slots Q μ pc lv (.int y :: .int x :: rest) :=
  fun H locs ls hH hS hl => lv_iadd C.1.1 C.1.2.1 hd (k H locs ls hH hS hl)
theorem sx_isub (C : sx_C p s m args c cc nL own Ts D cl tys E A) {x y : Int32} (hd : decode cc pc = .ok (.isub, 1))  (k : SW p l e R s m args below meth c nL D cl A cells slots Q μ (pc + 1) lv (.int (x - y) :: rest)) : SW p l e R s m args below meth c nL D cl A cells slots Q μ pc lv (.int y :: .int x :: rest) :=
  fun H locs ls hH hS hl => lv_isub C.1.1 C.1.2.1 hd (k H locs ls hH hS hl)
theorem sx_imul (C : sx_C p s m args c cc nL own Ts D cl tys E A) {x y : Int32} (hd : decode cc pc = .ok (.imul, 1))  (k : SW p l e R s m args below meth c nL D cl A cells slots Q μ (pc + 1) lv (.int (x * y) :: rest)) : SW p l e R s m args below meth c nL D cl A cells slots Q μ pc lv (.int y :: .int x :: rest) :=
  fun H locs ls hH hS hl => lv_imul C.1.1 C.1.2.1 hd (k H locs ls hH hS hl)
theorem sx_iand (C : sx_C p s m args c cc nL own Ts D cl tys E A) {x y : Int32} (hd : decode cc pc = .ok (.iand, 1))  (k : SW p l e R s m args below meth c nL D cl A cells slots Q μ (pc + 1) lv (.int (x &&& y) :: rest)) : SW p l e R s m args below meth c nL D cl A cells slots Q μ pc lv (.int y :: .int x :: rest) :=
  fun H locs ls hH hS hl => lv_iand C.1.1 C.1.2.1 hd (k H locs ls hH hS hl)
theorem sx_ior (C : sx_C p s m args c cc nL own Ts D cl tys E A) {x y : Int32} (hd : decode cc pc = .ok (.ior, 1))  (k : SW p l e R s m args below meth c nL D cl A cells slots Q μ (pc + 1) lv (.int (x ||| y) :: rest)) : SW p l e R s m args below meth c nL D cl A cells slots Q μ pc lv (.int y :: .int x :: rest) :=
  fun H locs ls hH hS hl => lv_ior C.1.1 C.1.2.1 hd (k H locs ls hH hS hl)
theorem sx_ixor (C : sx_C p s m args c cc nL own Ts D cl tys E A) {x y : Int32} (hd : decode cc pc = .ok (.ixor, 1))  (k : SW p l e R s m args below meth c nL D cl A cells slots Q μ (pc + 1) lv (.int (x ^^^ y) :: rest)) : SW p l e R s m args below meth c nL D cl A cells slots Q μ pc lv (.int y :: .int x :: rest) :=
  fun H locs ls hH hS hl => lv_ixor C.1.1 C.1.2.1 hd (k H locs ls hH hS hl)
theorem sx_ladd (C : sx_C p s m args c cc nL own Ts D cl tys E A) {x y : Int64} (hd : decode cc pc = .ok (.ladd, 1))  (k : SW p l e R s m args below meth c nL D cl A cells slots Q μ (pc + 1) lv (.long (x + y) :: rest)) : SW p l e R s m args below meth c nL D cl A cells slots Q μ pc lv (.long y :: .long x :: rest) :=
  fun H locs ls hH hS hl => lv_ladd C.1.1 C.1.2.1 hd (k H locs ls hH hS hl)
theorem sx_lsub (C : sx_C p s m args c cc nL own Ts D cl tys E A) {x y : Int64} (hd : decode cc pc = .ok (.lsub, 1))  (k : SW p l e R s m args below meth c nL D cl A cells slots Q μ (pc + 1) lv (.long (x - y) :: rest)) : SW p l e R s m args below meth c nL D cl A cells slots Q μ pc lv (.long y :: .long x :: rest) :=
  fun H locs ls hH hS hl => lv_lsub C.1.1 C.1.2.1 hd (k H locs ls hH hS hl)
theorem sx_lmul (C : sx_C p s m args c cc nL own Ts D cl tys E A) {x y : Int64} (hd : decode cc pc = .ok (.lmul, 1))  (k : SW p l e R s m args below meth c nL D cl A cells slots Q μ (pc + 1) lv (.long (x * y) :: rest)) : SW p l e R s m args below meth c nL D cl A cells slots Q μ pc lv (.long y :: .long x :: rest) :=
  fun H locs ls hH hS hl => lv_lmul C.1.1 C.1.2.1 hd (k H locs ls hH hS hl)
theorem sx_land (C : sx_C p s m args c cc nL own Ts D cl tys E A) {x y : Int64} (hd : decode cc pc = .ok (.land, 1))  (k : SW p l e R s m args below meth c nL D cl A cells slots Q μ (pc + 1) lv (.long (x &&& y) :: rest)) : SW p l e R s m args below meth c nL D cl A cells slots Q μ pc lv (.long y :: .long x :: rest) :=
  fun H locs ls hH hS hl => lv_land C.1.1 C.1.2.1 hd (k H locs ls hH hS hl)
theorem sx_lor (C : sx_C p s m args c cc nL own Ts D cl tys E A) {x y : Int64} (hd : decode cc pc = .ok (.lor, 1))  (k : SW p l e R s m args below meth c nL D cl A cells slots Q μ (pc + 1) lv (.long (x ||| y) :: rest)) : SW p l e R s m args below meth c nL D cl A cells slots Q μ pc lv (.long y :: .long x :: rest) :=
  fun H locs ls hH hS hl => lv_lor C.1.1 C.1.2.1 hd (k H locs ls hH hS hl)
theorem sx_lxor (C : sx_C p s m args c cc nL own Ts D cl tys E A) {x y : Int64} (hd : decode cc pc = .ok (.lxor, 1))  (k : SW p l e R s m args below meth c nL D cl A cells slots Q μ (pc + 1) lv (.long (x ^^^ y) :: rest)) : SW p l e R s m args below meth c nL D cl A cells slots Q μ pc lv (.long y :: .long x :: rest) :=
  fun H locs ls hH hS hl => lv_lxor C.1.1 C.1.2.1 hd (k H locs ls hH hS hl)
theorem sx_ineg (C : sx_C p s m args c cc nL own Ts D cl tys E A) {x : Int32} (hd : decode cc pc = .ok (.ineg, 1))  (k : SW p l e R s m args below meth c nL D cl A cells slots Q μ (pc + 1) lv (.int (-x) :: rest)) : SW p l e R s m args below meth c nL D cl A cells slots Q μ pc lv (.int x :: rest) :=
  fun H locs ls hH hS hl => lv_ineg C.1.1 C.1.2.1 hd (k H locs ls hH hS hl)
theorem sx_idiv (C : sx_C p s m args c cc nL own Ts D cl tys E A) {x y : Int32} (hd : decode cc pc = .ok (.idiv, 1)) (hne : ¬ y = 0) (k : SW p l e R s m args below meth c nL D cl A cells slots Q μ (pc + 1) lv (.int (x / y) :: rest)) : SW p l e R s m args below meth c nL D cl A cells slots Q μ pc lv (.int y :: .int x :: rest) :=
  fun H locs ls hH hS hl => lv_idiv C.1.1 C.1.2.1 hd hne (k H locs ls hH hS hl)
theorem sx_irem (C : sx_C p s m args c cc nL own Ts D cl tys E A) {x y : Int32} (hd : decode cc pc = .ok (.irem, 1)) (hne : ¬ y = 0) (k : SW p l e R s m args below meth c nL D cl A cells slots Q μ (pc + 1) lv (.int (x - x / y * y) :: rest)) : SW p l e R s m args below meth c nL D cl A cells slots Q μ pc lv (.int y :: .int x :: rest) :=
  fun H locs ls hH hS hl => lv_irem C.1.1 C.1.2.1 hd hne (k H locs ls hH hS hl)
theorem sx_ishl (C : sx_C p s m args c cc nL own Ts D cl tys E A) {x y : Int32} (hd : decode cc pc = .ok (.ishl, 1))  (k : SW p l e R s m args below meth c nL D cl A cells slots Q μ (pc + 1) lv (.int (jshl x y) :: rest)) : SW p l e R s m args below meth c nL D cl A cells slots Q μ pc lv (.int y :: .int x :: rest) :=
  fun H locs ls hH hS hl => lv_ishl C.1.1 C.1.2.1 hd (k H locs ls hH hS hl)
theorem sx_ishr (C : sx_C p s m args c cc nL own Ts D cl tys E A) {x y : Int32} (hd : decode cc pc = .ok (.ishr, 1))  (k : SW p l e R s m args below meth c nL D cl A cells slots Q μ (pc + 1) lv (.int (jshr x y) :: rest)) : SW p l e R s m args below meth c nL D cl A cells slots Q μ pc lv (.int y :: .int x :: rest) :=
  fun H locs ls hH hS hl => lv_ishr C.1.1 C.1.2.1 hd (k H locs ls hH hS hl)
theorem sx_iushr (C : sx_C p s m args c cc nL own Ts D cl tys E A) {x y : Int32} (hd : decode cc pc = .ok (.iushr, 1))  (k : SW p l e R s m args below meth c nL D cl A cells slots Q μ (pc + 1) lv (.int (jushr x y) :: rest)) : SW p l e R s m args below meth c nL D cl A cells slots Q μ pc lv (.int y :: .int x :: rest) :=
  fun H locs ls hH hS hl => lv_iushr C.1.1 C.1.2.1 hd rfl (k H locs ls hH hS hl)
theorem sx_lushr (C : sx_C p s m args c cc nL own Ts D cl tys E A) {x : Int64} {y : Int32} (hd : decode cc pc = .ok (.lushr, 1))  (k : SW p l e R s m args below meth c nL D cl A cells slots Q μ (pc + 1) lv (.long (jushrL x y) :: rest)) : SW p l e R s m args below meth c nL D cl A cells slots Q μ pc lv (.int y :: .long x :: rest) :=
  fun H locs ls hH hS hl => lv_lushr C.1.1 C.1.2.1 hd rfl (k H locs ls hH hS hl)
theorem sx_lshl (C : sx_C p s m args c cc nL own Ts D cl tys E A) {x : Int64} {y : Int32} (hd : decode cc pc = .ok (.lshl, 1))  (k : SW p l e R s m args below meth c nL D cl A cells slots Q μ (pc + 1) lv (.long (jshlL x y) :: rest)) : SW p l e R s m args below meth c nL D cl A cells slots Q μ pc lv (.int y :: .long x :: rest) :=
  fun H locs ls hH hS hl => lv_lshl C.1.1 C.1.2.1 hd rfl (k H locs ls hH hS hl)
theorem sx_lshr (C : sx_C p s m args c cc nL own Ts D cl tys E A) {x : Int64} {y : Int32} (hd : decode cc pc = .ok (.lshr, 1))  (k : SW p l e R s m args below meth c nL D cl A cells slots Q μ (pc + 1) lv (.long (jshrL x y) :: rest)) : SW p l e R s m args below meth c nL D cl A cells slots Q μ pc lv (.int y :: .long x :: rest) :=
  fun H locs ls hH hS hl => lv_lshr C.1.1 C.1.2.1 hd rfl (k H locs ls hH hS hl)
theorem sx_i2l (C : sx_C p s m args c cc nL own Ts D cl tys E A) {x : Int32} (hd : decode cc pc = .ok (.i2l, 1))  (k : SW p l e R s m args below meth c nL D cl A cells slots Q μ (pc + 1) lv (.long x.toInt64 :: rest)) : SW p l e R s m args below meth c nL D cl A cells slots Q μ pc lv (.int x :: rest) :=
  fun H locs ls hH hS hl => lv_i2l C.1.1 C.1.2.1 hd rfl (k H locs ls hH hS hl)
theorem sx_l2i (C : sx_C p s m args c cc nL own Ts D cl tys E A) {x : Int64} (hd : decode cc pc = .ok (.l2i, 1))  (k : SW p l e R s m args below meth c nL D cl A cells slots Q μ (pc + 1) lv (.int x.toInt32 :: rest)) : SW p l e R s m args below meth c nL D cl A cells slots Q μ pc lv (.long x :: rest) :=
  fun H locs ls hH hS hl => lv_l2i C.1.1 C.1.2.1 hd rfl (k H locs ls hH hS hl)
theorem sx_dup (C : sx_C p s m args c cc nL own Ts D cl tys E A) {va : Value} (hd : decode cc pc = .ok (.dup, 1)) (h1 : va.category = 1) (k : SW p l e R s m args below meth c nL D cl A cells slots Q μ (pc + 1) lv (va :: va :: rest)) : SW p l e R s m args below meth c nL D cl A cells slots Q μ pc lv (va :: rest) :=
  fun H locs ls hH hS hl => lv_dup C.1.1 C.1.2.1 hd h1 (k H locs ls hH hS hl)
theorem sx_pop (C : sx_C p s m args c cc nL own Ts D cl tys E A) {va : Value} (hd : decode cc pc = .ok (.pop, 1)) (h1 : va.category = 1) (k : SW p l e R s m args below meth c nL D cl A cells slots Q μ (pc + 1) lv rest) : SW p l e R s m args below meth c nL D cl A cells slots Q μ pc lv (va :: rest) :=
  fun H locs ls hH hS hl => lv_pop C.1.1 C.1.2.1 hd h1 (k H locs ls hH hS hl)
theorem sx_dup_x1 (C : sx_C p s m args c cc nL own Ts D cl tys E A) {va vb : Value} (hd : decode cc pc = .ok (.dup_x1, 1)) (h1 : va.category = 1) (h2 : vb.category = 1) (k : SW p l e R s m args below meth c nL D cl A cells slots Q μ (pc + 1) lv (va :: vb :: va :: rest)) : SW p l e R s m args below meth c nL D cl A cells slots Q μ pc lv (va :: vb :: rest) :=
  fun H locs ls hH hS hl => lv_dup_x1 C.1.1 C.1.2.1 hd h1 h2 (k H locs ls hH hS hl)
theorem sx_dup_x2 (C : sx_C p s m args c cc nL own Ts D cl tys E A) {va vb vd : Value} (hd : decode cc pc = .ok (.dup_x2, 1)) (h1 : va.category = 1) (h2 : vb.category = 1) (h3 : vd.category = 1) (k : SW p l e R s m args below meth c nL D cl A cells slots Q μ (pc + 1) lv (va :: vb :: vd :: va :: rest)) : SW p l e R s m args below meth c nL D cl A cells slots Q μ pc lv (va :: vb :: vd :: rest) :=
  fun H locs ls hH hS hl => lv_dup_x2 C.1.1 C.1.2.1 hd h1 h2 h3 (k H locs ls hH hS hl)
theorem sx_dup2_11 (C : sx_C p s m args c cc nL own Ts D cl tys E A) {va vb : Value} (hd : decode cc pc = .ok (.dup2, 1)) (h1 : va.category = 1) (h2 : vb.category = 1) (k : SW p l e R s m args below meth c nL D cl A cells slots Q μ (pc + 1) lv (va :: vb :: va :: vb :: rest)) : SW p l e R s m args below meth c nL D cl A cells slots Q μ pc lv (va :: vb :: rest) :=
  fun H locs ls hH hS hl => lv_dup2_11 C.1.1 C.1.2.1 hd h1 h2 (k H locs ls hH hS hl)
theorem sx_dup2_2 (C : sx_C p s m args c cc nL own Ts D cl tys E A) {va : Value} (hd : decode cc pc = .ok (.dup2, 1)) (h1 : va.category = 2) (k : SW p l e R s m args below meth c nL D cl A cells slots Q μ (pc + 1) lv (va :: va :: rest)) : SW p l e R s m args below meth c nL D cl A cells slots Q μ pc lv (va :: rest) :=
  fun H locs ls hH hS hl => lv_dup2_2 C.1.1 C.1.2.1 hd h1 (k H locs ls hH hS hl)
theorem sx_pop2_2 (C : sx_C p s m args c cc nL own Ts D cl tys E A) {va : Value} (hd : decode cc pc = .ok (.pop2, 1)) (h1 : va.category = 2) (k : SW p l e R s m args below meth c nL D cl A cells slots Q μ (pc + 1) lv rest) : SW p l e R s m args below meth c nL D cl A cells slots Q μ pc lv (va :: rest) :=
  fun H locs ls hH hS hl => lv_pop2_2 C.1.1 C.1.2.1 hd h1 (k H locs ls hH hS hl)
theorem sx_goto (C : sx_C p s m args c cc nL own Ts D cl tys E A) {off : Int} {tgt : Nat} (hd : decode cc pc = .ok (.goto off, 3)) (ht : (pc : Int) + off = (tgt : Int)) (k : SW p l e R s m args below meth c nL D cl A cells slots Q μ (tgt) lv rest) : SW p l e R s m args below meth c nL D cl A cells slots Q μ pc lv rest :=
  fun H locs ls hH hS hl => lv_goto C.1.1 C.1.2.1 hd ht (k H locs ls hH hS hl)
theorem sx_if_eq (C : sx_C p s m args c cc nL own Ts D cl tys E A) {x : Int32} {off : Int} {tgt : Nat} (hd : decode cc pc = .ok (.ifCond .eq off, 3)) (ht : (pc : Int) + off = (tgt : Int)) (kt : x = 0 → SW p l e R s m args below meth c nL D cl A cells slots Q μ tgt lv rest) (kf : ¬ (x = 0) → SW p l e R s m args below meth c nL D cl A cells slots Q μ (pc + 3) lv rest) : SW p l e R s m args below meth c nL D cl A cells slots Q μ pc lv (.int x :: rest) :=
  fun H locs ls hH hS hl => lv_if_eq C.1.1 C.1.2.1 hd ht (fun z => kt z H locs ls hH hS hl) (fun z => kf z H locs ls hH hS hl)
theorem sx_icmp_eq (C : sx_C p s m args c cc nL own Ts D cl tys E A) {x y : Int32} {off : Int} {tgt : Nat} (hd : decode cc pc = .ok (.if_icmp .eq off, 3)) (ht : (pc : Int) + off = (tgt : Int)) (kt : x = y → SW p l e R s m args below meth c nL D cl A cells slots Q μ tgt lv rest) (kf : ¬ (x = y) → SW p l e R s m args below meth c nL D cl A cells slots Q μ (pc + 3) lv rest) : SW p l e R s m args below meth c nL D cl A cells slots Q μ pc lv (.int y :: .int x :: rest) :=
  fun H locs ls hH hS hl => lv_icmp_eq C.1.1 C.1.2.1 hd ht (fun z => kt z H locs ls hH hS hl) (fun z => kf z H locs ls hH hS hl)
theorem sx_if_ne (C : sx_C p s m args c cc nL own Ts D cl tys E A) {x : Int32} {off : Int} {tgt : Nat} (hd : decode cc pc = .ok (.ifCond .ne off, 3)) (ht : (pc : Int) + off = (tgt : Int)) (kt : ¬ x = 0 → SW p l e R s m args below meth c nL D cl A cells slots Q μ tgt lv rest) (kf : x = 0 → SW p l e R s m args below meth c nL D cl A cells slots Q μ (pc + 3) lv rest) : SW p l e R s m args below meth c nL D cl A cells slots Q μ pc lv (.int x :: rest) :=
  fun H locs ls hH hS hl => lv_if_ne C.1.1 C.1.2.1 hd ht (fun z => kt z H locs ls hH hS hl) (fun z => kf z H locs ls hH hS hl)
theorem sx_icmp_ne (C : sx_C p s m args c cc nL own Ts D cl tys E A) {x y : Int32} {off : Int} {tgt : Nat} (hd : decode cc pc = .ok (.if_icmp .ne off, 3)) (ht : (pc : Int) + off = (tgt : Int)) (kt : ¬ x = y → SW p l e R s m args below meth c nL D cl A cells slots Q μ tgt lv rest) (kf : x = y → SW p l e R s m args below meth c nL D cl A cells slots Q μ (pc + 3) lv rest) : SW p l e R s m args below meth c nL D cl A cells slots Q μ pc lv (.int y :: .int x :: rest) :=
  fun H locs ls hH hS hl => lv_icmp_ne C.1.1 C.1.2.1 hd ht (fun z => kt z H locs ls hH hS hl) (fun z => kf z H locs ls hH hS hl)
theorem sx_if_lt (C : sx_C p s m args c cc nL own Ts D cl tys E A) {x : Int32} {off : Int} {tgt : Nat} (hd : decode cc pc = .ok (.ifCond .lt off, 3)) (ht : (pc : Int) + off = (tgt : Int)) (kt : x < 0 → SW p l e R s m args below meth c nL D cl A cells slots Q μ tgt lv rest) (kf : ¬ (x < 0) → SW p l e R s m args below meth c nL D cl A cells slots Q μ (pc + 3) lv rest) : SW p l e R s m args below meth c nL D cl A cells slots Q μ pc lv (.int x :: rest) :=
  fun H locs ls hH hS hl => lv_if_lt C.1.1 C.1.2.1 hd ht (fun z => kt z H locs ls hH hS hl) (fun z => kf z H locs ls hH hS hl)
theorem sx_icmp_lt (C : sx_C p s m args c cc nL own Ts D cl tys E A) {x y : Int32} {off : Int} {tgt : Nat} (hd : decode cc pc = .ok (.if_icmp .lt off, 3)) (ht : (pc : Int) + off = (tgt : Int)) (kt : x < y → SW p l e R s m args below meth c nL D cl A cells slots Q μ tgt lv rest) (kf : ¬ (x < y) → SW p l e R s m args below meth c nL D cl A cells slots Q μ (pc + 3) lv rest) : SW p l e R s m args below meth c nL D cl A cells slots Q μ pc lv (.int y :: .int x :: rest) :=
  fun H locs ls hH hS hl => lv_icmp_lt C.1.1 C.1.2.1 hd ht (fun z => kt z H locs ls hH hS hl) (fun z => kf z H locs ls hH hS hl)
theorem sx_if_ge (C : sx_C p s m args c cc nL own Ts D cl tys E A) {x : Int32} {off : Int} {tgt : Nat} (hd : decode cc pc = .ok (.ifCond .ge off, 3)) (ht : (pc : Int) + off = (tgt : Int)) (kt : 0 ≤ x → SW p l e R s m args below meth c nL D cl A cells slots Q μ tgt lv rest) (kf : ¬ (0 ≤ x) → SW p l e R s m args below meth c nL D cl A cells slots Q μ (pc + 3) lv rest) : SW p l e R s m args below meth c nL D cl A cells slots Q μ pc lv (.int x :: rest) :=
  fun H locs ls hH hS hl => lv_if_ge C.1.1 C.1.2.1 hd ht (fun z => kt z H locs ls hH hS hl) (fun z => kf z H locs ls hH hS hl)
theorem sx_icmp_ge (C : sx_C p s m args c cc nL own Ts D cl tys E A) {x y : Int32} {off : Int} {tgt : Nat} (hd : decode cc pc = .ok (.if_icmp .ge off, 3)) (ht : (pc : Int) + off = (tgt : Int)) (kt : y ≤ x → SW p l e R s m args below meth c nL D cl A cells slots Q μ tgt lv rest) (kf : ¬ (y ≤ x) → SW p l e R s m args below meth c nL D cl A cells slots Q μ (pc + 3) lv rest) : SW p l e R s m args below meth c nL D cl A cells slots Q μ pc lv (.int y :: .int x :: rest) :=
  fun H locs ls hH hS hl => lv_icmp_ge C.1.1 C.1.2.1 hd ht (fun z => kt z H locs ls hH hS hl) (fun z => kf z H locs ls hH hS hl)
theorem sx_if_gt (C : sx_C p s m args c cc nL own Ts D cl tys E A) {x : Int32} {off : Int} {tgt : Nat} (hd : decode cc pc = .ok (.ifCond .gt off, 3)) (ht : (pc : Int) + off = (tgt : Int)) (kt : 0 < x → SW p l e R s m args below meth c nL D cl A cells slots Q μ tgt lv rest) (kf : ¬ (0 < x) → SW p l e R s m args below meth c nL D cl A cells slots Q μ (pc + 3) lv rest) : SW p l e R s m args below meth c nL D cl A cells slots Q μ pc lv (.int x :: rest) :=
  fun H locs ls hH hS hl => lv_if_gt C.1.1 C.1.2.1 hd ht (fun z => kt z H locs ls hH hS hl) (fun z => kf z H locs ls hH hS hl)
theorem sx_icmp_gt (C : sx_C p s m args c cc nL own Ts D cl tys E A) {x y : Int32} {off : Int} {tgt : Nat} (hd : decode cc pc = .ok (.if_icmp .gt off, 3)) (ht : (pc : Int) + off = (tgt : Int)) (kt : y < x → SW p l e R s m args below meth c nL D cl A cells slots Q μ tgt lv rest) (kf : ¬ (y < x) → SW p l e R s m args below meth c nL D cl A cells slots Q μ (pc + 3) lv rest) : SW p l e R s m args below meth c nL D cl A cells slots Q μ pc lv (.int y :: .int x :: rest) :=
  fun H locs ls hH hS hl => lv_icmp_gt C.1.1 C.1.2.1 hd ht (fun z => kt z H locs ls hH hS hl) (fun z => kf z H locs ls hH hS hl)
theorem sx_if_le (C : sx_C p s m args c cc nL own Ts D cl tys E A) {x : Int32} {off : Int} {tgt : Nat} (hd : decode cc pc = .ok (.ifCond .le off, 3)) (ht : (pc : Int) + off = (tgt : Int)) (kt : x ≤ 0 → SW p l e R s m args below meth c nL D cl A cells slots Q μ tgt lv rest) (kf : ¬ (x ≤ 0) → SW p l e R s m args below meth c nL D cl A cells slots Q μ (pc + 3) lv rest) : SW p l e R s m args below meth c nL D cl A cells slots Q μ pc lv (.int x :: rest) :=
  fun H locs ls hH hS hl => lv_if_le C.1.1 C.1.2.1 hd ht (fun z => kt z H locs ls hH hS hl) (fun z => kf z H locs ls hH hS hl)
theorem sx_icmp_le (C : sx_C p s m args c cc nL own Ts D cl tys E A) {x y : Int32} {off : Int} {tgt : Nat} (hd : decode cc pc = .ok (.if_icmp .le off, 3)) (ht : (pc : Int) + off = (tgt : Int)) (kt : x ≤ y → SW p l e R s m args below meth c nL D cl A cells slots Q μ tgt lv rest) (kf : ¬ (x ≤ y) → SW p l e R s m args below meth c nL D cl A cells slots Q μ (pc + 3) lv rest) : SW p l e R s m args below meth c nL D cl A cells slots Q μ pc lv (.int y :: .int x :: rest) :=
  fun H locs ls hH hS hl => lv_icmp_le C.1.1 C.1.2.1 hd ht (fun z => kt z H locs ls hH hS hl) (fun z => kf z H locs ls hH hS hl)
theorem sx_lcmp (C : sx_C p s m args c cc nL own Ts D cl tys E A) {x y : Int64} (hd : decode cc pc = .ok (.lcmp, 1))  (k : SW p l e R s m args below meth c nL D cl A cells slots Q μ (pc + 1) lv (.int (lg_cmp x y) :: rest)) : SW p l e R s m args below meth c nL D cl A cells slots Q μ pc lv (.long y :: .long x :: rest) :=
  fun H locs ls hH hS hl => W.lcmp C.1.1 C.1.2.1 hd (k H locs ls hH hS hl)
theorem sx_topi {x : Int32} (k : ∀ y : Int32, y = x → SW p l e R s m args below meth c nL D cl A cells slots Q μ pc lv (.int y :: rest)) : SW p l e R s m args below meth c nL D cl A cells slots Q μ pc lv (.int x :: rest) := k x rfl
theorem sx_topl {x : Int64} (k : ∀ y : Int64, y = x → SW p l e R s m args below meth c nL D cl A cells slots Q μ pc lv (.long y :: rest)) : SW p l e R s m args below meth c nL D cl A cells slots Q μ pc lv (.long x :: rest) := k x rfl
theorem sx_eqi {x : Int32} (y : Int32) (h : x = y) (k : SW p l e R s m args below meth c nL D cl A cells slots Q μ pc lv (.int y :: rest)) : SW p l e R s m args below meth c nL D cl A cells slots Q μ pc lv (.int x :: rest) := h ▸ k
theorem sx_eql {x : Int64} (y : Int64) (h : x = y) (k : SW p l e R s m args below meth c nL D cl A cells slots Q μ pc lv (.long y :: rest)) : SW p l e R s m args below meth c nL D cl A cells slots Q μ pc lv (.long x :: rest) := h ▸ k
theorem sx_lvEq (lv' : List (Option Value)) (h : lv = lv') (k : SW p l e R s m args below meth c nL D cl A cells slots Q μ pc lv' rest) : SW p l e R s m args below meth c nL D cl A cells slots Q μ pc lv rest := h ▸ k
theorem sx_mu (μ' : sx_M) (h : μ = μ') (k : SW p l e R s m args below meth c nL D cl A cells slots Q μ' pc lv rest) : SW p l e R s m args below meth c nL D cl A cells slots Q μ pc lv rest := h ▸ k
theorem sx_widen {k n : Nat} (h1 : cells ≤ k) (h2 : slots ≤ n) (kk : SW p l e R s m args below meth c nL D cl A k n Q μ pc lv rest) : SW p l e R s m args below meth c nL D cl A cells slots Q μ pc lv rest :=
  fun H locs ls hH hS hl => W.widen h1 h2 (kk H locs ls hH hS hl)
def sx_le : List (Option Value) → List (Option Value) → Prop
  | [], _ => True
  | none :: a, [] => sx_le a []
  | some _ :: _, [] => False
  | none :: a, _ :: b => sx_le a b
  | some x :: a, y :: b => y = some x ∧ sx_le a b
theorem sx_le_get : ∀ (a b : List (Option Value)), sx_le a b → ∀ (i : Nat) (v : Value), a[i]? = some (some v) → b[i]? = some (some v)
  | [], _, _, i, v, h => by simp at h
  | none :: a, [], hs, i, v, h => by
    cases i with
    | zero => rw [List.getElem?_cons_zero] at h; cases h
    | succ i =>
      rw [List.getElem?_cons_succ] at h
      have := sx_le_get a [] hs i v h
      simp at this
  | some _ :: _, [], hs, _, _, _ => absurd hs (by simp [sx_le])
  | none :: a, y :: b, hs, i, v, h => by
    cases i with
    | zero => rw [List.getElem?_cons_zero] at h; cases h
    | succ i =>
      rw [List.getElem?_cons_succ] at h ⊢
      exact sx_le_get a b hs i v h
  | some x :: a, y :: b, hs, i, v, h => by
    cases i with
    | zero =>
      rw [List.getElem?_cons_zero] at h ⊢
      rw [hs.1, h]
    | succ i =>
      rw [List.getElem?_cons_succ] at h ⊢
      exact sx_le_get a b hs.2 i v h
theorem sx_weak {lv' : List (Option Value)} (h : sx_le lv' lv) (k : SW p l e R s m args below meth c nL D cl A cells slots Q μ pc lv' rest) : SW p l e R s m args below meth c nL D cl A cells slots Q μ pc lv rest :=
  fun H locs ls hH hS hl => k H locs ls hH hS (sx_V_sub hl (sx_le_get lv' lv h))
theorem sx_tableOut (C : sx_C p s m args c cc nL own Ts D cl tys E A) {dflt lo hi : Int} {offs : Array Int} {len : Nat} {x : Int32} {tgt : Nat} (hd : decode cc pc = .ok (.tableswitch dflt lo hi offs, len)) (h : x.toInt < lo ∨ hi < x.toInt) (ht : (pc : Int) + dflt = (tgt : Int)) (k : SW p l e R s m args below meth c nL D cl A cells slots Q μ tgt lv rest) : SW p l e R s m args below meth c nL D cl A cells slots Q μ pc lv (.int x :: rest) :=
  fun H locs ls hH hS hl => lv_tableOut C.1.1 C.1.2.1 hd h ht (k H locs ls hH hS hl)
theorem sx_tableIn (C : sx_C p s m args c cc nL own Ts D cl tys E A) {dflt lo hi : Int} {offs : Array Int} {len : Nat} {x : Int32} {off : Int} {tgt : Nat} (hd : decode cc pc = .ok (.tableswitch dflt lo hi offs, len)) (h1 : ¬ x.toInt < lo) (h2 : ¬ hi < x.toInt) (ho : offs[(x.toInt - lo).toNat]? = some off) (ht : (pc : Int) + off = (tgt : Int)) (k : SW p l e R s m args below meth c nL D cl A cells slots Q μ tgt lv rest) : SW p l e R s m args below meth c nL D cl A cells slots Q μ pc lv (.int x :: rest) :=
  fun H locs ls hH hS hl => lv_tableIn C.1.1 C.1.2.1 hd h1 h2 ho ht (k H locs ls hH hS hl)
theorem sx_getf (C : sx_C p s m args c cc nL own Ts D cl tys E A) {ref Cn : String} {T : u_T} {N ci index a : Nat} {fs : List Value} {v : Value} (hd : decode cc pc = .ok (.getfield index, 3)) (hin : ∀ w ∈ u_ws Cn T N, w ∈ Ts) (hc : cl[ci]? = some (Cn, T, N)) (j : Nat) (hj : j < N) (hlink : (Cond.fieldLink own index ref (T j).2.1 (T j).2.2.1).before args s = true) (hsame : ∀ x, s.fieldFound? (T j).1 (T j).2.1 (T j).2.2.1 = some x → s.fieldFound? ref (T j).2.1 (T j).2.2.1 = some x) (hμ : μ a = some (.inr (ci, fs))) (hv : fs[j]? = some v) (k : SW p l e R s m args below meth c nL D cl A cells slots Q μ (pc + 3) lv (v :: rest)) : SW p l e R s m args below meth c nL D cl A cells slots Q μ pc lv (.ref a :: rest) := by
  intro H locs ls hH hS hl
  obtain ⟨ws, hP, hD, hL⟩ := id hH
  obtain ⟨q, hq⟩ := (hL _ _).mp hμ
  exact va_get C.1.1 C.1.2.1 C.1.2.2.2.2 hin C.1.2.2.2.1 C.2.1 hP q hq hc j hj hlink hsame hv hd (k H locs ls hH hS hl)
theorem sx_putf (C : sx_C p s m args c cc nL own Ts D cl tys E A) {ref Cn : String} {T : u_T} {N ci index a : Nat} {fs : List Value} {v : Value} {ty : FieldType} (hd : decode cc pc = .ok (.putfield index, 3)) (hin : ∀ w ∈ u_ws Cn T N, w ∈ Ts) (ty0 : Nat → FieldType) (hty : ∀ k, k < N → parseFieldDescriptor (T k).2.2.1 = some (ty0 k)) (hnm : ∀ a, a < N → ∀ b, b < N → a ≠ b → (T a).2.1 ≠ (T b).2.1) (hc : cl[ci]? = some (Cn, T, N)) (j : Nat) (hj : j < N) (hlink : (Cond.fieldLink own index ref (T j).2.1 (T j).2.2.1).before args s = true) (hsame : ∀ x, s.fieldFound? (T j).1 (T j).2.1 (T j).2.2.1 = some x → s.fieldFound? ref (T j).2.1 (T j).2.2.1 = some x) (hfin : (T j).2.2.2 = false) (hds : parseFieldDescriptor (T j).2.2.1 = some ty) (hn : narrow ty v = v) (hfit : fits ty v = true) (hμ : μ a = some (.inr (ci, fs))) (hjl : j < fs.length) {fs' : List Value} (hfs : fs.set j v = fs') (k : SW p l e R s m args below meth c nL D cl A cells slots Q (sx_up μ a (.inr (ci, fs'))) (pc + 3) lv rest) : SW p l e R s m args below meth c nL D cl A cells slots Q μ pc lv (v :: .ref a :: rest) := by
  intro H locs ls hH hS hl
  subst hfs
  obtain ⟨ws, hP, hD, hL⟩ := id hH
  obtain ⟨q, hq⟩ := (hL _ _).mp hμ
  exact va_put C.1.1 C.1.2.1 C.1.2.2.2.2 hin ty0 hty hnm C.1.2.2.2.1 C.2.1 hP hD hS q hq hc j hj hlink hsame hfin hds hn hfit hjl hd (fun H1 locs1 hP1 hD1 hS1 => k H1 locs1 ls ⟨_, hP1, hD1, sx_L_set _ hL hD hq⟩ hS1 hl)
theorem sx_putF (C : sx_C p s m args c cc nL own Ts D cl tys E A) {ref Cn : String} {T : u_T} {N ci index a : Nat} {fs : List Value} {v : Value} {ty : FieldType} (hd : decode cc pc = .ok (.putfield index, 3)) (hin : ∀ w ∈ u_ws Cn T N, w ∈ Ts) (ty0 : Nat → FieldType) (hty : ∀ k, k < N → parseFieldDescriptor (T k).2.2.1 = some (ty0 k)) (hnm : ∀ a, a < N → ∀ b, b < N → a ≠ b → (T a).2.1 ≠ (T b).2.1) (hc : cl[ci]? = some (Cn, T, N)) (j : Nat) (hj : j < N) (hlink : (Cond.fieldLink own index ref (T j).2.1 (T j).2.2.1).before args s = true) (hsame : ∀ x, s.fieldFound? (T j).1 (T j).2.1 (T j).2.2.1 = some x → s.fieldFound? ref (T j).2.1 (T j).2.2.1 = some x) (hfin : (T j).2.2.2 = true) (hin2 : meth.name = "<init>") (hdecl : (T j).1 = own) (hds : parseFieldDescriptor (T j).2.2.1 = some ty) (hn : narrow ty v = v) (hfit : fits ty v = true) (hμ : μ a = some (.inr (ci, fs))) (hjl : j < fs.length) {fs' : List Value} (hfs : fs.set j v = fs') (k : SW p l e R s m args below meth c nL D cl A cells slots Q (sx_up μ a (.inr (ci, fs'))) (pc + 3) lv rest) : SW p l e R s m args below meth c nL D cl A cells slots Q μ pc lv (v :: .ref a :: rest) := by
  intro H locs ls hH hS hl
  subst hfs
  obtain ⟨ws, hP, hD, hL⟩ := id hH
  obtain ⟨q, hq⟩ := (hL _ _).mp hμ
  exact va_putF C.1.1 C.1.2.1 C.1.2.2.2.2 hin ty0 hty hnm C.1.2.2.2.1 C.2.1 hP hD hS q hq hc j hj hlink hsame hfin hin2 hdecl hds hn hfit hjl hd (fun H1 locs1 hP1 hD1 hS1 => k H1 locs1 ls ⟨_, hP1, hD1, sx_L_set _ hL hD hq⟩ hS1 hl)
theorem sx_updI (f : Nat → Int32) (k : Nat) (x : Int32) : upd f k x = va_up f k x := rfl
theorem sx_updL (f : Nat → Int64) (k : Nat) (x : Int64) : vp_updL f k x = va_up f k x := rfl
theorem sx_iald (C : sx_C p s m args c cc nL own Ts D cl tys E A) {a n j : Nat} {cA : ClassId} {f : Nat → Int32} {i : Int32} (hd : decode cc pc = .ok (.iaload, 1)) (t0 : Nat) (ht : tys[t0]? = some (cA, .int)) (hμ : μ a = some (.inl (cA, n, .inl f))) (hi : i = nI j) (hj : j < n) (hn : n < 2 ^ 31) (k : SW p l e R s m args below meth c nL D cl A cells slots Q μ (pc + 1) lv (.int (f j) :: rest)) : SW p l e R s m args below meth c nL D cl A cells slots Q μ pc lv (.int i :: .ref a :: rest) := by
  intro H locs ls hH hS hl
  obtain ⟨ws, hP, hD, hL⟩ := id hH
  obtain ⟨q, hq⟩ := (hL _ _).mp hμ
  subst hi
  refine va_iald C.1.1 C.1.2.1 C.2.1 hP q t0 hq ht (vp_in_nI hj hn) hd ?_
  rw [nI_clamp (Nat.lt_trans hj hn)]
  exact (k H locs ls hH hS hl)
theorem sx_iast (C : sx_C p s m args c cc nL own Ts D cl tys E A) {a n j : Nat} {cA : ClassId} {f : Nat → Int32} {i : Int32} {x : Int32} (hd : decode cc pc = .ok (.iastore, 1)) (t0 : Nat) (ht : tys[t0]? = some (cA, .int)) (hμ : μ a = some (.inl (cA, n, .inl f))) (hi : i = nI j) (hj : j < n) (hn : n < 2 ^ 31) (k : SW p l e R s m args below meth c nL D cl A cells slots Q (sx_up μ a (.inl (cA, n, .inl (va_up f j x)))) (pc + 1) lv rest) : SW p l e R s m args below meth c nL D cl A cells slots Q μ pc lv (.int x :: .int i :: .ref a :: rest) := by
  intro H locs ls hH hS hl
  obtain ⟨ws, hP, hD, hL⟩ := id hH
  obtain ⟨q, hq⟩ := (hL _ _).mp hμ
  subst hi
  refine va_iast C.1.1 C.1.2.1 C.2.1 hP hD hS q t0 hq ht (vp_in_nI hj hn) hd (fun H1 locs1 hP1 hD1 hS1 => ?_)
  rw [nI_clamp (Nat.lt_trans hj hn)] at hP1 hD1
  exact k H1 locs1 ls ⟨_, hP1, hD1, sx_L_set _ hL hD hq⟩ hS1 hl
theorem sx_lald (C : sx_C p s m args c cc nL own Ts D cl tys E A) {a n j : Nat} {cA : ClassId} {f : Nat → Int64} {i : Int32} (hd : decode cc pc = .ok (.laload, 1)) (t0 : Nat) (ht : tys[t0]? = some (cA, .long)) (hμ : μ a = some (.inl (cA, n, .inr (.inl f)))) (hi : i = nI j) (hj : j < n) (hn : n < 2 ^ 31) (k : SW p l e R s m args below meth c nL D cl A cells slots Q μ (pc + 1) lv (.long (f j) :: rest)) : SW p l e R s m args below meth c nL D cl A cells slots Q μ pc lv (.int i :: .ref a :: rest) := by
  intro H locs ls hH hS hl
  obtain ⟨ws, hP, hD, hL⟩ := id hH
  obtain ⟨q, hq⟩ := (hL _ _).mp hμ
  subst hi
  refine va_lald C.1.1 C.1.2.1 C.2.1 hP q t0 hq ht (vp_in_nI hj hn) hd ?_
  rw [nI_clamp (Nat.lt_trans hj hn)]
  exact (k H locs ls hH hS hl)
theorem sx_last (C : sx_C p s m args c cc nL own Ts D cl tys E A) {a n j : Nat} {cA : ClassId} {f : Nat → Int64} {i : Int32} {x : Int64} (hd : decode cc pc = .ok (.lastore, 1)) (t0 : Nat) (ht : tys[t0]? = some (cA, .long)) (hμ : μ a = some (.inl (cA, n, .inr (.inl f)))) (hi : i = nI j) (hj : j < n) (hn : n < 2 ^ 31) (k : SW p l e R s m args below meth c nL D cl A cells slots Q (sx_up μ a (.inl (cA, n, .inr (.inl (va_up f j x))))) (pc + 1) lv rest) : SW p l e R s m args below meth c nL D cl A cells slots Q μ pc lv (.long x :: .int i :: .ref a :: rest) := by
  intro H locs ls hH hS hl
  obtain ⟨ws, hP, hD, hL⟩ := id hH
  obtain ⟨q, hq⟩ := (hL _ _).mp hμ
  subst hi
  refine va_last C.1.1 C.1.2.1 C.2.1 hP hD hS q t0 hq ht (vp_in_nI hj hn) hd (fun H1 locs1 hP1 hD1 hS1 => ?_)
  rw [nI_clamp (Nat.lt_trans hj hn)] at hP1 hD1
  exact k H1 locs1 ls ⟨_, hP1, hD1, sx_L_set _ hL hD hq⟩ hS1 hl
theorem sx_alen (C : sx_C p s m args c cc nL own Ts D cl tys E A) {a : Nat} {cA : ClassId} {x : vp_A} {ty : FieldType} {v : Int32} (hd : decode cc pc = .ok (.arraylength, 1)) (t0 : Nat) (ht : tys[t0]? = some (cA, ty)) (hμ : μ a = some (.inl (cA, x))) (hv : Int32.ofNat x.1 = v) (k : SW p l e R s m args below meth c nL D cl A cells slots Q μ (pc + 1) lv (.int v :: rest)) : SW p l e R s m args below meth c nL D cl A cells slots Q μ pc lv (.ref a :: rest) := by
  intro H locs ls hH hS hl
  obtain ⟨ws, hP, hD, hL⟩ := id hH
  obtain ⟨q, hq⟩ := (hL _ _).mp hμ
  exact va_alen C.1.1 C.1.2.1 C.2.1 hP q t0 hq ht hv hd (k H locs ls hH hS hl)
theorem sx_aald (C : sx_C p s m args c cc nL own Ts D cl tys E A) {a n j b : Nat} {cA : ClassId} {Cx : String} {f : Nat → Option Nat} {i : Int32} (hd : decode cc pc = .ok (.aaload, 1)) (t0 : Nat) (ht : tys[t0]? = some (cA, .object Cx)) (hμ : μ a = some (.inl (cA, n, .inr (.inr (.inr (.inr f)))))) (hi : i = nI j) (hj : j < n) (hn : n < 2 ^ 31) (hf : f j = some b) (k : SW p l e R s m args below meth c nL D cl A cells slots Q μ (pc + 1) lv (.ref b :: rest)) : SW p l e R s m args below meth c nL D cl A cells slots Q μ pc lv (.int i :: .ref a :: rest) := by
  intro H locs ls hH hS hl
  obtain ⟨ws, hP, hD, hL⟩ := id hH
  obtain ⟨q, hq⟩ := (hL _ _).mp hμ
  subst hi
  refine va_aldq C.1.1 C.1.2.1 C.2.1 hP q t0 hq ht (vp_in_nI hj hn) hd ?_
  rw [nI_clamp (Nat.lt_trans hj hn), hf]
  exact (k H locs ls hH hS hl)
theorem sx_aaldA (C : sx_C p s m args c cc nL own Ts D cl tys E A) {a n j b : Nat} {cA : ClassId} {tx : FieldType} {f : Nat → Option Nat} {i : Int32} (hd : decode cc pc = .ok (.aaload, 1)) (t0 : Nat) (ht : tys[t0]? = some (cA, .array tx)) (hμ : μ a = some (.inl (cA, n, .inr (.inr (.inr (.inr f)))))) (hi : i = nI j) (hj : j < n) (hn : n < 2 ^ 31) (hf : f j = some b) (k : SW p l e R s m args below meth c nL D cl A cells slots Q μ (pc + 1) lv (.ref b :: rest)) : SW p l e R s m args below meth c nL D cl A cells slots Q μ pc lv (.int i :: .ref a :: rest) := by
  intro H locs ls hH hS hl
  obtain ⟨ws, hP, hD, hL⟩ := id hH
  obtain ⟨q, hq⟩ := (hL _ _).mp hμ
  subst hi
  have hc := nI_clamp (Nat.lt_trans hj hn)
  refine W.aald (v := va_rf (f j)) (ty := .array tx) C.1.1 C.1.2.1 (hP q _ hq) ((C.2.1.2 t0 _ ht).1 n (fun j => va_rf (f j))) rfl (fun q => by cases q) (by show ¬ (nI j < 0 ∨ (arrV _ _ _).slots.size ≤ _); rw [arrV_size]; exact vp_in_nI hj hn) (by show (arrV _ _ _).slots[_]? = _; rw [hc, arrV_read _ _ hj]) rfl rfl hd ?_
  rw [hf]
  exact (k H locs ls hH hS hl)
theorem sx_aast (C : sx_C p s m args c cc nL own Ts D cl tys E A) {a n j b ci : Nat} {cA : ClassId} {r : vw_C} {vs : List Value} {f : Nat → Option Nat} {i : Int32} (hd : decode cc pc = .ok (.aastore, 1)) (t0 : Nat) (ht : tys[t0]? = some (cA, .object r.1)) (hc : cl[ci]? = some r) (hμ : μ a = some (.inl (cA, n, .inr (.inr (.inr (.inr f)))))) (hb : μ b = some (.inr (ci, vs))) (hi : i = nI j) (hj : j < n) (hn : n < 2 ^ 31) (k : SW p l e R s m args below meth c nL D cl A cells slots Q (sx_up μ a (.inl (cA, n, .inr (.inr (.inr (.inr (va_up f j (some b)))))))) (pc + 1) lv rest) : SW p l e R s m args below meth c nL D cl A cells slots Q μ pc lv (.ref b :: .int i :: .ref a :: rest) := by
  intro H locs ls hH hS hl
  obtain ⟨ws, hP, hD, hL⟩ := id hH
  obtain ⟨q, hq⟩ := (hL _ _).mp hμ
  obtain ⟨q2, hq2⟩ := (hL _ _).mp hb
  subst hi
  refine va_astq C.1.1 C.1.2.1 C.2.1 hP hD hS q t0 q2 ci hq ht hq2 hc (vp_in_nI hj hn) hd (fun H1 locs1 hP1 hD1 hS1 => ?_)
  rw [nI_clamp (Nat.lt_trans hj hn)] at hP1 hD1
  exact k H1 locs1 ls ⟨_, hP1, hD1, sx_L_set _ hL hD hq⟩ hS1 hl
theorem sx_L_fresh {μ : sx_M} {ws : va_W} {A : Nat → Prop} {q : Nat} {e : va_E} (hL : sx_L μ ws) (hD : va_D A (ws ++ [(q, e)])) : μ q = none := by
  cases hq : μ q with
  | none => rfl
  | some x =>
    obtain ⟨k, hk⟩ := (hL q x).mp hq
    have hl := (List.getElem?_eq_some_iff.mp hk).1
    have h1 : (ws ++ [(q, e)])[k]? = some (q, x) := by rw [List.getElem?_append_left hl]; exact hk
    have h2 : (ws ++ [(q, e)])[ws.length]? = some (q, e) := by rw [List.getElem?_append_right (Nat.le_refl _), Nat.sub_self]; rfl
    have := hD.1 _ _ _ _ h1 h2 rfl
    omega
theorem sx_new (C : sx_C p s m args c cc nL own Ts D cl tys E A) {Cn : String} {T : u_T} {N ci index : Nat} {fs : List Value} (hd : decode cc pc = .ok (.new index, 3)) (hin : ∀ w ∈ u_ws Cn T N, w ∈ Ts) (ty : Nat → FieldType) (hty : ∀ k, k < N → parseFieldDescriptor (T k).2.2.1 = some (ty k)) (hcl : (Cond.classLink own index Cn).before args s = true) (hinst : (Cond.instantiable Cn N).before args s = true) (hini : (Cond.initialized Cn).before args s = true) (hc : cl[ci]? = some (Cn, T, N)) (hfs : ∀ j, j < N → defaultValue (ty j) = vp_V fs j) (hcells : cells + 1 ≤ R.cells) (hslots : slots + N ≤ R.slots) (k : ∀ q : Nat, μ q = none → SW p l e R s m args below meth c nL D cl A (cells + 1) (slots + N) Q (sx_up μ q (.inr (ci, fs))) (pc + 3) lv (.ref q :: rest)) : SW p l e R s m args below meth c nL D cl A cells slots Q μ pc lv rest := by
  intro H locs ls hH hS hl
  obtain ⟨ws, hP, hD, hL⟩ := id hH
  exact va_new C.1.1 C.1.2.1 C.1.2.2.2.2 hin ty hty C.1.2.2.2.1 hcl hinst hini C.2.1 hP hD hS C.2.2.1 hc hfs hcells hslots hd (fun q H1 hP1 hD1 hS1 => k q (sx_L_fresh hL hD1) H1 locs ls ⟨_, hP1, hD1, sx_L_push _ hL (sx_L_fresh hL hD1)⟩ hS1 hl)
theorem sx_newa (C : sx_C p s m args c cc nL own Ts D cl tys E A) {atype : ArrayType} {ty : FieldType} {cA : ClassId} {n : Int32} {N : Nat} {a0 : vp_A} (hd : decode cc pc = .ok (.newarray atype, 2)) (harr : (Cond.arrayClass (newarray.typeOf atype)).before args s = true) (hty : newarray.typeOf atype = ty) (t0 : Nat) (ht : tys[t0]? = some (cA, ty)) (hun : ∀ c1 c2 : ClassId, va_RA s c1 ty → va_RA s c2 ty → c1 = c2) (ha : ∀ cB : ClassId, vp_cell cB a0 = arrV cB N (fun _ => defaultValue ty)) (hn : n = nI N) (hN : N < 2 ^ 31) (hbytes : N * componentBytes ty ≤ 536870912) (hcells : cells + 1 ≤ R.cells) (hslots : slots + N ≤ R.slots) (k : ∀ q : Nat, μ q = none → SW p l e R s m args below meth c nL D cl A (cells + 1) (slots + N) Q (sx_up μ q (.inl (cA, a0))) (pc + 2) lv (.ref q :: rest)) : SW p l e R s m args below meth c nL D cl A cells slots Q μ pc lv (.int n :: rest) := by
  intro H locs ls hH hS hl
  obtain ⟨ws, hP, hD, hL⟩ := id hH
  refine va_newa C.1.1 C.1.2.1 harr hty C.2.1 hP hD hS C.2.2.1 ha (by rw [hn]; exact nI_pos hN) (by rw [hn]; exact nI_clamp hN) hbytes hcells hslots hd (fun q cB H1 hK1 hP1 hD1 hS1 => ?_)
  have e : cB = cA := hun _ _ (hK1.2 tys.length (cB, ty) (by rw [List.getElem?_append_right (Nat.le_refl _), Nat.sub_self]; rfl)).2 (C.2.1.2 t0 _ ht).2
  subst e
  exact k q (sx_L_fresh hL hD1) H1 locs ls ⟨_, hP1, hD1, sx_L_push _ hL (sx_L_fresh hL hD1)⟩ hS1 hl
theorem sx_newq (C : sx_C p s m args c cc nL own Ts D cl tys E A) {Cx : String} {index : Nat} {cA : ClassId} {n : Int32} {N : Nat} (hd : decode cc pc = .ok (.anewarray index, 3)) (hclink : (Cond.classLink own index Cx).before args s = true) (hover : va_AO Cx s) (t0 : Nat) (ht : tys[t0]? = some (cA, .object Cx)) (hn : n = nI N) (hN : N < 2 ^ 31) (hbytes : N * 4 ≤ 536870912) (hcells : cells + 1 ≤ R.cells) (hslots : slots + N ≤ R.slots) (k : ∀ q : Nat, μ q = none → SW p l e R s m args below meth c nL D cl A (cells + 1) (slots + N) Q (sx_up μ q (.inl (cA, N, .inr (.inr (.inr (.inr (fun _ => none))))))) (pc + 3) lv (.ref q :: rest)) : SW p l e R s m args below meth c nL D cl A cells slots Q μ pc lv (.int n :: rest) := by
  intro H locs ls hH hS hl
  obtain ⟨ws, hP, hD, hL⟩ := id hH
  refine va_newq C.1.1 C.1.2.1 C.1.2.2.2.1 hclink hover C.2.1 hP hD hS C.2.2.1 (by rw [hn]; exact nI_pos hN) (by rw [hn]; exact nI_clamp hN) hbytes hcells hslots hd (fun q cB H1 hK1 hP1 hD1 hS1 => ?_)
  have e : cB = cA := by
    obtain ⟨_, _, _, _, _, h1⟩ := (hK1.2 tys.length (cB, .object Cx) (by rw [List.getElem?_append_right (Nat.le_refl _), Nat.sub_self]; rfl)).2
    obtain ⟨_, _, _, _, _, h2⟩ := (C.2.1.2 t0 _ ht).2
    exact Option.some.inj (h1.symm.trans h2)
  subst e
  exact k q (sx_L_fresh hL hD1) H1 locs ls ⟨_, hP1, hD1, sx_L_push _ hL (sx_L_fresh hL hD1)⟩ hS1 hl
end SXR
/-! the frame rule over maps: a callee that is given a part of the map -/
/-- the map μ, where its part ν has become ν' -/
def sx_ov (μ ν ν' : sx_M) : sx_M := fun q => match ν' q with
  | some e => some e
  | none => match ν q with
    | some _ => none
    | none => μ q
theorem sx_ov_in {μ ν ν' : sx_M} {q : Nat} {e : va_E} (h : ν' q = some e) : sx_ov μ ν ν' q = some e := by simp [sx_ov, h]
theorem sx_ov_out {μ ν ν' : sx_M} {q : Nat} (h1 : ν' q = none) (h2 : ν q = none) : sx_ov μ ν ν' q = μ q := by simp [sx_ov, h1, h2]
theorem sx_L_filter {μ : sx_M} {ws : va_W} (hL : sx_L μ ws) (P : Nat → Bool) : sx_L (fun q => if P q = true then μ q else none) (ws.filter (fun q => P q.1)) := by
  intro a e
  by_cases h : P a = true
  · simp only [h, if_true]
    rw [hL a e]
    constructor
    · rintro ⟨k, hk⟩
      exact List.getElem?_of_mem (List.mem_filter.mpr ⟨List.mem_of_getElem? hk, h⟩)
    · rintro ⟨k, hk⟩
      exact List.getElem?_of_mem (List.mem_filter.mp (List.mem_of_getElem? hk)).1
  · simp only [h]
    constructor
    · intro z; cases z
    · rintro ⟨k, hk⟩
      exact absurd (List.mem_filter.mp (List.mem_of_getElem? hk)).2 h
theorem sx_D_filter : ∀ {A : Nat → Prop} {ws : va_W} (P : (Nat × va_E) → Bool), va_D A ws → va_D A (ws.filter P)
  | A, [], P, h => h
  | A, x :: t, P, h => by
    have ht : va_D A t := ⟨fun i j p q hi hj e => by
      have := h.1 (i + 1) (j + 1) p q (by rw [List.getElem?_cons_succ]; exact hi) (by rw [List.getElem?_cons_succ]; exact hj) e
      omega, fun k q hk => h.2 (k + 1) q (by rw [List.getElem?_cons_succ]; exact hk)⟩
    have ih := sx_D_filter P ht
    by_cases hx : P x = true
    · rw [List.filter_cons_of_pos hx]
      have hne : ∀ (k : Nat) (q : Nat × va_E), (t.filter P)[k]? = some q → x.1 ≠ q.1 := fun k q hk e => by
        obtain ⟨j, hj⟩ := List.getElem?_of_mem (List.mem_filter.mp (List.mem_of_getElem? hk)).1
        have := h.1 0 (j + 1) x q rfl (by rw [List.getElem?_cons_succ]; exact hj) e
        omega
      refine ⟨fun i j p q hi hj e => ?_, fun k q hk => ?_⟩
      · cases i with
        | zero =>
          cases j with
          | zero => rfl
          | succ j =>
            rw [List.getElem?_cons_zero] at hi
            rw [List.getElem?_cons_succ] at hj
            cases hi
            exact absurd e (hne j q hj)
        | succ i =>
          rw [List.getElem?_cons_succ] at hi
          cases j with
          | zero =>
            rw [List.getElem?_cons_zero] at hj
            cases hj
            exact absurd e.symm (hne i p hi)
          | succ j =>
            rw [List.getElem?_cons_succ] at hj
            rw [ih.1 i j p q hi hj e]
      · cases k with
        | zero =>
          rw [List.getElem?_cons_zero] at hk
          cases hk
          exact h.2 0 x rfl
        | succ k =>
          rw [List.getElem?_cons_succ] at hk
          exact ih.2 k q hk
    · rw [List.filter_cons_of_neg hx]
      exact ih
theorem sx_P_filter {D : va_G} {cl : List vw_C} {ws : va_W} {H : Heap} (P : (Nat × va_E) → Bool) (h : va_P D cl ws H) : va_P D cl (ws.filter P) H := by
  intro k q hk
  obtain ⟨j, hj⟩ := List.getElem?_of_mem (List.mem_filter.mp (List.mem_of_getElem? hk)).1
  exact h j q hj
/-- a part of the map -/
theorem sx_H_part {D : va_G} {cl : List vw_C} {A : Nat → Prop} {μ ν : sx_M} {H : Heap} (h : sx_H D cl A μ H) (hν : ∀ q e, ν q = some e → μ q = some e) : sx_H D cl A ν H := by
  obtain ⟨ws, hP, hD, hL⟩ := h
  refine ⟨ws.filter (fun q => (ν q.1).isSome), sx_P_filter _ hP, sx_D_filter _ hD, fun a e => ?_⟩
  rw [← sx_L_filter hL (fun q => (ν q).isSome) a e]
  cases hq : ν a with
  | none => simp [hq]
  | some x => simp [hq, hν a x hq]
theorem sx_L_app {μ ν : sx_M} {ws wv : va_W} (h1 : sx_L μ ws) (h2 : sx_L ν wv) (hd : ∀ q e, ν q = some e → μ q = none) : sx_L (fun q => match ν q with | some e => some e | none => μ q) (ws ++ wv) := by
  intro a e
  constructor
  · intro h
    cases hq : ν a with
    | some x =>
      simp only [hq] at h
      cases h
      obtain ⟨k, hk⟩ := (h2 a e).mp hq
      exact List.getElem?_of_mem (List.mem_append_right _ (List.mem_of_getElem? hk))
    | none =>
      simp only [hq] at h
      obtain ⟨k, hk⟩ := (h1 a e).mp h
      exact List.getElem?_of_mem (List.mem_append_left _ (List.mem_of_getElem? hk))
  · rintro ⟨k, hk⟩
    rcases List.mem_append.mp (List.mem_of_getElem? hk) with h | h
    · obtain ⟨i, hi⟩ := List.getElem?_of_mem h
      have hm := (h1 a e).mpr ⟨i, hi⟩
      cases hq : ν a with
      | none => simp [hq, hm]
      | some x => rw [hd a x hq] at hm; cases hm
    · obtain ⟨i, hi⟩ := List.getElem?_of_mem h
      have hm := (h2 a e).mpr ⟨i, hi⟩
      simp [hm]
/-- behind the callee -/
theorem sx_H_ov {D : va_G} {cl : List vw_C} {A : Nat → Prop} {μ ν ν' : sx_M} {H H1 : Heap} (h : sx_H D cl A μ H) (h1 : sx_H D cl (sx_A ν H.size) ν' H1) (hk : ∀ q : Nat, q < H.size → ¬ sx_A ν H.size q → H1[q]? = H[q]?) (hF : ∀ q, sx_A ν H.size q → A q) :
    sx_H D cl A (sx_ov μ ν ν') H1 ∧ ∀ q e, μ q = some e → ν q = none → ν' q = none := by
  have hfresh : ∀ q e, μ q = some e → ν q = none → ν' q = none := fun q e hq hn => by
    cases hz : ν' q with
    | none => rfl
    | some x =>
      rcases sx_H_in h1 hz with ⟨y, hy⟩ | hy
      · rw [hn] at hy; cases hy
      · exact absurd (sx_H_lt h hq) (by omega)
  refine ⟨?_, hfresh⟩
  obtain ⟨ws, hP, hD, hL⟩ := id h
  obtain ⟨wv, hPv, hDv, hLv⟩ := id h1
  have hL2 := sx_L_filter hL (fun q => (ν q).isNone)
  have hlt : ∀ (k : Nat) (q : Nat × va_E), (ws.filter (fun q => (ν q.1).isNone))[k]? = some q → q.1 < H.size ∧ ¬ sx_A ν H.size q.1 := fun k q hq => by
    obtain ⟨m1, m2⟩ := List.mem_filter.mp (List.mem_of_getElem? hq)
    obtain ⟨j, hj⟩ := List.getElem?_of_mem m1
    have := (hP j q hj).lt
    refine ⟨this, ?_⟩
    rintro (⟨e, he⟩ | hs)
    · rw [he] at m2; cases m2
    · omega
  refine ⟨ws.filter (fun q => (ν q.1).isNone) ++ wv, va_P.app ((sx_P_filter _ hP).kept (fun k q hq => hk q.1 (hlt k q hq).1 (hlt k q hq).2)) hPv, va_D.app (sx_D_filter _ hD) (hDv.weaken (fun k q _ hz => hF q.1 hz)) (fun i j x y hx hy e => ?_), ?_⟩
  · exact (hlt i x hx).2 (by rw [e]; exact hDv.2 j y hy)
  · have := sx_L_app hL2 hLv (fun q e hq => by
      rcases sx_H_in h1 hq with ⟨y, hy⟩ | hy
      · simp [hy]
      · cases hz : (ν q).isNone
        · simp [hz]
        · simp only [hz, if_true]
          exact sx_H_new h hy)
    intro a e
    rw [← this a e]
    unfold sx_ov
    cases hq : ν' a with
    | some x => simp [hq]
    | none =>
      cases hz : ν a with
      | some y => simp [hq, hz]
      | none => simp [hq, hz]
/-- a contract's start: the heap holds the map -/
def sx_Pre (D : va_G) (cl : List vw_C) (tys : List (ClassId × FieldType)) (E : (Nat → Prop) → State → Heap → Prop) (μ : sx_M) (sz : Nat) : State → Prop := fun U =>
  U.heap.size = sz ∧ sx_H D cl (fun _ => True) μ U.heap ∧ va_K D cl tys U ∧ E (sx_A μ sz) U U.heap
def sx_B (D : va_G) (cl : List vw_C) (A : Nat → Prop) : sx_M → State → Prop := fun μ' t => sx_H D cl A μ' t.heap
def sx_BX (D : va_G) (cl : List vw_C) (A : Nat → Prop) (px : String → sx_M → Prop) : String → sx_M → State → Prop := fun Ex μ' t => px Ex μ' ∧ sx_H D cl A μ' t.heap
def sx_XC (D : va_G) (cl : List vw_C) (A : Nat → Prop) (px : String → sx_M → Prop) : String → State → State → Prop := vx_X (fun _ : sx_M => True) (sx_BX D cl A px) A
theorem sx_blind {D : va_G} {cl : List vw_C} {tys : List (ClassId × FieldType)} {E : (Nat → Prop) → State → Heap → Prop} {μ : sx_M} {sz : Nat} {as : List Value} (hE : sx_Eok E) : FrameBlind (va_Pc as (sx_Pre D cl tys E μ sz)) := by
  intro a U g mk q
  obtain ⟨q0, q1, qP, qK, qE⟩ := q
  exact ⟨q0, q1, qP, va_K.moved (u := U) (U := U.calling g mk a) (Vm.Alike.refl U.vm) qK, hE.1 _ U (U.calling g mk a) _ (Vm.Alike.refl U.vm) qE⟩
theorem sx_F {D : va_G} {cl : List vw_C} {A : Nat → Prop} {μ : sx_M} {H0 H : Heap} {locs : List Loc} (hH : sx_H D cl A μ H) (hS : va_S A H0 H locs) (hA : ∀ q, H0.size ≤ q → A q) : ∀ q, sx_A μ H.size q → A q := by
  rintro q (⟨e, he⟩ | hq)
  · exact sx_H_in hH he
  · exact hA q (Nat.le_trans hS.1 hq)
def sx_Mi (l : Launch) (y : MethodName) (ws : List Cond) (rm : Room) (D : va_G) (cl : List vw_C) (tys : List (ClassId × FieldType)) (E : (Nat → Prop) → State → Heap → Prop) (as : List Value) (μ : sx_M) (post : Int32 → sx_M → Prop) (mc ms : Nat) : Prop :=
  ∀ sz, Met l y ws rm (va_Pc as (sx_Pre D cl tys E μ sz)) (va_Qi post (sx_B D cl (sx_A μ sz)) (sx_A μ sz)) mc ms (sx_A μ sz)
def sx_Xi (l : Launch) (y : MethodName) (ws : List Cond) (rm : Room) (D : va_G) (cl : List vw_C) (tys : List (ClassId × FieldType)) (E : (Nat → Prop) → State → Heap → Prop) (as : List Value) (μ : sx_M) (post : Int32 → sx_M → Prop) (px : String → sx_M → Prop) (mc ms : Nat) : Prop :=
  ∀ sz, vx_Met l y ws rm (va_Pc as (sx_Pre D cl tys E μ sz)) (va_Qi post (sx_B D cl (sx_A μ sz)) (sx_A μ sz)) (sx_XC D cl (sx_A μ sz) px) mc ms (sx_A μ sz)
def sx_Ml (l : Launch) (y : MethodName) (ws : List Cond) (rm : Room) (D : va_G) (cl : List vw_C) (tys : List (ClassId × FieldType)) (E : (Nat → Prop) → State → Heap → Prop) (as : List Value) (μ : sx_M) (post : Int64 → sx_M → Prop) (mc ms : Nat) : Prop :=
  ∀ sz, Met l y ws rm (va_Pc as (sx_Pre D cl tys E μ sz)) (va_Ql post (sx_B D cl (sx_A μ sz)) (sx_A μ sz)) mc ms (sx_A μ sz)
def sx_Xl (l : Launch) (y : MethodName) (ws : List Cond) (rm : Room) (D : va_G) (cl : List vw_C) (tys : List (ClassId × FieldType)) (E : (Nat → Prop) → State → Heap → Prop) (as : List Value) (μ : sx_M) (post : Int64 → sx_M → Prop) (px : String → sx_M → Prop) (mc ms : Nat) : Prop :=
  ∀ sz, vx_Met l y ws rm (va_Pc as (sx_Pre D cl tys E μ sz)) (va_Ql post (sx_B D cl (sx_A μ sz)) (sx_A μ sz)) (sx_XC D cl (sx_A μ sz) px) mc ms (sx_A μ sz)
def sx_Mv (l : Launch) (y : MethodName) (ws : List Cond) (rm : Room) (D : va_G) (cl : List vw_C) (tys : List (ClassId × FieldType)) (E : (Nat → Prop) → State → Heap → Prop) (as : List Value) (μ : sx_M) (post : sx_M → Prop) (mc ms : Nat) : Prop :=
  ∀ sz, Met l y ws rm (va_Pc as (sx_Pre D cl tys E μ sz)) (va_Qv post (sx_B D cl (sx_A μ sz)) (sx_A μ sz)) mc ms (sx_A μ sz)
def sx_Xv (l : Launch) (y : MethodName) (ws : List Cond) (rm : Room) (D : va_G) (cl : List vw_C) (tys : List (ClassId × FieldType)) (E : (Nat → Prop) → State → Heap → Prop) (as : List Value) (μ : sx_M) (post : sx_M → Prop) (px : String → sx_M → Prop) (mc ms : Nat) : Prop :=
  ∀ sz, vx_Met l y ws rm (va_Pc as (sx_Pre D cl tys E μ sz)) (va_Qv post (sx_B D cl (sx_A μ sz)) (sx_A μ sz)) (sx_XC D cl (sx_A μ sz) px) mc ms (sx_A μ sz)
def sx_Qr (post : Nat → sx_M → Prop) (D : va_G) (cl : List vw_C) (A : Nat → Prop) : Array Value → State → Outcome → State → Prop := va_Qr (fun _ : sx_M => True) (fun μ' a t => post a μ' ∧ sx_H D cl A μ' t.heap) A
def sx_Mr (l : Launch) (y : MethodName) (ws : List Cond) (rm : Room) (D : va_G) (cl : List vw_C) (tys : List (ClassId × FieldType)) (E : (Nat → Prop) → State → Heap → Prop) (as : List Value) (μ : sx_M) (post : Nat → sx_M → Prop) (mc ms : Nat) : Prop :=
  ∀ sz, Met l y ws rm (va_Pc as (sx_Pre D cl tys E μ sz)) (sx_Qr post D cl (sx_A μ sz)) mc ms (sx_A μ sz)
def sx_Xr (l : Launch) (y : MethodName) (ws : List Cond) (rm : Room) (D : va_G) (cl : List vw_C) (tys : List (ClassId × FieldType)) (E : (Nat → Prop) → State → Heap → Prop) (as : List Value) (μ : sx_M) (post : Nat → sx_M → Prop) (px : String → sx_M → Prop) (mc ms : Nat) : Prop :=
  ∀ sz, vx_Met l y ws rm (va_Pc as (sx_Pre D cl tys E μ sz)) (sx_Qr post D cl (sx_A μ sz)) (sx_XC D cl (sx_A μ sz) px) mc ms (sx_A μ sz)
section SXC
variable {p : Program} {l : Launch} {e : Env} {R : Room} {s : State} {m : MethodId} {args : Array Value} {below : List Frame} {meth : Method} {c : Code} {cc : ByteArray} {nL : Nat} {own : String} {Ts : List Cond} {D : va_G} {cl : List vw_C} {tys : List (ClassId × FieldType)} {E : (Nat → Prop) → State → Heap → Prop} {A : Nat → Prop} {cells slots : Nat} {Q : State → Prop} {μ : sx_M} {pc : Nat} {lv : List (Option Value)} {rest : List Value}
variable {ν : sx_M} {y : MethodName} {ws : List Cond} {rm : Room} {mc ms n index maxL : Nat} {bytes : ByteArray} {ret : Option FieldType} {b : Nat} {As st0 : List Value}
theorem sx_all {μ : sx_M} : ∀ (q : Nat) (e : va_E), μ q = some e → μ q = some e := fun _ _ h => h
theorem sx_preU (C : sx_C p s m args c cc nL own Ts D cl tys E A) {ν : sx_M} {H : Heap} {locs : List Loc} (hν : ∀ q e, ν q = some e → μ q = some e) (hH0 : sx_H D cl A μ H) (hS : va_S A s.heap H locs) : ∀ U : State, U.heap = H → s.WarmedH U.vm → sx_Pre D cl tys E ν H.size U := by
  intro U hU hW
  have hH := sx_H_part hH0 hν
  have hF := sx_F hH hS C.2.2.1
  have hE := C.2.2.2.2
  refine ⟨by rw [hU], by rw [hU]; exact sx_H_mono hH (fun _ _ _ _ => trivial), va_K.moved hW.alike C.2.1, ?_⟩
  rw [hU]
  exact hE.1 _ s U H hW.alike (hE.2.2 A _ s H hF (hE.2.1 A s s.heap H hS.2.1 C.2.2.2.1))
/-- a call, run -/
def sx_Run (p : Program) (l : Launch) (e : Env) (R : Room) (s : State) (m : MethodId) (args : Array Value) (below : List Frame) (meth : Method) (c : Code) (nL : Nat) (D : va_G) (cl : List vw_C) (A : Nat → Prop) (cells slots mc ms : Nat) (μ ν : sx_M) (pc : Nat) (lv : List (Option Value)) (st0 rest : List Value) (Qf : Nat → State → Outcome → State → Prop) : Prop :=
  ∀ (H : Heap) (locs : List Loc) (ls : Array Slot), sx_H D cl A μ H → va_S A s.heap H locs → sx_V ls nL lv → va_Run p l e R s m args below meth c H locs cells slots mc ms (F0 m pc ls st0) rest (Qf H.size) (sx_A ν H.size)
def sx_RunX (p : Program) (l : Launch) (e : Env) (R : Room) (s : State) (m : MethodId) (args : Array Value) (below : List Frame) (meth : Method) (c : Code) (nL : Nat) (D : va_G) (cl : List vw_C) (A : Nat → Prop) (cells slots mc ms : Nat) (μ ν : sx_M) (pc : Nat) (lv : List (Option Value)) (st0 rest : List Value) (Qf : Nat → State → Outcome → State → Prop) (px : String → sx_M → Prop) : Prop :=
  ∀ (H : Heap) (locs : List Loc) (ls : Array Slot), sx_H D cl A μ H → va_S A s.heap H locs → sx_V ls nL lv → vx_Run p l e R s m args below meth c H locs cells slots mc ms (F0 m pc ls st0) rest (Qf H.size) (sx_XC D cl (sx_A ν H.size) px) (sx_A ν H.size)
theorem sx_runV (C : sx_C p s m args c cc nL own Ts D cl tys E A) {Qc : Nat → Array Value → State → Outcome → State → Prop} (hν : ∀ q e, ν q = some e → μ q = some e) (hM : ∀ sz, Met l y ws rm (va_Pc (.ref b :: As) (sx_Pre D cl tys E ν sz)) (Qc sz) mc ms (sx_A ν sz)) {Cn : String} {T : u_T} {N ci : Nat} {fs : List Value} (hc : cl[ci]? = some (Cn, T, N)) (hμ : μ b = some (.inr (ci, fs))) (cw : CallW R s args own Cn index y bytes maxL ret ws rm mc ms n) (hn : As.length = n) (hst : st0 = As.reverse ++ .ref b :: rest) (hrm : (rest.map fun v => v.category).sum ≤ 8) (hd : decode cc pc = .ok (.invokevirtual index, 3)) (hf : cells + mc ≤ R.cells ∧ slots + ms ≤ R.slots) :
    sx_Run p l e R s m args below meth c nL D cl A cells slots mc ms μ ν pc lv st0 rest (fun sz => Qc sz (.ref b :: As).toArray) := by
  intro H locs ls hH hS hl
  subst hst
  obtain ⟨ws0, hP, hD, hL⟩ := id hH
  obtain ⟨q, hq⟩ := (hL _ _).mp hμ
  exact va_runV (As := As) (rest := rest) C.1 (hM H.size) cw ⟨sx_blind C.2.2.2.2, va_recv C.2.1 hP hc hq, fun U hU hW => ⟨rfl, sx_preU C hν hH hS U hU hW⟩⟩ rfl hn hl.1 rfl (lv_room hrm) hd hf
theorem sx_runXV (C : sx_C p s m args c cc nL own Ts D cl tys E A) {Qc : Nat → Array Value → State → Outcome → State → Prop} {px : String → sx_M → Prop} (hν : ∀ q e, ν q = some e → μ q = some e) (hM : ∀ sz, vx_Met l y ws rm (va_Pc (.ref b :: As) (sx_Pre D cl tys E ν sz)) (Qc sz) (sx_XC D cl (sx_A ν sz) px) mc ms (sx_A ν sz)) {Cn : String} {T : u_T} {N ci : Nat} {fs : List Value} (hc : cl[ci]? = some (Cn, T, N)) (hμ : μ b = some (.inr (ci, fs))) (cw : CallW R s args own Cn index y bytes maxL ret ws rm mc ms n) (hn : As.length = n) (hst : st0 = As.reverse ++ .ref b :: rest) (hrm : (rest.map fun v => v.category).sum ≤ 8) (hd : decode cc pc = .ok (.invokevirtual index, 3)) (hf : cells + mc ≤ R.cells ∧ slots + ms ≤ R.slots) :
    sx_RunX p l e R s m args below meth c nL D cl A cells slots mc ms μ ν pc lv st0 rest (fun sz => Qc sz (.ref b :: As).toArray) px := by
  intro H locs ls hH hS hl
  subst hst
  obtain ⟨ws0, hP, hD, hL⟩ := id hH
  obtain ⟨q, hq⟩ := (hL _ _).mp hμ
  exact vx_runV (As := As) (rest := rest) C.1 (hM H.size) cw ⟨sx_blind C.2.2.2.2, va_recv C.2.1 hP hc hq, fun U hU hW => ⟨rfl, sx_preU C hν hH hS U hU hW⟩⟩ rfl hn hl.1 rfl (lv_room hrm) hd hf
theorem sx_runS (C : sx_C p s m args c cc nL own Ts D cl tys E A) {Qc : Nat → Array Value → State → Outcome → State → Prop} (hν : ∀ q e, ν q = some e → μ q = some e) (hM : ∀ sz, Met l y ws rm (va_Pc As (sx_Pre D cl tys E ν sz)) (Qc sz) mc ms (sx_A ν sz)) (cw : CallB R s args own index y bytes maxL ret ws rm mc ms n ∧ (Cond.static y).before args s = true) (hn : As.length = n) (hst : st0 = As.reverse ++ rest) (hrm : (rest.map fun v => v.category).sum ≤ 8) (hd : decode cc pc = .ok (.invokestatic index, 3)) (hf : cells + mc ≤ R.cells ∧ slots + ms ≤ R.slots) :
    sx_Run p l e R s m args below meth c nL D cl A cells slots mc ms μ ν pc lv st0 rest (fun sz => Qc sz As.toArray) := by
  intro H locs ls hH hS hl
  subst hst
  exact va_runS (As := As) (rest := rest) C.1 (hM H.size) cw ⟨sx_blind C.2.2.2.2, fun U hU hW => ⟨rfl, sx_preU C hν hH hS U hU hW⟩⟩ rfl hn hl.1 rfl (lv_room hrm) hd hf
theorem sx_runXS (C : sx_C p s m args c cc nL own Ts D cl tys E A) {Qc : Nat → Array Value → State → Outcome → State → Prop} {px : String → sx_M → Prop} (hν : ∀ q e, ν q = some e → μ q = some e) (hM : ∀ sz, vx_Met l y ws rm (va_Pc As (sx_Pre D cl tys E ν sz)) (Qc sz) (sx_XC D cl (sx_A ν sz) px) mc ms (sx_A ν sz)) (cw : CallB R s args own index y bytes maxL ret ws rm mc ms n ∧ (Cond.static y).before args s = true) (hn : As.length = n) (hst : st0 = As.reverse ++ rest) (hrm : (rest.map fun v => v.category).sum ≤ 8) (hd : decode cc pc = .ok (.invokestatic index, 3)) (hf : cells + mc ≤ R.cells ∧ slots + ms ≤ R.slots) :
    sx_RunX p l e R s m args below meth c nL D cl A cells slots mc ms μ ν pc lv st0 rest (fun sz => Qc sz As.toArray) px := by
  intro H locs ls hH hS hl
  subst hst
  exact vx_runS (As := As) (rest := rest) C.1 (hM H.size) cw ⟨sx_blind C.2.2.2.2, fun U hU hW => ⟨rfl, sx_preU C hν hH hS U hU hW⟩⟩ rfl hn hl.1 rfl (lv_room hrm) hd hf
theorem sx_runI (C : sx_C p s m args c cc nL own Ts D cl tys E A) {Qc : Nat → Array Value → State → Outcome → State → Prop} (hν : ∀ q e, ν q = some e → μ q = some e) (hM : ∀ sz, Met l y ws rm (va_Pc (.ref b :: As) (sx_Pre D cl tys E ν sz)) (Qc sz) mc ms (sx_A ν sz)) (cw : CallB R s args own index y bytes maxL none ws rm mc ms n ∧ y.name = "<init>" ∧ (Cond.instanceMethod y).before args s = true) (hn : As.length = n) (hst : st0 = As.reverse ++ .ref b :: rest) (hrm : (rest.map fun v => v.category).sum ≤ 8) (hd : decode cc pc = .ok (.invokespecial index, 3)) (hf : cells + mc ≤ R.cells ∧ slots + ms ≤ R.slots) :
    sx_Run p l e R s m args below meth c nL D cl A cells slots mc ms μ ν pc lv st0 rest (fun sz => Qc sz (.ref b :: As).toArray) := by
  intro H locs ls hH hS hl
  subst hst
  exact va_runI (As := As) (rest := rest) C.1 (hM H.size) cw ⟨sx_blind C.2.2.2.2, fun U hU hW => ⟨rfl, sx_preU C hν hH hS U hU hW⟩⟩ rfl hn hl.1 rfl (lv_room hrm) hd hf
theorem sx_calli (C : sx_C p s m args c cc nL own Ts D cl tys E A) {post : Int32 → sx_M → Prop} {a : Array Value} (hr : sx_Run p l e R s m args below meth c nL D cl A cells slots mc ms μ μ pc lv st0 rest (fun sz => va_Qi post (sx_B D cl (sx_A μ sz)) (sx_A μ sz) a)) (k : ∀ (r : Int32) (μ' : sx_M), post r μ' → SW p l e R s m args below meth c nL D cl A (cells + mc) (slots + ms) Q μ' (pc + 3) lv (.int r :: rest)) : SW p l e R s m args below meth c nL D cl A cells slots Q μ pc lv st0 := by
  intro H locs ls hH hS hl
  have hF := sx_F hH hS C.2.2.1
  exact va_calli (hr H locs ls hH hS hl) hS (fun q _ h => hF q h) hF (fun r μ' t H1 locs1 ht hvm hw hB hz1 hk1 hS1 => k r μ' hw H1 locs1 ls (sx_H_mono (ht ▸ hB) (fun q e _ h => hF q h)) hS1 hl)
theorem sx_calll (C : sx_C p s m args c cc nL own Ts D cl tys E A) {post : Int64 → sx_M → Prop} {a : Array Value} (hr : sx_Run p l e R s m args below meth c nL D cl A cells slots mc ms μ μ pc lv st0 rest (fun sz => va_Ql post (sx_B D cl (sx_A μ sz)) (sx_A μ sz) a)) (k : ∀ (r : Int64) (μ' : sx_M), post r μ' → SW p l e R s m args below meth c nL D cl A (cells + mc) (slots + ms) Q μ' (pc + 3) lv (.long r :: rest)) : SW p l e R s m args below meth c nL D cl A cells slots Q μ pc lv st0 := by
  intro H locs ls hH hS hl
  have hF := sx_F hH hS C.2.2.1
  exact va_calll (hr H locs ls hH hS hl) hS (fun q _ h => hF q h) hF (fun r μ' t H1 locs1 ht hvm hw hB hz1 hk1 hS1 => k r μ' hw H1 locs1 ls (sx_H_mono (ht ▸ hB) (fun q e _ h => hF q h)) hS1 hl)
theorem sx_callv (C : sx_C p s m args c cc nL own Ts D cl tys E A) {post : sx_M → Prop} {a : Array Value} (hr : sx_Run p l e R s m args below meth c nL D cl A cells slots mc ms μ μ pc lv st0 rest (fun sz => va_Qv post (sx_B D cl (sx_A μ sz)) (sx_A μ sz) a)) (k : ∀ (μ' : sx_M), post μ' → SW p l e R s m args below meth c nL D cl A (cells + mc) (slots + ms) Q μ' (pc + 3) lv rest) : SW p l e R s m args below meth c nL D cl A cells slots Q μ pc lv st0 := by
  intro H locs ls hH hS hl
  have hF := sx_F hH hS C.2.2.1
  exact va_callv (hr H locs ls hH hS hl) hS (fun q _ h => hF q h) hF (fun μ' t H1 locs1 ht hvm hw hB hz1 hk1 hS1 => k μ' hw H1 locs1 ls (sx_H_mono (ht ▸ hB) (fun q e _ h => hF q h)) hS1 hl)
theorem sx_callr (C : sx_C p s m args c cc nL own Ts D cl tys E A) {post : Nat → sx_M → Prop} {a : Array Value} (hr : sx_Run p l e R s m args below meth c nL D cl A cells slots mc ms μ μ pc lv st0 rest (fun sz => sx_Qr post D cl (sx_A μ sz) a)) (k : ∀ (r : Nat) (μ' : sx_M), post r μ' → SW p l e R s m args below meth c nL D cl A (cells + mc) (slots + ms) Q μ' (pc + 3) lv (.ref r :: rest)) : SW p l e R s m args below meth c nL D cl A cells slots Q μ pc lv st0 := by
  intro H locs ls hH hS hl
  have hF := sx_F hH hS C.2.2.1
  exact va_callr (hr H locs ls hH hS hl) hS (fun q _ h => hF q h) hF (fun μ' r t H1 locs1 ht hvm hw hB hz1 hk1 hS1 => k r μ' hB.1 H1 locs1 ls (sx_H_mono (ht ▸ hB.2) (fun q e _ h => hF q h)) hS1 hl)
/-- the machine at pc, with an exception of the class Ex thrown over it -/
def SX (p : Program) (l : Launch) (e : Env) (R : Room) (s : State) (m : MethodId) (args : Array Value) (below : List Frame) (meth : Method) (c : Code) (nL : Nat) (D : va_G) (cl : List vw_C) (A : Nat → Prop) (cells slots : Nat) (Q : State → Prop) (μ : sx_M) (pc : Nat) (lv : List (Option Value)) (st : List Value) (Ex : String) : Prop :=
  ∀ (H : Heap) (locs : List Loc) (ls : Array Slot) (q : Addr) (ce : Cell), sx_H D cl A μ H → va_S A s.heap H locs → sx_V ls nL lv → H[q]? = some ce → ce.vm = .none → s.vm.findClass Ex = some ce.cls → vx_W p l e R s m args below meth c H locs cells slots Q (F0 m pc ls st) q
theorem sx_callXi (C : sx_C p s m args c cc nL own Ts D cl tys E A) {post : Int32 → sx_M → Prop} {px : String → sx_M → Prop} {a : Array Value} (hr : sx_RunX p l e R s m args below meth c nL D cl A cells slots mc ms μ μ pc lv st0 rest (fun sz => va_Qi post (sx_B D cl (sx_A μ sz)) (sx_A μ sz) a) px) (kx : ∀ (Ex : String) (μ' : sx_M), px Ex μ' → SX p l e R s m args below meth c nL D cl A (cells + mc) (slots + ms) Q μ' pc lv rest Ex) (k : ∀ (r : Int32) (μ' : sx_M), post r μ' → SW p l e R s m args below meth c nL D cl A (cells + mc) (slots + ms) Q μ' (pc + 3) lv (.int r :: rest)) : SW p l e R s m args below meth c nL D cl A cells slots Q μ pc lv st0 := by
  intro H locs ls hH hS hl
  have hF := sx_F hH hS C.2.2.1
  exact vx_calli (hr H locs ls hH hS hl) hS (fun q _ h => hF q h) hF (fun q _ h => hF q h) (fun Ex ce q9 μ' t H1 locs1 ht hvm hw hB hz1 hk1 hS1 h1 h2 h3 => kx Ex μ' hB.1 H1 locs1 ls q9 ce (sx_H_mono (ht ▸ hB.2) (fun q e _ h => hF q h)) hS1 hl h1 h2 h3) (fun r μ' t H1 locs1 ht hvm hw hB hz1 hk1 hS1 => k r μ' hw H1 locs1 ls (sx_H_mono (ht ▸ hB) (fun q e _ h => hF q h)) hS1 hl)
theorem sx_callXl (C : sx_C p s m args c cc nL own Ts D cl tys E A) {post : Int64 → sx_M → Prop} {px : String → sx_M → Prop} {a : Array Value} (hr : sx_RunX p l e R s m args below meth c nL D cl A cells slots mc ms μ μ pc lv st0 rest (fun sz => va_Ql post (sx_B D cl (sx_A μ sz)) (sx_A μ sz) a) px) (kx : ∀ (Ex : String) (μ' : sx_M), px Ex μ' → SX p l e R s m args below meth c nL D cl A (cells + mc) (slots + ms) Q μ' pc lv rest Ex) (k : ∀ (r : Int64) (μ' : sx_M), post r μ' → SW p l e R s m args below meth c nL D cl A (cells + mc) (slots + ms) Q μ' (pc + 3) lv (.long r :: rest)) : SW p l e R s m args below meth c nL D cl A cells slots Q μ pc lv st0 := by
  intro H locs ls hH hS hl
  have hF := sx_F hH hS C.2.2.1
  exact vx_calll (hr H locs ls hH hS hl) hS (fun q _ h => hF q h) hF (fun q _ h => hF q h) (fun Ex ce q9 μ' t H1 locs1 ht hvm hw hB hz1 hk1 hS1 h1 h2 h3 => kx Ex μ' hB.1 H1 locs1 ls q9 ce (sx_H_mono (ht ▸ hB.2) (fun q e _ h => hF q h)) hS1 hl h1 h2 h3) (fun r μ' t H1 locs1 ht hvm hw hB hz1 hk1 hS1 => k r μ' hw H1 locs1 ls (sx_H_mono (ht ▸ hB) (fun q e _ h => hF q h)) hS1 hl)
theorem sx_callXv (C : sx_C p s m args c cc nL own Ts D cl tys E A) {post : sx_M → Prop} {px : String → sx_M → Prop} {a : Array Value} (hr : sx_RunX p l e R s m args below meth c nL D cl A cells slots mc ms μ μ pc lv st0 rest (fun sz => va_Qv post (sx_B D cl (sx_A μ sz)) (sx_A μ sz) a) px) (kx : ∀ (Ex : String) (μ' : sx_M), px Ex μ' → SX p l e R s m args below meth c nL D cl A (cells + mc) (slots + ms) Q μ' pc lv rest Ex) (k : ∀ (μ' : sx_M), post μ' → SW p l e R s m args below meth c nL D cl A (cells + mc) (slots + ms) Q μ' (pc + 3) lv rest) : SW p l e R s m args below meth c nL D cl A cells slots Q μ pc lv st0 := by
  intro H locs ls hH hS hl
  have hF := sx_F hH hS C.2.2.1
  exact vx_callv (hr H locs ls hH hS hl) hS (fun q _ h => hF q h) hF (fun q _ h => hF q h) (fun Ex ce q9 μ' t H1 locs1 ht hvm hw hB hz1 hk1 hS1 h1 h2 h3 => kx Ex μ' hB.1 H1 locs1 ls q9 ce (sx_H_mono (ht ▸ hB.2) (fun q e _ h => hF q h)) hS1 hl h1 h2 h3) (fun μ' t H1 locs1 ht hvm hw hB hz1 hk1 hS1 => k μ' hw H1 locs1 ls (sx_H_mono (ht ▸ hB) (fun q e _ h => hF q h)) hS1 hl)
theorem sx_callFi (C : sx_C p s m args c cc nL own Ts D cl tys E A) {post : Int32 → sx_M → Prop} {a : Array Value} (hν : ∀ q e, ν q = some e → μ q = some e) (hr : sx_Run p l e R s m args below meth c nL D cl A cells slots mc ms μ ν pc lv st0 rest (fun sz => va_Qi post (sx_B D cl (sx_A ν sz)) (sx_A ν sz) a)) (k : ∀ (r : Int32) (ν' : sx_M), post r ν' → (∀ q e, μ q = some e → ν q = none → ν' q = none) → SW p l e R s m args below meth c nL D cl A (cells + mc) (slots + ms) Q (sx_ov μ ν ν') (pc + 3) lv (.int r :: rest)) : SW p l e R s m args below meth c nL D cl A cells slots Q μ pc lv st0 := by
  intro H locs ls hH hS hl
  have hF := sx_F (sx_H_part hH hν) hS C.2.2.1
  refine va_calli (hr H locs ls hH hS hl) hS (fun q _ h => hF q h) hF (fun r ν' t H1 locs1 ht hvm hw hB hz1 hk1 hS1 => ?_)
  have hO := sx_H_ov hH (show sx_H D cl (sx_A ν H.size) ν' H1 from ht ▸ hB) hk1 hF
  exact k r ν' hw hO.2 H1 locs1 ls hO.1 hS1 hl
theorem sx_callXFi (C : sx_C p s m args c cc nL own Ts D cl tys E A) {post : Int32 → sx_M → Prop} {px : String → sx_M → Prop} {a : Array Value} (hν : ∀ q e, ν q = some e → μ q = some e) (hr : sx_RunX p l e R s m args below meth c nL D cl A cells slots mc ms μ ν pc lv st0 rest (fun sz => va_Qi post (sx_B D cl (sx_A ν sz)) (sx_A ν sz) a) px) (kx : ∀ (Ex : String) (ν' : sx_M), px Ex ν' → (∀ q e, μ q = some e → ν q = none → ν' q = none) → SX p l e R s m args below meth c nL D cl A (cells + mc) (slots + ms) Q (sx_ov μ ν ν') pc lv rest Ex) (k : ∀ (r : Int32) (ν' : sx_M), post r ν' → (∀ q e, μ q = some e → ν q = none → ν' q = none) → SW p l e R s m args below meth c nL D cl A (cells + mc) (slots + ms) Q (sx_ov μ ν ν') (pc + 3) lv (.int r :: rest)) : SW p l e R s m args below meth c nL D cl A cells slots Q μ pc lv st0 := by
  intro H locs ls hH hS hl
  have hF := sx_F (sx_H_part hH hν) hS C.2.2.1
  refine vx_calli (hr H locs ls hH hS hl) hS (fun q _ h => hF q h) hF (fun q _ h => hF q h) (fun Ex ce q9 ν' t H1 locs1 ht hvm hw hB hz1 hk1 hS1 h1 h2 h3 => ?_) (fun r ν' t H1 locs1 ht hvm hw hB hz1 hk1 hS1 => ?_)
  · have hO := sx_H_ov hH (show sx_H D cl (sx_A ν H.size) ν' H1 from ht ▸ hB.2) hk1 hF
    exact kx Ex ν' hB.1 hO.2 H1 locs1 ls q9 ce hO.1 hS1 hl h1 h2 h3
  · have hO := sx_H_ov hH (show sx_H D cl (sx_A ν H.size) ν' H1 from ht ▸ hB) hk1 hF
    exact k r ν' hw hO.2 H1 locs1 ls hO.1 hS1 hl
theorem sx_callFl (C : sx_C p s m args c cc nL own Ts D cl tys E A) {post : Int64 → sx_M → Prop} {a : Array Value} (hν : ∀ q e, ν q = some e → μ q = some e) (hr : sx_Run p l e R s m args below meth c nL D cl A cells slots mc ms μ ν pc lv st0 rest (fun sz => va_Ql post (sx_B D cl (sx_A ν sz)) (sx_A ν sz) a)) (k : ∀ (r : Int64) (ν' : sx_M), post r ν' → (∀ q e, μ q = some e → ν q = none → ν' q = none) → SW p l e R s m args below meth c nL D cl A (cells + mc) (slots + ms) Q (sx_ov μ ν ν') (pc + 3) lv (.long r :: rest)) : SW p l e R s m args below meth c nL D cl A cells slots Q μ pc lv st0 := by
  intro H locs ls hH hS hl
  have hF := sx_F (sx_H_part hH hν) hS C.2.2.1
  refine va_calll (hr H locs ls hH hS hl) hS (fun q _ h => hF q h) hF (fun r ν' t H1 locs1 ht hvm hw hB hz1 hk1 hS1 => ?_)
  have hO := sx_H_ov hH (show sx_H D cl (sx_A ν H.size) ν' H1 from ht ▸ hB) hk1 hF
  exact k r ν' hw hO.2 H1 locs1 ls hO.1 hS1 hl
theorem sx_callXFl (C : sx_C p s m args c cc nL own Ts D cl tys E A) {post : Int64 → sx_M → Prop} {px : String → sx_M → Prop} {a : Array Value} (hν : ∀ q e, ν q = some e → μ q = some e) (hr : sx_RunX p l e R s m args below meth c nL D cl A cells slots mc ms μ ν pc lv st0 rest (fun sz => va_Ql post (sx_B D cl (sx_A ν sz)) (sx_A ν sz) a) px) (kx : ∀ (Ex : String) (ν' : sx_M), px Ex ν' → (∀ q e, μ q = some e → ν q = none → ν' q = none) → SX p l e R s m args below meth c nL D cl A (cells + mc) (slots + ms) Q (sx_ov μ ν ν') pc lv rest Ex) (k : ∀ (r : Int64) (ν' : sx_M), post r ν' → (∀ q e, μ q = some e → ν q = none → ν' q = none) → SW p l e R s m args below meth c nL D cl A (cells + mc) (slots + ms) Q (sx_ov μ ν ν') (pc + 3) lv (.long r :: rest)) : SW p l e R s m args below meth c nL D cl A cells slots Q μ pc lv st0 := by
  intro H locs ls hH hS hl
  have hF := sx_F (sx_H_part hH hν) hS C.2.2.1
  refine vx_calll (hr H locs ls hH hS hl) hS (fun q _ h => hF q h) hF (fun q _ h => hF q h) (fun Ex ce q9 ν' t H1 locs1 ht hvm hw hB hz1 hk1 hS1 h1 h2 h3 => ?_) (fun r ν' t H1 locs1 ht hvm hw hB hz1 hk1 hS1 => ?_)
  · have hO := sx_H_ov hH (show sx_H D cl (sx_A ν H.size) ν' H1 from ht ▸ hB.2) hk1 hF
    exact kx Ex ν' hB.1 hO.2 H1 locs1 ls q9 ce hO.1 hS1 hl h1 h2 h3
  · have hO := sx_H_ov hH (show sx_H D cl (sx_A ν H.size) ν' H1 from ht ▸ hB) hk1 hF
    exact k r ν' hw hO.2 H1 locs1 ls hO.1 hS1 hl
theorem sx_callFv (C : sx_C p s m args c cc nL own Ts D cl tys E A) {post : sx_M → Prop} {a : Array Value} (hν : ∀ q e, ν q = some e → μ q = some e) (hr : sx_Run p l e R s m args below meth c nL D cl A cells slots mc ms μ ν pc lv st0 rest (fun sz => va_Qv post (sx_B D cl (sx_A ν sz)) (sx_A ν sz) a)) (k : ∀ (ν' : sx_M), post ν' → (∀ q e, μ q = some e → ν q = none → ν' q = none) → SW p l e R s m args below meth c nL D cl A (cells + mc) (slots + ms) Q (sx_ov μ ν ν') (pc + 3) lv rest) : SW p l e R s m args below meth c nL D cl A cells slots Q μ pc lv st0 := by
  intro H locs ls hH hS hl
  have hF := sx_F (sx_H_part hH hν) hS C.2.2.1
  refine va_callv (hr H locs ls hH hS hl) hS (fun q _ h => hF q h) hF (fun ν' t H1 locs1 ht hvm hw hB hz1 hk1 hS1 => ?_)
  have hO := sx_H_ov hH (show sx_H D cl (sx_A ν H.size) ν' H1 from ht ▸ hB) hk1 hF
  exact k ν' hw hO.2 H1 locs1 ls hO.1 hS1 hl
theorem sx_callXFv (C : sx_C p s m args c cc nL own Ts D cl tys E A) {post : sx_M → Prop} {px : String → sx_M → Prop} {a : Array Value} (hν : ∀ q e, ν q = some e → μ q = some e) (hr : sx_RunX p l e R s m args below meth c nL D cl A cells slots mc ms μ ν pc lv st0 rest (fun sz => va_Qv post (sx_B D cl (sx_A ν sz)) (sx_A ν sz) a) px) (kx : ∀ (Ex : String) (ν' : sx_M), px Ex ν' → (∀ q e, μ q = some e → ν q = none → ν' q = none) → SX p l e R s m args below meth c nL D cl A (cells + mc) (slots + ms) Q (sx_ov μ ν ν') pc lv rest Ex) (k : ∀ (ν' : sx_M), post ν' → (∀ q e, μ q = some e → ν q = none → ν' q = none) → SW p l e R s m args below meth c nL D cl A (cells + mc) (slots + ms) Q (sx_ov μ ν ν') (pc + 3) lv rest) : SW p l e R s m args below meth c nL D cl A cells slots Q μ pc lv st0 := by
  intro H locs ls hH hS hl
  have hF := sx_F (sx_H_part hH hν) hS C.2.2.1
  refine vx_callv (hr H locs ls hH hS hl) hS (fun q _ h => hF q h) hF (fun q _ h => hF q h) (fun Ex ce q9 ν' t H1 locs1 ht hvm hw hB hz1 hk1 hS1 h1 h2 h3 => ?_) (fun ν' t H1 locs1 ht hvm hw hB hz1 hk1 hS1 => ?_)
  · have hO := sx_H_ov hH (show sx_H D cl (sx_A ν H.size) ν' H1 from ht ▸ hB.2) hk1 hF
    exact kx Ex ν' hB.1 hO.2 H1 locs1 ls q9 ce hO.1 hS1 hl h1 h2 h3
  · have hO := sx_H_ov hH (show sx_H D cl (sx_A ν H.size) ν' H1 from ht ▸ hB) hk1 hF
    exact k ν' hw hO.2 H1 locs1 ls hO.1 hS1 hl
end SXC
section SXE
variable {p : Program} {l : Launch} {e : Env} {R : Room} {s : State} {m : MethodId} {args : Array Value} {below : List Frame} {meth : Method} {c : Code} {cc : ByteArray} {nL : Nat} {own : String} {Ts : List Cond} {D : va_G} {cl : List vw_C} {tys : List (ClassId × FieldType)} {E : (Nat → Prop) → State → Heap → Prop} {A : Nat → Prop} {cells slots : Nat} {Q : State → Prop} {μ : sx_M} {pc : Nat} {lv : List (Option Value)} {rest : List Value} {mc ms : Nat}
theorem sx_iret (C : sx_C p s m args c cc nL own Ts D cl tys E A) {v : Int32} {post : Int32 → sx_M → Prop} (hd : decode cc pc = .ok (.ireturn, 1)) (hr : meth.sig.returnType = some .int) (hlocks : meth.locks = false) (hc : cells ≤ mc) (hs : slots ≤ ms) (hp : post v μ) : SW p l e R s m args below meth c nL D cl A cells slots (MQ below (va_Qi post (sx_B D cl A) A) args s mc ms A) μ pc lv [.int v] :=
  fun H locs ls hH hS hl => W.widen hc hs (W.iret (v := v) C.1.1 C.1.2.1 hr (fun t ht hW => ⟨⟨v, μ, rfl, hp, by show sx_H D cl A μ t.heap; rw [ht]; exact hH⟩, hS.F ht⟩) hS.2.2 hd hlocks)
theorem sx_lret (C : sx_C p s m args c cc nL own Ts D cl tys E A) {v : Int64} {post : Int64 → sx_M → Prop} (hd : decode cc pc = .ok (.lreturn, 1)) (hr : meth.sig.returnType = some .long) (hlocks : meth.locks = false) (hc : cells ≤ mc) (hs : slots ≤ ms) (hp : post v μ) : SW p l e R s m args below meth c nL D cl A cells slots (MQ below (va_Ql post (sx_B D cl A) A) args s mc ms A) μ pc lv [.long v] :=
  fun H locs ls hH hS hl => W.widen hc hs (W.lret (v := v) C.1.1 C.1.2.1 hr (fun t ht hW => ⟨⟨v, μ, rfl, hp, by show sx_H D cl A μ t.heap; rw [ht]; exact hH⟩, hS.F ht⟩) hS.2.2 hd hlocks)
theorem sx_zret (C : sx_C p s m args c cc nL own Ts D cl tys E A) {v : Int32} {ty : FieldType} {post : Int32 → sx_M → Prop} (hd : decode cc pc = .ok (.ireturn, 1)) (hr : meth.sig.returnType = some ty) (hn : narrow ty (.int v) = .int v) (hlocks : meth.locks = false) (hc : cells ≤ mc) (hs : slots ≤ ms) (hp : post v μ) : SW p l e R s m args below meth c nL D cl A cells slots (MQ below (va_Qi post (sx_B D cl A) A) args s mc ms A) μ pc lv [.int v] :=
  fun H locs ls hH hS hl => W.widen hc hs (W.zret (v := v) C.1.1 C.1.2.1 hr hn (fun t ht hW => ⟨⟨v, μ, rfl, hp, by show sx_H D cl A μ t.heap; rw [ht]; exact hH⟩, hS.F ht⟩) hS.2.2 hd hlocks)
theorem sx_vret (C : sx_C p s m args c cc nL own Ts D cl tys E A) {post : sx_M → Prop} (hd : decode cc pc = .ok (.return_, 1)) (hr : meth.sig.returnType = none) (hlocks : meth.locks = false) (hc : cells ≤ mc) (hs : slots ≤ ms) (hp : post μ) : SW p l e R s m args below meth c nL D cl A cells slots (MQ below (va_Qv post (sx_B D cl A) A) args s mc ms A) μ pc lv [] :=
  fun H locs ls hH hS hl => W.widen hc hs (W.vret C.1.1 C.1.2.1 hr (fun t ht hW => ⟨⟨μ, rfl, hp, by show sx_H D cl A μ t.heap; rw [ht]; exact hH⟩, hS.F ht⟩) hS.2.2 hd hlocks)
theorem sx_aret (C : sx_C p s m args c cc nL own Ts D cl tys E A) {a : Nat} {nm : String} {post : Nat → sx_M → Prop} (hd : decode cc pc = .ok (.areturn, 1)) (hr : meth.sig.returnType = some (.object nm)) (hlocks : meth.locks = false) (hc : cells ≤ mc) (hs : slots ≤ ms) (hp : post a μ) : SW p l e R s m args below meth c nL D cl A cells slots (MQ below (sx_Qr post D cl A) args s mc ms A) μ pc lv [.ref a] :=
  fun H locs ls hH hS hl => W.widen hc hs (W.aret (v := .ref a) C.1.1 C.1.2.1 hr (Or.inl ⟨nm, rfl⟩) (Or.inr ⟨a, rfl⟩) (fun t ht hW => ⟨⟨μ, a, rfl, trivial, hp, by rw [ht]; exact hH⟩, hS.F ht⟩) hS.2.2 hd hlocks)
theorem sx_vxret {Qc : Array Value → State → Outcome → State → Prop} {XC : String → State → State → Prop} {free : Addr → Prop} {st : List Value} (k : SW p l e R s m args below meth c nL D cl A cells slots (MQ below Qc args s mc ms free) μ pc lv st) : SW p l e R s m args below meth c nL D cl A cells slots (vx_MQ below Qc XC args s mc ms free) μ pc lv st :=
  fun H locs ls hH hS hl => vx_ret (k H locs ls hH hS hl)
theorem sx_pass (C : sx_C p s m args c cc nL own Ts D cl tys E A) {Qc : Array Value → State → Outcome → State → Prop} {px : String → sx_M → Prop} {st : List Value} {Ex : String} (hout : ∀ x ∈ c.exceptionTable.toList, covers x pc = false) (hlocks : meth.locks = false) (hc : cells ≤ mc) (hs : slots ≤ ms) (hp : px Ex μ) : SX p l e R s m args below meth c nL D cl A cells slots (vx_MQ below Qc (sx_XC D cl A px) args s mc ms A) μ pc lv st Ex :=
  fun H locs ls q ce hH hS hl h1 h2 h3 => vx_out hout hlocks h1 h2 h3 (fun t ht ha => ⟨μ, trivial, ⟨hp, by rw [ht]; exact hH⟩, hS.F ht⟩) hS.2.2 hc hs
theorem sx_catch (C : sx_C p s m args c cc nL own Ts D cl tys E A) {st : List Value} {Ex name : String} (pre : List ExceptionTableEntry) (x : ExceptionTableEntry) (suf : List ExceptionTableEntry) (hsplit : c.exceptionTable.toList = pre ++ x :: suf) (hpass : ∀ z ∈ pre, covers z pc = false ∨ (z.catchType ≠ 0 ∧ ∃ nm : String, (Cond.classLink own z.catchType nm).before args s = true ∧ va_Nc Ex nm s)) (hx : covers x pc = true) (h0 : x.catchType ≠ 0) (hlink : (Cond.classLink own x.catchType name).before args s = true) (hcast : (Cond.castable Ex name).before args s = true) (k : ∀ q : Nat, SW p l e R s m args below meth c nL D cl A cells slots Q μ x.handlerPc lv [.ref q]) : SX p l e R s m args below meth c nL D cl A cells slots Q μ pc lv st Ex :=
  fun H locs ls q ce hH hS hl h1 h2 h3 => vx_catch C.1.2.2.2.1 pre x suf hsplit hpass hx h0 hlink hcast h1 h2 h3 (k q H locs ls hH hS hl)
end SXE
theorem sx_args_lv : ∀ (vs : List Value) (k : Nat), sx_lv k (sx_args vs) = lv_args k vs
  | [], k => rfl
  | v :: t, k => by
    by_cases h : v.category = 2
    · rw [sx_args, if_pos h, lv_args, if_pos h, sx_lv, sx_lv, sx_args_lv t (k + 1 + 1)]
    · rw [sx_args, if_neg h, lv_args, if_neg h, sx_lv, sx_args_lv t (k + 1)]
theorem sx_V_entry (vs : List Value) {n : Nat} (h : (lg_sl vs).length ≤ n) {lv : List (Option Value)} (j : Nat) (hlv : lv = sx_args vs ++ List.replicate j none) : sx_V ((lg_sl vs ++ List.replicate (n - (lg_sl vs).length) Slot.unset).toArray) n lv := by
  have h0 : sx_V ((lg_sl vs ++ List.replicate (n - (lg_sl vs).length) Slot.unset).toArray) n (sx_args vs) := by
    unfold sx_V
    rw [sx_args_lv]
    exact lv_entry vs h
  refine sx_V_sub h0 (fun i v hi => ?_)
  rw [hlv] at hi
  by_cases hl : i < (sx_args vs).length
  · rw [List.getElem?_append_left hl] at hi
    exact hi
  · rw [List.getElem?_append_right (by omega)] at hi
    have := List.mem_of_getElem? hi
    rw [List.mem_replicate] at this
    cases this.2
theorem sx_H_self {D : va_G} {cl : List vw_C} {A : Nat → Prop} {μ : sx_M} {H : Heap} {sz : Nat} (h : sx_H D cl A μ H) : sx_H D cl (sx_A μ sz) μ H := sx_H_mono h (fun q e he _ => Or.inl ⟨e, he⟩)
theorem sx_of {l : Launch} {y : MethodName} {ws ws' : List Cond} {rm : Room} {D : va_G} {cl : List vw_C} {tys : List (ClassId × FieldType)} {E : (Nat → Prop) → State → Heap → Prop} {as : List Value} {μ : sx_M} {mc ms maxL : Nat} {cc : ByteArray} {ret : Option FieldType} {own : String} {Qf : (Nat → Prop) → Array Value → State → Outcome → State → Prop} (hE : sx_Eok E) (hy : plainName y.cls = true) (hw : ws = Cond.code y cc maxL ret :: ws') (hyc : y.cls = own) (hlen : (lg_sl as).length ≤ maxL) (lv : List (Option Value)) (j : Nat) (hlv : lv = sx_args as ++ List.replicate j none)
    (body : ∀ (p : Program) (e : Env) (s : State) (m : MethodId) (below : List Frame) (meth : Method) (c : Code) (A : Nat → Prop), sx_C p s m as.toArray c cc maxL own ws D cl tys E A → meth.sig.returnType = ret → meth.locks = false → (meth.name = y.name) → SW p l e rm s m as.toArray below meth c maxL D cl A 0 0 (MQ below (Qf A) as.toArray s mc ms A) μ 0 lv []) : ∀ sz, Met l y ws rm (va_Pc as (sx_Pre D cl tys E μ sz)) (Qf (sx_A μ sz)) mc ms (sx_A μ sz) := by
  intro sz
  refine Met.ofW (cc := cc) (maxL := maxL) (ret := ret) hy hw ?_
  intro p e s m args below meth c s₁ B hml hv
  obtain ⟨rfl, hsz, hH, hK, hEs⟩ := hv
  subst hsz
  have hC : sx_C p s m as.toArray c cc maxL own ws D cl tys E (sx_A μ s.heap.size) := ⟨⟨B.exec, B.bytes, hml, hyc ▸ findClass_of_methodNamed B.named, atoms_spec (ws := ws) B.pre⟩, hK, fun q h => Or.inr h, hEs, hE⟩
  rw [lg_entry_eq]
  exact body p e s m below meth c (sx_A μ s.heap.size) hC B.returns B.notSynchronized (name_of_methodNamed B.named B.method).1 s.heap [] _ (sx_H_self hH) va_S.rf (sx_V_entry as hlen j hlv)
theorem sx_ofX {l : Launch} {y : MethodName} {ws ws' : List Cond} {rm : Room} {D : va_G} {cl : List vw_C} {tys : List (ClassId × FieldType)} {E : (Nat → Prop) → State → Heap → Prop} {as : List Value} {μ : sx_M} {mc ms maxL : Nat} {cc : ByteArray} {ret : Option FieldType} {own : String} {Qf : (Nat → Prop) → Array Value → State → Outcome → State → Prop} {px : String → sx_M → Prop} (hE : sx_Eok E) (hy : plainName y.cls = true) (hw : ws = Cond.code y cc maxL ret :: ws') (hyc : y.cls = own) (hlen : (lg_sl as).length ≤ maxL) (lv : List (Option Value)) (j : Nat) (hlv : lv = sx_args as ++ List.replicate j none)
    (body : ∀ (p : Program) (e : Env) (s : State) (m : MethodId) (below : List Frame) (meth : Method) (c : Code) (A : Nat → Prop), sx_C p s m as.toArray c cc maxL own ws D cl tys E A → meth.sig.returnType = ret → meth.locks = false → (meth.name = y.name) → (∀ x ∈ c.exceptionTable.toList, False) → SW p l e rm s m as.toArray below meth c maxL D cl A 0 0 (vx_MQ below (Qf A) (sx_XC D cl A px) as.toArray s mc ms A) μ 0 lv []) : ∀ sz, vx_Met l y ws rm (va_Pc as (sx_Pre D cl tys E μ sz)) (Qf (sx_A μ sz)) (sx_XC D cl (sx_A μ sz) px) mc ms (sx_A μ sz) := by
  intro sz
  refine vx_ofW (cc := cc) (maxL := maxL) (ret := ret) hy hw ?_
  intro p e s m args below meth c s₁ B hml hno hv
  obtain ⟨rfl, hsz, hH, hK, hEs⟩ := hv
  subst hsz
  have hC : sx_C p s m as.toArray c cc maxL own ws D cl tys E (sx_A μ s.heap.size) := ⟨⟨B.exec, B.bytes, hml, hyc ▸ findClass_of_methodNamed B.named, atoms_spec (ws := ws) B.pre⟩, hK, fun q h => Or.inr h, hEs, hE⟩
  rw [lg_entry_eq]
  exact body p e s m below meth c (sx_A μ s.heap.size) hC B.returns B.notSynchronized (name_of_methodNamed B.named B.method).1 hno s.heap [] _ (sx_H_self hH) va_S.rf (sx_V_entry as hlen j hlv)
theorem sx_ofi {l : Launch} {y : MethodName} {ws ws' : List Cond} {rm : Room} {D : va_G} {cl : List vw_C} {tys : List (ClassId × FieldType)} {E : (Nat → Prop) → State → Heap → Prop} {as : List Value} {μ : sx_M} {mc ms maxL : Nat} {cc : ByteArray} {ret : Option FieldType} {own : String} {post : Int32 → sx_M → Prop} (hE : sx_Eok E) (hy : plainName y.cls = true) (hw : ws = Cond.code y cc maxL ret :: ws') (hyc : y.cls = own) (hlen : (lg_sl as).length ≤ maxL) (lv : List (Option Value)) (j : Nat) (hlv : lv = sx_args as ++ List.replicate j none)
    (body : ∀ (p : Program) (e : Env) (s : State) (m : MethodId) (below : List Frame) (meth : Method) (c : Code) (A : Nat → Prop), sx_C p s m as.toArray c cc maxL own ws D cl tys E A → meth.sig.returnType = ret → meth.locks = false → (meth.name = y.name) → SW p l e rm s m as.toArray below meth c maxL D cl A 0 0 (MQ below (va_Qi post (sx_B D cl A) A) as.toArray s mc ms A) μ 0 lv []) : sx_Mi l y ws rm D cl tys E as μ post mc ms :=
  sx_of (Qf := fun A => va_Qi post (sx_B D cl A) A) hE hy hw hyc hlen lv j hlv body
theorem sx_ofXi {l : Launch} {y : MethodName} {ws ws' : List Cond} {rm : Room} {D : va_G} {cl : List vw_C} {tys : List (ClassId × FieldType)} {E : (Nat → Prop) → State → Heap → Prop} {as : List Value} {μ : sx_M} {mc ms maxL : Nat} {cc : ByteArray} {ret : Option FieldType} {own : String} {post : Int32 → sx_M → Prop} {px : String → sx_M → Prop} (hE : sx_Eok E) (hy : plainName y.cls = true) (hw : ws = Cond.code y cc maxL ret :: ws') (hyc : y.cls = own) (hlen : (lg_sl as).length ≤ maxL) (lv : List (Option Value)) (j : Nat) (hlv : lv = sx_args as ++ List.replicate j none)
    (body : ∀ (p : Program) (e : Env) (s : State) (m : MethodId) (below : List Frame) (meth : Method) (c : Code) (A : Nat → Prop), sx_C p s m as.toArray c cc maxL own ws D cl tys E A → meth.sig.returnType = ret → meth.locks = false → (meth.name = y.name) → (∀ x ∈ c.exceptionTable.toList, False) → SW p l e rm s m as.toArray below meth c maxL D cl A 0 0 (vx_MQ below (va_Qi post (sx_B D cl A) A) (sx_XC D cl A px) as.toArray s mc ms A) μ 0 lv []) : sx_Xi l y ws rm D cl tys E as μ post px mc ms :=
  sx_ofX (Qf := fun A => va_Qi post (sx_B D cl A) A) hE hy hw hyc hlen lv j hlv body
theorem sx_ofl {l : Launch} {y : MethodName} {ws ws' : List Cond} {rm : Room} {D : va_G} {cl : List vw_C} {tys : List (ClassId × FieldType)} {E : (Nat → Prop) → State → Heap → Prop} {as : List Value} {μ : sx_M} {mc ms maxL : Nat} {cc : ByteArray} {ret : Option FieldType} {own : String} {post : Int64 → sx_M → Prop} (hE : sx_Eok E) (hy : plainName y.cls = true) (hw : ws = Cond.code y cc maxL ret :: ws') (hyc : y.cls = own) (hlen : (lg_sl as).length ≤ maxL) (lv : List (Option Value)) (j : Nat) (hlv : lv = sx_args as ++ List.replicate j none)
    (body : ∀ (p : Program) (e : Env) (s : State) (m : MethodId) (below : List Frame) (meth : Method) (c : Code) (A : Nat → Prop), sx_C p s m as.toArray c cc maxL own ws D cl tys E A → meth.sig.returnType = ret → meth.locks = false → (meth.name = y.name) → SW p l e rm s m as.toArray below meth c maxL D cl A 0 0 (MQ below (va_Ql post (sx_B D cl A) A) as.toArray s mc ms A) μ 0 lv []) : sx_Ml l y ws rm D cl tys E as μ post mc ms :=
  sx_of (Qf := fun A => va_Ql post (sx_B D cl A) A) hE hy hw hyc hlen lv j hlv body
theorem sx_ofXl {l : Launch} {y : MethodName} {ws ws' : List Cond} {rm : Room} {D : va_G} {cl : List vw_C} {tys : List (ClassId × FieldType)} {E : (Nat → Prop) → State → Heap → Prop} {as : List Value} {μ : sx_M} {mc ms maxL : Nat} {cc : ByteArray} {ret : Option FieldType} {own : String} {post : Int64 → sx_M → Prop} {px : String → sx_M → Prop} (hE : sx_Eok E) (hy : plainName y.cls = true) (hw : ws = Cond.code y cc maxL ret :: ws') (hyc : y.cls = own) (hlen : (lg_sl as).length ≤ maxL) (lv : List (Option Value)) (j : Nat) (hlv : lv = sx_args as ++ List.replicate j none)
    (body : ∀ (p : Program) (e : Env) (s : State) (m : MethodId) (below : List Frame) (meth : Method) (c : Code) (A : Nat → Prop), sx_C p s m as.toArray c cc maxL own ws D cl tys E A → meth.sig.returnType = ret → meth.locks = false → (meth.name = y.name) → (∀ x ∈ c.exceptionTable.toList, False) → SW p l e rm s m as.toArray below meth c maxL D cl A 0 0 (vx_MQ below (va_Ql post (sx_B D cl A) A) (sx_XC D cl A px) as.toArray s mc ms A) μ 0 lv []) : sx_Xl l y ws rm D cl tys E as μ post px mc ms :=
  sx_ofX (Qf := fun A => va_Ql post (sx_B D cl A) A) hE hy hw hyc hlen lv j hlv body
theorem sx_ofv {l : Launch} {y : MethodName} {ws ws' : List Cond} {rm : Room} {D : va_G} {cl : List vw_C} {tys : List (ClassId × FieldType)} {E : (Nat → Prop) → State → Heap → Prop} {as : List Value} {μ : sx_M} {mc ms maxL : Nat} {cc : ByteArray} {ret : Option FieldType} {own : String} {post : sx_M → Prop} (hE : sx_Eok E) (hy : plainName y.cls = true) (hw : ws = Cond.code y cc maxL ret :: ws') (hyc : y.cls = own) (hlen : (lg_sl as).length ≤ maxL) (lv : List (Option Value)) (j : Nat) (hlv : lv = sx_args as ++ List.replicate j none)
    (body : ∀ (p : Program) (e : Env) (s : State) (m : MethodId) (below : List Frame) (meth : Method) (c : Code) (A : Nat → Prop), sx_C p s m as.toArray c cc maxL own ws D cl tys E A → meth.sig.returnType = ret → meth.locks = false → (meth.name = y.name) → SW p l e rm s m as.toArray below meth c maxL D cl A 0 0 (MQ below (va_Qv post (sx_B D cl A) A) as.toArray s mc ms A) μ 0 lv []) : sx_Mv l y ws rm D cl tys E as μ post mc ms :=
  sx_of (Qf := fun A => va_Qv post (sx_B D cl A) A) hE hy hw hyc hlen lv j hlv body
theorem sx_ofXv {l : Launch} {y : MethodName} {ws ws' : List Cond} {rm : Room} {D : va_G} {cl : List vw_C} {tys : List (ClassId × FieldType)} {E : (Nat → Prop) → State → Heap → Prop} {as : List Value} {μ : sx_M} {mc ms maxL : Nat} {cc : ByteArray} {ret : Option FieldType} {own : String} {post : sx_M → Prop} {px : String → sx_M → Prop} (hE : sx_Eok E) (hy : plainName y.cls = true) (hw : ws = Cond.code y cc maxL ret :: ws') (hyc : y.cls = own) (hlen : (lg_sl as).length ≤ maxL) (lv : List (Option Value)) (j : Nat) (hlv : lv = sx_args as ++ List.replicate j none)
    (body : ∀ (p : Program) (e : Env) (s : State) (m : MethodId) (below : List Frame) (meth : Method) (c : Code) (A : Nat → Prop), sx_C p s m as.toArray c cc maxL own ws D cl tys E A → meth.sig.returnType = ret → meth.locks = false → (meth.name = y.name) → (∀ x ∈ c.exceptionTable.toList, False) → SW p l e rm s m as.toArray below meth c maxL D cl A 0 0 (vx_MQ below (va_Qv post (sx_B D cl A) A) (sx_XC D cl A px) as.toArray s mc ms A) μ 0 lv []) : sx_Xv l y ws rm D cl tys E as μ post px mc ms :=
  sx_ofX (Qf := fun A => va_Qv post (sx_B D cl A) A) hE hy hw hyc hlen lv j hlv body
theorem sx_ofr {l : Launch} {y : MethodName} {ws ws' : List Cond} {rm : Room} {D : va_G} {cl : List vw_C} {tys : List (ClassId × FieldType)} {E : (Nat → Prop) → State → Heap → Prop} {as : List Value} {μ : sx_M} {mc ms maxL : Nat} {cc : ByteArray} {ret : Option FieldType} {own : String} {post : Nat → sx_M → Prop} (hE : sx_Eok E) (hy : plainName y.cls = true) (hw : ws = Cond.code y cc maxL ret :: ws') (hyc : y.cls = own) (hlen : (lg_sl as).length ≤ maxL) (lv : List (Option Value)) (j : Nat) (hlv : lv = sx_args as ++ List.replicate j none)
    (body : ∀ (p : Program) (e : Env) (s : State) (m : MethodId) (below : List Frame) (meth : Method) (c : Code) (A : Nat → Prop), sx_C p s m as.toArray c cc maxL own ws D cl tys E A → meth.sig.returnType = ret → meth.locks = false → (meth.name = y.name) → SW p l e rm s m as.toArray below meth c maxL D cl A 0 0 (MQ below (sx_Qr post D cl A) as.toArray s mc ms A) μ 0 lv []) : sx_Mr l y ws rm D cl tys E as μ post mc ms :=
  sx_of (Qf := fun A => sx_Qr post D cl A) hE hy hw hyc hlen lv j hlv body
theorem sx_ofXr {l : Launch} {y : MethodName} {ws ws' : List Cond} {rm : Room} {D : va_G} {cl : List vw_C} {tys : List (ClassId × FieldType)} {E : (Nat → Prop) → State → Heap → Prop} {as : List Value} {μ : sx_M} {mc ms maxL : Nat} {cc : ByteArray} {ret : Option FieldType} {own : String} {post : Nat → sx_M → Prop} {px : String → sx_M → Prop} (hE : sx_Eok E) (hy : plainName y.cls = true) (hw : ws = Cond.code y cc maxL ret :: ws') (hyc : y.cls = own) (hlen : (lg_sl as).length ≤ maxL) (lv : List (Option Value)) (j : Nat) (hlv : lv = sx_args as ++ List.replicate j none)
    (body : ∀ (p : Program) (e : Env) (s : State) (m : MethodId) (below : List Frame) (meth : Method) (c : Code) (A : Nat → Prop), sx_C p s m as.toArray c cc maxL own ws D cl tys E A → meth.sig.returnType = ret → meth.locks = false → (meth.name = y.name) → (∀ x ∈ c.exceptionTable.toList, False) → SW p l e rm s m as.toArray below meth c maxL D cl A 0 0 (vx_MQ below (sx_Qr post D cl A) (sx_XC D cl A px) as.toArray s mc ms A) μ 0 lv []) : sx_Xr l y ws rm D cl tys E as μ post px mc ms :=
  sx_ofX (Qf := fun A => sx_Qr post D cl A) hE hy hw hyc hlen lv j hlv body
end
section
/-! counting -/
def pu_c (p : Nat → Bool) : Nat → Nat
  | 0 => 0
  | n + 1 => pu_c p n + (if p n = true then 1 else 0)
theorem pu_c_congr {p q : Nat → Bool} : ∀ n : Nat, (∀ i, i < n → p i = q i) → pu_c p n = pu_c q n
  | 0, _ => rfl
  | n + 1, h => by
    rw [pu_c, pu_c, pu_c_congr n (fun i hi => h i (by omega)), h n (by omega)]
theorem pu_c_add (p : Nat → Bool) (a : Nat) : ∀ b : Nat, pu_c p (a + b) = pu_c p a + pu_c (fun i => p (a + i)) b
  | 0 => rfl
  | b + 1 => by
    rw [← Nat.add_assoc, pu_c, pu_c_add p a b, pu_c, Nat.add_assoc]
theorem pu_c_le (p : Nat → Bool) : ∀ n : Nat, pu_c p n ≤ n
  | 0 => Nat.le_refl 0
  | n + 1 => by
    have := pu_c_le p n
    rw [pu_c]
    split <;> omega
/-! bits of a long counted by bytes -/
def pu_mk (k : Nat) : Nat → Nat
  | 0 => 0
  | n + 1 => k + 256 * pu_mk k n
theorem pu_and {a b c d : Nat} (ha : a < 256) (hc : c < 256) : (a + 256 * b) &&& (c + 256 * d) = (a &&& c) + 256 * (b &&& d) := by
  have m1 : (a + 256 * b) % 2 ^ 8 = a := by omega
  have m2 : (c + 256 * d) % 2 ^ 8 = c := by omega
  have d1 : (a + 256 * b) / 2 ^ 8 = b := by omega
  have d2 : (c + 256 * d) / 2 ^ 8 = d := by omega
  have h1 : ((a + 256 * b) &&& (c + 256 * d)) % 2 ^ 8 = (a &&& c) := by rw [Nat.and_mod_two_pow, m1, m2]
  have h2 : ((a + 256 * b) &&& (c + 256 * d)) / 2 ^ 8 = (b &&& d) := by rw [Nat.and_div_two_pow, d1, d2]
  generalize (a + 256 * b) &&& (c + 256 * d) = z at h1 h2 ⊢
  generalize (a &&& c) = u at h1 ⊢
  generalize (b &&& d) = v at h2 ⊢
  omega
def pu_1 (n x : Nat) : Nat := x - ((x / 2) &&& pu_mk 85 n)
def pu_2 (n x : Nat) : Nat := (x &&& pu_mk 51 n) + ((x / 4) &&& pu_mk 51 n)
def pu_3 (n x : Nat) : Nat := (x + x / 16) &&& pu_mk 15 n
theorem pu_t1 : ∀ a, a < 128 → ∀ z, z < 2 → (a + 128 * z) &&& 85 = a &&& 85 := by decide +kernel
theorem pu_t2 : ∀ a, a < 64 → ∀ z, z < 4 → (a + 64 * z) &&& 51 = a &&& 51 := by decide +kernel
def pu_b1 (b : Nat) : Nat := b - ((b / 2) &&& 85)
def pu_b2 (b : Nat) : Nat := (pu_b1 b &&& 51) + ((pu_b1 b / 4) &&& 51)
def pu_8 (b : Nat) : Nat := pu_c (fun i => b.testBit i) 8
theorem pu_tb : ∀ b, b < 256 → pu_b2 b % 16 ≤ 4 ∧ pu_b2 b / 16 ≤ 4 ∧ pu_b2 b % 16 + pu_b2 b / 16 = pu_8 b ∧ pu_8 b ≤ 8 := by decide +kernel
theorem pu_1_step {n lo hi : Nat} (h : lo < 256) : pu_1 (n + 1) (lo + 256 * hi) = pu_b1 lo + 256 * pu_1 n hi := by
  unfold pu_1 pu_b1
  have e1 : (lo + 256 * hi) / 2 = (lo / 2 + 128 * (hi % 2)) + 256 * (hi / 2) := by omega
  rw [e1, pu_mk, pu_and (by omega) (by decide), pu_t1 (lo / 2) (by omega) (hi % 2) (by omega)]
  have l1 : (lo / 2) &&& 85 ≤ lo / 2 := Nat.and_le_left
  have l2 : (hi / 2) &&& pu_mk 85 n ≤ hi / 2 := Nat.and_le_left
  generalize (lo / 2) &&& 85 = u at l1 ⊢
  generalize (hi / 2) &&& pu_mk 85 n = v at l2 ⊢
  omega
theorem pu_2_step {n lo hi : Nat} (h : lo < 256) : pu_2 (n + 1) (lo + 256 * hi) = ((lo &&& 51) + ((lo / 4) &&& 51)) + 256 * pu_2 n hi := by
  unfold pu_2
  have e1 : (lo + 256 * hi) / 4 = (lo / 4 + 64 * (hi % 4)) + 256 * (hi / 4) := by omega
  rw [e1, pu_mk, pu_and h (by decide), pu_and (by omega) (by decide), pu_t2 (lo / 4) (by omega) (hi % 4) (by omega)]
  generalize lo &&& 51 = a
  generalize (lo / 4) &&& 51 = b
  generalize hi &&& pu_mk 51 n = d
  generalize (hi / 4) &&& pu_mk 51 n = f
  omega
def pu_21 (n x : Nat) : Nat := pu_2 n (pu_1 n x)
theorem pu_b1_lt {b : Nat} (h : b < 256) : pu_b1 b < 256 := by unfold pu_b1; omega
theorem pu_21_step {n lo hi : Nat} (h : lo < 256) : pu_21 (n + 1) (lo + 256 * hi) = pu_b2 lo + 256 * pu_21 n hi := by
  unfold pu_21
  rw [pu_1_step h, pu_2_step (pu_b1_lt h)]
  rfl
theorem pu_21_nib : ∀ (n x : Nat), x < 256 ^ n → pu_21 n x % 16 ≤ 4
  | 0, x, h => by
    have : x = 0 := by omega
    subst this
    decide
  | n + 1, x, h => by
    have e : x = x % 256 + 256 * (x / 256) := by omega
    have hl : x % 256 < 256 := by omega
    rw [e, pu_21_step hl]
    have := (pu_tb _ hl).1
    omega
theorem pu_3_step {n u y : Nat} (h1 : u % 16 ≤ 4) (h2 : u / 16 ≤ 4) (hy : y % 16 ≤ 4) : pu_3 (n + 1) (u + 256 * y) = (u % 16 + u / 16) + 256 * pu_3 n y := by
  unfold pu_3
  have e1 : (u + 256 * y) + (u + 256 * y) / 16 = (u + u / 16 + 16 * (y % 16)) + 256 * (y + y / 16) := by omega
  have e2 : (u + u / 16 + 16 * (y % 16)) &&& 15 = u % 16 + u / 16 := by
    have := Nat.and_two_pow_sub_one_eq_mod (u + u / 16 + 16 * (y % 16)) 4
    rw [show (15 : Nat) = 2 ^ 4 - 1 from rfl, this]
    omega
  rw [e1, pu_mk, pu_and (by omega) (by decide), e2]
def pu_a (n x : Nat) : Nat := pu_3 n (pu_21 n x)
theorem pu_a_step {n lo hi : Nat} (h : lo < 256) (hh : hi < 256 ^ n) : pu_a (n + 1) (lo + 256 * hi) = pu_8 lo + 256 * pu_a n hi := by
  unfold pu_a
  obtain ⟨a, b, d, -⟩ := pu_tb lo h
  rw [pu_21_step h, pu_3_step a b (pu_21_nib n hi hh), d]
theorem pu_c_byte {lo hi m : Nat} (h : lo < 256) : pu_c (fun i => (lo + 256 * hi).testBit i) (8 + m) = pu_8 lo + pu_c (fun i => hi.testBit i) m := by
  rw [pu_c_add]
  have e1 : (lo + 256 * hi) % 2 ^ 8 = lo := by omega
  have e2 : (lo + 256 * hi) / 2 ^ 8 = hi := by omega
  congr 1
  · unfold pu_8
    refine pu_c_congr 8 (fun i hi' => ?_)
    show (lo + 256 * hi).testBit i = lo.testBit i
    have := Nat.testBit_mod_two_pow (lo + 256 * hi) 8 i
    rw [e1] at this
    rw [this, decide_eq_true hi', Bool.true_and]
  · refine pu_c_congr m (fun i _ => ?_)
    show (lo + 256 * hi).testBit (8 + i) = hi.testBit i
    have := Nat.testBit_div_two_pow (n := 8) (lo + 256 * hi) i
    rw [e2] at this
    rw [this, Nat.add_comm 8 i]
def pu_f8 (z : Nat) : Nat := (z + z / 256 + (z + z / 256) / 65536 + (z + z / 256 + (z + z / 256) / 65536) / 4294967296) % 128
def pu_f4 (z : Nat) : Nat := (z + z / 256 + (z + z / 256) / 65536) % 64
theorem pu_split (x : Nat) : ∃ lo hi : Nat, lo < 256 ∧ x = lo + 256 * hi ∧ hi = x / 256 := ⟨x % 256, x / 256, by omega, by omega, rfl⟩
theorem pu_div32 {L B : Nat} (h : L < 4294967296) : (L + 4294967296 * B) / 4294967296 = B := by
  rw [Nat.add_mul_div_left _ _ (by decide), Nat.div_eq_of_lt h, Nat.zero_add]
theorem pu_div16 {L B : Nat} (h : L < 65536) : (L + 65536 * B) / 65536 = B := by
  rw [Nat.add_mul_div_left _ _ (by decide), Nat.div_eq_of_lt h, Nat.zero_add]
theorem pu_div8 {L B : Nat} (h : L < 256) : (L + 256 * B) / 256 = B := by
  rw [Nat.add_mul_div_left _ _ (by decide), Nat.div_eq_of_lt h, Nat.zero_add]
theorem pu_sum8 {q0 q1 q2 q3 q4 q5 q6 q7 : Nat} (p0 : q0 ≤ 8) (p1 : q1 ≤ 8) (p2 : q2 ≤ 8) (p3 : q3 ≤ 8) (p4 : q4 ≤ 8) (p5 : q5 ≤ 8) (p6 : q6 ≤ 8) (p7 : q7 ≤ 8) : pu_f8 (q0 + 256 * (q1 + 256 * (q2 + 256 * (q3 + 256 * (q4 + 256 * (q5 + 256 * (q6 + 256 * q7))))))) = q0 + q1 + q2 + q3 + q4 + q5 + q6 + q7 := by
  obtain ⟨B7, h7⟩ : ∃ z, z = q7 := ⟨_, rfl⟩
  obtain ⟨B6, h6⟩ : ∃ z, z = q6 + 256 * B7 := ⟨_, rfl⟩
  obtain ⟨B5, h5⟩ : ∃ z, z = q5 + 256 * B6 := ⟨_, rfl⟩
  obtain ⟨B4, h4⟩ : ∃ z, z = q4 + 256 * B5 := ⟨_, rfl⟩
  obtain ⟨B3, h3⟩ : ∃ z, z = q3 + 256 * B4 := ⟨_, rfl⟩
  obtain ⟨B2, h2⟩ : ∃ z, z = q2 + 256 * B3 := ⟨_, rfl⟩
  obtain ⟨B1, h1⟩ : ∃ z, z = q1 + 256 * B2 := ⟨_, rfl⟩
  rw [← h7, ← h6, ← h5, ← h4, ← h3, ← h2, ← h1]
  unfold pu_f8
  have e1 : (q0 + 256 * B1) / 256 = B1 := pu_div8 (by omega)
  rw [e1]
  have e2 : (q0 + 256 * B1 + B1) / 65536 = B2 + B3 := by
    have : q0 + 256 * B1 + B1 = (q0 + q1 + 256 * (q1 + q2)) + 65536 * (B2 + B3) := by omega
    rw [this, pu_div16 (by omega)]
  rw [e2]
  have e3 : (q0 + 256 * B1 + B1 + (B2 + B3)) / 4294967296 = B4 + B5 + B6 + B7 := by
    have a0 : 256 * B1 = 256 * q1 + 65536 * q2 + 16777216 * q3 + 4294967296 * B4 := by omega
    have a1 : B1 = q1 + 256 * q2 + 65536 * q3 + 16777216 * q4 + 4294967296 * B5 := by omega
    have a2 : B2 = q2 + 256 * q3 + 65536 * q4 + 16777216 * q5 + 4294967296 * B6 := by omega
    have a3 : B3 = q3 + 256 * q4 + 65536 * q5 + 16777216 * q6 + 4294967296 * B7 := by omega
    have : q0 + 256 * B1 + B1 + (B2 + B3) = (q0 + (256 * q1 + 65536 * q2 + 16777216 * q3) + (q1 + 256 * q2 + 65536 * q3 + 16777216 * q4) + ((q2 + 256 * q3 + 65536 * q4 + 16777216 * q5) + (q3 + 256 * q4 + 65536 * q5 + 16777216 * q6))) + 4294967296 * (B4 + B5 + B6 + B7) := by
      rw [a0, a2, a3]
      clear h1 h2 h3 h4 h5 h6 h7 a0 a2 a3 e1 e2
      omega
    rw [this, pu_div32 (by clear this a0 a1 a2 a3 e1 e2 h1 h2 h3 h4 h5 h6 h7; omega)]
  rw [e3]
  clear e1 e2 e3
  omega
theorem pu_sum4 {q0 q1 q2 q3 : Nat} (p0 : q0 ≤ 8) (p1 : q1 ≤ 8) (p2 : q2 ≤ 8) (p3 : q3 ≤ 8) : pu_f4 (q0 + 256 * (q1 + 256 * (q2 + 256 * q3))) = q0 + q1 + q2 + q3 := by
  obtain ⟨B3, h3⟩ : ∃ z, z = q3 := ⟨_, rfl⟩
  obtain ⟨B2, h2⟩ : ∃ z, z = q2 + 256 * B3 := ⟨_, rfl⟩
  obtain ⟨B1, h1⟩ : ∃ z, z = q1 + 256 * B2 := ⟨_, rfl⟩
  rw [← h3, ← h2, ← h1]
  unfold pu_f4
  have e1 : (q0 + 256 * B1) / 256 = B1 := pu_div8 (by omega)
  rw [e1]
  have e2 : (q0 + 256 * B1 + B1) / 65536 = B2 + B3 := by
    have : q0 + 256 * B1 + B1 = (q0 + q1 + 256 * (q1 + q2)) + 65536 * (B2 + B3) := by omega
    rw [this, pu_div16 (by omega)]
  rw [e2]
  clear e1 e2
  omega
theorem pu_pop64 {x : Nat} (h : x < 2 ^ 64) : pu_f8 (pu_a 8 x) = pu_c (fun i => x.testBit i) 64 := by
  obtain ⟨b0, x1, h0, e0, f0⟩ := pu_split x
  obtain ⟨b1, x2, h1, e1, f1⟩ := pu_split x1
  obtain ⟨b2, x3, h2, e2, f2⟩ := pu_split x2
  obtain ⟨b3, x4, h3, e3, f3⟩ := pu_split x3
  obtain ⟨b4, x5, h4, e4, f4⟩ := pu_split x4
  obtain ⟨b5, x6, h5, e5, f5⟩ := pu_split x5
  obtain ⟨b6, x7, h6, e6, f6⟩ := pu_split x6
  obtain ⟨b7, x8, h7, e7, f7⟩ := pu_split x7
  have l1 : x1 < 256 ^ 7 := by rw [f0]; exact Nat.div_lt_of_lt_mul (by rw [show 256 * 256 ^ 7 = 2 ^ 64 from by decide]; exact h)
  have l2 : x2 < 256 ^ 6 := by rw [f1]; exact Nat.div_lt_of_lt_mul (by rw [show 256 * 256 ^ 6 = 256 ^ 7 from by decide]; exact l1)
  have l3 : x3 < 256 ^ 5 := by rw [f2]; exact Nat.div_lt_of_lt_mul (by rw [show 256 * 256 ^ 5 = 256 ^ 6 from by decide]; exact l2)
  have l4 : x4 < 256 ^ 4 := by rw [f3]; exact Nat.div_lt_of_lt_mul (by rw [show 256 * 256 ^ 4 = 256 ^ 5 from by decide]; exact l3)
  have l5 : x5 < 256 ^ 3 := by rw [f4]; exact Nat.div_lt_of_lt_mul (by rw [show 256 * 256 ^ 3 = 256 ^ 4 from by decide]; exact l4)
  have l6 : x6 < 256 ^ 2 := by rw [f5]; exact Nat.div_lt_of_lt_mul (by rw [show 256 * 256 ^ 2 = 256 ^ 3 from by decide]; exact l5)
  have l7 : x7 < 256 ^ 1 := by rw [f6]; exact Nat.div_lt_of_lt_mul (by rw [show 256 * 256 ^ 1 = 256 ^ 2 from by decide]; exact l6)
  have l8 : x8 = 0 := by rw [f7]; exact Nat.div_eq_of_lt (by rw [Nat.pow_one] at l7; exact l7)
  have ha : pu_a 8 x = pu_8 b0 + 256 * (pu_8 b1 + 256 * (pu_8 b2 + 256 * (pu_8 b3 + 256 * (pu_8 b4 + 256 * (pu_8 b5 + 256 * (pu_8 b6 + 256 * (pu_8 b7 + 256 * pu_a 0 0))))))) := by
    rw [e0, pu_a_step h0 l1, e1, pu_a_step h1 l2, e2, pu_a_step h2 l3, e3, pu_a_step h3 l4, e4, pu_a_step h4 l5, e5, pu_a_step h5 l6, e6, pu_a_step h6 l7, e7, l8, pu_a_step h7 (by decide)]
  have hc : pu_c (fun i => x.testBit i) 64 = pu_8 b0 + (pu_8 b1 + (pu_8 b2 + (pu_8 b3 + (pu_8 b4 + (pu_8 b5 + (pu_8 b6 + (pu_8 b7 + 0))))))) := by
    rw [show (64 : Nat) = 8 + (8 + (8 + (8 + (8 + (8 + (8 + (8 + 0))))))) from rfl, e0, pu_c_byte h0, e1, pu_c_byte h1, e2, pu_c_byte h2, e3, pu_c_byte h3, e4, pu_c_byte h4, e5, pu_c_byte h5, e6, pu_c_byte h6, e7, pu_c_byte h7]
    rfl
  have z0 : pu_a 0 0 = 0 := by decide
  rw [ha, hc, z0, show pu_8 b7 + 256 * 0 = pu_8 b7 from rfl, pu_sum8 (pu_tb b0 h0).2.2.2 (pu_tb b1 h1).2.2.2 (pu_tb b2 h2).2.2.2 (pu_tb b3 h3).2.2.2 (pu_tb b4 h4).2.2.2 (pu_tb b5 h5).2.2.2 (pu_tb b6 h6).2.2.2 (pu_tb b7 h7).2.2.2]
  clear ha hc
  omega
theorem pu_pop32 {x : Nat} (h : x < 2 ^ 32) : pu_f4 (pu_a 4 x) = pu_c (fun i => x.testBit i) 32 := by
  obtain ⟨b0, b1, b2, b3, h0, h1, h2, h3, e⟩ : ∃ b0 b1 b2 b3 : Nat, b0 < 256 ∧ b1 < 256 ∧ b2 < 256 ∧ b3 < 256 ∧ x = b0 + 256 * (b1 + 256 * (b2 + 256 * (b3 + 256 * 0))) :=
    ⟨x % 256, x / 256 % 256, x / 65536 % 256, x / 16777216 % 256, by omega, by omega, by omega, by omega, by omega⟩
  have ha : pu_a 4 x = pu_8 b0 + 256 * (pu_8 b1 + 256 * (pu_8 b2 + 256 * (pu_8 b3 + 256 * pu_a 0 0))) := by
    rw [e, pu_a_step h0 (by omega), pu_a_step h1 (by omega), pu_a_step h2 (by omega), pu_a_step h3 (by omega)]
  have hc : pu_c (fun i => x.testBit i) 32 = pu_8 b0 + (pu_8 b1 + (pu_8 b2 + (pu_8 b3 + 0))) := by
    rw [e, show (32 : Nat) = 8 + (8 + (8 + (8 + 0))) from rfl, pu_c_byte h0, pu_c_byte h1, pu_c_byte h2, pu_c_byte h3]
    rfl
  have z0 : pu_a 0 0 = 0 := by decide
  rw [ha, hc, z0, show pu_8 b3 + 256 * 0 = pu_8 b3 from rfl, pu_sum4 (pu_tb b0 h0).2.2.2 (pu_tb b1 h1).2.2.2 (pu_tb b2 h2).2.2.2 (pu_tb b3 h3).2.2.2]
  clear ha hc
  omega
end
section
/-! ===== lN n to 2^64: shifts, and, or, masks, one bit ===== -/
theorem wb_tb (n : Nat) : (lN n).toBitVec = BitVec.ofNat 64 n := rfl
theorem wb_inj {a b : Int64} (h : a.toBitVec = b.toBitVec) : a = b := Int64.toBitVec_inj.mp h
theorem wb_tn {n : Nat} (h : n < 2 ^ 64) : (lN n).toBitVec.toNat = n := by rw [wb_tb, BitVec.toNat_ofNat, Nat.mod_eq_of_lt h]
theorem wb_of (x : Int64) : ∃ n, n < 2 ^ 64 ∧ x = lN n := ⟨x.toBitVec.toNat, x.toBitVec.isLt, wb_inj (by rw [wb_tb]; simp)⟩
theorem wb_of32 (x : Int32) : ∃ n, n < 2 ^ 32 ∧ x = nI n := ⟨x.toBitVec.toNat, x.toBitVec.isLt, Int32.toBitVec_inj.mp (by show _ = BitVec.ofNat 32 _; simp)⟩
theorem wb_c : ∀ k, k < 64 → ((nI k).toInt64 &&& 63) = lN k := by decide +kernel
theorem wb_cu : ∀ k, k < 64 → ((nI k).toInt64.toUInt64 &&& Int64.toUInt64 63) = UInt64.ofNat k := by decide +kernel
theorem wb_sm : ∀ k, k < 64 → (BitVec.ofNat 64 k).smod 64 = BitVec.ofNat 64 k := by decide +kernel
theorem wb_pw {a b : Nat} (h : a ≤ b) : 2 ^ b = 2 ^ a * 2 ^ (b - a) := by rw [← Nat.pow_add]; congr 1; omega
theorem wb_lt2 {a b : Nat} (h : a < b) : 2 ^ a < 2 ^ b := Nat.pow_lt_pow_right (by decide) h
theorem wb_mod (n : Nat) : lN n = lN (n % 2 ^ 64) := wb_inj (by rw [wb_tb, wb_tb]; apply BitVec.eq_of_toNat_eq; rw [BitVec.toNat_ofNat, BitVec.toNat_ofNat, Nat.mod_mod])
theorem wb_shr {n k : Nat} (hn : n < 2 ^ 64) (hk : k < 64) : ((lN n).toUInt64 >>> ((nI k).toInt64.toUInt64 &&& Int64.toUInt64 63)).toInt64 = lN (n / 2 ^ k) := by
  rw [wb_cu k hk]
  apply wb_inj
  apply BitVec.eq_of_toNat_eq
  show ((lN n).toUInt64 >>> UInt64.ofNat k).toNat = (BitVec.ofNat 64 _).toNat
  have h1 : (UInt64.ofNat k).toNat = k := by
    show (BitVec.ofNat 64 k).toNat = k
    rw [BitVec.toNat_ofNat, Nat.mod_eq_of_lt (by omega)]
  have h2 : (lN n).toUInt64.toNat = n := wb_tn hn
  rw [UInt64.toNat_shiftRight, h1, h2, Nat.mod_eq_of_lt hk, Nat.shiftRight_eq_div_pow, BitVec.toNat_ofNat, Nat.mod_eq_of_lt (Nat.lt_of_le_of_lt (Nat.div_le_self _ _) hn)]
theorem wb_shl (n : Nat) {k : Nat} (hk : k < 64) : lN n <<< ((nI k).toInt64 &&& 63) = lN (n * 2 ^ k) := by
  rw [wb_c k hk]
  apply wb_inj
  rw [Int64.toBitVec_shiftLeft, wb_tb, wb_tb, wb_tb, wb_sm k hk]
  apply BitVec.eq_of_toNat_eq
  rw [BitVec.shiftLeft_eq', BitVec.toNat_shiftLeft, BitVec.toNat_ofNat, BitVec.toNat_ofNat, BitVec.toNat_ofNat, Nat.mod_eq_of_lt (show k < 2 ^ 64 by omega), Nat.shiftLeft_eq, Nat.mul_mod, Nat.mod_mod, ← Nat.mul_mod]
theorem wb_and {a b : Nat} (ha : a < 2 ^ 64) (hb : b < 2 ^ 64) : lN a &&& lN b = lN (a &&& b) := by
  apply wb_inj
  rw [Int64.toBitVec_and, wb_tb, wb_tb, wb_tb]
  apply BitVec.eq_of_toNat_eq
  rw [BitVec.toNat_and, BitVec.toNat_ofNat, BitVec.toNat_ofNat, BitVec.toNat_ofNat, Nat.mod_eq_of_lt ha, Nat.mod_eq_of_lt hb, Nat.mod_eq_of_lt (Nat.and_lt_two_pow _ hb)]
theorem wb_or {a b : Nat} (ha : a < 2 ^ 64) (hb : b < 2 ^ 64) : lN a ||| lN b = lN (a ||| b) := by
  apply wb_inj
  rw [Int64.toBitVec_or, wb_tb, wb_tb, wb_tb]
  apply BitVec.eq_of_toNat_eq
  rw [BitVec.toNat_or, BitVec.toNat_ofNat, BitVec.toNat_ofNat, BitVec.toNat_ofNat, Nat.mod_eq_of_lt ha, Nat.mod_eq_of_lt hb, Nat.mod_eq_of_lt (Nat.or_lt_two_pow ha hb)]
theorem wb_mask {n k : Nat} (hn : n < 2 ^ 64) (hk : k < 64) : lN n &&& lN (2 ^ k - 1) = lN (n % 2 ^ k) := by
  rw [wb_and hn (by have := wb_lt2 hk; omega), Nat.and_two_pow_sub_one_eq_mod]
theorem wb_a1 {n : Nat} (hn : n < 2 ^ 64) : lN n &&& 1 = lN (n % 2) := wb_mask (k := 1) hn (by decide)
theorem wb_bit {n k : Nat} (hn : n < 2 ^ 64) (hk : k < 64) : ((lN n).toUInt64 >>> ((nI k).toInt64.toUInt64 &&& Int64.toUInt64 63)).toInt64 &&& 1 = lN (n / 2 ^ k % 2) := by
  rw [wb_shr hn hk, wb_a1 (Nat.lt_of_le_of_lt (Nat.div_le_self _ _) hn)]
theorem wb_xor {q k : Nat} (hk : k < 63) (h : 2 ^ k ≤ q) (h2 : q < 2 ^ (k + 1)) : lN q ^^^ lN (2 ^ k) = lN (q - 2 ^ k) := by
  obtain ⟨r, rfl⟩ : ∃ r, q = 2 ^ k + r := ⟨q - 2 ^ k, by omega⟩
  have hr : r < 2 ^ k := by rw [Nat.pow_succ] at h2; omega
  have hx : (2 ^ k + r) ^^^ 2 ^ k = r := by
    apply Nat.eq_of_testBit_eq
    intro i
    rw [Nat.testBit_xor, Nat.testBit_two_pow]
    rcases Nat.lt_trichotomy i k with h | h | h
    · rw [Nat.testBit_two_pow_add_gt h]
      simp [show ¬ k = i by omega]
    · subst h
      rw [Nat.testBit_two_pow_add_eq]
      simp
    · have a1 : 2 ^ (k + 1) ≤ 2 ^ i := Nat.pow_le_pow_right (by decide) h
      rw [Nat.testBit_lt_two_pow (show 2 ^ k + r < 2 ^ i by omega), Nat.testBit_lt_two_pow (show r < 2 ^ i by omega)]
      simp [show ¬ k = i by omega]
  have b1 := wb_lt2 (show k + 1 < 64 by omega)
  have b2 := wb_lt2 (show k < 64 by omega)
  apply wb_inj
  rw [Int64.toBitVec_xor, wb_tb, wb_tb, wb_tb]
  apply BitVec.eq_of_toNat_eq
  rw [BitVec.toNat_xor, BitVec.toNat_ofNat, BitVec.toNat_ofNat, BitVec.toNat_ofNat, Nat.mod_eq_of_lt (by omega : 2 ^ k + r < 2 ^ 64), Nat.mod_eq_of_lt b2, hx, Nat.add_sub_cancel_left, Nat.mod_eq_of_lt (by omega)]
/-! a long as a row of bits -/
def bL (x : Int64) (i : Nat) : Bool := x.toBitVec.getLsbD i
def bI (x : Int32) (i : Nat) : Bool := x.toBitVec.getLsbD i
theorem bL_ext {x y : Int64} (h : ∀ i, i < 64 → bL x i = bL y i) : x = y := Int64.toBitVec_inj.mp (BitVec.eq_of_getLsbD_eq fun i hi => h i hi)
theorem bI_ext {x y : Int32} (h : ∀ i, i < 32 → bI x i = bI y i) : x = y := Int32.toBitVec_inj.mp (BitVec.eq_of_getLsbD_eq fun i hi => h i hi)
theorem bL_and (x y : Int64) (i : Nat) : bL (x &&& y) i = (bL x i && bL y i) := by unfold bL; rw [Int64.toBitVec_and, BitVec.getLsbD_and]
theorem bL_or (x y : Int64) (i : Nat) : bL (x ||| y) i = (bL x i || bL y i) := by unfold bL; rw [Int64.toBitVec_or, BitVec.getLsbD_or]
theorem bL_xor (x y : Int64) (i : Nat) : bL (x ^^^ y) i = (bL x i ^^ bL y i) := by unfold bL; rw [Int64.toBitVec_xor, BitVec.getLsbD_xor]
theorem bI_and (x y : Int32) (i : Nat) : bI (x &&& y) i = (bI x i && bI y i) := by unfold bI; rw [Int32.toBitVec_and, BitVec.getLsbD_and]
theorem bI_or (x y : Int32) (i : Nat) : bI (x ||| y) i = (bI x i || bI y i) := by unfold bI; rw [Int32.toBitVec_or, BitVec.getLsbD_or]
theorem bI_xor (x y : Int32) (i : Nat) : bI (x ^^^ y) i = (bI x i ^^ bI y i) := by unfold bI; rw [Int32.toBitVec_xor, BitVec.getLsbD_xor]
theorem bL_ge {x : Int64} {i : Nat} (h : 64 ≤ i) : bL x i = false := BitVec.getLsbD_of_ge _ _ h
theorem bI_ge {x : Int32} {i : Nat} (h : 32 ≤ i) : bI x i = false := BitVec.getLsbD_of_ge _ _ h
theorem bL_lN (n i : Nat) : bL (lN n) i = (decide (i < 64) && n.testBit i) := by
  unfold bL
  rw [wb_tb, BitVec.getLsbD_ofNat]
theorem bI_nI (n i : Nat) : bI (nI n) i = (decide (i < 32) && n.testBit i) := by
  unfold bI
  rw [show (nI n).toBitVec = BitVec.ofNat 32 n from rfl, BitVec.getLsbD_ofNat]
theorem bL_0 (i : Nat) : bL 0 i = false := by
  rw [show (0 : Int64) = lN 0 from rfl, bL_lN, Nat.zero_testBit, Bool.and_false]
theorem bL_m1 {i : Nat} (h : i < 64) : bL (-1) i = true := by
  unfold bL
  rw [show (-1 : Int64).toBitVec = BitVec.allOnes 64 from by decide, BitVec.getLsbD_allOnes, decide_eq_true h]
theorem bI_m1 {i : Nat} (h : i < 32) : bI (-1) i = true := by
  unfold bI
  rw [show (-1 : Int32).toBitVec = BitVec.allOnes 32 from by decide, BitVec.getLsbD_allOnes, decide_eq_true h]
theorem bL_not (x : Int64) {i : Nat} (h : i < 64) : bL (x ^^^ (-1)) i = !bL x i := by
  rw [bL_xor, bL_m1 h, Bool.xor_true]
theorem bI_not (x : Int32) {i : Nat} (h : i < 32) : bI (x ^^^ (-1)) i = !bI x i := by
  rw [bI_xor, bI_m1 h, Bool.xor_true]
theorem bL_amt {k : Nat} (h : k < 2 ^ 31) : ((nI k).toInt64 &&& 63) = lN (k % 64) := by
  rw [nI_l h, show (63 : Int64) = lN (2 ^ 6 - 1) from rfl, wb_mask (by omega) (by decide)]
theorem bL_shl (x : Int64) {k : Nat} (hk : k < 2 ^ 31) (i : Nat) : bL (jshlL x (nI k)) i = (decide (i < 64) && (decide (k % 64 ≤ i) && bL x (i - k % 64))) := by
  unfold jshlL bL
  rw [bL_amt hk, Int64.toBitVec_shiftLeft, wb_tb, wb_sm (k % 64) (Nat.mod_lt _ (by decide)), BitVec.shiftLeft_eq', BitVec.toNat_ofNat, Nat.mod_eq_of_lt (show k % 64 < 2 ^ 64 by omega), BitVec.getLsbD_shiftLeft]
  by_cases h1 : i < k % 64
  · simp [h1, Nat.not_le.mpr h1]
  · simp [h1, Nat.le_of_not_lt h1]
theorem bL_one (i : Nat) : bL 1 i = decide (i = 0) := by
  rw [show (1 : Int64) = lN 1 from rfl, bL_lN]
  cases i with
  | zero => rfl
  | succ i =>
    have h : (1 : Nat).testBit (i + 1) = false := by rw [Nat.testBit_succ]; simp
    rw [h, Bool.and_false]
    simp
/-- 1L << k -/
theorem bL_bit {k : Nat} (hk : k < 2 ^ 31) (i : Nat) : bL (jshlL 1 (nI k)) i = decide (i = k % 64) := by
  rw [bL_shl 1 hk, bL_one]
  have hm : k % 64 < 64 := Nat.mod_lt _ (by decide)
  by_cases h : i = k % 64
  · subst h
    simp [hm]
  · by_cases h2 : k % 64 ≤ i
    · have : i - k % 64 ≠ 0 := by omega
      simp [h, this]
    · simp [h, h2]
theorem bL_ushr (x : Int64) {k : Nat} (hk : k < 64) (i : Nat) : bL (jushrL x (nI k)) i = bL x (k + i) := by
  obtain ⟨n, hn, rfl⟩ := wb_of x
  unfold jushrL
  rw [wb_shr hn hk, bL_lN, bL_lN, Nat.testBit_div_two_pow]
  by_cases h : i < 64
  · by_cases h2 : k + i < 64
    · simp [h, h2, Nat.add_comm]
    · have : n.testBit (i + k) = false := Nat.testBit_lt_two_pow (Nat.lt_of_lt_of_le hn (Nat.pow_le_pow_right (by decide) (by omega)))
      simp [this, h2]
  · have h2 : ¬ k + i < 64 := by omega
    simp [h, h2]
theorem bL_zero_iff {x : Int64} : x = 0 ↔ ∀ i, i < 64 → bL x i = false :=
  ⟨fun h i _ => by rw [h, bL_0], fun h => bL_ext fun i hi => by rw [h i hi, bL_0]⟩
/-- x & (1L << k) is 0 -/
theorem bL_test (x : Int64) {k : Nat} (hk : k < 2 ^ 31) : (x &&& jshlL 1 (nI k)) = 0 ↔ bL x (k % 64) = false := by
  rw [bL_zero_iff]
  constructor
  · intro h
    have := h (k % 64) (Nat.mod_lt _ (by decide))
    rw [bL_and, bL_bit hk, decide_eq_true rfl, Bool.and_true] at this
    exact this
  · intro h i hi
    rw [bL_and, bL_bit hk]
    by_cases e : i = k % 64
    · rw [e, h, Bool.false_and]
    · rw [decide_eq_false e, Bool.and_false]
/-! Long.bitCount and Integer.bitCount, as the JDK has them -/
theorem pu_mk8 : pu_mk 85 8 = 0x5555555555555555 ∧ pu_mk 51 8 = 0x3333333333333333 ∧ pu_mk 15 8 = 0x0f0f0f0f0f0f0f0f := by decide +kernel
theorem pu_mk4 : pu_mk 85 4 = 0x55555555 ∧ pu_mk 51 4 = 0x33333333 ∧ pu_mk 15 4 = 0x0f0f0f0f := by decide +kernel
def pop64 (x : Int64) : Nat := pu_c (bL x) 64
def pop32 (x : Int32) : Nat := pu_c (bI x) 32
theorem pop64_lN {n : Nat} : pop64 (lN n) = pu_c (fun i => n.testBit i) 64 := by
  unfold pop64
  exact pu_c_congr 64 (fun i hi => by rw [bL_lN, decide_eq_true hi, Bool.true_and])
theorem pop32_nI {n : Nat} : pop32 (nI n) = pu_c (fun i => n.testBit i) 32 := by
  unfold pop32
  exact pu_c_congr 32 (fun i hi => by rw [bI_nI, decide_eq_true hi, Bool.true_and])
end
