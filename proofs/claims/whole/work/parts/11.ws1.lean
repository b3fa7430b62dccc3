def b2i (b : Bool) : Int32 := if b = true then 1 else 0
theorem b2i_01 (b : Bool) : b2i b = 0 ∨ b2i b = 1 := by cases b <;> simp [b2i]
theorem jb_sshr {n : Nat} (hn : n < 2 ^ 31) {k : Nat} (hk : k < 32) : jshr (nI n) (nI k) = nI (n / 2 ^ k) := by
  unfold jshr
  refine pk_shrN hn _ k ?_
  have : ∀ k, k < 32 → ((nI k &&& 31).toBitVec.smod 32).toNat = k := by decide +kernel
  exact this k hk
theorem jb_shl {n k : Nat} (hk : k < 32) (h : n * 2 ^ k < 2 ^ 32) : jshl (nI n) (nI k) = nI (n * 2 ^ k) := by
  unfold jshl
  refine pk_shlN _ k ?_ h
  have : ∀ k, k < 32 → ((nI k &&& 31).toBitVec.smod 32).toNat = k := by decide +kernel
  exact this k hk
theorem jb_min6 {W : Nat} (h : W ≤ 16) : (if nI W < 6 then nI W else 6) = nI (min 6 W) := by
  have : ∀ W, W ≤ 16 → (if nI W < 6 then nI W else 6) = nI (min 6 W) := by decide +kernel
  exact this W h
theorem jb_pow6 {W : Nat} (h : W ≤ 16) : jshl 1 (nI (min 6 W)) = nI (2 ^ min 6 W) := by
  have : ∀ W, W ≤ 16 → jshl 1 (nI (min 6 W)) = nI (2 ^ min 6 W) := by decide +kernel
  exact this W h
theorem jb_p64 {W : Nat} (h : W ≤ 16) : 2 ^ min 6 W ≤ 64 := by
  have : ∀ W, W ≤ 16 → 2 ^ min 6 W ≤ 64 := by decide +kernel
  exact this W h
/-- the words of a row of chunks -/
def wm (f : Nat → Int64) (w : Nat) : Bool := bL (f (w / 64)) (w % 64)
def smN (g : Nat → Nat) : Nat → Nat
  | 0 => 0
  | n + 1 => smN g n + g n
theorem smN_le {g : Nat → Nat} {b : Nat} (h : ∀ i, g i ≤ b) : ∀ n, smN g n ≤ b * n
  | 0 => Nat.le_refl _
  | n + 1 => by
    have := smN_le h n
    have := h n
    rw [smN, Nat.mul_succ]
    omega
theorem pop64_le (x : Int64) : pop64 x ≤ 64 := pu_c_le _ 64

theorem lw_no {i a b : Nat} (hx : ¬ i &&& a = b) (j : Nat) : (decide (j < i) && decide (j &&& a = b)) = (decide (j < i + 1) && decide (j &&& a = b)) := by
  by_cases h : j = i
  · subst h; simp [hx]
  · by_cases h2 : j < i
    · simp [h2, show j < i + 1 by omega]
    · simp [h2, show ¬ j < i + 1 by omega]
theorem lw_yes {i a b : Nat} (hi : i < 64) (hx : i &&& a = b) (j : Nat) : ((decide (j < i) && decide (j &&& a = b)) || decide (j = i % 64)) = (decide (j < i + 1) && decide (j &&& a = b)) := by
  rw [Nat.mod_eq_of_lt hi]
  by_cases h : j = i
  · subst h; simp [hx]
  · by_cases h2 : j < i
    · simp [h, h2, show j < i + 1 by omega]
    · simp [h, h2, show ¬ j < i + 1 by omega]

set_option maxHeartbeats 4000000 in
set_option maxRecDepth 100000 in
/-- lowWords -/
theorem c_S_lowWords (l : Launch) (D : va_G) (tc : Nat → ClassId) (o r W a b : Nat) (μ : sx_M) (hW : W ≤ 16) (ha : a < 2 ^ 31) (hb : b < 2 ^ 31) (ho : μ o = some (.inr (1, [.int (nI W), .ref r]))) : sx_Ml l yS_lowWords (Cond.code yS_lowWords cS_lowWords 7 (some .long) :: sxW) (rmL 1 0 0) D sxCl (sxT tc) sxE [.ref o, .int (nI a), .int (nI b)] μ (fun r μ' => μ = μ' ∧ ∀ i, bL r i = (decide (i < 2 ^ min 6 W) && decide (i &&& a = b))) 0 0 := by
  refine sx_oflQ (cc := cS_lowWords) (maxL := 7) (ret := (some .long)) (own := RS) sxE_ok (by decide) rfl rfl (Nat.le_of_ble_eq_true rfl) [some (.ref o), some (.int (nI a)), some (.int (nI b)), none, none, none, none] 4 rfl (fun p e s m below meth c A Q hQ C hr hlocks hnm => ?_)
  refine sx_lconst (v := 0) C dS_lowWords_0 (by decide) ?_
  refine sx_lstore_n (lv' := [some (.ref o), some (.int (nI a)), some (.int (nI b)), some (.long 0), none, none, none]) C dS_lowWords_1 rfl (by decide) rfl rfl ?_
  refine sx_iconst (v := 1) C dS_lowWords_2 (by decide) ?_
  refine sx_bipush (v := 6) C dS_lowWords_3 (by decide) ?_
  refine sx_aload_n C dS_lowWords_5 rfl rfl ?_
  refine sx_getf (Cn := RS) (T := TS) (N := 2) C dS_lowWords_6 (sx_in inS) rfl 0 (by decide) (sx_w C kF_S_9) (fun _ h => h) ho rfl ?_
  refine sx_calli C (sx_runS (As := [.int 6, .int (nI W)]) (rest := [.int 1]) C sx_all (c_JM_min l D tc 6 (nI W) μ) (sx_cwS C 2 kM_S_29 ks_JM_min kn_JM kc_JM_min rfl rfl (by decide +kernel) ⟨Nat.le_of_ble_eq_true rfl, Nat.le_of_ble_eq_true rfl⟩) rfl rfl (Nat.le_of_ble_eq_true rfl) dS_lowWords_9 ⟨Nat.le_of_ble_eq_true rfl, Nat.le_of_ble_eq_true rfl⟩) (fun r1 μ1 h1 => ?_)
  obtain ⟨hm, h1⟩ := h1
  have hm := hm.symm
  subst hm
  refine sx_eqi (nI (min 6 W)) (by rw [h1]; exact jb_min6 hW) ?_
  refine sx_ishl C dS_lowWords_12 ?_
  refine sx_eqi (nI (2 ^ min 6 W)) (jb_pow6 hW) ?_
  refine sx_istore (lv' := [some (.ref o), some (.int (nI a)), some (.int (nI b)), some (.long 0), none, some (.int (nI (2 ^ min 6 W))), none]) C dS_lowWords_13 (by decide) rfl rfl ?_
  refine sx_iconst (v := 0) C dS_lowWords_15 (by decide) ?_
  refine sx_eqi (nI 0) (rfl) ?_
  refine sx_istore (lv' := [some (.ref o), some (.int (nI a)), some (.int (nI b)), some (.long 0), none, some (.int (nI (2 ^ min 6 W))), some (.int (nI 0))]) C dS_lowWords_16 (by decide) rfl rfl ?_
  have L18 : ∀ (fu : Nat) (i : Nat) (low : Int64), 2 ^ min 6 W - i < fu → (i ≤ 2 ^ min 6 W) → (∀ j, bL low j = (decide (j < i) && decide (j &&& a = b))) → SW p l e (rmL 1 0 0) s m [.ref o, .int (nI a), .int (nI b)].toArray below meth c 7 D sxCl A 0 0 Q μ 18 [some (.ref o), some (.int (nI a)), some (.int (nI b)), some (.long low), none, some (.int (nI (2 ^ min 6 W))), some (.int (nI i))] [] := by
    intro fu
    induction fu with
    | zero => intro _ _ h; exact absurd h (Nat.not_lt_zero _)
    | succ fu ih =>
      intro i low hfu hi hinv
      have hP := jb_p64 hW
      refine sx_iload C dS_lowWords_18 rfl ?_
      refine sx_iload C dS_lowWords_20 rfl ?_
      refine sx_icmp_ge (tgt := 46) C dS_lowWords_22 (by decide) (fun c22 => ?_) (fun c22 => ?_)
      · have hc : 2 ^ min 6 W ≤ i := (nI_leI (by omega) (by omega)).mp c22
        obtain rfl : i = 2 ^ min 6 W := by omega
        refine sx_lload_n C dS_lowWords_46 rfl rfl ?_
        exact sx_lretQ C hQ dS_lowWords_47 hr hlocks (Nat.le_of_ble_eq_true rfl) (Nat.le_of_ble_eq_true rfl) (⟨rfl, hinv⟩)
      · have hc : ¬ 2 ^ min 6 W ≤ i := fun h => c22 ((nI_leI (by omega) (by omega)).mpr h)
        have hle : i &&& a ≤ i := Nat.and_le_left
        refine sx_iload C dS_lowWords_25 rfl ?_
        refine sx_iload_n C dS_lowWords_27 rfl rfl ?_
        refine sx_iand C dS_lowWords_28 ?_
        refine sx_eqi (nI (i &&& a)) (jb_andI i a) ?_
        refine sx_iload_n C dS_lowWords_29 rfl rfl ?_
        refine sx_icmp_ne (tgt := 40) C dS_lowWords_30 (by decide) (fun c30 => ?_) (fun c30 => ?_)
        · have hx : ¬ i &&& a = b := fun h => c30 (by rw [h])
          refine sx_iinc (v := nI (i + 1)) (lv' := [some (.ref o), some (.int (nI a)), some (.int (nI b)), some (.long low), none, some (.int (nI (2 ^ min 6 W))), some (.int (nI (i + 1)))]) C dS_lowWords_40 rfl (nI_1 i) (by decide) rfl rfl ?_
          refine sx_goto (tgt := 18) C dS_lowWords_43 (by decide) ?_
          exact ih (i + 1) low (by omega) (by omega) (fun j => by rw [hinv j]; exact lw_no hx j)
        · have hx : i &&& a = b := (nI_eq (by omega) hb).mp c30
          refine sx_lload_n C dS_lowWords_33 rfl rfl ?_
          refine sx_lconst (v := 1) C dS_lowWords_34 (by decide) ?_
          refine sx_iload C dS_lowWords_35 rfl ?_
          refine sx_lshl C dS_lowWords_37 ?_
          refine sx_lor C dS_lowWords_38 ?_
          refine sx_lstore_n (lv' := [some (.ref o), some (.int (nI a)), some (.int (nI b)), some (.long (low ||| (jshlL 1 (nI i)))), none, some (.int (nI (2 ^ min 6 W))), some (.int (nI i))]) C dS_lowWords_39 rfl (by decide) rfl rfl ?_
          refine sx_iinc (v := nI (i + 1)) (lv' := [some (.ref o), some (.int (nI a)), some (.int (nI b)), some (.long (low ||| (jshlL 1 (nI i)))), none, some (.int (nI (2 ^ min 6 W))), some (.int (nI (i + 1)))]) C dS_lowWords_40 rfl (nI_1 i) (by decide) rfl rfl ?_
          refine sx_goto (tgt := 18) C dS_lowWords_43 (by decide) ?_
          exact ih (i + 1) (low ||| (jshlL 1 (nI i))) (by omega) (by omega) (fun j => by rw [bL_or, hinv j, bL_bit (by omega)]; exact lw_yes (by omega) hx j)
  exact L18 _ 0 0 (Nat.lt_succ_self _) (Nat.zero_le _) (fun j => by rw [bL_0]; simp)

set_option maxHeartbeats 4000000 in
set_option maxRecDepth 100000 in
/-- has -/
theorem c_S_has (l : Launch) (D : va_G) (tc : Nat → ClassId) (o r W n w : Nat) (f : Nat → Int64) (μ : sx_M) (hn : n < 2 ^ 31) (hw : w < 2 ^ 31) (ho : μ o = some (.inr (1, [.int (nI W), .ref r]))) (hr9 : μ r = some (.inl (tc 1, n, .inr (.inl f)))) : sx_Mi l yS_has (Cond.code yS_has cS_has 3 (some .boolean) :: sxW) (rmL 0 0 0) D sxCl (sxT tc) sxE [.ref o, .int (nI w)] μ (fun r μ' => μ = μ' ∧ r = b2i (decide (w / 64 < n) && wm f w)) 0 0 := by
  refine sx_ofiQ (cc := cS_has) (maxL := 3) (ret := (some .boolean)) (own := RS) sxE_ok (by decide) rfl rfl (Nat.le_of_ble_eq_true rfl) [some (.ref o), some (.int (nI w)), none] 1 rfl (fun p e s m below meth c A Q hQ C hr hlocks hnm => ?_)
  refine sx_iload_n C dS_has_0 rfl rfl ?_
  refine sx_bipush (v := 6) C dS_has_1 (by decide) ?_
  refine sx_ishr C dS_has_3 ?_
  refine sx_eqi (nI (w / 64)) (jb_sshr (k := 6) hw (by decide)) ?_
  refine sx_istore_n (lv' := [some (.ref o), some (.int (nI w)), some (.int (nI (w / 64)))]) C dS_has_4 rfl (by decide) rfl rfl ?_
  refine sx_iload_n C dS_has_5 rfl rfl ?_
  refine sx_if_lt (tgt := 37) C dS_has_6 (by decide) (fun c6 => ?_) (fun c6 => ?_)
  · exact absurd c6 (nI_pos (by omega))
  · refine sx_iload_n C dS_has_9 rfl rfl ?_
    refine sx_aload_n C dS_has_10 rfl rfl ?_
    refine sx_getf (Cn := RS) (T := TS) (N := 2) C dS_has_11 (sx_in inS) rfl 1 (by decide) (sx_w C kF_S_15) (fun _ h => h) ho rfl ?_
    refine sx_alen (v := nI n) C dS_has_14 1 rfl hr9 rfl ?_
    refine sx_icmp_ge (tgt := 37) C dS_has_15 (by decide) (fun c15 => ?_) (fun c15 => ?_)
    · have hc : n ≤ w / 64 := (nI_leI hn (by omega)).mp c15
      refine sx_iconst (v := 0) C dS_has_37 (by decide) ?_
      exact sx_zretQ C hQ dS_has_38 hr (by simp) hlocks (Nat.le_of_ble_eq_true rfl) (Nat.le_of_ble_eq_true rfl) (⟨rfl, by first | (simp [b2i, wm, hb, show w / 64 < n by omega]; done) | (simp [b2i, show ¬ w / 64 < n by omega]; done)⟩)
    · have hc : ¬ n ≤ w / 64 := fun h => c15 ((nI_leI hn (by omega)).mpr h)
      refine sx_aload_n C dS_has_18 rfl rfl ?_
      refine sx_getf (Cn := RS) (T := TS) (N := 2) C dS_has_19 (sx_in inS) rfl 1 (by decide) (sx_w C kF_S_15) (fun _ h => h) ho rfl ?_
      refine sx_iload_n C dS_has_22 rfl rfl ?_
      refine sx_lald (j := w / 64) C dS_has_23 1 rfl hr9 (rfl) (by omega) (hn) ?_
      refine sx_lconst (v := 1) C dS_has_24 (by decide) ?_
      refine sx_iload_n C dS_has_25 rfl rfl ?_
      refine sx_lshl C dS_has_26 ?_
      refine sx_land C dS_has_27 ?_
      refine sx_lconst (v := 0) C dS_has_28 (by decide) ?_
      refine sx_lcmp C dS_has_29 ?_
      refine sx_if_eq (tgt := 37) C dS_has_30 (by decide) (fun c30 => ?_) (fun c30 => ?_)
      · have hb : bL (f (w / 64)) (w % 64) = false := (bL_test _ hw).mp ((lg_cmp_eq _ _).mp c30)
        refine sx_iconst (v := 0) C dS_has_37 (by decide) ?_
        exact sx_zretQ C hQ dS_has_38 hr (by simp) hlocks (Nat.le_of_ble_eq_true rfl) (Nat.le_of_ble_eq_true rfl) (⟨rfl, by first | (simp [b2i, wm, hb, show w / 64 < n by omega]; done) | (simp [b2i, show ¬ w / 64 < n by omega]; done)⟩)
      · have hb : bL (f (w / 64)) (w % 64) = true := by
          cases hz : bL (f (w / 64)) (w % 64)
          · exact absurd ((lg_cmp_eq _ _).mpr ((bL_test _ hw).mpr hz)) c30
          · rfl
        refine sx_iconst (v := 1) C dS_has_33 (by decide) ?_
        refine sx_goto (tgt := 38) C dS_has_34 (by decide) ?_
        exact sx_zretQ C hQ dS_has_38 hr (by simp) hlocks (Nat.le_of_ble_eq_true rfl) (Nat.le_of_ble_eq_true rfl) (⟨rfl, by first | (simp [b2i, wm, hb, show w / 64 < n by omega]; done) | (simp [b2i, show ¬ w / 64 < n by omega]; done)⟩)

def ws_out (f g : Nat → Int64) (k i : Nat) : Nat → Int64 := fun j => if j < i ∧ j < k then f j &&& (g j ^^^ (-1)) else f j
theorem ws_out_0 (f g : Nat → Int64) (k : Nat) : ws_out f g k 0 = f := funext fun j => by simp [ws_out]
theorem ws_out_s {f g : Nat → Int64} {k i : Nat} (h : i < k) : va_up (ws_out f g k i) i (ws_out f g k i i &&& (g i ^^^ (-1))) = ws_out f g k (i + 1) := by
  funext j
  unfold va_up
  by_cases e : j = i
  · subst e
    simp [ws_out, h]
  · rw [if_neg e]
    unfold ws_out
    by_cases h2 : j < i
    · simp [h2, show j < i + 1 by omega]
    · simp [h2, show ¬ j < i + 1 by omega]
theorem ws_out_n {f g : Nat → Int64} {k i n : Nat} (h1 : i ≤ n) (h : n ≤ i ∨ k ≤ i) : ∀ j, j < n → ws_out f g k i j = ws_out f g k n j := by
  intro j hj
  unfold ws_out
  by_cases h2 : j < k
  · by_cases h3 : j < i
    · simp [h2, h3, hj]
    · omega
  · simp [h2]

set_option maxHeartbeats 4000000 in
set_option maxRecDepth 100000 in
/-- takeOut -/
theorem c_S_takeOut (l : Launch) (D : va_G) (tc : Nat → ClassId) (o r W n q t W2 k : Nat) (f g : Nat → Int64) (μ : sx_M) (hn : n < 2 ^ 31) (hk : k < 2 ^ 31) (hne : t ≠ r) (ho : μ o = some (.inr (1, [.int (nI W), .ref r]))) (hr9 : μ r = some (.inl (tc 1, n, .inr (.inl f)))) (hq : μ q = some (.inr (1, [.int (nI W2), .ref t]))) (ht : μ t = some (.inl (tc 1, k, .inr (.inl g)))) : sx_Mv l yS_takeOut (Cond.code yS_takeOut cS_takeOut 3 none :: sxW) (rmL 0 0 0) D sxCl (sxT tc) sxE [.ref o, .ref q] μ (fun μ' => ∃ i, i ≤ n ∧ (n ≤ i ∨ k ≤ i) ∧ sx_up μ r (.inl (tc 1, n, .inr (.inl (ws_out f g k i)))) = μ') 0 0 := by
  have ho1 : ∀ i, sx_up μ r (.inl (tc 1, n, .inr (.inl (ws_out f g k i)))) o = some (.inr (1, [.int (nI W), .ref r])) := fun i => sx_upo (sx_ne ho hr9 (by simp)) ho
  have hq1 : ∀ i, sx_up μ r (.inl (tc 1, n, .inr (.inl (ws_out f g k i)))) q = some (.inr (1, [.int (nI W2), .ref t])) := fun i => sx_upo (sx_ne hq hr9 (by simp)) hq
  have ht1 : ∀ i, sx_up μ r (.inl (tc 1, n, .inr (.inl (ws_out f g k i)))) t = some (.inl (tc 1, k, .inr (.inl g))) := fun i => sx_upo hne ht
  refine sx_ofvQ (cc := cS_takeOut) (maxL := 3) (ret := none) (own := RS) sxE_ok (by decide) rfl rfl (Nat.le_of_ble_eq_true rfl) [some (.ref o), some (.ref q), none] 1 rfl (fun p e s m below meth c A Q hQ C hr hlocks hnm => ?_)
  refine sx_iconst (v := 0) C dS_takeOut_0 (by decide) ?_
  refine sx_eqi (nI 0) (rfl) ?_
  refine sx_istore_n (lv' := [some (.ref o), some (.ref q), some (.int (nI 0))]) C dS_takeOut_1 rfl (by decide) rfl rfl ?_
  refine sx_mu (sx_up μ r (.inl (tc 1, n, .inr (.inl (ws_out f g k 0))))) (by rw [ws_out_0, sx_up_id μ hr9]) ?_
  have L2 : ∀ (fu : Nat) (i : Nat), n - i < fu → (i ≤ n) → SW p l e (rmL 0 0 0) s m [.ref o, .ref q].toArray below meth c 3 D sxCl A 0 0 Q (sx_up μ r (.inl (tc 1, n, .inr (.inl (ws_out f g k i))))) 2 [some (.ref o), some (.ref q), some (.int (nI i))] [] := by
    intro fu
    induction fu with
    | zero => intro _ h; exact absurd h (Nat.not_lt_zero _)
    | succ fu ih =>
      intro i hfu hi
      refine sx_iload_n C dS_takeOut_2 rfl rfl ?_
      refine sx_aload_n C dS_takeOut_3 rfl rfl ?_
      refine sx_getf (Cn := RS) (T := TS) (N := 2) C dS_takeOut_4 (sx_in inS) rfl 1 (by decide) (sx_w C kF_S_15) (fun _ h => h) (ho1 i) rfl ?_
      refine sx_alen (v := nI n) C dS_takeOut_7 1 rfl (sx_up_s _ _ _) rfl ?_
      refine sx_icmp_ge (tgt := 45) C dS_takeOut_8 (by decide) (fun c8 => ?_) (fun c8 => ?_)
      · have hc : n ≤ i := (nI_leI (by omega) (by omega)).mp c8
        exact sx_vretQ C hQ dS_takeOut_45 hr hlocks (Nat.le_of_ble_eq_true rfl) (Nat.le_of_ble_eq_true rfl) (⟨i, hi, by first | exact Or.inl hc | exact Or.inr hc2, rfl⟩)
      · have hc : ¬ n ≤ i := fun h => c8 ((nI_leI (by omega) (by omega)).mpr h)
        refine sx_iload_n C dS_takeOut_11 rfl rfl ?_
        refine sx_aload_n C dS_takeOut_12 rfl rfl ?_
        refine sx_getf (Cn := RS) (T := TS) (N := 2) C dS_takeOut_13 (sx_in inS) rfl 1 (by decide) (sx_w C kF_S_15) (fun _ h => h) (hq1 i) rfl ?_
        refine sx_alen (v := nI k) C dS_takeOut_16 1 rfl (ht1 i) rfl ?_
        refine sx_icmp_ge (tgt := 45) C dS_takeOut_17 (by decide) (fun c17 => ?_) (fun c17 => ?_)
        · have hc2 : k ≤ i := (nI_leI (by omega) (by omega)).mp c17
          exact sx_vretQ C hQ dS_takeOut_45 hr hlocks (Nat.le_of_ble_eq_true rfl) (Nat.le_of_ble_eq_true rfl) (⟨i, hi, by first | exact Or.inl hc | exact Or.inr hc2, rfl⟩)
        · have hc2 : ¬ k ≤ i := fun h => c17 ((nI_leI (by omega) (by omega)).mpr h)
          refine sx_aload_n C dS_takeOut_20 rfl rfl ?_
          refine sx_getf (Cn := RS) (T := TS) (N := 2) C dS_takeOut_21 (sx_in inS) rfl 1 (by decide) (sx_w C kF_S_15) (fun _ h => h) (ho1 i) rfl ?_
          refine sx_iload_n C dS_takeOut_24 rfl rfl ?_
          refine sx_dup2_11 C dS_takeOut_25 rfl rfl ?_
          refine sx_lald (j := i) C dS_takeOut_26 1 rfl (sx_up_s _ _ _) (rfl) (by omega) (hn) ?_
          refine sx_aload_n C dS_takeOut_27 rfl rfl ?_
          refine sx_getf (Cn := RS) (T := TS) (N := 2) C dS_takeOut_28 (sx_in inS) rfl 1 (by decide) (sx_w C kF_S_15) (fun _ h => h) (hq1 i) rfl ?_
          refine sx_iload_n C dS_takeOut_31 rfl rfl ?_
          refine sx_lald (j := i) C dS_takeOut_32 1 rfl (ht1 i) (rfl) (by omega) (hk) ?_
          refine sx_ldc2 (v := (-1)) C dS_takeOut_33 (sx_w C kL_S_42) ?_
          refine sx_lxor C dS_takeOut_36 ?_
          refine sx_land C dS_takeOut_37 ?_
          refine sx_last (j := i) C dS_takeOut_38 1 rfl (sx_up_s _ _ _) (rfl) (by omega) (hn) ?_
          refine sx_mu (sx_up μ r (.inl (tc 1, n, .inr (.inl (ws_out f g k (i + 1)))))) (by rw [sx_up_up, ws_out_s (by omega)]) ?_
          refine sx_iinc (v := nI (i + 1)) (lv' := [some (.ref o), some (.ref q), some (.int (nI (i + 1)))]) C dS_takeOut_39 rfl (nI_1 i) (by decide) rfl rfl ?_
          refine sx_goto (tgt := 2) C dS_takeOut_42 (by decide) ?_
          exact ih (i + 1) (by omega) (by omega)
  exact L2 _ 0 (Nat.lt_succ_self _) (Nat.zero_le _)

set_option maxHeartbeats 4000000 in
set_option maxRecDepth 100000 in
/-- howManyCommon -/
theorem c_S_howManyCommon (l : Launch) (D : va_G) (tc : Nat → ClassId) (o r W n q t W2 k : Nat) (f g : Nat → Int64) (μ : sx_M) (hn : n < 2 ^ 20) (hk : k < 2 ^ 20) (ho : μ o = some (.inr (1, [.int (nI W), .ref r]))) (hr9 : μ r = some (.inl (tc 1, n, .inr (.inl f)))) (hq : μ q = some (.inr (1, [.int (nI W2), .ref t]))) (ht : μ t = some (.inl (tc 1, k, .inr (.inl g)))) : sx_Mi l yS_howManyCommon (Cond.code yS_howManyCommon cS_howManyCommon 4 (some .int) :: sxW) (rmL 1 0 0) D sxCl (sxT tc) sxE [.ref o, .ref q] μ (fun r μ' => μ = μ' ∧ r = nI (smN (fun c => pop64 (f c &&& g c)) (min n k))) 0 0 := by
  refine sx_ofiQ (cc := cS_howManyCommon) (maxL := 4) (ret := (some .int)) (own := RS) sxE_ok (by decide) rfl rfl (Nat.le_of_ble_eq_true rfl) [some (.ref o), some (.ref q), none, none] 2 rfl (fun p e s m below meth c A Q hQ C hr hlocks hnm => ?_)
  refine sx_iconst (v := 0) C dS_howManyCommon_0 (by decide) ?_
  refine sx_eqi (nI (smN (fun c => pop64 (f c &&& g c)) 0)) (rfl) ?_
  refine sx_istore_n (lv' := [some (.ref o), some (.ref q), some (.int (nI (smN (fun c => pop64 (f c &&& g c)) 0))), none]) C dS_howManyCommon_1 rfl (by decide) rfl rfl ?_
  refine sx_iconst (v := 0) C dS_howManyCommon_2 (by decide) ?_
  refine sx_eqi (nI 0) (rfl) ?_
  refine sx_istore_n (lv' := [some (.ref o), some (.ref q), some (.int (nI (smN (fun c => pop64 (f c &&& g c)) 0))), some (.int (nI 0))]) C dS_howManyCommon_3 rfl (by decide) rfl rfl ?_
  have L4 : ∀ (fu : Nat) (i : Nat), n - i < fu → (i ≤ n) → (i ≤ k) → SW p l e (rmL 1 0 0) s m [.ref o, .ref q].toArray below meth c 4 D sxCl A 0 0 Q μ 4 [some (.ref o), some (.ref q), some (.int (nI (smN (fun c => pop64 (f c &&& g c)) i))), some (.int (nI i))] [] := by
    intro fu
    induction fu with
    | zero => intro _ h; exact absurd h (Nat.not_lt_zero _)
    | succ fu ih =>
      intro i hfu hi hi2
      refine sx_iload_n C dS_howManyCommon_4 rfl rfl ?_
      refine sx_aload_n C dS_howManyCommon_5 rfl rfl ?_
      refine sx_getf (Cn := RS) (T := TS) (N := 2) C dS_howManyCommon_6 (sx_in inS) rfl 1 (by decide) (sx_w C kF_S_15) (fun _ h => h) ho rfl ?_
      refine sx_alen (v := nI n) C dS_howManyCommon_9 1 rfl hr9 rfl ?_
      refine sx_icmp_ge (tgt := 47) C dS_howManyCommon_10 (by decide) (fun c10 => ?_) (fun c10 => ?_)
      · have hc : n ≤ i := (nI_leI (by omega) (by omega)).mp c10
        refine sx_iload_n C dS_howManyCommon_47 rfl rfl ?_
        exact sx_iretQ C hQ dS_howManyCommon_48 hr hlocks (Nat.le_of_ble_eq_true rfl) (Nat.le_of_ble_eq_true rfl) (⟨rfl, by rw [show min n k = i by omega]⟩)
      · have hc : ¬ n ≤ i := fun h => c10 ((nI_leI (by omega) (by omega)).mpr h)
        refine sx_iload_n C dS_howManyCommon_13 rfl rfl ?_
        refine sx_aload_n C dS_howManyCommon_14 rfl rfl ?_
        refine sx_getf (Cn := RS) (T := TS) (N := 2) C dS_howManyCommon_15 (sx_in inS) rfl 1 (by decide) (sx_w C kF_S_15) (fun _ h => h) hq rfl ?_
        refine sx_alen (v := nI k) C dS_howManyCommon_18 1 rfl ht rfl ?_
        refine sx_icmp_ge (tgt := 47) C dS_howManyCommon_19 (by decide) (fun c19 => ?_) (fun c19 => ?_)
        · have hc2 : k ≤ i := (nI_leI (by omega) (by omega)).mp c19
          refine sx_iload_n C dS_howManyCommon_47 rfl rfl ?_
          exact sx_iretQ C hQ dS_howManyCommon_48 hr hlocks (Nat.le_of_ble_eq_true rfl) (Nat.le_of_ble_eq_true rfl) (⟨rfl, by rw [show min n k = i by omega]⟩)
        · have hc2 : ¬ k ≤ i := fun h => c19 ((nI_leI (by omega) (by omega)).mpr h)
          refine sx_iload_n C dS_howManyCommon_22 rfl rfl ?_
          refine sx_aload_n C dS_howManyCommon_23 rfl rfl ?_
          refine sx_getf (Cn := RS) (T := TS) (N := 2) C dS_howManyCommon_24 (sx_in inS) rfl 1 (by decide) (sx_w C kF_S_15) (fun _ h => h) ho rfl ?_
          refine sx_iload_n C dS_howManyCommon_27 rfl rfl ?_
          refine sx_lald (j := i) C dS_howManyCommon_28 1 rfl hr9 (rfl) (by omega) (by omega) ?_
          refine sx_aload_n C dS_howManyCommon_29 rfl rfl ?_
          refine sx_getf (Cn := RS) (T := TS) (N := 2) C dS_howManyCommon_30 (sx_in inS) rfl 1 (by decide) (sx_w C kF_S_15) (fun _ h => h) hq rfl ?_
          refine sx_iload_n C dS_howManyCommon_33 rfl rfl ?_
          refine sx_lald (j := i) C dS_howManyCommon_34 1 rfl ht (rfl) (by omega) (by omega) ?_
          refine sx_land C dS_howManyCommon_35 ?_
          refine sx_calli C (sx_runS (As := [.long ((f i) &&& (g i))]) (rest := [.int (nI (smN (fun c => pop64 (f c &&& g c)) i))]) C sx_all (c_JL_bitCount l D tc (f i &&& g i) μ) (sx_cwS C 1 kM_S_44 ks_JL_bitCount kn_JL kc_JL_bitCount rfl rfl (by decide +kernel) ⟨Nat.le_of_ble_eq_true rfl, Nat.le_of_ble_eq_true rfl⟩) rfl rfl (Nat.le_of_ble_eq_true rfl) dS_howManyCommon_36 ⟨Nat.le_of_ble_eq_true rfl, Nat.le_of_ble_eq_true rfl⟩) (fun r1 μ1 h1 => ?_)
          obtain ⟨hm, h1⟩ := h1
          have hm := hm.symm
          subst hm
          refine sx_eqi (nI (pop64 (f i &&& g i))) (h1) ?_
          refine sx_iadd C dS_howManyCommon_39 ?_
          refine sx_eqi (nI (smN (fun c => pop64 (f c &&& g c)) (i + 1))) (nI_add _ _) ?_
          refine sx_istore_n (lv' := [some (.ref o), some (.ref q), some (.int (nI (smN (fun c => pop64 (f c &&& g c)) (i + 1)))), some (.int (nI i))]) C dS_howManyCommon_40 rfl (by decide) rfl rfl ?_
          refine sx_iinc (v := nI (i + 1)) (lv' := [some (.ref o), some (.ref q), some (.int (nI (smN (fun c => pop64 (f c &&& g c)) (i + 1)))), some (.int (nI (i + 1)))]) C dS_howManyCommon_41 rfl (nI_1 i) (by decide) rfl rfl ?_
          refine sx_goto (tgt := 4) C dS_howManyCommon_44 (by decide) ?_
          exact ih (i + 1) (by omega) (by omega) (by omega)
  exact L4 _ 0 (Nat.lt_succ_self _) (Nat.zero_le _) (Nat.zero_le _)
