set_option maxHeartbeats 4000000 in
set_option maxRecDepth 100000 in
/-- pairs -/
theorem c_C_pairs (l : Launch) (D : va_G) (tc : Nat → ClassId) (ad : Nat → Nat → Nat) (ro : Nat → Nat) (ur : Nat) (W : Nat) (u : Nat) (ln : Nat → Nat) (rf : Nat → Nat → Int64) (sc : Nat → Nat → Int32) (uk : Bool) (ul : Nat) (uf : Nat → Int64) (sf : Nat → Int64) (ed : Nat → Nat → Nat) (μ : sx_M) (hS : CS tc μ ad ro ur W u ln rf sc uk ul uf sf ed) (S : Nat → Nat → Bool) (ed0 : Nat → Nat → Nat) (hA : AW W u S ed0) (hP : CP W u S ed0 ln rf sc uk ul uf ed) : sx_Mi l yC_pairs (Cond.code yC_pairs cC_pairs 4 (some .int) :: sxW) (rmL 0 0 0) D sxCl (sxT tc) sxE [.ref (ad 0 0)] μ (fun r μ' => r = nI (prT (mt W S) u u) ∧ CInv tc μ' (ad 0 0) W u S ed0) 0 0 := by
  have hW := hA.1.2
  have hu := hA.2.1
  refine sx_ofiQ (cc := cC_pairs) (maxL := 4) (ret := (some .int)) (own := RC) sxE_ok (by decide) rfl rfl (Nat.le_of_ble_eq_true rfl) [some (.ref (ad 0 0)), none, none, none] 3 rfl (fun p e s m below meth c A Q hQ C hr hlocks hnm => ?_)
  refine sx_iconst (v := 0) C dC_pairs_0 (by decide) ?_
  refine sx_eqi (nI 0) (rfl) ?_
  refine sx_istore_n (lv' := [some (.ref (ad 0 0)), some (.int (nI 0)), none, none]) C dC_pairs_1 rfl (by decide) rfl rfl ?_
  refine sx_iconst (v := 0) C dC_pairs_2 (by decide) ?_
  refine sx_eqi (nI 0) (rfl) ?_
  refine sx_istore_n (lv' := [some (.ref (ad 0 0)), some (.int (nI 0)), some (.int (nI 0)), none]) C dC_pairs_3 rfl (by decide) rfl rfl ?_
  have L4 : ∀ (fu : Nat) (a : Nat), u - a < fu → (a ≤ u) → SW p l e (rmL 0 0 0) s m [.ref (ad 0 0)].toArray below meth c 4 D sxCl A 0 0 Q μ 4 [some (.ref (ad 0 0)), some (.int (nI (prT (mt W S) u a))), some (.int (nI a)), none] [] := by
    intro fu
    induction fu with
    | zero => intro _ h; exact absurd h (Nat.not_lt_zero _)
    | succ fu ih =>
      intro a hfu ha
      refine sx_iload_n C dC_pairs_4 rfl rfl ?_
      refine sx_aload_n C dC_pairs_5 rfl rfl ?_
      refine sx_getf (Cn := RC) (T := TC) (N := 7) C dC_pairs_6 (sx_in inC) rfl 2 (by decide) (sx_w C kF_C_28) (fun _ h => h) (CS_f0 hS) rfl ?_
      refine sx_icmp_ge (tgt := 50) C dC_pairs_9 (by decide) (fun c9 => ?_) (fun c9 => ?_)
      · have hc : u ≤ a := (nI_leI (by omega) (by omega)).mp c9
        obtain rfl : a = u := by omega
        refine sx_iload_n C dC_pairs_50 rfl rfl ?_
        exact sx_iretQ C hQ dC_pairs_51 hr hlocks (Nat.le_of_ble_eq_true rfl) (Nat.le_of_ble_eq_true rfl) (⟨rfl, CInv_of hA hS hP⟩)
      · have hc : ¬ u ≤ a := fun h => c9 ((nI_leI (by omega) (by omega)).mpr h)
        have ha4 : a < 40 := by omega
        refine sx_iload_n C dC_pairs_12 rfl rfl ?_
        refine sx_iconst (v := 1) C dC_pairs_13 (by decide) ?_
        refine sx_iadd C dC_pairs_14 ?_
        refine sx_eqi (nI (a + 1)) (nI_1 a) ?_
        refine sx_istore_n (lv' := [some (.ref (ad 0 0)), some (.int (nI (prT (mt W S) u a))), some (.int (nI a)), some (.int (nI (a + 1)))]) C dC_pairs_15 rfl (by decide) rfl rfl ?_
        refine sx_lvEq [some (.ref (ad 0 0)), some (.int (nI (prN (mt W S) u a (a + 1)))), some (.int (nI a)), some (.int (nI (a + 1)))] (by rw [show prN (mt W S) u a (a + 1) = prT (mt W S) u a from pn_i]) ?_
        have L16 : ∀ (fu2 : Nat) (b : Nat), u - b < fu2 → (a + 1 ≤ b) → (b ≤ u) → SW p l e (rmL 0 0 0) s m [.ref (ad 0 0)].toArray below meth c 4 D sxCl A 0 0 Q μ 16 [some (.ref (ad 0 0)), some (.int (nI (prN (mt W S) u a b))), some (.int (nI a)), some (.int (nI b))] [] := by
          intro fu2
          induction fu2 with
          | zero => intro _ h; exact absurd h (Nat.not_lt_zero _)
          | succ fu2 ih2 =>
            intro b hfu2 hb1 hb2
            refine sx_iload_n C dC_pairs_16 rfl rfl ?_
            refine sx_aload_n C dC_pairs_17 rfl rfl ?_
            refine sx_getf (Cn := RC) (T := TC) (N := 7) C dC_pairs_18 (sx_in inC) rfl 2 (by decide) (sx_w C kF_C_28) (fun _ h => h) (CS_f0 hS) rfl ?_
            refine sx_icmp_ge (tgt := 44) C dC_pairs_21 (by decide) (fun c21 => ?_) (fun c21 => ?_)
            · have hc : u ≤ b := (nI_leI (by omega) (by omega)).mp c21
              have hbu : b = u := by omega
              refine sx_weak (lv' := [some (.ref (ad 0 0)), some (.int (nI (prN (mt W S) u a b))), some (.int (nI a)), none]) (And.intro rfl (And.intro rfl (And.intro rfl trivial))) ?_
              refine sx_iinc (v := nI (a + 1)) (lv' := [some (.ref (ad 0 0)), some (.int (nI (prN (mt W S) u a b))), some (.int (nI (a + 1))), none]) C dC_pairs_44 rfl (nI_1 a) (by decide) rfl rfl ?_
              refine sx_goto (tgt := 4) C dC_pairs_47 (by decide) ?_
              have z := ih (a + 1) (by omega) (by omega)
              rw [show prT (mt W S) u (a + 1) = prN (mt W S) u a b from by rw [hbu]; rfl] at z
              exact z
            · have hc : ¬ u ≤ b := fun h => c21 ((nI_leI (by omega) (by omega)).mpr h)
              have hb4 : b < 40 := by omega
              refine sx_aload_n C dC_pairs_24 rfl rfl ?_
              refine sx_getf (Cn := RC) (T := TC) (N := 7) C dC_pairs_25 (sx_in inC) rfl 3 (by decide) (sx_w C kF_C_33) (fun _ h => h) (CS_f0 hS) rfl ?_
              refine sx_iload_n C dC_pairs_28 rfl rfl ?_
              refine sx_aaldA (j := a) (b := (ad 6 a)) C dC_pairs_29 3 rfl (CS_f5 hS) (rfl) (ha4) (Nat.le_of_ble_eq_true rfl) (if_pos (ha4)) ?_
              refine sx_iload_n C dC_pairs_30 rfl rfl ?_
              refine sx_iald (j := b) C dC_pairs_31 0 rfl (CS_f6 hS ha4) (rfl) (hb4) (Nat.le_of_ble_eq_true rfl) ?_
              refine sx_if_le (tgt := 38) C dC_pairs_32 (by decide) (fun c32 => ?_) (fun c32 => ?_)
              · have hs : prN (mt W S) u a (b + 1) = prN (mt W S) u a b := pn_0 (by rw [mt_at (u := u) hb1]; exact decide_eq_false (fun z => i_le0.mp c32 ((cp_pos hA hP (by omega) (by omega)).mpr z)))
                refine sx_iinc (v := nI (b + 1)) (lv' := [some (.ref (ad 0 0)), some (.int (nI (prN (mt W S) u a b))), some (.int (nI a)), some (.int (nI (b + 1)))]) C dC_pairs_38 rfl (nI_1 b) (by decide) rfl rfl ?_
                refine sx_goto (tgt := 16) C dC_pairs_41 (by decide) ?_
                have z := ih2 (b + 1) (by omega) (by omega) (by omega)
                rw [hs] at z
                exact z
              · have hs : prN (mt W S) u a (b + 1) = prN (mt W S) u a b + 1 := pn_1 (by rw [mt_at (u := u) hb1]; exact decide_eq_true ((cp_pos hA hP (by omega) (by omega)).mp (Classical.byContradiction fun z => c32 (i_le0.mpr z))))
                refine sx_iinc (v := nI (prN (mt W S) u a b + 1)) (lv' := [some (.ref (ad 0 0)), some (.int (nI (prN (mt W S) u a b + 1))), some (.int (nI a)), some (.int (nI b))]) C dC_pairs_35 rfl (nI_1 _) (by decide) rfl rfl ?_
                refine sx_iinc (v := nI (b + 1)) (lv' := [some (.ref (ad 0 0)), some (.int (nI (prN (mt W S) u a b + 1))), some (.int (nI a)), some (.int (nI (b + 1)))]) C dC_pairs_38 rfl (nI_1 b) (by decide) rfl rfl ?_
                refine sx_goto (tgt := 16) C dC_pairs_41 (by decide) ?_
                have z := ih2 (b + 1) (by omega) (by omega) (by omega)
                rw [hs] at z
                exact z
        exact L16 _ (a + 1) (Nat.lt_succ_self _) (Nat.le_refl _) (by omega)
  exact L4 _ 0 (Nat.lt_succ_self _) (Nat.zero_le _)

set_option maxHeartbeats 4000000 in
set_option maxRecDepth 100000 in
/-- pair -/
theorem c_C_pair (l : Launch) (D : va_G) (tc : Nat → ClassId) (hl : l.stackTraces = false) (x y : Int32) (ad : Nat → Nat → Nat) (ro : Nat → Nat) (ur : Nat) (W : Nat) (u : Nat) (ln : Nat → Nat) (rf : Nat → Nat → Int64) (sc : Nat → Nat → Int32) (uk : Bool) (ul : Nat) (uf : Nat → Int64) (sf : Nat → Int64) (ed : Nat → Nat → Nat) (μ : sx_M) (hS : CS tc μ ad ro ur W u ln rf sc uk ul uf sf ed) (S : Nat → Nat → Bool) (ed0 : Nat → Nat → Nat) (hA : AW W u S ed0) (hP : CP W u S ed0 ln rf sc uk ul uf ed) : sx_Xi l yC_pair (Cond.code yC_pair cC_pair 6 (some .int) :: sxW) (rmL 7 1 6) D sxCl (sxT tc) sxE [.ref (ad 0 0), .int x, .int y] μ (fun r μ' => (∃ k n a b, x = nI k ∧ k < 2 ^ 31 ∧ y = nI n ∧ n ≤ 3 ∧ isPr W u S k a b ∧ ((n = 0 ∧ r = nI a) ∨ (n = 1 ∧ r = nI b) ∨ (n = 2 ∧ ∃ w, r = nI w ∧ lwP S a b w) ∨ (n = 3 ∧ r = nI (cm W S a b)))) ∧ CInv tc μ' (ad 0 0) W u S ed0) (fun Ex μ' => CInv tc μ' (ad 0 0) W u S ed0 ∧ Ex = ioeN ∧ ∀ k n a b, x = nI k → k < 2 ^ 31 → y = nI n → n ≤ 3 → ¬ isPr W u S k a b) 1 6 := by
  have hW := hA.1.2
  have hu := hA.2.1
  refine sx_ofXiQ (cc := cC_pair) (maxL := 6) (ret := (some .int)) (own := RC) sxE_ok (by decide) rfl rfl (Nat.le_of_ble_eq_true rfl) [some (.ref (ad 0 0)), some (.int x), some (.int y), none, none, none] 3 rfl (fun p e s m below meth c A Q hQ C hr hlocks hnm hno => ?_)
  refine sx_iload_n C dC_pair_0 rfl rfl ?_
  refine sx_if_lt (tgt := 13) C dC_pair_1 (by decide) (fun c1 => ?_) (fun c1 => ?_)
  · have hbad : ∀ k n a b, x = nI k → k < 2 ^ 31 → y = nI n → n ≤ 3 → ¬ isPr W u S k a b := fun k n a b hk h31 _ _ => absurd c1 (by rw [hk]; exact nI_pos h31)
    exact sx_thr_ioe (text := "no such pair or which") hl C hQ dC_pair_13 dC_pair_16 dC_pair_17 dC_pair_19 dC_pair_22 (by simp [sxStr]) hno hlocks (Nat.le_of_ble_eq_true rfl) (Nat.le_of_ble_eq_true rfl) (Nat.le_of_ble_eq_true rfl) (Nat.le_of_ble_eq_true rfl) (Nat.le_of_ble_eq_true rfl) (Nat.le_of_ble_eq_true rfl) (⟨CInv_of hA hS hP, rfl, hbad⟩)
  · obtain ⟨k9, hk9, hxk⟩ := ab_nat c1
    refine sx_iload_n C dC_pair_4 rfl rfl ?_
    refine sx_if_lt (tgt := 13) C dC_pair_5 (by decide) (fun c5 => ?_) (fun c5 => ?_)
    · have hbad : ∀ k n a b, x = nI k → k < 2 ^ 31 → y = nI n → n ≤ 3 → ¬ isPr W u S k a b := fun k n a b _ _ hy hn => absurd c5 (by rw [hy]; exact nI_pos (by omega))
      exact sx_thr_ioe (text := "no such pair or which") hl C hQ dC_pair_13 dC_pair_16 dC_pair_17 dC_pair_19 dC_pair_22 (by simp [sxStr]) hno hlocks (Nat.le_of_ble_eq_true rfl) (Nat.le_of_ble_eq_true rfl) (Nat.le_of_ble_eq_true rfl) (Nat.le_of_ble_eq_true rfl) (Nat.le_of_ble_eq_true rfl) (Nat.le_of_ble_eq_true rfl) (⟨CInv_of hA hS hP, rfl, hbad⟩)
    · refine sx_iload_n C dC_pair_8 rfl rfl ?_
      refine sx_iconst (v := 3) C dC_pair_9 (by decide) ?_
      refine sx_icmp_le (tgt := 23) C dC_pair_10 (by decide) (fun c10 => ?_) (fun c10 => ?_)
      · obtain ⟨n9, hn9, hyn⟩ := ab_le (n := 3) (by omega) c5 (fun z => (by rw [Int32.le_iff_toInt_le] at c10; rw [Int32.lt_iff_toInt_lt] at z; have e5 : (nI 3).toInt = (3 : Int32).toInt := rfl; omega))
        refine sx_iload_n C dC_pair_23 rfl rfl ?_
        refine sx_eqi (nI (k9 - prT (mt W S) u 0)) (hxk) ?_
        refine sx_istore_n (lv' := [some (.ref (ad 0 0)), some (.int x), some (.int y), some (.int (nI (k9 - prT (mt W S) u 0))), none, none]) C dC_pair_24 rfl (by decide) rfl rfl ?_
        refine sx_iconst (v := 0) C dC_pair_25 (by decide) ?_
        refine sx_eqi (nI 0) (rfl) ?_
        refine sx_istore (lv' := [some (.ref (ad 0 0)), some (.int x), some (.int y), some (.int (nI (k9 - prT (mt W S) u 0))), some (.int (nI 0)), none]) C dC_pair_26 (by decide) rfl rfl ?_
        have L28 : ∀ (fu : Nat) (a : Nat), u - a < fu → (a ≤ u) → (prT (mt W S) u a ≤ k9) → SW p l e (rmL 7 1 6) s m [.ref (ad 0 0), .int x, .int y].toArray below meth c 6 D sxCl A 0 0 Q μ 28 [some (.ref (ad 0 0)), some (.int x), some (.int y), some (.int (nI (k9 - prT (mt W S) u a))), some (.int (nI a)), none] [] := by
          intro fu
          induction fu with
          | zero => intro _ h; exact absurd h (Nat.not_lt_zero _)
          | succ fu ih =>
            intro a hfu ha ha3
            refine sx_iload C dC_pair_28 rfl ?_
            refine sx_aload_n C dC_pair_30 rfl rfl ?_
            refine sx_getf (Cn := RC) (T := TC) (N := 7) C dC_pair_31 (sx_in inC) rfl 2 (by decide) (sx_w C kF_C_28) (fun _ h => h) (CS_f0 hS) rfl ?_
            refine sx_icmp_ge (tgt := 94) C dC_pair_34 (by decide) (fun c34 => ?_) (fun c34 => ?_)
            · have hc : u ≤ a := (nI_leI (by omega) (by omega)).mp c34
              have hbad : ∀ k n a b, x = nI k → k < 2 ^ 31 → y = nI n → n ≤ 3 → ¬ isPr W u S k a b := by
                intro k n a2 b2 hk h31 _ _ hp
                have e1 := pr_end hp
                have e2 : k = k9 := (ab_nI h31 hk9).mp (hk.symm.trans hxk)
                have e9 : a = u := by omega
                rw [e9] at ha3
                omega
              exact sx_thr_ioe (text := "no such pair") hl C hQ dC_pair_94 dC_pair_97 dC_pair_98 dC_pair_100 dC_pair_103 (by simp [sxStr]) hno hlocks (Nat.le_of_ble_eq_true rfl) (Nat.le_of_ble_eq_true rfl) (Nat.le_of_ble_eq_true rfl) (Nat.le_of_ble_eq_true rfl) (Nat.le_of_ble_eq_true rfl) (Nat.le_of_ble_eq_true rfl) (⟨CInv_of hA hS hP, rfl, hbad⟩)
            · have hc : ¬ u ≤ a := fun h => c34 ((nI_leI (by omega) (by omega)).mpr h)
              have ha4 : a < 40 := by omega
              refine sx_iload C dC_pair_37 rfl ?_
              refine sx_iconst (v := 1) C dC_pair_39 (by decide) ?_
              refine sx_iadd C dC_pair_40 ?_
              refine sx_eqi (nI (a + 1)) (nI_1 a) ?_
              refine sx_istore (lv' := [some (.ref (ad 0 0)), some (.int x), some (.int y), some (.int (nI (k9 - prT (mt W S) u a))), some (.int (nI a)), some (.int (nI (a + 1)))]) C dC_pair_41 (by decide) rfl rfl ?_
              refine sx_lvEq [some (.ref (ad 0 0)), some (.int x), some (.int y), some (.int (nI (k9 - prN (mt W S) u a (a + 1)))), some (.int (nI a)), some (.int (nI (a + 1)))] (by rw [show prN (mt W S) u a (a + 1) = prT (mt W S) u a from pn_i]) ?_
              have L43 : ∀ (fu2 : Nat) (b : Nat), u - b < fu2 → (a + 1 ≤ b) → (b ≤ u) → (prN (mt W S) u a b ≤ k9) → SW p l e (rmL 7 1 6) s m [.ref (ad 0 0), .int x, .int y].toArray below meth c 6 D sxCl A 0 0 Q μ 43 [some (.ref (ad 0 0)), some (.int x), some (.int y), some (.int (nI (k9 - prN (mt W S) u a b))), some (.int (nI a)), some (.int (nI b))] [] := by
                intro fu2
                induction fu2 with
                | zero => intro _ h; exact absurd h (Nat.not_lt_zero _)
                | succ fu2 ih2 =>
                  intro b hfu2 hb1 hb2 hb3
                  refine sx_iload C dC_pair_43 rfl ?_
                  refine sx_aload_n C dC_pair_45 rfl rfl ?_
                  refine sx_getf (Cn := RC) (T := TC) (N := 7) C dC_pair_46 (sx_in inC) rfl 2 (by decide) (sx_w C kF_C_28) (fun _ h => h) (CS_f0 hS) rfl ?_
                  refine sx_icmp_ge (tgt := 88) C dC_pair_49 (by decide) (fun c49 => ?_) (fun c49 => ?_)
                  · have hc : u ≤ b := (nI_leI (by omega) (by omega)).mp c49
                    have hbu : b = u := by omega
                    refine sx_weak (lv' := [some (.ref (ad 0 0)), some (.int x), some (.int y), some (.int (nI (k9 - prN (mt W S) u a b))), some (.int (nI a)), none]) (And.intro rfl (And.intro rfl (And.intro rfl (And.intro rfl (And.intro rfl trivial))))) ?_
                    refine sx_iinc (v := nI (a + 1)) (lv' := [some (.ref (ad 0 0)), some (.int x), some (.int y), some (.int (nI (k9 - prN (mt W S) u a b))), some (.int (nI (a + 1))), none]) C dC_pair_88 rfl (nI_1 a) (by decide) rfl rfl ?_
                    refine sx_goto (tgt := 28) C dC_pair_91 (by decide) ?_
                    have z := ih (a + 1) (by omega) (by omega) (by have := pr_s (mt W S) u a; unfold prN at hb3; rw [hbu] at hb3; omega)
                    rw [show prT (mt W S) u (a + 1) = prN (mt W S) u a b from by rw [hbu]; rfl] at z
                    exact z
                  · have hc : ¬ u ≤ b := fun h => c49 ((nI_leI (by omega) (by omega)).mpr h)
                    have hb4 : b < 40 := by omega
                    refine sx_aload_n C dC_pair_52 rfl rfl ?_
                    refine sx_getf (Cn := RC) (T := TC) (N := 7) C dC_pair_53 (sx_in inC) rfl 3 (by decide) (sx_w C kF_C_33) (fun _ h => h) (CS_f0 hS) rfl ?_
                    refine sx_iload C dC_pair_56 rfl ?_
                    refine sx_aaldA (j := a) (b := (ad 6 a)) C dC_pair_58 3 rfl (CS_f5 hS) (rfl) (ha4) (Nat.le_of_ble_eq_true rfl) (if_pos (ha4)) ?_
                    refine sx_iload C dC_pair_59 rfl ?_
                    refine sx_iald (j := b) C dC_pair_61 0 rfl (CS_f6 hS ha4) (rfl) (hb4) (Nat.le_of_ble_eq_true rfl) ?_
                    refine sx_if_le (tgt := 82) C dC_pair_62 (by decide) (fun c62 => ?_) (fun c62 => ?_)
                    · have hs : prN (mt W S) u a (b + 1) = prN (mt W S) u a b := pn_0 (by rw [mt_at (u := u) hb1]; exact decide_eq_false (fun z => i_le0.mp c62 ((cp_pos hA hP (by omega) (by omega)).mpr z)))
                      refine sx_iinc (v := nI (b + 1)) (lv' := [some (.ref (ad 0 0)), some (.int x), some (.int y), some (.int (nI (k9 - prN (mt W S) u a b))), some (.int (nI a)), some (.int (nI (b + 1)))]) C dC_pair_82 rfl (nI_1 b) (by decide) rfl rfl ?_
                      refine sx_goto (tgt := 43) C dC_pair_85 (by decide) ?_
                      have z := ih2 (b + 1) (by omega) (by omega) (by omega) (by omega)
                      rw [hs] at z
                      exact z
                    · have hcm := (cp_pos hA hP (by omega) (by omega)).mp (Classical.byContradiction fun z => c62 (i_le0.mpr z))
                      have hmt : mt W S a b = true := by rw [mt_at (u := u) hb1]; exact decide_eq_true hcm
                      have hs : prN (mt W S) u a (b + 1) = prN (mt W S) u a b + 1 := pn_1 hmt
                      refine sx_iload_n C dC_pair_65 rfl rfl ?_
                      refine sx_if_ne (tgt := 79) C dC_pair_66 (by decide) (fun c66 => ?_) (fun c66 => ?_)
                      · have hk8 : prN (mt W S) u a b < k9 := by
                          rcases Nat.lt_or_ge (prN (mt W S) u a b) k9 with z | z
                          · exact z
                          · exact absurd (show nI (k9 - prN (mt W S) u a b) = 0 from by rw [show k9 - prN (mt W S) u a b = 0 by omega]; rfl) c66
                        refine sx_iinc (v := nI (k9 - (prN (mt W S) u a b + 1))) (lv' := [some (.ref (ad 0 0)), some (.int x), some (.int y), some (.int (nI (k9 - (prN (mt W S) u a b + 1)))), some (.int (nI a)), some (.int (nI b))]) C dC_pair_79 rfl (by have := pk_m1 (k9 - (prN (mt W S) u a b + 1)); rw [show k9 - (prN (mt W S) u a b + 1) + 1 = k9 - prN (mt W S) u a b by omega] at this; exact this) (by decide) rfl rfl ?_
                        refine sx_iinc (v := nI (b + 1)) (lv' := [some (.ref (ad 0 0)), some (.int x), some (.int y), some (.int (nI (k9 - (prN (mt W S) u a b + 1)))), some (.int (nI a)), some (.int (nI (b + 1)))]) C dC_pair_82 rfl (nI_1 b) (by decide) rfl rfl ?_
                        refine sx_goto (tgt := 43) C dC_pair_85 (by decide) ?_
                        have z := ih2 (b + 1) (by omega) (by omega) (by omega) (by omega)
                        rw [hs] at z
                        exact z
                      · have hk8 : prN (mt W S) u a b = k9 := by
                          have := (ab_nI (b := 0) (by omega) (by decide)).mp c66
                          omega
                        refine sx_aload_n C dC_pair_69 rfl rfl ?_
                        refine sx_iload C dC_pair_70 rfl ?_
                        refine sx_iload C dC_pair_72 rfl ?_
                        refine sx_iload_n C dC_pair_74 rfl rfl ?_
                        refine sx_eqi (nI n9) (hyn) ?_
                        refine sx_calli C (sx_runV (As := [.int (nI a), .int (nI b), .int (nI n9)]) (rest := []) C sx_all (c_C_ofPair l D tc a b n9 ad ro ur W u ln rf sc uk ul uf sf ed μ hS S ed0 hA hP (by omega) (by omega) hn9 hcm) (ci := 2) rfl (CS_f0 hS) (sx_cwV C 3 kM_C_119 ki_C_ofPair ke_C_ofPair kn_C kc_C_ofPair rfl rfl (by decide +kernel) ⟨Nat.le_of_ble_eq_true rfl, Nat.le_of_ble_eq_true rfl⟩) rfl rfl (Nat.le_of_ble_eq_true rfl) dC_pair_75 ⟨Nat.le_of_ble_eq_true rfl, Nat.le_of_ble_eq_true rfl⟩) (fun q1 μ2 h2 => ?_)
                        obtain ⟨hm, h2⟩ := h2
                        subst hm
                        exact sx_iretQX C hQ dC_pair_78 hr hlocks (Nat.le_of_ble_eq_true rfl) (Nat.le_of_ble_eq_true rfl) (⟨⟨k9, n9, a, b, hxk, hk9, hyn, hn9, ⟨by omega, hmt, hk8⟩, h2⟩, CInv_of hA hS hP⟩)
              exact L43 _ (a + 1) (Nat.lt_succ_self _) (Nat.le_refl _) (by omega) (by rw [show prN (mt W S) u a (a + 1) = prT (mt W S) u a from pn_i]; exact ha3)
        exact L28 _ 0 (Nat.lt_succ_self _) (Nat.zero_le _) (Nat.zero_le _)
      · have hbad : ∀ k n a b, x = nI k → k < 2 ^ 31 → y = nI n → n ≤ 3 → ¬ isPr W u S k a b := fun k n a b _ _ hy hn => absurd (show y ≤ 3 from by rw [hy]; exact nI_le (b := 3) hn (by omega)) c10
        exact sx_thr_ioe (text := "no such pair or which") hl C hQ dC_pair_13 dC_pair_16 dC_pair_17 dC_pair_19 dC_pair_22 (by simp [sxStr]) hno hlocks (Nat.le_of_ble_eq_true rfl) (Nat.le_of_ble_eq_true rfl) (Nat.le_of_ble_eq_true rfl) (Nat.le_of_ble_eq_true rfl) (Nat.le_of_ble_eq_true rfl) (Nat.le_of_ble_eq_true rfl) (⟨CInv_of hA hS hP, rfl, hbad⟩)

set_option maxHeartbeats 4000000 in
set_option maxRecDepth 100000 in
/-- clashes -/
theorem c_C_clashes (l : Launch) (D : va_G) (tc : Nat → ClassId) (hl : l.stackTraces = false) (x : Int32) (ad : Nat → Nat → Nat) (ro : Nat → Nat) (ur : Nat) (W : Nat) (u : Nat) (ln : Nat → Nat) (rf : Nat → Nat → Int64) (sc : Nat → Nat → Int32) (uk : Bool) (ul : Nat) (uf : Nat → Int64) (sf : Nat → Int64) (ed : Nat → Nat → Nat) (μ : sx_M) (hS : CS tc μ ad ro ur W u ln rf sc uk ul uf sf ed) (S : Nat → Nat → Bool) (ed0 : Nat → Nat → Nat) (hA : AW W u S ed0) (hP : CP W u S ed0 ln rf sc uk ul uf ed) : sx_Xi l yC_clashes (Cond.code yC_clashes cC_clashes 5 (some .int) :: sxW) (rmL 7 1 6) D sxCl (sxT tc) sxE [.ref (ad 0 0), .int x] μ (fun r μ' => ((∃ n, n < 256 ∧ x = nI n) ∧ r = nI (clN W u S ed0 x)) ∧ CInv tc μ' (ad 0 0) W u S ed0) (fun Ex μ' => CInv tc μ' (ad 0 0) W u S ed0 ∧ Ex = iaeN ∧ ∀ j, j < 256 → x ≠ nI j) 1 6 := by
  have hW := hA.1.2
  have hu := hA.2.1
  refine sx_ofXiQ (cc := cC_clashes) (maxL := 5) (ret := (some .int)) (own := RC) sxE_ok (by decide) rfl rfl (Nat.le_of_ble_eq_true rfl) [some (.ref (ad 0 0)), some (.int x), none, none, none] 3 rfl (fun p e s m below meth c A Q hQ C hr hlocks hnm hno => ?_)
  refine sx_aload_n C dC_clashes_0 rfl rfl ?_
  refine sx_iload_n C dC_clashes_1 rfl rfl ?_
  refine sx_callXv C (sx_runXV (As := [.int x]) (rest := []) C sx_all (c_C_requireVariants l D tc hl (ad 0 0) x μ) (ci := 2) rfl (CS_f0 hS) (sx_cwV C 1 kM_C_108 ki_C_requireVariants ke_C_requireVariants kn_C kc_C_requireVariants rfl rfl (by decide +kernel) ⟨Nat.le_of_ble_eq_true rfl, Nat.le_of_ble_eq_true rfl⟩) rfl rfl (Nat.le_of_ble_eq_true rfl) dC_clashes_2 ⟨Nat.le_of_ble_eq_true rfl, Nat.le_of_ble_eq_true rfl⟩) (fun Ex μx hx => ?_) (fun μ2 h2 => ?_)
  · exact sx_passQ C hQ hno hlocks (Nat.le_of_ble_eq_true rfl) (Nat.le_of_ble_eq_true rfl) (⟨hx.1 ▸ CInv_of hA hS hP, hx.2⟩)
  · obtain ⟨hm, hxn⟩ := h2
    subst hm
    refine sx_iconst (v := 0) C dC_clashes_5 (by decide) ?_
    refine sx_eqi (nI (prT (clM W S ed0 x) u 0)) (rfl) ?_
    refine sx_istore_n (lv' := [some (.ref (ad 0 0)), some (.int x), some (.int (nI (prT (clM W S ed0 x) u 0))), none, none]) C dC_clashes_6 rfl (by decide) rfl rfl ?_
    refine sx_iconst (v := 0) C dC_clashes_7 (by decide) ?_
    refine sx_eqi (nI 0) (rfl) ?_
    refine sx_istore_n (lv' := [some (.ref (ad 0 0)), some (.int x), some (.int (nI (prT (clM W S ed0 x) u 0))), some (.int (nI 0)), none]) C dC_clashes_8 rfl (by decide) rfl rfl ?_
    have L9 : ∀ (fu : Nat) (a : Nat), u - a < fu → (a ≤ u) → SW p l e (rmL 7 1 6) s m [.ref (ad 0 0), .int x].toArray below meth c 5 D sxCl A 1 6 Q μ 9 [some (.ref (ad 0 0)), some (.int x), some (.int (nI (prT (clM W S ed0 x) u a))), some (.int (nI a)), none] [] := by
      intro fu
      induction fu with
      | zero => intro _ h; exact absurd h (Nat.not_lt_zero _)
      | succ fu ih =>
        intro a hfu ha
        refine sx_iload_n C dC_clashes_9 rfl rfl ?_
        refine sx_aload_n C dC_clashes_10 rfl rfl ?_
        refine sx_getf (Cn := RC) (T := TC) (N := 7) C dC_clashes_11 (sx_in inC) rfl 2 (by decide) (sx_w C kF_C_28) (fun _ h => h) (CS_f0 hS) rfl ?_
        refine sx_icmp_ge (tgt := 70) C dC_clashes_14 (by decide) (fun c14 => ?_) (fun c14 => ?_)
        · have hc : u ≤ a := (nI_leI (by omega) (by omega)).mp c14
          obtain rfl : a = u := by omega
          refine sx_iload_n C dC_clashes_70 rfl rfl ?_
          exact sx_iretQX C hQ dC_clashes_71 hr hlocks (Nat.le_of_ble_eq_true rfl) (Nat.le_of_ble_eq_true rfl) (⟨⟨hxn, rfl⟩, CInv_of hA hS hP⟩)
        · have hc : ¬ u ≤ a := fun h => c14 ((nI_leI (by omega) (by omega)).mpr h)
          have ha4 : a < 40 := by omega
          have hE1 := hP.2.2.2.2.2 a (by omega)
          refine sx_iload_n C dC_clashes_17 rfl rfl ?_
          refine sx_iconst (v := 1) C dC_clashes_18 (by decide) ?_
          refine sx_iadd C dC_clashes_19 ?_
          refine sx_eqi (nI (a + 1)) (nI_1 a) ?_
          refine sx_istore (lv' := [some (.ref (ad 0 0)), some (.int x), some (.int (nI (prT (clM W S ed0 x) u a))), some (.int (nI a)), some (.int (nI (a + 1)))]) C dC_clashes_20 (by decide) rfl rfl ?_
          refine sx_lvEq [some (.ref (ad 0 0)), some (.int x), some (.int (nI (prN (clM W S ed0 x) u a (a + 1)))), some (.int (nI a)), some (.int (nI (a + 1)))] (by rw [show prN (clM W S ed0 x) u a (a + 1) = prT (clM W S ed0 x) u a from pn_i]) ?_
          have L22 : ∀ (fu2 : Nat) (b : Nat), u - b < fu2 → (a + 1 ≤ b) → (b ≤ u) → SW p l e (rmL 7 1 6) s m [.ref (ad 0 0), .int x].toArray below meth c 5 D sxCl A 1 6 Q μ 22 [some (.ref (ad 0 0)), some (.int x), some (.int (nI (prN (clM W S ed0 x) u a b))), some (.int (nI a)), some (.int (nI b))] [] := by
            intro fu2
            induction fu2 with
            | zero => intro _ h; exact absurd h (Nat.not_lt_zero _)
            | succ fu2 ih2 =>
              intro b hfu2 hb1 hb2
              refine sx_iload C dC_clashes_22 rfl ?_
              refine sx_aload_n C dC_clashes_24 rfl rfl ?_
              refine sx_getf (Cn := RC) (T := TC) (N := 7) C dC_clashes_25 (sx_in inC) rfl 2 (by decide) (sx_w C kF_C_28) (fun _ h => h) (CS_f0 hS) rfl ?_
              refine sx_icmp_ge (tgt := 64) C dC_clashes_28 (by decide) (fun c28 => ?_) (fun c28 => ?_)
              · have hc : u ≤ b := (nI_leI (by omega) (by omega)).mp c28
                have hbu : b = u := by omega
                refine sx_weak (lv' := [some (.ref (ad 0 0)), some (.int x), some (.int (nI (prN (clM W S ed0 x) u a b))), some (.int (nI a)), none]) (And.intro rfl (And.intro rfl (And.intro rfl (And.intro rfl trivial)))) ?_
                refine sx_iinc (v := nI (a + 1)) (lv' := [some (.ref (ad 0 0)), some (.int x), some (.int (nI (prN (clM W S ed0 x) u a b))), some (.int (nI (a + 1))), none]) C dC_clashes_64 rfl (nI_1 a) (by decide) rfl rfl ?_
                refine sx_goto (tgt := 9) C dC_clashes_67 (by decide) ?_
                have z := ih (a + 1) (by omega) (by omega)
                rw [show prT (clM W S ed0 x) u (a + 1) = prN (clM W S ed0 x) u a b from by rw [hbu]; rfl] at z
                exact z
              · have hc : ¬ u ≤ b := fun h => c28 ((nI_leI (by omega) (by omega)).mpr h)
                have hb4 : b < 40 := by omega
                have hE2 := hP.2.2.2.2.2 b (by omega)
                refine sx_aload_n C dC_clashes_31 rfl rfl ?_
                refine sx_iload_n C dC_clashes_32 rfl rfl ?_
                refine sx_iload C dC_clashes_33 rfl ?_
                refine sx_calli C (sx_runV (As := [.int (nI a), .int (nI b)]) (rest := []) C sx_all (c_C_neededByBoth l D tc a b ad ro ur W u ln rf sc uk ul uf sf ed μ hS ha4 hb4) (ci := 2) rfl (CS_f0 hS) (sx_cwV C 2 kM_C_129 ki_C_neededByBoth ke_C_neededByBoth kn_C kc_C_neededByBoth rfl rfl (by decide +kernel) ⟨Nat.le_of_ble_eq_true rfl, Nat.le_of_ble_eq_true rfl⟩) rfl rfl (Nat.le_of_ble_eq_true rfl) dC_clashes_35 ⟨Nat.le_of_ble_eq_true rfl, Nat.le_of_ble_eq_true rfl⟩) (fun q1 μ2 h2 => ?_)
                obtain ⟨hm, h2⟩ := h2
                subst hm
                rw [hE1 4, hE2 4] at h2
                refine sx_eqi (nI (ed0 4 a) ||| nI (ed0 4 b)) (h2) ?_
                refine sx_iload_n C dC_clashes_38 rfl rfl ?_
                refine sx_iconst (v := -1) C dC_clashes_39 (by decide) ?_
                refine sx_ixor C dC_clashes_40 ?_
                refine sx_iand C dC_clashes_41 ?_
                refine sx_if_ne (tgt := 58) C dC_clashes_42 (by decide) (fun c42 => ?_) (fun c42 => ?_)
                · have hnd : (ndB ed0 x a && ndB ed0 x b) = false := by rw [← nd_both]; exact decide_eq_false c42
                  have hs : prN (clM W S ed0 x) u a (b + 1) = prN (clM W S ed0 x) u a b := pn_0 (by rw [cl_at hb1, hnd, Bool.false_and])
                  refine sx_iinc (v := nI (b + 1)) (lv' := [some (.ref (ad 0 0)), some (.int x), some (.int (nI (prN (clM W S ed0 x) u a b))), some (.int (nI a)), some (.int (nI (b + 1)))]) C dC_clashes_58 rfl (nI_1 b) (by decide) rfl rfl ?_
                  refine sx_goto (tgt := 22) C dC_clashes_61 (by decide) ?_
                  have z := ih2 (b + 1) (by omega) (by omega) (by omega)
                  rw [hs] at z
                  exact z
                · have hnd : (ndB ed0 x a && ndB ed0 x b) = true := by rw [← nd_both]; exact decide_eq_true c42
                  refine sx_aload_n C dC_clashes_45 rfl rfl ?_
                  refine sx_iload_n C dC_clashes_46 rfl rfl ?_
                  refine sx_iload C dC_clashes_47 rfl ?_
                  refine sx_calli C (sx_runV (As := [.int (nI a), .int (nI b)]) (rest := []) C sx_all (c_C_clash l D tc a b ad ro ur W u ln rf sc uk ul uf sf ed μ hS ha4 hb4) (ci := 2) rfl (CS_f0 hS) (sx_cwV C 2 kM_C_132 ki_C_clash ke_C_clash kn_C kc_C_clash rfl rfl (by decide +kernel) ⟨Nat.le_of_ble_eq_true rfl, Nat.le_of_ble_eq_true rfl⟩) rfl rfl (Nat.le_of_ble_eq_true rfl) dC_clashes_49 ⟨Nat.le_of_ble_eq_true rfl, Nat.le_of_ble_eq_true rfl⟩) (fun q2 μ3 h3 => ?_)
                  obtain ⟨hm, h3⟩ := h3
                  subst hm
                  rw [cp_cl hA hP (by omega) (by omega)] at h3
                  refine sx_if_eq (tgt := 58) C dC_clashes_52 (by decide) (fun c52 => ?_) (fun c52 => ?_)
                  · rw [h3] at c52
                    have hs : prN (clM W S ed0 x) u a (b + 1) = prN (clM W S ed0 x) u a b := pn_0 (by rw [cl_at hb1, b2i_z.mp c52, Bool.and_false])
                    refine sx_iinc (v := nI (b + 1)) (lv' := [some (.ref (ad 0 0)), some (.int x), some (.int (nI (prN (clM W S ed0 x) u a b))), some (.int (nI a)), some (.int (nI (b + 1)))]) C dC_clashes_58 rfl (nI_1 b) (by decide) rfl rfl ?_
                    refine sx_goto (tgt := 22) C dC_clashes_61 (by decide) ?_
                    have z := ih2 (b + 1) (by omega) (by omega) (by omega)
                    rw [hs] at z
                    exact z
                  · rw [h3] at c52
                    have hs : prN (clM W S ed0 x) u a (b + 1) = prN (clM W S ed0 x) u a b + 1 := pn_1 (by rw [cl_at hb1, hnd, b2i_ne.mp c52]; rfl)
                    refine sx_iinc (v := nI (prN (clM W S ed0 x) u a b + 1)) (lv' := [some (.ref (ad 0 0)), some (.int x), some (.int (nI (prN (clM W S ed0 x) u a b + 1))), some (.int (nI a)), some (.int (nI b))]) C dC_clashes_55 rfl (nI_1 _) (by decide) rfl rfl ?_
                    refine sx_iinc (v := nI (b + 1)) (lv' := [some (.ref (ad 0 0)), some (.int x), some (.int (nI (prN (clM W S ed0 x) u a b + 1))), some (.int (nI a)), some (.int (nI (b + 1)))]) C dC_clashes_58 rfl (nI_1 b) (by decide) rfl rfl ?_
                    refine sx_goto (tgt := 22) C dC_clashes_61 (by decide) ?_
                    have z := ih2 (b + 1) (by omega) (by omega) (by omega)
                    rw [hs] at z
                    exact z
          exact L22 _ (a + 1) (Nat.lt_succ_self _) (Nat.le_refl _) (by omega)
    exact L9 _ 0 (Nat.lt_succ_self _) (Nat.zero_le _)

set_option maxHeartbeats 4000000 in
set_option maxRecDepth 100000 in
/-- worst -/
theorem c_C_worst (l : Launch) (D : va_G) (tc : Nat → ClassId) (ad : Nat → Nat → Nat) (ro : Nat → Nat) (ur : Nat) (W : Nat) (u : Nat) (ln : Nat → Nat) (rf : Nat → Nat → Int64) (sc : Nat → Nat → Int32) (uk : Bool) (ul : Nat) (uf : Nat → Int64) (sf : Nat → Int64) (ed : Nat → Nat → Nat) (μ : sx_M) (hS : CS tc μ ad ro ur W u ln rf sc uk ul uf sf ed) (S : Nat → Nat → Bool) (ed0 : Nat → Nat → Nat) (hA : AW W u S ed0) (hP : CP W u S ed0 ln rf sc uk ul uf ed) : sx_Mi l yC_worst (Cond.code yC_worst cC_worst 4 (some .int) :: sxW) (rmL 3 0 0) D sxCl (sxT tc) sxE [.ref (ad 0 0)] μ (fun r μ' => (∃ t, wsT W u S ed0 t ∧ r = nI t) ∧ CInv tc μ' (ad 0 0) W u S ed0) 0 0 := by
  have hW := hA.1.2
  have hu := hA.2.1
  refine sx_ofiQ (cc := cC_worst) (maxL := 4) (ret := (some .int)) (own := RC) sxE_ok (by decide) rfl rfl (Nat.le_of_ble_eq_true rfl) [some (.ref (ad 0 0)), none, none, none] 3 rfl (fun p e s m below meth c A Q hQ C hr hlocks hnm => ?_)
  refine sx_iconst (v := 0) C dC_worst_0 (by decide) ?_
  refine sx_eqi (nI 0) (rfl) ?_
  refine sx_istore_n (lv' := [some (.ref (ad 0 0)), some (.int (nI 0)), none, none]) C dC_worst_1 rfl (by decide) rfl rfl ?_
  refine sx_iconst (v := 0) C dC_worst_2 (by decide) ?_
  refine sx_eqi (nI 0) (rfl) ?_
  refine sx_istore_n (lv' := [some (.ref (ad 0 0)), some (.int (nI 0)), some (.int (nI 0)), none]) C dC_worst_3 rfl (by decide) rfl rfl ?_
  have L4 : ∀ (fu : Nat) (a n : Nat), u - a < fu → (a ≤ u) → (wuI W u S ed0 a 0 n) → SW p l e (rmL 3 0 0) s m [.ref (ad 0 0)].toArray below meth c 4 D sxCl A 0 0 Q μ 4 [some (.ref (ad 0 0)), some (.int (nI n)), some (.int (nI a)), none] [] := by
    intro fu
    induction fu with
    | zero => intro _ _ h; exact absurd h (Nat.not_lt_zero _)
    | succ fu ih =>
      intro a n hfu ha hI
      refine sx_iload_n C dC_worst_4 rfl rfl ?_
      refine sx_aload_n C dC_worst_5 rfl rfl ?_
      refine sx_getf (Cn := RC) (T := TC) (N := 7) C dC_worst_6 (sx_in inC) rfl 2 (by decide) (sx_w C kF_C_28) (fun _ h => h) (CS_f0 hS) rfl ?_
      refine sx_icmp_ge (tgt := 54) C dC_worst_9 (by decide) (fun c9 => ?_) (fun c9 => ?_)
      · have hc : u ≤ a := (nI_leI (by omega) (by omega)).mp c9
        obtain rfl : a = u := by omega
        refine sx_iload_n C dC_worst_54 rfl rfl ?_
        exact sx_iretQ C hQ dC_worst_55 hr hlocks (Nat.le_of_ble_eq_true rfl) (Nat.le_of_ble_eq_true rfl) (⟨⟨_, wu_end (fun i hi => (hA.2.2.2 i hi).2.2.2.2) hI, rfl⟩, CInv_of hA hS hP⟩)
      · have hc : ¬ u ≤ a := fun h => c9 ((nI_leI (by omega) (by omega)).mpr h)
        have ha4 : a < 40 := by omega
        have hE1 := hP.2.2.2.2.2 a (by omega)
        refine sx_iload_n C dC_worst_12 rfl rfl ?_
        refine sx_iconst (v := 1) C dC_worst_13 (by decide) ?_
        refine sx_iadd C dC_worst_14 ?_
        refine sx_eqi (nI (a + 1)) (nI_1 a) ?_
        refine sx_istore_n (lv' := [some (.ref (ad 0 0)), some (.int (nI n)), some (.int (nI a)), some (.int (nI (a + 1)))]) C dC_worst_15 rfl (by decide) rfl rfl ?_
        have L16 : ∀ (fu2 : Nat) (b nd : Nat), u - b < fu2 → (a + 1 ≤ b) → (b ≤ u) → (wuI W u S ed0 a b nd) → SW p l e (rmL 3 0 0) s m [.ref (ad 0 0)].toArray below meth c 4 D sxCl A 0 0 Q μ 16 [some (.ref (ad 0 0)), some (.int (nI nd)), some (.int (nI a)), some (.int (nI b))] [] := by
          intro fu2
          induction fu2 with
          | zero => intro _ _ h; exact absurd h (Nat.not_lt_zero _)
          | succ fu2 ih2 =>
            intro b nd hfu2 hb1 hb2 hI2
            refine sx_iload_n C dC_worst_16 rfl rfl ?_
            refine sx_aload_n C dC_worst_17 rfl rfl ?_
            refine sx_getf (Cn := RC) (T := TC) (N := 7) C dC_worst_18 (sx_in inC) rfl 2 (by decide) (sx_w C kF_C_28) (fun _ h => h) (CS_f0 hS) rfl ?_
            refine sx_icmp_ge (tgt := 48) C dC_worst_21 (by decide) (fun c21 => ?_) (fun c21 => ?_)
            · have hc : u ≤ b := (nI_leI (by omega) (by omega)).mp c21
              have hbu : b = u := by omega
              refine sx_weak (lv' := [some (.ref (ad 0 0)), some (.int (nI nd)), some (.int (nI a)), none]) (And.intro rfl (And.intro rfl (And.intro rfl trivial))) ?_
              refine sx_iinc (v := nI (a + 1)) (lv' := [some (.ref (ad 0 0)), some (.int (nI nd)), some (.int (nI (a + 1))), none]) C dC_worst_48 rfl (nI_1 a) (by decide) rfl rfl ?_
              refine sx_goto (tgt := 4) C dC_worst_51 (by decide) ?_
              exact ih (a + 1) nd (by omega) (by omega) (wu_out hI2 (by omega))
            · have hc : ¬ u ≤ b := fun h => c21 ((nI_leI (by omega) (by omega)).mpr h)
              have hb4 : b < 40 := by omega
              have hE2 := hP.2.2.2.2.2 b (by omega)
              have hn8 : (ed0 4 a ||| ed0 4 b) < 256 := Nat.or_lt_two_pow (n := 8) (hA.2.2.2 a (by omega)).2.2.2.2 (hA.2.2.2 b (by omega)).2.2.2.2
              refine sx_aload_n C dC_worst_24 rfl rfl ?_
              refine sx_iload_n C dC_worst_25 rfl rfl ?_
              refine sx_iload_n C dC_worst_26 rfl rfl ?_
              refine sx_calli C (sx_runV (As := [.int (nI a), .int (nI b)]) (rest := []) C sx_all (c_C_clash l D tc a b ad ro ur W u ln rf sc uk ul uf sf ed μ hS ha4 hb4) (ci := 2) rfl (CS_f0 hS) (sx_cwV C 2 kM_C_132 ki_C_clash ke_C_clash kn_C kc_C_clash rfl rfl (by decide +kernel) ⟨Nat.le_of_ble_eq_true rfl, Nat.le_of_ble_eq_true rfl⟩) rfl rfl (Nat.le_of_ble_eq_true rfl) dC_worst_27 ⟨Nat.le_of_ble_eq_true rfl, Nat.le_of_ble_eq_true rfl⟩) (fun q2 μ3 h3 => ?_)
              obtain ⟨hm, h3⟩ := h3
              subst hm
              rw [cp_cl hA hP (by omega) (by omega)] at h3
              refine sx_if_eq (tgt := 42) C dC_worst_30 (by decide) (fun c30 => ?_) (fun c30 => ?_)
              · rw [h3] at c30
                have hI3 := wu_no hI2 (b2i_z.mp c30)
                refine sx_iinc (v := nI (b + 1)) (lv' := [some (.ref (ad 0 0)), some (.int (nI nd)), some (.int (nI a)), some (.int (nI (b + 1)))]) C dC_worst_42 rfl (nI_1 b) (by decide) rfl rfl ?_
                refine sx_goto (tgt := 16) C dC_worst_45 (by decide) ?_
                exact ih2 (b + 1) nd (by omega) (by omega) (by omega) hI3
              · rw [h3] at c30
                have hI3 := wu_yes hI2 hb1 (by omega) hn8 (b2i_ne.mp c30)
                refine sx_iload_n C dC_worst_33 rfl rfl ?_
                refine sx_aload_n C dC_worst_34 rfl rfl ?_
                refine sx_iload_n C dC_worst_35 rfl rfl ?_
                refine sx_iload_n C dC_worst_36 rfl rfl ?_
                refine sx_calli C (sx_runV (As := [.int (nI a), .int (nI b)]) (rest := [.int (nI nd)]) C sx_all (c_C_neededByBoth l D tc a b ad ro ur W u ln rf sc uk ul uf sf ed μ hS ha4 hb4) (ci := 2) rfl (CS_f0 hS) (sx_cwV C 2 kM_C_129 ki_C_neededByBoth ke_C_neededByBoth kn_C kc_C_neededByBoth rfl rfl (by decide +kernel) ⟨Nat.le_of_ble_eq_true rfl, Nat.le_of_ble_eq_true rfl⟩) rfl rfl (Nat.le_of_ble_eq_true rfl) dC_worst_37 ⟨Nat.le_of_ble_eq_true rfl, Nat.le_of_ble_eq_true rfl⟩) (fun q1 μ4 h4 => ?_)
                obtain ⟨hm, h4⟩ := h4
                subst hm
                rw [hE1 4, hE2 4, jb_orI] at h4
                refine sx_eqi (nI (ed0 4 a ||| ed0 4 b)) (h4) ?_
                refine sx_ior C dC_worst_40 ?_
                refine sx_eqi (nI (nd ||| (ed0 4 a ||| ed0 4 b))) (jb_orI _ _) ?_
                refine sx_istore_n (lv' := [some (.ref (ad 0 0)), some (.int (nI (nd ||| (ed0 4 a ||| ed0 4 b)))), some (.int (nI a)), some (.int (nI b))]) C dC_worst_41 rfl (by decide) rfl rfl ?_
                refine sx_iinc (v := nI (b + 1)) (lv' := [some (.ref (ad 0 0)), some (.int (nI (nd ||| (ed0 4 a ||| ed0 4 b)))), some (.int (nI a)), some (.int (nI (b + 1)))]) C dC_worst_42 rfl (nI_1 b) (by decide) rfl rfl ?_
                refine sx_goto (tgt := 16) C dC_worst_45 (by decide) ?_
                exact ih2 (b + 1) (nd ||| (ed0 4 a ||| ed0 4 b)) (by omega) (by omega) (by omega) hI3
        exact L16 _ (a + 1) n (Nat.lt_succ_self _) (Nat.le_refl _) (by omega) (wu_in hI)
  exact L4 _ 0 0 (Nat.lt_succ_self _) (Nat.zero_le _) wu_0

set_option maxHeartbeats 4000000 in
set_option maxRecDepth 100000 in
/-- decode -/
theorem c_C_decode (l : Launch) (D : va_G) (tc : Nat → ClassId) (hl : l.stackTraces = false) (x : Int32) (ad : Nat → Nat → Nat) (ro : Nat → Nat) (ur : Nat) (W : Nat) (u : Nat) (ln : Nat → Nat) (rf : Nat → Nat → Int64) (sc : Nat → Nat → Int32) (uk : Bool) (ul : Nat) (uf : Nat → Int64) (sf : Nat → Int64) (ed : Nat → Nat → Nat) (μ : sx_M) (hS : CS tc μ ad ro ur W u ln rf sc uk ul uf sf ed) (S : Nat → Nat → Bool) (ed0 : Nat → Nat → Nat) (hA : AW W u S ed0) (hP : CP W u S ed0 ln rf sc uk ul uf ed) : sx_Xi l yC_decode (Cond.code yC_decode cC_decode 4 (some .int) :: sxW) (rmL 7 1 6) D sxCl (sxT tc) sxE [.ref (ad 0 0), .int x] μ (fun r μ' => (∃ w, w < 2 ^ W ∧ x = nI w ∧ dcP W u S w r) ∧ CInv tc μ' (ad 0 0) W u S ed0) (fun Ex μ' => CInv tc μ' (ad 0 0) W u S ed0 ∧ Ex = iaeN ∧ ∀ w, w < 2 ^ W → x ≠ nI w) 1 6 := by
  have hW := hA.1.2
  have hu := hA.2.1
  have hC := nCh_le hW
  have hpw := en_pw hW
  refine sx_ofXiQ (cc := cC_decode) (maxL := 4) (ret := (some .int)) (own := RC) sxE_ok (by decide) rfl rfl (Nat.le_of_ble_eq_true rfl) [some (.ref (ad 0 0)), some (.int x), none, none] 2 rfl (fun p e s m below meth c A Q hQ C hr hlocks hnm hno => ?_)
  refine sx_iload_n C dC_decode_0 rfl rfl ?_
  refine sx_if_lt (tgt := 14) C dC_decode_1 (by decide) (fun c1 => ?_) (fun c1 => ?_)
  · have hbad : ∀ w, w < 2 ^ W → x ≠ nI w := fun w hw e => nI_pos (n := w) (by omega) (e ▸ c1)
    exact sx_thr_iae (text := "no such word") hl C hQ dC_decode_14 dC_decode_17 dC_decode_18 dC_decode_20 dC_decode_23 (by simp [sxStr]) hno hlocks (Nat.le_of_ble_eq_true rfl) (Nat.le_of_ble_eq_true rfl) (Nat.le_of_ble_eq_true rfl) (Nat.le_of_ble_eq_true rfl) (Nat.le_of_ble_eq_true rfl) (Nat.le_of_ble_eq_true rfl) (⟨CInv_of hA hS hP, rfl, hbad⟩)
  · refine sx_iload_n C dC_decode_4 rfl rfl ?_
    refine sx_iconst (v := 1) C dC_decode_5 (by decide) ?_
    refine sx_aload_n C dC_decode_6 rfl rfl ?_
    refine sx_getf (Cn := RC) (T := TC) (N := 7) C dC_decode_7 (sx_in inC) rfl 0 (by decide) (sx_w C kF_C_15) (fun _ h => h) (CS_f0 hS) rfl ?_
    refine sx_ishl C dC_decode_10 ?_
    refine sx_eqi (nI (2 ^ W)) (w2_pow W (by omega)) ?_
    refine sx_icmp_lt (tgt := 24) C dC_decode_11 (by decide) (fun c11 => ?_) (fun c11 => ?_)
    · obtain ⟨w, hw, hxw⟩ := ab_ix (by omega) c1 c11
      refine sx_iconst (v := -1) C dC_decode_24 (by decide) ?_
      refine sx_istore_n (lv' := [some (.ref (ad 0 0)), some (.int x), some (.int (-1)), none]) C dC_decode_25 rfl (by decide) rfl rfl ?_
      refine sx_iconst (v := 0) C dC_decode_26 (by decide) ?_
      refine sx_eqi (nI 0) (rfl) ?_
      refine sx_istore_n (lv' := [some (.ref (ad 0 0)), some (.int x), some (.int (-1)), some (.int (nI 0))]) C dC_decode_27 rfl (by decide) rfl rfl ?_
      have L28 : ∀ (fu : Nat) (j : Nat) (lo : Int32), u - j < fu → (j ≤ u) → (∀ k, k < j → ¬ dcB W u S w k) → ((lo = -1 ∧ ∀ k, k < j → S k w = false) ∨ ∃ i, i < j ∧ lo = nI i ∧ S i w = true ∧ ∀ k, k < i → S k w = false) → SW p l e (rmL 7 1 6) s m [.ref (ad 0 0), .int x].toArray below meth c 4 D sxCl A 0 0 Q μ 28 [some (.ref (ad 0 0)), some (.int x), some (.int lo), some (.int (nI j))] [] := by
        intro fu
        induction fu with
        | zero => intro _ _ h; exact absurd h (Nat.not_lt_zero _)
        | succ fu ih =>
          intro j lo hfu hj h1 hlo
          refine sx_iload_n C dC_decode_28 rfl rfl ?_
          refine sx_aload_n C dC_decode_29 rfl rfl ?_
          refine sx_getf (Cn := RC) (T := TC) (N := 7) C dC_decode_30 (sx_in inC) rfl 2 (by decide) (sx_w C kF_C_28) (fun _ h => h) (CS_f0 hS) rfl ?_
          refine sx_icmp_ge (tgt := 76) C dC_decode_33 (by decide) (fun c33 => ?_) (fun c33 => ?_)
          · have hc : u ≤ j := (nI_leI (by omega) (by omega)).mp c33
            obtain rfl : j = u := by omega
            refine sx_iload_n C dC_decode_76 rfl rfl ?_
            exact sx_iretQX C hQ dC_decode_77 hr hlocks (Nat.le_of_ble_eq_true rfl) (Nat.le_of_ble_eq_true rfl) (⟨⟨w, hw, hxw, Or.inr ⟨h1, hlo.symm⟩⟩, CInv_of hA hS hP⟩)
          · have hc : ¬ u ≤ j := fun h => c33 ((nI_leI (by omega) (by omega)).mpr h)
            have hj4 : j < 40 := by omega
            have hl1 := (hP.2.1 j (by omega)).1
            refine sx_aload_n C dC_decode_36 rfl rfl ?_
            refine sx_getf (Cn := RC) (T := TC) (N := 7) C dC_decode_37 (sx_in inC) rfl 1 (by decide) (sx_w C kF_C_21) (fun _ h => h) (CS_f0 hS) rfl ?_
            refine sx_iload_n C dC_decode_40 rfl rfl ?_
            refine sx_aald (j := j) (b := (ad 2 j)) C dC_decode_41 2 rfl (CS_f1 hS) (rfl) (hj4) (Nat.le_of_ble_eq_true rfl) (if_pos (hj4)) ?_
            refine sx_getf (Cn := RE) (T := TE) (N := 6) C dC_decode_42 (sx_in inE) rfl 0 (by decide) (sx_w C kF_C_92) (fun _ h => h) (CS_f2 hS hj4) rfl ?_
            refine sx_iload_n C dC_decode_45 rfl rfl ?_
            refine sx_eqi (nI w) (hxw) ?_
            refine sx_calli C (sx_runV (As := [.int (nI w)]) (rest := []) C sx_all (c_S_has l D tc (ad 3 j) (ro j) W (ln j) w (rf j) μ (by omega) (by omega) (CS_f3 hS hj4) (CS_f4 hS hj4)) (ci := 1) rfl (CS_f3 hS hj4) (sx_cwV C 1 kM_C_172 ki_S_has ke_S_has kn_S kc_S_has rfl rfl (by decide +kernel) ⟨Nat.le_of_ble_eq_true rfl, Nat.le_of_ble_eq_true rfl⟩) rfl rfl (Nat.le_of_ble_eq_true rfl) dC_decode_46 ⟨Nat.le_of_ble_eq_true rfl, Nat.le_of_ble_eq_true rfl⟩) (fun x2 μ1 hx => ?_)
            obtain ⟨hm, hx⟩ := hx
            subst hm
            rw [hl1, has_S, (hP.2.1 j (by omega)).2] at hx
            refine sx_if_eq (tgt := 70) C dC_decode_49 (by decide) (fun c49 => ?_) (fun c49 => ?_)
            · rw [hx] at c49
              have hs := b2i_z.mp c49
              have hnb : ¬ dcB W u S w j := fun z => by rw [z.1] at hs; cases hs
              have hlo2 : (lo = -1 ∧ ∀ k, k < j + 1 → S k w = false) ∨ ∃ i, i < j + 1 ∧ lo = nI i ∧ S i w = true ∧ ∀ k, k < i → S k w = false := by
                rcases hlo with ⟨e1, e2⟩ | ⟨i, hi, e1, e2, e3⟩
                · exact Or.inl ⟨e1, all_step e2 hs⟩
                · exact Or.inr ⟨i, by omega, e1, e2, e3⟩
              refine sx_iinc (v := nI (j + 1)) (lv' := [some (.ref (ad 0 0)), some (.int x), some (.int lo), some (.int (nI (j + 1)))]) C dC_decode_70 rfl (nI_1 j) (by decide) rfl rfl ?_
              refine sx_goto (tgt := 28) C dC_decode_73 (by decide) ?_
              exact ih (j + 1) lo (by omega) (by omega) (all_step h1 hnb) hlo2
            · rw [hx] at c49
              have hs := b2i_ne.mp c49
              refine sx_aload_n C dC_decode_52 rfl rfl ?_
              refine sx_iload_n C dC_decode_53 rfl rfl ?_
              refine sx_iload_n C dC_decode_54 rfl rfl ?_
              refine sx_eqi (nI w) (hxw) ?_
              refine sx_calli C (sx_runV (As := [.int (nI j), .int (nI w)]) (rest := []) C sx_all (c_C_liesInAllWith l D tc j w ad ro ur W u ln rf sc uk ul uf sf ed μ hS S ed0 hA hP (by omega) (by omega)) (ci := 2) rfl (CS_f0 hS) (sx_cwV C 2 kM_C_176 ki_C_liesInAllWith ke_C_liesInAllWith kn_C kc_C_liesInAllWith rfl rfl (by decide +kernel) ⟨Nat.le_of_ble_eq_true rfl, Nat.le_of_ble_eq_true rfl⟩) rfl rfl (Nat.le_of_ble_eq_true rfl) dC_decode_55 ⟨Nat.le_of_ble_eq_true rfl, Nat.le_of_ble_eq_true rfl⟩) (fun q1 μ2 h2 => ?_)
              obtain ⟨hm, h2⟩ := h2
              subst hm
              obtain ⟨t, ht, h2⟩ := h2
              refine sx_if_eq (tgt := 63) C dC_decode_58 (by decide) (fun c58 => ?_) (fun c58 => ?_)
              · rw [ht] at c58
                have hnb : ¬ dcB W u S w j := fun z => by have := b2i_z.mp c58; rw [h2.mpr z.2] at this; cases this
                refine sx_iload_n C dC_decode_63 rfl rfl ?_
                refine sx_iconst (v := -1) C dC_decode_64 (by decide) ?_
                refine sx_icmp_ne (tgt := 70) C dC_decode_65 (by decide) (fun c65 => ?_) (fun c65 => ?_)
                · have hlo2 : (lo = -1 ∧ ∀ k, k < j + 1 → S k w = false) ∨ ∃ i, i < j + 1 ∧ lo = nI i ∧ S i w = true ∧ ∀ k, k < i → S k w = false := by
                    rcases hlo with ⟨e1, e2⟩ | ⟨i, hi, e1, e2, e3⟩
                    · exact absurd e1 c65
                    · exact Or.inr ⟨i, by omega, e1, e2, e3⟩
                  refine sx_iinc (v := nI (j + 1)) (lv' := [some (.ref (ad 0 0)), some (.int x), some (.int lo), some (.int (nI (j + 1)))]) C dC_decode_70 rfl (nI_1 j) (by decide) rfl rfl ?_
                  refine sx_goto (tgt := 28) C dC_decode_73 (by decide) ?_
                  exact ih (j + 1) lo (by omega) (by omega) (all_step h1 hnb) hlo2
                · have hlo2 : (nI j = -1 ∧ ∀ k, k < j + 1 → S k w = false) ∨ ∃ i, i < j + 1 ∧ nI j = nI i ∧ S i w = true ∧ ∀ k, k < i → S k w = false := by
                    rcases hlo with ⟨e1, e2⟩ | ⟨i, hi, e1, e2, e3⟩
                    · exact Or.inr ⟨j, by omega, rfl, hs, e2⟩
                    · rw [e1] at c65
                      exact absurd c65 (fun z => (by have := nI_toInt (n := i) (by omega); rw [z] at this; have e1 : (-1 : Int32).toInt = -1 := rfl; omega))
                  refine sx_iload_n C dC_decode_68 rfl rfl ?_
                  refine sx_istore_n (lv' := [some (.ref (ad 0 0)), some (.int x), some (.int (nI j)), some (.int (nI j))]) C dC_decode_69 rfl (by decide) rfl rfl ?_
                  refine sx_iinc (v := nI (j + 1)) (lv' := [some (.ref (ad 0 0)), some (.int x), some (.int (nI j)), some (.int (nI (j + 1)))]) C dC_decode_70 rfl (nI_1 j) (by decide) rfl rfl ?_
                  refine sx_goto (tgt := 28) C dC_decode_73 (by decide) ?_
                  exact ih (j + 1) (nI j) (by omega) (by omega) (all_step h1 hnb) hlo2
              · rw [ht] at c58
                have hb : dcB W u S w j := ⟨hs, h2.mp (b2i_ne.mp c58)⟩
                refine sx_iload_n C dC_decode_61 rfl rfl ?_
                exact sx_iretQX C hQ dC_decode_62 hr hlocks (Nat.le_of_ble_eq_true rfl) (Nat.le_of_ble_eq_true rfl) (⟨⟨w, hw, hxw, Or.inl ⟨j, by omega, rfl, hb, h1⟩⟩, CInv_of hA hS hP⟩)
      exact L28 _ 0 (-1) (Nat.lt_succ_self _) (Nat.zero_le _) (fun k hk => absurd hk (Nat.not_lt_zero _)) (Or.inl ⟨rfl, fun k hk => absurd hk (Nat.not_lt_zero _)⟩)
    · have hbad : ∀ w, w < 2 ^ W → x ≠ nI w := fun w hw e => c11 (by rw [e]; exact nI_lt hw (by omega))
      exact sx_thr_iae (text := "no such word") hl C hQ dC_decode_14 dC_decode_17 dC_decode_18 dC_decode_20 dC_decode_23 (by simp [sxStr]) hno hlocks (Nat.le_of_ble_eq_true rfl) (Nat.le_of_ble_eq_true rfl) (Nat.le_of_ble_eq_true rfl) (Nat.le_of_ble_eq_true rfl) (Nat.le_of_ble_eq_true rfl) (Nat.le_of_ble_eq_true rfl) (⟨CInv_of hA hS hP, rfl, hbad⟩)

set_option maxHeartbeats 4000000 in
set_option maxRecDepth 100000 in
/-- order -/
theorem c_C_order (l : Launch) (D : va_G) (tc : Nat → ClassId) (hl : l.stackTraces = false) (x : Int32) (ad : Nat → Nat → Nat) (ro : Nat → Nat) (ur : Nat) (W : Nat) (u : Nat) (ln : Nat → Nat) (rf : Nat → Nat → Int64) (sc : Nat → Nat → Int32) (uk : Bool) (ul : Nat) (uf : Nat → Int64) (sf : Nat → Int64) (ed : Nat → Nat → Nat) (μ : sx_M) (hS : CS tc μ ad ro ur W u ln rf sc uk ul uf sf ed) (S : Nat → Nat → Bool) (ed0 : Nat → Nat → Nat) (hA : AW W u S ed0) (hP : CP W u S ed0 ln rf sc uk ul uf ed) : sx_Xi l yC_order (Cond.code yC_order cC_order 6 (some .int) :: sxW) (rmL 7 1 6) D sxCl (sxT tc) sxE [.ref (ad 0 0), .int x] μ (fun r μ' => (∃ k o, k < u ∧ x = nI k ∧ (∀ p, p ≤ k → onx W u S o p) ∧ r = nI (o k)) ∧ CInv tc μ' (ad 0 0) W u S ed0) (fun Ex μ' => CInv tc μ' (ad 0 0) W u S ed0 ∧ Ex = ioeN ∧ ∀ j, j < u → x ≠ nI j) 1 6 := by
  have hW := hA.1.2
  have hu := hA.2.1
  refine sx_ofXiQ (cc := cC_order) (maxL := 6) (ret := (some .int)) (own := RC) sxE_ok (by decide) rfl rfl (Nat.le_of_ble_eq_true rfl) [some (.ref (ad 0 0)), some (.int x), none, none, none, none] 4 rfl (fun p e s m below meth c A Q hQ C hr hlocks hnm hno => ?_)
  refine sx_iload_n C dC_order_0 rfl rfl ?_
  refine sx_if_lt (tgt := 12) C dC_order_1 (by decide) (fun c1 => ?_) (fun c1 => ?_)
  · have hx : ∀ j, j < u → x ≠ nI j := fun j hj z => (ab_in (n := u) (by omega) hj).1 (z ▸ c1)
    exact sx_thr_ioe (text := "no such place") hl C hQ dC_order_12 dC_order_15 dC_order_16 dC_order_18 dC_order_21 (by simp [sxStr]) hno hlocks (Nat.le_of_ble_eq_true rfl) (Nat.le_of_ble_eq_true rfl) (Nat.le_of_ble_eq_true rfl) (Nat.le_of_ble_eq_true rfl) (Nat.le_of_ble_eq_true rfl) (Nat.le_of_ble_eq_true rfl) (⟨CInv_of hA hS hP, rfl, hx⟩)
  · refine sx_iload_n C dC_order_4 rfl rfl ?_
    refine sx_aload_n C dC_order_5 rfl rfl ?_
    refine sx_getf (Cn := RC) (T := TC) (N := 7) C dC_order_6 (sx_in inC) rfl 2 (by decide) (sx_w C kF_C_28) (fun _ h => h) (CS_f0 hS) rfl ?_
    refine sx_icmp_lt (tgt := 22) C dC_order_9 (by decide) (fun c9 => ?_) (fun c9 => ?_)
    · obtain ⟨k, hk, hxk⟩ := ab_ix (by omega) c1 c9
      refine sx_iconst (v := 0) C dC_order_22 (by decide) ?_
      refine sx_eqi (nI 0) (rfl) ?_
      refine sx_istore_n (lv' := [some (.ref (ad 0 0)), some (.int x), some (.int (nI 0)), none, none, none]) C dC_order_23 rfl (by decide) rfl rfl ?_
      have L24 : ∀ (fu : Nat) (j : Nat) (μ : sx_M) (sf' : Nat → Int64), u - j < fu → (j ≤ u) → (CS tc μ ad ro ur W u ln rf sc uk ul uf sf' ed) → (∀ i, i < j → ∀ k, bL (sf' i) k = (decide (k < u) && (lsB W S k i && !lsB W S i k))) → SW p l e (rmL 7 1 6) s m [.ref (ad 0 0), .int x].toArray below meth c 6 D sxCl A 0 0 Q μ 24 [some (.ref (ad 0 0)), some (.int x), some (.int (nI j)), none, none, none] [] := by
        intro fu
        induction fu with
        | zero => intro _ _ _ h; exact absurd h (Nat.not_lt_zero _)
        | succ fu ih =>
          intro j μ sf' hfu hj hSL h1
          refine sx_iload_n C dC_order_24 rfl rfl ?_
          refine sx_aload_n C dC_order_25 rfl rfl ?_
          refine sx_getf (Cn := RC) (T := TC) (N := 7) C dC_order_26 (sx_in inC) rfl 2 (by decide) (sx_w C kF_C_28) (fun _ h => h) (CS_f0 hSL) rfl ?_
          refine sx_icmp_ge (tgt := 49) C dC_order_29 (by decide) (fun c29 => ?_) (fun c29 => ?_)
          · have hc : u ≤ j := (nI_leI (by omega) (by omega)).mp c29
            have hsf : ∀ i, i < u → ∀ k, bL (sf' i) k = (decide (k < u) && (lsB W S k i && !lsB W S i k)) := fun i hi => h1 i (by omega)
            refine sx_weak (lv' := [some (.ref (ad 0 0)), some (.int x), none, none, none, none]) (And.intro rfl (And.intro rfl trivial)) ?_
            refine sx_lconst (v := 0) C dC_order_49 (by decide) ?_
            refine sx_lstore_n (lv' := [some (.ref (ad 0 0)), some (.int x), some (.long 0), none, none, none]) C dC_order_50 rfl (by decide) rfl rfl ?_
            refine sx_iconst (v := -1) C dC_order_51 (by decide) ?_
            refine sx_istore (lv' := [some (.ref (ad 0 0)), some (.int x), some (.long 0), none, some (.int (-1)), none]) C dC_order_52 (by decide) rfl rfl ?_
            refine sx_iconst (v := 0) C dC_order_54 (by decide) ?_
            refine sx_eqi (nI 0) (rfl) ?_
            refine sx_istore (lv' := [some (.ref (ad 0 0)), some (.int x), some (.long 0), none, some (.int (-1)), some (.int (nI 0))]) C dC_order_55 (by decide) rfl rfl ?_
            have L57 : ∀ (fu2 : Nat) (p9 : Nat) (pl : Int64) (o : Nat → Nat) (nx : Int32), k + 1 - p9 < fu2 → (p9 ≤ k + 1) → (∀ i, bL pl i = true ↔ ∃ q, q < p9 ∧ o q = i) → (∀ q, q < p9 → onx W u S o q) → (0 < p9 → nx = nI (o (p9 - 1))) → SW p l e (rmL 7 1 6) s m [.ref (ad 0 0), .int x].toArray below meth c 6 D sxCl A 0 0 Q μ 57 [some (.ref (ad 0 0)), some (.int x), some (.long pl), none, some (.int nx), some (.int (nI p9))] [] := by
              intro fu2
              induction fu2 with
              | zero => intro _ _ _ _ h; exact absurd h (Nat.not_lt_zero _)
              | succ fu2 ih2 =>
                intro p9 pl o nx hfu2 hp hpl ho hnx
                refine sx_iload C dC_order_57 rfl ?_
                refine sx_iload_n C dC_order_59 rfl rfl ?_
                refine sx_icmp_gt (tgt := 83) C dC_order_60 (by decide) (fun c60 => ?_) (fun c60 => ?_)
                · rw [hxk] at c60
                  have hc6 : k < p9 := (nI_ltI (by omega) (by omega)).mp c60
                  refine sx_iload C dC_order_83 rfl ?_
                  exact sx_iretQX C hQ dC_order_85 hr hlocks (Nat.le_of_ble_eq_true rfl) (Nat.le_of_ble_eq_true rfl) (⟨⟨k, o, hk, hxk, fun q hq => ho q (by omega), by rw [hnx (by omega), show p9 - 1 = k by omega]⟩, CInv_of hA hSL hP⟩)
                · rw [hxk] at c60
                  have hc6 : ¬ k < p9 := fun h => c60 ((nI_ltI (by omega) (by omega)).mpr h)
                  refine sx_aload_n C dC_order_63 rfl rfl ?_
                  refine sx_lload_n C dC_order_64 rfl rfl ?_
                  refine sx_calli C (sx_runV (As := [.long pl]) (rest := []) C sx_all (c_C_nextInOrder l D tc pl ad ro ur W u ln rf sc uk ul uf sf' ed μ hSL hu) (ci := 2) rfl (CS_f0 hSL) (sx_cwV C 1 kM_C_185 ki_C_nextInOrder ke_C_nextInOrder kn_C kc_C_nextInOrder rfl rfl (by decide +kernel) ⟨Nat.le_of_ble_eq_true rfl, Nat.le_of_ble_eq_true rfl⟩) rfl rfl (Nat.le_of_ble_eq_true rfl) dC_order_65 ⟨Nat.le_of_ble_eq_true rfl, Nat.le_of_ble_eq_true rfl⟩) (fun q2 μ2 h2 => ?_)
                  obtain ⟨hm, h2⟩ := h2
                  subst hm
                  have h3 : ∃ i, i < u ∧ q2 = nI i ∧ ofr W u S o p9 i ∧ ∀ x, x < i → ¬ ofr W u S o p9 x := by
                    rcases h2 with ⟨i, hi, e1, e2, e3⟩ | ⟨-, e1⟩
                    · exact ⟨i, hi, e1, (on_iff hu hpl (hsf i hi)).mp e2, fun x hx hf => e3 x hx ((on_iff hu hpl (hsf x (by omega))).mpr hf)⟩
                    · obtain ⟨i, hi, hf⟩ := ord_ex (W := W) (S := S) (o := o) (show p9 < u by omega)
                      exact absurd ((on_iff hu hpl (hsf i hi)).mpr hf) (e1 i hi)
                  obtain ⟨i, hi, hq2, hi1, hi2⟩ := h3
                  refine sx_eqi (nI i) (hq2) ?_
                  refine sx_istore (lv' := [some (.ref (ad 0 0)), some (.int x), some (.long pl), none, some (.int (nI i)), some (.int (nI p9))]) C dC_order_68 (by decide) rfl rfl ?_
                  refine sx_lload_n C dC_order_70 rfl rfl ?_
                  refine sx_lconst (v := 1) C dC_order_71 (by decide) ?_
                  refine sx_iload C dC_order_72 rfl ?_
                  refine sx_lshl C dC_order_74 ?_
                  refine sx_lor C dC_order_75 ?_
                  refine sx_lstore_n (lv' := [some (.ref (ad 0 0)), some (.int x), some (.long (pl ||| (jshlL 1 (nI i)))), none, some (.int (nI i)), some (.int (nI p9))]) C dC_order_76 rfl (by decide) rfl rfl ?_
                  refine sx_iinc (v := nI (p9 + 1)) (lv' := [some (.ref (ad 0 0)), some (.int x), some (.long (pl ||| (jshlL 1 (nI i)))), none, some (.int (nI i)), some (.int (nI (p9 + 1)))]) C dC_order_77 rfl (nI_1 p9) (by decide) rfl rfl ?_
                  refine sx_goto (tgt := 57) C dC_order_80 (by decide) ?_
                  exact ih2 (p9 + 1) _ (va_up o p9 i) _ (by omega) (by omega) (pl_step (by omega) hpl) (ox_step ho hi hi1 hi2) (fun _ => by rw [Nat.add_sub_cancel, va_up_s])
            exact L57 _ 0 0 (fun _ => 0) (-1) (Nat.lt_succ_self _) (Nat.zero_le _) (fun i => ⟨fun z => (by rw [bL_0] at z; cases z), fun ⟨q, hq, _⟩ => absurd hq (Nat.not_lt_zero _)⟩) (fun q hq => absurd hq (Nat.not_lt_zero _)) (fun z => absurd z (Nat.lt_irrefl 0))
          · have hc : ¬ u ≤ j := fun h => c29 ((nI_leI (by omega) (by omega)).mpr h)
            have hj4 : j < 40 := by omega
            refine sx_aload_n C dC_order_32 rfl rfl ?_
            refine sx_getf (Cn := RC) (T := TC) (N := 7) C dC_order_33 (sx_in inC) rfl 6 (by decide) (sx_w C kF_C_47) (fun _ h => h) (CS_f0 hSL) rfl ?_
            refine sx_iload_n C dC_order_36 rfl rfl ?_
            refine sx_aload_n C dC_order_37 rfl rfl ?_
            refine sx_iload_n C dC_order_38 rfl rfl ?_
            refine sx_calll C (sx_runV (As := [.int (nI j)]) (rest := [.int (nI j), .ref (ad 9 0)]) C sx_all (c_C_setOfSmaller l D tc j ad ro ur W u ln rf sc uk ul uf sf' ed μ hSL S ed0 hA hP (by omega)) (ci := 2) rfl (CS_f0 hSL) (sx_cwV C 1 kM_C_181 ki_C_setOfSmaller ke_C_setOfSmaller kn_C kc_C_setOfSmaller rfl rfl (by decide +kernel) ⟨Nat.le_of_ble_eq_true rfl, Nat.le_of_ble_eq_true rfl⟩) rfl rfl (Nat.le_of_ble_eq_true rfl) dC_order_39 ⟨Nat.le_of_ble_eq_true rfl, Nat.le_of_ble_eq_true rfl⟩) (fun q1 μ1 hq => ?_)
            obtain ⟨hm, hq⟩ := hq
            subst hm
            refine sx_last (j := j) C dC_order_42 1 rfl (CS_f9 hSL) (rfl) (hj4) (Nat.le_of_ble_eq_true rfl) ?_
            have hS3 : CS tc (sx_up μ (ad 9 0) (.inl (tc 1, 40, .inr (.inl (va_up sf' j q1))))) ad ro ur W u ln rf sc uk ul uf (va_up sf' j q1) ed := CS_sf hSL _
            refine sx_iinc (v := nI (j + 1)) (lv' := [some (.ref (ad 0 0)), some (.int x), some (.int (nI (j + 1))), none, none, none]) C dC_order_43 rfl (nI_1 j) (by decide) rfl rfl ?_
            refine sx_goto (tgt := 24) C dC_order_46 (by decide) ?_
            exact ih (j + 1) _ _ (by omega) (by omega) hS3 (all_step (fun i hi k => by rw [va_up_o _ _ (by omega)]; exact h1 i hi k) (fun k => by rw [va_up_s]; exact hq k))
      exact L24 _ 0 _ sf (Nat.lt_succ_self _) (Nat.zero_le _) hS (fun i hi => absurd hi (Nat.not_lt_zero _))
    · have hx : ∀ j, j < u → x ≠ nI j := fun j hj z => c9 (z ▸ (ab_in (n := u) (by omega) hj).2)
      exact sx_thr_ioe (text := "no such place") hl C hQ dC_order_12 dC_order_15 dC_order_16 dC_order_18 dC_order_21 (by simp [sxStr]) hno hlocks (Nat.le_of_ble_eq_true rfl) (Nat.le_of_ble_eq_true rfl) (Nat.le_of_ble_eq_true rfl) (Nat.le_of_ble_eq_true rfl) (Nat.le_of_ble_eq_true rfl) (Nat.le_of_ble_eq_true rfl) (⟨CInv_of hA hS hP, rfl, hx⟩)
