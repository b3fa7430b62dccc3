section CLB
variable {W : Nat} {S : Nat → Nat → Bool} {a b : Nat}
theorem cl_a (hW : W ≤ 16) (h : nI (cm W S a b) ≤ 0) : clB W S a b = false := by
  have := cm_lt hW S a b
  rw [i_le0, ab_0 (by omega)] at h
  unfold clB
  rw [decide_eq_false h, Bool.false_and, Bool.false_and]
theorem cl_b (h : lsB W S a b = true) : clB W S a b = false := by
  unfold clB
  rw [h, Bool.not_true, Bool.and_false, Bool.false_and]
theorem cl_c (h : lsB W S b a = true) : clB W S a b = false := by
  unfold clB
  rw [h, Bool.not_true, Bool.and_false]
theorem cl_d (hW : W ≤ 16) (h : ¬ nI (cm W S a b) ≤ 0) (h1 : lsB W S a b = false) (h2 : lsB W S b a = false) : clB W S a b = true := by
  have := cm_lt hW S a b
  rw [i_le0, ab_0 (by omega), Classical.not_not] at h
  unfold clB
  rw [decide_eq_true h, h1, h2]
  rfl
end CLB

set_option maxHeartbeats 4000000 in
set_option maxRecDepth 100000 in
/-- clashesIn -/
theorem c_M_clashesIn (l : Launch) (D : va_G) (tc : Nat → ClassId) (v : Int32) (ad : Nat → Nat) (W : Nat) (u : Nat) (th : Int32) (kn : Bool) (lst : Int32) (sb : Int32) (mk : Nat → Int32) (cd : Nat → Int32) (lk : Nat → Int32) (fl : Nat → Int32) (vr : Nat → Int32) (wd : Nat → Int32) (cn : Nat → Int32) (li : Nat → Int32) (od : Nat → Int32) (μ : sx_M) (hS : MS tc μ ad W u th kn lst sb mk cd lk fl vr wd cn li od) (S : Nat → Nat → Bool) (ed : Nat → Nat → Nat) (hA : AW W u S ed) (hP : MP W u S ed kn mk cd lk fl vr wd cn li) (hK : ∀ a, a < u → ∀ b, b < u → cn (40 * a + b) = nI (cm W S a b) ∧ li (40 * a + b) = b2i (lsB W S a b)) : sx_Mi l yM_clashesIn (Cond.code yM_clashesIn cM_clashesIn 7 (some .int) :: sxW) (rmL 0 0 0) D sxCl (sxT tc) sxE [.ref (ad 0), .int v] μ (fun r μ' => μ = μ' ∧ r = nI (clN W u S ed v)) 0 0 := by
  have hW := hA.1.2
  have hu := hA.2.1
  refine sx_ofiQ (cc := cM_clashesIn) (maxL := 7) (ret := (some .int)) (own := RM) sxE_ok (by decide) rfl rfl (Nat.le_of_ble_eq_true rfl) [some (.ref (ad 0)), some (.int v), none, none, none, none, none] 5 rfl (fun p e s m below meth c A Q hQ C hr hlocks hnm => ?_)
  refine sx_iconst (v := 0) C dM_clashesIn_0 (by decide) ?_
  refine sx_eqi (nI (prT (clM W S ed v) u 0)) (rfl) ?_
  refine sx_istore_n (lv' := [some (.ref (ad 0)), some (.int v), some (.int (nI (prT (clM W S ed v) u 0))), none, none, none, none]) C dM_clashesIn_1 rfl (by decide) rfl rfl ?_
  refine sx_iconst (v := 0) C dM_clashesIn_2 (by decide) ?_
  refine sx_eqi (nI 0) (rfl) ?_
  refine sx_istore_n (lv' := [some (.ref (ad 0)), some (.int v), some (.int (nI (prT (clM W S ed v) u 0))), some (.int (nI 0)), none, none, none]) C dM_clashesIn_3 rfl (by decide) rfl rfl ?_
  have L4 : ∀ (fu : Nat) (a : Nat), u - a < fu → (a ≤ u) → SW p l e (rmL 0 0 0) s m [.ref (ad 0), .int v].toArray below meth c 7 D sxCl A 0 0 Q μ 4 [some (.ref (ad 0)), some (.int v), some (.int (nI (prT (clM W S ed v) u a))), some (.int (nI a)), none, none, none] [] := by
    intro fu
    induction fu with
    | zero => intro _ h; exact absurd h (Nat.not_lt_zero _)
    | succ fu ih =>
      intro a hfu ha
      refine sx_iload_n C dM_clashesIn_4 rfl rfl ?_
      refine sx_aload_n C dM_clashesIn_5 rfl rfl ?_
      refine sx_getf (Cn := RM) (T := TM) (N := 17) C dM_clashesIn_6 (sx_in inM) rfl 4 (by decide) (sx_w C kF_M_52) (fun _ h => h) (MS_f0 hS) rfl ?_
      refine sx_icmp_ge (tgt := 142) C dM_clashesIn_9 (by decide) (fun c9 => ?_) (fun c9 => ?_)
      · have hc9 : u ≤ a := (nI_leI (by omega) (by omega)).mp c9
        obtain rfl : a = u := by omega
        refine sx_iload_n C dM_clashesIn_142 rfl rfl ?_
        exact sx_iretQ C hQ dM_clashesIn_143 hr hlocks (Nat.le_of_ble_eq_true rfl) (Nat.le_of_ble_eq_true rfl) (⟨rfl, rfl⟩)
      · have hc9 : ¬ u ≤ a := fun h => c9 ((nI_leI (by omega) (by omega)).mpr h)
        refine sx_iload_n C dM_clashesIn_12 rfl rfl ?_
        refine sx_iconst (v := 1) C dM_clashesIn_13 (by decide) ?_
        refine sx_iadd C dM_clashesIn_14 ?_
        refine sx_eqi (nI (a + 1)) (nI_1 a) ?_
        refine sx_istore (lv' := [some (.ref (ad 0)), some (.int v), some (.int (nI (prT (clM W S ed v) u a))), some (.int (nI a)), some (.int (nI (a + 1))), none, none]) C dM_clashesIn_15 (by decide) rfl rfl ?_
        refine sx_lvEq [some (.ref (ad 0)), some (.int v), some (.int (nI (prN (clM W S ed v) u a (a + 1)))), some (.int (nI a)), some (.int (nI (a + 1))), none, none] (by rw [show prN (clM W S ed v) u a (a + 1) = prT (clM W S ed v) u a from pn_i]) ?_
        have L17 : ∀ (fu2 : Nat) (b : Nat), u - b < fu2 → (a + 1 ≤ b) → (b ≤ u) → SW p l e (rmL 0 0 0) s m [.ref (ad 0), .int v].toArray below meth c 7 D sxCl A 0 0 Q μ 17 [some (.ref (ad 0)), some (.int v), some (.int (nI (prN (clM W S ed v) u a b))), some (.int (nI a)), some (.int (nI b)), none, none] [] := by
          intro fu2
          induction fu2 with
          | zero => intro _ h; exact absurd h (Nat.not_lt_zero _)
          | succ fu2 ih2 =>
            intro b hfu2 hb1 hb2
            refine sx_iload C dM_clashesIn_17 rfl ?_
            refine sx_aload_n C dM_clashesIn_19 rfl rfl ?_
            refine sx_getf (Cn := RM) (T := TM) (N := 17) C dM_clashesIn_20 (sx_in inM) rfl 4 (by decide) (sx_w C kF_M_52) (fun _ h => h) (MS_f0 hS) rfl ?_
            refine sx_icmp_ge (tgt := 136) C dM_clashesIn_23 (by decide) (fun c23 => ?_) (fun c23 => ?_)
            · have hc23 : u ≤ b := (nI_leI (by omega) (by omega)).mp c23
              have hbu : b = u := by omega
              refine sx_weak (lv' := [some (.ref (ad 0)), some (.int v), some (.int (nI (prN (clM W S ed v) u a b))), some (.int (nI a)), none, none, none]) (And.intro rfl (And.intro rfl (And.intro rfl (And.intro rfl trivial)))) ?_
              refine sx_iinc (v := nI (a + 1)) (lv' := [some (.ref (ad 0)), some (.int v), some (.int (nI (prN (clM W S ed v) u a b))), some (.int (nI (a + 1))), none, none, none]) C dM_clashesIn_136 rfl (nI_1 a) (by decide) rfl rfl ?_
              refine sx_goto (tgt := 4) C dM_clashesIn_139 (by decide) ?_
              have z := ih (a + 1) (by omega) (by omega)
              rw [show prT (clM W S ed v) u (a + 1) = prN (clM W S ed v) u a b from by rw [hbu]; rfl] at z
              exact z
            · have hc23 : ¬ u ≤ b := fun h => c23 ((nI_leI (by omega) (by omega)).mpr h)
              have J58 : SW p l e (rmL 0 0 0) s m [.ref (ad 0), .int v].toArray below meth c 7 D sxCl A 0 0 Q μ 58 [some (.ref (ad 0)), some (.int v), some (.int (nI (prN (clM W S ed v) u a b))), some (.int (nI a)), some (.int (nI b)), none, none] [.int (b2i (ndB ed v a && ndB ed v b))] := by
                refine sx_istore (lv' := [some (.ref (ad 0)), some (.int v), some (.int (nI (prN (clM W S ed v) u a b))), some (.int (nI a)), some (.int (nI b)), some (.int (b2i (ndB ed v a && ndB ed v b))), none]) C dM_clashesIn_58 (by decide) rfl rfl ?_
                have J110 : SW p l e (rmL 0 0 0) s m [.ref (ad 0), .int v].toArray below meth c 7 D sxCl A 0 0 Q μ 110 [some (.ref (ad 0)), some (.int v), some (.int (nI (prN (clM W S ed v) u a b))), some (.int (nI a)), some (.int (nI b)), some (.int (b2i (ndB ed v a && ndB ed v b))), none] [.int (b2i (clB W S a b))] := by
                  refine sx_istore (lv' := [some (.ref (ad 0)), some (.int v), some (.int (nI (prN (clM W S ed v) u a b))), some (.int (nI a)), some (.int (nI b)), some (.int (b2i (ndB ed v a && ndB ed v b))), some (.int (b2i (clB W S a b)))]) C dM_clashesIn_110 (by decide) rfl rfl ?_
                  refine sx_iload_n C dM_clashesIn_112 rfl rfl ?_
                  have J128 : SW p l e (rmL 0 0 0) s m [.ref (ad 0), .int v].toArray below meth c 7 D sxCl A 0 0 Q μ 128 [some (.ref (ad 0)), some (.int v), some (.int (nI (prN (clM W S ed v) u a b))), some (.int (nI a)), some (.int (nI b)), some (.int (b2i (ndB ed v a && ndB ed v b))), some (.int (b2i (clB W S a b)))] [.int (b2i (clM W S ed v a b)), .int (nI (prN (clM W S ed v) u a b))] := by
                    refine sx_iadd C dM_clashesIn_128 ?_
                    refine sx_eqi (nI (prN (clM W S ed v) u a (b + 1))) (pn_b) ?_
                    refine sx_istore_n (lv' := [some (.ref (ad 0)), some (.int v), some (.int (nI (prN (clM W S ed v) u a (b + 1)))), some (.int (nI a)), some (.int (nI b)), some (.int (b2i (ndB ed v a && ndB ed v b))), some (.int (b2i (clB W S a b)))]) C dM_clashesIn_129 rfl (by decide) rfl rfl ?_
                    refine sx_weak (lv' := [some (.ref (ad 0)), some (.int v), some (.int (nI (prN (clM W S ed v) u a (b + 1)))), some (.int (nI a)), some (.int (nI b)), none, none]) (And.intro rfl (And.intro rfl (And.intro rfl (And.intro rfl (And.intro rfl trivial))))) ?_
                    refine sx_iinc (v := nI (b + 1)) (lv' := [some (.ref (ad 0)), some (.int v), some (.int (nI (prN (clM W S ed v) u a (b + 1)))), some (.int (nI a)), some (.int (nI (b + 1))), none, none]) C dM_clashesIn_130 rfl (nI_1 b) (by decide) rfl rfl ?_
                    refine sx_goto (tgt := 17) C dM_clashesIn_133 (by decide) ?_
                    exact ih2 (b + 1) (by omega) (by omega) (by omega)
                  refine sx_iload C dM_clashesIn_113 rfl ?_
                  refine sx_if_eq (tgt := 127) C dM_clashesIn_115 (by decide) (fun c115 => ?_) (fun c115 => ?_)
                  · refine sx_iconst (v := 0) C dM_clashesIn_127 (by decide) ?_
                    refine sx_eqi ((b2i (clM W S ed v a b))) (by rw [cl_at hb1]; first | (rw [b2i_z.mp c115]; rfl) | (rw [b2i_ne.mp c115, b2i_z.mp c120]; rfl) | (rw [b2i_ne.mp c115, b2i_ne.mp c120]; rfl)) ?_
                    exact J128
                  · refine sx_iload C dM_clashesIn_118 rfl ?_
                    refine sx_if_eq (tgt := 127) C dM_clashesIn_120 (by decide) (fun c120 => ?_) (fun c120 => ?_)
                    · refine sx_iconst (v := 0) C dM_clashesIn_127 (by decide) ?_
                      refine sx_eqi ((b2i (clM W S ed v a b))) (by rw [cl_at hb1]; first | (rw [b2i_z.mp c115]; rfl) | (rw [b2i_ne.mp c115, b2i_z.mp c120]; rfl) | (rw [b2i_ne.mp c115, b2i_ne.mp c120]; rfl)) ?_
                      exact J128
                    · refine sx_iconst (v := 1) C dM_clashesIn_123 (by decide) ?_
                      refine sx_goto (tgt := 128) C dM_clashesIn_124 (by decide) ?_
                      refine sx_eqi ((b2i (clM W S ed v a b))) (by rw [cl_at hb1]; first | (rw [b2i_z.mp c115]; rfl) | (rw [b2i_ne.mp c115, b2i_z.mp c120]; rfl) | (rw [b2i_ne.mp c115, b2i_ne.mp c120]; rfl)) ?_
                      exact J128
                refine sx_aload_n C dM_clashesIn_60 rfl rfl ?_
                refine sx_getf (Cn := RM) (T := TM) (N := 17) C dM_clashesIn_61 (sx_in inM) rfl 12 (by decide) (sx_w C kF_M_29) (fun _ h => h) (MS_f0 hS) rfl ?_
                refine sx_bipush (v := 40) C dM_clashesIn_64 (by decide) ?_
                refine sx_iload_n C dM_clashesIn_66 rfl rfl ?_
                refine sx_imul C dM_clashesIn_67 ?_
                refine sx_eqi (nI (40 * a)) (nI_mul 40 a) ?_
                refine sx_iload C dM_clashesIn_68 rfl ?_
                refine sx_iadd C dM_clashesIn_70 ?_
                refine sx_eqi (nI (40 * a + b)) (nI_add _ _) ?_
                refine sx_iald (j := (40 * a + b)) C dM_clashesIn_71 0 rfl (MS_f7 hS) (rfl) ((by omega)) (Nat.le_of_ble_eq_true rfl) ?_
                refine sx_eqi (nI (cm W S a b)) ((hK a (by omega) b (by omega)).1) ?_
                refine sx_if_le (tgt := 109) C dM_clashesIn_72 (by decide) (fun c72 => ?_) (fun c72 => ?_)
                · refine sx_iconst (v := 0) C dM_clashesIn_109 (by decide) ?_
                  refine sx_eqi ((b2i (clB W S a b))) (by first | (rw [cl_a hW c72]; rfl) | (rw [cl_b (b2i_ne.mp c87)]; rfl) | (rw [cl_c (b2i_ne.mp c102)]; rfl) | (rw [cl_d hW c72 (b2i_z.mp c87) (b2i_z.mp c102)]; rfl)) ?_
                  exact J110
                · refine sx_aload_n C dM_clashesIn_75 rfl rfl ?_
                  refine sx_getf (Cn := RM) (T := TM) (N := 17) C dM_clashesIn_76 (sx_in inM) rfl 13 (by decide) (sx_w C kF_M_32) (fun _ h => h) (MS_f0 hS) rfl ?_
                  refine sx_bipush (v := 40) C dM_clashesIn_79 (by decide) ?_
                  refine sx_iload_n C dM_clashesIn_81 rfl rfl ?_
                  refine sx_imul C dM_clashesIn_82 ?_
                  refine sx_eqi (nI (40 * a)) (nI_mul 40 a) ?_
                  refine sx_iload C dM_clashesIn_83 rfl ?_
                  refine sx_iadd C dM_clashesIn_85 ?_
                  refine sx_eqi (nI (40 * a + b)) (nI_add _ _) ?_
                  refine sx_zald (j := (40 * a + b)) C dM_clashesIn_86 4 rfl (MS_f8 hS) (rfl) ((by omega)) (Nat.le_of_ble_eq_true rfl) ?_
                  refine sx_eqi (b2i (lsB W S a b)) ((hK a (by omega) b (by omega)).2) ?_
                  refine sx_if_ne (tgt := 109) C dM_clashesIn_87 (by decide) (fun c87 => ?_) (fun c87 => ?_)
                  · refine sx_iconst (v := 0) C dM_clashesIn_109 (by decide) ?_
                    refine sx_eqi ((b2i (clB W S a b))) (by first | (rw [cl_a hW c72]; rfl) | (rw [cl_b (b2i_ne.mp c87)]; rfl) | (rw [cl_c (b2i_ne.mp c102)]; rfl) | (rw [cl_d hW c72 (b2i_z.mp c87) (b2i_z.mp c102)]; rfl)) ?_
                    exact J110
                  · refine sx_aload_n C dM_clashesIn_90 rfl rfl ?_
                    refine sx_getf (Cn := RM) (T := TM) (N := 17) C dM_clashesIn_91 (sx_in inM) rfl 13 (by decide) (sx_w C kF_M_32) (fun _ h => h) (MS_f0 hS) rfl ?_
                    refine sx_bipush (v := 40) C dM_clashesIn_94 (by decide) ?_
                    refine sx_iload C dM_clashesIn_96 rfl ?_
                    refine sx_imul C dM_clashesIn_98 ?_
                    refine sx_eqi (nI (40 * b)) (nI_mul 40 b) ?_
                    refine sx_iload_n C dM_clashesIn_99 rfl rfl ?_
                    refine sx_iadd C dM_clashesIn_100 ?_
                    refine sx_eqi (nI (40 * b + a)) (nI_add _ _) ?_
                    refine sx_zald (j := (40 * b + a)) C dM_clashesIn_101 4 rfl (MS_f8 hS) (rfl) ((by omega)) (Nat.le_of_ble_eq_true rfl) ?_
                    refine sx_eqi (b2i (lsB W S b a)) ((hK b (by omega) a (by omega)).2) ?_
                    refine sx_if_ne (tgt := 109) C dM_clashesIn_102 (by decide) (fun c102 => ?_) (fun c102 => ?_)
                    · refine sx_iconst (v := 0) C dM_clashesIn_109 (by decide) ?_
                      refine sx_eqi ((b2i (clB W S a b))) (by first | (rw [cl_a hW c72]; rfl) | (rw [cl_b (b2i_ne.mp c87)]; rfl) | (rw [cl_c (b2i_ne.mp c102)]; rfl) | (rw [cl_d hW c72 (b2i_z.mp c87) (b2i_z.mp c102)]; rfl)) ?_
                      exact J110
                    · refine sx_iconst (v := 1) C dM_clashesIn_105 (by decide) ?_
                      refine sx_goto (tgt := 110) C dM_clashesIn_106 (by decide) ?_
                      refine sx_eqi ((b2i (clB W S a b))) (by first | (rw [cl_a hW c72]; rfl) | (rw [cl_b (b2i_ne.mp c87)]; rfl) | (rw [cl_c (b2i_ne.mp c102)]; rfl) | (rw [cl_d hW c72 (b2i_z.mp c87) (b2i_z.mp c102)]; rfl)) ?_
                      exact J110
              refine sx_aload_n C dM_clashesIn_26 rfl rfl ?_
              refine sx_getf (Cn := RM) (T := TM) (N := 17) C dM_clashesIn_27 (sx_in inM) rfl 9 (by decide) (sx_w C kF_M_22) (fun _ h => h) (MS_f0 hS) rfl ?_
              refine sx_iload_n C dM_clashesIn_30 rfl rfl ?_
              refine sx_iald (j := a) C dM_clashesIn_31 0 rfl (MS_f5 hS) (rfl) ((by omega)) (Nat.le_of_ble_eq_true rfl) ?_
              refine sx_eqi (nI (ed 4 a)) ((hP.1 a (by omega)).2.2.2.2) ?_
              refine sx_iload_n C dM_clashesIn_32 rfl rfl ?_
              refine sx_iconst (v := -1) C dM_clashesIn_33 (by decide) ?_
              refine sx_ixor C dM_clashesIn_34 ?_
              refine sx_iand C dM_clashesIn_35 ?_
              refine sx_if_ne (tgt := 57) C dM_clashesIn_36 (by decide) (fun c36 => ?_) (fun c36 => ?_)
              · refine sx_iconst (v := 0) C dM_clashesIn_57 (by decide) ?_
                refine sx_eqi ((b2i (ndB ed v a && ndB ed v b))) (by first | (rw [show ndB ed v a = false from decide_eq_false c36]; rfl) | (rw [show ndB ed v a = true from decide_eq_true c36, show ndB ed v b = false from decide_eq_false c50]; rfl) | (rw [show ndB ed v a = true from decide_eq_true c36, show ndB ed v b = true from decide_eq_true c50]; rfl)) ?_
                exact J58
              · refine sx_aload_n C dM_clashesIn_39 rfl rfl ?_
                refine sx_getf (Cn := RM) (T := TM) (N := 17) C dM_clashesIn_40 (sx_in inM) rfl 9 (by decide) (sx_w C kF_M_22) (fun _ h => h) (MS_f0 hS) rfl ?_
                refine sx_iload C dM_clashesIn_43 rfl ?_
                refine sx_iald (j := b) C dM_clashesIn_45 0 rfl (MS_f5 hS) (rfl) ((by omega)) (Nat.le_of_ble_eq_true rfl) ?_
                refine sx_eqi (nI (ed 4 b)) ((hP.1 b (by omega)).2.2.2.2) ?_
                refine sx_iload_n C dM_clashesIn_46 rfl rfl ?_
                refine sx_iconst (v := -1) C dM_clashesIn_47 (by decide) ?_
                refine sx_ixor C dM_clashesIn_48 ?_
                refine sx_iand C dM_clashesIn_49 ?_
                refine sx_if_ne (tgt := 57) C dM_clashesIn_50 (by decide) (fun c50 => ?_) (fun c50 => ?_)
                · refine sx_iconst (v := 0) C dM_clashesIn_57 (by decide) ?_
                  refine sx_eqi ((b2i (ndB ed v a && ndB ed v b))) (by first | (rw [show ndB ed v a = false from decide_eq_false c36]; rfl) | (rw [show ndB ed v a = true from decide_eq_true c36, show ndB ed v b = false from decide_eq_false c50]; rfl) | (rw [show ndB ed v a = true from decide_eq_true c36, show ndB ed v b = true from decide_eq_true c50]; rfl)) ?_
                  exact J58
                · refine sx_iconst (v := 1) C dM_clashesIn_53 (by decide) ?_
                  refine sx_goto (tgt := 58) C dM_clashesIn_54 (by decide) ?_
                  refine sx_eqi ((b2i (ndB ed v a && ndB ed v b))) (by first | (rw [show ndB ed v a = false from decide_eq_false c36]; rfl) | (rw [show ndB ed v a = true from decide_eq_true c36, show ndB ed v b = false from decide_eq_false c50]; rfl) | (rw [show ndB ed v a = true from decide_eq_true c36, show ndB ed v b = true from decide_eq_true c50]; rfl)) ?_
                  exact J58
        exact L17 _ (a + 1) (Nat.lt_succ_self _) (Nat.le_refl _) (by omega)
  exact L4 _ 0 (Nat.lt_succ_self _) (Nat.zero_le _)

set_option maxHeartbeats 4000000 in
set_option maxRecDepth 100000 in
/-- clashes -/
theorem c_M_clashes (l : Launch) (D : va_G) (tc : Nat → ClassId) (x : Int32) (ad : Nat → Nat) (W : Nat) (u : Nat) (th : Int32) (kn : Bool) (lst : Int32) (sb : Int32) (mk : Nat → Int32) (cd : Nat → Int32) (lk : Nat → Int32) (fl : Nat → Int32) (vr : Nat → Int32) (wd : Nat → Int32) (cn : Nat → Int32) (li : Nat → Int32) (od : Nat → Int32) (μ : sx_M) (hS : MS tc μ ad W u th kn lst sb mk cd lk fl vr wd cn li od) (S : Nat → Nat → Bool) (ed : Nat → Nat → Nat) (hA : AW W u S ed) (hP : MP W u S ed kn mk cd lk fl vr wd cn li) : sx_Mi l yM_clashes (Cond.code yM_clashes cM_clashes 2 (some .int) :: sxW) (rmL 3 0 0) D sxCl (sxT tc) sxE [.ref (ad 0), .int x] μ (fun r μ' => ∃ k, R_cls W u S ed x k r ∧ MInv tc μ' (ad 0) W u S ed k) 0 0 := by
  have hW := hA.1.2
  have hu := hA.2.1
  refine sx_ofiQ (cc := cM_clashes) (maxL := 2) (ret := (some .int)) (own := RM) sxE_ok (by decide) rfl rfl (Nat.le_of_ble_eq_true rfl) [some (.ref (ad 0)), some (.int x)] 0 rfl (fun p e s m below meth c A Q hQ C hr hlocks hnm => ?_)
  refine sx_aload_n C dM_clashes_0 rfl rfl ?_
  have J17 : SW p l e (rmL 3 0 0) s m [.ref (ad 0), .int x].toArray below meth c 2 D sxCl A 0 0 Q μ 17 [some (.ref (ad 0)), some (.int x)] [.int (b2i (!inB x 0 255)), .ref (ad 0)] := by
    refine sx_iconst (v := 0) C dM_clashes_17 (by decide) ?_
    refine sx_iconst (v := 0) C dM_clashes_18 (by decide) ?_
    refine sx_calli C (sx_runV (As := [.int (b2i (!inB x 0 255)), .int 0, .int 0]) (rest := []) C sx_all (c_M_fails l D tc (!inB x 0 255) false false ad W u th kn lst sb mk cd lk fl vr wd cn li od μ hS) (ci := 3) rfl (MS_f0 hS) (sx_cwV C 3 kM_M_69 ki_M_fails ke_M_fails kn_M kc_M_fails rfl rfl (by decide +kernel) ⟨Nat.le_of_ble_eq_true rfl, Nat.le_of_ble_eq_true rfl⟩) rfl rfl (Nat.le_of_ble_eq_true rfl) dM_clashes_19 ⟨Nat.le_of_ble_eq_true rfl, Nat.le_of_ble_eq_true rfl⟩) (fun q9 μ9 h9 => ?_)
    obtain ⟨h9, hT9⟩ := h9
    refine sx_eqi (b2i ((!inB x 0 255) || false || false)) (h9) ?_
    refine sx_if_eq (tgt := 27) C dM_clashes_22 (by decide) (fun c22 => ?_) (fun c22 => ?_)
    · obtain ⟨t0, t1, t2, t3⟩ := th_0 (b2i_z.mp c22)
      rw [t0] at hT9
      refine sx_aload_n C dM_clashes_27 rfl rfl ?_
      refine sx_callv C (sx_runV (As := []) (rest := []) C sx_all (c_M_know l D tc ad W u 0 kn lst sb mk cd lk fl vr wd cn li od _ hT9 S ed hA hP) (ci := 3) rfl (MS_f0 hT9) (sx_cwV C 0 kM_M_97 ki_M_know ke_M_know kn_M kc_M_know rfl rfl (by decide +kernel) ⟨Nat.le_of_ble_eq_true rfl, Nat.le_of_ble_eq_true rfl⟩) rfl rfl (Nat.le_of_ble_eq_true rfl) dM_clashes_28 ⟨Nat.le_of_ble_eq_true rfl, Nat.le_of_ble_eq_true rfl⟩) (fun μ1 h1 => ?_)
      obtain ⟨cn1, li1, hS1, hP1⟩ := h1
      have hK := hP1.2.2 rfl
      refine sx_aload_n C dM_clashes_31 rfl rfl ?_
      refine sx_iload_n C dM_clashes_32 rfl rfl ?_
      refine sx_calli C (sx_runV (As := [.int x]) (rest := []) C sx_all (c_M_clashesIn l D tc x ad W u 0 true lst sb mk cd lk fl vr wd cn1 li1 od μ1 hS1 S ed hA hP1 hK) (ci := 3) rfl (MS_f0 hS1) (sx_cwV C 1 kM_M_106 ki_M_clashesIn ke_M_clashesIn kn_M kc_M_clashesIn rfl rfl (by decide +kernel) ⟨Nat.le_of_ble_eq_true rfl, Nat.le_of_ble_eq_true rfl⟩) rfl rfl (Nat.le_of_ble_eq_true rfl) dM_clashes_33 ⟨Nat.le_of_ble_eq_true rfl, Nat.le_of_ble_eq_true rfl⟩) (fun q4 μ4 h4 => ?_)
      obtain ⟨hm, h4⟩ := h4
      subst hm
      refine sx_eqi (nI (clN W u S ed x)) (h4) ?_
      exact sx_iretQ C hQ dM_clashes_36 hr hlocks (Nat.le_of_ble_eq_true rfl) (Nat.le_of_ble_eq_true rfl) (⟨0, Or.inl ⟨rfl, vaB_iff.mp (th_f t1), rfl⟩, MInv_of hA hS1 hP1⟩)
    · obtain ⟨z2, z1⟩ := th_1 (b2i_ne.mp c22)
      refine sx_iconst (v := 0) C dM_clashes_25 (by decide) ?_
      exact sx_iretQ C hQ dM_clashes_26 hr hlocks (Nat.le_of_ble_eq_true rfl) (Nat.le_of_ble_eq_true rfl) (⟨_, Or.inr ⟨z2, vaB_ff (th_n z1)⟩, MInv_of hA hT9 hP⟩)
  refine sx_iload_n C dM_clashes_1 rfl rfl ?_
  refine sx_iconst (v := 0) C dM_clashes_2 (by decide) ?_
  refine sx_sipush (v := 255) C dM_clashes_3 (by decide) ?_
  refine sx_calli C (sx_runS (As := [.int x, .int 0, .int 255]) (rest := [.ref (ad 0)]) C sx_all (c_M_in l D tc x 0 255 μ) (sx_cwS C 3 kM_M_55 ks_M_in kn_M kc_M_in rfl rfl (by decide +kernel) ⟨Nat.le_of_ble_eq_true rfl, Nat.le_of_ble_eq_true rfl⟩) rfl rfl (Nat.le_of_ble_eq_true rfl) dM_clashes_6 ⟨Nat.le_of_ble_eq_true rfl, Nat.le_of_ble_eq_true rfl⟩) (fun q2 μ2 h2 => ?_)
  obtain ⟨hm, h2⟩ := h2
  subst hm
  refine sx_eqi (b2i (inB x 0 255)) (h2) ?_
  refine sx_if_ne (tgt := 16) C dM_clashes_9 (by decide) (fun c9 => ?_) (fun c9 => ?_)
  · refine sx_iconst (v := 0) C dM_clashes_16 (by decide) ?_
    refine sx_eqi ((b2i (!inB x 0 255))) (by first | (rw [b2i_z.mp c9]; rfl) | (rw [b2i_ne.mp c9]; rfl)) ?_
    exact J17
  · refine sx_iconst (v := 1) C dM_clashes_12 (by decide) ?_
    refine sx_goto (tgt := 17) C dM_clashes_13 (by decide) ?_
    refine sx_eqi ((b2i (!inB x 0 255))) (by first | (rw [b2i_z.mp c9]; rfl) | (rw [b2i_ne.mp c9]; rfl)) ?_
    exact J17

def bt (W u : Nat) (S : Nat → Nat → Bool) (ed : Nat → Nat → Nat) (t s : Nat) : Nat := if clN W u S ed (nI t) < clN W u S ed (nI s) then s else t
theorem bt_1 {W u : Nat} {S : Nat → Nat → Bool} {ed : Nat → Nat → Nat} {t s : Nat} (hu : u ≤ 40) (h : nI (clN W u S ed (nI s)) ≤ nI (clN W u S ed (nI t))) : bt W u S ed t s = t := by
  have h1 := cl_le (W := W) (S := S) (ed := ed) (v := nI s) hu
  have h2 := cl_le (W := W) (S := S) (ed := ed) (v := nI t) hu
  have := (nI_leI (by omega) (by omega)).mp h
  exact if_neg (by omega)
theorem bt_2 {W u : Nat} {S : Nat → Nat → Bool} {ed : Nat → Nat → Nat} {t s : Nat} (hu : u ≤ 40) (h : ¬ nI (clN W u S ed (nI s)) ≤ nI (clN W u S ed (nI t))) : bt W u S ed t s = s := by
  have h1 := cl_le (W := W) (S := S) (ed := ed) (v := nI s) hu
  have h2 := cl_le (W := W) (S := S) (ed := ed) (v := nI t) hu
  exact if_pos (Nat.not_le.mp (fun z => h ((nI_leI (by omega) (by omega)).mpr z)))
theorem bt_s {W u : Nat} {S : Nat → Nat → Bool} {ed : Nat → Nat → Nat} {t s : Nat} (ht : t < s) (h1 : ∀ j, j < s → clN W u S ed (nI j) ≤ clN W u S ed (nI t)) (h2 : ∀ j, j < t → clN W u S ed (nI j) < clN W u S ed (nI t)) : bt W u S ed t s < s + 1 ∧ (∀ j, j < s + 1 → clN W u S ed (nI j) ≤ clN W u S ed (nI (bt W u S ed t s))) ∧ ∀ j, j < bt W u S ed t s → clN W u S ed (nI j) < clN W u S ed (nI (bt W u S ed t s)) := by
  by_cases h : clN W u S ed (nI t) < clN W u S ed (nI s)
  · have e : bt W u S ed t s = s := if_pos h
    rw [e]
    refine ⟨by omega, fun j hj => ?_, fun j hj => ?_⟩
    · by_cases z : j = s
      · rw [z]; exact Nat.le_refl _
      · have := h1 j (by omega); omega
    · have := h1 j hj; omega
  · have e : bt W u S ed t s = t := if_neg h
    rw [e]
    refine ⟨by omega, fun j hj => ?_, h2⟩
    by_cases z : j = s
    · rw [z]; omega
    · exact h1 j (by omega)

set_option maxHeartbeats 4000000 in
set_option maxRecDepth 100000 in
/-- worst -/
theorem c_M_worst (l : Launch) (D : va_G) (tc : Nat → ClassId) (ad : Nat → Nat) (W : Nat) (u : Nat) (th : Int32) (kn : Bool) (lst : Int32) (sb : Int32) (mk : Nat → Int32) (cd : Nat → Int32) (lk : Nat → Int32) (fl : Nat → Int32) (vr : Nat → Int32) (wd : Nat → Int32) (cn : Nat → Int32) (li : Nat → Int32) (od : Nat → Int32) (μ : sx_M) (hS : MS tc μ ad W u th kn lst sb mk cd lk fl vr wd cn li od) (S : Nat → Nat → Bool) (ed : Nat → Nat → Nat) (hA : AW W u S ed) (hP : MP W u S ed kn mk cd lk fl vr wd cn li) : sx_Mi l yM_worst (Cond.code yM_worst cM_worst 5 (some .int) :: sxW) (rmL 3 0 0) D sxCl (sxT tc) sxE [.ref (ad 0)] μ (fun r μ' => (∃ t, wsT W u S ed t ∧ r = nI t) ∧ MInv tc μ' (ad 0) W u S ed 0) 0 0 := by
  have hW := hA.1.2
  have hu := hA.2.1
  refine sx_ofiQ (cc := cM_worst) (maxL := 5) (ret := (some .int)) (own := RM) sxE_ok (by decide) rfl rfl (Nat.le_of_ble_eq_true rfl) [some (.ref (ad 0)), none, none, none, none] 4 rfl (fun p e s m below meth c A Q hQ C hr hlocks hnm => ?_)
  refine sx_aload_n C dM_worst_0 rfl rfl ?_
  refine sx_iconst (v := 0) C dM_worst_1 (by decide) ?_
  refine sx_putf (Cn := RM) (T := TM) (N := 17) (ty := .int) (fs' := [.int 0, .int (nI W), .int (nI (nRw W)), .int (alM W), .int (nI u), .ref (ad 1), .ref (ad 2), .ref (ad 3), .ref (ad 4), .ref (ad 5), .ref (ad 6), .int (b2i kn), .ref (ad 7), .ref (ad 8), .ref (ad 9), .int lst, .int sb]) C dM_worst_2 (sx_in inM) tM tM_ok nM rfl 0 (by decide) (sx_w C kF_M_49) (fun _ h => h) rfl (by decide +kernel) rfl rfl (MS_f0 hS) (by simp) rfl ?_
  have hS0 : MS tc (sx_up μ (ad 0) (.inr (3, [.int 0, .int (nI W), .int (nI (nRw W)), .int (alM W), .int (nI u), .ref (ad 1), .ref (ad 2), .ref (ad 3), .ref (ad 4), .ref (ad 5), .ref (ad 6), .int (b2i kn), .ref (ad 7), .ref (ad 8), .ref (ad 9), .int lst, .int sb]))) ad W u 0 kn lst sb mk cd lk fl vr wd cn li od := MS_th hS 0
  refine sx_aload_n C dM_worst_5 rfl rfl ?_
  refine sx_callv C (sx_runV (As := []) (rest := []) C sx_all (c_M_know l D tc ad W u 0 kn lst sb mk cd lk fl vr wd cn li od _ hS0 S ed hA hP) (ci := 3) rfl (MS_f0 hS0) (sx_cwV C 0 kM_M_97 ki_M_know ke_M_know kn_M kc_M_know rfl rfl (by decide +kernel) ⟨Nat.le_of_ble_eq_true rfl, Nat.le_of_ble_eq_true rfl⟩) rfl rfl (Nat.le_of_ble_eq_true rfl) dM_worst_6 ⟨Nat.le_of_ble_eq_true rfl, Nat.le_of_ble_eq_true rfl⟩) (fun μ1 h1 => ?_)
  obtain ⟨cn1, li1, hS1, hP1⟩ := h1
  have hK := hP1.2.2 rfl
  refine sx_iconst (v := 0) C dM_worst_9 (by decide) ?_
  refine sx_eqi (nI 0) (rfl) ?_
  refine sx_istore_n (lv' := [some (.ref (ad 0)), some (.int (nI 0)), none, none, none]) C dM_worst_10 rfl (by decide) rfl rfl ?_
  refine sx_aload_n C dM_worst_11 rfl rfl ?_
  refine sx_iconst (v := 0) C dM_worst_12 (by decide) ?_
  refine sx_eqi (nI 0) (rfl) ?_
  refine sx_calli C (sx_runV (As := [.int (nI 0)]) (rest := []) C sx_all (c_M_clashesIn l D tc (nI 0) ad W u 0 true lst sb mk cd lk fl vr wd cn1 li1 od μ1 hS1 S ed hA hP1 hK) (ci := 3) rfl (MS_f0 hS1) (sx_cwV C 1 kM_M_106 ki_M_clashesIn ke_M_clashesIn kn_M kc_M_clashesIn rfl rfl (by decide +kernel) ⟨Nat.le_of_ble_eq_true rfl, Nat.le_of_ble_eq_true rfl⟩) rfl rfl (Nat.le_of_ble_eq_true rfl) dM_worst_13 ⟨Nat.le_of_ble_eq_true rfl, Nat.le_of_ble_eq_true rfl⟩) (fun q4 μ4 h4 => ?_)
  obtain ⟨hm, h4⟩ := h4
  subst hm
  refine sx_eqi (nI (clN W u S ed (nI 0))) (h4) ?_
  refine sx_istore_n (lv' := [some (.ref (ad 0)), some (.int (nI 0)), some (.int (nI (clN W u S ed (nI 0)))), none, none]) C dM_worst_16 rfl (by decide) rfl rfl ?_
  refine sx_iconst (v := 1) C dM_worst_17 (by decide) ?_
  refine sx_eqi (nI 1) (rfl) ?_
  refine sx_istore_n (lv' := [some (.ref (ad 0)), some (.int (nI 0)), some (.int (nI (clN W u S ed (nI 0)))), some (.int (nI 1)), none]) C dM_worst_18 rfl (by decide) rfl rfl ?_
  have L19 : ∀ (fu : Nat) (s1 t : Nat), 256 - s1 < fu → (s1 ≤ 256) → (t < s1) → (∀ j, j < s1 → clN W u S ed (nI j) ≤ clN W u S ed (nI t)) → (∀ j, j < t → clN W u S ed (nI j) < clN W u S ed (nI t)) → SW p l e (rmL 3 0 0) s m [.ref (ad 0)].toArray below meth c 5 D sxCl A 0 0 Q μ1 19 [some (.ref (ad 0)), some (.int (nI t)), some (.int (nI (clN W u S ed (nI t)))), some (.int (nI s1)), none] [] := by
    intro fu
    induction fu with
    | zero => intro _ _ h; exact absurd h (Nat.not_lt_zero _)
    | succ fu ih =>
      intro s1 t hfu hs ht w1 w2
      refine sx_iload_n C dM_worst_19 rfl rfl ?_
      refine sx_sipush (v := 256) C dM_worst_20 (by decide) ?_
      refine sx_icmp_ge (tgt := 64) C dM_worst_23 (by decide) (fun c23 => ?_) (fun c23 => ?_)
      · have hc : 256 ≤ s1 := (nI_leI (a := 256) (by omega) (by omega)).mp c23
        obtain rfl : s1 = 256 := by omega
        refine sx_iload_n C dM_worst_64 rfl rfl ?_
        exact sx_iretQ C hQ dM_worst_65 hr hlocks (Nat.le_of_ble_eq_true rfl) (Nat.le_of_ble_eq_true rfl) (⟨⟨t, ⟨ht, w1, w2⟩, rfl⟩, MInv_of hA hS1 hP1⟩)
      · have hc : ¬ 256 ≤ s1 := fun h => c23 ((nI_leI (a := 256) (by omega) (by omega)).mpr h)
        refine sx_aload_n C dM_worst_26 rfl rfl ?_
        refine sx_iload_n C dM_worst_27 rfl rfl ?_
        refine sx_calli C (sx_runV (As := [.int (nI s1)]) (rest := []) C sx_all (c_M_clashesIn l D tc (nI s1) ad W u 0 true lst sb mk cd lk fl vr wd cn1 li1 od μ1 hS1 S ed hA hP1 hK) (ci := 3) rfl (MS_f0 hS1) (sx_cwV C 1 kM_M_106 ki_M_clashesIn ke_M_clashesIn kn_M kc_M_clashesIn rfl rfl (by decide +kernel) ⟨Nat.le_of_ble_eq_true rfl, Nat.le_of_ble_eq_true rfl⟩) rfl rfl (Nat.le_of_ble_eq_true rfl) dM_worst_28 ⟨Nat.le_of_ble_eq_true rfl, Nat.le_of_ble_eq_true rfl⟩) (fun q5 μ5 h5 => ?_)
        obtain ⟨hm, h5⟩ := h5
        subst hm
        refine sx_eqi (nI (clN W u S ed (nI s1))) (h5) ?_
        refine sx_istore (lv' := [some (.ref (ad 0)), some (.int (nI t)), some (.int (nI (clN W u S ed (nI t)))), some (.int (nI s1)), some (.int (nI (clN W u S ed (nI s1))))]) C dM_worst_31 (by decide) rfl rfl ?_
        have J44 : SW p l e (rmL 3 0 0) s m [.ref (ad 0)].toArray below meth c 5 D sxCl A 0 0 Q μ1 44 [some (.ref (ad 0)), some (.int (nI t)), some (.int (nI (clN W u S ed (nI t)))), some (.int (nI s1)), some (.int (nI (clN W u S ed (nI s1))))] [.int (nI (bt W u S ed t s1))] := by
          refine sx_istore_n (lv' := [some (.ref (ad 0)), some (.int (nI (bt W u S ed t s1))), some (.int (nI (clN W u S ed (nI t)))), some (.int (nI s1)), some (.int (nI (clN W u S ed (nI s1))))]) C dM_worst_44 rfl (by decide) rfl rfl ?_
          have J57 : SW p l e (rmL 3 0 0) s m [.ref (ad 0)].toArray below meth c 5 D sxCl A 0 0 Q μ1 57 [some (.ref (ad 0)), some (.int (nI (bt W u S ed t s1))), some (.int (nI (clN W u S ed (nI t)))), some (.int (nI s1)), some (.int (nI (clN W u S ed (nI s1))))] [.int (nI (clN W u S ed (nI (bt W u S ed t s1))))] := by
            refine sx_istore_n (lv' := [some (.ref (ad 0)), some (.int (nI (bt W u S ed t s1))), some (.int (nI (clN W u S ed (nI (bt W u S ed t s1))))), some (.int (nI s1)), some (.int (nI (clN W u S ed (nI s1))))]) C dM_worst_57 rfl (by decide) rfl rfl ?_
            refine sx_weak (lv' := [some (.ref (ad 0)), some (.int (nI (bt W u S ed t s1))), some (.int (nI (clN W u S ed (nI (bt W u S ed t s1))))), some (.int (nI s1)), none]) (And.intro rfl (And.intro rfl (And.intro rfl (And.intro rfl trivial)))) ?_
            refine sx_iinc (v := nI (s1 + 1)) (lv' := [some (.ref (ad 0)), some (.int (nI (bt W u S ed t s1))), some (.int (nI (clN W u S ed (nI (bt W u S ed t s1))))), some (.int (nI (s1 + 1))), none]) C dM_worst_58 rfl (nI_1 s1) (by decide) rfl rfl ?_
            refine sx_goto (tgt := 19) C dM_worst_61 (by decide) ?_
            obtain ⟨w3, w4, w5⟩ := bt_s ht w1 w2
            exact ih (s1 + 1) (bt W u S ed t s1) (by omega) (by omega) w3 w4 w5
          refine sx_iload C dM_worst_45 rfl ?_
          refine sx_iload_n C dM_worst_47 rfl rfl ?_
          refine sx_icmp_le (tgt := 56) C dM_worst_48 (by decide) (fun c48 => ?_) (fun c48 => ?_)
          · refine sx_iload_n C dM_worst_56 rfl rfl ?_
            refine sx_eqi ((nI (clN W u S ed (nI (bt W u S ed t s1))))) (by first | rw [bt_1 hu c48] | rw [bt_2 hu c48]) ?_
            exact J57
          · refine sx_iload C dM_worst_51 rfl ?_
            refine sx_goto (tgt := 57) C dM_worst_53 (by decide) ?_
            refine sx_eqi ((nI (clN W u S ed (nI (bt W u S ed t s1))))) (by first | rw [bt_1 hu c48] | rw [bt_2 hu c48]) ?_
            exact J57
        refine sx_iload C dM_worst_33 rfl ?_
        refine sx_iload_n C dM_worst_35 rfl rfl ?_
        refine sx_icmp_le (tgt := 43) C dM_worst_36 (by decide) (fun c36 => ?_) (fun c36 => ?_)
        · refine sx_iload_n C dM_worst_43 rfl rfl ?_
          refine sx_eqi ((nI (bt W u S ed t s1))) (by first | rw [bt_1 hu c36] | rw [bt_2 hu c36]) ?_
          exact J44
        · refine sx_iload_n C dM_worst_39 rfl rfl ?_
          refine sx_goto (tgt := 44) C dM_worst_40 (by decide) ?_
          refine sx_eqi ((nI (bt W u S ed t s1))) (by first | rw [bt_1 hu c36] | rw [bt_2 hu c36]) ?_
          exact J44
  exact L19 _ 1 0 (Nat.lt_succ_self _) (by omega) (by omega) (fun j hj => by rw [show j = 0 by omega]; exact Nat.le_refl _) (fun j hj => absurd hj (Nat.not_lt_zero _))

set_option maxHeartbeats 4000000 in
set_option maxRecDepth 100000 in
/-- alias -/
theorem c_M_alias (l : Launch) (D : va_G) (tc : Nat → ClassId) (x y : Int32) (ad : Nat → Nat) (W : Nat) (u : Nat) (th : Int32) (kn : Bool) (lst : Int32) (sb : Int32) (mk : Nat → Int32) (cd : Nat → Int32) (lk : Nat → Int32) (fl : Nat → Int32) (vr : Nat → Int32) (wd : Nat → Int32) (cn : Nat → Int32) (li : Nat → Int32) (od : Nat → Int32) (μ : sx_M) (hS : MS tc μ ad W u th kn lst sb mk cd lk fl vr wd cn li od) (S : Nat → Nat → Bool) (ed : Nat → Nat → Nat) (hA : AW W u S ed) (hP : MP W u S ed kn mk cd lk fl vr wd cn li) : sx_Mi l yM_alias (Cond.code yM_alias cM_alias 5 (some .int) :: sxW) (rmL 3 0 0) D sxCl (sxT tc) sxE [.ref (ad 0), .int x, .int y] μ (fun r μ' => ∃ k, R_als W u S x y k r ∧ MInv tc μ' (ad 0) W u S ed k) 0 0 := by
  have hW := hA.1.2
  have hu := hA.2.1
  refine sx_ofiQ (cc := cM_alias) (maxL := 5) (ret := (some .int)) (own := RM) sxE_ok (by decide) rfl rfl (Nat.le_of_ble_eq_true rfl) [some (.ref (ad 0)), some (.int x), some (.int y), none, none] 2 rfl (fun p e s m below meth c A Q hQ C hr hlocks hnm => ?_)
  refine sx_aload_n C dM_alias_0 rfl rfl ?_
  have J22 : SW p l e (rmL 3 0 0) s m [.ref (ad 0), .int x, .int y].toArray below meth c 5 D sxCl A 0 0 Q μ 22 [some (.ref (ad 0)), some (.int x), some (.int y), none, none] [.int (b2i (!(isB u x && isB u y))), .ref (ad 0)] := by
    refine sx_iconst (v := 0) C dM_alias_22 (by decide) ?_
    refine sx_iconst (v := 0) C dM_alias_23 (by decide) ?_
    refine sx_calli C (sx_runV (As := [.int (b2i (!(isB u x && isB u y))), .int 0, .int 0]) (rest := []) C sx_all (c_M_fails l D tc (!(isB u x && isB u y)) false false ad W u th kn lst sb mk cd lk fl vr wd cn li od μ hS) (ci := 3) rfl (MS_f0 hS) (sx_cwV C 3 kM_M_69 ki_M_fails ke_M_fails kn_M kc_M_fails rfl rfl (by decide +kernel) ⟨Nat.le_of_ble_eq_true rfl, Nat.le_of_ble_eq_true rfl⟩) rfl rfl (Nat.le_of_ble_eq_true rfl) dM_alias_24 ⟨Nat.le_of_ble_eq_true rfl, Nat.le_of_ble_eq_true rfl⟩) (fun q9 μ9 h9 => ?_)
    obtain ⟨h9, hT9⟩ := h9
    refine sx_eqi (b2i ((!(isB u x && isB u y)) || false || false)) (h9) ?_
    refine sx_if_eq (tgt := 32) C dM_alias_27 (by decide) (fun c27 => ?_) (fun c27 => ?_)
    · obtain ⟨t0, t1, t2, t3⟩ := th_0 (b2i_z.mp c27)
      rw [t0] at hT9
      obtain ⟨t4, t5⟩ := Bool.and_eq_true_iff.mp (th_f t1)
      obtain ⟨a, ha, hxa⟩ := (isB_iff hu).mp t4
      obtain ⟨b, hb, hyb⟩ := (isB_iff hu).mp t5
      refine sx_aload_n C dM_alias_32 rfl rfl ?_
      refine sx_callv C (sx_runV (As := []) (rest := []) C sx_all (c_M_know l D tc ad W u 0 kn lst sb mk cd lk fl vr wd cn li od _ hT9 S ed hA hP) (ci := 3) rfl (MS_f0 hT9) (sx_cwV C 0 kM_M_97 ki_M_know ke_M_know kn_M kc_M_know rfl rfl (by decide +kernel) ⟨Nat.le_of_ble_eq_true rfl, Nat.le_of_ble_eq_true rfl⟩) rfl rfl (Nat.le_of_ble_eq_true rfl) dM_alias_33 ⟨Nat.le_of_ble_eq_true rfl, Nat.le_of_ble_eq_true rfl⟩) (fun μ1 h1 => ?_)
      obtain ⟨cn1, li1, hS1, hP1⟩ := h1
      have hK := hP1.2.2 rfl
      refine sx_aload_n C dM_alias_36 rfl rfl ?_
      refine sx_getf (Cn := RM) (T := TM) (N := 17) C dM_alias_37 (sx_in inM) rfl 12 (by decide) (sx_w C kF_M_29) (fun _ h => h) (MS_f0 hS1) rfl ?_
      refine sx_bipush (v := 40) C dM_alias_40 (by decide) ?_
      refine sx_iload_n C dM_alias_42 rfl rfl ?_
      refine sx_eqi (nI a) (hxa) ?_
      refine sx_imul C dM_alias_43 ?_
      refine sx_eqi (nI (40 * a)) (nI_mul 40 a) ?_
      refine sx_iload_n C dM_alias_44 rfl rfl ?_
      refine sx_eqi (nI b) (hyb) ?_
      refine sx_iadd C dM_alias_45 ?_
      refine sx_eqi (nI (40 * a + b)) (nI_add _ _) ?_
      refine sx_iald (j := (40 * a + b)) C dM_alias_46 0 rfl (MS_f7 hS1) (rfl) ((by omega)) (Nat.le_of_ble_eq_true rfl) ?_
      refine sx_eqi (nI (cm W S a b)) ((hK a (by omega) b (by omega)).1) ?_
      refine sx_if_ne (tgt := 52) C dM_alias_47 (by decide) (fun c47 => ?_) (fun c47 => ?_)
      · have hcm := cm_lt hW S a b
        have hc0 : ¬ cm W S a b = 0 := fun z => c47 (by rw [z]; rfl)
        refine sx_aload_n C dM_alias_52 rfl rfl ?_
        refine sx_getf (Cn := RM) (T := TM) (N := 17) C dM_alias_53 (sx_in inM) rfl 13 (by decide) (sx_w C kF_M_32) (fun _ h => h) (MS_f0 hS1) rfl ?_
        refine sx_bipush (v := 40) C dM_alias_56 (by decide) ?_
        refine sx_iload_n C dM_alias_58 rfl rfl ?_
        refine sx_eqi (nI a) (hxa) ?_
        refine sx_imul C dM_alias_59 ?_
        refine sx_eqi (nI (40 * a)) (nI_mul 40 a) ?_
        refine sx_iload_n C dM_alias_60 rfl rfl ?_
        refine sx_eqi (nI b) (hyb) ?_
        refine sx_iadd C dM_alias_61 ?_
        refine sx_eqi (nI (40 * a + b)) (nI_add _ _) ?_
        refine sx_zald (j := (40 * a + b)) C dM_alias_62 4 rfl (MS_f8 hS1) (rfl) ((by omega)) (Nat.le_of_ble_eq_true rfl) ?_
        refine sx_eqi (b2i (lsB W S a b)) ((hK a (by omega) b (by omega)).2) ?_
        refine sx_istore_n (lv' := [some (.ref (ad 0)), some (.int x), some (.int y), some (.int (b2i (lsB W S a b))), none]) C dM_alias_63 rfl (by decide) rfl rfl ?_
        refine sx_aload_n C dM_alias_64 rfl rfl ?_
        refine sx_getf (Cn := RM) (T := TM) (N := 17) C dM_alias_65 (sx_in inM) rfl 13 (by decide) (sx_w C kF_M_32) (fun _ h => h) (MS_f0 hS1) rfl ?_
        refine sx_bipush (v := 40) C dM_alias_68 (by decide) ?_
        refine sx_iload_n C dM_alias_70 rfl rfl ?_
        refine sx_eqi (nI b) (hyb) ?_
        refine sx_imul C dM_alias_71 ?_
        refine sx_eqi (nI (40 * b)) (nI_mul 40 b) ?_
        refine sx_iload_n C dM_alias_72 rfl rfl ?_
        refine sx_eqi (nI a) (hxa) ?_
        refine sx_iadd C dM_alias_73 ?_
        refine sx_eqi (nI (40 * b + a)) (nI_add _ _) ?_
        refine sx_zald (j := (40 * b + a)) C dM_alias_74 4 rfl (MS_f8 hS1) (rfl) ((by omega)) (Nat.le_of_ble_eq_true rfl) ?_
        refine sx_eqi (b2i (lsB W S b a)) ((hK b (by omega) a (by omega)).2) ?_
        refine sx_istore (lv' := [some (.ref (ad 0)), some (.int x), some (.int y), some (.int (b2i (lsB W S a b))), some (.int (b2i (lsB W S b a)))]) C dM_alias_75 (by decide) rfl rfl ?_
        have J108 : SW p l e (rmL 3 0 0) s m [.ref (ad 0), .int x, .int y].toArray below meth c 5 D sxCl A 0 0 Q μ1 108 [some (.ref (ad 0)), some (.int x), some (.int y), some (.int (b2i (lsB W S a b))), some (.int (b2i (lsB W S b a)))] [.int (nI (alN W S a b))] := by
          exact sx_iretQ C hQ dM_alias_108 hr hlocks (Nat.le_of_ble_eq_true rfl) (Nat.le_of_ble_eq_true rfl) (⟨0, Or.inl ⟨rfl, a, b, ha, hb, hxa, hyb, rfl⟩, MInv_of hA hS1 hP1⟩)
        refine sx_iload_n C dM_alias_77 rfl rfl ?_
        refine sx_if_eq (tgt := 90) C dM_alias_78 (by decide) (fun c78 => ?_) (fun c78 => ?_)
        · refine sx_iload_n C dM_alias_90 rfl rfl ?_
          refine sx_if_eq (tgt := 98) C dM_alias_91 (by decide) (fun c91 => ?_) (fun c91 => ?_)
          · refine sx_iload C dM_alias_98 rfl ?_
            refine sx_if_eq (tgt := 107) C dM_alias_100 (by decide) (fun c100 => ?_) (fun c100 => ?_)
            · refine sx_iconst (v := 4) C dM_alias_107 (by decide) ?_
              refine sx_eqi ((nI (alN W S a b))) (by unfold alN; rw [if_neg hc0]; first | (rw [b2i_ne.mp c78, b2i_ne.mp c83]; rfl) | (rw [b2i_ne.mp c78, b2i_z.mp c83]; first | rfl | (exact absurd c91 c78)) | (rw [b2i_z.mp c78, b2i_ne.mp c100]; rfl) | (rw [b2i_z.mp c78, b2i_z.mp c100]; rfl) | (exact absurd c78 c91) | (exact absurd c91 c78)) ?_
              exact J108
            · refine sx_iconst (v := 3) C dM_alias_103 (by decide) ?_
              refine sx_goto (tgt := 108) C dM_alias_104 (by decide) ?_
              refine sx_eqi ((nI (alN W S a b))) (by unfold alN; rw [if_neg hc0]; first | (rw [b2i_ne.mp c78, b2i_ne.mp c83]; rfl) | (rw [b2i_ne.mp c78, b2i_z.mp c83]; first | rfl | (exact absurd c91 c78)) | (rw [b2i_z.mp c78, b2i_ne.mp c100]; rfl) | (rw [b2i_z.mp c78, b2i_z.mp c100]; rfl) | (exact absurd c78 c91) | (exact absurd c91 c78)) ?_
              exact J108
          · refine sx_iconst (v := 2) C dM_alias_94 (by decide) ?_
            refine sx_goto (tgt := 108) C dM_alias_95 (by decide) ?_
            refine sx_eqi ((nI (alN W S a b))) (by unfold alN; rw [if_neg hc0]; first | (rw [b2i_ne.mp c78, b2i_ne.mp c83]; rfl) | (rw [b2i_ne.mp c78, b2i_z.mp c83]; first | rfl | (exact absurd c91 c78)) | (rw [b2i_z.mp c78, b2i_ne.mp c100]; rfl) | (rw [b2i_z.mp c78, b2i_z.mp c100]; rfl) | (exact absurd c78 c91) | (exact absurd c91 c78)) ?_
            exact J108
        · refine sx_iload C dM_alias_81 rfl ?_
          refine sx_if_eq (tgt := 90) C dM_alias_83 (by decide) (fun c83 => ?_) (fun c83 => ?_)
          · refine sx_iload_n C dM_alias_90 rfl rfl ?_
            refine sx_if_eq (tgt := 98) C dM_alias_91 (by decide) (fun c91 => ?_) (fun c91 => ?_)
            · refine sx_iload C dM_alias_98 rfl ?_
              refine sx_if_eq (tgt := 107) C dM_alias_100 (by decide) (fun c100 => ?_) (fun c100 => ?_)
              · refine sx_iconst (v := 4) C dM_alias_107 (by decide) ?_
                refine sx_eqi ((nI (alN W S a b))) (by unfold alN; rw [if_neg hc0]; first | (rw [b2i_ne.mp c78, b2i_ne.mp c83]; rfl) | (rw [b2i_ne.mp c78, b2i_z.mp c83]; first | rfl | (exact absurd c91 c78)) | (rw [b2i_z.mp c78, b2i_ne.mp c100]; rfl) | (rw [b2i_z.mp c78, b2i_z.mp c100]; rfl) | (exact absurd c78 c91) | (exact absurd c91 c78)) ?_
                exact J108
              · refine sx_iconst (v := 3) C dM_alias_103 (by decide) ?_
                refine sx_goto (tgt := 108) C dM_alias_104 (by decide) ?_
                refine sx_eqi ((nI (alN W S a b))) (by unfold alN; rw [if_neg hc0]; first | (rw [b2i_ne.mp c78, b2i_ne.mp c83]; rfl) | (rw [b2i_ne.mp c78, b2i_z.mp c83]; first | rfl | (exact absurd c91 c78)) | (rw [b2i_z.mp c78, b2i_ne.mp c100]; rfl) | (rw [b2i_z.mp c78, b2i_z.mp c100]; rfl) | (exact absurd c78 c91) | (exact absurd c91 c78)) ?_
                exact J108
            · refine sx_iconst (v := 2) C dM_alias_94 (by decide) ?_
              refine sx_goto (tgt := 108) C dM_alias_95 (by decide) ?_
              refine sx_eqi ((nI (alN W S a b))) (by unfold alN; rw [if_neg hc0]; first | (rw [b2i_ne.mp c78, b2i_ne.mp c83]; rfl) | (rw [b2i_ne.mp c78, b2i_z.mp c83]; first | rfl | (exact absurd c91 c78)) | (rw [b2i_z.mp c78, b2i_ne.mp c100]; rfl) | (rw [b2i_z.mp c78, b2i_z.mp c100]; rfl) | (exact absurd c78 c91) | (exact absurd c91 c78)) ?_
              exact J108
          · refine sx_iconst (v := 1) C dM_alias_86 (by decide) ?_
            refine sx_goto (tgt := 108) C dM_alias_87 (by decide) ?_
            refine sx_eqi ((nI (alN W S a b))) (by unfold alN; rw [if_neg hc0]; first | (rw [b2i_ne.mp c78, b2i_ne.mp c83]; rfl) | (rw [b2i_ne.mp c78, b2i_z.mp c83]; first | rfl | (exact absurd c91 c78)) | (rw [b2i_z.mp c78, b2i_ne.mp c100]; rfl) | (rw [b2i_z.mp c78, b2i_z.mp c100]; rfl) | (exact absurd c78 c91) | (exact absurd c91 c78)) ?_
            exact J108
      · have hcm := cm_lt hW S a b
        have hc0 : cm W S a b = 0 := (ab_nI (b := 0) (by omega) (by decide)).mp c47
        refine sx_iconst (v := 0) C dM_alias_50 (by decide) ?_
        exact sx_iretQ C hQ dM_alias_51 hr hlocks (Nat.le_of_ble_eq_true rfl) (Nat.le_of_ble_eq_true rfl) (⟨0, Or.inl ⟨rfl, a, b, ha, hb, hxa, hyb, by unfold alN; rw [if_pos hc0]; rfl⟩, MInv_of hA hS1 hP1⟩)
    · obtain ⟨z2, z1⟩ := th_1 (b2i_ne.mp c27)
      have hR : ∀ a b, a < u → b < u → ¬ (x = nI a ∧ y = nI b) := fun a b ha hb hh => by
        have z3 := th_n z1
        rw [(isB_iff hu).mpr ⟨a, ha, hh.1⟩, (isB_iff hu).mpr ⟨b, hb, hh.2⟩] at z3
        cases z3
      refine sx_iconst (v := 0) C dM_alias_30 (by decide) ?_
      exact sx_iretQ C hQ dM_alias_31 hr hlocks (Nat.le_of_ble_eq_true rfl) (Nat.le_of_ble_eq_true rfl) (⟨_, Or.inr ⟨z2, hR⟩, MInv_of hA hT9 hP⟩)
  refine sx_aload_n C dM_alias_1 rfl rfl ?_
  refine sx_iload_n C dM_alias_2 rfl rfl ?_
  refine sx_calli C (sx_runV (As := [.int x]) (rest := [.ref (ad 0)]) C sx_all (c_M_is l D tc x ad W u th kn lst sb mk cd lk fl vr wd cn li od μ hS) (ci := 3) rfl (MS_f0 hS) (sx_cwV C 1 kM_M_82 ki_M_is ke_M_is kn_M kc_M_is rfl rfl (by decide +kernel) ⟨Nat.le_of_ble_eq_true rfl, Nat.le_of_ble_eq_true rfl⟩) rfl rfl (Nat.le_of_ble_eq_true rfl) dM_alias_3 ⟨Nat.le_of_ble_eq_true rfl, Nat.le_of_ble_eq_true rfl⟩) (fun q2 μ2 h2 => ?_)
  obtain ⟨hm, h2⟩ := h2
  subst hm
  refine sx_eqi (b2i (isB u x)) (h2) ?_
  refine sx_if_eq (tgt := 17) C dM_alias_6 (by decide) (fun c6 => ?_) (fun c6 => ?_)
  · refine sx_iconst (v := 1) C dM_alias_17 (by decide) ?_
    refine sx_goto (tgt := 22) C dM_alias_18 (by decide) ?_
    refine sx_eqi ((b2i (!(isB u x && isB u y)))) (by first | (rw [b2i_z.mp c6]; rfl) | (rw [b2i_ne.mp c6, b2i_z.mp c14]; rfl) | (rw [b2i_ne.mp c6, b2i_ne.mp c14]; rfl)) ?_
    exact J22
  · refine sx_aload_n C dM_alias_9 rfl rfl ?_
    refine sx_iload_n C dM_alias_10 rfl rfl ?_
    refine sx_calli C (sx_runV (As := [.int y]) (rest := [.ref (ad 0)]) C sx_all (c_M_is l D tc y ad W u th kn lst sb mk cd lk fl vr wd cn li od μ hS) (ci := 3) rfl (MS_f0 hS) (sx_cwV C 1 kM_M_82 ki_M_is ke_M_is kn_M kc_M_is rfl rfl (by decide +kernel) ⟨Nat.le_of_ble_eq_true rfl, Nat.le_of_ble_eq_true rfl⟩) rfl rfl (Nat.le_of_ble_eq_true rfl) dM_alias_11 ⟨Nat.le_of_ble_eq_true rfl, Nat.le_of_ble_eq_true rfl⟩) (fun q3 μ3 h3 => ?_)
    obtain ⟨hm, h3⟩ := h3
    subst hm
    refine sx_eqi (b2i (isB u y)) (h3) ?_
    refine sx_if_ne (tgt := 21) C dM_alias_14 (by decide) (fun c14 => ?_) (fun c14 => ?_)
    · refine sx_iconst (v := 0) C dM_alias_21 (by decide) ?_
      refine sx_eqi ((b2i (!(isB u x && isB u y)))) (by first | (rw [b2i_z.mp c6]; rfl) | (rw [b2i_ne.mp c6, b2i_z.mp c14]; rfl) | (rw [b2i_ne.mp c6, b2i_ne.mp c14]; rfl)) ?_
      exact J22
    · refine sx_iconst (v := 1) C dM_alias_17 (by decide) ?_
      refine sx_goto (tgt := 22) C dM_alias_18 (by decide) ?_
      refine sx_eqi ((b2i (!(isB u x && isB u y)))) (by first | (rw [b2i_z.mp c6]; rfl) | (rw [b2i_ne.mp c6, b2i_z.mp c14]; rfl) | (rw [b2i_ne.mp c6, b2i_ne.mp c14]; rfl)) ?_
      exact J22

set_option maxHeartbeats 4000000 in
set_option maxRecDepth 100000 in
/-- lowest -/
theorem c_M_lowest (l : Launch) (D : va_G) (tc : Nat → ClassId) (a b w0 : Nat) (ad : Nat → Nat) (W : Nat) (u : Nat) (th : Int32) (kn : Bool) (lst : Int32) (sb : Int32) (mk : Nat → Int32) (cd : Nat → Int32) (lk : Nat → Int32) (fl : Nat → Int32) (vr : Nat → Int32) (wd : Nat → Int32) (cn : Nat → Int32) (li : Nat → Int32) (od : Nat → Int32) (μ : sx_M) (hS : MS tc μ ad W u th kn lst sb mk cd lk fl vr wd cn li od) (S : Nat → Nat → Bool) (ed : Nat → Nat → Nat) (hA : AW W u S ed) (hP : MP W u S ed kn mk cd lk fl vr wd cn li) (ha : a < u) (hb : b < u) (hw0 : w0 < 2 ^ W) (h0 : S a w0 = true ∧ S b w0 = true) : sx_Mi l yM_lowest (Cond.code yM_lowest cM_lowest 4 (some .int) :: sxW) (rmL 1 0 0) D sxCl (sxT tc) sxE [.ref (ad 0), .int (nI a), .int (nI b)] μ (fun r μ' => μ = μ' ∧ ∃ w, r = nI w ∧ lwP S a b w) 0 0 := by
  have hW := hA.1.2
  have hu := hA.2.1
  have hpw := en_pw hW
  have hnR := nRw_W (W := W)
  refine sx_ofiQ (cc := cM_lowest) (maxL := 4) (ret := (some .int)) (own := RM) sxE_ok (by decide) rfl rfl (Nat.le_of_ble_eq_true rfl) [some (.ref (ad 0)), some (.int (nI a)), some (.int (nI b)), none] 1 rfl (fun p e s m below meth c A Q hQ C hr hlocks hnm => ?_)
  refine sx_iconst (v := 0) C dM_lowest_0 (by decide) ?_
  refine sx_eqi (nI 0) (rfl) ?_
  refine sx_istore_n (lv' := [some (.ref (ad 0)), some (.int (nI a)), some (.int (nI b)), some (.int (nI 0))]) C dM_lowest_1 rfl (by decide) rfl rfl ?_
  have L2 : ∀ (fu : Nat) (w : Nat), w0 + 1 - w < fu → (w ≤ w0) → (∀ v, v < w → ¬ (S a v = true ∧ S b v = true)) → SW p l e (rmL 1 0 0) s m [.ref (ad 0), .int (nI a), .int (nI b)].toArray below meth c 4 D sxCl A 0 0 Q μ 2 [some (.ref (ad 0)), some (.int (nI a)), some (.int (nI b)), some (.int (nI w))] [] := by
    intro fu
    induction fu with
    | zero => intro _ h; exact absurd h (Nat.not_lt_zero _)
    | succ fu ih =>
      intro w hfu hw hv
      refine sx_aload_n C dM_lowest_2 rfl rfl ?_
      refine sx_iload_n C dM_lowest_3 rfl rfl ?_
      refine sx_iload_n C dM_lowest_4 rfl rfl ?_
      refine sx_calli C (sx_runV (As := [.int (nI a), .int (nI w)]) (rest := []) C sx_all (c_M_has l D tc a w ad W u th kn lst sb mk cd lk fl vr wd cn li od μ hS (by omega) (by omega)) (ci := 3) rfl (MS_f0 hS) (sx_cwV C 2 kM_M_100 ki_M_has ke_M_has kn_M kc_M_has rfl rfl (by decide +kernel) ⟨Nat.le_of_ble_eq_true rfl, Nat.le_of_ble_eq_true rfl⟩) rfl rfl (Nat.le_of_ble_eq_true rfl) dM_lowest_5 ⟨Nat.le_of_ble_eq_true rfl, Nat.le_of_ble_eq_true rfl⟩) (fun q1 μ1 h1 => ?_)
      obtain ⟨hm, h1⟩ := h1
      subst hm
      rw [← rowM_in (n := nRw W) (by omega), hP.2.1 a (by omega)] at h1
      refine sx_eqi (b2i (S a w)) (h1) ?_
      refine sx_if_eq (tgt := 20) C dM_lowest_8 (by decide) (fun c8 => ?_) (fun c8 => ?_)
      · have b8 := b2i_z.mp c8
        have hno : ¬ (S a w = true ∧ S b w = true) := fun z => by rw [z.1] at b8; cases b8
        refine sx_iinc (v := nI (w + 1)) (lv' := [some (.ref (ad 0)), some (.int (nI a)), some (.int (nI b)), some (.int (nI (w + 1)))]) C dM_lowest_20 rfl (nI_1 w) (by decide) rfl rfl ?_
        refine sx_goto (tgt := 2) C dM_lowest_23 (by decide) ?_
        have hlt : w < w0 := by
          rcases Nat.lt_or_ge w w0 with z | z
          · exact z
          · exact absurd (show S a w = true ∧ S b w = true by rw [show w = w0 by omega]; exact h0) hno
        exact ih (w + 1) (by omega) (by omega) (fun v hv9 => by
          by_cases z : v = w
          · rw [z]; exact hno
          · exact hv v (by omega))
      · have b8 := b2i_ne.mp c8
        refine sx_aload_n C dM_lowest_11 rfl rfl ?_
        refine sx_iload_n C dM_lowest_12 rfl rfl ?_
        refine sx_iload_n C dM_lowest_13 rfl rfl ?_
        refine sx_calli C (sx_runV (As := [.int (nI b), .int (nI w)]) (rest := []) C sx_all (c_M_has l D tc b w ad W u th kn lst sb mk cd lk fl vr wd cn li od μ hS (by omega) (by omega)) (ci := 3) rfl (MS_f0 hS) (sx_cwV C 2 kM_M_100 ki_M_has ke_M_has kn_M kc_M_has rfl rfl (by decide +kernel) ⟨Nat.le_of_ble_eq_true rfl, Nat.le_of_ble_eq_true rfl⟩) rfl rfl (Nat.le_of_ble_eq_true rfl) dM_lowest_14 ⟨Nat.le_of_ble_eq_true rfl, Nat.le_of_ble_eq_true rfl⟩) (fun q2 μ2 h2 => ?_)
        obtain ⟨hm, h2⟩ := h2
        subst hm
        rw [← rowM_in (n := nRw W) (by omega), hP.2.1 b (by omega)] at h2
        refine sx_eqi (b2i (S b w)) (h2) ?_
        refine sx_if_ne (tgt := 26) C dM_lowest_17 (by decide) (fun c17 => ?_) (fun c17 => ?_)
        · have b17 := b2i_ne.mp c17
          refine sx_iload_n C dM_lowest_26 rfl rfl ?_
          exact sx_iretQ C hQ dM_lowest_27 hr hlocks (Nat.le_of_ble_eq_true rfl) (Nat.le_of_ble_eq_true rfl) (⟨rfl, w, rfl, b8, b17, hv⟩)
        · have b17 := b2i_z.mp c17
          have hno : ¬ (S a w = true ∧ S b w = true) := fun z => by rw [z.2] at b17; cases b17
          refine sx_iinc (v := nI (w + 1)) (lv' := [some (.ref (ad 0)), some (.int (nI a)), some (.int (nI b)), some (.int (nI (w + 1)))]) C dM_lowest_20 rfl (nI_1 w) (by decide) rfl rfl ?_
          refine sx_goto (tgt := 2) C dM_lowest_23 (by decide) ?_
          have hlt : w < w0 := by
            rcases Nat.lt_or_ge w w0 with z | z
            · exact z
            · exact absurd (show S a w = true ∧ S b w = true by rw [show w = w0 by omega]; exact h0) hno
          exact ih (w + 1) (by omega) (by omega) (fun v hv9 => by
            by_cases z : v = w
            · rw [z]; exact hno
            · exact hv v (by omega))
  exact L2 _ 0 (Nat.lt_succ_self _) (Nat.zero_le _) (fun v hv => absurd hv (Nat.not_lt_zero _))

def prI (W u : Nat) (S : Nat → Nat → Bool) (x : Int32) (N : Nat) (fi se : Int32) : Prop := (fi = -1 ∧ se = -1 ∧ ∀ j, j < N → x ≠ nI j) ∨ ∃ j a b, j < N ∧ x = nI j ∧ isPr W u S j a b ∧ fi = nI a ∧ se = nI b
theorem prI_s {W u : Nat} {S : Nat → Nat → Bool} {x fi se : Int32} {a b : Nat} (hb : b < u) (h : prI W u S x (prN (mt W S) u a b) fi se) : prI W u S x (prN (mt W S) u a (b + 1)) (if (mt W S a b && decide (nI (prN (mt W S) u a b) = x)) = true then nI a else fi) (if (mt W S a b && decide (nI (prN (mt W S) u a b) = x)) = true then nI b else se) := by
  cases hm : mt W S a b
  · rw [pn_0 hm, Bool.false_and, if_neg (by decide), if_neg (by decide)]
    exact h
  · rw [pn_1 hm, Bool.true_and]
    by_cases hx : nI (prN (mt W S) u a b) = x
    · rw [decide_eq_true hx, if_pos rfl, if_pos rfl]
      exact Or.inr ⟨_, a, b, Nat.lt_succ_self _, hx.symm, ⟨hb, hm, rfl⟩, rfl, rfl⟩
    · rw [decide_eq_false hx, if_neg (by decide), if_neg (by decide)]
      rcases h with ⟨h1, h2, h3⟩ | ⟨j, a', b', h1, h2⟩
      · refine Or.inl ⟨h1, h2, fun j hj => ?_⟩
        by_cases z : j = prN (mt W S) u a b
        · rw [z]; exact fun e => hx e.symm
        · exact h3 j (by omega)
      · exact Or.inr ⟨j, a', b', by omega, h2⟩
theorem in3_iff {y : Int32} : inB y 0 3 = true ↔ ∃ n, n ≤ 3 ∧ y = nI n := inB_le (n := 3) rfl (by omega)

set_option maxHeartbeats 4000000 in
set_option maxRecDepth 100000 in
/-- pair -/
theorem c_M_pair (l : Launch) (D : va_G) (tc : Nat → ClassId) (x y : Int32) (ad : Nat → Nat) (W : Nat) (u : Nat) (th : Int32) (kn : Bool) (lst : Int32) (sb : Int32) (mk : Nat → Int32) (cd : Nat → Int32) (lk : Nat → Int32) (fl : Nat → Int32) (vr : Nat → Int32) (wd : Nat → Int32) (cn : Nat → Int32) (li : Nat → Int32) (od : Nat → Int32) (μ : sx_M) (hS : MS tc μ ad W u th kn lst sb mk cd lk fl vr wd cn li od) (S : Nat → Nat → Bool) (ed : Nat → Nat → Nat) (hA : AW W u S ed) (hP : MP W u S ed kn mk cd lk fl vr wd cn li) : sx_Mi l yM_pair (Cond.code yM_pair cM_pair 9 (some .int) :: sxW) (rmL 3 0 0) D sxCl (sxT tc) sxE [.ref (ad 0), .int x, .int y] μ (fun r μ' => ∃ k, R_pair W u S x y k r ∧ MInv tc μ' (ad 0) W u S ed k) 0 0 := by
  have hW := hA.1.2
  have hu := hA.2.1
  refine sx_ofiQ (cc := cM_pair) (maxL := 9) (ret := (some .int)) (own := RM) sxE_ok (by decide) rfl rfl (Nat.le_of_ble_eq_true rfl) [some (.ref (ad 0)), some (.int x), some (.int y), none, none, none, none, none, none] 6 rfl (fun p e s m below meth c A Q hQ C hr hlocks hnm => ?_)
  refine sx_iconst (v := -1) C dM_pair_0 (by decide) ?_
  refine sx_istore_n (lv' := [some (.ref (ad 0)), some (.int x), some (.int y), some (.int (-1)), none, none, none, none, none]) C dM_pair_1 rfl (by decide) rfl rfl ?_
  refine sx_iconst (v := -1) C dM_pair_2 (by decide) ?_
  refine sx_istore (lv' := [some (.ref (ad 0)), some (.int x), some (.int y), some (.int (-1)), some (.int (-1)), none, none, none, none]) C dM_pair_3 (by decide) rfl rfl ?_
  refine sx_aload_n C dM_pair_5 rfl rfl ?_
  refine sx_callv C (sx_runV (As := []) (rest := []) C sx_all (c_M_know l D tc ad W u th kn lst sb mk cd lk fl vr wd cn li od _ hS S ed hA hP) (ci := 3) rfl (MS_f0 hS) (sx_cwV C 0 kM_M_97 ki_M_know ke_M_know kn_M kc_M_know rfl rfl (by decide +kernel) ⟨Nat.le_of_ble_eq_true rfl, Nat.le_of_ble_eq_true rfl⟩) rfl rfl (Nat.le_of_ble_eq_true rfl) dM_pair_6 ⟨Nat.le_of_ble_eq_true rfl, Nat.le_of_ble_eq_true rfl⟩) (fun μ1 h1 => ?_)
  obtain ⟨cn1, li1, hS1, hP1⟩ := h1
  have hK := hP1.2.2 rfl
  refine sx_iconst (v := 0) C dM_pair_9 (by decide) ?_
  refine sx_eqi (nI (prT (mt W S) u 0)) (rfl) ?_
  refine sx_istore (lv' := [some (.ref (ad 0)), some (.int x), some (.int y), some (.int (-1)), some (.int (-1)), some (.int (nI (prT (mt W S) u 0))), none, none, none]) C dM_pair_10 (by decide) rfl rfl ?_
  refine sx_iconst (v := 0) C dM_pair_12 (by decide) ?_
  refine sx_eqi (nI 0) (rfl) ?_
  refine sx_istore (lv' := [some (.ref (ad 0)), some (.int x), some (.int y), some (.int (-1)), some (.int (-1)), some (.int (nI (prT (mt W S) u 0))), some (.int (nI 0)), none, none]) C dM_pair_13 (by decide) rfl rfl ?_
  have L15 : ∀ (fu : Nat) (a : Nat) (fi se : Int32), u - a < fu → (a ≤ u) → (prI W u S x (prT (mt W S) u a) fi se) → SW p l e (rmL 3 0 0) s m [.ref (ad 0), .int x, .int y].toArray below meth c 9 D sxCl A 0 0 Q μ1 15 [some (.ref (ad 0)), some (.int x), some (.int y), some (.int fi), some (.int se), some (.int (nI (prT (mt W S) u a))), some (.int (nI a)), none, none] [] := by
    intro fu
    induction fu with
    | zero => intro _ _ _ h; exact absurd h (Nat.not_lt_zero _)
    | succ fu ih =>
      intro a fi se hfu ha hI
      refine sx_iload C dM_pair_15 rfl ?_
      refine sx_aload_n C dM_pair_17 rfl rfl ?_
      refine sx_getf (Cn := RM) (T := TM) (N := 17) C dM_pair_18 (sx_in inM) rfl 4 (by decide) (sx_w C kF_M_52) (fun _ h => h) (MS_f0 hS1) rfl ?_
      refine sx_icmp_ge (tgt := 127) C dM_pair_21 (by decide) (fun c21 => ?_) (fun c21 => ?_)
      · have hc21 : u ≤ a := (nI_leI (by omega) (by omega)).mp c21
        have hau : a = u := by omega
        rw [hau] at hI
        refine sx_aload_n C dM_pair_127 rfl rfl ?_
        have J146 : SW p l e (rmL 3 0 0) s m [.ref (ad 0), .int x, .int y].toArray below meth c 9 D sxCl A 0 0 Q μ1 146 [some (.ref (ad 0)), some (.int x), some (.int y), some (.int fi), some (.int se), some (.int (nI (prT (mt W S) u a))), some (.int (nI a)), none, none] [.int (b2i (!(!decide (fi < 0) && inB y 0 3))), .ref (ad 0)] := by
          refine sx_iconst (v := 0) C dM_pair_146 (by decide) ?_
          refine sx_iconst (v := 0) C dM_pair_147 (by decide) ?_
          refine sx_calli C (sx_runV (As := [.int (b2i (!(!decide (fi < 0) && inB y 0 3))), .int 0, .int 0]) (rest := []) C sx_all (c_M_fails l D tc (!(!decide (fi < 0) && inB y 0 3)) false false ad W u th true lst sb mk cd lk fl vr wd cn1 li1 od μ1 hS1) (ci := 3) rfl (MS_f0 hS1) (sx_cwV C 3 kM_M_69 ki_M_fails ke_M_fails kn_M kc_M_fails rfl rfl (by decide +kernel) ⟨Nat.le_of_ble_eq_true rfl, Nat.le_of_ble_eq_true rfl⟩) rfl rfl (Nat.le_of_ble_eq_true rfl) dM_pair_148 ⟨Nat.le_of_ble_eq_true rfl, Nat.le_of_ble_eq_true rfl⟩) (fun q9 μ9 h9 => ?_)
          obtain ⟨h9, hT9⟩ := h9
          refine sx_eqi (b2i ((!(!decide (fi < 0) && inB y 0 3)) || false || false)) (h9) ?_
          refine sx_if_eq (tgt := 156) C dM_pair_151 (by decide) (fun c151 => ?_) (fun c151 => ?_)
          · obtain ⟨t0, t1, t2, t3⟩ := th_0 (b2i_z.mp c151)
            rw [t0] at hT9
            obtain ⟨t4, t5⟩ := Bool.and_eq_true_iff.mp (th_f t1)
            obtain ⟨n9, hn9, hyn⟩ := in3_iff.mp t5
            have hfi : ¬ fi < 0 := of_decide_eq_false (by simpa using t4)
            obtain ⟨j9, a9, b9, hj9, hxj, hpr, hfa, hsb⟩ : ∃ j a b, j < prT (mt W S) u u ∧ x = nI j ∧ isPr W u S j a b ∧ fi = nI a ∧ se = nI b := by
              rcases hI with ⟨z1, -⟩ | z1
              · rw [z1] at hfi; exact absurd (by decide) hfi
              · exact z1
            have hm9 := mt_iff.mp hpr.2.1
            have hb9 := hpr.1
            have hjb : j9 < 2 ^ 31 := by
              have h5 := prT_le (mt W S) u u
              have h6 : u * u ≤ 1600 := Nat.le_trans (Nat.mul_le_mul hu hu) (by decide)
              omega
            refine sx_iload_n C dM_pair_156 rfl rfl ?_
            refine sx_if_ne (tgt := 164) C dM_pair_157 (by decide) (fun c157 => ?_) (fun c157 => ?_)
            · refine sx_iload_n C dM_pair_164 rfl rfl ?_
              refine sx_iconst (v := 1) C dM_pair_165 (by decide) ?_
              refine sx_icmp_ne (tgt := 174) C dM_pair_166 (by decide) (fun c166 => ?_) (fun c166 => ?_)
              · refine sx_iload_n C dM_pair_174 rfl rfl ?_
                refine sx_iconst (v := 2) C dM_pair_175 (by decide) ?_
                refine sx_icmp_ne (tgt := 189) C dM_pair_176 (by decide) (fun c176 => ?_) (fun c176 => ?_)
                · have hn3 : n9 = 3 := by
                    have e0 : n9 ≠ 0 := fun z => c157 (by rw [hyn, z]; rfl)
                    have e1 : n9 ≠ 1 := fun z => c166 (by rw [hyn, z]; rfl)
                    have e2 : n9 ≠ 2 := fun z => c176 (by rw [hyn, z]; rfl)
                    omega
                  refine sx_aload_n C dM_pair_189 rfl rfl ?_
                  refine sx_getf (Cn := RM) (T := TM) (N := 17) C dM_pair_190 (sx_in inM) rfl 12 (by decide) (sx_w C kF_M_29) (fun _ h => h) (MS_f0 hT9) rfl ?_
                  refine sx_bipush (v := 40) C dM_pair_193 (by decide) ?_
                  refine sx_iload_n C dM_pair_195 rfl rfl ?_
                  refine sx_eqi (nI a9) (hfa) ?_
                  refine sx_imul C dM_pair_196 ?_
                  refine sx_eqi (nI (40 * a9)) (nI_mul 40 a9) ?_
                  refine sx_iload C dM_pair_197 rfl ?_
                  refine sx_eqi (nI b9) (hsb) ?_
                  refine sx_iadd C dM_pair_199 ?_
                  refine sx_eqi (nI (40 * a9 + b9)) (nI_add _ _) ?_
                  refine sx_iald (j := (40 * a9 + b9)) C dM_pair_200 0 rfl (MS_f7 hT9) (rfl) ((by omega)) (Nat.le_of_ble_eq_true rfl) ?_
                  refine sx_eqi (nI (cm W S a9 b9)) ((hK a9 (by omega) b9 (by omega)).1) ?_
                  exact sx_iretQ C hQ dM_pair_201 hr hlocks (Nat.le_of_ble_eq_true rfl) (Nat.le_of_ble_eq_true rfl) (⟨0, Or.inl ⟨rfl, j9, n9, a9, b9, hxj, hjb, hyn, hn9, hpr, Or.inr (Or.inr (Or.inr ⟨hn3, rfl⟩))⟩, MInv_of hA hT9 hP1⟩)
                · have hn2 : n9 = 2 := (ab_nI (b := 2) (by omega) (by decide)).mp (hyn.symm.trans c176)
                  obtain ⟨w0, hw0, hw1⟩ := cm_ex hm9.2
                  refine sx_aload_n C dM_pair_179 rfl rfl ?_
                  refine sx_iload_n C dM_pair_180 rfl rfl ?_
                  refine sx_eqi (nI a9) (hfa) ?_
                  refine sx_iload C dM_pair_181 rfl ?_
                  refine sx_eqi (nI b9) (hsb) ?_
                  refine sx_calli C (sx_runV (As := [.int (nI a9), .int (nI b9)]) (rest := []) C sx_all (c_M_lowest l D tc a9 b9 w0 ad W u 0 true lst sb mk cd lk fl vr wd cn1 li1 od μ9 hT9 S ed hA hP1 (by omega) hb9 hw0 hw1) (ci := 3) rfl (MS_f0 hT9) (sx_cwV C 2 kM_M_103 ki_M_lowest ke_M_lowest kn_M kc_M_lowest rfl rfl (by decide +kernel) ⟨Nat.le_of_ble_eq_true rfl, Nat.le_of_ble_eq_true rfl⟩) rfl rfl (Nat.le_of_ble_eq_true rfl) dM_pair_183 ⟨Nat.le_of_ble_eq_true rfl, Nat.le_of_ble_eq_true rfl⟩) (fun q4 μ4 h4 => ?_)
                  obtain ⟨hm, h4⟩ := h4
                  subst hm
                  refine sx_goto (tgt := 201) C dM_pair_186 (by decide) ?_
                  exact sx_iretQ C hQ dM_pair_201 hr hlocks (Nat.le_of_ble_eq_true rfl) (Nat.le_of_ble_eq_true rfl) (⟨0, Or.inl ⟨rfl, j9, n9, a9, b9, hxj, hjb, hyn, hn9, hpr, Or.inr (Or.inr (Or.inl ⟨hn2, h4⟩))⟩, MInv_of hA hT9 hP1⟩)
              · have hn1 : n9 = 1 := (ab_nI (b := 1) (by omega) (by decide)).mp (hyn.symm.trans c166)
                refine sx_iload C dM_pair_169 rfl ?_
                refine sx_goto (tgt := 201) C dM_pair_171 (by decide) ?_
                exact sx_iretQ C hQ dM_pair_201 hr hlocks (Nat.le_of_ble_eq_true rfl) (Nat.le_of_ble_eq_true rfl) (⟨0, Or.inl ⟨rfl, j9, n9, a9, b9, hxj, hjb, hyn, hn9, hpr, Or.inr (Or.inl ⟨hn1, hsb⟩)⟩, MInv_of hA hT9 hP1⟩)
            · have hn0 : n9 = 0 := (ab_nI (b := 0) (by omega) (by decide)).mp (hyn.symm.trans c157)
              refine sx_iload_n C dM_pair_160 rfl rfl ?_
              refine sx_goto (tgt := 201) C dM_pair_161 (by decide) ?_
              exact sx_iretQ C hQ dM_pair_201 hr hlocks (Nat.le_of_ble_eq_true rfl) (Nat.le_of_ble_eq_true rfl) (⟨0, Or.inl ⟨rfl, j9, n9, a9, b9, hxj, hjb, hyn, hn9, hpr, Or.inl ⟨hn0, hfa⟩⟩, MInv_of hA hT9 hP1⟩)
          · obtain ⟨z2, z1⟩ := th_1 (b2i_ne.mp c151)
            have hR : ∀ j n a b, x = nI j → j < 2 ^ 31 → y = nI n → n ≤ 3 → ¬ isPr W u S j a b := by
              intro j n a2 b2 hxj hj hyn hn hp
              have z3 := th_n z1
              rw [in3_iff.mpr ⟨n, hn, hyn⟩, Bool.and_true] at z3
              have z4 : fi < 0 := by simpa using z3
              rcases hI with ⟨-, -, z5⟩ | ⟨j2, a3, b3, -, -, h7, h8, -⟩
              · exact z5 j (pr_end hp) hxj
              · have := mt_iff.mp h7.2.1
                have := h7.1
                rw [h8] at z4
                exact nI_pos (by omega) z4
            refine sx_iconst (v := 0) C dM_pair_154 (by decide) ?_
            exact sx_iretQ C hQ dM_pair_155 hr hlocks (Nat.le_of_ble_eq_true rfl) (Nat.le_of_ble_eq_true rfl) (⟨_, Or.inr ⟨z2, hR⟩, MInv_of hA hT9 hP1⟩)
        refine sx_iload_n C dM_pair_128 rfl rfl ?_
        refine sx_if_lt (tgt := 141) C dM_pair_129 (by decide) (fun c129 => ?_) (fun c129 => ?_)
        · refine sx_iconst (v := 1) C dM_pair_141 (by decide) ?_
          refine sx_goto (tgt := 146) C dM_pair_142 (by decide) ?_
          refine sx_eqi ((b2i (!(!decide (fi < 0) && inB y 0 3)))) (by first | (rw [decide_eq_true c129]; rfl) | (rw [decide_eq_false c129, b2i_z.mp c138]; rfl) | (rw [decide_eq_false c129, b2i_ne.mp c138]; rfl)) ?_
          exact J146
        · refine sx_iload_n C dM_pair_132 rfl rfl ?_
          refine sx_iconst (v := 0) C dM_pair_133 (by decide) ?_
          refine sx_iconst (v := 3) C dM_pair_134 (by decide) ?_
          refine sx_calli C (sx_runS (As := [.int y, .int 0, .int 3]) (rest := [.ref (ad 0)]) C sx_all (c_M_in l D tc y 0 3 μ1) (sx_cwS C 3 kM_M_55 ks_M_in kn_M kc_M_in rfl rfl (by decide +kernel) ⟨Nat.le_of_ble_eq_true rfl, Nat.le_of_ble_eq_true rfl⟩) rfl rfl (Nat.le_of_ble_eq_true rfl) dM_pair_135 ⟨Nat.le_of_ble_eq_true rfl, Nat.le_of_ble_eq_true rfl⟩) (fun q2 μ2 h2 => ?_)
          obtain ⟨hm, h2⟩ := h2
          subst hm
          refine sx_eqi (b2i (inB y 0 3)) (h2) ?_
          refine sx_if_ne (tgt := 145) C dM_pair_138 (by decide) (fun c138 => ?_) (fun c138 => ?_)
          · refine sx_iconst (v := 0) C dM_pair_145 (by decide) ?_
            refine sx_eqi ((b2i (!(!decide (fi < 0) && inB y 0 3)))) (by first | (rw [decide_eq_true c129]; rfl) | (rw [decide_eq_false c129, b2i_z.mp c138]; rfl) | (rw [decide_eq_false c129, b2i_ne.mp c138]; rfl)) ?_
            exact J146
          · refine sx_iconst (v := 1) C dM_pair_141 (by decide) ?_
            refine sx_goto (tgt := 146) C dM_pair_142 (by decide) ?_
            refine sx_eqi ((b2i (!(!decide (fi < 0) && inB y 0 3)))) (by first | (rw [decide_eq_true c129]; rfl) | (rw [decide_eq_false c129, b2i_z.mp c138]; rfl) | (rw [decide_eq_false c129, b2i_ne.mp c138]; rfl)) ?_
            exact J146
      · have hc21 : ¬ u ≤ a := fun h => c21 ((nI_leI (by omega) (by omega)).mpr h)
        refine sx_iload C dM_pair_24 rfl ?_
        refine sx_iconst (v := 1) C dM_pair_26 (by decide) ?_
        refine sx_iadd C dM_pair_27 ?_
        refine sx_eqi (nI (a + 1)) (nI_1 a) ?_
        refine sx_istore (lv' := [some (.ref (ad 0)), some (.int x), some (.int y), some (.int fi), some (.int se), some (.int (nI (prT (mt W S) u a))), some (.int (nI a)), some (.int (nI (a + 1))), none]) C dM_pair_28 (by decide) rfl rfl ?_
        refine sx_lvEq [some (.ref (ad 0)), some (.int x), some (.int y), some (.int fi), some (.int se), some (.int (nI (prN (mt W S) u a (a + 1)))), some (.int (nI a)), some (.int (nI (a + 1))), none] (by rw [show prN (mt W S) u a (a + 1) = prT (mt W S) u a from pn_i]) ?_
        have L30 : ∀ (fu2 : Nat) (b : Nat) (fi se : Int32), u - b < fu2 → (a + 1 ≤ b) → (b ≤ u) → (prI W u S x (prN (mt W S) u a b) fi se) → SW p l e (rmL 3 0 0) s m [.ref (ad 0), .int x, .int y].toArray below meth c 9 D sxCl A 0 0 Q μ1 30 [some (.ref (ad 0)), some (.int x), some (.int y), some (.int fi), some (.int se), some (.int (nI (prN (mt W S) u a b))), some (.int (nI a)), some (.int (nI b)), none] [] := by
          intro fu2
          induction fu2 with
          | zero => intro _ _ _ h; exact absurd h (Nat.not_lt_zero _)
          | succ fu2 ih2 =>
            intro b fi se hfu2 hb1 hb2 hI
            refine sx_iload C dM_pair_30 rfl ?_
            refine sx_aload_n C dM_pair_32 rfl rfl ?_
            refine sx_getf (Cn := RM) (T := TM) (N := 17) C dM_pair_33 (sx_in inM) rfl 4 (by decide) (sx_w C kF_M_52) (fun _ h => h) (MS_f0 hS1) rfl ?_
            refine sx_icmp_ge (tgt := 121) C dM_pair_36 (by decide) (fun c36 => ?_) (fun c36 => ?_)
            · have hc36 : u ≤ b := (nI_leI (by omega) (by omega)).mp c36
              have hbu : b = u := by omega
              refine sx_weak (lv' := [some (.ref (ad 0)), some (.int x), some (.int y), some (.int fi), some (.int se), some (.int (nI (prN (mt W S) u a b))), some (.int (nI a)), none, none]) (And.intro rfl (And.intro rfl (And.intro rfl (And.intro rfl (And.intro rfl (And.intro rfl (And.intro rfl trivial))))))) ?_
              refine sx_iinc (v := nI (a + 1)) (lv' := [some (.ref (ad 0)), some (.int x), some (.int y), some (.int fi), some (.int se), some (.int (nI (prN (mt W S) u a b))), some (.int (nI (a + 1))), none, none]) C dM_pair_121 rfl (nI_1 a) (by decide) rfl rfl ?_
              refine sx_goto (tgt := 15) C dM_pair_124 (by decide) ?_
              have z := ih (a + 1) fi se (by omega) (by omega) (by rw [show prT (mt W S) u (a + 1) = prN (mt W S) u a b from by rw [hbu]; rfl]; exact hI)
              rw [show prT (mt W S) u (a + 1) = prN (mt W S) u a b from by rw [hbu]; rfl] at z
              exact z
            · have hc36 : ¬ u ≤ b := fun h => c36 ((nI_leI (by omega) (by omega)).mpr h)
              have J60 : SW p l e (rmL 3 0 0) s m [.ref (ad 0), .int x, .int y].toArray below meth c 9 D sxCl A 0 0 Q μ1 60 [some (.ref (ad 0)), some (.int x), some (.int y), some (.int fi), some (.int se), some (.int (nI (prN (mt W S) u a b))), some (.int (nI a)), some (.int (nI b)), none] [.int (b2i (mt W S a b))] := by
                refine sx_istore (lv' := [some (.ref (ad 0)), some (.int x), some (.int y), some (.int fi), some (.int se), some (.int (nI (prN (mt W S) u a b))), some (.int (nI a)), some (.int (nI b)), some (.int (b2i (mt W S a b)))]) C dM_pair_60 (by decide) rfl rfl ?_
                have J79 : SW p l e (rmL 3 0 0) s m [.ref (ad 0), .int x, .int y].toArray below meth c 9 D sxCl A 0 0 Q μ1 79 [some (.ref (ad 0)), some (.int x), some (.int y), some (.int fi), some (.int se), some (.int (nI (prN (mt W S) u a b))), some (.int (nI a)), some (.int (nI b)), some (.int (b2i (mt W S a b)))] [.int (if (mt W S a b && decide (nI (prN (mt W S) u a b) = x)) = true then nI a else fi)] := by
                  refine sx_istore_n (lv' := [some (.ref (ad 0)), some (.int x), some (.int y), some (.int (if (mt W S a b && decide (nI (prN (mt W S) u a b) = x)) = true then nI a else fi)), some (.int se), some (.int (nI (prN (mt W S) u a b))), some (.int (nI a)), some (.int (nI b)), some (.int (b2i (mt W S a b)))]) C dM_pair_79 rfl (by decide) rfl rfl ?_
                  have J98 : SW p l e (rmL 3 0 0) s m [.ref (ad 0), .int x, .int y].toArray below meth c 9 D sxCl A 0 0 Q μ1 98 [some (.ref (ad 0)), some (.int x), some (.int y), some (.int (if (mt W S a b && decide (nI (prN (mt W S) u a b) = x)) = true then nI a else fi)), some (.int se), some (.int (nI (prN (mt W S) u a b))), some (.int (nI a)), some (.int (nI b)), some (.int (b2i (mt W S a b)))] [.int (if (mt W S a b && decide (nI (prN (mt W S) u a b) = x)) = true then nI b else se)] := by
                    refine sx_istore (lv' := [some (.ref (ad 0)), some (.int x), some (.int y), some (.int (if (mt W S a b && decide (nI (prN (mt W S) u a b) = x)) = true then nI a else fi)), some (.int (if (mt W S a b && decide (nI (prN (mt W S) u a b) = x)) = true then nI b else se)), some (.int (nI (prN (mt W S) u a b))), some (.int (nI a)), some (.int (nI b)), some (.int (b2i (mt W S a b)))]) C dM_pair_98 (by decide) rfl rfl ?_
                    refine sx_iload C dM_pair_100 rfl ?_
                    have J112 : SW p l e (rmL 3 0 0) s m [.ref (ad 0), .int x, .int y].toArray below meth c 9 D sxCl A 0 0 Q μ1 112 [some (.ref (ad 0)), some (.int x), some (.int y), some (.int (if (mt W S a b && decide (nI (prN (mt W S) u a b) = x)) = true then nI a else fi)), some (.int (if (mt W S a b && decide (nI (prN (mt W S) u a b) = x)) = true then nI b else se)), some (.int (nI (prN (mt W S) u a b))), some (.int (nI a)), some (.int (nI b)), some (.int (b2i (mt W S a b)))] [.int (b2i (mt W S a b)), .int (nI (prN (mt W S) u a b))] := by
                      refine sx_iadd C dM_pair_112 ?_
                      refine sx_eqi (nI (prN (mt W S) u a (b + 1))) (pn_b) ?_
                      refine sx_istore (lv' := [some (.ref (ad 0)), some (.int x), some (.int y), some (.int (if (mt W S a b && decide (nI (prN (mt W S) u a b) = x)) = true then nI a else fi)), some (.int (if (mt W S a b && decide (nI (prN (mt W S) u a b) = x)) = true then nI b else se)), some (.int (nI (prN (mt W S) u a (b + 1)))), some (.int (nI a)), some (.int (nI b)), some (.int (b2i (mt W S a b)))]) C dM_pair_113 (by decide) rfl rfl ?_
                      refine sx_weak (lv' := [some (.ref (ad 0)), some (.int x), some (.int y), some (.int (if (mt W S a b && decide (nI (prN (mt W S) u a b) = x)) = true then nI a else fi)), some (.int (if (mt W S a b && decide (nI (prN (mt W S) u a b) = x)) = true then nI b else se)), some (.int (nI (prN (mt W S) u a (b + 1)))), some (.int (nI a)), some (.int (nI b)), none]) (And.intro rfl (And.intro rfl (And.intro rfl (And.intro rfl (And.intro rfl (And.intro rfl (And.intro rfl (And.intro rfl trivial)))))))) ?_
                      refine sx_iinc (v := nI (b + 1)) (lv' := [some (.ref (ad 0)), some (.int x), some (.int y), some (.int (if (mt W S a b && decide (nI (prN (mt W S) u a b) = x)) = true then nI a else fi)), some (.int (if (mt W S a b && decide (nI (prN (mt W S) u a b) = x)) = true then nI b else se)), some (.int (nI (prN (mt W S) u a (b + 1)))), some (.int (nI a)), some (.int (nI (b + 1))), none]) C dM_pair_115 rfl (nI_1 b) (by decide) rfl rfl ?_
                      refine sx_goto (tgt := 30) C dM_pair_118 (by decide) ?_
                      exact ih2 (b + 1) _ _ (by omega) (by omega) (by omega) (prI_s (by omega) hI)
                    refine sx_iload C dM_pair_102 rfl ?_
                    refine sx_if_eq (tgt := 111) C dM_pair_104 (by decide) (fun c104 => ?_) (fun c104 => ?_)
                    · refine sx_iconst (v := 0) C dM_pair_111 (by decide) ?_
                      refine sx_eqi ((b2i (mt W S a b))) (by first | (rw [b2i_z.mp c104]; rfl) | (rw [b2i_ne.mp c104]; rfl)) ?_
                      exact J112
                    · refine sx_iconst (v := 1) C dM_pair_107 (by decide) ?_
                      refine sx_goto (tgt := 112) C dM_pair_108 (by decide) ?_
                      refine sx_eqi ((b2i (mt W S a b))) (by first | (rw [b2i_z.mp c104]; rfl) | (rw [b2i_ne.mp c104]; rfl)) ?_
                      exact J112
                  refine sx_iload C dM_pair_80 rfl ?_
                  refine sx_if_eq (tgt := 96) C dM_pair_82 (by decide) (fun c82 => ?_) (fun c82 => ?_)
                  · refine sx_iload C dM_pair_96 rfl ?_
                    refine sx_eqi ((if (mt W S a b && decide (nI (prN (mt W S) u a b) = x)) = true then nI b else se)) (by first | (rw [b2i_z.mp c82]; rfl) | (rw [b2i_ne.mp c82, decide_eq_false c88]; rfl) | (rw [b2i_ne.mp c82, decide_eq_true c88]; rfl)) ?_
                    exact J98
                  · refine sx_iload C dM_pair_85 rfl ?_
                    refine sx_iload_n C dM_pair_87 rfl rfl ?_
                    refine sx_icmp_ne (tgt := 96) C dM_pair_88 (by decide) (fun c88 => ?_) (fun c88 => ?_)
                    · refine sx_iload C dM_pair_96 rfl ?_
                      refine sx_eqi ((if (mt W S a b && decide (nI (prN (mt W S) u a b) = x)) = true then nI b else se)) (by first | (rw [b2i_z.mp c82]; rfl) | (rw [b2i_ne.mp c82, decide_eq_false c88]; rfl) | (rw [b2i_ne.mp c82, decide_eq_true c88]; rfl)) ?_
                      exact J98
                    · refine sx_iload C dM_pair_91 rfl ?_
                      refine sx_goto (tgt := 98) C dM_pair_93 (by decide) ?_
                      refine sx_eqi ((if (mt W S a b && decide (nI (prN (mt W S) u a b) = x)) = true then nI b else se)) (by first | (rw [b2i_z.mp c82]; rfl) | (rw [b2i_ne.mp c82, decide_eq_false c88]; rfl) | (rw [b2i_ne.mp c82, decide_eq_true c88]; rfl)) ?_
                      exact J98
                refine sx_iload C dM_pair_62 rfl ?_
                refine sx_if_eq (tgt := 78) C dM_pair_64 (by decide) (fun c64 => ?_) (fun c64 => ?_)
                · refine sx_iload_n C dM_pair_78 rfl rfl ?_
                  refine sx_eqi ((if (mt W S a b && decide (nI (prN (mt W S) u a b) = x)) = true then nI a else fi)) (by first | (rw [b2i_z.mp c64]; rfl) | (rw [b2i_ne.mp c64, decide_eq_false c70]; rfl) | (rw [b2i_ne.mp c64, decide_eq_true c70]; rfl)) ?_
                  exact J79
                · refine sx_iload C dM_pair_67 rfl ?_
                  refine sx_iload_n C dM_pair_69 rfl rfl ?_
                  refine sx_icmp_ne (tgt := 78) C dM_pair_70 (by decide) (fun c70 => ?_) (fun c70 => ?_)
                  · refine sx_iload_n C dM_pair_78 rfl rfl ?_
                    refine sx_eqi ((if (mt W S a b && decide (nI (prN (mt W S) u a b) = x)) = true then nI a else fi)) (by first | (rw [b2i_z.mp c64]; rfl) | (rw [b2i_ne.mp c64, decide_eq_false c70]; rfl) | (rw [b2i_ne.mp c64, decide_eq_true c70]; rfl)) ?_
                    exact J79
                  · refine sx_iload C dM_pair_73 rfl ?_
                    refine sx_goto (tgt := 79) C dM_pair_75 (by decide) ?_
                    refine sx_eqi ((if (mt W S a b && decide (nI (prN (mt W S) u a b) = x)) = true then nI a else fi)) (by first | (rw [b2i_z.mp c64]; rfl) | (rw [b2i_ne.mp c64, decide_eq_false c70]; rfl) | (rw [b2i_ne.mp c64, decide_eq_true c70]; rfl)) ?_
                    exact J79
              refine sx_aload_n C dM_pair_39 rfl rfl ?_
              refine sx_getf (Cn := RM) (T := TM) (N := 17) C dM_pair_40 (sx_in inM) rfl 12 (by decide) (sx_w C kF_M_29) (fun _ h => h) (MS_f0 hS1) rfl ?_
              refine sx_bipush (v := 40) C dM_pair_43 (by decide) ?_
              refine sx_iload C dM_pair_45 rfl ?_
              refine sx_imul C dM_pair_47 ?_
              refine sx_eqi (nI (40 * a)) (nI_mul 40 a) ?_
              refine sx_iload C dM_pair_48 rfl ?_
              refine sx_iadd C dM_pair_50 ?_
              refine sx_eqi (nI (40 * a + b)) (nI_add _ _) ?_
              refine sx_iald (j := (40 * a + b)) C dM_pair_51 0 rfl (MS_f7 hS1) (rfl) ((by omega)) (Nat.le_of_ble_eq_true rfl) ?_
              refine sx_eqi (nI (cm W S a b)) ((hK a (by omega) b (by omega)).1) ?_
              refine sx_if_le (tgt := 59) C dM_pair_52 (by decide) (fun c52 => ?_) (fun c52 => ?_)
              · refine sx_iconst (v := 0) C dM_pair_59 (by decide) ?_
                refine sx_eqi ((b2i (mt W S a b))) (by rw [mt_b (u := u) hW hb1]; simp [b2i, c52]) ?_
                exact J60
              · refine sx_iconst (v := 1) C dM_pair_55 (by decide) ?_
                refine sx_goto (tgt := 60) C dM_pair_56 (by decide) ?_
                refine sx_eqi ((b2i (mt W S a b))) (by rw [mt_b (u := u) hW hb1]; simp [b2i, c52]) ?_
                exact J60
        exact L30 _ (a + 1) fi se (Nat.lt_succ_self _) (Nat.le_refl _) (by omega) (by rw [show prN (mt W S) u a (a + 1) = prT (mt W S) u a from pn_i]; exact hI)
  exact L15 _ 0 (-1) (-1) (Nat.lt_succ_self _) (Nat.zero_le _) (Or.inl ⟨rfl, rfl, fun j hj => absurd hj (Nat.not_lt_zero _)⟩)
