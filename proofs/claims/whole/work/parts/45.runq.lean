/-! there is one answer -/
theorem ix_un {x : Int32} {i i' N : Nat} (hN : N ≤ 2 ^ 31) (hi : i < N) (hi' : i' < N) (h : x = nI i) (h' : x = nI i') : i = i' := (ab_nI (by omega) (by omega)).mp (h.symm.trans h')
theorem u_enc {W u : Nat} {S : Nat → Nat → Bool} {ed : Nat → Nat → Nat} {x y : Int64} {k r k' r' : Int32} {u1 u2 : Nat} {S1 S2 : Nat → Nat → Bool} {e1 e2 : Nat → Nat → Nat} (hA : AW W u S ed) (h : R_enc W u S ed x y k r u1 S1 e1) (h' : R_enc W u S ed x y k' r' u2 S2 e2) : k = k' ∧ (k = 0 → r = r') ∧ u1 = u2 ∧ S1 = S2 ∧ e1 = e2 := by
  rcases h with ⟨rfl, m, v, h1, h2, h3, rfl, rfl, rfl⟩ | ⟨⟨rfl, h1⟩ | ⟨rfl, h1, m, v, h2⟩, rfl, rfl, rfl⟩ <;> rcases h' with ⟨rfl, m', v', g1, g2, g3, rfl, rfl, rfl⟩ | ⟨⟨rfl, g1⟩ | ⟨rfl, g1, m', v', g2⟩, rfl, rfl, rfl⟩
  · obtain ⟨rfl, rfl⟩ := en_un hA.1.2 h1 g1
    exact ⟨rfl, fun _ => h3.trans g3.symm, rfl, rfl, rfl⟩
  · exact absurd h1 (g1 _ _)
  · omega
  · exact absurd g1 (h1 _ _)
  · exact ⟨rfl, fun z => absurd z (by decide), rfl, rfl, rfl⟩
  · exact absurd g2 (h1 _ _)
  · omega
  · exact absurd h2 (g1 _ _)
  · exact ⟨rfl, fun z => absurd z (by decide), rfl, rfl, rfl⟩
theorem cnd_un {W : Nat} (hW : W ≤ 16) {f t kd v : Int32} {a b j n a' b' j' n' : Nat} (h : cndOk W f t kd v a b j n) (h' : cndOk W f t kd v a' b' j' n') : a = a' ∧ b = b' ∧ j = j' ∧ n = n' := by
  obtain ⟨h1, h2, h3, h4, h5, h6, h7, h8⟩ := h
  obtain ⟨g1, g2, g3, g4, g5, g6, g7, g8⟩ := h'
  exact ⟨ix_un (N := 70000) (by omega) (by omega) (by omega) h5 g5, ix_un (N := 70000) (by omega) (by omega) (by omega) h6 g6, ix_un (N := 70000) (by omega) (by omega) (by omega) h7 g7, ix_un (N := 70000) (by omega) (by omega) (by omega) h8 g8⟩
theorem u_cnd {W u : Nat} {S : Nat → Nat → Bool} {ed : Nat → Nat → Nat} {x f t kd v : Int32} {k r k' r' : Int32} {S1 S2 : Nat → Nat → Bool} {e1 e2 : Nat → Nat → Nat} (hA : AW W u S ed) (h : R_cnd W u S ed x f t kd v k r S1 e1) (h' : R_cnd W u S ed x f t kd v k' r' S2 e2) : k = k' ∧ (k = 0 → r = r') ∧ S1 = S2 ∧ e1 = e2 := by
  have hu := hA.2.1
  rcases h with ⟨rfl, i, a, b, j, n, h1, h2, h3, h4, q, rfl, h5, rfl, rfl⟩ | ⟨⟨rfl, h1⟩ | ⟨rfl, ⟨i, h1, h2⟩, h3⟩ | ⟨rfl, i, a, b, j, n, h1, h2, h3, h4⟩, rfl, rfl⟩ <;> rcases h' with ⟨rfl, i', a', b', j', n', g1, g2, g3, g4, q', rfl, g5, rfl, rfl⟩ | ⟨⟨rfl, g1⟩ | ⟨rfl, ⟨i', g1, g2⟩, g3⟩ | ⟨rfl, i', a', b', j', n', g1, g2, g3, g4⟩, rfl, rfl⟩
  · obtain rfl := ix_un (by omega) h1 g1 h2 g2
    obtain ⟨rfl, rfl, rfl, rfl⟩ := cnd_un hA.1.2 h3 g3
    have hq : q = q' := Bool.eq_iff_iff.mpr (h5.trans g5.symm)
    subst hq
    exact ⟨rfl, fun _ => rfl, rfl, rfl⟩
  · exact absurd h2 (g1 _ h1)
  · exact absurd h3 (g3 _ _ _ _)
  · obtain rfl := ix_un (by omega) h1 g1 h2 g2
    omega
  · exact absurd g2 (h1 _ g1)
  · exact ⟨rfl, fun z => absurd z (by decide), rfl, rfl⟩
  · exact absurd g2 (h1 _ g1)
  · exact absurd g2 (h1 _ g1)
  · exact absurd g3 (h3 _ _ _ _)
  · exact absurd h2 (g1 _ h1)
  · exact ⟨rfl, fun z => absurd z (by decide), rfl, rfl⟩
  · exact absurd g3 (h3 _ _ _ _)
  · obtain rfl := ix_un (by omega) h1 g1 h2 g2
    omega
  · exact absurd h2 (g1 _ h1)
  · exact absurd h3 (g3 _ _ _ _)
  · exact ⟨rfl, fun z => absurd z (by decide), rfl, rfl⟩
theorem u_opd {W u : Nat} {S : Nat → Nat → Bool} {ed : Nat → Nat → Nat} {x f t : Int32} {k r k' r' : Int32} {e1 e2 : Nat → Nat → Nat} (hA : AW W u S ed) (h : R_opd W u ed x f t k r e1) (h' : R_opd W u ed x f t k' r' e2) : k = k' ∧ (k = 0 → r = r') ∧ e1 = e2 := by
  have hu := hA.2.1
  have hW := hA.1.2
  rcases h with ⟨rfl, i, a, b, h1, h2, ⟨h3, h4, h5, h6⟩, rfl, rfl⟩ | ⟨⟨rfl, h1⟩ | ⟨rfl, ⟨i, h1, h2⟩, h3⟩, rfl⟩ <;> rcases h' with ⟨rfl, i', a', b', g1, g2, ⟨g3, g4, g5, g6⟩, rfl, rfl⟩ | ⟨⟨rfl, g1⟩ | ⟨rfl, ⟨i', g1, g2⟩, g3⟩, rfl⟩
  · obtain rfl := ix_un (by omega) h1 g1 h2 g2
    obtain rfl := ix_un (N := 16) (by omega) (by omega) (by omega) h5 g5
    obtain rfl := ix_un (N := 16) (by omega) (by omega) (by omega) h6 g6
    exact ⟨rfl, fun _ => rfl, rfl⟩
  · exact absurd h2 (g1 _ h1)
  · exact absurd ⟨h5, h6⟩ (g3 _ _ h3 h4)
  · exact absurd g2 (h1 _ g1)
  · exact ⟨rfl, fun z => absurd z (by decide), rfl⟩
  · exact absurd g2 (h1 _ g1)
  · exact absurd ⟨g5, g6⟩ (h3 _ _ g3 g4)
  · exact absurd h2 (g1 _ h1)
  · exact ⟨rfl, fun z => absurd z (by decide), rfl⟩
theorem u_nds {W u : Nat} {S : Nat → Nat → Bool} {ed : Nat → Nat → Nat} {x v : Int32} {k r k' r' : Int32} {e1 e2 : Nat → Nat → Nat} (hA : AW W u S ed) (h : R_nds u ed x v k r e1) (h' : R_nds u ed x v k' r' e2) : k = k' ∧ (k = 0 → r = r') ∧ e1 = e2 := by
  have hu := hA.2.1
  rcases h with ⟨rfl, i, n, h1, h2, h3, h4, rfl, rfl⟩ | ⟨⟨rfl, h1⟩ | ⟨rfl, ⟨i, h1, h2⟩, h3⟩, rfl⟩ <;> rcases h' with ⟨rfl, i', n', g1, g2, g3, g4, rfl, rfl⟩ | ⟨⟨rfl, g1⟩ | ⟨rfl, ⟨i', g1, g2⟩, g3⟩, rfl⟩
  · obtain rfl := ix_un (by omega) h1 g1 h2 g2
    obtain rfl := ix_un (by omega) h3 g3 h4 g4
    exact ⟨rfl, fun _ => rfl, rfl⟩
  · exact absurd h2 (g1 _ h1)
  · exact absurd h4 (g3 _ h3)
  · exact absurd g2 (h1 _ g1)
  · exact ⟨rfl, fun z => absurd z (by decide), rfl⟩
  · exact absurd g2 (h1 _ g1)
  · exact absurd g4 (h3 _ g3)
  · exact absurd h2 (g1 _ h1)
  · exact ⟨rfl, fun z => absurd z (by decide), rfl⟩
theorem lw_un {S : Nat → Nat → Bool} {a b w w' : Nat} (h : lwP S a b w) (h' : lwP S a b w') : w = w' := by
  rcases Nat.lt_trichotomy w w' with z | z | z
  · exact absurd ⟨h.1, h.2.1⟩ (h'.2.2 w z)
  · exact z
  · exact absurd ⟨h'.1, h'.2.1⟩ (h.2.2 w' z)
theorem u_pair {W u : Nat} {S : Nat → Nat → Bool} {x y : Int32} {k r k' r' : Int32} (h : R_pair W u S x y k r) (h' : R_pair W u S x y k' r') : k = k' ∧ (k = 0 → r = r') := by
  rcases h with ⟨rfl, j, n, a, b, h1, h2, h3, h4, h5, h6⟩ | ⟨rfl, h1⟩ <;> rcases h' with ⟨rfl, j', n', a', b', g1, g2, g3, g4, g5, g6⟩ | ⟨rfl, g1⟩
  · obtain rfl := ix_un (Nat.le_refl _) h2 g2 h1 g1
    obtain rfl := ix_un (N := 4) (by omega) (by omega) (by omega) h3 g3
    obtain ⟨rfl, rfl⟩ := pr_un h5 g5
    refine ⟨rfl, fun _ => ?_⟩
    rcases h6 with ⟨z1, z2⟩ | ⟨z1, z2⟩ | ⟨z1, w, z2, z3⟩ | ⟨z1, z2⟩ <;> rcases g6 with ⟨y1, y2⟩ | ⟨y1, y2⟩ | ⟨y1, w', y2, y3⟩ | ⟨y1, y2⟩ <;> first | exact z2.trans y2.symm | (exfalso; omega) | (rw [z2, y2, lw_un z3 y3])
  · exact absurd h5 (g1 _ _ _ _ h1 h2 h3 h4)
  · exact absurd g5 (h1 _ _ _ _ g1 g2 g3 g4)
  · exact ⟨rfl, fun z => absurd z (by decide)⟩
theorem u_als {W u : Nat} {S : Nat → Nat → Bool} {ed : Nat → Nat → Nat} {x y : Int32} {k r k' r' : Int32} (hA : AW W u S ed) (h : R_als W u S x y k r) (h' : R_als W u S x y k' r') : k = k' ∧ (k = 0 → r = r') := by
  have hu := hA.2.1
  rcases h with ⟨rfl, a, b, h1, h2, h3, h4, rfl⟩ | ⟨rfl, h1⟩ <;> rcases h' with ⟨rfl, a', b', g1, g2, g3, g4, rfl⟩ | ⟨rfl, g1⟩
  · obtain rfl := ix_un (by omega) h1 g1 h3 g3
    obtain rfl := ix_un (by omega) h2 g2 h4 g4
    exact ⟨rfl, fun _ => rfl⟩
  · exact absurd ⟨h3, h4⟩ (g1 _ _ h1 h2)
  · exact absurd ⟨g3, g4⟩ (h1 _ _ g1 g2)
  · exact ⟨rfl, fun z => absurd z (by decide)⟩
theorem u_cls {W u : Nat} {S : Nat → Nat → Bool} {ed : Nat → Nat → Nat} {x : Int32} {k r k' r' : Int32} (h : R_cls W u S ed x k r) (h' : R_cls W u S ed x k' r') : k = k' ∧ (k = 0 → r = r') := by
  rcases h with ⟨rfl, ⟨n, h1, h2⟩, rfl⟩ | ⟨rfl, h1⟩ <;> rcases h' with ⟨rfl, ⟨n', g1, g2⟩, rfl⟩ | ⟨rfl, g1⟩
  · exact ⟨rfl, fun _ => rfl⟩
  · exact absurd h2 (g1 _ h1)
  · exact absurd g2 (h1 _ g1)
  · exact ⟨rfl, fun z => absurd z (by decide)⟩
theorem u_mls {W u : Nat} {S : Nat → Nat → Bool} {ed : Nat → Nat → Nat} {x : Int32} {k r k' r' : Int32} (hA : AW W u S ed) (h : R_mls W u ed x k r) (h' : R_mls W u ed x k' r') : k = k' ∧ (k = 0 → r = r') := by
  have hu := hA.2.1
  rcases h with ⟨rfl, i, h1, h2, rfl⟩ | ⟨rfl, h1⟩ <;> rcases h' with ⟨rfl, i', g1, g2, rfl⟩ | ⟨rfl, g1⟩
  · obtain rfl := ix_un (by omega) h1 g1 h2 g2
    exact ⟨rfl, fun _ => rfl⟩
  · exact absurd h2 (g1 _ h1)
  · exact absurd g2 (h1 _ g1)
  · exact ⟨rfl, fun z => absurd z (by decide)⟩
theorem pu_un {P : Nat → Bool} {w w' j : Nat} (h1 : P w = true) (h2 : P w' = true) (h3 : pu_c P w = j) (h4 : pu_c P w' = j) : w = w' := by
  rcases Nat.lt_trichotomy w w' with z | z | z
  · have := pu_lt z h1; omega
  · exact z
  · have := pu_lt z h2; omega
theorem u_idl {W u : Nat} {S : Nat → Nat → Bool} {ed : Nat → Nat → Nat} {x y : Int32} {k r k' r' : Int32} (hA : AW W u S ed) (h : R_idl W u ed x y k r) (h' : R_idl W u ed x y k' r') : k = k' ∧ (k = 0 → r = r') := by
  have hu := hA.2.1
  rcases h with ⟨rfl, i, j, p, h1, h2, h3, h4, rfl, h5, h6, h7⟩ | ⟨rfl, h1⟩ | ⟨rfl, i, h1, h2, h3⟩ <;> rcases h' with ⟨rfl, i', j', p', g1, g2, g3, g4, rfl, g5, g6, g7⟩ | ⟨rfl, g1⟩ | ⟨rfl, i', g1, g2, g3⟩
  · obtain rfl := ix_un (by omega) h1 g1 h2 g2
    have hp := pop32_le (nI (idN W ed i))
    obtain rfl := ix_un (by omega) h4 g4 h3 g3
    obtain rfl := pu_un h6 g6 h7 g7
    exact ⟨rfl, fun _ => rfl⟩
  · exact absurd h2 (g1 _ h1)
  · obtain rfl := ix_un (by omega) h1 g1 h2 g2
    exact absurd h3 (g3 _ h4)
  · exact absurd g2 (h1 _ g1)
  · exact ⟨rfl, fun z => absurd z (by decide)⟩
  · exact absurd g2 (h1 _ g1)
  · obtain rfl := ix_un (by omega) h1 g1 h2 g2
    exact absurd g3 (h3 _ g4)
  · exact absurd h2 (g1 _ h1)
  · exact ⟨rfl, fun z => absurd z (by decide)⟩
theorem u_cnt {W u : Nat} {S : Nat → Nat → Bool} {ed : Nat → Nat → Nat} {x : Int32} {k r k' r' : Int32} (hA : AW W u S ed) (h : R_cnt W u S x k r) (h' : R_cnt W u S x k' r') : k = k' ∧ (k = 0 → r = r') := by
  have hu := hA.2.1
  rcases h with ⟨rfl, i, h1, h2, rfl⟩ | ⟨rfl, h1⟩ <;> rcases h' with ⟨rfl, i', g1, g2, rfl⟩ | ⟨rfl, g1⟩
  · obtain rfl := ix_un (by omega) h1 g1 h2 g2
    exact ⟨rfl, fun _ => rfl⟩
  · exact absurd h2 (g1 _ h1)
  · exact absurd g2 (h1 _ g1)
  · exact ⟨rfl, fun z => absurd z (by decide)⟩
theorem nI_nm1 {j : Nat} (h : j < 2 ^ 31) : nI j ≠ -1 := fun e => by
  have := nI_toInt h
  rw [e] at this
  have e1 : (-1 : Int32).toInt = -1 := rfl
  omega
theorem sel_un {W u : Nat} {S : Nat → Nat → Bool} {x : Int32} {T T' : Nat → Bool} (hu : u ≤ 40) (h : selT W u S x T) (h' : selT W u S x T') : T = T' := by
  rcases h with ⟨h1, rfl⟩ | ⟨j, h1, h2, rfl⟩ <;> rcases h' with ⟨g1, rfl⟩ | ⟨j', g1, g2, rfl⟩
  · rfl
  · exact absurd (g2.symm.trans h1) (nI_nm1 (by omega))
  · exact absurd (h2.symm.trans g1) (nI_nm1 (by omega))
  · rw [ix_un (by omega) h1 g1 h2 g2]
theorem sel_no {W u : Nat} {S : Nat → Nat → Bool} {x : Int32} {T : Nat → Bool} (h : selT W u S x T) (h1 : x ≠ -1) (h2 : ∀ j, j < u → x ≠ nI j) : False := by
  rcases h with ⟨g1, -⟩ | ⟨j, g1, g2, -⟩
  · exact h1 g1
  · exact h2 j g1 g2
theorem u_bks {W u : Nat} {S : Nat → Nat → Bool} {ed : Nat → Nat → Nat} {x : Int32} {k r k' r' : Int32} (hA : AW W u S ed) (h : R_bks W u S x k r) (h' : R_bks W u S x k' r') : k = k' ∧ (k = 0 → r = r') := by
  have hu := hA.2.1
  rcases h with ⟨rfl, T, h1, rfl⟩ | ⟨rfl, h1, h2⟩ <;> rcases h' with ⟨rfl, T', g1, rfl⟩ | ⟨rfl, g1, g2⟩
  · obtain rfl := sel_un hu h1 g1
    exact ⟨rfl, fun _ => rfl⟩
  · exact (sel_no h1 g1 g2).elim
  · exact (sel_no g1 h1 h2).elim
  · exact ⟨rfl, fun z => absurd z (by decide)⟩
theorem z_01 {z : Int32} {P Q : Prop} (h : (z = 0 ∧ P) ∨ (z = 1 ∧ Q)) : z = 0 ∨ z = 1 := h.elim (fun q => Or.inl q.1) (fun q => Or.inr q.1)
theorem u_blk {W u : Nat} {S : Nat → Nat → Bool} {ed : Nat → Nat → Nat} {x y z : Int32} {k r k' r' : Int32} (hA : AW W u S ed) (h : R_blk W u S x y z k r) (h' : R_blk W u S x y z k' r') : k = k' ∧ (k = 0 → r = r') := by
  have hu := hA.2.1
  rcases h with ⟨rfl, T, j, w, h1, h2, h3, h4, h5, h6, h7⟩ | ⟨rfl, h1, h2⟩ | ⟨rfl, T, h1, h2⟩ <;> rcases h' with ⟨rfl, T', j', w', g1, g2, g3, g4, g5, g6, g7⟩ | ⟨rfl, g1, g2⟩ | ⟨rfl, T', g1, g2⟩
  · obtain rfl := sel_un hu h1 g1
    obtain rfl := ix_un (Nat.le_refl _) h3 g3 h2 g2
    obtain rfl := pu_un h5 g5 h6 g6
    refine ⟨rfl, fun _ => ?_⟩
    rcases h7 with ⟨z1, z2⟩ | ⟨z1, q, z2, z3⟩ <;> rcases g7 with ⟨y1, y2⟩ | ⟨y1, q', y2, y3⟩
    · exact z2.trans y2.symm
    · exact absurd (z1.symm.trans y1) (by decide)
    · exact absurd (z1.symm.trans y1) (by decide)
    · rw [z2, y2, lev_un z3 y3]
  · exact (sel_no h1 g1 g2).elim
  · obtain rfl := sel_un hu h1 g1
    exact absurd h6 (g2 j w h2 (z_01 h7) h4 h5)
  · exact (sel_no g1 h1 h2).elim
  · exact ⟨rfl, fun z => absurd z (by decide)⟩
  · exact (sel_no g1 h1 h2).elim
  · obtain rfl := sel_un hu h1 g1
    exact absurd g6 (h2 j' w' g2 (z_01 g7) g4 g5)
  · exact (sel_no h1 g1 g2).elim
  · exact ⟨rfl, fun z => absurd z (by decide)⟩
theorem u_dec {W u : Nat} {S : Nat → Nat → Bool} {ed : Nat → Nat → Nat} {x : Int32} {k r k' r' : Int32} (hA : AW W u S ed) (h : R_dec W u S x k r) (h' : R_dec W u S x k' r') : k = k' ∧ (k = 0 → r = r') := by
  have hp := en_pw hA.1.2
  rcases h with ⟨rfl, w, h1, h2, h3⟩ | ⟨rfl, h1⟩ <;> rcases h' with ⟨rfl, w', g1, g2, g3⟩ | ⟨rfl, g1⟩
  · obtain rfl := ix_un (by omega) h1 g1 h2 g2
    exact ⟨rfl, fun _ => dc_un h3 g3⟩
  · exact absurd h2 (g1 _ h1)
  · exact absurd g2 (h1 _ g1)
  · exact ⟨rfl, fun z => absurd z (by decide)⟩
theorem u_ord {W u : Nat} {S : Nat → Nat → Bool} {ed : Nat → Nat → Nat} {x : Int32} {k r k' r' : Int32} (hA : AW W u S ed) (h : R_ord W u S x k r) (h' : R_ord W u S x k' r') : k = k' ∧ (k = 0 → r = r') := by
  have hu := hA.2.1
  rcases h with ⟨rfl, j, o, h1, h2, h3, rfl⟩ | ⟨rfl, h1⟩ <;> rcases h' with ⟨rfl, j', o', g1, g2, g3, rfl⟩ | ⟨rfl, g1⟩
  · obtain rfl := ix_un (by omega) h1 g1 h2 g2
    exact ⟨rfl, fun _ => by rw [ord_un h3 g3 j (Nat.le_refl _)]⟩
  · exact absurd h2 (g1 _ h1)
  · exact absurd g2 (h1 _ g1)
  · exact ⟨rfl, fun z => absurd z (by decide)⟩
/-- a script's number -/
theorem i_ok {i t L : Nat} (ht : 1 + 6 * t + 6 ≤ L) (hL : L ≤ 3073) (hi : i ≤ 5) : 1 + 6 * t + i < L := by omega
