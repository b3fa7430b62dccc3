section SXR2
variable {p : Program} {l : Launch} {e : Env} {R : Room} {s : State} {m : MethodId} {args : Array Value} {below : List Frame} {meth : Method} {c : Code} {cc : ByteArray} {nL : Nat} {own : String} {Ts : List Cond} {D : va_G} {cl : List vw_C} {tys : List (ClassId × FieldType)} {E : (Nat → Prop) → State → Heap → Prop} {A : Nat → Prop} {cells slots : Nat} {Q : State → Prop} {μ : sx_M} {pc : Nat} {lv : List (Option Value)} {rest st0 : List Value} {mc ms : Nat}
theorem vx_callr {H : Heap} {locs : List Loc} {A0 A1 : Nat → Prop} {H0 : Heap} {a : Array Value} {ls : Array Slot} {free : Addr → Prop} {S SX : Type} {post : S → Prop} {px : SX → Prop} {B : S → Nat → State → Prop} {BX : String → SX → State → Prop} {AX : Nat → Prop} (hr : vx_Run p l e R s m args below meth c H locs cells slots mc ms (F0 m pc ls st0) rest (va_Qr post B A1 a) (vx_X px BX AX) free) (hS : va_S A0 H0 H locs) (hA : ∀ q, q < H.size → A1 q → A0 q) (hf : ∀ q, free q → A0 q) (hAX : ∀ q, q < H.size → AX q → A0 q)
    (kx : ∀ (E : String) (ce : Cell) (q9 : Addr) (u : SX) (t : State) (H1 : Heap) (locs1 : List Loc), t.heap = H1 → s.vm.Alike t.vm → px u → BX E u t → H.size ≤ H1.size → (∀ q : Nat, q < H.size → ¬ AX q → H1[q]? = H[q]?) → va_S A0 H0 H1 locs1 → H1[q9]? = some ce → ce.vm = .none → s.vm.findClass E = some ce.cls → vx_W p l e R s m args below meth c H1 locs1 (cells + mc) (slots + ms) Q (F0 m pc ls rest) q9)
    (kk : ∀ (u : S) (r : Nat) (t : State) (H1 : Heap) (locs1 : List Loc), t.heap = H1 → s.vm.Alike t.vm → post u → B u r t → H.size ≤ H1.size → (∀ q : Nat, q < H.size → ¬ A1 q → H1[q]? = H[q]?) → va_S A0 H0 H1 locs1 → W p l e R s m args below meth c H1 locs1 (cells + mc) (slots + ms) Q (F0 m (pc + 3) ls (.ref r :: rest))) : W p l e R s m args below meth c H locs cells slots Q (F0 m pc ls st0) := by
  intro T hT X
  rcases hr T hT X with ⟨v, st₀, t, T', L, h0, X', hL, e1, e2, ⟨⟨u, r, hv, hp, hb⟩, hF⟩, st⟩ | ⟨q, st₀, t, T', L, E, ce, h0, X', hL, e1, e2, ⟨u, hp, hb, hF⟩, hce, hcv, hcl, st⟩
  · cases hv
    obtain ⟨k1, k2, k3⟩ := vx_keep h0 e1 hS hA hf hL hF
    obtain ⟨t2, a1, b1⟩ := kk u r t T'.heap (locs ++ L) e1.symm (by rw [← e2]; exact X'.warmed.alike) hp hb k1 k2 k3 T' rfl X'
    exact ⟨t2, st t2 a1, b1⟩
  · obtain ⟨k1, k2, k3⟩ := vx_keep h0 e1 hS hAX hf hL hF
    obtain ⟨t2, a1, b1⟩ := kx E ce q u t T'.heap (locs ++ L) e1.symm (by rw [← e2]; exact X'.warmed.alike) hp hb k1 k2 k3 (by rw [e1]; exact hce) hcv hcl T' rfl X'
    exact ⟨t2, st.trans a1, b1⟩
theorem sx_callXr (C : sx_C p s m args c cc nL own Ts D cl tys E A) {post : Nat → sx_M → Prop} {px : String → sx_M → Prop} {a : Array Value} (hr : sx_RunX p l e R s m args below meth c nL D cl A cells slots mc ms μ μ pc lv st0 rest (fun sz => sx_Qr post D cl (sx_A μ sz) a) px) (kx : ∀ (Ex : String) (μ' : sx_M), px Ex μ' → SX p l e R s m args below meth c nL D cl A (cells + mc) (slots + ms) Q μ' pc lv rest Ex) (k : ∀ (r : Nat) (μ' : sx_M), post r μ' → SW p l e R s m args below meth c nL D cl A (cells + mc) (slots + ms) Q μ' (pc + 3) lv (.ref r :: rest)) : SW p l e R s m args below meth c nL D cl A cells slots Q μ pc lv st0 := by
  intro H locs ls hH hS hl
  have hF := sx_F hH hS C.2.2.1
  exact vx_callr (hr H locs ls hH hS hl) hS (fun q _ h => hF q h) hF (fun q _ h => hF q h) (fun Ex ce q9 μ' t H1 locs1 ht hvm hw hB hz1 hk1 hS1 h1 h2 h3 => kx Ex μ' hB.1 H1 locs1 ls q9 ce (sx_H_mono (ht ▸ hB.2) (fun q e _ h => hF q h)) hS1 hl h1 h2 h3) (fun μ' r t H1 locs1 ht hvm hw hB hz1 hk1 hS1 => k r μ' hB.1 H1 locs1 ls (sx_H_mono (ht ▸ hB.2) (fun q e _ h => hF q h)) hS1 hl)
end SXR2

set_option maxHeartbeats 4000000 in
set_option maxRecDepth 100000 in
/-- begin -/
theorem c_E_begin (l : Launch) (D : va_G) (tc : Nat → ClassId) (i a b : Nat) (ad : Nat → Nat → Nat) (ro : Nat → Nat) (ur : Nat) (W : Nat) (u : Nat) (ln : Nat → Nat) (rf : Nat → Nat → Int64) (sc : Nat → Nat → Int32) (uk : Bool) (ul : Nat) (uf : Nat → Int64) (sf : Nat → Int64) (ed : Nat → Nat → Nat) (μ : sx_M) (hS : CS tc μ ad ro ur W u ln rf sc uk ul uf sf ed) (hi : i < 40) (hW : W ≤ 16) (hn : ln i = 0 ∨ ln i = nCh W) (ha : a < 2 ^ 31) (hb : b < 2 ^ 31) : sx_Mv l yE_begin (Cond.code yE_begin cE_begin 3 none :: sxW) (rmL 3 1 1024) D sxCl (sxT tc) sxE [.ref (ad 2 i), .int (nI a), .int (nI b)] μ (fun μ' => ∃ (r2 : Nat) (g : Nat → Int64), CS tc μ' ad (va_up ro i r2) ur W u (va_up ln i (nCh W)) (va_up rf i g) sc uk ul uf sf (edU ed i a 0 0 0 0) ∧ ∀ c, c < nCh W → ∀ k, k < 64 → bL (g c) k = fxB W a b c k) 1 1024 := by
  refine sx_ofvQ (cc := cE_begin) (maxL := 3) (ret := none) (own := RE) sxE_ok (by decide) rfl rfl (Nat.le_of_ble_eq_true rfl) [some (.ref (ad 2 i)), some (.int (nI a)), some (.int (nI b))] 0 rfl (fun p e s m below meth c A Q hQ C hr hlocks hnm => ?_)
  refine sx_aload_n C dE_begin_0 rfl rfl ?_
  refine sx_getf (Cn := RE) (T := TE) (N := 6) C dE_begin_1 (sx_in inE) rfl 0 (by decide) (sx_w C kF_E_12) (fun _ h => h) (CS_f2 hS hi) rfl ?_
  refine sx_iload_n C dE_begin_4 rfl rfl ?_
  refine sx_iload_n C dE_begin_5 rfl rfl ?_
  refine sx_callv C (sx_runV (As := [.int (nI a), .int (nI b)]) (rest := []) C sx_all (c_S_setToFixed l D tc (ad 3 i) (ro i) W (ln i) a b (rf i) μ hW hn ha hb (CS_f3 hS hi) (CS_f4 hS hi)) (ci := 1) rfl (CS_f3 hS hi) (sx_cwV C 2 kM_E_18 ki_S_setToFixed ke_S_setToFixed kn_S kc_S_setToFixed rfl rfl (by decide +kernel) ⟨Nat.le_of_ble_eq_true rfl, Nat.le_of_ble_eq_true rfl⟩) rfl rfl (Nat.le_of_ble_eq_true rfl) dE_begin_6 ⟨Nat.le_of_ble_eq_true rfl, Nat.le_of_ble_eq_true rfl⟩) (fun μ1 h1 => ?_)
  obtain ⟨r2, g, hr2, -, hm, hg⟩ := h1
  subst hm
  have hS1 : CS tc (sx_up (sx_up μ (ad 3 i) (.inr (1, [.int (nI W), .ref r2]))) r2 (.inl (tc 1, nCh W, .inr (.inl g)))) ad (va_up ro i r2) ur W u (va_up ln i (nCh W)) (va_up rf i g) sc uk ul uf sf ed := CS_ro hS hi r2 (nCh W) g hr2
  refine sx_aload_n C dE_begin_9 rfl rfl ?_
  refine sx_iload_n C dE_begin_10 rfl rfl ?_
  refine sx_putf (Cn := RE) (T := TE) (N := 6) (ty := .int) (fs' := [.ref (ad 3 i), .int (nI a), .int (nI (ed 1 i)), .int (nI (ed 2 i)), .int (nI (ed 3 i)), .int (nI (ed 4 i))]) C dE_begin_11 (sx_in inE) tE tE_ok nE rfl 1 (by decide) (sx_w C kF_E_22) (fun _ h => h) rfl (by decide +kernel) rfl rfl (CS_f2 hS1 hi) (by simp) rfl ?_
  refine sx_aload_n C dE_begin_14 rfl rfl ?_
  refine sx_iconst (v := 0) C dE_begin_15 (by decide) ?_
  refine sx_putf (Cn := RE) (T := TE) (N := 6) (ty := .int) (fs' := [.ref (ad 3 i), .int (nI a), .int 0, .int (nI (ed 2 i)), .int (nI (ed 3 i)), .int (nI (ed 4 i))]) C dE_begin_16 (sx_in inE) tE tE_ok nE rfl 2 (by decide) (sx_w C kF_E_26) (fun _ h => h) rfl (by decide +kernel) rfl rfl (sx_up_s _ _ _) (by simp) rfl ?_
  refine sx_aload_n C dE_begin_19 rfl rfl ?_
  refine sx_iconst (v := 0) C dE_begin_20 (by decide) ?_
  refine sx_putf (Cn := RE) (T := TE) (N := 6) (ty := .int) (fs' := [.ref (ad 3 i), .int (nI a), .int 0, .int 0, .int (nI (ed 3 i)), .int (nI (ed 4 i))]) C dE_begin_21 (sx_in inE) tE tE_ok nE rfl 3 (by decide) (sx_w C kF_E_29) (fun _ h => h) rfl (by decide +kernel) rfl rfl (sx_up_s _ _ _) (by simp) rfl ?_
  refine sx_aload_n C dE_begin_24 rfl rfl ?_
  refine sx_iconst (v := 0) C dE_begin_25 (by decide) ?_
  refine sx_putf (Cn := RE) (T := TE) (N := 6) (ty := .int) (fs' := [.ref (ad 3 i), .int (nI a), .int 0, .int 0, .int 0, .int (nI (ed 4 i))]) C dE_begin_26 (sx_in inE) tE tE_ok nE rfl 4 (by decide) (sx_w C kF_E_32) (fun _ h => h) rfl (by decide +kernel) rfl rfl (sx_up_s _ _ _) (by simp) rfl ?_
  refine sx_aload_n C dE_begin_29 rfl rfl ?_
  refine sx_iconst (v := 0) C dE_begin_30 (by decide) ?_
  refine sx_putf (Cn := RE) (T := TE) (N := 6) (ty := .int) (fs' := [.ref (ad 3 i), .int (nI a), .int 0, .int 0, .int 0, .int 0]) C dE_begin_31 (sx_in inE) tE tE_ok nE rfl 5 (by decide) (sx_w C kF_E_35) (fun _ h => h) rfl (by decide +kernel) rfl rfl (sx_up_s _ _ _) (by simp) rfl ?_
  exact sx_vretQ C hQ dE_begin_34 hr hlocks (Nat.le_of_ble_eq_true rfl) (Nat.le_of_ble_eq_true rfl) (⟨r2, g, by rw [sx_up_up, sx_up_up, sx_up_up, sx_up_up]; exact CS_edA hS1 hi a 0 0 0 0, hg⟩)

set_option maxHeartbeats 4000000 in
set_option maxRecDepth 100000 in
/-- requireEncoding -/
theorem c_C_requireEncoding (l : Launch) (D : va_G) (tc : Nat → ClassId) (hl : l.stackTraces = false) (x : Int32) (ad : Nat → Nat → Nat) (ro : Nat → Nat) (ur : Nat) (W : Nat) (u : Nat) (ln : Nat → Nat) (rf : Nat → Nat → Int64) (sc : Nat → Nat → Int32) (uk : Bool) (ul : Nat) (uf : Nat → Int64) (sf : Nat → Int64) (ed : Nat → Nat → Nat) (μ : sx_M) (hS : CS tc μ ad ro ur W u ln rf sc uk ul uf sf ed) (hu : u ≤ 40) : sx_Xv l yC_requireEncoding (Cond.code yC_requireEncoding cC_requireEncoding 2 none :: sxW) (rmL 6 1 6) D sxCl (sxT tc) sxE [.ref (ad 0 0), .int x] μ (fun μ' => μ = μ' ∧ ∃ j, j < u ∧ x = nI j) (fun Ex μ' => μ = μ' ∧ Ex = ioeN ∧ ∀ j, j < u → x ≠ nI j) 1 6 := by
  refine sx_ofXvQ (cc := cC_requireEncoding) (maxL := 2) (ret := none) (own := RC) sxE_ok (by decide) rfl rfl (Nat.le_of_ble_eq_true rfl) [some (.ref (ad 0 0)), some (.int x)] 0 rfl (fun p e s m below meth c A Q hQ C hr hlocks hnm hno => ?_)
  refine sx_iload_n C dC_requireEncoding_0 rfl rfl ?_
  refine sx_if_lt (tgt := 12) C dC_requireEncoding_1 (by decide) (fun c1 => ?_) (fun c1 => ?_)
  · have hx : ∀ j, j < u → x ≠ nI j := fun j hj z => (ab_in (n := u) (by omega) hj).1 (z ▸ c1)
    exact sx_thr_ioe (text := "no such encoding") hl C hQ dC_requireEncoding_12 dC_requireEncoding_15 dC_requireEncoding_16 dC_requireEncoding_18 dC_requireEncoding_21 (by simp [sxStr]) hno hlocks (Nat.le_of_ble_eq_true rfl) (Nat.le_of_ble_eq_true rfl) (Nat.le_of_ble_eq_true rfl) (Nat.le_of_ble_eq_true rfl) (Nat.le_of_ble_eq_true rfl) (Nat.le_of_ble_eq_true rfl) (⟨rfl, rfl, hx⟩)
  · refine sx_iload_n C dC_requireEncoding_4 rfl rfl ?_
    refine sx_aload_n C dC_requireEncoding_5 rfl rfl ?_
    refine sx_getf (Cn := RC) (T := TC) (N := 7) C dC_requireEncoding_6 (sx_in inC) rfl 2 (by decide) (sx_w C kF_C_28) (fun _ h => h) (CS_f0 hS) rfl ?_
    refine sx_icmp_lt (tgt := 22) C dC_requireEncoding_9 (by decide) (fun c9 => ?_) (fun c9 => ?_)
    · exact sx_vretQX C hQ dC_requireEncoding_22 hr hlocks (Nat.le_of_ble_eq_true rfl) (Nat.le_of_ble_eq_true rfl) (⟨rfl, ab_ix (by omega) c1 c9⟩)
    · have hx : ∀ j, j < u → x ≠ nI j := fun j hj z => c9 (z ▸ (ab_in (n := u) (by omega) hj).2)
      exact sx_thr_ioe (text := "no such encoding") hl C hQ dC_requireEncoding_12 dC_requireEncoding_15 dC_requireEncoding_16 dC_requireEncoding_18 dC_requireEncoding_21 (by simp [sxStr]) hno hlocks (Nat.le_of_ble_eq_true rfl) (Nat.le_of_ble_eq_true rfl) (Nat.le_of_ble_eq_true rfl) (Nat.le_of_ble_eq_true rfl) (Nat.le_of_ble_eq_true rfl) (Nat.le_of_ble_eq_true rfl) (⟨rfl, rfl, hx⟩)

theorem rf_1 {x y : Int32} {W : Nat} (hW : W ≤ 16) (h : x < 0 ∨ y < x ∨ ¬ y < nI W) : ∀ a b, a ≤ b → b < W → ¬ (x = nI a ∧ y = nI b) := by
  rintro a b h1 h2 ⟨rfl, rfl⟩
  rcases h with h | h | h
  · exact (ab_in (n := W) (by omega) (show a < W by omega)).1 h
  · exact nI_nlt h1 (by omega) h
  · exact h (ab_in (n := W) (by omega) h2).2
theorem rf_2 {x y : Int32} {W : Nat} (hW : W ≤ 16) (h1 : ¬ x < 0) (h2 : ¬ y < x) (h3 : y < nI W) : ∃ a b, a ≤ b ∧ b < W ∧ x = nI a ∧ y = nI b := by
  have hy : ¬ y < 0 := by
    rw [Int32.lt_iff_toInt_lt] at *
    omega
  obtain ⟨b, hb, rfl⟩ := ab_ix (by omega) hy h3
  have hx : x < nI W := by
    rw [Int32.lt_iff_toInt_lt] at *
    omega
  obtain ⟨a, ha, rfl⟩ := ab_ix (by omega) h1 hx
  refine ⟨a, b, ?_, hb, rfl, rfl⟩
  rcases Nat.lt_or_ge b a with z | z
  · exact absurd (nI_lt z (by omega)) h2
  · exact z

set_option maxHeartbeats 4000000 in
set_option maxRecDepth 100000 in
/-- requireField -/
theorem c_C_requireField (l : Launch) (D : va_G) (tc : Nat → ClassId) (hl : l.stackTraces = false) (x y : Int32) (ad : Nat → Nat → Nat) (ro : Nat → Nat) (ur : Nat) (W : Nat) (u : Nat) (ln : Nat → Nat) (rf : Nat → Nat → Int64) (sc : Nat → Nat → Int32) (uk : Bool) (ul : Nat) (uf : Nat → Int64) (sf : Nat → Int64) (ed : Nat → Nat → Nat) (μ : sx_M) (hS : CS tc μ ad ro ur W u ln rf sc uk ul uf sf ed) (hW : W ≤ 16) : sx_Xv l yC_requireField (Cond.code yC_requireField cC_requireField 3 none :: sxW) (rmL 6 1 6) D sxCl (sxT tc) sxE [.ref (ad 0 0), .int x, .int y] μ (fun μ' => μ = μ' ∧ ∃ a b, a ≤ b ∧ b < W ∧ x = nI a ∧ y = nI b) (fun Ex μ' => μ = μ' ∧ Ex = iaeN ∧ ∀ a b, a ≤ b → b < W → ¬ (x = nI a ∧ y = nI b)) 1 6 := by
  refine sx_ofXvQ (cc := cC_requireField) (maxL := 3) (ret := none) (own := RC) sxE_ok (by decide) rfl rfl (Nat.le_of_ble_eq_true rfl) [some (.ref (ad 0 0)), some (.int x), some (.int y)] 0 rfl (fun p e s m below meth c A Q hQ C hr hlocks hnm hno => ?_)
  refine sx_iload_n C dC_requireField_0 rfl rfl ?_
  refine sx_if_lt (tgt := 17) C dC_requireField_1 (by decide) (fun c1 => ?_) (fun c1 => ?_)
  · have hx := rf_1 (y := y) hW (Or.inl c1)
    exact sx_thr_iae (text := "no such field") hl C hQ dC_requireField_17 dC_requireField_20 dC_requireField_21 dC_requireField_23 dC_requireField_26 (by simp [sxStr]) hno hlocks (Nat.le_of_ble_eq_true rfl) (Nat.le_of_ble_eq_true rfl) (Nat.le_of_ble_eq_true rfl) (Nat.le_of_ble_eq_true rfl) (Nat.le_of_ble_eq_true rfl) (Nat.le_of_ble_eq_true rfl) (⟨rfl, rfl, hx⟩)
  · refine sx_iload_n C dC_requireField_4 rfl rfl ?_
    refine sx_iload_n C dC_requireField_5 rfl rfl ?_
    refine sx_icmp_lt (tgt := 17) C dC_requireField_6 (by decide) (fun c6 => ?_) (fun c6 => ?_)
    · have hx := rf_1 hW (Or.inr (Or.inl c6))
      exact sx_thr_iae (text := "no such field") hl C hQ dC_requireField_17 dC_requireField_20 dC_requireField_21 dC_requireField_23 dC_requireField_26 (by simp [sxStr]) hno hlocks (Nat.le_of_ble_eq_true rfl) (Nat.le_of_ble_eq_true rfl) (Nat.le_of_ble_eq_true rfl) (Nat.le_of_ble_eq_true rfl) (Nat.le_of_ble_eq_true rfl) (Nat.le_of_ble_eq_true rfl) (⟨rfl, rfl, hx⟩)
    · refine sx_iload_n C dC_requireField_9 rfl rfl ?_
      refine sx_aload_n C dC_requireField_10 rfl rfl ?_
      refine sx_getf (Cn := RC) (T := TC) (N := 7) C dC_requireField_11 (sx_in inC) rfl 0 (by decide) (sx_w C kF_C_15) (fun _ h => h) (CS_f0 hS) rfl ?_
      refine sx_icmp_lt (tgt := 27) C dC_requireField_14 (by decide) (fun c14 => ?_) (fun c14 => ?_)
      · exact sx_vretQX C hQ dC_requireField_27 hr hlocks (Nat.le_of_ble_eq_true rfl) (Nat.le_of_ble_eq_true rfl) (⟨rfl, rf_2 hW c1 c6 c14⟩)
      · have hx := rf_1 (x := x) hW (Or.inr (Or.inr c14))
        exact sx_thr_iae (text := "no such field") hl C hQ dC_requireField_17 dC_requireField_20 dC_requireField_21 dC_requireField_23 dC_requireField_26 (by simp [sxStr]) hno hlocks (Nat.le_of_ble_eq_true rfl) (Nat.le_of_ble_eq_true rfl) (Nat.le_of_ble_eq_true rfl) (Nat.le_of_ble_eq_true rfl) (Nat.le_of_ble_eq_true rfl) (Nat.le_of_ble_eq_true rfl) (⟨rfl, rfl, hx⟩)

set_option maxHeartbeats 4000000 in
set_option maxRecDepth 100000 in
/-- requireVariants -/
theorem c_C_requireVariants (l : Launch) (D : va_G) (tc : Nat → ClassId) (hl : l.stackTraces = false) (o : Nat) (x : Int32) (μ : sx_M) : sx_Xv l yC_requireVariants (Cond.code yC_requireVariants cC_requireVariants 2 none :: sxW) (rmL 6 1 6) D sxCl (sxT tc) sxE [.ref o, .int x] μ (fun μ' => μ = μ' ∧ ∃ j, j < 256 ∧ x = nI j) (fun Ex μ' => μ = μ' ∧ Ex = iaeN ∧ ∀ j, j < 256 → x ≠ nI j) 1 6 := by
  refine sx_ofXvQ (cc := cC_requireVariants) (maxL := 2) (ret := none) (own := RC) sxE_ok (by decide) rfl rfl (Nat.le_of_ble_eq_true rfl) [some (.ref o), some (.int x)] 0 rfl (fun p e s m below meth c A Q hQ C hr hlocks hnm hno => ?_)
  refine sx_iload_n C dC_requireVariants_0 rfl rfl ?_
  refine sx_if_lt (tgt := 11) C dC_requireVariants_1 (by decide) (fun c1 => ?_) (fun c1 => ?_)
  · have hx : ∀ j, j < 256 → x ≠ nI j := fun j hj z => (ab_in (n := 256) (by omega) hj).1 (z ▸ c1)
    exact sx_thr_iae (text := "no such variants") hl C hQ dC_requireVariants_11 dC_requireVariants_14 dC_requireVariants_15 dC_requireVariants_17 dC_requireVariants_20 (by simp [sxStr]) hno hlocks (Nat.le_of_ble_eq_true rfl) (Nat.le_of_ble_eq_true rfl) (Nat.le_of_ble_eq_true rfl) (Nat.le_of_ble_eq_true rfl) (Nat.le_of_ble_eq_true rfl) (Nat.le_of_ble_eq_true rfl) (⟨rfl, rfl, hx⟩)
  · refine sx_iload_n C dC_requireVariants_4 rfl rfl ?_
    refine sx_sipush (v := 256) C dC_requireVariants_5 (by decide) ?_
    refine sx_icmp_lt (tgt := 21) C dC_requireVariants_8 (by decide) (fun c8 => ?_) (fun c8 => ?_)
    · exact sx_vretQX C hQ dC_requireVariants_21 hr hlocks (Nat.le_of_ble_eq_true rfl) (Nat.le_of_ble_eq_true rfl) (⟨rfl, ab_ix (n := 256) (by omega) c1 c8⟩)
    · have hx : ∀ j, j < 256 → x ≠ nI j := fun j hj z => c8 (z ▸ (ab_in (n := 256) (by omega) hj).2)
      exact sx_thr_iae (text := "no such variants") hl C hQ dC_requireVariants_11 dC_requireVariants_14 dC_requireVariants_15 dC_requireVariants_17 dC_requireVariants_20 (by simp [sxStr]) hno hlocks (Nat.le_of_ble_eq_true rfl) (Nat.le_of_ble_eq_true rfl) (Nat.le_of_ble_eq_true rfl) (Nat.le_of_ble_eq_true rfl) (Nat.le_of_ble_eq_true rfl) (Nat.le_of_ble_eq_true rfl) (⟨rfl, rfl, hx⟩)

/-- the bits of a field -/
def fbN (a b : Nat) : Nat := 2 ^ (b + 1) - 2 ^ a
theorem fb_eq : ∀ a, a < 16 → ∀ b, b < 16 → a ≤ b → jshl (nI (2 ^ (b + 1 - a) - 1)) (nI a) = nI (fbN a b) := by decide +kernel
theorem fbN_lt {a b W : Nat} (hb : b < W) : fbN a b < 2 ^ W := by
  unfold fbN
  have h1 : 2 ^ (b + 1) ≤ 2 ^ W := Nat.pow_le_pow_right (by decide) hb
  have h2 : 0 < 2 ^ a := Nat.two_pow_pos a
  have h3 : 0 < 2 ^ W := Nat.two_pow_pos W
  omega

set_option maxHeartbeats 4000000 in
set_option maxRecDepth 100000 in
/-- fieldBits -/
theorem c_C_fieldBits (l : Launch) (D : va_G) (tc : Nat → ClassId) (a b : Nat) (μ : sx_M) (hab : a ≤ b) (hb : b < 16) : sx_Mi l yC_fieldBits (Cond.code yC_fieldBits cC_fieldBits 2 (some .int) :: sxW) (rmL 0 0 0) D sxCl (sxT tc) sxE [.int (nI a), .int (nI b)] μ (fun r μ' => μ = μ' ∧ r = nI (fbN a b)) 0 0 := by
  refine sx_ofiQ (cc := cC_fieldBits) (maxL := 2) (ret := (some .int)) (own := RC) sxE_ok (by decide) rfl rfl (Nat.le_of_ble_eq_true rfl) [some (.int (nI a)), some (.int (nI b))] 0 rfl (fun p e s m below meth c A Q hQ C hr hlocks hnm => ?_)
  refine sx_iconst (v := 2) C dC_fieldBits_0 (by decide) ?_
  refine sx_iload_n C dC_fieldBits_1 rfl rfl ?_
  refine sx_iload_n C dC_fieldBits_2 rfl rfl ?_
  refine sx_isub C dC_fieldBits_3 ?_
  refine sx_ishl C dC_fieldBits_4 ?_
  refine sx_iconst (v := 1) C dC_fieldBits_5 (by decide) ?_
  refine sx_isub C dC_fieldBits_6 ?_
  refine sx_eqi (nI (2 ^ (b + 1 - a) - 1)) (jb_fm hab hb) ?_
  refine sx_iload_n C dC_fieldBits_7 rfl rfl ?_
  refine sx_ishl C dC_fieldBits_8 ?_
  refine sx_eqi (nI (fbN a b)) (fb_eq a (by omega) b hb hab) ?_
  exact sx_iretQ C hQ dC_fieldBits_9 hr hlocks (Nat.le_of_ble_eq_true rfl) (Nat.le_of_ble_eq_true rfl) (⟨rfl, rfl⟩)

set_option maxHeartbeats 4000000 in
set_option maxRecDepth 100000 in
/-- liesIn -/
theorem c_C_liesIn (l : Launch) (D : va_G) (tc : Nat → ClassId) (a b : Nat) (ad : Nat → Nat → Nat) (ro : Nat → Nat) (ur : Nat) (W : Nat) (u : Nat) (ln : Nat → Nat) (rf : Nat → Nat → Int64) (sc : Nat → Nat → Int32) (uk : Bool) (ul : Nat) (uf : Nat → Int64) (sf : Nat → Int64) (ed : Nat → Nat → Nat) (μ : sx_M) (hS : CS tc μ ad ro ur W u ln rf sc uk ul uf sf ed) (ha : a < 40) (hb : b < 40) : sx_Mi l yC_liesIn (Cond.code yC_liesIn cC_liesIn 3 (some .boolean) :: sxW) (rmL 0 0 0) D sxCl (sxT tc) sxE [.ref (ad 0 0), .int (nI a), .int (nI b)] μ (fun r μ' => μ = μ' ∧ r = b2i (decide (sc a b = sc a a))) 0 0 := by
  refine sx_ofiQ (cc := cC_liesIn) (maxL := 3) (ret := (some .boolean)) (own := RC) sxE_ok (by decide) rfl rfl (Nat.le_of_ble_eq_true rfl) [some (.ref (ad 0 0)), some (.int (nI a)), some (.int (nI b))] 0 rfl (fun p e s m below meth c A Q hQ C hr hlocks hnm => ?_)
  refine sx_aload_n C dC_liesIn_0 rfl rfl ?_
  refine sx_getf (Cn := RC) (T := TC) (N := 7) C dC_liesIn_1 (sx_in inC) rfl 3 (by decide) (sx_w C kF_C_33) (fun _ h => h) (CS_f0 hS) rfl ?_
  refine sx_iload_n C dC_liesIn_4 rfl rfl ?_
  refine sx_aaldA (j := a) (b := (ad 6 a)) C dC_liesIn_5 3 rfl (CS_f5 hS) (rfl) (ha) (Nat.le_of_ble_eq_true rfl) (if_pos (ha)) ?_
  refine sx_iload_n C dC_liesIn_6 rfl rfl ?_
  refine sx_iald (j := b) C dC_liesIn_7 0 rfl (CS_f6 hS ha) (rfl) (hb) (Nat.le_of_ble_eq_true rfl) ?_
  refine sx_aload_n C dC_liesIn_8 rfl rfl ?_
  refine sx_getf (Cn := RC) (T := TC) (N := 7) C dC_liesIn_9 (sx_in inC) rfl 3 (by decide) (sx_w C kF_C_33) (fun _ h => h) (CS_f0 hS) rfl ?_
  refine sx_iload_n C dC_liesIn_12 rfl rfl ?_
  refine sx_aaldA (j := a) (b := (ad 6 a)) C dC_liesIn_13 3 rfl (CS_f5 hS) (rfl) (ha) (Nat.le_of_ble_eq_true rfl) (if_pos (ha)) ?_
  refine sx_iload_n C dC_liesIn_14 rfl rfl ?_
  refine sx_iald (j := a) C dC_liesIn_15 0 rfl (CS_f6 hS ha) (rfl) (ha) (Nat.le_of_ble_eq_true rfl) ?_
  refine sx_icmp_ne (tgt := 23) C dC_liesIn_16 (by decide) (fun c16 => ?_) (fun c16 => ?_)
  · refine sx_iconst (v := 0) C dC_liesIn_23 (by decide) ?_
    exact sx_zretQ C hQ dC_liesIn_24 hr (by first | exact Or.inl rfl | exact Or.inr rfl) hlocks (Nat.le_of_ble_eq_true rfl) (Nat.le_of_ble_eq_true rfl) (by first | exact ⟨rfl, by rw [decide_eq_false c16]; rfl⟩ | exact ⟨rfl, by rw [decide_eq_true c16]; rfl⟩)
  · refine sx_iconst (v := 1) C dC_liesIn_19 (by decide) ?_
    refine sx_goto (tgt := 24) C dC_liesIn_20 (by decide) ?_
    exact sx_zretQ C hQ dC_liesIn_24 hr (by first | exact Or.inl rfl | exact Or.inr rfl) hlocks (Nat.le_of_ble_eq_true rfl) (Nat.le_of_ble_eq_true rfl) (by first | exact ⟨rfl, by rw [decide_eq_false c16]; rfl⟩ | exact ⟨rfl, by rw [decide_eq_true c16]; rfl⟩)

theorem b2i_ne {b : Bool} : ¬ b2i b = 0 ↔ b = true := by cases b <;> decide
theorem b2i_z {b : Bool} : b2i b = 0 ↔ b = false := by cases b <;> decide
theorem i_le0 {x : Int32} : x ≤ 0 ↔ ¬ 0 < x := by
  rw [Int32.le_iff_toInt_le, Int32.lt_iff_toInt_lt]
  omega

set_option maxHeartbeats 4000000 in
set_option maxRecDepth 100000 in
/-- clash -/
theorem c_C_clash (l : Launch) (D : va_G) (tc : Nat → ClassId) (a b : Nat) (ad : Nat → Nat → Nat) (ro : Nat → Nat) (ur : Nat) (W : Nat) (u : Nat) (ln : Nat → Nat) (rf : Nat → Nat → Int64) (sc : Nat → Nat → Int32) (uk : Bool) (ul : Nat) (uf : Nat → Int64) (sf : Nat → Int64) (ed : Nat → Nat → Nat) (μ : sx_M) (hS : CS tc μ ad ro ur W u ln rf sc uk ul uf sf ed) (ha : a < 40) (hb : b < 40) : sx_Mi l yC_clash (Cond.code yC_clash cC_clash 3 (some .boolean) :: sxW) (rmL 1 0 0) D sxCl (sxT tc) sxE [.ref (ad 0 0), .int (nI a), .int (nI b)] μ (fun r μ' => μ = μ' ∧ r = b2i (decide (0 < sc a b) && !decide (sc a b = sc a a) && !decide (sc b a = sc b b))) 0 0 := by
  refine sx_ofiQ (cc := cC_clash) (maxL := 3) (ret := (some .boolean)) (own := RC) sxE_ok (by decide) rfl rfl (Nat.le_of_ble_eq_true rfl) [some (.ref (ad 0 0)), some (.int (nI a)), some (.int (nI b))] 0 rfl (fun p e s m below meth c A Q hQ C hr hlocks hnm => ?_)
  refine sx_aload_n C dC_clash_0 rfl rfl ?_
  refine sx_getf (Cn := RC) (T := TC) (N := 7) C dC_clash_1 (sx_in inC) rfl 3 (by decide) (sx_w C kF_C_33) (fun _ h => h) (CS_f0 hS) rfl ?_
  refine sx_iload_n C dC_clash_4 rfl rfl ?_
  refine sx_aaldA (j := a) (b := (ad 6 a)) C dC_clash_5 3 rfl (CS_f5 hS) (rfl) (ha) (Nat.le_of_ble_eq_true rfl) (if_pos (ha)) ?_
  refine sx_iload_n C dC_clash_6 rfl rfl ?_
  refine sx_iald (j := b) C dC_clash_7 0 rfl (CS_f6 hS ha) (rfl) (hb) (Nat.le_of_ble_eq_true rfl) ?_
  refine sx_if_le (tgt := 33) C dC_clash_8 (by decide) (fun c8 => ?_) (fun c8 => ?_)
  · have hz : (decide (0 < sc a b) && !decide (sc a b = sc a a) && !decide (sc b a = sc b b)) = false := by rw [decide_eq_false (i_le0.mp c8), Bool.false_and, Bool.false_and]
    refine sx_iconst (v := 0) C dC_clash_33 (by decide) ?_
    exact sx_zretQ C hQ dC_clash_34 hr (by first | exact Or.inl rfl | exact Or.inr rfl) hlocks (Nat.le_of_ble_eq_true rfl) (Nat.le_of_ble_eq_true rfl) (⟨rfl, by rw [hz]; rfl⟩)
  · refine sx_aload_n C dC_clash_11 rfl rfl ?_
    refine sx_iload_n C dC_clash_12 rfl rfl ?_
    refine sx_iload_n C dC_clash_13 rfl rfl ?_
    refine sx_calli C (sx_runV (As := [.int (nI a), .int (nI b)]) (rest := []) C sx_all (c_C_liesIn l D tc a b ad ro ur W u ln rf sc uk ul uf sf ed μ hS ha hb) (ci := 2) rfl (CS_f0 hS) (sx_cwV C 2 kM_C_125 ki_C_liesIn ke_C_liesIn kn_C kc_C_liesIn rfl rfl (by decide +kernel) ⟨Nat.le_of_ble_eq_true rfl, Nat.le_of_ble_eq_true rfl⟩) rfl rfl (Nat.le_of_ble_eq_true rfl) dC_clash_14 ⟨Nat.le_of_ble_eq_true rfl, Nat.le_of_ble_eq_true rfl⟩) (fun r1 μ1 h1 => ?_)
    obtain ⟨hm, h1⟩ := h1
    subst hm
    refine sx_if_ne (tgt := 33) C dC_clash_17 (by decide) (fun c17 => ?_) (fun c17 => ?_)
    · have hz : (decide (0 < sc a b) && !decide (sc a b = sc a a) && !decide (sc b a = sc b b)) = false := by rw [h1] at c17; rw [b2i_ne.mp c17, Bool.not_true, Bool.and_false, Bool.false_and]
      refine sx_iconst (v := 0) C dC_clash_33 (by decide) ?_
      exact sx_zretQ C hQ dC_clash_34 hr (by first | exact Or.inl rfl | exact Or.inr rfl) hlocks (Nat.le_of_ble_eq_true rfl) (Nat.le_of_ble_eq_true rfl) (⟨rfl, by rw [hz]; rfl⟩)
    · rw [h1] at c17
      have h3 := b2i_z.mp c17
      refine sx_aload_n C dC_clash_20 rfl rfl ?_
      refine sx_iload_n C dC_clash_21 rfl rfl ?_
      refine sx_iload_n C dC_clash_22 rfl rfl ?_
      refine sx_calli C (sx_runV (As := [.int (nI b), .int (nI a)]) (rest := []) C sx_all (c_C_liesIn l D tc b a ad ro ur W u ln rf sc uk ul uf sf ed μ hS hb ha) (ci := 2) rfl (CS_f0 hS) (sx_cwV C 2 kM_C_125 ki_C_liesIn ke_C_liesIn kn_C kc_C_liesIn rfl rfl (by decide +kernel) ⟨Nat.le_of_ble_eq_true rfl, Nat.le_of_ble_eq_true rfl⟩) rfl rfl (Nat.le_of_ble_eq_true rfl) dC_clash_23 ⟨Nat.le_of_ble_eq_true rfl, Nat.le_of_ble_eq_true rfl⟩) (fun r2 μ1 h2 => ?_)
      obtain ⟨hm, h2⟩ := h2
      subst hm
      refine sx_if_ne (tgt := 33) C dC_clash_26 (by decide) (fun c26 => ?_) (fun c26 => ?_)
      · have hz : (decide (0 < sc a b) && !decide (sc a b = sc a a) && !decide (sc b a = sc b b)) = false := by rw [h2] at c26; rw [b2i_ne.mp c26, Bool.not_true, Bool.and_false]
        refine sx_iconst (v := 0) C dC_clash_33 (by decide) ?_
        exact sx_zretQ C hQ dC_clash_34 hr (by first | exact Or.inl rfl | exact Or.inr rfl) hlocks (Nat.le_of_ble_eq_true rfl) (Nat.le_of_ble_eq_true rfl) (⟨rfl, by rw [hz]; rfl⟩)
      · rw [h2] at c26
        have h4 := b2i_z.mp c26
        have hz : (decide (0 < sc a b) && !decide (sc a b = sc a a) && !decide (sc b a = sc b b)) = true := by rw [h3, h4, decide_eq_true (Classical.byContradiction fun z => c8 (i_le0.mpr z))]; rfl
        refine sx_iconst (v := 1) C dC_clash_29 (by decide) ?_
        refine sx_goto (tgt := 34) C dC_clash_30 (by decide) ?_
        exact sx_zretQ C hQ dC_clash_34 hr (by first | exact Or.inl rfl | exact Or.inr rfl) hlocks (Nat.le_of_ble_eq_true rfl) (Nat.le_of_ble_eq_true rfl) (⟨rfl, by rw [hz]; rfl⟩)

set_option maxHeartbeats 4000000 in
set_option maxRecDepth 100000 in
/-- neededByBoth -/
theorem c_C_neededByBoth (l : Launch) (D : va_G) (tc : Nat → ClassId) (a b : Nat) (ad : Nat → Nat → Nat) (ro : Nat → Nat) (ur : Nat) (W : Nat) (u : Nat) (ln : Nat → Nat) (rf : Nat → Nat → Int64) (sc : Nat → Nat → Int32) (uk : Bool) (ul : Nat) (uf : Nat → Int64) (sf : Nat → Int64) (ed : Nat → Nat → Nat) (μ : sx_M) (hS : CS tc μ ad ro ur W u ln rf sc uk ul uf sf ed) (ha : a < 40) (hb : b < 40) : sx_Mi l yC_neededByBoth (Cond.code yC_neededByBoth cC_neededByBoth 3 (some .int) :: sxW) (rmL 0 0 0) D sxCl (sxT tc) sxE [.ref (ad 0 0), .int (nI a), .int (nI b)] μ (fun r μ' => μ = μ' ∧ r = nI (ed 4 a) ||| nI (ed 4 b)) 0 0 := by
  refine sx_ofiQ (cc := cC_neededByBoth) (maxL := 3) (ret := (some .int)) (own := RC) sxE_ok (by decide) rfl rfl (Nat.le_of_ble_eq_true rfl) [some (.ref (ad 0 0)), some (.int (nI a)), some (.int (nI b))] 0 rfl (fun p e s m below meth c A Q hQ C hr hlocks hnm => ?_)
  refine sx_aload_n C dC_neededByBoth_0 rfl rfl ?_
  refine sx_getf (Cn := RC) (T := TC) (N := 7) C dC_neededByBoth_1 (sx_in inC) rfl 1 (by decide) (sx_w C kF_C_21) (fun _ h => h) (CS_f0 hS) rfl ?_
  refine sx_iload_n C dC_neededByBoth_4 rfl rfl ?_
  refine sx_aald (j := a) (b := (ad 2 a)) C dC_neededByBoth_5 2 rfl (CS_f1 hS) (rfl) (ha) (Nat.le_of_ble_eq_true rfl) (if_pos (ha)) ?_
  refine sx_getf (Cn := RE) (T := TE) (N := 6) C dC_neededByBoth_6 (sx_in inE) rfl 5 (by decide) (sx_w C kF_C_111) (fun _ h => h) (CS_f2 hS ha) rfl ?_
  refine sx_aload_n C dC_neededByBoth_9 rfl rfl ?_
  refine sx_getf (Cn := RC) (T := TC) (N := 7) C dC_neededByBoth_10 (sx_in inC) rfl 1 (by decide) (sx_w C kF_C_21) (fun _ h => h) (CS_f0 hS) rfl ?_
  refine sx_iload_n C dC_neededByBoth_13 rfl rfl ?_
  refine sx_aald (j := b) (b := (ad 2 b)) C dC_neededByBoth_14 2 rfl (CS_f1 hS) (rfl) (hb) (Nat.le_of_ble_eq_true rfl) (if_pos (hb)) ?_
  refine sx_getf (Cn := RE) (T := TE) (N := 6) C dC_neededByBoth_15 (sx_in inE) rfl 5 (by decide) (sx_w C kF_C_111) (fun _ h => h) (CS_f2 hS hb) rfl ?_
  refine sx_ior C dC_neededByBoth_18 ?_
  exact sx_iretQ C hQ dC_neededByBoth_19 hr hlocks (Nat.le_of_ble_eq_true rfl) (Nat.le_of_ble_eq_true rfl) (⟨rfl, rfl⟩)

set_option maxHeartbeats 4000000 in
set_option maxRecDepth 100000 in
/-- idleBits -/
theorem c_C_idleBits (l : Launch) (D : va_G) (tc : Nat → ClassId) (a : Nat) (ad : Nat → Nat → Nat) (ro : Nat → Nat) (ur : Nat) (W : Nat) (u : Nat) (ln : Nat → Nat) (rf : Nat → Nat → Int64) (sc : Nat → Nat → Int32) (uk : Bool) (ul : Nat) (uf : Nat → Int64) (sf : Nat → Int64) (ed : Nat → Nat → Nat) (μ : sx_M) (hS : CS tc μ ad ro ur W u ln rf sc uk ul uf sf ed) (ha : a < 40) : sx_Mi l yC_idleBits (Cond.code yC_idleBits cC_idleBits 4 (some .int) :: sxW) (rmL 0 0 0) D sxCl (sxT tc) sxE [.ref (ad 0 0), .int (nI a)] μ (fun r μ' => μ = μ' ∧ r = (jshl 1 (nI W) - 1) &&& (((nI (ed 0 a) ||| nI (ed 1 a)) ||| nI (ed 2 a)) ^^^ (-1))) 0 0 := by
  refine sx_ofiQ (cc := cC_idleBits) (maxL := 4) (ret := (some .int)) (own := RC) sxE_ok (by decide) rfl rfl (Nat.le_of_ble_eq_true rfl) [some (.ref (ad 0 0)), some (.int (nI a)), none, none] 2 rfl (fun p e s m below meth c A Q hQ C hr hlocks hnm => ?_)
  refine sx_aload_n C dC_idleBits_0 rfl rfl ?_
  refine sx_getf (Cn := RC) (T := TC) (N := 7) C dC_idleBits_1 (sx_in inC) rfl 1 (by decide) (sx_w C kF_C_21) (fun _ h => h) (CS_f0 hS) rfl ?_
  refine sx_iload_n C dC_idleBits_4 rfl rfl ?_
  refine sx_aald (j := a) (b := (ad 2 a)) C dC_idleBits_5 2 rfl (CS_f1 hS) (rfl) (ha) (Nat.le_of_ble_eq_true rfl) (if_pos (ha)) ?_
  refine sx_astore_n (lv' := [some (.ref (ad 0 0)), some (.int (nI a)), some (.ref (ad 2 a)), none]) C dC_idleBits_6 rfl (by decide) rfl rfl ?_
  refine sx_iconst (v := 1) C dC_idleBits_7 (by decide) ?_
  refine sx_aload_n C dC_idleBits_8 rfl rfl ?_
  refine sx_getf (Cn := RC) (T := TC) (N := 7) C dC_idleBits_9 (sx_in inC) rfl 0 (by decide) (sx_w C kF_C_15) (fun _ h => h) (CS_f0 hS) rfl ?_
  refine sx_ishl C dC_idleBits_12 ?_
  refine sx_iconst (v := 1) C dC_idleBits_13 (by decide) ?_
  refine sx_isub C dC_idleBits_14 ?_
  refine sx_istore_n (lv' := [some (.ref (ad 0 0)), some (.int (nI a)), some (.ref (ad 2 a)), some (.int ((jshl 1 (nI W)) - 1))]) C dC_idleBits_15 rfl (by decide) rfl rfl ?_
  refine sx_iload_n C dC_idleBits_16 rfl rfl ?_
  refine sx_aload_n C dC_idleBits_17 rfl rfl ?_
  refine sx_getf (Cn := RE) (T := TE) (N := 6) C dC_idleBits_18 (sx_in inE) rfl 1 (by decide) (sx_w C kF_C_198) (fun _ h => h) (CS_f2 hS ha) rfl ?_
  refine sx_aload_n C dC_idleBits_21 rfl rfl ?_
  refine sx_getf (Cn := RE) (T := TE) (N := 6) C dC_idleBits_22 (sx_in inE) rfl 2 (by decide) (sx_w C kF_C_86) (fun _ h => h) (CS_f2 hS ha) rfl ?_
  refine sx_ior C dC_idleBits_25 ?_
  refine sx_aload_n C dC_idleBits_26 rfl rfl ?_
  refine sx_getf (Cn := RE) (T := TE) (N := 6) C dC_idleBits_27 (sx_in inE) rfl 3 (by decide) (sx_w C kF_C_99) (fun _ h => h) (CS_f2 hS ha) rfl ?_
  refine sx_ior C dC_idleBits_30 ?_
  refine sx_iconst (v := -1) C dC_idleBits_31 (by decide) ?_
  refine sx_ixor C dC_idleBits_32 ?_
  refine sx_iand C dC_idleBits_33 ?_
  exact sx_iretQ C hQ dC_idleBits_34 hr hlocks (Nat.le_of_ble_eq_true rfl) (Nat.le_of_ble_eq_true rfl) (⟨rfl, rfl⟩)
