theorem cnd_b {W u : Nat} {S : Nat → Nat → Bool} {ed : Nat → Nat → Nat} {x f t kd v : Int32} {k r : Int32} {S1 : Nat → Nat → Bool} {e1 : Nat → Nat → Nat} (h : R_cnd W u S ed x f t kd v k r S1 e1) (hk : k = 0) (hr : ¬ r = 0) : r = 1 := by
  rcases h with ⟨-, i, a, b, j, n, -, -, -, -, q, rfl, -⟩ | ⟨⟨h1, -⟩ | ⟨h1, -⟩ | ⟨h1, -⟩, -⟩
  · rw [b2i_ne.mp hr]; rfl
  · exact absurd (h1.symm.trans hk) (by decide)
  · exact absurd (h1.symm.trans hk) (by decide)
  · exact absurd (h1.symm.trans hk) (by decide)

set_option maxHeartbeats 4000000 in
set_option maxRecDepth 100000 in
/-- encoding -/
theorem lc_0 {p : Program} {e : Env} {s : State} {m : MethodId} {below : List Frame} {meth : Method} {c : Code} {Q : State → Prop} {c0 : Cond} (l : Launch) (hl : l.stackTraces = false) (D : va_G) (tc : Nat → ClassId) {b L : Nat} {xs : Nat → Int32} (hL : L ≤ 3073) {A : Nat → Prop} (C : sx_C p s m [Value.ref b].toArray c code 7 RL (c0 :: sxW) D sxCl (sxT tc) sxE A) (hX : sxX b L xs A s s.heap) (t : Nat) (ht : 1 + 6 * t + 6 ≤ L) (x mo o W u : Nat) (S : Nat → Nat → Bool) (ed : Nat → Nat → Nat) (th : Int32) (f : Nat → Int64) (μ νc νm : sx_M) (hW : LW μ νc νm o (oc tc f)) (hC : CInv tc νc x W u S ed) (hM : MInv tc νm mo W u S ed th) (K : ∀ (μ' νc' νm' : sx_M) (f' : Nat → Int64) (u' : Nat) (S' : Nat → Nat → Bool) (ed' : Nat → Nat → Nat) (th' : Int32), LW μ' νc' νm' o (oc tc f') → CInv tc νc' x W u' S' ed' → MInv tc νm' mo W u' S' ed' th' → SW p l e room_1 s m [Value.ref b].toArray below meth c 7 D sxCl A (178 + 4 * (t + 1)) (90000 + 1042 * (t + 1)) Q μ' 1228 [some (.ref b), some (.ref x), some (.ref mo), some (.ref o), some (.int (nI (1 + 6 * t))), none, none] []) : SW p l e room_1 s m [Value.ref b].toArray below meth c 7 D sxCl A (178 + 4 * t) (90000 + 1042 * t) Q μ 140 [some (.ref b), some (.ref x), some (.ref mo), some (.ref o), some (.int (nI (1 + 6 * t))), none, none] [] := by
  obtain ⟨fx, hx0⟩ := ci_x hC
  obtain ⟨fm, hm0⟩ := mi_xx hM
  refine sx_aload_n C dL_law_140 rfl rfl ?_
  refine sx_aload_n C dL_law_141 rfl rfl ?_
  refine sx_iload C dL_law_142 rfl ?_
  refine sx_iconst (v := 1) C dL_law_144 (by decide) ?_
  refine sx_iadd C dL_law_145 ?_
  refine sx_eqi (nI (1 + 6 * t + 1)) (nI_add _ 1) ?_
  refine sx_sld (j := 1 + 6 * t + 1) C hX dL_law_146 rfl (by omega) (by omega) ?_
  refine sx_i2l C dL_law_147 ?_
  refine sx_bipush (v := 32) C dL_law_148 (by decide) ?_
  refine sx_lshl C dL_law_150 ?_
  refine sx_aload_n C dL_law_151 rfl rfl ?_
  refine sx_iload C dL_law_152 rfl ?_
  refine sx_iconst (v := 2) C dL_law_154 (by decide) ?_
  refine sx_iadd C dL_law_155 ?_
  refine sx_eqi (nI (1 + 6 * t + 2)) (nI_add _ 2) ?_
  refine sx_sld (j := 1 + 6 * t + 2) C hX dL_law_156 rfl (by omega) (by omega) ?_
  refine sx_i2l C dL_law_157 ?_
  refine sx_ldc2 (v := 4294967295) C dL_law_158 (sx_w C kL_L_74) ?_
  refine sx_land C dL_law_161 ?_
  refine sx_lor C dL_law_162 ?_
  refine sx_aload_n C dL_law_163 rfl rfl ?_
  refine sx_iload C dL_law_164 rfl ?_
  refine sx_iconst (v := 3) C dL_law_166 (by decide) ?_
  refine sx_iadd C dL_law_167 ?_
  refine sx_eqi (nI (1 + 6 * t + 3)) (nI_add _ 3) ?_
  refine sx_sld (j := 1 + 6 * t + 3) C hX dL_law_168 rfl (by omega) (by omega) ?_
  refine sx_i2l C dL_law_169 ?_
  refine sx_bipush (v := 32) C dL_law_170 (by decide) ?_
  refine sx_lshl C dL_law_172 ?_
  refine sx_aload_n C dL_law_173 rfl rfl ?_
  refine sx_iload C dL_law_174 rfl ?_
  refine sx_iconst (v := 4) C dL_law_176 (by decide) ?_
  refine sx_iadd C dL_law_177 ?_
  refine sx_eqi (nI (1 + 6 * t + 4)) (nI_add _ 4) ?_
  refine sx_sld (j := 1 + 6 * t + 4) C hX dL_law_178 rfl (by omega) (by omega) ?_
  refine sx_i2l C dL_law_179 ?_
  refine sx_ldc2 (v := 4294967295) C dL_law_180 (sx_w C kL_L_74) ?_
  refine sx_land C dL_law_183 ?_
  refine sx_lor C dL_law_184 ?_
  refine sx_aload_n C dL_law_185 rfl rfl ?_
  refine sx_callFi C (LW_h hW) (sx_runSW (As := [.ref x, .long ((jshlL ((xs (1 + 6 * t + 1)).toInt64) 32) ||| (((xs (1 + 6 * t + 2)).toInt64) &&& 4294967295)), .long ((jshlL ((xs (1 + 6 * t + 3)).toInt64) 32) ||| (((xs (1 + 6 * t + 4)).toInt64) &&& 4294967295)), .ref o]) (rest := []) C (LW_h hW) (c_L_encoding l D tc hl ((jshlL ((xs (1 + 6 * t + 1)).toInt64) 32) ||| (((xs (1 + 6 * t + 2)).toInt64) &&& 4294967295)) ((jshlL ((xs (1 + 6 * t + 3)).toInt64) 32) ||| (((xs (1 + 6 * t + 4)).toInt64) &&& 4294967295)) x o W u S ed f νc hW.2.2.2.2.1 hC) (sx_cwSW C 4 kM_L_76 ks_L_encoding kn_L kc_L_encoding rfl rfl (by decide +kernel) ⟨Nat.le_of_ble_eq_true rfl, Nat.le_of_ble_eq_true rfl⟩) rfl rfl (Nat.le_of_ble_eq_true rfl) dL_law_186 ⟨(show 178 + 4 * t + 2 ≤ 601024 by omega), (show 90000 + 1042 * t + 1030 ≤ 7293000 by omega)⟩) (fun r1 ν1 h1 hf1 => ?_)
  obtain ⟨νc1, g1, u1, S1, ed1, rfl, ho1, hC1, v1, hR1, hv1⟩ := h1
  have hW1 := LW_c hW ho1 hf1
  refine sx_widen (k := 178 + 4 * (t + 1)) (n := 90000 + 1042 * (t + 1)) (by omega) (by omega) ?_
  generalize sx_ov μ (sx_up νc o (oc tc f)) (sx_up νc1 o (oc tc g1)) = μ1 at hW1 ⊢
  refine sx_istore (lv' := [some (.ref b), some (.ref x), some (.ref mo), some (.ref o), some (.int (nI (1 + 6 * t))), some (.int r1), none]) C dL_law_189 (by decide) rfl rfl ?_
  refine sx_aload_n C dL_law_191 rfl rfl ?_
  refine sx_aload_n C dL_law_192 rfl rfl ?_
  refine sx_iload C dL_law_193 rfl ?_
  refine sx_iconst (v := 1) C dL_law_195 (by decide) ?_
  refine sx_iadd C dL_law_196 ?_
  refine sx_eqi (nI (1 + 6 * t + 1)) (nI_add _ 1) ?_
  refine sx_sld (j := 1 + 6 * t + 1) C hX dL_law_197 rfl (by omega) (by omega) ?_
  refine sx_i2l C dL_law_198 ?_
  refine sx_bipush (v := 32) C dL_law_199 (by decide) ?_
  refine sx_lshl C dL_law_201 ?_
  refine sx_aload_n C dL_law_202 rfl rfl ?_
  refine sx_iload C dL_law_203 rfl ?_
  refine sx_iconst (v := 2) C dL_law_205 (by decide) ?_
  refine sx_iadd C dL_law_206 ?_
  refine sx_eqi (nI (1 + 6 * t + 2)) (nI_add _ 2) ?_
  refine sx_sld (j := 1 + 6 * t + 2) C hX dL_law_207 rfl (by omega) (by omega) ?_
  refine sx_i2l C dL_law_208 ?_
  refine sx_ldc2 (v := 4294967295) C dL_law_209 (sx_w C kL_L_74) ?_
  refine sx_land C dL_law_212 ?_
  refine sx_lor C dL_law_213 ?_
  refine sx_aload_n C dL_law_214 rfl rfl ?_
  refine sx_iload C dL_law_215 rfl ?_
  refine sx_iconst (v := 3) C dL_law_217 (by decide) ?_
  refine sx_iadd C dL_law_218 ?_
  refine sx_eqi (nI (1 + 6 * t + 3)) (nI_add _ 3) ?_
  refine sx_sld (j := 1 + 6 * t + 3) C hX dL_law_219 rfl (by omega) (by omega) ?_
  refine sx_i2l C dL_law_220 ?_
  refine sx_bipush (v := 32) C dL_law_221 (by decide) ?_
  refine sx_lshl C dL_law_223 ?_
  refine sx_aload_n C dL_law_224 rfl rfl ?_
  refine sx_iload C dL_law_225 rfl ?_
  refine sx_iconst (v := 4) C dL_law_227 (by decide) ?_
  refine sx_iadd C dL_law_228 ?_
  refine sx_eqi (nI (1 + 6 * t + 4)) (nI_add _ 4) ?_
  refine sx_sld (j := 1 + 6 * t + 4) C hX dL_law_229 rfl (by omega) (by omega) ?_
  refine sx_i2l C dL_law_230 ?_
  refine sx_ldc2 (v := 4294967295) C dL_law_231 (sx_w C kL_L_74) ?_
  refine sx_land C dL_law_234 ?_
  refine sx_lor C dL_law_235 ?_
  refine sx_callFi C hW1.2.1 (sx_runV (As := [.long ((jshlL ((xs (1 + 6 * t + 1)).toInt64) 32) ||| (((xs (1 + 6 * t + 2)).toInt64) &&& 4294967295)), .long ((jshlL ((xs (1 + 6 * t + 3)).toInt64) 32) ||| (((xs (1 + 6 * t + 4)).toInt64) &&& 4294967295))]) (rest := []) C hW1.2.1 (d_M_encoding l D tc ((jshlL ((xs (1 + 6 * t + 1)).toInt64) 32) ||| (((xs (1 + 6 * t + 2)).toInt64) &&& 4294967295)) ((jshlL ((xs (1 + 6 * t + 3)).toInt64) 32) ||| (((xs (1 + 6 * t + 4)).toInt64) &&& 4294967295)) mo W u S ed th νm hM) (ci := 3) rfl (hW1.2.1 _ _ hm0) (sx_cwV C 2 kM_L_79 ki_M_encoding ke_M_encoding kn_M kc_M_encoding rfl rfl (by decide +kernel) ⟨Nat.le_of_ble_eq_true rfl, Nat.le_of_ble_eq_true rfl⟩) rfl rfl (Nat.le_of_ble_eq_true rfl) dL_law_236 ⟨(show 178 + 4 * (t + 1) + 0 ≤ 601024 by omega), (show 90000 + 1042 * (t + 1) + 0 ≤ 7293000 by omega)⟩) (fun r2 ν2 h2 hf2 => ?_)
  obtain ⟨k2, u2, S2, ed2, hR2, hM2⟩ := h2
  have hW2 := LW_m hW1 hf2
  generalize sx_ov μ1 νm ν2 = μ2 at hW2 ⊢
  obtain ⟨e1, e2, rfl, rfl, rfl⟩ := u_enc hC.1 hR1 hR2
  obtain ⟨fm2, hm2⟩ := mi_xx hM2
  refine sx_istore (lv' := [some (.ref b), some (.ref x), some (.ref mo), some (.ref o), some (.int (nI (1 + 6 * t))), some (.int r1), some (.int r2)]) C dL_law_239 (by decide) rfl rfl ?_
  refine sx_aload_n C dL_law_241 rfl rfl ?_
  refine sx_callFi C hW2.2.1 (sx_runV (As := []) (rest := []) C hW2.2.1 (d_M_thrown l D tc mo W u1 S1 ed1 k2 ν2 hM2) (ci := 3) rfl (hW2.2.1 _ _ hm2) (sx_cwV C 0 kM_L_80 ki_M_thrown ke_M_thrown kn_M kc_M_thrown rfl rfl (by decide +kernel) ⟨Nat.le_of_ble_eq_true rfl, Nat.le_of_ble_eq_true rfl⟩) rfl rfl (Nat.le_of_ble_eq_true rfl) dL_law_242 ⟨(show 178 + 4 * (t + 1) + 0 ≤ 601024 by omega), (show 90000 + 1042 * (t + 1) + 0 ≤ 7293000 by omega)⟩) (fun r3 ν3 h3 hf3 => ?_)
  obtain ⟨h3, hM3⟩ := h3
  have hW3 := LW_m hW2 hf3
  generalize sx_ov μ2 ν2 ν3 = μ3 at hW3 ⊢
  refine sx_eqi (r1) (h3.trans e1.symm) ?_
  refine sx_iload C dL_law_245 rfl ?_
  refine sx_icmp_eq (tgt := 252) C dL_law_247 (by decide) (fun c247 => ?_) (fun c247 => ?_)
  · refine sx_iload C dL_law_252 rfl ?_
    refine sx_if_ne (tgt := 269) C dL_law_254 (by decide) (fun c254 => ?_) (fun c254 => ?_)
    · refine sx_goto (tgt := 1228) C dL_law_269 (by decide) ?_
      refine sx_weak (lv' := [some (.ref b), some (.ref x), some (.ref mo), some (.ref o), some (.int (nI (1 + 6 * t))), none, none]) (And.intro rfl (And.intro rfl (And.intro rfl (And.intro rfl (And.intro rfl trivial))))) ?_
      exact K μ3 νc1 ν3 g1 u1 S1 ed1 k2 hW3 hC1 hM3
    · refine sx_aload_n C dL_law_257 rfl rfl ?_
      refine sx_iconst (v := 0) C dL_law_258 (by decide) ?_
      refine sx_lald (j := 0) C dL_law_259 1 rfl hW3.2.2.1 (rfl) (by decide) (Nat.le_of_ble_eq_true rfl) ?_
      refine sx_eql (v1.toInt64) (hv1 c254) ?_
      refine sx_iload C dL_law_260 rfl ?_
      refine sx_i2l C dL_law_262 ?_
      refine sx_lcmp C dL_law_263 ?_
      refine sx_if_eq (tgt := 269) C dL_law_264 (by decide) (fun c264 => ?_) (fun c264 => ?_)
      · refine sx_goto (tgt := 1228) C dL_law_269 (by decide) ?_
        refine sx_weak (lv' := [some (.ref b), some (.ref x), some (.ref mo), some (.ref o), some (.int (nI (1 + 6 * t))), none, none]) (And.intro rfl (And.intro rfl (And.intro rfl (And.intro rfl (And.intro rfl trivial))))) ?_
        exact K μ3 νc1 ν3 g1 u1 S1 ed1 k2 hW3 hC1 hM3
      · exact absurd ((lg_cmp_eq _ _).mpr (by rw [e2 c254])) c264
  · exact absurd rfl c247

set_option maxHeartbeats 4000000 in
set_option maxRecDepth 100000 in
/-- condition -/
theorem lc_1 {p : Program} {e : Env} {s : State} {m : MethodId} {below : List Frame} {meth : Method} {c : Code} {Q : State → Prop} {c0 : Cond} (l : Launch) (hl : l.stackTraces = false) (D : va_G) (tc : Nat → ClassId) {b L : Nat} {xs : Nat → Int32} (hL : L ≤ 3073) {A : Nat → Prop} (C : sx_C p s m [Value.ref b].toArray c code 7 RL (c0 :: sxW) D sxCl (sxT tc) sxE A) (hX : sxX b L xs A s s.heap) (t : Nat) (ht : 1 + 6 * t + 6 ≤ L) (x mo o W u : Nat) (S : Nat → Nat → Bool) (ed : Nat → Nat → Nat) (th : Int32) (f : Nat → Int64) (μ νc νm : sx_M) (hW : LW μ νc νm o (oc tc f)) (hC : CInv tc νc x W u S ed) (hM : MInv tc νm mo W u S ed th) (K : ∀ (μ' νc' νm' : sx_M) (f' : Nat → Int64) (u' : Nat) (S' : Nat → Nat → Bool) (ed' : Nat → Nat → Nat) (th' : Int32), LW μ' νc' νm' o (oc tc f') → CInv tc νc' x W u' S' ed' → MInv tc νm' mo W u' S' ed' th' → SW p l e room_1 s m [Value.ref b].toArray below meth c 7 D sxCl A (178 + 4 * (t + 1)) (90000 + 1042 * (t + 1)) Q μ' 1228 [some (.ref b), some (.ref x), some (.ref mo), some (.ref o), some (.int (nI (1 + 6 * t))), none, none] []) : SW p l e room_1 s m [Value.ref b].toArray below meth c 7 D sxCl A (178 + 4 * t) (90000 + 1042 * t) Q μ 272 [some (.ref b), some (.ref x), some (.ref mo), some (.ref o), some (.int (nI (1 + 6 * t))), none, none] [] := by
  obtain ⟨fx, hx0⟩ := ci_x hC
  obtain ⟨fm, hm0⟩ := mi_xx hM
  refine sx_aload_n C dL_law_272 rfl rfl ?_
  refine sx_aload_n C dL_law_273 rfl rfl ?_
  refine sx_iload C dL_law_274 rfl ?_
  refine sx_iconst (v := 1) C dL_law_276 (by decide) ?_
  refine sx_iadd C dL_law_277 ?_
  refine sx_eqi (nI (1 + 6 * t + 1)) (nI_add _ 1) ?_
  refine sx_sld (j := 1 + 6 * t + 1) C hX dL_law_278 rfl (by omega) (by omega) ?_
  refine sx_aload_n C dL_law_279 rfl rfl ?_
  refine sx_iload C dL_law_280 rfl ?_
  refine sx_iconst (v := 2) C dL_law_282 (by decide) ?_
  refine sx_iadd C dL_law_283 ?_
  refine sx_eqi (nI (1 + 6 * t + 2)) (nI_add _ 2) ?_
  refine sx_sld (j := 1 + 6 * t + 2) C hX dL_law_284 rfl (by omega) (by omega) ?_
  refine sx_aload_n C dL_law_285 rfl rfl ?_
  refine sx_iload C dL_law_286 rfl ?_
  refine sx_iconst (v := 3) C dL_law_288 (by decide) ?_
  refine sx_iadd C dL_law_289 ?_
  refine sx_eqi (nI (1 + 6 * t + 3)) (nI_add _ 3) ?_
  refine sx_sld (j := 1 + 6 * t + 3) C hX dL_law_290 rfl (by omega) (by omega) ?_
  refine sx_aload_n C dL_law_291 rfl rfl ?_
  refine sx_iload C dL_law_292 rfl ?_
  refine sx_iconst (v := 4) C dL_law_294 (by decide) ?_
  refine sx_iadd C dL_law_295 ?_
  refine sx_eqi (nI (1 + 6 * t + 4)) (nI_add _ 4) ?_
  refine sx_sld (j := 1 + 6 * t + 4) C hX dL_law_296 rfl (by omega) (by omega) ?_
  refine sx_aload_n C dL_law_297 rfl rfl ?_
  refine sx_iload C dL_law_298 rfl ?_
  refine sx_iconst (v := 5) C dL_law_300 (by decide) ?_
  refine sx_iadd C dL_law_301 ?_
  refine sx_eqi (nI (1 + 6 * t + 5)) (nI_add _ 5) ?_
  refine sx_sld (j := 1 + 6 * t + 5) C hX dL_law_302 rfl (by omega) (by omega) ?_
  refine sx_aload_n C dL_law_303 rfl rfl ?_
  refine sx_callFi C (LW_h hW) (sx_runSW (As := [.ref x, .int (xs (1 + 6 * t + 1)), .int (xs (1 + 6 * t + 2)), .int (xs (1 + 6 * t + 3)), .int (xs (1 + 6 * t + 4)), .int (xs (1 + 6 * t + 5)), .ref o]) (rest := []) C (LW_h hW) (c_L_condition l D tc hl (xs (1 + 6 * t + 1)) (xs (1 + 6 * t + 2)) (xs (1 + 6 * t + 3)) (xs (1 + 6 * t + 4)) (xs (1 + 6 * t + 5)) x o W u S ed f νc hW.2.2.2.2.1 hC) (sx_cwSW C 7 kM_L_84 ks_L_condition kn_L kc_L_condition rfl rfl (by decide +kernel) ⟨Nat.le_of_ble_eq_true rfl, Nat.le_of_ble_eq_true rfl⟩) rfl rfl (Nat.le_of_ble_eq_true rfl) dL_law_304 ⟨(show 178 + 4 * t + 3 ≤ 601024 by omega), (show 90000 + 1042 * t + 18 ≤ 7293000 by omega)⟩) (fun r1 ν1 h1 hf1 => ?_)
  obtain ⟨νc1, g1, S1, ed1, rfl, ho1, hC1, v1, hR1, hv1⟩ := h1
  have hW1 := LW_c hW ho1 hf1
  refine sx_widen (k := 178 + 4 * (t + 1)) (n := 90000 + 1042 * (t + 1)) (by omega) (by omega) ?_
  generalize sx_ov μ (sx_up νc o (oc tc f)) (sx_up νc1 o (oc tc g1)) = μ1 at hW1 ⊢
  refine sx_istore (lv' := [some (.ref b), some (.ref x), some (.ref mo), some (.ref o), some (.int (nI (1 + 6 * t))), some (.int r1), none]) C dL_law_307 (by decide) rfl rfl ?_
  refine sx_aload_n C dL_law_309 rfl rfl ?_
  refine sx_aload_n C dL_law_310 rfl rfl ?_
  refine sx_iload C dL_law_311 rfl ?_
  refine sx_iconst (v := 1) C dL_law_313 (by decide) ?_
  refine sx_iadd C dL_law_314 ?_
  refine sx_eqi (nI (1 + 6 * t + 1)) (nI_add _ 1) ?_
  refine sx_sld (j := 1 + 6 * t + 1) C hX dL_law_315 rfl (by omega) (by omega) ?_
  refine sx_aload_n C dL_law_316 rfl rfl ?_
  refine sx_iload C dL_law_317 rfl ?_
  refine sx_iconst (v := 2) C dL_law_319 (by decide) ?_
  refine sx_iadd C dL_law_320 ?_
  refine sx_eqi (nI (1 + 6 * t + 2)) (nI_add _ 2) ?_
  refine sx_sld (j := 1 + 6 * t + 2) C hX dL_law_321 rfl (by omega) (by omega) ?_
  refine sx_aload_n C dL_law_322 rfl rfl ?_
  refine sx_iload C dL_law_323 rfl ?_
  refine sx_iconst (v := 3) C dL_law_325 (by decide) ?_
  refine sx_iadd C dL_law_326 ?_
  refine sx_eqi (nI (1 + 6 * t + 3)) (nI_add _ 3) ?_
  refine sx_sld (j := 1 + 6 * t + 3) C hX dL_law_327 rfl (by omega) (by omega) ?_
  refine sx_aload_n C dL_law_328 rfl rfl ?_
  refine sx_iload C dL_law_329 rfl ?_
  refine sx_iconst (v := 4) C dL_law_331 (by decide) ?_
  refine sx_iadd C dL_law_332 ?_
  refine sx_eqi (nI (1 + 6 * t + 4)) (nI_add _ 4) ?_
  refine sx_sld (j := 1 + 6 * t + 4) C hX dL_law_333 rfl (by omega) (by omega) ?_
  refine sx_aload_n C dL_law_334 rfl rfl ?_
  refine sx_iload C dL_law_335 rfl ?_
  refine sx_iconst (v := 5) C dL_law_337 (by decide) ?_
  refine sx_iadd C dL_law_338 ?_
  refine sx_eqi (nI (1 + 6 * t + 5)) (nI_add _ 5) ?_
  refine sx_sld (j := 1 + 6 * t + 5) C hX dL_law_339 rfl (by omega) (by omega) ?_
  refine sx_callFi C hW1.2.1 (sx_runV (As := [.int (xs (1 + 6 * t + 1)), .int (xs (1 + 6 * t + 2)), .int (xs (1 + 6 * t + 3)), .int (xs (1 + 6 * t + 4)), .int (xs (1 + 6 * t + 5))]) (rest := []) C hW1.2.1 (d_M_condition l D tc (xs (1 + 6 * t + 1)) (xs (1 + 6 * t + 2)) (xs (1 + 6 * t + 3)) (xs (1 + 6 * t + 4)) (xs (1 + 6 * t + 5)) mo W u S ed th νm hM) (ci := 3) rfl (hW1.2.1 _ _ hm0) (sx_cwV C 5 kM_L_87 ki_M_condition ke_M_condition kn_M kc_M_condition rfl rfl (by decide +kernel) ⟨Nat.le_of_ble_eq_true rfl, Nat.le_of_ble_eq_true rfl⟩) rfl rfl (Nat.le_of_ble_eq_true rfl) dL_law_340 ⟨(show 178 + 4 * (t + 1) + 0 ≤ 601024 by omega), (show 90000 + 1042 * (t + 1) + 0 ≤ 7293000 by omega)⟩) (fun r2 ν2 h2 hf2 => ?_)
  obtain ⟨k2, S2, ed2, hR2, hM2⟩ := h2
  have hW2 := LW_m hW1 hf2
  generalize sx_ov μ1 νm ν2 = μ2 at hW2 ⊢
  obtain ⟨e1, e2, rfl, rfl⟩ := u_cnd hC.1 hR1 hR2
  obtain ⟨fm2, hm2⟩ := mi_xx hM2
  refine sx_istore (lv' := [some (.ref b), some (.ref x), some (.ref mo), some (.ref o), some (.int (nI (1 + 6 * t))), some (.int r1), some (.int r2)]) C dL_law_343 (by decide) rfl rfl ?_
  refine sx_aload_n C dL_law_345 rfl rfl ?_
  refine sx_callFi C hW2.2.1 (sx_runV (As := []) (rest := []) C hW2.2.1 (d_M_thrown l D tc mo W u S1 ed1 k2 ν2 hM2) (ci := 3) rfl (hW2.2.1 _ _ hm2) (sx_cwV C 0 kM_L_80 ki_M_thrown ke_M_thrown kn_M kc_M_thrown rfl rfl (by decide +kernel) ⟨Nat.le_of_ble_eq_true rfl, Nat.le_of_ble_eq_true rfl⟩) rfl rfl (Nat.le_of_ble_eq_true rfl) dL_law_346 ⟨(show 178 + 4 * (t + 1) + 0 ≤ 601024 by omega), (show 90000 + 1042 * (t + 1) + 0 ≤ 7293000 by omega)⟩) (fun r3 ν3 h3 hf3 => ?_)
  obtain ⟨h3, hM3⟩ := h3
  have hW3 := LW_m hW2 hf3
  generalize sx_ov μ2 ν2 ν3 = μ3 at hW3 ⊢
  refine sx_eqi (r1) (h3.trans e1.symm) ?_
  refine sx_iload C dL_law_349 rfl ?_
  refine sx_icmp_eq (tgt := 356) C dL_law_351 (by decide) (fun c351 => ?_) (fun c351 => ?_)
  · refine sx_iload C dL_law_356 rfl ?_
    refine sx_if_ne (tgt := 380) C dL_law_358 (by decide) (fun c358 => ?_) (fun c358 => ?_)
    · refine sx_goto (tgt := 1228) C dL_law_380 (by decide) ?_
      refine sx_weak (lv' := [some (.ref b), some (.ref x), some (.ref mo), some (.ref o), some (.int (nI (1 + 6 * t))), none, none]) (And.intro rfl (And.intro rfl (And.intro rfl (And.intro rfl (And.intro rfl trivial))))) ?_
      exact K μ3 νc1 ν3 g1 u S1 ed1 k2 hW3 hC1 hM3
    · refine sx_aload_n C dL_law_361 rfl rfl ?_
      refine sx_iconst (v := 0) C dL_law_362 (by decide) ?_
      refine sx_lald (j := 0) C dL_law_363 1 rfl hW3.2.2.1 (rfl) (by decide) (Nat.le_of_ble_eq_true rfl) ?_
      refine sx_eql (v1.toInt64) (hv1 c358) ?_
      refine sx_iload C dL_law_364 rfl ?_
      refine sx_if_eq (tgt := 373) C dL_law_366 (by decide) (fun c366 => ?_) (fun c366 => ?_)
      · have hb9 : v1.toInt64 = 0 := by rw [e2 c358, c366]; rfl
        refine sx_lconst (v := 0) C dL_law_373 (by decide) ?_
        refine sx_lcmp C dL_law_374 ?_
        refine sx_if_eq (tgt := 380) C dL_law_375 (by decide) (fun c375 => ?_) (fun c375 => ?_)
        · refine sx_goto (tgt := 1228) C dL_law_380 (by decide) ?_
          refine sx_weak (lv' := [some (.ref b), some (.ref x), some (.ref mo), some (.ref o), some (.int (nI (1 + 6 * t))), none, none]) (And.intro rfl (And.intro rfl (And.intro rfl (And.intro rfl (And.intro rfl trivial))))) ?_
          exact K μ3 νc1 ν3 g1 u S1 ed1 k2 hW3 hC1 hM3
        · exact absurd ((lg_cmp_eq _ _).mpr hb9) c375
      · have hb9 : v1.toInt64 = 1 := by rw [e2 c358, cnd_b hR2 (e1.symm.trans c358) c366]; rfl
        refine sx_lconst (v := 1) C dL_law_369 (by decide) ?_
        refine sx_goto (tgt := 374) C dL_law_370 (by decide) ?_
        refine sx_lcmp C dL_law_374 ?_
        refine sx_if_eq (tgt := 380) C dL_law_375 (by decide) (fun c375 => ?_) (fun c375 => ?_)
        · refine sx_goto (tgt := 1228) C dL_law_380 (by decide) ?_
          refine sx_weak (lv' := [some (.ref b), some (.ref x), some (.ref mo), some (.ref o), some (.int (nI (1 + 6 * t))), none, none]) (And.intro rfl (And.intro rfl (And.intro rfl (And.intro rfl (And.intro rfl trivial))))) ?_
          exact K μ3 νc1 ν3 g1 u S1 ed1 k2 hW3 hC1 hM3
        · exact absurd ((lg_cmp_eq _ _).mpr hb9) c375
  · exact absurd rfl c351

set_option maxHeartbeats 4000000 in
set_option maxRecDepth 100000 in
/-- operand -/
theorem lc_2 {p : Program} {e : Env} {s : State} {m : MethodId} {below : List Frame} {meth : Method} {c : Code} {Q : State → Prop} {c0 : Cond} (l : Launch) (hl : l.stackTraces = false) (D : va_G) (tc : Nat → ClassId) {b L : Nat} {xs : Nat → Int32} (hL : L ≤ 3073) {A : Nat → Prop} (C : sx_C p s m [Value.ref b].toArray c code 7 RL (c0 :: sxW) D sxCl (sxT tc) sxE A) (hX : sxX b L xs A s s.heap) (t : Nat) (ht : 1 + 6 * t + 6 ≤ L) (x mo o W u : Nat) (S : Nat → Nat → Bool) (ed : Nat → Nat → Nat) (th : Int32) (f : Nat → Int64) (μ νc νm : sx_M) (hW : LW μ νc νm o (oc tc f)) (hC : CInv tc νc x W u S ed) (hM : MInv tc νm mo W u S ed th) (K : ∀ (μ' νc' νm' : sx_M) (f' : Nat → Int64) (u' : Nat) (S' : Nat → Nat → Bool) (ed' : Nat → Nat → Nat) (th' : Int32), LW μ' νc' νm' o (oc tc f') → CInv tc νc' x W u' S' ed' → MInv tc νm' mo W u' S' ed' th' → SW p l e room_1 s m [Value.ref b].toArray below meth c 7 D sxCl A (178 + 4 * (t + 1)) (90000 + 1042 * (t + 1)) Q μ' 1228 [some (.ref b), some (.ref x), some (.ref mo), some (.ref o), some (.int (nI (1 + 6 * t))), none, none] []) : SW p l e room_1 s m [Value.ref b].toArray below meth c 7 D sxCl A (178 + 4 * t) (90000 + 1042 * t) Q μ 383 [some (.ref b), some (.ref x), some (.ref mo), some (.ref o), some (.int (nI (1 + 6 * t))), none, none] [] := by
  obtain ⟨fx, hx0⟩ := ci_x hC
  obtain ⟨fm, hm0⟩ := mi_xx hM
  refine sx_aload_n C dL_law_383 rfl rfl ?_
  refine sx_aload_n C dL_law_384 rfl rfl ?_
  refine sx_iload C dL_law_385 rfl ?_
  refine sx_iconst (v := 1) C dL_law_387 (by decide) ?_
  refine sx_iadd C dL_law_388 ?_
  refine sx_eqi (nI (1 + 6 * t + 1)) (nI_add _ 1) ?_
  refine sx_sld (j := 1 + 6 * t + 1) C hX dL_law_389 rfl (by omega) (by omega) ?_
  refine sx_aload_n C dL_law_390 rfl rfl ?_
  refine sx_iload C dL_law_391 rfl ?_
  refine sx_iconst (v := 2) C dL_law_393 (by decide) ?_
  refine sx_iadd C dL_law_394 ?_
  refine sx_eqi (nI (1 + 6 * t + 2)) (nI_add _ 2) ?_
  refine sx_sld (j := 1 + 6 * t + 2) C hX dL_law_395 rfl (by omega) (by omega) ?_
  refine sx_aload_n C dL_law_396 rfl rfl ?_
  refine sx_iload C dL_law_397 rfl ?_
  refine sx_iconst (v := 3) C dL_law_399 (by decide) ?_
  refine sx_iadd C dL_law_400 ?_
  refine sx_eqi (nI (1 + 6 * t + 3)) (nI_add _ 3) ?_
  refine sx_sld (j := 1 + 6 * t + 3) C hX dL_law_401 rfl (by omega) (by omega) ?_
  refine sx_aload_n C dL_law_402 rfl rfl ?_
  refine sx_callFi C (LW_h hW) (sx_runSW (As := [.ref x, .int (xs (1 + 6 * t + 1)), .int (xs (1 + 6 * t + 2)), .int (xs (1 + 6 * t + 3)), .ref o]) (rest := []) C (LW_h hW) (c_L_operand l D tc hl (xs (1 + 6 * t + 1)) (xs (1 + 6 * t + 2)) (xs (1 + 6 * t + 3)) x o W u S ed f νc hW.2.2.2.2.1 hC) (sx_cwSW C 5 kM_L_88 ks_L_operand kn_L kc_L_operand rfl rfl (by decide +kernel) ⟨Nat.le_of_ble_eq_true rfl, Nat.le_of_ble_eq_true rfl⟩) rfl rfl (Nat.le_of_ble_eq_true rfl) dL_law_403 ⟨(show 178 + 4 * t + 2 ≤ 601024 by omega), (show 90000 + 1042 * t + 12 ≤ 7293000 by omega)⟩) (fun r1 ν1 h1 hf1 => ?_)
  obtain ⟨νc1, g1, ed1, rfl, ho1, hC1, v1, hR1, hv1⟩ := h1
  have hW1 := LW_c hW ho1 hf1
  refine sx_widen (k := 178 + 4 * (t + 1)) (n := 90000 + 1042 * (t + 1)) (by omega) (by omega) ?_
  generalize sx_ov μ (sx_up νc o (oc tc f)) (sx_up νc1 o (oc tc g1)) = μ1 at hW1 ⊢
  refine sx_istore (lv' := [some (.ref b), some (.ref x), some (.ref mo), some (.ref o), some (.int (nI (1 + 6 * t))), some (.int r1), none]) C dL_law_406 (by decide) rfl rfl ?_
  refine sx_aload_n C dL_law_408 rfl rfl ?_
  refine sx_aload_n C dL_law_409 rfl rfl ?_
  refine sx_iload C dL_law_410 rfl ?_
  refine sx_iconst (v := 1) C dL_law_412 (by decide) ?_
  refine sx_iadd C dL_law_413 ?_
  refine sx_eqi (nI (1 + 6 * t + 1)) (nI_add _ 1) ?_
  refine sx_sld (j := 1 + 6 * t + 1) C hX dL_law_414 rfl (by omega) (by omega) ?_
  refine sx_aload_n C dL_law_415 rfl rfl ?_
  refine sx_iload C dL_law_416 rfl ?_
  refine sx_iconst (v := 2) C dL_law_418 (by decide) ?_
  refine sx_iadd C dL_law_419 ?_
  refine sx_eqi (nI (1 + 6 * t + 2)) (nI_add _ 2) ?_
  refine sx_sld (j := 1 + 6 * t + 2) C hX dL_law_420 rfl (by omega) (by omega) ?_
  refine sx_aload_n C dL_law_421 rfl rfl ?_
  refine sx_iload C dL_law_422 rfl ?_
  refine sx_iconst (v := 3) C dL_law_424 (by decide) ?_
  refine sx_iadd C dL_law_425 ?_
  refine sx_eqi (nI (1 + 6 * t + 3)) (nI_add _ 3) ?_
  refine sx_sld (j := 1 + 6 * t + 3) C hX dL_law_426 rfl (by omega) (by omega) ?_
  refine sx_callFi C hW1.2.1 (sx_runV (As := [.int (xs (1 + 6 * t + 1)), .int (xs (1 + 6 * t + 2)), .int (xs (1 + 6 * t + 3))]) (rest := []) C hW1.2.1 (d_M_operand l D tc (xs (1 + 6 * t + 1)) (xs (1 + 6 * t + 2)) (xs (1 + 6 * t + 3)) mo W u S ed th νm hM) (ci := 3) rfl (hW1.2.1 _ _ hm0) (sx_cwV C 3 kM_L_91 ki_M_operand ke_M_operand kn_M kc_M_operand rfl rfl (by decide +kernel) ⟨Nat.le_of_ble_eq_true rfl, Nat.le_of_ble_eq_true rfl⟩) rfl rfl (Nat.le_of_ble_eq_true rfl) dL_law_427 ⟨(show 178 + 4 * (t + 1) + 0 ≤ 601024 by omega), (show 90000 + 1042 * (t + 1) + 0 ≤ 7293000 by omega)⟩) (fun r2 ν2 h2 hf2 => ?_)
  obtain ⟨k2, ed2, hR2, hM2⟩ := h2
  have hW2 := LW_m hW1 hf2
  generalize sx_ov μ1 νm ν2 = μ2 at hW2 ⊢
  obtain ⟨e1, e2, rfl⟩ := u_opd hC.1 hR1 hR2
  obtain ⟨fm2, hm2⟩ := mi_xx hM2
  refine sx_istore (lv' := [some (.ref b), some (.ref x), some (.ref mo), some (.ref o), some (.int (nI (1 + 6 * t))), some (.int r1), some (.int r2)]) C dL_law_430 (by decide) rfl rfl ?_
  refine sx_aload_n C dL_law_432 rfl rfl ?_
  refine sx_callFi C hW2.2.1 (sx_runV (As := []) (rest := []) C hW2.2.1 (d_M_thrown l D tc mo W u S ed1 k2 ν2 hM2) (ci := 3) rfl (hW2.2.1 _ _ hm2) (sx_cwV C 0 kM_L_80 ki_M_thrown ke_M_thrown kn_M kc_M_thrown rfl rfl (by decide +kernel) ⟨Nat.le_of_ble_eq_true rfl, Nat.le_of_ble_eq_true rfl⟩) rfl rfl (Nat.le_of_ble_eq_true rfl) dL_law_433 ⟨(show 178 + 4 * (t + 1) + 0 ≤ 601024 by omega), (show 90000 + 1042 * (t + 1) + 0 ≤ 7293000 by omega)⟩) (fun r3 ν3 h3 hf3 => ?_)
  obtain ⟨h3, hM3⟩ := h3
  have hW3 := LW_m hW2 hf3
  generalize sx_ov μ2 ν2 ν3 = μ3 at hW3 ⊢
  refine sx_eqi (r1) (h3.trans e1.symm) ?_
  refine sx_iload C dL_law_436 rfl ?_
  refine sx_icmp_eq (tgt := 443) C dL_law_438 (by decide) (fun c438 => ?_) (fun c438 => ?_)
  · refine sx_iload C dL_law_443 rfl ?_
    refine sx_if_ne (tgt := 460) C dL_law_445 (by decide) (fun c445 => ?_) (fun c445 => ?_)
    · refine sx_goto (tgt := 1228) C dL_law_460 (by decide) ?_
      refine sx_weak (lv' := [some (.ref b), some (.ref x), some (.ref mo), some (.ref o), some (.int (nI (1 + 6 * t))), none, none]) (And.intro rfl (And.intro rfl (And.intro rfl (And.intro rfl (And.intro rfl trivial))))) ?_
      exact K μ3 νc1 ν3 g1 u S ed1 k2 hW3 hC1 hM3
    · refine sx_aload_n C dL_law_448 rfl rfl ?_
      refine sx_iconst (v := 0) C dL_law_449 (by decide) ?_
      refine sx_lald (j := 0) C dL_law_450 1 rfl hW3.2.2.1 (rfl) (by decide) (Nat.le_of_ble_eq_true rfl) ?_
      refine sx_eql (v1.toInt64) (hv1 c445) ?_
      refine sx_iload C dL_law_451 rfl ?_
      refine sx_i2l C dL_law_453 ?_
      refine sx_lcmp C dL_law_454 ?_
      refine sx_if_eq (tgt := 460) C dL_law_455 (by decide) (fun c455 => ?_) (fun c455 => ?_)
      · refine sx_goto (tgt := 1228) C dL_law_460 (by decide) ?_
        refine sx_weak (lv' := [some (.ref b), some (.ref x), some (.ref mo), some (.ref o), some (.int (nI (1 + 6 * t))), none, none]) (And.intro rfl (And.intro rfl (And.intro rfl (And.intro rfl (And.intro rfl trivial))))) ?_
        exact K μ3 νc1 ν3 g1 u S ed1 k2 hW3 hC1 hM3
      · exact absurd ((lg_cmp_eq _ _).mpr (by rw [e2 c445])) c455
  · exact absurd rfl c438

set_option maxHeartbeats 4000000 in
set_option maxRecDepth 100000 in
/-- needs -/
theorem lc_3 {p : Program} {e : Env} {s : State} {m : MethodId} {below : List Frame} {meth : Method} {c : Code} {Q : State → Prop} {c0 : Cond} (l : Launch) (hl : l.stackTraces = false) (D : va_G) (tc : Nat → ClassId) {b L : Nat} {xs : Nat → Int32} (hL : L ≤ 3073) {A : Nat → Prop} (C : sx_C p s m [Value.ref b].toArray c code 7 RL (c0 :: sxW) D sxCl (sxT tc) sxE A) (hX : sxX b L xs A s s.heap) (t : Nat) (ht : 1 + 6 * t + 6 ≤ L) (x mo o W u : Nat) (S : Nat → Nat → Bool) (ed : Nat → Nat → Nat) (th : Int32) (f : Nat → Int64) (μ νc νm : sx_M) (hW : LW μ νc νm o (oc tc f)) (hC : CInv tc νc x W u S ed) (hM : MInv tc νm mo W u S ed th) (K : ∀ (μ' νc' νm' : sx_M) (f' : Nat → Int64) (u' : Nat) (S' : Nat → Nat → Bool) (ed' : Nat → Nat → Nat) (th' : Int32), LW μ' νc' νm' o (oc tc f') → CInv tc νc' x W u' S' ed' → MInv tc νm' mo W u' S' ed' th' → SW p l e room_1 s m [Value.ref b].toArray below meth c 7 D sxCl A (178 + 4 * (t + 1)) (90000 + 1042 * (t + 1)) Q μ' 1228 [some (.ref b), some (.ref x), some (.ref mo), some (.ref o), some (.int (nI (1 + 6 * t))), none, none] []) : SW p l e room_1 s m [Value.ref b].toArray below meth c 7 D sxCl A (178 + 4 * t) (90000 + 1042 * t) Q μ 463 [some (.ref b), some (.ref x), some (.ref mo), some (.ref o), some (.int (nI (1 + 6 * t))), none, none] [] := by
  obtain ⟨fx, hx0⟩ := ci_x hC
  obtain ⟨fm, hm0⟩ := mi_xx hM
  refine sx_aload_n C dL_law_463 rfl rfl ?_
  refine sx_aload_n C dL_law_464 rfl rfl ?_
  refine sx_iload C dL_law_465 rfl ?_
  refine sx_iconst (v := 1) C dL_law_467 (by decide) ?_
  refine sx_iadd C dL_law_468 ?_
  refine sx_eqi (nI (1 + 6 * t + 1)) (nI_add _ 1) ?_
  refine sx_sld (j := 1 + 6 * t + 1) C hX dL_law_469 rfl (by omega) (by omega) ?_
  refine sx_aload_n C dL_law_470 rfl rfl ?_
  refine sx_iload C dL_law_471 rfl ?_
  refine sx_iconst (v := 2) C dL_law_473 (by decide) ?_
  refine sx_iadd C dL_law_474 ?_
  refine sx_eqi (nI (1 + 6 * t + 2)) (nI_add _ 2) ?_
  refine sx_sld (j := 1 + 6 * t + 2) C hX dL_law_475 rfl (by omega) (by omega) ?_
  refine sx_aload_n C dL_law_476 rfl rfl ?_
  refine sx_callFi C (LW_h hW) (sx_runSW (As := [.ref x, .int (xs (1 + 6 * t + 1)), .int (xs (1 + 6 * t + 2)), .ref o]) (rest := []) C (LW_h hW) (c_L_needs l D tc hl (xs (1 + 6 * t + 1)) (xs (1 + 6 * t + 2)) x o W u S ed f νc hW.2.2.2.2.1 hC) (sx_cwSW C 4 kM_L_92 ks_L_needs kn_L kc_L_needs rfl rfl (by decide +kernel) ⟨Nat.le_of_ble_eq_true rfl, Nat.le_of_ble_eq_true rfl⟩) rfl rfl (Nat.le_of_ble_eq_true rfl) dL_law_477 ⟨(show 178 + 4 * t + 2 ≤ 601024 by omega), (show 90000 + 1042 * t + 12 ≤ 7293000 by omega)⟩) (fun r1 ν1 h1 hf1 => ?_)
  obtain ⟨νc1, g1, ed1, rfl, ho1, hC1, v1, hR1, hv1⟩ := h1
  have hW1 := LW_c hW ho1 hf1
  refine sx_widen (k := 178 + 4 * (t + 1)) (n := 90000 + 1042 * (t + 1)) (by omega) (by omega) ?_
  generalize sx_ov μ (sx_up νc o (oc tc f)) (sx_up νc1 o (oc tc g1)) = μ1 at hW1 ⊢
  refine sx_istore (lv' := [some (.ref b), some (.ref x), some (.ref mo), some (.ref o), some (.int (nI (1 + 6 * t))), some (.int r1), none]) C dL_law_480 (by decide) rfl rfl ?_
  refine sx_aload_n C dL_law_482 rfl rfl ?_
  refine sx_aload_n C dL_law_483 rfl rfl ?_
  refine sx_iload C dL_law_484 rfl ?_
  refine sx_iconst (v := 1) C dL_law_486 (by decide) ?_
  refine sx_iadd C dL_law_487 ?_
  refine sx_eqi (nI (1 + 6 * t + 1)) (nI_add _ 1) ?_
  refine sx_sld (j := 1 + 6 * t + 1) C hX dL_law_488 rfl (by omega) (by omega) ?_
  refine sx_aload_n C dL_law_489 rfl rfl ?_
  refine sx_iload C dL_law_490 rfl ?_
  refine sx_iconst (v := 2) C dL_law_492 (by decide) ?_
  refine sx_iadd C dL_law_493 ?_
  refine sx_eqi (nI (1 + 6 * t + 2)) (nI_add _ 2) ?_
  refine sx_sld (j := 1 + 6 * t + 2) C hX dL_law_494 rfl (by omega) (by omega) ?_
  refine sx_callFi C hW1.2.1 (sx_runV (As := [.int (xs (1 + 6 * t + 1)), .int (xs (1 + 6 * t + 2))]) (rest := []) C hW1.2.1 (d_M_needs l D tc (xs (1 + 6 * t + 1)) (xs (1 + 6 * t + 2)) mo W u S ed th νm hM) (ci := 3) rfl (hW1.2.1 _ _ hm0) (sx_cwV C 2 kM_L_95 ki_M_needs ke_M_needs kn_M kc_M_needs rfl rfl (by decide +kernel) ⟨Nat.le_of_ble_eq_true rfl, Nat.le_of_ble_eq_true rfl⟩) rfl rfl (Nat.le_of_ble_eq_true rfl) dL_law_495 ⟨(show 178 + 4 * (t + 1) + 0 ≤ 601024 by omega), (show 90000 + 1042 * (t + 1) + 0 ≤ 7293000 by omega)⟩) (fun r2 ν2 h2 hf2 => ?_)
  obtain ⟨k2, ed2, hR2, hM2⟩ := h2
  have hW2 := LW_m hW1 hf2
  generalize sx_ov μ1 νm ν2 = μ2 at hW2 ⊢
  obtain ⟨e1, e2, rfl⟩ := u_nds hC.1 hR1 hR2
  obtain ⟨fm2, hm2⟩ := mi_xx hM2
  refine sx_istore (lv' := [some (.ref b), some (.ref x), some (.ref mo), some (.ref o), some (.int (nI (1 + 6 * t))), some (.int r1), some (.int r2)]) C dL_law_498 (by decide) rfl rfl ?_
  refine sx_aload_n C dL_law_500 rfl rfl ?_
  refine sx_callFi C hW2.2.1 (sx_runV (As := []) (rest := []) C hW2.2.1 (d_M_thrown l D tc mo W u S ed1 k2 ν2 hM2) (ci := 3) rfl (hW2.2.1 _ _ hm2) (sx_cwV C 0 kM_L_80 ki_M_thrown ke_M_thrown kn_M kc_M_thrown rfl rfl (by decide +kernel) ⟨Nat.le_of_ble_eq_true rfl, Nat.le_of_ble_eq_true rfl⟩) rfl rfl (Nat.le_of_ble_eq_true rfl) dL_law_501 ⟨(show 178 + 4 * (t + 1) + 0 ≤ 601024 by omega), (show 90000 + 1042 * (t + 1) + 0 ≤ 7293000 by omega)⟩) (fun r3 ν3 h3 hf3 => ?_)
  obtain ⟨h3, hM3⟩ := h3
  have hW3 := LW_m hW2 hf3
  generalize sx_ov μ2 ν2 ν3 = μ3 at hW3 ⊢
  refine sx_eqi (r1) (h3.trans e1.symm) ?_
  refine sx_iload C dL_law_504 rfl ?_
  refine sx_icmp_eq (tgt := 511) C dL_law_506 (by decide) (fun c506 => ?_) (fun c506 => ?_)
  · refine sx_iload C dL_law_511 rfl ?_
    refine sx_if_ne (tgt := 528) C dL_law_513 (by decide) (fun c513 => ?_) (fun c513 => ?_)
    · refine sx_goto (tgt := 1228) C dL_law_528 (by decide) ?_
      refine sx_weak (lv' := [some (.ref b), some (.ref x), some (.ref mo), some (.ref o), some (.int (nI (1 + 6 * t))), none, none]) (And.intro rfl (And.intro rfl (And.intro rfl (And.intro rfl (And.intro rfl trivial))))) ?_
      exact K μ3 νc1 ν3 g1 u S ed1 k2 hW3 hC1 hM3
    · refine sx_aload_n C dL_law_516 rfl rfl ?_
      refine sx_iconst (v := 0) C dL_law_517 (by decide) ?_
      refine sx_lald (j := 0) C dL_law_518 1 rfl hW3.2.2.1 (rfl) (by decide) (Nat.le_of_ble_eq_true rfl) ?_
      refine sx_eql (v1.toInt64) (hv1 c513) ?_
      refine sx_iload C dL_law_519 rfl ?_
      refine sx_i2l C dL_law_521 ?_
      refine sx_lcmp C dL_law_522 ?_
      refine sx_if_eq (tgt := 528) C dL_law_523 (by decide) (fun c523 => ?_) (fun c523 => ?_)
      · refine sx_goto (tgt := 1228) C dL_law_528 (by decide) ?_
        refine sx_weak (lv' := [some (.ref b), some (.ref x), some (.ref mo), some (.ref o), some (.int (nI (1 + 6 * t))), none, none]) (And.intro rfl (And.intro rfl (And.intro rfl (And.intro rfl (And.intro rfl trivial))))) ?_
        exact K μ3 νc1 ν3 g1 u S ed1 k2 hW3 hC1 hM3
      · exact absurd ((lg_cmp_eq _ _).mpr (by rw [e2 c513])) c523
  · exact absurd rfl c506

set_option maxHeartbeats 4000000 in
set_option maxRecDepth 100000 in
/-- clear -/
theorem lc_4 {p : Program} {e : Env} {s : State} {m : MethodId} {below : List Frame} {meth : Method} {c : Code} {Q : State → Prop} {c0 : Cond} (l : Launch) (hl : l.stackTraces = false) (D : va_G) (tc : Nat → ClassId) {b L : Nat} {xs : Nat → Int32} (hL : L ≤ 3073) {A : Nat → Prop} (C : sx_C p s m [Value.ref b].toArray c code 7 RL (c0 :: sxW) D sxCl (sxT tc) sxE A) (hX : sxX b L xs A s s.heap) (t : Nat) (ht : 1 + 6 * t + 6 ≤ L) (x mo o W u : Nat) (S : Nat → Nat → Bool) (ed : Nat → Nat → Nat) (th : Int32) (f : Nat → Int64) (μ νc νm : sx_M) (hW : LW μ νc νm o (oc tc f)) (hC : CInv tc νc x W u S ed) (hM : MInv tc νm mo W u S ed th) (K : ∀ (μ' νc' νm' : sx_M) (f' : Nat → Int64) (u' : Nat) (S' : Nat → Nat → Bool) (ed' : Nat → Nat → Nat) (th' : Int32), LW μ' νc' νm' o (oc tc f') → CInv tc νc' x W u' S' ed' → MInv tc νm' mo W u' S' ed' th' → SW p l e room_1 s m [Value.ref b].toArray below meth c 7 D sxCl A (178 + 4 * (t + 1)) (90000 + 1042 * (t + 1)) Q μ' 1228 [some (.ref b), some (.ref x), some (.ref mo), some (.ref o), some (.int (nI (1 + 6 * t))), none, none] []) : SW p l e room_1 s m [Value.ref b].toArray below meth c 7 D sxCl A (178 + 4 * t) (90000 + 1042 * t) Q μ 531 [some (.ref b), some (.ref x), some (.ref mo), some (.ref o), some (.int (nI (1 + 6 * t))), none, none] [] := by
  obtain ⟨fx, hx0⟩ := ci_x hC
  obtain ⟨fm, hm0⟩ := mi_xx hM
  refine sx_aload_n C dL_law_531 rfl rfl ?_
  refine sx_callFi C hW.1 (sx_runV (As := []) (rest := []) C hW.1 (d_C_clear l D tc x W u S ed νc hC) (ci := 2) rfl (hW.1 _ _ hx0) (sx_cwV C 0 kM_L_96 ki_C_clear ke_C_clear kn_C kc_C_clear rfl rfl (by decide +kernel) ⟨Nat.le_of_ble_eq_true rfl, Nat.le_of_ble_eq_true rfl⟩) rfl rfl (Nat.le_of_ble_eq_true rfl) dL_law_532 ⟨(show 178 + 4 * t + 0 ≤ 601024 by omega), (show 90000 + 1042 * t + 0 ≤ 7293000 by omega)⟩) (fun r1 ν1 h1 hf1 => ?_)
  obtain ⟨h1, hC1⟩ := h1
  have hW1 := LW_d hW hf1
  refine sx_widen (k := 178 + 4 * (t + 1)) (n := 90000 + 1042 * (t + 1)) (by omega) (by omega) ?_
  generalize sx_ov μ νc ν1 = μ1 at hW1 ⊢
  refine sx_aload_n C dL_law_535 rfl rfl ?_
  refine sx_callFi C hW1.2.1 (sx_runV (As := []) (rest := [.int r1]) C hW1.2.1 (d_M_clear l D tc mo W u S ed th νm hM) (ci := 3) rfl (hW1.2.1 _ _ hm0) (sx_cwV C 0 kM_L_99 ki_M_clear ke_M_clear kn_M kc_M_clear rfl rfl (by decide +kernel) ⟨Nat.le_of_ble_eq_true rfl, Nat.le_of_ble_eq_true rfl⟩) rfl rfl (Nat.le_of_ble_eq_true rfl) dL_law_536 ⟨(show 178 + 4 * (t + 1) + 0 ≤ 601024 by omega), (show 90000 + 1042 * (t + 1) + 0 ≤ 7293000 by omega)⟩) (fun r2 ν2 h2 hf2 => ?_)
  obtain ⟨h2, hM2⟩ := h2
  have hW2 := LW_m hW1 hf2
  generalize sx_ov μ1 νm ν2 = μ2 at hW2 ⊢
  refine sx_eqi (r1) (h2.trans h1.symm) ?_
  refine sx_icmp_eq (tgt := 1228) C dL_law_539 (by decide) (fun c539 => ?_) (fun c539 => ?_)
  · exact K μ2 ν1 ν2 f 0 S ed 0 hW2 hC1 hM2
  · exact absurd rfl c539

set_option maxHeartbeats 4000000 in
set_option maxRecDepth 100000 in
/-- pairs -/
theorem lc_5 {p : Program} {e : Env} {s : State} {m : MethodId} {below : List Frame} {meth : Method} {c : Code} {Q : State → Prop} {c0 : Cond} (l : Launch) (hl : l.stackTraces = false) (D : va_G) (tc : Nat → ClassId) {b L : Nat} {xs : Nat → Int32} (hL : L ≤ 3073) {A : Nat → Prop} (C : sx_C p s m [Value.ref b].toArray c code 7 RL (c0 :: sxW) D sxCl (sxT tc) sxE A) (hX : sxX b L xs A s s.heap) (t : Nat) (ht : 1 + 6 * t + 6 ≤ L) (x mo o W u : Nat) (S : Nat → Nat → Bool) (ed : Nat → Nat → Nat) (th : Int32) (f : Nat → Int64) (μ νc νm : sx_M) (hW : LW μ νc νm o (oc tc f)) (hC : CInv tc νc x W u S ed) (hM : MInv tc νm mo W u S ed th) (K : ∀ (μ' νc' νm' : sx_M) (f' : Nat → Int64) (u' : Nat) (S' : Nat → Nat → Bool) (ed' : Nat → Nat → Nat) (th' : Int32), LW μ' νc' νm' o (oc tc f') → CInv tc νc' x W u' S' ed' → MInv tc νm' mo W u' S' ed' th' → SW p l e room_1 s m [Value.ref b].toArray below meth c 7 D sxCl A (178 + 4 * (t + 1)) (90000 + 1042 * (t + 1)) Q μ' 1228 [some (.ref b), some (.ref x), some (.ref mo), some (.ref o), some (.int (nI (1 + 6 * t))), none, none] []) : SW p l e room_1 s m [Value.ref b].toArray below meth c 7 D sxCl A (178 + 4 * t) (90000 + 1042 * t) Q μ 544 [some (.ref b), some (.ref x), some (.ref mo), some (.ref o), some (.int (nI (1 + 6 * t))), none, none] [] := by
  obtain ⟨fx, hx0⟩ := ci_x hC
  obtain ⟨fm, hm0⟩ := mi_xx hM
  refine sx_aload_n C dL_law_544 rfl rfl ?_
  refine sx_callFi C hW.1 (sx_runV (As := []) (rest := []) C hW.1 (d_C_pairs l D tc x W u S ed νc hC) (ci := 2) rfl (hW.1 _ _ hx0) (sx_cwV C 0 kM_L_100 ki_C_pairs ke_C_pairs kn_C kc_C_pairs rfl rfl (by decide +kernel) ⟨Nat.le_of_ble_eq_true rfl, Nat.le_of_ble_eq_true rfl⟩) rfl rfl (Nat.le_of_ble_eq_true rfl) dL_law_545 ⟨(show 178 + 4 * t + 0 ≤ 601024 by omega), (show 90000 + 1042 * t + 0 ≤ 7293000 by omega)⟩) (fun r1 ν1 h1 hf1 => ?_)
  obtain ⟨h1, hC1⟩ := h1
  have hW1 := LW_d hW hf1
  refine sx_widen (k := 178 + 4 * (t + 1)) (n := 90000 + 1042 * (t + 1)) (by omega) (by omega) ?_
  generalize sx_ov μ νc ν1 = μ1 at hW1 ⊢
  refine sx_aload_n C dL_law_548 rfl rfl ?_
  refine sx_callFi C hW1.2.1 (sx_runV (As := []) (rest := [.int r1]) C hW1.2.1 (d_M_pairs l D tc mo W u S ed th νm hM) (ci := 3) rfl (hW1.2.1 _ _ hm0) (sx_cwV C 0 kM_L_103 ki_M_pairs ke_M_pairs kn_M kc_M_pairs rfl rfl (by decide +kernel) ⟨Nat.le_of_ble_eq_true rfl, Nat.le_of_ble_eq_true rfl⟩) rfl rfl (Nat.le_of_ble_eq_true rfl) dL_law_549 ⟨(show 178 + 4 * (t + 1) + 0 ≤ 601024 by omega), (show 90000 + 1042 * (t + 1) + 0 ≤ 7293000 by omega)⟩) (fun r2 ν2 h2 hf2 => ?_)
  obtain ⟨h2, hM2⟩ := h2
  have hW2 := LW_m hW1 hf2
  generalize sx_ov μ1 νm ν2 = μ2 at hW2 ⊢
  refine sx_eqi (r1) (h2.trans h1.symm) ?_
  refine sx_icmp_eq (tgt := 1228) C dL_law_552 (by decide) (fun c552 => ?_) (fun c552 => ?_)
  · exact K μ2 ν1 ν2 f u S ed 0 hW2 hC1 hM2
  · exact absurd rfl c552

set_option maxHeartbeats 4000000 in
set_option maxRecDepth 100000 in
/-- pair -/
theorem lc_6 {p : Program} {e : Env} {s : State} {m : MethodId} {below : List Frame} {meth : Method} {c : Code} {Q : State → Prop} {c0 : Cond} (l : Launch) (hl : l.stackTraces = false) (D : va_G) (tc : Nat → ClassId) {b L : Nat} {xs : Nat → Int32} (hL : L ≤ 3073) {A : Nat → Prop} (C : sx_C p s m [Value.ref b].toArray c code 7 RL (c0 :: sxW) D sxCl (sxT tc) sxE A) (hX : sxX b L xs A s s.heap) (t : Nat) (ht : 1 + 6 * t + 6 ≤ L) (x mo o W u : Nat) (S : Nat → Nat → Bool) (ed : Nat → Nat → Nat) (th : Int32) (f : Nat → Int64) (μ νc νm : sx_M) (hW : LW μ νc νm o (oc tc f)) (hC : CInv tc νc x W u S ed) (hM : MInv tc νm mo W u S ed th) (K : ∀ (μ' νc' νm' : sx_M) (f' : Nat → Int64) (u' : Nat) (S' : Nat → Nat → Bool) (ed' : Nat → Nat → Nat) (th' : Int32), LW μ' νc' νm' o (oc tc f') → CInv tc νc' x W u' S' ed' → MInv tc νm' mo W u' S' ed' th' → SW p l e room_1 s m [Value.ref b].toArray below meth c 7 D sxCl A (178 + 4 * (t + 1)) (90000 + 1042 * (t + 1)) Q μ' 1228 [some (.ref b), some (.ref x), some (.ref mo), some (.ref o), some (.int (nI (1 + 6 * t))), none, none] []) : SW p l e room_1 s m [Value.ref b].toArray below meth c 7 D sxCl A (178 + 4 * t) (90000 + 1042 * t) Q μ 557 [some (.ref b), some (.ref x), some (.ref mo), some (.ref o), some (.int (nI (1 + 6 * t))), none, none] [] := by
  obtain ⟨fx, hx0⟩ := ci_x hC
  obtain ⟨fm, hm0⟩ := mi_xx hM
  refine sx_aload_n C dL_law_557 rfl rfl ?_
  refine sx_aload_n C dL_law_558 rfl rfl ?_
  refine sx_iload C dL_law_559 rfl ?_
  refine sx_iconst (v := 1) C dL_law_561 (by decide) ?_
  refine sx_iadd C dL_law_562 ?_
  refine sx_eqi (nI (1 + 6 * t + 1)) (nI_add _ 1) ?_
  refine sx_sld (j := 1 + 6 * t + 1) C hX dL_law_563 rfl (by omega) (by omega) ?_
  refine sx_aload_n C dL_law_564 rfl rfl ?_
  refine sx_iload C dL_law_565 rfl ?_
  refine sx_iconst (v := 2) C dL_law_567 (by decide) ?_
  refine sx_iadd C dL_law_568 ?_
  refine sx_eqi (nI (1 + 6 * t + 2)) (nI_add _ 2) ?_
  refine sx_sld (j := 1 + 6 * t + 2) C hX dL_law_569 rfl (by omega) (by omega) ?_
  refine sx_aload_n C dL_law_570 rfl rfl ?_
  refine sx_callFi C (LW_h hW) (sx_runSW (As := [.ref x, .int (xs (1 + 6 * t + 1)), .int (xs (1 + 6 * t + 2)), .ref o]) (rest := []) C (LW_h hW) (c_L_pair l D tc hl (xs (1 + 6 * t + 1)) (xs (1 + 6 * t + 2)) x o W u S ed f νc hW.2.2.2.2.1 hC) (sx_cwSW C 4 kM_L_104 ks_L_pair kn_L kc_L_pair rfl rfl (by decide +kernel) ⟨Nat.le_of_ble_eq_true rfl, Nat.le_of_ble_eq_true rfl⟩) rfl rfl (Nat.le_of_ble_eq_true rfl) dL_law_571 ⟨(show 178 + 4 * t + 1 ≤ 601024 by omega), (show 90000 + 1042 * t + 6 ≤ 7293000 by omega)⟩) (fun r1 ν1 h1 hf1 => ?_)
  obtain ⟨νc1, g1, rfl, ho1, hC1, v1, hR1, hv1⟩ := h1
  have hW1 := LW_c hW ho1 hf1
  refine sx_widen (k := 178 + 4 * (t + 1)) (n := 90000 + 1042 * (t + 1)) (by omega) (by omega) ?_
  generalize sx_ov μ (sx_up νc o (oc tc f)) (sx_up νc1 o (oc tc g1)) = μ1 at hW1 ⊢
  refine sx_istore (lv' := [some (.ref b), some (.ref x), some (.ref mo), some (.ref o), some (.int (nI (1 + 6 * t))), some (.int r1), none]) C dL_law_574 (by decide) rfl rfl ?_
  refine sx_aload_n C dL_law_576 rfl rfl ?_
  refine sx_aload_n C dL_law_577 rfl rfl ?_
  refine sx_iload C dL_law_578 rfl ?_
  refine sx_iconst (v := 1) C dL_law_580 (by decide) ?_
  refine sx_iadd C dL_law_581 ?_
  refine sx_eqi (nI (1 + 6 * t + 1)) (nI_add _ 1) ?_
  refine sx_sld (j := 1 + 6 * t + 1) C hX dL_law_582 rfl (by omega) (by omega) ?_
  refine sx_aload_n C dL_law_583 rfl rfl ?_
  refine sx_iload C dL_law_584 rfl ?_
  refine sx_iconst (v := 2) C dL_law_586 (by decide) ?_
  refine sx_iadd C dL_law_587 ?_
  refine sx_eqi (nI (1 + 6 * t + 2)) (nI_add _ 2) ?_
  refine sx_sld (j := 1 + 6 * t + 2) C hX dL_law_588 rfl (by omega) (by omega) ?_
  refine sx_callFi C hW1.2.1 (sx_runV (As := [.int (xs (1 + 6 * t + 1)), .int (xs (1 + 6 * t + 2))]) (rest := []) C hW1.2.1 (d_M_pair l D tc (xs (1 + 6 * t + 1)) (xs (1 + 6 * t + 2)) mo W u S ed th νm hM) (ci := 3) rfl (hW1.2.1 _ _ hm0) (sx_cwV C 2 kM_L_106 ki_M_pair ke_M_pair kn_M kc_M_pair rfl rfl (by decide +kernel) ⟨Nat.le_of_ble_eq_true rfl, Nat.le_of_ble_eq_true rfl⟩) rfl rfl (Nat.le_of_ble_eq_true rfl) dL_law_589 ⟨(show 178 + 4 * (t + 1) + 0 ≤ 601024 by omega), (show 90000 + 1042 * (t + 1) + 0 ≤ 7293000 by omega)⟩) (fun r2 ν2 h2 hf2 => ?_)
  obtain ⟨k2, hR2, hM2⟩ := h2
  have hW2 := LW_m hW1 hf2
  generalize sx_ov μ1 νm ν2 = μ2 at hW2 ⊢
  obtain ⟨e1, e2⟩ := u_pair hR1 hR2
  obtain ⟨fm2, hm2⟩ := mi_xx hM2
  refine sx_istore (lv' := [some (.ref b), some (.ref x), some (.ref mo), some (.ref o), some (.int (nI (1 + 6 * t))), some (.int r1), some (.int r2)]) C dL_law_592 (by decide) rfl rfl ?_
  refine sx_aload_n C dL_law_594 rfl rfl ?_
  refine sx_callFi C hW2.2.1 (sx_runV (As := []) (rest := []) C hW2.2.1 (d_M_thrown l D tc mo W u S ed k2 ν2 hM2) (ci := 3) rfl (hW2.2.1 _ _ hm2) (sx_cwV C 0 kM_L_80 ki_M_thrown ke_M_thrown kn_M kc_M_thrown rfl rfl (by decide +kernel) ⟨Nat.le_of_ble_eq_true rfl, Nat.le_of_ble_eq_true rfl⟩) rfl rfl (Nat.le_of_ble_eq_true rfl) dL_law_595 ⟨(show 178 + 4 * (t + 1) + 0 ≤ 601024 by omega), (show 90000 + 1042 * (t + 1) + 0 ≤ 7293000 by omega)⟩) (fun r3 ν3 h3 hf3 => ?_)
  obtain ⟨h3, hM3⟩ := h3
  have hW3 := LW_m hW2 hf3
  generalize sx_ov μ2 ν2 ν3 = μ3 at hW3 ⊢
  refine sx_eqi (r1) (h3.trans e1.symm) ?_
  refine sx_iload C dL_law_598 rfl ?_
  refine sx_icmp_eq (tgt := 605) C dL_law_600 (by decide) (fun c600 => ?_) (fun c600 => ?_)
  · refine sx_iload C dL_law_605 rfl ?_
    refine sx_if_ne (tgt := 622) C dL_law_607 (by decide) (fun c607 => ?_) (fun c607 => ?_)
    · refine sx_goto (tgt := 1228) C dL_law_622 (by decide) ?_
      refine sx_weak (lv' := [some (.ref b), some (.ref x), some (.ref mo), some (.ref o), some (.int (nI (1 + 6 * t))), none, none]) (And.intro rfl (And.intro rfl (And.intro rfl (And.intro rfl (And.intro rfl trivial))))) ?_
      exact K μ3 νc1 ν3 g1 u S ed k2 hW3 hC1 hM3
    · refine sx_aload_n C dL_law_610 rfl rfl ?_
      refine sx_iconst (v := 0) C dL_law_611 (by decide) ?_
      refine sx_lald (j := 0) C dL_law_612 1 rfl hW3.2.2.1 (rfl) (by decide) (Nat.le_of_ble_eq_true rfl) ?_
      refine sx_eql (v1.toInt64) (hv1 c607) ?_
      refine sx_iload C dL_law_613 rfl ?_
      refine sx_i2l C dL_law_615 ?_
      refine sx_lcmp C dL_law_616 ?_
      refine sx_if_eq (tgt := 622) C dL_law_617 (by decide) (fun c617 => ?_) (fun c617 => ?_)
      · refine sx_goto (tgt := 1228) C dL_law_622 (by decide) ?_
        refine sx_weak (lv' := [some (.ref b), some (.ref x), some (.ref mo), some (.ref o), some (.int (nI (1 + 6 * t))), none, none]) (And.intro rfl (And.intro rfl (And.intro rfl (And.intro rfl (And.intro rfl trivial))))) ?_
        exact K μ3 νc1 ν3 g1 u S ed k2 hW3 hC1 hM3
      · exact absurd ((lg_cmp_eq _ _).mpr (by rw [e2 c607])) c617
  · exact absurd rfl c600

set_option maxHeartbeats 4000000 in
set_option maxRecDepth 100000 in
/-- alias -/
theorem lc_7 {p : Program} {e : Env} {s : State} {m : MethodId} {below : List Frame} {meth : Method} {c : Code} {Q : State → Prop} {c0 : Cond} (l : Launch) (hl : l.stackTraces = false) (D : va_G) (tc : Nat → ClassId) {b L : Nat} {xs : Nat → Int32} (hL : L ≤ 3073) {A : Nat → Prop} (C : sx_C p s m [Value.ref b].toArray c code 7 RL (c0 :: sxW) D sxCl (sxT tc) sxE A) (hX : sxX b L xs A s s.heap) (t : Nat) (ht : 1 + 6 * t + 6 ≤ L) (x mo o W u : Nat) (S : Nat → Nat → Bool) (ed : Nat → Nat → Nat) (th : Int32) (f : Nat → Int64) (μ νc νm : sx_M) (hW : LW μ νc νm o (oc tc f)) (hC : CInv tc νc x W u S ed) (hM : MInv tc νm mo W u S ed th) (K : ∀ (μ' νc' νm' : sx_M) (f' : Nat → Int64) (u' : Nat) (S' : Nat → Nat → Bool) (ed' : Nat → Nat → Nat) (th' : Int32), LW μ' νc' νm' o (oc tc f') → CInv tc νc' x W u' S' ed' → MInv tc νm' mo W u' S' ed' th' → SW p l e room_1 s m [Value.ref b].toArray below meth c 7 D sxCl A (178 + 4 * (t + 1)) (90000 + 1042 * (t + 1)) Q μ' 1228 [some (.ref b), some (.ref x), some (.ref mo), some (.ref o), some (.int (nI (1 + 6 * t))), none, none] []) : SW p l e room_1 s m [Value.ref b].toArray below meth c 7 D sxCl A (178 + 4 * t) (90000 + 1042 * t) Q μ 625 [some (.ref b), some (.ref x), some (.ref mo), some (.ref o), some (.int (nI (1 + 6 * t))), none, none] [] := by
  obtain ⟨fx, hx0⟩ := ci_x hC
  obtain ⟨fm, hm0⟩ := mi_xx hM
  refine sx_aload_n C dL_law_625 rfl rfl ?_
  refine sx_aload_n C dL_law_626 rfl rfl ?_
  refine sx_iload C dL_law_627 rfl ?_
  refine sx_iconst (v := 1) C dL_law_629 (by decide) ?_
  refine sx_iadd C dL_law_630 ?_
  refine sx_eqi (nI (1 + 6 * t + 1)) (nI_add _ 1) ?_
  refine sx_sld (j := 1 + 6 * t + 1) C hX dL_law_631 rfl (by omega) (by omega) ?_
  refine sx_aload_n C dL_law_632 rfl rfl ?_
  refine sx_iload C dL_law_633 rfl ?_
  refine sx_iconst (v := 2) C dL_law_635 (by decide) ?_
  refine sx_iadd C dL_law_636 ?_
  refine sx_eqi (nI (1 + 6 * t + 2)) (nI_add _ 2) ?_
  refine sx_sld (j := 1 + 6 * t + 2) C hX dL_law_637 rfl (by omega) (by omega) ?_
  refine sx_aload_n C dL_law_638 rfl rfl ?_
  refine sx_callFi C (LW_h hW) (sx_runSW (As := [.ref x, .int (xs (1 + 6 * t + 1)), .int (xs (1 + 6 * t + 2)), .ref o]) (rest := []) C (LW_h hW) (c_L_alias l D tc hl (xs (1 + 6 * t + 1)) (xs (1 + 6 * t + 2)) x o W u S ed f νc hW.2.2.2.2.1 hC) (sx_cwSW C 4 kM_L_107 ks_L_alias kn_L kc_L_alias rfl rfl (by decide +kernel) ⟨Nat.le_of_ble_eq_true rfl, Nat.le_of_ble_eq_true rfl⟩) rfl rfl (Nat.le_of_ble_eq_true rfl) dL_law_639 ⟨(show 178 + 4 * t + 2 ≤ 601024 by omega), (show 90000 + 1042 * t + 12 ≤ 7293000 by omega)⟩) (fun r1 ν1 h1 hf1 => ?_)
  obtain ⟨νc1, g1, rfl, ho1, hC1, v1, hR1, hv1⟩ := h1
  have hW1 := LW_c hW ho1 hf1
  refine sx_widen (k := 178 + 4 * (t + 1)) (n := 90000 + 1042 * (t + 1)) (by omega) (by omega) ?_
  generalize sx_ov μ (sx_up νc o (oc tc f)) (sx_up νc1 o (oc tc g1)) = μ1 at hW1 ⊢
  refine sx_istore (lv' := [some (.ref b), some (.ref x), some (.ref mo), some (.ref o), some (.int (nI (1 + 6 * t))), some (.int r1), none]) C dL_law_642 (by decide) rfl rfl ?_
  refine sx_aload_n C dL_law_644 rfl rfl ?_
  refine sx_aload_n C dL_law_645 rfl rfl ?_
  refine sx_iload C dL_law_646 rfl ?_
  refine sx_iconst (v := 1) C dL_law_648 (by decide) ?_
  refine sx_iadd C dL_law_649 ?_
  refine sx_eqi (nI (1 + 6 * t + 1)) (nI_add _ 1) ?_
  refine sx_sld (j := 1 + 6 * t + 1) C hX dL_law_650 rfl (by omega) (by omega) ?_
  refine sx_aload_n C dL_law_651 rfl rfl ?_
  refine sx_iload C dL_law_652 rfl ?_
  refine sx_iconst (v := 2) C dL_law_654 (by decide) ?_
  refine sx_iadd C dL_law_655 ?_
  refine sx_eqi (nI (1 + 6 * t + 2)) (nI_add _ 2) ?_
  refine sx_sld (j := 1 + 6 * t + 2) C hX dL_law_656 rfl (by omega) (by omega) ?_
  refine sx_callFi C hW1.2.1 (sx_runV (As := [.int (xs (1 + 6 * t + 1)), .int (xs (1 + 6 * t + 2))]) (rest := []) C hW1.2.1 (d_M_alias l D tc (xs (1 + 6 * t + 1)) (xs (1 + 6 * t + 2)) mo W u S ed th νm hM) (ci := 3) rfl (hW1.2.1 _ _ hm0) (sx_cwV C 2 kM_L_109 ki_M_alias ke_M_alias kn_M kc_M_alias rfl rfl (by decide +kernel) ⟨Nat.le_of_ble_eq_true rfl, Nat.le_of_ble_eq_true rfl⟩) rfl rfl (Nat.le_of_ble_eq_true rfl) dL_law_657 ⟨(show 178 + 4 * (t + 1) + 0 ≤ 601024 by omega), (show 90000 + 1042 * (t + 1) + 0 ≤ 7293000 by omega)⟩) (fun r2 ν2 h2 hf2 => ?_)
  obtain ⟨k2, hR2, hM2⟩ := h2
  have hW2 := LW_m hW1 hf2
  generalize sx_ov μ1 νm ν2 = μ2 at hW2 ⊢
  obtain ⟨e1, e2⟩ := u_als hC.1 hR1 hR2
  obtain ⟨fm2, hm2⟩ := mi_xx hM2
  refine sx_istore (lv' := [some (.ref b), some (.ref x), some (.ref mo), some (.ref o), some (.int (nI (1 + 6 * t))), some (.int r1), some (.int r2)]) C dL_law_660 (by decide) rfl rfl ?_
  refine sx_aload_n C dL_law_662 rfl rfl ?_
  refine sx_callFi C hW2.2.1 (sx_runV (As := []) (rest := []) C hW2.2.1 (d_M_thrown l D tc mo W u S ed k2 ν2 hM2) (ci := 3) rfl (hW2.2.1 _ _ hm2) (sx_cwV C 0 kM_L_80 ki_M_thrown ke_M_thrown kn_M kc_M_thrown rfl rfl (by decide +kernel) ⟨Nat.le_of_ble_eq_true rfl, Nat.le_of_ble_eq_true rfl⟩) rfl rfl (Nat.le_of_ble_eq_true rfl) dL_law_663 ⟨(show 178 + 4 * (t + 1) + 0 ≤ 601024 by omega), (show 90000 + 1042 * (t + 1) + 0 ≤ 7293000 by omega)⟩) (fun r3 ν3 h3 hf3 => ?_)
  obtain ⟨h3, hM3⟩ := h3
  have hW3 := LW_m hW2 hf3
  generalize sx_ov μ2 ν2 ν3 = μ3 at hW3 ⊢
  refine sx_eqi (r1) (h3.trans e1.symm) ?_
  refine sx_iload C dL_law_666 rfl ?_
  refine sx_icmp_eq (tgt := 673) C dL_law_668 (by decide) (fun c668 => ?_) (fun c668 => ?_)
  · refine sx_iload C dL_law_673 rfl ?_
    refine sx_if_ne (tgt := 690) C dL_law_675 (by decide) (fun c675 => ?_) (fun c675 => ?_)
    · refine sx_goto (tgt := 1228) C dL_law_690 (by decide) ?_
      refine sx_weak (lv' := [some (.ref b), some (.ref x), some (.ref mo), some (.ref o), some (.int (nI (1 + 6 * t))), none, none]) (And.intro rfl (And.intro rfl (And.intro rfl (And.intro rfl (And.intro rfl trivial))))) ?_
      exact K μ3 νc1 ν3 g1 u S ed k2 hW3 hC1 hM3
    · refine sx_aload_n C dL_law_678 rfl rfl ?_
      refine sx_iconst (v := 0) C dL_law_679 (by decide) ?_
      refine sx_lald (j := 0) C dL_law_680 1 rfl hW3.2.2.1 (rfl) (by decide) (Nat.le_of_ble_eq_true rfl) ?_
      refine sx_eql (v1.toInt64) (hv1 c675) ?_
      refine sx_iload C dL_law_681 rfl ?_
      refine sx_i2l C dL_law_683 ?_
      refine sx_lcmp C dL_law_684 ?_
      refine sx_if_eq (tgt := 690) C dL_law_685 (by decide) (fun c685 => ?_) (fun c685 => ?_)
      · refine sx_goto (tgt := 1228) C dL_law_690 (by decide) ?_
        refine sx_weak (lv' := [some (.ref b), some (.ref x), some (.ref mo), some (.ref o), some (.int (nI (1 + 6 * t))), none, none]) (And.intro rfl (And.intro rfl (And.intro rfl (And.intro rfl (And.intro rfl trivial))))) ?_
        exact K μ3 νc1 ν3 g1 u S ed k2 hW3 hC1 hM3
      · exact absurd ((lg_cmp_eq _ _).mpr (by rw [e2 c675])) c685
  · exact absurd rfl c668

set_option maxHeartbeats 4000000 in
set_option maxRecDepth 100000 in
/-- clashes -/
theorem lc_8 {p : Program} {e : Env} {s : State} {m : MethodId} {below : List Frame} {meth : Method} {c : Code} {Q : State → Prop} {c0 : Cond} (l : Launch) (hl : l.stackTraces = false) (D : va_G) (tc : Nat → ClassId) {b L : Nat} {xs : Nat → Int32} (hL : L ≤ 3073) {A : Nat → Prop} (C : sx_C p s m [Value.ref b].toArray c code 7 RL (c0 :: sxW) D sxCl (sxT tc) sxE A) (hX : sxX b L xs A s s.heap) (t : Nat) (ht : 1 + 6 * t + 6 ≤ L) (x mo o W u : Nat) (S : Nat → Nat → Bool) (ed : Nat → Nat → Nat) (th : Int32) (f : Nat → Int64) (μ νc νm : sx_M) (hW : LW μ νc νm o (oc tc f)) (hC : CInv tc νc x W u S ed) (hM : MInv tc νm mo W u S ed th) (K : ∀ (μ' νc' νm' : sx_M) (f' : Nat → Int64) (u' : Nat) (S' : Nat → Nat → Bool) (ed' : Nat → Nat → Nat) (th' : Int32), LW μ' νc' νm' o (oc tc f') → CInv tc νc' x W u' S' ed' → MInv tc νm' mo W u' S' ed' th' → SW p l e room_1 s m [Value.ref b].toArray below meth c 7 D sxCl A (178 + 4 * (t + 1)) (90000 + 1042 * (t + 1)) Q μ' 1228 [some (.ref b), some (.ref x), some (.ref mo), some (.ref o), some (.int (nI (1 + 6 * t))), none, none] []) : SW p l e room_1 s m [Value.ref b].toArray below meth c 7 D sxCl A (178 + 4 * t) (90000 + 1042 * t) Q μ 693 [some (.ref b), some (.ref x), some (.ref mo), some (.ref o), some (.int (nI (1 + 6 * t))), none, none] [] := by
  obtain ⟨fx, hx0⟩ := ci_x hC
  obtain ⟨fm, hm0⟩ := mi_xx hM
  refine sx_aload_n C dL_law_693 rfl rfl ?_
  refine sx_aload_n C dL_law_694 rfl rfl ?_
  refine sx_iload C dL_law_695 rfl ?_
  refine sx_iconst (v := 1) C dL_law_697 (by decide) ?_
  refine sx_iadd C dL_law_698 ?_
  refine sx_eqi (nI (1 + 6 * t + 1)) (nI_add _ 1) ?_
  refine sx_sld (j := 1 + 6 * t + 1) C hX dL_law_699 rfl (by omega) (by omega) ?_
  refine sx_aload_n C dL_law_700 rfl rfl ?_
  refine sx_callFi C (LW_h hW) (sx_runSW (As := [.ref x, .int (xs (1 + 6 * t + 1)), .ref o]) (rest := []) C (LW_h hW) (c_L_clashes l D tc hl (xs (1 + 6 * t + 1)) x o W u S ed f νc hW.2.2.2.2.1 hC) (sx_cwSW C 3 kM_L_110 ks_L_clashes kn_L kc_L_clashes rfl rfl (by decide +kernel) ⟨Nat.le_of_ble_eq_true rfl, Nat.le_of_ble_eq_true rfl⟩) rfl rfl (Nat.le_of_ble_eq_true rfl) dL_law_701 ⟨(show 178 + 4 * t + 1 ≤ 601024 by omega), (show 90000 + 1042 * t + 6 ≤ 7293000 by omega)⟩) (fun r1 ν1 h1 hf1 => ?_)
  obtain ⟨νc1, g1, rfl, ho1, hC1, v1, hR1, hv1⟩ := h1
  have hW1 := LW_c hW ho1 hf1
  refine sx_widen (k := 178 + 4 * (t + 1)) (n := 90000 + 1042 * (t + 1)) (by omega) (by omega) ?_
  generalize sx_ov μ (sx_up νc o (oc tc f)) (sx_up νc1 o (oc tc g1)) = μ1 at hW1 ⊢
  refine sx_istore (lv' := [some (.ref b), some (.ref x), some (.ref mo), some (.ref o), some (.int (nI (1 + 6 * t))), some (.int r1), none]) C dL_law_704 (by decide) rfl rfl ?_
  refine sx_aload_n C dL_law_706 rfl rfl ?_
  refine sx_aload_n C dL_law_707 rfl rfl ?_
  refine sx_iload C dL_law_708 rfl ?_
  refine sx_iconst (v := 1) C dL_law_710 (by decide) ?_
  refine sx_iadd C dL_law_711 ?_
  refine sx_eqi (nI (1 + 6 * t + 1)) (nI_add _ 1) ?_
  refine sx_sld (j := 1 + 6 * t + 1) C hX dL_law_712 rfl (by omega) (by omega) ?_
  refine sx_callFi C hW1.2.1 (sx_runV (As := [.int (xs (1 + 6 * t + 1))]) (rest := []) C hW1.2.1 (d_M_clashes l D tc (xs (1 + 6 * t + 1)) mo W u S ed th νm hM) (ci := 3) rfl (hW1.2.1 _ _ hm0) (sx_cwV C 1 kM_L_113 ki_M_clashes ke_M_clashes kn_M kc_M_clashes rfl rfl (by decide +kernel) ⟨Nat.le_of_ble_eq_true rfl, Nat.le_of_ble_eq_true rfl⟩) rfl rfl (Nat.le_of_ble_eq_true rfl) dL_law_713 ⟨(show 178 + 4 * (t + 1) + 0 ≤ 601024 by omega), (show 90000 + 1042 * (t + 1) + 0 ≤ 7293000 by omega)⟩) (fun r2 ν2 h2 hf2 => ?_)
  obtain ⟨k2, hR2, hM2⟩ := h2
  have hW2 := LW_m hW1 hf2
  generalize sx_ov μ1 νm ν2 = μ2 at hW2 ⊢
  obtain ⟨e1, e2⟩ := u_cls hR1 hR2
  obtain ⟨fm2, hm2⟩ := mi_xx hM2
  refine sx_istore (lv' := [some (.ref b), some (.ref x), some (.ref mo), some (.ref o), some (.int (nI (1 + 6 * t))), some (.int r1), some (.int r2)]) C dL_law_716 (by decide) rfl rfl ?_
  refine sx_aload_n C dL_law_718 rfl rfl ?_
  refine sx_callFi C hW2.2.1 (sx_runV (As := []) (rest := []) C hW2.2.1 (d_M_thrown l D tc mo W u S ed k2 ν2 hM2) (ci := 3) rfl (hW2.2.1 _ _ hm2) (sx_cwV C 0 kM_L_80 ki_M_thrown ke_M_thrown kn_M kc_M_thrown rfl rfl (by decide +kernel) ⟨Nat.le_of_ble_eq_true rfl, Nat.le_of_ble_eq_true rfl⟩) rfl rfl (Nat.le_of_ble_eq_true rfl) dL_law_719 ⟨(show 178 + 4 * (t + 1) + 0 ≤ 601024 by omega), (show 90000 + 1042 * (t + 1) + 0 ≤ 7293000 by omega)⟩) (fun r3 ν3 h3 hf3 => ?_)
  obtain ⟨h3, hM3⟩ := h3
  have hW3 := LW_m hW2 hf3
  generalize sx_ov μ2 ν2 ν3 = μ3 at hW3 ⊢
  refine sx_eqi (r1) (h3.trans e1.symm) ?_
  refine sx_iload C dL_law_722 rfl ?_
  refine sx_icmp_eq (tgt := 729) C dL_law_724 (by decide) (fun c724 => ?_) (fun c724 => ?_)
  · refine sx_iload C dL_law_729 rfl ?_
    refine sx_if_ne (tgt := 746) C dL_law_731 (by decide) (fun c731 => ?_) (fun c731 => ?_)
    · refine sx_goto (tgt := 1228) C dL_law_746 (by decide) ?_
      refine sx_weak (lv' := [some (.ref b), some (.ref x), some (.ref mo), some (.ref o), some (.int (nI (1 + 6 * t))), none, none]) (And.intro rfl (And.intro rfl (And.intro rfl (And.intro rfl (And.intro rfl trivial))))) ?_
      exact K μ3 νc1 ν3 g1 u S ed k2 hW3 hC1 hM3
    · refine sx_aload_n C dL_law_734 rfl rfl ?_
      refine sx_iconst (v := 0) C dL_law_735 (by decide) ?_
      refine sx_lald (j := 0) C dL_law_736 1 rfl hW3.2.2.1 (rfl) (by decide) (Nat.le_of_ble_eq_true rfl) ?_
      refine sx_eql (v1.toInt64) (hv1 c731) ?_
      refine sx_iload C dL_law_737 rfl ?_
      refine sx_i2l C dL_law_739 ?_
      refine sx_lcmp C dL_law_740 ?_
      refine sx_if_eq (tgt := 746) C dL_law_741 (by decide) (fun c741 => ?_) (fun c741 => ?_)
      · refine sx_goto (tgt := 1228) C dL_law_746 (by decide) ?_
        refine sx_weak (lv' := [some (.ref b), some (.ref x), some (.ref mo), some (.ref o), some (.int (nI (1 + 6 * t))), none, none]) (And.intro rfl (And.intro rfl (And.intro rfl (And.intro rfl (And.intro rfl trivial))))) ?_
        exact K μ3 νc1 ν3 g1 u S ed k2 hW3 hC1 hM3
      · exact absurd ((lg_cmp_eq _ _).mpr (by rw [e2 c731])) c741
  · exact absurd rfl c724

set_option maxHeartbeats 4000000 in
set_option maxRecDepth 100000 in
/-- worst -/
theorem lc_9 {p : Program} {e : Env} {s : State} {m : MethodId} {below : List Frame} {meth : Method} {c : Code} {Q : State → Prop} {c0 : Cond} (l : Launch) (hl : l.stackTraces = false) (D : va_G) (tc : Nat → ClassId) {b L : Nat} {xs : Nat → Int32} (hL : L ≤ 3073) {A : Nat → Prop} (C : sx_C p s m [Value.ref b].toArray c code 7 RL (c0 :: sxW) D sxCl (sxT tc) sxE A) (hX : sxX b L xs A s s.heap) (t : Nat) (ht : 1 + 6 * t + 6 ≤ L) (x mo o W u : Nat) (S : Nat → Nat → Bool) (ed : Nat → Nat → Nat) (th : Int32) (f : Nat → Int64) (μ νc νm : sx_M) (hW : LW μ νc νm o (oc tc f)) (hC : CInv tc νc x W u S ed) (hM : MInv tc νm mo W u S ed th) (K : ∀ (μ' νc' νm' : sx_M) (f' : Nat → Int64) (u' : Nat) (S' : Nat → Nat → Bool) (ed' : Nat → Nat → Nat) (th' : Int32), LW μ' νc' νm' o (oc tc f') → CInv tc νc' x W u' S' ed' → MInv tc νm' mo W u' S' ed' th' → SW p l e room_1 s m [Value.ref b].toArray below meth c 7 D sxCl A (178 + 4 * (t + 1)) (90000 + 1042 * (t + 1)) Q μ' 1228 [some (.ref b), some (.ref x), some (.ref mo), some (.ref o), some (.int (nI (1 + 6 * t))), none, none] []) : SW p l e room_1 s m [Value.ref b].toArray below meth c 7 D sxCl A (178 + 4 * t) (90000 + 1042 * t) Q μ 749 [some (.ref b), some (.ref x), some (.ref mo), some (.ref o), some (.int (nI (1 + 6 * t))), none, none] [] := by
  obtain ⟨fx, hx0⟩ := ci_x hC
  obtain ⟨fm, hm0⟩ := mi_xx hM
  refine sx_aload_n C dL_law_749 rfl rfl ?_
  refine sx_callFi C hW.1 (sx_runV (As := []) (rest := []) C hW.1 (d_C_worst l D tc x W u S ed νc hC) (ci := 2) rfl (hW.1 _ _ hx0) (sx_cwV C 0 kM_L_114 ki_C_worst ke_C_worst kn_C kc_C_worst rfl rfl (by decide +kernel) ⟨Nat.le_of_ble_eq_true rfl, Nat.le_of_ble_eq_true rfl⟩) rfl rfl (Nat.le_of_ble_eq_true rfl) dL_law_750 ⟨(show 178 + 4 * t + 0 ≤ 601024 by omega), (show 90000 + 1042 * t + 0 ≤ 7293000 by omega)⟩) (fun r1 ν1 h1 hf1 => ?_)
  obtain ⟨⟨t1, w1, h1⟩, hC1⟩ := h1
  have hW1 := LW_d hW hf1
  refine sx_widen (k := 178 + 4 * (t + 1)) (n := 90000 + 1042 * (t + 1)) (by omega) (by omega) ?_
  generalize sx_ov μ νc ν1 = μ1 at hW1 ⊢
  refine sx_aload_n C dL_law_753 rfl rfl ?_
  refine sx_callFi C hW1.2.1 (sx_runV (As := []) (rest := [.int r1]) C hW1.2.1 (d_M_worst l D tc mo W u S ed th νm hM) (ci := 3) rfl (hW1.2.1 _ _ hm0) (sx_cwV C 0 kM_L_117 ki_M_worst ke_M_worst kn_M kc_M_worst rfl rfl (by decide +kernel) ⟨Nat.le_of_ble_eq_true rfl, Nat.le_of_ble_eq_true rfl⟩) rfl rfl (Nat.le_of_ble_eq_true rfl) dL_law_754 ⟨(show 178 + 4 * (t + 1) + 0 ≤ 601024 by omega), (show 90000 + 1042 * (t + 1) + 0 ≤ 7293000 by omega)⟩) (fun r2 ν2 h2 hf2 => ?_)
  obtain ⟨⟨t2, w2, h2⟩, hM2⟩ := h2
  have ht12 := ws_un w1 w2
  subst ht12
  have hW2 := LW_m hW1 hf2
  generalize sx_ov μ1 νm ν2 = μ2 at hW2 ⊢
  refine sx_eqi (r1) (h2.trans h1.symm) ?_
  refine sx_icmp_eq (tgt := 1228) C dL_law_757 (by decide) (fun c757 => ?_) (fun c757 => ?_)
  · exact K μ2 ν1 ν2 f u S ed 0 hW2 hC1 hM2
  · exact absurd rfl c757

set_option maxHeartbeats 4000000 in
set_option maxRecDepth 100000 in
/-- meaningless -/
theorem lc_10 {p : Program} {e : Env} {s : State} {m : MethodId} {below : List Frame} {meth : Method} {c : Code} {Q : State → Prop} {c0 : Cond} (l : Launch) (hl : l.stackTraces = false) (D : va_G) (tc : Nat → ClassId) {b L : Nat} {xs : Nat → Int32} (hL : L ≤ 3073) {A : Nat → Prop} (C : sx_C p s m [Value.ref b].toArray c code 7 RL (c0 :: sxW) D sxCl (sxT tc) sxE A) (hX : sxX b L xs A s s.heap) (t : Nat) (ht : 1 + 6 * t + 6 ≤ L) (x mo o W u : Nat) (S : Nat → Nat → Bool) (ed : Nat → Nat → Nat) (th : Int32) (f : Nat → Int64) (μ νc νm : sx_M) (hW : LW μ νc νm o (oc tc f)) (hC : CInv tc νc x W u S ed) (hM : MInv tc νm mo W u S ed th) (K : ∀ (μ' νc' νm' : sx_M) (f' : Nat → Int64) (u' : Nat) (S' : Nat → Nat → Bool) (ed' : Nat → Nat → Nat) (th' : Int32), LW μ' νc' νm' o (oc tc f') → CInv tc νc' x W u' S' ed' → MInv tc νm' mo W u' S' ed' th' → SW p l e room_1 s m [Value.ref b].toArray below meth c 7 D sxCl A (178 + 4 * (t + 1)) (90000 + 1042 * (t + 1)) Q μ' 1228 [some (.ref b), some (.ref x), some (.ref mo), some (.ref o), some (.int (nI (1 + 6 * t))), none, none] []) : SW p l e room_1 s m [Value.ref b].toArray below meth c 7 D sxCl A (178 + 4 * t) (90000 + 1042 * t) Q μ 762 [some (.ref b), some (.ref x), some (.ref mo), some (.ref o), some (.int (nI (1 + 6 * t))), none, none] [] := by
  obtain ⟨fx, hx0⟩ := ci_x hC
  obtain ⟨fm, hm0⟩ := mi_xx hM
  refine sx_aload_n C dL_law_762 rfl rfl ?_
  refine sx_aload_n C dL_law_763 rfl rfl ?_
  refine sx_iload C dL_law_764 rfl ?_
  refine sx_iconst (v := 1) C dL_law_766 (by decide) ?_
  refine sx_iadd C dL_law_767 ?_
  refine sx_eqi (nI (1 + 6 * t + 1)) (nI_add _ 1) ?_
  refine sx_sld (j := 1 + 6 * t + 1) C hX dL_law_768 rfl (by omega) (by omega) ?_
  refine sx_aload_n C dL_law_769 rfl rfl ?_
  refine sx_callFi C (LW_h hW) (sx_runSW (As := [.ref x, .int (xs (1 + 6 * t + 1)), .ref o]) (rest := []) C (LW_h hW) (c_L_meaningless l D tc hl (xs (1 + 6 * t + 1)) x o W u S ed f νc hW.2.2.2.2.1 hC) (sx_cwSW C 3 kM_L_118 ks_L_meaningless kn_L kc_L_meaningless rfl rfl (by decide +kernel) ⟨Nat.le_of_ble_eq_true rfl, Nat.le_of_ble_eq_true rfl⟩) rfl rfl (Nat.le_of_ble_eq_true rfl) dL_law_770 ⟨(show 178 + 4 * t + 1 ≤ 601024 by omega), (show 90000 + 1042 * t + 6 ≤ 7293000 by omega)⟩) (fun r1 ν1 h1 hf1 => ?_)
  obtain ⟨νc1, g1, rfl, ho1, hC1, v1, hR1, hv1⟩ := h1
  have hW1 := LW_c hW ho1 hf1
  refine sx_widen (k := 178 + 4 * (t + 1)) (n := 90000 + 1042 * (t + 1)) (by omega) (by omega) ?_
  generalize sx_ov μ (sx_up νc o (oc tc f)) (sx_up νc1 o (oc tc g1)) = μ1 at hW1 ⊢
  refine sx_istore (lv' := [some (.ref b), some (.ref x), some (.ref mo), some (.ref o), some (.int (nI (1 + 6 * t))), some (.int r1), none]) C dL_law_773 (by decide) rfl rfl ?_
  refine sx_aload_n C dL_law_775 rfl rfl ?_
  refine sx_aload_n C dL_law_776 rfl rfl ?_
  refine sx_iload C dL_law_777 rfl ?_
  refine sx_iconst (v := 1) C dL_law_779 (by decide) ?_
  refine sx_iadd C dL_law_780 ?_
  refine sx_eqi (nI (1 + 6 * t + 1)) (nI_add _ 1) ?_
  refine sx_sld (j := 1 + 6 * t + 1) C hX dL_law_781 rfl (by omega) (by omega) ?_
  refine sx_callFi C hW1.2.1 (sx_runV (As := [.int (xs (1 + 6 * t + 1))]) (rest := []) C hW1.2.1 (d_M_meaningless l D tc (xs (1 + 6 * t + 1)) mo W u S ed th νm hM) (ci := 3) rfl (hW1.2.1 _ _ hm0) (sx_cwV C 1 kM_L_120 ki_M_meaningless ke_M_meaningless kn_M kc_M_meaningless rfl rfl (by decide +kernel) ⟨Nat.le_of_ble_eq_true rfl, Nat.le_of_ble_eq_true rfl⟩) rfl rfl (Nat.le_of_ble_eq_true rfl) dL_law_782 ⟨(show 178 + 4 * (t + 1) + 0 ≤ 601024 by omega), (show 90000 + 1042 * (t + 1) + 0 ≤ 7293000 by omega)⟩) (fun r2 ν2 h2 hf2 => ?_)
  obtain ⟨k2, hR2, hM2⟩ := h2
  have hW2 := LW_m hW1 hf2
  generalize sx_ov μ1 νm ν2 = μ2 at hW2 ⊢
  obtain ⟨e1, e2⟩ := u_mls hC.1 hR1 hR2
  obtain ⟨fm2, hm2⟩ := mi_xx hM2
  refine sx_istore (lv' := [some (.ref b), some (.ref x), some (.ref mo), some (.ref o), some (.int (nI (1 + 6 * t))), some (.int r1), some (.int r2)]) C dL_law_785 (by decide) rfl rfl ?_
  refine sx_aload_n C dL_law_787 rfl rfl ?_
  refine sx_callFi C hW2.2.1 (sx_runV (As := []) (rest := []) C hW2.2.1 (d_M_thrown l D tc mo W u S ed k2 ν2 hM2) (ci := 3) rfl (hW2.2.1 _ _ hm2) (sx_cwV C 0 kM_L_80 ki_M_thrown ke_M_thrown kn_M kc_M_thrown rfl rfl (by decide +kernel) ⟨Nat.le_of_ble_eq_true rfl, Nat.le_of_ble_eq_true rfl⟩) rfl rfl (Nat.le_of_ble_eq_true rfl) dL_law_788 ⟨(show 178 + 4 * (t + 1) + 0 ≤ 601024 by omega), (show 90000 + 1042 * (t + 1) + 0 ≤ 7293000 by omega)⟩) (fun r3 ν3 h3 hf3 => ?_)
  obtain ⟨h3, hM3⟩ := h3
  have hW3 := LW_m hW2 hf3
  generalize sx_ov μ2 ν2 ν3 = μ3 at hW3 ⊢
  refine sx_eqi (r1) (h3.trans e1.symm) ?_
  refine sx_iload C dL_law_791 rfl ?_
  refine sx_icmp_eq (tgt := 798) C dL_law_793 (by decide) (fun c793 => ?_) (fun c793 => ?_)
  · refine sx_iload C dL_law_798 rfl ?_
    refine sx_if_ne (tgt := 815) C dL_law_800 (by decide) (fun c800 => ?_) (fun c800 => ?_)
    · refine sx_goto (tgt := 1228) C dL_law_815 (by decide) ?_
      refine sx_weak (lv' := [some (.ref b), some (.ref x), some (.ref mo), some (.ref o), some (.int (nI (1 + 6 * t))), none, none]) (And.intro rfl (And.intro rfl (And.intro rfl (And.intro rfl (And.intro rfl trivial))))) ?_
      exact K μ3 νc1 ν3 g1 u S ed k2 hW3 hC1 hM3
    · refine sx_aload_n C dL_law_803 rfl rfl ?_
      refine sx_iconst (v := 0) C dL_law_804 (by decide) ?_
      refine sx_lald (j := 0) C dL_law_805 1 rfl hW3.2.2.1 (rfl) (by decide) (Nat.le_of_ble_eq_true rfl) ?_
      refine sx_eql (v1.toInt64) (hv1 c800) ?_
      refine sx_iload C dL_law_806 rfl ?_
      refine sx_i2l C dL_law_808 ?_
      refine sx_lcmp C dL_law_809 ?_
      refine sx_if_eq (tgt := 815) C dL_law_810 (by decide) (fun c810 => ?_) (fun c810 => ?_)
      · refine sx_goto (tgt := 1228) C dL_law_815 (by decide) ?_
        refine sx_weak (lv' := [some (.ref b), some (.ref x), some (.ref mo), some (.ref o), some (.int (nI (1 + 6 * t))), none, none]) (And.intro rfl (And.intro rfl (And.intro rfl (And.intro rfl (And.intro rfl trivial))))) ?_
        exact K μ3 νc1 ν3 g1 u S ed k2 hW3 hC1 hM3
      · exact absurd ((lg_cmp_eq _ _).mpr (by rw [e2 c800])) c810
  · exact absurd rfl c793

set_option maxHeartbeats 4000000 in
set_option maxRecDepth 100000 in
/-- idle -/
theorem lc_11 {p : Program} {e : Env} {s : State} {m : MethodId} {below : List Frame} {meth : Method} {c : Code} {Q : State → Prop} {c0 : Cond} (l : Launch) (hl : l.stackTraces = false) (D : va_G) (tc : Nat → ClassId) {b L : Nat} {xs : Nat → Int32} (hL : L ≤ 3073) {A : Nat → Prop} (C : sx_C p s m [Value.ref b].toArray c code 7 RL (c0 :: sxW) D sxCl (sxT tc) sxE A) (hX : sxX b L xs A s s.heap) (t : Nat) (ht : 1 + 6 * t + 6 ≤ L) (x mo o W u : Nat) (S : Nat → Nat → Bool) (ed : Nat → Nat → Nat) (th : Int32) (f : Nat → Int64) (μ νc νm : sx_M) (hW : LW μ νc νm o (oc tc f)) (hC : CInv tc νc x W u S ed) (hM : MInv tc νm mo W u S ed th) (K : ∀ (μ' νc' νm' : sx_M) (f' : Nat → Int64) (u' : Nat) (S' : Nat → Nat → Bool) (ed' : Nat → Nat → Nat) (th' : Int32), LW μ' νc' νm' o (oc tc f') → CInv tc νc' x W u' S' ed' → MInv tc νm' mo W u' S' ed' th' → SW p l e room_1 s m [Value.ref b].toArray below meth c 7 D sxCl A (178 + 4 * (t + 1)) (90000 + 1042 * (t + 1)) Q μ' 1228 [some (.ref b), some (.ref x), some (.ref mo), some (.ref o), some (.int (nI (1 + 6 * t))), none, none] []) : SW p l e room_1 s m [Value.ref b].toArray below meth c 7 D sxCl A (178 + 4 * t) (90000 + 1042 * t) Q μ 818 [some (.ref b), some (.ref x), some (.ref mo), some (.ref o), some (.int (nI (1 + 6 * t))), none, none] [] := by
  obtain ⟨fx, hx0⟩ := ci_x hC
  obtain ⟨fm, hm0⟩ := mi_xx hM
  refine sx_aload_n C dL_law_818 rfl rfl ?_
  refine sx_aload_n C dL_law_819 rfl rfl ?_
  refine sx_iload C dL_law_820 rfl ?_
  refine sx_iconst (v := 1) C dL_law_822 (by decide) ?_
  refine sx_iadd C dL_law_823 ?_
  refine sx_eqi (nI (1 + 6 * t + 1)) (nI_add _ 1) ?_
  refine sx_sld (j := 1 + 6 * t + 1) C hX dL_law_824 rfl (by omega) (by omega) ?_
  refine sx_aload_n C dL_law_825 rfl rfl ?_
  refine sx_iload C dL_law_826 rfl ?_
  refine sx_iconst (v := 2) C dL_law_828 (by decide) ?_
  refine sx_iadd C dL_law_829 ?_
  refine sx_eqi (nI (1 + 6 * t + 2)) (nI_add _ 2) ?_
  refine sx_sld (j := 1 + 6 * t + 2) C hX dL_law_830 rfl (by omega) (by omega) ?_
  refine sx_aload_n C dL_law_831 rfl rfl ?_
  refine sx_callFi C (LW_h hW) (sx_runSW (As := [.ref x, .int (xs (1 + 6 * t + 1)), .int (xs (1 + 6 * t + 2)), .ref o]) (rest := []) C (LW_h hW) (c_L_idle l D tc hl (xs (1 + 6 * t + 1)) (xs (1 + 6 * t + 2)) x o W u S ed f νc hW.2.2.2.2.1 hC) (sx_cwSW C 4 kM_L_121 ks_L_idle kn_L kc_L_idle rfl rfl (by decide +kernel) ⟨Nat.le_of_ble_eq_true rfl, Nat.le_of_ble_eq_true rfl⟩) rfl rfl (Nat.le_of_ble_eq_true rfl) dL_law_832 ⟨(show 178 + 4 * t + 2 ≤ 601024 by omega), (show 90000 + 1042 * t + 12 ≤ 7293000 by omega)⟩) (fun r1 ν1 h1 hf1 => ?_)
  obtain ⟨νc1, g1, rfl, ho1, hC1, v1, hR1, hv1⟩ := h1
  have hW1 := LW_c hW ho1 hf1
  refine sx_widen (k := 178 + 4 * (t + 1)) (n := 90000 + 1042 * (t + 1)) (by omega) (by omega) ?_
  generalize sx_ov μ (sx_up νc o (oc tc f)) (sx_up νc1 o (oc tc g1)) = μ1 at hW1 ⊢
  refine sx_istore (lv' := [some (.ref b), some (.ref x), some (.ref mo), some (.ref o), some (.int (nI (1 + 6 * t))), some (.int r1), none]) C dL_law_835 (by decide) rfl rfl ?_
  refine sx_aload_n C dL_law_837 rfl rfl ?_
  refine sx_aload_n C dL_law_838 rfl rfl ?_
  refine sx_iload C dL_law_839 rfl ?_
  refine sx_iconst (v := 1) C dL_law_841 (by decide) ?_
  refine sx_iadd C dL_law_842 ?_
  refine sx_eqi (nI (1 + 6 * t + 1)) (nI_add _ 1) ?_
  refine sx_sld (j := 1 + 6 * t + 1) C hX dL_law_843 rfl (by omega) (by omega) ?_
  refine sx_aload_n C dL_law_844 rfl rfl ?_
  refine sx_iload C dL_law_845 rfl ?_
  refine sx_iconst (v := 2) C dL_law_847 (by decide) ?_
  refine sx_iadd C dL_law_848 ?_
  refine sx_eqi (nI (1 + 6 * t + 2)) (nI_add _ 2) ?_
  refine sx_sld (j := 1 + 6 * t + 2) C hX dL_law_849 rfl (by omega) (by omega) ?_
  refine sx_callFi C hW1.2.1 (sx_runV (As := [.int (xs (1 + 6 * t + 1)), .int (xs (1 + 6 * t + 2))]) (rest := []) C hW1.2.1 (d_M_idle l D tc (xs (1 + 6 * t + 1)) (xs (1 + 6 * t + 2)) mo W u S ed th νm hM) (ci := 3) rfl (hW1.2.1 _ _ hm0) (sx_cwV C 2 kM_L_123 ki_M_idle ke_M_idle kn_M kc_M_idle rfl rfl (by decide +kernel) ⟨Nat.le_of_ble_eq_true rfl, Nat.le_of_ble_eq_true rfl⟩) rfl rfl (Nat.le_of_ble_eq_true rfl) dL_law_850 ⟨(show 178 + 4 * (t + 1) + 0 ≤ 601024 by omega), (show 90000 + 1042 * (t + 1) + 0 ≤ 7293000 by omega)⟩) (fun r2 ν2 h2 hf2 => ?_)
  obtain ⟨k2, hR2, hM2⟩ := h2
  have hW2 := LW_m hW1 hf2
  generalize sx_ov μ1 νm ν2 = μ2 at hW2 ⊢
  obtain ⟨e1, e2⟩ := u_idl hC.1 hR1 hR2
  obtain ⟨fm2, hm2⟩ := mi_xx hM2
  refine sx_istore (lv' := [some (.ref b), some (.ref x), some (.ref mo), some (.ref o), some (.int (nI (1 + 6 * t))), some (.int r1), some (.int r2)]) C dL_law_853 (by decide) rfl rfl ?_
  refine sx_aload_n C dL_law_855 rfl rfl ?_
  refine sx_callFi C hW2.2.1 (sx_runV (As := []) (rest := []) C hW2.2.1 (d_M_thrown l D tc mo W u S ed k2 ν2 hM2) (ci := 3) rfl (hW2.2.1 _ _ hm2) (sx_cwV C 0 kM_L_80 ki_M_thrown ke_M_thrown kn_M kc_M_thrown rfl rfl (by decide +kernel) ⟨Nat.le_of_ble_eq_true rfl, Nat.le_of_ble_eq_true rfl⟩) rfl rfl (Nat.le_of_ble_eq_true rfl) dL_law_856 ⟨(show 178 + 4 * (t + 1) + 0 ≤ 601024 by omega), (show 90000 + 1042 * (t + 1) + 0 ≤ 7293000 by omega)⟩) (fun r3 ν3 h3 hf3 => ?_)
  obtain ⟨h3, hM3⟩ := h3
  have hW3 := LW_m hW2 hf3
  generalize sx_ov μ2 ν2 ν3 = μ3 at hW3 ⊢
  refine sx_eqi (r1) (h3.trans e1.symm) ?_
  refine sx_iload C dL_law_859 rfl ?_
  refine sx_icmp_eq (tgt := 866) C dL_law_861 (by decide) (fun c861 => ?_) (fun c861 => ?_)
  · refine sx_iload C dL_law_866 rfl ?_
    refine sx_if_ne (tgt := 883) C dL_law_868 (by decide) (fun c868 => ?_) (fun c868 => ?_)
    · refine sx_goto (tgt := 1228) C dL_law_883 (by decide) ?_
      refine sx_weak (lv' := [some (.ref b), some (.ref x), some (.ref mo), some (.ref o), some (.int (nI (1 + 6 * t))), none, none]) (And.intro rfl (And.intro rfl (And.intro rfl (And.intro rfl (And.intro rfl trivial))))) ?_
      exact K μ3 νc1 ν3 g1 u S ed k2 hW3 hC1 hM3
    · refine sx_aload_n C dL_law_871 rfl rfl ?_
      refine sx_iconst (v := 0) C dL_law_872 (by decide) ?_
      refine sx_lald (j := 0) C dL_law_873 1 rfl hW3.2.2.1 (rfl) (by decide) (Nat.le_of_ble_eq_true rfl) ?_
      refine sx_eql (v1.toInt64) (hv1 c868) ?_
      refine sx_iload C dL_law_874 rfl ?_
      refine sx_i2l C dL_law_876 ?_
      refine sx_lcmp C dL_law_877 ?_
      refine sx_if_eq (tgt := 883) C dL_law_878 (by decide) (fun c878 => ?_) (fun c878 => ?_)
      · refine sx_goto (tgt := 1228) C dL_law_883 (by decide) ?_
        refine sx_weak (lv' := [some (.ref b), some (.ref x), some (.ref mo), some (.ref o), some (.int (nI (1 + 6 * t))), none, none]) (And.intro rfl (And.intro rfl (And.intro rfl (And.intro rfl (And.intro rfl trivial))))) ?_
        exact K μ3 νc1 ν3 g1 u S ed k2 hW3 hC1 hM3
      · exact absurd ((lg_cmp_eq _ _).mpr (by rw [e2 c868])) c878
  · exact absurd rfl c861

set_option maxHeartbeats 4000000 in
set_option maxRecDepth 100000 in
/-- count -/
theorem lc_12 {p : Program} {e : Env} {s : State} {m : MethodId} {below : List Frame} {meth : Method} {c : Code} {Q : State → Prop} {c0 : Cond} (l : Launch) (hl : l.stackTraces = false) (D : va_G) (tc : Nat → ClassId) {b L : Nat} {xs : Nat → Int32} (hL : L ≤ 3073) {A : Nat → Prop} (C : sx_C p s m [Value.ref b].toArray c code 7 RL (c0 :: sxW) D sxCl (sxT tc) sxE A) (hX : sxX b L xs A s s.heap) (t : Nat) (ht : 1 + 6 * t + 6 ≤ L) (x mo o W u : Nat) (S : Nat → Nat → Bool) (ed : Nat → Nat → Nat) (th : Int32) (f : Nat → Int64) (μ νc νm : sx_M) (hW : LW μ νc νm o (oc tc f)) (hC : CInv tc νc x W u S ed) (hM : MInv tc νm mo W u S ed th) (K : ∀ (μ' νc' νm' : sx_M) (f' : Nat → Int64) (u' : Nat) (S' : Nat → Nat → Bool) (ed' : Nat → Nat → Nat) (th' : Int32), LW μ' νc' νm' o (oc tc f') → CInv tc νc' x W u' S' ed' → MInv tc νm' mo W u' S' ed' th' → SW p l e room_1 s m [Value.ref b].toArray below meth c 7 D sxCl A (178 + 4 * (t + 1)) (90000 + 1042 * (t + 1)) Q μ' 1228 [some (.ref b), some (.ref x), some (.ref mo), some (.ref o), some (.int (nI (1 + 6 * t))), none, none] []) : SW p l e room_1 s m [Value.ref b].toArray below meth c 7 D sxCl A (178 + 4 * t) (90000 + 1042 * t) Q μ 886 [some (.ref b), some (.ref x), some (.ref mo), some (.ref o), some (.int (nI (1 + 6 * t))), none, none] [] := by
  obtain ⟨fx, hx0⟩ := ci_x hC
  obtain ⟨fm, hm0⟩ := mi_xx hM
  refine sx_aload_n C dL_law_886 rfl rfl ?_
  refine sx_aload_n C dL_law_887 rfl rfl ?_
  refine sx_iload C dL_law_888 rfl ?_
  refine sx_iconst (v := 1) C dL_law_890 (by decide) ?_
  refine sx_iadd C dL_law_891 ?_
  refine sx_eqi (nI (1 + 6 * t + 1)) (nI_add _ 1) ?_
  refine sx_sld (j := 1 + 6 * t + 1) C hX dL_law_892 rfl (by omega) (by omega) ?_
  refine sx_aload_n C dL_law_893 rfl rfl ?_
  refine sx_callFi C (LW_h hW) (sx_runSW (As := [.ref x, .int (xs (1 + 6 * t + 1)), .ref o]) (rest := []) C (LW_h hW) (c_L_count l D tc hl (xs (1 + 6 * t + 1)) x o W u S ed f νc hW.2.2.2.2.1 hC) (sx_cwSW C 3 kM_L_124 ks_L_count kn_L kc_L_count rfl rfl (by decide +kernel) ⟨Nat.le_of_ble_eq_true rfl, Nat.le_of_ble_eq_true rfl⟩) rfl rfl (Nat.le_of_ble_eq_true rfl) dL_law_894 ⟨(show 178 + 4 * t + 1 ≤ 601024 by omega), (show 90000 + 1042 * t + 6 ≤ 7293000 by omega)⟩) (fun r1 ν1 h1 hf1 => ?_)
  obtain ⟨νc1, g1, rfl, ho1, hC1, v1, hR1, hv1⟩ := h1
  have hW1 := LW_c hW ho1 hf1
  refine sx_widen (k := 178 + 4 * (t + 1)) (n := 90000 + 1042 * (t + 1)) (by omega) (by omega) ?_
  generalize sx_ov μ (sx_up νc o (oc tc f)) (sx_up νc1 o (oc tc g1)) = μ1 at hW1 ⊢
  refine sx_istore (lv' := [some (.ref b), some (.ref x), some (.ref mo), some (.ref o), some (.int (nI (1 + 6 * t))), some (.int r1), none]) C dL_law_897 (by decide) rfl rfl ?_
  refine sx_aload_n C dL_law_899 rfl rfl ?_
  refine sx_aload_n C dL_law_900 rfl rfl ?_
  refine sx_iload C dL_law_901 rfl ?_
  refine sx_iconst (v := 1) C dL_law_903 (by decide) ?_
  refine sx_iadd C dL_law_904 ?_
  refine sx_eqi (nI (1 + 6 * t + 1)) (nI_add _ 1) ?_
  refine sx_sld (j := 1 + 6 * t + 1) C hX dL_law_905 rfl (by omega) (by omega) ?_
  refine sx_callFi C hW1.2.1 (sx_runV (As := [.int (xs (1 + 6 * t + 1))]) (rest := []) C hW1.2.1 (d_M_count l D tc (xs (1 + 6 * t + 1)) mo W u S ed th νm hM) (ci := 3) rfl (hW1.2.1 _ _ hm0) (sx_cwV C 1 kM_L_126 ki_M_count ke_M_count kn_M kc_M_count rfl rfl (by decide +kernel) ⟨Nat.le_of_ble_eq_true rfl, Nat.le_of_ble_eq_true rfl⟩) rfl rfl (Nat.le_of_ble_eq_true rfl) dL_law_906 ⟨(show 178 + 4 * (t + 1) + 0 ≤ 601024 by omega), (show 90000 + 1042 * (t + 1) + 0 ≤ 7293000 by omega)⟩) (fun r2 ν2 h2 hf2 => ?_)
  obtain ⟨k2, hR2, hM2⟩ := h2
  have hW2 := LW_m hW1 hf2
  generalize sx_ov μ1 νm ν2 = μ2 at hW2 ⊢
  obtain ⟨e1, e2⟩ := u_cnt hC.1 hR1 hR2
  obtain ⟨fm2, hm2⟩ := mi_xx hM2
  refine sx_istore (lv' := [some (.ref b), some (.ref x), some (.ref mo), some (.ref o), some (.int (nI (1 + 6 * t))), some (.int r1), some (.int r2)]) C dL_law_909 (by decide) rfl rfl ?_
  refine sx_aload_n C dL_law_911 rfl rfl ?_
  refine sx_callFi C hW2.2.1 (sx_runV (As := []) (rest := []) C hW2.2.1 (d_M_thrown l D tc mo W u S ed k2 ν2 hM2) (ci := 3) rfl (hW2.2.1 _ _ hm2) (sx_cwV C 0 kM_L_80 ki_M_thrown ke_M_thrown kn_M kc_M_thrown rfl rfl (by decide +kernel) ⟨Nat.le_of_ble_eq_true rfl, Nat.le_of_ble_eq_true rfl⟩) rfl rfl (Nat.le_of_ble_eq_true rfl) dL_law_912 ⟨(show 178 + 4 * (t + 1) + 0 ≤ 601024 by omega), (show 90000 + 1042 * (t + 1) + 0 ≤ 7293000 by omega)⟩) (fun r3 ν3 h3 hf3 => ?_)
  obtain ⟨h3, hM3⟩ := h3
  have hW3 := LW_m hW2 hf3
  generalize sx_ov μ2 ν2 ν3 = μ3 at hW3 ⊢
  refine sx_eqi (r1) (h3.trans e1.symm) ?_
  refine sx_iload C dL_law_915 rfl ?_
  refine sx_icmp_eq (tgt := 922) C dL_law_917 (by decide) (fun c917 => ?_) (fun c917 => ?_)
  · refine sx_iload C dL_law_922 rfl ?_
    refine sx_if_ne (tgt := 939) C dL_law_924 (by decide) (fun c924 => ?_) (fun c924 => ?_)
    · refine sx_goto (tgt := 1228) C dL_law_939 (by decide) ?_
      refine sx_weak (lv' := [some (.ref b), some (.ref x), some (.ref mo), some (.ref o), some (.int (nI (1 + 6 * t))), none, none]) (And.intro rfl (And.intro rfl (And.intro rfl (And.intro rfl (And.intro rfl trivial))))) ?_
      exact K μ3 νc1 ν3 g1 u S ed k2 hW3 hC1 hM3
    · refine sx_aload_n C dL_law_927 rfl rfl ?_
      refine sx_iconst (v := 0) C dL_law_928 (by decide) ?_
      refine sx_lald (j := 0) C dL_law_929 1 rfl hW3.2.2.1 (rfl) (by decide) (Nat.le_of_ble_eq_true rfl) ?_
      refine sx_eql (v1.toInt64) (hv1 c924) ?_
      refine sx_iload C dL_law_930 rfl ?_
      refine sx_i2l C dL_law_932 ?_
      refine sx_lcmp C dL_law_933 ?_
      refine sx_if_eq (tgt := 939) C dL_law_934 (by decide) (fun c934 => ?_) (fun c934 => ?_)
      · refine sx_goto (tgt := 1228) C dL_law_939 (by decide) ?_
        refine sx_weak (lv' := [some (.ref b), some (.ref x), some (.ref mo), some (.ref o), some (.int (nI (1 + 6 * t))), none, none]) (And.intro rfl (And.intro rfl (And.intro rfl (And.intro rfl (And.intro rfl trivial))))) ?_
        exact K μ3 νc1 ν3 g1 u S ed k2 hW3 hC1 hM3
      · exact absurd ((lg_cmp_eq _ _).mpr (by rw [e2 c924])) c934
  · exact absurd rfl c917

set_option maxHeartbeats 4000000 in
set_option maxRecDepth 100000 in
/-- gaps -/
theorem lc_13 {p : Program} {e : Env} {s : State} {m : MethodId} {below : List Frame} {meth : Method} {c : Code} {Q : State → Prop} {c0 : Cond} (l : Launch) (hl : l.stackTraces = false) (D : va_G) (tc : Nat → ClassId) {b L : Nat} {xs : Nat → Int32} (hL : L ≤ 3073) {A : Nat → Prop} (C : sx_C p s m [Value.ref b].toArray c code 7 RL (c0 :: sxW) D sxCl (sxT tc) sxE A) (hX : sxX b L xs A s s.heap) (t : Nat) (ht : 1 + 6 * t + 6 ≤ L) (x mo o W u : Nat) (S : Nat → Nat → Bool) (ed : Nat → Nat → Nat) (th : Int32) (f : Nat → Int64) (μ νc νm : sx_M) (hW : LW μ νc νm o (oc tc f)) (hC : CInv tc νc x W u S ed) (hM : MInv tc νm mo W u S ed th) (K : ∀ (μ' νc' νm' : sx_M) (f' : Nat → Int64) (u' : Nat) (S' : Nat → Nat → Bool) (ed' : Nat → Nat → Nat) (th' : Int32), LW μ' νc' νm' o (oc tc f') → CInv tc νc' x W u' S' ed' → MInv tc νm' mo W u' S' ed' th' → SW p l e room_1 s m [Value.ref b].toArray below meth c 7 D sxCl A (178 + 4 * (t + 1)) (90000 + 1042 * (t + 1)) Q μ' 1228 [some (.ref b), some (.ref x), some (.ref mo), some (.ref o), some (.int (nI (1 + 6 * t))), none, none] []) : SW p l e room_1 s m [Value.ref b].toArray below meth c 7 D sxCl A (178 + 4 * t) (90000 + 1042 * t) Q μ 942 [some (.ref b), some (.ref x), some (.ref mo), some (.ref o), some (.int (nI (1 + 6 * t))), none, none] [] := by
  obtain ⟨fx, hx0⟩ := ci_x hC
  obtain ⟨fm, hm0⟩ := mi_xx hM
  refine sx_aload_n C dL_law_942 rfl rfl ?_
  refine sx_callFi C hW.1 (sx_runV (As := []) (rest := []) C hW.1 (d_C_gaps l D tc x W u S ed νc hC) (ci := 2) rfl (hW.1 _ _ hx0) (sx_cwV C 0 kM_L_127 ki_C_gaps ke_C_gaps kn_C kc_C_gaps rfl rfl (by decide +kernel) ⟨Nat.le_of_ble_eq_true rfl, Nat.le_of_ble_eq_true rfl⟩) rfl rfl (Nat.le_of_ble_eq_true rfl) dL_law_943 ⟨(show 178 + 4 * t + 1 ≤ 601024 by omega), (show 90000 + 1042 * t + 1024 ≤ 7293000 by omega)⟩) (fun r1 ν1 h1 hf1 => ?_)
  obtain ⟨h1, hC1⟩ := h1
  have hW1 := LW_d hW hf1
  refine sx_widen (k := 178 + 4 * (t + 1)) (n := 90000 + 1042 * (t + 1)) (by omega) (by omega) ?_
  generalize sx_ov μ νc ν1 = μ1 at hW1 ⊢
  refine sx_aload_n C dL_law_946 rfl rfl ?_
  refine sx_callFi C hW1.2.1 (sx_runV (As := []) (rest := [.int r1]) C hW1.2.1 (d_M_gaps l D tc mo W u S ed th νm hM) (ci := 3) rfl (hW1.2.1 _ _ hm0) (sx_cwV C 0 kM_L_130 ki_M_gaps ke_M_gaps kn_M kc_M_gaps rfl rfl (by decide +kernel) ⟨Nat.le_of_ble_eq_true rfl, Nat.le_of_ble_eq_true rfl⟩) rfl rfl (Nat.le_of_ble_eq_true rfl) dL_law_947 ⟨(show 178 + 4 * (t + 1) + 0 ≤ 601024 by omega), (show 90000 + 1042 * (t + 1) + 0 ≤ 7293000 by omega)⟩) (fun r2 ν2 h2 hf2 => ?_)
  obtain ⟨h2, hM2⟩ := h2
  have hW2 := LW_m hW1 hf2
  generalize sx_ov μ1 νm ν2 = μ2 at hW2 ⊢
  refine sx_eqi (r1) (h2.trans h1.symm) ?_
  refine sx_icmp_eq (tgt := 1228) C dL_law_950 (by decide) (fun c950 => ?_) (fun c950 => ?_)
  · exact K μ2 ν1 ν2 f u S ed 0 hW2 hC1 hM2
  · exact absurd rfl c950

set_option maxHeartbeats 4000000 in
set_option maxRecDepth 100000 in
/-- blocks -/
theorem lc_14 {p : Program} {e : Env} {s : State} {m : MethodId} {below : List Frame} {meth : Method} {c : Code} {Q : State → Prop} {c0 : Cond} (l : Launch) (hl : l.stackTraces = false) (D : va_G) (tc : Nat → ClassId) {b L : Nat} {xs : Nat → Int32} (hL : L ≤ 3073) {A : Nat → Prop} (C : sx_C p s m [Value.ref b].toArray c code 7 RL (c0 :: sxW) D sxCl (sxT tc) sxE A) (hX : sxX b L xs A s s.heap) (t : Nat) (ht : 1 + 6 * t + 6 ≤ L) (x mo o W u : Nat) (S : Nat → Nat → Bool) (ed : Nat → Nat → Nat) (th : Int32) (f : Nat → Int64) (μ νc νm : sx_M) (hW : LW μ νc νm o (oc tc f)) (hC : CInv tc νc x W u S ed) (hM : MInv tc νm mo W u S ed th) (K : ∀ (μ' νc' νm' : sx_M) (f' : Nat → Int64) (u' : Nat) (S' : Nat → Nat → Bool) (ed' : Nat → Nat → Nat) (th' : Int32), LW μ' νc' νm' o (oc tc f') → CInv tc νc' x W u' S' ed' → MInv tc νm' mo W u' S' ed' th' → SW p l e room_1 s m [Value.ref b].toArray below meth c 7 D sxCl A (178 + 4 * (t + 1)) (90000 + 1042 * (t + 1)) Q μ' 1228 [some (.ref b), some (.ref x), some (.ref mo), some (.ref o), some (.int (nI (1 + 6 * t))), none, none] []) : SW p l e room_1 s m [Value.ref b].toArray below meth c 7 D sxCl A (178 + 4 * t) (90000 + 1042 * t) Q μ 955 [some (.ref b), some (.ref x), some (.ref mo), some (.ref o), some (.int (nI (1 + 6 * t))), none, none] [] := by
  obtain ⟨fx, hx0⟩ := ci_x hC
  obtain ⟨fm, hm0⟩ := mi_xx hM
  refine sx_aload_n C dL_law_955 rfl rfl ?_
  refine sx_aload_n C dL_law_956 rfl rfl ?_
  refine sx_iload C dL_law_957 rfl ?_
  refine sx_iconst (v := 1) C dL_law_959 (by decide) ?_
  refine sx_iadd C dL_law_960 ?_
  refine sx_eqi (nI (1 + 6 * t + 1)) (nI_add _ 1) ?_
  refine sx_sld (j := 1 + 6 * t + 1) C hX dL_law_961 rfl (by omega) (by omega) ?_
  refine sx_aload_n C dL_law_962 rfl rfl ?_
  refine sx_callFi C (LW_h hW) (sx_runSW (As := [.ref x, .int (xs (1 + 6 * t + 1)), .ref o]) (rest := []) C (LW_h hW) (c_L_blocks l D tc hl (xs (1 + 6 * t + 1)) x o W u S ed f νc hW.2.2.2.2.1 hC) (sx_cwSW C 3 kM_L_131 ks_L_blocks kn_L kc_L_blocks rfl rfl (by decide +kernel) ⟨Nat.le_of_ble_eq_true rfl, Nat.le_of_ble_eq_true rfl⟩) rfl rfl (Nat.le_of_ble_eq_true rfl) dL_law_963 ⟨(show 178 + 4 * t + 2 ≤ 601024 by omega), (show 90000 + 1042 * t + 1030 ≤ 7293000 by omega)⟩) (fun r1 ν1 h1 hf1 => ?_)
  obtain ⟨νc1, g1, rfl, ho1, hC1, v1, hR1, hv1⟩ := h1
  have hW1 := LW_c hW ho1 hf1
  refine sx_widen (k := 178 + 4 * (t + 1)) (n := 90000 + 1042 * (t + 1)) (by omega) (by omega) ?_
  generalize sx_ov μ (sx_up νc o (oc tc f)) (sx_up νc1 o (oc tc g1)) = μ1 at hW1 ⊢
  refine sx_istore (lv' := [some (.ref b), some (.ref x), some (.ref mo), some (.ref o), some (.int (nI (1 + 6 * t))), some (.int r1), none]) C dL_law_966 (by decide) rfl rfl ?_
  refine sx_aload_n C dL_law_968 rfl rfl ?_
  refine sx_aload_n C dL_law_969 rfl rfl ?_
  refine sx_iload C dL_law_970 rfl ?_
  refine sx_iconst (v := 1) C dL_law_972 (by decide) ?_
  refine sx_iadd C dL_law_973 ?_
  refine sx_eqi (nI (1 + 6 * t + 1)) (nI_add _ 1) ?_
  refine sx_sld (j := 1 + 6 * t + 1) C hX dL_law_974 rfl (by omega) (by omega) ?_
  refine sx_callFi C hW1.2.1 (sx_runV (As := [.int (xs (1 + 6 * t + 1))]) (rest := []) C hW1.2.1 (d_M_blocks l D tc (xs (1 + 6 * t + 1)) mo W u S ed th νm hM) (ci := 3) rfl (hW1.2.1 _ _ hm0) (sx_cwV C 1 kM_L_133 ki_M_blocks ke_M_blocks kn_M kc_M_blocks rfl rfl (by decide +kernel) ⟨Nat.le_of_ble_eq_true rfl, Nat.le_of_ble_eq_true rfl⟩) rfl rfl (Nat.le_of_ble_eq_true rfl) dL_law_975 ⟨(show 178 + 4 * (t + 1) + 0 ≤ 601024 by omega), (show 90000 + 1042 * (t + 1) + 0 ≤ 7293000 by omega)⟩) (fun r2 ν2 h2 hf2 => ?_)
  obtain ⟨k2, hR2, hM2⟩ := h2
  have hW2 := LW_m hW1 hf2
  generalize sx_ov μ1 νm ν2 = μ2 at hW2 ⊢
  obtain ⟨e1, e2⟩ := u_bks hC.1 hR1 hR2
  obtain ⟨fm2, hm2⟩ := mi_xx hM2
  refine sx_istore (lv' := [some (.ref b), some (.ref x), some (.ref mo), some (.ref o), some (.int (nI (1 + 6 * t))), some (.int r1), some (.int r2)]) C dL_law_978 (by decide) rfl rfl ?_
  refine sx_aload_n C dL_law_980 rfl rfl ?_
  refine sx_callFi C hW2.2.1 (sx_runV (As := []) (rest := []) C hW2.2.1 (d_M_thrown l D tc mo W u S ed k2 ν2 hM2) (ci := 3) rfl (hW2.2.1 _ _ hm2) (sx_cwV C 0 kM_L_80 ki_M_thrown ke_M_thrown kn_M kc_M_thrown rfl rfl (by decide +kernel) ⟨Nat.le_of_ble_eq_true rfl, Nat.le_of_ble_eq_true rfl⟩) rfl rfl (Nat.le_of_ble_eq_true rfl) dL_law_981 ⟨(show 178 + 4 * (t + 1) + 0 ≤ 601024 by omega), (show 90000 + 1042 * (t + 1) + 0 ≤ 7293000 by omega)⟩) (fun r3 ν3 h3 hf3 => ?_)
  obtain ⟨h3, hM3⟩ := h3
  have hW3 := LW_m hW2 hf3
  generalize sx_ov μ2 ν2 ν3 = μ3 at hW3 ⊢
  refine sx_eqi (r1) (h3.trans e1.symm) ?_
  refine sx_iload C dL_law_984 rfl ?_
  refine sx_icmp_eq (tgt := 991) C dL_law_986 (by decide) (fun c986 => ?_) (fun c986 => ?_)
  · refine sx_iload C dL_law_991 rfl ?_
    refine sx_if_ne (tgt := 1008) C dL_law_993 (by decide) (fun c993 => ?_) (fun c993 => ?_)
    · refine sx_goto (tgt := 1228) C dL_law_1008 (by decide) ?_
      refine sx_weak (lv' := [some (.ref b), some (.ref x), some (.ref mo), some (.ref o), some (.int (nI (1 + 6 * t))), none, none]) (And.intro rfl (And.intro rfl (And.intro rfl (And.intro rfl (And.intro rfl trivial))))) ?_
      exact K μ3 νc1 ν3 g1 u S ed k2 hW3 hC1 hM3
    · refine sx_aload_n C dL_law_996 rfl rfl ?_
      refine sx_iconst (v := 0) C dL_law_997 (by decide) ?_
      refine sx_lald (j := 0) C dL_law_998 1 rfl hW3.2.2.1 (rfl) (by decide) (Nat.le_of_ble_eq_true rfl) ?_
      refine sx_eql (v1.toInt64) (hv1 c993) ?_
      refine sx_iload C dL_law_999 rfl ?_
      refine sx_i2l C dL_law_1001 ?_
      refine sx_lcmp C dL_law_1002 ?_
      refine sx_if_eq (tgt := 1008) C dL_law_1003 (by decide) (fun c1003 => ?_) (fun c1003 => ?_)
      · refine sx_goto (tgt := 1228) C dL_law_1008 (by decide) ?_
        refine sx_weak (lv' := [some (.ref b), some (.ref x), some (.ref mo), some (.ref o), some (.int (nI (1 + 6 * t))), none, none]) (And.intro rfl (And.intro rfl (And.intro rfl (And.intro rfl (And.intro rfl trivial))))) ?_
        exact K μ3 νc1 ν3 g1 u S ed k2 hW3 hC1 hM3
      · exact absurd ((lg_cmp_eq _ _).mpr (by rw [e2 c993])) c1003
  · exact absurd rfl c986

set_option maxHeartbeats 4000000 in
set_option maxRecDepth 100000 in
/-- block -/
theorem lc_15 {p : Program} {e : Env} {s : State} {m : MethodId} {below : List Frame} {meth : Method} {c : Code} {Q : State → Prop} {c0 : Cond} (l : Launch) (hl : l.stackTraces = false) (D : va_G) (tc : Nat → ClassId) {b L : Nat} {xs : Nat → Int32} (hL : L ≤ 3073) {A : Nat → Prop} (C : sx_C p s m [Value.ref b].toArray c code 7 RL (c0 :: sxW) D sxCl (sxT tc) sxE A) (hX : sxX b L xs A s s.heap) (t : Nat) (ht : 1 + 6 * t + 6 ≤ L) (x mo o W u : Nat) (S : Nat → Nat → Bool) (ed : Nat → Nat → Nat) (th : Int32) (f : Nat → Int64) (μ νc νm : sx_M) (hW : LW μ νc νm o (oc tc f)) (hC : CInv tc νc x W u S ed) (hM : MInv tc νm mo W u S ed th) (K : ∀ (μ' νc' νm' : sx_M) (f' : Nat → Int64) (u' : Nat) (S' : Nat → Nat → Bool) (ed' : Nat → Nat → Nat) (th' : Int32), LW μ' νc' νm' o (oc tc f') → CInv tc νc' x W u' S' ed' → MInv tc νm' mo W u' S' ed' th' → SW p l e room_1 s m [Value.ref b].toArray below meth c 7 D sxCl A (178 + 4 * (t + 1)) (90000 + 1042 * (t + 1)) Q μ' 1228 [some (.ref b), some (.ref x), some (.ref mo), some (.ref o), some (.int (nI (1 + 6 * t))), none, none] []) : SW p l e room_1 s m [Value.ref b].toArray below meth c 7 D sxCl A (178 + 4 * t) (90000 + 1042 * t) Q μ 1011 [some (.ref b), some (.ref x), some (.ref mo), some (.ref o), some (.int (nI (1 + 6 * t))), none, none] [] := by
  obtain ⟨fx, hx0⟩ := ci_x hC
  obtain ⟨fm, hm0⟩ := mi_xx hM
  refine sx_aload_n C dL_law_1011 rfl rfl ?_
  refine sx_aload_n C dL_law_1012 rfl rfl ?_
  refine sx_iload C dL_law_1013 rfl ?_
  refine sx_iconst (v := 1) C dL_law_1015 (by decide) ?_
  refine sx_iadd C dL_law_1016 ?_
  refine sx_eqi (nI (1 + 6 * t + 1)) (nI_add _ 1) ?_
  refine sx_sld (j := 1 + 6 * t + 1) C hX dL_law_1017 rfl (by omega) (by omega) ?_
  refine sx_aload_n C dL_law_1018 rfl rfl ?_
  refine sx_iload C dL_law_1019 rfl ?_
  refine sx_iconst (v := 2) C dL_law_1021 (by decide) ?_
  refine sx_iadd C dL_law_1022 ?_
  refine sx_eqi (nI (1 + 6 * t + 2)) (nI_add _ 2) ?_
  refine sx_sld (j := 1 + 6 * t + 2) C hX dL_law_1023 rfl (by omega) (by omega) ?_
  refine sx_aload_n C dL_law_1024 rfl rfl ?_
  refine sx_iload C dL_law_1025 rfl ?_
  refine sx_iconst (v := 3) C dL_law_1027 (by decide) ?_
  refine sx_iadd C dL_law_1028 ?_
  refine sx_eqi (nI (1 + 6 * t + 3)) (nI_add _ 3) ?_
  refine sx_sld (j := 1 + 6 * t + 3) C hX dL_law_1029 rfl (by omega) (by omega) ?_
  refine sx_aload_n C dL_law_1030 rfl rfl ?_
  refine sx_callFi C (LW_h hW) (sx_runSW (As := [.ref x, .int (xs (1 + 6 * t + 1)), .int (xs (1 + 6 * t + 2)), .int (xs (1 + 6 * t + 3)), .ref o]) (rest := []) C (LW_h hW) (c_L_block l D tc hl (xs (1 + 6 * t + 1)) (xs (1 + 6 * t + 2)) (xs (1 + 6 * t + 3)) x o W u S ed f νc hW.2.2.2.2.1 hC) (sx_cwSW C 5 kM_L_134 ks_L_block kn_L kc_L_block rfl rfl (by decide +kernel) ⟨Nat.le_of_ble_eq_true rfl, Nat.le_of_ble_eq_true rfl⟩) rfl rfl (Nat.le_of_ble_eq_true rfl) dL_law_1031 ⟨(show 178 + 4 * t + 4 ≤ 601024 by omega), (show 90000 + 1042 * t + 1042 ≤ 7293000 by omega)⟩) (fun r1 ν1 h1 hf1 => ?_)
  obtain ⟨νc1, g1, rfl, ho1, hC1, v1, hR1, hv1⟩ := h1
  have hW1 := LW_c hW ho1 hf1
  refine sx_widen (k := 178 + 4 * (t + 1)) (n := 90000 + 1042 * (t + 1)) (by omega) (by omega) ?_
  generalize sx_ov μ (sx_up νc o (oc tc f)) (sx_up νc1 o (oc tc g1)) = μ1 at hW1 ⊢
  refine sx_istore (lv' := [some (.ref b), some (.ref x), some (.ref mo), some (.ref o), some (.int (nI (1 + 6 * t))), some (.int r1), none]) C dL_law_1034 (by decide) rfl rfl ?_
  refine sx_aload_n C dL_law_1036 rfl rfl ?_
  refine sx_aload_n C dL_law_1037 rfl rfl ?_
  refine sx_iload C dL_law_1038 rfl ?_
  refine sx_iconst (v := 1) C dL_law_1040 (by decide) ?_
  refine sx_iadd C dL_law_1041 ?_
  refine sx_eqi (nI (1 + 6 * t + 1)) (nI_add _ 1) ?_
  refine sx_sld (j := 1 + 6 * t + 1) C hX dL_law_1042 rfl (by omega) (by omega) ?_
  refine sx_aload_n C dL_law_1043 rfl rfl ?_
  refine sx_iload C dL_law_1044 rfl ?_
  refine sx_iconst (v := 2) C dL_law_1046 (by decide) ?_
  refine sx_iadd C dL_law_1047 ?_
  refine sx_eqi (nI (1 + 6 * t + 2)) (nI_add _ 2) ?_
  refine sx_sld (j := 1 + 6 * t + 2) C hX dL_law_1048 rfl (by omega) (by omega) ?_
  refine sx_aload_n C dL_law_1049 rfl rfl ?_
  refine sx_iload C dL_law_1050 rfl ?_
  refine sx_iconst (v := 3) C dL_law_1052 (by decide) ?_
  refine sx_iadd C dL_law_1053 ?_
  refine sx_eqi (nI (1 + 6 * t + 3)) (nI_add _ 3) ?_
  refine sx_sld (j := 1 + 6 * t + 3) C hX dL_law_1054 rfl (by omega) (by omega) ?_
  refine sx_callFi C hW1.2.1 (sx_runV (As := [.int (xs (1 + 6 * t + 1)), .int (xs (1 + 6 * t + 2)), .int (xs (1 + 6 * t + 3))]) (rest := []) C hW1.2.1 (d_M_block l D tc (xs (1 + 6 * t + 1)) (xs (1 + 6 * t + 2)) (xs (1 + 6 * t + 3)) mo W u S ed th νm hM) (ci := 3) rfl (hW1.2.1 _ _ hm0) (sx_cwV C 3 kM_L_136 ki_M_block ke_M_block kn_M kc_M_block rfl rfl (by decide +kernel) ⟨Nat.le_of_ble_eq_true rfl, Nat.le_of_ble_eq_true rfl⟩) rfl rfl (Nat.le_of_ble_eq_true rfl) dL_law_1055 ⟨(show 178 + 4 * (t + 1) + 0 ≤ 601024 by omega), (show 90000 + 1042 * (t + 1) + 0 ≤ 7293000 by omega)⟩) (fun r2 ν2 h2 hf2 => ?_)
  obtain ⟨k2, hR2, hM2⟩ := h2
  have hW2 := LW_m hW1 hf2
  generalize sx_ov μ1 νm ν2 = μ2 at hW2 ⊢
  obtain ⟨e1, e2⟩ := u_blk hC.1 hR1 hR2
  obtain ⟨fm2, hm2⟩ := mi_xx hM2
  refine sx_istore (lv' := [some (.ref b), some (.ref x), some (.ref mo), some (.ref o), some (.int (nI (1 + 6 * t))), some (.int r1), some (.int r2)]) C dL_law_1058 (by decide) rfl rfl ?_
  refine sx_aload_n C dL_law_1060 rfl rfl ?_
  refine sx_callFi C hW2.2.1 (sx_runV (As := []) (rest := []) C hW2.2.1 (d_M_thrown l D tc mo W u S ed k2 ν2 hM2) (ci := 3) rfl (hW2.2.1 _ _ hm2) (sx_cwV C 0 kM_L_80 ki_M_thrown ke_M_thrown kn_M kc_M_thrown rfl rfl (by decide +kernel) ⟨Nat.le_of_ble_eq_true rfl, Nat.le_of_ble_eq_true rfl⟩) rfl rfl (Nat.le_of_ble_eq_true rfl) dL_law_1061 ⟨(show 178 + 4 * (t + 1) + 0 ≤ 601024 by omega), (show 90000 + 1042 * (t + 1) + 0 ≤ 7293000 by omega)⟩) (fun r3 ν3 h3 hf3 => ?_)
  obtain ⟨h3, hM3⟩ := h3
  have hW3 := LW_m hW2 hf3
  generalize sx_ov μ2 ν2 ν3 = μ3 at hW3 ⊢
  refine sx_eqi (r1) (h3.trans e1.symm) ?_
  refine sx_iload C dL_law_1064 rfl ?_
  refine sx_icmp_eq (tgt := 1071) C dL_law_1066 (by decide) (fun c1066 => ?_) (fun c1066 => ?_)
  · refine sx_iload C dL_law_1071 rfl ?_
    refine sx_if_ne (tgt := 1088) C dL_law_1073 (by decide) (fun c1073 => ?_) (fun c1073 => ?_)
    · refine sx_goto (tgt := 1228) C dL_law_1088 (by decide) ?_
      refine sx_weak (lv' := [some (.ref b), some (.ref x), some (.ref mo), some (.ref o), some (.int (nI (1 + 6 * t))), none, none]) (And.intro rfl (And.intro rfl (And.intro rfl (And.intro rfl (And.intro rfl trivial))))) ?_
      exact K μ3 νc1 ν3 g1 u S ed k2 hW3 hC1 hM3
    · refine sx_aload_n C dL_law_1076 rfl rfl ?_
      refine sx_iconst (v := 0) C dL_law_1077 (by decide) ?_
      refine sx_lald (j := 0) C dL_law_1078 1 rfl hW3.2.2.1 (rfl) (by decide) (Nat.le_of_ble_eq_true rfl) ?_
      refine sx_eql (v1.toInt64) (hv1 c1073) ?_
      refine sx_iload C dL_law_1079 rfl ?_
      refine sx_i2l C dL_law_1081 ?_
      refine sx_lcmp C dL_law_1082 ?_
      refine sx_if_eq (tgt := 1088) C dL_law_1083 (by decide) (fun c1083 => ?_) (fun c1083 => ?_)
      · refine sx_goto (tgt := 1228) C dL_law_1088 (by decide) ?_
        refine sx_weak (lv' := [some (.ref b), some (.ref x), some (.ref mo), some (.ref o), some (.int (nI (1 + 6 * t))), none, none]) (And.intro rfl (And.intro rfl (And.intro rfl (And.intro rfl (And.intro rfl trivial))))) ?_
        exact K μ3 νc1 ν3 g1 u S ed k2 hW3 hC1 hM3
      · exact absurd ((lg_cmp_eq _ _).mpr (by rw [e2 c1073])) c1083
  · exact absurd rfl c1066

set_option maxHeartbeats 4000000 in
set_option maxRecDepth 100000 in
/-- decode -/
theorem lc_16 {p : Program} {e : Env} {s : State} {m : MethodId} {below : List Frame} {meth : Method} {c : Code} {Q : State → Prop} {c0 : Cond} (l : Launch) (hl : l.stackTraces = false) (D : va_G) (tc : Nat → ClassId) {b L : Nat} {xs : Nat → Int32} (hL : L ≤ 3073) {A : Nat → Prop} (C : sx_C p s m [Value.ref b].toArray c code 7 RL (c0 :: sxW) D sxCl (sxT tc) sxE A) (hX : sxX b L xs A s s.heap) (t : Nat) (ht : 1 + 6 * t + 6 ≤ L) (x mo o W u : Nat) (S : Nat → Nat → Bool) (ed : Nat → Nat → Nat) (th : Int32) (f : Nat → Int64) (μ νc νm : sx_M) (hW : LW μ νc νm o (oc tc f)) (hC : CInv tc νc x W u S ed) (hM : MInv tc νm mo W u S ed th) (K : ∀ (μ' νc' νm' : sx_M) (f' : Nat → Int64) (u' : Nat) (S' : Nat → Nat → Bool) (ed' : Nat → Nat → Nat) (th' : Int32), LW μ' νc' νm' o (oc tc f') → CInv tc νc' x W u' S' ed' → MInv tc νm' mo W u' S' ed' th' → SW p l e room_1 s m [Value.ref b].toArray below meth c 7 D sxCl A (178 + 4 * (t + 1)) (90000 + 1042 * (t + 1)) Q μ' 1228 [some (.ref b), some (.ref x), some (.ref mo), some (.ref o), some (.int (nI (1 + 6 * t))), none, none] []) : SW p l e room_1 s m [Value.ref b].toArray below meth c 7 D sxCl A (178 + 4 * t) (90000 + 1042 * t) Q μ 1091 [some (.ref b), some (.ref x), some (.ref mo), some (.ref o), some (.int (nI (1 + 6 * t))), none, none] [] := by
  obtain ⟨fx, hx0⟩ := ci_x hC
  obtain ⟨fm, hm0⟩ := mi_xx hM
  refine sx_aload_n C dL_law_1091 rfl rfl ?_
  refine sx_aload_n C dL_law_1092 rfl rfl ?_
  refine sx_iload C dL_law_1093 rfl ?_
  refine sx_iconst (v := 1) C dL_law_1095 (by decide) ?_
  refine sx_iadd C dL_law_1096 ?_
  refine sx_eqi (nI (1 + 6 * t + 1)) (nI_add _ 1) ?_
  refine sx_sld (j := 1 + 6 * t + 1) C hX dL_law_1097 rfl (by omega) (by omega) ?_
  refine sx_aload_n C dL_law_1098 rfl rfl ?_
  refine sx_callFi C (LW_h hW) (sx_runSW (As := [.ref x, .int (xs (1 + 6 * t + 1)), .ref o]) (rest := []) C (LW_h hW) (c_L_decode l D tc hl (xs (1 + 6 * t + 1)) x o W u S ed f νc hW.2.2.2.2.1 hC) (sx_cwSW C 3 kM_L_137 ks_L_decode kn_L kc_L_decode rfl rfl (by decide +kernel) ⟨Nat.le_of_ble_eq_true rfl, Nat.le_of_ble_eq_true rfl⟩) rfl rfl (Nat.le_of_ble_eq_true rfl) dL_law_1099 ⟨(show 178 + 4 * t + 1 ≤ 601024 by omega), (show 90000 + 1042 * t + 6 ≤ 7293000 by omega)⟩) (fun r1 ν1 h1 hf1 => ?_)
  obtain ⟨νc1, g1, rfl, ho1, hC1, v1, hR1, hv1⟩ := h1
  have hW1 := LW_c hW ho1 hf1
  refine sx_widen (k := 178 + 4 * (t + 1)) (n := 90000 + 1042 * (t + 1)) (by omega) (by omega) ?_
  generalize sx_ov μ (sx_up νc o (oc tc f)) (sx_up νc1 o (oc tc g1)) = μ1 at hW1 ⊢
  refine sx_istore (lv' := [some (.ref b), some (.ref x), some (.ref mo), some (.ref o), some (.int (nI (1 + 6 * t))), some (.int r1), none]) C dL_law_1102 (by decide) rfl rfl ?_
  refine sx_aload_n C dL_law_1104 rfl rfl ?_
  refine sx_aload_n C dL_law_1105 rfl rfl ?_
  refine sx_iload C dL_law_1106 rfl ?_
  refine sx_iconst (v := 1) C dL_law_1108 (by decide) ?_
  refine sx_iadd C dL_law_1109 ?_
  refine sx_eqi (nI (1 + 6 * t + 1)) (nI_add _ 1) ?_
  refine sx_sld (j := 1 + 6 * t + 1) C hX dL_law_1110 rfl (by omega) (by omega) ?_
  refine sx_callFi C hW1.2.1 (sx_runV (As := [.int (xs (1 + 6 * t + 1))]) (rest := []) C hW1.2.1 (d_M_decode l D tc (xs (1 + 6 * t + 1)) mo W u S ed th νm hM) (ci := 3) rfl (hW1.2.1 _ _ hm0) (sx_cwV C 1 kM_L_139 ki_M_decode ke_M_decode kn_M kc_M_decode rfl rfl (by decide +kernel) ⟨Nat.le_of_ble_eq_true rfl, Nat.le_of_ble_eq_true rfl⟩) rfl rfl (Nat.le_of_ble_eq_true rfl) dL_law_1111 ⟨(show 178 + 4 * (t + 1) + 0 ≤ 601024 by omega), (show 90000 + 1042 * (t + 1) + 0 ≤ 7293000 by omega)⟩) (fun r2 ν2 h2 hf2 => ?_)
  obtain ⟨k2, hR2, hM2⟩ := h2
  have hW2 := LW_m hW1 hf2
  generalize sx_ov μ1 νm ν2 = μ2 at hW2 ⊢
  obtain ⟨e1, e2⟩ := u_dec hC.1 hR1 hR2
  obtain ⟨fm2, hm2⟩ := mi_xx hM2
  refine sx_istore (lv' := [some (.ref b), some (.ref x), some (.ref mo), some (.ref o), some (.int (nI (1 + 6 * t))), some (.int r1), some (.int r2)]) C dL_law_1114 (by decide) rfl rfl ?_
  refine sx_aload_n C dL_law_1116 rfl rfl ?_
  refine sx_callFi C hW2.2.1 (sx_runV (As := []) (rest := []) C hW2.2.1 (d_M_thrown l D tc mo W u S ed k2 ν2 hM2) (ci := 3) rfl (hW2.2.1 _ _ hm2) (sx_cwV C 0 kM_L_80 ki_M_thrown ke_M_thrown kn_M kc_M_thrown rfl rfl (by decide +kernel) ⟨Nat.le_of_ble_eq_true rfl, Nat.le_of_ble_eq_true rfl⟩) rfl rfl (Nat.le_of_ble_eq_true rfl) dL_law_1117 ⟨(show 178 + 4 * (t + 1) + 0 ≤ 601024 by omega), (show 90000 + 1042 * (t + 1) + 0 ≤ 7293000 by omega)⟩) (fun r3 ν3 h3 hf3 => ?_)
  obtain ⟨h3, hM3⟩ := h3
  have hW3 := LW_m hW2 hf3
  generalize sx_ov μ2 ν2 ν3 = μ3 at hW3 ⊢
  refine sx_eqi (r1) (h3.trans e1.symm) ?_
  refine sx_iload C dL_law_1120 rfl ?_
  refine sx_icmp_eq (tgt := 1127) C dL_law_1122 (by decide) (fun c1122 => ?_) (fun c1122 => ?_)
  · refine sx_iload C dL_law_1127 rfl ?_
    refine sx_if_ne (tgt := 1144) C dL_law_1129 (by decide) (fun c1129 => ?_) (fun c1129 => ?_)
    · refine sx_goto (tgt := 1228) C dL_law_1144 (by decide) ?_
      refine sx_weak (lv' := [some (.ref b), some (.ref x), some (.ref mo), some (.ref o), some (.int (nI (1 + 6 * t))), none, none]) (And.intro rfl (And.intro rfl (And.intro rfl (And.intro rfl (And.intro rfl trivial))))) ?_
      exact K μ3 νc1 ν3 g1 u S ed k2 hW3 hC1 hM3
    · refine sx_aload_n C dL_law_1132 rfl rfl ?_
      refine sx_iconst (v := 0) C dL_law_1133 (by decide) ?_
      refine sx_lald (j := 0) C dL_law_1134 1 rfl hW3.2.2.1 (rfl) (by decide) (Nat.le_of_ble_eq_true rfl) ?_
      refine sx_eql (v1.toInt64) (hv1 c1129) ?_
      refine sx_iload C dL_law_1135 rfl ?_
      refine sx_i2l C dL_law_1137 ?_
      refine sx_lcmp C dL_law_1138 ?_
      refine sx_if_eq (tgt := 1144) C dL_law_1139 (by decide) (fun c1139 => ?_) (fun c1139 => ?_)
      · refine sx_goto (tgt := 1228) C dL_law_1144 (by decide) ?_
        refine sx_weak (lv' := [some (.ref b), some (.ref x), some (.ref mo), some (.ref o), some (.int (nI (1 + 6 * t))), none, none]) (And.intro rfl (And.intro rfl (And.intro rfl (And.intro rfl (And.intro rfl trivial))))) ?_
        exact K μ3 νc1 ν3 g1 u S ed k2 hW3 hC1 hM3
      · exact absurd ((lg_cmp_eq _ _).mpr (by rw [e2 c1129])) c1139
  · exact absurd rfl c1122

set_option maxHeartbeats 4000000 in
set_option maxRecDepth 100000 in
/-- order -/
theorem lc_17 {p : Program} {e : Env} {s : State} {m : MethodId} {below : List Frame} {meth : Method} {c : Code} {Q : State → Prop} {c0 : Cond} (l : Launch) (hl : l.stackTraces = false) (D : va_G) (tc : Nat → ClassId) {b L : Nat} {xs : Nat → Int32} (hL : L ≤ 3073) {A : Nat → Prop} (C : sx_C p s m [Value.ref b].toArray c code 7 RL (c0 :: sxW) D sxCl (sxT tc) sxE A) (hX : sxX b L xs A s s.heap) (t : Nat) (ht : 1 + 6 * t + 6 ≤ L) (x mo o W u : Nat) (S : Nat → Nat → Bool) (ed : Nat → Nat → Nat) (th : Int32) (f : Nat → Int64) (μ νc νm : sx_M) (hW : LW μ νc νm o (oc tc f)) (hC : CInv tc νc x W u S ed) (hM : MInv tc νm mo W u S ed th) (K : ∀ (μ' νc' νm' : sx_M) (f' : Nat → Int64) (u' : Nat) (S' : Nat → Nat → Bool) (ed' : Nat → Nat → Nat) (th' : Int32), LW μ' νc' νm' o (oc tc f') → CInv tc νc' x W u' S' ed' → MInv tc νm' mo W u' S' ed' th' → SW p l e room_1 s m [Value.ref b].toArray below meth c 7 D sxCl A (178 + 4 * (t + 1)) (90000 + 1042 * (t + 1)) Q μ' 1228 [some (.ref b), some (.ref x), some (.ref mo), some (.ref o), some (.int (nI (1 + 6 * t))), none, none] []) : SW p l e room_1 s m [Value.ref b].toArray below meth c 7 D sxCl A (178 + 4 * t) (90000 + 1042 * t) Q μ 1147 [some (.ref b), some (.ref x), some (.ref mo), some (.ref o), some (.int (nI (1 + 6 * t))), none, none] [] := by
  obtain ⟨fx, hx0⟩ := ci_x hC
  obtain ⟨fm, hm0⟩ := mi_xx hM
  refine sx_aload_n C dL_law_1147 rfl rfl ?_
  refine sx_aload_n C dL_law_1148 rfl rfl ?_
  refine sx_iload C dL_law_1149 rfl ?_
  refine sx_iconst (v := 1) C dL_law_1151 (by decide) ?_
  refine sx_iadd C dL_law_1152 ?_
  refine sx_eqi (nI (1 + 6 * t + 1)) (nI_add _ 1) ?_
  refine sx_sld (j := 1 + 6 * t + 1) C hX dL_law_1153 rfl (by omega) (by omega) ?_
  refine sx_aload_n C dL_law_1154 rfl rfl ?_
  refine sx_callFi C (LW_h hW) (sx_runSW (As := [.ref x, .int (xs (1 + 6 * t + 1)), .ref o]) (rest := []) C (LW_h hW) (c_L_order l D tc hl (xs (1 + 6 * t + 1)) x o W u S ed f νc hW.2.2.2.2.1 hC) (sx_cwSW C 3 kM_L_140 ks_L_order kn_L kc_L_order rfl rfl (by decide +kernel) ⟨Nat.le_of_ble_eq_true rfl, Nat.le_of_ble_eq_true rfl⟩) rfl rfl (Nat.le_of_ble_eq_true rfl) dL_law_1155 ⟨(show 178 + 4 * t + 1 ≤ 601024 by omega), (show 90000 + 1042 * t + 6 ≤ 7293000 by omega)⟩) (fun r1 ν1 h1 hf1 => ?_)
  obtain ⟨νc1, g1, rfl, ho1, hC1, v1, hR1, hv1⟩ := h1
  have hW1 := LW_c hW ho1 hf1
  refine sx_widen (k := 178 + 4 * (t + 1)) (n := 90000 + 1042 * (t + 1)) (by omega) (by omega) ?_
  generalize sx_ov μ (sx_up νc o (oc tc f)) (sx_up νc1 o (oc tc g1)) = μ1 at hW1 ⊢
  refine sx_istore (lv' := [some (.ref b), some (.ref x), some (.ref mo), some (.ref o), some (.int (nI (1 + 6 * t))), some (.int r1), none]) C dL_law_1158 (by decide) rfl rfl ?_
  refine sx_aload_n C dL_law_1160 rfl rfl ?_
  refine sx_aload_n C dL_law_1161 rfl rfl ?_
  refine sx_iload C dL_law_1162 rfl ?_
  refine sx_iconst (v := 1) C dL_law_1164 (by decide) ?_
  refine sx_iadd C dL_law_1165 ?_
  refine sx_eqi (nI (1 + 6 * t + 1)) (nI_add _ 1) ?_
  refine sx_sld (j := 1 + 6 * t + 1) C hX dL_law_1166 rfl (by omega) (by omega) ?_
  refine sx_callFi C hW1.2.1 (sx_runV (As := [.int (xs (1 + 6 * t + 1))]) (rest := []) C hW1.2.1 (d_M_order l D tc (xs (1 + 6 * t + 1)) mo W u S ed th νm hM) (ci := 3) rfl (hW1.2.1 _ _ hm0) (sx_cwV C 1 kM_L_142 ki_M_order ke_M_order kn_M kc_M_order rfl rfl (by decide +kernel) ⟨Nat.le_of_ble_eq_true rfl, Nat.le_of_ble_eq_true rfl⟩) rfl rfl (Nat.le_of_ble_eq_true rfl) dL_law_1167 ⟨(show 178 + 4 * (t + 1) + 0 ≤ 601024 by omega), (show 90000 + 1042 * (t + 1) + 0 ≤ 7293000 by omega)⟩) (fun r2 ν2 h2 hf2 => ?_)
  obtain ⟨k2, hR2, hM2⟩ := h2
  have hW2 := LW_m hW1 hf2
  generalize sx_ov μ1 νm ν2 = μ2 at hW2 ⊢
  obtain ⟨e1, e2⟩ := u_ord hC.1 hR1 hR2
  obtain ⟨fm2, hm2⟩ := mi_xx hM2
  refine sx_istore (lv' := [some (.ref b), some (.ref x), some (.ref mo), some (.ref o), some (.int (nI (1 + 6 * t))), some (.int r1), some (.int r2)]) C dL_law_1170 (by decide) rfl rfl ?_
  refine sx_aload_n C dL_law_1172 rfl rfl ?_
  refine sx_callFi C hW2.2.1 (sx_runV (As := []) (rest := []) C hW2.2.1 (d_M_thrown l D tc mo W u S ed k2 ν2 hM2) (ci := 3) rfl (hW2.2.1 _ _ hm2) (sx_cwV C 0 kM_L_80 ki_M_thrown ke_M_thrown kn_M kc_M_thrown rfl rfl (by decide +kernel) ⟨Nat.le_of_ble_eq_true rfl, Nat.le_of_ble_eq_true rfl⟩) rfl rfl (Nat.le_of_ble_eq_true rfl) dL_law_1173 ⟨(show 178 + 4 * (t + 1) + 0 ≤ 601024 by omega), (show 90000 + 1042 * (t + 1) + 0 ≤ 7293000 by omega)⟩) (fun r3 ν3 h3 hf3 => ?_)
  obtain ⟨h3, hM3⟩ := h3
  have hW3 := LW_m hW2 hf3
  generalize sx_ov μ2 ν2 ν3 = μ3 at hW3 ⊢
  refine sx_eqi (r1) (h3.trans e1.symm) ?_
  refine sx_iload C dL_law_1176 rfl ?_
  refine sx_icmp_eq (tgt := 1183) C dL_law_1178 (by decide) (fun c1178 => ?_) (fun c1178 => ?_)
  · refine sx_iload C dL_law_1183 rfl ?_
    refine sx_if_ne (tgt := 1200) C dL_law_1185 (by decide) (fun c1185 => ?_) (fun c1185 => ?_)
    · refine sx_goto (tgt := 1228) C dL_law_1200 (by decide) ?_
      refine sx_weak (lv' := [some (.ref b), some (.ref x), some (.ref mo), some (.ref o), some (.int (nI (1 + 6 * t))), none, none]) (And.intro rfl (And.intro rfl (And.intro rfl (And.intro rfl (And.intro rfl trivial))))) ?_
      exact K μ3 νc1 ν3 g1 u S ed k2 hW3 hC1 hM3
    · refine sx_aload_n C dL_law_1188 rfl rfl ?_
      refine sx_iconst (v := 0) C dL_law_1189 (by decide) ?_
      refine sx_lald (j := 0) C dL_law_1190 1 rfl hW3.2.2.1 (rfl) (by decide) (Nat.le_of_ble_eq_true rfl) ?_
      refine sx_eql (v1.toInt64) (hv1 c1185) ?_
      refine sx_iload C dL_law_1191 rfl ?_
      refine sx_i2l C dL_law_1193 ?_
      refine sx_lcmp C dL_law_1194 ?_
      refine sx_if_eq (tgt := 1200) C dL_law_1195 (by decide) (fun c1195 => ?_) (fun c1195 => ?_)
      · refine sx_goto (tgt := 1228) C dL_law_1200 (by decide) ?_
        refine sx_weak (lv' := [some (.ref b), some (.ref x), some (.ref mo), some (.ref o), some (.int (nI (1 + 6 * t))), none, none]) (And.intro rfl (And.intro rfl (And.intro rfl (And.intro rfl (And.intro rfl trivial))))) ?_
        exact K μ3 νc1 ν3 g1 u S ed k2 hW3 hC1 hM3
      · exact absurd ((lg_cmp_eq _ _).mpr (by rw [e2 c1185])) c1195
  · exact absurd rfl c1178

set_option maxHeartbeats 4000000 in
set_option maxRecDepth 100000 in
/-- size -/
theorem lc_18 {p : Program} {e : Env} {s : State} {m : MethodId} {below : List Frame} {meth : Method} {c : Code} {Q : State → Prop} {c0 : Cond} (l : Launch) (hl : l.stackTraces = false) (D : va_G) (tc : Nat → ClassId) {b L : Nat} {xs : Nat → Int32} (hL : L ≤ 3073) {A : Nat → Prop} (C : sx_C p s m [Value.ref b].toArray c code 7 RL (c0 :: sxW) D sxCl (sxT tc) sxE A) (hX : sxX b L xs A s s.heap) (t : Nat) (ht : 1 + 6 * t + 6 ≤ L) (x mo o W u : Nat) (S : Nat → Nat → Bool) (ed : Nat → Nat → Nat) (th : Int32) (f : Nat → Int64) (μ νc νm : sx_M) (hW : LW μ νc νm o (oc tc f)) (hC : CInv tc νc x W u S ed) (hM : MInv tc νm mo W u S ed th) (K : ∀ (μ' νc' νm' : sx_M) (f' : Nat → Int64) (u' : Nat) (S' : Nat → Nat → Bool) (ed' : Nat → Nat → Nat) (th' : Int32), LW μ' νc' νm' o (oc tc f') → CInv tc νc' x W u' S' ed' → MInv tc νm' mo W u' S' ed' th' → SW p l e room_1 s m [Value.ref b].toArray below meth c 7 D sxCl A (178 + 4 * (t + 1)) (90000 + 1042 * (t + 1)) Q μ' 1228 [some (.ref b), some (.ref x), some (.ref mo), some (.ref o), some (.int (nI (1 + 6 * t))), none, none] []) : SW p l e room_1 s m [Value.ref b].toArray below meth c 7 D sxCl A (178 + 4 * t) (90000 + 1042 * t) Q μ 1203 [some (.ref b), some (.ref x), some (.ref mo), some (.ref o), some (.int (nI (1 + 6 * t))), none, none] [] := by
  obtain ⟨fx, hx0⟩ := ci_x hC
  obtain ⟨fm, hm0⟩ := mi_xx hM
  refine sx_aload_n C dL_law_1203 rfl rfl ?_
  refine sx_aload_n C dL_law_1204 rfl rfl ?_
  refine sx_iload C dL_law_1205 rfl ?_
  refine sx_iconst (v := 1) C dL_law_1207 (by decide) ?_
  refine sx_iadd C dL_law_1208 ?_
  refine sx_eqi (nI (1 + 6 * t + 1)) (nI_add _ 1) ?_
  refine sx_sld (j := 1 + 6 * t + 1) C hX dL_law_1209 rfl (by omega) (by omega) ?_
  refine sx_callFi C hW.1 (sx_runV (As := [.int (xs (1 + 6 * t + 1))]) (rest := []) C hW.1 (d_C_size l D tc (xs (1 + 6 * t + 1)) x W u S ed νc hC) (ci := 2) rfl (hW.1 _ _ hx0) (sx_cwV C 1 kM_L_143 ki_C_size ke_C_size kn_C kc_C_size rfl rfl (by decide +kernel) ⟨Nat.le_of_ble_eq_true rfl, Nat.le_of_ble_eq_true rfl⟩) rfl rfl (Nat.le_of_ble_eq_true rfl) dL_law_1210 ⟨(show 178 + 4 * t + 0 ≤ 601024 by omega), (show 90000 + 1042 * t + 0 ≤ 7293000 by omega)⟩) (fun r1 ν1 h1 hf1 => ?_)
  obtain ⟨h1, hC1⟩ := h1
  have hW1 := LW_d hW hf1
  refine sx_widen (k := 178 + 4 * (t + 1)) (n := 90000 + 1042 * (t + 1)) (by omega) (by omega) ?_
  generalize sx_ov μ νc ν1 = μ1 at hW1 ⊢
  refine sx_aload_n C dL_law_1213 rfl rfl ?_
  refine sx_aload_n C dL_law_1214 rfl rfl ?_
  refine sx_iload C dL_law_1215 rfl ?_
  refine sx_iconst (v := 1) C dL_law_1217 (by decide) ?_
  refine sx_iadd C dL_law_1218 ?_
  refine sx_eqi (nI (1 + 6 * t + 1)) (nI_add _ 1) ?_
  refine sx_sld (j := 1 + 6 * t + 1) C hX dL_law_1219 rfl (by omega) (by omega) ?_
  refine sx_callFi C hW1.2.1 (sx_runV (As := [.int (xs (1 + 6 * t + 1))]) (rest := [.int r1]) C hW1.2.1 (d_M_size l D tc (xs (1 + 6 * t + 1)) mo W u S ed th νm hM) (ci := 3) rfl (hW1.2.1 _ _ hm0) (sx_cwV C 1 kM_L_146 ki_M_size ke_M_size kn_M kc_M_size rfl rfl (by decide +kernel) ⟨Nat.le_of_ble_eq_true rfl, Nat.le_of_ble_eq_true rfl⟩) rfl rfl (Nat.le_of_ble_eq_true rfl) dL_law_1220 ⟨(show 178 + 4 * (t + 1) + 0 ≤ 601024 by omega), (show 90000 + 1042 * (t + 1) + 0 ≤ 7293000 by omega)⟩) (fun r2 ν2 h2 hf2 => ?_)
  obtain ⟨h2, hM2⟩ := h2
  have hW2 := LW_m hW1 hf2
  generalize sx_ov μ1 νm ν2 = μ2 at hW2 ⊢
  refine sx_eqi (r1) (h2.trans h1.symm) ?_
  refine sx_icmp_eq (tgt := 1228) C dL_law_1223 (by decide) (fun c1223 => ?_) (fun c1223 => ?_)
  · exact K μ2 ν1 ν2 f u S ed 0 hW2 hC1 hM2
  · exact absurd rfl c1223
