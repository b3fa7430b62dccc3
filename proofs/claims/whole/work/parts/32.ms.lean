section ZAR
variable {p : Program} {l : Launch} {e : Env} {R : Room} {s : State} {m : MethodId} {args : Array Value} {below : List Frame} {meth : Method} {c : Code} {cc : ByteArray} {nL : Nat} {own : String} {Ts : List Cond} {D : va_G} {cl : List vw_C} {tys : List (ClassId × FieldType)} {E : (Nat → Prop) → State → Heap → Prop} {A : Nat → Prop} {cells slots : Nat} {Q : State → Prop} {μ : sx_M} {pc : Nat} {lv : List (Option Value)} {rest : List Value}
theorem sx_zald (C : sx_C p s m args c cc nL own Ts D cl tys E A) {a n j : Nat} {cA : ClassId} {f : Nat → Int32} {i : Int32} (hd : decode cc pc = .ok (.baload, 1)) (t0 : Nat) (ht : tys[t0]? = some (cA, .boolean)) (hμ : μ a = some (.inl (cA, n, .inl f))) (hi : i = nI j) (hj : j < n) (hn : n < 2 ^ 31) (k : SW p l e R s m args below meth c nL D cl A cells slots Q μ (pc + 1) lv (.int (f j) :: rest)) : SW p l e R s m args below meth c nL D cl A cells slots Q μ pc lv (.int i :: .ref a :: rest) := by
  intro H locs ls hH hS hl
  obtain ⟨ws, hP, hD, hL⟩ := id hH
  obtain ⟨q, hq⟩ := (hL _ _).mp hμ
  subst hi
  refine va_zald C.1.1 C.1.2.1 C.2.1 hP q t0 hq ht (vp_in_nI hj hn) hd ?_
  rw [nI_clamp (Nat.lt_trans hj hn)]
  exact (k H locs ls hH hS hl)
theorem sx_znar (b : Bool) : vp_nar .boolean (b2i b) = b2i b := by cases b <;> rfl
theorem sx_zast (C : sx_C p s m args c cc nL own Ts D cl tys E A) {a n j : Nat} {cA : ClassId} {f : Nat → Int32} {i : Int32} {b : Bool} (hd : decode cc pc = .ok (.bastore, 1)) (t0 : Nat) (ht : tys[t0]? = some (cA, .boolean)) (hμ : μ a = some (.inl (cA, n, .inl f))) (hi : i = nI j) (hj : j < n) (hn : n < 2 ^ 31) (k : SW p l e R s m args below meth c nL D cl A cells slots Q (sx_up μ a (.inl (cA, n, .inl (va_up f j (b2i b))))) (pc + 1) lv rest) : SW p l e R s m args below meth c nL D cl A cells slots Q μ pc lv (.int (b2i b) :: .int i :: .ref a :: rest) := by
  intro H locs ls hH hS hl
  obtain ⟨ws, hP, hD, hL⟩ := id hH
  obtain ⟨q, hq⟩ := (hL _ _).mp hμ
  subst hi
  refine va_zast C.1.1 C.1.2.1 C.2.1 hP hD hS q t0 hq ht (vp_in_nI hj hn) hd (fun H1 locs1 hP1 hD1 hS1 => ?_)
  rw [nI_clamp (Nat.lt_trans hj hn), sx_znar] at hP1 hD1
  exact k H1 locs1 ls ⟨_, hP1, hD1, sx_L_set _ hL hD hq⟩ hS1 hl
end ZAR
/-! the reference's object -/
def nRw (W : Nat) : Nat := 2 ^ (W - 5)
def alM (W : Nat) : Int32 := if W < 5 then nI (2 ^ 2 ^ W - 1) else -1

def okM (k i : Nat) : Prop := k < 10 ∧ i = 0
def ceM (tc : Nat → ClassId) (ad : Nat → Nat) (W : Nat) (u : Nat) (th : Int32) (kn : Bool) (lst : Int32) (sb : Int32) (mk : Nat → Int32) (cd : Nat → Int32) (lk : Nat → Int32) (fl : Nat → Int32) (vr : Nat → Int32) (wd : Nat → Int32) (cn : Nat → Int32) (li : Nat → Int32) (od : Nat → Int32) : Nat → Nat → va_E
  | 0, _ => .inr (3, [.int th, .int (nI W), .int (nI (nRw W)), .int (alM W), .int (nI u), .ref (ad 1), .ref (ad 2), .ref (ad 3), .ref (ad 4), .ref (ad 5), .ref (ad 6), .int (b2i kn), .ref (ad 7), .ref (ad 8), .ref (ad 9), .int lst, .int sb])
  | 1, _ => .inl (tc 0, 40, .inl mk)
  | 2, _ => .inl (tc 0, 40, .inl cd)
  | 3, _ => .inl (tc 0, 40, .inl lk)
  | 4, _ => .inl (tc 0, 40, .inl fl)
  | 5, _ => .inl (tc 0, 40, .inl vr)
  | 6, _ => .inl (tc 0, 83968, .inl wd)
  | 7, _ => .inl (tc 0, 1600, .inl cn)
  | 8, _ => .inl (tc 4, 1600, .inl li)
  | _, _ => .inl (tc 0, 40, .inl od)
def MS (tc : Nat → ClassId) (μ : sx_M) (ad : Nat → Nat) (W : Nat) (u : Nat) (th : Int32) (kn : Bool) (lst : Int32) (sb : Int32) (mk : Nat → Int32) (cd : Nat → Int32) (lk : Nat → Int32) (fl : Nat → Int32) (vr : Nat → Int32) (wd : Nat → Int32) (cn : Nat → Int32) (li : Nat → Int32) (od : Nat → Int32) : Prop := PM μ okM (fun k _ => ad k) (ceM tc ad W u th kn lst sb mk cd lk fl vr wd cn li od)
section MSS
variable {tc : Nat → ClassId} {μ : sx_M} {ad : Nat → Nat} {W : Nat} {u : Nat} {th : Int32} {kn : Bool} {lst : Int32} {sb : Int32} {mk : Nat → Int32} {cd : Nat → Int32} {lk : Nat → Int32} {fl : Nat → Int32} {vr : Nat → Int32} {wd : Nat → Int32} {cn : Nat → Int32} {li : Nat → Int32} {od : Nat → Int32}
theorem MS_f0 (h : MS tc μ ad W u th kn lst sb mk cd lk fl vr wd cn li od) : μ (ad 0) = some (.inr (3, [.int th, .int (nI W), .int (nI (nRw W)), .int (alM W), .int (nI u), .ref (ad 1), .ref (ad 2), .ref (ad 3), .ref (ad 4), .ref (ad 5), .ref (ad 6), .int (b2i kn), .ref (ad 7), .ref (ad 8), .ref (ad 9), .int lst, .int sb])) := h.1 0 0 ⟨by decide, rfl⟩
theorem MS_f1 (h : MS tc μ ad W u th kn lst sb mk cd lk fl vr wd cn li od) : μ (ad 1) = some (.inl (tc 0, 40, .inl mk)) := h.1 1 0 ⟨by decide, rfl⟩
theorem MS_f2 (h : MS tc μ ad W u th kn lst sb mk cd lk fl vr wd cn li od) : μ (ad 2) = some (.inl (tc 0, 40, .inl cd)) := h.1 2 0 ⟨by decide, rfl⟩
theorem MS_f3 (h : MS tc μ ad W u th kn lst sb mk cd lk fl vr wd cn li od) : μ (ad 3) = some (.inl (tc 0, 40, .inl lk)) := h.1 3 0 ⟨by decide, rfl⟩
theorem MS_f4 (h : MS tc μ ad W u th kn lst sb mk cd lk fl vr wd cn li od) : μ (ad 4) = some (.inl (tc 0, 40, .inl fl)) := h.1 4 0 ⟨by decide, rfl⟩
theorem MS_f5 (h : MS tc μ ad W u th kn lst sb mk cd lk fl vr wd cn li od) : μ (ad 5) = some (.inl (tc 0, 40, .inl vr)) := h.1 5 0 ⟨by decide, rfl⟩
theorem MS_f6 (h : MS tc μ ad W u th kn lst sb mk cd lk fl vr wd cn li od) : μ (ad 6) = some (.inl (tc 0, 83968, .inl wd)) := h.1 6 0 ⟨by decide, rfl⟩
theorem MS_f7 (h : MS tc μ ad W u th kn lst sb mk cd lk fl vr wd cn li od) : μ (ad 7) = some (.inl (tc 0, 1600, .inl cn)) := h.1 7 0 ⟨by decide, rfl⟩
theorem MS_f8 (h : MS tc μ ad W u th kn lst sb mk cd lk fl vr wd cn li od) : μ (ad 8) = some (.inl (tc 4, 1600, .inl li)) := h.1 8 0 ⟨by decide, rfl⟩
theorem MS_f9 (h : MS tc μ ad W u th kn lst sb mk cd lk fl vr wd cn li od) : μ (ad 9) = some (.inl (tc 0, 40, .inl od)) := h.1 9 0 ⟨by decide, rfl⟩
theorem MS_u (h : MS tc μ ad W u th kn lst sb mk cd lk fl vr wd cn li od) (u' : Nat) : MS tc (sx_up μ (ad 0) (.inr (3, [.int th, .int (nI W), .int (nI (nRw W)), .int (alM W), .int (nI u'), .ref (ad 1), .ref (ad 2), .ref (ad 3), .ref (ad 4), .ref (ad 5), .ref (ad 6), .int (b2i kn), .ref (ad 7), .ref (ad 8), .ref (ad 9), .int lst, .int sb]))) ad W (u') th kn lst sb mk cd lk fl vr wd cn li od :=
  PM_up (ce' := ceM tc ad W (u') th kn lst sb mk cd lk fl vr wd cn li od) h 0 0 ⟨by decide, rfl⟩ (fun k i hk hne => by
    obtain ⟨hk1, hk2⟩ := hk
    rcases k with _ | _ | _ | _ | _ | _ | _ | _ | _ | _ | k <;> first | rfl | (exfalso; omega) | (exact absurd ⟨rfl, hk2⟩ hne))
theorem MS_th (h : MS tc μ ad W u th kn lst sb mk cd lk fl vr wd cn li od) (th' : Int32) : MS tc (sx_up μ (ad 0) (.inr (3, [.int th', .int (nI W), .int (nI (nRw W)), .int (alM W), .int (nI u), .ref (ad 1), .ref (ad 2), .ref (ad 3), .ref (ad 4), .ref (ad 5), .ref (ad 6), .int (b2i kn), .ref (ad 7), .ref (ad 8), .ref (ad 9), .int lst, .int sb]))) ad W u (th') kn lst sb mk cd lk fl vr wd cn li od :=
  PM_up (ce' := ceM tc ad W u (th') kn lst sb mk cd lk fl vr wd cn li od) h 0 0 ⟨by decide, rfl⟩ (fun k i hk hne => by
    obtain ⟨hk1, hk2⟩ := hk
    rcases k with _ | _ | _ | _ | _ | _ | _ | _ | _ | _ | k <;> first | rfl | (exfalso; omega) | (exact absurd ⟨rfl, hk2⟩ hne))
theorem MS_kn (h : MS tc μ ad W u th kn lst sb mk cd lk fl vr wd cn li od) (kn' : Bool) : MS tc (sx_up μ (ad 0) (.inr (3, [.int th, .int (nI W), .int (nI (nRw W)), .int (alM W), .int (nI u), .ref (ad 1), .ref (ad 2), .ref (ad 3), .ref (ad 4), .ref (ad 5), .ref (ad 6), .int (b2i kn'), .ref (ad 7), .ref (ad 8), .ref (ad 9), .int lst, .int sb]))) ad W u th (kn') lst sb mk cd lk fl vr wd cn li od :=
  PM_up (ce' := ceM tc ad W u th (kn') lst sb mk cd lk fl vr wd cn li od) h 0 0 ⟨by decide, rfl⟩ (fun k i hk hne => by
    obtain ⟨hk1, hk2⟩ := hk
    rcases k with _ | _ | _ | _ | _ | _ | _ | _ | _ | _ | k <;> first | rfl | (exfalso; omega) | (exact absurd ⟨rfl, hk2⟩ hne))
theorem MS_lst (h : MS tc μ ad W u th kn lst sb mk cd lk fl vr wd cn li od) (lst' : Int32) : MS tc (sx_up μ (ad 0) (.inr (3, [.int th, .int (nI W), .int (nI (nRw W)), .int (alM W), .int (nI u), .ref (ad 1), .ref (ad 2), .ref (ad 3), .ref (ad 4), .ref (ad 5), .ref (ad 6), .int (b2i kn), .ref (ad 7), .ref (ad 8), .ref (ad 9), .int lst', .int sb]))) ad W u th kn (lst') sb mk cd lk fl vr wd cn li od :=
  PM_up (ce' := ceM tc ad W u th kn (lst') sb mk cd lk fl vr wd cn li od) h 0 0 ⟨by decide, rfl⟩ (fun k i hk hne => by
    obtain ⟨hk1, hk2⟩ := hk
    rcases k with _ | _ | _ | _ | _ | _ | _ | _ | _ | _ | k <;> first | rfl | (exfalso; omega) | (exact absurd ⟨rfl, hk2⟩ hne))
theorem MS_sb (h : MS tc μ ad W u th kn lst sb mk cd lk fl vr wd cn li od) (sb' : Int32) : MS tc (sx_up μ (ad 0) (.inr (3, [.int th, .int (nI W), .int (nI (nRw W)), .int (alM W), .int (nI u), .ref (ad 1), .ref (ad 2), .ref (ad 3), .ref (ad 4), .ref (ad 5), .ref (ad 6), .int (b2i kn), .ref (ad 7), .ref (ad 8), .ref (ad 9), .int lst, .int sb']))) ad W u th kn lst (sb') mk cd lk fl vr wd cn li od :=
  PM_up (ce' := ceM tc ad W u th kn lst (sb') mk cd lk fl vr wd cn li od) h 0 0 ⟨by decide, rfl⟩ (fun k i hk hne => by
    obtain ⟨hk1, hk2⟩ := hk
    rcases k with _ | _ | _ | _ | _ | _ | _ | _ | _ | _ | k <;> first | rfl | (exfalso; omega) | (exact absurd ⟨rfl, hk2⟩ hne))
theorem MS_mk (h : MS tc μ ad W u th kn lst sb mk cd lk fl vr wd cn li od) (mk' : Nat → Int32) : MS tc (sx_up μ (ad 1) (.inl (tc 0, 40, .inl mk'))) ad W u th kn lst sb (mk') cd lk fl vr wd cn li od :=
  PM_up (ce' := ceM tc ad W u th kn lst sb (mk') cd lk fl vr wd cn li od) h 1 0 ⟨by decide, rfl⟩ (fun k i hk hne => by
    obtain ⟨hk1, hk2⟩ := hk
    rcases k with _ | _ | _ | _ | _ | _ | _ | _ | _ | _ | k <;> first | rfl | (exfalso; omega) | (exact absurd ⟨rfl, hk2⟩ hne))
theorem MS_cd (h : MS tc μ ad W u th kn lst sb mk cd lk fl vr wd cn li od) (cd' : Nat → Int32) : MS tc (sx_up μ (ad 2) (.inl (tc 0, 40, .inl cd'))) ad W u th kn lst sb mk (cd') lk fl vr wd cn li od :=
  PM_up (ce' := ceM tc ad W u th kn lst sb mk (cd') lk fl vr wd cn li od) h 2 0 ⟨by decide, rfl⟩ (fun k i hk hne => by
    obtain ⟨hk1, hk2⟩ := hk
    rcases k with _ | _ | _ | _ | _ | _ | _ | _ | _ | _ | k <;> first | rfl | (exfalso; omega) | (exact absurd ⟨rfl, hk2⟩ hne))
theorem MS_lk (h : MS tc μ ad W u th kn lst sb mk cd lk fl vr wd cn li od) (lk' : Nat → Int32) : MS tc (sx_up μ (ad 3) (.inl (tc 0, 40, .inl lk'))) ad W u th kn lst sb mk cd (lk') fl vr wd cn li od :=
  PM_up (ce' := ceM tc ad W u th kn lst sb mk cd (lk') fl vr wd cn li od) h 3 0 ⟨by decide, rfl⟩ (fun k i hk hne => by
    obtain ⟨hk1, hk2⟩ := hk
    rcases k with _ | _ | _ | _ | _ | _ | _ | _ | _ | _ | k <;> first | rfl | (exfalso; omega) | (exact absurd ⟨rfl, hk2⟩ hne))
theorem MS_fl (h : MS tc μ ad W u th kn lst sb mk cd lk fl vr wd cn li od) (fl' : Nat → Int32) : MS tc (sx_up μ (ad 4) (.inl (tc 0, 40, .inl fl'))) ad W u th kn lst sb mk cd lk (fl') vr wd cn li od :=
  PM_up (ce' := ceM tc ad W u th kn lst sb mk cd lk (fl') vr wd cn li od) h 4 0 ⟨by decide, rfl⟩ (fun k i hk hne => by
    obtain ⟨hk1, hk2⟩ := hk
    rcases k with _ | _ | _ | _ | _ | _ | _ | _ | _ | _ | k <;> first | rfl | (exfalso; omega) | (exact absurd ⟨rfl, hk2⟩ hne))
theorem MS_vr (h : MS tc μ ad W u th kn lst sb mk cd lk fl vr wd cn li od) (vr' : Nat → Int32) : MS tc (sx_up μ (ad 5) (.inl (tc 0, 40, .inl vr'))) ad W u th kn lst sb mk cd lk fl (vr') wd cn li od :=
  PM_up (ce' := ceM tc ad W u th kn lst sb mk cd lk fl (vr') wd cn li od) h 5 0 ⟨by decide, rfl⟩ (fun k i hk hne => by
    obtain ⟨hk1, hk2⟩ := hk
    rcases k with _ | _ | _ | _ | _ | _ | _ | _ | _ | _ | k <;> first | rfl | (exfalso; omega) | (exact absurd ⟨rfl, hk2⟩ hne))
theorem MS_wd (h : MS tc μ ad W u th kn lst sb mk cd lk fl vr wd cn li od) (wd' : Nat → Int32) : MS tc (sx_up μ (ad 6) (.inl (tc 0, 83968, .inl wd'))) ad W u th kn lst sb mk cd lk fl vr (wd') cn li od :=
  PM_up (ce' := ceM tc ad W u th kn lst sb mk cd lk fl vr (wd') cn li od) h 6 0 ⟨by decide, rfl⟩ (fun k i hk hne => by
    obtain ⟨hk1, hk2⟩ := hk
    rcases k with _ | _ | _ | _ | _ | _ | _ | _ | _ | _ | k <;> first | rfl | (exfalso; omega) | (exact absurd ⟨rfl, hk2⟩ hne))
theorem MS_cn (h : MS tc μ ad W u th kn lst sb mk cd lk fl vr wd cn li od) (cn' : Nat → Int32) : MS tc (sx_up μ (ad 7) (.inl (tc 0, 1600, .inl cn'))) ad W u th kn lst sb mk cd lk fl vr wd (cn') li od :=
  PM_up (ce' := ceM tc ad W u th kn lst sb mk cd lk fl vr wd (cn') li od) h 7 0 ⟨by decide, rfl⟩ (fun k i hk hne => by
    obtain ⟨hk1, hk2⟩ := hk
    rcases k with _ | _ | _ | _ | _ | _ | _ | _ | _ | _ | k <;> first | rfl | (exfalso; omega) | (exact absurd ⟨rfl, hk2⟩ hne))
theorem MS_li (h : MS tc μ ad W u th kn lst sb mk cd lk fl vr wd cn li od) (li' : Nat → Int32) : MS tc (sx_up μ (ad 8) (.inl (tc 4, 1600, .inl li'))) ad W u th kn lst sb mk cd lk fl vr wd cn (li') od :=
  PM_up (ce' := ceM tc ad W u th kn lst sb mk cd lk fl vr wd cn (li') od) h 8 0 ⟨by decide, rfl⟩ (fun k i hk hne => by
    obtain ⟨hk1, hk2⟩ := hk
    rcases k with _ | _ | _ | _ | _ | _ | _ | _ | _ | _ | k <;> first | rfl | (exfalso; omega) | (exact absurd ⟨rfl, hk2⟩ hne))
theorem MS_od (h : MS tc μ ad W u th kn lst sb mk cd lk fl vr wd cn li od) (od' : Nat → Int32) : MS tc (sx_up μ (ad 9) (.inl (tc 0, 40, .inl od'))) ad W u th kn lst sb mk cd lk fl vr wd cn li (od') :=
  PM_up (ce' := ceM tc ad W u th kn lst sb mk cd lk fl vr wd cn li (od')) h 9 0 ⟨by decide, rfl⟩ (fun k i hk hne => by
    obtain ⟨hk1, hk2⟩ := hk
    rcases k with _ | _ | _ | _ | _ | _ | _ | _ | _ | _ | k <;> first | rfl | (exfalso; omega) | (exact absurd ⟨rfl, hk2⟩ hne))
end MSS
/-- a row of the reference's words -/
def rowM (wd : Nat → Int32) (n e : Nat) : Nat → Bool := fun w => decide (w < 32 * n) && bI (wd (2048 * e + w / 32)) (w % 32)
def MP (W u : Nat) (S : Nat → Nat → Bool) (ed : Nat → Nat → Nat) (kn : Bool) (mk cd lk fl vr wd cn li : Nat → Int32) : Prop :=
  (∀ e, e < u → mk e = nI (ed 0 e) ∧ lk e = nI (ed 1 e) ∧ fl e = nI (ed 2 e) ∧ cd e = nI (ed 3 e) ∧ vr e = nI (ed 4 e)) ∧ (∀ e, e < u → rowM wd (nRw W) e = S e) ∧ (kn = true → ∀ a, a < u → ∀ b, b < u → cn (40 * a + b) = nI (cm W S a b) ∧ li (40 * a + b) = b2i (lsB W S a b))
def MInv (tc : Nat → ClassId) (μ : sx_M) (x W u : Nat) (S : Nat → Nat → Bool) (ed : Nat → Nat → Nat) (th : Int32) : Prop :=
  AW W u S ed ∧ ∃ ad kn lst sb mk cd lk fl vr wd cn li od, ad 0 = x ∧ MS tc μ ad W u th kn lst sb mk cd lk fl vr wd cn li od ∧ MP W u S ed kn mk cd lk fl vr wd cn li
theorem MInv_of {tc : Nat → ClassId} {μ : sx_M} {W u : Nat} {S : Nat → Nat → Bool} {ed : Nat → Nat → Nat} {th : Int32} {ad kn lst sb mk cd lk fl vr wd cn li od} (hA : AW W u S ed) (hS : MS tc μ ad W u th kn lst sb mk cd lk fl vr wd cn li od) (hP : MP W u S ed kn mk cd lk fl vr wd cn li) : MInv tc μ (ad 0) W u S ed th := ⟨hA, ad, kn, lst, sb, mk, cd, lk, fl, vr, wd, cn, li, od, rfl, hS, hP⟩
theorem nRw_le {W : Nat} (h : W ≤ 16) : nRw W ≤ 2048 := by
  unfold nRw
  exact Nat.le_trans (Nat.pow_le_pow_right (by decide) (show W - 5 ≤ 11 by omega)) (by decide)
theorem nRw_32 {W : Nat} : 32 * nRw W = 2 ^ max W 5 := by
  unfold nRw
  rw [show 32 = 2 ^ 5 from rfl, ← Nat.pow_add]
  congr 1
  omega
theorem nRw_W {W : Nat} : 2 ^ W ≤ 32 * nRw W := by
  rw [nRw_32]
  exact Nat.pow_le_pow_right (by decide) (by omega)
theorem rowM_at {wd : Nat → Int32} {n e k i : Nat} (hk : k < n) (hi : i < 32) : rowM wd n e (32 * k + i) = bI (wd (2048 * e + k)) i := by
  unfold rowM
  rw [decide_eq_true (show 32 * k + i < 32 * n by omega), Bool.true_and, show (32 * k + i) / 32 = k by omega, show (32 * k + i) % 32 = i by omega]
theorem rowM_in {wd : Nat → Int32} {n e w : Nat} (h : w < 32 * n) : rowM wd n e w = bI (wd (2048 * e + w / 32)) (w % 32) := by
  unfold rowM
  rw [decide_eq_true h, Bool.true_and]
/-! numbers -/
theorem nI_mul (a b : Nat) : nI a * nI b = nI (a * b) := (Int32.ofNat_mul a b).symm
theorem nI_div {n k : Nat} (hn : n < 2 ^ 31) (hk : k < 2 ^ 31) (h0 : 0 < k) : nI n / nI k = nI (n / k) := by
  apply Int32.toInt_inj.mp
  have h1 : n / k ≤ n := Nat.div_le_self n k
  rw [Int32.toInt_div, nI_toInt hn, nI_toInt hk, ← Int.ofNat_tdiv]
  generalize n / k = q at h1 ⊢
  rw [nI_toInt (by omega), Int.bmod_eq_of_le (by omega) (by omega)]
theorem nI_rem {n k : Nat} (hn : n < 2 ^ 31) (hk : k < 2 ^ 31) (h0 : 0 < k) : nI n - nI n / nI k * nI k = nI (n % k) := by
  rw [nI_div hn hk h0, nI_mul]
  have e : nI n = nI (n % k) + nI (n / k * k) := by
    rw [nI_add]
    congr 1
    have := Nat.mod_add_div n k
    rw [Nat.mul_comm (n / k) k]
    exact this.symm
  rw [e, Int32.add_sub_cancel]
theorem b2i_ff : b2i false = 0 := rfl
theorem b2i_tt : b2i true = 1 := rfl
theorem b2i_inj {a b : Bool} (h : b2i a = b2i b) : a = b := by cases a <;> cases b <;> first | rfl | (exact absurd h (by decide))

