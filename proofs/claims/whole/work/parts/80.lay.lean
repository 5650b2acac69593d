section LAY2
variable {m B : jmM} {nf nm n d r w W e ff fr a many c : Nat} {G : Nat → KLaw} {P : Pt} {Q : Option Value → jmM → Prop} {x y κ : Int32} {S A0 T0 K0 R : Nat → Int32} {most : Nat → Nat} {s : Nat × Nat × Nat}
theorem reas_0 {V : Nat → Int32} {wide row cl fa : Int32} {p : Int64} : jReasons V wide p row cl fa = 0 ↔ (cl ≤ row ∧ row < fa ∧ V 3 ≤ wide ∧ (V 1).toInt64 ≤ p ∧ p ≤ (V 2).toInt64) := by
  unfold jReasons
  by_cases h1 : cl ≤ row <;> by_cases h2 : row < fa <;> by_cases h3 : V 3 ≤ wide <;> by_cases h4 : (V 1).toInt64 ≤ p <;> by_cases h5 : p ≤ (V 2).toInt64 <;> simp (config := {decide := true}) only [h1, h2, h3, h4, h5, if_true, if_false, and_self, and_true, and_false, false_and, true_and, iff_true, iff_false, ne_eq]
theorem x_reas (hX : XPot B a P) (ha : a + 10 < 115) (hG : GP nf nm n P) (hW : WOk S W) (hw : w < W) (hr : r < n) (hws : mS B (187 + w) = (10, 6)) (hwx : ∀ j, j < 6 → mI B (187 + w) j = S (6 * w + j)) (A T K R : Nat → Int32) : ∃ v : Int32, (v = 0 ↔ kOw S P x n w r = true) ∧ ∀ Q, CC (d + 4) 139 [.ref (187 + w), .ref a, .int (nI r), .int (nI (kCl P x n)), .int (nI (kFf P n))] (mX B A T K R) Q ↔ Q (some (.int v)) (mX B A T K R) := by
  have h6 := hG.2.1
  obtain ⟨h8, hWW⟩ := id hW
  obtain ⟨⟨st, hst, est⟩, -⟩ := hWW w hw
  have i1 : ∀ b, b < 116 ∨ 120 < b → mI (mX B A T K R) b = mI B b := fun b hb => by unfold mX; rw [mI_ne (by omega), mI_ne (by omega), mI_ne (by omega), mI_ne (by omega)]
  have hn := x_n hX hG
  have hc := fun Q => c_Want_reasons (d := d) (m := mX B A T K R) (a := a) (b := 187 + w) (k := st) (n := n) (i := r) (x := nI (kCl P x n)) (y := nI (kFf P n)) (Q := Q) hX.1 hws (by rw [i1 _ (by omega), hwx 0 (by decide)]; exact est) hst (by rw [i1 a (by omega)]; exact hn) h6 hr
  refine ⟨_, ?_, hc⟩
  obtain ⟨⟨g1, -, -, g4, -⟩, g6⟩ := hX.row hG hr
  have eL : mL (mX B A T K R) = mL B := rfl
  rw [i1 (187 + w) (by omega), i1 (a + 4) (by omega), i1 (a + 7) (by omega), eL, g1, g4, g6 st hst, reas_0, hwx 3 (by decide), hwx 1 (by decide), hwx 2 (by decide)]
  have hcl : kCl P x n ≤ n := by unfold kCl; have := (jbrk_le (c := fun _ (f : Int32) => decide (f ≤ 0)) (f := fun r f => f - kNk P x r) n 0 (qS P 8)).2; omega
  have hff : kFf P n ≤ n := by unfold kFf; have := (jfind_le (c := fun r => qR P (6 * r + 5) != 0) n 0).2; omega
  rw [nI_leI (by omega) (by omega), nI_ltI (by omega) (by omega)]
  unfold kOw kWt
  rw [est, jx_nI (by omega)]
  show (_ ∧ _ ∧ _ ∧ _ ≤ jparts (qB P (6 * r + st)) (qR P (6 * r + 3)).toInt64 ∧ jparts (qB P (6 * r + st)) (qR P (6 * r + 3)).toInt64 ≤ _) ↔ _
  generalize jparts (qB P (6 * r + st)) (qR P (6 * r + 3)).toInt64 = p
  rw [Bool.and_eq_true, Bool.and_eq_true, Bool.and_eq_true, Bool.and_eq_true, decide_eq_true_eq, decide_eq_true_eq, decide_eq_true_eq, decide_eq_true_eq, decide_eq_true_eq]
  constructor
  · rintro ⟨a1, a2, a3, a4, a5⟩; exact ⟨⟨a1, a2⟩, ⟨a4, a5⟩, a3⟩
  · rintro ⟨⟨a1, a2⟩, ⟨a4, a5⟩, a3⟩; exact ⟨a1, a2, a3, a4, a5⟩
theorem kRn_1 {okw : Nat → Bool} (h : okw r = true) (hr : r < n) : kRn okw r n = kRn okw (r + 1) n + 1 := by
  have h1 : 1 ≤ kRn okw r n := by
    rcases Nat.eq_zero_or_pos (kRn okw r n) with q | q
    · exfalso
      have b := jfind_le (c := fun e => !okw e) (n - r) r
      have e : jfind (fun e => !okw e) r (n - r) = r := by unfold kRn at q; omega
      have h2 := jfind_end (c := fun e => !okw e) (n - r) r (by omega)
      rw [e, h] at h2
      exact absurd h2 (by simp)
    · exact q
  have := kRn_sub (okw := okw) (t := 1) h1 (show r ≤ n by omega)
  omega
/-- what X needs of the memory to lay -/
def LyH (B : jmM) (a : Nat) (P : Pt) (nf nm n W : Nat) (S : Nat → Int32) : Prop := XL0 (mS B) (mR B) ∧ (∀ w, w < 8 → mR B 114 w = some (187 + w) ∧ mS B (187 + w) = (10, 6)) ∧ XPot B a P ∧ GP nf nm n P ∧ WOk S W ∧ (∀ w, w < W → ∀ j, j < 6 → mI B (187 + w) j = S (6 * w + j)) ∧ mI B 115 5 = nI n ∧ ∀ i, i ≤ n → mI B 119 i = nI (dS (kPl P) 0 i)
theorem X_wants (hB : LyH B a P nf nm n W S) (ha : a + 10 < 115) (hr : r < n) (hA : ∀ i, r < i → i ≤ n → A0 i = nI (most i)) (hb : sB (kPl P) most n r) (hD : ∀ r', r < r' → r' < n → ∀ w, w < W → ∀ j, j < kRn (kOw S P x n w) r' n → kWl S w ≤ dS (kPl P) r' (j + 1) → dS (kPl P) r' (j + 1) * kWc S w + most (r' + j + 1) ≤ most r') : ∀ q w (s : Nat × Nat × Nat) (κ : Int32) (R : Nat → Int32), w + q = W → kRI (kPl P) (kOw S P x n) (kWl S) (kWc S) W n most r s → (0 < s.2.1 → κ = nI s.2.2) → (∀ v, v < w → R v = nI (r + kRn (kOw S P x n v) r n)) → (∀ v, w ≤ v → v < W → R v = nI (r + 1 + kRn (kOw S P x n v) (r + 1) n)) → ∃ κ' R', (0 < (jfor (fun w s => jfor (kIn (kPl P) most r (kWl S w) (kWc S w) w) 0 (kRn (kOw S P x n w) r n) s) w q s).2.1 → κ' = nI (jfor (fun w s => jfor (kIn (kPl P) most r (kWl S w) (kWc S w) w) 0 (kRn (kOw S P x n w) r n) s) w q s).2.2) ∧ (∀ v, v < W → R' v = nI (r + kRn (kOw S P x n v) r n)) ∧ ∀ Q, AW (d + 4) 1 145 [some (.ref 115), some (.ref a), some (.int x), some (.ref 114), some (.int (nI W)), some (.int (nI (kCl P x n))), some (.int (nI (kFf P n))), some (.int (nI r)), some (.int (nI w))] [] (mX B (jup A0 r (nI s.1)) (jup T0 r (nI s.2.1)) (jup K0 r κ) R) Q ↔ AW (d + 4) 1 113 [some (.ref 115), some (.ref a), some (.int x), some (.ref 114), some (.int (nI W)), some (.int (nI (kCl P x n))), some (.int (nI (kFf P n))), some (.int (nI r - 1)), some (.int (nI W))] [] (mX B (jup A0 r (nI (jfor (fun w s => jfor (kIn (kPl P) most r (kWl S w) (kWc S w) w) 0 (kRn (kOw S P x n w) r n) s) w q s).1)) (jup T0 r (nI (jfor (fun w s => jfor (kIn (kPl P) most r (kWl S w) (kWc S w) w) 0 (kRn (kOw S P x n w) r n) s) w q s).2.1)) (jup K0 r κ') R') Q
  | 0, w, s, κ, R, hq, hs, hκ, hR1, hR2 => by
    obtain ⟨hx, hx2, hX, hG, hW, hwx, h5, hle⟩ := hB
    have h8 := hW.1
    refine ⟨κ, R, hκ, fun v hv => hR1 v (by omega), fun Q => ?_⟩
    rw [tX0_lay_145]
    simp (config := {decide := true}) (disch := first | omega | assumption | (simp only [mS_cL, mS_cI, mS_cR, mR_cL, mR_cI]; first | assumption | exact hcr _ | fail)) only [tX0_lay_147, tX0_lay_149, tX0_lay_152, tX0_lay_154, tX0_lay_156, tX0_lay_159, tX0_lay_161, tX0_lay_162, tX0_lay_163, tX0_lay_166, tX0_lay_167, tX0_lay_169, tX0_lay_170, tX0_lay_171, tX0_lay_173, tX0_lay_175, tX0_lay_177, tX0_lay_180, tX0_lay_183, tX0_lay_184, tX0_lay_186, tX0_lay_188, tX0_lay_189, tX0_lay_191, tX0_lay_192, tX0_lay_195, tX0_lay_198, tX0_lay_199, tX0_lay_202, tX0_lay_204, tX0_lay_206, tX0_lay_207, tX0_lay_210, tX0_lay_213, tX0_lay_216, tX0_lay_219, jK_some, jK_none, jc1_int, jc1_ref, jc1_none, jc1_long, jc1_null, jc1_rf, va_rf_some, va_rf_none, mI_cI, mL_cL, mR_cR, cI_cI, cL_cL, jup_eq, jne_1, jne_2, Nat.add_left_cancel_iff, mL_cI, mR_cI, mS_cI, mN_cI, mI_cL, mR_cL, mS_cL, mN_cL, mI_cR, mL_cR, mS_cR, mN_cR, true_and, and_true, true_or, or_true, if_true, if_false, jBool_0, jBool_1, Nat.le_refl, Nat.reduceLeDiff, Nat.reduceEqDiff, Nat.reduceAdd, Nat.reduceSub, reduceIte, Int32.reduceLT, Int32.reduceLE, ne_eq, not_false_eq_true, not_true_eq_false, false_or, or_false, and_false, false_and, reduceCtorEq, jn_4, jn_6, jn_8, jn_9, jn_12, jn_60, jn_100, jn_200, jn_400, jn_600, jn_601, jn_3600, jI_4, jI_6, jI_8, jI_9, jI_12, jI_60, jI_100, jI_200, jI_400, jI_600, jI_601, jI_3600, va_cpy_00, jx_0, jx_6, jx_12, jx_400, jx_600, nI_1, nx_5e, nx_l6, nx_l12, nx_l100, nx_l200, nx_l400, nx_l600, nx_l601, nx_l3600, nx_pos, nx_posN, nx_neg1, nx_m1neg, nx_leF, nx_leT, nx_ltF, nx_ltT, nx_mul6, nI_add, nI_1, jx_nI, nx_4, nx_g4, nx_6, nx_g6, nx_8, nx_g8, nx_9, nx_g9, nx_12, nx_g12, nx_14, nx_g14, nx_60, nx_g60, nx_100, nx_g100, nx_200, nx_g200, nx_400, nx_g400, nx_600, nx_g600, nx_601, nx_g601, nx_3600, nx_g3600, show w = W by omega, Int32.le_refl, ← Int32.sub_eq_add_neg]
    exact Iff.rfl
  | q + 1, w, s, κ, R, hq, hs, hκ, hR1, hR2 => by
    obtain ⟨hx, hx2, hX, hG, hW, hwx, h5, hle⟩ := id hB
    have h8 := hW.1
    have h6 := hG.2.1
    obtain ⟨hw1, hw2⟩ := hx2 w (by omega)
    obtain ⟨v, hv, hre⟩ := x_reas (d := d) (x := x) hX ha hG hW (show w < W by omega) hr hw2 (hwx w (by omega)) (jup A0 r (nI s.1)) (jup T0 r (nI s.2.1)) (jup K0 r κ) R
    have h114 : mS B 114 = (26, 8) := hx.2.2.2.2.2.2.2.2.2.2.2.2.2.2.2.2.2.2.2.2.2.2.2.2.2.2.2.2.2.2.2.2.1
    have e1 : nI W ≤ nI w ↔ False := ⟨fun e => by have := (nI_leI (by omega) (by omega)).mp e; omega, False.elim⟩
    have e2 : (8 : Int32) ≤ nI w ↔ False := ⟨fun e => by have := (nI_leI (a := 8) (by omega) (by omega)).mp e; omega, False.elim⟩
    have hS0 : ∀ A T K R : Nat → Int32, mS (mX B A T K R) = mS B := fun A T K R => rfl
    have hR0 : ∀ A T K R : Nat → Int32, mR (mX B A T K R) = mR B := fun A T K R => rfl
    by_cases hok : kOw S P x n w r = true
    · have hk1 := kRn_1 (okw := kOw S P x n w) hok hr
      obtain ⟨κ1, k1, k2⟩ := c_offerPieces (d := d + 1) (B := B) (A0 := A0) (T0 := T0) (K0 := K0) (R := R) (κ := κ) (w := w) (x := x) hx hG hW (by omega) hr h5 hle hw2 (hwx w (by omega)) hA hb hs hκ (by rw [hR2 w (Nat.le_refl _) (by omega), hk1]; congr 1; omega) (fun t t1 t2 j' tj hL => by
        have hsub := kRn_sub (okw := kOw S P x n w) (t := t) (by omega) (show r ≤ n by omega)
        have hlen := kRn_le (okw := kOw S P x n w) (r := r) (n := n) (by omega)
        exact hD (r + t) (by omega) (by omega) w (by omega) j' (by omega) hL)
      obtain ⟨κ', R', i1, i2, i3⟩ := X_wants hB ha hr hA hb hD q (w + 1) (jfor (kIn (kPl P) most r (kWl S w) (kWc S w) w) 0 (kRn (kOw S P x n w) r n) s) κ1 R (by omega) (kRI_ins (by omega) _ 0 s (by omega) hs) k1 (fun v hv => by
        by_cases e : v = w
        · subst e; rw [hR2 v (Nat.le_refl _) (by omega), hk1]; congr 1; omega
        · exact hR1 v (by omega)) (fun v a b => hR2 v (by omega) b)
      refine ⟨κ', R', i1, i2, fun Q => ?_⟩
      refine Iff.trans ?_ (i3 Q)
      clear i3
      have hv0 := hv.mpr hok
      rw [tX0_lay_145]
      simp (config := {decide := true}) (disch := first | omega | assumption | (simp only [mS_cL, mS_cI, mS_cR, mR_cL, mR_cI]; first | assumption | exact hcr _ | fail)) only [tX0_lay_147, tX0_lay_149, tX0_lay_152, tX0_lay_154, tX0_lay_156, tX0_lay_159, tX0_lay_161, tX0_lay_162, tX0_lay_163, tX0_lay_166, tX0_lay_167, tX0_lay_169, tX0_lay_170, tX0_lay_171, tX0_lay_173, tX0_lay_175, tX0_lay_177, tX0_lay_180, tX0_lay_183, tX0_lay_184, tX0_lay_186, tX0_lay_188, tX0_lay_189, tX0_lay_191, tX0_lay_192, tX0_lay_195, tX0_lay_198, tX0_lay_199, tX0_lay_202, tX0_lay_204, tX0_lay_206, tX0_lay_207, tX0_lay_210, jK_some, jK_none, jc1_int, jc1_ref, jc1_none, jc1_long, jc1_null, jc1_rf, va_rf_some, va_rf_none, mI_cI, mL_cL, mR_cR, cI_cI, cL_cL, jup_eq, jne_1, jne_2, Nat.add_left_cancel_iff, mL_cI, mR_cI, mS_cI, mN_cI, mI_cL, mR_cL, mS_cL, mN_cL, mI_cR, mL_cR, mS_cR, mN_cR, true_and, and_true, true_or, or_true, if_true, if_false, jBool_0, jBool_1, Nat.le_refl, Nat.reduceLeDiff, Nat.reduceEqDiff, Nat.reduceAdd, Nat.reduceSub, reduceIte, Int32.reduceLT, Int32.reduceLE, ne_eq, not_false_eq_true, not_true_eq_false, false_or, or_false, and_false, false_and, reduceCtorEq, jn_4, jn_6, jn_8, jn_9, jn_12, jn_60, jn_100, jn_200, jn_400, jn_600, jn_601, jn_3600, jI_4, jI_6, jI_8, jI_9, jI_12, jI_60, jI_100, jI_200, jI_400, jI_600, jI_601, jI_3600, va_cpy_00, jx_0, jx_6, jx_12, jx_400, jx_600, nI_1, nx_5e, nx_l6, nx_l12, nx_l100, nx_l200, nx_l400, nx_l600, nx_l601, nx_l3600, nx_pos, nx_posN, nx_neg1, nx_m1neg, nx_leF, nx_leT, nx_ltF, nx_ltT, nx_mul6, nI_add, nI_1, jx_nI, nx_4, nx_g4, nx_6, nx_g6, nx_8, nx_g8, nx_9, nx_g9, nx_12, nx_g12, nx_14, nx_g14, nx_60, nx_g60, nx_100, nx_g100, nx_200, nx_g200, nx_400, nx_g400, nx_600, nx_g600, nx_601, nx_g601, nx_3600, nx_g3600, hS0, hR0, h114, hw1, hw2, e1, e2, hre, hv0, hx, k2]
      done
    · have hkf : kOw S P x n w r = false := by simpa using hok
      have hk0 := kRn_0 (okw := kOw S P x n w) hkf hr
      have hv0 : ¬ v = 0 := fun e => hok (hv.mp e)
      obtain ⟨κ', R', i1, i2, i3⟩ := X_wants hB ha hr hA hb hD q (w + 1) s κ (jup R w (nI r)) (by omega) hs hκ (fun v hv => by
        by_cases e : v = w
        · subst e; rw [jup_same, hk0]; rfl
        · rw [jup_ne e]; exact hR1 v (by omega)) (fun v a b => by rw [jup_ne (by omega)]; exact hR2 v (by omega) b)
      have ej : ∀ s, jfor (fun w s => jfor (kIn (kPl P) most r (kWl S w) (kWc S w) w) 0 (kRn (kOw S P x n w) r n) s) w (q + 1) s = jfor (fun w s => jfor (kIn (kPl P) most r (kWl S w) (kWc S w) w) 0 (kRn (kOw S P x n w) r n) s) (w + 1) q s := by
        intro s
        show jfor _ (w + 1) q (jfor (kIn (kPl P) most r (kWl S w) (kWc S w) w) 0 (kRn (kOw S P x n w) r n) s) = _
        rw [hk0]; rfl
      rw [ej]
      refine ⟨κ', R', i1, i2, fun Q => ?_⟩
      refine Iff.trans ?_ (i3 Q)
      clear i3
      have l120 : mI (mX B (jup A0 r (nI s.1)) (jup T0 r (nI s.2.1)) (jup K0 r κ) R) 120 = R := by unfold mX; rw [mI_same]
      have l120' : cI (mX B (jup A0 r (nI s.1)) (jup T0 r (nI s.2.1)) (jup K0 r κ) R) 120 (jup R w (nI r)) = mX B (jup A0 r (nI s.1)) (jup T0 r (nI s.2.1)) (jup K0 r κ) (jup R w (nI r)) := by unfold mX; rw [cI_cI]
      rw [tX0_lay_145]
      simp (config := {decide := true}) (disch := first | omega | assumption | (simp only [mS_cL, mS_cI, mS_cR, mR_cL, mR_cI]; first | assumption | exact hcr _ | fail)) only [tX0_lay_147, tX0_lay_149, tX0_lay_152, tX0_lay_154, tX0_lay_156, tX0_lay_159, tX0_lay_161, tX0_lay_162, tX0_lay_163, tX0_lay_166, tX0_lay_167, tX0_lay_169, tX0_lay_170, tX0_lay_171, tX0_lay_173, tX0_lay_175, tX0_lay_177, tX0_lay_180, tX0_lay_183, tX0_lay_184, tX0_lay_186, tX0_lay_188, tX0_lay_189, tX0_lay_191, tX0_lay_192, tX0_lay_195, tX0_lay_198, tX0_lay_199, tX0_lay_202, tX0_lay_204, tX0_lay_206, tX0_lay_207, tX0_lay_210, jK_some, jK_none, jc1_int, jc1_ref, jc1_none, jc1_long, jc1_null, jc1_rf, va_rf_some, va_rf_none, mI_cI, mL_cL, mR_cR, cI_cI, cL_cL, jup_eq, jne_1, jne_2, Nat.add_left_cancel_iff, mL_cI, mR_cI, mS_cI, mN_cI, mI_cL, mR_cL, mS_cL, mN_cL, mI_cR, mL_cR, mS_cR, mN_cR, true_and, and_true, true_or, or_true, if_true, if_false, jBool_0, jBool_1, Nat.le_refl, Nat.reduceLeDiff, Nat.reduceEqDiff, Nat.reduceAdd, Nat.reduceSub, reduceIte, Int32.reduceLT, Int32.reduceLE, ne_eq, not_false_eq_true, not_true_eq_false, false_or, or_false, and_false, false_and, reduceCtorEq, jn_4, jn_6, jn_8, jn_9, jn_12, jn_60, jn_100, jn_200, jn_400, jn_600, jn_601, jn_3600, jI_4, jI_6, jI_8, jI_9, jI_12, jI_60, jI_100, jI_200, jI_400, jI_600, jI_601, jI_3600, va_cpy_00, jx_0, jx_6, jx_12, jx_400, jx_600, nI_1, nx_5e, nx_l6, nx_l12, nx_l100, nx_l200, nx_l400, nx_l600, nx_l601, nx_l3600, nx_pos, nx_posN, nx_neg1, nx_m1neg, nx_leF, nx_leT, nx_ltF, nx_ltT, nx_mul6, nI_add, nI_1, jx_nI, nx_4, nx_g4, nx_6, nx_g6, nx_8, nx_g8, nx_9, nx_g9, nx_12, nx_g12, nx_14, nx_g14, nx_60, nx_g60, nx_100, nx_g100, nx_200, nx_g200, nx_400, nx_g400, nx_600, nx_g600, nx_601, nx_g601, nx_3600, nx_g3600, hS0, hR0, h114, hw1, hw2, e1, e2, hre, hv0, hx, l120, l120']
      done
def RpX (S : Nat → Int32) (P : Pt) (x : Int32) (n W t : Nat) (A T K R : Nat → Int32) : Prop := (∀ i, t ≤ i → i ≤ n → A i = nI ((kD S P x n W (n - t)).1 i)) ∧ (∀ i, t ≤ i → i < n → T i = nI ((kD S P x n W (n - t)).2.1 i) ∧ (0 < (kD S P x n W (n - t)).2.1 i → K i = nI ((kD S P x n W (n - t)).2.2 i))) ∧ ∀ v, v < W → R v = nI (t + kRn (kOw S P x n v) t n)
theorem X_rows (hB : LyH B a P nf nm n W S) (ha : a + 10 < 115) : ∀ t, t ≤ n → ∀ (A T K R : Nat → Int32), RpX S P x n W t A T K R → ∃ A' T' K' R', RpX S P x n W 0 A' T' K' R' ∧ ∀ Q (l8 : Option Value), AW (d + 4) 1 113 [some (.ref 115), some (.ref a), some (.int x), some (.ref 114), some (.int (nI W)), some (.int (nI (kCl P x n))), some (.int (nI (kFf P n))), some (.int (nI t - 1)), l8] [] (mX B A T K R) Q ↔ Q none (mX B A' T' K' R')
  | 0, _, A, T, K, R, h => by
    refine ⟨A, T, K, R, h, fun Q l8 => ?_⟩
    rw [tX0_lay_113]
    simp (config := {decide := true}) (disch := first | omega | assumption | (simp only [mS_cL, mS_cI, mS_cR, mR_cL, mR_cI]; first | assumption | exact hcr _ | fail)) only [tX0_lay_115, tX0_lay_118, tX0_lay_119, tX0_lay_122, tX0_lay_124, tX0_lay_125, tX0_lay_128, tX0_lay_130, tX0_lay_131, tX0_lay_132, tX0_lay_133, tX0_lay_134, tX0_lay_135, tX0_lay_138, tX0_lay_140, tX0_lay_141, tX0_lay_142, tX0_lay_143, tX0_lay_147, tX0_lay_149, tX0_lay_152, tX0_lay_154, tX0_lay_156, tX0_lay_159, tX0_lay_161, tX0_lay_162, tX0_lay_163, tX0_lay_166, tX0_lay_167, tX0_lay_169, tX0_lay_170, tX0_lay_171, tX0_lay_173, tX0_lay_175, tX0_lay_177, tX0_lay_180, tX0_lay_183, tX0_lay_184, tX0_lay_186, tX0_lay_188, tX0_lay_189, tX0_lay_191, tX0_lay_192, tX0_lay_195, tX0_lay_198, tX0_lay_199, tX0_lay_202, tX0_lay_204, tX0_lay_206, tX0_lay_207, tX0_lay_210, tX0_lay_213, tX0_lay_216, tX0_lay_219, jK_some, jK_none, jc1_int, jc1_ref, jc1_none, jc1_long, jc1_null, jc1_rf, va_rf_some, va_rf_none, mI_cI, mL_cL, mR_cR, cI_cI, cL_cL, jup_eq, jne_1, jne_2, Nat.add_left_cancel_iff, mL_cI, mR_cI, mS_cI, mN_cI, mI_cL, mR_cL, mS_cL, mN_cL, mI_cR, mL_cR, mS_cR, mN_cR, true_and, and_true, true_or, or_true, if_true, if_false, jBool_0, jBool_1, Nat.le_refl, Nat.reduceLeDiff, Nat.reduceEqDiff, Nat.reduceAdd, Nat.reduceSub, reduceIte, Int32.reduceLT, Int32.reduceLE, ne_eq, not_false_eq_true, not_true_eq_false, false_or, or_false, and_false, false_and, reduceCtorEq, jn_4, jn_6, jn_8, jn_9, jn_12, jn_60, jn_100, jn_200, jn_400, jn_600, jn_601, jn_3600, jI_4, jI_6, jI_8, jI_9, jI_12, jI_60, jI_100, jI_200, jI_400, jI_600, jI_601, jI_3600, va_cpy_00, jx_0, jx_6, jx_12, jx_400, jx_600, nI_1, nx_5e, nx_l6, nx_l12, nx_l100, nx_l200, nx_l400, nx_l600, nx_l601, nx_l3600, nx_pos, nx_posN, nx_neg1, nx_m1neg, nx_leF, nx_leT, nx_ltF, nx_ltT, nx_mul6, nI_add, nI_1, jx_nI, nx_4, nx_g4, nx_6, nx_g6, nx_8, nx_g8, nx_9, nx_g9, nx_12, nx_g12, nx_14, nx_g14, nx_60, nx_g60, nx_100, nx_g100, nx_200, nx_g200, nx_400, nx_g400, nx_600, nx_g600, nx_601, nx_g601, nx_3600, nx_g3600, show (nI 0 - 1 < 0) = True from eq_true (by decide)]
    done
  | r + 1, ht, A, T, K, R, ⟨h1, h2, h3⟩ => by
    obtain ⟨hx, hx2, hX, hG, hW, hwx, h5, hle⟩ := id hB
    have h6 := hG.2.1
    have key := kD_s (S := S) (P := P) (x := x) (n := n) (W := W) (r := r) (by omega)
    have hsb := kD_sB (S := S) (P := P) (x := x) (n := n) (W := W) (r := r) hW (by omega)
    have hI := kDp_I (p := kPl P) (ok := kOw S P x n) (Ln := kWl S) (Cn := kWc S) (W := W) (n := n) (n - (r + 1)) (by omega)
    have hA1 := h1 (r + 1) (Nat.le_refl _) (by omega)
    obtain ⟨κ', R1, j1, j2, j3⟩ := X_wants (d := d) (x := x) (A0 := A) (T0 := T) (K0 := K) (most := (kD S P x n W (n - (r + 1))).1) hB ha (show r < n by omega) (fun i a b => h1 i (by omega) b) hsb (fun r' a b w hw => (hI.2 r' (by omega) b).2 w hw) W 0 ((kD S P x n W (n - (r + 1))).1 (r + 1), 0, 0) (K r) R (by omega) ⟨Nat.le_refl _, fun _ => rfl, fun h => absurd h (Nat.lt_irrefl _)⟩ (fun h => absurd h (Nat.lt_irrefl _)) (fun v hv => by omega) (fun v _ hv => h3 v hv)
    have er : jfor (fun w s => jfor (kIn (kPl P) (kD S P x n W (n - (r + 1))).1 r (kWl S w) (kWc S w) w) 0 (kRn (kOw S P x n w) r n) s) 0 W ((kD S P x n W (n - (r + 1))).1 (r + 1), 0, 0) = kRow (kPl P) (kOw S P x n) (kWl S) (kWc S) W n (kD S P x n W (n - (r + 1))).1 r := rfl
    rw [er] at j1 j3
    obtain ⟨A', T', K', R', i1, i2⟩ := X_rows hB ha r (by omega) (jup A r (nI (kRow (kPl P) (kOw S P x n) (kWl S) (kWc S) W n (kD S P x n W (n - (r + 1))).1 r).1)) (jup T r (nI (kRow (kPl P) (kOw S P x n) (kWl S) (kWc S) W n (kD S P x n W (n - (r + 1))).1 r).2.1)) (jup K r κ') R1 (by
      unfold RpX
      rw [key]
      refine ⟨fun i a b => ?_, fun i a b => ?_, j2⟩
      · by_cases e : i = r
        · subst e; dsimp only; rw [jup_same, jup_same]
        · dsimp only; rw [jup_ne e, jup_ne e]; exact h1 i (by omega) b
      · by_cases e : i = r
        · subst e; dsimp only; rw [jup_same, jup_same, jup_same, jup_same]; exact ⟨rfl, j1⟩
        · dsimp only; rw [jup_ne e, jup_ne e, jup_ne e, jup_ne e]; exact h2 i (by omega) b)
    refine ⟨A', T', K', R', i1, fun Q l8 => ?_⟩
    rw [nI_pred]
    refine Iff.trans ?_ (i2 Q (some (.int (nI W))))
    refine Iff.trans ?_ (j3 Q)
    clear i2 j3
    have hS0 : ∀ A T K R : Nat → Int32, mS (mX B A T K R) = mS B := fun A T K R => rfl
    have hR0 : ∀ A T K R : Nat → Int32, mR (mX B A T K R) = mR B := fun A T K R => rfl
    rw [show jup K r (K r) = K from jup_eta]
    unfold mX
    rw [tX0_lay_113]
    simp (config := {decide := true}) (disch := first | omega | assumption | (simp only [mS_cL, mS_cI, mS_cR, mR_cL, mR_cI]; first | assumption | exact hcr _ | fail)) only [tX0_lay_115, tX0_lay_118, tX0_lay_119, tX0_lay_122, tX0_lay_124, tX0_lay_125, tX0_lay_128, tX0_lay_130, tX0_lay_131, tX0_lay_132, tX0_lay_133, tX0_lay_134, tX0_lay_135, tX0_lay_138, tX0_lay_140, tX0_lay_141, tX0_lay_142, tX0_lay_143, jK_some, jK_none, jc1_int, jc1_ref, jc1_none, jc1_long, jc1_null, jc1_rf, va_rf_some, va_rf_none, mI_same, mL_same, mR_same, mI_ne, mL_ne, mR_ne, cI_cI, cL_cL, jup_eq, mL_cI, mR_cI, mS_cI, mN_cI, mI_cL, mR_cL, mS_cL, mN_cL, mI_cR, mL_cR, mS_cR, mN_cR, true_and, and_true, true_or, or_true, if_true, if_false, jBool_0, jBool_1, Nat.le_refl, Nat.reduceLeDiff, Nat.reduceEqDiff, Nat.reduceAdd, Nat.reduceSub, reduceIte, Int32.reduceLT, Int32.reduceLE, ne_eq, not_false_eq_true, not_true_eq_false, false_or, or_false, and_false, false_and, reduceCtorEq, jn_4, jn_6, jn_8, jn_9, jn_12, jn_60, jn_100, jn_200, jn_400, jn_600, jn_601, jn_3600, jI_4, jI_6, jI_8, jI_9, jI_12, jI_60, jI_100, jI_200, jI_400, jI_600, jI_601, jI_3600, va_cpy_00, jx_0, jx_6, jx_12, jx_400, jx_600, nI_1, nx_5e, nx_l6, nx_l12, nx_l100, nx_l200, nx_l400, nx_l600, nx_l601, nx_l3600, nx_pos, nx_posN, nx_neg1, nx_m1neg, nx_leF, nx_leT, nx_ltF, nx_ltT, nx_mul6, nI_add, nI_1, jx_nI, nx_4, nx_g4, nx_6, nx_g6, nx_8, nx_g8, nx_9, nx_g9, nx_12, nx_g12, nx_14, nx_g14, nx_60, nx_g60, nx_100, nx_g100, nx_200, nx_g200, nx_400, nx_g400, nx_600, nx_g600, nx_601, nx_g601, nx_3600, nx_g3600, hx, hA1, cI_sw, cI_sw2, cI_sw3, show (r + 1 = r) = False from eq_false (by omega)]
    exact Iff.rfl
end LAY2
