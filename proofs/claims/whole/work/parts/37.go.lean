/-! ===== both go on ===== -/
def XLaws (m : jmM) (G : Nat → KLaw) (nf nm : Nat) : Prop := (∀ t, t < nf → LX m (12 + 6 * t) (G t)) ∧ ∀ t, t < nm → LX m (38 + 6 * t) (G (4 + t))
def MLaws (m : jmM) (c : Nat) (G : Nat → KLaw) (nf nm : Nat) : Prop := (∀ t, t < nf → LM m c t (G t)) ∧ ∀ t, t < nm → LM m c (4 + t) (G (4 + t))
def KLaws (G : Nat → KLaw) (nf nm : Nat) : Prop := nf ≤ 4 ∧ nm ≤ 8 ∧ (∀ t, t < nf → KOk (G t)) ∧ ∀ t, t < nm → KOk (G (4 + t))
def kMn (G : Nat → KLaw) (P : Pt) : Pt := kMin (G (jx (qS P 1))) (G (4 + jx (qS P 2))) P
def kGo (G : Nat → KLaw) : Nat → Pt → Nat × Pt
  | 0, P => (0, P)
  | k + 1, P => if qS P 0 = 1 then ((kGo G k (kMn G P)).1 + 1, (kGo G k (kMn G P)).2) else (0, P)
section GO
variable {d a c n nf nm N : Nat} {m m1 m2 : jmM} {G : Nat → KLaw} {P : Pt}
theorem kMn_GP (hk : KLaws G nf nm) (h : GP nf nm n P) (h1 : qS P 0 = 1) : GP nf nm (n + 1) (kMn G P) ∧ n < 600 ∧ ∃ f g, f < nf ∧ g < nm ∧ qS P 1 = nI f ∧ qS P 2 = nI g ∧ GP1 nf nm n P ∧ kMn G P = kMin (G f) (G (4 + g)) P := by
  obtain ⟨hn, h6, h | ⟨-, h⟩⟩ := h
  · rw [h.1] at h1
    exact absurd h1 (by decide)
  · obtain ⟨⟨f, hf, ef⟩, ⟨g, hg, eg⟩, -⟩ := id h
    have e : kMn G P = kMin (G f) (G (4 + g)) P := by
      unfold kMn
      rw [ef, eg, jx_nI (by have := hk.1; omega), jx_nI (by have := hk.2.1; omega)]
    have h2 := (h.2.2.2.2.1 h1).1
    obtain ⟨r1, r2, r3⟩ := kMin_GP (Km := G (4 + g)) (hk.2.2.1 f hf) hn h h1
    rw [e]
    exact ⟨⟨r2, by omega, Or.inr ⟨r3, r1⟩⟩, h2, f, g, hf, hg, ef, eg, h, rfl⟩
theorem kGo_GP (hk : KLaws G nf nm) : ∀ k n P, GP nf nm n P → ∃ n', n ≤ n' ∧ GP nf nm n' (kGo G k P).2
  | 0, n, P, h => ⟨n, Nat.le_refl _, h⟩
  | k + 1, n, P, h => by
    unfold kGo
    by_cases h1 : qS P 0 = 1
    · rw [if_pos h1]
      obtain ⟨n', h2, h3⟩ := kGo_GP hk k (n + 1) (kMn G P) (kMn_GP hk h h1).1
      exact ⟨n', by omega, h3⟩
    · rw [if_neg h1]; exact ⟨n, Nat.le_refl _, h⟩
theorem kGo_le : ∀ k P, (kGo G k P).1 ≤ k
  | 0, _ => Nat.le_refl _
  | k + 1, P => by
    unfold kGo
    split
    · have := kGo_le k (kMn G P)
      show (kGo G k (kMn G P)).1 + 1 ≤ k + 1
      omega
    · exact Nat.zero_le _
theorem XFr.refl {e t : Nat} (h : mI m e 2 = nI t) : XFr m m a e := ⟨rfl, rfl, rfl, rfl, fun _ _ _ _ => rfl, fun _ _ _ _ _ _ => rfl, t, h⟩
theorem XFr.trans {e : Nat} (h : XFr m m1 a e) (h' : XFr m1 m2 a e) : XFr m m2 a e := by
  obtain ⟨a1, a2, a3, a4, a5, a6, -⟩ := h
  obtain ⟨b1, b2, b3, b4, b5, b6, b7⟩ := h'
  exact ⟨b1.trans a1, b2.trans a2, b3.trans a3, b4.trans a4, fun b h1 h2 h3 => (b5 b h1 h2 h3).trans (a5 b h1 h2 h3), fun b h1 h2 h3 h4 h5 => (b6 b h1 h2 h3 h4 h5).trans (a6 b h1 h2 h3 h4 h5), b7⟩
theorem LX_fr {b : Nat} {K : KLaw} (hS : mS m1 = mS m) (hR : mR m1 = mR m) (hI : ∀ j, b ≤ j → j ≤ b + 5 → mI m1 j = mI m j) (h : LX m b K) : LX m1 b K := by
  unfold LX at h ⊢
  rw [hS, hR, hI b (by omega) (by omega), hI (b + 1) (by omega) (by omega), hI (b + 2) (by omega) (by omega), hI (b + 3) (by omega) (by omega), hI (b + 4) (by omega) (by omega), hI (b + 5) (by omega) (by omega)]
  exact h
theorem XLaws_fr (hnf : nf ≤ 4) (hnm : nm ≤ 8) (hS : mS m1 = mS m) (hR : mR m1 = mR m) (hI : ∀ j, 12 ≤ j → j < 86 → mI m1 j = mI m j) (h : XLaws m G nf nm) : XLaws m1 G nf nm :=
  ⟨fun t ht => LX_fr hS hR (fun j h1 h2 => hI j (by omega) (by omega)) (h.1 t ht), fun t ht => LX_fr hS hR (fun j h1 h2 => hI j (by omega) (by omega)) (h.2 t ht)⟩
theorem l_X_goOn (hk : KLaws G nf nm) (ha : 89 ≤ a) (hN : N ≤ 600) : ∀ k j n (m : jmM) (P : Pt), j + k = N → XPot m a P → GP nf nm n P → XLaws m G nf nm → DeskL (mS m) (mR m) 86 → (∃ t, mI m 86 2 = nI t) → ∃ m', (∀ Q : Option Value → jmM → Prop, Q (some (.int (nI (j + (kGo G k P).1)))) m' → AW (d + 8) 53 2 [some (.ref a), some (.int (nI N)), some (.ref 86), some (.int (nI j))] [] m Q) ∧ XPot m' a (kGo G k P).2 ∧ XFr m m' a 86
  | 0, j, n, m, P, hj, hX, hG, hl, he, ⟨t, ht⟩ => by
    refine ⟨m, fun Q hQ => ?_, hX, XFr.refl ht⟩
    rw [tX5_goOn_2]
    simp (config := {decide := true}) (disch := first | omega | assumption | (simp only [mS_cL, mS_cI, mS_cR, mR_cL, mR_cI]; first | assumption | exact hcr _ | fail)) only [tX5_goOn_0, tX5_goOn_1, tX5_goOn_3, tX5_goOn_4, tX5_goOn_7, tX5_goOn_8, tX5_goOn_11, tX5_goOn_12, tX5_goOn_15, tX5_goOn_16, tX5_goOn_17, tX5_goOn_20, tX5_goOn_23, tX5_goOn_26, tX5_goOn_27, jK_some, jK_none, jc1_int, jc1_ref, jc1_none, jc1_long, jc1_null, jc1_rf, va_rf_some, va_rf_none, mI_cI, mL_cL, mR_cR, cI_cI, cL_cL, jup_eq, jne_1, jne_2, Nat.add_left_cancel_iff, mL_cI, mR_cI, mS_cI, mN_cI, mI_cL, mR_cL, mS_cL, mN_cL, mI_cR, mL_cR, mS_cR, mN_cR, true_and, and_true, true_or, or_true, if_true, if_false, jBool_0, jBool_1, Nat.le_refl, Nat.reduceLeDiff, Nat.reduceEqDiff, Nat.reduceAdd, Nat.reduceSub, reduceIte, Int32.reduceLT, Int32.reduceLE, ne_eq, not_false_eq_true, not_true_eq_false, false_or, or_false, and_false, false_and, reduceCtorEq, jn_4, jn_6, jn_8, jn_9, jn_12, jn_60, jn_100, jn_200, jn_400, jn_600, jn_601, jn_3600, jI_4, jI_6, jI_8, jI_9, jI_12, jI_60, jI_100, jI_200, jI_400, jI_600, jI_601, jI_3600, va_cpy_00, jx_0, jx_6, jx_12, jx_400, jx_600, nI_1, nx_5e, nx_l6, nx_l12, nx_l100, nx_l200, nx_l400, nx_l600, nx_l601, nx_l3600, nx_pos, nx_posN, nx_neg1, nx_m1neg, nx_leF, nx_leT, nx_ltF, nx_ltT, nx_mul6, nI_add, nI_1, jx_nI, nx_4, nx_g4, nx_6, nx_g6, nx_8, nx_g8, nx_9, nx_g9, nx_12, nx_g12, nx_14, nx_g14, nx_60, nx_g60, nx_100, nx_g100, nx_200, nx_g200, nx_400, nx_g400, nx_600, nx_g600, nx_601, nx_g601, nx_3600, nx_g3600, show j = N from by omega]
    have : j = N := by omega
    subst this
    exact hQ
  | k + 1, j, n, m, P, hj, hX, hG, hl, he, ⟨t, ht⟩ => by
    have hP := hX.1
    have h3 : mI m a 3 = qS P 0 := hX.2.1.1.1
    unfold kGo
    by_cases h1 : qS P 0 = 1
    · rw [if_pos h1]
      obtain ⟨hG', h6, f, g, hf, hg, ef, eg, h1', ek⟩ := kMn_GP hk hG h1
      have hnf := hk.1
      have hnm := hk.2.1
      obtain ⟨rF, rM⟩ := hX.2.1.2.2.2 (by rw [h1]; decide)
      obtain ⟨mA, c1, c2, c3⟩ := X_pass (d := d) (e := 86) (f := 12 + 6 * f) (g := 38 + 6 * g) hX h1' hG.1 h1 he ht (by omega) (by rw [rF, ef]; show some (12 + 6 * jx (nI f)) = _; rw [jx_nI (by omega)]) (by rw [rM, eg]; show some (38 + 6 * jx (nI g)) = _; rw [jx_nI (by omega)]) (hl.1 f hf) (hl.2 g hg) (hk.2.2.1 f hf) (hk.2.2.2 g hg) (by omega) (by omega) (by omega) (by omega) (by show _ < 1000000; omega) (by show _ < 1000000; omega)
      rw [← ek] at c2
      have hlA : XLaws mA G nf nm := XLaws_fr hnf hnm c3.1 c3.2.1 (fun j h1 h2 => c3.2.2.2.2.1 j (by omega) (by omega) (by omega)) hl
      obtain ⟨mB, d1, d2, d3⟩ := l_X_goOn hk ha hN k (j + 1) (n + 1) mA (kMn G P) (by omega) c2 hG' hlA (by rw [c3.1, c3.2.1]; exact he) c3.2.2.2.2.2.2
      refine ⟨mB, fun Q hQ => ?_, d2, c3.trans d3⟩
      rw [tX5_goOn_2]
      simp (config := {decide := true}) (disch := first | omega | assumption | (simp only [mS_cL, mS_cI, mS_cR, mR_cL, mR_cI]; first | assumption | exact hcr _ | fail)) only [tX5_goOn_0, tX5_goOn_1, tX5_goOn_3, tX5_goOn_4, tX5_goOn_7, tX5_goOn_8, tX5_goOn_11, tX5_goOn_12, tX5_goOn_15, tX5_goOn_16, tX5_goOn_17, tX5_goOn_20, tX5_goOn_23, tX5_goOn_26, tX5_goOn_27, jK_some, jK_none, jc1_int, jc1_ref, jc1_none, jc1_long, jc1_null, jc1_rf, va_rf_some, va_rf_none, mI_cI, mL_cL, mR_cR, cI_cI, cL_cL, jup_eq, jne_1, jne_2, Nat.add_left_cancel_iff, mL_cI, mR_cI, mS_cI, mN_cI, mI_cL, mR_cL, mS_cL, mN_cL, mI_cR, mL_cR, mS_cR, mN_cR, true_and, and_true, true_or, or_true, if_true, if_false, jBool_0, jBool_1, Nat.le_refl, Nat.reduceLeDiff, Nat.reduceEqDiff, Nat.reduceAdd, Nat.reduceSub, reduceIte, Int32.reduceLT, Int32.reduceLE, ne_eq, not_false_eq_true, not_true_eq_false, false_or, or_false, and_false, false_and, reduceCtorEq, jn_4, jn_6, jn_8, jn_9, jn_12, jn_60, jn_100, jn_200, jn_400, jn_600, jn_601, jn_3600, jI_4, jI_6, jI_8, jI_9, jI_12, jI_60, jI_100, jI_200, jI_400, jI_600, jI_601, jI_3600, va_cpy_00, jx_0, jx_6, jx_12, jx_400, jx_600, nI_1, nx_5e, nx_l6, nx_l12, nx_l100, nx_l200, nx_l400, nx_l600, nx_l601, nx_l3600, nx_pos, nx_posN, nx_neg1, nx_m1neg, nx_leF, nx_leT, nx_ltF, nx_ltT, nx_mul6, nI_add, nI_1, jx_nI, nx_4, nx_g4, nx_6, nx_g6, nx_8, nx_g8, nx_9, nx_g9, nx_12, nx_g12, nx_14, nx_g14, nx_60, nx_g60, nx_100, nx_g100, nx_200, nx_g200, nx_400, nx_g400, nx_600, nx_g600, nx_601, nx_g601, nx_3600, nx_g3600, hP, h3, h1, c1.iff]
      refine d1 Q ?_
      rw [show j + 1 + (kGo G k (kMn G P)).1 = j + ((kGo G k (kMn G P)).1 + 1) by omega]
      exact hQ
    · rw [if_neg h1]
      refine ⟨m, fun Q hQ => ?_, hX, XFr.refl ht⟩
      rw [tX5_goOn_2]
      simp (config := {decide := true}) (disch := first | omega | assumption | (simp only [mS_cL, mS_cI, mS_cR, mR_cL, mR_cI]; first | assumption | exact hcr _ | fail)) only [tX5_goOn_0, tX5_goOn_1, tX5_goOn_3, tX5_goOn_4, tX5_goOn_7, tX5_goOn_8, tX5_goOn_11, tX5_goOn_12, tX5_goOn_15, tX5_goOn_16, tX5_goOn_17, tX5_goOn_20, tX5_goOn_23, tX5_goOn_26, tX5_goOn_27, jK_some, jK_none, jc1_int, jc1_ref, jc1_none, jc1_long, jc1_null, jc1_rf, va_rf_some, va_rf_none, mI_cI, mL_cL, mR_cR, cI_cI, cL_cL, jup_eq, jne_1, jne_2, Nat.add_left_cancel_iff, mL_cI, mR_cI, mS_cI, mN_cI, mI_cL, mR_cL, mS_cL, mN_cL, mI_cR, mL_cR, mS_cR, mN_cR, true_and, and_true, true_or, or_true, if_true, if_false, jBool_0, jBool_1, Nat.le_refl, Nat.reduceLeDiff, Nat.reduceEqDiff, Nat.reduceAdd, Nat.reduceSub, reduceIte, Int32.reduceLT, Int32.reduceLE, ne_eq, not_false_eq_true, not_true_eq_false, false_or, or_false, and_false, false_and, reduceCtorEq, jn_4, jn_6, jn_8, jn_9, jn_12, jn_60, jn_100, jn_200, jn_400, jn_600, jn_601, jn_3600, jI_4, jI_6, jI_8, jI_9, jI_12, jI_60, jI_100, jI_200, jI_400, jI_600, jI_601, jI_3600, va_cpy_00, jx_0, jx_6, jx_12, jx_400, jx_600, nI_1, nx_5e, nx_l6, nx_l12, nx_l100, nx_l200, nx_l400, nx_l600, nx_l601, nx_l3600, nx_pos, nx_posN, nx_neg1, nx_m1neg, nx_leF, nx_leT, nx_ltF, nx_ltT, nx_mul6, nI_add, nI_1, jx_nI, nx_4, nx_g4, nx_6, nx_g6, nx_8, nx_g8, nx_9, nx_g9, nx_12, nx_g12, nx_14, nx_g14, nx_60, nx_g60, nx_100, nx_g100, nx_200, nx_g200, nx_400, nx_g400, nx_600, nx_g600, nx_601, nx_g601, nx_3600, nx_g3600, hP, h3, h1]
      exact hQ
theorem X_goOn (hk : KLaws G nf nm) (ha : 89 ≤ a) (hN : N ≤ 600) (hX : XPot m a P) (hG : GP nf nm n P) (hl : XLaws m G nf nm) (he : DeskL (mS m) (mR m) 86) (ht : ∃ t, mI m 86 2 = nI t) : ∃ m', CE (d + 9) 53 [.ref a, .int (nI N), .ref 86] m (some (.int (nI (kGo G N P).1))) m' ∧ XPot m' a (kGo G N P).2 ∧ XFr m m' a 86 := by
  obtain ⟨m', h1, h2, h3⟩ := l_X_goOn (d := d) hk ha hN N 0 n m P (by omega) hX hG hl he ht
  refine ⟨m', ?_, h2, h3⟩
  unfold CE
  rw [nX5_goOn]
  simp (config := {decide := true}) (disch := first | omega | assumption | (simp only [mS_cL, mS_cI, mS_cR, mR_cL, mR_cI]; first | assumption | exact hcr _ | fail)) only [tX5_goOn_0, tX5_goOn_1, tX5_goOn_3, tX5_goOn_4, tX5_goOn_7, tX5_goOn_8, tX5_goOn_11, tX5_goOn_12, tX5_goOn_15, tX5_goOn_16, tX5_goOn_17, tX5_goOn_20, tX5_goOn_23, tX5_goOn_26, tX5_goOn_27, jK_some, jK_none, jc1_int, jc1_ref, jc1_none, jc1_long, jc1_null, jc1_rf, va_rf_some, va_rf_none, mI_cI, mL_cL, mR_cR, cI_cI, cL_cL, jup_eq, jne_1, jne_2, Nat.add_left_cancel_iff, mL_cI, mR_cI, mS_cI, mN_cI, mI_cL, mR_cL, mS_cL, mN_cL, mI_cR, mL_cR, mS_cR, mN_cR, true_and, and_true, true_or, or_true, if_true, if_false, jBool_0, jBool_1, Nat.le_refl, Nat.reduceLeDiff, Nat.reduceEqDiff, Nat.reduceAdd, Nat.reduceSub, reduceIte, Int32.reduceLT, Int32.reduceLE, ne_eq, not_false_eq_true, not_true_eq_false, false_or, or_false, and_false, false_and, reduceCtorEq, jn_4, jn_6, jn_8, jn_9, jn_12, jn_60, jn_100, jn_200, jn_400, jn_600, jn_601, jn_3600, jI_4, jI_6, jI_8, jI_9, jI_12, jI_60, jI_100, jI_200, jI_400, jI_600, jI_601, jI_3600, va_cpy_00, jx_0, jx_6, jx_12, jx_400, jx_600, nI_1]
  refine h1 _ ⟨?_, rfl⟩
  rw [Nat.zero_add]
end GO
