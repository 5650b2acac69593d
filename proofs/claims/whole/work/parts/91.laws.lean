section INI3
variable {m m0 m1 m2 M : jmM} {a d kd n b cap : Nat} {Q : Option Value → jmM → Prop}
theorem i_lawsL (hc : cap ≤ 8) : ∀ q i (M : jmM), i + q = cap → mN M = a + 2 + 6 * i → mS M a = (4, 2) → mR M a 0 = some (a + 1) → mS M (a + 1) = (24, cap) → (∀ k, k < i → mR M (a + 1) k = some (a + 2 + 6 * k) ∧ LawL (mS M) (mR M) (a + 2 + 6 * k)) → ∃ m', (∀ Q, AW (d + 1) 41 23 [some (.ref a), some (.int (nI cap)), some (.int (nI i))] [] M Q ↔ Q none m') ∧ (mN m' = a + 2 + 6 * cap ∧ mZ m' = mZ M + 458 * q) ∧ (∀ b, b < a + 1 → sm4 M m' b) ∧ mS m' (a + 1) = (24, cap) ∧ ∀ k, k < cap → mR m' (a + 1) k = some (a + 2 + 6 * k) ∧ LawL (mS m') (mR m') (a + 2 + 6 * k)
  | 0, i, M, hi, h1, h2, h3, h4, h5 => by
    have e : i = cap := by omega
    subst e
    refine ⟨M, fun Q => ?_, ⟨h1, rfl⟩, fun b _ => sm4.refl, h4, h5⟩
    rw [tX4_init_23]
    simp (config := {decide := true}) (disch := first | omega | assumption | (simp only [mS_cL, mS_cI, mS_cR, mR_cL, mR_cI]; first | assumption | exact hcr _ | fail)) only [tX4_init_24, tX4_init_25, tX4_init_28, tX4_init_29, tX4_init_32, tX4_init_33, tX4_init_36, tX4_init_37, tX4_init_40, tX4_init_41, tX4_init_44, tX4_init_45, tX4_init_48, tX4_init_51, jK_some, jK_none, jc1_int, jc1_ref, jc1_none, jc1_long, jc1_null, jc1_rf, va_rf_some, va_rf_none, mI_cI, mL_cL, mR_cR, cI_cI, cL_cL, jup_eq, jne_1, jne_2, Nat.add_left_cancel_iff, mL_cI, mR_cI, mS_cI, mN_cI, mI_cL, mR_cL, mS_cL, mN_cL, mI_cR, mL_cR, mS_cR, mN_cR, true_and, and_true, true_or, or_true, if_true, if_false, jBool_0, jBool_1, Nat.le_refl, Nat.reduceLeDiff, Nat.reduceEqDiff, Nat.reduceAdd, Nat.reduceSub, reduceIte, Int32.reduceLT, Int32.reduceLE, ne_eq, not_false_eq_true, not_true_eq_false, false_or, or_false, and_false, false_and, reduceCtorEq, jn_4, jn_6, jn_8, jn_9, jn_12, jn_60, jn_100, jn_200, jn_400, jn_600, jn_601, jn_3600, jI_4, jI_6, jI_8, jI_9, jI_12, jI_60, jI_100, jI_200, jI_400, jI_600, jI_601, jI_3600, va_cpy_00, jx_0, jx_6, jx_12, jx_400, jx_600, nI_1, nx_5e, nx_l6, nx_l12, nx_l100, nx_l200, nx_l400, nx_l600, nx_l601, nx_l3600, nx_pos, nx_posN, nx_neg1, nx_m1neg, nx_leF, nx_leT, nx_ltF, nx_ltT, nx_mul6, nI_add, nI_1, jx_nI, nx_4, nx_g4, nx_6, nx_g6, nx_8, nx_g8, nx_9, nx_g9, nx_12, nx_g12, nx_14, nx_g14, nx_60, nx_g60, nx_100, nx_g100, nx_200, nx_g200, nx_400, nx_g400, nx_600, nx_g600, nx_601, nx_g601, nx_3600, nx_g3600, h2, h3, h4, Int32.le_refl]
    done
  | q + 1, i, M, hi, h1, h2, h3, h4, h5 => by
    obtain ⟨m1, c1, ⟨n1, z1⟩, f1, s1⟩ := i_Law (d := d) (m := M) (a := a + 2 + 6 * i) h1
    have fa := f1 a (by omega)
    have fa1 := f1 (a + 1) (by omega)
    obtain ⟨p1, p2, -⟩ := fa
    obtain ⟨p3, p4, -⟩ := fa1
    have sM : mS m1 (a + 2 + 6 * i) = (3, 10) := s1.1
    obtain ⟨m2, g1, ⟨g2, g3⟩, g4, g5, g6⟩ := i_lawsL hc q (i + 1) (cR m1 (a + 1) (jup (mR m1 (a + 1)) i (some (a + 2 + 6 * i)))) (by omega) (by rw [mN_cR, n1]; omega) (by rw [mS_cR, p1]; exact h2) (by rw [cRv, if_neg (by omega), p2]; exact h3) (by rw [mS_cR, p3]; exact h4) (fun k hk => by
      rw [cRv, if_pos rfl, mS_cR]
      by_cases e : k = i
      · subst e
        refine ⟨jup_same, ?_⟩
        unfold LawL at s1 ⊢
        rw [cRv, if_neg (by omega)]
        exact s1
      · obtain ⟨u1, u2⟩ := h5 k (by omega)
        rw [jup_ne e, p4]
        refine ⟨u1, ?_⟩
        have w0 := f1 (a + 2 + 6 * k) (by omega)
        have w1 := f1 (a + 2 + 6 * k + 1) (by omega)
        have w2 := f1 (a + 2 + 6 * k + 2) (by omega)
        have w3 := f1 (a + 2 + 6 * k + 3) (by omega)
        have w4 := f1 (a + 2 + 6 * k + 4) (by omega)
        have w5 := f1 (a + 2 + 6 * k + 5) (by omega)
        unfold LawL at u2 ⊢
        rw [cRv, if_neg (by omega), w0.1, w0.2.1, w1.1, w2.1, w3.1, w4.1, w5.1]
        exact u2)
    refine ⟨m2, fun Q => ?_, ⟨g2, ?_⟩, fun b hb => ?_, g5, g6⟩
    · rw [← g1 Q, tX4_init_23]
      simp (config := {decide := true}) (disch := first | omega | assumption | (simp only [mS_cL, mS_cI, mS_cR, mR_cL, mR_cI]; first | assumption | exact hcr _ | fail)) only [tX4_init_24, tX4_init_25, tX4_init_28, tX4_init_29, tX4_init_32, tX4_init_33, tX4_init_36, tX4_init_37, tX4_init_40, tX4_init_41, tX4_init_44, tX4_init_45, tX4_init_48, tX4_init_51, jK_some, jK_none, jc1_int, jc1_ref, jc1_none, jc1_long, jc1_null, jc1_rf, va_rf_some, va_rf_none, mI_cI, mL_cL, mR_cR, cI_cI, cL_cL, jup_eq, jne_1, jne_2, Nat.add_left_cancel_iff, mL_cI, mR_cI, mS_cI, mN_cI, mI_cL, mR_cL, mS_cL, mN_cL, mI_cR, mL_cR, mS_cR, mN_cR, true_and, and_true, true_or, or_true, if_true, if_false, jBool_0, jBool_1, Nat.le_refl, Nat.reduceLeDiff, Nat.reduceEqDiff, Nat.reduceAdd, Nat.reduceSub, reduceIte, Int32.reduceLT, Int32.reduceLE, ne_eq, not_false_eq_true, not_true_eq_false, false_or, or_false, and_false, false_and, reduceCtorEq, jn_4, jn_6, jn_8, jn_9, jn_12, jn_60, jn_100, jn_200, jn_400, jn_600, jn_601, jn_3600, jI_4, jI_6, jI_8, jI_9, jI_12, jI_60, jI_100, jI_200, jI_400, jI_600, jI_601, jI_3600, va_cpy_00, jx_0, jx_6, jx_12, jx_400, jx_600, nI_1, nx_5e, nx_l6, nx_l12, nx_l100, nx_l200, nx_l400, nx_l600, nx_l601, nx_l3600, nx_pos, nx_posN, nx_neg1, nx_m1neg, nx_leF, nx_leT, nx_ltF, nx_ltT, nx_mul6, nI_add, nI_1, jx_nI, nx_4, nx_g4, nx_6, nx_g6, nx_8, nx_g8, nx_9, nx_g9, nx_12, nx_g12, nx_14, nx_g14, nx_60, nx_g60, nx_100, nx_g100, nx_200, nx_g200, nx_400, nx_g400, nx_600, nx_g600, nx_601, nx_g601, nx_3600, nx_g3600, h1, h2, h3, h4, c1.iff, p1, p2, p3, p4, sM, jIx_nI, show i < cap by omega, cRv]
      done
    · rw [g3, mZ_cR, z1]; omega
    · refine sm4.trans (f1 b (by omega)) (sm4.trans ?_ (g4 b hb))
      exact ⟨rfl, by rw [cRv, if_neg (by omega)], rfl, rfl⟩
theorem i_Laws (hc : cap ≤ 8) (hN : mN m = a) : ∃ m', CE (d + 2) 41 [.ref a, .int (nI cap)] (jNew m 4 2) none m' ∧ (mN m' = a + 2 + 6 * cap ∧ mZ m' = mZ m + 2 + 459 * cap) ∧ (∀ b, b < a → sm4 m m' b) ∧ (mS m' a = (4, 2) ∧ mR m' a 0 = some (a + 1) ∧ mS m' (a + 1) = (24, cap)) ∧ zr m' a ∧ ∀ k, k < cap → mR m' (a + 1) k = some (a + 2 + 6 * k) ∧ LawL (mS m') (mR m') (a + 2 + 6 * k) := by
  obtain ⟨M, hM⟩ : ∃ M, M = cR (jNew (cI (jNew m 4 2) a (jup (fun _ => 0) 1 0)) 24 cap) a (jup (fun _ => none) 0 (some (a + 1))) := ⟨_, rfl⟩
  have e1 : mN M = a + 2 + 6 * 0 := by rw [hM]; simp only [mN_cR, mN_new, mN_cI, hN]
  have e2 : mS M a = (4, 2) := by rw [hM]; simp (config := {decide := true, maxSteps := 2000000}) (disch := omega) only [zr, LawL, TapeL, StartL, DeskL, SliL, PotL, mI_new, mL_new, mR_new, mS_new, mN_new, mZ_new, mN_cI, mN_cL, mN_cR, mZ_cI, mZ_cL, mZ_cR, mS_cI, mS_cL, mS_cR, mI_cL, mI_cR, mL_cI, mL_cR, mR_cI, mR_cL, cIv, cLv, cRv, jup_eq, hN, ne_a1, ne_a2, ne_b, ne_b0, Nat.add_assoc, Nat.reduceAdd, Nat.reduceEqDiff, Nat.add_left_cancel_iff, reduceIte, ite_self, and_self, true_and, implies_true]
  have e3 : mR M a 0 = some (a + 1) := by rw [hM]; simp (config := {decide := true, maxSteps := 2000000}) (disch := omega) only [zr, LawL, TapeL, StartL, DeskL, SliL, PotL, mI_new, mL_new, mR_new, mS_new, mN_new, mZ_new, mN_cI, mN_cL, mN_cR, mZ_cI, mZ_cL, mZ_cR, mS_cI, mS_cL, mS_cR, mI_cL, mI_cR, mL_cI, mL_cR, mR_cI, mR_cL, cIv, cLv, cRv, jup_eq, hN, ne_a1, ne_a2, ne_b, ne_b0, Nat.add_assoc, Nat.reduceAdd, Nat.reduceEqDiff, Nat.add_left_cancel_iff, reduceIte, ite_self, and_self, true_and, implies_true]
  have e4 : mS M (a + 1) = (24, cap) := by rw [hM]; simp (config := {decide := true, maxSteps := 2000000}) (disch := omega) only [zr, LawL, TapeL, StartL, DeskL, SliL, PotL, mI_new, mL_new, mR_new, mS_new, mN_new, mZ_new, mN_cI, mN_cL, mN_cR, mZ_cI, mZ_cL, mZ_cR, mS_cI, mS_cL, mS_cR, mI_cL, mI_cR, mL_cI, mL_cR, mR_cI, mR_cL, cIv, cLv, cRv, jup_eq, hN, ne_a1, ne_a2, ne_b, ne_b0, Nat.add_assoc, Nat.reduceAdd, Nat.reduceEqDiff, Nat.add_left_cancel_iff, reduceIte, ite_self, and_self, true_and, implies_true]
  have e5 : ∀ j, mI M a j = 0 ∧ mL M a j = 0 := by rw [hM]; simp (config := {decide := true, maxSteps := 2000000}) (disch := omega) only [zr, LawL, TapeL, StartL, DeskL, SliL, PotL, mI_new, mL_new, mR_new, mS_new, mN_new, mZ_new, mN_cI, mN_cL, mN_cR, mZ_cI, mZ_cL, mZ_cR, mS_cI, mS_cL, mS_cR, mI_cL, mI_cR, mL_cI, mL_cR, mR_cI, mR_cL, cIv, cLv, cRv, jup_eq, hN, ne_a1, ne_a2, ne_b, ne_b0, Nat.add_assoc, Nat.reduceAdd, Nat.reduceEqDiff, Nat.add_left_cancel_iff, reduceIte, ite_self, and_self, true_and, implies_true]
  have e6 : mZ M = mZ m + 2 + cap := by rw [hM]; simp only [mZ_cR, mZ_new, mZ_cI]
  obtain ⟨m2, g1, ⟨g2, g3⟩, g4, g5, g6⟩ := i_lawsL (d := d) hc cap 0 M (by omega) e1 e2 e3 e4 (fun k hk => by omega)
  have ga := g4 a (by omega)
  refine ⟨m2, CE.of fun Q => ?_, ⟨g2, ?_⟩, fun b hb => ?_, ⟨ga.1.trans e2, by rw [ga.2.1]; exact e3, g5⟩, fun j => by rw [ga.2.2.1, ga.2.2.2]; exact e5 j, g6⟩
  · rw [← g1 Q, hM]
    have e0 : (if (0 : Int32) < nI cap then nI cap else 0) = nI cap := by
      by_cases q : (0 : Int32) < nI cap
      · rw [if_pos q]
      · rw [if_neg q]
        have := mt (nI_ltI (a := 0) (b := cap) (by omega) (by omega)).mpr q
        rw [show cap = 0 by omega]; rfl
    have e9 : 0 ≤ (nI cap).toInt ∧ (nI cap).toInt ≤ 100000 := by rw [nI_toInt (by omega)]; omega
    rw [nX4_init]
    simp (config := {decide := true}) (disch := omega) only [tX4_init_0, tX4_init_1, tX4_init_4, tX4_init_5, tX4_init_6, tX4_init_9, tX4_init_10, tX4_init_11, tX4_init_12, tX4_init_15, tX4_init_18, tX4_init_18q, tX4_init_18n, tX4_init_21, tX4_init_22, tX4_init_24, tX4_init_25, tX4_init_28, tX4_init_29, tX4_init_32, tX4_init_33, tX4_init_36, tX4_init_37, tX4_init_40, tX4_init_41, tX4_init_44, tX4_init_45, tX4_init_48, tX4_init_51, jK_some, jK_none, jc1_int, jc1_ref, jc1_none, jc1_long, jc1_null, jc1_rf, va_rf_some, va_rf_none, mI_cI, mL_cL, mR_cR, cI_cI, cL_cL, jup_eq, jne_1, jne_2, Nat.add_left_cancel_iff, mL_cI, mR_cI, mS_cI, mN_cI, mI_cL, mR_cL, mS_cL, mN_cL, mI_cR, mL_cR, mS_cR, mN_cR, true_and, and_true, true_or, or_true, if_true, if_false, jBool_0, jBool_1, Nat.le_refl, Nat.reduceLeDiff, Nat.reduceEqDiff, Nat.reduceAdd, Nat.reduceSub, reduceIte, Int32.reduceLT, Int32.reduceLE, ne_eq, not_false_eq_true, not_true_eq_false, false_or, or_false, and_false, false_and, reduceCtorEq, jn_4, jn_6, jn_8, jn_9, jn_12, jn_60, jn_100, jn_200, jn_400, jn_600, jn_601, jn_3600, jI_4, jI_6, jI_8, jI_9, jI_12, jI_60, jI_100, jI_200, jI_400, jI_600, jI_601, jI_3600, va_cpy_00, jx_0, jx_6, jx_12, jx_400, jx_600, nI_1, mI_new, mL_new, mR_new, mS_new, mN_new, cIv, cLv, cRv, hN, ne_a1, ne_a2, Nat.add_assoc, e0, e9, jx_nI]
    exact Iff.rfl
  · rw [g3, e6]; omega
  · refine sm4.trans ?_ (g4 b (by omega))
    rw [hM]
    refine ⟨?_, ?_, ?_, ?_⟩
    all_goals simp (config := {decide := true, maxSteps := 2000000}) (disch := omega) only [zr, LawL, TapeL, StartL, DeskL, SliL, PotL, mI_new, mL_new, mR_new, mS_new, mN_new, mZ_new, mN_cI, mN_cL, mN_cR, mZ_cI, mZ_cL, mZ_cR, mS_cI, mS_cL, mS_cR, mI_cL, mI_cR, mL_cI, mL_cR, mR_cI, mR_cL, cIv, cLv, cRv, jup_eq, hN, ne_a1, ne_a2, ne_b, ne_b0, Nat.add_assoc, Nat.reduceAdd, Nat.reduceEqDiff, Nat.add_left_cancel_iff, reduceIte, ite_self, and_self, true_and, implies_true]
end INI3
