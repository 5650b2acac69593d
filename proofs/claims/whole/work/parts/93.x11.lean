section INI5
variable {m m0 m1 m2 M m' K : jmM} {a d kd n b cap : Nat} {Q : Option Value → jmM → Prop}
def ImL (m : jmM) (a : Nat) : Prop := (mS m a = (2, 5) ∧ mR m a 0 = some (a + 1) ∧ mR m a 1 = some (a + 12) ∧ mR m a 2 = some (a + 13) ∧ PotL (mS m) (mR m) (a + 1) ∧ mS m (a + 12) = (20, 6) ∧ mS m (a + 13) = (20, 6)) ∧ zr m a
theorem ImL_p (h : ∀ c, a ≤ c → c < a + 14 → sm4 m m' c) (hz : ImL m a) : ImL m' a := by
  obtain ⟨⟨h1, h2, h3, h4, h5, h6, h7⟩, h8⟩ := hz
  have g := h a (by omega) (by omega)
  refine ⟨⟨g.1.trans h1, ?_, ?_, ?_, PotL_p (fun c u v => h c (by omega) (by omega)) h5, (h (a + 12) (by omega) (by omega)).1.trans h6, (h (a + 13) (by omega) (by omega)).1.trans h7⟩, zr_p g h8⟩
  · rw [g.2.1]; exact h2
  · rw [g.2.1]; exact h3
  · rw [g.2.1]; exact h4
theorem i_imgs : ∀ q i (M : jmM), i + q = 4 → mN M = 131 + 14 * i → mS M 0 = (11, 19) → mR M 0 10 = some 113 → mS M 113 = (25, 4) → (∀ k, k < i → mR M 113 k = some (131 + 14 * k) ∧ ImL M (131 + 14 * k)) → ∃ m', (∀ Q, AW 999 140 207 [some (.ref 0), some (.int (nI i))] [] M Q ↔ AW 999 140 231 [some (.ref 0), some (.int (nI 4))] [] m' Q) ∧ (mN m' = 187 ∧ mZ m' = mZ M + 6662 * q) ∧ (∀ b, b < 131 → b ≠ 113 → sm4 M m' b) ∧ mS m' 113 = (25, 4) ∧ ∀ k, k < 4 → mR m' 113 k = some (131 + 14 * k) ∧ ImL m' (131 + 14 * k)
  | 0, i, M, hi, h1, h2, h3, h4, h5 => by
    have e : i = 4 := by omega
    subst e
    refine ⟨M, fun Q => ?_, ⟨h1, rfl⟩, fun b _ _ => sm4.refl, h4, h5⟩
    rw [tX11_init_207]
    simp (config := {decide := true}) (disch := first | omega | assumption | (simp only [mS_cL, mS_cI, mS_cR, mR_cL, mR_cI]; first | assumption | exact hcr _ | fail)) only [tX11_init_208, tX11_init_209, tX11_init_212, tX11_init_213, tX11_init_216, tX11_init_217, tX11_init_220, tX11_init_221, tX11_init_224, tX11_init_225, tX11_init_228, jK_some, jK_none, jc1_int, jc1_ref, jc1_none, jc1_long, jc1_null, jc1_rf, va_rf_some, va_rf_none, mI_cI, mL_cL, mR_cR, cI_cI, cL_cL, jup_eq, jne_1, jne_2, Nat.add_left_cancel_iff, mL_cI, mR_cI, mS_cI, mN_cI, mI_cL, mR_cL, mS_cL, mN_cL, mI_cR, mL_cR, mS_cR, mN_cR, true_and, and_true, true_or, or_true, if_true, if_false, jBool_0, jBool_1, Nat.le_refl, Nat.reduceLeDiff, Nat.reduceEqDiff, Nat.reduceAdd, Nat.reduceSub, reduceIte, Int32.reduceLT, Int32.reduceLE, ne_eq, not_false_eq_true, not_true_eq_false, false_or, or_false, and_false, false_and, reduceCtorEq, jn_4, jn_6, jn_8, jn_9, jn_12, jn_60, jn_100, jn_200, jn_400, jn_600, jn_601, jn_3600, jI_4, jI_6, jI_8, jI_9, jI_12, jI_60, jI_100, jI_200, jI_400, jI_600, jI_601, jI_3600, va_cpy_00, jx_0, jx_6, jx_12, jx_400, jx_600, nI_1, nx_5e, nx_l6, nx_l12, nx_l100, nx_l200, nx_l400, nx_l600, nx_l601, nx_l3600, nx_pos, nx_posN, nx_neg1, nx_m1neg, nx_leF, nx_leT, nx_ltF, nx_ltT, nx_mul6, nI_add, nI_1, jx_nI, nx_4, nx_g4, nx_6, nx_g6, nx_8, nx_g8, nx_9, nx_g9, nx_12, nx_g12, nx_14, nx_g14, nx_60, nx_g60, nx_100, nx_g100, nx_200, nx_g200, nx_400, nx_g400, nx_600, nx_g600, nx_601, nx_g601, nx_3600, nx_g3600, Int32.le_refl, show (4 : Int32) ≤ nI 4 ↔ True from ⟨fun _ => trivial, fun _ => by decide⟩]
    done
  | q + 1, i, M, hi, h1, h2, h3, h4, h5 => by
    obtain ⟨m1, c1, ⟨n1, z1⟩, f1, s1⟩ := i_Image (d := 996) (m := M) (a := 131 + 14 * i) h1
    have p0 := f1 0 (by omega)
    have p3 := f1 113 (by omega)
    have sM : mS m1 (131 + 14 * i) = (2, 5) := s1.1.1
    have hlt : (4 : Int32) ≤ nI i ↔ False := ⟨fun e => by have := (nI_leI (a := 4) (by omega) (by omega)).mp e; omega, False.elim⟩
    obtain ⟨m2, g1, ⟨g2, g3⟩, g4, g5, g6⟩ := i_imgs q (i + 1) (cR m1 113 (jup (mR m1 113) i (some (131 + 14 * i)))) (by omega) (by rw [mN_cR, n1]; omega) (by rw [mS_cR, p0.1]; exact h2) (by rw [cRv, if_neg (by omega), p0.2.1]; exact h3) (by rw [mS_cR, p3.1]; exact h4) (fun k hk => by
      have hy : ∀ c, 131 + 14 * k ≤ c → sm4 m1 (cR m1 113 (jup (mR m1 113) i (some (131 + 14 * i)))) c := fun c hc => ⟨rfl, by rw [cRv, if_neg (by omega)], rfl, rfl⟩
      rw [cRv, if_pos rfl]
      by_cases e : k = i
      · subst e
        exact ⟨jup_same, ImL_p (fun c u v => hy c u) s1⟩
      · obtain ⟨u1, u2⟩ := h5 k (by omega)
        exact ⟨by rw [jup_ne e, p3.2.1]; exact u1, ImL_p (fun c u v => hy c u) (ImL_p (fun c u v => f1 c (by omega)) u2)⟩)
    refine ⟨m2, fun Q => ?_, ⟨g2, ?_⟩, fun b hb hb2 => ?_, g5, g6⟩
    · rw [← g1 Q, tX11_init_207]
      simp (config := {decide := true}) (disch := first | omega | assumption | (simp only [mS_cL, mS_cI, mS_cR, mR_cL, mR_cI]; first | assumption | exact hcr _ | fail)) only [tX11_init_208, tX11_init_209, tX11_init_212, tX11_init_213, tX11_init_216, tX11_init_217, tX11_init_220, tX11_init_221, tX11_init_224, tX11_init_225, tX11_init_228, jK_some, jK_none, jc1_int, jc1_ref, jc1_none, jc1_long, jc1_null, jc1_rf, va_rf_some, va_rf_none, mI_cI, mL_cL, mR_cR, cI_cI, cL_cL, jup_eq, jne_1, jne_2, Nat.add_left_cancel_iff, mL_cI, mR_cI, mS_cI, mN_cI, mI_cL, mR_cL, mS_cL, mN_cL, mI_cR, mL_cR, mS_cR, mN_cR, true_and, and_true, true_or, or_true, if_true, if_false, jBool_0, jBool_1, Nat.le_refl, Nat.reduceLeDiff, Nat.reduceEqDiff, Nat.reduceAdd, Nat.reduceSub, reduceIte, Int32.reduceLT, Int32.reduceLE, ne_eq, not_false_eq_true, not_true_eq_false, false_or, or_false, and_false, false_and, reduceCtorEq, jn_4, jn_6, jn_8, jn_9, jn_12, jn_60, jn_100, jn_200, jn_400, jn_600, jn_601, jn_3600, jI_4, jI_6, jI_8, jI_9, jI_12, jI_60, jI_100, jI_200, jI_400, jI_600, jI_601, jI_3600, va_cpy_00, jx_0, jx_6, jx_12, jx_400, jx_600, nI_1, nx_5e, nx_l6, nx_l12, nx_l100, nx_l200, nx_l400, nx_l600, nx_l601, nx_l3600, nx_pos, nx_posN, nx_neg1, nx_m1neg, nx_leF, nx_leT, nx_ltF, nx_ltT, nx_mul6, nI_add, nI_1, jx_nI, nx_4, nx_g4, nx_6, nx_g6, nx_8, nx_g8, nx_9, nx_g9, nx_12, nx_g12, nx_14, nx_g14, nx_60, nx_g60, nx_100, nx_g100, nx_200, nx_g200, nx_400, nx_g400, nx_600, nx_g600, nx_601, nx_g601, nx_3600, nx_g3600, h1, h2, h3, h4, hlt, c1.iff, p0.1, p0.2.1, p3.1, p3.2.1, sM, jIx_nI, show i < 4 by omega, cRv]
      done
    · rw [g3, mZ_cR, z1]; omega
    · refine sm4.trans (f1 b (by omega)) (sm4.trans ?_ (g4 b hb hb2))
      exact ⟨rfl, by rw [cRv, if_neg hb2], rfl, rfl⟩
theorem i_wants : ∀ q i (M : jmM), i + q = 8 → mN M = 187 + i → mS M 0 = (11, 19) → mR M 0 11 = some 114 → mS M 114 = (26, 8) → (∀ k, k < i → mR M 114 k = some (187 + k) ∧ mS M (187 + k) = (10, 6)) → ∃ m', (∀ Q, AW 999 140 233 [some (.ref 0), some (.int (nI i))] [] M Q ↔ Q none m') ∧ (mN m' = 195 ∧ mZ m' = mZ M + 6 * q) ∧ (∀ b, b < 187 → b ≠ 114 → sm4 M m' b) ∧ mS m' 114 = (26, 8) ∧ ∀ k, k < 8 → mR m' 114 k = some (187 + k) ∧ mS m' (187 + k) = (10, 6)
  | 0, i, M, hi, h1, h2, h3, h4, h5 => by
    have e : i = 8 := by omega
    subst e
    refine ⟨M, fun Q => ?_, ⟨h1, rfl⟩, fun b _ _ => sm4.refl, h4, h5⟩
    rw [tX11_init_233]
    simp (config := {decide := true}) (disch := first | omega | assumption | (simp only [mS_cL, mS_cI, mS_cR, mR_cL, mR_cI]; first | assumption | exact hcr _ | fail)) only [tX11_init_234, tX11_init_236, tX11_init_239, tX11_init_240, tX11_init_243, tX11_init_244, tX11_init_247, tX11_init_248, tX11_init_251, tX11_init_252, tX11_init_255, tX11_init_258, jK_some, jK_none, jc1_int, jc1_ref, jc1_none, jc1_long, jc1_null, jc1_rf, va_rf_some, va_rf_none, mI_cI, mL_cL, mR_cR, cI_cI, cL_cL, jup_eq, jne_1, jne_2, Nat.add_left_cancel_iff, mL_cI, mR_cI, mS_cI, mN_cI, mI_cL, mR_cL, mS_cL, mN_cL, mI_cR, mL_cR, mS_cR, mN_cR, true_and, and_true, true_or, or_true, if_true, if_false, jBool_0, jBool_1, Nat.le_refl, Nat.reduceLeDiff, Nat.reduceEqDiff, Nat.reduceAdd, Nat.reduceSub, reduceIte, Int32.reduceLT, Int32.reduceLE, ne_eq, not_false_eq_true, not_true_eq_false, false_or, or_false, and_false, false_and, reduceCtorEq, jn_4, jn_6, jn_8, jn_9, jn_12, jn_60, jn_100, jn_200, jn_400, jn_600, jn_601, jn_3600, jI_4, jI_6, jI_8, jI_9, jI_12, jI_60, jI_100, jI_200, jI_400, jI_600, jI_601, jI_3600, va_cpy_00, jx_0, jx_6, jx_12, jx_400, jx_600, nI_1, nx_5e, nx_l6, nx_l12, nx_l100, nx_l200, nx_l400, nx_l600, nx_l601, nx_l3600, nx_pos, nx_posN, nx_neg1, nx_m1neg, nx_leF, nx_leT, nx_ltF, nx_ltT, nx_mul6, nI_add, nI_1, jx_nI, nx_4, nx_g4, nx_6, nx_g6, nx_8, nx_g8, nx_9, nx_g9, nx_12, nx_g12, nx_14, nx_g14, nx_60, nx_g60, nx_100, nx_g100, nx_200, nx_g200, nx_400, nx_g400, nx_600, nx_g600, nx_601, nx_g601, nx_3600, nx_g3600, show (8 : Int32) ≤ nI 8 ↔ True from ⟨fun _ => trivial, fun _ => by decide⟩]
    done
  | q + 1, i, M, hi, h1, h2, h3, h4, h5 => by
    obtain ⟨m1, c1, ⟨n1, z1⟩, f1, s1⟩ := i_Want (d := 998) (m := M) (a := 187 + i) h1
    have p0 := f1 0 (by omega)
    have p3 := f1 114 (by omega)
    have hlt : (8 : Int32) ≤ nI i ↔ False := ⟨fun e => by have := (nI_leI (a := 8) (by omega) (by omega)).mp e; omega, False.elim⟩
    obtain ⟨m2, g1, ⟨g2, g3⟩, g4, g5, g6⟩ := i_wants q (i + 1) (cR m1 114 (jup (mR m1 114) i (some (187 + i)))) (by omega) (by rw [mN_cR, n1]; omega) (by rw [mS_cR, p0.1]; exact h2) (by rw [cRv, if_neg (by omega), p0.2.1]; exact h3) (by rw [mS_cR, p3.1]; exact h4) (fun k hk => by
      rw [cRv, if_pos rfl, mS_cR]
      by_cases e : k = i
      · subst e
        exact ⟨jup_same, s1⟩
      · obtain ⟨u1, u2⟩ := h5 k (by omega)
        rw [jup_ne e, p3.2.1, (f1 (187 + k) (by omega)).1]
        exact ⟨u1, u2⟩)
    refine ⟨m2, fun Q => ?_, ⟨g2, ?_⟩, fun b hb hb2 => ?_, g5, g6⟩
    · rw [← g1 Q, tX11_init_233]
      simp (config := {decide := true}) (disch := first | omega | assumption | (simp only [mS_cL, mS_cI, mS_cR, mR_cL, mR_cI]; first | assumption | exact hcr _ | fail)) only [tX11_init_234, tX11_init_236, tX11_init_239, tX11_init_240, tX11_init_243, tX11_init_244, tX11_init_247, tX11_init_248, tX11_init_251, tX11_init_252, tX11_init_255, tX11_init_258, jK_some, jK_none, jc1_int, jc1_ref, jc1_none, jc1_long, jc1_null, jc1_rf, va_rf_some, va_rf_none, mI_cI, mL_cL, mR_cR, cI_cI, cL_cL, jup_eq, jne_1, jne_2, Nat.add_left_cancel_iff, mL_cI, mR_cI, mS_cI, mN_cI, mI_cL, mR_cL, mS_cL, mN_cL, mI_cR, mL_cR, mS_cR, mN_cR, true_and, and_true, true_or, or_true, if_true, if_false, jBool_0, jBool_1, Nat.le_refl, Nat.reduceLeDiff, Nat.reduceEqDiff, Nat.reduceAdd, Nat.reduceSub, reduceIte, Int32.reduceLT, Int32.reduceLE, ne_eq, not_false_eq_true, not_true_eq_false, false_or, or_false, and_false, false_and, reduceCtorEq, jn_4, jn_6, jn_8, jn_9, jn_12, jn_60, jn_100, jn_200, jn_400, jn_600, jn_601, jn_3600, jI_4, jI_6, jI_8, jI_9, jI_12, jI_60, jI_100, jI_200, jI_400, jI_600, jI_601, jI_3600, va_cpy_00, jx_0, jx_6, jx_12, jx_400, jx_600, nI_1, nx_5e, nx_l6, nx_l12, nx_l100, nx_l200, nx_l400, nx_l600, nx_l601, nx_l3600, nx_pos, nx_posN, nx_neg1, nx_m1neg, nx_leF, nx_leT, nx_ltF, nx_ltT, nx_mul6, nI_add, nI_1, jx_nI, nx_4, nx_g4, nx_6, nx_g6, nx_8, nx_g8, nx_9, nx_g9, nx_12, nx_g12, nx_14, nx_g14, nx_60, nx_g60, nx_100, nx_g100, nx_200, nx_g200, nx_400, nx_g400, nx_600, nx_g600, nx_601, nx_g601, nx_3600, nx_g3600, h1, h2, h3, h4, hlt, c1.iff, p0.1, p0.2.1, p3.1, p3.2.1, s1, jIx_nI, show i < 8 by omega, cRv]
      done
    · rw [g3, mZ_cR, z1]; omega
    · refine sm4.trans (f1 b (by omega)) (sm4.trans ?_ (g4 b hb hb2))
      exact ⟨rfl, by rw [cRv, if_neg hb2], rfl, rfl⟩
theorem i_X11b (hN : mN K = 131) (h0 : mS K 0 = (11, 19)) (r6 : mR K 0 6 = some 90) (r10 : mR K 0 10 = some 113) (r11 : mR K 0 11 = some 114) (s90 : mS K 90 = (20, 6)) (s113 : mS K 113 = (25, 4)) (s114 : mS K 114 = (26, 8)) : ∃ m', (∀ Q, AW 999 140 182 [some (.ref 0), none] [] K Q ↔ Q none m') ∧ (mN m' = 195 ∧ mZ m' = mZ K + 26696) ∧ (∀ b, b < 131 → b ≠ 90 → b ≠ 113 → b ≠ 114 → sm4 K m' b) ∧ (mS m' 90 = (20, 6) ∧ ∀ i, i < 6 → mI m' 90 i = 1000) ∧ mS m' 113 = (25, 4) ∧ mS m' 114 = (26, 8) ∧ (∀ k, k < 4 → mR m' 113 k = some (131 + 14 * k) ∧ ImL m' (131 + 14 * k)) ∧ ∀ k, k < 8 → mR m' 114 k = some (187 + k) ∧ mS m' (187 + k) = (10, 6) := by
  obtain ⟨F, hF⟩ : ∃ F, F = jfor (fun i F => jup F i (1000 : Int32)) 0 6 (mI K 90) := ⟨_, rfl⟩
  obtain ⟨m1, a1, ⟨a2, a3⟩, a4, a5, a6⟩ := i_imgs 4 0 (cI K 90 F) rfl (by rw [mN_cI]; exact hN) (by rw [mS_cI]; exact h0) (by rw [mR_cI]; exact r10) (by rw [mS_cI]; exact s113) (fun k hk => by omega)
  have q0 := a4 0 (by omega) (by omega)
  have q114 := a4 114 (by omega) (by omega)
  obtain ⟨m2, b1, ⟨b2, b3⟩, b4, b5, b6⟩ := i_wants 8 0 m1 rfl a2 (by rw [q0.1]; exact h0) (by rw [q0.2.1]; exact r11) (by rw [q114.1]; exact s114) (fun k hk => by omega)
  have fr : ∀ b, b < 131 → b ≠ 113 → b ≠ 114 → sm4 (cI K 90 F) m2 b := fun b u v w => (a4 b u v).trans (b4 b (by omega) w)
  have g90 := fr 90 (by omega) (by omega) (by omega)
  refine ⟨m2, fun Q => ?_, ⟨b2, ?_⟩, fun b u v w x => ?_, ⟨g90.1.trans s90, fun i hi => ?_⟩, (b4 113 (by omega) (by omega)).1.trans a5, b5, fun k hk => ?_, b6⟩
  · rw [← b1 Q]
    have e2 : AW 999 140 231 [some (.ref 0), some (.int (nI 4))] [] m1 Q ↔ AW 999 140 233 [some (.ref 0), some (.int (nI 0))] [] m1 Q := by
      simp (config := {decide := true}) (disch := first | omega | assumption | (simp only [mS_cL, mS_cI, mS_cR, mR_cL, mR_cI]; first | assumption | exact hcr _ | fail)) only [tX11_init_231, tX11_init_232, jK_some, jK_none, jc1_int, jc1_ref, jc1_none, jc1_long, jc1_null, jc1_rf, va_rf_some, va_rf_none, mI_cI, mL_cL, mR_cR, cI_cI, cL_cL, jup_eq, jne_1, jne_2, Nat.add_left_cancel_iff, mL_cI, mR_cI, mS_cI, mN_cI, mI_cL, mR_cL, mS_cL, mN_cL, mI_cR, mL_cR, mS_cR, mN_cR, true_and, and_true, true_or, or_true, if_true, if_false, jBool_0, jBool_1, Nat.le_refl, Nat.reduceLeDiff, Nat.reduceEqDiff, Nat.reduceAdd, Nat.reduceSub, reduceIte, Int32.reduceLT, Int32.reduceLE, ne_eq, not_false_eq_true, not_true_eq_false, false_or, or_false, and_false, false_and, reduceCtorEq, jn_4, jn_6, jn_8, jn_9, jn_12, jn_60, jn_100, jn_200, jn_400, jn_600, jn_601, jn_3600, jI_4, jI_6, jI_8, jI_9, jI_12, jI_60, jI_100, jI_200, jI_400, jI_600, jI_601, jI_3600, va_cpy_00, jx_0, jx_6, jx_12, jx_400, jx_600, nI_1]
      exact Iff.rfl
    rw [← e2, ← a1 Q]
    have e3 : ∀ F', AW 999 140 184 [some (.ref 0), some (.int (nI 6))] [] (cI K 90 F') Q ↔ AW 999 140 207 [some (.ref 0), some (.int (nI 0))] [] (cI K 90 F') Q := by
      intro F'
      rw [tX11_init_184]
      simp (config := {decide := true}) (disch := first | omega | assumption | (simp only [mS_cL, mS_cI, mS_cR, mR_cL, mR_cI]; first | assumption | exact hcr _ | fail)) only [tX11_init_185, tX11_init_187, tX11_init_190, tX11_init_191, tX11_init_194, tX11_init_195, tX11_init_198, tX11_init_199, tX11_init_202, tX11_init_205, tX11_init_206, jK_some, jK_none, jc1_int, jc1_ref, jc1_none, jc1_long, jc1_null, jc1_rf, va_rf_some, va_rf_none, mI_cI, mL_cL, mR_cR, cI_cI, cL_cL, jup_eq, jne_1, jne_2, Nat.add_left_cancel_iff, mL_cI, mR_cI, mS_cI, mN_cI, mI_cL, mR_cL, mS_cL, mN_cL, mI_cR, mL_cR, mS_cR, mN_cR, true_and, and_true, true_or, or_true, if_true, if_false, jBool_0, jBool_1, Nat.le_refl, Nat.reduceLeDiff, Nat.reduceEqDiff, Nat.reduceAdd, Nat.reduceSub, reduceIte, Int32.reduceLT, Int32.reduceLE, ne_eq, not_false_eq_true, not_true_eq_false, false_or, or_false, and_false, false_and, reduceCtorEq, jn_4, jn_6, jn_8, jn_9, jn_12, jn_60, jn_100, jn_200, jn_400, jn_600, jn_601, jn_3600, jI_4, jI_6, jI_8, jI_9, jI_12, jI_60, jI_100, jI_200, jI_400, jI_600, jI_601, jI_3600, va_cpy_00, jx_0, jx_6, jx_12, jx_400, jx_600, nI_1, nx_5e, nx_l6, nx_l12, nx_l100, nx_l200, nx_l400, nx_l600, nx_l601, nx_l3600, nx_pos, nx_posN, nx_neg1, nx_m1neg, nx_leF, nx_leT, nx_ltF, nx_ltT, nx_mul6, nI_add, nI_1, jx_nI, nx_4, nx_g4, nx_6, nx_g6, nx_8, nx_g8, nx_9, nx_g9, nx_12, nx_g12, nx_14, nx_g14, nx_60, nx_g60, nx_100, nx_g100, nx_200, nx_g200, nx_400, nx_g400, nx_600, nx_g600, nx_601, nx_g601, nx_3600, nx_g3600]
      exact Iff.rfl
    have e1 : AW 999 140 182 [some (.ref 0), none] [] K Q ↔ AW 999 140 184 [some (.ref 0), some (.int (nI 0))] [] (cI K 90 (mI K 90)) Q := by
      rw [cI_eta]
      simp (config := {decide := true}) (disch := first | omega | assumption | (simp only [mS_cL, mS_cI, mS_cR, mR_cL, mR_cI]; first | assumption | exact hcr _ | fail)) only [tX11_init_182, tX11_init_183, jK_some, jK_none, jc1_int, jc1_ref, jc1_none, jc1_long, jc1_null, jc1_rf, va_rf_some, va_rf_none, mI_cI, mL_cL, mR_cR, cI_cI, cL_cL, jup_eq, jne_1, jne_2, Nat.add_left_cancel_iff, mL_cI, mR_cI, mS_cI, mN_cI, mI_cL, mR_cL, mS_cL, mN_cL, mI_cR, mL_cR, mS_cR, mN_cR, true_and, and_true, true_or, or_true, if_true, if_false, jBool_0, jBool_1, Nat.le_refl, Nat.reduceLeDiff, Nat.reduceEqDiff, Nat.reduceAdd, Nat.reduceSub, reduceIte, Int32.reduceLT, Int32.reduceLE, ne_eq, not_false_eq_true, not_true_eq_false, false_or, or_false, and_false, false_and, reduceCtorEq, jn_4, jn_6, jn_8, jn_9, jn_12, jn_60, jn_100, jn_200, jn_400, jn_600, jn_601, jn_3600, jI_4, jI_6, jI_8, jI_9, jI_12, jI_60, jI_100, jI_200, jI_400, jI_600, jI_601, jI_3600, va_cpy_00, jx_0, jx_6, jx_12, jx_400, jx_600, nI_1]
      exact Iff.rfl
    rw [e1, hF]
    refine loop_iff (n := 6) (P := fun i F => AW 999 140 184 [some (.ref 0), some (.int (nI i))] [] (cI K 90 F) Q) (E := fun F => AW 999 140 207 [some (.ref 0), some (.int (nI 0))] [] (cI K 90 F) Q) (fun i F => jup F i (1000 : Int32)) ?_ (fun F => e3 F) 6 0 (mI K 90) (by omega)
    intro i F hi
    rw [tX11_init_184]
    simp (config := {decide := true}) (disch := first | omega | assumption | (simp only [mS_cL, mS_cI, mS_cR, mR_cL, mR_cI]; first | assumption | exact hcr _ | fail)) only [tX11_init_185, tX11_init_187, tX11_init_190, tX11_init_191, tX11_init_194, tX11_init_195, tX11_init_198, tX11_init_199, tX11_init_202, jK_some, jK_none, jc1_int, jc1_ref, jc1_none, jc1_long, jc1_null, jc1_rf, va_rf_some, va_rf_none, mI_same, mL_same, mR_same, mI_ne, mL_ne, mR_ne, cI_cI, cL_cL, jup_eq, mL_cI, mR_cI, mS_cI, mN_cI, mI_cL, mR_cL, mS_cL, mN_cL, mI_cR, mL_cR, mS_cR, mN_cR, true_and, and_true, true_or, or_true, if_true, if_false, jBool_0, jBool_1, Nat.le_refl, Nat.reduceLeDiff, Nat.reduceEqDiff, Nat.reduceAdd, Nat.reduceSub, reduceIte, Int32.reduceLT, Int32.reduceLE, ne_eq, not_false_eq_true, not_true_eq_false, false_or, or_false, and_false, false_and, reduceCtorEq, jn_4, jn_6, jn_8, jn_9, jn_12, jn_60, jn_100, jn_200, jn_400, jn_600, jn_601, jn_3600, jI_4, jI_6, jI_8, jI_9, jI_12, jI_60, jI_100, jI_200, jI_400, jI_600, jI_601, jI_3600, va_cpy_00, jx_0, jx_6, jx_12, jx_400, jx_600, nI_1, nx_5e, nx_l6, nx_l12, nx_l100, nx_l200, nx_l400, nx_l600, nx_l601, nx_l3600, nx_pos, nx_posN, nx_neg1, nx_m1neg, nx_leF, nx_leT, nx_ltF, nx_ltT, nx_mul6, nI_add, nI_1, jx_nI, nx_4, nx_g4, nx_6, nx_g6, nx_8, nx_g8, nx_9, nx_g9, nx_12, nx_g12, nx_14, nx_g14, nx_60, nx_g60, nx_100, nx_g100, nx_200, nx_g200, nx_400, nx_g400, nx_600, nx_g600, nx_601, nx_g601, nx_3600, nx_g3600, h0, r6, s90]
    done
  · rw [b3, a3, mZ_cI]
  · refine sm4.trans ?_ (fr b u w x)
    exact ⟨rfl, rfl, mI_ne v, rfl⟩
  · rw [g90.2.2.1, mI_same, hF]
    exact run_fold 6 i hi
  · obtain ⟨u1, u2⟩ := a6 k hk
    have g113 := b4 113 (by omega) (by omega)
    refine ⟨by rw [g113.2.1]; exact u1, ImL_p (fun c h1 h2 => b4 c (by omega) (by omega)) u2⟩
end INI5
