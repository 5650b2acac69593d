/-! ===== brackets, whole sums, in both ===== -/
section CLR
variable {d b : Nat} {B Bx : jmM} {T : Nat → Int32} {x z dp i p n k K c j : Nat} {t w a u lst : Int32} {F FM O : Nat → Int32} {L3 L4 : Option Value} {Q : Option Value → jmM → Prop} {inner : RS → RS}
abbrev N5 (v : Int32) : Prop := ((True ∧ v ≠ 42 ∧ v ≠ 47) ∧ v ≠ 43 ∧ v ≠ 45)
theorem AA_close (h : NB B T x z) (hi : i ≤ z) (hT : T (rSk T i) = 41) (hK : K ≤ 400) (hb : b ≤ n) (hn : n + 1 + c ≤ 400) (hO : O n = 40) (hP : Pd 5 F K (n + 1) c FM O)
    (hQ : ∀ FM', (∀ j, j < K → FM' j = kTr (F j)) → AA d b L3 L4 (nM B x (rSk T i + 1) t w p n K FM' O a) Q) : AA d b L3 L4 (nM B x i t w (p + 1) (n + 1 + c) (K - c) FM O a) Q := by
  have hml := h.1
  unfold AA at *
  rw [nX12_closesRound, tX12_closesRound_0]
  simp (config := {decide := true}) (disch := first | omega | assumption | (simp only [mS_cL, mS_cI, mS_cR, mR_cL, mR_cI]; first | assumption | exact hcr _ | fail)) only [tX12_closesRound_1, tX12_closesRound_4, tX12_closesRound_6, tX12_closesRound_9, tX12_closesRound_10, tX12_closesRound_11, tX12_closesRound_14, tX12_closesRound_17, tX12_closesRound_18, tX12_closesRound_19, tX12_closesRound_20, tX12_closesRound_23, tX12_closesRound_24, tX12_closesRound_25, tX12_closesRound_28, tX12_closesRound_29, tX12_closesRound_30, tX12_closesRound_33, tX12_closesRound_34, tX12_closesRound_35, tX12_closesRound_38, tX12_closesRound_39, tX12_closesRound_40, tX12_closesRound_43, tX12_closesRound_44, tX12_closesRound_45, tX12_closesRound_48, tX12_closesRound_49, tX12_closesRound_50, tX12_closesRound_53, tX12_closesRound_56, jK_some, jK_none, jc1_int, jc1_ref, jc1_none, jc1_long, jc1_null, jc1_rf, va_rf_some, va_rf_none, mI_cI, mL_cL, mR_cR, cI_cI, cL_cL, jup_eq, jne_1, jne_2, Nat.add_left_cancel_iff, mL_cI, mR_cI, mS_cI, mN_cI, mI_cL, mR_cL, mS_cL, mN_cL, mI_cR, mL_cR, mS_cR, mN_cR, true_and, and_true, true_or, or_true, if_true, if_false, jBool_0, jBool_1, Nat.le_refl, Nat.reduceLeDiff, Nat.reduceEqDiff, Nat.reduceAdd, Nat.reduceSub, reduceIte, Int32.reduceLT, Int32.reduceLE, ne_eq, not_false_eq_true, not_true_eq_false, false_or, or_false, and_false, false_and, reduceCtorEq, jn_4, jn_6, jn_8, jn_9, jn_12, jn_60, jn_100, jn_200, jn_400, jn_600, jn_601, jn_3600, jI_4, jI_6, jI_8, jI_9, jI_12, jI_60, jI_100, jI_200, jI_400, jI_600, jI_601, jI_3600, va_cpy_00, jx_0, jx_6, jx_12, jx_400, jx_600, nI_1, hml, nM_S, nM_R, n_see h hi, hT, n_hasRoundT (j := n) h hn hb (show n < n + 1 + c by omega) hO]
  refine n_flush (d := d + 1) h hK (show b ≤ n + 1 by omega) (Int32.le_refl _) (Or.inr (by rw [Nat.add_sub_cancel, hO]; decide)) (fun FM' hF => ?_) c FM hP hn
  simp (config := {decide := true}) (disch := first | omega | assumption | (simp only [mS_cL, mS_cI, mS_cR, mR_cL, mR_cI]; first | assumption | exact hcr _ | fail)) only [tX12_closesRound_1, tX12_closesRound_4, tX12_closesRound_6, tX12_closesRound_9, tX12_closesRound_10, tX12_closesRound_11, tX12_closesRound_14, tX12_closesRound_17, tX12_closesRound_18, tX12_closesRound_19, tX12_closesRound_20, tX12_closesRound_23, tX12_closesRound_24, tX12_closesRound_25, tX12_closesRound_28, tX12_closesRound_29, tX12_closesRound_30, tX12_closesRound_33, tX12_closesRound_34, tX12_closesRound_35, tX12_closesRound_38, tX12_closesRound_39, tX12_closesRound_40, tX12_closesRound_43, tX12_closesRound_44, tX12_closesRound_45, tX12_closesRound_48, tX12_closesRound_49, tX12_closesRound_50, tX12_closesRound_53, tX12_closesRound_56, jK_some, jK_none, jc1_int, jc1_ref, jc1_none, jc1_long, jc1_null, jc1_rf, va_rf_some, va_rf_none, mI_cI, mL_cL, mR_cR, cI_cI, cL_cL, jup_eq, jne_1, jne_2, Nat.add_left_cancel_iff, mL_cI, mR_cI, mS_cI, mN_cI, mI_cL, mR_cL, mS_cL, mN_cL, mI_cR, mL_cR, mS_cR, mN_cR, true_and, and_true, true_or, or_true, if_true, if_false, jBool_0, jBool_1, Nat.le_refl, Nat.reduceLeDiff, Nat.reduceEqDiff, Nat.reduceAdd, Nat.reduceSub, reduceIte, Int32.reduceLT, Int32.reduceLE, ne_eq, not_false_eq_true, not_true_eq_false, false_or, or_false, and_false, false_and, reduceCtorEq, jn_4, jn_6, jn_8, jn_9, jn_12, jn_60, jn_100, jn_200, jn_400, jn_600, jn_601, jn_3600, jI_4, jI_6, jI_8, jI_9, jI_12, jI_60, jI_100, jI_200, jI_400, jI_600, jI_601, jI_3600, va_cpy_00, jx_0, jx_6, jx_12, jx_400, jx_600, nI_1, hml, nM_S, nM_R, nM_opened, nM_deep, nM_next, nI_pred, nI_1, nM_toOpened, nM_toDeep, nM_toNext]
  have := hQ FM' hF
  rw [nX12_closesRound] at this
  exact this
theorem AA_bad (h : NB B T x z) (hi : i ≤ z) (hT : T (rSk T i) ≠ 41) (hN : N5 (T (rSk T i))) (hn : n ≤ 400) (hj : b ≤ j) (hj2 : j < n) (hO : O j = 40)
    (hQ : Q (some (.int 0)) (nM B x (rSk T i) t (1 + 8 * nI (rSk T i) + 0) p n k F O a)) : AA d b L3 L4 (nM B x i t 0 p n k F O a) Q := by
  have hml := h.1
  obtain ⟨⟨-, n1, n2⟩, n3, n4⟩ := hN
  have hs' := n_Sk h hi
  refine AA_out h hi hT ?_
  simp (config := {decide := true}) (disch := first | omega | assumption | (simp only [mS_cL, mS_cI, mS_cR, mR_cL, mR_cI]; first | assumption | exact hcr _ | fail)) only [tX12_sum_0, tX12_sum_1, tX12_sum_4, tX12_sum_5, tX12_sum_6, tX12_sum_8, tX12_sum_11, tX12_sum_12, tX12_sum_15, tX12_sum_18, tX12_sum_19, tX12_sum_20, tX12_sum_21, tX12_sum_22, tX12_sum_25, tX12_sum_26, tX12_sum_29, tX12_sum_30, tX12_sum_31, tX12_sum_33, tX12_sum_36, tX12_sum_37, tX12_sum_39, tX12_sum_42, tX12_sum_43, tX12_sum_45, tX12_sum_48, tX12_sum_49, tX12_sum_51, tX12_sum_54, tX12_sum_55, tX12_sum_58, tX12_sum_59, tX12_sum_60, tX12_sum_61, tX12_sum_64, tX12_sum_65, tX12_sum_67, tX12_sum_70, tX12_sum_71, tX12_sum_74, tX12_sum_75, tX12_sum_77, tX12_sum_80, tX12_sum_81, tX12_sum_84, tX12_sum_85, tX12_sum_87, tX12_sum_90, tX12_sum_91, tX12_sum_94, tX12_sum_95, tX12_sum_97, tX12_sum_98, tX12_sum_100, tX12_sum_103, tX12_sum_104, tX12_sum_107, tX12_sum_108, tX12_sum_111, tX12_sum_112, tX12_sum_115, tX12_sum_117, tX12_sum_118, tX12_sum_119, tX12_sum_120, tX12_sum_123, tX12_sum_124, tX12_sum_125, tX12_sum_128, tX12_sum_129, tX12_sum_130, tX12_sum_133, tX12_sum_134, tX12_sum_135, tX12_sum_138, tX12_sum_141, tX12_sum_142, tX12_sum_143, tX12_sum_146, tX12_sum_149, tX12_sum_150, tX12_sum_151, tX12_sum_152, tX12_sum_155, tX12_sum_158, tX12_sum_159, tX12_sum_160, tX12_sum_161, tX12_sum_162, tX12_sum_165, tX12_sum_166, tX12_sum_7, jK_some, jK_none, jc1_int, jc1_ref, jc1_none, jc1_long, jc1_null, jc1_rf, va_rf_some, va_rf_none, mI_cI, mL_cL, mR_cR, cI_cI, cL_cL, jup_eq, jne_1, jne_2, Nat.add_left_cancel_iff, mL_cI, mR_cI, mS_cI, mN_cI, mI_cL, mR_cL, mS_cL, mN_cL, mI_cR, mL_cR, mS_cR, mN_cR, true_and, and_true, true_or, or_true, if_true, if_false, jBool_0, jBool_1, Nat.le_refl, Nat.reduceLeDiff, Nat.reduceEqDiff, Nat.reduceAdd, Nat.reduceSub, reduceIte, Int32.reduceLT, Int32.reduceLE, ne_eq, not_false_eq_true, not_true_eq_false, false_or, or_false, and_false, false_and, reduceCtorEq, jn_4, jn_6, jn_8, jn_9, jn_12, jn_60, jn_100, jn_200, jn_400, jn_600, jn_601, jn_3600, jI_4, jI_6, jI_8, jI_9, jI_12, jI_60, jI_100, jI_200, jI_400, jI_600, jI_601, jI_3600, va_cpy_00, jx_0, jx_6, jx_12, jx_400, jx_600, nI_1, hml, nM_S, nM_R, n_see h hs', skip_skip h hi, n1, n2, n3, n4, n_hasRoundT (j := j) h hn hj hj2 hO, nM_next, n_fails h]
  exact hQ
theorem AA_done (h : NB B T x z) (hi : i ≤ z) (hN : N5 (T (rSk T i))) (hn : b + c ≤ 400) (hK : K ≤ 400) (hP : Pd 5 F K b c FM O)
    (hQ : ∀ FM', (∀ j, j < K → FM' j = kTr (F j)) → Q (some (.int 1)) (nM B x (rSk T i) t 0 p b K FM' O a)) : AA d b L3 L4 (nM B x i t 0 p (b + c) (K - c) FM O a) Q := by
  have hml := h.1
  obtain ⟨⟨-, n1, n2⟩, n3, n4⟩ := hN
  have hs' := n_Sk h hi
  have hO : ∀ j, b ≤ j → j < b + c → O j ≠ 40 := fun j h1 h2 e => by
    have := (hP.2.2 (j - b) (by omega)).2.1
    rw [show b + (j - b) = j by omega, e] at this
    exact absurd this (by decide)
  have key : AW (d + 4) 211 25 [some (.ref 195), some (.int (nI b)), some (.int 1), L3, L4] [] (nM B x (rSk T i) t 0 p (b + c) (K - c) FM O a) Q := by
    simp (config := {decide := true}) (disch := first | omega | assumption | (simp only [mS_cL, mS_cI, mS_cR, mR_cL, mR_cI]; first | assumption | exact hcr _ | fail)) only [tX12_sum_0, tX12_sum_1, tX12_sum_4, tX12_sum_5, tX12_sum_6, tX12_sum_8, tX12_sum_11, tX12_sum_12, tX12_sum_15, tX12_sum_18, tX12_sum_19, tX12_sum_20, tX12_sum_21, tX12_sum_22, tX12_sum_25, tX12_sum_26, tX12_sum_29, tX12_sum_30, tX12_sum_31, tX12_sum_33, tX12_sum_36, tX12_sum_37, tX12_sum_39, tX12_sum_42, tX12_sum_43, tX12_sum_45, tX12_sum_48, tX12_sum_49, tX12_sum_51, tX12_sum_54, tX12_sum_55, tX12_sum_58, tX12_sum_59, tX12_sum_60, tX12_sum_61, tX12_sum_64, tX12_sum_65, tX12_sum_67, tX12_sum_70, tX12_sum_71, tX12_sum_74, tX12_sum_75, tX12_sum_77, tX12_sum_80, tX12_sum_81, tX12_sum_84, tX12_sum_85, tX12_sum_87, tX12_sum_90, tX12_sum_91, tX12_sum_94, tX12_sum_95, tX12_sum_97, tX12_sum_98, tX12_sum_100, tX12_sum_103, tX12_sum_104, tX12_sum_107, tX12_sum_108, tX12_sum_111, tX12_sum_112, tX12_sum_115, tX12_sum_117, tX12_sum_118, tX12_sum_119, tX12_sum_120, tX12_sum_123, tX12_sum_124, tX12_sum_125, tX12_sum_128, tX12_sum_129, tX12_sum_130, tX12_sum_133, tX12_sum_134, tX12_sum_135, tX12_sum_138, tX12_sum_141, tX12_sum_142, tX12_sum_143, tX12_sum_146, tX12_sum_149, tX12_sum_150, tX12_sum_151, tX12_sum_152, tX12_sum_155, tX12_sum_158, tX12_sum_159, tX12_sum_160, tX12_sum_161, tX12_sum_162, tX12_sum_165, tX12_sum_166, tX12_sum_7, jK_some, jK_none, jc1_int, jc1_ref, jc1_none, jc1_long, jc1_null, jc1_rf, va_rf_some, va_rf_none, mI_cI, mL_cL, mR_cR, cI_cI, cL_cL, jup_eq, jne_1, jne_2, Nat.add_left_cancel_iff, mL_cI, mR_cI, mS_cI, mN_cI, mI_cL, mR_cL, mS_cL, mN_cL, mI_cR, mL_cR, mS_cR, mN_cR, true_and, and_true, true_or, or_true, if_true, if_false, jBool_0, jBool_1, Nat.le_refl, Nat.reduceLeDiff, Nat.reduceEqDiff, Nat.reduceAdd, Nat.reduceSub, reduceIte, Int32.reduceLT, Int32.reduceLE, ne_eq, not_false_eq_true, not_true_eq_false, false_or, or_false, and_false, false_and, reduceCtorEq, jn_4, jn_6, jn_8, jn_9, jn_12, jn_60, jn_100, jn_200, jn_400, jn_600, jn_601, jn_3600, jI_4, jI_6, jI_8, jI_9, jI_12, jI_60, jI_100, jI_200, jI_400, jI_600, jI_601, jI_3600, va_cpy_00, jx_0, jx_6, jx_12, jx_400, jx_600, nI_1, hml, nM_S, nM_R, n_see h hs', skip_skip h hi, n1, n2, n3, n4, n_hasRoundF h hn hO (show b ≤ b + c by omega)]
    refine n_flush (d := d + 2) h hK (Nat.le_refl _) (Int32.le_refl _) (Or.inl (Nat.le_refl _)) (fun FM' hF => ?_) c FM hP hn
    simp (config := {decide := true}) (disch := first | omega | assumption | (simp only [mS_cL, mS_cI, mS_cR, mR_cL, mR_cI]; first | assumption | exact hcr _ | fail)) only [tX12_sum_0, tX12_sum_1, tX12_sum_4, tX12_sum_5, tX12_sum_6, tX12_sum_8, tX12_sum_11, tX12_sum_12, tX12_sum_15, tX12_sum_18, tX12_sum_19, tX12_sum_20, tX12_sum_21, tX12_sum_22, tX12_sum_25, tX12_sum_26, tX12_sum_29, tX12_sum_30, tX12_sum_31, tX12_sum_33, tX12_sum_36, tX12_sum_37, tX12_sum_39, tX12_sum_42, tX12_sum_43, tX12_sum_45, tX12_sum_48, tX12_sum_49, tX12_sum_51, tX12_sum_54, tX12_sum_55, tX12_sum_58, tX12_sum_59, tX12_sum_60, tX12_sum_61, tX12_sum_64, tX12_sum_65, tX12_sum_67, tX12_sum_70, tX12_sum_71, tX12_sum_74, tX12_sum_75, tX12_sum_77, tX12_sum_80, tX12_sum_81, tX12_sum_84, tX12_sum_85, tX12_sum_87, tX12_sum_90, tX12_sum_91, tX12_sum_94, tX12_sum_95, tX12_sum_97, tX12_sum_98, tX12_sum_100, tX12_sum_103, tX12_sum_104, tX12_sum_107, tX12_sum_108, tX12_sum_111, tX12_sum_112, tX12_sum_115, tX12_sum_117, tX12_sum_118, tX12_sum_119, tX12_sum_120, tX12_sum_123, tX12_sum_124, tX12_sum_125, tX12_sum_128, tX12_sum_129, tX12_sum_130, tX12_sum_133, tX12_sum_134, tX12_sum_135, tX12_sum_138, tX12_sum_141, tX12_sum_142, tX12_sum_143, tX12_sum_146, tX12_sum_149, tX12_sum_150, tX12_sum_151, tX12_sum_152, tX12_sum_155, tX12_sum_158, tX12_sum_159, tX12_sum_160, tX12_sum_161, tX12_sum_162, tX12_sum_165, tX12_sum_166, jK_some, jK_none, jc1_int, jc1_ref, jc1_none, jc1_long, jc1_null, jc1_rf, va_rf_some, va_rf_none, mI_cI, mL_cL, mR_cR, cI_cI, cL_cL, jup_eq, jne_1, jne_2, Nat.add_left_cancel_iff, mL_cI, mR_cI, mS_cI, mN_cI, mI_cL, mR_cL, mS_cL, mN_cL, mI_cR, mL_cR, mS_cR, mN_cR, true_and, and_true, true_or, or_true, if_true, if_false, jBool_0, jBool_1, Nat.le_refl, Nat.reduceLeDiff, Nat.reduceEqDiff, Nat.reduceAdd, Nat.reduceSub, reduceIte, Int32.reduceLT, Int32.reduceLE, ne_eq, not_false_eq_true, not_true_eq_false, false_or, or_false, and_false, false_and, reduceCtorEq, jn_4, jn_6, jn_8, jn_9, jn_12, jn_60, jn_100, jn_200, jn_400, jn_600, jn_601, jn_3600, jI_4, jI_6, jI_8, jI_9, jI_12, jI_60, jI_100, jI_200, jI_400, jI_600, jI_601, jI_3600, va_cpy_00, jx_0, jx_6, jx_12, jx_400, jx_600, nI_1, hml, nM_S, nM_R]
    exact hQ FM' hF
  unfold AA
  rw [nX12_closesRound, tX12_closesRound_0]
  by_cases hT : T (rSk T i) = 41
  · simp (config := {decide := true}) (disch := first | omega | assumption | (simp only [mS_cL, mS_cI, mS_cR, mR_cL, mR_cI]; first | assumption | exact hcr _ | fail)) only [tX12_closesRound_1, tX12_closesRound_4, tX12_closesRound_6, tX12_closesRound_9, tX12_closesRound_10, tX12_closesRound_11, tX12_closesRound_14, tX12_closesRound_17, tX12_closesRound_18, tX12_closesRound_19, tX12_closesRound_20, tX12_closesRound_23, tX12_closesRound_24, tX12_closesRound_25, tX12_closesRound_28, tX12_closesRound_29, tX12_closesRound_30, tX12_closesRound_33, tX12_closesRound_34, tX12_closesRound_35, tX12_closesRound_38, tX12_closesRound_39, tX12_closesRound_40, tX12_closesRound_43, tX12_closesRound_44, tX12_closesRound_45, tX12_closesRound_48, tX12_closesRound_49, tX12_closesRound_50, tX12_closesRound_53, tX12_closesRound_56, jK_some, jK_none, jc1_int, jc1_ref, jc1_none, jc1_long, jc1_null, jc1_rf, va_rf_some, va_rf_none, mI_cI, mL_cL, mR_cR, cI_cI, cL_cL, jup_eq, jne_1, jne_2, Nat.add_left_cancel_iff, mL_cI, mR_cI, mS_cI, mN_cI, mI_cL, mR_cL, mS_cL, mN_cL, mI_cR, mL_cR, mS_cR, mN_cR, true_and, and_true, true_or, or_true, if_true, if_false, jBool_0, jBool_1, Nat.le_refl, Nat.reduceLeDiff, Nat.reduceEqDiff, Nat.reduceAdd, Nat.reduceSub, reduceIte, Int32.reduceLT, Int32.reduceLE, ne_eq, not_false_eq_true, not_true_eq_false, false_or, or_false, and_false, false_and, reduceCtorEq, jn_4, jn_6, jn_8, jn_9, jn_12, jn_60, jn_100, jn_200, jn_400, jn_600, jn_601, jn_3600, jI_4, jI_6, jI_8, jI_9, jI_12, jI_60, jI_100, jI_200, jI_400, jI_600, jI_601, jI_3600, va_cpy_00, jx_0, jx_6, jx_12, jx_400, jx_600, nI_1, hml, nM_S, nM_R, n_see h hi, hT, n_hasRoundF h hn hO (show b ≤ b + c by omega)]
    exact key
  · simp (config := {decide := true}) (disch := first | omega | assumption | (simp only [mS_cL, mS_cI, mS_cR, mR_cL, mR_cI]; first | assumption | exact hcr _ | fail)) only [tX12_closesRound_1, tX12_closesRound_4, tX12_closesRound_6, tX12_closesRound_9, tX12_closesRound_10, tX12_closesRound_11, tX12_closesRound_14, tX12_closesRound_17, tX12_closesRound_18, tX12_closesRound_19, tX12_closesRound_20, tX12_closesRound_23, tX12_closesRound_24, tX12_closesRound_25, tX12_closesRound_28, tX12_closesRound_29, tX12_closesRound_30, tX12_closesRound_33, tX12_closesRound_34, tX12_closesRound_35, tX12_closesRound_38, tX12_closesRound_39, tX12_closesRound_40, tX12_closesRound_43, tX12_closesRound_44, tX12_closesRound_45, tX12_closesRound_48, tX12_closesRound_49, tX12_closesRound_50, tX12_closesRound_53, tX12_closesRound_56, jK_some, jK_none, jc1_int, jc1_ref, jc1_none, jc1_long, jc1_null, jc1_rf, va_rf_some, va_rf_none, mI_cI, mL_cL, mR_cR, cI_cI, cL_cL, jup_eq, jne_1, jne_2, Nat.add_left_cancel_iff, mL_cI, mR_cI, mS_cI, mN_cI, mI_cL, mR_cL, mS_cL, mN_cL, mI_cR, mL_cR, mS_cR, mN_cR, true_and, and_true, true_or, or_true, if_true, if_false, jBool_0, jBool_1, Nat.le_refl, Nat.reduceLeDiff, Nat.reduceEqDiff, Nat.reduceAdd, Nat.reduceSub, reduceIte, Int32.reduceLT, Int32.reduceLE, ne_eq, not_false_eq_true, not_true_eq_false, false_or, or_false, and_false, false_and, reduceCtorEq, jn_4, jn_6, jn_8, jn_9, jn_12, jn_60, jn_100, jn_200, jn_400, jn_600, jn_601, jn_3600, jI_4, jI_6, jI_8, jI_9, jI_12, jI_60, jI_100, jI_200, jI_400, jI_600, jI_601, jI_3600, va_cpy_00, jx_0, jx_6, jx_12, jx_400, jx_600, nI_1, hml, nM_S, nM_R, n_see h hi, hT]
    exact key
theorem HH_ret (hml : MLay (mS B) (mR B) 195) (hQ : AA d b L3 L4 (nM B x i t w p n k F O a) Q) : jK (d + 4) 211 15 [some (.ref 195), some (.int (nI b)), some (.int 1), L3, L4] [] Q (some (.int 1)) (nM B x i t w p n k F O a) := by
  simp (config := {decide := true}) (disch := first | omega | assumption | (simp only [mS_cL, mS_cI, mS_cR, mR_cL, mR_cI]; first | assumption | exact hcr _ | fail)) only [tX12_sum_15, tX12_sum_18, tX12_sum_19, tX12_sum_20, tX12_sum_21, tX12_sum_22, jK_some, jK_none, jc1_int, jc1_ref, jc1_none, jc1_long, jc1_null, jc1_rf, va_rf_some, va_rf_none, mI_cI, mL_cL, mR_cR, cI_cI, cL_cL, jup_eq, jne_1, jne_2, Nat.add_left_cancel_iff, mL_cI, mR_cI, mS_cI, mN_cI, mI_cL, mR_cL, mS_cL, mN_cL, mI_cR, mL_cR, mS_cR, mN_cR, true_and, and_true, true_or, or_true, if_true, if_false, jBool_0, jBool_1, Nat.le_refl, Nat.reduceLeDiff, Nat.reduceEqDiff, Nat.reduceAdd, Nat.reduceSub, reduceIte, Int32.reduceLT, Int32.reduceLE, ne_eq, not_false_eq_true, not_true_eq_false, false_or, or_false, and_false, false_and, reduceCtorEq, jn_4, jn_6, jn_8, jn_9, jn_12, jn_60, jn_100, jn_200, jn_400, jn_600, jn_601, jn_3600, jI_4, jI_6, jI_8, jI_9, jI_12, jI_60, jI_100, jI_200, jI_400, jI_600, jI_601, jI_3600, va_cpy_00, jx_0, jx_6, jx_12, jx_400, jx_600, nI_1, hml, nM_S, nM_R]
  exact hQ
theorem HH_ret0 (hml : MLay (mS B) (mR B) 195) (hQ : Q (some (.int 0)) (nM B x i t w p n k F O a)) : jK (d + 4) 211 15 [some (.ref 195), some (.int (nI b)), some (.int 1), L3, L4] [] Q (some (.int 0)) (nM B x i t w p n k F O a) := by
  simp (config := {decide := true}) (disch := first | omega | assumption | (simp only [mS_cL, mS_cI, mS_cR, mR_cL, mR_cI]; first | assumption | exact hcr _ | fail)) only [tX12_sum_15, tX12_sum_18, tX12_sum_19, tX12_sum_20, tX12_sum_21, tX12_sum_22, jK_some, jK_none, jc1_int, jc1_ref, jc1_none, jc1_long, jc1_null, jc1_rf, va_rf_some, va_rf_none, mI_cI, mL_cL, mR_cR, cI_cI, cL_cL, jup_eq, jne_1, jne_2, Nat.add_left_cancel_iff, mL_cI, mR_cI, mS_cI, mN_cI, mI_cL, mR_cL, mS_cL, mN_cL, mI_cR, mL_cR, mS_cR, mN_cR, true_and, and_true, true_or, or_true, if_true, if_false, jBool_0, jBool_1, Nat.le_refl, Nat.reduceLeDiff, Nat.reduceEqDiff, Nat.reduceAdd, Nat.reduceSub, reduceIte, Int32.reduceLT, Int32.reduceLE, ne_eq, not_false_eq_true, not_true_eq_false, false_or, or_false, and_false, false_and, reduceCtorEq, jn_4, jn_6, jn_8, jn_9, jn_12, jn_60, jn_100, jn_200, jn_400, jn_600, jn_601, jn_3600, jI_4, jI_6, jI_8, jI_9, jI_12, jI_60, jI_100, jI_200, jI_400, jI_600, jI_601, jI_3600, va_cpy_00, jx_0, jx_6, jx_12, jx_400, jx_600, nI_1, hml, nM_S, nM_R]
  exact hQ
theorem val_k {s : RS} (hT : T (rSk T s.1) ≠ 40) (hk : s.2.2.2.1 < 400) : (rVal T u dp inner s).2.2.2.1 = s.2.2.2.1 + 1 ∧ ∀ j, j < s.2.2.2.1 → (rVal T u dp inner s).2.2.2.2 j = s.2.2.2.2 j := by
  unfold rVal
  rw [if_neg hT]
  split
  · have e : (rNum T 99999 (rSk T s.1, s.2)).2.2.2 = s.2.2.2 := rNum_k
    rw [rTold_k, rPut_lt (by rw [e]; exact hk)]
    rw [e]
    exact ⟨rfl, fun j hj => jup_ne (by omega)⟩
  · have e : (rWs T u (rSk T s.1, s.2)).2.2.2 = s.2.2.2 := rWs_k
    rw [rTold_k]
    rw [rPut_lt (by rw [e]; exact hk)]
    rw [e]
    exact ⟨rfl, fun j hj => jup_ne (by omega)⟩
theorem CG_val (h : NB B T x z) (hX : XB Bx T z) (hu : u = 0 ↔ ¬ x < 4) (hd : dp ≤ 10) (hG : GD false z (rVal T u dp inner)) (hGi : dp < 10 → GD false z inner) (hI : dp < 10 → CG d b B T x z (dp + 1) 5 N5 inner) : CG d b B T x z dp 7 (fun _ => True) (rVal T u dp inner) := by
  intro s tt n FM O a L3 L4 Q g0 hkn hbn hF hs h1 h2
  have hml := h.1
  have hz := h.2.2.2.1
  obtain ⟨g1, g2, g3, g4, g5⟩ := id g0
  have k1 : rSk T s.1 ≤ z := n_Sk h g4
  have k2 := rSk_ge (T := T) (i := s.1)
  by_cases hT : T (rSk T s.1) = 40
  · have k3 : rSk T s.1 < z := n_lt h (by rw [hT]; decide)
    unfold HH
    rw [nX12_value, tX12_value_0]
    simp (config := {decide := true}) (disch := first | omega | assumption | (simp only [mS_cL, mS_cI, mS_cR, mR_cL, mR_cI]; first | assumption | exact hcr _ | fail)) only [tX12_value_1, tX12_value_4, tX12_value_6, tX12_value_9, tX12_value_10, tX12_value_12, tX12_value_15, tX12_value_18, tX12_value_19, tX12_value_20, tX12_value_21, tX12_value_22, tX12_value_25, tX12_value_26, tX12_value_27, tX12_value_30, jK_some, jK_none, jc1_int, jc1_ref, jc1_none, jc1_long, jc1_null, jc1_rf, va_rf_some, va_rf_none, mI_cI, mL_cL, mR_cR, cI_cI, cL_cL, jup_eq, jne_1, jne_2, Nat.add_left_cancel_iff, mL_cI, mR_cI, mS_cI, mN_cI, mI_cL, mR_cL, mS_cL, mN_cL, mI_cR, mL_cR, mS_cR, mN_cR, true_and, and_true, true_or, or_true, if_true, if_false, jBool_0, jBool_1, Nat.le_refl, Nat.reduceLeDiff, Nat.reduceEqDiff, Nat.reduceAdd, Nat.reduceSub, reduceIte, Int32.reduceLT, Int32.reduceLE, ne_eq, not_false_eq_true, not_true_eq_false, false_or, or_false, and_false, false_and, reduceCtorEq, jn_4, jn_6, jn_8, jn_9, jn_12, jn_60, jn_100, jn_200, jn_400, jn_600, jn_601, jn_3600, jI_4, jI_6, jI_8, jI_9, jI_12, jI_60, jI_100, jI_200, jI_400, jI_600, jI_601, jI_3600, va_cpy_00, jx_0, jx_6, jx_12, jx_400, jx_600, nI_1, hml, nM_S, nM_R, nM_next, n_see h g4, hT, n_opens h hd (show n < 400 by omega), nI_1, nM_toNext]
    unfold rVal at h1 h2
    rw [if_pos hT] at h1 h2
    by_cases e10 : dp = 10
    · have e3 : (rOp dp (rSk T s.1, s.2)).2.2.1 = 1 + 8 * nI (rSk T s.1) + 2 := by
        unfold rOp rFail; rw [if_pos (by omega), if_pos (by exact g1)]
      have e4 : (rOp dp (rSk T s.1, s.2)).2.2.1 ≠ 0 := by
        unfold rOp; rw [if_pos (by omega)]; exact rFail_f (k := 2) (show rSk T s.1 ≤ 1000 by omega) (by decide)
      rw [if_neg e4] at h2
      have h2 := h2 e4
      rw [e3] at h2
      rw [if_pos e10]
      exact HH_ret0 hml (h2 _ _ _ _ _ _ _ _)
    · have hd2 : dp < 10 := by omega
      have e3 : rOp dp (rSk T s.1, s.2) = (rSk T s.1, s.2) := by unfold rOp; rw [if_neg (by omega)]
      rw [e3, if_pos (by exact g1)] at h1 h2
      rw [if_neg e10]
      have h3 : G0 z (rSk T s.1 + 1, s.2) tt := ⟨g1, g2, g3, k3, by show s.2.2.2.1 ≤ rSk T s.1 + 1; omega⟩
      have := hI hd2 (rSk T s.1 + 1, s.2) tt (n + 1) FM (jup O n 40) a L3 L4 Q h3 (by show s.2.2.2.1 + (n + 1) ≤ rSk T s.1 + 1; omega) (by omega) hF (Or.inr (by rw [Nat.add_sub_cancel, jup_same]; decide)) ?_ ?_
      · unfold HH at this
        rw [nX12_value] at this
        exact this
      · intro hf L3 L4 FM' O' a' c hP hO hN
        obtain ⟨cc, q, hA⟩ := hGi hd2 _ tt h3 hf
        have g6 := GA_0 hA h3 hf
        obtain ⟨a1, a2, a3, a4, a5, a6, a7, a8⟩ := hA
        have a4 : (inner (rSk T s.1 + 1, s.2)).2.2.2.1 = s.2.2.2.1 + cc.length := a4
        have a7 : cc.length + (rSk T s.1 + 1) ≤ (inner (rSk T s.1 + 1, s.2)).1 := a7
        have hcK := hP.1
        have hO40 : O' n = 40 := (hO n (by omega)).trans jup_same
        unfold rExp at h1 h2
        by_cases e41 : T (rSk T (inner (rSk T s.1 + 1, s.2)).1) = 41
        · rw [if_pos e41] at h1
          refine AA_close h a8 e41 (by omega) hbn (by omega) hO40 hP (fun FM2 hF2 => ?_)
          exact h1 hf L3 L4 FM2 O' a' 0 ⟨Nat.zero_le _, fun j hj => hF2 j hj, fun q hq => absurd hq (Nat.not_lt_zero _)⟩ (fun j hj => (hO j (by omega)).trans (jup_ne (by omega))) trivial
        · rw [if_neg e41] at h2
          have e5 : (rFail (rSk T (inner (rSk T s.1 + 1, s.2)).1, (inner (rSk T s.1 + 1, s.2)).2) (rSk T (inner (rSk T s.1 + 1, s.2)).1) 0).2.2.1 = 1 + 8 * nI (rSk T (inner (rSk T s.1 + 1, s.2)).1) + 0 := by
            unfold rFail; rw [if_pos (by exact hf)]
          have e6 : rSk T (inner (rSk T s.1 + 1, s.2)).1 ≤ z := n_Sk h a8
          have e7 := rFail_f (s := (rSk T (inner (rSk T s.1 + 1, s.2)).1, (inner (rSk T s.1 + 1, s.2)).2)) (p := rSk T (inner (rSk T s.1 + 1, s.2)).1) (k := 0) (by omega) (by decide)
          have h2 := h2 e7
          rw [e5] at h2
          exact AA_bad (j := n) h a8 e41 hN (by omega) hbn (by omega) hO40 (h2 _ _ _ _ _ _ _ _)
      · intro hf
        rw [rExp_kp hf] at h2
        exact h2 hf
  · unfold HH
    refine n_val (inner := inner) (dp := dp) h hX hu g0 hT (fun hf a' => ?_) (fun hf => ?_)
    · obtain ⟨cc, q, hA⟩ := hG s tt g0 hf
      obtain ⟨a1, a2, a3, a4, a5, a6, a7, a8⟩ := hA
      have hc : 0 < cc.length := List.length_pos_iff.mpr a1.2.1
      obtain ⟨e1, e2⟩ := val_k (T := T) (u := u) (dp := dp) (inner := inner) hT (show s.2.2.2.1 < 400 by omega)
      refine HH_ret hml ?_
      have := h1 hf L3 L4 (jup FM s.2.2.2.1 (kTr ((rVal T u dp inner s).2.2.2.2 s.2.2.2.1))) O a' 0 ⟨Nat.zero_le _, fun j hj => ?_, fun q hq => absurd hq (Nat.not_lt_zero _)⟩ (fun _ _ => rfl) trivial
      · rw [Nat.sub_zero, e1, Nat.add_zero] at this; exact this
      · rw [Nat.sub_zero, e1] at hj
        by_cases ej : j = s.2.2.2.1
        · rw [ej, jup_same]
        · rw [jup_ne ej, hF j (by omega), e2 j (by omega)]
    · intro i' t' p' n' k' F' O' a'
      exact HH_ret0 hml (h2 hf _ _ _ _ _ _ _ _)
theorem CG_term (h : NB B T x z) (hX : XB Bx T z) (hG : GD false z (rVal T u dp inner)) (hC : CG d b B T x z dp 7 (fun _ => True) (rVal T u dp inner)) : CG d b B T x z dp 6 (fun v => True ∧ v ≠ 42 ∧ v ≠ 47) (rTerm T u dp inner) :=
  CG_loop (oa := 4) (ob := 5) h hX (by decide) (by decide) (by decide) (by decide) (by decide) hG hC
theorem CG_sumW (h : NB B T x z) (hX : XB Bx T z) (hG : GD false z (rTerm T u dp inner)) (hC : CG d b B T x z dp 6 (fun v => True ∧ v ≠ 42 ∧ v ≠ 47) (rTerm T u dp inner)) : CG d b B T x z dp 5 N5 (rSumW T u dp inner) :=
  CG_loop (oa := 2) (ob := 3) h hX (by decide) (by decide) (by decide) (by decide) (by decide) hG hC
theorem CG_sum (h : NB B T x z) (hX : XB Bx T z) (hu : u = 0 ↔ ¬ x < 4) : ∀ k dp, dp + k = 10 → CG d b B T x z dp 5 N5 (rSum T u k)
  | 0, dp, hk => by
    have hd : dp = 10 := by omega
    subst hd
    have g1 : GD false z (rVal T u 10 id) := GD_val hX (Nat.le_refl _) (fun e => absurd e (by decide))
    exact CG_sumW h hX (GD_term hX g1) (CG_term h hX g1 (CG_val h hX hu (Nat.le_refl _) g1 (fun e => absurd e (by decide)) (fun e => absurd e (by decide))))
  | k + 1, dp, hk => by
    have hd : dp = 10 - (k + 1) := by omega
    have g1 : GD false z (rVal T u dp (rSum T u k)) := GD_val hX (by omega) (fun _ => GD_sum hX k (by omega))
    have := CG_sumW h hX (GD_term hX g1) (CG_term h hX g1 (CG_val (d := d) (b := b) h hX hu (by omega) g1 (fun _ => GD_sum hX k (by omega)) (fun _ => CG_sum h hX hu k (dp + 1) (by omega))))
    unfold rSum
    rw [← hd]
    exact this
end CLR
