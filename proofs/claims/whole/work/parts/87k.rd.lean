/-! ===== the reference's reader: numbers, words ===== -/
section NMH
variable {d : Nat} {B : jmM} {T : Nat → Int32} {x z i p n k j b q : Nat} {t w a y v s lst most : Int32} {V : Int64} {F O : Nat → Int32} {Q : Option Value → jmM → Prop}
theorem skip_id (h : T i ≠ 32) : rSk T i = i := by
  unfold rSk
  generalize 400 - i = q
  cases q with
  | zero => rfl
  | succ q =>
    unfold jfind
    rw [if_pos (by simpa using h)]
theorem skip_ne (h : NB B T x z) (hi : i ≤ z) : T (rSk T i) ≠ 32 := by
  have key : ∀ q i, i ≤ z → i + q = 400 → T (jfind (fun k => T k != 32) i q) ≠ 32 := by
    intro q
    induction q with
    | zero =>
      intro i hi hq
      show T i ≠ 32
      have := h.2.2.2.1
      rw [n_Te h (by omega)]; decide
    | succ q ih =>
      intro i hi hq
      unfold jfind
      split
      · next e => simpa using e
      · next e => exact ih _ (n_lt h (fun e2 => e (by rw [e2]; decide))) (by omega)
  have := h.2.2.2.1
  exact key _ _ hi (by omega)
theorem skip_skip (h : NB B T x z) (hi : i ≤ z) : rSk T (rSk T i) = rSk T i := skip_id (skip_ne h hi)
theorem n_number (h : NB B T x z) (hi : i ≤ z) : CC (d + 2) 201 [.ref 195, .int most] (nM B x i t 0 p n k F O a) Q ↔ if (rNm T (rSk T i)).1 = 0 then Q (some (.int 0)) (nM B x (rSk T i) t (1 + 8 * nI (rSk T i) + 0) p n k F O a) else if 5 < (rNm T (rSk T i)).1 ∨ most < (rNm T (rSk T i)).2 then Q (some (.int 0)) (nM B x (rSk T i + (rNm T (rSk T i)).1) t (1 + 8 * nI (rSk T i) + 1) p n k F O (rNm T (rSk T i)).2) else Q (some (.int 1)) (nM B x (rSk T i + (rNm T (rSk T i)).1) t 0 p n k F O (rNm T (rSk T i)).2) := by
  obtain ⟨hl, h2, h3, h4, h5, h6, h7⟩ := id h
  have hs := n_Sk h hi
  rw [nX12_number]
  simp (config := {decide := true}) (disch := first | omega | assumption | (simp only [mS_cL, mS_cI, mS_cR, mR_cL, mR_cI]; first | assumption | exact hcr _ | fail)) only [tX12_number_0, tX12_number_1, tX12_number_4, jK_some, jK_none, jc1_int, jc1_ref, jc1_none, jc1_long, jc1_null, jc1_rf, va_rf_some, va_rf_none, mI_cI, mL_cL, mR_cR, cI_cI, cL_cL, jup_eq, jne_1, jne_2, Nat.add_left_cancel_iff, mL_cI, mR_cI, mS_cI, mN_cI, mI_cL, mR_cL, mS_cL, mN_cL, mI_cR, mL_cR, mS_cR, mN_cR, true_and, and_true, true_or, or_true, if_true, if_false, jBool_0, jBool_1, Nat.le_refl, Nat.reduceLeDiff, Nat.reduceEqDiff, Nat.reduceAdd, Nat.reduceSub, reduceIte, Int32.reduceLT, Int32.reduceLE, ne_eq, not_false_eq_true, not_true_eq_false, false_or, or_false, and_false, false_and, reduceCtorEq, jn_4, jn_6, jn_8, jn_9, jn_12, jn_60, jn_100, jn_200, jn_400, jn_600, jn_601, jn_3600, jI_4, jI_6, jI_8, jI_9, jI_12, jI_60, jI_100, jI_200, jI_400, jI_600, jI_601, jI_3600, va_cpy_00, jx_0, jx_6, jx_12, jx_400, jx_600, nI_1, hl, nM_S, nM_R, n_see h hi]
  have hd : ((rNm T (rSk T i)).1 = 0) ↔ rDig (T (rSk T i)) = false := by
    unfold rNm jbrk
    show ((if !rDig (T (rSk T i)) then ((0 : Nat), (0 : Int32)) else _).1 = 0) ↔ _
    cases e : rDig (T (rSk T i))
    · exact ⟨fun _ => rfl, fun _ => rfl⟩
    · refine ⟨fun e2 => ?_, fun e2 => Bool.noConfusion e2⟩
      rw [if_neg (by simp)] at e2
      have := (jbrk_le (c := fun r (_ : Int32) => !rDig (T (rSk T i + r))) (f := fun r n => if r < 5 then n * 10 + T (rSk T i + r) - 48 else n) 399 1 (0 * 10 + T (rSk T i + 0) - 48)).1
      exact absurd (Nat.le_trans this (Nat.le_of_eq e2)) (by decide)
  have hz2 : ∀ q r (v : Int32), rSk T i + r ≤ z → rSk T i + (jbrk (fun r _ => !rDig (T (rSk T i + r))) (fun r n => if r < 5 then n * 10 + T (rSk T i + r) - 48 else n) r q v).1 ≤ z := by
    intro q
    induction q with
    | zero => intro r v h; exact h
    | succ q ih =>
      intro r v hr
      unfold jbrk
      split
      · exact hr
      · next e => exact ih (r + 1) _ (by have := n_lt h (i := rSk T i + r) (fun e2 => e (by rw [e2]; decide)); omega)
  have hz3 : rSk T i + (rNm T (rSk T i)).1 ≤ z := hz2 400 0 0 (by omega)
  have lp : ∀ Q : Option Value → jmM → Prop, AW (d + 1) 201 33 [some (.ref 195), some (.int most), some (.int (nI (rSk T i))), some (.int 0)] [] (nM B x (rSk T i) t 0 p n k F O a) Q ↔ AW (d + 1) 201 85 [some (.ref 195), some (.int most), some (.int (nI (rSk T i))), some (.int (rNm T (rSk T i)).2)] [] (nM B x (rSk T i + (rNm T (rSk T i)).1) t 0 p n k F O a) Q := fun Q =>
    loop_brk (n := 400) (c := fun r _ => !rDig (T (rSk T i + r))) (f := fun r n => if r < 5 then n * 10 + T (rSk T i + r) - 48 else n) (P := fun r v => AW (d + 1) 201 33 [some (.ref 195), some (.int most), some (.int (nI (rSk T i))), some (.int v)] [] (nM B x (rSk T i + r) t 0 p n k F O a) Q)
    (E := fun r v => AW (d + 1) 201 85 [some (.ref 195), some (.int most), some (.int (nI (rSk T i))), some (.int v)] [] (nM B x (rSk T i + r) t 0 p n k F O a) Q)
    (fun r v hr => by
      rw [tX12_number_33]
      cases e : rDig (T (rSk T i + r))
      · simp (config := {decide := true}) (disch := first | omega | assumption | (simp only [mS_cL, mS_cI, mS_cR, mR_cL, mR_cI]; first | assumption | exact hcr _ | fail)) only [tX12_number_34, tX12_number_35, tX12_number_38, tX12_number_41, tX12_number_44, tX12_number_45, tX12_number_48, tX12_number_49, tX12_number_50, tX12_number_51, tX12_number_54, tX12_number_56, tX12_number_57, tX12_number_58, tX12_number_59, tX12_number_62, tX12_number_63, tX12_number_66, tX12_number_67, tX12_number_68, tX12_number_70, tX12_number_71, tX12_number_72, tX12_number_73, tX12_number_74, tX12_number_77, tX12_number_78, tX12_number_79, tX12_number_82, jK_some, jK_none, jc1_int, jc1_ref, jc1_none, jc1_long, jc1_null, jc1_rf, va_rf_some, va_rf_none, mI_cI, mL_cL, mR_cR, cI_cI, cL_cL, jup_eq, jne_1, jne_2, Nat.add_left_cancel_iff, mL_cI, mR_cI, mS_cI, mN_cI, mI_cL, mR_cL, mS_cL, mN_cL, mI_cR, mL_cR, mS_cR, mN_cR, true_and, and_true, true_or, or_true, if_true, if_false, jBool_0, jBool_1, Nat.le_refl, Nat.reduceLeDiff, Nat.reduceEqDiff, Nat.reduceAdd, Nat.reduceSub, reduceIte, Int32.reduceLT, Int32.reduceLE, ne_eq, not_false_eq_true, not_true_eq_false, false_or, or_false, and_false, false_and, reduceCtorEq, jn_4, jn_6, jn_8, jn_9, jn_12, jn_60, jn_100, jn_200, jn_400, jn_600, jn_601, jn_3600, jI_4, jI_6, jI_8, jI_9, jI_12, jI_60, jI_100, jI_200, jI_400, jI_600, jI_601, jI_3600, va_cpy_00, jx_0, jx_6, jx_12, jx_400, jx_600, nI_1, hl, nM_S, nM_R, nM_next, n_isDigit h, e]
      · have hz : rSk T i + r < z := n_lt h (fun e2 => by rw [e2] at e; exact Bool.noConfusion e)
        have hb := k_byte (h6 (rSk T i + r) hz)
        have e3 : T (rSk T i + r) = mI B 196 (rSk T i + r) := (n_T h hz).trans (hb.2.2.2.2.2 (by rw [← hb.2.2.2.1, ← n_T h hz]; exact e))
        have e4 : jIx (nI (rSk T i + r)) 400 := (jIx_nI (by omega)).mpr (by omega)
        have e5 : nI (rSk T i + r) - nI (rSk T i) = nI r := by rw [← nI_add, Int32.add_comm, Int32.add_sub_cancel]
        have e6 : (5 ≤ nI r) ↔ ¬ r < 5 := by rw [show (5 : Int32) = nI 5 from rfl, nI_leI (by decide) (by omega)]; omega
        simp (config := {decide := true}) (disch := first | omega | assumption | (simp only [mS_cL, mS_cI, mS_cR, mR_cL, mR_cI]; first | assumption | exact hcr _ | fail)) only [tX12_number_34, tX12_number_35, tX12_number_38, tX12_number_41, tX12_number_44, tX12_number_45, tX12_number_48, tX12_number_49, tX12_number_50, tX12_number_51, tX12_number_54, tX12_number_56, tX12_number_57, tX12_number_58, tX12_number_59, tX12_number_62, tX12_number_63, tX12_number_66, tX12_number_67, tX12_number_68, tX12_number_70, tX12_number_71, tX12_number_72, tX12_number_73, tX12_number_74, tX12_number_77, tX12_number_78, tX12_number_79, tX12_number_82, jK_some, jK_none, jc1_int, jc1_ref, jc1_none, jc1_long, jc1_null, jc1_rf, va_rf_some, va_rf_none, mI_cI, mL_cL, mR_cR, cI_cI, cL_cL, jup_eq, jne_1, jne_2, Nat.add_left_cancel_iff, mL_cI, mR_cI, mS_cI, mN_cI, mI_cL, mR_cL, mS_cL, mN_cL, mI_cR, mL_cR, mS_cR, mN_cR, true_and, and_true, true_or, or_true, if_true, if_false, jBool_0, jBool_1, Nat.le_refl, Nat.reduceLeDiff, Nat.reduceEqDiff, Nat.reduceAdd, Nat.reduceSub, reduceIte, Int32.reduceLT, Int32.reduceLE, ne_eq, not_false_eq_true, not_true_eq_false, false_or, or_false, and_false, false_and, reduceCtorEq, jn_4, jn_6, jn_8, jn_9, jn_12, jn_60, jn_100, jn_200, jn_400, jn_600, jn_601, jn_3600, jI_4, jI_6, jI_8, jI_9, jI_12, jI_60, jI_100, jI_200, jI_400, jI_600, jI_601, jI_3600, va_cpy_00, jx_0, jx_6, jx_12, jx_400, jx_600, nI_1, hl, nM_S, nM_R, nM_next, n_isDigit h, e, e5, e6, nM_tape, e4, jx_nI, nI_1, nM_toNext]
        rw [e3, Int32.mul_comm v 10, Nat.add_assoc]
        by_cases h5 : r < 5 <;> simp [h5])
    (fun v => by
      rw [tX12_number_33]
      have e : rDig (T (rSk T i + 400)) = false := by rw [n_Te h (by omega)]; decide
      simp (config := {decide := true}) (disch := first | omega | assumption | (simp only [mS_cL, mS_cI, mS_cR, mR_cL, mR_cI]; first | assumption | exact hcr _ | fail)) only [tX12_number_34, tX12_number_35, tX12_number_38, tX12_number_41, tX12_number_44, tX12_number_45, tX12_number_48, tX12_number_49, tX12_number_50, tX12_number_51, tX12_number_54, tX12_number_56, tX12_number_57, tX12_number_58, tX12_number_59, tX12_number_62, tX12_number_63, tX12_number_66, tX12_number_67, tX12_number_68, tX12_number_70, tX12_number_71, tX12_number_72, tX12_number_73, tX12_number_74, tX12_number_77, tX12_number_78, tX12_number_79, tX12_number_82, jK_some, jK_none, jc1_int, jc1_ref, jc1_none, jc1_long, jc1_null, jc1_rf, va_rf_some, va_rf_none, mI_cI, mL_cL, mR_cR, cI_cI, cL_cL, jup_eq, jne_1, jne_2, Nat.add_left_cancel_iff, mL_cI, mR_cI, mS_cI, mN_cI, mI_cL, mR_cL, mS_cL, mN_cL, mI_cR, mL_cR, mS_cR, mN_cR, true_and, and_true, true_or, or_true, if_true, if_false, jBool_0, jBool_1, Nat.le_refl, Nat.reduceLeDiff, Nat.reduceEqDiff, Nat.reduceAdd, Nat.reduceSub, reduceIte, Int32.reduceLT, Int32.reduceLE, ne_eq, not_false_eq_true, not_true_eq_false, false_or, or_false, and_false, false_and, reduceCtorEq, jn_4, jn_6, jn_8, jn_9, jn_12, jn_60, jn_100, jn_200, jn_400, jn_600, jn_601, jn_3600, jI_4, jI_6, jI_8, jI_9, jI_12, jI_60, jI_100, jI_200, jI_400, jI_600, jI_601, jI_3600, va_cpy_00, jx_0, jx_6, jx_12, jx_400, jx_600, nI_1, hl, nM_S, nM_R, nM_next, n_isDigit h, e])
    400 0 0 (by omega)
  generalize rSk T i = i at *
  cases e : rDig (T i)
  · rw [if_pos (hd.mpr e)]
    simp (config := {decide := true}) (disch := first | omega | assumption | (simp only [mS_cL, mS_cI, mS_cR, mR_cL, mR_cI]; first | assumption | exact hcr _ | fail)) only [tX12_number_0, tX12_number_1, tX12_number_4, tX12_number_5, tX12_number_6, tX12_number_7, tX12_number_10, tX12_number_13, tX12_number_16, tX12_number_17, tX12_number_18, tX12_number_19, tX12_number_22, tX12_number_25, tX12_number_26, tX12_number_27, tX12_number_30, tX12_number_31, tX12_number_32, tX12_number_34, tX12_number_35, tX12_number_38, tX12_number_41, tX12_number_44, tX12_number_45, tX12_number_48, tX12_number_49, tX12_number_50, tX12_number_51, tX12_number_54, tX12_number_56, tX12_number_57, tX12_number_58, tX12_number_59, tX12_number_62, tX12_number_63, tX12_number_66, tX12_number_67, tX12_number_68, tX12_number_70, tX12_number_71, tX12_number_72, tX12_number_73, tX12_number_74, tX12_number_77, tX12_number_78, tX12_number_79, tX12_number_82, tX12_number_85, tX12_number_86, tX12_number_87, tX12_number_90, tX12_number_91, tX12_number_94, tX12_number_95, tX12_number_96, tX12_number_97, tX12_number_100, tX12_number_101, tX12_number_102, tX12_number_105, tX12_number_106, tX12_number_107, tX12_number_108, tX12_number_111, tX12_number_114, tX12_number_115, tX12_number_118, tX12_number_119, jK_some, jK_none, jc1_int, jc1_ref, jc1_none, jc1_long, jc1_null, jc1_rf, va_rf_some, va_rf_none, mI_cI, mL_cL, mR_cR, cI_cI, cL_cL, jup_eq, jne_1, jne_2, Nat.add_left_cancel_iff, mL_cI, mR_cI, mS_cI, mN_cI, mI_cL, mR_cL, mS_cL, mN_cL, mI_cR, mL_cR, mS_cR, mN_cR, true_and, and_true, true_or, or_true, if_true, if_false, jBool_0, jBool_1, Nat.le_refl, Nat.reduceLeDiff, Nat.reduceEqDiff, Nat.reduceAdd, Nat.reduceSub, reduceIte, Int32.reduceLT, Int32.reduceLE, ne_eq, not_false_eq_true, not_true_eq_false, false_or, or_false, and_false, false_and, reduceCtorEq, jn_4, jn_6, jn_8, jn_9, jn_12, jn_60, jn_100, jn_200, jn_400, jn_600, jn_601, jn_3600, jI_4, jI_6, jI_8, jI_9, jI_12, jI_60, jI_100, jI_200, jI_400, jI_600, jI_601, jI_3600, va_cpy_00, jx_0, jx_6, jx_12, jx_400, jx_600, nI_1, hl, nM_S, nM_R, nM_next, n_isDigit h, e, n_fails h]
  · have hd2 : ¬ (rNm T i).1 = 0 := fun e2 => by rw [hd.mp e2] at e; exact Bool.noConfusion e
    rw [if_neg hd2]
    simp (config := {decide := true}) (disch := first | omega | assumption | (simp only [mS_cL, mS_cI, mS_cR, mR_cL, mR_cI]; first | assumption | exact hcr _ | fail)) only [tX12_number_5, tX12_number_6, tX12_number_7, tX12_number_10, tX12_number_13, tX12_number_16, tX12_number_17, tX12_number_18, tX12_number_19, tX12_number_22, tX12_number_25, tX12_number_26, tX12_number_27, tX12_number_30, tX12_number_31, tX12_number_32, jK_some, jK_none, jc1_int, jc1_ref, jc1_none, jc1_long, jc1_null, jc1_rf, va_rf_some, va_rf_none, mI_cI, mL_cL, mR_cR, cI_cI, cL_cL, jup_eq, jne_1, jne_2, Nat.add_left_cancel_iff, mL_cI, mR_cI, mS_cI, mN_cI, mI_cL, mR_cL, mS_cL, mN_cL, mI_cR, mL_cR, mS_cR, mN_cR, true_and, and_true, true_or, or_true, if_true, if_false, jBool_0, jBool_1, Nat.le_refl, Nat.reduceLeDiff, Nat.reduceEqDiff, Nat.reduceAdd, Nat.reduceSub, reduceIte, Int32.reduceLT, Int32.reduceLE, ne_eq, not_false_eq_true, not_true_eq_false, false_or, or_false, and_false, false_and, reduceCtorEq, jn_4, jn_6, jn_8, jn_9, jn_12, jn_60, jn_100, jn_200, jn_400, jn_600, jn_601, jn_3600, jI_4, jI_6, jI_8, jI_9, jI_12, jI_60, jI_100, jI_200, jI_400, jI_600, jI_601, jI_3600, va_cpy_00, jx_0, jx_6, jx_12, jx_400, jx_600, nI_1, hl, nM_S, nM_R, nM_next, n_isDigit h, e]
    rw [lp]
    generalize rNm T i = q at *
    have e5 : nI (i + q.1) - nI i = nI q.1 := by rw [← nI_add, Int32.add_comm, Int32.add_sub_cancel]
    have e6 : (5 < nI q.1) ↔ 5 < q.1 := by rw [show (5 : Int32) = nI 5 from rfl, nI_ltI (by decide) (by omega)]
    simp (config := {decide := true}) (disch := first | omega | assumption | (simp only [mS_cL, mS_cI, mS_cR, mR_cL, mR_cI]; first | assumption | exact hcr _ | fail)) only [tX12_number_85, tX12_number_86, tX12_number_87, tX12_number_90, tX12_number_91, tX12_number_94, tX12_number_95, tX12_number_96, tX12_number_97, tX12_number_100, tX12_number_101, tX12_number_102, tX12_number_105, tX12_number_106, tX12_number_107, tX12_number_108, tX12_number_111, tX12_number_114, tX12_number_115, tX12_number_118, tX12_number_119, jK_some, jK_none, jc1_int, jc1_ref, jc1_none, jc1_long, jc1_null, jc1_rf, va_rf_some, va_rf_none, mI_cI, mL_cL, mR_cR, cI_cI, cL_cL, jup_eq, jne_1, jne_2, Nat.add_left_cancel_iff, mL_cI, mR_cI, mS_cI, mN_cI, mI_cL, mR_cL, mS_cL, mN_cL, mI_cR, mL_cR, mS_cR, mN_cR, true_and, and_true, true_or, or_true, if_true, if_false, jBool_0, jBool_1, Nat.le_refl, Nat.reduceLeDiff, Nat.reduceEqDiff, Nat.reduceAdd, Nat.reduceSub, reduceIte, Int32.reduceLT, Int32.reduceLE, ne_eq, not_false_eq_true, not_true_eq_false, false_or, or_false, and_false, false_and, reduceCtorEq, jn_4, jn_6, jn_8, jn_9, jn_12, jn_60, jn_100, jn_200, jn_400, jn_600, jn_601, jn_3600, jI_4, jI_6, jI_8, jI_9, jI_12, jI_60, jI_100, jI_200, jI_400, jI_600, jI_601, jI_3600, va_cpy_00, jx_0, jx_6, jx_12, jx_400, jx_600, nI_1, hl, nM_S, nM_R, nM_next, nM_toSaid, e5, e6, n_fails h]
    by_cases h5 : 5 < q.1
    · simp [h5]
    · by_cases h6 : q.2 ≤ most
      · simp [h5, h6, Int32.not_lt.mpr h6]
      · simp [h5, h6, Int32.not_le.mp h6]
theorem n_wordHere (h : NB B T x z) (hi : i ≤ z) (hT : T i ≠ 32) : CC (d + 3) 202 [.ref 195] (nM B x i t w p n k F O a) Q ↔ Q (some (.int (if rWn T i = 8 ∧ (¬ x < 4 ∨ rMat T (jW 2) i = false) then -1 else nI (rWn T i)))) (nM B x i t w p n k F O a) := by
  obtain ⟨hl, h2, h3, h4, h5, h6, h7⟩ := id h
  rw [nX12_wordHere]
  have e4 : (4 ≤ nI x) ↔ ¬ x < 4 := by rw [show (4 : Int32) = nI 4 from rfl, nI_leI (by decide) (by omega)]; omega
  simp (config := {decide := true, maxSteps := 3000000}) (disch := first | omega | assumption | (simp only [mS_cL, mS_cI, mS_cR, mR_cL, mR_cI]; first | assumption | exact hcr _ | fail)) only [tX12_wordHere_0, tX12_wordHere_1, tX12_wordHere_4, tX12_wordHere_7, tX12_wordHere_10, tX12_wordHere_11, tX12_wordHere_12, tX12_wordHere_13, tX12_wordHere_16, tX12_wordHere_19, tX12_wordHere_22, tX12_wordHere_23, tX12_wordHere_24, tX12_wordHere_25, tX12_wordHere_28, tX12_wordHere_31, tX12_wordHere_34, tX12_wordHere_35, tX12_wordHere_36, tX12_wordHere_37, tX12_wordHere_40, tX12_wordHere_43, tX12_wordHere_46, tX12_wordHere_47, tX12_wordHere_48, tX12_wordHere_49, tX12_wordHere_52, tX12_wordHere_55, tX12_wordHere_58, tX12_wordHere_59, tX12_wordHere_60, tX12_wordHere_61, tX12_wordHere_64, tX12_wordHere_67, tX12_wordHere_70, tX12_wordHere_71, tX12_wordHere_72, tX12_wordHere_73, tX12_wordHere_76, tX12_wordHere_79, tX12_wordHere_82, tX12_wordHere_84, tX12_wordHere_85, tX12_wordHere_86, tX12_wordHere_89, tX12_wordHere_92, tX12_wordHere_95, tX12_wordHere_97, tX12_wordHere_98, tX12_wordHere_99, tX12_wordHere_102, tX12_wordHere_105, tX12_wordHere_108, tX12_wordHere_109, tX12_wordHere_112, tX12_wordHere_113, tX12_wordHere_116, tX12_wordHere_118, tX12_wordHere_121, tX12_wordHere_122, jK_some, jK_none, jc1_int, jc1_ref, jc1_none, jc1_long, jc1_null, jc1_rf, va_rf_some, va_rf_none, mI_cI, mL_cL, mR_cR, cI_cI, cL_cL, jup_eq, jne_1, jne_2, Nat.add_left_cancel_iff, mL_cI, mR_cI, mS_cI, mN_cI, mI_cL, mR_cL, mS_cL, mN_cL, mI_cR, mL_cR, mS_cR, mN_cR, true_and, and_true, true_or, or_true, if_true, if_false, jBool_0, jBool_1, Nat.le_refl, Nat.reduceLeDiff, Nat.reduceEqDiff, Nat.reduceAdd, Nat.reduceSub, reduceIte, Int32.reduceLT, Int32.reduceLE, ne_eq, not_false_eq_true, not_true_eq_false, false_or, or_false, and_false, false_and, reduceCtorEq, jn_4, jn_6, jn_8, jn_9, jn_12, jn_60, jn_100, jn_200, jn_400, jn_600, jn_601, jn_3600, jI_4, jI_6, jI_8, jI_9, jI_12, jI_60, jI_100, jI_200, jI_400, jI_600, jI_601, jI_3600, va_cpy_00, jx_0, jx_6, jx_12, jx_400, jx_600, nI_1, hl, nM_S, nM_R, n_isWord h hi, skip_id hT, rw_minute, rw_seen, rw_was, rw_want, rw_heat, rw_pull, rw_left, rw_long, rw_wide, nM_text, h3, e4]
  unfold rWn
  have n0 : nI 0 = 0 := rfl
  have n1 : nI 1 = 1 := rfl
  have n2 : nI 2 = 2 := rfl
  have n3 : nI 3 = 3 := rfl
  have n4 : nI 4 = 4 := rfl
  have n5 : nI 5 = 5 := rfl
  have n6 : nI 6 = 6 := rfl
  have n7 : nI 7 = 7 := rfl
  have n8 : nI 8 = 8 := rfl
  cases h6 : rMat T (jW 6) i
  case true => simp [n0]
  cases h7 : rMat T (jW 7) i
  case true => simp [n1]
  cases h8 : rMat T (jW 8) i
  case true => simp [n2]
  cases h9 : rMat T (jW 9) i
  case true => simp [n3]
  cases h1 : rMat T (jW 1) i
  case true => simp [n4]
  cases h0 : rMat T (jW 0) i
  case true => simp [n5]
  cases h10 : rMat T (jW 10) i
  case true => simp [n6]
  cases h11 : rMat T (jW 11) i
  case true => simp [n7]
  by_cases hu : x < 4
  · cases h2 : rMat T (jW 2) i <;> simp [hu, n8]
  · cases h2 : rMat T (jW 2) i <;> simp [hu]
end NMH
