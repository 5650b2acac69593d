/-! ===== a VALUE that is no bracket, in both ===== -/
section VAL
variable {d : Nat} {B Bx : jmM} {T : Nat → Int32} {x z i p n k j b tt dp : Nat} {t w a y v u : Int32} {FM O : Nat → Int32} {inner : RS → RS} {s : RS} {K : Option Value → jmM → Prop}
theorem kTr_word {q : Nat} (h : q < 9) : kTr (-1 - nI q) = 1 + 16 * nI q := by
  rw [(k_wd q h).2.2.2, show (16 : Int32) = nI 16 from rfl, nx_mul, show (1 : Int32) = nI 1 from rfl, nI_add]
  congr 1; omega
theorem n_val (h : NB B T x z) (hX : XB Bx T z) (hu : u = 0 ↔ ¬ x < 4) (h0 : G0 z s tt) (hT : T (rSk T s.1) ≠ 40)
    (h1 : (rVal T u dp inner s).2.2.1 = 0 → ∀ a', K (some (.int 1)) (nM B x (rVal T u dp inner s).1 (rVal T u dp inner s).2.1 0 p n (s.2.2.2.1 + 1) (jup FM s.2.2.2.1 (kTr ((rVal T u dp inner s).2.2.2.2 s.2.2.2.1))) O a'))
    (h2 : (rVal T u dp inner s).2.2.1 ≠ 0 → ∀ i' t' p' n' k' F' O' a', K (some (.int 0)) (nM B x i' t' (rVal T u dp inner s).2.2.1 p' n' k' F' O' a')) :
    CC (d + 4) 208 [.ref 195] (nM B x s.1 (nI tt) 0 p n s.2.2.2.1 FM O a) K := by
  have hml := h.1
  obtain ⟨g1, g2, g3, g4, g5⟩ := id h0
  have hz := h.2.2.2.1
  have k1 : rSk T s.1 ≤ z := n_Sk h g4
  have k2 := rSk_ge (T := T) (i := s.1)
  have hsk := skip_ne h g4
  have e60 : (60 < nI (tt + 1)) ↔ tt = 60 := by rw [show (60 : Int32) = nI 60 from rfl, nI_ltI (by decide) (by omega)]; omega
  rw [nX12_value, tX12_value_0]
  unfold rVal at h1 h2
  rw [if_neg hT] at h1 h2
  by_cases e2 : rDig (T (rSk T s.1)) = true
  · rw [if_pos e2] at h1 h2
    have k3 : rSk T s.1 < z := n_lt h (fun e => by rw [e] at e2; exact Bool.noConfusion e2)
    have hk : s.2.2.2.1 < 400 := by omega
    have q0 : ¬ (rNm T (rSk T s.1)).1 = 0 := by
      unfold rNm jbrk
      rw [if_neg (by simp [e2])]
      have := (jbrk_le (c := fun r (_ : Int32) => !rDig (T (rSk T s.1 + r))) (f := fun r n => if r < 5 then n * 10 + T (rSk T s.1 + r) - 48 else n) 399 (0 + 1) (if 0 < 5 then 0 * 10 + T (rSk T s.1 + 0) - 48 else 0)).1
      exact fun e => absurd (Nat.le_trans this (Nat.le_of_eq e)) (by decide)
    by_cases e5 : 5 < (rNm T (rSk T s.1)).1 ∨ 99999 < (rNm T (rSk T s.1)).2
    · have r0 : rNum T 99999 (rSk T s.1, s.2) = rFail (rSk T s.1 + (rNm T (rSk T s.1)).1, s.2) (rSk T s.1) 1 := by
        unfold rNum; rw [if_neg q0, if_pos e5]
      have r1 : (rFail (rSk T s.1 + (rNm T (rSk T s.1)).1, s.2) (rSk T s.1) 1).2.2.1 = 1 + 8 * nI (rSk T s.1) + 1 := by
        unfold rFail; rw [if_pos g1]
      have r2 : (rFail (rSk T s.1 + (rNm T (rSk T s.1)).1, s.2) (rSk T s.1) 1).2.2.1 ≠ 0 := rFail_f (k := 1) (by omega) (by decide)
      rw [r0, rTold_kp (by rw [rPut_f]; exact r2), rPut_f] at h2
      rw [r1] at h2 r2
      have h2 := h2 r2
      simp (config := {decide := true}) (disch := first | omega | assumption | (simp only [mS_cL, mS_cI, mS_cR, mR_cL, mR_cI]; first | assumption | exact hcr _ | fail)) only [tX12_value_1, tX12_value_4, tX12_value_6, tX12_value_9, tX12_value_10, tX12_value_12, tX12_value_15, tX12_value_18, tX12_value_19, tX12_value_20, tX12_value_21, tX12_value_22, tX12_value_25, tX12_value_26, tX12_value_27, tX12_value_30, tX12_value_33, tX12_value_34, tX12_value_37, tX12_value_38, tX12_value_39, tX12_value_40, tX12_value_43, tX12_value_46, tX12_value_49, tX12_value_50, tX12_value_52, tX12_value_55, tX12_value_58, tX12_value_59, tX12_value_60, tX12_value_63, tX12_value_66, tX12_value_67, tX12_value_68, tX12_value_69, tX12_value_70, tX12_value_71, tX12_value_74, tX12_value_77, tX12_value_78, tX12_value_79, tX12_value_80, tX12_value_83, tX12_value_84, tX12_value_85, tX12_value_88, tX12_value_89, tX12_value_90, tX12_value_91, tX12_value_94, tX12_value_95, tX12_value_96, tX12_value_97, tX12_value_100, tX12_value_103, tX12_value_104, tX12_value_105, tX12_value_106, tX12_value_109, tX12_value_110, tX12_value_111, tX12_value_112, tX12_value_115, tX12_value_116, jK_some, jK_none, jc1_int, jc1_ref, jc1_none, jc1_long, jc1_null, jc1_rf, va_rf_some, va_rf_none, mI_cI, mL_cL, mR_cR, cI_cI, cL_cL, jup_eq, jne_1, jne_2, Nat.add_left_cancel_iff, mL_cI, mR_cI, mS_cI, mN_cI, mI_cL, mR_cL, mS_cL, mN_cL, mI_cR, mL_cR, mS_cR, mN_cR, true_and, and_true, true_or, or_true, if_true, if_false, jBool_0, jBool_1, Nat.le_refl, Nat.reduceLeDiff, Nat.reduceEqDiff, Nat.reduceAdd, Nat.reduceSub, reduceIte, Int32.reduceLT, Int32.reduceLE, ne_eq, not_false_eq_true, not_true_eq_false, false_or, or_false, and_false, false_and, reduceCtorEq, jn_4, jn_6, jn_8, jn_9, jn_12, jn_60, jn_100, jn_200, jn_400, jn_600, jn_601, jn_3600, jI_4, jI_6, jI_8, jI_9, jI_12, jI_60, jI_100, jI_200, jI_400, jI_600, jI_601, jI_3600, va_cpy_00, jx_0, jx_6, jx_12, jx_400, jx_600, nI_1, hml, nM_S, nM_R, nM_next, n_see h g4, hT, n_isDigit h, e2, n_number h k1, skip_id hsk, q0, e5]
      exact h2 _ _ _ _ _ _ _ _
    · have r0 : rNum T 99999 (rSk T s.1, s.2) = (rSk T s.1 + (rNm T (rSk T s.1)).1, s.2) := by
        unfold rNum; rw [if_neg q0, if_neg e5]
      have hn : rSk T s.1 + (rNm T (rSk T s.1)).1 ≤ z := rNm_z (i := rSk T s.1) hX 400 0 0 k1
      obtain ⟨M, hM, hv⟩ := rNm_val (T := T) (i := rSk T s.1) 400 0 0 0 rfl (by decide)
      have hv : (rNm T (rSk T s.1)).2 = nI M := hv
      have e6 : kTr (nI M) = 0 + 16 * nI M := by
        rw [kTr_num hM, show (16 : Int32) = nI 16 from rfl, nx_mul, Int32.zero_add]
      rw [r0, rPut_lt (by exact hk)] at h1 h2
      unfold rTold at h1 h2
      rw [show ((rSk T s.1 + (rNm T (rSk T s.1)).1, s.2) : RS).2.1 = nI tt from g2, nI_1] at h1 h2
      by_cases e7 : tt = 60
      · rw [if_pos (e60.mpr e7)] at h2
        unfold rFail at h2
        rw [if_pos (by exact g1)] at h2
        have h2 := h2 (by show 1 + 8 * nI (rSk T s.1) + nI 3 ≠ 0; rw [k8 (by omega) 3 (by decide)]; exact nI_ne0 (by omega) (by omega))
        dsimp only at h2
        simp (config := {decide := true}) (disch := first | omega | assumption | (simp only [mS_cL, mS_cI, mS_cR, mR_cL, mR_cI]; first | assumption | exact hcr _ | fail)) only [tX12_value_1, tX12_value_4, tX12_value_6, tX12_value_9, tX12_value_10, tX12_value_12, tX12_value_15, tX12_value_18, tX12_value_19, tX12_value_20, tX12_value_21, tX12_value_22, tX12_value_25, tX12_value_26, tX12_value_27, tX12_value_30, tX12_value_33, tX12_value_34, tX12_value_37, tX12_value_38, tX12_value_39, tX12_value_40, tX12_value_43, tX12_value_46, tX12_value_49, tX12_value_50, tX12_value_52, tX12_value_55, tX12_value_58, tX12_value_59, tX12_value_60, tX12_value_63, tX12_value_66, tX12_value_67, tX12_value_68, tX12_value_69, tX12_value_70, tX12_value_71, tX12_value_74, tX12_value_77, tX12_value_78, tX12_value_79, tX12_value_80, tX12_value_83, tX12_value_84, tX12_value_85, tX12_value_88, tX12_value_89, tX12_value_90, tX12_value_91, tX12_value_94, tX12_value_95, tX12_value_96, tX12_value_97, tX12_value_100, tX12_value_103, tX12_value_104, tX12_value_105, tX12_value_106, tX12_value_109, tX12_value_110, tX12_value_111, tX12_value_112, tX12_value_115, tX12_value_116, jK_some, jK_none, jc1_int, jc1_ref, jc1_none, jc1_long, jc1_null, jc1_rf, va_rf_some, va_rf_none, mI_cI, mL_cL, mR_cR, cI_cI, cL_cL, jup_eq, jne_1, jne_2, Nat.add_left_cancel_iff, mL_cI, mR_cI, mS_cI, mN_cI, mI_cL, mR_cL, mS_cL, mN_cL, mI_cR, mL_cR, mS_cR, mN_cR, true_and, and_true, true_or, or_true, if_true, if_false, jBool_0, jBool_1, Nat.le_refl, Nat.reduceLeDiff, Nat.reduceEqDiff, Nat.reduceAdd, Nat.reduceSub, reduceIte, Int32.reduceLT, Int32.reduceLE, ne_eq, not_false_eq_true, not_true_eq_false, false_or, or_false, and_false, false_and, reduceCtorEq, jn_4, jn_6, jn_8, jn_9, jn_12, jn_60, jn_100, jn_200, jn_400, jn_600, jn_601, jn_3600, jI_4, jI_6, jI_8, jI_9, jI_12, jI_60, jI_100, jI_200, jI_400, jI_600, jI_601, jI_3600, va_cpy_00, jx_0, jx_6, jx_12, jx_400, jx_600, nI_1, hml, nM_S, nM_R, nM_next, n_see h g4, hT, n_isDigit h, e2, n_number h k1, skip_id hsk, q0, e5, n_makes h g3]
        rw [if_pos e7]
        exact h2 _ _ _ _ _ _ _ _
      · rw [if_neg (fun e => e7 (e60.mp e))] at h1
        have h1 := h1 g1
        dsimp only at h1
        simp (config := {decide := true}) (disch := first | omega | assumption | (simp only [mS_cL, mS_cI, mS_cR, mR_cL, mR_cI]; first | assumption | exact hcr _ | fail)) only [tX12_value_1, tX12_value_4, tX12_value_6, tX12_value_9, tX12_value_10, tX12_value_12, tX12_value_15, tX12_value_18, tX12_value_19, tX12_value_20, tX12_value_21, tX12_value_22, tX12_value_25, tX12_value_26, tX12_value_27, tX12_value_30, tX12_value_33, tX12_value_34, tX12_value_37, tX12_value_38, tX12_value_39, tX12_value_40, tX12_value_43, tX12_value_46, tX12_value_49, tX12_value_50, tX12_value_52, tX12_value_55, tX12_value_58, tX12_value_59, tX12_value_60, tX12_value_63, tX12_value_66, tX12_value_67, tX12_value_68, tX12_value_69, tX12_value_70, tX12_value_71, tX12_value_74, tX12_value_77, tX12_value_78, tX12_value_79, tX12_value_80, tX12_value_83, tX12_value_84, tX12_value_85, tX12_value_88, tX12_value_89, tX12_value_90, tX12_value_91, tX12_value_94, tX12_value_95, tX12_value_96, tX12_value_97, tX12_value_100, tX12_value_103, tX12_value_104, tX12_value_105, tX12_value_106, tX12_value_109, tX12_value_110, tX12_value_111, tX12_value_112, tX12_value_115, tX12_value_116, jK_some, jK_none, jc1_int, jc1_ref, jc1_none, jc1_long, jc1_null, jc1_rf, va_rf_some, va_rf_none, mI_cI, mL_cL, mR_cR, cI_cI, cL_cL, jup_eq, jne_1, jne_2, Nat.add_left_cancel_iff, mL_cI, mR_cI, mS_cI, mN_cI, mI_cL, mR_cL, mS_cL, mN_cL, mI_cR, mL_cR, mS_cR, mN_cR, true_and, and_true, true_or, or_true, if_true, if_false, jBool_0, jBool_1, Nat.le_refl, Nat.reduceLeDiff, Nat.reduceEqDiff, Nat.reduceAdd, Nat.reduceSub, reduceIte, Int32.reduceLT, Int32.reduceLE, ne_eq, not_false_eq_true, not_true_eq_false, false_or, or_false, and_false, false_and, reduceCtorEq, jn_4, jn_6, jn_8, jn_9, jn_12, jn_60, jn_100, jn_200, jn_400, jn_600, jn_601, jn_3600, jI_4, jI_6, jI_8, jI_9, jI_12, jI_60, jI_100, jI_200, jI_400, jI_600, jI_601, jI_3600, va_cpy_00, jx_0, jx_6, jx_12, jx_400, jx_600, nI_1, hml, nM_S, nM_R, nM_next, n_see h g4, hT, n_isDigit h, e2, n_number h k1, skip_id hsk, q0, e5, n_makes h g3, e7, nM_said, n_puts h hk]
        have h1 := h1 (rNm T (rSk T s.1)).2
        rw [show jup s.2.2.2.2 s.2.2.2.1 (rNm T (rSk T s.1)).2 s.2.2.2.1 = (rNm T (rSk T s.1)).2 from jup_same, hv, e6] at h1
        rw [hv]
        exact h1
  · rw [if_neg e2] at h1 h2
    by_cases e3 : rWn T (rSk T s.1) = 8 ∧ (u = 0 ∨ rMat T (jW 2) (rSk T s.1) = false)
    · have r0 : rWs T u (rSk T s.1, s.2) = rFail (rSk T s.1, s.2) (rSk T s.1) 0 := by
        unfold rWs; rw [if_pos e3]
      have r1 : (rFail (rSk T s.1, s.2) (rSk T s.1) 0).2.2.1 = 1 + 8 * nI (rSk T s.1) + 0 := by
        unfold rFail; rw [if_pos g1]
      have r2 : (rFail (rSk T s.1, s.2) (rSk T s.1) 0).2.2.1 ≠ 0 := rFail_f (k := 0) (by omega) (by decide)
      have r3 : (rEnd T (rSk T s.1), (rPut (rFail (rSk T s.1, s.2) (rSk T s.1) 0) (-1 - nI (rWn T (rSk T s.1)))).2).2.2.1 = (rFail (rSk T s.1, s.2) (rSk T s.1) 0).2.2.1 := rPut_f
      rw [r0, rTold_kp (by rw [r3]; exact r2), r3] at h2
      rw [r1] at h2 r2
      have h2 := h2 r2
      have e4 : rWn T (rSk T s.1) = 8 ∧ (¬ x < 4 ∨ rMat T (jW 2) (rSk T s.1) = false) := ⟨e3.1, e3.2.imp_left hu.mp⟩
      simp (config := {decide := true}) (disch := first | omega | assumption | (simp only [mS_cL, mS_cI, mS_cR, mR_cL, mR_cI]; first | assumption | exact hcr _ | fail)) only [tX12_value_1, tX12_value_4, tX12_value_6, tX12_value_9, tX12_value_10, tX12_value_12, tX12_value_15, tX12_value_18, tX12_value_19, tX12_value_20, tX12_value_21, tX12_value_22, tX12_value_25, tX12_value_26, tX12_value_27, tX12_value_30, tX12_value_33, tX12_value_34, tX12_value_37, tX12_value_38, tX12_value_39, tX12_value_40, tX12_value_43, tX12_value_46, tX12_value_49, tX12_value_50, tX12_value_52, tX12_value_55, tX12_value_58, tX12_value_59, tX12_value_60, tX12_value_63, tX12_value_66, tX12_value_67, tX12_value_68, tX12_value_69, tX12_value_70, tX12_value_71, tX12_value_74, tX12_value_77, tX12_value_78, tX12_value_79, tX12_value_80, tX12_value_83, tX12_value_84, tX12_value_85, tX12_value_88, tX12_value_89, tX12_value_90, tX12_value_91, tX12_value_94, tX12_value_95, tX12_value_96, tX12_value_97, tX12_value_100, tX12_value_103, tX12_value_104, tX12_value_105, tX12_value_106, tX12_value_109, tX12_value_110, tX12_value_111, tX12_value_112, tX12_value_115, tX12_value_116, jK_some, jK_none, jc1_int, jc1_ref, jc1_none, jc1_long, jc1_null, jc1_rf, va_rf_some, va_rf_none, mI_cI, mL_cL, mR_cR, cI_cI, cL_cL, jup_eq, jne_1, jne_2, Nat.add_left_cancel_iff, mL_cI, mR_cI, mS_cI, mN_cI, mI_cL, mR_cL, mS_cL, mN_cL, mI_cR, mL_cR, mS_cR, mN_cR, true_and, and_true, true_or, or_true, if_true, if_false, jBool_0, jBool_1, Nat.le_refl, Nat.reduceLeDiff, Nat.reduceEqDiff, Nat.reduceAdd, Nat.reduceSub, reduceIte, Int32.reduceLT, Int32.reduceLE, ne_eq, not_false_eq_true, not_true_eq_false, false_or, or_false, and_false, false_and, reduceCtorEq, jn_4, jn_6, jn_8, jn_9, jn_12, jn_60, jn_100, jn_200, jn_400, jn_600, jn_601, jn_3600, jI_4, jI_6, jI_8, jI_9, jI_12, jI_60, jI_100, jI_200, jI_400, jI_600, jI_601, jI_3600, va_cpy_00, jx_0, jx_6, jx_12, jx_400, jx_600, nI_1, hml, nM_S, nM_R, nM_next, n_see h g4, hT, n_isDigit h, e2, n_wordHere h k1 hsk, if_pos e4, n_fails h]
      exact h2 _ _ _ _ _ _ _ _
    · have r0 : rWs T u (rSk T s.1, s.2) = (rSk T s.1, s.2) := by
        unfold rWs; rw [if_neg e3]
      have e4 : ¬ (rWn T (rSk T s.1) = 8 ∧ (¬ x < 4 ∨ rMat T (jW 2) (rSk T s.1) = false)) := fun e => e3 ⟨e.1, e.2.imp_left hu.mpr⟩
      have hl : rLet (T (rSk T s.1)) = true := by
        refine rWn_let ?_
        by_cases e8 : rWn T (rSk T s.1) = 8
        · refine Or.inr ?_
          cases e9 : rMat T (jW 2) (rSk T s.1)
          · exact absurd ⟨e8, Or.inr e9⟩ e3
          · rfl
        · exact Or.inl e8
      have k3 : rSk T s.1 < z := n_lt h (fun e => by rw [e] at hl; exact Bool.noConfusion hl)
      have hk : s.2.2.2.1 < 400 := by omega
      have hw9 : rWn T (rSk T s.1) < 9 := by have := rWn_le (T := T) (i := rSk T s.1); omega
      have e6 := kTr_word hw9
      have e10 : (0 ≤ nI (rWn T (rSk T s.1))) = True := nx_pos (by omega)
      rw [r0, rPut_lt (by exact hk)] at h1 h2
      unfold rTold at h1 h2
      rw [show ((rEnd T (rSk T s.1), s.2) : RS).2.1 = nI tt from g2, nI_1] at h1 h2
      by_cases e7 : tt = 60
      · rw [if_pos (e60.mpr e7)] at h2
        unfold rFail at h2
        rw [if_pos (by exact g1)] at h2
        have h2 := h2 (by show 1 + 8 * nI (rSk T s.1) + nI 3 ≠ 0; rw [k8 (by omega) 3 (by decide)]; exact nI_ne0 (by omega) (by omega))
        dsimp only at h2
        simp (config := {decide := true}) (disch := first | omega | assumption | (simp only [mS_cL, mS_cI, mS_cR, mR_cL, mR_cI]; first | assumption | exact hcr _ | fail)) only [tX12_value_1, tX12_value_4, tX12_value_6, tX12_value_9, tX12_value_10, tX12_value_12, tX12_value_15, tX12_value_18, tX12_value_19, tX12_value_20, tX12_value_21, tX12_value_22, tX12_value_25, tX12_value_26, tX12_value_27, tX12_value_30, tX12_value_33, tX12_value_34, tX12_value_37, tX12_value_38, tX12_value_39, tX12_value_40, tX12_value_43, tX12_value_46, tX12_value_49, tX12_value_50, tX12_value_52, tX12_value_55, tX12_value_58, tX12_value_59, tX12_value_60, tX12_value_63, tX12_value_66, tX12_value_67, tX12_value_68, tX12_value_69, tX12_value_70, tX12_value_71, tX12_value_74, tX12_value_77, tX12_value_78, tX12_value_79, tX12_value_80, tX12_value_83, tX12_value_84, tX12_value_85, tX12_value_88, tX12_value_89, tX12_value_90, tX12_value_91, tX12_value_94, tX12_value_95, tX12_value_96, tX12_value_97, tX12_value_100, tX12_value_103, tX12_value_104, tX12_value_105, tX12_value_106, tX12_value_109, tX12_value_110, tX12_value_111, tX12_value_112, tX12_value_115, tX12_value_116, jK_some, jK_none, jc1_int, jc1_ref, jc1_none, jc1_long, jc1_null, jc1_rf, va_rf_some, va_rf_none, mI_cI, mL_cL, mR_cR, cI_cI, cL_cL, jup_eq, jne_1, jne_2, Nat.add_left_cancel_iff, mL_cI, mR_cI, mS_cI, mN_cI, mI_cL, mR_cL, mS_cL, mN_cL, mI_cR, mL_cR, mS_cR, mN_cR, true_and, and_true, true_or, or_true, if_true, if_false, jBool_0, jBool_1, Nat.le_refl, Nat.reduceLeDiff, Nat.reduceEqDiff, Nat.reduceAdd, Nat.reduceSub, reduceIte, Int32.reduceLT, Int32.reduceLE, ne_eq, not_false_eq_true, not_true_eq_false, false_or, or_false, and_false, false_and, reduceCtorEq, jn_4, jn_6, jn_8, jn_9, jn_12, jn_60, jn_100, jn_200, jn_400, jn_600, jn_601, jn_3600, jI_4, jI_6, jI_8, jI_9, jI_12, jI_60, jI_100, jI_200, jI_400, jI_600, jI_601, jI_3600, va_cpy_00, jx_0, jx_6, jx_12, jx_400, jx_600, nI_1, hml, nM_S, nM_R, nM_next, n_see h g4, hT, n_isDigit h, e2, n_wordHere h k1 hsk, if_neg e4, e10, n_makes h g3]
        rw [if_pos e7]
        exact h2 _ _ _ _ _ _ _ _
      · rw [if_neg (fun e => e7 (e60.mp e))] at h1
        have h1 := h1 g1
        dsimp only at h1
        simp (config := {decide := true}) (disch := first | omega | assumption | (simp only [mS_cL, mS_cI, mS_cR, mR_cL, mR_cI]; first | assumption | exact hcr _ | fail)) only [tX12_value_1, tX12_value_4, tX12_value_6, tX12_value_9, tX12_value_10, tX12_value_12, tX12_value_15, tX12_value_18, tX12_value_19, tX12_value_20, tX12_value_21, tX12_value_22, tX12_value_25, tX12_value_26, tX12_value_27, tX12_value_30, tX12_value_33, tX12_value_34, tX12_value_37, tX12_value_38, tX12_value_39, tX12_value_40, tX12_value_43, tX12_value_46, tX12_value_49, tX12_value_50, tX12_value_52, tX12_value_55, tX12_value_58, tX12_value_59, tX12_value_60, tX12_value_63, tX12_value_66, tX12_value_67, tX12_value_68, tX12_value_69, tX12_value_70, tX12_value_71, tX12_value_74, tX12_value_77, tX12_value_78, tX12_value_79, tX12_value_80, tX12_value_83, tX12_value_84, tX12_value_85, tX12_value_88, tX12_value_89, tX12_value_90, tX12_value_91, tX12_value_94, tX12_value_95, tX12_value_96, tX12_value_97, tX12_value_100, tX12_value_103, tX12_value_104, tX12_value_105, tX12_value_106, tX12_value_109, tX12_value_110, tX12_value_111, tX12_value_112, tX12_value_115, tX12_value_116, jK_some, jK_none, jc1_int, jc1_ref, jc1_none, jc1_long, jc1_null, jc1_rf, va_rf_some, va_rf_none, mI_cI, mL_cL, mR_cR, cI_cI, cL_cL, jup_eq, jne_1, jne_2, Nat.add_left_cancel_iff, mL_cI, mR_cI, mS_cI, mN_cI, mI_cL, mR_cL, mS_cL, mN_cL, mI_cR, mL_cR, mS_cR, mN_cR, true_and, and_true, true_or, or_true, if_true, if_false, jBool_0, jBool_1, Nat.le_refl, Nat.reduceLeDiff, Nat.reduceEqDiff, Nat.reduceAdd, Nat.reduceSub, reduceIte, Int32.reduceLT, Int32.reduceLE, ne_eq, not_false_eq_true, not_true_eq_false, false_or, or_false, and_false, false_and, reduceCtorEq, jn_4, jn_6, jn_8, jn_9, jn_12, jn_60, jn_100, jn_200, jn_400, jn_600, jn_601, jn_3600, jI_4, jI_6, jI_8, jI_9, jI_12, jI_60, jI_100, jI_200, jI_400, jI_600, jI_601, jI_3600, va_cpy_00, jx_0, jx_6, jx_12, jx_400, jx_600, nI_1, hml, nM_S, nM_R, nM_next, n_see h g4, hT, n_isDigit h, e2, n_wordHere h k1 hsk, if_neg e4, e10, n_makes h g3, e7, n_passWord h k1, n_puts h hk]
        have h1 := h1 a
        rw [show jup s.2.2.2.2 s.2.2.2.1 (-1 - nI (rWn T (rSk T s.1))) s.2.2.2.1 = (-1 - nI (rWn T (rSk T s.1))) from jup_same, e6] at h1
        exact h1
end VAL
