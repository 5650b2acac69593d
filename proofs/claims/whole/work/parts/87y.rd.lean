/-! ===== the reference's clauses: a number told ===== -/
section CLY
variable {d : Nat} {B : jmM} {T : Nat → Int32} {x z i p n k rc at' : Nat} {t w a most : Int32} {F O f : Nat → Int32} {Q : Option Value → jmM → Prop}
theorem nM_cell {c : Nat} (h1 : c ≠ 195) (h2 : c ≠ 197) (h3 : c ≠ 198) (h4 : c ≠ 204) : mI (nM B x i t w p n k F O a) c = mI B c := by
  unfold nM
  rw [mI_ne h4, mI_ne h3, mI_ne h2, mI_ne h1]
theorem nM_toCell {c : Nat} (h1 : c ≠ 195) (h2 : c ≠ 197) (h3 : c ≠ 198) (h4 : c ≠ 204) : cI (nM B x i t w p n k F O a) c f = nM (cI B c f) x i t w p n k F O a := by
  refine cI_ext (fun b j => ?_) rfl
  unfold nM jup; simp only [mI_cI]; grind
theorem n_told (h : NB B T x z) (hi : i ≤ z) (hr : rc = 201 ∨ rc = 202 ∨ rc = 203) (he : rEnd T i ≤ z) : CC (d + 3) 218 [.ref 195, .ref rc, .int most, .int (nI at')] (nM B x i t 0 p n k F O a) Q ↔ if 0 ≤ mI B rc x then Q (some (.int 0)) (nM B x i t (1 + 8 * nI at' + 4) p n k F O a) else if (rNm T (rSk T (rEnd T i))).1 = 0 then Q (some (.int 0)) (nM B x (rSk T (rEnd T i)) t (1 + 8 * nI (rSk T (rEnd T i)) + 0) p n k F O a) else if 5 < (rNm T (rSk T (rEnd T i))).1 ∨ most < (rNm T (rSk T (rEnd T i))).2 then Q (some (.int 0)) (nM B x (rSk T (rEnd T i) + (rNm T (rSk T (rEnd T i))).1) t (1 + 8 * nI (rSk T (rEnd T i)) + 1) p n k F O (rNm T (rSk T (rEnd T i))).2) else Q (some (.int 1)) (nM (cI B rc (jup (mI B rc) x (rNm T (rSk T (rEnd T i))).2)) x (rSk T (rEnd T i) + (rNm T (rSk T (rEnd T i))).1) t 0 p n k F O (rNm T (rSk T (rEnd T i))).2) := by
  obtain ⟨hml, h2, h3, h4, h5, h6, h7⟩ := id h
  have e2 : jIx (nI x) 12 := (jIx_nI (by omega)).mpr h2
  rw [nX12_told]
  rcases hr with rfl | rfl | rfl
  all_goals
    simp (config := {decide := true}) (disch := first | omega | assumption | (simp only [mS_cL, mS_cI, mS_cR, mR_cL, mR_cI]; first | assumption | exact hcr _ | fail)) only [tX12_told_0, tX12_told_1, tX12_told_2, tX12_told_5, tX12_told_6, tX12_told_9, tX12_told_10, tX12_told_11, tX12_told_12, tX12_told_15, tX12_told_16, tX12_told_17, tX12_told_20, tX12_told_21, tX12_told_22, tX12_told_25, tX12_told_28, tX12_told_29, tX12_told_30, tX12_told_31, tX12_told_32, tX12_told_35, tX12_told_36, tX12_told_39, tX12_told_40, tX12_told_41, jK_some, jK_none, jc1_int, jc1_ref, jc1_none, jc1_long, jc1_null, jc1_rf, va_rf_some, va_rf_none, mI_cI, mL_cL, mR_cR, cI_cI, cL_cL, jup_eq, jne_1, jne_2, Nat.add_left_cancel_iff, mL_cI, mR_cI, mS_cI, mN_cI, mI_cL, mR_cL, mS_cL, mN_cL, mI_cR, mL_cR, mS_cR, mN_cR, true_and, and_true, true_or, or_true, if_true, if_false, jBool_0, jBool_1, Nat.le_refl, Nat.reduceLeDiff, Nat.reduceEqDiff, Nat.reduceAdd, Nat.reduceSub, reduceIte, Int32.reduceLT, Int32.reduceLE, ne_eq, not_false_eq_true, not_true_eq_false, false_or, or_false, and_false, false_and, reduceCtorEq, jn_4, jn_6, jn_8, jn_9, jn_12, jn_60, jn_100, jn_200, jn_400, jn_600, jn_601, jn_3600, jI_4, jI_6, jI_8, jI_9, jI_12, jI_60, jI_100, jI_200, jI_400, jI_600, jI_601, jI_3600, va_cpy_00, jx_0, jx_6, jx_12, jx_400, jx_600, nI_1, hml, nM_S, nM_R, nM_text, h3, e2, jx_nI, nM_cell, n_fails h, n_passWord h hi, n_number h he, nM_said, nM_toCell]
    split
    · next hh => rw [if_neg (Int32.not_le.mpr hh)]
    · next hh => rw [if_pos (Int32.not_lt.mp hh)]
end CLY
