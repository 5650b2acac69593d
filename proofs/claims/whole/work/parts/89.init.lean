/-! ===== constructors ===== -/
section INI
variable {m m0 m1 m2 : jmM} {a d kd n b : Nat} {Q : Option Value → jmM → Prop}
def sm4 (m m' : jmM) (b : Nat) : Prop := mS m' b = mS m b ∧ mR m' b = mR m b ∧ mI m' b = mI m b ∧ mL m' b = mL m b
theorem sm4.refl : sm4 m m b := ⟨rfl, rfl, rfl, rfl⟩
theorem sm4.trans (h : sm4 m m1 b) (h' : sm4 m1 m2 b) : sm4 m m2 b := ⟨h'.1.trans h.1, h'.2.1.trans h.2.1, h'.2.2.1.trans h.2.2.1, h'.2.2.2.trans h.2.2.2⟩
theorem mI_new : mI (jNew m kd n) b = if b = mN m then fun _ => 0 else mI m b := by
  show jup m.1 (mN m) (fun _ => 0) b = _
  rw [jup_eq]; rfl
theorem mL_new : mL (jNew m kd n) b = if b = mN m then fun _ => 0 else mL m b := by
  show jup m.2.1 (mN m) (fun _ => 0) b = _
  rw [jup_eq]; rfl
theorem mR_new : mR (jNew m kd n) b = if b = mN m then fun _ => none else mR m b := by
  show jup m.2.2.1 (mN m) (fun _ => none) b = _
  rw [jup_eq]; rfl
theorem mS_new : mS (jNew m kd n) b = if b = mN m then (kd, n) else mS m b := by
  show jup m.2.2.2.1 (mN m) (kd, n) b = _
  rw [jup_eq]; rfl
theorem mN_new : mN (jNew m kd n) = mN m + 1 := rfl
theorem mZ_new : mZ (jNew m kd n) = mZ m + n := rfl
theorem cIv (m : jmM) (a b : Nat) (f : Nat → Int32) : mI (cI m a f) b = if b = a then f else mI m b := by
  show jup m.1 a f b = _
  rw [jup_eq]; rfl
theorem cLv (m : jmM) (a b : Nat) (f : Nat → Int64) : mL (cL m a f) b = if b = a then f else mL m b := by
  show jup m.2.1 a f b = _
  rw [jup_eq]; rfl
theorem cRv (m : jmM) (a b : Nat) (f : Nat → Option Nat) : mR (cR m a f) b = if b = a then f else mR m b := by
  show jup m.2.2.1 a f b = _
  rw [jup_eq]; rfl
theorem ne_a1 {a k : Nat} (h : 0 < k) : (a = a + k) = False := eq_false (by omega)
theorem ne_a2 {a k : Nat} (h : 0 < k) : (a + k = a) = False := eq_false (by omega)
theorem ne_b {a b k : Nat} (h : b < a) : (b = a + k) = False := eq_false (by omega)
theorem ne_b0 {a b : Nat} (h : b < a) : (b = a) = False := eq_false (by omega)
def zr (m : jmM) (b : Nat) : Prop := ∀ j, mI m b j = 0 ∧ mL m b j = 0
theorem i_Law (hN : mN m = a) : ∃ m', CE (d + 1) 24 [.ref a] (jNew m 3 10) none m' ∧ (mN m' = a + 6 ∧ mZ m' = mZ m + 458) ∧ (∀ b, b < a → sm4 m m' b) ∧ LawL (mS m') (mR m') a := by
  apply CE_ex
  intro Q hQ
  rw [nX3_init]
  simp (config := {decide := true}) (disch := omega) only [tX3_init_0, tX3_init_1, tX3_init_4, tX3_init_5, tX3_init_8, tX3_init_10, tX3_init_10q, tX3_init_10n, tX3_init_13, tX3_init_14, tX3_init_15, tX3_init_18, tX3_init_19, tX3_init_21, tX3_init_23, tX3_init_23q, tX3_init_23n, tX3_init_26, tX3_init_27, tX3_init_29, tX3_init_31, tX3_init_31q, tX3_init_31n, tX3_init_34, tX3_init_35, tX3_init_37, tX3_init_39, tX3_init_39q, tX3_init_39n, tX3_init_42, tX3_init_43, tX3_init_45, tX3_init_47, tX3_init_47q, tX3_init_47n, tX3_init_50, tX3_init_51, tX3_init_52, tX3_init_55, tX3_init_56, tX3_init_57, tX3_init_60, tX3_init_61, tX3_init_62, tX3_init_65, tX3_init_66, tX3_init_67, tX3_init_70, jK_some, jK_none, jc1_int, jc1_ref, jc1_none, jc1_long, jc1_null, jc1_rf, va_rf_some, va_rf_none, mI_cI, mL_cL, mR_cR, cI_cI, cL_cL, jup_eq, jne_1, jne_2, Nat.add_left_cancel_iff, mL_cI, mR_cI, mS_cI, mN_cI, mI_cL, mR_cL, mS_cL, mN_cL, mI_cR, mL_cR, mS_cR, mN_cR, true_and, and_true, true_or, or_true, if_true, if_false, jBool_0, jBool_1, Nat.le_refl, Nat.reduceLeDiff, Nat.reduceEqDiff, Nat.reduceAdd, Nat.reduceSub, reduceIte, Int32.reduceLT, Int32.reduceLE, ne_eq, not_false_eq_true, not_true_eq_false, false_or, or_false, and_false, false_and, reduceCtorEq, jn_4, jn_6, jn_8, jn_9, jn_12, jn_60, jn_100, jn_200, jn_400, jn_600, jn_601, jn_3600, jI_4, jI_6, jI_8, jI_9, jI_12, jI_60, jI_100, jI_200, jI_400, jI_600, jI_601, jI_3600, va_cpy_00, jx_0, jx_6, jx_12, jx_400, jx_600, nI_1, mI_new, mL_new, mR_new, mS_new, mN_new, cIv, cLv, cRv, hN, ne_a1, ne_a2, Nat.add_assoc]
  apply hQ
  refine ⟨⟨?_, ?_⟩, fun b hb => ⟨?_, ?_, ?_, ?_⟩, ?_⟩
  all_goals simp (config := {decide := true}) (disch := omega) only [zr, LawL, TapeL, StartL, DeskL, SliL, PotL, mI_new, mL_new, mR_new, mS_new, mN_new, mZ_new, mN_cI, mN_cL, mN_cR, mZ_cI, mZ_cL, mZ_cR, mS_cI, mS_cL, mS_cR, mI_cL, mI_cR, mL_cI, mL_cR, mR_cI, mR_cL, cIv, cLv, cRv, jup_eq, hN, ne_a1, ne_a2, ne_b, ne_b0, Nat.add_assoc, Nat.reduceAdd, Nat.reduceEqDiff, Nat.add_left_cancel_iff, reduceIte, ite_self, and_self, true_and, implies_true]
theorem i_Tape (hN : mN m = a) : ∃ m', CE (d + 1) 130 [.ref a] (jNew m 9 2) none m' ∧ (mN m' = a + 2 ∧ mZ m' = mZ m + 402) ∧ (∀ b, b < a → sm4 m m' b) ∧ TapeL (mS m') (mR m') a ∧ zr m' a := by
  apply CE_ex
  intro Q hQ
  rw [nX9_init]
  simp (config := {decide := true}) (disch := omega) only [tX9_init_0, tX9_init_1, tX9_init_4, tX9_init_5, tX9_init_8, tX9_init_10, tX9_init_10q, tX9_init_10n, tX9_init_13, tX9_init_14, tX9_init_15, tX9_init_18, jK_some, jK_none, jc1_int, jc1_ref, jc1_none, jc1_long, jc1_null, jc1_rf, va_rf_some, va_rf_none, mI_cI, mL_cL, mR_cR, cI_cI, cL_cL, jup_eq, jne_1, jne_2, Nat.add_left_cancel_iff, mL_cI, mR_cI, mS_cI, mN_cI, mI_cL, mR_cL, mS_cL, mN_cL, mI_cR, mL_cR, mS_cR, mN_cR, true_and, and_true, true_or, or_true, if_true, if_false, jBool_0, jBool_1, Nat.le_refl, Nat.reduceLeDiff, Nat.reduceEqDiff, Nat.reduceAdd, Nat.reduceSub, reduceIte, Int32.reduceLT, Int32.reduceLE, ne_eq, not_false_eq_true, not_true_eq_false, false_or, or_false, and_false, false_and, reduceCtorEq, jn_4, jn_6, jn_8, jn_9, jn_12, jn_60, jn_100, jn_200, jn_400, jn_600, jn_601, jn_3600, jI_4, jI_6, jI_8, jI_9, jI_12, jI_60, jI_100, jI_200, jI_400, jI_600, jI_601, jI_3600, va_cpy_00, jx_0, jx_6, jx_12, jx_400, jx_600, nI_1, mI_new, mL_new, mR_new, mS_new, mN_new, cIv, cLv, cRv, hN, ne_a1, ne_a2, Nat.add_assoc]
  apply hQ
  refine ⟨⟨?_, ?_⟩, fun b hb => ⟨?_, ?_, ?_, ?_⟩, ?_⟩
  all_goals simp (config := {decide := true}) (disch := omega) only [zr, LawL, TapeL, StartL, DeskL, SliL, PotL, mI_new, mL_new, mR_new, mS_new, mN_new, mZ_new, mN_cI, mN_cL, mN_cR, mZ_cI, mZ_cL, mZ_cR, mS_cI, mS_cL, mS_cR, mI_cL, mI_cR, mL_cI, mL_cR, mR_cI, mR_cL, cIv, cLv, cRv, jup_eq, hN, ne_a1, ne_a2, ne_b, ne_b0, Nat.add_assoc, Nat.reduceAdd, Nat.reduceEqDiff, Nat.add_left_cancel_iff, reduceIte, ite_self, and_self, true_and, implies_true]
theorem i_Start (hN : mN m = a) : ∃ m', CE (d + 1) 118 [.ref a] (jNew m 8 8) none m' ∧ (mN m' = a + 3 ∧ mZ m' = mZ m + 20) ∧ (∀ b, b < a → sm4 m m' b) ∧ StartL (mS m') (mR m') a ∧ zr m' a ∧ zr m' (a + 1) ∧ zr m' (a + 2) := by
  apply CE_ex
  intro Q hQ
  rw [nX8_init]
  simp (config := {decide := true}) (disch := omega) only [tX8_init_0, tX8_init_1, tX8_init_4, tX8_init_5, tX8_init_6, tX8_init_9, tX8_init_10, tX8_init_11, tX8_init_14, tX8_init_15, tX8_init_16, tX8_init_19, tX8_init_20, tX8_init_21, tX8_init_24, tX8_init_25, tX8_init_26, tX8_init_29, tX8_init_30, tX8_init_31, tX8_init_34, tX8_init_35, tX8_init_37, tX8_init_39, tX8_init_39q, tX8_init_39n, tX8_init_42, tX8_init_43, tX8_init_45, tX8_init_47, tX8_init_47q, tX8_init_47n, tX8_init_50, jK_some, jK_none, jc1_int, jc1_ref, jc1_none, jc1_long, jc1_null, jc1_rf, va_rf_some, va_rf_none, mI_cI, mL_cL, mR_cR, cI_cI, cL_cL, jup_eq, jne_1, jne_2, Nat.add_left_cancel_iff, mL_cI, mR_cI, mS_cI, mN_cI, mI_cL, mR_cL, mS_cL, mN_cL, mI_cR, mL_cR, mS_cR, mN_cR, true_and, and_true, true_or, or_true, if_true, if_false, jBool_0, jBool_1, Nat.le_refl, Nat.reduceLeDiff, Nat.reduceEqDiff, Nat.reduceAdd, Nat.reduceSub, reduceIte, Int32.reduceLT, Int32.reduceLE, ne_eq, not_false_eq_true, not_true_eq_false, false_or, or_false, and_false, false_and, reduceCtorEq, jn_4, jn_6, jn_8, jn_9, jn_12, jn_60, jn_100, jn_200, jn_400, jn_600, jn_601, jn_3600, jI_4, jI_6, jI_8, jI_9, jI_12, jI_60, jI_100, jI_200, jI_400, jI_600, jI_601, jI_3600, va_cpy_00, jx_0, jx_6, jx_12, jx_400, jx_600, nI_1, mI_new, mL_new, mR_new, mS_new, mN_new, cIv, cLv, cRv, hN, ne_a1, ne_a2, Nat.add_assoc]
  apply hQ
  refine ⟨⟨?_, ?_⟩, fun b hb => ⟨?_, ?_, ?_, ?_⟩, ?_⟩
  all_goals simp (config := {decide := true}) (disch := omega) only [zr, LawL, TapeL, StartL, DeskL, SliL, PotL, mI_new, mL_new, mR_new, mS_new, mN_new, mZ_new, mN_cI, mN_cL, mN_cR, mZ_cI, mZ_cL, mZ_cR, mS_cI, mS_cL, mS_cR, mI_cL, mI_cR, mL_cI, mL_cR, mR_cI, mR_cL, cIv, cLv, cRv, jup_eq, hN, ne_a1, ne_a2, ne_b, ne_b0, Nat.add_assoc, Nat.reduceAdd, Nat.reduceEqDiff, Nat.add_left_cancel_iff, reduceIte, ite_self, and_self, true_and, implies_true]
theorem i_Desk (hN : mN m = a) : ∃ m', CE (d + 1) 10 [.ref a] (jNew m 1 3) none m' ∧ (mN m' = a + 3 ∧ mZ m' = mZ m + 72) ∧ (∀ b, b < a → sm4 m m' b) ∧ DeskL (mS m') (mR m') a ∧ zr m' a := by
  apply CE_ex
  intro Q hQ
  rw [nX1_init]
  simp (config := {decide := true}) (disch := omega) only [tX1_init_0, tX1_init_1, tX1_init_4, tX1_init_5, tX1_init_7, tX1_init_9, tX1_init_9q, tX1_init_9n, tX1_init_12, tX1_init_13, tX1_init_15, tX1_init_17, tX1_init_17q, tX1_init_17n, tX1_init_20, tX1_init_21, tX1_init_22, tX1_init_25, jK_some, jK_none, jc1_int, jc1_ref, jc1_none, jc1_long, jc1_null, jc1_rf, va_rf_some, va_rf_none, mI_cI, mL_cL, mR_cR, cI_cI, cL_cL, jup_eq, jne_1, jne_2, Nat.add_left_cancel_iff, mL_cI, mR_cI, mS_cI, mN_cI, mI_cL, mR_cL, mS_cL, mN_cL, mI_cR, mL_cR, mS_cR, mN_cR, true_and, and_true, true_or, or_true, if_true, if_false, jBool_0, jBool_1, Nat.le_refl, Nat.reduceLeDiff, Nat.reduceEqDiff, Nat.reduceAdd, Nat.reduceSub, reduceIte, Int32.reduceLT, Int32.reduceLE, ne_eq, not_false_eq_true, not_true_eq_false, false_or, or_false, and_false, false_and, reduceCtorEq, jn_4, jn_6, jn_8, jn_9, jn_12, jn_60, jn_100, jn_200, jn_400, jn_600, jn_601, jn_3600, jI_4, jI_6, jI_8, jI_9, jI_12, jI_60, jI_100, jI_200, jI_400, jI_600, jI_601, jI_3600, va_cpy_00, jx_0, jx_6, jx_12, jx_400, jx_600, nI_1, mI_new, mL_new, mR_new, mS_new, mN_new, cIv, cLv, cRv, hN, ne_a1, ne_a2, Nat.add_assoc]
  apply hQ
  refine ⟨⟨?_, ?_⟩, fun b hb => ⟨?_, ?_, ?_, ?_⟩, ?_⟩
  all_goals simp (config := {decide := true}) (disch := omega) only [zr, LawL, TapeL, StartL, DeskL, SliL, PotL, mI_new, mL_new, mR_new, mS_new, mN_new, mZ_new, mN_cI, mN_cL, mN_cR, mZ_cI, mZ_cL, mZ_cR, mS_cI, mS_cL, mS_cR, mI_cL, mI_cR, mL_cI, mL_cR, mR_cI, mR_cL, cIv, cLv, cRv, jup_eq, hN, ne_a1, ne_a2, ne_b, ne_b0, Nat.add_assoc, Nat.reduceAdd, Nat.reduceEqDiff, Nat.add_left_cancel_iff, reduceIte, ite_self, and_self, true_and, implies_true]
theorem i_Slices (hN : mN m = a) : ∃ m', CE (d + 1) 112 [.ref a] (jNew m 7 8) none m' ∧ (mN m' = a + 7 ∧ mZ m' = mZ m + 1608) ∧ (∀ b, b < a → sm4 m m' b) ∧ SliL (mS m') (mR m') a ∧ zr m' a := by
  apply CE_ex
  intro Q hQ
  rw [nX7_init]
  simp (config := {decide := true}) (disch := omega) only [tX7_init_0, tX7_init_1, tX7_init_4, tX7_init_5, tX7_init_7, tX7_init_9, tX7_init_9q, tX7_init_9n, tX7_init_12, tX7_init_13, tX7_init_15, tX7_init_17, tX7_init_17q, tX7_init_17n, tX7_init_20, tX7_init_21, tX7_init_23, tX7_init_25, tX7_init_25q, tX7_init_25n, tX7_init_28, tX7_init_29, tX7_init_31, tX7_init_33, tX7_init_33q, tX7_init_33n, tX7_init_36, tX7_init_37, tX7_init_38, tX7_init_41, tX7_init_42, tX7_init_45, tX7_init_47, tX7_init_47q, tX7_init_47n, tX7_init_50, tX7_init_51, tX7_init_54, tX7_init_56, tX7_init_56q, tX7_init_56n, tX7_init_59, tX7_init_60, tX7_init_61, tX7_init_64, jK_some, jK_none, jc1_int, jc1_ref, jc1_none, jc1_long, jc1_null, jc1_rf, va_rf_some, va_rf_none, mI_cI, mL_cL, mR_cR, cI_cI, cL_cL, jup_eq, jne_1, jne_2, Nat.add_left_cancel_iff, mL_cI, mR_cI, mS_cI, mN_cI, mI_cL, mR_cL, mS_cL, mN_cL, mI_cR, mL_cR, mS_cR, mN_cR, true_and, and_true, true_or, or_true, if_true, if_false, jBool_0, jBool_1, Nat.le_refl, Nat.reduceLeDiff, Nat.reduceEqDiff, Nat.reduceAdd, Nat.reduceSub, reduceIte, Int32.reduceLT, Int32.reduceLE, ne_eq, not_false_eq_true, not_true_eq_false, false_or, or_false, and_false, false_and, reduceCtorEq, jn_4, jn_6, jn_8, jn_9, jn_12, jn_60, jn_100, jn_200, jn_400, jn_600, jn_601, jn_3600, jI_4, jI_6, jI_8, jI_9, jI_12, jI_60, jI_100, jI_200, jI_400, jI_600, jI_601, jI_3600, va_cpy_00, jx_0, jx_6, jx_12, jx_400, jx_600, nI_1, mI_new, mL_new, mR_new, mS_new, mN_new, cIv, cLv, cRv, hN, ne_a1, ne_a2, Nat.add_assoc]
  apply hQ
  refine ⟨⟨?_, ?_⟩, fun b hb => ⟨?_, ?_, ?_, ?_⟩, ?_⟩
  all_goals simp (config := {decide := true}) (disch := omega) only [zr, LawL, TapeL, StartL, DeskL, SliL, PotL, mI_new, mL_new, mR_new, mS_new, mN_new, mZ_new, mN_cI, mN_cL, mN_cR, mZ_cI, mZ_cL, mZ_cR, mS_cI, mS_cL, mS_cR, mI_cL, mI_cR, mL_cI, mL_cR, mR_cI, mR_cL, cIv, cLv, cRv, jup_eq, hN, ne_a1, ne_a2, ne_b, ne_b0, Nat.add_assoc, Nat.reduceAdd, Nat.reduceEqDiff, Nat.add_left_cancel_iff, reduceIte, ite_self, and_self, true_and, implies_true]
theorem i_Want (hN : mN m = a) : ∃ m', CE (d + 1) 135 [.ref a] (jNew m 10 6) none m' ∧ (mN m' = a + 1 ∧ mZ m' = mZ m + 6) ∧ (∀ b, b < a → sm4 m m' b) ∧ mS m' a = (10, 6) := by
  apply CE_ex
  intro Q hQ
  rw [nX10_init]
  simp (config := {decide := true}) (disch := omega) only [tX10_init_0, tX10_init_1, tX10_init_4, tX10_init_5, tX10_init_6, tX10_init_9, tX10_init_10, tX10_init_11, tX10_init_14, tX10_init_15, tX10_init_16, tX10_init_19, tX10_init_20, tX10_init_21, tX10_init_24, tX10_init_25, tX10_init_26, tX10_init_29, tX10_init_30, tX10_init_31, tX10_init_34, jK_some, jK_none, jc1_int, jc1_ref, jc1_none, jc1_long, jc1_null, jc1_rf, va_rf_some, va_rf_none, mI_cI, mL_cL, mR_cR, cI_cI, cL_cL, jup_eq, jne_1, jne_2, Nat.add_left_cancel_iff, mL_cI, mR_cI, mS_cI, mN_cI, mI_cL, mR_cL, mS_cL, mN_cL, mI_cR, mL_cR, mS_cR, mN_cR, true_and, and_true, true_or, or_true, if_true, if_false, jBool_0, jBool_1, Nat.le_refl, Nat.reduceLeDiff, Nat.reduceEqDiff, Nat.reduceAdd, Nat.reduceSub, reduceIte, Int32.reduceLT, Int32.reduceLE, ne_eq, not_false_eq_true, not_true_eq_false, false_or, or_false, and_false, false_and, reduceCtorEq, jn_4, jn_6, jn_8, jn_9, jn_12, jn_60, jn_100, jn_200, jn_400, jn_600, jn_601, jn_3600, jI_4, jI_6, jI_8, jI_9, jI_12, jI_60, jI_100, jI_200, jI_400, jI_600, jI_601, jI_3600, va_cpy_00, jx_0, jx_6, jx_12, jx_400, jx_600, nI_1, mI_new, mL_new, mR_new, mS_new, mN_new, cIv, cLv, cRv, hN, ne_a1, ne_a2, Nat.add_assoc]
  apply hQ
  refine ⟨⟨?_, ?_⟩, fun b hb => ⟨?_, ?_, ?_, ?_⟩, ?_⟩
  all_goals simp (config := {decide := true}) (disch := omega) only [zr, LawL, TapeL, StartL, DeskL, SliL, PotL, mI_new, mL_new, mR_new, mS_new, mN_new, mZ_new, mN_cI, mN_cL, mN_cR, mZ_cI, mZ_cL, mZ_cR, mS_cI, mS_cL, mS_cR, mI_cL, mI_cR, mL_cI, mL_cR, mR_cI, mR_cL, cIv, cLv, cRv, jup_eq, hN, ne_a1, ne_a2, ne_b, ne_b0, Nat.add_assoc, Nat.reduceAdd, Nat.reduceEqDiff, Nat.add_left_cancel_iff, reduceIte, ite_self, and_self, true_and, implies_true]
theorem i_Cutter (hN : mN m = a) : ∃ m', CE (d + 1) 0 [.ref a] (jNew m 0 6) none m' ∧ (mN m' = a + 6 ∧ mZ m' = mZ m + 2418) ∧ (∀ b, b < a → sm4 m m' b) ∧ (mS m' a = (0, 6) ∧ mR m' a 0 = some (a + 1) ∧ mR m' a 1 = some (a + 2) ∧ mR m' a 2 = some (a + 3) ∧ mR m' a 3 = some (a + 4) ∧ mR m' a 4 = some (a + 5) ∧ mS m' (a + 1) = (20, 601) ∧ mS m' (a + 2) = (20, 601) ∧ mS m' (a + 3) = (20, 601) ∧ mS m' (a + 4) = (20, 601) ∧ mS m' (a + 5) = (20, 8)) ∧ zr m' (a + 4) := by
  apply CE_ex
  intro Q hQ
  rw [nX0_init]
  simp (config := {decide := true}) (disch := omega) only [tX0_init_0, tX0_init_1, tX0_init_4, tX0_init_5, tX0_init_8, tX0_init_10, tX0_init_10q, tX0_init_10n, tX0_init_13, tX0_init_14, tX0_init_17, tX0_init_19, tX0_init_19q, tX0_init_19n, tX0_init_22, tX0_init_23, tX0_init_26, tX0_init_28, tX0_init_28q, tX0_init_28n, tX0_init_31, tX0_init_32, tX0_init_35, tX0_init_37, tX0_init_37q, tX0_init_37n, tX0_init_40, tX0_init_41, tX0_init_43, tX0_init_45, tX0_init_45q, tX0_init_45n, tX0_init_48, tX0_init_49, tX0_init_50, tX0_init_53, jK_some, jK_none, jc1_int, jc1_ref, jc1_none, jc1_long, jc1_null, jc1_rf, va_rf_some, va_rf_none, mI_cI, mL_cL, mR_cR, cI_cI, cL_cL, jup_eq, jne_1, jne_2, Nat.add_left_cancel_iff, mL_cI, mR_cI, mS_cI, mN_cI, mI_cL, mR_cL, mS_cL, mN_cL, mI_cR, mL_cR, mS_cR, mN_cR, true_and, and_true, true_or, or_true, if_true, if_false, jBool_0, jBool_1, Nat.le_refl, Nat.reduceLeDiff, Nat.reduceEqDiff, Nat.reduceAdd, Nat.reduceSub, reduceIte, Int32.reduceLT, Int32.reduceLE, ne_eq, not_false_eq_true, not_true_eq_false, false_or, or_false, and_false, false_and, reduceCtorEq, jn_4, jn_6, jn_8, jn_9, jn_12, jn_60, jn_100, jn_200, jn_400, jn_600, jn_601, jn_3600, jI_4, jI_6, jI_8, jI_9, jI_12, jI_60, jI_100, jI_200, jI_400, jI_600, jI_601, jI_3600, va_cpy_00, jx_0, jx_6, jx_12, jx_400, jx_600, nI_1, mI_new, mL_new, mR_new, mS_new, mN_new, cIv, cLv, cRv, hN, ne_a1, ne_a2, Nat.add_assoc]
  apply hQ
  refine ⟨⟨?_, ?_⟩, fun b hb => ⟨?_, ?_, ?_, ?_⟩, ?_⟩
  all_goals simp (config := {decide := true}) (disch := omega) only [zr, LawL, TapeL, StartL, DeskL, SliL, PotL, mI_new, mL_new, mR_new, mS_new, mN_new, mZ_new, mN_cI, mN_cL, mN_cR, mZ_cI, mZ_cL, mZ_cR, mS_cI, mS_cL, mS_cR, mI_cL, mI_cR, mL_cI, mL_cR, mR_cI, mR_cL, cIv, cLv, cRv, jup_eq, hN, ne_a1, ne_a2, ne_b, ne_b0, Nat.add_assoc, Nat.reduceAdd, Nat.reduceEqDiff, Nat.add_left_cancel_iff, reduceIte, ite_self, and_self, true_and, implies_true]
end INI
