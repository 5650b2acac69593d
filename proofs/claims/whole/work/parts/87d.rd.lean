/-! ===== X's reader: facts, parts, tests ===== -/
def rFactW (T : Nat → Int32) (dp : Nat) (sum inF inT : RS → RS) (s : RS) : RS :=
  if rMat T (jW 13) (rSk T s.1) then (if (rOp dp (rSk T s.1, s.2)).2.2.1 = 0 then rPut (inF (rEnd T (rSk T s.1), s.2)) (-20) else rOp dp (rSk T s.1, s.2))
  else if T (rSk T s.1) = 91 then (if (rOp dp (rSk T s.1, s.2)).2.2.1 = 0 then rExp T 93 (inT (rSk T s.1 + 1, s.2)) else rOp dp (rSk T s.1, s.2))
  else if (rSign T (sum (rSk T s.1, s.2))).2.2.1 = 0 then rPut (sum (rSign T (sum (rSk T s.1, s.2)))) (rSgn T (rSk T (sum (rSk T s.1, s.2)).1)) else rSign T (sum (rSk T s.1, s.2))
def rWordL (T : Nat → Int32) (w : List Int32) (o : Int32) (sub : RS → RS) : Nat → RS → RS
  | 0, s => s
  | n + 1, s => if rTW T w s then rWordL T w o sub n (rPut (sub (rEnd T (rSk T s.1), s.2)) o) else (rSk T s.1, s.2)
def rPart (T : Nat → Int32) (fact : RS → RS) (s : RS) : RS := rWordL T (jW 14) (-21) fact 400 (fact s)
def rTest (T : Nat → Int32) (fact : RS → RS) (s : RS) : RS := rWordL T (jW 15) (-22) (rPart T fact) 400 (rPart T fact s)
/-- a FACT at depth dp, k may still be opened (dp + k = 10) -/
def rFact (T : Nat → Int32) (u : Int32) : Nat → RS → RS
  | 0 => rFactW T 10 (rSum T u 0) id id
  | k + 1 => rFactW T (10 - (k + 1)) (rSum T u (k + 1)) (rFact T u k) (rTest T (rFact T u k))
section RDW
variable {e : Nat} {B : jmM} {T : Nat → Int32} {z : Nat} {s : RS} {a b x y : Int32} {i t dp : Nat} {Q : Option Value → jmM → Prop} {inF inT sum sub : RS → RS}
theorem rSign_ok (h : XB B T z) (hs : rOk z s) : rOk z (rSign T s) := by
  have h1 := rSk_z h hs.1
  unfold rSign
  split
  · next e =>
    have h2 : rSk T s.1 < z := T_lt h (by rcases e with e | e | e <;> rw [e] <;> decide)
    refine ⟨?_, (rTold_ok (p := rSk T s.1) (s := (rSk T s.1, s.2)) ⟨h1, hs.2⟩).2⟩
    show (if _ then _ else _) ≤ z
    split
    · next e2 =>
      have : rSk T s.1 + 1 < z := T_lt h (by
        unfold rAlso at e2; intro e3; rw [e3] at e2; simp at e2)
      show rSk T s.1 + 2 ≤ z
      omega
    · exact h2
  · exact rFail_ok ⟨h1, hs.2⟩
theorem x_readFact (h : XB B T z) (hd : dp ≤ 10) (hs : Xc B z (e + 3) 99 dp sum) (hF : dp < 10 → Xc B z (e + 3) 96 (dp + 1) inF) (hT : dp < 10 → Xc B z (e + 3) 94 (dp + 1) inT) : Xc B z (e + 4) 96 dp (rFactW T dp sum inF inT) := by
  intro s hk
  obtain ⟨b1, b2, b3, b4, b5, b6, b7, b8⟩ := id h
  have h1 : rOk z (rSk T s.1, s.2) := ⟨rSk_z h hk.1, hk.2⟩
  unfold rFactW
  by_cases e1 : rMat T (jW 13) (rSk T s.1) = true
  · rw [if_pos e1]
    by_cases e2 : (rOp dp (rSk T s.1, s.2)).2.2.1 = 0
    · obtain ⟨hd2, e3⟩ := rOp_f (s := (rSk T s.1, s.2)) (show rSk T s.1 ≤ 1000 by have := h1.1; have : rSk T s.1 ≤ z := this; omega) e2
      have h2 : rOk z (rEnd T (rSk T s.1), s.2) := ⟨rEnd_z h h1.1, hk.2⟩
      obtain ⟨h3, h4⟩ := hF hd2 _ h2
      rw [if_pos e2]
      rw [e3] at e2
      have e4 : s.2.2.1 = 0 := e2
      refine ⟨rPut_ok h3, fun Q => ?_⟩
      have w1 := fun Q => x_write (d := e + 2) (x := -20) (Q := Q) h h3.2
      rw [nX6_readFact]
      simp (config := {decide := true}) (disch := first | omega | assumption | (simp only [mS_cL, mS_cI, mS_cR, mR_cL, mR_cI]; first | assumption | exact hcr _ | fail)) only [tX6_readFact_0, tX6_readFact_1, tX6_readFact_4, tX6_readFact_5, tX6_readFact_6, tX6_readFact_8, tX6_readFact_11, tX6_readFact_14, tX6_readFact_15, tX6_readFact_16, tX6_readFact_19, tX6_readFact_22, tX6_readFact_23, tX6_readFact_24, tX6_readFact_27, tX6_readFact_30, tX6_readFact_31, tX6_readFact_32, tX6_readFact_33, tX6_readFact_34, tX6_readFact_37, tX6_readFact_38, tX6_readFact_41, tX6_readFact_43, tX6_readFact_46, tX6_readFact_49, tX6_readFact_50, tX6_readFact_52, tX6_readFact_55, tX6_readFact_56, tX6_readFact_57, tX6_readFact_60, tX6_readFact_63, tX6_readFact_64, tX6_readFact_65, tX6_readFact_68, tX6_readFact_69, tX6_readFact_70, tX6_readFact_73, tX6_readFact_74, tX6_readFact_75, tX6_readFact_76, tX6_readFact_77, tX6_readFact_80, tX6_readFact_81, tX6_readFact_83, tX6_readFact_86, tX6_readFact_89, tX6_readFact_90, tX6_readFact_91, tX6_readFact_94, tX6_readFact_95, tX6_readFact_98, tX6_readFact_99, tX6_readFact_100, tX6_readFact_103, tX6_readFact_106, tX6_readFact_107, tX6_readFact_108, tX6_readFact_111, tX6_readFact_112, tX6_readFact_115, tX6_readFact_116, tX6_readFact_119, jK_some, jK_none, jc1_int, jc1_ref, jc1_none, jc1_long, jc1_null, jc1_rf, va_rf_some, va_rf_none, mI_cI, mL_cL, mR_cR, cI_cI, cL_cL, jup_eq, jne_1, jne_2, Nat.add_left_cancel_iff, mL_cI, mR_cI, mS_cI, mN_cI, mI_cL, mR_cL, mS_cL, mN_cL, mI_cR, mL_cR, mS_cR, mN_cR, true_and, and_true, true_or, or_true, if_true, if_false, jBool_0, jBool_1, Nat.le_refl, Nat.reduceLeDiff, Nat.reduceEqDiff, Nat.reduceAdd, Nat.reduceSub, reduceIte, Int32.reduceLT, Int32.reduceLE, ne_eq, not_false_eq_true, not_true_eq_false, false_or, or_false, and_false, false_and, reduceCtorEq, jn_4, jn_6, jn_8, jn_9, jn_12, jn_60, jn_100, jn_200, jn_400, jn_600, jn_601, jn_3600, jI_4, jI_6, jI_8, jI_9, jI_12, jI_60, jI_100, jI_200, jI_400, jI_600, jI_601, jI_3600, va_cpy_00, jx_0, jx_6, jx_12, jx_400, jx_600, nI_1, rM_S, rM_R, b1, b2, b3, b4, b5, x_nextByte h hk.1, rM_at, x_isWord (s := (rSk T s.1, s.2)) h h1.1, e1, x_opens h hd, e3, e2, e4, nI_1, rM_toAt, x_wordEnd (s := (rSk T s.1, s.2)) h h1.1, h4, w1]
    · rw [if_neg e2]
      refine ⟨rOp_ok h1, fun Q => ?_⟩
      rw [nX6_readFact]
      simp (config := {decide := true}) (disch := first | omega | assumption | (simp only [mS_cL, mS_cI, mS_cR, mR_cL, mR_cI]; first | assumption | exact hcr _ | fail)) only [tX6_readFact_0, tX6_readFact_1, tX6_readFact_4, tX6_readFact_5, tX6_readFact_6, tX6_readFact_8, tX6_readFact_11, tX6_readFact_14, tX6_readFact_15, tX6_readFact_16, tX6_readFact_19, tX6_readFact_22, tX6_readFact_23, tX6_readFact_24, tX6_readFact_27, tX6_readFact_30, tX6_readFact_31, tX6_readFact_32, tX6_readFact_33, tX6_readFact_34, tX6_readFact_37, tX6_readFact_38, tX6_readFact_41, tX6_readFact_43, tX6_readFact_46, tX6_readFact_49, tX6_readFact_50, tX6_readFact_52, tX6_readFact_55, tX6_readFact_56, tX6_readFact_57, tX6_readFact_60, tX6_readFact_63, tX6_readFact_64, tX6_readFact_65, tX6_readFact_68, tX6_readFact_69, tX6_readFact_70, tX6_readFact_73, tX6_readFact_74, tX6_readFact_75, tX6_readFact_76, tX6_readFact_77, tX6_readFact_80, tX6_readFact_81, tX6_readFact_83, tX6_readFact_86, tX6_readFact_89, tX6_readFact_90, tX6_readFact_91, tX6_readFact_94, tX6_readFact_95, tX6_readFact_98, tX6_readFact_99, tX6_readFact_100, tX6_readFact_103, tX6_readFact_106, tX6_readFact_107, tX6_readFact_108, tX6_readFact_111, tX6_readFact_112, tX6_readFact_115, tX6_readFact_116, tX6_readFact_119, jK_some, jK_none, jc1_int, jc1_ref, jc1_none, jc1_long, jc1_null, jc1_rf, va_rf_some, va_rf_none, mI_cI, mL_cL, mR_cR, cI_cI, cL_cL, jup_eq, jne_1, jne_2, Nat.add_left_cancel_iff, mL_cI, mR_cI, mS_cI, mN_cI, mI_cL, mR_cL, mS_cL, mN_cL, mI_cR, mL_cR, mS_cR, mN_cR, true_and, and_true, true_or, or_true, if_true, if_false, jBool_0, jBool_1, Nat.le_refl, Nat.reduceLeDiff, Nat.reduceEqDiff, Nat.reduceAdd, Nat.reduceSub, reduceIte, Int32.reduceLT, Int32.reduceLE, ne_eq, not_false_eq_true, not_true_eq_false, false_or, or_false, and_false, false_and, reduceCtorEq, jn_4, jn_6, jn_8, jn_9, jn_12, jn_60, jn_100, jn_200, jn_400, jn_600, jn_601, jn_3600, jI_4, jI_6, jI_8, jI_9, jI_12, jI_60, jI_100, jI_200, jI_400, jI_600, jI_601, jI_3600, va_cpy_00, jx_0, jx_6, jx_12, jx_400, jx_600, nI_1, rM_S, rM_R, b1, b2, b3, b4, b5, x_nextByte h hk.1, rM_at, x_isWord (s := (rSk T s.1, s.2)) h h1.1, e1, x_opens h hd, e2, nI_1, rM_toAt]
  · rw [if_neg e1]
    by_cases e5 : T (rSk T s.1) = 91
    · rw [if_pos e5]
      by_cases e2 : (rOp dp (rSk T s.1, s.2)).2.2.1 = 0
      · obtain ⟨hd2, e3⟩ := rOp_f (s := (rSk T s.1, s.2)) (show rSk T s.1 ≤ 1000 by have := h1.1; have : rSk T s.1 ≤ z := this; omega) e2
        have h2 : rOk z (rSk T s.1 + 1, s.2) := ⟨T_lt h (by rw [e5]; decide), hk.2⟩
        obtain ⟨h3, h4⟩ := hT hd2 _ h2
        rw [if_pos e2]
        rw [e3] at e2
        have e4 : s.2.2.1 = 0 := e2
        refine ⟨rExp_ok h (by decide) h3, fun Q => ?_⟩
        have h5 := fun Q => x_expect (d := e) (x := 93) (Q := Q) h h3.1
        rw [nX6_readFact]
        simp (config := {decide := true}) (disch := first | omega | assumption | (simp only [mS_cL, mS_cI, mS_cR, mR_cL, mR_cI]; first | assumption | exact hcr _ | fail)) only [tX6_readFact_0, tX6_readFact_1, tX6_readFact_4, tX6_readFact_5, tX6_readFact_6, tX6_readFact_8, tX6_readFact_11, tX6_readFact_14, tX6_readFact_15, tX6_readFact_16, tX6_readFact_19, tX6_readFact_22, tX6_readFact_23, tX6_readFact_24, tX6_readFact_27, tX6_readFact_30, tX6_readFact_31, tX6_readFact_32, tX6_readFact_33, tX6_readFact_34, tX6_readFact_37, tX6_readFact_38, tX6_readFact_41, tX6_readFact_43, tX6_readFact_46, tX6_readFact_49, tX6_readFact_50, tX6_readFact_52, tX6_readFact_55, tX6_readFact_56, tX6_readFact_57, tX6_readFact_60, tX6_readFact_63, tX6_readFact_64, tX6_readFact_65, tX6_readFact_68, tX6_readFact_69, tX6_readFact_70, tX6_readFact_73, tX6_readFact_74, tX6_readFact_75, tX6_readFact_76, tX6_readFact_77, tX6_readFact_80, tX6_readFact_81, tX6_readFact_83, tX6_readFact_86, tX6_readFact_89, tX6_readFact_90, tX6_readFact_91, tX6_readFact_94, tX6_readFact_95, tX6_readFact_98, tX6_readFact_99, tX6_readFact_100, tX6_readFact_103, tX6_readFact_106, tX6_readFact_107, tX6_readFact_108, tX6_readFact_111, tX6_readFact_112, tX6_readFact_115, tX6_readFact_116, tX6_readFact_119, jK_some, jK_none, jc1_int, jc1_ref, jc1_none, jc1_long, jc1_null, jc1_rf, va_rf_some, va_rf_none, mI_cI, mL_cL, mR_cR, cI_cI, cL_cL, jup_eq, jne_1, jne_2, Nat.add_left_cancel_iff, mL_cI, mR_cI, mS_cI, mN_cI, mI_cL, mR_cL, mS_cL, mN_cL, mI_cR, mL_cR, mS_cR, mN_cR, true_and, and_true, true_or, or_true, if_true, if_false, jBool_0, jBool_1, Nat.le_refl, Nat.reduceLeDiff, Nat.reduceEqDiff, Nat.reduceAdd, Nat.reduceSub, reduceIte, Int32.reduceLT, Int32.reduceLE, ne_eq, not_false_eq_true, not_true_eq_false, false_or, or_false, and_false, false_and, reduceCtorEq, jn_4, jn_6, jn_8, jn_9, jn_12, jn_60, jn_100, jn_200, jn_400, jn_600, jn_601, jn_3600, jI_4, jI_6, jI_8, jI_9, jI_12, jI_60, jI_100, jI_200, jI_400, jI_600, jI_601, jI_3600, va_cpy_00, jx_0, jx_6, jx_12, jx_400, jx_600, nI_1, rM_S, rM_R, b1, b2, b3, b4, b5, x_nextByte h hk.1, rM_at, x_isWord (s := (rSk T s.1, s.2)) h h1.1, e1, e5, x_opens h hd, e3, e2, e4, nI_1, rM_toAt, h4, h5]
      · rw [if_neg e2]
        refine ⟨rOp_ok h1, fun Q => ?_⟩
        rw [nX6_readFact]
        simp (config := {decide := true}) (disch := first | omega | assumption | (simp only [mS_cL, mS_cI, mS_cR, mR_cL, mR_cI]; first | assumption | exact hcr _ | fail)) only [tX6_readFact_0, tX6_readFact_1, tX6_readFact_4, tX6_readFact_5, tX6_readFact_6, tX6_readFact_8, tX6_readFact_11, tX6_readFact_14, tX6_readFact_15, tX6_readFact_16, tX6_readFact_19, tX6_readFact_22, tX6_readFact_23, tX6_readFact_24, tX6_readFact_27, tX6_readFact_30, tX6_readFact_31, tX6_readFact_32, tX6_readFact_33, tX6_readFact_34, tX6_readFact_37, tX6_readFact_38, tX6_readFact_41, tX6_readFact_43, tX6_readFact_46, tX6_readFact_49, tX6_readFact_50, tX6_readFact_52, tX6_readFact_55, tX6_readFact_56, tX6_readFact_57, tX6_readFact_60, tX6_readFact_63, tX6_readFact_64, tX6_readFact_65, tX6_readFact_68, tX6_readFact_69, tX6_readFact_70, tX6_readFact_73, tX6_readFact_74, tX6_readFact_75, tX6_readFact_76, tX6_readFact_77, tX6_readFact_80, tX6_readFact_81, tX6_readFact_83, tX6_readFact_86, tX6_readFact_89, tX6_readFact_90, tX6_readFact_91, tX6_readFact_94, tX6_readFact_95, tX6_readFact_98, tX6_readFact_99, tX6_readFact_100, tX6_readFact_103, tX6_readFact_106, tX6_readFact_107, tX6_readFact_108, tX6_readFact_111, tX6_readFact_112, tX6_readFact_115, tX6_readFact_116, tX6_readFact_119, jK_some, jK_none, jc1_int, jc1_ref, jc1_none, jc1_long, jc1_null, jc1_rf, va_rf_some, va_rf_none, mI_cI, mL_cL, mR_cR, cI_cI, cL_cL, jup_eq, jne_1, jne_2, Nat.add_left_cancel_iff, mL_cI, mR_cI, mS_cI, mN_cI, mI_cL, mR_cL, mS_cL, mN_cL, mI_cR, mL_cR, mS_cR, mN_cR, true_and, and_true, true_or, or_true, if_true, if_false, jBool_0, jBool_1, Nat.le_refl, Nat.reduceLeDiff, Nat.reduceEqDiff, Nat.reduceAdd, Nat.reduceSub, reduceIte, Int32.reduceLT, Int32.reduceLE, ne_eq, not_false_eq_true, not_true_eq_false, false_or, or_false, and_false, false_and, reduceCtorEq, jn_4, jn_6, jn_8, jn_9, jn_12, jn_60, jn_100, jn_200, jn_400, jn_600, jn_601, jn_3600, jI_4, jI_6, jI_8, jI_9, jI_12, jI_60, jI_100, jI_200, jI_400, jI_600, jI_601, jI_3600, va_cpy_00, jx_0, jx_6, jx_12, jx_400, jx_600, nI_1, rM_S, rM_R, b1, b2, b3, b4, b5, x_nextByte h hk.1, rM_at, x_isWord (s := (rSk T s.1, s.2)) h h1.1, e1, e5, x_opens h hd, e2, nI_1, rM_toAt]
    · rw [if_neg e5]
      obtain ⟨h3, h4⟩ := hs _ h1
      have h5 := rSign_ok h h3
      have h6 := fun Q => x_readSign (d := e) (Q := Q) h h3.1
      by_cases e6 : (rSign T (sum (rSk T s.1, s.2))).2.2.1 = 0
      · rw [if_pos e6]
        obtain ⟨h7, h8⟩ := hs _ h5
        have w1 := fun x Q => x_write (d := e + 2) (x := x) (Q := Q) h h7.2
        refine ⟨rPut_ok h7, fun Q => ?_⟩
        rw [nX6_readFact]
        simp (config := {decide := true}) (disch := first | omega | assumption | (simp only [mS_cL, mS_cI, mS_cR, mR_cL, mR_cI]; first | assumption | exact hcr _ | fail)) only [tX6_readFact_0, tX6_readFact_1, tX6_readFact_4, tX6_readFact_5, tX6_readFact_6, tX6_readFact_8, tX6_readFact_11, tX6_readFact_14, tX6_readFact_15, tX6_readFact_16, tX6_readFact_19, tX6_readFact_22, tX6_readFact_23, tX6_readFact_24, tX6_readFact_27, tX6_readFact_30, tX6_readFact_31, tX6_readFact_32, tX6_readFact_33, tX6_readFact_34, tX6_readFact_37, tX6_readFact_38, tX6_readFact_41, tX6_readFact_43, tX6_readFact_46, tX6_readFact_49, tX6_readFact_50, tX6_readFact_52, tX6_readFact_55, tX6_readFact_56, tX6_readFact_57, tX6_readFact_60, tX6_readFact_63, tX6_readFact_64, tX6_readFact_65, tX6_readFact_68, tX6_readFact_69, tX6_readFact_70, tX6_readFact_73, tX6_readFact_74, tX6_readFact_75, tX6_readFact_76, tX6_readFact_77, tX6_readFact_80, tX6_readFact_81, tX6_readFact_83, tX6_readFact_86, tX6_readFact_89, tX6_readFact_90, tX6_readFact_91, tX6_readFact_94, tX6_readFact_95, tX6_readFact_98, tX6_readFact_99, tX6_readFact_100, tX6_readFact_103, tX6_readFact_106, tX6_readFact_107, tX6_readFact_108, tX6_readFact_111, tX6_readFact_112, tX6_readFact_115, tX6_readFact_116, tX6_readFact_119, jK_some, jK_none, jc1_int, jc1_ref, jc1_none, jc1_long, jc1_null, jc1_rf, va_rf_some, va_rf_none, mI_cI, mL_cL, mR_cR, cI_cI, cL_cL, jup_eq, jne_1, jne_2, Nat.add_left_cancel_iff, mL_cI, mR_cI, mS_cI, mN_cI, mI_cL, mR_cL, mS_cL, mN_cL, mI_cR, mL_cR, mS_cR, mN_cR, true_and, and_true, true_or, or_true, if_true, if_false, jBool_0, jBool_1, Nat.le_refl, Nat.reduceLeDiff, Nat.reduceEqDiff, Nat.reduceAdd, Nat.reduceSub, reduceIte, Int32.reduceLT, Int32.reduceLE, ne_eq, not_false_eq_true, not_true_eq_false, false_or, or_false, and_false, false_and, reduceCtorEq, jn_4, jn_6, jn_8, jn_9, jn_12, jn_60, jn_100, jn_200, jn_400, jn_600, jn_601, jn_3600, jI_4, jI_6, jI_8, jI_9, jI_12, jI_60, jI_100, jI_200, jI_400, jI_600, jI_601, jI_3600, va_cpy_00, jx_0, jx_6, jx_12, jx_400, jx_600, nI_1, rM_S, rM_R, b1, b2, b3, b4, b5, x_nextByte h hk.1, rM_at, x_isWord (s := (rSk T s.1, s.2)) h h1.1, e1, e5, h4, h6, rM_found, e6, h8, w1]
      · rw [if_neg e6]
        refine ⟨h5, fun Q => ?_⟩
        rw [nX6_readFact]
        simp (config := {decide := true}) (disch := first | omega | assumption | (simp only [mS_cL, mS_cI, mS_cR, mR_cL, mR_cI]; first | assumption | exact hcr _ | fail)) only [tX6_readFact_0, tX6_readFact_1, tX6_readFact_4, tX6_readFact_5, tX6_readFact_6, tX6_readFact_8, tX6_readFact_11, tX6_readFact_14, tX6_readFact_15, tX6_readFact_16, tX6_readFact_19, tX6_readFact_22, tX6_readFact_23, tX6_readFact_24, tX6_readFact_27, tX6_readFact_30, tX6_readFact_31, tX6_readFact_32, tX6_readFact_33, tX6_readFact_34, tX6_readFact_37, tX6_readFact_38, tX6_readFact_41, tX6_readFact_43, tX6_readFact_46, tX6_readFact_49, tX6_readFact_50, tX6_readFact_52, tX6_readFact_55, tX6_readFact_56, tX6_readFact_57, tX6_readFact_60, tX6_readFact_63, tX6_readFact_64, tX6_readFact_65, tX6_readFact_68, tX6_readFact_69, tX6_readFact_70, tX6_readFact_73, tX6_readFact_74, tX6_readFact_75, tX6_readFact_76, tX6_readFact_77, tX6_readFact_80, tX6_readFact_81, tX6_readFact_83, tX6_readFact_86, tX6_readFact_89, tX6_readFact_90, tX6_readFact_91, tX6_readFact_94, tX6_readFact_95, tX6_readFact_98, tX6_readFact_99, tX6_readFact_100, tX6_readFact_103, tX6_readFact_106, tX6_readFact_107, tX6_readFact_108, tX6_readFact_111, tX6_readFact_112, tX6_readFact_115, tX6_readFact_116, tX6_readFact_119, jK_some, jK_none, jc1_int, jc1_ref, jc1_none, jc1_long, jc1_null, jc1_rf, va_rf_some, va_rf_none, mI_cI, mL_cL, mR_cR, cI_cI, cL_cL, jup_eq, jne_1, jne_2, Nat.add_left_cancel_iff, mL_cI, mR_cI, mS_cI, mN_cI, mI_cL, mR_cL, mS_cL, mN_cL, mI_cR, mL_cR, mS_cR, mN_cR, true_and, and_true, true_or, or_true, if_true, if_false, jBool_0, jBool_1, Nat.le_refl, Nat.reduceLeDiff, Nat.reduceEqDiff, Nat.reduceAdd, Nat.reduceSub, reduceIte, Int32.reduceLT, Int32.reduceLE, ne_eq, not_false_eq_true, not_true_eq_false, false_or, or_false, and_false, false_and, reduceCtorEq, jn_4, jn_6, jn_8, jn_9, jn_12, jn_60, jn_100, jn_200, jn_400, jn_600, jn_601, jn_3600, jI_4, jI_6, jI_8, jI_9, jI_12, jI_60, jI_100, jI_200, jI_400, jI_600, jI_601, jI_3600, va_cpy_00, jx_0, jx_6, jx_12, jx_400, jx_600, nI_1, rM_S, rM_R, b1, b2, b3, b4, b5, x_nextByte h hk.1, rM_at, x_isWord (s := (rSk T s.1, s.2)) h h1.1, e1, e5, h4, h6, rM_found, e6]
theorem rWordL_ok {w : List Int32} (h : XB B T z) (hsub : ∀ s, rOk z s → rOk z (sub s)) : ∀ n s, rOk z s → rOk z (rWordL T w x sub n s)
  | 0, s, hs => hs
  | n + 1, s, hs => by
    unfold rWordL
    split
    · exact rWordL_ok h hsub n _ (rPut_ok (hsub _ ⟨rEnd_z h (rSk_z h hs.1), hs.2⟩))
    · exact ⟨rSk_z h hs.1, hs.2⟩
theorem x_readPart (h : XB B T z) (hi : Xc B z (e + 4) 96 dp sub) : Xc B z (e + 5) 95 dp (rPart T sub) := by
  intro s hs
  obtain ⟨b1, b2, b3, b4, b5, b6, b7, b8⟩ := id h
  refine ⟨rWordL_ok h (fun s hs => (hi s hs).1) 400 _ (hi s hs).1, fun Q => ?_⟩
  have key : ∀ n r s, r + n = 400 → rOk z s → (AW (e + 4) 95 7 [some (.ref 1), some (.int (nI dp)), some (.int (nI r))] [] (rM B s) Q ↔ Q none (rM B (rWordL T (jW 14) (-21) sub n s))) := by
    intro n
    induction n with
    | zero =>
      intro r s hr hs
      rw [tX6_readPart_7, show r = 400 by omega]
      simp (config := {decide := true}) (disch := first | omega | assumption | (simp only [mS_cL, mS_cI, mS_cR, mR_cL, mR_cI]; first | assumption | exact hcr _ | fail)) only [tX6_readPart_0, tX6_readPart_1, tX6_readPart_2, tX6_readPart_5, tX6_readPart_6, tX6_readPart_8, tX6_readPart_11, tX6_readPart_14, tX6_readPart_15, tX6_readPart_17, tX6_readPart_20, tX6_readPart_23, tX6_readPart_24, tX6_readPart_25, tX6_readPart_28, tX6_readPart_29, tX6_readPart_32, tX6_readPart_34, tX6_readPart_37, tX6_readPart_40, tX6_readPart_43, jK_some, jK_none, jc1_int, jc1_ref, jc1_none, jc1_long, jc1_null, jc1_rf, va_rf_some, va_rf_none, mI_cI, mL_cL, mR_cR, cI_cI, cL_cL, jup_eq, jne_1, jne_2, Nat.add_left_cancel_iff, mL_cI, mR_cI, mS_cI, mN_cI, mI_cL, mR_cL, mS_cL, mN_cL, mI_cR, mL_cR, mS_cR, mN_cR, true_and, and_true, true_or, or_true, if_true, if_false, jBool_0, jBool_1, Nat.le_refl, Nat.reduceLeDiff, Nat.reduceEqDiff, Nat.reduceAdd, Nat.reduceSub, reduceIte, Int32.reduceLT, Int32.reduceLE, ne_eq, not_false_eq_true, not_true_eq_false, false_or, or_false, and_false, false_and, reduceCtorEq, jn_4, jn_6, jn_8, jn_9, jn_12, jn_60, jn_100, jn_200, jn_400, jn_600, jn_601, jn_3600, jI_4, jI_6, jI_8, jI_9, jI_12, jI_60, jI_100, jI_200, jI_400, jI_600, jI_601, jI_3600, va_cpy_00, jx_0, jx_6, jx_12, jx_400, jx_600, nI_1]
      exact Iff.rfl
    | succ n ih =>
      intro r s hr hs
      unfold rWordL
      rw [tX6_readPart_7]
      have h2 : rOk z (rEnd T (rSk T s.1), s.2) := ⟨rEnd_z h (rSk_z h hs.1), hs.2⟩
      obtain ⟨h3, h4⟩ := hi _ h2
      have w1 := fun Q => x_write (d := e + 3) (x := -21) (Q := Q) h h3.2
      have hw := fun t ht Q => x_takesWord (d := e + 1) (s := s) (t := t) (Q := Q) h hs.1 ht
      by_cases e1 : rTW T (jW 14) s = true
      · rw [if_pos e1, ← ih (r + 1) _ (by omega) (rPut_ok h3)]
        simp (config := {decide := true}) (disch := first | omega | assumption | (simp only [mS_cL, mS_cI, mS_cR, mR_cL, mR_cI]; first | assumption | exact hcr _ | fail)) only [tX6_readPart_0, tX6_readPart_1, tX6_readPart_2, tX6_readPart_5, tX6_readPart_6, tX6_readPart_8, tX6_readPart_11, tX6_readPart_14, tX6_readPart_15, tX6_readPart_17, tX6_readPart_20, tX6_readPart_23, tX6_readPart_24, tX6_readPart_25, tX6_readPart_28, tX6_readPart_29, tX6_readPart_32, tX6_readPart_34, tX6_readPart_37, tX6_readPart_40, tX6_readPart_43, jK_some, jK_none, jc1_int, jc1_ref, jc1_none, jc1_long, jc1_null, jc1_rf, va_rf_some, va_rf_none, mI_cI, mL_cL, mR_cR, cI_cI, cL_cL, jup_eq, jne_1, jne_2, Nat.add_left_cancel_iff, mL_cI, mR_cI, mS_cI, mN_cI, mI_cL, mR_cL, mS_cL, mN_cL, mI_cR, mL_cR, mS_cR, mN_cR, true_and, and_true, true_or, or_true, if_true, if_false, jBool_0, jBool_1, Nat.le_refl, Nat.reduceLeDiff, Nat.reduceEqDiff, Nat.reduceAdd, Nat.reduceSub, reduceIte, Int32.reduceLT, Int32.reduceLE, ne_eq, not_false_eq_true, not_true_eq_false, false_or, or_false, and_false, false_and, reduceCtorEq, jn_4, jn_6, jn_8, jn_9, jn_12, jn_60, jn_100, jn_200, jn_400, jn_600, jn_601, jn_3600, jI_4, jI_6, jI_8, jI_9, jI_12, jI_60, jI_100, jI_200, jI_400, jI_600, jI_601, jI_3600, va_cpy_00, jx_0, jx_6, jx_12, jx_400, jx_600, nI_1, nx_5e, nx_l6, nx_l12, nx_l100, nx_l200, nx_l400, nx_l600, nx_l601, nx_l3600, nx_pos, nx_posN, nx_neg1, nx_m1neg, nx_leF, nx_leT, nx_ltF, nx_ltT, nx_mul6, nI_add, nI_1, jx_nI, nx_4, nx_g4, nx_6, nx_g6, nx_8, nx_g8, nx_9, nx_g9, nx_12, nx_g12, nx_14, nx_g14, nx_60, nx_g60, nx_100, nx_g100, nx_200, nx_g200, nx_400, nx_g400, nx_600, nx_g600, nx_601, nx_g601, nx_3600, nx_g3600, rM_S, rM_R, b1, b2, b3, b4, b5, hw, e1, h4, w1]
      · rw [if_neg e1]
        simp (config := {decide := true}) (disch := first | omega | assumption | (simp only [mS_cL, mS_cI, mS_cR, mR_cL, mR_cI]; first | assumption | exact hcr _ | fail)) only [tX6_readPart_0, tX6_readPart_1, tX6_readPart_2, tX6_readPart_5, tX6_readPart_6, tX6_readPart_8, tX6_readPart_11, tX6_readPart_14, tX6_readPart_15, tX6_readPart_17, tX6_readPart_20, tX6_readPart_23, tX6_readPart_24, tX6_readPart_25, tX6_readPart_28, tX6_readPart_29, tX6_readPart_32, tX6_readPart_34, tX6_readPart_37, tX6_readPart_40, tX6_readPart_43, jK_some, jK_none, jc1_int, jc1_ref, jc1_none, jc1_long, jc1_null, jc1_rf, va_rf_some, va_rf_none, mI_cI, mL_cL, mR_cR, cI_cI, cL_cL, jup_eq, jne_1, jne_2, Nat.add_left_cancel_iff, mL_cI, mR_cI, mS_cI, mN_cI, mI_cL, mR_cL, mS_cL, mN_cL, mI_cR, mL_cR, mS_cR, mN_cR, true_and, and_true, true_or, or_true, if_true, if_false, jBool_0, jBool_1, Nat.le_refl, Nat.reduceLeDiff, Nat.reduceEqDiff, Nat.reduceAdd, Nat.reduceSub, reduceIte, Int32.reduceLT, Int32.reduceLE, ne_eq, not_false_eq_true, not_true_eq_false, false_or, or_false, and_false, false_and, reduceCtorEq, jn_4, jn_6, jn_8, jn_9, jn_12, jn_60, jn_100, jn_200, jn_400, jn_600, jn_601, jn_3600, jI_4, jI_6, jI_8, jI_9, jI_12, jI_60, jI_100, jI_200, jI_400, jI_600, jI_601, jI_3600, va_cpy_00, jx_0, jx_6, jx_12, jx_400, jx_600, nI_1, nx_5e, nx_l6, nx_l12, nx_l100, nx_l200, nx_l400, nx_l600, nx_l601, nx_l3600, nx_pos, nx_posN, nx_neg1, nx_m1neg, nx_leF, nx_leT, nx_ltF, nx_ltT, nx_mul6, nI_add, nI_1, jx_nI, nx_4, nx_g4, nx_6, nx_g6, nx_8, nx_g8, nx_9, nx_g9, nx_12, nx_g12, nx_14, nx_g14, nx_60, nx_g60, nx_100, nx_g100, nx_200, nx_g200, nx_400, nx_g400, nx_600, nx_g600, nx_601, nx_g601, nx_3600, nx_g3600, rM_S, rM_R, b1, b2, b3, b4, b5, hw, e1]
  rw [nX6_readPart]
  simp (config := {decide := true}) (disch := first | omega | assumption | (simp only [mS_cL, mS_cI, mS_cR, mR_cL, mR_cI]; first | assumption | exact hcr _ | fail)) only [tX6_readPart_0, tX6_readPart_1, tX6_readPart_2, tX6_readPart_5, tX6_readPart_6, tX6_readPart_8, tX6_readPart_11, tX6_readPart_14, tX6_readPart_15, tX6_readPart_17, tX6_readPart_20, tX6_readPart_23, tX6_readPart_24, tX6_readPart_25, tX6_readPart_28, tX6_readPart_29, tX6_readPart_32, tX6_readPart_34, tX6_readPart_37, tX6_readPart_40, tX6_readPart_43, jK_some, jK_none, jc1_int, jc1_ref, jc1_none, jc1_long, jc1_null, jc1_rf, va_rf_some, va_rf_none, mI_cI, mL_cL, mR_cR, cI_cI, cL_cL, jup_eq, jne_1, jne_2, Nat.add_left_cancel_iff, mL_cI, mR_cI, mS_cI, mN_cI, mI_cL, mR_cL, mS_cL, mN_cL, mI_cR, mL_cR, mS_cR, mN_cR, true_and, and_true, true_or, or_true, if_true, if_false, jBool_0, jBool_1, Nat.le_refl, Nat.reduceLeDiff, Nat.reduceEqDiff, Nat.reduceAdd, Nat.reduceSub, reduceIte, Int32.reduceLT, Int32.reduceLE, ne_eq, not_false_eq_true, not_true_eq_false, false_or, or_false, and_false, false_and, reduceCtorEq, jn_4, jn_6, jn_8, jn_9, jn_12, jn_60, jn_100, jn_200, jn_400, jn_600, jn_601, jn_3600, jI_4, jI_6, jI_8, jI_9, jI_12, jI_60, jI_100, jI_200, jI_400, jI_600, jI_601, jI_3600, va_cpy_00, jx_0, jx_6, jx_12, jx_400, jx_600, nI_1, rM_S, b1, (hi s hs).2]
  exact key 400 0 _ rfl (hi s hs).1
theorem x_readTest (h : XB B T z) (hi : Xc B z (e + 5) 95 dp sub) : Xc B z (e + 6) 94 dp (fun s => rWordL T (jW 15) (-22) sub 400 (sub s)) := by
  intro s hs
  obtain ⟨b1, b2, b3, b4, b5, b6, b7, b8⟩ := id h
  refine ⟨rWordL_ok h (fun s hs => (hi s hs).1) 400 _ (hi s hs).1, fun Q => ?_⟩
  have key : ∀ n r s, r + n = 400 → rOk z s → (AW (e + 5) 94 7 [some (.ref 1), some (.int (nI dp)), some (.int (nI r))] [] (rM B s) Q ↔ Q none (rM B (rWordL T (jW 15) (-22) sub n s))) := by
    intro n
    induction n with
    | zero =>
      intro r s hr hs
      rw [tX6_readTest_7, show r = 400 by omega]
      simp (config := {decide := true}) (disch := first | omega | assumption | (simp only [mS_cL, mS_cI, mS_cR, mR_cL, mR_cI]; first | assumption | exact hcr _ | fail)) only [tX6_readTest_0, tX6_readTest_1, tX6_readTest_2, tX6_readTest_5, tX6_readTest_6, tX6_readTest_8, tX6_readTest_11, tX6_readTest_14, tX6_readTest_15, tX6_readTest_17, tX6_readTest_20, tX6_readTest_23, tX6_readTest_24, tX6_readTest_25, tX6_readTest_28, tX6_readTest_29, tX6_readTest_32, tX6_readTest_34, tX6_readTest_37, tX6_readTest_40, tX6_readTest_43, jK_some, jK_none, jc1_int, jc1_ref, jc1_none, jc1_long, jc1_null, jc1_rf, va_rf_some, va_rf_none, mI_cI, mL_cL, mR_cR, cI_cI, cL_cL, jup_eq, jne_1, jne_2, Nat.add_left_cancel_iff, mL_cI, mR_cI, mS_cI, mN_cI, mI_cL, mR_cL, mS_cL, mN_cL, mI_cR, mL_cR, mS_cR, mN_cR, true_and, and_true, true_or, or_true, if_true, if_false, jBool_0, jBool_1, Nat.le_refl, Nat.reduceLeDiff, Nat.reduceEqDiff, Nat.reduceAdd, Nat.reduceSub, reduceIte, Int32.reduceLT, Int32.reduceLE, ne_eq, not_false_eq_true, not_true_eq_false, false_or, or_false, and_false, false_and, reduceCtorEq, jn_4, jn_6, jn_8, jn_9, jn_12, jn_60, jn_100, jn_200, jn_400, jn_600, jn_601, jn_3600, jI_4, jI_6, jI_8, jI_9, jI_12, jI_60, jI_100, jI_200, jI_400, jI_600, jI_601, jI_3600, va_cpy_00, jx_0, jx_6, jx_12, jx_400, jx_600, nI_1]
      exact Iff.rfl
    | succ n ih =>
      intro r s hr hs
      unfold rWordL
      rw [tX6_readTest_7]
      have h2 : rOk z (rEnd T (rSk T s.1), s.2) := ⟨rEnd_z h (rSk_z h hs.1), hs.2⟩
      obtain ⟨h3, h4⟩ := hi _ h2
      have w1 := fun Q => x_write (d := e + 4) (x := -22) (Q := Q) h h3.2
      have hw := fun t ht Q => x_takesWord (d := e + 2) (s := s) (t := t) (Q := Q) h hs.1 ht
      by_cases e1 : rTW T (jW 15) s = true
      · rw [if_pos e1, ← ih (r + 1) _ (by omega) (rPut_ok h3)]
        simp (config := {decide := true}) (disch := first | omega | assumption | (simp only [mS_cL, mS_cI, mS_cR, mR_cL, mR_cI]; first | assumption | exact hcr _ | fail)) only [tX6_readTest_0, tX6_readTest_1, tX6_readTest_2, tX6_readTest_5, tX6_readTest_6, tX6_readTest_8, tX6_readTest_11, tX6_readTest_14, tX6_readTest_15, tX6_readTest_17, tX6_readTest_20, tX6_readTest_23, tX6_readTest_24, tX6_readTest_25, tX6_readTest_28, tX6_readTest_29, tX6_readTest_32, tX6_readTest_34, tX6_readTest_37, tX6_readTest_40, tX6_readTest_43, jK_some, jK_none, jc1_int, jc1_ref, jc1_none, jc1_long, jc1_null, jc1_rf, va_rf_some, va_rf_none, mI_cI, mL_cL, mR_cR, cI_cI, cL_cL, jup_eq, jne_1, jne_2, Nat.add_left_cancel_iff, mL_cI, mR_cI, mS_cI, mN_cI, mI_cL, mR_cL, mS_cL, mN_cL, mI_cR, mL_cR, mS_cR, mN_cR, true_and, and_true, true_or, or_true, if_true, if_false, jBool_0, jBool_1, Nat.le_refl, Nat.reduceLeDiff, Nat.reduceEqDiff, Nat.reduceAdd, Nat.reduceSub, reduceIte, Int32.reduceLT, Int32.reduceLE, ne_eq, not_false_eq_true, not_true_eq_false, false_or, or_false, and_false, false_and, reduceCtorEq, jn_4, jn_6, jn_8, jn_9, jn_12, jn_60, jn_100, jn_200, jn_400, jn_600, jn_601, jn_3600, jI_4, jI_6, jI_8, jI_9, jI_12, jI_60, jI_100, jI_200, jI_400, jI_600, jI_601, jI_3600, va_cpy_00, jx_0, jx_6, jx_12, jx_400, jx_600, nI_1, nx_5e, nx_l6, nx_l12, nx_l100, nx_l200, nx_l400, nx_l600, nx_l601, nx_l3600, nx_pos, nx_posN, nx_neg1, nx_m1neg, nx_leF, nx_leT, nx_ltF, nx_ltT, nx_mul6, nI_add, nI_1, jx_nI, nx_4, nx_g4, nx_6, nx_g6, nx_8, nx_g8, nx_9, nx_g9, nx_12, nx_g12, nx_14, nx_g14, nx_60, nx_g60, nx_100, nx_g100, nx_200, nx_g200, nx_400, nx_g400, nx_600, nx_g600, nx_601, nx_g601, nx_3600, nx_g3600, rM_S, rM_R, b1, b2, b3, b4, b5, hw, e1, h4, w1]
      · rw [if_neg e1]
        simp (config := {decide := true}) (disch := first | omega | assumption | (simp only [mS_cL, mS_cI, mS_cR, mR_cL, mR_cI]; first | assumption | exact hcr _ | fail)) only [tX6_readTest_0, tX6_readTest_1, tX6_readTest_2, tX6_readTest_5, tX6_readTest_6, tX6_readTest_8, tX6_readTest_11, tX6_readTest_14, tX6_readTest_15, tX6_readTest_17, tX6_readTest_20, tX6_readTest_23, tX6_readTest_24, tX6_readTest_25, tX6_readTest_28, tX6_readTest_29, tX6_readTest_32, tX6_readTest_34, tX6_readTest_37, tX6_readTest_40, tX6_readTest_43, jK_some, jK_none, jc1_int, jc1_ref, jc1_none, jc1_long, jc1_null, jc1_rf, va_rf_some, va_rf_none, mI_cI, mL_cL, mR_cR, cI_cI, cL_cL, jup_eq, jne_1, jne_2, Nat.add_left_cancel_iff, mL_cI, mR_cI, mS_cI, mN_cI, mI_cL, mR_cL, mS_cL, mN_cL, mI_cR, mL_cR, mS_cR, mN_cR, true_and, and_true, true_or, or_true, if_true, if_false, jBool_0, jBool_1, Nat.le_refl, Nat.reduceLeDiff, Nat.reduceEqDiff, Nat.reduceAdd, Nat.reduceSub, reduceIte, Int32.reduceLT, Int32.reduceLE, ne_eq, not_false_eq_true, not_true_eq_false, false_or, or_false, and_false, false_and, reduceCtorEq, jn_4, jn_6, jn_8, jn_9, jn_12, jn_60, jn_100, jn_200, jn_400, jn_600, jn_601, jn_3600, jI_4, jI_6, jI_8, jI_9, jI_12, jI_60, jI_100, jI_200, jI_400, jI_600, jI_601, jI_3600, va_cpy_00, jx_0, jx_6, jx_12, jx_400, jx_600, nI_1, nx_5e, nx_l6, nx_l12, nx_l100, nx_l200, nx_l400, nx_l600, nx_l601, nx_l3600, nx_pos, nx_posN, nx_neg1, nx_m1neg, nx_leF, nx_leT, nx_ltF, nx_ltT, nx_mul6, nI_add, nI_1, jx_nI, nx_4, nx_g4, nx_6, nx_g6, nx_8, nx_g8, nx_9, nx_g9, nx_12, nx_g12, nx_14, nx_g14, nx_60, nx_g60, nx_100, nx_g100, nx_200, nx_g200, nx_400, nx_g400, nx_600, nx_g600, nx_601, nx_g601, nx_3600, nx_g3600, rM_S, rM_R, b1, b2, b3, b4, b5, hw, e1]
  rw [nX6_readTest]
  simp (config := {decide := true}) (disch := first | omega | assumption | (simp only [mS_cL, mS_cI, mS_cR, mR_cL, mR_cI]; first | assumption | exact hcr _ | fail)) only [tX6_readTest_0, tX6_readTest_1, tX6_readTest_2, tX6_readTest_5, tX6_readTest_6, tX6_readTest_8, tX6_readTest_11, tX6_readTest_14, tX6_readTest_15, tX6_readTest_17, tX6_readTest_20, tX6_readTest_23, tX6_readTest_24, tX6_readTest_25, tX6_readTest_28, tX6_readTest_29, tX6_readTest_32, tX6_readTest_34, tX6_readTest_37, tX6_readTest_40, tX6_readTest_43, jK_some, jK_none, jc1_int, jc1_ref, jc1_none, jc1_long, jc1_null, jc1_rf, va_rf_some, va_rf_none, mI_cI, mL_cL, mR_cR, cI_cI, cL_cL, jup_eq, jne_1, jne_2, Nat.add_left_cancel_iff, mL_cI, mR_cI, mS_cI, mN_cI, mI_cL, mR_cL, mS_cL, mN_cL, mI_cR, mL_cR, mS_cR, mN_cR, true_and, and_true, true_or, or_true, if_true, if_false, jBool_0, jBool_1, Nat.le_refl, Nat.reduceLeDiff, Nat.reduceEqDiff, Nat.reduceAdd, Nat.reduceSub, reduceIte, Int32.reduceLT, Int32.reduceLE, ne_eq, not_false_eq_true, not_true_eq_false, false_or, or_false, and_false, false_and, reduceCtorEq, jn_4, jn_6, jn_8, jn_9, jn_12, jn_60, jn_100, jn_200, jn_400, jn_600, jn_601, jn_3600, jI_4, jI_6, jI_8, jI_9, jI_12, jI_60, jI_100, jI_200, jI_400, jI_600, jI_601, jI_3600, va_cpy_00, jx_0, jx_6, jx_12, jx_400, jx_600, nI_1, rM_S, b1, (hi s hs).2]
  exact key 400 0 _ rfl (hi s hs).1
theorem x_fact (h : XB B T z) : ∀ k e dp, dp + k = 10 → Xc B z (e + 7 + 3 * k) 96 dp (rFact T (mI B 1 2) k)
  | 0, e, dp, hk => by
    have hd : dp = 10 := by omega
    subst hd
    exact x_readFact (e := e + 3) h (Nat.le_refl _) (x_sum h 0 e 10 rfl) (fun hx => absurd hx (by decide)) (fun hx => absurd hx (by decide))
  | k + 1, e, dp, hk => by
    have hd : dp = 10 - (k + 1) := by omega
    have i1 := x_fact h k (e + 2) (dp + 1) (by omega)
    have i2 := x_readTest h (x_readPart (e := e + 3 + 3 * k) h (by have := x_fact h k e (dp + 1) (by omega); rw [show e + 7 + 3 * k = e + 3 + 3 * k + 4 by omega] at this; exact this))
    have i3 := x_sum h (k + 1) e dp (by omega)
    have e1 : e + 2 + 7 + 3 * k = (e + 6 + 3 * k) + 3 := by omega
    have e2 : e + 3 + 3 * k + 6 = (e + 6 + 3 * k) + 3 := by omega
    have e3 : e + 6 + 3 * (k + 1) = (e + 6 + 3 * k) + 3 := by omega
    have e4 : e + 7 + 3 * (k + 1) = (e + 6 + 3 * k) + 4 := by omega
    rw [e1] at i1
    rw [e2] at i2
    rw [e3] at i3
    rw [e4]
    have := x_readFact h (by omega) i3 (fun _ => i1) (fun _ => i2)
    unfold rFact
    rw [← hd]
    exact this
theorem x_test (h : XB B T z) {k : Nat} (hk : dp + k = 10) : Xc B z (e + 9 + 3 * k) 94 dp (rTest T (rFact T (mI B 1 2) k)) := by
  have := x_readTest h (x_readPart (e := e + 3 + 3 * k) h (by have := x_fact h k e dp hk; rw [show e + 7 + 3 * k = e + 3 + 3 * k + 4 by omega] at this; exact this))
  rw [show e + 9 + 3 * k = e + 3 + 3 * k + 6 by omega]
  exact this
end RDW
