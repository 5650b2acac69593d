/-! ===== X's reader: values, terms, sums ===== -/
def rOk (z : Nat) (s : RS) : Prop := s.1 ≤ z ∧ s.2.2.2.1 ≤ 400
def rVal (T : Nat → Int32) (u : Int32) (dp : Nat) (inner : RS → RS) (s : RS) : RS :=
  if T (rSk T s.1) = 40 then (if (rOp dp (rSk T s.1, s.2)).2.2.1 = 0 then rExp T 41 (inner (rSk T s.1 + 1, (rOp dp (rSk T s.1, s.2)).2)) else rOp dp (rSk T s.1, s.2))
  else if rDig (T (rSk T s.1)) then rTold (rPut (rNum T 99999 (rSk T s.1, s.2)) (rNm T (rSk T s.1)).2) (rSk T s.1)
  else rTold (rEnd T (rSk T s.1), (rPut (rWs T u (rSk T s.1, s.2)) (-1 - nI (rWn T (rSk T s.1)))).2) (rSk T s.1)
def rBinL (T : Nat → Int32) (a x b y : Int32) (sub : RS → RS) : Nat → RS → RS
  | 0, s => s
  | n + 1, s => if s.2.2.1 = 0 then
      (if T (rSk T s.1) = a then rBinL T a x b y sub n (rPut (sub (rSk T s.1 + 1, s.2)) x)
       else if T (rSk T s.1) = b then rBinL T a x b y sub n (rPut (sub (rSk T s.1 + 1, s.2)) y) else (rSk T s.1, s.2)) else s
def rTerm (T : Nat → Int32) (u : Int32) (dp : Nat) (inner : RS → RS) (s : RS) : RS := rBinL T 42 (-13) 47 (-14) (rVal T u dp inner) 400 (rVal T u dp inner s)
def rSumW (T : Nat → Int32) (u : Int32) (dp : Nat) (inner : RS → RS) (s : RS) : RS := rBinL T 43 (-11) 45 (-12) (rTerm T u dp inner) 400 (rTerm T u dp inner s)
/-- a SUM at depth dp, k brackets may still be opened (dp + k = 10) -/
def rSum (T : Nat → Int32) (u : Int32) : Nat → RS → RS
  | 0 => rSumW T u 10 id
  | k + 1 => rSumW T u (10 - (k + 1)) (rSum T u k)
/-- a method of the reader does what g says -/
def Xc (B : jmM) (z e j dp : Nat) (g : RS → RS) : Prop := ∀ s, rOk z s → rOk z (g s) ∧ ∀ Q : Option Value → jmM → Prop, CC e j [.ref 1, .int (nI dp)] (rM B s) Q ↔ Q none (rM B (g s))
theorem rPut_1 {s : RS} {x : Int32} : (rPut s x).1 = s.1 := by unfold rPut; split <;> rfl
theorem rPut_f {s : RS} {x : Int32} : (rPut s x).2.2.1 = s.2.2.1 := by unfold rPut; split <;> rfl
theorem rPut_k {s : RS} {x : Int32} (h : s.2.2.2.1 ≤ 400) : (rPut s x).2.2.2.1 ≤ 400 := by
  unfold rPut; split
  · show s.2.2.2.1 + 1 ≤ 400; omega
  · exact h
theorem rPut_ok {z : Nat} {s : RS} {x : Int32} (h : rOk z s) : rOk z (rPut s x) := ⟨by rw [rPut_1]; exact h.1, rPut_k h.2⟩
theorem rFail_ok {z p : Nat} {s : RS} {k : Int32} (h : rOk z s) : rOk z (rFail s p k) := ⟨by rw [rFail_1]; exact h.1, by rw [rFail_k]; exact h.2⟩
theorem rTold_ok {z p : Nat} {s : RS} (h : rOk z s) : rOk z (rTold s p) := ⟨by rw [rTold_1]; exact h.1, by rw [rTold_k]; exact h.2⟩
theorem rOp_ok {z dp : Nat} {s : RS} (h : rOk z s) : rOk z (rOp dp s) := by
  unfold rOp; split
  · exact rFail_ok h
  · exact h
theorem rOp_1 {dp : Nat} {s : RS} : (rOp dp s).1 = s.1 := by
  unfold rOp; split
  · exact rFail_1
  · rfl
theorem rNum_k {T : Nat → Int32} {x : Int32} {s : RS} : (rNum T x s).2.2.2 = s.2.2.2 := by
  unfold rNum; split
  · exact rFail_k
  · split
    · exact rFail_k
    · rfl
theorem rNum_1 {T : Nat → Int32} {x : Int32} {s : RS} : (rNum T x s).1 = s.1 + (rNm T s.1).1 := by
  unfold rNum; split
  · exact rFail_1
  · split
    · exact rFail_1
    · rfl
theorem rWs_k {T : Nat → Int32} {u : Int32} {s : RS} : (rWs T u s).2.2.2 = s.2.2.2 := by
  unfold rWs; split
  · exact rFail_k
  · rfl
theorem rWs_1 {T : Nat → Int32} {u : Int32} {s : RS} : (rWs T u s).1 = s.1 := by
  unfold rWs; split
  · exact rFail_1
  · rfl
theorem k8 {p : Nat} (hp : p ≤ 1000) : ∀ k, k < 8 → 1 + 8 * nI p + nI k = nI (1 + 8 * p + k) := by
  intro k hk
  rw [show (8 : Int32) = nI 8 from rfl, nx_mul, show (1 : Int32) = nI 1 from rfl, nI_add, nI_add]
theorem rFail_f {s : RS} {p k : Nat} (hp : p ≤ 1000) (hk : k < 8) : (rFail s p (nI k)).2.2.1 ≠ 0 := by
  unfold rFail; split
  · show 1 + 8 * nI p + nI k ≠ 0
    rw [k8 hp k hk]; exact nI_ne0 (by omega) (by omega)
  · assumption
theorem rOp_f {s : RS} {dp : Nat} (hs : s.1 ≤ 1000) (h : (rOp dp s).2.2.1 = 0) : dp < 10 ∧ rOp dp s = s := by
  unfold rOp at *
  by_cases hd : 10 ≤ dp
  · rw [if_pos hd] at h; exact absurd h (rFail_f (k := 2) hs (by decide))
  · exact ⟨by omega, if_neg hd⟩
section RDZ
variable {e : Nat} {B : jmM} {T : Nat → Int32} {z : Nat} {s : RS} {a b x y : Int32} {i t dp : Nat} {Q : Option Value → jmM → Prop} {inner sub : RS → RS}
theorem rExp_ok (h : XB B T z) (hx : x ≠ -1) (hs : rOk z s) : rOk z (rExp T x s) := by
  have h1 := rSk_z h hs.1
  unfold rExp; split
  · next e => exact ⟨T_lt h (by rw [e]; exact hx), hs.2⟩
  · exact rFail_ok ⟨h1, hs.2⟩
theorem x_readValue (h : XB B T z) (hd : dp ≤ 10) (hi : dp < 10 → Xc B z (e + 3) 99 (dp + 1) inner) : Xc B z (e + 4) 101 dp (rVal T (mI B 1 2) dp inner) := by
  intro s hs
  obtain ⟨b1, b2, b3, b4, b5, b6, b7, b8⟩ := id h
  have h1 : rOk z (rSk T s.1, s.2) := ⟨rSk_z h hs.1, hs.2⟩
  have hn := rNm_z (i := rSk T s.1) h 400 0 0 h1.1
  have hn : rSk T s.1 + (rNm T (rSk T s.1)).1 ≤ z := hn
  have w1 : ∀ x (Q : Option Value → jmM → Prop), CC (e + 3) 27 [.ref 4, .int x] (rM B (rNum T 99999 (rSk T s.1, s.2))) Q ↔ _ := fun x Q => x_write (d := e + 2) h (by rw [rNum_k]; exact hs.2)
  have w2 : ∀ x (Q : Option Value → jmM → Prop), CC (e + 3) 27 [.ref 4, .int x] (rM B (rWs T (mI B 1 2) (rSk T s.1, s.2))) Q ↔ _ := fun x Q => x_write (d := e + 2) h (by rw [rWs_k]; exact hs.2)
  have v2 : ∀ x (Q : Option Value → jmM → Prop), CC (e + 3) 109 [.ref 1] (rM B (rPut (rWs T (mI B 1 2) (rSk T s.1, s.2)) x)) Q ↔ _ := fun x Q => x_wordEnd (d := e + 1) h (by rw [rPut_1, rWs_1]; exact h1.1)
  unfold rVal
  by_cases e1 : T (rSk T s.1) = 40
  · rw [if_pos e1]
    by_cases e2 : (rOp dp (rSk T s.1, s.2)).2.2.1 = 0
    · obtain ⟨hd2, e3⟩ := rOp_f (s := (rSk T s.1, s.2)) (show rSk T s.1 ≤ 1000 by have := h1.1; have : rSk T s.1 ≤ z := this; omega) e2
      have h2 : rOk z (rSk T s.1 + 1, s.2) := ⟨T_lt h (by rw [e1]; decide), hs.2⟩
      obtain ⟨h3, h4⟩ := hi hd2 _ h2
      rw [if_pos e2, e3]
      rw [e3] at e2
      have e4 : s.2.2.1 = 0 := e2
      refine ⟨rExp_ok h (by decide) h3, fun Q => ?_⟩
      have h5 := fun Q => x_expect (d := e) (x := 41) (Q := Q) h h3.1
      rw [nX6_readValue]
      simp (config := {decide := true}) (disch := first | omega | assumption | (simp only [mS_cL, mS_cI, mS_cR, mR_cL, mR_cI]; first | assumption | exact hcr _ | fail)) only [tX6_readValue_0, tX6_readValue_1, tX6_readValue_4, tX6_readValue_5, tX6_readValue_6, tX6_readValue_9, tX6_readValue_10, tX6_readValue_11, tX6_readValue_13, tX6_readValue_16, tX6_readValue_17, tX6_readValue_18, tX6_readValue_21, tX6_readValue_24, tX6_readValue_25, tX6_readValue_26, tX6_readValue_29, tX6_readValue_30, tX6_readValue_31, tX6_readValue_34, tX6_readValue_35, tX6_readValue_36, tX6_readValue_37, tX6_readValue_38, tX6_readValue_41, tX6_readValue_42, tX6_readValue_44, tX6_readValue_47, tX6_readValue_50, tX6_readValue_51, tX6_readValue_54, tX6_readValue_57, tX6_readValue_58, tX6_readValue_61, tX6_readValue_62, tX6_readValue_64, tX6_readValue_67, tX6_readValue_70, tX6_readValue_71, tX6_readValue_72, tX6_readValue_75, tX6_readValue_78, tX6_readValue_79, tX6_readValue_82, tX6_readValue_83, tX6_readValue_84, tX6_readValue_87, tX6_readValue_88, tX6_readValue_91, tX6_readValue_92, tX6_readValue_93, tX6_readValue_96, tX6_readValue_99, tX6_readValue_100, tX6_readValue_101, tX6_readValue_104, jK_some, jK_none, jc1_int, jc1_ref, jc1_none, jc1_long, jc1_null, jc1_rf, va_rf_some, va_rf_none, mI_cI, mL_cL, mR_cR, cI_cI, cL_cL, jup_eq, jne_1, jne_2, Nat.add_left_cancel_iff, mL_cI, mR_cI, mS_cI, mN_cI, mI_cL, mR_cL, mS_cL, mN_cL, mI_cR, mL_cR, mS_cR, mN_cR, true_and, and_true, true_or, or_true, if_true, if_false, jBool_0, jBool_1, Nat.le_refl, Nat.reduceLeDiff, Nat.reduceEqDiff, Nat.reduceAdd, Nat.reduceSub, reduceIte, Int32.reduceLT, Int32.reduceLE, ne_eq, not_false_eq_true, not_true_eq_false, false_or, or_false, and_false, false_and, reduceCtorEq, jn_4, jn_6, jn_8, jn_9, jn_12, jn_60, jn_100, jn_200, jn_400, jn_600, jn_601, jn_3600, jI_4, jI_6, jI_8, jI_9, jI_12, jI_60, jI_100, jI_200, jI_400, jI_600, jI_601, jI_3600, va_cpy_00, jx_0, jx_6, jx_12, jx_400, jx_600, nI_1, rM_S, rM_R, b1, b2, b3, b4, b5, x_nextByte h hs.1, rM_at, e1, x_opens h hd, e3, e2, e4, nI_1, rM_toAt, h4, h5]
    · rw [if_neg e2]
      refine ⟨rOp_ok h1, fun Q => ?_⟩
      rw [nX6_readValue]
      simp (config := {decide := true}) (disch := first | omega | assumption | (simp only [mS_cL, mS_cI, mS_cR, mR_cL, mR_cI]; first | assumption | exact hcr _ | fail)) only [tX6_readValue_0, tX6_readValue_1, tX6_readValue_4, tX6_readValue_5, tX6_readValue_6, tX6_readValue_9, tX6_readValue_10, tX6_readValue_11, tX6_readValue_13, tX6_readValue_16, tX6_readValue_17, tX6_readValue_18, tX6_readValue_21, tX6_readValue_24, tX6_readValue_25, tX6_readValue_26, tX6_readValue_29, tX6_readValue_30, tX6_readValue_31, tX6_readValue_34, tX6_readValue_35, tX6_readValue_36, tX6_readValue_37, tX6_readValue_38, tX6_readValue_41, tX6_readValue_42, tX6_readValue_44, tX6_readValue_47, tX6_readValue_50, tX6_readValue_51, tX6_readValue_54, tX6_readValue_57, tX6_readValue_58, tX6_readValue_61, tX6_readValue_62, tX6_readValue_64, tX6_readValue_67, tX6_readValue_70, tX6_readValue_71, tX6_readValue_72, tX6_readValue_75, tX6_readValue_78, tX6_readValue_79, tX6_readValue_82, tX6_readValue_83, tX6_readValue_84, tX6_readValue_87, tX6_readValue_88, tX6_readValue_91, tX6_readValue_92, tX6_readValue_93, tX6_readValue_96, tX6_readValue_99, tX6_readValue_100, tX6_readValue_101, tX6_readValue_104, jK_some, jK_none, jc1_int, jc1_ref, jc1_none, jc1_long, jc1_null, jc1_rf, va_rf_some, va_rf_none, mI_cI, mL_cL, mR_cR, cI_cI, cL_cL, jup_eq, jne_1, jne_2, Nat.add_left_cancel_iff, mL_cI, mR_cI, mS_cI, mN_cI, mI_cL, mR_cL, mS_cL, mN_cL, mI_cR, mL_cR, mS_cR, mN_cR, true_and, and_true, true_or, or_true, if_true, if_false, jBool_0, jBool_1, Nat.le_refl, Nat.reduceLeDiff, Nat.reduceEqDiff, Nat.reduceAdd, Nat.reduceSub, reduceIte, Int32.reduceLT, Int32.reduceLE, ne_eq, not_false_eq_true, not_true_eq_false, false_or, or_false, and_false, false_and, reduceCtorEq, jn_4, jn_6, jn_8, jn_9, jn_12, jn_60, jn_100, jn_200, jn_400, jn_600, jn_601, jn_3600, jI_4, jI_6, jI_8, jI_9, jI_12, jI_60, jI_100, jI_200, jI_400, jI_600, jI_601, jI_3600, va_cpy_00, jx_0, jx_6, jx_12, jx_400, jx_600, nI_1, rM_S, rM_R, b1, b2, b3, b4, b5, x_nextByte h hs.1, rM_at, e1, x_opens h hd, e2, nI_1, rM_toAt]
  · rw [if_neg e1]
    by_cases e2 : rDig (T (rSk T s.1)) = true
    · rw [if_pos e2]
      refine ⟨rTold_ok (rPut_ok ⟨by rw [rNum_1]; exact hn, by rw [rNum_k]; exact hs.2⟩), fun Q => ?_⟩
      rw [nX6_readValue]
      simp (config := {decide := true}) (disch := first | omega | assumption | (simp only [mS_cL, mS_cI, mS_cR, mR_cL, mR_cI]; first | assumption | exact hcr _ | fail)) only [tX6_readValue_0, tX6_readValue_1, tX6_readValue_4, tX6_readValue_5, tX6_readValue_6, tX6_readValue_9, tX6_readValue_10, tX6_readValue_11, tX6_readValue_13, tX6_readValue_16, tX6_readValue_17, tX6_readValue_18, tX6_readValue_21, tX6_readValue_24, tX6_readValue_25, tX6_readValue_26, tX6_readValue_29, tX6_readValue_30, tX6_readValue_31, tX6_readValue_34, tX6_readValue_35, tX6_readValue_36, tX6_readValue_37, tX6_readValue_38, tX6_readValue_41, tX6_readValue_42, tX6_readValue_44, tX6_readValue_47, tX6_readValue_50, tX6_readValue_51, tX6_readValue_54, tX6_readValue_57, tX6_readValue_58, tX6_readValue_61, tX6_readValue_62, tX6_readValue_64, tX6_readValue_67, tX6_readValue_70, tX6_readValue_71, tX6_readValue_72, tX6_readValue_75, tX6_readValue_78, tX6_readValue_79, tX6_readValue_82, tX6_readValue_83, tX6_readValue_84, tX6_readValue_87, tX6_readValue_88, tX6_readValue_91, tX6_readValue_92, tX6_readValue_93, tX6_readValue_96, tX6_readValue_99, tX6_readValue_100, tX6_readValue_101, tX6_readValue_104, jK_some, jK_none, jc1_int, jc1_ref, jc1_none, jc1_long, jc1_null, jc1_rf, va_rf_some, va_rf_none, mI_cI, mL_cL, mR_cR, cI_cI, cL_cL, jup_eq, jne_1, jne_2, Nat.add_left_cancel_iff, mL_cI, mR_cI, mS_cI, mN_cI, mI_cL, mR_cL, mS_cL, mN_cL, mI_cR, mL_cR, mS_cR, mN_cR, true_and, and_true, true_or, or_true, if_true, if_false, jBool_0, jBool_1, Nat.le_refl, Nat.reduceLeDiff, Nat.reduceEqDiff, Nat.reduceAdd, Nat.reduceSub, reduceIte, Int32.reduceLT, Int32.reduceLE, ne_eq, not_false_eq_true, not_true_eq_false, false_or, or_false, and_false, false_and, reduceCtorEq, jn_4, jn_6, jn_8, jn_9, jn_12, jn_60, jn_100, jn_200, jn_400, jn_600, jn_601, jn_3600, jI_4, jI_6, jI_8, jI_9, jI_12, jI_60, jI_100, jI_200, jI_400, jI_600, jI_601, jI_3600, va_cpy_00, jx_0, jx_6, jx_12, jx_400, jx_600, nI_1, rM_S, rM_R, b1, b2, b3, b4, b5, x_nextByte h hs.1, rM_at, e1, e2, x_isDigit, x_readNumber (s := (rSk T s.1, s.2)) h h1.1, w1, x_told h]
    · rw [if_neg e2]
      refine ⟨rTold_ok ⟨rEnd_z h h1.1, ?_⟩, fun Q => ?_⟩
      · exact rPut_k (by rw [rWs_k]; exact hs.2)
      rw [nX6_readValue]
      simp (config := {decide := true}) (disch := first | omega | assumption | (simp only [mS_cL, mS_cI, mS_cR, mR_cL, mR_cI]; first | assumption | exact hcr _ | fail)) only [tX6_readValue_0, tX6_readValue_1, tX6_readValue_4, tX6_readValue_5, tX6_readValue_6, tX6_readValue_9, tX6_readValue_10, tX6_readValue_11, tX6_readValue_13, tX6_readValue_16, tX6_readValue_17, tX6_readValue_18, tX6_readValue_21, tX6_readValue_24, tX6_readValue_25, tX6_readValue_26, tX6_readValue_29, tX6_readValue_30, tX6_readValue_31, tX6_readValue_34, tX6_readValue_35, tX6_readValue_36, tX6_readValue_37, tX6_readValue_38, tX6_readValue_41, tX6_readValue_42, tX6_readValue_44, tX6_readValue_47, tX6_readValue_50, tX6_readValue_51, tX6_readValue_54, tX6_readValue_57, tX6_readValue_58, tX6_readValue_61, tX6_readValue_62, tX6_readValue_64, tX6_readValue_67, tX6_readValue_70, tX6_readValue_71, tX6_readValue_72, tX6_readValue_75, tX6_readValue_78, tX6_readValue_79, tX6_readValue_82, tX6_readValue_83, tX6_readValue_84, tX6_readValue_87, tX6_readValue_88, tX6_readValue_91, tX6_readValue_92, tX6_readValue_93, tX6_readValue_96, tX6_readValue_99, tX6_readValue_100, tX6_readValue_101, tX6_readValue_104, jK_some, jK_none, jc1_int, jc1_ref, jc1_none, jc1_long, jc1_null, jc1_rf, va_rf_some, va_rf_none, mI_cI, mL_cL, mR_cR, cI_cI, cL_cL, jup_eq, jne_1, jne_2, Nat.add_left_cancel_iff, mL_cI, mR_cI, mS_cI, mN_cI, mI_cL, mR_cL, mS_cL, mN_cL, mI_cR, mL_cR, mS_cR, mN_cR, true_and, and_true, true_or, or_true, if_true, if_false, jBool_0, jBool_1, Nat.le_refl, Nat.reduceLeDiff, Nat.reduceEqDiff, Nat.reduceAdd, Nat.reduceSub, reduceIte, Int32.reduceLT, Int32.reduceLE, ne_eq, not_false_eq_true, not_true_eq_false, false_or, or_false, and_false, false_and, reduceCtorEq, jn_4, jn_6, jn_8, jn_9, jn_12, jn_60, jn_100, jn_200, jn_400, jn_600, jn_601, jn_3600, jI_4, jI_6, jI_8, jI_9, jI_12, jI_60, jI_100, jI_200, jI_400, jI_600, jI_601, jI_3600, va_cpy_00, jx_0, jx_6, jx_12, jx_400, jx_600, nI_1, rM_S, rM_R, b1, b2, b3, b4, b5, x_nextByte h hs.1, rM_at, e1, e2, x_isDigit, x_wordNumber (s := (rSk T s.1, s.2)) h h1.1, w2, v2, x_told h, rM_toAt, rPut_1, rWs_1]
theorem rBinL_ok (h : XB B T z) (ha : a ≠ -1) (hb : b ≠ -1) (hsub : ∀ s, rOk z s → rOk z (sub s)) : ∀ n s, rOk z s → rOk z (rBinL T a x b y sub n s)
  | 0, s, hs => hs
  | n + 1, s, hs => by
    unfold rBinL
    split
    · split
      · next e => exact rBinL_ok h ha hb hsub n _ (rPut_ok (hsub _ ⟨T_lt h (by rw [e]; exact ha), hs.2⟩))
      · split
        · next e => exact rBinL_ok h ha hb hsub n _ (rPut_ok (hsub _ ⟨T_lt h (by rw [e]; exact hb), hs.2⟩))
        · exact ⟨rSk_z h hs.1, hs.2⟩
    · exact hs
theorem x_readTerm (h : XB B T z) (hi : Xc B z (e + 4) 101 dp sub) : Xc B z (e + 5) 100 dp (fun s => rBinL T 42 (-13) 47 (-14) sub 400 (sub s)) := by
  intro s hs
  obtain ⟨b1, b2, b3, b4, b5, b6, b7, b8⟩ := id h
  have hok := rBinL_ok (x := -13) (y := -14) h (show (42 : Int32) ≠ -1 by decide) (show (47 : Int32) ≠ -1 by decide) (fun s hs => (hi s hs).1)
  refine ⟨hok 400 _ (hi s hs).1, fun Q => ?_⟩
  have key : ∀ n r t3 s, r + n = 400 → rOk z s → (AW (e + 4) 100 7 [some (.ref 1), some (.int (nI dp)), some (.int (nI r)), t3] [] (rM B s) Q ↔ Q none (rM B (rBinL T 42 (-13) 47 (-14) sub n s))) := by
    intro n
    induction n with
    | zero =>
      intro r t3 s hr hs
      rw [tX6_readTerm_7, show r = 400 by omega]
      simp (config := {decide := true}) (disch := first | omega | assumption | (simp only [mS_cL, mS_cI, mS_cR, mR_cL, mR_cI]; first | assumption | exact hcr _ | fail)) only [tX6_readTerm_0, tX6_readTerm_1, tX6_readTerm_2, tX6_readTerm_5, tX6_readTerm_6, tX6_readTerm_8, tX6_readTerm_11, tX6_readTerm_14, tX6_readTerm_15, tX6_readTerm_18, tX6_readTerm_21, tX6_readTerm_22, tX6_readTerm_25, tX6_readTerm_26, tX6_readTerm_27, tX6_readTerm_29, tX6_readTerm_32, tX6_readTerm_33, tX6_readTerm_35, tX6_readTerm_38, tX6_readTerm_39, tX6_readTerm_40, tX6_readTerm_41, tX6_readTerm_44, tX6_readTerm_45, tX6_readTerm_46, tX6_readTerm_49, tX6_readTerm_50, tX6_readTerm_51, tX6_readTerm_54, tX6_readTerm_55, tX6_readTerm_58, tX6_readTerm_59, tX6_readTerm_61, tX6_readTerm_64, tX6_readTerm_66, tX6_readTerm_69, tX6_readTerm_71, tX6_readTerm_74, tX6_readTerm_77, tX6_readTerm_80, jK_some, jK_none, jc1_int, jc1_ref, jc1_none, jc1_long, jc1_null, jc1_rf, va_rf_some, va_rf_none, mI_cI, mL_cL, mR_cR, cI_cI, cL_cL, jup_eq, jne_1, jne_2, Nat.add_left_cancel_iff, mL_cI, mR_cI, mS_cI, mN_cI, mI_cL, mR_cL, mS_cL, mN_cL, mI_cR, mL_cR, mS_cR, mN_cR, true_and, and_true, true_or, or_true, if_true, if_false, jBool_0, jBool_1, Nat.le_refl, Nat.reduceLeDiff, Nat.reduceEqDiff, Nat.reduceAdd, Nat.reduceSub, reduceIte, Int32.reduceLT, Int32.reduceLE, ne_eq, not_false_eq_true, not_true_eq_false, false_or, or_false, and_false, false_and, reduceCtorEq, jn_4, jn_6, jn_8, jn_9, jn_12, jn_60, jn_100, jn_200, jn_400, jn_600, jn_601, jn_3600, jI_4, jI_6, jI_8, jI_9, jI_12, jI_60, jI_100, jI_200, jI_400, jI_600, jI_601, jI_3600, va_cpy_00, jx_0, jx_6, jx_12, jx_400, jx_600, nI_1]
      exact Iff.rfl
    | succ n ih =>
      intro r t3 s hr hs
      unfold rBinL
      rw [tX6_readTerm_7]
      by_cases hf : s.2.2.1 = 0
      · rw [if_pos hf]
        by_cases e1 : T (rSk T s.1) = 42
        · have h2 : rOk z (rSk T s.1 + 1, s.2) := ⟨T_lt h (by rw [e1]; decide), hs.2⟩
          obtain ⟨h3, h4⟩ := hi _ h2
          have w1 := fun Q => x_write (d := e + 3) (x := -13) (Q := Q) h h3.2
          rw [if_pos e1, ← ih (r + 1) _ _ (by omega) (rPut_ok h3)]
          simp (config := {decide := true}) (disch := first | omega | assumption | (simp only [mS_cL, mS_cI, mS_cR, mR_cL, mR_cI]; first | assumption | exact hcr _ | fail)) only [tX6_readTerm_0, tX6_readTerm_1, tX6_readTerm_2, tX6_readTerm_5, tX6_readTerm_6, tX6_readTerm_8, tX6_readTerm_11, tX6_readTerm_14, tX6_readTerm_15, tX6_readTerm_18, tX6_readTerm_21, tX6_readTerm_22, tX6_readTerm_25, tX6_readTerm_26, tX6_readTerm_27, tX6_readTerm_29, tX6_readTerm_32, tX6_readTerm_33, tX6_readTerm_35, tX6_readTerm_38, tX6_readTerm_39, tX6_readTerm_40, tX6_readTerm_41, tX6_readTerm_44, tX6_readTerm_45, tX6_readTerm_46, tX6_readTerm_49, tX6_readTerm_50, tX6_readTerm_51, tX6_readTerm_54, tX6_readTerm_55, tX6_readTerm_58, tX6_readTerm_59, tX6_readTerm_61, tX6_readTerm_64, tX6_readTerm_66, tX6_readTerm_69, tX6_readTerm_71, tX6_readTerm_74, tX6_readTerm_77, tX6_readTerm_80, jK_some, jK_none, jc1_int, jc1_ref, jc1_none, jc1_long, jc1_null, jc1_rf, va_rf_some, va_rf_none, mI_cI, mL_cL, mR_cR, cI_cI, cL_cL, jup_eq, jne_1, jne_2, Nat.add_left_cancel_iff, mL_cI, mR_cI, mS_cI, mN_cI, mI_cL, mR_cL, mS_cL, mN_cL, mI_cR, mL_cR, mS_cR, mN_cR, true_and, and_true, true_or, or_true, if_true, if_false, jBool_0, jBool_1, Nat.le_refl, Nat.reduceLeDiff, Nat.reduceEqDiff, Nat.reduceAdd, Nat.reduceSub, reduceIte, Int32.reduceLT, Int32.reduceLE, ne_eq, not_false_eq_true, not_true_eq_false, false_or, or_false, and_false, false_and, reduceCtorEq, jn_4, jn_6, jn_8, jn_9, jn_12, jn_60, jn_100, jn_200, jn_400, jn_600, jn_601, jn_3600, jI_4, jI_6, jI_8, jI_9, jI_12, jI_60, jI_100, jI_200, jI_400, jI_600, jI_601, jI_3600, va_cpy_00, jx_0, jx_6, jx_12, jx_400, jx_600, nI_1, nx_5e, nx_l6, nx_l12, nx_l100, nx_l200, nx_l400, nx_l600, nx_l601, nx_l3600, nx_pos, nx_posN, nx_neg1, nx_m1neg, nx_leF, nx_leT, nx_ltF, nx_ltT, nx_mul6, nI_add, nI_1, jx_nI, nx_4, nx_g4, nx_6, nx_g6, nx_8, nx_g8, nx_9, nx_g9, nx_12, nx_g12, nx_14, nx_g14, nx_60, nx_g60, nx_100, nx_g100, nx_200, nx_g200, nx_400, nx_g400, nx_600, nx_g600, nx_601, nx_g601, nx_3600, nx_g3600, rM_S, rM_R, b1, b2, b3, b4, b5, rM_found, hf, x_nextByte h hs.1, e1, rM_at, rM_toAt, h4, w1]
          exact Iff.rfl
        · rw [if_neg e1]
          by_cases e2 : T (rSk T s.1) = 47
          · have h2 : rOk z (rSk T s.1 + 1, s.2) := ⟨T_lt h (by rw [e2]; decide), hs.2⟩
            obtain ⟨h3, h4⟩ := hi _ h2
            have w1 := fun Q => x_write (d := e + 3) (x := -14) (Q := Q) h h3.2
            rw [if_pos e2, ← ih (r + 1) _ _ (by omega) (rPut_ok h3)]
            simp (config := {decide := true}) (disch := first | omega | assumption | (simp only [mS_cL, mS_cI, mS_cR, mR_cL, mR_cI]; first | assumption | exact hcr _ | fail)) only [tX6_readTerm_0, tX6_readTerm_1, tX6_readTerm_2, tX6_readTerm_5, tX6_readTerm_6, tX6_readTerm_8, tX6_readTerm_11, tX6_readTerm_14, tX6_readTerm_15, tX6_readTerm_18, tX6_readTerm_21, tX6_readTerm_22, tX6_readTerm_25, tX6_readTerm_26, tX6_readTerm_27, tX6_readTerm_29, tX6_readTerm_32, tX6_readTerm_33, tX6_readTerm_35, tX6_readTerm_38, tX6_readTerm_39, tX6_readTerm_40, tX6_readTerm_41, tX6_readTerm_44, tX6_readTerm_45, tX6_readTerm_46, tX6_readTerm_49, tX6_readTerm_50, tX6_readTerm_51, tX6_readTerm_54, tX6_readTerm_55, tX6_readTerm_58, tX6_readTerm_59, tX6_readTerm_61, tX6_readTerm_64, tX6_readTerm_66, tX6_readTerm_69, tX6_readTerm_71, tX6_readTerm_74, tX6_readTerm_77, tX6_readTerm_80, jK_some, jK_none, jc1_int, jc1_ref, jc1_none, jc1_long, jc1_null, jc1_rf, va_rf_some, va_rf_none, mI_cI, mL_cL, mR_cR, cI_cI, cL_cL, jup_eq, jne_1, jne_2, Nat.add_left_cancel_iff, mL_cI, mR_cI, mS_cI, mN_cI, mI_cL, mR_cL, mS_cL, mN_cL, mI_cR, mL_cR, mS_cR, mN_cR, true_and, and_true, true_or, or_true, if_true, if_false, jBool_0, jBool_1, Nat.le_refl, Nat.reduceLeDiff, Nat.reduceEqDiff, Nat.reduceAdd, Nat.reduceSub, reduceIte, Int32.reduceLT, Int32.reduceLE, ne_eq, not_false_eq_true, not_true_eq_false, false_or, or_false, and_false, false_and, reduceCtorEq, jn_4, jn_6, jn_8, jn_9, jn_12, jn_60, jn_100, jn_200, jn_400, jn_600, jn_601, jn_3600, jI_4, jI_6, jI_8, jI_9, jI_12, jI_60, jI_100, jI_200, jI_400, jI_600, jI_601, jI_3600, va_cpy_00, jx_0, jx_6, jx_12, jx_400, jx_600, nI_1, nx_5e, nx_l6, nx_l12, nx_l100, nx_l200, nx_l400, nx_l600, nx_l601, nx_l3600, nx_pos, nx_posN, nx_neg1, nx_m1neg, nx_leF, nx_leT, nx_ltF, nx_ltT, nx_mul6, nI_add, nI_1, jx_nI, nx_4, nx_g4, nx_6, nx_g6, nx_8, nx_g8, nx_9, nx_g9, nx_12, nx_g12, nx_14, nx_g14, nx_60, nx_g60, nx_100, nx_g100, nx_200, nx_g200, nx_400, nx_g400, nx_600, nx_g600, nx_601, nx_g601, nx_3600, nx_g3600, rM_S, rM_R, b1, b2, b3, b4, b5, rM_found, hf, x_nextByte h hs.1, e2, rM_at, rM_toAt, h4, w1]
            exact Iff.rfl
          · rw [if_neg e2]
            simp (config := {decide := true}) (disch := first | omega | assumption | (simp only [mS_cL, mS_cI, mS_cR, mR_cL, mR_cI]; first | assumption | exact hcr _ | fail)) only [tX6_readTerm_0, tX6_readTerm_1, tX6_readTerm_2, tX6_readTerm_5, tX6_readTerm_6, tX6_readTerm_8, tX6_readTerm_11, tX6_readTerm_14, tX6_readTerm_15, tX6_readTerm_18, tX6_readTerm_21, tX6_readTerm_22, tX6_readTerm_25, tX6_readTerm_26, tX6_readTerm_27, tX6_readTerm_29, tX6_readTerm_32, tX6_readTerm_33, tX6_readTerm_35, tX6_readTerm_38, tX6_readTerm_39, tX6_readTerm_40, tX6_readTerm_41, tX6_readTerm_44, tX6_readTerm_45, tX6_readTerm_46, tX6_readTerm_49, tX6_readTerm_50, tX6_readTerm_51, tX6_readTerm_54, tX6_readTerm_55, tX6_readTerm_58, tX6_readTerm_59, tX6_readTerm_61, tX6_readTerm_64, tX6_readTerm_66, tX6_readTerm_69, tX6_readTerm_71, tX6_readTerm_74, tX6_readTerm_77, tX6_readTerm_80, jK_some, jK_none, jc1_int, jc1_ref, jc1_none, jc1_long, jc1_null, jc1_rf, va_rf_some, va_rf_none, mI_cI, mL_cL, mR_cR, cI_cI, cL_cL, jup_eq, jne_1, jne_2, Nat.add_left_cancel_iff, mL_cI, mR_cI, mS_cI, mN_cI, mI_cL, mR_cL, mS_cL, mN_cL, mI_cR, mL_cR, mS_cR, mN_cR, true_and, and_true, true_or, or_true, if_true, if_false, jBool_0, jBool_1, Nat.le_refl, Nat.reduceLeDiff, Nat.reduceEqDiff, Nat.reduceAdd, Nat.reduceSub, reduceIte, Int32.reduceLT, Int32.reduceLE, ne_eq, not_false_eq_true, not_true_eq_false, false_or, or_false, and_false, false_and, reduceCtorEq, jn_4, jn_6, jn_8, jn_9, jn_12, jn_60, jn_100, jn_200, jn_400, jn_600, jn_601, jn_3600, jI_4, jI_6, jI_8, jI_9, jI_12, jI_60, jI_100, jI_200, jI_400, jI_600, jI_601, jI_3600, va_cpy_00, jx_0, jx_6, jx_12, jx_400, jx_600, nI_1, nx_5e, nx_l6, nx_l12, nx_l100, nx_l200, nx_l400, nx_l600, nx_l601, nx_l3600, nx_pos, nx_posN, nx_neg1, nx_m1neg, nx_leF, nx_leT, nx_ltF, nx_ltT, nx_mul6, nI_add, nI_1, jx_nI, nx_4, nx_g4, nx_6, nx_g6, nx_8, nx_g8, nx_9, nx_g9, nx_12, nx_g12, nx_14, nx_g14, nx_60, nx_g60, nx_100, nx_g100, nx_200, nx_g200, nx_400, nx_g400, nx_600, nx_g600, nx_601, nx_g601, nx_3600, nx_g3600, rM_S, rM_R, b1, b2, b3, b4, b5, rM_found, hf, x_nextByte h hs.1, e1, e2]
      · rw [if_neg hf]
        simp (config := {decide := true}) (disch := first | omega | assumption | (simp only [mS_cL, mS_cI, mS_cR, mR_cL, mR_cI]; first | assumption | exact hcr _ | fail)) only [tX6_readTerm_0, tX6_readTerm_1, tX6_readTerm_2, tX6_readTerm_5, tX6_readTerm_6, tX6_readTerm_8, tX6_readTerm_11, tX6_readTerm_14, tX6_readTerm_15, tX6_readTerm_18, tX6_readTerm_21, tX6_readTerm_22, tX6_readTerm_25, tX6_readTerm_26, tX6_readTerm_27, tX6_readTerm_29, tX6_readTerm_32, tX6_readTerm_33, tX6_readTerm_35, tX6_readTerm_38, tX6_readTerm_39, tX6_readTerm_40, tX6_readTerm_41, tX6_readTerm_44, tX6_readTerm_45, tX6_readTerm_46, tX6_readTerm_49, tX6_readTerm_50, tX6_readTerm_51, tX6_readTerm_54, tX6_readTerm_55, tX6_readTerm_58, tX6_readTerm_59, tX6_readTerm_61, tX6_readTerm_64, tX6_readTerm_66, tX6_readTerm_69, tX6_readTerm_71, tX6_readTerm_74, tX6_readTerm_77, tX6_readTerm_80, jK_some, jK_none, jc1_int, jc1_ref, jc1_none, jc1_long, jc1_null, jc1_rf, va_rf_some, va_rf_none, mI_cI, mL_cL, mR_cR, cI_cI, cL_cL, jup_eq, jne_1, jne_2, Nat.add_left_cancel_iff, mL_cI, mR_cI, mS_cI, mN_cI, mI_cL, mR_cL, mS_cL, mN_cL, mI_cR, mL_cR, mS_cR, mN_cR, true_and, and_true, true_or, or_true, if_true, if_false, jBool_0, jBool_1, Nat.le_refl, Nat.reduceLeDiff, Nat.reduceEqDiff, Nat.reduceAdd, Nat.reduceSub, reduceIte, Int32.reduceLT, Int32.reduceLE, ne_eq, not_false_eq_true, not_true_eq_false, false_or, or_false, and_false, false_and, reduceCtorEq, jn_4, jn_6, jn_8, jn_9, jn_12, jn_60, jn_100, jn_200, jn_400, jn_600, jn_601, jn_3600, jI_4, jI_6, jI_8, jI_9, jI_12, jI_60, jI_100, jI_200, jI_400, jI_600, jI_601, jI_3600, va_cpy_00, jx_0, jx_6, jx_12, jx_400, jx_600, nI_1, nx_5e, nx_l6, nx_l12, nx_l100, nx_l200, nx_l400, nx_l600, nx_l601, nx_l3600, nx_pos, nx_posN, nx_neg1, nx_m1neg, nx_leF, nx_leT, nx_ltF, nx_ltT, nx_mul6, nI_add, nI_1, jx_nI, nx_4, nx_g4, nx_6, nx_g6, nx_8, nx_g8, nx_9, nx_g9, nx_12, nx_g12, nx_14, nx_g14, nx_60, nx_g60, nx_100, nx_g100, nx_200, nx_g200, nx_400, nx_g400, nx_600, nx_g600, nx_601, nx_g601, nx_3600, nx_g3600, rM_S, rM_R, b1, b2, b3, b4, b5, rM_found, hf]
  rw [nX6_readTerm]
  simp (config := {decide := true}) (disch := first | omega | assumption | (simp only [mS_cL, mS_cI, mS_cR, mR_cL, mR_cI]; first | assumption | exact hcr _ | fail)) only [tX6_readTerm_0, tX6_readTerm_1, tX6_readTerm_2, tX6_readTerm_5, tX6_readTerm_6, tX6_readTerm_8, tX6_readTerm_11, tX6_readTerm_14, tX6_readTerm_15, tX6_readTerm_18, tX6_readTerm_21, tX6_readTerm_22, tX6_readTerm_25, tX6_readTerm_26, tX6_readTerm_27, tX6_readTerm_29, tX6_readTerm_32, tX6_readTerm_33, tX6_readTerm_35, tX6_readTerm_38, tX6_readTerm_39, tX6_readTerm_40, tX6_readTerm_41, tX6_readTerm_44, tX6_readTerm_45, tX6_readTerm_46, tX6_readTerm_49, tX6_readTerm_50, tX6_readTerm_51, tX6_readTerm_54, tX6_readTerm_55, tX6_readTerm_58, tX6_readTerm_59, tX6_readTerm_61, tX6_readTerm_64, tX6_readTerm_66, tX6_readTerm_69, tX6_readTerm_71, tX6_readTerm_74, tX6_readTerm_77, tX6_readTerm_80, jK_some, jK_none, jc1_int, jc1_ref, jc1_none, jc1_long, jc1_null, jc1_rf, va_rf_some, va_rf_none, mI_cI, mL_cL, mR_cR, cI_cI, cL_cL, jup_eq, jne_1, jne_2, Nat.add_left_cancel_iff, mL_cI, mR_cI, mS_cI, mN_cI, mI_cL, mR_cL, mS_cL, mN_cL, mI_cR, mL_cR, mS_cR, mN_cR, true_and, and_true, true_or, or_true, if_true, if_false, jBool_0, jBool_1, Nat.le_refl, Nat.reduceLeDiff, Nat.reduceEqDiff, Nat.reduceAdd, Nat.reduceSub, reduceIte, Int32.reduceLT, Int32.reduceLE, ne_eq, not_false_eq_true, not_true_eq_false, false_or, or_false, and_false, false_and, reduceCtorEq, jn_4, jn_6, jn_8, jn_9, jn_12, jn_60, jn_100, jn_200, jn_400, jn_600, jn_601, jn_3600, jI_4, jI_6, jI_8, jI_9, jI_12, jI_60, jI_100, jI_200, jI_400, jI_600, jI_601, jI_3600, va_cpy_00, jx_0, jx_6, jx_12, jx_400, jx_600, nI_1, rM_S, b1, (hi s hs).2]
  exact key 400 0 _ _ rfl (hi s hs).1
theorem x_readSum (h : XB B T z) (hi : Xc B z (e + 5) 100 dp sub) : Xc B z (e + 6) 99 dp (fun s => rBinL T 43 (-11) 45 (-12) sub 400 (sub s)) := by
  intro s hs
  obtain ⟨b1, b2, b3, b4, b5, b6, b7, b8⟩ := id h
  have hok := rBinL_ok (x := -11) (y := -12) h (show (43 : Int32) ≠ -1 by decide) (show (45 : Int32) ≠ -1 by decide) (fun s hs => (hi s hs).1)
  refine ⟨hok 400 _ (hi s hs).1, fun Q => ?_⟩
  have key : ∀ n r t3 s, r + n = 400 → rOk z s → (AW (e + 5) 99 7 [some (.ref 1), some (.int (nI dp)), some (.int (nI r)), t3] [] (rM B s) Q ↔ Q none (rM B (rBinL T 43 (-11) 45 (-12) sub n s))) := by
    intro n
    induction n with
    | zero =>
      intro r t3 s hr hs
      rw [tX6_readSum_7, show r = 400 by omega]
      simp (config := {decide := true}) (disch := first | omega | assumption | (simp only [mS_cL, mS_cI, mS_cR, mR_cL, mR_cI]; first | assumption | exact hcr _ | fail)) only [tX6_readSum_0, tX6_readSum_1, tX6_readSum_2, tX6_readSum_5, tX6_readSum_6, tX6_readSum_8, tX6_readSum_11, tX6_readSum_14, tX6_readSum_15, tX6_readSum_18, tX6_readSum_21, tX6_readSum_22, tX6_readSum_25, tX6_readSum_26, tX6_readSum_27, tX6_readSum_29, tX6_readSum_32, tX6_readSum_33, tX6_readSum_35, tX6_readSum_38, tX6_readSum_39, tX6_readSum_40, tX6_readSum_41, tX6_readSum_44, tX6_readSum_45, tX6_readSum_46, tX6_readSum_49, tX6_readSum_50, tX6_readSum_51, tX6_readSum_54, tX6_readSum_55, tX6_readSum_58, tX6_readSum_59, tX6_readSum_61, tX6_readSum_64, tX6_readSum_66, tX6_readSum_69, tX6_readSum_71, tX6_readSum_74, tX6_readSum_77, tX6_readSum_80, jK_some, jK_none, jc1_int, jc1_ref, jc1_none, jc1_long, jc1_null, jc1_rf, va_rf_some, va_rf_none, mI_cI, mL_cL, mR_cR, cI_cI, cL_cL, jup_eq, jne_1, jne_2, Nat.add_left_cancel_iff, mL_cI, mR_cI, mS_cI, mN_cI, mI_cL, mR_cL, mS_cL, mN_cL, mI_cR, mL_cR, mS_cR, mN_cR, true_and, and_true, true_or, or_true, if_true, if_false, jBool_0, jBool_1, Nat.le_refl, Nat.reduceLeDiff, Nat.reduceEqDiff, Nat.reduceAdd, Nat.reduceSub, reduceIte, Int32.reduceLT, Int32.reduceLE, ne_eq, not_false_eq_true, not_true_eq_false, false_or, or_false, and_false, false_and, reduceCtorEq, jn_4, jn_6, jn_8, jn_9, jn_12, jn_60, jn_100, jn_200, jn_400, jn_600, jn_601, jn_3600, jI_4, jI_6, jI_8, jI_9, jI_12, jI_60, jI_100, jI_200, jI_400, jI_600, jI_601, jI_3600, va_cpy_00, jx_0, jx_6, jx_12, jx_400, jx_600, nI_1]
      exact Iff.rfl
    | succ n ih =>
      intro r t3 s hr hs
      unfold rBinL
      rw [tX6_readSum_7]
      by_cases hf : s.2.2.1 = 0
      · rw [if_pos hf]
        by_cases e1 : T (rSk T s.1) = 43
        · have h2 : rOk z (rSk T s.1 + 1, s.2) := ⟨T_lt h (by rw [e1]; decide), hs.2⟩
          obtain ⟨h3, h4⟩ := hi _ h2
          have w1 := fun Q => x_write (d := e + 4) (x := -11) (Q := Q) h h3.2
          rw [if_pos e1, ← ih (r + 1) _ _ (by omega) (rPut_ok h3)]
          simp (config := {decide := true}) (disch := first | omega | assumption | (simp only [mS_cL, mS_cI, mS_cR, mR_cL, mR_cI]; first | assumption | exact hcr _ | fail)) only [tX6_readSum_0, tX6_readSum_1, tX6_readSum_2, tX6_readSum_5, tX6_readSum_6, tX6_readSum_8, tX6_readSum_11, tX6_readSum_14, tX6_readSum_15, tX6_readSum_18, tX6_readSum_21, tX6_readSum_22, tX6_readSum_25, tX6_readSum_26, tX6_readSum_27, tX6_readSum_29, tX6_readSum_32, tX6_readSum_33, tX6_readSum_35, tX6_readSum_38, tX6_readSum_39, tX6_readSum_40, tX6_readSum_41, tX6_readSum_44, tX6_readSum_45, tX6_readSum_46, tX6_readSum_49, tX6_readSum_50, tX6_readSum_51, tX6_readSum_54, tX6_readSum_55, tX6_readSum_58, tX6_readSum_59, tX6_readSum_61, tX6_readSum_64, tX6_readSum_66, tX6_readSum_69, tX6_readSum_71, tX6_readSum_74, tX6_readSum_77, tX6_readSum_80, jK_some, jK_none, jc1_int, jc1_ref, jc1_none, jc1_long, jc1_null, jc1_rf, va_rf_some, va_rf_none, mI_cI, mL_cL, mR_cR, cI_cI, cL_cL, jup_eq, jne_1, jne_2, Nat.add_left_cancel_iff, mL_cI, mR_cI, mS_cI, mN_cI, mI_cL, mR_cL, mS_cL, mN_cL, mI_cR, mL_cR, mS_cR, mN_cR, true_and, and_true, true_or, or_true, if_true, if_false, jBool_0, jBool_1, Nat.le_refl, Nat.reduceLeDiff, Nat.reduceEqDiff, Nat.reduceAdd, Nat.reduceSub, reduceIte, Int32.reduceLT, Int32.reduceLE, ne_eq, not_false_eq_true, not_true_eq_false, false_or, or_false, and_false, false_and, reduceCtorEq, jn_4, jn_6, jn_8, jn_9, jn_12, jn_60, jn_100, jn_200, jn_400, jn_600, jn_601, jn_3600, jI_4, jI_6, jI_8, jI_9, jI_12, jI_60, jI_100, jI_200, jI_400, jI_600, jI_601, jI_3600, va_cpy_00, jx_0, jx_6, jx_12, jx_400, jx_600, nI_1, nx_5e, nx_l6, nx_l12, nx_l100, nx_l200, nx_l400, nx_l600, nx_l601, nx_l3600, nx_pos, nx_posN, nx_neg1, nx_m1neg, nx_leF, nx_leT, nx_ltF, nx_ltT, nx_mul6, nI_add, nI_1, jx_nI, nx_4, nx_g4, nx_6, nx_g6, nx_8, nx_g8, nx_9, nx_g9, nx_12, nx_g12, nx_14, nx_g14, nx_60, nx_g60, nx_100, nx_g100, nx_200, nx_g200, nx_400, nx_g400, nx_600, nx_g600, nx_601, nx_g601, nx_3600, nx_g3600, rM_S, rM_R, b1, b2, b3, b4, b5, rM_found, hf, x_nextByte h hs.1, e1, rM_at, rM_toAt, h4, w1]
          exact Iff.rfl
        · rw [if_neg e1]
          by_cases e2 : T (rSk T s.1) = 45
          · have h2 : rOk z (rSk T s.1 + 1, s.2) := ⟨T_lt h (by rw [e2]; decide), hs.2⟩
            obtain ⟨h3, h4⟩ := hi _ h2
            have w1 := fun Q => x_write (d := e + 4) (x := -12) (Q := Q) h h3.2
            rw [if_pos e2, ← ih (r + 1) _ _ (by omega) (rPut_ok h3)]
            simp (config := {decide := true}) (disch := first | omega | assumption | (simp only [mS_cL, mS_cI, mS_cR, mR_cL, mR_cI]; first | assumption | exact hcr _ | fail)) only [tX6_readSum_0, tX6_readSum_1, tX6_readSum_2, tX6_readSum_5, tX6_readSum_6, tX6_readSum_8, tX6_readSum_11, tX6_readSum_14, tX6_readSum_15, tX6_readSum_18, tX6_readSum_21, tX6_readSum_22, tX6_readSum_25, tX6_readSum_26, tX6_readSum_27, tX6_readSum_29, tX6_readSum_32, tX6_readSum_33, tX6_readSum_35, tX6_readSum_38, tX6_readSum_39, tX6_readSum_40, tX6_readSum_41, tX6_readSum_44, tX6_readSum_45, tX6_readSum_46, tX6_readSum_49, tX6_readSum_50, tX6_readSum_51, tX6_readSum_54, tX6_readSum_55, tX6_readSum_58, tX6_readSum_59, tX6_readSum_61, tX6_readSum_64, tX6_readSum_66, tX6_readSum_69, tX6_readSum_71, tX6_readSum_74, tX6_readSum_77, tX6_readSum_80, jK_some, jK_none, jc1_int, jc1_ref, jc1_none, jc1_long, jc1_null, jc1_rf, va_rf_some, va_rf_none, mI_cI, mL_cL, mR_cR, cI_cI, cL_cL, jup_eq, jne_1, jne_2, Nat.add_left_cancel_iff, mL_cI, mR_cI, mS_cI, mN_cI, mI_cL, mR_cL, mS_cL, mN_cL, mI_cR, mL_cR, mS_cR, mN_cR, true_and, and_true, true_or, or_true, if_true, if_false, jBool_0, jBool_1, Nat.le_refl, Nat.reduceLeDiff, Nat.reduceEqDiff, Nat.reduceAdd, Nat.reduceSub, reduceIte, Int32.reduceLT, Int32.reduceLE, ne_eq, not_false_eq_true, not_true_eq_false, false_or, or_false, and_false, false_and, reduceCtorEq, jn_4, jn_6, jn_8, jn_9, jn_12, jn_60, jn_100, jn_200, jn_400, jn_600, jn_601, jn_3600, jI_4, jI_6, jI_8, jI_9, jI_12, jI_60, jI_100, jI_200, jI_400, jI_600, jI_601, jI_3600, va_cpy_00, jx_0, jx_6, jx_12, jx_400, jx_600, nI_1, nx_5e, nx_l6, nx_l12, nx_l100, nx_l200, nx_l400, nx_l600, nx_l601, nx_l3600, nx_pos, nx_posN, nx_neg1, nx_m1neg, nx_leF, nx_leT, nx_ltF, nx_ltT, nx_mul6, nI_add, nI_1, jx_nI, nx_4, nx_g4, nx_6, nx_g6, nx_8, nx_g8, nx_9, nx_g9, nx_12, nx_g12, nx_14, nx_g14, nx_60, nx_g60, nx_100, nx_g100, nx_200, nx_g200, nx_400, nx_g400, nx_600, nx_g600, nx_601, nx_g601, nx_3600, nx_g3600, rM_S, rM_R, b1, b2, b3, b4, b5, rM_found, hf, x_nextByte h hs.1, e2, rM_at, rM_toAt, h4, w1]
            exact Iff.rfl
          · rw [if_neg e2]
            simp (config := {decide := true}) (disch := first | omega | assumption | (simp only [mS_cL, mS_cI, mS_cR, mR_cL, mR_cI]; first | assumption | exact hcr _ | fail)) only [tX6_readSum_0, tX6_readSum_1, tX6_readSum_2, tX6_readSum_5, tX6_readSum_6, tX6_readSum_8, tX6_readSum_11, tX6_readSum_14, tX6_readSum_15, tX6_readSum_18, tX6_readSum_21, tX6_readSum_22, tX6_readSum_25, tX6_readSum_26, tX6_readSum_27, tX6_readSum_29, tX6_readSum_32, tX6_readSum_33, tX6_readSum_35, tX6_readSum_38, tX6_readSum_39, tX6_readSum_40, tX6_readSum_41, tX6_readSum_44, tX6_readSum_45, tX6_readSum_46, tX6_readSum_49, tX6_readSum_50, tX6_readSum_51, tX6_readSum_54, tX6_readSum_55, tX6_readSum_58, tX6_readSum_59, tX6_readSum_61, tX6_readSum_64, tX6_readSum_66, tX6_readSum_69, tX6_readSum_71, tX6_readSum_74, tX6_readSum_77, tX6_readSum_80, jK_some, jK_none, jc1_int, jc1_ref, jc1_none, jc1_long, jc1_null, jc1_rf, va_rf_some, va_rf_none, mI_cI, mL_cL, mR_cR, cI_cI, cL_cL, jup_eq, jne_1, jne_2, Nat.add_left_cancel_iff, mL_cI, mR_cI, mS_cI, mN_cI, mI_cL, mR_cL, mS_cL, mN_cL, mI_cR, mL_cR, mS_cR, mN_cR, true_and, and_true, true_or, or_true, if_true, if_false, jBool_0, jBool_1, Nat.le_refl, Nat.reduceLeDiff, Nat.reduceEqDiff, Nat.reduceAdd, Nat.reduceSub, reduceIte, Int32.reduceLT, Int32.reduceLE, ne_eq, not_false_eq_true, not_true_eq_false, false_or, or_false, and_false, false_and, reduceCtorEq, jn_4, jn_6, jn_8, jn_9, jn_12, jn_60, jn_100, jn_200, jn_400, jn_600, jn_601, jn_3600, jI_4, jI_6, jI_8, jI_9, jI_12, jI_60, jI_100, jI_200, jI_400, jI_600, jI_601, jI_3600, va_cpy_00, jx_0, jx_6, jx_12, jx_400, jx_600, nI_1, nx_5e, nx_l6, nx_l12, nx_l100, nx_l200, nx_l400, nx_l600, nx_l601, nx_l3600, nx_pos, nx_posN, nx_neg1, nx_m1neg, nx_leF, nx_leT, nx_ltF, nx_ltT, nx_mul6, nI_add, nI_1, jx_nI, nx_4, nx_g4, nx_6, nx_g6, nx_8, nx_g8, nx_9, nx_g9, nx_12, nx_g12, nx_14, nx_g14, nx_60, nx_g60, nx_100, nx_g100, nx_200, nx_g200, nx_400, nx_g400, nx_600, nx_g600, nx_601, nx_g601, nx_3600, nx_g3600, rM_S, rM_R, b1, b2, b3, b4, b5, rM_found, hf, x_nextByte h hs.1, e1, e2]
      · rw [if_neg hf]
        simp (config := {decide := true}) (disch := first | omega | assumption | (simp only [mS_cL, mS_cI, mS_cR, mR_cL, mR_cI]; first | assumption | exact hcr _ | fail)) only [tX6_readSum_0, tX6_readSum_1, tX6_readSum_2, tX6_readSum_5, tX6_readSum_6, tX6_readSum_8, tX6_readSum_11, tX6_readSum_14, tX6_readSum_15, tX6_readSum_18, tX6_readSum_21, tX6_readSum_22, tX6_readSum_25, tX6_readSum_26, tX6_readSum_27, tX6_readSum_29, tX6_readSum_32, tX6_readSum_33, tX6_readSum_35, tX6_readSum_38, tX6_readSum_39, tX6_readSum_40, tX6_readSum_41, tX6_readSum_44, tX6_readSum_45, tX6_readSum_46, tX6_readSum_49, tX6_readSum_50, tX6_readSum_51, tX6_readSum_54, tX6_readSum_55, tX6_readSum_58, tX6_readSum_59, tX6_readSum_61, tX6_readSum_64, tX6_readSum_66, tX6_readSum_69, tX6_readSum_71, tX6_readSum_74, tX6_readSum_77, tX6_readSum_80, jK_some, jK_none, jc1_int, jc1_ref, jc1_none, jc1_long, jc1_null, jc1_rf, va_rf_some, va_rf_none, mI_cI, mL_cL, mR_cR, cI_cI, cL_cL, jup_eq, jne_1, jne_2, Nat.add_left_cancel_iff, mL_cI, mR_cI, mS_cI, mN_cI, mI_cL, mR_cL, mS_cL, mN_cL, mI_cR, mL_cR, mS_cR, mN_cR, true_and, and_true, true_or, or_true, if_true, if_false, jBool_0, jBool_1, Nat.le_refl, Nat.reduceLeDiff, Nat.reduceEqDiff, Nat.reduceAdd, Nat.reduceSub, reduceIte, Int32.reduceLT, Int32.reduceLE, ne_eq, not_false_eq_true, not_true_eq_false, false_or, or_false, and_false, false_and, reduceCtorEq, jn_4, jn_6, jn_8, jn_9, jn_12, jn_60, jn_100, jn_200, jn_400, jn_600, jn_601, jn_3600, jI_4, jI_6, jI_8, jI_9, jI_12, jI_60, jI_100, jI_200, jI_400, jI_600, jI_601, jI_3600, va_cpy_00, jx_0, jx_6, jx_12, jx_400, jx_600, nI_1, nx_5e, nx_l6, nx_l12, nx_l100, nx_l200, nx_l400, nx_l600, nx_l601, nx_l3600, nx_pos, nx_posN, nx_neg1, nx_m1neg, nx_leF, nx_leT, nx_ltF, nx_ltT, nx_mul6, nI_add, nI_1, jx_nI, nx_4, nx_g4, nx_6, nx_g6, nx_8, nx_g8, nx_9, nx_g9, nx_12, nx_g12, nx_14, nx_g14, nx_60, nx_g60, nx_100, nx_g100, nx_200, nx_g200, nx_400, nx_g400, nx_600, nx_g600, nx_601, nx_g601, nx_3600, nx_g3600, rM_S, rM_R, b1, b2, b3, b4, b5, rM_found, hf]
  rw [nX6_readSum]
  simp (config := {decide := true}) (disch := first | omega | assumption | (simp only [mS_cL, mS_cI, mS_cR, mR_cL, mR_cI]; first | assumption | exact hcr _ | fail)) only [tX6_readSum_0, tX6_readSum_1, tX6_readSum_2, tX6_readSum_5, tX6_readSum_6, tX6_readSum_8, tX6_readSum_11, tX6_readSum_14, tX6_readSum_15, tX6_readSum_18, tX6_readSum_21, tX6_readSum_22, tX6_readSum_25, tX6_readSum_26, tX6_readSum_27, tX6_readSum_29, tX6_readSum_32, tX6_readSum_33, tX6_readSum_35, tX6_readSum_38, tX6_readSum_39, tX6_readSum_40, tX6_readSum_41, tX6_readSum_44, tX6_readSum_45, tX6_readSum_46, tX6_readSum_49, tX6_readSum_50, tX6_readSum_51, tX6_readSum_54, tX6_readSum_55, tX6_readSum_58, tX6_readSum_59, tX6_readSum_61, tX6_readSum_64, tX6_readSum_66, tX6_readSum_69, tX6_readSum_71, tX6_readSum_74, tX6_readSum_77, tX6_readSum_80, jK_some, jK_none, jc1_int, jc1_ref, jc1_none, jc1_long, jc1_null, jc1_rf, va_rf_some, va_rf_none, mI_cI, mL_cL, mR_cR, cI_cI, cL_cL, jup_eq, jne_1, jne_2, Nat.add_left_cancel_iff, mL_cI, mR_cI, mS_cI, mN_cI, mI_cL, mR_cL, mS_cL, mN_cL, mI_cR, mL_cR, mS_cR, mN_cR, true_and, and_true, true_or, or_true, if_true, if_false, jBool_0, jBool_1, Nat.le_refl, Nat.reduceLeDiff, Nat.reduceEqDiff, Nat.reduceAdd, Nat.reduceSub, reduceIte, Int32.reduceLT, Int32.reduceLE, ne_eq, not_false_eq_true, not_true_eq_false, false_or, or_false, and_false, false_and, reduceCtorEq, jn_4, jn_6, jn_8, jn_9, jn_12, jn_60, jn_100, jn_200, jn_400, jn_600, jn_601, jn_3600, jI_4, jI_6, jI_8, jI_9, jI_12, jI_60, jI_100, jI_200, jI_400, jI_600, jI_601, jI_3600, va_cpy_00, jx_0, jx_6, jx_12, jx_400, jx_600, nI_1, rM_S, b1, (hi s hs).2]
  exact key 400 0 _ _ rfl (hi s hs).1
theorem x_sum (h : XB B T z) : ∀ k e dp, dp + k = 10 → Xc B z (e + 6 + 3 * k) 99 dp (rSum T (mI B 1 2) k)
  | 0, e, dp, hk => by
    have hd : dp = 10 := by omega
    subst hd
    exact x_readSum h (x_readTerm h (x_readValue (inner := id) h (Nat.le_refl _) (fun hx => absurd hx (by decide))))
  | k + 1, e, dp, hk => by
    have hd : dp = 10 - (k + 1) := by omega
    have ih := x_sum h k e (dp + 1) (by omega)
    have e1 : e + 6 + 3 * k = (e + 3 + 3 * k) + 3 := by omega
    have e2 : e + 6 + 3 * (k + 1) = (e + 3 + 3 * k) + 6 := by omega
    rw [e1] at ih
    rw [e2]
    have := x_readSum h (x_readTerm h (x_readValue h (by omega) (fun _ => ih)))
    unfold rSum
    rw [← hd]
    exact this
end RDZ
