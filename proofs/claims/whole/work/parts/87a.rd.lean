/-! ===== X's reader, purely, also behind a fault: (at, told, found, the code's size, the code) ===== -/
abbrev RS : Type := Nat × Int32 × Int32 × Nat × (Nat → Int32)
def rM (B : jmM) (s : RS) : jmM := cI (cI (cI B 1 (jup (jup (jup (mI B 1) 3 (nI s.1)) 4 s.2.1) 5 s.2.2.1)) 4 (jup (mI B 4) 1 (nI s.2.2.2.1))) 5 s.2.2.2.2
/-- what the reader reads from: z bytes, T with -1 behind them -/
def XB (B : jmM) (T : Nat → Int32) (z : Nat) : Prop := mS B 1 = (6, 6) ∧ mR B 1 0 = some 2 ∧ mR B 1 1 = some 4 ∧ TapeL (mS B) (mR B) 2 ∧ LawL (mS B) (mR B) 4 ∧ z ≤ 400 ∧ mI B 2 1 = nI z ∧ ∀ i, T i = if i < z then mI B 3 i else -1
def rLet (x : Int32) : Bool := decide (97 ≤ x) && decide (x ≤ 122)
def rDig (x : Int32) : Bool := decide (48 ≤ x) && decide (x ≤ 57)
def rMat (T : Nat → Int32) : List Int32 → Nat → Bool
  | [], i => !rLet (T i)
  | x :: w, i => (T i == x) && rMat T w (i + 1)
def rSk (T : Nat → Int32) (i : Nat) : Nat := jfind (fun k => T k != 32) i (400 - i)
def rEnd (T : Nat → Int32) (i : Nat) : Nat := jfind (fun k => !rLet (T k)) i (400 - i)
def rDe (T : Nat → Int32) (i : Nat) : Nat := jfind (fun k => !rDig (T k)) i (400 - i)
def jW (t : Nat) : List Int32 := jCh.getD t []
def rTo (s : RS) (i : Nat) : RS := (i, s.2)
def rFail (s : RS) (p : Nat) (k : Int32) : RS := if s.2.2.1 = 0 then (s.1, s.2.1, 1 + 8 * nI p + k, s.2.2.2) else s
def rPut (s : RS) (x : Int32) : RS := if s.2.2.2.1 < 400 then (s.1, s.2.1, s.2.2.1, s.2.2.2.1 + 1, jup s.2.2.2.2 s.2.2.2.1 x) else s
def rTold (s : RS) (p : Nat) : RS := if 60 < s.2.1 + 1 then rFail (s.1, s.2.1 + 1, s.2.2) p 3 else (s.1, s.2.1 + 1, s.2.2)
theorem rM_S {B : jmM} {s : RS} : mS (rM B s) = mS B := rfl
theorem rM_R {B : jmM} {s : RS} : mR (rM B s) = mR B := rfl
theorem rM_L {B : jmM} {s : RS} : mL (rM B s) = mL B := rfl
theorem rM_2 {B : jmM} {s : RS} : mI (rM B s) 2 = mI B 2 := rfl
theorem rM_3 {B : jmM} {s : RS} : mI (rM B s) 3 = mI B 3 := rfl
theorem rM_12 {B : jmM} {s : RS} : mI (rM B s) 1 2 = mI B 1 2 := rfl
theorem rM_at {B : jmM} {s : RS} : mI (rM B s) 1 3 = nI s.1 := rfl
theorem rM_told {B : jmM} {s : RS} : mI (rM B s) 1 4 = s.2.1 := rfl
theorem rM_found {B : jmM} {s : RS} : mI (rM B s) 1 5 = s.2.2.1 := rfl
theorem rM_size {B : jmM} {s : RS} : mI (rM B s) 4 1 = nI s.2.2.2.1 := rfl
theorem rM_code {B : jmM} {s : RS} : mI (rM B s) 5 = s.2.2.2.2 := rfl
theorem cI_ext {m n : jmM} (h : ∀ c i, mI m c i = mI n c i) (h2 : m.2 = n.2) : m = n := Prod.ext (funext fun c => funext fun i => h c i) h2
theorem jI_400' {n : Nat} (h : n < 2147483648) : (nI n < 400) ↔ n < 400 := nI_ltI (b := 400) h (by decide)
theorem rM_toAt {B : jmM} {s : RS} {i : Nat} : cI (rM B s) 1 (jup (mI (rM B s) 1) 3 (nI i)) = rM B (i, s.2) := by
  refine cI_ext (fun c j => ?_) rfl
  unfold rM jup; simp only [mI_cI]; grind
theorem rM_toTold {B : jmM} {s : RS} {t : Int32} : cI (rM B s) 1 (jup (mI (rM B s) 1) 4 t) = rM B (s.1, t, s.2.2) := by
  refine cI_ext (fun c j => ?_) rfl
  unfold rM jup; simp only [mI_cI]; grind
theorem rM_toFound {B : jmM} {s : RS} {f : Int32} : cI (rM B s) 1 (jup (mI (rM B s) 1) 5 f) = rM B (s.1, s.2.1, f, s.2.2.2) := by
  refine cI_ext (fun c j => ?_) rfl
  unfold rM jup; simp only [mI_cI]; grind
theorem rM_put {B : jmM} {s : RS} {x : Int32} (hk : s.2.2.2.1 ≤ 400) : (if mI (rM B s) 4 1 < 400 then cI (cI (rM B s) (4 + 1) (jup (mI (rM B s) (4 + 1)) (jx (mI (rM B s) 4 1)) x)) 4 (jup (mI (rM B s) 4) 1 (mI (rM B s) 4 1 + 1)) else rM B s) = rM B (rPut s x) := by
  rw [rM_size]
  unfold rPut
  by_cases hc : s.2.2.2.1 < 400
  · rw [if_pos ((jI_400' (by omega)).mpr hc), if_pos hc, nI_1, jx_nI (by omega)]
    refine cI_ext (fun c j => ?_) rfl
    unfold rM jup; simp only [mI_cI]; grind
  · rw [if_neg (fun e => hc ((jI_400' (by omega)).mp e)), if_neg hc]
section RDX
variable {d : Nat} {B : jmM} {T : Nat → Int32} {z : Nat} {s : RS} {x y : Int32} {i t : Nat} {Q : Option Value → jmM → Prop}
theorem x_byteAt (h : XB B T z) (hi : i < 1000) : CC (d + 1) 134 [.ref 2, .int (nI i)] (rM B s) Q ↔ Q (some (.int (T i))) (rM B s) := by
  obtain ⟨-, -, -, b4, -, b6, b7, b8⟩ := h
  rw [c_Tape_byteAt (show TapeL (mS (rM B s)) (mR (rM B s)) 2 from b4), rM_2, b7, rM_3, b8 i, if_neg (nI_pos (by omega)), jx_nI (by omega)]
  by_cases hz : i < z
  · rw [if_neg (Int32.not_le.mpr (nI_ltI (by omega) (by omega) |>.mpr hz)), if_neg (Int32.not_le.mpr ((jI_400' (by omega)).mpr (by omega))), if_pos hz]
  · rw [if_pos (Int32.not_lt.mp (fun e => hz (nI_ltI (by omega) (by omega) |>.mp e))), if_neg hz]
theorem x_isLetter {m : jmM} : CC (d + 1) 110 [.int x] m Q ↔ Q (some (.int (if rLet x then 1 else 0))) m := by
  rw [nX6_isLetter]; simp only [tX6_isLetter_0, tX6_isLetter_1, tX6_isLetter_3, tX6_isLetter_6, tX6_isLetter_7, tX6_isLetter_9, tX6_isLetter_12, tX6_isLetter_13, tX6_isLetter_16, tX6_isLetter_17, jK_some, jK_none, jc1_int, jc1_ref, jc1_none, jc1_long, jc1_null, jc1_rf, va_rf_some, va_rf_none, mI_cI, mL_cL, mR_cR, cI_cI, cL_cL, jup_eq, jne_1, jne_2, Nat.add_left_cancel_iff, mL_cI, mR_cI, mS_cI, mN_cI, mI_cL, mR_cL, mS_cL, mN_cL, mI_cR, mL_cR, mS_cR, mN_cR, true_and, and_true, true_or, or_true, if_true, if_false, jBool_0, jBool_1, Nat.le_refl, Nat.reduceLeDiff, Nat.reduceEqDiff, Nat.reduceAdd, Nat.reduceSub, reduceIte, Int32.reduceLT, Int32.reduceLE, ne_eq, not_false_eq_true, not_true_eq_false, false_or, or_false, and_false, false_and, reduceCtorEq, jn_4, jn_6, jn_8, jn_9, jn_12, jn_60, jn_100, jn_200, jn_400, jn_600, jn_601, jn_3600, jI_4, jI_6, jI_8, jI_9, jI_12, jI_60, jI_100, jI_200, jI_400, jI_600, jI_601, jI_3600, va_cpy_00, jx_0, jx_6, jx_12, jx_400, jx_600, nI_1]
  unfold rLet
  by_cases h1 : x < 97
  · rw [if_pos h1, if_neg (by simp [Int32.not_le.mpr h1])]
  · by_cases h2 : 122 < x
    · rw [if_neg h1, if_pos h2, if_neg (by simp [Int32.not_le.mpr h2])]
    · rw [if_neg h1, if_neg h2, if_pos (by simp [Int32.not_lt.mp h1, Int32.not_lt.mp h2])]
theorem x_isDigit {m : jmM} : CC (d + 1) 111 [.int x] m Q ↔ Q (some (.int (if rDig x then 1 else 0))) m := by
  rw [nX6_isDigit]; simp only [tX6_isDigit_0, tX6_isDigit_1, tX6_isDigit_3, tX6_isDigit_6, tX6_isDigit_7, tX6_isDigit_9, tX6_isDigit_12, tX6_isDigit_13, tX6_isDigit_16, tX6_isDigit_17, jK_some, jK_none, jc1_int, jc1_ref, jc1_none, jc1_long, jc1_null, jc1_rf, va_rf_some, va_rf_none, mI_cI, mL_cL, mR_cR, cI_cI, cL_cL, jup_eq, jne_1, jne_2, Nat.add_left_cancel_iff, mL_cI, mR_cI, mS_cI, mN_cI, mI_cL, mR_cL, mS_cL, mN_cL, mI_cR, mL_cR, mS_cR, mN_cR, true_and, and_true, true_or, or_true, if_true, if_false, jBool_0, jBool_1, Nat.le_refl, Nat.reduceLeDiff, Nat.reduceEqDiff, Nat.reduceAdd, Nat.reduceSub, reduceIte, Int32.reduceLT, Int32.reduceLE, ne_eq, not_false_eq_true, not_true_eq_false, false_or, or_false, and_false, false_and, reduceCtorEq, jn_4, jn_6, jn_8, jn_9, jn_12, jn_60, jn_100, jn_200, jn_400, jn_600, jn_601, jn_3600, jI_4, jI_6, jI_8, jI_9, jI_12, jI_60, jI_100, jI_200, jI_400, jI_600, jI_601, jI_3600, va_cpy_00, jx_0, jx_6, jx_12, jx_400, jx_600, nI_1]
  unfold rDig
  by_cases h1 : x < 48
  · rw [if_pos h1, if_neg (by simp [Int32.not_le.mpr h1])]
  · by_cases h2 : 57 < x
    · rw [if_neg h1, if_pos h2, if_neg (by simp [Int32.not_le.mpr h2])]
    · rw [if_neg h1, if_neg h2, if_pos (by simp [Int32.not_lt.mp h1, Int32.not_lt.mp h2])]
theorem x_fail (h : XB B T z) : CC (d + 1) 91 [.ref 1, .int (nI i), .int y] (rM B s) Q ↔ Q none (rM B (rFail s i y)) := by
  obtain ⟨b1, b2, b3, b4, b5, b6, b7, b8⟩ := h
  rw [nX6_fail]; simp only [tX6_fail_0, tX6_fail_1, tX6_fail_4, tX6_fail_7, tX6_fail_8, tX6_fail_9, tX6_fail_11, tX6_fail_12, tX6_fail_13, tX6_fail_14, tX6_fail_15, tX6_fail_16, tX6_fail_19, jK_some, jK_none, jc1_int, jc1_ref, jc1_none, jc1_long, jc1_null, jc1_rf, va_rf_some, va_rf_none, mI_cI, mL_cL, mR_cR, cI_cI, cL_cL, jup_eq, jne_1, jne_2, Nat.add_left_cancel_iff, mL_cI, mR_cI, mS_cI, mN_cI, mI_cL, mR_cL, mS_cL, mN_cL, mI_cR, mL_cR, mS_cR, mN_cR, true_and, and_true, true_or, or_true, if_true, if_false, jBool_0, jBool_1, Nat.le_refl, Nat.reduceLeDiff, Nat.reduceEqDiff, Nat.reduceAdd, Nat.reduceSub, reduceIte, Int32.reduceLT, Int32.reduceLE, ne_eq, not_false_eq_true, not_true_eq_false, false_or, or_false, and_false, false_and, reduceCtorEq, jn_4, jn_6, jn_8, jn_9, jn_12, jn_60, jn_100, jn_200, jn_400, jn_600, jn_601, jn_3600, jI_4, jI_6, jI_8, jI_9, jI_12, jI_60, jI_100, jI_200, jI_400, jI_600, jI_601, jI_3600, va_cpy_00, jx_0, jx_6, jx_12, jx_400, jx_600, nI_1, rM_S, rM_R, b1, rM_found, rM_toFound]
  unfold rFail
  by_cases hf : s.2.2.1 = 0 <;> simp [hf]
theorem x_write (h : XB B T z) (hk : s.2.2.2.1 ≤ 400) : CC (d + 1) 27 [.ref 4, .int x] (rM B s) Q ↔ Q none (rM B (rPut s x)) := by
  obtain ⟨b1, b2, b3, b4, b5, b6, b7, b8⟩ := h
  rw [c_Law_write (show LawL (mS (rM B s)) (mR (rM B s)) 4 from b5) (by rw [rM_size]; exact nI_pos' (by omega)), rM_put hk]
theorem x_size (h : XB B T z) : CC (d + 1) 31 [.ref 4] (rM B s) Q ↔ Q (some (.int (nI s.2.2.2.1))) (rM B s) := by
  obtain ⟨b1, b2, b3, b4, b5, b6, b7, b8⟩ := h
  rw [c_Law_size (show LawL (mS (rM B s)) (mR (rM B s)) 4 from b5), rM_size]
theorem x_nextByte (h : XB B T z) (hi : s.1 ≤ z) : CC (d + 2) 105 [.ref 1] (rM B s) Q ↔ Q (some (.int (T (rSk T s.1)))) (rM B (rSk T s.1, s.2)) := by
  obtain ⟨b1, b2, b3, b4, b5, b6, b7, b8⟩ := id h
  rw [nX6_nextByte]
  have e := loop_find (n := 400) (c := fun k => T k != 32) (P := fun i => AW (d + 1) 105 0 [some (.ref 1)] [] (rM B (i, s.2)) Q) (E := fun i => Q (some (.int (T i))) (rM B (i, s.2)))
    (fun i hi => by
      rw [tX6_nextByte_0]
      simp (config := {decide := true}) (disch := first | omega | assumption | (simp only [mS_cL, mS_cI, mS_cR, mR_cL, mR_cI]; first | assumption | exact hcr _ | fail)) only [tX6_nextByte_1, tX6_nextByte_4, tX6_nextByte_7, tX6_nextByte_10, tX6_nextByte_11, tX6_nextByte_14, tX6_nextByte_15, tX6_nextByte_18, tX6_nextByte_21, tX6_nextByte_23, tX6_nextByte_26, tX6_nextByte_27, tX6_nextByte_28, tX6_nextByte_31, tX6_nextByte_32, tX6_nextByte_33, tX6_nextByte_36, tX6_nextByte_39, tX6_nextByte_40, tX6_nextByte_43, tX6_nextByte_44, tX6_nextByte_47, tX6_nextByte_50, jK_some, jK_none, jc1_int, jc1_ref, jc1_none, jc1_long, jc1_null, jc1_rf, va_rf_some, va_rf_none, mI_cI, mL_cL, mR_cR, cI_cI, cL_cL, jup_eq, jne_1, jne_2, Nat.add_left_cancel_iff, mL_cI, mR_cI, mS_cI, mN_cI, mI_cL, mR_cL, mS_cL, mN_cL, mI_cR, mL_cR, mS_cR, mN_cR, true_and, and_true, true_or, or_true, if_true, if_false, jBool_0, jBool_1, Nat.le_refl, Nat.reduceLeDiff, Nat.reduceEqDiff, Nat.reduceAdd, Nat.reduceSub, reduceIte, Int32.reduceLT, Int32.reduceLE, ne_eq, not_false_eq_true, not_true_eq_false, false_or, or_false, and_false, false_and, reduceCtorEq, jn_4, jn_6, jn_8, jn_9, jn_12, jn_60, jn_100, jn_200, jn_400, jn_600, jn_601, jn_3600, jI_4, jI_6, jI_8, jI_9, jI_12, jI_60, jI_100, jI_200, jI_400, jI_600, jI_601, jI_3600, va_cpy_00, jx_0, jx_6, jx_12, jx_400, jx_600, nI_1, rM_S, rM_R, b1, b2, b4, rM_at, nx_5e, nx_l6, nx_l12, nx_l100, nx_l200, nx_l400, nx_l600, nx_l601, nx_l3600, nx_pos, nx_posN, nx_neg1, nx_m1neg, nx_leF, nx_leT, nx_ltF, nx_ltT, nx_mul6, nI_add, nI_1, jx_nI, nx_4, nx_g4, nx_6, nx_g6, nx_8, nx_g8, nx_9, nx_g9, nx_12, nx_g12, nx_14, nx_g14, nx_60, nx_g60, nx_100, nx_g100, nx_200, nx_g200, nx_400, nx_g400, nx_600, nx_g600, nx_601, nx_g601, nx_3600, nx_g3600, x_byteAt h, rM_toAt]
      by_cases hc : T i = 32 <;> simp [hc])
    (by
      rw [tX6_nextByte_0]
      simp (config := {decide := true}) (disch := first | omega | assumption | (simp only [mS_cL, mS_cI, mS_cR, mR_cL, mR_cI]; first | assumption | exact hcr _ | fail)) only [tX6_nextByte_1, tX6_nextByte_4, tX6_nextByte_7, tX6_nextByte_10, tX6_nextByte_11, tX6_nextByte_14, tX6_nextByte_15, tX6_nextByte_18, tX6_nextByte_21, tX6_nextByte_23, tX6_nextByte_26, tX6_nextByte_27, tX6_nextByte_28, tX6_nextByte_31, tX6_nextByte_32, tX6_nextByte_33, tX6_nextByte_36, tX6_nextByte_39, tX6_nextByte_40, tX6_nextByte_43, tX6_nextByte_44, tX6_nextByte_47, tX6_nextByte_50, jK_some, jK_none, jc1_int, jc1_ref, jc1_none, jc1_long, jc1_null, jc1_rf, va_rf_some, va_rf_none, mI_cI, mL_cL, mR_cR, cI_cI, cL_cL, jup_eq, jne_1, jne_2, Nat.add_left_cancel_iff, mL_cI, mR_cI, mS_cI, mN_cI, mI_cL, mR_cL, mS_cL, mN_cL, mI_cR, mL_cR, mS_cR, mN_cR, true_and, and_true, true_or, or_true, if_true, if_false, jBool_0, jBool_1, Nat.le_refl, Nat.reduceLeDiff, Nat.reduceEqDiff, Nat.reduceAdd, Nat.reduceSub, reduceIte, Int32.reduceLT, Int32.reduceLE, ne_eq, not_false_eq_true, not_true_eq_false, false_or, or_false, and_false, false_and, reduceCtorEq, jn_4, jn_6, jn_8, jn_9, jn_12, jn_60, jn_100, jn_200, jn_400, jn_600, jn_601, jn_3600, jI_4, jI_6, jI_8, jI_9, jI_12, jI_60, jI_100, jI_200, jI_400, jI_600, jI_601, jI_3600, va_cpy_00, jx_0, jx_6, jx_12, jx_400, jx_600, nI_1, rM_S, rM_R, b1, b2, b4, rM_at, nx_5e, nx_l6, nx_l12, nx_l100, nx_l200, nx_l400, nx_l600, nx_l601, nx_l3600, nx_pos, nx_posN, nx_neg1, nx_m1neg, nx_leF, nx_leT, nx_ltF, nx_ltT, nx_mul6, nI_add, nI_1, jx_nI, nx_4, nx_g4, nx_6, nx_g6, nx_8, nx_g8, nx_9, nx_g9, nx_12, nx_g12, nx_14, nx_g14, nx_60, nx_g60, nx_100, nx_g100, nx_200, nx_g200, nx_400, nx_g400, nx_600, nx_g600, nx_601, nx_g601, nx_3600, nx_g3600, x_byteAt (i := 400) h (by decide), rM_toAt]
      rw [show (400 : Int32) = nI 400 from rfl, x_byteAt h (by decide)]
      simp only [tX6_nextByte_1, tX6_nextByte_4, tX6_nextByte_7, tX6_nextByte_10, tX6_nextByte_11, tX6_nextByte_14, tX6_nextByte_15, tX6_nextByte_18, tX6_nextByte_21, tX6_nextByte_23, tX6_nextByte_26, tX6_nextByte_27, tX6_nextByte_28, tX6_nextByte_31, tX6_nextByte_32, tX6_nextByte_33, tX6_nextByte_36, tX6_nextByte_39, tX6_nextByte_40, tX6_nextByte_43, tX6_nextByte_44, tX6_nextByte_47, tX6_nextByte_50, jK_some, jK_none, jc1_int, jc1_ref, jc1_none, jc1_long, jc1_null, jc1_rf, va_rf_some, va_rf_none, mI_cI, mL_cL, mR_cR, cI_cI, cL_cL, jup_eq, jne_1, jne_2, Nat.add_left_cancel_iff, mL_cI, mR_cI, mS_cI, mN_cI, mI_cL, mR_cL, mS_cL, mN_cL, mI_cR, mL_cR, mS_cR, mN_cR, true_and, and_true, true_or, or_true, if_true, if_false, jBool_0, jBool_1, Nat.le_refl, Nat.reduceLeDiff, Nat.reduceEqDiff, Nat.reduceAdd, Nat.reduceSub, reduceIte, Int32.reduceLT, Int32.reduceLE, ne_eq, not_false_eq_true, not_true_eq_false, false_or, or_false, and_false, false_and, reduceCtorEq, jn_4, jn_6, jn_8, jn_9, jn_12, jn_60, jn_100, jn_200, jn_400, jn_600, jn_601, jn_3600, jI_4, jI_6, jI_8, jI_9, jI_12, jI_60, jI_100, jI_200, jI_400, jI_600, jI_601, jI_3600, va_cpy_00, jx_0, jx_6, jx_12, jx_400, jx_600, nI_1])
    (400 - s.1) s.1 (by omega)
  exact e
theorem x_wordEnd (h : XB B T z) (hi : s.1 ≤ z) : CC (d + 2) 109 [.ref 1] (rM B s) Q ↔ Q (some (.int (nI (rEnd T s.1)))) (rM B s) := by
  obtain ⟨b1, b2, b3, b4, b5, b6, b7, b8⟩ := id h
  rw [nX6_wordEnd]
  simp only [tX6_wordEnd_0, tX6_wordEnd_1, tX6_wordEnd_4, tX6_wordEnd_6, tX6_wordEnd_9, tX6_wordEnd_12, tX6_wordEnd_13, tX6_wordEnd_16, tX6_wordEnd_17, tX6_wordEnd_20, tX6_wordEnd_23, tX6_wordEnd_26, tX6_wordEnd_29, tX6_wordEnd_32, tX6_wordEnd_33, jK_some, jK_none, jc1_int, jc1_ref, jc1_none, jc1_long, jc1_null, jc1_rf, va_rf_some, va_rf_none, mI_cI, mL_cL, mR_cR, cI_cI, cL_cL, jup_eq, jne_1, jne_2, Nat.add_left_cancel_iff, mL_cI, mR_cI, mS_cI, mN_cI, mI_cL, mR_cL, mS_cL, mN_cL, mI_cR, mL_cR, mS_cR, mN_cR, true_and, and_true, true_or, or_true, if_true, if_false, jBool_0, jBool_1, Nat.le_refl, Nat.reduceLeDiff, Nat.reduceEqDiff, Nat.reduceAdd, Nat.reduceSub, reduceIte, Int32.reduceLT, Int32.reduceLE, ne_eq, not_false_eq_true, not_true_eq_false, false_or, or_false, and_false, false_and, reduceCtorEq, jn_4, jn_6, jn_8, jn_9, jn_12, jn_60, jn_100, jn_200, jn_400, jn_600, jn_601, jn_3600, jI_4, jI_6, jI_8, jI_9, jI_12, jI_60, jI_100, jI_200, jI_400, jI_600, jI_601, jI_3600, va_cpy_00, jx_0, jx_6, jx_12, jx_400, jx_600, nI_1, rM_S, rM_R, b1, rM_at]
  exact loop_find (n := 400) (c := fun k => !rLet (T k)) (P := fun i => AW (d + 1) 109 5 [some (.ref 1), some (.int (nI i))] [] (rM B s) Q) (E := fun i => Q (some (.int (nI i))) (rM B s))
    (fun i hi => by
      rw [tX6_wordEnd_5]
      simp (config := {decide := true}) (disch := first | omega | assumption | (simp only [mS_cL, mS_cI, mS_cR, mR_cL, mR_cI]; first | assumption | exact hcr _ | fail)) only [tX6_wordEnd_0, tX6_wordEnd_1, tX6_wordEnd_4, tX6_wordEnd_6, tX6_wordEnd_9, tX6_wordEnd_12, tX6_wordEnd_13, tX6_wordEnd_16, tX6_wordEnd_17, tX6_wordEnd_20, tX6_wordEnd_23, tX6_wordEnd_26, tX6_wordEnd_29, tX6_wordEnd_32, tX6_wordEnd_33, jK_some, jK_none, jc1_int, jc1_ref, jc1_none, jc1_long, jc1_null, jc1_rf, va_rf_some, va_rf_none, mI_cI, mL_cL, mR_cR, cI_cI, cL_cL, jup_eq, jne_1, jne_2, Nat.add_left_cancel_iff, mL_cI, mR_cI, mS_cI, mN_cI, mI_cL, mR_cL, mS_cL, mN_cL, mI_cR, mL_cR, mS_cR, mN_cR, true_and, and_true, true_or, or_true, if_true, if_false, jBool_0, jBool_1, Nat.le_refl, Nat.reduceLeDiff, Nat.reduceEqDiff, Nat.reduceAdd, Nat.reduceSub, reduceIte, Int32.reduceLT, Int32.reduceLE, ne_eq, not_false_eq_true, not_true_eq_false, false_or, or_false, and_false, false_and, reduceCtorEq, jn_4, jn_6, jn_8, jn_9, jn_12, jn_60, jn_100, jn_200, jn_400, jn_600, jn_601, jn_3600, jI_4, jI_6, jI_8, jI_9, jI_12, jI_60, jI_100, jI_200, jI_400, jI_600, jI_601, jI_3600, va_cpy_00, jx_0, jx_6, jx_12, jx_400, jx_600, nI_1, rM_S, rM_R, b1, b2, b4, rM_at, nx_5e, nx_l6, nx_l12, nx_l100, nx_l200, nx_l400, nx_l600, nx_l601, nx_l3600, nx_pos, nx_posN, nx_neg1, nx_m1neg, nx_leF, nx_leT, nx_ltF, nx_ltT, nx_mul6, nI_add, nI_1, jx_nI, nx_4, nx_g4, nx_6, nx_g6, nx_8, nx_g8, nx_9, nx_g9, nx_12, nx_g12, nx_14, nx_g14, nx_60, nx_g60, nx_100, nx_g100, nx_200, nx_g200, nx_400, nx_g400, nx_600, nx_g600, nx_601, nx_g601, nx_3600, nx_g3600, x_byteAt h, x_isLetter]
      cases hc : rLet (T i) <;> simp)
    (by
      rw [tX6_wordEnd_5]
      simp (config := {decide := true}) (disch := first | omega | assumption | (simp only [mS_cL, mS_cI, mS_cR, mR_cL, mR_cI]; first | assumption | exact hcr _ | fail)) only [tX6_wordEnd_0, tX6_wordEnd_1, tX6_wordEnd_4, tX6_wordEnd_6, tX6_wordEnd_9, tX6_wordEnd_12, tX6_wordEnd_13, tX6_wordEnd_16, tX6_wordEnd_17, tX6_wordEnd_20, tX6_wordEnd_23, tX6_wordEnd_26, tX6_wordEnd_29, tX6_wordEnd_32, tX6_wordEnd_33, jK_some, jK_none, jc1_int, jc1_ref, jc1_none, jc1_long, jc1_null, jc1_rf, va_rf_some, va_rf_none, mI_cI, mL_cL, mR_cR, cI_cI, cL_cL, jup_eq, jne_1, jne_2, Nat.add_left_cancel_iff, mL_cI, mR_cI, mS_cI, mN_cI, mI_cL, mR_cL, mS_cL, mN_cL, mI_cR, mL_cR, mS_cR, mN_cR, true_and, and_true, true_or, or_true, if_true, if_false, jBool_0, jBool_1, Nat.le_refl, Nat.reduceLeDiff, Nat.reduceEqDiff, Nat.reduceAdd, Nat.reduceSub, reduceIte, Int32.reduceLT, Int32.reduceLE, ne_eq, not_false_eq_true, not_true_eq_false, false_or, or_false, and_false, false_and, reduceCtorEq, jn_4, jn_6, jn_8, jn_9, jn_12, jn_60, jn_100, jn_200, jn_400, jn_600, jn_601, jn_3600, jI_4, jI_6, jI_8, jI_9, jI_12, jI_60, jI_100, jI_200, jI_400, jI_600, jI_601, jI_3600, va_cpy_00, jx_0, jx_6, jx_12, jx_400, jx_600, nI_1, rM_S, rM_R, b1, b2, b4, rM_at, nx_5e, nx_l6, nx_l12, nx_l100, nx_l200, nx_l400, nx_l600, nx_l601, nx_l3600, nx_pos, nx_posN, nx_neg1, nx_m1neg, nx_leF, nx_leT, nx_ltF, nx_ltT, nx_mul6, nI_add, nI_1, jx_nI, nx_4, nx_g4, nx_6, nx_g6, nx_8, nx_g8, nx_9, nx_g9, nx_12, nx_g12, nx_14, nx_g14, nx_60, nx_g60, nx_100, nx_g100, nx_200, nx_g200, nx_400, nx_g400, nx_600, nx_g600, nx_601, nx_g601, nx_3600, nx_g3600, x_byteAt h, x_isLetter])
    (400 - s.1) s.1 (by omega)
end RDX
