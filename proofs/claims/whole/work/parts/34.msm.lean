/-! ===== the reference: its layout, indices, small methods ===== -/
theorem jx_1 : jx 1 = 1 := by decide
theorem jx_2 : jx 2 = 2 := by decide
theorem jx_3 : jx 3 = 3 := by decide
theorem jx_4 : jx 4 = 4 := by decide
theorem jx_5 : jx 5 = 5 := by decide
theorem jx_7 : jx 7 = 7 := by decide
theorem jx_8 : jx 8 = 8 := by decide
theorem jx_9 : jx 9 = 9 := by decide
theorem jx_10 : jx 10 = 10 := by decide
theorem jx_11 : jx 11 = 11 := by decide
theorem jx_13 : jx 13 = 13 := by decide
theorem jx_14 : jx 14 = 14 := by decide
theorem jx_15 : jx 15 = 15 := by decide
theorem jx_16 : jx 16 = 16 := by decide
theorem jx_17 : jx 17 = 17 := by decide
theorem jx_18 : jx 18 = 18 := by decide
theorem jx_19 : jx 19 = 19 := by decide
theorem jx_20 : jx 20 = 20 := by decide
theorem jx_21 : jx 21 = 21 := by decide
theorem jx_22 : jx 22 = 22 := by decide
theorem jx_23 : jx 23 = 23 := by decide
theorem jx_24 : jx 24 = 24 := by decide
theorem jx_25 : jx 25 = 25 := by decide
theorem jx_26 : jx 26 = 26 := by decide
theorem jx_27 : jx 27 = 27 := by decide
theorem jx_28 : jx 28 = 28 := by decide
theorem jx_29 : jx 29 = 29 := by decide
theorem jx_30 : jx 30 = 30 := by decide
theorem jx_31 : jx 31 = 31 := by decide
theorem jx_32 : jx 32 = 32 := by decide
theorem jx_33 : jx 33 = 33 := by decide
theorem jx_34 : jx 34 = 34 := by decide
theorem jx_35 : jx 35 = 35 := by decide
theorem jx_36 : jx 36 = 36 := by decide
theorem jx_37 : jx 37 = 37 := by decide
theorem jx_38 : jx 38 = 38 := by decide
theorem jx_39 : jx 39 = 39 := by decide
theorem jx_40 : jx 40 = 40 := by decide
theorem jx_41 : jx 41 = 41 := by decide
theorem jx_42 : jx 42 = 42 := by decide
theorem nx_a2 {n : Nat} : nI n + 2 = nI (n + 2) := nI_add n 2
theorem nx_a3 {n : Nat} : nI n + 3 = nI (n + 3) := nI_add n 3
theorem nx_a4 {n : Nat} : nI n + 4 = nI (n + 4) := nI_add n 4
theorem nx_a5 {n : Nat} : nI n + 5 = nI (n + 5) := nI_add n 5
theorem nx_a6 {n : Nat} : nI n + 6 = nI (n + 6) := nI_add n 6
theorem nx_a7 {n : Nat} : nI n + 7 = nI (n + 7) := nI_add n 7
theorem nx_a8 {n : Nat} : nI n + 8 = nI (n + 8) := nI_add n 8
theorem nx_a9 {n : Nat} : nI n + 9 = nI (n + 9) := nI_add n 9
theorem nx_a10 {n : Nat} : nI n + 10 = nI (n + 10) := nI_add n 10
theorem nx_a11 {n : Nat} : nI n + 11 = nI (n + 11) := nI_add n 11
theorem nx_a12 {n : Nat} : nI n + 12 = nI (n + 12) := nI_add n 12
theorem nx_a13 {n : Nat} : nI n + 13 = nI (n + 13) := nI_add n 13
theorem nx_a14 {n : Nat} : nI n + 14 = nI (n + 14) := nI_add n 14
theorem nx_a15 {n : Nat} : nI n + 15 = nI (n + 15) := nI_add n 15
theorem nx_a16 {n : Nat} : nI n + 16 = nI (n + 16) := nI_add n 16
theorem nx_a17 {n : Nat} : nI n + 17 = nI (n + 17) := nI_add n 17
theorem nx_a18 {n : Nat} : nI n + 18 = nI (n + 18) := nI_add n 18
theorem nx_a19 {n : Nat} : nI n + 19 = nI (n + 19) := nI_add n 19
theorem nx_a20 {n : Nat} : nI n + 20 = nI (n + 20) := nI_add n 20
theorem nx_a21 {n : Nat} : nI n + 21 = nI (n + 21) := nI_add n 21
theorem nx_a22 {n : Nat} : nI n + 22 = nI (n + 22) := nI_add n 22
theorem nx_a23 {n : Nat} : nI n + 23 = nI (n + 23) := nI_add n 23
theorem nx_a24 {n : Nat} : nI n + 24 = nI (n + 24) := nI_add n 24
theorem nx_a25 {n : Nat} : nI n + 25 = nI (n + 25) := nI_add n 25
theorem nx_a26 {n : Nat} : nI n + 26 = nI (n + 26) := nI_add n 26
theorem nx_a27 {n : Nat} : nI n + 27 = nI (n + 27) := nI_add n 27
theorem nx_a28 {n : Nat} : nI n + 28 = nI (n + 28) := nI_add n 28
theorem nx_a29 {n : Nat} : nI n + 29 = nI (n + 29) := nI_add n 29
theorem nx_a30 {n : Nat} : nI n + 30 = nI (n + 30) := nI_add n 30
theorem nx_a31 {n : Nat} : nI n + 31 = nI (n + 31) := nI_add n 31
theorem nx_a32 {n : Nat} : nI n + 32 = nI (n + 32) := nI_add n 32
theorem nx_a33 {n : Nat} : nI n + 33 = nI (n + 33) := nI_add n 33
theorem nx_a34 {n : Nat} : nI n + 34 = nI (n + 34) := nI_add n 34
theorem nx_a35 {n : Nat} : nI n + 35 = nI (n + 35) := nI_add n 35
theorem nx_a36 {n : Nat} : nI n + 36 = nI (n + 36) := nI_add n 36
theorem nx_a37 {n : Nat} : nI n + 37 = nI (n + 37) := nI_add n 37
theorem nx_a38 {n : Nat} : nI n + 38 = nI (n + 38) := nI_add n 38
theorem nx_a39 {n : Nat} : nI n + 39 = nI (n + 39) := nI_add n 39
theorem nx_a40 {n : Nat} : nI n + 40 = nI (n + 40) := nI_add n 40
theorem nx_a41 {n : Nat} : nI n + 41 = nI (n + 41) := nI_add n 41
theorem jI_17 {i : Int32} : jIx i 17 ↔ 0 ≤ i ∧ i < 17 := jIx_iff (by decide)
theorem jI_48 {i : Int32} : jIx i 48 ↔ 0 ≤ i ∧ i < 48 := jIx_iff (by decide)
theorem jI_80 {i : Int32} : jIx i 80 ↔ 0 ≤ i ∧ i < 80 := jIx_iff (by decide)
theorem jI_720 {i : Int32} : jIx i 720 ↔ 0 ≤ i ∧ i < 720 := jIx_iff (by decide)
theorem jI_4800 {i : Int32} : jIx i 4800 ↔ 0 ≤ i ∧ i < 4800 := jIx_iff (by decide)
theorem jI_18220 {i : Int32} : jIx i 18220 ↔ 0 ≤ i ∧ i < 18220 := jIx_iff (by decide)
theorem jI_18030 {i : Int32} : jIx i 18030 ↔ 0 ≤ i ∧ i < 18030 := jIx_iff (by decide)
theorem nx_17 {n : Nat} (h : n < 17) : (nI n < 17) = True := eq_true (nI_lt (b := 17) h (by decide))
theorem nx_48 {n : Nat} (h : n < 48) : (nI n < 48) = True := eq_true (nI_lt (b := 48) h (by decide))
theorem nx_80 {n : Nat} (h : n < 80) : (nI n < 80) = True := eq_true (nI_lt (b := 80) h (by decide))
theorem nx_720 {n : Nat} (h : n < 720) : (nI n < 720) = True := eq_true (nI_lt (b := 720) h (by decide))
theorem nx_4800 {n : Nat} (h : n < 4800) : (nI n < 4800) = True := eq_true (nI_lt (b := 4800) h (by decide))
theorem nx_18220 {n : Nat} (h : n < 18220) : (nI n < 18220) = True := eq_true (nI_lt (b := 18220) h (by decide))
theorem nx_18030 {n : Nat} (h : n < 18030) : (nI n < 18030) = True := eq_true (nI_lt (b := 18030) h (by decide))
theorem nx_m2 {n : Nat} : 2 * nI n = nI (2 * n) := nx_mul 2 n
theorem nx_m5 {n : Nat} : 5 * nI n = nI (5 * n) := nx_mul 5 n
theorem nx_m6 {n : Nat} : 6 * nI n = nI (6 * n) := nx_mul 6 n
theorem nx_m16 {n : Nat} : 16 * nI n = nI (16 * n) := nx_mul 16 n
theorem nx_m60 {n : Nat} : 60 * nI n = nI (60 * n) := nx_mul 60 n
theorem nx_m400 {n : Nat} : 400 * nI n = nI (400 * n) := nx_mul 400 n
theorem nx_m3644 {n : Nat} : 3644 * nI n = nI (3644 * n) := nx_mul 3644 n
theorem nx_m3606 {n : Nat} : 3606 * nI n = nI (3606 * n) := nx_mul 3606 n
abbrev MLay (S : Nat → Nat × Nat) (R : Nat → Nat → Option Nat) (c : Nat) : Prop := S c = (12, 49) ∧ (R c 0 = some (c + 1) ∧ R c 2 = some (c + 2) ∧ R c 3 = some (c + 3) ∧ R c 4 = some (c + 4) ∧ R c 5 = some (c + 5) ∧ R c 6 = some (c + 6) ∧ R c 7 = some (c + 7) ∧ R c 8 = some (c + 8) ∧ R c 17 = some (c + 9) ∧ R c 20 = some (c + 10) ∧ R c 22 = some (c + 11) ∧ R c 23 = some (c + 12) ∧ R c 24 = some (c + 13) ∧ R c 25 = some (c + 14) ∧ R c 26 = some (c + 15) ∧ R c 27 = some (c + 16) ∧ R c 28 = some (c + 17) ∧ R c 29 = some (c + 18) ∧ R c 30 = some (c + 19) ∧ R c 33 = some (c + 20) ∧ R c 34 = some (c + 21) ∧ R c 35 = some (c + 22) ∧ R c 36 = some (c + 23) ∧ R c 38 = some (c + 24) ∧ R c 41 = some (c + 25) ∧ R c 42 = some (c + 26) ∧ R c 43 = some (c + 27) ∧ R c 48 = some (c + 28)) ∧
  S (c + 1) = (22, 400) ∧ S (c + 2) = (20, 4800) ∧ S (c + 3) = (20, 12) ∧ S (c + 4) = (20, 720) ∧ S (c + 5) = (20, 12) ∧ S (c + 6) = (20, 12) ∧ S (c + 7) = (20, 12) ∧ S (c + 8) = (20, 12) ∧ S (c + 9) = (20, 400) ∧ S (c + 10) = (21, 80) ∧ S (c + 11) = (21, 9) ∧ S (c + 12) = (20, 6) ∧ S (c + 13) = (20, 6) ∧ S (c + 14) = (20, 17) ∧ S (c + 15) = (21, 6) ∧ S (c + 16) = (20, 6) ∧ S (c + 17) = (20, 6) ∧ S (c + 18) = (20, 3600) ∧ S (c + 19) = (21, 3600) ∧ S (c + 20) = (20, 48) ∧ S (c + 21) = (20, 601) ∧ S (c + 22) = (20, 600) ∧ S (c + 23) = (20, 600) ∧ S (c + 24) = (20, 400) ∧ S (c + 25) = (20, 18220) ∧ S (c + 26) = (21, 18030) ∧ S (c + 27) = (23, 4) ∧ S (c + 28) = (20, 400)
section MSM
variable {d c : Nat} {x y z u v w : Int32} {X Y Z V : Int64} {m : jmM} {Q : Option Value → jmM → Prop} {n i : Nat}
theorem c_M_in : CC (d + 1) 189 [.long X, .long Y, .long Z] m Q ↔ Q (some (.int (if Y ≤ X ∧ X ≤ Z then 1 else 0))) m := by
  rw [nX12_in]
  simp (config := {decide := true}) (disch := first | omega | assumption | (simp only [mS_cL, mS_cI, mS_cR, mR_cL, mR_cI]; first | assumption | exact hcr _ | fail)) only [tX12_in_0, tX12_in_1, tX12_in_2, tX12_in_3, tX12_in_6, tX12_in_7, tX12_in_9, tX12_in_10, tX12_in_13, tX12_in_14, tX12_in_17, tX12_in_18, jK_some, jK_none, jc1_int, jc1_ref, jc1_none, jc1_long, jc1_null, jc1_rf, va_rf_some, va_rf_none, mI_cI, mL_cL, mR_cR, cI_cI, cL_cL, jup_eq, jne_1, jne_2, Nat.add_left_cancel_iff, mL_cI, mR_cI, mS_cI, mN_cI, mI_cL, mR_cL, mS_cL, mN_cL, mI_cR, mL_cR, mS_cR, mN_cR, true_and, and_true, true_or, or_true, if_true, if_false, jBool_0, jBool_1, Nat.le_refl, Nat.reduceLeDiff, Nat.reduceEqDiff, Nat.reduceAdd, Nat.reduceSub, reduceIte, Int32.reduceLT, Int32.reduceLE, ne_eq, not_false_eq_true, not_true_eq_false, false_or, or_false, and_false, false_and, reduceCtorEq, jn_4, jn_6, jn_8, jn_9, jn_12, jn_60, jn_100, jn_200, jn_400, jn_600, jn_601, jn_3600, jI_4, jI_6, jI_8, jI_9, jI_12, jI_60, jI_100, jI_200, jI_400, jI_600, jI_601, jI_3600, va_cpy_00, jx_0, jx_6, jx_12, jx_400, jx_600, nI_1, lgc_lt, lgc_gt, lgc_le, lgc_ge, lgc_eq]
  grind [Int64.not_lt, Int64.not_le]
theorem c_M_held : CC (d + 1) 190 [.long X, .long Y, .long Z] m Q ↔ Q (some (.long (kHeld X Y Z))) m := by
  rw [nX12_held]
  unfold kHeld
  simp (config := {decide := true}) (disch := first | omega | assumption | (simp only [mS_cL, mS_cI, mS_cR, mR_cL, mR_cI]; first | assumption | exact hcr _ | fail)) only [tX12_held_0, tX12_held_1, tX12_held_2, tX12_held_3, tX12_held_6, tX12_held_7, tX12_held_10, tX12_held_11, tX12_held_13, tX12_held_14, tX12_held_17, tX12_held_19, tX12_held_22, tX12_held_23, jK_some, jK_none, jc1_int, jc1_ref, jc1_none, jc1_long, jc1_null, jc1_rf, va_rf_some, va_rf_none, mI_cI, mL_cL, mR_cR, cI_cI, cL_cL, jup_eq, jne_1, jne_2, Nat.add_left_cancel_iff, mL_cI, mR_cI, mS_cI, mN_cI, mI_cL, mR_cL, mS_cL, mN_cL, mI_cR, mL_cR, mS_cR, mN_cR, true_and, and_true, true_or, or_true, if_true, if_false, jBool_0, jBool_1, Nat.le_refl, Nat.reduceLeDiff, Nat.reduceEqDiff, Nat.reduceAdd, Nat.reduceSub, reduceIte, Int32.reduceLT, Int32.reduceLE, ne_eq, not_false_eq_true, not_true_eq_false, false_or, or_false, and_false, false_and, reduceCtorEq, jn_4, jn_6, jn_8, jn_9, jn_12, jn_60, jn_100, jn_200, jn_400, jn_600, jn_601, jn_3600, jI_4, jI_6, jI_8, jI_9, jI_12, jI_60, jI_100, jI_200, jI_400, jI_600, jI_601, jI_3600, va_cpy_00, jx_0, jx_6, jx_12, jx_400, jx_600, nI_1, lgc_lt, lgc_gt, lgc_le, lgc_ge, lgc_eq]
  grind [Int64.not_lt, Int64.not_le]
theorem c_M_goes (hZ : Z ≠ 0) : CC (d + 1) 234 [.long X, .long Y, .long Z, .long V] m Q ↔ Q (some (.long (kGoes X Y Z V))) m := by
  rw [nX12_goes]
  unfold kGoes
  simp (config := {decide := true}) (disch := first | omega | assumption | (simp only [mS_cL, mS_cI, mS_cR, mR_cL, mR_cI]; first | assumption | exact hcr _ | fail)) only [tX12_goes_0, tX12_goes_1, tX12_goes_2, tX12_goes_3, tX12_goes_5, tX12_goes_6, tX12_goes_8, tX12_goes_9, tX12_goes_12, tX12_goes_13, tX12_goes_15, tX12_goes_17, tX12_goes_18, tX12_goes_19, tX12_goes_22, tX12_goes_23, tX12_goes_26, tX12_goes_28, jK_some, jK_none, jc1_int, jc1_ref, jc1_none, jc1_long, jc1_null, jc1_rf, va_rf_some, va_rf_none, mI_cI, mL_cL, mR_cR, cI_cI, cL_cL, jup_eq, jne_1, jne_2, Nat.add_left_cancel_iff, mL_cI, mR_cI, mS_cI, mN_cI, mI_cL, mR_cL, mS_cL, mN_cL, mI_cR, mL_cR, mS_cR, mN_cR, true_and, and_true, true_or, or_true, if_true, if_false, jBool_0, jBool_1, Nat.le_refl, Nat.reduceLeDiff, Nat.reduceEqDiff, Nat.reduceAdd, Nat.reduceSub, reduceIte, Int32.reduceLT, Int32.reduceLE, ne_eq, not_false_eq_true, not_true_eq_false, false_or, or_false, and_false, false_and, reduceCtorEq, jn_4, jn_6, jn_8, jn_9, jn_12, jn_60, jn_100, jn_200, jn_400, jn_600, jn_601, jn_3600, jI_4, jI_6, jI_8, jI_9, jI_12, jI_60, jI_100, jI_200, jI_400, jI_600, jI_601, jI_3600, va_cpy_00, jx_0, jx_6, jx_12, jx_400, jx_600, nI_1, hZ, lgc_lt, lgc_gt, lgc_le, lgc_ge, lgc_eq]
  grind [Int64.not_lt, Int64.not_le]
theorem c_M_rowOf (h : MLay (mS m) (mR m) c) {k : Nat} (hk : k < 6) (hi : i < 600) : CC (d + 1) 229 [.ref c, .int (nI i), .int (nI k)] m Q ↔ Q (some (.int (mI m (c + 18) (6 * i + k)))) m := by
  rw [nX12_rowOf]
  simp (config := {decide := true}) (disch := first | omega | assumption | (simp only [mS_cL, mS_cI, mS_cR, mR_cL, mR_cI]; first | assumption | exact hcr _ | fail)) only [tX12_rowOf_0, tX12_rowOf_1, tX12_rowOf_4, tX12_rowOf_6, tX12_rowOf_7, tX12_rowOf_8, tX12_rowOf_9, tX12_rowOf_10, tX12_rowOf_11, jK_some, jK_none, jc1_int, jc1_ref, jc1_none, jc1_long, jc1_null, jc1_rf, va_rf_some, va_rf_none, mI_cI, mL_cL, mR_cR, cI_cI, cL_cL, jup_eq, jne_1, jne_2, Nat.add_left_cancel_iff, mL_cI, mR_cI, mS_cI, mN_cI, mI_cL, mR_cL, mS_cL, mN_cL, mI_cR, mL_cR, mS_cR, mN_cR, true_and, and_true, true_or, or_true, if_true, if_false, jBool_0, jBool_1, Nat.le_refl, Nat.reduceLeDiff, Nat.reduceEqDiff, Nat.reduceAdd, Nat.reduceSub, reduceIte, Int32.reduceLT, Int32.reduceLE, ne_eq, not_false_eq_true, not_true_eq_false, false_or, or_false, and_false, false_and, reduceCtorEq, jn_4, jn_6, jn_8, jn_9, jn_12, jn_60, jn_100, jn_200, jn_400, jn_600, jn_601, jn_3600, jI_4, jI_6, jI_8, jI_9, jI_12, jI_60, jI_100, jI_200, jI_400, jI_600, jI_601, jI_3600, va_cpy_00, jx_0, jx_6, jx_12, jx_400, jx_600, nI_1, nx_5e, nx_l6, nx_l12, nx_l100, nx_l200, nx_l400, nx_l600, nx_l601, nx_l3600, nx_pos, nx_posN, nx_neg1, nx_m1neg, nx_leF, nx_leT, nx_ltF, nx_ltT, nx_mul6, nI_add, nI_1, jx_nI, nx_4, nx_g4, nx_6, nx_g6, nx_8, nx_g8, nx_9, nx_g9, nx_12, nx_g12, nx_14, nx_g14, nx_60, nx_g60, nx_100, nx_g100, nx_200, nx_g200, nx_400, nx_g400, nx_600, nx_g600, nx_601, nx_g601, nx_3600, nx_g3600, nx_m6, h]
theorem c_M_rowOf0 (h : MLay (mS m) (mR m) c) (hi : i < 600) : CC (d + 1) 229 [.ref c, .int (nI i), .int 0] m Q ↔ Q (some (.int (mI m (c + 18) (6 * i)))) m := c_M_rowOf (k := 0) h (by decide) hi
theorem c_M_rowOf1 (h : MLay (mS m) (mR m) c) (hi : i < 600) : CC (d + 1) 229 [.ref c, .int (nI i), .int 1] m Q ↔ Q (some (.int (mI m (c + 18) (6 * i + 1)))) m := c_M_rowOf (k := 1) h (by decide) hi
theorem c_M_rowOf2 (h : MLay (mS m) (mR m) c) (hi : i < 600) : CC (d + 1) 229 [.ref c, .int (nI i), .int 2] m Q ↔ Q (some (.int (mI m (c + 18) (6 * i + 2)))) m := c_M_rowOf (k := 2) h (by decide) hi
theorem c_M_rowOf3 (h : MLay (mS m) (mR m) c) (hi : i < 600) : CC (d + 1) 229 [.ref c, .int (nI i), .int 3] m Q ↔ Q (some (.int (mI m (c + 18) (6 * i + 3)))) m := c_M_rowOf (k := 3) h (by decide) hi
theorem c_M_rowOf4 (h : MLay (mS m) (mR m) c) (hi : i < 600) : CC (d + 1) 229 [.ref c, .int (nI i), .int 4] m Q ↔ Q (some (.int (mI m (c + 18) (6 * i + 4)))) m := c_M_rowOf (k := 4) h (by decide) hi
theorem c_M_rowOf5 (h : MLay (mS m) (mR m) c) (hi : i < 600) : CC (d + 1) 229 [.ref c, .int (nI i), .int 5] m Q ↔ Q (some (.int (mI m (c + 18) (6 * i + 5)))) m := c_M_rowOf (k := 5) h (by decide) hi
/-- a place of a row that may be ahead of all rows -/
theorem k_neg {k : Nat} {x : Int32} (h0 : ¬ x < 0) (hx : x < nI k) (hk : k < 2147483648) : ∃ i, i < k ∧ x = nI i := by
  rcases pk_ix x hk with h | h | h
  · exact absurd h h0
  · exact absurd hx (Int32.not_lt.mpr h)
  · exact h
theorem c_M_wideAt (h : MLay (mS m) (mR m) c) {P : Pt} (hS : mI m (c + 14) = qS P) (hR : mI m (c + 18) = qR P) (hx : x < 600) : CC (d + 2) 233 [.ref c, .int x] m Q ↔ Q (some (.int (kSeen P x))) m := by
  rw [nX12_wideAt]
  unfold kSeen
  by_cases h0 : x < 0
  · simp (config := {decide := true}) (disch := first | omega | assumption | (simp only [mS_cL, mS_cI, mS_cR, mR_cL, mR_cI]; first | assumption | exact hcr _ | fail)) only [tX12_wideAt_0, tX12_wideAt_1, tX12_wideAt_4, tX12_wideAt_5, tX12_wideAt_8, tX12_wideAt_10, tX12_wideAt_11, tX12_wideAt_14, tX12_wideAt_15, tX12_wideAt_16, tX12_wideAt_17, tX12_wideAt_20, jK_some, jK_none, jc1_int, jc1_ref, jc1_none, jc1_long, jc1_null, jc1_rf, va_rf_some, va_rf_none, mI_cI, mL_cL, mR_cR, cI_cI, cL_cL, jup_eq, jne_1, jne_2, Nat.add_left_cancel_iff, mL_cI, mR_cI, mS_cI, mN_cI, mI_cL, mR_cL, mS_cL, mN_cL, mI_cR, mL_cR, mS_cR, mN_cR, true_and, and_true, true_or, or_true, if_true, if_false, jBool_0, jBool_1, Nat.le_refl, Nat.reduceLeDiff, Nat.reduceEqDiff, Nat.reduceAdd, Nat.reduceSub, reduceIte, Int32.reduceLT, Int32.reduceLE, ne_eq, not_false_eq_true, not_true_eq_false, false_or, or_false, and_false, false_and, reduceCtorEq, jn_4, jn_6, jn_8, jn_9, jn_12, jn_60, jn_100, jn_200, jn_400, jn_600, jn_601, jn_3600, jI_4, jI_6, jI_8, jI_9, jI_12, jI_60, jI_100, jI_200, jI_400, jI_600, jI_601, jI_3600, va_cpy_00, jx_0, jx_6, jx_12, jx_400, jx_600, nI_1, nx_5e, nx_l6, nx_l12, nx_l100, nx_l200, nx_l400, nx_l600, nx_l601, nx_l3600, nx_pos, nx_posN, nx_neg1, nx_m1neg, nx_leF, nx_leT, nx_ltF, nx_ltT, nx_mul6, nI_add, nI_1, jx_nI, nx_4, nx_g4, nx_6, nx_g6, nx_8, nx_g8, nx_9, nx_g9, nx_12, nx_g12, nx_14, nx_g14, nx_60, nx_g60, nx_100, nx_g100, nx_200, nx_g200, nx_400, nx_g400, nx_600, nx_g600, nx_601, nx_g601, nx_3600, nx_g3600, h, h0, hS, jI_17, Int32.not_le.mpr h0]
  · obtain ⟨i, hi, rfl⟩ := k_neg (k := 600) h0 hx (by decide)
    simp (config := {decide := true}) (disch := first | omega | assumption | (simp only [mS_cL, mS_cI, mS_cR, mR_cL, mR_cI]; first | assumption | exact hcr _ | fail)) only [tX12_wideAt_0, tX12_wideAt_1, tX12_wideAt_4, tX12_wideAt_5, tX12_wideAt_8, tX12_wideAt_10, tX12_wideAt_11, tX12_wideAt_14, tX12_wideAt_15, tX12_wideAt_16, tX12_wideAt_17, tX12_wideAt_20, jK_some, jK_none, jc1_int, jc1_ref, jc1_none, jc1_long, jc1_null, jc1_rf, va_rf_some, va_rf_none, mI_cI, mL_cL, mR_cR, cI_cI, cL_cL, jup_eq, jne_1, jne_2, Nat.add_left_cancel_iff, mL_cI, mR_cI, mS_cI, mN_cI, mI_cL, mR_cL, mS_cL, mN_cL, mI_cR, mL_cR, mS_cR, mN_cR, true_and, and_true, true_or, or_true, if_true, if_false, jBool_0, jBool_1, Nat.le_refl, Nat.reduceLeDiff, Nat.reduceEqDiff, Nat.reduceAdd, Nat.reduceSub, reduceIte, Int32.reduceLT, Int32.reduceLE, ne_eq, not_false_eq_true, not_true_eq_false, false_or, or_false, and_false, false_and, reduceCtorEq, jn_4, jn_6, jn_8, jn_9, jn_12, jn_60, jn_100, jn_200, jn_400, jn_600, jn_601, jn_3600, jI_4, jI_6, jI_8, jI_9, jI_12, jI_60, jI_100, jI_200, jI_400, jI_600, jI_601, jI_3600, va_cpy_00, jx_0, jx_6, jx_12, jx_400, jx_600, nI_1, nx_5e, nx_l6, nx_l12, nx_l100, nx_l200, nx_l400, nx_l600, nx_l601, nx_l3600, nx_pos, nx_posN, nx_neg1, nx_m1neg, nx_leF, nx_leT, nx_ltF, nx_ltT, nx_mul6, nI_add, nI_1, jx_nI, nx_4, nx_g4, nx_6, nx_g6, nx_8, nx_g8, nx_9, nx_g9, nx_12, nx_g12, nx_14, nx_g14, nx_60, nx_g60, nx_100, nx_g100, nx_200, nx_g200, nx_400, nx_g400, nx_600, nx_g600, nx_601, nx_g601, nx_3600, nx_g3600, h, hR, c_M_rowOf0]
def mDk (m : jmM) (c : Nat) (q : (Nat → Int64) × Nat) : jmM := cL (cI m c (jup (mI m c) 21 (nI q.2))) (c + 10) q.1
theorem mDk_mDk {q r : (Nat → Int64) × Nat} : mDk (mDk m c q) c r = mDk m c r := by
  unfold mDk; rw [mI_cL, mI_same, jup_jup, cIL, cI_cI, cL_cL]
theorem mS_mDk {q : (Nat → Int64) × Nat} : mS (mDk m c q) = mS m := rfl
theorem mR_mDk {q : (Nat → Int64) × Nat} : mR (mDk m c q) = mR m := rfl
theorem mI_mDk {b : Nat} {q : (Nat → Int64) × Nat} (h : b ≠ c) : mI (mDk m c q) b = mI m b := by unfold mDk; rw [mI_cL, mI_ne h]
theorem mL_mDk {b : Nat} {q : (Nat → Int64) × Nat} (h : b ≠ c + 10) : mL (mDk m c q) b = mL m b := by unfold mDk; rw [mL_ne h, mL_cI]
theorem c_M_push {q : (Nat → Int64) × Nat} (h : MLay (mS m) (mR m) c) (hq : q.2 < 80) : CC (d + 1) 223 [.ref c, .long X] (mDk m c q) Q ↔ Q none (mDk m c (jup q.1 q.2 X, q.2 + 1)) := by
  rw [nX12_push]
  unfold mDk
  simp (config := {decide := true}) (disch := first | omega | assumption | (simp only [mS_cL, mS_cI, mS_cR, mR_cL, mR_cI]; first | assumption | exact hcr _ | fail)) only [tX12_push_0, tX12_push_1, tX12_push_4, tX12_push_5, tX12_push_8, tX12_push_9, tX12_push_10, tX12_push_11, tX12_push_12, tX12_push_15, tX12_push_16, tX12_push_17, tX12_push_20, jK_some, jK_none, jc1_int, jc1_ref, jc1_none, jc1_long, jc1_null, jc1_rf, va_rf_some, va_rf_none, mI_cI, mL_cL, mR_cR, cI_cI, cL_cL, jup_eq, jne_1, jne_2, Nat.add_left_cancel_iff, mL_cI, mR_cI, mS_cI, mN_cI, mI_cL, mR_cL, mS_cL, mN_cL, mI_cR, mL_cR, mS_cR, mN_cR, true_and, and_true, true_or, or_true, if_true, if_false, jBool_0, jBool_1, Nat.le_refl, Nat.reduceLeDiff, Nat.reduceEqDiff, Nat.reduceAdd, Nat.reduceSub, reduceIte, Int32.reduceLT, Int32.reduceLE, ne_eq, not_false_eq_true, not_true_eq_false, false_or, or_false, and_false, false_and, reduceCtorEq, jn_4, jn_6, jn_8, jn_9, jn_12, jn_60, jn_100, jn_200, jn_400, jn_600, jn_601, jn_3600, jI_4, jI_6, jI_8, jI_9, jI_12, jI_60, jI_100, jI_200, jI_400, jI_600, jI_601, jI_3600, va_cpy_00, jx_0, jx_6, jx_12, jx_400, jx_600, nI_1, h, nx_5e, nx_l6, nx_l12, nx_l100, nx_l200, nx_l400, nx_l600, nx_l601, nx_l3600, nx_pos, nx_posN, nx_neg1, nx_m1neg, nx_leF, nx_leT, nx_ltF, nx_ltT, nx_mul6, nI_add, nI_1, jx_nI, nx_4, nx_g4, nx_6, nx_g6, nx_8, nx_g8, nx_9, nx_g9, nx_12, nx_g12, nx_14, nx_g14, nx_60, nx_g60, nx_100, nx_g100, nx_200, nx_g200, nx_400, nx_g400, nx_600, nx_g600, nx_601, nx_g601, nx_3600, nx_g3600, nx_80, cIL, jup_jup]
theorem c_M_pop {q : (Nat → Int64) × Nat} (h : MLay (mS m) (mR m) c) (h0 : 0 < q.2) (hq : q.2 ≤ 80) : CC (d + 1) 224 [.ref c] (mDk m c q) Q ↔ Q (some (.long (q.1 (q.2 - 1)))) (mDk m c (q.1, q.2 - 1)) := by
  rw [nX12_pop]
  unfold mDk
  have e : nI q.2 - 1 = nI (q.2 - 1) := by rw [show nI q.2 = nI (q.2 - 1 + 1) by rw [Nat.sub_add_cancel h0], nI_pred]
  simp (config := {decide := true}) (disch := first | omega | assumption | (simp only [mS_cL, mS_cI, mS_cR, mR_cL, mR_cI]; first | assumption | exact hcr _ | fail)) only [tX12_pop_0, tX12_pop_1, tX12_pop_2, tX12_pop_5, tX12_pop_6, tX12_pop_7, tX12_pop_10, tX12_pop_11, tX12_pop_14, tX12_pop_15, tX12_pop_18, tX12_pop_19, jK_some, jK_none, jc1_int, jc1_ref, jc1_none, jc1_long, jc1_null, jc1_rf, va_rf_some, va_rf_none, mI_cI, mL_cL, mR_cR, cI_cI, cL_cL, jup_eq, jne_1, jne_2, Nat.add_left_cancel_iff, mL_cI, mR_cI, mS_cI, mN_cI, mI_cL, mR_cL, mS_cL, mN_cL, mI_cR, mL_cR, mS_cR, mN_cR, true_and, and_true, true_or, or_true, if_true, if_false, jBool_0, jBool_1, Nat.le_refl, Nat.reduceLeDiff, Nat.reduceEqDiff, Nat.reduceAdd, Nat.reduceSub, reduceIte, Int32.reduceLT, Int32.reduceLE, ne_eq, not_false_eq_true, not_true_eq_false, false_or, or_false, and_false, false_and, reduceCtorEq, jn_4, jn_6, jn_8, jn_9, jn_12, jn_60, jn_100, jn_200, jn_400, jn_600, jn_601, jn_3600, jI_4, jI_6, jI_8, jI_9, jI_12, jI_60, jI_100, jI_200, jI_400, jI_600, jI_601, jI_3600, va_cpy_00, jx_0, jx_6, jx_12, jx_400, jx_600, nI_1, h, nx_5e, nx_l6, nx_l12, nx_l100, nx_l200, nx_l400, nx_l600, nx_l601, nx_l3600, nx_pos, nx_posN, nx_neg1, nx_m1neg, nx_leF, nx_leT, nx_ltF, nx_ltT, nx_mul6, nI_add, nI_1, jx_nI, nx_4, nx_g4, nx_6, nx_g6, nx_8, nx_g8, nx_9, nx_g9, nx_12, nx_g12, nx_14, nx_g14, nx_60, nx_g60, nx_100, nx_g100, nx_200, nx_g200, nx_400, nx_g400, nx_600, nx_g600, nx_601, nx_g601, nx_3600, nx_g3600, nx_80, cIL, jup_jup, e, jI_80]
theorem c_M_one : CC (d + 1) 225 [.int x, .long X, .long Y] m Q ↔ Q (some (.long (kOne x X Y))) m := by
  rw [nX12_one]
  unfold kOne
  simp (config := {decide := true}) (disch := first | omega | assumption | (simp only [mS_cL, mS_cI, mS_cR, mR_cL, mR_cI]; first | assumption | exact hcr _ | fail)) only [tX12_one_0, tX12_one_1, tX12_one_60, tX12_one_61, tX12_one_62, tX12_one_63, tX12_one_64, tX12_one_65, tX12_one_66, tX12_one_67, tX12_one_68, tX12_one_69, tX12_one_70, tX12_one_71, tX12_one_72, tX12_one_73, tX12_one_74, tX12_one_75, tX12_one_78, tX12_one_79, tX12_one_82, tX12_one_83, tX12_one_84, tX12_one_85, tX12_one_86, tX12_one_87, tX12_one_88, tX12_one_89, tX12_one_92, tX12_one_93, tX12_one_96, tX12_one_97, tX12_one_98, tX12_one_99, tX12_one_100, tX12_one_101, tX12_one_104, tX12_one_105, tX12_one_108, tX12_one_109, tX12_one_110, tX12_one_111, tX12_one_112, tX12_one_113, tX12_one_116, tX12_one_117, tX12_one_120, tX12_one_121, tX12_one_122, tX12_one_123, tX12_one_124, tX12_one_125, tX12_one_128, tX12_one_129, tX12_one_132, tX12_one_133, tX12_one_134, tX12_one_135, tX12_one_136, tX12_one_137, tX12_one_140, tX12_one_141, tX12_one_144, tX12_one_145, tX12_one_146, tX12_one_147, tX12_one_148, tX12_one_149, tX12_one_150, tX12_one_151, tX12_one_152, tX12_one_153, jK_some, jK_none, jc1_int, jc1_ref, jc1_none, jc1_long, jc1_null, jc1_rf, va_rf_some, va_rf_none, mI_cI, mL_cL, mR_cR, cI_cI, cL_cL, jup_eq, jne_1, jne_2, Nat.add_left_cancel_iff, mL_cI, mR_cI, mS_cI, mN_cI, mI_cL, mR_cL, mS_cL, mN_cL, mI_cR, mL_cR, mS_cR, mN_cR, true_and, and_true, true_or, or_true, if_true, if_false, jBool_0, jBool_1, Nat.le_refl, Nat.reduceLeDiff, Nat.reduceEqDiff, Nat.reduceAdd, Nat.reduceSub, reduceIte, Int32.reduceLT, Int32.reduceLE, ne_eq, not_false_eq_true, not_true_eq_false, false_or, or_false, and_false, false_and, reduceCtorEq, jn_4, jn_6, jn_8, jn_9, jn_12, jn_60, jn_100, jn_200, jn_400, jn_600, jn_601, jn_3600, jI_4, jI_6, jI_8, jI_9, jI_12, jI_60, jI_100, jI_200, jI_400, jI_600, jI_601, jI_3600, va_cpy_00, jx_0, jx_6, jx_12, jx_400, jx_600, nI_1, lgc_lt, lgc_gt, lgc_le, lgc_ge, lgc_eq]
  grind [Int64.not_lt, Int64.not_le]
end MSM

