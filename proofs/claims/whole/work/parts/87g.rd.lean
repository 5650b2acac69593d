/-! ===== the reference's reader: its memory ===== -/
def nM (B : jmM) (x i : Nat) (t w : Int32) (p n k : Nat) (F O : Nat → Int32) (a : Int32) : jmM :=
  cI (cI (cI (cI B 195 (jup (jup (jup (jup (jup (jup (mI B 195) 11 (nI i)) 12 w) 13 a) 15 t) 16 (nI p)) 18 (nI n))) 197 (fun j => if 400 * x ≤ j ∧ j < 400 * x + 400 then F (j - 400 * x) else mI B 197 j)) 198 (jup (mI B 198) x (nI k))) 204 O
/-- what the reference reads from -/
def NB (B : jmM) (T : Nat → Int32) (x z : Nat) : Prop := MLay (mS B) (mR B) 195 ∧ x < 12 ∧ mI B 195 14 = nI x ∧ z ≤ 400 ∧ mI B 195 1 = nI z ∧ (∀ i, i < z → isB (mI B 196 i)) ∧ ∀ i, T i = if i < z then mI B 196 i &&& 255 else -1
section NMM
variable {B : jmM} {x i i' p p' n n' k k' : Nat} {t t' w w' a a' v : Int32} {F F' O O' : Nat → Int32}
theorem nM_S : mS (nM B x i t w p n k F O a) = mS B := rfl
theorem nM_R : mR (nM B x i t w p n k F O a) = mR B := rfl
theorem nM_tape : mI (nM B x i t w p n k F O a) 196 = mI B 196 := rfl
theorem nM_taped : mI (nM B x i t w p n k F O a) 195 1 = mI B 195 1 := rfl
theorem nM_text : mI (nM B x i t w p n k F O a) 195 14 = mI B 195 14 := rfl
theorem nM_next : mI (nM B x i t w p n k F O a) 195 11 = nI i := rfl
theorem nM_wrong : mI (nM B x i t w p n k F O a) 195 12 = w := rfl
theorem nM_said : mI (nM B x i t w p n k F O a) 195 13 = a := rfl
theorem nM_made : mI (nM B x i t w p n k F O a) 195 15 = t := rfl
theorem nM_deep : mI (nM B x i t w p n k F O a) 195 16 = nI p := rfl
theorem nM_opened : mI (nM B x i t w p n k F O a) 195 18 = nI n := rfl
theorem nM_open : mI (nM B x i t w p n k F O a) 204 = O := rfl
theorem nM_len : mI (nM B x i t w p n k F O a) 198 x = nI k := jup_same
theorem nM_toNext : cI (nM B x i t w p n k F O a) 195 (jup (mI (nM B x i t w p n k F O a) 195) 11 (nI i')) = nM B x i' t w p n k F O a := by
  refine cI_ext (fun c j => ?_) rfl
  unfold nM jup; simp only [mI_cI]; grind
theorem nM_toWrong : cI (nM B x i t w p n k F O a) 195 (jup (mI (nM B x i t w p n k F O a) 195) 12 w') = nM B x i t w' p n k F O a := by
  refine cI_ext (fun c j => ?_) rfl
  unfold nM jup; simp only [mI_cI]; grind
theorem nM_toSaid : cI (nM B x i t w p n k F O a) 195 (jup (mI (nM B x i t w p n k F O a) 195) 13 a') = nM B x i t w p n k F O a' := by
  refine cI_ext (fun c j => ?_) rfl
  unfold nM jup; simp only [mI_cI]; grind
theorem nM_toMade : cI (nM B x i t w p n k F O a) 195 (jup (mI (nM B x i t w p n k F O a) 195) 15 t') = nM B x i t' w p n k F O a := by
  refine cI_ext (fun c j => ?_) rfl
  unfold nM jup; simp only [mI_cI]; grind
theorem nM_toDeep : cI (nM B x i t w p n k F O a) 195 (jup (mI (nM B x i t w p n k F O a) 195) 16 (nI p')) = nM B x i t w p' n k F O a := by
  refine cI_ext (fun c j => ?_) rfl
  unfold nM jup; simp only [mI_cI]; grind
theorem nM_toOpened : cI (nM B x i t w p n k F O a) 195 (jup (mI (nM B x i t w p n k F O a) 195) 18 (nI n')) = nM B x i t w p n' k F O a := by
  refine cI_ext (fun c j => ?_) rfl
  unfold nM jup; simp only [mI_cI]; grind
theorem nM_toOpen : cI (nM B x i t w p n k F O a) 204 O' = nM B x i t w p n k F O' a := by
  unfold nM; rw [cI_cI]
theorem nM_toLen : cI (nM B x i t w p n k F O a) 198 (jup (mI (nM B x i t w p n k F O a) 198) x (nI k')) = nM B x i t w p n k' F O a := by
  refine cI_ext (fun c j => ?_) rfl
  unfold nM jup; simp only [mI_cI]; grind
theorem nM_toSign (hk : k' < 400) : cI (nM B x i t w p n k F O a) 197 (jup (mI (nM B x i t w p n k F O a) 197) (400 * x + k') v) = nM B x i t w p n k (jup F k' v) O a := by
  refine cI_ext (fun c j => ?_) rfl
  unfold nM jup; simp only [mI_cI]; grind
end NMM
theorem k_byte8 : ∀ b : BitVec 8, ((Int8.ofBitVec b).toInt32 = 32 ↔ (Int8.ofBitVec b).toInt32 &&& 255 = 32) ∧ ((Int8.ofBitVec b).toInt32 = 61 ↔ (Int8.ofBitVec b).toInt32 &&& 255 = 61) ∧ rLet ((Int8.ofBitVec b).toInt32 &&& 255) = rLet (Int8.ofBitVec b).toInt32 ∧ rDig ((Int8.ofBitVec b).toInt32 &&& 255) = rDig (Int8.ofBitVec b).toInt32 ∧ (rLet (Int8.ofBitVec b).toInt32 = true → (Int8.ofBitVec b).toInt32 &&& 255 = (Int8.ofBitVec b).toInt32) ∧ (rDig (Int8.ofBitVec b).toInt32 = true → (Int8.ofBitVec b).toInt32 &&& 255 = (Int8.ofBitVec b).toInt32) := by decide +kernel
theorem k_byte {b : Int32} (h : isB b) : (b = 32 ↔ b &&& 255 = 32) ∧ (b = 61 ↔ b &&& 255 = 61) ∧ rLet (b &&& 255) = rLet b ∧ rDig (b &&& 255) = rDig b ∧ (rLet b = true → b &&& 255 = b) ∧ (rDig b = true → b &&& 255 = b) := by
  have := k_byte8 b.toInt8.toBitVec
  have e : (Int8.ofBitVec b.toInt8.toBitVec).toInt32 = b := h
  rw [e] at this
  exact this
section NML
variable {d : Nat} {B : jmM} {T : Nat → Int32} {x z i p n k j : Nat} {t w a y v : Int32} {F O : Nat → Int32} {Q : Option Value → jmM → Prop}
theorem n_lt (h : NB B T x z) (hx : T i ≠ -1) : i < z := by
  rcases Nat.lt_or_ge i z with h1 | h1
  · exact h1
  · exact absurd ((h.2.2.2.2.2.2 i).trans (if_neg (by omega))) hx
theorem n_fails (h : NB B T x z) : CC (d + 1) 194 [.ref 195, .int y, .int v] (nM B x i t w p n k F O a) Q ↔ Q (some (.int 0)) (nM B x i t (if w = 0 then 1 + 8 * v + y else w) p n k F O a) := by
  obtain ⟨hl, -⟩ := h
  rw [nX12_fails]
  simp (config := {decide := true}) (disch := first | omega | assumption | (simp only [mS_cL, mS_cI, mS_cR, mR_cL, mR_cI]; first | assumption | exact hcr _ | fail)) only [tX12_fails_0, tX12_fails_1, tX12_fails_4, tX12_fails_7, tX12_fails_8, tX12_fails_9, tX12_fails_11, tX12_fails_12, tX12_fails_13, tX12_fails_14, tX12_fails_15, tX12_fails_16, tX12_fails_19, tX12_fails_20, jK_some, jK_none, jc1_int, jc1_ref, jc1_none, jc1_long, jc1_null, jc1_rf, va_rf_some, va_rf_none, mI_cI, mL_cL, mR_cR, cI_cI, cL_cL, jup_eq, jne_1, jne_2, Nat.add_left_cancel_iff, mL_cI, mR_cI, mS_cI, mN_cI, mI_cL, mR_cL, mS_cL, mN_cL, mI_cR, mL_cR, mS_cR, mN_cR, true_and, and_true, true_or, or_true, if_true, if_false, jBool_0, jBool_1, Nat.le_refl, Nat.reduceLeDiff, Nat.reduceEqDiff, Nat.reduceAdd, Nat.reduceSub, reduceIte, Int32.reduceLT, Int32.reduceLE, ne_eq, not_false_eq_true, not_true_eq_false, false_or, or_false, and_false, false_and, reduceCtorEq, jn_4, jn_6, jn_8, jn_9, jn_12, jn_60, jn_100, jn_200, jn_400, jn_600, jn_601, jn_3600, jI_4, jI_6, jI_8, jI_9, jI_12, jI_60, jI_100, jI_200, jI_400, jI_600, jI_601, jI_3600, va_cpy_00, jx_0, jx_6, jx_12, jx_400, jx_600, nI_1, hl, nM_S, nM_R, nM_wrong, nM_toWrong]
  by_cases h0 : w = 0 <;> simp [h0]
theorem n_isLetter (h : NB B T x z) (hj : j < 1000) : CC (d + 1) 197 [.ref 195, .int (nI j)] (nM B x i t w p n k F O a) Q ↔ Q (some (.int (if rLet (T j) then 1 else 0))) (nM B x i t w p n k F O a) := by
  obtain ⟨hl, h2, h3, h4, h5, h6, h7⟩ := h
  rw [nX12_isLetter, h7 j]
  by_cases hz : j < z
  · have e1 : (nI z ≤ nI j) = False := nx_leF hz (by omega)
    have e2 := k_byte (h6 j hz)
    have e3 : j < 400 := by omega
    rw [if_pos hz, e2.2.2.1]
    simp (config := {decide := true}) (disch := first | omega | assumption | (simp only [mS_cL, mS_cI, mS_cR, mR_cL, mR_cI]; first | assumption | exact hcr _ | fail)) only [tX12_isLetter_0, tX12_isLetter_1, tX12_isLetter_2, tX12_isLetter_5, tX12_isLetter_8, tX12_isLetter_9, tX12_isLetter_12, tX12_isLetter_13, tX12_isLetter_14, tX12_isLetter_16, tX12_isLetter_19, tX12_isLetter_20, tX12_isLetter_23, tX12_isLetter_24, tX12_isLetter_25, tX12_isLetter_27, tX12_isLetter_30, tX12_isLetter_31, tX12_isLetter_34, tX12_isLetter_35, jK_some, jK_none, jc1_int, jc1_ref, jc1_none, jc1_long, jc1_null, jc1_rf, va_rf_some, va_rf_none, mI_cI, mL_cL, mR_cR, cI_cI, cL_cL, jup_eq, jne_1, jne_2, Nat.add_left_cancel_iff, mL_cI, mR_cI, mS_cI, mN_cI, mI_cL, mR_cL, mS_cL, mN_cL, mI_cR, mL_cR, mS_cR, mN_cR, true_and, and_true, true_or, or_true, if_true, if_false, jBool_0, jBool_1, Nat.le_refl, Nat.reduceLeDiff, Nat.reduceEqDiff, Nat.reduceAdd, Nat.reduceSub, reduceIte, Int32.reduceLT, Int32.reduceLE, ne_eq, not_false_eq_true, not_true_eq_false, false_or, or_false, and_false, false_and, reduceCtorEq, jn_4, jn_6, jn_8, jn_9, jn_12, jn_60, jn_100, jn_200, jn_400, jn_600, jn_601, jn_3600, jI_4, jI_6, jI_8, jI_9, jI_12, jI_60, jI_100, jI_200, jI_400, jI_600, jI_601, jI_3600, va_cpy_00, jx_0, jx_6, jx_12, jx_400, jx_600, nI_1, nx_5e, nx_l6, nx_l12, nx_l100, nx_l200, nx_l400, nx_l600, nx_l601, nx_l3600, nx_pos, nx_posN, nx_neg1, nx_m1neg, nx_leF, nx_leT, nx_ltF, nx_ltT, nx_mul6, nI_add, nI_1, jx_nI, nx_4, nx_g4, nx_6, nx_g6, nx_8, nx_g8, nx_9, nx_g9, nx_12, nx_g12, nx_14, nx_g14, nx_60, nx_g60, nx_100, nx_g100, nx_200, nx_g200, nx_400, nx_g400, nx_600, nx_g600, nx_601, nx_g601, nx_3600, nx_g3600, hl, nM_S, nM_R, nM_taped, h5, e1, nM_tape, jIx_nI]
    unfold rLet
    generalize mI B 196 j = b
    grind [Int32.not_lt, Int32.not_le]
  · have e1 : (nI z ≤ nI j) = True := nx_leT (by omega) (by omega)
    rw [if_neg hz]
    simp (config := {decide := true}) (disch := first | omega | assumption | (simp only [mS_cL, mS_cI, mS_cR, mR_cL, mR_cI]; first | assumption | exact hcr _ | fail)) only [tX12_isLetter_0, tX12_isLetter_1, tX12_isLetter_2, tX12_isLetter_5, tX12_isLetter_8, tX12_isLetter_9, tX12_isLetter_12, tX12_isLetter_13, tX12_isLetter_14, tX12_isLetter_16, tX12_isLetter_19, tX12_isLetter_20, tX12_isLetter_23, tX12_isLetter_24, tX12_isLetter_25, tX12_isLetter_27, tX12_isLetter_30, tX12_isLetter_31, tX12_isLetter_34, tX12_isLetter_35, jK_some, jK_none, jc1_int, jc1_ref, jc1_none, jc1_long, jc1_null, jc1_rf, va_rf_some, va_rf_none, mI_cI, mL_cL, mR_cR, cI_cI, cL_cL, jup_eq, jne_1, jne_2, Nat.add_left_cancel_iff, mL_cI, mR_cI, mS_cI, mN_cI, mI_cL, mR_cL, mS_cL, mN_cL, mI_cR, mL_cR, mS_cR, mN_cR, true_and, and_true, true_or, or_true, if_true, if_false, jBool_0, jBool_1, Nat.le_refl, Nat.reduceLeDiff, Nat.reduceEqDiff, Nat.reduceAdd, Nat.reduceSub, reduceIte, Int32.reduceLT, Int32.reduceLE, ne_eq, not_false_eq_true, not_true_eq_false, false_or, or_false, and_false, false_and, reduceCtorEq, jn_4, jn_6, jn_8, jn_9, jn_12, jn_60, jn_100, jn_200, jn_400, jn_600, jn_601, jn_3600, jI_4, jI_6, jI_8, jI_9, jI_12, jI_60, jI_100, jI_200, jI_400, jI_600, jI_601, jI_3600, va_cpy_00, jx_0, jx_6, jx_12, jx_400, jx_600, nI_1, nx_5e, nx_l6, nx_l12, nx_l100, nx_l200, nx_l400, nx_l600, nx_l601, nx_l3600, nx_pos, nx_posN, nx_neg1, nx_m1neg, nx_leF, nx_leT, nx_ltF, nx_ltT, nx_mul6, nI_add, nI_1, jx_nI, nx_4, nx_g4, nx_6, nx_g6, nx_8, nx_g8, nx_9, nx_g9, nx_12, nx_g12, nx_14, nx_g14, nx_60, nx_g60, nx_100, nx_g100, nx_200, nx_g200, nx_400, nx_g400, nx_600, nx_g600, nx_601, nx_g601, nx_3600, nx_g3600, hl, nM_S, nM_R, nM_taped, h5, e1, nM_tape]
theorem n_isDigit (h : NB B T x z) (hj : j < 1000) : CC (d + 1) 196 [.ref 195, .int (nI j)] (nM B x i t w p n k F O a) Q ↔ Q (some (.int (if rDig (T j) then 1 else 0))) (nM B x i t w p n k F O a) := by
  obtain ⟨hl, h2, h3, h4, h5, h6, h7⟩ := h
  rw [nX12_isDigit, h7 j]
  by_cases hz : j < z
  · have e1 : (nI z ≤ nI j) = False := nx_leF hz (by omega)
    have e2 := k_byte (h6 j hz)
    have e3 : j < 400 := by omega
    rw [if_pos hz, e2.2.2.2.1]
    simp (config := {decide := true}) (disch := first | omega | assumption | (simp only [mS_cL, mS_cI, mS_cR, mR_cL, mR_cI]; first | assumption | exact hcr _ | fail)) only [tX12_isDigit_0, tX12_isDigit_1, tX12_isDigit_2, tX12_isDigit_5, tX12_isDigit_8, tX12_isDigit_9, tX12_isDigit_12, tX12_isDigit_13, tX12_isDigit_14, tX12_isDigit_16, tX12_isDigit_19, tX12_isDigit_20, tX12_isDigit_23, tX12_isDigit_24, tX12_isDigit_25, tX12_isDigit_27, tX12_isDigit_30, tX12_isDigit_31, tX12_isDigit_34, tX12_isDigit_35, jK_some, jK_none, jc1_int, jc1_ref, jc1_none, jc1_long, jc1_null, jc1_rf, va_rf_some, va_rf_none, mI_cI, mL_cL, mR_cR, cI_cI, cL_cL, jup_eq, jne_1, jne_2, Nat.add_left_cancel_iff, mL_cI, mR_cI, mS_cI, mN_cI, mI_cL, mR_cL, mS_cL, mN_cL, mI_cR, mL_cR, mS_cR, mN_cR, true_and, and_true, true_or, or_true, if_true, if_false, jBool_0, jBool_1, Nat.le_refl, Nat.reduceLeDiff, Nat.reduceEqDiff, Nat.reduceAdd, Nat.reduceSub, reduceIte, Int32.reduceLT, Int32.reduceLE, ne_eq, not_false_eq_true, not_true_eq_false, false_or, or_false, and_false, false_and, reduceCtorEq, jn_4, jn_6, jn_8, jn_9, jn_12, jn_60, jn_100, jn_200, jn_400, jn_600, jn_601, jn_3600, jI_4, jI_6, jI_8, jI_9, jI_12, jI_60, jI_100, jI_200, jI_400, jI_600, jI_601, jI_3600, va_cpy_00, jx_0, jx_6, jx_12, jx_400, jx_600, nI_1, nx_5e, nx_l6, nx_l12, nx_l100, nx_l200, nx_l400, nx_l600, nx_l601, nx_l3600, nx_pos, nx_posN, nx_neg1, nx_m1neg, nx_leF, nx_leT, nx_ltF, nx_ltT, nx_mul6, nI_add, nI_1, jx_nI, nx_4, nx_g4, nx_6, nx_g6, nx_8, nx_g8, nx_9, nx_g9, nx_12, nx_g12, nx_14, nx_g14, nx_60, nx_g60, nx_100, nx_g100, nx_200, nx_g200, nx_400, nx_g400, nx_600, nx_g600, nx_601, nx_g601, nx_3600, nx_g3600, hl, nM_S, nM_R, nM_taped, h5, e1, nM_tape, jIx_nI]
    unfold rDig
    generalize mI B 196 j = b
    grind [Int32.not_lt, Int32.not_le]
  · have e1 : (nI z ≤ nI j) = True := nx_leT (by omega) (by omega)
    rw [if_neg hz]
    simp (config := {decide := true}) (disch := first | omega | assumption | (simp only [mS_cL, mS_cI, mS_cR, mR_cL, mR_cI]; first | assumption | exact hcr _ | fail)) only [tX12_isDigit_0, tX12_isDigit_1, tX12_isDigit_2, tX12_isDigit_5, tX12_isDigit_8, tX12_isDigit_9, tX12_isDigit_12, tX12_isDigit_13, tX12_isDigit_14, tX12_isDigit_16, tX12_isDigit_19, tX12_isDigit_20, tX12_isDigit_23, tX12_isDigit_24, tX12_isDigit_25, tX12_isDigit_27, tX12_isDigit_30, tX12_isDigit_31, tX12_isDigit_34, tX12_isDigit_35, jK_some, jK_none, jc1_int, jc1_ref, jc1_none, jc1_long, jc1_null, jc1_rf, va_rf_some, va_rf_none, mI_cI, mL_cL, mR_cR, cI_cI, cL_cL, jup_eq, jne_1, jne_2, Nat.add_left_cancel_iff, mL_cI, mR_cI, mS_cI, mN_cI, mI_cL, mR_cL, mS_cL, mN_cL, mI_cR, mL_cR, mS_cR, mN_cR, true_and, and_true, true_or, or_true, if_true, if_false, jBool_0, jBool_1, Nat.le_refl, Nat.reduceLeDiff, Nat.reduceEqDiff, Nat.reduceAdd, Nat.reduceSub, reduceIte, Int32.reduceLT, Int32.reduceLE, ne_eq, not_false_eq_true, not_true_eq_false, false_or, or_false, and_false, false_and, reduceCtorEq, jn_4, jn_6, jn_8, jn_9, jn_12, jn_60, jn_100, jn_200, jn_400, jn_600, jn_601, jn_3600, jI_4, jI_6, jI_8, jI_9, jI_12, jI_60, jI_100, jI_200, jI_400, jI_600, jI_601, jI_3600, va_cpy_00, jx_0, jx_6, jx_12, jx_400, jx_600, nI_1, nx_5e, nx_l6, nx_l12, nx_l100, nx_l200, nx_l400, nx_l600, nx_l601, nx_l3600, nx_pos, nx_posN, nx_neg1, nx_m1neg, nx_leF, nx_leT, nx_ltF, nx_ltT, nx_mul6, nI_add, nI_1, jx_nI, nx_4, nx_g4, nx_6, nx_g6, nx_8, nx_g8, nx_9, nx_g9, nx_12, nx_g12, nx_14, nx_g14, nx_60, nx_g60, nx_100, nx_g100, nx_200, nx_g200, nx_400, nx_g400, nx_600, nx_g600, nx_601, nx_g601, nx_3600, nx_g3600, hl, nM_S, nM_R, nM_taped, h5, e1, nM_tape]
end NML
