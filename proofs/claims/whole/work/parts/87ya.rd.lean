/-! ===== the reference's clauses: a rule ===== -/
/-- what reading a text may change, the nM part aside -/
def FrM (x : Nat) (B B' : jmM) : Prop := B'.2 = B.2 ∧ (∀ c, c ≠ 195 → (c < 199 ∨ 203 < c) → mI B' c = mI B c) ∧ (∀ j, j ≠ 19 → mI B' 195 j = mI B 195 j) ∧ (∀ j, (j < 60 * x ∨ 60 * x + 60 ≤ j) → mI B' 199 j = mI B 199 j) ∧ ∀ c, 200 ≤ c → c ≤ 203 → ∀ j, j ≠ x → mI B' c j = mI B c j
def s199 (f : Nat → Int32) (b : Nat) (k a t c e : Int32) : Nat → Int32 := jup (jup (jup (jup (jup f b k) (b + 1) a) (b + 2) t) (b + 3) c) (b + 4) e
def cSB (B : jmM) (x r : Nat) (k a t c e : Int32) : jmM := cI (cI B 199 (s199 (mI B 199) (60 * x + 5 * r) k a t c e)) 200 (jup (mI B 200) x (nI (r + 1)))
section CLS
variable {d : Nat} {B B' B2 : jmM} {T : Nat → Int32} {x z i p n k r c : Nat} {t w a v : Int32} {V : Int64} {F O f : Nat → Int32} {Q : Option Value → jmM → Prop}
theorem FrM_refl : FrM x B B := ⟨rfl, fun _ _ _ => rfl, fun _ _ => rfl, fun _ _ => rfl, fun _ _ _ _ _ => rfl⟩
theorem FrM_trans (h1 : FrM x B B') (h2 : FrM x B' B2) : FrM x B B2 := by
  obtain ⟨a1, a2, a3, a4, a5⟩ := h1
  obtain ⟨b1, b2, b3, b4, b5⟩ := h2
  exact ⟨b1.trans a1, fun c h1 h2 => (b2 c h1 h2).trans (a2 c h1 h2), fun j hj => (b3 j hj).trans (a3 j hj), fun j hj => (b4 j hj).trans (a4 j hj), fun c h1 h2 j hj => (b5 c h1 h2 j hj).trans (a5 c h1 h2 j hj)⟩
theorem FrM_S (h : FrM x B B') : mS B' = mS B := by unfold mS; rw [h.1]
theorem FrM_R (h : FrM x B B') : mR B' = mR B := by unfold mR; rw [h.1]
theorem FrM_199 (hf : ∀ j, (j < 60 * x ∨ 60 * x + 60 ≤ j) → f j = mI B 199 j) : FrM x B (cI B 199 f) := by
  refine ⟨rfl, fun c h1 h2 => mI_ne (by omega), fun j hj => by rw [mI_ne (by decide)], fun j hj => by rw [mI_same]; exact hf j hj, fun c h1 h2 j hj => by rw [mI_ne (by omega)]⟩
theorem FrM_row (h1 : 200 ≤ c) (h2 : c ≤ 203) : FrM x B (cI B c (jup (mI B c) x v)) := by
  refine ⟨rfl, fun b h3 h4 => mI_ne (by omega), fun j hj => by rw [mI_ne (by omega)], fun j hj => by rw [mI_ne (by omega)], fun b h3 h4 j hj => ?_⟩
  by_cases e : b = c
  · rw [e, mI_same, jup_ne hj]
  · rw [mI_ne e]
theorem FrM_19 : FrM x B (cI B 195 (jup (mI B 195) 19 v)) := by
  refine ⟨rfl, fun c h1 h2 => mI_ne h1, fun j hj => by rw [mI_same, jup_ne hj], fun j hj => by rw [mI_ne (by decide)], fun c h1 h2 j hj => by rw [mI_ne (by omega)]⟩
theorem NB_fr (h : NB B T x z) (f : FrM x B B') : NB B' T x z := by
  have e1 := FrM_S f
  have e2 := FrM_R f
  obtain ⟨f1, f2, f3, f4, f5⟩ := f
  obtain ⟨h1, h2, h3, h4, h5, h6, h7⟩ := h
  refine ⟨by rw [e1, e2]; exact h1, h2, (f3 14 (by decide)).trans h3, h4, (f3 1 (by decide)).trans h5, ?_, ?_⟩
  · rw [f2 196 (by decide) (by decide)]; exact h6
  · rw [f2 196 (by decide) (by decide)]; exact h7
theorem jup2_out {b j q : Nat} {y : Int32} (h : j ≠ q) (h2 : f j = mI B b j) : jup f q y j = mI B b j := by rw [jup_ne h]; exact h2
theorem FrM_s199 {k' a' t' c' e' : Int32} (hr : r < 12) : FrM x B (cI B 199 (s199 (mI B 199) (60 * x + 5 * r) k' a' t' c' e')) :=
  FrM_199 (fun j hj => by
    unfold s199
    rw [jup_ne (by omega), jup_ne (by omega), jup_ne (by omega), jup_ne (by omega), jup_ne (by omega)])
theorem FrM_cSB {k' a' t' c' e' : Int32} (hr : r < 12) : FrM x B (cSB B x r k' a' t' c' e') := by
  unfold cSB
  have e1 := FrM_s199 (B := B) (x := x) (k' := k') (a' := a') (t' := t') (c' := c') (e' := e') hr
  have e2 : mI (cI B 199 (s199 (mI B 199) (60 * x + 5 * r) k' a' t' c' e')) 200 = mI B 200 := mI_ne (by decide)
  have e3 := FrM_row (x := x) (B := cI B 199 (s199 (mI B 199) (60 * x + 5 * r) k' a' t' c' e')) (c := 200) (v := nI (r + 1)) (by decide) (by decide)
  rw [e2] at e3
  exact FrM_trans e1 e3
theorem n_takesWord (h : NB B T x z) (hi : i ≤ z) : CC (d + 3) 200 [.ref 195, .long V] (nM B x i t w p n k F O a) Q ↔ if rPkW T (rSk T i) V = true then Q (some (.int 1)) (nM B x (rEnd T (rSk T i)) t w p n k F O a) else Q (some (.int 0)) (nM B x (rSk T i) t w p n k F O a) := by
  have hml := h.1
  have hs' := n_Sk h hi
  rw [nX12_takesWord]
  by_cases e : rPkW T (rSk T i) V = true
  · simp (config := {decide := true}) (disch := first | omega | assumption | (simp only [mS_cL, mS_cI, mS_cR, mR_cL, mR_cI]; first | assumption | exact hcr _ | fail)) only [tX12_takesWord_0, tX12_takesWord_1, tX12_takesWord_2, tX12_takesWord_5, tX12_takesWord_8, tX12_takesWord_9, tX12_takesWord_10, tX12_takesWord_11, tX12_takesWord_14, tX12_takesWord_15, jK_some, jK_none, jc1_int, jc1_ref, jc1_none, jc1_long, jc1_null, jc1_rf, va_rf_some, va_rf_none, mI_cI, mL_cL, mR_cR, cI_cI, cL_cL, jup_eq, jne_1, jne_2, Nat.add_left_cancel_iff, mL_cI, mR_cI, mS_cI, mN_cI, mI_cL, mR_cL, mS_cL, mN_cL, mI_cR, mL_cR, mS_cR, mN_cR, true_and, and_true, true_or, or_true, if_true, if_false, jBool_0, jBool_1, Nat.le_refl, Nat.reduceLeDiff, Nat.reduceEqDiff, Nat.reduceAdd, Nat.reduceSub, reduceIte, Int32.reduceLT, Int32.reduceLE, ne_eq, not_false_eq_true, not_true_eq_false, false_or, or_false, and_false, false_and, reduceCtorEq, jn_4, jn_6, jn_8, jn_9, jn_12, jn_60, jn_100, jn_200, jn_400, jn_600, jn_601, jn_3600, jI_4, jI_6, jI_8, jI_9, jI_12, jI_60, jI_100, jI_200, jI_400, jI_600, jI_601, jI_3600, va_cpy_00, jx_0, jx_6, jx_12, jx_400, jx_600, nI_1, hml, nM_S, nM_R, n_isWord h hi, e, n_passWord h hs']
  · simp (config := {decide := true}) (disch := first | omega | assumption | (simp only [mS_cL, mS_cI, mS_cR, mR_cL, mR_cI]; first | assumption | exact hcr _ | fail)) only [tX12_takesWord_0, tX12_takesWord_1, tX12_takesWord_2, tX12_takesWord_5, tX12_takesWord_8, tX12_takesWord_9, tX12_takesWord_10, tX12_takesWord_11, tX12_takesWord_14, tX12_takesWord_15, jK_some, jK_none, jc1_int, jc1_ref, jc1_none, jc1_long, jc1_null, jc1_rf, va_rf_some, va_rf_none, mI_cI, mL_cL, mR_cR, cI_cI, cL_cL, jup_eq, jne_1, jne_2, Nat.add_left_cancel_iff, mL_cI, mR_cI, mS_cI, mN_cI, mI_cL, mR_cL, mS_cL, mN_cL, mI_cR, mL_cR, mS_cR, mN_cR, true_and, and_true, true_or, or_true, if_true, if_false, jBool_0, jBool_1, Nat.le_refl, Nat.reduceLeDiff, Nat.reduceEqDiff, Nat.reduceAdd, Nat.reduceSub, reduceIte, Int32.reduceLT, Int32.reduceLE, ne_eq, not_false_eq_true, not_true_eq_false, false_or, or_false, and_false, false_and, reduceCtorEq, jn_4, jn_6, jn_8, jn_9, jn_12, jn_60, jn_100, jn_200, jn_400, jn_600, jn_601, jn_3600, jI_4, jI_6, jI_8, jI_9, jI_12, jI_60, jI_100, jI_200, jI_400, jI_600, jI_601, jI_3600, va_cpy_00, jx_0, jx_6, jx_12, jx_400, jx_600, nI_1, hml, nM_S, nM_R, n_isWord h hi, e]
theorem rEnd_ge : i ≤ rEnd T i := jfind_le _ _ |>.1
end CLS
