/-! ===== a FACT, in both ===== -/
def CH (d : Nat) (B : jmM) (T : Nat → Int32) (x z dp : Nat) (lst : Int32) (N : Nat → Prop) (g : RS → RS) : Prop :=
  ∀ (s : RS) (tt n : Nat) (FM O : Nat → Int32) (a : Int32) (L2 lc : Option Value) (Q : Option Value → jmM → Prop), G0 z s tt → s.2.2.2.1 + n ≤ s.1 → (∀ j, j < s.2.2.2.1 → FM j = kTr (s.2.2.2.2 j)) → (n = 0 ∨ kStr (O (n - 1)) < lst) →
    ((g s).2.2.1 = 0 → ∀ L2 FM' O' a' c, Pd lst (g s).2.2.2.2 (g s).2.2.2.1 n c FM' O' → (∀ q, q < c → kStr (O' (n + q)) < 3) → (∀ j, j < n → O' j = O j) → N (rSk T (g s).1) → AF d L2 (nM B x (g s).1 (g s).2.1 0 dp (n + c) ((g s).2.2.2.1 - c) FM' O' a') Q) →
    ((g s).2.2.1 ≠ 0 → ER B x (g s).2.2.1 Q) → HF d L2 lc (nM B x s.1 (nI tt) 0 dp n s.2.2.2.1 FM O a) Q
section CLU
variable {d : Nat} {B Bx : jmM} {T : Nat → Int32} {x z dp i p n k K c j q tt : Nat} {t w a u v lst lst' : Int32} {F FM O : Nat → Int32} {L2 : Option Value} {Q : Option Value → jmM → Prop} {inF inT : RS → RS}
abbrev Nt (T : Nat → Int32) (i : Nat) : Prop := (True ∧ rMat T (jW 14) i = false) ∧ rMat T (jW 15) i = false
theorem HF_ret (hml : MLay (mS B) (mR B) 195) (hQ : AF d L2 (nM B x i t w p n k F O a) Q) : jK (d + 7) 216 10 [some (.ref 195), some (.int 1), L2] [] Q (some (.int 1)) (nM B x i t w p n k F O a) := by
  simp (config := {decide := true}) (disch := first | omega | assumption | (simp only [mS_cL, mS_cI, mS_cR, mR_cL, mR_cI]; first | assumption | exact hcr _ | fail)) only [tX12_test_10, tX12_test_13, tX12_test_14, tX12_test_15, tX12_test_16, jK_some, jK_none, jc1_int, jc1_ref, jc1_none, jc1_long, jc1_null, jc1_rf, va_rf_some, va_rf_none, mI_cI, mL_cL, mR_cR, cI_cI, cL_cL, jup_eq, jne_1, jne_2, Nat.add_left_cancel_iff, mL_cI, mR_cI, mS_cI, mN_cI, mI_cL, mR_cL, mS_cL, mN_cL, mI_cR, mL_cR, mS_cR, mN_cR, true_and, and_true, true_or, or_true, if_true, if_false, jBool_0, jBool_1, Nat.le_refl, Nat.reduceLeDiff, Nat.reduceEqDiff, Nat.reduceAdd, Nat.reduceSub, reduceIte, Int32.reduceLT, Int32.reduceLE, ne_eq, not_false_eq_true, not_true_eq_false, false_or, or_false, and_false, false_and, reduceCtorEq, jn_4, jn_6, jn_8, jn_9, jn_12, jn_60, jn_100, jn_200, jn_400, jn_600, jn_601, jn_3600, jI_4, jI_6, jI_8, jI_9, jI_12, jI_60, jI_100, jI_200, jI_400, jI_600, jI_601, jI_3600, va_cpy_00, jx_0, jx_6, jx_12, jx_400, jx_600, nI_1, hml, nM_S, nM_R]
  exact hQ
theorem HF_ret0 (hml : MLay (mS B) (mR B) 195) (hQ : Q (some (.int 0)) (nM B x i t w p n k F O a)) : jK (d + 7) 216 10 [some (.ref 195), some (.int 1), L2] [] Q (some (.int 0)) (nM B x i t w p n k F O a) := by
  simp (config := {decide := true}) (disch := first | omega | assumption | (simp only [mS_cL, mS_cI, mS_cR, mR_cL, mR_cI]; first | assumption | exact hcr _ | fail)) only [tX12_test_10, tX12_test_13, tX12_test_14, tX12_test_15, tX12_test_16, jK_some, jK_none, jc1_int, jc1_ref, jc1_none, jc1_long, jc1_null, jc1_rf, va_rf_some, va_rf_none, mI_cI, mL_cL, mR_cR, cI_cI, cL_cL, jup_eq, jne_1, jne_2, Nat.add_left_cancel_iff, mL_cI, mR_cI, mS_cI, mN_cI, mI_cL, mR_cL, mS_cL, mN_cL, mI_cR, mL_cR, mS_cR, mN_cR, true_and, and_true, true_or, or_true, if_true, if_false, jBool_0, jBool_1, Nat.le_refl, Nat.reduceLeDiff, Nat.reduceEqDiff, Nat.reduceAdd, Nat.reduceSub, reduceIte, Int32.reduceLT, Int32.reduceLE, ne_eq, not_false_eq_true, not_true_eq_false, false_or, or_false, and_false, false_and, reduceCtorEq, jn_4, jn_6, jn_8, jn_9, jn_12, jn_60, jn_100, jn_200, jn_400, jn_600, jn_601, jn_3600, jI_4, jI_6, jI_8, jI_9, jI_12, jI_60, jI_100, jI_200, jI_400, jI_600, jI_601, jI_3600, va_cpy_00, jx_0, jx_6, jx_12, jx_400, jx_600, nI_1, hml, nM_S, nM_R]
  exact hQ
theorem AF_bad (h : NB B T x z) (hi : i ≤ z) (hn : n ≤ 400) (hs : n = 0 ∨ kStr (O (n - 1)) < 3) (hT : T (rSk T i) ≠ 93) (hN : Nt T (rSk T i)) (hj : j < n) (hO : O j = 91)
    (hQ : Q (some (.int 0)) (nM B x (rSk T i) t (1 + 8 * nI (rSk T i) + 0) p n k F O a)) : AF d L2 (nM B x i t 0 p n k F O a) Q := by
  have hml := h.1
  obtain ⟨⟨-, n1⟩, n2⟩ := hN
  have hs' := n_Sk h hi
  have hsk := skip_ne h hi
  refine AF_out h hi hn hs hT ?_
  simp (config := {decide := true}) (disch := first | omega | assumption | (simp only [mS_cL, mS_cI, mS_cR, mR_cL, mR_cI]; first | assumption | exact hcr _ | fail)) only [tX12_test_0, tX12_test_1, tX12_test_3, tX12_test_6, tX12_test_7, tX12_test_10, tX12_test_13, tX12_test_14, tX12_test_15, tX12_test_16, tX12_test_19, tX12_test_20, tX12_test_23, tX12_test_26, tX12_test_29, tX12_test_30, tX12_test_33, tX12_test_36, tX12_test_39, tX12_test_40, tX12_test_43, tX12_test_44, tX12_test_45, tX12_test_46, tX12_test_49, tX12_test_50, tX12_test_53, tX12_test_56, tX12_test_59, tX12_test_61, tX12_test_64, tX12_test_66, tX12_test_67, tX12_test_68, tX12_test_71, tX12_test_72, tX12_test_73, tX12_test_76, tX12_test_77, tX12_test_80, tX12_test_81, tX12_test_84, tX12_test_85, tX12_test_88, tX12_test_89, tX12_test_90, tX12_test_91, tX12_test_92, tX12_test_95, tX12_test_96, tX12_test_97, tX12_test_100, tX12_test_103, tX12_test_104, tX12_test_107, tX12_test_110, tX12_test_111, tX12_test_114, tX12_test_115, tX12_test_116, tX12_test_117, tX12_test_118, tX12_test_121, tX12_test_124, tX12_test_125, tX12_test_126, tX12_test_127, tX12_test_128, tX12_test_131, tX12_test_132, tX12_test_2, jK_some, jK_none, jc1_int, jc1_ref, jc1_none, jc1_long, jc1_null, jc1_rf, va_rf_some, va_rf_none, mI_cI, mL_cL, mR_cR, cI_cI, cL_cL, jup_eq, jne_1, jne_2, Nat.add_left_cancel_iff, mL_cI, mR_cI, mS_cI, mN_cI, mI_cL, mR_cL, mS_cL, mN_cL, mI_cR, mL_cR, mS_cR, mN_cR, true_and, and_true, true_or, or_true, if_true, if_false, jBool_0, jBool_1, Nat.le_refl, Nat.reduceLeDiff, Nat.reduceEqDiff, Nat.reduceAdd, Nat.reduceSub, reduceIte, Int32.reduceLT, Int32.reduceLE, ne_eq, not_false_eq_true, not_true_eq_false, false_or, or_false, and_false, false_and, reduceCtorEq, jn_4, jn_6, jn_8, jn_9, jn_12, jn_60, jn_100, jn_200, jn_400, jn_600, jn_601, jn_3600, jI_4, jI_6, jI_8, jI_9, jI_12, jI_60, jI_100, jI_200, jI_400, jI_600, jI_601, jI_3600, va_cpy_00, jx_0, jx_6, jx_12, jx_400, jx_600, nI_1, hml, nM_S, nM_R, n_isWord h hs', skip_id hsk, rw_and, rw_or, n1, n2, n_hasSquareT (j := j) h hn hj hO, n_see h hs', nM_next, n_fails h]
  exact hQ
theorem rBinL_sk {ca xa cb xb : Int32} {sub : RS → RS} (h : NB B T x z) (ha : ca ≠ -1) (hb : cb ≠ -1) (hG : GD false z sub) : ∀ n s tt, s.1 + n ≥ 400 → G0 z s tt → (rBinL T ca xa cb xb sub n s).2.2.1 = 0 → T (rBinL T ca xa cb xb sub n s).1 ≠ 32
  | 0, s, tt, hn, g0, hf => by
    have := h.2.2.2.1
    have := g0.2.2.2.1
    show T s.1 ≠ 32
    rw [n_Te h (by omega)]; decide
  | n + 1, s, tt, hn, g0, hf => by
    have hz := h.2.2.2.1
    have k2 := rSk_ge (T := T) (i := s.1)
    have key : ∀ o, rSk T s.1 < z → (rBinL T ca xa cb xb sub n (rPut (sub (rSk T s.1 + 1, s.2)) o)).2.2.1 = 0 → T (rBinL T ca xa cb xb sub n (rPut (sub (rSk T s.1 + 1, s.2)) o)).1 ≠ 32 := fun o k3 hr => by
      have e : (sub (rSk T s.1 + 1, s.2)).2.2.1 = 0 := by
        rcases Classical.em ((sub (rSk T s.1 + 1, s.2)).2.2.1 = 0) with e | e
        · exact e
        · exact absurd hr (by rw [rBinL_kp (by rw [rPut_f]; exact e), rPut_f]; exact e)
      have g1 : G0 z (rSk T s.1 + 1, s.2) tt := ⟨g0.1, g0.2.1, g0.2.2.1, k3, by have := g0.2.2.2.2; show s.2.2.2.1 ≤ rSk T s.1 + 1; omega⟩
      obtain ⟨cc, q, hA⟩ := hG _ tt g1 e
      have g2 := GA_0 hA g1 e
      obtain ⟨a1, a2, a3, a4, a5, a6, a7, a8⟩ := hA
      have a4 : (sub (rSk T s.1 + 1, s.2)).2.2.2.1 = s.2.2.2.1 + cc.length := a4
      have a7 : cc.length + (rSk T s.1 + 1) ≤ (sub (rSk T s.1 + 1, s.2)).1 := a7
      have h5 := g0.2.2.2.2
      refine rBinL_sk h ha hb hG n _ (tt + q) (by rw [rPut_1]; omega) ?_ hr
      rw [rPut_lt (by omega)]
      exact ⟨g2.1, g2.2.1, g2.2.2.1, g2.2.2.2.1, by show (sub _).2.2.2.1 + 1 ≤ (sub _).1; omega⟩
    rw [rBinL_st g0.1] at hf ⊢
    by_cases e1 : T (rSk T s.1) = ca
    · rw [if_pos e1] at hf ⊢; exact key xa (n_lt h (by rw [e1]; exact ha)) hf
    · rw [if_neg e1] at hf ⊢
      by_cases e2 : T (rSk T s.1) = cb
      · rw [if_pos e2] at hf ⊢; exact key xb (n_lt h (by rw [e2]; exact hb)) hf
      · rw [if_neg e2] at hf ⊢
        exact skip_ne h g0.2.2.2.1
theorem rSumW_sk {inner : RS → RS} {s : RS} (h : NB B T x z) (hG : GD false z (rTerm T u dp inner)) (g0 : G0 z s tt) (hf : (rSumW T u dp inner s).2.2.1 = 0) : T (rSumW T u dp inner s).1 ≠ 32 := by
  unfold rSumW at *
  have e : (rTerm T u dp inner s).2.2.1 = 0 := by
    rcases Classical.em ((rTerm T u dp inner s).2.2.1 = 0) with e | e
    · exact e
    · exact absurd hf (by rw [rBinL_kp e]; exact e)
  obtain ⟨cc, q, hA⟩ := hG s tt g0 e
  exact rBinL_sk h (by decide) (by decide) hG 400 _ (tt + q) (by omega) (GA_0 hA g0 e) hf
theorem rSum_sk {s : RS} (h : NB B T x z) (hX : XB Bx T z) : ∀ k, k ≤ 10 → G0 z s tt → (rSum T u k s).2.2.1 = 0 → rSk T (rSum T u k s).1 = (rSum T u k s).1
  | 0, _, g0, hf => skip_id (rSumW_sk h (GD_term hX (GD_val hX (Nat.le_refl _) (fun e => absurd e (by decide)))) g0 hf)
  | k + 1, hk, g0, hf => skip_id (rSumW_sk h (GD_term hX (GD_val hX (by omega) (fun _ => GD_sum hX k (by omega)))) g0 hf)
theorem cmp_sk {s : RS} (h : NB B T x z) (hX : XB Bx T z) (hk : k ≤ 10) (g0 : G0 z s tt) (hf : (if (rSign T (rSum T u k s)).2.2.1 = 0 then rPut (rSum T u k (rSign T (rSum T u k s))) (rSgn T (rSk T (rSum T u k s).1)) else rSign T (rSum T u k s)).2.2.1 = 0) : rSk T (if (rSign T (rSum T u k s)).2.2.1 = 0 then rPut (rSum T u k (rSign T (rSum T u k s))) (rSgn T (rSk T (rSum T u k s).1)) else rSign T (rSum T u k s)).1 = (if (rSign T (rSum T u k s)).2.2.1 = 0 then rPut (rSum T u k (rSign T (rSum T u k s))) (rSgn T (rSk T (rSum T u k s).1)) else rSign T (rSum T u k s)).1 := by
  have hz := h.2.2.2.1
  by_cases e6 : (rSign T (rSum T u k s)).2.2.1 = 0
  · rw [if_pos e6] at hf ⊢
    have f1 : (rSum T u k s).2.2.1 = 0 := by
      rcases Classical.em ((rSum T u k s).2.2.1 = 0) with e | e
      · exact e
      · exact absurd e6 (by rw [rSign_kp e]; exact e)
    obtain ⟨c, q, ha⟩ := GD_sum (u := u) hX k hk s tt g0 f1
    have g1 := GA_0 ha g0 f1
    have m1 := n_Sk h g1.2.2.2.1
    have m2 := rSk_ge (T := T) (i := (rSum T u k s).1)
    have m5 := g1.2.2.2.2
    obtain ⟨s1, s2, s3, s4⟩ := rSign_good (by omega) g1.2.1 g1.2.2.1 e6
    have m4 := (rSign_ok hX (s := rSum T u k s) ⟨g1.2.2.2.1, by omega⟩).1
    have m6 : rSk T (rSum T u k s).1 + 1 ≤ (rSign T (rSum T u k s)).1 := by
      rw [s4]; show rSk T (rSum T u k s).1 + 1 ≤ (if rAlso T (rSk T (rSum T u k s).1) then rSk T (rSum T u k s).1 + 2 else rSk T (rSum T u k s).1 + 1); split <;> omega
    rw [rPut_f] at hf
    rw [rPut_1]
    have g3 : G0 z (rSign T (rSum T u k s)) (tt + q + 1) := ⟨e6, by rw [s4], s2, m4, by rw [s4] at m6 ⊢; show (rSum T u k s).2.2.2.1 ≤ _; omega⟩
    exact rSum_sk h hX k hk g3 hf
  · rw [if_neg e6] at hf; exact absurd hf e6
theorem CH_fact (h : NB B T x z) (hX : XB Bx T z) (hu : u = 0 ↔ ¬ x < 4) (hk : dp + k = 10) (kF : kp inF) (kT : kp inT) (hGF : dp < 10 → GD true z inF) (hGT : dp < 10 → GD true z inT) (hF : dp < 10 → CH d B T x z (dp + 1) 7 (fun _ => True) inF) (hT : dp < 10 → CH d B T x z (dp + 1) 1 (Nt T) inT) : CH d B T x z dp 7 (fun _ => True) (rFactW T dp (rSum T u k) inF inT) := by
  intro s tt n FM O a L2 lc Q g0 hkn hFM hs h1 h2
  have hml := h.1
  have hz := h.2.2.2.1
  obtain ⟨g1, g2, g3, g4, g5⟩ := id g0
  have k1 : rSk T s.1 ≤ z := n_Sk h g4
  have k2 := rSk_ge (T := T) (i := s.1)
  have hsk := skip_ne h g4
  unfold HF
  rw [tX12_fact_2]
  unfold rFactW at h1 h2
  by_cases e1 : rMat T (jW 13) (rSk T s.1) = true
  · have hl : rLet (T (rSk T s.1)) = true := rMat_let (by decide) e1
    have k3 : rSk T s.1 < z := n_lt h (fun e => by rw [e] at hl; exact Bool.noConfusion hl)
    have k4 := rEnd_gt (T := T) (i := rSk T s.1) (by omega) hl
    rw [if_pos e1] at h1 h2
    simp (config := {decide := true}) (disch := first | omega | assumption | (simp only [mS_cL, mS_cI, mS_cR, mR_cL, mR_cI]; first | assumption | exact hcr _ | fail)) only [tX12_fact_0, tX12_fact_1, tX12_fact_3, tX12_fact_6, tX12_fact_7, tX12_fact_8, tX12_fact_9, tX12_fact_12, tX12_fact_13, tX12_fact_14, tX12_fact_17, tX12_fact_20, tX12_fact_23, tX12_fact_24, tX12_fact_26, tX12_fact_29, tX12_fact_32, tX12_fact_33, tX12_fact_34, tX12_fact_35, tX12_fact_38, tX12_fact_39, tX12_fact_40, tX12_fact_43, tX12_fact_44, tX12_fact_46, tX12_fact_49, tX12_fact_50, tX12_fact_52, tX12_fact_55, tX12_fact_58, tX12_fact_59, tX12_fact_60, tX12_fact_61, tX12_fact_62, tX12_fact_65, tX12_fact_66, tX12_fact_67, tX12_fact_70, tX12_fact_71, tX12_fact_72, tX12_fact_75, tX12_fact_76, tX12_fact_79, jK_some, jK_none, jc1_int, jc1_ref, jc1_none, jc1_long, jc1_null, jc1_rf, va_rf_some, va_rf_none, mI_cI, mL_cL, mR_cR, cI_cI, cL_cL, jup_eq, jne_1, jne_2, Nat.add_left_cancel_iff, mL_cI, mR_cI, mS_cI, mN_cI, mI_cL, mR_cL, mS_cL, mN_cL, mI_cR, mL_cR, mS_cR, mN_cR, true_and, and_true, true_or, or_true, if_true, if_false, jBool_0, jBool_1, Nat.le_refl, Nat.reduceLeDiff, Nat.reduceEqDiff, Nat.reduceAdd, Nat.reduceSub, reduceIte, Int32.reduceLT, Int32.reduceLE, ne_eq, not_false_eq_true, not_true_eq_false, false_or, or_false, and_false, false_and, reduceCtorEq, jn_4, jn_6, jn_8, jn_9, jn_12, jn_60, jn_100, jn_200, jn_400, jn_600, jn_601, jn_3600, jI_4, jI_6, jI_8, jI_9, jI_12, jI_60, jI_100, jI_200, jI_400, jI_600, jI_601, jI_3600, va_cpy_00, jx_0, jx_6, jx_12, jx_400, jx_600, nI_1, hml, nM_S, nM_R, n_see h g4, n_isWord h k1, skip_id hsk, rw_not, e1, n_opens h (show dp ≤ 10 by omega) (show n < 400 by omega), n_passWord h k1]
    by_cases e10 : dp = 10
    · have e3 : (rOp dp (rSk T s.1, s.2)).2.2.1 = 1 + 8 * nI (rSk T s.1) + 2 := by
        unfold rOp rFail; rw [if_pos (by omega), if_pos (by exact g1)]
      have e4 : (rOp dp (rSk T s.1, s.2)).2.2.1 ≠ 0 := by
        unfold rOp; rw [if_pos (by omega)]; exact rFail_f (k := 2) (show rSk T s.1 ≤ 1000 by omega) (by decide)
      rw [if_neg e4] at h2
      have h2 := h2 e4
      rw [e3] at h2
      rw [if_pos e10]
      exact HF_ret0 hml (h2 _ _ _ _ _ _ _ _)
    · have hd2 : dp < 10 := by omega
      have e3 : rOp dp (rSk T s.1, s.2) = (rSk T s.1, s.2) := by unfold rOp; rw [if_neg (by omega)]
      rw [e3, if_pos (by exact g1)] at h1 h2
      rw [if_neg e10]
      have h3 : G0 z (rEnd T (rSk T s.1), s.2) tt := ⟨g1, g2, g3, rEnd_z hX k1, by show s.2.2.2.1 ≤ rEnd T (rSk T s.1); omega⟩
      refine hF hd2 (rEnd T (rSk T s.1), s.2) tt (n + 1) FM (jup O n 11) a L2 _ Q h3 (by show s.2.2.2.1 + (n + 1) ≤ rEnd T (rSk T s.1); omega) hFM (Or.inr (by rw [Nat.add_sub_cancel, jup_same]; decide)) ?_ ?_
      · intro hf L2 FM' O' a' c hP h3c hO hN
        obtain ⟨cc, q, hA⟩ := hGF hd2 _ tt h3 hf
        obtain ⟨a1, a2, a3, a4, a5, a6, a7, a8⟩ := hA
        have a4 : (inF (rEnd T (rSk T s.1), s.2)).2.2.2.1 = s.2.2.2.1 + cc.length := a4
        have a7 : cc.length + rEnd T (rSk T s.1) ≤ (inF (rEnd T (rSk T s.1), s.2)).1 := a7
        have hk3 : (inF (rEnd T (rSk T s.1), s.2)).2.2.2.1 < 400 := by omega
        have hc0 : c = 0 := by
          rcases Nat.eq_zero_or_pos c with e | e
          · exact e
          · exact absurd (hP.2.2 0 e).2.1 (Int32.not_le.mpr (Int32.lt_trans (h3c 0 e) (by decide)))
        subst hc0
        rw [rPut_lt hk3] at h1
        refine AF_not h (by omega) hk3 ((hO n (by omega)).trans jup_same) ?_
        refine h1 hf L2 (jup FM' (inF (rEnd T (rSk T s.1), s.2)).2.2.2.1 11) O' a' 0 ⟨Nat.zero_le _, fun j hj => ?_, fun q hq => absurd hq (Nat.not_lt_zero _)⟩ (fun q hq => absurd hq (Nat.not_lt_zero _)) (fun j hj => (hO j (by omega)).trans (jup_ne (by omega))) trivial
        have hj : j < (inF (rEnd T (rSk T s.1), s.2)).2.2.2.1 + 1 := hj
        show jup FM' _ 11 j = kTr (jup _ (inF (rEnd T (rSk T s.1), s.2)).2.2.2.1 (-20) j)
        by_cases ej : j = (inF (rEnd T (rSk T s.1), s.2)).2.2.2.1
        · rw [ej, jup_same, jup_same]; decide
        · rw [jup_ne ej, jup_ne ej]; exact hP.2.1 j (by omega)
      · intro hf
        rw [rPut_f] at h2
        exact h2 hf
  · rw [if_neg e1] at h1 h2
    by_cases e5 : T (rSk T s.1) = 91
    · rw [if_pos e5] at h1 h2
      have k3 : rSk T s.1 < z := n_lt h (by rw [e5]; decide)
      simp (config := {decide := true}) (disch := first | omega | assumption | (simp only [mS_cL, mS_cI, mS_cR, mR_cL, mR_cI]; first | assumption | exact hcr _ | fail)) only [tX12_fact_0, tX12_fact_1, tX12_fact_3, tX12_fact_6, tX12_fact_7, tX12_fact_8, tX12_fact_9, tX12_fact_12, tX12_fact_13, tX12_fact_14, tX12_fact_17, tX12_fact_20, tX12_fact_23, tX12_fact_24, tX12_fact_26, tX12_fact_29, tX12_fact_32, tX12_fact_33, tX12_fact_34, tX12_fact_35, tX12_fact_38, tX12_fact_39, tX12_fact_40, tX12_fact_43, tX12_fact_44, tX12_fact_46, tX12_fact_49, tX12_fact_50, tX12_fact_52, tX12_fact_55, tX12_fact_58, tX12_fact_59, tX12_fact_60, tX12_fact_61, tX12_fact_62, tX12_fact_65, tX12_fact_66, tX12_fact_67, tX12_fact_70, tX12_fact_71, tX12_fact_72, tX12_fact_75, tX12_fact_76, tX12_fact_79, jK_some, jK_none, jc1_int, jc1_ref, jc1_none, jc1_long, jc1_null, jc1_rf, va_rf_some, va_rf_none, mI_cI, mL_cL, mR_cR, cI_cI, cL_cL, jup_eq, jne_1, jne_2, Nat.add_left_cancel_iff, mL_cI, mR_cI, mS_cI, mN_cI, mI_cL, mR_cL, mS_cL, mN_cL, mI_cR, mL_cR, mS_cR, mN_cR, true_and, and_true, true_or, or_true, if_true, if_false, jBool_0, jBool_1, Nat.le_refl, Nat.reduceLeDiff, Nat.reduceEqDiff, Nat.reduceAdd, Nat.reduceSub, reduceIte, Int32.reduceLT, Int32.reduceLE, ne_eq, not_false_eq_true, not_true_eq_false, false_or, or_false, and_false, false_and, reduceCtorEq, jn_4, jn_6, jn_8, jn_9, jn_12, jn_60, jn_100, jn_200, jn_400, jn_600, jn_601, jn_3600, jI_4, jI_6, jI_8, jI_9, jI_12, jI_60, jI_100, jI_200, jI_400, jI_600, jI_601, jI_3600, va_cpy_00, jx_0, jx_6, jx_12, jx_400, jx_600, nI_1, hml, nM_S, nM_R, n_see h g4, n_isWord h k1, skip_id hsk, rw_not, e1, e5, n_opens h (show dp ≤ 10 by omega) (show n < 400 by omega), nM_next, nI_1, nM_toNext]
      by_cases e10 : dp = 10
      · have e3 : (rOp dp (rSk T s.1, s.2)).2.2.1 = 1 + 8 * nI (rSk T s.1) + 2 := by
          unfold rOp rFail; rw [if_pos (by omega), if_pos (by exact g1)]
        have e4 : (rOp dp (rSk T s.1, s.2)).2.2.1 ≠ 0 := by
          unfold rOp; rw [if_pos (by omega)]; exact rFail_f (k := 2) (show rSk T s.1 ≤ 1000 by omega) (by decide)
        rw [if_neg e4] at h2
        have h2 := h2 e4
        rw [e3] at h2
        rw [if_pos e10]
        exact HF_ret0 hml (h2 _ _ _ _ _ _ _ _)
      · have hd2 : dp < 10 := by omega
        have e3 : rOp dp (rSk T s.1, s.2) = (rSk T s.1, s.2) := by unfold rOp; rw [if_neg (by omega)]
        rw [e3, if_pos (by exact g1)] at h1 h2
        rw [if_neg e10]
        have h3 : G0 z (rSk T s.1 + 1, s.2) tt := ⟨g1, g2, g3, k3, by show s.2.2.2.1 ≤ rSk T s.1 + 1; omega⟩
        refine hT hd2 (rSk T s.1 + 1, s.2) tt (n + 1) FM (jup O n 91) a L2 _ Q h3 (by show s.2.2.2.1 + (n + 1) ≤ rSk T s.1 + 1; omega) hFM (Or.inr (by rw [Nat.add_sub_cancel, jup_same]; decide)) ?_ ?_
        · intro hf L2 FM' O' a' c hP h3c hO hN
          obtain ⟨cc, q, hA⟩ := hGT hd2 _ tt h3 hf
          obtain ⟨a1, a2, a3, a4, a5, a6, a7, a8⟩ := hA
          have a4 : (inT (rSk T s.1 + 1, s.2)).2.2.2.1 = s.2.2.2.1 + cc.length := a4
          have a7 : cc.length + (rSk T s.1 + 1) ≤ (inT (rSk T s.1 + 1, s.2)).1 := a7
          have hcK := hP.1
          have hO91 : O' n = 91 := (hO n (by omega)).trans jup_same
          unfold rExp at h1 h2
          by_cases e93 : T (rSk T (inT (rSk T s.1 + 1, s.2)).1) = 93
          · rw [if_pos e93] at h1
            refine AF_close h a8 e93 (by omega) (by omega) hO91 hP h3c (fun FM2 hF2 => ?_)
            exact h1 hf L2 FM2 O' a' 0 ⟨Nat.zero_le _, fun j hj => hF2 j hj, fun q hq => absurd hq (Nat.not_lt_zero _)⟩ (fun q hq => absurd hq (Nat.not_lt_zero _)) (fun j hj => (hO j (by omega)).trans (jup_ne (by omega))) trivial
          · rw [if_neg e93] at h2
            have e6 : rSk T (inT (rSk T s.1 + 1, s.2)).1 ≤ z := n_Sk h a8
            have e5' : (rFail (rSk T (inT (rSk T s.1 + 1, s.2)).1, (inT (rSk T s.1 + 1, s.2)).2) (rSk T (inT (rSk T s.1 + 1, s.2)).1) 0).2.2.1 = 1 + 8 * nI (rSk T (inT (rSk T s.1 + 1, s.2)).1) + 0 := by
              unfold rFail; rw [if_pos (by exact hf)]
            have e7 := rFail_f (s := (rSk T (inT (rSk T s.1 + 1, s.2)).1, (inT (rSk T s.1 + 1, s.2)).2)) (p := rSk T (inT (rSk T s.1 + 1, s.2)).1) (k := 0) (by omega) (by decide)
            have h2 := h2 e7
            rw [e5'] at h2
            refine AF_bad (j := n) h a8 (by omega) ?_ e93 hN (by omega) hO91 (h2 _ _ _ _ _ _ _ _)
            refine Or.inr ?_
            cases c with
            | zero => rw [show n + 1 + 0 - 1 = n by omega, hO91]; decide
            | succ c => rw [show n + 1 + (c + 1) - 1 = n + 1 + c by omega]; exact h3c c (by omega)
        · intro hf
          rw [rExp_kp hf] at h2
          exact h2 hf
    · rw [if_neg e5] at h1 h2
      simp (config := {decide := true}) (disch := first | omega | assumption | (simp only [mS_cL, mS_cI, mS_cR, mR_cL, mR_cI]; first | assumption | exact hcr _ | fail)) only [tX12_fact_0, tX12_fact_1, tX12_fact_3, tX12_fact_6, tX12_fact_7, tX12_fact_8, tX12_fact_9, tX12_fact_12, tX12_fact_13, tX12_fact_14, tX12_fact_17, tX12_fact_20, tX12_fact_23, tX12_fact_24, tX12_fact_26, tX12_fact_29, tX12_fact_32, tX12_fact_33, tX12_fact_34, tX12_fact_35, tX12_fact_38, tX12_fact_39, tX12_fact_40, tX12_fact_43, tX12_fact_44, tX12_fact_46, tX12_fact_49, tX12_fact_50, tX12_fact_52, tX12_fact_55, tX12_fact_58, tX12_fact_59, tX12_fact_60, tX12_fact_61, tX12_fact_62, tX12_fact_65, tX12_fact_66, tX12_fact_67, tX12_fact_70, tX12_fact_71, tX12_fact_72, tX12_fact_75, tX12_fact_76, tX12_fact_79, tX12_fact_2, jK_some, jK_none, jc1_int, jc1_ref, jc1_none, jc1_long, jc1_null, jc1_rf, va_rf_some, va_rf_none, mI_cI, mL_cL, mR_cR, cI_cI, cL_cL, jup_eq, jne_1, jne_2, Nat.add_left_cancel_iff, mL_cI, mR_cI, mS_cI, mN_cI, mI_cL, mR_cL, mS_cL, mN_cL, mI_cR, mL_cR, mS_cR, mN_cR, true_and, and_true, true_or, or_true, if_true, if_false, jBool_0, jBool_1, Nat.le_refl, Nat.reduceLeDiff, Nat.reduceEqDiff, Nat.reduceAdd, Nat.reduceSub, reduceIte, Int32.reduceLT, Int32.reduceLE, ne_eq, not_false_eq_true, not_true_eq_false, false_or, or_false, and_false, false_and, reduceCtorEq, jn_4, jn_6, jn_8, jn_9, jn_12, jn_60, jn_100, jn_200, jn_400, jn_600, jn_601, jn_3600, jI_4, jI_6, jI_8, jI_9, jI_12, jI_60, jI_100, jI_200, jI_400, jI_600, jI_601, jI_3600, va_cpy_00, jx_0, jx_6, jx_12, jx_400, jx_600, nI_1, hml, nM_S, nM_R, n_see h g4, n_isWord h k1, skip_id hsk, rw_not, e1, e5]
      have h3 : G0 z (rSk T s.1, s.2) tt := ⟨g1, g2, g3, k1, by show s.2.2.2.1 ≤ rSk T s.1; omega⟩
      refine n_compare (s := (rSk T s.1, s.2)) (k := k) h hX hu hk h3 (by show s.2.2.2.1 + n ≤ rSk T s.1; omega) hFM rfl (fun hf FM' O' a' hF' hO' => ?_) (fun hf i' t' p' n' k' F' O' a' => ?_)
      · have hsk2 := cmp_sk (u := u) (k := k) h hX (by omega) h3 hf
        rw [hsk2]
        show AW (d + 6) _ 79 _ [.int 1] _ _
        simp (config := {decide := true}) (disch := first | omega | assumption | (simp only [mS_cL, mS_cI, mS_cR, mR_cL, mR_cI]; first | assumption | exact hcr _ | fail)) only [tX12_fact_0, tX12_fact_1, tX12_fact_3, tX12_fact_6, tX12_fact_7, tX12_fact_8, tX12_fact_9, tX12_fact_12, tX12_fact_13, tX12_fact_14, tX12_fact_17, tX12_fact_20, tX12_fact_23, tX12_fact_24, tX12_fact_26, tX12_fact_29, tX12_fact_32, tX12_fact_33, tX12_fact_34, tX12_fact_35, tX12_fact_38, tX12_fact_39, tX12_fact_40, tX12_fact_43, tX12_fact_44, tX12_fact_46, tX12_fact_49, tX12_fact_50, tX12_fact_52, tX12_fact_55, tX12_fact_58, tX12_fact_59, tX12_fact_60, tX12_fact_61, tX12_fact_62, tX12_fact_65, tX12_fact_66, tX12_fact_67, tX12_fact_70, tX12_fact_71, tX12_fact_72, tX12_fact_75, tX12_fact_76, tX12_fact_79, jK_some, jK_none, jc1_int, jc1_ref, jc1_none, jc1_long, jc1_null, jc1_rf, va_rf_some, va_rf_none, mI_cI, mL_cL, mR_cR, cI_cI, cL_cL, jup_eq, jne_1, jne_2, Nat.add_left_cancel_iff, mL_cI, mR_cI, mS_cI, mN_cI, mI_cL, mR_cL, mS_cL, mN_cL, mI_cR, mL_cR, mS_cR, mN_cR, true_and, and_true, true_or, or_true, if_true, if_false, jBool_0, jBool_1, Nat.le_refl, Nat.reduceLeDiff, Nat.reduceEqDiff, Nat.reduceAdd, Nat.reduceSub, reduceIte, Int32.reduceLT, Int32.reduceLE, ne_eq, not_false_eq_true, not_true_eq_false, false_or, or_false, and_false, false_and, reduceCtorEq, jn_4, jn_6, jn_8, jn_9, jn_12, jn_60, jn_100, jn_200, jn_400, jn_600, jn_601, jn_3600, jI_4, jI_6, jI_8, jI_9, jI_12, jI_60, jI_100, jI_200, jI_400, jI_600, jI_601, jI_3600, va_cpy_00, jx_0, jx_6, jx_12, jx_400, jx_600, nI_1]
        refine HF_ret hml ?_
        exact h1 hf L2 FM' O' a' 0 ⟨Nat.zero_le _, fun j hj => hF' j hj, fun q hq => absurd hq (Nat.not_lt_zero _)⟩ (fun q hq => absurd hq (Nat.not_lt_zero _)) hO' trivial
      · show AW (d + 6) _ 79 _ [.int 0] _ _
        simp (config := {decide := true}) (disch := first | omega | assumption | (simp only [mS_cL, mS_cI, mS_cR, mR_cL, mR_cI]; first | assumption | exact hcr _ | fail)) only [tX12_fact_0, tX12_fact_1, tX12_fact_3, tX12_fact_6, tX12_fact_7, tX12_fact_8, tX12_fact_9, tX12_fact_12, tX12_fact_13, tX12_fact_14, tX12_fact_17, tX12_fact_20, tX12_fact_23, tX12_fact_24, tX12_fact_26, tX12_fact_29, tX12_fact_32, tX12_fact_33, tX12_fact_34, tX12_fact_35, tX12_fact_38, tX12_fact_39, tX12_fact_40, tX12_fact_43, tX12_fact_44, tX12_fact_46, tX12_fact_49, tX12_fact_50, tX12_fact_52, tX12_fact_55, tX12_fact_58, tX12_fact_59, tX12_fact_60, tX12_fact_61, tX12_fact_62, tX12_fact_65, tX12_fact_66, tX12_fact_67, tX12_fact_70, tX12_fact_71, tX12_fact_72, tX12_fact_75, tX12_fact_76, tX12_fact_79, jK_some, jK_none, jc1_int, jc1_ref, jc1_none, jc1_long, jc1_null, jc1_rf, va_rf_some, va_rf_none, mI_cI, mL_cL, mR_cR, cI_cI, cL_cL, jup_eq, jne_1, jne_2, Nat.add_left_cancel_iff, mL_cI, mR_cI, mS_cI, mN_cI, mI_cL, mR_cL, mS_cL, mN_cL, mI_cR, mL_cR, mS_cR, mN_cR, true_and, and_true, true_or, or_true, if_true, if_false, jBool_0, jBool_1, Nat.le_refl, Nat.reduceLeDiff, Nat.reduceEqDiff, Nat.reduceAdd, Nat.reduceSub, reduceIte, Int32.reduceLT, Int32.reduceLE, ne_eq, not_false_eq_true, not_true_eq_false, false_or, or_false, and_false, false_and, reduceCtorEq, jn_4, jn_6, jn_8, jn_9, jn_12, jn_60, jn_100, jn_200, jn_400, jn_600, jn_601, jn_3600, jI_4, jI_6, jI_8, jI_9, jI_12, jI_60, jI_100, jI_200, jI_400, jI_600, jI_601, jI_3600, va_cpy_00, jx_0, jx_6, jx_12, jx_400, jx_600, nI_1]
        exact HF_ret0 hml (h2 hf _ _ _ _ _ _ _ _)
end CLU
