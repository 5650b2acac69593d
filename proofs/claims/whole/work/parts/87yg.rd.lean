/-! ===== reads: the loop ===== -/
section CLG
variable {d : Nat} {T : Nat → Int32} {x z : Nat} {u : Int32} {Q : Option Value → jmM → Prop}
theorem rLp_s {f n : Nat} {B : jmM} {s : RS} : rLp T u (f + 1) n B s = if (rClause T u n B s).2.2.2.1 = 0 then (if T (rSk T (rClause T u n B s).2.1) = -1 then ((rClause T u n B s).1, (rSk T (rClause T u n B s).2.1, (rClause T u n B s).2.2))
      else rLp T u f (n + 1) (rClause T u n B s).1 (rExp T 59 (rSk T (rClause T u n B s).2.1, (rClause T u n B s).2.2))) else rClause T u n B s := by
  rw [rLp]
theorem l_reads (hu : u = 0 ↔ ¬ x < 4) : ∀ f n (B Bx : jmM) (s : RS) tt p0 n0 (FM O : Nat → Int32) (a : Int32), n + f = 12 → NB B T x z → XB Bx T z → G0 z s tt → (∀ j, j < s.2.2.2.1 → FM j = kTr (s.2.2.2.2 j)) → mI B 195 19 = nI n → IV B Bx x n s.2.2.2.2 s.2.2.2.1 →
    ((rLp T u (f + 1) n Bx s).2.2.2.1 = 0 → ∀ B' i' t' n' FM' O' a' v, FrM x B B' → n' ≤ 12 → (rLp T u (f + 1) n Bx s).2.2.2.2.1 ≤ 400 → IV B' (rLp T u (f + 1) n Bx s).1 x n' (rLp T u (f + 1) n Bx s).2.2.2.2.2 (rLp T u (f + 1) n Bx s).2.2.2.2.1 → (∀ j, j < (rLp T u (f + 1) n Bx s).2.2.2.2.1 → FM' j = kTr ((rLp T u (f + 1) n Bx s).2.2.2.2.2 j)) → AW (d + 10) 220 118 [some (.ref 195), some (.int (nI x)), some (.int v)] [] (nM B' x i' t' 0 0 0 (rLp T u (f + 1) n Bx s).2.2.2.2.1 FM' O' a') Q) →
    ((rLp T u (f + 1) n Bx s).2.2.2.1 ≠ 0 → ∀ B' i' t' p' n' k' FM' O' a' v, FrM x B B' → AW (d + 10) 220 118 [some (.ref 195), some (.int (nI x)), some (.int v)] [] (nM B' x i' t' (rLp T u (f + 1) n Bx s).2.2.2.1 p' n' k' FM' O' a') Q) →
    ∀ K : Option Value → jmM → Prop, (∀ v m, AW (d + 10) 220 65 [some (.ref 195), some (.int (nI x)), some (.int v)] [] m Q → K (some (.int v)) m) → CC (d + 10) 219 [.ref 195] (nM B x s.1 (nI tt) 0 p0 n0 s.2.2.2.1 FM O a) K := by
  intro f
  induction f with
  | zero =>
    intro n B Bx s tt p0 n0 FM O a hnf h hX g0 hF hl hI h1 h2 K hK
    rw [rLp_s] at h1 h2
    refine n_clause h hX hu g0 hF hl (by omega) hI (fun hn => absurd hn (by omega)) (fun hf B' fr => ?_)
    intro i' t' p' n' k' F' O' a'
    apply hK
    have hmlB : MLay (mS B') (mR B') 195 := (NB_fr h fr).1
    rw [if_neg hf] at h2
    rw [tX12_reads_65]
    simp (config := {decide := true}) (disch := first | omega | assumption | (simp only [mS_cL, mS_cI, mS_cR, mR_cL, mR_cI]; first | assumption | exact hcr _ | fail)) only [tX12_reads_66, tX12_reads_69, tX12_reads_70, tX12_reads_73, tX12_reads_75, tX12_reads_78, tX12_reads_79, tX12_reads_80, tX12_reads_83, tX12_reads_84, tX12_reads_85, tX12_reads_88, tX12_reads_89, tX12_reads_92, tX12_reads_93, tX12_reads_96, tX12_reads_97, jK_some, jK_none, jc1_int, jc1_ref, jc1_none, jc1_long, jc1_null, jc1_rf, va_rf_some, va_rf_none, mI_cI, mL_cL, mR_cR, cI_cI, cL_cL, jup_eq, jne_1, jne_2, Nat.add_left_cancel_iff, mL_cI, mR_cI, mS_cI, mN_cI, mI_cL, mR_cL, mS_cL, mN_cL, mI_cR, mL_cR, mS_cR, mN_cR, true_and, and_true, true_or, or_true, if_true, if_false, jBool_0, jBool_1, Nat.le_refl, Nat.reduceLeDiff, Nat.reduceEqDiff, Nat.reduceAdd, Nat.reduceSub, reduceIte, Int32.reduceLT, Int32.reduceLE, ne_eq, not_false_eq_true, not_true_eq_false, false_or, or_false, and_false, false_and, reduceCtorEq, jn_4, jn_6, jn_8, jn_9, jn_12, jn_60, jn_100, jn_200, jn_400, jn_600, jn_601, jn_3600, jI_4, jI_6, jI_8, jI_9, jI_12, jI_60, jI_100, jI_200, jI_400, jI_600, jI_601, jI_3600, va_cpy_00, jx_0, jx_6, jx_12, jx_400, jx_600, nI_1, hmlB, nM_S, nM_R]
    exact h2 hf B' i' t' p' n' k' F' O' a' 0 fr
  | succ f ih =>
    intro n B Bx s tt p0 n0 FM O a hnf h hX g0 hF hl hI h1 h2 K hK
    have hXp := XB_clause (u := u) (n := n) (s := s) hX
    rw [rLp_s] at h1 h2
    refine n_clause h hX hu g0 hF hl (by omega) hI (fun hn => ?_) (fun hf B' fr => ?_)
    · intro hf B' i' tt' FM' O' a' fr hl' hI' hg hi hsk hF'
      apply hK
      rw [if_pos hf] at h1 h2
      have hb := NB_fr h fr
      have hmlB : MLay (mS B') (mR B') 195 := hb.1
      generalize rClause T u n Bx s = p at *
      have hp := hg.2.2.2.1
      have hp2 := rSk_z hXp hp
      have hp3 := rSk_ge (T := T) (i := p.2.1)
      have hp4 := hg.2.2.2.2
      have hz := h.2.2.2.1
      by_cases e59 : T (rSk T p.2.1) = 59
      · have e1 : ¬ T (rSk T p.2.1) = -1 := by rw [e59]; decide
        have hlt : rSk T p.2.1 < z := T_lt hXp (by rw [e59]; decide)
        have ex : rExp T 59 (rSk T p.2.1, p.2.2) = (rSk T p.2.1 + 1, p.2.2) := by
          unfold rExp
          rw [if_pos (by show T (rSk T (rSk T p.2.1)) = 59; rw [skip_skip hb hp]; exact e59)]
          show (rSk T (rSk T p.2.1) + 1, p.2.2) = _
          rw [skip_skip hb hp]
        rw [if_neg e1, ex] at h1 h2
        rw [tX12_reads_65]
        simp (config := {decide := true}) (disch := first | omega | assumption | (simp only [mS_cL, mS_cI, mS_cR, mR_cL, mR_cI]; first | assumption | exact hcr _ | fail)) only [tX12_reads_66, tX12_reads_69, tX12_reads_70, tX12_reads_73, tX12_reads_75, tX12_reads_78, tX12_reads_79, tX12_reads_80, tX12_reads_83, tX12_reads_84, tX12_reads_85, tX12_reads_88, tX12_reads_89, jK_some, jK_none, jc1_int, jc1_ref, jc1_none, jc1_long, jc1_null, jc1_rf, va_rf_some, va_rf_none, mI_cI, mL_cL, mR_cR, cI_cI, cL_cL, jup_eq, jne_1, jne_2, Nat.add_left_cancel_iff, mL_cI, mR_cI, mS_cI, mN_cI, mI_cL, mR_cL, mS_cL, mN_cL, mI_cR, mL_cR, mS_cR, mN_cR, true_and, and_true, true_or, or_true, if_true, if_false, jBool_0, jBool_1, Nat.le_refl, Nat.reduceLeDiff, Nat.reduceEqDiff, Nat.reduceAdd, Nat.reduceSub, reduceIte, Int32.reduceLT, Int32.reduceLE, ne_eq, not_false_eq_true, not_true_eq_false, false_or, or_false, and_false, false_and, reduceCtorEq, jn_4, jn_6, jn_8, jn_9, jn_12, jn_60, jn_100, jn_200, jn_400, jn_600, jn_601, jn_3600, jI_4, jI_6, jI_8, jI_9, jI_12, jI_60, jI_100, jI_200, jI_400, jI_600, jI_601, jI_3600, va_cpy_00, jx_0, jx_6, jx_12, jx_400, jx_600, nI_1, hmlB, nM_S, nM_R, n_see hb hi, hsk, e59, nM_next, nI_1, nM_toNext]
        refine ih (n + 1) B' p.1 (rSk T p.2.1 + 1, p.2.2) tt' 0 0 FM' O' a' (by omega) hb hXp ⟨hg.1, hg.2.1, hg.2.2.1, hlt, by show p.2.2.2.2.1 ≤ rSk T p.2.1 + 1; omega⟩ hF' hl' hI' (fun hf B2 i2 t2 n2 F2 O2 a2 v fr2 => h1 hf B2 i2 t2 n2 F2 O2 a2 v (FrM_trans fr fr2)) (fun hf B2 i2 t2 p2 n2 k2 F2 O2 a2 v fr2 => h2 hf B2 i2 t2 p2 n2 k2 F2 O2 a2 v (FrM_trans fr fr2)) _ (fun v m hm => ?_)
        simp (config := {decide := true}) only [jK_some, tX12_reads_92, tX12_reads_93, jc1_int]
        exact hm
      · by_cases e1 : T (rSk T p.2.1) = -1
        · rw [if_pos e1] at h1 h2
          rw [tX12_reads_65]
          simp (config := {decide := true}) (disch := first | omega | assumption | (simp only [mS_cL, mS_cI, mS_cR, mR_cL, mR_cI]; first | assumption | exact hcr _ | fail)) only [tX12_reads_66, tX12_reads_69, tX12_reads_70, tX12_reads_73, tX12_reads_75, tX12_reads_78, tX12_reads_79, tX12_reads_80, tX12_reads_83, tX12_reads_84, tX12_reads_85, tX12_reads_88, tX12_reads_89, tX12_reads_92, tX12_reads_93, tX12_reads_96, tX12_reads_97, tX12_reads_100, tX12_reads_101, tX12_reads_104, tX12_reads_105, tX12_reads_108, tX12_reads_109, tX12_reads_110, tX12_reads_111, tX12_reads_114, tX12_reads_117, jK_some, jK_none, jc1_int, jc1_ref, jc1_none, jc1_long, jc1_null, jc1_rf, va_rf_some, va_rf_none, mI_cI, mL_cL, mR_cR, cI_cI, cL_cL, jup_eq, jne_1, jne_2, Nat.add_left_cancel_iff, mL_cI, mR_cI, mS_cI, mN_cI, mI_cL, mR_cL, mS_cL, mN_cL, mI_cR, mL_cR, mS_cR, mN_cR, true_and, and_true, true_or, or_true, if_true, if_false, jBool_0, jBool_1, Nat.le_refl, Nat.reduceLeDiff, Nat.reduceEqDiff, Nat.reduceAdd, Nat.reduceSub, reduceIte, Int32.reduceLT, Int32.reduceLE, ne_eq, not_false_eq_true, not_true_eq_false, false_or, or_false, and_false, false_and, reduceCtorEq, jn_4, jn_6, jn_8, jn_9, jn_12, jn_60, jn_100, jn_200, jn_400, jn_600, jn_601, jn_3600, jI_4, jI_6, jI_8, jI_9, jI_12, jI_60, jI_100, jI_200, jI_400, jI_600, jI_601, jI_3600, va_cpy_00, jx_0, jx_6, jx_12, jx_400, jx_600, nI_1, hmlB, nM_S, nM_R, n_see hb hi, hsk, n_see hb hp2, skip_skip hb hp, e59, e1]
          exact h1 hf B' _ _ (n + 1) FM' O' a' 1 fr (by omega) (by show p.2.2.2.2.1 ≤ 400; omega) hI' hF'
        · rw [if_neg e1] at h1 h2
          have ex : rExp T 59 (rSk T p.2.1, p.2.2) = rFail (rSk T p.2.1, p.2.2) (rSk T p.2.1) 0 := by
            unfold rExp
            rw [if_neg (by show ¬ T (rSk T (rSk T p.2.1)) = 59; rw [skip_skip hb hp]; exact e59)]
            show rFail (rSk T (rSk T p.2.1), p.2.2) (rSk T (rSk T p.2.1)) 0 = _
            rw [skip_skip hb hp]
          have ev := rFail_v (s := (rSk T p.2.1, p.2.2)) (p := rSk T p.2.1) (k := 0) hg.1
          have hne : (rFail (rSk T p.2.1, p.2.2) (rSk T p.2.1) 0).2.2.1 ≠ 0 := rFail_f (k := 0) (by omega) (by decide)
          have ek := rLp_kp (T := T) (u := u) (f + 1) (n + 1) p.1 _ hne
          rw [ex] at h2
          have := h2 (by rw [ek]; exact hne) B'
          rw [ek, ev] at this
          rw [tX12_reads_65]
          simp (config := {decide := true}) (disch := first | omega | assumption | (simp only [mS_cL, mS_cI, mS_cR, mR_cL, mR_cI]; first | assumption | exact hcr _ | fail)) only [tX12_reads_66, tX12_reads_69, tX12_reads_70, tX12_reads_73, tX12_reads_75, tX12_reads_78, tX12_reads_79, tX12_reads_80, tX12_reads_83, tX12_reads_84, tX12_reads_85, tX12_reads_88, tX12_reads_89, tX12_reads_92, tX12_reads_93, tX12_reads_96, tX12_reads_97, tX12_reads_100, tX12_reads_101, tX12_reads_104, tX12_reads_105, tX12_reads_108, tX12_reads_109, tX12_reads_110, tX12_reads_111, tX12_reads_114, tX12_reads_117, jK_some, jK_none, jc1_int, jc1_ref, jc1_none, jc1_long, jc1_null, jc1_rf, va_rf_some, va_rf_none, mI_cI, mL_cL, mR_cR, cI_cI, cL_cL, jup_eq, jne_1, jne_2, Nat.add_left_cancel_iff, mL_cI, mR_cI, mS_cI, mN_cI, mI_cL, mR_cL, mS_cL, mN_cL, mI_cR, mL_cR, mS_cR, mN_cR, true_and, and_true, true_or, or_true, if_true, if_false, jBool_0, jBool_1, Nat.le_refl, Nat.reduceLeDiff, Nat.reduceEqDiff, Nat.reduceAdd, Nat.reduceSub, reduceIte, Int32.reduceLT, Int32.reduceLE, ne_eq, not_false_eq_true, not_true_eq_false, false_or, or_false, and_false, false_and, reduceCtorEq, jn_4, jn_6, jn_8, jn_9, jn_12, jn_60, jn_100, jn_200, jn_400, jn_600, jn_601, jn_3600, jI_4, jI_6, jI_8, jI_9, jI_12, jI_60, jI_100, jI_200, jI_400, jI_600, jI_601, jI_3600, va_cpy_00, jx_0, jx_6, jx_12, jx_400, jx_600, nI_1, hmlB, nM_S, nM_R, n_see hb hi, hsk, n_see hb hp2, skip_skip hb hp, e59, e1, nM_next, n_fails hb]
          exact this _ _ _ _ _ _ _ _ 1 fr
    · intro i' t' p' n' k' F' O' a'
      apply hK
      have hmlB : MLay (mS B') (mR B') 195 := (NB_fr h fr).1
      rw [if_neg hf] at h2
      rw [tX12_reads_65]
      simp (config := {decide := true}) (disch := first | omega | assumption | (simp only [mS_cL, mS_cI, mS_cR, mR_cL, mR_cI]; first | assumption | exact hcr _ | fail)) only [tX12_reads_66, tX12_reads_69, tX12_reads_70, tX12_reads_73, tX12_reads_75, tX12_reads_78, tX12_reads_79, tX12_reads_80, tX12_reads_83, tX12_reads_84, tX12_reads_85, tX12_reads_88, tX12_reads_89, tX12_reads_92, tX12_reads_93, tX12_reads_96, tX12_reads_97, jK_some, jK_none, jc1_int, jc1_ref, jc1_none, jc1_long, jc1_null, jc1_rf, va_rf_some, va_rf_none, mI_cI, mL_cL, mR_cR, cI_cI, cL_cL, jup_eq, jne_1, jne_2, Nat.add_left_cancel_iff, mL_cI, mR_cI, mS_cI, mN_cI, mI_cL, mR_cL, mS_cL, mN_cL, mI_cR, mL_cR, mS_cR, mN_cR, true_and, and_true, true_or, or_true, if_true, if_false, jBool_0, jBool_1, Nat.le_refl, Nat.reduceLeDiff, Nat.reduceEqDiff, Nat.reduceAdd, Nat.reduceSub, reduceIte, Int32.reduceLT, Int32.reduceLE, ne_eq, not_false_eq_true, not_true_eq_false, false_or, or_false, and_false, false_and, reduceCtorEq, jn_4, jn_6, jn_8, jn_9, jn_12, jn_60, jn_100, jn_200, jn_400, jn_600, jn_601, jn_3600, jI_4, jI_6, jI_8, jI_9, jI_12, jI_60, jI_100, jI_200, jI_400, jI_600, jI_601, jI_3600, va_cpy_00, jx_0, jx_6, jx_12, jx_400, jx_600, nI_1, hmlB, nM_S, nM_R]
      exact h2 hf B' i' t' p' n' k' F' O' a' 0 fr
end CLG
