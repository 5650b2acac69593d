/-! ===== X's reader: the whole text ===== -/
noncomputable def rLp (T : Nat → Int32) (u : Int32) : Nat → Nat → jmM → RS → jmM × RS
  | 0, _, B, s => (B, s)
  | f + 1, n, B, s => if (rClause T u n B s).2.2.2.1 = 0 then (if T (rSk T (rClause T u n B s).2.1) = -1 then ((rClause T u n B s).1, (rSk T (rClause T u n B s).2.1, (rClause T u n B s).2.2))
      else rLp T u f (n + 1) (rClause T u n B s).1 (rExp T 59 (rSk T (rClause T u n B s).2.1, (rClause T u n B s).2.2))) else rClause T u n B s
section RDU
variable {e d : Nat} {m B : jmM} {T : Nat → Int32} {z : Nat} {s : RS} {a b x y w v u kd : Int32} {i t dp n c L k : Nat} {Q : Option Value → jmM → Prop}
theorem c_Laws_isFull (h1 : mS m L = (4, 2)) (h2 : mR m L 0 = some (L + 1)) (h3 : mS m (L + 1) = (24, c)) (hk : mI m L 1 = nI k) (hk2 : k < 100) (hc : c < 100) : CC (d + 1) 43 [.ref L] m Q ↔ Q (some (.int (if c ≤ k then 1 else 0))) m := by
  rw [nX4_isFull]
  simp (config := {decide := true}) (disch := first | omega | assumption | (simp only [mS_cL, mS_cI, mS_cR, mR_cL, mR_cI]; first | assumption | exact hcr _ | fail)) only [tX4_isFull_0, tX4_isFull_1, tX4_isFull_4, tX4_isFull_5, tX4_isFull_8, tX4_isFull_9, tX4_isFull_12, tX4_isFull_13, tX4_isFull_16, tX4_isFull_17, jK_some, jK_none, jc1_int, jc1_ref, jc1_none, jc1_long, jc1_null, jc1_rf, va_rf_some, va_rf_none, mI_cI, mL_cL, mR_cR, cI_cI, cL_cL, jup_eq, jne_1, jne_2, Nat.add_left_cancel_iff, mL_cI, mR_cI, mS_cI, mN_cI, mI_cL, mR_cL, mS_cL, mN_cL, mI_cR, mL_cR, mS_cR, mN_cR, true_and, and_true, true_or, or_true, if_true, if_false, jBool_0, jBool_1, Nat.le_refl, Nat.reduceLeDiff, Nat.reduceEqDiff, Nat.reduceAdd, Nat.reduceSub, reduceIte, Int32.reduceLT, Int32.reduceLE, ne_eq, not_false_eq_true, not_true_eq_false, false_or, or_false, and_false, false_and, reduceCtorEq, jn_4, jn_6, jn_8, jn_9, jn_12, jn_60, jn_100, jn_200, jn_400, jn_600, jn_601, jn_3600, jI_4, jI_6, jI_8, jI_9, jI_12, jI_60, jI_100, jI_200, jI_400, jI_600, jI_601, jI_3600, va_cpy_00, jx_0, jx_6, jx_12, jx_400, jx_600, nI_1, h1, h2, h3, hk]
  by_cases hh : c ≤ k
  · rw [if_neg (Int32.not_lt.mpr ((nI_leI (by omega) (by omega)).mpr hh)), if_pos hh]
  · rw [if_pos ((nI_ltI (by omega) (by omega)).mpr (by omega)), if_neg hh]
theorem c_Laws_add {b : Nat} (h1 : mS m L = (4, 2)) (h2 : mR m L 0 = some (L + 1)) (h3 : mS m (L + 1) = (24, c)) (hk : mI m L 1 = nI k) (hk2 : k < c) (hc : c < 100) (h4 : mR m (L + 1) k = some b) (hb : LawL (mS m) (mR m) b) (ha : LawL (mS m) (mR m) 4) (hb2 : 9 < b) (hL : L < b ∨ b + 5 < L) (hL2 : 9 < L) : CC (d + 2) 44 [.ref L, .ref 4] m Q ↔ Q (some (.int (nI k))) (cI (jLawCp m b 4) L (jup (mI m L) 1 (nI (k + 1)))) := by
  rw [nX4_add]
  have e1 : (jLawCp m b 4).2 = m.2 := rfl
  have e2 : mI (jLawCp m b 4) L = mI m L := by
    unfold jLawCp
    simp (config := {decide := true}) (disch := omega) only [mI_ne]
  have e3 : ¬ c ≤ k := by omega
  have e4 : mS (jLawCp m b 4) = mS m := rfl
  have e5 : mR (jLawCp m b 4) = mR m := rfl
  have e6 : jIx (nI k) c := (jIx_nI (by omega)).mpr hk2
  simp (config := {decide := true}) (disch := first | omega | assumption | (simp only [mS_cL, mS_cI, mS_cR, mR_cL, mR_cI]; first | assumption | exact hcr _ | fail)) only [tX4_add_0, tX4_add_1, tX4_add_4, tX4_add_7, tX4_add_8, tX4_add_9, tX4_add_10, tX4_add_13, tX4_add_14, tX4_add_17, tX4_add_18, tX4_add_19, tX4_add_22, tX4_add_23, tX4_add_24, tX4_add_27, tX4_add_28, tX4_add_29, tX4_add_32, tX4_add_33, tX4_add_36, tX4_add_37, tX4_add_38, jK_some, jK_none, jc1_int, jc1_ref, jc1_none, jc1_long, jc1_null, jc1_rf, va_rf_some, va_rf_none, mI_cI, mL_cL, mR_cR, cI_cI, cL_cL, jup_eq, jne_1, jne_2, Nat.add_left_cancel_iff, mL_cI, mR_cI, mS_cI, mN_cI, mI_cL, mR_cL, mS_cL, mN_cL, mI_cR, mL_cR, mS_cR, mN_cR, true_and, and_true, true_or, or_true, if_true, if_false, jBool_0, jBool_1, Nat.le_refl, Nat.reduceLeDiff, Nat.reduceEqDiff, Nat.reduceAdd, Nat.reduceSub, reduceIte, Int32.reduceLT, Int32.reduceLE, ne_eq, not_false_eq_true, not_true_eq_false, false_or, or_false, and_false, false_and, reduceCtorEq, jn_4, jn_6, jn_8, jn_9, jn_12, jn_60, jn_100, jn_200, jn_400, jn_600, jn_601, jn_3600, jI_4, jI_6, jI_8, jI_9, jI_12, jI_60, jI_100, jI_200, jI_400, jI_600, jI_601, jI_3600, va_cpy_00, jx_0, jx_6, jx_12, jx_400, jx_600, nI_1, nx_5e, nx_l6, nx_l12, nx_l100, nx_l200, nx_l400, nx_l600, nx_l601, nx_l3600, nx_pos, nx_posN, nx_neg1, nx_m1neg, nx_leF, nx_leT, nx_ltF, nx_ltT, nx_mul6, nI_add, nI_1, jx_nI, nx_4, nx_g4, nx_6, nx_g6, nx_8, nx_g8, nx_9, nx_g9, nx_12, nx_g12, nx_14, nx_g14, nx_60, nx_g60, nx_100, nx_g100, nx_200, nx_g200, nx_400, nx_g400, nx_600, nx_g600, nx_601, nx_g601, nx_3600, nx_g3600, h1, h2, h3, hk, c_Laws_isFull h1 h2 h3 hk (by omega) hc, e3, e6, h4, c_Law_becomeLike (d := d) hb ha (Or.inr (by omega)), e4, e5, e2, hb.1, nI_pred]
theorem rClause_n (hr : ∃ r, r ≤ n ∧ mI B 4 6 = nI r) : mI (rClause T u n B s).1 1 2 = mI B 1 2 ∧ ∃ r, r ≤ n + 1 ∧ mI (rClause T u n B s).1 4 6 = nI r := by
  obtain ⟨r, hr, h⟩ := hr
  unfold rClause
  split
  · exact ⟨rfl, r, by omega, h⟩
  split
  · exact ⟨rfl, r, by omega, h⟩
  split
  · refine ⟨rfl, r, by omega, ?_⟩
    unfold bSet
    rw [mI_same, jup_ne (by split; decide; split <;> decide), h]
  · refine ⟨rfl, r + 1, by omega, ?_⟩
    unfold bAdd
    rw [mI_same, jup_same, h, nI_1]
theorem x_lp (h0 : mI B 1 2 = u) {L : Nat} {ax : Int32} : ∀ f n B s, n + f = 13 → XB B T z → rOk z s → mI B 1 2 = u → (∃ r, r ≤ n ∧ mI B 4 6 = nI r) → XB (rLp T u f n B s).1 T z ∧ rOk z (rLp T u f n B s).2 ∧ ∃ t3 t4 : Int32, ∀ Q : Option Value → jmM → Prop, AW (e + 50) 90 41 [some (.ref 1), some (.ref L), some (.int ax), some (.int 1), some (.int (nI n))] [] (rM B s) Q ↔ AW (e + 50) 90 95 [some (.ref 1), some (.ref L), some (.int ax), some (.int t3), some (.int t4)] [] (rM (rLp T u f n B s).1 (rLp T u f n B s).2) Q
  | 0, n, B, s, hn, h, hs, hu, hr => by
    refine ⟨h, hs, 1, nI n, fun Q => ?_⟩
    rw [tX6_readInto_41, show n = 13 by omega]
    have : (nI 13 ≤ 12) = False := by decide
    simp (config := {decide := true}) (disch := first | omega | assumption | (simp only [mS_cL, mS_cI, mS_cR, mR_cL, mR_cI]; first | assumption | exact hcr _ | fail)) only [tX6_readInto_43, tX6_readInto_45, tX6_readInto_48, tX6_readInto_49, tX6_readInto_52, tX6_readInto_53, tX6_readInto_55, tX6_readInto_58, tX6_readInto_59, tX6_readInto_62, tX6_readInto_65, tX6_readInto_66, tX6_readInto_69, tX6_readInto_70, tX6_readInto_73, tX6_readInto_74, tX6_readInto_77, tX6_readInto_78, tX6_readInto_79, tX6_readInto_80, tX6_readInto_83, tX6_readInto_84, tX6_readInto_86, tX6_readInto_89, tX6_readInto_92, jK_some, jK_none, jc1_int, jc1_ref, jc1_none, jc1_long, jc1_null, jc1_rf, va_rf_some, va_rf_none, mI_cI, mL_cL, mR_cR, cI_cI, cL_cL, jup_eq, jne_1, jne_2, Nat.add_left_cancel_iff, mL_cI, mR_cI, mS_cI, mN_cI, mI_cL, mR_cL, mS_cL, mN_cL, mI_cR, mL_cR, mS_cR, mN_cR, true_and, and_true, true_or, or_true, if_true, if_false, jBool_0, jBool_1, Nat.le_refl, Nat.reduceLeDiff, Nat.reduceEqDiff, Nat.reduceAdd, Nat.reduceSub, reduceIte, Int32.reduceLT, Int32.reduceLE, ne_eq, not_false_eq_true, not_true_eq_false, false_or, or_false, and_false, false_and, reduceCtorEq, jn_4, jn_6, jn_8, jn_9, jn_12, jn_60, jn_100, jn_200, jn_400, jn_600, jn_601, jn_3600, jI_4, jI_6, jI_8, jI_9, jI_12, jI_60, jI_100, jI_200, jI_400, jI_600, jI_601, jI_3600, va_cpy_00, jx_0, jx_6, jx_12, jx_400, jx_600, nI_1]
    exact Iff.rfl
  | f + 1, n, B, s, hn, h, hs, hu, hr => by
    obtain ⟨r, hr1, hr2⟩ := id hr
    obtain ⟨c1, c2, c3⟩ := x_readClause (e := e) (n := n) h hs hr2 hr1 (by omega)
    obtain ⟨c4, c5⟩ := rClause_n (T := T) (u := u) (s := s) hr
    rw [hu] at c1 c2 c3
    unfold rLp
    generalize rClause T u n B s = p at *
    obtain ⟨b1, b2, b3, b4, b5, b6, b7, b8⟩ := id h
    obtain ⟨d1, d2, d3, d4, d5, d6, d7, d8⟩ := id c2
    have nn : (12 < nI n) = False := nx_l12 (by omega)
    by_cases e1 : p.2.2.2.1 = 0
    · rw [if_pos e1]
      have hk := fun Q => x_nextByte (d := e + 48) (s := p.2) (Q := Q) c2 c1.1
      by_cases e2 : T (rSk T p.2.1) = -1
      · rw [if_pos e2]
        refine ⟨c2, ⟨rSk_z c2 c1.1, c1.2⟩, 0, nI (n + 1), fun Q => ?_⟩
        rw [tX6_readInto_41]
        simp (config := {decide := true}) (disch := first | omega | assumption | (simp only [mS_cL, mS_cI, mS_cR, mR_cL, mR_cI]; first | assumption | exact hcr _ | fail)) only [tX6_readInto_43, tX6_readInto_45, tX6_readInto_48, tX6_readInto_49, tX6_readInto_52, tX6_readInto_53, tX6_readInto_55, tX6_readInto_58, tX6_readInto_59, tX6_readInto_62, tX6_readInto_65, tX6_readInto_66, tX6_readInto_69, tX6_readInto_70, tX6_readInto_73, tX6_readInto_74, tX6_readInto_77, tX6_readInto_78, tX6_readInto_79, tX6_readInto_80, tX6_readInto_83, tX6_readInto_84, tX6_readInto_86, tX6_readInto_89, tX6_readInto_92, jK_some, jK_none, jc1_int, jc1_ref, jc1_none, jc1_long, jc1_null, jc1_rf, va_rf_some, va_rf_none, mI_cI, mL_cL, mR_cR, cI_cI, cL_cL, jup_eq, jne_1, jne_2, Nat.add_left_cancel_iff, mL_cI, mR_cI, mS_cI, mN_cI, mI_cL, mR_cL, mS_cL, mN_cL, mI_cR, mL_cR, mS_cR, mN_cR, true_and, and_true, true_or, or_true, if_true, if_false, jBool_0, jBool_1, Nat.le_refl, Nat.reduceLeDiff, Nat.reduceEqDiff, Nat.reduceAdd, Nat.reduceSub, reduceIte, Int32.reduceLT, Int32.reduceLE, ne_eq, not_false_eq_true, not_true_eq_false, false_or, or_false, and_false, false_and, reduceCtorEq, jn_4, jn_6, jn_8, jn_9, jn_12, jn_60, jn_100, jn_200, jn_400, jn_600, jn_601, jn_3600, jI_4, jI_6, jI_8, jI_9, jI_12, jI_60, jI_100, jI_200, jI_400, jI_600, jI_601, jI_3600, va_cpy_00, jx_0, jx_6, jx_12, jx_400, jx_600, nI_1, nn, rM_S, rM_R, b1, d1, c3, rM_found, e1, hk, e2, tX6_readInto_41, nI_1]
        split <;> exact Iff.rfl
      · rw [if_neg e2]
        have hk2 : rOk z (rSk T p.2.1, p.2.2) := ⟨rSk_z c2 c1.1, c1.2⟩
        have hx := fun Q => x_expect (d := e + 47) (x := 59) (Q := Q) c2 hk2.1
        obtain ⟨g1, g2, t3, t4, g3⟩ := x_lp h0 f (n + 1) p.1 (rExp T 59 (rSk T p.2.1, p.2.2)) (by omega) c2 (rExp_ok c2 (by decide) hk2) (c4.trans hu) c5
        refine ⟨g1, g2, t3, t4, fun Q => ?_⟩
        rw [← g3, tX6_readInto_41]
        simp (config := {decide := true}) (disch := first | omega | assumption | (simp only [mS_cL, mS_cI, mS_cR, mR_cL, mR_cI]; first | assumption | exact hcr _ | fail)) only [tX6_readInto_43, tX6_readInto_45, tX6_readInto_48, tX6_readInto_49, tX6_readInto_52, tX6_readInto_53, tX6_readInto_55, tX6_readInto_58, tX6_readInto_59, tX6_readInto_62, tX6_readInto_65, tX6_readInto_66, tX6_readInto_69, tX6_readInto_70, tX6_readInto_73, tX6_readInto_74, tX6_readInto_77, tX6_readInto_78, tX6_readInto_79, tX6_readInto_80, tX6_readInto_83, tX6_readInto_84, tX6_readInto_86, tX6_readInto_89, tX6_readInto_92, jK_some, jK_none, jc1_int, jc1_ref, jc1_none, jc1_long, jc1_null, jc1_rf, va_rf_some, va_rf_none, mI_cI, mL_cL, mR_cR, cI_cI, cL_cL, jup_eq, jne_1, jne_2, Nat.add_left_cancel_iff, mL_cI, mR_cI, mS_cI, mN_cI, mI_cL, mR_cL, mS_cL, mN_cL, mI_cR, mL_cR, mS_cR, mN_cR, true_and, and_true, true_or, or_true, if_true, if_false, jBool_0, jBool_1, Nat.le_refl, Nat.reduceLeDiff, Nat.reduceEqDiff, Nat.reduceAdd, Nat.reduceSub, reduceIte, Int32.reduceLT, Int32.reduceLE, ne_eq, not_false_eq_true, not_true_eq_false, false_or, or_false, and_false, false_and, reduceCtorEq, jn_4, jn_6, jn_8, jn_9, jn_12, jn_60, jn_100, jn_200, jn_400, jn_600, jn_601, jn_3600, jI_4, jI_6, jI_8, jI_9, jI_12, jI_60, jI_100, jI_200, jI_400, jI_600, jI_601, jI_3600, va_cpy_00, jx_0, jx_6, jx_12, jx_400, jx_600, nI_1, nn, nI_1, rM_S, rM_R, b1, d1, c3, rM_found, e1, hk, e2, hx]
    · rw [if_neg e1]
      refine ⟨c2, c1, 0, nI (n + 1), fun Q => ?_⟩
      rw [tX6_readInto_41]
      simp (config := {decide := true}) (disch := first | omega | assumption | (simp only [mS_cL, mS_cI, mS_cR, mR_cL, mR_cI]; first | assumption | exact hcr _ | fail)) only [tX6_readInto_43, tX6_readInto_45, tX6_readInto_48, tX6_readInto_49, tX6_readInto_52, tX6_readInto_53, tX6_readInto_55, tX6_readInto_58, tX6_readInto_59, tX6_readInto_62, tX6_readInto_65, tX6_readInto_66, tX6_readInto_69, tX6_readInto_70, tX6_readInto_73, tX6_readInto_74, tX6_readInto_77, tX6_readInto_78, tX6_readInto_79, tX6_readInto_80, tX6_readInto_83, tX6_readInto_84, tX6_readInto_86, tX6_readInto_89, tX6_readInto_92, jK_some, jK_none, jc1_int, jc1_ref, jc1_none, jc1_long, jc1_null, jc1_rf, va_rf_some, va_rf_none, mI_cI, mL_cL, mR_cR, cI_cI, cL_cL, jup_eq, jne_1, jne_2, Nat.add_left_cancel_iff, mL_cI, mR_cI, mS_cI, mN_cI, mI_cL, mR_cL, mS_cL, mN_cL, mI_cR, mL_cR, mS_cR, mN_cR, true_and, and_true, true_or, or_true, if_true, if_false, jBool_0, jBool_1, Nat.le_refl, Nat.reduceLeDiff, Nat.reduceEqDiff, Nat.reduceAdd, Nat.reduceSub, reduceIte, Int32.reduceLT, Int32.reduceLE, ne_eq, not_false_eq_true, not_true_eq_false, false_or, or_false, and_false, false_and, reduceCtorEq, jn_4, jn_6, jn_8, jn_9, jn_12, jn_60, jn_100, jn_200, jn_400, jn_600, jn_601, jn_3600, jI_4, jI_6, jI_8, jI_9, jI_12, jI_60, jI_100, jI_200, jI_400, jI_600, jI_601, jI_3600, va_cpy_00, jx_0, jx_6, jx_12, jx_400, jx_600, nI_1, nn, rM_S, rM_R, b1, d1, c3, rM_found, e1, tX6_readInto_41, nI_1]
      split <;> exact Iff.rfl
/-- the reader's tape as a function -/
def rT (m : jmM) (z : Nat) (i : Nat) : Int32 := if i < z then mI m 3 i else -1
def rB0 (m : jmM) (ax : Int32) : jmM := cI (cI m 1 (jup (jup (jup (jup (mI m 1) 2 ax) 3 0) 4 0) 5 0)) 4 (jup (jup (jup (jup (jup (mI m 4) 1 0) 6 0) 7 (-1)) 8 (-1)) 9 (-1))
def rS0 (m : jmM) : RS := (0, 0, 0, 0, mI m 5)
noncomputable def rGo (m : jmM) (z : Nat) (ax : Int32) : jmM × RS := rLp (rT m z) ax 13 0 (rB0 m ax) (rS0 m)
/-- what stands behind a reading -/
def rEd (p : jmM × RS) : jmM := cI (rM p.1 p.2) 2 (jup (mI (rM p.1 p.2) 2) 1 0)
theorem rM_B0 : rM (rB0 m x) (rS0 m) = rB0 m x := by
  refine cI_ext (fun c j => ?_) rfl
  have e0 : nI 0 = 0 := rfl
  unfold rM rB0 rS0 jup; simp only [mI_cI]; grind
theorem jup_r {f : Nat → Int32} {i : Nat} {v : Int32} (h : f i = v) : jup f i v = f := by
  funext k; unfold jup; split
  · next e => rw [e, h]
  · rfl
theorem XB_0 (h1 : mS m 1 = (6, 6)) (h2 : mR m 1 0 = some 2) (h3 : mR m 1 1 = some 4) (h4 : TapeL (mS m) (mR m) 2) (h5 : LawL (mS m) (mR m) 4) (h6 : z ≤ 400) (h7 : mI m 2 1 = nI z) : XB (rB0 m x) (rT m z) z := ⟨h1, h2, h3, h4, h5, h6, h7, fun i => rfl⟩
theorem x_readInto {b : Nat} {ax : Int32} (hax : jBool ax) (h1 : mS m 1 = (6, 6)) (h2 : mR m 1 0 = some 2) (h3 : mR m 1 1 = some 4) (h4 : TapeL (mS m) (mR m) 2) (h5 : LawL (mS m) (mR m) 4) (h6 : z ≤ 400) (h7 : mI m 2 1 = nI z)
    (g1 : mS m L = (4, 2)) (g2 : mR m L 0 = some (L + 1)) (g3 : mS m (L + 1) = (24, c)) (gk : mI m L 1 = nI k) (gk2 : k < c) (gc : c < 100) (g4 : mR m (L + 1) k = some b) (gb : LawL (mS m) (mR m) b) (gb2 : 9 < b) (gL : L < b ∨ b + 5 < L) (gL2 : 9 < L) (hL1 : mI (rEd (rGo m z ax)) L 1 = nI k) (hS : mS (rGo m z ax).1 = mS m) (hR : mR (rGo m z ax).1 = mR m) :
    CC (e + 51) 90 [.ref 1, .ref L, .int ax] m Q ↔ if (rGo m z ax).2.2.2.1 = 0 then Q (some (.int (nI k))) (cI (jLawCp (rEd (rGo m z ax)) b 4) L (jup (mI (rEd (rGo m z ax)) L) 1 (nI (k + 1)))) else Q (some (.int (-2 - (rGo m z ax).2.2.2.1))) (rEd (rGo m z ax)) := by
  have hB := XB_0 (x := ax) h1 h2 h3 h4 h5 h6 h7
  obtain ⟨q1, q2, t3, t4, q3⟩ := x_lp (e := e) (L := L) (ax := ax) (T := rT m z) (z := z) (B := rB0 m ax) (u := ax) rfl 13 0 (rB0 m ax) (rS0 m) rfl hB ⟨Nat.zero_le _, Nat.zero_le _⟩ rfl ⟨0, Nat.le_refl _, rfl⟩
  have e0 : nI 0 = 0 := rfl
  rw [rM_B0, e0] at q3
  rw [nX6_readInto]
  have hf : ∀ Q : Option Value → jmM → Prop, CC (e + 50) 43 [.ref L] m Q ↔ Q (some (.int 0)) m := fun Q => by
    rw [c_Laws_isFull (d := e + 49) g1 g2 g3 gk (by omega) gc, if_neg (by omega)]
  have hc : ∀ Q : Option Value → jmM → Prop, CC (e + 50) 25 [.ref 4] (cI m 1 (jup (jup (jup (jup (mI m 1) 2 ax) 3 0) 4 0) 5 0)) Q ↔ Q none (rB0 m ax) := fun Q => by
    rw [c_Law_clear (d := e + 49) (m := cI m 1 (jup (jup (jup (jup (mI m 1) 2 ax) 3 0) 4 0) 5 0)) (show LawL (mS m) (mR m) 4 from h5)]; exact Iff.rfl
  simp (config := {decide := true}) (disch := first | omega | assumption | (simp only [mS_cL, mS_cI, mS_cR, mR_cL, mR_cI]; first | assumption | exact hcr _ | fail)) only [tX6_readInto_0, tX6_readInto_1, tX6_readInto_4, tX6_readInto_7, tX6_readInto_8, tX6_readInto_9, tX6_readInto_10, tX6_readInto_11, tX6_readInto_14, tX6_readInto_15, tX6_readInto_16, tX6_readInto_19, tX6_readInto_20, tX6_readInto_21, tX6_readInto_24, tX6_readInto_25, tX6_readInto_26, tX6_readInto_29, tX6_readInto_30, tX6_readInto_33, tX6_readInto_36, tX6_readInto_37, tX6_readInto_38, tX6_readInto_39, mI_same, mS_cI, mR_cI, cI_cI, jK_some, jK_none, jc1_int, jc1_ref, jc1_none, va_rf_some, true_and, reduceIte, h1, h2, h3, hf, hc, g1, h5.1, hax]
  rw [q3]
  show AW (e + 50) _ 95 _ [] (rM (rGo m z ax).1 (rGo m z ax).2) Q ↔ _
  have q1 : XB (rGo m z ax).1 (rT m z) z := q1
  have q2 : rOk z (rGo m z ax).2 := q2
  unfold rEd at hL1 ⊢
  generalize rGo m z ax = p at *
  obtain ⟨d1, d2, d3, d4, d5, d6, d7, d8⟩ := id q1
  have gs : ∀ Q : Option Value → jmM → Prop, CC (e + 50) 133 [.ref 2, .int 0] (rM p.1 p.2) Q ↔ Q none (cI (rM p.1 p.2) 2 (jup (mI (rM p.1 p.2) 2) 1 0)) := fun Q =>
    c_Tape_shorten (d := e + 49) (show TapeL (mS p.1) (mR p.1) 2 from d4) (Int32.le_refl _) (by rw [rM_2, d7]; exact nI_pos' (by omega))
  have f0 : mI (cI (rM p.1 p.2) 2 (jup (mI (rM p.1 p.2) 2) 1 0)) 1 5 = p.2.2.2.1 := rfl
  have hS2 : mS (cI (rM p.1 p.2) 2 (jup (mI (rM p.1 p.2) 2) 1 0)) = mS m := hS
  have hR2 : mR (cI (rM p.1 p.2) 2 (jup (mI (rM p.1 p.2) 2) 1 0)) = mR m := hR
  have f1 : mS (rM p.1 p.2) = mS m := hS
  have f2 : mR (rM p.1 p.2) = mR m := hR
  generalize cI (rM p.1 p.2) 2 (jup (mI (rM p.1 p.2) 2) 1 0) = mm at *
  by_cases ef : p.2.2.2.1 = 0
  · rw [if_pos ef]
    have ga := fun Q => c_Laws_add (d := e + 48) (Q := Q) (m := mm) (L := L) (b := b) (by rw [hS2]; exact g1) (by rw [hR2]; exact g2) (by rw [hS2]; exact g3) hL1 gk2 gc (by rw [hR2]; exact g4) (by rw [hS2, hR2]; exact gb) (by rw [hS2, hR2]; exact h5) gb2 gL gL2
    simp (config := {decide := true}) (disch := first | omega | assumption | (simp only [mS_cL, mS_cI, mS_cR, mR_cL, mR_cI]; first | assumption | exact hcr _ | fail)) only [tX6_readInto_95, tX6_readInto_96, tX6_readInto_99, tX6_readInto_100, tX6_readInto_103, tX6_readInto_104, tX6_readInto_107, tX6_readInto_110, tX6_readInto_111, tX6_readInto_112, tX6_readInto_115, tX6_readInto_118, tX6_readInto_121, tX6_readInto_123, tX6_readInto_124, tX6_readInto_127, tX6_readInto_128, jK_some, jK_none, jc1_int, jc1_ref, jc1_none, jc1_long, jc1_null, jc1_rf, va_rf_some, va_rf_none, mI_cI, mL_cL, mR_cR, cI_cI, cL_cL, jup_eq, jne_1, jne_2, Nat.add_left_cancel_iff, mL_cI, mR_cI, mS_cI, mN_cI, mI_cL, mR_cL, mS_cL, mN_cL, mI_cR, mL_cR, mS_cR, mN_cR, true_and, and_true, true_or, or_true, if_true, if_false, jBool_0, jBool_1, Nat.le_refl, Nat.reduceLeDiff, Nat.reduceEqDiff, Nat.reduceAdd, Nat.reduceSub, reduceIte, Int32.reduceLT, Int32.reduceLE, ne_eq, not_false_eq_true, not_true_eq_false, false_or, or_false, and_false, false_and, reduceCtorEq, jn_4, jn_6, jn_8, jn_9, jn_12, jn_60, jn_100, jn_200, jn_400, jn_600, jn_601, jn_3600, jI_4, jI_6, jI_8, jI_9, jI_12, jI_60, jI_100, jI_200, jI_400, jI_600, jI_601, jI_3600, va_cpy_00, jx_0, jx_6, jx_12, jx_400, jx_600, nI_1, f1, f2, hS2, hR2, h1, h2, h3, h4, h5, gs, f0, ef, ga, g1]
  · rw [if_neg ef]
    simp (config := {decide := true}) (disch := first | omega | assumption | (simp only [mS_cL, mS_cI, mS_cR, mR_cL, mR_cI]; first | assumption | exact hcr _ | fail)) only [tX6_readInto_95, tX6_readInto_96, tX6_readInto_99, tX6_readInto_100, tX6_readInto_103, tX6_readInto_104, tX6_readInto_107, tX6_readInto_110, tX6_readInto_111, tX6_readInto_112, tX6_readInto_115, tX6_readInto_118, tX6_readInto_121, tX6_readInto_123, tX6_readInto_124, tX6_readInto_127, tX6_readInto_128, jK_some, jK_none, jc1_int, jc1_ref, jc1_none, jc1_long, jc1_null, jc1_rf, va_rf_some, va_rf_none, mI_cI, mL_cL, mR_cR, cI_cI, cL_cL, jup_eq, jne_1, jne_2, Nat.add_left_cancel_iff, mL_cI, mR_cI, mS_cI, mN_cI, mI_cL, mR_cL, mS_cL, mN_cL, mI_cR, mL_cR, mS_cR, mN_cR, true_and, and_true, true_or, or_true, if_true, if_false, jBool_0, jBool_1, Nat.le_refl, Nat.reduceLeDiff, Nat.reduceEqDiff, Nat.reduceAdd, Nat.reduceSub, reduceIte, Int32.reduceLT, Int32.reduceLE, ne_eq, not_false_eq_true, not_true_eq_false, false_or, or_false, and_false, false_and, reduceCtorEq, jn_4, jn_6, jn_8, jn_9, jn_12, jn_60, jn_100, jn_200, jn_400, jn_600, jn_601, jn_3600, jI_4, jI_6, jI_8, jI_9, jI_12, jI_60, jI_100, jI_200, jI_400, jI_600, jI_601, jI_3600, va_cpy_00, jx_0, jx_6, jx_12, jx_400, jx_600, nI_1, f1, f2, hS2, hR2, h1, h2, h3, h4, h5, gs, f0, ef]
end RDU
