section LAY3
variable {m B : jmM} {nf nm n d r w W e a : Nat} {G : Nat → KLaw} {P : Pt} {Q : Option Value → jmM → Prop} {x y κ : Int32} {S A0 T0 K0 R : Nat → Int32}
theorem len_fold {p : Nat → Nat} {F0 : Nat → Int32} (h0 : F0 0 = 0) : ∀ q, ∀ i, i ≤ q → (jfor (fun i F => jup F (i + 1) (F i + nI (p i))) 0 q F0) i = nI (dS p 0 i)
  | 0, i, h => by
    have : i = 0 := by omega
    subst this; exact h0
  | q + 1, i, h => by
    rw [jfor_succ, Nat.zero_add]
    by_cases e : i = q + 1
    · subst e
      rw [jup_same, len_fold h0 q q (Nat.le_refl _), nI_add]
      show nI (dS p 0 q + p q) = nI (dS p 0 q + p (0 + q))
      rw [Nat.zero_add]
    · rw [jup_ne e, len_fold h0 q i (by omega)]
theorem run_fold {v : Int32} {F0 : Nat → Int32} : ∀ q, ∀ i, i < q → (jfor (fun i F => jup F i v) 0 q F0) i = v
  | 0, i, h => by omega
  | q + 1, i, h => by
    rw [jfor_succ, Nat.zero_add]
    by_cases e : i = q
    · subst e; rw [jup_same]
    · rw [jup_ne e, run_fold q i (by omega)]
theorem X_lay (hx : XL0 (mS m) (mR m)) (hx2 : ∀ w, w < 8 → mR m 114 w = some (187 + w) ∧ mS m (187 + w) = (10, 6)) (hX : XPot m a P) (ha : a + 10 < 115) (hG : GP nf nm n P) (hW : WOk S W) (hwx : ∀ w, w < W → ∀ j, j < 6 → mI m (187 + w) j = S (6 * w + j)) (h0 : mI m 119 0 = 0) : ∃ m', (∀ Q, CC (d + 5) 1 [.ref 115, .ref a, .int x, .ref 114, .int (nI W)] m Q ↔ Q none m') ∧ (mS m' = mS m ∧ mR m' = mR m ∧ mN m' = mN m ∧ mZ m' = mZ m ∧ mL m' = mL m) ∧ (∀ b, b < 115 ∨ 120 < b → mI m' b = mI m b) ∧ mI m' 119 0 = 0 ∧ mI m' 115 5 = nI n ∧ RpX S P x n W 0 (mI m' 116) (mI m' 117) (mI m' 118) (mI m' 120) := by
  have h6 := hG.2.1
  have hn := x_n hX hG
  obtain ⟨F, hF⟩ : ∃ F, F = jfor (fun i F => jup F (i + 1) (F i + nI (kPl P i))) 0 n (mI m 119) := ⟨_, rfl⟩
  obtain ⟨R, hR⟩ : ∃ R, R = jfor (fun i F => jup F i (nI n)) 0 8 (mI m 120) := ⟨_, rfl⟩
  have hF1 : ∀ i, i ≤ n → F i = nI (dS (kPl P) 0 i) := fun i hi => by rw [hF]; exact len_fold h0 n i hi
  have hR1 : ∀ i, i < 8 → R i = nI n := fun i hi => by rw [hR]; exact run_fold 8 i hi
  obtain ⟨B0, hB0⟩ : ∃ B0, B0 = cI m 115 (jup (mI m 115) 5 (nI n)) := ⟨_, rfl⟩
  obtain ⟨B, hB⟩ : ∃ B, B = cI B0 119 F := ⟨_, rfl⟩
  have b0S : mS B0 = mS m := by rw [hB0]; rfl
  have b0R : mR B0 = mR m := by rw [hB0]; rfl
  have b0L : mL B0 = mL m := by rw [hB0]; rfl
  have b0I : ∀ b, b ≠ 115 → mI B0 b = mI m b := fun b hb => by rw [hB0, mI_ne hb]
  have b05 : mI B0 115 5 = nI n := by rw [hB0, mI_same, jup_same]
  have bS : mS B = mS m := by rw [hB]; exact b0S
  have bR : mR B = mR m := by rw [hB]; exact b0R
  have bL : mL B = mL m := by rw [hB]; exact b0L
  have bI : ∀ b, b ≠ 115 → b ≠ 119 → mI B b = mI m b := fun b h1 h2 => by rw [hB, mI_ne h2, b0I b h1]
  have b5 : mI B 115 5 = nI n := by rw [hB, mI_ne (by decide)]; exact b05
  have b119 : mI B 119 = F := by rw [hB, mI_same]
  have hXB : XPot B a P := XPot_fr bS bR (fun j u v => bI j (by omega) (by omega)) (fun j u v => by rw [bL]) hX
  have hLy : LyH B a P nf nm n W S := ⟨by rw [bS, bR]; exact hx, fun w hw => by rw [bS, bR]; exact hx2 w hw, hXB, hG, hW, fun w hw j hj => by have := hW.1; rw [bI (187 + w) (by omega) (by omega)]; exact hwx w hw j hj, b5, fun i hi => by rw [b119]; exact hF1 i hi⟩
  obtain ⟨A', T', K', R', h1, h2⟩ := X_rows (d := d) (x := x) hLy ha n (Nat.le_refl _) (jup (mI m 116) n 0) (mI m 117) (mI m 118) R (by
    unfold RpX
    rw [Nat.sub_self]
    refine ⟨fun i a b => ?_, fun i a b => by omega, fun v hv => ?_⟩
    · have : i = n := by omega
      subst this
      rw [jup_same]; rfl
    · have := hW.1
      have hk := kRn_le (okw := kOw S P x n v) (r := n) (n := n) (Nat.le_refl _)
      rw [hR1 v (by omega), show kRn (kOw S P x n v) n n = 0 by omega, Nat.add_zero])
  have mI' : ∀ b, b < 115 ∨ 120 < b → mI (mX B A' T' K' R') b = mI m b := fun b hb => by unfold mX; rw [mI_ne (by omega), mI_ne (by omega), mI_ne (by omega), mI_ne (by omega), bI b (by omega) (by omega)]
  refine ⟨mX B A' T' K' R', fun Q => ?_, ⟨bS, bR, ?_, ?_, bL⟩, mI', ?_, ?_, ?_⟩
  · have hrw := fun Q => c_Pot_rows (d := d + 3) (m := m) (a := a) (Q := Q) hX.1
    have e600 : (600 : Int32) < nI n ↔ False := ⟨fun e => by have := (nI_ltI (a := 600) (by omega) (by omega)).mp e; omega, False.elim⟩
    rw [nX0_lay]
    simp (config := {decide := true}) (disch := first | omega | assumption | (simp only [mS_cL, mS_cI, mS_cR, mR_cL, mR_cI]; first | assumption | exact hcr _ | fail)) only [tX0_lay_0, tX0_lay_1, tX0_lay_2, tX0_lay_5, tX0_lay_8, tX0_lay_11, tX0_lay_14, tX0_lay_15, jK_some, jK_none, jc1_int, jc1_ref, jc1_none, jc1_long, jc1_null, jc1_rf, va_rf_some, va_rf_none, mI_cI, mL_cL, mR_cR, cI_cI, cL_cL, jup_eq, jne_1, jne_2, Nat.add_left_cancel_iff, mL_cI, mR_cI, mS_cI, mN_cI, mI_cL, mR_cL, mS_cL, mN_cL, mI_cR, mL_cR, mS_cR, mN_cR, true_and, and_true, true_or, or_true, if_true, if_false, jBool_0, jBool_1, Nat.le_refl, Nat.reduceLeDiff, Nat.reduceEqDiff, Nat.reduceAdd, Nat.reduceSub, reduceIte, Int32.reduceLT, Int32.reduceLE, ne_eq, not_false_eq_true, not_true_eq_false, false_or, or_false, and_false, false_and, reduceCtorEq, jn_4, jn_6, jn_8, jn_9, jn_12, jn_60, jn_100, jn_200, jn_400, jn_600, jn_601, jn_3600, jI_4, jI_6, jI_8, jI_9, jI_12, jI_60, jI_100, jI_200, jI_400, jI_600, jI_601, jI_3600, va_cpy_00, jx_0, jx_6, jx_12, jx_400, jx_600, nI_1, nx_5e, nx_l6, nx_l12, nx_l100, nx_l200, nx_l400, nx_l600, nx_l601, nx_l3600, nx_pos, nx_posN, nx_neg1, nx_m1neg, nx_leF, nx_leT, nx_ltF, nx_ltT, nx_mul6, nI_add, nI_1, jx_nI, nx_4, nx_g4, nx_6, nx_g6, nx_8, nx_g8, nx_9, nx_g9, nx_12, nx_g12, nx_14, nx_g14, nx_60, nx_g60, nx_100, nx_g100, nx_200, nx_g200, nx_400, nx_g400, nx_600, nx_g600, nx_601, nx_g601, nx_3600, nx_g3600, hx, hX.1, hrw, hn, e600]
    rw [← hB0]
    have gC : ∀ l6 l7 l8 : Option Value, AW (d + 4) 1 82 [some (.ref 115), some (.ref a), some (.int x), some (.ref 114), some (.int (nI W)), some (.int (nI 8)), l6, l7, l8] [] (cI B 120 R) Q ↔ Q none (mX B A' T' K' R') := by
      intro l6 l7 l8
      have eM : cI (cI B 120 R) 116 (jup (mI m 116) n 0) = mX B (jup (mI m 116) n 0) (mI m 117) (mI m 118) R := by
        unfold mX
        rw [show cI (cI B 116 (jup (mI m 116) n 0)) 117 (mI m 117) = cI B 116 (jup (mI m 116) n 0) from by rw [show mI m 117 = mI (cI B 116 (jup (mI m 116) n 0)) 117 from by rw [mI_ne (by decide), bI 117 (by decide) (by decide)], cI_eta], show cI (cI B 116 (jup (mI m 116) n 0)) 118 (mI m 118) = cI B 116 (jup (mI m 116) n 0) from by rw [show mI m 118 = mI (cI B 116 (jup (mI m 116) n 0)) 118 from by rw [mI_ne (by decide), bI 118 (by decide) (by decide)], cI_eta], cI_comm (by decide)]
      have hX3 : XPot (cI (cI B 120 R) 116 (jup (mI m 116) n 0)) a P := XPot_fr (m := B) rfl rfl (fun j u v => by rw [mI_ne (by omega), mI_ne (by omega)]) (fun j u v => rfl) hXB
      have hfc := fun Q => x_firstClean (d := d + 2) (x := x) (Q := Q) hX3 hG
      have hff := fun Q => x_firstFaulted (d := d + 3) (Q := Q) hX3 hG
      have i116 : mI B 116 = mI m 116 := bI 116 (by decide) (by decide)
      rw [eM] at hfc hff
      have hh := h2 Q l8
      rw [← hh]
      have hSm : ∀ A T K R : Nat → Int32, mS (mX B A T K R) = mS B := fun A T K R => rfl
      have hRm : ∀ A T K R : Nat → Int32, mR (mX B A T K R) = mR B := fun A T K R => rfl
      have l5 : ∀ A T K R : Nat → Int32, mI (mX B A T K R) 115 5 = nI n := fun A T K R => by unfold mX; rw [mI_ne (by omega), mI_ne (by omega), mI_ne (by omega), mI_ne (by omega), b5]
      simp (config := {decide := true}) (disch := first | omega | assumption | (simp only [mS_cL, mS_cI, mS_cR, mR_cL, mR_cI]; first | assumption | exact hcr _ | fail)) only [tX0_lay_82, tX0_lay_83, tX0_lay_86, tX0_lay_87, tX0_lay_90, tX0_lay_91, jK_some, jK_none, jc1_int, jc1_ref, jc1_none, jc1_long, jc1_null, jc1_rf, va_rf_some, va_rf_none, mI_same, mL_same, mR_same, mI_ne, mL_ne, mR_ne, cI_cI, cL_cL, jup_eq, mL_cI, mR_cI, mS_cI, mN_cI, mI_cL, mR_cL, mS_cL, mN_cL, mI_cR, mL_cR, mS_cR, mN_cR, true_and, and_true, true_or, or_true, if_true, if_false, jBool_0, jBool_1, Nat.le_refl, Nat.reduceLeDiff, Nat.reduceEqDiff, Nat.reduceAdd, Nat.reduceSub, reduceIte, Int32.reduceLT, Int32.reduceLE, ne_eq, not_false_eq_true, not_true_eq_false, false_or, or_false, and_false, false_and, reduceCtorEq, jn_4, jn_6, jn_8, jn_9, jn_12, jn_60, jn_100, jn_200, jn_400, jn_600, jn_601, jn_3600, jI_4, jI_6, jI_8, jI_9, jI_12, jI_60, jI_100, jI_200, jI_400, jI_600, jI_601, jI_3600, va_cpy_00, jx_0, jx_6, jx_12, jx_400, jx_600, nI_1, nx_5e, nx_l6, nx_l12, nx_l100, nx_l200, nx_l400, nx_l600, nx_l601, nx_l3600, nx_pos, nx_posN, nx_neg1, nx_m1neg, nx_leF, nx_leT, nx_ltF, nx_ltT, nx_mul6, nI_add, nI_1, jx_nI, nx_4, nx_g4, nx_6, nx_g6, nx_8, nx_g8, nx_9, nx_g9, nx_12, nx_g12, nx_14, nx_g14, nx_60, nx_g60, nx_100, nx_g100, nx_200, nx_g200, nx_400, nx_g400, nx_600, nx_g600, nx_601, nx_g601, nx_3600, nx_g3600, hx, bS, bR, b5, i116]
      rw [eM]
      simp (config := {decide := true}) (disch := first | omega | assumption | (simp only [mS_cL, mS_cI, mS_cR, mR_cL, mR_cI]; first | assumption | exact hcr _ | fail)) only [tX0_lay_92, tX0_lay_93, tX0_lay_94, tX0_lay_97, tX0_lay_99, tX0_lay_100, tX0_lay_103, tX0_lay_105, tX0_lay_106, tX0_lay_109, tX0_lay_110, tX0_lay_111, jK_some, jK_none, jc1_int, jc1_ref, jc1_none, jc1_long, jc1_null, jc1_rf, va_rf_some, va_rf_none, mI_cI, mL_cL, mR_cR, cI_cI, cL_cL, jup_eq, jne_1, jne_2, Nat.add_left_cancel_iff, mL_cI, mR_cI, mS_cI, mN_cI, mI_cL, mR_cL, mS_cL, mN_cL, mI_cR, mL_cR, mS_cR, mN_cR, true_and, and_true, true_or, or_true, if_true, if_false, jBool_0, jBool_1, Nat.le_refl, Nat.reduceLeDiff, Nat.reduceEqDiff, Nat.reduceAdd, Nat.reduceSub, reduceIte, Int32.reduceLT, Int32.reduceLE, ne_eq, not_false_eq_true, not_true_eq_false, false_or, or_false, and_false, false_and, reduceCtorEq, jn_4, jn_6, jn_8, jn_9, jn_12, jn_60, jn_100, jn_200, jn_400, jn_600, jn_601, jn_3600, jI_4, jI_6, jI_8, jI_9, jI_12, jI_60, jI_100, jI_200, jI_400, jI_600, jI_601, jI_3600, va_cpy_00, jx_0, jx_6, jx_12, jx_400, jx_600, nI_1, nx_5e, nx_l6, nx_l12, nx_l100, nx_l200, nx_l400, nx_l600, nx_l601, nx_l3600, nx_pos, nx_posN, nx_neg1, nx_m1neg, nx_leF, nx_leT, nx_ltF, nx_ltT, nx_mul6, nI_add, nI_1, jx_nI, nx_4, nx_g4, nx_6, nx_g6, nx_8, nx_g8, nx_9, nx_g9, nx_12, nx_g12, nx_14, nx_g14, nx_60, nx_g60, nx_100, nx_g100, nx_200, nx_g200, nx_400, nx_g400, nx_600, nx_g600, nx_601, nx_g601, nx_3600, nx_g3600, hx, hX.1, bS, bR, hSm, hRm, hfc, hff, l5]
      done
    have gB : ∀ l6 l7 l8 : Option Value, AW (d + 4) 1 58 [some (.ref 115), some (.ref a), some (.int x), some (.ref 114), some (.int (nI W)), some (.int (nI 0)), l6, l7, l8] [] B Q ↔ Q none (mX B A' T' K' R') := by
      intro l6 l7 l8
      refine Iff.trans (show AW (d + 4) 1 58 _ [] B Q ↔ AW (d + 4) 1 58 [some (.ref 115), some (.ref a), some (.int x), some (.ref 114), some (.int (nI W)), some (.int (nI 0)), l6, l7, l8] [] (cI B 120 (mI m 120)) Q by rw [← bI 120 (by decide) (by decide), cI_eta]) ?_
      refine Iff.trans (loop_iff (n := 8) (P := fun i F => AW (d + 4) 1 58 [some (.ref 115), some (.ref a), some (.int x), some (.ref 114), some (.int (nI W)), some (.int (nI i)), l6, l7, l8] [] (cI B 120 F) Q) (E := fun F => AW (d + 4) 1 82 [some (.ref 115), some (.ref a), some (.int x), some (.ref 114), some (.int (nI W)), some (.int (nI 8)), l6, l7, l8] [] (cI B 120 F) Q) (fun i F => jup F i (nI n)) ?_ ?_ 8 0 (mI m 120) (by omega)) ?_
      · intro i F hi
        rw [tX0_lay_58]
        simp (config := {decide := true}) (disch := first | omega | assumption | (simp only [mS_cL, mS_cI, mS_cR, mR_cL, mR_cI]; first | assumption | exact hcr _ | fail)) only [tX0_lay_60, tX0_lay_62, tX0_lay_65, tX0_lay_66, tX0_lay_69, tX0_lay_71, tX0_lay_72, tX0_lay_75, tX0_lay_76, tX0_lay_79, jK_some, jK_none, jc1_int, jc1_ref, jc1_none, jc1_long, jc1_null, jc1_rf, va_rf_some, va_rf_none, mI_same, mL_same, mR_same, mI_ne, mL_ne, mR_ne, cI_cI, cL_cL, jup_eq, mL_cI, mR_cI, mS_cI, mN_cI, mI_cL, mR_cL, mS_cL, mN_cL, mI_cR, mL_cR, mS_cR, mN_cR, true_and, and_true, true_or, or_true, if_true, if_false, jBool_0, jBool_1, Nat.le_refl, Nat.reduceLeDiff, Nat.reduceEqDiff, Nat.reduceAdd, Nat.reduceSub, reduceIte, Int32.reduceLT, Int32.reduceLE, ne_eq, not_false_eq_true, not_true_eq_false, false_or, or_false, and_false, false_and, reduceCtorEq, jn_4, jn_6, jn_8, jn_9, jn_12, jn_60, jn_100, jn_200, jn_400, jn_600, jn_601, jn_3600, jI_4, jI_6, jI_8, jI_9, jI_12, jI_60, jI_100, jI_200, jI_400, jI_600, jI_601, jI_3600, va_cpy_00, jx_0, jx_6, jx_12, jx_400, jx_600, nI_1, nx_5e, nx_l6, nx_l12, nx_l100, nx_l200, nx_l400, nx_l600, nx_l601, nx_l3600, nx_pos, nx_posN, nx_neg1, nx_m1neg, nx_leF, nx_leT, nx_ltF, nx_ltT, nx_mul6, nI_add, nI_1, jx_nI, nx_4, nx_g4, nx_6, nx_g6, nx_8, nx_g8, nx_9, nx_g9, nx_12, nx_g12, nx_14, nx_g14, nx_60, nx_g60, nx_100, nx_g100, nx_200, nx_g200, nx_400, nx_g400, nx_600, nx_g600, nx_601, nx_g601, nx_3600, nx_g3600, hx, bS, bR, b5]
        done
      · intro F
        rw [tX0_lay_58]
        simp (config := {decide := true}) (disch := first | omega | assumption | (simp only [mS_cL, mS_cI, mS_cR, mR_cL, mR_cI]; first | assumption | exact hcr _ | fail)) only [tX0_lay_60, tX0_lay_62, tX0_lay_65, tX0_lay_66, tX0_lay_69, tX0_lay_71, tX0_lay_72, tX0_lay_75, tX0_lay_76, tX0_lay_79, jK_some, jK_none, jc1_int, jc1_ref, jc1_none, jc1_long, jc1_null, jc1_rf, va_rf_some, va_rf_none, mI_same, mL_same, mR_same, mI_ne, mL_ne, mR_ne, cI_cI, cL_cL, jup_eq, mL_cI, mR_cI, mS_cI, mN_cI, mI_cL, mR_cL, mS_cL, mN_cL, mI_cR, mL_cR, mS_cR, mN_cR, true_and, and_true, true_or, or_true, if_true, if_false, jBool_0, jBool_1, Nat.le_refl, Nat.reduceLeDiff, Nat.reduceEqDiff, Nat.reduceAdd, Nat.reduceSub, reduceIte, Int32.reduceLT, Int32.reduceLE, ne_eq, not_false_eq_true, not_true_eq_false, false_or, or_false, and_false, false_and, reduceCtorEq, jn_4, jn_6, jn_8, jn_9, jn_12, jn_60, jn_100, jn_200, jn_400, jn_600, jn_601, jn_3600, jI_4, jI_6, jI_8, jI_9, jI_12, jI_60, jI_100, jI_200, jI_400, jI_600, jI_601, jI_3600, va_cpy_00, jx_0, jx_6, jx_12, jx_400, jx_600, nI_1, nx_5e, nx_l6, nx_l12, nx_l100, nx_l200, nx_l400, nx_l600, nx_l601, nx_l3600, nx_pos, nx_posN, nx_neg1, nx_m1neg, nx_leF, nx_leT, nx_ltF, nx_ltT, nx_mul6, nI_add, nI_1, jx_nI, nx_4, nx_g4, nx_6, nx_g6, nx_8, nx_g8, nx_9, nx_g9, nx_12, nx_g12, nx_14, nx_g14, nx_60, nx_g60, nx_100, nx_g100, nx_200, nx_g200, nx_400, nx_g400, nx_600, nx_g600, nx_601, nx_g601, nx_3600, nx_g3600, hx, bS, bR, b5]
        done
      · rw [← hR]; exact gC l6 l7 l8
    have gA : ∀ l6 l7 l8 : Option Value, AW (d + 4) 1 17 [some (.ref 115), some (.ref a), some (.int x), some (.ref 114), some (.int (nI W)), some (.int (nI 0)), l6, l7, l8] [] B0 Q ↔ Q none (mX B A' T' K' R') := by
      intro l6 l7 l8
      refine Iff.trans (show AW (d + 4) 1 17 _ [] B0 Q ↔ AW (d + 4) 1 17 [some (.ref 115), some (.ref a), some (.int x), some (.ref 114), some (.int (nI W)), some (.int (nI 0)), l6, l7, l8] [] (cI B0 119 (mI m 119)) Q by rw [← b0I 119 (by decide), cI_eta]) ?_
      refine Iff.trans (loop_iff (n := n) (P := fun i F => AW (d + 4) 1 17 [some (.ref 115), some (.ref a), some (.int x), some (.ref 114), some (.int (nI W)), some (.int (nI i)), l6, l7, l8] [] (cI B0 119 F) Q) (E := fun F => AW (d + 4) 1 58 [some (.ref 115), some (.ref a), some (.int x), some (.ref 114), some (.int (nI W)), some (.int (nI 0)), l6, l7, l8] [] (cI B0 119 F) Q) (fun i F => jup F (i + 1) (F i + nI (kPl P i))) ?_ ?_ n 0 (mI m 119) (by omega)) ?_
      · intro i F hi
        have hpu := fun Q => c_Pot_pullOf_in (d := d + 2) (m := cI B0 119 F) (a := a) (i := i) (n := n) (Q := Q) (by rw [mS_cI, mR_cI, b0S, b0R]; exact hX.1) (by rw [mI_ne (by omega), b0I a (by omega)]; exact hn) h6 hi
        rw [mI_ne (by omega), b0I (a + 6) (by omega), (hX.row hG hi).1.2.2.1, (kPl_ok hG hi).1] at hpu
        rw [tX0_lay_17]
        simp (config := {decide := true}) (disch := first | omega | assumption | (simp only [mS_cL, mS_cI, mS_cR, mR_cL, mR_cI]; first | assumption | exact hcr _ | fail)) only [tX0_lay_19, tX0_lay_20, tX0_lay_23, tX0_lay_26, tX0_lay_27, tX0_lay_30, tX0_lay_32, tX0_lay_33, tX0_lay_34, tX0_lay_35, tX0_lay_38, tX0_lay_40, tX0_lay_41, tX0_lay_42, tX0_lay_44, tX0_lay_47, tX0_lay_48, tX0_lay_49, tX0_lay_52, jK_some, jK_none, jc1_int, jc1_ref, jc1_none, jc1_long, jc1_null, jc1_rf, va_rf_some, va_rf_none, mI_same, mL_same, mR_same, mI_ne, mL_ne, mR_ne, cI_cI, cL_cL, jup_eq, mL_cI, mR_cI, mS_cI, mN_cI, mI_cL, mR_cL, mS_cL, mN_cL, mI_cR, mL_cR, mS_cR, mN_cR, true_and, and_true, true_or, or_true, if_true, if_false, jBool_0, jBool_1, Nat.le_refl, Nat.reduceLeDiff, Nat.reduceEqDiff, Nat.reduceAdd, Nat.reduceSub, reduceIte, Int32.reduceLT, Int32.reduceLE, ne_eq, not_false_eq_true, not_true_eq_false, false_or, or_false, and_false, false_and, reduceCtorEq, jn_4, jn_6, jn_8, jn_9, jn_12, jn_60, jn_100, jn_200, jn_400, jn_600, jn_601, jn_3600, jI_4, jI_6, jI_8, jI_9, jI_12, jI_60, jI_100, jI_200, jI_400, jI_600, jI_601, jI_3600, va_cpy_00, jx_0, jx_6, jx_12, jx_400, jx_600, nI_1, nx_5e, nx_l6, nx_l12, nx_l100, nx_l200, nx_l400, nx_l600, nx_l601, nx_l3600, nx_pos, nx_posN, nx_neg1, nx_m1neg, nx_leF, nx_leT, nx_ltF, nx_ltT, nx_mul6, nI_add, nI_1, jx_nI, nx_4, nx_g4, nx_6, nx_g6, nx_8, nx_g8, nx_9, nx_g9, nx_12, nx_g12, nx_14, nx_g14, nx_60, nx_g60, nx_100, nx_g100, nx_200, nx_g200, nx_400, nx_g400, nx_600, nx_g600, nx_601, nx_g601, nx_3600, nx_g3600, hx, hX.1, b0S, b0R, b05, hpu]
        done
      · intro F
        rw [tX0_lay_17]
        simp (config := {decide := true}) (disch := first | omega | assumption | (simp only [mS_cL, mS_cI, mS_cR, mR_cL, mR_cI]; first | assumption | exact hcr _ | fail)) only [tX0_lay_19, tX0_lay_20, tX0_lay_23, tX0_lay_26, tX0_lay_27, tX0_lay_30, tX0_lay_32, tX0_lay_33, tX0_lay_34, tX0_lay_35, tX0_lay_38, tX0_lay_40, tX0_lay_41, tX0_lay_42, tX0_lay_44, tX0_lay_47, tX0_lay_48, tX0_lay_49, tX0_lay_52, tX0_lay_55, tX0_lay_56, jK_some, jK_none, jc1_int, jc1_ref, jc1_none, jc1_long, jc1_null, jc1_rf, va_rf_some, va_rf_none, mI_same, mL_same, mR_same, mI_ne, mL_ne, mR_ne, cI_cI, cL_cL, jup_eq, mL_cI, mR_cI, mS_cI, mN_cI, mI_cL, mR_cL, mS_cL, mN_cL, mI_cR, mL_cR, mS_cR, mN_cR, true_and, and_true, true_or, or_true, if_true, if_false, jBool_0, jBool_1, Nat.le_refl, Nat.reduceLeDiff, Nat.reduceEqDiff, Nat.reduceAdd, Nat.reduceSub, reduceIte, Int32.reduceLT, Int32.reduceLE, ne_eq, not_false_eq_true, not_true_eq_false, false_or, or_false, and_false, false_and, reduceCtorEq, jn_4, jn_6, jn_8, jn_9, jn_12, jn_60, jn_100, jn_200, jn_400, jn_600, jn_601, jn_3600, jI_4, jI_6, jI_8, jI_9, jI_12, jI_60, jI_100, jI_200, jI_400, jI_600, jI_601, jI_3600, va_cpy_00, jx_0, jx_6, jx_12, jx_400, jx_600, nI_1, nx_5e, nx_l6, nx_l12, nx_l100, nx_l200, nx_l400, nx_l600, nx_l601, nx_l3600, nx_pos, nx_posN, nx_neg1, nx_m1neg, nx_leF, nx_leT, nx_ltF, nx_ltT, nx_mul6, nI_add, nI_1, jx_nI, nx_4, nx_g4, nx_6, nx_g6, nx_8, nx_g8, nx_9, nx_g9, nx_12, nx_g12, nx_14, nx_g14, nx_60, nx_g60, nx_100, nx_g100, nx_200, nx_g200, nx_400, nx_g400, nx_600, nx_g600, nx_601, nx_g601, nx_3600, nx_g3600, hx, b0S, b0R, b05]
        exact Iff.rfl
      · rw [← hF, ← hB]; exact gB l6 l7 l8
    exact gA _ _ _
  · show mN B = mN m
    rw [hB, hB0]; rfl
  · show mZ B = mZ m
    rw [hB, hB0]; rfl
  · unfold mX; rw [mI_ne (by omega), mI_ne (by omega), mI_ne (by omega), mI_ne (by omega), b119, hF1 0 (by omega)]; rfl
  · unfold mX; rw [mI_ne (by omega), mI_ne (by omega), mI_ne (by omega), mI_ne (by omega), b5]
  · have e1 : mI (mX B A' T' K' R') 116 = A' := by unfold mX; rw [mI_ne (by omega), mI_ne (by omega), mI_ne (by omega), mI_same]
    have e2 : mI (mX B A' T' K' R') 117 = T' := by unfold mX; rw [mI_ne (by omega), mI_ne (by omega), mI_same]
    have e3 : mI (mX B A' T' K' R') 118 = K' := by unfold mX; rw [mI_ne (by omega), mI_same]
    have e4 : mI (mX B A' T' K' R') 120 = R' := by unfold mX; rw [mI_same]
    rw [e1, e2, e3, e4]; exact h1
end LAY3
