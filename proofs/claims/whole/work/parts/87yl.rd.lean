/-! ===== minder ===== -/
section RDL
variable {m : jmM}
theorem pub_minder (h : Rel m) : PUB 144 222 [.ref 0] [.ref 195] m := by
  obtain ⟨nf, nm, G, hA, hT, hU, hL, hP, hI, hW, hS, hR⟩ := id h; obtain ⟨n, P, hM, hX, hG⟩ := id hP; have hx := hA.1.1; have hl := hA.2.1; have hp := hX.1; have hx1 := hA.1.2.1; have hx4 := hA.1.2.2.2.2.2.2.2.2.2.2; have hx86 := hA.1.2.2.2.2.2.1
  obtain ⟨z, z1, z2, z3, z4⟩ := id hT
  have hnf := hL.1.2.1
  obtain ⟨-, -, -, l4, l5, l6, l7⟩ := id hL
  have s1 : mS m 1 = (6, 6) := by simp only [hx]
  have s2 : mR m 1 0 = some 2 := by simp only [hx]
  have s3 : mR m 1 1 = some 4 := by simp only [hx]
  have s4 := hA.1.2.2.1
  have s5 : mS m 36 = (4, 2) := by simp only [hx]
  have s6 : mR m 36 0 = some (36 + 1) := by simp only [hx]
  have s7 : mS m (36 + 1) = (24, 8) := by simp only [hx, Nat.reduceAdd]
  refine PUB_mk fun Q1 h1 => ?_
  rw [nX11_minder (d := 99)]
  by_cases full : nm = 8
  · subst full
    have hf := fun Q => x_full (e := 48) (ax := 0) (Q := Q) s1 s5 s6 s7 l5 (Nat.le_refl _) (by decide) (by decide)
    simp (config := {decide := true}) (disch := first | omega | assumption | (simp only [mS_cL, mS_cI, mS_cR, mR_cL, mR_cI]; first | assumption | exact hcr _ | fail)) only [tX11_minder_0, tX11_minder_1, tX11_minder_4, tX11_minder_5, tX11_minder_8, tX11_minder_9, tX11_minder_12, jK_some, jK_none, jc1_int, jc1_ref, jc1_none, jc1_long, jc1_null, jc1_rf, va_rf_some, va_rf_none, mI_cI, mL_cL, mR_cR, cI_cI, cL_cL, jup_eq, jne_1, jne_2, Nat.add_left_cancel_iff, mL_cI, mR_cI, mS_cI, mN_cI, mI_cL, mR_cL, mS_cL, mN_cL, mI_cR, mL_cR, mS_cR, mN_cR, true_and, and_true, true_or, or_true, if_true, if_false, jBool_0, jBool_1, Nat.le_refl, Nat.reduceLeDiff, Nat.reduceEqDiff, Nat.reduceAdd, Nat.reduceSub, reduceIte, Int32.reduceLT, Int32.reduceLE, ne_eq, not_false_eq_true, not_true_eq_false, false_or, or_false, and_false, false_and, reduceCtorEq, jn_4, jn_6, jn_8, jn_9, jn_12, jn_60, jn_100, jn_200, jn_400, jn_600, jn_601, jn_3600, jI_4, jI_6, jI_8, jI_9, jI_12, jI_60, jI_100, jI_200, jI_400, jI_600, jI_601, jI_3600, va_cpy_00, jx_0, jx_6, jx_12, jx_400, jx_600, nI_1, hx, hf]
    apply h1; intro Q2 h2
    rw [nX12_minder (d := 99)]; simp (config := {decide := true}) (disch := first | omega | assumption | (simp only [mS_cL, mS_cI, mS_cR, mR_cL, mR_cI]; first | assumption | exact hcr _ | fail)) only [tX12_minder_0, tX12_minder_1, tX12_minder_4, tX12_minder_6, tX12_minder_9, tX12_minder_10, tX12_minder_11, tX12_minder_12, tX12_minder_13, tX12_minder_14, tX12_minder_17, tX12_minder_18, tX12_minder_21, tX12_minder_22, tX12_minder_23, tX12_minder_26, tX12_minder_28, tX12_minder_29, tX12_minder_30, tX12_minder_31, tX12_minder_32, tX12_minder_33, tX12_minder_36, tX12_minder_37, tX12_minder_38, tX12_minder_41, tX12_minder_42, tX12_minder_45, tX12_minder_46, tX12_minder_47, jK_some, jK_none, jc1_int, jc1_ref, jc1_none, jc1_long, jc1_null, jc1_rf, va_rf_some, va_rf_none, mI_cI, mL_cL, mR_cR, cI_cI, cL_cL, jup_eq, jne_1, jne_2, Nat.add_left_cancel_iff, mL_cI, mR_cI, mS_cI, mN_cI, mI_cL, mR_cL, mS_cL, mN_cL, mI_cR, mL_cR, mS_cR, mN_cR, true_and, and_true, true_or, or_true, if_true, if_false, jBool_0, jBool_1, Nat.le_refl, Nat.reduceLeDiff, Nat.reduceEqDiff, Nat.reduceAdd, Nat.reduceSub, reduceIte, Int32.reduceLT, Int32.reduceLE, ne_eq, not_false_eq_true, not_true_eq_false, false_or, or_false, and_false, false_and, reduceCtorEq, jn_4, jn_6, jn_8, jn_9, jn_12, jn_60, jn_100, jn_200, jn_400, jn_600, jn_601, jn_3600, jI_4, jI_6, jI_8, jI_9, jI_12, jI_60, jI_100, jI_200, jI_400, jI_600, jI_601, jI_3600, va_cpy_00, jx_0, jx_6, jx_12, jx_400, jx_600, nI_1, nx_5e, nx_l6, nx_l12, nx_l100, nx_l200, nx_l400, nx_l600, nx_l601, nx_l3600, nx_pos, nx_posN, nx_neg1, nx_m1neg, nx_leF, nx_leT, nx_ltF, nx_ltT, nx_mul6, nI_add, nI_1, jx_nI, nx_4, nx_g4, nx_6, nx_g6, nx_8, nx_g8, nx_9, nx_g9, nx_12, nx_g12, nx_14, nx_g14, nx_60, nx_g60, nx_100, nx_g100, nx_200, nx_g200, nx_400, nx_g400, nx_600, nx_g600, nx_601, nx_g601, nx_3600, nx_g3600, jx_1, jx_2, jx_3, jx_4, jx_5, jx_7, jx_8, jx_9, jx_10, jx_11, jx_13, jx_14, jx_15, jx_16, jx_17, jx_18, jx_19, jx_20, jx_21, jx_22, jx_23, jx_24, jx_25, jx_26, jx_27, jx_28, jx_29, jx_30, jx_31, jx_32, jx_33, jx_34, jx_35, jx_36, jx_37, jx_38, jx_39, jx_40, jx_41, jx_42, nx_a2, nx_a3, nx_a4, nx_a5, nx_a6, nx_a7, nx_a8, nx_a9, nx_a10, nx_a11, nx_a12, nx_a13, nx_a14, nx_a15, nx_a16, nx_a17, nx_a18, nx_a19, nx_a20, nx_a21, nx_a22, nx_a23, nx_a24, nx_a25, nx_a26, nx_a27, nx_a28, nx_a29, nx_a30, nx_a31, nx_a32, nx_a33, nx_a34, nx_a35, nx_a36, nx_a37, nx_a38, nx_a39, nx_a40, nx_a41, jI_17, nx_17, jI_48, nx_48, jI_80, nx_80, jI_720, nx_720, jI_4800, nx_4800, jI_18220, nx_18220, jI_18030, nx_18030, nx_m2, nx_m5, nx_m6, nx_m16, nx_m60, nx_m400, nx_m3644, nx_m3606, hl, l7, show nI 8 = 8 from rfl]
    exact h2 m h
  have hn4 : nm < 8 := by omega
  obtain ⟨s8, s9⟩ := hA.1.2.2.2.2.1 nm hn4
  have hXB := XB_0 (x := 0) s1 s2 s3 hx1 s4 z1 z2
  obtain ⟨f1, f2⟩ := rEd_fr (m := m) (z := z) (u := 0)
  obtain ⟨f3, f4⟩ := rGo_S (m := m) (z := z) (u := 0)
  have hr := fun Q => x_readInto (e := 48) (Q := Q) (L := 36) (c := 8) (k := nm) (b := 38 + 6 * nm) (ax := 0) (by simp only [jBool_0]) s1 s2 s3 hx1 s4 z1 z2 s5 s6 s7 l5 hn4 (by decide) s8 s9 (by omega) (Or.inl (by omega)) (by decide) (by rw [f2 36 (by decide)]; exact l5) f3 f4
  have hpos := fun p hp hf => rGo_pos (p := p) hp hXB hf
  have hMr := fun p hpe m1 Q => M_rd (d := 88) (x := 4 + nm) (u := 0) (z := z) (m := m) (p := p) (m1 := m1) (Q := Q) hpe
  obtain ⟨p, hpe⟩ : ∃ p, rGo m z 0 = p := ⟨_, rfl⟩
  rw [hpe] at f1 f2 hr
  have hpos := hpos p hpe
  have hMr := fun m1 Q => hMr p hpe m1 Q
  clear f3 f4 hpe
  have hl4 : (nI nm = 8) = False := eq_false (fun e => full ((nI_eqI (b := 8) (by omega) (by decide)).mp e))
  have e4m : (4 : Int32) + nI nm = nI (4 + nm) := by show nI 4 + nI nm = _; rw [nI_add]
  simp (config := {decide := true}) (disch := first | omega | assumption | (simp only [mS_cL, mS_cI, mS_cR, mR_cL, mR_cI]; first | assumption | exact hcr _ | fail)) only [tX11_minder_0, tX11_minder_1, tX11_minder_4, tX11_minder_5, tX11_minder_8, tX11_minder_9, tX11_minder_12, jK_some, jK_none, jc1_int, jc1_ref, jc1_none, jc1_long, jc1_null, jc1_rf, va_rf_some, va_rf_none, mI_cI, mL_cL, mR_cR, cI_cI, cL_cL, jup_eq, jne_1, jne_2, Nat.add_left_cancel_iff, mL_cI, mR_cI, mS_cI, mN_cI, mI_cL, mR_cL, mS_cL, mN_cL, mI_cR, mL_cR, mS_cR, mN_cR, true_and, and_true, true_or, or_true, if_true, if_false, jBool_0, jBool_1, Nat.le_refl, Nat.reduceLeDiff, Nat.reduceEqDiff, Nat.reduceAdd, Nat.reduceSub, reduceIte, Int32.reduceLT, Int32.reduceLE, ne_eq, not_false_eq_true, not_true_eq_false, false_or, or_false, and_false, false_and, reduceCtorEq, jn_4, jn_6, jn_8, jn_9, jn_12, jn_60, jn_100, jn_200, jn_400, jn_600, jn_601, jn_3600, jI_4, jI_6, jI_8, jI_9, jI_12, jI_60, jI_100, jI_200, jI_400, jI_600, jI_601, jI_3600, va_cpy_00, jx_0, jx_6, jx_12, jx_400, jx_600, nI_1, hx, hr]
  by_cases hf : p.2.2.2.1 = 0
  · rw [if_pos hf]
    show Q1 (some (.int (nI nm))) (xS p 36 (38 + 6 * nm) nm)
    apply h1; intro Q2 h2
    have m1e : (xS p 36 (38 + 6 * nm) nm).2 = m.2 := xS_2.trans f1
    have m1c : ∀ c, (c = 0 ∨ c = 3 ∨ 9 < c) → c ≠ 36 → (c < 38 + 6 * nm ∨ 38 + 6 * nm + 5 < c) → mI (xS p 36 (38 + 6 * nm) nm) c = mI m c := fun c a1 a2 a3 => (xS_ne a2 a3).trans (f2 c a1)
    have m12 : mI (xS p 36 (38 + 6 * nm) nm) 2 1 = 0 := by rw [xS_ne (by decide) (by omega)]; exact rEd_21
    have m1L := xS_L (p := p) (L := 36) (b := 38 + 6 * nm) (k := nm)
    obtain ⟨⟨q1, q2, q3, q4⟩, q5, q6⟩ := xS_law (p := p) (L := 36) (b := 38 + 6 * nm) (k := nm) (Or.inl (by omega)) (by omega)
    generalize xS p 36 (38 + 6 * nm) nm = m1 at *
    have e := m2_S m1e
    have hl1 : MLay (mS m1) (mR m1) 195 := by rw [e.1, e.2.1]; exact hl
    have l61 : mI m1 195 10 = nI nm := by rw [m1c 195 (by decide) (by decide) (by omega)]; exact l7
    rw [nX12_minder (d := 99)]
    simp (config := {decide := true}) (disch := first | omega | assumption | (simp only [mS_cL, mS_cI, mS_cR, mR_cL, mR_cI]; first | assumption | exact hcr _ | fail)) only [tX12_minder_0, tX12_minder_1, tX12_minder_4, tX12_minder_6, tX12_minder_9, tX12_minder_10, tX12_minder_11, tX12_minder_12, tX12_minder_13, tX12_minder_14, tX12_minder_17, tX12_minder_18, jK_some, jK_none, jc1_int, jc1_ref, jc1_none, jc1_long, jc1_null, jc1_rf, va_rf_some, va_rf_none, mI_cI, mL_cL, mR_cR, cI_cI, cL_cL, jup_eq, jne_1, jne_2, Nat.add_left_cancel_iff, mL_cI, mR_cI, mS_cI, mN_cI, mI_cL, mR_cL, mS_cL, mN_cL, mI_cR, mL_cR, mS_cR, mN_cR, true_and, and_true, true_or, or_true, if_true, if_false, jBool_0, jBool_1, Nat.le_refl, Nat.reduceLeDiff, Nat.reduceEqDiff, Nat.reduceAdd, Nat.reduceSub, reduceIte, Int32.reduceLT, Int32.reduceLE, ne_eq, not_false_eq_true, not_true_eq_false, false_or, or_false, and_false, false_and, reduceCtorEq, jn_4, jn_6, jn_8, jn_9, jn_12, jn_60, jn_100, jn_200, jn_400, jn_600, jn_601, jn_3600, jI_4, jI_6, jI_8, jI_9, jI_12, jI_60, jI_100, jI_200, jI_400, jI_600, jI_601, jI_3600, va_cpy_00, jx_0, jx_6, jx_12, jx_400, jx_600, nI_1, hl1, l61, hl4, e4m]
    refine hMr _ _ m1e (fun c hc => m1c c (by omega) (by omega) (by omega)) hl (by omega) ⟨fun _ => by omega, fun _ => rfl⟩ z1 z3 z4 hXB (fun _ m' K fr hK hM hXx => ?_) (fun hf2 => absurd hf hf2)
    have e' := m2_S (fr.1.trans m1e)
    have hl' : MLay (mS m') (mR m') 195 := by rw [e'.1, e'.2.1]; exact hl
    have l6' : mI m' 195 10 = nI nm := (fr.2.2.1 10 (by decide) (by decide) (by decide) (by decide)).trans l61
    have cX : ∀ j, 38 + 6 * nm ≤ j → j ≤ 38 + 6 * nm + 5 → mI m' j = mI m1 j := fun j a1 a2 => fr.2.1 j (by omega) (by omega)
    have hLX : LX m' (38 + 6 * nm) K := by
      refine hXx (38 + 6 * nm) (by rw [e'.1, e'.2.1]; exact s9) ?_ ?_ ?_ ?_ (fun i hi => ?_) (fun i hi => ?_)
      · rw [cX _ (by omega) (by omega)]; exact q1
      · rw [cX _ (by omega) (by omega)]; exact q2
      · rw [cX _ (by omega) (by omega)]; exact q3
      · rw [cX _ (by omega) (by omega)]; exact q4
      · rw [cX _ (by omega) (by omega), cX _ (by omega) (by omega), cX _ (by omega) (by omega), cX _ (by omega) (by omega)]; exact q5 i hi
      · rw [cX _ (by omega) (by omega)]; exact q6 i hi
    have hRL := RL_min m1e (fun c a1 a2 a3 => m1c c (by omega) a2 a3) m1L hn4 fr hK hM hLX hL
    have hF2 := Fr2_put (v := nI (nm + 1)) (q := 10) (Fr2_of m1e (fun c hc => m1c c (by omega) (by omega) (by omega)) fr) (Or.inr rfl)
    have hRT : RT (cI m' 195 (jup (mI m' 195) 10 (nI (nm + 1)))) := RT_0 (by rw [mI_ne (by decide), fr.2.1 2 (by decide) (by decide)]; exact m12) (by rw [mI_same, jup_ne (by decide)]; exact fr.2.2.2.1)
    have hRel := Rel_rd hF2 hRT hRL (Nat.le_refl nf) (Nat.le_succ nm) hA hU hP hI hW hS hR
    simp (config := {decide := true}) (disch := first | omega | assumption | (simp only [mS_cL, mS_cI, mS_cR, mR_cL, mR_cI]; first | assumption | exact hcr _ | fail)) only [tX12_minder_21, tX12_minder_22, tX12_minder_23, tX12_minder_26, tX12_minder_28, tX12_minder_29, tX12_minder_30, tX12_minder_31, tX12_minder_32, tX12_minder_33, tX12_minder_36, tX12_minder_37, tX12_minder_38, tX12_minder_41, tX12_minder_42, tX12_minder_45, tX12_minder_46, tX12_minder_47, jK_some, jK_none, jc1_int, jc1_ref, jc1_none, jc1_long, jc1_null, jc1_rf, va_rf_some, va_rf_none, mI_cI, mL_cL, mR_cR, cI_cI, cL_cL, jup_eq, jne_1, jne_2, Nat.add_left_cancel_iff, mL_cI, mR_cI, mS_cI, mN_cI, mI_cL, mR_cL, mS_cL, mN_cL, mI_cR, mL_cR, mS_cR, mN_cR, true_and, and_true, true_or, or_true, if_true, if_false, jBool_0, jBool_1, Nat.le_refl, Nat.reduceLeDiff, Nat.reduceEqDiff, Nat.reduceAdd, Nat.reduceSub, reduceIte, Int32.reduceLT, Int32.reduceLE, ne_eq, not_false_eq_true, not_true_eq_false, false_or, or_false, and_false, false_and, reduceCtorEq, jn_4, jn_6, jn_8, jn_9, jn_12, jn_60, jn_100, jn_200, jn_400, jn_600, jn_601, jn_3600, jI_4, jI_6, jI_8, jI_9, jI_12, jI_60, jI_100, jI_200, jI_400, jI_600, jI_601, jI_3600, va_cpy_00, jx_0, jx_6, jx_12, jx_400, jx_600, nI_1, hl', l6', nI_1, nI_pred]
    exact h2 _ hRel
  · rw [if_neg hf]
    have hpos := hpos hf
    show Q1 (some (.int (-2 - p.2.2.2.1))) (rEd p)
    apply h1; intro Q2 h2
    have m12 : mI (rEd p) 2 1 = 0 := rEd_21
    have e := m2_S f1
    have hl1 : MLay (mS (rEd p)) (mR (rEd p)) 195 := by rw [e.1, e.2.1]; exact hl
    have l61 : mI (rEd p) 195 10 = nI nm := by rw [f2 195 (by decide)]; exact l7
    rw [nX12_minder (d := 99)]
    simp (config := {decide := true}) (disch := first | omega | assumption | (simp only [mS_cL, mS_cI, mS_cR, mR_cL, mR_cI]; first | assumption | exact hcr _ | fail)) only [tX12_minder_0, tX12_minder_1, tX12_minder_4, tX12_minder_6, tX12_minder_9, tX12_minder_10, tX12_minder_11, tX12_minder_12, tX12_minder_13, tX12_minder_14, tX12_minder_17, tX12_minder_18, jK_some, jK_none, jc1_int, jc1_ref, jc1_none, jc1_long, jc1_null, jc1_rf, va_rf_some, va_rf_none, mI_cI, mL_cL, mR_cR, cI_cI, cL_cL, jup_eq, jne_1, jne_2, Nat.add_left_cancel_iff, mL_cI, mR_cI, mS_cI, mN_cI, mI_cL, mR_cL, mS_cL, mN_cL, mI_cR, mL_cR, mS_cR, mN_cR, true_and, and_true, true_or, or_true, if_true, if_false, jBool_0, jBool_1, Nat.le_refl, Nat.reduceLeDiff, Nat.reduceEqDiff, Nat.reduceAdd, Nat.reduceSub, reduceIte, Int32.reduceLT, Int32.reduceLE, ne_eq, not_false_eq_true, not_true_eq_false, false_or, or_false, and_false, false_and, reduceCtorEq, jn_4, jn_6, jn_8, jn_9, jn_12, jn_60, jn_100, jn_200, jn_400, jn_600, jn_601, jn_3600, jI_4, jI_6, jI_8, jI_9, jI_12, jI_60, jI_100, jI_200, jI_400, jI_600, jI_601, jI_3600, va_cpy_00, jx_0, jx_6, jx_12, jx_400, jx_600, nI_1, hl1, l61, hl4, e4m]
    refine hMr _ _ f1 (fun c hc => f2 c (by omega)) hl (by omega) ⟨fun _ => by omega, fun _ => rfl⟩ z1 z3 z4 hXB (fun hf2 => absurd hf2 hf) (fun _ m' fr => ?_)
    have hRL := RL_fail f1 (fun c hc => f2 c (by omega)) fr ⟨by have := hL.1.1; omega, Or.inr (Nat.le_refl _)⟩ hL
    have hF2 := Fr2_of f1 (fun c hc => f2 c (by omega)) fr
    have hRT : RT m' := RT_0 (by rw [fr.2.1 2 (by decide) (by decide)]; exact m12) fr.2.2.2.1
    have hRel := Rel_rd hF2 hRT hRL (Nat.le_refl nf) (Nat.le_refl nm) hA hU hP hI hW hS hR
    simp (config := {decide := true}) (disch := first | omega | assumption | (simp only [mS_cL, mS_cI, mS_cR, mR_cL, mR_cI]; first | assumption | exact hcr _ | fail)) only [tX12_minder_21, tX12_minder_22, tX12_minder_23, tX12_minder_26, tX12_minder_28, tX12_minder_29, tX12_minder_30, jK_some, jK_none, jc1_int, jc1_ref, jc1_none, jc1_long, jc1_null, jc1_rf, va_rf_some, va_rf_none, mI_cI, mL_cL, mR_cR, cI_cI, cL_cL, jup_eq, jne_1, jne_2, Nat.add_left_cancel_iff, mL_cI, mR_cI, mS_cI, mN_cI, mI_cL, mR_cL, mS_cL, mN_cL, mI_cR, mL_cR, mS_cR, mN_cR, true_and, and_true, true_or, or_true, if_true, if_false, jBool_0, jBool_1, Nat.le_refl, Nat.reduceLeDiff, Nat.reduceEqDiff, Nat.reduceAdd, Nat.reduceSub, reduceIte, Int32.reduceLT, Int32.reduceLE, ne_eq, not_false_eq_true, not_true_eq_false, false_or, or_false, and_false, false_and, reduceCtorEq, jn_4, jn_6, jn_8, jn_9, jn_12, jn_60, jn_100, jn_200, jn_400, jn_600, jn_601, jn_3600, jI_4, jI_6, jI_8, jI_9, jI_12, jI_60, jI_100, jI_200, jI_400, jI_600, jI_601, jI_3600, va_cpy_00, jx_0, jx_6, jx_12, jx_400, jx_600, nI_1, hpos]
    exact h2 _ hRel
end RDL
