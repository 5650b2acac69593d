/-! ===== the start ===== -/
section STA
variable {m m0 m1 m2 M m' K : jmM} {a d kd n b cap L : Nat} {Q : Option Value → jmM → Prop} {xs : Nat → Int32}
theorem i_M12 (hN : mN m = 195) : ∃ m' : jmM, (∀ Q, CC 1000 188 [.ref 195] (jNew m 12 49) Q ↔ Q none m') ∧ (mN m' = 224 ∧ mZ m' = mZ m + 52668) ∧ (∀ b, b < 195 → sm4 m m' b) ∧ MLay (mS m') (mR m') 195 ∧ (∀ j, mI m' 195 j = if j = 31 then 30 else 0) ∧ (∀ i, i < 6 → mI m' 208 i = 1000) ∧ zr m' 196 ∧ zr m' 207 ∧ zr m' 209 ∧ zr m' 210 ∧ zr m' 211 ∧ zr m' 212 ∧ zr m' 222 := by
  obtain ⟨K, h1, ⟨h2, h3⟩, h4, h5, h6, h7, ⟨z196, z197, z198, z199, z200, z201, z202, z203, z204, z207, z208, z209, z210, z211, z212, z213, z214, z215, z219, z222, z223⟩, h9⟩ := i_X12a hN
  obtain ⟨F, hF⟩ : ∃ F, F = jfor (fun i F => jup F i (1000 : Int32)) 0 6 (mI K 208) := ⟨_, rfl⟩
  have hML : MLay (mS K) (mR K) 195 := ⟨h5, h6, h7⟩
  refine ⟨cI K 208 F, fun Q => ?_, ⟨h2, h3⟩, fun b hb => sm4.trans (h4 b hb) ⟨rfl, rfl, mI_ne (by omega), rfl⟩, hML, fun j => by rw [mI_ne (by decide)]; exact h9 j, fun i hi => by rw [mI_same, hF]; exact run_fold 6 i hi, ?_, ?_, ?_, ?_, ?_, ?_, ?_⟩
  · rw [h1 Q]
    have e1 : AW 999 188 246 [some (.ref 195), none] [] K Q ↔ AW 999 188 248 [some (.ref 195), some (.int (nI 0))] [] (cI K 208 (mI K 208)) Q := by
      rw [cI_eta]
      simp (config := {decide := true}) (disch := first | omega | assumption | (simp only [mS_cL, mS_cI, mS_cR, mR_cL, mR_cI]; first | assumption | exact hcr _ | fail)) only [tX12_init_246, tX12_init_247, jK_some, jK_none, jc1_int, jc1_ref, jc1_none, jc1_long, jc1_null, jc1_rf, va_rf_some, va_rf_none, mI_cI, mL_cL, mR_cR, cI_cI, cL_cL, jup_eq, jne_1, jne_2, Nat.add_left_cancel_iff, mL_cI, mR_cI, mS_cI, mN_cI, mI_cL, mR_cL, mS_cL, mN_cL, mI_cR, mL_cR, mS_cR, mN_cR, true_and, and_true, true_or, or_true, if_true, if_false, jBool_0, jBool_1, Nat.le_refl, Nat.reduceLeDiff, Nat.reduceEqDiff, Nat.reduceAdd, Nat.reduceSub, reduceIte, Int32.reduceLT, Int32.reduceLE, ne_eq, not_false_eq_true, not_true_eq_false, false_or, or_false, and_false, false_and, reduceCtorEq, jn_4, jn_6, jn_8, jn_9, jn_12, jn_60, jn_100, jn_200, jn_400, jn_600, jn_601, jn_3600, jI_4, jI_6, jI_8, jI_9, jI_12, jI_60, jI_100, jI_200, jI_400, jI_600, jI_601, jI_3600, va_cpy_00, jx_0, jx_6, jx_12, jx_400, jx_600, nI_1]
      exact Iff.rfl
    rw [e1, hF]
    refine loop_iff (n := 6) (P := fun i F => AW 999 188 248 [some (.ref 195), some (.int (nI i))] [] (cI K 208 F) Q) (E := fun F => Q none (cI K 208 F)) (fun i F => jup F i (1000 : Int32)) ?_ ?_ 6 0 (mI K 208) (by omega)
    · intro i F hi
      rw [tX12_init_248]
      simp (config := {decide := true}) (disch := first | omega | assumption | (simp only [mS_cL, mS_cI, mS_cR, mR_cL, mR_cI]; first | assumption | exact hcr _ | fail)) only [tX12_init_249, tX12_init_251, tX12_init_254, tX12_init_255, tX12_init_258, tX12_init_259, tX12_init_262, tX12_init_263, tX12_init_266, jK_some, jK_none, jc1_int, jc1_ref, jc1_none, jc1_long, jc1_null, jc1_rf, va_rf_some, va_rf_none, mI_same, mL_same, mR_same, mI_ne, mL_ne, mR_ne, cI_cI, cL_cL, jup_eq, mL_cI, mR_cI, mS_cI, mN_cI, mI_cL, mR_cL, mS_cL, mN_cL, mI_cR, mL_cR, mS_cR, mN_cR, true_and, and_true, true_or, or_true, if_true, if_false, jBool_0, jBool_1, Nat.le_refl, Nat.reduceLeDiff, Nat.reduceEqDiff, Nat.reduceAdd, Nat.reduceSub, reduceIte, Int32.reduceLT, Int32.reduceLE, ne_eq, not_false_eq_true, not_true_eq_false, false_or, or_false, and_false, false_and, reduceCtorEq, jn_4, jn_6, jn_8, jn_9, jn_12, jn_60, jn_100, jn_200, jn_400, jn_600, jn_601, jn_3600, jI_4, jI_6, jI_8, jI_9, jI_12, jI_60, jI_100, jI_200, jI_400, jI_600, jI_601, jI_3600, va_cpy_00, jx_0, jx_6, jx_12, jx_400, jx_600, nI_1, nx_5e, nx_l6, nx_l12, nx_l100, nx_l200, nx_l400, nx_l600, nx_l601, nx_l3600, nx_pos, nx_posN, nx_neg1, nx_m1neg, nx_leF, nx_leT, nx_ltF, nx_ltT, nx_mul6, nI_add, nI_1, jx_nI, nx_4, nx_g4, nx_6, nx_g6, nx_8, nx_g8, nx_9, nx_g9, nx_12, nx_g12, nx_14, nx_g14, nx_60, nx_g60, nx_100, nx_g100, nx_200, nx_g200, nx_400, nx_g400, nx_600, nx_g600, nx_601, nx_g601, nx_3600, nx_g3600, jx_1, jx_2, jx_3, jx_4, jx_5, jx_7, jx_8, jx_9, jx_10, jx_11, jx_13, jx_14, jx_15, jx_16, jx_17, jx_18, jx_19, jx_20, jx_21, jx_22, jx_23, jx_24, jx_25, jx_26, jx_27, jx_28, jx_29, jx_30, jx_31, jx_32, jx_33, jx_34, jx_35, jx_36, jx_37, jx_38, jx_39, jx_40, jx_41, jx_42, nx_a2, nx_a3, nx_a4, nx_a5, nx_a6, nx_a7, nx_a8, nx_a9, nx_a10, nx_a11, nx_a12, nx_a13, nx_a14, nx_a15, nx_a16, nx_a17, nx_a18, nx_a19, nx_a20, nx_a21, nx_a22, nx_a23, nx_a24, nx_a25, nx_a26, nx_a27, nx_a28, nx_a29, nx_a30, nx_a31, nx_a32, nx_a33, nx_a34, nx_a35, nx_a36, nx_a37, nx_a38, nx_a39, nx_a40, nx_a41, jI_17, nx_17, jI_48, nx_48, jI_80, nx_80, jI_720, nx_720, jI_4800, nx_4800, jI_18220, nx_18220, jI_18030, nx_18030, nx_m2, nx_m5, nx_m6, nx_m16, nx_m60, nx_m400, nx_m3644, nx_m3606, hML]
      done
    · intro F
      rw [tX12_init_248]
      simp (config := {decide := true}) (disch := first | omega | assumption | (simp only [mS_cL, mS_cI, mS_cR, mR_cL, mR_cI]; first | assumption | exact hcr _ | fail)) only [tX12_init_249, tX12_init_251, tX12_init_254, tX12_init_255, tX12_init_258, tX12_init_259, tX12_init_262, tX12_init_263, tX12_init_266, tX12_init_269, jK_some, jK_none, jc1_int, jc1_ref, jc1_none, jc1_long, jc1_null, jc1_rf, va_rf_some, va_rf_none, mI_same, mL_same, mR_same, mI_ne, mL_ne, mR_ne, cI_cI, cL_cL, jup_eq, mL_cI, mR_cI, mS_cI, mN_cI, mI_cL, mR_cL, mS_cL, mN_cL, mI_cR, mL_cR, mS_cR, mN_cR, true_and, and_true, true_or, or_true, if_true, if_false, jBool_0, jBool_1, Nat.le_refl, Nat.reduceLeDiff, Nat.reduceEqDiff, Nat.reduceAdd, Nat.reduceSub, reduceIte, Int32.reduceLT, Int32.reduceLE, ne_eq, not_false_eq_true, not_true_eq_false, false_or, or_false, and_false, false_and, reduceCtorEq, jn_4, jn_6, jn_8, jn_9, jn_12, jn_60, jn_100, jn_200, jn_400, jn_600, jn_601, jn_3600, jI_4, jI_6, jI_8, jI_9, jI_12, jI_60, jI_100, jI_200, jI_400, jI_600, jI_601, jI_3600, va_cpy_00, jx_0, jx_6, jx_12, jx_400, jx_600, nI_1, nx_5e, nx_l6, nx_l12, nx_l100, nx_l200, nx_l400, nx_l600, nx_l601, nx_l3600, nx_pos, nx_posN, nx_neg1, nx_m1neg, nx_leF, nx_leT, nx_ltF, nx_ltT, nx_mul6, nI_add, nI_1, jx_nI, nx_4, nx_g4, nx_6, nx_g6, nx_8, nx_g8, nx_9, nx_g9, nx_12, nx_g12, nx_14, nx_g14, nx_60, nx_g60, nx_100, nx_g100, nx_200, nx_g200, nx_400, nx_g400, nx_600, nx_g600, nx_601, nx_g601, nx_3600, nx_g3600]
      done
  all_goals first | exact zr_p ⟨rfl, rfl, mI_ne (by decide), rfl⟩ z196 | exact zr_p ⟨rfl, rfl, mI_ne (by decide), rfl⟩ z207 | exact zr_p ⟨rfl, rfl, mI_ne (by decide), rfl⟩ z209 | exact zr_p ⟨rfl, rfl, mI_ne (by decide), rfl⟩ z210 | exact zr_p ⟨rfl, rfl, mI_ne (by decide), rfl⟩ z211 | exact zr_p ⟨rfl, rfl, mI_ne (by decide), rfl⟩ z212 | exact zr_p ⟨rfl, rfl, mI_ne (by decide), rfl⟩ z222
theorem start_rel : ∃ m1 mF : jmM, CE 1000 140 [.ref 0] (jNew (jm0 L xs) 11 19) none m1 ∧ mN m1 = 195 ∧ CE 1000 188 [.ref 195] (jNew m1 12 49) none mF ∧ Rel mF ∧ Scr mF L xs := by
  obtain ⟨K, a1, ⟨a2, a3⟩, a4, ⟨i7, i12, i18⟩, a6, ⟨a7, a7z⟩, a8, ⟨⟨a9, a10, a11⟩, a12, a13⟩, ⟨⟨a14, a15, a16⟩, a17, a18⟩, ⟨a19, a20⟩, ⟨a21, a22⟩, ⟨a23, a24⟩, ⟨a25, y91, y92, y93, y94, y101⟩, a26, ⟨a27, a28⟩, ⟨a29, a30⟩, ⟨a31, a32⟩, a33, a34, a35⟩ := i_X11a (m := jm0 L xs) rfl
  obtain ⟨r0, r1, r2, r3, r4, r5, r6, r7, r8, r9, r10, r11, r12, r13, r14, r15, r16⟩ := id a4
  obtain ⟨m1, b1, ⟨b2, b3⟩, b4, ⟨b5, b6⟩, b7, b8, b9, b10⟩ := i_X11b a2 r0 r7 r10 r11 a23 a27 a28
  obtain ⟨mF, c1, ⟨c2, c3⟩, c4, c5, c6, c7, z196, z207, z209, z210, z211, z212, z222⟩ := i_M12 b2
  have hX : CE 1000 140 [.ref 0] (jNew (jm0 L xs) 11 19) none m1 := CE.of fun Q => (a1 Q).trans (b1 Q)
  have hM : CE 1000 188 [.ref 195] (jNew m1 12 49) none mF := CE.of c1
  refine ⟨m1, mF, hX, b2, hM, ?_, ?_⟩
  · have g : ∀ b, b < 131 → b ≠ 90 → b ≠ 113 → b ≠ 114 → sm4 K mF b := fun b h1 h2 h3 h4 => (b4 b h1 h2 h3 h4).trans (c4 b (by omega))
    have z0 : mZ (jm0 L xs) = 0 := rfl
    have w195 : ∀ j, j ≠ 31 → mI mF 195 j = 0 := fun j hj => by rw [c6 j, if_neg hj]
    have w31 : mI mF 195 31 = 30 := by rw [c6 31]; rfl
    have g0 := g 0 (by omega) (by omega) (by omega) (by omega)
    have g1 := g 1 (by omega) (by omega) (by omega) (by omega)
    have g10 := g 10 (by omega) (by omega) (by omega) (by omega)
    have g11 := g 11 (by omega) (by omega) (by omega) (by omega)
    have g36 := g 36 (by omega) (by omega) (by omega) (by omega)
    have g37 := g 37 (by omega) (by omega) (by omega) (by omega)
    have g115 := g 115 (by omega) (by omega) (by omega) (by omega)
    have v113 := c4 113 (by omega)
    have v114 := c4 114 (by omega)
    have v90 := c4 90 (by omega)
    have zF : ∀ b, b < 131 → b ≠ 90 → b ≠ 113 → b ≠ 114 → zr K b → zr mF b := fun b h1 h2 h3 h4 hz => zr_p (g b h1 h2 h3 h4) hz
    have k2 := zF 2 (by omega) (by omega) (by omega) (by omega) a7z
    have k10 := zF 10 (by omega) (by omega) (by omega) (by omega) a12
    have k36 := zF 36 (by omega) (by omega) (by omega) (by omega) a17
    have k86 := zF 86 (by omega) (by omega) (by omega) (by omega) a20
    have k89 := zF 89 (by omega) (by omega) (by omega) (by omega) a22
    have k91 := zF 91 (by omega) (by omega) (by omega) (by omega) y91
    have k92 := zF 92 (by omega) (by omega) (by omega) (by omega) y92
    have k93 := zF 93 (by omega) (by omega) (by omega) (by omega) y93
    have k94 := zF 94 (by omega) (by omega) (by omega) (by omega) y94
    have k101 := zF 101 (by omega) (by omega) (by omega) (by omega) y101
    have k119 := zF 119 (by omega) (by omega) (by omega) (by omega) a30
    have k121 := zF 121 (by omega) (by omega) (by omega) (by omega) a32
    have im : ∀ k, k < 4 → mR mF 113 k = some (131 + 14 * k) ∧ ImL mF (131 + 14 * k) := fun k hk => by
      obtain ⟨u1, u2⟩ := b9 k hk
      exact ⟨by rw [v113.2.1]; exact u1, ImL_p (fun c h1 h2 => c4 c (by omega)) u2⟩
    have n0 : nI 0 = 0 := rfl
    refine ⟨0, 0, fun _ => ((0, fun _ => 0, fun _ => [], fun _ => []), 0, 0, 0), ⟨⟨?_, ?_, ?_, ?_, ?_, ?_, ?_, ?_, ?_, ?_, ?_⟩, c5, ?_, ?_, (k119 0).1, ⟨0, (k86 2).1⟩, ⟨0, w195 21 (by decide)⟩⟩, ⟨0, Nat.zero_le _, (k2 1).1, w195 1 (by decide), fun i hi => absurd hi (Nat.not_lt_zero _)⟩, ⟨fun k hk => ?_, ?_, ?_⟩, ⟨⟨by omega, by omega, fun t ht => absurd ht (Nat.not_lt_zero _), fun t ht => absurd ht (Nat.not_lt_zero _)⟩, ⟨fun t ht => absurd ht (Nat.not_lt_zero _), fun t ht => absurd ht (Nat.not_lt_zero _)⟩, ⟨fun t ht => absurd ht (Nat.not_lt_zero _), fun t ht => absurd ht (Nat.not_lt_zero _)⟩, (k10 1).1, (k36 1).1, w195 9 (by decide), w195 10 (by decide)⟩, ⟨0, (mI mF 209, mI mF 213, mL mF 214, mL mF 210, mI mF 211, mI mF 212), ⟨rfl, rfl, rfl, rfl, rfl, rfl⟩, ⟨?_, ⟨⟨?_, ?_, ?_, ?_, ?_, ?_, ?_, ?_⟩, ?_, ⟨?_, ?_, ?_, ?_, ?_, ?_⟩, ?_⟩, fun k hk => ⟨?_, ?_, ?_⟩, fun r hr => ?_⟩, ⟨(z209 15).1, Nat.zero_le _, Or.inl ⟨(z209 0).1, rfl, fun i _ => (z209 i).1, fun k _ => (z210 k).2⟩⟩⟩, fun k hk => ⟨Or.inl (z222 k).1, ?_, fun e => ?_⟩, ⟨0, Nat.zero_le _, ?_, w195 32 (by decide), fun k hk => absurd hk (Nat.not_lt_zero _)⟩, ⟨0, Nat.zero_le _, (k121 4).1, w195 47 (by decide), fun i hi => absurd hi (Nat.not_lt_zero _)⟩, ⟨0, Nat.zero_le _, ?_, w195 37 (by decide), fun i hi => absurd hi (Nat.not_lt_zero _)⟩⟩
    · refine ⟨?_, ?_, ?_, ?_, ?_, ?_, ?_, ?_, ?_, ?_, ?_, ?_, ?_, ?_, ?_, ?_, ?_, ?_, ?_, ?_, ?_, ?_, ?_, ?_, ?_, ?_, ?_, ?_, ?_, ?_, ?_, ?_, ?_, ?_, ?_, ?_, ?_, ?_, ?_, ?_, ?_, ?_, ?_, ?_⟩
      · exact g0.1.trans r0
      · rw [g0.2.1]; exact r1
      · rw [g0.2.1]; exact r2
      · rw [g0.2.1]; exact r3
      · rw [g0.2.1]; exact r4
      · rw [g0.2.1]; exact r5
      · rw [g0.2.1]; exact r6
      · rw [g0.2.1]; exact r7
      · rw [g0.2.1]; exact r8
      · rw [g0.2.1]; exact r9
      · rw [g0.2.1]; exact r10
      · rw [g0.2.1]; exact r11
      · rw [g0.2.1]; exact r12
      · rw [g0.2.1]; exact r13
      · rw [g0.2.1]; exact r14
      · rw [g0.2.1]; exact r15
      · rw [g0.2.1]; exact r16
      · exact (g 89 (by omega) (by omega) (by omega) (by omega)).1.trans a21
      · exact v90.1.trans b5
      · exact (g 128 (by omega) (by omega) (by omega) (by omega)).1.trans a33
      · exact (g 129 (by omega) (by omega) (by omega) (by omega)).1.trans a34
      · exact (g 130 (by omega) (by omega) (by omega) (by omega)).1.trans a35
      · exact g1.1.trans a6.1
      · rw [g1.2.1]; exact a6.2.1
      · rw [g1.2.1]; exact a6.2.2
      · exact g10.1.trans a9
      · rw [g10.2.1]; exact a10
      · exact g11.1.trans a11
      · exact g36.1.trans a14
      · rw [g36.2.1]; exact a15
      · exact g37.1.trans a16
      · exact v113.1.trans b7
      · exact v114.1.trans b8
      · exact g115.1.trans a29.1
      · rw [g115.2.1]; exact a29.2.1
      · rw [g115.2.1]; exact a29.2.2.1
      · rw [g115.2.1]; exact a29.2.2.2.1
      · rw [g115.2.1]; exact a29.2.2.2.2.1
      · rw [g115.2.1]; exact a29.2.2.2.2.2.1
      · exact (g 116 (by omega) (by omega) (by omega) (by omega)).1.trans a29.2.2.2.2.2.2.1
      · exact (g 117 (by omega) (by omega) (by omega) (by omega)).1.trans a29.2.2.2.2.2.2.2.1
      · exact (g 118 (by omega) (by omega) (by omega) (by omega)).1.trans a29.2.2.2.2.2.2.2.2.1
      · exact (g 119 (by omega) (by omega) (by omega) (by omega)).1.trans a29.2.2.2.2.2.2.2.2.2.1
      · exact (g 120 (by omega) (by omega) (by omega) (by omega)).1.trans a29.2.2.2.2.2.2.2.2.2.2
    · exact TapeL_p (fun c h1 h2 => g c (by omega) (by omega) (by omega) (by omega)) a7
    · exact LawL_p (fun c h1 h2 => g c (by omega) (by omega) (by omega) (by omega)) a8
    · intro k hk
      exact ⟨by rw [g11.2.1]; exact (a13 k hk).1, LawL_p (fun c h1 h2 => g c (by omega) (by omega) (by omega) (by omega)) (a13 k hk).2⟩
    · intro k hk
      exact ⟨by rw [g37.2.1]; exact (a18 k hk).1, LawL_p (fun c h1 h2 => g c (by omega) (by omega) (by omega) (by omega)) (a18 k hk).2⟩
    · exact DeskL_p (fun c h1 h2 => g c (by omega) (by omega) (by omega) (by omega)) a19
    · exact PotL_p (fun c h1 h2 => g c (by omega) (by omega) (by omega) (by omega)) a25
    · exact PotL_p (fun c h1 h2 => g c (by omega) (by omega) (by omega) (by omega)) a26
    · intro k hk
      obtain ⟨u1, ⟨q1, q2, q3, q4, q5, q6, q7⟩, -⟩ := im k hk
      rw [show 131 + 14 * k + 1 = 132 + 14 * k by omega] at q2 q5
      rw [show 131 + 14 * k + 12 = 143 + 14 * k by omega] at q3 q6
      rw [show 131 + 14 * k + 13 = 144 + 14 * k by omega] at q4 q7
      exact ⟨u1, q1, q2, q3, q4, q5, q6, q7⟩
    · intro k hk
      exact ⟨by rw [v114.2.1]; exact (b10 k hk).1, by rw [(c4 (187 + k) (by omega)).1]; exact (b10 k hk).2⟩
    · exact SliL_p (fun c h1 h2 => g c (by omega) (by omega) (by omega) (by omega)) a31
    · rw [c2]; decide
    · rw [c3, b3, a3, z0]; decide
    · have e1 : mI mF 90 k = 1000 := by rw [v90.2.2.1]; exact b6 k hk
      rw [(k89 k).1, (z207 k).1, e1, c7 k hk]
      decide
    · rw [w31, g0.2.2.1]; exact i7
    · rw [w31]; decide
    · exact PotL_p (fun c h1 h2 => g c (by omega) (by omega) (by omega) (by omega)) a25
    · exact (k91 3).1.trans (z209 0).1.symm
    · exact (k91 5).1.trans (z209 9).1.symm
    · exact (k91 6).1.trans (z209 10).1.symm
    · exact (k91 7).1.trans (z209 11).1.symm
    · exact (k91 8).1.trans (z209 12).1.symm
    · exact (k91 9).1.trans (z209 13).1.symm
    · exact (k91 10).1.trans (z209 14).1.symm
    · exact (k91 11).1.trans (z209 15).1.symm
    · show mL mF 91 4 = (mI mF 209 16).toInt64
      rw [(k91 4).2, (z209 16).1]; rfl
    · exact (k92 0).1.trans (z209 3).1.symm
    · exact (k92 1).1.trans (z209 4).1.symm
    · exact (k92 2).1.trans (z209 5).1.symm
    · exact (k92 3).1.trans (z209 6).1.symm
    · exact (k92 4).1.trans (z209 7).1.symm
    · exact (k92 5).1.trans (z209 8).1.symm
    · intro h; exact absurd (z209 0).1 h
    · exact (k93 k).1.trans (z211 k).1.symm
    · exact (k94 k).1.trans (z212 k).1.symm
    · exact (k101 k).2.trans (z210 k).2.symm
    · exfalso
      have hr : r < jx (mI mF 209 15) := hr
      rw [(z209 15).1] at hr
      exact absurd (show r < 0 from hr) (Nat.not_lt_zero _)
    · rw [(z222 k).1]; exact ((im k hk).2.2 4).1
    · rw [(z222 k).1] at e; exact absurd e (by decide)
    · rw [g0.2.2.1]; exact i12
    · rw [g0.2.2.1]; exact i18
  · have t : sT (jm0 L xs) mF := sT.trans sT_new (sT.trans (CE_sT hX) (sT.trans sT_new (CE_sT hM)))
    have h0 : mS (jm0 L xs) jScr = (99, L) := by
      show (if jScr = jScr then (99, L) else (99, 0)) = _
      rw [if_pos rfl]
    have h1 : mI (jm0 L xs) jScr = xs := by
      show (if jScr = jScr then xs else fun _ => 0) = _
      rw [if_pos rfl]
    obtain ⟨u1, u2⟩ := t.2.1 (by rw [c2]; decide) (by rw [h0])
    exact ⟨u1.trans h0, u2.trans h1, by rw [c2]; decide⟩
theorem pure_law0 (hL : L ≤ 5120) : ∃ m1 : jmM, mN m1 ≤ 600000 ∧ mZ m1 ≤ 7302250 ∧ AW 1000 289 0 (jent [.ref jScr] 4) [] (jm0 L xs) (fun v m2 => v = some (.int 1) ∧ m2 = m1) := by
  obtain ⟨m1, mF, h1, h2, h3, h4, h5⟩ := start_rel (L := L) (xs := xs)
  obtain ⟨mE, e1, e2⟩ := law_loop hL L 0 mF (by omega) (by omega) h4 h5
  have hn := Rel_n e1
  refine ⟨mE, hn.1, hn.2.1, ?_⟩
  have n0 : mN (jm0 L xs) = 0 := rfl
  show AW 1000 289 0 [some (.ref jScr), none, none, none] [] (jm0 L xs) _
  simp (config := {decide := true}) (disch := first | omega | assumption | (simp only [mS_cL, mS_cI, mS_cR, mR_cL, mR_cI]; first | assumption | exact hcr _ | fail)) only [tL_law_0, tL_law_3, tL_law_4, tL_law_7, tL_law_8, tL_law_11, tL_law_12, tL_law_15, tL_law_16, tL_law_17, jK_some, jK_none, jc1_int, jc1_ref, jc1_none, jc1_long, jc1_null, jc1_rf, va_rf_some, va_rf_none, mI_cI, mL_cL, mR_cR, cI_cI, cL_cL, jup_eq, jne_1, jne_2, Nat.add_left_cancel_iff, mL_cI, mR_cI, mS_cI, mN_cI, mI_cL, mR_cL, mS_cL, mN_cL, mI_cR, mL_cR, mS_cR, mN_cR, true_and, and_true, true_or, or_true, if_true, if_false, jBool_0, jBool_1, Nat.le_refl, Nat.reduceLeDiff, Nat.reduceEqDiff, Nat.reduceAdd, Nat.reduceSub, reduceIte, Int32.reduceLT, Int32.reduceLE, ne_eq, not_false_eq_true, not_true_eq_false, false_or, or_false, and_false, false_and, reduceCtorEq, jn_4, jn_6, jn_8, jn_9, jn_12, jn_60, jn_100, jn_200, jn_400, jn_600, jn_601, jn_3600, jI_4, jI_6, jI_8, jI_9, jI_12, jI_60, jI_100, jI_200, jI_400, jI_600, jI_601, jI_3600, va_cpy_00, jx_0, jx_6, jx_12, jx_400, jx_600, nI_1, n0, h1.iff, h2, h3.iff]
  exact (e2 _).mpr ⟨rfl, rfl⟩
end STA
