/-! ===== X melts back ===== -/
section XMELT
variable {d a nf nm : Nat} {x y z u v w : Int32} {m m' : jmM} {n i : Nat} {P : Pt} {Q : Option Value → jmM → Prop}
def bkRl (F0 S0 : Nat → Int32) (sX sM : (Nat → Int32) × (Nat → Int64)) : Prop := sX.1 5 = sM.1 9 ∧ sX.1 9 = sM.1 13 ∧ (∀ j, j ≠ 5 → j ≠ 9 → sX.1 j = F0 j) ∧ (∀ j, j ≠ 9 → j ≠ 13 → sM.1 j = S0 j) ∧ ∀ k, k < 6 → sX.2 k = sM.2 k
theorem bk_rl {F0 S0 : Nat → Int32} {g p : Nat → Int32} {W : Nat → Int64} (hr : ∀ r, r < n → g r = qR P (6 * r + 3) ∧ p r = qR P (6 * r + 2) ∧ ∀ k, k < 6 → W (6 * r + k) = qB P (6 * r + k)) : ∀ q r sX sM, r + q = n → bkRl F0 S0 sX sM → bkRl F0 S0 (jfor (stBack g p W) r q sX) (jfor (stMb (qR P) (qB P)) r q sM)
  | 0, r, sX, sM, _, h => h
  | q + 1, r, sX, sM, hq, ⟨h1, h2, h3, h4, h5⟩ => by
    show bkRl F0 S0 (jfor (stBack g p W) (r + 1) q (stBack g p W r sX)) (jfor (stMb (qR P) (qB P)) (r + 1) q (stMb (qR P) (qB P) r sM))
    obtain ⟨e1, e2, e3⟩ := hr r (by omega)
    refine bk_rl hr q (r + 1) _ _ (by omega) ⟨?_, ?_, ?_, ?_, ?_⟩
    · show jup (jup sX.1 5 (sX.1 5 + g r)) 9 (sX.1 9 - p r) 5 = jup (jup sM.1 9 (sM.1 9 + qR P (6 * r + 3))) 13 (sM.1 13 - qR P (6 * r + 2)) 9
      rw [jup_ne (by decide), jup_same, jup_ne (by decide), jup_same, h1, e1]
    · show jup (jup sX.1 5 (sX.1 5 + g r)) 9 (sX.1 9 - p r) 9 = jup (jup sM.1 9 (sM.1 9 + qR P (6 * r + 3))) 13 (sM.1 13 - qR P (6 * r + 2)) 13
      rw [jup_same, jup_same, h2, e2]
    · intro j h5' h9'
      show jup (jup sX.1 5 (sX.1 5 + g r)) 9 (sX.1 9 - p r) j = _
      rw [jup_ne h9', jup_ne h5', h3 j h5' h9']
    · intro j h5' h9'
      show jup (jup sM.1 9 (sM.1 9 + qR P (6 * r + 3))) 13 (sM.1 13 - qR P (6 * r + 2)) j = _
      rw [jup_ne h9', jup_ne h5', h4 j h5' h9']
    · intro k hk
      show (jfor (fun k M => jup M k (M k + W (6 * r + k))) 0 6 sX.2) k = (jfor (fun k M => jup M k (M k + qB P (6 * r + k))) 0 6 sM.2) k
      rw [jadd6, jadd6, if_pos (by omega), if_pos (by omega), h5 k hk, e3 k hk]
theorem X_meltBack (hX : XPot m a P) (hG : GP nf nm n P) (hi : i < n) : ∃ m', CE (d + 4) 60 [.ref a, .int (nI i)] m (some (.int (nI n - nI i))) m' ∧ XPot m' a (kBk P n i) ∧ mS m' = mS m ∧ mR m' = mR m ∧ mN m' = mN m ∧ mZ m' = mZ m ∧ (∀ b, b ≠ a → mI m' b = mI m b) ∧ ∀ b, b ≠ a + 10 → mL m' b = mL m b := by
  have h6 := hG.2.1
  have hn := x_n hX hG
  have hc := fun Q => c_Pot_meltBack (d := d) (Q := Q) hX.1 hn h6 hi
  refine ⟨_, CE.of hc, ?_, rfl, rfl, rfl, rfl, ?_, ?_⟩
  · obtain ⟨p, ⟨⟨s3, s5, s6, s7, s8, s9, s10, s11⟩, s4, ⟨t0, t1, t2, t3, t4, t5⟩, sr⟩, r1, r2⟩ := id hX
    obtain ⟨b1, b2, b3, b4, b5⟩ := bk_rl (n := n) (P := P) (F0 := mI m a) (S0 := qS P) (g := mI m (a + 7)) (p := mI m (a + 6)) (W := mL m (a + 9)) (fun r hr => by
      obtain ⟨⟨-, -, q3, q4, -⟩, q6⟩ := hX.row hG hr
      exact ⟨q4, q3, q6⟩) (n - i) i (mI m a, mL m (a + 10)) (qS P, qM P) (by omega) ⟨s5, s9, fun _ _ _ => rfl, fun _ _ _ => rfl, fun k hk => (r1 k hk).2.2⟩
    unfold jBackEnd kBk
    generalize jfor (stBack (mI m (a + 7)) (mI m (a + 6)) (mL m (a + 9))) i (n - i) (mI m a, mL m (a + 10)) = sX at *
    generalize jfor (stMb (qR P) (qB P)) i (n - i) (qS P, qM P) = sM at *
    obtain ⟨v15, v10, v11, v12, v0, vj⟩ := kBkE_v (i := i) (R := qR P) (S := sM.1)
    have w : ∀ j, j ≠ 15 → j ≠ 10 → j ≠ 11 → j ≠ 12 → j ≠ 0 → j ≠ 9 → j ≠ 13 → kBkE (qR P) sM.1 i j = qS P j := fun j h1 h2 h3 h4 h5 h6 h7 => by rw [vj j h1 h2 h3 h4 h5, b4 j h6 h7]
    have ew : (if i = 0 then mI m (a + 1) 3 else mI m (a + 4) (i - 1)) = (if i = 0 then sM.1 6 else qR P (6 * (i - 1))) := by
      by_cases e : i = 0
      · rw [if_pos e, if_pos e, t3, b4 6 (by decide) (by decide)]
      · rw [if_neg e, if_neg e, (hX.row hG (show i - 1 < n by omega)).1.1]
    have eh : (if i = 0 then mI m (a + 1) 2 else mI m (a + 5) (i - 1)) = (if i = 0 then sM.1 5 else qR P (6 * (i - 1) + 1)) := by
      by_cases e : i = 0
      · rw [if_pos e, if_pos e, t2, b4 5 (by decide) (by decide)]
      · rw [if_neg e, if_neg e, (hX.row hG (show i - 1 < n by omega)).1.2.1]
    have ep : (if i = 0 then 0 else mI m (a + 6) (i - 1)) = (if i = 0 then 0 else qR P (6 * (i - 1) + 2)) := by
      by_cases e : i = 0
      · rw [if_pos e, if_pos e]
      · rw [if_neg e, if_neg e, (hX.row hG (show i - 1 < n by omega)).1.2.2.1]
    have es : (if mI m (a + 1) 4 ≤ sX.1 10 then (5 : Int32) else 1) = (if sM.1 7 ≤ sM.1 14 then 5 else 1) := by
      rw [t4, b3 10 (by decide) (by decide), s10, b4 7 (by decide) (by decide), b4 14 (by decide) (by decide)]
    rw [ew, eh, ep, es]
    refine ⟨p, ⟨⟨?_, ?_, ?_, ?_, ?_, ?_, ?_, ?_⟩, ?_, ⟨?_, ?_, ?_, ?_, ?_, ?_⟩, ?_⟩, ?_, ?_⟩
    · rw [mI_cL, mI_same]; show _ = kBkE (qR P) sM.1 i 0; rw [v0]; simp [jup_eq]
    · rw [mI_cL, mI_same]; show _ = kBkE (qR P) sM.1 i 9; rw [vj 9 (by decide) (by decide) (by decide) (by decide) (by decide), ← b1]; simp [jup_eq]
    · rw [mI_cL, mI_same]; show _ = kBkE (qR P) sM.1 i 10; rw [v10]; simp [jup_eq]
    · rw [mI_cL, mI_same]; show _ = kBkE (qR P) sM.1 i 11; rw [v11]; simp [jup_eq]
    · rw [mI_cL, mI_same]; show _ = kBkE (qR P) sM.1 i 12; rw [v12]; simp [jup_eq]
    · rw [mI_cL, mI_same]; show _ = kBkE (qR P) sM.1 i 13; rw [vj 13 (by decide) (by decide) (by decide) (by decide) (by decide), ← b2]; simp [jup_eq]
    · rw [mI_cL, mI_same]; show _ = kBkE (qR P) sM.1 i 14; rw [w 14 (by decide) (by decide) (by decide) (by decide) (by decide) (by decide) (by decide), ← s10, ← b3 10 (by decide) (by decide)]; simp [jup_eq]
    · rw [mI_cL, mI_same]; show _ = kBkE (qR P) sM.1 i 15; rw [v15]; simp [jup_eq]
    · rw [mL_ne (by omega), mL_cI, s4]; show _ = (kBkE (qR P) sM.1 i 16).toInt64; rw [w 16 (by decide) (by decide) (by decide) (by decide) (by decide) (by decide) (by decide)]
    · rw [mI_cL, mI_ne (by omega)]; show _ = kBkE (qR P) sM.1 i 3; rw [w 3 (by decide) (by decide) (by decide) (by decide) (by decide) (by decide) (by decide)]; exact t0
    · rw [mI_cL, mI_ne (by omega)]; show _ = kBkE (qR P) sM.1 i 4; rw [w 4 (by decide) (by decide) (by decide) (by decide) (by decide) (by decide) (by decide)]; exact t1
    · rw [mI_cL, mI_ne (by omega)]; show _ = kBkE (qR P) sM.1 i 5; rw [w 5 (by decide) (by decide) (by decide) (by decide) (by decide) (by decide) (by decide)]; exact t2
    · rw [mI_cL, mI_ne (by omega)]; show _ = kBkE (qR P) sM.1 i 6; rw [w 6 (by decide) (by decide) (by decide) (by decide) (by decide) (by decide) (by decide)]; exact t3
    · rw [mI_cL, mI_ne (by omega)]; show _ = kBkE (qR P) sM.1 i 7; rw [w 7 (by decide) (by decide) (by decide) (by decide) (by decide) (by decide) (by decide)]; exact t4
    · rw [mI_cL, mI_ne (by omega)]; show _ = kBkE (qR P) sM.1 i 8; rw [w 8 (by decide) (by decide) (by decide) (by decide) (by decide) (by decide) (by decide)]; exact t5
    · intro _
      have h0 : qS P 0 ≠ 0 := by
        obtain ⟨-, -, g | ⟨g, -⟩⟩ := hG
        · omega
        · exact g
      show mR m a 1 = some (fad (kBkE (qR P) sM.1 i 1)) ∧ mR m a 2 = some (mad (kBkE (qR P) sM.1 i 2))
      rw [w 1 (by decide) (by decide) (by decide) (by decide) (by decide) (by decide) (by decide), w 2 (by decide) (by decide) (by decide) (by decide) (by decide) (by decide) (by decide)]
      exact sr h0
    · intro k hk
      obtain ⟨q1, q2, -⟩ := r1 k hk
      rw [mI_cL, mI_ne (by omega), mI_ne (by omega), mL_same]
      exact ⟨q1, q2, b5 k hk⟩
    · intro r hr
      have hr : r < jx (kBkE (qR P) sM.1 i 15) := hr
      rw [v15, jx_nI (by omega)] at hr
      rw [mI_cL, mI_ne (by omega), mI_ne (by omega), mI_ne (by omega), mI_ne (by omega), mI_ne (by omega), mL_ne (by omega), mL_cI]
      exact hX.row hG (show r < n by omega)
  · intro b hb
    unfold jBackEnd
    rw [mI_cL, mI_ne hb]
  · intro b hb
    unfold jBackEnd
    rw [mL_ne hb, mL_cI]
end XMELT
section PUB9
variable {m : jmM} {x y z u v w : Int32}
theorem pub_melt (h : Rel m) : PUB 154 244 [.ref 0, .int x] [.ref 195, .int x] m := by
  obtain ⟨nf, nm, G, hA, hT, hU, hL, hP, hI, hW, hS, hR⟩ := id h; obtain ⟨n, P, hM, hX, hG⟩ := id hP; have hx := hA.1.1; have hl := hA.2.1; have hp := hX.1; have hx1 := hA.1.2.1; have hx4 := hA.1.2.2.2.2.2.2.2.2.2.2; have hx86 := hA.1.2.2.2.2.2.1
  have h6 := hG.2.1
  have hn := x_n hX hG
  have isr := fun x Q => c_M_isRow (d := 98) (x := x) (Q := Q) hl hM.1 hG.1
  refine PUB_mk fun Q1 h1 => ?_
  by_cases hr : 0 ≤ x ∧ x < nI n
  · have hr6 := (k_row h6).mpr hr
    obtain ⟨i, hi, rfl⟩ := k_stuff x n (by omega) hr
    obtain ⟨mX, c1, c2, f1, f2, f3, f4, f5, f6⟩ := X_meltBack (d := 95) hX hG hi
    rw [nX11_melt (d := 99)]; simp (config := {decide := true}) (disch := first | omega | assumption | (simp only [mS_cL, mS_cI, mS_cR, mR_cL, mR_cI]; first | assumption | exact hcr _ | fail)) only [tX11_melt_0, tX11_melt_1, tX11_melt_4, tX11_melt_5, tX11_melt_8, tX11_melt_11, tX11_melt_12, tX11_melt_15, tX11_melt_16, tX11_melt_19, tX11_melt_22, tX11_melt_23, jK_some, jK_none, jc1_int, jc1_ref, jc1_none, jc1_long, jc1_null, jc1_rf, va_rf_some, va_rf_none, mI_cI, mL_cL, mR_cR, cI_cI, cL_cL, jup_eq, jne_1, jne_2, Nat.add_left_cancel_iff, mL_cI, mR_cI, mS_cI, mN_cI, mI_cL, mR_cL, mS_cL, mN_cL, mI_cR, mL_cR, mS_cR, mN_cR, true_and, and_true, true_or, or_true, if_true, if_false, jBool_0, jBool_1, Nat.le_refl, Nat.reduceLeDiff, Nat.reduceEqDiff, Nat.reduceAdd, Nat.reduceSub, reduceIte, Int32.reduceLT, Int32.reduceLE, ne_eq, not_false_eq_true, not_true_eq_false, false_or, or_false, and_false, false_and, reduceCtorEq, jn_4, jn_6, jn_8, jn_9, jn_12, jn_60, jn_100, jn_200, jn_400, jn_600, jn_601, jn_3600, jI_4, jI_6, jI_8, jI_9, jI_12, jI_60, jI_100, jI_200, jI_400, jI_600, jI_601, jI_3600, va_cpy_00, jx_0, jx_6, jx_12, jx_400, jx_600, nI_1, nx_5e, nx_l6, nx_l12, nx_l100, nx_l200, nx_l400, nx_l600, nx_l601, nx_l3600, nx_pos, nx_posN, nx_neg1, nx_m1neg, nx_leF, nx_leT, nx_ltF, nx_ltT, nx_mul6, nI_add, nI_1, jx_nI, nx_4, nx_g4, nx_6, nx_g6, nx_8, nx_g8, nx_9, nx_g9, nx_12, nx_g12, nx_14, nx_g14, nx_60, nx_g60, nx_100, nx_g100, nx_200, nx_g200, nx_400, nx_g400, nx_600, nx_g600, nx_601, nx_g601, nx_3600, nx_g3600, hx, hp, hx1, hx4, hx86, c_Pot_hasRow (d := 98) hp, hn, hr6, c1.iff]
    apply h1; intro Q2 h2
    have hMX : MP mX 195 P := MP_fr (fun j a b => f5 j (by omega)) (f6 _ (by omega)) (f6 _ (by omega)) hM
    have hlX : MLay (mS mX) (mR mX) 195 := by rw [f1, f2]; exact hl
    have isrX := fun x Q => c_M_isRow (d := 98) (m := mX) (x := x) (Q := Q) hlX hMX.1 hG.1
    obtain ⟨mM, d1, d2, g1, g2, g3, g4, g5, g6⟩ := M_melts (d := 96) (c := 195) hlX hMX hG hi
    rw [nX12_melt (d := 99)]
    simp (config := {decide := true}) (disch := first | omega | assumption | (simp only [mS_cL, mS_cI, mS_cR, mR_cL, mR_cI]; first | assumption | exact hcr _ | fail)) only [tX12_melt_0, tX12_melt_1, tX12_melt_2, tX12_melt_5, tX12_melt_8, tX12_melt_9, tX12_melt_10, tX12_melt_11, tX12_melt_14, tX12_melt_16, tX12_melt_17, tX12_melt_18, tX12_melt_19, tX12_melt_20, tX12_melt_21, tX12_melt_22, tX12_melt_25, tX12_melt_26, jK_some, jK_none, jc1_int, jc1_ref, jc1_none, jc1_long, jc1_null, jc1_rf, va_rf_some, va_rf_none, mI_cI, mL_cL, mR_cR, cI_cI, cL_cL, jup_eq, jne_1, jne_2, Nat.add_left_cancel_iff, mL_cI, mR_cI, mS_cI, mN_cI, mI_cL, mR_cL, mS_cL, mN_cL, mI_cR, mL_cR, mS_cR, mN_cR, true_and, and_true, true_or, or_true, if_true, if_false, jBool_0, jBool_1, Nat.le_refl, Nat.reduceLeDiff, Nat.reduceEqDiff, Nat.reduceAdd, Nat.reduceSub, reduceIte, Int32.reduceLT, Int32.reduceLE, ne_eq, not_false_eq_true, not_true_eq_false, false_or, or_false, and_false, false_and, reduceCtorEq, jn_4, jn_6, jn_8, jn_9, jn_12, jn_60, jn_100, jn_200, jn_400, jn_600, jn_601, jn_3600, jI_4, jI_6, jI_8, jI_9, jI_12, jI_60, jI_100, jI_200, jI_400, jI_600, jI_601, jI_3600, va_cpy_00, jx_0, jx_6, jx_12, jx_400, jx_600, nI_1, nx_5e, nx_l6, nx_l12, nx_l100, nx_l200, nx_l400, nx_l600, nx_l601, nx_l3600, nx_pos, nx_posN, nx_neg1, nx_m1neg, nx_leF, nx_leT, nx_ltF, nx_ltT, nx_mul6, nI_add, nI_1, jx_nI, nx_4, nx_g4, nx_6, nx_g6, nx_8, nx_g8, nx_9, nx_g9, nx_12, nx_g12, nx_14, nx_g14, nx_60, nx_g60, nx_100, nx_g100, nx_200, nx_g200, nx_400, nx_g400, nx_600, nx_g600, nx_601, nx_g601, nx_3600, nx_g3600, jx_1, jx_2, jx_3, jx_4, jx_5, jx_7, jx_8, jx_9, jx_10, jx_11, jx_13, jx_14, jx_15, jx_16, jx_17, jx_18, jx_19, jx_20, jx_21, jx_22, jx_23, jx_24, jx_25, jx_26, jx_27, jx_28, jx_29, jx_30, jx_31, jx_32, jx_33, jx_34, jx_35, jx_36, jx_37, jx_38, jx_39, jx_40, jx_41, jx_42, nx_a2, nx_a3, nx_a4, nx_a5, nx_a6, nx_a7, nx_a8, nx_a9, nx_a10, nx_a11, nx_a12, nx_a13, nx_a14, nx_a15, nx_a16, nx_a17, nx_a18, nx_a19, nx_a20, nx_a21, nx_a22, nx_a23, nx_a24, nx_a25, nx_a26, nx_a27, nx_a28, nx_a29, nx_a30, nx_a31, nx_a32, nx_a33, nx_a34, nx_a35, nx_a36, nx_a37, nx_a38, nx_a39, nx_a40, nx_a41, jI_17, nx_17, jI_48, nx_48, jI_80, nx_80, jI_720, nx_720, jI_4800, nx_4800, jI_18220, nx_18220, jI_18030, nx_18030, nx_m2, nx_m5, nx_m6, nx_m16, nx_m60, nx_m400, nx_m3644, nx_m3606, hlX, isrX, hr, hMX.1, hG.1, d1.iff]
    apply h2
    have eI : ∀ b, b ≠ 91 → b ≠ 209 → mI mM b = mI m b := fun b a1 a2 => (g5 b a2).trans (f5 b a1)
    have eL : ∀ b, b ≠ 101 → b ≠ 210 → mL mM b = mL m b := fun b a1 a2 => (g6 b a2).trans (f6 b a1)
    have eS := g1.trans f1
    have eR := g2.trans f2
    refine ⟨nf, nm, G, RA_fr eS eR (g3.trans f3) (g4.trans f4) ?_ ?_ ?_ hA, RT_fr ?_ ?_ ?_ ?_ hT, RU_fr ?_ ?_ ?_ ?_ ?_ ?_ hU, RL_fr eS eR ?_ ?_ ?_ ?_ ?_ ?_ hL, ⟨i, _, d2, ?_, kBk_GP hG hi⟩, RI_fr eS eR ?_ ?_ ?_ ?_ ?_ hI, RW_fr ?_ ?_ ?_ ?_ hW, RS_fr ?_ ?_ ?_ ?_ hS, RR_fr ?_ ?_ ?_ ?_ ?_ hR⟩
    all_goals first | exact eI _ (by omega) (by omega) | exact congrFun (eI _ (by omega) (by omega)) _ | (intro j a b; exact eI j (by omega) (by omega)) | (intro j a b; exact eL j (by omega) (by omega)) | (intro j a; exact congrFun (eI _ (by omega) (by omega)) _) | (intro j a; exact congrFun (eL _ (by omega) (by omega)) _) | exact XPot_fr g1 g2 (fun j a b => g5 j (by omega)) (fun j a b => g6 j (by omega)) c2
  · have hr6 := mt (k_row h6).mp hr
    rw [nX11_melt (d := 99)]; simp (config := {decide := true}) (disch := first | omega | assumption | (simp only [mS_cL, mS_cI, mS_cR, mR_cL, mR_cI]; first | assumption | exact hcr _ | fail)) only [tX11_melt_0, tX11_melt_1, tX11_melt_4, tX11_melt_5, tX11_melt_8, tX11_melt_11, tX11_melt_12, tX11_melt_15, tX11_melt_16, tX11_melt_19, tX11_melt_22, tX11_melt_23, jK_some, jK_none, jc1_int, jc1_ref, jc1_none, jc1_long, jc1_null, jc1_rf, va_rf_some, va_rf_none, mI_cI, mL_cL, mR_cR, cI_cI, cL_cL, jup_eq, jne_1, jne_2, Nat.add_left_cancel_iff, mL_cI, mR_cI, mS_cI, mN_cI, mI_cL, mR_cL, mS_cL, mN_cL, mI_cR, mL_cR, mS_cR, mN_cR, true_and, and_true, true_or, or_true, if_true, if_false, jBool_0, jBool_1, Nat.le_refl, Nat.reduceLeDiff, Nat.reduceEqDiff, Nat.reduceAdd, Nat.reduceSub, reduceIte, Int32.reduceLT, Int32.reduceLE, ne_eq, not_false_eq_true, not_true_eq_false, false_or, or_false, and_false, false_and, reduceCtorEq, jn_4, jn_6, jn_8, jn_9, jn_12, jn_60, jn_100, jn_200, jn_400, jn_600, jn_601, jn_3600, jI_4, jI_6, jI_8, jI_9, jI_12, jI_60, jI_100, jI_200, jI_400, jI_600, jI_601, jI_3600, va_cpy_00, jx_0, jx_6, jx_12, jx_400, jx_600, nI_1, nx_5e, nx_l6, nx_l12, nx_l100, nx_l200, nx_l400, nx_l600, nx_l601, nx_l3600, nx_pos, nx_posN, nx_neg1, nx_m1neg, nx_leF, nx_leT, nx_ltF, nx_ltT, nx_mul6, nI_add, nI_1, jx_nI, nx_4, nx_g4, nx_6, nx_g6, nx_8, nx_g8, nx_9, nx_g9, nx_12, nx_g12, nx_14, nx_g14, nx_60, nx_g60, nx_100, nx_g100, nx_200, nx_g200, nx_400, nx_g400, nx_600, nx_g600, nx_601, nx_g601, nx_3600, nx_g3600, hx, hp, hx1, hx4, hx86, c_Pot_hasRow (d := 98) hp, hn, hr6]
    apply h1; intro Q2 h2
    rw [nX12_melt (d := 99)]; simp (config := {decide := true}) (disch := first | omega | assumption | (simp only [mS_cL, mS_cI, mS_cR, mR_cL, mR_cI]; first | assumption | exact hcr _ | fail)) only [tX12_melt_0, tX12_melt_1, tX12_melt_2, tX12_melt_5, tX12_melt_8, tX12_melt_9, tX12_melt_10, tX12_melt_11, tX12_melt_14, tX12_melt_16, tX12_melt_17, tX12_melt_18, tX12_melt_19, tX12_melt_20, tX12_melt_21, tX12_melt_22, tX12_melt_25, tX12_melt_26, jK_some, jK_none, jc1_int, jc1_ref, jc1_none, jc1_long, jc1_null, jc1_rf, va_rf_some, va_rf_none, mI_cI, mL_cL, mR_cR, cI_cI, cL_cL, jup_eq, jne_1, jne_2, Nat.add_left_cancel_iff, mL_cI, mR_cI, mS_cI, mN_cI, mI_cL, mR_cL, mS_cL, mN_cL, mI_cR, mL_cR, mS_cR, mN_cR, true_and, and_true, true_or, or_true, if_true, if_false, jBool_0, jBool_1, Nat.le_refl, Nat.reduceLeDiff, Nat.reduceEqDiff, Nat.reduceAdd, Nat.reduceSub, reduceIte, Int32.reduceLT, Int32.reduceLE, ne_eq, not_false_eq_true, not_true_eq_false, false_or, or_false, and_false, false_and, reduceCtorEq, jn_4, jn_6, jn_8, jn_9, jn_12, jn_60, jn_100, jn_200, jn_400, jn_600, jn_601, jn_3600, jI_4, jI_6, jI_8, jI_9, jI_12, jI_60, jI_100, jI_200, jI_400, jI_600, jI_601, jI_3600, va_cpy_00, jx_0, jx_6, jx_12, jx_400, jx_600, nI_1, nx_5e, nx_l6, nx_l12, nx_l100, nx_l200, nx_l400, nx_l600, nx_l601, nx_l3600, nx_pos, nx_posN, nx_neg1, nx_m1neg, nx_leF, nx_leT, nx_ltF, nx_ltT, nx_mul6, nI_add, nI_1, jx_nI, nx_4, nx_g4, nx_6, nx_g6, nx_8, nx_g8, nx_9, nx_g9, nx_12, nx_g12, nx_14, nx_g14, nx_60, nx_g60, nx_100, nx_g100, nx_200, nx_g200, nx_400, nx_g400, nx_600, nx_g600, nx_601, nx_g601, nx_3600, nx_g3600, jx_1, jx_2, jx_3, jx_4, jx_5, jx_7, jx_8, jx_9, jx_10, jx_11, jx_13, jx_14, jx_15, jx_16, jx_17, jx_18, jx_19, jx_20, jx_21, jx_22, jx_23, jx_24, jx_25, jx_26, jx_27, jx_28, jx_29, jx_30, jx_31, jx_32, jx_33, jx_34, jx_35, jx_36, jx_37, jx_38, jx_39, jx_40, jx_41, jx_42, nx_a2, nx_a3, nx_a4, nx_a5, nx_a6, nx_a7, nx_a8, nx_a9, nx_a10, nx_a11, nx_a12, nx_a13, nx_a14, nx_a15, nx_a16, nx_a17, nx_a18, nx_a19, nx_a20, nx_a21, nx_a22, nx_a23, nx_a24, nx_a25, nx_a26, nx_a27, nx_a28, nx_a29, nx_a30, nx_a31, nx_a32, nx_a33, nx_a34, nx_a35, nx_a36, nx_a37, nx_a38, nx_a39, nx_a40, nx_a41, jI_17, nx_17, jI_48, nx_48, jI_80, nx_80, jI_720, nx_720, jI_4800, nx_4800, jI_18220, nx_18220, jI_18030, nx_18030, nx_m2, nx_m5, nx_m6, nx_m16, nx_m60, nx_m400, nx_m3644, nx_m3606, hl, isr, hr]
    exact h2 _ h
end PUB9
