/-! ===== the reference tries ===== -/
section TRM
variable {m m1 m2 : jmM} {nf nm n N g d a : Nat} {G : Nat → KLaw} {P P' : Pt} {Q : Option Value → jmM → Prop} {x w : Int32}
def MTr (n : Nat) (P : Pt) (m m' : jmM) : Prop := (mS m' = mS m ∧ mR m' = mR m ∧ mN m' = mN m ∧ mZ m' = mZ m) ∧ (∀ b, b ≠ 195 → b ≠ 207 → b ≠ 208 → b ≠ 209 → b ≠ 211 → b ≠ 212 → b ≠ 213 → b ≠ 220 → mI m' b = mI m b) ∧ (∀ b, b ≠ 205 → b ≠ 206 → b ≠ 210 → b ≠ 214 → b ≠ 221 → mL m' b = mL m b) ∧ (∀ i, i < 6 → mI m' 207 i = mI m 207 i ∧ mI m' 208 i = mI m 208 i) ∧ (∀ k, k ≠ 21 → k ≠ 39 → k ≠ 40 → k ≠ 44 → k ≠ 45 → k ≠ 46 → mI m' 195 k = mI m 195 k) ∧ (∃ t, mI m' 195 21 = nI t) ∧ (∀ j, j < 14576 → mI m' 220 j = mI m 220 j) ∧ (∀ j, j < 14424 → mL m' 221 j = mL m 221 j) ∧ ∃ P', MP m' 195 P' ∧ PE n P P'
theorem PE.refl : PE n P P := ⟨fun _ _ => rfl, fun _ _ => ⟨rfl, rfl, rfl⟩, fun _ _ => ⟨rfl, rfl⟩⟩
theorem PE.trans {P'' : Pt} (h : PE n P P') (h' : PE n P' P'') : PE n P P'' := ⟨fun i hi => (h'.1 i hi).trans (h.1 i hi), fun k hk => ⟨(h'.2.1 k hk).1.trans (h.2.1 k hk).1, (h'.2.1 k hk).2.1.trans (h.2.1 k hk).2.1, (h'.2.1 k hk).2.2.trans (h.2.1 k hk).2.2⟩, fun i hi => ⟨(h'.2.2 i hi).1.trans (h.2.2 i hi).1, (h'.2.2 i hi).2.trans (h.2.2 i hi).2⟩⟩
theorem MTr.refl (h : ∃ t, mI m 195 21 = nI t) (hP : MP m 195 P') (hE : PE n P P') : MTr n P m m := ⟨⟨rfl, rfl, rfl, rfl⟩, fun _ _ _ _ _ _ _ _ _ => rfl, fun _ _ _ _ _ _ => rfl, fun _ _ => ⟨rfl, rfl⟩, fun _ _ _ _ _ _ _ => rfl, h, fun _ _ => rfl, fun _ _ => rfl, P', hP, hE⟩
theorem MTr.trans {P0 : Pt} (h : MTr n P0 m m1) (h' : MTr n P0 m1 m2) : MTr n P0 m m2 := by
  obtain ⟨⟨a1, a2, a3, a4⟩, a5, a6, a7, a8, -, a10, a11, -⟩ := h
  obtain ⟨⟨b1, b2, b3, b4⟩, b5, b6, b7, b8, b9, b10, b11, b12⟩ := h'
  exact ⟨⟨b1.trans a1, b2.trans a2, b3.trans a3, b4.trans a4⟩, fun b h1 h2 h3 h4 h5 h6 h7 h8 => (b5 b h1 h2 h3 h4 h5 h6 h7 h8).trans (a5 b h1 h2 h3 h4 h5 h6 h7 h8), fun b h1 h2 h3 h4 h5 => (b6 b h1 h2 h3 h4 h5).trans (a6 b h1 h2 h3 h4 h5), fun i hi => ⟨(b7 i hi).1.trans (a7 i hi).1, (b7 i hi).2.trans (a7 i hi).2⟩, fun k h1 h2 h3 h4 h5 h6 => (b8 k h1 h2 h3 h4 h5 h6).trans (a8 k h1 h2 h3 h4 h5 h6), b9, fun j hj => (b10 j hj).trans (a10 j hj), fun j hj => (b11 j hj).trans (a11 j hj), b12⟩
/-- what the reference needs to try -/
def MH (G : Nat → KLaw) (nf nm n : Nat) (P : Pt) (m : jmM) : Prop := MLay (mS m) (mR m) 195 ∧ KLaws G nf nm ∧ MLaws m 195 G nf nm ∧ (∃ t, mI m 195 21 = nI t) ∧ mI m 195 10 = nI nm ∧ ∃ P', MP m 195 P' ∧ PE n P P' ∧ GP nf nm n P'
theorem MH.tr (h : MTr n P m m1) (hh : MH G nf nm n P m) : MH G nf nm n P m1 := by
  obtain ⟨h1, h2, h3, h4, h5, P1, p1, p2, p3⟩ := hh
  obtain ⟨⟨a1, a2, a3, a4⟩, a5, a6, a7, a8, a9, a10, a11, P2, a12, a13⟩ := h
  refine ⟨by rw [a1, a2]; exact h1, h2, MLaws_fr (fun j u v => a5 j (by omega) (by omega) (by omega) (by omega) (by omega) (by omega) (by omega) (by omega)) h3, a9, (a8 10 (by decide) (by decide) (by decide) (by decide) (by decide) (by decide)).trans h5, P2, a12, a13, ?_⟩
  have e : PE n P1 P2 := by
    refine ⟨fun i hi => (a13.1 i hi).trans (p2.1 i hi).symm, fun k hk => ⟨(a13.2.1 k hk).1.trans (p2.2.1 k hk).1.symm, (a13.2.1 k hk).2.1.trans (p2.2.1 k hk).2.1.symm, (a13.2.1 k hk).2.2.trans (p2.2.1 k hk).2.2.symm⟩, fun i hi => ⟨(a13.2.2 i hi).1.trans (p2.2.2 i hi).1.symm, (a13.2.2 i hi).2.trans (p2.2.2 i hi).2.symm⟩⟩
  exact GP_eqv e p3
/-- what a trial of pot P tells -/
def trV (G : Nat → KLaw) (N : Nat) (P : Pt) (n g : Nat) (x : Int32) : Int32 × Int32 × Int32 × Int32 × Int32 :=
  let T := kGo G N (trP P g (kWdN (qS P 10) x))
  ((jfor (stLook (qR T.2) (qS T.2 4)) n T.1 (0, 0, 0)).1, (jfor (stLook (qR T.2) (qS T.2 4)) n T.1 (0, 0, 0)).2.1, nI T.1, qS P 9 - qS T.2 9, qS T.2 10)
def trF (F : Nat → Int32) (v : Int32 × Int32 × Int32 × Int32 × Int32) : Prop := F 39 = v.1 ∧ F 40 = v.2.1 ∧ F 44 = v.2.2.1 ∧ F 45 = v.2.2.2.1 ∧ F 46 = v.2.2.2.2
theorem MP_trP (hM : MP m 195 P) : MP (cI m 209 (jup (jup (mI m 209) 2 (nI g)) 10 w)) 195 (trP P g w) := by
  obtain ⟨p1, p2, p3, p4, p5, p6⟩ := hM
  refine ⟨?_, ?_, p3, p4, ?_, ?_⟩
  · show mI _ 209 = _; rw [mI_same, show mI m 209 = qS P from p1]; rfl
  · show mI _ 213 = _; rw [mI_ne (by decide)]; exact p2
  · show mI _ 211 = _; rw [mI_ne (by decide)]; exact p5
  · show mI _ 212 = _; rw [mI_ne (by decide)]; exact p6
theorem M_tries0 (hl : MLay (mS m) (mR m) 195) (hk : KLaws G nf nm) (hL : MLaws m 195 G nf nm) (hM : MP m 195 P) (hG : GP nf nm n P) (h0 : qS P 0 ≠ 0) (hg : g < nm) (hN : N ≤ 600) (ht : ∃ t, mI m 195 21 = nI t) : ∃ m', CE 9 278 [.ref 195, .int (nI g), .int (nI N), .int x] m none m' ∧ trF (mI m' 195) (trV G N P n g x) ∧ MTr n P m m' := by
  have h6 := hG.2.1
  obtain ⟨m1, hm1⟩ : ∃ m1, cI m 195 (jup (jup (jup (jup (jup (mI m 195) 39 0) 40 0) 44 0) 45 0) 46 (kWdN (qS P 10) x)) = m1 := ⟨_, rfl⟩
  have i1 : ∀ b, b ≠ 195 → mI m1 b = mI m b := fun b hb => by rw [← hm1, mI_ne hb]
  have i195 : mI m1 195 = jup (jup (jup (jup (jup (mI m 195) 39 0) 40 0) 44 0) 45 0) 46 (kWdN (qS P 10) x) := by rw [← hm1, mI_same]
  have l1 : mL m1 = mL m := by rw [← hm1]; rfl
  have hl1 : MLay (mS m1) (mR m1) 195 := by rw [← hm1]; exact hl
  have hM1 : MP m1 195 P := MP_fr (fun j a b => i1 j (by omega)) (by rw [l1]) (by rw [l1]) hM
  have s1 : mS m1 = mS m ∧ mR m1 = mR m ∧ mN m1 = mN m ∧ mZ m1 = mZ m := by rw [← hm1]; exact ⟨rfl, rfl, rfl, rfl⟩
  have e10 : mI m 209 10 = qS P 10 := congrFun hM.1 10
  have e15 : mI m 209 15 = nI n := (congrFun hM.1 15).trans hG.1
  have e0' : mI m1 209 0 = qS P 0 := congrFun hM1.1 0
  have t1 : mI m1 195 21 = mI m 195 21 := by rw [i195]; simp [jup_eq]
  have o1 : ∀ k, k ≠ 39 → k ≠ 40 → k ≠ 44 → k ≠ 45 → k ≠ 46 → mI m1 195 k = mI m 195 k := fun k a1 a2 a3 a4 a5 => by rw [i195, jup_ne a5, jup_ne a4, jup_ne a3, jup_ne a2, jup_ne a1]
  by_cases h1 : qS P 0 = 1
  · obtain ⟨mK, k1, ⟨k2, k2', k2'', k2'''⟩, k3, k4, k5, k6, k7, k8, k9⟩ := M_keeps (d := 7) (c := 195) (k := 4) hl1 hM1 hG.1 h6 (by omega)
    rw [show nI 4 = (4 : Int32) from rfl] at k1
    have hMK : MP mK 195 P := MP_fr (fun j a b => k3 j (by omega)) (k4 _ (by omega)) (k4 _ (by omega)) hM1
    have KI : mI mK 195 = mI m1 195 := k3 195 (by omega)
    obtain ⟨mT, hmT⟩ : ∃ mT, cI mK 209 (jup (jup (mI mK 209) 2 (nI g)) 10 (kWdN (qS P 10) x)) = mT := ⟨_, rfl⟩
    have hMT : MP mT 195 (trP P g (kWdN (qS P 10) x)) := by rw [← hmT]; exact MP_trP hMK
    have iT : ∀ b, b ≠ 209 → mI mT b = mI mK b := fun b hb => by rw [← hmT, mI_ne hb]
    have lT : mL mT = mL mK := by rw [← hmT]; rfl
    have sT : mS mT = mS mK ∧ mR mT = mR mK ∧ mN mT = mN mK ∧ mZ mT = mZ mK := by rw [← hmT]; exact ⟨rfl, rfl, rfl, rfl⟩
    have hlT : MLay (mS mT) (mR mT) 195 := by rw [sT.1, sT.2.1, k2, k2']; exact hl1
    have hGT := trP_GP hG h0 hg (kWdN_in (w := qS P 10) (x := x))
    have hLT : MLaws mT 195 G nf nm := MLaws_fr (fun j u v => by rw [iT j (by omega), k3 j (by omega), i1 j (by omega)]) hL
    obtain ⟨mG, g1, g2, ⟨g3, g4, g5, g6, g7, g8, g9, g10⟩⟩ := M_goesOn (d := 1) (c := 195) (N := N) hk hN hMT hGT hLT hlT (by rw [iT 195 (by omega), KI, t1]; exact ht)
    obtain ⟨a1, a2, a3⟩ := kGo_all hk N n _ hGT
    unfold trV
    generalize hT : kGo G N (trP P g (kWdN (qS P 10) x)) = T at *
    obtain ⟨cnt, P2⟩ := T
    dsimp only at *
    have h62 := a1.2.1
    obtain ⟨mH, hmH⟩ : ∃ mH, cI mG 195 (jup (mI mG 195) 44 (nI cnt)) = mH := ⟨_, rfl⟩
    have iH : ∀ b, b ≠ 195 → mI mH b = mI mG b := fun b hb => by rw [← hmH, mI_ne hb]
    have lH : mL mH = mL mG := by rw [← hmH]; rfl
    have sH : mS mH = mS mG ∧ mR mH = mR mG ∧ mN mH = mN mG ∧ mZ mH = mZ mG := by rw [← hmH]; exact ⟨rfl, rfl, rfl, rfl⟩
    have hMH : MP mH 195 P2 := MP_fr (fun j a b => iH j (by omega)) (by rw [lH]) (by rw [lH]) g2
    have hlG : MLay (mS mG) (mR mG) 195 := by rw [g3, g4]; exact hlT
    have hlH : MLay (mS mH) (mR mH) 195 := by rw [sH.1, sH.2.1]; exact hlG
    have cl := fun Q => M_looks (d := 6) (m := mH) (i := n) (k := cnt) (Q := Q) (P := P2) hlH hMH.1 hMH.2.1 (by omega)
    obtain ⟨mJ, hmJ⟩ : ∃ mJ, cI mH 195 (lkO (mI mH 195) (jfor (stLook (qR P2) (qS P2 4)) n cnt (0, 0, 0))) = mJ := ⟨_, rfl⟩
    have iJ : ∀ b, b ≠ 195 → mI mJ b = mI mG b := fun b hb => by rw [← hmJ, mI_ne hb, iH b hb]
    have lJ : mL mJ = mL mG := by rw [← hmJ]; exact lH
    have sJ : mS mJ = mS mG ∧ mR mJ = mR mG ∧ mN mJ = mN mG ∧ mZ mJ = mZ mG := by rw [← hmJ]; exact sH
    have hMJ : MP mJ 195 P2 := MP_fr (fun j a b => iJ j (by omega)) (by rw [lJ]) (by rw [lJ]) g2
    have hlJ : MLay (mS mJ) (mR mJ) 195 := by rw [sJ.1, sJ.2.1]; exact hlG
    have vJ : mI mJ 195 = lkO (jup (mI mG 195) 44 (nI cnt)) (jfor (stLook (qR P2) (qS P2 4)) n cnt (0, 0, 0)) := by rw [← hmJ, mI_same, ← hmH, mI_same]
    have v45 : mI mJ 195 45 = 0 := by
      rw [vJ]; unfold lkO
      rw [jup_ne (by decide), jup_ne (by decide), jup_ne (by decide), g9 45 (by decide), iT 195 (by decide), KI, i195]
      simp [jup_eq]
    obtain ⟨mU, hmU⟩ : ∃ mU, cI mJ 195 (jup (jup (mI mJ 195) 45 (qS P 9 - qS P2 9)) 46 (qS P2 10)) = mU := ⟨_, rfl⟩
    have iU : ∀ b, b ≠ 195 → mI mU b = mI mG b := fun b hb => by rw [← hmU, mI_ne hb, iJ b hb]
    have lU : mL mU = mL mG := by rw [← hmU]; exact lJ
    have sU : mS mU = mS mG ∧ mR mU = mR mG ∧ mN mU = mN mG ∧ mZ mU = mZ mG := by rw [← hmU]; exact sJ
    have hlU : MLay (mS mU) (mR mU) 195 := by rw [sU.1, sU.2.1]; exact hlG
    have iKU : ∀ b, b ≠ 195 → b ≠ 209 → b ≠ 213 → mI mU b = mI mK b := fun b u v w => by rw [iU b u, g7 b u (by omega) (by omega), iT b v]
    have lKU : ∀ b, b ≠ 205 → b ≠ 206 → b ≠ 210 → b ≠ 214 → mL mU b = mL mK b := fun b u v w z => by rw [lU, g8 b (by omega) (by omega) (by omega) (by omega), lT]
    have u220 : mI mU 220 = mI mK 220 := iKU 220 (by omega) (by omega) (by omega)
    have u221 : mL mU 221 = mL mK 221 := lKU 221 (by omega) (by omega) (by omega) (by omega)
    obtain ⟨mZ', z1, ⟨z2, z2', z2'', z2'''⟩, z3, z4, z5, z6, z7, z8⟩ := M_returns (d := 7) (c := 195) (k := 4) (n := n) hlU (by rw [show 195 + 25 = 220 from rfl, u220]; exact (k5.1 15 (by decide)).trans hG.1) h6 (by omega)
    rw [show 195 + 25 = 220 from rfl, u220] at z5 z6 z7 z8
    rw [show 195 + 26 = 221 from rfl, u221] at z7 z8
    rw [show nI 4 = (4 : Int32) from rfl] at z1
    have e15J : mI mJ 209 15 = nI (n + cnt) := (congrFun hMJ.1 15).trans a1.1
    have e10J : mI mJ 209 10 = qS P2 10 := congrFun hMJ.1 10
    have e15H : mI mH 209 15 = nI (n + cnt) := (congrFun hMH.1 15).trans a1.1
    have e46 : mI mK 195 46 = kWdN (qS P 10) x := by rw [KI, i195, jup_same]
    have hlK : MLay (mS mK) (mR mK) 195 := by rw [k2, k2']; exact hl1
    refine ⟨mZ', CE.of fun Q => ?_, ?_, ?_⟩
    · rw [nX12_tries (d := 8)]
      simp (config := {decide := true}) (disch := first | omega | assumption | (simp only [mS_cL, mS_cI, mS_cR, mR_cL, mR_cI]; first | assumption | exact hcr _ | fail)) only [tX12_tries_0, tX12_tries_1, tX12_tries_4, tX12_tries_6, tX12_tries_7, tX12_tries_9, tX12_tries_10, tX12_tries_11, tX12_tries_14, tX12_tries_15, tX12_tries_16, tX12_tries_19, tX12_tries_20, tX12_tries_21, tX12_tries_24, tX12_tries_25, tX12_tries_26, tX12_tries_29, tX12_tries_30, tX12_tries_31, tX12_tries_34, tX12_tries_36, tX12_tries_37, tX12_tries_38, tX12_tries_39, tX12_tries_40, tX12_tries_41, tX12_tries_42, tX12_tries_45, tX12_tries_48, tX12_tries_49, jK_some, jK_none, jc1_int, jc1_ref, jc1_none, jc1_long, jc1_null, jc1_rf, va_rf_some, va_rf_none, mI_cI, mL_cL, mR_cR, cI_cI, cL_cL, jup_eq, jne_1, jne_2, Nat.add_left_cancel_iff, mL_cI, mR_cI, mS_cI, mN_cI, mI_cL, mR_cL, mS_cL, mN_cL, mI_cR, mL_cR, mS_cR, mN_cR, true_and, and_true, true_or, or_true, if_true, if_false, jBool_0, jBool_1, Nat.le_refl, Nat.reduceLeDiff, Nat.reduceEqDiff, Nat.reduceAdd, Nat.reduceSub, reduceIte, Int32.reduceLT, Int32.reduceLE, ne_eq, not_false_eq_true, not_true_eq_false, false_or, or_false, and_false, false_and, reduceCtorEq, jn_4, jn_6, jn_8, jn_9, jn_12, jn_60, jn_100, jn_200, jn_400, jn_600, jn_601, jn_3600, jI_4, jI_6, jI_8, jI_9, jI_12, jI_60, jI_100, jI_200, jI_400, jI_600, jI_601, jI_3600, va_cpy_00, jx_0, jx_6, jx_12, jx_400, jx_600, nI_1, nx_5e, nx_l6, nx_l12, nx_l100, nx_l200, nx_l400, nx_l600, nx_l601, nx_l3600, nx_pos, nx_posN, nx_neg1, nx_m1neg, nx_leF, nx_leT, nx_ltF, nx_ltT, nx_mul6, nI_add, nI_1, jx_nI, nx_4, nx_g4, nx_6, nx_g6, nx_8, nx_g8, nx_9, nx_g9, nx_12, nx_g12, nx_14, nx_g14, nx_60, nx_g60, nx_100, nx_g100, nx_200, nx_g200, nx_400, nx_g400, nx_600, nx_g600, nx_601, nx_g601, nx_3600, nx_g3600, jx_1, jx_2, jx_3, jx_4, jx_5, jx_7, jx_8, jx_9, jx_10, jx_11, jx_13, jx_14, jx_15, jx_16, jx_17, jx_18, jx_19, jx_20, jx_21, jx_22, jx_23, jx_24, jx_25, jx_26, jx_27, jx_28, jx_29, jx_30, jx_31, jx_32, jx_33, jx_34, jx_35, jx_36, jx_37, jx_38, jx_39, jx_40, jx_41, jx_42, nx_a2, nx_a3, nx_a4, nx_a5, nx_a6, nx_a7, nx_a8, nx_a9, nx_a10, nx_a11, nx_a12, nx_a13, nx_a14, nx_a15, nx_a16, nx_a17, nx_a18, nx_a19, nx_a20, nx_a21, nx_a22, nx_a23, nx_a24, nx_a25, nx_a26, nx_a27, nx_a28, nx_a29, nx_a30, nx_a31, nx_a32, nx_a33, nx_a34, nx_a35, nx_a36, nx_a37, nx_a38, nx_a39, nx_a40, nx_a41, jI_17, nx_17, jI_48, nx_48, jI_80, nx_80, jI_720, nx_720, jI_4800, nx_4800, jI_18220, nx_18220, jI_18030, nx_18030, nx_m2, nx_m5, nx_m6, nx_m16, nx_m60, nx_m400, nx_m3644, nx_m3606, hl, c_M_held, e10, e15]
      rw [show (kHeld ((qS P 10).toInt64 + x.toInt64) 0 9999).toInt32 = kWdN (qS P 10) x from rfl, hm1]
      simp (config := {decide := true}) (disch := first | omega | assumption | (simp only [mS_cL, mS_cI, mS_cR, mR_cL, mR_cI]; first | assumption | exact hcr _ | fail)) only [tX12_tries_52, tX12_tries_53, tX12_tries_56, tX12_tries_57, tX12_tries_58, tX12_tries_59, tX12_tries_62, tX12_tries_63, tX12_tries_64, tX12_tries_65, jK_some, jK_none, jc1_int, jc1_ref, jc1_none, jc1_long, jc1_null, jc1_rf, va_rf_some, va_rf_none, mI_cI, mL_cL, mR_cR, cI_cI, cL_cL, jup_eq, jne_1, jne_2, Nat.add_left_cancel_iff, mL_cI, mR_cI, mS_cI, mN_cI, mI_cL, mR_cL, mS_cL, mN_cL, mI_cR, mL_cR, mS_cR, mN_cR, true_and, and_true, true_or, or_true, if_true, if_false, jBool_0, jBool_1, Nat.le_refl, Nat.reduceLeDiff, Nat.reduceEqDiff, Nat.reduceAdd, Nat.reduceSub, reduceIte, Int32.reduceLT, Int32.reduceLE, ne_eq, not_false_eq_true, not_true_eq_false, false_or, or_false, and_false, false_and, reduceCtorEq, jn_4, jn_6, jn_8, jn_9, jn_12, jn_60, jn_100, jn_200, jn_400, jn_600, jn_601, jn_3600, jI_4, jI_6, jI_8, jI_9, jI_12, jI_60, jI_100, jI_200, jI_400, jI_600, jI_601, jI_3600, va_cpy_00, jx_0, jx_6, jx_12, jx_400, jx_600, nI_1, nx_5e, nx_l6, nx_l12, nx_l100, nx_l200, nx_l400, nx_l600, nx_l601, nx_l3600, nx_pos, nx_posN, nx_neg1, nx_m1neg, nx_leF, nx_leT, nx_ltF, nx_ltT, nx_mul6, nI_add, nI_1, jx_nI, nx_4, nx_g4, nx_6, nx_g6, nx_8, nx_g8, nx_9, nx_g9, nx_12, nx_g12, nx_14, nx_g14, nx_60, nx_g60, nx_100, nx_g100, nx_200, nx_g200, nx_400, nx_g400, nx_600, nx_g600, nx_601, nx_g601, nx_3600, nx_g3600, jx_1, jx_2, jx_3, jx_4, jx_5, jx_7, jx_8, jx_9, jx_10, jx_11, jx_13, jx_14, jx_15, jx_16, jx_17, jx_18, jx_19, jx_20, jx_21, jx_22, jx_23, jx_24, jx_25, jx_26, jx_27, jx_28, jx_29, jx_30, jx_31, jx_32, jx_33, jx_34, jx_35, jx_36, jx_37, jx_38, jx_39, jx_40, jx_41, jx_42, nx_a2, nx_a3, nx_a4, nx_a5, nx_a6, nx_a7, nx_a8, nx_a9, nx_a10, nx_a11, nx_a12, nx_a13, nx_a14, nx_a15, nx_a16, nx_a17, nx_a18, nx_a19, nx_a20, nx_a21, nx_a22, nx_a23, nx_a24, nx_a25, nx_a26, nx_a27, nx_a28, nx_a29, nx_a30, nx_a31, nx_a32, nx_a33, nx_a34, nx_a35, nx_a36, nx_a37, nx_a38, nx_a39, nx_a40, nx_a41, jI_17, nx_17, jI_48, nx_48, jI_80, nx_80, jI_720, nx_720, jI_4800, nx_4800, jI_18220, nx_18220, jI_18030, nx_18030, nx_m2, nx_m5, nx_m6, nx_m16, nx_m60, nx_m400, nx_m3644, nx_m3606, hl1, e0', h1, k1.iff]
      simp (config := {decide := true}) (disch := first | omega | assumption | (simp only [mS_cL, mS_cI, mS_cR, mR_cL, mR_cI]; first | assumption | exact hcr _ | fail)) only [tX12_tries_68, tX12_tries_69, tX12_tries_72, tX12_tries_73, tX12_tries_74, tX12_tries_75, tX12_tries_76, tX12_tries_79, tX12_tries_81, tX12_tries_82, tX12_tries_85, tX12_tries_86, tX12_tries_87, tX12_tries_88, jK_some, jK_none, jc1_int, jc1_ref, jc1_none, jc1_long, jc1_null, jc1_rf, va_rf_some, va_rf_none, mI_cI, mL_cL, mR_cR, cI_cI, cL_cL, jup_eq, jne_1, jne_2, Nat.add_left_cancel_iff, mL_cI, mR_cI, mS_cI, mN_cI, mI_cL, mR_cL, mS_cL, mN_cL, mI_cR, mL_cR, mS_cR, mN_cR, true_and, and_true, true_or, or_true, if_true, if_false, jBool_0, jBool_1, Nat.le_refl, Nat.reduceLeDiff, Nat.reduceEqDiff, Nat.reduceAdd, Nat.reduceSub, reduceIte, Int32.reduceLT, Int32.reduceLE, ne_eq, not_false_eq_true, not_true_eq_false, false_or, or_false, and_false, false_and, reduceCtorEq, jn_4, jn_6, jn_8, jn_9, jn_12, jn_60, jn_100, jn_200, jn_400, jn_600, jn_601, jn_3600, jI_4, jI_6, jI_8, jI_9, jI_12, jI_60, jI_100, jI_200, jI_400, jI_600, jI_601, jI_3600, va_cpy_00, jx_0, jx_6, jx_12, jx_400, jx_600, nI_1, nx_5e, nx_l6, nx_l12, nx_l100, nx_l200, nx_l400, nx_l600, nx_l601, nx_l3600, nx_pos, nx_posN, nx_neg1, nx_m1neg, nx_leF, nx_leT, nx_ltF, nx_ltT, nx_mul6, nI_add, nI_1, jx_nI, nx_4, nx_g4, nx_6, nx_g6, nx_8, nx_g8, nx_9, nx_g9, nx_12, nx_g12, nx_14, nx_g14, nx_60, nx_g60, nx_100, nx_g100, nx_200, nx_g200, nx_400, nx_g400, nx_600, nx_g600, nx_601, nx_g601, nx_3600, nx_g3600, jx_1, jx_2, jx_3, jx_4, jx_5, jx_7, jx_8, jx_9, jx_10, jx_11, jx_13, jx_14, jx_15, jx_16, jx_17, jx_18, jx_19, jx_20, jx_21, jx_22, jx_23, jx_24, jx_25, jx_26, jx_27, jx_28, jx_29, jx_30, jx_31, jx_32, jx_33, jx_34, jx_35, jx_36, jx_37, jx_38, jx_39, jx_40, jx_41, jx_42, nx_a2, nx_a3, nx_a4, nx_a5, nx_a6, nx_a7, nx_a8, nx_a9, nx_a10, nx_a11, nx_a12, nx_a13, nx_a14, nx_a15, nx_a16, nx_a17, nx_a18, nx_a19, nx_a20, nx_a21, nx_a22, nx_a23, nx_a24, nx_a25, nx_a26, nx_a27, nx_a28, nx_a29, nx_a30, nx_a31, nx_a32, nx_a33, nx_a34, nx_a35, nx_a36, nx_a37, nx_a38, nx_a39, nx_a40, nx_a41, jI_17, nx_17, jI_48, nx_48, jI_80, nx_80, jI_720, nx_720, jI_4800, nx_4800, jI_18220, nx_18220, jI_18030, nx_18030, nx_m2, nx_m5, nx_m6, nx_m16, nx_m60, nx_m400, nx_m3644, nx_m3606, hlK, e46]
      rw [hmT]
      simp (config := {decide := true}) (disch := first | omega | assumption | (simp only [mS_cL, mS_cI, mS_cR, mR_cL, mR_cI]; first | assumption | exact hcr _ | fail)) only [tX12_tries_89, tX12_tries_92, jK_some, jK_none, jc1_int, jc1_ref, jc1_none, jc1_long, jc1_null, jc1_rf, va_rf_some, va_rf_none, mI_cI, mL_cL, mR_cR, cI_cI, cL_cL, jup_eq, jne_1, jne_2, Nat.add_left_cancel_iff, mL_cI, mR_cI, mS_cI, mN_cI, mI_cL, mR_cL, mS_cL, mN_cL, mI_cR, mL_cR, mS_cR, mN_cR, true_and, and_true, true_or, or_true, if_true, if_false, jBool_0, jBool_1, Nat.le_refl, Nat.reduceLeDiff, Nat.reduceEqDiff, Nat.reduceAdd, Nat.reduceSub, reduceIte, Int32.reduceLT, Int32.reduceLE, ne_eq, not_false_eq_true, not_true_eq_false, false_or, or_false, and_false, false_and, reduceCtorEq, jn_4, jn_6, jn_8, jn_9, jn_12, jn_60, jn_100, jn_200, jn_400, jn_600, jn_601, jn_3600, jI_4, jI_6, jI_8, jI_9, jI_12, jI_60, jI_100, jI_200, jI_400, jI_600, jI_601, jI_3600, va_cpy_00, jx_0, jx_6, jx_12, jx_400, jx_600, nI_1, nx_5e, nx_l6, nx_l12, nx_l100, nx_l200, nx_l400, nx_l600, nx_l601, nx_l3600, nx_pos, nx_posN, nx_neg1, nx_m1neg, nx_leF, nx_leT, nx_ltF, nx_ltT, nx_mul6, nI_add, nI_1, jx_nI, nx_4, nx_g4, nx_6, nx_g6, nx_8, nx_g8, nx_9, nx_g9, nx_12, nx_g12, nx_14, nx_g14, nx_60, nx_g60, nx_100, nx_g100, nx_200, nx_g200, nx_400, nx_g400, nx_600, nx_g600, nx_601, nx_g601, nx_3600, nx_g3600, jx_1, jx_2, jx_3, jx_4, jx_5, jx_7, jx_8, jx_9, jx_10, jx_11, jx_13, jx_14, jx_15, jx_16, jx_17, jx_18, jx_19, jx_20, jx_21, jx_22, jx_23, jx_24, jx_25, jx_26, jx_27, jx_28, jx_29, jx_30, jx_31, jx_32, jx_33, jx_34, jx_35, jx_36, jx_37, jx_38, jx_39, jx_40, jx_41, jx_42, nx_a2, nx_a3, nx_a4, nx_a5, nx_a6, nx_a7, nx_a8, nx_a9, nx_a10, nx_a11, nx_a12, nx_a13, nx_a14, nx_a15, nx_a16, nx_a17, nx_a18, nx_a19, nx_a20, nx_a21, nx_a22, nx_a23, nx_a24, nx_a25, nx_a26, nx_a27, nx_a28, nx_a29, nx_a30, nx_a31, nx_a32, nx_a33, nx_a34, nx_a35, nx_a36, nx_a37, nx_a38, nx_a39, nx_a40, nx_a41, jI_17, nx_17, jI_48, nx_48, jI_80, nx_80, jI_720, nx_720, jI_4800, nx_4800, jI_18220, nx_18220, jI_18030, nx_18030, nx_m2, nx_m5, nx_m6, nx_m16, nx_m60, nx_m400, nx_m3644, nx_m3606, hlT, hlG, g1.iff]
      rw [hmH]
      simp (config := {decide := true}) (disch := first | omega | assumption | (simp only [mS_cL, mS_cI, mS_cR, mR_cL, mR_cI]; first | assumption | exact hcr _ | fail)) only [tX12_tries_95, tX12_tries_96, tX12_tries_98, tX12_tries_99, tX12_tries_102, tX12_tries_104, tX12_tries_105, tX12_tries_106, jK_some, jK_none, jc1_int, jc1_ref, jc1_none, jc1_long, jc1_null, jc1_rf, va_rf_some, va_rf_none, mI_cI, mL_cL, mR_cR, cI_cI, cL_cL, jup_eq, jne_1, jne_2, Nat.add_left_cancel_iff, mL_cI, mR_cI, mS_cI, mN_cI, mI_cL, mR_cL, mS_cL, mN_cL, mI_cR, mL_cR, mS_cR, mN_cR, true_and, and_true, true_or, or_true, if_true, if_false, jBool_0, jBool_1, Nat.le_refl, Nat.reduceLeDiff, Nat.reduceEqDiff, Nat.reduceAdd, Nat.reduceSub, reduceIte, Int32.reduceLT, Int32.reduceLE, ne_eq, not_false_eq_true, not_true_eq_false, false_or, or_false, and_false, false_and, reduceCtorEq, jn_4, jn_6, jn_8, jn_9, jn_12, jn_60, jn_100, jn_200, jn_400, jn_600, jn_601, jn_3600, jI_4, jI_6, jI_8, jI_9, jI_12, jI_60, jI_100, jI_200, jI_400, jI_600, jI_601, jI_3600, va_cpy_00, jx_0, jx_6, jx_12, jx_400, jx_600, nI_1, nx_5e, nx_l6, nx_l12, nx_l100, nx_l200, nx_l400, nx_l600, nx_l601, nx_l3600, nx_pos, nx_posN, nx_neg1, nx_m1neg, nx_leF, nx_leT, nx_ltF, nx_ltT, nx_mul6, nI_add, nI_1, jx_nI, nx_4, nx_g4, nx_6, nx_g6, nx_8, nx_g8, nx_9, nx_g9, nx_12, nx_g12, nx_14, nx_g14, nx_60, nx_g60, nx_100, nx_g100, nx_200, nx_g200, nx_400, nx_g400, nx_600, nx_g600, nx_601, nx_g601, nx_3600, nx_g3600, jx_1, jx_2, jx_3, jx_4, jx_5, jx_7, jx_8, jx_9, jx_10, jx_11, jx_13, jx_14, jx_15, jx_16, jx_17, jx_18, jx_19, jx_20, jx_21, jx_22, jx_23, jx_24, jx_25, jx_26, jx_27, jx_28, jx_29, jx_30, jx_31, jx_32, jx_33, jx_34, jx_35, jx_36, jx_37, jx_38, jx_39, jx_40, jx_41, jx_42, nx_a2, nx_a3, nx_a4, nx_a5, nx_a6, nx_a7, nx_a8, nx_a9, nx_a10, nx_a11, nx_a12, nx_a13, nx_a14, nx_a15, nx_a16, nx_a17, nx_a18, nx_a19, nx_a20, nx_a21, nx_a22, nx_a23, nx_a24, nx_a25, nx_a26, nx_a27, nx_a28, nx_a29, nx_a30, nx_a31, nx_a32, nx_a33, nx_a34, nx_a35, nx_a36, nx_a37, nx_a38, nx_a39, nx_a40, nx_a41, jI_17, nx_17, jI_48, nx_48, jI_80, nx_80, jI_720, nx_720, jI_4800, nx_4800, jI_18220, nx_18220, jI_18030, nx_18030, nx_m2, nx_m5, nx_m6, nx_m16, nx_m60, nx_m400, nx_m3644, nx_m3606, hlH, e15H]
      simp (config := {decide := true}) (disch := first | omega | assumption | (simp only [mS_cL, mS_cI, mS_cR, mR_cL, mR_cI]; first | assumption | exact hcr _ | fail)) only [tX12_tries_107, tX12_tries_110, tX12_tries_112, jK_some, jK_none, jc1_int, jc1_ref, jc1_none, jc1_long, jc1_null, jc1_rf, va_rf_some, va_rf_none, mI_cI, mL_cL, mR_cR, cI_cI, cL_cL, jup_eq, jne_1, jne_2, Nat.add_left_cancel_iff, mL_cI, mR_cI, mS_cI, mN_cI, mI_cL, mR_cL, mS_cL, mN_cL, mI_cR, mL_cR, mS_cR, mN_cR, true_and, and_true, true_or, or_true, if_true, if_false, jBool_0, jBool_1, Nat.le_refl, Nat.reduceLeDiff, Nat.reduceEqDiff, Nat.reduceAdd, Nat.reduceSub, reduceIte, Int32.reduceLT, Int32.reduceLE, ne_eq, not_false_eq_true, not_true_eq_false, false_or, or_false, and_false, false_and, reduceCtorEq, jn_4, jn_6, jn_8, jn_9, jn_12, jn_60, jn_100, jn_200, jn_400, jn_600, jn_601, jn_3600, jI_4, jI_6, jI_8, jI_9, jI_12, jI_60, jI_100, jI_200, jI_400, jI_600, jI_601, jI_3600, va_cpy_00, jx_0, jx_6, jx_12, jx_400, jx_600, nI_1, hlH, cl]
      rw [hmJ]
      refine Iff.trans (show AW 8 278 114 _ [] mJ Q ↔ AW 8 278 114 [some (.ref 195), some (.int (nI g)), some (.int (nI N)), some (.int x), some (.int (nI n)), some (.int (nI n))] [] (cI mJ 195 (jup (mI mJ 195) 45 0)) Q by rw [← v45, jup_eta, cI_eta]) ?_
      refine Iff.trans (loop_iff (n := n + cnt) (P := fun i s => AW 8 278 114 [some (.ref 195), some (.int (nI g)), some (.int (nI N)), some (.int x), some (.int (nI n)), some (.int (nI i))] [] (cI mJ 195 (jup (mI mJ 195) 45 s)) Q) (E := fun s => AW 8 278 159 [some (.ref 195), some (.int (nI g)), some (.int (nI N)), some (.int x), some (.int (nI n)), some (.int (nI (n + cnt)))] [] (cI mJ 195 (jup (jup (mI mJ 195) 45 s) 46 (qS P2 10))) Q) (fun r s => s + qR P2 (6 * r + 3)) ?_ ?_ cnt n 0 rfl) ?_
      · intro i s hi
        have hr : mI mJ 213 = qR P2 := hMJ.2.1
        rw [tX12_tries_114]
        simp (config := {decide := true}) (disch := first | omega | assumption | (simp only [mS_cL, mS_cI, mS_cR, mR_cL, mR_cI]; first | assumption | exact hcr _ | fail)) only [tX12_tries_116, tX12_tries_117, tX12_tries_120, tX12_tries_122, tX12_tries_123, tX12_tries_126, tX12_tries_127, tX12_tries_128, tX12_tries_131, tX12_tries_132, tX12_tries_134, tX12_tries_135, tX12_tries_138, tX12_tries_139, tX12_tries_142, tX12_tries_145, jK_some, jK_none, jc1_int, jc1_ref, jc1_none, jc1_long, jc1_null, jc1_rf, va_rf_some, va_rf_none, mI_same, mL_same, mR_same, mI_ne, mL_ne, mR_ne, cI_cI, cL_cL, jup_eq, mL_cI, mR_cI, mS_cI, mN_cI, mI_cL, mR_cL, mS_cL, mN_cL, mI_cR, mL_cR, mS_cR, mN_cR, true_and, and_true, true_or, or_true, if_true, if_false, jBool_0, jBool_1, Nat.le_refl, Nat.reduceLeDiff, Nat.reduceEqDiff, Nat.reduceAdd, Nat.reduceSub, reduceIte, Int32.reduceLT, Int32.reduceLE, ne_eq, not_false_eq_true, not_true_eq_false, false_or, or_false, and_false, false_and, reduceCtorEq, jn_4, jn_6, jn_8, jn_9, jn_12, jn_60, jn_100, jn_200, jn_400, jn_600, jn_601, jn_3600, jI_4, jI_6, jI_8, jI_9, jI_12, jI_60, jI_100, jI_200, jI_400, jI_600, jI_601, jI_3600, va_cpy_00, jx_0, jx_6, jx_12, jx_400, jx_600, nI_1, nx_5e, nx_l6, nx_l12, nx_l100, nx_l200, nx_l400, nx_l600, nx_l601, nx_l3600, nx_pos, nx_posN, nx_neg1, nx_m1neg, nx_leF, nx_leT, nx_ltF, nx_ltT, nx_mul6, nI_add, nI_1, jx_nI, nx_4, nx_g4, nx_6, nx_g6, nx_8, nx_g8, nx_9, nx_g9, nx_12, nx_g12, nx_14, nx_g14, nx_60, nx_g60, nx_100, nx_g100, nx_200, nx_g200, nx_400, nx_g400, nx_600, nx_g600, nx_601, nx_g601, nx_3600, nx_g3600, jx_1, jx_2, jx_3, jx_4, jx_5, jx_7, jx_8, jx_9, jx_10, jx_11, jx_13, jx_14, jx_15, jx_16, jx_17, jx_18, jx_19, jx_20, jx_21, jx_22, jx_23, jx_24, jx_25, jx_26, jx_27, jx_28, jx_29, jx_30, jx_31, jx_32, jx_33, jx_34, jx_35, jx_36, jx_37, jx_38, jx_39, jx_40, jx_41, jx_42, nx_a2, nx_a3, nx_a4, nx_a5, nx_a6, nx_a7, nx_a8, nx_a9, nx_a10, nx_a11, nx_a12, nx_a13, nx_a14, nx_a15, nx_a16, nx_a17, nx_a18, nx_a19, nx_a20, nx_a21, nx_a22, nx_a23, nx_a24, nx_a25, nx_a26, nx_a27, nx_a28, nx_a29, nx_a30, nx_a31, nx_a32, nx_a33, nx_a34, nx_a35, nx_a36, nx_a37, nx_a38, nx_a39, nx_a40, nx_a41, jI_17, nx_17, jI_48, nx_48, jI_80, nx_80, jI_720, nx_720, jI_4800, nx_4800, jI_18220, nx_18220, jI_18030, nx_18030, nx_m2, nx_m5, nx_m6, nx_m16, nx_m60, nx_m400, nx_m3644, nx_m3606, hlJ, e15J, c_M_rowOf3, hr, jup_jup]
        done
      · intro s
        rw [tX12_tries_114]
        simp (config := {decide := true}) (disch := first | omega | assumption | (simp only [mS_cL, mS_cI, mS_cR, mR_cL, mR_cI]; first | assumption | exact hcr _ | fail)) only [tX12_tries_116, tX12_tries_117, tX12_tries_120, tX12_tries_122, tX12_tries_123, tX12_tries_126, tX12_tries_127, tX12_tries_128, tX12_tries_131, tX12_tries_132, tX12_tries_134, tX12_tries_135, tX12_tries_138, tX12_tries_139, tX12_tries_142, tX12_tries_145, tX12_tries_148, tX12_tries_149, tX12_tries_150, tX12_tries_153, tX12_tries_155, tX12_tries_156, jK_some, jK_none, jc1_int, jc1_ref, jc1_none, jc1_long, jc1_null, jc1_rf, va_rf_some, va_rf_none, mI_same, mL_same, mR_same, mI_ne, mL_ne, mR_ne, cI_cI, cL_cL, jup_eq, mL_cI, mR_cI, mS_cI, mN_cI, mI_cL, mR_cL, mS_cL, mN_cL, mI_cR, mL_cR, mS_cR, mN_cR, true_and, and_true, true_or, or_true, if_true, if_false, jBool_0, jBool_1, Nat.le_refl, Nat.reduceLeDiff, Nat.reduceEqDiff, Nat.reduceAdd, Nat.reduceSub, reduceIte, Int32.reduceLT, Int32.reduceLE, ne_eq, not_false_eq_true, not_true_eq_false, false_or, or_false, and_false, false_and, reduceCtorEq, jn_4, jn_6, jn_8, jn_9, jn_12, jn_60, jn_100, jn_200, jn_400, jn_600, jn_601, jn_3600, jI_4, jI_6, jI_8, jI_9, jI_12, jI_60, jI_100, jI_200, jI_400, jI_600, jI_601, jI_3600, va_cpy_00, jx_0, jx_6, jx_12, jx_400, jx_600, nI_1, nx_5e, nx_l6, nx_l12, nx_l100, nx_l200, nx_l400, nx_l600, nx_l601, nx_l3600, nx_pos, nx_posN, nx_neg1, nx_m1neg, nx_leF, nx_leT, nx_ltF, nx_ltT, nx_mul6, nI_add, nI_1, jx_nI, nx_4, nx_g4, nx_6, nx_g6, nx_8, nx_g8, nx_9, nx_g9, nx_12, nx_g12, nx_14, nx_g14, nx_60, nx_g60, nx_100, nx_g100, nx_200, nx_g200, nx_400, nx_g400, nx_600, nx_g600, nx_601, nx_g601, nx_3600, nx_g3600, jx_1, jx_2, jx_3, jx_4, jx_5, jx_7, jx_8, jx_9, jx_10, jx_11, jx_13, jx_14, jx_15, jx_16, jx_17, jx_18, jx_19, jx_20, jx_21, jx_22, jx_23, jx_24, jx_25, jx_26, jx_27, jx_28, jx_29, jx_30, jx_31, jx_32, jx_33, jx_34, jx_35, jx_36, jx_37, jx_38, jx_39, jx_40, jx_41, jx_42, nx_a2, nx_a3, nx_a4, nx_a5, nx_a6, nx_a7, nx_a8, nx_a9, nx_a10, nx_a11, nx_a12, nx_a13, nx_a14, nx_a15, nx_a16, nx_a17, nx_a18, nx_a19, nx_a20, nx_a21, nx_a22, nx_a23, nx_a24, nx_a25, nx_a26, nx_a27, nx_a28, nx_a29, nx_a30, nx_a31, nx_a32, nx_a33, nx_a34, nx_a35, nx_a36, nx_a37, nx_a38, nx_a39, nx_a40, nx_a41, jI_17, nx_17, jI_48, nx_48, jI_80, nx_80, jI_720, nx_720, jI_4800, nx_4800, jI_18220, nx_18220, jI_18030, nx_18030, nx_m2, nx_m5, nx_m6, nx_m16, nx_m60, nx_m400, nx_m3644, nx_m3606, hlJ, e15J, e10J]
        done
      rw [kGrn_sum a1 cnt n 0 rfl]
      have e9 : (0 : Int32) + ((if n < n + cnt then qR P2 (6 * n + 4) else qS P2 9) - qS P2 9) = qS P 9 - qS P2 9 := by
        rw [Int32.zero_add]
        congr 1
        apply Int32.toInt_inj.mp
        have : (trP P g (kWdN (qS P 10) x)).1 9 = qS P 9 := by
          show jup (jup (qS P) 2 (nI g)) 10 (kWdN (qS P 10) x) 9 = _
          rw [jup_ne (by decide), jup_ne (by decide)]
        rw [← this, ← a2]
        unfold kLA
        split <;> rfl
      rw [e9, hmU]
      simp (config := {decide := true}) (disch := first | omega | assumption | (simp only [mS_cL, mS_cI, mS_cR, mR_cL, mR_cI]; first | assumption | exact hcr _ | fail)) only [tX12_tries_159, tX12_tries_160, tX12_tries_161, tX12_tries_164, jK_some, jK_none, jc1_int, jc1_ref, jc1_none, jc1_long, jc1_null, jc1_rf, va_rf_some, va_rf_none, mI_cI, mL_cL, mR_cR, cI_cI, cL_cL, jup_eq, jne_1, jne_2, Nat.add_left_cancel_iff, mL_cI, mR_cI, mS_cI, mN_cI, mI_cL, mR_cL, mS_cL, mN_cL, mI_cR, mL_cR, mS_cR, mN_cR, true_and, and_true, true_or, or_true, if_true, if_false, jBool_0, jBool_1, Nat.le_refl, Nat.reduceLeDiff, Nat.reduceEqDiff, Nat.reduceAdd, Nat.reduceSub, reduceIte, Int32.reduceLT, Int32.reduceLE, ne_eq, not_false_eq_true, not_true_eq_false, false_or, or_false, and_false, false_and, reduceCtorEq, jn_4, jn_6, jn_8, jn_9, jn_12, jn_60, jn_100, jn_200, jn_400, jn_600, jn_601, jn_3600, jI_4, jI_6, jI_8, jI_9, jI_12, jI_60, jI_100, jI_200, jI_400, jI_600, jI_601, jI_3600, va_cpy_00, jx_0, jx_6, jx_12, jx_400, jx_600, nI_1, nx_5e, nx_l6, nx_l12, nx_l100, nx_l200, nx_l400, nx_l600, nx_l601, nx_l3600, nx_pos, nx_posN, nx_neg1, nx_m1neg, nx_leF, nx_leT, nx_ltF, nx_ltT, nx_mul6, nI_add, nI_1, jx_nI, nx_4, nx_g4, nx_6, nx_g6, nx_8, nx_g8, nx_9, nx_g9, nx_12, nx_g12, nx_14, nx_g14, nx_60, nx_g60, nx_100, nx_g100, nx_200, nx_g200, nx_400, nx_g400, nx_600, nx_g600, nx_601, nx_g601, nx_3600, nx_g3600, jx_1, jx_2, jx_3, jx_4, jx_5, jx_7, jx_8, jx_9, jx_10, jx_11, jx_13, jx_14, jx_15, jx_16, jx_17, jx_18, jx_19, jx_20, jx_21, jx_22, jx_23, jx_24, jx_25, jx_26, jx_27, jx_28, jx_29, jx_30, jx_31, jx_32, jx_33, jx_34, jx_35, jx_36, jx_37, jx_38, jx_39, jx_40, jx_41, jx_42, nx_a2, nx_a3, nx_a4, nx_a5, nx_a6, nx_a7, nx_a8, nx_a9, nx_a10, nx_a11, nx_a12, nx_a13, nx_a14, nx_a15, nx_a16, nx_a17, nx_a18, nx_a19, nx_a20, nx_a21, nx_a22, nx_a23, nx_a24, nx_a25, nx_a26, nx_a27, nx_a28, nx_a29, nx_a30, nx_a31, nx_a32, nx_a33, nx_a34, nx_a35, nx_a36, nx_a37, nx_a38, nx_a39, nx_a40, nx_a41, jI_17, nx_17, jI_48, nx_48, jI_80, nx_80, jI_720, nx_720, jI_4800, nx_4800, jI_18220, nx_18220, jI_18030, nx_18030, nx_m2, nx_m5, nx_m6, nx_m16, nx_m60, nx_m400, nx_m3644, nx_m3606, hlU, z1.iff]
    · have w : ∀ k, k ≠ 31 → mI mZ' 195 k = mI mU 195 k := fun k hk => by rw [z5, jup_ne hk]
      refine ⟨?_, ?_, ?_, ?_, ?_⟩
      · rw [w 39 (by decide), ← hmU, mI_same, vJ]; unfold lkO; simp [jup_eq]
      · rw [w 40 (by decide), ← hmU, mI_same, vJ]; unfold lkO; simp [jup_eq]
      · rw [w 44 (by decide), ← hmU, mI_same, vJ]; unfold lkO; simp [jup_eq]
      · rw [w 45 (by decide), ← hmU, mI_same]; simp [jup_eq]
      · rw [w 46 (by decide), ← hmU, mI_same]; simp [jup_eq]
    · have gS : mS mG = mS m ∧ mR mG = mR m ∧ mN mG = mN m ∧ mZ mG = mZ m := ⟨by rw [g3, sT.1, k2, s1.1], by rw [g4, sT.2.1, k2', s1.2.1], by rw [g5, sT.2.2.1, k2'', s1.2.2.1], by rw [g6, sT.2.2.2, k2''', s1.2.2.2]⟩
      have o2 : ∀ k, k ≠ 21 → k ≠ 39 → k ≠ 40 → k ≠ 44 → k ≠ 45 → k ≠ 46 → mI mU 195 k = mI m 195 k := by
        intro k a0 a1 a2 a3 a4 a5
        rw [← hmU, mI_same, jup_ne a5, jup_ne a4, vJ]
        unfold lkO
        rw [jup_ne a2, jup_ne a1, jup_ne a3, g9 k a0, iT 195 (by decide), KI, o1 k a1 a2 a3 a4 a5]
      refine ⟨⟨z2.trans (sU.1.trans gS.1), z2'.trans (sU.2.1.trans gS.2.1), z2''.trans (sU.2.2.1.trans gS.2.2.1), z2'''.trans (sU.2.2.2.trans gS.2.2.2)⟩, ?_, ?_, ?_, ?_, ?_, ?_, ?_, (mI mZ' 209, mI mZ' 213, mL mZ' 214, mL mZ' 210, mI mZ' 211, mI mZ' 212), ⟨rfl, rfl, rfl, rfl, rfl, rfl⟩, ?_, ?_, ?_⟩
      · intro b b1 b2 b3 b4 b5 b6 b7 b8
        rw [z3 b b1 b2 b3 b4 b5 b6 b7, iKU b b1 b4 b7, k3 b b8, i1 b b1]
      · intro b b1 b2 b3 b4 b5
        rw [z4 b b3 b4, lKU b b1 b2 b3 b4, k4 b b5, l1]
      · intro i hi
        obtain ⟨w1, w2, -⟩ := z7 i hi
        obtain ⟨v1, v2⟩ := k6 i hi
        rw [show 195 + 25 = 220 from rfl] at v1 v2
        refine ⟨w1.trans (v1.trans (congrFun (i1 207 (by omega)) i)), w2.trans (v2.trans (congrFun (i1 208 (by omega)) i))⟩
      · intro k a0 a1 a2 a3 a4 a5
        by_cases e31 : k = 31
        · subst e31
          rw [z5, jup_same]
          exact k7.trans (o1 31 (by decide) (by decide) (by decide) (by decide) (by decide))
        · rw [z5, jup_ne e31, o2 k a0 a1 a2 a3 a4 a5]
      · obtain ⟨t, ht'⟩ := g10
        refine ⟨t, ?_⟩
        rw [z5, jup_ne (by decide), ← hmU, mI_same, jup_ne (by decide), jup_ne (by decide), vJ]
        unfold lkO
        rw [jup_ne (by decide), jup_ne (by decide), jup_ne (by decide)]
        exact ht'
      · intro j hj
        rw [z3 220 (by omega) (by omega) (by omega) (by omega) (by omega) (by omega) (by omega), u220]
        rw [show mI mK 220 j = mI m1 220 j from k8 j (by omega), i1 220 (by omega)]
      · intro j hj
        rw [z4 221 (by omega) (by omega), u221]
        rw [show mL mK 221 j = mL m1 221 j from k9 j (by omega), l1]
      · intro i hi
        exact (z6 i hi).trans (k5.1 i hi)
      · intro i hi
        obtain ⟨w1, w2, w3, w4, w5⟩ := z7 i hi
        obtain ⟨v1, v2, v3⟩ := k5.2.1 i hi
        exact ⟨w3.trans v1, w4.trans v2, w5.trans v3⟩
      · intro i hi
        obtain ⟨w1, w2⟩ := z8 i hi
        obtain ⟨v1, v2⟩ := k5.2.2 i hi
        exact ⟨w1.trans v1, w2.trans v2⟩
  · have hT : kGo G N (trP P g (kWdN (qS P 10) x)) = (0, trP P g (kWdN (qS P 10) x)) := by
      cases N with
      | zero => rfl
      | succ N =>
        show (if qS (trP P g (kWdN (qS P 10) x)) 0 = 1 then _ else _) = _
        rw [if_neg]
        show jup (jup (qS P) 2 (nI g)) 10 (kWdN (qS P 10) x) 0 ≠ 1
        rw [jup_ne (by decide), jup_ne (by decide)]; exact h1
    refine ⟨m1, CE.of fun Q => ?_, ?_, ?_⟩
    · rw [nX12_tries (d := 8)]
      simp (config := {decide := true}) (disch := first | omega | assumption | (simp only [mS_cL, mS_cI, mS_cR, mR_cL, mR_cI]; first | assumption | exact hcr _ | fail)) only [tX12_tries_0, tX12_tries_1, tX12_tries_4, tX12_tries_6, tX12_tries_7, tX12_tries_9, tX12_tries_10, tX12_tries_11, tX12_tries_14, tX12_tries_15, tX12_tries_16, tX12_tries_19, tX12_tries_20, tX12_tries_21, tX12_tries_24, tX12_tries_25, tX12_tries_26, tX12_tries_29, tX12_tries_30, tX12_tries_31, tX12_tries_34, tX12_tries_36, tX12_tries_37, tX12_tries_38, tX12_tries_39, tX12_tries_40, tX12_tries_41, tX12_tries_42, tX12_tries_45, tX12_tries_48, tX12_tries_49, jK_some, jK_none, jc1_int, jc1_ref, jc1_none, jc1_long, jc1_null, jc1_rf, va_rf_some, va_rf_none, mI_cI, mL_cL, mR_cR, cI_cI, cL_cL, jup_eq, jne_1, jne_2, Nat.add_left_cancel_iff, mL_cI, mR_cI, mS_cI, mN_cI, mI_cL, mR_cL, mS_cL, mN_cL, mI_cR, mL_cR, mS_cR, mN_cR, true_and, and_true, true_or, or_true, if_true, if_false, jBool_0, jBool_1, Nat.le_refl, Nat.reduceLeDiff, Nat.reduceEqDiff, Nat.reduceAdd, Nat.reduceSub, reduceIte, Int32.reduceLT, Int32.reduceLE, ne_eq, not_false_eq_true, not_true_eq_false, false_or, or_false, and_false, false_and, reduceCtorEq, jn_4, jn_6, jn_8, jn_9, jn_12, jn_60, jn_100, jn_200, jn_400, jn_600, jn_601, jn_3600, jI_4, jI_6, jI_8, jI_9, jI_12, jI_60, jI_100, jI_200, jI_400, jI_600, jI_601, jI_3600, va_cpy_00, jx_0, jx_6, jx_12, jx_400, jx_600, nI_1, nx_5e, nx_l6, nx_l12, nx_l100, nx_l200, nx_l400, nx_l600, nx_l601, nx_l3600, nx_pos, nx_posN, nx_neg1, nx_m1neg, nx_leF, nx_leT, nx_ltF, nx_ltT, nx_mul6, nI_add, nI_1, jx_nI, nx_4, nx_g4, nx_6, nx_g6, nx_8, nx_g8, nx_9, nx_g9, nx_12, nx_g12, nx_14, nx_g14, nx_60, nx_g60, nx_100, nx_g100, nx_200, nx_g200, nx_400, nx_g400, nx_600, nx_g600, nx_601, nx_g601, nx_3600, nx_g3600, jx_1, jx_2, jx_3, jx_4, jx_5, jx_7, jx_8, jx_9, jx_10, jx_11, jx_13, jx_14, jx_15, jx_16, jx_17, jx_18, jx_19, jx_20, jx_21, jx_22, jx_23, jx_24, jx_25, jx_26, jx_27, jx_28, jx_29, jx_30, jx_31, jx_32, jx_33, jx_34, jx_35, jx_36, jx_37, jx_38, jx_39, jx_40, jx_41, jx_42, nx_a2, nx_a3, nx_a4, nx_a5, nx_a6, nx_a7, nx_a8, nx_a9, nx_a10, nx_a11, nx_a12, nx_a13, nx_a14, nx_a15, nx_a16, nx_a17, nx_a18, nx_a19, nx_a20, nx_a21, nx_a22, nx_a23, nx_a24, nx_a25, nx_a26, nx_a27, nx_a28, nx_a29, nx_a30, nx_a31, nx_a32, nx_a33, nx_a34, nx_a35, nx_a36, nx_a37, nx_a38, nx_a39, nx_a40, nx_a41, jI_17, nx_17, jI_48, nx_48, jI_80, nx_80, jI_720, nx_720, jI_4800, nx_4800, jI_18220, nx_18220, jI_18030, nx_18030, nx_m2, nx_m5, nx_m6, nx_m16, nx_m60, nx_m400, nx_m3644, nx_m3606, hl, c_M_held, e10, e15]
      rw [show (kHeld ((qS P 10).toInt64 + x.toInt64) 0 9999).toInt32 = kWdN (qS P 10) x from rfl, hm1]
      simp (config := {decide := true}) (disch := first | omega | assumption | (simp only [mS_cL, mS_cI, mS_cR, mR_cL, mR_cI]; first | assumption | exact hcr _ | fail)) only [tX12_tries_52, tX12_tries_53, tX12_tries_56, tX12_tries_57, tX12_tries_58, tX12_tries_59, tX12_tries_62, tX12_tries_63, tX12_tries_64, tX12_tries_65, jK_some, jK_none, jc1_int, jc1_ref, jc1_none, jc1_long, jc1_null, jc1_rf, va_rf_some, va_rf_none, mI_cI, mL_cL, mR_cR, cI_cI, cL_cL, jup_eq, jne_1, jne_2, Nat.add_left_cancel_iff, mL_cI, mR_cI, mS_cI, mN_cI, mI_cL, mR_cL, mS_cL, mN_cL, mI_cR, mL_cR, mS_cR, mN_cR, true_and, and_true, true_or, or_true, if_true, if_false, jBool_0, jBool_1, Nat.le_refl, Nat.reduceLeDiff, Nat.reduceEqDiff, Nat.reduceAdd, Nat.reduceSub, reduceIte, Int32.reduceLT, Int32.reduceLE, ne_eq, not_false_eq_true, not_true_eq_false, false_or, or_false, and_false, false_and, reduceCtorEq, jn_4, jn_6, jn_8, jn_9, jn_12, jn_60, jn_100, jn_200, jn_400, jn_600, jn_601, jn_3600, jI_4, jI_6, jI_8, jI_9, jI_12, jI_60, jI_100, jI_200, jI_400, jI_600, jI_601, jI_3600, va_cpy_00, jx_0, jx_6, jx_12, jx_400, jx_600, nI_1, nx_5e, nx_l6, nx_l12, nx_l100, nx_l200, nx_l400, nx_l600, nx_l601, nx_l3600, nx_pos, nx_posN, nx_neg1, nx_m1neg, nx_leF, nx_leT, nx_ltF, nx_ltT, nx_mul6, nI_add, nI_1, jx_nI, nx_4, nx_g4, nx_6, nx_g6, nx_8, nx_g8, nx_9, nx_g9, nx_12, nx_g12, nx_14, nx_g14, nx_60, nx_g60, nx_100, nx_g100, nx_200, nx_g200, nx_400, nx_g400, nx_600, nx_g600, nx_601, nx_g601, nx_3600, nx_g3600, jx_1, jx_2, jx_3, jx_4, jx_5, jx_7, jx_8, jx_9, jx_10, jx_11, jx_13, jx_14, jx_15, jx_16, jx_17, jx_18, jx_19, jx_20, jx_21, jx_22, jx_23, jx_24, jx_25, jx_26, jx_27, jx_28, jx_29, jx_30, jx_31, jx_32, jx_33, jx_34, jx_35, jx_36, jx_37, jx_38, jx_39, jx_40, jx_41, jx_42, nx_a2, nx_a3, nx_a4, nx_a5, nx_a6, nx_a7, nx_a8, nx_a9, nx_a10, nx_a11, nx_a12, nx_a13, nx_a14, nx_a15, nx_a16, nx_a17, nx_a18, nx_a19, nx_a20, nx_a21, nx_a22, nx_a23, nx_a24, nx_a25, nx_a26, nx_a27, nx_a28, nx_a29, nx_a30, nx_a31, nx_a32, nx_a33, nx_a34, nx_a35, nx_a36, nx_a37, nx_a38, nx_a39, nx_a40, nx_a41, jI_17, nx_17, jI_48, nx_48, jI_80, nx_80, jI_720, nx_720, jI_4800, nx_4800, jI_18220, nx_18220, jI_18030, nx_18030, nx_m2, nx_m5, nx_m6, nx_m16, nx_m60, nx_m400, nx_m3644, nx_m3606, hl1, e0', h1]
    · unfold trV
      rw [hT]
      have e9 : qS (trP P g (kWdN (qS P 10) x)) 9 = qS P 9 := by
        show jup (jup (qS P) 2 (nI g)) 10 (kWdN (qS P 10) x) 9 = _
        rw [jup_ne (by decide), jup_ne (by decide)]
      refine ⟨?_, ?_, ?_, ?_, ?_⟩
      · rw [i195]; show _ = (0 : Int32); simp [jup_eq]
      · rw [i195]; show _ = (0 : Int32); simp [jup_eq]
      · rw [i195]; show _ = nI 0; simp [jup_eq]; rfl
      · rw [i195]; show _ = qS P 9 - qS (trP P g (kWdN (qS P 10) x)) 9; rw [e9, Int32.sub_self]; simp [jup_eq]
      · rw [i195]; show _ = jup (jup (qS P) 2 (nI g)) 10 (kWdN (qS P 10) x) 10; rw [jup_same, jup_same]
    · exact ⟨s1, fun b b1 _ _ _ _ _ _ _ => i1 b b1, fun b _ _ _ _ _ => by rw [l1], fun i hi => by rw [i1 207 (by omega), i1 208 (by omega)]; exact ⟨rfl, rfl⟩, fun k a0 a1 a2 a3 a4 a5 => o1 k a1 a2 a3 a4 a5, by rw [t1]; exact ht, fun j hj => by rw [i1 220 (by omega)], fun j hj => by rw [l1], P, hM1, PE.refl⟩
end TRM
