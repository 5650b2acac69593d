/-! ===== furnace, minder ===== -/
section RDK
variable {m m1 m2 : jmM} {nf nm x z L b k c d e : Nat} {p : jmM × RS} {ax v u : Int32} {T : Nat → Int32} {Q : Option Value → jmM → Prop}
theorem x_full (h1 : mS m 1 = (6, 6)) (g1 : mS m L = (4, 2)) (g2 : mR m L 0 = some (L + 1)) (g3 : mS m (L + 1) = (24, c)) (gk : mI m L 1 = nI k) (gk2 : c ≤ k) (gk3 : k < 100) (gc : c < 100) : CC (e + 51) 90 [.ref 1, .ref L, .int ax] m Q ↔ Q (some (.int (-1))) m := by
  have hf : ∀ Q : Option Value → jmM → Prop, CC (e + 50) 43 [.ref L] m Q ↔ Q (some (.int 1)) m := fun Q => by
    rw [c_Laws_isFull (d := e + 49) g1 g2 g3 gk gk3 gc, if_pos gk2]
  rw [nX6_readInto]
  simp (config := {decide := true}) (disch := first | omega | assumption | (simp only [mS_cL, mS_cI, mS_cR, mR_cL, mR_cI]; first | assumption | exact hcr _ | fail)) only [tX6_readInto_0, tX6_readInto_1, tX6_readInto_4, tX6_readInto_7, tX6_readInto_8, tX6_readInto_9, tX6_readInto_10, tX6_readInto_11, tX6_readInto_14, tX6_readInto_15, tX6_readInto_16, tX6_readInto_19, tX6_readInto_20, tX6_readInto_21, tX6_readInto_24, tX6_readInto_25, tX6_readInto_26, tX6_readInto_29, tX6_readInto_30, tX6_readInto_33, tX6_readInto_36, tX6_readInto_37, tX6_readInto_38, tX6_readInto_39, jK_some, jK_none, jc1_int, jc1_ref, jc1_none, jc1_long, jc1_null, jc1_rf, va_rf_some, va_rf_none, mI_cI, mL_cL, mR_cR, cI_cI, cL_cL, jup_eq, jne_1, jne_2, Nat.add_left_cancel_iff, mL_cI, mR_cI, mS_cI, mN_cI, mI_cL, mR_cL, mS_cL, mN_cL, mI_cR, mL_cR, mS_cR, mN_cR, true_and, and_true, true_or, or_true, if_true, if_false, jBool_0, jBool_1, Nat.le_refl, Nat.reduceLeDiff, Nat.reduceEqDiff, Nat.reduceAdd, Nat.reduceSub, reduceIte, Int32.reduceLT, Int32.reduceLE, ne_eq, not_false_eq_true, not_true_eq_false, false_or, or_false, and_false, false_and, reduceCtorEq, jn_4, jn_6, jn_8, jn_9, jn_12, jn_60, jn_100, jn_200, jn_400, jn_600, jn_601, jn_3600, jI_4, jI_6, jI_8, jI_9, jI_12, jI_60, jI_100, jI_200, jI_400, jI_600, jI_601, jI_3600, va_cpy_00, jx_0, jx_6, jx_12, jx_400, jx_600, nI_1, h1, hf, g1]
/-- X's memory when a law was added -/
def xS (p : jmM × RS) (L b k : Nat) : jmM := cI (jLawCp (rEd p) b 4) L (jup (mI (rEd p) L) 1 (nI (k + 1)))
theorem xS_ne (h1 : c ≠ L) (h2 : c < b ∨ b + 5 < c) : mI (xS p L b k) c = mI (rEd p) c := by
  unfold xS jLawCp
  rw [mI_ne h1, mI_ne (by omega), mI_ne (by omega), mI_ne (by omega), mI_ne (by omega), mI_ne (by omega), mI_ne (by omega)]
theorem xS_L : mI (xS p L b k) L 1 = nI (k + 1) := by
  unfold xS
  rw [mI_same, jup_same]
theorem xS_law (hL : L < b ∨ b + 5 < L) (hb : 9 < b) : (mI (xS p L b k) b 6 = mI p.1 4 6 ∧ mI (xS p L b k) b 7 = mI p.1 4 7 ∧ mI (xS p L b k) b 8 = mI p.1 4 8 ∧ mI (xS p L b k) b 9 = mI p.1 4 9) ∧ (∀ i, i < 12 → mI (xS p L b k) (b + 2) i = mI p.1 6 i ∧ mI (xS p L b k) (b + 3) i = mI p.1 7 i ∧ mI (xS p L b k) (b + 4) i = mI p.1 8 i ∧ mI (xS p L b k) (b + 5) i = mI p.1 9 i) ∧ ∀ i, i < 400 → mI (xS p L b k) (b + 1) i = p.2.2.2.2.2 i := by
  have e4 : ∀ q, q ≠ 1 → mI (rEd p) 4 q = mI p.1 4 q := fun q hq => by
    show jup (mI p.1 4) 1 _ q = _
    rw [jup_ne hq]
  have e5 : mI (rEd p) (4 + 1) = p.2.2.2.2.2 := rfl
  have e6 : mI (rEd p) (4 + 2) = mI p.1 6 := rfl
  have e7 : mI (rEd p) (4 + 3) = mI p.1 7 := rfl
  have e8 : mI (rEd p) (4 + 4) = mI p.1 8 := rfl
  have e9 : mI (rEd p) (4 + 5) = mI p.1 9 := rfl
  unfold xS jLawCp
  rw [e5, e6, e7, e8, e9]
  generalize rEd p = m0 at *
  refine ⟨⟨?_, ?_, ?_, ?_⟩, fun i hi => ⟨?_, ?_, ?_, ?_⟩, fun i hi => ?_⟩
  · rw [mI_ne (by omega), mI_same, jup_ne (by decide), jup_ne (by decide), jup_ne (by decide), jup_same]; exact e4 6 (by decide)
  · rw [mI_ne (by omega), mI_same, jup_ne (by decide), jup_ne (by decide), jup_same]; exact e4 7 (by decide)
  · rw [mI_ne (by omega), mI_same, jup_ne (by decide), jup_same]; exact e4 8 (by decide)
  · rw [mI_ne (by omega), mI_same, jup_same]; exact e4 9 (by decide)
  · rw [mI_ne (by omega), mI_ne (by omega), mI_ne (by omega), mI_ne (by omega), mI_ne (by omega), mI_same]; unfold jcp; rw [if_pos hi]
  · rw [mI_ne (by omega), mI_ne (by omega), mI_ne (by omega), mI_ne (by omega), mI_same]; unfold jcp; rw [if_pos hi]
  · rw [mI_ne (by omega), mI_ne (by omega), mI_ne (by omega), mI_same]; unfold jcp; rw [if_pos hi]
  · rw [mI_ne (by omega), mI_ne (by omega), mI_same]; unfold jcp; rw [if_pos hi]
  · rw [mI_ne (by omega), mI_ne (by omega), mI_ne (by omega), mI_ne (by omega), mI_ne (by omega), mI_ne (by omega), mI_same]; unfold jcp; rw [if_pos hi]
theorem xS_2 : (xS p L b k).2 = (rEd p).2 := rfl
theorem rEd_21 : mI (rEd p) 2 1 = 0 := rfl
/-- the reference reads behind X -/
theorem M_rd (hp : rGo m z u = p) (h1 : m1.2 = m.2) (h2 : ∀ c, 86 ≤ c → mI m1 c = mI m c) (hml : MLay (mS m) (mR m) 195) (hx : x < 12) (hu : u = 0 ↔ ¬ x < 4) (hz : z ≤ 400) (ht : mI m 195 1 = nI z) (hb : ∀ i, i < z → isB (mI m 196 i) ∧ mI m 3 i = mI m 196 i &&& 255) (hX : XB (rB0 m u) (rT m z) z)
    (k1 : p.2.2.2.1 = 0 → ∀ m' K, FrR x m1 m' → KOk K → LM m' 195 x K → (∀ b, LawL (mS m') (mR m') b → mI m' b 6 = mI p.1 4 6 → mI m' b 7 = mI p.1 4 7 → mI m' b 8 = mI p.1 4 8 → mI m' b 9 = mI p.1 4 9 → (∀ i, i < 12 → mI m' (b + 2) i = mI p.1 6 i ∧ mI m' (b + 3) i = mI p.1 7 i ∧ mI m' (b + 4) i = mI p.1 8 i ∧ mI m' (b + 5) i = mI p.1 9 i) → (∀ i, i < 400 → mI m' (b + 1) i = p.2.2.2.2.2 i) → LX m' b K) → Q (some (.int 0)) m')
    (k2 : p.2.2.2.1 ≠ 0 → ∀ m', FrR x m1 m' → Q (some (.int p.2.2.2.1)) m') : CC (d + 11) 220 [.ref 195, .int (nI x)] m1 Q := by
  have e := m2_S h1
  have hr := n_reads (d := d) (m := m1) (x := x) (z := z) (u := u) (T := rT m z) (mX := m) (Q := Q) (by rw [e.1, e.2.1]; exact hml) hx hu hz (by rw [h2 195 (by decide)]; exact ht) (fun i hi => by rw [h2 196 (by decide)]; exact (hb i hi).1) (fun i => by
    unfold rT
    by_cases hi : i < z
    · rw [if_pos hi, if_pos hi, h2 196 (by decide)]; exact (hb i hi).2
    · rw [if_neg hi, if_neg hi]) hX
  unfold rGo at hp
  rw [hp] at hr
  exact hr (fun hf m' K fr hK hM hXx => k1 hf m' K fr hK hM (fun b => hXx m' b)) k2
theorem rGo_pos (hp : rGo m z u = p) (hX : XB (rB0 m u) (rT m z) z) (hf : p.2.2.2.1 ≠ 0) : (p.2.2.2.1 ≤ 0) = False := by
  obtain ⟨n, hn, e⟩ := GQ_lp (u := u) 13 0 (rB0 m u) (rS0 m) hX ⟨Nat.zero_le _, Nat.zero_le _⟩ ⟨0, by decide, rfl⟩
  unfold rGo at hp
  rw [hp] at e
  rw [e] at hf ⊢
  have hn0 : n ≠ 0 := fun e2 => hf (by rw [e2]; rfl)
  show (nI n ≤ nI 0) = False
  exact nx_leF (by omega) (by omega)
theorem pub_furnace (h : Rel m) : PUB 143 221 [.ref 0] [.ref 195] m := by
  obtain ⟨nf, nm, G, hA, hT, hU, hL, hP, hI, hW, hS, hR⟩ := id h; obtain ⟨n, P, hM, hX, hG⟩ := id hP; have hx := hA.1.1; have hl := hA.2.1; have hp := hX.1; have hx1 := hA.1.2.1; have hx4 := hA.1.2.2.2.2.2.2.2.2.2.2; have hx86 := hA.1.2.2.2.2.2.1
  obtain ⟨z, z1, z2, z3, z4⟩ := id hT
  have hnf := hL.1.1
  obtain ⟨-, -, -, l4, l5, l6, l7⟩ := id hL
  have s1 : mS m 1 = (6, 6) := by simp only [hx]
  have s2 : mR m 1 0 = some 2 := by simp only [hx]
  have s3 : mR m 1 1 = some 4 := by simp only [hx]
  have s4 := hA.1.2.2.1
  have s5 : mS m 10 = (4, 2) := by simp only [hx]
  have s6 : mR m 10 0 = some (10 + 1) := by simp only [hx]
  have s7 : mS m (10 + 1) = (24, 4) := by simp only [hx, Nat.reduceAdd]
  refine PUB_mk fun Q1 h1 => ?_
  rw [nX11_furnace (d := 99)]
  by_cases full : nf = 4
  · subst full
    have hf := fun Q => x_full (e := 48) (ax := 1) (Q := Q) s1 s5 s6 s7 l4 (Nat.le_refl _) (by decide) (by decide)
    simp (config := {decide := true}) (disch := first | omega | assumption | (simp only [mS_cL, mS_cI, mS_cR, mR_cL, mR_cI]; first | assumption | exact hcr _ | fail)) only [tX11_furnace_0, tX11_furnace_1, tX11_furnace_4, tX11_furnace_5, tX11_furnace_8, tX11_furnace_9, tX11_furnace_12, jK_some, jK_none, jc1_int, jc1_ref, jc1_none, jc1_long, jc1_null, jc1_rf, va_rf_some, va_rf_none, mI_cI, mL_cL, mR_cR, cI_cI, cL_cL, jup_eq, jne_1, jne_2, Nat.add_left_cancel_iff, mL_cI, mR_cI, mS_cI, mN_cI, mI_cL, mR_cL, mS_cL, mN_cL, mI_cR, mL_cR, mS_cR, mN_cR, true_and, and_true, true_or, or_true, if_true, if_false, jBool_0, jBool_1, Nat.le_refl, Nat.reduceLeDiff, Nat.reduceEqDiff, Nat.reduceAdd, Nat.reduceSub, reduceIte, Int32.reduceLT, Int32.reduceLE, ne_eq, not_false_eq_true, not_true_eq_false, false_or, or_false, and_false, false_and, reduceCtorEq, jn_4, jn_6, jn_8, jn_9, jn_12, jn_60, jn_100, jn_200, jn_400, jn_600, jn_601, jn_3600, jI_4, jI_6, jI_8, jI_9, jI_12, jI_60, jI_100, jI_200, jI_400, jI_600, jI_601, jI_3600, va_cpy_00, jx_0, jx_6, jx_12, jx_400, jx_600, nI_1, hx, hf]
    apply h1; intro Q2 h2
    rw [nX12_furnace (d := 99)]; simp (config := {decide := true}) (disch := first | omega | assumption | (simp only [mS_cL, mS_cI, mS_cR, mR_cL, mR_cI]; first | assumption | exact hcr _ | fail)) only [tX12_furnace_0, tX12_furnace_1, tX12_furnace_4, tX12_furnace_5, tX12_furnace_8, tX12_furnace_9, tX12_furnace_10, tX12_furnace_11, tX12_furnace_12, tX12_furnace_15, tX12_furnace_18, tX12_furnace_19, tX12_furnace_20, tX12_furnace_23, tX12_furnace_25, tX12_furnace_26, tX12_furnace_27, tX12_furnace_28, tX12_furnace_29, tX12_furnace_30, tX12_furnace_33, tX12_furnace_34, tX12_furnace_35, tX12_furnace_38, tX12_furnace_39, tX12_furnace_42, tX12_furnace_43, tX12_furnace_44, jK_some, jK_none, jc1_int, jc1_ref, jc1_none, jc1_long, jc1_null, jc1_rf, va_rf_some, va_rf_none, mI_cI, mL_cL, mR_cR, cI_cI, cL_cL, jup_eq, jne_1, jne_2, Nat.add_left_cancel_iff, mL_cI, mR_cI, mS_cI, mN_cI, mI_cL, mR_cL, mS_cL, mN_cL, mI_cR, mL_cR, mS_cR, mN_cR, true_and, and_true, true_or, or_true, if_true, if_false, jBool_0, jBool_1, Nat.le_refl, Nat.reduceLeDiff, Nat.reduceEqDiff, Nat.reduceAdd, Nat.reduceSub, reduceIte, Int32.reduceLT, Int32.reduceLE, ne_eq, not_false_eq_true, not_true_eq_false, false_or, or_false, and_false, false_and, reduceCtorEq, jn_4, jn_6, jn_8, jn_9, jn_12, jn_60, jn_100, jn_200, jn_400, jn_600, jn_601, jn_3600, jI_4, jI_6, jI_8, jI_9, jI_12, jI_60, jI_100, jI_200, jI_400, jI_600, jI_601, jI_3600, va_cpy_00, jx_0, jx_6, jx_12, jx_400, jx_600, nI_1, nx_5e, nx_l6, nx_l12, nx_l100, nx_l200, nx_l400, nx_l600, nx_l601, nx_l3600, nx_pos, nx_posN, nx_neg1, nx_m1neg, nx_leF, nx_leT, nx_ltF, nx_ltT, nx_mul6, nI_add, nI_1, jx_nI, nx_4, nx_g4, nx_6, nx_g6, nx_8, nx_g8, nx_9, nx_g9, nx_12, nx_g12, nx_14, nx_g14, nx_60, nx_g60, nx_100, nx_g100, nx_200, nx_g200, nx_400, nx_g400, nx_600, nx_g600, nx_601, nx_g601, nx_3600, nx_g3600, jx_1, jx_2, jx_3, jx_4, jx_5, jx_7, jx_8, jx_9, jx_10, jx_11, jx_13, jx_14, jx_15, jx_16, jx_17, jx_18, jx_19, jx_20, jx_21, jx_22, jx_23, jx_24, jx_25, jx_26, jx_27, jx_28, jx_29, jx_30, jx_31, jx_32, jx_33, jx_34, jx_35, jx_36, jx_37, jx_38, jx_39, jx_40, jx_41, jx_42, nx_a2, nx_a3, nx_a4, nx_a5, nx_a6, nx_a7, nx_a8, nx_a9, nx_a10, nx_a11, nx_a12, nx_a13, nx_a14, nx_a15, nx_a16, nx_a17, nx_a18, nx_a19, nx_a20, nx_a21, nx_a22, nx_a23, nx_a24, nx_a25, nx_a26, nx_a27, nx_a28, nx_a29, nx_a30, nx_a31, nx_a32, nx_a33, nx_a34, nx_a35, nx_a36, nx_a37, nx_a38, nx_a39, nx_a40, nx_a41, jI_17, nx_17, jI_48, nx_48, jI_80, nx_80, jI_720, nx_720, jI_4800, nx_4800, jI_18220, nx_18220, jI_18030, nx_18030, nx_m2, nx_m5, nx_m6, nx_m16, nx_m60, nx_m400, nx_m3644, nx_m3606, hl, l6, show nI 4 = 4 from rfl]
    exact h2 m h
  have hn4 : nf < 4 := by omega
  obtain ⟨s8, s9⟩ := hA.1.2.2.2.1 nf hn4
  have hXB := XB_0 (x := 1) s1 s2 s3 hx1 s4 z1 z2
  obtain ⟨f1, f2⟩ := rEd_fr (m := m) (z := z) (u := 1)
  obtain ⟨f3, f4⟩ := rGo_S (m := m) (z := z) (u := 1)
  have hr := fun Q => x_readInto (e := 48) (Q := Q) (L := 10) (c := 4) (k := nf) (b := 12 + 6 * nf) (ax := 1) (by simp only [jBool_1]) s1 s2 s3 hx1 s4 z1 z2 s5 s6 s7 l4 hn4 (by decide) s8 s9 (by omega) (Or.inl (by omega)) (by decide) (by rw [f2 10 (by decide)]; exact l4) f3 f4
  have hpos := fun p hp hf => rGo_pos (p := p) hp hXB hf
  have hMr := fun p hpe m1 Q => M_rd (d := 88) (x := nf) (u := 1) (z := z) (m := m) (p := p) (m1 := m1) (Q := Q) hpe
  obtain ⟨p, hpe⟩ : ∃ p, rGo m z 1 = p := ⟨_, rfl⟩
  rw [hpe] at f1 f2 hr
  have hpos := hpos p hpe
  have hMr := fun m1 Q => hMr p hpe m1 Q
  clear f3 f4 hpe
  have hl4 : (nI nf = 4) = False := eq_false (fun e => full ((nI_eqI (b := 4) (by omega) (by decide)).mp e))
  simp (config := {decide := true}) (disch := first | omega | assumption | (simp only [mS_cL, mS_cI, mS_cR, mR_cL, mR_cI]; first | assumption | exact hcr _ | fail)) only [tX11_furnace_0, tX11_furnace_1, tX11_furnace_4, tX11_furnace_5, tX11_furnace_8, tX11_furnace_9, tX11_furnace_12, jK_some, jK_none, jc1_int, jc1_ref, jc1_none, jc1_long, jc1_null, jc1_rf, va_rf_some, va_rf_none, mI_cI, mL_cL, mR_cR, cI_cI, cL_cL, jup_eq, jne_1, jne_2, Nat.add_left_cancel_iff, mL_cI, mR_cI, mS_cI, mN_cI, mI_cL, mR_cL, mS_cL, mN_cL, mI_cR, mL_cR, mS_cR, mN_cR, true_and, and_true, true_or, or_true, if_true, if_false, jBool_0, jBool_1, Nat.le_refl, Nat.reduceLeDiff, Nat.reduceEqDiff, Nat.reduceAdd, Nat.reduceSub, reduceIte, Int32.reduceLT, Int32.reduceLE, ne_eq, not_false_eq_true, not_true_eq_false, false_or, or_false, and_false, false_and, reduceCtorEq, jn_4, jn_6, jn_8, jn_9, jn_12, jn_60, jn_100, jn_200, jn_400, jn_600, jn_601, jn_3600, jI_4, jI_6, jI_8, jI_9, jI_12, jI_60, jI_100, jI_200, jI_400, jI_600, jI_601, jI_3600, va_cpy_00, jx_0, jx_6, jx_12, jx_400, jx_600, nI_1, hx, hr]
  by_cases hf : p.2.2.2.1 = 0
  · rw [if_pos hf]
    show Q1 (some (.int (nI nf))) (xS p 10 (12 + 6 * nf) nf)
    apply h1; intro Q2 h2
    have m1e : (xS p 10 (12 + 6 * nf) nf).2 = m.2 := xS_2.trans f1
    have m1c : ∀ c, (c = 0 ∨ c = 3 ∨ 9 < c) → c ≠ 10 → (c < 12 + 6 * nf ∨ 12 + 6 * nf + 5 < c) → mI (xS p 10 (12 + 6 * nf) nf) c = mI m c := fun c a1 a2 a3 => (xS_ne a2 a3).trans (f2 c a1)
    have m12 : mI (xS p 10 (12 + 6 * nf) nf) 2 1 = 0 := by rw [xS_ne (by decide) (by omega)]; exact rEd_21
    have m1L := xS_L (p := p) (L := 10) (b := 12 + 6 * nf) (k := nf)
    obtain ⟨⟨q1, q2, q3, q4⟩, q5, q6⟩ := xS_law (p := p) (L := 10) (b := 12 + 6 * nf) (k := nf) (Or.inl (by omega)) (by omega)
    generalize xS p 10 (12 + 6 * nf) nf = m1 at *
    have e := m2_S m1e
    have hl1 : MLay (mS m1) (mR m1) 195 := by rw [e.1, e.2.1]; exact hl
    have l61 : mI m1 195 9 = nI nf := by rw [m1c 195 (by decide) (by decide) (by omega)]; exact l6
    rw [nX12_furnace (d := 99)]
    simp (config := {decide := true}) (disch := first | omega | assumption | (simp only [mS_cL, mS_cI, mS_cR, mR_cL, mR_cI]; first | assumption | exact hcr _ | fail)) only [tX12_furnace_0, tX12_furnace_1, tX12_furnace_4, tX12_furnace_5, tX12_furnace_8, tX12_furnace_9, tX12_furnace_10, tX12_furnace_11, tX12_furnace_12, tX12_furnace_15, jK_some, jK_none, jc1_int, jc1_ref, jc1_none, jc1_long, jc1_null, jc1_rf, va_rf_some, va_rf_none, mI_cI, mL_cL, mR_cR, cI_cI, cL_cL, jup_eq, jne_1, jne_2, Nat.add_left_cancel_iff, mL_cI, mR_cI, mS_cI, mN_cI, mI_cL, mR_cL, mS_cL, mN_cL, mI_cR, mL_cR, mS_cR, mN_cR, true_and, and_true, true_or, or_true, if_true, if_false, jBool_0, jBool_1, Nat.le_refl, Nat.reduceLeDiff, Nat.reduceEqDiff, Nat.reduceAdd, Nat.reduceSub, reduceIte, Int32.reduceLT, Int32.reduceLE, ne_eq, not_false_eq_true, not_true_eq_false, false_or, or_false, and_false, false_and, reduceCtorEq, jn_4, jn_6, jn_8, jn_9, jn_12, jn_60, jn_100, jn_200, jn_400, jn_600, jn_601, jn_3600, jI_4, jI_6, jI_8, jI_9, jI_12, jI_60, jI_100, jI_200, jI_400, jI_600, jI_601, jI_3600, va_cpy_00, jx_0, jx_6, jx_12, jx_400, jx_600, nI_1, hl1, l61, hl4]
    refine hMr _ _ m1e (fun c hc => m1c c (by omega) (by omega) (by omega)) hl (by omega) ⟨fun e => absurd e (by decide), fun e => absurd hn4 e⟩ z1 z3 z4 hXB (fun _ m' K fr hK hM hXx => ?_) (fun hf2 => absurd hf hf2)
    have e' := m2_S (fr.1.trans m1e)
    have hl' : MLay (mS m') (mR m') 195 := by rw [e'.1, e'.2.1]; exact hl
    have l6' : mI m' 195 9 = nI nf := (fr.2.2.1 9 (by decide) (by decide) (by decide) (by decide)).trans l61
    have cX : ∀ j, 12 + 6 * nf ≤ j → j ≤ 12 + 6 * nf + 5 → mI m' j = mI m1 j := fun j a1 a2 => fr.2.1 j (by omega) (by omega)
    have hLX : LX m' (12 + 6 * nf) K := by
      refine hXx (12 + 6 * nf) (by rw [e'.1, e'.2.1]; exact s9) ?_ ?_ ?_ ?_ (fun i hi => ?_) (fun i hi => ?_)
      · rw [cX _ (by omega) (by omega)]; exact q1
      · rw [cX _ (by omega) (by omega)]; exact q2
      · rw [cX _ (by omega) (by omega)]; exact q3
      · rw [cX _ (by omega) (by omega)]; exact q4
      · rw [cX _ (by omega) (by omega), cX _ (by omega) (by omega), cX _ (by omega) (by omega), cX _ (by omega) (by omega)]; exact q5 i hi
      · rw [cX _ (by omega) (by omega)]; exact q6 i hi
    have hRL := RL_fur m1e (fun c a1 a2 a3 => m1c c (by omega) a2 a3) m1L hn4 fr hK hM hLX hL
    have hF2 := Fr2_put (v := nI (nf + 1)) (q := 9) (Fr2_of m1e (fun c hc => m1c c (by omega) (by omega) (by omega)) fr) (Or.inl rfl)
    have hRT : RT (cI m' 195 (jup (mI m' 195) 9 (nI (nf + 1)))) := RT_0 (by rw [mI_ne (by decide), fr.2.1 2 (by decide) (by decide)]; exact m12) (by rw [mI_same, jup_ne (by decide)]; exact fr.2.2.2.1)
    have hRel := Rel_rd hF2 hRT hRL (Nat.le_succ nf) (Nat.le_refl nm) hA hU hP hI hW hS hR
    simp (config := {decide := true}) (disch := first | omega | assumption | (simp only [mS_cL, mS_cI, mS_cR, mR_cL, mR_cI]; first | assumption | exact hcr _ | fail)) only [tX12_furnace_18, tX12_furnace_19, tX12_furnace_20, tX12_furnace_23, tX12_furnace_25, tX12_furnace_26, tX12_furnace_27, tX12_furnace_28, tX12_furnace_29, tX12_furnace_30, tX12_furnace_33, tX12_furnace_34, tX12_furnace_35, tX12_furnace_38, tX12_furnace_39, tX12_furnace_42, tX12_furnace_43, tX12_furnace_44, jK_some, jK_none, jc1_int, jc1_ref, jc1_none, jc1_long, jc1_null, jc1_rf, va_rf_some, va_rf_none, mI_cI, mL_cL, mR_cR, cI_cI, cL_cL, jup_eq, jne_1, jne_2, Nat.add_left_cancel_iff, mL_cI, mR_cI, mS_cI, mN_cI, mI_cL, mR_cL, mS_cL, mN_cL, mI_cR, mL_cR, mS_cR, mN_cR, true_and, and_true, true_or, or_true, if_true, if_false, jBool_0, jBool_1, Nat.le_refl, Nat.reduceLeDiff, Nat.reduceEqDiff, Nat.reduceAdd, Nat.reduceSub, reduceIte, Int32.reduceLT, Int32.reduceLE, ne_eq, not_false_eq_true, not_true_eq_false, false_or, or_false, and_false, false_and, reduceCtorEq, jn_4, jn_6, jn_8, jn_9, jn_12, jn_60, jn_100, jn_200, jn_400, jn_600, jn_601, jn_3600, jI_4, jI_6, jI_8, jI_9, jI_12, jI_60, jI_100, jI_200, jI_400, jI_600, jI_601, jI_3600, va_cpy_00, jx_0, jx_6, jx_12, jx_400, jx_600, nI_1, hl', l6', nI_1, nI_pred]
    exact h2 _ hRel
  · rw [if_neg hf]
    have hpos := hpos hf
    show Q1 (some (.int (-2 - p.2.2.2.1))) (rEd p)
    apply h1; intro Q2 h2
    have m12 : mI (rEd p) 2 1 = 0 := rEd_21
    have e := m2_S f1
    have hl1 : MLay (mS (rEd p)) (mR (rEd p)) 195 := by rw [e.1, e.2.1]; exact hl
    have l61 : mI (rEd p) 195 9 = nI nf := by rw [f2 195 (by decide)]; exact l6
    rw [nX12_furnace (d := 99)]
    simp (config := {decide := true}) (disch := first | omega | assumption | (simp only [mS_cL, mS_cI, mS_cR, mR_cL, mR_cI]; first | assumption | exact hcr _ | fail)) only [tX12_furnace_0, tX12_furnace_1, tX12_furnace_4, tX12_furnace_5, tX12_furnace_8, tX12_furnace_9, tX12_furnace_10, tX12_furnace_11, tX12_furnace_12, tX12_furnace_15, jK_some, jK_none, jc1_int, jc1_ref, jc1_none, jc1_long, jc1_null, jc1_rf, va_rf_some, va_rf_none, mI_cI, mL_cL, mR_cR, cI_cI, cL_cL, jup_eq, jne_1, jne_2, Nat.add_left_cancel_iff, mL_cI, mR_cI, mS_cI, mN_cI, mI_cL, mR_cL, mS_cL, mN_cL, mI_cR, mL_cR, mS_cR, mN_cR, true_and, and_true, true_or, or_true, if_true, if_false, jBool_0, jBool_1, Nat.le_refl, Nat.reduceLeDiff, Nat.reduceEqDiff, Nat.reduceAdd, Nat.reduceSub, reduceIte, Int32.reduceLT, Int32.reduceLE, ne_eq, not_false_eq_true, not_true_eq_false, false_or, or_false, and_false, false_and, reduceCtorEq, jn_4, jn_6, jn_8, jn_9, jn_12, jn_60, jn_100, jn_200, jn_400, jn_600, jn_601, jn_3600, jI_4, jI_6, jI_8, jI_9, jI_12, jI_60, jI_100, jI_200, jI_400, jI_600, jI_601, jI_3600, va_cpy_00, jx_0, jx_6, jx_12, jx_400, jx_600, nI_1, hl1, l61, hl4]
    refine hMr _ _ f1 (fun c hc => f2 c (by omega)) hl (by omega) ⟨fun e => absurd e (by decide), fun e => absurd hn4 e⟩ z1 z3 z4 hXB (fun hf2 => absurd hf2 hf) (fun _ m' fr => ?_)
    have hRL := RL_fail f1 (fun c hc => f2 c (by omega)) fr ⟨Nat.le_refl _, Or.inl hn4⟩ hL
    have hF2 := Fr2_of f1 (fun c hc => f2 c (by omega)) fr
    have hRT : RT m' := RT_0 (by rw [fr.2.1 2 (by decide) (by decide)]; exact m12) fr.2.2.2.1
    have hRel := Rel_rd hF2 hRT hRL (Nat.le_refl nf) (Nat.le_refl nm) hA hU hP hI hW hS hR
    simp (config := {decide := true}) (disch := first | omega | assumption | (simp only [mS_cL, mS_cI, mS_cR, mR_cL, mR_cI]; first | assumption | exact hcr _ | fail)) only [tX12_furnace_18, tX12_furnace_19, tX12_furnace_20, tX12_furnace_23, tX12_furnace_25, tX12_furnace_26, tX12_furnace_27, jK_some, jK_none, jc1_int, jc1_ref, jc1_none, jc1_long, jc1_null, jc1_rf, va_rf_some, va_rf_none, mI_cI, mL_cL, mR_cR, cI_cI, cL_cL, jup_eq, jne_1, jne_2, Nat.add_left_cancel_iff, mL_cI, mR_cI, mS_cI, mN_cI, mI_cL, mR_cL, mS_cL, mN_cL, mI_cR, mL_cR, mS_cR, mN_cR, true_and, and_true, true_or, or_true, if_true, if_false, jBool_0, jBool_1, Nat.le_refl, Nat.reduceLeDiff, Nat.reduceEqDiff, Nat.reduceAdd, Nat.reduceSub, reduceIte, Int32.reduceLT, Int32.reduceLE, ne_eq, not_false_eq_true, not_true_eq_false, false_or, or_false, and_false, false_and, reduceCtorEq, jn_4, jn_6, jn_8, jn_9, jn_12, jn_60, jn_100, jn_200, jn_400, jn_600, jn_601, jn_3600, jI_4, jI_6, jI_8, jI_9, jI_12, jI_60, jI_100, jI_200, jI_400, jI_600, jI_601, jI_3600, va_cpy_00, jx_0, jx_6, jx_12, jx_400, jx_600, nI_1, hpos]
    exact h2 _ hRel
end RDK
