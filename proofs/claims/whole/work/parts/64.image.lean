/-! ===== what changes, in general; pots that agree on what is read ===== -/
section IMG
variable {m m' : jmM} {nf nm n : Nat} {G : Nat → KLaw} {P P' : Pt} {a d k : Nat} {Q : Option Value → jmM → Prop}
/-- all but the pots, the images, what is told and the scratch stands as it was -/
def Fx (m m' : jmM) : Prop := mS m' = mS m ∧ mN m' = mN m ∧ mZ m' = mZ m ∧ RK m m' ∧ mI m' 119 0 = 0 ∧ (∃ t, mI m' 86 2 = nI t) ∧ (∃ t, mI m' 195 21 = nI t) ∧ (∀ k, k = 1 ∨ k = 9 ∨ k = 10 ∨ k = 32 ∨ k = 37 ∨ k = 47 → mI m' 195 k = mI m 195 k) ∧ mI m' 0 12 = mI m 0 12 ∧ mI m' 0 18 = mI m 0 18 ∧ mI m' 121 4 = mI m 121 4 ∧ ∀ b, (1 ≤ b ∧ b < 86) ∨ (122 ≤ b ∧ b ≤ 125) ∨ b = 129 ∨ b = 130 ∨ (187 ≤ b ∧ b < 195) ∨ (196 ≤ b ∧ b ≤ 203) ∨ b = 215 ∨ b = 219 ∨ b = 223 → mI m' b = mI m b
theorem Rel_Fx (f : Fx m m') (hA : RA m) (hT : RT m) (hL : RLw nf nm G m) (hW : RW m) (hS : RS1 m) (hR : RR m) (hU : RU m') (hP : RP nf nm m') (hI : RI nf nm m') : Rel m' := by
  obtain ⟨f1, f2, f3, f4, f5, f6, f7, f8, f9, f10, f11, f12⟩ := f
  refine ⟨nf, nm, G, RA_frk f1 f4 f2 f3 f5 f6 f7 hA, RT_fr ?_ ?_ ?_ ?_ hT, hU, RL_frk f1 f4 ?_ ?_ ?_ ?_ ?_ ?_ hL, hP, hI, RW_fr f9 ?_ ?_ ?_ hW, RS_fr f11 ?_ ?_ ?_ hS, RR_fr f10 ?_ ?_ ?_ ?_ hR⟩
  all_goals first | exact f8 _ (by omega) | exact f12 _ (by omega) | exact congrFun (f12 _ (by omega)) _ | (intro j a b; exact f12 j (by omega))
theorem RU_k (h1 : ∀ k, k < 6 → mI m' 89 k = mI m 89 k ∧ mI m' 90 k = mI m 90 k ∧ mI m' 207 k = mI m 207 k ∧ mI m' 208 k = mI m 208 k) (h5 : mI m' 0 7 = mI m 0 7) (h6 : mI m' 195 31 = mI m 195 31) (h : RU m) : RU m' := by
  unfold RU at h ⊢
  rw [h5, h6]
  refine ⟨fun k hk => ?_, h.2⟩
  obtain ⟨e1, e2, e3, e4⟩ := h1 k hk
  rw [e1, e2, e3, e4]
  exact h.1 k hk
/-- two pots that agree on all that is read -/
def PE (n : Nat) (P P' : Pt) : Prop := (∀ i, i < 17 → qS P' i = qS P i) ∧ (∀ k, k < 6 → qU P' k = qU P k ∧ qH P' k = qH P k ∧ qM P' k = qM P k) ∧ ∀ i, i < 6 * n → qR P' i = qR P i ∧ qB P' i = qB P i
theorem kLA_eqv (h : PE n P P') (r : Nat) : kLA P' n r = kLA P n r := by
  unfold kLA
  by_cases hr : r < n
  · rw [if_pos hr, if_pos hr, (h.2.2 (6 * r + 4) (by omega)).1]
  · rw [if_neg hr, if_neg hr, h.1 9 (by omega)]
theorem GP_eqv (h : PE n P P') (hG : GP nf nm n P) : GP nf nm n P' := by
  have s : ∀ i, i < 17 → qS P' i = qS P i := h.1
  have la := kLA_eqv h
  obtain ⟨g1, g2, g3⟩ := hG
  refine ⟨(s 15 (by decide)).trans g1, g2, ?_⟩
  rcases g3 with ⟨c1, c2, c3, c4⟩ | ⟨c1, c2, c3, c4, c5, c6, c7, c8, c9⟩
  · refine Or.inl ⟨(s 0 (by decide)).trans c1, c2, fun i hi => (s i hi).trans (c3 i hi), fun k hk => ((h.2.1 k hk).2.2).trans (c4 k hk)⟩
  · refine Or.inr ⟨by rw [s 0 (by decide)]; exact c1, by rw [s 1 (by decide)]; exact c2, by rw [s 2 (by decide)]; exact c3, ?_, ?_, ?_, ?_, ?_, ?_⟩
    · unfold GS1 at c4 ⊢
      rw [s 3 (by decide), s 4 (by decide), s 5 (by decide), s 6 (by decide), s 7 (by decide), s 8 (by decide)]
      exact c4
    · unfold GS2 at c5 ⊢
      rw [s 10 (by decide), s 11 (by decide), s 12 (by decide), s 14 (by decide), s 16 (by decide)]
      exact c5
    · rw [s 0 (by decide), s 9 (by decide), s 14 (by decide), s 7 (by decide)]
      exact c6
    · rw [la, s 3 (by decide)]; exact c7
    · intro r hr
      have := c8 r hr
      unfold GRw at this ⊢
      rw [la, la, (h.2.2 (6 * r) (by omega)).1, (h.2.2 (6 * r + 1) (by omega)).1, (h.2.2 (6 * r + 2) (by omega)).1, (h.2.2 (6 * r + 3) (by omega)).1, (h.2.2 (6 * r + 5) (by omega)).1]
      exact this
    · intro k hk
      obtain ⟨e1, e2, e3⟩ := h.2.1 k hk
      have := c9 k hk
      unfold GSt at this ⊢
      rw [e1, e2, e3, s 14 (by decide), isum_congr (f := fun r => (qB P' (6 * r + k)).toInt) (g := fun r => (qB P (6 * r + k)).toInt) n (fun r hr => by show (qB P' (6 * r + k)).toInt = (qB P (6 * r + k)).toInt; rw [(h.2.2 (6 * r + k) (by omega)).2])]
      refine ⟨this.1, this.2.1, this.2.2.1, fun r hr => ?_, this.2.2.2.2⟩
      rw [(h.2.2 (6 * r + k) (by omega)).2]
      exact this.2.2.2.1 r hr
theorem XPot_eqv (h : PE n P P') (hn : qS P 15 = nI n) (h6 : n ≤ 600) (hX : XPot m a P) : XPot m a P' := by
  have s : ∀ i, i < 17 → qS P' i = qS P i := h.1
  obtain ⟨p, ⟨⟨s3, s5, s6, s7, s8, s9, s10, s11⟩, s4, ⟨t0, t1, t2, t3, t4, t5⟩, sr⟩, r1, r2⟩ := hX
  refine ⟨p, ⟨⟨?_, ?_, ?_, ?_, ?_, ?_, ?_, ?_⟩, ?_, ⟨?_, ?_, ?_, ?_, ?_, ?_⟩, ?_⟩, ?_, ?_⟩
  · rw [s 0 (by decide)]; exact s3
  · rw [s 9 (by decide)]; exact s5
  · rw [s 10 (by decide)]; exact s6
  · rw [s 11 (by decide)]; exact s7
  · rw [s 12 (by decide)]; exact s8
  · rw [s 13 (by decide)]; exact s9
  · rw [s 14 (by decide)]; exact s10
  · rw [s 15 (by decide)]; exact s11
  · rw [s 16 (by decide)]; exact s4
  · rw [s 3 (by decide)]; exact t0
  · rw [s 4 (by decide)]; exact t1
  · rw [s 5 (by decide)]; exact t2
  · rw [s 6 (by decide)]; exact t3
  · rw [s 7 (by decide)]; exact t4
  · rw [s 8 (by decide)]; exact t5
  · rw [s 0 (by decide), s 1 (by decide), s 2 (by decide)]; exact sr
  · intro k hk
    obtain ⟨e1, e2, e3⟩ := h.2.1 k hk
    rw [e1, e2, e3]; exact r1 k hk
  · intro r hr
    rw [s 15 (by decide)] at hr
    have hr' : r < n := by rw [hn, jx_nI (by omega)] at hr; exact hr
    have := r2 r hr
    rw [(h.2.2 (6 * r) (by omega)).1, (h.2.2 (6 * r + 1) (by omega)).1, (h.2.2 (6 * r + 2) (by omega)).1, (h.2.2 (6 * r + 3) (by omega)).1, (h.2.2 (6 * r + 5) (by omega)).1]
    refine ⟨this.1, fun k hk => ?_⟩
    rw [(h.2.2 (6 * r + k) (by omega)).2]
    exact this.2 k hk
/-! ===== images ===== -/
theorem c_copyStuffs {p q : Nat} (hp : mS m p = (20, 6)) (hq : mS m q = (20, 6)) (h : p ≠ q) : CC (d + 1) 23 [.ref p, .ref q] m Q ↔ Q none (cI m q (jfor (fun k M => jup M k (mI m p k)) 0 6 (mI m q))) := by
  rw [nX2_copyStuffs]
  simp (config := {decide := true}) (disch := first | omega | assumption | (simp only [mS_cL, mS_cI, mS_cR, mR_cL, mR_cI]; first | assumption | exact hcr _ | fail)) only [tX2_copyStuffs_0, tX2_copyStuffs_1, tX2_copyStuffs_3, tX2_copyStuffs_4, tX2_copyStuffs_5, tX2_copyStuffs_8, tX2_copyStuffs_9, tX2_copyStuffs_10, tX2_copyStuffs_11, tX2_copyStuffs_14, tX2_copyStuffs_15, tX2_copyStuffs_16, tX2_copyStuffs_17, tX2_copyStuffs_18, tX2_copyStuffs_19, tX2_copyStuffs_20, tX2_copyStuffs_23, tX2_copyStuffs_26, jK_some, jK_none, jc1_int, jc1_ref, jc1_none, jc1_long, jc1_null, jc1_rf, va_rf_some, va_rf_none, mI_cI, mL_cL, mR_cR, cI_cI, cL_cL, jup_eq, jne_1, jne_2, Nat.add_left_cancel_iff, mL_cI, mR_cI, mS_cI, mN_cI, mI_cL, mR_cL, mS_cL, mN_cL, mI_cR, mL_cR, mS_cR, mN_cR, true_and, and_true, true_or, or_true, if_true, if_false, jBool_0, jBool_1, Nat.le_refl, Nat.reduceLeDiff, Nat.reduceEqDiff, Nat.reduceAdd, Nat.reduceSub, reduceIte, Int32.reduceLT, Int32.reduceLE, ne_eq, not_false_eq_true, not_true_eq_false, false_or, or_false, and_false, false_and, reduceCtorEq, jn_4, jn_6, jn_8, jn_9, jn_12, jn_60, jn_100, jn_200, jn_400, jn_600, jn_601, jn_3600, jI_4, jI_6, jI_8, jI_9, jI_12, jI_60, jI_100, jI_200, jI_400, jI_600, jI_601, jI_3600, va_cpy_00, jx_0, jx_6, jx_12, jx_400, jx_600, nI_1]
  refine Iff.trans (show AW d 23 2 _ [] _ Q ↔ AW d 23 2 [some (.ref p), some (.ref q), some (.int 0)] [] (cI m q (mI m q)) Q by rw [cI_eta]) ?_
  refine loop_iff (n := 6) (P := fun k F => AW d 23 2 [some (.ref p), some (.ref q), some (.int (nI k))] [] (cI m q F) Q) (E := fun F => Q none (cI m q F)) (fun k M => jup M k (mI m p k)) ?_ ?_ 6 0 (mI m q) (by omega)
  · intro k F hk
    rw [tX2_copyStuffs_2]
    simp (config := {decide := true}) (disch := first | omega | assumption) only [tX2_copyStuffs_0, tX2_copyStuffs_1, tX2_copyStuffs_3, tX2_copyStuffs_4, tX2_copyStuffs_5, tX2_copyStuffs_8, tX2_copyStuffs_9, tX2_copyStuffs_10, tX2_copyStuffs_11, tX2_copyStuffs_14, tX2_copyStuffs_15, tX2_copyStuffs_16, tX2_copyStuffs_17, tX2_copyStuffs_18, tX2_copyStuffs_19, tX2_copyStuffs_20, tX2_copyStuffs_23, tX2_copyStuffs_26, jK_some, jK_none, jc1_int, jc1_ref, jc1_none, jc1_long, jc1_null, jc1_rf, va_rf_some, va_rf_none, mI_same, mL_same, mR_same, mI_ne, mL_ne, mR_ne, cI_cI, cL_cL, jup_eq, mL_cI, mR_cI, mS_cI, mN_cI, mI_cL, mR_cL, mS_cL, mN_cL, mI_cR, mL_cR, mS_cR, mN_cR, true_and, and_true, true_or, or_true, if_true, if_false, jBool_0, jBool_1, Nat.le_refl, Nat.reduceLeDiff, Nat.reduceEqDiff, Nat.reduceAdd, Nat.reduceSub, reduceIte, Int32.reduceLT, Int32.reduceLE, ne_eq, not_false_eq_true, not_true_eq_false, false_or, or_false, and_false, false_and, reduceCtorEq, jn_4, jn_6, jn_8, jn_9, jn_12, jn_60, jn_100, jn_200, jn_400, jn_600, jn_601, jn_3600, jI_4, jI_6, jI_8, jI_9, jI_12, jI_60, jI_100, jI_200, jI_400, jI_600, jI_601, jI_3600, va_cpy_00, jx_0, jx_6, jx_12, jx_400, jx_600, nI_1, hp, hq, h, nx_5e, nx_l6, nx_l12, nx_l100, nx_l200, nx_l400, nx_l600, nx_l601, nx_l3600, nx_pos, nx_posN, nx_neg1, nx_m1neg, nx_leF, nx_leT, nx_ltF, nx_ltT, nx_mul6, nI_add, nI_1, jx_nI, nx_4, nx_g4, nx_6, nx_g6, nx_8, nx_g8, nx_9, nx_g9, nx_12, nx_g12, nx_14, nx_g14, nx_60, nx_g60, nx_100, nx_g100, nx_200, nx_g200, nx_400, nx_g400, nx_600, nx_g600, nx_601, nx_g601, nx_3600, nx_g3600]
    done
  · intro F
    rw [tX2_copyStuffs_2]
    simp (config := {decide := true}) (disch := first | omega | assumption) only [tX2_copyStuffs_0, tX2_copyStuffs_1, tX2_copyStuffs_3, tX2_copyStuffs_4, tX2_copyStuffs_5, tX2_copyStuffs_8, tX2_copyStuffs_9, tX2_copyStuffs_10, tX2_copyStuffs_11, tX2_copyStuffs_14, tX2_copyStuffs_15, tX2_copyStuffs_16, tX2_copyStuffs_17, tX2_copyStuffs_18, tX2_copyStuffs_19, tX2_copyStuffs_20, tX2_copyStuffs_23, tX2_copyStuffs_26, jK_some, jK_none, jc1_int, jc1_ref, jc1_none, jc1_long, jc1_null, jc1_rf, va_rf_some, va_rf_none, mI_same, mL_same, mR_same, mI_ne, mL_ne, mR_ne, cI_cI, cL_cL, jup_eq, mL_cI, mR_cI, mS_cI, mN_cI, mI_cL, mR_cL, mS_cL, mN_cL, mI_cR, mL_cR, mS_cR, mN_cR, true_and, and_true, true_or, or_true, if_true, if_false, jBool_0, jBool_1, Nat.le_refl, Nat.reduceLeDiff, Nat.reduceEqDiff, Nat.reduceAdd, Nat.reduceSub, reduceIte, Int32.reduceLT, Int32.reduceLE, ne_eq, not_false_eq_true, not_true_eq_false, false_or, or_false, and_false, false_and, reduceCtorEq, jn_4, jn_6, jn_8, jn_9, jn_12, jn_60, jn_100, jn_200, jn_400, jn_600, jn_601, jn_3600, jI_4, jI_6, jI_8, jI_9, jI_12, jI_60, jI_100, jI_200, jI_400, jI_600, jI_601, jI_3600, va_cpy_00, jx_0, jx_6, jx_12, jx_400, jx_600, nI_1, hp, hq, nx_5e, nx_l6, nx_l12, nx_l100, nx_l200, nx_l400, nx_l600, nx_l601, nx_l3600, nx_pos, nx_posN, nx_neg1, nx_m1neg, nx_leF, nx_leT, nx_ltF, nx_ltT, nx_mul6, nI_add, nI_1, jx_nI, nx_4, nx_g4, nx_6, nx_g6, nx_8, nx_g8, nx_9, nx_g9, nx_12, nx_g12, nx_14, nx_g14, nx_60, nx_g60, nx_100, nx_g100, nx_200, nx_g200, nx_400, nx_g400, nx_600, nx_g600, nx_601, nx_g601, nx_3600, nx_g3600]
    done
theorem X_take {t : Int32} (hS0 : mS m a = (2, 5)) (hR0 : mR m a 0 = some (a + 1) ∧ mR m a 1 = some (a + 12) ∧ mR m a 2 = some (a + 13)) (hp : PotL (mS m) (mR m) (a + 1)) (h2 : mS m (a + 12) = (20, 6)) (h3 : mS m (a + 13) = (20, 6)) (h89 : mS m 89 = (20, 6)) (h90 : mS m 90 = (20, 6)) (ha : 131 ≤ a) (hX : XPot m 91 P) (hG : GP nf nm n P) : ∃ m', CE (d + 5) 19 [.ref a, .ref 91, .int t, .ref 89, .ref 90] m none m' ∧ XPot m' (a + 1) P ∧ (mS m' = mS m ∧ mN m' = mN m ∧ mZ m' = mZ m) ∧ (∀ c, c ≠ a + 1 → mR m' c = mR m c) ∧ mR m' (a + 1) = jup (jup (mR m (a + 1)) 1 (mR m 91 1)) 2 (mR m 91 2) ∧ (∀ i, i < 6 → mI m' (a + 12) i = mI m 89 i ∧ mI m' (a + 13) i = mI m 90 i) ∧ mI m' a = jup (jup (mI m a) 3 t) 4 1 ∧ (∀ c, c < a ∨ a + 13 < c → mI m' c = mI m c) ∧ ∀ c, c < a ∨ a + 13 < c → mL m' c = mL m c := by
  obtain ⟨m1, c1, c2, e1, e2, e3, e4, e5, e6, e7⟩ := X_becomeLike (d := d) (a := a + 1) (b := 91) hp hX hG (by omega)
  have k1 := fun Q => c_copyStuffs (d := d + 3) (m := m1) (p := 89) (q := a + 12) (Q := Q) (by rw [e1]; exact h89) (by rw [e1]; exact h2) (by omega)
  obtain ⟨m2, hm2⟩ : ∃ m2, cI m1 (a + 12) (jfor (fun k M => jup M k (mI m1 89 k)) 0 6 (mI m1 (a + 12))) = m2 := ⟨_, rfl⟩
  have k2 := fun Q => c_copyStuffs (d := d + 3) (m := m2) (p := 90) (q := a + 13) (Q := Q) (by rw [← hm2]; show mS m1 90 = _; rw [e1]; exact h90) (by rw [← hm2]; show mS m1 (a + 13) = _; rw [e1]; exact h3) (by omega)
  obtain ⟨m3, hm3⟩ : ∃ m3, cI m2 (a + 13) (jfor (fun k M => jup M k (mI m2 90 k)) 0 6 (mI m2 (a + 13))) = m3 := ⟨_, rfl⟩
  have s3 : mS m3 = mS m := by rw [← hm3, ← hm2]; exact e1
  have r3 : mR m3 = mR m1 := by rw [← hm3, ← hm2]; rfl
  have i3 : ∀ b, b ≠ a + 12 → b ≠ a + 13 → mI m3 b = mI m1 b := fun b hb hc => by rw [← hm3, mI_ne hc, ← hm2, mI_ne hb]
  have l3 : mL m3 = mL m1 := by rw [← hm3, ← hm2]; rfl
  have v12 : ∀ i, i < 6 → mI m3 (a + 12) i = mI m 89 i := fun i hi => by rw [← hm3, mI_ne (by omega), ← hm2, mI_same, jcopy, if_pos (by omega), e6 89 (by omega)]
  have v13 : ∀ i, i < 6 → mI m3 (a + 13) i = mI m 90 i := fun i hi => by rw [← hm3, mI_same, jcopy, if_pos (by omega), ← hm2, mI_ne (by omega), e6 90 (by omega)]
  have ea : mR m1 a = mR m a := e4 a (by omega)
  refine ⟨cI m3 a (jup (jup (mI m a) 3 t) 4 1), CE.of fun Q => ?_, ?_, ⟨s3, ?_, ?_⟩, ?_, ?_, ?_, ?_, ?_, ?_⟩
  · rw [nX2_take]
    simp (config := {decide := true}) (disch := first | omega | assumption | (simp only [mS_cL, mS_cI, mS_cR, mR_cL, mR_cI]; first | assumption | exact hcr _ | fail)) only [tX2_take_0, tX2_take_1, tX2_take_4, tX2_take_5, tX2_take_8, tX2_take_9, tX2_take_10, tX2_take_13, tX2_take_16, tX2_take_18, tX2_take_19, tX2_take_22, tX2_take_25, tX2_take_26, tX2_take_27, tX2_take_30, tX2_take_31, tX2_take_32, tX2_take_35, jK_some, jK_none, jc1_int, jc1_ref, jc1_none, jc1_long, jc1_null, jc1_rf, va_rf_some, va_rf_none, mI_cI, mL_cL, mR_cR, cI_cI, cL_cL, jup_eq, jne_1, jne_2, Nat.add_left_cancel_iff, mL_cI, mR_cI, mS_cI, mN_cI, mI_cL, mR_cL, mS_cL, mN_cL, mI_cR, mL_cR, mS_cR, mN_cR, true_and, and_true, true_or, or_true, if_true, if_false, jBool_0, jBool_1, Nat.le_refl, Nat.reduceLeDiff, Nat.reduceEqDiff, Nat.reduceAdd, Nat.reduceSub, reduceIte, Int32.reduceLT, Int32.reduceLE, ne_eq, not_false_eq_true, not_true_eq_false, false_or, or_false, and_false, false_and, reduceCtorEq, jn_4, jn_6, jn_8, jn_9, jn_12, jn_60, jn_100, jn_200, jn_400, jn_600, jn_601, jn_3600, jI_4, jI_6, jI_8, jI_9, jI_12, jI_60, jI_100, jI_200, jI_400, jI_600, jI_601, jI_3600, va_cpy_00, jx_0, jx_6, jx_12, jx_400, jx_600, nI_1, hS0, hR0, c1.iff, e1, ea, hp]
    rw [k1, hm2]
    have s2 : mS m2 = mS m := by rw [← hm2]; exact e1
    have r2 : mR m2 a = mR m a := by rw [← hm2]; exact ea
    simp (config := {decide := true}) (disch := first | omega | assumption | (simp only [mS_cL, mS_cI, mS_cR, mR_cL, mR_cI]; first | assumption | exact hcr _ | fail)) only [tX2_take_0, tX2_take_1, tX2_take_4, tX2_take_5, tX2_take_8, tX2_take_9, tX2_take_10, tX2_take_13, tX2_take_16, tX2_take_18, tX2_take_19, tX2_take_22, tX2_take_25, tX2_take_26, tX2_take_27, tX2_take_30, tX2_take_31, tX2_take_32, tX2_take_35, jK_some, jK_none, jc1_int, jc1_ref, jc1_none, jc1_long, jc1_null, jc1_rf, va_rf_some, va_rf_none, mI_cI, mL_cL, mR_cR, cI_cI, cL_cL, jup_eq, jne_1, jne_2, Nat.add_left_cancel_iff, mL_cI, mR_cI, mS_cI, mN_cI, mI_cL, mR_cL, mS_cL, mN_cL, mI_cR, mL_cR, mS_cR, mN_cR, true_and, and_true, true_or, or_true, if_true, if_false, jBool_0, jBool_1, Nat.le_refl, Nat.reduceLeDiff, Nat.reduceEqDiff, Nat.reduceAdd, Nat.reduceSub, reduceIte, Int32.reduceLT, Int32.reduceLE, ne_eq, not_false_eq_true, not_true_eq_false, false_or, or_false, and_false, false_and, reduceCtorEq, jn_4, jn_6, jn_8, jn_9, jn_12, jn_60, jn_100, jn_200, jn_400, jn_600, jn_601, jn_3600, jI_4, jI_6, jI_8, jI_9, jI_12, jI_60, jI_100, jI_200, jI_400, jI_600, jI_601, jI_3600, va_cpy_00, jx_0, jx_6, jx_12, jx_400, jx_600, nI_1, hS0, hR0, s2, r2]
    rw [k2, hm3]
    have r3' : mR m3 a = mR m a := by rw [r3]; exact ea
    have i3' : mI m3 a = mI m a := by rw [i3 a (by omega) (by omega), e6 a (by omega)]
    simp (config := {decide := true}) (disch := first | omega | assumption | (simp only [mS_cL, mS_cI, mS_cR, mR_cL, mR_cI]; first | assumption | exact hcr _ | fail)) only [tX2_take_0, tX2_take_1, tX2_take_4, tX2_take_5, tX2_take_8, tX2_take_9, tX2_take_10, tX2_take_13, tX2_take_16, tX2_take_18, tX2_take_19, tX2_take_22, tX2_take_25, tX2_take_26, tX2_take_27, tX2_take_30, tX2_take_31, tX2_take_32, tX2_take_35, jK_some, jK_none, jc1_int, jc1_ref, jc1_none, jc1_long, jc1_null, jc1_rf, va_rf_some, va_rf_none, mI_cI, mL_cL, mR_cR, cI_cI, cL_cL, jup_eq, jne_1, jne_2, Nat.add_left_cancel_iff, mL_cI, mR_cI, mS_cI, mN_cI, mI_cL, mR_cL, mS_cL, mN_cL, mI_cR, mL_cR, mS_cR, mN_cR, true_and, and_true, true_or, or_true, if_true, if_false, jBool_0, jBool_1, Nat.le_refl, Nat.reduceLeDiff, Nat.reduceEqDiff, Nat.reduceAdd, Nat.reduceSub, reduceIte, Int32.reduceLT, Int32.reduceLE, ne_eq, not_false_eq_true, not_true_eq_false, false_or, or_false, and_false, false_and, reduceCtorEq, jn_4, jn_6, jn_8, jn_9, jn_12, jn_60, jn_100, jn_200, jn_400, jn_600, jn_601, jn_3600, jI_4, jI_6, jI_8, jI_9, jI_12, jI_60, jI_100, jI_200, jI_400, jI_600, jI_601, jI_3600, va_cpy_00, jx_0, jx_6, jx_12, jx_400, jx_600, nI_1, hS0, hR0, s3, r3', i3']
    done
  · refine XPot_frk (m := m1) (s3.trans e1.symm) (fun j u v => by rw [mR_cI, r3]) (fun j u v => by rw [mI_ne (by omega), i3 j (by omega) (by omega)]) (fun j u v => by rw [mL_cI, l3]) c2
  · rw [mN_cI, ← hm3, ← hm2]; exact e2
  · rw [mZ_cI, ← hm3, ← hm2]; exact e3
  · intro c hc; rw [mR_cI, r3, e4 c hc]
  · rw [mR_cI, r3, e5]
  · intro i hi; rw [mI_ne (by omega), mI_ne (by omega), v12 i hi, v13 i hi]; exact ⟨rfl, rfl⟩
  · rw [mI_same]
  · intro c hc; rw [mI_ne (by omega), i3 c (by omega) (by omega), e6 c (by omega)]
  · intro c hc; rw [mL_cI, l3, e7 c (by omega) (by omega) (by omega)]
theorem X_giveBack (hS0 : mS m a = (2, 5)) (hR0 : mR m a 0 = some (a + 1) ∧ mR m a 1 = some (a + 12) ∧ mR m a 2 = some (a + 13)) (hp : PotL (mS m) (mR m) 91) (h2 : mS m (a + 12) = (20, 6)) (h3 : mS m (a + 13) = (20, 6)) (h89 : mS m 89 = (20, 6)) (h90 : mS m 90 = (20, 6)) (ha : 131 ≤ a) (hX : XPot m (a + 1) P) (hG : GP nf nm n P) : ∃ m', CE (d + 5) 20 [.ref a, .ref 91, .ref 89, .ref 90] m none m' ∧ XPot m' 91 P ∧ (mS m' = mS m ∧ mN m' = mN m ∧ mZ m' = mZ m) ∧ (∀ c, c ≠ 91 → mR m' c = mR m c) ∧ mR m' 91 = jup (jup (mR m 91) 1 (mR m (a + 1) 1)) 2 (mR m (a + 1) 2) ∧ (∀ i, i < 6 → mI m' 89 i = mI m (a + 12) i ∧ mI m' 90 i = mI m (a + 13) i) ∧ (∀ c, c < 89 ∨ 101 < c → mI m' c = mI m c) ∧ ∀ c, c < 89 ∨ 101 < c → mL m' c = mL m c := by
  obtain ⟨m1, c1, c2, e1, e2, e3, e4, e5, e6, e7⟩ := X_becomeLike (d := d) (a := 91) (b := a + 1) hp hX hG (by omega)
  have k1 := fun Q => c_copyStuffs (d := d + 3) (m := m1) (p := a + 12) (q := 89) (Q := Q) (by rw [e1]; exact h2) (by rw [e1]; exact h89) (by omega)
  obtain ⟨m2, hm2⟩ : ∃ m2, cI m1 89 (jfor (fun k M => jup M k (mI m1 (a + 12) k)) 0 6 (mI m1 89)) = m2 := ⟨_, rfl⟩
  have k2 := fun Q => c_copyStuffs (d := d + 3) (m := m2) (p := a + 13) (q := 90) (Q := Q) (by rw [← hm2]; show mS m1 (a + 13) = _; rw [e1]; exact h3) (by rw [← hm2]; show mS m1 90 = _; rw [e1]; exact h90) (by omega)
  obtain ⟨m3, hm3⟩ : ∃ m3, cI m2 90 (jfor (fun k M => jup M k (mI m2 (a + 13) k)) 0 6 (mI m2 90)) = m3 := ⟨_, rfl⟩
  have s3 : mS m3 = mS m := by rw [← hm3, ← hm2]; exact e1
  have r3 : mR m3 = mR m1 := by rw [← hm3, ← hm2]; rfl
  have i3 : ∀ b, b ≠ 89 → b ≠ 90 → mI m3 b = mI m1 b := fun b hb hc => by rw [← hm3, mI_ne hc, ← hm2, mI_ne hb]
  have l3 : mL m3 = mL m1 := by rw [← hm3, ← hm2]; rfl
  have v12 : ∀ i, i < 6 → mI m3 89 i = mI m (a + 12) i := fun i hi => by rw [← hm3, mI_ne (by omega), ← hm2, mI_same, jcopy, if_pos (by omega), e6 (a + 12) (by omega)]
  have v13 : ∀ i, i < 6 → mI m3 90 i = mI m (a + 13) i := fun i hi => by rw [← hm3, mI_same, jcopy, if_pos (by omega), ← hm2, mI_ne (by omega), e6 (a + 13) (by omega)]
  have ea : mR m1 a = mR m a := e4 a (by omega)
  refine ⟨m3, CE.of fun Q => ?_, ?_, ⟨s3, ?_, ?_⟩, ?_, ?_, ?_, ?_, ?_⟩
  · rw [nX2_giveBack]
    simp (config := {decide := true}) (disch := first | omega | assumption | (simp only [mS_cL, mS_cI, mS_cR, mR_cL, mR_cI]; first | assumption | exact hcr _ | fail)) only [tX2_giveBack_0, tX2_giveBack_1, tX2_giveBack_2, tX2_giveBack_5, tX2_giveBack_8, tX2_giveBack_9, tX2_giveBack_12, tX2_giveBack_13, tX2_giveBack_16, tX2_giveBack_17, tX2_giveBack_20, tX2_giveBack_21, tX2_giveBack_24, jK_some, jK_none, jc1_int, jc1_ref, jc1_none, jc1_long, jc1_null, jc1_rf, va_rf_some, va_rf_none, mI_cI, mL_cL, mR_cR, cI_cI, cL_cL, jup_eq, jne_1, jne_2, Nat.add_left_cancel_iff, mL_cI, mR_cI, mS_cI, mN_cI, mI_cL, mR_cL, mS_cL, mN_cL, mI_cR, mL_cR, mS_cR, mN_cR, true_and, and_true, true_or, or_true, if_true, if_false, jBool_0, jBool_1, Nat.le_refl, Nat.reduceLeDiff, Nat.reduceEqDiff, Nat.reduceAdd, Nat.reduceSub, reduceIte, Int32.reduceLT, Int32.reduceLE, ne_eq, not_false_eq_true, not_true_eq_false, false_or, or_false, and_false, false_and, reduceCtorEq, jn_4, jn_6, jn_8, jn_9, jn_12, jn_60, jn_100, jn_200, jn_400, jn_600, jn_601, jn_3600, jI_4, jI_6, jI_8, jI_9, jI_12, jI_60, jI_100, jI_200, jI_400, jI_600, jI_601, jI_3600, va_cpy_00, jx_0, jx_6, jx_12, jx_400, jx_600, nI_1, hS0, hR0, c1.iff, e1, ea, hp]
    rw [k1, hm2]
    have s2 : mS m2 = mS m := by rw [← hm2]; exact e1
    have r2 : mR m2 a = mR m a := by rw [← hm2]; exact ea
    simp (config := {decide := true}) (disch := first | omega | assumption | (simp only [mS_cL, mS_cI, mS_cR, mR_cL, mR_cI]; first | assumption | exact hcr _ | fail)) only [tX2_giveBack_0, tX2_giveBack_1, tX2_giveBack_2, tX2_giveBack_5, tX2_giveBack_8, tX2_giveBack_9, tX2_giveBack_12, tX2_giveBack_13, tX2_giveBack_16, tX2_giveBack_17, tX2_giveBack_20, tX2_giveBack_21, tX2_giveBack_24, jK_some, jK_none, jc1_int, jc1_ref, jc1_none, jc1_long, jc1_null, jc1_rf, va_rf_some, va_rf_none, mI_cI, mL_cL, mR_cR, cI_cI, cL_cL, jup_eq, jne_1, jne_2, Nat.add_left_cancel_iff, mL_cI, mR_cI, mS_cI, mN_cI, mI_cL, mR_cL, mS_cL, mN_cL, mI_cR, mL_cR, mS_cR, mN_cR, true_and, and_true, true_or, or_true, if_true, if_false, jBool_0, jBool_1, Nat.le_refl, Nat.reduceLeDiff, Nat.reduceEqDiff, Nat.reduceAdd, Nat.reduceSub, reduceIte, Int32.reduceLT, Int32.reduceLE, ne_eq, not_false_eq_true, not_true_eq_false, false_or, or_false, and_false, false_and, reduceCtorEq, jn_4, jn_6, jn_8, jn_9, jn_12, jn_60, jn_100, jn_200, jn_400, jn_600, jn_601, jn_3600, jI_4, jI_6, jI_8, jI_9, jI_12, jI_60, jI_100, jI_200, jI_400, jI_600, jI_601, jI_3600, va_cpy_00, jx_0, jx_6, jx_12, jx_400, jx_600, nI_1, hS0, hR0, s2, r2]
    rw [k2, hm3]
    simp (config := {decide := true}) (disch := first | omega | assumption | (simp only [mS_cL, mS_cI, mS_cR, mR_cL, mR_cI]; first | assumption | exact hcr _ | fail)) only [tX2_giveBack_0, tX2_giveBack_1, tX2_giveBack_2, tX2_giveBack_5, tX2_giveBack_8, tX2_giveBack_9, tX2_giveBack_12, tX2_giveBack_13, tX2_giveBack_16, tX2_giveBack_17, tX2_giveBack_20, tX2_giveBack_21, tX2_giveBack_24, jK_some, jK_none, jc1_int, jc1_ref, jc1_none, jc1_long, jc1_null, jc1_rf, va_rf_some, va_rf_none, mI_cI, mL_cL, mR_cR, cI_cI, cL_cL, jup_eq, jne_1, jne_2, Nat.add_left_cancel_iff, mL_cI, mR_cI, mS_cI, mN_cI, mI_cL, mR_cL, mS_cL, mN_cL, mI_cR, mL_cR, mS_cR, mN_cR, true_and, and_true, true_or, or_true, if_true, if_false, jBool_0, jBool_1, Nat.le_refl, Nat.reduceLeDiff, Nat.reduceEqDiff, Nat.reduceAdd, Nat.reduceSub, reduceIte, Int32.reduceLT, Int32.reduceLE, ne_eq, not_false_eq_true, not_true_eq_false, false_or, or_false, and_false, false_and, reduceCtorEq, jn_4, jn_6, jn_8, jn_9, jn_12, jn_60, jn_100, jn_200, jn_400, jn_600, jn_601, jn_3600, jI_4, jI_6, jI_8, jI_9, jI_12, jI_60, jI_100, jI_200, jI_400, jI_600, jI_601, jI_3600, va_cpy_00, jx_0, jx_6, jx_12, jx_400, jx_600, nI_1]
  · refine XPot_frk (m := m1) (s3.trans e1.symm) (fun j u v => by rw [r3]) (fun j u v => by rw [i3 j (by omega) (by omega)]) (fun j u v => by rw [l3]) c2
  · rw [← hm3, ← hm2]; exact e2
  · rw [← hm3, ← hm2]; exact e3
  · intro c hc; rw [r3, e4 c hc]
  · rw [r3, e5]
  · intro i hi; exact ⟨v12 i hi, v13 i hi⟩
  · intro c hc; rw [i3 c (by omega) (by omega), e6 c (by omega)]
  · intro c hc; rw [l3, e7 c (by omega) (by omega) (by omega)]
end IMG
