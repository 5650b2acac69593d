/-! ===== X's minute is the pure one ===== -/
theorem jhold_eq {X lo hi : Int64} (h : lo.toInt ≤ hi.toInt) : (if (if X < hi then X else hi) < lo then lo else if X < hi then X else hi) = kHeld X lo hi := by
  unfold kHeld
  by_cases h1 : X < hi
  · simp only [if_pos h1]
    rw [Int64.lt_iff_toInt_lt] at h1
    by_cases h2 : X < lo
    · rw [if_pos h2, if_pos h2]
    · rw [if_neg h2, if_neg h2, if_neg]
      rw [Int64.lt_iff_toInt_lt]; omega
  · simp only [if_neg h1]
    rw [Int64.lt_iff_toInt_lt] at h1
    rw [if_neg (c := hi < lo) (by rw [Int64.lt_iff_toInt_lt]; omega), if_neg (c := X < lo) (by rw [Int64.lt_iff_toInt_lt]; omega)]
    by_cases h3 : hi < X
    · rw [if_pos h3]
    · rw [if_neg h3]
      rw [Int64.lt_iff_toInt_lt] at h3
      exact Int64.toInt_inj.mp (by omega)
theorem getD_mind {o : Option Int64} {was : Int32} {most : Int64} (h0 : 0 ≤ most.toInt) (h : 0 ≤ was.toInt ∧ was.toInt ≤ most.toInt) : (kHeld (o.getD was.toInt64) 0 most).toInt32 = kMind o was most := by
  cases o with
  | some v => rfl
  | none =>
    show (kHeld was.toInt64 0 most).toInt32 = was
    have e0 : (0 : Int64).toInt = 0 := by decide
    have et : was.toInt64.toInt = was.toInt := Int32.toInt_toInt64 was
    have : kHeld was.toInt64 0 most = was.toInt64 := by
      unfold kHeld
      rw [if_neg, if_neg]
      · rw [Int64.lt_iff_toInt_lt]; omega
      · rw [Int64.lt_iff_toInt_lt]; omega
    rw [this, Int32.toInt32_toInt64]
theorem getD_more {o : Option Int64} : kHeld (o.getD 0) (-9999) 9999 = kMore o := by
  cases o with
  | some v => rfl
  | none => rfl
theorem k_sub2 (a b : Int32) : a - 1 - b - 1 = a - 2 - b := by grind
theorem k_sub3 (a b : Int32) : a - 1 - b - 1 = a - 1 - (b + 1) := by grind
theorem k_wlt {k l : Nat} (hk : k < 1000) (hl : l < 1000) : nI k - 1 - nI l < nI k := by
  have e1 := nI_toInt (n := k) (by omega)
  have e2 := nI_toInt (n := l) (by omega)
  have e3 : (1 : Int32).toInt = 1 := by decide
  have h1 : (nI k - 1).toInt = (k : Int) - 1 := by rw [i32_sub (by omega) (by omega)]; omega
  rw [Int32.lt_iff_toInt_lt, i32_sub (by omega) (by omega)]
  omega
section XMIN
variable {d a b c e f g n t nf nm : Nat} {m : jmM} {Kf Km : KLaw} {P : Pt} {X : Int64} {Q : Option Value → jmM → Prop}
theorem c_hold9 {Z : Int64} (h : (0 : Int64).toInt ≤ Z.toInt) : CC (d + 1) 185 [.long X, .long 0, .long Z] m Q ↔ Q (some (.long (kHeld X 0 Z))) m := by
  rw [c_hold, jhold_eq h]
theorem c_holdpm : CC (d + 1) 185 [.long X, .long (-9999), .long 9999] m Q ↔ Q (some (.long (kHeld X (-9999) 9999))) m := by
  rw [c_hold, jhold_eq (by decide)]
theorem X_words {V : Nat → Int64} (hX : XPot m a P) (hf : LX m f Kf) (kf : KOk Kf) (hn : qS P 15 = nI n) (h6 : n ≤ 600) (hg : (qS P 3).toInt ≠ 0) : kAg (jWords m a f V) (kWd (kLl Kf) P) := by
  obtain ⟨hL, ⟨⟨s3, s5, s6, s7, s8, s9, s10, s11⟩, s4, ⟨t0, t1, t2, t3, t4, t5⟩, -⟩, hr, hrow⟩ := hX
  obtain ⟨-, -, -, hl, -, -⟩ := hf
  obtain ⟨l0, l9⟩ := kf.2.2.2.2.1
  have hg0 : qS P 3 ≠ 0 := fun e => hg (by rw [e]; rfl)
  have hseen : ∀ x : Int32, x < nI n → (jSeenW (mI m (a + 4)) (nI n) (mI m (a + 1) 3) x) = kSeen P x := by
    intro x hx
    unfold jSeenW kSeen
    by_cases h0 : x < 0
    · rw [if_pos h0, if_neg (fun e => Int32.not_lt.mpr e.1 h0), t3]
    · obtain ⟨j, hj, rfl⟩ : ∃ j, j < n ∧ x = nI j := by
        rcases pk_ix x (n := n) (by omega) with h | h | h
        · exact absurd h h0
        · exact absurd hx (Int32.not_lt.mpr h)
        · exact h
      rw [if_neg h0, if_pos ⟨nI_pos' (by omega), nI_lt hj (by omega), nI_lt (b := 600) (by omega) (by decide)⟩, jx_nI (by omega)]
      rw [hn, jx_nI (by omega)] at hrow
      exact (hrow j hj).1.1
  obtain ⟨l, hl2, el⟩ : ∃ l, l < 10 ∧ kLl Kf = nI l := by
    rcases pk_ix (kLl Kf) (n := 10) (by omega) with h | h | h
    · exact absurd h (Int32.not_lt.mpr l0)
    · exact absurd l9 (Int32.not_le.mpr (Int32.lt_of_lt_of_le (by decide) h))
    · exact h
  intro i hi
  unfold jWords kWd
  simp only [jup_eq]
  rw [s11, s7, s8, s5, s9, s6, t1, t0, hl, if_neg hg0, hn, el]
  have h1 : nI n - 1 - nI l < nI n := k_wlt (by omega) (by omega)
  have h2 : nI n - 1 - nI l - 1 < nI n := by
    rw [k_sub3, nI_1]
    exact k_wlt (by omega) (by omega)
  rw [hseen _ h1, hseen _ h2, k_sub2, Int64.mul_comm]
  rcases (show i = 0 ∨ i = 1 ∨ i = 2 ∨ i = 3 ∨ i = 4 ∨ i = 5 ∨ i = 6 ∨ i = 7 ∨ i = 8 by omega) with rfl | rfl | rfl | rfl | rfl | rfl | rfl | rfl | rfl <;> simp only [reduceIte, Nat.reduceEqDiff]
theorem X_pass (hX : XPot m a P) (hG1 : GP1 nf nm n P) (hn : qS P 15 = nI n) (h1 : qS P 0 = 1) (he : DeskL (mS m) (mR m) e) (ht : mI m e 2 = nI t) (hd : a + 10 < e ∨ e + 2 < a) (hF : mR m a 1 = some f) (hM : mR m a 2 = some g) (hf : LX m f Kf) (hg : LX m g Km) (kf : KOk Kf) (kg : KOk Km)
    (fa : f + 5 < a ∨ a + 10 < f) (ga : g + 5 < a ∨ a + 10 < g) (fe : f + 5 < e ∨ e + 2 < f) (ge : g + 5 < e ∨ e + 2 < g) (fj : f + 5 < jScr) (gj : g + 5 < jScr) : ∃ m', CE (d + 8) 54 [.ref a, .ref e] m none m' ∧ XPot m' a (kMin Kf Km P) ∧ XFr m m' a e := by
  have h6 : n < 600 := (hG1.2.2.2.2.1 h1).1
  have hW : ∀ V, kAg (jWords m a f V) (kWd (kLl Kf) P) := fun V => X_words hX hf kf hn (by omega) (by have := hG1.2.2.1.1; omega)
  have hz : (2 * jpos (mI m f 7) + 1).toInt64 ≠ 0 := by
    rw [hf.2.2.1]
    have hw := kf.2.2.2.1
    sorry
  have hX' := hX
  obtain ⟨h, ⟨⟨s3, s5, s6, s7, s8, s9, s10, s11⟩, s4, ⟨t0, t1, t2, t3, t4, t5⟩, -⟩, hr, hrow⟩ := hX
  have hn11 : mI m a 11 = nI n := s11.trans hn
  have hm1 : cL m (e + 1) (jWords m a f (mL m (e + 1))) = jDk (cL m (e + 1) (jWords m a f (mL m (e + 1)))) e (mL m (e + 2), t) := by
    conv => lhs; rw [← jDk_eta (m := cL m (e + 1) (jWords m a f (mL m (e + 1)))) (a := e) (t := t) ht, mL_ne (by omega)]
  have hW1' := hW (mL m (e + 1))
  generalize hW1 : jWords m a f (mL m (e + 1)) = W1 at *
  have hW' : kAg (mL (cL m (e + 1) W1) (e + 1)) (kWd (kLl Kf) P) := by rw [mL_same]; exact hW1'
  obtain ⟨q1, H1⟩ := X_first (d := d + 4) (m := cL m (e + 1) W1) (x := 1) (X := (mI m a 8).toInt64) (s := (mL m (e + 2), t)) he hg kg ge gj hW'
  obtain ⟨q2, H2⟩ := X_first (d := d + 4) (m := cL m (e + 1) W1) (x := 2) (X := (mI m a 7).toInt64) (s := q1) he hg kg ge gj hW'
  refine CE_ex fun Q hQ => ?_
  rw [nX5_passMinute]
  simp (config := {decide := true}) (disch := first | omega | assumption | (simp only [mS_cL, mS_cI, mS_cR, mR_cL, mR_cI]; first | assumption | exact hcr _ | fail)) only [tX5_passMinute_0, tX5_passMinute_1, tX5_passMinute_4, tX5_passMinute_4r, tX5_passMinute_7, tX5_passMinute_8, tX5_passMinute_11, tX5_passMinute_11r, tX5_passMinute_14, tX5_passMinute_15, tX5_passMinute_18, tX5_passMinute_21, tX5_passMinute_24, tX5_passMinute_25, tX5_passMinute_26, tX5_passMinute_26q, tX5_passMinute_27, jK_some, jK_none, jc1_int, jc1_ref, jc1_none, jc1_long, jc1_null, jc1_rf, va_rf_some, va_rf_none, mI_cI, mL_cL, mR_cR, cI_cI, cL_cL, jup_eq, jne_1, jne_2, Nat.add_left_cancel_iff, mL_cI, mR_cI, mS_cI, mN_cI, mI_cL, mR_cL, mS_cL, mN_cL, mI_cR, mL_cR, mS_cR, mN_cR, true_and, and_true, true_or, or_true, if_true, if_false, jBool_0, jBool_1, Nat.le_refl, Nat.reduceLeDiff, Nat.reduceEqDiff, Nat.reduceAdd, Nat.reduceSub, reduceIte, Int32.reduceLT, Int32.reduceLE, ne_eq, not_false_eq_true, not_true_eq_false, false_or, or_false, and_false, false_and, reduceCtorEq, jn_4, jn_6, jn_8, jn_9, jn_12, jn_60, jn_100, jn_200, jn_400, jn_600, jn_601, jn_3600, jI_4, jI_6, jI_8, jI_9, jI_12, jI_60, jI_100, jI_200, jI_400, jI_600, jI_601, jI_3600, va_cpy_00, jx_0, jx_6, jx_12, jx_400, jx_600, nI_1, h, hF, hM, hn11, nx_5e, nx_l6, nx_l12, nx_l100, nx_l200, nx_l400, nx_l600, nx_l601, nx_l3600, nx_pos, nx_posN, nx_neg1, nx_m1neg, nx_leF, nx_leT, nx_ltF, nx_ltT, nx_mul6, nI_add, nI_1, jx_nI, nx_4, nx_g4, nx_6, nx_g6, nx_8, nx_g8, nx_9, nx_g9, nx_12, nx_g12, nx_14, nx_g14, nx_60, nx_g60, nx_100, nx_g100, nx_200, nx_g200, nx_400, nx_g400, nx_600, nx_g600, nx_601, nx_g601, nx_3600, nx_g3600, c_Pot_tellWords h he (by omega) hF hf.1, hW1]
  rw [hm1]
  simp (config := {decide := true}) (disch := first | omega | assumption | (simp only [mS_cL, mS_cI, mS_cR, mR_cL, mR_cI]; first | assumption | exact hcr _ | fail)) only [tX5_passMinute_30, tX5_passMinute_30q, tX5_passMinute_31, tX5_passMinute_32, tX5_passMinute_35, tX5_passMinute_36, tX5_passMinute_37, tX5_passMinute_40, tX5_passMinute_41, tX5_passMinute_44, tX5_passMinute_45, tX5_passMinute_45q, tX5_passMinute_46, tX5_passMinute_47, tX5_passMinute_50, tX5_passMinute_51, tX5_passMinute_52, tX5_passMinute_55, tX5_passMinute_56, tX5_passMinute_59, tX5_passMinute_61, tX5_passMinute_62, tX5_passMinute_63, tX5_passMinute_64, tX5_passMinute_67, tX5_passMinute_70, tX5_passMinute_71, tX5_passMinute_74, tX5_passMinute_75, tX5_passMinute_77, tX5_passMinute_78, tX5_passMinute_81, tX5_passMinute_84, tX5_passMinute_85, jK_some, jK_none, jc1_int, jc1_ref, jc1_none, jc1_long, jc1_null, jc1_rf, va_rf_some, va_rf_none, mI_same, mL_same, mR_same, mI_ne, mL_ne, mR_ne, cI_cI, cL_cL, jup_eq, mL_cI, mR_cI, mS_cI, mN_cI, mI_cL, mR_cL, mS_cL, mN_cL, mI_cR, mL_cR, mS_cR, mN_cR, true_and, and_true, true_or, or_true, if_true, if_false, jBool_0, jBool_1, Nat.le_refl, Nat.reduceLeDiff, Nat.reduceEqDiff, Nat.reduceAdd, Nat.reduceSub, reduceIte, Int32.reduceLT, Int32.reduceLE, ne_eq, not_false_eq_true, not_true_eq_false, false_or, or_false, and_false, false_and, reduceCtorEq, jn_4, jn_6, jn_8, jn_9, jn_12, jn_60, jn_100, jn_200, jn_400, jn_600, jn_601, jn_3600, jI_4, jI_6, jI_8, jI_9, jI_12, jI_60, jI_100, jI_200, jI_400, jI_600, jI_601, jI_3600, va_cpy_00, jx_0, jx_6, jx_12, jx_400, jx_600, nI_1, mS_jDk, mR_jDk, mI_jDk, h, hF, hM, he, H1, H2, c_hold9 (Z := 99) (by decide), c_hold9 (Z := 999) (by decide)]
  sorry
end XMIN
