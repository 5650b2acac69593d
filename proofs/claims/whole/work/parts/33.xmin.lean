/-! ===== X's minute is the pure one ===== -/
theorem jhold_eq {X lo hi : Int64} (h : lo.toInt ≤ hi.toInt) : (if (if X < hi then X else hi) < lo then lo else if X < hi then X else hi) = kHeld X lo hi := by
  unfold kHeld
  by_cases h1 : X < hi
  · simp only [if_pos h1]
    rw [Int64.lt_iff_toInt_lt] at h1
    by_cases h2 : X < lo
    · rw [if_pos h2, if_pos h2]
    · rw [if_neg h2, if_neg h2, if_neg]
      rw [Int64.lt_iff_toInt_lt]; omega
  · simp only [if_neg h1]
    rw [Int64.lt_iff_toInt_lt] at h1
    rw [if_neg (c := hi < lo) (by rw [Int64.lt_iff_toInt_lt]; omega), if_neg (c := X < lo) (by rw [Int64.lt_iff_toInt_lt]; omega)]
    by_cases h3 : hi < X
    · rw [if_pos h3]
    · rw [if_neg h3]
      rw [Int64.lt_iff_toInt_lt] at h3
      exact Int64.toInt_inj.mp (by omega)
theorem getD_mind {o : Option Int64} {was : Int32} {most : Int64} (h0 : 0 ≤ most.toInt) (h : 0 ≤ was.toInt ∧ was.toInt ≤ most.toInt) : (kHeld (o.getD was.toInt64) 0 most).toInt32 = kMind o was most := by
  cases o with
  | some v => rfl
  | none =>
    show (kHeld was.toInt64 0 most).toInt32 = was
    have e0 : (0 : Int64).toInt = 0 := by decide
    have et : was.toInt64.toInt = was.toInt := Int32.toInt_toInt64 was
    have : kHeld was.toInt64 0 most = was.toInt64 := by
      unfold kHeld
      rw [if_neg, if_neg]
      · rw [Int64.lt_iff_toInt_lt]; omega
      · rw [Int64.lt_iff_toInt_lt]; omega
    rw [this, Int32.toInt32_toInt64]
theorem getD_more {o : Option Int64} : kHeld (o.getD 0) (-9999) 9999 = kMore o := by
  cases o with
  | some v => rfl
  | none => rfl
theorem k_sub2 (a b : Int32) : a - 1 - b - 1 = a - 2 - b := by grind
theorem k_sub3 (a b : Int32) : a - 1 - b - 1 = a - 1 - (b + 1) := by grind
theorem k_wlt {k l : Nat} (hk : k < 1000) (hl : l < 1000) : nI k - 1 - nI l < nI k := by
  have e1 := nI_toInt (n := k) (by omega)
  have e2 := nI_toInt (n := l) (by omega)
  have e3 : (1 : Int32).toInt = 1 := by decide
  have h1 : (nI k - 1).toInt = (k : Int) - 1 := by rw [i32_sub (by omega) (by omega)]; omega
  rw [Int32.lt_iff_toInt_lt, i32_sub (by omega) (by omega)]
  omega
theorem jGrown_eq {left wd pl : Int32} (hp : 0 ≤ pl.toInt ∧ pl.toInt ≤ 99) (hw : 0 ≤ wd.toInt ∧ wd.toInt ≤ 9999) (hl : 0 ≤ left.toInt) : jGrown left wd pl = (kHeld (pl.toInt64 * wd.toInt64 * wd.toInt64 / 100000) 0 left.toInt64).toInt32 := by
  have ep := i64_lN (x := pl.toInt64) (by rw [t64_i]; exact hp.1)
  have ew := i64_lN (x := wd.toInt64) (by rw [t64_i]; exact hw.1)
  rw [t64_i] at ep ew
  generalize hp' : pl.toInt.toNat = p at ep
  generalize hw' : wd.toInt.toNat = w at ew
  have b1 : p * w ≤ 99 * 9999 := Nat.mul_le_mul (by omega) (by omega)
  have b2 : p * w * w ≤ 99 * 9999 * 9999 := Nat.mul_le_mul b1 (by omega)
  have ev : pl.toInt64 * wd.toInt64 * wd.toInt64 / 100000 = lN (p * w * w / 100000) := by
    rw [ep, ew, lN_mul, lN_mul, show (100000 : Int64) = lN 100000 from rfl, pk_lDiv (by omega) (by decide) (by decide)]
  have h0 : 0 ≤ (pl.toInt64 * wd.toInt64 * wd.toInt64 / 100000).toInt := by
    rw [ev, pk_lT (by omega)]; omega
  have hl' := t64_i left
  unfold jGrown kHeld
  generalize pl.toInt64 * wd.toInt64 * wd.toInt64 / 100000 = v at *
  have e0 : (0 : Int64).toInt = 0 := by decide
  rw [if_neg (c := v < 0) (by rw [Int64.lt_iff_toInt_lt]; omega)]
  by_cases h1 : v < left.toInt64
  · rw [if_pos h1]
    rw [Int64.lt_iff_toInt_lt] at h1
    rw [if_neg (by rw [Int64.lt_iff_toInt_lt]; omega)]
  · rw [if_neg h1]
    rw [Int64.lt_iff_toInt_lt] at h1
    by_cases h2 : left.toInt64 < v
    · rw [if_pos h2]
    · rw [if_neg h2]
      rw [Int64.lt_iff_toInt_lt] at h2
      congr 1
      exact Int64.toInt_inj.mp (by omega)
theorem stAdd_for {gv sh : Nat → Int32} {grown left : Int32} {n : Nat} : ∀ (q k0 : Nat) (s : (Nat → Int64) × (Nat → Int64)), (∀ k, (jfor (stAdd gv sh grown left n) k0 q s).1 k = if k0 ≤ k ∧ k < k0 + q then s.1 k + (gv k).toInt64 - jalong (s.1 k + (gv k).toInt64) grown.toInt64 left.toInt64 (sh k).toInt64 else s.1 k) ∧ (∀ k, (jfor (stAdd gv sh grown left n) k0 q s).2 (6 * n + k) = if k0 ≤ k ∧ k < k0 + q then jalong (s.1 k + (gv k).toInt64) grown.toInt64 left.toInt64 (sh k).toInt64 else s.2 (6 * n + k)) ∧ ∀ j, j < 6 * n + k0 ∨ 6 * n + k0 + q ≤ j → (jfor (stAdd gv sh grown left n) k0 q s).2 j = s.2 j
  | 0, k0, s => ⟨fun k => by rw [if_neg (by omega)]; rfl, fun k => by rw [if_neg (by omega)]; rfl, fun j _ => rfl⟩
  | q + 1, k0, s => by
    obtain ⟨h1, h2, h3⟩ := stAdd_for (gv := gv) (sh := sh) (grown := grown) (left := left) (n := n) q (k0 + 1) (stAdd gv sh grown left n k0 s)
    refine ⟨fun k => ?_, fun k => ?_, fun j hj => ?_⟩
    · show (jfor (stAdd gv sh grown left n) (k0 + 1) q (stAdd gv sh grown left n k0 s)).1 k = _
      rw [h1]
      unfold stAdd
      simp only [jup_eq]
      by_cases e : k = k0
      · subst e; rw [if_neg (by omega), if_pos rfl, if_pos (by omega)]
      · by_cases hk : k0 + 1 ≤ k ∧ k < k0 + 1 + q
        · rw [if_pos hk, if_neg e, if_pos (by omega)]
        · rw [if_neg hk, if_neg e, if_neg (by omega)]
    · show (jfor (stAdd gv sh grown left n) (k0 + 1) q (stAdd gv sh grown left n k0 s)).2 (6 * n + k) = _
      rw [h2]
      unfold stAdd
      simp only [jup_eq, Nat.mul_comm n 6, Nat.add_left_cancel_iff]
      by_cases e : k = k0
      · subst e; rw [if_neg (by omega), if_pos rfl, if_pos (by omega)]
      · by_cases hk : k0 + 1 ≤ k ∧ k < k0 + 1 + q
        · rw [if_pos hk, if_neg e, if_pos (by omega)]
        · rw [if_neg hk, if_neg e, if_neg (by omega)]
    · show (jfor (stAdd gv sh grown left n) (k0 + 1) q (stAdd gv sh grown left n k0 s)).2 j = _
      rw [h3 j (by omega)]
      unfold stAdd
      simp only [jup_eq]
      rw [if_neg (by omega)]
theorem kNumG_v {pl ht wd : Int32} {G sd : Int64} {P : Pt} : kNumG pl ht wd G sd P 9 = qS P 9 - G.toInt32 ∧ kNumG pl ht wd G sd P 10 = wd ∧ kNumG pl ht wd G sd P 15 = qS P 15 + 1 ∧ kNumG pl ht wd G sd P 7 = qS P 7 ∧ kNumG pl ht wd G sd P 14 = qS P 14 + 1 := by
  unfold kNumG
  refine ⟨?_, ?_, ?_, ?_, ?_⟩ <;> simp [jup_eq]
theorem k_sw {w : Int32} (h : 0 ≤ w ∧ w ≤ 99) : ∃ k, k < 100 ∧ w = nI k := by
  rcases pk_ix w (n := 100) (by omega) with h1 | h1 | h1
  · exact absurd h1 (Int32.not_lt.mpr h.1)
  · exact absurd h.2 (Int32.not_le.mpr (Int32.lt_of_lt_of_le (by decide) h1))
  · exact h1
theorem k_sw1 {k : Nat} (hk : k < 100) : (2 * nI k + 1).toInt64 ≠ 0 := by
  intro z
  have z := t64_0.mp z
  rw [show (2 : Int32) * nI k = nI (2 * k) from nx_mul 2 k, nI_1, show (0 : Int32) = nI 0 from rfl, nI_eqI (by omega) (by omega)] at z
  omega
section XMIN
variable {d a b c e f g n t nf nm : Nat} {m : jmM} {Kf Km : KLaw} {P : Pt} {X : Int64} {Q : Option Value → jmM → Prop}
theorem c_hold9 {Z : Int64} (h : (0 : Int64).toInt ≤ Z.toInt) : CC (d + 1) 185 [.long X, .long 0, .long Z] m Q ↔ Q (some (.long (kHeld X 0 Z))) m := by
  rw [c_hold, jhold_eq h]
theorem c_holdpm : CC (d + 1) 185 [.long X, .long (-9999), .long 9999] m Q ↔ Q (some (.long (kHeld X (-9999) 9999))) m := by
  rw [c_hold, jhold_eq (by decide)]
theorem X_words {V : Nat → Int64} (hX : XPot m a P) (hf : LX m f Kf) (kf : KOk Kf) (hn : qS P 15 = nI n) (h6 : n ≤ 600) (hg : (qS P 3).toInt ≠ 0) : kAg (jWords m a f V) (kWd (kLl Kf) P) := by
  obtain ⟨hL, ⟨⟨s3, s5, s6, s7, s8, s9, s10, s11⟩, s4, ⟨t0, t1, t2, t3, t4, t5⟩, -⟩, hr, hrow⟩ := hX
  obtain ⟨-, -, -, hl, -, -⟩ := hf
  obtain ⟨l0, l9⟩ := kf.2.2.2.2.1
  have hg0 : qS P 3 ≠ 0 := fun e => hg (by rw [e]; rfl)
  have hseen : ∀ x : Int32, x < nI n → (jSeenW (mI m (a + 4)) (nI n) (mI m (a + 1) 3) x) = kSeen P x := by
    intro x hx
    unfold jSeenW kSeen
    by_cases h0 : x < 0
    · rw [if_pos h0, if_neg (fun e => Int32.not_lt.mpr e.1 h0), t3]
    · obtain ⟨j, hj, rfl⟩ : ∃ j, j < n ∧ x = nI j := by
        rcases pk_ix x (n := n) (by omega) with h | h | h
        · exact absurd h h0
        · exact absurd hx (Int32.not_lt.mpr h)
        · exact h
      rw [if_neg h0, if_pos ⟨nI_pos' (by omega), nI_lt hj (by omega), nI_lt (b := 600) (by omega) (by decide)⟩, jx_nI (by omega)]
      rw [hn, jx_nI (by omega)] at hrow
      exact (hrow j hj).1.1
  obtain ⟨l, hl2, el⟩ : ∃ l, l < 10 ∧ kLl Kf = nI l := by
    rcases pk_ix (kLl Kf) (n := 10) (by omega) with h | h | h
    · exact absurd h (Int32.not_lt.mpr l0)
    · exact absurd l9 (Int32.not_le.mpr (Int32.lt_of_lt_of_le (by decide) h))
    · exact h
  intro i hi
  unfold jWords kWd
  simp only [jup_eq]
  rw [s11, s7, s8, s5, s9, s6, t1, t0, hl, if_neg hg0, hn, el]
  have h1 : nI n - 1 - nI l < nI n := k_wlt (by omega) (by omega)
  have h2 : nI n - 1 - nI l - 1 < nI n := by
    rw [k_sub3, nI_1]
    exact k_wlt (by omega) (by omega)
  rw [hseen _ h1, hseen _ h2, k_sub2, Int64.mul_comm]
  rcases (show i = 0 ∨ i = 1 ∨ i = 2 ∨ i = 3 ∨ i = 4 ∨ i = 5 ∨ i = 6 ∨ i = 7 ∨ i = 8 by omega) with rfl | rfl | rfl | rfl | rfl | rfl | rfl | rfl | rfl <;> simp only [reduceIte, Nat.reduceEqDiff]
theorem X_pass (hX : XPot m a P) (hG1 : GP1 nf nm n P) (hn : qS P 15 = nI n) (h1 : qS P 0 = 1) (he : DeskL (mS m) (mR m) e) (ht : mI m e 2 = nI t) (hd : a + 10 < e ∨ e + 2 < a) (hF : mR m a 1 = some f) (hM : mR m a 2 = some g) (hf : LX m f Kf) (hg : LX m g Km) (kf : KOk Kf) (kg : KOk Km)
    (fa : f + 5 < a ∨ a + 10 < f) (ga : g + 5 < a ∨ a + 10 < g) (fe : f + 5 < e ∨ e + 2 < f) (ge : g + 5 < e ∨ e + 2 < g) (fj : f + 5 < jScr) (gj : g + 5 < jScr) : ∃ m', CE (d + 8) 54 [.ref a, .ref e] m none m' ∧ XPot m' a (kMin Kf Km P) ∧ XFr m m' a e := by
  have h6 : n < 600 := (hG1.2.2.2.2.1 h1).1
  have hW : ∀ V, kAg (jWords m a f V) (kWd (kLl Kf) P) := fun V => X_words hX hf kf hn (by omega) (by have := hG1.2.2.1.1; omega)
  have hz : (2 * jpos (mI m f 7) + 1).toInt64 ≠ 0 := by
    rw [hf.2.2.1]
    obtain ⟨k, hk, e⟩ := k_sw kf.2.2.2.1
    rw [e]
    exact k_sw1 hk
  have hX' := hX
  obtain ⟨h, ⟨⟨s3, s5, s6, s7, s8, s9, s10, s11⟩, s4, ⟨t0, t1, t2, t3, t4, t5⟩, -⟩, hr, hrow⟩ := hX
  have hn11 : mI m a 11 = nI n := s11.trans hn
  have hm1 : cL m (e + 1) (jWords m a f (mL m (e + 1))) = jDk (cL m (e + 1) (jWords m a f (mL m (e + 1)))) e (mL m (e + 2), t) := by
    conv => lhs; rw [← jDk_eta (m := cL m (e + 1) (jWords m a f (mL m (e + 1)))) (a := e) (t := t) ht, mL_ne (by omega)]
  have hW1' := hW (mL m (e + 1))
  generalize hW1 : jWords m a f (mL m (e + 1)) = W1 at *
  have hW' : kAg (mL (cL m (e + 1) W1) (e + 1)) (kWd (kLl Kf) P) := by rw [mL_same]; exact hW1'
  obtain ⟨q1, H1⟩ := X_first (d := d + 4) (m := cL m (e + 1) W1) (x := 1) (X := (mI m a 8).toInt64) (s := (mL m (e + 2), t)) he hg kg ge gj hW'
  obtain ⟨q2, H2⟩ := X_first (d := d + 4) (m := cL m (e + 1) W1) (x := 2) (X := (mI m a 7).toInt64) (s := q1) he hg kg ge gj hW'
  refine CE_ex fun Q hQ => ?_
  rw [nX5_passMinute]
  simp (config := {decide := true}) (disch := first | omega | assumption | (simp only [mS_cL, mS_cI, mS_cR, mR_cL, mR_cI]; first | assumption | exact hcr _ | fail)) only [tX5_passMinute_0, tX5_passMinute_1, tX5_passMinute_4, tX5_passMinute_4r, tX5_passMinute_7, tX5_passMinute_8, tX5_passMinute_11, tX5_passMinute_11r, tX5_passMinute_14, tX5_passMinute_15, tX5_passMinute_18, tX5_passMinute_21, tX5_passMinute_24, tX5_passMinute_25, tX5_passMinute_26, tX5_passMinute_26q, tX5_passMinute_27, jK_some, jK_none, jc1_int, jc1_ref, jc1_none, jc1_long, jc1_null, jc1_rf, va_rf_some, va_rf_none, mI_cI, mL_cL, mR_cR, cI_cI, cL_cL, jup_eq, jne_1, jne_2, Nat.add_left_cancel_iff, mL_cI, mR_cI, mS_cI, mN_cI, mI_cL, mR_cL, mS_cL, mN_cL, mI_cR, mL_cR, mS_cR, mN_cR, true_and, and_true, true_or, or_true, if_true, if_false, jBool_0, jBool_1, Nat.le_refl, Nat.reduceLeDiff, Nat.reduceEqDiff, Nat.reduceAdd, Nat.reduceSub, reduceIte, Int32.reduceLT, Int32.reduceLE, ne_eq, not_false_eq_true, not_true_eq_false, false_or, or_false, and_false, false_and, reduceCtorEq, jn_4, jn_6, jn_8, jn_9, jn_12, jn_60, jn_100, jn_200, jn_400, jn_600, jn_601, jn_3600, jI_4, jI_6, jI_8, jI_9, jI_12, jI_60, jI_100, jI_200, jI_400, jI_600, jI_601, jI_3600, va_cpy_00, jx_0, jx_6, jx_12, jx_400, jx_600, nI_1, h, hF, hM, hn11, nx_5e, nx_l6, nx_l12, nx_l100, nx_l200, nx_l400, nx_l600, nx_l601, nx_l3600, nx_pos, nx_posN, nx_neg1, nx_m1neg, nx_leF, nx_leT, nx_ltF, nx_ltT, nx_mul6, nI_add, nI_1, jx_nI, nx_4, nx_g4, nx_6, nx_g6, nx_8, nx_g8, nx_9, nx_g9, nx_12, nx_g12, nx_14, nx_g14, nx_60, nx_g60, nx_100, nx_g100, nx_200, nx_g200, nx_400, nx_g400, nx_600, nx_g600, nx_601, nx_g601, nx_3600, nx_g3600, c_Pot_tellWords h he (by omega) hF hf.1, hW1]
  rw [hm1]
  simp (config := {decide := true}) (disch := first | omega | assumption | (simp only [mS_cL, mS_cI, mS_cR, mR_cL, mR_cI]; first | assumption | exact hcr _ | fail)) only [tX5_passMinute_30, tX5_passMinute_30q, tX5_passMinute_31, tX5_passMinute_32, tX5_passMinute_35, tX5_passMinute_36, tX5_passMinute_37, tX5_passMinute_40, tX5_passMinute_41, tX5_passMinute_44, tX5_passMinute_45, tX5_passMinute_45q, tX5_passMinute_46, tX5_passMinute_47, tX5_passMinute_50, tX5_passMinute_51, tX5_passMinute_52, tX5_passMinute_55, tX5_passMinute_56, tX5_passMinute_59, tX5_passMinute_61, tX5_passMinute_62, tX5_passMinute_63, tX5_passMinute_64, tX5_passMinute_67, tX5_passMinute_70, tX5_passMinute_71, tX5_passMinute_74, tX5_passMinute_75, tX5_passMinute_77, tX5_passMinute_78, tX5_passMinute_81, tX5_passMinute_84, tX5_passMinute_85, jK_some, jK_none, jc1_int, jc1_ref, jc1_none, jc1_long, jc1_null, jc1_rf, va_rf_some, va_rf_none, mI_same, mL_same, mR_same, mI_ne, mL_ne, mR_ne, cI_cI, cL_cL, jup_eq, mL_cI, mR_cI, mS_cI, mN_cI, mI_cL, mR_cL, mS_cL, mN_cL, mI_cR, mL_cR, mS_cR, mN_cR, true_and, and_true, true_or, or_true, if_true, if_false, jBool_0, jBool_1, Nat.le_refl, Nat.reduceLeDiff, Nat.reduceEqDiff, Nat.reduceAdd, Nat.reduceSub, reduceIte, Int32.reduceLT, Int32.reduceLE, ne_eq, not_false_eq_true, not_true_eq_false, false_or, or_false, and_false, false_and, reduceCtorEq, jn_4, jn_6, jn_8, jn_9, jn_12, jn_60, jn_100, jn_200, jn_400, jn_600, jn_601, jn_3600, jI_4, jI_6, jI_8, jI_9, jI_12, jI_60, jI_100, jI_200, jI_400, jI_600, jI_601, jI_3600, va_cpy_00, jx_0, jx_6, jx_12, jx_400, jx_600, nI_1, mS_jDk, mR_jDk, mI_jDk, h, hF, hM, he, H1, H2, c_hold9 (Z := 99) (by decide), c_hold9 (Z := 999) (by decide)]
  rw [s8, getD_mind (by decide) hG1.2.2.2.1.2.2.1, s7, getD_mind (by decide) hG1.2.2.2.1.2.1, show kMind (kFirst (kWd (kLl Kf) P) Km 1) (qS P 12) 99 = kPull Kf Km P from rfl, show kMind (kFirst (kWd (kLl Kf) P) Km 2) (qS P 11) 999 = kHeat Kf Km P from rfl, jDk_cI (by omega)]
  generalize hpl : kPull Kf Km P = pl
  generalize hht : kHeat Kf Km P = ht'
  have hD : ∀ F s, DeskL (mS (jDk (cI (cL m (e + 1) W1) a F) e s)) (mR (jDk (cI (cL m (e + 1) W1) a F) e s)) e := fun _ _ => he
  have hD2 : ∀ F s V, DeskL (mS (jDk (cL (cI (cL m (e + 1) W1) a F) (e + 1) V) e s)) (mR (jDk (cL (cI (cL m (e + 1) W1) a F) (e + 1) V) e s)) e := fun _ _ _ => he
  simp (config := {decide := true}) (disch := first | omega | assumption | (simp only [mS_cL, mS_cI, mS_cR, mR_cL, mR_cI]; first | assumption | exact hcr _ | fail)) only [tX5_passMinute_88, tX5_passMinute_88q, tX5_passMinute_89, tX5_passMinute_90, tX5_passMinute_91, tX5_passMinute_94, tX5_passMinute_95, jK_some, jK_none, jc1_int, jc1_ref, jc1_none, jc1_long, jc1_null, jc1_rf, va_rf_some, va_rf_none, mI_same, mL_same, mR_same, mI_ne, mL_ne, mR_ne, cI_cI, cL_cL, jup_eq, mL_cI, mR_cI, mS_cI, mN_cI, mI_cL, mR_cL, mS_cL, mN_cL, mI_cR, mL_cR, mS_cR, mN_cR, true_and, and_true, true_or, or_true, if_true, if_false, jBool_0, jBool_1, Nat.le_refl, Nat.reduceLeDiff, Nat.reduceEqDiff, Nat.reduceAdd, Nat.reduceSub, reduceIte, Int32.reduceLT, Int32.reduceLE, ne_eq, not_false_eq_true, not_true_eq_false, false_or, or_false, and_false, false_and, reduceCtorEq, jn_4, jn_6, jn_8, jn_9, jn_12, jn_60, jn_100, jn_200, jn_400, jn_600, jn_601, jn_3600, jI_4, jI_6, jI_8, jI_9, jI_12, jI_60, jI_100, jI_200, jI_400, jI_600, jI_601, jI_3600, va_cpy_00, jx_0, jx_6, jx_12, jx_400, jx_600, nI_1, mS_jDk, mR_jDk, mI_jDk, mL_jDk, h, hF, hM, he, c_Desk_tell4 (hD _ _), jDk_cL]
  simp (config := {decide := true}) (disch := first | omega | assumption | (simp only [mS_cL, mS_cI, mS_cR, mR_cL, mR_cI]; first | assumption | exact hcr _ | fail)) only [tX5_passMinute_98, tX5_passMinute_98q, tX5_passMinute_99, tX5_passMinute_100, tX5_passMinute_101, tX5_passMinute_104, mS_jDk, mR_jDk, mS_cL, mS_cI, h, true_and]
  rw [tX5_passMinute_105, show mI (jDk (cL (cI (cL m (e + 1) W1) a (jup (jup (mI m a) 8 pl) 7 ht')) (e + 1) (jup W1 4 ht'.toInt64)) e q2) a 8 = pl from by rw [mI_jDk (by omega), mI_cL, mI_same]; rfl, c_Desk_tell5 (hD2 _ _ _), jDk_cL (by omega), mL_jDk, mL_same, cL_cL]
  simp only [mS_jDk, mR_jDk, mS_cL, mS_cI, he, true_and, jK_none]
  generalize hE : (cL (cI (cL m (e + 1) W1) a (jup (jup (mI m a) 8 pl) 7 ht')) (e + 1) (jup (jup W1 4 ht'.toInt64) 5 pl.toInt64)) = E
  have hW3 : kAg (mL E (e + 1)) (jup (jup (kWd (kLl Kf) P) 4 ht'.toInt64) 5 pl.toInt64) := by
    intro k hk
    rw [← hE, mL_same, jup_eq, jup_eq, jup_eq, jup_eq, hW1' k hk]
  have hES : mS E = mS m := by rw [← hE]; rfl
  have hER : mR E = mR m := by rw [← hE]; rfl
  have hEI : ∀ b, b ≠ a → mI E b = mI m b := fun b hb => by rw [← hE, mI_cL, mI_ne hb, mI_cL]
  have hEa : mI E a = jup (jup (mI m a) 8 pl) 7 ht' := by rw [← hE, mI_cL, mI_same]
  have hEL : ∀ b, b ≠ e + 1 → mL E b = mL m b := fun b hb => by rw [← hE, mL_ne hb, mL_cI, mL_ne hb]
  have hfE : LX E f Kf := by
    obtain ⟨f1, f2, f3, f4, f5, p, f6⟩ := hf
    refine ⟨by rw [hES, hER]; exact f1, ?_⟩
    rw [hEI f (by omega), hEI (f + 1) (by omega), hEI (f + 2) (by omega), hEI (f + 3) (by omega), hEI (f + 4) (by omega), hEI (f + 5) (by omega)]
    exact ⟨f2, f3, f4, f5, p, f6⟩
  obtain ⟨q3, H3⟩ := X_first (d := d + 4) (m := E) (x := 0) (X := 0) (s := q2) (by rw [hES, hER]; exact he) hfE kf fe fj hW3
  have hPE : PotL (mS (jDk E e q3)) (mR (jDk E e q3)) a := by rw [mS_jDk, mR_jDk, hES, hER]; exact h
  simp (config := {decide := true}) (disch := first | omega | assumption | (simp only [mS_cL, mS_cI, mS_cR, mR_cL, mR_cI]; first | assumption | exact hcr _ | fail)) only [tX5_passMinute_108, tX5_passMinute_108q, tX5_passMinute_109, tX5_passMinute_110, tX5_passMinute_113, tX5_passMinute_114, tX5_passMinute_115, tX5_passMinute_118, tX5_passMinute_121, tX5_passMinute_124, tX5_passMinute_127, tX5_passMinute_129, tX5_passMinute_130, tX5_passMinute_131, tX5_passMinute_134, tX5_passMinute_135, tX5_passMinute_137, tX5_passMinute_138, jK_some, jK_none, jc1_int, jc1_ref, jc1_none, jc1_long, jc1_null, jc1_rf, va_rf_some, va_rf_none, mI_same, mL_same, mR_same, mI_ne, mL_ne, mR_ne, cI_cI, cL_cL, jup_eq, mL_cI, mR_cI, mS_cI, mN_cI, mI_cL, mR_cL, mS_cL, mN_cL, mI_cR, mL_cR, mS_cR, mN_cR, true_and, and_true, true_or, or_true, if_true, if_false, jBool_0, jBool_1, Nat.le_refl, Nat.reduceLeDiff, Nat.reduceEqDiff, Nat.reduceAdd, Nat.reduceSub, reduceIte, Int32.reduceLT, Int32.reduceLE, ne_eq, not_false_eq_true, not_true_eq_false, false_or, or_false, and_false, false_and, reduceCtorEq, jn_4, jn_6, jn_8, jn_9, jn_12, jn_60, jn_100, jn_200, jn_400, jn_600, jn_601, jn_3600, jI_4, jI_6, jI_8, jI_9, jI_12, jI_60, jI_100, jI_200, jI_400, jI_600, jI_601, jI_3600, va_cpy_00, jx_0, jx_6, jx_12, jx_400, jx_600, nI_1, mS_jDk, mR_jDk, hES, hER, h, hF, hM, he, H3, c_holdpm, getD_more]
  obtain ⟨E2, hE2, e2S, e2R, e2N, e2Z, e2I, e2a, e2L, e2t⟩ : ∃ E2, jDk E e q3 = E2 ∧ mS E2 = mS m ∧ mR E2 = mR m ∧ mN E2 = mN m ∧ mZ E2 = mZ m ∧ (∀ b, b ≠ a → b ≠ e → mI E2 b = mI m b) ∧ mI E2 a = jup (jup (mI m a) 8 pl) 7 ht' ∧ (∀ b, b ≠ e + 1 → b ≠ e + 2 → mL E2 b = mL m b) ∧ ∃ t, mI E2 e 2 = nI t := by
    refine ⟨_, rfl, hES, hER, ?_, ?_, ?_, ?_, ?_, q3.2, ?_⟩
    · rw [← hE]; rfl
    · rw [← hE]; rfl
    · intro b h1 h2; rw [mI_jDk h2, hEI b h1]
    · rw [mI_jDk (by omega), hEa]
    · intro b h1 h2; unfold jDk; rw [mL_ne h2, mL_cI, hEL b h1]
    · unfold jDk; rw [mI_cL, mI_same, jup_same]
  rw [hE2]
  clear hE2 H3 hD hD2 hm1 H1 H2
  have hP2 : PotL (mS E2) (mR E2) a := by rw [e2S, e2R]; exact h
  have hF2 : mR E2 a 1 = some f := by rw [e2R]; exact hF
  have hf2 : LawL (mS E2) (mR E2) f := by rw [e2S, e2R]; exact hf.1
  have hz2 : (2 * jpos (mI E2 f 7) + 1).toInt64 ≠ 0 := by rw [e2I f (by omega) (by omega)]; exact hz
  simp (config := {decide := true}) (disch := first | omega | assumption | (simp only [mS_cL, mS_cI, mS_cR, mR_cL, mR_cI]; first | assumption | exact hcr _ | fail)) only [tX5_passMinute_139, tX5_passMinute_142, tX5_passMinute_143, tX5_passMinute_144, tX5_passMinute_147, tX5_passMinute_150, tX5_passMinute_151, jK_some, jK_none, jc1_int, jc1_ref, jc1_none, jc1_long, jc1_null, jc1_rf, va_rf_some, va_rf_none, mI_same, mL_same, mR_same, mI_ne, mL_ne, mR_ne, cI_cI, cL_cL, jup_eq, mL_cI, mR_cI, mS_cI, mN_cI, mI_cL, mR_cL, mS_cL, mN_cL, mI_cR, mL_cR, mS_cR, mN_cR, true_and, and_true, true_or, or_true, if_true, if_false, jBool_0, jBool_1, Nat.le_refl, Nat.reduceLeDiff, Nat.reduceEqDiff, Nat.reduceAdd, Nat.reduceSub, reduceIte, Int32.reduceLT, Int32.reduceLE, ne_eq, not_false_eq_true, not_true_eq_false, false_or, or_false, and_false, false_and, reduceCtorEq, jn_4, jn_6, jn_8, jn_9, jn_12, jn_60, jn_100, jn_200, jn_400, jn_600, jn_601, jn_3600, jI_4, jI_6, jI_8, jI_9, jI_12, jI_60, jI_100, jI_200, jI_400, jI_600, jI_601, jI_3600, va_cpy_00, jx_0, jx_6, jx_12, jx_400, jx_600, nI_1, h, e2S, e2R, c_Pot_swirled hP2 hF2 hf2 hz2, c_hold9 (Z := 9999) (by decide), e2a]
  have ew : (kHeld ((mI m a 6).toInt64 + kMore (kFirst (jup (jup (kWd (kLl Kf) P) 4 ht'.toInt64) 5 pl.toInt64) Kf 0) + jSwirl (jSeed (mL E2 a 4)) (jpos (mI E2 f 7))) 0 9999).toInt32 = kWide Kf Km P := by
    unfold kWide kW2 kSd
    rw [hpl, hht, s6, e2I f (by omega) (by omega), hf.2.2.1, e2L a (by omega) (by omega), s4]
  rw [ew]
  have ewr := kWide_in (Kf := Kf) (Km := Km) (P := P)
  have eGr : kGrown Kf Km P = kHeld (pl.toInt64 * (kWide Kf Km P).toInt64 * (kWide Kf Km P).toInt64 / 100000) 0 (qS P 9).toInt64 := by unfold kGrown; rw [hpl]
  have eMin : kMin Kf Km P = kMinG pl ht' (kWide Kf Km P) (kGrown Kf Km P) (kSd P) (kLg Kf) P := by unfold kMin; rw [hpl, hht]
  have hpr := kPull_in (Kf := Kf) (Km := Km) hG1.2.2.2.1
  rw [hpl] at hpr
  rw [eMin] at hQ
  generalize kWide Kf Km P = wd at *
  generalize kGrown Kf Km P = G at *
  obtain ⟨E3, hE3, e3S, e3R, e3N, e3Z, e3I, e3a, e3La, e3L, e3t⟩ : ∃ E3, cI (cL E2 a (jup (mL E2 a) 4 (jSeed (mL E2 a 4)))) a (jup (jup (jup (mI m a) 8 pl) 7 ht') 6 wd) = E3 ∧ mS E3 = mS m ∧ mR E3 = mR m ∧ mN E3 = mN m ∧ mZ E3 = mZ m ∧ (∀ b, b ≠ a → b ≠ e → mI E3 b = mI m b) ∧ mI E3 a = jup (jup (jup (mI m a) 8 pl) 7 ht') 6 wd ∧ mL E3 a = jup (mL m a) 4 (kSd P) ∧ (∀ b, b ≠ a → b ≠ e + 1 → b ≠ e + 2 → mL E3 b = mL m b) ∧ ∃ t, mI E3 e 2 = nI t := by
    refine ⟨_, rfl, e2S, e2R, e2N, e2Z, ?_, mI_same, ?_, ?_, ?_⟩
    · intro b h1 h2; rw [mI_ne h1, mI_cL, e2I b h1 h2]
    · rw [mL_cI, mL_same, e2L a (by omega) (by omega), s4]; rfl
    · intro b h1 h2 h3; rw [mL_cI, mL_ne h1, e2L b h2 h3]
    · rw [mI_ne (by omega), mI_cL]; exact e2t
  rw [hE3]
  clear hE3 ew e2S e2R e2N e2Z e2I e2a e2L e2t hP2 hF2 hf2 hz2
  have hP3 : PotL (mS E3) (mR E3) a := by rw [e3S, e3R]; exact h
  have hn3 : mI E3 a 11 = nI n := by rw [e3a]; exact hn11
  have hadd := fun Q => c_Pot_addRow (d := d + 3) (Q := Q) hP3 hn3 h6 (by rw [e3R]; exact hF) (by rw [e3S, e3R]; exact hf.1)
  rw [tX5_passMinute_154, tX5_passMinute_155, hadd]
  have e35 : mI E3 a 5 = qS P 9 := by rw [e3a]; exact s5
  have e36 : mI E3 a 6 = wd := by rw [e3a]; rfl
  have e38 : mI E3 a 8 = pl := by rw [e3a]; rfl
  have e39 : mI E3 a 9 = qS P 13 := by rw [e3a]; exact s9
  have hleft : 0 ≤ (qS P 9).toInt := Int.le_trans (by decide) (hG1.2.2.2.2.1 h1).2.1
  rw [e35, e36, e38, jGrown_eq hpr ewr hleft, ← eGr]
  obtain ⟨st, hst⟩ : ∃ st, jfor (stAdd (jgiv (mI E3 f 9)) (mI E3 (a + 3)) G.toInt32 (mI E3 a 5) n) 0 6 (mL E3 (a + 10), mL E3 (a + 9)) = st := ⟨_, rfl⟩
  obtain ⟨E4, hE4, e4S, e4R, e4N, e4Z, e4I, e4a, e44, e45, e46, e47, e48, e49, e410, e4L, e4t⟩ : ∃ E4, jAddRow E3 a f n G.toInt32 = E4 ∧ mS E4 = mS m ∧ mR E4 = mR m ∧ mN E4 = mN m ∧ mZ E4 = mZ m ∧ (∀ b, b ≠ a → (b < a + 4 ∨ a + 8 < b) → b ≠ e → mI E4 b = mI m b) ∧ mI E4 a = jup (jup (jup (jup (jup (jup (mI m a) 8 pl) 7 ht') 6 wd) 5 (qS P 9 - G.toInt32)) 9 (qS P 13 + pl)) 11 (nI (n + 1)) ∧ mI E4 (a + 4) = jup (mI m (a + 4)) n wd ∧ mI E4 (a + 5) = jup (mI m (a + 5)) n ht' ∧ mI E4 (a + 6) = jup (mI m (a + 6)) n pl ∧ mI E4 (a + 7) = jup (mI m (a + 7)) n G.toInt32 ∧ mI E4 (a + 8) = jup (mI m (a + 8)) n 0 ∧ mL E4 (a + 9) = st.2 ∧ mL E4 (a + 10) = st.1 ∧ (∀ b, b ≠ a + 9 → b ≠ a + 10 → mL E4 b = mL E3 b) ∧ ∃ t, mI E4 e 2 = nI t := by
    refine ⟨_, rfl, e3S, e3R, e3N, e3Z, ?_, ?_, ?_, ?_, ?_, ?_, ?_, ?_, ?_, ?_, ?_⟩ <;> unfold jAddRow
    · intro b h1 h2 h3; rw [mI_ne h1, mI_ne (by omega), mI_ne (by omega), mI_ne (by omega), mI_ne (by omega), mI_ne (by omega), mI_cL, mI_cL, e3I b h1 h3]
    · rw [mI_same, e35, e39, e38, e3a]
    · rw [mI_ne (by omega), mI_ne (by omega), mI_ne (by omega), mI_ne (by omega), mI_ne (by omega), mI_same, e3I (a + 4) (by omega) (by omega), e36]
    · rw [mI_ne (by omega), mI_ne (by omega), mI_ne (by omega), mI_ne (by omega), mI_same, e3I (a + 5) (by omega) (by omega), e3a]; rfl
    · rw [mI_ne (by omega), mI_ne (by omega), mI_ne (by omega), mI_same, e3I (a + 6) (by omega) (by omega), e38]
    · rw [mI_ne (by omega), mI_ne (by omega), mI_same, e3I (a + 7) (by omega) (by omega)]
    · rw [mI_ne (by omega), mI_same, e3I (a + 8) (by omega) (by omega)]
    · rw [hst, mL_cI, mL_cI, mL_cI, mL_cI, mL_cI, mL_cI, mL_same]
    · rw [hst, mL_cI, mL_cI, mL_cI, mL_cI, mL_cI, mL_cI, mL_ne (by omega), mL_same]
    · intro b h1 h2; rw [mL_cI, mL_cI, mL_cI, mL_cI, mL_cI, mL_cI, mL_ne h1, mL_ne h2]
    · rw [mI_ne (by omega), mI_ne (by omega), mI_ne (by omega), mI_ne (by omega), mI_ne (by omega), mI_ne (by omega), mI_cL, mI_cL]; exact e3t
  rw [hE4, jK_none]
  refine ⟨by rw [e3S, h.1], ?_⟩
  have hP4 : ∀ F, PotL (mS (cI E4 a F)) (mR (cI E4 a F)) a := fun F => by rw [mS_cI, mR_cI, e4S, e4R]; exact h
  simp (config := {decide := true}) (disch := first | omega | assumption | (simp only [mS_cL, mS_cI, mS_cR, mR_cL, mR_cI]; first | assumption | exact hcr _ | fail)) only [tX5_passMinute_158, tX5_passMinute_159, tX5_passMinute_160, tX5_passMinute_163, tX5_passMinute_164, tX5_passMinute_165, tX5_passMinute_168, tX5_passMinute_169, tX5_passMinute_170, tX5_passMinute_173, tX5_passMinute_176, jK_none, jK_some, jc1_int, jc1_ref, jc1_none, jc1_long, mS_cI, e4S, h, true_and, c_Pot_howBehind (hP4 _), mI_same, cI_cI]
  have hsdr := kSd_in (P := P) hG1.2.2.2.1.2.2.2.2
  generalize kSd P = sd at *
  have hGr : G.toInt32.toInt64 = G := by
    have h9 := i32_r (qS P 9)
    have hG0 := kHeld_in (v := pl.toInt64 * wd.toInt64 * wd.toInt64 / 100000) (lo := 0) (hi := (qS P 9).toInt64) (by rw [t64_i]; exact hleft)
    rw [← eGr, t64_i] at hG0
    have e0 : (0 : Int64).toInt = 0 := by decide
    exact t32_64 (by omega) (by omega)
  have ej : jx (qS P 15) = n := by rw [hn, jx_nI (by omega)]
  obtain ⟨v9, v10, v15, v7, v14⟩ := kNumG_v (pl := pl) (ht := ht') (wd := wd) (G := G) (sd := sd) (P := P)
  have hhow : (if jup (mI E4 a) 10 (mI E4 a 10 + 1) 5 = 0 then (2 : Int32) else if jup (mI E4 a) 10 (mI E4 a 10 + 1) 6 = 0 then 3 else if 600 ≤ jup (mI E4 a) 10 (mI E4 a 10 + 1) 11 then 4 else if mI (cI E4 a (jup (mI E4 a) 10 (mI E4 a 10 + 1))) (a + 1) 4 ≤ jup (mI E4 a) 10 (mI E4 a 10 + 1) 10 then 5 else 1) = kHow (kNumG pl ht' wd G sd P) := by
    have c5 : jup (mI E4 a) 10 (mI E4 a 10 + 1) 5 = kNumG pl ht' wd G sd P 9 := by rw [e4a, v9]; simp [jup_eq]
    have c6 : jup (mI E4 a) 10 (mI E4 a 10 + 1) 6 = kNumG pl ht' wd G sd P 10 := by rw [e4a, v10]; simp [jup_eq]
    have c11 : (600 ≤ jup (mI E4 a) 10 (mI E4 a 10 + 1) 11) ↔ kNumG pl ht' wd G sd P 15 = 600 := by
      have x1 : jup (mI E4 a) 10 (mI E4 a 10 + 1) 11 = nI (n + 1) := by rw [e4a]; simp [jup_eq]
      have x2 : kNumG pl ht' wd G sd P 15 = nI (n + 1) := by rw [v15, hn, nI_1]
      rw [x1, x2, show (600 : Int32) = nI 600 from rfl, nI_leI (by omega) (by omega), nI_eqI (by omega) (by omega)]
      omega
    have c4 : mI (cI E4 a (jup (mI E4 a) 10 (mI E4 a 10 + 1))) (a + 1) 4 = kNumG pl ht' wd G sd P 7 := by rw [mI_ne (by omega), e4I (a + 1) (by omega) (by omega) (by omega), v7]; exact t4
    have c10 : jup (mI E4 a) 10 (mI E4 a 10 + 1) 10 = kNumG pl ht' wd G sd P 14 := by
      rw [e4a, v14, ← s10]; simp [jup_eq]
    unfold kHow
    rw [c5, c6, c4, c10]
    simp only [c11]
  rw [hhow]
  obtain ⟨f1, f2⟩ := stAdd_for (gv := jgiv (mI E3 f 9)) (sh := mI E3 (a + 3)) (grown := G.toInt32) (left := mI E3 a 5) (n := n) 6 0 (mL E3 (a + 10), mL E3 (a + 9))
  obtain ⟨g1, g2, g3⟩ := kStuff_for (g := G) (L := (qS P 9).toInt64) (sh := qH P) (i := n) 6 0 (jup (qM P) 5 (qM P 5 + (kLg Kf).toInt64), qB P)
  rw [hst] at f1 f2
  have hMk : ∀ k, k < 6 → mL E3 (a + 10) k + (jgiv (mI E3 f 9) k).toInt64 = jup (qM P) 5 (qM P 5 + (kLg Kf).toInt64) k := by
    intro k hk
    rw [e3L (a + 10) (by omega) (by omega) (by omega), (hr k hk).2.2, e3I f (by omega) (by omega), jup_eq]
    unfold jgiv
    by_cases e5 : k = 5
    · subst e5
      rw [if_pos rfl, if_pos rfl, show (if 0 < mI m f 9 then mI m f 9 else 0) = kLg Kf from hf.2.2.2.2.1]
    · rw [if_neg e5, if_neg e5, show (0 : Int32).toInt64 = 0 from rfl, Int64.add_zero]
  have hL0 : (qS P 9).toInt64 ≠ 0 := fun e => by
    have := (hG1.2.2.2.2.1 h1).2.1
    rw [t64_0.mp e] at this
    exact absurd this (by decide)
  have hal : ∀ M sh, jalong M G (qS P 9).toInt64 sh = kGoes M G (qS P 9).toInt64 sh := by
    intro M sh
    unfold jalong kGoes
    rw [if_neg hL0]
    by_cases x1 : M * G / (qS P 9).toInt64 * sh / 1000 < M
    · rw [if_pos x1, if_neg (Int64.not_lt.mpr (Int64.le_of_lt x1))]
    · rw [if_neg x1]
      by_cases x2 : M < M * G / (qS P 9).toInt64 * sh / 1000
      · rw [if_pos x2]
      · rw [if_neg x2]; exact Int64.le_antisymm (Int64.not_lt.mp x1) (Int64.not_lt.mp x2)
  have hsh : ∀ k, k < 6 → mI E3 (a + 3) k = qH P k := fun k hk => by rw [e3I (a + 3) (by omega) (by omega)]; exact (hr k hk).2.1
  apply hQ
  refine ⟨⟨hP4 _, ⟨⟨?_, ?_, ?_, ?_, ?_, ?_, ?_, ?_⟩, ?_, ⟨?_, ?_, ?_, ?_, ?_, ?_⟩, ?_⟩, ?_, ?_⟩, e4S, e4R, e4N, e4Z, ?_, ?_, ?_⟩
  · rw [mI_same, jup_same, kMinG_S, if_pos rfl]
  · rw [mI_same, e4a, kMinG_S]; simp [jup_eq]
  · rw [mI_same, e4a, kMinG_S]; simp [jup_eq]
  · rw [mI_same, e4a, kMinG_S]; simp [jup_eq]
  · rw [mI_same, e4a, kMinG_S]; simp [jup_eq]
  · rw [mI_same, e4a, kMinG_S]; simp [jup_eq]
  · rw [mI_same, e4a, kMinG_S, ← s10]; simp [jup_eq]
  · rw [mI_same, e4a, kMinG_S, hn]; simp [jup_eq, nI_1]
  · rw [mL_cI, e4L a (by omega) (by omega), e3La]
    rw [kMinG_S]
    show jup (mL m a) 4 sd 4 = (sd.toInt32).toInt64
    rw [jup_same, t32_64 (by omega) hsdr.2]
  · rw [mI_ne (by omega), e4I (a + 1) (by omega) (by omega) (by omega)]; exact t0
  · rw [mI_ne (by omega), e4I (a + 1) (by omega) (by omega) (by omega)]; exact t1
  · rw [mI_ne (by omega), e4I (a + 1) (by omega) (by omega) (by omega)]; exact t2
  · rw [mI_ne (by omega), e4I (a + 1) (by omega) (by omega) (by omega)]; exact t3
  · rw [mI_ne (by omega), e4I (a + 1) (by omega) (by omega) (by omega)]; exact t4
  · rw [mI_ne (by omega), e4I (a + 1) (by omega) (by omega) (by omega)]; exact t5
  · intro _
    rw [mR_cI, e4R]
    exact hX'.2.1.2.2.2 (by rw [h1]; decide)
  · intro k hk
    refine ⟨?_, ?_, ?_⟩
    · rw [mI_ne (by omega), e4I (a + 2) (by omega) (by omega) (by omega)]; exact (hr k hk).1
    · rw [mI_ne (by omega), e4I (a + 3) (by omega) (by omega) (by omega)]; exact (hr k hk).2.1
    · rw [mL_cI, e410, f1 k, if_pos (by omega)]
      show _ = (kStuffsG G (kLg Kf) P (jx (qS P 15))).1 k
      rw [ej]
      unfold kStuffsG
      rw [g1 k, if_pos (by omega)]
      simp only [hMk k hk, hGr, e35, hsh k hk, hal]
  · intro r hr'
    have hr' : r < n + 1 := by
      have e15 : jx (qS P 15 + 1) = n + 1 := by rw [hn, nI_1, jx_nI (by omega)]
      have hr' : r < jx (qS P 15 + 1) := hr'
      omega
    rw [ej] at hrow
    refine ⟨⟨?_, ?_, ?_, ?_, ?_⟩, ?_⟩
    · rw [mI_ne (by omega), e44, jup_eq]
      show _ = kRowG pl ht' wd G P (jx (qS P 15)) (6 * r)
      rw [ej]
      by_cases er : r = n
      · subst er; rw [if_pos rfl, kRowG_new.1]
      · rw [if_neg er, kRowG_old (by omega)]; exact (hrow r (by omega)).1.1
    · rw [mI_ne (by omega), e45, jup_eq]
      show _ = kRowG pl ht' wd G P (jx (qS P 15)) (6 * r + 1)
      rw [ej]
      by_cases er : r = n
      · subst er; rw [if_pos rfl, kRowG_new.2.1]
      · rw [if_neg er, kRowG_old (by omega)]; exact (hrow r (by omega)).1.2.1
    · rw [mI_ne (by omega), e46, jup_eq]
      show _ = kRowG pl ht' wd G P (jx (qS P 15)) (6 * r + 2)
      rw [ej]
      by_cases er : r = n
      · subst er; rw [if_pos rfl, kRowG_new.2.2.1]
      · rw [if_neg er, kRowG_old (by omega)]; exact (hrow r (by omega)).1.2.2.1
    · rw [mI_ne (by omega), e47, jup_eq]
      show _ = kRowG pl ht' wd G P (jx (qS P 15)) (6 * r + 3)
      rw [ej]
      by_cases er : r = n
      · subst er; rw [if_pos rfl, kRowG_new.2.2.2.1]
      · rw [if_neg er, kRowG_old (by omega)]; exact (hrow r (by omega)).1.2.2.2.1
    · rw [mI_ne (by omega), e48, jup_eq]
      show _ = kRowG pl ht' wd G P (jx (qS P 15)) (6 * r + 5)
      rw [ej]
      by_cases er : r = n
      · subst er; rw [if_pos rfl, kRowG_new.2.2.2.2.2]
      · rw [if_neg er, kRowG_old (by omega)]; exact (hrow r (by omega)).1.2.2.2.2
    · intro k hk
      rw [mL_cI, e49]
      show _ = (kStuffsG G (kLg Kf) P (jx (qS P 15))).2 (6 * r + k)
      rw [ej]
      unfold kStuffsG
      by_cases er : r = n
      · subst er
        rw [g2 k, if_pos (by omega), f2.1 k, if_pos (by omega)]
        simp only [hMk k hk, hGr, e35, hsh k hk, hal]
      · rw [g3 _ (by omega), f2.2 _ (by omega), e3L (a + 9) (by omega) (by omega) (by omega)]
        exact (hrow r (by omega)).2 k hk
  · intro b h1 h2 h3; rw [mI_ne h1, e4I b h1 h2 h3]
  · intro b h1 h2 h3 h4 h5; rw [mL_cI, e4L b h2 h3, e3L b h1 h4 h5]
  · rw [mI_ne (by omega)]; exact e4t
end XMIN
