/-! ===== span ===== -/
theorem loop_findT {τ : Type} {P : Nat → τ → Prop} {E : Nat → Prop} {n : Nat} {c : Nat → Bool} (hs : ∀ i t, i < n → ∃ t', (P i t ↔ if c i then E i else P (i + 1) t')) (he : ∀ t, P n t ↔ E n) : ∀ k i t, i + k = n → (P i t ↔ E (jfind c i k))
  | 0, i, t, h => by
    have : i = n := by omega
    subst this; exact he t
  | k + 1, i, t, h => by
    obtain ⟨t', h'⟩ := hs i t (by omega)
    rw [h']
    show _ ↔ E (if c i then i else jfind c (i + 1) k)
    cases hc : c i
    · rw [if_neg (by simp), if_neg (by simp)]; exact loop_findT hs he k (i + 1) t' (by omega)
    · rw [if_pos rfl, if_pos rfl]
theorem jfind_lt {c : Nat → Bool} : ∀ k i, (jfind c i k < i + k ↔ ∃ j, i ≤ j ∧ j < i + k ∧ c j = true)
  | 0, i => ⟨fun h => absurd h (by show ¬ i < i + 0; omega), fun ⟨j, h1, h2, _⟩ => by omega⟩
  | k + 1, i => by
    show (if c i then i else jfind c (i + 1) k) < i + (k + 1) ↔ _
    cases hc : c i
    · rw [if_neg (by simp), show i + (k + 1) = i + 1 + k by omega, jfind_lt k (i + 1)]
      constructor
      · rintro ⟨j, h1, h2, h3⟩; exact ⟨j, by omega, h2, h3⟩
      · rintro ⟨j, h1, h2, h3⟩
        refine ⟨j, ?_, h2, h3⟩
        rcases Nat.eq_or_lt_of_le h1 with e | e
        · subst e; rw [hc] at h3; exact absurd h3 (by simp)
        · omega
    · rw [if_pos rfl]
      exact ⟨fun _ => ⟨i, by omega, by omega, hc⟩, fun _ => by omega⟩
section SPN
variable {m m1 m2 m0 : jmM} {nf nm n N g d a k z : Nat} {G : Nat → KLaw} {P P' : Pt} {Q : Option Value → jmM → Prop} {x y u v w lo hi : Int32} {gv sh X M p : Int64}
theorem jparts_b {al g : Int64} (ha : 0 ≤ al.toInt ∧ al.toInt ≤ 1100000000) (hg : 0 ≤ g.toInt ∧ g.toInt ≤ 2147483647) : 0 ≤ (jparts al g).toInt ∧ (jparts al g).toInt ≤ 2000000000000000 := by
  unfold jparts
  by_cases e : g = 0
  · rw [if_pos e]; decide
  · rw [if_neg e]
    have e1 := i64_lN ha.1
    have e2 := i64_lN hg.1
    generalize hB : al.toInt.toNat = B at e1
    generalize hR : g.toInt.toNat = R at e2
    have hR0 : 0 < R := by
      rcases Nat.eq_zero_or_pos R with q | q
      · exfalso; apply e; rw [e2, q]; rfl
      · exact q
    have hBb : B ≤ 1100000000 := by omega
    have hd : B * 1000000 / R ≤ B * 1000000 := Nat.div_le_self _ _
    have hm : B * 1000000 ≤ 1100000000 * 1000000 := Nat.mul_le_mul_right _ hBb
    rw [e1, e2, show (1000000 : Int64) = lN 1000000 from rfl, lN_mul, pk_lDiv (by omega) hR0 (by omega), pk_lT (by omega)]
    generalize B * 1000000 / R = q at hd ⊢
    omega
theorem kLA_le (hG : GP nf nm n P) (h0 : qS P 0 ≠ 0) : ∀ r, r ≤ n → kLA P n r ≤ 99999
  | 0, _ => by
    obtain ⟨-, -, c | ⟨-, c⟩⟩ := hG
    · exact absurd c.1 h0
    · rw [c.2.2.2.2.2.1]
      exact c.2.2.1.1.2
  | r + 1, hr => by
    have := kLA_le hG h0 r (by omega)
    obtain ⟨⟨⟨r1, r2, r3, r4⟩, -⟩, -⟩ := GP_row hG (show r < n by omega)
    rw [r4]; omega
theorem kRm_in (hk : KLaws G nf nm) (hG : GP nf nm n P) (h0 : qS P 0 ≠ 0) (hs : 0 ≤ sh.toInt ∧ sh.toInt ≤ 2000) (hX : 0 ≤ X.toInt ∧ X.toInt ≤ 1000000000) {q : Nat} : ∀ r, r ≤ n → 0 ≤ (kRm (kGv G P q) sh P X r).toInt ∧ (kRm (kGv G P q) sh P X r).toInt ≤ 1000000000 + 9999 * r ∧ (r < n → 0 ≤ (kRv (kGv G P q) sh P r (kRm (kGv G P q) sh P X r)).toInt ∧ (kRv (kGv G P q) sh P r (kRm (kGv G P q) sh P X r)).toInt ≤ (kRm (kGv G P q) sh P X r).toInt + 9999) := by
  have hgv : 0 ≤ (kGv G P q).toInt ∧ (kGv G P q).toInt ≤ 9999 := by
    unfold kGv
    by_cases e : q = 5
    · rw [if_pos e, t64_i]
      obtain ⟨-, -, c | ⟨-, ⟨f, hf, ef⟩, -⟩⟩ := id hG
      · exact absurd c.1 h0
      · have h4 := hk.1
        rw [ef, jx_nI (by omega)]
        have := i32_in (hk.2.2.1 f hf).2.2.2.2.2
        rw [show (0 : Int32).toInt = 0 from rfl, show (9999 : Int32).toInt = 9999 from rfl] at this
        exact this
    · rw [if_neg e]; decide
  have h6 := hG.2.1
  have step : ∀ r, r < n → ∀ M : Int64, 0 ≤ M.toInt ∧ M.toInt ≤ 1000000000 + 9999 * r → (M + kGv G P q).toInt = M.toInt + (kGv G P q).toInt ∧ 0 ≤ (kRv (kGv G P q) sh P r M).toInt ∧ (kRv (kGv G P q) sh P r M).toInt ≤ (M + kGv G P q).toInt := by
    intro r hr M hM
    obtain ⟨⟨⟨r1, r2, r3, r4⟩, -⟩, g1, g2⟩ := GP_row hG hr
    have hla : kLA P n r = (qR P (6 * r + 4)).toInt := by unfold kLA; rw [if_pos hr]
    have e : (M + kGv G P q).toInt = M.toInt + (kGv G P q).toInt := i64_add (by omega) (by omega)
    refine ⟨e, ?_⟩
    have hle : kLA P n r ≤ 99999 := kLA_le hG h0 r (by omega)
    exact kGoes_in (by omega) (by rw [t64_i, t64_i]; omega) (by rw [t64_i]; omega) hs
  intro r
  induction r with
  | zero =>
    intro hr
    have e : kRm (kGv G P q) sh P X 0 = X := rfl
    rw [e]
    refine ⟨hX.1, by omega, fun h => ?_⟩
    obtain ⟨s1, s2, s3⟩ := step 0 h X (by omega)
    omega
  | succ r ih =>
    intro hr
    obtain ⟨i1, i2, -⟩ := ih (by omega)
    have e : kRm (kGv G P q) sh P X (r + 1) = kRm (kGv G P q) sh P X r + kGv G P q - kRv (kGv G P q) sh P r (kRm (kGv G P q) sh P X r) := by
      unfold kRm
      rw [jfor_succ, Nat.zero_add]
    obtain ⟨s1, s2, s3⟩ := step r (by omega) _ ⟨i1, i2⟩
    have e2 : (kRm (kGv G P q) sh P X (r + 1)).toInt = (kRm (kGv G P q) sh P X r).toInt + (kGv G P q).toInt - (kRv (kGv G P q) sh P r (kRm (kGv G P q) sh P X r)).toInt := by
      rw [e, i64_sub (by omega) (by omega), s1]
    refine ⟨by omega, by push_cast; omega, fun h => ?_⟩
    obtain ⟨t1, t2, t3⟩ := step (r + 1) h (kRm (kGv G P q) sh P X (r + 1)) ⟨by omega, by push_cast; omega⟩
    omega
theorem kRp_in (hk : KLaws G nf nm) (hG : GP nf nm n P) (h0 : qS P 0 ≠ 0) (hs : 0 ≤ sh.toInt ∧ sh.toInt ≤ 2000) (hX : 0 ≤ X.toInt ∧ X.toInt ≤ 1000000000) {q r : Nat} (hr : r < n) : 0 ≤ (kRp (kGv G P q) sh P X r).toInt ∧ (kRp (kGv G P q) sh P X r).toInt ≤ 2000000000000000 := by
  obtain ⟨h1, h2, h3⟩ := kRm_in (q := q) hk hG h0 hs hX r (by omega)
  have h6 := hG.2.1
  obtain ⟨⟨⟨r1, r2, r3, r4⟩, -⟩, -⟩ := GP_row hG hr
  have hb := i32_r (qR P (6 * r + 3))
  unfold kRp
  exact jparts_b ⟨(h3 hr).1, by have := (h3 hr).2; omega⟩ (by rw [t64_i]; omega)
/-- a slice that speaks against parts p at row r -/
def kAg1 (S : Nat → Int32) (x : Int32) (r : Nat) (p : Int64) (i : Nat) : Bool := decide (S (4 * i) = nI r) && decide (S (4 * i + 1) = x) && !(decide ((-(S (4 * i + 3))).toInt64 ≤ p - (S (4 * i + 2)).toInt64) && decide (p - (S (4 * i + 2)).toInt64 ≤ (S (4 * i + 3)).toInt64))
theorem c_M_fits (hl : MLay (mS m) (mR m) 195) (hz : mI m 195 47 = nI z) (h1 : z ≤ 100) : CC (d + 2) 284 [.ref 195, .int x, .int (nI k), .long p] m Q ↔ Q (some (.int (if jfind (kAg1 (mI m 223) x k p) 0 z < z then 0 else 1))) m := by
  rw [nX12_fits]
  simp (config := {decide := true}) (disch := first | omega | assumption | (simp only [mS_cL, mS_cI, mS_cR, mR_cL, mR_cI]; first | assumption | exact hcr _ | fail)) only [tX12_fits_0, tX12_fits_1, tX12_fits_5, tX12_fits_6, tX12_fits_9, tX12_fits_12, tX12_fits_13, tX12_fits_14, tX12_fits_17, tX12_fits_18, tX12_fits_20, tX12_fits_21, tX12_fits_22, tX12_fits_23, tX12_fits_24, tX12_fits_25, tX12_fits_26, tX12_fits_28, tX12_fits_29, tX12_fits_32, tX12_fits_33, tX12_fits_35, tX12_fits_36, tX12_fits_37, tX12_fits_38, tX12_fits_41, tX12_fits_42, tX12_fits_45, tX12_fits_46, tX12_fits_48, tX12_fits_49, tX12_fits_50, tX12_fits_51, tX12_fits_52, tX12_fits_53, tX12_fits_56, tX12_fits_58, tX12_fits_59, tX12_fits_62, tX12_fits_63, tX12_fits_65, tX12_fits_66, tX12_fits_67, tX12_fits_68, tX12_fits_69, tX12_fits_70, tX12_fits_71, tX12_fits_72, tX12_fits_75, tX12_fits_76, tX12_fits_78, tX12_fits_79, tX12_fits_80, tX12_fits_81, tX12_fits_82, tX12_fits_83, tX12_fits_86, tX12_fits_89, tX12_fits_90, tX12_fits_91, tX12_fits_94, tX12_fits_97, tX12_fits_98, jK_some, jK_none, jc1_int, jc1_ref, jc1_none, jc1_long, jc1_null, jc1_rf, va_rf_some, va_rf_none, mI_cI, mL_cL, mR_cR, cI_cI, cL_cL, jup_eq, jne_1, jne_2, Nat.add_left_cancel_iff, mL_cI, mR_cI, mS_cI, mN_cI, mI_cL, mR_cL, mS_cL, mN_cL, mI_cR, mL_cR, mS_cR, mN_cR, true_and, and_true, true_or, or_true, if_true, if_false, jBool_0, jBool_1, Nat.le_refl, Nat.reduceLeDiff, Nat.reduceEqDiff, Nat.reduceAdd, Nat.reduceSub, reduceIte, Int32.reduceLT, Int32.reduceLE, ne_eq, not_false_eq_true, not_true_eq_false, false_or, or_false, and_false, false_and, reduceCtorEq, jn_4, jn_6, jn_8, jn_9, jn_12, jn_60, jn_100, jn_200, jn_400, jn_600, jn_601, jn_3600, jI_4, jI_6, jI_8, jI_9, jI_12, jI_60, jI_100, jI_200, jI_400, jI_600, jI_601, jI_3600, va_cpy_00, jx_0, jx_6, jx_12, jx_400, jx_600, nI_1]
  refine loop_findT (n := z) (c := kAg1 (mI m 223) x k p) (P := fun i (τ : Option Value × Option Value) => AW (d + 1) 284 3 [some (.ref 195), some (.int x), some (.int (nI k)), some (.long p), none, some (.int (nI i)), τ.1, τ.2] [] m Q) (E := fun i => Q (some (.int (if i < z then 0 else 1))) m) ?_ ?_ z 0 (none, none) (by omega)
  · intro i τ hi
    refine ⟨(some (.long (p - (mI m 223 (4 * i + 2)).toInt64)), none), ?_⟩
    rw [tX12_fits_3]
    unfold kAg1
    by_cases c1 : mI m 223 (4 * i) = nI k
    · by_cases c2 : mI m 223 (4 * i + 1) = x
      · by_cases c3 : (-(mI m 223 (4 * i + 3))).toInt64 ≤ p - (mI m 223 (4 * i + 2)).toInt64 ∧ p - (mI m 223 (4 * i + 2)).toInt64 ≤ (mI m 223 (4 * i + 3)).toInt64
        · simp (config := {decide := true}) (disch := first | omega | assumption | (simp only [mS_cL, mS_cI, mS_cR, mR_cL, mR_cI]; first | assumption | exact hcr _ | fail)) only [tX12_fits_0, tX12_fits_1, tX12_fits_5, tX12_fits_6, tX12_fits_9, tX12_fits_12, tX12_fits_13, tX12_fits_14, tX12_fits_17, tX12_fits_18, tX12_fits_20, tX12_fits_21, tX12_fits_22, tX12_fits_23, tX12_fits_24, tX12_fits_25, tX12_fits_26, tX12_fits_28, tX12_fits_29, tX12_fits_32, tX12_fits_33, tX12_fits_35, tX12_fits_36, tX12_fits_37, tX12_fits_38, tX12_fits_41, tX12_fits_42, tX12_fits_45, tX12_fits_46, tX12_fits_48, tX12_fits_49, tX12_fits_50, tX12_fits_51, tX12_fits_52, tX12_fits_53, tX12_fits_56, tX12_fits_58, tX12_fits_59, tX12_fits_62, tX12_fits_63, tX12_fits_65, tX12_fits_66, tX12_fits_67, tX12_fits_68, tX12_fits_69, tX12_fits_70, tX12_fits_71, tX12_fits_72, tX12_fits_75, tX12_fits_76, tX12_fits_78, tX12_fits_79, tX12_fits_80, tX12_fits_81, tX12_fits_82, tX12_fits_83, tX12_fits_86, tX12_fits_89, tX12_fits_90, tX12_fits_91, tX12_fits_94, tX12_fits_97, tX12_fits_98, jK_some, jK_none, jc1_int, jc1_ref, jc1_none, jc1_long, jc1_null, jc1_rf, va_rf_some, va_rf_none, mI_cI, mL_cL, mR_cR, cI_cI, cL_cL, jup_eq, jne_1, jne_2, Nat.add_left_cancel_iff, mL_cI, mR_cI, mS_cI, mN_cI, mI_cL, mR_cL, mS_cL, mN_cL, mI_cR, mL_cR, mS_cR, mN_cR, true_and, and_true, true_or, or_true, if_true, if_false, jBool_0, jBool_1, Nat.le_refl, Nat.reduceLeDiff, Nat.reduceEqDiff, Nat.reduceAdd, Nat.reduceSub, reduceIte, Int32.reduceLT, Int32.reduceLE, ne_eq, not_false_eq_true, not_true_eq_false, false_or, or_false, and_false, false_and, reduceCtorEq, jn_4, jn_6, jn_8, jn_9, jn_12, jn_60, jn_100, jn_200, jn_400, jn_600, jn_601, jn_3600, jI_4, jI_6, jI_8, jI_9, jI_12, jI_60, jI_100, jI_200, jI_400, jI_600, jI_601, jI_3600, va_cpy_00, jx_0, jx_6, jx_12, jx_400, jx_600, nI_1, nx_5e, nx_l6, nx_l12, nx_l100, nx_l200, nx_l400, nx_l600, nx_l601, nx_l3600, nx_pos, nx_posN, nx_neg1, nx_m1neg, nx_leF, nx_leT, nx_ltF, nx_ltT, nx_mul6, nI_add, nI_1, jx_nI, nx_4, nx_g4, nx_6, nx_g6, nx_8, nx_g8, nx_9, nx_g9, nx_12, nx_g12, nx_14, nx_g14, nx_60, nx_g60, nx_100, nx_g100, nx_200, nx_g200, nx_400, nx_g400, nx_600, nx_g600, nx_601, nx_g601, nx_3600, nx_g3600, jx_1, jx_2, jx_3, jx_4, jx_5, jx_7, jx_8, jx_9, jx_10, jx_11, jx_13, jx_14, jx_15, jx_16, jx_17, jx_18, jx_19, jx_20, jx_21, jx_22, jx_23, jx_24, jx_25, jx_26, jx_27, jx_28, jx_29, jx_30, jx_31, jx_32, jx_33, jx_34, jx_35, jx_36, jx_37, jx_38, jx_39, jx_40, jx_41, jx_42, nx_a2, nx_a3, nx_a4, nx_a5, nx_a6, nx_a7, nx_a8, nx_a9, nx_a10, nx_a11, nx_a12, nx_a13, nx_a14, nx_a15, nx_a16, nx_a17, nx_a18, nx_a19, nx_a20, nx_a21, nx_a22, nx_a23, nx_a24, nx_a25, nx_a26, nx_a27, nx_a28, nx_a29, nx_a30, nx_a31, nx_a32, nx_a33, nx_a34, nx_a35, nx_a36, nx_a37, nx_a38, nx_a39, nx_a40, nx_a41, jI_17, nx_17, jI_48, nx_48, jI_80, nx_80, jI_720, nx_720, jI_4800, nx_4800, jI_18220, nx_18220, jI_18030, nx_18030, nx_m2, nx_m5, nx_m6, nx_m16, nx_m60, nx_m400, nx_m3644, nx_m3606, hl, hz, c_M_in, nx_m4, nx_p4, c1, c2, c3, Bool.not_true, Bool.and_false, Bool.false_eq_true, decide_true, Bool.and_self]
          done
        · simp (config := {decide := true}) (disch := first | omega | assumption | (simp only [mS_cL, mS_cI, mS_cR, mR_cL, mR_cI]; first | assumption | exact hcr _ | fail)) only [tX12_fits_0, tX12_fits_1, tX12_fits_5, tX12_fits_6, tX12_fits_9, tX12_fits_12, tX12_fits_13, tX12_fits_14, tX12_fits_17, tX12_fits_18, tX12_fits_20, tX12_fits_21, tX12_fits_22, tX12_fits_23, tX12_fits_24, tX12_fits_25, tX12_fits_26, tX12_fits_28, tX12_fits_29, tX12_fits_32, tX12_fits_33, tX12_fits_35, tX12_fits_36, tX12_fits_37, tX12_fits_38, tX12_fits_41, tX12_fits_42, tX12_fits_45, tX12_fits_46, tX12_fits_48, tX12_fits_49, tX12_fits_50, tX12_fits_51, tX12_fits_52, tX12_fits_53, tX12_fits_56, tX12_fits_58, tX12_fits_59, tX12_fits_62, tX12_fits_63, tX12_fits_65, tX12_fits_66, tX12_fits_67, tX12_fits_68, tX12_fits_69, tX12_fits_70, tX12_fits_71, tX12_fits_72, tX12_fits_75, tX12_fits_76, tX12_fits_78, tX12_fits_79, tX12_fits_80, tX12_fits_81, tX12_fits_82, tX12_fits_83, tX12_fits_86, tX12_fits_89, tX12_fits_90, tX12_fits_91, tX12_fits_94, tX12_fits_97, tX12_fits_98, jK_some, jK_none, jc1_int, jc1_ref, jc1_none, jc1_long, jc1_null, jc1_rf, va_rf_some, va_rf_none, mI_cI, mL_cL, mR_cR, cI_cI, cL_cL, jup_eq, jne_1, jne_2, Nat.add_left_cancel_iff, mL_cI, mR_cI, mS_cI, mN_cI, mI_cL, mR_cL, mS_cL, mN_cL, mI_cR, mL_cR, mS_cR, mN_cR, true_and, and_true, true_or, or_true, if_true, if_false, jBool_0, jBool_1, Nat.le_refl, Nat.reduceLeDiff, Nat.reduceEqDiff, Nat.reduceAdd, Nat.reduceSub, reduceIte, Int32.reduceLT, Int32.reduceLE, ne_eq, not_false_eq_true, not_true_eq_false, false_or, or_false, and_false, false_and, reduceCtorEq, jn_4, jn_6, jn_8, jn_9, jn_12, jn_60, jn_100, jn_200, jn_400, jn_600, jn_601, jn_3600, jI_4, jI_6, jI_8, jI_9, jI_12, jI_60, jI_100, jI_200, jI_400, jI_600, jI_601, jI_3600, va_cpy_00, jx_0, jx_6, jx_12, jx_400, jx_600, nI_1, nx_5e, nx_l6, nx_l12, nx_l100, nx_l200, nx_l400, nx_l600, nx_l601, nx_l3600, nx_pos, nx_posN, nx_neg1, nx_m1neg, nx_leF, nx_leT, nx_ltF, nx_ltT, nx_mul6, nI_add, nI_1, jx_nI, nx_4, nx_g4, nx_6, nx_g6, nx_8, nx_g8, nx_9, nx_g9, nx_12, nx_g12, nx_14, nx_g14, nx_60, nx_g60, nx_100, nx_g100, nx_200, nx_g200, nx_400, nx_g400, nx_600, nx_g600, nx_601, nx_g601, nx_3600, nx_g3600, jx_1, jx_2, jx_3, jx_4, jx_5, jx_7, jx_8, jx_9, jx_10, jx_11, jx_13, jx_14, jx_15, jx_16, jx_17, jx_18, jx_19, jx_20, jx_21, jx_22, jx_23, jx_24, jx_25, jx_26, jx_27, jx_28, jx_29, jx_30, jx_31, jx_32, jx_33, jx_34, jx_35, jx_36, jx_37, jx_38, jx_39, jx_40, jx_41, jx_42, nx_a2, nx_a3, nx_a4, nx_a5, nx_a6, nx_a7, nx_a8, nx_a9, nx_a10, nx_a11, nx_a12, nx_a13, nx_a14, nx_a15, nx_a16, nx_a17, nx_a18, nx_a19, nx_a20, nx_a21, nx_a22, nx_a23, nx_a24, nx_a25, nx_a26, nx_a27, nx_a28, nx_a29, nx_a30, nx_a31, nx_a32, nx_a33, nx_a34, nx_a35, nx_a36, nx_a37, nx_a38, nx_a39, nx_a40, nx_a41, jI_17, nx_17, jI_48, nx_48, jI_80, nx_80, jI_720, nx_720, jI_4800, nx_4800, jI_18220, nx_18220, jI_18030, nx_18030, nx_m2, nx_m5, nx_m6, nx_m16, nx_m60, nx_m400, nx_m3644, nx_m3606, hl, hz, c_M_in, nx_m4, nx_p4, c1, c2, c3, hi, decide_true, Bool.and_self, Bool.true_and, ← Bool.decide_and, decide_false, Bool.not_false]
          done
      · simp (config := {decide := true}) (disch := first | omega | assumption | (simp only [mS_cL, mS_cI, mS_cR, mR_cL, mR_cI]; first | assumption | exact hcr _ | fail)) only [tX12_fits_0, tX12_fits_1, tX12_fits_5, tX12_fits_6, tX12_fits_9, tX12_fits_12, tX12_fits_13, tX12_fits_14, tX12_fits_17, tX12_fits_18, tX12_fits_20, tX12_fits_21, tX12_fits_22, tX12_fits_23, tX12_fits_24, tX12_fits_25, tX12_fits_26, tX12_fits_28, tX12_fits_29, tX12_fits_32, tX12_fits_33, tX12_fits_35, tX12_fits_36, tX12_fits_37, tX12_fits_38, tX12_fits_41, tX12_fits_42, tX12_fits_45, tX12_fits_46, tX12_fits_48, tX12_fits_49, tX12_fits_50, tX12_fits_51, tX12_fits_52, tX12_fits_53, tX12_fits_56, tX12_fits_58, tX12_fits_59, tX12_fits_62, tX12_fits_63, tX12_fits_65, tX12_fits_66, tX12_fits_67, tX12_fits_68, tX12_fits_69, tX12_fits_70, tX12_fits_71, tX12_fits_72, tX12_fits_75, tX12_fits_76, tX12_fits_78, tX12_fits_79, tX12_fits_80, tX12_fits_81, tX12_fits_82, tX12_fits_83, tX12_fits_86, tX12_fits_89, tX12_fits_90, tX12_fits_91, tX12_fits_94, tX12_fits_97, tX12_fits_98, jK_some, jK_none, jc1_int, jc1_ref, jc1_none, jc1_long, jc1_null, jc1_rf, va_rf_some, va_rf_none, mI_cI, mL_cL, mR_cR, cI_cI, cL_cL, jup_eq, jne_1, jne_2, Nat.add_left_cancel_iff, mL_cI, mR_cI, mS_cI, mN_cI, mI_cL, mR_cL, mS_cL, mN_cL, mI_cR, mL_cR, mS_cR, mN_cR, true_and, and_true, true_or, or_true, if_true, if_false, jBool_0, jBool_1, Nat.le_refl, Nat.reduceLeDiff, Nat.reduceEqDiff, Nat.reduceAdd, Nat.reduceSub, reduceIte, Int32.reduceLT, Int32.reduceLE, ne_eq, not_false_eq_true, not_true_eq_false, false_or, or_false, and_false, false_and, reduceCtorEq, jn_4, jn_6, jn_8, jn_9, jn_12, jn_60, jn_100, jn_200, jn_400, jn_600, jn_601, jn_3600, jI_4, jI_6, jI_8, jI_9, jI_12, jI_60, jI_100, jI_200, jI_400, jI_600, jI_601, jI_3600, va_cpy_00, jx_0, jx_6, jx_12, jx_400, jx_600, nI_1, nx_5e, nx_l6, nx_l12, nx_l100, nx_l200, nx_l400, nx_l600, nx_l601, nx_l3600, nx_pos, nx_posN, nx_neg1, nx_m1neg, nx_leF, nx_leT, nx_ltF, nx_ltT, nx_mul6, nI_add, nI_1, jx_nI, nx_4, nx_g4, nx_6, nx_g6, nx_8, nx_g8, nx_9, nx_g9, nx_12, nx_g12, nx_14, nx_g14, nx_60, nx_g60, nx_100, nx_g100, nx_200, nx_g200, nx_400, nx_g400, nx_600, nx_g600, nx_601, nx_g601, nx_3600, nx_g3600, jx_1, jx_2, jx_3, jx_4, jx_5, jx_7, jx_8, jx_9, jx_10, jx_11, jx_13, jx_14, jx_15, jx_16, jx_17, jx_18, jx_19, jx_20, jx_21, jx_22, jx_23, jx_24, jx_25, jx_26, jx_27, jx_28, jx_29, jx_30, jx_31, jx_32, jx_33, jx_34, jx_35, jx_36, jx_37, jx_38, jx_39, jx_40, jx_41, jx_42, nx_a2, nx_a3, nx_a4, nx_a5, nx_a6, nx_a7, nx_a8, nx_a9, nx_a10, nx_a11, nx_a12, nx_a13, nx_a14, nx_a15, nx_a16, nx_a17, nx_a18, nx_a19, nx_a20, nx_a21, nx_a22, nx_a23, nx_a24, nx_a25, nx_a26, nx_a27, nx_a28, nx_a29, nx_a30, nx_a31, nx_a32, nx_a33, nx_a34, nx_a35, nx_a36, nx_a37, nx_a38, nx_a39, nx_a40, nx_a41, jI_17, nx_17, jI_48, nx_48, jI_80, nx_80, jI_720, nx_720, jI_4800, nx_4800, jI_18220, nx_18220, jI_18030, nx_18030, nx_m2, nx_m5, nx_m6, nx_m16, nx_m60, nx_m400, nx_m3644, nx_m3606, hl, hz, c_M_in, nx_m4, nx_p4, c1, c2, decide_false, Bool.and_false, Bool.false_and, Bool.false_eq_true]
        done
    · simp (config := {decide := true}) (disch := first | omega | assumption | (simp only [mS_cL, mS_cI, mS_cR, mR_cL, mR_cI]; first | assumption | exact hcr _ | fail)) only [tX12_fits_0, tX12_fits_1, tX12_fits_5, tX12_fits_6, tX12_fits_9, tX12_fits_12, tX12_fits_13, tX12_fits_14, tX12_fits_17, tX12_fits_18, tX12_fits_20, tX12_fits_21, tX12_fits_22, tX12_fits_23, tX12_fits_24, tX12_fits_25, tX12_fits_26, tX12_fits_28, tX12_fits_29, tX12_fits_32, tX12_fits_33, tX12_fits_35, tX12_fits_36, tX12_fits_37, tX12_fits_38, tX12_fits_41, tX12_fits_42, tX12_fits_45, tX12_fits_46, tX12_fits_48, tX12_fits_49, tX12_fits_50, tX12_fits_51, tX12_fits_52, tX12_fits_53, tX12_fits_56, tX12_fits_58, tX12_fits_59, tX12_fits_62, tX12_fits_63, tX12_fits_65, tX12_fits_66, tX12_fits_67, tX12_fits_68, tX12_fits_69, tX12_fits_70, tX12_fits_71, tX12_fits_72, tX12_fits_75, tX12_fits_76, tX12_fits_78, tX12_fits_79, tX12_fits_80, tX12_fits_81, tX12_fits_82, tX12_fits_83, tX12_fits_86, tX12_fits_89, tX12_fits_90, tX12_fits_91, tX12_fits_94, tX12_fits_97, tX12_fits_98, jK_some, jK_none, jc1_int, jc1_ref, jc1_none, jc1_long, jc1_null, jc1_rf, va_rf_some, va_rf_none, mI_cI, mL_cL, mR_cR, cI_cI, cL_cL, jup_eq, jne_1, jne_2, Nat.add_left_cancel_iff, mL_cI, mR_cI, mS_cI, mN_cI, mI_cL, mR_cL, mS_cL, mN_cL, mI_cR, mL_cR, mS_cR, mN_cR, true_and, and_true, true_or, or_true, if_true, if_false, jBool_0, jBool_1, Nat.le_refl, Nat.reduceLeDiff, Nat.reduceEqDiff, Nat.reduceAdd, Nat.reduceSub, reduceIte, Int32.reduceLT, Int32.reduceLE, ne_eq, not_false_eq_true, not_true_eq_false, false_or, or_false, and_false, false_and, reduceCtorEq, jn_4, jn_6, jn_8, jn_9, jn_12, jn_60, jn_100, jn_200, jn_400, jn_600, jn_601, jn_3600, jI_4, jI_6, jI_8, jI_9, jI_12, jI_60, jI_100, jI_200, jI_400, jI_600, jI_601, jI_3600, va_cpy_00, jx_0, jx_6, jx_12, jx_400, jx_600, nI_1, nx_5e, nx_l6, nx_l12, nx_l100, nx_l200, nx_l400, nx_l600, nx_l601, nx_l3600, nx_pos, nx_posN, nx_neg1, nx_m1neg, nx_leF, nx_leT, nx_ltF, nx_ltT, nx_mul6, nI_add, nI_1, jx_nI, nx_4, nx_g4, nx_6, nx_g6, nx_8, nx_g8, nx_9, nx_g9, nx_12, nx_g12, nx_14, nx_g14, nx_60, nx_g60, nx_100, nx_g100, nx_200, nx_g200, nx_400, nx_g400, nx_600, nx_g600, nx_601, nx_g601, nx_3600, nx_g3600, jx_1, jx_2, jx_3, jx_4, jx_5, jx_7, jx_8, jx_9, jx_10, jx_11, jx_13, jx_14, jx_15, jx_16, jx_17, jx_18, jx_19, jx_20, jx_21, jx_22, jx_23, jx_24, jx_25, jx_26, jx_27, jx_28, jx_29, jx_30, jx_31, jx_32, jx_33, jx_34, jx_35, jx_36, jx_37, jx_38, jx_39, jx_40, jx_41, jx_42, nx_a2, nx_a3, nx_a4, nx_a5, nx_a6, nx_a7, nx_a8, nx_a9, nx_a10, nx_a11, nx_a12, nx_a13, nx_a14, nx_a15, nx_a16, nx_a17, nx_a18, nx_a19, nx_a20, nx_a21, nx_a22, nx_a23, nx_a24, nx_a25, nx_a26, nx_a27, nx_a28, nx_a29, nx_a30, nx_a31, nx_a32, nx_a33, nx_a34, nx_a35, nx_a36, nx_a37, nx_a38, nx_a39, nx_a40, nx_a41, jI_17, nx_17, jI_48, nx_48, jI_80, nx_80, jI_720, nx_720, jI_4800, nx_4800, jI_18220, nx_18220, jI_18030, nx_18030, nx_m2, nx_m5, nx_m6, nx_m16, nx_m60, nx_m400, nx_m3644, nx_m3606, hl, hz, c_M_in, nx_m4, nx_p4, c1, decide_false, Bool.false_and, Bool.false_eq_true]
      done
  · intro τ
    rw [tX12_fits_3]
    simp (config := {decide := true}) (disch := first | omega | assumption | (simp only [mS_cL, mS_cI, mS_cR, mR_cL, mR_cI]; first | assumption | exact hcr _ | fail)) only [tX12_fits_0, tX12_fits_1, tX12_fits_5, tX12_fits_6, tX12_fits_9, tX12_fits_12, tX12_fits_13, tX12_fits_14, tX12_fits_17, tX12_fits_18, tX12_fits_20, tX12_fits_21, tX12_fits_22, tX12_fits_23, tX12_fits_24, tX12_fits_25, tX12_fits_26, tX12_fits_28, tX12_fits_29, tX12_fits_32, tX12_fits_33, tX12_fits_35, tX12_fits_36, tX12_fits_37, tX12_fits_38, tX12_fits_41, tX12_fits_42, tX12_fits_45, tX12_fits_46, tX12_fits_48, tX12_fits_49, tX12_fits_50, tX12_fits_51, tX12_fits_52, tX12_fits_53, tX12_fits_56, tX12_fits_58, tX12_fits_59, tX12_fits_62, tX12_fits_63, tX12_fits_65, tX12_fits_66, tX12_fits_67, tX12_fits_68, tX12_fits_69, tX12_fits_70, tX12_fits_71, tX12_fits_72, tX12_fits_75, tX12_fits_76, tX12_fits_78, tX12_fits_79, tX12_fits_80, tX12_fits_81, tX12_fits_82, tX12_fits_83, tX12_fits_86, tX12_fits_89, tX12_fits_90, tX12_fits_91, tX12_fits_94, tX12_fits_97, tX12_fits_98, jK_some, jK_none, jc1_int, jc1_ref, jc1_none, jc1_long, jc1_null, jc1_rf, va_rf_some, va_rf_none, mI_cI, mL_cL, mR_cR, cI_cI, cL_cL, jup_eq, jne_1, jne_2, Nat.add_left_cancel_iff, mL_cI, mR_cI, mS_cI, mN_cI, mI_cL, mR_cL, mS_cL, mN_cL, mI_cR, mL_cR, mS_cR, mN_cR, true_and, and_true, true_or, or_true, if_true, if_false, jBool_0, jBool_1, Nat.le_refl, Nat.reduceLeDiff, Nat.reduceEqDiff, Nat.reduceAdd, Nat.reduceSub, reduceIte, Int32.reduceLT, Int32.reduceLE, ne_eq, not_false_eq_true, not_true_eq_false, false_or, or_false, and_false, false_and, reduceCtorEq, jn_4, jn_6, jn_8, jn_9, jn_12, jn_60, jn_100, jn_200, jn_400, jn_600, jn_601, jn_3600, jI_4, jI_6, jI_8, jI_9, jI_12, jI_60, jI_100, jI_200, jI_400, jI_600, jI_601, jI_3600, va_cpy_00, jx_0, jx_6, jx_12, jx_400, jx_600, nI_1, nx_5e, nx_l6, nx_l12, nx_l100, nx_l200, nx_l400, nx_l600, nx_l601, nx_l3600, nx_pos, nx_posN, nx_neg1, nx_m1neg, nx_leF, nx_leT, nx_ltF, nx_ltT, nx_mul6, nI_add, nI_1, jx_nI, nx_4, nx_g4, nx_6, nx_g6, nx_8, nx_g8, nx_9, nx_g9, nx_12, nx_g12, nx_14, nx_g14, nx_60, nx_g60, nx_100, nx_g100, nx_200, nx_g200, nx_400, nx_g400, nx_600, nx_g600, nx_601, nx_g601, nx_3600, nx_g3600, jx_1, jx_2, jx_3, jx_4, jx_5, jx_7, jx_8, jx_9, jx_10, jx_11, jx_13, jx_14, jx_15, jx_16, jx_17, jx_18, jx_19, jx_20, jx_21, jx_22, jx_23, jx_24, jx_25, jx_26, jx_27, jx_28, jx_29, jx_30, jx_31, jx_32, jx_33, jx_34, jx_35, jx_36, jx_37, jx_38, jx_39, jx_40, jx_41, jx_42, nx_a2, nx_a3, nx_a4, nx_a5, nx_a6, nx_a7, nx_a8, nx_a9, nx_a10, nx_a11, nx_a12, nx_a13, nx_a14, nx_a15, nx_a16, nx_a17, nx_a18, nx_a19, nx_a20, nx_a21, nx_a22, nx_a23, nx_a24, nx_a25, nx_a26, nx_a27, nx_a28, nx_a29, nx_a30, nx_a31, nx_a32, nx_a33, nx_a34, nx_a35, nx_a36, nx_a37, nx_a38, nx_a39, nx_a40, nx_a41, jI_17, nx_17, jI_48, nx_48, jI_80, nx_80, jI_720, nx_720, jI_4800, nx_4800, jI_18220, nx_18220, jI_18030, nx_18030, nx_m2, nx_m5, nx_m6, nx_m16, nx_m60, nx_m400, nx_m3644, nx_m3606, hl, hz, Nat.lt_irrefl]
    done
/-- the reference goes over all rows -/
theorem c_M_fitsAll (hl : MLay (mS m) (mR m) 195) (hM : MP m 195 P) (hG : GP nf nm n P) (hLM : MLaws m 195 G nf nm) (h4 : nf ≤ 4) (h0 : qS P 0 ≠ 0) (hk : k < 6) (hz : mI m 195 47 = nI z) (h1 : z ≤ 100) : CC (d + 3) 285 [.ref 195, .int (nI k), .int x] m Q ↔ Q (some (.int (if jfind (fun r => decide (jfind (kAg1 (mI m 223) (nI k) r (kRp (kGv G P k) x.toInt64 P (qU P k).toInt64 r)) 0 z < z)) 0 n < n then 0 else 1))) m := by
  obtain ⟨f, hf, ef⟩ : ∃ f, f < nf ∧ qS P 1 = nI f := by
    obtain ⟨-, -, c | ⟨-, c⟩⟩ := id hG
    · exact absurd c.1 h0
    · exact c.1
  have e1 : mI m 209 1 = nI f := (congrFun hM.1 1).trans ef
  have e15 : mI m 209 15 = nI n := (congrFun hM.1 15).trans hG.1
  have h6 := hG.2.1
  have hg8 : mI m 203 f = kLg (G f) := (hLM.1 f hf).2.2.2.1
  have hr : mI m 213 = qR P := hM.2.1
  have hU : mI m 211 = qU P := hM.2.2.2.2.1
  have hgv : kGv G P k = if k = 5 then (kLg (G f)).toInt64 else 0 := by unfold kGv; rw [ef, jx_nI (by omega)]
  rw [nX12_fitsAll]
  simp (config := {decide := true}) (disch := first | omega | assumption | (simp only [mS_cL, mS_cI, mS_cR, mR_cL, mR_cI]; first | assumption | exact hcr _ | fail)) only [tX12_fitsAll_0, tX12_fitsAll_1, tX12_fitsAll_4, tX12_fitsAll_5, tX12_fitsAll_6, tX12_fitsAll_7, tX12_fitsAll_8, tX12_fitsAll_9, jK_some, jK_none, jc1_int, jc1_ref, jc1_none, jc1_long, jc1_null, jc1_rf, va_rf_some, va_rf_none, mI_cI, mL_cL, mR_cR, cI_cI, cL_cL, jup_eq, jne_1, jne_2, Nat.add_left_cancel_iff, mL_cI, mR_cI, mS_cI, mN_cI, mI_cL, mR_cL, mS_cL, mN_cL, mI_cR, mL_cR, mS_cR, mN_cR, true_and, and_true, true_or, or_true, if_true, if_false, jBool_0, jBool_1, Nat.le_refl, Nat.reduceLeDiff, Nat.reduceEqDiff, Nat.reduceAdd, Nat.reduceSub, reduceIte, Int32.reduceLT, Int32.reduceLE, ne_eq, not_false_eq_true, not_true_eq_false, false_or, or_false, and_false, false_and, reduceCtorEq, jn_4, jn_6, jn_8, jn_9, jn_12, jn_60, jn_100, jn_200, jn_400, jn_600, jn_601, jn_3600, jI_4, jI_6, jI_8, jI_9, jI_12, jI_60, jI_100, jI_200, jI_400, jI_600, jI_601, jI_3600, va_cpy_00, jx_0, jx_6, jx_12, jx_400, jx_600, nI_1, nx_5e, nx_l6, nx_l12, nx_l100, nx_l200, nx_l400, nx_l600, nx_l601, nx_l3600, nx_pos, nx_posN, nx_neg1, nx_m1neg, nx_leF, nx_leT, nx_ltF, nx_ltT, nx_mul6, nI_add, nI_1, jx_nI, nx_4, nx_g4, nx_6, nx_g6, nx_8, nx_g8, nx_9, nx_g9, nx_12, nx_g12, nx_14, nx_g14, nx_60, nx_g60, nx_100, nx_g100, nx_200, nx_g200, nx_400, nx_g400, nx_600, nx_g600, nx_601, nx_g601, nx_3600, nx_g3600, jx_1, jx_2, jx_3, jx_4, jx_5, jx_7, jx_8, jx_9, jx_10, jx_11, jx_13, jx_14, jx_15, jx_16, jx_17, jx_18, jx_19, jx_20, jx_21, jx_22, jx_23, jx_24, jx_25, jx_26, jx_27, jx_28, jx_29, jx_30, jx_31, jx_32, jx_33, jx_34, jx_35, jx_36, jx_37, jx_38, jx_39, jx_40, jx_41, jx_42, nx_a2, nx_a3, nx_a4, nx_a5, nx_a6, nx_a7, nx_a8, nx_a9, nx_a10, nx_a11, nx_a12, nx_a13, nx_a14, nx_a15, nx_a16, nx_a17, nx_a18, nx_a19, nx_a20, nx_a21, nx_a22, nx_a23, nx_a24, nx_a25, nx_a26, nx_a27, nx_a28, nx_a29, nx_a30, nx_a31, nx_a32, nx_a33, nx_a34, nx_a35, nx_a36, nx_a37, nx_a38, nx_a39, nx_a40, nx_a41, jI_17, nx_17, jI_48, nx_48, jI_80, nx_80, jI_720, nx_720, jI_4800, nx_4800, jI_18220, nx_18220, jI_18030, nx_18030, nx_m2, nx_m5, nx_m6, nx_m16, nx_m60, nx_m400, nx_m3644, nx_m3606, hl, hU]
  refine loop_findT (n := n) (c := fun r => decide (jfind (kAg1 (mI m 223) (nI k) r (kRp (kGv G P k) x.toInt64 P (qU P k).toInt64 r)) 0 z < z)) (P := fun r (τ : Option Value × Option Value) => AW (d + 2) 285 11 [some (.ref 195), some (.int (nI k)), some (.int x), some (.long (kRm (kGv G P k) x.toInt64 P (qU P k).toInt64 r)), none, some (.int (nI r)), τ.1, τ.2] [] m Q) (E := fun i => Q (some (.int (if i < n then 0 else 1))) m) ?_ ?_ n 0 (none, none) (by omega)
  · intro r τ hrn
    obtain ⟨⟨⟨g1, -⟩, -⟩, -⟩ := GP_row hG hrn
    unfold kLA at g1
    rw [if_pos hrn] at g1
    have hzz : (qR P (6 * r + 4)).toInt64 ≠ 0 := fun e => by rw [t64_0.mp e] at g1; exact absurd g1 (by decide)
    have hgo := fun M V Q => c_M_goes (d := d + 1) (m := m) (X := M) (Y := (qR P (6 * r + 3)).toInt64) (Z := (qR P (6 * r + 4)).toInt64) (V := V) (Q := Q) hzz
    have hpo := fun X Q => c_M_partsOf (d := d) (m := m) (c := 195) (i := r) (X := X) (P := P) (Q := Q) hl hr (by omega)
    have hfi := fun p Q => c_M_fits (d := d) (m := m) (x := nI k) (k := r) (p := p) (Q := Q) hl hz h1
    have ek : kRm (kGv G P k) x.toInt64 P (qU P k).toInt64 (r + 1) = kRm (kGv G P k) x.toInt64 P (qU P k).toInt64 r + kGv G P k - kRv (kGv G P k) x.toInt64 P r (kRm (kGv G P k) x.toInt64 P (qU P k).toInt64 r) := by
      unfold kRm
      rw [jfor_succ, Nat.zero_add]
    refine ⟨(some (.long (kRv (kGv G P k) x.toInt64 P r (kRm (kGv G P k) x.toInt64 P (qU P k).toInt64 r))), none), ?_⟩
    rw [tX12_fitsAll_11, ek]
    unfold kRp
    generalize kRm (kGv G P k) x.toInt64 P (qU P k).toInt64 r = M
    unfold kRv
    rw [hgv]
    by_cases k5 : k = 5
    · subst k5
      rw [if_pos rfl]
      by_cases hb : jfind (kAg1 (mI m 223) (nI 5) r (jparts (kGoes (M + (kLg (G f)).toInt64) (qR P (6 * r + 3)).toInt64 (qR P (6 * r + 4)).toInt64 x.toInt64) (qR P (6 * r + 3)).toInt64)) 0 z < z
      · simp (config := {decide := true}) (disch := first | omega | assumption | (simp only [mS_cL, mS_cI, mS_cR, mR_cL, mR_cI]; first | assumption | exact hcr _ | fail)) only [tX12_fitsAll_13, tX12_fitsAll_14, tX12_fitsAll_17, tX12_fitsAll_19, tX12_fitsAll_20, tX12_fitsAll_23, tX12_fitsAll_24, tX12_fitsAll_25, tX12_fitsAll_26, tX12_fitsAll_29, tX12_fitsAll_30, tX12_fitsAll_33, tX12_fitsAll_34, tX12_fitsAll_37, tX12_fitsAll_38, tX12_fitsAll_39, tX12_fitsAll_40, tX12_fitsAll_41, tX12_fitsAll_44, tX12_fitsAll_45, tX12_fitsAll_46, tX12_fitsAll_47, tX12_fitsAll_48, tX12_fitsAll_49, tX12_fitsAll_51, tX12_fitsAll_52, tX12_fitsAll_55, tX12_fitsAll_56, tX12_fitsAll_57, tX12_fitsAll_59, tX12_fitsAll_60, tX12_fitsAll_63, tX12_fitsAll_64, tX12_fitsAll_65, tX12_fitsAll_66, tX12_fitsAll_69, tX12_fitsAll_71, tX12_fitsAll_72, tX12_fitsAll_74, tX12_fitsAll_75, tX12_fitsAll_76, tX12_fitsAll_77, tX12_fitsAll_78, tX12_fitsAll_80, tX12_fitsAll_81, tX12_fitsAll_83, tX12_fitsAll_85, tX12_fitsAll_88, tX12_fitsAll_91, tX12_fitsAll_94, tX12_fitsAll_95, tX12_fitsAll_96, tX12_fitsAll_99, tX12_fitsAll_102, tX12_fitsAll_103, jK_some, jK_none, jc1_int, jc1_ref, jc1_none, jc1_long, jc1_null, jc1_rf, va_rf_some, va_rf_none, mI_cI, mL_cL, mR_cR, cI_cI, cL_cL, jup_eq, jne_1, jne_2, Nat.add_left_cancel_iff, mL_cI, mR_cI, mS_cI, mN_cI, mI_cL, mR_cL, mS_cL, mN_cL, mI_cR, mL_cR, mS_cR, mN_cR, true_and, and_true, true_or, or_true, if_true, if_false, jBool_0, jBool_1, Nat.le_refl, Nat.reduceLeDiff, Nat.reduceEqDiff, Nat.reduceAdd, Nat.reduceSub, reduceIte, Int32.reduceLT, Int32.reduceLE, ne_eq, not_false_eq_true, not_true_eq_false, false_or, or_false, and_false, false_and, reduceCtorEq, jn_4, jn_6, jn_8, jn_9, jn_12, jn_60, jn_100, jn_200, jn_400, jn_600, jn_601, jn_3600, jI_4, jI_6, jI_8, jI_9, jI_12, jI_60, jI_100, jI_200, jI_400, jI_600, jI_601, jI_3600, va_cpy_00, jx_0, jx_6, jx_12, jx_400, jx_600, nI_1, nx_5e, nx_l6, nx_l12, nx_l100, nx_l200, nx_l400, nx_l600, nx_l601, nx_l3600, nx_pos, nx_posN, nx_neg1, nx_m1neg, nx_leF, nx_leT, nx_ltF, nx_ltT, nx_mul6, nI_add, nI_1, jx_nI, nx_4, nx_g4, nx_6, nx_g6, nx_8, nx_g8, nx_9, nx_g9, nx_12, nx_g12, nx_14, nx_g14, nx_60, nx_g60, nx_100, nx_g100, nx_200, nx_g200, nx_400, nx_g400, nx_600, nx_g600, nx_601, nx_g601, nx_3600, nx_g3600, jx_1, jx_2, jx_3, jx_4, jx_5, jx_7, jx_8, jx_9, jx_10, jx_11, jx_13, jx_14, jx_15, jx_16, jx_17, jx_18, jx_19, jx_20, jx_21, jx_22, jx_23, jx_24, jx_25, jx_26, jx_27, jx_28, jx_29, jx_30, jx_31, jx_32, jx_33, jx_34, jx_35, jx_36, jx_37, jx_38, jx_39, jx_40, jx_41, jx_42, nx_a2, nx_a3, nx_a4, nx_a5, nx_a6, nx_a7, nx_a8, nx_a9, nx_a10, nx_a11, nx_a12, nx_a13, nx_a14, nx_a15, nx_a16, nx_a17, nx_a18, nx_a19, nx_a20, nx_a21, nx_a22, nx_a23, nx_a24, nx_a25, nx_a26, nx_a27, nx_a28, nx_a29, nx_a30, nx_a31, nx_a32, nx_a33, nx_a34, nx_a35, nx_a36, nx_a37, nx_a38, nx_a39, nx_a40, nx_a41, jI_17, nx_17, jI_48, nx_48, jI_80, nx_80, jI_720, nx_720, jI_4800, nx_4800, jI_18220, nx_18220, jI_18030, nx_18030, nx_m2, nx_m5, nx_m6, nx_m16, nx_m60, nx_m400, nx_m3644, nx_m3606, hl, e15, e1, hg8, c_M_rowOf3, c_M_rowOf4, hr, hgo, hpo, hfi, hb, hrn, show (nI 5 = 5) = True from eq_true rfl, decide_true]
        done
      · simp (config := {decide := true}) (disch := first | omega | assumption | (simp only [mS_cL, mS_cI, mS_cR, mR_cL, mR_cI]; first | assumption | exact hcr _ | fail)) only [tX12_fitsAll_13, tX12_fitsAll_14, tX12_fitsAll_17, tX12_fitsAll_19, tX12_fitsAll_20, tX12_fitsAll_23, tX12_fitsAll_24, tX12_fitsAll_25, tX12_fitsAll_26, tX12_fitsAll_29, tX12_fitsAll_30, tX12_fitsAll_33, tX12_fitsAll_34, tX12_fitsAll_37, tX12_fitsAll_38, tX12_fitsAll_39, tX12_fitsAll_40, tX12_fitsAll_41, tX12_fitsAll_44, tX12_fitsAll_45, tX12_fitsAll_46, tX12_fitsAll_47, tX12_fitsAll_48, tX12_fitsAll_49, tX12_fitsAll_51, tX12_fitsAll_52, tX12_fitsAll_55, tX12_fitsAll_56, tX12_fitsAll_57, tX12_fitsAll_59, tX12_fitsAll_60, tX12_fitsAll_63, tX12_fitsAll_64, tX12_fitsAll_65, tX12_fitsAll_66, tX12_fitsAll_69, tX12_fitsAll_71, tX12_fitsAll_72, tX12_fitsAll_74, tX12_fitsAll_75, tX12_fitsAll_76, tX12_fitsAll_77, tX12_fitsAll_78, tX12_fitsAll_80, tX12_fitsAll_81, tX12_fitsAll_83, tX12_fitsAll_85, tX12_fitsAll_88, tX12_fitsAll_91, tX12_fitsAll_94, tX12_fitsAll_95, tX12_fitsAll_96, tX12_fitsAll_99, tX12_fitsAll_102, tX12_fitsAll_103, jK_some, jK_none, jc1_int, jc1_ref, jc1_none, jc1_long, jc1_null, jc1_rf, va_rf_some, va_rf_none, mI_cI, mL_cL, mR_cR, cI_cI, cL_cL, jup_eq, jne_1, jne_2, Nat.add_left_cancel_iff, mL_cI, mR_cI, mS_cI, mN_cI, mI_cL, mR_cL, mS_cL, mN_cL, mI_cR, mL_cR, mS_cR, mN_cR, true_and, and_true, true_or, or_true, if_true, if_false, jBool_0, jBool_1, Nat.le_refl, Nat.reduceLeDiff, Nat.reduceEqDiff, Nat.reduceAdd, Nat.reduceSub, reduceIte, Int32.reduceLT, Int32.reduceLE, ne_eq, not_false_eq_true, not_true_eq_false, false_or, or_false, and_false, false_and, reduceCtorEq, jn_4, jn_6, jn_8, jn_9, jn_12, jn_60, jn_100, jn_200, jn_400, jn_600, jn_601, jn_3600, jI_4, jI_6, jI_8, jI_9, jI_12, jI_60, jI_100, jI_200, jI_400, jI_600, jI_601, jI_3600, va_cpy_00, jx_0, jx_6, jx_12, jx_400, jx_600, nI_1, nx_5e, nx_l6, nx_l12, nx_l100, nx_l200, nx_l400, nx_l600, nx_l601, nx_l3600, nx_pos, nx_posN, nx_neg1, nx_m1neg, nx_leF, nx_leT, nx_ltF, nx_ltT, nx_mul6, nI_add, nI_1, jx_nI, nx_4, nx_g4, nx_6, nx_g6, nx_8, nx_g8, nx_9, nx_g9, nx_12, nx_g12, nx_14, nx_g14, nx_60, nx_g60, nx_100, nx_g100, nx_200, nx_g200, nx_400, nx_g400, nx_600, nx_g600, nx_601, nx_g601, nx_3600, nx_g3600, jx_1, jx_2, jx_3, jx_4, jx_5, jx_7, jx_8, jx_9, jx_10, jx_11, jx_13, jx_14, jx_15, jx_16, jx_17, jx_18, jx_19, jx_20, jx_21, jx_22, jx_23, jx_24, jx_25, jx_26, jx_27, jx_28, jx_29, jx_30, jx_31, jx_32, jx_33, jx_34, jx_35, jx_36, jx_37, jx_38, jx_39, jx_40, jx_41, jx_42, nx_a2, nx_a3, nx_a4, nx_a5, nx_a6, nx_a7, nx_a8, nx_a9, nx_a10, nx_a11, nx_a12, nx_a13, nx_a14, nx_a15, nx_a16, nx_a17, nx_a18, nx_a19, nx_a20, nx_a21, nx_a22, nx_a23, nx_a24, nx_a25, nx_a26, nx_a27, nx_a28, nx_a29, nx_a30, nx_a31, nx_a32, nx_a33, nx_a34, nx_a35, nx_a36, nx_a37, nx_a38, nx_a39, nx_a40, nx_a41, jI_17, nx_17, jI_48, nx_48, jI_80, nx_80, jI_720, nx_720, jI_4800, nx_4800, jI_18220, nx_18220, jI_18030, nx_18030, nx_m2, nx_m5, nx_m6, nx_m16, nx_m60, nx_m400, nx_m3644, nx_m3606, hl, e15, e1, hg8, c_M_rowOf3, c_M_rowOf4, hr, hgo, hpo, hfi, hb, hrn, show (nI 5 = 5) = True from eq_true rfl, decide_false, Bool.false_eq_true]
        done
    · have k5' : (nI k = 5) = False := eq_false (fun e => k5 (by have := congrArg jx e; rw [jx_nI (by omega)] at this; exact this))
      rw [if_neg k5]
      by_cases hb : jfind (kAg1 (mI m 223) (nI k) r (jparts (kGoes (M + 0) (qR P (6 * r + 3)).toInt64 (qR P (6 * r + 4)).toInt64 x.toInt64) (qR P (6 * r + 3)).toInt64)) 0 z < z
      · simp (config := {decide := true}) (disch := first | omega | assumption | (simp only [mS_cL, mS_cI, mS_cR, mR_cL, mR_cI]; first | assumption | exact hcr _ | fail)) only [tX12_fitsAll_13, tX12_fitsAll_14, tX12_fitsAll_17, tX12_fitsAll_19, tX12_fitsAll_20, tX12_fitsAll_23, tX12_fitsAll_24, tX12_fitsAll_25, tX12_fitsAll_26, tX12_fitsAll_29, tX12_fitsAll_30, tX12_fitsAll_33, tX12_fitsAll_34, tX12_fitsAll_37, tX12_fitsAll_38, tX12_fitsAll_39, tX12_fitsAll_40, tX12_fitsAll_41, tX12_fitsAll_44, tX12_fitsAll_45, tX12_fitsAll_46, tX12_fitsAll_47, tX12_fitsAll_48, tX12_fitsAll_49, tX12_fitsAll_51, tX12_fitsAll_52, tX12_fitsAll_55, tX12_fitsAll_56, tX12_fitsAll_57, tX12_fitsAll_59, tX12_fitsAll_60, tX12_fitsAll_63, tX12_fitsAll_64, tX12_fitsAll_65, tX12_fitsAll_66, tX12_fitsAll_69, tX12_fitsAll_71, tX12_fitsAll_72, tX12_fitsAll_74, tX12_fitsAll_75, tX12_fitsAll_76, tX12_fitsAll_77, tX12_fitsAll_78, tX12_fitsAll_80, tX12_fitsAll_81, tX12_fitsAll_83, tX12_fitsAll_85, tX12_fitsAll_88, tX12_fitsAll_91, tX12_fitsAll_94, tX12_fitsAll_95, tX12_fitsAll_96, tX12_fitsAll_99, tX12_fitsAll_102, tX12_fitsAll_103, jK_some, jK_none, jc1_int, jc1_ref, jc1_none, jc1_long, jc1_null, jc1_rf, va_rf_some, va_rf_none, mI_cI, mL_cL, mR_cR, cI_cI, cL_cL, jup_eq, jne_1, jne_2, Nat.add_left_cancel_iff, mL_cI, mR_cI, mS_cI, mN_cI, mI_cL, mR_cL, mS_cL, mN_cL, mI_cR, mL_cR, mS_cR, mN_cR, true_and, and_true, true_or, or_true, if_true, if_false, jBool_0, jBool_1, Nat.le_refl, Nat.reduceLeDiff, Nat.reduceEqDiff, Nat.reduceAdd, Nat.reduceSub, reduceIte, Int32.reduceLT, Int32.reduceLE, ne_eq, not_false_eq_true, not_true_eq_false, false_or, or_false, and_false, false_and, reduceCtorEq, jn_4, jn_6, jn_8, jn_9, jn_12, jn_60, jn_100, jn_200, jn_400, jn_600, jn_601, jn_3600, jI_4, jI_6, jI_8, jI_9, jI_12, jI_60, jI_100, jI_200, jI_400, jI_600, jI_601, jI_3600, va_cpy_00, jx_0, jx_6, jx_12, jx_400, jx_600, nI_1, nx_5e, nx_l6, nx_l12, nx_l100, nx_l200, nx_l400, nx_l600, nx_l601, nx_l3600, nx_pos, nx_posN, nx_neg1, nx_m1neg, nx_leF, nx_leT, nx_ltF, nx_ltT, nx_mul6, nI_add, nI_1, jx_nI, nx_4, nx_g4, nx_6, nx_g6, nx_8, nx_g8, nx_9, nx_g9, nx_12, nx_g12, nx_14, nx_g14, nx_60, nx_g60, nx_100, nx_g100, nx_200, nx_g200, nx_400, nx_g400, nx_600, nx_g600, nx_601, nx_g601, nx_3600, nx_g3600, jx_1, jx_2, jx_3, jx_4, jx_5, jx_7, jx_8, jx_9, jx_10, jx_11, jx_13, jx_14, jx_15, jx_16, jx_17, jx_18, jx_19, jx_20, jx_21, jx_22, jx_23, jx_24, jx_25, jx_26, jx_27, jx_28, jx_29, jx_30, jx_31, jx_32, jx_33, jx_34, jx_35, jx_36, jx_37, jx_38, jx_39, jx_40, jx_41, jx_42, nx_a2, nx_a3, nx_a4, nx_a5, nx_a6, nx_a7, nx_a8, nx_a9, nx_a10, nx_a11, nx_a12, nx_a13, nx_a14, nx_a15, nx_a16, nx_a17, nx_a18, nx_a19, nx_a20, nx_a21, nx_a22, nx_a23, nx_a24, nx_a25, nx_a26, nx_a27, nx_a28, nx_a29, nx_a30, nx_a31, nx_a32, nx_a33, nx_a34, nx_a35, nx_a36, nx_a37, nx_a38, nx_a39, nx_a40, nx_a41, jI_17, nx_17, jI_48, nx_48, jI_80, nx_80, jI_720, nx_720, jI_4800, nx_4800, jI_18220, nx_18220, jI_18030, nx_18030, nx_m2, nx_m5, nx_m6, nx_m16, nx_m60, nx_m400, nx_m3644, nx_m3606, hl, e15, k5', c_M_rowOf3, c_M_rowOf4, hr, hgo, hpo, hfi, hb, hrn, decide_true]
        done
      · simp (config := {decide := true}) (disch := first | omega | assumption | (simp only [mS_cL, mS_cI, mS_cR, mR_cL, mR_cI]; first | assumption | exact hcr _ | fail)) only [tX12_fitsAll_13, tX12_fitsAll_14, tX12_fitsAll_17, tX12_fitsAll_19, tX12_fitsAll_20, tX12_fitsAll_23, tX12_fitsAll_24, tX12_fitsAll_25, tX12_fitsAll_26, tX12_fitsAll_29, tX12_fitsAll_30, tX12_fitsAll_33, tX12_fitsAll_34, tX12_fitsAll_37, tX12_fitsAll_38, tX12_fitsAll_39, tX12_fitsAll_40, tX12_fitsAll_41, tX12_fitsAll_44, tX12_fitsAll_45, tX12_fitsAll_46, tX12_fitsAll_47, tX12_fitsAll_48, tX12_fitsAll_49, tX12_fitsAll_51, tX12_fitsAll_52, tX12_fitsAll_55, tX12_fitsAll_56, tX12_fitsAll_57, tX12_fitsAll_59, tX12_fitsAll_60, tX12_fitsAll_63, tX12_fitsAll_64, tX12_fitsAll_65, tX12_fitsAll_66, tX12_fitsAll_69, tX12_fitsAll_71, tX12_fitsAll_72, tX12_fitsAll_74, tX12_fitsAll_75, tX12_fitsAll_76, tX12_fitsAll_77, tX12_fitsAll_78, tX12_fitsAll_80, tX12_fitsAll_81, tX12_fitsAll_83, tX12_fitsAll_85, tX12_fitsAll_88, tX12_fitsAll_91, tX12_fitsAll_94, tX12_fitsAll_95, tX12_fitsAll_96, tX12_fitsAll_99, tX12_fitsAll_102, tX12_fitsAll_103, jK_some, jK_none, jc1_int, jc1_ref, jc1_none, jc1_long, jc1_null, jc1_rf, va_rf_some, va_rf_none, mI_cI, mL_cL, mR_cR, cI_cI, cL_cL, jup_eq, jne_1, jne_2, Nat.add_left_cancel_iff, mL_cI, mR_cI, mS_cI, mN_cI, mI_cL, mR_cL, mS_cL, mN_cL, mI_cR, mL_cR, mS_cR, mN_cR, true_and, and_true, true_or, or_true, if_true, if_false, jBool_0, jBool_1, Nat.le_refl, Nat.reduceLeDiff, Nat.reduceEqDiff, Nat.reduceAdd, Nat.reduceSub, reduceIte, Int32.reduceLT, Int32.reduceLE, ne_eq, not_false_eq_true, not_true_eq_false, false_or, or_false, and_false, false_and, reduceCtorEq, jn_4, jn_6, jn_8, jn_9, jn_12, jn_60, jn_100, jn_200, jn_400, jn_600, jn_601, jn_3600, jI_4, jI_6, jI_8, jI_9, jI_12, jI_60, jI_100, jI_200, jI_400, jI_600, jI_601, jI_3600, va_cpy_00, jx_0, jx_6, jx_12, jx_400, jx_600, nI_1, nx_5e, nx_l6, nx_l12, nx_l100, nx_l200, nx_l400, nx_l600, nx_l601, nx_l3600, nx_pos, nx_posN, nx_neg1, nx_m1neg, nx_leF, nx_leT, nx_ltF, nx_ltT, nx_mul6, nI_add, nI_1, jx_nI, nx_4, nx_g4, nx_6, nx_g6, nx_8, nx_g8, nx_9, nx_g9, nx_12, nx_g12, nx_14, nx_g14, nx_60, nx_g60, nx_100, nx_g100, nx_200, nx_g200, nx_400, nx_g400, nx_600, nx_g600, nx_601, nx_g601, nx_3600, nx_g3600, jx_1, jx_2, jx_3, jx_4, jx_5, jx_7, jx_8, jx_9, jx_10, jx_11, jx_13, jx_14, jx_15, jx_16, jx_17, jx_18, jx_19, jx_20, jx_21, jx_22, jx_23, jx_24, jx_25, jx_26, jx_27, jx_28, jx_29, jx_30, jx_31, jx_32, jx_33, jx_34, jx_35, jx_36, jx_37, jx_38, jx_39, jx_40, jx_41, jx_42, nx_a2, nx_a3, nx_a4, nx_a5, nx_a6, nx_a7, nx_a8, nx_a9, nx_a10, nx_a11, nx_a12, nx_a13, nx_a14, nx_a15, nx_a16, nx_a17, nx_a18, nx_a19, nx_a20, nx_a21, nx_a22, nx_a23, nx_a24, nx_a25, nx_a26, nx_a27, nx_a28, nx_a29, nx_a30, nx_a31, nx_a32, nx_a33, nx_a34, nx_a35, nx_a36, nx_a37, nx_a38, nx_a39, nx_a40, nx_a41, jI_17, nx_17, jI_48, nx_48, jI_80, nx_80, jI_720, nx_720, jI_4800, nx_4800, jI_18220, nx_18220, jI_18030, nx_18030, nx_m2, nx_m5, nx_m6, nx_m16, nx_m60, nx_m400, nx_m3644, nx_m3606, hl, e15, k5', c_M_rowOf3, c_M_rowOf4, hr, hgo, hpo, hfi, hb, hrn, decide_false, Bool.false_eq_true]
        done
  · intro τ
    rw [tX12_fitsAll_11]
    simp (config := {decide := true}) (disch := first | omega | assumption | (simp only [mS_cL, mS_cI, mS_cR, mR_cL, mR_cI]; first | assumption | exact hcr _ | fail)) only [tX12_fitsAll_13, tX12_fitsAll_14, tX12_fitsAll_17, tX12_fitsAll_19, tX12_fitsAll_20, tX12_fitsAll_23, tX12_fitsAll_24, tX12_fitsAll_25, tX12_fitsAll_26, tX12_fitsAll_29, tX12_fitsAll_30, tX12_fitsAll_33, tX12_fitsAll_34, tX12_fitsAll_37, tX12_fitsAll_38, tX12_fitsAll_39, tX12_fitsAll_40, tX12_fitsAll_41, tX12_fitsAll_44, tX12_fitsAll_45, tX12_fitsAll_46, tX12_fitsAll_47, tX12_fitsAll_48, tX12_fitsAll_49, tX12_fitsAll_51, tX12_fitsAll_52, tX12_fitsAll_55, tX12_fitsAll_56, tX12_fitsAll_57, tX12_fitsAll_59, tX12_fitsAll_60, tX12_fitsAll_63, tX12_fitsAll_64, tX12_fitsAll_65, tX12_fitsAll_66, tX12_fitsAll_69, tX12_fitsAll_71, tX12_fitsAll_72, tX12_fitsAll_74, tX12_fitsAll_75, tX12_fitsAll_76, tX12_fitsAll_77, tX12_fitsAll_78, tX12_fitsAll_80, tX12_fitsAll_81, tX12_fitsAll_83, tX12_fitsAll_85, tX12_fitsAll_88, tX12_fitsAll_91, tX12_fitsAll_94, tX12_fitsAll_95, tX12_fitsAll_96, tX12_fitsAll_99, tX12_fitsAll_102, tX12_fitsAll_103, jK_some, jK_none, jc1_int, jc1_ref, jc1_none, jc1_long, jc1_null, jc1_rf, va_rf_some, va_rf_none, mI_cI, mL_cL, mR_cR, cI_cI, cL_cL, jup_eq, jne_1, jne_2, Nat.add_left_cancel_iff, mL_cI, mR_cI, mS_cI, mN_cI, mI_cL, mR_cL, mS_cL, mN_cL, mI_cR, mL_cR, mS_cR, mN_cR, true_and, and_true, true_or, or_true, if_true, if_false, jBool_0, jBool_1, Nat.le_refl, Nat.reduceLeDiff, Nat.reduceEqDiff, Nat.reduceAdd, Nat.reduceSub, reduceIte, Int32.reduceLT, Int32.reduceLE, ne_eq, not_false_eq_true, not_true_eq_false, false_or, or_false, and_false, false_and, reduceCtorEq, jn_4, jn_6, jn_8, jn_9, jn_12, jn_60, jn_100, jn_200, jn_400, jn_600, jn_601, jn_3600, jI_4, jI_6, jI_8, jI_9, jI_12, jI_60, jI_100, jI_200, jI_400, jI_600, jI_601, jI_3600, va_cpy_00, jx_0, jx_6, jx_12, jx_400, jx_600, nI_1, nx_5e, nx_l6, nx_l12, nx_l100, nx_l200, nx_l400, nx_l600, nx_l601, nx_l3600, nx_pos, nx_posN, nx_neg1, nx_m1neg, nx_leF, nx_leT, nx_ltF, nx_ltT, nx_mul6, nI_add, nI_1, jx_nI, nx_4, nx_g4, nx_6, nx_g6, nx_8, nx_g8, nx_9, nx_g9, nx_12, nx_g12, nx_14, nx_g14, nx_60, nx_g60, nx_100, nx_g100, nx_200, nx_g200, nx_400, nx_g400, nx_600, nx_g600, nx_601, nx_g601, nx_3600, nx_g3600, jx_1, jx_2, jx_3, jx_4, jx_5, jx_7, jx_8, jx_9, jx_10, jx_11, jx_13, jx_14, jx_15, jx_16, jx_17, jx_18, jx_19, jx_20, jx_21, jx_22, jx_23, jx_24, jx_25, jx_26, jx_27, jx_28, jx_29, jx_30, jx_31, jx_32, jx_33, jx_34, jx_35, jx_36, jx_37, jx_38, jx_39, jx_40, jx_41, jx_42, nx_a2, nx_a3, nx_a4, nx_a5, nx_a6, nx_a7, nx_a8, nx_a9, nx_a10, nx_a11, nx_a12, nx_a13, nx_a14, nx_a15, nx_a16, nx_a17, nx_a18, nx_a19, nx_a20, nx_a21, nx_a22, nx_a23, nx_a24, nx_a25, nx_a26, nx_a27, nx_a28, nx_a29, nx_a30, nx_a31, nx_a32, nx_a33, nx_a34, nx_a35, nx_a36, nx_a37, nx_a38, nx_a39, nx_a40, nx_a41, jI_17, nx_17, jI_48, nx_48, jI_80, nx_80, jI_720, nx_720, jI_4800, nx_4800, jI_18220, nx_18220, jI_18030, nx_18030, nx_m2, nx_m5, nx_m6, nx_m16, nx_m60, nx_m400, nx_m3644, nx_m3606, hl, e15, Nat.lt_irrefl]
    done
/-- what X gathers, against the slices one by one -/
theorem gath_iff {rs ss fs gs : Nat → Int32} {x : Int32} {r : Nat} (hr : r < n) (h6 : n ≤ 600) : ∀ q i (s : (Nat → Int64) × (Nat → Int64)), (∀ j, i ≤ j → j < i + q → ∃ t, t < 600 ∧ rs j = nI t) → ((p < (jfor (stGather rs ss fs gs x n) i q s).1 r ∨ (jfor (stGather rs ss fs gs x n) i q s).2 r < p) ↔ ((p < s.1 r ∨ s.2 r < p) ∨ ∃ j, i ≤ j ∧ j < i + q ∧ rs j = nI r ∧ ss j = x ∧ (p < (fs j).toInt64 - (gs j).toInt64 ∨ (fs j).toInt64 + (gs j).toInt64 < p)))
  | 0, i, s, _ => ⟨fun h => Or.inl h, fun h => by
    rcases h with h | ⟨j, h1, h2, _⟩
    · exact h
    · omega⟩
  | q + 1, i, s, hi => by
    show (p < (jfor (stGather rs ss fs gs x n) (i + 1) q (stGather rs ss fs gs x n i s)).1 r ∨ (jfor (stGather rs ss fs gs x n) (i + 1) q (stGather rs ss fs gs x n i s)).2 r < p) ↔ _
    rw [gath_iff hr h6 q (i + 1) _ (fun j h1 h2 => hi j (by omega) (by omega))]
    obtain ⟨t, ht, et⟩ := hi i (by omega) (by omega)
    have key : (p < (stGather rs ss fs gs x n i s).1 r ∨ (stGather rs ss fs gs x n i s).2 r < p) ↔ ((p < s.1 r ∨ s.2 r < p) ∨ (rs i = nI r ∧ ss i = x ∧ (p < (fs i).toInt64 - (gs i).toInt64 ∨ (fs i).toInt64 + (gs i).toInt64 < p))) := by
      have eT : (rs i = nI r) ↔ t = r := by
        rw [et]
        exact ⟨fun e => by have := congrArg jx e; rw [jx_nI (by omega), jx_nI (by omega)] at this; exact this, fun e => by rw [e]⟩
      unfold stGather
      by_cases c : ss i = x ∧ 0 ≤ rs i ∧ rs i < nI n
      · rw [if_pos c, et, jx_nI (by omega)]
        rw [et] at eT
        by_cases e : t = r
        · subst e
          dsimp only
          rw [jup_same, jup_same]
          generalize (fs i).toInt64 - (gs i).toInt64 = A
          generalize (fs i).toInt64 + (gs i).toInt64 = B
          generalize s.1 t = lo
          generalize s.2 t = hi'
          have l1 : p < (if A < lo then lo else A) ↔ (p < lo ∨ p < A) := by
            by_cases h : A < lo
            · rw [if_pos h]; exact ⟨Or.inl, fun e => e.elim id (fun e => Int64.lt_trans e h)⟩
            · rw [if_neg h]; exact ⟨Or.inr, fun e => e.elim (fun e => Int64.lt_of_lt_of_le e (Int64.not_lt.mp h)) id⟩
          have l2 : (if B < hi' then B else hi') < p ↔ (hi' < p ∨ B < p) := by
            by_cases h : B < hi'
            · rw [if_pos h]; exact ⟨Or.inr, fun e => e.elim (fun e => Int64.lt_trans h e) id⟩
            · rw [if_neg h]; exact ⟨Or.inl, fun e => e.elim id (fun e => Int64.lt_of_le_of_lt (Int64.not_lt.mp h) e)⟩
          rw [l1, l2]
          constructor
          · rintro ((h | h) | (h | h))
            · exact Or.inl (Or.inl h)
            · exact Or.inr ⟨rfl, c.1, Or.inl h⟩
            · exact Or.inl (Or.inr h)
            · exact Or.inr ⟨rfl, c.1, Or.inr h⟩
          · rintro ((h | h) | ⟨-, -, h | h⟩)
            · exact Or.inl (Or.inl h)
            · exact Or.inr (Or.inl h)
            · exact Or.inl (Or.inr h)
            · exact Or.inr (Or.inr h)
        · dsimp only
          rw [jup_ne (Ne.symm e), jup_ne (Ne.symm e)]
          exact ⟨Or.inl, fun h => h.elim id (fun h => absurd (eT.mp h.1) e)⟩
      · rw [if_neg c]
        refine ⟨Or.inl, fun h => h.elim id (fun h => absurd ⟨h.2.1, ?_⟩ c)⟩
        rw [h.1]
        exact ⟨nI_0le (by omega), nI_lt hr (by omega)⟩
    rw [key]
    constructor
    · rintro ((h | h) | ⟨j, h1, h2, h3⟩)
      · exact Or.inl h
      · exact Or.inr ⟨i, by omega, by omega, h⟩
      · exact Or.inr ⟨j, by omega, by omega, h3⟩
    · rintro (h | ⟨j, h1, h2, h3⟩)
      · exact Or.inl (Or.inl h)
      · by_cases e : j = i
        · subst e; exact Or.inl (Or.inr h3)
        · exact Or.inr ⟨j, by omega, by omega, h3⟩
theorem kAg1_iff {S : Nat → Int32} {i r : Nat} (hp : 0 ≤ p.toInt ∧ p.toInt ≤ 2000000000000000) (hf : 0 ≤ (S (4 * i + 2)).toInt ∧ (S (4 * i + 2)).toInt ≤ 1000000000) (hg : 0 ≤ (S (4 * i + 3)).toInt ∧ (S (4 * i + 3)).toInt ≤ 1000000000) : kAg1 S x r p i = true ↔ (S (4 * i) = nI r ∧ S (4 * i + 1) = x ∧ (p < (S (4 * i + 2)).toInt64 - (S (4 * i + 3)).toInt64 ∨ (S (4 * i + 2)).toInt64 + (S (4 * i + 3)).toInt64 < p)) := by
  have h1 : (-(S (4 * i + 3))).toInt = -(S (4 * i + 3)).toInt := by rw [Int32.toInt_neg, Int.bmod_eq_of_le (by omega) (by omega)]
  have h2 : (p - (S (4 * i + 2)).toInt64).toInt = p.toInt - (S (4 * i + 2)).toInt := by rw [i64_sub (by rw [t64_i]; omega) (by rw [t64_i]; omega), t64_i]
  have h3 : ((S (4 * i + 2)).toInt64 - (S (4 * i + 3)).toInt64).toInt = (S (4 * i + 2)).toInt - (S (4 * i + 3)).toInt := by rw [i64_sub (by rw [t64_i, t64_i]; omega) (by rw [t64_i, t64_i]; omega), t64_i, t64_i]
  have h4 : ((S (4 * i + 2)).toInt64 + (S (4 * i + 3)).toInt64).toInt = (S (4 * i + 2)).toInt + (S (4 * i + 3)).toInt := by rw [i64_add (by rw [t64_i, t64_i]; omega) (by rw [t64_i, t64_i]; omega), t64_i, t64_i]
  unfold kAg1
  rw [Bool.and_eq_true, Bool.and_eq_true, decide_eq_true_eq, decide_eq_true_eq, Bool.not_eq_true', Bool.and_eq_false_iff, decide_eq_false_iff_not, decide_eq_false_iff_not, Int64.le_iff_toInt_le, Int64.le_iff_toInt_le, Int64.lt_iff_toInt_lt, Int64.lt_iff_toInt_lt, h2, h3, h4, t64_i, t64_i, h1, and_assoc]
  refine and_congr_right (fun _ => and_congr_right (fun _ => ?_))
  omega
theorem ginit {s : (Nat → Int64) × (Nat → Int64)} {A B : Int64} : ∀ q i r, (i ≤ r ∧ r < i + q → (jfor (fun r (s : (Nat → Int64) × (Nat → Int64)) => (jup s.1 r A, jup s.2 r B)) i q s).1 r = A ∧ (jfor (fun r (s : (Nat → Int64) × (Nat → Int64)) => (jup s.1 r A, jup s.2 r B)) i q s).2 r = B) := by
  have key : ∀ q i r (s : (Nat → Int64) × (Nat → Int64)), r < i → (jfor (fun r (s : (Nat → Int64) × (Nat → Int64)) => (jup s.1 r A, jup s.2 r B)) i q s).1 r = s.1 r ∧ (jfor (fun r (s : (Nat → Int64) × (Nat → Int64)) => (jup s.1 r A, jup s.2 r B)) i q s).2 r = s.2 r := by
    intro q
    induction q with
    | zero => intro i r s _; exact ⟨rfl, rfl⟩
    | succ q ih =>
      intro i r s hr
      obtain ⟨a1, a2⟩ := ih (i + 1) r (jup s.1 i A, jup s.2 i B) (by omega)
      refine ⟨a1.trans (jup_ne (by omega)), a2.trans (jup_ne (by omega))⟩
  intro q
  induction q generalizing s with
  | zero => intro i r h; omega
  | succ q ih =>
    intro i r h
    by_cases e : r = i
    · subst e
      obtain ⟨a1, a2⟩ := key q (r + 1) r (jup s.1 r A, jup s.2 r B) (by omega)
      exact ⟨a1.trans jup_same, a2.trans jup_same⟩
    · exact ih (s := (jup s.1 i A, jup s.2 i B)) (i + 1) r (by omega)
end SPN
