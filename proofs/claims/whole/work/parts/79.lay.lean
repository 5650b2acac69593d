/-! ===== X lays pieces ===== -/
theorem loop_brkT {σ τ : Type} {P : Nat → σ → τ → Prop} {E : Nat → σ → Prop} {n : Nat} {c : Nat → σ → Bool} {f : Nat → σ → σ} (I : Nat → σ → Prop) (hs : ∀ i s t, i < n → I i s → (∃ t', P i s t ↔ if c i s = true then E i s else P (i + 1) (f i s) t') ∧ (c i s = false → I (i + 1) (f i s))) (he : ∀ s t, I n s → (P n s t ↔ E n s)) : ∀ k i s t, i + k = n → I i s → (P i s t ↔ E (jbrk c f i k s).1 (jbrk c f i k s).2)
  | 0, i, s, t, h, hi => by
    have : i = n := by omega
    subst this; exact he s t hi
  | k + 1, i, s, t, h, hi => by
    obtain ⟨⟨t', h1⟩, h2⟩ := hs i s t (by omega) hi
    rw [h1]
    show _ ↔ E (if c i s then (i, s) else jbrk c f (i + 1) k (f i s)).1 (if c i s then (i, s) else jbrk c f (i + 1) k (f i s)).2
    cases hc : c i s
    · rw [if_neg (by simp), if_neg (by simp)]
      exact loop_brkT I hs he k (i + 1) (f i s) t' (by omega) (h2 hc)
    · rw [if_pos rfl, if_pos rfl]
section LAY
variable {m B : jmM} {nf nm n d r w W e ff fr a many c : Nat} {G : Nat → KLaw} {P : Pt} {Q : Option Value → jmM → Prop} {x y κ : Int32} {S A0 T0 K0 R : Nat → Int32} {most : Nat → Nat} {s : Nat × Nat × Nat}
def mX (B : jmM) (A T K R : Nat → Int32) : jmM := cI (cI (cI (cI B 116 A) 117 T) 118 K) 120 R
theorem nI_subN (a b : Nat) : nI (a + b) - nI a = nI b := by
  rw [← nI_add a b]
  generalize nI a = p; generalize nI b = q; grind
def kpU (c many w : Nat) (s : Nat × Nat × Nat) (κ : Int32) : Int32 := if s.1 < c ∨ (c = s.1 ∧ many < s.2.1) then nI w else κ
theorem c_offer (hx : XL0 (mS B) (mR B)) (hr : r < 600) (h1 : s.1 < 2147483648) (h2 : s.2.1 < 2147483648) (h3 : c < 2147483648) (h4 : many < 2147483648) : CC (d + 1) 3 [.ref 115, .int (nI r), .int (nI many), .int (nI w), .int (nI c)] (mX B (jup A0 r (nI s.1)) (jup T0 r (nI s.2.1)) (jup K0 r κ) R) Q ↔ Q none (mX B (jup A0 r (nI (kUp c many w s).1)) (jup T0 r (nI (kUp c many w s).2.1)) (jup K0 r (kpU c many w s κ)) R) := by
  unfold mX kUp kpU
  rw [nX0_offer]
  have q0 : (nI c ≤ nI s.1) ↔ c ≤ s.1 := nI_leI h3 h1
  have q1 : (nI c = nI s.1) ↔ c = s.1 := nI_eq h3 h1
  have q2 : (nI s.2.1 ≤ nI many) ↔ s.2.1 ≤ many := nI_leI h2 h4
  have q3 : (nI s.1 < nI c) ↔ s.1 < c := nI_ltI h1 h3
  by_cases c1 : s.1 < c
  · have c1' : ¬ c ≤ s.1 := by omega
    simp (config := {decide := true}) (disch := first | omega | assumption | (simp only [mS_cL, mS_cI, mS_cR, mR_cL, mR_cI]; first | assumption | exact hcr _ | fail)) only [tX0_offer_0, tX0_offer_2, tX0_offer_3, tX0_offer_6, tX0_offer_7, tX0_offer_8, tX0_offer_11, tX0_offer_13, tX0_offer_14, tX0_offer_17, tX0_offer_18, tX0_offer_19, tX0_offer_22, tX0_offer_23, tX0_offer_24, tX0_offer_27, tX0_offer_28, tX0_offer_29, tX0_offer_32, tX0_offer_33, tX0_offer_36, tX0_offer_37, tX0_offer_39, tX0_offer_40, tX0_offer_41, tX0_offer_44, tX0_offer_45, tX0_offer_46, tX0_offer_47, tX0_offer_48, tX0_offer_51, tX0_offer_52, tX0_offer_53, tX0_offer_54, jK_some, jK_none, jc1_int, jc1_ref, jc1_none, jc1_long, jc1_null, jc1_rf, va_rf_some, va_rf_none, mI_same, mL_same, mR_same, mI_ne, mL_ne, mR_ne, cI_cI, cL_cL, jup_eq, mL_cI, mR_cI, mS_cI, mN_cI, mI_cL, mR_cL, mS_cL, mN_cL, mI_cR, mL_cR, mS_cR, mN_cR, true_and, and_true, true_or, or_true, if_true, if_false, jBool_0, jBool_1, Nat.le_refl, Nat.reduceLeDiff, Nat.reduceEqDiff, Nat.reduceAdd, Nat.reduceSub, reduceIte, Int32.reduceLT, Int32.reduceLE, ne_eq, not_false_eq_true, not_true_eq_false, false_or, or_false, and_false, false_and, reduceCtorEq, jn_4, jn_6, jn_8, jn_9, jn_12, jn_60, jn_100, jn_200, jn_400, jn_600, jn_601, jn_3600, jI_4, jI_6, jI_8, jI_9, jI_12, jI_60, jI_100, jI_200, jI_400, jI_600, jI_601, jI_3600, va_cpy_00, jx_0, jx_6, jx_12, jx_400, jx_600, nI_1, nx_5e, nx_l6, nx_l12, nx_l100, nx_l200, nx_l400, nx_l600, nx_l601, nx_l3600, nx_pos, nx_posN, nx_neg1, nx_m1neg, nx_leF, nx_leT, nx_ltF, nx_ltT, nx_mul6, nI_add, nI_1, jx_nI, nx_4, nx_g4, nx_6, nx_g6, nx_8, nx_g8, nx_9, nx_g9, nx_12, nx_g12, nx_14, nx_g14, nx_60, nx_g60, nx_100, nx_g100, nx_200, nx_g200, nx_400, nx_g400, nx_600, nx_g600, nx_601, nx_g601, nx_3600, nx_g3600, hx, q0, q1, q2, q3, c1, c1', cI_sw, cI_sw2, cI_sw3, jup_jup]
    done
  · by_cases c2 : c = s.1
    · by_cases c3 : many < s.2.1
      · have c3' : ¬ s.2.1 ≤ many := by omega
        simp (config := {decide := true}) (disch := first | omega | assumption | (simp only [mS_cL, mS_cI, mS_cR, mR_cL, mR_cI]; first | assumption | exact hcr _ | fail)) only [tX0_offer_0, tX0_offer_2, tX0_offer_3, tX0_offer_6, tX0_offer_7, tX0_offer_8, tX0_offer_11, tX0_offer_13, tX0_offer_14, tX0_offer_17, tX0_offer_18, tX0_offer_19, tX0_offer_22, tX0_offer_23, tX0_offer_24, tX0_offer_27, tX0_offer_28, tX0_offer_29, tX0_offer_32, tX0_offer_33, tX0_offer_36, tX0_offer_37, tX0_offer_39, tX0_offer_40, tX0_offer_41, tX0_offer_44, tX0_offer_45, tX0_offer_46, tX0_offer_47, tX0_offer_48, tX0_offer_51, tX0_offer_52, tX0_offer_53, tX0_offer_54, jK_some, jK_none, jc1_int, jc1_ref, jc1_none, jc1_long, jc1_null, jc1_rf, va_rf_some, va_rf_none, mI_same, mL_same, mR_same, mI_ne, mL_ne, mR_ne, cI_cI, cL_cL, jup_eq, mL_cI, mR_cI, mS_cI, mN_cI, mI_cL, mR_cL, mS_cL, mN_cL, mI_cR, mL_cR, mS_cR, mN_cR, true_and, and_true, true_or, or_true, if_true, if_false, jBool_0, jBool_1, Nat.le_refl, Nat.reduceLeDiff, Nat.reduceEqDiff, Nat.reduceAdd, Nat.reduceSub, reduceIte, Int32.reduceLT, Int32.reduceLE, ne_eq, not_false_eq_true, not_true_eq_false, false_or, or_false, and_false, false_and, reduceCtorEq, jn_4, jn_6, jn_8, jn_9, jn_12, jn_60, jn_100, jn_200, jn_400, jn_600, jn_601, jn_3600, jI_4, jI_6, jI_8, jI_9, jI_12, jI_60, jI_100, jI_200, jI_400, jI_600, jI_601, jI_3600, va_cpy_00, jx_0, jx_6, jx_12, jx_400, jx_600, nI_1, nx_5e, nx_l6, nx_l12, nx_l100, nx_l200, nx_l400, nx_l600, nx_l601, nx_l3600, nx_pos, nx_posN, nx_neg1, nx_m1neg, nx_leF, nx_leT, nx_ltF, nx_ltT, nx_mul6, nI_add, nI_1, jx_nI, nx_4, nx_g4, nx_6, nx_g6, nx_8, nx_g8, nx_9, nx_g9, nx_12, nx_g12, nx_14, nx_g14, nx_60, nx_g60, nx_100, nx_g100, nx_200, nx_g200, nx_400, nx_g400, nx_600, nx_g600, nx_601, nx_g601, nx_3600, nx_g3600, hx, q0, q1, q2, q3, c2, c3, c3', Int32.lt_irrefl, Int32.le_refl, Nat.lt_irrefl, cI_sw, cI_sw2, cI_sw3, jup_jup]
        done
      · have c3' : s.2.1 ≤ many := by omega
        simp (config := {decide := true}) (disch := first | omega | assumption | (simp only [mS_cL, mS_cI, mS_cR, mR_cL, mR_cI]; first | assumption | exact hcr _ | fail)) only [tX0_offer_0, tX0_offer_2, tX0_offer_3, tX0_offer_6, tX0_offer_7, tX0_offer_8, tX0_offer_11, tX0_offer_13, tX0_offer_14, tX0_offer_17, tX0_offer_18, tX0_offer_19, tX0_offer_22, tX0_offer_23, tX0_offer_24, tX0_offer_27, tX0_offer_28, tX0_offer_29, tX0_offer_32, tX0_offer_33, tX0_offer_36, tX0_offer_37, tX0_offer_39, tX0_offer_40, tX0_offer_41, tX0_offer_44, tX0_offer_45, tX0_offer_46, tX0_offer_47, tX0_offer_48, tX0_offer_51, tX0_offer_52, tX0_offer_53, tX0_offer_54, jK_some, jK_none, jc1_int, jc1_ref, jc1_none, jc1_long, jc1_null, jc1_rf, va_rf_some, va_rf_none, mI_same, mL_same, mR_same, mI_ne, mL_ne, mR_ne, cI_cI, cL_cL, jup_eq, mL_cI, mR_cI, mS_cI, mN_cI, mI_cL, mR_cL, mS_cL, mN_cL, mI_cR, mL_cR, mS_cR, mN_cR, true_and, and_true, true_or, or_true, if_true, if_false, jBool_0, jBool_1, Nat.le_refl, Nat.reduceLeDiff, Nat.reduceEqDiff, Nat.reduceAdd, Nat.reduceSub, reduceIte, Int32.reduceLT, Int32.reduceLE, ne_eq, not_false_eq_true, not_true_eq_false, false_or, or_false, and_false, false_and, reduceCtorEq, jn_4, jn_6, jn_8, jn_9, jn_12, jn_60, jn_100, jn_200, jn_400, jn_600, jn_601, jn_3600, jI_4, jI_6, jI_8, jI_9, jI_12, jI_60, jI_100, jI_200, jI_400, jI_600, jI_601, jI_3600, va_cpy_00, jx_0, jx_6, jx_12, jx_400, jx_600, nI_1, nx_5e, nx_l6, nx_l12, nx_l100, nx_l200, nx_l400, nx_l600, nx_l601, nx_l3600, nx_pos, nx_posN, nx_neg1, nx_m1neg, nx_leF, nx_leT, nx_ltF, nx_ltT, nx_mul6, nI_add, nI_1, jx_nI, nx_4, nx_g4, nx_6, nx_g6, nx_8, nx_g8, nx_9, nx_g9, nx_12, nx_g12, nx_14, nx_g14, nx_60, nx_g60, nx_100, nx_g100, nx_200, nx_g200, nx_400, nx_g400, nx_600, nx_g600, nx_601, nx_g601, nx_3600, nx_g3600, hx, q0, q1, q2, q3, c2, c3, c3', Int32.lt_irrefl, Int32.le_refl, Nat.lt_irrefl]
        done
    · have c1' : c ≤ s.1 := by omega
      simp (config := {decide := true}) (disch := first | omega | assumption | (simp only [mS_cL, mS_cI, mS_cR, mR_cL, mR_cI]; first | assumption | exact hcr _ | fail)) only [tX0_offer_0, tX0_offer_2, tX0_offer_3, tX0_offer_6, tX0_offer_7, tX0_offer_8, tX0_offer_11, tX0_offer_13, tX0_offer_14, tX0_offer_17, tX0_offer_18, tX0_offer_19, tX0_offer_22, tX0_offer_23, tX0_offer_24, tX0_offer_27, tX0_offer_28, tX0_offer_29, tX0_offer_32, tX0_offer_33, tX0_offer_36, tX0_offer_37, tX0_offer_39, tX0_offer_40, tX0_offer_41, tX0_offer_44, tX0_offer_45, tX0_offer_46, tX0_offer_47, tX0_offer_48, tX0_offer_51, tX0_offer_52, tX0_offer_53, tX0_offer_54, jK_some, jK_none, jc1_int, jc1_ref, jc1_none, jc1_long, jc1_null, jc1_rf, va_rf_some, va_rf_none, mI_same, mL_same, mR_same, mI_ne, mL_ne, mR_ne, cI_cI, cL_cL, jup_eq, mL_cI, mR_cI, mS_cI, mN_cI, mI_cL, mR_cL, mS_cL, mN_cL, mI_cR, mL_cR, mS_cR, mN_cR, true_and, and_true, true_or, or_true, if_true, if_false, jBool_0, jBool_1, Nat.le_refl, Nat.reduceLeDiff, Nat.reduceEqDiff, Nat.reduceAdd, Nat.reduceSub, reduceIte, Int32.reduceLT, Int32.reduceLE, ne_eq, not_false_eq_true, not_true_eq_false, false_or, or_false, and_false, false_and, reduceCtorEq, jn_4, jn_6, jn_8, jn_9, jn_12, jn_60, jn_100, jn_200, jn_400, jn_600, jn_601, jn_3600, jI_4, jI_6, jI_8, jI_9, jI_12, jI_60, jI_100, jI_200, jI_400, jI_600, jI_601, jI_3600, va_cpy_00, jx_0, jx_6, jx_12, jx_400, jx_600, nI_1, nx_5e, nx_l6, nx_l12, nx_l100, nx_l200, nx_l400, nx_l600, nx_l601, nx_l3600, nx_pos, nx_posN, nx_neg1, nx_m1neg, nx_leF, nx_leT, nx_ltF, nx_ltT, nx_mul6, nI_add, nI_1, jx_nI, nx_4, nx_g4, nx_6, nx_g6, nx_8, nx_g8, nx_9, nx_g9, nx_12, nx_g12, nx_14, nx_g14, nx_60, nx_g60, nx_100, nx_g100, nx_200, nx_g200, nx_400, nx_g400, nx_600, nx_g600, nx_601, nx_g601, nx_3600, nx_g3600, hx, q0, q1, q2, q3, c1, c1', c2]
      done
def shE (r : Nat) : Option Nat → Int32
  | none => -1
  | some t => nI (r + t)
def xcK (p : Nat → Nat) (r L : Nat) (j : Nat) (q : (Option Nat × Nat × Nat × Nat) × Int32) : Bool := xC p r L j q.1
def xfK (p most : Nat → Nat) (r L C w : Nat) (j : Nat) (q : (Option Nat × Nat × Nat × Nat) × Int32) : (Option Nat × Nat × Nat × Nat) × Int32 := (xF p most r L C w j q.1, if L ≤ dS p r (j + 1) then kpU (dS p r (j + 1) * C + most (r + j + 1)) (j + 1) w q.1.2 q.2 else q.2)
theorem xfK_1 {p most : Nat → Nat} {L C : Nat} : ∀ k j q, (jbrk (xcK p r L) (xfK p most r L C w) j k q).2.1 = (jbrk (xC p r L) (xF p most r L C w) j k q.1).2
  | 0, j, q => rfl
  | k + 1, j, q => by
    show (if xcK p r L j q then (j, q) else jbrk (xcK p r L) (xfK p most r L C w) (j + 1) k (xfK p most r L C w j q)).2.1 = (if xC p r L j q.1 then (j, q.1) else jbrk (xC p r L) (xF p most r L C w) (j + 1) k (xF p most r L C w j q.1)).2
    show (if xC p r L j q.1 then (j, q) else jbrk (xcK p r L) (xfK p most r L C w) (j + 1) k (xfK p most r L C w j q)).2.1 = _
    split
    · rfl
    · exact xfK_1 k (j + 1) _
theorem kpU_ok (h : 0 < s.2.1 → κ = nI s.2.2) : 0 < (kUp c many w s).2.1 → kpU c many w s κ = nI (kUp c many w s).2.2 := by
  unfold kUp kpU
  by_cases q : s.1 < c ∨ (c = s.1 ∧ many < s.2.1)
  · rw [if_pos q, if_pos q]; exact fun _ => rfl
  · rw [if_neg q, if_neg q]; exact h
theorem xfK_2 {p most : Nat → Nat} {L C : Nat} : ∀ k j q, (0 < q.1.2.2.1 → q.2 = nI q.1.2.2.2) → (0 < (jbrk (xcK p r L) (xfK p most r L C w) j k q).2.1.2.2.1 → (jbrk (xcK p r L) (xfK p most r L C w) j k q).2.2 = nI (jbrk (xcK p r L) (xfK p most r L C w) j k q).2.1.2.2.2)
  | 0, j, q, h => h
  | k + 1, j, q, h => by
    show (0 < (if xcK p r L j q then (j, q) else jbrk (xcK p r L) (xfK p most r L C w) (j + 1) k (xfK p most r L C w j q)).2.1.2.2.1 → (if xcK p r L j q then (j, q) else jbrk (xcK p r L) (xfK p most r L C w) (j + 1) k (xfK p most r L C w j q)).2.2 = nI (if xcK p r L j q then (j, q) else jbrk (xcK p r L) (xfK p most r L C w) (j + 1) k (xfK p most r L C w j q)).2.1.2.2.2)
    split
    · exact h
    · refine xfK_2 k (j + 1) _ ?_
      unfold xfK xF
      by_cases hL : L ≤ dS p r (j + 1)
      · rw [if_pos hL, if_pos hL]; exact kpU_ok h
      · rw [if_neg hL, if_neg hL]; exact h
theorem xF_2 {p most : Nat → Nat} {L C j : Nat} {q : Option Nat × Nat × Nat × Nat} : (xF p most r L C w j q).2 = kIn p most r L C w j q.2 := by
  unfold xF kIn
  split <;> rfl
theorem c_offerPieces (hx : XL0 (mS B) (mR B)) (hG : GP nf nm n P) (hW : WOk S W) (hw : w < W) (hr : r < n) (h5 : mI B 115 5 = nI n) (hle : ∀ i, i ≤ n → mI B 119 i = nI (dS (kPl P) 0 i)) (hws : mS B (187 + w) = (10, 6)) (hwx : ∀ j, j < 6 → mI B (187 + w) j = S (6 * w + j)) (hA : ∀ i, r < i → i ≤ n → A0 i = nI (most i)) (hb : sB (kPl P) most n r) (hs : kRI (kPl P) (kOw S P x n) (kWl S) (kWc S) W n most r s) (hκ : 0 < s.2.1 → κ = nI s.2.2) (hR : R w = nI (r + kRn (kOw S P x n w) r n))
    (hdom : ∀ t, 1 ≤ t → t < kRn (kOw S P x n w) r n → ∀ j', t + j' < kRn (kOw S P x n w) r n → kWl S w ≤ dS (kPl P) (r + t) (j' + 1) → dS (kPl P) (r + t) (j' + 1) * kWc S w + most (r + t + j' + 1) ≤ most (r + t)) :
    ∃ κ', (0 < (jfor (kIn (kPl P) most r (kWl S w) (kWc S w) w) 0 (kRn (kOw S P x n w) r n) s).2.1 → κ' = nI (jfor (kIn (kPl P) most r (kWl S w) (kWc S w) w) 0 (kRn (kOw S P x n w) r n) s).2.2) ∧ ∀ Q, CC (d + 3) 2 [.ref 115, .int (nI r), .int (nI w), .ref (187 + w)] (mX B (jup A0 r (nI s.1)) (jup T0 r (nI s.2.1)) (jup K0 r κ) R) Q ↔ Q none (mX B (jup A0 r (nI (jfor (kIn (kPl P) most r (kWl S w) (kWc S w) w) 0 (kRn (kOw S P x n w) r n) s).1)) (jup T0 r (nI (jfor (kIn (kPl P) most r (kWl S w) (kWc S w) w) 0 (kRn (kOw S P x n w) r n) s).2.1)) (jup K0 r κ') R) := by
  have h6 := hG.2.1
  obtain ⟨h8, hWW⟩ := id hW
  obtain ⟨-, hL, hC, hL9, hC9⟩ := hWW w hw
  have hlen := kRn_le (okw := kOw S P x n w) (r := r) (n := n) (by omega)
  have hCC : ∀ w, w < W → kWc S w ≤ 999 := fun w hw => (hWW w hw).2.2.2.2
  have hTB : 999 * dS (kPl P) r (n - r) < 2147483648 := by
    have := dS_b (p := kPl P) (n := n) (fun i hi => (kPl_ok hG hi).2) r (n - r) (by omega)
    omega
  have hpr := prune (p := kPl P) (most := most) (r := r) (L := kWl S w) (C := kWc S w) (w := w) hdom (kRn (kOw S P x n w) r n) 0 (none, s) (by omega) (fun t ht => by cases ht)
  have hx1 := xfK_1 (p := kPl P) (most := most) (r := r) (L := kWl S w) (C := kWc S w) (w := w) (kRn (kOw S P x n w) r n) 0 ((none, s), κ)
  have hx2 := xfK_2 (p := kPl P) (most := most) (r := r) (L := kWl S w) (C := kWc S w) (w := w) (kRn (kOw S P x n w) r n) 0 ((none, s), κ) hκ
  have hx3 : (jbrk (xcK (kPl P) r (kWl S w)) (xfK (kPl P) most r (kWl S w) (kWc S w) w) 0 (kRn (kOw S P x n w) r n) ((none, s), κ)).2.1.2 = jfor (kIn (kPl P) most r (kWl S w) (kWc S w) w) 0 (kRn (kOw S P x n w) r n) s := by rw [hx1]; exact hpr
  rw [hx3] at hx2
  refine ⟨(jbrk (xcK (kPl P) r (kWl S w)) (xfK (kPl P) most r (kWl S w) (kWc S w) w) 0 (kRn (kOw S P x n w) r n) ((none, s), κ)).2.2, hx2, fun Q => ?_⟩
  rw [← hx3]
  clear hx1 hx2 hx3 hpr
  have wl := fun (A T K R : Nat → Int32) Q => c_Want_length (d := d + 1) (m := mX B A T K R) (a := 187 + w) (Q := Q) hws
  have wc := fun (A T K R : Nat → Int32) Q => c_Want_coins (d := d + 1) (m := mX B A T K R) (a := 187 + w) (Q := Q) hws
  have wl4 : ∀ A T K R : Nat → Int32, mI (mX B A T K R) (187 + w) 4 = nI (kWl S w) := fun A T K R => by unfold mX; rw [mI_ne (by omega), mI_ne (by omega), mI_ne (by omega), mI_ne (by omega), hwx 4 (by decide), hL]
  have wc5 : ∀ A T K R : Nat → Int32, mI (mX B A T K R) (187 + w) 5 = nI (kWc S w) := fun A T K R => by unfold mX; rw [mI_ne (by omega), mI_ne (by omega), mI_ne (by omega), mI_ne (by omega), hwx 5 (by decide), hC]
  simp only [wl4] at wl
  simp only [wc5] at wc
  rw [nX0_offerPieces]
  have l119 : ∀ A T K R : Nat → Int32, mI (mX B A T K R) 119 = mI B 119 := fun A T K R => by unfold mX; rw [mI_ne (by omega), mI_ne (by omega), mI_ne (by omega), mI_ne (by omega)]
  have l115 : ∀ A T K R : Nat → Int32, mI (mX B A T K R) 115 5 = nI n := fun A T K R => by unfold mX; rw [mI_ne (by omega), mI_ne (by omega), mI_ne (by omega), mI_ne (by omega), h5]
  have l116 : ∀ A T K R : Nat → Int32, mI (mX B A T K R) 116 = A := fun A T K R => by unfold mX; rw [mI_ne (by omega), mI_ne (by omega), mI_ne (by omega), mI_same]
  have l120 : ∀ A T K R : Nat → Int32, mI (mX B A T K R) 120 = R := fun A T K R => by unfold mX; rw [mI_same]
  have hS0 : ∀ A T K R : Nat → Int32, mS (mX B A T K R) = mS B := fun A T K R => rfl
  have hR0 : ∀ A T K R : Nat → Int32, mR (mX B A T K R) = mR B := fun A T K R => rfl
  simp (config := {decide := true}) (disch := first | omega | assumption | (simp only [mS_cL, mS_cI, mS_cR, mR_cL, mR_cI]; first | assumption | exact hcr _ | fail)) only [tX0_offerPieces_0, tX0_offerPieces_1, tX0_offerPieces_4, tX0_offerPieces_5, tX0_offerPieces_7, tX0_offerPieces_10, tX0_offerPieces_11, tX0_offerPieces_14, tX0_offerPieces_15, tX0_offerPieces_16, tX0_offerPieces_19, tX0_offerPieces_20, tX0_offerPieces_22, tX0_offerPieces_23, tX0_offerPieces_25, tX0_offerPieces_26, tX0_offerPieces_27, tX0_offerPieces_28, jK_some, jK_none, jc1_int, jc1_ref, jc1_none, jc1_long, jc1_null, jc1_rf, va_rf_some, va_rf_none, mI_cI, mL_cL, mR_cR, cI_cI, cL_cL, jup_eq, jne_1, jne_2, Nat.add_left_cancel_iff, mL_cI, mR_cI, mS_cI, mN_cI, mI_cL, mR_cL, mS_cL, mN_cL, mI_cR, mL_cR, mS_cR, mN_cR, true_and, and_true, true_or, or_true, if_true, if_false, jBool_0, jBool_1, Nat.le_refl, Nat.reduceLeDiff, Nat.reduceEqDiff, Nat.reduceAdd, Nat.reduceSub, reduceIte, Int32.reduceLT, Int32.reduceLE, ne_eq, not_false_eq_true, not_true_eq_false, false_or, or_false, and_false, false_and, reduceCtorEq, jn_4, jn_6, jn_8, jn_9, jn_12, jn_60, jn_100, jn_200, jn_400, jn_600, jn_601, jn_3600, jI_4, jI_6, jI_8, jI_9, jI_12, jI_60, jI_100, jI_200, jI_400, jI_600, jI_601, jI_3600, va_cpy_00, jx_0, jx_6, jx_12, jx_400, jx_600, nI_1, nx_5e, nx_l6, nx_l12, nx_l100, nx_l200, nx_l400, nx_l600, nx_l601, nx_l3600, nx_pos, nx_posN, nx_neg1, nx_m1neg, nx_leF, nx_leT, nx_ltF, nx_ltT, nx_mul6, nI_add, nI_1, jx_nI, nx_4, nx_g4, nx_6, nx_g6, nx_8, nx_g8, nx_9, nx_g9, nx_12, nx_g12, nx_14, nx_g14, nx_60, nx_g60, nx_100, nx_g100, nx_200, nx_g200, nx_400, nx_g400, nx_600, nx_g600, nx_601, nx_g601, nx_3600, nx_g3600, hx, hS0, hR0, l120, hR]
  refine loop_brkT (n := kRn (kOw S P x n w) r n) (c := xcK (kPl P) r (kWl S w)) (f := xfK (kPl P) most r (kWl S w) (kWc S w) w) (P := fun j (σ : (Option Nat × Nat × Nat × Nat) × Int32) (τ : Option Value) => AW (d + 2) 2 30 [some (.ref 115), some (.int (nI r)), some (.int (nI w)), some (.ref (187 + w)), some (.int (nI (r + kRn (kOw S P x n w) r n))), some (.int (shE r σ.1.1)), some (.int (nI (r + j + 1))), τ] [] (mX B (jup A0 r (nI σ.1.2.1)) (jup T0 r (nI σ.1.2.2.1)) (jup K0 r σ.2) R) Q) (E := fun _ σ => Q none (mX B (jup A0 r (nI σ.1.2.1)) (jup T0 r (nI σ.1.2.2.1)) (jup K0 r σ.2) R)) (fun j σ => kRI (kPl P) (kOw S P x n) (kWl S) (kWc S) W n most r σ.1.2 ∧ ∀ t, σ.1.1 = some t → 1 ≤ t ∧ t ≤ j) (fun j σ τ hj hI => ⟨?_, fun _ => ⟨?_, ?_⟩⟩) (fun σ τ hI => ?_) (kRn (kOw S P x n w) r n) 0 ((none, s), κ) none (by omega) ⟨hs, fun t ht => by cases ht⟩
  · obtain ⟨⟨sh, s⟩, κ⟩ := σ
    obtain ⟨hI1, hI2⟩ := hI
    dsimp only at hI1 hI2 ⊢
    have hsb := kRI_b hCC hb hr hI1
    have hcb := cand_b (C := kWc S w) (j := j) hC9 hb (by omega)
    have hk2 : s.2.1 ≤ n := by
      rcases Nat.eq_zero_or_pos s.2.1 with q | q
      · omega
      · have := (hI1.2.2 q).2.1
        have := kRn_le (okw := kOw S P x n s.2.2) (r := r) (n := n) (by omega)
        omega
    have hA1 := hA (r + j + 1) (by omega) (by omega)
    have hdb : dS (kPl P) r (j + 1) ≤ 99 * (j + 1) := dS_b (p := kPl P) (n := n) (fun i hi => (kPl_ok hG hi).2) r (j + 1) (by omega)
    have g1 : nI (dS (kPl P) 0 (r + j + 1)) - nI (dS (kPl P) 0 r) = nI (dS (kPl P) r (j + 1)) := by
      rw [show r + j + 1 = r + (j + 1) from rfl, dS_add, Nat.zero_add]; exact nI_subN _ _
    have e1 : nI (r + kRn (kOw S P x n w) r n) < nI (r + j + 1) ↔ False := ⟨fun e => by have := (nI_ltI (by omega) (by omega)).mp e; omega, False.elim⟩
    have e2 : nI n < nI (r + j + 1) ↔ False := ⟨fun e => by have := (nI_ltI (by omega) (by omega)).mp e; omega, False.elim⟩
    have e3 : nI (r + j + 1) - nI r = nI (j + 1) := nI_subN r (j + 1)
    have n1 : (r + j + 1 = r) = False := eq_false (by omega)
    have a1 : jup A0 r (nI s.1) (r + j + 1) = nI (most (r + j + 1)) := by rw [jup_ne (by omega)]; exact hA1
    have le1 := hle (r + j + 1) (by omega)
    have le0 := hle r (by omega)
    have qL : (nI (dS (kPl P) r (j + 1)) < nI (kWl S w)) ↔ dS (kPl P) r (j + 1) < kWl S w := nI_ltI (by omega) (by omega)
    have ofr := fun Q => c_offer (d := d + 1) (B := B) (r := r) (many := j + 1) (w := w) (c := dS (kPl P) r (j + 1) * kWc S w + most (r + j + 1)) (s := s) (A0 := A0) (T0 := T0) (K0 := K0) (R := R) (κ := κ) (Q := Q) hx (by omega) (by omega) (by omega) (by omega) (by omega)
    have ec : kWc S w * dS (kPl P) r (j + 1) = dS (kPl P) r (j + 1) * kWc S w := Nat.mul_comm _ _
    have wl' := fun Q => wl (jup A0 r (nI s.1)) (jup T0 r (nI s.2.1)) (jup K0 r κ) R Q
    have wc' := fun Q => wc (jup A0 r (nI s.1)) (jup T0 r (nI s.2.1)) (jup K0 r κ) R Q
    unfold xcK xfK xF
    dsimp only
    rw [tX0_offerPieces_30]
    cases sh with
    | none =>
      have hcx : xC (kPl P) r (kWl S w) j (none, s) = false := rfl
      rw [hcx]
      by_cases hLd : kWl S w ≤ dS (kPl P) r (j + 1)
      · have hLd' : ¬ dS (kPl P) r (j + 1) < kWl S w := by omega
        refine ⟨some (.int (nI (dS (kPl P) r (j + 1)))), ?_⟩
        simp (config := {decide := true}) (disch := first | omega | assumption | (simp only [mS_cL, mS_cI, mS_cR, mR_cL, mR_cI]; first | assumption | exact hcr _ | fail)) only [tX0_offerPieces_32, tX0_offerPieces_34, tX0_offerPieces_37, tX0_offerPieces_39, tX0_offerPieces_40, tX0_offerPieces_43, tX0_offerPieces_46, tX0_offerPieces_47, tX0_offerPieces_50, tX0_offerPieces_52, tX0_offerPieces_53, tX0_offerPieces_54, tX0_offerPieces_57, tX0_offerPieces_58, tX0_offerPieces_59, tX0_offerPieces_60, tX0_offerPieces_62, tX0_offerPieces_64, tX0_offerPieces_65, tX0_offerPieces_68, tX0_offerPieces_69, tX0_offerPieces_72, tX0_offerPieces_74, tX0_offerPieces_75, tX0_offerPieces_76, tX0_offerPieces_79, tX0_offerPieces_81, tX0_offerPieces_82, tX0_offerPieces_83, tX0_offerPieces_84, tX0_offerPieces_87, tX0_offerPieces_90, tX0_offerPieces_91, tX0_offerPieces_93, tX0_offerPieces_94, tX0_offerPieces_97, tX0_offerPieces_100, tX0_offerPieces_102, tX0_offerPieces_103, tX0_offerPieces_106, tX0_offerPieces_108, tX0_offerPieces_111, tX0_offerPieces_113, tX0_offerPieces_115, tX0_offerPieces_116, tX0_offerPieces_117, tX0_offerPieces_119, tX0_offerPieces_120, tX0_offerPieces_121, tX0_offerPieces_122, tX0_offerPieces_123, tX0_offerPieces_126, tX0_offerPieces_128, tX0_offerPieces_129, tX0_offerPieces_130, tX0_offerPieces_133, tX0_offerPieces_135, tX0_offerPieces_136, tX0_offerPieces_137, tX0_offerPieces_140, tX0_offerPieces_143, tX0_offerPieces_146, jK_some, jK_none, jc1_int, jc1_ref, jc1_none, jc1_long, jc1_null, jc1_rf, va_rf_some, va_rf_none, mI_cI, mL_cL, mR_cR, cI_cI, cL_cL, jup_eq, jne_1, jne_2, Nat.add_left_cancel_iff, mL_cI, mR_cI, mS_cI, mN_cI, mI_cL, mR_cL, mS_cL, mN_cL, mI_cR, mL_cR, mS_cR, mN_cR, true_and, and_true, true_or, or_true, if_true, if_false, jBool_0, jBool_1, Nat.le_refl, Nat.reduceLeDiff, Nat.reduceEqDiff, Nat.reduceAdd, Nat.reduceSub, reduceIte, Int32.reduceLT, Int32.reduceLE, ne_eq, not_false_eq_true, not_true_eq_false, false_or, or_false, and_false, false_and, reduceCtorEq, jn_4, jn_6, jn_8, jn_9, jn_12, jn_60, jn_100, jn_200, jn_400, jn_600, jn_601, jn_3600, jI_4, jI_6, jI_8, jI_9, jI_12, jI_60, jI_100, jI_200, jI_400, jI_600, jI_601, jI_3600, va_cpy_00, jx_0, jx_6, jx_12, jx_400, jx_600, nI_1, nx_5e, nx_l6, nx_l12, nx_l100, nx_l200, nx_l400, nx_l600, nx_l601, nx_l3600, nx_pos, nx_posN, nx_neg1, nx_m1neg, nx_leF, nx_leT, nx_ltF, nx_ltT, nx_mul6, nI_add, nI_1, jx_nI, nx_4, nx_g4, nx_6, nx_g6, nx_8, nx_g8, nx_9, nx_g9, nx_12, nx_g12, nx_14, nx_g14, nx_60, nx_g60, nx_100, nx_g100, nx_200, nx_g200, nx_400, nx_g400, nx_600, nx_g600, nx_601, nx_g601, nx_3600, nx_g3600, hx, hS0, hR0, hws, l115, l116, l119, e1, e2, e3, le1, le0, g1, shE, wl', wc', qL, hLd, hLd', n1, hA1, nx_mul, ec, ofr, Bool.false_eq_true]
        exact Iff.rfl
      · have hLd' : dS (kPl P) r (j + 1) < kWl S w := by omega
        refine ⟨some (.int (nI (dS (kPl P) r (j + 1)))), ?_⟩
        simp (config := {decide := true}) (disch := first | omega | assumption | (simp only [mS_cL, mS_cI, mS_cR, mR_cL, mR_cI]; first | assumption | exact hcr _ | fail)) only [tX0_offerPieces_32, tX0_offerPieces_34, tX0_offerPieces_37, tX0_offerPieces_39, tX0_offerPieces_40, tX0_offerPieces_43, tX0_offerPieces_46, tX0_offerPieces_47, tX0_offerPieces_50, tX0_offerPieces_52, tX0_offerPieces_53, tX0_offerPieces_54, tX0_offerPieces_57, tX0_offerPieces_58, tX0_offerPieces_59, tX0_offerPieces_60, tX0_offerPieces_62, tX0_offerPieces_64, tX0_offerPieces_65, tX0_offerPieces_68, tX0_offerPieces_69, tX0_offerPieces_72, tX0_offerPieces_74, tX0_offerPieces_75, tX0_offerPieces_76, tX0_offerPieces_79, tX0_offerPieces_81, tX0_offerPieces_82, tX0_offerPieces_83, tX0_offerPieces_84, tX0_offerPieces_87, tX0_offerPieces_90, tX0_offerPieces_91, tX0_offerPieces_93, tX0_offerPieces_94, tX0_offerPieces_97, tX0_offerPieces_100, tX0_offerPieces_102, tX0_offerPieces_103, tX0_offerPieces_106, tX0_offerPieces_108, tX0_offerPieces_111, tX0_offerPieces_113, tX0_offerPieces_115, tX0_offerPieces_116, tX0_offerPieces_117, tX0_offerPieces_119, tX0_offerPieces_120, tX0_offerPieces_121, tX0_offerPieces_122, tX0_offerPieces_123, tX0_offerPieces_126, tX0_offerPieces_128, tX0_offerPieces_129, tX0_offerPieces_130, tX0_offerPieces_133, tX0_offerPieces_135, tX0_offerPieces_136, tX0_offerPieces_137, tX0_offerPieces_140, tX0_offerPieces_143, tX0_offerPieces_146, jK_some, jK_none, jc1_int, jc1_ref, jc1_none, jc1_long, jc1_null, jc1_rf, va_rf_some, va_rf_none, mI_cI, mL_cL, mR_cR, cI_cI, cL_cL, jup_eq, jne_1, jne_2, Nat.add_left_cancel_iff, mL_cI, mR_cI, mS_cI, mN_cI, mI_cL, mR_cL, mS_cL, mN_cL, mI_cR, mL_cR, mS_cR, mN_cR, true_and, and_true, true_or, or_true, if_true, if_false, jBool_0, jBool_1, Nat.le_refl, Nat.reduceLeDiff, Nat.reduceEqDiff, Nat.reduceAdd, Nat.reduceSub, reduceIte, Int32.reduceLT, Int32.reduceLE, ne_eq, not_false_eq_true, not_true_eq_false, false_or, or_false, and_false, false_and, reduceCtorEq, jn_4, jn_6, jn_8, jn_9, jn_12, jn_60, jn_100, jn_200, jn_400, jn_600, jn_601, jn_3600, jI_4, jI_6, jI_8, jI_9, jI_12, jI_60, jI_100, jI_200, jI_400, jI_600, jI_601, jI_3600, va_cpy_00, jx_0, jx_6, jx_12, jx_400, jx_600, nI_1, nx_5e, nx_l6, nx_l12, nx_l100, nx_l200, nx_l400, nx_l600, nx_l601, nx_l3600, nx_pos, nx_posN, nx_neg1, nx_m1neg, nx_leF, nx_leT, nx_ltF, nx_ltT, nx_mul6, nI_add, nI_1, jx_nI, nx_4, nx_g4, nx_6, nx_g6, nx_8, nx_g8, nx_9, nx_g9, nx_12, nx_g12, nx_14, nx_g14, nx_60, nx_g60, nx_100, nx_g100, nx_200, nx_g200, nx_400, nx_g400, nx_600, nx_g600, nx_601, nx_g601, nx_3600, nx_g3600, hx, hS0, hR0, hws, l115, l116, l119, e1, e2, e3, le1, le0, g1, shE, wl', wc', qL, hLd, hLd', n1, Bool.false_eq_true]
        exact Iff.rfl
    | some t =>
      obtain ⟨t1, t2⟩ := hI2 t rfl
      have g2 : nI (dS (kPl P) 0 (r + j + 1)) - nI (dS (kPl P) 0 (r + t)) = nI (dS (kPl P) (r + t) (j + 1 - t)) := by
        rw [show r + j + 1 = (r + t) + (j + 1 - t) by omega, dS_add (kPl P) 0 (r + t) (j + 1 - t), Nat.zero_add]; exact nI_subN _ _
      have let_ := hle (r + t) (by omega)
      have hdb2 : dS (kPl P) (r + t) (j + 1 - t) ≤ 99 * (j + 1 - t) := dS_b (p := kPl P) (n := n) (fun i hi => (kPl_ok hG hi).2) (r + t) (j + 1 - t) (by omega)
      have qL2 : (nI (dS (kPl P) (r + t) (j + 1 - t)) < nI (kWl S w)) ↔ dS (kPl P) (r + t) (j + 1 - t) < kWl S w := nI_ltI (by omega) (by omega)
      by_cases hcx : kWl S w ≤ dS (kPl P) (r + t) (j + 1 - t)
      · have hcx' : xC (kPl P) r (kWl S w) j (some t, s) = true := decide_eq_true hcx
        have hcx2 : ¬ dS (kPl P) (r + t) (j + 1 - t) < kWl S w := by omega
        rw [hcx']
        refine ⟨some (.int (nI (dS (kPl P) r (j + 1)))), ?_⟩
        simp (config := {decide := true}) (disch := first | omega | assumption | (simp only [mS_cL, mS_cI, mS_cR, mR_cL, mR_cI]; first | assumption | exact hcr _ | fail)) only [tX0_offerPieces_32, tX0_offerPieces_34, tX0_offerPieces_37, tX0_offerPieces_39, tX0_offerPieces_40, tX0_offerPieces_43, tX0_offerPieces_46, tX0_offerPieces_47, tX0_offerPieces_50, tX0_offerPieces_52, tX0_offerPieces_53, tX0_offerPieces_54, tX0_offerPieces_57, tX0_offerPieces_58, tX0_offerPieces_59, tX0_offerPieces_60, tX0_offerPieces_62, tX0_offerPieces_64, tX0_offerPieces_65, tX0_offerPieces_68, tX0_offerPieces_69, tX0_offerPieces_72, tX0_offerPieces_74, tX0_offerPieces_75, tX0_offerPieces_76, tX0_offerPieces_79, tX0_offerPieces_81, tX0_offerPieces_82, tX0_offerPieces_83, tX0_offerPieces_84, tX0_offerPieces_87, tX0_offerPieces_90, tX0_offerPieces_91, tX0_offerPieces_93, tX0_offerPieces_94, tX0_offerPieces_97, tX0_offerPieces_100, tX0_offerPieces_102, tX0_offerPieces_103, tX0_offerPieces_106, tX0_offerPieces_108, tX0_offerPieces_111, tX0_offerPieces_113, tX0_offerPieces_115, tX0_offerPieces_116, tX0_offerPieces_117, tX0_offerPieces_119, tX0_offerPieces_120, tX0_offerPieces_121, tX0_offerPieces_122, tX0_offerPieces_123, tX0_offerPieces_126, tX0_offerPieces_128, tX0_offerPieces_129, tX0_offerPieces_130, tX0_offerPieces_133, tX0_offerPieces_135, tX0_offerPieces_136, tX0_offerPieces_137, tX0_offerPieces_140, tX0_offerPieces_143, tX0_offerPieces_146, jK_some, jK_none, jc1_int, jc1_ref, jc1_none, jc1_long, jc1_null, jc1_rf, va_rf_some, va_rf_none, mI_cI, mL_cL, mR_cR, cI_cI, cL_cL, jup_eq, jne_1, jne_2, Nat.add_left_cancel_iff, mL_cI, mR_cI, mS_cI, mN_cI, mI_cL, mR_cL, mS_cL, mN_cL, mI_cR, mL_cR, mS_cR, mN_cR, true_and, and_true, true_or, or_true, if_true, if_false, jBool_0, jBool_1, Nat.le_refl, Nat.reduceLeDiff, Nat.reduceEqDiff, Nat.reduceAdd, Nat.reduceSub, reduceIte, Int32.reduceLT, Int32.reduceLE, ne_eq, not_false_eq_true, not_true_eq_false, false_or, or_false, and_false, false_and, reduceCtorEq, jn_4, jn_6, jn_8, jn_9, jn_12, jn_60, jn_100, jn_200, jn_400, jn_600, jn_601, jn_3600, jI_4, jI_6, jI_8, jI_9, jI_12, jI_60, jI_100, jI_200, jI_400, jI_600, jI_601, jI_3600, va_cpy_00, jx_0, jx_6, jx_12, jx_400, jx_600, nI_1, nx_5e, nx_l6, nx_l12, nx_l100, nx_l200, nx_l400, nx_l600, nx_l601, nx_l3600, nx_pos, nx_posN, nx_neg1, nx_m1neg, nx_leF, nx_leT, nx_ltF, nx_ltT, nx_mul6, nI_add, nI_1, jx_nI, nx_4, nx_g4, nx_6, nx_g6, nx_8, nx_g8, nx_9, nx_g9, nx_12, nx_g12, nx_14, nx_g14, nx_60, nx_g60, nx_100, nx_g100, nx_200, nx_g200, nx_400, nx_g400, nx_600, nx_g600, nx_601, nx_g601, nx_3600, nx_g3600, hx, hS0, hR0, hws, l115, l116, l119, e1, e2, e3, le1, le0, let_, g1, g2, shE, wl', wc', qL, qL2, hcx, hcx2]
        done
      · have hcx' : xC (kPl P) r (kWl S w) j (some t, s) = false := decide_eq_false hcx
        have hcx2 : dS (kPl P) (r + t) (j + 1 - t) < kWl S w := by omega
        rw [hcx']
        by_cases hLd : kWl S w ≤ dS (kPl P) r (j + 1)
        · have hLd' : ¬ dS (kPl P) r (j + 1) < kWl S w := by omega
          refine ⟨some (.int (nI (dS (kPl P) r (j + 1)))), ?_⟩
          simp (config := {decide := true}) (disch := first | omega | assumption | (simp only [mS_cL, mS_cI, mS_cR, mR_cL, mR_cI]; first | assumption | exact hcr _ | fail)) only [tX0_offerPieces_32, tX0_offerPieces_34, tX0_offerPieces_37, tX0_offerPieces_39, tX0_offerPieces_40, tX0_offerPieces_43, tX0_offerPieces_46, tX0_offerPieces_47, tX0_offerPieces_50, tX0_offerPieces_52, tX0_offerPieces_53, tX0_offerPieces_54, tX0_offerPieces_57, tX0_offerPieces_58, tX0_offerPieces_59, tX0_offerPieces_60, tX0_offerPieces_62, tX0_offerPieces_64, tX0_offerPieces_65, tX0_offerPieces_68, tX0_offerPieces_69, tX0_offerPieces_72, tX0_offerPieces_74, tX0_offerPieces_75, tX0_offerPieces_76, tX0_offerPieces_79, tX0_offerPieces_81, tX0_offerPieces_82, tX0_offerPieces_83, tX0_offerPieces_84, tX0_offerPieces_87, tX0_offerPieces_90, tX0_offerPieces_91, tX0_offerPieces_93, tX0_offerPieces_94, tX0_offerPieces_97, tX0_offerPieces_100, tX0_offerPieces_102, tX0_offerPieces_103, tX0_offerPieces_106, tX0_offerPieces_108, tX0_offerPieces_111, tX0_offerPieces_113, tX0_offerPieces_115, tX0_offerPieces_116, tX0_offerPieces_117, tX0_offerPieces_119, tX0_offerPieces_120, tX0_offerPieces_121, tX0_offerPieces_122, tX0_offerPieces_123, tX0_offerPieces_126, tX0_offerPieces_128, tX0_offerPieces_129, tX0_offerPieces_130, tX0_offerPieces_133, tX0_offerPieces_135, tX0_offerPieces_136, tX0_offerPieces_137, tX0_offerPieces_140, tX0_offerPieces_143, tX0_offerPieces_146, jK_some, jK_none, jc1_int, jc1_ref, jc1_none, jc1_long, jc1_null, jc1_rf, va_rf_some, va_rf_none, mI_cI, mL_cL, mR_cR, cI_cI, cL_cL, jup_eq, jne_1, jne_2, Nat.add_left_cancel_iff, mL_cI, mR_cI, mS_cI, mN_cI, mI_cL, mR_cL, mS_cL, mN_cL, mI_cR, mL_cR, mS_cR, mN_cR, true_and, and_true, true_or, or_true, if_true, if_false, jBool_0, jBool_1, Nat.le_refl, Nat.reduceLeDiff, Nat.reduceEqDiff, Nat.reduceAdd, Nat.reduceSub, reduceIte, Int32.reduceLT, Int32.reduceLE, ne_eq, not_false_eq_true, not_true_eq_false, false_or, or_false, and_false, false_and, reduceCtorEq, jn_4, jn_6, jn_8, jn_9, jn_12, jn_60, jn_100, jn_200, jn_400, jn_600, jn_601, jn_3600, jI_4, jI_6, jI_8, jI_9, jI_12, jI_60, jI_100, jI_200, jI_400, jI_600, jI_601, jI_3600, va_cpy_00, jx_0, jx_6, jx_12, jx_400, jx_600, nI_1, nx_5e, nx_l6, nx_l12, nx_l100, nx_l200, nx_l400, nx_l600, nx_l601, nx_l3600, nx_pos, nx_posN, nx_neg1, nx_m1neg, nx_leF, nx_leT, nx_ltF, nx_ltT, nx_mul6, nI_add, nI_1, jx_nI, nx_4, nx_g4, nx_6, nx_g6, nx_8, nx_g8, nx_9, nx_g9, nx_12, nx_g12, nx_14, nx_g14, nx_60, nx_g60, nx_100, nx_g100, nx_200, nx_g200, nx_400, nx_g400, nx_600, nx_g600, nx_601, nx_g601, nx_3600, nx_g3600, hx, hS0, hR0, hws, l115, l116, l119, e1, e2, e3, le1, le0, let_, g1, g2, shE, wl', wc', qL, qL2, hcx, hcx2, hLd, hLd', n1, hA1, nx_mul, ec, ofr, Bool.false_eq_true]
          exact Iff.rfl
        · have hLd' : dS (kPl P) r (j + 1) < kWl S w := by omega
          refine ⟨some (.int (nI (dS (kPl P) r (j + 1)))), ?_⟩
          simp (config := {decide := true}) (disch := first | omega | assumption | (simp only [mS_cL, mS_cI, mS_cR, mR_cL, mR_cI]; first | assumption | exact hcr _ | fail)) only [tX0_offerPieces_32, tX0_offerPieces_34, tX0_offerPieces_37, tX0_offerPieces_39, tX0_offerPieces_40, tX0_offerPieces_43, tX0_offerPieces_46, tX0_offerPieces_47, tX0_offerPieces_50, tX0_offerPieces_52, tX0_offerPieces_53, tX0_offerPieces_54, tX0_offerPieces_57, tX0_offerPieces_58, tX0_offerPieces_59, tX0_offerPieces_60, tX0_offerPieces_62, tX0_offerPieces_64, tX0_offerPieces_65, tX0_offerPieces_68, tX0_offerPieces_69, tX0_offerPieces_72, tX0_offerPieces_74, tX0_offerPieces_75, tX0_offerPieces_76, tX0_offerPieces_79, tX0_offerPieces_81, tX0_offerPieces_82, tX0_offerPieces_83, tX0_offerPieces_84, tX0_offerPieces_87, tX0_offerPieces_90, tX0_offerPieces_91, tX0_offerPieces_93, tX0_offerPieces_94, tX0_offerPieces_97, tX0_offerPieces_100, tX0_offerPieces_102, tX0_offerPieces_103, tX0_offerPieces_106, tX0_offerPieces_108, tX0_offerPieces_111, tX0_offerPieces_113, tX0_offerPieces_115, tX0_offerPieces_116, tX0_offerPieces_117, tX0_offerPieces_119, tX0_offerPieces_120, tX0_offerPieces_121, tX0_offerPieces_122, tX0_offerPieces_123, tX0_offerPieces_126, tX0_offerPieces_128, tX0_offerPieces_129, tX0_offerPieces_130, tX0_offerPieces_133, tX0_offerPieces_135, tX0_offerPieces_136, tX0_offerPieces_137, tX0_offerPieces_140, tX0_offerPieces_143, tX0_offerPieces_146, jK_some, jK_none, jc1_int, jc1_ref, jc1_none, jc1_long, jc1_null, jc1_rf, va_rf_some, va_rf_none, mI_cI, mL_cL, mR_cR, cI_cI, cL_cL, jup_eq, jne_1, jne_2, Nat.add_left_cancel_iff, mL_cI, mR_cI, mS_cI, mN_cI, mI_cL, mR_cL, mS_cL, mN_cL, mI_cR, mL_cR, mS_cR, mN_cR, true_and, and_true, true_or, or_true, if_true, if_false, jBool_0, jBool_1, Nat.le_refl, Nat.reduceLeDiff, Nat.reduceEqDiff, Nat.reduceAdd, Nat.reduceSub, reduceIte, Int32.reduceLT, Int32.reduceLE, ne_eq, not_false_eq_true, not_true_eq_false, false_or, or_false, and_false, false_and, reduceCtorEq, jn_4, jn_6, jn_8, jn_9, jn_12, jn_60, jn_100, jn_200, jn_400, jn_600, jn_601, jn_3600, jI_4, jI_6, jI_8, jI_9, jI_12, jI_60, jI_100, jI_200, jI_400, jI_600, jI_601, jI_3600, va_cpy_00, jx_0, jx_6, jx_12, jx_400, jx_600, nI_1, nx_5e, nx_l6, nx_l12, nx_l100, nx_l200, nx_l400, nx_l600, nx_l601, nx_l3600, nx_pos, nx_posN, nx_neg1, nx_m1neg, nx_leF, nx_leT, nx_ltF, nx_ltT, nx_mul6, nI_add, nI_1, jx_nI, nx_4, nx_g4, nx_6, nx_g6, nx_8, nx_g8, nx_9, nx_g9, nx_12, nx_g12, nx_14, nx_g14, nx_60, nx_g60, nx_100, nx_g100, nx_200, nx_g200, nx_400, nx_g400, nx_600, nx_g600, nx_601, nx_g601, nx_3600, nx_g3600, hx, hS0, hR0, hws, l115, l116, l119, e1, e2, e3, le1, le0, let_, g1, g2, shE, wl', wc', qL, qL2, hcx, hcx2, hLd, hLd', n1, Bool.false_eq_true]
          exact Iff.rfl
  · show kRI (kPl P) (kOw S P x n) (kWl S) (kWc S) W n most r (xF (kPl P) most r (kWl S w) (kWc S w) w j σ.1).2
    rw [xF_2]
    exact kRI_up hw hj hI.1
  · intro t ht
    have ht : (xF (kPl P) most r (kWl S w) (kWc S w) w j σ.1).1 = some t := ht
    unfold xF at ht
    by_cases hLd : kWl S w ≤ dS (kPl P) r (j + 1)
    · rw [if_pos hLd] at ht
      cases hq1 : σ.1.1 with
      | some t' =>
        rw [hq1] at ht
        have e : t' = t := by injection ht
        have := hI.2 t' hq1
        omega
      | none =>
        rw [hq1] at ht
        have e : j + 1 = t := by injection ht
        omega
    · rw [if_neg hLd] at ht
      have := hI.2 t ht
      omega
  · have e1 : nI (r + kRn (kOw S P x n w) r n) < nI (r + kRn (kOw S P x n w) r n + 1) ↔ True := ⟨fun _ => trivial, fun _ => nI_lt (by omega) (by omega)⟩
    rw [tX0_offerPieces_30]
    simp (config := {decide := true}) (disch := first | omega | assumption | (simp only [mS_cL, mS_cI, mS_cR, mR_cL, mR_cI]; first | assumption | exact hcr _ | fail)) only [tX0_offerPieces_32, tX0_offerPieces_34, tX0_offerPieces_37, tX0_offerPieces_39, tX0_offerPieces_40, tX0_offerPieces_43, tX0_offerPieces_46, tX0_offerPieces_47, tX0_offerPieces_50, tX0_offerPieces_52, tX0_offerPieces_53, tX0_offerPieces_54, tX0_offerPieces_57, tX0_offerPieces_58, tX0_offerPieces_59, tX0_offerPieces_60, tX0_offerPieces_62, tX0_offerPieces_64, tX0_offerPieces_65, tX0_offerPieces_68, tX0_offerPieces_69, tX0_offerPieces_72, tX0_offerPieces_74, tX0_offerPieces_75, tX0_offerPieces_76, tX0_offerPieces_79, tX0_offerPieces_81, tX0_offerPieces_82, tX0_offerPieces_83, tX0_offerPieces_84, tX0_offerPieces_87, tX0_offerPieces_90, tX0_offerPieces_91, tX0_offerPieces_93, tX0_offerPieces_94, tX0_offerPieces_97, tX0_offerPieces_100, tX0_offerPieces_102, tX0_offerPieces_103, tX0_offerPieces_106, tX0_offerPieces_108, tX0_offerPieces_111, tX0_offerPieces_113, tX0_offerPieces_115, tX0_offerPieces_116, tX0_offerPieces_117, tX0_offerPieces_119, tX0_offerPieces_120, tX0_offerPieces_121, tX0_offerPieces_122, tX0_offerPieces_123, tX0_offerPieces_126, tX0_offerPieces_128, tX0_offerPieces_129, tX0_offerPieces_130, tX0_offerPieces_133, tX0_offerPieces_135, tX0_offerPieces_136, tX0_offerPieces_137, tX0_offerPieces_140, tX0_offerPieces_143, tX0_offerPieces_146, jK_some, jK_none, jc1_int, jc1_ref, jc1_none, jc1_long, jc1_null, jc1_rf, va_rf_some, va_rf_none, mI_cI, mL_cL, mR_cR, cI_cI, cL_cL, jup_eq, jne_1, jne_2, Nat.add_left_cancel_iff, mL_cI, mR_cI, mS_cI, mN_cI, mI_cL, mR_cL, mS_cL, mN_cL, mI_cR, mL_cR, mS_cR, mN_cR, true_and, and_true, true_or, or_true, if_true, if_false, jBool_0, jBool_1, Nat.le_refl, Nat.reduceLeDiff, Nat.reduceEqDiff, Nat.reduceAdd, Nat.reduceSub, reduceIte, Int32.reduceLT, Int32.reduceLE, ne_eq, not_false_eq_true, not_true_eq_false, false_or, or_false, and_false, false_and, reduceCtorEq, jn_4, jn_6, jn_8, jn_9, jn_12, jn_60, jn_100, jn_200, jn_400, jn_600, jn_601, jn_3600, jI_4, jI_6, jI_8, jI_9, jI_12, jI_60, jI_100, jI_200, jI_400, jI_600, jI_601, jI_3600, va_cpy_00, jx_0, jx_6, jx_12, jx_400, jx_600, nI_1, nx_5e, nx_l6, nx_l12, nx_l100, nx_l200, nx_l400, nx_l600, nx_l601, nx_l3600, nx_pos, nx_posN, nx_neg1, nx_m1neg, nx_leF, nx_leT, nx_ltF, nx_ltT, nx_mul6, nI_add, nI_1, jx_nI, nx_4, nx_g4, nx_6, nx_g6, nx_8, nx_g8, nx_9, nx_g9, nx_12, nx_g12, nx_14, nx_g14, nx_60, nx_g60, nx_100, nx_g100, nx_200, nx_g200, nx_400, nx_g400, nx_600, nx_g600, nx_601, nx_g601, nx_3600, nx_g3600, e1]
end LAY
