/-! ===== trying a law ===== -/
section TRI
variable {m m1 m2 : jmM} {nf nm n N g d a : Nat} {G : Nat → KLaw} {P P' : Pt} {Q : Option Value → jmM → Prop} {x w : Int32}
def kWdN (w x : Int32) : Int32 := (kHeld (w.toInt64 + x.toInt64) 0 9999).toInt32
def trP (P : Pt) (g : Nat) (w : Int32) : Pt := (jup (jup (qS P) 2 (nI g)) 10 w, qR P, qB P, qM P, qU P, qH P)
theorem kHeld9 {v : Int64} : 0 ≤ (kHeld v 0 9999).toInt ∧ (kHeld v 0 9999).toInt ≤ 9999 := by
  unfold kHeld
  have e0 : (0 : Int64).toInt = 0 := by decide
  have e9 : (9999 : Int64).toInt = 9999 := by decide
  by_cases h1 : v < 0
  · rw [if_pos h1, e0]; omega
  · rw [if_neg h1]
    by_cases h2 : 9999 < v
    · rw [if_pos h2, e9]; omega
    · rw [if_neg h2]
      have h3 := Int64.le_iff_toInt_le.mp (Int64.not_lt.mp h1)
      have h4 := Int64.le_iff_toInt_le.mp (Int64.not_lt.mp h2)
      omega
theorem i64_i32 {v : Int64} (h1 : -2147483648 ≤ v.toInt) (h2 : v.toInt < 2147483648) : v.toInt32.toInt = v.toInt := by
  rw [Int64.toInt_toInt32]
  exact Int.bmod_eq_of_le (by omega) (by omega)
theorem kWdN_in : 0 ≤ (kWdN w x).toInt ∧ (kWdN w x).toInt ≤ 9999 := by
  have h := kHeld9 (v := w.toInt64 + x.toInt64)
  unfold kWdN
  generalize kHeld (w.toInt64 + x.toInt64) 0 9999 = v at *
  rw [i64_i32 (by omega) (by omega)]
  exact h
theorem shift_eq (hw : 0 ≤ w.toInt ∧ w.toInt ≤ 9999) (hx : -9999 ≤ x.toInt ∧ x.toInt ≤ 9999) : (if (if (w + x).toInt64 < 9999 then (w + x).toInt64 else 9999) < 0 then (0 : Int64) else if (w + x).toInt64 < 9999 then (w + x).toInt64 else 9999).toInt32 = kWdN w x := by
  have e : (w + x).toInt64 = w.toInt64 + x.toInt64 := by
    apply Int64.toInt_inj.mp
    rw [t64_i, i32_add (by omega) (by omega), i64_add (by rw [t64_i, t64_i]; omega) (by rw [t64_i, t64_i]; omega), t64_i, t64_i]
  unfold kWdN kHeld
  rw [e]
  generalize w.toInt64 + x.toInt64 = v
  congr 1
  grind [Int64.not_lt, Int64.lt_iff_toInt_lt]
theorem trP_GP (hG : GP nf nm n P) (h0 : qS P 0 ≠ 0) (hg : g < nm) (hw : 0 ≤ w.toInt ∧ w.toInt ≤ 9999) : GP nf nm n (trP P g w) := by
  obtain ⟨g1, g2, g3 | ⟨g3, g4⟩⟩ := hG
  · exact absurd g3.1 h0
  · obtain ⟨q1, q2, q3, ⟨q4, q4'⟩, q5, q6, q7, q8⟩ := g4
    exact ⟨g1, g2, Or.inr ⟨g3, q1, ⟨g, hg, rfl⟩, q3, ⟨hw, q4'⟩, q5, q6, q7, q8⟩⟩
theorem kGo_all (hk : KLaws G nf nm) : ∀ k n P, GP nf nm n P → GP nf nm (n + (kGo G k P).1) (kGo G k P).2 ∧ kLA (kGo G k P).2 (n + (kGo G k P).1) n = (qS P 9).toInt ∧ ∀ i, i < 6 * n → qR (kGo G k P).2 i = qR P i
  | 0, n, P, h => ⟨h, by show kLA P n n = _; unfold kLA; rw [if_neg (by omega)], fun _ _ => rfl⟩
  | k + 1, n, P, h => by
    unfold kGo
    by_cases h1 : qS P 0 = 1
    · rw [if_pos h1]
      obtain ⟨a1, a2, f, g, -, -, -, -, -, ek⟩ := kMn_GP hk h h1
      obtain ⟨b1, b2, b3⟩ := kGo_all hk k (n + 1) (kMn G P) a1
      have ej : jx (qS P 15) = n := by rw [h.1, jx_nI (by omega)]
      have c1 : qR (kMn G P) (6 * n + 4) = qS P 9 := by
        unfold kMn kMin kMinG
        show kRowG _ _ _ _ P (jx (qS P 15)) (6 * n + 4) = _
        rw [ej, kRowG_new.2.2.2.2.1]
      have c2 : ∀ i, i < 6 * n → qR (kMn G P) i = qR P i := by
        intro i hi
        unfold kMn kMin kMinG
        show kRowG _ _ _ _ P (jx (qS P 15)) i = _
        rw [ej, kRowG_old hi]
      refine ⟨?_, ?_, ?_⟩
      · show GP nf nm (n + ((kGo G k (kMn G P)).1 + 1)) (kGo G k (kMn G P)).2
        rw [show n + ((kGo G k (kMn G P)).1 + 1) = n + 1 + (kGo G k (kMn G P)).1 by omega]
        exact b1
      · show kLA (kGo G k (kMn G P)).2 (n + ((kGo G k (kMn G P)).1 + 1)) n = _
        unfold kLA
        rw [if_pos (by omega), b3 (6 * n + 4) (by omega), c1]
      · intro i hi
        show qR (kGo G k (kMn G P)).2 i = _
        rw [b3 i (by omega), c2 i hi]
    · rw [if_neg h1]
      exact ⟨h, by show kLA P n n = _; unfold kLA; rw [if_neg (by omega)], fun _ _ => rfl⟩
theorem kGrn_sum (hG : GP nf nm n P) : ∀ k i (s : Int32), i + k = n → jfor (fun r s => s + qR P (6 * r + 3)) i k s = s + ((if i < n then qR P (6 * i + 4) else qS P 9) - qS P 9)
  | 0, i, s, h => by
    rw [if_neg (by omega), Int32.sub_self, Int32.add_zero]; rfl
  | k + 1, i, s, h => by
    show jfor (fun r s => s + qR P (6 * r + 3)) (i + 1) k (s + qR P (6 * i + 3)) = _
    rw [kGrn_sum hG k (i + 1) _ (by omega), if_pos (show i < n by omega)]
    obtain ⟨⟨⟨r1, r2, r3, r4⟩, -⟩, -⟩ := GP_row hG (show i < n by omega)
    unfold kLA at r1 r3 r4
    rw [if_pos (show i < n by omega)] at r1 r3 r4
    have e : (if i + 1 < n then qR P (6 * (i + 1) + 4) else qS P 9) = qR P (6 * i + 4) - qR P (6 * i + 3) := by
      apply Int32.toInt_inj.mp
      have := i32_r (qR P (6 * i + 4))
      rw [i32_sub (by omega) (by omega), ← r4]
      split <;> rfl
    rw [e]
    generalize qR P (6 * i + 4) = u
    generalize qR P (6 * i + 3) = v
    generalize qS P 9 = t
    grind
/-! ===== X rehearses ===== -/
def XTr (m m' : jmM) : Prop := mS m' = mS m ∧ mN m' = mN m ∧ mZ m' = mZ m ∧ (∀ b, b ≠ 102 → mR m' b = mR m b) ∧ (∀ j, j ≠ 1 → j ≠ 2 → mR m' 102 j = mR m 102 j) ∧ (∃ t, mI m' 86 2 = nI t) ∧ (∀ b, b ≠ 86 → b < 102 ∨ 112 < b → mI m' b = mI m b) ∧ ∀ b, b ≠ 87 → b ≠ 88 → b < 102 ∨ 112 < b → mL m' b = mL m b
theorem XTr.refl (h : ∃ t, mI m 86 2 = nI t) : XTr m m := ⟨rfl, rfl, rfl, fun _ _ => rfl, fun _ _ _ => rfl, h, fun _ _ _ => rfl, fun _ _ _ _ => rfl⟩
theorem XTr.trans (h : XTr m m1) (h' : XTr m1 m2) : XTr m m2 := by
  obtain ⟨a1, a2, a3, a4, a5, -, a7, a8⟩ := h
  obtain ⟨b1, b2, b3, b4, b5, b6, b7, b8⟩ := h'
  exact ⟨b1.trans a1, b2.trans a2, b3.trans a3, fun b hb => (b4 b hb).trans (a4 b hb), fun j h1 h2 => (b5 j h1 h2).trans (a5 j h1 h2), b6, fun b h1 h2 => (b7 b h1 h2).trans (a7 b h1 h2), fun b h1 h2 h3 => (b8 b h1 h2 h3).trans (a8 b h1 h2 h3)⟩
theorem XTr.rk (h : XTr m m1) : RK m m1 := by
  obtain ⟨a1, a2, a3, a4, a5, -⟩ := h
  intro b j hb
  by_cases e : b = 102
  · subst e; exact a5 j (hb (by unfold isPt; omega)).1 (hb (by unfold isPt; omega)).2
  · rw [a4 b e]
/-- what X needs to rehearse -/
def XH (G : Nat → KLaw) (nf nm n : Nat) (P : Pt) (m : jmM) : Prop := RA m ∧ RLw nf nm G m ∧ XPot m 91 P ∧ GP nf nm n P
theorem XH.tr (h : XTr m m1) (hh : XH G nf nm n P m) : XH G nf nm n P m1 := by
  obtain ⟨h1, h2, h3, h4⟩ := hh
  have hk := h.rk
  obtain ⟨a1, a2, a3, a4, a5, a6, a7, a8⟩ := h
  refine ⟨RA_frk a1 hk a2 a3 ?_ a6 ?_ h1, RL_frk a1 hk ?_ ?_ ?_ ?_ ?_ ?_ h2, XPot_frk a1 ?_ ?_ ?_ h3, h4⟩
  · rw [a7 119 (by omega) (by omega)]; exact h1.2.2.2.2.1
  · rw [a7 195 (by omega) (by omega)]; exact h1.2.2.2.2.2.2
  · intro j u v; exact a7 j (by omega) (by omega)
  · intro j u v; exact a7 j (by omega) (by omega)
  · rw [a7 10 (by omega) (by omega)]
  · rw [a7 36 (by omega) (by omega)]
  · rw [a7 195 (by omega) (by omega)]
  · rw [a7 195 (by omega) (by omega)]
  · intro j u v; exact a4 j (by omega)
  · intro j u v; exact a7 j (by omega) (by omega)
  · intro j u v; exact a8 j (by omega) (by omega) (by omega)
theorem XPot_wide (hX : XPot m a P) : XPot (cI m a (jup (mI m a) 6 w)) a (jup (qS P) 10 w, qR P, qB P, qM P, qU P, qH P) := by
  obtain ⟨p, ⟨⟨s3, s5, s6, s7, s8, s9, s10, s11⟩, s4, ⟨t0, t1, t2, t3, t4, t5⟩, sr⟩, r1, r2⟩ := hX
  refine ⟨p, ⟨⟨?_, ?_, ?_, ?_, ?_, ?_, ?_, ?_⟩, s4, ⟨?_, ?_, ?_, ?_, ?_, ?_⟩, sr⟩, ?_, ?_⟩
  · rw [mI_same, jup_ne (by decide)]; exact s3
  · rw [mI_same, jup_ne (by decide)]; exact s5
  · rw [mI_same, jup_same]; show w = jup (qS P) 10 w 10; rw [jup_same]
  · rw [mI_same, jup_ne (by decide)]; exact s7
  · rw [mI_same, jup_ne (by decide)]; exact s8
  · rw [mI_same, jup_ne (by decide)]; exact s9
  · rw [mI_same, jup_ne (by decide)]; exact s10
  · rw [mI_same, jup_ne (by decide)]; exact s11
  · rw [mI_ne (by omega)]; exact t0
  · rw [mI_ne (by omega)]; exact t1
  · rw [mI_ne (by omega)]; exact t2
  · rw [mI_ne (by omega)]; exact t3
  · rw [mI_ne (by omega)]; exact t4
  · rw [mI_ne (by omega)]; exact t5
  · intro k hk; rw [mI_ne (by omega), mI_ne (by omega)]; exact r1 k hk
  · intro r hr; rw [mI_ne (by omega), mI_ne (by omega), mI_ne (by omega), mI_ne (by omega), mI_ne (by omega)]; exact r2 r hr
theorem X_reh (hh : XH G nf nm n P m) (h0 : qS P 0 ≠ 0) (hg : g < nm) (hN : N ≤ 600) (hx : -9999 ≤ x.toInt ∧ x.toInt ≤ 9999) : ∃ m', CE 99 179 [.ref 0, .ref (38 + 6 * g), .int (nI N), .int x] m none m' ∧ XPot m' 102 (kGo G N (trP P g (kWdN (qS P 10) x))).2 ∧ XTr m m' := by
  obtain ⟨hA, hL, hX, hG⟩ := hh
  have hxx := hA.1.1
  have hp := hA.1.2.2.2.2.2.2.2.1
  have h8 := hL.1.2.1
  obtain ⟨m1, c1, c2, e1, e2, e3, e4, e5, e6, e7⟩ := X_becomeLike (d := 94) (a := 102) (b := 91) hp hX hG (by omega)
  obtain ⟨m2, hm2⟩ : ∃ m2, cR m1 102 (jup (mR m1 102) 2 (some (38 + 6 * g))) = m2 := ⟨_, rfl⟩
  have f2 := XPot_follow (m' := m2) c2 hG h0 hg h8 (by rw [← hm2]; rfl) (fun b hb => by rw [← hm2, mR_ne hb]) (by rw [← hm2, mR_same]) (fun j u v => by rw [← hm2]; rfl) (fun j u v => by rw [← hm2]; rfl)
  have hw : 0 ≤ (qS P 10).toInt ∧ (qS P 10).toInt ≤ 9999 := by
    obtain ⟨-, -, g3 | ⟨-, g4⟩⟩ := id hG
    · exact absurd g3.1 h0
    · exact g4.2.2.2.1.1
  have v6 : mI m2 102 6 = qS P 10 := f2.1.2.1.1.2.2.1
  obtain ⟨m3, hm3⟩ : ∃ m3, cI m2 102 (jup (mI m2 102) 6 (kWdN (qS P 10) x)) = m3 := ⟨_, rfl⟩
  have f3 : XPot m3 102 (trP P g (kWdN (qS P 10) x)) := by rw [← hm3]; exact XPot_wide f2.1
  have s1 := fun Q => c_Pot_follow (d := 97) (m := m1) (a := 102) (b := 38 + 6 * g) (Q := Q) c2.1
  have s2 := fun Q => c_Pot_shiftWide (d := 96) (m := m2) (a := 102) (x := x) (Q := Q) f2.1.1
  rw [v6, shift_eq hw hx, hm3] at s2
  rw [hm2] at s1
  have S3 : mS m3 = mS m := by rw [← hm3, ← hm2]; exact e1
  have R3 : ∀ b, b ≠ 102 → mR m3 b = mR m b := fun b hb => by rw [← hm3, mR_cI, ← hm2, mR_ne hb, e4 b hb]
  have I3 : ∀ b, b < 102 ∨ 112 < b → mI m3 b = mI m b := fun b hb => by rw [← hm3, mI_ne (by omega), ← hm2]; exact e6 b (by omega)
  have L3 : ∀ b, b < 102 ∨ 112 < b → mL m3 b = mL m b := fun b hb => by rw [← hm3, mL_cI, ← hm2]; exact e7 b (by omega) (by omega) (by omega)
  have hRK3 : RK m m3 := by
    intro b j hb
    by_cases e : b = 102
    · have := hb (by unfold isPt; omega)
      rw [e, ← hm3, mR_cI, ← hm2, mR_same, jup_ne this.2, e5, jup_ne this.2, jup_ne this.1]
    · rw [R3 b e]
  have l3 : RLw nf nm G m3 := RL_frk S3 hRK3 (fun j u v => I3 j (by omega)) (fun j u v => I3 j (by omega)) (by rw [I3 10 (by omega)]) (by rw [I3 36 (by omega)]) (by rw [I3 195 (by omega)]) (by rw [I3 195 (by omega)]) hL
  have hd := hA.1.2.2.2.2.2.1
  obtain ⟨m4, k1, k2, k3⟩ := X_goOn (d := 89) (a := 102) (N := N) hL.1 (by omega) hN f3 (trP_GP hG h0 hg kWdN_in) l3.2.1 (by unfold DeskL at hd ⊢; rw [S3, R3 86 (by omega)]; exact hd) (by rw [I3 86 (by omega)]; exact hA.2.2.2.2.2.1)
  refine ⟨m4, CE.of fun Q => ?_, k2, ?_⟩
  · rw [nX11_rehearse (d := 98)]
    have r1 : mR m1 0 = mR m 0 := e4 0 (by omega)
    have r2 : mR m2 0 = mR m 0 := by rw [← hm2, mR_ne (by omega)]; exact r1
    have t2 : mS m2 = mS m := by rw [← hm2]; exact e1
    simp (config := {decide := true}) (disch := first | omega | assumption | (simp only [mS_cL, mS_cI, mS_cR, mR_cL, mR_cI]; first | assumption | exact hcr _ | fail)) only [tX11_rehearse_0, tX11_rehearse_1, tX11_rehearse_4, tX11_rehearse_5, tX11_rehearse_8, tX11_rehearse_11, tX11_rehearse_12, tX11_rehearse_15, tX11_rehearse_16, tX11_rehearse_19, tX11_rehearse_20, tX11_rehearse_23, tX11_rehearse_24, tX11_rehearse_27, tX11_rehearse_28, tX11_rehearse_31, tX11_rehearse_32, tX11_rehearse_33, tX11_rehearse_36, tX11_rehearse_39, tX11_rehearse_40, jK_some, jK_none, jc1_int, jc1_ref, jc1_none, jc1_long, jc1_null, jc1_rf, va_rf_some, va_rf_none, mI_cI, mL_cL, mR_cR, cI_cI, cL_cL, jup_eq, jne_1, jne_2, Nat.add_left_cancel_iff, mL_cI, mR_cI, mS_cI, mN_cI, mI_cL, mR_cL, mS_cL, mN_cL, mI_cR, mL_cR, mS_cR, mN_cR, true_and, and_true, true_or, or_true, if_true, if_false, jBool_0, jBool_1, Nat.le_refl, Nat.reduceLeDiff, Nat.reduceEqDiff, Nat.reduceAdd, Nat.reduceSub, reduceIte, Int32.reduceLT, Int32.reduceLE, ne_eq, not_false_eq_true, not_true_eq_false, false_or, or_false, and_false, false_and, reduceCtorEq, jn_4, jn_6, jn_8, jn_9, jn_12, jn_60, jn_100, jn_200, jn_400, jn_600, jn_601, jn_3600, jI_4, jI_6, jI_8, jI_9, jI_12, jI_60, jI_100, jI_200, jI_400, jI_600, jI_601, jI_3600, va_cpy_00, jx_0, jx_6, jx_12, jx_400, jx_600, nI_1, hxx, hp, c1.iff, e1, r1, s1]
    simp (config := {decide := true}) (disch := first | omega | assumption | (simp only [mS_cL, mS_cI, mS_cR, mR_cL, mR_cI]; first | assumption | exact hcr _ | fail)) only [tX11_rehearse_0, tX11_rehearse_1, tX11_rehearse_4, tX11_rehearse_5, tX11_rehearse_8, tX11_rehearse_11, tX11_rehearse_12, tX11_rehearse_15, tX11_rehearse_16, tX11_rehearse_19, tX11_rehearse_20, tX11_rehearse_23, tX11_rehearse_24, tX11_rehearse_27, tX11_rehearse_28, tX11_rehearse_31, tX11_rehearse_32, tX11_rehearse_33, tX11_rehearse_36, tX11_rehearse_39, tX11_rehearse_40, jK_some, jK_none, jc1_int, jc1_ref, jc1_none, jc1_long, jc1_null, jc1_rf, va_rf_some, va_rf_none, mI_cI, mL_cL, mR_cR, cI_cI, cL_cL, jup_eq, jne_1, jne_2, Nat.add_left_cancel_iff, mL_cI, mR_cI, mS_cI, mN_cI, mI_cL, mR_cL, mS_cL, mN_cL, mI_cR, mL_cR, mS_cR, mN_cR, true_and, and_true, true_or, or_true, if_true, if_false, jBool_0, jBool_1, Nat.le_refl, Nat.reduceLeDiff, Nat.reduceEqDiff, Nat.reduceAdd, Nat.reduceSub, reduceIte, Int32.reduceLT, Int32.reduceLE, ne_eq, not_false_eq_true, not_true_eq_false, false_or, or_false, and_false, false_and, reduceCtorEq, jn_4, jn_6, jn_8, jn_9, jn_12, jn_60, jn_100, jn_200, jn_400, jn_600, jn_601, jn_3600, jI_4, jI_6, jI_8, jI_9, jI_12, jI_60, jI_100, jI_200, jI_400, jI_600, jI_601, jI_3600, va_cpy_00, jx_0, jx_6, jx_12, jx_400, jx_600, nI_1, hxx, hp, t2, r2, s2]
    simp (config := {decide := true}) (disch := first | omega | assumption | (simp only [mS_cL, mS_cI, mS_cR, mR_cL, mR_cI]; first | assumption | exact hcr _ | fail)) only [tX11_rehearse_0, tX11_rehearse_1, tX11_rehearse_4, tX11_rehearse_5, tX11_rehearse_8, tX11_rehearse_11, tX11_rehearse_12, tX11_rehearse_15, tX11_rehearse_16, tX11_rehearse_19, tX11_rehearse_20, tX11_rehearse_23, tX11_rehearse_24, tX11_rehearse_27, tX11_rehearse_28, tX11_rehearse_31, tX11_rehearse_32, tX11_rehearse_33, tX11_rehearse_36, tX11_rehearse_39, tX11_rehearse_40, jK_some, jK_none, jc1_int, jc1_ref, jc1_none, jc1_long, jc1_null, jc1_rf, va_rf_some, va_rf_none, mI_cI, mL_cL, mR_cR, cI_cI, cL_cL, jup_eq, jne_1, jne_2, Nat.add_left_cancel_iff, mL_cI, mR_cI, mS_cI, mN_cI, mI_cL, mR_cL, mS_cL, mN_cL, mI_cR, mL_cR, mS_cR, mN_cR, true_and, and_true, true_or, or_true, if_true, if_false, jBool_0, jBool_1, Nat.le_refl, Nat.reduceLeDiff, Nat.reduceEqDiff, Nat.reduceAdd, Nat.reduceSub, reduceIte, Int32.reduceLT, Int32.reduceLE, ne_eq, not_false_eq_true, not_true_eq_false, false_or, or_false, and_false, false_and, reduceCtorEq, jn_4, jn_6, jn_8, jn_9, jn_12, jn_60, jn_100, jn_200, jn_400, jn_600, jn_601, jn_3600, jI_4, jI_6, jI_8, jI_9, jI_12, jI_60, jI_100, jI_200, jI_400, jI_600, jI_601, jI_3600, va_cpy_00, jx_0, jx_6, jx_12, jx_400, jx_600, nI_1, hxx, hp, S3, R3 0, k1.iff]
  · obtain ⟨q1, q2, q3, q4, q5, q6, q7⟩ := k3
    refine ⟨q1.trans S3, ?_, ?_, ?_, ?_, q7, ?_, ?_⟩
    · rw [q3, ← hm3, ← hm2]; exact e2
    · rw [q4, ← hm3, ← hm2]; exact e3
    · intro b hb; rw [q2, R3 b hb]
    · intro j u v; rw [q2]; exact hRK3 102 j (fun _ => ⟨u, v⟩)
    · intro b u v; rw [q5 b (by omega) (by omega) u, I3 b v]
    · intro b u v w; rw [q6 b (by omega) (by omega) (by omega) u v, L3 b w]
end TRI
