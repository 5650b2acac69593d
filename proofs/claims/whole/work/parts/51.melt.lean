/-! ===== melting back ===== -/
def stMb (R : Nat → Int32) (B : Nat → Int64) (r : Nat) (s : (Nat → Int32) × (Nat → Int64)) : (Nat → Int32) × (Nat → Int64) := (jup (jup s.1 9 (s.1 9 + R (6 * r + 3))) 13 (s.1 13 - R (6 * r + 2)), jfor (fun k M => jup M k (M k + B (6 * r + k))) 0 6 s.2)
def kBkE (R S : Nat → Int32) (i : Nat) : Nat → Int32 := jup (jup (jup (jup (jup S 15 (nI i)) 10 (if i = 0 then S 6 else R (6 * (i - 1)))) 11 (if i = 0 then S 5 else R (6 * (i - 1) + 1))) 12 (if i = 0 then 0 else R (6 * (i - 1) + 2))) 0 (if S 7 ≤ S 14 then 5 else 1)
def kBk (P : Pt) (n i : Nat) : Pt := (kBkE (qR P) (jfor (stMb (qR P) (qB P)) i (n - i) (qS P, qM P)).1 i, qR P, qB P, (jfor (stMb (qR P) (qB P)) i (n - i) (qS P, qM P)).2, qU P, qH P)
section MELT
variable {d a c nf nm : Nat} {x y z u v w : Int32} {m m' : jmM} {n i : Nat} {P : Pt} {Q : Option Value → jmM → Prop}
theorem jadd6 {B : Nat → Int64} {M : Nat → Int64} {r : Nat} : ∀ q k0 k, (jfor (fun k M => jup M k (M k + B (6 * r + k))) k0 q M) k = if k0 ≤ k ∧ k < k0 + q then M k + B (6 * r + k) else M k := by
  intro q
  induction q generalizing M with
  | zero => intro k0 k; rw [if_neg (by omega)]; rfl
  | succ q ih =>
    intro k0 k
    show (jfor (fun k M => jup M k (M k + B (6 * r + k))) (k0 + 1) q (jup M k0 (M k0 + B (6 * r + k0)))) k = _
    rw [ih]
    simp only [jup_eq]
    by_cases e : k = k0
    · subst e; rw [if_neg (by omega), if_pos rfl, if_pos (by omega)]
    · by_cases hk : k0 + 1 ≤ k ∧ k < k0 + 1 + q
      · rw [if_pos hk, if_neg e, if_pos (by omega)]
      · rw [if_neg hk, if_neg e, if_neg (by omega)]
/-- the loop on the reference, with what it keeps -/
theorem kBk_inv (h1 : GP1 nf nm n P) (hi : i < n) : ∀ q r s, r + q = n → i ≤ r → ((s.1 9).toInt = (qS P 9).toInt + kLA P n i - kLA P n r ∧ (∀ j, j ≠ 9 → j ≠ 13 → s.1 j = qS P j) ∧ ∀ k, k < 6 → (s.2 k).toInt = (qM P k).toInt + isum (fun r => (qB P (6 * r + k)).toInt) r - isum (fun r => (qB P (6 * r + k)).toInt) i) → ((jfor (stMb (qR P) (qB P)) r q s).1 9).toInt = kLA P n i ∧ (∀ j, j ≠ 9 → j ≠ 13 → (jfor (stMb (qR P) (qB P)) r q s).1 j = qS P j) ∧ ∀ k, k < 6 → ((jfor (stMb (qR P) (qB P)) r q s).2 k).toInt = (qM P k).toInt + isum (fun r => (qB P (6 * r + k)).toInt) n - isum (fun r => (qB P (6 * r + k)).toInt) i
  | 0, r, s, hr, hir, ⟨a1, a2, a3⟩ => by
    have : r = n := by omega
    subst this
    refine ⟨?_, a2, a3⟩
    show (s.1 9).toInt = _
    have : kLA P r r = (qS P 9).toInt := by unfold kLA; rw [if_neg (Nat.lt_irrefl _)]
    omega
  | q + 1, r, s, hr, hir, ⟨a1, a2, a3⟩ => by
    show ((jfor (stMb (qR P) (qB P)) (r + 1) q (stMb (qR P) (qB P) r s)).1 9).toInt = _ ∧ (∀ j, j ≠ 9 → j ≠ 13 → (jfor (stMb (qR P) (qB P)) (r + 1) q (stMb (qR P) (qB P) r s)).1 j = qS P j) ∧ ∀ k, k < 6 → ((jfor (stMb (qR P) (qB P)) (r + 1) q (stMb (qR P) (qB P) r s)).2 k).toInt = _
    have hall := h1.2.2.2.2.2.2.1
    obtain ⟨⟨b1, b2, b3, b4⟩, -⟩ := hall r (by omega)
    have hla0 := h1.2.2.2.2.2.1
    have hg := h1.2.2.1.1
    have hle : ∀ t, t ≤ n → kLA P n t ≤ (qS P 3).toInt ∧ 0 ≤ kLA P n t := by
      intro t
      induction t with
      | zero => intro _; omega
      | succ t ih => intro ht; have := (hall t (by omega)).1; have := ih (by omega); omega
    have l1 := hle i (by omega)
    have l2 := hle r (by omega)
    have l3 := hle n (Nat.le_refl _)
    have l4 := hle (r + 1) (by omega)
    have l9 : kLA P n n = (qS P 9).toInt := by unfold kLA; rw [if_neg (Nat.lt_irrefl _)]
    have hmono : ∀ t, r ≤ t → t ≤ n → kLA P n t ≤ kLA P n r := by
      intro t h1 h2
      induction t with
      | zero => have : r = 0 := by omega
                subst this; omega
      | succ t ih =>
        by_cases e : r = t + 1
        · subst e; omega
        · have := (hall t (by omega)).1; have := ih (by omega) (by omega); omega
    have hmn := hmono n (by omega) (Nat.le_refl _)
    have hm1 := hmono (r + 1) (by omega) (by omega)
    have hmono2 : ∀ t, i ≤ t → t ≤ n → kLA P n t ≤ kLA P n i := by
      intro t h1 h2
      induction t with
      | zero => have : i = 0 := by omega
                subst this; omega
      | succ t ih =>
        by_cases e : i = t + 1
        · subst e; omega
        · have := (hall t (by omega)).1; have := ih (by omega) (by omega); omega
    have hm2 := hmono2 (r + 1) (by omega) (by omega)
    refine kBk_inv h1 hi q (r + 1) (stMb (qR P) (qB P) r s) (by omega) (by omega) ⟨?_, ?_, ?_⟩
    · show (jup (jup s.1 9 (s.1 9 + qR P (6 * r + 3))) 13 (s.1 13 - qR P (6 * r + 2)) 9).toInt = _
      rw [jup_ne (by decide), jup_same, i32_add (by omega) (by omega)]
      omega
    · intro j h9 h13
      show jup (jup s.1 9 (s.1 9 + qR P (6 * r + 3))) 13 (s.1 13 - qR P (6 * r + 2)) j = _
      rw [jup_ne h13, jup_ne h9, a2 j h9 h13]
    · intro k hk
      show ((jfor (fun k M => jup M k (M k + qB P (6 * r + k))) 0 6 s.2) k).toInt = _
      have hst := h1.2.2.2.2.2.2.2 k hk
      obtain ⟨t1, t2, t3, t4, t5⟩ := hst
      have hdn := h1.2.2.2.1.2.2.2.1
      have hms : ∀ t, t ≤ n → isum (fun r => (qB P (6 * r + k)).toInt) t ≤ isum (fun r => (qB P (6 * r + k)).toInt) n ∧ 0 ≤ isum (fun r => (qB P (6 * r + k)).toInt) t := by
        intro t ht
        refine ⟨?_, isum_nonneg t (fun r hr => t4 r (by omega))⟩
        have : ∀ q t, t + q = n → isum (fun r => (qB P (6 * r + k)).toInt) t ≤ isum (fun r => (qB P (6 * r + k)).toInt) n := by
          intro q
          induction q with
          | zero => intro t e; have : t = n := by omega
                    subst this; exact Int.le_refl _
          | succ q ih =>
            intro t e
            have h1 := ih (t + 1) (by omega)
            have h2 := t4 t (by omega)
            have h3 : isum (fun r => (qB P (6 * r + k)).toInt) (t + 1) = isum (fun r => (qB P (6 * r + k)).toInt) t + (qB P (6 * t + k)).toInt := rfl
            omega
        exact this (n - t) t (by omega)
      have hs1 := hms (r + 1) (by omega)
      have hs2 := hms i (by omega)
      have hs3 := hms r (by omega)
      have hsr : isum (fun r => (qB P (6 * r + k)).toInt) (r + 1) = isum (fun r => (qB P (6 * r + k)).toInt) r + (qB P (6 * r + k)).toInt := rfl
      have hb := t4 r (by omega)
      have ha := a3 k hk
      rw [jadd6, if_pos (by omega), i64_add (by omega) (by omega)]
      omega
theorem kBkE_v {R S : Nat → Int32} : kBkE R S i 15 = nI i ∧ kBkE R S i 10 = (if i = 0 then S 6 else R (6 * (i - 1))) ∧ kBkE R S i 11 = (if i = 0 then S 5 else R (6 * (i - 1) + 1)) ∧ kBkE R S i 12 = (if i = 0 then 0 else R (6 * (i - 1) + 2)) ∧ kBkE R S i 0 = (if S 7 ≤ S 14 then 5 else 1) ∧ ∀ j, j ≠ 15 → j ≠ 10 → j ≠ 11 → j ≠ 12 → j ≠ 0 → kBkE R S i j = S j := by
  unfold kBkE
  refine ⟨?_, ?_, ?_, ?_, ?_, ?_⟩
  · simp [jup_eq]
  · simp [jup_eq]
  · simp [jup_eq]
  · simp [jup_eq]
  · simp [jup_eq]
  · intro j h1 h2 h3 h4 h5
    rw [jup_ne h5, jup_ne h4, jup_ne h3, jup_ne h2, jup_ne h1]
theorem kBk_GP (hG : GP nf nm n P) (hi : i < n) : GP nf nm i (kBk P n i) := by
  have h6 := hG.2.1
  obtain ⟨-, -, h1⟩ := GP_row hG hi
  obtain ⟨a1, a2, a3⟩ := kBk_inv h1 hi (n - i) i (qS P, qM P) (by omega) (Nat.le_refl _) ⟨by show (qS P 9).toInt = _; omega, fun j _ _ => rfl, fun k hk => by show (qM P k).toInt = _; omega⟩
  unfold kBk
  generalize jfor (stMb (qR P) (qB P)) i (n - i) (qS P, qM P) = s at *
  obtain ⟨v15, v10, v11, v12, v0, vj⟩ := kBkE_v (i := i) (R := qR P) (S := s.1)
  have w : ∀ j, 1 ≤ j → j ≤ 8 → kBkE (qR P) s.1 i j = qS P j := fun j h1 h2 => by rw [vj j (by omega) (by omega) (by omega) (by omega) (by omega), a2 j (by omega) (by omega)]
  have w9 : (kBkE (qR P) s.1 i 9).toInt = kLA P n i := by rw [vj 9 (by omega) (by omega) (by omega) (by omega) (by omega)]; exact a1
  have w14 : kBkE (qR P) s.1 i 14 = qS P 14 := by rw [vj 14 (by omega) (by omega) (by omega) (by omega) (by omega), a2 14 (by omega) (by omega)]
  have w16 : kBkE (qR P) s.1 i 16 = qS P 16 := by rw [vj 16 (by omega) (by omega) (by omega) (by omega) (by omega), a2 16 (by omega) (by omega)]
  have e0 : (0 : Int32).toInt = 0 := by decide
  obtain ⟨q1, q2, q3, q4, q5, q6, q7, q8⟩ := h1
  have hla : ∀ r, r ≤ i → kLA (kBkE (qR P) s.1 i, qR P, qB P, s.2, qU P, qH P) i r = kLA P n r := by
    intro r hr
    unfold kLA
    by_cases e : r < i
    · rw [if_pos e, if_pos (by omega)]
    · have : r = i := by omega
      subst this
      rw [if_neg (Nat.lt_irrefl _), if_pos hi]
      have : kLA P n r = (qR P (6 * r + 4)).toInt := by unfold kLA; rw [if_pos hi]
      rw [← this]; exact w9
  refine ⟨v15, by omega, Or.inr ⟨?_, ?_, ?_, ?_, ?_, ?_, ?_, ?_, ?_⟩⟩
  · show kBkE (qR P) s.1 i 0 ≠ 0
    rw [v0]; split <;> decide
  · show ∃ f, f < nf ∧ kBkE (qR P) s.1 i 1 = nI f
    rw [w 1 (by omega) (by omega)]; exact q1
  · show ∃ f, f < nm ∧ kBkE (qR P) s.1 i 2 = nI f
    rw [w 2 (by omega) (by omega)]; exact q2
  · unfold GS1 at q3 ⊢
    show (1 ≤ (kBkE (qR P) s.1 i 3).toInt ∧ (kBkE (qR P) s.1 i 3).toInt ≤ 99999) ∧ (1 ≤ (kBkE (qR P) s.1 i 4).toInt ∧ (kBkE (qR P) s.1 i 4).toInt ≤ 9999) ∧ (0 ≤ (kBkE (qR P) s.1 i 5).toInt ∧ (kBkE (qR P) s.1 i 5).toInt ≤ 999) ∧ (1 ≤ (kBkE (qR P) s.1 i 6).toInt ∧ (kBkE (qR P) s.1 i 6).toInt ≤ 9999) ∧ (kBkE (qR P) s.1 i 7).toInt ≤ 900 ∧ (0 ≤ (kBkE (qR P) s.1 i 8).toInt ∧ (kBkE (qR P) s.1 i 8).toInt ≤ 999)
    rw [w 3 (by omega) (by omega), w 4 (by omega) (by omega), w 5 (by omega) (by omega), w 6 (by omega) (by omega), w 7 (by omega) (by omega), w 8 (by omega) (by omega)]
    exact q3
  · unfold GS2 at q4 ⊢
    show (0 ≤ (kBkE (qR P) s.1 i 10).toInt ∧ (kBkE (qR P) s.1 i 10).toInt ≤ 9999) ∧ (0 ≤ (kBkE (qR P) s.1 i 11).toInt ∧ (kBkE (qR P) s.1 i 11).toInt ≤ 999) ∧ (0 ≤ (kBkE (qR P) s.1 i 12).toInt ∧ (kBkE (qR P) s.1 i 12).toInt ≤ 99) ∧ (0 ≤ (kBkE (qR P) s.1 i 14).toInt ∧ (kBkE (qR P) s.1 i 14).toInt ≤ 900) ∧ 0 ≤ (kBkE (qR P) s.1 i 16).toInt
    rw [v10, v11, v12, w14, w16, a2 6 (by decide) (by decide), a2 5 (by decide) (by decide)]
    have g6 := q3.2.2.2.1
    have g5 := q3.2.2.1
    refine ⟨?_, ?_, ?_, q4.2.2.2⟩
    · by_cases e : i = 0
      · rw [if_pos e]; omega
      · rw [if_neg e]; exact (q7 (i - 1) (by omega)).2.1
    · by_cases e : i = 0
      · rw [if_pos e]; omega
      · rw [if_neg e]; exact (q7 (i - 1) (by omega)).2.2.1
    · by_cases e : i = 0
      · rw [if_pos e]; omega
      · rw [if_neg e]; exact (q7 (i - 1) (by omega)).2.2.2.1
  · intro e
    have e : kBkE (qR P) s.1 i 0 = 1 := e
    rw [v0, a2 7 (by decide) (by decide), a2 14 (by decide) (by decide)] at e
    show i < 600 ∧ 1 ≤ (kBkE (qR P) s.1 i 9).toInt ∧ (kBkE (qR P) s.1 i 14).toInt < (kBkE (qR P) s.1 i 7).toInt
    rw [w9, w14, w 7 (by omega) (by omega)]
    refine ⟨by omega, (q7 i hi).1.1, ?_⟩
    by_cases hle : qS P 7 ≤ qS P 14
    · rw [if_pos hle] at e; exact absurd e (by decide)
    · rw [Int32.le_iff_toInt_le] at hle; omega
  · rw [hla 0 (by omega)]
    show _ = (kBkE (qR P) s.1 i 3).toInt
    rw [w 3 (by omega) (by omega)]; exact q6
  · intro r hr
    have := q7 r (by omega)
    unfold GRw at this ⊢
    rw [hla r (by omega), hla (r + 1) (by omega)]
    exact this
  · intro k hk
    obtain ⟨t1, t2, t3, t4, t5⟩ := q8 k hk
    have ha := a3 k hk
    have hp := isum_nonneg (f := fun r => (qB P (6 * r + k)).toInt) i (fun r hr => t4 r (by omega))
    have hms : isum (fun r => (qB P (6 * r + k)).toInt) i ≤ isum (fun r => (qB P (6 * r + k)).toInt) n := by
      have : ∀ q t, t + q = n → isum (fun r => (qB P (6 * r + k)).toInt) t ≤ isum (fun r => (qB P (6 * r + k)).toInt) n := by
        intro q
        induction q with
        | zero => intro t e; have : t = n := by omega
                  subst this; exact Int.le_refl _
        | succ q ih =>
          intro t e
          have h1 := ih (t + 1) (by omega)
          have h2 := t4 t (by omega)
          have h3 : isum (fun r => (qB P (6 * r + k)).toInt) (t + 1) = isum (fun r => (qB P (6 * r + k)).toInt) t + (qB P (6 * t + k)).toInt := rfl
          omega
      exact this (n - i) i (by omega)
    refine ⟨t1, t2, ?_, fun r hr => t4 r (by omega), ?_⟩
    · show 0 ≤ (s.2 k).toInt; omega
    · show (s.2 k).toInt + isum (fun r => (qB P (6 * r + k)).toInt) i ≤ 999999999 + 9999 * (kBkE (qR P) s.1 i 14).toInt
      rw [w14]
      omega
theorem M_melts (h : MLay (mS m) (mR m) c) (hP : MP m c P) (hG : GP nf nm n P) (hi : i < n) : ∃ m', CE (d + 3) 243 [.ref c, .int (nI i)] m none m' ∧ MP m' c (kBk P n i) ∧ mS m' = mS m ∧ mR m' = mR m ∧ mN m' = mN m ∧ mZ m' = mZ m ∧ (∀ b, b ≠ c + 14 → mI m' b = mI m b) ∧ ∀ b, b ≠ c + 15 → mL m' b = mL m b := by
  have h6 := hG.2.1
  obtain ⟨p1, p2, p3, p4, p5, p6⟩ := hP
  obtain ⟨-, -, hg1⟩ := GP_row hG hi
  have e15 : (qS P) 15 = nI n := hG.1
  refine CE_ex fun Q hQ => ?_
  rw [nX12_melts]
  simp (config := {decide := true}) (disch := first | omega | assumption | (simp only [mS_cL, mS_cI, mS_cR, mR_cL, mR_cI]; first | assumption | exact hcr _ | fail)) only [tX12_melts_0, tX12_melts_1, tX12_melts_3, tX12_melts_4, tX12_melts_7, tX12_melts_9, tX12_melts_10, tX12_melts_13, tX12_melts_14, tX12_melts_17, tX12_melts_19, tX12_melts_20, tX12_melts_21, tX12_melts_22, tX12_melts_23, tX12_melts_24, tX12_melts_27, tX12_melts_28, tX12_melts_29, tX12_melts_30, tX12_melts_33, tX12_melts_35, tX12_melts_36, tX12_melts_37, tX12_melts_38, tX12_melts_39, tX12_melts_40, tX12_melts_43, tX12_melts_44, tX12_melts_45, tX12_melts_46, tX12_melts_48, tX12_melts_50, tX12_melts_53, tX12_melts_54, tX12_melts_57, tX12_melts_58, tX12_melts_59, tX12_melts_60, tX12_melts_61, tX12_melts_64, tX12_melts_66, tX12_melts_67, tX12_melts_68, tX12_melts_69, tX12_melts_70, tX12_melts_71, tX12_melts_72, tX12_melts_73, tX12_melts_76, tX12_melts_79, tX12_melts_82, tX12_melts_85, tX12_melts_86, tX12_melts_89, tX12_melts_91, tX12_melts_92, tX12_melts_93, tX12_melts_94, tX12_melts_97, tX12_melts_99, tX12_melts_100, tX12_melts_101, tX12_melts_102, tX12_melts_103, tX12_melts_106, tX12_melts_107, tX12_melts_108, tX12_melts_111, tX12_melts_113, tX12_melts_114, tX12_melts_117, tX12_melts_118, tX12_melts_121, tX12_melts_122, tX12_melts_123, tX12_melts_126, tX12_melts_127, tX12_melts_128, tX12_melts_129, tX12_melts_130, tX12_melts_131, tX12_melts_134, tX12_melts_135, tX12_melts_136, tX12_melts_139, tX12_melts_141, tX12_melts_142, tX12_melts_145, tX12_melts_146, tX12_melts_149, tX12_melts_150, tX12_melts_151, tX12_melts_152, tX12_melts_153, tX12_melts_154, tX12_melts_157, tX12_melts_158, tX12_melts_159, tX12_melts_162, tX12_melts_163, tX12_melts_164, tX12_melts_167, tX12_melts_169, tX12_melts_170, tX12_melts_171, tX12_melts_174, tX12_melts_176, tX12_melts_177, tX12_melts_180, tX12_melts_181, tX12_melts_184, tX12_melts_185, tX12_melts_186, jK_some, jK_none, jc1_int, jc1_ref, jc1_none, jc1_long, jc1_null, jc1_rf, va_rf_some, va_rf_none, mI_cI, mL_cL, mR_cR, cI_cI, cL_cL, jup_eq, jne_1, jne_2, Nat.add_left_cancel_iff, mL_cI, mR_cI, mS_cI, mN_cI, mI_cL, mR_cL, mS_cL, mN_cL, mI_cR, mL_cR, mS_cR, mN_cR, true_and, and_true, true_or, or_true, if_true, if_false, jBool_0, jBool_1, Nat.le_refl, Nat.reduceLeDiff, Nat.reduceEqDiff, Nat.reduceAdd, Nat.reduceSub, reduceIte, Int32.reduceLT, Int32.reduceLE, ne_eq, not_false_eq_true, not_true_eq_false, false_or, or_false, and_false, false_and, reduceCtorEq, jn_4, jn_6, jn_8, jn_9, jn_12, jn_60, jn_100, jn_200, jn_400, jn_600, jn_601, jn_3600, jI_4, jI_6, jI_8, jI_9, jI_12, jI_60, jI_100, jI_200, jI_400, jI_600, jI_601, jI_3600, va_cpy_00, jx_0, jx_6, jx_12, jx_400, jx_600, nI_1, nx_5e, nx_l6, nx_l12, nx_l100, nx_l200, nx_l400, nx_l600, nx_l601, nx_l3600, nx_pos, nx_posN, nx_neg1, nx_m1neg, nx_leF, nx_leT, nx_ltF, nx_ltT, nx_mul6, nI_add, nI_1, jx_nI, nx_4, nx_g4, nx_6, nx_g6, nx_8, nx_g8, nx_9, nx_g9, nx_12, nx_g12, nx_14, nx_g14, nx_60, nx_g60, nx_100, nx_g100, nx_200, nx_g200, nx_400, nx_g400, nx_600, nx_g600, nx_601, nx_g601, nx_3600, nx_g3600]
  have hb : ∀ (F : Nat → Int32) (V : Nat → Int64), MLay (mS (cL (cI m (c + 14) F) (c + 15) V)) (mR (cL (cI m (c + 14) F) (c + 15) V)) c := fun _ _ => h
  have hb1 : ∀ (F : Nat → Int32) (V : Nat → Int64), mI (cL (cI m (c + 14) F) (c + 15) V) (c + 18) = qR P := fun _ _ => by rw [mI_cL, mI_ne (by omega)]; exact p2
  have key : AW (d + 2) 243 2 [some (.ref c), some (.int (nI i)), some (.int (nI i)), none] [] (cL (cI m (c + 14) (qS P)) (c + 15) (qM P)) Q := by
    rw [loop_anyI (n := n) (fun _ s => s.1 15 = nI n) (P := fun r (s : (Nat → Int32) × (Nat → Int64)) (t : Option Value) => AW (d + 2) 243 2 [some (.ref c), some (.int (nI i)), some (.int (nI r)), t] [] (cL (cI m (c + 14) s.1) (c + 15) s.2) Q) (E := fun s => Q none (cL (cI m (c + 14) (kBkE (qR P) s.1 i)) (c + 15) s.2)) (stMb (qR P) (qB P)) ?_ ?_ (n - i) i (qS P, qM P) none (by omega) e15]
    · apply hQ
      refine ⟨⟨?_, ?_, ?_, ?_, ?_, ?_⟩, rfl, rfl, rfl, rfl, ?_, ?_⟩
      · rw [mI_cL, mI_same]; rfl
      · rw [mI_cL, mI_ne (by omega)]; exact p2
      · rw [mL_ne (by omega), mL_cI]; exact p3
      · rw [mL_same]; rfl
      · rw [mI_cL, mI_ne (by omega)]; exact p5
      · rw [mI_cL, mI_ne (by omega)]; exact p6
      · intro b hb; rw [mI_cL, mI_ne hb]
      · intro b hb; rw [mL_ne hb, mL_cI]
    · intro r s t hr hI
      refine ⟨⟨some (.int 6), ?_⟩, ?_⟩
      · rw [tX12_melts_2]
        simp (config := {decide := true}) (disch := first | omega | assumption | (simp only [mS_cL, mS_cI, mS_cR, mR_cL, mR_cI]; first | assumption | exact hcr _ | fail)) only [tX12_melts_0, tX12_melts_1, tX12_melts_3, tX12_melts_4, tX12_melts_7, tX12_melts_9, tX12_melts_10, tX12_melts_13, tX12_melts_14, tX12_melts_17, tX12_melts_19, tX12_melts_20, tX12_melts_21, tX12_melts_22, tX12_melts_23, tX12_melts_24, tX12_melts_27, tX12_melts_28, tX12_melts_29, tX12_melts_30, tX12_melts_33, tX12_melts_35, tX12_melts_36, tX12_melts_37, tX12_melts_38, tX12_melts_39, tX12_melts_40, tX12_melts_43, tX12_melts_44, tX12_melts_45, tX12_melts_46, tX12_melts_48, tX12_melts_50, tX12_melts_53, tX12_melts_54, tX12_melts_57, tX12_melts_58, tX12_melts_59, tX12_melts_60, tX12_melts_61, tX12_melts_64, tX12_melts_66, tX12_melts_67, tX12_melts_68, tX12_melts_69, tX12_melts_70, tX12_melts_71, tX12_melts_72, tX12_melts_73, tX12_melts_76, tX12_melts_79, tX12_melts_82, tX12_melts_85, tX12_melts_86, tX12_melts_89, tX12_melts_91, tX12_melts_92, tX12_melts_93, tX12_melts_94, tX12_melts_97, tX12_melts_99, tX12_melts_100, tX12_melts_101, tX12_melts_102, tX12_melts_103, tX12_melts_106, tX12_melts_107, tX12_melts_108, tX12_melts_111, tX12_melts_113, tX12_melts_114, tX12_melts_117, tX12_melts_118, tX12_melts_121, tX12_melts_122, tX12_melts_123, tX12_melts_126, tX12_melts_127, tX12_melts_128, tX12_melts_129, tX12_melts_130, tX12_melts_131, tX12_melts_134, tX12_melts_135, tX12_melts_136, tX12_melts_139, tX12_melts_141, tX12_melts_142, tX12_melts_145, tX12_melts_146, tX12_melts_149, tX12_melts_150, tX12_melts_151, tX12_melts_152, tX12_melts_153, tX12_melts_154, tX12_melts_157, tX12_melts_158, tX12_melts_159, tX12_melts_162, tX12_melts_163, tX12_melts_164, tX12_melts_167, tX12_melts_169, tX12_melts_170, tX12_melts_171, tX12_melts_174, tX12_melts_176, tX12_melts_177, tX12_melts_180, tX12_melts_181, tX12_melts_184, tX12_melts_185, tX12_melts_186, jK_some, jK_none, jc1_int, jc1_ref, jc1_none, jc1_long, jc1_null, jc1_rf, va_rf_some, va_rf_none, mI_cI, mL_cL, mR_cR, cI_cI, cL_cL, jup_eq, jne_1, jne_2, Nat.add_left_cancel_iff, mL_cI, mR_cI, mS_cI, mN_cI, mI_cL, mR_cL, mS_cL, mN_cL, mI_cR, mL_cR, mS_cR, mN_cR, true_and, and_true, true_or, or_true, if_true, if_false, jBool_0, jBool_1, Nat.le_refl, Nat.reduceLeDiff, Nat.reduceEqDiff, Nat.reduceAdd, Nat.reduceSub, reduceIte, Int32.reduceLT, Int32.reduceLE, ne_eq, not_false_eq_true, not_true_eq_false, false_or, or_false, and_false, false_and, reduceCtorEq, jn_4, jn_6, jn_8, jn_9, jn_12, jn_60, jn_100, jn_200, jn_400, jn_600, jn_601, jn_3600, jI_4, jI_6, jI_8, jI_9, jI_12, jI_60, jI_100, jI_200, jI_400, jI_600, jI_601, jI_3600, va_cpy_00, jx_0, jx_6, jx_12, jx_400, jx_600, nI_1, nx_5e, nx_l6, nx_l12, nx_l100, nx_l200, nx_l400, nx_l600, nx_l601, nx_l3600, nx_pos, nx_posN, nx_neg1, nx_m1neg, nx_leF, nx_leT, nx_ltF, nx_ltT, nx_mul6, nI_add, nI_1, jx_nI, nx_4, nx_g4, nx_6, nx_g6, nx_8, nx_g8, nx_9, nx_g9, nx_12, nx_g12, nx_14, nx_g14, nx_60, nx_g60, nx_100, nx_g100, nx_200, nx_g200, nx_400, nx_g400, nx_600, nx_g600, nx_601, nx_g601, nx_3600, nx_g3600, jx_1, jx_2, jx_3, jx_4, jx_5, jx_7, jx_8, jx_9, jx_10, jx_11, jx_13, jx_14, jx_15, jx_16, jx_17, jx_18, jx_19, jx_20, jx_21, jx_22, jx_23, jx_24, jx_25, jx_26, jx_27, jx_28, jx_29, jx_30, jx_31, jx_32, jx_33, jx_34, jx_35, jx_36, jx_37, jx_38, jx_39, jx_40, jx_41, jx_42, nx_a2, nx_a3, nx_a4, nx_a5, nx_a6, nx_a7, nx_a8, nx_a9, nx_a10, nx_a11, nx_a12, nx_a13, nx_a14, nx_a15, nx_a16, nx_a17, nx_a18, nx_a19, nx_a20, nx_a21, nx_a22, nx_a23, nx_a24, nx_a25, nx_a26, nx_a27, nx_a28, nx_a29, nx_a30, nx_a31, nx_a32, nx_a33, nx_a34, nx_a35, nx_a36, nx_a37, nx_a38, nx_a39, nx_a40, nx_a41, jI_17, nx_17, jI_48, nx_48, jI_80, nx_80, jI_720, nx_720, jI_4800, nx_4800, jI_18220, nx_18220, jI_18030, nx_18030, nx_m2, nx_m5, nx_m6, nx_m16, nx_m60, nx_m400, nx_m3644, nx_m3606, h, hI, p3, c_M_rowOf3 (hb _ _) (show r < 600 by omega), c_M_rowOf2 (hb _ _) (show r < 600 by omega), hb1, cIL]
        unfold stMb
        generalize jup (jup s.1 9 (s.1 9 + qR P (6 * r + 3))) 13 (s.1 13 - qR P (6 * r + 2)) = F
        refine loop_iff (n := 6) (P := fun k M => AW (d + 2) 243 47 [some (.ref c), some (.int (nI i)), some (.int (nI r)), some (.int (nI k))] [] (cL (cI m (c + 14) F) (c + 15) M) Q) (E := fun M => AW (d + 2) 243 2 [some (.ref c), some (.int (nI i)), some (.int (nI (r + 1))), some (.int 6)] [] (cL (cI m (c + 14) F) (c + 15) M) Q) (fun k M => jup M k (M k + qB P (6 * r + k))) ?_ ?_ 6 0 s.2 (by omega)
        · intro k M hk
          rw [tX12_melts_47]
          simp (config := {decide := true}) (disch := first | omega | assumption | (simp only [mS_cL, mS_cI, mS_cR, mR_cL, mR_cI]; first | assumption | exact hcr _ | fail)) only [tX12_melts_0, tX12_melts_1, tX12_melts_3, tX12_melts_4, tX12_melts_7, tX12_melts_9, tX12_melts_10, tX12_melts_13, tX12_melts_14, tX12_melts_17, tX12_melts_19, tX12_melts_20, tX12_melts_21, tX12_melts_22, tX12_melts_23, tX12_melts_24, tX12_melts_27, tX12_melts_28, tX12_melts_29, tX12_melts_30, tX12_melts_33, tX12_melts_35, tX12_melts_36, tX12_melts_37, tX12_melts_38, tX12_melts_39, tX12_melts_40, tX12_melts_43, tX12_melts_44, tX12_melts_45, tX12_melts_46, tX12_melts_48, tX12_melts_50, tX12_melts_53, tX12_melts_54, tX12_melts_57, tX12_melts_58, tX12_melts_59, tX12_melts_60, tX12_melts_61, tX12_melts_64, tX12_melts_66, tX12_melts_67, tX12_melts_68, tX12_melts_69, tX12_melts_70, tX12_melts_71, tX12_melts_72, tX12_melts_73, tX12_melts_76, tX12_melts_79, tX12_melts_82, tX12_melts_85, tX12_melts_86, tX12_melts_89, tX12_melts_91, tX12_melts_92, tX12_melts_93, tX12_melts_94, tX12_melts_97, tX12_melts_99, tX12_melts_100, tX12_melts_101, tX12_melts_102, tX12_melts_103, tX12_melts_106, tX12_melts_107, tX12_melts_108, tX12_melts_111, tX12_melts_113, tX12_melts_114, tX12_melts_117, tX12_melts_118, tX12_melts_121, tX12_melts_122, tX12_melts_123, tX12_melts_126, tX12_melts_127, tX12_melts_128, tX12_melts_129, tX12_melts_130, tX12_melts_131, tX12_melts_134, tX12_melts_135, tX12_melts_136, tX12_melts_139, tX12_melts_141, tX12_melts_142, tX12_melts_145, tX12_melts_146, tX12_melts_149, tX12_melts_150, tX12_melts_151, tX12_melts_152, tX12_melts_153, tX12_melts_154, tX12_melts_157, tX12_melts_158, tX12_melts_159, tX12_melts_162, tX12_melts_163, tX12_melts_164, tX12_melts_167, tX12_melts_169, tX12_melts_170, tX12_melts_171, tX12_melts_174, tX12_melts_176, tX12_melts_177, tX12_melts_180, tX12_melts_181, tX12_melts_184, tX12_melts_185, tX12_melts_186, jK_some, jK_none, jc1_int, jc1_ref, jc1_none, jc1_long, jc1_null, jc1_rf, va_rf_some, va_rf_none, mI_cI, mL_cL, mR_cR, cI_cI, cL_cL, jup_eq, jne_1, jne_2, Nat.add_left_cancel_iff, mL_cI, mR_cI, mS_cI, mN_cI, mI_cL, mR_cL, mS_cL, mN_cL, mI_cR, mL_cR, mS_cR, mN_cR, true_and, and_true, true_or, or_true, if_true, if_false, jBool_0, jBool_1, Nat.le_refl, Nat.reduceLeDiff, Nat.reduceEqDiff, Nat.reduceAdd, Nat.reduceSub, reduceIte, Int32.reduceLT, Int32.reduceLE, ne_eq, not_false_eq_true, not_true_eq_false, false_or, or_false, and_false, false_and, reduceCtorEq, jn_4, jn_6, jn_8, jn_9, jn_12, jn_60, jn_100, jn_200, jn_400, jn_600, jn_601, jn_3600, jI_4, jI_6, jI_8, jI_9, jI_12, jI_60, jI_100, jI_200, jI_400, jI_600, jI_601, jI_3600, va_cpy_00, jx_0, jx_6, jx_12, jx_400, jx_600, nI_1, nx_5e, nx_l6, nx_l12, nx_l100, nx_l200, nx_l400, nx_l600, nx_l601, nx_l3600, nx_pos, nx_posN, nx_neg1, nx_m1neg, nx_leF, nx_leT, nx_ltF, nx_ltT, nx_mul6, nI_add, nI_1, jx_nI, nx_4, nx_g4, nx_6, nx_g6, nx_8, nx_g8, nx_9, nx_g9, nx_12, nx_g12, nx_14, nx_g14, nx_60, nx_g60, nx_100, nx_g100, nx_200, nx_g200, nx_400, nx_g400, nx_600, nx_g600, nx_601, nx_g601, nx_3600, nx_g3600, jx_1, jx_2, jx_3, jx_4, jx_5, jx_7, jx_8, jx_9, jx_10, jx_11, jx_13, jx_14, jx_15, jx_16, jx_17, jx_18, jx_19, jx_20, jx_21, jx_22, jx_23, jx_24, jx_25, jx_26, jx_27, jx_28, jx_29, jx_30, jx_31, jx_32, jx_33, jx_34, jx_35, jx_36, jx_37, jx_38, jx_39, jx_40, jx_41, jx_42, nx_a2, nx_a3, nx_a4, nx_a5, nx_a6, nx_a7, nx_a8, nx_a9, nx_a10, nx_a11, nx_a12, nx_a13, nx_a14, nx_a15, nx_a16, nx_a17, nx_a18, nx_a19, nx_a20, nx_a21, nx_a22, nx_a23, nx_a24, nx_a25, nx_a26, nx_a27, nx_a28, nx_a29, nx_a30, nx_a31, nx_a32, nx_a33, nx_a34, nx_a35, nx_a36, nx_a37, nx_a38, nx_a39, nx_a40, nx_a41, jI_17, nx_17, jI_48, nx_48, jI_80, nx_80, jI_720, nx_720, jI_4800, nx_4800, jI_18220, nx_18220, jI_18030, nx_18030, nx_m2, nx_m5, nx_m6, nx_m16, nx_m60, nx_m400, nx_m3644, nx_m3606, h, p3]
        · intro M
          rw [tX12_melts_47]
          simp (config := {decide := true}) (disch := first | omega | assumption | (simp only [mS_cL, mS_cI, mS_cR, mR_cL, mR_cI]; first | assumption | exact hcr _ | fail)) only [tX12_melts_0, tX12_melts_1, tX12_melts_3, tX12_melts_4, tX12_melts_7, tX12_melts_9, tX12_melts_10, tX12_melts_13, tX12_melts_14, tX12_melts_17, tX12_melts_19, tX12_melts_20, tX12_melts_21, tX12_melts_22, tX12_melts_23, tX12_melts_24, tX12_melts_27, tX12_melts_28, tX12_melts_29, tX12_melts_30, tX12_melts_33, tX12_melts_35, tX12_melts_36, tX12_melts_37, tX12_melts_38, tX12_melts_39, tX12_melts_40, tX12_melts_43, tX12_melts_44, tX12_melts_45, tX12_melts_46, tX12_melts_48, tX12_melts_50, tX12_melts_53, tX12_melts_54, tX12_melts_57, tX12_melts_58, tX12_melts_59, tX12_melts_60, tX12_melts_61, tX12_melts_64, tX12_melts_66, tX12_melts_67, tX12_melts_68, tX12_melts_69, tX12_melts_70, tX12_melts_71, tX12_melts_72, tX12_melts_73, tX12_melts_76, tX12_melts_79, tX12_melts_82, tX12_melts_85, tX12_melts_86, tX12_melts_89, tX12_melts_91, tX12_melts_92, tX12_melts_93, tX12_melts_94, tX12_melts_97, tX12_melts_99, tX12_melts_100, tX12_melts_101, tX12_melts_102, tX12_melts_103, tX12_melts_106, tX12_melts_107, tX12_melts_108, tX12_melts_111, tX12_melts_113, tX12_melts_114, tX12_melts_117, tX12_melts_118, tX12_melts_121, tX12_melts_122, tX12_melts_123, tX12_melts_126, tX12_melts_127, tX12_melts_128, tX12_melts_129, tX12_melts_130, tX12_melts_131, tX12_melts_134, tX12_melts_135, tX12_melts_136, tX12_melts_139, tX12_melts_141, tX12_melts_142, tX12_melts_145, tX12_melts_146, tX12_melts_149, tX12_melts_150, tX12_melts_151, tX12_melts_152, tX12_melts_153, tX12_melts_154, tX12_melts_157, tX12_melts_158, tX12_melts_159, tX12_melts_162, tX12_melts_163, tX12_melts_164, tX12_melts_167, tX12_melts_169, tX12_melts_170, tX12_melts_171, tX12_melts_174, tX12_melts_176, tX12_melts_177, tX12_melts_180, tX12_melts_181, tX12_melts_184, tX12_melts_185, tX12_melts_186, jK_some, jK_none, jc1_int, jc1_ref, jc1_none, jc1_long, jc1_null, jc1_rf, va_rf_some, va_rf_none, mI_cI, mL_cL, mR_cR, cI_cI, cL_cL, jup_eq, jne_1, jne_2, Nat.add_left_cancel_iff, mL_cI, mR_cI, mS_cI, mN_cI, mI_cL, mR_cL, mS_cL, mN_cL, mI_cR, mL_cR, mS_cR, mN_cR, true_and, and_true, true_or, or_true, if_true, if_false, jBool_0, jBool_1, Nat.le_refl, Nat.reduceLeDiff, Nat.reduceEqDiff, Nat.reduceAdd, Nat.reduceSub, reduceIte, Int32.reduceLT, Int32.reduceLE, ne_eq, not_false_eq_true, not_true_eq_false, false_or, or_false, and_false, false_and, reduceCtorEq, jn_4, jn_6, jn_8, jn_9, jn_12, jn_60, jn_100, jn_200, jn_400, jn_600, jn_601, jn_3600, jI_4, jI_6, jI_8, jI_9, jI_12, jI_60, jI_100, jI_200, jI_400, jI_600, jI_601, jI_3600, va_cpy_00, jx_0, jx_6, jx_12, jx_400, jx_600, nI_1, nx_5e, nx_l6, nx_l12, nx_l100, nx_l200, nx_l400, nx_l600, nx_l601, nx_l3600, nx_pos, nx_posN, nx_neg1, nx_m1neg, nx_leF, nx_leT, nx_ltF, nx_ltT, nx_mul6, nI_add, nI_1, jx_nI, nx_4, nx_g4, nx_6, nx_g6, nx_8, nx_g8, nx_9, nx_g9, nx_12, nx_g12, nx_14, nx_g14, nx_60, nx_g60, nx_100, nx_g100, nx_200, nx_g200, nx_400, nx_g400, nx_600, nx_g600, nx_601, nx_g601, nx_3600, nx_g3600, jx_1, jx_2, jx_3, jx_4, jx_5, jx_7, jx_8, jx_9, jx_10, jx_11, jx_13, jx_14, jx_15, jx_16, jx_17, jx_18, jx_19, jx_20, jx_21, jx_22, jx_23, jx_24, jx_25, jx_26, jx_27, jx_28, jx_29, jx_30, jx_31, jx_32, jx_33, jx_34, jx_35, jx_36, jx_37, jx_38, jx_39, jx_40, jx_41, jx_42, nx_a2, nx_a3, nx_a4, nx_a5, nx_a6, nx_a7, nx_a8, nx_a9, nx_a10, nx_a11, nx_a12, nx_a13, nx_a14, nx_a15, nx_a16, nx_a17, nx_a18, nx_a19, nx_a20, nx_a21, nx_a22, nx_a23, nx_a24, nx_a25, nx_a26, nx_a27, nx_a28, nx_a29, nx_a30, nx_a31, nx_a32, nx_a33, nx_a34, nx_a35, nx_a36, nx_a37, nx_a38, nx_a39, nx_a40, nx_a41, jI_17, nx_17, jI_48, nx_48, jI_80, nx_80, jI_720, nx_720, jI_4800, nx_4800, jI_18220, nx_18220, jI_18030, nx_18030, nx_m2, nx_m5, nx_m6, nx_m16, nx_m60, nx_m400, nx_m3644, nx_m3606, h, p3]
      · show jup (jup s.1 9 (s.1 9 + qR P (6 * r + 3))) 13 (s.1 13 - qR P (6 * r + 2)) 15 = nI n
        rw [jup_ne (by decide), jup_ne (by decide)]; exact hI
    · intro s t hI
      have hw := fun (F : Nat → Int32) (x : Int32) (hx : x < 600) Q => c_M_wideAt (d := d) (m := cL (cI m (c + 14) F) (c + 15) s.2) (c := c) (P := (F, qR P, qB P, qM P, qU P, qH P)) (x := x) (Q := Q) h (by rw [mI_cL, mI_same]) (by rw [mI_cL, mI_ne (by omega)]; exact p2) hx
      rw [tX12_melts_2]
      unfold kBkE
      cases i with
      | zero =>
        have hk : ∀ F, kSeen (F, qR P, qB P, qM P, qU P, qH P) (0 - 1) = F 6 := fun F => rfl
        simp (config := {decide := true}) (disch := first | omega | assumption | (simp only [mS_cL, mS_cI, mS_cR, mR_cL, mR_cI]; first | assumption | exact hcr _ | fail)) only [tX12_melts_0, tX12_melts_1, tX12_melts_3, tX12_melts_4, tX12_melts_7, tX12_melts_9, tX12_melts_10, tX12_melts_13, tX12_melts_14, tX12_melts_17, tX12_melts_19, tX12_melts_20, tX12_melts_21, tX12_melts_22, tX12_melts_23, tX12_melts_24, tX12_melts_27, tX12_melts_28, tX12_melts_29, tX12_melts_30, tX12_melts_33, tX12_melts_35, tX12_melts_36, tX12_melts_37, tX12_melts_38, tX12_melts_39, tX12_melts_40, tX12_melts_43, tX12_melts_44, tX12_melts_45, tX12_melts_46, tX12_melts_48, tX12_melts_50, tX12_melts_53, tX12_melts_54, tX12_melts_57, tX12_melts_58, tX12_melts_59, tX12_melts_60, tX12_melts_61, tX12_melts_64, tX12_melts_66, tX12_melts_67, tX12_melts_68, tX12_melts_69, tX12_melts_70, tX12_melts_71, tX12_melts_72, tX12_melts_73, tX12_melts_76, tX12_melts_79, tX12_melts_82, tX12_melts_85, tX12_melts_86, tX12_melts_89, tX12_melts_91, tX12_melts_92, tX12_melts_93, tX12_melts_94, tX12_melts_97, tX12_melts_99, tX12_melts_100, tX12_melts_101, tX12_melts_102, tX12_melts_103, tX12_melts_106, tX12_melts_107, tX12_melts_108, tX12_melts_111, tX12_melts_113, tX12_melts_114, tX12_melts_117, tX12_melts_118, tX12_melts_121, tX12_melts_122, tX12_melts_123, tX12_melts_126, tX12_melts_127, tX12_melts_128, tX12_melts_129, tX12_melts_130, tX12_melts_131, tX12_melts_134, tX12_melts_135, tX12_melts_136, tX12_melts_139, tX12_melts_141, tX12_melts_142, tX12_melts_145, tX12_melts_146, tX12_melts_149, tX12_melts_150, tX12_melts_151, tX12_melts_152, tX12_melts_153, tX12_melts_154, tX12_melts_157, tX12_melts_158, tX12_melts_159, tX12_melts_162, tX12_melts_163, tX12_melts_164, tX12_melts_167, tX12_melts_169, tX12_melts_170, tX12_melts_171, tX12_melts_174, tX12_melts_176, tX12_melts_177, tX12_melts_180, tX12_melts_181, tX12_melts_184, tX12_melts_185, tX12_melts_186, jK_some, jK_none, jc1_int, jc1_ref, jc1_none, jc1_long, jc1_null, jc1_rf, va_rf_some, va_rf_none, mI_cI, mL_cL, mR_cR, cI_cI, cL_cL, jup_eq, jne_1, jne_2, Nat.add_left_cancel_iff, mL_cI, mR_cI, mS_cI, mN_cI, mI_cL, mR_cL, mS_cL, mN_cL, mI_cR, mL_cR, mS_cR, mN_cR, true_and, and_true, true_or, or_true, if_true, if_false, jBool_0, jBool_1, Nat.le_refl, Nat.reduceLeDiff, Nat.reduceEqDiff, Nat.reduceAdd, Nat.reduceSub, reduceIte, Int32.reduceLT, Int32.reduceLE, ne_eq, not_false_eq_true, not_true_eq_false, false_or, or_false, and_false, false_and, reduceCtorEq, jn_4, jn_6, jn_8, jn_9, jn_12, jn_60, jn_100, jn_200, jn_400, jn_600, jn_601, jn_3600, jI_4, jI_6, jI_8, jI_9, jI_12, jI_60, jI_100, jI_200, jI_400, jI_600, jI_601, jI_3600, va_cpy_00, jx_0, jx_6, jx_12, jx_400, jx_600, nI_1, nx_5e, nx_l6, nx_l12, nx_l100, nx_l200, nx_l400, nx_l600, nx_l601, nx_l3600, nx_pos, nx_posN, nx_neg1, nx_m1neg, nx_leF, nx_leT, nx_ltF, nx_ltT, nx_mul6, nI_add, nI_1, jx_nI, nx_4, nx_g4, nx_6, nx_g6, nx_8, nx_g8, nx_9, nx_g9, nx_12, nx_g12, nx_14, nx_g14, nx_60, nx_g60, nx_100, nx_g100, nx_200, nx_g200, nx_400, nx_g400, nx_600, nx_g600, nx_601, nx_g601, nx_3600, nx_g3600, jx_1, jx_2, jx_3, jx_4, jx_5, jx_7, jx_8, jx_9, jx_10, jx_11, jx_13, jx_14, jx_15, jx_16, jx_17, jx_18, jx_19, jx_20, jx_21, jx_22, jx_23, jx_24, jx_25, jx_26, jx_27, jx_28, jx_29, jx_30, jx_31, jx_32, jx_33, jx_34, jx_35, jx_36, jx_37, jx_38, jx_39, jx_40, jx_41, jx_42, nx_a2, nx_a3, nx_a4, nx_a5, nx_a6, nx_a7, nx_a8, nx_a9, nx_a10, nx_a11, nx_a12, nx_a13, nx_a14, nx_a15, nx_a16, nx_a17, nx_a18, nx_a19, nx_a20, nx_a21, nx_a22, nx_a23, nx_a24, nx_a25, nx_a26, nx_a27, nx_a28, nx_a29, nx_a30, nx_a31, nx_a32, nx_a33, nx_a34, nx_a35, nx_a36, nx_a37, nx_a38, nx_a39, nx_a40, nx_a41, jI_17, nx_17, jI_48, nx_48, jI_80, nx_80, jI_720, nx_720, jI_4800, nx_4800, jI_18220, nx_18220, jI_18030, nx_18030, nx_m2, nx_m5, nx_m6, nx_m16, nx_m60, nx_m400, nx_m3644, nx_m3606, h, hI, hw _ (0 - 1) (by decide), hk, cIL, nx_0, ite_swap]
        try (split <;> exact Iff.rfl)
      | succ i =>
        have hk : ∀ F, kSeen (F, qR P, qB P, qM P, qU P, qH P) (nI i) = qR P (6 * i) := by
          intro F
          unfold kSeen
          rw [if_neg (Int32.not_lt.mpr (nI_pos' (by omega))), jx_nI (by omega)]
        simp (config := {decide := true}) (disch := first | omega | assumption | (simp only [mS_cL, mS_cI, mS_cR, mR_cL, mR_cI]; first | assumption | exact hcr _ | fail)) only [tX12_melts_0, tX12_melts_1, tX12_melts_3, tX12_melts_4, tX12_melts_7, tX12_melts_9, tX12_melts_10, tX12_melts_13, tX12_melts_14, tX12_melts_17, tX12_melts_19, tX12_melts_20, tX12_melts_21, tX12_melts_22, tX12_melts_23, tX12_melts_24, tX12_melts_27, tX12_melts_28, tX12_melts_29, tX12_melts_30, tX12_melts_33, tX12_melts_35, tX12_melts_36, tX12_melts_37, tX12_melts_38, tX12_melts_39, tX12_melts_40, tX12_melts_43, tX12_melts_44, tX12_melts_45, tX12_melts_46, tX12_melts_48, tX12_melts_50, tX12_melts_53, tX12_melts_54, tX12_melts_57, tX12_melts_58, tX12_melts_59, tX12_melts_60, tX12_melts_61, tX12_melts_64, tX12_melts_66, tX12_melts_67, tX12_melts_68, tX12_melts_69, tX12_melts_70, tX12_melts_71, tX12_melts_72, tX12_melts_73, tX12_melts_76, tX12_melts_79, tX12_melts_82, tX12_melts_85, tX12_melts_86, tX12_melts_89, tX12_melts_91, tX12_melts_92, tX12_melts_93, tX12_melts_94, tX12_melts_97, tX12_melts_99, tX12_melts_100, tX12_melts_101, tX12_melts_102, tX12_melts_103, tX12_melts_106, tX12_melts_107, tX12_melts_108, tX12_melts_111, tX12_melts_113, tX12_melts_114, tX12_melts_117, tX12_melts_118, tX12_melts_121, tX12_melts_122, tX12_melts_123, tX12_melts_126, tX12_melts_127, tX12_melts_128, tX12_melts_129, tX12_melts_130, tX12_melts_131, tX12_melts_134, tX12_melts_135, tX12_melts_136, tX12_melts_139, tX12_melts_141, tX12_melts_142, tX12_melts_145, tX12_melts_146, tX12_melts_149, tX12_melts_150, tX12_melts_151, tX12_melts_152, tX12_melts_153, tX12_melts_154, tX12_melts_157, tX12_melts_158, tX12_melts_159, tX12_melts_162, tX12_melts_163, tX12_melts_164, tX12_melts_167, tX12_melts_169, tX12_melts_170, tX12_melts_171, tX12_melts_174, tX12_melts_176, tX12_melts_177, tX12_melts_180, tX12_melts_181, tX12_melts_184, tX12_melts_185, tX12_melts_186, jK_some, jK_none, jc1_int, jc1_ref, jc1_none, jc1_long, jc1_null, jc1_rf, va_rf_some, va_rf_none, mI_cI, mL_cL, mR_cR, cI_cI, cL_cL, jup_eq, jne_1, jne_2, Nat.add_left_cancel_iff, mL_cI, mR_cI, mS_cI, mN_cI, mI_cL, mR_cL, mS_cL, mN_cL, mI_cR, mL_cR, mS_cR, mN_cR, true_and, and_true, true_or, or_true, if_true, if_false, jBool_0, jBool_1, Nat.le_refl, Nat.reduceLeDiff, Nat.reduceEqDiff, Nat.reduceAdd, Nat.reduceSub, reduceIte, Int32.reduceLT, Int32.reduceLE, ne_eq, not_false_eq_true, not_true_eq_false, false_or, or_false, and_false, false_and, reduceCtorEq, jn_4, jn_6, jn_8, jn_9, jn_12, jn_60, jn_100, jn_200, jn_400, jn_600, jn_601, jn_3600, jI_4, jI_6, jI_8, jI_9, jI_12, jI_60, jI_100, jI_200, jI_400, jI_600, jI_601, jI_3600, va_cpy_00, jx_0, jx_6, jx_12, jx_400, jx_600, nI_1, nx_5e, nx_l6, nx_l12, nx_l100, nx_l200, nx_l400, nx_l600, nx_l601, nx_l3600, nx_pos, nx_posN, nx_neg1, nx_m1neg, nx_leF, nx_leT, nx_ltF, nx_ltT, nx_mul6, nI_add, nI_1, jx_nI, nx_4, nx_g4, nx_6, nx_g6, nx_8, nx_g8, nx_9, nx_g9, nx_12, nx_g12, nx_14, nx_g14, nx_60, nx_g60, nx_100, nx_g100, nx_200, nx_g200, nx_400, nx_g400, nx_600, nx_g600, nx_601, nx_g601, nx_3600, nx_g3600, jx_1, jx_2, jx_3, jx_4, jx_5, jx_7, jx_8, jx_9, jx_10, jx_11, jx_13, jx_14, jx_15, jx_16, jx_17, jx_18, jx_19, jx_20, jx_21, jx_22, jx_23, jx_24, jx_25, jx_26, jx_27, jx_28, jx_29, jx_30, jx_31, jx_32, jx_33, jx_34, jx_35, jx_36, jx_37, jx_38, jx_39, jx_40, jx_41, jx_42, nx_a2, nx_a3, nx_a4, nx_a5, nx_a6, nx_a7, nx_a8, nx_a9, nx_a10, nx_a11, nx_a12, nx_a13, nx_a14, nx_a15, nx_a16, nx_a17, nx_a18, nx_a19, nx_a20, nx_a21, nx_a22, nx_a23, nx_a24, nx_a25, nx_a26, nx_a27, nx_a28, nx_a29, nx_a30, nx_a31, nx_a32, nx_a33, nx_a34, nx_a35, nx_a36, nx_a37, nx_a38, nx_a39, nx_a40, nx_a41, jI_17, nx_17, jI_48, nx_48, jI_80, nx_80, jI_720, nx_720, jI_4800, nx_4800, jI_18220, nx_18220, jI_18030, nx_18030, nx_m2, nx_m5, nx_m6, nx_m16, nx_m60, nx_m400, nx_m3644, nx_m3606, h, hI, hw _ (nI i) (nI_lt (b := 600) (by omega) (by decide)), hk, cIL, nx_S0, nat_S0, nI_pred, c_M_rowOf1 (hb _ _) (show i < 600 by omega), c_M_rowOf2 (hb _ _) (show i < 600 by omega), hb1, Nat.add_sub_cancel, ite_swap]
        try (split <;> exact Iff.rfl)
  have e1 : cL (cI m (c + 14) (qS P)) (c + 15) (qM P) = m := by
    rw [← p1, ← p4, cI_eta, cL_eta]
  rw [e1] at key
  exact key
end MELT
