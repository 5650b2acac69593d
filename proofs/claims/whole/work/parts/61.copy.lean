/-! ===== X's pot becomes like another ===== -/
section COPY
variable {m : jmM} {d a b n nf nm : Nat} {P : Pt}
theorem jcp_in {α : Type} {f g : Nat → α} {k r : Nat} (h : r < k) : jcp k f g r = f r := if_pos h
theorem X_becomeLike (ha : PotL (mS m) (mR m) a) (hX : XPot m b P) (hG : GP nf nm n P) (hd : b + 10 < a ∨ a + 10 < b) : ∃ m', CE (d + 4) 49 [.ref a, .ref b] m none m' ∧ XPot m' a P ∧ mS m' = mS m ∧ mN m' = mN m ∧ mZ m' = mZ m ∧ (∀ c, c ≠ a → mR m' c = mR m c) ∧ mR m' a = jup (jup (mR m a) 1 (mR m b 1)) 2 (mR m b 2) ∧ (∀ c, c < a ∨ a + 8 < c → mI m' c = mI m c) ∧ ∀ c, c ≠ a → c ≠ a + 9 → c ≠ a + 10 → mL m' c = mL m c := by
  have h6 := hG.2.1
  have hn := x_n hX hG
  obtain ⟨p, ⟨⟨s3, s5, s6, s7, s8, s9, s10, s11⟩, s4, ⟨t0, t1, t2, t3, t4, t5⟩, sr⟩, r1, r2⟩ := id hX
  refine ⟨jPotCopy m a b n, CE.of fun Q => c_Pot_becomeLike ha p hn h6 hd, ?_, rfl, rfl, rfl, ?_, ?_, ?_, ?_⟩
  · have iA : mI (jPotCopy m a b n) a = jup (jup (jup (jup (jup (jup (jup (jup (mI m a) 3 (mI m b 3)) 5 (mI m b 5)) 6 (mI m b 6)) 7 (mI m b 7)) 8 (mI m b 8)) 9 (mI m b 9)) 10 (mI m b 10)) 11 (nI n) := by
      simp (disch := omega) only [jPotCopy, mI_same, mI_ne, mI_cL, mI_cR]
    have i1 : mI (jPotCopy m a b n) (a + 1) = jup (jup (jup (jup (jup (jup (mI m (a + 1)) 0 (mI m (b + 1) 0)) 1 (mI m (b + 1) 1)) 2 (mI m (b + 1) 2)) 3 (mI m (b + 1) 3)) 4 (mI m (b + 1) 4)) 5 (mI m (b + 1) 5) := by
      simp (disch := omega) only [jPotCopy, mI_same, mI_ne, mI_cL, mI_cR]
    have i2 : mI (jPotCopy m a b n) (a + 2) = jfor (fun k M => jup M k (mI m (b + 2) k)) 0 6 (mI m (a + 2)) := by
      simp (disch := omega) only [jPotCopy, mI_same, mI_ne, mI_cL, mI_cR]
    have i3 : mI (jPotCopy m a b n) (a + 3) = jfor (fun k M => jup M k (mI m (b + 3) k)) 0 6 (mI m (a + 3)) := by
      simp (disch := omega) only [jPotCopy, mI_same, mI_ne, mI_cL, mI_cR]
    have i4 : mI (jPotCopy m a b n) (a + 4) = jcp n (mI m (b + 4)) (mI m (a + 4)) := by
      simp (disch := omega) only [jPotCopy, mI_same, mI_ne, mI_cL, mI_cR]
    have i5 : mI (jPotCopy m a b n) (a + 5) = jcp n (mI m (b + 5)) (mI m (a + 5)) := by
      simp (disch := omega) only [jPotCopy, mI_same, mI_ne, mI_cL, mI_cR]
    have i6 : mI (jPotCopy m a b n) (a + 6) = jcp n (mI m (b + 6)) (mI m (a + 6)) := by
      simp (disch := omega) only [jPotCopy, mI_same, mI_ne, mI_cL, mI_cR]
    have i7 : mI (jPotCopy m a b n) (a + 7) = jcp n (mI m (b + 7)) (mI m (a + 7)) := by
      simp (disch := omega) only [jPotCopy, mI_same, mI_ne, mI_cL, mI_cR]
    have i8 : mI (jPotCopy m a b n) (a + 8) = jfor (fun r M => jup M r (vp_nar .boolean (mI m (b + 8) r))) 0 n (mI m (a + 8)) := by
      simp (disch := omega) only [jPotCopy, mI_same, mI_ne, mI_cL, mI_cR]
    have lA : mL (jPotCopy m a b n) a = jup (mL m a) 4 (mL m b 4) := by
      simp (disch := omega) only [jPotCopy, mL_same, mL_ne, mL_cI, mL_cR]
    have l9 : mL (jPotCopy m a b n) (a + 9) = jcp (n * 6) (mL m (b + 9)) (mL m (a + 9)) := by
      simp (disch := omega) only [jPotCopy, mL_same, mL_ne, mL_cI, mL_cR]
    have l10 : mL (jPotCopy m a b n) (a + 10) = jcp 6 (mL m (b + 10)) (mL m (a + 10)) := by
      simp (disch := omega) only [jPotCopy, mL_same, mL_ne, mL_cI, mL_cR]
    have rA : mR (jPotCopy m a b n) a = jup (jup (mR m a) 1 (mR m b 1)) 2 (mR m b 2) := by
      simp (disch := omega) only [jPotCopy, mR_same, mR_ne, mR_cI, mR_cL]
    have rO : ∀ c, c ≠ a → mR (jPotCopy m a b n) c = mR m c := by
      intro c hc
      simp (disch := omega) only [jPotCopy, mR_ne, mR_cI, mR_cL]
    have eS : mS (jPotCopy m a b n) = mS m := rfl
    generalize jPotCopy m a b n = E at *
    refine ⟨?_, ⟨⟨?_, ?_, ?_, ?_, ?_, ?_, ?_, ?_⟩, ?_, ⟨?_, ?_, ?_, ?_, ?_, ?_⟩, ?_⟩, ?_, ?_⟩
    · unfold PotL at ha ⊢
      rw [eS, rA, rO (a + 1) (by omega)]
      simp only [jup_eq, reduceIte, Nat.reduceEqDiff]
      exact ha
    · rw [iA, ← s3]; simp [jup_eq]
    · rw [iA, ← s5]; simp [jup_eq]
    · rw [iA, ← s6]; simp [jup_eq]
    · rw [iA, ← s7]; simp [jup_eq]
    · rw [iA, ← s8]; simp [jup_eq]
    · rw [iA, ← s9]; simp [jup_eq]
    · rw [iA, ← s10]; simp [jup_eq]
    · rw [iA, hG.1]; simp [jup_eq]
    · rw [lA, jup_same, s4]
    · rw [i1, ← t0]; simp [jup_eq]
    · rw [i1, ← t1]; simp [jup_eq]
    · rw [i1, ← t2]; simp [jup_eq]
    · rw [i1, ← t3]; simp [jup_eq]
    · rw [i1, ← t4]; simp [jup_eq]
    · rw [i1, ← t5]; simp [jup_eq]
    · intro h0
      obtain ⟨q1, q2⟩ := sr h0
      rw [rA, jup_same, jup_ne (by decide), jup_same]
      exact ⟨q1, q2⟩
    · intro k hk
      obtain ⟨q1, q2, q3⟩ := r1 k hk
      rw [i2, i3, l10, jcopy, jcopy, if_pos (by omega), if_pos (by omega), jcp_in hk]
      exact ⟨q1, q2, q3⟩
    · intro r hr
      rw [hG.1, jx_nI (by omega)] at hr
      obtain ⟨⟨q1, q2, q3, q4, q5⟩, q6⟩ := hX.row hG hr
      have q8 := (GP_row hG hr).1.2.2.2.2
      rw [i4, i5, i6, i7, i8, l9, jcp_in hr, jcp_in hr, jcp_in hr, jcp_in hr, jcopy (F := fun r => vp_nar .boolean (mI m (b + 8) r)), if_pos (by omega)]
      refine ⟨⟨q1, q2, q3, q4, ?_⟩, fun k hk => ?_⟩
      · rw [q5]
        rcases q8 with e | e <;> rw [e] <;> decide
      · rw [jcp_in (by omega)]; exact q6 k hk
  · intro c hc
    simp (disch := omega) only [jPotCopy, mR_ne, mR_cI, mR_cL]
  · simp (disch := omega) only [jPotCopy, mR_same, mR_ne, mR_cI, mR_cL]
  · intro c hc
    simp (disch := omega) only [jPotCopy, mI_ne, mI_cL, mI_cR]
  · intro c h1 h2 h3
    simp (disch := omega) only [jPotCopy, mL_ne, mL_cI, mL_cR]
end COPY
