/-! ===== reads ===== -/
def rdB (m : jmM) (x : Nat) : jmM := cI (cI (cI (cI (cI m 195 (jup (jup (mI m 195) 14 (nI x)) 19 0)) 200 (jup (mI m 200) x 0)) 201 (jup (mI m 201) x (-1))) 202 (jup (mI m 202) x (-1))) 203 (jup (mI m 203) x (-1))
def rdE (m : jmM) (x : Nat) : jmM := cI (cI (cI (cI m 195 (jup (mI m 195) 1 0)) 201 (jup (mI m 201) x (if 0 ≤ mI m 201 x then mI m 201 x else 0))) 202 (jup (mI m 202) x (if 0 ≤ mI m 202 x then mI m 202 x else 0))) 203 (jup (mI m 203) x (if 0 ≤ mI m 203 x then mI m 203 x else 0))
/-- what a reading leaves of the reference -/
def FrR (x : Nat) (m m' : jmM) : Prop := m'.2 = m.2 ∧ (∀ c, c ≠ 195 → (c < 197 ∨ 204 < c) → mI m' c = mI m c) ∧ (∀ j, j ≠ 1 → (j < 11 ∨ 16 < j) → j ≠ 18 → j ≠ 19 → mI m' 195 j = mI m 195 j) ∧ mI m' 195 1 = 0 ∧ (∀ j, (j < 400 * x ∨ 400 * x + 400 ≤ j) → mI m' 197 j = mI m 197 j) ∧ (∀ j, (j < 60 * x ∨ 60 * x + 60 ≤ j) → mI m' 199 j = mI m 199 j) ∧ ∀ c, c = 198 ∨ (200 ≤ c ∧ c ≤ 203) → ∀ j, j ≠ x → mI m' c j = mI m c j
section CLI
variable {d : Nat} {B B' Bx m : jmM} {T : Nat → Int32} {x z i p n k : Nat} {t w a u v : Int32} {F FM O : Nat → Int32} {Q : Option Value → jmM → Prop} {L2 : Option Value}
theorem nI_sur (v : Int32) : ∃ n, v = nI n := by
  refine ⟨v.toBitVec.toNat, ?_⟩
  show v = Int32.ofNat v.toBitVec.toNat
  apply Int32.toBitVec.inj
  simp
theorem CC_mem {d j : Nat} {a : List Value} {m m' : jmM} {Q : Option Value → jmM → Prop} (h : m' = m) (hc : CC d j a m' Q) : CC d j a m Q := h ▸ hc
theorem l_rend (hml : MLay (mS m) (mR m) 195) (hx : x < 12) : AW (d + 10) 220 118 [some (.ref 195), some (.int (nI x)), L2] [] m Q ↔ Q (some (.int (mI m 195 12))) (rdE m x) := by
  have ir : jIx (nI x) 12 := (jIx_nI (by omega)).mpr hx
  unfold rdE
  by_cases c1 : 0 ≤ mI m 201 x <;> by_cases c2 : 0 ≤ mI m 202 x <;> by_cases c3 : 0 ≤ mI m 203 x <;> simp (config := {decide := true}) (disch := first | omega | assumption | (simp only [mS_cL, mS_cI, mS_cR, mR_cL, mR_cI]; first | assumption | exact hcr _ | fail)) only [tX12_reads_118, tX12_reads_119, tX12_reads_120, tX12_reads_123, tX12_reads_124, tX12_reads_127, tX12_reads_128, tX12_reads_129, tX12_reads_132, tX12_reads_133, tX12_reads_134, tX12_reads_137, tX12_reads_138, tX12_reads_141, tX12_reads_142, tX12_reads_145, tX12_reads_146, tX12_reads_147, tX12_reads_148, tX12_reads_149, tX12_reads_152, tX12_reads_153, tX12_reads_154, tX12_reads_157, tX12_reads_158, tX12_reads_159, tX12_reads_162, tX12_reads_163, tX12_reads_166, tX12_reads_167, tX12_reads_170, tX12_reads_171, tX12_reads_172, tX12_reads_173, tX12_reads_174, tX12_reads_177, tX12_reads_178, tX12_reads_179, tX12_reads_182, tX12_reads_183, tX12_reads_184, tX12_reads_187, tX12_reads_188, tX12_reads_191, tX12_reads_192, tX12_reads_195, tX12_reads_196, tX12_reads_197, tX12_reads_198, tX12_reads_199, tX12_reads_202, jK_some, jK_none, jc1_int, jc1_ref, jc1_none, jc1_long, jc1_null, jc1_rf, va_rf_some, va_rf_none, mI_cI, mL_cL, mR_cR, cI_cI, cL_cL, jup_eq, jne_1, jne_2, Nat.add_left_cancel_iff, mL_cI, mR_cI, mS_cI, mN_cI, mI_cL, mR_cL, mS_cL, mN_cL, mI_cR, mL_cR, mS_cR, mN_cR, true_and, and_true, true_or, or_true, if_true, if_false, jBool_0, jBool_1, Nat.le_refl, Nat.reduceLeDiff, Nat.reduceEqDiff, Nat.reduceAdd, Nat.reduceSub, reduceIte, Int32.reduceLT, Int32.reduceLE, ne_eq, not_false_eq_true, not_true_eq_false, false_or, or_false, and_false, false_and, reduceCtorEq, jn_4, jn_6, jn_8, jn_9, jn_12, jn_60, jn_100, jn_200, jn_400, jn_600, jn_601, jn_3600, jI_4, jI_6, jI_8, jI_9, jI_12, jI_60, jI_100, jI_200, jI_400, jI_600, jI_601, jI_3600, va_cpy_00, jx_0, jx_6, jx_12, jx_400, jx_600, nI_1, hml, ir, jx_nI, c1, c2, c3]
theorem FrR_of (fr : FrM x (rdB m x) B') : FrR x m (rdE (nM B' x i t w p n k F O a) x) := by
  obtain ⟨f1, f2, f3, f4, f5⟩ := fr
  refine ⟨f1, fun c h1 h2 => ?_, fun j h1 h2 h3 h4 => ?_, ?_, fun j hj => ?_, fun j hj => ?_, fun c hc j hj => ?_⟩
  · unfold rdE
    rw [mI_ne (by omega), mI_ne (by omega), mI_ne (by omega), mI_ne (by omega), nM_cell h1 (by omega) (by omega) (by omega), f2 c h1 (by omega)]
    unfold rdB
    rw [mI_ne (by omega), mI_ne (by omega), mI_ne (by omega), mI_ne (by omega), mI_ne (by omega)]
  · unfold rdE
    rw [mI_ne (by decide), mI_ne (by decide), mI_ne (by decide), mI_same, jup_ne h1]
    unfold nM
    rw [mI_ne (by decide), mI_ne (by decide), mI_ne (by decide), mI_same, jup_ne h3, jup_ne (by omega), jup_ne (by omega), jup_ne (by omega), jup_ne (by omega), jup_ne (by omega), f3 j h4]
    unfold rdB
    rw [mI_ne (by decide), mI_ne (by decide), mI_ne (by decide), mI_ne (by decide), mI_same, jup_ne h4, jup_ne (by omega)]
  · unfold rdE
    rw [mI_ne (by decide), mI_ne (by decide), mI_ne (by decide), mI_same, jup_same]
  · unfold rdE
    rw [mI_ne (by decide), mI_ne (by decide), mI_ne (by decide), mI_ne (by decide)]
    unfold nM
    rw [mI_ne (by decide), mI_ne (by decide), mI_same, if_neg (by omega), f2 197 (by decide) (by decide)]
    unfold rdB
    rw [mI_ne (by decide), mI_ne (by decide), mI_ne (by decide), mI_ne (by decide), mI_ne (by decide)]
  · unfold rdE
    rw [mI_ne (by decide), mI_ne (by decide), mI_ne (by decide), mI_ne (by decide), nM_cell (by decide) (by decide) (by decide) (by decide), f4 j hj]
    unfold rdB
    rw [mI_ne (by decide), mI_ne (by decide), mI_ne (by decide), mI_ne (by decide), mI_ne (by decide)]
  · rcases (show c = 198 ∨ c = 200 ∨ c = 201 ∨ c = 202 ∨ c = 203 by omega) with rfl | rfl | rfl | rfl | rfl
    · unfold rdE
      rw [mI_ne (by decide), mI_ne (by decide), mI_ne (by decide), mI_ne (by decide)]
      unfold nM
      rw [mI_ne (by decide), mI_same, jup_ne hj, f2 198 (by decide) (by decide)]
      unfold rdB
      rw [mI_ne (by decide), mI_ne (by decide), mI_ne (by decide), mI_ne (by decide), mI_ne (by decide)]
    · unfold rdE
      rw [mI_ne (by decide), mI_ne (by decide), mI_ne (by decide), mI_ne (by decide), nM_cell (by decide) (by decide) (by decide) (by decide), f5 200 (by decide) (by decide) j hj]
      unfold rdB
      rw [mI_ne (by decide), mI_ne (by decide), mI_ne (by decide), mI_same, jup_ne hj]
    · unfold rdE
      rw [mI_ne (by decide), mI_ne (by decide), mI_same, jup_ne hj, nM_cell (by decide) (by decide) (by decide) (by decide), f5 201 (by decide) (by decide) j hj]
      unfold rdB
      rw [mI_ne (by decide), mI_ne (by decide), mI_same, jup_ne hj]
    · unfold rdE
      rw [mI_ne (by decide), mI_same, jup_ne hj, nM_cell (by decide) (by decide) (by decide) (by decide), f5 202 (by decide) (by decide) j hj]
      unfold rdB
      rw [mI_ne (by decide), mI_same, jup_ne hj]
    · unfold rdE
      rw [mI_same, jup_ne hj, nM_cell (by decide) (by decide) (by decide) (by decide), f5 203 (by decide) (by decide) j hj]
      unfold rdB
      rw [mI_same, jup_ne hj]
theorem rd_mem (hp : mI m 195 16 = nI p) (hn : mI m 195 18 = nI n) : nM (rdB m x) x 0 0 0 p n 0 (fun j => mI m 197 (400 * x + j)) (mI m 204) (mI m 195 13) = cI (cI (cI (cI (cI (cI (cI (cI m 195 (jup (mI m 195) 14 (nI x))) 198 (jup (mI m 198) x 0)) 200 (jup (mI m 200) x 0)) 195 (jup (jup (mI m 195) 14 (nI x)) 19 0)) 201 (jup (mI m 201) x (-1))) 202 (jup (mI m 202) x (-1))) 203 (jup (mI m 203) x (-1))) 195 (jup (jup (jup (jup (jup (mI m 195) 14 (nI x)) 19 0) 11 0) 12 0) 15 0) := by
  refine cI_ext (fun c j => ?_) rfl
  have e0 : nI 0 = 0 := rfl
  by_cases c5 : c = 195
  · subst c5
    show (jup (jup (jup (jup (jup (jup (jup (jup (mI m 195) 14 (nI x)) 19 0) 11 (nI 0)) 12 0) 13 (mI m 195 13)) 15 0) 16 (nI p)) 18 (nI n)) j = (jup (jup (jup (jup (jup (mI m 195) 14 (nI x)) 19 0) 11 0) 12 0) 15 0) j
    rw [e0, ← hp, ← hn]
    generalize mI m 195 = f
    unfold jup
    grind
  by_cases c7 : c = 197
  · subst c7
    show (if 400 * x ≤ j ∧ j < 400 * x + 400 then mI m 197 (400 * x + (j - 400 * x)) else mI m 197 j) = mI m 197 j
    split
    · congr 1; omega
    · rfl
  by_cases c4 : c = 204
  · subst c4; rfl
  by_cases c8 : c = 198
  · subst c8; rfl
  rw [nM_cell c5 c7 c8 c4]
  unfold rdB
  simp only [mI_cI, c5, c8, if_false]
theorem n_reads (hml : MLay (mS m) (mR m) 195) (hx : x < 12) (hu : u = 0 ↔ ¬ x < 4) (hz : z ≤ 400) (ht : mI m 195 1 = nI z) (hb : ∀ i, i < z → isB (mI m 196 i)) (hT : ∀ i, T i = if i < z then mI m 196 i &&& 255 else -1) {mX : jmM} (hX : XB (rB0 mX u) T z)
    (h1 : (rLp T u 13 0 (rB0 mX u) (rS0 mX)).2.2.2.1 = 0 → ∀ m' K, FrR x m m' → KOk K → LM m' 195 x K → (∀ (m : jmM) b, LawL (mS m) (mR m) b → mI m b 6 = mI (rLp T u 13 0 (rB0 mX u) (rS0 mX)).1 4 6 → mI m b 7 = mI (rLp T u 13 0 (rB0 mX u) (rS0 mX)).1 4 7 → mI m b 8 = mI (rLp T u 13 0 (rB0 mX u) (rS0 mX)).1 4 8 → mI m b 9 = mI (rLp T u 13 0 (rB0 mX u) (rS0 mX)).1 4 9 → (∀ i, i < 12 → mI m (b + 2) i = mI (rLp T u 13 0 (rB0 mX u) (rS0 mX)).1 6 i ∧ mI m (b + 3) i = mI (rLp T u 13 0 (rB0 mX u) (rS0 mX)).1 7 i ∧ mI m (b + 4) i = mI (rLp T u 13 0 (rB0 mX u) (rS0 mX)).1 8 i ∧ mI m (b + 5) i = mI (rLp T u 13 0 (rB0 mX u) (rS0 mX)).1 9 i) → (∀ i, i < 400 → mI m (b + 1) i = (rLp T u 13 0 (rB0 mX u) (rS0 mX)).2.2.2.2.2 i) → LX m b K) → Q (some (.int 0)) m')
    (h2 : (rLp T u 13 0 (rB0 mX u) (rS0 mX)).2.2.2.1 ≠ 0 → ∀ m', FrR x m m' → Q (some (.int (rLp T u 13 0 (rB0 mX u) (rS0 mX)).2.2.2.1)) m') : CC (d + 11) 220 [.ref 195, .int (nI x)] m Q := by
  obtain ⟨p, hp⟩ := nI_sur (mI m 195 16)
  obtain ⟨n, hn⟩ := nI_sur (mI m 195 18)
  have hB : NB (rdB m x) T x z := ⟨hml, hx, rfl, hz, ht, hb, hT⟩
  have ir : jIx (nI x) 12 := (jIx_nI (by omega)).mpr hx
  have hIV : IV (rdB m x) (rB0 mX u) x 0 (mI mX 5) 0 := by
    refine ⟨⟨0, fun _ => 0, fun _ => [], fun _ => [], Nat.le_refl _, rfl, ?_, fun i hi => absurd hi (Nat.not_lt_zero _)⟩, ⟨?_, Or.inl rfl⟩, ⟨?_, Or.inl rfl⟩, ⟨?_, Or.inl rfl⟩⟩
    · show jup (mI m 200) x 0 x = nI 0
      rw [jup_same]; rfl
    · show jup (mI m 201) x (-1) x = -1
      rw [jup_same]
    · show jup (mI m 202) x (-1) x = -1
      rw [jup_same]
    · show jup (mI m 203) x (-1) x = -1
      rw [jup_same]
  rw [nX12_reads]
  simp (config := {decide := true}) (disch := first | omega | assumption | (simp only [mS_cL, mS_cI, mS_cR, mR_cL, mR_cI]; first | assumption | exact hcr _ | fail)) only [tX12_reads_0, tX12_reads_1, tX12_reads_2, tX12_reads_5, tX12_reads_6, tX12_reads_9, tX12_reads_10, tX12_reads_11, tX12_reads_12, tX12_reads_13, tX12_reads_16, tX12_reads_17, tX12_reads_18, tX12_reads_19, tX12_reads_20, tX12_reads_21, tX12_reads_24, tX12_reads_25, tX12_reads_28, tX12_reads_29, tX12_reads_30, tX12_reads_31, tX12_reads_32, tX12_reads_35, tX12_reads_36, tX12_reads_37, tX12_reads_38, tX12_reads_39, tX12_reads_42, tX12_reads_43, tX12_reads_44, tX12_reads_45, tX12_reads_46, tX12_reads_47, tX12_reads_50, tX12_reads_51, tX12_reads_52, tX12_reads_55, tX12_reads_56, tX12_reads_57, tX12_reads_60, tX12_reads_61, jK_some, jK_none, jc1_int, jc1_ref, jc1_none, jc1_long, jc1_null, jc1_rf, va_rf_some, va_rf_none, mI_cI, mL_cL, mR_cR, cI_cI, cL_cL, jup_eq, jne_1, jne_2, Nat.add_left_cancel_iff, mL_cI, mR_cI, mS_cI, mN_cI, mI_cL, mR_cL, mS_cL, mN_cL, mI_cR, mL_cR, mS_cR, mN_cR, true_and, and_true, true_or, or_true, if_true, if_false, jBool_0, jBool_1, Nat.le_refl, Nat.reduceLeDiff, Nat.reduceEqDiff, Nat.reduceAdd, Nat.reduceSub, reduceIte, Int32.reduceLT, Int32.reduceLE, ne_eq, not_false_eq_true, not_true_eq_false, false_or, or_false, and_false, false_and, reduceCtorEq, jn_4, jn_6, jn_8, jn_9, jn_12, jn_60, jn_100, jn_200, jn_400, jn_600, jn_601, jn_3600, jI_4, jI_6, jI_8, jI_9, jI_12, jI_60, jI_100, jI_200, jI_400, jI_600, jI_601, jI_3600, va_cpy_00, jx_0, jx_6, jx_12, jx_400, jx_600, nI_1, hml, ir, jx_nI]
  refine CC_mem (m' := nM (rdB m x) x 0 0 0 p n 0 (fun j => mI m 197 (400 * x + j)) (mI m 204) (mI m 195 13)) ?_ ?_
  · exact rd_mem hp hn
  · refine l_reads (d := d) (Q := Q) hu 12 0 (rdB m x) (rB0 mX u) (rS0 mX) 0 p n _ _ _ rfl hB hX ⟨rfl, rfl, Nat.zero_le _, Nat.zero_le _, Nat.zero_le _⟩ (fun j hj => absurd hj (Nat.not_lt_zero _)) rfl hIV ?_ ?_ _ (fun v m' hm => ?_)
    · intro hf B' i' t' n' FM' O' a' v fr hn' hk hI hF
      obtain ⟨K, hK, hM, hXx⟩ := IV_law hI hn' hk hF
      refine (l_rend (show MLay (mS (nM B' x _ _ _ _ _ _ _ _ _)) (mR (nM B' x _ _ _ _ _ _ _ _ _)) 195 from (NB_fr hB fr).1) hx).mpr ?_
      refine h1 hf _ K (FrR_of fr) hK (hM _ ?_ ?_ ?_ ?_ ?_ ?_) hXx
      · rfl
      · rfl
      · show jup (mI B' 201) x _ x = _
        rw [jup_same]; exact jpos_ge
      · show jup (mI B' 202) x _ x = _
        rw [jup_same]; exact jpos_ge
      · show jup (mI B' 203) x _ x = _
        rw [jup_same]; exact jpos_ge
      · intro j hj
        show (if 400 * x ≤ 400 * x + j ∧ 400 * x + j < 400 * x + 400 then FM' (400 * x + j - 400 * x) else mI B' 197 (400 * x + j)) = FM' j
        rw [if_pos ⟨by omega, by omega⟩, show 400 * x + j - 400 * x = j by omega]
    · intro hf B' i' t' p' n' k' FM' O' a' v fr
      refine (l_rend (show MLay (mS (nM B' x _ _ _ _ _ _ _ _ _)) (mR (nM B' x _ _ _ _ _ _ _ _ _)) 195 from (NB_fr hB fr).1) hx).mpr ?_
      exact h2 hf _ (FrR_of fr)
    · simp (config := {decide := true}) only [jK_some, tX12_reads_64, jc1_int, jc1_none]
      exact hm
end CLI
