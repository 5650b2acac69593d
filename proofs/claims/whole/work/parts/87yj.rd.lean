/-! ===== the relation behind a reading ===== -/
section RDJ
variable {m m1 m2 : jmM} {nf nm nf' nm' n x t z L b k q : Nat} {G : Nat → KLaw} {P : Pt} {K : KLaw} {ax v : Int32}
theorem GP_mono (h : GP nf nm n P) (h1 : nf ≤ nf') (h2 : nm ≤ nm') : GP nf' nm' n P := by
  obtain ⟨g1, g2, g3⟩ := h
  refine ⟨g1, g2, ?_⟩
  rcases g3 with g | ⟨c1, ⟨f, hf, e⟩, ⟨g, hg, e2⟩, c3⟩
  · exact Or.inl g
  · exact Or.inr ⟨c1, ⟨f, by omega, e⟩, ⟨g, by omega, e2⟩, c3⟩
theorem RP_mono (h : RP nf nm m) (h1 : nf ≤ nf') (h2 : nm ≤ nm') : RP nf' nm' m := by
  obtain ⟨n, P, p1, p2, p3⟩ := h
  exact ⟨n, P, p1, p2, GP_mono p3 h1 h2⟩
theorem RI_mono (h : RI nf nm m) (h1 : nf ≤ nf') (h2 : nm ≤ nm') : RI nf' nm' m := by
  intro k hk
  obtain ⟨q1, q2, q3⟩ := h k hk
  refine ⟨q1, q2, fun q => ?_⟩
  obtain ⟨⟨n, P, k1, k2, k3⟩, k4⟩ := q3 q
  exact ⟨⟨n, P, k1, k2, GP_mono k3 h1 h2⟩, k4⟩
/-- what a reading leaves of the relation -/
def Fr2 (m m' : jmM) : Prop := m'.2 = m.2 ∧ (∀ c, (c = 0 ∨ 86 ≤ c) → c ≠ 195 → (c < 197 ∨ 204 < c) → mI m' c = mI m c) ∧ ∀ j, j ≠ 1 → (j < 9 ∨ 16 < j) → j ≠ 18 → j ≠ 19 → mI m' 195 j = mI m 195 j
theorem m2_S {m m' : jmM} (h : m'.2 = m.2) : mS m' = mS m ∧ mR m' = mR m ∧ mL m' = mL m ∧ mN m' = mN m ∧ mZ m' = mZ m := ⟨by unfold mS; rw [h], by unfold mR; rw [h], by unfold mL; rw [h], by unfold mN; rw [h], by unfold mZ; rw [h]⟩
theorem Rel_rd (f : Fr2 m m2) (hT : RT m2) (hL : RLw nf' nm' G m2) (h1 : nf ≤ nf') (h2 : nm ≤ nm') (hA : RA m) (hU : RU m) (hP : RP nf nm m) (hI : RI nf nm m) (hW : RW m) (hS : RS1 m) (hR : RR m) : Rel m2 := by
  obtain ⟨f1, f2, f3⟩ := f
  obtain ⟨e1, e2, e3, e4, e5⟩ := m2_S f1
  refine ⟨nf', nm', G, RA_fr e1 e2 e4 e5 ?_ ?_ ?_ hA, hT, RU_fr ?_ ?_ ?_ ?_ ?_ ?_ hU, hL, RP_mono (RP_fr e1 e2 ?_ ?_ ?_ ?_ ?_ hP) h1 h2, RI_mono (RI_fr e1 e2 ?_ ?_ ?_ ?_ ?_ hI) h1 h2, RW_fr ?_ ?_ ?_ ?_ hW, RS_fr ?_ ?_ ?_ ?_ hS, RR_fr ?_ ?_ ?_ ?_ ?_ hR⟩
  all_goals first | exact f3 _ (by omega) (by omega) (by omega) (by omega) | exact f2 _ (by omega) (by omega) (by omega) | exact congrFun (f2 _ (by omega) (by omega) (by omega)) _ | exact congrFun e3 _ | (intro j a b; exact f2 j (by omega) (by omega) (by omega)) | (intro j a b; exact congrFun e3 _) | (intro j a; exact congrFun (f2 _ (by omega) (by omega) (by omega)) _) | (intro j a; exact congrFun (congrFun e3 _) _)
theorem Fr2_of (h1 : m1.2 = m.2) (h2 : ∀ c, (c = 0 ∨ 86 ≤ c) → mI m1 c = mI m c) (fr : FrR x m1 m2) : Fr2 m m2 := by
  obtain ⟨f1, f2, f3, f4, f5, f6, f7⟩ := fr
  refine ⟨f1.trans h1, fun c a1 a2 a3 => (f2 c a2 a3).trans (h2 c a1), fun j a1 a2 a3 a4 => (f3 j a1 (by omega) a3 a4).trans (by rw [h2 195 (by omega)])⟩
theorem Fr2_put (h : Fr2 m m2) (hq : q = 9 ∨ q = 10) : Fr2 m (cI m2 195 (jup (mI m2 195) q v)) := by
  obtain ⟨f1, f2, f3⟩ := h
  refine ⟨f1, fun c a1 a2 a3 => (mI_ne a2).trans (f2 c a1 a2 a3), fun j a1 a2 a3 a4 => ?_⟩
  rw [mI_same, jup_ne (by omega)]
  exact f3 j a1 a2 a3 a4
theorem LM_frx (hK : kLn K ≤ 12) (ht : t ≠ x) (fr : FrR x m m2) (h : LM m 195 t K) : LM m2 195 t K := by
  obtain ⟨f1, f2, f3, f4, f5, f6, f7⟩ := fr
  obtain ⟨l1, l2, l3, l4, s, l5⟩ := h
  refine ⟨(f7 200 (by omega) t ht).trans l1, (f7 201 (by omega) t ht).trans l2, (f7 202 (by omega) t ht).trans l3, (f7 203 (by omega) t ht).trans l4, s, fun r hr => ?_⟩
  obtain ⟨d1, d2, d3, d4, d5, d6, d7, d8⟩ := l5 r hr
  refine ⟨(f6 _ (by omega)).trans d1, (f6 _ (by omega)).trans d2, (f6 _ (by omega)).trans d3, (f6 _ (by omega)).trans d4, (f6 _ (by omega)).trans d5, d6, ?_, ?_⟩
  · exact kSeg_congr _ _ (fun j a1 a2 => (f5 (400 * t + j) (by rw [List.length_map] at a2; omega)).symm) d7
  · exact kSeg_congr _ _ (fun j a1 a2 => (f5 (400 * t + j) (by rw [List.length_map] at a2; omega)).symm) d8
theorem LM_put (h : LM m 195 t K) : LM (cI m 195 (jup (mI m 195) q v)) 195 t K := LM_fr (c := 195) (fun j a1 a2 => mI_ne (by omega)) h
theorem LX_put (h : LX m b K) (hb : b + 5 < 195) : LX (cI m 195 (jup (mI m 195) q v)) b K := LX_fr (m := m) (m1 := cI m 195 (jup (mI m 195) q v)) rfl rfl (fun j a1 a2 => mI_ne (by omega)) h
/-- a failing text: all laws are as they were -/
theorem RL_fail (h1 : m1.2 = m.2) (h2 : ∀ c, 9 < c → mI m1 c = mI m c) (fr : FrR x m1 m2) (hx : nf ≤ x ∧ (x < 4 ∨ 4 + nm ≤ x)) (h : RLw nf nm G m) : RLw nf nm G m2 := by
  obtain ⟨l1, l2, l3, l4, l5, l6, l7⟩ := h
  have e := m2_S (fr.1.trans h1)
  have f2 := fr.2.1
  have f3 := fr.2.2.1
  refine ⟨l1, XLaws_fr l1.1 l1.2.1 e.1 e.2.1 (fun j a1 a2 => (f2 j (by omega) (by omega)).trans (h2 j (by omega))) l2, ⟨fun t ht => ?_, fun t ht => ?_⟩, ?_, ?_, ?_, ?_⟩
  · exact LM_frx (l1.2.2.1 t ht).1 (by omega) fr (LM_fr (c := 195) (fun j a1 a2 => h2 j (by omega)) (l3.1 t ht))
  · exact LM_frx (l1.2.2.2 t ht).1 (by omega) fr (LM_fr (c := 195) (fun j a1 a2 => h2 j (by omega)) (l3.2 t ht))
  · rw [f2 10 (by omega) (by omega), h2 10 (by omega)]; exact l4
  · rw [f2 36 (by omega) (by omega), h2 36 (by omega)]; exact l5
  · rw [f3 9 (by omega) (by omega) (by omega) (by omega), h2 195 (by omega)]; exact l6
  · rw [f3 10 (by omega) (by omega) (by omega) (by omega), h2 195 (by omega)]; exact l7
/-- a furnace's law more -/
theorem RL_fur (h1 : m1.2 = m.2) (h2 : ∀ c, 9 < c → c ≠ 10 → (c < 12 + 6 * nf ∨ 12 + 6 * nf + 5 < c) → mI m1 c = mI m c) (h3 : mI m1 10 1 = nI (nf + 1)) (hnf : nf < 4) (fr : FrR nf m1 m2) (hK : KOk K) (hM : LM m2 195 nf K) (hX : LX m2 (12 + 6 * nf) K) (h : RLw nf nm G m) : RLw (nf + 1) nm (fun t => if t = nf then K else G t) (cI m2 195 (jup (mI m2 195) 9 (nI (nf + 1)))) := by
  obtain ⟨l1, l2, l3, l4, l5, l6, l7⟩ := h
  have hnm := l1.2.1
  have e := m2_S (fr.1.trans h1)
  have f2 := fr.2.1
  have f3 := fr.2.2.1
  refine ⟨⟨hnf, l1.2.1, fun t ht => ?_, fun t ht => ?_⟩, ⟨fun t ht => ?_, fun t ht => ?_⟩, ⟨fun t ht => ?_, fun t ht => ?_⟩, ?_, ?_, ?_, ?_⟩
  · show KOk (if t = nf then K else G t)
    by_cases et : t = nf
    · rw [if_pos et]; exact hK
    · rw [if_neg et]; exact l1.2.2.1 t (by omega)
  · show KOk (if 4 + t = nf then K else G (4 + t))
    rw [if_neg (by omega)]; exact l1.2.2.2 t ht
  · refine LX_put ?_ (by omega)
    show LX m2 (12 + 6 * t) (if t = nf then K else G t)
    by_cases et : t = nf
    · rw [if_pos et, et]; exact hX
    · rw [if_neg et]
      exact LX_fr e.1 e.2.1 (fun j a1 a2 => (f2 j (by omega) (by omega)).trans (h2 j (by omega) (by omega) (by omega))) (l2.1 t (by omega))
  · refine LX_put ?_ (by omega)
    show LX m2 (38 + 6 * t) (if 4 + t = nf then K else G (4 + t))
    rw [if_neg (by omega)]
    exact LX_fr e.1 e.2.1 (fun j a1 a2 => (f2 j (by omega) (by omega)).trans (h2 j (by omega) (by omega) (by omega))) (l2.2 t ht)
  · refine LM_put ?_
    show LM m2 195 t (if t = nf then K else G t)
    by_cases et : t = nf
    · rw [if_pos et, et]; exact hM
    · rw [if_neg et]
      exact LM_frx (l1.2.2.1 t (by omega)).1 et fr (LM_fr (c := 195) (fun j a1 a2 => h2 j (by omega) (by omega) (by omega)) (l3.1 t (by omega)))
  · refine LM_put ?_
    show LM m2 195 (4 + t) (if 4 + t = nf then K else G (4 + t))
    rw [if_neg (by omega)]
    exact LM_frx (l1.2.2.2 t ht).1 (by omega) fr (LM_fr (c := 195) (fun j a1 a2 => h2 j (by omega) (by omega) (by omega)) (l3.2 t ht))
  · rw [mI_ne (by decide), f2 10 (by omega) (by omega)]; exact h3
  · rw [mI_ne (by decide), f2 36 (by omega) (by omega), h2 36 (by omega) (by omega) (by omega)]; exact l5
  · rw [mI_same, jup_same]
  · rw [mI_same, jup_ne (by decide), f3 10 (by omega) (by omega) (by omega) (by omega), h2 195 (by omega) (by omega) (by omega)]; exact l7
/-- a minder's law more -/
theorem RL_min (h1 : m1.2 = m.2) (h2 : ∀ c, 9 < c → c ≠ 36 → (c < 38 + 6 * nm ∨ 38 + 6 * nm + 5 < c) → mI m1 c = mI m c) (h3 : mI m1 36 1 = nI (nm + 1)) (hnm : nm < 8) (fr : FrR (4 + nm) m1 m2) (hK : KOk K) (hM : LM m2 195 (4 + nm) K) (hX : LX m2 (38 + 6 * nm) K) (h : RLw nf nm G m) : RLw nf (nm + 1) (fun t => if t = 4 + nm then K else G t) (cI m2 195 (jup (mI m2 195) 10 (nI (nm + 1)))) := by
  obtain ⟨l1, l2, l3, l4, l5, l6, l7⟩ := h
  have hnf := l1.1
  have e := m2_S (fr.1.trans h1)
  have f2 := fr.2.1
  have f3 := fr.2.2.1
  refine ⟨⟨hnf, hnm, fun t ht => ?_, fun t ht => ?_⟩, ⟨fun t ht => ?_, fun t ht => ?_⟩, ⟨fun t ht => ?_, fun t ht => ?_⟩, ?_, ?_, ?_, ?_⟩
  · show KOk (if t = 4 + nm then K else G t)
    rw [if_neg (by omega)]; exact l1.2.2.1 t ht
  · show KOk (if 4 + t = 4 + nm then K else G (4 + t))
    by_cases et : t = nm
    · rw [if_pos (by omega)]; exact hK
    · rw [if_neg (by omega)]; exact l1.2.2.2 t (by omega)
  · refine LX_put ?_ (by omega)
    show LX m2 (12 + 6 * t) (if t = 4 + nm then K else G t)
    rw [if_neg (by omega)]
    exact LX_fr e.1 e.2.1 (fun j a1 a2 => (f2 j (by omega) (by omega)).trans (h2 j (by omega) (by omega) (by omega))) (l2.1 t ht)
  · refine LX_put ?_ (by omega)
    show LX m2 (38 + 6 * t) (if 4 + t = 4 + nm then K else G (4 + t))
    by_cases et : t = nm
    · rw [if_pos (by omega), et]; exact hX
    · rw [if_neg (by omega)]
      exact LX_fr e.1 e.2.1 (fun j a1 a2 => (f2 j (by omega) (by omega)).trans (h2 j (by omega) (by omega) (by omega))) (l2.2 t (by omega))
  · refine LM_put ?_
    show LM m2 195 t (if t = 4 + nm then K else G t)
    rw [if_neg (by omega)]
    exact LM_frx (l1.2.2.1 t ht).1 (by omega) fr (LM_fr (c := 195) (fun j a1 a2 => h2 j (by omega) (by omega) (by omega)) (l3.1 t ht))
  · refine LM_put ?_
    show LM m2 195 (4 + t) (if 4 + t = 4 + nm then K else G (4 + t))
    by_cases et : t = nm
    · rw [if_pos (by omega), et]; exact hM
    · rw [if_neg (by omega)]
      exact LM_frx (l1.2.2.2 t (by omega)).1 (by omega) fr (LM_fr (c := 195) (fun j a1 a2 => h2 j (by omega) (by omega) (by omega)) (l3.2 t (by omega)))
  · rw [mI_ne (by decide), f2 10 (by omega) (by omega), h2 10 (by omega) (by omega) (by omega)]; exact l4
  · rw [mI_ne (by decide), f2 36 (by omega) (by omega)]; exact h3
  · rw [mI_same, jup_ne (by decide), f3 9 (by omega) (by omega) (by omega) (by omega), h2 195 (by omega) (by omega) (by omega)]; exact l6
  · rw [mI_same, jup_same]
theorem RT_0 (h1 : mI m 2 1 = 0) (h2 : mI m 195 1 = 0) : RT m := ⟨0, Nat.zero_le _, h1, h2, fun i hi => absurd hi (Nat.not_lt_zero _)⟩
end RDJ
