/-! ===== the law that was read, in both ===== -/
section CLH
variable {B Bx : jmM} {x n k : Nat} {F FM : Nat → Int32}
theorem kSeg_map {F G : Nat → Int32} : ∀ (c : List Int32) (i : Nat), (∀ j, i ≤ j → j < i + c.length → G j = kTr (F j)) → kSeg F i c → kSeg G i (c.map kTr)
  | [], _, _, _ => trivial
  | y :: c, i, h, hs => ⟨(h i (Nat.le_refl _) (by simp)).trans (by rw [hs.1]), kSeg_map c (i + 1) (fun j h1 h2 => h j (by omega) (by simp only [List.length_cons]; omega)) hs.2⟩
theorem jpos_ge {v : Int32} : (if 0 ≤ v then v else 0) = jpos v := by
  unfold jpos
  by_cases h : 0 < v
  · rw [if_pos h, if_pos (Int32.le_of_lt h)]
  · rw [if_neg h]
    split
    · next e => exact Int32.le_antisymm (Int32.not_lt.mp h) e
    · rfl
theorem jpos_b {u v m : Int32} (hm : 0 ≤ m) (h : NR1 u v m) : 0 ≤ jpos v ∧ jpos v ≤ m := by
  unfold jpos
  split
  · next e =>
    refine ⟨Int32.le_of_lt e, ?_⟩
    rcases h.2 with h | h
    · rw [h] at e; exact absurd e (by decide)
    · exact h.2
  · exact ⟨Int32.le_refl _, hm⟩
theorem IV_law (hI : IV B Bx x n F k) (hn : n ≤ 12) (hk : k ≤ 400) (hF : ∀ j, j < k → FM j = kTr (F j)) : ∃ K, KOk K ∧
    (∀ m : jmM, mI m 199 = mI B 199 → mI m 200 x = mI B 200 x → mI m 201 x = jpos (mI B 201 x) → mI m 202 x = jpos (mI B 202 x) → mI m 203 x = jpos (mI B 203 x) → (∀ j, j < 400 → mI m 197 (400 * x + j) = FM j) → LM m 195 x K) ∧
    ∀ (m : jmM) b, LawL (mS m) (mR m) b → mI m b 6 = mI Bx 4 6 → mI m b 7 = mI Bx 4 7 → mI m b 8 = mI Bx 4 8 → mI m b 9 = mI Bx 4 9 → (∀ i, i < 12 → mI m (b + 2) i = mI Bx 6 i ∧ mI m (b + 3) i = mI Bx 7 i ∧ mI m (b + 4) i = mI Bx 8 i ∧ mI m (b + 5) i = mI Bx 9 i) → (∀ i, i < 400 → mI m (b + 1) i = F i) → LX m b K := by
  obtain ⟨⟨r, p, c, t, i1, i2, i3, i4⟩, n1, n2, n3⟩ := hI
  refine ⟨((r, mI Bx 6, c, t), jpos (mI Bx 4 7), jpos (mI Bx 4 8), jpos (mI Bx 4 9)), ⟨?_, ?_, ?_, jpos_b (by decide) n1, jpos_b (by decide) n2, jpos_b (by decide) n3⟩, ?_, ?_⟩
  · show r ≤ 12; omega
  · intro i hi
    exact (i4 i hi).2.2.2.2.2.2.2.2.2.2.2.1
  · intro i hi
    exact (i4 i hi).2.2.2.2.2.2.2.2.2.2.2.2
  · intro m m1 m2 m3 m4 m5 m6
    refine ⟨m2.trans i3, m3.trans (by rw [n1.1]; rfl), m4.trans (by rw [n2.1]; rfl), m5.trans (by rw [n3.1]; rfl), p, fun i hi => ?_⟩
    obtain ⟨d1, d2, d3, d4, d5, d6, d7, d8, d9, d10, d11, d12, d13⟩ := i4 i hi
    have hd : p i + (c i).length + (t i).length ≤ k := d9
    refine ⟨(congrFun m1 _).trans d1, (congrFun m1 _).trans d3, (congrFun m1 _).trans d5, (congrFun m1 _).trans d6, (congrFun m1 _).trans d8, ?_, ?_, ?_⟩
    · show p i + (c i).length + (t i).length ≤ 400
      omega
    · exact kSeg_map (c i) (p i) (fun j h1 h2 => (m6 j (by omega)).trans (hF j (by omega))) d10
    · show kSeg (fun j => mI m 197 (400 * x + j)) (p i + (c i).length) ((t i).map kTr)
      exact kSeg_map (t i) _ (fun j h1 h2 => (m6 j (by omega)).trans (hF j (by omega))) d11
  · intro m b m0 m1 m2 m3 m4 m5 m6
    refine ⟨m0, m1.trans i2, by rw [m2]; rfl, by rw [m3]; rfl, by rw [m4]; rfl, p, fun i hi => ?_⟩
    obtain ⟨d1, d2, d3, d4, d5, d6, d7, d8, d9, d10, d11, d12, d13⟩ := i4 i hi
    have hi' : i < r := hi
    obtain ⟨e1, e2, e3, e4⟩ := m5 i (by omega)
    refine ⟨e1, e2.trans d2, e3.trans d4, e4.trans d7, ?_, ?_, ?_⟩
    · show p i + (c i).length + (t i).length ≤ 400
      omega
    · exact kSeg_congr (c i) (p i) (fun j h1 h2 => (m6 j (by omega)).symm) d10
    · show kSeg (mI m (b + 1)) (p i + (c i).length) (t i)
      exact kSeg_congr (t i) _ (fun j h1 h2 => (m6 j (by omega)).symm) d11
end CLH
