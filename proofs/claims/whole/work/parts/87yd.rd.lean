/-! ===== the laws of both, clause by clause ===== -/
def KR (B Bx : jmM) (x r : Nat) (F : Nat → Int32) (k : Nat) (p : Nat → Nat) (c t : Nat → List Int32) : Prop :=
  ∀ i, i < r → mI B 199 (60 * x + 5 * i) = mI Bx 6 i ∧ mI Bx 7 i = nI (p i) ∧ mI B 199 (60 * x + 5 * i + 1) = nI (p i) ∧ mI Bx 8 i = nI (p i + (c i).length) ∧ mI B 199 (60 * x + 5 * i + 2) = nI (p i + (c i).length) ∧ mI B 199 (60 * x + 5 * i + 3) = (if t i = [] then -1 else nI (p i + (c i).length)) ∧ mI Bx 9 i = nI (p i + (c i).length + (t i).length) ∧ mI B 199 (60 * x + 5 * i + 4) = nI (p i + (c i).length + (t i).length) ∧ p i + (c i).length + (t i).length ≤ k ∧ kSeg F (p i) (c i) ∧ kSeg F (p i + (c i).length) (t i) ∧ (∃ q, q ≤ 60 ∧ Tk false q (c i)) ∧ (t i ≠ [] → ∃ q, q ≤ 60 ∧ Tk true q (t i))
def NR1 (u v : Int32) (most : Int32) : Prop := u = v ∧ (v = -1 ∨ (0 ≤ v ∧ v ≤ most))
def NR (B Bx : jmM) (x : Nat) : Prop := NR1 (mI B 201 x) (mI Bx 4 7) 99 ∧ NR1 (mI B 202 x) (mI Bx 4 8) 9 ∧ NR1 (mI B 203 x) (mI Bx 4 9) 9999
def IV (B Bx : jmM) (x n : Nat) (F : Nat → Int32) (k : Nat) : Prop := (∃ r p c t, r ≤ n ∧ mI Bx 4 6 = nI r ∧ mI B 200 x = nI r ∧ KR B Bx x r F k p c t) ∧ NR B Bx x
section IVS
variable {B B' Bx : jmM} {x n r k k' : Nat} {F F' : Nat → Int32} {p : Nat → Nat} {c t : Nat → List Int32} {v kd : Int32}
theorem IV_congr (h : IV B Bx x n F k) (h1 : mI B' 199 = mI B 199) (h2 : mI B' 200 = mI B 200) (h3 : mI B' 201 = mI B 201) (h4 : mI B' 202 = mI B 202) (h5 : mI B' 203 = mI B 203) : IV B' Bx x n F k := by
  unfold IV KR NR at *
  rw [h1, h2, h3, h4, h5]; exact h
theorem bAdd_6 {a b e : Int32} : mI (bAdd Bx kd a b e) 6 = jup (mI Bx 6) (jx (mI Bx 4 6)) kd := rfl
theorem bAdd_7 {a b e : Int32} : mI (bAdd Bx kd a b e) 7 = jup (mI Bx 7) (jx (mI Bx 4 6)) a := rfl
theorem bAdd_8 {a b e : Int32} : mI (bAdd Bx kd a b e) 8 = jup (mI Bx 8) (jx (mI Bx 4 6)) b := rfl
theorem bAdd_9 {a b e : Int32} : mI (bAdd Bx kd a b e) 9 = jup (mI Bx 9) (jx (mI Bx 4 6)) e := rfl
theorem bAdd_4 {a b e : Int32} : mI (bAdd Bx kd a b e) 4 = jup (mI Bx 4) 6 (mI Bx 4 6 + 1) := rfl
theorem cSB_199 {a b g e : Int32} : mI (cSB B x r kd a b g e) 199 = s199 (mI B 199) (60 * x + 5 * r) kd a b g e := rfl
theorem cSB_200 {a b g e : Int32} : mI (cSB B x r kd a b g e) 200 = jup (mI B 200) x (nI (r + 1)) := rfl
theorem s199_o {f : Nat → Int32} {b j : Nat} {k a t c e : Int32} (h : j < b ∨ b + 5 ≤ j) : s199 f b k a t c e j = f j := by
  unfold s199
  rw [jup_ne (by omega), jup_ne (by omega), jup_ne (by omega), jup_ne (by omega), jup_ne (by omega)]
theorem s199_0 {f : Nat → Int32} {b : Nat} {k a t c e : Int32} : s199 f b k a t c e b = k := by
  unfold s199
  rw [jup_ne (by omega), jup_ne (by omega), jup_ne (by omega), jup_ne (by omega), jup_same]
theorem s199_1 {f : Nat → Int32} {b : Nat} {k a t c e : Int32} : s199 f b k a t c e (b + 1) = a := by
  unfold s199
  rw [jup_ne (by omega), jup_ne (by omega), jup_ne (by omega), jup_same]
theorem s199_2 {f : Nat → Int32} {b : Nat} {k a t c e : Int32} : s199 f b k a t c e (b + 2) = t := by
  unfold s199
  rw [jup_ne (by omega), jup_ne (by omega), jup_same]
theorem s199_3 {f : Nat → Int32} {b : Nat} {k a t c e : Int32} : s199 f b k a t c e (b + 3) = c := by
  unfold s199
  rw [jup_ne (by omega), jup_same]
theorem s199_4 {f : Nat → Int32} {b : Nat} {k a t c e : Int32} : s199 f b k a t c e (b + 4) = e := by
  unfold s199
  rw [jup_same]
/-- one rule more in both -/
theorem IV_add (h : IV B Bx x n F k) (hn : n < 12) {r : Nat} (hr : mI B 200 x = nI r) (hr2 : r < 12) {c1 t1 : List Int32} {a b g e : Int32} (ha : a = nI k) (hb : b = nI (k + c1.length)) (hg : g = if t1 = [] then -1 else nI (k + c1.length)) (he : e = nI (k + c1.length + t1.length)) (hk' : k' = k + c1.length + t1.length)
    (hF : ∀ j, j < k → F' j = F j) (s1 : kSeg F' k c1) (s2 : kSeg F' (k + c1.length) t1) (q1 : ∃ q, q ≤ 60 ∧ Tk false q c1) (q2 : t1 ≠ [] → ∃ q, q ≤ 60 ∧ Tk true q t1) : IV (cSB B x r kd a b g e) (bAdd Bx kd a b e) x (n + 1) F' k' := by
  obtain ⟨⟨r0, p, c, t, i1, i2, i3, i4⟩, nr⟩ := h
  have er : r0 = r := (nI_eqI (by omega) (by omega)).mp (i3.symm.trans hr)
  subst er
  have jr : jx (mI Bx 4 6) = r0 := by rw [i2, jx_nI (by omega)]
  refine ⟨⟨r0 + 1, fun i => if i = r0 then k else p i, fun i => if i = r0 then c1 else c i, fun i => if i = r0 then t1 else t i, by omega, ?_, ?_, ?_⟩, ?_⟩
  · rw [bAdd_4, jup_same, i2, nI_1]
  · rw [cSB_200, jup_same]
  · intro i hi
    by_cases ei : i = r0
    · subst ei
      simp only [if_true]
      rw [cSB_199, s199_0, s199_1, s199_2, s199_3, s199_4, bAdd_6, bAdd_7, bAdd_8, bAdd_9, jr, jup_same, jup_same, jup_same, jup_same]
      exact ⟨rfl, ha, ha, hb, hb, hg, he, he, by omega, s1, s2, q1, q2⟩
    · obtain ⟨d1, d2, d3, d4, d5, d6, d7, d8, d9, d10, d11, d12, d13⟩ := i4 i (by omega)
      simp only [if_neg ei]
      rw [cSB_199, s199_o (by omega), s199_o (by omega), s199_o (by omega), s199_o (by omega), s199_o (by omega), bAdd_6, bAdd_7, bAdd_8, bAdd_9, jr, jup_ne ei, jup_ne ei, jup_ne ei, jup_ne ei]
      exact ⟨d1, d2, d3, d4, d5, d6, d7, d8, by omega, kSeg_congr _ _ (fun j h1 h2 => (hF j (by omega)).symm) d10, kSeg_congr _ _ (fun j h1 h2 => (hF j (by omega)).symm) d11, d12, d13⟩
  · exact nr
/-- a number more in both -/
theorem IV_set (h : IV B Bx x n F k) {rc : Nat} (hc : (kd = 3 ∧ rc = 201) ∨ (kd = 4 ∧ rc = 202) ∨ (kd = 5 ∧ rc = 203)) (h0 : 0 ≤ v) (h1 : v ≤ rMost kd) : IV (cI B rc (jup (mI B rc) x v)) (bSet Bx kd v) x (n + 1) F k := by
  obtain ⟨⟨r, p, c, t, i1, i2, i3, i4⟩, n1, n2, n3⟩ := h
  have e4 : ∀ q, mI (bSet Bx kd v) 4 q = jup (mI Bx 4) (if kd = 3 then 7 else if kd = 4 then 8 else 9) v q := fun _ => rfl
  rcases hc with ⟨rfl, rfl⟩ | ⟨rfl, rfl⟩ | ⟨rfl, rfl⟩
  · refine ⟨⟨r, p, c, t, by omega, i2, i3, i4⟩, ⟨?_, Or.inr ⟨h0, h1⟩⟩, n2, n3⟩
    show jup (mI B 201) x v x = v
    exact jup_same
  · refine ⟨⟨r, p, c, t, by omega, i2, i3, i4⟩, n1, ⟨?_, Or.inr ⟨h0, h1⟩⟩, n3⟩
    show jup (mI B 202) x v x = v
    exact jup_same
  · refine ⟨⟨r, p, c, t, by omega, i2, i3, i4⟩, n1, n2, ?_, Or.inr ⟨h0, h1⟩⟩
    show jup (mI B 203) x v x = v
    exact jup_same
theorem NR1_has {a b m : Int32} (h : NR1 a b m) : 0 ≤ a ↔ b ≠ -1 := by
  obtain ⟨rfl, h | h⟩ := h
  · rw [h]; decide
  · refine ⟨fun _ e => ?_, fun _ => h.1⟩
    rw [e] at h; exact absurd h.1 (by decide)
end IVS
