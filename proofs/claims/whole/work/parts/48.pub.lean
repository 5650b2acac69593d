/-! ===== minds, begin ===== -/
section PUB6
variable {m : jmM} {x y z u v w : Int32}
/-- when references change at slots 1, 2 of pots alone -/
def RK (m m' : jmM) : Prop := ∀ b j, (isPt b → j ≠ 1 ∧ j ≠ 2) → mR m' b j = mR m b j
theorem PotL_k {S : Nat → Nat × Nat} {R R' : Nat → Nat → Option Nat} {a : Nat} (ha : ¬ isPt (a + 1)) (h : ∀ b j, (isPt b → j ≠ 1 ∧ j ≠ 2) → R' b j = R b j) (hp : PotL S R a) : PotL S R' a := by
  unfold PotL at hp ⊢
  rw [h a 0 (fun _ => by decide), h a 12 (fun _ => by decide), h a 13 (fun _ => by decide), h a 14 (fun _ => by decide), h a 15 (fun _ => by decide), h a 16 (fun _ => by decide), h a 17 (fun _ => by decide), h a 18 (fun _ => by decide), h (a + 1) 6 (fun e => absurd e ha), h (a + 1) 7 (fun e => absurd e ha)]
  exact hp
theorem LawL_k {S : Nat → Nat × Nat} {R R' : Nat → Nat → Option Nat} {a : Nat} (ha : a < 91) (h : ∀ b j, (isPt b → j ≠ 1 ∧ j ≠ 2) → R' b j = R b j) (hp : LawL S R a) : LawL S R' a := by
  have hn : ¬ isPt a := by unfold isPt; omega
  unfold LawL at hp ⊢
  rw [h a 0 (fun e => absurd e hn), h a 2 (fun e => absurd e hn), h a 3 (fun e => absurd e hn), h a 4 (fun e => absurd e hn), h a 5 (fun e => absurd e hn)]
  exact hp
theorem XLay_k {S : Nat → Nat × Nat} {R R' : Nat → Nat → Option Nat} (h : ∀ b j, (isPt b → j ≠ 1 ∧ j ≠ 2) → R' b j = R b j) (hx : XLay S R) : XLay S R' := by
  obtain ⟨x0, x1, x2, x3, x4, x5, x6, x7, x8, x9, x10⟩ := hx
  have k : ∀ b j, (b ≠ 91 ∧ b ≠ 102 ∧ b ≠ 132 ∧ b ≠ 146 ∧ b ≠ 160 ∧ b ≠ 174) → R' b j = R b j := fun b j hb => h b j (fun e => by unfold isPt at e; omega)
  refine ⟨?_, ?_, LawL_k (by decide) h x2, ?_, ?_, ?_, PotL_k (by unfold isPt; omega) h x6, PotL_k (by unfold isPt; omega) h x7, ?_, ?_, ?_⟩
  · unfold XL0 at x0 ⊢
    simp only [k 0 _ (by decide), k 1 _ (by decide), k 10 _ (by decide), k 36 _ (by decide), k 115 _ (by decide)]
    exact x0
  · unfold TapeL at x1 ⊢
    rw [k 2 _ (by decide)]; exact x1
  · intro q hq
    rw [k 11 _ (by decide)]
    exact ⟨(x3 q hq).1, LawL_k (by omega) h (x3 q hq).2⟩
  · intro q hq
    rw [k 37 _ (by decide)]
    exact ⟨(x4 q hq).1, LawL_k (by omega) h (x4 q hq).2⟩
  · unfold DeskL at x5 ⊢
    rw [k 86 _ (by decide), k 86 _ (by decide)]; exact x5
  · intro q hq
    obtain ⟨y1, y2, y3, y4, y5, y6, y7⟩ := x8 q hq
    refine ⟨?_, y2, ?_, ?_, ?_, PotL_k (by unfold isPt; omega) h y6, y7⟩
    · rw [k 113 _ (by decide)]; exact y1
    · rw [k _ _ (by omega)]; exact y3
    · rw [k _ _ (by omega)]; exact y4
    · rw [k _ _ (by omega)]; exact y5
  · intro q hq
    rw [k 114 _ (by decide)]; exact x9 q hq
  · unfold SliL at x10 ⊢
    simp only [k 121 _ (by decide)]
    exact x10
theorem MLay_k {S : Nat → Nat × Nat} {R R' : Nat → Nat → Option Nat} (h : ∀ b j, (isPt b → j ≠ 1 ∧ j ≠ 2) → R' b j = R b j) (hx : MLay S R 195) : MLay S R' 195 := by
  have k : ∀ j, R' 195 j = R 195 j := fun j => h 195 j (fun e => by unfold isPt at e; omega)
  unfold MLay at hx ⊢
  simp only [k]
  exact hx
end PUB6
