/-! ===== what X's reading leaves as it was ===== -/
def FrB (B B' : jmM) : Prop := B'.2 = B.2 ∧ ∀ c, (c < 4 ∨ c = 5 ∨ 9 < c) → mI B' c = mI B c
section FRB
variable {B B' : jmM} {T : Nat → Int32} {u kd v x y e : Int32} {s : RS} {m : jmM} {z : Nat}
theorem FrB_refl : FrB B B := ⟨rfl, fun _ _ => rfl⟩
theorem FrB_set : FrB B (bSet B kd v) := ⟨rfl, fun c hc => by unfold bSet; rw [mI_ne (by omega)]⟩
theorem FrB_add : FrB B (bAdd B kd x y e) := ⟨rfl, fun c hc => by unfold bAdd; rw [mI_ne (by omega), mI_ne (by omega), mI_ne (by omega), mI_ne (by omega), mI_ne (by omega)]⟩
theorem FrB_trans {C : jmM} (h1 : FrB B B') (h2 : FrB B' C) : FrB B C := ⟨h2.1.trans h1.1, fun c hc => (h2.2 c hc).trans (h1.2 c hc)⟩
theorem FrB_clause {n : Nat} : FrB B (rClause T u n B s).1 := by
  unfold rClause
  split
  · exact FrB_refl
  split
  · exact FrB_refl
  split
  · exact FrB_set
  · exact FrB_add
theorem FrB_lp : ∀ f n B s, FrB B (rLp T u f n B s).1
  | 0, n, B, s => FrB_refl
  | f + 1, n, B, s => by
    unfold rLp
    split
    · split
      · exact FrB_clause
      · exact FrB_trans FrB_clause (FrB_lp f (n + 1) _ _)
    · exact FrB_clause
theorem rGo_fr : FrB (rB0 m u) (rGo m z u).1 := FrB_lp 13 0 _ _
theorem rEd_fr : (rEd (rGo m z u)).2 = m.2 ∧ ∀ c, (c = 0 ∨ c = 3 ∨ 9 < c) → mI (rEd (rGo m z u)) c = mI m c := by
  have h := rGo_fr (m := m) (z := z) (u := u)
  generalize rGo m z u = p at *
  obtain ⟨h1, h2⟩ := h
  refine ⟨?_, fun c hc => ?_⟩
  · show p.1.2 = m.2
    rw [h1]; rfl
  · unfold rEd rM
    rw [mI_ne (by omega), mI_ne (by omega), mI_ne (by omega), mI_ne (by omega), h2 c (by omega)]
    unfold rB0
    rw [mI_ne (by omega), mI_ne (by omega)]
theorem rGo_S : mS (rGo m z u).1 = mS m ∧ mR (rGo m z u).1 = mR m := by
  have h := (rGo_fr (m := m) (z := z) (u := u)).1
  have e : (rB0 m u).2 = m.2 := rfl
  rw [e] at h
  generalize (rGo m z u).1 = q at *
  exact ⟨by unfold mS; rw [h], by unfold mR; rw [h]⟩
end FRB
