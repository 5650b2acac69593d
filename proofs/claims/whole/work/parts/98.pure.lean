theorem pure_law (L : Nat) (xs : Nat → Int32) (hL : L ≤ 5120) : ∃ m1 : jmM, mN m1 ≤ 600000 ∧ mZ m1 ≤ 7302250 ∧ AW 1000 289 0 (jent [.ref jScr] 4) [] (jm0 L xs) (fun v m2 => v = some (.int 1) ∧ m2 = m1) := by
  sorry
