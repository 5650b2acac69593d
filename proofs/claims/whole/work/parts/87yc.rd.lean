/-! ===== what X finds is never below 0 ===== -/
def fq (s : RS) : Prop := ∃ n, n < 10000 ∧ s.2.2.1 = nI n
def GQ (z : Nat) (g : RS → RS) : Prop := ∀ s, rOk z s → fq s → rOk z (g s) ∧ fq (g s)
section FQS
variable {B : jmM} {T : Nat → Int32} {z p dp : Nat} {u x y a b : Int32} {s : RS} {inner sub inF inT sum : RS → RS} {w : List Int32}
theorem rFail_q {k : Nat} (hp : p ≤ 1000) (hk : k < 8) (h : fq s) : fq (rFail s p (nI k)) := by
  unfold rFail; split
  · exact ⟨1 + 8 * p + k, by omega, k8 hp k hk⟩
  · exact h
theorem rPut_q (h : fq s) : fq (rPut s x) := by
  unfold fq at *; rw [rPut_f]; exact h
theorem rTold_q (hp : p ≤ 1000) (h : fq s) : fq (rTold s p) := by
  unfold rTold; split
  · exact rFail_q (k := 3) (s := (s.1, s.2.1 + 1, s.2.2)) hp (by decide) h
  · exact h
theorem rOp_q (hp : s.1 ≤ 1000) (h : fq s) : fq (rOp dp s) := by
  unfold rOp; split
  · exact rFail_q (k := 2) hp (by decide) h
  · exact h
theorem rExp_q (hp : rSk T s.1 ≤ 1000) (h : fq s) : fq (rExp T x s) := by
  unfold rExp; split
  · exact h
  · exact rFail_q (k := 0) (s := (rSk T s.1, s.2)) hp (by decide) h
theorem rNum_q (hp : s.1 ≤ 1000) (h : fq s) : fq (rNum T x s) := by
  unfold rNum; split
  · exact rFail_q (k := 0) (s := (s.1 + (rNm T s.1).1, s.2)) hp (by decide) h
  · split
    · exact rFail_q (k := 1) (s := (s.1 + (rNm T s.1).1, s.2)) hp (by decide) h
    · exact h
theorem rWs_q (hp : s.1 ≤ 1000) (h : fq s) : fq (rWs T u s) := by
  unfold rWs; split
  · exact rFail_q (k := 0) hp (by decide) h
  · exact h
theorem rSign_q (hp : rSk T s.1 ≤ 1000) (h : fq s) : fq (rSign T s) := by
  unfold rSign; split
  · exact rTold_q (s := (rSk T s.1, s.2)) hp h
  · exact rFail_q (k := 0) (s := (rSk T s.1, s.2)) hp (by decide) h
theorem GQ_val (h : XB B T z) (hi : GQ z inner) : GQ z (rVal T u dp inner) := by
  intro s hs hq
  have hz := h.2.2.2.2.2.1
  have k1 : rSk T s.1 ≤ z := rSk_z h hs.1
  have h1 : rOk z (rSk T s.1, s.2) := ⟨k1, hs.2⟩
  unfold rVal
  split
  · next e1 =>
    have k2 : rSk T s.1 < z := T_lt h (by rw [e1]; decide)
    have o1 := rOp_ok (dp := dp) h1
    have o2 : fq (rOp dp (rSk T s.1, s.2)) := rOp_q (s := (rSk T s.1, s.2)) (show rSk T s.1 ≤ 1000 by omega) hq
    split
    · obtain ⟨i1, i2⟩ := hi (rSk T s.1 + 1, (rOp dp (rSk T s.1, s.2)).2) ⟨k2, o1.2⟩ o2
      have := rSk_z h i1.1
      exact ⟨rExp_ok h (by decide) i1, rExp_q (by omega) i2⟩
    · exact ⟨o1, o2⟩
  · split
    · have n1 := rNum_ok (x := 99999) h h1
      have n2 : fq (rNum T 99999 (rSk T s.1, s.2)) := rNum_q (s := (rSk T s.1, s.2)) (show rSk T s.1 ≤ 1000 by omega) hq
      exact ⟨rTold_ok (rPut_ok n1), rTold_q (by omega) (rPut_q n2)⟩
    · have w2 : fq (rWs T u (rSk T s.1, s.2)) := rWs_q (s := (rSk T s.1, s.2)) (show rSk T s.1 ≤ 1000 by omega) hq
      refine ⟨rTold_ok ⟨rEnd_z h k1, ?_⟩, rTold_q (by omega) ?_⟩
      · exact rPut_k (by rw [rWs_k]; exact hs.2)
      · exact rPut_q (x := -1 - nI (rWn T (rSk T s.1))) w2
theorem GQ_binL (h : XB B T z) (ha : a ≠ -1) (hb : b ≠ -1) (hsub : GQ z sub) : ∀ n s, rOk z s → fq s → rOk z (rBinL T a x b y sub n s) ∧ fq (rBinL T a x b y sub n s)
  | 0, s, hs, hq => ⟨hs, hq⟩
  | n + 1, s, hs, hq => by
    unfold rBinL
    split
    · split
      · next e =>
        obtain ⟨i1, i2⟩ := hsub (rSk T s.1 + 1, s.2) ⟨T_lt h (by rw [e]; exact ha), hs.2⟩ hq
        exact GQ_binL h ha hb hsub n _ (rPut_ok i1) (rPut_q i2)
      · split
        · next e =>
          obtain ⟨i1, i2⟩ := hsub (rSk T s.1 + 1, s.2) ⟨T_lt h (by rw [e]; exact hb), hs.2⟩ hq
          exact GQ_binL h ha hb hsub n _ (rPut_ok i1) (rPut_q i2)
        · exact ⟨⟨rSk_z h hs.1, hs.2⟩, hq⟩
    · exact ⟨hs, hq⟩
theorem GQ_term (h : XB B T z) (hi : GQ z inner) : GQ z (rTerm T u dp inner) := fun s hs hq => by
  obtain ⟨i1, i2⟩ := GQ_val (u := u) (dp := dp) h hi s hs hq
  exact GQ_binL h (by decide) (by decide) (GQ_val h hi) 400 _ i1 i2
theorem GQ_sumW (h : XB B T z) (hi : GQ z inner) : GQ z (rSumW T u dp inner) := fun s hs hq => by
  obtain ⟨i1, i2⟩ := GQ_term (u := u) (dp := dp) h hi s hs hq
  exact GQ_binL h (by decide) (by decide) (GQ_term h hi) 400 _ i1 i2
theorem GQ_sum (h : XB B T z) : ∀ k, GQ z (rSum T u k)
  | 0 => GQ_sumW (inner := id) h (fun _ hs hq => ⟨hs, hq⟩)
  | k + 1 => GQ_sumW h (GQ_sum h k)
theorem GQ_fact (h : XB B T z) (hsum : GQ z sum) (hF : GQ z inF) (hT : GQ z inT) : GQ z (rFactW T dp sum inF inT) := by
  intro s hs hq
  have hz := h.2.2.2.2.2.1
  have k1 : rSk T s.1 ≤ z := rSk_z h hs.1
  have h1 : rOk z (rSk T s.1, s.2) := ⟨k1, hs.2⟩
  have o1 := rOp_ok (dp := dp) h1
  have o2 : fq (rOp dp (rSk T s.1, s.2)) := rOp_q (s := (rSk T s.1, s.2)) (show rSk T s.1 ≤ 1000 by omega) hq
  unfold rFactW
  split
  · split
    · obtain ⟨i1, i2⟩ := hF (rEnd T (rSk T s.1), s.2) ⟨rEnd_z h k1, hs.2⟩ hq
      exact ⟨rPut_ok i1, rPut_q i2⟩
    · exact ⟨o1, o2⟩
  · split
    · next e5 =>
      split
      · obtain ⟨i1, i2⟩ := hT (rSk T s.1 + 1, s.2) ⟨T_lt h (by rw [e5]; decide), hs.2⟩ hq
        have := rSk_z h i1.1
        exact ⟨rExp_ok h (by decide) i1, rExp_q (by omega) i2⟩
      · exact ⟨o1, o2⟩
    · obtain ⟨i1, i2⟩ := hsum (rSk T s.1, s.2) h1 hq
      have := rSk_z h i1.1
      have s1 := rSign_ok h i1
      have s2 : fq (rSign T (sum (rSk T s.1, s.2))) := rSign_q (by omega) i2
      split
      · obtain ⟨j1, j2⟩ := hsum _ s1 s2
        exact ⟨rPut_ok j1, rPut_q j2⟩
      · exact ⟨s1, s2⟩
theorem GQ_wordL (h : XB B T z) (hsub : GQ z sub) : ∀ n s, rOk z s → fq s → rOk z (rWordL T w x sub n s) ∧ fq (rWordL T w x sub n s)
  | 0, s, hs, hq => ⟨hs, hq⟩
  | n + 1, s, hs, hq => by
    unfold rWordL
    split
    · obtain ⟨i1, i2⟩ := hsub (rEnd T (rSk T s.1), s.2) ⟨rEnd_z h (rSk_z h hs.1), hs.2⟩ hq
      exact GQ_wordL h hsub n _ (rPut_ok i1) (rPut_q i2)
    · exact ⟨⟨rSk_z h hs.1, hs.2⟩, hq⟩
theorem GQ_part (h : XB B T z) (hi : GQ z sub) : GQ z (rPart T sub) := fun s hs hq => by
  obtain ⟨i1, i2⟩ := hi s hs hq
  exact GQ_wordL h hi 400 _ i1 i2
theorem GQ_test (h : XB B T z) (hi : GQ z sub) : GQ z (rTest T sub) := fun s hs hq => by
  obtain ⟨i1, i2⟩ := GQ_part h hi s hs hq
  exact GQ_wordL h (GQ_part h hi) 400 _ i1 i2
theorem GQ_factk (h : XB B T z) : ∀ k, GQ z (rFact T u k)
  | 0 => GQ_fact (inF := id) (inT := id) h (GQ_sum h 0) (fun _ hs hq => ⟨hs, hq⟩) (fun _ hs hq => ⟨hs, hq⟩)
  | k + 1 => GQ_fact h (GQ_sum h (k + 1)) (GQ_factk h k) (GQ_test h (GQ_factk h k))
theorem GQ_if (h : XB B T z) : GQ z (rIf T u) := fun s hs hq => by
  unfold rIf; split
  · exact GQ_test h (GQ_factk h 10) (rEnd T (rSk T s.1), s.2) ⟨rEnd_z h (rSk_z h hs.1), hs.2⟩ hq
  · exact ⟨⟨rSk_z h hs.1, hs.2⟩, hq⟩
theorem GQ_clause (h : XB B T z) {n : Nat} (hs : rOk z s) (hq : fq s) : rOk z (rClause T u n B s).2 ∧ fq (rClause T u n B s).2 := by
  have hz := h.2.2.2.2.2.1
  have k1 : rSk T s.1 ≤ z := rSk_z h hs.1
  have h1 : rOk z (rSk T s.1, s.2) := ⟨k1, hs.2⟩
  have k2 := rEnd_z h k1
  have k3 := rSk_z h k2
  unfold rClause
  split
  · exact ⟨rFail_ok h1, rFail_q (k := 0) (s := (rSk T s.1, s.2)) (by omega) (by decide) hq⟩
  split
  · exact ⟨rFail_ok h1, rFail_q (k := 4) (s := (rSk T s.1, s.2)) (by omega) (by decide) hq⟩
  split
  · exact ⟨rNum_ok h ⟨k3, hs.2⟩, rNum_q (s := (rSk T (rEnd T (rSk T s.1)), s.2)) (show rSk T (rEnd T (rSk T s.1)) ≤ 1000 by omega) hq⟩
  · obtain ⟨i1, i2⟩ := GQ_sum (u := u) h 10 (rEnd T (rSk T s.1), s.2) ⟨k2, hs.2⟩ hq
    exact GQ_if h _ i1 i2
theorem XB_clause {n : Nat} (h : XB B T z) : XB (rClause T u n B s).1 T z := by
  have f := FrB_clause (T := T) (u := u) (n := n) (B := B) (s := s)
  refine XB_congr h ?_ ?_ ?_ ?_
  · unfold mS; rw [f.1]
  · unfold mR; rw [f.1]
  · rw [f.2 2 (by omega)]
  · rw [f.2 3 (by omega)]
theorem GQ_lp : ∀ f n B s, XB B T z → rOk z s → fq s → fq (rLp T u f n B s).2
  | 0, n, B, s, h, hs, hq => hq
  | f + 1, n, B, s, h, hs, hq => by
    obtain ⟨i1, i2⟩ := GQ_clause (u := u) (n := n) h hs hq
    have hx := XB_clause (u := u) (n := n) (s := s) h
    have hz := h.2.2.2.2.2.1
    have k1 := rSk_z hx i1.1
    unfold rLp
    split
    · split
      · exact i2
      · exact GQ_lp f (n + 1) _ _ hx (rExp_ok hx (by decide) ⟨k1, i1.2⟩) (rExp_q (s := (rSk T (rClause T u n B s).2.1, (rClause T u n B s).2.2)) (by have := rSk_z hx (show rSk T (rClause T u n B s).2.1 ≤ z from k1); show rSk T (rSk T (rClause T u n B s).2.1) ≤ 1000; omega) i2)
    · exact i2
theorem rLp_kp : ∀ f n B s, s.2.2.1 ≠ 0 → (rLp T u f n B s).2.2.2.1 = s.2.2.1
  | 0, n, B, s, h => rfl
  | f + 1, n, B, s, h => by
    have e := rClause_kp (T := T) (u := u) (n := n) (B := B) h
    unfold rLp
    rw [if_neg (by rw [e]; exact h), e]
end FQS
