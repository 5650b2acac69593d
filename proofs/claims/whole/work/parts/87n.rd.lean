/-! ===== what X's facts, parts, tests come to when nothing is wrong ===== -/
section GDT
variable {B : jmM} {T : Nat → Int32} {z : Nat} {u : Int32} {dp : Nat} {inF inT sum sub : RS → RS} {i : Nat}
theorem rSign_good {s : RS} {tt : Nat} (h1 : rSk T s.1 ≤ 1000) (g2 : s.2.1 = nI tt) (g3 : tt ≤ 60) (h : (rSign T s).2.2.1 = 0) : (T (rSk T s.1) = 60 ∨ T (rSk T s.1) = 61 ∨ T (rSk T s.1) = 62) ∧ tt + 1 ≤ 60 ∧ s.2.2.1 = 0 ∧ rSign T s = (if rAlso T (rSk T s.1) then rSk T s.1 + 2 else rSk T s.1 + 1, nI (tt + 1), s.2.2) := by
  unfold rSign at *
  by_cases e : T (rSk T s.1) = 60 ∨ T (rSk T s.1) = 61 ∨ T (rSk T s.1) = 62
  · rw [if_pos e] at h ⊢
    obtain ⟨t1, t2, t3⟩ := rTold_good (tt := tt) (p := rSk T s.1) (s := (rSk T s.1, s.2)) h1 g2 g3 h
    rw [t2]
    exact ⟨e, t1, t3, rfl⟩
  · rw [if_neg e] at h
    exact absurd h (rFail_f (k := 0) h1 (by decide))
theorem rSgn_op : kCmpOp (rSgn T i) := by
  unfold rSgn kCmpOp
  split
  · split
    · exact Or.inr (Or.inl rfl)
    · exact Or.inl rfl
  · split
    · split
      · exact Or.inr (Or.inr (Or.inr (Or.inl rfl)))
      · exact Or.inr (Or.inr (Or.inr (Or.inr rfl)))
    · exact Or.inr (Or.inr (Or.inl rfl))
theorem GD_fact (h : XB B T z) (hd : dp ≤ 10) (kF : kp inF) (kT : kp inT) (kS : kp sum) (hs : GD false z sum) (hF : dp < 10 → GD true z inF) (hT : dp < 10 → GD true z inT) : GD true z (rFactW T dp sum inF inT) := by
  intro s tt h0 hf
  obtain ⟨g1, g2, g3, g4, g5⟩ := id h0
  have hz := h.2.2.2.2.2.1
  have k1 : rSk T s.1 ≤ z := rSk_z h g4
  have k2 := rSk_ge (T := T) (i := s.1)
  unfold rFactW at *
  by_cases e1 : rMat T (jW 13) (rSk T s.1) = true
  · rw [if_pos e1] at hf ⊢
    by_cases e2 : (rOp dp (rSk T s.1, s.2)).2.2.1 = 0
    · obtain ⟨hd2, e3⟩ := rOp_f (s := (rSk T s.1, s.2)) (show rSk T s.1 ≤ 1000 by omega) e2
      rw [if_pos e2] at hf ⊢
      have hl : rLet (T (rSk T s.1)) = true := rMat_let (by decide) e1
      have k3 : rSk T s.1 < z := T_lt h (fun e => by rw [e] at hl; exact Bool.noConfusion hl)
      have k4 := rEnd_gt (T := T) (i := rSk T s.1) (by omega) hl
      have h1 : G0 z (rEnd T (rSk T s.1), s.2) tt := ⟨g1, g2, g3, rEnd_z h k1, by show s.2.2.2.1 ≤ rEnd T (rSk T s.1); omega⟩
      have hk : (inF (rEnd T (rSk T s.1), s.2)).2.2.1 = 0 := by rw [rPut_f] at hf; exact hf
      obtain ⟨c, q, a1, a2, a3, a4, a5, a6, a7, a8⟩ := hF hd2 _ tt h1 hk
      have a4 : (inF (rEnd T (rSk T s.1), s.2)).2.2.2.1 = s.2.2.2.1 + c.length := a4
      have a7 : c.length + rEnd T (rSk T s.1) ≤ (inF (rEnd T (rSk T s.1), s.2)).1 := a7
      have hk4 : (inF (rEnd T (rSk T s.1), s.2)).2.2.2.1 < 400 := by omega
      rw [rPut_lt hk4]
      refine ⟨c ++ [-20], q, Tk_not a1, a2, a3, ?_, ?_, fun j hj => (jup_ne (by omega)).trans (a6 j hj), ?_, a8⟩
      · show _ + 1 = _; simp only [List.length_append, List.length_singleton]; omega
      · show kSeg (jup _ _ _) _ _
        rw [kSeg_app]
        exact ⟨kSeg_jup a5 (by show s.2.2.2.1 + c.length ≤ _; omega), by rw [← a4]; exact jup_same, trivial⟩
      · simp only [List.length_append, List.length_singleton]; show c.length + 1 + s.1 ≤ (inF _).1; omega
    · rw [if_neg e2] at hf; exact absurd hf e2
  · rw [if_neg e1] at hf ⊢
    by_cases e5 : T (rSk T s.1) = 91
    · rw [if_pos e5] at hf ⊢
      by_cases e2 : (rOp dp (rSk T s.1, s.2)).2.2.1 = 0
      · obtain ⟨hd2, e3⟩ := rOp_f (s := (rSk T s.1, s.2)) (show rSk T s.1 ≤ 1000 by omega) e2
        rw [if_pos e2] at hf ⊢
        have k3 : rSk T s.1 < z := T_lt h (by rw [e5]; decide)
        have h1 : G0 z (rSk T s.1 + 1, s.2) tt := ⟨g1, g2, g3, k3, by show s.2.2.2.1 ≤ rSk T s.1 + 1; omega⟩
        have hk : (inT (rSk T s.1 + 1, s.2)).2.2.1 = 0 := by
          rcases Classical.em ((inT (rSk T s.1 + 1, s.2)).2.2.1 = 0) with e | e
          · exact e
          · exact absurd hf (by rw [rExp_kp e]; exact e)
        obtain ⟨c, q, a1, a2, a3, a4, a5, a6, a7, a8⟩ := hT hd2 _ tt h1 hk
        have a8' := rSk_z h a8
        have a9 := rSk_ge (T := T) (i := (inT (rSk T s.1 + 1, s.2)).1)
        obtain ⟨x1, x2, x3⟩ := rExp_good (x := 93) (s := inT (rSk T s.1 + 1, s.2)) (by omega) hf
        rw [x2]
        have a7 : c.length + (rSk T s.1 + 1) ≤ (inT (rSk T s.1 + 1, s.2)).1 := a7
        exact ⟨c, q, a1, a2, a3, a4, a5, a6, by show c.length + s.1 ≤ rSk T _ + 1; omega, T_lt h (by rw [x1]; decide)⟩
      · rw [if_neg e2] at hf; exact absurd hf e2
    · rw [if_neg e5] at hf ⊢
      by_cases e6 : (rSign T (sum (rSk T s.1, s.2))).2.2.1 = 0
      · rw [if_pos e6] at hf ⊢
        have h1 : G0 z (rSk T s.1, s.2) tt := ⟨g1, g2, g3, k1, by show s.2.2.2.1 ≤ rSk T s.1; omega⟩
        have f1 : (sum (rSk T s.1, s.2)).2.2.1 = 0 := by
          rcases Classical.em ((sum (rSk T s.1, s.2)).2.2.1 = 0) with e | e
          · exact e
          · exact absurd e6 (by rw [rSign_kp e]; exact e)
        obtain ⟨c, q, ha⟩ := hs _ tt h1 f1
        have g0 := GA_0 ha h1 f1
        have m1 := rSk_z h g0.2.2.2.1
        have m2 := rSk_ge (T := T) (i := (sum (rSk T s.1, s.2)).1)
        obtain ⟨s1, s2, s3, s4⟩ := rSign_good (by omega) g0.2.1 g0.2.2.1 e6
        have m3 : rSk T (sum (rSk T s.1, s.2)).1 < z := T_lt h (by rcases s1 with e | e | e <;> rw [e] <;> decide)
        have f2 : (sum (rSign T (sum (rSk T s.1, s.2)))).2.2.1 = 0 := by rw [rPut_f] at hf; exact hf
        have m4 := (rSign_ok h (s := sum (rSk T s.1, s.2)) ⟨g0.2.2.2.1, by have := g0.2.2.2.2; have := g0.2.2.2.1; omega⟩).1
        have m5 : rSk T (sum (rSk T s.1, s.2)).1 + 1 ≤ (rSign T (sum (rSk T s.1, s.2))).1 := by
          rw [s4]; show rSk T (sum (rSk T s.1, s.2)).1 + 1 ≤ (if rAlso T (rSk T (sum (rSk T s.1, s.2)).1) then rSk T (sum (rSk T s.1, s.2)).1 + 2 else rSk T (sum (rSk T s.1, s.2)).1 + 1); split <;> omega
        rw [s4] at f2 m4 m5 ⊢
        generalize (if rAlso T (rSk T (sum (rSk T s.1, s.2)).1) then rSk T (sum (rSk T s.1, s.2)).1 + 2 else rSk T (sum (rSk T s.1, s.2)).1 + 1) = i1 at f2 m4 m5 ⊢
        have m5 : rSk T (sum (rSk T s.1, s.2)).1 + 1 ≤ i1 := m5
        obtain ⟨c2, q2, hb⟩ := hs (i1, nI (tt + q + 1), (sum (rSk T s.1, s.2)).2.2) (tt + q + 1) ⟨s3, rfl, s2, m4, by have := g0.2.2.2.2; show (sum (rSk T s.1, s.2)).2.2.2.1 ≤ _; omega⟩ f2
        have h3 := GA_step (b := true) (e := 1) (x := rSgn T (rSk T (sum (rSk T s.1, s.2)).1)) h1 ha (by omega) _ hb hz (fun a1 a2 => Tk_cmp a1 a2 rSgn_op)
        obtain ⟨a1, a2, a3, a4, a5, a6, a7, a8⟩ := h3
        exact ⟨_, _, a1, a2, a3, a4, a5, a6, by have a7 : _ + rSk T s.1 ≤ _ := a7; omega, a8⟩
      · rw [if_neg e6] at hf; exact absurd hf e6
theorem GD_wordL {t : Nat} {o : Int32} (h : XB B T z) (ht : t < 16) (ho : o = -21 ∨ o = -22) (hsub : GD true z sub) {s0 : RS} {tt : Nat} (h0 : G0 z s0 tt) : ∀ n s c q, GA true z s0 tt s c q → s.2.2.1 = 0 → (rWordL T (jW t) o sub n s).2.2.1 = 0 → ∃ c q, GA true z s0 tt (rWordL T (jW t) o sub n s) c q
  | 0, s, c, q, hs, hf, hr => ⟨c, q, hs⟩
  | n + 1, s, c, q, hs, hf, hr => by
    have hz := h.2.2.2.2.2.1
    have g0 := GA_0 hs h0 hf
    have k1 : rSk T s.1 ≤ z := rSk_z h g0.2.2.2.1
    have k2 := rSk_ge (T := T) (i := s.1)
    rw [rWordL] at hr ⊢
    by_cases e1 : rTW T (jW t) s = true
    · rw [if_pos e1] at hr ⊢
      have e2 : rMat T (jW t) (rSk T s.1) = true := by
        unfold rTW at e1
        rw [Bool.and_eq_true] at e1; exact e1.2
      have hl : rLet (T (rSk T s.1)) = true := rMat_let ht e2
      have k3 : rSk T s.1 < z := T_lt h (fun e => by rw [e] at hl; exact Bool.noConfusion hl)
      have k4 := rEnd_gt (T := T) (i := rSk T s.1) (by omega) hl
      have e : (sub (rEnd T (rSk T s.1), s.2)).2.2.1 = 0 := by
        rcases Classical.em ((sub (rEnd T (rSk T s.1), s.2)).2.2.1 = 0) with e | e
        · exact e
        · exact absurd hr (by rw [rWordL_kp (by rw [rPut_f]; exact e), rPut_f]; exact e)
      obtain ⟨c2, q2, h2⟩ := hsub (rEnd T (rSk T s.1), s.2) (tt + q) ⟨g0.1, g0.2.1, g0.2.2.1, rEnd_z h k1, by have := g0.2.2.2.2; show s.2.2.2.1 ≤ rEnd T (rSk T s.1); omega⟩ e
      have h3 := GA_step (e := 0) (x := o) h0 hs (show s.1 < rEnd T (rSk T s.1) by omega) _ h2 hz (fun a1 a2 => Tk_andor a1 a2 ho)
      exact GD_wordL h ht ho hsub h0 n _ _ _ h3 (by rw [rPut_f]; exact e) hr
    · rw [if_neg e1] at hr ⊢
      obtain ⟨a1, a2, a3, a4, a5, a6, a7, a8⟩ := hs
      exact ⟨c, q, a1, a2, a3, a4, a5, a6, by show c.length + s0.1 ≤ rSk T s.1; omega, k1⟩
theorem GD_wloop {t : Nat} {o : Int32} (h : XB B T z) (ht : t < 16) (ho : o = -21 ∨ o = -22) (hsub : GD true z sub) : GD true z (fun s => rWordL T (jW t) o sub 400 (sub s)) := by
  intro s tt h0 hf
  have e : (sub s).2.2.1 = 0 := by
    rcases Classical.em ((sub s).2.2.1 = 0) with e | e
    · exact e
    · exact absurd hf (by show (rWordL _ _ _ _ _ _).2.2.1 ≠ 0; rw [rWordL_kp e]; exact e)
  obtain ⟨c, q, h1⟩ := hsub s tt h0 e
  exact GD_wordL h ht ho hsub h0 400 _ c q h1 e hf
theorem GD_part (h : XB B T z) (hi : GD true z sub) : GD true z (rPart T sub) := GD_wloop h (by decide) (Or.inl rfl) hi
theorem GD_test (h : XB B T z) (hi : GD true z sub) : GD true z (rTest T sub) := GD_wloop h (by decide) (Or.inr rfl) (GD_part h hi)
theorem GD_factk (h : XB B T z) : ∀ k, k ≤ 10 → GD true z (rFact T u k)
  | 0, _ => GD_fact (inF := id) (inT := id) h (Nat.le_refl _) (fun _ _ => rfl) (fun _ _ => rfl) (rSum_kp 0) (GD_sum h 0 (by decide)) (fun e => absurd e (by decide)) (fun e => absurd e (by decide))
  | k + 1, hk => GD_fact h (by omega) (rFact_kp k) (rTest_kp (rFact_kp k)) (rSum_kp _) (GD_sum h (k + 1) hk) (fun _ => GD_factk h k (by omega)) (fun _ => GD_test h (GD_factk h k (by omega)))
end GDT
