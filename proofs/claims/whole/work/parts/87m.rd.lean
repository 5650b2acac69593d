/-! ===== what X's values, terms, sums come to when nothing is wrong ===== -/
section GDS
variable {B : jmM} {T : Nat → Int32} {z : Nat} {u : Int32} {dp : Nat} {inner sub : RS → RS} {i : Nat}
theorem rSk_ge : i ≤ rSk T i := jfind_le _ _ |>.1
theorem rEnd_gt (hz : i < 400) (h : rLet (T i) = true) : i + 1 ≤ rEnd T i := by
  unfold rEnd
  obtain ⟨q, hq⟩ : ∃ q, 400 - i = q + 1 := ⟨399 - i, by omega⟩
  rw [hq]
  unfold jfind
  rw [if_neg (by simp [h])]
  exact (jfind_le _ _).1
theorem jW_let : ∀ t, t < 16 → 0 < (jW t).length ∧ rLet ((jW t).getD 0 0) = true := by decide
theorem rMat_let {t : Nat} (ht : t < 16) (h : rMat T (jW t) i = true) : rLet (T i) = true := by
  obtain ⟨h1, h2⟩ := jW_let t ht
  have := ((rMat_iff _ _).mp h).1 0 h1
  rw [Nat.add_zero] at this
  rw [this]; exact h2
theorem rWn_le : rWn T i ≤ 8 := by
  unfold rWn
  repeat (first | (split; decide) | decide)
theorem rWn_let (h : rWn T i ≠ 8 ∨ rMat T (jW 2) i = true) : rLet (T i) = true := by
  rcases h with h | h
  · unfold rWn at h
    by_cases h6 : rMat T (jW 6) i = true
    · exact rMat_let (by decide) h6
    by_cases h7 : rMat T (jW 7) i = true
    · exact rMat_let (by decide) h7
    by_cases h8 : rMat T (jW 8) i = true
    · exact rMat_let (by decide) h8
    by_cases h9 : rMat T (jW 9) i = true
    · exact rMat_let (by decide) h9
    by_cases h1 : rMat T (jW 1) i = true
    · exact rMat_let (by decide) h1
    by_cases h0 : rMat T (jW 0) i = true
    · exact rMat_let (by decide) h0
    by_cases h10 : rMat T (jW 10) i = true
    · exact rMat_let (by decide) h10
    by_cases h11 : rMat T (jW 11) i = true
    · exact rMat_let (by decide) h11
    · simp [h6, h7, h8, h9, h1, h0, h10, h11] at h
  · exact rMat_let (by decide) h
theorem rDig_N {x : Int32} (h : rDig x = true) : ∃ c, c < 10 ∧ x = nI (48 + c) := by
  unfold rDig at h
  simp at h
  obtain ⟨h1, h2⟩ := h
  rw [Int32.le_iff_toInt_le] at h1 h2
  have e1 : (48 : Int32).toInt = 48 := by decide
  have e2 : (57 : Int32).toInt = 57 := by decide
  refine ⟨x.toInt.toNat - 48, by omega, ?_⟩
  apply Int32.toInt.inj
  rw [nI_toInt (by omega)]; omega
theorem rNm_val : ∀ q r (v : Int32) N, v = nI N → N < 10 ^ min r 5 → ∃ M, M < 100000 ∧ (jbrk (fun r _ => !rDig (T (i + r))) (fun r n => if r < 5 then n * 10 + T (i + r) - 48 else n) r q v).2 = nI M
  | 0, r, v, N, hv, hN => ⟨N, Nat.lt_of_lt_of_le hN (Nat.le_trans (Nat.pow_le_pow_right (by decide) (Nat.min_le_right r 5)) (by decide)), hv⟩
  | q + 1, r, v, N, hv, hN => by
    unfold jbrk
    cases e : rDig (T (i + r))
    · rw [if_pos (by simp)]
      exact ⟨N, Nat.lt_of_lt_of_le hN (Nat.le_trans (Nat.pow_le_pow_right (by decide) (Nat.min_le_right r 5)) (by decide)), hv⟩
    · rw [if_neg (by simp)]
      obtain ⟨c, hc, hT⟩ := rDig_N e
      by_cases h5 : r < 5
      · refine rNm_val q (r + 1) _ (N * 10 + c) ?_ ?_
        · rw [if_pos h5, hT, hv, show (10 : Int32) = nI 10 from rfl, nx_mul, nI_add, show N * 10 + (48 + c) = N * 10 + c + 48 by omega, ← nI_add, show nI 48 = 48 from rfl, Int32.add_sub_cancel]
        · rw [show min (r + 1) 5 = r + 1 by omega, Nat.pow_succ]
          rw [show min r 5 = r by omega] at hN
          omega
      · refine rNm_val q (r + 1) _ N ?_ ?_
        · rw [if_neg h5]; exact hv
        · rw [show min (r + 1) 5 = 5 by omega]
          rw [show min r 5 = 5 by omega] at hN
          exact hN
theorem rNum_good {x : Int32} {s : RS} (h1 : s.1 ≤ 1000) (h : (rNum T x s).2.2.1 = 0) : 0 < (rNm T s.1).1 ∧ (rNm T s.1).1 ≤ 5 ∧ (rNm T s.1).2 ≤ x ∧ rNum T x s = (s.1 + (rNm T s.1).1, s.2) ∧ ∃ M, M < 100000 ∧ (rNm T s.1).2 = nI M := by
  obtain ⟨M, hM, hv⟩ := rNm_val (T := T) (i := s.1) 400 0 0 0 rfl (by decide)
  unfold rNum at *
  by_cases e1 : (rNm T s.1).1 = 0
  · rw [if_pos e1] at h
    exact absurd h (rFail_f (k := 0) h1 (by decide))
  · rw [if_neg e1] at h ⊢
    by_cases e2 : 5 < (rNm T s.1).1 ∨ x < (rNm T s.1).2
    · rw [if_pos e2] at h
      exact absurd h (rFail_f (k := 1) h1 (by decide))
    · rw [if_neg e2] at h ⊢
      exact ⟨by omega, by omega, Int32.not_lt.mp (fun e => e2 (Or.inr e)), rfl, M, hM, hv⟩
theorem rTold_good {s : RS} {p tt : Nat} (hp : p ≤ 1000) (ht : s.2.1 = nI tt) (h60 : tt ≤ 60) (h : (rTold s p).2.2.1 = 0) : tt + 1 ≤ 60 ∧ rTold s p = (s.1, nI (tt + 1), s.2.2) ∧ s.2.2.1 = 0 := by
  unfold rTold at *
  rw [ht, nI_1] at *
  by_cases e : 60 < nI (tt + 1)
  · rw [if_pos e] at h
    exact absurd h (rFail_f (k := 3) hp (by decide))
  · rw [if_neg e] at h ⊢
    have : ¬ 60 < tt + 1 := fun e2 => e (by rw [show (60 : Int32) = nI 60 from rfl, nI_ltI (by decide) (by omega)]; exact e2)
    exact ⟨by omega, rfl, h⟩
theorem rWs_good {s : RS} (h1 : s.1 ≤ 1000) (h : (rWs T u s).2.2.1 = 0) : rWs T u s = s ∧ (rWn T s.1 ≠ 8 ∨ rMat T (jW 2) s.1 = true) ∧ ¬ (rWn T s.1 = 8 ∧ (u = 0 ∨ rMat T (jW 2) s.1 = false)) := by
  unfold rWs at *
  by_cases e : rWn T s.1 = 8 ∧ (u = 0 ∨ rMat T (jW 2) s.1 = false)
  · rw [if_pos e] at h
    exact absurd h (rFail_f (k := 0) h1 (by decide))
  · rw [if_neg e]
    refine ⟨rfl, ?_, e⟩
    by_cases e8 : rWn T s.1 = 8
    · refine Or.inr ?_
      cases e2 : rMat T (jW 2) s.1
      · exact absurd ⟨e8, Or.inr e2⟩ e
      · rfl
    · exact Or.inl e8
theorem rExp_good {x : Int32} {s : RS} (h1 : rSk T s.1 ≤ 1000) (h : (rExp T x s).2.2.1 = 0) : T (rSk T s.1) = x ∧ rExp T x s = (rSk T s.1 + 1, s.2) ∧ s.2.2.1 = 0 := by
  unfold rExp at *
  by_cases e : T (rSk T s.1) = x
  · rw [if_pos e] at h ⊢; exact ⟨e, rfl, h⟩
  · rw [if_neg e] at h
    exact absurd h (rFail_f (k := 0) h1 (by decide))
theorem GD_val (h : XB B T z) (hd : dp ≤ 10) (hi : dp < 10 → GD false z inner) : GD false z (rVal T u dp inner) := by
  intro s tt h0 hf
  obtain ⟨g1, g2, g3, g4, g5⟩ := id h0
  have hz := h.2.2.2.2.2.1
  have k1 : rSk T s.1 ≤ z := rSk_z h g4
  have k2 := rSk_ge (T := T) (i := s.1)
  unfold rVal at *
  by_cases e1 : T (rSk T s.1) = 40
  · rw [if_pos e1] at hf ⊢
    by_cases e2 : (rOp dp (rSk T s.1, s.2)).2.2.1 = 0
    · obtain ⟨hd2, e3⟩ := rOp_f (s := (rSk T s.1, s.2)) (show rSk T s.1 ≤ 1000 by omega) e2
      rw [if_pos e2, e3] at hf ⊢
      have k3 : rSk T s.1 < z := T_lt h (by rw [e1]; decide)
      have h1 : G0 z (rSk T s.1 + 1, s.2) tt := ⟨g1, g2, g3, k3, by show s.2.2.2.1 ≤ rSk T s.1 + 1; omega⟩
      have hk : (inner (rSk T s.1 + 1, s.2)).2.2.1 = 0 := by
        rcases Classical.em ((inner (rSk T s.1 + 1, s.2)).2.2.1 = 0) with e | e
        · exact e
        · exact absurd hf (by rw [rExp_kp e]; exact e)
      obtain ⟨c, q, a1, a2, a3, a4, a5, a6, a7, a8⟩ := hi hd2 _ tt h1 hk
      have a8' := rSk_z h a8
      have a9 := rSk_ge (T := T) (i := (inner (rSk T s.1 + 1, s.2)).1)
      obtain ⟨x1, x2, x3⟩ := rExp_good (x := 41) (s := inner (rSk T s.1 + 1, s.2)) (by omega) hf
      rw [x2]
      have a7 : c.length + (rSk T s.1 + 1) ≤ (inner (rSk T s.1 + 1, s.2)).1 := a7
      exact ⟨c, q, a1, a2, a3, a4, a5, a6, by show c.length + s.1 ≤ rSk T _ + 1; omega, T_lt h (by rw [x1]; decide)⟩
    · rw [if_neg e2] at hf; exact absurd hf e2
  · rw [if_neg e1] at hf ⊢
    by_cases e2 : rDig (T (rSk T s.1)) = true
    · rw [if_pos e2] at hf ⊢
      have k3 : rSk T s.1 < z := T_lt h (fun e => by rw [e] at e2; exact Bool.noConfusion e2)
      have t0 : (rNum T 99999 (rSk T s.1, s.2)).2.2.1 = 0 := by
        rcases Classical.em ((rNum T 99999 (rSk T s.1, s.2)).2.2.1 = 0) with e | e
        · exact e
        · exact absurd hf (by rw [rTold_kp (by rw [rPut_f]; exact e), rPut_f]; exact e)
      obtain ⟨n1, n2, n3, n4, M, hM, n5⟩ := rNum_good (s := (rSk T s.1, s.2)) (show rSk T s.1 ≤ 1000 by omega) t0
      have hk : s.2.2.2.1 < 400 := by omega
      rw [n4, rPut_lt (by exact hk)] at hf ⊢
      obtain ⟨t1, t2, t3⟩ := rTold_good (tt := tt) (p := rSk T s.1) (s := (rSk T s.1 + (rNm T (rSk T s.1)).1, s.2.1, s.2.2.1, s.2.2.2.1 + 1, jup s.2.2.2.2 s.2.2.2.1 (rNm T (rSk T s.1)).2)) (by omega) g2 g3 hf
      rw [t2]
      have n1 : 0 < (rNm T (rSk T s.1)).1 := n1
      have hn : rSk T s.1 + (rNm T (rSk T s.1)).1 ≤ z := rNm_z (i := rSk T s.1) h 400 0 0 k1
      refine ⟨[nI M], 1, Tk_num hM, rfl, t1, rfl, ⟨?_, trivial⟩, fun j hj => jup_ne (by omega), ?_, hn⟩
      · rw [← n5]; exact jup_same
      · show 1 + s.1 ≤ rSk T s.1 + (rNm T (rSk T s.1)).1; omega
    · rw [if_neg e2] at hf ⊢
      have t0 : (rWs T u (rSk T s.1, s.2)).2.2.1 = 0 := by
        rcases Classical.em ((rWs T u (rSk T s.1, s.2)).2.2.1 = 0) with e | e
        · exact e
        · refine absurd hf ?_
          have e' : (rEnd T (rSk T s.1), (rPut (rWs T u (rSk T s.1, s.2)) (-1 - nI (rWn T (rSk T s.1)))).2).2.2.1 ≠ 0 := by
            show (rPut _ _).2.2.1 ≠ 0
            rw [rPut_f]; exact e
          rw [rTold_kp e']; exact e'
      obtain ⟨n1, n2, n3⟩ := rWs_good (s := (rSk T s.1, s.2)) (show rSk T s.1 ≤ 1000 by omega) t0
      have hl : rLet (T (rSk T s.1)) = true := rWn_let n2
      have k3 : rSk T s.1 < z := T_lt h (fun e => by rw [e] at hl; exact Bool.noConfusion hl)
      have hk : s.2.2.2.1 < 400 := by omega
      rw [n1, rPut_lt (by exact hk)] at hf ⊢
      obtain ⟨t1, t2, t3⟩ := rTold_good (tt := tt) (p := rSk T s.1) (s := (rEnd T (rSk T s.1), s.2.1, s.2.2.1, s.2.2.2.1 + 1, jup s.2.2.2.2 s.2.2.2.1 (-1 - nI (rWn T (rSk T s.1))))) (by omega) g2 g3 hf
      rw [t2]
      have k4 := rEnd_gt (T := T) (i := rSk T s.1) (by omega) hl
      refine ⟨[-1 - nI (rWn T (rSk T s.1))], 1, Tk_word (by have := rWn_le (T := T) (i := rSk T s.1); omega), rfl, t1, rfl, ⟨jup_same, trivial⟩, fun j hj => jup_ne (by omega), ?_, rEnd_z h k1⟩
      show 1 + s.1 ≤ rEnd T (rSk T s.1); omega
theorem rBinL_st {a x b y : Int32} {n : Nat} {s : RS} (hf : s.2.2.1 = 0) : rBinL T a x b y sub (n + 1) s = if T (rSk T s.1) = a then rBinL T a x b y sub n (rPut (sub (rSk T s.1 + 1, s.2)) x) else if T (rSk T s.1) = b then rBinL T a x b y sub n (rPut (sub (rSk T s.1 + 1, s.2)) y) else (rSk T s.1, s.2) := by
  rw [rBinL, if_pos hf]
theorem GD_binL {a x b y : Int32} (h : XB B T z) (ha : a ≠ -1) (hb : b ≠ -1) (hx : kBinOp x) (hy : kBinOp y) (hsub : GD false z sub) {s0 : RS} {tt : Nat} (h0 : G0 z s0 tt) : ∀ n s c q, GA false z s0 tt s c q → s.2.2.1 = 0 → (rBinL T a x b y sub n s).2.2.1 = 0 → ∃ c q, GA false z s0 tt (rBinL T a x b y sub n s) c q
  | 0, s, c, q, hs, hf, hr => ⟨c, q, hs⟩
  | n + 1, s, c, q, hs, hf, hr => by
    have hz := h.2.2.2.2.2.1
    have g0 := GA_0 hs h0 hf
    have k1 : rSk T s.1 ≤ z := rSk_z h g0.2.2.2.1
    have k2 := rSk_ge (T := T) (i := s.1)
    have key : ∀ o, kBinOp o → rSk T s.1 < z → (rBinL T a x b y sub n (rPut (sub (rSk T s.1 + 1, s.2)) o)).2.2.1 = 0 → ∃ c q, GA false z s0 tt (rBinL T a x b y sub n (rPut (sub (rSk T s.1 + 1, s.2)) o)) c q := fun o ho k3 hr => by
      have e : (sub (rSk T s.1 + 1, s.2)).2.2.1 = 0 := by
        rcases Classical.em ((sub (rSk T s.1 + 1, s.2)).2.2.1 = 0) with e | e
        · exact e
        · exact absurd hr (by rw [rBinL_kp (by rw [rPut_f]; exact e), rPut_f]; exact e)
      obtain ⟨c2, q2, h2⟩ := hsub (rSk T s.1 + 1, s.2) (tt + q) ⟨g0.1, g0.2.1, g0.2.2.1, k3, by have := g0.2.2.2.2; show s.2.2.2.1 ≤ rSk T s.1 + 1; omega⟩ e
      have h3 := GA_step (e := 0) (x := o) h0 hs (show s.1 < rSk T s.1 + 1 by omega) _ h2 hz (fun a1 a2 => Tk_sum a1 a2 ho)
      exact GD_binL h ha hb hx hy hsub h0 n _ _ _ h3 (by rw [rPut_f]; exact e) hr
    rw [rBinL_st hf] at hr ⊢
    by_cases e1 : T (rSk T s.1) = a
    · rw [if_pos e1] at hr ⊢
      exact key x hx (T_lt h (by rw [e1]; exact ha)) hr
    · rw [if_neg e1] at hr ⊢
      by_cases e2 : T (rSk T s.1) = b
      · rw [if_pos e2] at hr ⊢
        exact key y hy (T_lt h (by rw [e2]; exact hb)) hr
      · rw [if_neg e2] at hr ⊢
        obtain ⟨a1, a2, a3, a4, a5, a6, a7, a8⟩ := hs
        exact ⟨c, q, a1, a2, a3, a4, a5, a6, by show c.length + s0.1 ≤ rSk T s.1; omega, k1⟩
theorem GD_loop {a x b y : Int32} (h : XB B T z) (ha : a ≠ -1) (hb : b ≠ -1) (hx : kBinOp x) (hy : kBinOp y) (hsub : GD false z sub) : GD false z (fun s => rBinL T a x b y sub 400 (sub s)) := by
  intro s tt h0 hf
  have e : (sub s).2.2.1 = 0 := by
    rcases Classical.em ((sub s).2.2.1 = 0) with e | e
    · exact e
    · exact absurd hf (by show (rBinL _ _ _ _ _ _ _ _).2.2.1 ≠ 0; rw [rBinL_kp e]; exact e)
  obtain ⟨c, q, h1⟩ := hsub s tt h0 e
  exact GD_binL h ha hb hx hy hsub h0 400 _ c q h1 e hf
theorem GD_term (h : XB B T z) (hi : GD false z (rVal T u dp inner)) : GD false z (rTerm T u dp inner) :=
  GD_loop h (by decide) (by decide) (Or.inr (Or.inr (Or.inl rfl))) (Or.inr (Or.inr (Or.inr rfl))) hi
theorem GD_sumW (h : XB B T z) (hi : GD false z (rTerm T u dp inner)) : GD false z (rSumW T u dp inner) :=
  GD_loop h (by decide) (by decide) (Or.inl rfl) (Or.inr (Or.inl rfl)) hi
theorem GD_sum (h : XB B T z) : ∀ k, k ≤ 10 → GD false z (rSum T u k)
  | 0, _ => GD_sumW h (GD_term h (GD_val h (Nat.le_refl _) (fun e => absurd e (by decide))))
  | k + 1, hk => GD_sumW h (GD_term h (GD_val h (by omega) (fun _ => GD_sum h k (by omega))))
end GDS
