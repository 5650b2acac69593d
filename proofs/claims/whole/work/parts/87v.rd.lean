/-! ===== parts and tests, in both ===== -/
section CLV
variable {d : Nat} {B Bx : jmM} {T : Nat → Int32} {x z dp k : Nat} {u st lst : Int32} {N : Nat → Prop} {sub : RS → RS}
theorem AF_skip {i p n k : Nat} {t w a : Int32} {F O : Nat → Int32} {L2 : Option Value} {Q : Option Value → jmM → Prop} (h : NB B T x z) (hi : i ≤ z) (hn : n ≤ 400) (hs : n = 0 ∨ kStr (O (n - 1)) < 3) (hQ : AF d L2 (nM B x (rSk T i) t w p n k F O a) Q) : AF d L2 (nM B x i t w p n k F O a) Q := by
  have hml := h.1
  unfold AF at *
  rw [nX12_closesSquare] at hQ ⊢
  simp (config := {decide := true}) (disch := first | omega | assumption | (simp only [mS_cL, mS_cI, mS_cR, mR_cL, mR_cI]; first | assumption | exact hcr _ | fail)) only [tX12_closesSquare_0, tX12_closesSquare_1, tX12_closesSquare_2, tX12_closesSquare_3, jK_some, jK_none, jc1_int, jc1_ref, jc1_none, jc1_long, jc1_null, jc1_rf, va_rf_some, va_rf_none, mI_cI, mL_cL, mR_cR, cI_cI, cL_cL, jup_eq, jne_1, jne_2, Nat.add_left_cancel_iff, mL_cI, mR_cI, mS_cI, mN_cI, mI_cL, mR_cL, mS_cL, mN_cL, mI_cR, mL_cR, mS_cR, mN_cR, true_and, and_true, true_or, or_true, if_true, if_false, jBool_0, jBool_1, Nat.le_refl, Nat.reduceLeDiff, Nat.reduceEqDiff, Nat.reduceAdd, Nat.reduceSub, reduceIte, Int32.reduceLT, Int32.reduceLE, ne_eq, not_false_eq_true, not_true_eq_false, false_or, or_false, and_false, false_and, reduceCtorEq, jn_4, jn_6, jn_8, jn_9, jn_12, jn_60, jn_100, jn_200, jn_400, jn_600, jn_601, jn_3600, jI_4, jI_6, jI_8, jI_9, jI_12, jI_60, jI_100, jI_200, jI_400, jI_600, jI_601, jI_3600, va_cpy_00, jx_0, jx_6, jx_12, jx_400, jx_600, nI_1, hml, nM_S, nM_R, n_stop3 h hn hs] at hQ ⊢
  rw [tX12_closesSquare_6, tX12_closesSquare_7, n_see h (n_Sk h hi), jK_some, skip_skip h hi] at hQ
  rw [tX12_closesSquare_6, tX12_closesSquare_7, n_see h hi, jK_some]
  exact hQ
theorem CH_loop (h : NB B T x z) (hX : XB Bx T z) {wt : Nat} {xo oc : Int32} (hw : (wt = 14 ∧ oc = 12 ∧ st = 2) ∨ (wt = 15 ∧ oc = 13 ∧ st = 1)) (h14 : wt = 15 → ∀ i, N i → rMat T (jW 14) i = false) (hxo : kTr xo = oc) (hst : st < lst) (hG : GD true z sub) (hC : CH d B T x z dp lst N sub) :
    CH d B T x z dp st (fun i => N i ∧ rMat T (jW wt) i = false) (fun s => rWordL T (jW wt) xo sub 400 (sub s)) := by
  have hz := h.2.2.2.1
  have so : kStr oc = st ∧ oc ≠ 11 ∧ st < 3 := by rcases hw with ⟨-, rfl, rfl⟩ | ⟨-, rfl, rfl⟩ <;> decide
  have hwt : wt < 16 := by rcases hw with ⟨e, -⟩ | ⟨e, -⟩ <;> omega
  have hle : st ≤ lst := Int32.le_of_lt hst
  have key : ∀ (n : Nat) (O : Nat → Int32) (Q : Option Value → jmM → Prop), (n = 0 ∨ kStr (O (n - 1)) < st) → ∀ m s tt c FM O' a L2, s.1 + m ≥ 400 → G0 z s tt → s.2.2.2.1 + n ≤ s.1 → Pd st s.2.2.2.2 s.2.2.2.1 n c FM O' → (∀ q, q < c → kStr (O' (n + q)) < 3) → (∀ j, j < n → O' j = O j) → N (rSk T s.1) →
      ((rWordL T (jW wt) xo sub m s).2.2.1 = 0 → ∀ L2 FM' O' a' c, Pd st (rWordL T (jW wt) xo sub m s).2.2.2.2 (rWordL T (jW wt) xo sub m s).2.2.2.1 n c FM' O' → (∀ q, q < c → kStr (O' (n + q)) < 3) → (∀ j, j < n → O' j = O j) → (N (rSk T (rWordL T (jW wt) xo sub m s).1) ∧ rMat T (jW wt) (rSk T (rWordL T (jW wt) xo sub m s).1) = false) → AF d L2 (nM B x (rWordL T (jW wt) xo sub m s).1 (rWordL T (jW wt) xo sub m s).2.1 0 dp (n + c) ((rWordL T (jW wt) xo sub m s).2.2.2.1 - c) FM' O' a') Q) →
      ((rWordL T (jW wt) xo sub m s).2.2.1 ≠ 0 → ER B x (rWordL T (jW wt) xo sub m s).2.2.1 Q) → AF d L2 (nM B x s.1 (nI tt) 0 dp (n + c) (s.2.2.2.1 - c) FM O' a) Q := by
    intro n O Q hsn m
    induction m with
    | zero =>
      intro s tt c FM O' a L2 hm g0 hkn hP h3 hO hN h1 h2
      have := g0.2.2.2.1
      have e : T s.1 = -1 := n_Te h (by omega)
      have e2 : rSk T s.1 = s.1 := skip_id (by rw [e]; decide)
      rw [← g0.2.1]
      refine h1 g0.1 L2 FM O' a c hP h3 hO ⟨hN, ?_⟩
      show rMat T (jW wt) (rSk T s.1) = false
      cases e4 : rMat T (jW wt) (rSk T s.1)
      · rfl
      · have := rMat_let hwt e4
        rw [e2, e] at this; exact absurd this (by decide)
    | succ m ih =>
      intro s tt c FM O' a L2 hm g0 hkn hP h3 hO hN h1 h2
      have k1 : rSk T s.1 ≤ z := n_Sk h g0.2.2.2.1
      have k2 := rSk_ge (T := T) (i := s.1)
      have hsn' : n = 0 ∨ kStr (O' (n - 1)) < st := by
        rcases hsn with e | e
        · exact Or.inl e
        · by_cases e0 : n = 0
          · exact Or.inl e0
          · exact Or.inr (by rw [hO (n - 1) (by omega)]; exact e)
      have hcK := hP.1
      rw [rWordL] at h1 h2
      cases e1 : rMat T (jW wt) (rSk T s.1)
      · have e2 : ¬ rTW T (jW wt) s = true := by unfold rTW; rw [e1]; simp
        rw [if_neg e2] at h1
        have e3 := skip_skip h g0.2.2.2.1
        rw [if_neg e2] at h2
        have s3 : n + c = 0 ∨ kStr (O' (n + c - 1)) < 3 := by
          cases c with
          | zero => exact hsn'.imp (fun e => e) (fun e => Int32.lt_trans e so.2.2)
          | succ c => exact Or.inr (by rw [show n + (c + 1) - 1 = n + c by omega]; exact h3 c (by omega))
        refine AF_skip h g0.2.2.2.1 (by omega) s3 ?_
        rw [← g0.2.1]
        exact h1 g0.1 L2 FM O' a c hP h3 hO ⟨by show N (rSk T (rSk T s.1)); rw [e3]; exact hN, by show rMat T (jW wt) (rSk T (rSk T s.1)) = false; rw [e3]; exact e1⟩
      · have e2 : rTW T (jW wt) s = true := by unfold rTW; rw [e1]; simp [g0.1]
        rw [if_pos e2] at h1 h2
        have hl : rLet (T (rSk T s.1)) = true := rMat_let hwt e1
        have k3 : rSk T s.1 < z := n_lt h (fun e => by rw [e] at hl; exact Bool.noConfusion hl)
        have k4 := rEnd_gt (T := T) (i := rSk T s.1) (by omega) hl
        refine AF_op h g0.2.2.2.1 hw e1 (fun e => h14 e _ hN) (by omega) (by omega) (by omega) hP (Int32.le_refl _) hsn' h3 (fun L2 lc FM' hF => ?_)
        have g1 : G0 z (rEnd T (rSk T s.1), s.2) tt := ⟨g0.1, g0.2.1, g0.2.2.1, rEnd_z hX k1, by show s.2.2.2.1 ≤ rEnd T (rSk T s.1); omega⟩
        refine hC (rEnd T (rSk T s.1), s.2) tt (n + 1) FM' (jup O' n oc) a L2 lc Q g1 (by show s.2.2.2.1 + (n + 1) ≤ rEnd T (rSk T s.1); omega) hF (Or.inr (by rw [Nat.add_sub_cancel, jup_same, so.1]; exact hst)) ?_ ?_
        · intro hf L3 FM2 O2 a2 c2 hP2 h32 hO2 hN2
          obtain ⟨cc, q, hA⟩ := hG _ tt g1 hf
          have g2 := GA_0 hA g1 hf
          obtain ⟨a1, a2', a3, a4, a5, a6, a7, a8⟩ := hA
          have a4 : (sub (rEnd T (rSk T s.1), s.2)).2.2.2.1 = s.2.2.2.1 + cc.length := a4
          have a7 : cc.length + rEnd T (rSk T s.1) ≤ (sub (rEnd T (rSk T s.1), s.2)).1 := a7
          have hk4 : (sub (rEnd T (rSk T s.1), s.2)).2.2.2.1 < 400 := by omega
          rw [rPut_lt hk4] at h1 h2
          have hPd := Pd_put (st := st) (xo := xo) (oc := oc) hP2 ((hO2 n (by omega)).trans jup_same) hxo (by rw [so.1]; exact Int32.le_refl _) hle so.2.1
          have := ih ((sub (rEnd T (rSk T s.1), s.2)).1, (sub (rEnd T (rSk T s.1), s.2)).2.1, (sub (rEnd T (rSk T s.1), s.2)).2.2.1, (sub (rEnd T (rSk T s.1), s.2)).2.2.2.1 + 1, jup (sub (rEnd T (rSk T s.1), s.2)).2.2.2.2 (sub (rEnd T (rSk T s.1), s.2)).2.2.2.1 xo) (tt + q) (c2 + 1) FM2 O2 a2 L3 (by show (sub _).1 + m ≥ 400; omega) ⟨g2.1, g2.2.1, g2.2.2.1, g2.2.2.2.1, by show (sub _).2.2.2.1 + 1 ≤ (sub _).1; omega⟩ (by show (sub _).2.2.2.1 + 1 + n ≤ (sub _).1; omega) hPd (fun q hq => by
              cases q with
              | zero => rw [Nat.add_zero, hO2 n (by omega), jup_same, so.1]; exact so.2.2
              | succ q => rw [show n + (q + 1) = n + 1 + q by omega]; exact h32 q (by omega)) (fun j hj => (hO2 j (by omega)).trans ((jup_ne (by omega)).trans (hO j hj))) hN2 h1 h2
          rw [a2', show n + 1 + c2 = n + (c2 + 1) by omega, show (sub (rEnd T (rSk T s.1), s.2)).2.2.2.1 - c2 = (sub (rEnd T (rSk T s.1), s.2)).2.2.2.1 + 1 - (c2 + 1) by omega]
          exact this
        · intro hf
          have e : (rWordL T (jW wt) xo sub m (rPut (sub (rEnd T (rSk T s.1), s.2)) xo)).2.2.1 = (sub (rEnd T (rSk T s.1), s.2)).2.2.1 := by
            rw [rWordL_kp (by rw [rPut_f]; exact hf), rPut_f]
          rw [e] at h2
          exact h2 hf
  intro s tt n FM O a L2 lc Q g0 hkn hF hs h1 h2
  refine hC s tt n FM O a L2 lc Q g0 hkn hF (hs.imp_right (fun e => Int32.lt_trans e hst)) ?_ ?_
  · intro hf L2 FM' O' a' c hP h3 hO hN
    obtain ⟨cc, q, hA⟩ := hG s tt g0 hf
    have g2 := GA_0 hA g0 hf
    have hP' : Pd st (sub s).2.2.2.2 (sub s).2.2.2.1 n c FM' O' := ⟨hP.1, hP.2.1, fun q hq => ⟨(hP.2.2 q hq).1, Int32.le_trans hle (hP.2.2 q hq).2.1, (hP.2.2 q hq).2.2⟩⟩
    rw [g2.2.1]
    obtain ⟨a1, a2, a3, a4, a5, a6, a7, a8⟩ := hA
    exact key n O Q hs 400 (sub s) (tt + q) c FM' O' a' L2 (by omega) g2 (by omega) hP' h3 hO hN h1 h2
  · intro hf
    have e : (rWordL T (jW wt) xo sub 400 (sub s)).2.2.1 = (sub s).2.2.1 := rWordL_kp hf
    have h2 : (rWordL T (jW wt) xo sub 400 (sub s)).2.2.1 ≠ 0 → ER B x (rWordL T (jW wt) xo sub 400 (sub s)).2.2.1 Q := h2
    rw [e] at h2
    exact h2 hf
theorem CH_part (h : NB B T x z) (hX : XB Bx T z) (hG : GD true z sub) (hC : CH d B T x z dp 7 (fun _ => True) sub) : CH d B T x z dp 2 (fun i => True ∧ rMat T (jW 14) i = false) (rPart T sub) :=
  CH_loop (oc := 12) h hX (by decide) (fun e => absurd e (by decide)) (by decide) (by decide) hG hC
theorem CH_test (h : NB B T x z) (hX : XB Bx T z) (hG : GD true z sub) (hC : CH d B T x z dp 7 (fun _ => True) sub) : CH d B T x z dp 1 (Nt T) (rTest T sub) :=
  CH_loop (oc := 13) h hX (by decide) (fun _ i hi => hi.2) (by decide) (by decide) (GD_part hX hG) (CH_part h hX hG hC)
theorem CH_factk (h : NB B T x z) (hX : XB Bx T z) (hu : u = 0 ↔ ¬ x < 4) : ∀ k dp, dp + k = 10 → CH d B T x z dp 7 (fun _ => True) (rFact T u k)
  | 0, dp, hk => by
    have hd : dp = 10 := by omega
    subst hd
    exact CH_fact (inF := id) (inT := id) h hX hu rfl (fun _ _ => rfl) (fun _ _ => rfl) (fun e => absurd e (by decide)) (fun e => absurd e (by decide)) (fun e => absurd e (by decide)) (fun e => absurd e (by decide))
  | k + 1, dp, hk => by
    have hd : dp = 10 - (k + 1) := by omega
    have i1 := CH_factk h hX hu k (dp + 1) (by omega)
    have g1 := GD_factk (u := u) hX k (by omega)
    have := CH_fact (d := d) h hX hu hk (rFact_kp (T := T) (u := u) k) (rTest_kp (rFact_kp k)) (fun _ => g1) (fun _ => GD_test hX g1) (fun _ => i1) (fun _ => CH_test h hX g1 i1)
    unfold rFact
    rw [← hd]
    exact this
end CLV
