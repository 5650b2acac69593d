/-! ===== terms and sums, in both ===== -/
def ER (B : jmM) (x : Nat) (e : Int32) (Q : Option Value → jmM → Prop) : Prop := ∀ i' t' p' n' k' F' O' a', Q (some (.int 0)) (nM B x i' t' e p' n' k' F' O' a')
/-- what g is to X's code, the reference's stack comes to -/
def CG (d b : Nat) (B : jmM) (T : Nat → Int32) (x z dp : Nat) (lst : Int32) (N : Int32 → Prop) (g : RS → RS) : Prop :=
  ∀ (s : RS) (tt n : Nat) (FM O : Nat → Int32) (a : Int32) (L3 L4 : Option Value) (Q : Option Value → jmM → Prop), G0 z s tt → s.2.2.2.1 + n ≤ s.1 → b ≤ n → (∀ j, j < s.2.2.2.1 → FM j = kTr (s.2.2.2.2 j)) → (n ≤ b ∨ kStr (O (n - 1)) < lst) →
    ((g s).2.2.1 = 0 → ∀ L3 L4 FM' O' a' c, Pd lst (g s).2.2.2.2 (g s).2.2.2.1 n c FM' O' → (∀ j, j < n → O' j = O j) → N (T (rSk T (g s).1)) → AA d b L3 L4 (nM B x (g s).1 (g s).2.1 0 dp (n + c) ((g s).2.2.2.1 - c) FM' O' a') Q) →
    ((g s).2.2.1 ≠ 0 → ER B x (g s).2.2.1 Q) → HH d b L3 L4 (nM B x s.1 (nI tt) 0 dp n s.2.2.2.1 FM O a) Q
section CLQ
variable {d b : Nat} {B Bx : jmM} {T : Nat → Int32} {x z dp : Nat} {sub : RS → RS} {lst st : Int32} {N : Int32 → Prop}
theorem Pd_put {F : Nat → Int32} {K n c : Nat} {FM O : Nat → Int32} {xo oc : Int32} (hP : Pd lst F K (n + 1) c FM O) (ho : O n = oc) (hx : kTr xo = oc) (hs : st ≤ kStr oc) (hl : st ≤ lst) (h11 : oc ≠ 11) : Pd st (jup F K xo) (K + 1) n (c + 1) FM O := by
  obtain ⟨h1, h2, h3⟩ := hP
  refine ⟨by omega, fun j hj => ?_, fun q hq => ?_⟩
  · rw [jup_ne (by omega)]; exact h2 j (by omega)
  · cases q with
    | zero =>
      rw [Nat.add_zero, ho, show K + 1 - 1 - 0 = K by omega, jup_same, hx]
      exact ⟨rfl, hs, h11⟩
    | succ q =>
      obtain ⟨q1, q2, q3⟩ := h3 q (by omega)
      rw [show n + (q + 1) = n + 1 + q by omega, show K + 1 - 1 - (q + 1) = K - 1 - q by omega, jup_ne (by omega)]
      exact ⟨q1, Int32.le_trans hl q2, q3⟩
theorem CG_loop (h : NB B T x z) (hX : XB Bx T z) {ca xa oa cb xb ob : Int32} (ha : (ca = 43 ∧ oa = 2 ∧ st = 5) ∨ (ca = 45 ∧ oa = 3 ∧ st = 5) ∨ (ca = 42 ∧ oa = 4 ∧ st = 6) ∨ (ca = 47 ∧ oa = 5 ∧ st = 6)) (hb : (cb = 43 ∧ ob = 2 ∧ st = 5) ∨ (cb = 45 ∧ ob = 3 ∧ st = 5) ∨ (cb = 42 ∧ ob = 4 ∧ st = 6) ∨ (cb = 47 ∧ ob = 5 ∧ st = 6))
    (hxa : kTr xa = oa) (hxb : kTr xb = ob) (hst : st < lst) (hG : GD false z sub) (hC : CG d b B T x z dp lst N sub) :
    CG d b B T x z dp st (fun v => N v ∧ v ≠ ca ∧ v ≠ cb) (fun s => rBinL T ca xa cb xb sub 400 (sub s)) := by
  have hz := h.2.2.2.1
  have sa : kStr oa = st ∧ oa ≠ 11 ∧ ca ≠ -1 := by rcases ha with ⟨rfl, rfl, rfl⟩ | ⟨rfl, rfl, rfl⟩ | ⟨rfl, rfl, rfl⟩ | ⟨rfl, rfl, rfl⟩ <;> decide
  have sb : kStr ob = st ∧ ob ≠ 11 ∧ cb ≠ -1 := by rcases hb with ⟨rfl, rfl, rfl⟩ | ⟨rfl, rfl, rfl⟩ | ⟨rfl, rfl, rfl⟩ | ⟨rfl, rfl, rfl⟩ <;> decide
  have hle : st ≤ lst := Int32.le_of_lt hst
  have key : ∀ (n : Nat) (O : Nat → Int32) (Q : Option Value → jmM → Prop), b ≤ n → (n ≤ b ∨ kStr (O (n - 1)) < st) → ∀ m s tt c FM O' a L3 L4, s.1 + m ≥ 400 → G0 z s tt → s.2.2.2.1 + n ≤ s.1 → Pd st s.2.2.2.2 s.2.2.2.1 n c FM O' → (∀ j, j < n → O' j = O j) → N (T (rSk T s.1)) →
      ((rBinL T ca xa cb xb sub m s).2.2.1 = 0 → ∀ L3 L4 FM' O' a' c, Pd st (rBinL T ca xa cb xb sub m s).2.2.2.2 (rBinL T ca xa cb xb sub m s).2.2.2.1 n c FM' O' → (∀ j, j < n → O' j = O j) → (N (T (rSk T (rBinL T ca xa cb xb sub m s).1)) ∧ T (rSk T (rBinL T ca xa cb xb sub m s).1) ≠ ca ∧ T (rSk T (rBinL T ca xa cb xb sub m s).1) ≠ cb) → AA d b L3 L4 (nM B x (rBinL T ca xa cb xb sub m s).1 (rBinL T ca xa cb xb sub m s).2.1 0 dp (n + c) ((rBinL T ca xa cb xb sub m s).2.2.2.1 - c) FM' O' a') Q) →
      ((rBinL T ca xa cb xb sub m s).2.2.1 ≠ 0 → ER B x (rBinL T ca xa cb xb sub m s).2.2.1 Q) → AA d b L3 L4 (nM B x s.1 (nI tt) 0 dp (n + c) (s.2.2.2.1 - c) FM O' a) Q := by
    intro n O Q hbn hsn m
    induction m with
    | zero =>
      intro s tt c FM O' a L3 L4 hm g0 hkn hP hO hN h1 h2
      have := g0.2.2.2.1
      have e : T s.1 = -1 := n_Te h (by omega)
      have e2 : rSk T s.1 = s.1 := skip_id (by rw [e]; decide)
      rw [← g0.2.1]
      refine h1 g0.1 L3 L4 FM O' a c hP hO ⟨hN, ?_, ?_⟩
      · show T (rSk T s.1) ≠ ca
        rw [e2, e]; exact fun e => sa.2.2 e.symm
      · show T (rSk T s.1) ≠ cb
        rw [e2, e]; exact fun e => sb.2.2 e.symm
    | succ m ih =>
      intro s tt c FM O' a L3 L4 hm g0 hkn hP hO hN h1 h2
      have k1 : rSk T s.1 ≤ z := n_Sk h g0.2.2.2.1
      have k2 := rSk_ge (T := T) (i := s.1)
      have hsn' : n ≤ b ∨ kStr (O' (n - 1)) < st := by
        rcases hsn with e | e
        · exact Or.inl e
        · by_cases e0 : n ≤ b
          · exact Or.inl e0
          · exact Or.inr (by rw [hO (n - 1) (by omega)]; exact e)
      have hcK := hP.1
      have step : ∀ ch xo oc, T (rSk T s.1) = ch → ((ch = 43 ∧ oc = 2 ∧ st = 5) ∨ (ch = 45 ∧ oc = 3 ∧ st = 5) ∨ (ch = 42 ∧ oc = 4 ∧ st = 6) ∨ (ch = 47 ∧ oc = 5 ∧ st = 6)) → kTr xo = oc → kStr oc = st ∧ oc ≠ 11 ∧ ch ≠ -1 → rBinL T ca xa cb xb sub (m + 1) s = rBinL T ca xa cb xb sub m (rPut (sub (rSk T s.1 + 1, s.2)) xo) → AA d b L3 L4 (nM B x s.1 (nI tt) 0 dp (n + c) (s.2.2.2.1 - c) FM O' a) Q := by
        intro ch xo oc hT ho hx hsc hr
        rw [hr] at h1 h2
        have k3 : rSk T s.1 < z := n_lt h (by rw [hT]; exact hsc.2.2)
        refine AA_op h g0.2.2.2.1 hT ho (by omega) hbn (by omega) (by omega) hP (Int32.le_refl _) hsn' (fun L3 L4 FM' hF => ?_)
        have g1 : G0 z (rSk T s.1 + 1, s.2) tt := ⟨g0.1, g0.2.1, g0.2.2.1, k3, by show s.2.2.2.1 ≤ rSk T s.1 + 1; omega⟩
        refine hC (rSk T s.1 + 1, s.2) tt (n + 1) FM' (jup O' n oc) a L3 L4 Q g1 (by show s.2.2.2.1 + (n + 1) ≤ rSk T s.1 + 1; omega) (by omega) hF (Or.inr (by rw [Nat.add_sub_cancel, jup_same, hsc.1]; exact hst)) ?_ ?_
        · intro hf L3 L4 FM2 O2 a2 c2 hP2 hO2 hN2
          obtain ⟨cc, q, hA⟩ := hG _ tt g1 hf
          have g2 := GA_0 hA g1 hf
          obtain ⟨a1, a2', a3, a4, a5, a6, a7, a8⟩ := hA
          have a4 : (sub (rSk T s.1 + 1, s.2)).2.2.2.1 = s.2.2.2.1 + cc.length := a4
          have a7 : cc.length + (rSk T s.1 + 1) ≤ (sub (rSk T s.1 + 1, s.2)).1 := a7
          have hk4 : (sub (rSk T s.1 + 1, s.2)).2.2.2.1 < 400 := by omega
          rw [rPut_lt hk4] at h1 h2
          have hPd := Pd_put (st := st) (xo := xo) (oc := oc) hP2 ((hO2 n (by omega)).trans jup_same) hx (by rw [hsc.1]; exact Int32.le_refl _) hle hsc.2.1
          have := ih ((sub (rSk T s.1 + 1, s.2)).1, (sub (rSk T s.1 + 1, s.2)).2.1, (sub (rSk T s.1 + 1, s.2)).2.2.1, (sub (rSk T s.1 + 1, s.2)).2.2.2.1 + 1, jup (sub (rSk T s.1 + 1, s.2)).2.2.2.2 (sub (rSk T s.1 + 1, s.2)).2.2.2.1 xo) (tt + q) (c2 + 1) FM2 O2 a2 L3 L4 (by show (sub _).1 + m ≥ 400; omega) ⟨g2.1, g2.2.1, g2.2.2.1, g2.2.2.2.1, by show (sub _).2.2.2.1 + 1 ≤ (sub _).1; omega⟩ (by show (sub _).2.2.2.1 + 1 + n ≤ (sub _).1; omega) hPd (fun j hj => (hO2 j (by omega)).trans ((jup_ne (by omega)).trans (hO j hj))) hN2 h1 h2
          rw [a2', show n + 1 + c2 = n + (c2 + 1) by omega, show (sub (rSk T s.1 + 1, s.2)).2.2.2.1 - c2 = (sub (rSk T s.1 + 1, s.2)).2.2.2.1 + 1 - (c2 + 1) by omega]
          exact this
        · intro hf
          have e : (rBinL T ca xa cb xb sub m (rPut (sub (rSk T s.1 + 1, s.2)) xo)).2.2.1 = (sub (rSk T s.1 + 1, s.2)).2.2.1 := by
            rw [rBinL_kp (by rw [rPut_f]; exact hf), rPut_f]
          rw [e] at h2
          exact h2 hf
      by_cases e1 : T (rSk T s.1) = ca
      · exact step ca xa oa e1 ha hxa sa (by rw [rBinL_st g0.1, if_pos e1])
      · by_cases e2 : T (rSk T s.1) = cb
        · exact step cb xb ob e2 hb hxb sb (by rw [rBinL_st g0.1, if_neg e1, if_pos e2])
        · have hr : rBinL T ca xa cb xb sub (m + 1) s = (rSk T s.1, s.2) := by rw [rBinL_st g0.1, if_neg e1, if_neg e2]
          rw [hr] at h1 h2
          refine AA_skip h g0.2.2.2.1 ?_
          rw [← g0.2.1]
          have e3 := skip_skip h g0.2.2.2.1
          exact h1 g0.1 L3 L4 FM O' a c hP hO ⟨by show N (T (rSk T (rSk T s.1))); rw [e3]; exact hN, by show T (rSk T (rSk T s.1)) ≠ ca; rw [e3]; exact e1, by show T (rSk T (rSk T s.1)) ≠ cb; rw [e3]; exact e2⟩
  intro s tt n FM O a L3 L4 Q g0 hkn hbn hF hs h1 h2
  refine hC s tt n FM O a L3 L4 Q g0 hkn hbn hF (hs.imp_right (fun e => Int32.lt_trans e hst)) ?_ ?_
  · intro hf L3 L4 FM' O' a' c hP hO hN
    obtain ⟨cc, q, hA⟩ := hG s tt g0 hf
    have g2 := GA_0 hA g0 hf
    have hP' : Pd st (sub s).2.2.2.2 (sub s).2.2.2.1 n c FM' O' := ⟨hP.1, hP.2.1, fun q hq => ⟨(hP.2.2 q hq).1, Int32.le_trans hle (hP.2.2 q hq).2.1, (hP.2.2 q hq).2.2⟩⟩
    rw [g2.2.1]
    obtain ⟨a1, a2, a3, a4, a5, a6, a7, a8⟩ := hA
    exact key n O Q hbn hs 400 (sub s) (tt + q) c FM' O' a' L3 L4 (by omega) g2 (by omega) hP' hO hN h1 h2
  · intro hf
    have e : (rBinL T ca xa cb xb sub 400 (sub s)).2.2.1 = (sub s).2.2.1 := by rw [rBinL_kp hf]
    have h2 : (rBinL T ca xa cb xb sub 400 (sub s)).2.2.1 ≠ 0 → ER B x (rBinL T ca xa cb xb sub 400 (sub s)).2.2.1 Q := h2
    rw [e] at h2
    exact h2 hf
end CLQ
