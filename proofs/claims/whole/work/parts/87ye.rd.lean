/-! ===== a clause, in both ===== -/
def jV (p : Nat) : Int64 := if p = 0 then 1886743660 else if p = 1 then 1751474548 else if p = 2 then 2003395685 else if p = 3 then 495924638316 else if p = 4 then 1818326117 else 444150998387
/-- both have read a clause -/
def OKC (T : Nat → Int32) (B : jmM) (x z n : Nat) (l : Int32) (p : jmM × RS) (Q : Option Value → jmM → Prop) : Prop := p.2.2.2.1 = 0 → ∀ B' i' tt' FM' O' a', FrM x B B' → mI B' 195 19 = l → IV B' p.1 x (n + 1) p.2.2.2.2.2 p.2.2.2.2.1 → G0 z p.2 tt' → i' ≤ z → rSk T i' = rSk T p.2.1 → (∀ j, j < p.2.2.2.2.1 → FM' j = kTr (p.2.2.2.2.2 j)) → Q (some (.int 1)) (nM B' x i' (nI tt') 0 0 0 p.2.2.2.2.1 FM' O' a')
def ERC (B : jmM) (x : Nat) (p : jmM × RS) (Q : Option Value → jmM → Prop) : Prop := p.2.2.2.1 ≠ 0 → ∀ B', FrM x B B' → ER B' x p.2.2.2.1 Q
section CLE
variable {d : Nat} {B Bx : jmM} {T : Nat → Int32} {x z n r rc tt p0 n0 i : Nat} {t a u kd sort : Int32} {F FM O : Nat → Int32} {Q : Option Value → jmM → Prop} {s : RS}
theorem rMat_ex {p q : Nat} (hp : p < 6) (hq : q < 6) (hpq : p ≠ q) (h : rMat T (jW p) i = true) : rMat T (jW q) i = false := by
  have key : ∀ p, p < 6 → rPkW T i (jV p) = rMat T (jW p) i := by
    intro p hp
    rcases (show p = 0 ∨ p = 1 ∨ p = 2 ∨ p = 3 ∨ p = 4 ∨ p = 5 by omega) with rfl | rfl | rfl | rfl | rfl | rfl
    · exact rw_pull
    · exact rw_heat
    · exact rw_wide
    · exact rw_swirl
    · exact rw_late
    · exact rw_gives
  have hne : ∀ p, p < 6 → ∀ q, q < 6 → p ≠ q → jV p ≠ jV q := by decide +kernel
  rw [← key p hp] at h
  rw [← key q hq]
  unfold rPkW at *
  rw [decide_eq_true_iff] at h
  rw [decide_eq_false_iff_not]
  intro ⟨_, _, e⟩
  exact hne p hp q hq hpq (h.2.2.symm.trans e)
theorem bHas_iff (hN : NR B Bx x) (hc : (kd = 3 ∧ rc = 201) ∨ (kd = 4 ∧ rc = 202) ∨ (kd = 5 ∧ rc = 203)) : bHas Bx kd ↔ 0 ≤ mI B rc x := by
  unfold bHas
  rcases hc with ⟨rfl, rfl⟩ | ⟨rfl, rfl⟩ | ⟨rfl, rfl⟩
  · refine ⟨fun h => ?_, fun h => Or.inl ⟨rfl, (NR1_has hN.1).mp h⟩⟩
    rcases h with ⟨-, h⟩ | ⟨e, -⟩ | ⟨e, -⟩
    · exact (NR1_has hN.1).mpr h
    · exact absurd e (by decide)
    · exact absurd e (by decide)
  · refine ⟨fun h => ?_, fun h => Or.inr (Or.inl ⟨rfl, (NR1_has hN.2.1).mp h⟩)⟩
    rcases h with ⟨e, -⟩ | ⟨-, h⟩ | ⟨e, -⟩
    · exact absurd e (by decide)
    · exact (NR1_has hN.2.1).mpr h
    · exact absurd e (by decide)
  · refine ⟨fun h => ?_, fun h => Or.inr (Or.inr ⟨rfl, (NR1_has hN.2.2).mp h⟩)⟩
    rcases h with ⟨e, -⟩ | ⟨e, -⟩ | ⟨-, h⟩
    · exact absurd e (by decide)
    · exact absurd e (by decide)
    · exact (NR1_has hN.2.2).mpr h
theorem rFail_v {s : RS} {p : Nat} {k : Int32} (h : s.2.2.1 = 0) : (rFail s p k).2.2.1 = 1 + 8 * nI p + k := by
  unfold rFail; rw [if_pos h]
/-- what a rule's SUM and TEST come to -/
theorem GA_clause (hX : XB Bx T z) (g0 : G0 z s tt) (hf : (rIf T u (rSum T u 10 s)).2.2.1 = 0) : ∃ c1 t1 tt', G0 z (rIf T u (rSum T u 10 s)) tt' ∧ (rSum T u 10 s).2.2.2.1 = s.2.2.2.1 + c1.length ∧ (rIf T u (rSum T u 10 s)).2.2.2.1 = s.2.2.2.1 + c1.length + t1.length ∧ (∀ j, j < s.2.2.2.1 → (rIf T u (rSum T u 10 s)).2.2.2.2 j = s.2.2.2.2 j) ∧ kSeg (rIf T u (rSum T u 10 s)).2.2.2.2 s.2.2.2.1 c1 ∧ kSeg (rIf T u (rSum T u 10 s)).2.2.2.2 (s.2.2.2.1 + c1.length) t1 ∧ (∃ q, q ≤ 60 ∧ Tk false q c1) ∧ (t1 ≠ [] → ∃ q, q ≤ 60 ∧ Tk true q t1) ∧ (rTW T (jW 12) (rSum T u 10 s) = true ↔ t1 ≠ []) := by
  have f1 : (rSum T u 10 s).2.2.1 = 0 := by
    rcases Classical.em ((rSum T u 10 s).2.2.1 = 0) with e | e
    · exact e
    · exact absurd hf (by rw [rIf_kp e]; exact e)
  obtain ⟨c1, q1, ha⟩ := GD_sum (u := u) hX 10 (Nat.le_refl _) s tt g0 f1
  have g1 := GA_0 ha g0 f1
  obtain ⟨a1, a2, a3, a4, a5, a6, a7, a8⟩ := ha
  generalize rSum T u 10 s = s1 at *
  have k1 := rSk_z hX g1.2.2.2.1
  have k2 := rSk_ge (T := T) (i := s1.1)
  unfold rIf at hf ⊢
  by_cases e : rTW T (jW 12) s1 = true
  · rw [if_pos e] at hf ⊢
    have k3 := rEnd_z hX k1
    have k4 := rEnd_ge (T := T) (i := rSk T s1.1)
    have g2 : G0 z (rEnd T (rSk T s1.1), s1.2) (tt + q1) := ⟨g1.1, g1.2.1, g1.2.2.1, k3, by have := g1.2.2.2.2; show s1.2.2.2.1 ≤ rEnd T (rSk T s1.1); omega⟩
    obtain ⟨c2, q2, hb⟩ := GD_test hX (GD_factk (u := u) hX 10 (Nat.le_refl _)) _ (tt + q1) g2 hf
    have g3 := GA_0 hb g2 hf
    obtain ⟨b1, b2, b3, b4, b5, b6, b7, b8⟩ := hb
    have b4 : (rTest T (rFact T u 10) (rEnd T (rSk T s1.1), s1.2)).2.2.2.1 = s1.2.2.2.1 + c2.length := b4
    have b5 : kSeg (rTest T (rFact T u 10) (rEnd T (rSk T s1.1), s1.2)).2.2.2.2 s1.2.2.2.1 c2 := b5
    have b6 : ∀ j, j < s1.2.2.2.1 → (rTest T (rFact T u 10) (rEnd T (rSk T s1.1), s1.2)).2.2.2.2 j = s1.2.2.2.2 j := b6
    have hne : c2 ≠ [] := b1.2.1
    refine ⟨c1, c2, _, g3, a4, by omega, fun j hj => (b6 j (by omega)).trans (a6 j hj), kSeg_congr c1 _ (fun j h1 h2 => (b6 j (by omega)).symm) a5, by rw [← a4]; exact b5, ⟨q1, by omega, a1⟩, fun _ => ⟨q2, by omega, b1⟩, ⟨fun _ => hne, fun _ => e⟩⟩
  · rw [if_neg e] at hf ⊢
    refine ⟨c1, [], tt + q1, ⟨g1.1, g1.2.1, g1.2.2.1, k1, ?_⟩, a4, a4, a6, a5, trivial, ⟨q1, by omega, a1⟩, fun h => absurd rfl h, ⟨fun h => absurd h e, fun h => absurd rfl h⟩⟩
    have := g1.2.2.2.2
    show s1.2.2.2.1 ≤ rSk T s1.1
    omega
theorem n_csum (h : NB B T x z) (hX : XB Bx T z) (hu : u = 0 ↔ ¬ x < 4) (g0 : G0 z s tt) (hF : ∀ j, j < s.2.2.2.1 → FM j = kTr (s.2.2.2.2 j)) (hI : IV B Bx x n s.2.2.2.2 s.2.2.2.1) (hn : n < 12) (hk : rKd T u (rSk T s.1) = kd) (hc : kd = 0 ∨ kd = 1 ∨ kd = 2)
    (h1 : OKC T B x z n (mI B 195 19) (rClause T u n Bx s) Q) (h2 : ERC B x (rClause T u n Bx s) Q) : CC (d + 9) 217 [.ref 195, .int kd] (nM B x (rEnd T (rSk T s.1)) (nI tt) 0 0 0 s.2.2.2.1 FM O a) Q := by
  obtain ⟨r, p, c, t, i1, i2, i3, i4⟩ := id hI.1
  have e : rClause T u n Bx s = (bAdd Bx kd (nI s.2.2.2.1) (nI (rSum T u 10 (rEnd T (rSk T s.1), s.2)).2.2.2.1) (nI (rIf T u (rSum T u 10 (rEnd T (rSk T s.1), s.2))).2.2.2.1), rIf T u (rSum T u 10 (rEnd T (rSk T s.1), s.2))) := by
    unfold rClause
    rw [hk, if_neg (by rcases hc with rfl | rfl | rfl <;> decide), if_neg, if_neg (by rcases hc with rfl | rfl | rfl <;> decide)]
    intro e
    rcases e with e | e
    · omega
    · unfold bHas at e
      rcases hc with rfl | rfl | rfl
      · simp at e
      · simp at e
      · simp at e
  rw [e] at h1 h2
  have k1 := rSk_z hX g0.2.2.2.1
  have k2 := rSk_ge (T := T) (i := s.1)
  have k3 := rEnd_z hX k1
  have k4 := rEnd_ge (T := T) (i := rSk T s.1)
  have g1 : G0 z (rEnd T (rSk T s.1), s.2) tt := ⟨g0.1, g0.2.1, g0.2.2.1, k3, by have := g0.2.2.2.2; show s.2.2.2.1 ≤ rEnd T (rSk T s.1); omega⟩
  refine n_summed (s := (rEnd T (rSk T s.1), s.2)) h hX hu g1 hF i3 (by omega) (fun hf FM' O' a' hFM => ?_) h2
  obtain ⟨c1, t1, tt', m1, m2, m3, m4, m5, m6, m7, m8, m9⟩ := GA_clause hX g1 hf
  have hi := m1.2.2.2.1
  have hIv := IV_add (kd := kd) (k' := (rIf T u (rSum T u 10 (rEnd T (rSk T s.1), s.2))).2.2.2.1) hI hn i3 (by omega) (c1 := c1) (t1 := t1) (a := nI s.2.2.2.1) (b := nI (rSum T u 10 (rEnd T (rSk T s.1), s.2)).2.2.2.1) (g := if rTW T (jW 12) (rSum T u 10 (rEnd T (rSk T s.1), s.2)) = true then nI (rSum T u 10 (rEnd T (rSk T s.1), s.2)).2.2.2.1 else -1) (e := nI (rIf T u (rSum T u 10 (rEnd T (rSk T s.1), s.2))).2.2.2.1) rfl (by rw [m2]) (by
      by_cases et : t1 = []
      · rw [if_pos et, if_neg (fun e => m9.mp e et)]
      · rw [if_neg et, if_pos (m9.mpr et), m2]) (by rw [m3]) m3 m4 m5 m6 m7 m8
  have := h1 hf _ (rSk T (rIf T u (rSum T u 10 (rEnd T (rSk T s.1), s.2))).1) tt' FM' O' a' (FrM_cSB (by omega)) rfl hIv m1 (rSk_z hX hi) (skip_skip h hi) hFM
  rw [m1.2.1]
  exact this
theorem n_ctold (h : NB B T x z) (hX : XB Bx T z) (g0 : G0 z s tt) (hF : ∀ j, j < s.2.2.2.1 → FM j = kTr (s.2.2.2.2 j)) (hI : IV B Bx x n s.2.2.2.2 s.2.2.2.1) (hn : n < 12) (hk : rKd T u (rSk T s.1) = kd) (hc : (kd = 3 ∧ rc = 201) ∨ (kd = 4 ∧ rc = 202) ∨ (kd = 5 ∧ rc = 203))
    (h1 : OKC T B x z n (mI B 195 19) (rClause T u n Bx s) Q) (h2 : ERC B x (rClause T u n Bx s) Q) : CC (d + 9) 218 [.ref 195, .ref rc, .int (rMost kd), .int (nI (rSk T s.1))] (nM B x (rSk T s.1) (nI tt) 0 0 0 s.2.2.2.1 FM O a) Q := by
  have hz := h.2.2.2.1
  have k1 := rSk_z hX g0.2.2.2.1
  have k2 := rSk_ge (T := T) (i := s.1)
  have k3 := rEnd_z hX k1
  have k4 := rEnd_ge (T := T) (i := rSk T s.1)
  have k5 := rSk_z hX k3
  have k6 := rSk_ge (T := T) (i := rEnd T (rSk T s.1))
  have k7 : rSk T (rEnd T (rSk T s.1)) + (rNm T (rSk T (rEnd T (rSk T s.1)))).1 ≤ z := rNm_z (i := rSk T (rEnd T (rSk T s.1))) hX 400 0 0 k5
  have hb := bHas_iff hI.2 hc
  have hne : kd ≠ -1 := by rcases hc with ⟨rfl, -⟩ | ⟨rfl, -⟩ | ⟨rfl, -⟩ <;> decide
  have h345 : kd = 3 ∨ kd = 4 ∨ kd = 5 := by rcases hc with ⟨e, -⟩ | ⟨e, -⟩ | ⟨e, -⟩ <;> simp [e]
  have hrc : rc = 201 ∨ rc = 202 ∨ rc = 203 := by omega
  rw [n_told (d := d + 6) h k1 hrc k3]
  by_cases e1 : bHas Bx kd
  · have e : rClause T u n Bx s = (Bx, rFail (rSk T s.1, s.2) (rSk T s.1) 4) := by
      unfold rClause
      rw [hk, if_neg hne, if_pos (Or.inr e1)]
    rw [e] at h1 h2
    rw [if_pos (hb.mp e1)]
    have ev := rFail_v (s := (rSk T s.1, s.2)) (p := rSk T s.1) (k := 4) g0.1
    have := h2 (by show (rFail _ _ _).2.2.1 ≠ 0; exact rFail_f (k := 4) (by omega) (by decide)) B FrM_refl
    have this : ER B x (rFail (rSk T s.1, s.2) (rSk T s.1) 4).2.2.1 Q := this
    rw [ev] at this
    exact this _ _ _ _ _ _ _ _
  · have e : rClause T u n Bx s = (bSet Bx kd (rNm T (rSk T (rEnd T (rSk T s.1)))).2, rNum T (rMost kd) (rSk T (rEnd T (rSk T s.1)), s.2)) := by
      unfold rClause
      rw [hk, if_neg hne, if_neg (fun e => e.elim (fun e => by omega) e1), if_pos h345]
    rw [e] at h1 h2
    rw [if_neg (fun e => e1 (hb.mpr e))]
    by_cases e2 : (rNm T (rSk T (rEnd T (rSk T s.1)))).1 = 0
    · rw [if_pos e2]
      have en : rNum T (rMost kd) (rSk T (rEnd T (rSk T s.1)), s.2) = rFail (rSk T (rEnd T (rSk T s.1)) + (rNm T (rSk T (rEnd T (rSk T s.1)))).1, s.2) (rSk T (rEnd T (rSk T s.1))) 0 := by
        unfold rNum; rw [if_pos e2]
      rw [en] at h2
      have ev := rFail_v (s := (rSk T (rEnd T (rSk T s.1)) + (rNm T (rSk T (rEnd T (rSk T s.1)))).1, s.2)) (p := rSk T (rEnd T (rSk T s.1))) (k := 0) g0.1
      have := h2 (by show (rFail _ _ _).2.2.1 ≠ 0; exact rFail_f (k := 0) (by omega) (by decide)) B FrM_refl
      have this : ER B x (rFail (rSk T (rEnd T (rSk T s.1)) + (rNm T (rSk T (rEnd T (rSk T s.1)))).1, s.2) (rSk T (rEnd T (rSk T s.1))) 0).2.2.1 Q := this
      rw [ev] at this
      exact this _ _ _ _ _ _ _ _
    · rw [if_neg e2]
      by_cases e3 : 5 < (rNm T (rSk T (rEnd T (rSk T s.1)))).1 ∨ rMost kd < (rNm T (rSk T (rEnd T (rSk T s.1)))).2
      · rw [if_pos e3]
        have en : rNum T (rMost kd) (rSk T (rEnd T (rSk T s.1)), s.2) = rFail (rSk T (rEnd T (rSk T s.1)) + (rNm T (rSk T (rEnd T (rSk T s.1)))).1, s.2) (rSk T (rEnd T (rSk T s.1))) 1 := by
          unfold rNum; rw [if_neg e2, if_pos e3]
        rw [en] at h2
        have ev := rFail_v (s := (rSk T (rEnd T (rSk T s.1)) + (rNm T (rSk T (rEnd T (rSk T s.1)))).1, s.2)) (p := rSk T (rEnd T (rSk T s.1))) (k := 1) g0.1
        have := h2 (by show (rFail _ _ _).2.2.1 ≠ 0; exact rFail_f (k := 1) (by omega) (by decide)) B FrM_refl
        have this : ER B x (rFail (rSk T (rEnd T (rSk T s.1)) + (rNm T (rSk T (rEnd T (rSk T s.1)))).1, s.2) (rSk T (rEnd T (rSk T s.1))) 1).2.2.1 Q := this
        rw [ev] at this
        exact this _ _ _ _ _ _ _ _
      · rw [if_neg e3]
        have en : rNum T (rMost kd) (rSk T (rEnd T (rSk T s.1)), s.2) = (rSk T (rEnd T (rSk T s.1)) + (rNm T (rSk T (rEnd T (rSk T s.1)))).1, s.2) := by
          unfold rNum; rw [if_neg e2, if_neg e3]
        rw [en] at h1
        obtain ⟨M, hM, hv⟩ := rNm_val (T := T) (i := rSk T (rEnd T (rSk T s.1))) 400 0 0 0 rfl (by decide)
        have hv : (rNm T (rSk T (rEnd T (rSk T s.1)))).2 = nI M := hv
        have v0 : 0 ≤ (rNm T (rSk T (rEnd T (rSk T s.1)))).2 := by rw [hv]; exact nI_pos' (by omega)
        have v1 : (rNm T (rSk T (rEnd T (rSk T s.1)))).2 ≤ rMost kd := Int32.not_lt.mp (fun e => e3 (Or.inr e))
        have hIv := IV_set (kd := kd) hI hc v0 v1
        have hrow : FrM x B (cI B rc (jup (mI B rc) x (rNm T (rSk T (rEnd T (rSk T s.1)))).2)) := FrM_row (by omega) (by omega)
        refine h1 g0.1 _ (rSk T (rEnd T (rSk T s.1)) + (rNm T (rSk T (rEnd T (rSk T s.1)))).1) tt FM O _ hrow (by rw [mI_ne (by omega)]) hIv ⟨g0.1, g0.2.1, g0.2.2.1, k7, ?_⟩ k7 rfl hF
        have := g0.2.2.2.2
        show s.2.2.2.1 ≤ rSk T (rEnd T (rSk T s.1)) + (rNm T (rSk T (rEnd T (rSk T s.1)))).1
        omega
end CLE
