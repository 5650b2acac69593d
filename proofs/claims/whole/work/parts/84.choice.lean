/-! ===== choice ===== -/
section CHO
variable {m m1 m2 m0 : jmM} {nf nm n N d W : Nat} {G : Nat → KLaw} {P P' : Pt} {Q : Option Value → jmM → Prop} {x y : Int32} {S : Nat → Int32}
def XTc (m m' : jmM) : Prop := mS m' = mS m ∧ mN m' = mN m ∧ mZ m' = mZ m ∧ (∀ b, b ≠ 102 → mR m' b = mR m b) ∧ (∀ j, j ≠ 1 → j ≠ 2 → mR m' 102 j = mR m 102 j) ∧ (∃ t, mI m' 86 2 = nI t) ∧ mI m' 119 0 = 0 ∧ (∀ b, b ≠ 86 → b < 102 ∨ b = 113 ∨ b = 114 ∨ 120 < b → mI m' b = mI m b) ∧ ∀ b, b ≠ 87 → b ≠ 88 → b < 102 ∨ 112 < b → mL m' b = mL m b
theorem XTc.refl (h : ∃ t, mI m 86 2 = nI t) (h' : mI m 119 0 = 0) : XTc m m := ⟨rfl, rfl, rfl, fun _ _ => rfl, fun _ _ _ => rfl, h, h', fun _ _ _ => rfl, fun _ _ _ _ => rfl⟩
theorem XTc.trans (h : XTc m m1) (h' : XTc m1 m2) : XTc m m2 := by
  obtain ⟨a1, a2, a3, a4, a5, -, -, a7, a8⟩ := h
  obtain ⟨b1, b2, b3, b4, b5, b6, b6', b7, b8⟩ := h'
  exact ⟨b1.trans a1, b2.trans a2, b3.trans a3, fun b hb => (b4 b hb).trans (a4 b hb), fun j h1 h2 => (b5 j h1 h2).trans (a5 j h1 h2), b6, b6', fun b h1 h2 => (b7 b h1 h2).trans (a7 b h1 h2), fun b h1 h2 h3 => (b8 b h1 h2 h3).trans (a8 b h1 h2 h3)⟩
theorem LyF.c (h : LyF m m1) (ht : ∃ t, mI m 86 2 = nI t) : XTc m m1 := by
  obtain ⟨⟨e1, e2, e3, e4, e5⟩, e6, e7⟩ := h
  exact ⟨e1, e3, e4, fun b _ => by rw [e2], fun j _ _ => by rw [e2], by rw [e6 86 (by omega)]; exact ht, e7, fun b _ hb => e6 b (by omega), fun b _ _ _ => by rw [e5]⟩
theorem XTc.rk (h : XTc m m1) : RK m m1 := by
  obtain ⟨a1, a2, a3, a4, a5, -⟩ := h
  intro b j hb
  by_cases e : b = 102
  · subst e; exact a5 j (hb (by unfold isPt; omega)).1 (hb (by unfold isPt; omega)).2
  · rw [a4 b e]
def XCH (G : Nat → KLaw) (nf nm n W : Nat) (S : Nat → Int32) (P : Pt) (m : jmM) : Prop := RA m ∧ RU m ∧ RLw nf nm G m ∧ XPot m 91 P ∧ GP nf nm n P ∧ mI m 0 12 = nI W ∧ WOk S W ∧ ∀ w, w < W → ∀ j, j < 6 → mI m (187 + w) j = S (6 * w + j)
theorem XCH.tr (h : XTc m m1) (hh : XCH G nf nm n W S P m) : XCH G nf nm n W S P m1 := by
  obtain ⟨h1, h2, h3, h4, h5, h6, h7, h8⟩ := hh
  have hk := h.rk
  obtain ⟨a1, a2, a3, a4, a5, a6, a6', a7, a8⟩ := h
  have h8W := h7.1
  refine ⟨RA_frk a1 hk a2 a3 a6' a6 ?_ h1, RU_k (m := m) (fun k hk => ?_) ?_ ?_ h2, RL_frk a1 hk ?_ ?_ ?_ ?_ ?_ ?_ h3, XPot_frk a1 ?_ ?_ ?_ h4, h5, ?_, h7, ?_⟩
  · rw [a7 195 (by omega) (by omega)]; exact h1.2.2.2.2.2.2
  · rw [a7 89 (by omega) (by omega), a7 90 (by omega) (by omega), a7 207 (by omega) (by omega), a7 208 (by omega) (by omega)]; exact ⟨rfl, rfl, rfl, rfl⟩
  · rw [a7 0 (by omega) (by omega)]
  · rw [a7 195 (by omega) (by omega)]
  · intro j u v; exact a7 j (by omega) (by omega)
  · intro j u v; exact a7 j (by omega) (by omega)
  · rw [a7 10 (by omega) (by omega)]
  · rw [a7 36 (by omega) (by omega)]
  · rw [a7 195 (by omega) (by omega)]
  · rw [a7 195 (by omega) (by omega)]
  · intro j u v; exact a4 j (by omega)
  · intro j u v; exact a7 j (by omega) (by omega)
  · intro j u v; exact a8 j (by omega) (by omega) (by omega)
  · rw [a7 0 (by omega) (by omega)]; exact h6
  · intro w hw j hj; rw [a7 (187 + w) (by omega) (by omega)]; exact h8 w hw j hj
def kV (S : Nat → Int32) (x : Int32) (W n : Nat) (P : Pt) : Int32 := nI ((kD S P x n W n).1 0)
def kV1 (G : Nat → KLaw) (N : Nat) (S : Nat → Int32) (x : Int32) (W n : Nat) (P : Pt) : Int32 := kV S x W (n + (kGo G N P).1) (kGo G N P).2
def kMb (n : Nat) (P : Pt) : Nat × Pt := if kFf P n < n then (kFf P n, kBk P n (kFf P n)) else (n, P)
theorem kMb_GP (hG : GP nf nm n P) : GP nf nm (kMb n P).1 (kMb n P).2 := by
  unfold kMb
  by_cases h : kFf P n < n
  · rw [if_pos h]; exact kBk_GP hG h
  · rw [if_neg h]; exact hG
theorem X_become (h : XCH G nf nm n W S P m) : ∃ m1, CE 99 49 [.ref 102, .ref 91] m none m1 ∧ XPot m1 102 P ∧ XTc m m1 := by
  obtain ⟨hA, hU, hL, hX, hG, w1, w2, w3⟩ := h
  have hp := hA.1.2.2.2.2.2.2.2.1
  obtain ⟨m1, c1, c2, e1, e2, e3, e4, e5, e6, e7⟩ := X_becomeLike (d := 95) (a := 102) (b := 91) hp hX hG (by omega)
  refine ⟨m1, c1, c2, e1, e2, e3, e4, fun j u v => by rw [e5, jup_ne v, jup_ne u], ?_, ?_, fun b _ hb => e6 b (by omega), fun b _ _ hb => e7 b (by omega) (by omega) (by omega)⟩
  · rw [e6 86 (by omega)]; exact hA.2.2.2.2.2.1
  · rw [e6 119 (by omega)]; exact hA.2.2.2.2.1
theorem X_mb (h : XCH G nf nm n W S P m) (hX2 : XPot m 102 P) (hf : kFf P n < n) : ∃ m1, CE 99 60 [.ref 102, .int (nI (kFf P n))] m (some (.int (nI n - nI (kFf P n)))) m1 ∧ XPot m1 102 (kBk P n (kFf P n)) ∧ XTc m m1 := by
  obtain ⟨hA, hU, hL, hX, hG, w1, w2, w3⟩ := h
  obtain ⟨m1, c1, c2, e1, e2, e3, e4, e5, e6⟩ := X_meltBack (d := 95) hX2 hG hf
  refine ⟨m1, c1, c2, e1, e3, e4, fun b _ => by rw [e2], fun j _ _ => by rw [e2], ?_, ?_, fun b _ hb => e5 b (by omega), fun b _ _ hb => e6 b (by omega)⟩
  · rw [e5 86 (by omega)]; exact hA.2.2.2.2.2.1
  · rw [e5 119 (by omega)]; exact hA.2.2.2.2.1
theorem X_go {n2 : Nat} {P2 : Pt} (h : XCH G nf nm n W S P m) (hX2 : XPot m 102 P2) (hG2 : GP nf nm n2 P2) (hN : N ≤ 600) : ∃ m1, CE 99 53 [.ref 102, .int (nI N), .ref 86] m (some (.int (nI (kGo G N P2).1))) m1 ∧ XPot m1 102 (kGo G N P2).2 ∧ XTc m m1 := by
  obtain ⟨hA, hU, hL, hX, hG, w1, w2, w3⟩ := h
  obtain ⟨m1, c1, c2, q1, q2, q3, q4, q5, q6, q7⟩ := X_goOn (d := 90) (a := 102) (N := N) hL.1 (by omega) hN hX2 hG2 hL.2.1 hA.1.2.2.2.2.2.1 hA.2.2.2.2.2.1
  refine ⟨m1, c1, c2, q1, q3, q4, fun b _ => by rw [q2], fun j _ _ => by rw [q2], q7, ?_, fun b u hb => q5 b (by omega) (by omega) u, fun b u v hb => q6 b (by omega) (by omega) (by omega) u v⟩
  rw [q5 119 (by omega) (by omega) (by omega)]; exact hA.2.2.2.2.1
theorem X_mc {a n2 : Nat} {P2 : Pt} (h : XCH G nf nm n W S P m) (ha : a + 10 < 115) (hX2 : XPot m a P2) (hG2 : GP nf nm n2 P2) : ∃ m1, CE 99 178 [.ref 0, .ref a] m (some (.int (kV S (mI m 195 31) W n2 P2))) m1 ∧ XTc m m1 := by
  obtain ⟨hA, hU, hL, hX, hG, w1, w2, w3⟩ := h
  obtain ⟨m1, c1, c2, -⟩ := x_most (d := 93) hA hU hX2 ha hG2 w1 w2 w3
  exact ⟨m1, CE.of c1, c2.c hA.2.2.2.2.2.1⟩
theorem kV_eqv (h : XCH G nf nm n W S P m) (hE : PE n P P') : kV S (mI m 195 31) W n P' = kV S (mI m 195 31) W n P := by
  obtain ⟨hA, hU, hL, hX, hG, w1, w2, w3⟩ := id h
  have hX' := XPot_eqv hE hG.1 hG.2.1 hX
  have hG' := GP_eqv hE hG
  obtain ⟨m1, c1, -⟩ := X_mc h (show 91 + 10 < 115 by omega) hX hG
  obtain ⟨m2, d1, -⟩ := X_mc h (show 91 + 10 < 115 by omega) hX' hG'
  have e := (c1.uniq d1).1
  injection e with e
  injection e with e
  exact e.symm
theorem kGo_n (hk : KLaws G nf nm) (hX2 : XPot m 102 (kGo G N P).2) (hG : GP nf nm n P) : mI m 102 11 = nI (n + (kGo G N P).1) ∧ n + (kGo G N P).1 ≤ 600 ∧ GP nf nm (n + (kGo G N P).1) (kGo G N P).2 := by
  obtain ⟨a1, -⟩ := kGo_all hk N n P hG
  exact ⟨hX2.2.1.1.2.2.2.2.2.2.2.trans a1.1, a1.2.1, a1⟩
theorem kV1_eqv {n2 : Nat} {P2 P2' : Pt} (h : XCH G nf nm n W S P m) (hX2 : XPot m 102 P2) (hX2' : XPot m 102 P2') (hG2 : GP nf nm n2 P2) (hG2' : GP nf nm n2 P2') (hN : N ≤ 600) : kV1 G N S (mI m 195 31) W n2 P2' = kV1 G N S (mI m 195 31) W n2 P2 := by
  have hk := h.2.2.1.1
  obtain ⟨m1, c1, c2, c3⟩ := X_go (N := N) h hX2 hG2 hN
  obtain ⟨m2, d1, d2, d3⟩ := X_go (N := N) h hX2' hG2' hN
  have e := (c1.uniq d1).2
  subst e
  obtain ⟨a1, a2, a3⟩ := kGo_n hk c2 hG2
  obtain ⟨b1, b2, b3⟩ := kGo_n hk d2 hG2'
  have en : n2 + (kGo G N P2').1 = n2 + (kGo G N P2).1 := by
    have := congrArg jx (b1.symm.trans a1)
    rw [jx_nI (by omega), jx_nI (by omega)] at this
    exact this
  have h1 := h.tr c3
  obtain ⟨m3, f1, -⟩ := X_mc h1 (show 102 + 10 < 115 by omega) c2 a3
  obtain ⟨m4, g1, -⟩ := X_mc h1 (show 102 + 10 < 115 by omega) d2 b3
  have e := (f1.uniq g1).1
  injection e with e
  injection e with e
  have e31 : mI m1 195 31 = mI m 195 31 := by rw [c3.2.2.2.2.2.2.2.1 195 (by omega) (by omega)]
  rw [e31] at e
  unfold kV1
  exact e.symm
theorem kFf_eqv (hE : PE n P P') : kFf P' n = kFf P n := by
  unfold kFf
  exact jfind_congr n 0 (fun r _ hr => by rw [(hE.2.2 (6 * r + 5) (by omega)).1])
theorem kV1_e (h : XCH G nf nm n W S P m) (hE : PE n P P') (hN : N ≤ 600) : kV1 G N S (mI m 195 31) W n P' = kV1 G N S (mI m 195 31) W n P := by
  obtain ⟨m1, c1, c2, c3⟩ := X_become h
  have h1 := h.tr c3
  have hG := h.2.2.2.2.1
  have e31 : mI m1 195 31 = mI m 195 31 := by rw [c3.2.2.2.2.2.2.2.1 195 (by omega) (by omega)]
  have := kV1_eqv (N := N) h1 c2 (XPot_eqv hE hG.1 hG.2.1 c2) hG (GP_eqv hE hG) hN
  rw [e31] at this
  exact this
theorem kV2_e (h : XCH G nf nm n W S P m) (hE : PE n P P') (hN : N ≤ 600) : kV1 G N S (mI m 195 31) W (kMb n P').1 (kMb n P').2 = kV1 G N S (mI m 195 31) W (kMb n P).1 (kMb n P).2 := by
  have hff := kFf_eqv hE
  obtain ⟨m1, c1, c2, c3⟩ := X_become h
  have h1 := h.tr c3
  have hG := h.2.2.2.2.1
  have hG' := GP_eqv hE hG
  have c2' := XPot_eqv hE hG.1 hG.2.1 c2
  have h1' : XCH G nf nm n W S P' m1 := ⟨h1.1, h1.2.1, h1.2.2.1, XPot_eqv hE hG.1 hG.2.1 h1.2.2.2.1, hG', h1.2.2.2.2.2⟩
  have e31 : mI m1 195 31 = mI m 195 31 := by rw [c3.2.2.2.2.2.2.2.1 195 (by omega) (by omega)]
  unfold kMb
  rw [hff]
  by_cases hf : kFf P n < n
  · rw [if_pos hf, if_pos hf]
    obtain ⟨m2, d1, d2, d3⟩ := X_mb h1 c2 hf
    obtain ⟨m3, f1, f2, f3⟩ := X_mb h1' c2' (by rw [hff]; exact hf)
    rw [hff] at f1 f2
    have e := (d1.uniq f1).2
    subst e
    have h2 := h1.tr d3
    have e31' : mI m2 195 31 = mI m1 195 31 := by rw [d3.2.2.2.2.2.2.2.1 195 (by omega) (by omega)]
    have := kV1_eqv (N := N) h2 d2 f2 (kBk_GP hG hf) (kBk_GP hG' hf) hN
    rw [e31', e31] at this
    exact this
  · rw [if_neg hf, if_neg hf]
    exact kV1_e h hE hN
/-! the reference -/
def MTc (n : Nat) (P : Pt) (m m' : jmM) : Prop := (mS m' = mS m ∧ mR m' = mR m ∧ mN m' = mN m ∧ mZ m' = mZ m) ∧ (∀ b, b ≠ 195 → (b < 207 ∨ b = 210 ∨ 213 < b) → b ≠ 216 → b ≠ 217 → b ≠ 218 → b ≠ 220 → mI m' b = mI m b) ∧ (∀ b, b ≠ 205 → b ≠ 206 → b ≠ 210 → b ≠ 214 → b ≠ 221 → mL m' b = mL m b) ∧ (∀ i, i < 6 → mI m' 207 i = mI m 207 i ∧ mI m' 208 i = mI m 208 i) ∧ (∀ k, k ≠ 21 → mI m' 195 k = mI m 195 k) ∧ (∃ t, mI m' 195 21 = nI t) ∧ (∀ j, j < 14576 → mI m' 220 j = mI m 220 j) ∧ (∀ j, j < 14424 → mL m' 221 j = mL m 221 j) ∧ ∃ P', MP m' 195 P' ∧ PE n P P'
theorem MTc.trans {P0 : Pt} (h : MTc n P0 m m1) (h' : MTc n P0 m1 m2) : MTc n P0 m m2 := by
  obtain ⟨⟨a1, a2, a3, a4⟩, a5, a6, a7, a8, -, a10, a11, -⟩ := h
  obtain ⟨⟨b1, b2, b3, b4⟩, b5, b6, b7, b8, b9, b10, b11, b12⟩ := h'
  exact ⟨⟨b1.trans a1, b2.trans a2, b3.trans a3, b4.trans a4⟩, fun b h1 h2 h3 h4 h5 h6 => (b5 b h1 h2 h3 h4 h5 h6).trans (a5 b h1 h2 h3 h4 h5 h6), fun b h1 h2 h3 h4 h5 => (b6 b h1 h2 h3 h4 h5).trans (a6 b h1 h2 h3 h4 h5), fun i hi => ⟨(b7 i hi).1.trans (a7 i hi).1, (b7 i hi).2.trans (a7 i hi).2⟩, fun k h1 => (b8 k h1).trans (a8 k h1), b9, fun j hj => (b10 j hj).trans (a10 j hj), fun j hj => (b11 j hj).trans (a11 j hj), b12⟩
def MCH (G : Nat → KLaw) (nf nm n W : Nat) (P : Pt) (m : jmM) : Prop := MLay (mS m) (mR m) 195 ∧ KLaws G nf nm ∧ MLaws m 195 G nf nm ∧ (∃ t, mI m 195 21 = nI t) ∧ mI m 195 32 = nI W ∧ WOk (mI m 215) W ∧ ∃ P', MP m 195 P' ∧ PE n P P' ∧ GP nf nm n P'
theorem MCH.tr (h : MTc n P m m1) (hh : MCH G nf nm n W P m) : MCH G nf nm n W P m1 := by
  obtain ⟨h1, h2, h3, h4, h5, h6, P1, p1, p2, p3⟩ := hh
  obtain ⟨⟨a1, a2, a3, a4⟩, a5, a6, a7, a8, a9, a10, a11, P2, a12, a13⟩ := h
  refine ⟨by rw [a1, a2]; exact h1, h2, MLaws_fr (fun j u v => a5 j (by omega) (by omega) (by omega) (by omega) (by omega) (by omega)) h3, a9, (a8 32 (by decide)).trans h5, by rw [a5 215 (by omega) (by omega) (by omega) (by omega) (by omega) (by omega)]; exact h6, P2, a12, a13, ?_⟩
  have e : PE n P1 P2 := ⟨fun i hi => (a13.1 i hi).trans (p2.1 i hi).symm, fun k hk => ⟨(a13.2.1 k hk).1.trans (p2.2.1 k hk).1.symm, (a13.2.1 k hk).2.1.trans (p2.2.1 k hk).2.1.symm, (a13.2.1 k hk).2.2.trans (p2.2.1 k hk).2.2.symm⟩, fun i hi => ⟨(a13.2.2 i hi).1.trans (p2.2.2 i hi).1.symm, (a13.2.2 i hi).2.trans (p2.2.2 i hi).2.symm⟩⟩
  exact GP_eqv e p3
def kVw (way : Nat) (G : Nat → KLaw) (N : Nat) (S : Nat → Int32) (x : Int32) (W n : Nat) (P : Pt) : Int32 := if way = 0 then kV S x W n P else if way = 1 then kV1 G N S x W n P else kV1 G N S x W (kMb n P).1 (kMb n P).2
end CHO
