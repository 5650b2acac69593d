/-! ===== begin, on both ===== -/
section PUB8
variable {m : jmM} {x1 x2 x3 x4 x5 x6 x7 x8 x9 : Int32}
theorem pub_begin (h : Rel m) : PUB 146 231 [.ref 0, .int x1, .int x2, .int x3, .int x4, .int x5, .int x6, .int x7, .int x8, .int x9] [.ref 195, .int x1, .int x2, .int x3, .int x4, .int x5, .int x6, .int x7, .int x8, .int x9] m := by
  obtain ⟨nf, nm, G, hA, hT, hU, hL, hP, hI, hW, hS, hR⟩ := id h; obtain ⟨n, P, hM, hX, hG⟩ := id hP; have hx := hA.1.1; have hl := hA.2.1; have hp := hX.1; have hx1 := hA.1.2.1; have hx4 := hA.1.2.2.2.2.2.2.2.2.2.2; have hx86 := hA.1.2.2.2.2.2.1
  obtain ⟨l1, l2, l3, l4, l5, l6, l7⟩ := id hL
  refine PUB_mk fun Q1 h1 => ?_
  by_cases hc : (0 ≤ x1 ∧ x1 < nI nf) ∧ (0 ≤ x2 ∧ x2 < nI nm) ∧ 0 ≤ x7 ∧ (1 ≤ x3 ∧ x3 ≤ 99999) ∧ (1 ≤ x4 ∧ x4 ≤ 9999) ∧ (0 ≤ x5 ∧ x5 ≤ 999) ∧ (1 ≤ x6 ∧ x6 ≤ 9999) ∧ (1 ≤ x8 ∧ x8 ≤ 900) ∧ (0 ≤ x9 ∧ x9 ≤ 999)
  · have n4 := l1.1
    have n8 := l1.2.1
    refine X_begin hA hp l4 n4 l5 n8 hc fun mX hbg => ?_
    apply h1; intro Q2 h2
    obtain ⟨f, hf, rfl⟩ := k_stuff x1 nf (by omega) hc.1
    obtain ⟨g, hg, rfl⟩ := k_stuff x2 nm (by omega) hc.2.1
    rw [jx_nI (by omega), jx_nI (by omega)] at hbg
    obtain ⟨y1, y2, y3, y4, y5, y6, y7, y8, y9, y10, y11⟩ := id hbg
    have xI : ∀ b, 95 ≤ b → mI mX b = mI m b := fun b hb => y10 b (by omega) (by omega) (by omega) (by omega)
    have hRK : RK m mX := by
      intro b j hb
      by_cases e : b = 91
      · subst e; have := hb (Or.inl rfl); rw [y5, jup_ne this.2, jup_ne this.1]
      · rw [y4 b e]
    have hlX : MLay (mS mX) (mR mX) 195 := by rw [y1]; exact MLay_k hRK hl
    refine (M_begin hlX (by rw [xI 195 (by decide)]; exact l6) n4 (by rw [xI 195 (by decide)]; exact l7) n8 hc).mpr ?_
    rw [xI 209 (by decide), xI 207 (by decide), xI 208 (by decide), xI 211 (by decide), xI 212 (by decide)]
    apply h2
    obtain ⟨E, hE⟩ : ∃ E, cI (cI (cL (cI mX 209 (bgS (nI f) (nI g) x3 x4 x5 x6 x7 x8 x9 (mI m 209))) 210 (jfor (fun k M => jup M k (mI m 207 k).toInt64) 0 6 (mL mX 210))) 211 (jfor (fun k M => jup M k (mI m 207 k)) 0 6 (mI m 211))) 212 (jfor (fun k M => jup M k (mI m 208 k)) 0 6 (mI m 212)) = E := ⟨_, rfl⟩
    rw [hE]
    have eS : mS E = mS m := by rw [← hE]; exact y1
    have eN : mN E = mN m := by rw [← hE]; exact y2
    have eZ : mZ E = mZ m := by rw [← hE]; exact y3
    have eR : mR E = mR mX := by rw [← hE]; rfl
    have hRE : RK m E := by unfold RK; rw [eR]; exact hRK
    have eX : ∀ b, b < 195 → mI E b = mI mX b := fun b hb => by rw [← hE, mI_ne (by omega), mI_ne (by omega), mI_cL, mI_ne (by omega)]
    have eI : ∀ b, b ≠ 91 → b ≠ 92 → b ≠ 93 → b ≠ 94 → b ≠ 209 → b ≠ 211 → b ≠ 212 → mI E b = mI m b := fun b a1 a2 a3 a4 a5 a6 a7 => by rw [← hE, mI_ne a7, mI_ne a6, mI_cL, mI_ne a5, y10 b a1 a2 a3 a4]
    have eLX : ∀ b, b ≠ 210 → mL E b = mL mX b := fun b hb => by rw [← hE, mL_cI, mL_cI, mL_ne hb, mL_cI]
    have eL : ∀ b, b ≠ 91 → b ≠ 101 → b ≠ 210 → mL E b = mL m b := fun b a1 a2 a3 => by rw [eLX b a3, y11 b a1 a2]
    have hpot := bg_pot (m := m) (m' := mX) (f := f) (g := g) (P := (mI E 209, mI E 213, mL E 214, mL E 210, mI E 211, mI E 212)) hf hg n4 n8 hp hU hbg hc.2.2 (by rw [← hE, mI_ne (by decide), mI_ne (by decide), mI_cL, mI_same]) (fun k hk => by show mL E 210 k = _; rw [← hE, mL_cI, mL_cI, mL_same, jcopy, if_pos (by omega)]) (fun k hk => by show mI E 211 k = _; rw [← hE, mI_ne (by decide), mI_same, jcopy, if_pos (by omega)]) (fun k hk => by show mI E 212 k = _; rw [← hE, mI_same, jcopy, if_pos (by omega)])
    refine ⟨nf, nm, G, RA_frk eS hRE eN eZ ?_ ?_ ?_ hA, RT_fr ?_ ?_ ?_ ?_ hT, RU_fr ?_ ?_ ?_ ?_ ?_ ?_ hU, RL_frk eS hRE ?_ ?_ ?_ ?_ ?_ ?_ hL, ⟨0, (mI E 209, mI E 213, mL E 214, mL E 210, mI E 211, mI E 212), ⟨rfl, rfl, rfl, rfl, rfl, rfl⟩, ?_, hpot.2⟩, RI_frk eS ?_ ?_ ?_ ?_ ?_ ?_ hI, RW_fr ?_ ?_ ?_ ?_ hW, RS_fr ?_ ?_ ?_ ?_ hS, RR_fr ?_ ?_ ?_ ?_ ?_ hR⟩
    · rw [eI 119 (by omega) (by omega) (by omega) (by omega) (by omega) (by omega) (by omega)]; exact hA.2.2.2.2.1
    · rw [eI 86 (by omega) (by omega) (by omega) (by omega) (by omega) (by omega) (by omega)]; exact hA.2.2.2.2.2.1
    · rw [eI 195 (by omega) (by omega) (by omega) (by omega) (by omega) (by omega) (by omega)]; exact hA.2.2.2.2.2.2
    all_goals first | exact eI _ (by omega) (by omega) (by omega) (by omega) (by omega) (by omega) (by omega) | exact congrFun (eI _ (by omega) (by omega) (by omega) (by omega) (by omega) (by omega) (by omega)) _ | (intro j a b; exact eI j (by omega) (by omega) (by omega) (by omega) (by omega) (by omega) (by omega)) | (intro j a b; exact eL j (by omega) (by omega) (by omega)) | (intro j a; exact congrFun (eI _ (by omega) (by omega) (by omega) (by omega) (by omega) (by omega) (by omega)) _) | (intro j a; exact congrFun (eL _ (by omega) (by omega) (by omega)) _) | (intro j a b; rw [eR]; exact y4 j (by omega)) | exact XPot_fr (by rw [eS, y1]) eR (fun j a b => eX j (by omega)) (fun j a b => eLX j (by omega)) hpot.1
  · refine (X_begin_no hA l4 l1.1 l5 l1.2.1 hc).mpr ?_
    apply h1; intro Q2 h2
    refine (M_begin_no hl l6 l1.1 l7 l1.2.1 hc).mpr ?_
    exact h2 _ h
end PUB8
