/-! ===== what each part of the relation rests on ===== -/
section FRM
variable {m m' : jmM} {nf nm : Nat} {G : Nat → KLaw} {P : Pt} {a n k : Nat}
theorem RA_fr (hS : mS m' = mS m) (hR : mR m' = mR m) (hN : mN m' = mN m) (hZ : mZ m' = mZ m) (h1 : mI m' 119 0 = mI m 119 0) (h2 : mI m' 86 2 = mI m 86 2) (h3 : mI m' 195 21 = mI m 195 21) (h : RA m) : RA m' := by
  unfold RA at h ⊢
  rw [hS, hR, hN, hZ, h1, h2, h3]; exact h
theorem RA_fr2 (hS : mS m' = mS m) (hR : mR m' = mR m) (hN : mN m' = mN m) (hZ : mZ m' = mZ m) (h1 : mI m' 119 0 = 0) (h2 : ∃ t, mI m' 86 2 = nI t) (h3 : ∃ t, mI m' 195 21 = nI t) (h : RA m) : RA m' := by
  obtain ⟨a1, a2, a3, a4, -⟩ := h
  refine ⟨?_, ?_, ?_, ?_, h1, h2, h3⟩
  · rw [hS, hR]; exact a1
  · rw [hS, hR]; exact a2
  · rw [hN]; exact a3
  · rw [hZ]; exact a4
theorem RT_fr (h1 : mI m' 2 1 = mI m 2 1) (h2 : mI m' 3 = mI m 3) (h3 : mI m' 195 1 = mI m 195 1) (h4 : mI m' 196 = mI m 196) (h : RT m) : RT m' := by
  unfold RT at h ⊢
  rw [h1, h2, h3, h4]; exact h
theorem RU_fr (h1 : mI m' 89 = mI m 89) (h2 : mI m' 90 = mI m 90) (h3 : mI m' 207 = mI m 207) (h4 : mI m' 208 = mI m 208) (h5 : mI m' 0 7 = mI m 0 7) (h6 : mI m' 195 31 = mI m 195 31) (h : RU m) : RU m' := by
  unfold RU at h ⊢
  rw [h1, h2, h3, h4, h5, h6]; exact h
theorem RL_fr (hS : mS m' = mS m) (hR : mR m' = mR m) (hI : ∀ j, 12 ≤ j → j < 86 → mI m' j = mI m j) (hM : ∀ j, 197 ≤ j → j ≤ 203 → mI m' j = mI m j) (h1 : mI m' 10 1 = mI m 10 1) (h2 : mI m' 36 1 = mI m 36 1) (h3 : mI m' 195 9 = mI m 195 9) (h4 : mI m' 195 10 = mI m 195 10) (h : RLw nf nm G m) : RLw nf nm G m' := by
  obtain ⟨l1, l2, l3, l4, l5, l6, l7⟩ := h
  exact ⟨l1, XLaws_fr l1.1 l1.2.1 hS hR hI l2, MLaws_fr (fun j a1 a2 => hM j (by omega) (by omega)) l3, h1.trans l4, h2.trans l5, h3.trans l6, h4.trans l7⟩
theorem MP_fr (hI : ∀ j, 209 ≤ j → j ≤ 213 → mI m' j = mI m j) (h1 : mL m' 210 = mL m 210) (h2 : mL m' 214 = mL m 214) (h : MP m 195 P) : MP m' 195 P := by
  unfold MP at h ⊢
  rw [hI (195 + 14) (by omega) (by omega), hI (195 + 18) (by omega) (by omega), hI (195 + 16) (by omega) (by omega), hI (195 + 17) (by omega) (by omega), show 195 + 15 = 210 from rfl, show 195 + 19 = 214 from rfl, h1, h2]; exact h
theorem XPot_fr (hS : mS m' = mS m) (hR : mR m' = mR m) (hI : ∀ j, a ≤ j → j ≤ a + 8 → mI m' j = mI m j) (hL : ∀ j, a ≤ j → j ≤ a + 10 → mL m' j = mL m j) (h : XPot m a P) : XPot m' a P := by
  unfold XPot XPs XPr at h ⊢
  rw [hS, hR, hI a (by omega) (by omega), hI (a + 1) (by omega) (by omega), hI (a + 2) (by omega) (by omega), hI (a + 3) (by omega) (by omega), hI (a + 4) (by omega) (by omega), hI (a + 5) (by omega) (by omega), hI (a + 6) (by omega) (by omega), hI (a + 7) (by omega) (by omega), hI (a + 8) (by omega) (by omega), hL a (by omega) (by omega), hL (a + 9) (by omega) (by omega), hL (a + 10) (by omega) (by omega)]
  exact h
theorem RP_fr (hS : mS m' = mS m) (hR : mR m' = mR m) (hI : ∀ j, 91 ≤ j → j ≤ 99 → mI m' j = mI m j) (hL : ∀ j, 91 ≤ j → j ≤ 101 → mL m' j = mL m j) (hM : ∀ j, 209 ≤ j → j ≤ 213 → mI m' j = mI m j) (h1 : mL m' 210 = mL m 210) (h2 : mL m' 214 = mL m 214) (h : RP nf nm m) : RP nf nm m' := by
  obtain ⟨n, P, p1, p2, p3⟩ := h
  exact ⟨n, P, MP_fr hM h1 h2 p1, XPot_fr hS hR (fun j a b => hI j (by omega) (by omega)) (fun j a b => hL j (by omega) (by omega)) p2, p3⟩
theorem RIk_fr (hk : k < 4) (hS : mS m' = mS m) (hR : mR m' = mR m) (hI : ∀ j, 131 + 14 * k ≤ j → j ≤ 144 + 14 * k → mI m' j = mI m j) (hL : ∀ j, 131 + 14 * k ≤ j → j ≤ 144 + 14 * k → mL m' j = mL m j) (h1 : ∀ j, 3644 * k ≤ j → j < 3644 * k + 3644 → mI m' 220 j = mI m 220 j) (h2 : ∀ j, 3606 * k ≤ j → j < 3606 * k + 3606 → mL m' 221 j = mL m 221 j) (h3 : mI m' 222 k = mI m 222 k) (h : RIk nf nm k m) : RIk nf nm k m' := by
  unfold RIk at h ⊢
  rw [h3, hI (131 + 14 * k) (by omega) (by omega), hI (143 + 14 * k) (by omega) (by omega), hI (144 + 14 * k) (by omega) (by omega)]
  obtain ⟨q1, q2, q3⟩ := h
  refine ⟨q1, q2, fun q => ?_⟩
  obtain ⟨⟨n, P, ⟨k1, k2, k3⟩, k4, k5⟩, k6, k7⟩ := q3 q
  have h6 := k5.2.1
  refine ⟨⟨n, P, ⟨?_, ?_, ?_⟩, XPot_fr hS hR (fun j a b => hI j (by omega) (by omega)) (fun j a b => hL j (by omega) (by omega)) k4, k5⟩, ?_, ?_⟩
  · intro i hi; rw [h1 _ (by omega) (by omega)]; exact k1 i hi
  · intro i hi; rw [h1 _ (by omega) (by omega), h1 _ (by omega) (by omega), h2 _ (by omega) (by omega)]; exact k2 i hi
  · intro i hi; rw [h1 _ (by omega) (by omega), h2 _ (by omega) (by omega)]; exact k3 i hi
  · intro i hi; rw [h1 _ (by omega) (by omega), h1 _ (by omega) (by omega)]; exact k6 i hi
  · rw [h1 _ (by omega) (by omega)]; exact k7
theorem RI_fr (hS : mS m' = mS m) (hR : mR m' = mR m) (hI : ∀ j, 131 ≤ j → j ≤ 186 → mI m' j = mI m j) (hL : ∀ j, 131 ≤ j → j ≤ 186 → mL m' j = mL m j) (h1 : ∀ j, j < 14576 → mI m' 220 j = mI m 220 j) (h2 : ∀ j, j < 14424 → mL m' 221 j = mL m 221 j) (h3 : mI m' 222 = mI m 222) (h : RI nf nm m) : RI nf nm m' := fun k hk => RIk_fr hk hS hR (fun j a b => hI j (by omega) (by omega)) (fun j a b => hL j (by omega) (by omega)) (fun j a b => h1 j (by omega)) (fun j a b => h2 j (by omega)) (by rw [h3]) (h k hk)
theorem RW_fr (h1 : mI m' 0 12 = mI m 0 12) (h2 : mI m' 195 32 = mI m 195 32) (hI : ∀ j, 187 ≤ j → j < 195 → mI m' j = mI m j) (h3 : mI m' 215 = mI m 215) (h : RW m) : RW m' := by
  obtain ⟨w, w1, w2, w3, w4⟩ := h
  refine ⟨w, w1, h1.trans w2, h2.trans w3, fun k hk => ?_⟩
  rw [h3, hI (187 + k) (by omega) (by omega)]
  exact w4 k hk
theorem RS_fr (h1 : mI m' 121 4 = mI m 121 4) (h2 : mI m' 195 47 = mI m 195 47) (hI : ∀ j, 122 ≤ j → j ≤ 125 → mI m' j = mI m j) (h3 : mI m' 223 = mI m 223) (h : RS1 m) : RS1 m' := by
  unfold RS1 at h ⊢
  rw [h1, h2, h3, hI 122 (by omega) (by omega), hI 123 (by omega) (by omega), hI 124 (by omega) (by omega), hI 125 (by omega) (by omega)]
  exact h
theorem RR_fr (h1 : mI m' 0 18 = mI m 0 18) (h2 : mI m' 195 37 = mI m 195 37) (h3 : mI m' 129 = mI m 129) (h4 : mI m' 130 = mI m 130) (h5 : mI m' 219 = mI m 219) (h : RR m) : RR m' := by
  unfold RR at h ⊢
  rw [h1, h2, h3, h4, h5]; exact h
end FRM
