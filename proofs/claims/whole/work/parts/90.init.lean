section INI2
variable {m m0 m1 m2 M m' : jmM} {a d kd n b cap : Nat} {Q : Option Value → jmM → Prop}
theorem zr_p (h : sm4 m m' b) (hz : zr m b) : zr m' b := fun j => by rw [h.2.2.1, h.2.2.2]; exact hz j
theorem zr_0 (h1 : mI m b = fun _ => 0) (h2 : mL m b = fun _ => 0) : zr m b := fun j => by rw [h1, h2]; exact ⟨rfl, rfl⟩
theorem LawL_p (h : ∀ c, a ≤ c → c < a + 6 → sm4 m m' c) (hz : LawL (mS m) (mR m) a) : LawL (mS m') (mR m') a := by
  unfold LawL at hz ⊢
  rw [(h a (by omega) (by omega)).1, (h a (by omega) (by omega)).2.1, (h (a + 1) (by omega) (by omega)).1, (h (a + 2) (by omega) (by omega)).1, (h (a + 3) (by omega) (by omega)).1, (h (a + 4) (by omega) (by omega)).1, (h (a + 5) (by omega) (by omega)).1]
  exact hz
theorem TapeL_p (h : ∀ c, a ≤ c → c < a + 2 → sm4 m m' c) (hz : TapeL (mS m) (mR m) a) : TapeL (mS m') (mR m') a := by
  unfold TapeL at hz ⊢
  rw [(h a (by omega) (by omega)).1, (h a (by omega) (by omega)).2.1, (h (a + 1) (by omega) (by omega)).1]
  exact hz
theorem DeskL_p (h : ∀ c, a ≤ c → c < a + 3 → sm4 m m' c) (hz : DeskL (mS m) (mR m) a) : DeskL (mS m') (mR m') a := by
  unfold DeskL at hz ⊢
  rw [(h a (by omega) (by omega)).1, (h a (by omega) (by omega)).2.1, (h (a + 1) (by omega) (by omega)).1, (h (a + 2) (by omega) (by omega)).1]
  exact hz
theorem SliL_p (h : ∀ c, a ≤ c → c < a + 7 → sm4 m m' c) (hz : SliL (mS m) (mR m) a) : SliL (mS m') (mR m') a := by
  unfold SliL at hz ⊢
  rw [(h a (by omega) (by omega)).1, (h a (by omega) (by omega)).2.1, (h (a + 1) (by omega) (by omega)).1, (h (a + 2) (by omega) (by omega)).1, (h (a + 3) (by omega) (by omega)).1, (h (a + 4) (by omega) (by omega)).1, (h (a + 5) (by omega) (by omega)).1, (h (a + 6) (by omega) (by omega)).1]
  exact hz
theorem PotL_p (h : ∀ c, a ≤ c → c < a + 11 → sm4 m m' c) (hz : PotL (mS m) (mR m) a) : PotL (mS m') (mR m') a := by
  unfold PotL at hz ⊢
  rw [(h a (by omega) (by omega)).1, (h a (by omega) (by omega)).2.1, (h (a + 1) (by omega) (by omega)).1, (h (a + 1) (by omega) (by omega)).2.1, (h (a + 2) (by omega) (by omega)).1, (h (a + 3) (by omega) (by omega)).1, (h (a + 4) (by omega) (by omega)).1, (h (a + 5) (by omega) (by omega)).1, (h (a + 6) (by omega) (by omega)).1, (h (a + 7) (by omega) (by omega)).1, (h (a + 8) (by omega) (by omega)).1, (h (a + 9) (by omega) (by omega)).1, (h (a + 10) (by omega) (by omega)).1]
  exact hz
theorem i_Pot (hN : mN m = a) : ∃ m', CE (d + 2) 46 [.ref a] (jNew m 5 19) none m' ∧ (mN m' = a + 11 ∧ mZ m' = mZ m + 6645) ∧ (∀ b, b < a → sm4 m m' b) ∧ PotL (mS m') (mR m') a ∧ (zr m' a ∧ zr m' (a + 1) ∧ zr m' (a + 2) ∧ zr m' (a + 3) ∧ zr m' (a + 4) ∧ zr m' (a + 5) ∧ zr m' (a + 6) ∧ zr m' (a + 7) ∧ zr m' (a + 8) ∧ zr m' (a + 9) ∧ zr m' (a + 10)) := by
  obtain ⟨M, hM⟩ : ∃ M : jmM, M = jNew m 5 19 := ⟨_, rfl⟩
  have nM : mN M = a + 1 := by rw [hM, mN_new, hN]
  have zM : mZ M = mZ m + 19 := by rw [hM, mZ_new]
  have SaM : mS M a = (5, 19) := by rw [hM, mS_new, hN, if_pos rfl]
  have RaM : mR M a = fun _ => none := by rw [hM, mR_new, hN, if_pos rfl]
  have IaM : mI M a = fun _ => 0 := by rw [hM, mI_new, hN, if_pos rfl]
  have LaM : mL M a = fun _ => 0 := by rw [hM, mL_new, hN, if_pos rfl]
  have FM : ∀ c, c ≠ a → sm4 m M c := fun c h => by rw [hM]; exact ⟨by rw [mS_new, hN, if_neg h], by rw [mR_new, hN, if_neg h], by rw [mI_new, hN, if_neg h], by rw [mL_new, hN, if_neg h]⟩
  obtain ⟨x0, ck0, ⟨nx0, zx0⟩, fx0, sk0, yk0, yyk0, yyyk0⟩ := i_Start (d := d) (m := M) (a := a + 1) nM
  simp only [Nat.add_assoc, Nat.reduceAdd, Nat.reduceMul] at nx0 sk0 yk0 yyk0 yyyk0
  have Sax0 : mS x0 a = (5, 19) := (fx0 a (Nat.lt_add_of_pos_right (by decide))).1.trans SaM
  have Rax0 : mR x0 a = mR M a := (fx0 a (Nat.lt_add_of_pos_right (by decide))).2.1
  obtain ⟨k0, hk0⟩ : ∃ k0 : jmM, k0 = cR x0 a (jup (mR M a) 0 (some (a + 1))) := ⟨_, rfl⟩
  have nk0 : mN k0 = a + 4 := by rw [hk0, mN_cR, nx0]
  have zk0 : mZ k0 = mZ M + 20 := by rw [hk0, mZ_cR, zx0]
  have Fk0 : ∀ c, c ≠ a → c < a + 1 → sm4 M k0 c := fun c h1 h2 => by rw [hk0]; exact ⟨by rw [mS_cR, (fx0 c h2).1], by rw [cRv, if_neg h1, (fx0 c h2).2.1], by rw [mI_cR, (fx0 c h2).2.2.1], by rw [mL_cR, (fx0 c h2).2.2.2]⟩
  have Yk0 : ∀ c, c ≠ a → sm4 x0 k0 c := fun c h1 => by rw [hk0]; exact ⟨rfl, by rw [cRv, if_neg h1], rfl, rfl⟩
  have Sak0 : mS k0 a = (5, 19) := by rw [hk0, mS_cR, Sax0]
  have Rak0 : mR k0 a = jup (mR M a) 0 (some (a + 1)) := by rw [hk0, cRv, if_pos rfl]
  have Iak0 : mI k0 a = mI M a := by rw [hk0, mI_cR]; exact (fx0 a (Nat.lt_add_of_pos_right (by decide))).2.2.1
  have Lak0 : mL k0 a = mL M a := by rw [hk0, mL_cR]; exact (fx0 a (Nat.lt_add_of_pos_right (by decide))).2.2.2
  obtain ⟨k1, hk1⟩ : ∃ k1 : jmM, k1 = cR k0 a (jup (mR k0 a) 1 none) := ⟨_, rfl⟩
  have nk1 : mN k1 = a + 4 := by rw [hk1, mN_cR, nk0]
  have zk1 : mZ k1 = mZ k0 := by rw [hk1, mZ_cR]
  have Fk1 : ∀ c, c ≠ a → sm4 k0 k1 c := fun c h1 => by rw [hk1]; exact ⟨rfl, by rw [cRv, if_neg h1], rfl, rfl⟩
  have Sak1 : mS k1 a = (5, 19) := by rw [hk1, mS_cR, Sak0]
  have Rak1 : mR k1 a = jup (mR k0 a) 1 none := by rw [hk1, cRv, if_pos rfl]
  have Iak1 : mI k1 a = mI k0 a := by rw [hk1, mI_cR]
  have Lak1 : mL k1 a = mL k0 a := by rw [hk1, mL_cR]
  obtain ⟨k2, hk2⟩ : ∃ k2 : jmM, k2 = cR k1 a (jup (mR k1 a) 2 none) := ⟨_, rfl⟩
  have nk2 : mN k2 = a + 4 := by rw [hk2, mN_cR, nk1]
  have zk2 : mZ k2 = mZ k1 := by rw [hk2, mZ_cR]
  have Fk2 : ∀ c, c ≠ a → sm4 k1 k2 c := fun c h1 => by rw [hk2]; exact ⟨rfl, by rw [cRv, if_neg h1], rfl, rfl⟩
  have Sak2 : mS k2 a = (5, 19) := by rw [hk2, mS_cR, Sak1]
  have Rak2 : mR k2 a = jup (mR k1 a) 2 none := by rw [hk2, cRv, if_pos rfl]
  have Iak2 : mI k2 a = mI k1 a := by rw [hk2, mI_cR]
  have Lak2 : mL k2 a = mL k1 a := by rw [hk2, mL_cR]
  obtain ⟨k3, hk3⟩ : ∃ k3 : jmM, k3 = cI k2 a (jup (mI k2 a) 3 0) := ⟨_, rfl⟩
  have nk3 : mN k3 = a + 4 := by rw [hk3, mN_cI, nk2]
  have zk3 : mZ k3 = mZ k2 := by rw [hk3, mZ_cI]
  have Fk3 : ∀ c, c ≠ a → sm4 k2 k3 c := fun c h1 => by rw [hk3]; exact ⟨rfl, rfl, by rw [cIv, if_neg h1], rfl⟩
  have Sak3 : mS k3 a = (5, 19) := by rw [hk3, mS_cI, Sak2]
  have Rak3 : mR k3 a = mR k2 a := by rw [hk3, mR_cI]
  have Iak3 : mI k3 a = jup (mI k2 a) 3 0 := by rw [hk3, cIv, if_pos rfl]
  have Lak3 : mL k3 a = mL k2 a := by rw [hk3, mL_cI]
  obtain ⟨k4, hk4⟩ : ∃ k4 : jmM, k4 = cL k3 a (jup (mL k3 a) 4 0) := ⟨_, rfl⟩
  have nk4 : mN k4 = a + 4 := by rw [hk4, mN_cL, nk3]
  have zk4 : mZ k4 = mZ k3 := by rw [hk4, mZ_cL]
  have Fk4 : ∀ c, c ≠ a → sm4 k3 k4 c := fun c h1 => by rw [hk4]; exact ⟨rfl, rfl, rfl, by rw [cLv, if_neg h1]⟩
  have Sak4 : mS k4 a = (5, 19) := by rw [hk4, mS_cL, Sak3]
  have Rak4 : mR k4 a = mR k3 a := by rw [hk4, mR_cL]
  have Iak4 : mI k4 a = mI k3 a := by rw [hk4, mI_cL]
  have Lak4 : mL k4 a = jup (mL k3 a) 4 0 := by rw [hk4, cLv, if_pos rfl]
  obtain ⟨k5, hk5⟩ : ∃ k5 : jmM, k5 = cI k4 a (jup (mI k4 a) 5 0) := ⟨_, rfl⟩
  have nk5 : mN k5 = a + 4 := by rw [hk5, mN_cI, nk4]
  have zk5 : mZ k5 = mZ k4 := by rw [hk5, mZ_cI]
  have Fk5 : ∀ c, c ≠ a → sm4 k4 k5 c := fun c h1 => by rw [hk5]; exact ⟨rfl, rfl, by rw [cIv, if_neg h1], rfl⟩
  have Sak5 : mS k5 a = (5, 19) := by rw [hk5, mS_cI, Sak4]
  have Rak5 : mR k5 a = mR k4 a := by rw [hk5, mR_cI]
  have Iak5 : mI k5 a = jup (mI k4 a) 5 0 := by rw [hk5, cIv, if_pos rfl]
  have Lak5 : mL k5 a = mL k4 a := by rw [hk5, mL_cI]
  obtain ⟨k6, hk6⟩ : ∃ k6 : jmM, k6 = cI k5 a (jup (mI k5 a) 6 0) := ⟨_, rfl⟩
  have nk6 : mN k6 = a + 4 := by rw [hk6, mN_cI, nk5]
  have zk6 : mZ k6 = mZ k5 := by rw [hk6, mZ_cI]
  have Fk6 : ∀ c, c ≠ a → sm4 k5 k6 c := fun c h1 => by rw [hk6]; exact ⟨rfl, rfl, by rw [cIv, if_neg h1], rfl⟩
  have Sak6 : mS k6 a = (5, 19) := by rw [hk6, mS_cI, Sak5]
  have Rak6 : mR k6 a = mR k5 a := by rw [hk6, mR_cI]
  have Iak6 : mI k6 a = jup (mI k5 a) 6 0 := by rw [hk6, cIv, if_pos rfl]
  have Lak6 : mL k6 a = mL k5 a := by rw [hk6, mL_cI]
  obtain ⟨k7, hk7⟩ : ∃ k7 : jmM, k7 = cI k6 a (jup (mI k6 a) 7 0) := ⟨_, rfl⟩
  have nk7 : mN k7 = a + 4 := by rw [hk7, mN_cI, nk6]
  have zk7 : mZ k7 = mZ k6 := by rw [hk7, mZ_cI]
  have Fk7 : ∀ c, c ≠ a → sm4 k6 k7 c := fun c h1 => by rw [hk7]; exact ⟨rfl, rfl, by rw [cIv, if_neg h1], rfl⟩
  have Sak7 : mS k7 a = (5, 19) := by rw [hk7, mS_cI, Sak6]
  have Rak7 : mR k7 a = mR k6 a := by rw [hk7, mR_cI]
  have Iak7 : mI k7 a = jup (mI k6 a) 7 0 := by rw [hk7, cIv, if_pos rfl]
  have Lak7 : mL k7 a = mL k6 a := by rw [hk7, mL_cI]
  obtain ⟨k8, hk8⟩ : ∃ k8 : jmM, k8 = cI k7 a (jup (mI k7 a) 8 0) := ⟨_, rfl⟩
  have nk8 : mN k8 = a + 4 := by rw [hk8, mN_cI, nk7]
  have zk8 : mZ k8 = mZ k7 := by rw [hk8, mZ_cI]
  have Fk8 : ∀ c, c ≠ a → sm4 k7 k8 c := fun c h1 => by rw [hk8]; exact ⟨rfl, rfl, by rw [cIv, if_neg h1], rfl⟩
  have Sak8 : mS k8 a = (5, 19) := by rw [hk8, mS_cI, Sak7]
  have Rak8 : mR k8 a = mR k7 a := by rw [hk8, mR_cI]
  have Iak8 : mI k8 a = jup (mI k7 a) 8 0 := by rw [hk8, cIv, if_pos rfl]
  have Lak8 : mL k8 a = mL k7 a := by rw [hk8, mL_cI]
  obtain ⟨k9, hk9⟩ : ∃ k9 : jmM, k9 = cI k8 a (jup (mI k8 a) 9 0) := ⟨_, rfl⟩
  have nk9 : mN k9 = a + 4 := by rw [hk9, mN_cI, nk8]
  have zk9 : mZ k9 = mZ k8 := by rw [hk9, mZ_cI]
  have Fk9 : ∀ c, c ≠ a → sm4 k8 k9 c := fun c h1 => by rw [hk9]; exact ⟨rfl, rfl, by rw [cIv, if_neg h1], rfl⟩
  have Sak9 : mS k9 a = (5, 19) := by rw [hk9, mS_cI, Sak8]
  have Rak9 : mR k9 a = mR k8 a := by rw [hk9, mR_cI]
  have Iak9 : mI k9 a = jup (mI k8 a) 9 0 := by rw [hk9, cIv, if_pos rfl]
  have Lak9 : mL k9 a = mL k8 a := by rw [hk9, mL_cI]
  obtain ⟨k10, hk10⟩ : ∃ k10 : jmM, k10 = cI k9 a (jup (mI k9 a) 10 0) := ⟨_, rfl⟩
  have nk10 : mN k10 = a + 4 := by rw [hk10, mN_cI, nk9]
  have zk10 : mZ k10 = mZ k9 := by rw [hk10, mZ_cI]
  have Fk10 : ∀ c, c ≠ a → sm4 k9 k10 c := fun c h1 => by rw [hk10]; exact ⟨rfl, rfl, by rw [cIv, if_neg h1], rfl⟩
  have Sak10 : mS k10 a = (5, 19) := by rw [hk10, mS_cI, Sak9]
  have Rak10 : mR k10 a = mR k9 a := by rw [hk10, mR_cI]
  have Iak10 : mI k10 a = jup (mI k9 a) 10 0 := by rw [hk10, cIv, if_pos rfl]
  have Lak10 : mL k10 a = mL k9 a := by rw [hk10, mL_cI]
  obtain ⟨k11, hk11⟩ : ∃ k11 : jmM, k11 = cI k10 a (jup (mI k10 a) 11 0) := ⟨_, rfl⟩
  have nk11 : mN k11 = a + 4 := by rw [hk11, mN_cI, nk10]
  have zk11 : mZ k11 = mZ k10 := by rw [hk11, mZ_cI]
  have Fk11 : ∀ c, c ≠ a → sm4 k10 k11 c := fun c h1 => by rw [hk11]; exact ⟨rfl, rfl, by rw [cIv, if_neg h1], rfl⟩
  have Sak11 : mS k11 a = (5, 19) := by rw [hk11, mS_cI, Sak10]
  have Rak11 : mR k11 a = mR k10 a := by rw [hk11, mR_cI]
  have Iak11 : mI k11 a = jup (mI k10 a) 11 0 := by rw [hk11, cIv, if_pos rfl]
  have Lak11 : mL k11 a = mL k10 a := by rw [hk11, mL_cI]
  obtain ⟨k12, hk12⟩ : ∃ k12 : jmM, k12 = cR (jNew k11 20 600) a (jup (mR k11 a) 12 (some (a + 4))) := ⟨_, rfl⟩
  have nk12 : mN k12 = a + 5 := by rw [hk12, mN_cR, mN_new, nk11]
  have zk12 : mZ k12 = mZ k11 + 600 := by rw [hk12, mZ_cR, mZ_new]
  have Fk12 : ∀ c, c ≠ a → c ≠ a + 4 → sm4 k11 k12 c := fun c h1 h2 => by rw [hk12]; exact ⟨by rw [mS_cR, mS_new, nk11, if_neg h2], by rw [cRv, if_neg h1, mR_new, nk11, if_neg h2], by rw [mI_cR, mI_new, nk11, if_neg h2], by rw [mL_cR, mL_new, nk11, if_neg h2]⟩
  have Xk12 : mS k12 (a + 4) = (20, 600) ∧ mI k12 (a + 4) = (fun _ => 0) ∧ mL k12 (a + 4) = (fun _ => 0) ∧ mR k12 (a + 4) = fun _ => none := by rw [hk12]; exact ⟨by rw [mS_cR, mS_new, nk11, if_pos rfl], by rw [mI_cR, mI_new, nk11, if_pos rfl], by rw [mL_cR, mL_new, nk11, if_pos rfl], by rw [cRv, if_neg (Nat.ne_of_gt (Nat.lt_add_of_pos_right (by decide))), mR_new, nk11, if_pos rfl]⟩
  have Sak12 : mS k12 a = (5, 19) := by rw [hk12, mS_cR, mS_new, nk11, if_neg (Nat.ne_of_lt (Nat.lt_add_of_pos_right (by decide))), Sak11]
  have Rak12 : mR k12 a = jup (mR k11 a) 12 (some (a + 4)) := by rw [hk12, cRv, if_pos rfl]
  have Iak12 : mI k12 a = mI k11 a := by rw [hk12, mI_cR, mI_new, nk11, if_neg (Nat.ne_of_lt (Nat.lt_add_of_pos_right (by decide)))]
  have Lak12 : mL k12 a = mL k11 a := by rw [hk12, mL_cR, mL_new, nk11, if_neg (Nat.ne_of_lt (Nat.lt_add_of_pos_right (by decide)))]
  obtain ⟨k13, hk13⟩ : ∃ k13 : jmM, k13 = cR (jNew k12 20 600) a (jup (mR k12 a) 13 (some (a + 5))) := ⟨_, rfl⟩
  have nk13 : mN k13 = a + 6 := by rw [hk13, mN_cR, mN_new, nk12]
  have zk13 : mZ k13 = mZ k12 + 600 := by rw [hk13, mZ_cR, mZ_new]
  have Fk13 : ∀ c, c ≠ a → c ≠ a + 5 → sm4 k12 k13 c := fun c h1 h2 => by rw [hk13]; exact ⟨by rw [mS_cR, mS_new, nk12, if_neg h2], by rw [cRv, if_neg h1, mR_new, nk12, if_neg h2], by rw [mI_cR, mI_new, nk12, if_neg h2], by rw [mL_cR, mL_new, nk12, if_neg h2]⟩
  have Xk13 : mS k13 (a + 5) = (20, 600) ∧ mI k13 (a + 5) = (fun _ => 0) ∧ mL k13 (a + 5) = (fun _ => 0) ∧ mR k13 (a + 5) = fun _ => none := by rw [hk13]; exact ⟨by rw [mS_cR, mS_new, nk12, if_pos rfl], by rw [mI_cR, mI_new, nk12, if_pos rfl], by rw [mL_cR, mL_new, nk12, if_pos rfl], by rw [cRv, if_neg (Nat.ne_of_gt (Nat.lt_add_of_pos_right (by decide))), mR_new, nk12, if_pos rfl]⟩
  have Sak13 : mS k13 a = (5, 19) := by rw [hk13, mS_cR, mS_new, nk12, if_neg (Nat.ne_of_lt (Nat.lt_add_of_pos_right (by decide))), Sak12]
  have Rak13 : mR k13 a = jup (mR k12 a) 13 (some (a + 5)) := by rw [hk13, cRv, if_pos rfl]
  have Iak13 : mI k13 a = mI k12 a := by rw [hk13, mI_cR, mI_new, nk12, if_neg (Nat.ne_of_lt (Nat.lt_add_of_pos_right (by decide)))]
  have Lak13 : mL k13 a = mL k12 a := by rw [hk13, mL_cR, mL_new, nk12, if_neg (Nat.ne_of_lt (Nat.lt_add_of_pos_right (by decide)))]
  obtain ⟨k14, hk14⟩ : ∃ k14 : jmM, k14 = cR (jNew k13 20 600) a (jup (mR k13 a) 14 (some (a + 6))) := ⟨_, rfl⟩
  have nk14 : mN k14 = a + 7 := by rw [hk14, mN_cR, mN_new, nk13]
  have zk14 : mZ k14 = mZ k13 + 600 := by rw [hk14, mZ_cR, mZ_new]
  have Fk14 : ∀ c, c ≠ a → c ≠ a + 6 → sm4 k13 k14 c := fun c h1 h2 => by rw [hk14]; exact ⟨by rw [mS_cR, mS_new, nk13, if_neg h2], by rw [cRv, if_neg h1, mR_new, nk13, if_neg h2], by rw [mI_cR, mI_new, nk13, if_neg h2], by rw [mL_cR, mL_new, nk13, if_neg h2]⟩
  have Xk14 : mS k14 (a + 6) = (20, 600) ∧ mI k14 (a + 6) = (fun _ => 0) ∧ mL k14 (a + 6) = (fun _ => 0) ∧ mR k14 (a + 6) = fun _ => none := by rw [hk14]; exact ⟨by rw [mS_cR, mS_new, nk13, if_pos rfl], by rw [mI_cR, mI_new, nk13, if_pos rfl], by rw [mL_cR, mL_new, nk13, if_pos rfl], by rw [cRv, if_neg (Nat.ne_of_gt (Nat.lt_add_of_pos_right (by decide))), mR_new, nk13, if_pos rfl]⟩
  have Sak14 : mS k14 a = (5, 19) := by rw [hk14, mS_cR, mS_new, nk13, if_neg (Nat.ne_of_lt (Nat.lt_add_of_pos_right (by decide))), Sak13]
  have Rak14 : mR k14 a = jup (mR k13 a) 14 (some (a + 6)) := by rw [hk14, cRv, if_pos rfl]
  have Iak14 : mI k14 a = mI k13 a := by rw [hk14, mI_cR, mI_new, nk13, if_neg (Nat.ne_of_lt (Nat.lt_add_of_pos_right (by decide)))]
  have Lak14 : mL k14 a = mL k13 a := by rw [hk14, mL_cR, mL_new, nk13, if_neg (Nat.ne_of_lt (Nat.lt_add_of_pos_right (by decide)))]
  obtain ⟨k15, hk15⟩ : ∃ k15 : jmM, k15 = cR (jNew k14 20 600) a (jup (mR k14 a) 15 (some (a + 7))) := ⟨_, rfl⟩
  have nk15 : mN k15 = a + 8 := by rw [hk15, mN_cR, mN_new, nk14]
  have zk15 : mZ k15 = mZ k14 + 600 := by rw [hk15, mZ_cR, mZ_new]
  have Fk15 : ∀ c, c ≠ a → c ≠ a + 7 → sm4 k14 k15 c := fun c h1 h2 => by rw [hk15]; exact ⟨by rw [mS_cR, mS_new, nk14, if_neg h2], by rw [cRv, if_neg h1, mR_new, nk14, if_neg h2], by rw [mI_cR, mI_new, nk14, if_neg h2], by rw [mL_cR, mL_new, nk14, if_neg h2]⟩
  have Xk15 : mS k15 (a + 7) = (20, 600) ∧ mI k15 (a + 7) = (fun _ => 0) ∧ mL k15 (a + 7) = (fun _ => 0) ∧ mR k15 (a + 7) = fun _ => none := by rw [hk15]; exact ⟨by rw [mS_cR, mS_new, nk14, if_pos rfl], by rw [mI_cR, mI_new, nk14, if_pos rfl], by rw [mL_cR, mL_new, nk14, if_pos rfl], by rw [cRv, if_neg (Nat.ne_of_gt (Nat.lt_add_of_pos_right (by decide))), mR_new, nk14, if_pos rfl]⟩
  have Sak15 : mS k15 a = (5, 19) := by rw [hk15, mS_cR, mS_new, nk14, if_neg (Nat.ne_of_lt (Nat.lt_add_of_pos_right (by decide))), Sak14]
  have Rak15 : mR k15 a = jup (mR k14 a) 15 (some (a + 7)) := by rw [hk15, cRv, if_pos rfl]
  have Iak15 : mI k15 a = mI k14 a := by rw [hk15, mI_cR, mI_new, nk14, if_neg (Nat.ne_of_lt (Nat.lt_add_of_pos_right (by decide)))]
  have Lak15 : mL k15 a = mL k14 a := by rw [hk15, mL_cR, mL_new, nk14, if_neg (Nat.ne_of_lt (Nat.lt_add_of_pos_right (by decide)))]
  obtain ⟨k16, hk16⟩ : ∃ k16 : jmM, k16 = cR (jNew k15 23 600) a (jup (mR k15 a) 16 (some (a + 8))) := ⟨_, rfl⟩
  have nk16 : mN k16 = a + 9 := by rw [hk16, mN_cR, mN_new, nk15]
  have zk16 : mZ k16 = mZ k15 + 600 := by rw [hk16, mZ_cR, mZ_new]
  have Fk16 : ∀ c, c ≠ a → c ≠ a + 8 → sm4 k15 k16 c := fun c h1 h2 => by rw [hk16]; exact ⟨by rw [mS_cR, mS_new, nk15, if_neg h2], by rw [cRv, if_neg h1, mR_new, nk15, if_neg h2], by rw [mI_cR, mI_new, nk15, if_neg h2], by rw [mL_cR, mL_new, nk15, if_neg h2]⟩
  have Xk16 : mS k16 (a + 8) = (23, 600) ∧ mI k16 (a + 8) = (fun _ => 0) ∧ mL k16 (a + 8) = (fun _ => 0) ∧ mR k16 (a + 8) = fun _ => none := by rw [hk16]; exact ⟨by rw [mS_cR, mS_new, nk15, if_pos rfl], by rw [mI_cR, mI_new, nk15, if_pos rfl], by rw [mL_cR, mL_new, nk15, if_pos rfl], by rw [cRv, if_neg (Nat.ne_of_gt (Nat.lt_add_of_pos_right (by decide))), mR_new, nk15, if_pos rfl]⟩
  have Sak16 : mS k16 a = (5, 19) := by rw [hk16, mS_cR, mS_new, nk15, if_neg (Nat.ne_of_lt (Nat.lt_add_of_pos_right (by decide))), Sak15]
  have Rak16 : mR k16 a = jup (mR k15 a) 16 (some (a + 8)) := by rw [hk16, cRv, if_pos rfl]
  have Iak16 : mI k16 a = mI k15 a := by rw [hk16, mI_cR, mI_new, nk15, if_neg (Nat.ne_of_lt (Nat.lt_add_of_pos_right (by decide)))]
  have Lak16 : mL k16 a = mL k15 a := by rw [hk16, mL_cR, mL_new, nk15, if_neg (Nat.ne_of_lt (Nat.lt_add_of_pos_right (by decide)))]
  obtain ⟨k17, hk17⟩ : ∃ k17 : jmM, k17 = cR (jNew k16 21 3600) a (jup (mR k16 a) 17 (some (a + 9))) := ⟨_, rfl⟩
  have nk17 : mN k17 = a + 10 := by rw [hk17, mN_cR, mN_new, nk16]
  have zk17 : mZ k17 = mZ k16 + 3600 := by rw [hk17, mZ_cR, mZ_new]
  have Fk17 : ∀ c, c ≠ a → c ≠ a + 9 → sm4 k16 k17 c := fun c h1 h2 => by rw [hk17]; exact ⟨by rw [mS_cR, mS_new, nk16, if_neg h2], by rw [cRv, if_neg h1, mR_new, nk16, if_neg h2], by rw [mI_cR, mI_new, nk16, if_neg h2], by rw [mL_cR, mL_new, nk16, if_neg h2]⟩
  have Xk17 : mS k17 (a + 9) = (21, 3600) ∧ mI k17 (a + 9) = (fun _ => 0) ∧ mL k17 (a + 9) = (fun _ => 0) ∧ mR k17 (a + 9) = fun _ => none := by rw [hk17]; exact ⟨by rw [mS_cR, mS_new, nk16, if_pos rfl], by rw [mI_cR, mI_new, nk16, if_pos rfl], by rw [mL_cR, mL_new, nk16, if_pos rfl], by rw [cRv, if_neg (Nat.ne_of_gt (Nat.lt_add_of_pos_right (by decide))), mR_new, nk16, if_pos rfl]⟩
  have Sak17 : mS k17 a = (5, 19) := by rw [hk17, mS_cR, mS_new, nk16, if_neg (Nat.ne_of_lt (Nat.lt_add_of_pos_right (by decide))), Sak16]
  have Rak17 : mR k17 a = jup (mR k16 a) 17 (some (a + 9)) := by rw [hk17, cRv, if_pos rfl]
  have Iak17 : mI k17 a = mI k16 a := by rw [hk17, mI_cR, mI_new, nk16, if_neg (Nat.ne_of_lt (Nat.lt_add_of_pos_right (by decide)))]
  have Lak17 : mL k17 a = mL k16 a := by rw [hk17, mL_cR, mL_new, nk16, if_neg (Nat.ne_of_lt (Nat.lt_add_of_pos_right (by decide)))]
  obtain ⟨k18, hk18⟩ : ∃ k18 : jmM, k18 = cR (jNew k17 21 6) a (jup (mR k17 a) 18 (some (a + 10))) := ⟨_, rfl⟩
  have nk18 : mN k18 = a + 11 := by rw [hk18, mN_cR, mN_new, nk17]
  have zk18 : mZ k18 = mZ k17 + 6 := by rw [hk18, mZ_cR, mZ_new]
  have Fk18 : ∀ c, c ≠ a → c ≠ a + 10 → sm4 k17 k18 c := fun c h1 h2 => by rw [hk18]; exact ⟨by rw [mS_cR, mS_new, nk17, if_neg h2], by rw [cRv, if_neg h1, mR_new, nk17, if_neg h2], by rw [mI_cR, mI_new, nk17, if_neg h2], by rw [mL_cR, mL_new, nk17, if_neg h2]⟩
  have Xk18 : mS k18 (a + 10) = (21, 6) ∧ mI k18 (a + 10) = (fun _ => 0) ∧ mL k18 (a + 10) = (fun _ => 0) ∧ mR k18 (a + 10) = fun _ => none := by rw [hk18]; exact ⟨by rw [mS_cR, mS_new, nk17, if_pos rfl], by rw [mI_cR, mI_new, nk17, if_pos rfl], by rw [mL_cR, mL_new, nk17, if_pos rfl], by rw [cRv, if_neg (Nat.ne_of_gt (Nat.lt_add_of_pos_right (by decide))), mR_new, nk17, if_pos rfl]⟩
  have Sak18 : mS k18 a = (5, 19) := by rw [hk18, mS_cR, mS_new, nk17, if_neg (Nat.ne_of_lt (Nat.lt_add_of_pos_right (by decide))), Sak17]
  have Rak18 : mR k18 a = jup (mR k17 a) 18 (some (a + 10)) := by rw [hk18, cRv, if_pos rfl]
  have Iak18 : mI k18 a = mI k17 a := by rw [hk18, mI_cR, mI_new, nk17, if_neg (Nat.ne_of_lt (Nat.lt_add_of_pos_right (by decide)))]
  have Lak18 : mL k18 a = mL k17 a := by rw [hk18, mL_cR, mL_new, nk17, if_neg (Nat.ne_of_lt (Nat.lt_add_of_pos_right (by decide)))]
  have Gk18 : ∀ c, c ≠ a → c < a + 11 → sm4 k18 k18 c := fun c _ _ => sm4.refl
  have Gk17 : ∀ c, c ≠ a → c < a + 10 → sm4 k17 k18 c := fun c h1 h2 => (Fk18 c h1 (Nat.ne_of_lt h2)).trans (Gk18 c h1 (Nat.lt_of_lt_of_le h2 (Nat.add_le_add_left (by decide) a)))
  have Gk16 : ∀ c, c ≠ a → c < a + 9 → sm4 k16 k18 c := fun c h1 h2 => (Fk17 c h1 (Nat.ne_of_lt h2)).trans (Gk17 c h1 (Nat.lt_of_lt_of_le h2 (Nat.add_le_add_left (by decide) a)))
  have Gk15 : ∀ c, c ≠ a → c < a + 8 → sm4 k15 k18 c := fun c h1 h2 => (Fk16 c h1 (Nat.ne_of_lt h2)).trans (Gk16 c h1 (Nat.lt_of_lt_of_le h2 (Nat.add_le_add_left (by decide) a)))
  have Gk14 : ∀ c, c ≠ a → c < a + 7 → sm4 k14 k18 c := fun c h1 h2 => (Fk15 c h1 (Nat.ne_of_lt h2)).trans (Gk15 c h1 (Nat.lt_of_lt_of_le h2 (Nat.add_le_add_left (by decide) a)))
  have Gk13 : ∀ c, c ≠ a → c < a + 6 → sm4 k13 k18 c := fun c h1 h2 => (Fk14 c h1 (Nat.ne_of_lt h2)).trans (Gk14 c h1 (Nat.lt_of_lt_of_le h2 (Nat.add_le_add_left (by decide) a)))
  have Gk12 : ∀ c, c ≠ a → c < a + 5 → sm4 k12 k18 c := fun c h1 h2 => (Fk13 c h1 (Nat.ne_of_lt h2)).trans (Gk13 c h1 (Nat.lt_of_lt_of_le h2 (Nat.add_le_add_left (by decide) a)))
  have Gk11 : ∀ c, c ≠ a → c < a + 4 → sm4 k11 k18 c := fun c h1 h2 => (Fk12 c h1 (Nat.ne_of_lt h2)).trans (Gk12 c h1 (Nat.lt_of_lt_of_le h2 (Nat.add_le_add_left (by decide) a)))
  have Gk10 : ∀ c, c ≠ a → c < a + 4 → sm4 k10 k18 c := fun c h1 h2 => (Fk11 c h1).trans (Gk11 c h1 h2)
  have Gk9 : ∀ c, c ≠ a → c < a + 4 → sm4 k9 k18 c := fun c h1 h2 => (Fk10 c h1).trans (Gk10 c h1 h2)
  have Gk8 : ∀ c, c ≠ a → c < a + 4 → sm4 k8 k18 c := fun c h1 h2 => (Fk9 c h1).trans (Gk9 c h1 h2)
  have Gk7 : ∀ c, c ≠ a → c < a + 4 → sm4 k7 k18 c := fun c h1 h2 => (Fk8 c h1).trans (Gk8 c h1 h2)
  have Gk6 : ∀ c, c ≠ a → c < a + 4 → sm4 k6 k18 c := fun c h1 h2 => (Fk7 c h1).trans (Gk7 c h1 h2)
  have Gk5 : ∀ c, c ≠ a → c < a + 4 → sm4 k5 k18 c := fun c h1 h2 => (Fk6 c h1).trans (Gk6 c h1 h2)
  have Gk4 : ∀ c, c ≠ a → c < a + 4 → sm4 k4 k18 c := fun c h1 h2 => (Fk5 c h1).trans (Gk5 c h1 h2)
  have Gk3 : ∀ c, c ≠ a → c < a + 4 → sm4 k3 k18 c := fun c h1 h2 => (Fk4 c h1).trans (Gk4 c h1 h2)
  have Gk2 : ∀ c, c ≠ a → c < a + 4 → sm4 k2 k18 c := fun c h1 h2 => (Fk3 c h1).trans (Gk3 c h1 h2)
  have Gk1 : ∀ c, c ≠ a → c < a + 4 → sm4 k1 k18 c := fun c h1 h2 => (Fk2 c h1).trans (Gk2 c h1 h2)
  have Gk0 : ∀ c, c ≠ a → c < a + 4 → sm4 k0 k18 c := fun c h1 h2 => (Fk1 c h1).trans (Gk1 c h1 h2)
  have GM : ∀ c, c ≠ a → c < a + 1 → sm4 M k18 c := fun c h1 h2 => (Fk0 c h1 h2).trans (Gk0 c h1 (Nat.lt_of_lt_of_le h2 (Nat.add_le_add_left (by decide) a)))
  have RA := Rak18
  rw [Rak17, Rak16, Rak15, Rak14, Rak13, Rak12, Rak11, Rak10, Rak9, Rak8, Rak7, Rak6, Rak5, Rak4, Rak3, Rak2, Rak1, Rak0, RaM] at RA
  have IA := Iak18
  rw [Iak17, Iak16, Iak15, Iak14, Iak13, Iak12, Iak11, Iak10, Iak9, Iak8, Iak7, Iak6, Iak5, Iak4, Iak3, Iak2, Iak1, Iak0, IaM] at IA
  have LA := Lak18
  rw [Lak17, Lak16, Lak15, Lak14, Lak13, Lak12, Lak11, Lak10, Lak9, Lak8, Lak7, Lak6, Lak5, Lak4, Lak3, Lak2, Lak1, Lak0, LaM] at LA
  have Ak12 : mS k18 (a + 4) = (20, 600) ∧ mI k18 (a + 4) = (fun _ => 0) ∧ mL k18 (a + 4) = (fun _ => 0) ∧ mR k18 (a + 4) = fun _ => none := by have g := Gk12 (a + 4) (Nat.ne_of_gt (Nat.lt_add_of_pos_right (by decide))) (Nat.add_lt_add_left (by decide) a); unfold sm4 at g; rw [g.1, g.2.1, g.2.2.1, g.2.2.2]; exact ⟨Xk12.1, Xk12.2.1, Xk12.2.2.1, Xk12.2.2.2⟩
  have Ak13 : mS k18 (a + 5) = (20, 600) ∧ mI k18 (a + 5) = (fun _ => 0) ∧ mL k18 (a + 5) = (fun _ => 0) ∧ mR k18 (a + 5) = fun _ => none := by have g := Gk13 (a + 5) (Nat.ne_of_gt (Nat.lt_add_of_pos_right (by decide))) (Nat.add_lt_add_left (by decide) a); unfold sm4 at g; rw [g.1, g.2.1, g.2.2.1, g.2.2.2]; exact ⟨Xk13.1, Xk13.2.1, Xk13.2.2.1, Xk13.2.2.2⟩
  have Ak14 : mS k18 (a + 6) = (20, 600) ∧ mI k18 (a + 6) = (fun _ => 0) ∧ mL k18 (a + 6) = (fun _ => 0) ∧ mR k18 (a + 6) = fun _ => none := by have g := Gk14 (a + 6) (Nat.ne_of_gt (Nat.lt_add_of_pos_right (by decide))) (Nat.add_lt_add_left (by decide) a); unfold sm4 at g; rw [g.1, g.2.1, g.2.2.1, g.2.2.2]; exact ⟨Xk14.1, Xk14.2.1, Xk14.2.2.1, Xk14.2.2.2⟩
  have Ak15 : mS k18 (a + 7) = (20, 600) ∧ mI k18 (a + 7) = (fun _ => 0) ∧ mL k18 (a + 7) = (fun _ => 0) ∧ mR k18 (a + 7) = fun _ => none := by have g := Gk15 (a + 7) (Nat.ne_of_gt (Nat.lt_add_of_pos_right (by decide))) (Nat.add_lt_add_left (by decide) a); unfold sm4 at g; rw [g.1, g.2.1, g.2.2.1, g.2.2.2]; exact ⟨Xk15.1, Xk15.2.1, Xk15.2.2.1, Xk15.2.2.2⟩
  have Ak16 : mS k18 (a + 8) = (23, 600) ∧ mI k18 (a + 8) = (fun _ => 0) ∧ mL k18 (a + 8) = (fun _ => 0) ∧ mR k18 (a + 8) = fun _ => none := by have g := Gk16 (a + 8) (Nat.ne_of_gt (Nat.lt_add_of_pos_right (by decide))) (Nat.add_lt_add_left (by decide) a); unfold sm4 at g; rw [g.1, g.2.1, g.2.2.1, g.2.2.2]; exact ⟨Xk16.1, Xk16.2.1, Xk16.2.2.1, Xk16.2.2.2⟩
  have Ak17 : mS k18 (a + 9) = (21, 3600) ∧ mI k18 (a + 9) = (fun _ => 0) ∧ mL k18 (a + 9) = (fun _ => 0) ∧ mR k18 (a + 9) = fun _ => none := by have g := Gk17 (a + 9) (Nat.ne_of_gt (Nat.lt_add_of_pos_right (by decide))) (Nat.add_lt_add_left (by decide) a); unfold sm4 at g; rw [g.1, g.2.1, g.2.2.1, g.2.2.2]; exact ⟨Xk17.1, Xk17.2.1, Xk17.2.2.1, Xk17.2.2.2⟩
  have Ak18 : mS k18 (a + 10) = (21, 6) ∧ mI k18 (a + 10) = (fun _ => 0) ∧ mL k18 (a + 10) = (fun _ => 0) ∧ mR k18 (a + 10) = fun _ => none := by have g := Gk18 (a + 10) (Nat.ne_of_gt (Nat.lt_add_of_pos_right (by decide))) (Nat.add_lt_add_left (by decide) a); unfold sm4 at g; rw [g.1, g.2.1, g.2.2.1, g.2.2.2]; exact ⟨Xk18.1, Xk18.2.1, Xk18.2.2.1, Xk18.2.2.2⟩
  have Bk0 : ∀ c, a + 1 ≤ c → c < a + 1 + 3 → sm4 x0 k18 c := fun c h1 h2 => (Yk0 c (Nat.ne_of_gt (Nat.lt_of_lt_of_le (show a < a + 1 from (Nat.lt_add_of_pos_right (by decide))) h1))).trans (Gk0 c (Nat.ne_of_gt (Nat.lt_of_lt_of_le (show a < a + 1 from (Nat.lt_add_of_pos_right (by decide))) h1)) h2)
  apply CE_ex
  intro Q hQ
  rw [nX5_init, ← hM]
  simp (config := {decide := true, maxSteps := 1000000}) (disch := omega) only [tX5_init_0, tX5_init_1, tX5_init_4, tX5_init_5, tX5_init_8, tX5_init_9, tX5_init_12, tX5_init_12q, tX5_init_12n, jK_some, jK_none, jc1_int, jc1_ref, jc1_none, jc1_long, jc1_null, jc1_rf, va_rf_some, va_rf_none, mI_cI, mL_cL, mR_cR, cI_cI, cL_cL, jup_eq, jne_1, jne_2, Nat.add_left_cancel_iff, mL_cI, mR_cI, mS_cI, mN_cI, mI_cL, mR_cL, mS_cL, mN_cL, mI_cR, mL_cR, mS_cR, mN_cR, true_and, and_true, true_or, or_true, if_true, if_false, jBool_0, jBool_1, Nat.le_refl, Nat.reduceLeDiff, Nat.reduceEqDiff, Nat.reduceAdd, Nat.reduceSub, reduceIte, Int32.reduceLT, Int32.reduceLE, ne_eq, not_false_eq_true, not_true_eq_false, false_or, or_false, and_false, false_and, reduceCtorEq, jn_4, jn_6, jn_8, jn_9, jn_12, jn_60, jn_100, jn_200, jn_400, jn_600, jn_601, jn_3600, jI_4, jI_6, jI_8, jI_9, jI_12, jI_60, jI_100, jI_200, jI_400, jI_600, jI_601, jI_3600, va_cpy_00, jx_0, jx_6, jx_12, jx_400, jx_600, nI_1, ne_a1, ne_a2, Nat.add_assoc, show jx 3600 = 3600 from rfl, show jx 4800 = 4800 from rfl, show jx 720 = 720 from rfl, show jx 18220 = 18220 from rfl, show jx 18030 = 18030 from rfl, show jx 200 = 200 from rfl, show jx 48 = 48 from rfl, show jx 80 = 80 from rfl, show jx 17 = 17 from rfl, show jx 601 = 601 from rfl, show jx 4 = 4 from rfl, show jx 8 = 8 from rfl, show jx 9 = 9 from rfl, ck0.iff, nM, Sax0, Rax0, cRv]
  rw [← hk0]
  simp (config := {decide := true, maxSteps := 1000000}) (disch := omega) only [tX5_init_15, tX5_init_16, tX5_init_17, tX5_init_17q, tX5_init_17n, jK_some, jK_none, jc1_int, jc1_ref, jc1_none, jc1_long, jc1_null, jc1_rf, va_rf_some, va_rf_none, mI_cI, mL_cL, mR_cR, cI_cI, cL_cL, jup_eq, jne_1, jne_2, Nat.add_left_cancel_iff, mL_cI, mR_cI, mS_cI, mN_cI, mI_cL, mR_cL, mS_cL, mN_cL, mI_cR, mL_cR, mS_cR, mN_cR, true_and, and_true, true_or, or_true, if_true, if_false, jBool_0, jBool_1, Nat.le_refl, Nat.reduceLeDiff, Nat.reduceEqDiff, Nat.reduceAdd, Nat.reduceSub, reduceIte, Int32.reduceLT, Int32.reduceLE, ne_eq, not_false_eq_true, not_true_eq_false, false_or, or_false, and_false, false_and, reduceCtorEq, jn_4, jn_6, jn_8, jn_9, jn_12, jn_60, jn_100, jn_200, jn_400, jn_600, jn_601, jn_3600, jI_4, jI_6, jI_8, jI_9, jI_12, jI_60, jI_100, jI_200, jI_400, jI_600, jI_601, jI_3600, va_cpy_00, jx_0, jx_6, jx_12, jx_400, jx_600, nI_1, ne_a1, ne_a2, Nat.add_assoc, show jx 3600 = 3600 from rfl, show jx 4800 = 4800 from rfl, show jx 720 = 720 from rfl, show jx 18220 = 18220 from rfl, show jx 18030 = 18030 from rfl, show jx 200 = 200 from rfl, show jx 48 = 48 from rfl, show jx 80 = 80 from rfl, show jx 17 = 17 from rfl, show jx 601 = 601 from rfl, show jx 4 = 4 from rfl, show jx 8 = 8 from rfl, show jx 9 = 9 from rfl, Sak0]
  rw [← hk1]
  simp (config := {decide := true, maxSteps := 1000000}) (disch := omega) only [tX5_init_20, tX5_init_21, tX5_init_22, tX5_init_22q, tX5_init_22n, jK_some, jK_none, jc1_int, jc1_ref, jc1_none, jc1_long, jc1_null, jc1_rf, va_rf_some, va_rf_none, mI_cI, mL_cL, mR_cR, cI_cI, cL_cL, jup_eq, jne_1, jne_2, Nat.add_left_cancel_iff, mL_cI, mR_cI, mS_cI, mN_cI, mI_cL, mR_cL, mS_cL, mN_cL, mI_cR, mL_cR, mS_cR, mN_cR, true_and, and_true, true_or, or_true, if_true, if_false, jBool_0, jBool_1, Nat.le_refl, Nat.reduceLeDiff, Nat.reduceEqDiff, Nat.reduceAdd, Nat.reduceSub, reduceIte, Int32.reduceLT, Int32.reduceLE, ne_eq, not_false_eq_true, not_true_eq_false, false_or, or_false, and_false, false_and, reduceCtorEq, jn_4, jn_6, jn_8, jn_9, jn_12, jn_60, jn_100, jn_200, jn_400, jn_600, jn_601, jn_3600, jI_4, jI_6, jI_8, jI_9, jI_12, jI_60, jI_100, jI_200, jI_400, jI_600, jI_601, jI_3600, va_cpy_00, jx_0, jx_6, jx_12, jx_400, jx_600, nI_1, ne_a1, ne_a2, Nat.add_assoc, show jx 3600 = 3600 from rfl, show jx 4800 = 4800 from rfl, show jx 720 = 720 from rfl, show jx 18220 = 18220 from rfl, show jx 18030 = 18030 from rfl, show jx 200 = 200 from rfl, show jx 48 = 48 from rfl, show jx 80 = 80 from rfl, show jx 17 = 17 from rfl, show jx 601 = 601 from rfl, show jx 4 = 4 from rfl, show jx 8 = 8 from rfl, show jx 9 = 9 from rfl, Sak1]
  rw [← hk2]
  simp (config := {decide := true, maxSteps := 1000000}) (disch := omega) only [tX5_init_25, tX5_init_26, tX5_init_27, jK_some, jK_none, jc1_int, jc1_ref, jc1_none, jc1_long, jc1_null, jc1_rf, va_rf_some, va_rf_none, mI_cI, mL_cL, mR_cR, cI_cI, cL_cL, jup_eq, jne_1, jne_2, Nat.add_left_cancel_iff, mL_cI, mR_cI, mS_cI, mN_cI, mI_cL, mR_cL, mS_cL, mN_cL, mI_cR, mL_cR, mS_cR, mN_cR, true_and, and_true, true_or, or_true, if_true, if_false, jBool_0, jBool_1, Nat.le_refl, Nat.reduceLeDiff, Nat.reduceEqDiff, Nat.reduceAdd, Nat.reduceSub, reduceIte, Int32.reduceLT, Int32.reduceLE, ne_eq, not_false_eq_true, not_true_eq_false, false_or, or_false, and_false, false_and, reduceCtorEq, jn_4, jn_6, jn_8, jn_9, jn_12, jn_60, jn_100, jn_200, jn_400, jn_600, jn_601, jn_3600, jI_4, jI_6, jI_8, jI_9, jI_12, jI_60, jI_100, jI_200, jI_400, jI_600, jI_601, jI_3600, va_cpy_00, jx_0, jx_6, jx_12, jx_400, jx_600, nI_1, ne_a1, ne_a2, Nat.add_assoc, show jx 3600 = 3600 from rfl, show jx 4800 = 4800 from rfl, show jx 720 = 720 from rfl, show jx 18220 = 18220 from rfl, show jx 18030 = 18030 from rfl, show jx 200 = 200 from rfl, show jx 48 = 48 from rfl, show jx 80 = 80 from rfl, show jx 17 = 17 from rfl, show jx 601 = 601 from rfl, show jx 4 = 4 from rfl, show jx 8 = 8 from rfl, show jx 9 = 9 from rfl, Sak2]
  rw [← hk3]
  simp (config := {decide := true, maxSteps := 1000000}) (disch := omega) only [tX5_init_30, tX5_init_31, tX5_init_32, jK_some, jK_none, jc1_int, jc1_ref, jc1_none, jc1_long, jc1_null, jc1_rf, va_rf_some, va_rf_none, mI_cI, mL_cL, mR_cR, cI_cI, cL_cL, jup_eq, jne_1, jne_2, Nat.add_left_cancel_iff, mL_cI, mR_cI, mS_cI, mN_cI, mI_cL, mR_cL, mS_cL, mN_cL, mI_cR, mL_cR, mS_cR, mN_cR, true_and, and_true, true_or, or_true, if_true, if_false, jBool_0, jBool_1, Nat.le_refl, Nat.reduceLeDiff, Nat.reduceEqDiff, Nat.reduceAdd, Nat.reduceSub, reduceIte, Int32.reduceLT, Int32.reduceLE, ne_eq, not_false_eq_true, not_true_eq_false, false_or, or_false, and_false, false_and, reduceCtorEq, jn_4, jn_6, jn_8, jn_9, jn_12, jn_60, jn_100, jn_200, jn_400, jn_600, jn_601, jn_3600, jI_4, jI_6, jI_8, jI_9, jI_12, jI_60, jI_100, jI_200, jI_400, jI_600, jI_601, jI_3600, va_cpy_00, jx_0, jx_6, jx_12, jx_400, jx_600, nI_1, ne_a1, ne_a2, Nat.add_assoc, show jx 3600 = 3600 from rfl, show jx 4800 = 4800 from rfl, show jx 720 = 720 from rfl, show jx 18220 = 18220 from rfl, show jx 18030 = 18030 from rfl, show jx 200 = 200 from rfl, show jx 48 = 48 from rfl, show jx 80 = 80 from rfl, show jx 17 = 17 from rfl, show jx 601 = 601 from rfl, show jx 4 = 4 from rfl, show jx 8 = 8 from rfl, show jx 9 = 9 from rfl, Sak3]
  rw [← hk4]
  simp (config := {decide := true, maxSteps := 1000000}) (disch := omega) only [tX5_init_35, tX5_init_36, tX5_init_37, jK_some, jK_none, jc1_int, jc1_ref, jc1_none, jc1_long, jc1_null, jc1_rf, va_rf_some, va_rf_none, mI_cI, mL_cL, mR_cR, cI_cI, cL_cL, jup_eq, jne_1, jne_2, Nat.add_left_cancel_iff, mL_cI, mR_cI, mS_cI, mN_cI, mI_cL, mR_cL, mS_cL, mN_cL, mI_cR, mL_cR, mS_cR, mN_cR, true_and, and_true, true_or, or_true, if_true, if_false, jBool_0, jBool_1, Nat.le_refl, Nat.reduceLeDiff, Nat.reduceEqDiff, Nat.reduceAdd, Nat.reduceSub, reduceIte, Int32.reduceLT, Int32.reduceLE, ne_eq, not_false_eq_true, not_true_eq_false, false_or, or_false, and_false, false_and, reduceCtorEq, jn_4, jn_6, jn_8, jn_9, jn_12, jn_60, jn_100, jn_200, jn_400, jn_600, jn_601, jn_3600, jI_4, jI_6, jI_8, jI_9, jI_12, jI_60, jI_100, jI_200, jI_400, jI_600, jI_601, jI_3600, va_cpy_00, jx_0, jx_6, jx_12, jx_400, jx_600, nI_1, ne_a1, ne_a2, Nat.add_assoc, show jx 3600 = 3600 from rfl, show jx 4800 = 4800 from rfl, show jx 720 = 720 from rfl, show jx 18220 = 18220 from rfl, show jx 18030 = 18030 from rfl, show jx 200 = 200 from rfl, show jx 48 = 48 from rfl, show jx 80 = 80 from rfl, show jx 17 = 17 from rfl, show jx 601 = 601 from rfl, show jx 4 = 4 from rfl, show jx 8 = 8 from rfl, show jx 9 = 9 from rfl, Sak4]
  rw [← hk5]
  simp (config := {decide := true, maxSteps := 1000000}) (disch := omega) only [tX5_init_40, tX5_init_41, tX5_init_42, jK_some, jK_none, jc1_int, jc1_ref, jc1_none, jc1_long, jc1_null, jc1_rf, va_rf_some, va_rf_none, mI_cI, mL_cL, mR_cR, cI_cI, cL_cL, jup_eq, jne_1, jne_2, Nat.add_left_cancel_iff, mL_cI, mR_cI, mS_cI, mN_cI, mI_cL, mR_cL, mS_cL, mN_cL, mI_cR, mL_cR, mS_cR, mN_cR, true_and, and_true, true_or, or_true, if_true, if_false, jBool_0, jBool_1, Nat.le_refl, Nat.reduceLeDiff, Nat.reduceEqDiff, Nat.reduceAdd, Nat.reduceSub, reduceIte, Int32.reduceLT, Int32.reduceLE, ne_eq, not_false_eq_true, not_true_eq_false, false_or, or_false, and_false, false_and, reduceCtorEq, jn_4, jn_6, jn_8, jn_9, jn_12, jn_60, jn_100, jn_200, jn_400, jn_600, jn_601, jn_3600, jI_4, jI_6, jI_8, jI_9, jI_12, jI_60, jI_100, jI_200, jI_400, jI_600, jI_601, jI_3600, va_cpy_00, jx_0, jx_6, jx_12, jx_400, jx_600, nI_1, ne_a1, ne_a2, Nat.add_assoc, show jx 3600 = 3600 from rfl, show jx 4800 = 4800 from rfl, show jx 720 = 720 from rfl, show jx 18220 = 18220 from rfl, show jx 18030 = 18030 from rfl, show jx 200 = 200 from rfl, show jx 48 = 48 from rfl, show jx 80 = 80 from rfl, show jx 17 = 17 from rfl, show jx 601 = 601 from rfl, show jx 4 = 4 from rfl, show jx 8 = 8 from rfl, show jx 9 = 9 from rfl, Sak5]
  rw [← hk6]
  simp (config := {decide := true, maxSteps := 1000000}) (disch := omega) only [tX5_init_45, tX5_init_46, tX5_init_47, jK_some, jK_none, jc1_int, jc1_ref, jc1_none, jc1_long, jc1_null, jc1_rf, va_rf_some, va_rf_none, mI_cI, mL_cL, mR_cR, cI_cI, cL_cL, jup_eq, jne_1, jne_2, Nat.add_left_cancel_iff, mL_cI, mR_cI, mS_cI, mN_cI, mI_cL, mR_cL, mS_cL, mN_cL, mI_cR, mL_cR, mS_cR, mN_cR, true_and, and_true, true_or, or_true, if_true, if_false, jBool_0, jBool_1, Nat.le_refl, Nat.reduceLeDiff, Nat.reduceEqDiff, Nat.reduceAdd, Nat.reduceSub, reduceIte, Int32.reduceLT, Int32.reduceLE, ne_eq, not_false_eq_true, not_true_eq_false, false_or, or_false, and_false, false_and, reduceCtorEq, jn_4, jn_6, jn_8, jn_9, jn_12, jn_60, jn_100, jn_200, jn_400, jn_600, jn_601, jn_3600, jI_4, jI_6, jI_8, jI_9, jI_12, jI_60, jI_100, jI_200, jI_400, jI_600, jI_601, jI_3600, va_cpy_00, jx_0, jx_6, jx_12, jx_400, jx_600, nI_1, ne_a1, ne_a2, Nat.add_assoc, show jx 3600 = 3600 from rfl, show jx 4800 = 4800 from rfl, show jx 720 = 720 from rfl, show jx 18220 = 18220 from rfl, show jx 18030 = 18030 from rfl, show jx 200 = 200 from rfl, show jx 48 = 48 from rfl, show jx 80 = 80 from rfl, show jx 17 = 17 from rfl, show jx 601 = 601 from rfl, show jx 4 = 4 from rfl, show jx 8 = 8 from rfl, show jx 9 = 9 from rfl, Sak6]
  rw [← hk7]
  simp (config := {decide := true, maxSteps := 1000000}) (disch := omega) only [tX5_init_50, tX5_init_51, tX5_init_52, jK_some, jK_none, jc1_int, jc1_ref, jc1_none, jc1_long, jc1_null, jc1_rf, va_rf_some, va_rf_none, mI_cI, mL_cL, mR_cR, cI_cI, cL_cL, jup_eq, jne_1, jne_2, Nat.add_left_cancel_iff, mL_cI, mR_cI, mS_cI, mN_cI, mI_cL, mR_cL, mS_cL, mN_cL, mI_cR, mL_cR, mS_cR, mN_cR, true_and, and_true, true_or, or_true, if_true, if_false, jBool_0, jBool_1, Nat.le_refl, Nat.reduceLeDiff, Nat.reduceEqDiff, Nat.reduceAdd, Nat.reduceSub, reduceIte, Int32.reduceLT, Int32.reduceLE, ne_eq, not_false_eq_true, not_true_eq_false, false_or, or_false, and_false, false_and, reduceCtorEq, jn_4, jn_6, jn_8, jn_9, jn_12, jn_60, jn_100, jn_200, jn_400, jn_600, jn_601, jn_3600, jI_4, jI_6, jI_8, jI_9, jI_12, jI_60, jI_100, jI_200, jI_400, jI_600, jI_601, jI_3600, va_cpy_00, jx_0, jx_6, jx_12, jx_400, jx_600, nI_1, ne_a1, ne_a2, Nat.add_assoc, show jx 3600 = 3600 from rfl, show jx 4800 = 4800 from rfl, show jx 720 = 720 from rfl, show jx 18220 = 18220 from rfl, show jx 18030 = 18030 from rfl, show jx 200 = 200 from rfl, show jx 48 = 48 from rfl, show jx 80 = 80 from rfl, show jx 17 = 17 from rfl, show jx 601 = 601 from rfl, show jx 4 = 4 from rfl, show jx 8 = 8 from rfl, show jx 9 = 9 from rfl, Sak7]
  rw [← hk8]
  simp (config := {decide := true, maxSteps := 1000000}) (disch := omega) only [tX5_init_55, tX5_init_56, tX5_init_57, jK_some, jK_none, jc1_int, jc1_ref, jc1_none, jc1_long, jc1_null, jc1_rf, va_rf_some, va_rf_none, mI_cI, mL_cL, mR_cR, cI_cI, cL_cL, jup_eq, jne_1, jne_2, Nat.add_left_cancel_iff, mL_cI, mR_cI, mS_cI, mN_cI, mI_cL, mR_cL, mS_cL, mN_cL, mI_cR, mL_cR, mS_cR, mN_cR, true_and, and_true, true_or, or_true, if_true, if_false, jBool_0, jBool_1, Nat.le_refl, Nat.reduceLeDiff, Nat.reduceEqDiff, Nat.reduceAdd, Nat.reduceSub, reduceIte, Int32.reduceLT, Int32.reduceLE, ne_eq, not_false_eq_true, not_true_eq_false, false_or, or_false, and_false, false_and, reduceCtorEq, jn_4, jn_6, jn_8, jn_9, jn_12, jn_60, jn_100, jn_200, jn_400, jn_600, jn_601, jn_3600, jI_4, jI_6, jI_8, jI_9, jI_12, jI_60, jI_100, jI_200, jI_400, jI_600, jI_601, jI_3600, va_cpy_00, jx_0, jx_6, jx_12, jx_400, jx_600, nI_1, ne_a1, ne_a2, Nat.add_assoc, show jx 3600 = 3600 from rfl, show jx 4800 = 4800 from rfl, show jx 720 = 720 from rfl, show jx 18220 = 18220 from rfl, show jx 18030 = 18030 from rfl, show jx 200 = 200 from rfl, show jx 48 = 48 from rfl, show jx 80 = 80 from rfl, show jx 17 = 17 from rfl, show jx 601 = 601 from rfl, show jx 4 = 4 from rfl, show jx 8 = 8 from rfl, show jx 9 = 9 from rfl, Sak8]
  rw [← hk9]
  simp (config := {decide := true, maxSteps := 1000000}) (disch := omega) only [tX5_init_60, tX5_init_61, tX5_init_62, jK_some, jK_none, jc1_int, jc1_ref, jc1_none, jc1_long, jc1_null, jc1_rf, va_rf_some, va_rf_none, mI_cI, mL_cL, mR_cR, cI_cI, cL_cL, jup_eq, jne_1, jne_2, Nat.add_left_cancel_iff, mL_cI, mR_cI, mS_cI, mN_cI, mI_cL, mR_cL, mS_cL, mN_cL, mI_cR, mL_cR, mS_cR, mN_cR, true_and, and_true, true_or, or_true, if_true, if_false, jBool_0, jBool_1, Nat.le_refl, Nat.reduceLeDiff, Nat.reduceEqDiff, Nat.reduceAdd, Nat.reduceSub, reduceIte, Int32.reduceLT, Int32.reduceLE, ne_eq, not_false_eq_true, not_true_eq_false, false_or, or_false, and_false, false_and, reduceCtorEq, jn_4, jn_6, jn_8, jn_9, jn_12, jn_60, jn_100, jn_200, jn_400, jn_600, jn_601, jn_3600, jI_4, jI_6, jI_8, jI_9, jI_12, jI_60, jI_100, jI_200, jI_400, jI_600, jI_601, jI_3600, va_cpy_00, jx_0, jx_6, jx_12, jx_400, jx_600, nI_1, ne_a1, ne_a2, Nat.add_assoc, show jx 3600 = 3600 from rfl, show jx 4800 = 4800 from rfl, show jx 720 = 720 from rfl, show jx 18220 = 18220 from rfl, show jx 18030 = 18030 from rfl, show jx 200 = 200 from rfl, show jx 48 = 48 from rfl, show jx 80 = 80 from rfl, show jx 17 = 17 from rfl, show jx 601 = 601 from rfl, show jx 4 = 4 from rfl, show jx 8 = 8 from rfl, show jx 9 = 9 from rfl, Sak9]
  rw [← hk10]
  simp (config := {decide := true, maxSteps := 1000000}) (disch := omega) only [tX5_init_65, tX5_init_66, tX5_init_67, jK_some, jK_none, jc1_int, jc1_ref, jc1_none, jc1_long, jc1_null, jc1_rf, va_rf_some, va_rf_none, mI_cI, mL_cL, mR_cR, cI_cI, cL_cL, jup_eq, jne_1, jne_2, Nat.add_left_cancel_iff, mL_cI, mR_cI, mS_cI, mN_cI, mI_cL, mR_cL, mS_cL, mN_cL, mI_cR, mL_cR, mS_cR, mN_cR, true_and, and_true, true_or, or_true, if_true, if_false, jBool_0, jBool_1, Nat.le_refl, Nat.reduceLeDiff, Nat.reduceEqDiff, Nat.reduceAdd, Nat.reduceSub, reduceIte, Int32.reduceLT, Int32.reduceLE, ne_eq, not_false_eq_true, not_true_eq_false, false_or, or_false, and_false, false_and, reduceCtorEq, jn_4, jn_6, jn_8, jn_9, jn_12, jn_60, jn_100, jn_200, jn_400, jn_600, jn_601, jn_3600, jI_4, jI_6, jI_8, jI_9, jI_12, jI_60, jI_100, jI_200, jI_400, jI_600, jI_601, jI_3600, va_cpy_00, jx_0, jx_6, jx_12, jx_400, jx_600, nI_1, ne_a1, ne_a2, Nat.add_assoc, show jx 3600 = 3600 from rfl, show jx 4800 = 4800 from rfl, show jx 720 = 720 from rfl, show jx 18220 = 18220 from rfl, show jx 18030 = 18030 from rfl, show jx 200 = 200 from rfl, show jx 48 = 48 from rfl, show jx 80 = 80 from rfl, show jx 17 = 17 from rfl, show jx 601 = 601 from rfl, show jx 4 = 4 from rfl, show jx 8 = 8 from rfl, show jx 9 = 9 from rfl, Sak10]
  rw [← hk11]
  simp (config := {decide := true, maxSteps := 1000000}) (disch := omega) only [tX5_init_70, tX5_init_71, tX5_init_74, tX5_init_76, tX5_init_76q, tX5_init_76n, jK_some, jK_none, jc1_int, jc1_ref, jc1_none, jc1_long, jc1_null, jc1_rf, va_rf_some, va_rf_none, mI_cI, mL_cL, mR_cR, cI_cI, cL_cL, jup_eq, jne_1, jne_2, Nat.add_left_cancel_iff, mL_cI, mR_cI, mS_cI, mN_cI, mI_cL, mR_cL, mS_cL, mN_cL, mI_cR, mL_cR, mS_cR, mN_cR, true_and, and_true, true_or, or_true, if_true, if_false, jBool_0, jBool_1, Nat.le_refl, Nat.reduceLeDiff, Nat.reduceEqDiff, Nat.reduceAdd, Nat.reduceSub, reduceIte, Int32.reduceLT, Int32.reduceLE, ne_eq, not_false_eq_true, not_true_eq_false, false_or, or_false, and_false, false_and, reduceCtorEq, jn_4, jn_6, jn_8, jn_9, jn_12, jn_60, jn_100, jn_200, jn_400, jn_600, jn_601, jn_3600, jI_4, jI_6, jI_8, jI_9, jI_12, jI_60, jI_100, jI_200, jI_400, jI_600, jI_601, jI_3600, va_cpy_00, jx_0, jx_6, jx_12, jx_400, jx_600, nI_1, ne_a1, ne_a2, Nat.add_assoc, show jx 3600 = 3600 from rfl, show jx 4800 = 4800 from rfl, show jx 720 = 720 from rfl, show jx 18220 = 18220 from rfl, show jx 18030 = 18030 from rfl, show jx 200 = 200 from rfl, show jx 48 = 48 from rfl, show jx 80 = 80 from rfl, show jx 17 = 17 from rfl, show jx 601 = 601 from rfl, show jx 4 = 4 from rfl, show jx 8 = 8 from rfl, show jx 9 = 9 from rfl, mI_new, mL_new, mR_new, mS_new, mN_new, cIv, cLv, cRv, nk11, Sak11]
  rw [← hk12]
  simp (config := {decide := true, maxSteps := 1000000}) (disch := omega) only [tX5_init_79, tX5_init_80, tX5_init_83, tX5_init_85, tX5_init_85q, tX5_init_85n, jK_some, jK_none, jc1_int, jc1_ref, jc1_none, jc1_long, jc1_null, jc1_rf, va_rf_some, va_rf_none, mI_cI, mL_cL, mR_cR, cI_cI, cL_cL, jup_eq, jne_1, jne_2, Nat.add_left_cancel_iff, mL_cI, mR_cI, mS_cI, mN_cI, mI_cL, mR_cL, mS_cL, mN_cL, mI_cR, mL_cR, mS_cR, mN_cR, true_and, and_true, true_or, or_true, if_true, if_false, jBool_0, jBool_1, Nat.le_refl, Nat.reduceLeDiff, Nat.reduceEqDiff, Nat.reduceAdd, Nat.reduceSub, reduceIte, Int32.reduceLT, Int32.reduceLE, ne_eq, not_false_eq_true, not_true_eq_false, false_or, or_false, and_false, false_and, reduceCtorEq, jn_4, jn_6, jn_8, jn_9, jn_12, jn_60, jn_100, jn_200, jn_400, jn_600, jn_601, jn_3600, jI_4, jI_6, jI_8, jI_9, jI_12, jI_60, jI_100, jI_200, jI_400, jI_600, jI_601, jI_3600, va_cpy_00, jx_0, jx_6, jx_12, jx_400, jx_600, nI_1, ne_a1, ne_a2, Nat.add_assoc, show jx 3600 = 3600 from rfl, show jx 4800 = 4800 from rfl, show jx 720 = 720 from rfl, show jx 18220 = 18220 from rfl, show jx 18030 = 18030 from rfl, show jx 200 = 200 from rfl, show jx 48 = 48 from rfl, show jx 80 = 80 from rfl, show jx 17 = 17 from rfl, show jx 601 = 601 from rfl, show jx 4 = 4 from rfl, show jx 8 = 8 from rfl, show jx 9 = 9 from rfl, mI_new, mL_new, mR_new, mS_new, mN_new, cIv, cLv, cRv, nk12, Sak12]
  rw [← hk13]
  simp (config := {decide := true, maxSteps := 1000000}) (disch := omega) only [tX5_init_88, tX5_init_89, tX5_init_92, tX5_init_94, tX5_init_94q, tX5_init_94n, jK_some, jK_none, jc1_int, jc1_ref, jc1_none, jc1_long, jc1_null, jc1_rf, va_rf_some, va_rf_none, mI_cI, mL_cL, mR_cR, cI_cI, cL_cL, jup_eq, jne_1, jne_2, Nat.add_left_cancel_iff, mL_cI, mR_cI, mS_cI, mN_cI, mI_cL, mR_cL, mS_cL, mN_cL, mI_cR, mL_cR, mS_cR, mN_cR, true_and, and_true, true_or, or_true, if_true, if_false, jBool_0, jBool_1, Nat.le_refl, Nat.reduceLeDiff, Nat.reduceEqDiff, Nat.reduceAdd, Nat.reduceSub, reduceIte, Int32.reduceLT, Int32.reduceLE, ne_eq, not_false_eq_true, not_true_eq_false, false_or, or_false, and_false, false_and, reduceCtorEq, jn_4, jn_6, jn_8, jn_9, jn_12, jn_60, jn_100, jn_200, jn_400, jn_600, jn_601, jn_3600, jI_4, jI_6, jI_8, jI_9, jI_12, jI_60, jI_100, jI_200, jI_400, jI_600, jI_601, jI_3600, va_cpy_00, jx_0, jx_6, jx_12, jx_400, jx_600, nI_1, ne_a1, ne_a2, Nat.add_assoc, show jx 3600 = 3600 from rfl, show jx 4800 = 4800 from rfl, show jx 720 = 720 from rfl, show jx 18220 = 18220 from rfl, show jx 18030 = 18030 from rfl, show jx 200 = 200 from rfl, show jx 48 = 48 from rfl, show jx 80 = 80 from rfl, show jx 17 = 17 from rfl, show jx 601 = 601 from rfl, show jx 4 = 4 from rfl, show jx 8 = 8 from rfl, show jx 9 = 9 from rfl, mI_new, mL_new, mR_new, mS_new, mN_new, cIv, cLv, cRv, nk13, Sak13]
  rw [← hk14]
  simp (config := {decide := true, maxSteps := 1000000}) (disch := omega) only [tX5_init_97, tX5_init_98, tX5_init_101, tX5_init_103, tX5_init_103q, tX5_init_103n, jK_some, jK_none, jc1_int, jc1_ref, jc1_none, jc1_long, jc1_null, jc1_rf, va_rf_some, va_rf_none, mI_cI, mL_cL, mR_cR, cI_cI, cL_cL, jup_eq, jne_1, jne_2, Nat.add_left_cancel_iff, mL_cI, mR_cI, mS_cI, mN_cI, mI_cL, mR_cL, mS_cL, mN_cL, mI_cR, mL_cR, mS_cR, mN_cR, true_and, and_true, true_or, or_true, if_true, if_false, jBool_0, jBool_1, Nat.le_refl, Nat.reduceLeDiff, Nat.reduceEqDiff, Nat.reduceAdd, Nat.reduceSub, reduceIte, Int32.reduceLT, Int32.reduceLE, ne_eq, not_false_eq_true, not_true_eq_false, false_or, or_false, and_false, false_and, reduceCtorEq, jn_4, jn_6, jn_8, jn_9, jn_12, jn_60, jn_100, jn_200, jn_400, jn_600, jn_601, jn_3600, jI_4, jI_6, jI_8, jI_9, jI_12, jI_60, jI_100, jI_200, jI_400, jI_600, jI_601, jI_3600, va_cpy_00, jx_0, jx_6, jx_12, jx_400, jx_600, nI_1, ne_a1, ne_a2, Nat.add_assoc, show jx 3600 = 3600 from rfl, show jx 4800 = 4800 from rfl, show jx 720 = 720 from rfl, show jx 18220 = 18220 from rfl, show jx 18030 = 18030 from rfl, show jx 200 = 200 from rfl, show jx 48 = 48 from rfl, show jx 80 = 80 from rfl, show jx 17 = 17 from rfl, show jx 601 = 601 from rfl, show jx 4 = 4 from rfl, show jx 8 = 8 from rfl, show jx 9 = 9 from rfl, mI_new, mL_new, mR_new, mS_new, mN_new, cIv, cLv, cRv, nk14, Sak14]
  rw [← hk15]
  simp (config := {decide := true, maxSteps := 1000000}) (disch := omega) only [tX5_init_106, tX5_init_107, tX5_init_110, tX5_init_112, tX5_init_112q, tX5_init_112n, jK_some, jK_none, jc1_int, jc1_ref, jc1_none, jc1_long, jc1_null, jc1_rf, va_rf_some, va_rf_none, mI_cI, mL_cL, mR_cR, cI_cI, cL_cL, jup_eq, jne_1, jne_2, Nat.add_left_cancel_iff, mL_cI, mR_cI, mS_cI, mN_cI, mI_cL, mR_cL, mS_cL, mN_cL, mI_cR, mL_cR, mS_cR, mN_cR, true_and, and_true, true_or, or_true, if_true, if_false, jBool_0, jBool_1, Nat.le_refl, Nat.reduceLeDiff, Nat.reduceEqDiff, Nat.reduceAdd, Nat.reduceSub, reduceIte, Int32.reduceLT, Int32.reduceLE, ne_eq, not_false_eq_true, not_true_eq_false, false_or, or_false, and_false, false_and, reduceCtorEq, jn_4, jn_6, jn_8, jn_9, jn_12, jn_60, jn_100, jn_200, jn_400, jn_600, jn_601, jn_3600, jI_4, jI_6, jI_8, jI_9, jI_12, jI_60, jI_100, jI_200, jI_400, jI_600, jI_601, jI_3600, va_cpy_00, jx_0, jx_6, jx_12, jx_400, jx_600, nI_1, ne_a1, ne_a2, Nat.add_assoc, show jx 3600 = 3600 from rfl, show jx 4800 = 4800 from rfl, show jx 720 = 720 from rfl, show jx 18220 = 18220 from rfl, show jx 18030 = 18030 from rfl, show jx 200 = 200 from rfl, show jx 48 = 48 from rfl, show jx 80 = 80 from rfl, show jx 17 = 17 from rfl, show jx 601 = 601 from rfl, show jx 4 = 4 from rfl, show jx 8 = 8 from rfl, show jx 9 = 9 from rfl, mI_new, mL_new, mR_new, mS_new, mN_new, cIv, cLv, cRv, nk15, Sak15]
  rw [← hk16]
  simp (config := {decide := true, maxSteps := 1000000}) (disch := omega) only [tX5_init_115, tX5_init_116, tX5_init_119, tX5_init_121, tX5_init_121q, tX5_init_121n, jK_some, jK_none, jc1_int, jc1_ref, jc1_none, jc1_long, jc1_null, jc1_rf, va_rf_some, va_rf_none, mI_cI, mL_cL, mR_cR, cI_cI, cL_cL, jup_eq, jne_1, jne_2, Nat.add_left_cancel_iff, mL_cI, mR_cI, mS_cI, mN_cI, mI_cL, mR_cL, mS_cL, mN_cL, mI_cR, mL_cR, mS_cR, mN_cR, true_and, and_true, true_or, or_true, if_true, if_false, jBool_0, jBool_1, Nat.le_refl, Nat.reduceLeDiff, Nat.reduceEqDiff, Nat.reduceAdd, Nat.reduceSub, reduceIte, Int32.reduceLT, Int32.reduceLE, ne_eq, not_false_eq_true, not_true_eq_false, false_or, or_false, and_false, false_and, reduceCtorEq, jn_4, jn_6, jn_8, jn_9, jn_12, jn_60, jn_100, jn_200, jn_400, jn_600, jn_601, jn_3600, jI_4, jI_6, jI_8, jI_9, jI_12, jI_60, jI_100, jI_200, jI_400, jI_600, jI_601, jI_3600, va_cpy_00, jx_0, jx_6, jx_12, jx_400, jx_600, nI_1, ne_a1, ne_a2, Nat.add_assoc, show jx 3600 = 3600 from rfl, show jx 4800 = 4800 from rfl, show jx 720 = 720 from rfl, show jx 18220 = 18220 from rfl, show jx 18030 = 18030 from rfl, show jx 200 = 200 from rfl, show jx 48 = 48 from rfl, show jx 80 = 80 from rfl, show jx 17 = 17 from rfl, show jx 601 = 601 from rfl, show jx 4 = 4 from rfl, show jx 8 = 8 from rfl, show jx 9 = 9 from rfl, mI_new, mL_new, mR_new, mS_new, mN_new, cIv, cLv, cRv, nk16, Sak16]
  rw [← hk17]
  simp (config := {decide := true, maxSteps := 1000000}) (disch := omega) only [tX5_init_124, tX5_init_125, tX5_init_127, tX5_init_129, tX5_init_129q, tX5_init_129n, jK_some, jK_none, jc1_int, jc1_ref, jc1_none, jc1_long, jc1_null, jc1_rf, va_rf_some, va_rf_none, mI_cI, mL_cL, mR_cR, cI_cI, cL_cL, jup_eq, jne_1, jne_2, Nat.add_left_cancel_iff, mL_cI, mR_cI, mS_cI, mN_cI, mI_cL, mR_cL, mS_cL, mN_cL, mI_cR, mL_cR, mS_cR, mN_cR, true_and, and_true, true_or, or_true, if_true, if_false, jBool_0, jBool_1, Nat.le_refl, Nat.reduceLeDiff, Nat.reduceEqDiff, Nat.reduceAdd, Nat.reduceSub, reduceIte, Int32.reduceLT, Int32.reduceLE, ne_eq, not_false_eq_true, not_true_eq_false, false_or, or_false, and_false, false_and, reduceCtorEq, jn_4, jn_6, jn_8, jn_9, jn_12, jn_60, jn_100, jn_200, jn_400, jn_600, jn_601, jn_3600, jI_4, jI_6, jI_8, jI_9, jI_12, jI_60, jI_100, jI_200, jI_400, jI_600, jI_601, jI_3600, va_cpy_00, jx_0, jx_6, jx_12, jx_400, jx_600, nI_1, ne_a1, ne_a2, Nat.add_assoc, show jx 3600 = 3600 from rfl, show jx 4800 = 4800 from rfl, show jx 720 = 720 from rfl, show jx 18220 = 18220 from rfl, show jx 18030 = 18030 from rfl, show jx 200 = 200 from rfl, show jx 48 = 48 from rfl, show jx 80 = 80 from rfl, show jx 17 = 17 from rfl, show jx 601 = 601 from rfl, show jx 4 = 4 from rfl, show jx 8 = 8 from rfl, show jx 9 = 9 from rfl, mI_new, mL_new, mR_new, mS_new, mN_new, cIv, cLv, cRv, nk17, Sak17]
  rw [← hk18]
  simp (config := {decide := true, maxSteps := 1000000}) (disch := omega) only [tX5_init_132, jK_some, jK_none, jc1_int, jc1_ref, jc1_none, jc1_long, jc1_null, jc1_rf, va_rf_some, va_rf_none, mI_cI, mL_cL, mR_cR, cI_cI, cL_cL, jup_eq, jne_1, jne_2, Nat.add_left_cancel_iff, mL_cI, mR_cI, mS_cI, mN_cI, mI_cL, mR_cL, mS_cL, mN_cL, mI_cR, mL_cR, mS_cR, mN_cR, true_and, and_true, true_or, or_true, if_true, if_false, jBool_0, jBool_1, Nat.le_refl, Nat.reduceLeDiff, Nat.reduceEqDiff, Nat.reduceAdd, Nat.reduceSub, reduceIte, Int32.reduceLT, Int32.reduceLE, ne_eq, not_false_eq_true, not_true_eq_false, false_or, or_false, and_false, false_and, reduceCtorEq, jn_4, jn_6, jn_8, jn_9, jn_12, jn_60, jn_100, jn_200, jn_400, jn_600, jn_601, jn_3600, jI_4, jI_6, jI_8, jI_9, jI_12, jI_60, jI_100, jI_200, jI_400, jI_600, jI_601, jI_3600, va_cpy_00, jx_0, jx_6, jx_12, jx_400, jx_600, nI_1, ne_a1, ne_a2, Nat.add_assoc, show jx 3600 = 3600 from rfl, show jx 4800 = 4800 from rfl, show jx 720 = 720 from rfl, show jx 18220 = 18220 from rfl, show jx 18030 = 18030 from rfl, show jx 200 = 200 from rfl, show jx 48 = 48 from rfl, show jx 80 = 80 from rfl, show jx 17 = 17 from rfl, show jx 601 = 601 from rfl, show jx 4 = 4 from rfl, show jx 8 = 8 from rfl, show jx 9 = 9 from rfl]
  apply hQ
  refine ⟨⟨nk18, ?_⟩, fun b hb => (FM b (Nat.ne_of_lt hb)).trans (GM b (Nat.ne_of_lt hb) (Nat.lt_add_right 1 hb)), ?_⟩
  · rw [zk18, zk17, zk16, zk15, zk14, zk13, zk12, zk11, zk10, zk9, zk8, zk7, zk6, zk5, zk4, zk3, zk2, zk1, zk0, zM]
  · have s0 := Bk0 (a + 1) (by omega) (by omega)
    have s1 := Bk0 (a + 2) (by omega) (by omega)
    have s2 := Bk0 (a + 3) (by omega) (by omega)
    obtain ⟨st1, st2, st3, st4, st5⟩ := sk0
    simp only [Nat.add_assoc, Nat.reduceAdd] at st2 st3 st4 st5
    refine ⟨⟨Sak18, ?_, ?_, ?_, ?_, ?_, ?_, ?_, ?_, s0.1.trans st1, ?_, ?_, s1.1.trans st4, s2.1.trans st5, Ak12.1, Ak13.1, Ak14.1, Ak15.1, Ak16.1, Ak17.1, Ak18.1⟩, fun j => ?_, zr_p s0 yk0, zr_p s1 yyk0, zr_p s2 yyyk0, zr_0 Ak12.2.1 Ak12.2.2.1, zr_0 Ak13.2.1 Ak13.2.2.1, zr_0 Ak14.2.1 Ak14.2.2.1, zr_0 Ak15.2.1 Ak15.2.2.1, zr_0 Ak16.2.1 Ak16.2.2.1, zr_0 Ak17.2.1 Ak17.2.2.1, zr_0 Ak18.2.1 Ak18.2.2.1⟩
    all_goals first | (rw [RA]; simp (config := {decide := true}) only [jup_eq, reduceIte, Nat.reduceEqDiff, ite_self]) | (rw [s0.2.1]; first | exact st2 | exact st3) | (rw [IA, LA]; simp (config := {decide := true}) only [jup_eq, reduceIte, Nat.reduceEqDiff, ite_self])
theorem i_Image (hN : mN m = a) : ∃ m', CE (d + 3) 18 [.ref a] (jNew m 2 5) none m' ∧ (mN m' = a + 14 ∧ mZ m' = mZ m + 6662) ∧ (∀ b, b < a → sm4 m m' b) ∧ (mS m' a = (2, 5) ∧ mR m' a 0 = some (a + 1) ∧ mR m' a 1 = some (a + 12) ∧ mR m' a 2 = some (a + 13) ∧ PotL (mS m') (mR m') (a + 1) ∧ mS m' (a + 12) = (20, 6) ∧ mS m' (a + 13) = (20, 6)) ∧ zr m' a := by
  obtain ⟨M, hM⟩ : ∃ M : jmM, M = jNew m 2 5 := ⟨_, rfl⟩
  have nM : mN M = a + 1 := by rw [hM, mN_new, hN]
  have zM : mZ M = mZ m + 5 := by rw [hM, mZ_new]
  have SaM : mS M a = (2, 5) := by rw [hM, mS_new, hN, if_pos rfl]
  have RaM : mR M a = fun _ => none := by rw [hM, mR_new, hN, if_pos rfl]
  have IaM : mI M a = fun _ => 0 := by rw [hM, mI_new, hN, if_pos rfl]
  have LaM : mL M a = fun _ => 0 := by rw [hM, mL_new, hN, if_pos rfl]
  have FM : ∀ c, c ≠ a → sm4 m M c := fun c h => by rw [hM]; exact ⟨by rw [mS_new, hN, if_neg h], by rw [mR_new, hN, if_neg h], by rw [mI_new, hN, if_neg h], by rw [mL_new, hN, if_neg h]⟩
  obtain ⟨x0, ck0, ⟨nx0, zx0⟩, fx0, sk0, yk0⟩ := i_Pot (d := d) (m := M) (a := a + 1) nM
  simp only [Nat.add_assoc, Nat.reduceAdd, Nat.reduceMul] at nx0 sk0 yk0
  have Sax0 : mS x0 a = (2, 5) := (fx0 a (Nat.lt_add_of_pos_right (by decide))).1.trans SaM
  have Rax0 : mR x0 a = mR M a := (fx0 a (Nat.lt_add_of_pos_right (by decide))).2.1
  obtain ⟨k0, hk0⟩ : ∃ k0 : jmM, k0 = cR x0 a (jup (mR M a) 0 (some (a + 1))) := ⟨_, rfl⟩
  have nk0 : mN k0 = a + 12 := by rw [hk0, mN_cR, nx0]
  have zk0 : mZ k0 = mZ M + 6645 := by rw [hk0, mZ_cR, zx0]
  have Fk0 : ∀ c, c ≠ a → c < a + 1 → sm4 M k0 c := fun c h1 h2 => by rw [hk0]; exact ⟨by rw [mS_cR, (fx0 c h2).1], by rw [cRv, if_neg h1, (fx0 c h2).2.1], by rw [mI_cR, (fx0 c h2).2.2.1], by rw [mL_cR, (fx0 c h2).2.2.2]⟩
  have Yk0 : ∀ c, c ≠ a → sm4 x0 k0 c := fun c h1 => by rw [hk0]; exact ⟨rfl, by rw [cRv, if_neg h1], rfl, rfl⟩
  have Sak0 : mS k0 a = (2, 5) := by rw [hk0, mS_cR, Sax0]
  have Rak0 : mR k0 a = jup (mR M a) 0 (some (a + 1)) := by rw [hk0, cRv, if_pos rfl]
  have Iak0 : mI k0 a = mI M a := by rw [hk0, mI_cR]; exact (fx0 a (Nat.lt_add_of_pos_right (by decide))).2.2.1
  have Lak0 : mL k0 a = mL M a := by rw [hk0, mL_cR]; exact (fx0 a (Nat.lt_add_of_pos_right (by decide))).2.2.2
  obtain ⟨k1, hk1⟩ : ∃ k1 : jmM, k1 = cR (jNew k0 20 6) a (jup (mR k0 a) 1 (some (a + 12))) := ⟨_, rfl⟩
  have nk1 : mN k1 = a + 13 := by rw [hk1, mN_cR, mN_new, nk0]
  have zk1 : mZ k1 = mZ k0 + 6 := by rw [hk1, mZ_cR, mZ_new]
  have Fk1 : ∀ c, c ≠ a → c ≠ a + 12 → sm4 k0 k1 c := fun c h1 h2 => by rw [hk1]; exact ⟨by rw [mS_cR, mS_new, nk0, if_neg h2], by rw [cRv, if_neg h1, mR_new, nk0, if_neg h2], by rw [mI_cR, mI_new, nk0, if_neg h2], by rw [mL_cR, mL_new, nk0, if_neg h2]⟩
  have Xk1 : mS k1 (a + 12) = (20, 6) ∧ mI k1 (a + 12) = (fun _ => 0) ∧ mL k1 (a + 12) = (fun _ => 0) ∧ mR k1 (a + 12) = fun _ => none := by rw [hk1]; exact ⟨by rw [mS_cR, mS_new, nk0, if_pos rfl], by rw [mI_cR, mI_new, nk0, if_pos rfl], by rw [mL_cR, mL_new, nk0, if_pos rfl], by rw [cRv, if_neg (Nat.ne_of_gt (Nat.lt_add_of_pos_right (by decide))), mR_new, nk0, if_pos rfl]⟩
  have Sak1 : mS k1 a = (2, 5) := by rw [hk1, mS_cR, mS_new, nk0, if_neg (Nat.ne_of_lt (Nat.lt_add_of_pos_right (by decide))), Sak0]
  have Rak1 : mR k1 a = jup (mR k0 a) 1 (some (a + 12)) := by rw [hk1, cRv, if_pos rfl]
  have Iak1 : mI k1 a = mI k0 a := by rw [hk1, mI_cR, mI_new, nk0, if_neg (Nat.ne_of_lt (Nat.lt_add_of_pos_right (by decide)))]
  have Lak1 : mL k1 a = mL k0 a := by rw [hk1, mL_cR, mL_new, nk0, if_neg (Nat.ne_of_lt (Nat.lt_add_of_pos_right (by decide)))]
  obtain ⟨k2, hk2⟩ : ∃ k2 : jmM, k2 = cR (jNew k1 20 6) a (jup (mR k1 a) 2 (some (a + 13))) := ⟨_, rfl⟩
  have nk2 : mN k2 = a + 14 := by rw [hk2, mN_cR, mN_new, nk1]
  have zk2 : mZ k2 = mZ k1 + 6 := by rw [hk2, mZ_cR, mZ_new]
  have Fk2 : ∀ c, c ≠ a → c ≠ a + 13 → sm4 k1 k2 c := fun c h1 h2 => by rw [hk2]; exact ⟨by rw [mS_cR, mS_new, nk1, if_neg h2], by rw [cRv, if_neg h1, mR_new, nk1, if_neg h2], by rw [mI_cR, mI_new, nk1, if_neg h2], by rw [mL_cR, mL_new, nk1, if_neg h2]⟩
  have Xk2 : mS k2 (a + 13) = (20, 6) ∧ mI k2 (a + 13) = (fun _ => 0) ∧ mL k2 (a + 13) = (fun _ => 0) ∧ mR k2 (a + 13) = fun _ => none := by rw [hk2]; exact ⟨by rw [mS_cR, mS_new, nk1, if_pos rfl], by rw [mI_cR, mI_new, nk1, if_pos rfl], by rw [mL_cR, mL_new, nk1, if_pos rfl], by rw [cRv, if_neg (Nat.ne_of_gt (Nat.lt_add_of_pos_right (by decide))), mR_new, nk1, if_pos rfl]⟩
  have Sak2 : mS k2 a = (2, 5) := by rw [hk2, mS_cR, mS_new, nk1, if_neg (Nat.ne_of_lt (Nat.lt_add_of_pos_right (by decide))), Sak1]
  have Rak2 : mR k2 a = jup (mR k1 a) 2 (some (a + 13)) := by rw [hk2, cRv, if_pos rfl]
  have Iak2 : mI k2 a = mI k1 a := by rw [hk2, mI_cR, mI_new, nk1, if_neg (Nat.ne_of_lt (Nat.lt_add_of_pos_right (by decide)))]
  have Lak2 : mL k2 a = mL k1 a := by rw [hk2, mL_cR, mL_new, nk1, if_neg (Nat.ne_of_lt (Nat.lt_add_of_pos_right (by decide)))]
  obtain ⟨k3, hk3⟩ : ∃ k3 : jmM, k3 = cI k2 a (jup (mI k2 a) 3 0) := ⟨_, rfl⟩
  have nk3 : mN k3 = a + 14 := by rw [hk3, mN_cI, nk2]
  have zk3 : mZ k3 = mZ k2 := by rw [hk3, mZ_cI]
  have Fk3 : ∀ c, c ≠ a → sm4 k2 k3 c := fun c h1 => by rw [hk3]; exact ⟨rfl, rfl, by rw [cIv, if_neg h1], rfl⟩
  have Sak3 : mS k3 a = (2, 5) := by rw [hk3, mS_cI, Sak2]
  have Rak3 : mR k3 a = mR k2 a := by rw [hk3, mR_cI]
  have Iak3 : mI k3 a = jup (mI k2 a) 3 0 := by rw [hk3, cIv, if_pos rfl]
  have Lak3 : mL k3 a = mL k2 a := by rw [hk3, mL_cI]
  obtain ⟨k4, hk4⟩ : ∃ k4 : jmM, k4 = cI k3 a (jup (mI k3 a) 4 0) := ⟨_, rfl⟩
  have nk4 : mN k4 = a + 14 := by rw [hk4, mN_cI, nk3]
  have zk4 : mZ k4 = mZ k3 := by rw [hk4, mZ_cI]
  have Fk4 : ∀ c, c ≠ a → sm4 k3 k4 c := fun c h1 => by rw [hk4]; exact ⟨rfl, rfl, by rw [cIv, if_neg h1], rfl⟩
  have Sak4 : mS k4 a = (2, 5) := by rw [hk4, mS_cI, Sak3]
  have Rak4 : mR k4 a = mR k3 a := by rw [hk4, mR_cI]
  have Iak4 : mI k4 a = jup (mI k3 a) 4 0 := by rw [hk4, cIv, if_pos rfl]
  have Lak4 : mL k4 a = mL k3 a := by rw [hk4, mL_cI]
  have Gk4 : ∀ c, c ≠ a → c < a + 14 → sm4 k4 k4 c := fun c _ _ => sm4.refl
  have Gk3 : ∀ c, c ≠ a → c < a + 14 → sm4 k3 k4 c := fun c h1 h2 => (Fk4 c h1).trans (Gk4 c h1 h2)
  have Gk2 : ∀ c, c ≠ a → c < a + 14 → sm4 k2 k4 c := fun c h1 h2 => (Fk3 c h1).trans (Gk3 c h1 h2)
  have Gk1 : ∀ c, c ≠ a → c < a + 13 → sm4 k1 k4 c := fun c h1 h2 => (Fk2 c h1 (Nat.ne_of_lt h2)).trans (Gk2 c h1 (Nat.lt_of_lt_of_le h2 (Nat.add_le_add_left (by decide) a)))
  have Gk0 : ∀ c, c ≠ a → c < a + 12 → sm4 k0 k4 c := fun c h1 h2 => (Fk1 c h1 (Nat.ne_of_lt h2)).trans (Gk1 c h1 (Nat.lt_of_lt_of_le h2 (Nat.add_le_add_left (by decide) a)))
  have GM : ∀ c, c ≠ a → c < a + 1 → sm4 M k4 c := fun c h1 h2 => (Fk0 c h1 h2).trans (Gk0 c h1 (Nat.lt_of_lt_of_le h2 (Nat.add_le_add_left (by decide) a)))
  have RA := Rak4
  rw [Rak3, Rak2, Rak1, Rak0, RaM] at RA
  have IA := Iak4
  rw [Iak3, Iak2, Iak1, Iak0, IaM] at IA
  have LA := Lak4
  rw [Lak3, Lak2, Lak1, Lak0, LaM] at LA
  have Ak1 : mS k4 (a + 12) = (20, 6) ∧ mI k4 (a + 12) = (fun _ => 0) ∧ mL k4 (a + 12) = (fun _ => 0) ∧ mR k4 (a + 12) = fun _ => none := by have g := Gk1 (a + 12) (Nat.ne_of_gt (Nat.lt_add_of_pos_right (by decide))) (Nat.add_lt_add_left (by decide) a); unfold sm4 at g; rw [g.1, g.2.1, g.2.2.1, g.2.2.2]; exact ⟨Xk1.1, Xk1.2.1, Xk1.2.2.1, Xk1.2.2.2⟩
  have Ak2 : mS k4 (a + 13) = (20, 6) ∧ mI k4 (a + 13) = (fun _ => 0) ∧ mL k4 (a + 13) = (fun _ => 0) ∧ mR k4 (a + 13) = fun _ => none := by have g := Gk2 (a + 13) (Nat.ne_of_gt (Nat.lt_add_of_pos_right (by decide))) (Nat.add_lt_add_left (by decide) a); unfold sm4 at g; rw [g.1, g.2.1, g.2.2.1, g.2.2.2]; exact ⟨Xk2.1, Xk2.2.1, Xk2.2.2.1, Xk2.2.2.2⟩
  have Bk0 : ∀ c, a + 1 ≤ c → c < a + 1 + 11 → sm4 x0 k4 c := fun c h1 h2 => (Yk0 c (Nat.ne_of_gt (Nat.lt_of_lt_of_le (show a < a + 1 from (Nat.lt_add_of_pos_right (by decide))) h1))).trans (Gk0 c (Nat.ne_of_gt (Nat.lt_of_lt_of_le (show a < a + 1 from (Nat.lt_add_of_pos_right (by decide))) h1)) h2)
  apply CE_ex
  intro Q hQ
  rw [nX2_init, ← hM]
  simp (config := {decide := true, maxSteps := 1000000}) (disch := omega) only [tX2_init_0, tX2_init_1, tX2_init_4, tX2_init_5, tX2_init_8, tX2_init_9, tX2_init_12, tX2_init_12q, tX2_init_12n, jK_some, jK_none, jc1_int, jc1_ref, jc1_none, jc1_long, jc1_null, jc1_rf, va_rf_some, va_rf_none, mI_cI, mL_cL, mR_cR, cI_cI, cL_cL, jup_eq, jne_1, jne_2, Nat.add_left_cancel_iff, mL_cI, mR_cI, mS_cI, mN_cI, mI_cL, mR_cL, mS_cL, mN_cL, mI_cR, mL_cR, mS_cR, mN_cR, true_and, and_true, true_or, or_true, if_true, if_false, jBool_0, jBool_1, Nat.le_refl, Nat.reduceLeDiff, Nat.reduceEqDiff, Nat.reduceAdd, Nat.reduceSub, reduceIte, Int32.reduceLT, Int32.reduceLE, ne_eq, not_false_eq_true, not_true_eq_false, false_or, or_false, and_false, false_and, reduceCtorEq, jn_4, jn_6, jn_8, jn_9, jn_12, jn_60, jn_100, jn_200, jn_400, jn_600, jn_601, jn_3600, jI_4, jI_6, jI_8, jI_9, jI_12, jI_60, jI_100, jI_200, jI_400, jI_600, jI_601, jI_3600, va_cpy_00, jx_0, jx_6, jx_12, jx_400, jx_600, nI_1, ne_a1, ne_a2, Nat.add_assoc, show jx 3600 = 3600 from rfl, show jx 4800 = 4800 from rfl, show jx 720 = 720 from rfl, show jx 18220 = 18220 from rfl, show jx 18030 = 18030 from rfl, show jx 200 = 200 from rfl, show jx 48 = 48 from rfl, show jx 80 = 80 from rfl, show jx 17 = 17 from rfl, show jx 601 = 601 from rfl, show jx 4 = 4 from rfl, show jx 8 = 8 from rfl, show jx 9 = 9 from rfl, ck0.iff, nM, Sax0, Rax0, cRv]
  rw [← hk0]
  simp (config := {decide := true, maxSteps := 1000000}) (disch := omega) only [tX2_init_15, tX2_init_16, tX2_init_18, tX2_init_20, tX2_init_20q, tX2_init_20n, jK_some, jK_none, jc1_int, jc1_ref, jc1_none, jc1_long, jc1_null, jc1_rf, va_rf_some, va_rf_none, mI_cI, mL_cL, mR_cR, cI_cI, cL_cL, jup_eq, jne_1, jne_2, Nat.add_left_cancel_iff, mL_cI, mR_cI, mS_cI, mN_cI, mI_cL, mR_cL, mS_cL, mN_cL, mI_cR, mL_cR, mS_cR, mN_cR, true_and, and_true, true_or, or_true, if_true, if_false, jBool_0, jBool_1, Nat.le_refl, Nat.reduceLeDiff, Nat.reduceEqDiff, Nat.reduceAdd, Nat.reduceSub, reduceIte, Int32.reduceLT, Int32.reduceLE, ne_eq, not_false_eq_true, not_true_eq_false, false_or, or_false, and_false, false_and, reduceCtorEq, jn_4, jn_6, jn_8, jn_9, jn_12, jn_60, jn_100, jn_200, jn_400, jn_600, jn_601, jn_3600, jI_4, jI_6, jI_8, jI_9, jI_12, jI_60, jI_100, jI_200, jI_400, jI_600, jI_601, jI_3600, va_cpy_00, jx_0, jx_6, jx_12, jx_400, jx_600, nI_1, ne_a1, ne_a2, Nat.add_assoc, show jx 3600 = 3600 from rfl, show jx 4800 = 4800 from rfl, show jx 720 = 720 from rfl, show jx 18220 = 18220 from rfl, show jx 18030 = 18030 from rfl, show jx 200 = 200 from rfl, show jx 48 = 48 from rfl, show jx 80 = 80 from rfl, show jx 17 = 17 from rfl, show jx 601 = 601 from rfl, show jx 4 = 4 from rfl, show jx 8 = 8 from rfl, show jx 9 = 9 from rfl, mI_new, mL_new, mR_new, mS_new, mN_new, cIv, cLv, cRv, nk0, Sak0]
  rw [← hk1]
  simp (config := {decide := true, maxSteps := 1000000}) (disch := omega) only [tX2_init_23, tX2_init_24, tX2_init_26, tX2_init_28, tX2_init_28q, tX2_init_28n, jK_some, jK_none, jc1_int, jc1_ref, jc1_none, jc1_long, jc1_null, jc1_rf, va_rf_some, va_rf_none, mI_cI, mL_cL, mR_cR, cI_cI, cL_cL, jup_eq, jne_1, jne_2, Nat.add_left_cancel_iff, mL_cI, mR_cI, mS_cI, mN_cI, mI_cL, mR_cL, mS_cL, mN_cL, mI_cR, mL_cR, mS_cR, mN_cR, true_and, and_true, true_or, or_true, if_true, if_false, jBool_0, jBool_1, Nat.le_refl, Nat.reduceLeDiff, Nat.reduceEqDiff, Nat.reduceAdd, Nat.reduceSub, reduceIte, Int32.reduceLT, Int32.reduceLE, ne_eq, not_false_eq_true, not_true_eq_false, false_or, or_false, and_false, false_and, reduceCtorEq, jn_4, jn_6, jn_8, jn_9, jn_12, jn_60, jn_100, jn_200, jn_400, jn_600, jn_601, jn_3600, jI_4, jI_6, jI_8, jI_9, jI_12, jI_60, jI_100, jI_200, jI_400, jI_600, jI_601, jI_3600, va_cpy_00, jx_0, jx_6, jx_12, jx_400, jx_600, nI_1, ne_a1, ne_a2, Nat.add_assoc, show jx 3600 = 3600 from rfl, show jx 4800 = 4800 from rfl, show jx 720 = 720 from rfl, show jx 18220 = 18220 from rfl, show jx 18030 = 18030 from rfl, show jx 200 = 200 from rfl, show jx 48 = 48 from rfl, show jx 80 = 80 from rfl, show jx 17 = 17 from rfl, show jx 601 = 601 from rfl, show jx 4 = 4 from rfl, show jx 8 = 8 from rfl, show jx 9 = 9 from rfl, mI_new, mL_new, mR_new, mS_new, mN_new, cIv, cLv, cRv, nk1, Sak1]
  rw [← hk2]
  simp (config := {decide := true, maxSteps := 1000000}) (disch := omega) only [tX2_init_31, tX2_init_32, tX2_init_33, jK_some, jK_none, jc1_int, jc1_ref, jc1_none, jc1_long, jc1_null, jc1_rf, va_rf_some, va_rf_none, mI_cI, mL_cL, mR_cR, cI_cI, cL_cL, jup_eq, jne_1, jne_2, Nat.add_left_cancel_iff, mL_cI, mR_cI, mS_cI, mN_cI, mI_cL, mR_cL, mS_cL, mN_cL, mI_cR, mL_cR, mS_cR, mN_cR, true_and, and_true, true_or, or_true, if_true, if_false, jBool_0, jBool_1, Nat.le_refl, Nat.reduceLeDiff, Nat.reduceEqDiff, Nat.reduceAdd, Nat.reduceSub, reduceIte, Int32.reduceLT, Int32.reduceLE, ne_eq, not_false_eq_true, not_true_eq_false, false_or, or_false, and_false, false_and, reduceCtorEq, jn_4, jn_6, jn_8, jn_9, jn_12, jn_60, jn_100, jn_200, jn_400, jn_600, jn_601, jn_3600, jI_4, jI_6, jI_8, jI_9, jI_12, jI_60, jI_100, jI_200, jI_400, jI_600, jI_601, jI_3600, va_cpy_00, jx_0, jx_6, jx_12, jx_400, jx_600, nI_1, ne_a1, ne_a2, Nat.add_assoc, show jx 3600 = 3600 from rfl, show jx 4800 = 4800 from rfl, show jx 720 = 720 from rfl, show jx 18220 = 18220 from rfl, show jx 18030 = 18030 from rfl, show jx 200 = 200 from rfl, show jx 48 = 48 from rfl, show jx 80 = 80 from rfl, show jx 17 = 17 from rfl, show jx 601 = 601 from rfl, show jx 4 = 4 from rfl, show jx 8 = 8 from rfl, show jx 9 = 9 from rfl, Sak2]
  rw [← hk3]
  simp (config := {decide := true, maxSteps := 1000000}) (disch := omega) only [tX2_init_36, tX2_init_37, tX2_init_38, jK_some, jK_none, jc1_int, jc1_ref, jc1_none, jc1_long, jc1_null, jc1_rf, va_rf_some, va_rf_none, mI_cI, mL_cL, mR_cR, cI_cI, cL_cL, jup_eq, jne_1, jne_2, Nat.add_left_cancel_iff, mL_cI, mR_cI, mS_cI, mN_cI, mI_cL, mR_cL, mS_cL, mN_cL, mI_cR, mL_cR, mS_cR, mN_cR, true_and, and_true, true_or, or_true, if_true, if_false, jBool_0, jBool_1, Nat.le_refl, Nat.reduceLeDiff, Nat.reduceEqDiff, Nat.reduceAdd, Nat.reduceSub, reduceIte, Int32.reduceLT, Int32.reduceLE, ne_eq, not_false_eq_true, not_true_eq_false, false_or, or_false, and_false, false_and, reduceCtorEq, jn_4, jn_6, jn_8, jn_9, jn_12, jn_60, jn_100, jn_200, jn_400, jn_600, jn_601, jn_3600, jI_4, jI_6, jI_8, jI_9, jI_12, jI_60, jI_100, jI_200, jI_400, jI_600, jI_601, jI_3600, va_cpy_00, jx_0, jx_6, jx_12, jx_400, jx_600, nI_1, ne_a1, ne_a2, Nat.add_assoc, show jx 3600 = 3600 from rfl, show jx 4800 = 4800 from rfl, show jx 720 = 720 from rfl, show jx 18220 = 18220 from rfl, show jx 18030 = 18030 from rfl, show jx 200 = 200 from rfl, show jx 48 = 48 from rfl, show jx 80 = 80 from rfl, show jx 17 = 17 from rfl, show jx 601 = 601 from rfl, show jx 4 = 4 from rfl, show jx 8 = 8 from rfl, show jx 9 = 9 from rfl, Sak3]
  rw [← hk4]
  simp (config := {decide := true, maxSteps := 1000000}) (disch := omega) only [tX2_init_41, jK_some, jK_none, jc1_int, jc1_ref, jc1_none, jc1_long, jc1_null, jc1_rf, va_rf_some, va_rf_none, mI_cI, mL_cL, mR_cR, cI_cI, cL_cL, jup_eq, jne_1, jne_2, Nat.add_left_cancel_iff, mL_cI, mR_cI, mS_cI, mN_cI, mI_cL, mR_cL, mS_cL, mN_cL, mI_cR, mL_cR, mS_cR, mN_cR, true_and, and_true, true_or, or_true, if_true, if_false, jBool_0, jBool_1, Nat.le_refl, Nat.reduceLeDiff, Nat.reduceEqDiff, Nat.reduceAdd, Nat.reduceSub, reduceIte, Int32.reduceLT, Int32.reduceLE, ne_eq, not_false_eq_true, not_true_eq_false, false_or, or_false, and_false, false_and, reduceCtorEq, jn_4, jn_6, jn_8, jn_9, jn_12, jn_60, jn_100, jn_200, jn_400, jn_600, jn_601, jn_3600, jI_4, jI_6, jI_8, jI_9, jI_12, jI_60, jI_100, jI_200, jI_400, jI_600, jI_601, jI_3600, va_cpy_00, jx_0, jx_6, jx_12, jx_400, jx_600, nI_1, ne_a1, ne_a2, Nat.add_assoc, show jx 3600 = 3600 from rfl, show jx 4800 = 4800 from rfl, show jx 720 = 720 from rfl, show jx 18220 = 18220 from rfl, show jx 18030 = 18030 from rfl, show jx 200 = 200 from rfl, show jx 48 = 48 from rfl, show jx 80 = 80 from rfl, show jx 17 = 17 from rfl, show jx 601 = 601 from rfl, show jx 4 = 4 from rfl, show jx 8 = 8 from rfl, show jx 9 = 9 from rfl]
  apply hQ
  refine ⟨⟨nk4, ?_⟩, fun b hb => (FM b (Nat.ne_of_lt hb)).trans (GM b (Nat.ne_of_lt hb) (Nat.lt_add_right 1 hb)), ?_⟩
  · rw [zk4, zk3, zk2, zk1, zk0, zM]
  · refine ⟨⟨Sak4, ?_, ?_, ?_, PotL_p (fun c h1 h2 => Bk0 c h1 h2) sk0, Ak1.1, Ak2.1⟩, fun j => ?_⟩
    all_goals first | (rw [RA]; simp (config := {decide := true}) only [jup_eq, reduceIte, Nat.reduceEqDiff, ite_self]) | (rw [IA, LA]; simp (config := {decide := true}) only [jup_eq, reduceIte, Nat.reduceEqDiff, ite_self])
theorem i_Reader (hN : mN m = a) : ∃ m', CE (d + 2) 88 [.ref a] (jNew m 6 6) none m' ∧ (mN m' = a + 9 ∧ mZ m' = mZ m + 866) ∧ (∀ b, b < a → sm4 m m' b) ∧ (mS m' a = (6, 6) ∧ mR m' a 0 = some (a + 1) ∧ mR m' a 1 = some (a + 3)) ∧ TapeL (mS m') (mR m') (a + 1) ∧ LawL (mS m') (mR m') (a + 3) ∧ zr m' a ∧ zr m' (a + 1) := by
  obtain ⟨M, hM⟩ : ∃ M : jmM, M = jNew m 6 6 := ⟨_, rfl⟩
  have nM : mN M = a + 1 := by rw [hM, mN_new, hN]
  have zM : mZ M = mZ m + 6 := by rw [hM, mZ_new]
  have SaM : mS M a = (6, 6) := by rw [hM, mS_new, hN, if_pos rfl]
  have RaM : mR M a = fun _ => none := by rw [hM, mR_new, hN, if_pos rfl]
  have IaM : mI M a = fun _ => 0 := by rw [hM, mI_new, hN, if_pos rfl]
  have LaM : mL M a = fun _ => 0 := by rw [hM, mL_new, hN, if_pos rfl]
  have FM : ∀ c, c ≠ a → sm4 m M c := fun c h => by rw [hM]; exact ⟨by rw [mS_new, hN, if_neg h], by rw [mR_new, hN, if_neg h], by rw [mI_new, hN, if_neg h], by rw [mL_new, hN, if_neg h]⟩
  obtain ⟨x0, ck0, ⟨nx0, zx0⟩, fx0, sk0, yk0⟩ := i_Tape (d := d + 0) (m := M) (a := a + 1) nM
  simp only [Nat.add_assoc, Nat.reduceAdd, Nat.reduceMul] at nx0 sk0 yk0
  have Sax0 : mS x0 a = (6, 6) := (fx0 a (Nat.lt_add_of_pos_right (by decide))).1.trans SaM
  have Rax0 : mR x0 a = mR M a := (fx0 a (Nat.lt_add_of_pos_right (by decide))).2.1
  obtain ⟨k0, hk0⟩ : ∃ k0 : jmM, k0 = cR x0 a (jup (mR M a) 0 (some (a + 1))) := ⟨_, rfl⟩
  have nk0 : mN k0 = a + 3 := by rw [hk0, mN_cR, nx0]
  have zk0 : mZ k0 = mZ M + 402 := by rw [hk0, mZ_cR, zx0]
  have Fk0 : ∀ c, c ≠ a → c < a + 1 → sm4 M k0 c := fun c h1 h2 => by rw [hk0]; exact ⟨by rw [mS_cR, (fx0 c h2).1], by rw [cRv, if_neg h1, (fx0 c h2).2.1], by rw [mI_cR, (fx0 c h2).2.2.1], by rw [mL_cR, (fx0 c h2).2.2.2]⟩
  have Yk0 : ∀ c, c ≠ a → sm4 x0 k0 c := fun c h1 => by rw [hk0]; exact ⟨rfl, by rw [cRv, if_neg h1], rfl, rfl⟩
  have Sak0 : mS k0 a = (6, 6) := by rw [hk0, mS_cR, Sax0]
  have Rak0 : mR k0 a = jup (mR M a) 0 (some (a + 1)) := by rw [hk0, cRv, if_pos rfl]
  have Iak0 : mI k0 a = mI M a := by rw [hk0, mI_cR]; exact (fx0 a (Nat.lt_add_of_pos_right (by decide))).2.2.1
  have Lak0 : mL k0 a = mL M a := by rw [hk0, mL_cR]; exact (fx0 a (Nat.lt_add_of_pos_right (by decide))).2.2.2
  obtain ⟨x1, ck1, ⟨nx1, zx1⟩, fx1, tk1⟩ := i_Law (d := d + 0) (m := k0) (a := a + 3) nk0
  simp only [Nat.add_assoc, Nat.reduceAdd, Nat.reduceMul] at nx1 tk1
  have Sax1 : mS x1 a = (6, 6) := (fx1 a (Nat.lt_add_of_pos_right (by decide))).1.trans Sak0
  have Rax1 : mR x1 a = mR k0 a := (fx1 a (Nat.lt_add_of_pos_right (by decide))).2.1
  obtain ⟨k1, hk1⟩ : ∃ k1 : jmM, k1 = cR x1 a (jup (mR k0 a) 1 (some (a + 3))) := ⟨_, rfl⟩
  have nk1 : mN k1 = a + 9 := by rw [hk1, mN_cR, nx1]
  have zk1 : mZ k1 = mZ k0 + 458 := by rw [hk1, mZ_cR, zx1]
  have Fk1 : ∀ c, c ≠ a → c < a + 3 → sm4 k0 k1 c := fun c h1 h2 => by rw [hk1]; exact ⟨by rw [mS_cR, (fx1 c h2).1], by rw [cRv, if_neg h1, (fx1 c h2).2.1], by rw [mI_cR, (fx1 c h2).2.2.1], by rw [mL_cR, (fx1 c h2).2.2.2]⟩
  have Yk1 : ∀ c, c ≠ a → sm4 x1 k1 c := fun c h1 => by rw [hk1]; exact ⟨rfl, by rw [cRv, if_neg h1], rfl, rfl⟩
  have Sak1 : mS k1 a = (6, 6) := by rw [hk1, mS_cR, Sax1]
  have Rak1 : mR k1 a = jup (mR k0 a) 1 (some (a + 3)) := by rw [hk1, cRv, if_pos rfl]
  have Iak1 : mI k1 a = mI k0 a := by rw [hk1, mI_cR]; exact (fx1 a (Nat.lt_add_of_pos_right (by decide))).2.2.1
  have Lak1 : mL k1 a = mL k0 a := by rw [hk1, mL_cR]; exact (fx1 a (Nat.lt_add_of_pos_right (by decide))).2.2.2
  obtain ⟨k2, hk2⟩ : ∃ k2 : jmM, k2 = cI k1 a (jup (mI k1 a) 2 0) := ⟨_, rfl⟩
  have nk2 : mN k2 = a + 9 := by rw [hk2, mN_cI, nk1]
  have zk2 : mZ k2 = mZ k1 := by rw [hk2, mZ_cI]
  have Fk2 : ∀ c, c ≠ a → sm4 k1 k2 c := fun c h1 => by rw [hk2]; exact ⟨rfl, rfl, by rw [cIv, if_neg h1], rfl⟩
  have Sak2 : mS k2 a = (6, 6) := by rw [hk2, mS_cI, Sak1]
  have Rak2 : mR k2 a = mR k1 a := by rw [hk2, mR_cI]
  have Iak2 : mI k2 a = jup (mI k1 a) 2 0 := by rw [hk2, cIv, if_pos rfl]
  have Lak2 : mL k2 a = mL k1 a := by rw [hk2, mL_cI]
  obtain ⟨k3, hk3⟩ : ∃ k3 : jmM, k3 = cI k2 a (jup (mI k2 a) 3 0) := ⟨_, rfl⟩
  have nk3 : mN k3 = a + 9 := by rw [hk3, mN_cI, nk2]
  have zk3 : mZ k3 = mZ k2 := by rw [hk3, mZ_cI]
  have Fk3 : ∀ c, c ≠ a → sm4 k2 k3 c := fun c h1 => by rw [hk3]; exact ⟨rfl, rfl, by rw [cIv, if_neg h1], rfl⟩
  have Sak3 : mS k3 a = (6, 6) := by rw [hk3, mS_cI, Sak2]
  have Rak3 : mR k3 a = mR k2 a := by rw [hk3, mR_cI]
  have Iak3 : mI k3 a = jup (mI k2 a) 3 0 := by rw [hk3, cIv, if_pos rfl]
  have Lak3 : mL k3 a = mL k2 a := by rw [hk3, mL_cI]
  obtain ⟨k4, hk4⟩ : ∃ k4 : jmM, k4 = cI k3 a (jup (mI k3 a) 4 0) := ⟨_, rfl⟩
  have nk4 : mN k4 = a + 9 := by rw [hk4, mN_cI, nk3]
  have zk4 : mZ k4 = mZ k3 := by rw [hk4, mZ_cI]
  have Fk4 : ∀ c, c ≠ a → sm4 k3 k4 c := fun c h1 => by rw [hk4]; exact ⟨rfl, rfl, by rw [cIv, if_neg h1], rfl⟩
  have Sak4 : mS k4 a = (6, 6) := by rw [hk4, mS_cI, Sak3]
  have Rak4 : mR k4 a = mR k3 a := by rw [hk4, mR_cI]
  have Iak4 : mI k4 a = jup (mI k3 a) 4 0 := by rw [hk4, cIv, if_pos rfl]
  have Lak4 : mL k4 a = mL k3 a := by rw [hk4, mL_cI]
  obtain ⟨k5, hk5⟩ : ∃ k5 : jmM, k5 = cI k4 a (jup (mI k4 a) 5 0) := ⟨_, rfl⟩
  have nk5 : mN k5 = a + 9 := by rw [hk5, mN_cI, nk4]
  have zk5 : mZ k5 = mZ k4 := by rw [hk5, mZ_cI]
  have Fk5 : ∀ c, c ≠ a → sm4 k4 k5 c := fun c h1 => by rw [hk5]; exact ⟨rfl, rfl, by rw [cIv, if_neg h1], rfl⟩
  have Sak5 : mS k5 a = (6, 6) := by rw [hk5, mS_cI, Sak4]
  have Rak5 : mR k5 a = mR k4 a := by rw [hk5, mR_cI]
  have Iak5 : mI k5 a = jup (mI k4 a) 5 0 := by rw [hk5, cIv, if_pos rfl]
  have Lak5 : mL k5 a = mL k4 a := by rw [hk5, mL_cI]
  have Gk5 : ∀ c, c ≠ a → c < a + 9 → sm4 k5 k5 c := fun c _ _ => sm4.refl
  have Gk4 : ∀ c, c ≠ a → c < a + 9 → sm4 k4 k5 c := fun c h1 h2 => (Fk5 c h1).trans (Gk5 c h1 h2)
  have Gk3 : ∀ c, c ≠ a → c < a + 9 → sm4 k3 k5 c := fun c h1 h2 => (Fk4 c h1).trans (Gk4 c h1 h2)
  have Gk2 : ∀ c, c ≠ a → c < a + 9 → sm4 k2 k5 c := fun c h1 h2 => (Fk3 c h1).trans (Gk3 c h1 h2)
  have Gk1 : ∀ c, c ≠ a → c < a + 9 → sm4 k1 k5 c := fun c h1 h2 => (Fk2 c h1).trans (Gk2 c h1 h2)
  have Gk0 : ∀ c, c ≠ a → c < a + 3 → sm4 k0 k5 c := fun c h1 h2 => (Fk1 c h1 h2).trans (Gk1 c h1 (Nat.lt_of_lt_of_le h2 (Nat.add_le_add_left (by decide) a)))
  have GM : ∀ c, c ≠ a → c < a + 1 → sm4 M k5 c := fun c h1 h2 => (Fk0 c h1 h2).trans (Gk0 c h1 (Nat.lt_of_lt_of_le h2 (Nat.add_le_add_left (by decide) a)))
  have RA := Rak5
  rw [Rak4, Rak3, Rak2, Rak1, Rak0, RaM] at RA
  have IA := Iak5
  rw [Iak4, Iak3, Iak2, Iak1, Iak0, IaM] at IA
  have LA := Lak5
  rw [Lak4, Lak3, Lak2, Lak1, Lak0, LaM] at LA
  have Bk0 : ∀ c, a + 1 ≤ c → c < a + 1 + 2 → sm4 x0 k5 c := fun c h1 h2 => (Yk0 c (Nat.ne_of_gt (Nat.lt_of_lt_of_le (show a < a + 1 from (Nat.lt_add_of_pos_right (by decide))) h1))).trans (Gk0 c (Nat.ne_of_gt (Nat.lt_of_lt_of_le (show a < a + 1 from (Nat.lt_add_of_pos_right (by decide))) h1)) h2)
  have Bk1 : ∀ c, a + 3 ≤ c → c < a + 3 + 6 → sm4 x1 k5 c := fun c h1 h2 => (Yk1 c (Nat.ne_of_gt (Nat.lt_of_lt_of_le (show a < a + 3 from (Nat.lt_add_of_pos_right (by decide))) h1))).trans (Gk1 c (Nat.ne_of_gt (Nat.lt_of_lt_of_le (show a < a + 3 from (Nat.lt_add_of_pos_right (by decide))) h1)) h2)
  apply CE_ex
  intro Q hQ
  rw [nX6_init, ← hM]
  simp (config := {decide := true, maxSteps := 1000000}) (disch := omega) only [tX6_init_0, tX6_init_1, tX6_init_4, tX6_init_5, tX6_init_8, tX6_init_9, tX6_init_12, tX6_init_12q, tX6_init_12n, jK_some, jK_none, jc1_int, jc1_ref, jc1_none, jc1_long, jc1_null, jc1_rf, va_rf_some, va_rf_none, mI_cI, mL_cL, mR_cR, cI_cI, cL_cL, jup_eq, jne_1, jne_2, Nat.add_left_cancel_iff, mL_cI, mR_cI, mS_cI, mN_cI, mI_cL, mR_cL, mS_cL, mN_cL, mI_cR, mL_cR, mS_cR, mN_cR, true_and, and_true, true_or, or_true, if_true, if_false, jBool_0, jBool_1, Nat.le_refl, Nat.reduceLeDiff, Nat.reduceEqDiff, Nat.reduceAdd, Nat.reduceSub, reduceIte, Int32.reduceLT, Int32.reduceLE, ne_eq, not_false_eq_true, not_true_eq_false, false_or, or_false, and_false, false_and, reduceCtorEq, jn_4, jn_6, jn_8, jn_9, jn_12, jn_60, jn_100, jn_200, jn_400, jn_600, jn_601, jn_3600, jI_4, jI_6, jI_8, jI_9, jI_12, jI_60, jI_100, jI_200, jI_400, jI_600, jI_601, jI_3600, va_cpy_00, jx_0, jx_6, jx_12, jx_400, jx_600, nI_1, ne_a1, ne_a2, Nat.add_assoc, show jx 3600 = 3600 from rfl, show jx 4800 = 4800 from rfl, show jx 720 = 720 from rfl, show jx 18220 = 18220 from rfl, show jx 18030 = 18030 from rfl, show jx 200 = 200 from rfl, show jx 48 = 48 from rfl, show jx 80 = 80 from rfl, show jx 17 = 17 from rfl, show jx 601 = 601 from rfl, show jx 4 = 4 from rfl, show jx 8 = 8 from rfl, show jx 9 = 9 from rfl, ck0.iff, nM, Sax0, Rax0, cRv]
  rw [← hk0]
  simp (config := {decide := true, maxSteps := 1000000}) (disch := omega) only [tX6_init_15, tX6_init_16, tX6_init_19, tX6_init_20, tX6_init_23, tX6_init_23q, tX6_init_23n, jK_some, jK_none, jc1_int, jc1_ref, jc1_none, jc1_long, jc1_null, jc1_rf, va_rf_some, va_rf_none, mI_cI, mL_cL, mR_cR, cI_cI, cL_cL, jup_eq, jne_1, jne_2, Nat.add_left_cancel_iff, mL_cI, mR_cI, mS_cI, mN_cI, mI_cL, mR_cL, mS_cL, mN_cL, mI_cR, mL_cR, mS_cR, mN_cR, true_and, and_true, true_or, or_true, if_true, if_false, jBool_0, jBool_1, Nat.le_refl, Nat.reduceLeDiff, Nat.reduceEqDiff, Nat.reduceAdd, Nat.reduceSub, reduceIte, Int32.reduceLT, Int32.reduceLE, ne_eq, not_false_eq_true, not_true_eq_false, false_or, or_false, and_false, false_and, reduceCtorEq, jn_4, jn_6, jn_8, jn_9, jn_12, jn_60, jn_100, jn_200, jn_400, jn_600, jn_601, jn_3600, jI_4, jI_6, jI_8, jI_9, jI_12, jI_60, jI_100, jI_200, jI_400, jI_600, jI_601, jI_3600, va_cpy_00, jx_0, jx_6, jx_12, jx_400, jx_600, nI_1, ne_a1, ne_a2, Nat.add_assoc, show jx 3600 = 3600 from rfl, show jx 4800 = 4800 from rfl, show jx 720 = 720 from rfl, show jx 18220 = 18220 from rfl, show jx 18030 = 18030 from rfl, show jx 200 = 200 from rfl, show jx 48 = 48 from rfl, show jx 80 = 80 from rfl, show jx 17 = 17 from rfl, show jx 601 = 601 from rfl, show jx 4 = 4 from rfl, show jx 8 = 8 from rfl, show jx 9 = 9 from rfl, ck1.iff, nk0, Sax1, Rax1, cRv]
  rw [← hk1]
  simp (config := {decide := true, maxSteps := 1000000}) (disch := omega) only [tX6_init_26, tX6_init_27, tX6_init_28, jK_some, jK_none, jc1_int, jc1_ref, jc1_none, jc1_long, jc1_null, jc1_rf, va_rf_some, va_rf_none, mI_cI, mL_cL, mR_cR, cI_cI, cL_cL, jup_eq, jne_1, jne_2, Nat.add_left_cancel_iff, mL_cI, mR_cI, mS_cI, mN_cI, mI_cL, mR_cL, mS_cL, mN_cL, mI_cR, mL_cR, mS_cR, mN_cR, true_and, and_true, true_or, or_true, if_true, if_false, jBool_0, jBool_1, Nat.le_refl, Nat.reduceLeDiff, Nat.reduceEqDiff, Nat.reduceAdd, Nat.reduceSub, reduceIte, Int32.reduceLT, Int32.reduceLE, ne_eq, not_false_eq_true, not_true_eq_false, false_or, or_false, and_false, false_and, reduceCtorEq, jn_4, jn_6, jn_8, jn_9, jn_12, jn_60, jn_100, jn_200, jn_400, jn_600, jn_601, jn_3600, jI_4, jI_6, jI_8, jI_9, jI_12, jI_60, jI_100, jI_200, jI_400, jI_600, jI_601, jI_3600, va_cpy_00, jx_0, jx_6, jx_12, jx_400, jx_600, nI_1, ne_a1, ne_a2, Nat.add_assoc, show jx 3600 = 3600 from rfl, show jx 4800 = 4800 from rfl, show jx 720 = 720 from rfl, show jx 18220 = 18220 from rfl, show jx 18030 = 18030 from rfl, show jx 200 = 200 from rfl, show jx 48 = 48 from rfl, show jx 80 = 80 from rfl, show jx 17 = 17 from rfl, show jx 601 = 601 from rfl, show jx 4 = 4 from rfl, show jx 8 = 8 from rfl, show jx 9 = 9 from rfl, Sak1]
  rw [← hk2]
  simp (config := {decide := true, maxSteps := 1000000}) (disch := omega) only [tX6_init_31, tX6_init_32, tX6_init_33, jK_some, jK_none, jc1_int, jc1_ref, jc1_none, jc1_long, jc1_null, jc1_rf, va_rf_some, va_rf_none, mI_cI, mL_cL, mR_cR, cI_cI, cL_cL, jup_eq, jne_1, jne_2, Nat.add_left_cancel_iff, mL_cI, mR_cI, mS_cI, mN_cI, mI_cL, mR_cL, mS_cL, mN_cL, mI_cR, mL_cR, mS_cR, mN_cR, true_and, and_true, true_or, or_true, if_true, if_false, jBool_0, jBool_1, Nat.le_refl, Nat.reduceLeDiff, Nat.reduceEqDiff, Nat.reduceAdd, Nat.reduceSub, reduceIte, Int32.reduceLT, Int32.reduceLE, ne_eq, not_false_eq_true, not_true_eq_false, false_or, or_false, and_false, false_and, reduceCtorEq, jn_4, jn_6, jn_8, jn_9, jn_12, jn_60, jn_100, jn_200, jn_400, jn_600, jn_601, jn_3600, jI_4, jI_6, jI_8, jI_9, jI_12, jI_60, jI_100, jI_200, jI_400, jI_600, jI_601, jI_3600, va_cpy_00, jx_0, jx_6, jx_12, jx_400, jx_600, nI_1, ne_a1, ne_a2, Nat.add_assoc, show jx 3600 = 3600 from rfl, show jx 4800 = 4800 from rfl, show jx 720 = 720 from rfl, show jx 18220 = 18220 from rfl, show jx 18030 = 18030 from rfl, show jx 200 = 200 from rfl, show jx 48 = 48 from rfl, show jx 80 = 80 from rfl, show jx 17 = 17 from rfl, show jx 601 = 601 from rfl, show jx 4 = 4 from rfl, show jx 8 = 8 from rfl, show jx 9 = 9 from rfl, Sak2]
  rw [← hk3]
  simp (config := {decide := true, maxSteps := 1000000}) (disch := omega) only [tX6_init_36, tX6_init_37, tX6_init_38, jK_some, jK_none, jc1_int, jc1_ref, jc1_none, jc1_long, jc1_null, jc1_rf, va_rf_some, va_rf_none, mI_cI, mL_cL, mR_cR, cI_cI, cL_cL, jup_eq, jne_1, jne_2, Nat.add_left_cancel_iff, mL_cI, mR_cI, mS_cI, mN_cI, mI_cL, mR_cL, mS_cL, mN_cL, mI_cR, mL_cR, mS_cR, mN_cR, true_and, and_true, true_or, or_true, if_true, if_false, jBool_0, jBool_1, Nat.le_refl, Nat.reduceLeDiff, Nat.reduceEqDiff, Nat.reduceAdd, Nat.reduceSub, reduceIte, Int32.reduceLT, Int32.reduceLE, ne_eq, not_false_eq_true, not_true_eq_false, false_or, or_false, and_false, false_and, reduceCtorEq, jn_4, jn_6, jn_8, jn_9, jn_12, jn_60, jn_100, jn_200, jn_400, jn_600, jn_601, jn_3600, jI_4, jI_6, jI_8, jI_9, jI_12, jI_60, jI_100, jI_200, jI_400, jI_600, jI_601, jI_3600, va_cpy_00, jx_0, jx_6, jx_12, jx_400, jx_600, nI_1, ne_a1, ne_a2, Nat.add_assoc, show jx 3600 = 3600 from rfl, show jx 4800 = 4800 from rfl, show jx 720 = 720 from rfl, show jx 18220 = 18220 from rfl, show jx 18030 = 18030 from rfl, show jx 200 = 200 from rfl, show jx 48 = 48 from rfl, show jx 80 = 80 from rfl, show jx 17 = 17 from rfl, show jx 601 = 601 from rfl, show jx 4 = 4 from rfl, show jx 8 = 8 from rfl, show jx 9 = 9 from rfl, Sak3]
  rw [← hk4]
  simp (config := {decide := true, maxSteps := 1000000}) (disch := omega) only [tX6_init_41, tX6_init_42, tX6_init_43, jK_some, jK_none, jc1_int, jc1_ref, jc1_none, jc1_long, jc1_null, jc1_rf, va_rf_some, va_rf_none, mI_cI, mL_cL, mR_cR, cI_cI, cL_cL, jup_eq, jne_1, jne_2, Nat.add_left_cancel_iff, mL_cI, mR_cI, mS_cI, mN_cI, mI_cL, mR_cL, mS_cL, mN_cL, mI_cR, mL_cR, mS_cR, mN_cR, true_and, and_true, true_or, or_true, if_true, if_false, jBool_0, jBool_1, Nat.le_refl, Nat.reduceLeDiff, Nat.reduceEqDiff, Nat.reduceAdd, Nat.reduceSub, reduceIte, Int32.reduceLT, Int32.reduceLE, ne_eq, not_false_eq_true, not_true_eq_false, false_or, or_false, and_false, false_and, reduceCtorEq, jn_4, jn_6, jn_8, jn_9, jn_12, jn_60, jn_100, jn_200, jn_400, jn_600, jn_601, jn_3600, jI_4, jI_6, jI_8, jI_9, jI_12, jI_60, jI_100, jI_200, jI_400, jI_600, jI_601, jI_3600, va_cpy_00, jx_0, jx_6, jx_12, jx_400, jx_600, nI_1, ne_a1, ne_a2, Nat.add_assoc, show jx 3600 = 3600 from rfl, show jx 4800 = 4800 from rfl, show jx 720 = 720 from rfl, show jx 18220 = 18220 from rfl, show jx 18030 = 18030 from rfl, show jx 200 = 200 from rfl, show jx 48 = 48 from rfl, show jx 80 = 80 from rfl, show jx 17 = 17 from rfl, show jx 601 = 601 from rfl, show jx 4 = 4 from rfl, show jx 8 = 8 from rfl, show jx 9 = 9 from rfl, Sak4]
  rw [← hk5]
  simp (config := {decide := true, maxSteps := 1000000}) (disch := omega) only [tX6_init_46, jK_some, jK_none, jc1_int, jc1_ref, jc1_none, jc1_long, jc1_null, jc1_rf, va_rf_some, va_rf_none, mI_cI, mL_cL, mR_cR, cI_cI, cL_cL, jup_eq, jne_1, jne_2, Nat.add_left_cancel_iff, mL_cI, mR_cI, mS_cI, mN_cI, mI_cL, mR_cL, mS_cL, mN_cL, mI_cR, mL_cR, mS_cR, mN_cR, true_and, and_true, true_or, or_true, if_true, if_false, jBool_0, jBool_1, Nat.le_refl, Nat.reduceLeDiff, Nat.reduceEqDiff, Nat.reduceAdd, Nat.reduceSub, reduceIte, Int32.reduceLT, Int32.reduceLE, ne_eq, not_false_eq_true, not_true_eq_false, false_or, or_false, and_false, false_and, reduceCtorEq, jn_4, jn_6, jn_8, jn_9, jn_12, jn_60, jn_100, jn_200, jn_400, jn_600, jn_601, jn_3600, jI_4, jI_6, jI_8, jI_9, jI_12, jI_60, jI_100, jI_200, jI_400, jI_600, jI_601, jI_3600, va_cpy_00, jx_0, jx_6, jx_12, jx_400, jx_600, nI_1, ne_a1, ne_a2, Nat.add_assoc, show jx 3600 = 3600 from rfl, show jx 4800 = 4800 from rfl, show jx 720 = 720 from rfl, show jx 18220 = 18220 from rfl, show jx 18030 = 18030 from rfl, show jx 200 = 200 from rfl, show jx 48 = 48 from rfl, show jx 80 = 80 from rfl, show jx 17 = 17 from rfl, show jx 601 = 601 from rfl, show jx 4 = 4 from rfl, show jx 8 = 8 from rfl, show jx 9 = 9 from rfl]
  apply hQ
  refine ⟨⟨nk5, ?_⟩, fun b hb => (FM b (Nat.ne_of_lt hb)).trans (GM b (Nat.ne_of_lt hb) (Nat.lt_add_right 1 hb)), ?_⟩
  · rw [zk5, zk4, zk3, zk2, zk1, zk0, zM]
  · refine ⟨⟨Sak5, ?_, ?_⟩, TapeL_p (fun c h1 h2 => Bk0 c h1 h2) sk0, LawL_p (fun c h1 h2 => Bk1 c h1 h2) tk1, fun j => ?_, zr_p (Bk0 (a + 1) (by omega) (by omega)) yk0⟩
    all_goals first | (rw [RA]; simp (config := {decide := true}) only [jup_eq, reduceIte, Nat.reduceEqDiff, ite_self]) | (rw [IA, LA]; simp (config := {decide := true}) only [jup_eq, reduceIte, Nat.reduceEqDiff, ite_self])
end INI2
