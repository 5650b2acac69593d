section INI4
variable {m m0 m1 m2 M : jmM} {a d kd n b cap : Nat} {Q : Option Value → jmM → Prop}
set_option maxHeartbeats 8000000
theorem lw_b1 {k : Nat} (hk : k < 4) : 12 + 6 * k + 6 ≤ 10 + 26 := by omega
theorem lw_b2 {k : Nat} (hk : k < 8) : 38 + 6 * k + 6 ≤ 36 + 50 := by omega
theorem i_X11a (hN : mN m = 0) : ∃ K : jmM, (∀ Q, CC 1000 140 [.ref 0] (jNew m 11 19) Q ↔ AW 999 140 182 [some (.ref 0), none] [] K Q) ∧ (mN K = 131 ∧ mZ K = mZ m + 24809) ∧ (mS K 0 = (11, 19) ∧ mR K 0 0 = some 1 ∧ mR K 0 1 = some 2 ∧ mR K 0 2 = some 10 ∧ mR K 0 3 = some 36 ∧ mR K 0 4 = some 86 ∧ mR K 0 5 = some 89 ∧ mR K 0 6 = some 90 ∧ mR K 0 8 = some 91 ∧ mR K 0 9 = some 102 ∧ mR K 0 10 = some 113 ∧ mR K 0 11 = some 114 ∧ mR K 0 13 = some 115 ∧ mR K 0 14 = some 121 ∧ mR K 0 15 = some 128 ∧ mR K 0 16 = some 129 ∧ mR K 0 17 = some 130) ∧ (mI K 0 7 = 30 ∧ mI K 0 12 = 0 ∧ mI K 0 18 = 0) ∧ (mS K 1 = (6, 6) ∧ mR K 1 0 = some 2 ∧ mR K 1 1 = some 4) ∧ (TapeL (mS K) (mR K) 2 ∧ zr K 2) ∧ LawL (mS K) (mR K) 4 ∧ ((mS K 10 = (4, 2) ∧ mR K 10 0 = some 11 ∧ mS K 11 = (24, 4)) ∧ zr K 10 ∧ ∀ k, k < 4 → mR K 11 k = some (12 + 6 * k) ∧ LawL (mS K) (mR K) (12 + 6 * k)) ∧ ((mS K 36 = (4, 2) ∧ mR K 36 0 = some 37 ∧ mS K 37 = (24, 8)) ∧ zr K 36 ∧ ∀ k, k < 8 → mR K 37 k = some (38 + 6 * k) ∧ LawL (mS K) (mR K) (38 + 6 * k)) ∧ (DeskL (mS K) (mR K) 86 ∧ zr K 86) ∧ (mS K 89 = (20, 6) ∧ zr K 89) ∧ (mS K 90 = (20, 6) ∧ zr K 90) ∧ (PotL (mS K) (mR K) 91 ∧ zr K 91 ∧ zr K 92 ∧ zr K 93 ∧ zr K 94 ∧ zr K 101) ∧ PotL (mS K) (mR K) 102 ∧ (mS K 113 = (25, 4) ∧ mS K 114 = (26, 8)) ∧ ((mS K 115 = (0, 6) ∧ mR K 115 0 = some 116 ∧ mR K 115 1 = some 117 ∧ mR K 115 2 = some 118 ∧ mR K 115 3 = some 119 ∧ mR K 115 4 = some 120 ∧ mS K 116 = (20, 601) ∧ mS K 117 = (20, 601) ∧ mS K 118 = (20, 601) ∧ mS K 119 = (20, 601) ∧ mS K 120 = (20, 8)) ∧ zr K 119) ∧ (SliL (mS K) (mR K) 121 ∧ zr K 121) ∧ mS K 128 = (21, 600) ∧ mS K 129 = (20, 200) ∧ mS K 130 = (20, 200) := by
  obtain ⟨M, hM⟩ : ∃ M : jmM, M = jNew m 11 19 := ⟨_, rfl⟩
  have nM : mN M = 1 := by rw [hM, mN_new, hN]
  have zM : mZ M = mZ m + 19 := by rw [hM, mZ_new]
  have SaM : mS M 0 = (11, 19) := by rw [hM, mS_new, hN, if_pos rfl]
  have RaM : mR M 0 = fun _ => none := by rw [hM, mR_new, hN, if_pos rfl]
  have IaM : mI M 0 = fun _ => 0 := by rw [hM, mI_new, hN, if_pos rfl]
  have LaM : mL M 0 = fun _ => 0 := by rw [hM, mL_new, hN, if_pos rfl]
  have FM : ∀ c, c ≠ 0 → sm4 m M c := fun c h => by rw [hM]; exact ⟨by rw [mS_new, hN, if_neg h], by rw [mR_new, hN, if_neg h], by rw [mI_new, hN, if_neg h], by rw [mL_new, hN, if_neg h]⟩
  obtain ⟨x0, ck0, ⟨nx0, zx0⟩, fx0, sk0, tpk0, lwk0, yk0, yyk0⟩ := i_Reader (d := 997) (m := M) (a := 1) nM
  simp only [Nat.add_assoc, Nat.reduceAdd, Nat.reduceMul] at nx0 sk0 tpk0 lwk0 yk0 yyk0
  have Sax0 : mS x0 0 = (11, 19) := (fx0 0 (by decide)).1.trans SaM
  have Rax0 : mR x0 0 = mR M 0 := (fx0 0 (by decide)).2.1
  obtain ⟨k0, hk0⟩ : ∃ k0 : jmM, k0 = cR x0 0 (jup (mR M 0) 0 (some (1))) := ⟨_, rfl⟩
  have nk0 : mN k0 = 10 := by rw [hk0, mN_cR, nx0]
  have zk0 : mZ k0 = mZ M + 866 := by rw [hk0, mZ_cR, zx0]
  have Fk0 : ∀ c, c ≠ 0 → c < 1 → sm4 M k0 c := fun c h1 h2 => by rw [hk0]; exact ⟨by rw [mS_cR, (fx0 c h2).1], by rw [cRv, if_neg h1, (fx0 c h2).2.1], by rw [mI_cR, (fx0 c h2).2.2.1], by rw [mL_cR, (fx0 c h2).2.2.2]⟩
  have Yk0 : ∀ c, c ≠ 0 → sm4 x0 k0 c := fun c h1 => by rw [hk0]; exact ⟨rfl, by rw [cRv, if_neg h1], rfl, rfl⟩
  have Sak0 : mS k0 0 = (11, 19) := by rw [hk0, mS_cR, Sax0]
  have Rak0 : mR k0 0 = jup (mR M 0) 0 (some (1)) := by rw [hk0, cRv, if_pos rfl]
  have Iak0 : mI k0 0 = mI M 0 := by rw [hk0, mI_cR]; exact (fx0 0 (by decide)).2.2.1
  have Lak0 : mL k0 0 = mL M 0 := by rw [hk0, mL_cR]; exact (fx0 0 (by decide)).2.2.2
  have T1 : ∀ Q, CC 999 89 [.ref 1] k0 Q ↔ Q (some (.ref 2)) k0 := fun Q => by
    have g1 := Yk0 1 (by decide)
    have g2 : mS k0 1 = (6, 6) := g1.1.trans sk0.1
    have g3 : mR k0 1 0 = some 2 := by rw [g1.2.1]; exact sk0.2.1
    rw [nX6_tape (d := 998)]
    simp (config := {decide := true}) only [tX6_tape_0, tX6_tape_1, tX6_tape_4, tX6_tape_4q, tX6_tape_4n, jK_some, jK_none, jc1_int, jc1_ref, jc1_none, jc1_long, jc1_null, jc1_rf, va_rf_some, va_rf_none, mI_cI, mL_cL, mR_cR, cI_cI, cL_cL, jup_eq, jne_1, jne_2, Nat.add_left_cancel_iff, mL_cI, mR_cI, mS_cI, mN_cI, mI_cL, mR_cL, mS_cL, mN_cL, mI_cR, mL_cR, mS_cR, mN_cR, true_and, and_true, true_or, or_true, if_true, if_false, jBool_0, jBool_1, Nat.le_refl, Nat.reduceLeDiff, Nat.reduceEqDiff, Nat.reduceAdd, Nat.reduceSub, reduceIte, Int32.reduceLT, Int32.reduceLE, ne_eq, not_false_eq_true, not_true_eq_false, false_or, or_false, and_false, false_and, reduceCtorEq, jn_4, jn_6, jn_8, jn_9, jn_12, jn_60, jn_100, jn_200, jn_400, jn_600, jn_601, jn_3600, jI_4, jI_6, jI_8, jI_9, jI_12, jI_60, jI_100, jI_200, jI_400, jI_600, jI_601, jI_3600, va_cpy_00, jx_0, jx_6, jx_12, jx_400, jx_600, nI_1, g2, g3]
    done
  have T2 : mS k0 1 = (6, 6) := (Yk0 1 (by decide)).1.trans sk0.1
  obtain ⟨k1, hk1⟩ : ∃ k1 : jmM, k1 = cR k0 0 (jup (mR k0 0) 1 (some 2)) := ⟨_, rfl⟩
  have nk1 : mN k1 = 10 := by rw [hk1, mN_cR, nk0]
  have zk1 : mZ k1 = mZ k0 := by rw [hk1, mZ_cR]
  have Fk1 : ∀ c, c ≠ 0 → sm4 k0 k1 c := fun c h1 => by rw [hk1]; exact ⟨rfl, by rw [cRv, if_neg h1], rfl, rfl⟩
  have Sak1 : mS k1 0 = (11, 19) := by rw [hk1, mS_cR, Sak0]
  have Rak1 : mR k1 0 = jup (mR k0 0) 1 (some 2) := by rw [hk1, cRv, if_pos rfl]
  have Iak1 : mI k1 0 = mI k0 0 := by rw [hk1, mI_cR]
  have Lak1 : mL k1 0 = mL k0 0 := by rw [hk1, mL_cR]
  obtain ⟨x2, ck2, ⟨nx2, zx2⟩, fx2, sk2, yk2, lwk2⟩ := i_Laws (d := 997) (cap := 4) (by decide) (m := k1) (a := 10) nk1
  rw [show nI 4 = (4 : Int32) from rfl] at ck2
  simp only [Nat.add_assoc, Nat.reduceAdd, Nat.reduceMul] at nx2 sk2 yk2 lwk2
  have Sax2 : mS x2 0 = (11, 19) := (fx2 0 (by decide)).1.trans Sak1
  have Rax2 : mR x2 0 = mR k1 0 := (fx2 0 (by decide)).2.1
  obtain ⟨k2, hk2⟩ : ∃ k2 : jmM, k2 = cR x2 0 (jup (mR k1 0) 2 (some (10))) := ⟨_, rfl⟩
  have nk2 : mN k2 = 36 := by rw [hk2, mN_cR, nx2]
  have zk2 : mZ k2 = mZ k1 + 2 + 459 * 4 := by rw [hk2, mZ_cR, zx2]
  have Fk2 : ∀ c, c ≠ 0 → c < 10 → sm4 k1 k2 c := fun c h1 h2 => by rw [hk2]; exact ⟨by rw [mS_cR, (fx2 c h2).1], by rw [cRv, if_neg h1, (fx2 c h2).2.1], by rw [mI_cR, (fx2 c h2).2.2.1], by rw [mL_cR, (fx2 c h2).2.2.2]⟩
  have Yk2 : ∀ c, c ≠ 0 → sm4 x2 k2 c := fun c h1 => by rw [hk2]; exact ⟨rfl, by rw [cRv, if_neg h1], rfl, rfl⟩
  have Sak2 : mS k2 0 = (11, 19) := by rw [hk2, mS_cR, Sax2]
  have Rak2 : mR k2 0 = jup (mR k1 0) 2 (some (10)) := by rw [hk2, cRv, if_pos rfl]
  have Iak2 : mI k2 0 = mI k1 0 := by rw [hk2, mI_cR]; exact (fx2 0 (by decide)).2.2.1
  have Lak2 : mL k2 0 = mL k1 0 := by rw [hk2, mL_cR]; exact (fx2 0 (by decide)).2.2.2
  obtain ⟨x3, ck3, ⟨nx3, zx3⟩, fx3, sk3, yk3, lwk3⟩ := i_Laws (d := 997) (cap := 8) (by decide) (m := k2) (a := 36) nk2
  rw [show nI 8 = (8 : Int32) from rfl] at ck3
  simp only [Nat.add_assoc, Nat.reduceAdd, Nat.reduceMul] at nx3 sk3 yk3 lwk3
  have Sax3 : mS x3 0 = (11, 19) := (fx3 0 (by decide)).1.trans Sak2
  have Rax3 : mR x3 0 = mR k2 0 := (fx3 0 (by decide)).2.1
  obtain ⟨k3, hk3⟩ : ∃ k3 : jmM, k3 = cR x3 0 (jup (mR k2 0) 3 (some (36))) := ⟨_, rfl⟩
  have nk3 : mN k3 = 86 := by rw [hk3, mN_cR, nx3]
  have zk3 : mZ k3 = mZ k2 + 2 + 459 * 8 := by rw [hk3, mZ_cR, zx3]
  have Fk3 : ∀ c, c ≠ 0 → c < 36 → sm4 k2 k3 c := fun c h1 h2 => by rw [hk3]; exact ⟨by rw [mS_cR, (fx3 c h2).1], by rw [cRv, if_neg h1, (fx3 c h2).2.1], by rw [mI_cR, (fx3 c h2).2.2.1], by rw [mL_cR, (fx3 c h2).2.2.2]⟩
  have Yk3 : ∀ c, c ≠ 0 → sm4 x3 k3 c := fun c h1 => by rw [hk3]; exact ⟨rfl, by rw [cRv, if_neg h1], rfl, rfl⟩
  have Sak3 : mS k3 0 = (11, 19) := by rw [hk3, mS_cR, Sax3]
  have Rak3 : mR k3 0 = jup (mR k2 0) 3 (some (36)) := by rw [hk3, cRv, if_pos rfl]
  have Iak3 : mI k3 0 = mI k2 0 := by rw [hk3, mI_cR]; exact (fx3 0 (by decide)).2.2.1
  have Lak3 : mL k3 0 = mL k2 0 := by rw [hk3, mL_cR]; exact (fx3 0 (by decide)).2.2.2
  obtain ⟨x4, ck4, ⟨nx4, zx4⟩, fx4, sk4, yk4⟩ := i_Desk (d := 998) (m := k3) (a := 86) nk3
  simp only [Nat.add_assoc, Nat.reduceAdd, Nat.reduceMul] at nx4 sk4 yk4
  have Sax4 : mS x4 0 = (11, 19) := (fx4 0 (by decide)).1.trans Sak3
  have Rax4 : mR x4 0 = mR k3 0 := (fx4 0 (by decide)).2.1
  obtain ⟨k4, hk4⟩ : ∃ k4 : jmM, k4 = cR x4 0 (jup (mR k3 0) 4 (some (86))) := ⟨_, rfl⟩
  have nk4 : mN k4 = 89 := by rw [hk4, mN_cR, nx4]
  have zk4 : mZ k4 = mZ k3 + 72 := by rw [hk4, mZ_cR, zx4]
  have Fk4 : ∀ c, c ≠ 0 → c < 86 → sm4 k3 k4 c := fun c h1 h2 => by rw [hk4]; exact ⟨by rw [mS_cR, (fx4 c h2).1], by rw [cRv, if_neg h1, (fx4 c h2).2.1], by rw [mI_cR, (fx4 c h2).2.2.1], by rw [mL_cR, (fx4 c h2).2.2.2]⟩
  have Yk4 : ∀ c, c ≠ 0 → sm4 x4 k4 c := fun c h1 => by rw [hk4]; exact ⟨rfl, by rw [cRv, if_neg h1], rfl, rfl⟩
  have Sak4 : mS k4 0 = (11, 19) := by rw [hk4, mS_cR, Sax4]
  have Rak4 : mR k4 0 = jup (mR k3 0) 4 (some (86)) := by rw [hk4, cRv, if_pos rfl]
  have Iak4 : mI k4 0 = mI k3 0 := by rw [hk4, mI_cR]; exact (fx4 0 (by decide)).2.2.1
  have Lak4 : mL k4 0 = mL k3 0 := by rw [hk4, mL_cR]; exact (fx4 0 (by decide)).2.2.2
  obtain ⟨k5, hk5⟩ : ∃ k5 : jmM, k5 = cR (jNew k4 20 6) 0 (jup (mR k4 0) 5 (some (89))) := ⟨_, rfl⟩
  have nk5 : mN k5 = 90 := by rw [hk5, mN_cR, mN_new, nk4]
  have zk5 : mZ k5 = mZ k4 + 6 := by rw [hk5, mZ_cR, mZ_new]
  have Fk5 : ∀ c, c ≠ 0 → c ≠ 89 → sm4 k4 k5 c := fun c h1 h2 => by rw [hk5]; exact ⟨by rw [mS_cR, mS_new, nk4, if_neg h2], by rw [cRv, if_neg h1, mR_new, nk4, if_neg h2], by rw [mI_cR, mI_new, nk4, if_neg h2], by rw [mL_cR, mL_new, nk4, if_neg h2]⟩
  have Xk5 : mS k5 (89) = (20, 6) ∧ mI k5 (89) = (fun _ => 0) ∧ mL k5 (89) = (fun _ => 0) ∧ mR k5 (89) = fun _ => none := by rw [hk5]; exact ⟨by rw [mS_cR, mS_new, nk4, if_pos rfl], by rw [mI_cR, mI_new, nk4, if_pos rfl], by rw [mL_cR, mL_new, nk4, if_pos rfl], by rw [cRv, if_neg (by decide), mR_new, nk4, if_pos rfl]⟩
  have Sak5 : mS k5 0 = (11, 19) := by rw [hk5, mS_cR, mS_new, nk4, if_neg (by decide), Sak4]
  have Rak5 : mR k5 0 = jup (mR k4 0) 5 (some (89)) := by rw [hk5, cRv, if_pos rfl]
  have Iak5 : mI k5 0 = mI k4 0 := by rw [hk5, mI_cR, mI_new, nk4, if_neg (by decide)]
  have Lak5 : mL k5 0 = mL k4 0 := by rw [hk5, mL_cR, mL_new, nk4, if_neg (by decide)]
  obtain ⟨k6, hk6⟩ : ∃ k6 : jmM, k6 = cR (jNew k5 20 6) 0 (jup (mR k5 0) 6 (some (90))) := ⟨_, rfl⟩
  have nk6 : mN k6 = 91 := by rw [hk6, mN_cR, mN_new, nk5]
  have zk6 : mZ k6 = mZ k5 + 6 := by rw [hk6, mZ_cR, mZ_new]
  have Fk6 : ∀ c, c ≠ 0 → c ≠ 90 → sm4 k5 k6 c := fun c h1 h2 => by rw [hk6]; exact ⟨by rw [mS_cR, mS_new, nk5, if_neg h2], by rw [cRv, if_neg h1, mR_new, nk5, if_neg h2], by rw [mI_cR, mI_new, nk5, if_neg h2], by rw [mL_cR, mL_new, nk5, if_neg h2]⟩
  have Xk6 : mS k6 (90) = (20, 6) ∧ mI k6 (90) = (fun _ => 0) ∧ mL k6 (90) = (fun _ => 0) ∧ mR k6 (90) = fun _ => none := by rw [hk6]; exact ⟨by rw [mS_cR, mS_new, nk5, if_pos rfl], by rw [mI_cR, mI_new, nk5, if_pos rfl], by rw [mL_cR, mL_new, nk5, if_pos rfl], by rw [cRv, if_neg (by decide), mR_new, nk5, if_pos rfl]⟩
  have Sak6 : mS k6 0 = (11, 19) := by rw [hk6, mS_cR, mS_new, nk5, if_neg (by decide), Sak5]
  have Rak6 : mR k6 0 = jup (mR k5 0) 6 (some (90)) := by rw [hk6, cRv, if_pos rfl]
  have Iak6 : mI k6 0 = mI k5 0 := by rw [hk6, mI_cR, mI_new, nk5, if_neg (by decide)]
  have Lak6 : mL k6 0 = mL k5 0 := by rw [hk6, mL_cR, mL_new, nk5, if_neg (by decide)]
  obtain ⟨k7, hk7⟩ : ∃ k7 : jmM, k7 = cI k6 0 (jup (mI k6 0) 7 30) := ⟨_, rfl⟩
  have nk7 : mN k7 = 91 := by rw [hk7, mN_cI, nk6]
  have zk7 : mZ k7 = mZ k6 := by rw [hk7, mZ_cI]
  have Fk7 : ∀ c, c ≠ 0 → sm4 k6 k7 c := fun c h1 => by rw [hk7]; exact ⟨rfl, rfl, by rw [cIv, if_neg h1], rfl⟩
  have Sak7 : mS k7 0 = (11, 19) := by rw [hk7, mS_cI, Sak6]
  have Rak7 : mR k7 0 = mR k6 0 := by rw [hk7, mR_cI]
  have Iak7 : mI k7 0 = jup (mI k6 0) 7 30 := by rw [hk7, cIv, if_pos rfl]
  have Lak7 : mL k7 0 = mL k6 0 := by rw [hk7, mL_cI]
  obtain ⟨x8, ck8, ⟨nx8, zx8⟩, fx8, sk8, yk8⟩ := i_Pot (d := 997) (m := k7) (a := 91) nk7
  simp only [Nat.add_assoc, Nat.reduceAdd, Nat.reduceMul] at nx8 sk8 yk8
  have Sax8 : mS x8 0 = (11, 19) := (fx8 0 (by decide)).1.trans Sak7
  have Rax8 : mR x8 0 = mR k7 0 := (fx8 0 (by decide)).2.1
  obtain ⟨k8, hk8⟩ : ∃ k8 : jmM, k8 = cR x8 0 (jup (mR k7 0) 8 (some (91))) := ⟨_, rfl⟩
  have nk8 : mN k8 = 102 := by rw [hk8, mN_cR, nx8]
  have zk8 : mZ k8 = mZ k7 + 6645 := by rw [hk8, mZ_cR, zx8]
  have Fk8 : ∀ c, c ≠ 0 → c < 91 → sm4 k7 k8 c := fun c h1 h2 => by rw [hk8]; exact ⟨by rw [mS_cR, (fx8 c h2).1], by rw [cRv, if_neg h1, (fx8 c h2).2.1], by rw [mI_cR, (fx8 c h2).2.2.1], by rw [mL_cR, (fx8 c h2).2.2.2]⟩
  have Yk8 : ∀ c, c ≠ 0 → sm4 x8 k8 c := fun c h1 => by rw [hk8]; exact ⟨rfl, by rw [cRv, if_neg h1], rfl, rfl⟩
  have Sak8 : mS k8 0 = (11, 19) := by rw [hk8, mS_cR, Sax8]
  have Rak8 : mR k8 0 = jup (mR k7 0) 8 (some (91)) := by rw [hk8, cRv, if_pos rfl]
  have Iak8 : mI k8 0 = mI k7 0 := by rw [hk8, mI_cR]; exact (fx8 0 (by decide)).2.2.1
  have Lak8 : mL k8 0 = mL k7 0 := by rw [hk8, mL_cR]; exact (fx8 0 (by decide)).2.2.2
  obtain ⟨x9, ck9, ⟨nx9, zx9⟩, fx9, sk9, yk9⟩ := i_Pot (d := 997) (m := k8) (a := 102) nk8
  simp only [Nat.add_assoc, Nat.reduceAdd, Nat.reduceMul] at nx9 sk9 yk9
  have Sax9 : mS x9 0 = (11, 19) := (fx9 0 (by decide)).1.trans Sak8
  have Rax9 : mR x9 0 = mR k8 0 := (fx9 0 (by decide)).2.1
  obtain ⟨k9, hk9⟩ : ∃ k9 : jmM, k9 = cR x9 0 (jup (mR k8 0) 9 (some (102))) := ⟨_, rfl⟩
  have nk9 : mN k9 = 113 := by rw [hk9, mN_cR, nx9]
  have zk9 : mZ k9 = mZ k8 + 6645 := by rw [hk9, mZ_cR, zx9]
  have Fk9 : ∀ c, c ≠ 0 → c < 102 → sm4 k8 k9 c := fun c h1 h2 => by rw [hk9]; exact ⟨by rw [mS_cR, (fx9 c h2).1], by rw [cRv, if_neg h1, (fx9 c h2).2.1], by rw [mI_cR, (fx9 c h2).2.2.1], by rw [mL_cR, (fx9 c h2).2.2.2]⟩
  have Yk9 : ∀ c, c ≠ 0 → sm4 x9 k9 c := fun c h1 => by rw [hk9]; exact ⟨rfl, by rw [cRv, if_neg h1], rfl, rfl⟩
  have Sak9 : mS k9 0 = (11, 19) := by rw [hk9, mS_cR, Sax9]
  have Rak9 : mR k9 0 = jup (mR k8 0) 9 (some (102)) := by rw [hk9, cRv, if_pos rfl]
  have Iak9 : mI k9 0 = mI k8 0 := by rw [hk9, mI_cR]; exact (fx9 0 (by decide)).2.2.1
  have Lak9 : mL k9 0 = mL k8 0 := by rw [hk9, mL_cR]; exact (fx9 0 (by decide)).2.2.2
  obtain ⟨k10, hk10⟩ : ∃ k10 : jmM, k10 = cR (jNew k9 25 4) 0 (jup (mR k9 0) 10 (some (113))) := ⟨_, rfl⟩
  have nk10 : mN k10 = 114 := by rw [hk10, mN_cR, mN_new, nk9]
  have zk10 : mZ k10 = mZ k9 + 4 := by rw [hk10, mZ_cR, mZ_new]
  have Fk10 : ∀ c, c ≠ 0 → c ≠ 113 → sm4 k9 k10 c := fun c h1 h2 => by rw [hk10]; exact ⟨by rw [mS_cR, mS_new, nk9, if_neg h2], by rw [cRv, if_neg h1, mR_new, nk9, if_neg h2], by rw [mI_cR, mI_new, nk9, if_neg h2], by rw [mL_cR, mL_new, nk9, if_neg h2]⟩
  have Xk10 : mS k10 (113) = (25, 4) ∧ mI k10 (113) = (fun _ => 0) ∧ mL k10 (113) = (fun _ => 0) ∧ mR k10 (113) = fun _ => none := by rw [hk10]; exact ⟨by rw [mS_cR, mS_new, nk9, if_pos rfl], by rw [mI_cR, mI_new, nk9, if_pos rfl], by rw [mL_cR, mL_new, nk9, if_pos rfl], by rw [cRv, if_neg (by decide), mR_new, nk9, if_pos rfl]⟩
  have Sak10 : mS k10 0 = (11, 19) := by rw [hk10, mS_cR, mS_new, nk9, if_neg (by decide), Sak9]
  have Rak10 : mR k10 0 = jup (mR k9 0) 10 (some (113)) := by rw [hk10, cRv, if_pos rfl]
  have Iak10 : mI k10 0 = mI k9 0 := by rw [hk10, mI_cR, mI_new, nk9, if_neg (by decide)]
  have Lak10 : mL k10 0 = mL k9 0 := by rw [hk10, mL_cR, mL_new, nk9, if_neg (by decide)]
  obtain ⟨k11, hk11⟩ : ∃ k11 : jmM, k11 = cR (jNew k10 26 8) 0 (jup (mR k10 0) 11 (some (114))) := ⟨_, rfl⟩
  have nk11 : mN k11 = 115 := by rw [hk11, mN_cR, mN_new, nk10]
  have zk11 : mZ k11 = mZ k10 + 8 := by rw [hk11, mZ_cR, mZ_new]
  have Fk11 : ∀ c, c ≠ 0 → c ≠ 114 → sm4 k10 k11 c := fun c h1 h2 => by rw [hk11]; exact ⟨by rw [mS_cR, mS_new, nk10, if_neg h2], by rw [cRv, if_neg h1, mR_new, nk10, if_neg h2], by rw [mI_cR, mI_new, nk10, if_neg h2], by rw [mL_cR, mL_new, nk10, if_neg h2]⟩
  have Xk11 : mS k11 (114) = (26, 8) ∧ mI k11 (114) = (fun _ => 0) ∧ mL k11 (114) = (fun _ => 0) ∧ mR k11 (114) = fun _ => none := by rw [hk11]; exact ⟨by rw [mS_cR, mS_new, nk10, if_pos rfl], by rw [mI_cR, mI_new, nk10, if_pos rfl], by rw [mL_cR, mL_new, nk10, if_pos rfl], by rw [cRv, if_neg (by decide), mR_new, nk10, if_pos rfl]⟩
  have Sak11 : mS k11 0 = (11, 19) := by rw [hk11, mS_cR, mS_new, nk10, if_neg (by decide), Sak10]
  have Rak11 : mR k11 0 = jup (mR k10 0) 11 (some (114)) := by rw [hk11, cRv, if_pos rfl]
  have Iak11 : mI k11 0 = mI k10 0 := by rw [hk11, mI_cR, mI_new, nk10, if_neg (by decide)]
  have Lak11 : mL k11 0 = mL k10 0 := by rw [hk11, mL_cR, mL_new, nk10, if_neg (by decide)]
  obtain ⟨k12, hk12⟩ : ∃ k12 : jmM, k12 = cI k11 0 (jup (mI k11 0) 12 0) := ⟨_, rfl⟩
  have nk12 : mN k12 = 115 := by rw [hk12, mN_cI, nk11]
  have zk12 : mZ k12 = mZ k11 := by rw [hk12, mZ_cI]
  have Fk12 : ∀ c, c ≠ 0 → sm4 k11 k12 c := fun c h1 => by rw [hk12]; exact ⟨rfl, rfl, by rw [cIv, if_neg h1], rfl⟩
  have Sak12 : mS k12 0 = (11, 19) := by rw [hk12, mS_cI, Sak11]
  have Rak12 : mR k12 0 = mR k11 0 := by rw [hk12, mR_cI]
  have Iak12 : mI k12 0 = jup (mI k11 0) 12 0 := by rw [hk12, cIv, if_pos rfl]
  have Lak12 : mL k12 0 = mL k11 0 := by rw [hk12, mL_cI]
  obtain ⟨x13, ck13, ⟨nx13, zx13⟩, fx13, sk13, yk13⟩ := i_Cutter (d := 998) (m := k12) (a := 115) nk12
  simp only [Nat.add_assoc, Nat.reduceAdd, Nat.reduceMul] at nx13 sk13 yk13
  have Sax13 : mS x13 0 = (11, 19) := (fx13 0 (by decide)).1.trans Sak12
  have Rax13 : mR x13 0 = mR k12 0 := (fx13 0 (by decide)).2.1
  obtain ⟨k13, hk13⟩ : ∃ k13 : jmM, k13 = cR x13 0 (jup (mR k12 0) 13 (some (115))) := ⟨_, rfl⟩
  have nk13 : mN k13 = 121 := by rw [hk13, mN_cR, nx13]
  have zk13 : mZ k13 = mZ k12 + 2418 := by rw [hk13, mZ_cR, zx13]
  have Fk13 : ∀ c, c ≠ 0 → c < 115 → sm4 k12 k13 c := fun c h1 h2 => by rw [hk13]; exact ⟨by rw [mS_cR, (fx13 c h2).1], by rw [cRv, if_neg h1, (fx13 c h2).2.1], by rw [mI_cR, (fx13 c h2).2.2.1], by rw [mL_cR, (fx13 c h2).2.2.2]⟩
  have Yk13 : ∀ c, c ≠ 0 → sm4 x13 k13 c := fun c h1 => by rw [hk13]; exact ⟨rfl, by rw [cRv, if_neg h1], rfl, rfl⟩
  have Sak13 : mS k13 0 = (11, 19) := by rw [hk13, mS_cR, Sax13]
  have Rak13 : mR k13 0 = jup (mR k12 0) 13 (some (115)) := by rw [hk13, cRv, if_pos rfl]
  have Iak13 : mI k13 0 = mI k12 0 := by rw [hk13, mI_cR]; exact (fx13 0 (by decide)).2.2.1
  have Lak13 : mL k13 0 = mL k12 0 := by rw [hk13, mL_cR]; exact (fx13 0 (by decide)).2.2.2
  obtain ⟨x14, ck14, ⟨nx14, zx14⟩, fx14, sk14, yk14⟩ := i_Slices (d := 998) (m := k13) (a := 121) nk13
  simp only [Nat.add_assoc, Nat.reduceAdd, Nat.reduceMul] at nx14 sk14 yk14
  have Sax14 : mS x14 0 = (11, 19) := (fx14 0 (by decide)).1.trans Sak13
  have Rax14 : mR x14 0 = mR k13 0 := (fx14 0 (by decide)).2.1
  obtain ⟨k14, hk14⟩ : ∃ k14 : jmM, k14 = cR x14 0 (jup (mR k13 0) 14 (some (121))) := ⟨_, rfl⟩
  have nk14 : mN k14 = 128 := by rw [hk14, mN_cR, nx14]
  have zk14 : mZ k14 = mZ k13 + 1608 := by rw [hk14, mZ_cR, zx14]
  have Fk14 : ∀ c, c ≠ 0 → c < 121 → sm4 k13 k14 c := fun c h1 h2 => by rw [hk14]; exact ⟨by rw [mS_cR, (fx14 c h2).1], by rw [cRv, if_neg h1, (fx14 c h2).2.1], by rw [mI_cR, (fx14 c h2).2.2.1], by rw [mL_cR, (fx14 c h2).2.2.2]⟩
  have Yk14 : ∀ c, c ≠ 0 → sm4 x14 k14 c := fun c h1 => by rw [hk14]; exact ⟨rfl, by rw [cRv, if_neg h1], rfl, rfl⟩
  have Sak14 : mS k14 0 = (11, 19) := by rw [hk14, mS_cR, Sax14]
  have Rak14 : mR k14 0 = jup (mR k13 0) 14 (some (121)) := by rw [hk14, cRv, if_pos rfl]
  have Iak14 : mI k14 0 = mI k13 0 := by rw [hk14, mI_cR]; exact (fx14 0 (by decide)).2.2.1
  have Lak14 : mL k14 0 = mL k13 0 := by rw [hk14, mL_cR]; exact (fx14 0 (by decide)).2.2.2
  obtain ⟨k15, hk15⟩ : ∃ k15 : jmM, k15 = cR (jNew k14 21 600) 0 (jup (mR k14 0) 15 (some (128))) := ⟨_, rfl⟩
  have nk15 : mN k15 = 129 := by rw [hk15, mN_cR, mN_new, nk14]
  have zk15 : mZ k15 = mZ k14 + 600 := by rw [hk15, mZ_cR, mZ_new]
  have Fk15 : ∀ c, c ≠ 0 → c ≠ 128 → sm4 k14 k15 c := fun c h1 h2 => by rw [hk15]; exact ⟨by rw [mS_cR, mS_new, nk14, if_neg h2], by rw [cRv, if_neg h1, mR_new, nk14, if_neg h2], by rw [mI_cR, mI_new, nk14, if_neg h2], by rw [mL_cR, mL_new, nk14, if_neg h2]⟩
  have Xk15 : mS k15 (128) = (21, 600) ∧ mI k15 (128) = (fun _ => 0) ∧ mL k15 (128) = (fun _ => 0) ∧ mR k15 (128) = fun _ => none := by rw [hk15]; exact ⟨by rw [mS_cR, mS_new, nk14, if_pos rfl], by rw [mI_cR, mI_new, nk14, if_pos rfl], by rw [mL_cR, mL_new, nk14, if_pos rfl], by rw [cRv, if_neg (by decide), mR_new, nk14, if_pos rfl]⟩
  have Sak15 : mS k15 0 = (11, 19) := by rw [hk15, mS_cR, mS_new, nk14, if_neg (by decide), Sak14]
  have Rak15 : mR k15 0 = jup (mR k14 0) 15 (some (128)) := by rw [hk15, cRv, if_pos rfl]
  have Iak15 : mI k15 0 = mI k14 0 := by rw [hk15, mI_cR, mI_new, nk14, if_neg (by decide)]
  have Lak15 : mL k15 0 = mL k14 0 := by rw [hk15, mL_cR, mL_new, nk14, if_neg (by decide)]
  obtain ⟨k16, hk16⟩ : ∃ k16 : jmM, k16 = cR (jNew k15 20 200) 0 (jup (mR k15 0) 16 (some (129))) := ⟨_, rfl⟩
  have nk16 : mN k16 = 130 := by rw [hk16, mN_cR, mN_new, nk15]
  have zk16 : mZ k16 = mZ k15 + 200 := by rw [hk16, mZ_cR, mZ_new]
  have Fk16 : ∀ c, c ≠ 0 → c ≠ 129 → sm4 k15 k16 c := fun c h1 h2 => by rw [hk16]; exact ⟨by rw [mS_cR, mS_new, nk15, if_neg h2], by rw [cRv, if_neg h1, mR_new, nk15, if_neg h2], by rw [mI_cR, mI_new, nk15, if_neg h2], by rw [mL_cR, mL_new, nk15, if_neg h2]⟩
  have Xk16 : mS k16 (129) = (20, 200) ∧ mI k16 (129) = (fun _ => 0) ∧ mL k16 (129) = (fun _ => 0) ∧ mR k16 (129) = fun _ => none := by rw [hk16]; exact ⟨by rw [mS_cR, mS_new, nk15, if_pos rfl], by rw [mI_cR, mI_new, nk15, if_pos rfl], by rw [mL_cR, mL_new, nk15, if_pos rfl], by rw [cRv, if_neg (by decide), mR_new, nk15, if_pos rfl]⟩
  have Sak16 : mS k16 0 = (11, 19) := by rw [hk16, mS_cR, mS_new, nk15, if_neg (by decide), Sak15]
  have Rak16 : mR k16 0 = jup (mR k15 0) 16 (some (129)) := by rw [hk16, cRv, if_pos rfl]
  have Iak16 : mI k16 0 = mI k15 0 := by rw [hk16, mI_cR, mI_new, nk15, if_neg (by decide)]
  have Lak16 : mL k16 0 = mL k15 0 := by rw [hk16, mL_cR, mL_new, nk15, if_neg (by decide)]
  obtain ⟨k17, hk17⟩ : ∃ k17 : jmM, k17 = cR (jNew k16 20 200) 0 (jup (mR k16 0) 17 (some (130))) := ⟨_, rfl⟩
  have nk17 : mN k17 = 131 := by rw [hk17, mN_cR, mN_new, nk16]
  have zk17 : mZ k17 = mZ k16 + 200 := by rw [hk17, mZ_cR, mZ_new]
  have Fk17 : ∀ c, c ≠ 0 → c ≠ 130 → sm4 k16 k17 c := fun c h1 h2 => by rw [hk17]; exact ⟨by rw [mS_cR, mS_new, nk16, if_neg h2], by rw [cRv, if_neg h1, mR_new, nk16, if_neg h2], by rw [mI_cR, mI_new, nk16, if_neg h2], by rw [mL_cR, mL_new, nk16, if_neg h2]⟩
  have Xk17 : mS k17 (130) = (20, 200) ∧ mI k17 (130) = (fun _ => 0) ∧ mL k17 (130) = (fun _ => 0) ∧ mR k17 (130) = fun _ => none := by rw [hk17]; exact ⟨by rw [mS_cR, mS_new, nk16, if_pos rfl], by rw [mI_cR, mI_new, nk16, if_pos rfl], by rw [mL_cR, mL_new, nk16, if_pos rfl], by rw [cRv, if_neg (by decide), mR_new, nk16, if_pos rfl]⟩
  have Sak17 : mS k17 0 = (11, 19) := by rw [hk17, mS_cR, mS_new, nk16, if_neg (by decide), Sak16]
  have Rak17 : mR k17 0 = jup (mR k16 0) 17 (some (130)) := by rw [hk17, cRv, if_pos rfl]
  have Iak17 : mI k17 0 = mI k16 0 := by rw [hk17, mI_cR, mI_new, nk16, if_neg (by decide)]
  have Lak17 : mL k17 0 = mL k16 0 := by rw [hk17, mL_cR, mL_new, nk16, if_neg (by decide)]
  obtain ⟨k18, hk18⟩ : ∃ k18 : jmM, k18 = cI k17 0 (jup (mI k17 0) 18 0) := ⟨_, rfl⟩
  have nk18 : mN k18 = 131 := by rw [hk18, mN_cI, nk17]
  have zk18 : mZ k18 = mZ k17 := by rw [hk18, mZ_cI]
  have Fk18 : ∀ c, c ≠ 0 → sm4 k17 k18 c := fun c h1 => by rw [hk18]; exact ⟨rfl, rfl, by rw [cIv, if_neg h1], rfl⟩
  have Sak18 : mS k18 0 = (11, 19) := by rw [hk18, mS_cI, Sak17]
  have Rak18 : mR k18 0 = mR k17 0 := by rw [hk18, mR_cI]
  have Iak18 : mI k18 0 = jup (mI k17 0) 18 0 := by rw [hk18, cIv, if_pos rfl]
  have Lak18 : mL k18 0 = mL k17 0 := by rw [hk18, mL_cI]
  have Gk18 : ∀ c, c ≠ 0 → c < 131 → sm4 k18 k18 c := fun c _ _ => sm4.refl
  have Gk17 : ∀ c, c ≠ 0 → c < 131 → sm4 k17 k18 c := fun c h1 h2 => (Fk18 c h1).trans (Gk18 c h1 h2)
  have Gk16 : ∀ c, c ≠ 0 → c < 130 → sm4 k16 k18 c := fun c h1 h2 => (Fk17 c h1 (Nat.ne_of_lt h2)).trans (Gk17 c h1 (Nat.lt_of_lt_of_le h2 (by decide)))
  have Gk15 : ∀ c, c ≠ 0 → c < 129 → sm4 k15 k18 c := fun c h1 h2 => (Fk16 c h1 (Nat.ne_of_lt h2)).trans (Gk16 c h1 (Nat.lt_of_lt_of_le h2 (by decide)))
  have Gk14 : ∀ c, c ≠ 0 → c < 128 → sm4 k14 k18 c := fun c h1 h2 => (Fk15 c h1 (Nat.ne_of_lt h2)).trans (Gk15 c h1 (Nat.lt_of_lt_of_le h2 (by decide)))
  have Gk13 : ∀ c, c ≠ 0 → c < 121 → sm4 k13 k18 c := fun c h1 h2 => (Fk14 c h1 h2).trans (Gk14 c h1 (Nat.lt_of_lt_of_le h2 (by decide)))
  have Gk12 : ∀ c, c ≠ 0 → c < 115 → sm4 k12 k18 c := fun c h1 h2 => (Fk13 c h1 h2).trans (Gk13 c h1 (Nat.lt_of_lt_of_le h2 (by decide)))
  have Gk11 : ∀ c, c ≠ 0 → c < 115 → sm4 k11 k18 c := fun c h1 h2 => (Fk12 c h1).trans (Gk12 c h1 h2)
  have Gk10 : ∀ c, c ≠ 0 → c < 114 → sm4 k10 k18 c := fun c h1 h2 => (Fk11 c h1 (Nat.ne_of_lt h2)).trans (Gk11 c h1 (Nat.lt_of_lt_of_le h2 (by decide)))
  have Gk9 : ∀ c, c ≠ 0 → c < 113 → sm4 k9 k18 c := fun c h1 h2 => (Fk10 c h1 (Nat.ne_of_lt h2)).trans (Gk10 c h1 (Nat.lt_of_lt_of_le h2 (by decide)))
  have Gk8 : ∀ c, c ≠ 0 → c < 102 → sm4 k8 k18 c := fun c h1 h2 => (Fk9 c h1 h2).trans (Gk9 c h1 (Nat.lt_of_lt_of_le h2 (by decide)))
  have Gk7 : ∀ c, c ≠ 0 → c < 91 → sm4 k7 k18 c := fun c h1 h2 => (Fk8 c h1 h2).trans (Gk8 c h1 (Nat.lt_of_lt_of_le h2 (by decide)))
  have Gk6 : ∀ c, c ≠ 0 → c < 91 → sm4 k6 k18 c := fun c h1 h2 => (Fk7 c h1).trans (Gk7 c h1 h2)
  have Gk5 : ∀ c, c ≠ 0 → c < 90 → sm4 k5 k18 c := fun c h1 h2 => (Fk6 c h1 (Nat.ne_of_lt h2)).trans (Gk6 c h1 (Nat.lt_of_lt_of_le h2 (by decide)))
  have Gk4 : ∀ c, c ≠ 0 → c < 89 → sm4 k4 k18 c := fun c h1 h2 => (Fk5 c h1 (Nat.ne_of_lt h2)).trans (Gk5 c h1 (Nat.lt_of_lt_of_le h2 (by decide)))
  have Gk3 : ∀ c, c ≠ 0 → c < 86 → sm4 k3 k18 c := fun c h1 h2 => (Fk4 c h1 h2).trans (Gk4 c h1 (Nat.lt_of_lt_of_le h2 (by decide)))
  have Gk2 : ∀ c, c ≠ 0 → c < 36 → sm4 k2 k18 c := fun c h1 h2 => (Fk3 c h1 h2).trans (Gk3 c h1 (Nat.lt_of_lt_of_le h2 (by decide)))
  have Gk1 : ∀ c, c ≠ 0 → c < 10 → sm4 k1 k18 c := fun c h1 h2 => (Fk2 c h1 h2).trans (Gk2 c h1 (Nat.lt_of_lt_of_le h2 (by decide)))
  have Gk0 : ∀ c, c ≠ 0 → c < 10 → sm4 k0 k18 c := fun c h1 h2 => (Fk1 c h1).trans (Gk1 c h1 h2)
  have GM : ∀ c, c ≠ 0 → c < 1 → sm4 M k18 c := fun c h1 h2 => (Fk0 c h1 h2).trans (Gk0 c h1 (Nat.lt_of_lt_of_le h2 (by decide)))
  have RA := Rak18
  rw [Rak17, Rak16, Rak15, Rak14, Rak13, Rak12, Rak11, Rak10, Rak9, Rak8, Rak7, Rak6, Rak5, Rak4, Rak3, Rak2, Rak1, Rak0, RaM] at RA
  have IA := Iak18
  rw [Iak17, Iak16, Iak15, Iak14, Iak13, Iak12, Iak11, Iak10, Iak9, Iak8, Iak7, Iak6, Iak5, Iak4, Iak3, Iak2, Iak1, Iak0, IaM] at IA
  have LA := Lak18
  rw [Lak17, Lak16, Lak15, Lak14, Lak13, Lak12, Lak11, Lak10, Lak9, Lak8, Lak7, Lak6, Lak5, Lak4, Lak3, Lak2, Lak1, Lak0, LaM] at LA
  have Ak5 : mS k18 (89) = (20, 6) ∧ mI k18 (89) = (fun _ => 0) ∧ mL k18 (89) = (fun _ => 0) ∧ mR k18 (89) = fun _ => none := by have g := Gk5 (89) (by decide) (by decide); unfold sm4 at g; rw [g.1, g.2.1, g.2.2.1, g.2.2.2]; exact ⟨Xk5.1, Xk5.2.1, Xk5.2.2.1, Xk5.2.2.2⟩
  have Ak6 : mS k18 (90) = (20, 6) ∧ mI k18 (90) = (fun _ => 0) ∧ mL k18 (90) = (fun _ => 0) ∧ mR k18 (90) = fun _ => none := by have g := Gk6 (90) (by decide) (by decide); unfold sm4 at g; rw [g.1, g.2.1, g.2.2.1, g.2.2.2]; exact ⟨Xk6.1, Xk6.2.1, Xk6.2.2.1, Xk6.2.2.2⟩
  have Ak10 : mS k18 (113) = (25, 4) ∧ mI k18 (113) = (fun _ => 0) ∧ mL k18 (113) = (fun _ => 0) ∧ mR k18 (113) = fun _ => none := by have g := Gk10 (113) (by decide) (by decide); unfold sm4 at g; rw [g.1, g.2.1, g.2.2.1, g.2.2.2]; exact ⟨Xk10.1, Xk10.2.1, Xk10.2.2.1, Xk10.2.2.2⟩
  have Ak11 : mS k18 (114) = (26, 8) ∧ mI k18 (114) = (fun _ => 0) ∧ mL k18 (114) = (fun _ => 0) ∧ mR k18 (114) = fun _ => none := by have g := Gk11 (114) (by decide) (by decide); unfold sm4 at g; rw [g.1, g.2.1, g.2.2.1, g.2.2.2]; exact ⟨Xk11.1, Xk11.2.1, Xk11.2.2.1, Xk11.2.2.2⟩
  have Ak15 : mS k18 (128) = (21, 600) ∧ mI k18 (128) = (fun _ => 0) ∧ mL k18 (128) = (fun _ => 0) ∧ mR k18 (128) = fun _ => none := by have g := Gk15 (128) (by decide) (by decide); unfold sm4 at g; rw [g.1, g.2.1, g.2.2.1, g.2.2.2]; exact ⟨Xk15.1, Xk15.2.1, Xk15.2.2.1, Xk15.2.2.2⟩
  have Ak16 : mS k18 (129) = (20, 200) ∧ mI k18 (129) = (fun _ => 0) ∧ mL k18 (129) = (fun _ => 0) ∧ mR k18 (129) = fun _ => none := by have g := Gk16 (129) (by decide) (by decide); unfold sm4 at g; rw [g.1, g.2.1, g.2.2.1, g.2.2.2]; exact ⟨Xk16.1, Xk16.2.1, Xk16.2.2.1, Xk16.2.2.2⟩
  have Ak17 : mS k18 (130) = (20, 200) ∧ mI k18 (130) = (fun _ => 0) ∧ mL k18 (130) = (fun _ => 0) ∧ mR k18 (130) = fun _ => none := by have g := Gk17 (130) (by decide) (by decide); unfold sm4 at g; rw [g.1, g.2.1, g.2.2.1, g.2.2.2]; exact ⟨Xk17.1, Xk17.2.1, Xk17.2.2.1, Xk17.2.2.2⟩
  have Bk0 : ∀ c, 1 ≤ c → c < 1 + 9 → sm4 x0 k18 c := fun c h1 h2 => (Yk0 c (Nat.ne_of_gt (Nat.lt_of_lt_of_le (show 0 < 1 from (by decide)) h1))).trans (Gk0 c (Nat.ne_of_gt (Nat.lt_of_lt_of_le (show 0 < 1 from (by decide)) h1)) h2)
  have Bk2 : ∀ c, 10 ≤ c → c < 10 + 26 → sm4 x2 k18 c := fun c h1 h2 => (Yk2 c (Nat.ne_of_gt (Nat.lt_of_lt_of_le (show 0 < 10 from (by decide)) h1))).trans (Gk2 c (Nat.ne_of_gt (Nat.lt_of_lt_of_le (show 0 < 10 from (by decide)) h1)) h2)
  have Bk3 : ∀ c, 36 ≤ c → c < 36 + 50 → sm4 x3 k18 c := fun c h1 h2 => (Yk3 c (Nat.ne_of_gt (Nat.lt_of_lt_of_le (show 0 < 36 from (by decide)) h1))).trans (Gk3 c (Nat.ne_of_gt (Nat.lt_of_lt_of_le (show 0 < 36 from (by decide)) h1)) h2)
  have Bk4 : ∀ c, 86 ≤ c → c < 86 + 3 → sm4 x4 k18 c := fun c h1 h2 => (Yk4 c (Nat.ne_of_gt (Nat.lt_of_lt_of_le (show 0 < 86 from (by decide)) h1))).trans (Gk4 c (Nat.ne_of_gt (Nat.lt_of_lt_of_le (show 0 < 86 from (by decide)) h1)) h2)
  have Bk8 : ∀ c, 91 ≤ c → c < 91 + 11 → sm4 x8 k18 c := fun c h1 h2 => (Yk8 c (Nat.ne_of_gt (Nat.lt_of_lt_of_le (show 0 < 91 from (by decide)) h1))).trans (Gk8 c (Nat.ne_of_gt (Nat.lt_of_lt_of_le (show 0 < 91 from (by decide)) h1)) h2)
  have Bk9 : ∀ c, 102 ≤ c → c < 102 + 11 → sm4 x9 k18 c := fun c h1 h2 => (Yk9 c (Nat.ne_of_gt (Nat.lt_of_lt_of_le (show 0 < 102 from (by decide)) h1))).trans (Gk9 c (Nat.ne_of_gt (Nat.lt_of_lt_of_le (show 0 < 102 from (by decide)) h1)) h2)
  have Bk13 : ∀ c, 115 ≤ c → c < 115 + 6 → sm4 x13 k18 c := fun c h1 h2 => (Yk13 c (Nat.ne_of_gt (Nat.lt_of_lt_of_le (show 0 < 115 from (by decide)) h1))).trans (Gk13 c (Nat.ne_of_gt (Nat.lt_of_lt_of_le (show 0 < 115 from (by decide)) h1)) h2)
  have Bk14 : ∀ c, 121 ≤ c → c < 121 + 7 → sm4 x14 k18 c := fun c h1 h2 => (Yk14 c (Nat.ne_of_gt (Nat.lt_of_lt_of_le (show 0 < 121 from (by decide)) h1))).trans (Gk14 c (Nat.ne_of_gt (Nat.lt_of_lt_of_le (show 0 < 121 from (by decide)) h1)) h2)
  refine ⟨k18, fun Q => ?_, ⟨nk18, ?_⟩, ⟨Sak18, ?_, ?_, ?_, ?_, ?_, ?_, ?_, ?_, ?_, ?_, ?_, ?_, ?_, ?_, ?_, ?_⟩, ⟨?_, ?_, ?_⟩, ⟨(Bk0 1 (by decide) (by decide)).1.trans sk0.1, (congrFun (Bk0 1 (by decide) (by decide)).2.1 0).trans sk0.2.1, (congrFun (Bk0 1 (by decide) (by decide)).2.1 1).trans sk0.2.2⟩, ⟨TapeL_p (fun c h1 h2 => Bk0 c (Nat.le_trans (by decide) h1) (Nat.lt_of_lt_of_le h2 (by decide))) tpk0, zr_p (Bk0 2 (by decide) (by decide)) yyk0⟩, LawL_p (fun c h1 h2 => Bk0 c (Nat.le_trans (by decide) h1) (Nat.lt_of_lt_of_le h2 (by decide))) lwk0, ⟨⟨(Bk2 10 (by decide) (by decide)).1.trans sk2.1, (congrFun (Bk2 10 (by decide) (by decide)).2.1 0).trans sk2.2.1, (Bk2 11 (by decide) (by decide)).1.trans sk2.2.2⟩, zr_p (Bk2 10 (by decide) (by decide)) yk2, fun k hk => ⟨(congrFun (Bk2 11 (by decide) (by decide)).2.1 k).trans (lwk2 k hk).1, LawL_p (fun c h1 h2 => Bk2 c (Nat.le_trans (Nat.le_trans (by decide) (Nat.le_add_right 12 (6 * k))) h1) (Nat.lt_of_lt_of_le h2 (lw_b1 hk))) (lwk2 k hk).2⟩⟩, ⟨⟨(Bk3 36 (by decide) (by decide)).1.trans sk3.1, (congrFun (Bk3 36 (by decide) (by decide)).2.1 0).trans sk3.2.1, (Bk3 37 (by decide) (by decide)).1.trans sk3.2.2⟩, zr_p (Bk3 36 (by decide) (by decide)) yk3, fun k hk => ⟨(congrFun (Bk3 37 (by decide) (by decide)).2.1 k).trans (lwk3 k hk).1, LawL_p (fun c h1 h2 => Bk3 c (Nat.le_trans (Nat.le_trans (by decide) (Nat.le_add_right 38 (6 * k))) h1) (Nat.lt_of_lt_of_le h2 (lw_b2 hk))) (lwk3 k hk).2⟩⟩, ⟨DeskL_p (fun c h1 h2 => Bk4 c h1 h2) sk4, zr_p (Bk4 86 (by decide) (by decide)) yk4⟩, ⟨Ak5.1, zr_0 Ak5.2.1 Ak5.2.2.1⟩, ⟨Ak6.1, zr_0 Ak6.2.1 Ak6.2.2.1⟩, ⟨PotL_p (fun c h1 h2 => Bk8 c h1 h2) sk8, zr_p (Bk8 91 (by decide) (by decide)) yk8.1, zr_p (Bk8 92 (by decide) (by decide)) yk8.2.1, zr_p (Bk8 93 (by decide) (by decide)) yk8.2.2.1, zr_p (Bk8 94 (by decide) (by decide)) yk8.2.2.2.1, zr_p (Bk8 101 (by decide) (by decide)) yk8.2.2.2.2.2.2.2.2.2.2⟩, PotL_p (fun c h1 h2 => Bk9 c h1 h2) sk9, ⟨Ak10.1, Ak11.1⟩, ⟨⟨(Bk13 115 (by decide) (by decide)).1.trans sk13.1, (congrFun (Bk13 115 (by decide) (by decide)).2.1 0).trans sk13.2.1, (congrFun (Bk13 115 (by decide) (by decide)).2.1 1).trans sk13.2.2.1, (congrFun (Bk13 115 (by decide) (by decide)).2.1 2).trans sk13.2.2.2.1, (congrFun (Bk13 115 (by decide) (by decide)).2.1 3).trans sk13.2.2.2.2.1, (congrFun (Bk13 115 (by decide) (by decide)).2.1 4).trans sk13.2.2.2.2.2.1, (Bk13 116 (by decide) (by decide)).1.trans sk13.2.2.2.2.2.2.1, (Bk13 117 (by decide) (by decide)).1.trans sk13.2.2.2.2.2.2.2.1, (Bk13 118 (by decide) (by decide)).1.trans sk13.2.2.2.2.2.2.2.2.1, (Bk13 119 (by decide) (by decide)).1.trans sk13.2.2.2.2.2.2.2.2.2.1, (Bk13 120 (by decide) (by decide)).1.trans sk13.2.2.2.2.2.2.2.2.2.2⟩, zr_p (Bk13 119 (by decide) (by decide)) yk13⟩, ⟨SliL_p (fun c h1 h2 => Bk14 c h1 h2) sk14, zr_p (Bk14 121 (by decide) (by decide)) yk14⟩, Ak15.1, Ak16.1, Ak17.1⟩
  · rw [nX11_init (d := 999), ← hM]
    simp (config := {decide := true, maxSteps := 1000000}) (disch := omega) only [tX11_init_0, tX11_init_1, tX11_init_4, tX11_init_5, tX11_init_8, tX11_init_9, tX11_init_12, tX11_init_12q, tX11_init_12n, jK_some, jK_none, jc1_int, jc1_ref, jc1_none, jc1_long, jc1_null, jc1_rf, va_rf_some, va_rf_none, mI_cI, mL_cL, mR_cR, cI_cI, cL_cL, jup_eq, jne_1, jne_2, Nat.add_left_cancel_iff, mL_cI, mR_cI, mS_cI, mN_cI, mI_cL, mR_cL, mS_cL, mN_cL, mI_cR, mL_cR, mS_cR, mN_cR, true_and, and_true, true_or, or_true, if_true, if_false, jBool_0, jBool_1, Nat.le_refl, Nat.reduceLeDiff, Nat.reduceEqDiff, Nat.reduceAdd, Nat.reduceSub, reduceIte, Int32.reduceLT, Int32.reduceLE, ne_eq, not_false_eq_true, not_true_eq_false, false_or, or_false, and_false, false_and, reduceCtorEq, jn_4, jn_6, jn_8, jn_9, jn_12, jn_60, jn_100, jn_200, jn_400, jn_600, jn_601, jn_3600, jI_4, jI_6, jI_8, jI_9, jI_12, jI_60, jI_100, jI_200, jI_400, jI_600, jI_601, jI_3600, va_cpy_00, jx_0, jx_6, jx_12, jx_400, jx_600, nI_1, ne_a1, ne_a2, Nat.add_assoc, show jx 3600 = 3600 from rfl, show jx 4800 = 4800 from rfl, show jx 720 = 720 from rfl, show jx 18220 = 18220 from rfl, show jx 18030 = 18030 from rfl, show jx 200 = 200 from rfl, show jx 48 = 48 from rfl, show jx 80 = 80 from rfl, show jx 17 = 17 from rfl, show jx 601 = 601 from rfl, show jx 4 = 4 from rfl, show jx 8 = 8 from rfl, show jx 9 = 9 from rfl, ck0.iff, nM, Sax0, Rax0, cRv]
    rw [← hk0]
    simp (config := {decide := true, maxSteps := 1000000}) (disch := omega) only [tX11_init_15, tX11_init_16, tX11_init_17, tX11_init_20, tX11_init_23, tX11_init_23q, tX11_init_23n, jK_some, jK_none, jc1_int, jc1_ref, jc1_none, jc1_long, jc1_null, jc1_rf, va_rf_some, va_rf_none, mI_cI, mL_cL, mR_cR, cI_cI, cL_cL, jup_eq, jne_1, jne_2, Nat.add_left_cancel_iff, mL_cI, mR_cI, mS_cI, mN_cI, mI_cL, mR_cL, mS_cL, mN_cL, mI_cR, mL_cR, mS_cR, mN_cR, true_and, and_true, true_or, or_true, if_true, if_false, jBool_0, jBool_1, Nat.le_refl, Nat.reduceLeDiff, Nat.reduceEqDiff, Nat.reduceAdd, Nat.reduceSub, reduceIte, Int32.reduceLT, Int32.reduceLE, ne_eq, not_false_eq_true, not_true_eq_false, false_or, or_false, and_false, false_and, reduceCtorEq, jn_4, jn_6, jn_8, jn_9, jn_12, jn_60, jn_100, jn_200, jn_400, jn_600, jn_601, jn_3600, jI_4, jI_6, jI_8, jI_9, jI_12, jI_60, jI_100, jI_200, jI_400, jI_600, jI_601, jI_3600, va_cpy_00, jx_0, jx_6, jx_12, jx_400, jx_600, nI_1, ne_a1, ne_a2, Nat.add_assoc, show jx 3600 = 3600 from rfl, show jx 4800 = 4800 from rfl, show jx 720 = 720 from rfl, show jx 18220 = 18220 from rfl, show jx 18030 = 18030 from rfl, show jx 200 = 200 from rfl, show jx 48 = 48 from rfl, show jx 80 = 80 from rfl, show jx 17 = 17 from rfl, show jx 601 = 601 from rfl, show jx 4 = 4 from rfl, show jx 8 = 8 from rfl, show jx 9 = 9 from rfl, Sak0, Rak0, Rak0, RaM, T1, T2, Rak0, RaM]
    rw [show cR k0 0 (jup (jup (fun _ => none) 0 (some 1)) 1 (some 2)) = k1 from by rw [hk1, Rak0, RaM]]
    simp (config := {decide := true, maxSteps := 1000000}) (disch := omega) only [tX11_init_26, tX11_init_27, tX11_init_30, tX11_init_31, tX11_init_32, tX11_init_35, tX11_init_35q, tX11_init_35n, jK_some, jK_none, jc1_int, jc1_ref, jc1_none, jc1_long, jc1_null, jc1_rf, va_rf_some, va_rf_none, mI_cI, mL_cL, mR_cR, cI_cI, cL_cL, jup_eq, jne_1, jne_2, Nat.add_left_cancel_iff, mL_cI, mR_cI, mS_cI, mN_cI, mI_cL, mR_cL, mS_cL, mN_cL, mI_cR, mL_cR, mS_cR, mN_cR, true_and, and_true, true_or, or_true, if_true, if_false, jBool_0, jBool_1, Nat.le_refl, Nat.reduceLeDiff, Nat.reduceEqDiff, Nat.reduceAdd, Nat.reduceSub, reduceIte, Int32.reduceLT, Int32.reduceLE, ne_eq, not_false_eq_true, not_true_eq_false, false_or, or_false, and_false, false_and, reduceCtorEq, jn_4, jn_6, jn_8, jn_9, jn_12, jn_60, jn_100, jn_200, jn_400, jn_600, jn_601, jn_3600, jI_4, jI_6, jI_8, jI_9, jI_12, jI_60, jI_100, jI_200, jI_400, jI_600, jI_601, jI_3600, va_cpy_00, jx_0, jx_6, jx_12, jx_400, jx_600, nI_1, ne_a1, ne_a2, Nat.add_assoc, show jx 3600 = 3600 from rfl, show jx 4800 = 4800 from rfl, show jx 720 = 720 from rfl, show jx 18220 = 18220 from rfl, show jx 18030 = 18030 from rfl, show jx 200 = 200 from rfl, show jx 48 = 48 from rfl, show jx 80 = 80 from rfl, show jx 17 = 17 from rfl, show jx 601 = 601 from rfl, show jx 4 = 4 from rfl, show jx 8 = 8 from rfl, show jx 9 = 9 from rfl, ck2.iff, nk1, Sax2, Rax2, cRv]
    rw [← hk2]
    simp (config := {decide := true, maxSteps := 1000000}) (disch := omega) only [tX11_init_38, tX11_init_39, tX11_init_42, tX11_init_43, tX11_init_45, tX11_init_48, tX11_init_48q, tX11_init_48n, jK_some, jK_none, jc1_int, jc1_ref, jc1_none, jc1_long, jc1_null, jc1_rf, va_rf_some, va_rf_none, mI_cI, mL_cL, mR_cR, cI_cI, cL_cL, jup_eq, jne_1, jne_2, Nat.add_left_cancel_iff, mL_cI, mR_cI, mS_cI, mN_cI, mI_cL, mR_cL, mS_cL, mN_cL, mI_cR, mL_cR, mS_cR, mN_cR, true_and, and_true, true_or, or_true, if_true, if_false, jBool_0, jBool_1, Nat.le_refl, Nat.reduceLeDiff, Nat.reduceEqDiff, Nat.reduceAdd, Nat.reduceSub, reduceIte, Int32.reduceLT, Int32.reduceLE, ne_eq, not_false_eq_true, not_true_eq_false, false_or, or_false, and_false, false_and, reduceCtorEq, jn_4, jn_6, jn_8, jn_9, jn_12, jn_60, jn_100, jn_200, jn_400, jn_600, jn_601, jn_3600, jI_4, jI_6, jI_8, jI_9, jI_12, jI_60, jI_100, jI_200, jI_400, jI_600, jI_601, jI_3600, va_cpy_00, jx_0, jx_6, jx_12, jx_400, jx_600, nI_1, ne_a1, ne_a2, Nat.add_assoc, show jx 3600 = 3600 from rfl, show jx 4800 = 4800 from rfl, show jx 720 = 720 from rfl, show jx 18220 = 18220 from rfl, show jx 18030 = 18030 from rfl, show jx 200 = 200 from rfl, show jx 48 = 48 from rfl, show jx 80 = 80 from rfl, show jx 17 = 17 from rfl, show jx 601 = 601 from rfl, show jx 4 = 4 from rfl, show jx 8 = 8 from rfl, show jx 9 = 9 from rfl, ck3.iff, nk2, Sax3, Rax3, cRv]
    rw [← hk3]
    simp (config := {decide := true, maxSteps := 1000000}) (disch := omega) only [tX11_init_51, tX11_init_52, tX11_init_55, tX11_init_56, tX11_init_59, tX11_init_59q, tX11_init_59n, jK_some, jK_none, jc1_int, jc1_ref, jc1_none, jc1_long, jc1_null, jc1_rf, va_rf_some, va_rf_none, mI_cI, mL_cL, mR_cR, cI_cI, cL_cL, jup_eq, jne_1, jne_2, Nat.add_left_cancel_iff, mL_cI, mR_cI, mS_cI, mN_cI, mI_cL, mR_cL, mS_cL, mN_cL, mI_cR, mL_cR, mS_cR, mN_cR, true_and, and_true, true_or, or_true, if_true, if_false, jBool_0, jBool_1, Nat.le_refl, Nat.reduceLeDiff, Nat.reduceEqDiff, Nat.reduceAdd, Nat.reduceSub, reduceIte, Int32.reduceLT, Int32.reduceLE, ne_eq, not_false_eq_true, not_true_eq_false, false_or, or_false, and_false, false_and, reduceCtorEq, jn_4, jn_6, jn_8, jn_9, jn_12, jn_60, jn_100, jn_200, jn_400, jn_600, jn_601, jn_3600, jI_4, jI_6, jI_8, jI_9, jI_12, jI_60, jI_100, jI_200, jI_400, jI_600, jI_601, jI_3600, va_cpy_00, jx_0, jx_6, jx_12, jx_400, jx_600, nI_1, ne_a1, ne_a2, Nat.add_assoc, show jx 3600 = 3600 from rfl, show jx 4800 = 4800 from rfl, show jx 720 = 720 from rfl, show jx 18220 = 18220 from rfl, show jx 18030 = 18030 from rfl, show jx 200 = 200 from rfl, show jx 48 = 48 from rfl, show jx 80 = 80 from rfl, show jx 17 = 17 from rfl, show jx 601 = 601 from rfl, show jx 4 = 4 from rfl, show jx 8 = 8 from rfl, show jx 9 = 9 from rfl, ck4.iff, nk3, Sax4, Rax4, cRv]
    rw [← hk4]
    simp (config := {decide := true, maxSteps := 1000000}) (disch := omega) only [tX11_init_62, tX11_init_63, tX11_init_65, tX11_init_67, tX11_init_67q, tX11_init_67n, jK_some, jK_none, jc1_int, jc1_ref, jc1_none, jc1_long, jc1_null, jc1_rf, va_rf_some, va_rf_none, mI_cI, mL_cL, mR_cR, cI_cI, cL_cL, jup_eq, jne_1, jne_2, Nat.add_left_cancel_iff, mL_cI, mR_cI, mS_cI, mN_cI, mI_cL, mR_cL, mS_cL, mN_cL, mI_cR, mL_cR, mS_cR, mN_cR, true_and, and_true, true_or, or_true, if_true, if_false, jBool_0, jBool_1, Nat.le_refl, Nat.reduceLeDiff, Nat.reduceEqDiff, Nat.reduceAdd, Nat.reduceSub, reduceIte, Int32.reduceLT, Int32.reduceLE, ne_eq, not_false_eq_true, not_true_eq_false, false_or, or_false, and_false, false_and, reduceCtorEq, jn_4, jn_6, jn_8, jn_9, jn_12, jn_60, jn_100, jn_200, jn_400, jn_600, jn_601, jn_3600, jI_4, jI_6, jI_8, jI_9, jI_12, jI_60, jI_100, jI_200, jI_400, jI_600, jI_601, jI_3600, va_cpy_00, jx_0, jx_6, jx_12, jx_400, jx_600, nI_1, ne_a1, ne_a2, Nat.add_assoc, show jx 3600 = 3600 from rfl, show jx 4800 = 4800 from rfl, show jx 720 = 720 from rfl, show jx 18220 = 18220 from rfl, show jx 18030 = 18030 from rfl, show jx 200 = 200 from rfl, show jx 48 = 48 from rfl, show jx 80 = 80 from rfl, show jx 17 = 17 from rfl, show jx 601 = 601 from rfl, show jx 4 = 4 from rfl, show jx 8 = 8 from rfl, show jx 9 = 9 from rfl, mI_new, mL_new, mR_new, mS_new, mN_new, cIv, cLv, cRv, nk4, Sak4]
    rw [← hk5]
    simp (config := {decide := true, maxSteps := 1000000}) (disch := omega) only [tX11_init_70, tX11_init_71, tX11_init_73, tX11_init_75, tX11_init_75q, tX11_init_75n, jK_some, jK_none, jc1_int, jc1_ref, jc1_none, jc1_long, jc1_null, jc1_rf, va_rf_some, va_rf_none, mI_cI, mL_cL, mR_cR, cI_cI, cL_cL, jup_eq, jne_1, jne_2, Nat.add_left_cancel_iff, mL_cI, mR_cI, mS_cI, mN_cI, mI_cL, mR_cL, mS_cL, mN_cL, mI_cR, mL_cR, mS_cR, mN_cR, true_and, and_true, true_or, or_true, if_true, if_false, jBool_0, jBool_1, Nat.le_refl, Nat.reduceLeDiff, Nat.reduceEqDiff, Nat.reduceAdd, Nat.reduceSub, reduceIte, Int32.reduceLT, Int32.reduceLE, ne_eq, not_false_eq_true, not_true_eq_false, false_or, or_false, and_false, false_and, reduceCtorEq, jn_4, jn_6, jn_8, jn_9, jn_12, jn_60, jn_100, jn_200, jn_400, jn_600, jn_601, jn_3600, jI_4, jI_6, jI_8, jI_9, jI_12, jI_60, jI_100, jI_200, jI_400, jI_600, jI_601, jI_3600, va_cpy_00, jx_0, jx_6, jx_12, jx_400, jx_600, nI_1, ne_a1, ne_a2, Nat.add_assoc, show jx 3600 = 3600 from rfl, show jx 4800 = 4800 from rfl, show jx 720 = 720 from rfl, show jx 18220 = 18220 from rfl, show jx 18030 = 18030 from rfl, show jx 200 = 200 from rfl, show jx 48 = 48 from rfl, show jx 80 = 80 from rfl, show jx 17 = 17 from rfl, show jx 601 = 601 from rfl, show jx 4 = 4 from rfl, show jx 8 = 8 from rfl, show jx 9 = 9 from rfl, mI_new, mL_new, mR_new, mS_new, mN_new, cIv, cLv, cRv, nk5, Sak5]
    rw [← hk6]
    simp (config := {decide := true, maxSteps := 1000000}) (disch := omega) only [tX11_init_78, tX11_init_79, tX11_init_81, jK_some, jK_none, jc1_int, jc1_ref, jc1_none, jc1_long, jc1_null, jc1_rf, va_rf_some, va_rf_none, mI_cI, mL_cL, mR_cR, cI_cI, cL_cL, jup_eq, jne_1, jne_2, Nat.add_left_cancel_iff, mL_cI, mR_cI, mS_cI, mN_cI, mI_cL, mR_cL, mS_cL, mN_cL, mI_cR, mL_cR, mS_cR, mN_cR, true_and, and_true, true_or, or_true, if_true, if_false, jBool_0, jBool_1, Nat.le_refl, Nat.reduceLeDiff, Nat.reduceEqDiff, Nat.reduceAdd, Nat.reduceSub, reduceIte, Int32.reduceLT, Int32.reduceLE, ne_eq, not_false_eq_true, not_true_eq_false, false_or, or_false, and_false, false_and, reduceCtorEq, jn_4, jn_6, jn_8, jn_9, jn_12, jn_60, jn_100, jn_200, jn_400, jn_600, jn_601, jn_3600, jI_4, jI_6, jI_8, jI_9, jI_12, jI_60, jI_100, jI_200, jI_400, jI_600, jI_601, jI_3600, va_cpy_00, jx_0, jx_6, jx_12, jx_400, jx_600, nI_1, ne_a1, ne_a2, Nat.add_assoc, show jx 3600 = 3600 from rfl, show jx 4800 = 4800 from rfl, show jx 720 = 720 from rfl, show jx 18220 = 18220 from rfl, show jx 18030 = 18030 from rfl, show jx 200 = 200 from rfl, show jx 48 = 48 from rfl, show jx 80 = 80 from rfl, show jx 17 = 17 from rfl, show jx 601 = 601 from rfl, show jx 4 = 4 from rfl, show jx 8 = 8 from rfl, show jx 9 = 9 from rfl, Sak6]
    rw [← hk7]
    simp (config := {decide := true, maxSteps := 1000000}) (disch := omega) only [tX11_init_84, tX11_init_85, tX11_init_88, tX11_init_89, tX11_init_92, tX11_init_92q, tX11_init_92n, jK_some, jK_none, jc1_int, jc1_ref, jc1_none, jc1_long, jc1_null, jc1_rf, va_rf_some, va_rf_none, mI_cI, mL_cL, mR_cR, cI_cI, cL_cL, jup_eq, jne_1, jne_2, Nat.add_left_cancel_iff, mL_cI, mR_cI, mS_cI, mN_cI, mI_cL, mR_cL, mS_cL, mN_cL, mI_cR, mL_cR, mS_cR, mN_cR, true_and, and_true, true_or, or_true, if_true, if_false, jBool_0, jBool_1, Nat.le_refl, Nat.reduceLeDiff, Nat.reduceEqDiff, Nat.reduceAdd, Nat.reduceSub, reduceIte, Int32.reduceLT, Int32.reduceLE, ne_eq, not_false_eq_true, not_true_eq_false, false_or, or_false, and_false, false_and, reduceCtorEq, jn_4, jn_6, jn_8, jn_9, jn_12, jn_60, jn_100, jn_200, jn_400, jn_600, jn_601, jn_3600, jI_4, jI_6, jI_8, jI_9, jI_12, jI_60, jI_100, jI_200, jI_400, jI_600, jI_601, jI_3600, va_cpy_00, jx_0, jx_6, jx_12, jx_400, jx_600, nI_1, ne_a1, ne_a2, Nat.add_assoc, show jx 3600 = 3600 from rfl, show jx 4800 = 4800 from rfl, show jx 720 = 720 from rfl, show jx 18220 = 18220 from rfl, show jx 18030 = 18030 from rfl, show jx 200 = 200 from rfl, show jx 48 = 48 from rfl, show jx 80 = 80 from rfl, show jx 17 = 17 from rfl, show jx 601 = 601 from rfl, show jx 4 = 4 from rfl, show jx 8 = 8 from rfl, show jx 9 = 9 from rfl, ck8.iff, nk7, Sax8, Rax8, cRv]
    rw [← hk8]
    simp (config := {decide := true, maxSteps := 1000000}) (disch := omega) only [tX11_init_95, tX11_init_96, tX11_init_99, tX11_init_100, tX11_init_103, tX11_init_103q, tX11_init_103n, jK_some, jK_none, jc1_int, jc1_ref, jc1_none, jc1_long, jc1_null, jc1_rf, va_rf_some, va_rf_none, mI_cI, mL_cL, mR_cR, cI_cI, cL_cL, jup_eq, jne_1, jne_2, Nat.add_left_cancel_iff, mL_cI, mR_cI, mS_cI, mN_cI, mI_cL, mR_cL, mS_cL, mN_cL, mI_cR, mL_cR, mS_cR, mN_cR, true_and, and_true, true_or, or_true, if_true, if_false, jBool_0, jBool_1, Nat.le_refl, Nat.reduceLeDiff, Nat.reduceEqDiff, Nat.reduceAdd, Nat.reduceSub, reduceIte, Int32.reduceLT, Int32.reduceLE, ne_eq, not_false_eq_true, not_true_eq_false, false_or, or_false, and_false, false_and, reduceCtorEq, jn_4, jn_6, jn_8, jn_9, jn_12, jn_60, jn_100, jn_200, jn_400, jn_600, jn_601, jn_3600, jI_4, jI_6, jI_8, jI_9, jI_12, jI_60, jI_100, jI_200, jI_400, jI_600, jI_601, jI_3600, va_cpy_00, jx_0, jx_6, jx_12, jx_400, jx_600, nI_1, ne_a1, ne_a2, Nat.add_assoc, show jx 3600 = 3600 from rfl, show jx 4800 = 4800 from rfl, show jx 720 = 720 from rfl, show jx 18220 = 18220 from rfl, show jx 18030 = 18030 from rfl, show jx 200 = 200 from rfl, show jx 48 = 48 from rfl, show jx 80 = 80 from rfl, show jx 17 = 17 from rfl, show jx 601 = 601 from rfl, show jx 4 = 4 from rfl, show jx 8 = 8 from rfl, show jx 9 = 9 from rfl, ck9.iff, nk8, Sax9, Rax9, cRv]
    rw [← hk9]
    simp (config := {decide := true, maxSteps := 1000000}) (disch := omega) only [tX11_init_106, tX11_init_107, tX11_init_108, tX11_init_111, tX11_init_111q, tX11_init_111n, jK_some, jK_none, jc1_int, jc1_ref, jc1_none, jc1_long, jc1_null, jc1_rf, va_rf_some, va_rf_none, mI_cI, mL_cL, mR_cR, cI_cI, cL_cL, jup_eq, jne_1, jne_2, Nat.add_left_cancel_iff, mL_cI, mR_cI, mS_cI, mN_cI, mI_cL, mR_cL, mS_cL, mN_cL, mI_cR, mL_cR, mS_cR, mN_cR, true_and, and_true, true_or, or_true, if_true, if_false, jBool_0, jBool_1, Nat.le_refl, Nat.reduceLeDiff, Nat.reduceEqDiff, Nat.reduceAdd, Nat.reduceSub, reduceIte, Int32.reduceLT, Int32.reduceLE, ne_eq, not_false_eq_true, not_true_eq_false, false_or, or_false, and_false, false_and, reduceCtorEq, jn_4, jn_6, jn_8, jn_9, jn_12, jn_60, jn_100, jn_200, jn_400, jn_600, jn_601, jn_3600, jI_4, jI_6, jI_8, jI_9, jI_12, jI_60, jI_100, jI_200, jI_400, jI_600, jI_601, jI_3600, va_cpy_00, jx_0, jx_6, jx_12, jx_400, jx_600, nI_1, ne_a1, ne_a2, Nat.add_assoc, show jx 3600 = 3600 from rfl, show jx 4800 = 4800 from rfl, show jx 720 = 720 from rfl, show jx 18220 = 18220 from rfl, show jx 18030 = 18030 from rfl, show jx 200 = 200 from rfl, show jx 48 = 48 from rfl, show jx 80 = 80 from rfl, show jx 17 = 17 from rfl, show jx 601 = 601 from rfl, show jx 4 = 4 from rfl, show jx 8 = 8 from rfl, show jx 9 = 9 from rfl, mI_new, mL_new, mR_new, mS_new, mN_new, cIv, cLv, cRv, nk9, Sak9]
    rw [← hk10]
    simp (config := {decide := true, maxSteps := 1000000}) (disch := omega) only [tX11_init_114, tX11_init_115, tX11_init_117, tX11_init_120, tX11_init_120q, tX11_init_120n, jK_some, jK_none, jc1_int, jc1_ref, jc1_none, jc1_long, jc1_null, jc1_rf, va_rf_some, va_rf_none, mI_cI, mL_cL, mR_cR, cI_cI, cL_cL, jup_eq, jne_1, jne_2, Nat.add_left_cancel_iff, mL_cI, mR_cI, mS_cI, mN_cI, mI_cL, mR_cL, mS_cL, mN_cL, mI_cR, mL_cR, mS_cR, mN_cR, true_and, and_true, true_or, or_true, if_true, if_false, jBool_0, jBool_1, Nat.le_refl, Nat.reduceLeDiff, Nat.reduceEqDiff, Nat.reduceAdd, Nat.reduceSub, reduceIte, Int32.reduceLT, Int32.reduceLE, ne_eq, not_false_eq_true, not_true_eq_false, false_or, or_false, and_false, false_and, reduceCtorEq, jn_4, jn_6, jn_8, jn_9, jn_12, jn_60, jn_100, jn_200, jn_400, jn_600, jn_601, jn_3600, jI_4, jI_6, jI_8, jI_9, jI_12, jI_60, jI_100, jI_200, jI_400, jI_600, jI_601, jI_3600, va_cpy_00, jx_0, jx_6, jx_12, jx_400, jx_600, nI_1, ne_a1, ne_a2, Nat.add_assoc, show jx 3600 = 3600 from rfl, show jx 4800 = 4800 from rfl, show jx 720 = 720 from rfl, show jx 18220 = 18220 from rfl, show jx 18030 = 18030 from rfl, show jx 200 = 200 from rfl, show jx 48 = 48 from rfl, show jx 80 = 80 from rfl, show jx 17 = 17 from rfl, show jx 601 = 601 from rfl, show jx 4 = 4 from rfl, show jx 8 = 8 from rfl, show jx 9 = 9 from rfl, mI_new, mL_new, mR_new, mS_new, mN_new, cIv, cLv, cRv, nk10, Sak10]
    rw [← hk11]
    simp (config := {decide := true, maxSteps := 1000000}) (disch := omega) only [tX11_init_123, tX11_init_124, tX11_init_125, jK_some, jK_none, jc1_int, jc1_ref, jc1_none, jc1_long, jc1_null, jc1_rf, va_rf_some, va_rf_none, mI_cI, mL_cL, mR_cR, cI_cI, cL_cL, jup_eq, jne_1, jne_2, Nat.add_left_cancel_iff, mL_cI, mR_cI, mS_cI, mN_cI, mI_cL, mR_cL, mS_cL, mN_cL, mI_cR, mL_cR, mS_cR, mN_cR, true_and, and_true, true_or, or_true, if_true, if_false, jBool_0, jBool_1, Nat.le_refl, Nat.reduceLeDiff, Nat.reduceEqDiff, Nat.reduceAdd, Nat.reduceSub, reduceIte, Int32.reduceLT, Int32.reduceLE, ne_eq, not_false_eq_true, not_true_eq_false, false_or, or_false, and_false, false_and, reduceCtorEq, jn_4, jn_6, jn_8, jn_9, jn_12, jn_60, jn_100, jn_200, jn_400, jn_600, jn_601, jn_3600, jI_4, jI_6, jI_8, jI_9, jI_12, jI_60, jI_100, jI_200, jI_400, jI_600, jI_601, jI_3600, va_cpy_00, jx_0, jx_6, jx_12, jx_400, jx_600, nI_1, ne_a1, ne_a2, Nat.add_assoc, show jx 3600 = 3600 from rfl, show jx 4800 = 4800 from rfl, show jx 720 = 720 from rfl, show jx 18220 = 18220 from rfl, show jx 18030 = 18030 from rfl, show jx 200 = 200 from rfl, show jx 48 = 48 from rfl, show jx 80 = 80 from rfl, show jx 17 = 17 from rfl, show jx 601 = 601 from rfl, show jx 4 = 4 from rfl, show jx 8 = 8 from rfl, show jx 9 = 9 from rfl, Sak11]
    rw [← hk12]
    simp (config := {decide := true, maxSteps := 1000000}) (disch := omega) only [tX11_init_128, tX11_init_129, tX11_init_132, tX11_init_133, tX11_init_136, tX11_init_136q, tX11_init_136n, jK_some, jK_none, jc1_int, jc1_ref, jc1_none, jc1_long, jc1_null, jc1_rf, va_rf_some, va_rf_none, mI_cI, mL_cL, mR_cR, cI_cI, cL_cL, jup_eq, jne_1, jne_2, Nat.add_left_cancel_iff, mL_cI, mR_cI, mS_cI, mN_cI, mI_cL, mR_cL, mS_cL, mN_cL, mI_cR, mL_cR, mS_cR, mN_cR, true_and, and_true, true_or, or_true, if_true, if_false, jBool_0, jBool_1, Nat.le_refl, Nat.reduceLeDiff, Nat.reduceEqDiff, Nat.reduceAdd, Nat.reduceSub, reduceIte, Int32.reduceLT, Int32.reduceLE, ne_eq, not_false_eq_true, not_true_eq_false, false_or, or_false, and_false, false_and, reduceCtorEq, jn_4, jn_6, jn_8, jn_9, jn_12, jn_60, jn_100, jn_200, jn_400, jn_600, jn_601, jn_3600, jI_4, jI_6, jI_8, jI_9, jI_12, jI_60, jI_100, jI_200, jI_400, jI_600, jI_601, jI_3600, va_cpy_00, jx_0, jx_6, jx_12, jx_400, jx_600, nI_1, ne_a1, ne_a2, Nat.add_assoc, show jx 3600 = 3600 from rfl, show jx 4800 = 4800 from rfl, show jx 720 = 720 from rfl, show jx 18220 = 18220 from rfl, show jx 18030 = 18030 from rfl, show jx 200 = 200 from rfl, show jx 48 = 48 from rfl, show jx 80 = 80 from rfl, show jx 17 = 17 from rfl, show jx 601 = 601 from rfl, show jx 4 = 4 from rfl, show jx 8 = 8 from rfl, show jx 9 = 9 from rfl, ck13.iff, nk12, Sax13, Rax13, cRv]
    rw [← hk13]
    simp (config := {decide := true, maxSteps := 1000000}) (disch := omega) only [tX11_init_139, tX11_init_140, tX11_init_143, tX11_init_144, tX11_init_147, tX11_init_147q, tX11_init_147n, jK_some, jK_none, jc1_int, jc1_ref, jc1_none, jc1_long, jc1_null, jc1_rf, va_rf_some, va_rf_none, mI_cI, mL_cL, mR_cR, cI_cI, cL_cL, jup_eq, jne_1, jne_2, Nat.add_left_cancel_iff, mL_cI, mR_cI, mS_cI, mN_cI, mI_cL, mR_cL, mS_cL, mN_cL, mI_cR, mL_cR, mS_cR, mN_cR, true_and, and_true, true_or, or_true, if_true, if_false, jBool_0, jBool_1, Nat.le_refl, Nat.reduceLeDiff, Nat.reduceEqDiff, Nat.reduceAdd, Nat.reduceSub, reduceIte, Int32.reduceLT, Int32.reduceLE, ne_eq, not_false_eq_true, not_true_eq_false, false_or, or_false, and_false, false_and, reduceCtorEq, jn_4, jn_6, jn_8, jn_9, jn_12, jn_60, jn_100, jn_200, jn_400, jn_600, jn_601, jn_3600, jI_4, jI_6, jI_8, jI_9, jI_12, jI_60, jI_100, jI_200, jI_400, jI_600, jI_601, jI_3600, va_cpy_00, jx_0, jx_6, jx_12, jx_400, jx_600, nI_1, ne_a1, ne_a2, Nat.add_assoc, show jx 3600 = 3600 from rfl, show jx 4800 = 4800 from rfl, show jx 720 = 720 from rfl, show jx 18220 = 18220 from rfl, show jx 18030 = 18030 from rfl, show jx 200 = 200 from rfl, show jx 48 = 48 from rfl, show jx 80 = 80 from rfl, show jx 17 = 17 from rfl, show jx 601 = 601 from rfl, show jx 4 = 4 from rfl, show jx 8 = 8 from rfl, show jx 9 = 9 from rfl, ck14.iff, nk13, Sax14, Rax14, cRv]
    rw [← hk14]
    simp (config := {decide := true, maxSteps := 1000000}) (disch := omega) only [tX11_init_150, tX11_init_151, tX11_init_154, tX11_init_156, tX11_init_156q, tX11_init_156n, jK_some, jK_none, jc1_int, jc1_ref, jc1_none, jc1_long, jc1_null, jc1_rf, va_rf_some, va_rf_none, mI_cI, mL_cL, mR_cR, cI_cI, cL_cL, jup_eq, jne_1, jne_2, Nat.add_left_cancel_iff, mL_cI, mR_cI, mS_cI, mN_cI, mI_cL, mR_cL, mS_cL, mN_cL, mI_cR, mL_cR, mS_cR, mN_cR, true_and, and_true, true_or, or_true, if_true, if_false, jBool_0, jBool_1, Nat.le_refl, Nat.reduceLeDiff, Nat.reduceEqDiff, Nat.reduceAdd, Nat.reduceSub, reduceIte, Int32.reduceLT, Int32.reduceLE, ne_eq, not_false_eq_true, not_true_eq_false, false_or, or_false, and_false, false_and, reduceCtorEq, jn_4, jn_6, jn_8, jn_9, jn_12, jn_60, jn_100, jn_200, jn_400, jn_600, jn_601, jn_3600, jI_4, jI_6, jI_8, jI_9, jI_12, jI_60, jI_100, jI_200, jI_400, jI_600, jI_601, jI_3600, va_cpy_00, jx_0, jx_6, jx_12, jx_400, jx_600, nI_1, ne_a1, ne_a2, Nat.add_assoc, show jx 3600 = 3600 from rfl, show jx 4800 = 4800 from rfl, show jx 720 = 720 from rfl, show jx 18220 = 18220 from rfl, show jx 18030 = 18030 from rfl, show jx 200 = 200 from rfl, show jx 48 = 48 from rfl, show jx 80 = 80 from rfl, show jx 17 = 17 from rfl, show jx 601 = 601 from rfl, show jx 4 = 4 from rfl, show jx 8 = 8 from rfl, show jx 9 = 9 from rfl, mI_new, mL_new, mR_new, mS_new, mN_new, cIv, cLv, cRv, nk14, Sak14]
    rw [← hk15]
    simp (config := {decide := true, maxSteps := 1000000}) (disch := omega) only [tX11_init_159, tX11_init_160, tX11_init_163, tX11_init_165, tX11_init_165q, tX11_init_165n, jK_some, jK_none, jc1_int, jc1_ref, jc1_none, jc1_long, jc1_null, jc1_rf, va_rf_some, va_rf_none, mI_cI, mL_cL, mR_cR, cI_cI, cL_cL, jup_eq, jne_1, jne_2, Nat.add_left_cancel_iff, mL_cI, mR_cI, mS_cI, mN_cI, mI_cL, mR_cL, mS_cL, mN_cL, mI_cR, mL_cR, mS_cR, mN_cR, true_and, and_true, true_or, or_true, if_true, if_false, jBool_0, jBool_1, Nat.le_refl, Nat.reduceLeDiff, Nat.reduceEqDiff, Nat.reduceAdd, Nat.reduceSub, reduceIte, Int32.reduceLT, Int32.reduceLE, ne_eq, not_false_eq_true, not_true_eq_false, false_or, or_false, and_false, false_and, reduceCtorEq, jn_4, jn_6, jn_8, jn_9, jn_12, jn_60, jn_100, jn_200, jn_400, jn_600, jn_601, jn_3600, jI_4, jI_6, jI_8, jI_9, jI_12, jI_60, jI_100, jI_200, jI_400, jI_600, jI_601, jI_3600, va_cpy_00, jx_0, jx_6, jx_12, jx_400, jx_600, nI_1, ne_a1, ne_a2, Nat.add_assoc, show jx 3600 = 3600 from rfl, show jx 4800 = 4800 from rfl, show jx 720 = 720 from rfl, show jx 18220 = 18220 from rfl, show jx 18030 = 18030 from rfl, show jx 200 = 200 from rfl, show jx 48 = 48 from rfl, show jx 80 = 80 from rfl, show jx 17 = 17 from rfl, show jx 601 = 601 from rfl, show jx 4 = 4 from rfl, show jx 8 = 8 from rfl, show jx 9 = 9 from rfl, mI_new, mL_new, mR_new, mS_new, mN_new, cIv, cLv, cRv, nk15, Sak15]
    rw [← hk16]
    simp (config := {decide := true, maxSteps := 1000000}) (disch := omega) only [tX11_init_168, tX11_init_169, tX11_init_172, tX11_init_174, tX11_init_174q, tX11_init_174n, jK_some, jK_none, jc1_int, jc1_ref, jc1_none, jc1_long, jc1_null, jc1_rf, va_rf_some, va_rf_none, mI_cI, mL_cL, mR_cR, cI_cI, cL_cL, jup_eq, jne_1, jne_2, Nat.add_left_cancel_iff, mL_cI, mR_cI, mS_cI, mN_cI, mI_cL, mR_cL, mS_cL, mN_cL, mI_cR, mL_cR, mS_cR, mN_cR, true_and, and_true, true_or, or_true, if_true, if_false, jBool_0, jBool_1, Nat.le_refl, Nat.reduceLeDiff, Nat.reduceEqDiff, Nat.reduceAdd, Nat.reduceSub, reduceIte, Int32.reduceLT, Int32.reduceLE, ne_eq, not_false_eq_true, not_true_eq_false, false_or, or_false, and_false, false_and, reduceCtorEq, jn_4, jn_6, jn_8, jn_9, jn_12, jn_60, jn_100, jn_200, jn_400, jn_600, jn_601, jn_3600, jI_4, jI_6, jI_8, jI_9, jI_12, jI_60, jI_100, jI_200, jI_400, jI_600, jI_601, jI_3600, va_cpy_00, jx_0, jx_6, jx_12, jx_400, jx_600, nI_1, ne_a1, ne_a2, Nat.add_assoc, show jx 3600 = 3600 from rfl, show jx 4800 = 4800 from rfl, show jx 720 = 720 from rfl, show jx 18220 = 18220 from rfl, show jx 18030 = 18030 from rfl, show jx 200 = 200 from rfl, show jx 48 = 48 from rfl, show jx 80 = 80 from rfl, show jx 17 = 17 from rfl, show jx 601 = 601 from rfl, show jx 4 = 4 from rfl, show jx 8 = 8 from rfl, show jx 9 = 9 from rfl, mI_new, mL_new, mR_new, mS_new, mN_new, cIv, cLv, cRv, nk16, Sak16]
    rw [← hk17]
    simp (config := {decide := true, maxSteps := 1000000}) (disch := omega) only [tX11_init_177, tX11_init_178, tX11_init_179, jK_some, jK_none, jc1_int, jc1_ref, jc1_none, jc1_long, jc1_null, jc1_rf, va_rf_some, va_rf_none, mI_cI, mL_cL, mR_cR, cI_cI, cL_cL, jup_eq, jne_1, jne_2, Nat.add_left_cancel_iff, mL_cI, mR_cI, mS_cI, mN_cI, mI_cL, mR_cL, mS_cL, mN_cL, mI_cR, mL_cR, mS_cR, mN_cR, true_and, and_true, true_or, or_true, if_true, if_false, jBool_0, jBool_1, Nat.le_refl, Nat.reduceLeDiff, Nat.reduceEqDiff, Nat.reduceAdd, Nat.reduceSub, reduceIte, Int32.reduceLT, Int32.reduceLE, ne_eq, not_false_eq_true, not_true_eq_false, false_or, or_false, and_false, false_and, reduceCtorEq, jn_4, jn_6, jn_8, jn_9, jn_12, jn_60, jn_100, jn_200, jn_400, jn_600, jn_601, jn_3600, jI_4, jI_6, jI_8, jI_9, jI_12, jI_60, jI_100, jI_200, jI_400, jI_600, jI_601, jI_3600, va_cpy_00, jx_0, jx_6, jx_12, jx_400, jx_600, nI_1, ne_a1, ne_a2, Nat.add_assoc, show jx 3600 = 3600 from rfl, show jx 4800 = 4800 from rfl, show jx 720 = 720 from rfl, show jx 18220 = 18220 from rfl, show jx 18030 = 18030 from rfl, show jx 200 = 200 from rfl, show jx 48 = 48 from rfl, show jx 80 = 80 from rfl, show jx 17 = 17 from rfl, show jx 601 = 601 from rfl, show jx 4 = 4 from rfl, show jx 8 = 8 from rfl, show jx 9 = 9 from rfl, Sak17]
    rw [← hk18]
  · omega
  all_goals first | (rw [RA]; simp (config := {decide := true}) only [jup_eq, reduceIte, Nat.reduceEqDiff, ite_self]) | (rw [IA]; simp (config := {decide := true}) only [jup_eq, reduceIte, Nat.reduceEqDiff, ite_self])
end INI4

