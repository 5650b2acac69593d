/-! ===== what is always so of a pot; a minute keeps it ===== -/
def isum (f : Nat → Int) : Nat → Int
  | 0 => 0
  | n + 1 => isum f n + f n
/-- what was left when row r was made; behind the rows: what is left -/
def kLA (P : Pt) (n r : Nat) : Int := if r < n then (qR P (6 * r + 4)).toInt else (qS P 9).toInt
def GRw (P : Pt) (n r : Nat) : Prop := (1 ≤ kLA P n r ∧ 0 ≤ (qR P (6 * r + 3)).toInt ∧ (qR P (6 * r + 3)).toInt ≤ kLA P n r ∧ kLA P n (r + 1) = kLA P n r - (qR P (6 * r + 3)).toInt) ∧ (0 ≤ (qR P (6 * r)).toInt ∧ (qR P (6 * r)).toInt ≤ 9999) ∧ (0 ≤ (qR P (6 * r + 1)).toInt ∧ (qR P (6 * r + 1)).toInt ≤ 999) ∧ (0 ≤ (qR P (6 * r + 2)).toInt ∧ (qR P (6 * r + 2)).toInt ≤ 99) ∧ (qR P (6 * r + 5) = 0 ∨ qR P (6 * r + 5) = 1)
def GSt (P : Pt) (n k : Nat) : Prop := (0 ≤ (qU P k).toInt ∧ (qU P k).toInt ≤ 999999999) ∧ (0 ≤ (qH P k).toInt ∧ (qH P k).toInt ≤ 2000) ∧ 0 ≤ (qM P k).toInt ∧ (∀ r, r < n → 0 ≤ (qB P (6 * r + k)).toInt) ∧ (qM P k).toInt + isum (fun r => (qB P (6 * r + k)).toInt) n ≤ 999999999 + 9999 * (qS P 14).toInt
def GS1 (P : Pt) : Prop := (1 ≤ (qS P 3).toInt ∧ (qS P 3).toInt ≤ 99999) ∧ (1 ≤ (qS P 4).toInt ∧ (qS P 4).toInt ≤ 9999) ∧ (0 ≤ (qS P 5).toInt ∧ (qS P 5).toInt ≤ 999) ∧ (1 ≤ (qS P 6).toInt ∧ (qS P 6).toInt ≤ 9999) ∧ (qS P 7).toInt ≤ 900 ∧ (0 ≤ (qS P 8).toInt ∧ (qS P 8).toInt ≤ 999)
def GS2 (P : Pt) : Prop := (0 ≤ (qS P 10).toInt ∧ (qS P 10).toInt ≤ 9999) ∧ (0 ≤ (qS P 11).toInt ∧ (qS P 11).toInt ≤ 999) ∧ (0 ≤ (qS P 12).toInt ∧ (qS P 12).toInt ≤ 99) ∧ (0 ≤ (qS P 14).toInt ∧ (qS P 14).toInt ≤ 900) ∧ 0 ≤ (qS P 16).toInt
def GP1 (nf nm n : Nat) (P : Pt) : Prop := (∃ f, f < nf ∧ qS P 1 = nI f) ∧ (∃ g, g < nm ∧ qS P 2 = nI g) ∧ GS1 P ∧ GS2 P ∧ (qS P 0 = 1 → n < 600 ∧ 1 ≤ (qS P 9).toInt ∧ (qS P 14).toInt < (qS P 7).toInt) ∧ kLA P n 0 = (qS P 3).toInt ∧ (∀ r, r < n → GRw P n r) ∧ ∀ k, k < 6 → GSt P n k
def GP (nf nm n : Nat) (P : Pt) : Prop := qS P 15 = nI n ∧ n ≤ 600 ∧ ((qS P 0 = 0 ∧ n = 0 ∧ (∀ i, i < 17 → qS P i = 0) ∧ ∀ k, k < 6 → qM P k = 0) ∨ (qS P 0 ≠ 0 ∧ GP1 nf nm n P))
theorem isum_congr {f g : Nat → Int} : ∀ n, (∀ r, r < n → f r = g r) → isum f n = isum g n
  | 0, _ => rfl
  | n + 1, h => by
    show isum f n + f n = isum g n + g n
    rw [isum_congr n (fun r hr => h r (by omega)), h n (by omega)]
theorem isum_nonneg {f : Nat → Int} : ∀ n, (∀ r, r < n → 0 ≤ f r) → 0 ≤ isum f n
  | 0, _ => Int.le_refl _
  | n + 1, h => by
    have h1 := isum_nonneg n (fun r hr => h r (by omega))
    have h2 := h n (by omega)
    show 0 ≤ isum f n + f n
    omega
theorem kHeld_in {v lo hi : Int64} (h : lo.toInt ≤ hi.toInt) : lo.toInt ≤ (kHeld v lo hi).toInt ∧ (kHeld v lo hi).toInt ≤ hi.toInt := by
  unfold kHeld
  by_cases h1 : v < lo
  · rw [if_pos h1]; omega
  · rw [if_neg h1]
    rw [Int64.lt_iff_toInt_lt] at h1
    by_cases h2 : hi < v
    · rw [if_pos h2]; omega
    · rw [if_neg h2]
      rw [Int64.lt_iff_toInt_lt] at h2
      omega
theorem t32_in {x : Int64} (h1 : -2147483648 ≤ x.toInt) (h2 : x.toInt < 2147483648) : x.toInt32.toInt = x.toInt := by
  rw [Int64.toInt_toInt32]
  exact Int.bmod_eq_of_le (by omega) (by omega)
theorem t32_64 {x : Int64} (h1 : -2147483648 ≤ x.toInt) (h2 : x.toInt < 2147483648) : x.toInt32.toInt64 = x := by
  apply Int64.toInt_inj.mp
  rw [Int32.toInt_toInt64, t32_in h1 h2]
theorem t64_i (x : Int32) : x.toInt64.toInt = x.toInt := Int32.toInt_toInt64 x
theorem i32_r (x : Int32) : -2147483648 ≤ x.toInt ∧ x.toInt < 2147483648 := ⟨Int32.le_toInt x, Int32.toInt_lt x⟩
theorem i64_lN {x : Int64} (h : 0 ≤ x.toInt) : x = lN x.toInt.toNat := by
  obtain ⟨k, hk, e⟩ := pk_lOf (x := x) (by rw [Int64.lt_iff_toInt_lt]; show ¬ x.toInt < 0; omega)
  have : x.toInt = (k : Int) := by rw [e, pk_lT hk]
  rw [this]; exact e
theorem kMind_in {o : Option Int64} {was : Int32} {most : Int64} (h0 : 0 ≤ most.toInt) (h1 : most.toInt < 2147483648) (h2 : 0 ≤ was.toInt ∧ was.toInt ≤ most.toInt) : 0 ≤ (kMind o was most).toInt ∧ (kMind o was most).toInt ≤ most.toInt := by
  cases o with
  | none => exact h2
  | some v =>
    have h := kHeld_in (v := v) (lo := 0) (hi := most) h0
    have e0 : (0 : Int64).toInt = 0 := by decide
    show 0 ≤ (kHeld v 0 most).toInt32.toInt ∧ (kHeld v 0 most).toInt32.toInt ≤ most.toInt
    rw [t32_in (by omega) (by omega)]
    omega
section KPURE
variable {Kf Km : KLaw} {P : Pt} {n nf nm : Nat}
theorem kPull_in (h : GS2 P) : 0 ≤ (kPull Kf Km P).toInt ∧ (kPull Kf Km P).toInt ≤ 99 := kMind_in (most := 99) (by decide) (by decide) ⟨h.2.2.1.1, h.2.2.1.2⟩
theorem kHeat_in (h : GS2 P) : 0 ≤ (kHeat Kf Km P).toInt ∧ (kHeat Kf Km P).toInt ≤ 999 := kMind_in (most := 999) (by decide) (by decide) ⟨h.2.1.1, h.2.1.2⟩
theorem kWide_in : 0 ≤ (kWide Kf Km P).toInt ∧ (kWide Kf Km P).toInt ≤ 9999 := by
  unfold kWide
  generalize (qS P 10).toInt64 + kMore (kFirst (kW2 Kf Km P) Kf 0) + jSwirl (kSd P) (kLw Kf) = v
  have h := kHeld_in (v := v) (lo := 0) (hi := 9999) (by decide)
  have e0 : (0 : Int64).toInt = 0 := by decide
  have e1 : (9999 : Int64).toInt = 9999 := by decide
  rw [t32_in (by omega) (by omega)]
  omega
theorem kSd_in (h : 0 ≤ (qS P 16).toInt) : 0 ≤ (kSd P).toInt ∧ (kSd P).toInt < 2147483648 := by
  unfold kSd jSeed
  have hr := i32_r (qS P 16)
  have e : (qS P 16).toInt64 = lN (qS P 16).toInt.toNat := by
    have := i64_lN (x := (qS P 16).toInt64) (by rw [t64_i]; exact h)
    rw [t64_i] at this; exact this
  generalize hs : (qS P 16).toInt.toNat = s at e
  have hs2 : s < 2147483648 := by omega
  rw [e, show (1103515245 : Int64) = lN 1103515245 from rfl, show (12345 : Int64) = lN 12345 from rfl, show (2147483648 : Int64) = lN 2147483648 from rfl, lN_mul, lN_add, pk_lRem (by omega) (by decide) (by decide), pk_lT (by omega)]
  omega
theorem kGrown_in (h : 0 ≤ (qS P 9).toInt) : 0 ≤ (kGrown Kf Km P).toInt ∧ (kGrown Kf Km P).toInt ≤ (qS P 9).toInt := by
  unfold kGrown
  generalize (kPull Kf Km P).toInt64 * (kWide Kf Km P).toInt64 * (kWide Kf Km P).toInt64 / 100000 = v
  have h := kHeld_in (v := v) (lo := 0) (hi := (qS P 9).toInt64) (by rw [t64_i]; exact h)
  rw [t64_i] at h
  exact h
theorem kGoes_in {M g L sh : Int64} (hM : 0 ≤ M.toInt ∧ M.toInt ≤ 3000000000) (hg : 0 ≤ g.toInt ∧ g.toInt ≤ L.toInt) (hL : 1 ≤ L.toInt ∧ L.toInt ≤ 99999) (hs : 0 ≤ sh.toInt ∧ sh.toInt ≤ 2000) : 0 ≤ (kGoes M g L sh).toInt ∧ (kGoes M g L sh).toInt ≤ M.toInt := by
  have eM := i64_lN hM.1
  have eg := i64_lN hg.1
  have eL := i64_lN (x := L) (by omega)
  have es := i64_lN hs.1
  generalize hM' : M.toInt.toNat = M' at eM
  generalize hg' : g.toInt.toNat = g' at eg
  generalize hL' : L.toInt.toNat = L' at eL
  generalize hs' : sh.toInt.toNat = s' at es
  have b1 : M' * g' ≤ M' * L' := Nat.mul_le_mul_left _ (by omega)
  have b1' : M' * L' ≤ 3000000000 * 99999 := Nat.mul_le_mul (by omega) (by omega)
  have b2 : M' * g' / L' ≤ M' := Nat.div_le_of_le_mul (by rw [Nat.mul_comm L' M']; exact b1)
  have b3 : M' * g' / L' * s' ≤ 3000000000 * 2000 := Nat.mul_le_mul (by omega) (by omega)
  have ev : M * g / L * sh / 1000 = lN (M' * g' / L' * s' / 1000) := by
    rw [eM, eg, eL, es, lN_mul, pk_lDiv (by omega) (by omega) (by omega), lN_mul, show (1000 : Int64) = lN 1000 from rfl, pk_lDiv (by omega) (by decide) (by decide)]
  unfold kGoes
  rw [ev]
  by_cases h : M < lN (M' * g' / L' * s' / 1000)
  · rw [if_pos h]; omega
  · rw [if_neg h]
    rw [Int64.lt_iff_toInt_lt, pk_lT (by omega)] at h
    rw [pk_lT (by omega)]
    omega
theorem kStuff_for {g L : Int64} {sh : Nat → Int32} {i : Nat} : ∀ (q k0 : Nat) (s : (Nat → Int64) × (Nat → Int64)), (∀ k, (jfor (kStuff g L sh i) k0 q s).1 k = if k0 ≤ k ∧ k < k0 + q then s.1 k - kGoes (s.1 k) g L (sh k).toInt64 else s.1 k) ∧ (∀ k, (jfor (kStuff g L sh i) k0 q s).2 (6 * i + k) = if k0 ≤ k ∧ k < k0 + q then kGoes (s.1 k) g L (sh k).toInt64 else s.2 (6 * i + k)) ∧ ∀ j, j < 6 * i + k0 ∨ 6 * i + k0 + q ≤ j → (jfor (kStuff g L sh i) k0 q s).2 j = s.2 j
  | 0, k0, s => ⟨fun k => by rw [if_neg (by omega)]; rfl, fun k => by rw [if_neg (by omega)]; rfl, fun j _ => rfl⟩
  | q + 1, k0, s => by
    obtain ⟨h1, h2, h3⟩ := kStuff_for (g := g) (L := L) (sh := sh) (i := i) q (k0 + 1) (kStuff g L sh i k0 s)
    refine ⟨fun k => ?_, fun k => ?_, fun j hj => ?_⟩
    · show (jfor (kStuff g L sh i) (k0 + 1) q (kStuff g L sh i k0 s)).1 k = _
      rw [h1]
      unfold kStuff
      simp only [jup_eq]
      by_cases e : k = k0
      · subst e; rw [if_neg (by omega), if_pos rfl, if_pos (by omega)]
      · by_cases hk : k0 + 1 ≤ k ∧ k < k0 + 1 + q
        · rw [if_pos hk, if_neg e, if_pos (by omega)]
        · rw [if_neg hk, if_neg e, if_neg (by omega)]
    · show (jfor (kStuff g L sh i) (k0 + 1) q (kStuff g L sh i k0 s)).2 (6 * i + k) = _
      rw [h2]
      unfold kStuff
      simp only [jup_eq, Nat.add_left_cancel_iff]
      by_cases e : k = k0
      · subst e; rw [if_neg (by omega), if_pos rfl, if_pos (by omega)]
      · by_cases hk : k0 + 1 ≤ k ∧ k < k0 + 1 + q
        · rw [if_pos hk, if_neg e, if_pos (by omega)]
        · rw [if_neg hk, if_neg e, if_neg (by omega)]
    · show (jfor (kStuff g L sh i) (k0 + 1) q (kStuff g L sh i k0 s)).2 j = _
      rw [h3 j (by omega)]
      unfold kStuff
      simp only [jup_eq]
      rw [if_neg (by omega)]
theorem i32_sub {x y : Int32} (h1 : -2147483648 ≤ x.toInt - y.toInt) (h2 : x.toInt - y.toInt < 2147483648) : (x - y).toInt = x.toInt - y.toInt := by
  rw [Int32.toInt_sub]; exact Int.bmod_eq_of_le (by omega) (by omega)
theorem i32_add {x y : Int32} (h1 : -2147483648 ≤ x.toInt + y.toInt) (h2 : x.toInt + y.toInt < 2147483648) : (x + y).toInt = x.toInt + y.toInt := by
  rw [Int32.toInt_add]; exact Int.bmod_eq_of_le (by omega) (by omega)
theorem i64_sub {x y : Int64} (h1 : -9223372036854775808 ≤ x.toInt - y.toInt) (h2 : x.toInt - y.toInt < 9223372036854775808) : (x - y).toInt = x.toInt - y.toInt := by
  rw [Int64.toInt_sub]; exact Int.bmod_eq_of_le (by omega) (by omega)
theorem i64_add {x y : Int64} (h1 : -9223372036854775808 ≤ x.toInt + y.toInt) (h2 : x.toInt + y.toInt < 9223372036854775808) : (x + y).toInt = x.toInt + y.toInt := by
  rw [Int64.toInt_add]; exact Int.bmod_eq_of_le (by omega) (by omega)
end KPURE
section KPURE2
variable {P : Pt} {n nf nm : Nat} {pl ht wd gv : Int32} {G sd : Int64}
theorem kMinG_S {i : Nat} : qS (kMinG pl ht wd G sd gv P) i = if i = 0 then kHow (kNumG pl ht wd G sd P) else if i = 15 then qS P 15 + 1 else if i = 14 then qS P 14 + 1 else if i = 13 then qS P 13 + pl else if i = 9 then qS P 9 - G.toInt32 else if i = 11 then ht else if i = 12 then pl else if i = 10 then wd else if i = 16 then sd.toInt32 else qS P i := rfl
theorem kRowG_old {i j : Nat} (h : j < 6 * i) : kRowG pl ht wd G P i j = qR P j := by
  unfold kRowG
  simp only [jup_eq]
  rw [if_neg (by omega), if_neg (by omega), if_neg (by omega), if_neg (by omega), if_neg (by omega), if_neg (by omega)]
theorem kRowG_new {i : Nat} : kRowG pl ht wd G P i (6 * i) = wd ∧ kRowG pl ht wd G P i (6 * i + 1) = ht ∧ kRowG pl ht wd G P i (6 * i + 2) = pl ∧ kRowG pl ht wd G P i (6 * i + 3) = G.toInt32 ∧ kRowG pl ht wd G P i (6 * i + 4) = qS P 9 ∧ kRowG pl ht wd G P i (6 * i + 5) = 0 := by
  unfold kRowG
  refine ⟨?_, ?_, ?_, ?_, ?_, ?_⟩ <;> simp [jup_eq]
theorem kHow_ne {S : Nat → Int32} : kHow S ≠ 0 := by
  unfold kHow
  split
  · decide
  · split
    · decide
    · split
      · decide
      · split <;> decide
theorem kMinG_GP (hg : 0 ≤ gv.toInt ∧ gv.toInt ≤ 9999) (hpl : 0 ≤ pl.toInt ∧ pl.toInt ≤ 99) (hht : 0 ≤ ht.toInt ∧ ht.toInt ≤ 999) (hwd : 0 ≤ wd.toInt ∧ wd.toInt ≤ 9999) (hsd : 0 ≤ sd.toInt ∧ sd.toInt < 2147483648) (hgr : 0 ≤ G.toInt ∧ G.toInt ≤ (qS P 9).toInt)
    (hn : qS P 15 = nI n) (h : GP1 nf nm n P) (h1 : qS P 0 = 1) : GP1 nf nm (n + 1) (kMinG pl ht wd G sd gv P) ∧ qS (kMinG pl ht wd G sd gv P) 15 = nI (n + 1) ∧ qS (kMinG pl ht wd G sd gv P) 0 ≠ 0 := by
  obtain ⟨g1, g2, g3, g4, g5, g6, g7, g8⟩ := h
  obtain ⟨g50, g51, g52⟩ := g5 h1
  have hL : (qS P 9).toInt ≤ (qS P 3).toInt := by
    have : ∀ r, r ≤ n → kLA P n r ≤ (qS P 3).toInt := by
      intro r
      induction r with
      | zero => intro _; omega
      | succ r ih => intro hr; have := (g7 r (by omega)).1; have := ih (by omega); omega
    have := this n (Nat.le_refl _)
    unfold kLA at this
    rw [if_neg (Nat.lt_irrefl _)] at this
    exact this
  have hr9 := i32_r (qS P 9)
  have eg := t32_in (x := G) (by omega) (by omega)
  have es := t32_in (x := sd) (by omega) (by omega)
  have e9 : (qS P 9 - G.toInt32).toInt = (qS P 9).toInt - G.toInt := by
    rw [i32_sub (by omega) (by omega), eg]
  have ej : jx (qS P 15) = n := by rw [hn, jx_nI (by omega)]
  generalize hP' : kMinG pl ht wd G sd gv P = P'
  have hS : ∀ i, qS P' i = if i = 0 then kHow (kNumG pl ht wd G sd P) else if i = 15 then qS P 15 + 1 else if i = 14 then qS P 14 + 1 else if i = 13 then qS P 13 + pl else if i = 9 then qS P 9 - G.toInt32 else if i = 11 then ht else if i = 12 then pl else if i = 10 then wd else if i = 16 then sd.toInt32 else qS P i := fun i => by rw [← hP']; exact kMinG_S
  have hR : qR P' = kRowG pl ht wd G P n := by rw [← hP']; show kRowG pl ht wd G P (jx (qS P 15)) = _; rw [ej]
  have hM : qM P' = (kStuffsG G gv P n).1 := by rw [← hP']; show (kStuffsG G gv P (jx (qS P 15))).1 = _; rw [ej]
  have hB : qB P' = (kStuffsG G gv P n).2 := by rw [← hP']; show (kStuffsG G gv P (jx (qS P 15))).2 = _; rw [ej]
  have hU : qU P' = qU P := by rw [← hP']; rfl
  have hH : qH P' = qH P := by rw [← hP']; rfl
  clear hP'
  have s0 : qS P' 0 = kHow (kNumG pl ht wd G sd P) := hS 0
  have s9 : (qS P' 9).toInt = (qS P 9).toInt - G.toInt := by rw [← e9]; exact congrArg Int32.toInt (hS 9)
  have e1 : (1 : Int32).toInt = 1 := by decide
  have g44 := g4.2.2.2.1
  have s14 : (qS P' 14).toInt = (qS P 14).toInt + 1 := by
    rw [hS 14]
    show (qS P 14 + 1).toInt = _
    rw [i32_add (by omega) (by omega), e1]
  have s15 : qS P' 15 = nI (n + 1) := by
    rw [hS 15]
    show qS P 15 + 1 = _
    rw [hn, nI_1]
  have hS1 : ∀ i, i < 9 → 0 < i → qS P' i = qS P i := by
    intro i hi h0
    rw [hS i, if_neg (by omega), if_neg (by omega), if_neg (by omega), if_neg (by omega), if_neg (by omega), if_neg (by omega), if_neg (by omega), if_neg (by omega), if_neg (by omega)]
  have hlife := g3.2.2.2.2.1
  have hg3 := g3.1
  have hla : ∀ r, r ≤ n → kLA P' (n + 1) r = kLA P n r := by
    intro r hr
    unfold kLA
    rw [if_pos (by omega), hR]
    by_cases e : r < n
    · rw [if_pos e, kRowG_old (by omega)]
    · have : r = n := by omega
      subst this
      rw [if_neg e, kRowG_new.2.2.2.2.1]
  have hla1 : kLA P' (n + 1) (n + 1) = (qS P 9).toInt - G.toInt := by
    unfold kLA
    rw [if_neg (by omega)]
    exact s9
  refine ⟨⟨by rw [hS1 1 (by decide) (by decide)]; exact g1, by rw [hS1 2 (by decide) (by decide)]; exact g2, ?_, ?_, ?_, ?_, ?_, ?_⟩, s15, by rw [s0]; exact kHow_ne⟩
  · unfold GS1 at g3 ⊢
    rw [hS1 3 (by decide) (by decide), hS1 4 (by decide) (by decide), hS1 5 (by decide) (by decide), hS1 6 (by decide) (by decide), hS1 7 (by decide) (by decide), hS1 8 (by decide) (by decide)]
    exact g3
  · unfold GS2
    rw [s14, show qS P' 10 = wd from hS 10, show qS P' 11 = ht from hS 11, show qS P' 12 = pl from hS 12, show qS P' 16 = sd.toInt32 from hS 16, es]
    exact ⟨hwd, hht, hpl, by omega, hsd.1⟩
  · intro e0
    rw [s0] at e0
    unfold kHow at e0
    split at e0
    · exact absurd e0 (by decide)
    · next n9 =>
      split at e0
      · exact absurd e0 (by decide)
      · split at e0
        · exact absurd e0 (by decide)
        · next n15 =>
          split at e0
          · exact absurd e0 (by decide)
          · next n14 =>
            have n9 : ¬ qS P 9 - G.toInt32 = 0 := n9
            have n15 : ¬ qS P 15 + 1 = 600 := n15
            have n14 : ¬ qS P 7 ≤ qS P 14 + 1 := n14
            rw [hS1 7 (by decide) (by decide), s14, s9]
            refine ⟨?_, ?_, ?_⟩
            · have : n + 1 ≠ 600 := fun e => n15 (by rw [hn, nI_1, e]; rfl)
              omega
            · have : (qS P 9 - G.toInt32).toInt ≠ 0 := fun e => n9 (Int32.toInt_inj.mp (by rw [e]; rfl))
              omega
            · rw [Int32.le_iff_toInt_le, i32_add (by omega) (by omega), e1] at n14
              omega
  · rw [hla 0 (by omega), hS1 3 (by decide) (by decide)]; exact g6
  · intro r hr
    by_cases e : r < n
    · have := g7 r e
      unfold GRw at this ⊢
      rw [hla r (by omega), hla (r + 1) (by omega), hR, kRowG_old (by omega), kRowG_old (by omega), kRowG_old (by omega), kRowG_old (by omega), kRowG_old (by omega)]
      exact this
    · have : r = n := by omega
      subst this
      unfold GRw
      rw [hla r (by omega), hla1, hR]
      obtain ⟨r1, r2, r3, r4, r5, r6⟩ := kRowG_new (pl := pl) (ht := ht) (wd := wd) (G := G) (P := P) (i := r)
      rw [r1, r2, r3, r4, r6, eg]
      have : kLA P r r = (qS P 9).toInt := by unfold kLA; rw [if_neg (Nat.lt_irrefl _)]
      rw [this]
      exact ⟨⟨by omega, by omega, by omega, rfl⟩, hwd, hht, hpl, Or.inl rfl⟩
  · intro k hk
    obtain ⟨u1, u2, u3, u4, u5⟩ := g8 k hk
    have hsum := isum_nonneg n u4
    have hgt := t64_i gv
    obtain ⟨M', hM', b1, b2⟩ : ∃ M', (jup (qM P) 5 (qM P 5 + gv.toInt64)) k = M' ∧ (qM P k).toInt ≤ M'.toInt ∧ M'.toInt ≤ (qM P k).toInt + 9999 := by
      refine ⟨_, rfl, ?_⟩
      rw [jup_eq]
      by_cases e : k = 5
      · subst e
        rw [if_pos rfl, i64_add (by omega) (by omega), hgt]
        omega
      · rw [if_neg e]; omega
    have e9' := t64_i (qS P 9)
    have eH' := t64_i (qH P k)
    have hgo := kGoes_in (M := M') (g := G) (L := (qS P 9).toInt64) (sh := (qH P k).toInt64) ⟨by omega, by omega⟩ (by rw [e9']; exact hgr) (by rw [e9']; omega) (by rw [eH']; exact u2)
    obtain ⟨f1, f2, f3⟩ := kStuff_for (g := G) (L := (qS P 9).toInt64) (sh := qH P) (i := n) 6 0 (jup (qM P) 5 (qM P 5 + gv.toInt64), qB P)
    have hqM : qM P' k = M' - kGoes M' G (qS P 9).toInt64 (qH P k).toInt64 := by
      rw [hM]
      unfold kStuffsG
      rw [f1, if_pos (by omega)]; simp only [hM']
    have hqB1 : qB P' (6 * n + k) = kGoes M' G (qS P 9).toInt64 (qH P k).toInt64 := by
      rw [hB]
      unfold kStuffsG
      rw [f2, if_pos (by omega)]; simp only [hM']
    have hqB0 : ∀ r, r < n → qB P' (6 * r + k) = qB P (6 * r + k) := by
      intro r hr
      rw [hB]
      unfold kStuffsG
      rw [f3 _ (by omega)]
    generalize kGoes M' G (qS P 9).toInt64 (qH P k).toInt64 = v at *
    unfold GSt
    rw [hU, hH, s14, hqM, i64_sub (by omega) (by omega)]
    refine ⟨u1, u2, by omega, ?_, ?_⟩
    · intro r hr
      by_cases e : r < n
      · rw [hqB0 r e]; exact u4 r e
      · have : r = n := by omega
        subst this
        rw [hqB1]; exact hgo.1
    · have es : isum (fun r => (qB P' (6 * r + k)).toInt) (n + 1) = isum (fun r => (qB P (6 * r + k)).toInt) n + v.toInt := by
        show isum (fun r => (qB P' (6 * r + k)).toInt) n + (qB P' (6 * n + k)).toInt = _
        rw [hqB1, isum_congr n (fun r hr => by rw [hqB0 r hr])]
      rw [es]
      omega
end KPURE2
theorem kMin_GP {Kf Km : KLaw} {P : Pt} {n nf nm : Nat} (kf : KOk Kf) (hn : qS P 15 = nI n) (h : GP1 nf nm n P) (h1 : qS P 0 = 1) : GP1 nf nm (n + 1) (kMin Kf Km P) ∧ qS (kMin Kf Km P) 15 = nI (n + 1) ∧ qS (kMin Kf Km P) 0 ≠ 0 := by
  have hg := kf.2.2.2.2.2
  have hg0 : (0 : Int32).toInt = 0 := by decide
  have hg9 : (9999 : Int32).toInt = 9999 := by decide
  rw [Int32.le_iff_toInt_le, Int32.le_iff_toInt_le, hg0, hg9] at hg
  exact kMinG_GP hg (kPull_in h.2.2.2.1) (kHeat_in h.2.2.2.1) kWide_in (kSd_in h.2.2.2.1.2.2.2.2) (kGrown_in (Int.le_trans (by decide) (h.2.2.2.2.1 h1).2.1)) hn h h1
