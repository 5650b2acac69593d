/-! ===== the minute, purely; X's minute does it ===== -/
/-- a pot in the reference's layout: 17 numbers, rows (6 each), what went into them, melt, put, share -/
abbrev Pt : Type := (Nat → Int32) × (Nat → Int32) × (Nat → Int64) × (Nat → Int64) × (Nat → Int32) × (Nat → Int32)
abbrev qS (P : Pt) : Nat → Int32 := P.1
abbrev qR (P : Pt) : Nat → Int32 := P.2.1
abbrev qB (P : Pt) : Nat → Int64 := P.2.2.1
abbrev qM (P : Pt) : Nat → Int64 := P.2.2.2.1
abbrev qU (P : Pt) : Nat → Int32 := P.2.2.2.2.1
abbrev qH (P : Pt) : Nat → Int32 := P.2.2.2.2.2
def kHeld (v low high : Int64) : Int64 := if v < low then low else if high < v then high else v
def kSeen (P : Pt) (x : Int32) : Int32 := if x < 0 then qS P 6 else qR P (6 * jx x)
def kWd (lt : Int32) (P : Pt) (k : Nat) : Int64 := if k = 0 then (qS P 15).toInt64 else if k = 1 then (kSeen P (qS P 15 - 1 - lt)).toInt64 else if k = 2 then (kSeen P (qS P 15 - 2 - lt)).toInt64 else if k = 3 then (qS P 4).toInt64 else if k = 4 then (qS P 11).toInt64 else if k = 5 then (qS P 12).toInt64 else if k = 6 then 1000 * (qS P 9).toInt64 / (qS P 3).toInt64 else if k = 7 then (qS P 13).toInt64 else (qS P 10).toInt64
def kMind (o : Option Int64) (was : Int32) (most : Int64) : Int32 := match o with
  | none => was
  | some v => (kHeld v 0 most).toInt32
def kMore (o : Option Int64) : Int64 := match o with
  | none => 0
  | some v => kHeld v (-9999) 9999
def kPull (Kf Km : KLaw) (P : Pt) : Int32 := kMind (kFirst (kWd (kLl Kf) P) Km 1) (qS P 12) 99
def kHeat (Kf Km : KLaw) (P : Pt) : Int32 := kMind (kFirst (kWd (kLl Kf) P) Km 2) (qS P 11) 999
def kW2 (Kf Km : KLaw) (P : Pt) : Nat → Int64 := jup (jup (kWd (kLl Kf) P) 4 (kHeat Kf Km P).toInt64) 5 (kPull Kf Km P).toInt64
def kSd (P : Pt) : Int64 := jSeed (qS P 16).toInt64
def kWide (Kf Km : KLaw) (P : Pt) : Int32 := (kHeld ((qS P 10).toInt64 + kMore (kFirst (kW2 Kf Km P) Kf 0) + jSwirl (kSd P) (kLw Kf)) 0 9999).toInt32
def kGrown (Kf Km : KLaw) (P : Pt) : Int64 := kHeld ((kPull Kf Km P).toInt64 * (kWide Kf Km P).toInt64 * (kWide Kf Km P).toInt64 / 100000) 0 (qS P 9).toInt64
def kGoes (M g L sh : Int64) : Int64 := if M < M * g / L * sh / 1000 then M else M * g / L * sh / 1000
def kStuff (g L : Int64) (sh : Nat → Int32) (i k : Nat) (s : (Nat → Int64) × (Nat → Int64)) : (Nat → Int64) × (Nat → Int64) := (jup s.1 k (s.1 k - kGoes (s.1 k) g L (sh k).toInt64), jup s.2 (6 * i + k) (kGoes (s.1 k) g L (sh k).toInt64))
def kHow (S : Nat → Int32) : Int32 := if S 9 = 0 then 2 else if S 10 = 0 then 3 else if S 15 = 600 then 4 else if S 7 ≤ S 14 then 5 else 1
/-- the pot behind a minute in which pull, heat, WIDE became these, so much grew, the seed is so, gives is so -/
def kNumG (pl ht wd : Int32) (G sd : Int64) (P : Pt) : Nat → Int32 := jup (jup (jup (jup (jup (jup (jup (jup (qS P) 16 sd.toInt32) 10 wd) 12 pl) 11 ht) 9 (qS P 9 - G.toInt32)) 13 (qS P 13 + pl)) 14 (qS P 14 + 1)) 15 (qS P 15 + 1)
def kRowG (pl ht wd : Int32) (G : Int64) (P : Pt) (i : Nat) : Nat → Int32 := jup (jup (jup (jup (jup (jup (qR P) (6 * i) wd) (6 * i + 1) ht) (6 * i + 2) pl) (6 * i + 3) G.toInt32) (6 * i + 4) (qS P 9)) (6 * i + 5) 0
def kStuffsG (G : Int64) (gv : Int32) (P : Pt) (i : Nat) : (Nat → Int64) × (Nat → Int64) := jfor (kStuff G (qS P 9).toInt64 (qH P) i) 0 6 (jup (qM P) 5 (qM P 5 + gv.toInt64), qB P)
def kMinG (pl ht wd : Int32) (G sd : Int64) (gv : Int32) (P : Pt) : Pt := (jup (kNumG pl ht wd G sd P) 0 (kHow (kNumG pl ht wd G sd P)), kRowG pl ht wd G P (jx (qS P 15)), (kStuffsG G gv P (jx (qS P 15))).2, (kStuffsG G gv P (jx (qS P 15))).1, qU P, qH P)
def kMin (Kf Km : KLaw) (P : Pt) : Pt := kMinG (kPull Kf Km P) (kHeat Kf Km P) (kWide Kf Km P) (kGrown Kf Km P) (kSd P) (kLg Kf) P
theorem cI_comm {m : jmM} {A B : Nat} {f g : Nat → Int32} (h : A ≠ B) : cI (cI m A f) B g = cI (cI m B g) A f := by
  refine Prod.ext ?_ rfl
  funext k
  show (if k = B then g else if k = A then f else mI m k) = (if k = A then f else if k = B then g else mI m k)
  by_cases h1 : k = A
  · subst h1; rw [if_neg h, if_pos rfl, if_pos rfl]
  · rw [if_neg h1, if_neg h1]
theorem cL_comm {m : jmM} {A B : Nat} {f g : Nat → Int64} (h : A ≠ B) : cL (cL m A f) B g = cL (cL m B g) A f := by
  refine Prod.ext rfl (Prod.ext ?_ rfl)
  funext k
  show (if k = B then g else if k = A then f else mL m k) = (if k = A then f else if k = B then g else mL m k)
  by_cases h1 : k = A
  · subst h1; rw [if_neg h, if_pos rfl, if_pos rfl]
  · rw [if_neg h1, if_neg h1]
theorem jDk_cI {m : jmM} {a e : Nat} {F : Nat → Int32} {s : (Nat → Int64) × Nat} (h : a ≠ e) : cI (jDk m e s) a F = jDk (cI m a F) e s := by
  unfold jDk
  rw [cIL, mI_ne (m := m) (a := a) (Ne.symm h), cI_comm (Ne.symm h)]
theorem jDk_cL {m : jmM} {b e : Nat} {F : Nat → Int64} {s : (Nat → Int64) × Nat} (h : b ≠ e + 2) : cL (jDk m e s) b F = jDk (cL m b F) e s := by
  unfold jDk
  rw [mI_cL, cL_comm (Ne.symm h), ← cIL]
/-- where the laws lie -/
abbrev fad (x : Int32) : Nat := 12 + 6 * jx x
abbrev mad (x : Int32) : Nat := 38 + 6 * jx x
def XPs (m : jmM) (a : Nat) (P : Pt) : Prop := (mI m a 3 = qS P 0 ∧ mI m a 5 = qS P 9 ∧ mI m a 6 = qS P 10 ∧ mI m a 7 = qS P 11 ∧ mI m a 8 = qS P 12 ∧ mI m a 9 = qS P 13 ∧ mI m a 10 = qS P 14 ∧ mI m a 11 = qS P 15) ∧ mL m a 4 = (qS P 16).toInt64 ∧
  (mI m (a + 1) 0 = qS P 3 ∧ mI m (a + 1) 1 = qS P 4 ∧ mI m (a + 1) 2 = qS P 5 ∧ mI m (a + 1) 3 = qS P 6 ∧ mI m (a + 1) 4 = qS P 7 ∧ mI m (a + 1) 5 = qS P 8) ∧
  (qS P 0 ≠ 0 → mR m a 1 = some (fad (qS P 1)) ∧ mR m a 2 = some (mad (qS P 2)))
def XPr (m : jmM) (a : Nat) (P : Pt) : Prop := (∀ k, k < 6 → mI m (a + 2) k = qU P k ∧ mI m (a + 3) k = qH P k ∧ mL m (a + 10) k = qM P k) ∧
  ∀ r, r < jx (qS P 15) → (mI m (a + 4) r = qR P (6 * r) ∧ mI m (a + 5) r = qR P (6 * r + 1) ∧ mI m (a + 6) r = qR P (6 * r + 2) ∧ mI m (a + 7) r = qR P (6 * r + 3) ∧ mI m (a + 8) r = qR P (6 * r + 5)) ∧ ∀ k, k < 6 → mL m (a + 9) (6 * r + k) = qB P (6 * r + k)
/-- X's pot at a is P -/
def XPot (m : jmM) (a : Nat) (P : Pt) : Prop := PotL (mS m) (mR m) a ∧ XPs m a P ∧ XPr m a P
/-- nothing but the pot a and the desk e changed -/
def XFr (m m' : jmM) (a e : Nat) : Prop := mS m' = mS m ∧ mR m' = mR m ∧ mN m' = mN m ∧ mZ m' = mZ m ∧ (∀ b, b ≠ a → (b < a + 4 ∨ a + 8 < b) → b ≠ e → mI m' b = mI m b) ∧ (∀ b, b ≠ a → b ≠ a + 9 → b ≠ a + 10 → b ≠ e + 1 → b ≠ e + 2 → mL m' b = mL m b) ∧ ∃ t, mI m' e 2 = nI t
theorem CE_ex {d j : Nat} {as : List Value} {m : jmM} {v : Option Value} {R : jmM → Prop} (h : ∀ Q : Option Value → jmM → Prop, (∀ m2, R m2 → Q v m2) → CC d j as m Q) : ∃ m', CE d j as m v m' ∧ R m' := by
  obtain ⟨v1, m1, ⟨h1, h2⟩, h3⟩ := CC_det d _ _ _ _ (h (fun v' m2 => v' = v ∧ R m2) (fun m2 hm => ⟨rfl, hm⟩))
  exact ⟨m1, h1 ▸ h3, h2⟩
