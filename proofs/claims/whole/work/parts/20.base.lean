/-! ===== the pure part: reading and writing the abstract memory ===== -/
section MEM
variable {m : jmM} {a b : Nat}
theorem mI_cI {f : Nat → Int32} : mI (cI m a f) b = if b = a then f else mI m b := rfl
theorem mI_same {f : Nat → Int32} : mI (cI m a f) a = f := if_pos rfl
theorem mI_ne {f : Nat → Int32} (h : b ≠ a) : mI (cI m a f) b = mI m b := if_neg h
theorem mL_cI {f : Nat → Int32} : mL (cI m a f) = mL m := rfl
theorem mR_cI {f : Nat → Int32} : mR (cI m a f) = mR m := rfl
theorem mS_cI {f : Nat → Int32} : mS (cI m a f) = mS m := rfl
theorem mN_cI {f : Nat → Int32} : mN (cI m a f) = mN m := rfl
theorem mZ_cI {f : Nat → Int32} : mZ (cI m a f) = mZ m := rfl
theorem mL_cL {f : Nat → Int64} : mL (cL m a f) b = if b = a then f else mL m b := rfl
theorem mL_same {f : Nat → Int64} : mL (cL m a f) a = f := if_pos rfl
theorem mL_ne {f : Nat → Int64} (h : b ≠ a) : mL (cL m a f) b = mL m b := if_neg h
theorem mI_cL {f : Nat → Int64} : mI (cL m a f) = mI m := rfl
theorem mR_cL {f : Nat → Int64} : mR (cL m a f) = mR m := rfl
theorem mS_cL {f : Nat → Int64} : mS (cL m a f) = mS m := rfl
theorem mN_cL {f : Nat → Int64} : mN (cL m a f) = mN m := rfl
theorem mZ_cL {f : Nat → Int64} : mZ (cL m a f) = mZ m := rfl
theorem mR_cR {f : Nat → Option Nat} : mR (cR m a f) b = if b = a then f else mR m b := rfl
theorem mR_same {f : Nat → Option Nat} : mR (cR m a f) a = f := if_pos rfl
theorem mR_ne {f : Nat → Option Nat} (h : b ≠ a) : mR (cR m a f) b = mR m b := if_neg h
theorem mI_cR {f : Nat → Option Nat} : mI (cR m a f) = mI m := rfl
theorem mL_cR {f : Nat → Option Nat} : mL (cR m a f) = mL m := rfl
theorem mS_cR {f : Nat → Option Nat} : mS (cR m a f) = mS m := rfl
theorem mN_cR {f : Nat → Option Nat} : mN (cR m a f) = mN m := rfl
theorem mZ_cR {f : Nat → Option Nat} : mZ (cR m a f) = mZ m := rfl
theorem cI_cI {f g : Nat → Int32} : cI (cI m a f) a g = cI m a g := by
  unfold cI
  congr 1
  funext k
  show (if k = a then g else if k = a then f else m.1 k) = if k = a then g else m.1 k
  split <;> simp_all
theorem cL_cL {f g : Nat → Int64} : cL (cL m a f) a g = cL m a g := by
  unfold cL
  congr 2
  funext k
  show (if k = a then g else if k = a then f else m.2.1 k) = if k = a then g else m.2.1 k
  split <;> simp_all
theorem jup_same {α : Type} {f : Nat → α} {i : Nat} {v : α} : jup f i v i = v := if_pos rfl
theorem jup_ne {α : Type} {f : Nat → α} {i k : Nat} {v : α} (h : k ≠ i) : jup f i v k = f k := if_neg h
theorem jup_eq {α : Type} {f : Nat → α} {i k : Nat} {v : α} : jup f i v k = if k = i then v else f k := rfl
theorem jne_1 {a k : Nat} : (a = a + (k + 1)) ↔ False := ⟨fun h => by omega, fun h => h.elim⟩
theorem jne_2 {a k : Nat} : (a + (k + 1) = a) ↔ False := ⟨fun h => by omega, fun h => h.elim⟩
theorem jBool_0 : jBool 0 = True := eq_true (Or.inl rfl)
theorem jBool_1 : jBool 1 = True := eq_true (Or.inr rfl)
end MEM
theorem jx_nI {n : Nat} (h : n < 2 ^ 31) : jx (nI n) = n := nI_clamp h
theorem jIx_nI {n k : Nat} (h : n < 2 ^ 31) : jIx (nI n) k ↔ n < k := by
  unfold jIx; rw [nI_toInt h]; omega
theorem jIx_iff {i : Int32} {k : Nat} (hk : k < 2 ^ 31) : jIx i k ↔ 0 ≤ i ∧ i < nI k := by
  unfold jIx
  rw [Int32.le_iff_toInt_le, Int32.lt_iff_toInt_lt, nI_toInt hk, Int32.toInt_zero]
theorem jn_4 : nI 4 = 4 := rfl
theorem jI_4 {i : Int32} : jIx i 4 ↔ 0 ≤ i ∧ i < 4 := jIx_iff (by decide)
theorem jn_6 : nI 6 = 6 := rfl
theorem jI_6 {i : Int32} : jIx i 6 ↔ 0 ≤ i ∧ i < 6 := jIx_iff (by decide)
theorem jn_8 : nI 8 = 8 := rfl
theorem jI_8 {i : Int32} : jIx i 8 ↔ 0 ≤ i ∧ i < 8 := jIx_iff (by decide)
theorem jn_9 : nI 9 = 9 := rfl
theorem jI_9 {i : Int32} : jIx i 9 ↔ 0 ≤ i ∧ i < 9 := jIx_iff (by decide)
theorem jn_12 : nI 12 = 12 := rfl
theorem jI_12 {i : Int32} : jIx i 12 ↔ 0 ≤ i ∧ i < 12 := jIx_iff (by decide)
theorem jn_60 : nI 60 = 60 := rfl
theorem jI_60 {i : Int32} : jIx i 60 ↔ 0 ≤ i ∧ i < 60 := jIx_iff (by decide)
theorem jn_100 : nI 100 = 100 := rfl
theorem jI_100 {i : Int32} : jIx i 100 ↔ 0 ≤ i ∧ i < 100 := jIx_iff (by decide)
theorem jn_200 : nI 200 = 200 := rfl
theorem jI_200 {i : Int32} : jIx i 200 ↔ 0 ≤ i ∧ i < 200 := jIx_iff (by decide)
theorem jn_400 : nI 400 = 400 := rfl
theorem jI_400 {i : Int32} : jIx i 400 ↔ 0 ≤ i ∧ i < 400 := jIx_iff (by decide)
theorem jn_600 : nI 600 = 600 := rfl
theorem jI_600 {i : Int32} : jIx i 600 ↔ 0 ≤ i ∧ i < 600 := jIx_iff (by decide)
theorem jn_601 : nI 601 = 601 := rfl
theorem jI_601 {i : Int32} : jIx i 601 ↔ 0 ≤ i ∧ i < 601 := jIx_iff (by decide)
theorem jn_3600 : nI 3600 = 3600 := rfl
theorem jI_3600 {i : Int32} : jIx i 3600 ↔ 0 ≤ i ∧ i < 3600 := jIx_iff (by decide)
theorem jx_nI2 (n : Nat) (h : n < 2147483648) : jx (nI n) = n := nI_clamp h
/-- both branches come to the same continuation -/
theorem ite_Q {α : Type} {c : Prop} {hc : Decidable c} {Q : α → jmM → Prop} {x y : α} {m : jmM} : (if c then Q x m else Q y m) ↔ Q (if c then x else y) m := by
  split <;> exact Iff.rfl
theorem ite_some {α : Type} {c : Prop} {hc : Decidable c} {x y : α} : (if c then some x else some y) = some (if c then x else y) := by
  split <;> rfl
theorem ite_int {c : Prop} {hc : Decidable c} {x y : Int32} : (if c then Value.int x else Value.int y) = Value.int (if c then x else y) := by
  split <;> rfl
theorem ite_long {c : Prop} {hc : Decidable c} {x y : Int64} : (if c then Value.long x else Value.long y) = Value.long (if c then x else y) := by
  split <;> rfl
theorem ite_and2 {c e : Prop} {hc : Decidable c} {he : Decidable e} {x y : Prop} : (if c then x else if e then x else y) ↔ if c ∨ e then x else y := by
  by_cases h : c <;> by_cases h2 : e <;> simp [h, h2]
theorem ite_guard {c g : Prop} {hc : Decidable c} {x y : Prop} (h : ¬ c → g) : (if c then x else g ∧ y) ↔ if c then x else y := by
  by_cases hc : c
  · rw [if_pos hc, if_pos hc]
  · rw [if_neg hc, if_neg hc]; exact ⟨fun h => h.2, fun h2 => ⟨h hc, h2⟩⟩
theorem jx_0 : jx 0 = 0 := by decide
theorem jx_6 : jx 6 = 6 := by decide
theorem jx_12 : jx 12 = 12 := by decide
theorem jx_400 : jx 400 = 400 := by decide
theorem jx_600 : jx 600 = 600 := by decide
/-- a copy of the first n -/
def jcp {α : Type} (n : Nat) (f g : Nat → α) : Nat → α := fun k => if k < n then f k else g k
theorem va_cpy_00 {α : Type} {n : Nat} {f g : Nat → α} : va_cpy f g 0 0 n = jcp n f g := by
  funext k
  unfold va_cpy jcp
  by_cases h : k < n
  · rw [if_pos ⟨Nat.zero_le _, by omega⟩, if_pos h, Nat.zero_add, Nat.sub_zero]
  · rw [if_neg (by omega), if_neg h]
theorem nI_pred_lt {e r : Nat} (he : e < 2 ^ 31) (hr : r < 2 ^ 31) : (nI e - 1 < nI r) ↔ e ≤ r := by
  cases e with
  | zero =>
    refine ⟨fun _ => Nat.zero_le _, fun _ => ?_⟩
    rw [Int32.lt_iff_toInt_lt, nI_toInt hr, show (nI 0 - 1).toInt = -1 from by decide]
    omega
  | succ e =>
    rw [nI_pred, nI_ltI (by omega) hr]; omega
def jenc (o : Option Nat) : Int32 := match o with
  | none => -1
  | some k => nI k
theorem jenc_none {o : Option Nat} (h : ∀ k, o = some k → k < 2 ^ 31) : (jenc o = -1) ↔ o = none := by
  cases o with
  | none => exact ⟨fun _ => rfl, fun _ => rfl⟩
  | some k =>
    refine ⟨fun e => ?_, fun e => by cases e⟩
    have h1 : (nI k).toInt = (-1 : Int32).toInt := congrArg Int32.toInt e
    rw [nI_toInt (h k rfl), show ((-1 : Int32).toInt) = -1 from by decide] at h1
    omega
theorem nI_eqI {a b : Nat} (ha : a < 2 ^ 31) (hb : b < 2 ^ 31) : (nI a = nI b) ↔ a = b := nI_eq ha hb
/-! ===== indices that are naturals ===== -/
theorem nx_pos {n : Nat} (h : n < 2147483648) : (0 ≤ nI n) = True := eq_true (nI_pos' h)
theorem nx_posN {n : Nat} (h : n < 2147483648) : (nI n < 0) = False := eq_false (nI_pos h)
theorem nx_neg1 {n : Nat} (h : n < 2147483648) : (nI n = -1) = False := eq_false (fun e => by
  have h1 : (nI n).toInt = (-1 : Int32).toInt := congrArg Int32.toInt e
  rw [nI_toInt h, show ((-1 : Int32).toInt) = -1 from by decide] at h1
  omega)
theorem nx_m1neg : ((0 : Int32) ≤ -1) = False := by decide
theorem nx_leF {a b : Nat} (h : b < a) (hb : a < 2147483648) : (nI a ≤ nI b) = False := eq_false (by rw [nI_leI hb (by omega)]; omega)
theorem nx_leT {a b : Nat} (h : a ≤ b) (hb : b < 2147483648) : (nI a ≤ nI b) = True := eq_true (by rw [nI_leI (by omega) hb]; omega)
theorem nx_ltF {a b : Nat} (h : b ≤ a) (hb : a < 2147483648) : (nI a < nI b) = False := eq_false (by rw [nI_ltI hb (by omega)]; omega)
theorem nx_ltT {a b : Nat} (h : a < b) (hb : b < 2147483648) : (nI a < nI b) = True := eq_true (by rw [nI_ltI (by omega) hb]; omega)
theorem nx_0 : nI 0 = 0 := rfl
theorem nx_mul (a b : Nat) : nI a * nI b = nI (a * b) := (Int32.ofNat_mul a b).symm
theorem nx_mul6 (a : Nat) : nI a * 6 = nI (a * 6) := nx_mul a 6
theorem nx_1 {n : Nat} (h : n < 1) : (nI n < 1) = True := eq_true (nI_lt (b := 1) h (by decide))
theorem nx_2 {n : Nat} (h : n < 2) : (nI n < 2) = True := eq_true (nI_lt (b := 2) h (by decide))
theorem nx_3 {n : Nat} (h : n < 3) : (nI n < 3) = True := eq_true (nI_lt (b := 3) h (by decide))
theorem nx_4 {n : Nat} (h : n < 4) : (nI n < 4) = True := eq_true (nI_lt (b := 4) h (by decide))
theorem nx_5 {n : Nat} (h : n < 5) : (nI n < 5) = True := eq_true (nI_lt (b := 5) h (by decide))
theorem nx_6 {n : Nat} (h : n < 6) : (nI n < 6) = True := eq_true (nI_lt (b := 6) h (by decide))
theorem nx_8 {n : Nat} (h : n < 8) : (nI n < 8) = True := eq_true (nI_lt (b := 8) h (by decide))
theorem nx_9 {n : Nat} (h : n < 9) : (nI n < 9) = True := eq_true (nI_lt (b := 9) h (by decide))
theorem nx_12 {n : Nat} (h : n < 12) : (nI n < 12) = True := eq_true (nI_lt (b := 12) h (by decide))
theorem nx_14 {n : Nat} (h : n < 14) : (nI n < 14) = True := eq_true (nI_lt (b := 14) h (by decide))
theorem nx_60 {n : Nat} (h : n < 60) : (nI n < 60) = True := eq_true (nI_lt (b := 60) h (by decide))
theorem nx_100 {n : Nat} (h : n < 100) : (nI n < 100) = True := eq_true (nI_lt (b := 100) h (by decide))
theorem nx_200 {n : Nat} (h : n < 200) : (nI n < 200) = True := eq_true (nI_lt (b := 200) h (by decide))
theorem nx_400 {n : Nat} (h : n < 400) : (nI n < 400) = True := eq_true (nI_lt (b := 400) h (by decide))
theorem nx_600 {n : Nat} (h : n < 600) : (nI n < 600) = True := eq_true (nI_lt (b := 600) h (by decide))
theorem nx_601 {n : Nat} (h : n < 601) : (nI n < 601) = True := eq_true (nI_lt (b := 601) h (by decide))
theorem nx_3600 {n : Nat} (h : n < 3600) : (nI n < 3600) = True := eq_true (nI_lt (b := 3600) h (by decide))
theorem jenc_some {k : Nat} : jenc (some k) = nI k := rfl
theorem jenc_non : jenc none = -1 := rfl
theorem nx_5e {k : Nat} (h : k < 2147483648) : (nI k = 5) = (k = 5) := propext (nI_eq (b := 5) h (by decide))
theorem cL_eta {m : jmM} {a : Nat} : cL m a (mL m a) = m := by
  have : (fun k => if k = a then mL m a else mL m k) = mL m := by
    funext k; split
    · next h => rw [h]
    · rfl
  show (_, _, _) = m
  exact Prod.ext rfl (Prod.ext this rfl)
theorem cI_eta {m : jmM} {a : Nat} : cI m a (mI m a) = m := by
  have : (fun k => if k = a then mI m a else mI m k) = mI m := by
    funext k; split
    · next h => rw [h]
    · rfl
  exact Prod.ext this rfl
theorem nx_g4 {n : Nat} (h : n < 4) : (4 ≤ nI n) = False := eq_false (Int32.not_le.mpr (nI_lt (b := 4) h (by decide)))
theorem nx_g5 {n : Nat} (h : n < 5) : (5 ≤ nI n) = False := eq_false (Int32.not_le.mpr (nI_lt (b := 5) h (by decide)))
theorem nx_g6 {n : Nat} (h : n < 6) : (6 ≤ nI n) = False := eq_false (Int32.not_le.mpr (nI_lt (b := 6) h (by decide)))
theorem nx_g8 {n : Nat} (h : n < 8) : (8 ≤ nI n) = False := eq_false (Int32.not_le.mpr (nI_lt (b := 8) h (by decide)))
theorem nx_g9 {n : Nat} (h : n < 9) : (9 ≤ nI n) = False := eq_false (Int32.not_le.mpr (nI_lt (b := 9) h (by decide)))
theorem nx_g12 {n : Nat} (h : n < 12) : (12 ≤ nI n) = False := eq_false (Int32.not_le.mpr (nI_lt (b := 12) h (by decide)))
theorem nx_g14 {n : Nat} (h : n < 14) : (14 ≤ nI n) = False := eq_false (Int32.not_le.mpr (nI_lt (b := 14) h (by decide)))
theorem nx_g60 {n : Nat} (h : n < 60) : (60 ≤ nI n) = False := eq_false (Int32.not_le.mpr (nI_lt (b := 60) h (by decide)))
theorem nx_g100 {n : Nat} (h : n < 100) : (100 ≤ nI n) = False := eq_false (Int32.not_le.mpr (nI_lt (b := 100) h (by decide)))
theorem nx_g200 {n : Nat} (h : n < 200) : (200 ≤ nI n) = False := eq_false (Int32.not_le.mpr (nI_lt (b := 200) h (by decide)))
theorem nx_g400 {n : Nat} (h : n < 400) : (400 ≤ nI n) = False := eq_false (Int32.not_le.mpr (nI_lt (b := 400) h (by decide)))
theorem nx_g600 {n : Nat} (h : n < 600) : (600 ≤ nI n) = False := eq_false (Int32.not_le.mpr (nI_lt (b := 600) h (by decide)))
theorem nx_g601 {n : Nat} (h : n < 601) : (601 ≤ nI n) = False := eq_false (Int32.not_le.mpr (nI_lt (b := 601) h (by decide)))
theorem nx_g3600 {n : Nat} (h : n < 3600) : (3600 ≤ nI n) = False := eq_false (Int32.not_le.mpr (nI_lt (b := 3600) h (by decide)))
theorem cL_sw {m : jmM} {A B : Nat} {f g f' : Nat → Int64} (h : A ≠ B) : cL (cL (cL m A f) B g) A f' = cL (cL m A f') B g := by
  refine Prod.ext rfl (Prod.ext ?_ rfl)
  funext k
  show (if k = A then f' else if k = B then g else if k = A then f else mL m k) = (if k = B then g else if k = A then f' else mL m k)
  by_cases h1 : k = A
  · subst h1; rw [if_pos rfl, if_neg h, if_pos rfl]
  · rw [if_neg h1, if_neg h1, if_neg h1]
theorem cI_sw {m : jmM} {A B : Nat} {f g f' : Nat → Int32} (h : A ≠ B) : cI (cI (cI m A f) B g) A f' = cI (cI m A f') B g := by
  refine Prod.ext ?_ rfl
  funext k
  show (if k = A then f' else if k = B then g else if k = A then f else mI m k) = (if k = B then g else if k = A then f' else mI m k)
  by_cases h1 : k = A
  · subst h1; rw [if_pos rfl, if_neg h, if_pos rfl]
  · rw [if_neg h1, if_neg h1, if_neg h1]
theorem cIL {m : jmM} {A B : Nat} {f : Nat → Int32} {g : Nat → Int64} : cI (cL m B g) A f = cL (cI m A f) B g := rfl
theorem jup_jup {α : Type} {f : Nat → α} {i : Nat} {v w : α} : jup (jup f i v) i w = jup f i w := by
  funext k; simp only [jup_eq]; split <;> rfl
theorem cR_cR {m : jmM} {a : Nat} {f g : Nat → Option Nat} : cR (cR m a f) a g = cR m a g := by
  refine Prod.ext rfl (Prod.ext rfl (Prod.ext ?_ rfl))
  funext k
  show (if k = a then g else if k = a then f else mR m k) = if k = a then g else mR m k
  split <;> rfl
theorem nx_S0 {n : Nat} (h : n + 1 < 2147483648) : (nI (n + 1) = 0) = False := eq_false (nI_ne0 (by omega) h)
theorem nat_S0 {n : Nat} : (n + 1 = 0) = False := eq_false (Nat.succ_ne_zero n)
theorem ite_swap {a b : Int32} {x y : Prop} : (if a < b then x else y) = if b ≤ a then y else x := by
  by_cases h : a < b
  · rw [if_pos h, if_neg (Int32.not_le.mpr h)]
  · rw [if_neg h, if_pos (Int32.not_lt.mp h)]
theorem nx_l6 {n : Nat} (h : n ≤ 6) : (6 < nI n) = False := eq_false (Int32.not_lt.mpr (nI_le (b := 6) h (by decide)))
theorem nx_l12 {n : Nat} (h : n ≤ 12) : (12 < nI n) = False := eq_false (Int32.not_lt.mpr (nI_le (b := 12) h (by decide)))
theorem nx_l100 {n : Nat} (h : n ≤ 100) : (100 < nI n) = False := eq_false (Int32.not_lt.mpr (nI_le (b := 100) h (by decide)))
theorem nx_l200 {n : Nat} (h : n ≤ 200) : (200 < nI n) = False := eq_false (Int32.not_lt.mpr (nI_le (b := 200) h (by decide)))
theorem nx_l400 {n : Nat} (h : n ≤ 400) : (400 < nI n) = False := eq_false (Int32.not_lt.mpr (nI_le (b := 400) h (by decide)))
theorem nx_l600 {n : Nat} (h : n ≤ 600) : (600 < nI n) = False := eq_false (Int32.not_lt.mpr (nI_le (b := 600) h (by decide)))
theorem nx_l601 {n : Nat} (h : n ≤ 601) : (601 < nI n) = False := eq_false (Int32.not_lt.mpr (nI_le (b := 601) h (by decide)))
theorem nx_l3600 {n : Nat} (h : n ≤ 3600) : (3600 < nI n) = False := eq_false (Int32.not_lt.mpr (nI_le (b := 3600) h (by decide)))
theorem cIR {m : jmM} {A B : Nat} {f : Nat → Int32} {g : Nat → Option Nat} : cI (cR m B g) A f = cR (cI m A f) B g := rfl
theorem cLR {m : jmM} {A B : Nat} {f : Nat → Int64} {g : Nat → Option Nat} : cL (cR m B g) A f = cR (cL m A f) B g := rfl
theorem nx_P {n : Nat} (h : n + 1 < 2147483648) : (0 < nI (n + 1)) = True := eq_true (nI_lt (a := 0) (by omega) h)
theorem jup_eta {α : Type} {f : Nat → α} {i : Nat} : jup f i (f i) = f := by
  funext k; rw [jup_eq]; split
  · next e => rw [e]
  · rfl
theorem t64_0 {x : Int32} : (x.toInt64 = 0) ↔ x = 0 := ⟨fun e => Int32.toInt_inj.mp (by have h := congrArg Int64.toInt e; rw [Int32.toInt_toInt64] at h; exact h), fun e => by rw [e]; rfl⟩
