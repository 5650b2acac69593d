/-! ===== X's rows in the words of P ===== -/
theorem jfind_congr {c c' : Nat → Bool} : ∀ k i, (∀ r, i ≤ r → r < i + k → c r = c' r) → jfind c i k = jfind c' i k
  | 0, _, _ => rfl
  | k + 1, i, h => by
    show (if c i then i else jfind c (i + 1) k) = (if c' i then i else jfind c' (i + 1) k)
    rw [h i (Nat.le_refl _) (by omega), jfind_congr k (i + 1) (fun r h1 h2 => h r (by omega) (by omega))]
theorem jbrk_congr {σ : Type} {c : Nat → σ → Bool} {f f' : Nat → σ → σ} : ∀ k i s, (∀ r s, i ≤ r → r < i + k → f r s = f' r s) → jbrk c f i k s = jbrk c f' i k s
  | 0, _, _, _ => rfl
  | k + 1, i, s, h => by
    show (if c i s then (i, s) else jbrk c f (i + 1) k (f i s)) = (if c i s then (i, s) else jbrk c f' (i + 1) k (f' i s))
    rw [h i s (Nat.le_refl _) (by omega), jbrk_congr k (i + 1) _ (fun r s h1 h2 => h r s (by omega) (by omega))]
theorem jfor_congr2 {σ : Type} {f f' : Nat → σ → σ} : ∀ k i s, (∀ r s, i ≤ r → r < i + k → f r s = f' r s) → jfor f i k s = jfor f' i k s
  | 0, _, _, _ => rfl
  | k + 1, i, s, h => by
    show jfor f (i + 1) k (f i s) = jfor f' (i + 1) k (f' i s)
    rw [h i s (Nat.le_refl _) (by omega), jfor_congr2 k (i + 1) _ (fun r s h1 h2 => h r s (by omega) (by omega))]
theorem jbrk_pre {σ : Type} {c : Nat → σ → Bool} {f : Nat → σ → σ} : ∀ k n i s, k < n → ((jbrk c f i n s).1 ≤ i + k ↔ c (jbrk c f i k s).1 (jbrk c f i k s).2 = true)
  | 0, n + 1, i, s, _ => by
    show (if c i s then (i, s) else jbrk c f (i + 1) n (f i s)).1 ≤ i + 0 ↔ c i s = true
    cases hc : c i s
    · rw [if_neg (by simp)]
      have := (jbrk_le (c := c) (f := f) n (i + 1) (f i s)).1
      simp; omega
    · rw [if_pos rfl]; simp
  | k + 1, n + 1, i, s, h => by
    show (if c i s then (i, s) else jbrk c f (i + 1) n (f i s)).1 ≤ i + (k + 1) ↔ c (if c i s then (i, s) else jbrk c f (i + 1) k (f i s)).1 (if c i s then (i, s) else jbrk c f (i + 1) k (f i s)).2 = true
    cases hc : c i s
    · rw [if_neg (by simp), if_neg (by simp), show i + (k + 1) = i + 1 + k by omega]
      exact jbrk_pre k n (i + 1) (f i s) (by omega)
    · rw [if_pos rfl, if_pos rfl]
      simp [hc]
/-- the first row with a fault; the first clean row -/
def kFf (P : Pt) (n : Nat) : Nat := jfind (fun r => qR P (6 * r + 5) != 0) 0 n
def kCl (P : Pt) (thin : Int32) (n : Nat) : Nat := (jbrk (fun _ f => decide (f ≤ 0)) (fun r f => f - kNk P thin r) 0 n (qS P 8)).1
theorem kCl_iff {P : Pt} {thin : Int32} {n k : Nat} (h : k < n) : kCl P thin n ≤ k ↔ kFlw P thin k ≤ 0 := by
  have := jbrk_pre (c := fun _ (f : Int32) => decide (f ≤ 0)) (f := fun r f => f - kNk P thin r) k n 0 (qS P 8) h
  rw [Nat.zero_add] at this
  unfold kCl kFlw
  rw [this]
  simp only [decide_eq_true_eq]
theorem k_bdy {w want thin : Int32} (hw : 0 ≤ w.toInt ∧ w.toInt ≤ 9999) (hn : 0 ≤ want.toInt ∧ want.toInt ≤ 9999) : (decide (thin < w) && decide (jabsI (w - want) ≤ want / 10)) = (decide (thin < w) && decide (-(want / 10) ≤ w - want) && decide (w - want ≤ want / 10)) := by
  have e1 : (w - want).toInt = w.toInt - want.toInt := i32_sub (by omega) (by omega)
  have e10 : (10 : Int32).toInt = 10 := by decide
  have e0 : (0 : Int32).toInt = 0 := by decide
  obtain ⟨k, hk, ek⟩ : ∃ k, k < 10000 ∧ want = nI k := by
    rcases pk_ix want (n := 10000) (by omega) with q | q | q
    · rw [Int32.lt_iff_toInt_lt] at q; omega
    · rw [Int32.le_iff_toInt_le, nI_toInt (by omega)] at q; omega
    · exact q
  have e2 : (want / 10).toInt = ((k / 10 : Nat) : Int) := by
    rw [ek, show (10 : Int32) = nI 10 from rfl, pk_div (by omega) (by omega) (by omega), nI_toInt (by omega)]
  have e3 : (-(want / 10)).toInt = -((k / 10 : Nat) : Int) := by
    rw [Int32.toInt_neg, e2]; exact Int.bmod_eq_of_le (by omega) (by omega)
  generalize want / 10 = t at *
  generalize w - want = dd at *
  unfold jabsI
  rw [Bool.and_assoc]
  congr 1
  by_cases h : 0 ≤ dd
  · rw [if_pos h]
    rw [Int32.le_iff_toInt_le] at h
    have : decide (-t ≤ dd) = true := by rw [decide_eq_true_eq, Int32.le_iff_toInt_le]; omega
    rw [this, Bool.true_and]
  · rw [if_neg h]
    rw [Int32.le_iff_toInt_le] at h
    have e5 : (0 - dd).toInt = -dd.toInt := by rw [i32_sub (by omega) (by omega)]; omega
    have : decide (dd ≤ t) = true := by rw [decide_eq_true_eq, Int32.le_iff_toInt_le]; omega
    rw [this, Bool.and_true]
    congr 1
    apply propext
    rw [Int32.le_iff_toInt_le, Int32.le_iff_toInt_le, e5, e3, e2]
    omega
section XROW
variable {d a nf nm : Nat} {x y z u v w : Int32} {X Y Z V : Int64} {m : jmM} {n i : Nat} {P : Pt} {Q : Option Value → jmM → Prop}
theorem GP_row (h : GP nf nm n P) (hi : i < n) : GRw P n i ∧ GS1 P ∧ GP1 nf nm n P := by
  obtain ⟨-, -, h | ⟨-, h⟩⟩ := h
  · omega
  · exact ⟨h.2.2.2.2.2.2.1 i hi, h.2.2.1, h⟩
theorem XPot.row (hX : XPot m a P) (hG : GP nf nm n P) (hi : i < n) : (mI m (a + 4) i = qR P (6 * i) ∧ mI m (a + 5) i = qR P (6 * i + 1) ∧ mI m (a + 6) i = qR P (6 * i + 2) ∧ mI m (a + 7) i = qR P (6 * i + 3) ∧ mI m (a + 8) i = qR P (6 * i + 5)) ∧ ∀ k, k < 6 → mL m (a + 9) (6 * i + k) = qB P (6 * i + k) := by
  have := hX.2.2.2 i
  rw [hG.1, jx_nI (by have := hG.2.1; omega)] at this
  exact this hi
theorem x_n (hX : XPot m a P) (hG : GP nf nm n P) : mI m a 11 = nI n := hX.2.1.1.2.2.2.2.2.2.2.trans hG.1
theorem x_firstFaulted (hX : XPot m a P) (hG : GP nf nm n P) : CC (d + 1) 62 [.ref a] m Q ↔ Q (some (.int (nI (kFf P n)))) m := by
  rw [c_Pot_firstFaulted hX.1 (x_n hX hG) hG.2.1]
  unfold kFf
  rw [jfind_congr n 0 (fun r h1 h2 => by rw [(hX.row hG (show r < n by omega)).1.2.2.2.2])]
theorem x_firstClean (hX : XPot m a P) (hG : GP nf nm n P) : CC (d + 2) 63 [.ref a, .int x] m Q ↔ Q (some (.int (nI (kCl P x n)))) m := by
  rw [c_Pot_firstClean hX.1 (x_n hX hG) hG.2.1]
  unfold kCl jclean
  rw [hX.2.1.2.2.1.2.2.2.2.2, jbrk_congr (f' := fun r f => f - kNk P x r) n 0 _ (fun r s h1 h2 => by
    obtain ⟨⟨r1, -, r3, -⟩, -⟩ := hX.row hG (show r < n by omega)
    unfold jneck kNk
    rw [r1, r3])]
theorem x_kindOf (hX : XPot m a P) (hG : GP nf nm n P) (hi : i < n) : CC (d + 4) 67 [.ref a, .int (nI i), .int x] m Q ↔ Q (some (.int (if qR P (6 * i) ≤ x then 0 else if kBdy P x i then 2 else if jfind (kBdy P x) 0 i < i then 3 else 1))) m := by
  rw [c_Pot_kindOf hX.1 (x_n hX hG) hG.2.1 hi]
  have hb : ∀ r, r < n → jbody (mI m (a + 4)) (mI m (a + 1) 1) x r = kBdy P x r := by
    intro r hr
    obtain ⟨g1, g2, -⟩ := GP_row hG hr
    unfold jbody kBdy
    rw [(hX.row hG hr).1.1, hX.2.1.2.2.1.2.1]
    exact k_bdy g1.2.1 ⟨by have := g2.2.1.1; omega, g2.2.1.2⟩
  unfold jkind
  rw [hb i hi, (hX.row hG hi).1.1, jfind_congr i 0 (fun r h1 h2 => hb r (by omega))]
theorem x_partsOf (hX : XPot m a P) (hG : GP nf nm n P) (hi : i < n) {k : Nat} (hk : k < 6) : CC (d + 3) 87 [.ref a, .int (nI k), .int (nI i)] m Q ↔ Q (some (.long (jparts (qB P (6 * i + k)) (qR P (6 * i + 3)).toInt64))) m := by
  rw [c_Pot_partsOf_in hX.1 (x_n hX hG) hG.2.1 hi hk]
  obtain ⟨⟨-, -, -, r4, -⟩, r6⟩ := hX.row hG hi
  unfold jparts
  rw [r4, r6 k hk]
theorem c_M_ff {c : Nat} (h : MLay (mS m) (mR m) c) (hP : mI m (c + 14) = qS P) (hR : mI m (c + 18) = qR P) (hn : qS P 15 = nI n) (h6 : n ≤ 600) : CC (d + 2) 246 [.ref c] m Q ↔ Q (some (.int (nI (kFf P n)))) m := c_M_firstFault h hP hR hn h6
end XROW
