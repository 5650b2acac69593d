/-! ===== the laws' code: what a piece of it is worth, on both stacks ===== -/
def kRun {σ : Type} (f : Int32 → σ → σ) : List Int32 → σ → σ
  | [], s => s
  | x :: c, s => kRun f c (f x s)
def kSeg (F : Nat → Int32) : Nat → List Int32 → Prop
  | _, [] => True
  | i, x :: c => F i = x ∧ kSeg F (i + 1) c
theorem kRun_app {σ : Type} {f : Int32 → σ → σ} : ∀ (a b : List Int32) (s : σ), kRun f (a ++ b) s = kRun f b (kRun f a s)
  | [], _, _ => rfl
  | x :: a, b, s => kRun_app a b (f x s)
theorem kSeg_app {F : Nat → Int32} : ∀ (a b : List Int32) (i : Nat), kSeg F i (a ++ b) ↔ kSeg F i a ∧ kSeg F (i + a.length) b
  | [], b, i => by simp [kSeg]
  | x :: a, b, i => by
    show (F i = x ∧ kSeg F (i + 1) (a ++ b)) ↔ (F i = x ∧ kSeg F (i + 1) a) ∧ kSeg F (i + (a.length + 1)) b
    rw [kSeg_app a b (i + 1), show i + 1 + a.length = i + (a.length + 1) by omega, and_assoc]
theorem kSeg_congr {F G : Nat → Int32} : ∀ (c : List Int32) (i : Nat), (∀ j, i ≤ j → j < i + c.length → F j = G j) → kSeg F i c → kSeg G i c
  | [], _, _, _ => trivial
  | x :: c, i, h, hs => ⟨(h i (Nat.le_refl _) (by simp)).symm.trans hs.1, kSeg_congr c (i + 1) (fun j h1 h2 => h j (by omega) (by simp only [List.length_cons]; omega)) hs.2⟩
theorem jfor_seg {σ : Type} {f : Int32 → σ → σ} {F : Nat → Int32} : ∀ (c : List Int32) (i : Nat) (s : σ), kSeg F i c → jfor (fun r s => f (F r) s) i c.length s = kRun f c s
  | [], _, _, _ => rfl
  | x :: c, i, s, h => by
    show jfor (fun r s => f (F r) s) (i + 1) c.length (f (F i) s) = kRun f c (f x s)
    rw [h.1]; exact jfor_seg c (i + 1) _ h.2
/-- X's token as the reference's -/
def kTr (x : Int32) : Int32 := if 0 ≤ x then 16 * x else if -9 ≤ x then 1 + 16 * (-1 - x) else -9 - x
def kSX (W : Nat → Int64) (x : Int32) (q : (Nat → Int64) × Nat) : (Nat → Int64) × Nat := jRk W (fun _ => x) 0 q
def kOne (s : Int32) (x y : Int64) : Int64 :=
  if s = 2 then x + y else if s = 3 then x - y else if s = 4 then x * y else if s = 5 then (if y = 0 then 0 else x / y)
  else if s = 6 then (if x < y then 1 else 0) else if s = 7 then (if x ≤ y then 1 else 0) else if s = 8 then (if x = y then 1 else 0) else if s = 9 then (if y ≤ x then 1 else 0) else if s = 10 then (if y < x then 1 else 0)
  else if s = 12 then x &&& y else x ||| y
def kSM (W : Nat → Int64) (s : Int32) (q : (Nat → Int64) × Nat) : (Nat → Int64) × Nat :=
  if s &&& 15 = 0 then (jup q.1 q.2 (s >>> ((4 : Int32) &&& 31)).toInt64, q.2 + 1) else if s &&& 15 = 1 then (jup q.1 q.2 (W (jx (s >>> ((4 : Int32) &&& 31)))), q.2 + 1)
  else if s &&& 15 = 11 then (jup q.1 (q.2 - 1) (1 - q.1 (q.2 - 1)), q.2)
  else (jup q.1 (q.2 - 2) (kOne (s &&& 15) (q.1 (q.2 - 2)) (q.1 (q.2 - 1))), q.2 - 1)
def kOut (q : (Nat → Int64) × Nat) (v : Int64) (r : (Nat → Int64) × Nat) : Prop := r.2 = q.2 + 1 ∧ r.1 q.2 = v ∧ ∀ i, i < q.2 → r.1 i = q.1 i
/-- the reference's stack bears it: on the reference's tokens -/
def kH (lim : Nat) : List Int32 → Nat → Prop
  | [], _ => True
  | s :: c, t => if s &&& 15 = 0 then t < lim ∧ kH lim c (t + 1) else if s &&& 15 = 1 then (t < lim ∧ 0 ≤ s >>> ((4 : Int32) &&& 31) ∧ s >>> ((4 : Int32) &&& 31) < 9) ∧ kH lim c (t + 1) else if s &&& 15 = 11 then (1 ≤ t ∧ t ≤ lim) ∧ kH lim c t else (2 ≤ t ∧ t ≤ lim) ∧ kH lim c (t - 1)
def kAg (W W' : Nat → Int64) : Prop := ∀ i, i < 9 → W i = W' i
/-- a whole SUM (b false) or TEST (b true) of k VALUES at most -/
def Tk (b : Bool) (k : Nat) (c : List Int32) : Prop :=
  1 ≤ k ∧ c ≠ [] ∧ (∀ W W', kAg W W' → ∃ v, (b = true → v = 0 ∨ v = 1) ∧ (∀ q : (Nat → Int64) × Nat, q.2 + k ≤ 60 → kOut q v (kRun (kSX W) c q)) ∧ (∀ q : (Nat → Int64) × Nat, kOut q v (kRun (kSM W') (c.map kTr) q))) ∧ (∀ (t : Nat) (r : List Int32), t + k ≤ 80 → kH 80 r (t + 1) → kH 80 (c.map kTr ++ r) t)
theorem k9 {x : Int32} (h : 0 ≤ x) : -9 ≤ x := Int32.le_trans (by decide) h
theorem kSX_num {W : Nat → Int64} {x : Int32} {q : (Nat → Int64) × Nat} (h : 0 ≤ x) (hq : q.2 < 60) : kSX W x q = (jup q.1 q.2 x.toInt64, q.2 + 1) := by
  unfold kSX jRk jPush
  rw [if_pos h, if_pos hq]
theorem kSX_word {W : Nat → Int64} {x : Int32} {q : (Nat → Int64) × Nat} (h : ¬ 0 ≤ x) (h9 : -9 ≤ x) (hq : q.2 < 60) : kSX W x q = (jup q.1 q.2 (W (jx (-1 - x))), q.2 + 1) := by
  unfold kSX jRk jPush
  rw [if_neg h, if_pos h9, if_pos hq]
theorem kSX_not {W : Nat → Int64} {q : (Nat → Int64) × Nat} (h0 : 0 < q.2) (hq : q.2 ≤ 60) : kSX W (-20) q = (jup q.1 (q.2 - 1) (if q.1 (q.2 - 1) = 0 then 1 else 0), q.2) := by
  unfold kSX jRk jPush jPopS jPopV
  rw [if_neg (by decide), if_neg (by decide), if_pos rfl, if_pos (show q.2 - 1 < 60 by omega), if_pos h0]
  simp only [show q.2 - 1 + 1 = q.2 by omega]
theorem kSX_bin {W : Nat → Int64} {x : Int32} {q : (Nat → Int64) × Nat} (h1 : ¬ -9 ≤ x) (h2 : x ≠ -20) (h0 : 2 ≤ q.2) (hq : q.2 ≤ 60) : kSX W x q = (jup q.1 (q.2 - 2) (if -14 ≤ x then jBin x (q.1 (q.2 - 2)) (q.1 (q.2 - 1)) else if jBin x (q.1 (q.2 - 2)) (q.1 (q.2 - 1)) = 0 then 0 else 1), q.2 - 1) := by
  unfold kSX jRk jPush jPopS jPopV
  rw [if_neg (fun h => h1 (k9 h)), if_neg h1, if_neg h2]
  simp only [show q.2 - 1 - 1 = q.2 - 2 by omega, show q.2 - 2 < 60 by omega, show 0 < q.2 by omega, show 0 < q.2 - 1 by omega, if_true, show q.2 - 2 + 1 = q.2 - 1 by omega]
theorem kOut_push {q : (Nat → Int64) × Nat} {v : Int64} : kOut q v (jup q.1 q.2 v, q.2 + 1) := ⟨rfl, jup_same, fun i hi => jup_ne (by omega)⟩
theorem kTr_num {n : Nat} (h : n < 100000) : kTr (nI n) = nI (16 * n) := by
  unfold kTr
  rw [if_pos (nI_pos' (by omega))]
  exact nx_mul 16 n
theorem k_and {n r : Nat} (h : 16 * n + r < 2 ^ 31) (hr : r < 16) : nI (16 * n + r) &&& 15 = nI r ∧ nI (16 * n + r) >>> ((4 : Int32) &&& 31) = nI n := by
  refine ⟨?_, ?_⟩
  · rw [pk_andN (by omega) 4 (by decide)]
    congr 1; omega
  · rw [pk_shrN h _ 4 (by decide)]
    congr 1; omega
theorem Tk_num {n : Nat} (h : n < 100000) : Tk false 1 [nI n] := by
  have e : kTr (nI n) = nI (16 * n + 0) := by rw [kTr_num h, Nat.add_zero]
  have h0 : (0 : Int32) ≤ nI n := nI_pos' (by omega)
  obtain ⟨e1, e2⟩ := k_and (n := n) (r := 0) (by omega) (by decide)
  refine ⟨Nat.le_refl _, by simp, fun W W' hW => ⟨(nI n).toInt64, by simp, fun q hq => ?_, fun q => ?_⟩, fun t r ht hr => ?_⟩
  · show kOut q _ (kSX W (nI n) q)
    rw [kSX_num h0 (by omega)]; exact kOut_push
  · show kOut q _ (kSM W' (kTr (nI n)) q)
    unfold kSM
    rw [e, e1, e2, if_pos (show nI 0 = 0 from rfl)]; exact kOut_push
  · show kH 80 (kTr (nI n) :: r) t
    unfold kH
    rw [e, e1, if_pos (show nI 0 = 0 from rfl)]; exact ⟨by omega, hr⟩
theorem k_wd : ∀ w, w < 9 → ¬ (0 ≤ (-1 : Int32) - nI w) ∧ -9 ≤ (-1 : Int32) - nI w ∧ (-1 : Int32) - ((-1) - nI w) = nI w ∧ kTr (-1 - nI w) = nI (16 * w + 1) := by decide
theorem kRun_one {σ : Type} {f : Int32 → σ → σ} {x : Int32} {s : σ} : kRun f [x] s = f x s := rfl
theorem Tk_word {w : Nat} (h : w < 9) : Tk false 1 [-1 - nI w] := by
  obtain ⟨h0, h9, hw, e⟩ := k_wd w h
  obtain ⟨e1, e2⟩ := k_and (n := w) (r := 1) (by omega) (by decide)
  generalize (-1 : Int32) - nI w = x at *
  refine ⟨Nat.le_refl _, by simp, fun W W' hW => ⟨W w, by simp, fun q hq => ?_, fun q => ?_⟩, fun t r ht hr => ?_⟩
  · rw [kRun_one, kSX_word h0 h9 (by omega), hw, jx_nI (by omega)]; exact kOut_push
  · rw [List.map_cons, List.map_nil, kRun_one]
    unfold kSM
    rw [e, e1, e2, if_neg (show ¬ nI 1 = 0 by decide), if_pos (show nI 1 = 1 from rfl), jx_nI (by omega), hW w h]; exact kOut_push
  · rw [List.map_cons, List.map_nil, List.singleton_append]
    unfold kH
    rw [e, e1, e2, if_neg (show ¬ nI 1 = 0 by decide), if_pos (show nI 1 = 1 from rfl)]; exact ⟨⟨by omega, nI_pos' (by omega), nI_lt (b := 9) h (by decide)⟩, hr⟩
/-- an operator of two -/
def kBinOp (x : Int32) : Prop := x = -11 ∨ x = -12 ∨ x = -13 ∨ x = -14
def kCmpOp (x : Int32) : Prop := x = -15 ∨ x = -16 ∨ x = -17 ∨ x = -18 ∨ x = -19
theorem k_op2 {x : Int32} (h : kBinOp x ∨ kCmpOp x ∨ x = -21 ∨ x = -22) : ¬ -9 ≤ x ∧ x ≠ -20 ∧ kTr x &&& 15 ≠ 0 ∧ kTr x &&& 15 ≠ 1 ∧ kTr x &&& 15 ≠ 11 := by
  unfold kBinOp kCmpOp at h
  rcases h with (rfl | rfl | rfl | rfl) | (rfl | rfl | rfl | rfl | rfl) | rfl | rfl <;> decide
theorem Tk_two {b b1 : Bool} {k1 k2 : Nat} {a c : List Int32} {x : Int32} (h1 : Tk b1 k1 a) (h2 : Tk b1 k2 c) (hx : kBinOp x ∨ kCmpOp x ∨ x = -21 ∨ x = -22)
    (hv : ∀ v w : Int64, (b1 = true → v = 0 ∨ v = 1) → (b1 = true → w = 0 ∨ w = 1) → (if -14 ≤ x then jBin x v w else if jBin x v w = 0 then 0 else 1) = kOne (kTr x &&& 15) v w ∧ (b = true → kOne (kTr x &&& 15) v w = 0 ∨ kOne (kTr x &&& 15) v w = 1)) : Tk b (k1 + k2) (a ++ c ++ [x]) := by
  obtain ⟨p1, -, r1, s1⟩ := h1
  obtain ⟨p2, -, r2, s2⟩ := h2
  obtain ⟨x1, x2, x3, x4, x5⟩ := k_op2 hx
  refine ⟨by omega, by simp, fun W W' hW => ?_, fun t r ht hr => ?_⟩
  · obtain ⟨v, bv, xv, mv⟩ := r1 W W' hW
    obtain ⟨w, bw, xw, mw⟩ := r2 W W' hW
    obtain ⟨e1, e2⟩ := hv v w bv bw
    refine ⟨_, e2, fun q hq => ?_, fun q => ?_⟩
    · rw [kRun_app, kRun_app]
      obtain ⟨a1, a2, a3⟩ := xv q (by omega)
      obtain ⟨c1, c2, c3⟩ := xw (kRun (kSX W) a q) (by omega)
      show kOut q _ (kSX W x _)
      generalize hr : kRun (kSX W) c (kRun (kSX W) a q) = r at c1 c2 c3 ⊢
      generalize kRun (kSX W) a q = p at *
      rw [kSX_bin x1 x2 (by omega) (by omega)]
      have d1 : r.2 - 2 = q.2 := by omega
      have d2 : r.2 - 1 = p.2 := by omega
      rw [d1, d2, c2, c3 q.2 (by omega), a2, e1]
      exact ⟨by show p.2 = _; omega, jup_same, fun i hi => (jup_ne (by omega)).trans ((c3 i (by omega)).trans (a3 i hi))⟩
    · rw [List.map_append, List.map_append, kRun_app, kRun_app]
      obtain ⟨a1, a2, a3⟩ := mv q
      obtain ⟨c1, c2, c3⟩ := mw (kRun (kSM W') (a.map kTr) q)
      show kOut q _ (kSM W' (kTr x) _)
      generalize hr : kRun (kSM W') (c.map kTr) (kRun (kSM W') (a.map kTr) q) = r at c1 c2 c3 ⊢
      generalize kRun (kSM W') (a.map kTr) q = p at *
      unfold kSM
      rw [if_neg x3, if_neg x4, if_neg x5]
      have d1 : r.2 - 2 = q.2 := by omega
      have d2 : r.2 - 1 = p.2 := by omega
      rw [d1, d2, c2, c3 q.2 (by omega), a2]
      exact ⟨by show p.2 = _; omega, jup_same, fun i hi => (jup_ne (by omega)).trans ((c3 i (by omega)).trans (a3 i hi))⟩
  · rw [List.map_append, List.map_append, List.append_assoc, List.append_assoc]
    refine s1 t _ (by omega) (s2 (t + 1) _ (by omega) ?_)
    show kH 80 (kTr x :: r) (t + 1 + 1)
    unfold kH
    rw [if_neg x3, if_neg x4, if_neg x5]
    exact ⟨⟨by omega, by omega⟩, hr⟩
theorem k_zo {x : Prop} {hx : Decidable x} : (if x then (1 : Int64) else 0) = 0 ∨ (if x then (1 : Int64) else 0) = 1 := by
  split
  · exact Or.inr rfl
  · exact Or.inl rfl
theorem k_zn {x : Prop} {hx : Decidable x} : (if (if x then (1 : Int64) else 0) = 0 then (0 : Int64) else 1) = if x then 1 else 0 := by
  by_cases h : x <;> simp [h]
theorem Tk_sum {k1 k2 : Nat} {a c : List Int32} {x : Int32} (h1 : Tk false k1 a) (h2 : Tk false k2 c) (hx : kBinOp x) : Tk false (k1 + k2) (a ++ c ++ [x]) := by
  refine Tk_two h1 h2 (Or.inl hx) (fun v w _ _ => ⟨?_, fun h => Bool.noConfusion h⟩)
  rcases hx with rfl | rfl | rfl | rfl <;> rfl
theorem Tk_cmp {k1 k2 : Nat} {a c : List Int32} {x : Int32} (h1 : Tk false k1 a) (h2 : Tk false k2 c) (hx : kCmpOp x) : Tk true (k1 + k2) (a ++ c ++ [x]) := by
  refine Tk_two h1 h2 (Or.inr (Or.inl hx)) (fun v w _ _ => ?_)
  rcases hx with rfl | rfl | rfl | rfl | rfl
  · exact ⟨k_zn, fun _ => k_zo⟩
  · exact ⟨k_zn, fun _ => k_zo⟩
  · exact ⟨k_zn, fun _ => k_zo⟩
  · exact ⟨k_zn, fun _ => k_zo⟩
  · exact ⟨k_zn, fun _ => k_zo⟩
theorem Tk_andor {k1 k2 : Nat} {a c : List Int32} {x : Int32} (h1 : Tk true k1 a) (h2 : Tk true k2 c) (hx : x = -21 ∨ x = -22) : Tk true (k1 + k2) (a ++ c ++ [x]) := by
  refine Tk_two h1 h2 (Or.inr (Or.inr hx)) (fun v w bv bw => ?_)
  rcases bv rfl with rfl | rfl <;> rcases bw rfl with rfl | rfl <;> rcases hx with rfl | rfl <;> exact ⟨by decide, fun _ => by decide⟩
theorem Tk_not {k : Nat} {a : List Int32} (h : Tk true k a) : Tk true k (a ++ [-20]) := by
  obtain ⟨p1, -, r1, s1⟩ := h
  refine ⟨p1, by simp, fun W W' hW => ?_, fun t r ht hr => ?_⟩
  · obtain ⟨v, bv, xv, mv⟩ := r1 W W' hW
    refine ⟨1 - v, fun _ => ?_, fun q hq => ?_, fun q => ?_⟩
    · rcases bv rfl with rfl | rfl
      · exact Or.inr (by decide)
      · exact Or.inl (by decide)
    · rw [kRun_app]
      obtain ⟨a1, a2, a3⟩ := xv q hq
      show kOut q _ (kSX W (-20) _)
      generalize kRun (kSX W) a q = p at *
      rw [kSX_not (by omega) (by omega)]
      have d1 : p.2 - 1 = q.2 := by omega
      rw [d1, a2]
      refine ⟨a1, ?_, fun i hi => (jup_ne (by omega)).trans (a3 i hi)⟩
      show jup p.1 q.2 _ q.2 = _
      rw [jup_same]
      rcases bv rfl with rfl | rfl <;> decide
    · rw [List.map_append, kRun_app]
      obtain ⟨a1, a2, a3⟩ := mv q
      show kOut q _ (kSM W' (kTr (-20)) _)
      generalize kRun (kSM W') (a.map kTr) q = p at *
      unfold kSM
      rw [if_neg (show ¬ kTr (-20) &&& 15 = 0 by decide), if_neg (show ¬ kTr (-20) &&& 15 = 1 by decide), if_pos (show kTr (-20) &&& 15 = 11 by decide)]
      have d1 : p.2 - 1 = q.2 := by omega
      rw [d1, a2]
      exact ⟨a1, jup_same, fun i hi => (jup_ne (by omega)).trans (a3 i hi)⟩
  · rw [List.map_append, List.append_assoc]
    refine s1 t _ ht ?_
    show kH 80 (kTr (-20) :: r) (t + 1)
    unfold kH
    rw [if_neg (show ¬ kTr (-20) &&& 15 = 0 by decide), if_neg (show ¬ kTr (-20) &&& 15 = 1 by decide), if_pos (show kTr (-20) &&& 15 = 11 by decide)]
    exact ⟨⟨by omega, by omega⟩, hr⟩
/-- what a piece of code is worth -/
def kVal (W : Nat → Int64) (c : List Int32) : Int64 := jPopV (kRun (kSX W) c (fun _ => 0, 0))
theorem kOut_pop {q r : (Nat → Int64) × Nat} {v : Int64} (h : kOut q v r) : jPopV r = v := by
  obtain ⟨h1, h2, -⟩ := h
  unfold jPopV
  rw [if_pos (by omega), h1]; exact h2
theorem kAg_refl {W : Nat → Int64} : kAg W W := fun _ _ => rfl
theorem Tk_val {b : Bool} {k : Nat} {c : List Int32} (h : Tk b k c) {W W' : Nat → Int64} (hk : k ≤ 60) (hW : kAg W W') : (b = true → kVal W' c = 0 ∨ kVal W' c = 1) ∧ (∀ q : (Nat → Int64) × Nat, q.2 + k ≤ 60 → kOut q (kVal W' c) (kRun (kSX W) c q)) ∧ (∀ q : (Nat → Int64) × Nat, kOut q (kVal W' c) (kRun (kSM W) (c.map kTr) q)) := by
  obtain ⟨v1, b1, x1, m1⟩ := h.2.2.1 W' W (fun i hi => (hW i hi).symm)
  obtain ⟨v2, b2, x2, m2⟩ := h.2.2.1 W W kAg_refl
  have e : v1 = v2 := (m1 (fun _ => 0, 0)).2.1.symm.trans (m2 (fun _ => 0, 0)).2.1
  have e2 : kVal W' c = v1 := kOut_pop (x1 (fun _ => 0, 0) (by show 0 + k ≤ 60; omega))
  rw [e2]
  exact ⟨b1, fun q hq => e ▸ x2 q hq, m1⟩
theorem Tk_X {b : Bool} {k : Nat} {c : List Int32} (h : Tk b k c) (hk : k ≤ 60) {W W' : Nat → Int64} (hW : kAg W W') {F : Nat → Int32} {i : Nat} (hs : kSeg F i c) (S : Nat → Int64) : jPopV (jRe W F i (i + c.length) S) = kVal W' c := by
  have e : jRe W F i (i + c.length) S = kRun (kSX W) c (S, 0) := by
    unfold jRe
    rw [show i + c.length - i = c.length by omega]
    exact jfor_seg (f := kSX W) c i (S, 0) hs
  rw [e]
  exact kOut_pop ((Tk_val h hk hW).2.1 (S, 0) (by show 0 + k ≤ 60; omega))
/-- a law: rules (kind, SUM, TEST or nothing); swirl, late, gives -/
abbrev KLaw : Type := (Nat × (Nat → Int32) × (Nat → List Int32) × (Nat → List Int32)) × Int32 × Int32 × Int32
def kLn (K : KLaw) : Nat := K.1.1
def kLk (K : KLaw) : Nat → Int32 := K.1.2.1
def kLc (K : KLaw) : Nat → List Int32 := K.1.2.2.1
def kLd (K : KLaw) : Nat → List Int32 := K.1.2.2.2
def kLw (K : KLaw) : Int32 := K.2.1
def kLl (K : KLaw) : Int32 := K.2.2.1
def kLg (K : KLaw) : Int32 := K.2.2.2
def KOk (K : KLaw) : Prop := kLn K ≤ 12 ∧ (∀ r, r < kLn K → ∃ k, k ≤ 60 ∧ Tk false k (kLc K r)) ∧ (∀ r, r < kLn K → kLd K r ≠ [] → ∃ k, k ≤ 60 ∧ Tk true k (kLd K r)) ∧ (0 ≤ kLw K ∧ kLw K ≤ 99) ∧ (0 ≤ kLl K ∧ kLl K ≤ 9) ∧ (0 ≤ kLg K ∧ kLg K ≤ 9999)
def LX (m : jmM) (b : Nat) (K : KLaw) : Prop := LawL (mS m) (mR m) b ∧ mI m b 6 = nI (kLn K) ∧ jpos (mI m b 7) = kLw K ∧ jpos (mI m b 8) = kLl K ∧ jpos (mI m b 9) = kLg K ∧ ∃ s : Nat → Nat, ∀ r, r < kLn K → mI m (b + 2) r = kLk K r ∧ mI m (b + 3) r = nI (s r) ∧ mI m (b + 4) r = nI (s r + (kLc K r).length) ∧ mI m (b + 5) r = nI (s r + (kLc K r).length + (kLd K r).length) ∧ s r + (kLc K r).length + (kLd K r).length ≤ 400 ∧ kSeg (mI m (b + 1)) (s r) (kLc K r) ∧ kSeg (mI m (b + 1)) (s r + (kLc K r).length) (kLd K r)
def LM (m : jmM) (c t : Nat) (K : KLaw) : Prop := mI m (c + 5) t = nI (kLn K) ∧ mI m (c + 6) t = kLw K ∧ mI m (c + 7) t = kLl K ∧ mI m (c + 8) t = kLg K ∧ ∃ s : Nat → Nat, ∀ r, r < kLn K → mI m (c + 4) (60 * t + 5 * r) = kLk K r ∧ mI m (c + 4) (60 * t + 5 * r + 1) = nI (s r) ∧ mI m (c + 4) (60 * t + 5 * r + 2) = nI (s r + (kLc K r).length) ∧ mI m (c + 4) (60 * t + 5 * r + 3) = (if kLd K r = [] then -1 else nI (s r + (kLc K r).length)) ∧ mI m (c + 4) (60 * t + 5 * r + 4) = nI (s r + (kLc K r).length + (kLd K r).length) ∧ s r + (kLc K r).length + (kLd K r).length ≤ 400 ∧ kSeg (fun j => mI m (c + 2) (400 * t + j)) (s r) ((kLc K r).map kTr) ∧ kSeg (fun j => mI m (c + 2) (400 * t + j)) (s r + (kLc K r).length) ((kLd K r).map kTr)
/-- the first rule of a kind that holds: its place -/
def kHold (W : Nat → Int64) (K : KLaw) (kind : Int32) : Nat → Nat → Option Nat
  | _, 0 => none
  | r, k + 1 => if kLk K r = kind ∧ (kLd K r = [] ∨ kVal W (kLd K r) ≠ 0) then some r else kHold W K kind (r + 1) k
def kFirst (W : Nat → Int64) (K : KLaw) (kind : Int32) : Option Int64 := (kHold W K kind 0 (kLn K)).map (fun r => kVal W (kLc K r))
theorem kHold_lt {W : Nat → Int64} {K : KLaw} {kind : Int32} : ∀ k r p, kHold W K kind r k = some p → p < r + k
  | 0, r, p, h => by simp [kHold] at h
  | k + 1, r, p, h => by
    unfold kHold at h
    split at h
    · injection h with h; omega
    · have := kHold_lt k (r + 1) p h; omega
theorem jFirst_val {W W' : Nat → Int64} {F : Nat → Int32} {K : KLaw} {s : Nat → Nat} {kind : Int32} {X : Int64} (hK : KOk K) (hW : kAg W W') {ks : Nat → Int32} (hs : ∀ r, r < kLn K → ks r = kLk K r ∧ kSeg F (s r) (kLc K r) ∧ kSeg F (s r + (kLc K r).length) (kLd K r)) : ∀ k r (S : (Nat → Int64) × Nat), r + k = kLn K →
    (jFirst W F ks s (fun r => s r + (kLc K r).length) (fun r => s r + (kLc K r).length + (kLd K r).length) kind X r k S).1 = ((kHold W' K kind r k).map (fun r => kVal W' (kLc K r))).getD X
  | 0, r, S, _ => rfl
  | k + 1, r, S, h => by
    obtain ⟨h1, h2, h3⟩ := hs r (by omega)
    obtain ⟨kc, hkc, hc⟩ := hK.2.1 r (by omega)
    unfold jFirst kHold
    rw [h1]
    by_cases hk : kLk K r = kind
    · rw [if_pos hk]
      by_cases hd : kLd K r = []
      · rw [if_pos (by rw [hd]; rfl), if_pos ⟨hk, Or.inl hd⟩]
        exact Tk_X hc hkc hW h2 _
      · obtain ⟨kd, hkd, hd2⟩ := hK.2.2.1 r (by omega) hd
        rw [if_neg (fun e => hd (List.eq_nil_of_length_eq_zero (by omega))), Tk_X hd2 hkd hW h3]
        by_cases hv : kVal W' (kLd K r) = 0
        · rw [if_pos hv, if_neg (fun e => e.2.elim hd (fun e => e hv))]
          exact jFirst_val hK hW hs k (r + 1) _ (by omega)
        · rw [if_neg hv, if_pos ⟨hk, Or.inr hv⟩]
          exact Tk_X hc hkc hW h2 _
    · rw [if_neg hk, if_neg (fun e => hk e.1)]
      exact jFirst_val hK hW hs k (r + 1) _ (by omega)
section KFIRST
variable {d a b : Nat} {x : Int32} {X : Int64} {m : jmM} {W : Nat → Int64} {K : KLaw}
theorem X_first {s : (Nat → Int64) × Nat} (h : DeskL (mS m) (mR m) a) (hL : LX m b K) (hK : KOk K) (hd : b + 5 < a ∨ a + 2 < b) (hj : b + 5 < jScr) (hW : kAg (mL m (a + 1)) W) : ∃ s' : (Nat → Int64) × Nat, ∀ Q : Option Value → jmM → Prop, CC (d + 3) 12 [.ref a, .ref b, .int x, .long X] (jDk m a s) Q ↔ Q (some (.long ((kFirst W K x).getD X))) (jDk m a s') := by
  obtain ⟨hl, hn, -, -, -, p, hp⟩ := hL
  refine ⟨(jFirst (mL m (a + 1)) (mI m (b + 1)) (mI m (b + 2)) p (fun r => p r + (kLc K r).length) (fun r => p r + (kLc K r).length + (kLd K r).length) x X 0 (kLn K) s).2, fun Q => ?_⟩
  have e := jFirst_val (W := mL m (a + 1)) (W' := W) (F := mI m (b + 1)) (s := p) (kind := x) (X := X) (ks := mI m (b + 2)) hK hW (fun r hr => ⟨(hp r hr).1, (hp r hr).2.2.2.2.2⟩) (kLn K) 0 s (Nat.zero_add _)
  have e2 := c_Desk_firstD (d := d) (x := x) (X := X) (s := s) (Q := Q) (sN := p) (tN := fun r => p r + (kLc K r).length) (eN := fun r => p r + (kLc K r).length + (kLd K r).length) h hl hd hj ⟨hn, hK.1, fun r hr => by
    obtain ⟨-, h2, h3, h4, h5, -⟩ := hp r hr
    exact ⟨h2, h3, h4, Nat.le_add_right _ _, Nat.le_add_right _ _, h5⟩⟩
  rw [e] at e2
  exact e2
end KFIRST
