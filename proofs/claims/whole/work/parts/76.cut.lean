/-! ===== pieces: what is most, abstractly ===== -/
section CUTA
variable {p most : Nat → Nat} {ok : Nat → Nat → Bool} {Ln Cn : Nat → Nat} {n W r L C w : Nat}
def dS (p : Nat → Nat) (r : Nat) : Nat → Nat
  | 0 => 0
  | j + 1 => dS p r j + p (r + j)
theorem dS_add (p : Nat → Nat) (r a : Nat) : ∀ b, dS p r (a + b) = dS p r a + dS p (r + a) b
  | 0 => rfl
  | b + 1 => by
    show dS p r (a + b) + p (r + (a + b)) = dS p r a + (dS p (r + a) b + p (r + a + b))
    rw [dS_add p r a b, Nat.add_assoc r a b, Nat.add_assoc]
theorem dS_le (p : Nat → Nat) (r : Nat) {a b : Nat} (h : a ≤ b) : dS p r a ≤ dS p r b := by
  obtain ⟨c, rfl⟩ := Nat.exists_eq_add_of_le h
  rw [dS_add]; omega
theorem dS_b {p : Nat → Nat} (hp : ∀ i, i < n → p i ≤ 99) (r : Nat) : ∀ j, r + j ≤ n → dS p r j ≤ 99 * j
  | 0, _ => by show 0 ≤ _; omega
  | j + 1, h => by
    have := dS_b hp r j (by omega)
    have := hp (r + j) (by omega)
    show dS p r j + p (r + j) ≤ _
    omega
/-- an offer: so many coins, so many rows, for whom -/
def kUp (c many w : Nat) (s : Nat × Nat × Nat) : Nat × Nat × Nat := if s.1 < c ∨ (c = s.1 ∧ many < s.2.1) then (c, many, w) else s
def kDm (c many : Nat) (s : Nat × Nat × Nat) : Prop := c ≤ s.1 ∧ (c = s.1 → s.2.1 ≤ many)
theorem kUp_dm {c many w : Nat} {s : Nat × Nat × Nat} : kDm c many (kUp c many w s) := by
  unfold kUp kDm
  by_cases h : s.1 < c ∨ (c = s.1 ∧ many < s.2.1)
  · rw [if_pos h]; exact ⟨Nat.le_refl _, fun _ => Nat.le_refl _⟩
  · rw [if_neg h]
    rw [not_or, not_and] at h
    exact ⟨by omega, fun e => by have := h.2 e; omega⟩
theorem kUp_keep {c many c' many' w : Nat} {s : Nat × Nat × Nat} (h : kDm c many s) : kDm c many (kUp c' many' w s) := by
  obtain ⟨h1, h2⟩ := h
  unfold kUp kDm
  by_cases q : s.1 < c' ∨ (c' = s.1 ∧ many' < s.2.1)
  · rw [if_pos q]
    refine ⟨?_, fun e => ?_⟩
    · show c ≤ c'
      omega
    · show many' ≤ many
      have e : c = c' := e
      rcases q with q | ⟨q, q'⟩
      · omega
      · have := h2 (by omega); omega
  · rw [if_neg q]; exact ⟨h1, h2⟩
theorem kUp_no {c many w : Nat} {s : Nat × Nat × Nat} (h1 : c ≤ s.1) (h2 : c = s.1 → s.2.1 ≤ many) : kUp c many w s = s := by
  unfold kUp
  rw [if_neg]
  rintro (h | ⟨h, h'⟩)
  · omega
  · have := h2 h; omega
theorem kUp_mono {c many w : Nat} {s : Nat × Nat × Nat} : s.1 ≤ (kUp c many w s).1 := by
  unfold kUp
  by_cases q : s.1 < c ∨ (c = s.1 ∧ many < s.2.1)
  · rw [if_pos q]; show s.1 ≤ c; omega
  · rw [if_neg q]; exact Nat.le_refl _
/-- one row more, for want w -/
def kIn (p most : Nat → Nat) (r L C w j : Nat) (s : Nat × Nat × Nat) : Nat × Nat × Nat := if L ≤ dS p r (j + 1) then kUp (dS p r (j + 1) * C + most (r + j + 1)) (j + 1) w s else s
theorem kIn_keep {c many j : Nat} {s : Nat × Nat × Nat} (h : kDm c many s) : kDm c many (kIn p most r L C w j s) := by
  unfold kIn
  split
  · exact kUp_keep h
  · exact h
theorem kIn_mono {j : Nat} {s : Nat × Nat × Nat} : s.1 ≤ (kIn p most r L C w j s).1 := by
  unfold kIn
  split
  · exact kUp_mono
  · exact Nat.le_refl _
theorem kIns_keep {c many : Nat} : ∀ k j (s : Nat × Nat × Nat), kDm c many s → kDm c many (jfor (kIn p most r L C w) j k s)
  | 0, _, _, h => h
  | k + 1, j, s, h => kIns_keep k (j + 1) _ (kIn_keep h)
theorem kIns_mono : ∀ k j (s : Nat × Nat × Nat), s.1 ≤ (jfor (kIn p most r L C w) j k s).1
  | 0, _, _ => Nat.le_refl _
  | k + 1, j, s => Nat.le_trans kIn_mono (kIns_mono k (j + 1) _)
theorem kIns_dom : ∀ k j (s : Nat × Nat × Nat) i, j ≤ i → i < j + k → L ≤ dS p r (i + 1) → dS p r (i + 1) * C + most (r + i + 1) ≤ (jfor (kIn p most r L C w) j k s).1
  | 0, _, _, _, h1, h2, _ => by omega
  | k + 1, j, s, i, h1, h2, h3 => by
    by_cases e : i = j
    · subst e
      refine Nat.le_trans ?_ (kIns_mono k (i + 1) _)
      unfold kIn
      rw [if_pos h3]
      exact kUp_dm.1
    · exact kIns_dom k (j + 1) _ i (by omega) (by omega) h3
/-- X stops where two pieces for one want are preferred -/
def xC (p : Nat → Nat) (r L j : Nat) (q : Option Nat × Nat × Nat × Nat) : Bool := match q.1 with
  | some t => decide (L ≤ dS p (r + t) (j + 1 - t))
  | none => false
def xF (p most : Nat → Nat) (r L C w j : Nat) (q : Option Nat × Nat × Nat × Nat) : Option Nat × Nat × Nat × Nat := if L ≤ dS p r (j + 1) then ((match q.1 with | some t => some t | none => some (j + 1)), kUp (dS p r (j + 1) * C + most (r + j + 1)) (j + 1) w q.2) else q
theorem prune {len : Nat} (H : ∀ t, 1 ≤ t → t < len → ∀ j', t + j' < len → L ≤ dS p (r + t) (j' + 1) → dS p (r + t) (j' + 1) * C + most (r + t + j' + 1) ≤ most (r + t)) : ∀ k j (q : Option Nat × Nat × Nat × Nat), j + k = len → (∀ t, q.1 = some t → 1 ≤ t ∧ t ≤ j ∧ L ≤ dS p r t ∧ kDm (dS p r t * C + most (r + t)) t q.2) → (jbrk (xC p r L) (xF p most r L C w) j k q).2.2 = jfor (kIn p most r L C w) j k q.2
  | 0, j, q, _, _ => rfl
  | k + 1, j, q, hj, hq => by
    show (if xC p r L j q then (j, q) else jbrk (xC p r L) (xF p most r L C w) (j + 1) k (xF p most r L C w j q)).2.2 = _
    cases hc : xC p r L j q
    · rw [if_neg (by simp)]
      have e2 : (xF p most r L C w j q).2 = kIn p most r L C w j q.2 := by
        unfold xF kIn
        split <;> rfl
      rw [prune H k (j + 1) _ (by omega), e2]
      · rfl
      · intro t ht
        unfold xF at ht ⊢
        by_cases hL : L ≤ dS p r (j + 1)
        · rw [if_pos hL] at ht ⊢
          cases hq1 : q.1 with
          | some t' =>
            rw [hq1] at ht
            obtain ⟨a1, a2, a3, a4⟩ := hq t' hq1
            have : t' = t := by injection ht
            subst this
            exact ⟨a1, by omega, a3, kUp_keep a4⟩
          | none =>
            rw [hq1] at ht
            have : j + 1 = t := by injection ht
            subst this
            exact ⟨by omega, Nat.le_refl _, hL, kUp_dm⟩
        · rw [if_neg hL] at ht ⊢
          obtain ⟨a1, a2, a3, a4⟩ := hq t ht
          exact ⟨a1, by omega, a3, a4⟩
    · rw [if_pos rfl]
      obtain ⟨t, ht⟩ : ∃ t, q.1 = some t := by
        cases hq1 : q.1 with
        | some t => exact ⟨t, rfl⟩
        | none => unfold xC at hc; rw [hq1] at hc; exact absurd hc (by simp)
      obtain ⟨a1, a2, a3, a4, a5⟩ := hq t ht
      have hL : L ≤ dS p (r + t) (j + 1 - t) := by
        unfold xC at hc; rw [ht] at hc; exact of_decide_eq_true hc
      show q.2 = _
      have key : ∀ k' j', j ≤ j' → j' + k' = len → jfor (kIn p most r L C w) j' k' q.2 = q.2 := by
        intro k'
        induction k' with
        | zero => intro j' _ _; rfl
        | succ k' ih =>
          intro j' h1 h2
          have e : kIn p most r L C w j' q.2 = q.2 := by
            unfold kIn
            by_cases hL2 : L ≤ dS p r (j' + 1)
            · rw [if_pos hL2]
              have hle : L ≤ dS p (r + t) (j' + 1 - t) := Nat.le_trans hL (dS_le _ _ (by omega))
              have hs : dS p r (j' + 1) = dS p r t + dS p (r + t) (j' + 1 - t) := by rw [← dS_add, show t + (j' + 1 - t) = j' + 1 by omega]
              have hd := H t a1 (by omega) (j' - t) (by omega) (by rw [show j' - t + 1 = j' + 1 - t by omega]; exact hle)
              rw [show j' - t + 1 = j' + 1 - t by omega, show r + t + (j' - t) + 1 = r + j' + 1 by omega] at hd
              have hm : dS p r (j' + 1) * C + most (r + j' + 1) ≤ dS p r t * C + most (r + t) := by
                rw [hs, Nat.add_mul]; omega
              refine kUp_no (by omega) (fun e => ?_)
              have := a5 (by omega)
              omega
            · rw [if_neg hL2]
          show jfor (kIn p most r L C w) (j' + 1) k' (kIn p most r L C w j' q.2) = q.2
          rw [e]
          exact ih (j' + 1) (by omega) (by omega)
      exact (key (k + 1) j (Nat.le_refl _) hj).symm
/-- how many rows from r on are good for a want -/
def kRn (okw : Nat → Bool) (r n : Nat) : Nat := jfind (fun e => !okw e) r (n - r) - r
def kRow (p : Nat → Nat) (ok : Nat → Nat → Bool) (Ln Cn : Nat → Nat) (W n : Nat) (most : Nat → Nat) (r : Nat) : Nat × Nat × Nat := jfor (fun w s => jfor (kIn p most r (Ln w) (Cn w) w) 0 (kRn (ok w) r n) s) 0 W (most (r + 1), 0, 0)
def kDp (p : Nat → Nat) (ok : Nat → Nat → Bool) (Ln Cn : Nat → Nat) (W n : Nat) : Nat → (Nat → Nat) × (Nat → Nat) × (Nat → Nat)
  | 0 => (fun _ => 0, fun _ => 0, fun _ => 0)
  | q + 1 => (jup (kDp p ok Ln Cn W n q).1 (n - (q + 1)) (kRow p ok Ln Cn W n (kDp p ok Ln Cn W n q).1 (n - (q + 1))).1, jup (kDp p ok Ln Cn W n q).2.1 (n - (q + 1)) (kRow p ok Ln Cn W n (kDp p ok Ln Cn W n q).1 (n - (q + 1))).2.1, jup (kDp p ok Ln Cn W n q).2.2 (n - (q + 1)) (kRow p ok Ln Cn W n (kDp p ok Ln Cn W n q).1 (n - (q + 1))).2.2)
theorem kRn_le {okw : Nat → Bool} (h : r ≤ n) : r + kRn okw r n ≤ n := by
  unfold kRn
  have := (jfind_le (c := fun e => !okw e) (n - r) r)
  omega
theorem jfind_ok {c : Nat → Bool} : ∀ k i e, i ≤ e → e < jfind c i k → c e = false
  | 0, i, e, h1, h2 => by
    have : jfind c i 0 = i := rfl
    omega
  | k + 1, i, e, h1, h2 => by
    have hd : jfind c i (k + 1) = if c i then i else jfind c (i + 1) k := rfl
    rw [hd] at h2
    cases hc : c i
    · rw [hc, if_neg (by simp)] at h2
      by_cases q : e = i
      · subst q; exact hc
      · exact jfind_ok k (i + 1) e (by omega) h2
    · rw [hc, if_pos rfl] at h2
      omega
theorem jfind_end {c : Nat → Bool} : ∀ k i, jfind c i k < i + k → c (jfind c i k) = true
  | 0, i, h => by
    have : jfind c i 0 = i := rfl
    omega
  | k + 1, i, h => by
    have hd : jfind c i (k + 1) = if c i then i else jfind c (i + 1) k := rfl
    rw [hd] at h ⊢
    cases hc : c i
    · rw [hc, if_neg (by simp)] at h
      rw [if_neg (by simp)]
      exact jfind_end k (i + 1) (by omega)
    · rw [if_pos rfl]; exact hc
theorem kRn_ok {okw : Nat → Bool} {j : Nat} (h : j < kRn okw r n) : okw (r + j) = true := by
  unfold kRn at h
  have := jfind_ok (c := fun e => !okw e) (n - r) r (r + j) (by omega) (by omega)
  simpa using this
/-- behind t good rows a run is t shorter -/
theorem kRn_sub {okw : Nat → Bool} {t : Nat} (h : t ≤ kRn okw r n) (hr : r ≤ n) : kRn okw (r + t) n = kRn okw r n - t := by
  have hle := kRn_le (okw := okw) hr
  have hle2 := kRn_le (okw := okw) (r := r + t) (n := n) (by omega)
  have b := jfind_le (c := fun e => !okw e) (n - r) r
  have b2 := jfind_le (c := fun e => !okw e) (n - (r + t)) (r + t)
  rcases Nat.lt_trichotomy (kRn okw (r + t) n) (kRn okw r n - t) with c | c | c
  · exfalso
    have h1 := jfind_end (c := fun e => !okw e) (n - (r + t)) (r + t) (by unfold kRn at *; omega)
    have h2 := kRn_ok (okw := okw) (r := r) (n := n) (j := t + kRn okw (r + t) n) (by omega)
    have e : jfind (fun e => !okw e) (r + t) (n - (r + t)) = r + (t + kRn okw (r + t) n) := by unfold kRn; omega
    rw [e, h2] at h1
    exact absurd h1 (by simp)
  · exact c
  · exfalso
    have h1 := jfind_end (c := fun e => !okw e) (n - r) r (by unfold kRn at *; omega)
    have h2 := kRn_ok (okw := okw) (r := r + t) (n := n) (j := kRn okw r n - t) (by omega)
    have e : jfind (fun e => !okw e) r (n - r) = r + t + (kRn okw r n - t) := by
      have : kRn okw r n = jfind (fun e => !okw e) r (n - r) - r := rfl
      omega
    rw [e, h2] at h1
    exact absurd h1 (by simp)
/-- what holds of a row's state while wants are gone over -/
def kRI (p : Nat → Nat) (ok : Nat → Nat → Bool) (Ln Cn : Nat → Nat) (W n : Nat) (most : Nat → Nat) (r : Nat) (s : Nat × Nat × Nat) : Prop := most (r + 1) ≤ s.1 ∧ (s.2.1 = 0 → s.1 = most (r + 1)) ∧ (0 < s.2.1 → s.2.2 < W ∧ s.2.1 ≤ kRn (ok s.2.2) r n ∧ Ln s.2.2 ≤ dS p r s.2.1 ∧ s.1 = dS p r s.2.1 * Cn s.2.2 + most (r + s.2.1))
theorem kRI_up {j : Nat} {s : Nat × Nat × Nat} (hw : w < W) (hj : j < kRn (ok w) r n) (h : kRI p ok Ln Cn W n most r s) : kRI p ok Ln Cn W n most r (kIn p most r (Ln w) (Cn w) w j s) := by
  unfold kIn kUp
  by_cases hL : Ln w ≤ dS p r (j + 1)
  · rw [if_pos hL]
    by_cases q : s.1 < dS p r (j + 1) * Cn w + most (r + j + 1) ∨ (dS p r (j + 1) * Cn w + most (r + j + 1) = s.1 ∧ j + 1 < s.2.1)
    · rw [if_pos q]
      obtain ⟨h1, h2, h3⟩ := h
      refine ⟨?_, fun e => absurd e (by show ¬ j + 1 = 0; omega), fun _ => ⟨hw, hj, hL, rfl⟩⟩
      show most (r + 1) ≤ dS p r (j + 1) * Cn w + most (r + j + 1)
      omega
    · rw [if_neg q]; exact h
  · rw [if_neg hL]; exact h
theorem kRI_ins (hw : w < W) : ∀ k j (s : Nat × Nat × Nat), j + k ≤ kRn (ok w) r n → kRI p ok Ln Cn W n most r s → kRI p ok Ln Cn W n most r (jfor (kIn p most r (Ln w) (Cn w) w) j k s)
  | 0, _, _, _, h => h
  | k + 1, j, s, hj, h => kRI_ins hw k (j + 1) _ (by omega) (kRI_up hw (by omega) h)
theorem kRI_row : ∀ k w (s : Nat × Nat × Nat), w + k = W → kRI p ok Ln Cn W n most r s → kRI p ok Ln Cn W n most r (jfor (fun w s => jfor (kIn p most r (Ln w) (Cn w) w) 0 (kRn (ok w) r n) s) w k s)
  | 0, _, _, _, h => h
  | k + 1, w, s, hw, h => kRI_row k (w + 1) _ (by omega) (kRI_ins (show w < W by omega) _ 0 s (by omega) h)
theorem kRow_I : kRI p ok Ln Cn W n most r (kRow p ok Ln Cn W n most r) := kRI_row W 0 _ (by omega) ⟨Nat.le_refl _, fun _ => rfl, fun h => absurd h (Nat.lt_irrefl _)⟩
theorem kRow_dom : ∀ k w (s : Nat × Nat × Nat), (∀ w', w ≤ w' → w' < w + k → ∀ j, j < kRn (ok w') r n → Ln w' ≤ dS p r (j + 1) → dS p r (j + 1) * Cn w' + most (r + j + 1) ≤ (jfor (fun w s => jfor (kIn p most r (Ln w) (Cn w) w) 0 (kRn (ok w) r n) s) w k s).1) ∧ s.1 ≤ (jfor (fun w s => jfor (kIn p most r (Ln w) (Cn w) w) 0 (kRn (ok w) r n) s) w k s).1
  | 0, w, s => ⟨fun w' h1 h2 => by omega, Nat.le_refl _⟩
  | k + 1, w, s => by
    obtain ⟨i1, i2⟩ := kRow_dom k (w + 1) (jfor (kIn p most r (Ln w) (Cn w) w) 0 (kRn (ok w) r n) s)
    refine ⟨fun w' h1 h2 j hj hL => ?_, Nat.le_trans (kIns_mono _ 0 s) i2⟩
    by_cases e : w' = w
    · subst e
      exact Nat.le_trans (kIns_dom _ 0 s j (by omega) (by omega) hL) i2
    · exact i1 w' (by omega) (by omega) j hj hL
/-- what holds of all rows from n - q on -/
def kDI (p : Nat → Nat) (ok : Nat → Nat → Bool) (Ln Cn : Nat → Nat) (W n q : Nat) (A : (Nat → Nat) × (Nat → Nat) × (Nat → Nat)) : Prop := A.1 n = 0 ∧ ∀ r, n - q ≤ r → r < n → kRI p ok Ln Cn W n A.1 r (A.1 r, A.2.1 r, A.2.2 r) ∧ (∀ w, w < W → ∀ j, j < kRn (ok w) r n → Ln w ≤ dS p r (j + 1) → dS p r (j + 1) * Cn w + A.1 (r + j + 1) ≤ A.1 r)
theorem kDp_I : ∀ q, q ≤ n → kDI p ok Ln Cn W n q (kDp p ok Ln Cn W n q)
  | 0, _ => ⟨rfl, fun r h1 h2 => by omega⟩
  | q + 1, hq => by
    obtain ⟨i0, i1⟩ := kDp_I q (by omega)
    show kDI p ok Ln Cn W n (q + 1) (jup (kDp p ok Ln Cn W n q).1 (n - (q + 1)) (kRow p ok Ln Cn W n (kDp p ok Ln Cn W n q).1 (n - (q + 1))).1, jup (kDp p ok Ln Cn W n q).2.1 (n - (q + 1)) (kRow p ok Ln Cn W n (kDp p ok Ln Cn W n q).1 (n - (q + 1))).2.1, jup (kDp p ok Ln Cn W n q).2.2 (n - (q + 1)) (kRow p ok Ln Cn W n (kDp p ok Ln Cn W n q).1 (n - (q + 1))).2.2)
    generalize kDp p ok Ln Cn W n q = A at *
    have hR := kRow_I (p := p) (ok := ok) (Ln := Ln) (Cn := Cn) (W := W) (n := n) (most := A.1) (r := n - (q + 1))
    have hD := (kRow_dom (p := p) (ok := ok) (Ln := Ln) (Cn := Cn) (n := n) (most := A.1) (r := n - (q + 1)) W 0 (A.1 (n - (q + 1) + 1), 0, 0)).1
    change ∀ w', 0 ≤ w' → w' < 0 + W → ∀ j, j < kRn (ok w') (n - (q + 1)) n → Ln w' ≤ dS p (n - (q + 1)) (j + 1) → dS p (n - (q + 1)) (j + 1) * Cn w' + A.1 (n - (q + 1) + j + 1) ≤ (kRow p ok Ln Cn W n A.1 (n - (q + 1))).1 at hD
    generalize kRow p ok Ln Cn W n A.1 (n - (q + 1)) = s at *
    generalize hr0 : n - (q + 1) = r0 at hR hD ⊢
    refine ⟨?_, fun r h1 h2 => ?_⟩
    · show jup A.1 r0 s.1 n = 0
      rw [jup_ne (by omega)]; exact i0
    · by_cases e : r = r0
      · subst e
        refine ⟨?_, fun w hw j hj hL => ?_⟩
        · show kRI p ok Ln Cn W n (jup A.1 r s.1) r (jup A.1 r s.1 r, jup A.2.1 r s.2.1 r, jup A.2.2 r s.2.2 r)
          rw [jup_same, jup_same, jup_same]
          obtain ⟨b1, b2, b3⟩ := hR
          refine ⟨?_, fun q => ?_, fun q => ?_⟩
          · show jup A.1 r s.1 (r + 1) ≤ s.1
            rw [jup_ne (by omega)]; exact b1
          · show s.1 = jup A.1 r s.1 (r + 1)
            rw [jup_ne (by omega)]; exact b2 q
          · obtain ⟨d1, d2, d3, d4⟩ := b3 q
            refine ⟨d1, d2, d3, ?_⟩
            show s.1 = _ + jup A.1 r s.1 (r + s.2.1)
            have q : 0 < s.2.1 := q
            rw [jup_ne (by omega)]; exact d4
        · show _ + jup A.1 r s.1 (r + j + 1) ≤ jup A.1 r s.1 r
          rw [jup_same, jup_ne (by omega)]
          exact hD w (by omega) (by omega) j hj hL
      · obtain ⟨b1, b2⟩ := i1 r (by omega) h2
        have nx : ∀ t, jup A.1 r0 s.1 (r + t) = A.1 (r + t) := fun t => jup_ne (by omega)
        refine ⟨?_, fun w hw j hj hL => ?_⟩
        · show kRI p ok Ln Cn W n (jup A.1 r0 s.1) r (jup A.1 r0 s.1 r, jup A.2.1 r0 s.2.1 r, jup A.2.2 r0 s.2.2 r)
          rw [jup_ne e, jup_ne e, jup_ne e]
          obtain ⟨c1, c2, c3⟩ := b1
          refine ⟨?_, fun q => ?_, fun q => ?_⟩
          · show jup A.1 r0 s.1 (r + 1) ≤ _
            rw [nx 1]; exact c1
          · show _ = jup A.1 r0 s.1 (r + 1)
            rw [nx 1]; exact c2 q
          · obtain ⟨d1, d2, d3, d4⟩ := c3 q
            exact ⟨d1, d2, d3, by rw [nx]; exact d4⟩
        · show _ + jup A.1 r0 s.1 (r + j + 1) ≤ jup A.1 r0 s.1 r
          rw [jup_ne e, show r + j + 1 = r + (j + 1) by omega, nx]
          have := b2 w hw j hj hL
          rw [show r + j + 1 = r + (j + 1) by omega] at this
          exact this
theorem kDp_b (hC : ∀ w, w < W → Cn w ≤ 999) {q : Nat} {A : (Nat → Nat) × (Nat → Nat) × (Nat → Nat)} (hA : kDI p ok Ln Cn W n q A) (hq : q ≤ n) : ∀ j r, r + j = n → n - q ≤ r → A.1 r ≤ 999 * dS p r j
  | 0, r, h, _ => by
    have : r = n := by omega
    subst this
    rw [hA.1]; omega
  | j + 1, r, h, h2 => by
    obtain ⟨⟨b1, b2, b3⟩, -⟩ := hA.2 r h2 (by omega)
    have hs : dS p r (j + 1) = dS p r 1 + dS p (r + 1) j := by rw [show j + 1 = 1 + j by omega]; exact dS_add p r 1 j
    rcases Nat.eq_zero_or_pos (A.2.1 r) with e | e
    · have c1 : A.1 r = A.1 (r + 1) := b2 e
      have := kDp_b hC hA hq j (r + 1) (by omega) (by omega)
      rw [c1, hs]
      omega
    · obtain ⟨d1, d2, d3, d4⟩ := b3 e
      have d1 : A.2.2 r < W := d1
      have d2 : A.2.1 r ≤ kRn (ok (A.2.2 r)) r n := d2
      have d4 : A.1 r = dS p r (A.2.1 r) * Cn (A.2.2 r) + A.1 (r + A.2.1 r) := d4
      have hrun := kRn_le (okw := ok (A.2.2 r)) (r := r) (n := n) (by omega)
      have ih := kDp_b hC hA hq (j + 1 - A.2.1 r) (r + A.2.1 r) (by omega) (by omega)
      have hs2 : dS p r (j + 1) = dS p r (A.2.1 r) + dS p (r + A.2.1 r) (j + 1 - A.2.1 r) := by rw [← dS_add, show A.2.1 r + (j + 1 - A.2.1 r) = j + 1 by omega]
      have hm : dS p r (A.2.1 r) * Cn (A.2.2 r) ≤ dS p r (A.2.1 r) * 999 := Nat.mul_le_mul_left _ (hC _ d1)
      rw [d4, hs2]
      omega
  termination_by j => j
  decreasing_by all_goals omega
end CUTA
