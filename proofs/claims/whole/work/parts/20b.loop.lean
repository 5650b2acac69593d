/-! ===== loops that count ===== -/
def jfor {σ : Type} (f : Nat → σ → σ) : Nat → Nat → σ → σ
  | _, 0, s => s
  | i, k + 1, s => jfor f (i + 1) k (f i s)
theorem loop_iff {σ : Type} {P : Nat → σ → Prop} {E : σ → Prop} {n : Nat} (f : Nat → σ → σ) (hs : ∀ i s, i < n → (P i s ↔ P (i + 1) (f i s))) (he : ∀ s, P n s ↔ E s) : ∀ k i s, i + k = n → (P i s ↔ E (jfor f i k s))
  | 0, i, s, h => by
    have : i = n := by omega
    subst this; exact he s
  | k + 1, i, s, h => (hs i s (by omega)).trans (loop_iff f hs he k (i + 1) (f i s) (by omega))
/-- with an invariant -/
theorem loop_inv {σ : Type} {P : Nat → σ → Prop} {E : σ → Prop} {n : Nat} (I : Nat → σ → Prop) (f : Nat → σ → σ) (hs : ∀ i s, i < n → I i s → (P i s ↔ P (i + 1) (f i s)) ∧ I (i + 1) (f i s)) (he : ∀ s, I n s → (P n s ↔ E s)) : ∀ k i s, i + k = n → I i s → (P i s ↔ E (jfor f i k s))
  | 0, i, s, h, hi => by
    have : i = n := by omega
    subst this; exact he s hi
  | k + 1, i, s, h, hi => ((hs i s (by omega) hi).1).trans (loop_inv I f hs he k (i + 1) (f i s) (by omega) (hs i s (by omega) hi).2)
theorem jfor_inv {σ : Type} (I : Nat → σ → Prop) (f : Nat → σ → σ) {n : Nat} (hs : ∀ i s, i < n → I i s → I (i + 1) (f i s)) : ∀ k i s, i + k = n → I i s → I n (jfor f i k s)
  | 0, i, s, h, hi => by
    have : i = n := by omega
    subst this; exact hi
  | k + 1, i, s, h, hi => jfor_inv I f hs k (i + 1) (f i s) (by omega) (hs i s (by omega) hi)
theorem jfor_congr {σ : Type} (I : Nat → σ → Prop) (f g : Nat → σ → σ) {n : Nat} (hs : ∀ i s, i < n → I i s → f i s = g i s ∧ I (i + 1) (f i s)) : ∀ k i s, i + k = n → I i s → jfor f i k s = jfor g i k s
  | 0, _, _, _, _ => rfl
  | k + 1, i, s, h, hi => by
    show jfor f (i + 1) k (f i s) = jfor g (i + 1) k (g i s)
    rw [← (hs i s (by omega) hi).1]
    exact jfor_congr I f g hs k (i + 1) (f i s) (by omega) (hs i s (by omega) hi).2
theorem jfor_succ {σ : Type} (f : Nat → σ → σ) : ∀ k i s, jfor f i (k + 1) s = f (i + k) (jfor f i k s)
  | 0, _, _ => rfl
  | k + 1, i, s => by
    show jfor f (i + 1) (k + 1) (f i s) = _
    rw [jfor_succ f k (i + 1) (f i s)]
    show f (i + 1 + k) _ = f (i + (k + 1)) _
    rw [show i + 1 + k = i + (k + 1) by omega]
    rfl
/-- a search: the first place from i on, at most k places, where c; else the end -/
def jfind (c : Nat → Bool) : Nat → Nat → Nat
  | i, 0 => i
  | i, k + 1 => if c i then i else jfind c (i + 1) k
theorem loop_any {σ τ : Type} {P : Nat → σ → τ → Prop} {E : σ → Prop} {n : Nat} (f : Nat → σ → σ) (hs : ∀ i s t, i < n → ∃ t', P i s t ↔ P (i + 1) (f i s) t') (he : ∀ s t, P n s t ↔ E s) : ∀ k i s t, i + k = n → (P i s t ↔ E (jfor f i k s))
  | 0, i, s, t, h => by
    have : i = n := by omega
    subst this; exact he s t
  | k + 1, i, s, t, h => by
    obtain ⟨t', h'⟩ := hs i s t (by omega)
    exact h'.trans (loop_any f hs he k (i + 1) (f i s) t' (by omega))
theorem loop_find {P E : Nat → Prop} {n : Nat} {c : Nat → Bool} (hs : ∀ i, i < n → (P i ↔ if c i then E i else P (i + 1))) (he : P n ↔ E n) : ∀ k i, i + k = n → (P i ↔ E (jfind c i k))
  | 0, i, h => by
    have : i = n := by omega
    subst this; exact he
  | k + 1, i, h => by
    rw [hs i (by omega)]
    show _ ↔ E (if c i then i else jfind c (i + 1) k)
    cases hc : c i
    · rw [if_neg (by simp), if_neg (by simp)]; exact loop_find hs he k (i + 1) (by omega)
    · rw [if_pos rfl, if_pos rfl]
/-- a loop that may break off -/
def jbrk {σ : Type} (c : Nat → σ → Bool) (f : Nat → σ → σ) : Nat → Nat → σ → Nat × σ
  | i, 0, s => (i, s)
  | i, k + 1, s => if c i s then (i, s) else jbrk c f (i + 1) k (f i s)
theorem loop_brk {σ : Type} {P E : Nat → σ → Prop} {n : Nat} {c : Nat → σ → Bool} {f : Nat → σ → σ} (hs : ∀ i s, i < n → (P i s ↔ if c i s then E i s else P (i + 1) (f i s))) (he : ∀ s, P n s ↔ E n s) : ∀ k i s, i + k = n → (P i s ↔ E (jbrk c f i k s).1 (jbrk c f i k s).2)
  | 0, i, s, h => by
    have : i = n := by omega
    subst this; exact he s
  | k + 1, i, s, h => by
    rw [hs i s (by omega)]
    show _ ↔ E (if c i s then (i, s) else jbrk c f (i + 1) k (f i s)).1 (if c i s then (i, s) else jbrk c f (i + 1) k (f i s)).2
    cases hc : c i s
    · rw [if_neg (by simp), if_neg (by simp)]; exact loop_brk hs he k (i + 1) (f i s) (by omega)
    · rw [if_pos rfl, if_pos rfl]
theorem jbrk_le {σ : Type} {c : Nat → σ → Bool} {f : Nat → σ → σ} : ∀ k i s, i ≤ (jbrk c f i k s).1 ∧ (jbrk c f i k s).1 ≤ i + k
  | 0, i, s => ⟨Nat.le_refl _, Nat.le_refl _⟩
  | k + 1, i, s => by
    show i ≤ (if c i s then (i, s) else jbrk c f (i + 1) k (f i s)).1 ∧ (if c i s then (i, s) else jbrk c f (i + 1) k (f i s)).1 ≤ _
    cases hc : c i s
    · rw [if_neg (by simp)]; have := jbrk_le (c := c) (f := f) k (i + 1) (f i s); omega
    · rw [if_pos rfl]; exact ⟨Nat.le_refl _, by omega⟩
theorem jfind_le {c : Nat → Bool} : ∀ k i, i ≤ jfind c i k ∧ jfind c i k ≤ i + k
  | 0, i => ⟨Nat.le_refl _, Nat.le_refl _⟩
  | k + 1, i => by
    show i ≤ (if c i then i else jfind c (i + 1) k) ∧ (if c i then i else jfind c (i + 1) k) ≤ _
    cases hc : c i
    · rw [if_neg (by simp)]; have := jfind_le (c := c) k (i + 1); omega
    · rw [if_pos rfl]; exact ⟨Nat.le_refl _, by omega⟩
theorem loop_anyI {σ τ : Type} {P : Nat → σ → τ → Prop} {E : σ → Prop} {n : Nat} (I : Nat → σ → Prop) (f : Nat → σ → σ) (hs : ∀ i s t, i < n → I i s → (∃ t', P i s t ↔ P (i + 1) (f i s) t') ∧ I (i + 1) (f i s)) (he : ∀ s t, I n s → (P n s t ↔ E s)) : ∀ k i s t, i + k = n → I i s → (P i s t ↔ E (jfor f i k s))
  | 0, i, s, t, h, hi => by
    have : i = n := by omega
    subst this; exact he s t hi
  | k + 1, i, s, t, h, hi => by
    obtain ⟨⟨t', h'⟩, h''⟩ := hs i s t (by omega) hi
    exact h'.trans (loop_anyI I f hs he k (i + 1) (f i s) t' (by omega) h'')
