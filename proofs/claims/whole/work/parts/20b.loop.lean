/-! ===== loops that count ===== -/
def jfor {σ : Type} (f : Nat → σ → σ) : Nat → Nat → σ → σ
  | _, 0, s => s
  | i, k + 1, s => jfor f (i + 1) k (f i s)
theorem loop_iff {σ : Type} {P : Nat → σ → Prop} {E : σ → Prop} {n : Nat} (f : Nat → σ → σ) (hs : ∀ i s, i < n → (P i s ↔ P (i + 1) (f i s))) (he : ∀ s, P n s ↔ E s) : ∀ k i s, i + k = n → (P i s ↔ E (jfor f i k s))
  | 0, i, s, h => by
    have : i = n := by omega
    subst this; exact he s
  | k + 1, i, s, h => (hs i s (by omega)).trans (loop_iff f hs he k (i + 1) (f i s) (by omega))
/-- with an invariant -/
theorem loop_inv {σ : Type} {P : Nat → σ → Prop} {E : σ → Prop} {n : Nat} (I : Nat → σ → Prop) (f : Nat → σ → σ) (hs : ∀ i s, i < n → I i s → (P i s ↔ P (i + 1) (f i s)) ∧ I (i + 1) (f i s)) (he : ∀ s, I n s → (P n s ↔ E s)) : ∀ k i s, i + k = n → I i s → (P i s ↔ E (jfor f i k s))
  | 0, i, s, h, hi => by
    have : i = n := by omega
    subst this; exact he s hi
  | k + 1, i, s, h, hi => ((hs i s (by omega) hi).1).trans (loop_inv I f hs he k (i + 1) (f i s) (by omega) (hs i s (by omega) hi).2)
theorem jfor_inv {σ : Type} (I : Nat → σ → Prop) (f : Nat → σ → σ) {n : Nat} (hs : ∀ i s, i < n → I i s → I (i + 1) (f i s)) : ∀ k i s, i + k = n → I i s → I n (jfor f i k s)
  | 0, i, s, h, hi => by
    have : i = n := by omega
    subst this; exact hi
  | k + 1, i, s, h, hi => jfor_inv I f hs k (i + 1) (f i s) (by omega) (hs i s (by omega) hi)
theorem jfor_congr {σ : Type} (I : Nat → σ → Prop) (f g : Nat → σ → σ) {n : Nat} (hs : ∀ i s, i < n → I i s → f i s = g i s ∧ I (i + 1) (f i s)) : ∀ k i s, i + k = n → I i s → jfor f i k s = jfor g i k s
  | 0, _, _, _, _ => rfl
  | k + 1, i, s, h, hi => by
    show jfor f (i + 1) k (f i s) = jfor g (i + 1) k (g i s)
    rw [← (hs i s (by omega) hi).1]
    exact jfor_congr I f g hs k (i + 1) (f i s) (by omega) (hs i s (by omega) hi).2
theorem jfor_succ {σ : Type} (f : Nat → σ → σ) : ∀ k i s, jfor f i (k + 1) s = f (i + k) (jfor f i k s)
  | 0, _, _ => rfl
  | k + 1, i, s => by
    show jfor f (i + 1) (k + 1) (f i s) = _
    rw [jfor_succ f k (i + 1) (f i s)]
    show f (i + 1 + k) _ = f (i + (k + 1)) _
    rw [show i + 1 + k = i + (k + 1) by omega]
    rfl
/-- a search: the first place from i on, at most k places, where c; else the end -/
def jfind (c : Nat → Bool) : Nat → Nat → Nat
  | i, 0 => i
  | i, k + 1 => if c i then i else jfind c (i + 1) k
