/-! ===== melting back ===== -/
def stMb (R : Nat → Int32) (B : Nat → Int64) (r : Nat) (s : (Nat → Int32) × (Nat → Int64)) : (Nat → Int32) × (Nat → Int64) := (jup (jup s.1 9 (s.1 9 + R (6 * r + 3))) 13 (s.1 13 - R (6 * r + 2)), jfor (fun k M => jup M k (M k + B (6 * r + k))) 0 6 s.2)
def kBkE (R S : Nat → Int32) (i : Nat) : Nat → Int32 := jup (jup (jup (jup (jup S 15 (nI i)) 10 (if i = 0 then S 6 else R (6 * (i - 1)))) 11 (if i = 0 then S 5 else R (6 * (i - 1) + 1))) 12 (if i = 0 then 0 else R (6 * (i - 1) + 2))) 0 (if S 7 ≤ S 14 then 5 else 1)
def kBk (P : Pt) (n i : Nat) : Pt := (kBkE (qR P) (jfor (stMb (qR P) (qB P)) i (n - i) (qS P, qM P)).1 i, qR P, qB P, (jfor (stMb (qR P) (qB P)) i (n - i) (qS P, qM P)).2, qU P, qH P)
section MELT
variable {d a c nf nm : Nat} {x y z u v w : Int32} {m m' : jmM} {n i : Nat} {P : Pt} {Q : Option Value → jmM → Prop}
theorem jadd6 {B : Nat → Int64} {M : Nat → Int64} {r : Nat} : ∀ q k0 k, (jfor (fun k M => jup M k (M k + B (6 * r + k))) k0 q M) k = if k0 ≤ k ∧ k < k0 + q then M k + B (6 * r + k) else M k := by
  intro q
  induction q generalizing M with
  | zero => intro k0 k; rw [if_neg (by omega)]; rfl
  | succ q ih =>
    intro k0 k
    show (jfor (fun k M => jup M k (M k + B (6 * r + k))) (k0 + 1) q (jup M k0 (M k0 + B (6 * r + k0)))) k = _
    rw [ih]
    simp only [jup_eq]
    by_cases e : k = k0
    · subst e; rw [if_neg (by omega), if_pos rfl, if_pos (by omega)]
    · by_cases hk : k0 + 1 ≤ k ∧ k < k0 + 1 + q
      · rw [if_pos hk, if_neg e, if_pos (by omega)]
      · rw [if_neg hk, if_neg e, if_neg (by omega)]
/-- the loop on the reference, with what it keeps -/
theorem kBk_inv (h1 : GP1 nf nm n P) (hi : i < n) : ∀ q r s, r + q = n → i ≤ r → ((s.1 9).toInt = (qS P 9).toInt + kLA P n i - kLA P n r ∧ (∀ j, j ≠ 9 → j ≠ 13 → s.1 j = qS P j) ∧ ∀ k, k < 6 → (s.2 k).toInt = (qM P k).toInt + isum (fun r => (qB P (6 * r + k)).toInt) r - isum (fun r => (qB P (6 * r + k)).toInt) i) → ((jfor (stMb (qR P) (qB P)) r q s).1 9).toInt = kLA P n i ∧ (∀ j, j ≠ 9 → j ≠ 13 → (jfor (stMb (qR P) (qB P)) r q s).1 j = qS P j) ∧ ∀ k, k < 6 → ((jfor (stMb (qR P) (qB P)) r q s).2 k).toInt = (qM P k).toInt + isum (fun r => (qB P (6 * r + k)).toInt) n - isum (fun r => (qB P (6 * r + k)).toInt) i
  | 0, r, s, hr, hir, ⟨a1, a2, a3⟩ => by
    have : r = n := by omega
    subst this
    refine ⟨?_, a2, a3⟩
    show (s.1 9).toInt = _
    have : kLA P r r = (qS P 9).toInt := by unfold kLA; rw [if_neg (Nat.lt_irrefl _)]
    omega
  | q + 1, r, s, hr, hir, ⟨a1, a2, a3⟩ => by
    show ((jfor (stMb (qR P) (qB P)) (r + 1) q (stMb (qR P) (qB P) r s)).1 9).toInt = _ ∧ (∀ j, j ≠ 9 → j ≠ 13 → (jfor (stMb (qR P) (qB P)) (r + 1) q (stMb (qR P) (qB P) r s)).1 j = qS P j) ∧ ∀ k, k < 6 → ((jfor (stMb (qR P) (qB P)) (r + 1) q (stMb (qR P) (qB P) r s)).2 k).toInt = _
    have hall := h1.2.2.2.2.2.2.1
    obtain ⟨⟨b1, b2, b3, b4⟩, -⟩ := hall r (by omega)
    have hla0 := h1.2.2.2.2.2.1
    have hg := h1.2.2.1.1
    have hle : ∀ t, t ≤ n → kLA P n t ≤ (qS P 3).toInt ∧ 0 ≤ kLA P n t := by
      intro t
      induction t with
      | zero => intro _; omega
      | succ t ih => intro ht; have := (hall t (by omega)).1; have := ih (by omega); omega
    have l1 := hle i (by omega)
    have l2 := hle r (by omega)
    have l3 := hle n (Nat.le_refl _)
    have l4 := hle (r + 1) (by omega)
    have l9 : kLA P n n = (qS P 9).toInt := by unfold kLA; rw [if_neg (Nat.lt_irrefl _)]
    have hmono : ∀ t, r ≤ t → t ≤ n → kLA P n t ≤ kLA P n r := by
      intro t h1 h2
      induction t with
      | zero => have : r = 0 := by omega
                subst this; omega
      | succ t ih =>
        by_cases e : r = t + 1
        · subst e; omega
        · have := (hall t (by omega)).1; have := ih (by omega) (by omega); omega
    have hmn := hmono n (by omega) (Nat.le_refl _)
    have hm1 := hmono (r + 1) (by omega) (by omega)
    have hmono2 : ∀ t, i ≤ t → t ≤ n → kLA P n t ≤ kLA P n i := by
      intro t h1 h2
      induction t with
      | zero => have : i = 0 := by omega
                subst this; omega
      | succ t ih =>
        by_cases e : i = t + 1
        · subst e; omega
        · have := (hall t (by omega)).1; have := ih (by omega) (by omega); omega
    have hm2 := hmono2 (r + 1) (by omega) (by omega)
    refine kBk_inv h1 hi q (r + 1) (stMb (qR P) (qB P) r s) (by omega) (by omega) ⟨?_, ?_, ?_⟩
    · show (jup (jup s.1 9 (s.1 9 + qR P (6 * r + 3))) 13 (s.1 13 - qR P (6 * r + 2)) 9).toInt = _
      rw [jup_ne (by decide), jup_same, i32_add (by omega) (by omega)]
      omega
    · intro j h9 h13
      show jup (jup s.1 9 (s.1 9 + qR P (6 * r + 3))) 13 (s.1 13 - qR P (6 * r + 2)) j = _
      rw [jup_ne h13, jup_ne h9, a2 j h9 h13]
    · intro k hk
      show ((jfor (fun k M => jup M k (M k + qB P (6 * r + k))) 0 6 s.2) k).toInt = _
      have hst := h1.2.2.2.2.2.2.2 k hk
      obtain ⟨t1, t2, t3, t4, t5⟩ := hst
      have hdn := h1.2.2.2.1.2.2.2.1
      have hms : ∀ t, t ≤ n → isum (fun r => (qB P (6 * r + k)).toInt) t ≤ isum (fun r => (qB P (6 * r + k)).toInt) n ∧ 0 ≤ isum (fun r => (qB P (6 * r + k)).toInt) t := by
        intro t ht
        refine ⟨?_, isum_nonneg t (fun r hr => t4 r (by omega))⟩
        have : ∀ q t, t + q = n → isum (fun r => (qB P (6 * r + k)).toInt) t ≤ isum (fun r => (qB P (6 * r + k)).toInt) n := by
          intro q
          induction q with
          | zero => intro t e; have : t = n := by omega
                    subst this; exact Int.le_refl _
          | succ q ih =>
            intro t e
            have h1 := ih (t + 1) (by omega)
            have h2 := t4 t (by omega)
            have h3 : isum (fun r => (qB P (6 * r + k)).toInt) (t + 1) = isum (fun r => (qB P (6 * r + k)).toInt) t + (qB P (6 * t + k)).toInt := rfl
            omega
        exact this (n - t) t (by omega)
      have hs1 := hms (r + 1) (by omega)
      have hs2 := hms i (by omega)
      have hs3 := hms r (by omega)
      have hsr : isum (fun r => (qB P (6 * r + k)).toInt) (r + 1) = isum (fun r => (qB P (6 * r + k)).toInt) r + (qB P (6 * r + k)).toInt := rfl
      have hb := t4 r (by omega)
      have ha := a3 k hk
      rw [jadd6, if_pos (by omega), i64_add (by omega) (by omega)]
      omega
end MELT
