/-! ===== one instruction of the abstract machine, as an equivalence ===== -/
def jK (d j pc : Nat) (L : List (Option Value)) (r : List Value) (Q : Option Value → jmM → Prop) : Option Value → jmM → Prop := fun v m => AW d j pc L (jpush v r) m Q
theorem jK_some {d j pc : Nat} {L : List (Option Value)} {r : List Value} {Q : Option Value → jmM → Prop} {v : Value} {m : jmM} : jK d j pc L r Q (some v) m ↔ AW d j pc L (v :: r) m Q := Iff.rfl
theorem jK_none {d j pc : Nat} {L : List (Option Value)} {r : List Value} {Q : Option Value → jmM → Prop} {m : jmM} : jK d j pc L r Q none m ↔ AW d j pc L r m Q := Iff.rfl
theorem jc1_int {x : Int32} : jc1 (some (.int x)) = some (.int x) := rfl
theorem jc1_ref {x : Nat} : jc1 (some (.ref x)) = some (.ref x) := rfl
theorem jc1_null : jc1 (some .null) = some .null := rfl
theorem jc1_none : jc1 none = none := rfl
theorem jc1_long {x : Int64} : jc1 (some (.long x)) = none := rfl
theorem jc1_rf {r : Option Nat} : jc1 (some (va_rf r)) = some (va_rf r) := by cases r <;> rfl
theorem va_rf_some {a : Nat} : va_rf (some a) = .ref a := rfl
theorem va_rf_none : va_rf none = .null := rfl
theorem lgc_lt {x y : Int64} : (lg_cmp x y < 0) ↔ x < y := by
  unfold lg_cmp
  split
  · next h => exact ⟨fun h2 => absurd h2 (by decide), fun h2 => (Int64.lt_irrefl (Int64.lt_trans h h2)).elim⟩
  · next h =>
    split
    · next h2 => subst h2; exact ⟨fun h2 => absurd h2 (by decide), fun h2 => absurd h2 h⟩
    · next h2 => exact ⟨fun _ => by rcases Int64.lt_or_lt_of_ne h2 with h3 | h3; exact h3; exact absurd h3 h, fun _ => by decide⟩
theorem lgc_gt {x y : Int64} : (0 < lg_cmp x y) ↔ y < x := by
  unfold lg_cmp
  split
  · next h => exact ⟨fun _ => h, fun _ => by decide⟩
  · next h => split <;> exact ⟨fun h2 => absurd h2 (by decide), fun h2 => absurd h2 h⟩
theorem lgc_eq {x y : Int64} : (lg_cmp x y = 0) ↔ x = y := by
  unfold lg_cmp
  split
  · next h => exact ⟨fun h2 => absurd h2 (by decide), fun h2 => by subst h2; exact (Int64.lt_irrefl h).elim⟩
  · next h =>
    split
    · next h2 => exact ⟨fun _ => h2, fun _ => rfl⟩
    · next h2 => exact ⟨fun h3 => absurd h3 (by decide), fun h3 => absurd h3 h2⟩
theorem lgc_le {x y : Int64} : (lg_cmp x y ≤ 0) ↔ x ≤ y := by
  rw [← Int32.not_lt, lgc_gt, Int64.not_lt]
theorem lgc_ge {x y : Int64} : (0 ≤ lg_cmp x y) ↔ y ≤ x := by
  rw [← Int32.not_lt, lgc_lt, Int64.not_lt]
section ALEM
variable {d j pc ow : Nat} {cc : ByteArray} {L : List (Option Value)} {r : List Value} {m : jmM} {Q : Option Value → jmM → Prop}
theorem A_iconst {n : Int} (hB : jB j = cc) (h : decode cc pc = .ok (.iconst n, 1)) {v : Int32} (hv : Int32.ofInt n = v) : AW d j pc L r m Q ↔ AW d j (pc + 1) L (.int v :: r) m Q := by subst hv; exact AW_dec hB h (Or.inl rfl)
theorem A_bipush {n : Int} (hB : jB j = cc) (h : decode cc pc = .ok (.bipush n, 2)) {v : Int32} (hv : (Int8.ofInt n).toInt32 = v) : AW d j pc L r m Q ↔ AW d j (pc + 2) L (.int v :: r) m Q := by subst hv; exact AW_dec hB h (Or.inl rfl)
theorem A_sipush {n : Int} (hB : jB j = cc) (h : decode cc pc = .ok (.sipush n, 3)) {v : Int32} (hv : (Int16.ofInt n).toInt32 = v) : AW d j pc L r m Q ↔ AW d j (pc + 3) L (.int v :: r) m Q := by subst hv; exact AW_dec hB h (Or.inl rfl)
theorem A_lconst {n : Fin 2} (hB : jB j = cc) (h : decode cc pc = .ok (.lconst n, 1)) {v : Int64} (hv : Int64.ofNat (n : Nat) = v) : AW d j pc L r m Q ↔ AW d j (pc + 1) L (.long v :: r) m Q := by subst hv; exact AW_dec hB h (Or.inl rfl)
theorem A_aconst_null (hB : jB j = cc) (h : decode cc pc = .ok (.aconst_null, 1)) : AW d j pc L r m Q ↔ AW d j (pc + 1) L (.null :: r) m Q := AW_dec hB h (Or.inl rfl)
theorem kgi_eq {i : Nat} {x : Int32} {f : Int32 → jRes} (h : L[i]? = some (some (.int x))) : kgi L i f = f x := by unfold kgi; rw [h]
theorem kgl_eq {i : Nat} {x : Int64} {f : Int64 → jRes} (h : L[i]? = some (some (.long x))) : kgl L i f = f x := by unfold kgl; rw [h]
theorem kgq_eq {i : Nat} {x : Nat} {f : Value → jRes} (h : L[i]? = some (some (.ref x))) : kgq L i f = f (.ref x) := by unfold kgq; rw [h]
theorem kgq_eq2 {i : Nat} {x : Option Nat} {f : Value → jRes} (h : L[i]? = some (some (va_rf x))) : kgq L i f = f (va_rf x) := by unfold kgq; rw [h]; cases x <;> rfl
theorem A_iload_n {k : Fin 4} {x : Int32} (hB : jB j = cc) (h : decode cc pc = .ok (.iload_n k, 1)) (hl : L[(k : Nat)]? = some (some (.int x))) : AW d j pc L r m Q ↔ AW d j (pc + 1) L (.int x :: r) m Q := by
  refine (AW_dec hB h (Or.inl rfl)).trans ?_
  show jSem _ _ _ (kgi L k _) ↔ _
  rw [kgi_eq hl]; exact Iff.rfl
theorem A_iload {k : Nat} {x : Int32} (hB : jB j = cc) (h : decode cc pc = .ok (.iload k, 2)) (hl : L[k]? = some (some (.int x))) : AW d j pc L r m Q ↔ AW d j (pc + 2) L (.int x :: r) m Q := by
  refine (AW_dec hB h (Or.inl rfl)).trans ?_
  show jSem _ _ _ (kgi L k _) ↔ _
  rw [kgi_eq hl]; exact Iff.rfl
theorem A_lload_n {k : Fin 4} {x : Int64} (hB : jB j = cc) (h : decode cc pc = .ok (.lload_n k, 1)) (hl : L[(k : Nat)]? = some (some (.long x))) : AW d j pc L r m Q ↔ AW d j (pc + 1) L (.long x :: r) m Q := by
  refine (AW_dec hB h (Or.inl rfl)).trans ?_
  show jSem _ _ _ (kgl L k _) ↔ _
  rw [kgl_eq hl]; exact Iff.rfl
theorem A_lload {k : Nat} {x : Int64} (hB : jB j = cc) (h : decode cc pc = .ok (.lload k, 2)) (hl : L[k]? = some (some (.long x))) : AW d j pc L r m Q ↔ AW d j (pc + 2) L (.long x :: r) m Q := by
  refine (AW_dec hB h (Or.inl rfl)).trans ?_
  show jSem _ _ _ (kgl L k _) ↔ _
  rw [kgl_eq hl]; exact Iff.rfl
theorem A_aload_n {k : Fin 4} {x : Nat} (hB : jB j = cc) (h : decode cc pc = .ok (.aload_n k, 1)) (hl : L[(k : Nat)]? = some (some (.ref x))) : AW d j pc L r m Q ↔ AW d j (pc + 1) L (.ref x :: r) m Q := by
  refine (AW_dec hB h (Or.inl rfl)).trans ?_
  show jSem _ _ _ (kgq L k (fun v => jN (pc + 1) L (v :: r) m)) ↔ _
  rw [kgq_eq hl]; exact Iff.rfl
theorem A_aload {k : Nat} {x : Nat} (hB : jB j = cc) (h : decode cc pc = .ok (.aload k, 2)) (hl : L[k]? = some (some (.ref x))) : AW d j pc L r m Q ↔ AW d j (pc + 2) L (.ref x :: r) m Q := by
  refine (AW_dec hB h (Or.inl rfl)).trans ?_
  show jSem _ _ _ (kgq L k (fun v => jN (pc + 2) L (v :: r) m)) ↔ _
  rw [kgq_eq hl]; exact Iff.rfl
theorem A_aload_nq {k : Fin 4} {x : Option Nat} (hB : jB j = cc) (h : decode cc pc = .ok (.aload_n k, 1)) (hl : L[(k : Nat)]? = some (some (va_rf x))) : AW d j pc L r m Q ↔ AW d j (pc + 1) L (va_rf x :: r) m Q := by
  refine (AW_dec hB h (Or.inl rfl)).trans ?_
  show jSem _ _ _ (kgq L k (fun v => jN (pc + 1) L (v :: r) m)) ↔ _
  rw [kgq_eq2 hl]; exact Iff.rfl
theorem A_aloadq {k : Nat} {x : Option Nat} (hB : jB j = cc) (h : decode cc pc = .ok (.aload k, 2)) (hl : L[k]? = some (some (va_rf x))) : AW d j pc L r m Q ↔ AW d j (pc + 2) L (va_rf x :: r) m Q := by
  refine (AW_dec hB h (Or.inl rfl)).trans ?_
  show jSem _ _ _ (kgq L k (fun v => jN (pc + 2) L (v :: r) m)) ↔ _
  rw [kgq_eq2 hl]; exact Iff.rfl
theorem jG_t {C : jCC} {K : Nat → List (Option Value) → List Value → jmM → Prop} {g : Prop} {hg : Decidable g} {x : jRes} (h : g) : jSem C K Q (jG g hg x) ↔ jSem C K Q x := jSem_G.trans ⟨fun h => h.2, fun h2 => ⟨h, h2⟩⟩
theorem A_istore_n {k : Fin 4} {x : Int32} (hB : jB j = cc) (h : decode cc pc = .ok (.istore_n k, 1)) (hl : (k : Nat) < L.length) {L2 : List (Option Value)} (he : jst1 L k (.int x) = L2) : AW d j pc L (.int x :: r) m Q ↔ AW d j (pc + 1) L2 r m Q := by
  subst he; exact (AW_dec hB h (Or.inl rfl)).trans (jG_t hl)
theorem A_istore {k : Nat} {x : Int32} (hB : jB j = cc) (h : decode cc pc = .ok (.istore k, 2)) (hl : k < L.length) {L2 : List (Option Value)} (he : jst1 L k (.int x) = L2) : AW d j pc L (.int x :: r) m Q ↔ AW d j (pc + 2) L2 r m Q := by
  subst he; exact (AW_dec hB h (Or.inl rfl)).trans (jG_t hl)
theorem A_lstore_n {k : Fin 4} {x : Int64} (hB : jB j = cc) (h : decode cc pc = .ok (.lstore_n k, 1)) (hl : (k : Nat) + 1 < L.length) {L2 : List (Option Value)} (he : jst2 L k (.long x) = L2) : AW d j pc L (.long x :: r) m Q ↔ AW d j (pc + 1) L2 r m Q := by
  subst he; exact (AW_dec hB h (Or.inl rfl)).trans (jG_t hl)
theorem A_lstore {k : Nat} {x : Int64} (hB : jB j = cc) (h : decode cc pc = .ok (.lstore k, 2)) (hl : k + 1 < L.length) {L2 : List (Option Value)} (he : jst2 L k (.long x) = L2) : AW d j pc L (.long x :: r) m Q ↔ AW d j (pc + 2) L2 r m Q := by
  subst he; exact (AW_dec hB h (Or.inl rfl)).trans (jG_t hl)
theorem A_astore_n {k : Fin 4} {x : Nat} (hB : jB j = cc) (h : decode cc pc = .ok (.astore_n k, 1)) (hl : (k : Nat) < L.length) {L2 : List (Option Value)} (he : jst1 L k (.ref x) = L2) : AW d j pc L (.ref x :: r) m Q ↔ AW d j (pc + 1) L2 r m Q := by
  subst he; exact (AW_dec hB h (Or.inl rfl)).trans (jG_t (g := (k : Nat) < L.length) hl)
theorem A_astore {k : Nat} {x : Nat} (hB : jB j = cc) (h : decode cc pc = .ok (.astore k, 2)) (hl : k < L.length) {L2 : List (Option Value)} (he : jst1 L k (.ref x) = L2) : AW d j pc L (.ref x :: r) m Q ↔ AW d j (pc + 2) L2 r m Q := by
  subst he; exact (AW_dec hB h (Or.inl rfl)).trans (jG_t (g := k < L.length) hl)
theorem A_astore_nq {k : Fin 4} {x : Option Nat} (hB : jB j = cc) (h : decode cc pc = .ok (.astore_n k, 1)) (hl : (k : Nat) < L.length) {L2 : List (Option Value)} (he : jst1 L k (va_rf x) = L2) : AW d j pc L (va_rf x :: r) m Q ↔ AW d j (pc + 1) L2 r m Q := by
  subst he; cases x <;> exact (AW_dec hB h (Or.inl rfl)).trans (jG_t (g := (k : Nat) < L.length) hl)
theorem A_astoreq {k : Nat} {x : Option Nat} (hB : jB j = cc) (h : decode cc pc = .ok (.astore k, 2)) (hl : k < L.length) {L2 : List (Option Value)} (he : jst1 L k (va_rf x) = L2) : AW d j pc L (va_rf x :: r) m Q ↔ AW d j (pc + 2) L2 r m Q := by
  subst he; cases x <;> exact (AW_dec hB h (Or.inl rfl)).trans (jG_t (g := k < L.length) hl)
theorem A_iinc {k : Nat} {n : Int} {x v : Int32} (hB : jB j = cc) (h : decode cc pc = .ok (.iinc k n, 3)) (hk : L[k]? = some (some (.int x))) (hl : k < L.length) (hv : Int32.ofInt n = v) {L2 : List (Option Value)} (he : jst1 L k (.int (x + v)) = L2) : AW d j pc L r m Q ↔ AW d j (pc + 3) L2 r m Q := by
  subst he; subst hv
  refine (AW_dec hB h (Or.inl rfl)).trans ?_
  show jSem _ _ _ (kgi L k _) ↔ _
  rw [kgi_eq hk]; exact jG_t hl
theorem A_iadd {x y : Int32} (hB : jB j = cc) (h : decode cc pc = .ok (.iadd, 1)) : AW d j pc L (.int y :: .int x :: r) m Q ↔ AW d j (pc + 1) L (.int (x + y) :: r) m Q := AW_dec hB h (Or.inl rfl)
theorem A_isub {x y : Int32} (hB : jB j = cc) (h : decode cc pc = .ok (.isub, 1)) : AW d j pc L (.int y :: .int x :: r) m Q ↔ AW d j (pc + 1) L (.int (x - y) :: r) m Q := AW_dec hB h (Or.inl rfl)
theorem A_imul {x y : Int32} (hB : jB j = cc) (h : decode cc pc = .ok (.imul, 1)) : AW d j pc L (.int y :: .int x :: r) m Q ↔ AW d j (pc + 1) L (.int (x * y) :: r) m Q := AW_dec hB h (Or.inl rfl)
theorem A_iand {x y : Int32} (hB : jB j = cc) (h : decode cc pc = .ok (.iand, 1)) : AW d j pc L (.int y :: .int x :: r) m Q ↔ AW d j (pc + 1) L (.int (x &&& y) :: r) m Q := AW_dec hB h (Or.inl rfl)
theorem A_ior {x y : Int32} (hB : jB j = cc) (h : decode cc pc = .ok (.ior, 1)) : AW d j pc L (.int y :: .int x :: r) m Q ↔ AW d j (pc + 1) L (.int (x ||| y) :: r) m Q := AW_dec hB h (Or.inl rfl)
theorem A_ishr {x y : Int32} (hB : jB j = cc) (h : decode cc pc = .ok (.ishr, 1)) : AW d j pc L (.int y :: .int x :: r) m Q ↔ AW d j (pc + 1) L (.int (x >>> (y &&& 31)) :: r) m Q := AW_dec hB h (Or.inl rfl)
theorem A_iushr {x y : Int32} (hB : jB j = cc) (h : decode cc pc = .ok (.iushr, 1)) : AW d j pc L (.int y :: .int x :: r) m Q ↔ AW d j (pc + 1) L (.int (x.toUInt32 >>> (y.toUInt32 &&& Int32.toUInt32 31)).toInt32 :: r) m Q := AW_dec hB h (Or.inl rfl)
theorem A_idiv {x y : Int32} (hB : jB j = cc) (h : decode cc pc = .ok (.idiv, 1)) : AW d j pc L (.int y :: .int x :: r) m Q ↔ ¬ y = 0 ∧ AW d j (pc + 1) L (.int (x / y) :: r) m Q := (AW_dec hB h (Or.inl rfl)).trans jSem_G
theorem A_ineg {x : Int32} (hB : jB j = cc) (h : decode cc pc = .ok (.ineg, 1)) : AW d j pc L (.int x :: r) m Q ↔ AW d j (pc + 1) L (.int (-x) :: r) m Q := AW_dec hB h (Or.inl rfl)
theorem A_ladd {x y : Int64} (hB : jB j = cc) (h : decode cc pc = .ok (.ladd, 1)) : AW d j pc L (.long y :: .long x :: r) m Q ↔ AW d j (pc + 1) L (.long (x + y) :: r) m Q := AW_dec hB h (Or.inl rfl)
theorem A_lsub {x y : Int64} (hB : jB j = cc) (h : decode cc pc = .ok (.lsub, 1)) : AW d j pc L (.long y :: .long x :: r) m Q ↔ AW d j (pc + 1) L (.long (x - y) :: r) m Q := AW_dec hB h (Or.inl rfl)
theorem A_lmul {x y : Int64} (hB : jB j = cc) (h : decode cc pc = .ok (.lmul, 1)) : AW d j pc L (.long y :: .long x :: r) m Q ↔ AW d j (pc + 1) L (.long (x * y) :: r) m Q := AW_dec hB h (Or.inl rfl)
theorem A_land {x y : Int64} (hB : jB j = cc) (h : decode cc pc = .ok (.land, 1)) : AW d j pc L (.long y :: .long x :: r) m Q ↔ AW d j (pc + 1) L (.long (x &&& y) :: r) m Q := AW_dec hB h (Or.inl rfl)
theorem A_lor {x y : Int64} (hB : jB j = cc) (h : decode cc pc = .ok (.lor, 1)) : AW d j pc L (.long y :: .long x :: r) m Q ↔ AW d j (pc + 1) L (.long (x ||| y) :: r) m Q := AW_dec hB h (Or.inl rfl)
theorem A_ldiv {x y : Int64} (hB : jB j = cc) (h : decode cc pc = .ok (.ldiv, 1)) : AW d j pc L (.long y :: .long x :: r) m Q ↔ ¬ y = 0 ∧ AW d j (pc + 1) L (.long (x / y) :: r) m Q := (AW_dec hB h (Or.inl rfl)).trans jSem_G
theorem A_lrem {x y : Int64} (hB : jB j = cc) (h : decode cc pc = .ok (.lrem, 1)) : AW d j pc L (.long y :: .long x :: r) m Q ↔ ¬ y = 0 ∧ AW d j (pc + 1) L (.long (x - x / y * y) :: r) m Q := (AW_dec hB h (Or.inl rfl)).trans jSem_G
theorem A_lshl {y : Int32} {x : Int64} (hB : jB j = cc) (h : decode cc pc = .ok (.lshl, 1)) : AW d j pc L (.int y :: .long x :: r) m Q ↔ AW d j (pc + 1) L (.long (x <<< (y.toInt64 &&& 63)) :: r) m Q := AW_dec hB h (Or.inl rfl)
theorem A_lcmp {x y : Int64} (hB : jB j = cc) (h : decode cc pc = .ok (.lcmp, 1)) : AW d j pc L (.long y :: .long x :: r) m Q ↔ AW d j (pc + 1) L (.int (lg_cmp x y) :: r) m Q := AW_dec hB h (Or.inl rfl)
theorem A_i2l {x : Int32} (hB : jB j = cc) (h : decode cc pc = .ok (.i2l, 1)) : AW d j pc L (.int x :: r) m Q ↔ AW d j (pc + 1) L (.long x.toInt64 :: r) m Q := AW_dec hB h (Or.inl rfl)
theorem A_l2i {x : Int64} (hB : jB j = cc) (h : decode cc pc = .ok (.l2i, 1)) : AW d j pc L (.long x :: r) m Q ↔ AW d j (pc + 1) L (.int x.toInt32 :: r) m Q := AW_dec hB h (Or.inl rfl)
theorem A_i2b {x : Int32} (hB : jB j = cc) (h : decode cc pc = .ok (.i2b, 1)) : AW d j pc L (.int x :: r) m Q ↔ AW d j (pc + 1) L (.int x.toInt8.toInt32 :: r) m Q := AW_dec hB h (Or.inl rfl)
theorem A_dup_i {x : Int32} (hB : jB j = cc) (h : decode cc pc = .ok (.dup, 1)) : AW d j pc L (.int x :: r) m Q ↔ AW d j (pc + 1) L (.int x :: .int x :: r) m Q := AW_dec hB h (Or.inl rfl)
theorem A_dup_a {x : Nat} (hB : jB j = cc) (h : decode cc pc = .ok (.dup, 1)) : AW d j pc L (.ref x :: r) m Q ↔ AW d j (pc + 1) L (.ref x :: .ref x :: r) m Q := AW_dec hB h (Or.inl rfl)
theorem A_dup2_ia {x : Int32} {y : Nat} (hB : jB j = cc) (h : decode cc pc = .ok (.dup2, 1)) : AW d j pc L (.int x :: .ref y :: r) m Q ↔ AW d j (pc + 1) L (.int x :: .ref y :: .int x :: .ref y :: r) m Q := AW_dec hB h (Or.inl rfl)
theorem A_dup2_l {x : Int64} (hB : jB j = cc) (h : decode cc pc = .ok (.dup2, 1)) : AW d j pc L (.long x :: r) m Q ↔ AW d j (pc + 1) L (.long x :: .long x :: r) m Q := AW_dec hB h (Or.inl rfl)
theorem A_pop_i {x : Int32} (hB : jB j = cc) (h : decode cc pc = .ok (.pop, 1)) : AW d j pc L (.int x :: r) m Q ↔ AW d j (pc + 1) L r m Q := AW_dec hB h (Or.inl rfl)
theorem A_goto {off : Int} {t : Nat} (hB : jB j = cc) (h : decode cc pc = .ok (.goto off, 3)) (ht : (pc : Int) + off = (t : Int)) : AW d j pc L r m Q ↔ AW d j t L r m Q := by
  refine (AW_dec hB h (Or.inl rfl)).trans ((jG_t (by omega)).trans ?_)
  show AW d j ((pc : Int) + off).toNat L r m Q ↔ _
  rw [ht]; exact Iff.rfl
theorem jIf_eq {C : jCC} {K : Nat → List (Option Value) → List Value → jmM → Prop} {c : Prop} {hc : Decidable c} {off : Int} {t : Nat} (ht : (pc : Int) + off = (t : Int)) : jSem C K Q (jIf c hc pc off L r m) ↔ if c then K t L r m else K (pc + 3) L r m := by
  refine (jG_t (by omega)).trans ?_
  cases hc with
  | isTrue h => rw [if_pos h]; show K ((pc : Int) + off).toNat L r m ↔ _; rw [ht]; exact Iff.rfl
  | isFalse h => rw [if_neg h]; exact Iff.rfl
theorem ite_not2 {c : Prop} {hc : Decidable c} {hn : Decidable (¬ c)} {A B : Prop} : (@ite _ (¬ c) hn A B) ↔ (@ite _ c hc B A) := by
  by_cases h : c
  · rw [if_neg (fun z => z h), if_pos h]
  · rw [if_pos h, if_neg h]
theorem A_if_eq {x : Int32} {off : Int} {t : Nat} (hB : jB j = cc) (h : decode cc pc = .ok (.ifCond .eq off, 3)) (ht : (pc : Int) + off = (t : Int)) : AW d j pc L (.int x :: r) m Q ↔ if x = 0 then AW d j t L r m Q else AW d j (pc + 3) L r m Q := (AW_dec hB h (Or.inl rfl)).trans (jIf_eq ht)
theorem A_if_ne {x : Int32} {off : Int} {t : Nat} (hB : jB j = cc) (h : decode cc pc = .ok (.ifCond .ne off, 3)) (ht : (pc : Int) + off = (t : Int)) : AW d j pc L (.int x :: r) m Q ↔ if x = 0 then AW d j (pc + 3) L r m Q else AW d j t L r m Q := (AW_dec hB h (Or.inl rfl)).trans ((jIf_eq ht).trans ite_not2)
theorem A_if_lt {x : Int32} {off : Int} {t : Nat} (hB : jB j = cc) (h : decode cc pc = .ok (.ifCond .lt off, 3)) (ht : (pc : Int) + off = (t : Int)) : AW d j pc L (.int x :: r) m Q ↔ if x < 0 then AW d j t L r m Q else AW d j (pc + 3) L r m Q := (AW_dec hB h (Or.inl rfl)).trans (jIf_eq ht)
theorem A_if_ge {x : Int32} {off : Int} {t : Nat} (hB : jB j = cc) (h : decode cc pc = .ok (.ifCond .ge off, 3)) (ht : (pc : Int) + off = (t : Int)) : AW d j pc L (.int x :: r) m Q ↔ if 0 ≤ x then AW d j t L r m Q else AW d j (pc + 3) L r m Q := (AW_dec hB h (Or.inl rfl)).trans (jIf_eq ht)
theorem A_if_gt {x : Int32} {off : Int} {t : Nat} (hB : jB j = cc) (h : decode cc pc = .ok (.ifCond .gt off, 3)) (ht : (pc : Int) + off = (t : Int)) : AW d j pc L (.int x :: r) m Q ↔ if 0 < x then AW d j t L r m Q else AW d j (pc + 3) L r m Q := (AW_dec hB h (Or.inl rfl)).trans (jIf_eq ht)
theorem A_if_le {x : Int32} {off : Int} {t : Nat} (hB : jB j = cc) (h : decode cc pc = .ok (.ifCond .le off, 3)) (ht : (pc : Int) + off = (t : Int)) : AW d j pc L (.int x :: r) m Q ↔ if x ≤ 0 then AW d j t L r m Q else AW d j (pc + 3) L r m Q := (AW_dec hB h (Or.inl rfl)).trans (jIf_eq ht)
theorem A_icmp_eq {x y : Int32} {off : Int} {t : Nat} (hB : jB j = cc) (h : decode cc pc = .ok (.if_icmp .eq off, 3)) (ht : (pc : Int) + off = (t : Int)) : AW d j pc L (.int y :: .int x :: r) m Q ↔ if x = y then AW d j t L r m Q else AW d j (pc + 3) L r m Q := (AW_dec hB h (Or.inl rfl)).trans (jIf_eq ht)
theorem A_icmp_ne {x y : Int32} {off : Int} {t : Nat} (hB : jB j = cc) (h : decode cc pc = .ok (.if_icmp .ne off, 3)) (ht : (pc : Int) + off = (t : Int)) : AW d j pc L (.int y :: .int x :: r) m Q ↔ if x = y then AW d j (pc + 3) L r m Q else AW d j t L r m Q := (AW_dec hB h (Or.inl rfl)).trans ((jIf_eq ht).trans ite_not2)
theorem A_icmp_lt {x y : Int32} {off : Int} {t : Nat} (hB : jB j = cc) (h : decode cc pc = .ok (.if_icmp .lt off, 3)) (ht : (pc : Int) + off = (t : Int)) : AW d j pc L (.int y :: .int x :: r) m Q ↔ if x < y then AW d j t L r m Q else AW d j (pc + 3) L r m Q := (AW_dec hB h (Or.inl rfl)).trans (jIf_eq ht)
theorem A_icmp_ge {x y : Int32} {off : Int} {t : Nat} (hB : jB j = cc) (h : decode cc pc = .ok (.if_icmp .ge off, 3)) (ht : (pc : Int) + off = (t : Int)) : AW d j pc L (.int y :: .int x :: r) m Q ↔ if y ≤ x then AW d j t L r m Q else AW d j (pc + 3) L r m Q := (AW_dec hB h (Or.inl rfl)).trans (jIf_eq ht)
theorem A_icmp_gt {x y : Int32} {off : Int} {t : Nat} (hB : jB j = cc) (h : decode cc pc = .ok (.if_icmp .gt off, 3)) (ht : (pc : Int) + off = (t : Int)) : AW d j pc L (.int y :: .int x :: r) m Q ↔ if y < x then AW d j t L r m Q else AW d j (pc + 3) L r m Q := (AW_dec hB h (Or.inl rfl)).trans (jIf_eq ht)
theorem A_icmp_le {x y : Int32} {off : Int} {t : Nat} (hB : jB j = cc) (h : decode cc pc = .ok (.if_icmp .le off, 3)) (ht : (pc : Int) + off = (t : Int)) : AW d j pc L (.int y :: .int x :: r) m Q ↔ if x ≤ y then AW d j t L r m Q else AW d j (pc + 3) L r m Q := (AW_dec hB h (Or.inl rfl)).trans (jIf_eq ht)
theorem A_ifnull {x : Option Nat} {off : Int} {t : Nat} (hB : jB j = cc) (h : decode cc pc = .ok (.ifnull off, 3)) (ht : (pc : Int) + off = (t : Int)) : AW d j pc L (va_rf x :: r) m Q ↔ if x = none then AW d j t L r m Q else AW d j (pc + 3) L r m Q := by
  refine (AW_dec hB h (Or.inl rfl)).trans ((jG_t (by omega)).trans ?_)
  cases x with
  | none => show AW d j ((pc : Int) + off).toNat L r m Q ↔ _; rw [ht, if_pos rfl]; exact Iff.rfl
  | some a => rw [if_neg (by simp)]; exact Iff.rfl
theorem A_ifnonnull {x : Option Nat} {off : Int} {t : Nat} (hB : jB j = cc) (h : decode cc pc = .ok (.ifnonnull off, 3)) (ht : (pc : Int) + off = (t : Int)) : AW d j pc L (va_rf x :: r) m Q ↔ if x = none then AW d j (pc + 3) L r m Q else AW d j t L r m Q := by
  refine (AW_dec hB h (Or.inl rfl)).trans ((jG_t (by omega)).trans ?_)
  cases x with
  | none => rw [if_pos rfl]; exact Iff.rfl
  | some a => show AW d j ((pc : Int) + off).toNat L r m Q ↔ _; rw [ht, if_neg (by simp)]; exact Iff.rfl
theorem A_ifnull_r {x : Nat} {off : Int} {t : Nat} (hB : jB j = cc) (h : decode cc pc = .ok (.ifnull off, 3)) (ht : (pc : Int) + off = (t : Int)) : AW d j pc L (.ref x :: r) m Q ↔ AW d j (pc + 3) L r m Q := (AW_dec hB h (Or.inl rfl)).trans (jG_t (by omega))
theorem A_ifnonnull_r {x : Nat} {off : Int} {t : Nat} (hB : jB j = cc) (h : decode cc pc = .ok (.ifnonnull off, 3)) (ht : (pc : Int) + off = (t : Int)) : AW d j pc L (.ref x :: r) m Q ↔ AW d j t L r m Q := by
  refine (AW_dec hB h (Or.inl rfl)).trans ((jG_t (by omega)).trans ?_)
  show AW d j ((pc : Int) + off).toNat L r m Q ↔ _; rw [ht]; exact Iff.rfl
theorem A_iaload {i : Int32} {a : Nat} (hB : jB j = cc) (h : decode cc pc = .ok (.iaload, 1)) : AW d j pc L (.int i :: .ref a :: r) m Q ↔ (((mS m a).1 = 20 ∨ a = jScr) ∧ jIx i (mS m a).2) ∧ AW d j (pc + 1) L (.int (mI m a (jx i)) :: r) m Q := (AW_dec hB h (Or.inl rfl)).trans jSem_G
theorem A_baload {i : Int32} {a : Nat} (hB : jB j = cc) (h : decode cc pc = .ok (.baload, 1)) : AW d j pc L (.int i :: .ref a :: r) m Q ↔ (((mS m a).1 = 22 ∨ (mS m a).1 = 23) ∧ jIx i (mS m a).2) ∧ AW d j (pc + 1) L (.int (mI m a (jx i)) :: r) m Q := (AW_dec hB h (Or.inl rfl)).trans jSem_G
theorem A_laload {i : Int32} {a : Nat} (hB : jB j = cc) (h : decode cc pc = .ok (.laload, 1)) : AW d j pc L (.int i :: .ref a :: r) m Q ↔ ((mS m a).1 = 21 ∧ jIx i (mS m a).2) ∧ AW d j (pc + 1) L (.long (mL m a (jx i)) :: r) m Q := (AW_dec hB h (Or.inl rfl)).trans jSem_G
theorem A_aaload {i : Int32} {a : Nat} (hB : jB j = cc) (h : decode cc pc = .ok (.aaload, 1)) : AW d j pc L (.int i :: .ref a :: r) m Q ↔ (24 ≤ (mS m a).1 ∧ (mS m a).1 ≤ 26 ∧ jIx i (mS m a).2) ∧ AW d j (pc + 1) L (va_rf (mR m a (jx i)) :: r) m Q := (AW_dec hB h (Or.inl rfl)).trans jSem_G
theorem A_iastore {x i : Int32} {a : Nat} (hB : jB j = cc) (h : decode cc pc = .ok (.iastore, 1)) : AW d j pc L (.int x :: .int i :: .ref a :: r) m Q ↔ ((mS m a).1 = 20 ∧ jIx i (mS m a).2) ∧ AW d j (pc + 1) L r (cI m a (jup (mI m a) (jx i) x)) Q := (AW_dec hB h (Or.inl rfl)).trans jSem_G
theorem A_lastore {x : Int64} {i : Int32} {a : Nat} (hB : jB j = cc) (h : decode cc pc = .ok (.lastore, 1)) : AW d j pc L (.long x :: .int i :: .ref a :: r) m Q ↔ ((mS m a).1 = 21 ∧ jIx i (mS m a).2) ∧ AW d j (pc + 1) L r (cL m a (jup (mL m a) (jx i) x)) Q := (AW_dec hB h (Or.inl rfl)).trans jSem_G
theorem A_bastore {x i : Int32} {a : Nat} (hB : jB j = cc) (h : decode cc pc = .ok (.bastore, 1)) : AW d j pc L (.int x :: .int i :: .ref a :: r) m Q ↔ (((mS m a).1 = 22 ∨ (mS m a).1 = 23) ∧ jIx i (mS m a).2) ∧ AW d j (pc + 1) L r (cI m a (jup (mI m a) (jx i) (if (mS m a).1 = 22 then vp_nar .byte x else vp_nar .boolean x))) Q := (AW_dec hB h (Or.inl rfl)).trans jSem_G
theorem A_aastore {v a : Nat} {i : Int32} (hB : jB j = cc) (h : decode cc pc = .ok (.aastore, 1)) : AW d j pc L (.ref v :: .int i :: .ref a :: r) m Q ↔ (24 ≤ (mS m a).1 ∧ (mS m a).1 ≤ 26 ∧ (mS m v).1 = (if (mS m a).1 = 24 then 3 else if (mS m a).1 = 25 then 2 else 10) ∧ jIx i (mS m a).2) ∧ AW d j (pc + 1) L r (cR m a (jup (mR m a) (jx i) (some v))) Q := (AW_dec hB h (Or.inl rfl)).trans jSem_G
theorem A_arraylength {a : Nat} (hB : jB j = cc) (h : decode cc pc = .ok (.arraylength, 1)) : AW d j pc L (.ref a :: r) m Q ↔ ((20 ≤ (mS m a).1 ∧ (mS m a).1 ≤ 26) ∨ a = jScr) ∧ AW d j (pc + 1) L (.int (nI (mS m a).2) :: r) m Q := (AW_dec hB h (Or.inl rfl)).trans jSem_G
theorem kop_eq {α : Type} {o : Option α} {x : α} {f : α → jRes} (h : o = some x) : kop o f = f x := by subst h; rfl
theorem A_getfield {idx ci k p a : Nat} (hB : jB j = cc) (h : decode cc pc = .ok (.getfield idx, 3)) (hO : jO j = ow) (hq : jfind2 jFl ow idx = some (ci, k, p)) {f : jmM → Nat → Value} (hv : (fun m a => jval (jTy ci k) m a k) = f) : AW d j pc L (.ref a :: r) m Q ↔ (mS m a).1 = ci ∧ AW d j (pc + 3) L (f m a :: r) m Q := by
  subst hv; subst hO
  refine (AW_dec hB h (Or.inl rfl)).trans ?_
  show jSem _ _ _ (kop (jfind2 jFl (jO j) idx) _) ↔ _
  rw [kop_eq hq]; exact jSem_G
theorem A_putI {idx ci k p a : Nat} {x : Int32} (hB : jB j = cc) (h : decode cc pc = .ok (.putfield idx, 3)) (hO : jO j = ow) (hq : jfind2 jFl ow idx = some (ci, k, p)) (ht : jTy ci k = .int) (hf : (jT ci k).2.2.2 = true → (jY j).name = "<init>" ∧ jO j = ci) : AW d j pc L (.int x :: .ref a :: r) m Q ↔ (mS m a).1 = ci ∧ AW d j (pc + 3) L r (cI m a (jup (mI m a) k x)) Q := by
  subst hO
  refine (AW_dec hB h (Or.inl rfl)).trans ?_
  show jSem _ _ _ (kop (jfind2 jFl (jO j) idx) _) ↔ _
  rw [kop_eq hq]
  refine jSem_G.trans ?_
  dsimp only
  rw [ht]
  exact ⟨fun h => ⟨h.1.1, h.2⟩, fun h => ⟨⟨h.1, hf⟩, h.2⟩⟩
theorem A_putZ {idx ci k p a : Nat} {x : Int32} (hB : jB j = cc) (h : decode cc pc = .ok (.putfield idx, 3)) (hO : jO j = ow) (hq : jfind2 jFl ow idx = some (ci, k, p)) (ht : jTy ci k = .boolean) (hf : (jT ci k).2.2.2 = true → (jY j).name = "<init>" ∧ jO j = ci) : AW d j pc L (.int x :: .ref a :: r) m Q ↔ ((mS m a).1 = ci ∧ jBool x) ∧ AW d j (pc + 3) L r (cI m a (jup (mI m a) k x)) Q := by
  subst hO
  refine (AW_dec hB h (Or.inl rfl)).trans ?_
  show jSem _ _ _ (kop (jfind2 jFl (jO j) idx) _) ↔ _
  rw [kop_eq hq]
  refine jSem_G.trans ?_
  dsimp only
  rw [ht]
  exact ⟨fun h => ⟨⟨h.1.1, (jSem_G.mp h.2).1⟩, (jSem_G.mp h.2).2⟩, fun h => ⟨⟨h.1.1, hf⟩, jSem_G.mpr ⟨h.1.2, h.2⟩⟩⟩
theorem A_putL {idx ci k p a : Nat} {x : Int64} (hB : jB j = cc) (h : decode cc pc = .ok (.putfield idx, 3)) (hO : jO j = ow) (hq : jfind2 jFl ow idx = some (ci, k, p)) (ht : jTy ci k = .long) (hf : (jT ci k).2.2.2 = true → (jY j).name = "<init>" ∧ jO j = ci) : AW d j pc L (.long x :: .ref a :: r) m Q ↔ (mS m a).1 = ci ∧ AW d j (pc + 3) L r (cL m a (jup (mL m a) k x)) Q := by
  subst hO
  refine (AW_dec hB h (Or.inl rfl)).trans ?_
  show jSem _ _ _ (kop (jfind2 jFl (jO j) idx) _) ↔ _
  rw [kop_eq hq]
  refine jSem_G.trans ?_
  dsimp only
  rw [ht]
  exact ⟨fun h => ⟨h.1.1, h.2⟩, fun h => ⟨⟨h.1, hf⟩, h.2⟩⟩
def jIsR (ty : FieldType) : Bool := match ty with
  | .object _ => true
  | .array _ => true
  | _ => false
theorem A_putQ {idx ci k p a : Nat} {x : Option Nat} (hB : jB j = cc) (h : decode cc pc = .ok (.putfield idx, 3)) (hO : jO j = ow) (hq : jfind2 jFl ow idx = some (ci, k, p)) (ht : jIsR (jTy ci k) = true) (hf : (jT ci k).2.2.2 = true → (jY j).name = "<init>" ∧ jO j = ci) : AW d j pc L (va_rf x :: .ref a :: r) m Q ↔ (mS m a).1 = ci ∧ AW d j (pc + 3) L r (cR m a (jup (mR m a) k x)) Q := by
  subst hO
  refine (AW_dec hB h (Or.inl rfl)).trans ?_
  show jSem _ _ _ (kop (jfind2 jFl (jO j) idx) _) ↔ _
  rw [kop_eq hq]
  refine jSem_G.trans ?_
  dsimp only
  generalize jTy ci k = ty at ht ⊢
  cases ty with
  | object C => cases x <;> exact ⟨fun h => ⟨h.1.1, h.2⟩, fun h => ⟨⟨h.1, hf⟩, h.2⟩⟩
  | array t => cases x <;> exact ⟨fun h => ⟨h.1.1, h.2⟩, fun h => ⟨⟨h.1, hf⟩, h.2⟩⟩
  | _ => cases ht
theorem A_putR {idx ci k p a x : Nat} (hB : jB j = cc) (h : decode cc pc = .ok (.putfield idx, 3)) (hO : jO j = ow) (hq : jfind2 jFl ow idx = some (ci, k, p)) (ht : jIsR (jTy ci k) = true) (hf : (jT ci k).2.2.2 = true → (jY j).name = "<init>" ∧ jO j = ci) : AW d j pc L (.ref x :: .ref a :: r) m Q ↔ (mS m a).1 = ci ∧ AW d j (pc + 3) L r (cR m a (jup (mR m a) k (some x))) Q := A_putQ (x := some x) hB h hO hq ht hf
theorem A_new {idx ci p n : Nat} (hB : jB j = cc) (h : decode cc pc = .ok (.new idx, 3)) (hO : jO j = ow) (hq : jfind2 jNw ow idx = some (ci, p)) (hn : jNF ci = n) : AW d j pc L r m Q ↔ AW d j (pc + 3) L (.ref (mN m) :: r) (jNew m ci n) Q := by
  subst hO; subst hn
  refine (AW_dec hB h (Or.inl rfl)).trans ?_
  show jSem _ _ _ (kop (jfind2 jNw (jO j) idx) _) ↔ _
  rw [kop_eq hq]; exact Iff.rfl
theorem A_newarray {t : ArrayType} {kd : Nat} {n : Int32} (hB : jB j = cc) (h : decode cc pc = .ok (.newarray t, 2)) (hk : jArr t = some kd) : AW d j pc L (.int n :: r) m Q ↔ (0 ≤ n.toInt ∧ n.toInt ≤ 100000) ∧ AW d j (pc + 2) L (.ref (mN m) :: r) (jNew m kd (jx n)) Q := by
  refine (AW_dec hB h (Or.inl rfl)).trans ?_
  show jSem _ _ _ (kop (jArr t) _) ↔ _
  rw [kop_eq hk]; exact jSem_G
theorem A_anewarray {idx kd ci p1 p2 : Nat} {n : Int32} (hB : jB j = cc) (h : decode cc pc = .ok (.anewarray idx, 3)) (hO : jO j = ow) (hq : jfind2 jAn ow idx = some (kd, ci, p1, p2)) : AW d j pc L (.int n :: r) m Q ↔ (0 ≤ n.toInt ∧ n.toInt ≤ 100000) ∧ AW d j (pc + 3) L (.ref (mN m) :: r) (jNew m kd (jx n)) Q := by
  subst hO
  refine (AW_dec hB h (Or.inl rfl)).trans ?_
  show jSem _ _ _ (kop (jfind2 jAn (jO j) idx) _) ↔ _
  rw [kop_eq hq]; exact jSem_G
theorem A_ldc {idx p : Nat} {v : Int32} (hB : jB j = cc) (h : decode cc pc = .ok (.ldc idx, 2)) (hO : jO j = ow) (hq : jfind2 jLd ow idx = some (v, p)) : AW d j pc L r m Q ↔ AW d j (pc + 2) L (.int v :: r) m Q := by
  subst hO
  refine (AW_dec hB h (Or.inl rfl)).trans ?_
  show jSem _ _ _ (if (jfind2 jLd (jO j) idx).isSome then kop (jfind2 jLd (jO j) idx) fun q => jN (pc + 2) L (.int q.1 :: r) m else kop (jfind2 jLs (jO j) idx) fun q => jN (pc + 2) L (.ref (jScr + 1 + q.1) :: r) m) ↔ _
  rw [hq]; exact Iff.rfl
theorem A_ldcS {idx p t : Nat} (hB : jB j = cc) (h : decode cc pc = .ok (.ldc idx, 2)) (hO : jO j = ow) (hn : jfind2 jLd ow idx = none) (hq : jfind2 jLs ow idx = some (t, p)) : AW d j pc L r m Q ↔ AW d j (pc + 2) L (.ref (jScr + 1 + t) :: r) m Q := by
  subst hO
  refine (AW_dec hB h (Or.inl rfl)).trans ?_
  show jSem _ _ _ (if (jfind2 jLd (jO j) idx).isSome then kop (jfind2 jLd (jO j) idx) fun q => jN (pc + 2) L (.int q.1 :: r) m else kop (jfind2 jLs (jO j) idx) fun q => jN (pc + 2) L (.ref (jScr + 1 + q.1) :: r) m) ↔ _
  rw [hn, if_neg (by simp), kop_eq hq]; exact Iff.rfl
theorem A_ldc_w {idx p : Nat} {v : Int32} (hB : jB j = cc) (h : decode cc pc = .ok (.ldc_w idx, 3)) (hO : jO j = ow) (hq : jfind2 jLd ow idx = some (v, p)) : AW d j pc L r m Q ↔ AW d j (pc + 3) L (.int v :: r) m Q := by
  subst hO
  refine (AW_dec hB h (Or.inl rfl)).trans ?_
  show jSem _ _ _ (kop (jfind2 jLd (jO j) idx) _) ↔ _
  rw [kop_eq hq]; exact Iff.rfl
theorem A_ldc2_w {idx p : Nat} {v : Int64} (hB : jB j = cc) (h : decode cc pc = .ok (.ldc2_w idx, 3)) (hO : jO j = ow) (hq : jfind2 jL2 ow idx = some (v, p)) : AW d j pc L r m Q ↔ AW d j (pc + 3) L (.long v :: r) m Q := by
  subst hO
  refine (AW_dec hB h (Or.inl rfl)).trans ?_
  show jSem _ _ _ (kop (jfind2 jL2 (jO j) idx) _) ↔ _
  rw [kop_eq hq]; exact Iff.rfl
theorem A_callS0 {idx tj n : Nat} {ps : Nat × Nat × Nat} {st as : List Value} (hB : jB j = cc) (h : decode cc pc = .ok (.invokestatic idx, 3)) (hO : jO j = ow) (hq : jfind2 jSt ow idx = some (0, tj, n, ps)) (hg : n ≤ st.length ∧ (st.drop n).length ≤ 4) (ha : (st.take n).reverse = as) (hr : st.drop n = r) : AW d j pc L st m Q ↔ CC d tj as m (jK d j (pc + 3) L r Q) := by
  subst hO; subst ha; subst hr
  refine (AW_dec hB h (Or.inl rfl)).trans ?_
  show jSem _ _ _ (kop (jfind2 jSt (jO j) idx) _) ↔ _
  rw [kop_eq hq]
  exact jG_t (g := false = false ∧ n ≤ st.length ∧ (st.drop n).length ≤ 4) ⟨rfl, hg⟩
theorem A_callS4 {idx tj n : Nat} {ps : Nat × Nat × Nat} {st as : List Value} (hB : jB j = cc) (h : decode cc pc = .ok (.invokestatic idx, 3)) (hO : jO j = ow) (hq : jfind2 jSt ow idx = some (4, tj, n, ps)) (hg : n ≤ st.length ∧ (st.drop n).length ≤ 4) (ha : (st.take n).reverse = as) (hr : st.drop n = r) : AW d j pc L st m Q ↔ CC d tj as m (jK d j (pc + 3) L r Q) := by
  subst hO; subst ha; subst hr
  refine (AW_dec hB h (Or.inl rfl)).trans ?_
  show jSem _ _ _ (kop (jfind2 jSt (jO j) idx) _) ↔ _
  rw [kop_eq hq]
  exact jG_t (g := false = false ∧ n ≤ st.length ∧ (st.drop n).length ≤ 4) ⟨rfl, hg⟩
theorem A_callV {idx tj n a oj : Nat} {ps : Nat × Nat × Nat} {st as : List Value} (hB : jB j = cc) (h : decode cc pc = .ok (.invokevirtual idx, 3)) (hO : jO j = ow) (hq : jfind2 jSt ow idx = some (1, tj, n, ps)) (hg : n < st.length ∧ (st.drop (n + 1)).length ≤ 4) (ha : (st.take n).reverse = as) (hr : st.drop n = .ref a :: r) (hoj : jO tj = oj) : AW d j pc L st m Q ↔ (mS m a).1 = oj ∧ CC d tj (.ref a :: as) m (jK d j (pc + 3) L r Q) := by
  subst hO; subst ha; subst hoj
  refine (AW_dec hB h (Or.inl rfl)).trans ?_
  show jSem _ _ _ (kop (jfind2 jSt (jO j) idx) _) ↔ _
  rw [kop_eq hq]
  refine (jG_t (g := n < st.length ∧ (st.drop (n + 1)).length ≤ 4) hg).trans ?_
  rw [hr]
  exact jSem_G
theorem A_callI3 {idx tj n a : Nat} {ps : Nat × Nat × Nat} {st as : List Value} (hB : jB j = cc) (h : decode cc pc = .ok (.invokespecial idx, 3)) (hO : jO j = ow) (hq : jfind2 jSt ow idx = some (3, tj, n, ps)) (hg : n < st.length ∧ (st.drop (n + 1)).length ≤ 4) (ha : (st.take n).reverse = as) (hr : st.drop n = .ref a :: r) : AW d j pc L st m Q ↔ CC d tj (.ref a :: as) m (jK d j (pc + 3) L r Q) := by
  subst hO; subst ha
  refine (AW_dec hB h (Or.inl rfl)).trans ?_
  show jSem _ _ _ (kop (jfind2 jSt (jO j) idx) _) ↔ _
  rw [kop_eq hq]
  refine (jG_t (g := n < st.length ∧ (st.drop (n + 1)).length ≤ 4) hg).trans ?_
  rw [hr]
  exact Iff.rfl
theorem A_callI5 {idx tj n a : Nat} {ps : Nat × Nat × Nat} {st as : List Value} (hB : jB j = cc) (h : decode cc pc = .ok (.invokespecial idx, 3)) (hO : jO j = ow) (hq : jfind2 jSt ow idx = some (5, tj, n, ps)) (hg : n < st.length ∧ (st.drop (n + 1)).length ≤ 4) (ha : (st.take n).reverse = as) (hr : st.drop n = .ref a :: r) : AW d j pc L st m Q ↔ CC d tj (.ref a :: as) m (jK d j (pc + 3) L r Q) := by
  subst hO; subst ha
  refine (AW_dec hB h (Or.inl rfl)).trans ?_
  show jSem _ _ _ (kop (jfind2 jSt (jO j) idx) _) ↔ _
  rw [kop_eq hq]
  refine (jG_t (g := n < st.length ∧ (st.drop (n + 1)).length ≤ 4) hg).trans ?_
  rw [hr]
  exact Iff.rfl
theorem A_obj {idx tj n a : Nat} {ps : Nat × Nat × Nat} (hB : jB j = cc) (h : decode cc pc = .ok (.invokespecial idx, 3)) (hO : jO j = ow) (hq : jfind2 jSt ow idx = some (7, tj, n, ps)) (hg : r.length ≤ 4) : AW d j pc L (.ref a :: r) m Q ↔ AW d j (pc + 3) L r m Q := by
  subst hO
  refine (AW_dec hB h (Or.inl rfl)).trans ?_
  show jSem _ _ _ (kop (jfind2 jSt (jO j) idx) _) ↔ _
  rw [kop_eq hq]
  exact jG_t (g := r.length ≤ 4) hg
theorem A_max {idx tj n : Nat} {ps : Nat × Nat × Nat} {x y : Int32} (hB : jB j = cc) (h : decode cc pc = .ok (.invokestatic idx, 3)) (hO : jO j = ow) (hq : jfind2 jSt ow idx = some (10, tj, n, ps)) (hg : r.length ≤ 4) : AW d j pc L (.int y :: .int x :: r) m Q ↔ AW d j (pc + 3) L (.int (if x < y then y else x) :: r) m Q := by
  subst hO
  refine (AW_dec hB h (Or.inl rfl)).trans ?_
  show jSem _ _ _ (kop (jfind2 jSt (jO j) idx) _) ↔ _
  rw [kop_eq hq]
  exact jG_t (g := r.length ≤ 4) hg
theorem A_min {idx tj n : Nat} {ps : Nat × Nat × Nat} {x y : Int32} (hB : jB j = cc) (h : decode cc pc = .ok (.invokestatic idx, 3)) (hO : jO j = ow) (hq : jfind2 jSt ow idx = some (11, tj, n, ps)) (hg : r.length ≤ 4) : AW d j pc L (.int y :: .int x :: r) m Q ↔ AW d j (pc + 3) L (.int (if y < x then y else x) :: r) m Q := by
  subst hO
  refine (AW_dec hB h (Or.inl rfl)).trans ?_
  show jSem _ _ _ (kop (jfind2 jSt (jO j) idx) _) ↔ _
  rw [kop_eq hq]
  exact jG_t (g := r.length ≤ 4) hg
theorem A_abs {idx tj n : Nat} {ps : Nat × Nat × Nat} {x : Int32} (hB : jB j = cc) (h : decode cc pc = .ok (.invokestatic idx, 3)) (hO : jO j = ow) (hq : jfind2 jSt ow idx = some (12, tj, n, ps)) (hg : r.length ≤ 4) : AW d j pc L (.int x :: r) m Q ↔ AW d j (pc + 3) L (.int (if 0 ≤ x then x else 0 - x) :: r) m Q := by
  subst hO
  refine (AW_dec hB h (Or.inl rfl)).trans ?_
  show jSem _ _ _ (kop (jfind2 jSt (jO j) idx) _) ↔ _
  rw [kop_eq hq]
  exact jG_t (g := r.length ≤ 4) hg
theorem A_maxl {idx tj n : Nat} {ps : Nat × Nat × Nat} {x y : Int64} (hB : jB j = cc) (h : decode cc pc = .ok (.invokestatic idx, 3)) (hO : jO j = ow) (hq : jfind2 jSt ow idx = some (13, tj, n, ps)) (hg : r.length ≤ 4) : AW d j pc L (.long y :: .long x :: r) m Q ↔ AW d j (pc + 3) L (.long (if y < x then x else y) :: r) m Q := by
  subst hO
  refine (AW_dec hB h (Or.inl rfl)).trans ?_
  show jSem _ _ _ (kop (jfind2 jSt (jO j) idx) _) ↔ _
  rw [kop_eq hq]
  exact jG_t (g := r.length ≤ 4) hg
theorem A_minl {idx tj n : Nat} {ps : Nat × Nat × Nat} {x y : Int64} (hB : jB j = cc) (h : decode cc pc = .ok (.invokestatic idx, 3)) (hO : jO j = ow) (hq : jfind2 jSt ow idx = some (14, tj, n, ps)) (hg : r.length ≤ 4) : AW d j pc L (.long y :: .long x :: r) m Q ↔ AW d j (pc + 3) L (.long (if y < x then y else x) :: r) m Q := by
  subst hO
  refine (AW_dec hB h (Or.inl rfl)).trans ?_
  show jSem _ _ _ (kop (jfind2 jSt (jO j) idx) _) ↔ _
  rw [kop_eq hq]
  exact jG_t (g := r.length ≤ 4) hg
theorem A_absl {idx tj n : Nat} {ps : Nat × Nat × Nat} {x : Int64} (hB : jB j = cc) (h : decode cc pc = .ok (.invokestatic idx, 3)) (hO : jO j = ow) (hq : jfind2 jSt ow idx = some (15, tj, n, ps)) (hg : r.length ≤ 4) : AW d j pc L (.long x :: r) m Q ↔ AW d j (pc + 3) L (.long (if 0 < x then x else -x) :: r) m Q := by
  subst hO
  refine (AW_dec hB h (Or.inl rfl)).trans ?_
  show jSem _ _ _ (kop (jfind2 jSt (jO j) idx) _) ↔ _
  rw [kop_eq hq]
  exact jG_t (g := r.length ≤ 4) hg
theorem A_copy {idx tj n0 a b : Nat} {n sp dp : Int32} {ps : Nat × Nat × Nat} (hB : jB j = cc) (h : decode cc pc = .ok (.invokestatic idx, 3)) (hO : jO j = ow) (hq : jfind2 jSt ow idx = some (16, tj, n0, ps)) (hg : r.length ≤ 4) : AW d j pc L (.int n :: .int dp :: .ref b :: .int sp :: .ref a :: r) m Q ↔
    (0 ≤ n.toInt ∧ 0 ≤ dp.toInt ∧ 0 ≤ sp.toInt ∧ sp.toInt + n.toInt ≤ ((mS m a).2 : Int) ∧ dp.toInt + n.toInt ≤ ((mS m b).2 : Int) ∧ (mS m a).1 = (mS m b).1 ∧ ((mS m b).1 = 20 ∨ (mS m b).1 = 21)) ∧
      AW d j (pc + 3) L r (if (mS m b).1 = 20 then cI m b (va_cpy (mI m a) (mI m b) (jx sp) (jx dp) (jx n)) else cL m b (va_cpy (mL m a) (mL m b) (jx sp) (jx dp) (jx n))) Q := by
  subst hO
  refine (AW_dec hB h (Or.inl rfl)).trans ?_
  show jSem _ _ _ (kop (jfind2 jSt (jO j) idx) _) ↔ _
  rw [kop_eq hq]
  refine jSem_G.trans ?_
  by_cases hb : (mS m b).1 = 20
  · rw [if_pos hb, if_pos hb]
    exact ⟨fun h => ⟨h.1.2, h.2⟩, fun h => ⟨⟨hg, h.1⟩, h.2⟩⟩
  · rw [if_neg hb, if_neg hb]
    exact ⟨fun h => ⟨h.1.2, h.2⟩, fun h => ⟨⟨hg, h.1⟩, h.2⟩⟩
theorem A_strlen {idx tj n a : Nat} {ps : Nat × Nat × Nat} (hB : jB j = cc) (h : decode cc pc = .ok (.invokevirtual idx, 3)) (hO : jO j = ow) (hq : jfind2 jSt ow idx = some (17, tj, n, ps)) (hg : r.length ≤ 4) : AW d j pc L (.ref a :: r) m Q ↔ (jScr < a ∧ a ≤ jScr + 16) ∧ AW d j (pc + 3) L (.int (nI (jCh.getD (a - jScr - 1) []).length) :: r) m Q := by
  subst hO
  refine (AW_dec hB h (Or.inl rfl)).trans ?_
  show jSem _ _ _ (kop (jfind2 jSt (jO j) idx) _) ↔ _
  rw [kop_eq hq]
  exact jSem_G.trans ⟨fun h => ⟨⟨h.1.1, h.1.2.1⟩, h.2⟩, fun h => ⟨⟨h.1.1, h.1.2, hg⟩, h.2⟩⟩
theorem A_charat {idx tj n a : Nat} {i : Int32} {ps : Nat × Nat × Nat} (hB : jB j = cc) (h : decode cc pc = .ok (.invokevirtual idx, 3)) (hO : jO j = ow) (hq : jfind2 jSt ow idx = some (18, tj, n, ps)) (hg : r.length ≤ 4) : AW d j pc L (.int i :: .ref a :: r) m Q ↔ (jScr < a ∧ a ≤ jScr + 16 ∧ jIx i (jCh.getD (a - jScr - 1) []).length) ∧ AW d j (pc + 3) L (.int ((jCh.getD (a - jScr - 1) []).getD (jx i) 0) :: r) m Q := by
  subst hO
  refine (AW_dec hB h (Or.inl rfl)).trans ?_
  show jSem _ _ _ (kop (jfind2 jSt (jO j) idx) _) ↔ _
  rw [kop_eq hq]
  exact jSem_G.trans ⟨fun h => ⟨⟨h.1.1, h.1.2.1, h.1.2.2.2⟩, h.2⟩, fun h => ⟨⟨h.1.1, h.1.2.1, hg, h.1.2.2⟩, h.2⟩⟩
theorem A_ireturn {v : Int32} (hB : jB j = cc) (h : decode cc pc = .ok (.ireturn, 1)) (hR : jRt j = some .int) : AW d j pc L [.int v] m Q ↔ Q (some (.int v)) m := (AW_dec hB h (Or.inl rfl)).trans (jG_t (g := jRt j = some .int ∨ (jRt j = some .boolean ∧ (v = 0 ∨ v = 1))) (Or.inl hR))
theorem A_zreturn {v : Int32} (hB : jB j = cc) (h : decode cc pc = .ok (.ireturn, 1)) (hR : jRt j = some .boolean) : AW d j pc L [.int v] m Q ↔ jBool v ∧ Q (some (.int v)) m := by
  refine (AW_dec hB h (Or.inl rfl)).trans (jSem_G.trans ?_)
  constructor
  · intro h
    rcases h.1 with h1 | h1
    · rw [hR] at h1; cases h1
    · exact ⟨h1.2, h.2⟩
  · exact fun h => ⟨Or.inr ⟨hR, h.1⟩, h.2⟩
theorem A_lreturn {v : Int64} (hB : jB j = cc) (h : decode cc pc = .ok (.lreturn, 1)) (hR : jRt j = some .long) : AW d j pc L [.long v] m Q ↔ Q (some (.long v)) m := (AW_dec hB h (Or.inl rfl)).trans (jG_t (g := jRt j = some .long) hR)
theorem A_areturnq {v : Option Nat} (hB : jB j = cc) (h : decode cc pc = .ok (.areturn, 1)) (hR : jIsObj (jRt j) = true) : AW d j pc L [va_rf v] m Q ↔ Q (some (va_rf v)) m := by
  cases v <;> exact (AW_dec hB h (Or.inl rfl)).trans (jG_t (g := jIsObj (jRt j) = true) hR)
theorem A_areturn {v : Nat} (hB : jB j = cc) (h : decode cc pc = .ok (.areturn, 1)) (hR : jIsObj (jRt j) = true) : AW d j pc L [.ref v] m Q ↔ Q (some (.ref v)) m := A_areturnq (v := some v) hB h hR
theorem A_areturnN (hB : jB j = cc) (h : decode cc pc = .ok (.areturn, 1)) (hR : jIsObj (jRt j) = true) : AW d j pc L [.null] m Q ↔ Q (some .null) m := A_areturnq (v := none) hB h hR
theorem A_return (hB : jB j = cc) (h : decode cc pc = .ok (.return_, 1)) (hR : jRt j = none) : AW d j pc L [] m Q ↔ Q none m := (AW_dec hB h (Or.inl rfl)).trans (jG_t (g := jRt j = none) hR)
/-- where a switch goes -/
def jsw (pc : Nat) (dflt lo hi : Int) (offs : Array Int) (x : Int) : Int := if x < lo ∨ hi < x then (pc : Int) + dflt else (pc : Int) + offs.getD (x - lo).toNat 0
theorem A_switch {dflt lo hi : Int} {offs : Array Int} {n t : Nat} {x : Int32} (hB : jB j = cc) (h : decode cc pc = .ok (.tableswitch dflt lo hi offs, n)) (hn : hi - lo < (offs.size : Int)) (ht : jsw pc dflt lo hi offs x.toInt = (t : Int)) : AW d j pc L (.int x :: r) m Q ↔ AW d j t L r m Q := by
  refine (AW_dec hB h (Or.inr rfl)).trans ?_
  show jSem _ _ _ (if x.toInt < lo ∨ hi < x.toInt then jTo pc dflt L r m else kop (offs[(x.toInt - lo).toNat]?) fun off => jTo pc off L r m) ↔ _
  unfold jsw at ht
  by_cases hx : x.toInt < lo ∨ hi < x.toInt
  · rw [if_pos hx] at ht ⊢
    refine (jG_t (by omega)).trans ?_
    show AW d j ((pc : Int) + dflt).toNat L r m Q ↔ _
    rw [ht]; exact Iff.rfl
  · rw [if_neg hx] at ht ⊢
    have hi2 : (x.toInt - lo).toNat < offs.size := by omega
    have he : offs[(x.toInt - lo).toNat]? = some (offs.getD (x.toInt - lo).toNat 0) := by
      rw [Array.getD_eq_getD_getElem?, Array.getElem?_eq_getElem hi2]; rfl
    rw [kop_eq he]
    refine (jG_t (by omega)).trans ?_
    show AW d j ((pc : Int) + _).toNat L r m Q ↔ _
    rw [ht]; exact Iff.rfl
theorem A_lookup {dflt : Int} {ps : Array (Int × Int)} {n t : Nat} {x : Int32} (hB : jB j = cc) (h : decode cc pc = .ok (.lookupswitch dflt ps, n)) (hp : (ps.toList.zip (ps.toList.drop 1)).all (fun (a, next) => a.1 < next.1) = true) (ht : (pc : Int) + Op.lookupswitch.offset ps.toList dflt x.toInt = (t : Int)) : AW d j pc L (.int x :: r) m Q ↔ AW d j t L r m Q := by
  refine (AW_dec hB h (Or.inr rfl)).trans ((jG_t hp).trans ((jG_t (by omega)).trans ?_))
  show AW d j ((pc : Int) + _).toNat L r m Q ↔ _
  rw [ht]; exact Iff.rfl
theorem i32_ne {x k : Int32} {n : Int} (hk : k.toInt = n) (h : ¬ x = k) : x.toInt ≠ n := fun e => h (Int32.toInt_inj.mp (e.trans hk.symm))
end ALEM
