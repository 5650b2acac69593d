/-! ===== what a call gives back is of its type ===== -/
def jRv (j : Nat) (v : Option Value) : Prop := match v with
  | none => jRt j = none
  | some (.int _) => jRt j = some .int ∨ jRt j = some .boolean
  | some (.long _) => jRt j = some .long
  | some (.ref _) => jIsObj (jRt j) = true
  | some .null => jIsObj (jRt j) = true
  | _ => False
def jT4 (j : Nat) (r : jRes) : Prop := match r with
  | some (.inr (.inr (v, _))) => jRv j v
  | _ => True
section RVT
variable {m m1 : jmM} {j pc : Nat} {L : List (Option Value)} {st : List Value}
theorem jU_N : jT4 j (jN pc L st m1) := trivial
theorem jU_C {tj : Nat} {as r : List Value} : jT4 j (jCl tj as pc L r m1) := trivial
theorem jU_R {v : Option Value} (h : jRv j v) : jT4 j (jRet v m1) := h
theorem jU_G {g : Prop} {h : Decidable g} {r : jRes} (hr : g → jT4 j r) : jT4 j (jG g h r) := by
  cases h with
  | isTrue hg => exact hr hg
  | isFalse hg => exact trivial
theorem jU_1i {f : Int32 → List Value → jRes} (h : ∀ x r, jT4 j (f x r)) : jT4 j (k1i st f) := by
  unfold k1i; split
  · exact h _ _
  · exact trivial
theorem jU_1l {f : Int64 → List Value → jRes} (h : ∀ x r, jT4 j (f x r)) : jT4 j (k1l st f) := by
  unfold k1l; split
  · exact h _ _
  · exact trivial
theorem jU_1a {f : Nat → List Value → jRes} (h : ∀ x r, jT4 j (f x r)) : jT4 j (k1a st f) := by
  unfold k1a; split
  · exact h _ _
  · exact trivial
theorem jU_1q {f : Value → List Value → jRes} (h : ∀ x r, jT4 j (f x r)) : jT4 j (k1q st f) := by
  unfold k1q; split
  · exact h _ _
  · exact h _ _
  · exact trivial
theorem jU_1c {f : Value → List Value → jRes} (h : ∀ x r, jT4 j (f x r)) : jT4 j (k1c st f) := by
  unfold k1c; split
  · exact h _ _
  · exact h _ _
  · exact h _ _
  · exact trivial
theorem jU_2i {f : Int32 → Int32 → List Value → jRes} (h : ∀ x y r, jT4 j (f x y r)) : jT4 j (k2i st f) := jU_1i fun y r => jU_1i fun x r => h x y r
theorem jU_2l {f : Int64 → Int64 → List Value → jRes} (h : ∀ x y r, jT4 j (f x y r)) : jT4 j (k2l st f) := jU_1l fun y r => jU_1l fun x r => h x y r
theorem jU_gi {i : Nat} {f : Int32 → jRes} (h : ∀ x, jT4 j (f x)) : jT4 j (kgi L i f) := by
  unfold kgi; split
  · exact h _
  · exact trivial
theorem jU_gl {i : Nat} {f : Int64 → jRes} (h : ∀ x, jT4 j (f x)) : jT4 j (kgl L i f) := by
  unfold kgl; split
  · exact h _
  · exact trivial
theorem jU_gq {i : Nat} {f : Value → jRes} (h : ∀ x, jT4 j (f x)) : jT4 j (kgq L i f) := by
  unfold kgq; split
  · exact h _
  · exact h _
  · exact trivial
theorem jU_op {α : Type} {o : Option α} {f : α → jRes} (h : ∀ x, jT4 j (f x)) : jT4 j (kop o f) := by
  unfold kop; split
  · exact h _
  · exact trivial
theorem jU_To {off : Int} : jT4 j (jTo pc off L st m) := jU_G fun _ => jU_N
theorem jU_If {c : Prop} {h : Decidable c} {off : Int} : jT4 j (jIf c h pc off L st m) := jU_G fun _ => by
  cases h with
  | isTrue _ => exact jU_N
  | isFalse _ => exact jU_N
theorem jU_ld {q : Nat} {f : Nat → Nat → List Value → jRes} (h : ∀ a i r, (mS m a).1 = q → jT4 j (f a i r)) : jT4 j (jld q st m f) := jU_1i fun _ _ => jU_1a fun _ _ => jU_G fun g => h _ _ _ g.1
theorem jU_d2 {f : List Value → jRes} (h : ∀ r, jT4 j (f r)) : jT4 j (kd2 st f) := by
  unfold kd2; split
  · exact h _
  · exact jU_1c fun _ _ => jU_1c fun _ _ => h _
theorem jU_pf {f : Value → Nat → List Value → jRes} (h : ∀ v a r, jT4 j (f v a r)) : jT4 j (kpf st f) := by
  unfold kpf; split
  · exact h _ _ _
  · exact trivial
theorem jU_q2 {f g : List Value → jRes} (h : ∀ r, jT4 j (f r)) (h' : ∀ r, jT4 j (g r)) : jT4 j (kq2 st f g) := by
  unfold kq2; split
  · exact h _
  · exact h' _
  · exact trivial
theorem jU_ri {f : Int32 → jRes} (h : ∀ x, jT4 j (f x)) : jT4 j (kri st f) := by
  unfold kri; split
  · exact h _
  · exact trivial
theorem jU_rl {f : Int64 → jRes} (h : ∀ x, jT4 j (f x)) : jT4 j (krl st f) := by
  unfold krl; split
  · exact h _
  · exact trivial
theorem jU_rq' (h : jIsObj (jRt j) = true → jIsObj (jRt j) = true) : jT4 j (krq st fun v => jG (jIsObj (jRt j) = true) inferInstance (jRet (some v) m)) := by
  unfold krq; split
  · exact jU_G fun g => jU_R g
  · exact jU_G fun g => jU_R g
  · exact trivial
theorem jU_r0 {r : jRes} (h : jT4 j r) : jT4 j (kr0 st r) := by
  unfold kr0; split
  · exact h
  · exact trivial
theorem jU_Put {ty : FieldType} {a k : Nat} {v : Value} {f : jmM → jRes} (h : ∀ m1, jT4 j (f m1)) : jT4 j (jPut ty m a k v f) := by
  unfold jPut; split
  · exact h _
  · exact jU_G fun _ => h _
  · exact h _
  · exact h _
  · exact h _
  · exact h _
  · exact h _
  · exact trivial
theorem jU_Site {idx kd tj n : Nat} {sp : Bool} : jT4 j (jSite j idx pc kd tj n sp L st m) := by
  unfold jSite; split
  · exact jU_G fun _ => jU_C
  · exact jU_G fun _ => jU_C
  · exact jU_2i fun _ _ _ => jU_G fun _ => jU_N
  · exact jU_2i fun _ _ _ => jU_G fun _ => jU_N
  · exact jU_1i fun _ _ => jU_G fun _ => jU_N
  · exact jU_2l fun _ _ _ => jU_G fun _ => jU_N
  · exact jU_2l fun _ _ _ => jU_G fun _ => jU_N
  · exact jU_1l fun _ _ => jU_G fun _ => jU_N
  · refine jU_1i fun _ _ => jU_1i fun _ _ => jU_1a fun _ _ => jU_1i fun _ _ => jU_1a fun _ _ => jU_G fun g => ?_
    split
    · exact jU_N
    · exact jU_N
  · exact trivial
theorem jU_Virt {idx kd tj n : Nat} : jT4 j (jVirt j idx pc kd tj n L st m) := by
  unfold jVirt; split
  · exact jU_G fun _ => jU_1a fun _ _ => jU_G fun _ => jU_C
  · exact jU_1a fun _ _ => jU_G fun _ => jU_N
  · exact jU_1i fun _ _ => jU_1a fun _ _ => jU_G fun _ => jU_N
  · exact trivial
theorem jU_Spec {idx kd tj n : Nat} : jT4 j (jSpec j idx pc kd tj n L st m) := by
  unfold jSpec; split
  · exact jU_G fun _ => jU_1a fun _ _ => jU_C
  · exact jU_G fun _ => jU_1a fun _ _ => jU_C
  · exact jU_1a fun _ _ => jU_G fun _ => jU_N
  · exact trivial
theorem jU_Ef (i : Instr) : jT4 j (jEf j pc i L st m) := by
  unfold jEf
  split
  all_goals first
    | exact jU_N
    | exact jU_gi fun _ => jU_N
    | exact jU_gl fun _ => jU_N
    | exact jU_gq fun _ => jU_N
    | exact jU_1i fun _ _ => jU_G fun _ => jU_N
    | exact jU_1l fun _ _ => jU_G fun _ => jU_N
    | exact jU_1q fun _ _ => jU_G fun _ => jU_N
    | exact jU_gi fun _ => jU_G fun _ => jU_N
    | exact jU_2i fun _ _ _ => jU_N
    | exact jU_2i fun _ _ _ => jU_G fun _ => jU_N
    | exact jU_2l fun _ _ _ => jU_N
    | exact jU_2l fun _ _ _ => jU_G fun _ => jU_N
    | exact jU_1i fun _ _ => jU_N
    | exact jU_1l fun _ _ => jU_N
    | exact jU_1i fun _ _ => jU_1l fun _ _ => jU_N
    | exact jU_1c fun _ _ => jU_N
    | exact jU_d2 fun _ => jU_N
    | exact jU_To
    | (refine jU_1i fun _ _ => ?_; split <;> exact jU_If)
    | (refine jU_2i fun _ _ _ => ?_; split <;> exact jU_If)
    | exact jU_G fun _ => jU_q2 (fun _ => jU_N) (fun _ => jU_N)
    | (refine jU_1i fun _ _ => ?_; split; exact jU_To; exact jU_op fun _ => jU_To)
    | exact jU_1i fun _ _ => jU_G fun _ => jU_To
    | exact jU_1i fun _ _ => jU_1a fun _ _ => jU_G fun _ => jU_N
    | exact jU_ld fun _ _ _ _ => jU_N
    | exact jU_1i fun _ _ => jU_ld fun _ _ _ h => jU_N
    | exact jU_1l fun _ _ => jU_ld fun _ _ _ _ => jU_N
    | exact jU_1i fun _ _ => jU_1i fun _ _ => jU_1a fun _ _ => jU_G fun g => jU_N
    | exact jU_1a fun _ _ => jU_1i fun _ _ => jU_1a fun _ _ => jU_G fun _ => jU_N
    | exact jU_1a fun _ _ => jU_G fun _ => jU_N
    | exact jU_1a fun _ _ => jU_op fun _ => jU_G fun _ => jU_N
    | exact jU_op fun _ => jU_N
    | exact jU_1i fun _ _ => jU_op fun _ => jU_G fun _ => jU_N
    | (split <;> exact jU_op fun _ => jU_N)
    | exact jU_op fun _ => jU_N
    | exact jU_op fun _ => jU_Site
    | exact jU_op fun _ => jU_Virt
    | exact jU_op fun _ => jU_Spec
    | exact jU_ri fun _ => jU_G fun g => jU_R (g.elim (fun e => Or.inl e) (fun e => Or.inr e.1))
    | exact jU_rl fun _ => jU_G fun g => jU_R g
    | exact jU_rq' fun g => g
    | exact jU_r0 (jU_G fun g => jU_R g)
    | exact trivial
    | skip
  refine jU_pf fun v a r => ?_
  unfold kop
  split
  · exact jU_G fun g => jU_Put fun m1 => jU_N
  · exact trivial
theorem jU_Step : jT4 j (jStep j pc L st m) := by
  unfold jStep
  split
  · exact jU_G fun _ => jU_Ef _
  · exact trivial
end RVT
theorem jRun_rv {C : jCC} {j : Nat} {Q : Option Value → jmM → Prop} (hm : jMono C) : ∀ (k pc : Nat) (L : List (Option Value)) (st : List Value) (m : jmM), jRun C j Q k pc L st m → jRun C j (fun v m1 => Q v m1 ∧ jRv j v) k pc L st m
  | 0, _, _, _, _, h => h
  | k + 1, pc, L, st, m, h => by
    have h : jSem C (jRun C j Q k) Q (jStep j pc L st m) := h
    show jSem C (jRun C j (fun v m1 => Q v m1 ∧ jRv j v) k) (fun v m1 => Q v m1 ∧ jRv j v) (jStep j pc L st m)
    have hT := jU_Step (m := m) (j := j) (pc := pc) (L := L) (st := st)
    generalize jStep j pc L st m = r at h hT ⊢
    match r, h, hT with
    | none, h, _ => exact h
    | some (.inl (pc2, L2, st2, m2)), h, _ => exact jRun_rv hm k pc2 L2 st2 m2 h
    | some (.inr (.inl (j2, as, pc2, L2, r2, m2))), h, _ => exact hm _ _ _ _ _ (fun v m1 q => jRun_rv hm k _ _ _ m1 q) h
    | some (.inr (.inr (v, m2))), h, hT => exact ⟨h, hT⟩
theorem CE_rv {d j : Nat} {as : List Value} {m : jmM} {v : Option Value} {m1 : jmM} (h : CE d j as m v m1) : jRv j v := by
  cases d with
  | zero => exact h.elim
  | succ d =>
    obtain ⟨h0, k, h⟩ := h
    have h2 : CC (d + 1) j as m (fun v2 m2 => (v2 = v ∧ m2 = m1) ∧ jRv j v2) := ⟨h0, k, jRun_rv (CC_mono d) k _ _ _ _ h⟩
    obtain ⟨v2, m2, ⟨⟨e, -⟩, h3⟩, -⟩ := CC_det (d + 1) _ _ _ _ h2
    rw [← e]; exact h3
theorem rv_int {d j : Nat} {as : List Value} {m : jmM} {v : Value} {m1 : jmM} (hj : jRt j = some .int ∨ jRt j = some .boolean) (h : CE d j as m (some v) m1) : ∃ x, v = .int x := by
  have hr := CE_rv h
  cases v <;> first | exact ⟨_, rfl⟩ | (unfold jRv at hr; rcases hj with e | e <;> rw [e] at hr <;> first | exact absurd hr (by simp [jIsObj]) | exact hr.elim)
theorem rv_long {d j : Nat} {as : List Value} {m : jmM} {v : Value} {m1 : jmM} (hj : jRt j = some .long) (h : CE d j as m (some v) m1) : ∃ x, v = .long x := by
  have hr := CE_rv h
  cases v <;> first | exact ⟨_, rfl⟩ | (unfold jRv at hr; rw [hj] at hr; first | exact absurd hr (by simp [jIsObj]) | exact hr.elim)
