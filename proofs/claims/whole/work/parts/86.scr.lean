/-! ===== the script is never written ===== -/
def sT (m m' : jmM) : Prop := mN m ≤ mN m' ∧ (mN m' ≤ jScr → (mS m jScr).1 = 99 → mS m' jScr = mS m jScr ∧ mI m' jScr = mI m jScr) ∧ ∀ b, b < mN m → mS m' b = mS m b
theorem sT.refl {m : jmM} : sT m m := ⟨Nat.le_refl _, fun _ _ => ⟨rfl, rfl⟩, fun _ _ => rfl⟩
theorem sT.trans {m m1 m2 : jmM} (h : sT m m1) (h' : sT m1 m2) : sT m m2 := by
  obtain ⟨a1, a2, a3⟩ := h
  obtain ⟨b1, b2, b3⟩ := h'
  refine ⟨Nat.le_trans a1 b1, fun h1 h2 => ?_, fun b hb => (b3 b (Nat.lt_of_lt_of_le hb a1)).trans (a3 b hb)⟩
  obtain ⟨c1, c2⟩ := a2 (Nat.le_trans b1 h1) h2
  obtain ⟨d1, d2⟩ := b2 h1 (by rw [c1]; exact h2)
  exact ⟨d1.trans c1, d2.trans c2⟩
theorem sT_cI {m : jmM} {a : Nat} {f : Nat → Int32} (h : (mS m a).1 ≠ 99) : sT m (cI m a f) := ⟨Nat.le_refl _, fun _ h2 => ⟨rfl, mI_ne (fun e => h (by rw [← e]; exact h2))⟩, fun _ _ => rfl⟩
theorem sT_cL {m : jmM} {a : Nat} {f : Nat → Int64} : sT m (cL m a f) := ⟨Nat.le_refl _, fun _ _ => ⟨rfl, rfl⟩, fun _ _ => rfl⟩
theorem sT_cR {m : jmM} {a : Nat} {f : Nat → Option Nat} : sT m (cR m a f) := ⟨Nat.le_refl _, fun _ _ => ⟨rfl, rfl⟩, fun _ _ => rfl⟩
theorem sT_new {m : jmM} {kd n : Nat} : sT m (jNew m kd n) := by
  refine ⟨Nat.le_succ _, fun h1 h2 => ?_, fun b hb => jup_ne (Nat.ne_of_lt hb)⟩
  have h1 : mN m + 1 ≤ jScr := h1
  refine ⟨?_, ?_⟩
  · show jup m.2.2.2.1 (mN m) (kd, n) jScr = _
    rw [jup_ne (by omega)]; rfl
  · show jup m.1 (mN m) (fun _ => 0) jScr = _
    rw [jup_ne (by omega)]; rfl
def jT2 (m : jmM) (r : jRes) : Prop := match r with
  | none => True
  | some (.inl (_, _, _, m1)) => sT m m1
  | some (.inr (.inl (_, _, _, _, _, m1))) => sT m m1
  | some (.inr (.inr (_, m1))) => sT m m1
section SCR
variable {m m1 : jmM} {j pc : Nat} {L : List (Option Value)} {st : List Value}
theorem jT_N (h : sT m m1) : jT2 m (jN pc L st m1) := h
theorem jT_C {tj : Nat} {as r : List Value} (h : sT m m1) : jT2 m (jCl tj as pc L r m1) := h
theorem jT_R {v : Option Value} (h : sT m m1) : jT2 m (jRet v m1) := h
theorem jT_G {g : Prop} {h : Decidable g} {r : jRes} (hr : g → jT2 m r) : jT2 m (jG g h r) := by
  cases h with
  | isTrue hg => exact hr hg
  | isFalse hg => exact trivial
theorem jT_1i {f : Int32 → List Value → jRes} (h : ∀ x r, jT2 m (f x r)) : jT2 m (k1i st f) := by
  unfold k1i; split
  · exact h _ _
  · exact trivial
theorem jT_1l {f : Int64 → List Value → jRes} (h : ∀ x r, jT2 m (f x r)) : jT2 m (k1l st f) := by
  unfold k1l; split
  · exact h _ _
  · exact trivial
theorem jT_1a {f : Nat → List Value → jRes} (h : ∀ x r, jT2 m (f x r)) : jT2 m (k1a st f) := by
  unfold k1a; split
  · exact h _ _
  · exact trivial
theorem jT_1q {f : Value → List Value → jRes} (h : ∀ x r, jT2 m (f x r)) : jT2 m (k1q st f) := by
  unfold k1q; split
  · exact h _ _
  · exact h _ _
  · exact trivial
theorem jT_1c {f : Value → List Value → jRes} (h : ∀ x r, jT2 m (f x r)) : jT2 m (k1c st f) := by
  unfold k1c; split
  · exact h _ _
  · exact h _ _
  · exact h _ _
  · exact trivial
theorem jT_2i {f : Int32 → Int32 → List Value → jRes} (h : ∀ x y r, jT2 m (f x y r)) : jT2 m (k2i st f) := jT_1i fun y r => jT_1i fun x r => h x y r
theorem jT_2l {f : Int64 → Int64 → List Value → jRes} (h : ∀ x y r, jT2 m (f x y r)) : jT2 m (k2l st f) := jT_1l fun y r => jT_1l fun x r => h x y r
theorem jT_gi {i : Nat} {f : Int32 → jRes} (h : ∀ x, jT2 m (f x)) : jT2 m (kgi L i f) := by
  unfold kgi; split
  · exact h _
  · exact trivial
theorem jT_gl {i : Nat} {f : Int64 → jRes} (h : ∀ x, jT2 m (f x)) : jT2 m (kgl L i f) := by
  unfold kgl; split
  · exact h _
  · exact trivial
theorem jT_gq {i : Nat} {f : Value → jRes} (h : ∀ x, jT2 m (f x)) : jT2 m (kgq L i f) := by
  unfold kgq; split
  · exact h _
  · exact h _
  · exact trivial
theorem jT_op {α : Type} {o : Option α} {f : α → jRes} (h : ∀ x, jT2 m (f x)) : jT2 m (kop o f) := by
  unfold kop; split
  · exact h _
  · exact trivial
theorem jT_To {off : Int} : jT2 m (jTo pc off L st m) := jT_G fun _ => jT_N sT.refl
theorem jT_If {c : Prop} {h : Decidable c} {off : Int} : jT2 m (jIf c h pc off L st m) := jT_G fun _ => by
  cases h with
  | isTrue _ => exact jT_N sT.refl
  | isFalse _ => exact jT_N sT.refl
theorem jT_ld {q : Nat} {f : Nat → Nat → List Value → jRes} (h : ∀ a i r, (mS m a).1 = q → jT2 m (f a i r)) : jT2 m (jld q st m f) := jT_1i fun _ _ => jT_1a fun _ _ => jT_G fun g => h _ _ _ g.1
theorem jT_d2 {f : List Value → jRes} (h : ∀ r, jT2 m (f r)) : jT2 m (kd2 st f) := by
  unfold kd2; split
  · exact h _
  · exact jT_1c fun _ _ => jT_1c fun _ _ => h _
theorem jT_pf {f : Value → Nat → List Value → jRes} (h : ∀ v a r, jT2 m (f v a r)) : jT2 m (kpf st f) := by
  unfold kpf; split
  · exact h _ _ _
  · exact trivial
theorem jT_q2 {f g : List Value → jRes} (h : ∀ r, jT2 m (f r)) (h' : ∀ r, jT2 m (g r)) : jT2 m (kq2 st f g) := by
  unfold kq2; split
  · exact h _
  · exact h' _
  · exact trivial
theorem jT_ri {f : Int32 → jRes} (h : ∀ x, jT2 m (f x)) : jT2 m (kri st f) := by
  unfold kri; split
  · exact h _
  · exact trivial
theorem jT_rl {f : Int64 → jRes} (h : ∀ x, jT2 m (f x)) : jT2 m (krl st f) := by
  unfold krl; split
  · exact h _
  · exact trivial
theorem jT_rq {f : Value → jRes} (h : ∀ x, jT2 m (f x)) : jT2 m (krq st f) := by
  unfold krq; split
  · exact h _
  · exact h _
  · exact trivial
theorem jT_r0 {r : jRes} (h : jT2 m r) : jT2 m (kr0 st r) := by
  unfold kr0; split
  · exact h
  · exact trivial
theorem jT_Put {ty : FieldType} {a k : Nat} {v : Value} {f : jmM → jRes} (ha : (mS m a).1 ≠ 99) (h : ∀ m1, sT m m1 → jT2 m (f m1)) : jT2 m (jPut ty m a k v f) := by
  unfold jPut; split
  · exact h _ (sT_cI ha)
  · exact jT_G fun _ => h _ (sT_cI ha)
  · exact h _ sT_cL
  · exact h _ sT_cR
  · exact h _ sT_cR
  · exact h _ sT_cR
  · exact h _ sT_cR
  · exact trivial
theorem jT_Site {idx kd tj n : Nat} {sp : Bool} : jT2 m (jSite j idx pc kd tj n sp L st m) := by
  unfold jSite; split
  · exact jT_G fun _ => jT_C sT.refl
  · exact jT_G fun _ => jT_C sT.refl
  · exact jT_2i fun _ _ _ => jT_G fun _ => jT_N sT.refl
  · exact jT_2i fun _ _ _ => jT_G fun _ => jT_N sT.refl
  · exact jT_1i fun _ _ => jT_G fun _ => jT_N sT.refl
  · exact jT_2l fun _ _ _ => jT_G fun _ => jT_N sT.refl
  · exact jT_2l fun _ _ _ => jT_G fun _ => jT_N sT.refl
  · exact jT_1l fun _ _ => jT_G fun _ => jT_N sT.refl
  · refine jT_1i fun _ _ => jT_1i fun _ _ => jT_1a fun _ _ => jT_1i fun _ _ => jT_1a fun _ _ => jT_G fun g => ?_
    split
    · exact jT_N (sT_cI (by omega))
    · exact jT_N sT_cL
  · exact trivial
theorem jT_Virt {idx kd tj n : Nat} : jT2 m (jVirt j idx pc kd tj n L st m) := by
  unfold jVirt; split
  · exact jT_G fun _ => jT_1a fun _ _ => jT_G fun _ => jT_C sT.refl
  · exact jT_1a fun _ _ => jT_G fun _ => jT_N sT.refl
  · exact jT_1i fun _ _ => jT_1a fun _ _ => jT_G fun _ => jT_N sT.refl
  · exact trivial
theorem jT_Spec {idx kd tj n : Nat} : jT2 m (jSpec j idx pc kd tj n L st m) := by
  unfold jSpec; split
  · exact jT_G fun _ => jT_1a fun _ _ => jT_C sT.refl
  · exact jT_G fun _ => jT_1a fun _ _ => jT_C sT.refl
  · exact jT_1a fun _ _ => jT_G fun _ => jT_N sT.refl
  · exact trivial
theorem jFl_cls : ∀ q ∈ jFl, q.2.2.1 ≠ 99 := by decide +kernel
theorem jT_Ef (i : Instr) : jT2 m (jEf j pc i L st m) := by
  unfold jEf
  split
  all_goals first
    | exact jT_N sT.refl
    | exact jT_gi fun _ => jT_N sT.refl
    | exact jT_gl fun _ => jT_N sT.refl
    | exact jT_gq fun _ => jT_N sT.refl
    | exact jT_1i fun _ _ => jT_G fun _ => jT_N sT.refl
    | exact jT_1l fun _ _ => jT_G fun _ => jT_N sT.refl
    | exact jT_1q fun _ _ => jT_G fun _ => jT_N sT.refl
    | exact jT_gi fun _ => jT_G fun _ => jT_N sT.refl
    | exact jT_2i fun _ _ _ => jT_N sT.refl
    | exact jT_2i fun _ _ _ => jT_G fun _ => jT_N sT.refl
    | exact jT_2l fun _ _ _ => jT_N sT.refl
    | exact jT_2l fun _ _ _ => jT_G fun _ => jT_N sT.refl
    | exact jT_1i fun _ _ => jT_N sT.refl
    | exact jT_1l fun _ _ => jT_N sT.refl
    | exact jT_1i fun _ _ => jT_1l fun _ _ => jT_N sT.refl
    | exact jT_1c fun _ _ => jT_N sT.refl
    | exact jT_d2 fun _ => jT_N sT.refl
    | exact jT_To
    | (refine jT_1i fun _ _ => ?_; split <;> exact jT_If)
    | (refine jT_2i fun _ _ _ => ?_; split <;> exact jT_If)
    | exact jT_G fun _ => jT_q2 (fun _ => jT_N sT.refl) (fun _ => jT_N sT.refl)
    | (refine jT_1i fun _ _ => ?_; split; exact jT_To; exact jT_op fun _ => jT_To)
    | exact jT_1i fun _ _ => jT_G fun _ => jT_To
    | exact jT_1i fun _ _ => jT_1a fun _ _ => jT_G fun _ => jT_N sT.refl
    | exact jT_ld fun _ _ _ _ => jT_N sT.refl
    | exact jT_1i fun _ _ => jT_ld fun _ _ _ h => jT_N (sT_cI (by omega))
    | exact jT_1l fun _ _ => jT_ld fun _ _ _ _ => jT_N sT_cL
    | exact jT_1i fun _ _ => jT_1i fun _ _ => jT_1a fun _ _ => jT_G fun g => jT_N (sT_cI (by omega))
    | exact jT_1a fun _ _ => jT_1i fun _ _ => jT_1a fun _ _ => jT_G fun _ => jT_N sT_cR
    | exact jT_1a fun _ _ => jT_G fun _ => jT_N sT.refl
    | exact jT_1a fun _ _ => jT_op fun _ => jT_G fun _ => jT_N sT.refl
    | exact jT_op fun _ => jT_N sT_new
    | exact jT_1i fun _ _ => jT_op fun _ => jT_G fun _ => jT_N sT_new
    | (split <;> exact jT_op fun _ => jT_N sT.refl)
    | exact jT_op fun _ => jT_N sT.refl
    | exact jT_op fun _ => jT_Site
    | exact jT_op fun _ => jT_Virt
    | exact jT_op fun _ => jT_Spec
    | exact jT_ri fun _ => jT_G fun _ => jT_R sT.refl
    | exact jT_rl fun _ => jT_G fun _ => jT_R sT.refl
    | exact jT_rq fun _ => jT_G fun _ => jT_R sT.refl
    | exact jT_r0 (jT_G fun _ => jT_R sT.refl)
    | exact trivial
    | skip
  refine jT_pf fun v a r => ?_
  unfold kop
  split
  · rename_i q hq
    refine jT_G fun g => jT_Put ?_ fun m1 h => jT_N h
    rw [g.1]
    unfold jfind2 at hq
    obtain ⟨p, hp, e⟩ := Option.map_eq_some_iff.mp hq
    have := jFl_cls p (List.mem_of_find?_eq_some hp)
    rw [← e]; exact this
  · exact trivial
theorem jT_Step : jT2 m (jStep j pc L st m) := by
  unfold jStep
  split
  · exact jT_G fun _ => jT_Ef _
  · exact trivial
end SCR
def sC (C : jCC) : Prop := ∀ j as m (Q : Option Value → jmM → Prop), C j as m Q → C j as m (fun v m1 => Q v m1 ∧ sT m m1)
theorem jRun_sT {C : jCC} {j : Nat} {Q : Option Value → jmM → Prop} (hm : jMono C) (hs : sC C) : ∀ (k pc : Nat) (L : List (Option Value)) (st : List Value) (m : jmM), jRun C j Q k pc L st m → jRun C j (fun v m1 => Q v m1 ∧ sT m m1) k pc L st m
  | 0, _, _, _, _, h => h
  | k + 1, pc, L, st, m, h => by
    have h : jSem C (jRun C j Q k) Q (jStep j pc L st m) := h
    show jSem C (jRun C j (fun v m1 => Q v m1 ∧ sT m m1) k) (fun v m1 => Q v m1 ∧ sT m m1) (jStep j pc L st m)
    have hT := jT_Step (m := m) (j := j) (pc := pc) (L := L) (st := st)
    generalize jStep j pc L st m = r at h hT ⊢
    match r, h, hT with
    | none, h, _ => exact h
    | some (.inl (pc2, L2, st2, m2)), h, hT =>
      have hT : sT m m2 := hT
      exact jRun_mono (fun _ _ _ _ h => h) hm (fun v m1 q => ⟨q.1, hT.trans q.2⟩) k _ _ _ _ (jRun_sT hm hs k pc2 L2 st2 m2 h)
    | some (.inr (.inl (j2, as, pc2, L2, r2, m2))), h, hT =>
      have hT : sT m m2 := hT
      exact hm _ _ _ _ _ (fun v m1 q => jRun_mono (fun _ _ _ _ h => h) hm (fun v m3 q3 => ⟨q3.1, (hT.trans q.2).trans q3.2⟩) k _ _ _ _ (jRun_sT hm hs k _ _ _ m1 q.1)) (hs _ _ _ _ h)
    | some (.inr (.inr (v, m2))), h, hT => exact ⟨h, hT⟩
theorem CC_sT : ∀ d, sC (CC d)
  | 0 => fun _ _ _ _ h => h
  | d + 1 => fun j as m Q h => by
    obtain ⟨h0, k, h⟩ := h
    exact ⟨h0, k, jRun_sT (CC_mono d) (CC_sT d) k _ _ _ _ h⟩
theorem CE_sT {d j : Nat} {as : List Value} {m : jmM} {v : Option Value} {m1 : jmM} (h : CE d j as m v m1) : sT m m1 := by
  have := CC_sT d _ _ _ _ h
  obtain ⟨v2, m2, ⟨⟨-, e⟩, h3⟩, -⟩ := CC_det d _ _ _ _ this
  rw [← e]; exact h3
