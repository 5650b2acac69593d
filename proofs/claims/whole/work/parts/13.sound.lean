/-! ===== SOUNDNESS, a whole run ===== -/
section JLE
variable {N1 Z1 j pc : Nat} {L : List (Option Value)} {st : List Value} {m : jmM}
def jLeC : jCC := fun _ _ m K => ∃ v m2, mN m ≤ mN m2 ∧ mZ m ≤ mZ m2 ∧ K v m2
def jLe (N1 Z1 : Nat) (m : jmM) (r : jRes) : Prop := jSem jLeC (fun _ _ _ m1 => mN m1 ≤ N1 ∧ mZ m1 ≤ Z1) (fun _ m1 => mN m1 ≤ N1 ∧ mZ m1 ≤ Z1) r → mN m ≤ N1 ∧ mZ m ≤ Z1
theorem le_no : jLe N1 Z1 m none := fun h => h.elim
theorem le_N {pc : Nat} {L : List (Option Value)} {st : List Value} {m1 : jmM} (h1 : mN m ≤ mN m1) (h2 : mZ m ≤ mZ m1) : jLe N1 Z1 m (jN pc L st m1) := fun h => ⟨Nat.le_trans h1 h.1, Nat.le_trans h2 h.2⟩
theorem le_R {v : Option Value} : jLe N1 Z1 m (jRet v m) := fun h => h
theorem le_C {tj pc : Nat} {as : List Value} {L : List (Option Value)} {r : List Value} : jLe N1 Z1 m (jCl tj as pc L r m) := fun h => by
  obtain ⟨v, m2, h1, h2, h3⟩ := h
  exact ⟨Nat.le_trans h1 h3.1, Nat.le_trans h2 h3.2⟩
theorem le_G {g : Prop} {hg : Decidable g} {r : jRes} (h : jLe N1 Z1 m r) : jLe N1 Z1 m (jG g hg r) := fun h2 => h (jSem_G.mp h2).2
theorem le_1i {f : Int32 → List Value → jRes} (h : ∀ x r, jLe N1 Z1 m (f x r)) : jLe N1 Z1 m (k1i st f) := fun h2 => by
  obtain ⟨x, r, -, h3⟩ := jS_1i h2; exact h x r h3
theorem le_1l {f : Int64 → List Value → jRes} (h : ∀ x r, jLe N1 Z1 m (f x r)) : jLe N1 Z1 m (k1l st f) := fun h2 => by
  obtain ⟨x, r, -, h3⟩ := jS_1l h2; exact h x r h3
theorem le_1a {f : Nat → List Value → jRes} (h : ∀ x r, jLe N1 Z1 m (f x r)) : jLe N1 Z1 m (k1a st f) := fun h2 => by
  obtain ⟨x, r, -, h3⟩ := jS_1a h2; exact h x r h3
theorem le_1q {f : Value → List Value → jRes} (h : ∀ x r, jLe N1 Z1 m (f x r)) : jLe N1 Z1 m (k1q st f) := fun h2 => by
  obtain ⟨x, r, -, -, h3⟩ := jS_1q h2; exact h x r h3
theorem le_1c {f : Value → List Value → jRes} (h : ∀ x r, jLe N1 Z1 m (f x r)) : jLe N1 Z1 m (k1c st f) := fun h2 => by
  obtain ⟨x, r, -, -, h3⟩ := jS_1c h2; exact h x r h3
theorem le_gi {i : Nat} {f : Int32 → jRes} (h : ∀ x, jLe N1 Z1 m (f x)) : jLe N1 Z1 m (kgi L i f) := fun h2 => by
  obtain ⟨x, -, h3⟩ := jS_gi h2; exact h x h3
theorem le_gl {i : Nat} {f : Int64 → jRes} (h : ∀ x, jLe N1 Z1 m (f x)) : jLe N1 Z1 m (kgl L i f) := fun h2 => by
  obtain ⟨x, -, h3⟩ := jS_gl h2; exact h x h3
theorem le_gq {i : Nat} {f : Value → jRes} (h : ∀ x, jLe N1 Z1 m (f x)) : jLe N1 Z1 m (kgq L i f) := fun h2 => by
  obtain ⟨x, -, -, h3⟩ := jS_gq h2; exact h x h3
theorem le_op {α : Type} {o : Option α} {f : α → jRes} (h : ∀ x, jLe N1 Z1 m (f x)) : jLe N1 Z1 m (kop o f) := fun h2 => by
  obtain ⟨x, -, h3⟩ := jS_op h2; exact h x h3
theorem le_2i {f : Int32 → Int32 → List Value → jRes} (h : ∀ x y r, jLe N1 Z1 m (f x y r)) : jLe N1 Z1 m (k2i st f) := le_1i fun y _ => le_1i fun x r => h x y r
theorem le_2l {f : Int64 → Int64 → List Value → jRes} (h : ∀ x y r, jLe N1 Z1 m (f x y r)) : jLe N1 Z1 m (k2l st f) := le_1l fun y _ => le_1l fun x r => h x y r
theorem le_if {c : Prop} {hc : Decidable c} {off : Int} {r : List Value} : jLe N1 Z1 m (jIf c hc pc off L r m) := le_G (by
  cases hc
  · exact le_N (Nat.le_refl _) (Nat.le_refl _)
  · exact le_N (Nat.le_refl _) (Nat.le_refl _))
theorem le_to {off : Int} {r : List Value} : jLe N1 Z1 m (jTo pc off L r m) := le_G (le_N (Nat.le_refl _) (Nat.le_refl _))
theorem le_ite {c : Prop} {hc : Decidable c} {r1 r2 : jRes} (h1 : jLe N1 Z1 m r1) (h2 : jLe N1 Z1 m r2) : jLe N1 Z1 m (@ite _ c hc r1 r2) := by
  split
  · exact h1
  · exact h2
theorem le_put {ty : FieldType} {a k : Nat} {v : Value} {f : jmM → jRes} (h : ∀ m1, mN m1 = mN m → mZ m1 = mZ m → jLe N1 Z1 m (f m1)) : jLe N1 Z1 m (jPut ty m a k v f) := fun h2 => by
  obtain ⟨m1, h3, e1, e2, -⟩ := jS_put (b0 := 0) (ext := fun _ => 0) h2
  exact h m1 e1 e2 h3
theorem le_ld {q : Nat} {f : Nat → Nat → List Value → jRes} (h : ∀ a i r, jLe N1 Z1 m (f a i r)) : jLe N1 Z1 m (jld q st m f) := le_1i fun i _ => le_1a fun a r => le_G (h a (jx i) r)
theorem le_pf {f : Value → Nat → List Value → jRes} (h : ∀ v a r, jLe N1 Z1 m (f v a r)) : jLe N1 Z1 m (kpf st f) := fun h2 => by
  obtain ⟨v, a, r, -, h3⟩ := jS_pf h2; exact h v a r h3
theorem le_d2 {f : List Value → jRes} (h : ∀ r, jLe N1 Z1 m (f r)) : jLe N1 Z1 m (kd2 st f) := by
  unfold kd2
  split
  · exact h _
  · exact le_1c fun v _ => le_1c fun w r => h _
theorem le_q2 {fn fr : List Value → jRes} (h1 : ∀ r, jLe N1 Z1 m (fn r)) (h2 : ∀ r, jLe N1 Z1 m (fr r)) : jLe N1 Z1 m (kq2 st fn fr) := by
  unfold kq2
  split
  · exact h1 _
  · exact h2 _
  · exact le_no
theorem le_ri {f : Int32 → jRes} (h : ∀ x, jLe N1 Z1 m (f x)) : jLe N1 Z1 m (kri st f) := by
  unfold kri
  split
  · exact h _
  · exact le_no
theorem le_rl {f : Int64 → jRes} (h : ∀ x, jLe N1 Z1 m (f x)) : jLe N1 Z1 m (krl st f) := by
  unfold krl
  split
  · exact h _
  · exact le_no
theorem le_rq {f : Value → jRes} (h : ∀ x, jLe N1 Z1 m (f x)) : jLe N1 Z1 m (krq st f) := by
  unfold krq
  split
  · exact h _
  · exact h _
  · exact le_no
theorem le_r0 {f : jRes} (h : jLe N1 Z1 m f) : jLe N1 Z1 m (kr0 st f) := by
  unfold kr0
  split
  · exact h
  · exact le_no
theorem le_site {idx kd tj n : Nat} {b : Bool} : jLe N1 Z1 m (jSite j idx pc kd tj n b L st m) := by
  have hN : ∀ {pc : Nat} {L : List (Option Value)} {r : List Value}, jLe N1 Z1 m (jN pc L r m) := le_N (Nat.le_refl _) (Nat.le_refl _)
  unfold jSite
  split
  · exact le_G le_C
  · exact le_G le_C
  · exact le_2i fun _ _ _ => le_G hN
  · exact le_2i fun _ _ _ => le_G hN
  · exact le_1i fun _ _ => le_G hN
  · exact le_2l fun _ _ _ => le_G hN
  · exact le_2l fun _ _ _ => le_G hN
  · exact le_1l fun _ _ => le_G hN
  · exact le_1i fun _ _ => le_1i fun _ _ => le_1a fun _ _ => le_1i fun _ _ => le_1a fun _ _ => le_G (le_ite (le_N (Nat.le_refl _) (Nat.le_refl _)) (le_N (Nat.le_refl _) (Nat.le_refl _)))
  · exact le_no
theorem le_virt {idx kd tj n : Nat} : jLe N1 Z1 m (jVirt j idx pc kd tj n L st m) := by
  unfold jVirt
  split
  · exact le_G (le_1a fun _ _ => le_G le_C)
  · exact le_1a fun _ _ => le_G (le_N (Nat.le_refl _) (Nat.le_refl _))
  · exact le_1i fun _ _ => le_1a fun _ _ => le_G (le_N (Nat.le_refl _) (Nat.le_refl _))
  · exact le_no
theorem le_spec {idx kd tj n : Nat} : jLe N1 Z1 m (jSpec j idx pc kd tj n L st m) := by
  unfold jSpec
  split
  · exact le_G (le_1a fun _ _ => le_C)
  · exact le_G (le_1a fun _ _ => le_C)
  · exact le_1a fun _ _ => le_G (le_N (Nat.le_refl _) (Nat.le_refl _))
  · exact le_no
theorem le_ef (i : Instr) : jLe N1 Z1 m (jEf j pc i L st m) := by
  have hN : ∀ {pc : Nat} {L : List (Option Value)} {r : List Value}, jLe N1 Z1 m (jN pc L r m) := le_N (Nat.le_refl _) (Nat.le_refl _)
  cases i
  case ifCond c off => exact le_1i fun _ _ => by cases c <;> exact le_if
  case if_icmp c off => exact le_2i fun _ _ _ => by cases c <;> exact le_if
  case ifnull off => exact le_G (le_q2 (fun _ => hN) (fun _ => hN))
  case ifnonnull off => exact le_G (le_q2 (fun _ => hN) (fun _ => hN))
  case tableswitch dflt lo hi offs => exact le_1i fun _ _ => le_ite le_to (le_op fun _ => le_to)
  case lookupswitch dflt ps => exact le_1i fun _ _ => le_G le_to
  case goto off => exact le_to
  case iaload => exact le_1i fun _ _ => le_1a fun _ _ => le_G hN
  case baload => exact le_1i fun _ _ => le_1a fun _ _ => le_G hN
  case aaload => exact le_1i fun _ _ => le_1a fun _ _ => le_G hN
  case laload => show jLe N1 Z1 m (jld 21 st m fun a i r => jN (pc + 1) L (.long (mL m a i) :: r) m); exact le_ld fun _ _ _ => hN
  case iastore => exact le_1i fun _ _ => le_ld fun _ _ _ => le_N (Nat.le_refl _) (Nat.le_refl _)
  case lastore => exact le_1l fun _ _ => le_ld fun _ _ _ => le_N (Nat.le_refl _) (Nat.le_refl _)
  case bastore => exact le_1i fun _ _ => le_1i fun _ _ => le_1a fun _ _ => le_G (le_N (Nat.le_refl _) (Nat.le_refl _))
  case aastore => exact le_1a fun _ _ => le_1i fun _ _ => le_1a fun _ _ => le_G (le_N (Nat.le_refl _) (Nat.le_refl _))
  case arraylength => exact le_1a fun _ _ => le_G hN
  case getfield idx => exact le_1a fun _ _ => le_op fun _ => le_G hN
  case putfield idx => exact le_pf fun _ _ _ => le_op fun _ => le_G (le_put fun m1 e1 e2 => le_N (Nat.le_of_eq e1.symm) (Nat.le_of_eq e2.symm))
  case new idx => exact le_op fun _ => le_N (Nat.le_succ _) (Nat.le_add_right _ _)
  case newarray t => exact le_1i fun _ _ => le_op fun _ => le_G (le_N (Nat.le_succ _) (Nat.le_add_right _ _))
  case anewarray idx => exact le_1i fun _ _ => le_op fun _ => le_G (le_N (Nat.le_succ _) (Nat.le_add_right _ _))
  case ldc idx => exact le_ite (le_op fun _ => hN) (le_op fun _ => hN)
  case ldc_w idx => exact le_op fun _ => hN
  case ldc2_w idx => exact le_op fun _ => hN
  case invokestatic idx => exact le_op fun _ => le_site
  case invokevirtual idx => exact le_op fun _ => le_virt
  case invokespecial idx => exact le_op fun _ => le_spec
  case ireturn => exact le_ri fun _ => le_G le_R
  case lreturn => exact le_rl fun _ => le_G le_R
  case areturn => exact le_rq fun _ => le_G le_R
  case return_ => exact le_r0 (le_G le_R)
  case dup2 => show jLe N1 Z1 m (kd2 st fun s => jN (pc + 1) L s m); exact le_d2 fun _ => hN
  case aload k => show jLe N1 Z1 m (kgq L k fun v => jN (pc + 2) L (v :: st) m); exact le_gq fun _ => hN
  case aload_n k => show jLe N1 Z1 m (kgq L k fun v => jN (pc + 1) L (v :: st) m); exact le_gq fun _ => hN
  case astore k => show jLe N1 Z1 m (k1q st fun x r => jG (k < L.length) inferInstance (jN (pc + 2) (jst1 L k x) r m)); exact le_1q fun _ _ => le_G hN
  case astore_n k => show jLe N1 Z1 m (k1q st fun x r => jG ((k : Nat) < L.length) inferInstance (jN (pc + 1) (jst1 L k x) r m)); exact le_1q fun _ _ => le_G hN
  case dup => show jLe N1 Z1 m (k1c st fun v r => jN (pc + 1) L (v :: v :: r) m); exact le_1c fun _ _ => hN
  case pop => show jLe N1 Z1 m (k1c st fun _ r => jN (pc + 1) L r m); exact le_1c fun _ _ => hN
  all_goals first
    | exact le_no
    | exact hN
    | exact le_gi fun _ => hN
    | exact le_gl fun _ => hN
    | exact le_gq fun _ => hN
    | exact le_1i fun _ _ => hN
    | exact le_1l fun _ _ => hN
    | exact le_1c fun _ _ => hN
    | exact le_2i fun _ _ _ => hN
    | exact le_2l fun _ _ _ => hN
    | exact le_1i fun _ _ => le_G hN
    | exact le_1l fun _ _ => le_G hN
    | exact le_1q fun _ _ => le_G hN
    | exact le_gi fun _ => le_G hN
    | exact le_2i fun _ _ _ => le_G hN
    | exact le_2l fun _ _ _ => le_G hN
    | exact le_1i fun _ _ => le_1l fun _ _ => hN
theorem le_step : jLe N1 Z1 m (jStep j pc L st m) := by
  unfold jStep
  split
  · exact le_G (le_ef _)
  · exact le_no
end JLE
theorem jRun_le {C : jCC} {j : Nat} {Q : Option Value → jmM → Prop} {N1 Z1 : Nat} (hC : ∀ j as m K, C j as m K → jLeC j as m K) (hQ : ∀ v m, Q v m → mN m ≤ N1 ∧ mZ m ≤ Z1) : ∀ (k pc : Nat) (L : List (Option Value)) (st : List Value) (m : jmM), jRun C j Q k pc L st m → mN m ≤ N1 ∧ mZ m ≤ Z1
  | 0, _, _, _, _, h => h.elim
  | k + 1, pc, L, st, m, h => by
    refine le_step (j := j) (pc := pc) (L := L) (st := st) (jSem_mono (C := C) hC ?_ (fun pc L st m h => jRun_le hC hQ k pc L st m h) hQ h)
    intro j as m Q Q' h1 h2
    obtain ⟨v, m2, e1, e2, e3⟩ := h2
    exact ⟨v, m2, e1, e2, h1 _ _ e3⟩
theorem CC_le2 : ∀ (d j : Nat) (as : List Value) (m : jmM) (K : Option Value → jmM → Prop), CC d j as m K → jLeC j as m K
  | 0, _, _, _, _, h => h.elim
  | d + 1, j, as, m, K, h => by
    obtain ⟨v, m1, hk, h1⟩ := CC_det (d + 1) _ _ _ _ h
    obtain ⟨-, k, h2⟩ := h1
    have := jRun_le (N1 := mN m1) (Z1 := mZ m1) (CC_le2 d) (fun v2 m2 e => by obtain ⟨-, rfl⟩ := e; exact ⟨Nat.le_refl _, Nat.le_refl _⟩) k _ _ _ _ h2
    exact ⟨v, m1, this.1, this.2, hk⟩
