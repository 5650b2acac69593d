/-! ===== SOUNDNESS, one instruction ===== -/
/-- what lies outside of the made cells: the script, the String constants -/
def jExt (b0 : Nat) (ext : Nat → Nat) (sl : Nat) (sx : Nat → Int32) (U : State) : Prop :=
  va_X (ext jScr) sl sx U U.heap ∧ (∀ k, jScr ≤ k → k ≤ jScr + 16 → ext k < b0) ∧ (∀ q ∈ jLs, vk_R (jRN q.1) q.2.1 (jTx.getD q.2.2.1 "") (ext (jScr + 1 + q.2.2.1)) U) ∧
  (∃ adV : Nat → Nat, vk_S 16 (jCh.map List.length) jCh (fun i => ext (jScr + 1 + i)) adV (fun q => b0 ≤ q) U U.heap) ∧ va_Z "java/lang/String" "COMPACT_STRINGS" "Z" (.int 1) (fun q => b0 ≤ q) U U.heap ∧
  (∀ q ∈ jAn, va_AO (jRN q.2.2.2.1) U) ∧ va_Zq "jdk/internal/util/Preconditions" "SIOOBE_FORMATTER" "Ljava/util/function/BiFunction;" (fun q => b0 ≤ q) U U.heap ∧
  (∀ q ∈ jSt, (q.2.2.1 = 4 ∨ q.2.2.1 = 5) → va_Nw (.methodLinkNest (jRN q.1) q.2.1 (jY q.2.2.2.1) RX11) U)
def jSim (D : va_G) (b0 : Nat) (ext : Nat → Nat) (cA : Nat → ClassId) (sl : Nat) (sx : Nat → Int32) (m : jmM) (H0 H : Heap) (locs : List Loc) : Prop :=
  va_P D vwCl (jws b0 ext cA m) H ∧ va_D (fun q => b0 ≤ q) (jws b0 ext cA m) ∧ va_S (fun q => b0 ≤ q) H0 H locs ∧ jOKm sl sx m
def jroom (d : Nat) (m m1 : jmM) : Room := { frames := d + 8, cells := mN m1 - mN m, slots := mZ m1 - mZ m, locals := 64 * d + 512 }
def jwsd (j : Nat) : List Cond := .code (jY j) (jB j) (jMl j) (jRt j) :: lw_g
def jSimU (D : va_G) (b0 : Nat) (ext : Nat → Nat) (cA : Nat → ClassId) (sl : Nat) (sx : Nat → Int32) (m : jmM) (U : State) : Prop :=
  va_P D vwCl (jws b0 ext cA m) U.heap ∧ va_D (fun q => b0 ≤ q) (jws b0 ext cA m) ∧ jOKm sl sx m ∧ va_K D vwCl (jtys cA) U ∧ U.heap.size = b0 + mN m ∧ jExt b0 ext sl sx U
def jPre (D : va_G) (b0 : Nat) (ext : Nat → Nat) (cA : Nat → ClassId) (sl : Nat) (sx : Nat → Int32) (m : jmM) (as : List Value) : Array Value → State → Prop := fun v U => v = (as.map (jcv b0 ext)).toArray ∧ jSimU D b0 ext cA sl sx m U
def jPost (D : va_G) (b0 : Nat) (ext : Nat → Nat) (cA : Nat → ClassId) (sl : Nat) (sx : Nat → Int32) (m1 : jmM) (v : Option Value) : Array Value → State → Outcome → State → Prop := fun _ st o t => o = .returned (v.map (jcv b0 ext)) ∧ va_P D vwCl (jws b0 ext cA m1) t.heap ∧ va_D (fun q => b0 ≤ q) (jws b0 ext cA m1) ∧ jOKm sl sx m1 ∧ va_F (fun q => b0 ≤ q) st t
/-- what a call of depth d owes -/
def jOwes (l : Launch) (D : va_G) (b0 : Nat) (ext : Nat → Nat) (cA : Nat → ClassId) (sl : Nat) (sx : Nat → Int32) (d : Nat) : Prop :=
  ∀ tj as m v m1, CE d tj as m v m1 → tj < 289 → mN m ≤ mN m1 ∧ mZ m ≤ mZ m1 ∧ (mN m1 ≤ jScr → Met l (jY tj) (jwsd tj) (jroom d m m1) (jPre D b0 ext cA sl sx m as) (jPost D b0 ext cA sl sx m1 v) (mN m1 - mN m) (mZ m1 - mZ m) (fun q => b0 ≤ q))
def jCtx (p : Program) (l : Launch) (e : Env) (R : Room) (s : State) (mm : MethodId) (args : Array Value) (meth : Method) (c : Code) (D : va_G) (b0 : Nat) (ext : Nat → Nat) (cA : Nat → ClassId) (sl : Nat) (sx : Nat → Int32) (d j n0 : Nat) : Prop :=
  p.tables.exec = Jvm.exec ∧ c.code = jB j ∧ c.maxLocals = jMl j ∧ meth.sig.returnType = jRt j ∧ s.vm.findClass (jRN (jO j)) = some mm.cls ∧ (∀ w ∈ lw_g, w.before args s = true) ∧ va_K D vwCl (jtys cA) s ∧ s.heap.size = b0 + n0 ∧ ((jY j).name = "<init>" → meth.name = "<init>") ∧ meth.locks = false ∧ jExt b0 ext sl sx s ∧ d + 9 ≤ R.frames ∧ 64 * d + 576 ≤ R.locals ∧ jO j < 14
def jGo (p : Program) (l : Launch) (e : Env) (R : Room) (s : State) (mm : MethodId) (args : Array Value) (below : List Frame) (meth : Method) (c : Code) (Qf : State → Prop) (D : va_G) (b0 : Nat) (ext : Nat → Nat) (cA : Nat → ClassId) (sl : Nat) (sx : Nat → Int32) (n0 z0 N1 Z1 pc : Nat) (L : List (Option Value)) (st : List Value) (m : jmM) : Prop :=
  (mN m ≤ N1 ∧ mZ m ≤ Z1) ∧ ∀ (H : Heap) (locs : List Loc) (ls : Array Slot), lvR b0 ext c.maxLocals ls L → jSim D b0 ext cA sl sx m s.heap H locs → n0 ≤ mN m → z0 ≤ mZ m → W p l e R s mm args below meth c H locs (mN m - n0) (mZ m - z0) Qf (F0 mm pc ls (st.map (jcv b0 ext)))
theorem W_sz {p : Program} {l : Launch} {e : Env} {R : Room} {s : State} {m : MethodId} {args : Array Value} {below : List Frame} {meth : Method} {c : Code} {H : Heap} {locs : List Loc} {cells slots : Nat} {Q : State → Prop} {g : JFrame} (h : H.size ≤ s.heap.size + cells → W p l e R s m args below meth c H locs cells slots Q g) : W p l e R s m args below meth c H locs cells slots Q g :=
  fun T hT X => h (by have h1 := X.heapSize; rw [hT] at h1; exact h1) T hT X
theorem jFld {j idx : Nat} {q : Nat × Nat × Nat} (h : jfind2 jFl (jO j) idx = some q) : (jO j, idx, q) ∈ jFl := by
  unfold jfind2 at h
  cases hf : jFl.find? (fun q => q.1 == jO j && q.2.1 == idx) with
  | none => rw [hf] at h; cases h
  | some x =>
    rw [hf] at h
    have h1 := List.find?_some hf
    have h2 := List.mem_of_find?_eq_some hf
    obtain ⟨x1, x2, x3⟩ := x
    simp only [Bool.and_eq_true, beq_iff_eq] at h1
    cases h
    rw [← h1.1, ← h1.2]
    exact h2
theorem jfind2_mem {α : Type} {l : List (Nat × Nat × α)} {a b : Nat} {q : α} (h : jfind2 l a b = some q) : (a, b, q) ∈ l := by
  unfold jfind2 at h
  cases hf : l.find? (fun q => q.1 == a && q.2.1 == b) with
  | none => rw [hf] at h; cases h
  | some x =>
    rw [hf] at h
    have h1 := List.find?_some hf
    have h2 := List.mem_of_find?_eq_some hf
    obtain ⟨x1, x2, x3⟩ := x
    simp only [Bool.and_eq_true, beq_iff_eq] at h1
    cases h
    rw [← h1.1, ← h1.2]
    exact h2
theorem jx_clamp (i : Int32) : i.toNatClampNeg = jx i := rfl
theorem jx_in {i : Int32} {n : Nat} (h : 0 ≤ i.toInt ∧ i.toInt < (n : Int)) : vp_in i n := by
  intro z
  rcases z with z | z
  · have := Int32.lt_iff_toInt_lt.mp z
    simp at this
    omega
  · rw [jx_clamp, jx] at z
    omega
theorem jnn {i : Int32} (h : 0 ≤ i.toInt) : ¬ i < 0 := by
  intro z
  have := Int32.lt_iff_toInt_lt.mp z
  simp at this
  omega
theorem jr8 {b0 : Nat} {ext : Nat → Nat} : ∀ {r : List Value}, r.length ≤ 4 → ((r.map (jcv b0 ext)).map fun v => v.category).sum ≤ 8 := by
  have h1 : ∀ v : Value, v.category ≤ 2 := fun v => by cases v <;> simp [Value.category]
  have h2 : ∀ r : List Value, ((r.map (jcv b0 ext)).map fun v => v.category).sum ≤ 2 * r.length := by
    intro r
    induction r with
    | nil => simp
    | cons v r ih =>
      have := h1 (jcv b0 ext v)
      simp only [List.map_cons, List.sum_cons, List.length_cons]
      omega
  intro r h
  have := h2 r
  omega
theorem jto {pc : Nat} {off : Int} (h : 0 ≤ (pc : Int) + off) : (pc : Int) + off = ((((pc : Int) + off).toNat : Nat) : Int) := by omega
theorem jtoN {pc : Nat} {off : Int} (h : 0 ≤ (pc : Int) + off) : (pc : Int) + off = (((pc : Int) + off).toNat : Nat) := by omega
theorem jExt.to {b0 : Nat} {ext : Nat → Nat} {sl : Nat} {sx : Nat → Int32} {s U : State} (h : jExt b0 ext sl sx s) (hb : b0 ≤ s.heap.size) (hW : s.WarmedH U.vm) (hq : ∀ q : Nat, q < s.heap.size → ¬ b0 ≤ q → U.heap[q]? = s.heap[q]?) : jExt b0 ext sl sx U := by
  obtain ⟨h1, h2, h3, ⟨adV, h4⟩, h5, h6, h7, h8⟩ := h
  have hk : ∀ a : Nat, a < s.heap.size → ¬ (fun q => b0 ≤ q) a → U.heap[a]? = s.heap[a]? := hq
  refine ⟨(h1.moved hW.alike).kept (hq _ (by have := h2 jScr (Nat.le_refl _) (by omega); omega) (by have := h2 jScr (Nat.le_refl _) (by omega); omega)), h2, fun q hq => (h3 q hq).warm hW, ⟨adV, (h4.moved hW.alike).kept hk⟩, (h5.moved hW.alike).kept hk, fun q hq => (h6 q hq).moved hW.alike, ?_, fun q hq hk => (h8 q hq hk).warmM hW⟩
  rcases h7 with h7 | ⟨t, h7⟩
  · exact Or.inl ((h7.moved hW.alike).kept hk)
  · exact Or.inr ⟨t, (h7.moved hW.alike).kept hk⟩
