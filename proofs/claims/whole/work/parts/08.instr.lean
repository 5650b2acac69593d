/-! ===== SOUNDNESS, the instructions ===== -/
section JSI
variable {p : Program} {l : Launch} {e : Env} {R : Room} {s : State} {mm : MethodId} {args : Array Value} {below : List Frame} {meth : Method} {c : Code} {Qf : State → Prop} {D : va_G} {b0 : Nat} {ext : Nat → Nat} {cA : Nat → ClassId} {sl : Nat} {sx : Nat → Int32} {n0 z0 N1 Z1 d j : Nat}
variable {C : jCC} {K : Nat → List (Option Value) → List Value → jmM → Prop} {Qr : Option Value → jmM → Prop} {pc : Nat} {L : List (Option Value)} {st : List Value} {m : jmM}
theorem jS_1i {f : Int32 → List Value → jRes} (h : jSem C K Qr (k1i st f)) : ∃ x r, st = .int x :: r ∧ jSem C K Qr (f x r) := by
  unfold k1i at h
  split at h
  · exact ⟨_, _, rfl, h⟩
  · exact h.elim
theorem jS_1l {f : Int64 → List Value → jRes} (h : jSem C K Qr (k1l st f)) : ∃ x r, st = .long x :: r ∧ jSem C K Qr (f x r) := by
  unfold k1l at h
  split at h
  · exact ⟨_, _, rfl, h⟩
  · exact h.elim
theorem jS_1a {f : Nat → List Value → jRes} (h : jSem C K Qr (k1a st f)) : ∃ x r, st = .ref x :: r ∧ jSem C K Qr (f x r) := by
  unfold k1a at h
  split at h
  · exact ⟨_, _, rfl, h⟩
  · exact h.elim
theorem jS_1q {f : Value → List Value → jRes} (h : jSem C K Qr (k1q st f)) : ∃ v r, st = v :: r ∧ (v = .null ∨ ∃ a, v = .ref a) ∧ jSem C K Qr (f v r) := by
  unfold k1q at h
  split at h
  · exact ⟨_, _, rfl, Or.inr ⟨_, rfl⟩, h⟩
  · exact ⟨_, _, rfl, Or.inl rfl, h⟩
  · exact h.elim
theorem jS_1c {f : Value → List Value → jRes} (h : jSem C K Qr (k1c st f)) : ∃ v r, st = v :: r ∧ v.category = 1 ∧ jSem C K Qr (f v r) := by
  unfold k1c at h
  split at h
  · exact ⟨_, _, rfl, rfl, h⟩
  · exact ⟨_, _, rfl, rfl, h⟩
  · exact ⟨_, _, rfl, rfl, h⟩
  · exact h.elim
theorem jS_gi {i : Nat} {f : Int32 → jRes} (h : jSem C K Qr (kgi L i f)) : ∃ x, L[i]? = some (some (.int x)) ∧ jSem C K Qr (f x) := by
  unfold kgi at h
  split at h
  · next hv => exact ⟨_, hv, h⟩
  · exact h.elim
theorem jS_gl {i : Nat} {f : Int64 → jRes} (h : jSem C K Qr (kgl L i f)) : ∃ x, L[i]? = some (some (.long x)) ∧ jSem C K Qr (f x) := by
  unfold kgl at h
  split at h
  · next hv => exact ⟨_, hv, h⟩
  · exact h.elim
theorem jS_gq {i : Nat} {f : Value → jRes} (h : jSem C K Qr (kgq L i f)) : ∃ v, L[i]? = some (some v) ∧ (v = .null ∨ ∃ a, v = .ref a) ∧ jSem C K Qr (f v) := by
  unfold kgq at h
  split at h
  · next hv => exact ⟨_, hv, Or.inr ⟨_, rfl⟩, h⟩
  · next hv => exact ⟨_, hv, Or.inl rfl, h⟩
  · exact h.elim
theorem jS_op {α : Type} {o : Option α} {f : α → jRes} (h : jSem C K Qr (kop o f)) : ∃ x, o = some x ∧ jSem C K Qr (f x) := by
  unfold kop at h
  split at h
  · exact ⟨_, rfl, h⟩
  · exact h.elim
theorem jS_to {off : Int} (h : jSem C K Qr (jTo pc off L st m)) : 0 ≤ (pc : Int) + off ∧ K ((pc : Int) + off).toNat L st m := jSem_G.mp h
theorem jS_if {c : Prop} {hc : Decidable c} {off : Int} (h : jSem C K Qr (jIf c hc pc off L st m)) : 0 ≤ (pc : Int) + off ∧ ((c ∧ K ((pc : Int) + off).toNat L st m) ∨ (¬ c ∧ K (pc + 3) L st m)) := by
  obtain ⟨h0, h⟩ := jSem_G.mp h
  cases hc with
  | isTrue hg => exact ⟨h0, Or.inl ⟨hg, h⟩⟩
  | isFalse hg => exact ⟨h0, Or.inr ⟨hg, h⟩⟩
variable {pc : Nat} {L : List (Option Value)} {st : List Value} {m : jmM}

theorem s_iconst {n : Int} (hC : jCtx p l e R s mm args meth c D b0 ext cA sl sx d j n0) (hd : decode (jB j) pc = .ok ((.iconst n), 1)) (h : jSem C (jGo p l e R s mm args below meth c Qf D b0 ext cA sl sx n0 z0 N1 Z1) Qr (jEf j pc (.iconst n) L st m)) : (jGo p l e R s mm args below meth c Qf D b0 ext cA sl sx n0 z0 N1 Z1 pc L st m) := by
  exact ⟨h.1, fun H locs ls hl hs h1 h2 => lv_iconst hC.1 hC.2.1 hd rfl (h.2 H locs ls hl hs h1 h2)⟩

theorem s_bipush {n : Int} (hC : jCtx p l e R s mm args meth c D b0 ext cA sl sx d j n0) (hd : decode (jB j) pc = .ok ((.bipush n), 2)) (h : jSem C (jGo p l e R s mm args below meth c Qf D b0 ext cA sl sx n0 z0 N1 Z1) Qr (jEf j pc (.bipush n) L st m)) : (jGo p l e R s mm args below meth c Qf D b0 ext cA sl sx n0 z0 N1 Z1 pc L st m) := by
  exact ⟨h.1, fun H locs ls hl hs h1 h2 => lv_bipush hC.1 hC.2.1 hd rfl (h.2 H locs ls hl hs h1 h2)⟩

theorem s_sipush {n : Int} (hC : jCtx p l e R s mm args meth c D b0 ext cA sl sx d j n0) (hd : decode (jB j) pc = .ok ((.sipush n), 3)) (h : jSem C (jGo p l e R s mm args below meth c Qf D b0 ext cA sl sx n0 z0 N1 Z1) Qr (jEf j pc (.sipush n) L st m)) : (jGo p l e R s mm args below meth c Qf D b0 ext cA sl sx n0 z0 N1 Z1 pc L st m) := by
  exact ⟨h.1, fun H locs ls hl hs h1 h2 => lv_sipush hC.1 hC.2.1 hd rfl (h.2 H locs ls hl hs h1 h2)⟩

theorem s_lconst {n : Fin 2} (hC : jCtx p l e R s mm args meth c D b0 ext cA sl sx d j n0) (hd : decode (jB j) pc = .ok ((.lconst n), 1)) (h : jSem C (jGo p l e R s mm args below meth c Qf D b0 ext cA sl sx n0 z0 N1 Z1) Qr (jEf j pc (.lconst n) L st m)) : (jGo p l e R s mm args below meth c Qf D b0 ext cA sl sx n0 z0 N1 Z1 pc L st m) := by
  exact ⟨h.1, fun H locs ls hl hs h1 h2 => lv_lconst hC.1 hC.2.1 hd rfl (h.2 H locs ls hl hs h1 h2)⟩

theorem s_aconst_null  (hC : jCtx p l e R s mm args meth c D b0 ext cA sl sx d j n0) (hd : decode (jB j) pc = .ok (.aconst_null, 1)) (h : jSem C (jGo p l e R s mm args below meth c Qf D b0 ext cA sl sx n0 z0 N1 Z1) Qr (jEf j pc .aconst_null L st m)) : (jGo p l e R s mm args below meth c Qf D b0 ext cA sl sx n0 z0 N1 Z1 pc L st m) := by
  exact ⟨h.1, fun H locs ls hl hs h1 h2 => lv_null hC.1 hC.2.1 hd (h.2 H locs ls hl hs h1 h2)⟩

theorem s_iload_n {k : Fin 4} (hC : jCtx p l e R s mm args meth c D b0 ext cA sl sx d j n0) (hd : decode (jB j) pc = .ok ((.iload_n k), 1)) (h : jSem C (jGo p l e R s mm args below meth c Qf D b0 ext cA sl sx n0 z0 N1 Z1) Qr (jEf j pc (.iload_n k) L st m)) : (jGo p l e R s mm args below meth c Qf D b0 ext cA sl sx n0 z0 N1 Z1 pc L st m) := by
  obtain ⟨x, hx, h⟩ := jS_gi h
  exact ⟨h.1, fun H locs ls hl hs h1 h2 => lv_iload_n hC.1 hC.2.1 hd rfl (hl.2.2.2 _ _ hx) (h.2 H locs ls hl hs h1 h2)⟩

theorem s_iload {k : Nat} (hC : jCtx p l e R s mm args meth c D b0 ext cA sl sx d j n0) (hd : decode (jB j) pc = .ok ((.iload k), 2)) (h : jSem C (jGo p l e R s mm args below meth c Qf D b0 ext cA sl sx n0 z0 N1 Z1) Qr (jEf j pc (.iload k) L st m)) : (jGo p l e R s mm args below meth c Qf D b0 ext cA sl sx n0 z0 N1 Z1 pc L st m) := by
  obtain ⟨x, hx, h⟩ := jS_gi h
  exact ⟨h.1, fun H locs ls hl hs h1 h2 => lv_iload hC.1 hC.2.1 hd (hl.2.2.2 _ _ hx) (h.2 H locs ls hl hs h1 h2)⟩

theorem s_lload_n {k : Fin 4} (hC : jCtx p l e R s mm args meth c D b0 ext cA sl sx d j n0) (hd : decode (jB j) pc = .ok ((.lload_n k), 1)) (h : jSem C (jGo p l e R s mm args below meth c Qf D b0 ext cA sl sx n0 z0 N1 Z1) Qr (jEf j pc (.lload_n k) L st m)) : (jGo p l e R s mm args below meth c Qf D b0 ext cA sl sx n0 z0 N1 Z1 pc L st m) := by
  obtain ⟨x, hx, h⟩ := jS_gl h
  exact ⟨h.1, fun H locs ls hl hs h1 h2 => lv_lload_n hC.1 hC.2.1 hd rfl (hl.2.2.2 _ _ hx) (h.2 H locs ls hl hs h1 h2)⟩

theorem s_lload {k : Nat} (hC : jCtx p l e R s mm args meth c D b0 ext cA sl sx d j n0) (hd : decode (jB j) pc = .ok ((.lload k), 2)) (h : jSem C (jGo p l e R s mm args below meth c Qf D b0 ext cA sl sx n0 z0 N1 Z1) Qr (jEf j pc (.lload k) L st m)) : (jGo p l e R s mm args below meth c Qf D b0 ext cA sl sx n0 z0 N1 Z1 pc L st m) := by
  obtain ⟨x, hx, h⟩ := jS_gl h
  exact ⟨h.1, fun H locs ls hl hs h1 h2 => lv_lload hC.1 hC.2.1 hd (hl.2.2.2 _ _ hx) (h.2 H locs ls hl hs h1 h2)⟩

theorem s_aload_n {k : Fin 4} (hC : jCtx p l e R s mm args meth c D b0 ext cA sl sx d j n0) (hd : decode (jB j) pc = .ok ((.aload_n k), 1)) (h : jSem C (jGo p l e R s mm args below meth c Qf D b0 ext cA sl sx n0 z0 N1 Z1) Qr (jEf j pc (.aload_n k) L st m)) : (jGo p l e R s mm args below meth c Qf D b0 ext cA sl sx n0 z0 N1 Z1 pc L st m) := by
  have h : jSem C (jGo p l e R s mm args below meth c Qf D b0 ext cA sl sx n0 z0 N1 Z1) Qr (kgq L k fun v => jN (pc + 1) L (v :: st) m) := h
  obtain ⟨x, hx, hv, h⟩ := jS_gq h
  refine ⟨h.1, fun H locs ls hl hs h1 h2 => ?_⟩
  have h0 := hl.2.2.2 _ _ hx
  have hk := h.2 H locs ls hl hs h1 h2
  rcases hv with rfl | ⟨a, rfl⟩
  · exact lv_aload_nN hC.1 hC.2.1 hd rfl h0 hk
  · exact lv_aload_n hC.1 hC.2.1 hd rfl h0 hk
theorem s_astore_n {k : Fin 4} (hC : jCtx p l e R s mm args meth c D b0 ext cA sl sx d j n0) (hd : decode (jB j) pc = .ok ((.astore_n k), 1)) (h : jSem C (jGo p l e R s mm args below meth c Qf D b0 ext cA sl sx n0 z0 N1 Z1) Qr (jEf j pc (.astore_n k) L st m)) : (jGo p l e R s mm args below meth c Qf D b0 ext cA sl sx n0 z0 N1 Z1 pc L st m) := by
  have h : jSem C (jGo p l e R s mm args below meth c Qf D b0 ext cA sl sx n0 z0 N1 Z1) Qr (k1q st fun x r => jG ((k : Nat) < L.length) inferInstance (jN (pc + 1) (jst1 L k x) r m)) := h
  obtain ⟨x, r, rfl, hv, h⟩ := jS_1q h
  obtain ⟨hg, h⟩ := jSem_G.mp h
  refine ⟨h.1, fun H locs ls hl hs h1 h2 => ?_⟩
  rcases hv with rfl | ⟨a, rfl⟩
  · exact lv_astore_nN hC.1 hC.2.1 hd rfl hl.has (by rw [← hl.2.1]; exact hg) rfl (fun ls' hh => h.2 H locs ls' (hl.st1 hh) hs h1 h2)
  · exact lv_astore_n hC.1 hC.2.1 hd rfl hl.has (by rw [← hl.2.1]; exact hg) rfl (fun ls' hh => h.2 H locs ls' (hl.st1 hh) hs h1 h2)
theorem s_istore_n {k : Fin 4} (hC : jCtx p l e R s mm args meth c D b0 ext cA sl sx d j n0) (hd : decode (jB j) pc = .ok ((.istore_n k), 1)) (h : jSem C (jGo p l e R s mm args below meth c Qf D b0 ext cA sl sx n0 z0 N1 Z1) Qr (jEf j pc (.istore_n k) L st m)) : (jGo p l e R s mm args below meth c Qf D b0 ext cA sl sx n0 z0 N1 Z1 pc L st m) := by
  obtain ⟨x, r, rfl, h⟩ := jS_1i h
  obtain ⟨hg, h⟩ := jSem_G.mp h
  exact ⟨h.1, fun H locs ls hl hs h1 h2 => lv_istore_n hC.1 hC.2.1 hd rfl hl.has (by rw [← hl.2.1]; exact hg) rfl (fun ls' hh => h.2 H locs ls' (hl.st1 hh) hs h1 h2)⟩
theorem s_lstore_n {k : Fin 4} (hC : jCtx p l e R s mm args meth c D b0 ext cA sl sx d j n0) (hd : decode (jB j) pc = .ok ((.lstore_n k), 1)) (h : jSem C (jGo p l e R s mm args below meth c Qf D b0 ext cA sl sx n0 z0 N1 Z1) Qr (jEf j pc (.lstore_n k) L st m)) : (jGo p l e R s mm args below meth c Qf D b0 ext cA sl sx n0 z0 N1 Z1 pc L st m) := by
  obtain ⟨x, r, rfl, h⟩ := jS_1l h
  obtain ⟨hg, h⟩ := jSem_G.mp h
  exact ⟨h.1, fun H locs ls hl hs h1 h2 => lv_lstore_n hC.1 hC.2.1 hd rfl hl.has (by rw [← hl.2.1]; exact hg) rfl (fun ls' hh => h.2 H locs ls' (hl.st2 (by rw [← hl.2.1]; exact hg) hh) hs h1 h2)⟩
theorem s_aload {k : Nat} (hC : jCtx p l e R s mm args meth c D b0 ext cA sl sx d j n0) (hd : decode (jB j) pc = .ok ((.aload k), 2)) (h : jSem C (jGo p l e R s mm args below meth c Qf D b0 ext cA sl sx n0 z0 N1 Z1) Qr (jEf j pc (.aload k) L st m)) : (jGo p l e R s mm args below meth c Qf D b0 ext cA sl sx n0 z0 N1 Z1 pc L st m) := by
  have h : jSem C (jGo p l e R s mm args below meth c Qf D b0 ext cA sl sx n0 z0 N1 Z1) Qr (kgq L k fun v => jN (pc + 2) L (v :: st) m) := h
  obtain ⟨x, hx, hv, h⟩ := jS_gq h
  refine ⟨h.1, fun H locs ls hl hs h1 h2 => ?_⟩
  have h0 := hl.2.2.2 _ _ hx
  have hk := h.2 H locs ls hl hs h1 h2
  rcases hv with rfl | ⟨a, rfl⟩
  · exact lv_aloadN hC.1 hC.2.1 hd h0 hk
  · exact lv_aload hC.1 hC.2.1 hd h0 hk
theorem s_astore {k : Nat} (hC : jCtx p l e R s mm args meth c D b0 ext cA sl sx d j n0) (hd : decode (jB j) pc = .ok ((.astore k), 2)) (h : jSem C (jGo p l e R s mm args below meth c Qf D b0 ext cA sl sx n0 z0 N1 Z1) Qr (jEf j pc (.astore k) L st m)) : (jGo p l e R s mm args below meth c Qf D b0 ext cA sl sx n0 z0 N1 Z1 pc L st m) := by
  have h : jSem C (jGo p l e R s mm args below meth c Qf D b0 ext cA sl sx n0 z0 N1 Z1) Qr (k1q st fun x r => jG (k < L.length) inferInstance (jN (pc + 2) (jst1 L k x) r m)) := h
  obtain ⟨x, r, rfl, hv, h⟩ := jS_1q h
  obtain ⟨hg, h⟩ := jSem_G.mp h
  refine ⟨h.1, fun H locs ls hl hs h1 h2 => ?_⟩
  rcases hv with rfl | ⟨a, rfl⟩
  · exact lv_astoreN hC.1 hC.2.1 hd hl.has (by rw [← hl.2.1]; exact hg) rfl (fun ls' hh => h.2 H locs ls' (hl.st1 hh) hs h1 h2)
  · exact lv_astore hC.1 hC.2.1 hd hl.has (by rw [← hl.2.1]; exact hg) rfl (fun ls' hh => h.2 H locs ls' (hl.st1 hh) hs h1 h2)
theorem s_istore {k : Nat} (hC : jCtx p l e R s mm args meth c D b0 ext cA sl sx d j n0) (hd : decode (jB j) pc = .ok ((.istore k), 2)) (h : jSem C (jGo p l e R s mm args below meth c Qf D b0 ext cA sl sx n0 z0 N1 Z1) Qr (jEf j pc (.istore k) L st m)) : (jGo p l e R s mm args below meth c Qf D b0 ext cA sl sx n0 z0 N1 Z1 pc L st m) := by
  obtain ⟨x, r, rfl, h⟩ := jS_1i h
  obtain ⟨hg, h⟩ := jSem_G.mp h
  exact ⟨h.1, fun H locs ls hl hs h1 h2 => lv_istore hC.1 hC.2.1 hd hl.has (by rw [← hl.2.1]; exact hg) rfl (fun ls' hh => h.2 H locs ls' (hl.st1 hh) hs h1 h2)⟩
theorem s_lstore {k : Nat} (hC : jCtx p l e R s mm args meth c D b0 ext cA sl sx d j n0) (hd : decode (jB j) pc = .ok ((.lstore k), 2)) (h : jSem C (jGo p l e R s mm args below meth c Qf D b0 ext cA sl sx n0 z0 N1 Z1) Qr (jEf j pc (.lstore k) L st m)) : (jGo p l e R s mm args below meth c Qf D b0 ext cA sl sx n0 z0 N1 Z1 pc L st m) := by
  obtain ⟨x, r, rfl, h⟩ := jS_1l h
  obtain ⟨hg, h⟩ := jSem_G.mp h
  exact ⟨h.1, fun H locs ls hl hs h1 h2 => lv_lstore hC.1 hC.2.1 hd hl.has (by rw [← hl.2.1]; exact hg) rfl (fun ls' hh => h.2 H locs ls' (hl.st2 (by rw [← hl.2.1]; exact hg) hh) hs h1 h2)⟩
theorem s_iinc {k : Nat} {n : Int} (hC : jCtx p l e R s mm args meth c D b0 ext cA sl sx d j n0) (hd : decode (jB j) pc = .ok ((.iinc k n), 3)) (h : jSem C (jGo p l e R s mm args below meth c Qf D b0 ext cA sl sx n0 z0 N1 Z1) Qr (jEf j pc (.iinc k n) L st m)) : (jGo p l e R s mm args below meth c Qf D b0 ext cA sl sx n0 z0 N1 Z1 pc L st m) := by
  obtain ⟨x, hx, h⟩ := jS_gi h
  obtain ⟨hg, h⟩ := jSem_G.mp h
  refine ⟨h.1, fun H locs ls hl hs h1 h2 => ?_⟩
  obtain ⟨q, hq⟩ := List.getElem?_of_mem (jprs_mem (b0 := b0) (ext := ext) hx)
  exact lv_iinc hC.1 hC.2.1 hd hl.has hq rfl (by rw [← hl.2.1]; exact hg) rfl (fun ls' hh => h.2 H locs ls' (hl.st1 hh) hs h1 h2)
theorem s_iadd  (hC : jCtx p l e R s mm args meth c D b0 ext cA sl sx d j n0) (hd : decode (jB j) pc = .ok (.iadd, 1)) (h : jSem C (jGo p l e R s mm args below meth c Qf D b0 ext cA sl sx n0 z0 N1 Z1) Qr (jEf j pc .iadd L st m)) : (jGo p l e R s mm args below meth c Qf D b0 ext cA sl sx n0 z0 N1 Z1 pc L st m) := by
  obtain ⟨y, r1, rfl, h⟩ := jS_1i h
  obtain ⟨x, r, rfl, h⟩ := jS_1i h
  exact ⟨h.1, fun H locs ls hl hs h1 h2 => lv_iadd hC.1 hC.2.1 hd (h.2 H locs ls hl hs h1 h2)⟩

theorem s_isub  (hC : jCtx p l e R s mm args meth c D b0 ext cA sl sx d j n0) (hd : decode (jB j) pc = .ok (.isub, 1)) (h : jSem C (jGo p l e R s mm args below meth c Qf D b0 ext cA sl sx n0 z0 N1 Z1) Qr (jEf j pc .isub L st m)) : (jGo p l e R s mm args below meth c Qf D b0 ext cA sl sx n0 z0 N1 Z1 pc L st m) := by
  obtain ⟨y, r1, rfl, h⟩ := jS_1i h
  obtain ⟨x, r, rfl, h⟩ := jS_1i h
  exact ⟨h.1, fun H locs ls hl hs h1 h2 => lv_isub hC.1 hC.2.1 hd (h.2 H locs ls hl hs h1 h2)⟩

theorem s_imul  (hC : jCtx p l e R s mm args meth c D b0 ext cA sl sx d j n0) (hd : decode (jB j) pc = .ok (.imul, 1)) (h : jSem C (jGo p l e R s mm args below meth c Qf D b0 ext cA sl sx n0 z0 N1 Z1) Qr (jEf j pc .imul L st m)) : (jGo p l e R s mm args below meth c Qf D b0 ext cA sl sx n0 z0 N1 Z1 pc L st m) := by
  obtain ⟨y, r1, rfl, h⟩ := jS_1i h
  obtain ⟨x, r, rfl, h⟩ := jS_1i h
  exact ⟨h.1, fun H locs ls hl hs h1 h2 => lv_imul hC.1 hC.2.1 hd (h.2 H locs ls hl hs h1 h2)⟩

theorem s_iand  (hC : jCtx p l e R s mm args meth c D b0 ext cA sl sx d j n0) (hd : decode (jB j) pc = .ok (.iand, 1)) (h : jSem C (jGo p l e R s mm args below meth c Qf D b0 ext cA sl sx n0 z0 N1 Z1) Qr (jEf j pc .iand L st m)) : (jGo p l e R s mm args below meth c Qf D b0 ext cA sl sx n0 z0 N1 Z1 pc L st m) := by
  obtain ⟨y, r1, rfl, h⟩ := jS_1i h
  obtain ⟨x, r, rfl, h⟩ := jS_1i h
  exact ⟨h.1, fun H locs ls hl hs h1 h2 => lv_iand hC.1 hC.2.1 hd (h.2 H locs ls hl hs h1 h2)⟩

theorem s_ior  (hC : jCtx p l e R s mm args meth c D b0 ext cA sl sx d j n0) (hd : decode (jB j) pc = .ok (.ior, 1)) (h : jSem C (jGo p l e R s mm args below meth c Qf D b0 ext cA sl sx n0 z0 N1 Z1) Qr (jEf j pc .ior L st m)) : (jGo p l e R s mm args below meth c Qf D b0 ext cA sl sx n0 z0 N1 Z1 pc L st m) := by
  obtain ⟨y, r1, rfl, h⟩ := jS_1i h
  obtain ⟨x, r, rfl, h⟩ := jS_1i h
  exact ⟨h.1, fun H locs ls hl hs h1 h2 => lv_ior hC.1 hC.2.1 hd (h.2 H locs ls hl hs h1 h2)⟩

theorem s_ishr  (hC : jCtx p l e R s mm args meth c D b0 ext cA sl sx d j n0) (hd : decode (jB j) pc = .ok (.ishr, 1)) (h : jSem C (jGo p l e R s mm args below meth c Qf D b0 ext cA sl sx n0 z0 N1 Z1) Qr (jEf j pc .ishr L st m)) : (jGo p l e R s mm args below meth c Qf D b0 ext cA sl sx n0 z0 N1 Z1 pc L st m) := by
  obtain ⟨y, r1, rfl, h⟩ := jS_1i h
  obtain ⟨x, r, rfl, h⟩ := jS_1i h
  exact ⟨h.1, fun H locs ls hl hs h1 h2 => lv_ishr hC.1 hC.2.1 hd (h.2 H locs ls hl hs h1 h2)⟩

theorem s_iushr  (hC : jCtx p l e R s mm args meth c D b0 ext cA sl sx d j n0) (hd : decode (jB j) pc = .ok (.iushr, 1)) (h : jSem C (jGo p l e R s mm args below meth c Qf D b0 ext cA sl sx n0 z0 N1 Z1) Qr (jEf j pc .iushr L st m)) : (jGo p l e R s mm args below meth c Qf D b0 ext cA sl sx n0 z0 N1 Z1 pc L st m) := by
  obtain ⟨y, r1, rfl, h⟩ := jS_1i h
  obtain ⟨x, r, rfl, h⟩ := jS_1i h
  exact ⟨h.1, fun H locs ls hl hs h1 h2 => lv_iushr hC.1 hC.2.1 hd rfl (h.2 H locs ls hl hs h1 h2)⟩

theorem s_ineg  (hC : jCtx p l e R s mm args meth c D b0 ext cA sl sx d j n0) (hd : decode (jB j) pc = .ok (.ineg, 1)) (h : jSem C (jGo p l e R s mm args below meth c Qf D b0 ext cA sl sx n0 z0 N1 Z1) Qr (jEf j pc .ineg L st m)) : (jGo p l e R s mm args below meth c Qf D b0 ext cA sl sx n0 z0 N1 Z1 pc L st m) := by
  obtain ⟨x, r, rfl, h⟩ := jS_1i h
  exact ⟨h.1, fun H locs ls hl hs h1 h2 => lv_ineg hC.1 hC.2.1 hd (h.2 H locs ls hl hs h1 h2)⟩

theorem s_ladd  (hC : jCtx p l e R s mm args meth c D b0 ext cA sl sx d j n0) (hd : decode (jB j) pc = .ok (.ladd, 1)) (h : jSem C (jGo p l e R s mm args below meth c Qf D b0 ext cA sl sx n0 z0 N1 Z1) Qr (jEf j pc .ladd L st m)) : (jGo p l e R s mm args below meth c Qf D b0 ext cA sl sx n0 z0 N1 Z1 pc L st m) := by
  obtain ⟨y, r1, rfl, h⟩ := jS_1l h
  obtain ⟨x, r, rfl, h⟩ := jS_1l h
  exact ⟨h.1, fun H locs ls hl hs h1 h2 => lv_ladd hC.1 hC.2.1 hd (h.2 H locs ls hl hs h1 h2)⟩

theorem s_lsub  (hC : jCtx p l e R s mm args meth c D b0 ext cA sl sx d j n0) (hd : decode (jB j) pc = .ok (.lsub, 1)) (h : jSem C (jGo p l e R s mm args below meth c Qf D b0 ext cA sl sx n0 z0 N1 Z1) Qr (jEf j pc .lsub L st m)) : (jGo p l e R s mm args below meth c Qf D b0 ext cA sl sx n0 z0 N1 Z1 pc L st m) := by
  obtain ⟨y, r1, rfl, h⟩ := jS_1l h
  obtain ⟨x, r, rfl, h⟩ := jS_1l h
  exact ⟨h.1, fun H locs ls hl hs h1 h2 => lv_lsub hC.1 hC.2.1 hd (h.2 H locs ls hl hs h1 h2)⟩

theorem s_lmul  (hC : jCtx p l e R s mm args meth c D b0 ext cA sl sx d j n0) (hd : decode (jB j) pc = .ok (.lmul, 1)) (h : jSem C (jGo p l e R s mm args below meth c Qf D b0 ext cA sl sx n0 z0 N1 Z1) Qr (jEf j pc .lmul L st m)) : (jGo p l e R s mm args below meth c Qf D b0 ext cA sl sx n0 z0 N1 Z1 pc L st m) := by
  obtain ⟨y, r1, rfl, h⟩ := jS_1l h
  obtain ⟨x, r, rfl, h⟩ := jS_1l h
  exact ⟨h.1, fun H locs ls hl hs h1 h2 => lv_lmul hC.1 hC.2.1 hd (h.2 H locs ls hl hs h1 h2)⟩

theorem s_land  (hC : jCtx p l e R s mm args meth c D b0 ext cA sl sx d j n0) (hd : decode (jB j) pc = .ok (.land, 1)) (h : jSem C (jGo p l e R s mm args below meth c Qf D b0 ext cA sl sx n0 z0 N1 Z1) Qr (jEf j pc .land L st m)) : (jGo p l e R s mm args below meth c Qf D b0 ext cA sl sx n0 z0 N1 Z1 pc L st m) := by
  obtain ⟨y, r1, rfl, h⟩ := jS_1l h
  obtain ⟨x, r, rfl, h⟩ := jS_1l h
  exact ⟨h.1, fun H locs ls hl hs h1 h2 => lv_land hC.1 hC.2.1 hd (h.2 H locs ls hl hs h1 h2)⟩

theorem s_lor  (hC : jCtx p l e R s mm args meth c D b0 ext cA sl sx d j n0) (hd : decode (jB j) pc = .ok (.lor, 1)) (h : jSem C (jGo p l e R s mm args below meth c Qf D b0 ext cA sl sx n0 z0 N1 Z1) Qr (jEf j pc .lor L st m)) : (jGo p l e R s mm args below meth c Qf D b0 ext cA sl sx n0 z0 N1 Z1 pc L st m) := by
  obtain ⟨y, r1, rfl, h⟩ := jS_1l h
  obtain ⟨x, r, rfl, h⟩ := jS_1l h
  exact ⟨h.1, fun H locs ls hl hs h1 h2 => lv_lor hC.1 hC.2.1 hd (h.2 H locs ls hl hs h1 h2)⟩

theorem s_lshl  (hC : jCtx p l e R s mm args meth c D b0 ext cA sl sx d j n0) (hd : decode (jB j) pc = .ok (.lshl, 1)) (h : jSem C (jGo p l e R s mm args below meth c Qf D b0 ext cA sl sx n0 z0 N1 Z1) Qr (jEf j pc .lshl L st m)) : (jGo p l e R s mm args below meth c Qf D b0 ext cA sl sx n0 z0 N1 Z1 pc L st m) := by
  obtain ⟨y, r1, rfl, h⟩ := jS_1i h
  obtain ⟨x, r, rfl, h⟩ := jS_1l h
  exact ⟨h.1, fun H locs ls hl hs h1 h2 => lv_lshl hC.1 hC.2.1 hd rfl (h.2 H locs ls hl hs h1 h2)⟩

theorem s_lcmp  (hC : jCtx p l e R s mm args meth c D b0 ext cA sl sx d j n0) (hd : decode (jB j) pc = .ok (.lcmp, 1)) (h : jSem C (jGo p l e R s mm args below meth c Qf D b0 ext cA sl sx n0 z0 N1 Z1) Qr (jEf j pc .lcmp L st m)) : (jGo p l e R s mm args below meth c Qf D b0 ext cA sl sx n0 z0 N1 Z1 pc L st m) := by
  obtain ⟨y, r1, rfl, h⟩ := jS_1l h
  obtain ⟨x, r, rfl, h⟩ := jS_1l h
  exact ⟨h.1, fun H locs ls hl hs h1 h2 => W.lcmp hC.1 hC.2.1 hd (h.2 H locs ls hl hs h1 h2)⟩

theorem s_i2l  (hC : jCtx p l e R s mm args meth c D b0 ext cA sl sx d j n0) (hd : decode (jB j) pc = .ok (.i2l, 1)) (h : jSem C (jGo p l e R s mm args below meth c Qf D b0 ext cA sl sx n0 z0 N1 Z1) Qr (jEf j pc .i2l L st m)) : (jGo p l e R s mm args below meth c Qf D b0 ext cA sl sx n0 z0 N1 Z1 pc L st m) := by
  obtain ⟨x, r, rfl, h⟩ := jS_1i h
  exact ⟨h.1, fun H locs ls hl hs h1 h2 => lv_i2l hC.1 hC.2.1 hd rfl (h.2 H locs ls hl hs h1 h2)⟩

theorem s_l2i  (hC : jCtx p l e R s mm args meth c D b0 ext cA sl sx d j n0) (hd : decode (jB j) pc = .ok (.l2i, 1)) (h : jSem C (jGo p l e R s mm args below meth c Qf D b0 ext cA sl sx n0 z0 N1 Z1) Qr (jEf j pc .l2i L st m)) : (jGo p l e R s mm args below meth c Qf D b0 ext cA sl sx n0 z0 N1 Z1 pc L st m) := by
  obtain ⟨x, r, rfl, h⟩ := jS_1l h
  exact ⟨h.1, fun H locs ls hl hs h1 h2 => lv_l2i hC.1 hC.2.1 hd rfl (h.2 H locs ls hl hs h1 h2)⟩

theorem s_i2b  (hC : jCtx p l e R s mm args meth c D b0 ext cA sl sx d j n0) (hd : decode (jB j) pc = .ok (.i2b, 1)) (h : jSem C (jGo p l e R s mm args below meth c Qf D b0 ext cA sl sx n0 z0 N1 Z1) Qr (jEf j pc .i2b L st m)) : (jGo p l e R s mm args below meth c Qf D b0 ext cA sl sx n0 z0 N1 Z1 pc L st m) := by
  obtain ⟨x, r, rfl, h⟩ := jS_1i h
  exact ⟨h.1, fun H locs ls hl hs h1 h2 => lv_i2b hC.1 hC.2.1 hd rfl (h.2 H locs ls hl hs h1 h2)⟩

theorem s_idiv  (hC : jCtx p l e R s mm args meth c D b0 ext cA sl sx d j n0) (hd : decode (jB j) pc = .ok (.idiv, 1)) (h : jSem C (jGo p l e R s mm args below meth c Qf D b0 ext cA sl sx n0 z0 N1 Z1) Qr (jEf j pc .idiv L st m)) : (jGo p l e R s mm args below meth c Qf D b0 ext cA sl sx n0 z0 N1 Z1 pc L st m) := by
  obtain ⟨y, r1, rfl, h⟩ := jS_1i h
  obtain ⟨x, r, rfl, h⟩ := jS_1i h
  obtain ⟨hg, h⟩ := jSem_G.mp h
  exact ⟨h.1, fun H locs ls hl hs h1 h2 => lv_idiv hC.1 hC.2.1 hd hg (h.2 H locs ls hl hs h1 h2)⟩

theorem s_ldiv  (hC : jCtx p l e R s mm args meth c D b0 ext cA sl sx d j n0) (hd : decode (jB j) pc = .ok (.ldiv, 1)) (h : jSem C (jGo p l e R s mm args below meth c Qf D b0 ext cA sl sx n0 z0 N1 Z1) Qr (jEf j pc .ldiv L st m)) : (jGo p l e R s mm args below meth c Qf D b0 ext cA sl sx n0 z0 N1 Z1 pc L st m) := by
  obtain ⟨y, r1, rfl, h⟩ := jS_1l h
  obtain ⟨x, r, rfl, h⟩ := jS_1l h
  obtain ⟨hg, h⟩ := jSem_G.mp h
  exact ⟨h.1, fun H locs ls hl hs h1 h2 => lv_ldiv hC.1 hC.2.1 hd hg (h.2 H locs ls hl hs h1 h2)⟩

theorem s_lrem  (hC : jCtx p l e R s mm args meth c D b0 ext cA sl sx d j n0) (hd : decode (jB j) pc = .ok (.lrem, 1)) (h : jSem C (jGo p l e R s mm args below meth c Qf D b0 ext cA sl sx n0 z0 N1 Z1) Qr (jEf j pc .lrem L st m)) : (jGo p l e R s mm args below meth c Qf D b0 ext cA sl sx n0 z0 N1 Z1 pc L st m) := by
  obtain ⟨y, r1, rfl, h⟩ := jS_1l h
  obtain ⟨x, r, rfl, h⟩ := jS_1l h
  obtain ⟨hg, h⟩ := jSem_G.mp h
  exact ⟨h.1, fun H locs ls hl hs h1 h2 => lv_lrem hC.1 hC.2.1 hd hg (h.2 H locs ls hl hs h1 h2)⟩

theorem s_dup  (hC : jCtx p l e R s mm args meth c D b0 ext cA sl sx d j n0) (hd : decode (jB j) pc = .ok (.dup, 1)) (h : jSem C (jGo p l e R s mm args below meth c Qf D b0 ext cA sl sx n0 z0 N1 Z1) Qr (jEf j pc .dup L st m)) : (jGo p l e R s mm args below meth c Qf D b0 ext cA sl sx n0 z0 N1 Z1 pc L st m) := by
  have h : jSem C (jGo p l e R s mm args below meth c Qf D b0 ext cA sl sx n0 z0 N1 Z1) Qr (k1c st fun v r => jN (pc + 1) L (v :: v :: r) m) := h
  obtain ⟨x, r, rfl, hv, h⟩ := jS_1c h
  exact ⟨h.1, fun H locs ls hl hs h1 h2 => lv_dup hC.1 hC.2.1 hd (by rw [jcv_cat]; exact hv) (h.2 H locs ls hl hs h1 h2)⟩

theorem s_pop  (hC : jCtx p l e R s mm args meth c D b0 ext cA sl sx d j n0) (hd : decode (jB j) pc = .ok (.pop, 1)) (h : jSem C (jGo p l e R s mm args below meth c Qf D b0 ext cA sl sx n0 z0 N1 Z1) Qr (jEf j pc .pop L st m)) : (jGo p l e R s mm args below meth c Qf D b0 ext cA sl sx n0 z0 N1 Z1 pc L st m) := by
  have h : jSem C (jGo p l e R s mm args below meth c Qf D b0 ext cA sl sx n0 z0 N1 Z1) Qr (k1c st fun _ r => jN (pc + 1) L r m) := h
  obtain ⟨x, r, rfl, hv, h⟩ := jS_1c h
  exact ⟨h.1, fun H locs ls hl hs h1 h2 => lv_pop hC.1 hC.2.1 hd (by rw [jcv_cat]; exact hv) (h.2 H locs ls hl hs h1 h2)⟩

theorem s_dup2 (hC : jCtx p l e R s mm args meth c D b0 ext cA sl sx d j n0) (hd : decode (jB j) pc = .ok (.dup2, 1)) (h : jSem C (jGo p l e R s mm args below meth c Qf D b0 ext cA sl sx n0 z0 N1 Z1) Qr (jEf j pc .dup2 L st m)) : (jGo p l e R s mm args below meth c Qf D b0 ext cA sl sx n0 z0 N1 Z1 pc L st m) := by
  have h : jSem C (jGo p l e R s mm args below meth c Qf D b0 ext cA sl sx n0 z0 N1 Z1) Qr (kd2 st fun s => jN (pc + 1) L s m) := h
  unfold kd2 at h
  split at h
  · exact ⟨h.1, fun H locs ls hl hs h1 h2 => lv_dup2_2 hC.1 hC.2.1 hd rfl (h.2 H locs ls hl hs h1 h2)⟩
  · obtain ⟨x, r, rfl, hv, h⟩ := jS_1c h
    obtain ⟨y, r, rfl, hw, h⟩ := jS_1c h
    exact ⟨h.1, fun H locs ls hl hs h1 h2 => lv_dup2_11 hC.1 hC.2.1 hd (by rw [jcv_cat]; exact hv) (by rw [jcv_cat]; exact hw) (h.2 H locs ls hl hs h1 h2)⟩
theorem jS_q2 {fn fr : List Value → jRes} (h : jSem C (jGo p l e R s mm args below meth c Qf D b0 ext cA sl sx n0 z0 N1 Z1) Qr (kq2 st fn fr)) : (∃ r, st = .null :: r ∧ jSem C (jGo p l e R s mm args below meth c Qf D b0 ext cA sl sx n0 z0 N1 Z1) Qr (fn r)) ∨ ∃ a r, st = .ref a :: r ∧ jSem C (jGo p l e R s mm args below meth c Qf D b0 ext cA sl sx n0 z0 N1 Z1) Qr (fr r) := by
  unfold kq2 at h
  split at h
  · exact Or.inl ⟨_, rfl, h⟩
  · exact Or.inr ⟨_, _, rfl, h⟩
  · exact h.elim
theorem s_ifnull {off : Int} (hC : jCtx p l e R s mm args meth c D b0 ext cA sl sx d j n0) (hd : decode (jB j) pc = .ok (.ifnull off, 3)) (h : jSem C (jGo p l e R s mm args below meth c Qf D b0 ext cA sl sx n0 z0 N1 Z1) Qr (jEf j pc (.ifnull off) L st m)) : (jGo p l e R s mm args below meth c Qf D b0 ext cA sl sx n0 z0 N1 Z1 pc L st m) := by
  obtain ⟨hg, h⟩ := jSem_G.mp h
  rcases jS_q2 h with ⟨r, rfl, h⟩ | ⟨a, r, rfl, h⟩
  · exact ⟨h.1, fun H locs ls hl hs h1 h2 => lv_ifnullN hC.1 hC.2.1 hd (jtoN hg) (h.2 H locs ls hl hs h1 h2)⟩
  · exact ⟨h.1, fun H locs ls hl hs h1 h2 => lv_ifnull hC.1 hC.2.1 hd (h.2 H locs ls hl hs h1 h2)⟩
theorem s_ifnonnull {off : Int} (hC : jCtx p l e R s mm args meth c D b0 ext cA sl sx d j n0) (hd : decode (jB j) pc = .ok (.ifnonnull off, 3)) (h : jSem C (jGo p l e R s mm args below meth c Qf D b0 ext cA sl sx n0 z0 N1 Z1) Qr (jEf j pc (.ifnonnull off) L st m)) : (jGo p l e R s mm args below meth c Qf D b0 ext cA sl sx n0 z0 N1 Z1 pc L st m) := by
  obtain ⟨hg, h⟩ := jSem_G.mp h
  rcases jS_q2 h with ⟨r, rfl, h⟩ | ⟨a, r, rfl, h⟩
  · exact ⟨h.1, fun H locs ls hl hs h1 h2 => lv_ifnonnullN hC.1 hC.2.1 hd (h.2 H locs ls hl hs h1 h2)⟩
  · exact ⟨h.1, fun H locs ls hl hs h1 h2 => lv_ifnonnull hC.1 hC.2.1 hd (jtoN hg) (h.2 H locs ls hl hs h1 h2)⟩
theorem s_tableswitch {dflt lo hi : Int} {offs : Array Int} {n : Nat} (hC : jCtx p l e R s mm args meth c D b0 ext cA sl sx d j n0) (hd : decode (jB j) pc = .ok (.tableswitch dflt lo hi offs, n)) (h : jSem C (jGo p l e R s mm args below meth c Qf D b0 ext cA sl sx n0 z0 N1 Z1) Qr (jEf j pc (.tableswitch dflt lo hi offs) L st m)) : (jGo p l e R s mm args below meth c Qf D b0 ext cA sl sx n0 z0 N1 Z1 pc L st m) := by
  obtain ⟨x, r, e, h9⟩ := jS_1i h
  subst e
  split at h9
  · next hx =>
    obtain ⟨hg, h⟩ := jS_to h9
    exact ⟨h.1, fun H locs ls hl hs h1 h2 => lv_tableOut hC.1 hC.2.1 hd hx (jtoN hg) (h.2 H locs ls hl hs h1 h2)⟩
  · next hx =>
    obtain ⟨off, ho, h⟩ := jS_op h9
    obtain ⟨hg, h⟩ := jS_to h
    exact ⟨h.1, fun H locs ls hl hs h1 h2 => lv_tableIn hC.1 hC.2.1 hd (fun z => hx (Or.inl z)) (fun z => hx (Or.inr z)) ho (jtoN hg) (h.2 H locs ls hl hs h1 h2)⟩
theorem s_lookupswitch {dflt : Int} {ps : Array (Int × Int)} {n : Nat} (hC : jCtx p l e R s mm args meth c D b0 ext cA sl sx d j n0) (hd : decode (jB j) pc = .ok (.lookupswitch dflt ps, n)) (h : jSem C (jGo p l e R s mm args below meth c Qf D b0 ext cA sl sx n0 z0 N1 Z1) Qr (jEf j pc (.lookupswitch dflt ps) L st m)) : (jGo p l e R s mm args below meth c Qf D b0 ext cA sl sx n0 z0 N1 Z1 pc L st m) := by
  obtain ⟨x, r, rfl, h⟩ := jS_1i h
  obtain ⟨hg, h⟩ := jSem_G.mp h
  obtain ⟨hg2, h⟩ := jS_to h
  exact ⟨h.1, fun H locs ls hl hs h1 h2 => lv_lookup hC.1 hC.2.1 hd hg rfl (jtoN hg2) (h.2 H locs ls hl hs h1 h2)⟩
theorem s_goto {off : Int} (hC : jCtx p l e R s mm args meth c D b0 ext cA sl sx d j n0) (hd : decode (jB j) pc = .ok ((.goto off), 3)) (h : jSem C (jGo p l e R s mm args below meth c Qf D b0 ext cA sl sx n0 z0 N1 Z1) Qr (jEf j pc (.goto off) L st m)) : (jGo p l e R s mm args below meth c Qf D b0 ext cA sl sx n0 z0 N1 Z1 pc L st m) := by
  obtain ⟨hg, h⟩ := jS_to h
  exact ⟨h.1, fun H locs ls hl hs h1 h2 => lv_goto hC.1 hC.2.1 hd (jtoN hg) (h.2 H locs ls hl hs h1 h2)⟩

theorem s_if_eq {off : Int} (hC : jCtx p l e R s mm args meth c D b0 ext cA sl sx d j n0) (hd : decode (jB j) pc = .ok ((.ifCond .eq off), 3)) (h : jSem C (jGo p l e R s mm args below meth c Qf D b0 ext cA sl sx n0 z0 N1 Z1) Qr (jEf j pc (.ifCond .eq off) L st m)) : (jGo p l e R s mm args below meth c Qf D b0 ext cA sl sx n0 z0 N1 Z1 pc L st m) := by
  obtain ⟨x, r, rfl, h⟩ := jS_1i h
  obtain ⟨hg, h⟩ := jS_if h
  rcases h with ⟨hc, h⟩ | ⟨hc, h⟩
  · exact ⟨h.1, fun H locs ls hl hs h1 h2 => lv_if_eq hC.1 hC.2.1 hd (jtoN hg) (fun _ => h.2 H locs ls hl hs h1 h2) (fun hn => absurd hc hn)⟩
  · exact ⟨h.1, fun H locs ls hl hs h1 h2 => lv_if_eq hC.1 hC.2.1 hd (jtoN hg) (fun hn => absurd hn hc) (fun _ => h.2 H locs ls hl hs h1 h2)⟩
theorem s_icmp_eq {off : Int} (hC : jCtx p l e R s mm args meth c D b0 ext cA sl sx d j n0) (hd : decode (jB j) pc = .ok ((.if_icmp .eq off), 3)) (h : jSem C (jGo p l e R s mm args below meth c Qf D b0 ext cA sl sx n0 z0 N1 Z1) Qr (jEf j pc (.if_icmp .eq off) L st m)) : (jGo p l e R s mm args below meth c Qf D b0 ext cA sl sx n0 z0 N1 Z1 pc L st m) := by
  obtain ⟨y, r1, rfl, h⟩ := jS_1i h
  obtain ⟨x, r, rfl, h⟩ := jS_1i h
  obtain ⟨hg, h⟩ := jS_if h
  rcases h with ⟨hc, h⟩ | ⟨hc, h⟩
  · exact ⟨h.1, fun H locs ls hl hs h1 h2 => lv_icmp_eq hC.1 hC.2.1 hd (jtoN hg) (fun _ => h.2 H locs ls hl hs h1 h2) (fun hn => absurd hc hn)⟩
  · exact ⟨h.1, fun H locs ls hl hs h1 h2 => lv_icmp_eq hC.1 hC.2.1 hd (jtoN hg) (fun hn => absurd hn hc) (fun _ => h.2 H locs ls hl hs h1 h2)⟩
theorem s_if_ne {off : Int} (hC : jCtx p l e R s mm args meth c D b0 ext cA sl sx d j n0) (hd : decode (jB j) pc = .ok ((.ifCond .ne off), 3)) (h : jSem C (jGo p l e R s mm args below meth c Qf D b0 ext cA sl sx n0 z0 N1 Z1) Qr (jEf j pc (.ifCond .ne off) L st m)) : (jGo p l e R s mm args below meth c Qf D b0 ext cA sl sx n0 z0 N1 Z1 pc L st m) := by
  obtain ⟨x, r, rfl, h⟩ := jS_1i h
  obtain ⟨hg, h⟩ := jS_if h
  rcases h with ⟨hc, h⟩ | ⟨hc, h⟩
  · exact ⟨h.1, fun H locs ls hl hs h1 h2 => lv_if_ne hC.1 hC.2.1 hd (jtoN hg) (fun _ => h.2 H locs ls hl hs h1 h2) (fun hn => absurd hn hc)⟩
  · exact ⟨h.1, fun H locs ls hl hs h1 h2 => lv_if_ne hC.1 hC.2.1 hd (jtoN hg) (fun hn => absurd hn hc) (fun _ => h.2 H locs ls hl hs h1 h2)⟩
theorem s_icmp_ne {off : Int} (hC : jCtx p l e R s mm args meth c D b0 ext cA sl sx d j n0) (hd : decode (jB j) pc = .ok ((.if_icmp .ne off), 3)) (h : jSem C (jGo p l e R s mm args below meth c Qf D b0 ext cA sl sx n0 z0 N1 Z1) Qr (jEf j pc (.if_icmp .ne off) L st m)) : (jGo p l e R s mm args below meth c Qf D b0 ext cA sl sx n0 z0 N1 Z1 pc L st m) := by
  obtain ⟨y, r1, rfl, h⟩ := jS_1i h
  obtain ⟨x, r, rfl, h⟩ := jS_1i h
  obtain ⟨hg, h⟩ := jS_if h
  rcases h with ⟨hc, h⟩ | ⟨hc, h⟩
  · exact ⟨h.1, fun H locs ls hl hs h1 h2 => lv_icmp_ne hC.1 hC.2.1 hd (jtoN hg) (fun _ => h.2 H locs ls hl hs h1 h2) (fun hn => absurd hn hc)⟩
  · exact ⟨h.1, fun H locs ls hl hs h1 h2 => lv_icmp_ne hC.1 hC.2.1 hd (jtoN hg) (fun hn => absurd hn hc) (fun _ => h.2 H locs ls hl hs h1 h2)⟩
theorem s_if_lt {off : Int} (hC : jCtx p l e R s mm args meth c D b0 ext cA sl sx d j n0) (hd : decode (jB j) pc = .ok ((.ifCond .lt off), 3)) (h : jSem C (jGo p l e R s mm args below meth c Qf D b0 ext cA sl sx n0 z0 N1 Z1) Qr (jEf j pc (.ifCond .lt off) L st m)) : (jGo p l e R s mm args below meth c Qf D b0 ext cA sl sx n0 z0 N1 Z1 pc L st m) := by
  obtain ⟨x, r, rfl, h⟩ := jS_1i h
  obtain ⟨hg, h⟩ := jS_if h
  rcases h with ⟨hc, h⟩ | ⟨hc, h⟩
  · exact ⟨h.1, fun H locs ls hl hs h1 h2 => lv_if_lt hC.1 hC.2.1 hd (jtoN hg) (fun _ => h.2 H locs ls hl hs h1 h2) (fun hn => absurd hc hn)⟩
  · exact ⟨h.1, fun H locs ls hl hs h1 h2 => lv_if_lt hC.1 hC.2.1 hd (jtoN hg) (fun hn => absurd hn hc) (fun _ => h.2 H locs ls hl hs h1 h2)⟩
theorem s_icmp_lt {off : Int} (hC : jCtx p l e R s mm args meth c D b0 ext cA sl sx d j n0) (hd : decode (jB j) pc = .ok ((.if_icmp .lt off), 3)) (h : jSem C (jGo p l e R s mm args below meth c Qf D b0 ext cA sl sx n0 z0 N1 Z1) Qr (jEf j pc (.if_icmp .lt off) L st m)) : (jGo p l e R s mm args below meth c Qf D b0 ext cA sl sx n0 z0 N1 Z1 pc L st m) := by
  obtain ⟨y, r1, rfl, h⟩ := jS_1i h
  obtain ⟨x, r, rfl, h⟩ := jS_1i h
  obtain ⟨hg, h⟩ := jS_if h
  rcases h with ⟨hc, h⟩ | ⟨hc, h⟩
  · exact ⟨h.1, fun H locs ls hl hs h1 h2 => lv_icmp_lt hC.1 hC.2.1 hd (jtoN hg) (fun _ => h.2 H locs ls hl hs h1 h2) (fun hn => absurd hc hn)⟩
  · exact ⟨h.1, fun H locs ls hl hs h1 h2 => lv_icmp_lt hC.1 hC.2.1 hd (jtoN hg) (fun hn => absurd hn hc) (fun _ => h.2 H locs ls hl hs h1 h2)⟩
theorem s_if_ge {off : Int} (hC : jCtx p l e R s mm args meth c D b0 ext cA sl sx d j n0) (hd : decode (jB j) pc = .ok ((.ifCond .ge off), 3)) (h : jSem C (jGo p l e R s mm args below meth c Qf D b0 ext cA sl sx n0 z0 N1 Z1) Qr (jEf j pc (.ifCond .ge off) L st m)) : (jGo p l e R s mm args below meth c Qf D b0 ext cA sl sx n0 z0 N1 Z1 pc L st m) := by
  obtain ⟨x, r, rfl, h⟩ := jS_1i h
  obtain ⟨hg, h⟩ := jS_if h
  rcases h with ⟨hc, h⟩ | ⟨hc, h⟩
  · exact ⟨h.1, fun H locs ls hl hs h1 h2 => lv_if_ge hC.1 hC.2.1 hd (jtoN hg) (fun _ => h.2 H locs ls hl hs h1 h2) (fun hn => absurd hc hn)⟩
  · exact ⟨h.1, fun H locs ls hl hs h1 h2 => lv_if_ge hC.1 hC.2.1 hd (jtoN hg) (fun hn => absurd hn hc) (fun _ => h.2 H locs ls hl hs h1 h2)⟩
theorem s_icmp_ge {off : Int} (hC : jCtx p l e R s mm args meth c D b0 ext cA sl sx d j n0) (hd : decode (jB j) pc = .ok ((.if_icmp .ge off), 3)) (h : jSem C (jGo p l e R s mm args below meth c Qf D b0 ext cA sl sx n0 z0 N1 Z1) Qr (jEf j pc (.if_icmp .ge off) L st m)) : (jGo p l e R s mm args below meth c Qf D b0 ext cA sl sx n0 z0 N1 Z1 pc L st m) := by
  obtain ⟨y, r1, rfl, h⟩ := jS_1i h
  obtain ⟨x, r, rfl, h⟩ := jS_1i h
  obtain ⟨hg, h⟩ := jS_if h
  rcases h with ⟨hc, h⟩ | ⟨hc, h⟩
  · exact ⟨h.1, fun H locs ls hl hs h1 h2 => lv_icmp_ge hC.1 hC.2.1 hd (jtoN hg) (fun _ => h.2 H locs ls hl hs h1 h2) (fun hn => absurd hc hn)⟩
  · exact ⟨h.1, fun H locs ls hl hs h1 h2 => lv_icmp_ge hC.1 hC.2.1 hd (jtoN hg) (fun hn => absurd hn hc) (fun _ => h.2 H locs ls hl hs h1 h2)⟩
theorem s_if_gt {off : Int} (hC : jCtx p l e R s mm args meth c D b0 ext cA sl sx d j n0) (hd : decode (jB j) pc = .ok ((.ifCond .gt off), 3)) (h : jSem C (jGo p l e R s mm args below meth c Qf D b0 ext cA sl sx n0 z0 N1 Z1) Qr (jEf j pc (.ifCond .gt off) L st m)) : (jGo p l e R s mm args below meth c Qf D b0 ext cA sl sx n0 z0 N1 Z1 pc L st m) := by
  obtain ⟨x, r, rfl, h⟩ := jS_1i h
  obtain ⟨hg, h⟩ := jS_if h
  rcases h with ⟨hc, h⟩ | ⟨hc, h⟩
  · exact ⟨h.1, fun H locs ls hl hs h1 h2 => lv_if_gt hC.1 hC.2.1 hd (jtoN hg) (fun _ => h.2 H locs ls hl hs h1 h2) (fun hn => absurd hc hn)⟩
  · exact ⟨h.1, fun H locs ls hl hs h1 h2 => lv_if_gt hC.1 hC.2.1 hd (jtoN hg) (fun hn => absurd hn hc) (fun _ => h.2 H locs ls hl hs h1 h2)⟩
theorem s_icmp_gt {off : Int} (hC : jCtx p l e R s mm args meth c D b0 ext cA sl sx d j n0) (hd : decode (jB j) pc = .ok ((.if_icmp .gt off), 3)) (h : jSem C (jGo p l e R s mm args below meth c Qf D b0 ext cA sl sx n0 z0 N1 Z1) Qr (jEf j pc (.if_icmp .gt off) L st m)) : (jGo p l e R s mm args below meth c Qf D b0 ext cA sl sx n0 z0 N1 Z1 pc L st m) := by
  obtain ⟨y, r1, rfl, h⟩ := jS_1i h
  obtain ⟨x, r, rfl, h⟩ := jS_1i h
  obtain ⟨hg, h⟩ := jS_if h
  rcases h with ⟨hc, h⟩ | ⟨hc, h⟩
  · exact ⟨h.1, fun H locs ls hl hs h1 h2 => lv_icmp_gt hC.1 hC.2.1 hd (jtoN hg) (fun _ => h.2 H locs ls hl hs h1 h2) (fun hn => absurd hc hn)⟩
  · exact ⟨h.1, fun H locs ls hl hs h1 h2 => lv_icmp_gt hC.1 hC.2.1 hd (jtoN hg) (fun hn => absurd hn hc) (fun _ => h.2 H locs ls hl hs h1 h2)⟩
theorem s_if_le {off : Int} (hC : jCtx p l e R s mm args meth c D b0 ext cA sl sx d j n0) (hd : decode (jB j) pc = .ok ((.ifCond .le off), 3)) (h : jSem C (jGo p l e R s mm args below meth c Qf D b0 ext cA sl sx n0 z0 N1 Z1) Qr (jEf j pc (.ifCond .le off) L st m)) : (jGo p l e R s mm args below meth c Qf D b0 ext cA sl sx n0 z0 N1 Z1 pc L st m) := by
  obtain ⟨x, r, rfl, h⟩ := jS_1i h
  obtain ⟨hg, h⟩ := jS_if h
  rcases h with ⟨hc, h⟩ | ⟨hc, h⟩
  · exact ⟨h.1, fun H locs ls hl hs h1 h2 => lv_if_le hC.1 hC.2.1 hd (jtoN hg) (fun _ => h.2 H locs ls hl hs h1 h2) (fun hn => absurd hc hn)⟩
  · exact ⟨h.1, fun H locs ls hl hs h1 h2 => lv_if_le hC.1 hC.2.1 hd (jtoN hg) (fun hn => absurd hn hc) (fun _ => h.2 H locs ls hl hs h1 h2)⟩
theorem s_icmp_le {off : Int} (hC : jCtx p l e R s mm args meth c D b0 ext cA sl sx d j n0) (hd : decode (jB j) pc = .ok ((.if_icmp .le off), 3)) (h : jSem C (jGo p l e R s mm args below meth c Qf D b0 ext cA sl sx n0 z0 N1 Z1) Qr (jEf j pc (.if_icmp .le off) L st m)) : (jGo p l e R s mm args below meth c Qf D b0 ext cA sl sx n0 z0 N1 Z1 pc L st m) := by
  obtain ⟨y, r1, rfl, h⟩ := jS_1i h
  obtain ⟨x, r, rfl, h⟩ := jS_1i h
  obtain ⟨hg, h⟩ := jS_if h
  rcases h with ⟨hc, h⟩ | ⟨hc, h⟩
  · exact ⟨h.1, fun H locs ls hl hs h1 h2 => lv_icmp_le hC.1 hC.2.1 hd (jtoN hg) (fun _ => h.2 H locs ls hl hs h1 h2) (fun hn => absurd hc hn)⟩
  · exact ⟨h.1, fun H locs ls hl hs h1 h2 => lv_icmp_le hC.1 hC.2.1 hd (jtoN hg) (fun hn => absurd hn hc) (fun _ => h.2 H locs ls hl hs h1 h2)⟩
end JSI
