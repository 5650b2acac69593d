/-! ===== SOUNDNESS: what the abstract machine says of a method, the method does ===== -/
section JSO
variable {p : Program} {l : Launch} {e : Env} {R : Room} {s : State} {mm : MethodId} {args : Array Value} {below : List Frame} {meth : Method} {c : Code} {Qf : State → Prop} {D : va_G} {b0 : Nat} {ext : Nat → Nat} {cA : Nat → ClassId} {sl : Nat} {sx : Nat → Int32} {n0 z0 N1 Z1 d j : Nat}
theorem jsoundK {Qr : Option Value → jmM → Prop} (hO : jOwes l D b0 ext cA sl sx d) (hR1 : N1 - n0 ≤ R.cells) (hR2 : Z1 - z0 ≤ R.slots) (hN1 : N1 ≤ jScr) (hC : jCtx p l e R s mm args meth c D b0 ext cA sl sx d j n0)
    (hret : ∀ (i : Instr) (n pc : Nat) (L : List (Option Value)) (st : List Value) (m : jmM), decode (jB j) pc = .ok (i, n) → (n = jLen i ∨ jLen i = 0) → (i = .ireturn ∨ i = .lreturn ∨ i = .areturn ∨ i = .return_) → jSem (CC d) (jGo p l e R s mm args below meth c Qf D b0 ext cA sl sx n0 z0 N1 Z1) Qr (jEf j pc i L st m) → (jGo p l e R s mm args below meth c Qf D b0 ext cA sl sx n0 z0 N1 Z1 pc L st m)) :
    ∀ (k pc : Nat) (L : List (Option Value)) (st : List Value) (m : jmM), jRun (CC d) j Qr k pc L st m → (jGo p l e R s mm args below meth c Qf D b0 ext cA sl sx n0 z0 N1 Z1 pc L st m) := by
  intro k
  induction k with
  | zero => intro _ _ _ _ h; exact h.elim
  | succ k ih =>
    intro pc L st m h
    have h : jSem (CC d) (jRun (CC d) j Qr k) Qr (jStep j pc L st m) := h
    have h : jSem (CC d) (jGo p l e R s mm args below meth c Qf D b0 ext cA sl sx n0 z0 N1 Z1) Qr (jStep j pc L st m) := jSem_mono (fun _ _ _ _ h => h) (CC_mono d) ih (fun _ _ h => h) h
    unfold jStep at h
    split at h
    · next i n hd =>
      obtain ⟨hn, h⟩ := jSem_G.mp h
      exact jdispatch hO hR1 hR2 hN1 hC hd hn (fun hd hq a b c h => s_strlen hR1 hR2 hC hd hq a b c h) (fun hd hq a b c e f h => s_charat hR1 hR2 hC hd hq a b c e f h) (fun hi h => hret i n pc L st m hd hn hi h) h
    · exact h.elim
end JSO
theorem jargs_eq (b0 : Nat) (ext : Nat → Nat) : ∀ as : List Value, ∀ (i : Nat) (v : Value), (jargs as)[i]? = some (some v) → ∀ k, (k + i, jcv b0 ext v) ∈ lv_args k (as.map (jcv b0 ext))
  | [], i, v, h, k => by simp [jargs] at h
  | a :: as, i, v, h, k => by
    have one : a.category = 1 → (jargs (a :: as)) = some a :: jargs as → (k + i, jcv b0 ext v) ∈ lv_args k ((a :: as).map (jcv b0 ext)) := by
      intro hc e
      rw [e] at h
      have hne : ¬ (jcv b0 ext a).category = 2 := by rw [jcv_cat, hc]; omega
      simp only [List.map_cons, lv_args, if_neg hne]
      cases i with
      | zero => cases h; exact List.mem_cons_self
      | succ i =>
        have := jargs_eq b0 ext as i v h (k + 1)
        rw [show k + 1 + i = k + (i + 1) by omega] at this
        exact List.mem_cons_of_mem _ this
    have two : a.category = 2 → (jargs (a :: as)) = some a :: none :: jargs as → (k + i, jcv b0 ext v) ∈ lv_args k ((a :: as).map (jcv b0 ext)) := by
      intro hc e
      rw [e] at h
      have hne : (jcv b0 ext a).category = 2 := by rw [jcv_cat, hc]
      simp only [List.map_cons, lv_args, if_pos hne]
      match i, h with
      | 0, h => cases h; exact List.mem_cons_self
      | 1, h => cases h
      | i + 2, h =>
        have := jargs_eq b0 ext as i v h (k + 2)
        rw [show k + 2 + i = k + (i + 2) by omega] at this
        exact List.mem_cons_of_mem _ this
    cases a with
    | long x => exact two rfl rfl
    | double x => exact two rfl rfl
    | int x => exact one rfl rfl
    | float x => exact one rfl rfl
    | null => exact one rfl rfl
    | ref x => exact one rfl rfl
    | retAddr x => exact one rfl rfl
theorem jargs_len (b0 : Nat) (ext : Nat → Nat) : ∀ as : List Value, (lg_sl (as.map (jcv b0 ext))).length = (jargs as).length
  | [] => rfl
  | a :: as => by
    have ih := jargs_len b0 ext as
    have e : lg_sl ((a :: as).map (jcv b0 ext)) = (if (jcv b0 ext a).category = 2 then [.val (jcv b0 ext a), .second] else [.val (jcv b0 ext a)]) ++ lg_sl (as.map (jcv b0 ext)) := rfl
    rw [e, List.length_append, ih, jcv_cat]
    cases a <;> simp [Value.category, jargs] <;> omega
theorem jent_R {b0 : Nat} {ext : Nat → Nat} {as : List Value} {n : Nat} (h : (jargs as).length ≤ n) : lvR b0 ext n ((lg_sl (as.map (jcv b0 ext)) ++ List.replicate (n - (lg_sl (as.map (jcv b0 ext))).length) Slot.unset).toArray) (jent as n) := by
  have hh := lv_entry (as.map (jcv b0 ext)) (n := n) (by rw [jargs_len]; exact h)
  refine ⟨hh.1, by simp [jent]; omega, hh.2.1, fun i v hv => ?_⟩
  refine hh.2.2 (i, jcv b0 ext v) ?_
  have h1 : (jargs as)[i]? = some (some v) := by
    unfold jent at hv
    by_cases hi : i < (jargs as).length
    · rw [List.getElem?_append_left hi] at hv; exact hv
    · rw [List.getElem?_append_right (by omega)] at hv
      have := List.eq_of_mem_replicate (List.mem_of_getElem? hv)
      cases this
  have := jargs_eq b0 ext as i v h1 0
  rw [Nat.zero_add] at this
  exact this
theorem jowes (l : Launch) (D : va_G) (b0 : Nat) (ext : Nat → Nat) (cA : Nat → ClassId) (sl : Nat) (sx : Nat → Int32) : ∀ d, jOwes l D b0 ext cA sl sx d
  | 0 => fun _ _ _ _ _ h => h.elim
  | d + 1 => by
    intro j as m v m1 hE hj
    obtain ⟨v2, m2, hm1, hm2, e1, e2⟩ := CC_le2 (d + 1) _ _ _ _ hE
    subst e1; subst e2
    refine ⟨hm1, hm2, fun hN => ?_⟩
    · refine Met.ofW (cc := jB j) (maxL := jMl j) (ret := jRt j) (k_jm j hj).2.2.1 rfl ?_
      intro p e s mm args below meth c s₁ B hml hv
      obtain ⟨rfl, hP, hD, hok, hK, hz, hX⟩ := hv
      have hts0 := atoms_spec (ws := jwsd j) B.pre
      have hown : s.vm.findClass (jRN (jO j)) = some mm.cls := by
        have := findClass_of_methodNamed B.named
        rw [(k_jm j hj).1] at this
        exact this
      have hC : jCtx p l e (headSpec (jwsd j) (jroom (d + 1) m m2)).room s mm (as.map (jcv b0 ext)).toArray meth c D b0 ext cA sl sx d j (mN m) :=
        ⟨B.exec, B.bytes, hml, B.returns, hown, fun w hw => hts0 w (List.mem_cons_of_mem _ hw), hK, hz, (fun h => (name_of_methodNamed B.named B.method).1.trans h), B.notSynchronized, hX, by show d + 9 ≤ d + 1 + 8; omega, by show 64 * d + 576 ≤ 64 * (d + 1) + 512; omega, by have := (k_jm j hj).2.1; omega⟩
      obtain ⟨hl0, k, hk⟩ := hE
      have hgo := jsoundK (R := (headSpec (jwsd j) (jroom (d + 1) m m2)).room) (below := below) (Qf := MQ below (jPost D b0 ext cA sl sx m2 v2) (as.map (jcv b0 ext)).toArray s (mN m2 - mN m) (mZ m2 - mZ m) (fun q => b0 ≤ q)) (n0 := mN m) (z0 := mZ m) (N1 := mN m2) (Z1 := mZ m2) (jowes l D b0 ext cA sl sx d) (Nat.le_refl _) (Nat.le_refl _) hN hC
        (fun i n pc L st m3 hd hn hi h => s_ret hC hd hn hi rfl rfl rfl h) k _ _ _ _ hk
      have hgo := hgo.2 s.heap [] _ (by rw [hml]; exact jent_R hl0) ⟨hP, hD, va_S.rf, hok⟩ (Nat.le_refl _) (Nat.le_refl _)
      rw [lg_entry_eq]
      rw [Nat.sub_self, Nat.sub_self] at hgo
      exact hgo
