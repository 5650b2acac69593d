/-! ===== runs of the abstract machine: one outcome, steps as equivalences ===== -/
def jMono (C : jCC) : Prop := ∀ j as m (Q Q' : Option Value → jmM → Prop), (∀ v m1, Q v m1 → Q' v m1) → C j as m Q → C j as m Q'
def jDet (C : jCC) : Prop := ∀ j as m (Q : Option Value → jmM → Prop), C j as m Q → ∃ v m1, Q v m1 ∧ C j as m (fun v2 m2 => v2 = v ∧ m2 = m1)
def jUniq (C : jCC) : Prop := ∀ j as m (Q Q' : Option Value → jmM → Prop), C j as m Q → C j as m Q' → ∃ v m1, Q v m1 ∧ Q' v m1
theorem jSem_mono {C C' : jCC} {K K' : Nat → List (Option Value) → List Value → jmM → Prop} {Q Q' : Option Value → jmM → Prop} (hC : ∀ j as m Q, C j as m Q → C' j as m Q) (hm : jMono C') (hK : ∀ pc L st m, K pc L st m → K' pc L st m) (hQ : ∀ v m, Q v m → Q' v m) {r : jRes} (h : jSem C K Q r) : jSem C' K' Q' r := by
  match r, h with
  | none, h => exact h
  | some (.inl (pc, L, st, m)), h => exact hK _ _ _ _ h
  | some (.inr (.inl (j, as, pc, L, r, m))), h => exact hm _ _ _ _ _ (fun v m1 h => hK _ _ _ _ h) (hC _ _ _ _ h)
  | some (.inr (.inr (v, m))), h => exact hQ _ _ h
theorem jRun_mono {C C' : jCC} {j : Nat} {Q Q' : Option Value → jmM → Prop} (hC : ∀ j as m Q, C j as m Q → C' j as m Q) (hm : jMono C') (hQ : ∀ v m, Q v m → Q' v m) : ∀ (k pc : Nat) (L : List (Option Value)) (st : List Value) (m : jmM), jRun C j Q k pc L st m → jRun C' j Q' k pc L st m
  | 0, _, _, _, _, h => h
  | k + 1, _, _, _, _, h => jSem_mono hC hm (fun pc L st m h => jRun_mono hC hm hQ k pc L st m h) hQ h
theorem jRun_det {C : jCC} {j : Nat} {Q : Option Value → jmM → Prop} (hm : jMono C) (hd : jDet C) : ∀ (k pc : Nat) (L : List (Option Value)) (st : List Value) (m : jmM), jRun C j Q k pc L st m → ∃ v m1, Q v m1 ∧ jRun C j (fun v2 m2 => v2 = v ∧ m2 = m1) k pc L st m
  | 0, _, _, _, _, h => h.elim
  | k + 1, pc, L, st, m, h => by
    have h : jSem C (jRun C j Q k) Q (jStep j pc L st m) := h
    show ∃ v m1, Q v m1 ∧ jSem C (jRun C j (fun v2 m2 => v2 = v ∧ m2 = m1) k) (fun v2 m2 => v2 = v ∧ m2 = m1) (jStep j pc L st m)
    generalize jStep j pc L st m = r at h ⊢
    match r, h with
    | none, h => exact h.elim
    | some (.inl (pc, L, st, m)), h => exact jRun_det hm hd k pc L st m h
    | some (.inr (.inl (j2, as, pc, L, r, m))), h =>
      obtain ⟨v, m1, h1, h2⟩ := hd _ _ _ _ h
      obtain ⟨v3, m3, h3, h4⟩ := jRun_det hm hd k _ _ _ _ h1
      exact ⟨v3, m3, h3, hm _ _ _ _ _ (fun v2 m2 e => by obtain ⟨rfl, rfl⟩ := e; exact h4) h2⟩
    | some (.inr (.inr (v, m))), h => exact ⟨v, m, h, rfl, rfl⟩
theorem jRun_uniq {C : jCC} {j : Nat} {Q Q' : Option Value → jmM → Prop} (hu : jUniq C) : ∀ (k k' pc : Nat) (L : List (Option Value)) (st : List Value) (m : jmM), jRun C j Q k pc L st m → jRun C j Q' k' pc L st m → ∃ v m1, Q v m1 ∧ Q' v m1
  | 0, _, _, _, _, _, h, _ => h.elim
  | _ + 1, 0, _, _, _, _, _, h => h.elim
  | k + 1, k' + 1, pc, L, st, m, h, h' => by
    have h : jSem C (jRun C j Q k) Q (jStep j pc L st m) := h
    have h' : jSem C (jRun C j Q' k') Q' (jStep j pc L st m) := h'
    generalize jStep j pc L st m = r at h h'
    match r, h, h' with
    | none, h, _ => exact h.elim
    | some (.inl (pc, L, st, m)), h, h' => exact jRun_uniq hu k k' pc L st m h h'
    | some (.inr (.inl (j2, as, pc, L, r, m))), h, h' =>
      obtain ⟨v, m1, h1, h2⟩ := hu _ _ _ _ _ h h'
      exact jRun_uniq hu k k' _ _ _ _ h1 h2
    | some (.inr (.inr (v, m))), h, h' => exact ⟨v, m, h, h'⟩
theorem CC_mono : ∀ d, jMono (CC d)
  | 0 => fun _ _ _ _ _ _ h => h
  | d + 1 => fun j as m Q Q' hQ h => by
    obtain ⟨h0, k, h⟩ := h
    exact ⟨h0, k, jRun_mono (fun _ _ _ _ h => h) (CC_mono d) hQ k _ _ _ _ h⟩
theorem CC_det : ∀ d, jDet (CC d)
  | 0 => fun _ _ _ _ h => h.elim
  | d + 1 => fun j as m Q h => by
    obtain ⟨h0, k, h⟩ := h
    obtain ⟨v, m1, h1, h2⟩ := jRun_det (CC_mono d) (CC_det d) k _ _ _ _ h
    exact ⟨v, m1, h1, h0, k, h2⟩
theorem CC_uniq : ∀ d, jUniq (CC d)
  | 0 => fun _ _ _ _ _ h => h.elim
  | d + 1 => fun j as m Q Q' h h' => by
    obtain ⟨-, k, h⟩ := h
    obtain ⟨-, k', h'⟩ := h'
    exact jRun_uniq (CC_uniq d) k k' _ _ _ _ h h'
theorem CC_up : ∀ d j as m (Q : Option Value → jmM → Prop), CC d j as m Q → CC (d + 1) j as m Q
  | 0, _, _, _, _, h => h.elim
  | d + 1, _, _, _, _, h => by
    obtain ⟨h0, k, h⟩ := h
    exact ⟨h0, k, jRun_mono (CC_up d) (CC_mono (d + 1)) (fun _ _ h => h) k _ _ _ _ h⟩
theorem CC_le {d d' : Nat} (hd : d ≤ d') {j : Nat} {as : List Value} {m : jmM} {Q : Option Value → jmM → Prop} (h : CC d j as m Q) : CC d' j as m Q := by
  induction hd with
  | refl => exact h
  | step _ ih => exact CC_up _ _ _ _ _ ih
/-- a call whose outcome is known -/
def CE (d j : Nat) (as : List Value) (m : jmM) (v : Option Value) (m1 : jmM) : Prop := CC d j as m (fun v2 m2 => v2 = v ∧ m2 = m1)
theorem CE.iff {d j : Nat} {as : List Value} {m : jmM} {v : Option Value} {m1 : jmM} (h : CE d j as m v m1) {Q : Option Value → jmM → Prop} : CC d j as m Q ↔ Q v m1 := by
  constructor
  · intro hq
    obtain ⟨v2, m2, h1, e1, e2⟩ := CC_uniq d _ _ _ _ _ hq h
    rw [← e1, ← e2]; exact h1
  · intro hq
    exact CC_mono d _ _ _ _ _ (fun v2 m2 e => by obtain ⟨rfl, rfl⟩ := e; exact hq) h
theorem CE.le {d d' j : Nat} {as : List Value} {m : jmM} {v : Option Value} {m1 : jmM} (h : CE d j as m v m1) (hd : d ≤ d') : CE d' j as m v m1 := CC_le hd h
theorem CE.of {d j : Nat} {as : List Value} {m : jmM} {v : Option Value} {m1 : jmM} (h : ∀ Q : Option Value → jmM → Prop, CC d j as m Q ↔ Q v m1) : CE d j as m v m1 := (h _).mpr ⟨rfl, rfl⟩
theorem CE.uniq {d j : Nat} {as : List Value} {m : jmM} {v v' : Option Value} {m1 m1' : jmM} (h : CE d j as m v m1) (h' : CE d j as m v' m1') : v = v' ∧ m1 = m1' := by
  obtain ⟨v2, m2, ⟨e1, e2⟩, e3, e4⟩ := CC_uniq d _ _ _ _ _ h h'
  exact ⟨e1.symm.trans e3, e2.symm.trans e4⟩
theorem AW_step {d j pc : Nat} {L : List (Option Value)} {st : List Value} {m : jmM} {Q : Option Value → jmM → Prop} : AW d j pc L st m Q ↔ jSem (CC d) (fun pc L st m => AW d j pc L st m Q) Q (jStep j pc L st m) := by
  constructor
  · intro h
    obtain ⟨k, h⟩ := h
    cases k with
    | zero => exact h.elim
    | succ k => exact jSem_mono (fun _ _ _ _ h => h) (CC_mono d) (fun pc L st m h => ⟨k, h⟩) (fun _ _ h => h) h
  · intro h
    suffices hs : ∃ k, jSem (CC d) (jRun (CC d) j Q k) Q (jStep j pc L st m) by
      obtain ⟨k, hk⟩ := hs
      exact ⟨k + 1, hk⟩
    generalize jStep j pc L st m = r at h ⊢
    match r, h with
    | none, h => exact h.elim
    | some (.inl (pc, L, st, m)), h => exact h
    | some (.inr (.inl (j2, as, pc, L, r, m))), h =>
      obtain ⟨v, m1, ⟨k, h1⟩, h2⟩ := CC_det d _ _ _ _ h
      exact ⟨k, CC_mono d _ _ _ _ _ (fun v2 m2 e => by obtain ⟨rfl, rfl⟩ := e; exact h1) h2⟩
    | some (.inr (.inr (v, m))), h => exact ⟨0, h⟩
theorem CC_body {d j : Nat} {as : List Value} {m : jmM} {Q : Option Value → jmM → Prop} (h : (jargs as).length ≤ jMl j) : CC (d + 1) j as m Q ↔ AW d j 0 (jent as (jMl j)) [] m Q := ⟨fun h => h.2, fun h2 => ⟨h, h2⟩⟩
theorem AW_mono {d j pc : Nat} {L : List (Option Value)} {st : List Value} {m : jmM} {Q Q' : Option Value → jmM → Prop} (h : AW d j pc L st m Q) (hQ : ∀ v m, Q v m → Q' v m) : AW d j pc L st m Q' := by
  obtain ⟨k, h⟩ := h
  exact ⟨k, jRun_mono (fun _ _ _ _ h => h) (CC_mono d) hQ k _ _ _ _ h⟩
theorem jSem_G {C : jCC} {K : Nat → List (Option Value) → List Value → jmM → Prop} {Q : Option Value → jmM → Prop} {g : Prop} {h : Decidable g} {r : jRes} : jSem C K Q (jG g h r) ↔ g ∧ jSem C K Q r := by
  cases h with
  | isTrue hg => exact ⟨fun h => ⟨hg, h⟩, fun h => h.2⟩
  | isFalse hg => exact ⟨fun h => h.elim, fun h => absurd h.1 hg⟩
theorem AW_dec {d j pc n : Nat} {cc : ByteArray} {i : Instr} {L : List (Option Value)} {st : List Value} {m : jmM} {Q : Option Value → jmM → Prop} (hB : jB j = cc) (h : decode cc pc = .ok (i, n)) (hn : n = jLen i ∨ jLen i = 0) : AW d j pc L st m Q ↔ jSem (CC d) (fun pc L st m => AW d j pc L st m Q) Q (jEf j pc i L st m) := by
  rw [AW_step, jStep, hB, h]
  exact jSem_G.trans ⟨fun h => h.2, fun h => ⟨hn, h⟩⟩
