/-! ===== SOUNDNESS, the basics: what the abstract memory says of the heap ===== -/
def lw_g : List Cond := lw_tbl.filter goodWord
theorem g_mem {i : Nat} {w : Cond} (h : lw_tbl[i]? = some w) (hg : goodWord w = true) : w ∈ lw_g := List.mem_filter.mpr ⟨List.mem_of_getElem? h, hg⟩
theorem g_mem2 {w : Cond} (h : w ∈ lw_tbl) (hg : goodWord w = true) : w ∈ lw_g := List.mem_filter.mpr ⟨h, hg⟩
def jad (b0 : Nat) (ext : Nat → Nat) (k : Nat) : Nat := if k < jScr then b0 + k else ext k
def jcv (b0 : Nat) (ext : Nat → Nat) (v : Value) : Value := match v with
  | .ref a => .ref (jad b0 ext a)
  | v => v
theorem jad_lt {b0 : Nat} {ext : Nat → Nat} {k : Nat} (h : k < jScr) : jad b0 ext k = b0 + k := if_pos h
theorem jcv_cat (b0 : Nat) (ext : Nat → Nat) (v : Value) : (jcv b0 ext v).category = v.category := by cases v <;> rfl
theorem jcv_rf (b0 : Nat) (ext : Nat → Nat) (r : Option Nat) : jcv b0 ext (va_rf r) = va_rf (r.map (jad b0 ext)) := by cases r <;> rfl
def jtys (cA : Nat → ClassId) : List (ClassId × FieldType) := [(cA 20, .int), (cA 21, .long), (cA 22, .byte), (cA 23, .boolean), (cA 24, .object RX3), (cA 25, .object RX2), (cA 26, .object RX10)]
def jfs (b0 : Nat) (ext : Nat → Nat) (m : jmM) (k : Nat) : List Value := (List.range (jNF (mS m k).1)).map (fun i => jcv b0 ext (jval (jTy (mS m k).1 i) m k i))
def jcont (b0 : Nat) (ext : Nat → Nat) (m : jmM) (k : Nat) : ((Nat → Int32) ⊕ (Nat → Int64) ⊕ (Nat → UInt32) ⊕ (Nat → UInt64) ⊕ (Nat → Option Nat)) :=
  if (mS m k).1 = 21 then .inr (.inl (mL m k)) else if 24 ≤ (mS m k).1 then .inr (.inr (.inr (.inr (fun i => (mR m k i).map (jad b0 ext))))) else .inl (mI m k)
def jcell (b0 : Nat) (ext : Nat → Nat) (cA : Nat → ClassId) (m : jmM) (k : Nat) : va_E := if (mS m k).1 < 13 then .inr ((mS m k).1, jfs b0 ext m k) else .inl (cA (mS m k).1, ((mS m k).2, jcont b0 ext m k))
def jws (b0 : Nat) (ext : Nat → Nat) (cA : Nat → ClassId) (m : jmM) : va_W := (List.range (mN m)).map (fun k => (b0 + k, jcell b0 ext cA m k))
def jOKm (sl : Nat) (sx : Nat → Int32) (m : jmM) : Prop := (∀ a, a < mN m → (mS m a).1 < 13 ∨ (20 ≤ (mS m a).1 ∧ (mS m a).1 ≤ 26)) ∧ (∀ a, mN m ≤ a → (mS m a).1 = 99) ∧ mN m ≤ jScr ∧ (mS m jScr).2 = sl ∧ mI m jScr = sx
theorem jws_at {b0 : Nat} {ext : Nat → Nat} {cA : Nat → ClassId} {m : jmM} {k : Nat} (h : k < mN m) : (jws b0 ext cA m)[k]? = some (b0 + k, jcell b0 ext cA m k) := by
  rw [jws, List.getElem?_map, List.getElem?_range h]; rfl
theorem jws_len {b0 : Nat} {ext : Nat → Nat} {cA : Nat → ClassId} {m : jmM} : (jws b0 ext cA m).length = mN m := by simp [jws]
theorem jcell_congr {b0 : Nat} {ext : Nat → Nat} {cA : Nat → ClassId} {m m' : jmM} {k : Nat} (h1 : mI m' k = mI m k) (h2 : mL m' k = mL m k) (h3 : mR m' k = mR m k) (h4 : mS m' k = mS m k) : jcell b0 ext cA m' k = jcell b0 ext cA m k := by
  have e : ∀ ty i, jval ty m' k i = jval ty m k i := by intro ty i; cases ty <;> simp [jval, h1, h2, h3]
  simp only [jcell, jfs, jcont, h1, h2, h3, h4, e]
theorem jws_set {b0 : Nat} {ext : Nat → Nat} {cA : Nat → ClassId} {m m' : jmM} {a : Nat} {x : va_E} (hn : mN m' = mN m) (h1 : jcell b0 ext cA m' a = x) (h2 : ∀ k, k ≠ a → jcell b0 ext cA m' k = jcell b0 ext cA m k) : (jws b0 ext cA m).set a (b0 + a, x) = jws b0 ext cA m' := by
  apply List.ext_getElem?
  intro k
  by_cases hk : k < mN m
  · rw [jws_at (m := m') (by rw [hn]; exact hk)]
    by_cases e : k = a
    · subst e
      rw [List.getElem?_set_self (by rw [jws_len]; exact hk), h1]
    · rw [List.getElem?_set_ne (Ne.symm e), jws_at hk, h2 k e]
  · rw [List.getElem?_eq_none (by rw [List.length_set, jws_len]; omega), List.getElem?_eq_none (by rw [jws_len, hn]; omega)]
theorem jws_new {b0 : Nat} {ext : Nat → Nat} {cA : Nat → ClassId} {m : jmM} {kd n : Nat} : jws b0 ext cA (jNew m kd n) = jws b0 ext cA m ++ [(b0 + mN m, jcell b0 ext cA (jNew m kd n) (mN m))] := by
  have h : ∀ k ∈ List.range (mN m), (b0 + k, jcell b0 ext cA (jNew m kd n) k) = (b0 + k, jcell b0 ext cA m k) := by
    intro k hk
    have hk : k ≠ mN m := by have := List.mem_range.mp hk; omega
    rw [jcell_congr (m := m) (m' := jNew m kd n)]
    · exact if_neg hk
    · exact if_neg hk
    · exact if_neg hk
    · exact if_neg hk
  show (List.range (mN m + 1)).map _ = _
  rw [List.range_succ, List.map_append, List.map_congr_left h]
  rfl
theorem jvw {k : Nat} (h : k < 13) : vwCl[k]? = some (jRN k, jT k, jNF k) := by
  match k, h with
  | 0, _ => rfl
  | 1, _ => rfl
  | 2, _ => rfl
  | 3, _ => rfl
  | 4, _ => rfl
  | 5, _ => rfl
  | 6, _ => rfl
  | 7, _ => rfl
  | 8, _ => rfl
  | 9, _ => rfl
  | 10, _ => rfl
  | 11, _ => rfl
  | 12, _ => rfl
theorem u_good {C : String} {T : u_T} {N : Nat} {w : Cond} (h : w ∈ u_ws C T N) : goodWord w = true := by
  obtain ⟨k, -, rfl⟩ := List.mem_map.mp h
  unfold u_lay
  split <;> rfl
theorem jhin {k : Nat} (h : k < 13) : ∀ w ∈ u_ws (jRN k) (jT k) (jNF k), w ∈ lw_g := by
  intro w hw
  have hg := u_good hw
  match k, h with
  | 0, _ => exact g_mem2 (i_X0 w hw) hg
  | 1, _ => exact g_mem2 (i_X1 w hw) hg
  | 2, _ => exact g_mem2 (i_X2 w hw) hg
  | 3, _ => exact g_mem2 (i_X3 w hw) hg
  | 4, _ => exact g_mem2 (i_X4 w hw) hg
  | 5, _ => exact g_mem2 (i_X5 w hw) hg
  | 6, _ => exact g_mem2 (i_X6 w hw) hg
  | 7, _ => exact g_mem2 (i_X7 w hw) hg
  | 8, _ => exact g_mem2 (i_X8 w hw) hg
  | 9, _ => exact g_mem2 (i_X9 w hw) hg
  | 10, _ => exact g_mem2 (i_X10 w hw) hg
  | 11, _ => exact g_mem2 (i_X11 w hw) hg
  | 12, _ => exact g_mem2 (i_X12 w hw) hg
theorem jnm {k : Nat} (h : k < 13) : ∀ a, a < jNF k → ∀ b, b < jNF k → a ≠ b → (jT k a).2.1 ≠ (jT k b).2.1 := by
  match k, h with
  | 0, _ => exact nmX0
  | 1, _ => exact nmX1
  | 2, _ => exact nmX2
  | 3, _ => exact nmX3
  | 4, _ => exact nmX4
  | 5, _ => exact nmX5
  | 6, _ => exact nmX6
  | 7, _ => exact nmX7
  | 8, _ => exact nmX8
  | 9, _ => exact nmX9
  | 10, _ => exact nmX10
  | 11, _ => exact nmX11
  | 12, _ => exact nmX12
theorem jty_ok {k : Nat} (h : k < 13) : ∀ i, i < jNF k → parseFieldDescriptor (jT k i).2.2.1 = some (jTy k i) := by
  match k, h with
  | 0, _ => exact tyX0_ok
  | 1, _ => exact tyX1_ok
  | 2, _ => exact tyX2_ok
  | 3, _ => exact tyX3_ok
  | 4, _ => exact tyX4_ok
  | 5, _ => exact tyX5_ok
  | 6, _ => exact tyX6_ok
  | 7, _ => exact tyX7_ok
  | 8, _ => exact tyX8_ok
  | 9, _ => exact tyX9_ok
  | 10, _ => exact tyX10_ok
  | 11, _ => exact tyX11_ok
  | 12, _ => exact tyX12_ok
/-- the locals -/
def lvR (b0 : Nat) (ext : Nat → Nat) (n : Nat) (ls : Array Slot) (L : List (Option Value)) : Prop := ls.size = n ∧ L.length = n ∧ lv_wf ls ∧ ∀ (i : Nat) (v : Value), L[i]? = some (some v) → ls[i]? = some (Slot.val (jcv b0 ext v))
def jprs (b0 : Nat) (ext : Nat → Nat) (L : List (Option Value)) : List (Nat × Value) := (List.range L.length).filterMap (fun i => match L[i]? with
  | some (some v) => some (i, jcv b0 ext v)
  | _ => none)
theorem jprs_mem {b0 : Nat} {ext : Nat → Nat} {L : List (Option Value)} {i : Nat} {v : Value} (h : L[i]? = some (some v)) : (i, jcv b0 ext v) ∈ jprs b0 ext L :=
  List.mem_filterMap.mpr ⟨i, List.mem_range.mpr (List.getElem?_eq_some_iff.mp h).1, by simp only [h]⟩
theorem lvR.has {b0 : Nat} {ext : Nat → Nat} {n : Nat} {ls : Array Slot} {L : List (Option Value)} (h : lvR b0 ext n ls L) : lv_has ls n (jprs b0 ext L) := by
  refine ⟨h.1, h.2.2.1, fun q hq => ?_⟩
  obtain ⟨i, -, hi⟩ := List.mem_filterMap.mp hq
  split at hi
  · next v hv => cases hi; exact h.2.2.2 i v hv
  · cases hi
theorem jst1_len : ∀ (L : List (Option Value)) (i : Nat) (v : Value), (jst1 L i v).length = L.length
  | [], _, _ => rfl
  | _ :: _, 0, _ => rfl
  | o :: l, 1, v => by show (jst1 l 0 v).length + 1 = _; rw [jst1_len]; rfl
  | o :: l, i + 2, v => by show (jst1 l (i + 1) v).length + 1 = _; rw [jst1_len]; rfl
theorem jc1_some {o : Option Value} {w : Value} (h : jc1 o = some w) : o = some w ∧ w.category = 1 := by
  match o, h with
  | none, h => cases h
  | some (.int _), h => cases h; exact ⟨rfl, rfl⟩
  | some (.ref _), h => cases h; exact ⟨rfl, rfl⟩
  | some .null, h => cases h; exact ⟨rfl, rfl⟩
  | some (.float _), h => cases h; exact ⟨rfl, rfl⟩
  | some (.retAddr _), h => cases h; exact ⟨rfl, rfl⟩
  | some (.long _), h => cases h
  | some (.double _), h => cases h
theorem jst1_at : ∀ (L : List (Option Value)) (i : Nat) (v : Value) (k : Nat) (w : Value), (jst1 L i v)[k]? = some (some w) → (k = i ∧ w = v) ∨ (k ≠ i ∧ L[k]? = some (some w) ∧ ¬ (k + 1 = i ∧ w.category = 2))
  | [], _, _, k, w, h => by simp [jst1] at h
  | _ :: l, 0, v, 0, w, h => by cases h; exact Or.inl ⟨rfl, rfl⟩
  | _ :: l, 0, v, k + 1, w, h => Or.inr ⟨by omega, h, by omega⟩
  | o :: l, 1, v, 0, w, h => by
    have h : jc1 o = some w := by simpa [jst1] using h
    have h2 := jc1_some h
    exact Or.inr ⟨by omega, by simp [h2.1], fun z => by rw [h2.2] at z; omega⟩
  | o :: l, 1, v, k + 1, w, h => by
    rcases jst1_at l 0 v k w h with ⟨h1, h2⟩ | ⟨h1, h2, h3⟩
    · exact Or.inl ⟨by omega, h2⟩
    · exact Or.inr ⟨by omega, h2, fun z => by omega⟩
  | o :: l, i + 2, v, 0, w, h => Or.inr ⟨by omega, h, by omega⟩
  | o :: l, i + 2, v, k + 1, w, h => by
    rcases jst1_at l (i + 1) v k w h with ⟨h1, h2⟩ | ⟨h1, h2, h3⟩
    · exact Or.inl ⟨by omega, h2⟩
    · exact Or.inr ⟨by omega, h2, fun z => h3 ⟨by omega, z.2⟩⟩
theorem jset2_len (v : Value) : ∀ (L : List (Option Value)), (jset2 v L).length = L.length
  | [] => rfl
  | [_] => rfl
  | _ :: _ :: _ => rfl
theorem jst2_len : ∀ (i : Nat) (L : List (Option Value)) (v : Value), (jst2 L i v).length = L.length
  | 0, L, v => jset2_len v L
  | _ + 1, [], _ => rfl
  | i + 1, o :: l, v => by show (jst2 l i v).length + 1 = _; rw [jst2_len]; rfl
theorem jst2_at : ∀ (i : Nat) (L : List (Option Value)) (v : Value) (k : Nat) (w : Value), i + 1 < L.length → (jst2 L i v)[k]? = some (some w) → (k = i ∧ w = v) ∨ (k ≠ i ∧ k ≠ i + 1 ∧ L[k]? = some (some w) ∧ ¬ (k + 1 = i ∧ w.category = 2))
  | 0, [], v, k, w, hl, h => by simp at hl
  | 0, [o], v, k, w, hl, h => by simp at hl
  | 0, _ :: _ :: l, v, 0, w, _, h => by cases h; exact Or.inl ⟨rfl, rfl⟩
  | 0, _ :: _ :: l, v, 1, w, _, h => by cases h
  | 0, _ :: _ :: l, v, k + 2, w, _, h => Or.inr ⟨by omega, by omega, h, by omega⟩
  | i + 1, [], v, k, w, hl, h => by simp at hl
  | i + 1, o :: l, v, 0, w, _, h => by
    have h : (if i = 0 then jc1 o else o) = some w := by simpa [jst2, jst2r] using h
    by_cases hi : i = 0
    · rw [if_pos hi] at h
      have h2 := jc1_some h
      exact Or.inr ⟨by omega, by omega, by simp [h2.1], fun z => by rw [h2.2] at z; omega⟩
    · rw [if_neg hi] at h
      exact Or.inr ⟨by omega, by omega, by simp [h], by omega⟩
  | i + 1, o :: l, v, k + 1, w, hl, h => by
    rcases jst2_at i l v k w (by simp at hl; omega) h with ⟨h1, h2⟩ | ⟨h1, h1', h2, h3⟩
    · exact Or.inl ⟨by omega, h2⟩
    · exact Or.inr ⟨by omega, by omega, h2, fun z => h3 ⟨by omega, z.2⟩⟩
theorem lvR.st1 {b0 : Nat} {ext : Nat → Nat} {n i : Nat} {ls ls' : Array Slot} {L : List (Option Value)} {v : Value} (h : lvR b0 ext n ls L) (hh : lv_has ls' n ((i, jcv b0 ext v) :: (jprs b0 ext L).filter (fun q => !(q.1 == i) && !(q.1 + 1 == i && q.2.category == 2)))) : lvR b0 ext n ls' (jst1 L i v) := by
  refine ⟨hh.1, by rw [jst1_len]; exact h.2.1, hh.2.1, fun k w hk => ?_⟩
  rcases jst1_at L i v k w hk with ⟨h1, h2⟩ | ⟨h1, h2, h3⟩
  · subst h1; subst h2; exact hh.2.2 _ List.mem_cons_self
  · refine hh.2.2 (k, jcv b0 ext w) (List.mem_cons_of_mem _ (List.mem_filter.mpr ⟨jprs_mem h2, ?_⟩))
    simp only [jcv_cat]
    simp
    exact ⟨h1, by omega⟩
theorem lvR.st2 {b0 : Nat} {ext : Nat → Nat} {n i : Nat} {ls ls' : Array Slot} {L : List (Option Value)} {v : Value} (h : lvR b0 ext n ls L) (hi : i + 1 < n) (hh : lv_has ls' n ((i, jcv b0 ext v) :: (jprs b0 ext L).filter (fun q => !(q.1 == i) && (!(q.1 == i + 1) && !(q.1 + 1 == i && q.2.category == 2))))) : lvR b0 ext n ls' (jst2 L i v) := by
  refine ⟨hh.1, by rw [jst2_len]; exact h.2.1, hh.2.1, fun k w hk => ?_⟩
  rcases jst2_at i L v k w (by rw [h.2.1]; exact hi) hk with ⟨h1, h2⟩ | ⟨h1, h1', h2, h3⟩
  · subst h1; subst h2; exact hh.2.2 _ List.mem_cons_self
  · refine hh.2.2 (k, jcv b0 ext w) (List.mem_cons_of_mem _ (List.mem_filter.mpr ⟨jprs_mem h2, ?_⟩))
    simp only [jcv_cat]
    simp
    exact ⟨h1, h1', by omega⟩
