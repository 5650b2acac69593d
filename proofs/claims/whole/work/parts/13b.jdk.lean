/-! ===== String.length and charAt on the constants: contracts ===== -/
def jPj (b0 : Nat) (ext : Nat → Nat) (sl : Nat) (sx : Nat → Int32) (adV : Nat → Nat) (av : List Value) : Array Value → State → Prop := fun v U => v = av.toArray ∧ jExt b0 ext sl sx U ∧ b0 ≤ U.heap.size ∧ vk_S 16 (jCh.map List.length) jCh (fun i => ext (jScr + 1 + i)) adV (fun q => b0 ≤ q) U U.heap
section JJ
variable {l : Launch} {b0 : Nat} {ext : Nat → Nat} {sl : Nat} {sx : Nat → Int32} {adV : Nat → Nat}
theorem jPj.blind {av : List Value} : FrameBlind (jPj b0 ext sl sx adV av) := by
  intro a U g mk h
  obtain ⟨e1, hE, hb, hV⟩ := h
  exact ⟨e1, hE.to (U := U.calling g mk a) hb (State.WarmedH.refl U) (fun _ _ _ => rfl), hb, hV.moved (U := U.calling g mk a) (Vm.Alike.refl U.vm)⟩
theorem jPj.at {av : List Value} {s U : State} {H : Heap} {locs : List Loc} (hE : jExt b0 ext sl sx s) (hb : b0 ≤ s.heap.size) (hV : vk_S 16 (jCh.map List.length) jCh (fun i => ext (jScr + 1 + i)) adV (fun q => b0 ≤ q) s s.heap) (hS : va_S (fun q => b0 ≤ q) s.heap H locs) (hU : U.heap = H) (hW : s.WarmedH U.vm) : jPj b0 ext sl sx adV av av.toArray U :=
  ⟨rfl, hE.to hb hW (fun q h1 h2 => by rw [hU]; exact hS.2.1 q h1 h2), Nat.le_trans hb (by rw [hU]; exact hS.1), (hV.moved hW.alike).kept (fun q h1 h2 => by rw [hU]; exact hS.2.1 q h1 h2)⟩
abbrev jrm (k : Nat) : Room := { frames := k, cells := 0, slots := 0, locals := 40 * k }
theorem jgw {s : State} {args : Array Value} {w0 : Cond} (hw0 : w0 ∈ lw_g) (hts : ∀ w ∈ lw_g, w.before args s = true) : ∀ w ∈ (w0 :: lw_g), ∀ (a' : Array Value) (U : State), s.WarmedH U.vm → w.before a' U = true := by
  intro w hw a' U hW
  have hw2 : w ∈ lw_g := by
    rcases List.mem_cons.mp hw with rfl | h
    · exact hw0
    · exact h
  exact word_at hW (good_of_word (List.mem_filter.mp hw2).2) (hts _ hw2)
theorem jk_coder {t : Nat} (ht : t < 16) : Met l yJ0_coder_7d493 (.code yJ0_coder_7d493 cJ0_coder_7d493 1 (some .byte) :: lw_g) (jrm 1) (jPj b0 ext sl sx adV [.ref (ext (jScr + 1 + t))]) (vp_Si (fun r => r = 0)) 0 0 (fun _ => False) := by
  refine Met.ofW (cc := cJ0_coder_7d493) (maxL := 1) (ret := some .byte) (by decide) rfl ?_
  intro p e s m args below meth c s₁ B hml hv
  obtain ⟨rfl, hE, hb0, hV⟩ := hv
  have hx := B.exec
  have hb := B.bytes
  have hr := B.returns
  have hts : ∀ w ∈ lw_g, w.before #[Value.ref (ext (jScr + 1 + t))] s = true := fun w hw => atoms_spec (ws := _ :: lw_g) B.pre w (List.mem_cons_of_mem _ hw)
  have hown : s.vm.findClass RJ0 = some m.cls := findClass_of_methodNamed B.named
  have hlocks := B.notSynchronized
  have hS : va_S (fun q => b0 ≤ q) s.heap s.heap [] := va_S.rf
  have hl := lv_entry ([.ref (ext (jScr + 1 + t))]) (n := 1) (Nat.le_of_ble_eq_true rfl)
  rw [lg_entry_eq]
  generalize (lg_sl ([.ref (ext (jScr + 1 + t))]) ++ List.replicate (1 - (lg_sl ([.ref (ext (jScr + 1 + t))])).length) Slot.unset).toArray = ls at hl ⊢
  have hl : lv_has ls 1 [(0, .ref (ext (jScr + 1 + t)))] := hl
  refine va_gets hx hb hE.2.2.2.2.1 hS hown (hts _ kw_cs) (fun _ h => h) dJ0_coder_7d493_0 ?_
  refine lv_if_eq (tgt := 13) hx hb dJ0_coder_7d493_3 (by decide) (fun h => absurd h (by decide)) (fun _ => ?_)
  refine lv_aload_n hx hb dJ0_coder_7d493_6 rfl (lv_at hl 0 rfl) ?_
  refine vk_getf hx hb (hV.1 t ht).2.1 hS hown (hts _ kw_co) (fun _ h => h) dJ0_coder_7d493_7 ?_
  refine lv_goto (tgt := 14) hx hb dJ0_coder_7d493_10 (by decide) ?_
  exact W.zret hx hb hr rfl (fun t ht hW => ⟨_, rfl, rfl, ht⟩) (fun _ h => by cases h) dJ0_coder_7d493_14
theorem jk_latin {t : Nat} (ht : t < 16) : Met l yJ0_isLatin1_aae02 (.code yJ0_isLatin1_aae02 cJ0_isLatin1_aae02 1 (some .boolean) :: lw_g) (jrm 1) (jPj b0 ext sl sx adV [.ref (ext (jScr + 1 + t))]) (vp_Si (fun r => r = 1)) 0 0 (fun _ => False) := by
  refine Met.ofW (cc := cJ0_isLatin1_aae02) (maxL := 1) (ret := some .boolean) (by decide) rfl ?_
  intro p e s m args below meth c s₁ B hml hv
  obtain ⟨rfl, hE, hb0, hV⟩ := hv
  have hx := B.exec
  have hb := B.bytes
  have hr := B.returns
  have hts : ∀ w ∈ lw_g, w.before #[Value.ref (ext (jScr + 1 + t))] s = true := fun w hw => atoms_spec (ws := _ :: lw_g) B.pre w (List.mem_cons_of_mem _ hw)
  have hown : s.vm.findClass RJ0 = some m.cls := findClass_of_methodNamed B.named
  have hlocks := B.notSynchronized
  have hS : va_S (fun q => b0 ≤ q) s.heap s.heap [] := va_S.rf
  have hl := lv_entry ([.ref (ext (jScr + 1 + t))]) (n := 1) (Nat.le_of_ble_eq_true rfl)
  rw [lg_entry_eq]
  generalize (lg_sl ([.ref (ext (jScr + 1 + t))]) ++ List.replicate (1 - (lg_sl ([.ref (ext (jScr + 1 + t))])).length) Slot.unset).toArray = ls at hl ⊢
  have hl : lv_has ls 1 [(0, .ref (ext (jScr + 1 + t)))] := hl
  refine va_gets hx hb hE.2.2.2.2.1 hS hown (hts _ kw_cs) (fun _ h => h) dJ0_isLatin1_aae02_0 ?_
  refine lv_if_eq (tgt := 17) hx hb dJ0_isLatin1_aae02_3 (by decide) (fun h => absurd h (by decide)) (fun _ => ?_)
  refine lv_aload_n hx hb dJ0_isLatin1_aae02_6 rfl (lv_at hl 0 rfl) ?_
  refine vk_getf hx hb (hV.1 t ht).2.1 hS hown (hts _ kw_co) (fun _ h => h) dJ0_isLatin1_aae02_7 ?_
  refine lv_if_ne (tgt := 17) hx hb dJ0_isLatin1_aae02_10 (by decide) (fun h => absurd rfl h) (fun _ => ?_)
  refine lv_iconst (v := 1) hx hb dJ0_isLatin1_aae02_13 (by decide) ?_
  refine lv_goto (tgt := 18) hx hb dJ0_isLatin1_aae02_14 (by decide) ?_
  exact W.zret hx hb hr rfl (fun t ht hW => ⟨_, rfl, rfl, ht⟩) (fun _ h => by cases h) dJ0_isLatin1_aae02_18
theorem jk_pre {i n : Int32} {q : Value} (h0 : ¬ i < 0) (h1 : i < n) (hq : q = .null ∨ ∃ a, q = .ref a) : Met l yJ3_checkIndex_8e157 (.code yJ3_checkIndex_8e157 cJ3_checkIndex_8e157 3 (some .int) :: lw_g) (jrm 1) (jPj b0 ext sl sx adV [.int i, .int n, q]) (vp_Si (fun r => r = i)) 0 0 (fun _ => False) := by
  refine Met.ofW (cc := cJ3_checkIndex_8e157) (maxL := 3) (ret := some .int) (by decide) rfl ?_
  intro p e s m args below meth c s₁ B hml hv
  obtain ⟨rfl, hE, hb0, hV⟩ := hv
  have hx := B.exec
  have hb := B.bytes
  have hr := B.returns
  have hlocks := B.notSynchronized
  have hl : lv_has ((lg_sl ([.int i, .int n, q]) ++ List.replicate (3 - (lg_sl ([.int i, .int n, q])).length) Slot.unset).toArray) 3 [(0, .int i), (1, .int n), (2, q)] := by
    rcases hq with rfl | ⟨a, rfl⟩
    · exact lv_entry ([.int i, .int n, .null]) (n := 3) (Nat.le_of_ble_eq_true rfl)
    · exact lv_entry ([.int i, .int n, .ref a]) (n := 3) (Nat.le_of_ble_eq_true rfl)
  rw [lg_entry_eq]
  generalize (lg_sl ([.int i, .int n, q]) ++ List.replicate (3 - (lg_sl ([.int i, .int n, q])).length) Slot.unset).toArray = ls at hl ⊢
  refine lv_iload_n hx hb dJ3_checkIndex_8e157_0 rfl (lv_at hl 0 rfl) ?_
  refine lv_if_lt (tgt := 9) hx hb dJ3_checkIndex_8e157_1 (by decide) (fun h => absurd h h0) (fun _ => ?_)
  refine lv_iload_n hx hb dJ3_checkIndex_8e157_4 rfl (lv_at hl 0 rfl) ?_
  refine lv_iload_n hx hb dJ3_checkIndex_8e157_5 rfl (lv_at hl 1 rfl) ?_
  refine lv_icmp_lt (tgt := 16) hx hb dJ3_checkIndex_8e157_6 (by decide) (fun _ => ?_) (fun h => absurd h1 h)
  refine lv_iload_n hx hb dJ3_checkIndex_8e157_16 rfl (lv_at hl 0 rfl) ?_
  exact W.iret hx hb hr (fun t ht hW => ⟨_, rfl, rfl, ht⟩) (fun _ h => by cases h) dJ3_checkIndex_8e157_17
theorem jk_len {t : Nat} (ht : t < 16) : Met l yJ0_length_8abf5 (.code yJ0_length_8abf5 cJ0_length_8abf5 1 (some .int) :: lw_g) (jrm 2) (jPj b0 ext sl sx adV [.ref (ext (jScr + 1 + t))]) (vp_Si (fun r => r = nI (jCh.getD t []).length)) 0 0 (fun _ => False) := by
  refine Met.ofW (cc := cJ0_length_8abf5) (maxL := 1) (ret := some .int) (by decide) rfl ?_
  intro p e s m args below meth c s₁ B hml hv
  obtain ⟨rfl, hE, hb0, hV⟩ := hv
  have hx := B.exec
  have hb := B.bytes
  have hr := B.returns
  have hts : ∀ w ∈ lw_g, w.before #[Value.ref (ext (jScr + 1 + t))] s = true := fun w hw => atoms_spec (ws := _ :: lw_g) B.pre w (List.mem_cons_of_mem _ hw)
  have hown : s.vm.findClass RJ0 = some m.cls := findClass_of_methodNamed B.named
  have hlocks := B.notSynchronized
  have hS : va_S (fun q => b0 ≤ q) s.heap s.heap [] := va_S.rf
  have hl := lv_entry ([.ref (ext (jScr + 1 + t))]) (n := 1) (Nat.le_of_ble_eq_true rfl)
  rw [lg_entry_eq]
  generalize (lg_sl ([.ref (ext (jScr + 1 + t))]) ++ List.replicate (1 - (lg_sl ([.ref (ext (jScr + 1 + t))])).length) Slot.unset).toArray = ls at hl ⊢
  have hl : lv_has ls 1 [(0, .ref (ext (jScr + 1 + t)))] := hl
  refine lv_aload_n hx hb dJ0_length_8abf5_0 rfl (lv_at hl 0 rfl) ?_
  refine vk_getf hx hb (hV.1 t ht).2.2.1 hS hown (hts _ kw_va) (fun _ h => h) dJ0_length_8abf5_1 ?_
  refine va_tlen hx hb (hV.1 t ht).2.2.2 hS rfl dJ0_length_8abf5_4 ?_
  refine lv_aload_n hx hb dJ0_length_8abf5_5 rfl (lv_at hl 0 rfl) ?_
  refine vp_callSi (W.runV (C := RJ0) (As := []) (n := 0) ⟨hx, hb, hml, hown, hts⟩ (jk_coder ht) ⟨⟨rfl, rfl, by decide, by decide, jgw kwc_cod hts, List.mem_cons_self, hts _ kwc_cod, hts _ kw_ini0, by decide, fun sig h => by cases h; rfl, hts _ kw_m335⟩, hts _ kw_icod, hts _ kw_scod⟩ ⟨jPj.blind, vk_recv hV ht hS, fun U hU hW => jPj.at hE hb0 hV hS hU hW⟩ rfl rfl hl.1 rfl (Nat.le_of_ble_eq_true rfl) dJ0_length_8abf5_6 ⟨Nat.le_refl _, Nat.le_refl _⟩) (fun r hr0 => ?_)
  subst hr0
  refine lv_ishr hx hb dJ0_length_8abf5_9 ?_
  refine W.iret hx hb hr (fun t2 ht2 hW => ⟨_, rfl, ?_, ht2⟩) (fun _ h => by cases h) dJ0_length_8abf5_10
  have key : ∀ t ∈ List.range 16, (Int32.ofNat ((jCh.map List.length).getD t 0)) >>> ((0 : Int32) &&& 31) = nI (jCh.getD t []).length := by decide +kernel
  exact key t (List.mem_range.mpr ht)
theorem jk_chk {i n : Int32} (h0 : ¬ i < 0) (h1 : i < n) : Met l yJ0_checkIndex_df160 (.code yJ0_checkIndex_df160 cJ0_checkIndex_df160 2 none :: lw_g) (jrm 2) (jPj b0 ext sl sx adV [.int i, .int n]) (fun _ st o t => o = .returned none ∧ t.heap = st.heap) 0 0 (fun _ => False) := by
  refine Met.ofW (cc := cJ0_checkIndex_df160) (maxL := 2) (ret := none) (by decide) rfl ?_
  intro p e s m args below meth c s₁ B hml hv
  obtain ⟨rfl, hE, hb0, hV⟩ := hv
  have hx := B.exec
  have hb := B.bytes
  have hr := B.returns
  have hts : ∀ w ∈ lw_g, w.before #[Value.int i, Value.int n] s = true := fun w hw => atoms_spec (ws := _ :: lw_g) B.pre w (List.mem_cons_of_mem _ hw)
  have hown : s.vm.findClass RJ0 = some m.cls := findClass_of_methodNamed B.named
  have hlocks := B.notSynchronized
  have hS : va_S (fun q => b0 ≤ q) s.heap s.heap [] := va_S.rf
  have hl := lv_entry ([.int i, .int n]) (n := 2) (Nat.le_of_ble_eq_true rfl)
  rw [lg_entry_eq]
  generalize (lg_sl ([.int i, .int n]) ++ List.replicate (2 - (lg_sl ([.int i, .int n])).length) Slot.unset).toArray = ls at hl ⊢
  have hl : lv_has ls 2 [(0, .int i), (1, .int n)] := hl
  refine lv_iload_n hx hb dJ0_checkIndex_df160_0 rfl (lv_at hl 0 rfl) ?_
  refine lv_iload_n hx hb dJ0_checkIndex_df160_1 rfl (lv_at hl 1 rfl) ?_
  have hgo : ∀ q : Value, (q = .null ∨ ∃ a, q = .ref a) → W p l e (headSpec (.code yJ0_checkIndex_df160 cJ0_checkIndex_df160 2 none :: lw_g) (jrm 2)).room s m #[Value.int i, Value.int n] below meth c s.heap [] 0 0 (MQ below (fun _ st o t => o = .returned none ∧ t.heap = st.heap) #[Value.int i, Value.int n] s 0 0 (fun _ => False)) (F0 m 5 ls (q :: .int n :: .int i :: [])) := by
    intro q hq
    refine vp_callSi (W.runS (As := [.int i, .int n, q]) (rest := []) (n := 3) ⟨hx, hb, hml, hown, hts⟩ (jk_pre h0 h1 hq) ⟨⟨rfl, rfl, by decide, by decide, jgw kwc_pre hts, List.mem_cons_self, hts _ kwc_pre, hts _ kw_ini3, by decide, fun sig h => by cases h; rfl, hts _ kw_m1059⟩, hts _ kw_tpre⟩ ⟨jPj.blind, fun U hU hW => jPj.at hE hb0 hV hS hU hW⟩ rfl rfl hl.1 rfl (Nat.le_of_ble_eq_true rfl) dJ0_checkIndex_df160_5 ⟨Nat.le_refl _, Nat.le_refl _⟩) (fun r hr0 => ?_)
    refine lv_pop hx hb dJ0_checkIndex_df160_8 rfl ?_
    exact W.vret hx hb hr (fun t ht hW => ⟨rfl, ht⟩) (fun _ h => by cases h) dJ0_checkIndex_df160_9
  rcases hE.2.2.2.2.2.2.1 with hZ | ⟨a, hZ⟩
  · exact va_gets hx hb hZ hS hown (hts _ kw_si) (fun _ h => h) dJ0_checkIndex_df160_2 (hgo _ (Or.inl rfl))
  · exact va_gets hx hb hZ hS hown (hts _ kw_si) (fun _ h => h) dJ0_checkIndex_df160_2 (hgo _ (Or.inr ⟨_, rfl⟩))
/-- behind a void call that changes nothing -/
theorem jcallSv {p : Program} {e : Env} {R : Room} {s : State} {m : MethodId} {args : Array Value} {below : List Frame} {meth : Method} {c : Code} {H : Heap} {locs : List Loc} {cells slots pc : Nat} {Q : State → Prop} {ls : Array Slot} {rest : List Value} {a : Array Value} {st0 : List Value} (hr : CallRun p l e R s m args below meth c H locs cells slots 0 0 (F0 m pc ls st0) rest ((fun _ st o t => o = .returned none ∧ t.heap = st.heap) a) (fun _ => False))
    (kk : W p l e R s m args below meth c H locs cells slots Q (F0 m (pc + 3) ls rest)) : W p l e R s m args below meth c H locs cells slots Q (F0 m pc ls st0) := by
  intro T hT X
  obtain ⟨v, st₀, t, T', L, h0, X', hL, e1, ⟨hv, hh⟩, st⟩ := hr T hT X
  cases hv
  obtain ⟨t2, a1, b1⟩ := kk T' (by rw [e1, hh, h0]) (Stand.forget X' (fun q h => (hL q h).elim))
  exact ⟨t2, st t2 a1, b1⟩
theorem jk_num : ∀ t ∈ List.range 16, (jCh.map List.length).getD t 0 = (jCh.getD t []).length ∧ (jCh.getD t []).length < 100 ∧ ∀ k ∈ List.range (jCh.getD t []).length, (((((jCh.getD t []).getD k 0) &&& 255).toUInt32 % 65536).toInt32 = (jCh.getD t []).getD k 0) ∧ narrow .char (.int ((jCh.getD t []).getD k 0)) = .int ((jCh.getD t []).getD k 0) := by decide +kernel
theorem jk_l1c {t : Nat} {i : Int32} (ht : t < 16) (h0 : 0 ≤ i.toInt) (h1 : i.toInt < ((jCh.getD t []).length : Int)) : Met l yJ1_charAt_3b067 (.code yJ1_charAt_3b067 cJ1_charAt_3b067 2 (some .char) :: lw_g) (jrm 3) (jPj b0 ext sl sx adV [.ref (adV t), .int i]) (vp_Si (fun r => r = (jCh.getD t []).getD (jx i) 0)) 0 0 (fun _ => False) := by
  refine Met.ofW (cc := cJ1_charAt_3b067) (maxL := 2) (ret := some .char) (by decide) rfl ?_
  intro p e s m args below meth c s₁ B hml hv
  obtain ⟨rfl, hE, hb0, hV⟩ := hv
  have hx := B.exec
  have hb := B.bytes
  have hr := B.returns
  have hts : ∀ w ∈ lw_g, w.before #[Value.ref (adV t), Value.int i] s = true := fun w hw => atoms_spec (ws := _ :: lw_g) B.pre w (List.mem_cons_of_mem _ hw)
  have hown : s.vm.findClass RJ1 = some m.cls := findClass_of_methodNamed B.named
  have hlocks := B.notSynchronized
  obtain ⟨hn1, hn2, hn3⟩ := jk_num t (List.mem_range.mpr ht)
  obtain ⟨hn4, hn5⟩ := hn3 (jx i) (List.mem_range.mpr (by unfold jx; omega))
  have hS : va_S (fun q => b0 ≤ q) s.heap s.heap [] := va_S.rf
  have hl := lv_entry ([.ref (adV t), .int i]) (n := 2) (Nat.le_of_ble_eq_true rfl)
  rw [lg_entry_eq]
  generalize (lg_sl ([.ref (adV t), .int i]) ++ List.replicate (2 - (lg_sl ([.ref (adV t), .int i])).length) Slot.unset).toArray = ls at hl ⊢
  have hl : lv_has ls 2 [(0, .ref (adV t)), (1, .int i)] := hl
  refine lv_iload_n hx hb dJ1_charAt_3b067_0 rfl (lv_at hl 1 rfl) ?_
  refine lv_aload_n hx hb dJ1_charAt_3b067_1 rfl (lv_at hl 0 rfl) ?_
  refine va_tlen hx hb (hV.1 t ht).2.2.2 hS rfl dJ1_charAt_3b067_2 ?_
  have hlt : i < Int32.ofNat ((jCh.map List.length).getD t 0) := by
    rw [hn1, Int32.lt_iff_toInt_lt, show (Int32.ofNat (jCh.getD t []).length).toInt = ((jCh.getD t []).length : Int) from nI_toInt (by omega)]
    exact h1
  refine jcallSv (a := #[.int i, .int (Int32.ofNat ((jCh.map List.length).getD t 0))]) (W.runS (As := [.int i, .int (Int32.ofNat ((jCh.map List.length).getD t 0))]) (rest := []) (n := 2) ⟨hx, hb, hml, hown, hts⟩ (jk_chk (jnn h0) hlt) ⟨⟨rfl, rfl, by decide, by decide, jgw kwc_chk hts, List.mem_cons_self, hts _ kwc_chk, hts _ kw_ini0, by decide, fun sig h => by cases h; rfl, hts _ kw_m9⟩, hts _ kw_tchk⟩ ⟨jPj.blind, fun U hU hW => jPj.at hE hb0 hV hS hU hW⟩ rfl rfl hl.1 rfl (Nat.le_of_ble_eq_true rfl) dJ1_charAt_3b067_3 ⟨Nat.le_refl _, Nat.le_refl _⟩) ?_
  refine lv_aload_n hx hb dJ1_charAt_3b067_6 rfl (lv_at hl 0 rfl) ?_
  refine lv_iload_n hx hb dJ1_charAt_3b067_7 rfl (lv_at hl 1 rfl) ?_
  refine va_tb hx hb (hV.1 t ht).2.2.2 hS (jx_in ⟨h0, by rw [hn1]; exact h1⟩) rfl dJ1_charAt_3b067_8 ?_
  refine lv_sipush (v := 255) hx hb dJ1_charAt_3b067_9 (by decide) ?_
  refine lv_iand hx hb dJ1_charAt_3b067_12 ?_
  refine lv_i2c hx hb dJ1_charAt_3b067_13 (v := (jCh.getD t []).getD (jx i) 0) hn4 ?_
  exact W.zret hx hb hr hn5 (fun t2 ht2 hW => ⟨_, rfl, rfl, ht2⟩) (fun _ h => by cases h) dJ1_charAt_3b067_14
theorem jk_chr {t : Nat} {i : Int32} (ht : t < 16) (h0 : 0 ≤ i.toInt) (h1 : i.toInt < ((jCh.getD t []).length : Int)) : Met l yJ0_charAt_5068e (.code yJ0_charAt_5068e cJ0_charAt_5068e 2 (some .char) :: lw_g) (jrm 4) (jPj b0 ext sl sx adV [.ref (ext (jScr + 1 + t)), .int i]) (vp_Si (fun r => r = (jCh.getD t []).getD (jx i) 0)) 0 0 (fun _ => False) := by
  refine Met.ofW (cc := cJ0_charAt_5068e) (maxL := 2) (ret := some .char) (by decide) rfl ?_
  intro p e s m args below meth c s₁ B hml hv
  obtain ⟨rfl, hE, hb0, hV⟩ := hv
  have hx := B.exec
  have hb := B.bytes
  have hr := B.returns
  have hts : ∀ w ∈ lw_g, w.before #[Value.ref (ext (jScr + 1 + t)), Value.int i] s = true := fun w hw => atoms_spec (ws := _ :: lw_g) B.pre w (List.mem_cons_of_mem _ hw)
  have hown : s.vm.findClass RJ0 = some m.cls := findClass_of_methodNamed B.named
  have hlocks := B.notSynchronized
  obtain ⟨hn1, hn2, hn3⟩ := jk_num t (List.mem_range.mpr ht)
  obtain ⟨hn4, hn5⟩ := hn3 (jx i) (List.mem_range.mpr (by unfold jx; omega))
  have hS : va_S (fun q => b0 ≤ q) s.heap s.heap [] := va_S.rf
  have hl := lv_entry ([.ref (ext (jScr + 1 + t)), .int i]) (n := 2) (Nat.le_of_ble_eq_true rfl)
  rw [lg_entry_eq]
  generalize (lg_sl ([.ref (ext (jScr + 1 + t)), .int i]) ++ List.replicate (2 - (lg_sl ([.ref (ext (jScr + 1 + t)), .int i])).length) Slot.unset).toArray = ls at hl ⊢
  have hl : lv_has ls 2 [(0, .ref (ext (jScr + 1 + t))), (1, .int i)] := hl
  refine lv_aload_n hx hb dJ0_charAt_5068e_0 rfl (lv_at hl 0 rfl) ?_
  refine vp_callSi (W.runV (C := RJ0) (As := []) (rest := []) (n := 0) ⟨hx, hb, hml, hown, hts⟩ (jk_latin ht) ⟨⟨rfl, rfl, by decide, by decide, jgw kwc_lat hts, List.mem_cons_self, hts _ kwc_lat, hts _ kw_ini0, by decide, fun sig h => by cases h; rfl, hts _ kw_m492⟩, hts _ kw_ilat, hts _ kw_slat⟩ ⟨jPj.blind, vk_recv hV ht hS, fun U hU hW => jPj.at hE hb0 hV hS hU hW⟩ rfl rfl hl.1 rfl (Nat.le_of_ble_eq_true rfl) dJ0_charAt_5068e_1 ⟨Nat.le_refl _, Nat.le_refl _⟩) (fun r hr0 => ?_)
  subst hr0
  refine lv_if_eq (tgt := 16) hx hb dJ0_charAt_5068e_4 (by decide) (fun h => absurd h (by decide)) (fun _ => ?_)
  refine lv_aload_n hx hb dJ0_charAt_5068e_7 rfl (lv_at hl 0 rfl) ?_
  refine vk_getf hx hb (hV.1 t ht).2.2.1 hS hown (hts _ kw_va) (fun _ h => h) dJ0_charAt_5068e_8 ?_
  refine lv_iload_n hx hb dJ0_charAt_5068e_11 rfl (lv_at hl 1 rfl) ?_
  refine vp_callSi (W.runS (As := [.ref (adV t), .int i]) (rest := []) (n := 2) ⟨hx, hb, hml, hown, hts⟩ (jk_l1c ht h0 h1) ⟨⟨rfl, rfl, by decide, by decide, jgw kwc_l1c hts, List.mem_cons_self, hts _ kwc_l1c, hts _ kw_ini1, by decide, fun sig h => by cases h; rfl, hts _ kw_m495⟩, hts _ kw_tl1c⟩ ⟨jPj.blind, fun U hU hW => jPj.at hE hb0 hV hS hU hW⟩ rfl rfl hl.1 rfl (Nat.le_of_ble_eq_true rfl) dJ0_charAt_5068e_12 ⟨Nat.le_refl _, Nat.le_refl _⟩) (fun r hr0 => ?_)
  subst hr0
  exact W.zret hx hb hr hn5 (fun t2 ht2 hW => ⟨_, rfl, rfl, ht2⟩) (fun _ h => by cases h) dJ0_charAt_5068e_15
end JJ
