/-! ===== SOUNDNESS, new cells ===== -/
section JSN
variable {p : Program} {l : Launch} {e : Env} {R : Room} {s : State} {mm : MethodId} {args : Array Value} {below : List Frame} {meth : Method} {c : Code} {Qf : State → Prop} {D : va_G} {b0 : Nat} {ext : Nat → Nat} {cA : Nat → ClassId} {sl : Nat} {sx : Nat → Int32} {n0 z0 N1 Z1 d j : Nat}
variable {C : jCC} {Qr : Option Value → jmM → Prop} {pc : Nat} {L : List (Option Value)} {st : List Value} {m : jmM}
theorem k_aI : lw_tbl[141]? = some (.arrayClass .int) := by decide +kernel
theorem k_aL : lw_tbl[237]? = some (.arrayClass .long) := by decide +kernel
theorem k_aB : lw_tbl[723]? = some (.arrayClass .byte) := by decide +kernel
theorem k_aZ : lw_tbl[333]? = some (.arrayClass .boolean) := by decide +kernel
theorem jty_nf : ∀ k ∈ List.range 13, ∀ i ∈ List.range (jNF k), jTy k i ≠ .float ∧ jTy k i ≠ .double := by decide +kernel
/-- the address of a new cell -/
theorem jq_new {q : Nat} {x : va_E} {H1 : Heap} (hP : va_P D vwCl (jws b0 ext cA m ++ [(q, x)]) H1) (hD : va_D (fun q => b0 ≤ q) (jws b0 ext cA m ++ [(q, x)])) (hz : H1.size ≤ b0 + mN m + 1) : q = b0 + mN m := by
  have hq : (jws b0 ext cA m ++ [(q, x)])[mN m]? = some (q, x) := by
    rw [List.getElem?_append_right (by rw [jws_len]; exact Nat.le_refl _), jws_len, Nat.sub_self]; rfl
  have h1 : q < H1.size := (hP _ _ hq).lt
  have h2 : b0 ≤ q := hD.2 _ _ hq
  rcases Nat.lt_or_ge q (b0 + mN m) with h3 | h3
  · have hk : (jws b0 ext cA m ++ [(q, x)])[q - b0]? = some (b0 + (q - b0), jcell b0 ext cA m (q - b0)) := by
      rw [List.getElem?_append_left (by rw [jws_len]; omega), jws_at (by omega)]
    have := hD.1 _ _ _ _ hq hk (by show q = b0 + (q - b0); omega)
    omega
  · omega
theorem jok_new {kd n : Nat} (hok : jOKm sl sx m) (hk : kd < 13 ∨ (20 ≤ kd ∧ kd ≤ 26)) (hn : mN m + 1 ≤ jScr) : jOKm sl sx (jNew m kd n) := by
  refine ⟨fun a ha => ?_, fun a ha => ?_, hn, ?_, ?_⟩
  · show (jup m.2.2.2.1 (mN m) (kd, n) a).1 < 13 ∨ _
    by_cases e1 : a = mN m
    · subst e1; rw [show mS (jNew m kd n) (mN m) = (kd, n) from jupS, jupS]; exact hk
    · rw [show mS (jNew m kd n) a = mS m a from jupN e1, jupN e1]
      exact hok.1 a (by have : a < mN m + 1 := ha; omega)
  · have ha : mN m + 1 ≤ a := ha
    rw [show mS (jNew m kd n) a = mS m a from jupN (by omega)]
    exact hok.2.1 a (by omega)
  · rw [show mS (jNew m kd n) jScr = mS m jScr from jupN (by omega)]
    exact hok.2.2.2.1
  · rw [show mI (jNew m kd n) jScr = mI m jScr from jupN (by omega)]
    exact hok.2.2.2.2
theorem jns {kd n : Nat} : mS (jNew m kd n) (mN m) = (kd, n) := jupS
theorem jnI {kd n : Nat} : mI (jNew m kd n) (mN m) = fun _ => 0 := jupS
theorem jnL {kd n : Nat} : mL (jNew m kd n) (mN m) = fun _ => 0 := jupS
theorem jnR {kd n : Nat} : mR (jNew m kd n) (mN m) = fun _ => none := jupS
theorem s_new {idx : Nat} (hR1 : N1 - n0 ≤ R.cells) (hR2 : Z1 - z0 ≤ R.slots) (hN1 : N1 ≤ jScr) (hC : jCtx p l e R s mm args meth c D b0 ext cA sl sx d j n0) (hd : decode (jB j) pc = .ok (.new idx, 3)) (h : jSem C (jGo p l e R s mm args below meth c Qf D b0 ext cA sl sx n0 z0 N1 Z1) Qr (jEf j pc (.new idx) L st m)) : (jGo p l e R s mm args below meth c Qf D b0 ext cA sl sx n0 z0 N1 Z1 pc L st m) := by
  obtain ⟨q, hq, h⟩ := jS_op h
  obtain ⟨ci, p1⟩ := q
  obtain ⟨hw, hci⟩ := k_nw _ (jfind2_mem hq)
  obtain ⟨hx, hb, hml, hr, hown, hts, hK, hz, hnm, hlk, hE, -⟩ := id hC
  have h : (jGo p l e R s mm args below meth c Qf D b0 ext cA sl sx n0 z0 N1 Z1 (pc + 3) L (.ref (mN m) :: st) (jNew m ci (jNF ci))) := h
  obtain ⟨⟨hc1, hc2⟩, h⟩ := h
  have hc1 : mN m + 1 ≤ N1 := hc1
  have hc2 : mZ m + jNF ci ≤ Z1 := hc2
  refine ⟨⟨by omega, by omega⟩, fun H locs ls hl hs h1 h2 => ?_⟩
  obtain ⟨hP, hD, hS, hok⟩ := id hs
  dsimp only at hw hci
  have hfs : ∀ i, i < jNF ci → defaultValue (jTy ci i) = vp_V ((List.range (jNF ci)).map (fun i => jcv b0 ext (jval (jTy ci i) (jNew m ci (jNF ci)) (mN m) i))) i := by
    intro i hi
    rw [vp_V, List.getD_eq_getElem?_getD, List.getElem?_map, List.getElem?_range hi]
    show _ = jcv b0 ext (jval (jTy ci i) (jNew m ci (jNF ci)) (mN m) i)
    have hf := jty_nf ci (List.mem_range.mpr hci) i (List.mem_range.mpr hi)
    generalize jTy ci i = ty at hf ⊢
    cases ty <;> simp [jval, jnI, jnL, jnR, defaultValue, jcv, va_rf] at hf ⊢
  refine va_new hx hb hts (jhin hci) (jTy ci) (jty_ok hci) hown (hts _ (g_mem hw rfl)) (hts _ (g_mem (k_inst ci (List.mem_range.mpr hci)) rfl)) (hts _ (g_mem (k_ini ci (List.mem_range.mpr (by omega))) rfl)) hK hP hD hS (fun q hq => by rw [hz] at hq; show b0 ≤ q; omega) (jvw hci) hfs (by omega) (by omega) hd (fun q H1 hP1 hD1 hS1 => ?_)
  refine W_sz (fun hsz => ?_)
  have hq2 := jq_new hP1 hD1 (by rw [hz] at hsz; omega)
  subst hq2
  have e1 : jws b0 ext cA (jNew m ci (jNF ci)) = jws b0 ext cA m ++ [(b0 + mN m, .inr (ci, (List.range (jNF ci)).map (fun i => jcv b0 ext (jval (jTy ci i) (jNew m ci (jNF ci)) (mN m) i))))] := by
    rw [jws_new, jcell_o (by rw [jns]) hci]
  rw [← e1] at hP1 hD1
  have := h H1 locs ls hl ⟨hP1, hD1, hS1, jok_new hok (Or.inl hci) (by omega)⟩ (by show n0 ≤ mN m + 1; omega) (by show z0 ≤ mZ m + jNF ci; omega)
  rw [show mN (jNew m ci (jNF ci)) - n0 = mN m - n0 + 1 by show mN m + 1 - n0 = _; omega, show mZ (jNew m ci (jNF ci)) - z0 = mZ m - z0 + jNF ci by show mZ m + jNF ci - z0 = _; omega] at this
  rw [← jad_lt (b0 := b0) (ext := ext) (show mN m < jScr by omega)]
  exact this
theorem jtys_eq {q t0 : Nat} {ty : FieldType} {cA' : ClassId} (hK : va_K D vwCl (jtys cA) s) (ht : (jtys cA)[t0]? = some (cA q, ty)) (hK2 : va_K D vwCl (jtys cA ++ [(cA', ty)]) s) : cA' = cA q := by
  have h1 := (hK.2 t0 _ ht).2
  have h2 := (hK2.2 7 (cA', ty) rfl).2
  cases ty with
  | object C2 =>
    obtain ⟨_, _, _, _, _, e1⟩ := h1
    obtain ⟨_, _, _, _, _, e2⟩ := h2
    exact Option.some.inj (e2.symm.trans e1)
  | _ => exact Option.some.inj (Eq.trans (Eq.symm h2) h1)
theorem s_newarray {t : ArrayType} (hR1 : N1 - n0 ≤ R.cells) (hR2 : Z1 - z0 ≤ R.slots) (hN1 : N1 ≤ jScr) (hC : jCtx p l e R s mm args meth c D b0 ext cA sl sx d j n0) (hd : decode (jB j) pc = .ok (.newarray t, 2)) (h : jSem C (jGo p l e R s mm args below meth c Qf D b0 ext cA sl sx n0 z0 N1 Z1) Qr (jEf j pc (.newarray t) L st m)) : (jGo p l e R s mm args below meth c Qf D b0 ext cA sl sx n0 z0 N1 Z1 pc L st m) := by
  obtain ⟨n, r, e0, h⟩ := jS_1i h
  subst e0
  obtain ⟨kd, hk, h⟩ := jS_op h
  obtain ⟨hg, h⟩ := jSem_G.mp h
  obtain ⟨hx, hb, hml, hr, hown, hts, hK, hz, hnm, hlk, hE, -⟩ := id hC
  have h : (jGo p l e R s mm args below meth c Qf D b0 ext cA sl sx n0 z0 N1 Z1 (pc + 2) L (.ref (mN m) :: r) (jNew m kd (jx n))) := h
  obtain ⟨⟨hc1, hc2⟩, h⟩ := h
  have hc1 : mN m + 1 ≤ N1 := hc1
  have hc2 : mZ m + jx n ≤ Z1 := hc2
  refine ⟨⟨by omega, by omega⟩, fun H locs ls hl hs h1 h2 => ?_⟩
  obtain ⟨hP, hD, hS, hok⟩ := id hs
  have hA : ∀ q, s.heap.size ≤ q → (fun q => b0 ≤ q) q := fun q hq => by rw [hz] at hq; show b0 ≤ q; omega
  have hnx : jx n ≤ 100000 := by unfold jx; omega
  have fin : ∀ (q : Nat) (H1 : Heap) (x : va_E), (20 ≤ kd ∧ kd ≤ 26) → va_P D vwCl (jws b0 ext cA m ++ [(q, x)]) H1 → va_D (fun q => b0 ≤ q) (jws b0 ext cA m ++ [(q, x)]) → va_S (fun q => b0 ≤ q) s.heap H1 locs → jcell b0 ext cA (jNew m kd (jx n)) (mN m) = x →
      W p l e R s mm args below meth c H1 locs (mN m - n0 + 1) (mZ m - z0 + jx n) Qf (F0 mm (pc + 2) ls (.ref q :: r.map (jcv b0 ext))) := by
    intro q H1 x hkd hP1 hD1 hS1 hc
    refine W_sz (fun hsz => ?_)
    have hq2 := jq_new hP1 hD1 (by rw [hz] at hsz; omega)
    subst hq2
    rw [← hc, ← jws_new] at hP1 hD1
    have := h H1 locs ls hl ⟨hP1, hD1, hS1, jok_new hok (Or.inr hkd) (by omega)⟩ (by show n0 ≤ mN m + 1; omega) (by show z0 ≤ mZ m + jx n; omega)
    rw [show mN (jNew m kd (jx n)) - n0 = mN m - n0 + 1 by show mN m + 1 - n0 = _; omega, show mZ (jNew m kd (jx n)) - z0 = mZ m - z0 + jx n by show mZ m + jx n - z0 = _; omega] at this
    rw [← jad_lt (b0 := b0) (ext := ext) (show mN m < jScr by omega)]
    exact this
  have hwd : ∀ {i : Nat} {w : Cond}, lw_tbl[i]? = some w → goodWord w = true → w.before args s = true := fun h1 h2 => hts _ (g_mem h1 h2)
  cases t with
  | int =>
    cases hk
    refine va_newa hx hb (atype := .int) (ty := .int) (a0 := (jx n, .inl (fun _ => 0))) (hwd k_aI rfl) rfl hK hP hD hS hA (fun cA => rfl) (jnn hg.1) rfl (Nat.le_trans (Nat.mul_le_mul_right _ hnx) (by decide)) (by omega) (by show mZ m - z0 + jx n ≤ _; omega) hd (fun q cA2 H1 hK2 hP1 hD1 hS1 => ?_)
    rw [jtys_eq (q := 20) (t0 := 0) hK rfl hK2] at hP1 hD1
    exact fin q H1 _ ⟨by omega, by omega⟩ hP1 hD1 hS1 (by rw [jcell_i (q := 20) (by rw [jns]) (by omega), jns, jnI])
  | long =>
    cases hk
    refine va_newa hx hb (atype := .long) (ty := .long) (a0 := (jx n, .inr (.inl (fun _ => 0)))) (hwd k_aL rfl) rfl hK hP hD hS hA (fun cA => rfl) (jnn hg.1) rfl (Nat.le_trans (Nat.mul_le_mul_right _ hnx) (by decide)) (by omega) (by show mZ m - z0 + jx n ≤ _; omega) hd (fun q cA2 H1 hK2 hP1 hD1 hS1 => ?_)
    rw [jtys_eq (q := 21) (t0 := 1) hK rfl hK2] at hP1 hD1
    exact fin q H1 _ ⟨by omega, by omega⟩ hP1 hD1 hS1 (by rw [jcell_l (by rw [jns]), jns, jnL])
  | byte =>
    cases hk
    refine va_newa hx hb (atype := .byte) (ty := .byte) (a0 := (jx n, .inl (fun _ => 0))) (hwd k_aB rfl) rfl hK hP hD hS hA (fun cA => rfl) (jnn hg.1) rfl (Nat.le_trans (Nat.mul_le_mul_right _ hnx) (by decide)) (by omega) (by show mZ m - z0 + jx n ≤ _; omega) hd (fun q cA2 H1 hK2 hP1 hD1 hS1 => ?_)
    rw [jtys_eq (q := 22) (t0 := 2) hK rfl hK2] at hP1 hD1
    exact fin q H1 _ ⟨by omega, by omega⟩ hP1 hD1 hS1 (by rw [jcell_i (q := 22) (by rw [jns]) (by omega), jns, jnI])
  | boolean =>
    cases hk
    refine va_newa hx hb (atype := .boolean) (ty := .boolean) (a0 := (jx n, .inl (fun _ => 0))) (hwd k_aZ rfl) rfl hK hP hD hS hA (fun cA => rfl) (jnn hg.1) rfl (Nat.le_trans (Nat.mul_le_mul_right _ hnx) (by decide)) (by omega) (by show mZ m - z0 + jx n ≤ _; omega) hd (fun q cA2 H1 hK2 hP1 hD1 hS1 => ?_)
    rw [jtys_eq (q := 23) (t0 := 3) hK rfl hK2] at hP1 hD1
    exact fin q H1 _ ⟨by omega, by omega⟩ hP1 hD1 hS1 (by rw [jcell_i (q := 23) (by rw [jns]) (by omega), jns, jnI])
  | _ => cases hk
theorem k_an2 : ∀ q ∈ jAn, (q.2.2.1 = 24 ∧ q.2.2.2.1 = 3) ∨ (q.2.2.1 = 25 ∧ q.2.2.2.1 = 2) ∨ (q.2.2.1 = 26 ∧ q.2.2.2.1 = 10) := by decide +kernel
theorem s_anewarray {idx : Nat} (hR1 : N1 - n0 ≤ R.cells) (hR2 : Z1 - z0 ≤ R.slots) (hN1 : N1 ≤ jScr) (hC : jCtx p l e R s mm args meth c D b0 ext cA sl sx d j n0) (hd : decode (jB j) pc = .ok (.anewarray idx, 3)) (h : jSem C (jGo p l e R s mm args below meth c Qf D b0 ext cA sl sx n0 z0 N1 Z1) Qr (jEf j pc (.anewarray idx) L st m)) : (jGo p l e R s mm args below meth c Qf D b0 ext cA sl sx n0 z0 N1 Z1 pc L st m) := by
  obtain ⟨n, r, e0, h⟩ := jS_1i h
  subst e0
  obtain ⟨q0, hq, h⟩ := jS_op h
  obtain ⟨hg, h⟩ := jSem_G.mp h
  obtain ⟨kd, ci, p1, p2⟩ := q0
  obtain ⟨hw, hw2, hci⟩ := k_an _ (jfind2_mem hq)
  have h3 := k_an2 _ (jfind2_mem hq)
  obtain ⟨hx, hb, hml, hr, hown, hts, hK, hz, hnm, hlk, hE, -⟩ := id hC
  have h : (jGo p l e R s mm args below meth c Qf D b0 ext cA sl sx n0 z0 N1 Z1 (pc + 3) L (.ref (mN m) :: r) (jNew m kd (jx n))) := h
  obtain ⟨⟨hc1, hc2⟩, h⟩ := h
  have hc1 : mN m + 1 ≤ N1 := hc1
  have hc2 : mZ m + jx n ≤ Z1 := hc2
  refine ⟨⟨by omega, by omega⟩, fun H locs ls hl hs h1 h2 => ?_⟩
  obtain ⟨hP, hD, hS, hok⟩ := id hs
  dsimp only at hw hw2 hci h3
  have hA : ∀ q, s.heap.size ≤ q → (fun q => b0 ≤ q) q := fun q hq => by rw [hz] at hq; show b0 ≤ q; omega
  have hnx : jx n ≤ 100000 := by unfold jx; omega
  have hao : va_AO (jRN ci) s := hE.2.2.2.2.2.1 _ (jfind2_mem hq)
  refine va_newq hx hb hown (hts _ (g_mem hw rfl)) hao hK hP hD hS hA (jnn hg.1) rfl (by rw [jx_clamp]; omega) (by omega) (by rw [jx_clamp]; omega) hd (fun q cA2 H1 hK2 hP1 hD1 hS1 => ?_)
  have hkd : 24 ≤ kd ∧ kd ≤ 26 := by omega
  have hcA : cA2 = cA kd := by
    rcases h3 with ⟨rfl, rfl⟩ | ⟨rfl, rfl⟩ | ⟨rfl, rfl⟩
    · exact jtys_eq (t0 := 4) hK rfl hK2
    · exact jtys_eq (t0 := 5) hK rfl hK2
    · exact jtys_eq (t0 := 6) hK rfl hK2
  subst hcA
  refine W_sz (fun hsz => ?_)
  have hq2 := jq_new hP1 hD1 (by rw [hz] at hsz; omega)
  subst hq2
  have e1 : jws b0 ext cA (jNew m kd (jx n)) = jws b0 ext cA m ++ [(b0 + mN m, .inl (cA kd, (jx n, .inr (.inr (.inr (.inr (fun _ => none)))))))] := by
    rw [jws_new, jcell_r (q := kd) (by rw [jns]) hkd.1, jns, jnR]; rfl
  rw [jx_clamp] at hP1 hD1 ⊢
  rw [← e1] at hP1 hD1
  have := h H1 locs ls hl ⟨hP1, hD1, hS1, jok_new hok (Or.inr ⟨by omega, by omega⟩) (by omega)⟩ (by show n0 ≤ mN m + 1; omega) (by show z0 ≤ mZ m + jx n; omega)
  rw [show mN (jNew m kd (jx n)) - n0 = mN m - n0 + 1 by show mN m + 1 - n0 = _; omega, show mZ (jNew m kd (jx n)) - z0 = mZ m - z0 + jx n by show mZ m + jx n - z0 = _; omega] at this
  rw [← jad_lt (b0 := b0) (ext := ext) (show mN m < jScr by omega)]
  exact this
end JSN
