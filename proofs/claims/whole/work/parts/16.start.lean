/-! THE CLAIM OUT OF ONE WALK OF THE LAW'S BODY. Your part is whole_start (and what it stands on); all else here is the same for every law, but numbers. -/
def R_law : String := "PulledCrystalLaw"
def lw_P (b : Addr) (xs : List Int32) (args : Array Value) (s : State) : Prop := args = #[.ref b] ∧ s.IntsAt b xs ∧ xs.length ≤ 5120 ∧ (Jvm.Cond.and given_1 narrow_1).before args s = true
def lw_Q (_ : Array Value) (s : State) (o : Outcome) (t : State) : Prop := o = .returned (some (.int 1)) ∧ Framed s o t [] 600000 7302250
def lw_Z (below : List Frame) (a : Array Value) (s : State) : State → Prop := fun t => ∃ o, t.status = .running ∧ Ended t below o ∧ lw_Q a s o t
/-- the law's own end, with 1 on the stack, nothing written that was there before, its room as the claim has it -/
theorem lw_ret {p : Program} {l : Launch} {e : Env} {s : State} {m : MethodId} {below : List Frame} {meth : Method} {c : Code} {b : Nat} (hx : p.tables.exec = Jvm.exec) (hb : c.code = code) (hr : meth.sig.returnType = ret) (hlocks : meth.locks = false) {pc : Nat} {H : Heap} {ls : Array Slot} (hdg : decode code pc = .ok (.ireturn, 1)) : W p l e room_1 s m #[Value.ref b] below meth c H [] 600000 7302250 (lw_Z below #[Value.ref b] s) (F0 m pc ls [.int 1]) := by
  intro T hT X
  obtain ⟨fs, hret, hrun, hended, hW, hframe⟩ := X.leave (v := some (.int 1)) (hlocks := hlocks) (fun h => by rw [hr] at h; cases h)
  have hmeth' : T.vm.method? m = some meth := X.method'
  refine ⟨T.setFrames fs, ?_, .returned (some (.int 1)), hrun, hended, rfl, ⟨_, rfl⟩, hW, hframe⟩
  jvm_step X.here [X.here.top, hx, hb, hdg, hmeth', hr, ret, narrow_b1]
  (try refine ⟨rfl, ?_⟩); (try refine ⟨rfl, ?_⟩)
  first | (intro acts; rw [hret _ acts rfl rfl rfl]) | rw [hret _ _ rfl rfl rfl]
  exact Steps.refl _
/-- what holds at the law's entry: the machine, the code, the tables' words (any of lw_tbl by 'hts w (by decide +kernel)'), the script of L ints xs at the cell b, what the Statement gives of the start (any of its parts by flat_of_before) -/
def lw_At (p : Program) (s : State) (m : MethodId) (meth : Method) (c : Code) (b L : Nat) (xs : Nat → Int32) : Prop :=
  p.tables.exec = Jvm.exec ∧ c.code = code ∧ meth.sig.returnType = ret ∧ c.maxLocals = 4 ∧ s.vm.findClass R_law = some m.cls ∧ (∀ w ∈ lw_tbl, w.before #[Value.ref b] s = true) ∧ va_X b L xs s s.heap ∧ b < s.heap.size ∧ meth.locks = false ∧ (Jvm.Cond.and given_1 narrow_1).before #[Value.ref b] s = true
/-! ===== THE LAW'S START over the abstract machine ===== -/
theorem js_ls : ∀ q ∈ jLs, jRN q.1 = "PulledCrystal$Reader" ∧ q.2.1 = js0.getD q.2.2.1 0 ∧ q.2.2.1 < 16 := by decide +kernel
theorem js_lay1 : lw_tbl[569]? = some (.laysStatic "java/lang/String" "COMPACT_STRINGS" "Z") := by decide +kernel
theorem js_lay2 : lw_tbl[585]? = some (.laysStatic "jdk/internal/util/Preconditions" "SIOOBE_FORMATTER" "Ljava/util/function/BiFunction;") := by decide +kernel
theorem js_in1 : lw_tbl[109]? = some (.initialized "java/lang/String") := by decide +kernel
theorem js_in2 : lw_tbl[111]? = some (.initialized "jdk/internal/util/Preconditions") := by decide +kernel
theorem js_nest : ∀ q ∈ jSt, (q.2.2.1 = 4 ∨ q.2.2.1 = 5) → lw_tbl[q.2.2.2.2.2.1]? = some (.methodLinkNest (jRN q.1) q.2.1 (jY q.2.2.2.1) RX11) := by
  intro q hq hk
  have h := k_st q hq
  obtain ⟨ow, idx, kd, j, n, p1, p2, p3⟩ := q
  dsimp only at hk ⊢
  rcases hk with rfl | rfl
  · simp only [jStOk, Bool.and_eq_true, beq_iff_eq] at h
    exact h.1.1.1
  · simp only [jStOk, Bool.and_eq_true, beq_iff_eq] at h
    exact h.1.1.1.1.1
theorem js_o24 : lw_tbl[212]? = some (.arrayOver (.object RX3)) := by decide +kernel
theorem js_o25 : lw_tbl[335]? = some (.arrayOver (.object RX2)) := by decide +kernel
theorem js_o26 : lw_tbl[337]? = some (.arrayOver (.object RX10)) := by decide +kernel
/-- nothing made yet; the script -/
def jm0 (L : Nat) (xs : Nat → Int32) : jmM := (fun a => if a = jScr then xs else fun _ => 0, fun _ _ => 0, fun _ _ => none, fun a => if a = jScr then (99, L) else (99, 0), 0, 0)
theorem jK0 {s : State} {args : Array Value} (hts : ∀ w ∈ lw_tbl, w.before args s = true) : ∃ (D : va_G) (cA : Nat → ClassId), va_K D vwCl (jtys cA) s := by
  have hC : ∀ k : Nat, ∃ q : ClassId × (Nat → Nat), k < 13 → u_Kn s (jRN k) (jT k) (jNF k) q.1 q.2 := by
    intro k
    by_cases hk : k < 13
    · obtain ⟨cC, iS, h⟩ := u_known (C := jRN k) (T := jT k) (N := jNF k) (n := jNF k) (ws := lw_g) (fun w hw => hts w (List.mem_filter.mp hw).1) (jhin hk) (hts _ (List.mem_of_getElem? (k_inst k (List.mem_range.mpr hk))))
      exact ⟨(cC, iS), fun _ => h⟩
    · exact ⟨(0, fun _ => 0), fun h => absurd h hk⟩
  obtain ⟨f, hf⟩ := Classical.axiomOfChoice hC
  have prim : ∀ {ty : FieldType} {i : Nat}, lw_tbl[i]? = some (.arrayClass ty) → (∀ C, ty ≠ .object C) → ∃ c, ArrOfT s c ty ∧ va_RA s c ty := by
    intro ty i hi hn
    obtain ⟨c, k, comp, h1, h2, h3⟩ := Cond.arrayClass_spec (hts _ (List.mem_of_getElem? hi))
    refine ⟨c, fun n z => ⟨(fun k h => by cases h), k, h2, comp, h3⟩, ?_⟩
    cases ty with
    | object C => exact absurd rfl (hn C)
    | _ => exact h1
  have obj : ∀ {C : String} {i : Nat}, lw_tbl[i]? = some (.arrayOver (.object C)) → ∃ c, ArrOfT s c (.object C) ∧ va_RA s c (.object C) := by
    intro C i hi
    obtain ⟨comp, c, k, h1, h2, h3, h4, h5⟩ := Cond.arrayOver_spec (hts _ (List.mem_of_getElem? hi))
    exact ⟨c, fun n z => ⟨(fun k h => by cases h), k, h3, comp, h4⟩, k, comp, h3, h4, h1, h5⟩
  obtain ⟨c0, h0⟩ := prim k_aI (fun C h => by cases h)
  obtain ⟨c1, h1⟩ := prim k_aL (fun C h => by cases h)
  obtain ⟨c2, h2⟩ := prim k_aB (fun C h => by cases h)
  obtain ⟨c3, h3⟩ := prim k_aZ (fun C h => by cases h)
  obtain ⟨c4, h4⟩ := obj js_o24
  obtain ⟨c5, h5⟩ := obj js_o25
  obtain ⟨c6, h6⟩ := obj js_o26
  refine ⟨(fun k => (f k).1, fun k => (f k).2), fun k => if k = 20 then c0 else if k = 21 then c1 else if k = 22 then c2 else if k = 23 then c3 else if k = 24 then c4 else if k = 25 then c5 else c6, fun k q hq => ?_, fun k q hq => ?_⟩
  · have hk : k < 13 := (List.getElem?_eq_some_iff.mp hq).1
    rw [jvw hk] at hq
    cases hq
    exact hf k hk
  · match k, hq with
    | 0, hq => cases hq; exact h0
    | 1, hq => cases hq; exact h1
    | 2, hq => cases hq; exact h2
    | 3, hq => cases hq; exact h3
    | 4, hq => cases hq; exact h4
    | 5, hq => cases hq; exact h5
    | 6, hq => cases hq; exact h6
    | k + 7, hq => simp [jtys] at hq
theorem jExt0 {s : State} {b L : Nat} {xs : Nat → Int32} (hts : ∀ w ∈ lw_tbl, w.before #[Value.ref b] s = true) (hX : va_X b L xs s s.heap) (hbl : b < s.heap.size) (hgv : (Jvm.Cond.and given_1 narrow_1).before #[Value.ref b] s = true) : ∃ ext : Nat → Nat, ext jScr = b ∧ jExt s.heap.size ext L xs s := by
  have hs : ∀ w ∈ jFl1, w.before #[Value.ref b] s = true := flat_of_before _ hgv
  have hA : ∀ a : Nat, a < s.heap.size → ¬ (fun q : Nat => s.heap.size ≤ q) a := fun a h => Nat.not_le.mpr h
  have hr : ∀ {i : Nat}, i < 16 → i ∈ List.range 16 := fun h => List.mem_range.mpr h
  obtain ⟨adK, adV, hV, hev⟩ := vk_Sof (args := #[Value.ref b]) (s := s) (N := 16) (tm := jtm) (len := jCh.map List.length) (byt := jCh) (A := fun q : Nat => s.heap.size ≤ q)
    (fun i hi => by have := (jk_num i (hr hi)); rw [this.1]; omega) (fun i hi => hs _ (js_ex i (hr hi))) (fun i hi => hs _ (js_co i (hr hi))) (fun i hi => hs _ (js_ar i (hr hi))) (fun i hi => hs _ (js_le i (hr hi)))
    (fun i hi j hj => hs _ (js_el i (hr hi) j (List.mem_range.mpr hj))) (fun i j hi hj hn => (js_ne i (hr hi) j (hr hj) hn).elim (fun h => Or.inl (hs _ h)) (fun h => Or.inr (hs _ h))) hA
  have hext : ∀ i, (fun k => if k = jScr then b else adK (k - jScr - 1)) (jScr + 1 + i) = adK i := by
    intro i
    show (if jScr + 1 + i = jScr then b else adK (jScr + 1 + i - jScr - 1)) = adK i
    rw [if_neg (by omega)]
    exact congrArg adK (by omega)
  refine ⟨fun k => if k = jScr then b else adK (k - jScr - 1), if_pos rfl, ?_, ?_, ?_, ⟨adV, ?_⟩, ?_, ?_, ?_, ?_⟩
  · show va_X (if jScr = jScr then b else adK (jScr - jScr - 1)) L xs s s.heap
    rw [if_pos rfl]; exact hX
  · intro k h1 h2
    by_cases hk : k = jScr
    · show (if k = jScr then b else adK (k - jScr - 1)) < _
      rw [if_pos hk]; exact hbl
    · show (if k = jScr then b else adK (k - jScr - 1)) < _
      rw [if_neg hk]
      obtain ⟨cell, h3, -⟩ := (hV.1 (k - jScr - 1) (by omega)).1
      exact (Array.getElem?_eq_some_iff.mp h3).1
  · intro q hq
    obtain ⟨e1, e2, e3⟩ := js_ls q hq
    have h1 := hts _ (List.mem_of_getElem? (k_ls q hq).1)
    have h2 := hev q.2.2.1 e3
    show vk_R (jRN q.1) q.2.1 _ ((fun k => if k = jScr then b else adK (k - jScr - 1)) (jScr + 1 + q.2.2.1)) s
    rw [hext]
    refine vk_R.of h1 ?_
    rw [e1, e2]
    exact h2
  · have e : (fun i => (fun k => if k = jScr then b else adK (k - jScr - 1)) (jScr + 1 + i)) = adK := funext hext
    show vk_S 16 _ jCh (fun i => (fun k => if k = jScr then b else adK (k - jScr - 1)) (jScr + 1 + i)) adV _ s s.heap
    rw [e]
    exact hV
  · exact va_Zof (hts _ (List.mem_of_getElem? js_lay1)) (hts _ (List.mem_of_getElem? js_in1)) (va_eqt (hs _ js_cs)) hA
  · intro q hq
    exact va_AO.of (hts _ (List.mem_of_getElem? (k_an q hq).2.1))
  · exact va_Zqof (hts _ (List.mem_of_getElem? js_lay2)) (hts _ (List.mem_of_getElem? js_in2)) (hs _ js_si) hA
  · intro q hq hk
    exact va_Nw.of rfl (hts _ (List.mem_of_getElem? (js_nest q hq hk)))
/-- the law, walked by the abstract machine, gives the law's walk -/
theorem jlaw {p : Program} {e : Env} {s : State} {m : MethodId} {below : List Frame} {meth : Method} {c : Code} (l : Launch) {b L : Nat} {xs : Nat → Int32} {d : Nat} {m1 : jmM} (hd : d ≤ 1000) (hN : mN m1 ≤ 600000) (hZ : mZ m1 ≤ 7302250) (C0 : lw_At p s m meth c b L xs)
    (h : AW d 289 0 (jent [.ref jScr] 4) [] (jm0 L xs) (fun v m2 => v = some (.int 1) ∧ m2 = m1)) : W p l e room_1 s m #[Value.ref b] below meth c s.heap [] 0 0 (lw_Z below #[Value.ref b] s) (entryFrame m ([Value.ref b] : List Value).toArray 4) := by
  obtain ⟨hx, hb, hr, hml, hown, hts, hX, hbl, hlocks, hgv⟩ := id C0
  obtain ⟨D, cA, hK⟩ := jK0 hts
  obtain ⟨ext, hext, hE⟩ := jExt0 hts hX hbl hgv
  have hC : jCtx p l e room_1 s m #[Value.ref b] meth c D s.heap.size ext cA L xs d 289 0 :=
    ⟨hx, hb, hml, hr, hown, fun w hw => hts w (List.mem_filter.mp hw).1, hK, rfl, (fun h => absurd h (by decide)), hlocks, hE, by show d + 9 ≤ 2048; omega, by show 64 * d + 576 ≤ 84000; omega, by decide⟩
  obtain ⟨k, hk⟩ := h
  have hgo := jsoundK (below := below) (Qf := lw_Z below #[Value.ref b] s) (n0 := 0) (z0 := 0) (N1 := 600000) (Z1 := 7302250) (jowes l D s.heap.size ext cA L xs d) (Nat.le_refl _) (Nat.le_refl _) (by decide) hC
    (fun i n pc L2 st m3 hd2 hn hi h => by
      rcases hi with rfl | rfl | rfl | rfl
      · obtain rfl := jn1 hn
        obtain ⟨x, rfl, h⟩ := jS_ri h
        obtain ⟨hg, h⟩ := jSem_G.mp h
        obtain ⟨hv, hm⟩ := h
        have hx1 : x = 1 := by cases hv; rfl
        subst hx1 hm
        refine ⟨⟨hN, hZ⟩, fun H locs ls hl hs h1 h2 => ?_⟩
        refine va_forget (fun q hq => hs.2.2.1.2.2 q hq) ?_
        refine W.widen (k := 600000) (n := 7302250) (by omega) (by omega) ?_
        exact lw_ret hx hb hr hlocks hd2
      · obtain rfl := jn1 hn
        obtain ⟨x, rfl, h⟩ := jS_rl h
        exact (show False from h).elim
      · obtain rfl := jn1 hn
        have h : jSem (CC d) _ (fun v m2 => v = some (.int 1) ∧ m2 = m1) (krq st fun v => jG (jIsObj (jRt 289) = true) inferInstance (jRet (some v) m3)) := h
        obtain ⟨v, rfl, hv0, h⟩ := jS_rq h
        obtain ⟨hg, h⟩ := jSem_G.mp h
        exact absurd hg (by decide)
      · obtain rfl := jn1 hn
        obtain ⟨rfl, h⟩ := jS_r0 h
        exact (show False from h).elim) k _ _ _ _ hk
  have hP0 : va_P D vwCl (jws s.heap.size ext cA (jm0 L xs)) s.heap := fun k q h => by simp [jws, jm0, mN] at h
  have hD0 : va_D (fun q => s.heap.size ≤ q) (jws s.heap.size ext cA (jm0 L xs)) := ⟨fun i j p q h => by simp [jws, jm0, mN] at h, fun k q h => by simp [jws, jm0, mN] at h⟩
  have hok : jOKm L xs (jm0 L xs) := by
    refine ⟨fun a ha => absurd ha (Nat.not_lt_zero a), fun a _ => ?_, Nat.zero_le _, ?_, ?_⟩
    · show (if a = jScr then (99, L) else (99, 0)).1 = 99
      split <;> rfl
    · show (if jScr = jScr then (99, L) else (99, 0)).2 = L
      rw [if_pos rfl]
    · show (if jScr = jScr then xs else fun _ => 0) = xs
      rw [if_pos rfl]
  have hlR : lvR s.heap.size ext c.maxLocals ((lg_sl ([.ref b]) ++ List.replicate (4 - (lg_sl ([.ref b])).length) Slot.unset).toArray) (jent [.ref jScr] 4) := by
    rw [hml]
    have := jent_R (b0 := s.heap.size) (ext := ext) (as := [.ref jScr]) (n := 4) (by decide)
    have e1 : ([.ref jScr] : List Value).map (jcv s.heap.size ext) = [.ref b] := by
      show [Value.ref (jad s.heap.size ext jScr)] = _
      rw [jad, if_neg (Nat.lt_irrefl _), hext]
    rw [e1] at this
    exact this
  have hgo := hgo.2 s.heap [] _ hlR ⟨hP0, hD0, va_S.rf, hok⟩ (Nat.zero_le _) (Nat.zero_le _)
  rw [lg_entry_eq]
  exact hgo
