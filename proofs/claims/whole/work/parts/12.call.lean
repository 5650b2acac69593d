/-! ===== SOUNDNESS, calls ===== -/
theorem k_len17 : ∀ q ∈ jSt, q.2.2.1 = 17 → q.2.2.2.2.1 = 0 := by decide +kernel
theorem k_len18 : ∀ q ∈ jSt, q.2.2.1 = 18 → q.2.2.2.2.1 = 1 := by decide +kernel
section JSC
variable {p : Program} {l : Launch} {e : Env} {R : Room} {s : State} {mm : MethodId} {args : Array Value} {below : List Frame} {meth : Method} {c : Code} {Qf : State → Prop} {D : va_G} {b0 : Nat} {ext : Nat → Nat} {cA : Nat → ClassId} {sl : Nat} {sx : Nat → Int32} {n0 z0 N1 Z1 d j : Nat}
variable {Qr : Option Value → jmM → Prop} {pc : Nat} {L : List (Option Value)} {st : List Value} {m : jmM}
theorem jblind {as : List Value} : FrameBlind (jPre D b0 ext cA sl sx m as) := by
  intro a U g mk h
  obtain ⟨e1, hP, hD, hok, hK, hz, hE⟩ := h
  refine ⟨e1, hP, hD, hok, va_K.moved (u := U) (U := U.calling g mk a) (Vm.Alike.refl U.vm) hK, hz, hE.to (U := U.calling g mk a) (by rw [hz]; omega) (State.WarmedH.refl U) (fun _ _ _ => rfl)⟩
theorem jws_good {tj : Nat} (hts : ∀ w ∈ lw_g, w.before args s = true) (ht : tj < 289) : ∀ w ∈ jwsd tj, ∀ (a' : Array Value) (U : State), s.WarmedH U.vm → w.before a' U = true := by
  intro w hw a' U hW
  have hc : (Cond.code (jY tj) (jB tj) (jMl tj) (jRt tj)) ∈ lw_g := g_mem (k_code tj ht) rfl
  have hw2 : w ∈ lw_g := by
    rcases List.mem_cons.mp hw with rfl | h
    · exact hc
    · exact h
  exact word_at hW (good_of_word (List.mem_filter.mp hw2).2) (hts _ hw2)
theorem jnp_sig {tj n : Nat} (ht : tj < 289) (hn : jNp tj = n) : ∀ sig, parseMethodDescriptor (jY tj).desc = some sig → n = sig.parameters.length := by
  intro sig h
  have := k_np tj ht
  rw [h] at this
  rw [← hn]
  exact (Option.some.inj this).symm
theorem jsize {H : Heap} {locs : List Loc} (hz : s.heap.size = b0 + n0) (h1 : n0 ≤ mN m) (hs : jSim D b0 ext cA sl sx m s.heap H locs) (hsz : H.size ≤ s.heap.size + (mN m - n0)) : H.size = b0 + mN m := by
  obtain ⟨hP, hD, hS, hok⟩ := hs
  have hS1 := hS.1
  rcases Nat.lt_or_ge n0 (mN m) with h | h
  · have := (hP _ _ (jws_at (b0 := b0) (ext := ext) (cA := cA) (m := m) (k := mN m - 1) (by omega))).lt
    have : b0 + (mN m - 1) < H.size := this
    omega
  · omega
theorem jpre {as : List Value} {H : Heap} {locs : List Loc} (hC : jCtx p l e R s mm args meth c D b0 ext cA sl sx d j n0) (hs : jSim D b0 ext cA sl sx m s.heap H locs) (hz2 : H.size = b0 + mN m) : ∀ U : State, U.heap = H → s.WarmedH U.vm → jPre D b0 ext cA sl sx m as (as.map (jcv b0 ext)).toArray U := by
  intro U hU hW
  obtain ⟨hx, hb, hml, hr, hown, hts, hK, hz, hnm, hlk, hE, -⟩ := id hC
  obtain ⟨hP, hD, hS, hok⟩ := hs
  refine ⟨rfl, by rw [hU]; exact hP, hD, hok, hK.moved hW.alike, by rw [hU]; exact hz2, hE.to (by rw [hz]; omega) hW (fun q h1 h2 => by rw [hU]; exact hS.2.1 q h1 h2)⟩
theorem jst_eq {n : Nat} {st : List Value} : st.map (jcv b0 ext) = (((st.take n).reverse).map (jcv b0 ext)).reverse ++ (st.drop n).map (jcv b0 ext) := by
  rw [List.map_reverse, List.reverse_reverse, ← List.map_append, List.take_append_drop]
/-- behind a call -/
theorem j_back {m1 : jmM} {v : Option Value} {a : Array Value} {H : Heap} {locs : List Loc} {cells slots mc ms : Nat} {ls : Array Slot} {st0 rest : List Value} (hr : va_Run p l e R s mm args below meth c H locs cells slots mc ms (F0 mm pc ls st0) rest (jPost D b0 ext cA sl sx m1 v a) (fun q => b0 ≤ q)) (hS : va_S (fun q => b0 ≤ q) s.heap H locs)
    (kk : ∀ (H1 : Heap) (locs1 : List Loc), jSim D b0 ext cA sl sx m1 s.heap H1 locs1 → W p l e R s mm args below meth c H1 locs1 (cells + mc) (slots + ms) Qf (F0 mm (pc + 3) ls ((v.map (jcv b0 ext)).toList ++ rest))) : W p l e R s mm args below meth c H locs cells slots Qf (F0 mm pc ls st0) := by
  intro T hT X
  obtain ⟨v0, st₀, t, T', LL, h0, X', hL, e1, e2, ⟨hv, hP, hD, hok, hz, hk⟩, hg⟩ := hr T hT X
  cases hv
  rw [h0] at hz hk
  obtain ⟨t2, a1, b1⟩ := kk T'.heap (locs ++ LL) ⟨by rw [e1]; exact hP, hD, ⟨Nat.le_trans hS.1 (by rw [e1]; exact hz), fun q h1 h2 => by rw [e1, hk q (Nat.lt_of_lt_of_le h1 hS.1) h2]; exact hS.2.1 q h1 h2, fun q hq => by
      rcases List.mem_append.mp hq with h | h
      · exact hS.2.2 q h
      · exact hL q h⟩, hok⟩ T' rfl X'
  exact ⟨t2, hg t2 a1, b1⟩
theorem j_goon {m1 : jmM} {v : Option Value} {r : List Value} {H1 : Heap} {locs1 : List Loc} {ls : Array Slot} (h : (jGo p l e R s mm args below meth c Qf D b0 ext cA sl sx n0 z0 N1 Z1 (pc + 3) L (jpush v r) m1)) (hl : lvR b0 ext c.maxLocals ls L) (h1 : n0 ≤ mN m) (h2 : z0 ≤ mZ m) (hm1 : mN m ≤ mN m1) (hm2 : mZ m ≤ mZ m1) (hs : jSim D b0 ext cA sl sx m1 s.heap H1 locs1) :
    W p l e R s mm args below meth c H1 locs1 (mN m - n0 + (mN m1 - mN m)) (mZ m - z0 + (mZ m1 - mZ m)) Qf (F0 mm (pc + 3) ls ((v.map (jcv b0 ext)).toList ++ r.map (jcv b0 ext))) := by
  have := h.2 H1 locs1 ls hl hs (by omega) (by omega)
  rw [show mN m1 - n0 = mN m - n0 + (mN m1 - mN m) by omega, show mZ m1 - z0 = mZ m - z0 + (mZ m1 - mZ m) by omega] at this
  cases v <;> exact this
set_option maxRecDepth 20000 in
/-- the parts that each call shares -/
theorem j_callB {m1 : jmM} {tj n : Nat} (hC : jCtx p l e R s mm args meth c D b0 ext cA sl sx d j n0) (ht : tj < 289) (hn : jNp tj = n) {idx : Nat} (hl : (Cond.methodLink (jRN (jO j)) idx (jY tj)).before args s = true) :
    CallB R s args (jRN (jO j)) idx (jY tj) (jB tj) (jMl tj) (jRt tj) (jwsd tj) (jroom d m m1) (mN m1 - mN m) (mZ m1 - mZ m) n := by
  obtain ⟨hx, hb, hml, hr, hown, hts, hK, hz, hnm, hlk, hE, hf1, hf2, hjo⟩ := id hC
  obtain ⟨g1, g2, g3, g4, g5, g6⟩ := k_jm tj ht
  refine ⟨rfl, rfl, by show d + 8 + 1 ≤ _; omega, by show 8 + (jMl tj + 11) + (64 * d + 512) ≤ _; omega, jws_good hts ht, List.mem_cons_self, hts _ (g_mem (k_code tj ht) rfl), ?_, ⟨g5, g6⟩, jnp_sig ht hn, hl⟩
  rw [g1]
  exact hts _ (g_mem (k_ini (jO tj) (List.mem_range.mpr (by omega))) rfl)
set_option maxRecDepth 20000 in
theorem j_callN {m1 : jmM} {tj n : Nat} (hC : jCtx p l e R s mm args meth c D b0 ext cA sl sx d j n0) (ht : tj < 289) (hn : jNp tj = n) {idx : Nat} {host : String} (hl : (Cond.methodLinkNest (jRN (jO j)) idx (jY tj) host).before args s = true) :
    va_CN R s args (jRN (jO j)) idx (jY tj) host (jB tj) (jMl tj) (jRt tj) (jwsd tj) (jroom d m m1) (mN m1 - mN m) (mZ m1 - mZ m) n := by
  obtain ⟨hx, hb, hml, hr, hown, hts, hK, hz, hnm, hlk, hE, hf1, hf2, hjo⟩ := id hC
  obtain ⟨g1, g2, g3, g4, g5, g6⟩ := k_jm tj ht
  refine ⟨⟨rfl, rfl, by show d + 8 + 1 ≤ _; omega, by show 8 + (jMl tj + 11) + (64 * d + 512) ≤ _; omega, jws_good hts ht, List.mem_cons_self⟩, hts _ (g_mem (k_code tj ht) rfl), ?_, ⟨g5, g6⟩, jnp_sig ht hn, hl⟩
  rw [g1]
  exact hts _ (g_mem (k_ini (jO tj) (List.mem_range.mpr (by omega))) rfl)
theorem jmath_hk {q : Nat × Nat × Nat × Nat × Nat × Nat × Nat × Nat} (h : q ∈ jSt) : jStOk q = true := k_st q h
theorem s_invokestatic {idx : Nat} (hO : jOwes l D b0 ext cA sl sx d) (hR1 : N1 - n0 ≤ R.cells) (hR2 : Z1 - z0 ≤ R.slots) (hN1 : N1 ≤ jScr) (hC : jCtx p l e R s mm args meth c D b0 ext cA sl sx d j n0) (hd : decode (jB j) pc = .ok (.invokestatic idx, 3)) (h : jSem (CC d) (jGo p l e R s mm args below meth c Qf D b0 ext cA sl sx n0 z0 N1 Z1) Qr (jEf j pc (.invokestatic idx) L st m)) : (jGo p l e R s mm args below meth c Qf D b0 ext cA sl sx n0 z0 N1 Z1 pc L st m) := by
  obtain ⟨q0, hq, h⟩ := jS_op h
  obtain ⟨kd, tj, n, p1, p2, p3⟩ := q0
  have hok0 := k_st _ (jfind2_mem hq)
  obtain ⟨hx, hb, hml, hr, hown, hts, hK, hz, hnm, hlk, hE, hf1, hf2, hjo⟩ := id hC
  have wd : ∀ {i : Nat} {w : Cond}, lw_tbl[i]? = some w → goodWord w = true → w.before args s = true := fun a b => hts _ (g_mem a b)
  have h : jSem (CC d) (jGo p l e R s mm args below meth c Qf D b0 ext cA sl sx n0 z0 N1 Z1) Qr (jSite j idx pc kd tj n false L st m) := h
  have hst : ∀ (hg : n ≤ st.length ∧ (st.drop n).length ≤ 4) (h : jSem (CC d) (jGo p l e R s mm args below meth c Qf D b0 ext cA sl sx n0 z0 N1 Z1) Qr (jCl tj (st.take n).reverse (pc + 3) L (st.drop n) m)) (ht : tj < 289) (hn : jNp tj = n)
      (run : ∀ (m1 : jmM) (v : Option Value) (H : Heap) (locs : List Loc) (ls : Array Slot), ls.size = jMl j → Met l (jY tj) (jwsd tj) (jroom d m m1) (jPre D b0 ext cA sl sx m (st.take n).reverse) (jPost D b0 ext cA sl sx m1 v) (mN m1 - mN m) (mZ m1 - mZ m) (fun q => b0 ≤ q) → (∀ U : State, U.heap = H → s.WarmedH U.vm → jPre D b0 ext cA sl sx m (st.take n).reverse ((st.take n).reverse.map (jcv b0 ext)).toArray U) → (mN m - n0 + (mN m1 - mN m) ≤ R.cells ∧ mZ m - z0 + (mZ m1 - mZ m) ≤ R.slots) →
        va_Run p l e R s mm args below meth c H locs (mN m - n0) (mZ m - z0) (mN m1 - mN m) (mZ m1 - mZ m) (F0 mm pc ls (st.map (jcv b0 ext))) ((st.drop n).map (jcv b0 ext)) (jPost D b0 ext cA sl sx m1 v ((st.take n).reverse.map (jcv b0 ext)).toArray) (fun q => b0 ≤ q)), (jGo p l e R s mm args below meth c Qf D b0 ext cA sl sx n0 z0 N1 Z1 pc L st m) := by
    intro hg h ht hn run
    obtain ⟨v, m1, hk, hc⟩ := CC_det d _ _ _ _ h
    obtain ⟨hm1, hm2, hM⟩ := hO tj _ m v m1 hc ht
    have hk : (jGo p l e R s mm args below meth c Qf D b0 ext cA sl sx n0 z0 N1 Z1 (pc + 3) L (jpush v (st.drop n)) m1) := hk
    have hM := hM (Nat.le_trans hk.1.1 hN1)
    refine ⟨⟨Nat.le_trans hm1 hk.1.1, Nat.le_trans hm2 hk.1.2⟩, fun H locs ls hl hs h1 h2 => ?_⟩
    refine W_sz (fun hsz => ?_)
    have hcs : mN m - n0 + (mN m1 - mN m) ≤ R.cells ∧ mZ m - z0 + (mZ m1 - mZ m) ≤ R.slots := by
      have := hk.1.1; have := hk.1.2; omega
    exact j_back (run m1 v H locs ls (by rw [hl.1, hml]) hM (jpre hC hs (jsize hz h1 hs hsz)) hcs) hs.2.2.1 (fun H1 locs1 hs1 => j_goon hk hl h1 h2 hm1 hm2 hs1)
  have hlen : ∀ {n : Nat}, n ≤ st.length → ((st.take n).reverse.map (jcv b0 ext)).length = n := fun h => by simp; omega
  have h8 : ∀ {r : List Value}, r.length ≤ 4 → ((r.map (jcv b0 ext)).map fun v => v.category).sum ≤ 8 := jr8
  match kd, hok0, h, hq with
  | 0, hok0, h, hq =>
    obtain ⟨hg, h⟩ := jSem_G.mp h
    simp only [jStOk, Bool.and_eq_true, decide_eq_true_eq, beq_iff_eq] at hok0
    obtain ⟨⟨⟨w1, w2⟩, hn⟩, ht⟩ := hok0
    exact hst hg.2 h ht hn (fun m1 v H locs ls hsz hM hp hf => va_runS ⟨hx, hb, hml, hown, hts⟩ hM ⟨j_callB hC ht hn (wd w1 rfl), wd w2 rfl⟩ ⟨jblind, hp⟩ rfl (hlen hg.2.1) hsz jst_eq (by show 2 * 0 + _ ≤ _; have := h8 hg.2.2; omega) hd hf)
  | 4, hok0, h, hq =>
    obtain ⟨hg, h⟩ := jSem_G.mp h
    simp only [jStOk, Bool.and_eq_true, decide_eq_true_eq, beq_iff_eq] at hok0
    obtain ⟨⟨⟨w1, w2⟩, hn⟩, ht⟩ := hok0
    have hN : va_Nw (.methodLinkNest (jRN (jO j)) idx (jY tj) RX11) s := hE.2.2.2.2.2.2.2 (jO j, idx, 4, tj, n, p1, p2, p3) (jfind2_mem hq) (Or.inl rfl)
    exact hst hg.2 h ht hn (fun m1 v H locs ls hsz hM hp hf => va_runSN ⟨hx, hb, hml, hown, hts⟩ hM ⟨j_callN hC ht hn (va_Nw.use rfl hN), wd w2 rfl, trivial⟩ ⟨jblind, hp⟩ rfl (hlen hg.2.1) hsz jst_eq (by show 2 * 0 + _ ≤ _; have := h8 hg.2.2; omega) hd hf)
  | 10, hok0, h, hq =>
    obtain ⟨y, r1, rfl, h⟩ := jS_1i h
    obtain ⟨x, r, rfl, h⟩ := jS_1i h
    obtain ⟨hg, h⟩ := jSem_G.mp h
    simp only [jStOk, Bool.and_eq_true, beq_iff_eq] at hok0
    obtain ⟨⟨w1, w2⟩, w3⟩ := hok0
    exact ⟨h.1, fun H locs ls hl hs h1 h2 => va_mmax hx hb hl.1.symm hown (wd w1 rfl) (wd w2 rfl) (wd k_iMath rfl) (wd w3 rfl) (by omega) (by have := h8 hg; omega) (by have := h.1.1; have : mN m ≤ N1 := this; omega) (by have := h.1.2; have : mZ m ≤ Z1 := this; omega) hd (h.2 H locs ls hl hs h1 h2)⟩
  | 11, hok0, h, hq =>
    obtain ⟨y, r1, rfl, h⟩ := jS_1i h
    obtain ⟨x, r, rfl, h⟩ := jS_1i h
    obtain ⟨hg, h⟩ := jSem_G.mp h
    simp only [jStOk, Bool.and_eq_true, beq_iff_eq] at hok0
    obtain ⟨⟨w1, w2⟩, w3⟩ := hok0
    exact ⟨h.1, fun H locs ls hl hs h1 h2 => va_mmin hx hb hl.1.symm hown (wd w1 rfl) (wd w2 rfl) (wd k_iMath rfl) (wd w3 rfl) (by omega) (by have := h8 hg; omega) (by have := h.1.1; have : mN m ≤ N1 := this; omega) (by have := h.1.2; have : mZ m ≤ Z1 := this; omega) hd (h.2 H locs ls hl hs h1 h2)⟩
  | 12, hok0, h, hq =>
    obtain ⟨x, r, rfl, h⟩ := jS_1i h
    obtain ⟨hg, h⟩ := jSem_G.mp h
    simp only [jStOk, Bool.and_eq_true, beq_iff_eq] at hok0
    obtain ⟨⟨w1, w2⟩, w3⟩ := hok0
    exact ⟨h.1, fun H locs ls hl hs h1 h2 => va_mabs hx hb hl.1.symm hown (wd w1 rfl) (wd w2 rfl) (wd k_iMath rfl) (wd w3 rfl) (by omega) (by have := h8 hg; omega) (by have := h.1.1; have : mN m ≤ N1 := this; omega) (by have := h.1.2; have : mZ m ≤ Z1 := this; omega) hd (h.2 H locs ls hl hs h1 h2)⟩
  | 13, hok0, h, hq =>
    obtain ⟨y, r1, rfl, h⟩ := jS_1l h
    obtain ⟨x, r, rfl, h⟩ := jS_1l h
    obtain ⟨hg, h⟩ := jSem_G.mp h
    simp only [jStOk, Bool.and_eq_true, beq_iff_eq] at hok0
    obtain ⟨⟨w1, w2⟩, w3⟩ := hok0
    exact ⟨h.1, fun H locs ls hl hs h1 h2 => va_mmax_long hx hb hl.1.symm hown (wd w1 rfl) (wd w2 rfl) (wd k_iMath rfl) (wd w3 rfl) (by omega) (by have := h8 hg; omega) (by have := h.1.1; have : mN m ≤ N1 := this; omega) (by have := h.1.2; have : mZ m ≤ Z1 := this; omega) hd (h.2 H locs ls hl hs h1 h2)⟩
  | 14, hok0, h, hq =>
    obtain ⟨y, r1, rfl, h⟩ := jS_1l h
    obtain ⟨x, r, rfl, h⟩ := jS_1l h
    obtain ⟨hg, h⟩ := jSem_G.mp h
    simp only [jStOk, Bool.and_eq_true, beq_iff_eq] at hok0
    obtain ⟨⟨w1, w2⟩, w3⟩ := hok0
    exact ⟨h.1, fun H locs ls hl hs h1 h2 => va_mmin_long hx hb hl.1.symm hown (wd w1 rfl) (wd w2 rfl) (wd k_iMath rfl) (wd w3 rfl) (by omega) (by have := h8 hg; omega) (by have := h.1.1; have : mN m ≤ N1 := this; omega) (by have := h.1.2; have : mZ m ≤ Z1 := this; omega) hd (h.2 H locs ls hl hs h1 h2)⟩
  | 15, hok0, h, hq =>
    obtain ⟨x, r, rfl, h⟩ := jS_1l h
    obtain ⟨hg, h⟩ := jSem_G.mp h
    simp only [jStOk, Bool.and_eq_true, beq_iff_eq] at hok0
    obtain ⟨⟨w1, w2⟩, w3⟩ := hok0
    exact ⟨h.1, fun H locs ls hl hs h1 h2 => va_mabs_long hx hb hl.1.symm hown (wd w1 rfl) (wd w2 rfl) (wd k_iMath rfl) (wd w3 rfl) (by omega) (by have := h8 hg; omega) (by have := h.1.1; have : mN m ≤ N1 := this; omega) (by have := h.1.2; have : mZ m ≤ Z1 := this; omega) hd (h.2 H locs ls hl hs h1 h2)⟩
  | 16, hok0, h, hq =>
    obtain ⟨n, r1, rfl, h⟩ := jS_1i h
    obtain ⟨dp, r1, rfl, h⟩ := jS_1i h
    obtain ⟨b, r1, rfl, h⟩ := jS_1a h
    obtain ⟨sp, r1, rfl, h⟩ := jS_1i h
    obtain ⟨a, r, rfl, h⟩ := jS_1a h
    obtain ⟨hg, h⟩ := jSem_G.mp h
    obtain ⟨g1, g2, g3, g4, g5, g6, g7, g8⟩ := hg
    simp only [jStOk, Bool.and_eq_true, beq_iff_eq] at hok0
    obtain ⟨⟨w1, w2⟩, w3⟩ := hok0
    have hnf : nativeFrameWords "java/lang/System" "arraycopy" 5 ≤ 400 := by decide +kernel
    have hn1 : ∀ {i : Int32}, 0 ≤ i.toInt → ((i.toNatClampNeg : Nat) : Int) = i.toInt := fun h => by rw [jx_clamp, jx]; omega
    split at h
    · next hk =>
      refine ⟨h.1, fun H locs ls hl hs h1 h2 => ?_⟩
      obtain ⟨hP, hD, hS, hok⟩ := id hs
      have ha : a < mN m := jlt hok (by omega)
      have hb2 : b < mN m := jlt hok (by omega)
      show W p l e R s mm args below meth c H locs _ _ Qf (F0 mm pc ls (.int n :: .int dp :: .ref (jad b0 ext b) :: .int sp :: .ref (jad b0 ext a) :: r.map (jcv b0 ext)))
      rw [jadN hok ha, jadN hok hb2]
      exact va_copyi hx hb hl.1.symm hown (wd w1 rfl) (wd w3 rfl) (wd w2 rfl) (wd k_iSys rfl) hK hP hD hS a b 0 0 (by rw [jws_at ha, jcell_i (q := 20) (by omega) (by omega)]) (by rw [jws_at hb2, jcell_i (q := 20) hk (by omega)]) rfl rfl rfl (jnn g4) (jnn g3) (jnn g2) (by have := hn1 g4; have := hn1 g2; omega) (by have := hn1 g3; have := hn1 g2; omega) (fun _ _ => rfl) (by omega) (by have := h8 g1; omega) hd
        fun H1 locs1 hP1 hD1 hS1 => h.2 H1 locs1 ls hl (j_st hs hb2 rfl rfl oI (jcell_cI hk (by omega)) hP1 hD1 hS1) h1 h2
    · next hk =>
      have hk : (mS m b).1 = 21 := by omega
      refine ⟨h.1, fun H locs ls hl hs h1 h2 => ?_⟩
      obtain ⟨hP, hD, hS, hok⟩ := id hs
      have ha : a < mN m := jlt hok (by omega)
      have hb2 : b < mN m := jlt hok (by omega)
      show W p l e R s mm args below meth c H locs _ _ Qf (F0 mm pc ls (.int n :: .int dp :: .ref (jad b0 ext b) :: .int sp :: .ref (jad b0 ext a) :: r.map (jcv b0 ext)))
      rw [jadN hok ha, jadN hok hb2]
      exact va_copyl hx hb hl.1.symm hown (wd w1 rfl) (wd w3 rfl) (wd w2 rfl) (wd k_iSys rfl) hK hP hD hS a b 1 1 (by rw [jws_at ha, jcell_l (by omega)]) (by rw [jws_at hb2, jcell_l hk]) rfl rfl rfl (jnn g4) (jnn g3) (jnn g2) (by have := hn1 g4; have := hn1 g2; omega) (by have := hn1 g3; have := hn1 g2; omega) (fun _ _ => rfl) (by omega) (by have := h8 g1; omega) hd
        fun H1 locs1 hP1 hD1 hS1 => h.2 H1 locs1 ls hl (j_st hs hb2 rfl rfl oL (jcell_cL hk) hP1 hD1 hS1) h1 h2
theorem s_invokespecial {idx : Nat} (hO : jOwes l D b0 ext cA sl sx d) (hR1 : N1 - n0 ≤ R.cells) (hR2 : Z1 - z0 ≤ R.slots) (hN1 : N1 ≤ jScr) (hC : jCtx p l e R s mm args meth c D b0 ext cA sl sx d j n0) (hd : decode (jB j) pc = .ok (.invokespecial idx, 3)) (h : jSem (CC d) (jGo p l e R s mm args below meth c Qf D b0 ext cA sl sx n0 z0 N1 Z1) Qr (jEf j pc (.invokespecial idx) L st m)) : (jGo p l e R s mm args below meth c Qf D b0 ext cA sl sx n0 z0 N1 Z1 pc L st m) := by
  obtain ⟨q0, hq, h⟩ := jS_op h
  obtain ⟨kd, tj, n, p1, p2, p3⟩ := q0
  have hok0 := k_st _ (jfind2_mem hq)
  obtain ⟨hx, hb, hml, hr, hown, hts, hK, hz, hnm, hlk, hE, hf1, hf2, hjo⟩ := id hC
  have wd : ∀ {i : Nat} {w : Cond}, lw_tbl[i]? = some w → goodWord w = true → w.before args s = true := fun a b => hts _ (g_mem a b)
  have h : jSem (CC d) (jGo p l e R s mm args below meth c Qf D b0 ext cA sl sx n0 z0 N1 Z1) Qr (jSpec j idx pc kd tj n L st m) := h
  have hst : ∀ (hg : n < st.length ∧ (st.drop (n + 1)).length ≤ 4) (h : jSem (CC d) (jGo p l e R s mm args below meth c Qf D b0 ext cA sl sx n0 z0 N1 Z1) Qr (k1a (st.drop n) fun a r => jCl tj (.ref a :: (st.take n).reverse) (pc + 3) L r m)) (ht : tj < 289)
      (run : ∀ (m1 : jmM) (v : Option Value) (H : Heap) (locs : List Loc) (ls : Array Slot) (a : Nat) (r : List Value), st = st.take n ++ .ref a :: r → r.length ≤ 4 → ls.size = jMl j → Met l (jY tj) (jwsd tj) (jroom d m m1) (jPre D b0 ext cA sl sx m (.ref a :: (st.take n).reverse)) (jPost D b0 ext cA sl sx m1 v) (mN m1 - mN m) (mZ m1 - mZ m) (fun q => b0 ≤ q) → (∀ U : State, U.heap = H → s.WarmedH U.vm → jPre D b0 ext cA sl sx m (.ref a :: (st.take n).reverse) (Value.ref (jad b0 ext a) :: (st.take n).reverse.map (jcv b0 ext)).toArray U) → (mN m - n0 + (mN m1 - mN m) ≤ R.cells ∧ mZ m - z0 + (mZ m1 - mZ m) ≤ R.slots) →
        va_Run p l e R s mm args below meth c H locs (mN m - n0) (mZ m - z0) (mN m1 - mN m) (mZ m1 - mZ m) (F0 mm pc ls (st.map (jcv b0 ext))) (r.map (jcv b0 ext)) (jPost D b0 ext cA sl sx m1 v (Value.ref (jad b0 ext a) :: (st.take n).reverse.map (jcv b0 ext)).toArray) (fun q => b0 ≤ q)), (jGo p l e R s mm args below meth c Qf D b0 ext cA sl sx n0 z0 N1 Z1 pc L st m) := by
    intro hg h ht run
    obtain ⟨a, r, er, h⟩ := jS_1a h
    have est : st = st.take n ++ .ref a :: r := by rw [← er, List.take_append_drop]
    have hr4 : r.length ≤ 4 := by
      have : st.drop (n + 1) = r := by rw [← List.drop_drop, er]; rfl
      rw [← this]; exact hg.2
    obtain ⟨v, m1, hk, hc⟩ := CC_det d _ _ _ _ h
    obtain ⟨hm1, hm2, hM⟩ := hO tj _ m v m1 hc ht
    have hk : (jGo p l e R s mm args below meth c Qf D b0 ext cA sl sx n0 z0 N1 Z1 (pc + 3) L (jpush v r) m1) := hk
    have hM := hM (Nat.le_trans hk.1.1 hN1)
    refine ⟨⟨Nat.le_trans hm1 hk.1.1, Nat.le_trans hm2 hk.1.2⟩, fun H locs ls hl hs h1 h2 => ?_⟩
    refine W_sz (fun hsz => ?_)
    have hcs : mN m - n0 + (mN m1 - mN m) ≤ R.cells ∧ mZ m - z0 + (mZ m1 - mZ m) ≤ R.slots := by
      have := hk.1.1; have := hk.1.2; omega
    exact j_back (run m1 v H locs ls a r est hr4 (by rw [hl.1, hml]) hM (jpre hC hs (jsize hz h1 hs hsz)) hcs) hs.2.2.1 (fun H1 locs1 hs1 => j_goon hk hl h1 h2 hm1 hm2 hs1)
  have hlen : ∀ {n : Nat}, n < st.length → ((st.take n).reverse.map (jcv b0 ext)).length = n := fun h => by simp; omega
  have h8 : ∀ {r : List Value}, r.length ≤ 4 → ((r.map (jcv b0 ext)).map fun v => v.category).sum ≤ 8 := jr8
  have hstk : ∀ {n a : Nat} {r : List Value}, st = st.take n ++ .ref a :: r → st.map (jcv b0 ext) = (((st.take n).reverse).map (jcv b0 ext)).reverse ++ .ref (jad b0 ext a) :: r.map (jcv b0 ext) := by
    intro n a r e1
    rw [List.map_reverse, List.reverse_reverse]
    conv => lhs; rw [e1]
    rw [List.map_append]; rfl
  match kd, hok0, h, hq with
  | 3, hok0, h, hq =>
    obtain ⟨hg, h⟩ := jSem_G.mp h
    simp only [jStOk, Bool.and_eq_true, decide_eq_true_eq, beq_iff_eq] at hok0
    obtain ⟨⟨⟨⟨⟨w1, w2⟩, hnm2⟩, hn⟩, ht⟩, hrt⟩ := hok0
    refine hst hg h ht (fun m1 v H locs ls a r est hr4 hsz hM hp hf => ?_)
    have cb := j_callB (m1 := m1) (m := m) hC ht hn (wd w1 rfl)
    rw [hrt] at cb
    exact va_runI ⟨hx, hb, hml, hown, hts⟩ hM ⟨cb, hnm2, wd w2 rfl⟩ ⟨jblind, hp⟩ rfl (hlen hg.1) hsz (hstk est) (by show 2 * 0 + _ ≤ _; have := h8 hr4; omega) hd hf
  | 5, hok0, h, hq =>
    obtain ⟨hg, h⟩ := jSem_G.mp h
    simp only [jStOk, Bool.and_eq_true, decide_eq_true_eq, beq_iff_eq] at hok0
    obtain ⟨⟨⟨⟨⟨w1, w2⟩, hnm2⟩, hn⟩, ht⟩, hrt⟩ := hok0
    refine hst hg h ht (fun m1 v H locs ls a r est hr4 hsz hM hp hf => ?_)
    have hN : va_Nw (.methodLinkNest (jRN (jO j)) idx (jY tj) RX11) s := hE.2.2.2.2.2.2.2 (jO j, idx, 5, tj, n, p1, p2, p3) (jfind2_mem hq) (Or.inr rfl)
    have cb := j_callN (m1 := m1) (m := m) hC ht hn (va_Nw.use rfl hN)
    rw [hrt] at cb
    exact va_runIN ⟨hx, hb, hml, hown, hts⟩ hM ⟨cb, hnm2, wd w2 rfl⟩ ⟨jblind, hp⟩ rfl (hlen hg.1) hsz (hstk est) (by show 2 * 0 + _ ≤ _; have := h8 hr4; omega) hd hf
  | 7, hok0, h, hq =>
    obtain ⟨a, r, rfl, h⟩ := jS_1a h
    obtain ⟨hg, h⟩ := jSem_G.mp h
    simp only [jStOk, Bool.and_eq_true, beq_iff_eq] at hok0
    obtain ⟨⟨w1, w2⟩, w3⟩ := hok0
    exact ⟨h.1, fun H locs ls hl hs h1 h2 => W.objInit hx hb hown (wd w1 rfl) (wd w2 rfl) (wd w3 rfl) rfl (by show ls.size = _; exact hl.1) rfl hd (by omega) (by show 2 * 0 + _ + 12 ≤ _; have := h8 hg; omega) (h.2 H locs ls hl hs h1 h2)⟩
theorem s_invokevirtual {idx : Nat} (hO : jOwes l D b0 ext cA sl sx d) (hR1 : N1 - n0 ≤ R.cells) (hR2 : Z1 - z0 ≤ R.slots) (hN1 : N1 ≤ jScr) (hC : jCtx p l e R s mm args meth c D b0 ext cA sl sx d j n0) (hd : decode (jB j) pc = .ok (.invokevirtual idx, 3))
    (hstr : ∀ {i p1 p2 p3 : Nat} {a : Nat} {r : List Value}, (jO j, idx, 17, i, 0, p1, p2, p3) ∈ jSt → jScr < a → a ≤ jScr + 16 → r.length ≤ 4 → (jGo p l e R s mm args below meth c Qf D b0 ext cA sl sx n0 z0 N1 Z1 (pc + 3) L (.int (nI (jCh.getD (a - jScr - 1) []).length) :: r) m) → (jGo p l e R s mm args below meth c Qf D b0 ext cA sl sx n0 z0 N1 Z1 pc L (.ref a :: r) m))
    (hchr : ∀ {i p1 p2 p3 : Nat} {a : Nat} {x : Int32} {r : List Value}, (jO j, idx, 18, i, 1, p1, p2, p3) ∈ jSt → jScr < a → a ≤ jScr + 16 → r.length ≤ 4 → 0 ≤ x.toInt → x.toInt < ((jCh.getD (a - jScr - 1) []).length : Int) → (jGo p l e R s mm args below meth c Qf D b0 ext cA sl sx n0 z0 N1 Z1 (pc + 3) L (.int ((jCh.getD (a - jScr - 1) []).getD (jx x) 0) :: r) m) → (jGo p l e R s mm args below meth c Qf D b0 ext cA sl sx n0 z0 N1 Z1 pc L (.int x :: .ref a :: r) m))
    (h : jSem (CC d) (jGo p l e R s mm args below meth c Qf D b0 ext cA sl sx n0 z0 N1 Z1) Qr (jEf j pc (.invokevirtual idx) L st m)) : (jGo p l e R s mm args below meth c Qf D b0 ext cA sl sx n0 z0 N1 Z1 pc L st m) := by
  obtain ⟨q0, hq, h⟩ := jS_op h
  obtain ⟨kd, tj, n, p1, p2, p3⟩ := q0
  have hok0 := k_st _ (jfind2_mem hq)
  obtain ⟨hx, hb, hml, hr, hown, hts, hK, hz, hnm, hlk, hE, hf1, hf2, hjo⟩ := id hC
  have wd : ∀ {i : Nat} {w : Cond}, lw_tbl[i]? = some w → goodWord w = true → w.before args s = true := fun a b => hts _ (g_mem a b)
  have h : jSem (CC d) (jGo p l e R s mm args below meth c Qf D b0 ext cA sl sx n0 z0 N1 Z1) Qr (jVirt j idx pc kd tj n L st m) := h
  have hlen : ∀ {n : Nat}, n < st.length → ((st.take n).reverse.map (jcv b0 ext)).length = n := fun h => by simp; omega
  have h8 : ∀ {r : List Value}, r.length ≤ 4 → ((r.map (jcv b0 ext)).map fun v => v.category).sum ≤ 8 := jr8
  match kd, hok0, h, hq with
  | 1, hok0, h, hq =>
    obtain ⟨hg, h⟩ := jSem_G.mp h
    simp only [jStOk, Bool.and_eq_true, decide_eq_true_eq, beq_iff_eq] at hok0
    obtain ⟨⟨⟨⟨w1, w2⟩, w3⟩, hn⟩, ht⟩ := hok0
    obtain ⟨a, r, er, h⟩ := jS_1a h
    obtain ⟨hcls, h⟩ := jSem_G.mp h
    have est : st = st.take n ++ .ref a :: r := by rw [← er, List.take_append_drop]
    have hr4 : r.length ≤ 4 := by
      have : st.drop (n + 1) = r := by rw [← List.drop_drop, er]; rfl
      rw [← this]; exact hg.2
    obtain ⟨v, m1, hk, hc⟩ := CC_det d _ _ _ _ h
    obtain ⟨hm1, hm2, hM⟩ := hO tj _ m v m1 hc ht
    obtain ⟨k1, k2, -, -, -, -⟩ := k_jm tj ht
    have hk : (jGo p l e R s mm args below meth c Qf D b0 ext cA sl sx n0 z0 N1 Z1 (pc + 3) L (jpush v r) m1) := hk
    have hM := hM (Nat.le_trans hk.1.1 hN1)
    refine ⟨⟨Nat.le_trans hm1 hk.1.1, Nat.le_trans hm2 hk.1.2⟩, fun H locs ls hl hs h1 h2 => ?_⟩
    refine W_sz (fun hsz => ?_)
    have hcs : mN m - n0 + (mN m1 - mN m) ≤ R.cells ∧ mZ m - z0 + (mZ m1 - mZ m) ≤ R.slots := by
      have := hk.1.1; have := hk.1.2; omega
    obtain ⟨hP, hD, hS, hok⟩ := id hs
    have ha : a < mN m := jlt hok (by omega)
    have hrecv : ∃ cell : Cell, H[jad b0 ext a]? = some cell ∧ cell.vm.isStatics = false ∧ s.vm.findClass (jY tj).cls = some cell.cls := by
      rw [jadN hok ha, k1]
      exact va_recv hK hP (jvw k2) (q0 := a) (by rw [jws_at ha, jcell_o hcls k2])
    have hstk : st.map (jcv b0 ext) = (((st.take n).reverse).map (jcv b0 ext)).reverse ++ .ref (jad b0 ext a) :: r.map (jcv b0 ext) := by
      rw [List.map_reverse, List.reverse_reverse]
      conv => lhs; rw [est]
      rw [List.map_append]; rfl
    exact j_back (va_runV ⟨hx, hb, hml, hown, hts⟩ hM ⟨j_callB hC ht hn (wd w1 rfl), wd w2 rfl, wd w3 rfl⟩ ⟨jblind, hrecv, jpre hC hs (jsize hz h1 hs hsz)⟩ rfl (hlen hg.1) (by rw [hl.1, hml]) hstk (by show 2 * 0 + _ ≤ _; have := h8 hr4; omega) hd hcs) hs.2.2.1 (fun H1 locs1 hs1 => j_goon hk hl h1 h2 hm1 hm2 hs1)
  | 17, hok0, h, hq =>
    obtain ⟨a, r, rfl, h⟩ := jS_1a h
    obtain ⟨hg, h⟩ := jSem_G.mp h
    exact hstr (by have := jfind2_mem hq; have e1 := k_len17 _ this rfl; dsimp only at e1; subst e1; exact this) hg.1 hg.2.1 hg.2.2 h
  | 18, hok0, h, hq =>
    obtain ⟨x, r1, rfl, h⟩ := jS_1i h
    obtain ⟨a, r, rfl, h⟩ := jS_1a h
    obtain ⟨hg, h⟩ := jSem_G.mp h
    exact hchr (by have := jfind2_mem hq; have e1 := k_len18 _ this rfl; dsimp only at e1; subst e1; exact this) hg.1 hg.2.1 hg.2.2.1 hg.2.2.2.1 hg.2.2.2.2 h
end JSC
