/-! ===== SOUNDNESS, String.length and charAt on the constants ===== -/
section JST
variable {p : Program} {l : Launch} {e : Env} {R : Room} {s : State} {mm : MethodId} {args : Array Value} {below : List Frame} {meth : Method} {c : Code} {Qf : State → Prop} {D : va_G} {b0 : Nat} {ext : Nat → Nat} {cA : Nat → ClassId} {sl : Nat} {sx : Nat → Int32} {n0 z0 N1 Z1 d j : Nat}
variable {pc : Nat} {L : List (Option Value)} {m : jmM}
theorem s_strlen {idx i p1 p2 p3 : Nat} {a : Nat} {r : List Value} (hR1 : N1 - n0 ≤ R.cells) (hR2 : Z1 - z0 ≤ R.slots) (hC : jCtx p l e R s mm args meth c D b0 ext cA sl sx d j n0) (hd : decode (jB j) pc = .ok (.invokevirtual idx, 3)) (hq : (jO j, idx, 17, i, 0, p1, p2, p3) ∈ jSt) (h1 : jScr < a) (h2 : a ≤ jScr + 16) (h3 : r.length ≤ 4) (h : (jGo p l e R s mm args below meth c Qf D b0 ext cA sl sx n0 z0 N1 Z1 (pc + 3) L (.int (nI (jCh.getD (a - jScr - 1) []).length) :: r) m)) : (jGo p l e R s mm args below meth c Qf D b0 ext cA sl sx n0 z0 N1 Z1 pc L (.ref a :: r) m) := by
  obtain ⟨hx, hb, hml, hr, hown, hts, hK, hz, hnm, hlk, hE, hf1, hf2, hjo⟩ := id hC
  have hok0 := k_st _ hq
  simp only [jStOk, Bool.and_eq_true, beq_iff_eq] at hok0
  obtain ⟨⟨w1, w2⟩, w3⟩ := hok0
  obtain ⟨adV, hV⟩ := hE.2.2.2.1
  have ht : a - jScr - 1 < 16 := by omega
  have ea : jad b0 ext a = ext (jScr + 1 + (a - jScr - 1)) := by
    have e3 : a = jScr + 1 + (a - jScr - 1) := by omega
    rw [jad, if_neg (by omega)]; exact congrArg ext e3
  refine ⟨h.1, fun H locs ls hl hs g1 g2 => ?_⟩
  have hh := h.2 H locs ls hl hs g1 g2
  have hS := hs.2.2.1
  show W p l e R s mm args below meth c H locs _ _ Qf (F0 mm pc ls (.ref (jad b0 ext a) :: r.map (jcv b0 ext)))
  rw [ea]
  have h01 := h.1.1
  have h02 := h.1.2
  have h01 : mN m ≤ N1 := h01
  have h02 : mZ m ≤ Z1 := h02
  refine vp_callSi (W.runV (C := RJ0) (As := []) (n := 0) ⟨hx, hb, hml, hown, hts⟩ (jk_len ht) ⟨⟨rfl, rfl, by show 2 + 1 ≤ _; omega, by show 8 + (1 + 11) + 80 ≤ _; omega, jgw kwc_len hts, List.mem_cons_self, hts _ kwc_len, hts _ kw_ini0, by decide, fun sig h => by cases h; rfl, hts _ (g_mem w1 rfl)⟩, hts _ (g_mem w2 rfl), hts _ (g_mem w3 rfl)⟩ ⟨jPj.blind, vk_recv hV ht hS, fun U hU hW => jPj.at hE (by rw [hz]; omega) hV hS hU hW⟩ rfl rfl (by rw [← hml]; exact hl.1) rfl (by show 2 * 0 + _ ≤ _; have := jr8 (b0 := b0) (ext := ext) h3; omega) hd ⟨by omega, by omega⟩) (fun r hr0 => ?_)
  subst hr0
  exact hh
theorem s_charat {idx i p1 p2 p3 : Nat} {a : Nat} {x : Int32} {r : List Value} (hR1 : N1 - n0 ≤ R.cells) (hR2 : Z1 - z0 ≤ R.slots) (hC : jCtx p l e R s mm args meth c D b0 ext cA sl sx d j n0) (hd : decode (jB j) pc = .ok (.invokevirtual idx, 3)) (hq : (jO j, idx, 18, i, 1, p1, p2, p3) ∈ jSt) (h1 : jScr < a) (h2 : a ≤ jScr + 16) (h3 : r.length ≤ 4) (h4 : 0 ≤ x.toInt) (h5 : x.toInt < ((jCh.getD (a - jScr - 1) []).length : Int)) (h : (jGo p l e R s mm args below meth c Qf D b0 ext cA sl sx n0 z0 N1 Z1 (pc + 3) L (.int ((jCh.getD (a - jScr - 1) []).getD (jx x) 0) :: r) m)) : (jGo p l e R s mm args below meth c Qf D b0 ext cA sl sx n0 z0 N1 Z1 pc L (.int x :: .ref a :: r) m) := by
  obtain ⟨hx, hb, hml, hr, hown, hts, hK, hz, hnm, hlk, hE, hf1, hf2, hjo⟩ := id hC
  have hok0 := k_st _ hq
  simp only [jStOk, Bool.and_eq_true, beq_iff_eq] at hok0
  obtain ⟨⟨w1, w2⟩, w3⟩ := hok0
  obtain ⟨adV, hV⟩ := hE.2.2.2.1
  have ht : a - jScr - 1 < 16 := by omega
  have ea : jad b0 ext a = ext (jScr + 1 + (a - jScr - 1)) := by
    have e3 : a = jScr + 1 + (a - jScr - 1) := by omega
    rw [jad, if_neg (by omega)]; exact congrArg ext e3
  refine ⟨h.1, fun H locs ls hl hs g1 g2 => ?_⟩
  have hh := h.2 H locs ls hl hs g1 g2
  have hS := hs.2.2.1
  show W p l e R s mm args below meth c H locs _ _ Qf (F0 mm pc ls (.int x :: .ref (jad b0 ext a) :: r.map (jcv b0 ext)))
  rw [ea]
  have h01 := h.1.1
  have h02 := h.1.2
  have h01 : mN m ≤ N1 := h01
  have h02 : mZ m ≤ Z1 := h02
  refine vp_callSi (W.runV (C := RJ0) (As := [.int x]) (n := 1) ⟨hx, hb, hml, hown, hts⟩ (jk_chr ht h4 h5) ⟨⟨rfl, rfl, by show 4 + 1 ≤ _; omega, by show 8 + (2 + 11) + 160 ≤ _; omega, jgw kwc_chr hts, List.mem_cons_self, hts _ kwc_chr, hts _ kw_ini0, by decide, fun sig h => by cases h; rfl, hts _ (g_mem w1 rfl)⟩, hts _ (g_mem w2 rfl), hts _ (g_mem w3 rfl)⟩ ⟨jPj.blind, vk_recv hV ht hS, fun U hU hW => jPj.at hE (by rw [hz]; omega) hV hS hU hW⟩ rfl rfl (by rw [← hml]; exact hl.1) rfl (by show 2 * 0 + _ ≤ _; have := jr8 (b0 := b0) (ext := ext) h3; omega) hd ⟨by omega, by omega⟩) (fun r hr0 => ?_)
  rw [hr0]
  exact hh
end JST
