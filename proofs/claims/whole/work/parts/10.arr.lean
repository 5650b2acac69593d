/-! ===== SOUNDNESS, arrays, new cells, constants ===== -/
section JSA
variable {p : Program} {l : Launch} {e : Env} {R : Room} {s : State} {mm : MethodId} {args : Array Value} {below : List Frame} {meth : Method} {c : Code} {Qf : State → Prop} {D : va_G} {b0 : Nat} {ext : Nat → Nat} {cA : Nat → ClassId} {sl : Nat} {sx : Nat → Int32} {n0 z0 N1 Z1 d j : Nat}
variable {C : jCC} {Qr : Option Value → jmM → Prop} {pc : Nat} {L : List (Option Value)} {st : List Value} {m : jmM}
theorem jcell_cI {a q : Nat} {f : Nat → Int32} (h : (mS m a).1 = q) (hq : q = 20 ∨ q = 22 ∨ q = 23) : jcell b0 ext cA (cI m a f) a = .inl (cA q, ((mS m a).2, .inl f)) := by
  have := jcell_i (b0 := b0) (ext := ext) (cA := cA) (m := cI m a f) (a := a) (q := q) h hq
  rw [this]
  show Sum.inl (cA q, ((mS m a).2, Sum.inl (jup m.1 a f a))) = _
  rw [jupS]
theorem jcell_cL {a : Nat} {f : Nat → Int64} (h : (mS m a).1 = 21) : jcell b0 ext cA (cL m a f) a = .inl (cA 21, ((mS m a).2, .inr (.inl f))) := by
  have := jcell_l (b0 := b0) (ext := ext) (cA := cA) (m := cL m a f) (a := a) h
  rw [this]
  show Sum.inl (cA 21, ((mS m a).2, Sum.inr (Sum.inl (jup m.2.1 a f a)))) = _
  rw [jupS]
theorem jcell_cR {a q : Nat} {f : Nat → Option Nat} (h : (mS m a).1 = q) (hq : 24 ≤ q) : jcell b0 ext cA (cR m a f) a = .inl (cA q, ((mS m a).2, .inr (.inr (.inr (.inr (fun i => (f i).map (jad b0 ext))))))) := by
  have := jcell_r (b0 := b0) (ext := ext) (cA := cA) (m := cR m a f) (a := a) (q := q) h hq
  rw [this]
  show Sum.inl (cA q, ((mS m a).2, Sum.inr (Sum.inr (Sum.inr (Sum.inr (fun k => (jup m.2.2.1 a f a k).map (jad b0 ext))))))) = _
  rw [jupS]
theorem s_iaload (hC : jCtx p l e R s mm args meth c D b0 ext cA sl sx d j n0) (hd : decode (jB j) pc = .ok (.iaload, 1)) (h : jSem C (jGo p l e R s mm args below meth c Qf D b0 ext cA sl sx n0 z0 N1 Z1) Qr (jEf j pc .iaload L st m)) : (jGo p l e R s mm args below meth c Qf D b0 ext cA sl sx n0 z0 N1 Z1 pc L st m) := by
  obtain ⟨i, r1, rfl, h⟩ := jS_1i h
  obtain ⟨a, r, rfl, h⟩ := jS_1a h
  obtain ⟨hg, h⟩ := jSem_G.mp h
  obtain ⟨hx, hb, hml, hr, hown, hts, hK, hz, hnm, hlk, hE, -⟩ := id hC
  refine ⟨h.1, fun H locs ls hl hs h1 h2 => ?_⟩
  obtain ⟨hP, hD, hS, hok⟩ := id hs
  have hh := h.2 H locs ls hl hs h1 h2
  show W p l e R s mm args below meth c H locs _ _ Qf (F0 mm pc ls (.int i :: .ref (jad b0 ext a) :: r.map (jcv b0 ext)))
  rcases hg.1 with hg1 | rfl
  · have ha : a < mN m := jlt hok (by omega)
    rw [jadN hok ha]
    exact va_iald hx hb hK hP a 0 (by rw [jws_at ha, jcell_i hg1 (by omega)]) rfl (jx_in hg.2) hd hh
  · have hb1 : ext jScr < b0 := hE.2.1 jScr (Nat.le_refl _) (by omega)
    rw [show jad b0 ext jScr = ext jScr from if_neg (Nat.lt_irrefl _)]
    refine va_sld hx hb hE.1 (by rw [hz]; omega) (by omega) hS (jx_in (by rw [← hok.2.2.2.1]; exact hg.2)) hd ?_
    rw [← hok.2.2.2.2]
    exact hh
theorem s_arraylength (hC : jCtx p l e R s mm args meth c D b0 ext cA sl sx d j n0) (hd : decode (jB j) pc = .ok (.arraylength, 1)) (h : jSem C (jGo p l e R s mm args below meth c Qf D b0 ext cA sl sx n0 z0 N1 Z1) Qr (jEf j pc .arraylength L st m)) : (jGo p l e R s mm args below meth c Qf D b0 ext cA sl sx n0 z0 N1 Z1 pc L st m) := by
  obtain ⟨a, r, rfl, h⟩ := jS_1a h
  obtain ⟨hg, h⟩ := jSem_G.mp h
  obtain ⟨hx, hb, hml, hr, hown, hts, hK, hz, hnm, hlk, hE, -⟩ := id hC
  refine ⟨h.1, fun H locs ls hl hs h1 h2 => ?_⟩
  obtain ⟨hP, hD, hS, hok⟩ := id hs
  have hh := h.2 H locs ls hl hs h1 h2
  show W p l e R s mm args below meth c H locs _ _ Qf (F0 mm pc ls (.ref (jad b0 ext a) :: r.map (jcv b0 ext)))
  rcases hg with hg | rfl
  · have ha : a < mN m := jlt hok (by omega)
    rw [jadN hok ha]
    have hpl := jws_at (b0 := b0) (ext := ext) (cA := cA) ha
    rcases (by omega : (mS m a).1 = 20 ∨ (mS m a).1 = 21 ∨ (mS m a).1 = 22 ∨ (mS m a).1 = 23 ∨ (mS m a).1 = 24 ∨ (mS m a).1 = 25 ∨ (mS m a).1 = 26) with q | q | q | q | q | q | q
    · rw [jcell_i q (by omega)] at hpl; exact va_alen hx hb hK hP a 0 hpl rfl rfl hd hh
    · rw [jcell_l q] at hpl; exact va_alen hx hb hK hP a 1 hpl rfl rfl hd hh
    · rw [jcell_i q (by omega)] at hpl; exact va_alen hx hb hK hP a 2 hpl rfl rfl hd hh
    · rw [jcell_i q (by omega)] at hpl; exact va_alen hx hb hK hP a 3 hpl rfl rfl hd hh
    · rw [jcell_r q (by omega)] at hpl; exact va_alen hx hb hK hP a 4 hpl rfl rfl hd hh
    · rw [jcell_r q (by omega)] at hpl; exact va_alen hx hb hK hP a 5 hpl rfl rfl hd hh
    · rw [jcell_r q (by omega)] at hpl; exact va_alen hx hb hK hP a 6 hpl rfl rfl hd hh
  · have hb1 : ext jScr < b0 := hE.2.1 jScr (Nat.le_refl _) (by omega)
    rw [show jad b0 ext jScr = ext jScr from if_neg (Nat.lt_irrefl _)]
    refine va_slen hx hb hE.1 (by rw [hz]; omega) (by omega) hS hd ?_
    rw [← hok.2.2.2.1]
    exact hh
theorem s_baload (hC : jCtx p l e R s mm args meth c D b0 ext cA sl sx d j n0) (hd : decode (jB j) pc = .ok (.baload, 1)) (h : jSem C (jGo p l e R s mm args below meth c Qf D b0 ext cA sl sx n0 z0 N1 Z1) Qr (jEf j pc .baload L st m)) : (jGo p l e R s mm args below meth c Qf D b0 ext cA sl sx n0 z0 N1 Z1 pc L st m) := by
  obtain ⟨i, r1, rfl, h⟩ := jS_1i h
  obtain ⟨a, r, rfl, h⟩ := jS_1a h
  obtain ⟨hg, h⟩ := jSem_G.mp h
  obtain ⟨hx, hb, hml, hr, hown, hts, hK, hz, hnm, hlk, hE, -⟩ := id hC
  refine ⟨h.1, fun H locs ls hl hs h1 h2 => ?_⟩
  obtain ⟨hP, hD, hS, hok⟩ := id hs
  have hh := h.2 H locs ls hl hs h1 h2
  show W p l e R s mm args below meth c H locs _ _ Qf (F0 mm pc ls (.int i :: .ref (jad b0 ext a) :: r.map (jcv b0 ext)))
  have ha : a < mN m := jlt hok (by omega)
  rw [jadN hok ha]
  rcases hg.1 with hg1 | hg1
  · exact va_bald hx hb hK hP a 2 (by rw [jws_at ha, jcell_i hg1 (by omega)]) rfl (jx_in hg.2) hd hh
  · exact va_zald hx hb hK hP a 3 (by rw [jws_at ha, jcell_i hg1 (by omega)]) rfl (jx_in hg.2) hd hh
theorem s_laload (hC : jCtx p l e R s mm args meth c D b0 ext cA sl sx d j n0) (hd : decode (jB j) pc = .ok (.laload, 1)) (h : jSem C (jGo p l e R s mm args below meth c Qf D b0 ext cA sl sx n0 z0 N1 Z1) Qr (jEf j pc .laload L st m)) : (jGo p l e R s mm args below meth c Qf D b0 ext cA sl sx n0 z0 N1 Z1 pc L st m) := by
  obtain ⟨i, r1, rfl, h⟩ := jS_1i h
  obtain ⟨a, r, rfl, h⟩ := jS_1a h
  obtain ⟨hg, h⟩ := jSem_G.mp h
  obtain ⟨hx, hb, hml, hr, hown, hts, hK, hz, hnm, hlk, hE, -⟩ := id hC
  refine ⟨h.1, fun H locs ls hl hs h1 h2 => ?_⟩
  obtain ⟨hP, hD, hS, hok⟩ := id hs
  have hh := h.2 H locs ls hl hs h1 h2
  show W p l e R s mm args below meth c H locs _ _ Qf (F0 mm pc ls (.int i :: .ref (jad b0 ext a) :: r.map (jcv b0 ext)))
  have ha : a < mN m := jlt hok (by omega)
  rw [jadN hok ha]
  exact va_lald hx hb hK hP a 1 (by rw [jws_at ha, jcell_l hg.1]) rfl (jx_in hg.2) hd hh
theorem s_aaload (hC : jCtx p l e R s mm args meth c D b0 ext cA sl sx d j n0) (hd : decode (jB j) pc = .ok (.aaload, 1)) (h : jSem C (jGo p l e R s mm args below meth c Qf D b0 ext cA sl sx n0 z0 N1 Z1) Qr (jEf j pc .aaload L st m)) : (jGo p l e R s mm args below meth c Qf D b0 ext cA sl sx n0 z0 N1 Z1 pc L st m) := by
  obtain ⟨i, r1, rfl, h⟩ := jS_1i h
  obtain ⟨a, r, rfl, h⟩ := jS_1a h
  obtain ⟨hg, h⟩ := jSem_G.mp h
  obtain ⟨hx, hb, hml, hr, hown, hts, hK, hz, hnm, hlk, hE, -⟩ := id hC
  refine ⟨h.1, fun H locs ls hl hs h1 h2 => ?_⟩
  obtain ⟨hP, hD, hS, hok⟩ := id hs
  have hh := h.2 H locs ls hl hs h1 h2
  show W p l e R s mm args below meth c H locs _ _ Qf (F0 mm pc ls (.int i :: .ref (jad b0 ext a) :: r.map (jcv b0 ext)))
  have ha : a < mN m := jlt hok (by omega)
  rw [jadN hok ha]
  have hpl := jws_at (b0 := b0) (ext := ext) (cA := cA) ha
  have hh2 : W p l e R s mm args below meth c H locs (mN m - n0) (mZ m - z0) Qf (F0 mm (pc + 1) ls (va_rf ((mR m a (jx i)).map (jad b0 ext)) :: r.map (jcv b0 ext))) := by
    rw [← jcv_rf]; exact hh
  rcases (by omega : (mS m a).1 = 24 ∨ (mS m a).1 = 25 ∨ (mS m a).1 = 26) with q | q | q
  · rw [jcell_r q (by omega)] at hpl; exact va_aldq hx hb hK hP a 4 hpl rfl (jx_in hg.2.2) hd hh2
  · rw [jcell_r q (by omega)] at hpl; exact va_aldq hx hb hK hP a 5 hpl rfl (jx_in hg.2.2) hd hh2
  · rw [jcell_r q (by omega)] at hpl; exact va_aldq hx hb hK hP a 6 hpl rfl (jx_in hg.2.2) hd hh2
theorem s_iastore (hC : jCtx p l e R s mm args meth c D b0 ext cA sl sx d j n0) (hd : decode (jB j) pc = .ok (.iastore, 1)) (h : jSem C (jGo p l e R s mm args below meth c Qf D b0 ext cA sl sx n0 z0 N1 Z1) Qr (jEf j pc .iastore L st m)) : (jGo p l e R s mm args below meth c Qf D b0 ext cA sl sx n0 z0 N1 Z1 pc L st m) := by
  obtain ⟨x, r2, rfl, h⟩ := jS_1i h
  obtain ⟨i, r1, rfl, h⟩ := jS_1i h
  obtain ⟨a, r, rfl, h⟩ := jS_1a h
  obtain ⟨hg, h⟩ := jSem_G.mp h
  obtain ⟨hx, hb, hml, hr, hown, hts, hK, hz, hnm, hlk, hE, -⟩ := id hC
  refine ⟨h.1, fun H locs ls hl hs h1 h2 => ?_⟩
  obtain ⟨hP, hD, hS, hok⟩ := id hs
  have ha : a < mN m := jlt hok (by omega)
  show W p l e R s mm args below meth c H locs _ _ Qf (F0 mm pc ls (.int x :: .int i :: .ref (jad b0 ext a) :: r.map (jcv b0 ext)))
  rw [jadN hok ha]
  exact va_iast hx hb hK hP hD hS a 0 (by rw [jws_at ha, jcell_i hg.1 (by omega)]) rfl (jx_in hg.2) hd fun H1 locs1 hP1 hD1 hS1 =>
    h.2 H1 locs1 ls hl (j_st (m1 := cI m a (jup (mI m a) (jx i) x)) hs ha rfl rfl oI (jcell_cI hg.1 (by omega)) hP1 hD1 hS1) h1 h2
theorem s_lastore (hC : jCtx p l e R s mm args meth c D b0 ext cA sl sx d j n0) (hd : decode (jB j) pc = .ok (.lastore, 1)) (h : jSem C (jGo p l e R s mm args below meth c Qf D b0 ext cA sl sx n0 z0 N1 Z1) Qr (jEf j pc .lastore L st m)) : (jGo p l e R s mm args below meth c Qf D b0 ext cA sl sx n0 z0 N1 Z1 pc L st m) := by
  obtain ⟨x, r2, rfl, h⟩ := jS_1l h
  obtain ⟨i, r1, rfl, h⟩ := jS_1i h
  obtain ⟨a, r, rfl, h⟩ := jS_1a h
  obtain ⟨hg, h⟩ := jSem_G.mp h
  obtain ⟨hx, hb, hml, hr, hown, hts, hK, hz, hnm, hlk, hE, -⟩ := id hC
  refine ⟨h.1, fun H locs ls hl hs h1 h2 => ?_⟩
  obtain ⟨hP, hD, hS, hok⟩ := id hs
  have ha : a < mN m := jlt hok (by omega)
  show W p l e R s mm args below meth c H locs _ _ Qf (F0 mm pc ls (.long x :: .int i :: .ref (jad b0 ext a) :: r.map (jcv b0 ext)))
  rw [jadN hok ha]
  exact va_last hx hb hK hP hD hS a 1 (by rw [jws_at ha, jcell_l hg.1]) rfl (jx_in hg.2) hd fun H1 locs1 hP1 hD1 hS1 =>
    h.2 H1 locs1 ls hl (j_st (m1 := cL m a (jup (mL m a) (jx i) x)) hs ha rfl rfl oL (jcell_cL hg.1) hP1 hD1 hS1) h1 h2
theorem s_bastore (hC : jCtx p l e R s mm args meth c D b0 ext cA sl sx d j n0) (hd : decode (jB j) pc = .ok (.bastore, 1)) (h : jSem C (jGo p l e R s mm args below meth c Qf D b0 ext cA sl sx n0 z0 N1 Z1) Qr (jEf j pc .bastore L st m)) : (jGo p l e R s mm args below meth c Qf D b0 ext cA sl sx n0 z0 N1 Z1 pc L st m) := by
  obtain ⟨x, r2, rfl, h⟩ := jS_1i h
  obtain ⟨i, r1, rfl, h⟩ := jS_1i h
  obtain ⟨a, r, rfl, h⟩ := jS_1a h
  obtain ⟨hg, h⟩ := jSem_G.mp h
  obtain ⟨hx, hb, hml, hr, hown, hts, hK, hz, hnm, hlk, hE, -⟩ := id hC
  refine ⟨h.1, fun H locs ls hl hs h1 h2 => ?_⟩
  obtain ⟨hP, hD, hS, hok⟩ := id hs
  have ha : a < mN m := jlt hok (by omega)
  show W p l e R s mm args below meth c H locs _ _ Qf (F0 mm pc ls (.int x :: .int i :: .ref (jad b0 ext a) :: r.map (jcv b0 ext)))
  rw [jadN hok ha]
  rcases hg.1 with q | q
  · have hc : jcell b0 ext cA (cI m a (jup (mI m a) (jx i) (if (mS m a).1 = 22 then vp_nar .byte x else vp_nar .boolean x))) a = .inl (cA 22, ((mS m a).2, .inl (upd (mI m a) i.toNatClampNeg (vp_nar .byte x)))) := by
      rw [jcell_cI q (by omega), if_pos q]; rfl
    exact va_bast hx hb hK hP hD hS a 2 (by rw [jws_at ha, jcell_i q (by omega)]) rfl (jx_in hg.2) hd fun H1 locs1 hP1 hD1 hS1 => h.2 H1 locs1 ls hl (j_st hs ha rfl rfl oI hc hP1 hD1 hS1) h1 h2
  · have hc : jcell b0 ext cA (cI m a (jup (mI m a) (jx i) (if (mS m a).1 = 22 then vp_nar .byte x else vp_nar .boolean x))) a = .inl (cA 23, ((mS m a).2, .inl (upd (mI m a) i.toNatClampNeg (vp_nar .boolean x)))) := by
      rw [jcell_cI q (by omega), if_neg (by omega)]; rfl
    exact va_zast hx hb hK hP hD hS a 3 (by rw [jws_at ha, jcell_i q (by omega)]) rfl (jx_in hg.2) hd fun H1 locs1 hP1 hD1 hS1 => h.2 H1 locs1 ls hl (j_st hs ha rfl rfl oI hc hP1 hD1 hS1) h1 h2
theorem s_aastore (hC : jCtx p l e R s mm args meth c D b0 ext cA sl sx d j n0) (hd : decode (jB j) pc = .ok (.aastore, 1)) (h : jSem C (jGo p l e R s mm args below meth c Qf D b0 ext cA sl sx n0 z0 N1 Z1) Qr (jEf j pc .aastore L st m)) : (jGo p l e R s mm args below meth c Qf D b0 ext cA sl sx n0 z0 N1 Z1 pc L st m) := by
  obtain ⟨v, r2, rfl, h⟩ := jS_1a h
  obtain ⟨i, r1, rfl, h⟩ := jS_1i h
  obtain ⟨a, r, rfl, h⟩ := jS_1a h
  obtain ⟨hg, h⟩ := jSem_G.mp h
  obtain ⟨hx, hb, hml, hr, hown, hts, hK, hz, hnm, hlk, hE, -⟩ := id hC
  refine ⟨h.1, fun H locs ls hl hs h1 h2 => ?_⟩
  obtain ⟨hP, hD, hS, hok⟩ := id hs
  have ha : a < mN m := jlt hok (by omega)
  obtain ⟨g1, g2, g3, g4⟩ := hg
  have hv : v < mN m := by
    refine jlt hok ?_
    rw [g3]
    split
    · omega
    · split <;> omega
  show W p l e R s mm args below meth c H locs _ _ Qf (F0 mm pc ls (.ref (jad b0 ext v) :: .int i :: .ref (jad b0 ext a) :: r.map (jcv b0 ext)))
  rw [jadN hok ha, jadN hok hv]
  have hpl := jws_at (b0 := b0) (ext := ext) (cA := cA) ha
  have hpv := jws_at (b0 := b0) (ext := ext) (cA := cA) hv
  have hc : ∀ q, (mS m a).1 = q → 24 ≤ q → jcell b0 ext cA (cR m a (jup (mR m a) (jx i) (some v))) a = .inl (cA q, ((mS m a).2, .inr (.inr (.inr (.inr (va_up (fun i => (mR m a i).map (jad b0 ext)) i.toNatClampNeg (some (b0 + v)))))))) := by
    intro q hq h24
    rw [jcell_cR hq h24]
    refine congrArg (fun z => Sum.inl (cA q, ((mS m a).2, Sum.inr (Sum.inr (Sum.inr (Sum.inr z)))))) (funext fun k => ?_)
    show (if k = jx i then some v else mR m a k).map (jad b0 ext) = if k = jx i then some (b0 + v) else (mR m a k).map (jad b0 ext)
    split
    · show some (jad b0 ext v) = _; rw [jadN hok hv]
    · rfl
  rcases (by omega : (mS m a).1 = 24 ∨ (mS m a).1 = 25 ∨ (mS m a).1 = 26) with q | q | q
  · rw [jcell_r q (by omega)] at hpl
    rw [jcell_o (ci := 3) (by rw [g3, q]; rfl) (by omega)] at hpv
    exact va_astq hx hb hK hP hD hS a 4 v 3 hpl (r := (jRN 3, jT 3, jNF 3)) rfl hpv (jvw (by omega)) (jx_in g4) hd fun H1 locs1 hP1 hD1 hS1 => h.2 H1 locs1 ls hl (j_st hs ha rfl rfl oR (hc _ q (by omega)) hP1 hD1 hS1) h1 h2
  · rw [jcell_r q (by omega)] at hpl
    rw [jcell_o (ci := 2) (by rw [g3, q]; rfl) (by omega)] at hpv
    exact va_astq hx hb hK hP hD hS a 5 v 2 hpl (r := (jRN 2, jT 2, jNF 2)) rfl hpv (jvw (by omega)) (jx_in g4) hd fun H1 locs1 hP1 hD1 hS1 => h.2 H1 locs1 ls hl (j_st hs ha rfl rfl oR (hc _ q (by omega)) hP1 hD1 hS1) h1 h2
  · rw [jcell_r q (by omega)] at hpl
    rw [jcell_o (ci := 10) (by rw [g3, q]; rfl) (by omega)] at hpv
    exact va_astq hx hb hK hP hD hS a 6 v 10 hpl (r := (jRN 10, jT 10, jNF 10)) rfl hpv (jvw (by omega)) (jx_in g4) hd fun H1 locs1 hP1 hD1 hS1 => h.2 H1 locs1 ls hl (j_st hs ha rfl rfl oR (hc _ q (by omega)) hP1 hD1 hS1) h1 h2
theorem s_ldc_w {idx : Nat} (hC : jCtx p l e R s mm args meth c D b0 ext cA sl sx d j n0) (hd : decode (jB j) pc = .ok (.ldc_w idx, 3)) (h : jSem C (jGo p l e R s mm args below meth c Qf D b0 ext cA sl sx n0 z0 N1 Z1) Qr (jEf j pc (.ldc_w idx) L st m)) : (jGo p l e R s mm args below meth c Qf D b0 ext cA sl sx n0 z0 N1 Z1 pc L st m) := by
  obtain ⟨q, hq, h⟩ := jS_op h
  obtain ⟨hx, hb, hml, hr, hown, hts, -⟩ := id hC
  exact ⟨h.1, fun H locs ls hl hs h1 h2 => lv_ldcw hx hb hown (hts _ (g_mem (k_ld _ (jfind2_mem hq)) rfl)) hd (h.2 H locs ls hl hs h1 h2)⟩
theorem s_ldc2_w {idx : Nat} (hC : jCtx p l e R s mm args meth c D b0 ext cA sl sx d j n0) (hd : decode (jB j) pc = .ok (.ldc2_w idx, 3)) (h : jSem C (jGo p l e R s mm args below meth c Qf D b0 ext cA sl sx n0 z0 N1 Z1) Qr (jEf j pc (.ldc2_w idx) L st m)) : (jGo p l e R s mm args below meth c Qf D b0 ext cA sl sx n0 z0 N1 Z1 pc L st m) := by
  obtain ⟨q, hq, h⟩ := jS_op h
  obtain ⟨hx, hb, hml, hr, hown, hts, -⟩ := id hC
  exact ⟨h.1, fun H locs ls hl hs h1 h2 => lv_ldc2 hx hb hown (hts _ (g_mem (k_l2 _ (jfind2_mem hq)) rfl)) hd (h.2 H locs ls hl hs h1 h2)⟩
theorem s_ldc {idx : Nat} (hC : jCtx p l e R s mm args meth c D b0 ext cA sl sx d j n0) (hd : decode (jB j) pc = .ok (.ldc idx, 2)) (h : jSem C (jGo p l e R s mm args below meth c Qf D b0 ext cA sl sx n0 z0 N1 Z1) Qr (jEf j pc (.ldc idx) L st m)) : (jGo p l e R s mm args below meth c Qf D b0 ext cA sl sx n0 z0 N1 Z1 pc L st m) := by
  have h : jSem C (jGo p l e R s mm args below meth c Qf D b0 ext cA sl sx n0 z0 N1 Z1) Qr (if (jfind2 jLd (jO j) idx).isSome then kop (jfind2 jLd (jO j) idx) fun q => jN (pc + 2) L (.int q.1 :: st) m else kop (jfind2 jLs (jO j) idx) fun q => jN (pc + 2) L (.ref (jScr + 1 + q.1) :: st) m) := h
  obtain ⟨hx, hb, hml, hr, hown, hts, hK, hz, hnm, hlk, hE, -⟩ := id hC
  split at h
  · obtain ⟨q, hq, h⟩ := jS_op h
    exact ⟨h.1, fun H locs ls hl hs h1 h2 => lv_ldc hx hb hown (hts _ (g_mem (k_ld _ (jfind2_mem hq)) rfl)) hd (h.2 H locs ls hl hs h1 h2)⟩
  · obtain ⟨q, hq, h⟩ := jS_op h
    refine ⟨h.1, fun H locs ls hl hs h1 h2 => ?_⟩
    have hh := h.2 H locs ls hl hs h1 h2
    have hR := hE.2.2.1 _ (jfind2_mem hq)
    refine va_ldcS hx hb hown hR hd ?_
    have e1 : ext (jScr + 1 + q.1) = jad b0 ext (jScr + 1 + q.1) := by rw [jad, if_neg (by omega)]
    show W p l e R s mm args below meth c H locs (mN m - n0) (mZ m - z0) Qf (F0 mm (pc + 2) ls (.ref (ext (jScr + 1 + q.1)) :: st.map (jcv b0 ext)))
    rw [e1]
    exact hh
end JSA
