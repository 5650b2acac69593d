/-! ===== SOUNDNESS, the instructions on cells ===== -/
section JSM
variable {p : Program} {l : Launch} {e : Env} {R : Room} {s : State} {mm : MethodId} {args : Array Value} {below : List Frame} {meth : Method} {c : Code} {Qf : State → Prop} {D : va_G} {b0 : Nat} {ext : Nat → Nat} {cA : Nat → ClassId} {sl : Nat} {sx : Nat → Int32} {n0 z0 N1 Z1 d j : Nat}
variable {C : jCC} {Qr : Option Value → jmM → Prop} {pc : Nat} {L : List (Option Value)} {st : List Value} {m : jmM}
theorem jlt {a : Nat} (hok : jOKm sl sx m) (h : (mS m a).1 ≠ 99) : a < mN m := by
  rcases Nat.lt_or_ge a (mN m) with h1 | h1
  · exact h1
  · exact absurd (hok.2.1 a h1) h
theorem jadN {a : Nat} (hok : jOKm sl sx m) (h : a < mN m) : jad b0 ext a = b0 + a := jad_lt (Nat.lt_of_lt_of_le h hok.2.2.1)
theorem jcell_o {a ci : Nat} (h : (mS m a).1 = ci) (hci : ci < 13) : jcell b0 ext cA m a = .inr (ci, (List.range (jNF ci)).map (fun i => jcv b0 ext (jval (jTy ci i) m a i))) := by
  subst h
  rw [jcell, if_pos hci]; rfl
theorem jcell_i {a q : Nat} (h : (mS m a).1 = q) (hq : q = 20 ∨ q = 22 ∨ q = 23) : jcell b0 ext cA m a = .inl (cA q, ((mS m a).2, .inl (mI m a))) := by
  rw [jcell, if_neg (by omega), jcont, if_neg (by omega), if_neg (by omega), h]
theorem jcell_l {a : Nat} (h : (mS m a).1 = 21) : jcell b0 ext cA m a = .inl (cA 21, ((mS m a).2, .inr (.inl (mL m a)))) := by
  rw [jcell, if_neg (by omega), jcont, if_pos h, h]
theorem jcell_r {a q : Nat} (h : (mS m a).1 = q) (hq : 24 ≤ q) : jcell b0 ext cA m a = .inl (cA q, ((mS m a).2, .inr (.inr (.inr (.inr (fun i => (mR m a i).map (jad b0 ext))))))) := by
  rw [jcell, if_neg (by omega), jcont, if_neg (by omega), if_pos (by omega), h]
theorem j_st {m1 : jmM} {a : Nat} {x : va_E} {H H1 H0 : Heap} {locs locs1 : List Loc} (hs : jSim D b0 ext cA sl sx m H0 H locs) (ha : a < mN m) (hn : mN m1 = mN m) (hS : mS m1 = mS m) (ho : ∀ b, b ≠ a → mI m1 b = mI m b ∧ mL m1 b = mL m b ∧ mR m1 b = mR m b) (hc : jcell b0 ext cA m1 a = x)
    (hP1 : va_P D vwCl ((jws b0 ext cA m).set a (b0 + a, x)) H1) (hD1 : va_D (fun q => b0 ≤ q) ((jws b0 ext cA m).set a (b0 + a, x))) (hS1 : va_S (fun q => b0 ≤ q) H0 H1 locs1) : jSim D b0 ext cA sl sx m1 H0 H1 locs1 := by
  obtain ⟨hP, hD, hS0, hok⟩ := hs
  rw [jws_set hn hc (fun k hk => jcell_congr (ho k hk).1 (ho k hk).2.1 (ho k hk).2.2 (by rw [hS]))] at hP1 hD1
  have hscr : jScr ≠ a := by have := hok.2.2.1; omega
  exact ⟨hP1, hD1, hS1, by rw [hn, hS]; exact hok.1, by rw [hn, hS]; exact hok.2.1, by rw [hn]; exact hok.2.2.1, by rw [hS]; exact hok.2.2.2.1, by rw [(ho jScr hscr).1]; exact hok.2.2.2.2⟩
theorem jupN {α : Type} {f : Nat → α} {i k : Nat} {v : α} (h : k ≠ i) : jup f i v k = f k := if_neg h
theorem jupS {α : Type} {f : Nat → α} {i : Nat} {v : α} : jup f i v i = v := if_pos rfl
theorem oI {a : Nat} {f : Nat → Int32} : ∀ b, b ≠ a → mI (cI m a f) b = mI m b ∧ mL (cI m a f) b = mL m b ∧ mR (cI m a f) b = mR m b := fun b hb => ⟨jupN hb, rfl, rfl⟩
theorem oL {a : Nat} {f : Nat → Int64} : ∀ b, b ≠ a → mI (cL m a f) b = mI m b ∧ mL (cL m a f) b = mL m b ∧ mR (cL m a f) b = mR m b := fun b hb => ⟨rfl, jupN hb, rfl⟩
theorem oR {a : Nat} {f : Nat → Option Nat} : ∀ b, b ≠ a → mI (cR m a f) b = mI m b ∧ mL (cR m a f) b = mL m b ∧ mR (cR m a f) b = mR m b := fun b hb => ⟨rfl, rfl, jupN hb⟩
theorem s_getfield {idx : Nat} (hC : jCtx p l e R s mm args meth c D b0 ext cA sl sx d j n0) (hd : decode (jB j) pc = .ok (.getfield idx, 3)) (h : jSem C (jGo p l e R s mm args below meth c Qf D b0 ext cA sl sx n0 z0 N1 Z1) Qr (jEf j pc (.getfield idx) L st m)) : (jGo p l e R s mm args below meth c Qf D b0 ext cA sl sx n0 z0 N1 Z1 pc L st m) := by
  obtain ⟨a, r, rfl, h⟩ := jS_1a h
  obtain ⟨q, hq, h⟩ := jS_op h
  obtain ⟨hg, h⟩ := jSem_G.mp h
  obtain ⟨ci, k, p1⟩ := q
  obtain ⟨hw, hk, hci, -, he⟩ := k_fl _ (jfind2_mem hq)
  obtain ⟨hx, hb, hml, hr, hown, hts, hK, -⟩ := id hC
  refine ⟨h.1, fun H locs ls hl hs h1 h2 => ?_⟩
  obtain ⟨hP, hD, hS, hok⟩ := id hs
  dsimp only at hw hk hci he hg
  have ha : a < mN m := jlt hok (by omega)
  have hh := h.2 H locs ls hl hs h1 h2
  show W p l e R s mm args below meth c H locs _ _ Qf (F0 mm pc ls (.ref (jad b0 ext a) :: r.map (jcv b0 ext)))
  rw [jadN hok ha]
  refine va_get hx hb hts (jhin hci) hown hK hP a (by rw [jws_at ha, jcell_o hg hci]) (jvw hci) k hk (hts _ (g_mem hw rfl)) (fun _ h => h) (v := jcv b0 ext (jval (jTy ci k) m a k)) ?_ hd hh
  rw [List.getElem?_map, List.getElem?_range hk]; rfl
theorem jS_pf {K : Nat → List (Option Value) → List Value → jmM → Prop} {f : Value → Nat → List Value → jRes} (h : jSem C K Qr (kpf st f)) : ∃ v a r, st = v :: .ref a :: r ∧ jSem C K Qr (f v a r) := by
  unfold kpf at h
  split at h
  · exact ⟨_, _, _, rfl, h⟩
  · exact h.elim
theorem jS_put {K : Nat → List (Option Value) → List Value → jmM → Prop} {ty : FieldType} {a k : Nat} {v : Value} {f : jmM → jRes} (h : jSem C K Qr (jPut ty m a k v f)) : ∃ m1, jSem C K Qr (f m1) ∧ mN m1 = mN m ∧ mZ m1 = mZ m ∧ mS m1 = mS m ∧ (∀ b, b ≠ a → mI m1 b = mI m b ∧ mL m1 b = mL m b ∧ mR m1 b = mR m b) ∧ (∀ i ty2, i ≠ k → jval ty2 m1 a i = jval ty2 m a i) ∧ jval ty m1 a k = v ∧ narrow ty (jcv b0 ext v) = jcv b0 ext v ∧ fits ty (jcv b0 ext v) = true := by
  have key : ∀ {i : Nat} {ty2 : FieldType} {m1 : jmM}, mI m1 a i = mI m a i → mL m1 a i = mL m a i → mR m1 a i = mR m a i → jval ty2 m1 a i = jval ty2 m a i := by
    intro i ty2 m1 e1 e2 e3
    cases ty2 <;> simp [jval, e1, e2, e3]
  have kI : ∀ {x : Int32} (i : Nat) (ty2 : FieldType), i ≠ k → jval ty2 (cI m a (jup (mI m a) k x)) a i = jval ty2 m a i := fun i ty2 hi => key (by show jup m.1 a _ a i = _; rw [jupS, jupN hi]) rfl rfl
  have kL : ∀ {x : Int64} (i : Nat) (ty2 : FieldType), i ≠ k → jval ty2 (cL m a (jup (mL m a) k x)) a i = jval ty2 m a i := fun i ty2 hi => key rfl (by show jup m.2.1 a _ a i = _; rw [jupS, jupN hi]) rfl
  have kR : ∀ {x : Option Nat} (i : Nat) (ty2 : FieldType), i ≠ k → jval ty2 (cR m a (jup (mR m a) k x)) a i = jval ty2 m a i := fun i ty2 hi => key rfl rfl (by show jup m.2.2.1 a _ a i = _; rw [jupS, jupN hi])
  have vI : ∀ x : Int32, mI (cI m a (jup (mI m a) k x)) a k = x := fun x => by show jup m.1 a _ a k = _; rw [jupS, jupS]
  have vL : ∀ x : Int64, mL (cL m a (jup (mL m a) k x)) a k = x := fun x => by show jup m.2.1 a _ a k = _; rw [jupS, jupS]
  have vR : ∀ x : Option Nat, mR (cR m a (jup (mR m a) k x)) a k = x := fun x => by show jup m.2.2.1 a _ a k = _; rw [jupS, jupS]
  unfold jPut at h
  split at h
  · exact ⟨_, h, rfl, rfl, rfl, oI, kI, by rw [jval, vI] <;> simp, rfl, rfl⟩
  · obtain ⟨hg, h⟩ := jSem_G.mp h
    refine ⟨_, h, rfl, rfl, rfl, oI, kI, by rw [jval, vI] <;> simp, ?_, ?_⟩ <;> rcases hg with rfl | rfl <;> rfl
  · exact ⟨_, h, rfl, rfl, rfl, oL, kL, by rw [jval, vL], rfl, rfl⟩
  · exact ⟨_, h, rfl, rfl, rfl, oR, kR, by rw [jval, vR]; rfl, rfl, rfl⟩
  · exact ⟨_, h, rfl, rfl, rfl, oR, kR, by rw [jval, vR]; rfl, rfl, rfl⟩
  · exact ⟨_, h, rfl, rfl, rfl, oR, kR, by rw [jval, vR]; rfl, rfl, rfl⟩
  · exact ⟨_, h, rfl, rfl, rfl, oR, kR, by rw [jval, vR]; rfl, rfl, rfl⟩
  · exact h.elim
theorem s_putfield {idx : Nat} (hC : jCtx p l e R s mm args meth c D b0 ext cA sl sx d j n0) (hd : decode (jB j) pc = .ok (.putfield idx, 3)) (h : jSem C (jGo p l e R s mm args below meth c Qf D b0 ext cA sl sx n0 z0 N1 Z1) Qr (jEf j pc (.putfield idx) L st m)) : (jGo p l e R s mm args below meth c Qf D b0 ext cA sl sx n0 z0 N1 Z1 pc L st m) := by
  obtain ⟨v, a, r, e0, h⟩ := jS_pf h
  subst e0
  obtain ⟨q, hq, h⟩ := jS_op h
  obtain ⟨hg, h⟩ := jSem_G.mp h
  obtain ⟨ci, k, p1⟩ := q
  obtain ⟨hw, hk, hci, -, he⟩ := k_fl _ (jfind2_mem hq)
  obtain ⟨m1, h, hn, hz, hsh, ho, hi, hv, hnar, hfit⟩ := jS_put (b0 := b0) (ext := ext) h
  obtain ⟨hx, hb, hml, hr, hown, hts, hK, -, hnm, -⟩ := id hC
  have h : (jGo p l e R s mm args below meth c Qf D b0 ext cA sl sx n0 z0 N1 Z1 (pc + 3) L r m1) := h
  refine ⟨by have := h.1; rw [hn, hz] at this; exact this, fun H locs ls hl hs h1 h2 => ?_⟩
  obtain ⟨hP, hD, hS, hok⟩ := id hs
  dsimp only at hw hk hci he hg hv hi hnar hfit
  have ha : a < mN m := jlt hok (by omega)
  show W p l e R s mm args below meth c H locs _ _ Qf (F0 mm pc ls (jcv b0 ext v :: .ref (jad b0 ext a) :: r.map (jcv b0 ext)))
  rw [jadN hok ha]
  have hcell : jcell b0 ext cA m1 a = .inr (ci, ((List.range (jNF ci)).map (fun i => jcv b0 ext (jval (jTy ci i) m a i))).set k (jcv b0 ext v)) := by
    rw [jcell_o (by rw [hsh]; exact hg.1) hci]
    congr 2
    apply List.ext_getElem?
    intro i
    by_cases hik : i = k
    · subst hik
      rw [List.getElem?_set_self (by simpa using hk), List.getElem?_map, List.getElem?_range hk]
      show some (jcv b0 ext (jval (jTy ci i) m1 a i)) = _
      rw [hv]
    · rw [List.getElem?_set_ne (Ne.symm hik), List.getElem?_map, List.getElem?_map]
      by_cases hiN : i < jNF ci
      · rw [List.getElem?_range hiN]
        show some (jcv b0 ext (jval (jTy ci i) m1 a i)) = some (jcv b0 ext (jval (jTy ci i) m a i))
        rw [hi i _ hik]
      · rw [List.getElem?_eq_none (by simp; omega)]; rfl
  have hpl : (jws b0 ext cA m)[a]? = some (b0 + a, .inr (ci, (List.range (jNF ci)).map (fun i => jcv b0 ext (jval (jTy ci i) m a i)))) := by rw [jws_at ha, jcell_o hg.1 hci]
  have kk : ∀ (H1 : Heap) (locs1 : List Loc), va_P D vwCl ((jws b0 ext cA m).set a (b0 + a, .inr (ci, ((List.range (jNF ci)).map (fun i => jcv b0 ext (jval (jTy ci i) m a i))).set k (jcv b0 ext v)))) H1 → va_D (fun q => b0 ≤ q) ((jws b0 ext cA m).set a (b0 + a, .inr (ci, ((List.range (jNF ci)).map (fun i => jcv b0 ext (jval (jTy ci i) m a i))).set k (jcv b0 ext v)))) → va_S (fun q => b0 ≤ q) s.heap H1 locs1 → W p l e R s mm args below meth c H1 locs1 (mN m - n0) (mZ m - z0) Qf (F0 mm (pc + 3) ls (r.map (jcv b0 ext))) := by
    intro H1 locs1 hP1 hD1 hS1
    have := h.2 H1 locs1 ls hl (j_st hs ha hn hsh ho hcell hP1 hD1 hS1) (by rw [hn]; exact h1) (by rw [hz]; exact h2)
    rw [hn, hz] at this
    exact this
  by_cases hf : (jT ci k).2.2.2 = true
  · exact va_putF hx hb hts (jhin hci) (jTy ci) (jty_ok hci) (jnm hci) hown hK hP hD hS a hpl (jvw hci) k hk (hts _ (g_mem hw rfl)) (fun _ h => h) hf (hnm (hg.2 hf).1) (by rw [he, (hg.2 hf).2]) (jty_ok hci k hk) hnar hfit (by simpa using hk) hd kk
  · exact va_put hx hb hts (jhin hci) (jTy ci) (jty_ok hci) (jnm hci) hown hK hP hD hS a hpl (jvw hci) k hk (hts _ (g_mem hw rfl)) (fun _ h => h) (by simpa using hf) (jty_ok hci k hk) hnar hfit (by simpa using hk) hd kk
end JSM
