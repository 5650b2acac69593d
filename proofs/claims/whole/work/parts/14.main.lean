/-! ===== SOUNDNESS, the whole ===== -/
section JSW
variable {p : Program} {l : Launch} {e : Env} {R : Room} {s : State} {mm : MethodId} {args : Array Value} {below : List Frame} {meth : Method} {c : Code} {Qf : State → Prop} {D : va_G} {b0 : Nat} {ext : Nat → Nat} {cA : Nat → ClassId} {sl : Nat} {sx : Nat → Int32} {n0 z0 N1 Z1 d j : Nat}
variable {Qr : Option Value → jmM → Prop} {pc : Nat} {L : List (Option Value)} {st : List Value} {m : jmM}
theorem jn1 {n k : Nat} (h : n = k + 1 ∨ k + 1 = 0) : n = k + 1 := by omega
theorem jS_ri {K : Nat → List (Option Value) → List Value → jmM → Prop} {C : jCC} {f : Int32 → jRes} (h : jSem C K Qr (kri st f)) : ∃ x, st = [.int x] ∧ jSem C K Qr (f x) := by
  unfold kri at h
  split at h
  · exact ⟨_, rfl, h⟩
  · exact h.elim
theorem jS_rl {K : Nat → List (Option Value) → List Value → jmM → Prop} {C : jCC} {f : Int64 → jRes} (h : jSem C K Qr (krl st f)) : ∃ x, st = [.long x] ∧ jSem C K Qr (f x) := by
  unfold krl at h
  split at h
  · exact ⟨_, rfl, h⟩
  · exact h.elim
theorem jS_rq {K : Nat → List (Option Value) → List Value → jmM → Prop} {C : jCC} {f : Value → jRes} (h : jSem C K Qr (krq st f)) : ∃ v, st = [v] ∧ (v = .null ∨ ∃ a, v = .ref a) ∧ jSem C K Qr (f v) := by
  unfold krq at h
  split at h
  · exact ⟨_, rfl, Or.inr ⟨_, rfl⟩, h⟩
  · exact ⟨_, rfl, Or.inl rfl, h⟩
  · exact h.elim
theorem jS_r0 {K : Nat → List (Option Value) → List Value → jmM → Prop} {C : jCC} {f : jRes} (h : jSem C K Qr (kr0 st f)) : st = [] ∧ jSem C K Qr f := by
  unfold kr0 at h
  split at h
  · exact ⟨rfl, h⟩
  · exact h.elim
theorem jdispatch {i : Instr} {n : Nat} (hO : jOwes l D b0 ext cA sl sx d) (hR1 : N1 - n0 ≤ R.cells) (hR2 : Z1 - z0 ≤ R.slots) (hN1 : N1 ≤ jScr) (hC : jCtx p l e R s mm args meth c D b0 ext cA sl sx d j n0) (hd : decode (jB j) pc = .ok (i, n)) (hn : n = jLen i ∨ jLen i = 0)
    (hstr : ∀ {idx i p1 p2 p3 : Nat} {a : Nat} {r : List Value}, decode (jB j) pc = .ok (.invokevirtual idx, 3) → (jO j, idx, 17, i, 0, p1, p2, p3) ∈ jSt → jScr < a → a ≤ jScr + 16 → r.length ≤ 4 → (jGo p l e R s mm args below meth c Qf D b0 ext cA sl sx n0 z0 N1 Z1 (pc + 3) L (.int (nI (jCh.getD (a - jScr - 1) []).length) :: r) m) → (jGo p l e R s mm args below meth c Qf D b0 ext cA sl sx n0 z0 N1 Z1 pc L (.ref a :: r) m))
    (hchr : ∀ {idx i p1 p2 p3 : Nat} {a : Nat} {x : Int32} {r : List Value}, decode (jB j) pc = .ok (.invokevirtual idx, 3) → (jO j, idx, 18, i, 1, p1, p2, p3) ∈ jSt → jScr < a → a ≤ jScr + 16 → r.length ≤ 4 → 0 ≤ x.toInt → x.toInt < ((jCh.getD (a - jScr - 1) []).length : Int) → (jGo p l e R s mm args below meth c Qf D b0 ext cA sl sx n0 z0 N1 Z1 (pc + 3) L (.int ((jCh.getD (a - jScr - 1) []).getD (jx x) 0) :: r) m) → (jGo p l e R s mm args below meth c Qf D b0 ext cA sl sx n0 z0 N1 Z1 pc L (.int x :: .ref a :: r) m))
    (hret : (i = .ireturn ∨ i = .lreturn ∨ i = .areturn ∨ i = .return_) → jSem (CC d) (jGo p l e R s mm args below meth c Qf D b0 ext cA sl sx n0 z0 N1 Z1) Qr (jEf j pc i L st m) → (jGo p l e R s mm args below meth c Qf D b0 ext cA sl sx n0 z0 N1 Z1 pc L st m))
    (h : jSem (CC d) (jGo p l e R s mm args below meth c Qf D b0 ext cA sl sx n0 z0 N1 Z1) Qr (jEf j pc i L st m)) : (jGo p l e R s mm args below meth c Qf D b0 ext cA sl sx n0 z0 N1 Z1 pc L st m) := by
  cases i
  case iconst => obtain rfl := jn1 hn; exact s_iconst hC hd h
  case bipush => obtain rfl := jn1 hn; exact s_bipush hC hd h
  case sipush => obtain rfl := jn1 hn; exact s_sipush hC hd h
  case lconst => obtain rfl := jn1 hn; exact s_lconst hC hd h
  case aconst_null => obtain rfl := jn1 hn; exact s_aconst_null hC hd h
  case iload_n => obtain rfl := jn1 hn; exact s_iload_n hC hd h
  case iload => obtain rfl := jn1 hn; exact s_iload hC hd h
  case lload_n => obtain rfl := jn1 hn; exact s_lload_n hC hd h
  case lload => obtain rfl := jn1 hn; exact s_lload hC hd h
  case aload_n => obtain rfl := jn1 hn; exact s_aload_n hC hd h
  case aload => obtain rfl := jn1 hn; exact s_aload hC hd h
  case istore_n => obtain rfl := jn1 hn; exact s_istore_n hC hd h
  case istore => obtain rfl := jn1 hn; exact s_istore hC hd h
  case lstore_n => obtain rfl := jn1 hn; exact s_lstore_n hC hd h
  case lstore => obtain rfl := jn1 hn; exact s_lstore hC hd h
  case astore_n => obtain rfl := jn1 hn; exact s_astore_n hC hd h
  case astore => obtain rfl := jn1 hn; exact s_astore hC hd h
  case iinc => obtain rfl := jn1 hn; exact s_iinc hC hd h
  case iadd => obtain rfl := jn1 hn; exact s_iadd hC hd h
  case isub => obtain rfl := jn1 hn; exact s_isub hC hd h
  case imul => obtain rfl := jn1 hn; exact s_imul hC hd h
  case iand => obtain rfl := jn1 hn; exact s_iand hC hd h
  case ior => obtain rfl := jn1 hn; exact s_ior hC hd h
  case ishr => obtain rfl := jn1 hn; exact s_ishr hC hd h
  case iushr => obtain rfl := jn1 hn; exact s_iushr hC hd h
  case ineg => obtain rfl := jn1 hn; exact s_ineg hC hd h
  case ladd => obtain rfl := jn1 hn; exact s_ladd hC hd h
  case lsub => obtain rfl := jn1 hn; exact s_lsub hC hd h
  case lmul => obtain rfl := jn1 hn; exact s_lmul hC hd h
  case land => obtain rfl := jn1 hn; exact s_land hC hd h
  case lor => obtain rfl := jn1 hn; exact s_lor hC hd h
  case lshl => obtain rfl := jn1 hn; exact s_lshl hC hd h
  case lcmp => obtain rfl := jn1 hn; exact s_lcmp hC hd h
  case i2l => obtain rfl := jn1 hn; exact s_i2l hC hd h
  case l2i => obtain rfl := jn1 hn; exact s_l2i hC hd h
  case i2b => obtain rfl := jn1 hn; exact s_i2b hC hd h
  case idiv => obtain rfl := jn1 hn; exact s_idiv hC hd h
  case ldiv => obtain rfl := jn1 hn; exact s_ldiv hC hd h
  case lrem => obtain rfl := jn1 hn; exact s_lrem hC hd h
  case dup => obtain rfl := jn1 hn; exact s_dup hC hd h
  case pop => obtain rfl := jn1 hn; exact s_pop hC hd h
  case dup2 => obtain rfl := jn1 hn; exact s_dup2 hC hd h
  case goto => obtain rfl := jn1 hn; exact s_goto hC hd h
  case ifnull => obtain rfl := jn1 hn; exact s_ifnull hC hd h
  case ifnonnull => obtain rfl := jn1 hn; exact s_ifnonnull hC hd h
  case getfield => obtain rfl := jn1 hn; exact s_getfield hC hd h
  case putfield => obtain rfl := jn1 hn; exact s_putfield hC hd h
  case iaload => obtain rfl := jn1 hn; exact s_iaload hC hd h
  case arraylength => obtain rfl := jn1 hn; exact s_arraylength hC hd h
  case baload => obtain rfl := jn1 hn; exact s_baload hC hd h
  case laload => obtain rfl := jn1 hn; exact s_laload hC hd h
  case aaload => obtain rfl := jn1 hn; exact s_aaload hC hd h
  case iastore => obtain rfl := jn1 hn; exact s_iastore hC hd h
  case lastore => obtain rfl := jn1 hn; exact s_lastore hC hd h
  case bastore => obtain rfl := jn1 hn; exact s_bastore hC hd h
  case aastore => obtain rfl := jn1 hn; exact s_aastore hC hd h
  case ldc => obtain rfl := jn1 hn; exact s_ldc hC hd h
  case ldc_w => obtain rfl := jn1 hn; exact s_ldc_w hC hd h
  case ldc2_w => obtain rfl := jn1 hn; exact s_ldc2_w hC hd h
  case new => obtain rfl := jn1 hn; exact s_new hR1 hR2 hN1 hC hd h
  case newarray => obtain rfl := jn1 hn; exact s_newarray hR1 hR2 hN1 hC hd h
  case anewarray => obtain rfl := jn1 hn; exact s_anewarray hR1 hR2 hN1 hC hd h
  case invokestatic => obtain rfl := jn1 hn; exact s_invokestatic hO hR1 hR2 hN1 hC hd h
  case invokespecial => obtain rfl := jn1 hn; exact s_invokespecial hO hR1 hR2 hN1 hC hd h
  case invokevirtual idx => obtain rfl := jn1 hn; exact s_invokevirtual hO hR1 hR2 hN1 hC hd (hstr hd) (hchr hd) h
  case tableswitch => exact s_tableswitch hC hd h
  case lookupswitch => exact s_lookupswitch hC hd h
  case ifCond c off =>
    obtain rfl := jn1 hn
    cases c
    case eq => exact s_if_eq hC hd h
    case ne => exact s_if_ne hC hd h
    case lt => exact s_if_lt hC hd h
    case ge => exact s_if_ge hC hd h
    case gt => exact s_if_gt hC hd h
    case le => exact s_if_le hC hd h
  case if_icmp c off =>
    obtain rfl := jn1 hn
    cases c
    case eq => exact s_icmp_eq hC hd h
    case ne => exact s_icmp_ne hC hd h
    case lt => exact s_icmp_lt hC hd h
    case ge => exact s_icmp_ge hC hd h
    case gt => exact s_icmp_gt hC hd h
    case le => exact s_icmp_le hC hd h
  case ireturn => exact hret (by simp) h
  case lreturn => exact hret (by simp) h
  case areturn => exact hret (by simp) h
  case return_ => exact hret (by simp) h
  all_goals exact h.elim
theorem s_ret {i : Instr} {n : Nat} {m1 : jmM} {v1 : Option Value} {C : jCC} (hC : jCtx p l e R s mm args meth c D b0 ext cA sl sx d j n0) (hd : decode (jB j) pc = .ok (i, n)) (hn : n = jLen i ∨ jLen i = 0) (hi : i = .ireturn ∨ i = .lreturn ∨ i = .areturn ∨ i = .return_) (hQ : Qf = MQ below (jPost D b0 ext cA sl sx m1 v1) args s (mN m1 - n0) (mZ m1 - z0) (fun q => b0 ≤ q)) (hNN : N1 = mN m1) (hZZ : Z1 = mZ m1) (h : jSem C (jGo p l e R s mm args below meth c Qf D b0 ext cA sl sx n0 z0 N1 Z1) (fun v m => v = v1 ∧ m = m1) (jEf j pc i L st m)) : (jGo p l e R s mm args below meth c Qf D b0 ext cA sl sx n0 z0 N1 Z1 pc L st m) := by
  obtain ⟨hx, hb, hml, hr, hown, hts, hK, hz, hnm, hlk, hE, -⟩ := id hC
  subst hNN hZZ hQ
  have post : ∀ (v : Option Value) (H : Heap) (locs : List Loc), jSim D b0 ext cA sl sx m1 s.heap H locs → ∀ t : State, t.heap = H → s.WarmedH t.vm → jPost D b0 ext cA sl sx m1 v args s (.returned (v.map (jcv b0 ext))) t := by
    intro v H locs hs t ht hW
    obtain ⟨hP, hD, hS, hok⟩ := hs
    exact ⟨rfl, by rw [ht]; exact hP, hD, hok, hS.F ht⟩
  rcases hi with rfl | rfl | rfl | rfl
  · obtain rfl := jn1 hn
    obtain ⟨x, rfl, h⟩ := jS_ri h
    obtain ⟨hg, h⟩ := jSem_G.mp h
    obtain ⟨hv, hm⟩ := h
    subst hm; subst hv
    refine ⟨⟨Nat.le_refl _, Nat.le_refl _⟩, fun H locs ls hl hs h1 h2 => ?_⟩
    rcases hg with hg | ⟨hg, h01⟩
    · exact W.iret hx hb (by rw [hr]; exact hg) (post _ H locs hs) hs.2.2.1.2.2 hd
    · exact W.zret hx hb (by rw [hr]; exact hg) (by rcases h01 with rfl | rfl <;> rfl) (post _ H locs hs) hs.2.2.1.2.2 hd
  · obtain rfl := jn1 hn
    obtain ⟨x, rfl, h⟩ := jS_rl h
    obtain ⟨hg, h⟩ := jSem_G.mp h
    obtain ⟨hv, hm⟩ := h
    subst hm; subst hv
    exact ⟨⟨Nat.le_refl _, Nat.le_refl _⟩, fun H locs ls hl hs h1 h2 => W.lret hx hb (by rw [hr]; exact hg) (post _ H locs hs) hs.2.2.1.2.2 hd⟩
  · obtain rfl := jn1 hn
    have h : jSem C _ (fun v m => v = v1 ∧ m = m1) (krq st fun v => jG (jIsObj (jRt j) = true) inferInstance (jRet (some v) m)) := h
    obtain ⟨v, rfl, hv0, h⟩ := jS_rq h
    obtain ⟨hg, h⟩ := jSem_G.mp h
    obtain ⟨hv, hm⟩ := h
    subst hm; subst hv
    have hrt : ∃ rt nm, jRt j = some rt ∧ rt = .object nm := by
      unfold jIsObj at hg
      split at hg
      · next nm e1 => exact ⟨_, nm, e1, rfl⟩
      · cases hg
    obtain ⟨rt, nm, e1, e2⟩ := hrt
    refine ⟨⟨Nat.le_refl _, Nat.le_refl _⟩, fun H locs ls hl hs h1 h2 => W.aret hx hb (by rw [hr]; exact e1) (Or.inl ⟨nm, e2⟩) ?_ (post _ H locs hs) hs.2.2.1.2.2 hd⟩
    rcases hv0 with rfl | ⟨a, rfl⟩
    · exact Or.inl rfl
    · exact Or.inr ⟨_, rfl⟩
  · obtain rfl := jn1 hn
    obtain ⟨rfl, h⟩ := jS_r0 h
    obtain ⟨hg, h⟩ := jSem_G.mp h
    obtain ⟨hv, hm⟩ := h
    subst hm; subst hv
    exact ⟨⟨Nat.le_refl _, Nat.le_refl _⟩, fun H locs ls hl hs h1 h2 => W.vret hx hb (by rw [hr]; exact hg) (post _ H locs hs) hs.2.2.1.2.2 hd⟩
end JSW
