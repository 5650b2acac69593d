/-! ===== SOUNDNESS, String.length and charAt on the constants ===== -/
section JST
variable {p : Program} {l : Launch} {e : Env} {R : Room} {s : State} {mm : MethodId} {args : Array Value} {below : List Frame} {meth : Method} {c : Code} {Qf : State → Prop} {D : va_G} {b0 : Nat} {ext : Nat → Nat} {cA : Nat → ClassId} {sl : Nat} {sx : Nat → Int32} {n0 z0 N1 Z1 d j : Nat}
variable {pc : Nat} {L : List (Option Value)} {m : jmM}
theorem s_strlen {idx i p1 p2 p3 : Nat} {a : Nat} {r : List Value} (hC : jCtx p l e R s mm args meth c D b0 ext cA sl sx d j n0) (hd : decode (jB j) pc = .ok (.invokevirtual idx, 3)) (hq : (jO j, idx, 17, i, 0, p1, p2, p3) ∈ jSt) (h1 : jScr < a) (h2 : a ≤ jScr + 16) (h3 : r.length ≤ 4) (h : (jGo p l e R s mm args below meth c Qf D b0 ext cA sl sx n0 z0 N1 Z1 (pc + 3) L (.int (nI (jCh.getD (a - jScr - 1) []).length) :: r) m)) : (jGo p l e R s mm args below meth c Qf D b0 ext cA sl sx n0 z0 N1 Z1 pc L (.ref a :: r) m) := by
  sorry
theorem s_charat {idx i p1 p2 p3 : Nat} {a : Nat} {x : Int32} {r : List Value} (hC : jCtx p l e R s mm args meth c D b0 ext cA sl sx d j n0) (hd : decode (jB j) pc = .ok (.invokevirtual idx, 3)) (hq : (jO j, idx, 18, i, 1, p1, p2, p3) ∈ jSt) (h1 : jScr < a) (h2 : a ≤ jScr + 16) (h3 : r.length ≤ 4) (h4 : 0 ≤ x.toInt) (h5 : x.toInt < ((jCh.getD (a - jScr - 1) []).length : Int)) (h : (jGo p l e R s mm args below meth c Qf D b0 ext cA sl sx n0 z0 N1 Z1 (pc + 3) L (.int ((jCh.getD (a - jScr - 1) []).getD (jx x) 0) :: r) m)) : (jGo p l e R s mm args below meth c Qf D b0 ext cA sl sx n0 z0 N1 Z1 pc L (.int x :: .ref a :: r) m) := by
  sorry
end JST
