/-! steps of PulledCrystal$Desk, by program -/
theorem hB_X1_init : jB 10 = cX1_init := rfl
theorem hO_X1_init : jO 10 = 1 := rfl
theorem hR_X1_init : jRt 10 = none := rfl
theorem nX1_init (d : Nat) (x0 : Nat) (m : jmM) (Q : Option Value → jmM → Prop) : CC (d + 1) 10 [.ref x0] m Q ↔ AW d 10 0 [some (.ref x0)] [] m Q := CC_body (Nat.le_of_ble_eq_true rfl)
theorem dX1_init_0 : decode cX1_init 0 = .ok (.aload_n 0, 1) := by decide +kernel
theorem tX1_init_0 {d : Nat} {x : Nat} {m : jmM} {Q : Option Value → jmM → Prop} : AW d 10 0 [some (.ref x)] [] m Q ↔ AW d 10 1 [some (.ref x)] [.ref x] m Q := A_aload_n hB_X1_init dX1_init_0 rfl
theorem dX1_init_1 : decode cX1_init 1 = .ok (.invokespecial 3, 3) := by decide +kernel
theorem tX1_init_1 {d : Nat} {l0 : Option Value} {a : Nat} {m : jmM} {Q : Option Value → jmM → Prop} : AW d 10 1 [l0] [.ref a] m Q ↔ AW d 10 4 [l0] [] m Q := A_obj hB_X1_init dX1_init_1 hO_X1_init fS_1_3 (Nat.le_of_ble_eq_true rfl)
theorem dX1_init_4 : decode cX1_init 4 = .ok (.aload_n 0, 1) := by decide +kernel
theorem tX1_init_4 {d : Nat} {x : Nat} {m : jmM} {Q : Option Value → jmM → Prop} : AW d 10 4 [some (.ref x)] [] m Q ↔ AW d 10 5 [some (.ref x)] [.ref x] m Q := A_aload_n hB_X1_init dX1_init_4 rfl
theorem dX1_init_5 : decode cX1_init 5 = .ok (.bipush 9, 2) := by decide +kernel
theorem tX1_init_5 {d : Nat} {l0 : Option Value} {v0 : Value} {m : jmM} {Q : Option Value → jmM → Prop} : AW d 10 5 [l0] [v0] m Q ↔ AW d 10 7 [l0] [.int 9, v0] m Q := A_bipush hB_X1_init dX1_init_5 rfl
theorem dX1_init_7 : decode cX1_init 7 = .ok (.newarray .long, 2) := by decide +kernel
theorem tX1_init_7 {d : Nat} {l0 : Option Value} {v1 : Value} {x : Int32} {m : jmM} {Q : Option Value → jmM → Prop} : AW d 10 7 [l0] [.int x, v1] m Q ↔ (0 ≤ x.toInt ∧ x.toInt ≤ 100000) ∧ AW d 10 9 [l0] [.ref (mN m), v1] (jNew m 21 (jx x)) Q := A_newarray hB_X1_init dX1_init_7 rfl
theorem dX1_init_9 : decode cX1_init 9 = .ok (.putfield 9, 3) := by decide +kernel
theorem tX1_init_9 {d : Nat} {l0 : Option Value} {x a : Nat} {m : jmM} {Q : Option Value → jmM → Prop} : AW d 10 9 [l0] [.ref x, .ref a] m Q ↔ (mS m a).1 = 1 ∧ AW d 10 12 [l0] [] (cR m a (jup (mR m a) 0 (some x))) Q := A_putR hB_X1_init dX1_init_9 hO_X1_init fF_1_9 rfl (fun _ => ⟨rfl, rfl⟩)
theorem tX1_init_9q {d : Nat} {l0 : Option Value} {x : Option Nat} {a : Nat} {m : jmM} {Q : Option Value → jmM → Prop} : AW d 10 9 [l0] [va_rf x, .ref a] m Q ↔ (mS m a).1 = 1 ∧ AW d 10 12 [l0] [] (cR m a (jup (mR m a) 0 x)) Q := A_putQ hB_X1_init dX1_init_9 hO_X1_init fF_1_9 rfl (fun _ => ⟨rfl, rfl⟩)
theorem tX1_init_9n {d : Nat} {l0 : Option Value} {a : Nat} {m : jmM} {Q : Option Value → jmM → Prop} : AW d 10 9 [l0] [.null, .ref a] m Q ↔ (mS m a).1 = 1 ∧ AW d 10 12 [l0] [] (cR m a (jup (mR m a) 0 none)) Q := A_putQ (x := none) hB_X1_init dX1_init_9 hO_X1_init fF_1_9 rfl (fun _ => ⟨rfl, rfl⟩)
theorem dX1_init_12 : decode cX1_init 12 = .ok (.aload_n 0, 1) := by decide +kernel
theorem tX1_init_12 {d : Nat} {x : Nat} {m : jmM} {Q : Option Value → jmM → Prop} : AW d 10 12 [some (.ref x)] [] m Q ↔ AW d 10 13 [some (.ref x)] [.ref x] m Q := A_aload_n hB_X1_init dX1_init_12 rfl
theorem dX1_init_13 : decode cX1_init 13 = .ok (.bipush 60, 2) := by decide +kernel
theorem tX1_init_13 {d : Nat} {l0 : Option Value} {v0 : Value} {m : jmM} {Q : Option Value → jmM → Prop} : AW d 10 13 [l0] [v0] m Q ↔ AW d 10 15 [l0] [.int 60, v0] m Q := A_bipush hB_X1_init dX1_init_13 rfl
theorem dX1_init_15 : decode cX1_init 15 = .ok (.newarray .long, 2) := by decide +kernel
theorem tX1_init_15 {d : Nat} {l0 : Option Value} {v1 : Value} {x : Int32} {m : jmM} {Q : Option Value → jmM → Prop} : AW d 10 15 [l0] [.int x, v1] m Q ↔ (0 ≤ x.toInt ∧ x.toInt ≤ 100000) ∧ AW d 10 17 [l0] [.ref (mN m), v1] (jNew m 21 (jx x)) Q := A_newarray hB_X1_init dX1_init_15 rfl
theorem dX1_init_17 : decode cX1_init 17 = .ok (.putfield 15, 3) := by decide +kernel
theorem tX1_init_17 {d : Nat} {l0 : Option Value} {x a : Nat} {m : jmM} {Q : Option Value → jmM → Prop} : AW d 10 17 [l0] [.ref x, .ref a] m Q ↔ (mS m a).1 = 1 ∧ AW d 10 20 [l0] [] (cR m a (jup (mR m a) 1 (some x))) Q := A_putR hB_X1_init dX1_init_17 hO_X1_init fF_1_15 rfl (fun _ => ⟨rfl, rfl⟩)
theorem tX1_init_17q {d : Nat} {l0 : Option Value} {x : Option Nat} {a : Nat} {m : jmM} {Q : Option Value → jmM → Prop} : AW d 10 17 [l0] [va_rf x, .ref a] m Q ↔ (mS m a).1 = 1 ∧ AW d 10 20 [l0] [] (cR m a (jup (mR m a) 1 x)) Q := A_putQ hB_X1_init dX1_init_17 hO_X1_init fF_1_15 rfl (fun _ => ⟨rfl, rfl⟩)
theorem tX1_init_17n {d : Nat} {l0 : Option Value} {a : Nat} {m : jmM} {Q : Option Value → jmM → Prop} : AW d 10 17 [l0] [.null, .ref a] m Q ↔ (mS m a).1 = 1 ∧ AW d 10 20 [l0] [] (cR m a (jup (mR m a) 1 none)) Q := A_putQ (x := none) hB_X1_init dX1_init_17 hO_X1_init fF_1_15 rfl (fun _ => ⟨rfl, rfl⟩)
theorem dX1_init_20 : decode cX1_init 20 = .ok (.aload_n 0, 1) := by decide +kernel
theorem tX1_init_20 {d : Nat} {x : Nat} {m : jmM} {Q : Option Value → jmM → Prop} : AW d 10 20 [some (.ref x)] [] m Q ↔ AW d 10 21 [some (.ref x)] [.ref x] m Q := A_aload_n hB_X1_init dX1_init_20 rfl
theorem dX1_init_21 : decode cX1_init 21 = .ok (.iconst 0, 1) := by decide +kernel
theorem tX1_init_21 {d : Nat} {l0 : Option Value} {v0 : Value} {m : jmM} {Q : Option Value → jmM → Prop} : AW d 10 21 [l0] [v0] m Q ↔ AW d 10 22 [l0] [.int 0, v0] m Q := A_iconst hB_X1_init dX1_init_21 (by decide)
theorem dX1_init_22 : decode cX1_init 22 = .ok (.putfield 18, 3) := by decide +kernel
theorem tX1_init_22 {d : Nat} {l0 : Option Value} {x : Int32} {a : Nat} {m : jmM} {Q : Option Value → jmM → Prop} : AW d 10 22 [l0] [.int x, .ref a] m Q ↔ (mS m a).1 = 1 ∧ AW d 10 25 [l0] [] (cI m a (jup (mI m a) 2 x)) Q := A_putI hB_X1_init dX1_init_22 hO_X1_init fF_1_18 rfl (fun h => Bool.noConfusion h)
theorem dX1_init_25 : decode cX1_init 25 = .ok (.return_, 1) := by decide +kernel
theorem tX1_init_25 {d : Nat} {l0 : Option Value} {m : jmM} {Q : Option Value → jmM → Prop} : AW d 10 25 [l0] [] m Q ↔ Q none m := A_return hB_X1_init dX1_init_25 hR_X1_init
theorem hB_X1_tell : jB 11 = cX1_tell := rfl
theorem hO_X1_tell : jO 11 = 1 := rfl
theorem hR_X1_tell : jRt 11 = none := rfl
theorem nX1_tell (d : Nat) (x0 : Nat) (x1 : Int32) (x2 : Int64) (m : jmM) (Q : Option Value → jmM → Prop) : CC (d + 1) 11 [.ref x0, .int x1, .long x2] m Q ↔ AW d 11 0 [some (.ref x0), some (.int x1), some (.long x2), none] [] m Q := CC_body (Nat.le_of_ble_eq_true rfl)
theorem dX1_tell_0 : decode cX1_tell 0 = .ok (.iload_n 1, 1) := by decide +kernel
theorem tX1_tell_0 {d : Nat} {l0 l2 l3 : Option Value} {x : Int32} {m : jmM} {Q : Option Value → jmM → Prop} : AW d 11 0 [l0, some (.int x), l2, l3] [] m Q ↔ AW d 11 1 [l0, some (.int x), l2, l3] [.int x] m Q := A_iload_n hB_X1_tell dX1_tell_0 rfl
theorem dX1_tell_1 : decode cX1_tell 1 = .ok (.ifCond .lt 19, 3) := by decide +kernel
theorem tX1_tell_1 {d : Nat} {l0 l1 l2 l3 : Option Value} {x : Int32} {m : jmM} {Q : Option Value → jmM → Prop} : AW d 11 1 [l0, l1, l2, l3] [.int x] m Q ↔ if x < 0 then AW d 11 20 [l0, l1, l2, l3] [] m Q else AW d 11 4 [l0, l1, l2, l3] [] m Q := A_if_lt hB_X1_tell dX1_tell_1 (by decide)
theorem dX1_tell_4 : decode cX1_tell 4 = .ok (.iload_n 1, 1) := by decide +kernel
theorem tX1_tell_4 {d : Nat} {l0 l2 l3 : Option Value} {x : Int32} {m : jmM} {Q : Option Value → jmM → Prop} : AW d 11 4 [l0, some (.int x), l2, l3] [] m Q ↔ AW d 11 5 [l0, some (.int x), l2, l3] [.int x] m Q := A_iload_n hB_X1_tell dX1_tell_4 rfl
theorem dX1_tell_5 : decode cX1_tell 5 = .ok (.aload_n 0, 1) := by decide +kernel
theorem tX1_tell_5 {d : Nat} {l1 l2 l3 : Option Value} {v0 : Value} {x : Nat} {m : jmM} {Q : Option Value → jmM → Prop} : AW d 11 5 [some (.ref x), l1, l2, l3] [v0] m Q ↔ AW d 11 6 [some (.ref x), l1, l2, l3] [.ref x, v0] m Q := A_aload_n hB_X1_tell dX1_tell_5 rfl
theorem dX1_tell_6 : decode cX1_tell 6 = .ok (.getfield 9, 3) := by decide +kernel
theorem tX1_tell_6 {d : Nat} {l0 l1 l2 l3 : Option Value} {v1 : Value} {a : Nat} {m : jmM} {Q : Option Value → jmM → Prop} : AW d 11 6 [l0, l1, l2, l3] [.ref a, v1] m Q ↔ (mS m a).1 = 1 ∧ AW d 11 9 [l0, l1, l2, l3] [va_rf (mR m a 0), v1] m Q := A_getfield (f := fun m a => va_rf (mR m a 0)) hB_X1_tell dX1_tell_6 hO_X1_tell fF_1_9 rfl
theorem dX1_tell_9 : decode cX1_tell 9 = .ok (.arraylength, 1) := by decide +kernel
theorem tX1_tell_9 {d : Nat} {l0 l1 l2 l3 : Option Value} {v1 : Value} {a : Nat} {m : jmM} {Q : Option Value → jmM → Prop} : AW d 11 9 [l0, l1, l2, l3] [.ref a, v1] m Q ↔ ((20 ≤ (mS m a).1 ∧ (mS m a).1 ≤ 26) ∨ a = jScr) ∧ AW d 11 10 [l0, l1, l2, l3] [.int (nI (mS m a).2), v1] m Q := A_arraylength hB_X1_tell dX1_tell_9
theorem dX1_tell_10 : decode cX1_tell 10 = .ok (.if_icmp .ge 10, 3) := by decide +kernel
theorem tX1_tell_10 {d : Nat} {l0 l1 l2 l3 : Option Value} {x y : Int32} {m : jmM} {Q : Option Value → jmM → Prop} : AW d 11 10 [l0, l1, l2, l3] [.int y, .int x] m Q ↔ if y ≤ x then AW d 11 20 [l0, l1, l2, l3] [] m Q else AW d 11 13 [l0, l1, l2, l3] [] m Q := A_icmp_ge hB_X1_tell dX1_tell_10 (by decide)
theorem dX1_tell_13 : decode cX1_tell 13 = .ok (.aload_n 0, 1) := by decide +kernel
theorem tX1_tell_13 {d : Nat} {l1 l2 l3 : Option Value} {x : Nat} {m : jmM} {Q : Option Value → jmM → Prop} : AW d 11 13 [some (.ref x), l1, l2, l3] [] m Q ↔ AW d 11 14 [some (.ref x), l1, l2, l3] [.ref x] m Q := A_aload_n hB_X1_tell dX1_tell_13 rfl
theorem dX1_tell_14 : decode cX1_tell 14 = .ok (.getfield 9, 3) := by decide +kernel
theorem tX1_tell_14 {d : Nat} {l0 l1 l2 l3 : Option Value} {a : Nat} {m : jmM} {Q : Option Value → jmM → Prop} : AW d 11 14 [l0, l1, l2, l3] [.ref a] m Q ↔ (mS m a).1 = 1 ∧ AW d 11 17 [l0, l1, l2, l3] [va_rf (mR m a 0)] m Q := A_getfield (f := fun m a => va_rf (mR m a 0)) hB_X1_tell dX1_tell_14 hO_X1_tell fF_1_9 rfl
theorem dX1_tell_17 : decode cX1_tell 17 = .ok (.iload_n 1, 1) := by decide +kernel
theorem tX1_tell_17 {d : Nat} {l0 l2 l3 : Option Value} {v0 : Value} {x : Int32} {m : jmM} {Q : Option Value → jmM → Prop} : AW d 11 17 [l0, some (.int x), l2, l3] [v0] m Q ↔ AW d 11 18 [l0, some (.int x), l2, l3] [.int x, v0] m Q := A_iload_n hB_X1_tell dX1_tell_17 rfl
theorem dX1_tell_18 : decode cX1_tell 18 = .ok (.lload_n 2, 1) := by decide +kernel
theorem tX1_tell_18 {d : Nat} {l0 l1 l3 : Option Value} {v0 v1 : Value} {x : Int64} {m : jmM} {Q : Option Value → jmM → Prop} : AW d 11 18 [l0, l1, some (.long x), l3] [v0, v1] m Q ↔ AW d 11 19 [l0, l1, some (.long x), l3] [.long x, v0, v1] m Q := A_lload_n hB_X1_tell dX1_tell_18 rfl
theorem dX1_tell_19 : decode cX1_tell 19 = .ok (.lastore, 1) := by decide +kernel
theorem tX1_tell_19 {d : Nat} {l0 l1 l2 l3 : Option Value} {x : Int64} {i : Int32} {a : Nat} {m : jmM} {Q : Option Value → jmM → Prop} : AW d 11 19 [l0, l1, l2, l3] [.long x, .int i, .ref a] m Q ↔ ((mS m a).1 = 21 ∧ jIx i (mS m a).2) ∧ AW d 11 20 [l0, l1, l2, l3] [] (cL m a (jup (mL m a) (jx i) x)) Q := A_lastore hB_X1_tell dX1_tell_19
theorem dX1_tell_20 : decode cX1_tell 20 = .ok (.return_, 1) := by decide +kernel
theorem tX1_tell_20 {d : Nat} {l0 l1 l2 l3 : Option Value} {m : jmM} {Q : Option Value → jmM → Prop} : AW d 11 20 [l0, l1, l2, l3] [] m Q ↔ Q none m := A_return hB_X1_tell dX1_tell_20 hR_X1_tell
theorem hB_X1_first : jB 12 = cX1_first := rfl
theorem hO_X1_first : jO 12 = 1 := rfl
theorem hR_X1_first : jRt 12 = (some .long) := rfl
theorem nX1_first (d : Nat) (x0 : Nat) (x1 : Nat) (x2 : Int32) (x3 : Int64) (m : jmM) (Q : Option Value → jmM → Prop) : CC (d + 1) 12 [.ref x0, .ref x1, .int x2, .long x3] m Q ↔ AW d 12 0 [some (.ref x0), some (.ref x1), some (.int x2), some (.long x3), none, none, none, none, none] [] m Q := CC_body (Nat.le_of_ble_eq_true rfl)
theorem dX1_first_0 : decode cX1_first 0 = .ok (.iconst 0, 1) := by decide +kernel
theorem tX1_first_0 {d : Nat} {l0 l1 l2 l3 l4 l5 l6 l7 l8 : Option Value} {m : jmM} {Q : Option Value → jmM → Prop} : AW d 12 0 [l0, l1, l2, l3, l4, l5, l6, l7, l8] [] m Q ↔ AW d 12 1 [l0, l1, l2, l3, l4, l5, l6, l7, l8] [.int 0] m Q := A_iconst hB_X1_first dX1_first_0 (by decide)
theorem dX1_first_1 : decode cX1_first 1 = .ok (.istore 5, 2) := by decide +kernel
theorem tX1_first_1 {d : Nat} {l0 l1 l2 l3 l4 l5 l6 l7 l8 : Option Value} {x : Int32} {m : jmM} {Q : Option Value → jmM → Prop} : AW d 12 1 [l0, l1, l2, l3, l4, l5, l6, l7, l8] [.int x] m Q ↔ AW d 12 3 [l0, l1, l2, l3, jc1 l4, some (.int x), l6, l7, l8] [] m Q := A_istore hB_X1_first dX1_first_1 (Nat.le_of_ble_eq_true rfl) rfl
theorem dX1_first_3 : decode cX1_first 3 = .ok (.iload 5, 2) := by decide +kernel
theorem tX1_first_3 {d : Nat} {l0 l1 l2 l3 l4 l6 l7 l8 : Option Value} {x : Int32} {m : jmM} {Q : Option Value → jmM → Prop} : AW d 12 3 [l0, l1, l2, l3, l4, some (.int x), l6, l7, l8] [] m Q ↔ AW d 12 5 [l0, l1, l2, l3, l4, some (.int x), l6, l7, l8] [.int x] m Q := A_iload hB_X1_first dX1_first_3 rfl
theorem dX1_first_5 : decode cX1_first 5 = .ok (.aload_n 1, 1) := by decide +kernel
theorem tX1_first_5 {d : Nat} {l0 l2 l3 l4 l5 l6 l7 l8 : Option Value} {v0 : Value} {x : Nat} {m : jmM} {Q : Option Value → jmM → Prop} : AW d 12 5 [l0, some (.ref x), l2, l3, l4, l5, l6, l7, l8] [v0] m Q ↔ AW d 12 6 [l0, some (.ref x), l2, l3, l4, l5, l6, l7, l8] [.ref x, v0] m Q := A_aload_n hB_X1_first dX1_first_5 rfl
theorem dX1_first_6 : decode cX1_first 6 = .ok (.invokevirtual 22, 3) := by decide +kernel
theorem tX1_first_6 {d : Nat} {l0 l1 l2 l3 l4 l5 l6 l7 l8 : Option Value} {v1 : Value} {a : Nat} {m : jmM} {Q : Option Value → jmM → Prop} : AW d 12 6 [l0, l1, l2, l3, l4, l5, l6, l7, l8] [.ref a, v1] m Q ↔ (mS m a).1 = 3 ∧ CC d 32 [.ref a] m (jK d 12 9 [l0, l1, l2, l3, l4, l5, l6, l7, l8] [v1] Q) := A_callV hB_X1_first dX1_first_6 hO_X1_first fS_1_22 ⟨Nat.le_of_ble_eq_true rfl, Nat.le_of_ble_eq_true rfl⟩ rfl rfl rfl
theorem dX1_first_9 : decode cX1_first 9 = .ok (.if_icmp .ge 74, 3) := by decide +kernel
theorem tX1_first_9 {d : Nat} {l0 l1 l2 l3 l4 l5 l6 l7 l8 : Option Value} {x y : Int32} {m : jmM} {Q : Option Value → jmM → Prop} : AW d 12 9 [l0, l1, l2, l3, l4, l5, l6, l7, l8] [.int y, .int x] m Q ↔ if y ≤ x then AW d 12 83 [l0, l1, l2, l3, l4, l5, l6, l7, l8] [] m Q else AW d 12 12 [l0, l1, l2, l3, l4, l5, l6, l7, l8] [] m Q := A_icmp_ge hB_X1_first dX1_first_9 (by decide)
theorem dX1_first_12 : decode cX1_first 12 = .ok (.aload_n 1, 1) := by decide +kernel
theorem tX1_first_12 {d : Nat} {l0 l2 l3 l4 l5 l6 l7 l8 : Option Value} {x : Nat} {m : jmM} {Q : Option Value → jmM → Prop} : AW d 12 12 [l0, some (.ref x), l2, l3, l4, l5, l6, l7, l8] [] m Q ↔ AW d 12 13 [l0, some (.ref x), l2, l3, l4, l5, l6, l7, l8] [.ref x] m Q := A_aload_n hB_X1_first dX1_first_12 rfl
theorem dX1_first_13 : decode cX1_first 13 = .ok (.iload 5, 2) := by decide +kernel
theorem tX1_first_13 {d : Nat} {l0 l1 l2 l3 l4 l6 l7 l8 : Option Value} {v0 : Value} {x : Int32} {m : jmM} {Q : Option Value → jmM → Prop} : AW d 12 13 [l0, l1, l2, l3, l4, some (.int x), l6, l7, l8] [v0] m Q ↔ AW d 12 15 [l0, l1, l2, l3, l4, some (.int x), l6, l7, l8] [.int x, v0] m Q := A_iload hB_X1_first dX1_first_13 rfl
theorem dX1_first_15 : decode cX1_first 15 = .ok (.invokevirtual 28, 3) := by decide +kernel
theorem tX1_first_15 {d : Nat} {l0 l1 l2 l3 l4 l5 l6 l7 l8 : Option Value} {y0 : Value} {a : Nat} {m : jmM} {Q : Option Value → jmM → Prop} : AW d 12 15 [l0, l1, l2, l3, l4, l5, l6, l7, l8] [y0, .ref a] m Q ↔ (mS m a).1 = 3 ∧ CC d 38 [.ref a, y0] m (jK d 12 18 [l0, l1, l2, l3, l4, l5, l6, l7, l8] [] Q) := A_callV hB_X1_first dX1_first_15 hO_X1_first fS_1_28 ⟨Nat.le_of_ble_eq_true rfl, Nat.le_of_ble_eq_true rfl⟩ rfl rfl rfl
theorem dX1_first_18 : decode cX1_first 18 = .ok (.istore 6, 2) := by decide +kernel
theorem tX1_first_18 {d : Nat} {l0 l1 l2 l3 l4 l5 l6 l7 l8 : Option Value} {x : Int32} {m : jmM} {Q : Option Value → jmM → Prop} : AW d 12 18 [l0, l1, l2, l3, l4, l5, l6, l7, l8] [.int x] m Q ↔ AW d 12 20 [l0, l1, l2, l3, l4, jc1 l5, some (.int x), l7, l8] [] m Q := A_istore hB_X1_first dX1_first_18 (Nat.le_of_ble_eq_true rfl) rfl
theorem dX1_first_20 : decode cX1_first 20 = .ok (.aload_n 1, 1) := by decide +kernel
theorem tX1_first_20 {d : Nat} {l0 l2 l3 l4 l5 l6 l7 l8 : Option Value} {x : Nat} {m : jmM} {Q : Option Value → jmM → Prop} : AW d 12 20 [l0, some (.ref x), l2, l3, l4, l5, l6, l7, l8] [] m Q ↔ AW d 12 21 [l0, some (.ref x), l2, l3, l4, l5, l6, l7, l8] [.ref x] m Q := A_aload_n hB_X1_first dX1_first_20 rfl
theorem dX1_first_21 : decode cX1_first 21 = .ok (.iload 5, 2) := by decide +kernel
theorem tX1_first_21 {d : Nat} {l0 l1 l2 l3 l4 l6 l7 l8 : Option Value} {v0 : Value} {x : Int32} {m : jmM} {Q : Option Value → jmM → Prop} : AW d 12 21 [l0, l1, l2, l3, l4, some (.int x), l6, l7, l8] [v0] m Q ↔ AW d 12 23 [l0, l1, l2, l3, l4, some (.int x), l6, l7, l8] [.int x, v0] m Q := A_iload hB_X1_first dX1_first_21 rfl
theorem dX1_first_23 : decode cX1_first 23 = .ok (.invokevirtual 32, 3) := by decide +kernel
theorem tX1_first_23 {d : Nat} {l0 l1 l2 l3 l4 l5 l6 l7 l8 : Option Value} {y0 : Value} {a : Nat} {m : jmM} {Q : Option Value → jmM → Prop} : AW d 12 23 [l0, l1, l2, l3, l4, l5, l6, l7, l8] [y0, .ref a] m Q ↔ (mS m a).1 = 3 ∧ CC d 39 [.ref a, y0] m (jK d 12 26 [l0, l1, l2, l3, l4, l5, l6, l7, l8] [] Q) := A_callV hB_X1_first dX1_first_23 hO_X1_first fS_1_32 ⟨Nat.le_of_ble_eq_true rfl, Nat.le_of_ble_eq_true rfl⟩ rfl rfl rfl
theorem dX1_first_26 : decode cX1_first 26 = .ok (.istore 7, 2) := by decide +kernel
theorem tX1_first_26 {d : Nat} {l0 l1 l2 l3 l4 l5 l6 l7 l8 : Option Value} {x : Int32} {m : jmM} {Q : Option Value → jmM → Prop} : AW d 12 26 [l0, l1, l2, l3, l4, l5, l6, l7, l8] [.int x] m Q ↔ AW d 12 28 [l0, l1, l2, l3, l4, l5, jc1 l6, some (.int x), l8] [] m Q := A_istore hB_X1_first dX1_first_26 (Nat.le_of_ble_eq_true rfl) rfl
theorem dX1_first_28 : decode cX1_first 28 = .ok (.aload_n 1, 1) := by decide +kernel
theorem tX1_first_28 {d : Nat} {l0 l2 l3 l4 l5 l6 l7 l8 : Option Value} {x : Nat} {m : jmM} {Q : Option Value → jmM → Prop} : AW d 12 28 [l0, some (.ref x), l2, l3, l4, l5, l6, l7, l8] [] m Q ↔ AW d 12 29 [l0, some (.ref x), l2, l3, l4, l5, l6, l7, l8] [.ref x] m Q := A_aload_n hB_X1_first dX1_first_28 rfl
theorem dX1_first_29 : decode cX1_first 29 = .ok (.iload 5, 2) := by decide +kernel
theorem tX1_first_29 {d : Nat} {l0 l1 l2 l3 l4 l6 l7 l8 : Option Value} {v0 : Value} {x : Int32} {m : jmM} {Q : Option Value → jmM → Prop} : AW d 12 29 [l0, l1, l2, l3, l4, some (.int x), l6, l7, l8] [v0] m Q ↔ AW d 12 31 [l0, l1, l2, l3, l4, some (.int x), l6, l7, l8] [.int x, v0] m Q := A_iload hB_X1_first dX1_first_29 rfl
theorem dX1_first_31 : decode cX1_first 31 = .ok (.invokevirtual 35, 3) := by decide +kernel
theorem tX1_first_31 {d : Nat} {l0 l1 l2 l3 l4 l5 l6 l7 l8 : Option Value} {y0 : Value} {a : Nat} {m : jmM} {Q : Option Value → jmM → Prop} : AW d 12 31 [l0, l1, l2, l3, l4, l5, l6, l7, l8] [y0, .ref a] m Q ↔ (mS m a).1 = 3 ∧ CC d 40 [.ref a, y0] m (jK d 12 34 [l0, l1, l2, l3, l4, l5, l6, l7, l8] [] Q) := A_callV hB_X1_first dX1_first_31 hO_X1_first fS_1_35 ⟨Nat.le_of_ble_eq_true rfl, Nat.le_of_ble_eq_true rfl⟩ rfl rfl rfl
theorem dX1_first_34 : decode cX1_first 34 = .ok (.istore 8, 2) := by decide +kernel
theorem tX1_first_34 {d : Nat} {l0 l1 l2 l3 l4 l5 l6 l7 l8 : Option Value} {x : Int32} {m : jmM} {Q : Option Value → jmM → Prop} : AW d 12 34 [l0, l1, l2, l3, l4, l5, l6, l7, l8] [.int x] m Q ↔ AW d 12 36 [l0, l1, l2, l3, l4, l5, l6, jc1 l7, some (.int x)] [] m Q := A_istore hB_X1_first dX1_first_34 (Nat.le_of_ble_eq_true rfl) rfl
theorem dX1_first_36 : decode cX1_first 36 = .ok (.aload_n 1, 1) := by decide +kernel
theorem tX1_first_36 {d : Nat} {l0 l2 l3 l4 l5 l6 l7 l8 : Option Value} {x : Nat} {m : jmM} {Q : Option Value → jmM → Prop} : AW d 12 36 [l0, some (.ref x), l2, l3, l4, l5, l6, l7, l8] [] m Q ↔ AW d 12 37 [l0, some (.ref x), l2, l3, l4, l5, l6, l7, l8] [.ref x] m Q := A_aload_n hB_X1_first dX1_first_36 rfl
theorem dX1_first_37 : decode cX1_first 37 = .ok (.iload 5, 2) := by decide +kernel
theorem tX1_first_37 {d : Nat} {l0 l1 l2 l3 l4 l6 l7 l8 : Option Value} {v0 : Value} {x : Int32} {m : jmM} {Q : Option Value → jmM → Prop} : AW d 12 37 [l0, l1, l2, l3, l4, some (.int x), l6, l7, l8] [v0] m Q ↔ AW d 12 39 [l0, l1, l2, l3, l4, some (.int x), l6, l7, l8] [.int x, v0] m Q := A_iload hB_X1_first dX1_first_37 rfl
theorem dX1_first_39 : decode cX1_first 39 = .ok (.invokevirtual 38, 3) := by decide +kernel
theorem tX1_first_39 {d : Nat} {l0 l1 l2 l3 l4 l5 l6 l7 l8 : Option Value} {y0 : Value} {a : Nat} {m : jmM} {Q : Option Value → jmM → Prop} : AW d 12 39 [l0, l1, l2, l3, l4, l5, l6, l7, l8] [y0, .ref a] m Q ↔ (mS m a).1 = 3 ∧ CC d 37 [.ref a, y0] m (jK d 12 42 [l0, l1, l2, l3, l4, l5, l6, l7, l8] [] Q) := A_callV hB_X1_first dX1_first_39 hO_X1_first fS_1_38 ⟨Nat.le_of_ble_eq_true rfl, Nat.le_of_ble_eq_true rfl⟩ rfl rfl rfl
theorem dX1_first_42 : decode cX1_first 42 = .ok (.iload_n 2, 1) := by decide +kernel
theorem tX1_first_42 {d : Nat} {l0 l1 l3 l4 l5 l6 l7 l8 : Option Value} {v0 : Value} {x : Int32} {m : jmM} {Q : Option Value → jmM → Prop} : AW d 12 42 [l0, l1, some (.int x), l3, l4, l5, l6, l7, l8] [v0] m Q ↔ AW d 12 43 [l0, l1, some (.int x), l3, l4, l5, l6, l7, l8] [.int x, v0] m Q := A_iload_n hB_X1_first dX1_first_42 rfl
theorem dX1_first_43 : decode cX1_first 43 = .ok (.if_icmp .ne 34, 3) := by decide +kernel
theorem tX1_first_43 {d : Nat} {l0 l1 l2 l3 l4 l5 l6 l7 l8 : Option Value} {x y : Int32} {m : jmM} {Q : Option Value → jmM → Prop} : AW d 12 43 [l0, l1, l2, l3, l4, l5, l6, l7, l8] [.int y, .int x] m Q ↔ if x = y then AW d 12 46 [l0, l1, l2, l3, l4, l5, l6, l7, l8] [] m Q else AW d 12 77 [l0, l1, l2, l3, l4, l5, l6, l7, l8] [] m Q := A_icmp_ne hB_X1_first dX1_first_43 (by decide)
theorem dX1_first_46 : decode cX1_first 46 = .ok (.iload 7, 2) := by decide +kernel
theorem tX1_first_46 {d : Nat} {l0 l1 l2 l3 l4 l5 l6 l8 : Option Value} {x : Int32} {m : jmM} {Q : Option Value → jmM → Prop} : AW d 12 46 [l0, l1, l2, l3, l4, l5, l6, some (.int x), l8] [] m Q ↔ AW d 12 48 [l0, l1, l2, l3, l4, l5, l6, some (.int x), l8] [.int x] m Q := A_iload hB_X1_first dX1_first_46 rfl
theorem dX1_first_48 : decode cX1_first 48 = .ok (.iload 8, 2) := by decide +kernel
theorem tX1_first_48 {d : Nat} {l0 l1 l2 l3 l4 l5 l6 l7 : Option Value} {v0 : Value} {x : Int32} {m : jmM} {Q : Option Value → jmM → Prop} : AW d 12 48 [l0, l1, l2, l3, l4, l5, l6, l7, some (.int x)] [v0] m Q ↔ AW d 12 50 [l0, l1, l2, l3, l4, l5, l6, l7, some (.int x)] [.int x, v0] m Q := A_iload hB_X1_first dX1_first_48 rfl
theorem dX1_first_50 : decode cX1_first 50 = .ok (.if_icmp .eq 17, 3) := by decide +kernel
theorem tX1_first_50 {d : Nat} {l0 l1 l2 l3 l4 l5 l6 l7 l8 : Option Value} {x y : Int32} {m : jmM} {Q : Option Value → jmM → Prop} : AW d 12 50 [l0, l1, l2, l3, l4, l5, l6, l7, l8] [.int y, .int x] m Q ↔ if x = y then AW d 12 67 [l0, l1, l2, l3, l4, l5, l6, l7, l8] [] m Q else AW d 12 53 [l0, l1, l2, l3, l4, l5, l6, l7, l8] [] m Q := A_icmp_eq hB_X1_first dX1_first_50 (by decide)
theorem dX1_first_53 : decode cX1_first 53 = .ok (.aload_n 0, 1) := by decide +kernel
theorem tX1_first_53 {d : Nat} {l1 l2 l3 l4 l5 l6 l7 l8 : Option Value} {x : Nat} {m : jmM} {Q : Option Value → jmM → Prop} : AW d 12 53 [some (.ref x), l1, l2, l3, l4, l5, l6, l7, l8] [] m Q ↔ AW d 12 54 [some (.ref x), l1, l2, l3, l4, l5, l6, l7, l8] [.ref x] m Q := A_aload_n hB_X1_first dX1_first_53 rfl
theorem dX1_first_54 : decode cX1_first 54 = .ok (.aload_n 1, 1) := by decide +kernel
theorem tX1_first_54 {d : Nat} {l0 l2 l3 l4 l5 l6 l7 l8 : Option Value} {v0 : Value} {x : Nat} {m : jmM} {Q : Option Value → jmM → Prop} : AW d 12 54 [l0, some (.ref x), l2, l3, l4, l5, l6, l7, l8] [v0] m Q ↔ AW d 12 55 [l0, some (.ref x), l2, l3, l4, l5, l6, l7, l8] [.ref x, v0] m Q := A_aload_n hB_X1_first dX1_first_54 rfl
theorem dX1_first_55 : decode cX1_first 55 = .ok (.iload 7, 2) := by decide +kernel
theorem tX1_first_55 {d : Nat} {l0 l1 l2 l3 l4 l5 l6 l8 : Option Value} {v0 v1 : Value} {x : Int32} {m : jmM} {Q : Option Value → jmM → Prop} : AW d 12 55 [l0, l1, l2, l3, l4, l5, l6, some (.int x), l8] [v0, v1] m Q ↔ AW d 12 57 [l0, l1, l2, l3, l4, l5, l6, some (.int x), l8] [.int x, v0, v1] m Q := A_iload hB_X1_first dX1_first_55 rfl
theorem dX1_first_57 : decode cX1_first 57 = .ok (.iload 8, 2) := by decide +kernel
theorem tX1_first_57 {d : Nat} {l0 l1 l2 l3 l4 l5 l6 l7 : Option Value} {v0 v1 v2 : Value} {x : Int32} {m : jmM} {Q : Option Value → jmM → Prop} : AW d 12 57 [l0, l1, l2, l3, l4, l5, l6, l7, some (.int x)] [v0, v1, v2] m Q ↔ AW d 12 59 [l0, l1, l2, l3, l4, l5, l6, l7, some (.int x)] [.int x, v0, v1, v2] m Q := A_iload hB_X1_first dX1_first_57 rfl
theorem dX1_first_59 : decode cX1_first 59 = .ok (.invokevirtual 41, 3) := by decide +kernel
theorem tX1_first_59 {d : Nat} {l0 l1 l2 l3 l4 l5 l6 l7 l8 : Option Value} {y0 y1 y2 : Value} {a : Nat} {m : jmM} {Q : Option Value → jmM → Prop} : AW d 12 59 [l0, l1, l2, l3, l4, l5, l6, l7, l8] [y0, y1, y2, .ref a] m Q ↔ (mS m a).1 = 1 ∧ CC d 13 [.ref a, y2, y1, y0] m (jK d 12 62 [l0, l1, l2, l3, l4, l5, l6, l7, l8] [] Q) := A_callV hB_X1_first dX1_first_59 hO_X1_first fS_1_41 ⟨Nat.le_of_ble_eq_true rfl, Nat.le_of_ble_eq_true rfl⟩ rfl rfl rfl
theorem dX1_first_62 : decode cX1_first 62 = .ok (.lconst 0, 1) := by decide +kernel
theorem tX1_first_62 {d : Nat} {l0 l1 l2 l3 l4 l5 l6 l7 l8 : Option Value} {v0 : Value} {m : jmM} {Q : Option Value → jmM → Prop} : AW d 12 62 [l0, l1, l2, l3, l4, l5, l6, l7, l8] [v0] m Q ↔ AW d 12 63 [l0, l1, l2, l3, l4, l5, l6, l7, l8] [.long 0, v0] m Q := A_lconst hB_X1_first dX1_first_62 (by decide)
theorem dX1_first_63 : decode cX1_first 63 = .ok (.lcmp, 1) := by decide +kernel
theorem tX1_first_63 {d : Nat} {l0 l1 l2 l3 l4 l5 l6 l7 l8 : Option Value} {x y : Int64} {m : jmM} {Q : Option Value → jmM → Prop} : AW d 12 63 [l0, l1, l2, l3, l4, l5, l6, l7, l8] [.long y, .long x] m Q ↔ AW d 12 64 [l0, l1, l2, l3, l4, l5, l6, l7, l8] [.int (lg_cmp x y)] m Q := A_lcmp hB_X1_first dX1_first_63
theorem dX1_first_64 : decode cX1_first 64 = .ok (.ifCond .eq 13, 3) := by decide +kernel
theorem tX1_first_64 {d : Nat} {l0 l1 l2 l3 l4 l5 l6 l7 l8 : Option Value} {x : Int32} {m : jmM} {Q : Option Value → jmM → Prop} : AW d 12 64 [l0, l1, l2, l3, l4, l5, l6, l7, l8] [.int x] m Q ↔ if x = 0 then AW d 12 77 [l0, l1, l2, l3, l4, l5, l6, l7, l8] [] m Q else AW d 12 67 [l0, l1, l2, l3, l4, l5, l6, l7, l8] [] m Q := A_if_eq hB_X1_first dX1_first_64 (by decide)
theorem dX1_first_67 : decode cX1_first 67 = .ok (.aload_n 0, 1) := by decide +kernel
theorem tX1_first_67 {d : Nat} {l1 l2 l3 l4 l5 l6 l7 l8 : Option Value} {x : Nat} {m : jmM} {Q : Option Value → jmM → Prop} : AW d 12 67 [some (.ref x), l1, l2, l3, l4, l5, l6, l7, l8] [] m Q ↔ AW d 12 68 [some (.ref x), l1, l2, l3, l4, l5, l6, l7, l8] [.ref x] m Q := A_aload_n hB_X1_first dX1_first_67 rfl
theorem dX1_first_68 : decode cX1_first 68 = .ok (.aload_n 1, 1) := by decide +kernel
theorem tX1_first_68 {d : Nat} {l0 l2 l3 l4 l5 l6 l7 l8 : Option Value} {v0 : Value} {x : Nat} {m : jmM} {Q : Option Value → jmM → Prop} : AW d 12 68 [l0, some (.ref x), l2, l3, l4, l5, l6, l7, l8] [v0] m Q ↔ AW d 12 69 [l0, some (.ref x), l2, l3, l4, l5, l6, l7, l8] [.ref x, v0] m Q := A_aload_n hB_X1_first dX1_first_68 rfl
theorem dX1_first_69 : decode cX1_first 69 = .ok (.iload 6, 2) := by decide +kernel
theorem tX1_first_69 {d : Nat} {l0 l1 l2 l3 l4 l5 l7 l8 : Option Value} {v0 v1 : Value} {x : Int32} {m : jmM} {Q : Option Value → jmM → Prop} : AW d 12 69 [l0, l1, l2, l3, l4, l5, some (.int x), l7, l8] [v0, v1] m Q ↔ AW d 12 71 [l0, l1, l2, l3, l4, l5, some (.int x), l7, l8] [.int x, v0, v1] m Q := A_iload hB_X1_first dX1_first_69 rfl
theorem dX1_first_71 : decode cX1_first 71 = .ok (.iload 7, 2) := by decide +kernel
theorem tX1_first_71 {d : Nat} {l0 l1 l2 l3 l4 l5 l6 l8 : Option Value} {v0 v1 v2 : Value} {x : Int32} {m : jmM} {Q : Option Value → jmM → Prop} : AW d 12 71 [l0, l1, l2, l3, l4, l5, l6, some (.int x), l8] [v0, v1, v2] m Q ↔ AW d 12 73 [l0, l1, l2, l3, l4, l5, l6, some (.int x), l8] [.int x, v0, v1, v2] m Q := A_iload hB_X1_first dX1_first_71 rfl
theorem dX1_first_73 : decode cX1_first 73 = .ok (.invokevirtual 41, 3) := by decide +kernel
theorem tX1_first_73 {d : Nat} {l0 l1 l2 l3 l4 l5 l6 l7 l8 : Option Value} {y0 y1 y2 : Value} {a : Nat} {m : jmM} {Q : Option Value → jmM → Prop} : AW d 12 73 [l0, l1, l2, l3, l4, l5, l6, l7, l8] [y0, y1, y2, .ref a] m Q ↔ (mS m a).1 = 1 ∧ CC d 13 [.ref a, y2, y1, y0] m (jK d 12 76 [l0, l1, l2, l3, l4, l5, l6, l7, l8] [] Q) := A_callV hB_X1_first dX1_first_73 hO_X1_first fS_1_41 ⟨Nat.le_of_ble_eq_true rfl, Nat.le_of_ble_eq_true rfl⟩ rfl rfl rfl
theorem dX1_first_76 : decode cX1_first 76 = .ok (.lreturn, 1) := by decide +kernel
theorem tX1_first_76 {d : Nat} {l0 l1 l2 l3 l4 l5 l6 l7 l8 : Option Value} {x : Int64} {m : jmM} {Q : Option Value → jmM → Prop} : AW d 12 76 [l0, l1, l2, l3, l4, l5, l6, l7, l8] [.long x] m Q ↔ Q (some (.long x)) m := A_lreturn hB_X1_first dX1_first_76 hR_X1_first
theorem dX1_first_77 : decode cX1_first 77 = .ok (.iinc 5 1, 3) := by decide +kernel
theorem tX1_first_77 {d : Nat} {l0 l1 l2 l3 l4 l6 l7 l8 : Option Value} {x : Int32} {m : jmM} {Q : Option Value → jmM → Prop} : AW d 12 77 [l0, l1, l2, l3, l4, some (.int x), l6, l7, l8] [] m Q ↔ AW d 12 80 [l0, l1, l2, l3, jc1 l4, some (.int (x + 1)), l6, l7, l8] [] m Q := A_iinc hB_X1_first dX1_first_77 rfl (Nat.le_of_ble_eq_true rfl) (v := 1) (by decide) rfl
theorem dX1_first_80 : decode cX1_first 80 = .ok (.goto (-77), 3) := by decide +kernel
theorem tX1_first_80 {d : Nat} {l0 l1 l2 l3 l4 l5 l6 l7 l8 : Option Value} {m : jmM} {Q : Option Value → jmM → Prop} : AW d 12 80 [l0, l1, l2, l3, l4, l5, l6, l7, l8] [] m Q ↔ AW d 12 3 [l0, l1, l2, l3, l4, l5, l6, l7, l8] [] m Q := A_goto hB_X1_first dX1_first_80 (by decide)
theorem dX1_first_83 : decode cX1_first 83 = .ok (.lload_n 3, 1) := by decide +kernel
theorem tX1_first_83 {d : Nat} {l0 l1 l2 l4 l5 l6 l7 l8 : Option Value} {x : Int64} {m : jmM} {Q : Option Value → jmM → Prop} : AW d 12 83 [l0, l1, l2, some (.long x), l4, l5, l6, l7, l8] [] m Q ↔ AW d 12 84 [l0, l1, l2, some (.long x), l4, l5, l6, l7, l8] [.long x] m Q := A_lload_n hB_X1_first dX1_first_83 rfl
theorem dX1_first_84 : decode cX1_first 84 = .ok (.lreturn, 1) := by decide +kernel
theorem tX1_first_84 {d : Nat} {l0 l1 l2 l3 l4 l5 l6 l7 l8 : Option Value} {x : Int64} {m : jmM} {Q : Option Value → jmM → Prop} : AW d 12 84 [l0, l1, l2, l3, l4, l5, l6, l7, l8] [.long x] m Q ↔ Q (some (.long x)) m := A_lreturn hB_X1_first dX1_first_84 hR_X1_first
theorem hB_X1_reckon : jB 13 = cX1_reckon := rfl
theorem hO_X1_reckon : jO 13 = 1 := rfl
theorem hR_X1_reckon : jRt 13 = (some .long) := rfl
theorem nX1_reckon (d : Nat) (x0 : Nat) (x1 : Nat) (x2 : Int32) (x3 : Int32) (m : jmM) (Q : Option Value → jmM → Prop) : CC (d + 1) 13 [.ref x0, .ref x1, .int x2, .int x3] m Q ↔ AW d 13 0 [some (.ref x0), some (.ref x1), some (.int x2), some (.int x3), none, none, none, none, none, none] [] m Q := CC_body (Nat.le_of_ble_eq_true rfl)
theorem dX1_reckon_0 : decode cX1_reckon 0 = .ok (.aload_n 0, 1) := by decide +kernel
theorem tX1_reckon_0 {d : Nat} {l1 l2 l3 l4 l5 l6 l7 l8 l9 : Option Value} {x : Nat} {m : jmM} {Q : Option Value → jmM → Prop} : AW d 13 0 [some (.ref x), l1, l2, l3, l4, l5, l6, l7, l8, l9] [] m Q ↔ AW d 13 1 [some (.ref x), l1, l2, l3, l4, l5, l6, l7, l8, l9] [.ref x] m Q := A_aload_n hB_X1_reckon dX1_reckon_0 rfl
theorem dX1_reckon_1 : decode cX1_reckon 1 = .ok (.iconst 0, 1) := by decide +kernel
theorem tX1_reckon_1 {d : Nat} {l0 l1 l2 l3 l4 l5 l6 l7 l8 l9 : Option Value} {v0 : Value} {m : jmM} {Q : Option Value → jmM → Prop} : AW d 13 1 [l0, l1, l2, l3, l4, l5, l6, l7, l8, l9] [v0] m Q ↔ AW d 13 2 [l0, l1, l2, l3, l4, l5, l6, l7, l8, l9] [.int 0, v0] m Q := A_iconst hB_X1_reckon dX1_reckon_1 (by decide)
theorem dX1_reckon_2 : decode cX1_reckon 2 = .ok (.putfield 18, 3) := by decide +kernel
theorem tX1_reckon_2 {d : Nat} {l0 l1 l2 l3 l4 l5 l6 l7 l8 l9 : Option Value} {x : Int32} {a : Nat} {m : jmM} {Q : Option Value → jmM → Prop} : AW d 13 2 [l0, l1, l2, l3, l4, l5, l6, l7, l8, l9] [.int x, .ref a] m Q ↔ (mS m a).1 = 1 ∧ AW d 13 5 [l0, l1, l2, l3, l4, l5, l6, l7, l8, l9] [] (cI m a (jup (mI m a) 2 x)) Q := A_putI hB_X1_reckon dX1_reckon_2 hO_X1_reckon fF_1_18 rfl (fun h => Bool.noConfusion h)
theorem dX1_reckon_5 : decode cX1_reckon 5 = .ok (.iload_n 2, 1) := by decide +kernel
theorem tX1_reckon_5 {d : Nat} {l0 l1 l3 l4 l5 l6 l7 l8 l9 : Option Value} {x : Int32} {m : jmM} {Q : Option Value → jmM → Prop} : AW d 13 5 [l0, l1, some (.int x), l3, l4, l5, l6, l7, l8, l9] [] m Q ↔ AW d 13 6 [l0, l1, some (.int x), l3, l4, l5, l6, l7, l8, l9] [.int x] m Q := A_iload_n hB_X1_reckon dX1_reckon_5 rfl
theorem dX1_reckon_6 : decode cX1_reckon 6 = .ok (.istore 4, 2) := by decide +kernel
theorem tX1_reckon_6 {d : Nat} {l0 l1 l2 l3 l4 l5 l6 l7 l8 l9 : Option Value} {x : Int32} {m : jmM} {Q : Option Value → jmM → Prop} : AW d 13 6 [l0, l1, l2, l3, l4, l5, l6, l7, l8, l9] [.int x] m Q ↔ AW d 13 8 [l0, l1, l2, jc1 l3, some (.int x), l5, l6, l7, l8, l9] [] m Q := A_istore hB_X1_reckon dX1_reckon_6 (Nat.le_of_ble_eq_true rfl) rfl
theorem dX1_reckon_8 : decode cX1_reckon 8 = .ok (.iload 4, 2) := by decide +kernel
theorem tX1_reckon_8 {d : Nat} {l0 l1 l2 l3 l5 l6 l7 l8 l9 : Option Value} {x : Int32} {m : jmM} {Q : Option Value → jmM → Prop} : AW d 13 8 [l0, l1, l2, l3, some (.int x), l5, l6, l7, l8, l9] [] m Q ↔ AW d 13 10 [l0, l1, l2, l3, some (.int x), l5, l6, l7, l8, l9] [.int x] m Q := A_iload hB_X1_reckon dX1_reckon_8 rfl
theorem dX1_reckon_10 : decode cX1_reckon 10 = .ok (.iload_n 3, 1) := by decide +kernel
theorem tX1_reckon_10 {d : Nat} {l0 l1 l2 l4 l5 l6 l7 l8 l9 : Option Value} {v0 : Value} {x : Int32} {m : jmM} {Q : Option Value → jmM → Prop} : AW d 13 10 [l0, l1, l2, some (.int x), l4, l5, l6, l7, l8, l9] [v0] m Q ↔ AW d 13 11 [l0, l1, l2, some (.int x), l4, l5, l6, l7, l8, l9] [.int x, v0] m Q := A_iload_n hB_X1_reckon dX1_reckon_10 rfl
theorem dX1_reckon_11 : decode cX1_reckon 11 = .ok (.if_icmp .ge 135, 3) := by decide +kernel
theorem tX1_reckon_11 {d : Nat} {l0 l1 l2 l3 l4 l5 l6 l7 l8 l9 : Option Value} {x y : Int32} {m : jmM} {Q : Option Value → jmM → Prop} : AW d 13 11 [l0, l1, l2, l3, l4, l5, l6, l7, l8, l9] [.int y, .int x] m Q ↔ if y ≤ x then AW d 13 146 [l0, l1, l2, l3, l4, l5, l6, l7, l8, l9] [] m Q else AW d 13 14 [l0, l1, l2, l3, l4, l5, l6, l7, l8, l9] [] m Q := A_icmp_ge hB_X1_reckon dX1_reckon_11 (by decide)
theorem dX1_reckon_14 : decode cX1_reckon 14 = .ok (.aload_n 1, 1) := by decide +kernel
theorem tX1_reckon_14 {d : Nat} {l0 l2 l3 l4 l5 l6 l7 l8 l9 : Option Value} {x : Nat} {m : jmM} {Q : Option Value → jmM → Prop} : AW d 13 14 [l0, some (.ref x), l2, l3, l4, l5, l6, l7, l8, l9] [] m Q ↔ AW d 13 15 [l0, some (.ref x), l2, l3, l4, l5, l6, l7, l8, l9] [.ref x] m Q := A_aload_n hB_X1_reckon dX1_reckon_14 rfl
theorem dX1_reckon_15 : decode cX1_reckon 15 = .ok (.iload 4, 2) := by decide +kernel
theorem tX1_reckon_15 {d : Nat} {l0 l1 l2 l3 l5 l6 l7 l8 l9 : Option Value} {v0 : Value} {x : Int32} {m : jmM} {Q : Option Value → jmM → Prop} : AW d 13 15 [l0, l1, l2, l3, some (.int x), l5, l6, l7, l8, l9] [v0] m Q ↔ AW d 13 17 [l0, l1, l2, l3, some (.int x), l5, l6, l7, l8, l9] [.int x, v0] m Q := A_iload hB_X1_reckon dX1_reckon_15 rfl
theorem dX1_reckon_17 : decode cX1_reckon 17 = .ok (.invokevirtual 45, 3) := by decide +kernel
theorem tX1_reckon_17 {d : Nat} {l0 l1 l2 l3 l4 l5 l6 l7 l8 l9 : Option Value} {y0 : Value} {a : Nat} {m : jmM} {Q : Option Value → jmM → Prop} : AW d 13 17 [l0, l1, l2, l3, l4, l5, l6, l7, l8, l9] [y0, .ref a] m Q ↔ (mS m a).1 = 3 ∧ CC d 36 [.ref a, y0] m (jK d 13 20 [l0, l1, l2, l3, l4, l5, l6, l7, l8, l9] [] Q) := A_callV hB_X1_reckon dX1_reckon_17 hO_X1_reckon fS_1_45 ⟨Nat.le_of_ble_eq_true rfl, Nat.le_of_ble_eq_true rfl⟩ rfl rfl rfl
theorem dX1_reckon_20 : decode cX1_reckon 20 = .ok (.istore 5, 2) := by decide +kernel
theorem tX1_reckon_20 {d : Nat} {l0 l1 l2 l3 l4 l5 l6 l7 l8 l9 : Option Value} {x : Int32} {m : jmM} {Q : Option Value → jmM → Prop} : AW d 13 20 [l0, l1, l2, l3, l4, l5, l6, l7, l8, l9] [.int x] m Q ↔ AW d 13 22 [l0, l1, l2, l3, jc1 l4, some (.int x), l6, l7, l8, l9] [] m Q := A_istore hB_X1_reckon dX1_reckon_20 (Nat.le_of_ble_eq_true rfl) rfl
theorem dX1_reckon_22 : decode cX1_reckon 22 = .ok (.iload 5, 2) := by decide +kernel
theorem tX1_reckon_22 {d : Nat} {l0 l1 l2 l3 l4 l6 l7 l8 l9 : Option Value} {x : Int32} {m : jmM} {Q : Option Value → jmM → Prop} : AW d 13 22 [l0, l1, l2, l3, l4, some (.int x), l6, l7, l8, l9] [] m Q ↔ AW d 13 24 [l0, l1, l2, l3, l4, some (.int x), l6, l7, l8, l9] [.int x] m Q := A_iload hB_X1_reckon dX1_reckon_22 rfl
theorem dX1_reckon_24 : decode cX1_reckon 24 = .ok (.ifCond .lt 13, 3) := by decide +kernel
theorem tX1_reckon_24 {d : Nat} {l0 l1 l2 l3 l4 l5 l6 l7 l8 l9 : Option Value} {x : Int32} {m : jmM} {Q : Option Value → jmM → Prop} : AW d 13 24 [l0, l1, l2, l3, l4, l5, l6, l7, l8, l9] [.int x] m Q ↔ if x < 0 then AW d 13 37 [l0, l1, l2, l3, l4, l5, l6, l7, l8, l9] [] m Q else AW d 13 27 [l0, l1, l2, l3, l4, l5, l6, l7, l8, l9] [] m Q := A_if_lt hB_X1_reckon dX1_reckon_24 (by decide)
theorem dX1_reckon_27 : decode cX1_reckon 27 = .ok (.aload_n 0, 1) := by decide +kernel
theorem tX1_reckon_27 {d : Nat} {l1 l2 l3 l4 l5 l6 l7 l8 l9 : Option Value} {x : Nat} {m : jmM} {Q : Option Value → jmM → Prop} : AW d 13 27 [some (.ref x), l1, l2, l3, l4, l5, l6, l7, l8, l9] [] m Q ↔ AW d 13 28 [some (.ref x), l1, l2, l3, l4, l5, l6, l7, l8, l9] [.ref x] m Q := A_aload_n hB_X1_reckon dX1_reckon_27 rfl
theorem dX1_reckon_28 : decode cX1_reckon 28 = .ok (.iload 5, 2) := by decide +kernel
theorem tX1_reckon_28 {d : Nat} {l0 l1 l2 l3 l4 l6 l7 l8 l9 : Option Value} {v0 : Value} {x : Int32} {m : jmM} {Q : Option Value → jmM → Prop} : AW d 13 28 [l0, l1, l2, l3, l4, some (.int x), l6, l7, l8, l9] [v0] m Q ↔ AW d 13 30 [l0, l1, l2, l3, l4, some (.int x), l6, l7, l8, l9] [.int x, v0] m Q := A_iload hB_X1_reckon dX1_reckon_28 rfl
theorem dX1_reckon_30 : decode cX1_reckon 30 = .ok (.i2l, 1) := by decide +kernel
theorem tX1_reckon_30 {d : Nat} {l0 l1 l2 l3 l4 l5 l6 l7 l8 l9 : Option Value} {v1 : Value} {x : Int32} {m : jmM} {Q : Option Value → jmM → Prop} : AW d 13 30 [l0, l1, l2, l3, l4, l5, l6, l7, l8, l9] [.int x, v1] m Q ↔ AW d 13 31 [l0, l1, l2, l3, l4, l5, l6, l7, l8, l9] [.long x.toInt64, v1] m Q := A_i2l hB_X1_reckon dX1_reckon_30
theorem dX1_reckon_31 : decode cX1_reckon 31 = .ok (.invokevirtual 48, 3) := by decide +kernel
theorem tX1_reckon_31 {d : Nat} {l0 l1 l2 l3 l4 l5 l6 l7 l8 l9 : Option Value} {y0 : Value} {a : Nat} {m : jmM} {Q : Option Value → jmM → Prop} : AW d 13 31 [l0, l1, l2, l3, l4, l5, l6, l7, l8, l9] [y0, .ref a] m Q ↔ (mS m a).1 = 1 ∧ CC d 16 [.ref a, y0] m (jK d 13 34 [l0, l1, l2, l3, l4, l5, l6, l7, l8, l9] [] Q) := A_callV hB_X1_reckon dX1_reckon_31 hO_X1_reckon fS_1_48 ⟨Nat.le_of_ble_eq_true rfl, Nat.le_of_ble_eq_true rfl⟩ rfl rfl rfl
theorem dX1_reckon_34 : decode cX1_reckon 34 = .ok (.goto 106, 3) := by decide +kernel
theorem tX1_reckon_34 {d : Nat} {l0 l1 l2 l3 l4 l5 l6 l7 l8 l9 : Option Value} {m : jmM} {Q : Option Value → jmM → Prop} : AW d 13 34 [l0, l1, l2, l3, l4, l5, l6, l7, l8, l9] [] m Q ↔ AW d 13 140 [l0, l1, l2, l3, l4, l5, l6, l7, l8, l9] [] m Q := A_goto hB_X1_reckon dX1_reckon_34 (by decide)
theorem dX1_reckon_37 : decode cX1_reckon 37 = .ok (.iload 5, 2) := by decide +kernel
theorem tX1_reckon_37 {d : Nat} {l0 l1 l2 l3 l4 l6 l7 l8 l9 : Option Value} {x : Int32} {m : jmM} {Q : Option Value → jmM → Prop} : AW d 13 37 [l0, l1, l2, l3, l4, some (.int x), l6, l7, l8, l9] [] m Q ↔ AW d 13 39 [l0, l1, l2, l3, l4, some (.int x), l6, l7, l8, l9] [.int x] m Q := A_iload hB_X1_reckon dX1_reckon_37 rfl
theorem dX1_reckon_39 : decode cX1_reckon 39 = .ok (.bipush (-9), 2) := by decide +kernel
theorem tX1_reckon_39 {d : Nat} {l0 l1 l2 l3 l4 l5 l6 l7 l8 l9 : Option Value} {v0 : Value} {m : jmM} {Q : Option Value → jmM → Prop} : AW d 13 39 [l0, l1, l2, l3, l4, l5, l6, l7, l8, l9] [v0] m Q ↔ AW d 13 41 [l0, l1, l2, l3, l4, l5, l6, l7, l8, l9] [.int (-9), v0] m Q := A_bipush hB_X1_reckon dX1_reckon_39 rfl
theorem dX1_reckon_41 : decode cX1_reckon 41 = .ok (.if_icmp .lt 19, 3) := by decide +kernel
theorem tX1_reckon_41 {d : Nat} {l0 l1 l2 l3 l4 l5 l6 l7 l8 l9 : Option Value} {x y : Int32} {m : jmM} {Q : Option Value → jmM → Prop} : AW d 13 41 [l0, l1, l2, l3, l4, l5, l6, l7, l8, l9] [.int y, .int x] m Q ↔ if x < y then AW d 13 60 [l0, l1, l2, l3, l4, l5, l6, l7, l8, l9] [] m Q else AW d 13 44 [l0, l1, l2, l3, l4, l5, l6, l7, l8, l9] [] m Q := A_icmp_lt hB_X1_reckon dX1_reckon_41 (by decide)
theorem dX1_reckon_44 : decode cX1_reckon 44 = .ok (.aload_n 0, 1) := by decide +kernel
theorem tX1_reckon_44 {d : Nat} {l1 l2 l3 l4 l5 l6 l7 l8 l9 : Option Value} {x : Nat} {m : jmM} {Q : Option Value → jmM → Prop} : AW d 13 44 [some (.ref x), l1, l2, l3, l4, l5, l6, l7, l8, l9] [] m Q ↔ AW d 13 45 [some (.ref x), l1, l2, l3, l4, l5, l6, l7, l8, l9] [.ref x] m Q := A_aload_n hB_X1_reckon dX1_reckon_44 rfl
theorem dX1_reckon_45 : decode cX1_reckon 45 = .ok (.aload_n 0, 1) := by decide +kernel
theorem tX1_reckon_45 {d : Nat} {l1 l2 l3 l4 l5 l6 l7 l8 l9 : Option Value} {v0 : Value} {x : Nat} {m : jmM} {Q : Option Value → jmM → Prop} : AW d 13 45 [some (.ref x), l1, l2, l3, l4, l5, l6, l7, l8, l9] [v0] m Q ↔ AW d 13 46 [some (.ref x), l1, l2, l3, l4, l5, l6, l7, l8, l9] [.ref x, v0] m Q := A_aload_n hB_X1_reckon dX1_reckon_45 rfl
theorem dX1_reckon_46 : decode cX1_reckon 46 = .ok (.getfield 9, 3) := by decide +kernel
theorem tX1_reckon_46 {d : Nat} {l0 l1 l2 l3 l4 l5 l6 l7 l8 l9 : Option Value} {v1 : Value} {a : Nat} {m : jmM} {Q : Option Value → jmM → Prop} : AW d 13 46 [l0, l1, l2, l3, l4, l5, l6, l7, l8, l9] [.ref a, v1] m Q ↔ (mS m a).1 = 1 ∧ AW d 13 49 [l0, l1, l2, l3, l4, l5, l6, l7, l8, l9] [va_rf (mR m a 0), v1] m Q := A_getfield (f := fun m a => va_rf (mR m a 0)) hB_X1_reckon dX1_reckon_46 hO_X1_reckon fF_1_9 rfl
theorem dX1_reckon_49 : decode cX1_reckon 49 = .ok (.iconst (-1), 1) := by decide +kernel
theorem tX1_reckon_49 {d : Nat} {l0 l1 l2 l3 l4 l5 l6 l7 l8 l9 : Option Value} {v0 v1 : Value} {m : jmM} {Q : Option Value → jmM → Prop} : AW d 13 49 [l0, l1, l2, l3, l4, l5, l6, l7, l8, l9] [v0, v1] m Q ↔ AW d 13 50 [l0, l1, l2, l3, l4, l5, l6, l7, l8, l9] [.int (-1), v0, v1] m Q := A_iconst hB_X1_reckon dX1_reckon_49 (by decide)
theorem dX1_reckon_50 : decode cX1_reckon 50 = .ok (.iload 5, 2) := by decide +kernel
theorem tX1_reckon_50 {d : Nat} {l0 l1 l2 l3 l4 l6 l7 l8 l9 : Option Value} {v0 v1 v2 : Value} {x : Int32} {m : jmM} {Q : Option Value → jmM → Prop} : AW d 13 50 [l0, l1, l2, l3, l4, some (.int x), l6, l7, l8, l9] [v0, v1, v2] m Q ↔ AW d 13 52 [l0, l1, l2, l3, l4, some (.int x), l6, l7, l8, l9] [.int x, v0, v1, v2] m Q := A_iload hB_X1_reckon dX1_reckon_50 rfl
theorem dX1_reckon_52 : decode cX1_reckon 52 = .ok (.isub, 1) := by decide +kernel
theorem tX1_reckon_52 {d : Nat} {l0 l1 l2 l3 l4 l5 l6 l7 l8 l9 : Option Value} {v2 v3 : Value} {x y : Int32} {m : jmM} {Q : Option Value → jmM → Prop} : AW d 13 52 [l0, l1, l2, l3, l4, l5, l6, l7, l8, l9] [.int y, .int x, v2, v3] m Q ↔ AW d 13 53 [l0, l1, l2, l3, l4, l5, l6, l7, l8, l9] [.int (x - y), v2, v3] m Q := A_isub hB_X1_reckon dX1_reckon_52
theorem dX1_reckon_53 : decode cX1_reckon 53 = .ok (.laload, 1) := by decide +kernel
theorem tX1_reckon_53 {d : Nat} {l0 l1 l2 l3 l4 l5 l6 l7 l8 l9 : Option Value} {v2 : Value} {i : Int32} {a : Nat} {m : jmM} {Q : Option Value → jmM → Prop} : AW d 13 53 [l0, l1, l2, l3, l4, l5, l6, l7, l8, l9] [.int i, .ref a, v2] m Q ↔ ((mS m a).1 = 21 ∧ jIx i (mS m a).2) ∧ AW d 13 54 [l0, l1, l2, l3, l4, l5, l6, l7, l8, l9] [.long (mL m a (jx i)), v2] m Q := A_laload hB_X1_reckon dX1_reckon_53
theorem dX1_reckon_54 : decode cX1_reckon 54 = .ok (.invokevirtual 48, 3) := by decide +kernel
theorem tX1_reckon_54 {d : Nat} {l0 l1 l2 l3 l4 l5 l6 l7 l8 l9 : Option Value} {y0 : Value} {a : Nat} {m : jmM} {Q : Option Value → jmM → Prop} : AW d 13 54 [l0, l1, l2, l3, l4, l5, l6, l7, l8, l9] [y0, .ref a] m Q ↔ (mS m a).1 = 1 ∧ CC d 16 [.ref a, y0] m (jK d 13 57 [l0, l1, l2, l3, l4, l5, l6, l7, l8, l9] [] Q) := A_callV hB_X1_reckon dX1_reckon_54 hO_X1_reckon fS_1_48 ⟨Nat.le_of_ble_eq_true rfl, Nat.le_of_ble_eq_true rfl⟩ rfl rfl rfl
theorem dX1_reckon_57 : decode cX1_reckon 57 = .ok (.goto 83, 3) := by decide +kernel
theorem tX1_reckon_57 {d : Nat} {l0 l1 l2 l3 l4 l5 l6 l7 l8 l9 : Option Value} {m : jmM} {Q : Option Value → jmM → Prop} : AW d 13 57 [l0, l1, l2, l3, l4, l5, l6, l7, l8, l9] [] m Q ↔ AW d 13 140 [l0, l1, l2, l3, l4, l5, l6, l7, l8, l9] [] m Q := A_goto hB_X1_reckon dX1_reckon_57 (by decide)
theorem dX1_reckon_60 : decode cX1_reckon 60 = .ok (.iload 5, 2) := by decide +kernel
theorem tX1_reckon_60 {d : Nat} {l0 l1 l2 l3 l4 l6 l7 l8 l9 : Option Value} {x : Int32} {m : jmM} {Q : Option Value → jmM → Prop} : AW d 13 60 [l0, l1, l2, l3, l4, some (.int x), l6, l7, l8, l9] [] m Q ↔ AW d 13 62 [l0, l1, l2, l3, l4, some (.int x), l6, l7, l8, l9] [.int x] m Q := A_iload hB_X1_reckon dX1_reckon_60 rfl
theorem dX1_reckon_62 : decode cX1_reckon 62 = .ok (.bipush (-20), 2) := by decide +kernel
theorem tX1_reckon_62 {d : Nat} {l0 l1 l2 l3 l4 l5 l6 l7 l8 l9 : Option Value} {v0 : Value} {m : jmM} {Q : Option Value → jmM → Prop} : AW d 13 62 [l0, l1, l2, l3, l4, l5, l6, l7, l8, l9] [v0] m Q ↔ AW d 13 64 [l0, l1, l2, l3, l4, l5, l6, l7, l8, l9] [.int (-20), v0] m Q := A_bipush hB_X1_reckon dX1_reckon_62 rfl
theorem dX1_reckon_64 : decode cX1_reckon 64 = .ok (.if_icmp .ne 24, 3) := by decide +kernel
theorem tX1_reckon_64 {d : Nat} {l0 l1 l2 l3 l4 l5 l6 l7 l8 l9 : Option Value} {x y : Int32} {m : jmM} {Q : Option Value → jmM → Prop} : AW d 13 64 [l0, l1, l2, l3, l4, l5, l6, l7, l8, l9] [.int y, .int x] m Q ↔ if x = y then AW d 13 67 [l0, l1, l2, l3, l4, l5, l6, l7, l8, l9] [] m Q else AW d 13 88 [l0, l1, l2, l3, l4, l5, l6, l7, l8, l9] [] m Q := A_icmp_ne hB_X1_reckon dX1_reckon_64 (by decide)
theorem dX1_reckon_67 : decode cX1_reckon 67 = .ok (.aload_n 0, 1) := by decide +kernel
theorem tX1_reckon_67 {d : Nat} {l1 l2 l3 l4 l5 l6 l7 l8 l9 : Option Value} {x : Nat} {m : jmM} {Q : Option Value → jmM → Prop} : AW d 13 67 [some (.ref x), l1, l2, l3, l4, l5, l6, l7, l8, l9] [] m Q ↔ AW d 13 68 [some (.ref x), l1, l2, l3, l4, l5, l6, l7, l8, l9] [.ref x] m Q := A_aload_n hB_X1_reckon dX1_reckon_67 rfl
theorem dX1_reckon_68 : decode cX1_reckon 68 = .ok (.aload_n 0, 1) := by decide +kernel
theorem tX1_reckon_68 {d : Nat} {l1 l2 l3 l4 l5 l6 l7 l8 l9 : Option Value} {v0 : Value} {x : Nat} {m : jmM} {Q : Option Value → jmM → Prop} : AW d 13 68 [some (.ref x), l1, l2, l3, l4, l5, l6, l7, l8, l9] [v0] m Q ↔ AW d 13 69 [some (.ref x), l1, l2, l3, l4, l5, l6, l7, l8, l9] [.ref x, v0] m Q := A_aload_n hB_X1_reckon dX1_reckon_68 rfl
theorem dX1_reckon_69 : decode cX1_reckon 69 = .ok (.invokevirtual 52, 3) := by decide +kernel
theorem tX1_reckon_69 {d : Nat} {l0 l1 l2 l3 l4 l5 l6 l7 l8 l9 : Option Value} {v1 : Value} {a : Nat} {m : jmM} {Q : Option Value → jmM → Prop} : AW d 13 69 [l0, l1, l2, l3, l4, l5, l6, l7, l8, l9] [.ref a, v1] m Q ↔ (mS m a).1 = 1 ∧ CC d 17 [.ref a] m (jK d 13 72 [l0, l1, l2, l3, l4, l5, l6, l7, l8, l9] [v1] Q) := A_callV hB_X1_reckon dX1_reckon_69 hO_X1_reckon fS_1_52 ⟨Nat.le_of_ble_eq_true rfl, Nat.le_of_ble_eq_true rfl⟩ rfl rfl rfl
theorem dX1_reckon_72 : decode cX1_reckon 72 = .ok (.lconst 0, 1) := by decide +kernel
theorem tX1_reckon_72 {d : Nat} {l0 l1 l2 l3 l4 l5 l6 l7 l8 l9 : Option Value} {v0 v1 : Value} {m : jmM} {Q : Option Value → jmM → Prop} : AW d 13 72 [l0, l1, l2, l3, l4, l5, l6, l7, l8, l9] [v0, v1] m Q ↔ AW d 13 73 [l0, l1, l2, l3, l4, l5, l6, l7, l8, l9] [.long 0, v0, v1] m Q := A_lconst hB_X1_reckon dX1_reckon_72 (by decide)
theorem dX1_reckon_73 : decode cX1_reckon 73 = .ok (.lcmp, 1) := by decide +kernel
theorem tX1_reckon_73 {d : Nat} {l0 l1 l2 l3 l4 l5 l6 l7 l8 l9 : Option Value} {v2 : Value} {x y : Int64} {m : jmM} {Q : Option Value → jmM → Prop} : AW d 13 73 [l0, l1, l2, l3, l4, l5, l6, l7, l8, l9] [.long y, .long x, v2] m Q ↔ AW d 13 74 [l0, l1, l2, l3, l4, l5, l6, l7, l8, l9] [.int (lg_cmp x y), v2] m Q := A_lcmp hB_X1_reckon dX1_reckon_73
theorem dX1_reckon_74 : decode cX1_reckon 74 = .ok (.ifCond .ne 7, 3) := by decide +kernel
theorem tX1_reckon_74 {d : Nat} {l0 l1 l2 l3 l4 l5 l6 l7 l8 l9 : Option Value} {v1 : Value} {x : Int32} {m : jmM} {Q : Option Value → jmM → Prop} : AW d 13 74 [l0, l1, l2, l3, l4, l5, l6, l7, l8, l9] [.int x, v1] m Q ↔ if x = 0 then AW d 13 77 [l0, l1, l2, l3, l4, l5, l6, l7, l8, l9] [v1] m Q else AW d 13 81 [l0, l1, l2, l3, l4, l5, l6, l7, l8, l9] [v1] m Q := A_if_ne hB_X1_reckon dX1_reckon_74 (by decide)
theorem dX1_reckon_77 : decode cX1_reckon 77 = .ok (.lconst 1, 1) := by decide +kernel
theorem tX1_reckon_77 {d : Nat} {l0 l1 l2 l3 l4 l5 l6 l7 l8 l9 : Option Value} {v0 : Value} {m : jmM} {Q : Option Value → jmM → Prop} : AW d 13 77 [l0, l1, l2, l3, l4, l5, l6, l7, l8, l9] [v0] m Q ↔ AW d 13 78 [l0, l1, l2, l3, l4, l5, l6, l7, l8, l9] [.long 1, v0] m Q := A_lconst hB_X1_reckon dX1_reckon_77 (by decide)
theorem dX1_reckon_78 : decode cX1_reckon 78 = .ok (.goto 4, 3) := by decide +kernel
theorem tX1_reckon_78 {d : Nat} {l0 l1 l2 l3 l4 l5 l6 l7 l8 l9 : Option Value} {v0 v1 : Value} {m : jmM} {Q : Option Value → jmM → Prop} : AW d 13 78 [l0, l1, l2, l3, l4, l5, l6, l7, l8, l9] [v0, v1] m Q ↔ AW d 13 82 [l0, l1, l2, l3, l4, l5, l6, l7, l8, l9] [v0, v1] m Q := A_goto hB_X1_reckon dX1_reckon_78 (by decide)
theorem dX1_reckon_81 : decode cX1_reckon 81 = .ok (.lconst 0, 1) := by decide +kernel
theorem tX1_reckon_81 {d : Nat} {l0 l1 l2 l3 l4 l5 l6 l7 l8 l9 : Option Value} {v0 : Value} {m : jmM} {Q : Option Value → jmM → Prop} : AW d 13 81 [l0, l1, l2, l3, l4, l5, l6, l7, l8, l9] [v0] m Q ↔ AW d 13 82 [l0, l1, l2, l3, l4, l5, l6, l7, l8, l9] [.long 0, v0] m Q := A_lconst hB_X1_reckon dX1_reckon_81 (by decide)
theorem dX1_reckon_82 : decode cX1_reckon 82 = .ok (.invokevirtual 48, 3) := by decide +kernel
theorem tX1_reckon_82 {d : Nat} {l0 l1 l2 l3 l4 l5 l6 l7 l8 l9 : Option Value} {y0 : Value} {a : Nat} {m : jmM} {Q : Option Value → jmM → Prop} : AW d 13 82 [l0, l1, l2, l3, l4, l5, l6, l7, l8, l9] [y0, .ref a] m Q ↔ (mS m a).1 = 1 ∧ CC d 16 [.ref a, y0] m (jK d 13 85 [l0, l1, l2, l3, l4, l5, l6, l7, l8, l9] [] Q) := A_callV hB_X1_reckon dX1_reckon_82 hO_X1_reckon fS_1_48 ⟨Nat.le_of_ble_eq_true rfl, Nat.le_of_ble_eq_true rfl⟩ rfl rfl rfl
theorem dX1_reckon_85 : decode cX1_reckon 85 = .ok (.goto 55, 3) := by decide +kernel
theorem tX1_reckon_85 {d : Nat} {l0 l1 l2 l3 l4 l5 l6 l7 l8 l9 : Option Value} {m : jmM} {Q : Option Value → jmM → Prop} : AW d 13 85 [l0, l1, l2, l3, l4, l5, l6, l7, l8, l9] [] m Q ↔ AW d 13 140 [l0, l1, l2, l3, l4, l5, l6, l7, l8, l9] [] m Q := A_goto hB_X1_reckon dX1_reckon_85 (by decide)
theorem dX1_reckon_88 : decode cX1_reckon 88 = .ok (.aload_n 0, 1) := by decide +kernel
theorem tX1_reckon_88 {d : Nat} {l1 l2 l3 l4 l5 l6 l7 l8 l9 : Option Value} {x : Nat} {m : jmM} {Q : Option Value → jmM → Prop} : AW d 13 88 [some (.ref x), l1, l2, l3, l4, l5, l6, l7, l8, l9] [] m Q ↔ AW d 13 89 [some (.ref x), l1, l2, l3, l4, l5, l6, l7, l8, l9] [.ref x] m Q := A_aload_n hB_X1_reckon dX1_reckon_88 rfl
theorem dX1_reckon_89 : decode cX1_reckon 89 = .ok (.invokevirtual 52, 3) := by decide +kernel
theorem tX1_reckon_89 {d : Nat} {l0 l1 l2 l3 l4 l5 l6 l7 l8 l9 : Option Value} {a : Nat} {m : jmM} {Q : Option Value → jmM → Prop} : AW d 13 89 [l0, l1, l2, l3, l4, l5, l6, l7, l8, l9] [.ref a] m Q ↔ (mS m a).1 = 1 ∧ CC d 17 [.ref a] m (jK d 13 92 [l0, l1, l2, l3, l4, l5, l6, l7, l8, l9] [] Q) := A_callV hB_X1_reckon dX1_reckon_89 hO_X1_reckon fS_1_52 ⟨Nat.le_of_ble_eq_true rfl, Nat.le_of_ble_eq_true rfl⟩ rfl rfl rfl
theorem dX1_reckon_92 : decode cX1_reckon 92 = .ok (.lstore 6, 2) := by decide +kernel
theorem tX1_reckon_92 {d : Nat} {l0 l1 l2 l3 l4 l5 l6 l7 l8 l9 : Option Value} {x : Int64} {m : jmM} {Q : Option Value → jmM → Prop} : AW d 13 92 [l0, l1, l2, l3, l4, l5, l6, l7, l8, l9] [.long x] m Q ↔ AW d 13 94 [l0, l1, l2, l3, l4, jc1 l5, some (.long x), none, l8, l9] [] m Q := A_lstore hB_X1_reckon dX1_reckon_92 (Nat.le_of_ble_eq_true rfl) rfl
theorem dX1_reckon_94 : decode cX1_reckon 94 = .ok (.aload_n 0, 1) := by decide +kernel
theorem tX1_reckon_94 {d : Nat} {l1 l2 l3 l4 l5 l6 l7 l8 l9 : Option Value} {x : Nat} {m : jmM} {Q : Option Value → jmM → Prop} : AW d 13 94 [some (.ref x), l1, l2, l3, l4, l5, l6, l7, l8, l9] [] m Q ↔ AW d 13 95 [some (.ref x), l1, l2, l3, l4, l5, l6, l7, l8, l9] [.ref x] m Q := A_aload_n hB_X1_reckon dX1_reckon_94 rfl
theorem dX1_reckon_95 : decode cX1_reckon 95 = .ok (.invokevirtual 52, 3) := by decide +kernel
theorem tX1_reckon_95 {d : Nat} {l0 l1 l2 l3 l4 l5 l6 l7 l8 l9 : Option Value} {a : Nat} {m : jmM} {Q : Option Value → jmM → Prop} : AW d 13 95 [l0, l1, l2, l3, l4, l5, l6, l7, l8, l9] [.ref a] m Q ↔ (mS m a).1 = 1 ∧ CC d 17 [.ref a] m (jK d 13 98 [l0, l1, l2, l3, l4, l5, l6, l7, l8, l9] [] Q) := A_callV hB_X1_reckon dX1_reckon_95 hO_X1_reckon fS_1_52 ⟨Nat.le_of_ble_eq_true rfl, Nat.le_of_ble_eq_true rfl⟩ rfl rfl rfl
theorem dX1_reckon_98 : decode cX1_reckon 98 = .ok (.lstore 8, 2) := by decide +kernel
theorem tX1_reckon_98 {d : Nat} {l0 l1 l2 l3 l4 l5 l6 l7 l8 l9 : Option Value} {x : Int64} {m : jmM} {Q : Option Value → jmM → Prop} : AW d 13 98 [l0, l1, l2, l3, l4, l5, l6, l7, l8, l9] [.long x] m Q ↔ AW d 13 100 [l0, l1, l2, l3, l4, l5, l6, jc1 l7, some (.long x), none] [] m Q := A_lstore hB_X1_reckon dX1_reckon_98 (Nat.le_of_ble_eq_true rfl) rfl
theorem dX1_reckon_100 : decode cX1_reckon 100 = .ok (.aload_n 0, 1) := by decide +kernel
theorem tX1_reckon_100 {d : Nat} {l1 l2 l3 l4 l5 l6 l7 l8 l9 : Option Value} {x : Nat} {m : jmM} {Q : Option Value → jmM → Prop} : AW d 13 100 [some (.ref x), l1, l2, l3, l4, l5, l6, l7, l8, l9] [] m Q ↔ AW d 13 101 [some (.ref x), l1, l2, l3, l4, l5, l6, l7, l8, l9] [.ref x] m Q := A_aload_n hB_X1_reckon dX1_reckon_100 rfl
theorem dX1_reckon_101 : decode cX1_reckon 101 = .ok (.iload 5, 2) := by decide +kernel
theorem tX1_reckon_101 {d : Nat} {l0 l1 l2 l3 l4 l6 l7 l8 l9 : Option Value} {v0 : Value} {x : Int32} {m : jmM} {Q : Option Value → jmM → Prop} : AW d 13 101 [l0, l1, l2, l3, l4, some (.int x), l6, l7, l8, l9] [v0] m Q ↔ AW d 13 103 [l0, l1, l2, l3, l4, some (.int x), l6, l7, l8, l9] [.int x, v0] m Q := A_iload hB_X1_reckon dX1_reckon_101 rfl
theorem dX1_reckon_103 : decode cX1_reckon 103 = .ok (.bipush (-14), 2) := by decide +kernel
theorem tX1_reckon_103 {d : Nat} {l0 l1 l2 l3 l4 l5 l6 l7 l8 l9 : Option Value} {v0 v1 : Value} {m : jmM} {Q : Option Value → jmM → Prop} : AW d 13 103 [l0, l1, l2, l3, l4, l5, l6, l7, l8, l9] [v0, v1] m Q ↔ AW d 13 105 [l0, l1, l2, l3, l4, l5, l6, l7, l8, l9] [.int (-14), v0, v1] m Q := A_bipush hB_X1_reckon dX1_reckon_103 rfl
theorem dX1_reckon_105 : decode cX1_reckon 105 = .ok (.if_icmp .lt 15, 3) := by decide +kernel
theorem tX1_reckon_105 {d : Nat} {l0 l1 l2 l3 l4 l5 l6 l7 l8 l9 : Option Value} {v2 : Value} {x y : Int32} {m : jmM} {Q : Option Value → jmM → Prop} : AW d 13 105 [l0, l1, l2, l3, l4, l5, l6, l7, l8, l9] [.int y, .int x, v2] m Q ↔ if x < y then AW d 13 120 [l0, l1, l2, l3, l4, l5, l6, l7, l8, l9] [v2] m Q else AW d 13 108 [l0, l1, l2, l3, l4, l5, l6, l7, l8, l9] [v2] m Q := A_icmp_lt hB_X1_reckon dX1_reckon_105 (by decide)
theorem dX1_reckon_108 : decode cX1_reckon 108 = .ok (.iload 5, 2) := by decide +kernel
theorem tX1_reckon_108 {d : Nat} {l0 l1 l2 l3 l4 l6 l7 l8 l9 : Option Value} {v0 : Value} {x : Int32} {m : jmM} {Q : Option Value → jmM → Prop} : AW d 13 108 [l0, l1, l2, l3, l4, some (.int x), l6, l7, l8, l9] [v0] m Q ↔ AW d 13 110 [l0, l1, l2, l3, l4, some (.int x), l6, l7, l8, l9] [.int x, v0] m Q := A_iload hB_X1_reckon dX1_reckon_108 rfl
theorem dX1_reckon_110 : decode cX1_reckon 110 = .ok (.lload 8, 2) := by decide +kernel
theorem tX1_reckon_110 {d : Nat} {l0 l1 l2 l3 l4 l5 l6 l7 l9 : Option Value} {v0 v1 : Value} {x : Int64} {m : jmM} {Q : Option Value → jmM → Prop} : AW d 13 110 [l0, l1, l2, l3, l4, l5, l6, l7, some (.long x), l9] [v0, v1] m Q ↔ AW d 13 112 [l0, l1, l2, l3, l4, l5, l6, l7, some (.long x), l9] [.long x, v0, v1] m Q := A_lload hB_X1_reckon dX1_reckon_110 rfl
theorem dX1_reckon_112 : decode cX1_reckon 112 = .ok (.lload 6, 2) := by decide +kernel
theorem tX1_reckon_112 {d : Nat} {l0 l1 l2 l3 l4 l5 l7 l8 l9 : Option Value} {v0 v1 v2 : Value} {x : Int64} {m : jmM} {Q : Option Value → jmM → Prop} : AW d 13 112 [l0, l1, l2, l3, l4, l5, some (.long x), l7, l8, l9] [v0, v1, v2] m Q ↔ AW d 13 114 [l0, l1, l2, l3, l4, l5, some (.long x), l7, l8, l9] [.long x, v0, v1, v2] m Q := A_lload hB_X1_reckon dX1_reckon_112 rfl
theorem dX1_reckon_114 : decode cX1_reckon 114 = .ok (.invokestatic 56, 3) := by decide +kernel
theorem tX1_reckon_114 {d : Nat} {l0 l1 l2 l3 l4 l5 l6 l7 l8 l9 : Option Value} {v3 : Value} {y0 y1 y2 : Value} {m : jmM} {Q : Option Value → jmM → Prop} : AW d 13 114 [l0, l1, l2, l3, l4, l5, l6, l7, l8, l9] [y0, y1, y2, v3] m Q ↔ CC d 14 [y2, y1, y0] m (jK d 13 117 [l0, l1, l2, l3, l4, l5, l6, l7, l8, l9] [v3] Q) := A_callS0 hB_X1_reckon dX1_reckon_114 hO_X1_reckon fS_1_56 ⟨Nat.le_of_ble_eq_true rfl, Nat.le_of_ble_eq_true rfl⟩ rfl rfl
theorem dX1_reckon_117 : decode cX1_reckon 117 = .ok (.goto 20, 3) := by decide +kernel
theorem tX1_reckon_117 {d : Nat} {l0 l1 l2 l3 l4 l5 l6 l7 l8 l9 : Option Value} {v0 v1 : Value} {m : jmM} {Q : Option Value → jmM → Prop} : AW d 13 117 [l0, l1, l2, l3, l4, l5, l6, l7, l8, l9] [v0, v1] m Q ↔ AW d 13 137 [l0, l1, l2, l3, l4, l5, l6, l7, l8, l9] [v0, v1] m Q := A_goto hB_X1_reckon dX1_reckon_117 (by decide)
theorem dX1_reckon_120 : decode cX1_reckon 120 = .ok (.iload 5, 2) := by decide +kernel
theorem tX1_reckon_120 {d : Nat} {l0 l1 l2 l3 l4 l6 l7 l8 l9 : Option Value} {v0 : Value} {x : Int32} {m : jmM} {Q : Option Value → jmM → Prop} : AW d 13 120 [l0, l1, l2, l3, l4, some (.int x), l6, l7, l8, l9] [v0] m Q ↔ AW d 13 122 [l0, l1, l2, l3, l4, some (.int x), l6, l7, l8, l9] [.int x, v0] m Q := A_iload hB_X1_reckon dX1_reckon_120 rfl
theorem dX1_reckon_122 : decode cX1_reckon 122 = .ok (.lload 8, 2) := by decide +kernel
theorem tX1_reckon_122 {d : Nat} {l0 l1 l2 l3 l4 l5 l6 l7 l9 : Option Value} {v0 v1 : Value} {x : Int64} {m : jmM} {Q : Option Value → jmM → Prop} : AW d 13 122 [l0, l1, l2, l3, l4, l5, l6, l7, some (.long x), l9] [v0, v1] m Q ↔ AW d 13 124 [l0, l1, l2, l3, l4, l5, l6, l7, some (.long x), l9] [.long x, v0, v1] m Q := A_lload hB_X1_reckon dX1_reckon_122 rfl
theorem dX1_reckon_124 : decode cX1_reckon 124 = .ok (.lload 6, 2) := by decide +kernel
theorem tX1_reckon_124 {d : Nat} {l0 l1 l2 l3 l4 l5 l7 l8 l9 : Option Value} {v0 v1 v2 : Value} {x : Int64} {m : jmM} {Q : Option Value → jmM → Prop} : AW d 13 124 [l0, l1, l2, l3, l4, l5, some (.long x), l7, l8, l9] [v0, v1, v2] m Q ↔ AW d 13 126 [l0, l1, l2, l3, l4, l5, some (.long x), l7, l8, l9] [.long x, v0, v1, v2] m Q := A_lload hB_X1_reckon dX1_reckon_124 rfl
theorem dX1_reckon_126 : decode cX1_reckon 126 = .ok (.invokestatic 60, 3) := by decide +kernel
theorem tX1_reckon_126 {d : Nat} {l0 l1 l2 l3 l4 l5 l6 l7 l8 l9 : Option Value} {v3 : Value} {y0 y1 y2 : Value} {m : jmM} {Q : Option Value → jmM → Prop} : AW d 13 126 [l0, l1, l2, l3, l4, l5, l6, l7, l8, l9] [y0, y1, y2, v3] m Q ↔ CC d 15 [y2, y1, y0] m (jK d 13 129 [l0, l1, l2, l3, l4, l5, l6, l7, l8, l9] [v3] Q) := A_callS0 hB_X1_reckon dX1_reckon_126 hO_X1_reckon fS_1_60 ⟨Nat.le_of_ble_eq_true rfl, Nat.le_of_ble_eq_true rfl⟩ rfl rfl
theorem dX1_reckon_129 : decode cX1_reckon 129 = .ok (.ifCond .eq 7, 3) := by decide +kernel
theorem tX1_reckon_129 {d : Nat} {l0 l1 l2 l3 l4 l5 l6 l7 l8 l9 : Option Value} {v1 : Value} {x : Int32} {m : jmM} {Q : Option Value → jmM → Prop} : AW d 13 129 [l0, l1, l2, l3, l4, l5, l6, l7, l8, l9] [.int x, v1] m Q ↔ if x = 0 then AW d 13 136 [l0, l1, l2, l3, l4, l5, l6, l7, l8, l9] [v1] m Q else AW d 13 132 [l0, l1, l2, l3, l4, l5, l6, l7, l8, l9] [v1] m Q := A_if_eq hB_X1_reckon dX1_reckon_129 (by decide)
theorem dX1_reckon_132 : decode cX1_reckon 132 = .ok (.lconst 1, 1) := by decide +kernel
theorem tX1_reckon_132 {d : Nat} {l0 l1 l2 l3 l4 l5 l6 l7 l8 l9 : Option Value} {v0 : Value} {m : jmM} {Q : Option Value → jmM → Prop} : AW d 13 132 [l0, l1, l2, l3, l4, l5, l6, l7, l8, l9] [v0] m Q ↔ AW d 13 133 [l0, l1, l2, l3, l4, l5, l6, l7, l8, l9] [.long 1, v0] m Q := A_lconst hB_X1_reckon dX1_reckon_132 (by decide)
theorem dX1_reckon_133 : decode cX1_reckon 133 = .ok (.goto 4, 3) := by decide +kernel
theorem tX1_reckon_133 {d : Nat} {l0 l1 l2 l3 l4 l5 l6 l7 l8 l9 : Option Value} {v0 v1 : Value} {m : jmM} {Q : Option Value → jmM → Prop} : AW d 13 133 [l0, l1, l2, l3, l4, l5, l6, l7, l8, l9] [v0, v1] m Q ↔ AW d 13 137 [l0, l1, l2, l3, l4, l5, l6, l7, l8, l9] [v0, v1] m Q := A_goto hB_X1_reckon dX1_reckon_133 (by decide)
theorem dX1_reckon_136 : decode cX1_reckon 136 = .ok (.lconst 0, 1) := by decide +kernel
theorem tX1_reckon_136 {d : Nat} {l0 l1 l2 l3 l4 l5 l6 l7 l8 l9 : Option Value} {v0 : Value} {m : jmM} {Q : Option Value → jmM → Prop} : AW d 13 136 [l0, l1, l2, l3, l4, l5, l6, l7, l8, l9] [v0] m Q ↔ AW d 13 137 [l0, l1, l2, l3, l4, l5, l6, l7, l8, l9] [.long 0, v0] m Q := A_lconst hB_X1_reckon dX1_reckon_136 (by decide)
theorem dX1_reckon_137 : decode cX1_reckon 137 = .ok (.invokevirtual 48, 3) := by decide +kernel
theorem tX1_reckon_137 {d : Nat} {l0 l1 l2 l3 l4 l5 l6 l7 l8 l9 : Option Value} {y0 : Value} {a : Nat} {m : jmM} {Q : Option Value → jmM → Prop} : AW d 13 137 [l0, l1, l2, l3, l4, l5, l6, l7, l8, l9] [y0, .ref a] m Q ↔ (mS m a).1 = 1 ∧ CC d 16 [.ref a, y0] m (jK d 13 140 [l0, l1, l2, l3, l4, l5, l6, l7, l8, l9] [] Q) := A_callV hB_X1_reckon dX1_reckon_137 hO_X1_reckon fS_1_48 ⟨Nat.le_of_ble_eq_true rfl, Nat.le_of_ble_eq_true rfl⟩ rfl rfl rfl
theorem dX1_reckon_140 : decode cX1_reckon 140 = .ok (.iinc 4 1, 3) := by decide +kernel
theorem tX1_reckon_140 {d : Nat} {l0 l1 l2 l3 l5 l6 l7 l8 l9 : Option Value} {x : Int32} {m : jmM} {Q : Option Value → jmM → Prop} : AW d 13 140 [l0, l1, l2, l3, some (.int x), l5, l6, l7, l8, l9] [] m Q ↔ AW d 13 143 [l0, l1, l2, jc1 l3, some (.int (x + 1)), l5, l6, l7, l8, l9] [] m Q := A_iinc hB_X1_reckon dX1_reckon_140 rfl (Nat.le_of_ble_eq_true rfl) (v := 1) (by decide) rfl
theorem dX1_reckon_143 : decode cX1_reckon 143 = .ok (.goto (-135), 3) := by decide +kernel
theorem tX1_reckon_143 {d : Nat} {l0 l1 l2 l3 l4 l5 l6 l7 l8 l9 : Option Value} {m : jmM} {Q : Option Value → jmM → Prop} : AW d 13 143 [l0, l1, l2, l3, l4, l5, l6, l7, l8, l9] [] m Q ↔ AW d 13 8 [l0, l1, l2, l3, l4, l5, l6, l7, l8, l9] [] m Q := A_goto hB_X1_reckon dX1_reckon_143 (by decide)
theorem dX1_reckon_146 : decode cX1_reckon 146 = .ok (.aload_n 0, 1) := by decide +kernel
theorem tX1_reckon_146 {d : Nat} {l1 l2 l3 l4 l5 l6 l7 l8 l9 : Option Value} {x : Nat} {m : jmM} {Q : Option Value → jmM → Prop} : AW d 13 146 [some (.ref x), l1, l2, l3, l4, l5, l6, l7, l8, l9] [] m Q ↔ AW d 13 147 [some (.ref x), l1, l2, l3, l4, l5, l6, l7, l8, l9] [.ref x] m Q := A_aload_n hB_X1_reckon dX1_reckon_146 rfl
theorem dX1_reckon_147 : decode cX1_reckon 147 = .ok (.invokevirtual 52, 3) := by decide +kernel
theorem tX1_reckon_147 {d : Nat} {l0 l1 l2 l3 l4 l5 l6 l7 l8 l9 : Option Value} {a : Nat} {m : jmM} {Q : Option Value → jmM → Prop} : AW d 13 147 [l0, l1, l2, l3, l4, l5, l6, l7, l8, l9] [.ref a] m Q ↔ (mS m a).1 = 1 ∧ CC d 17 [.ref a] m (jK d 13 150 [l0, l1, l2, l3, l4, l5, l6, l7, l8, l9] [] Q) := A_callV hB_X1_reckon dX1_reckon_147 hO_X1_reckon fS_1_52 ⟨Nat.le_of_ble_eq_true rfl, Nat.le_of_ble_eq_true rfl⟩ rfl rfl rfl
theorem dX1_reckon_150 : decode cX1_reckon 150 = .ok (.lreturn, 1) := by decide +kernel
theorem tX1_reckon_150 {d : Nat} {l0 l1 l2 l3 l4 l5 l6 l7 l8 l9 : Option Value} {x : Int64} {m : jmM} {Q : Option Value → jmM → Prop} : AW d 13 150 [l0, l1, l2, l3, l4, l5, l6, l7, l8, l9] [.long x] m Q ↔ Q (some (.long x)) m := A_lreturn hB_X1_reckon dX1_reckon_150 hR_X1_reckon
theorem hB_X1_reckonSum : jB 14 = cX1_reckonSum := rfl
theorem hO_X1_reckonSum : jO 14 = 1 := rfl
theorem hR_X1_reckonSum : jRt 14 = (some .long) := rfl
theorem nX1_reckonSum (d : Nat) (x0 : Int32) (x1 : Int64) (x2 : Int64) (m : jmM) (Q : Option Value → jmM → Prop) : CC (d + 1) 14 [.int x0, .long x1, .long x2] m Q ↔ AW d 14 0 [some (.int x0), some (.long x1), none, some (.long x2), none] [] m Q := CC_body (Nat.le_of_ble_eq_true rfl)
theorem dX1_reckonSum_0 : decode cX1_reckonSum 0 = .ok (.iload_n 0, 1) := by decide +kernel
theorem tX1_reckonSum_0 {d : Nat} {l1 l2 l3 l4 : Option Value} {x : Int32} {m : jmM} {Q : Option Value → jmM → Prop} : AW d 14 0 [some (.int x), l1, l2, l3, l4] [] m Q ↔ AW d 14 1 [some (.int x), l1, l2, l3, l4] [.int x] m Q := A_iload_n hB_X1_reckonSum dX1_reckonSum_0 rfl
theorem dX1_reckonSum_1 : decode cX1_reckonSum 1 = .ok (.tableswitch 39 (-13) (-11) #[35, 31, 27], 27) := by decide +kernel
theorem tX1_reckonSum_1 {d : Nat} {l0 l1 l2 l3 l4 : Option Value} {x : Int32} {m : jmM} {Q : Option Value → jmM → Prop} : AW d 14 1 [l0, l1, l2, l3, l4] [.int x] m Q ↔ if x = (-13) then AW d 14 36 [l0, l1, l2, l3, l4] [] m Q else if x = (-12) then AW d 14 32 [l0, l1, l2, l3, l4] [] m Q else if x = (-11) then AW d 14 28 [l0, l1, l2, l3, l4] [] m Q else AW d 14 40 [l0, l1, l2, l3, l4] [] m Q := by
  by_cases h0 : x = (-13)
  · subst h0; rw [if_pos rfl]; exact A_switch hB_X1_reckonSum dX1_reckonSum_1 (by decide) (by decide)
  rw [if_neg h0]
  have e0 := i32_ne (n := (-13)) (by decide) h0
  by_cases h1 : x = (-12)
  · subst h1; rw [if_pos rfl]; exact A_switch hB_X1_reckonSum dX1_reckonSum_1 (by decide) (by decide)
  rw [if_neg h1]
  have e1 := i32_ne (n := (-12)) (by decide) h1
  by_cases h2 : x = (-11)
  · subst h2; rw [if_pos rfl]; exact A_switch hB_X1_reckonSum dX1_reckonSum_1 (by decide) (by decide)
  rw [if_neg h2]
  have e2 := i32_ne (n := (-11)) (by decide) h2
  exact A_switch hB_X1_reckonSum dX1_reckonSum_1 (t := 40) (by decide) (by unfold jsw; rw [if_pos (by omega)]; rfl)
theorem dX1_reckonSum_28 : decode cX1_reckonSum 28 = .ok (.lload_n 1, 1) := by decide +kernel
theorem tX1_reckonSum_28 {d : Nat} {l0 l2 l3 l4 : Option Value} {x : Int64} {m : jmM} {Q : Option Value → jmM → Prop} : AW d 14 28 [l0, some (.long x), l2, l3, l4] [] m Q ↔ AW d 14 29 [l0, some (.long x), l2, l3, l4] [.long x] m Q := A_lload_n hB_X1_reckonSum dX1_reckonSum_28 rfl
theorem dX1_reckonSum_29 : decode cX1_reckonSum 29 = .ok (.lload_n 3, 1) := by decide +kernel
theorem tX1_reckonSum_29 {d : Nat} {l0 l1 l2 l4 : Option Value} {v0 : Value} {x : Int64} {m : jmM} {Q : Option Value → jmM → Prop} : AW d 14 29 [l0, l1, l2, some (.long x), l4] [v0] m Q ↔ AW d 14 30 [l0, l1, l2, some (.long x), l4] [.long x, v0] m Q := A_lload_n hB_X1_reckonSum dX1_reckonSum_29 rfl
theorem dX1_reckonSum_30 : decode cX1_reckonSum 30 = .ok (.ladd, 1) := by decide +kernel
theorem tX1_reckonSum_30 {d : Nat} {l0 l1 l2 l3 l4 : Option Value} {x y : Int64} {m : jmM} {Q : Option Value → jmM → Prop} : AW d 14 30 [l0, l1, l2, l3, l4] [.long y, .long x] m Q ↔ AW d 14 31 [l0, l1, l2, l3, l4] [.long (x + y)] m Q := A_ladd hB_X1_reckonSum dX1_reckonSum_30
theorem dX1_reckonSum_31 : decode cX1_reckonSum 31 = .ok (.lreturn, 1) := by decide +kernel
theorem tX1_reckonSum_31 {d : Nat} {l0 l1 l2 l3 l4 : Option Value} {x : Int64} {m : jmM} {Q : Option Value → jmM → Prop} : AW d 14 31 [l0, l1, l2, l3, l4] [.long x] m Q ↔ Q (some (.long x)) m := A_lreturn hB_X1_reckonSum dX1_reckonSum_31 hR_X1_reckonSum
theorem dX1_reckonSum_32 : decode cX1_reckonSum 32 = .ok (.lload_n 1, 1) := by decide +kernel
theorem tX1_reckonSum_32 {d : Nat} {l0 l2 l3 l4 : Option Value} {x : Int64} {m : jmM} {Q : Option Value → jmM → Prop} : AW d 14 32 [l0, some (.long x), l2, l3, l4] [] m Q ↔ AW d 14 33 [l0, some (.long x), l2, l3, l4] [.long x] m Q := A_lload_n hB_X1_reckonSum dX1_reckonSum_32 rfl
theorem dX1_reckonSum_33 : decode cX1_reckonSum 33 = .ok (.lload_n 3, 1) := by decide +kernel
theorem tX1_reckonSum_33 {d : Nat} {l0 l1 l2 l4 : Option Value} {v0 : Value} {x : Int64} {m : jmM} {Q : Option Value → jmM → Prop} : AW d 14 33 [l0, l1, l2, some (.long x), l4] [v0] m Q ↔ AW d 14 34 [l0, l1, l2, some (.long x), l4] [.long x, v0] m Q := A_lload_n hB_X1_reckonSum dX1_reckonSum_33 rfl
theorem dX1_reckonSum_34 : decode cX1_reckonSum 34 = .ok (.lsub, 1) := by decide +kernel
theorem tX1_reckonSum_34 {d : Nat} {l0 l1 l2 l3 l4 : Option Value} {x y : Int64} {m : jmM} {Q : Option Value → jmM → Prop} : AW d 14 34 [l0, l1, l2, l3, l4] [.long y, .long x] m Q ↔ AW d 14 35 [l0, l1, l2, l3, l4] [.long (x - y)] m Q := A_lsub hB_X1_reckonSum dX1_reckonSum_34
theorem dX1_reckonSum_35 : decode cX1_reckonSum 35 = .ok (.lreturn, 1) := by decide +kernel
theorem tX1_reckonSum_35 {d : Nat} {l0 l1 l2 l3 l4 : Option Value} {x : Int64} {m : jmM} {Q : Option Value → jmM → Prop} : AW d 14 35 [l0, l1, l2, l3, l4] [.long x] m Q ↔ Q (some (.long x)) m := A_lreturn hB_X1_reckonSum dX1_reckonSum_35 hR_X1_reckonSum
theorem dX1_reckonSum_36 : decode cX1_reckonSum 36 = .ok (.lload_n 1, 1) := by decide +kernel
theorem tX1_reckonSum_36 {d : Nat} {l0 l2 l3 l4 : Option Value} {x : Int64} {m : jmM} {Q : Option Value → jmM → Prop} : AW d 14 36 [l0, some (.long x), l2, l3, l4] [] m Q ↔ AW d 14 37 [l0, some (.long x), l2, l3, l4] [.long x] m Q := A_lload_n hB_X1_reckonSum dX1_reckonSum_36 rfl
theorem dX1_reckonSum_37 : decode cX1_reckonSum 37 = .ok (.lload_n 3, 1) := by decide +kernel
theorem tX1_reckonSum_37 {d : Nat} {l0 l1 l2 l4 : Option Value} {v0 : Value} {x : Int64} {m : jmM} {Q : Option Value → jmM → Prop} : AW d 14 37 [l0, l1, l2, some (.long x), l4] [v0] m Q ↔ AW d 14 38 [l0, l1, l2, some (.long x), l4] [.long x, v0] m Q := A_lload_n hB_X1_reckonSum dX1_reckonSum_37 rfl
theorem dX1_reckonSum_38 : decode cX1_reckonSum 38 = .ok (.lmul, 1) := by decide +kernel
theorem tX1_reckonSum_38 {d : Nat} {l0 l1 l2 l3 l4 : Option Value} {x y : Int64} {m : jmM} {Q : Option Value → jmM → Prop} : AW d 14 38 [l0, l1, l2, l3, l4] [.long y, .long x] m Q ↔ AW d 14 39 [l0, l1, l2, l3, l4] [.long (x * y)] m Q := A_lmul hB_X1_reckonSum dX1_reckonSum_38
theorem dX1_reckonSum_39 : decode cX1_reckonSum 39 = .ok (.lreturn, 1) := by decide +kernel
theorem tX1_reckonSum_39 {d : Nat} {l0 l1 l2 l3 l4 : Option Value} {x : Int64} {m : jmM} {Q : Option Value → jmM → Prop} : AW d 14 39 [l0, l1, l2, l3, l4] [.long x] m Q ↔ Q (some (.long x)) m := A_lreturn hB_X1_reckonSum dX1_reckonSum_39 hR_X1_reckonSum
theorem dX1_reckonSum_40 : decode cX1_reckonSum 40 = .ok (.lload_n 3, 1) := by decide +kernel
theorem tX1_reckonSum_40 {d : Nat} {l0 l1 l2 l4 : Option Value} {x : Int64} {m : jmM} {Q : Option Value → jmM → Prop} : AW d 14 40 [l0, l1, l2, some (.long x), l4] [] m Q ↔ AW d 14 41 [l0, l1, l2, some (.long x), l4] [.long x] m Q := A_lload_n hB_X1_reckonSum dX1_reckonSum_40 rfl
theorem dX1_reckonSum_41 : decode cX1_reckonSum 41 = .ok (.lconst 0, 1) := by decide +kernel
theorem tX1_reckonSum_41 {d : Nat} {l0 l1 l2 l3 l4 : Option Value} {v0 : Value} {m : jmM} {Q : Option Value → jmM → Prop} : AW d 14 41 [l0, l1, l2, l3, l4] [v0] m Q ↔ AW d 14 42 [l0, l1, l2, l3, l4] [.long 0, v0] m Q := A_lconst hB_X1_reckonSum dX1_reckonSum_41 (by decide)
theorem dX1_reckonSum_42 : decode cX1_reckonSum 42 = .ok (.lcmp, 1) := by decide +kernel
theorem tX1_reckonSum_42 {d : Nat} {l0 l1 l2 l3 l4 : Option Value} {x y : Int64} {m : jmM} {Q : Option Value → jmM → Prop} : AW d 14 42 [l0, l1, l2, l3, l4] [.long y, .long x] m Q ↔ AW d 14 43 [l0, l1, l2, l3, l4] [.int (lg_cmp x y)] m Q := A_lcmp hB_X1_reckonSum dX1_reckonSum_42
theorem dX1_reckonSum_43 : decode cX1_reckonSum 43 = .ok (.ifCond .ne 7, 3) := by decide +kernel
theorem tX1_reckonSum_43 {d : Nat} {l0 l1 l2 l3 l4 : Option Value} {x : Int32} {m : jmM} {Q : Option Value → jmM → Prop} : AW d 14 43 [l0, l1, l2, l3, l4] [.int x] m Q ↔ if x = 0 then AW d 14 46 [l0, l1, l2, l3, l4] [] m Q else AW d 14 50 [l0, l1, l2, l3, l4] [] m Q := A_if_ne hB_X1_reckonSum dX1_reckonSum_43 (by decide)
theorem dX1_reckonSum_46 : decode cX1_reckonSum 46 = .ok (.lconst 0, 1) := by decide +kernel
theorem tX1_reckonSum_46 {d : Nat} {l0 l1 l2 l3 l4 : Option Value} {m : jmM} {Q : Option Value → jmM → Prop} : AW d 14 46 [l0, l1, l2, l3, l4] [] m Q ↔ AW d 14 47 [l0, l1, l2, l3, l4] [.long 0] m Q := A_lconst hB_X1_reckonSum dX1_reckonSum_46 (by decide)
theorem dX1_reckonSum_47 : decode cX1_reckonSum 47 = .ok (.goto 6, 3) := by decide +kernel
theorem tX1_reckonSum_47 {d : Nat} {l0 l1 l2 l3 l4 : Option Value} {v0 : Value} {m : jmM} {Q : Option Value → jmM → Prop} : AW d 14 47 [l0, l1, l2, l3, l4] [v0] m Q ↔ AW d 14 53 [l0, l1, l2, l3, l4] [v0] m Q := A_goto hB_X1_reckonSum dX1_reckonSum_47 (by decide)
theorem dX1_reckonSum_50 : decode cX1_reckonSum 50 = .ok (.lload_n 1, 1) := by decide +kernel
theorem tX1_reckonSum_50 {d : Nat} {l0 l2 l3 l4 : Option Value} {x : Int64} {m : jmM} {Q : Option Value → jmM → Prop} : AW d 14 50 [l0, some (.long x), l2, l3, l4] [] m Q ↔ AW d 14 51 [l0, some (.long x), l2, l3, l4] [.long x] m Q := A_lload_n hB_X1_reckonSum dX1_reckonSum_50 rfl
theorem dX1_reckonSum_51 : decode cX1_reckonSum 51 = .ok (.lload_n 3, 1) := by decide +kernel
theorem tX1_reckonSum_51 {d : Nat} {l0 l1 l2 l4 : Option Value} {v0 : Value} {x : Int64} {m : jmM} {Q : Option Value → jmM → Prop} : AW d 14 51 [l0, l1, l2, some (.long x), l4] [v0] m Q ↔ AW d 14 52 [l0, l1, l2, some (.long x), l4] [.long x, v0] m Q := A_lload_n hB_X1_reckonSum dX1_reckonSum_51 rfl
theorem dX1_reckonSum_52 : decode cX1_reckonSum 52 = .ok (.ldiv, 1) := by decide +kernel
theorem tX1_reckonSum_52 {d : Nat} {l0 l1 l2 l3 l4 : Option Value} {x y : Int64} {m : jmM} {Q : Option Value → jmM → Prop} : AW d 14 52 [l0, l1, l2, l3, l4] [.long y, .long x] m Q ↔ ¬ y = 0 ∧ AW d 14 53 [l0, l1, l2, l3, l4] [.long (x / y)] m Q := A_ldiv hB_X1_reckonSum dX1_reckonSum_52
theorem dX1_reckonSum_53 : decode cX1_reckonSum 53 = .ok (.lreturn, 1) := by decide +kernel
theorem tX1_reckonSum_53 {d : Nat} {l0 l1 l2 l3 l4 : Option Value} {x : Int64} {m : jmM} {Q : Option Value → jmM → Prop} : AW d 14 53 [l0, l1, l2, l3, l4] [.long x] m Q ↔ Q (some (.long x)) m := A_lreturn hB_X1_reckonSum dX1_reckonSum_53 hR_X1_reckonSum
theorem hB_X1_decide : jB 15 = cX1_decide := rfl
theorem hO_X1_decide : jO 15 = 1 := rfl
theorem hR_X1_decide : jRt 15 = (some .boolean) := rfl
theorem nX1_decide (d : Nat) (x0 : Int32) (x1 : Int64) (x2 : Int64) (m : jmM) (Q : Option Value → jmM → Prop) : CC (d + 1) 15 [.int x0, .long x1, .long x2] m Q ↔ AW d 15 0 [some (.int x0), some (.long x1), none, some (.long x2), none] [] m Q := CC_body (Nat.le_of_ble_eq_true rfl)
theorem dX1_decide_0 : decode cX1_decide 0 = .ok (.iload_n 0, 1) := by decide +kernel
theorem tX1_decide_0 {d : Nat} {l1 l2 l3 l4 : Option Value} {x : Int32} {m : jmM} {Q : Option Value → jmM → Prop} : AW d 15 0 [some (.int x), l1, l2, l3, l4] [] m Q ↔ AW d 15 1 [some (.int x), l1, l2, l3, l4] [.int x] m Q := A_iload_n hB_X1_decide dX1_decide_0 rfl
theorem dX1_decide_1 : decode cX1_decide 1 = .ok (.tableswitch 121 (-21) (-15) #[103, 121, 91, 79, 67, 55, 43], 43) := by decide +kernel
theorem tX1_decide_1 {d : Nat} {l0 l1 l2 l3 l4 : Option Value} {x : Int32} {m : jmM} {Q : Option Value → jmM → Prop} : AW d 15 1 [l0, l1, l2, l3, l4] [.int x] m Q ↔ if x = (-21) then AW d 15 104 [l0, l1, l2, l3, l4] [] m Q else if x = (-20) then AW d 15 122 [l0, l1, l2, l3, l4] [] m Q else if x = (-19) then AW d 15 92 [l0, l1, l2, l3, l4] [] m Q else if x = (-18) then AW d 15 80 [l0, l1, l2, l3, l4] [] m Q else if x = (-17) then AW d 15 68 [l0, l1, l2, l3, l4] [] m Q else if x = (-16) then AW d 15 56 [l0, l1, l2, l3, l4] [] m Q else if x = (-15) then AW d 15 44 [l0, l1, l2, l3, l4] [] m Q else AW d 15 122 [l0, l1, l2, l3, l4] [] m Q := by
  by_cases h0 : x = (-21)
  · subst h0; rw [if_pos rfl]; exact A_switch hB_X1_decide dX1_decide_1 (by decide) (by decide)
  rw [if_neg h0]
  have e0 := i32_ne (n := (-21)) (by decide) h0
  by_cases h1 : x = (-20)
  · subst h1; rw [if_pos rfl]; exact A_switch hB_X1_decide dX1_decide_1 (by decide) (by decide)
  rw [if_neg h1]
  have e1 := i32_ne (n := (-20)) (by decide) h1
  by_cases h2 : x = (-19)
  · subst h2; rw [if_pos rfl]; exact A_switch hB_X1_decide dX1_decide_1 (by decide) (by decide)
  rw [if_neg h2]
  have e2 := i32_ne (n := (-19)) (by decide) h2
  by_cases h3 : x = (-18)
  · subst h3; rw [if_pos rfl]; exact A_switch hB_X1_decide dX1_decide_1 (by decide) (by decide)
  rw [if_neg h3]
  have e3 := i32_ne (n := (-18)) (by decide) h3
  by_cases h4 : x = (-17)
  · subst h4; rw [if_pos rfl]; exact A_switch hB_X1_decide dX1_decide_1 (by decide) (by decide)
  rw [if_neg h4]
  have e4 := i32_ne (n := (-17)) (by decide) h4
  by_cases h5 : x = (-16)
  · subst h5; rw [if_pos rfl]; exact A_switch hB_X1_decide dX1_decide_1 (by decide) (by decide)
  rw [if_neg h5]
  have e5 := i32_ne (n := (-16)) (by decide) h5
  by_cases h6 : x = (-15)
  · subst h6; rw [if_pos rfl]; exact A_switch hB_X1_decide dX1_decide_1 (by decide) (by decide)
  rw [if_neg h6]
  have e6 := i32_ne (n := (-15)) (by decide) h6
  exact A_switch hB_X1_decide dX1_decide_1 (t := 122) (by decide) (by unfold jsw; rw [if_pos (by omega)]; rfl)
theorem dX1_decide_44 : decode cX1_decide 44 = .ok (.lload_n 1, 1) := by decide +kernel
theorem tX1_decide_44 {d : Nat} {l0 l2 l3 l4 : Option Value} {x : Int64} {m : jmM} {Q : Option Value → jmM → Prop} : AW d 15 44 [l0, some (.long x), l2, l3, l4] [] m Q ↔ AW d 15 45 [l0, some (.long x), l2, l3, l4] [.long x] m Q := A_lload_n hB_X1_decide dX1_decide_44 rfl
theorem dX1_decide_45 : decode cX1_decide 45 = .ok (.lload_n 3, 1) := by decide +kernel
theorem tX1_decide_45 {d : Nat} {l0 l1 l2 l4 : Option Value} {v0 : Value} {x : Int64} {m : jmM} {Q : Option Value → jmM → Prop} : AW d 15 45 [l0, l1, l2, some (.long x), l4] [v0] m Q ↔ AW d 15 46 [l0, l1, l2, some (.long x), l4] [.long x, v0] m Q := A_lload_n hB_X1_decide dX1_decide_45 rfl
theorem dX1_decide_46 : decode cX1_decide 46 = .ok (.lcmp, 1) := by decide +kernel
theorem tX1_decide_46 {d : Nat} {l0 l1 l2 l3 l4 : Option Value} {x y : Int64} {m : jmM} {Q : Option Value → jmM → Prop} : AW d 15 46 [l0, l1, l2, l3, l4] [.long y, .long x] m Q ↔ AW d 15 47 [l0, l1, l2, l3, l4] [.int (lg_cmp x y)] m Q := A_lcmp hB_X1_decide dX1_decide_46
theorem dX1_decide_47 : decode cX1_decide 47 = .ok (.ifCond .ge 7, 3) := by decide +kernel
theorem tX1_decide_47 {d : Nat} {l0 l1 l2 l3 l4 : Option Value} {x : Int32} {m : jmM} {Q : Option Value → jmM → Prop} : AW d 15 47 [l0, l1, l2, l3, l4] [.int x] m Q ↔ if 0 ≤ x then AW d 15 54 [l0, l1, l2, l3, l4] [] m Q else AW d 15 50 [l0, l1, l2, l3, l4] [] m Q := A_if_ge hB_X1_decide dX1_decide_47 (by decide)
theorem dX1_decide_50 : decode cX1_decide 50 = .ok (.iconst 1, 1) := by decide +kernel
theorem tX1_decide_50 {d : Nat} {l0 l1 l2 l3 l4 : Option Value} {m : jmM} {Q : Option Value → jmM → Prop} : AW d 15 50 [l0, l1, l2, l3, l4] [] m Q ↔ AW d 15 51 [l0, l1, l2, l3, l4] [.int 1] m Q := A_iconst hB_X1_decide dX1_decide_50 (by decide)
theorem dX1_decide_51 : decode cX1_decide 51 = .ok (.goto 4, 3) := by decide +kernel
theorem tX1_decide_51 {d : Nat} {l0 l1 l2 l3 l4 : Option Value} {v0 : Value} {m : jmM} {Q : Option Value → jmM → Prop} : AW d 15 51 [l0, l1, l2, l3, l4] [v0] m Q ↔ AW d 15 55 [l0, l1, l2, l3, l4] [v0] m Q := A_goto hB_X1_decide dX1_decide_51 (by decide)
theorem dX1_decide_54 : decode cX1_decide 54 = .ok (.iconst 0, 1) := by decide +kernel
theorem tX1_decide_54 {d : Nat} {l0 l1 l2 l3 l4 : Option Value} {m : jmM} {Q : Option Value → jmM → Prop} : AW d 15 54 [l0, l1, l2, l3, l4] [] m Q ↔ AW d 15 55 [l0, l1, l2, l3, l4] [.int 0] m Q := A_iconst hB_X1_decide dX1_decide_54 (by decide)
theorem dX1_decide_55 : decode cX1_decide 55 = .ok (.ireturn, 1) := by decide +kernel
theorem tX1_decide_55 {d : Nat} {l0 l1 l2 l3 l4 : Option Value} {x : Int32} {m : jmM} {Q : Option Value → jmM → Prop} : AW d 15 55 [l0, l1, l2, l3, l4] [.int x] m Q ↔ jBool x ∧ Q (some (.int x)) m := A_zreturn hB_X1_decide dX1_decide_55 hR_X1_decide
theorem dX1_decide_56 : decode cX1_decide 56 = .ok (.lload_n 1, 1) := by decide +kernel
theorem tX1_decide_56 {d : Nat} {l0 l2 l3 l4 : Option Value} {x : Int64} {m : jmM} {Q : Option Value → jmM → Prop} : AW d 15 56 [l0, some (.long x), l2, l3, l4] [] m Q ↔ AW d 15 57 [l0, some (.long x), l2, l3, l4] [.long x] m Q := A_lload_n hB_X1_decide dX1_decide_56 rfl
theorem dX1_decide_57 : decode cX1_decide 57 = .ok (.lload_n 3, 1) := by decide +kernel
theorem tX1_decide_57 {d : Nat} {l0 l1 l2 l4 : Option Value} {v0 : Value} {x : Int64} {m : jmM} {Q : Option Value → jmM → Prop} : AW d 15 57 [l0, l1, l2, some (.long x), l4] [v0] m Q ↔ AW d 15 58 [l0, l1, l2, some (.long x), l4] [.long x, v0] m Q := A_lload_n hB_X1_decide dX1_decide_57 rfl
theorem dX1_decide_58 : decode cX1_decide 58 = .ok (.lcmp, 1) := by decide +kernel
theorem tX1_decide_58 {d : Nat} {l0 l1 l2 l3 l4 : Option Value} {x y : Int64} {m : jmM} {Q : Option Value → jmM → Prop} : AW d 15 58 [l0, l1, l2, l3, l4] [.long y, .long x] m Q ↔ AW d 15 59 [l0, l1, l2, l3, l4] [.int (lg_cmp x y)] m Q := A_lcmp hB_X1_decide dX1_decide_58
theorem dX1_decide_59 : decode cX1_decide 59 = .ok (.ifCond .gt 7, 3) := by decide +kernel
theorem tX1_decide_59 {d : Nat} {l0 l1 l2 l3 l4 : Option Value} {x : Int32} {m : jmM} {Q : Option Value → jmM → Prop} : AW d 15 59 [l0, l1, l2, l3, l4] [.int x] m Q ↔ if 0 < x then AW d 15 66 [l0, l1, l2, l3, l4] [] m Q else AW d 15 62 [l0, l1, l2, l3, l4] [] m Q := A_if_gt hB_X1_decide dX1_decide_59 (by decide)
theorem dX1_decide_62 : decode cX1_decide 62 = .ok (.iconst 1, 1) := by decide +kernel
theorem tX1_decide_62 {d : Nat} {l0 l1 l2 l3 l4 : Option Value} {m : jmM} {Q : Option Value → jmM → Prop} : AW d 15 62 [l0, l1, l2, l3, l4] [] m Q ↔ AW d 15 63 [l0, l1, l2, l3, l4] [.int 1] m Q := A_iconst hB_X1_decide dX1_decide_62 (by decide)
theorem dX1_decide_63 : decode cX1_decide 63 = .ok (.goto 4, 3) := by decide +kernel
theorem tX1_decide_63 {d : Nat} {l0 l1 l2 l3 l4 : Option Value} {v0 : Value} {m : jmM} {Q : Option Value → jmM → Prop} : AW d 15 63 [l0, l1, l2, l3, l4] [v0] m Q ↔ AW d 15 67 [l0, l1, l2, l3, l4] [v0] m Q := A_goto hB_X1_decide dX1_decide_63 (by decide)
theorem dX1_decide_66 : decode cX1_decide 66 = .ok (.iconst 0, 1) := by decide +kernel
theorem tX1_decide_66 {d : Nat} {l0 l1 l2 l3 l4 : Option Value} {m : jmM} {Q : Option Value → jmM → Prop} : AW d 15 66 [l0, l1, l2, l3, l4] [] m Q ↔ AW d 15 67 [l0, l1, l2, l3, l4] [.int 0] m Q := A_iconst hB_X1_decide dX1_decide_66 (by decide)
theorem dX1_decide_67 : decode cX1_decide 67 = .ok (.ireturn, 1) := by decide +kernel
theorem tX1_decide_67 {d : Nat} {l0 l1 l2 l3 l4 : Option Value} {x : Int32} {m : jmM} {Q : Option Value → jmM → Prop} : AW d 15 67 [l0, l1, l2, l3, l4] [.int x] m Q ↔ jBool x ∧ Q (some (.int x)) m := A_zreturn hB_X1_decide dX1_decide_67 hR_X1_decide
theorem dX1_decide_68 : decode cX1_decide 68 = .ok (.lload_n 1, 1) := by decide +kernel
theorem tX1_decide_68 {d : Nat} {l0 l2 l3 l4 : Option Value} {x : Int64} {m : jmM} {Q : Option Value → jmM → Prop} : AW d 15 68 [l0, some (.long x), l2, l3, l4] [] m Q ↔ AW d 15 69 [l0, some (.long x), l2, l3, l4] [.long x] m Q := A_lload_n hB_X1_decide dX1_decide_68 rfl
theorem dX1_decide_69 : decode cX1_decide 69 = .ok (.lload_n 3, 1) := by decide +kernel
theorem tX1_decide_69 {d : Nat} {l0 l1 l2 l4 : Option Value} {v0 : Value} {x : Int64} {m : jmM} {Q : Option Value → jmM → Prop} : AW d 15 69 [l0, l1, l2, some (.long x), l4] [v0] m Q ↔ AW d 15 70 [l0, l1, l2, some (.long x), l4] [.long x, v0] m Q := A_lload_n hB_X1_decide dX1_decide_69 rfl
theorem dX1_decide_70 : decode cX1_decide 70 = .ok (.lcmp, 1) := by decide +kernel
theorem tX1_decide_70 {d : Nat} {l0 l1 l2 l3 l4 : Option Value} {x y : Int64} {m : jmM} {Q : Option Value → jmM → Prop} : AW d 15 70 [l0, l1, l2, l3, l4] [.long y, .long x] m Q ↔ AW d 15 71 [l0, l1, l2, l3, l4] [.int (lg_cmp x y)] m Q := A_lcmp hB_X1_decide dX1_decide_70
theorem dX1_decide_71 : decode cX1_decide 71 = .ok (.ifCond .ne 7, 3) := by decide +kernel
theorem tX1_decide_71 {d : Nat} {l0 l1 l2 l3 l4 : Option Value} {x : Int32} {m : jmM} {Q : Option Value → jmM → Prop} : AW d 15 71 [l0, l1, l2, l3, l4] [.int x] m Q ↔ if x = 0 then AW d 15 74 [l0, l1, l2, l3, l4] [] m Q else AW d 15 78 [l0, l1, l2, l3, l4] [] m Q := A_if_ne hB_X1_decide dX1_decide_71 (by decide)
theorem dX1_decide_74 : decode cX1_decide 74 = .ok (.iconst 1, 1) := by decide +kernel
theorem tX1_decide_74 {d : Nat} {l0 l1 l2 l3 l4 : Option Value} {m : jmM} {Q : Option Value → jmM → Prop} : AW d 15 74 [l0, l1, l2, l3, l4] [] m Q ↔ AW d 15 75 [l0, l1, l2, l3, l4] [.int 1] m Q := A_iconst hB_X1_decide dX1_decide_74 (by decide)
theorem dX1_decide_75 : decode cX1_decide 75 = .ok (.goto 4, 3) := by decide +kernel
theorem tX1_decide_75 {d : Nat} {l0 l1 l2 l3 l4 : Option Value} {v0 : Value} {m : jmM} {Q : Option Value → jmM → Prop} : AW d 15 75 [l0, l1, l2, l3, l4] [v0] m Q ↔ AW d 15 79 [l0, l1, l2, l3, l4] [v0] m Q := A_goto hB_X1_decide dX1_decide_75 (by decide)
theorem dX1_decide_78 : decode cX1_decide 78 = .ok (.iconst 0, 1) := by decide +kernel
theorem tX1_decide_78 {d : Nat} {l0 l1 l2 l3 l4 : Option Value} {m : jmM} {Q : Option Value → jmM → Prop} : AW d 15 78 [l0, l1, l2, l3, l4] [] m Q ↔ AW d 15 79 [l0, l1, l2, l3, l4] [.int 0] m Q := A_iconst hB_X1_decide dX1_decide_78 (by decide)
theorem dX1_decide_79 : decode cX1_decide 79 = .ok (.ireturn, 1) := by decide +kernel
theorem tX1_decide_79 {d : Nat} {l0 l1 l2 l3 l4 : Option Value} {x : Int32} {m : jmM} {Q : Option Value → jmM → Prop} : AW d 15 79 [l0, l1, l2, l3, l4] [.int x] m Q ↔ jBool x ∧ Q (some (.int x)) m := A_zreturn hB_X1_decide dX1_decide_79 hR_X1_decide
theorem dX1_decide_80 : decode cX1_decide 80 = .ok (.lload_n 1, 1) := by decide +kernel
theorem tX1_decide_80 {d : Nat} {l0 l2 l3 l4 : Option Value} {x : Int64} {m : jmM} {Q : Option Value → jmM → Prop} : AW d 15 80 [l0, some (.long x), l2, l3, l4] [] m Q ↔ AW d 15 81 [l0, some (.long x), l2, l3, l4] [.long x] m Q := A_lload_n hB_X1_decide dX1_decide_80 rfl
theorem dX1_decide_81 : decode cX1_decide 81 = .ok (.lload_n 3, 1) := by decide +kernel
theorem tX1_decide_81 {d : Nat} {l0 l1 l2 l4 : Option Value} {v0 : Value} {x : Int64} {m : jmM} {Q : Option Value → jmM → Prop} : AW d 15 81 [l0, l1, l2, some (.long x), l4] [v0] m Q ↔ AW d 15 82 [l0, l1, l2, some (.long x), l4] [.long x, v0] m Q := A_lload_n hB_X1_decide dX1_decide_81 rfl
theorem dX1_decide_82 : decode cX1_decide 82 = .ok (.lcmp, 1) := by decide +kernel
theorem tX1_decide_82 {d : Nat} {l0 l1 l2 l3 l4 : Option Value} {x y : Int64} {m : jmM} {Q : Option Value → jmM → Prop} : AW d 15 82 [l0, l1, l2, l3, l4] [.long y, .long x] m Q ↔ AW d 15 83 [l0, l1, l2, l3, l4] [.int (lg_cmp x y)] m Q := A_lcmp hB_X1_decide dX1_decide_82
theorem dX1_decide_83 : decode cX1_decide 83 = .ok (.ifCond .lt 7, 3) := by decide +kernel
theorem tX1_decide_83 {d : Nat} {l0 l1 l2 l3 l4 : Option Value} {x : Int32} {m : jmM} {Q : Option Value → jmM → Prop} : AW d 15 83 [l0, l1, l2, l3, l4] [.int x] m Q ↔ if x < 0 then AW d 15 90 [l0, l1, l2, l3, l4] [] m Q else AW d 15 86 [l0, l1, l2, l3, l4] [] m Q := A_if_lt hB_X1_decide dX1_decide_83 (by decide)
theorem dX1_decide_86 : decode cX1_decide 86 = .ok (.iconst 1, 1) := by decide +kernel
theorem tX1_decide_86 {d : Nat} {l0 l1 l2 l3 l4 : Option Value} {m : jmM} {Q : Option Value → jmM → Prop} : AW d 15 86 [l0, l1, l2, l3, l4] [] m Q ↔ AW d 15 87 [l0, l1, l2, l3, l4] [.int 1] m Q := A_iconst hB_X1_decide dX1_decide_86 (by decide)
theorem dX1_decide_87 : decode cX1_decide 87 = .ok (.goto 4, 3) := by decide +kernel
theorem tX1_decide_87 {d : Nat} {l0 l1 l2 l3 l4 : Option Value} {v0 : Value} {m : jmM} {Q : Option Value → jmM → Prop} : AW d 15 87 [l0, l1, l2, l3, l4] [v0] m Q ↔ AW d 15 91 [l0, l1, l2, l3, l4] [v0] m Q := A_goto hB_X1_decide dX1_decide_87 (by decide)
theorem dX1_decide_90 : decode cX1_decide 90 = .ok (.iconst 0, 1) := by decide +kernel
theorem tX1_decide_90 {d : Nat} {l0 l1 l2 l3 l4 : Option Value} {m : jmM} {Q : Option Value → jmM → Prop} : AW d 15 90 [l0, l1, l2, l3, l4] [] m Q ↔ AW d 15 91 [l0, l1, l2, l3, l4] [.int 0] m Q := A_iconst hB_X1_decide dX1_decide_90 (by decide)
theorem dX1_decide_91 : decode cX1_decide 91 = .ok (.ireturn, 1) := by decide +kernel
theorem tX1_decide_91 {d : Nat} {l0 l1 l2 l3 l4 : Option Value} {x : Int32} {m : jmM} {Q : Option Value → jmM → Prop} : AW d 15 91 [l0, l1, l2, l3, l4] [.int x] m Q ↔ jBool x ∧ Q (some (.int x)) m := A_zreturn hB_X1_decide dX1_decide_91 hR_X1_decide
theorem dX1_decide_92 : decode cX1_decide 92 = .ok (.lload_n 1, 1) := by decide +kernel
theorem tX1_decide_92 {d : Nat} {l0 l2 l3 l4 : Option Value} {x : Int64} {m : jmM} {Q : Option Value → jmM → Prop} : AW d 15 92 [l0, some (.long x), l2, l3, l4] [] m Q ↔ AW d 15 93 [l0, some (.long x), l2, l3, l4] [.long x] m Q := A_lload_n hB_X1_decide dX1_decide_92 rfl
theorem dX1_decide_93 : decode cX1_decide 93 = .ok (.lload_n 3, 1) := by decide +kernel
theorem tX1_decide_93 {d : Nat} {l0 l1 l2 l4 : Option Value} {v0 : Value} {x : Int64} {m : jmM} {Q : Option Value → jmM → Prop} : AW d 15 93 [l0, l1, l2, some (.long x), l4] [v0] m Q ↔ AW d 15 94 [l0, l1, l2, some (.long x), l4] [.long x, v0] m Q := A_lload_n hB_X1_decide dX1_decide_93 rfl
theorem dX1_decide_94 : decode cX1_decide 94 = .ok (.lcmp, 1) := by decide +kernel
theorem tX1_decide_94 {d : Nat} {l0 l1 l2 l3 l4 : Option Value} {x y : Int64} {m : jmM} {Q : Option Value → jmM → Prop} : AW d 15 94 [l0, l1, l2, l3, l4] [.long y, .long x] m Q ↔ AW d 15 95 [l0, l1, l2, l3, l4] [.int (lg_cmp x y)] m Q := A_lcmp hB_X1_decide dX1_decide_94
theorem dX1_decide_95 : decode cX1_decide 95 = .ok (.ifCond .le 7, 3) := by decide +kernel
theorem tX1_decide_95 {d : Nat} {l0 l1 l2 l3 l4 : Option Value} {x : Int32} {m : jmM} {Q : Option Value → jmM → Prop} : AW d 15 95 [l0, l1, l2, l3, l4] [.int x] m Q ↔ if x ≤ 0 then AW d 15 102 [l0, l1, l2, l3, l4] [] m Q else AW d 15 98 [l0, l1, l2, l3, l4] [] m Q := A_if_le hB_X1_decide dX1_decide_95 (by decide)
theorem dX1_decide_98 : decode cX1_decide 98 = .ok (.iconst 1, 1) := by decide +kernel
theorem tX1_decide_98 {d : Nat} {l0 l1 l2 l3 l4 : Option Value} {m : jmM} {Q : Option Value → jmM → Prop} : AW d 15 98 [l0, l1, l2, l3, l4] [] m Q ↔ AW d 15 99 [l0, l1, l2, l3, l4] [.int 1] m Q := A_iconst hB_X1_decide dX1_decide_98 (by decide)
theorem dX1_decide_99 : decode cX1_decide 99 = .ok (.goto 4, 3) := by decide +kernel
theorem tX1_decide_99 {d : Nat} {l0 l1 l2 l3 l4 : Option Value} {v0 : Value} {m : jmM} {Q : Option Value → jmM → Prop} : AW d 15 99 [l0, l1, l2, l3, l4] [v0] m Q ↔ AW d 15 103 [l0, l1, l2, l3, l4] [v0] m Q := A_goto hB_X1_decide dX1_decide_99 (by decide)
theorem dX1_decide_102 : decode cX1_decide 102 = .ok (.iconst 0, 1) := by decide +kernel
theorem tX1_decide_102 {d : Nat} {l0 l1 l2 l3 l4 : Option Value} {m : jmM} {Q : Option Value → jmM → Prop} : AW d 15 102 [l0, l1, l2, l3, l4] [] m Q ↔ AW d 15 103 [l0, l1, l2, l3, l4] [.int 0] m Q := A_iconst hB_X1_decide dX1_decide_102 (by decide)
theorem dX1_decide_103 : decode cX1_decide 103 = .ok (.ireturn, 1) := by decide +kernel
theorem tX1_decide_103 {d : Nat} {l0 l1 l2 l3 l4 : Option Value} {x : Int32} {m : jmM} {Q : Option Value → jmM → Prop} : AW d 15 103 [l0, l1, l2, l3, l4] [.int x] m Q ↔ jBool x ∧ Q (some (.int x)) m := A_zreturn hB_X1_decide dX1_decide_103 hR_X1_decide
theorem dX1_decide_104 : decode cX1_decide 104 = .ok (.lload_n 1, 1) := by decide +kernel
theorem tX1_decide_104 {d : Nat} {l0 l2 l3 l4 : Option Value} {x : Int64} {m : jmM} {Q : Option Value → jmM → Prop} : AW d 15 104 [l0, some (.long x), l2, l3, l4] [] m Q ↔ AW d 15 105 [l0, some (.long x), l2, l3, l4] [.long x] m Q := A_lload_n hB_X1_decide dX1_decide_104 rfl
theorem dX1_decide_105 : decode cX1_decide 105 = .ok (.lconst 0, 1) := by decide +kernel
theorem tX1_decide_105 {d : Nat} {l0 l1 l2 l3 l4 : Option Value} {v0 : Value} {m : jmM} {Q : Option Value → jmM → Prop} : AW d 15 105 [l0, l1, l2, l3, l4] [v0] m Q ↔ AW d 15 106 [l0, l1, l2, l3, l4] [.long 0, v0] m Q := A_lconst hB_X1_decide dX1_decide_105 (by decide)
theorem dX1_decide_106 : decode cX1_decide 106 = .ok (.lcmp, 1) := by decide +kernel
theorem tX1_decide_106 {d : Nat} {l0 l1 l2 l3 l4 : Option Value} {x y : Int64} {m : jmM} {Q : Option Value → jmM → Prop} : AW d 15 106 [l0, l1, l2, l3, l4] [.long y, .long x] m Q ↔ AW d 15 107 [l0, l1, l2, l3, l4] [.int (lg_cmp x y)] m Q := A_lcmp hB_X1_decide dX1_decide_106
theorem dX1_decide_107 : decode cX1_decide 107 = .ok (.ifCond .eq 13, 3) := by decide +kernel
theorem tX1_decide_107 {d : Nat} {l0 l1 l2 l3 l4 : Option Value} {x : Int32} {m : jmM} {Q : Option Value → jmM → Prop} : AW d 15 107 [l0, l1, l2, l3, l4] [.int x] m Q ↔ if x = 0 then AW d 15 120 [l0, l1, l2, l3, l4] [] m Q else AW d 15 110 [l0, l1, l2, l3, l4] [] m Q := A_if_eq hB_X1_decide dX1_decide_107 (by decide)
theorem dX1_decide_110 : decode cX1_decide 110 = .ok (.lload_n 3, 1) := by decide +kernel
theorem tX1_decide_110 {d : Nat} {l0 l1 l2 l4 : Option Value} {x : Int64} {m : jmM} {Q : Option Value → jmM → Prop} : AW d 15 110 [l0, l1, l2, some (.long x), l4] [] m Q ↔ AW d 15 111 [l0, l1, l2, some (.long x), l4] [.long x] m Q := A_lload_n hB_X1_decide dX1_decide_110 rfl
theorem dX1_decide_111 : decode cX1_decide 111 = .ok (.lconst 0, 1) := by decide +kernel
theorem tX1_decide_111 {d : Nat} {l0 l1 l2 l3 l4 : Option Value} {v0 : Value} {m : jmM} {Q : Option Value → jmM → Prop} : AW d 15 111 [l0, l1, l2, l3, l4] [v0] m Q ↔ AW d 15 112 [l0, l1, l2, l3, l4] [.long 0, v0] m Q := A_lconst hB_X1_decide dX1_decide_111 (by decide)
theorem dX1_decide_112 : decode cX1_decide 112 = .ok (.lcmp, 1) := by decide +kernel
theorem tX1_decide_112 {d : Nat} {l0 l1 l2 l3 l4 : Option Value} {x y : Int64} {m : jmM} {Q : Option Value → jmM → Prop} : AW d 15 112 [l0, l1, l2, l3, l4] [.long y, .long x] m Q ↔ AW d 15 113 [l0, l1, l2, l3, l4] [.int (lg_cmp x y)] m Q := A_lcmp hB_X1_decide dX1_decide_112
theorem dX1_decide_113 : decode cX1_decide 113 = .ok (.ifCond .eq 7, 3) := by decide +kernel
theorem tX1_decide_113 {d : Nat} {l0 l1 l2 l3 l4 : Option Value} {x : Int32} {m : jmM} {Q : Option Value → jmM → Prop} : AW d 15 113 [l0, l1, l2, l3, l4] [.int x] m Q ↔ if x = 0 then AW d 15 120 [l0, l1, l2, l3, l4] [] m Q else AW d 15 116 [l0, l1, l2, l3, l4] [] m Q := A_if_eq hB_X1_decide dX1_decide_113 (by decide)
theorem dX1_decide_116 : decode cX1_decide 116 = .ok (.iconst 1, 1) := by decide +kernel
theorem tX1_decide_116 {d : Nat} {l0 l1 l2 l3 l4 : Option Value} {m : jmM} {Q : Option Value → jmM → Prop} : AW d 15 116 [l0, l1, l2, l3, l4] [] m Q ↔ AW d 15 117 [l0, l1, l2, l3, l4] [.int 1] m Q := A_iconst hB_X1_decide dX1_decide_116 (by decide)
theorem dX1_decide_117 : decode cX1_decide 117 = .ok (.goto 4, 3) := by decide +kernel
theorem tX1_decide_117 {d : Nat} {l0 l1 l2 l3 l4 : Option Value} {v0 : Value} {m : jmM} {Q : Option Value → jmM → Prop} : AW d 15 117 [l0, l1, l2, l3, l4] [v0] m Q ↔ AW d 15 121 [l0, l1, l2, l3, l4] [v0] m Q := A_goto hB_X1_decide dX1_decide_117 (by decide)
theorem dX1_decide_120 : decode cX1_decide 120 = .ok (.iconst 0, 1) := by decide +kernel
theorem tX1_decide_120 {d : Nat} {l0 l1 l2 l3 l4 : Option Value} {m : jmM} {Q : Option Value → jmM → Prop} : AW d 15 120 [l0, l1, l2, l3, l4] [] m Q ↔ AW d 15 121 [l0, l1, l2, l3, l4] [.int 0] m Q := A_iconst hB_X1_decide dX1_decide_120 (by decide)
theorem dX1_decide_121 : decode cX1_decide 121 = .ok (.ireturn, 1) := by decide +kernel
theorem tX1_decide_121 {d : Nat} {l0 l1 l2 l3 l4 : Option Value} {x : Int32} {m : jmM} {Q : Option Value → jmM → Prop} : AW d 15 121 [l0, l1, l2, l3, l4] [.int x] m Q ↔ jBool x ∧ Q (some (.int x)) m := A_zreturn hB_X1_decide dX1_decide_121 hR_X1_decide
theorem dX1_decide_122 : decode cX1_decide 122 = .ok (.lload_n 1, 1) := by decide +kernel
theorem tX1_decide_122 {d : Nat} {l0 l2 l3 l4 : Option Value} {x : Int64} {m : jmM} {Q : Option Value → jmM → Prop} : AW d 15 122 [l0, some (.long x), l2, l3, l4] [] m Q ↔ AW d 15 123 [l0, some (.long x), l2, l3, l4] [.long x] m Q := A_lload_n hB_X1_decide dX1_decide_122 rfl
theorem dX1_decide_123 : decode cX1_decide 123 = .ok (.lconst 0, 1) := by decide +kernel
theorem tX1_decide_123 {d : Nat} {l0 l1 l2 l3 l4 : Option Value} {v0 : Value} {m : jmM} {Q : Option Value → jmM → Prop} : AW d 15 123 [l0, l1, l2, l3, l4] [v0] m Q ↔ AW d 15 124 [l0, l1, l2, l3, l4] [.long 0, v0] m Q := A_lconst hB_X1_decide dX1_decide_123 (by decide)
theorem dX1_decide_124 : decode cX1_decide 124 = .ok (.lcmp, 1) := by decide +kernel
theorem tX1_decide_124 {d : Nat} {l0 l1 l2 l3 l4 : Option Value} {x y : Int64} {m : jmM} {Q : Option Value → jmM → Prop} : AW d 15 124 [l0, l1, l2, l3, l4] [.long y, .long x] m Q ↔ AW d 15 125 [l0, l1, l2, l3, l4] [.int (lg_cmp x y)] m Q := A_lcmp hB_X1_decide dX1_decide_124
theorem dX1_decide_125 : decode cX1_decide 125 = .ok (.ifCond .ne 9, 3) := by decide +kernel
theorem tX1_decide_125 {d : Nat} {l0 l1 l2 l3 l4 : Option Value} {x : Int32} {m : jmM} {Q : Option Value → jmM → Prop} : AW d 15 125 [l0, l1, l2, l3, l4] [.int x] m Q ↔ if x = 0 then AW d 15 128 [l0, l1, l2, l3, l4] [] m Q else AW d 15 134 [l0, l1, l2, l3, l4] [] m Q := A_if_ne hB_X1_decide dX1_decide_125 (by decide)
theorem dX1_decide_128 : decode cX1_decide 128 = .ok (.lload_n 3, 1) := by decide +kernel
theorem tX1_decide_128 {d : Nat} {l0 l1 l2 l4 : Option Value} {x : Int64} {m : jmM} {Q : Option Value → jmM → Prop} : AW d 15 128 [l0, l1, l2, some (.long x), l4] [] m Q ↔ AW d 15 129 [l0, l1, l2, some (.long x), l4] [.long x] m Q := A_lload_n hB_X1_decide dX1_decide_128 rfl
theorem dX1_decide_129 : decode cX1_decide 129 = .ok (.lconst 0, 1) := by decide +kernel
theorem tX1_decide_129 {d : Nat} {l0 l1 l2 l3 l4 : Option Value} {v0 : Value} {m : jmM} {Q : Option Value → jmM → Prop} : AW d 15 129 [l0, l1, l2, l3, l4] [v0] m Q ↔ AW d 15 130 [l0, l1, l2, l3, l4] [.long 0, v0] m Q := A_lconst hB_X1_decide dX1_decide_129 (by decide)
theorem dX1_decide_130 : decode cX1_decide 130 = .ok (.lcmp, 1) := by decide +kernel
theorem tX1_decide_130 {d : Nat} {l0 l1 l2 l3 l4 : Option Value} {x y : Int64} {m : jmM} {Q : Option Value → jmM → Prop} : AW d 15 130 [l0, l1, l2, l3, l4] [.long y, .long x] m Q ↔ AW d 15 131 [l0, l1, l2, l3, l4] [.int (lg_cmp x y)] m Q := A_lcmp hB_X1_decide dX1_decide_130
theorem dX1_decide_131 : decode cX1_decide 131 = .ok (.ifCond .eq 7, 3) := by decide +kernel
theorem tX1_decide_131 {d : Nat} {l0 l1 l2 l3 l4 : Option Value} {x : Int32} {m : jmM} {Q : Option Value → jmM → Prop} : AW d 15 131 [l0, l1, l2, l3, l4] [.int x] m Q ↔ if x = 0 then AW d 15 138 [l0, l1, l2, l3, l4] [] m Q else AW d 15 134 [l0, l1, l2, l3, l4] [] m Q := A_if_eq hB_X1_decide dX1_decide_131 (by decide)
theorem dX1_decide_134 : decode cX1_decide 134 = .ok (.iconst 1, 1) := by decide +kernel
theorem tX1_decide_134 {d : Nat} {l0 l1 l2 l3 l4 : Option Value} {m : jmM} {Q : Option Value → jmM → Prop} : AW d 15 134 [l0, l1, l2, l3, l4] [] m Q ↔ AW d 15 135 [l0, l1, l2, l3, l4] [.int 1] m Q := A_iconst hB_X1_decide dX1_decide_134 (by decide)
theorem dX1_decide_135 : decode cX1_decide 135 = .ok (.goto 4, 3) := by decide +kernel
theorem tX1_decide_135 {d : Nat} {l0 l1 l2 l3 l4 : Option Value} {v0 : Value} {m : jmM} {Q : Option Value → jmM → Prop} : AW d 15 135 [l0, l1, l2, l3, l4] [v0] m Q ↔ AW d 15 139 [l0, l1, l2, l3, l4] [v0] m Q := A_goto hB_X1_decide dX1_decide_135 (by decide)
theorem dX1_decide_138 : decode cX1_decide 138 = .ok (.iconst 0, 1) := by decide +kernel
theorem tX1_decide_138 {d : Nat} {l0 l1 l2 l3 l4 : Option Value} {m : jmM} {Q : Option Value → jmM → Prop} : AW d 15 138 [l0, l1, l2, l3, l4] [] m Q ↔ AW d 15 139 [l0, l1, l2, l3, l4] [.int 0] m Q := A_iconst hB_X1_decide dX1_decide_138 (by decide)
theorem dX1_decide_139 : decode cX1_decide 139 = .ok (.ireturn, 1) := by decide +kernel
theorem tX1_decide_139 {d : Nat} {l0 l1 l2 l3 l4 : Option Value} {x : Int32} {m : jmM} {Q : Option Value → jmM → Prop} : AW d 15 139 [l0, l1, l2, l3, l4] [.int x] m Q ↔ jBool x ∧ Q (some (.int x)) m := A_zreturn hB_X1_decide dX1_decide_139 hR_X1_decide
theorem hB_X1_push : jB 16 = cX1_push := rfl
theorem hO_X1_push : jO 16 = 1 := rfl
theorem hR_X1_push : jRt 16 = none := rfl
theorem nX1_push (d : Nat) (x0 : Nat) (x1 : Int64) (m : jmM) (Q : Option Value → jmM → Prop) : CC (d + 1) 16 [.ref x0, .long x1] m Q ↔ AW d 16 0 [some (.ref x0), some (.long x1), none] [] m Q := CC_body (Nat.le_of_ble_eq_true rfl)
theorem dX1_push_0 : decode cX1_push 0 = .ok (.aload_n 0, 1) := by decide +kernel
theorem tX1_push_0 {d : Nat} {l1 l2 : Option Value} {x : Nat} {m : jmM} {Q : Option Value → jmM → Prop} : AW d 16 0 [some (.ref x), l1, l2] [] m Q ↔ AW d 16 1 [some (.ref x), l1, l2] [.ref x] m Q := A_aload_n hB_X1_push dX1_push_0 rfl
theorem dX1_push_1 : decode cX1_push 1 = .ok (.getfield 18, 3) := by decide +kernel
theorem tX1_push_1 {d : Nat} {l0 l1 l2 : Option Value} {a : Nat} {m : jmM} {Q : Option Value → jmM → Prop} : AW d 16 1 [l0, l1, l2] [.ref a] m Q ↔ (mS m a).1 = 1 ∧ AW d 16 4 [l0, l1, l2] [.int (mI m a 2)] m Q := A_getfield (f := fun m a => .int (mI m a 2)) hB_X1_push dX1_push_1 hO_X1_push fF_1_18 rfl
theorem dX1_push_4 : decode cX1_push 4 = .ok (.aload_n 0, 1) := by decide +kernel
theorem tX1_push_4 {d : Nat} {l1 l2 : Option Value} {v0 : Value} {x : Nat} {m : jmM} {Q : Option Value → jmM → Prop} : AW d 16 4 [some (.ref x), l1, l2] [v0] m Q ↔ AW d 16 5 [some (.ref x), l1, l2] [.ref x, v0] m Q := A_aload_n hB_X1_push dX1_push_4 rfl
theorem dX1_push_5 : decode cX1_push 5 = .ok (.getfield 15, 3) := by decide +kernel
theorem tX1_push_5 {d : Nat} {l0 l1 l2 : Option Value} {v1 : Value} {a : Nat} {m : jmM} {Q : Option Value → jmM → Prop} : AW d 16 5 [l0, l1, l2] [.ref a, v1] m Q ↔ (mS m a).1 = 1 ∧ AW d 16 8 [l0, l1, l2] [va_rf (mR m a 1), v1] m Q := A_getfield (f := fun m a => va_rf (mR m a 1)) hB_X1_push dX1_push_5 hO_X1_push fF_1_15 rfl
theorem dX1_push_8 : decode cX1_push 8 = .ok (.arraylength, 1) := by decide +kernel
theorem tX1_push_8 {d : Nat} {l0 l1 l2 : Option Value} {v1 : Value} {a : Nat} {m : jmM} {Q : Option Value → jmM → Prop} : AW d 16 8 [l0, l1, l2] [.ref a, v1] m Q ↔ ((20 ≤ (mS m a).1 ∧ (mS m a).1 ≤ 26) ∨ a = jScr) ∧ AW d 16 9 [l0, l1, l2] [.int (nI (mS m a).2), v1] m Q := A_arraylength hB_X1_push dX1_push_8
theorem dX1_push_9 : decode cX1_push 9 = .ok (.if_icmp .ge 23, 3) := by decide +kernel
theorem tX1_push_9 {d : Nat} {l0 l1 l2 : Option Value} {x y : Int32} {m : jmM} {Q : Option Value → jmM → Prop} : AW d 16 9 [l0, l1, l2] [.int y, .int x] m Q ↔ if y ≤ x then AW d 16 32 [l0, l1, l2] [] m Q else AW d 16 12 [l0, l1, l2] [] m Q := A_icmp_ge hB_X1_push dX1_push_9 (by decide)
theorem dX1_push_12 : decode cX1_push 12 = .ok (.aload_n 0, 1) := by decide +kernel
theorem tX1_push_12 {d : Nat} {l1 l2 : Option Value} {x : Nat} {m : jmM} {Q : Option Value → jmM → Prop} : AW d 16 12 [some (.ref x), l1, l2] [] m Q ↔ AW d 16 13 [some (.ref x), l1, l2] [.ref x] m Q := A_aload_n hB_X1_push dX1_push_12 rfl
theorem dX1_push_13 : decode cX1_push 13 = .ok (.getfield 15, 3) := by decide +kernel
theorem tX1_push_13 {d : Nat} {l0 l1 l2 : Option Value} {a : Nat} {m : jmM} {Q : Option Value → jmM → Prop} : AW d 16 13 [l0, l1, l2] [.ref a] m Q ↔ (mS m a).1 = 1 ∧ AW d 16 16 [l0, l1, l2] [va_rf (mR m a 1)] m Q := A_getfield (f := fun m a => va_rf (mR m a 1)) hB_X1_push dX1_push_13 hO_X1_push fF_1_15 rfl
theorem dX1_push_16 : decode cX1_push 16 = .ok (.aload_n 0, 1) := by decide +kernel
theorem tX1_push_16 {d : Nat} {l1 l2 : Option Value} {v0 : Value} {x : Nat} {m : jmM} {Q : Option Value → jmM → Prop} : AW d 16 16 [some (.ref x), l1, l2] [v0] m Q ↔ AW d 16 17 [some (.ref x), l1, l2] [.ref x, v0] m Q := A_aload_n hB_X1_push dX1_push_16 rfl
theorem dX1_push_17 : decode cX1_push 17 = .ok (.getfield 18, 3) := by decide +kernel
theorem tX1_push_17 {d : Nat} {l0 l1 l2 : Option Value} {v1 : Value} {a : Nat} {m : jmM} {Q : Option Value → jmM → Prop} : AW d 16 17 [l0, l1, l2] [.ref a, v1] m Q ↔ (mS m a).1 = 1 ∧ AW d 16 20 [l0, l1, l2] [.int (mI m a 2), v1] m Q := A_getfield (f := fun m a => .int (mI m a 2)) hB_X1_push dX1_push_17 hO_X1_push fF_1_18 rfl
theorem dX1_push_20 : decode cX1_push 20 = .ok (.lload_n 1, 1) := by decide +kernel
theorem tX1_push_20 {d : Nat} {l0 l2 : Option Value} {v0 v1 : Value} {x : Int64} {m : jmM} {Q : Option Value → jmM → Prop} : AW d 16 20 [l0, some (.long x), l2] [v0, v1] m Q ↔ AW d 16 21 [l0, some (.long x), l2] [.long x, v0, v1] m Q := A_lload_n hB_X1_push dX1_push_20 rfl
theorem dX1_push_21 : decode cX1_push 21 = .ok (.lastore, 1) := by decide +kernel
theorem tX1_push_21 {d : Nat} {l0 l1 l2 : Option Value} {x : Int64} {i : Int32} {a : Nat} {m : jmM} {Q : Option Value → jmM → Prop} : AW d 16 21 [l0, l1, l2] [.long x, .int i, .ref a] m Q ↔ ((mS m a).1 = 21 ∧ jIx i (mS m a).2) ∧ AW d 16 22 [l0, l1, l2] [] (cL m a (jup (mL m a) (jx i) x)) Q := A_lastore hB_X1_push dX1_push_21
theorem dX1_push_22 : decode cX1_push 22 = .ok (.aload_n 0, 1) := by decide +kernel
theorem tX1_push_22 {d : Nat} {l1 l2 : Option Value} {x : Nat} {m : jmM} {Q : Option Value → jmM → Prop} : AW d 16 22 [some (.ref x), l1, l2] [] m Q ↔ AW d 16 23 [some (.ref x), l1, l2] [.ref x] m Q := A_aload_n hB_X1_push dX1_push_22 rfl
theorem dX1_push_23 : decode cX1_push 23 = .ok (.dup, 1) := by decide +kernel
theorem tX1_push_23 {d : Nat} {l0 l1 l2 : Option Value} {x : Nat} {m : jmM} {Q : Option Value → jmM → Prop} : AW d 16 23 [l0, l1, l2] [.ref x] m Q ↔ AW d 16 24 [l0, l1, l2] [.ref x, .ref x] m Q := A_dup_a hB_X1_push dX1_push_23
theorem dX1_push_24 : decode cX1_push 24 = .ok (.getfield 18, 3) := by decide +kernel
theorem tX1_push_24 {d : Nat} {l0 l1 l2 : Option Value} {v1 : Value} {a : Nat} {m : jmM} {Q : Option Value → jmM → Prop} : AW d 16 24 [l0, l1, l2] [.ref a, v1] m Q ↔ (mS m a).1 = 1 ∧ AW d 16 27 [l0, l1, l2] [.int (mI m a 2), v1] m Q := A_getfield (f := fun m a => .int (mI m a 2)) hB_X1_push dX1_push_24 hO_X1_push fF_1_18 rfl
theorem dX1_push_27 : decode cX1_push 27 = .ok (.iconst 1, 1) := by decide +kernel
theorem tX1_push_27 {d : Nat} {l0 l1 l2 : Option Value} {v0 v1 : Value} {m : jmM} {Q : Option Value → jmM → Prop} : AW d 16 27 [l0, l1, l2] [v0, v1] m Q ↔ AW d 16 28 [l0, l1, l2] [.int 1, v0, v1] m Q := A_iconst hB_X1_push dX1_push_27 (by decide)
theorem dX1_push_28 : decode cX1_push 28 = .ok (.iadd, 1) := by decide +kernel
theorem tX1_push_28 {d : Nat} {l0 l1 l2 : Option Value} {v2 : Value} {x y : Int32} {m : jmM} {Q : Option Value → jmM → Prop} : AW d 16 28 [l0, l1, l2] [.int y, .int x, v2] m Q ↔ AW d 16 29 [l0, l1, l2] [.int (x + y), v2] m Q := A_iadd hB_X1_push dX1_push_28
theorem dX1_push_29 : decode cX1_push 29 = .ok (.putfield 18, 3) := by decide +kernel
theorem tX1_push_29 {d : Nat} {l0 l1 l2 : Option Value} {x : Int32} {a : Nat} {m : jmM} {Q : Option Value → jmM → Prop} : AW d 16 29 [l0, l1, l2] [.int x, .ref a] m Q ↔ (mS m a).1 = 1 ∧ AW d 16 32 [l0, l1, l2] [] (cI m a (jup (mI m a) 2 x)) Q := A_putI hB_X1_push dX1_push_29 hO_X1_push fF_1_18 rfl (fun h => Bool.noConfusion h)
theorem dX1_push_32 : decode cX1_push 32 = .ok (.return_, 1) := by decide +kernel
theorem tX1_push_32 {d : Nat} {l0 l1 l2 : Option Value} {m : jmM} {Q : Option Value → jmM → Prop} : AW d 16 32 [l0, l1, l2] [] m Q ↔ Q none m := A_return hB_X1_push dX1_push_32 hR_X1_push
theorem hB_X1_pop : jB 17 = cX1_pop := rfl
theorem hO_X1_pop : jO 17 = 1 := rfl
theorem hR_X1_pop : jRt 17 = (some .long) := rfl
theorem nX1_pop (d : Nat) (x0 : Nat) (m : jmM) (Q : Option Value → jmM → Prop) : CC (d + 1) 17 [.ref x0] m Q ↔ AW d 17 0 [some (.ref x0)] [] m Q := CC_body (Nat.le_of_ble_eq_true rfl)
theorem dX1_pop_0 : decode cX1_pop 0 = .ok (.aload_n 0, 1) := by decide +kernel
theorem tX1_pop_0 {d : Nat} {x : Nat} {m : jmM} {Q : Option Value → jmM → Prop} : AW d 17 0 [some (.ref x)] [] m Q ↔ AW d 17 1 [some (.ref x)] [.ref x] m Q := A_aload_n hB_X1_pop dX1_pop_0 rfl
theorem dX1_pop_1 : decode cX1_pop 1 = .ok (.getfield 18, 3) := by decide +kernel
theorem tX1_pop_1 {d : Nat} {l0 : Option Value} {a : Nat} {m : jmM} {Q : Option Value → jmM → Prop} : AW d 17 1 [l0] [.ref a] m Q ↔ (mS m a).1 = 1 ∧ AW d 17 4 [l0] [.int (mI m a 2)] m Q := A_getfield (f := fun m a => .int (mI m a 2)) hB_X1_pop dX1_pop_1 hO_X1_pop fF_1_18 rfl
theorem dX1_pop_4 : decode cX1_pop 4 = .ok (.ifCond .gt 5, 3) := by decide +kernel
theorem tX1_pop_4 {d : Nat} {l0 : Option Value} {x : Int32} {m : jmM} {Q : Option Value → jmM → Prop} : AW d 17 4 [l0] [.int x] m Q ↔ if 0 < x then AW d 17 9 [l0] [] m Q else AW d 17 7 [l0] [] m Q := A_if_gt hB_X1_pop dX1_pop_4 (by decide)
theorem dX1_pop_7 : decode cX1_pop 7 = .ok (.lconst 0, 1) := by decide +kernel
theorem tX1_pop_7 {d : Nat} {l0 : Option Value} {m : jmM} {Q : Option Value → jmM → Prop} : AW d 17 7 [l0] [] m Q ↔ AW d 17 8 [l0] [.long 0] m Q := A_lconst hB_X1_pop dX1_pop_7 (by decide)
theorem dX1_pop_8 : decode cX1_pop 8 = .ok (.lreturn, 1) := by decide +kernel
theorem tX1_pop_8 {d : Nat} {l0 : Option Value} {x : Int64} {m : jmM} {Q : Option Value → jmM → Prop} : AW d 17 8 [l0] [.long x] m Q ↔ Q (some (.long x)) m := A_lreturn hB_X1_pop dX1_pop_8 hR_X1_pop
theorem dX1_pop_9 : decode cX1_pop 9 = .ok (.aload_n 0, 1) := by decide +kernel
theorem tX1_pop_9 {d : Nat} {x : Nat} {m : jmM} {Q : Option Value → jmM → Prop} : AW d 17 9 [some (.ref x)] [] m Q ↔ AW d 17 10 [some (.ref x)] [.ref x] m Q := A_aload_n hB_X1_pop dX1_pop_9 rfl
theorem dX1_pop_10 : decode cX1_pop 10 = .ok (.dup, 1) := by decide +kernel
theorem tX1_pop_10 {d : Nat} {l0 : Option Value} {x : Nat} {m : jmM} {Q : Option Value → jmM → Prop} : AW d 17 10 [l0] [.ref x] m Q ↔ AW d 17 11 [l0] [.ref x, .ref x] m Q := A_dup_a hB_X1_pop dX1_pop_10
theorem dX1_pop_11 : decode cX1_pop 11 = .ok (.getfield 18, 3) := by decide +kernel
theorem tX1_pop_11 {d : Nat} {l0 : Option Value} {v1 : Value} {a : Nat} {m : jmM} {Q : Option Value → jmM → Prop} : AW d 17 11 [l0] [.ref a, v1] m Q ↔ (mS m a).1 = 1 ∧ AW d 17 14 [l0] [.int (mI m a 2), v1] m Q := A_getfield (f := fun m a => .int (mI m a 2)) hB_X1_pop dX1_pop_11 hO_X1_pop fF_1_18 rfl
theorem dX1_pop_14 : decode cX1_pop 14 = .ok (.iconst 1, 1) := by decide +kernel
theorem tX1_pop_14 {d : Nat} {l0 : Option Value} {v0 v1 : Value} {m : jmM} {Q : Option Value → jmM → Prop} : AW d 17 14 [l0] [v0, v1] m Q ↔ AW d 17 15 [l0] [.int 1, v0, v1] m Q := A_iconst hB_X1_pop dX1_pop_14 (by decide)
theorem dX1_pop_15 : decode cX1_pop 15 = .ok (.isub, 1) := by decide +kernel
theorem tX1_pop_15 {d : Nat} {l0 : Option Value} {v2 : Value} {x y : Int32} {m : jmM} {Q : Option Value → jmM → Prop} : AW d 17 15 [l0] [.int y, .int x, v2] m Q ↔ AW d 17 16 [l0] [.int (x - y), v2] m Q := A_isub hB_X1_pop dX1_pop_15
theorem dX1_pop_16 : decode cX1_pop 16 = .ok (.putfield 18, 3) := by decide +kernel
theorem tX1_pop_16 {d : Nat} {l0 : Option Value} {x : Int32} {a : Nat} {m : jmM} {Q : Option Value → jmM → Prop} : AW d 17 16 [l0] [.int x, .ref a] m Q ↔ (mS m a).1 = 1 ∧ AW d 17 19 [l0] [] (cI m a (jup (mI m a) 2 x)) Q := A_putI hB_X1_pop dX1_pop_16 hO_X1_pop fF_1_18 rfl (fun h => Bool.noConfusion h)
theorem dX1_pop_19 : decode cX1_pop 19 = .ok (.aload_n 0, 1) := by decide +kernel
theorem tX1_pop_19 {d : Nat} {x : Nat} {m : jmM} {Q : Option Value → jmM → Prop} : AW d 17 19 [some (.ref x)] [] m Q ↔ AW d 17 20 [some (.ref x)] [.ref x] m Q := A_aload_n hB_X1_pop dX1_pop_19 rfl
theorem dX1_pop_20 : decode cX1_pop 20 = .ok (.getfield 15, 3) := by decide +kernel
theorem tX1_pop_20 {d : Nat} {l0 : Option Value} {a : Nat} {m : jmM} {Q : Option Value → jmM → Prop} : AW d 17 20 [l0] [.ref a] m Q ↔ (mS m a).1 = 1 ∧ AW d 17 23 [l0] [va_rf (mR m a 1)] m Q := A_getfield (f := fun m a => va_rf (mR m a 1)) hB_X1_pop dX1_pop_20 hO_X1_pop fF_1_15 rfl
theorem dX1_pop_23 : decode cX1_pop 23 = .ok (.aload_n 0, 1) := by decide +kernel
theorem tX1_pop_23 {d : Nat} {v0 : Value} {x : Nat} {m : jmM} {Q : Option Value → jmM → Prop} : AW d 17 23 [some (.ref x)] [v0] m Q ↔ AW d 17 24 [some (.ref x)] [.ref x, v0] m Q := A_aload_n hB_X1_pop dX1_pop_23 rfl
theorem dX1_pop_24 : decode cX1_pop 24 = .ok (.getfield 18, 3) := by decide +kernel
theorem tX1_pop_24 {d : Nat} {l0 : Option Value} {v1 : Value} {a : Nat} {m : jmM} {Q : Option Value → jmM → Prop} : AW d 17 24 [l0] [.ref a, v1] m Q ↔ (mS m a).1 = 1 ∧ AW d 17 27 [l0] [.int (mI m a 2), v1] m Q := A_getfield (f := fun m a => .int (mI m a 2)) hB_X1_pop dX1_pop_24 hO_X1_pop fF_1_18 rfl
theorem dX1_pop_27 : decode cX1_pop 27 = .ok (.laload, 1) := by decide +kernel
theorem tX1_pop_27 {d : Nat} {l0 : Option Value} {i : Int32} {a : Nat} {m : jmM} {Q : Option Value → jmM → Prop} : AW d 17 27 [l0] [.int i, .ref a] m Q ↔ ((mS m a).1 = 21 ∧ jIx i (mS m a).2) ∧ AW d 17 28 [l0] [.long (mL m a (jx i))] m Q := A_laload hB_X1_pop dX1_pop_27
theorem dX1_pop_28 : decode cX1_pop 28 = .ok (.lreturn, 1) := by decide +kernel
theorem tX1_pop_28 {d : Nat} {l0 : Option Value} {x : Int64} {m : jmM} {Q : Option Value → jmM → Prop} : AW d 17 28 [l0] [.long x] m Q ↔ Q (some (.long x)) m := A_lreturn hB_X1_pop dX1_pop_28 hR_X1_pop
