/-! steps of PulledCrystal$Tape, by program -/
theorem hB_X9_init : jB 130 = cX9_init := rfl
theorem hO_X9_init : jO 130 = 9 := rfl
theorem hR_X9_init : jRt 130 = none := rfl
theorem nX9_init (d : Nat) (x0 : Nat) (m : jmM) (Q : Option Value → jmM → Prop) : CC (d + 1) 130 [.ref x0] m Q ↔ AW d 130 0 [some (.ref x0)] [] m Q := CC_body (Nat.le_of_ble_eq_true rfl)
theorem dX9_init_0 : decode cX9_init 0 = .ok (.aload_n 0, 1) := by decide +kernel
theorem tX9_init_0 {d : Nat} {x : Nat} {m : jmM} {Q : Option Value → jmM → Prop} : AW d 130 0 [some (.ref x)] [] m Q ↔ AW d 130 1 [some (.ref x)] [.ref x] m Q := A_aload_n hB_X9_init dX9_init_0 rfl
theorem dX9_init_1 : decode cX9_init 1 = .ok (.invokespecial 3, 3) := by decide +kernel
theorem tX9_init_1 {d : Nat} {l0 : Option Value} {a : Nat} {m : jmM} {Q : Option Value → jmM → Prop} : AW d 130 1 [l0] [.ref a] m Q ↔ AW d 130 4 [l0] [] m Q := A_obj hB_X9_init dX9_init_1 hO_X9_init fS_9_3 (Nat.le_of_ble_eq_true rfl)
theorem dX9_init_4 : decode cX9_init 4 = .ok (.aload_n 0, 1) := by decide +kernel
theorem tX9_init_4 {d : Nat} {x : Nat} {m : jmM} {Q : Option Value → jmM → Prop} : AW d 130 4 [some (.ref x)] [] m Q ↔ AW d 130 5 [some (.ref x)] [.ref x] m Q := A_aload_n hB_X9_init dX9_init_4 rfl
theorem dX9_init_5 : decode cX9_init 5 = .ok (.sipush 400, 3) := by decide +kernel
theorem tX9_init_5 {d : Nat} {l0 : Option Value} {v0 : Value} {m : jmM} {Q : Option Value → jmM → Prop} : AW d 130 5 [l0] [v0] m Q ↔ AW d 130 8 [l0] [.int 400, v0] m Q := A_sipush hB_X9_init dX9_init_5 rfl
theorem dX9_init_8 : decode cX9_init 8 = .ok (.newarray .int, 2) := by decide +kernel
theorem tX9_init_8 {d : Nat} {l0 : Option Value} {v1 : Value} {x : Int32} {m : jmM} {Q : Option Value → jmM → Prop} : AW d 130 8 [l0] [.int x, v1] m Q ↔ (0 ≤ x.toInt ∧ x.toInt ≤ 100000) ∧ AW d 130 10 [l0] [.ref (mN m), v1] (jNew m 20 (jx x)) Q := A_newarray hB_X9_init dX9_init_8 rfl
theorem dX9_init_10 : decode cX9_init 10 = .ok (.putfield 9, 3) := by decide +kernel
theorem tX9_init_10 {d : Nat} {l0 : Option Value} {x a : Nat} {m : jmM} {Q : Option Value → jmM → Prop} : AW d 130 10 [l0] [.ref x, .ref a] m Q ↔ (mS m a).1 = 9 ∧ AW d 130 13 [l0] [] (cR m a (jup (mR m a) 0 (some x))) Q := A_putR hB_X9_init dX9_init_10 hO_X9_init fF_9_9 rfl (fun _ => ⟨rfl, rfl⟩)
theorem tX9_init_10q {d : Nat} {l0 : Option Value} {x : Option Nat} {a : Nat} {m : jmM} {Q : Option Value → jmM → Prop} : AW d 130 10 [l0] [va_rf x, .ref a] m Q ↔ (mS m a).1 = 9 ∧ AW d 130 13 [l0] [] (cR m a (jup (mR m a) 0 x)) Q := A_putQ hB_X9_init dX9_init_10 hO_X9_init fF_9_9 rfl (fun _ => ⟨rfl, rfl⟩)
theorem tX9_init_10n {d : Nat} {l0 : Option Value} {a : Nat} {m : jmM} {Q : Option Value → jmM → Prop} : AW d 130 10 [l0] [.null, .ref a] m Q ↔ (mS m a).1 = 9 ∧ AW d 130 13 [l0] [] (cR m a (jup (mR m a) 0 none)) Q := A_putQ (x := none) hB_X9_init dX9_init_10 hO_X9_init fF_9_9 rfl (fun _ => ⟨rfl, rfl⟩)
theorem dX9_init_13 : decode cX9_init 13 = .ok (.aload_n 0, 1) := by decide +kernel
theorem tX9_init_13 {d : Nat} {x : Nat} {m : jmM} {Q : Option Value → jmM → Prop} : AW d 130 13 [some (.ref x)] [] m Q ↔ AW d 130 14 [some (.ref x)] [.ref x] m Q := A_aload_n hB_X9_init dX9_init_13 rfl
theorem dX9_init_14 : decode cX9_init 14 = .ok (.iconst 0, 1) := by decide +kernel
theorem tX9_init_14 {d : Nat} {l0 : Option Value} {v0 : Value} {m : jmM} {Q : Option Value → jmM → Prop} : AW d 130 14 [l0] [v0] m Q ↔ AW d 130 15 [l0] [.int 0, v0] m Q := A_iconst hB_X9_init dX9_init_14 (by decide)
theorem dX9_init_15 : decode cX9_init 15 = .ok (.putfield 15, 3) := by decide +kernel
theorem tX9_init_15 {d : Nat} {l0 : Option Value} {x : Int32} {a : Nat} {m : jmM} {Q : Option Value → jmM → Prop} : AW d 130 15 [l0] [.int x, .ref a] m Q ↔ (mS m a).1 = 9 ∧ AW d 130 18 [l0] [] (cI m a (jup (mI m a) 1 x)) Q := A_putI hB_X9_init dX9_init_15 hO_X9_init fF_9_15 rfl (fun h => Bool.noConfusion h)
theorem dX9_init_18 : decode cX9_init 18 = .ok (.return_, 1) := by decide +kernel
theorem tX9_init_18 {d : Nat} {l0 : Option Value} {m : jmM} {Q : Option Value → jmM → Prop} : AW d 130 18 [l0] [] m Q ↔ Q none m := A_return hB_X9_init dX9_init_18 hR_X9_init
theorem hB_X9_size : jB 131 = cX9_size := rfl
theorem hO_X9_size : jO 131 = 9 := rfl
theorem hR_X9_size : jRt 131 = (some .int) := rfl
theorem nX9_size (d : Nat) (x0 : Nat) (m : jmM) (Q : Option Value → jmM → Prop) : CC (d + 1) 131 [.ref x0] m Q ↔ AW d 131 0 [some (.ref x0)] [] m Q := CC_body (Nat.le_of_ble_eq_true rfl)
theorem dX9_size_0 : decode cX9_size 0 = .ok (.aload_n 0, 1) := by decide +kernel
theorem tX9_size_0 {d : Nat} {x : Nat} {m : jmM} {Q : Option Value → jmM → Prop} : AW d 131 0 [some (.ref x)] [] m Q ↔ AW d 131 1 [some (.ref x)] [.ref x] m Q := A_aload_n hB_X9_size dX9_size_0 rfl
theorem dX9_size_1 : decode cX9_size 1 = .ok (.getfield 15, 3) := by decide +kernel
theorem tX9_size_1 {d : Nat} {l0 : Option Value} {a : Nat} {m : jmM} {Q : Option Value → jmM → Prop} : AW d 131 1 [l0] [.ref a] m Q ↔ (mS m a).1 = 9 ∧ AW d 131 4 [l0] [.int (mI m a 1)] m Q := A_getfield (f := fun m a => .int (mI m a 1)) hB_X9_size dX9_size_1 hO_X9_size fF_9_15 rfl
theorem dX9_size_4 : decode cX9_size 4 = .ok (.ireturn, 1) := by decide +kernel
theorem tX9_size_4 {d : Nat} {l0 : Option Value} {x : Int32} {m : jmM} {Q : Option Value → jmM → Prop} : AW d 131 4 [l0] [.int x] m Q ↔ Q (some (.int x)) m := A_ireturn hB_X9_size dX9_size_4 hR_X9_size
theorem hB_X9_add : jB 132 = cX9_add := rfl
theorem hO_X9_add : jO 132 = 9 := rfl
theorem hR_X9_add : jRt 132 = none := rfl
theorem nX9_add (d : Nat) (x0 : Nat) (x1 : Int32) (m : jmM) (Q : Option Value → jmM → Prop) : CC (d + 1) 132 [.ref x0, .int x1] m Q ↔ AW d 132 0 [some (.ref x0), some (.int x1), none] [] m Q := CC_body (Nat.le_of_ble_eq_true rfl)
theorem dX9_add_0 : decode cX9_add 0 = .ok (.bipush 24, 2) := by decide +kernel
theorem tX9_add_0 {d : Nat} {l0 l1 l2 : Option Value} {m : jmM} {Q : Option Value → jmM → Prop} : AW d 132 0 [l0, l1, l2] [] m Q ↔ AW d 132 2 [l0, l1, l2] [.int 24] m Q := A_bipush hB_X9_add dX9_add_0 rfl
theorem dX9_add_2 : decode cX9_add 2 = .ok (.istore_n 2, 1) := by decide +kernel
theorem tX9_add_2 {d : Nat} {l0 l1 l2 : Option Value} {x : Int32} {m : jmM} {Q : Option Value → jmM → Prop} : AW d 132 2 [l0, l1, l2] [.int x] m Q ↔ AW d 132 3 [l0, jc1 l1, some (.int x)] [] m Q := A_istore_n hB_X9_add dX9_add_2 (Nat.le_of_ble_eq_true rfl) rfl
theorem dX9_add_3 : decode cX9_add 3 = .ok (.iload_n 2, 1) := by decide +kernel
theorem tX9_add_3 {d : Nat} {l0 l1 : Option Value} {x : Int32} {m : jmM} {Q : Option Value → jmM → Prop} : AW d 132 3 [l0, l1, some (.int x)] [] m Q ↔ AW d 132 4 [l0, l1, some (.int x)] [.int x] m Q := A_iload_n hB_X9_add dX9_add_3 rfl
theorem dX9_add_4 : decode cX9_add 4 = .ok (.ifCond .lt 47, 3) := by decide +kernel
theorem tX9_add_4 {d : Nat} {l0 l1 l2 : Option Value} {x : Int32} {m : jmM} {Q : Option Value → jmM → Prop} : AW d 132 4 [l0, l1, l2] [.int x] m Q ↔ if x < 0 then AW d 132 51 [l0, l1, l2] [] m Q else AW d 132 7 [l0, l1, l2] [] m Q := A_if_lt hB_X9_add dX9_add_4 (by decide)
theorem dX9_add_7 : decode cX9_add 7 = .ok (.aload_n 0, 1) := by decide +kernel
theorem tX9_add_7 {d : Nat} {l1 l2 : Option Value} {x : Nat} {m : jmM} {Q : Option Value → jmM → Prop} : AW d 132 7 [some (.ref x), l1, l2] [] m Q ↔ AW d 132 8 [some (.ref x), l1, l2] [.ref x] m Q := A_aload_n hB_X9_add dX9_add_7 rfl
theorem dX9_add_8 : decode cX9_add 8 = .ok (.getfield 15, 3) := by decide +kernel
theorem tX9_add_8 {d : Nat} {l0 l1 l2 : Option Value} {a : Nat} {m : jmM} {Q : Option Value → jmM → Prop} : AW d 132 8 [l0, l1, l2] [.ref a] m Q ↔ (mS m a).1 = 9 ∧ AW d 132 11 [l0, l1, l2] [.int (mI m a 1)] m Q := A_getfield (f := fun m a => .int (mI m a 1)) hB_X9_add dX9_add_8 hO_X9_add fF_9_15 rfl
theorem dX9_add_11 : decode cX9_add 11 = .ok (.aload_n 0, 1) := by decide +kernel
theorem tX9_add_11 {d : Nat} {l1 l2 : Option Value} {v0 : Value} {x : Nat} {m : jmM} {Q : Option Value → jmM → Prop} : AW d 132 11 [some (.ref x), l1, l2] [v0] m Q ↔ AW d 132 12 [some (.ref x), l1, l2] [.ref x, v0] m Q := A_aload_n hB_X9_add dX9_add_11 rfl
theorem dX9_add_12 : decode cX9_add 12 = .ok (.getfield 9, 3) := by decide +kernel
theorem tX9_add_12 {d : Nat} {l0 l1 l2 : Option Value} {v1 : Value} {a : Nat} {m : jmM} {Q : Option Value → jmM → Prop} : AW d 132 12 [l0, l1, l2] [.ref a, v1] m Q ↔ (mS m a).1 = 9 ∧ AW d 132 15 [l0, l1, l2] [va_rf (mR m a 0), v1] m Q := A_getfield (f := fun m a => va_rf (mR m a 0)) hB_X9_add dX9_add_12 hO_X9_add fF_9_9 rfl
theorem dX9_add_15 : decode cX9_add 15 = .ok (.arraylength, 1) := by decide +kernel
theorem tX9_add_15 {d : Nat} {l0 l1 l2 : Option Value} {v1 : Value} {a : Nat} {m : jmM} {Q : Option Value → jmM → Prop} : AW d 132 15 [l0, l1, l2] [.ref a, v1] m Q ↔ ((20 ≤ (mS m a).1 ∧ (mS m a).1 ≤ 26) ∨ a = jScr) ∧ AW d 132 16 [l0, l1, l2] [.int (nI (mS m a).2), v1] m Q := A_arraylength hB_X9_add dX9_add_15
theorem dX9_add_16 : decode cX9_add 16 = .ok (.if_icmp .ge 29, 3) := by decide +kernel
theorem tX9_add_16 {d : Nat} {l0 l1 l2 : Option Value} {x y : Int32} {m : jmM} {Q : Option Value → jmM → Prop} : AW d 132 16 [l0, l1, l2] [.int y, .int x] m Q ↔ if y ≤ x then AW d 132 45 [l0, l1, l2] [] m Q else AW d 132 19 [l0, l1, l2] [] m Q := A_icmp_ge hB_X9_add dX9_add_16 (by decide)
theorem dX9_add_19 : decode cX9_add 19 = .ok (.aload_n 0, 1) := by decide +kernel
theorem tX9_add_19 {d : Nat} {l1 l2 : Option Value} {x : Nat} {m : jmM} {Q : Option Value → jmM → Prop} : AW d 132 19 [some (.ref x), l1, l2] [] m Q ↔ AW d 132 20 [some (.ref x), l1, l2] [.ref x] m Q := A_aload_n hB_X9_add dX9_add_19 rfl
theorem dX9_add_20 : decode cX9_add 20 = .ok (.getfield 9, 3) := by decide +kernel
theorem tX9_add_20 {d : Nat} {l0 l1 l2 : Option Value} {a : Nat} {m : jmM} {Q : Option Value → jmM → Prop} : AW d 132 20 [l0, l1, l2] [.ref a] m Q ↔ (mS m a).1 = 9 ∧ AW d 132 23 [l0, l1, l2] [va_rf (mR m a 0)] m Q := A_getfield (f := fun m a => va_rf (mR m a 0)) hB_X9_add dX9_add_20 hO_X9_add fF_9_9 rfl
theorem dX9_add_23 : decode cX9_add 23 = .ok (.aload_n 0, 1) := by decide +kernel
theorem tX9_add_23 {d : Nat} {l1 l2 : Option Value} {v0 : Value} {x : Nat} {m : jmM} {Q : Option Value → jmM → Prop} : AW d 132 23 [some (.ref x), l1, l2] [v0] m Q ↔ AW d 132 24 [some (.ref x), l1, l2] [.ref x, v0] m Q := A_aload_n hB_X9_add dX9_add_23 rfl
theorem dX9_add_24 : decode cX9_add 24 = .ok (.getfield 15, 3) := by decide +kernel
theorem tX9_add_24 {d : Nat} {l0 l1 l2 : Option Value} {v1 : Value} {a : Nat} {m : jmM} {Q : Option Value → jmM → Prop} : AW d 132 24 [l0, l1, l2] [.ref a, v1] m Q ↔ (mS m a).1 = 9 ∧ AW d 132 27 [l0, l1, l2] [.int (mI m a 1), v1] m Q := A_getfield (f := fun m a => .int (mI m a 1)) hB_X9_add dX9_add_24 hO_X9_add fF_9_15 rfl
theorem dX9_add_27 : decode cX9_add 27 = .ok (.iload_n 1, 1) := by decide +kernel
theorem tX9_add_27 {d : Nat} {l0 l2 : Option Value} {v0 v1 : Value} {x : Int32} {m : jmM} {Q : Option Value → jmM → Prop} : AW d 132 27 [l0, some (.int x), l2] [v0, v1] m Q ↔ AW d 132 28 [l0, some (.int x), l2] [.int x, v0, v1] m Q := A_iload_n hB_X9_add dX9_add_27 rfl
theorem dX9_add_28 : decode cX9_add 28 = .ok (.iload_n 2, 1) := by decide +kernel
theorem tX9_add_28 {d : Nat} {l0 l1 : Option Value} {v0 v1 v2 : Value} {x : Int32} {m : jmM} {Q : Option Value → jmM → Prop} : AW d 132 28 [l0, l1, some (.int x)] [v0, v1, v2] m Q ↔ AW d 132 29 [l0, l1, some (.int x)] [.int x, v0, v1, v2] m Q := A_iload_n hB_X9_add dX9_add_28 rfl
theorem dX9_add_29 : decode cX9_add 29 = .ok (.iushr, 1) := by decide +kernel
theorem tX9_add_29 {d : Nat} {l0 l1 l2 : Option Value} {v2 v3 : Value} {x y : Int32} {m : jmM} {Q : Option Value → jmM → Prop} : AW d 132 29 [l0, l1, l2] [.int y, .int x, v2, v3] m Q ↔ AW d 132 30 [l0, l1, l2] [.int ((x.toUInt32 >>> (y.toUInt32 &&& Int32.toUInt32 31)).toInt32), v2, v3] m Q := A_iushr hB_X9_add dX9_add_29
theorem dX9_add_30 : decode cX9_add 30 = .ok (.sipush 255, 3) := by decide +kernel
theorem tX9_add_30 {d : Nat} {l0 l1 l2 : Option Value} {v0 v1 v2 : Value} {m : jmM} {Q : Option Value → jmM → Prop} : AW d 132 30 [l0, l1, l2] [v0, v1, v2] m Q ↔ AW d 132 33 [l0, l1, l2] [.int 255, v0, v1, v2] m Q := A_sipush hB_X9_add dX9_add_30 rfl
theorem dX9_add_33 : decode cX9_add 33 = .ok (.iand, 1) := by decide +kernel
theorem tX9_add_33 {d : Nat} {l0 l1 l2 : Option Value} {v2 v3 : Value} {x y : Int32} {m : jmM} {Q : Option Value → jmM → Prop} : AW d 132 33 [l0, l1, l2] [.int y, .int x, v2, v3] m Q ↔ AW d 132 34 [l0, l1, l2] [.int (x &&& y), v2, v3] m Q := A_iand hB_X9_add dX9_add_33
theorem dX9_add_34 : decode cX9_add 34 = .ok (.iastore, 1) := by decide +kernel
theorem tX9_add_34 {d : Nat} {l0 l1 l2 : Option Value} {x i : Int32} {a : Nat} {m : jmM} {Q : Option Value → jmM → Prop} : AW d 132 34 [l0, l1, l2] [.int x, .int i, .ref a] m Q ↔ ((mS m a).1 = 20 ∧ jIx i (mS m a).2) ∧ AW d 132 35 [l0, l1, l2] [] (cI m a (jup (mI m a) (jx i) x)) Q := A_iastore hB_X9_add dX9_add_34
theorem dX9_add_35 : decode cX9_add 35 = .ok (.aload_n 0, 1) := by decide +kernel
theorem tX9_add_35 {d : Nat} {l1 l2 : Option Value} {x : Nat} {m : jmM} {Q : Option Value → jmM → Prop} : AW d 132 35 [some (.ref x), l1, l2] [] m Q ↔ AW d 132 36 [some (.ref x), l1, l2] [.ref x] m Q := A_aload_n hB_X9_add dX9_add_35 rfl
theorem dX9_add_36 : decode cX9_add 36 = .ok (.dup, 1) := by decide +kernel
theorem tX9_add_36 {d : Nat} {l0 l1 l2 : Option Value} {x : Nat} {m : jmM} {Q : Option Value → jmM → Prop} : AW d 132 36 [l0, l1, l2] [.ref x] m Q ↔ AW d 132 37 [l0, l1, l2] [.ref x, .ref x] m Q := A_dup_a hB_X9_add dX9_add_36
theorem dX9_add_37 : decode cX9_add 37 = .ok (.getfield 15, 3) := by decide +kernel
theorem tX9_add_37 {d : Nat} {l0 l1 l2 : Option Value} {v1 : Value} {a : Nat} {m : jmM} {Q : Option Value → jmM → Prop} : AW d 132 37 [l0, l1, l2] [.ref a, v1] m Q ↔ (mS m a).1 = 9 ∧ AW d 132 40 [l0, l1, l2] [.int (mI m a 1), v1] m Q := A_getfield (f := fun m a => .int (mI m a 1)) hB_X9_add dX9_add_37 hO_X9_add fF_9_15 rfl
theorem dX9_add_40 : decode cX9_add 40 = .ok (.iconst 1, 1) := by decide +kernel
theorem tX9_add_40 {d : Nat} {l0 l1 l2 : Option Value} {v0 v1 : Value} {m : jmM} {Q : Option Value → jmM → Prop} : AW d 132 40 [l0, l1, l2] [v0, v1] m Q ↔ AW d 132 41 [l0, l1, l2] [.int 1, v0, v1] m Q := A_iconst hB_X9_add dX9_add_40 (by decide)
theorem dX9_add_41 : decode cX9_add 41 = .ok (.iadd, 1) := by decide +kernel
theorem tX9_add_41 {d : Nat} {l0 l1 l2 : Option Value} {v2 : Value} {x y : Int32} {m : jmM} {Q : Option Value → jmM → Prop} : AW d 132 41 [l0, l1, l2] [.int y, .int x, v2] m Q ↔ AW d 132 42 [l0, l1, l2] [.int (x + y), v2] m Q := A_iadd hB_X9_add dX9_add_41
theorem dX9_add_42 : decode cX9_add 42 = .ok (.putfield 15, 3) := by decide +kernel
theorem tX9_add_42 {d : Nat} {l0 l1 l2 : Option Value} {x : Int32} {a : Nat} {m : jmM} {Q : Option Value → jmM → Prop} : AW d 132 42 [l0, l1, l2] [.int x, .ref a] m Q ↔ (mS m a).1 = 9 ∧ AW d 132 45 [l0, l1, l2] [] (cI m a (jup (mI m a) 1 x)) Q := A_putI hB_X9_add dX9_add_42 hO_X9_add fF_9_15 rfl (fun h => Bool.noConfusion h)
theorem dX9_add_45 : decode cX9_add 45 = .ok (.iinc 2 (-8), 3) := by decide +kernel
theorem tX9_add_45 {d : Nat} {l0 l1 : Option Value} {x : Int32} {m : jmM} {Q : Option Value → jmM → Prop} : AW d 132 45 [l0, l1, some (.int x)] [] m Q ↔ AW d 132 48 [l0, jc1 l1, some (.int (x + (-8)))] [] m Q := A_iinc hB_X9_add dX9_add_45 rfl (Nat.le_of_ble_eq_true rfl) (v := (-8)) (by decide) rfl
theorem dX9_add_48 : decode cX9_add 48 = .ok (.goto (-45), 3) := by decide +kernel
theorem tX9_add_48 {d : Nat} {l0 l1 l2 : Option Value} {m : jmM} {Q : Option Value → jmM → Prop} : AW d 132 48 [l0, l1, l2] [] m Q ↔ AW d 132 3 [l0, l1, l2] [] m Q := A_goto hB_X9_add dX9_add_48 (by decide)
theorem dX9_add_51 : decode cX9_add 51 = .ok (.return_, 1) := by decide +kernel
theorem tX9_add_51 {d : Nat} {l0 l1 l2 : Option Value} {m : jmM} {Q : Option Value → jmM → Prop} : AW d 132 51 [l0, l1, l2] [] m Q ↔ Q none m := A_return hB_X9_add dX9_add_51 hR_X9_add
theorem hB_X9_shorten : jB 133 = cX9_shorten := rfl
theorem hO_X9_shorten : jO 133 = 9 := rfl
theorem hR_X9_shorten : jRt 133 = none := rfl
theorem nX9_shorten (d : Nat) (x0 : Nat) (x1 : Int32) (m : jmM) (Q : Option Value → jmM → Prop) : CC (d + 1) 133 [.ref x0, .int x1] m Q ↔ AW d 133 0 [some (.ref x0), some (.int x1)] [] m Q := CC_body (Nat.le_of_ble_eq_true rfl)
theorem dX9_shorten_0 : decode cX9_shorten 0 = .ok (.aload_n 0, 1) := by decide +kernel
theorem tX9_shorten_0 {d : Nat} {l1 : Option Value} {x : Nat} {m : jmM} {Q : Option Value → jmM → Prop} : AW d 133 0 [some (.ref x), l1] [] m Q ↔ AW d 133 1 [some (.ref x), l1] [.ref x] m Q := A_aload_n hB_X9_shorten dX9_shorten_0 rfl
theorem dX9_shorten_1 : decode cX9_shorten 1 = .ok (.iconst 0, 1) := by decide +kernel
theorem tX9_shorten_1 {d : Nat} {l0 l1 : Option Value} {v0 : Value} {m : jmM} {Q : Option Value → jmM → Prop} : AW d 133 1 [l0, l1] [v0] m Q ↔ AW d 133 2 [l0, l1] [.int 0, v0] m Q := A_iconst hB_X9_shorten dX9_shorten_1 (by decide)
theorem dX9_shorten_2 : decode cX9_shorten 2 = .ok (.iload_n 1, 1) := by decide +kernel
theorem tX9_shorten_2 {d : Nat} {l0 : Option Value} {v0 v1 : Value} {x : Int32} {m : jmM} {Q : Option Value → jmM → Prop} : AW d 133 2 [l0, some (.int x)] [v0, v1] m Q ↔ AW d 133 3 [l0, some (.int x)] [.int x, v0, v1] m Q := A_iload_n hB_X9_shorten dX9_shorten_2 rfl
theorem dX9_shorten_3 : decode cX9_shorten 3 = .ok (.aload_n 0, 1) := by decide +kernel
theorem tX9_shorten_3 {d : Nat} {l1 : Option Value} {v0 v1 v2 : Value} {x : Nat} {m : jmM} {Q : Option Value → jmM → Prop} : AW d 133 3 [some (.ref x), l1] [v0, v1, v2] m Q ↔ AW d 133 4 [some (.ref x), l1] [.ref x, v0, v1, v2] m Q := A_aload_n hB_X9_shorten dX9_shorten_3 rfl
theorem dX9_shorten_4 : decode cX9_shorten 4 = .ok (.getfield 15, 3) := by decide +kernel
theorem tX9_shorten_4 {d : Nat} {l0 l1 : Option Value} {v1 v2 v3 : Value} {a : Nat} {m : jmM} {Q : Option Value → jmM → Prop} : AW d 133 4 [l0, l1] [.ref a, v1, v2, v3] m Q ↔ (mS m a).1 = 9 ∧ AW d 133 7 [l0, l1] [.int (mI m a 1), v1, v2, v3] m Q := A_getfield (f := fun m a => .int (mI m a 1)) hB_X9_shorten dX9_shorten_4 hO_X9_shorten fF_9_15 rfl
theorem dX9_shorten_7 : decode cX9_shorten 7 = .ok (.invokestatic 19, 3) := by decide +kernel
theorem tX9_shorten_7 {d : Nat} {l0 l1 : Option Value} {v2 v3 : Value} {x y : Int32} {m : jmM} {Q : Option Value → jmM → Prop} : AW d 133 7 [l0, l1] [.int y, .int x, v2, v3] m Q ↔ AW d 133 10 [l0, l1] [.int (if y < x then y else x), v2, v3] m Q := A_min hB_X9_shorten dX9_shorten_7 hO_X9_shorten fS_9_19 (Nat.le_of_ble_eq_true rfl)
theorem dX9_shorten_10 : decode cX9_shorten 10 = .ok (.invokestatic 25, 3) := by decide +kernel
theorem tX9_shorten_10 {d : Nat} {l0 l1 : Option Value} {v2 : Value} {x y : Int32} {m : jmM} {Q : Option Value → jmM → Prop} : AW d 133 10 [l0, l1] [.int y, .int x, v2] m Q ↔ AW d 133 13 [l0, l1] [.int (if x < y then y else x), v2] m Q := A_max hB_X9_shorten dX9_shorten_10 hO_X9_shorten fS_9_25 (Nat.le_of_ble_eq_true rfl)
theorem dX9_shorten_13 : decode cX9_shorten 13 = .ok (.putfield 15, 3) := by decide +kernel
theorem tX9_shorten_13 {d : Nat} {l0 l1 : Option Value} {x : Int32} {a : Nat} {m : jmM} {Q : Option Value → jmM → Prop} : AW d 133 13 [l0, l1] [.int x, .ref a] m Q ↔ (mS m a).1 = 9 ∧ AW d 133 16 [l0, l1] [] (cI m a (jup (mI m a) 1 x)) Q := A_putI hB_X9_shorten dX9_shorten_13 hO_X9_shorten fF_9_15 rfl (fun h => Bool.noConfusion h)
theorem dX9_shorten_16 : decode cX9_shorten 16 = .ok (.return_, 1) := by decide +kernel
theorem tX9_shorten_16 {d : Nat} {l0 l1 : Option Value} {m : jmM} {Q : Option Value → jmM → Prop} : AW d 133 16 [l0, l1] [] m Q ↔ Q none m := A_return hB_X9_shorten dX9_shorten_16 hR_X9_shorten
theorem hB_X9_byteAt : jB 134 = cX9_byteAt := rfl
theorem hO_X9_byteAt : jO 134 = 9 := rfl
theorem hR_X9_byteAt : jRt 134 = (some .int) := rfl
theorem nX9_byteAt (d : Nat) (x0 : Nat) (x1 : Int32) (m : jmM) (Q : Option Value → jmM → Prop) : CC (d + 1) 134 [.ref x0, .int x1] m Q ↔ AW d 134 0 [some (.ref x0), some (.int x1)] [] m Q := CC_body (Nat.le_of_ble_eq_true rfl)
theorem dX9_byteAt_0 : decode cX9_byteAt 0 = .ok (.iload_n 1, 1) := by decide +kernel
theorem tX9_byteAt_0 {d : Nat} {l0 : Option Value} {x : Int32} {m : jmM} {Q : Option Value → jmM → Prop} : AW d 134 0 [l0, some (.int x)] [] m Q ↔ AW d 134 1 [l0, some (.int x)] [.int x] m Q := A_iload_n hB_X9_byteAt dX9_byteAt_0 rfl
theorem dX9_byteAt_1 : decode cX9_byteAt 1 = .ok (.ifCond .lt 29, 3) := by decide +kernel
theorem tX9_byteAt_1 {d : Nat} {l0 l1 : Option Value} {x : Int32} {m : jmM} {Q : Option Value → jmM → Prop} : AW d 134 1 [l0, l1] [.int x] m Q ↔ if x < 0 then AW d 134 30 [l0, l1] [] m Q else AW d 134 4 [l0, l1] [] m Q := A_if_lt hB_X9_byteAt dX9_byteAt_1 (by decide)
theorem dX9_byteAt_4 : decode cX9_byteAt 4 = .ok (.iload_n 1, 1) := by decide +kernel
theorem tX9_byteAt_4 {d : Nat} {l0 : Option Value} {x : Int32} {m : jmM} {Q : Option Value → jmM → Prop} : AW d 134 4 [l0, some (.int x)] [] m Q ↔ AW d 134 5 [l0, some (.int x)] [.int x] m Q := A_iload_n hB_X9_byteAt dX9_byteAt_4 rfl
theorem dX9_byteAt_5 : decode cX9_byteAt 5 = .ok (.aload_n 0, 1) := by decide +kernel
theorem tX9_byteAt_5 {d : Nat} {l1 : Option Value} {v0 : Value} {x : Nat} {m : jmM} {Q : Option Value → jmM → Prop} : AW d 134 5 [some (.ref x), l1] [v0] m Q ↔ AW d 134 6 [some (.ref x), l1] [.ref x, v0] m Q := A_aload_n hB_X9_byteAt dX9_byteAt_5 rfl
theorem dX9_byteAt_6 : decode cX9_byteAt 6 = .ok (.getfield 15, 3) := by decide +kernel
theorem tX9_byteAt_6 {d : Nat} {l0 l1 : Option Value} {v1 : Value} {a : Nat} {m : jmM} {Q : Option Value → jmM → Prop} : AW d 134 6 [l0, l1] [.ref a, v1] m Q ↔ (mS m a).1 = 9 ∧ AW d 134 9 [l0, l1] [.int (mI m a 1), v1] m Q := A_getfield (f := fun m a => .int (mI m a 1)) hB_X9_byteAt dX9_byteAt_6 hO_X9_byteAt fF_9_15 rfl
theorem dX9_byteAt_9 : decode cX9_byteAt 9 = .ok (.if_icmp .ge 21, 3) := by decide +kernel
theorem tX9_byteAt_9 {d : Nat} {l0 l1 : Option Value} {x y : Int32} {m : jmM} {Q : Option Value → jmM → Prop} : AW d 134 9 [l0, l1] [.int y, .int x] m Q ↔ if y ≤ x then AW d 134 30 [l0, l1] [] m Q else AW d 134 12 [l0, l1] [] m Q := A_icmp_ge hB_X9_byteAt dX9_byteAt_9 (by decide)
theorem dX9_byteAt_12 : decode cX9_byteAt 12 = .ok (.iload_n 1, 1) := by decide +kernel
theorem tX9_byteAt_12 {d : Nat} {l0 : Option Value} {x : Int32} {m : jmM} {Q : Option Value → jmM → Prop} : AW d 134 12 [l0, some (.int x)] [] m Q ↔ AW d 134 13 [l0, some (.int x)] [.int x] m Q := A_iload_n hB_X9_byteAt dX9_byteAt_12 rfl
theorem dX9_byteAt_13 : decode cX9_byteAt 13 = .ok (.aload_n 0, 1) := by decide +kernel
theorem tX9_byteAt_13 {d : Nat} {l1 : Option Value} {v0 : Value} {x : Nat} {m : jmM} {Q : Option Value → jmM → Prop} : AW d 134 13 [some (.ref x), l1] [v0] m Q ↔ AW d 134 14 [some (.ref x), l1] [.ref x, v0] m Q := A_aload_n hB_X9_byteAt dX9_byteAt_13 rfl
theorem dX9_byteAt_14 : decode cX9_byteAt 14 = .ok (.getfield 9, 3) := by decide +kernel
theorem tX9_byteAt_14 {d : Nat} {l0 l1 : Option Value} {v1 : Value} {a : Nat} {m : jmM} {Q : Option Value → jmM → Prop} : AW d 134 14 [l0, l1] [.ref a, v1] m Q ↔ (mS m a).1 = 9 ∧ AW d 134 17 [l0, l1] [va_rf (mR m a 0), v1] m Q := A_getfield (f := fun m a => va_rf (mR m a 0)) hB_X9_byteAt dX9_byteAt_14 hO_X9_byteAt fF_9_9 rfl
theorem dX9_byteAt_17 : decode cX9_byteAt 17 = .ok (.arraylength, 1) := by decide +kernel
theorem tX9_byteAt_17 {d : Nat} {l0 l1 : Option Value} {v1 : Value} {a : Nat} {m : jmM} {Q : Option Value → jmM → Prop} : AW d 134 17 [l0, l1] [.ref a, v1] m Q ↔ ((20 ≤ (mS m a).1 ∧ (mS m a).1 ≤ 26) ∨ a = jScr) ∧ AW d 134 18 [l0, l1] [.int (nI (mS m a).2), v1] m Q := A_arraylength hB_X9_byteAt dX9_byteAt_17
theorem dX9_byteAt_18 : decode cX9_byteAt 18 = .ok (.if_icmp .ge 12, 3) := by decide +kernel
theorem tX9_byteAt_18 {d : Nat} {l0 l1 : Option Value} {x y : Int32} {m : jmM} {Q : Option Value → jmM → Prop} : AW d 134 18 [l0, l1] [.int y, .int x] m Q ↔ if y ≤ x then AW d 134 30 [l0, l1] [] m Q else AW d 134 21 [l0, l1] [] m Q := A_icmp_ge hB_X9_byteAt dX9_byteAt_18 (by decide)
theorem dX9_byteAt_21 : decode cX9_byteAt 21 = .ok (.aload_n 0, 1) := by decide +kernel
theorem tX9_byteAt_21 {d : Nat} {l1 : Option Value} {x : Nat} {m : jmM} {Q : Option Value → jmM → Prop} : AW d 134 21 [some (.ref x), l1] [] m Q ↔ AW d 134 22 [some (.ref x), l1] [.ref x] m Q := A_aload_n hB_X9_byteAt dX9_byteAt_21 rfl
theorem dX9_byteAt_22 : decode cX9_byteAt 22 = .ok (.getfield 9, 3) := by decide +kernel
theorem tX9_byteAt_22 {d : Nat} {l0 l1 : Option Value} {a : Nat} {m : jmM} {Q : Option Value → jmM → Prop} : AW d 134 22 [l0, l1] [.ref a] m Q ↔ (mS m a).1 = 9 ∧ AW d 134 25 [l0, l1] [va_rf (mR m a 0)] m Q := A_getfield (f := fun m a => va_rf (mR m a 0)) hB_X9_byteAt dX9_byteAt_22 hO_X9_byteAt fF_9_9 rfl
theorem dX9_byteAt_25 : decode cX9_byteAt 25 = .ok (.iload_n 1, 1) := by decide +kernel
theorem tX9_byteAt_25 {d : Nat} {l0 : Option Value} {v0 : Value} {x : Int32} {m : jmM} {Q : Option Value → jmM → Prop} : AW d 134 25 [l0, some (.int x)] [v0] m Q ↔ AW d 134 26 [l0, some (.int x)] [.int x, v0] m Q := A_iload_n hB_X9_byteAt dX9_byteAt_25 rfl
theorem dX9_byteAt_26 : decode cX9_byteAt 26 = .ok (.iaload, 1) := by decide +kernel
theorem tX9_byteAt_26 {d : Nat} {l0 l1 : Option Value} {i : Int32} {a : Nat} {m : jmM} {Q : Option Value → jmM → Prop} : AW d 134 26 [l0, l1] [.int i, .ref a] m Q ↔ (((mS m a).1 = 20 ∨ a = jScr) ∧ jIx i (mS m a).2) ∧ AW d 134 27 [l0, l1] [.int (mI m a (jx i))] m Q := A_iaload hB_X9_byteAt dX9_byteAt_26
theorem dX9_byteAt_27 : decode cX9_byteAt 27 = .ok (.goto 4, 3) := by decide +kernel
theorem tX9_byteAt_27 {d : Nat} {l0 l1 : Option Value} {v0 : Value} {m : jmM} {Q : Option Value → jmM → Prop} : AW d 134 27 [l0, l1] [v0] m Q ↔ AW d 134 31 [l0, l1] [v0] m Q := A_goto hB_X9_byteAt dX9_byteAt_27 (by decide)
theorem dX9_byteAt_30 : decode cX9_byteAt 30 = .ok (.iconst (-1), 1) := by decide +kernel
theorem tX9_byteAt_30 {d : Nat} {l0 l1 : Option Value} {m : jmM} {Q : Option Value → jmM → Prop} : AW d 134 30 [l0, l1] [] m Q ↔ AW d 134 31 [l0, l1] [.int (-1)] m Q := A_iconst hB_X9_byteAt dX9_byteAt_30 (by decide)
theorem dX9_byteAt_31 : decode cX9_byteAt 31 = .ok (.ireturn, 1) := by decide +kernel
theorem tX9_byteAt_31 {d : Nat} {l0 l1 : Option Value} {x : Int32} {m : jmM} {Q : Option Value → jmM → Prop} : AW d 134 31 [l0, l1] [.int x] m Q ↔ Q (some (.int x)) m := A_ireturn hB_X9_byteAt dX9_byteAt_31 hR_X9_byteAt
