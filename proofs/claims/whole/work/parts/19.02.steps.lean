/-! steps of PulledCrystal$Image, by program -/
theorem hB_X2_init : jB 18 = cX2_init := rfl
theorem hO_X2_init : jO 18 = 2 := rfl
theorem hR_X2_init : jRt 18 = none := rfl
theorem nX2_init (d : Nat) (x0 : Nat) (m : jmM) (Q : Option Value → jmM → Prop) : CC (d + 1) 18 [.ref x0] m Q ↔ AW d 18 0 [some (.ref x0)] [] m Q := CC_body (Nat.le_of_ble_eq_true rfl)
theorem dX2_init_0 : decode cX2_init 0 = .ok (.aload_n 0, 1) := by decide +kernel
theorem tX2_init_0 {d : Nat} {x : Nat} {m : jmM} {Q : Option Value → jmM → Prop} : AW d 18 0 [some (.ref x)] [] m Q ↔ AW d 18 1 [some (.ref x)] [.ref x] m Q := A_aload_n hB_X2_init dX2_init_0 rfl
theorem dX2_init_1 : decode cX2_init 1 = .ok (.invokespecial 3, 3) := by decide +kernel
theorem tX2_init_1 {d : Nat} {l0 : Option Value} {a : Nat} {m : jmM} {Q : Option Value → jmM → Prop} : AW d 18 1 [l0] [.ref a] m Q ↔ AW d 18 4 [l0] [] m Q := A_obj hB_X2_init dX2_init_1 hO_X2_init fS_2_3 (Nat.le_of_ble_eq_true rfl)
theorem dX2_init_4 : decode cX2_init 4 = .ok (.aload_n 0, 1) := by decide +kernel
theorem tX2_init_4 {d : Nat} {x : Nat} {m : jmM} {Q : Option Value → jmM → Prop} : AW d 18 4 [some (.ref x)] [] m Q ↔ AW d 18 5 [some (.ref x)] [.ref x] m Q := A_aload_n hB_X2_init dX2_init_4 rfl
theorem dX2_init_5 : decode cX2_init 5 = .ok (.new 9, 3) := by decide +kernel
theorem tX2_init_5 {d : Nat} {l0 : Option Value} {v0 : Value} {m : jmM} {Q : Option Value → jmM → Prop} : AW d 18 5 [l0] [v0] m Q ↔ AW d 18 8 [l0] [.ref (mN m), v0] (jNew m 5 19) Q := A_new hB_X2_init dX2_init_5 hO_X2_init fN_2_9 rfl
theorem dX2_init_8 : decode cX2_init 8 = .ok (.dup, 1) := by decide +kernel
theorem tX2_init_8 {d : Nat} {l0 : Option Value} {v1 : Value} {x : Nat} {m : jmM} {Q : Option Value → jmM → Prop} : AW d 18 8 [l0] [.ref x, v1] m Q ↔ AW d 18 9 [l0] [.ref x, .ref x, v1] m Q := A_dup_a hB_X2_init dX2_init_8
theorem dX2_init_9 : decode cX2_init 9 = .ok (.invokespecial 11, 3) := by decide +kernel
theorem tX2_init_9 {d : Nat} {l0 : Option Value} {v1 v2 : Value} {a : Nat} {m : jmM} {Q : Option Value → jmM → Prop} : AW d 18 9 [l0] [.ref a, v1, v2] m Q ↔ CC d 46 [.ref a] m (jK d 18 12 [l0] [v1, v2] Q) := A_callI5 hB_X2_init dX2_init_9 hO_X2_init fS_2_11 ⟨Nat.le_of_ble_eq_true rfl, Nat.le_of_ble_eq_true rfl⟩ rfl rfl
theorem dX2_init_12 : decode cX2_init 12 = .ok (.putfield 12, 3) := by decide +kernel
theorem tX2_init_12 {d : Nat} {l0 : Option Value} {x a : Nat} {m : jmM} {Q : Option Value → jmM → Prop} : AW d 18 12 [l0] [.ref x, .ref a] m Q ↔ (mS m a).1 = 2 ∧ AW d 18 15 [l0] [] (cR m a (jup (mR m a) 0 (some x))) Q := A_putR hB_X2_init dX2_init_12 hO_X2_init fF_2_12 rfl (fun _ => ⟨rfl, rfl⟩)
theorem tX2_init_12q {d : Nat} {l0 : Option Value} {x : Option Nat} {a : Nat} {m : jmM} {Q : Option Value → jmM → Prop} : AW d 18 12 [l0] [va_rf x, .ref a] m Q ↔ (mS m a).1 = 2 ∧ AW d 18 15 [l0] [] (cR m a (jup (mR m a) 0 x)) Q := A_putQ hB_X2_init dX2_init_12 hO_X2_init fF_2_12 rfl (fun _ => ⟨rfl, rfl⟩)
theorem tX2_init_12n {d : Nat} {l0 : Option Value} {a : Nat} {m : jmM} {Q : Option Value → jmM → Prop} : AW d 18 12 [l0] [.null, .ref a] m Q ↔ (mS m a).1 = 2 ∧ AW d 18 15 [l0] [] (cR m a (jup (mR m a) 0 none)) Q := A_putQ (x := none) hB_X2_init dX2_init_12 hO_X2_init fF_2_12 rfl (fun _ => ⟨rfl, rfl⟩)
theorem dX2_init_15 : decode cX2_init 15 = .ok (.aload_n 0, 1) := by decide +kernel
theorem tX2_init_15 {d : Nat} {x : Nat} {m : jmM} {Q : Option Value → jmM → Prop} : AW d 18 15 [some (.ref x)] [] m Q ↔ AW d 18 16 [some (.ref x)] [.ref x] m Q := A_aload_n hB_X2_init dX2_init_15 rfl
theorem dX2_init_16 : decode cX2_init 16 = .ok (.bipush 6, 2) := by decide +kernel
theorem tX2_init_16 {d : Nat} {l0 : Option Value} {v0 : Value} {m : jmM} {Q : Option Value → jmM → Prop} : AW d 18 16 [l0] [v0] m Q ↔ AW d 18 18 [l0] [.int 6, v0] m Q := A_bipush hB_X2_init dX2_init_16 rfl
theorem dX2_init_18 : decode cX2_init 18 = .ok (.newarray .int, 2) := by decide +kernel
theorem tX2_init_18 {d : Nat} {l0 : Option Value} {v1 : Value} {x : Int32} {m : jmM} {Q : Option Value → jmM → Prop} : AW d 18 18 [l0] [.int x, v1] m Q ↔ (0 ≤ x.toInt ∧ x.toInt ≤ 100000) ∧ AW d 18 20 [l0] [.ref (mN m), v1] (jNew m 20 (jx x)) Q := A_newarray hB_X2_init dX2_init_18 rfl
theorem dX2_init_20 : decode cX2_init 20 = .ok (.putfield 18, 3) := by decide +kernel
theorem tX2_init_20 {d : Nat} {l0 : Option Value} {x a : Nat} {m : jmM} {Q : Option Value → jmM → Prop} : AW d 18 20 [l0] [.ref x, .ref a] m Q ↔ (mS m a).1 = 2 ∧ AW d 18 23 [l0] [] (cR m a (jup (mR m a) 1 (some x))) Q := A_putR hB_X2_init dX2_init_20 hO_X2_init fF_2_18 rfl (fun _ => ⟨rfl, rfl⟩)
theorem tX2_init_20q {d : Nat} {l0 : Option Value} {x : Option Nat} {a : Nat} {m : jmM} {Q : Option Value → jmM → Prop} : AW d 18 20 [l0] [va_rf x, .ref a] m Q ↔ (mS m a).1 = 2 ∧ AW d 18 23 [l0] [] (cR m a (jup (mR m a) 1 x)) Q := A_putQ hB_X2_init dX2_init_20 hO_X2_init fF_2_18 rfl (fun _ => ⟨rfl, rfl⟩)
theorem tX2_init_20n {d : Nat} {l0 : Option Value} {a : Nat} {m : jmM} {Q : Option Value → jmM → Prop} : AW d 18 20 [l0] [.null, .ref a] m Q ↔ (mS m a).1 = 2 ∧ AW d 18 23 [l0] [] (cR m a (jup (mR m a) 1 none)) Q := A_putQ (x := none) hB_X2_init dX2_init_20 hO_X2_init fF_2_18 rfl (fun _ => ⟨rfl, rfl⟩)
theorem dX2_init_23 : decode cX2_init 23 = .ok (.aload_n 0, 1) := by decide +kernel
theorem tX2_init_23 {d : Nat} {x : Nat} {m : jmM} {Q : Option Value → jmM → Prop} : AW d 18 23 [some (.ref x)] [] m Q ↔ AW d 18 24 [some (.ref x)] [.ref x] m Q := A_aload_n hB_X2_init dX2_init_23 rfl
theorem dX2_init_24 : decode cX2_init 24 = .ok (.bipush 6, 2) := by decide +kernel
theorem tX2_init_24 {d : Nat} {l0 : Option Value} {v0 : Value} {m : jmM} {Q : Option Value → jmM → Prop} : AW d 18 24 [l0] [v0] m Q ↔ AW d 18 26 [l0] [.int 6, v0] m Q := A_bipush hB_X2_init dX2_init_24 rfl
theorem dX2_init_26 : decode cX2_init 26 = .ok (.newarray .int, 2) := by decide +kernel
theorem tX2_init_26 {d : Nat} {l0 : Option Value} {v1 : Value} {x : Int32} {m : jmM} {Q : Option Value → jmM → Prop} : AW d 18 26 [l0] [.int x, v1] m Q ↔ (0 ≤ x.toInt ∧ x.toInt ≤ 100000) ∧ AW d 18 28 [l0] [.ref (mN m), v1] (jNew m 20 (jx x)) Q := A_newarray hB_X2_init dX2_init_26 rfl
theorem dX2_init_28 : decode cX2_init 28 = .ok (.putfield 22, 3) := by decide +kernel
theorem tX2_init_28 {d : Nat} {l0 : Option Value} {x a : Nat} {m : jmM} {Q : Option Value → jmM → Prop} : AW d 18 28 [l0] [.ref x, .ref a] m Q ↔ (mS m a).1 = 2 ∧ AW d 18 31 [l0] [] (cR m a (jup (mR m a) 2 (some x))) Q := A_putR hB_X2_init dX2_init_28 hO_X2_init fF_2_22 rfl (fun _ => ⟨rfl, rfl⟩)
theorem tX2_init_28q {d : Nat} {l0 : Option Value} {x : Option Nat} {a : Nat} {m : jmM} {Q : Option Value → jmM → Prop} : AW d 18 28 [l0] [va_rf x, .ref a] m Q ↔ (mS m a).1 = 2 ∧ AW d 18 31 [l0] [] (cR m a (jup (mR m a) 2 x)) Q := A_putQ hB_X2_init dX2_init_28 hO_X2_init fF_2_22 rfl (fun _ => ⟨rfl, rfl⟩)
theorem tX2_init_28n {d : Nat} {l0 : Option Value} {a : Nat} {m : jmM} {Q : Option Value → jmM → Prop} : AW d 18 28 [l0] [.null, .ref a] m Q ↔ (mS m a).1 = 2 ∧ AW d 18 31 [l0] [] (cR m a (jup (mR m a) 2 none)) Q := A_putQ (x := none) hB_X2_init dX2_init_28 hO_X2_init fF_2_22 rfl (fun _ => ⟨rfl, rfl⟩)
theorem dX2_init_31 : decode cX2_init 31 = .ok (.aload_n 0, 1) := by decide +kernel
theorem tX2_init_31 {d : Nat} {x : Nat} {m : jmM} {Q : Option Value → jmM → Prop} : AW d 18 31 [some (.ref x)] [] m Q ↔ AW d 18 32 [some (.ref x)] [.ref x] m Q := A_aload_n hB_X2_init dX2_init_31 rfl
theorem dX2_init_32 : decode cX2_init 32 = .ok (.iconst 0, 1) := by decide +kernel
theorem tX2_init_32 {d : Nat} {l0 : Option Value} {v0 : Value} {m : jmM} {Q : Option Value → jmM → Prop} : AW d 18 32 [l0] [v0] m Q ↔ AW d 18 33 [l0] [.int 0, v0] m Q := A_iconst hB_X2_init dX2_init_32 (by decide)
theorem dX2_init_33 : decode cX2_init 33 = .ok (.putfield 25, 3) := by decide +kernel
theorem tX2_init_33 {d : Nat} {l0 : Option Value} {x : Int32} {a : Nat} {m : jmM} {Q : Option Value → jmM → Prop} : AW d 18 33 [l0] [.int x, .ref a] m Q ↔ (mS m a).1 = 2 ∧ AW d 18 36 [l0] [] (cI m a (jup (mI m a) 3 x)) Q := A_putI hB_X2_init dX2_init_33 hO_X2_init fF_2_25 rfl (fun h => Bool.noConfusion h)
theorem dX2_init_36 : decode cX2_init 36 = .ok (.aload_n 0, 1) := by decide +kernel
theorem tX2_init_36 {d : Nat} {x : Nat} {m : jmM} {Q : Option Value → jmM → Prop} : AW d 18 36 [some (.ref x)] [] m Q ↔ AW d 18 37 [some (.ref x)] [.ref x] m Q := A_aload_n hB_X2_init dX2_init_36 rfl
theorem dX2_init_37 : decode cX2_init 37 = .ok (.iconst 0, 1) := by decide +kernel
theorem tX2_init_37 {d : Nat} {l0 : Option Value} {v0 : Value} {m : jmM} {Q : Option Value → jmM → Prop} : AW d 18 37 [l0] [v0] m Q ↔ AW d 18 38 [l0] [.int 0, v0] m Q := A_iconst hB_X2_init dX2_init_37 (by decide)
theorem dX2_init_38 : decode cX2_init 38 = .ok (.putfield 29, 3) := by decide +kernel
theorem tX2_init_38 {d : Nat} {l0 : Option Value} {x : Int32} {a : Nat} {m : jmM} {Q : Option Value → jmM → Prop} : AW d 18 38 [l0] [.int x, .ref a] m Q ↔ ((mS m a).1 = 2 ∧ jBool x) ∧ AW d 18 41 [l0] [] (cI m a (jup (mI m a) 4 x)) Q := A_putZ hB_X2_init dX2_init_38 hO_X2_init fF_2_29 rfl (fun h => Bool.noConfusion h)
theorem dX2_init_41 : decode cX2_init 41 = .ok (.return_, 1) := by decide +kernel
theorem tX2_init_41 {d : Nat} {l0 : Option Value} {m : jmM} {Q : Option Value → jmM → Prop} : AW d 18 41 [l0] [] m Q ↔ Q none m := A_return hB_X2_init dX2_init_41 hR_X2_init
theorem hB_X2_take : jB 19 = cX2_take := rfl
theorem hO_X2_take : jO 19 = 2 := rfl
theorem hR_X2_take : jRt 19 = none := rfl
theorem nX2_take (d : Nat) (x0 : Nat) (x1 : Nat) (x2 : Int32) (x3 : Nat) (x4 : Nat) (m : jmM) (Q : Option Value → jmM → Prop) : CC (d + 1) 19 [.ref x0, .ref x1, .int x2, .ref x3, .ref x4] m Q ↔ AW d 19 0 [some (.ref x0), some (.ref x1), some (.int x2), some (.ref x3), some (.ref x4)] [] m Q := CC_body (Nat.le_of_ble_eq_true rfl)
theorem dX2_take_0 : decode cX2_take 0 = .ok (.aload_n 0, 1) := by decide +kernel
theorem tX2_take_0 {d : Nat} {l1 l2 l3 l4 : Option Value} {x : Nat} {m : jmM} {Q : Option Value → jmM → Prop} : AW d 19 0 [some (.ref x), l1, l2, l3, l4] [] m Q ↔ AW d 19 1 [some (.ref x), l1, l2, l3, l4] [.ref x] m Q := A_aload_n hB_X2_take dX2_take_0 rfl
theorem dX2_take_1 : decode cX2_take 1 = .ok (.getfield 12, 3) := by decide +kernel
theorem tX2_take_1 {d : Nat} {l0 l1 l2 l3 l4 : Option Value} {a : Nat} {m : jmM} {Q : Option Value → jmM → Prop} : AW d 19 1 [l0, l1, l2, l3, l4] [.ref a] m Q ↔ (mS m a).1 = 2 ∧ AW d 19 4 [l0, l1, l2, l3, l4] [va_rf (mR m a 0)] m Q := A_getfield (f := fun m a => va_rf (mR m a 0)) hB_X2_take dX2_take_1 hO_X2_take fF_2_12 rfl
theorem dX2_take_4 : decode cX2_take 4 = .ok (.aload_n 1, 1) := by decide +kernel
theorem tX2_take_4 {d : Nat} {l0 l2 l3 l4 : Option Value} {v0 : Value} {x : Nat} {m : jmM} {Q : Option Value → jmM → Prop} : AW d 19 4 [l0, some (.ref x), l2, l3, l4] [v0] m Q ↔ AW d 19 5 [l0, some (.ref x), l2, l3, l4] [.ref x, v0] m Q := A_aload_n hB_X2_take dX2_take_4 rfl
theorem dX2_take_5 : decode cX2_take 5 = .ok (.invokevirtual 33, 3) := by decide +kernel
theorem tX2_take_5 {d : Nat} {l0 l1 l2 l3 l4 : Option Value} {y0 : Value} {a : Nat} {m : jmM} {Q : Option Value → jmM → Prop} : AW d 19 5 [l0, l1, l2, l3, l4] [y0, .ref a] m Q ↔ (mS m a).1 = 5 ∧ CC d 49 [.ref a, y0] m (jK d 19 8 [l0, l1, l2, l3, l4] [] Q) := A_callV hB_X2_take dX2_take_5 hO_X2_take fS_2_33 ⟨Nat.le_of_ble_eq_true rfl, Nat.le_of_ble_eq_true rfl⟩ rfl rfl rfl
theorem dX2_take_8 : decode cX2_take 8 = .ok (.aload_n 3, 1) := by decide +kernel
theorem tX2_take_8 {d : Nat} {l0 l1 l2 l4 : Option Value} {x : Nat} {m : jmM} {Q : Option Value → jmM → Prop} : AW d 19 8 [l0, l1, l2, some (.ref x), l4] [] m Q ↔ AW d 19 9 [l0, l1, l2, some (.ref x), l4] [.ref x] m Q := A_aload_n hB_X2_take dX2_take_8 rfl
theorem dX2_take_9 : decode cX2_take 9 = .ok (.aload_n 0, 1) := by decide +kernel
theorem tX2_take_9 {d : Nat} {l1 l2 l3 l4 : Option Value} {v0 : Value} {x : Nat} {m : jmM} {Q : Option Value → jmM → Prop} : AW d 19 9 [some (.ref x), l1, l2, l3, l4] [v0] m Q ↔ AW d 19 10 [some (.ref x), l1, l2, l3, l4] [.ref x, v0] m Q := A_aload_n hB_X2_take dX2_take_9 rfl
theorem dX2_take_10 : decode cX2_take 10 = .ok (.getfield 18, 3) := by decide +kernel
theorem tX2_take_10 {d : Nat} {l0 l1 l2 l3 l4 : Option Value} {v1 : Value} {a : Nat} {m : jmM} {Q : Option Value → jmM → Prop} : AW d 19 10 [l0, l1, l2, l3, l4] [.ref a, v1] m Q ↔ (mS m a).1 = 2 ∧ AW d 19 13 [l0, l1, l2, l3, l4] [va_rf (mR m a 1), v1] m Q := A_getfield (f := fun m a => va_rf (mR m a 1)) hB_X2_take dX2_take_10 hO_X2_take fF_2_18 rfl
theorem dX2_take_13 : decode cX2_take 13 = .ok (.invokestatic 37, 3) := by decide +kernel
theorem tX2_take_13 {d : Nat} {l0 l1 l2 l3 l4 : Option Value} {y0 y1 : Value} {m : jmM} {Q : Option Value → jmM → Prop} : AW d 19 13 [l0, l1, l2, l3, l4] [y0, y1] m Q ↔ CC d 23 [y1, y0] m (jK d 19 16 [l0, l1, l2, l3, l4] [] Q) := A_callS0 hB_X2_take dX2_take_13 hO_X2_take fS_2_37 ⟨Nat.le_of_ble_eq_true rfl, Nat.le_of_ble_eq_true rfl⟩ rfl rfl
theorem dX2_take_16 : decode cX2_take 16 = .ok (.aload 4, 2) := by decide +kernel
theorem tX2_take_16 {d : Nat} {l0 l1 l2 l3 : Option Value} {x : Nat} {m : jmM} {Q : Option Value → jmM → Prop} : AW d 19 16 [l0, l1, l2, l3, some (.ref x)] [] m Q ↔ AW d 19 18 [l0, l1, l2, l3, some (.ref x)] [.ref x] m Q := A_aload hB_X2_take dX2_take_16 rfl
theorem dX2_take_18 : decode cX2_take 18 = .ok (.aload_n 0, 1) := by decide +kernel
theorem tX2_take_18 {d : Nat} {l1 l2 l3 l4 : Option Value} {v0 : Value} {x : Nat} {m : jmM} {Q : Option Value → jmM → Prop} : AW d 19 18 [some (.ref x), l1, l2, l3, l4] [v0] m Q ↔ AW d 19 19 [some (.ref x), l1, l2, l3, l4] [.ref x, v0] m Q := A_aload_n hB_X2_take dX2_take_18 rfl
theorem dX2_take_19 : decode cX2_take 19 = .ok (.getfield 22, 3) := by decide +kernel
theorem tX2_take_19 {d : Nat} {l0 l1 l2 l3 l4 : Option Value} {v1 : Value} {a : Nat} {m : jmM} {Q : Option Value → jmM → Prop} : AW d 19 19 [l0, l1, l2, l3, l4] [.ref a, v1] m Q ↔ (mS m a).1 = 2 ∧ AW d 19 22 [l0, l1, l2, l3, l4] [va_rf (mR m a 2), v1] m Q := A_getfield (f := fun m a => va_rf (mR m a 2)) hB_X2_take dX2_take_19 hO_X2_take fF_2_22 rfl
theorem dX2_take_22 : decode cX2_take 22 = .ok (.invokestatic 37, 3) := by decide +kernel
theorem tX2_take_22 {d : Nat} {l0 l1 l2 l3 l4 : Option Value} {y0 y1 : Value} {m : jmM} {Q : Option Value → jmM → Prop} : AW d 19 22 [l0, l1, l2, l3, l4] [y0, y1] m Q ↔ CC d 23 [y1, y0] m (jK d 19 25 [l0, l1, l2, l3, l4] [] Q) := A_callS0 hB_X2_take dX2_take_22 hO_X2_take fS_2_37 ⟨Nat.le_of_ble_eq_true rfl, Nat.le_of_ble_eq_true rfl⟩ rfl rfl
theorem dX2_take_25 : decode cX2_take 25 = .ok (.aload_n 0, 1) := by decide +kernel
theorem tX2_take_25 {d : Nat} {l1 l2 l3 l4 : Option Value} {x : Nat} {m : jmM} {Q : Option Value → jmM → Prop} : AW d 19 25 [some (.ref x), l1, l2, l3, l4] [] m Q ↔ AW d 19 26 [some (.ref x), l1, l2, l3, l4] [.ref x] m Q := A_aload_n hB_X2_take dX2_take_25 rfl
theorem dX2_take_26 : decode cX2_take 26 = .ok (.iload_n 2, 1) := by decide +kernel
theorem tX2_take_26 {d : Nat} {l0 l1 l3 l4 : Option Value} {v0 : Value} {x : Int32} {m : jmM} {Q : Option Value → jmM → Prop} : AW d 19 26 [l0, l1, some (.int x), l3, l4] [v0] m Q ↔ AW d 19 27 [l0, l1, some (.int x), l3, l4] [.int x, v0] m Q := A_iload_n hB_X2_take dX2_take_26 rfl
theorem dX2_take_27 : decode cX2_take 27 = .ok (.putfield 25, 3) := by decide +kernel
theorem tX2_take_27 {d : Nat} {l0 l1 l2 l3 l4 : Option Value} {x : Int32} {a : Nat} {m : jmM} {Q : Option Value → jmM → Prop} : AW d 19 27 [l0, l1, l2, l3, l4] [.int x, .ref a] m Q ↔ (mS m a).1 = 2 ∧ AW d 19 30 [l0, l1, l2, l3, l4] [] (cI m a (jup (mI m a) 3 x)) Q := A_putI hB_X2_take dX2_take_27 hO_X2_take fF_2_25 rfl (fun h => Bool.noConfusion h)
theorem dX2_take_30 : decode cX2_take 30 = .ok (.aload_n 0, 1) := by decide +kernel
theorem tX2_take_30 {d : Nat} {l1 l2 l3 l4 : Option Value} {x : Nat} {m : jmM} {Q : Option Value → jmM → Prop} : AW d 19 30 [some (.ref x), l1, l2, l3, l4] [] m Q ↔ AW d 19 31 [some (.ref x), l1, l2, l3, l4] [.ref x] m Q := A_aload_n hB_X2_take dX2_take_30 rfl
theorem dX2_take_31 : decode cX2_take 31 = .ok (.iconst 1, 1) := by decide +kernel
theorem tX2_take_31 {d : Nat} {l0 l1 l2 l3 l4 : Option Value} {v0 : Value} {m : jmM} {Q : Option Value → jmM → Prop} : AW d 19 31 [l0, l1, l2, l3, l4] [v0] m Q ↔ AW d 19 32 [l0, l1, l2, l3, l4] [.int 1, v0] m Q := A_iconst hB_X2_take dX2_take_31 (by decide)
theorem dX2_take_32 : decode cX2_take 32 = .ok (.putfield 29, 3) := by decide +kernel
theorem tX2_take_32 {d : Nat} {l0 l1 l2 l3 l4 : Option Value} {x : Int32} {a : Nat} {m : jmM} {Q : Option Value → jmM → Prop} : AW d 19 32 [l0, l1, l2, l3, l4] [.int x, .ref a] m Q ↔ ((mS m a).1 = 2 ∧ jBool x) ∧ AW d 19 35 [l0, l1, l2, l3, l4] [] (cI m a (jup (mI m a) 4 x)) Q := A_putZ hB_X2_take dX2_take_32 hO_X2_take fF_2_29 rfl (fun h => Bool.noConfusion h)
theorem dX2_take_35 : decode cX2_take 35 = .ok (.return_, 1) := by decide +kernel
theorem tX2_take_35 {d : Nat} {l0 l1 l2 l3 l4 : Option Value} {m : jmM} {Q : Option Value → jmM → Prop} : AW d 19 35 [l0, l1, l2, l3, l4] [] m Q ↔ Q none m := A_return hB_X2_take dX2_take_35 hR_X2_take
theorem hB_X2_giveBack : jB 20 = cX2_giveBack := rfl
theorem hO_X2_giveBack : jO 20 = 2 := rfl
theorem hR_X2_giveBack : jRt 20 = none := rfl
theorem nX2_giveBack (d : Nat) (x0 : Nat) (x1 : Nat) (x2 : Nat) (x3 : Nat) (m : jmM) (Q : Option Value → jmM → Prop) : CC (d + 1) 20 [.ref x0, .ref x1, .ref x2, .ref x3] m Q ↔ AW d 20 0 [some (.ref x0), some (.ref x1), some (.ref x2), some (.ref x3)] [] m Q := CC_body (Nat.le_of_ble_eq_true rfl)
theorem dX2_giveBack_0 : decode cX2_giveBack 0 = .ok (.aload_n 1, 1) := by decide +kernel
theorem tX2_giveBack_0 {d : Nat} {l0 l2 l3 : Option Value} {x : Nat} {m : jmM} {Q : Option Value → jmM → Prop} : AW d 20 0 [l0, some (.ref x), l2, l3] [] m Q ↔ AW d 20 1 [l0, some (.ref x), l2, l3] [.ref x] m Q := A_aload_n hB_X2_giveBack dX2_giveBack_0 rfl
theorem dX2_giveBack_1 : decode cX2_giveBack 1 = .ok (.aload_n 0, 1) := by decide +kernel
theorem tX2_giveBack_1 {d : Nat} {l1 l2 l3 : Option Value} {v0 : Value} {x : Nat} {m : jmM} {Q : Option Value → jmM → Prop} : AW d 20 1 [some (.ref x), l1, l2, l3] [v0] m Q ↔ AW d 20 2 [some (.ref x), l1, l2, l3] [.ref x, v0] m Q := A_aload_n hB_X2_giveBack dX2_giveBack_1 rfl
theorem dX2_giveBack_2 : decode cX2_giveBack 2 = .ok (.getfield 12, 3) := by decide +kernel
theorem tX2_giveBack_2 {d : Nat} {l0 l1 l2 l3 : Option Value} {v1 : Value} {a : Nat} {m : jmM} {Q : Option Value → jmM → Prop} : AW d 20 2 [l0, l1, l2, l3] [.ref a, v1] m Q ↔ (mS m a).1 = 2 ∧ AW d 20 5 [l0, l1, l2, l3] [va_rf (mR m a 0), v1] m Q := A_getfield (f := fun m a => va_rf (mR m a 0)) hB_X2_giveBack dX2_giveBack_2 hO_X2_giveBack fF_2_12 rfl
theorem dX2_giveBack_5 : decode cX2_giveBack 5 = .ok (.invokevirtual 33, 3) := by decide +kernel
theorem tX2_giveBack_5 {d : Nat} {l0 l1 l2 l3 : Option Value} {y0 : Value} {a : Nat} {m : jmM} {Q : Option Value → jmM → Prop} : AW d 20 5 [l0, l1, l2, l3] [y0, .ref a] m Q ↔ (mS m a).1 = 5 ∧ CC d 49 [.ref a, y0] m (jK d 20 8 [l0, l1, l2, l3] [] Q) := A_callV hB_X2_giveBack dX2_giveBack_5 hO_X2_giveBack fS_2_33 ⟨Nat.le_of_ble_eq_true rfl, Nat.le_of_ble_eq_true rfl⟩ rfl rfl rfl
theorem dX2_giveBack_8 : decode cX2_giveBack 8 = .ok (.aload_n 0, 1) := by decide +kernel
theorem tX2_giveBack_8 {d : Nat} {l1 l2 l3 : Option Value} {x : Nat} {m : jmM} {Q : Option Value → jmM → Prop} : AW d 20 8 [some (.ref x), l1, l2, l3] [] m Q ↔ AW d 20 9 [some (.ref x), l1, l2, l3] [.ref x] m Q := A_aload_n hB_X2_giveBack dX2_giveBack_8 rfl
theorem dX2_giveBack_9 : decode cX2_giveBack 9 = .ok (.getfield 18, 3) := by decide +kernel
theorem tX2_giveBack_9 {d : Nat} {l0 l1 l2 l3 : Option Value} {a : Nat} {m : jmM} {Q : Option Value → jmM → Prop} : AW d 20 9 [l0, l1, l2, l3] [.ref a] m Q ↔ (mS m a).1 = 2 ∧ AW d 20 12 [l0, l1, l2, l3] [va_rf (mR m a 1)] m Q := A_getfield (f := fun m a => va_rf (mR m a 1)) hB_X2_giveBack dX2_giveBack_9 hO_X2_giveBack fF_2_18 rfl
theorem dX2_giveBack_12 : decode cX2_giveBack 12 = .ok (.aload_n 2, 1) := by decide +kernel
theorem tX2_giveBack_12 {d : Nat} {l0 l1 l3 : Option Value} {v0 : Value} {x : Nat} {m : jmM} {Q : Option Value → jmM → Prop} : AW d 20 12 [l0, l1, some (.ref x), l3] [v0] m Q ↔ AW d 20 13 [l0, l1, some (.ref x), l3] [.ref x, v0] m Q := A_aload_n hB_X2_giveBack dX2_giveBack_12 rfl
theorem dX2_giveBack_13 : decode cX2_giveBack 13 = .ok (.invokestatic 37, 3) := by decide +kernel
theorem tX2_giveBack_13 {d : Nat} {l0 l1 l2 l3 : Option Value} {y0 y1 : Value} {m : jmM} {Q : Option Value → jmM → Prop} : AW d 20 13 [l0, l1, l2, l3] [y0, y1] m Q ↔ CC d 23 [y1, y0] m (jK d 20 16 [l0, l1, l2, l3] [] Q) := A_callS0 hB_X2_giveBack dX2_giveBack_13 hO_X2_giveBack fS_2_37 ⟨Nat.le_of_ble_eq_true rfl, Nat.le_of_ble_eq_true rfl⟩ rfl rfl
theorem dX2_giveBack_16 : decode cX2_giveBack 16 = .ok (.aload_n 0, 1) := by decide +kernel
theorem tX2_giveBack_16 {d : Nat} {l1 l2 l3 : Option Value} {x : Nat} {m : jmM} {Q : Option Value → jmM → Prop} : AW d 20 16 [some (.ref x), l1, l2, l3] [] m Q ↔ AW d 20 17 [some (.ref x), l1, l2, l3] [.ref x] m Q := A_aload_n hB_X2_giveBack dX2_giveBack_16 rfl
theorem dX2_giveBack_17 : decode cX2_giveBack 17 = .ok (.getfield 22, 3) := by decide +kernel
theorem tX2_giveBack_17 {d : Nat} {l0 l1 l2 l3 : Option Value} {a : Nat} {m : jmM} {Q : Option Value → jmM → Prop} : AW d 20 17 [l0, l1, l2, l3] [.ref a] m Q ↔ (mS m a).1 = 2 ∧ AW d 20 20 [l0, l1, l2, l3] [va_rf (mR m a 2)] m Q := A_getfield (f := fun m a => va_rf (mR m a 2)) hB_X2_giveBack dX2_giveBack_17 hO_X2_giveBack fF_2_22 rfl
theorem dX2_giveBack_20 : decode cX2_giveBack 20 = .ok (.aload_n 3, 1) := by decide +kernel
theorem tX2_giveBack_20 {d : Nat} {l0 l1 l2 : Option Value} {v0 : Value} {x : Nat} {m : jmM} {Q : Option Value → jmM → Prop} : AW d 20 20 [l0, l1, l2, some (.ref x)] [v0] m Q ↔ AW d 20 21 [l0, l1, l2, some (.ref x)] [.ref x, v0] m Q := A_aload_n hB_X2_giveBack dX2_giveBack_20 rfl
theorem dX2_giveBack_21 : decode cX2_giveBack 21 = .ok (.invokestatic 37, 3) := by decide +kernel
theorem tX2_giveBack_21 {d : Nat} {l0 l1 l2 l3 : Option Value} {y0 y1 : Value} {m : jmM} {Q : Option Value → jmM → Prop} : AW d 20 21 [l0, l1, l2, l3] [y0, y1] m Q ↔ CC d 23 [y1, y0] m (jK d 20 24 [l0, l1, l2, l3] [] Q) := A_callS0 hB_X2_giveBack dX2_giveBack_21 hO_X2_giveBack fS_2_37 ⟨Nat.le_of_ble_eq_true rfl, Nat.le_of_ble_eq_true rfl⟩ rfl rfl
theorem dX2_giveBack_24 : decode cX2_giveBack 24 = .ok (.return_, 1) := by decide +kernel
theorem tX2_giveBack_24 {d : Nat} {l0 l1 l2 l3 : Option Value} {m : jmM} {Q : Option Value → jmM → Prop} : AW d 20 24 [l0, l1, l2, l3] [] m Q ↔ Q none m := A_return hB_X2_giveBack dX2_giveBack_24 hR_X2_giveBack
theorem hB_X2_isMade : jB 21 = cX2_isMade := rfl
theorem hO_X2_isMade : jO 21 = 2 := rfl
theorem hR_X2_isMade : jRt 21 = (some .boolean) := rfl
theorem nX2_isMade (d : Nat) (x0 : Nat) (m : jmM) (Q : Option Value → jmM → Prop) : CC (d + 1) 21 [.ref x0] m Q ↔ AW d 21 0 [some (.ref x0)] [] m Q := CC_body (Nat.le_of_ble_eq_true rfl)
theorem dX2_isMade_0 : decode cX2_isMade 0 = .ok (.aload_n 0, 1) := by decide +kernel
theorem tX2_isMade_0 {d : Nat} {x : Nat} {m : jmM} {Q : Option Value → jmM → Prop} : AW d 21 0 [some (.ref x)] [] m Q ↔ AW d 21 1 [some (.ref x)] [.ref x] m Q := A_aload_n hB_X2_isMade dX2_isMade_0 rfl
theorem dX2_isMade_1 : decode cX2_isMade 1 = .ok (.getfield 29, 3) := by decide +kernel
theorem tX2_isMade_1 {d : Nat} {l0 : Option Value} {a : Nat} {m : jmM} {Q : Option Value → jmM → Prop} : AW d 21 1 [l0] [.ref a] m Q ↔ (mS m a).1 = 2 ∧ AW d 21 4 [l0] [.int (mI m a 4)] m Q := A_getfield (f := fun m a => .int (mI m a 4)) hB_X2_isMade dX2_isMade_1 hO_X2_isMade fF_2_29 rfl
theorem dX2_isMade_4 : decode cX2_isMade 4 = .ok (.ireturn, 1) := by decide +kernel
theorem tX2_isMade_4 {d : Nat} {l0 : Option Value} {x : Int32} {m : jmM} {Q : Option Value → jmM → Prop} : AW d 21 4 [l0] [.int x] m Q ↔ jBool x ∧ Q (some (.int x)) m := A_zreturn hB_X2_isMade dX2_isMade_4 hR_X2_isMade
theorem hB_X2_thinThen : jB 22 = cX2_thinThen := rfl
theorem hO_X2_thinThen : jO 22 = 2 := rfl
theorem hR_X2_thinThen : jRt 22 = (some .int) := rfl
theorem nX2_thinThen (d : Nat) (x0 : Nat) (m : jmM) (Q : Option Value → jmM → Prop) : CC (d + 1) 22 [.ref x0] m Q ↔ AW d 22 0 [some (.ref x0)] [] m Q := CC_body (Nat.le_of_ble_eq_true rfl)
theorem dX2_thinThen_0 : decode cX2_thinThen 0 = .ok (.aload_n 0, 1) := by decide +kernel
theorem tX2_thinThen_0 {d : Nat} {x : Nat} {m : jmM} {Q : Option Value → jmM → Prop} : AW d 22 0 [some (.ref x)] [] m Q ↔ AW d 22 1 [some (.ref x)] [.ref x] m Q := A_aload_n hB_X2_thinThen dX2_thinThen_0 rfl
theorem dX2_thinThen_1 : decode cX2_thinThen 1 = .ok (.getfield 25, 3) := by decide +kernel
theorem tX2_thinThen_1 {d : Nat} {l0 : Option Value} {a : Nat} {m : jmM} {Q : Option Value → jmM → Prop} : AW d 22 1 [l0] [.ref a] m Q ↔ (mS m a).1 = 2 ∧ AW d 22 4 [l0] [.int (mI m a 3)] m Q := A_getfield (f := fun m a => .int (mI m a 3)) hB_X2_thinThen dX2_thinThen_1 hO_X2_thinThen fF_2_25 rfl
theorem dX2_thinThen_4 : decode cX2_thinThen 4 = .ok (.ireturn, 1) := by decide +kernel
theorem tX2_thinThen_4 {d : Nat} {l0 : Option Value} {x : Int32} {m : jmM} {Q : Option Value → jmM → Prop} : AW d 22 4 [l0] [.int x] m Q ↔ Q (some (.int x)) m := A_ireturn hB_X2_thinThen dX2_thinThen_4 hR_X2_thinThen
theorem hB_X2_copyStuffs : jB 23 = cX2_copyStuffs := rfl
theorem hO_X2_copyStuffs : jO 23 = 2 := rfl
theorem hR_X2_copyStuffs : jRt 23 = none := rfl
theorem nX2_copyStuffs (d : Nat) (x0 : Nat) (x1 : Nat) (m : jmM) (Q : Option Value → jmM → Prop) : CC (d + 1) 23 [.ref x0, .ref x1] m Q ↔ AW d 23 0 [some (.ref x0), some (.ref x1), none] [] m Q := CC_body (Nat.le_of_ble_eq_true rfl)
theorem dX2_copyStuffs_0 : decode cX2_copyStuffs 0 = .ok (.iconst 0, 1) := by decide +kernel
theorem tX2_copyStuffs_0 {d : Nat} {l0 l1 l2 : Option Value} {m : jmM} {Q : Option Value → jmM → Prop} : AW d 23 0 [l0, l1, l2] [] m Q ↔ AW d 23 1 [l0, l1, l2] [.int 0] m Q := A_iconst hB_X2_copyStuffs dX2_copyStuffs_0 (by decide)
theorem dX2_copyStuffs_1 : decode cX2_copyStuffs 1 = .ok (.istore_n 2, 1) := by decide +kernel
theorem tX2_copyStuffs_1 {d : Nat} {l0 l1 l2 : Option Value} {x : Int32} {m : jmM} {Q : Option Value → jmM → Prop} : AW d 23 1 [l0, l1, l2] [.int x] m Q ↔ AW d 23 2 [l0, jc1 l1, some (.int x)] [] m Q := A_istore_n hB_X2_copyStuffs dX2_copyStuffs_1 (Nat.le_of_ble_eq_true rfl) rfl
theorem dX2_copyStuffs_2 : decode cX2_copyStuffs 2 = .ok (.iload_n 2, 1) := by decide +kernel
theorem tX2_copyStuffs_2 {d : Nat} {l0 l1 : Option Value} {x : Int32} {m : jmM} {Q : Option Value → jmM → Prop} : AW d 23 2 [l0, l1, some (.int x)] [] m Q ↔ AW d 23 3 [l0, l1, some (.int x)] [.int x] m Q := A_iload_n hB_X2_copyStuffs dX2_copyStuffs_2 rfl
theorem dX2_copyStuffs_3 : decode cX2_copyStuffs 3 = .ok (.aload_n 0, 1) := by decide +kernel
theorem tX2_copyStuffs_3 {d : Nat} {l1 l2 : Option Value} {v0 : Value} {x : Nat} {m : jmM} {Q : Option Value → jmM → Prop} : AW d 23 3 [some (.ref x), l1, l2] [v0] m Q ↔ AW d 23 4 [some (.ref x), l1, l2] [.ref x, v0] m Q := A_aload_n hB_X2_copyStuffs dX2_copyStuffs_3 rfl
theorem dX2_copyStuffs_4 : decode cX2_copyStuffs 4 = .ok (.arraylength, 1) := by decide +kernel
theorem tX2_copyStuffs_4 {d : Nat} {l0 l1 l2 : Option Value} {v1 : Value} {a : Nat} {m : jmM} {Q : Option Value → jmM → Prop} : AW d 23 4 [l0, l1, l2] [.ref a, v1] m Q ↔ ((20 ≤ (mS m a).1 ∧ (mS m a).1 ≤ 26) ∨ a = jScr) ∧ AW d 23 5 [l0, l1, l2] [.int (nI (mS m a).2), v1] m Q := A_arraylength hB_X2_copyStuffs dX2_copyStuffs_4
theorem dX2_copyStuffs_5 : decode cX2_copyStuffs 5 = .ok (.if_icmp .ge 21, 3) := by decide +kernel
theorem tX2_copyStuffs_5 {d : Nat} {l0 l1 l2 : Option Value} {x y : Int32} {m : jmM} {Q : Option Value → jmM → Prop} : AW d 23 5 [l0, l1, l2] [.int y, .int x] m Q ↔ if y ≤ x then AW d 23 26 [l0, l1, l2] [] m Q else AW d 23 8 [l0, l1, l2] [] m Q := A_icmp_ge hB_X2_copyStuffs dX2_copyStuffs_5 (by decide)
theorem dX2_copyStuffs_8 : decode cX2_copyStuffs 8 = .ok (.iload_n 2, 1) := by decide +kernel
theorem tX2_copyStuffs_8 {d : Nat} {l0 l1 : Option Value} {x : Int32} {m : jmM} {Q : Option Value → jmM → Prop} : AW d 23 8 [l0, l1, some (.int x)] [] m Q ↔ AW d 23 9 [l0, l1, some (.int x)] [.int x] m Q := A_iload_n hB_X2_copyStuffs dX2_copyStuffs_8 rfl
theorem dX2_copyStuffs_9 : decode cX2_copyStuffs 9 = .ok (.aload_n 1, 1) := by decide +kernel
theorem tX2_copyStuffs_9 {d : Nat} {l0 l2 : Option Value} {v0 : Value} {x : Nat} {m : jmM} {Q : Option Value → jmM → Prop} : AW d 23 9 [l0, some (.ref x), l2] [v0] m Q ↔ AW d 23 10 [l0, some (.ref x), l2] [.ref x, v0] m Q := A_aload_n hB_X2_copyStuffs dX2_copyStuffs_9 rfl
theorem dX2_copyStuffs_10 : decode cX2_copyStuffs 10 = .ok (.arraylength, 1) := by decide +kernel
theorem tX2_copyStuffs_10 {d : Nat} {l0 l1 l2 : Option Value} {v1 : Value} {a : Nat} {m : jmM} {Q : Option Value → jmM → Prop} : AW d 23 10 [l0, l1, l2] [.ref a, v1] m Q ↔ ((20 ≤ (mS m a).1 ∧ (mS m a).1 ≤ 26) ∨ a = jScr) ∧ AW d 23 11 [l0, l1, l2] [.int (nI (mS m a).2), v1] m Q := A_arraylength hB_X2_copyStuffs dX2_copyStuffs_10
theorem dX2_copyStuffs_11 : decode cX2_copyStuffs 11 = .ok (.if_icmp .ge 15, 3) := by decide +kernel
theorem tX2_copyStuffs_11 {d : Nat} {l0 l1 l2 : Option Value} {x y : Int32} {m : jmM} {Q : Option Value → jmM → Prop} : AW d 23 11 [l0, l1, l2] [.int y, .int x] m Q ↔ if y ≤ x then AW d 23 26 [l0, l1, l2] [] m Q else AW d 23 14 [l0, l1, l2] [] m Q := A_icmp_ge hB_X2_copyStuffs dX2_copyStuffs_11 (by decide)
theorem dX2_copyStuffs_14 : decode cX2_copyStuffs 14 = .ok (.aload_n 1, 1) := by decide +kernel
theorem tX2_copyStuffs_14 {d : Nat} {l0 l2 : Option Value} {x : Nat} {m : jmM} {Q : Option Value → jmM → Prop} : AW d 23 14 [l0, some (.ref x), l2] [] m Q ↔ AW d 23 15 [l0, some (.ref x), l2] [.ref x] m Q := A_aload_n hB_X2_copyStuffs dX2_copyStuffs_14 rfl
theorem dX2_copyStuffs_15 : decode cX2_copyStuffs 15 = .ok (.iload_n 2, 1) := by decide +kernel
theorem tX2_copyStuffs_15 {d : Nat} {l0 l1 : Option Value} {v0 : Value} {x : Int32} {m : jmM} {Q : Option Value → jmM → Prop} : AW d 23 15 [l0, l1, some (.int x)] [v0] m Q ↔ AW d 23 16 [l0, l1, some (.int x)] [.int x, v0] m Q := A_iload_n hB_X2_copyStuffs dX2_copyStuffs_15 rfl
theorem dX2_copyStuffs_16 : decode cX2_copyStuffs 16 = .ok (.aload_n 0, 1) := by decide +kernel
theorem tX2_copyStuffs_16 {d : Nat} {l1 l2 : Option Value} {v0 v1 : Value} {x : Nat} {m : jmM} {Q : Option Value → jmM → Prop} : AW d 23 16 [some (.ref x), l1, l2] [v0, v1] m Q ↔ AW d 23 17 [some (.ref x), l1, l2] [.ref x, v0, v1] m Q := A_aload_n hB_X2_copyStuffs dX2_copyStuffs_16 rfl
theorem dX2_copyStuffs_17 : decode cX2_copyStuffs 17 = .ok (.iload_n 2, 1) := by decide +kernel
theorem tX2_copyStuffs_17 {d : Nat} {l0 l1 : Option Value} {v0 v1 v2 : Value} {x : Int32} {m : jmM} {Q : Option Value → jmM → Prop} : AW d 23 17 [l0, l1, some (.int x)] [v0, v1, v2] m Q ↔ AW d 23 18 [l0, l1, some (.int x)] [.int x, v0, v1, v2] m Q := A_iload_n hB_X2_copyStuffs dX2_copyStuffs_17 rfl
theorem dX2_copyStuffs_18 : decode cX2_copyStuffs 18 = .ok (.iaload, 1) := by decide +kernel
theorem tX2_copyStuffs_18 {d : Nat} {l0 l1 l2 : Option Value} {v2 v3 : Value} {i : Int32} {a : Nat} {m : jmM} {Q : Option Value → jmM → Prop} : AW d 23 18 [l0, l1, l2] [.int i, .ref a, v2, v3] m Q ↔ (((mS m a).1 = 20 ∨ a = jScr) ∧ jIx i (mS m a).2) ∧ AW d 23 19 [l0, l1, l2] [.int (mI m a (jx i)), v2, v3] m Q := A_iaload hB_X2_copyStuffs dX2_copyStuffs_18
theorem dX2_copyStuffs_19 : decode cX2_copyStuffs 19 = .ok (.iastore, 1) := by decide +kernel
theorem tX2_copyStuffs_19 {d : Nat} {l0 l1 l2 : Option Value} {x i : Int32} {a : Nat} {m : jmM} {Q : Option Value → jmM → Prop} : AW d 23 19 [l0, l1, l2] [.int x, .int i, .ref a] m Q ↔ ((mS m a).1 = 20 ∧ jIx i (mS m a).2) ∧ AW d 23 20 [l0, l1, l2] [] (cI m a (jup (mI m a) (jx i) x)) Q := A_iastore hB_X2_copyStuffs dX2_copyStuffs_19
theorem dX2_copyStuffs_20 : decode cX2_copyStuffs 20 = .ok (.iinc 2 1, 3) := by decide +kernel
theorem tX2_copyStuffs_20 {d : Nat} {l0 l1 : Option Value} {x : Int32} {m : jmM} {Q : Option Value → jmM → Prop} : AW d 23 20 [l0, l1, some (.int x)] [] m Q ↔ AW d 23 23 [l0, jc1 l1, some (.int (x + 1))] [] m Q := A_iinc hB_X2_copyStuffs dX2_copyStuffs_20 rfl (Nat.le_of_ble_eq_true rfl) (v := 1) (by decide) rfl
theorem dX2_copyStuffs_23 : decode cX2_copyStuffs 23 = .ok (.goto (-21), 3) := by decide +kernel
theorem tX2_copyStuffs_23 {d : Nat} {l0 l1 l2 : Option Value} {m : jmM} {Q : Option Value → jmM → Prop} : AW d 23 23 [l0, l1, l2] [] m Q ↔ AW d 23 2 [l0, l1, l2] [] m Q := A_goto hB_X2_copyStuffs dX2_copyStuffs_23 (by decide)
theorem dX2_copyStuffs_26 : decode cX2_copyStuffs 26 = .ok (.return_, 1) := by decide +kernel
theorem tX2_copyStuffs_26 {d : Nat} {l0 l1 l2 : Option Value} {m : jmM} {Q : Option Value → jmM → Prop} : AW d 23 26 [l0, l1, l2] [] m Q ↔ Q none m := A_return hB_X2_copyStuffs dX2_copyStuffs_26 hR_X2_copyStuffs
