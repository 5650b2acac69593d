/-! steps of PulledCrystal$Laws, by program -/
theorem hB_X4_init : jB 41 = cX4_init := rfl
theorem hO_X4_init : jO 41 = 4 := rfl
theorem hR_X4_init : jRt 41 = none := rfl
theorem nX4_init (d : Nat) (x0 : Nat) (x1 : Int32) (m : jmM) (Q : Option Value → jmM → Prop) : CC (d + 1) 41 [.ref x0, .int x1] m Q ↔ AW d 41 0 [some (.ref x0), some (.int x1), none] [] m Q := CC_body (Nat.le_of_ble_eq_true rfl)
theorem dX4_init_0 : decode cX4_init 0 = .ok (.aload_n 0, 1) := by decide +kernel
theorem tX4_init_0 {d : Nat} {l1 l2 : Option Value} {x : Nat} {m : jmM} {Q : Option Value → jmM → Prop} : AW d 41 0 [some (.ref x), l1, l2] [] m Q ↔ AW d 41 1 [some (.ref x), l1, l2] [.ref x] m Q := A_aload_n hB_X4_init dX4_init_0 rfl
theorem dX4_init_1 : decode cX4_init 1 = .ok (.invokespecial 3, 3) := by decide +kernel
theorem tX4_init_1 {d : Nat} {l0 l1 l2 : Option Value} {a : Nat} {m : jmM} {Q : Option Value → jmM → Prop} : AW d 41 1 [l0, l1, l2] [.ref a] m Q ↔ AW d 41 4 [l0, l1, l2] [] m Q := A_obj hB_X4_init dX4_init_1 hO_X4_init fS_4_3 (Nat.le_of_ble_eq_true rfl)
theorem dX4_init_4 : decode cX4_init 4 = .ok (.aload_n 0, 1) := by decide +kernel
theorem tX4_init_4 {d : Nat} {l1 l2 : Option Value} {x : Nat} {m : jmM} {Q : Option Value → jmM → Prop} : AW d 41 4 [some (.ref x), l1, l2] [] m Q ↔ AW d 41 5 [some (.ref x), l1, l2] [.ref x] m Q := A_aload_n hB_X4_init dX4_init_4 rfl
theorem dX4_init_5 : decode cX4_init 5 = .ok (.iconst 0, 1) := by decide +kernel
theorem tX4_init_5 {d : Nat} {l0 l1 l2 : Option Value} {v0 : Value} {m : jmM} {Q : Option Value → jmM → Prop} : AW d 41 5 [l0, l1, l2] [v0] m Q ↔ AW d 41 6 [l0, l1, l2] [.int 0, v0] m Q := A_iconst hB_X4_init dX4_init_5 (by decide)
theorem dX4_init_6 : decode cX4_init 6 = .ok (.putfield 9, 3) := by decide +kernel
theorem tX4_init_6 {d : Nat} {l0 l1 l2 : Option Value} {x : Int32} {a : Nat} {m : jmM} {Q : Option Value → jmM → Prop} : AW d 41 6 [l0, l1, l2] [.int x, .ref a] m Q ↔ (mS m a).1 = 4 ∧ AW d 41 9 [l0, l1, l2] [] (cI m a (jup (mI m a) 1 x)) Q := A_putI hB_X4_init dX4_init_6 hO_X4_init fF_4_9 rfl (fun h => Bool.noConfusion h)
theorem dX4_init_9 : decode cX4_init 9 = .ok (.aload_n 0, 1) := by decide +kernel
theorem tX4_init_9 {d : Nat} {l1 l2 : Option Value} {x : Nat} {m : jmM} {Q : Option Value → jmM → Prop} : AW d 41 9 [some (.ref x), l1, l2] [] m Q ↔ AW d 41 10 [some (.ref x), l1, l2] [.ref x] m Q := A_aload_n hB_X4_init dX4_init_9 rfl
theorem dX4_init_10 : decode cX4_init 10 = .ok (.iconst 0, 1) := by decide +kernel
theorem tX4_init_10 {d : Nat} {l0 l1 l2 : Option Value} {v0 : Value} {m : jmM} {Q : Option Value → jmM → Prop} : AW d 41 10 [l0, l1, l2] [v0] m Q ↔ AW d 41 11 [l0, l1, l2] [.int 0, v0] m Q := A_iconst hB_X4_init dX4_init_10 (by decide)
theorem dX4_init_11 : decode cX4_init 11 = .ok (.iload_n 1, 1) := by decide +kernel
theorem tX4_init_11 {d : Nat} {l0 l2 : Option Value} {v0 v1 : Value} {x : Int32} {m : jmM} {Q : Option Value → jmM → Prop} : AW d 41 11 [l0, some (.int x), l2] [v0, v1] m Q ↔ AW d 41 12 [l0, some (.int x), l2] [.int x, v0, v1] m Q := A_iload_n hB_X4_init dX4_init_11 rfl
theorem dX4_init_12 : decode cX4_init 12 = .ok (.invokestatic 15, 3) := by decide +kernel
theorem tX4_init_12 {d : Nat} {l0 l1 l2 : Option Value} {v2 : Value} {x y : Int32} {m : jmM} {Q : Option Value → jmM → Prop} : AW d 41 12 [l0, l1, l2] [.int y, .int x, v2] m Q ↔ AW d 41 15 [l0, l1, l2] [.int (if x < y then y else x), v2] m Q := A_max hB_X4_init dX4_init_12 hO_X4_init fS_4_15 (Nat.le_of_ble_eq_true rfl)
theorem dX4_init_15 : decode cX4_init 15 = .ok (.anewarray 21, 3) := by decide +kernel
theorem tX4_init_15 {d : Nat} {l0 l1 l2 : Option Value} {v1 : Value} {x : Int32} {m : jmM} {Q : Option Value → jmM → Prop} : AW d 41 15 [l0, l1, l2] [.int x, v1] m Q ↔ (0 ≤ x.toInt ∧ x.toInt ≤ 100000) ∧ AW d 41 18 [l0, l1, l2] [.ref (mN m), v1] (jNew m 24 (jx x)) Q := A_anewarray hB_X4_init dX4_init_15 hO_X4_init fA_4_21
theorem dX4_init_18 : decode cX4_init 18 = .ok (.putfield 23, 3) := by decide +kernel
theorem tX4_init_18 {d : Nat} {l0 l1 l2 : Option Value} {x a : Nat} {m : jmM} {Q : Option Value → jmM → Prop} : AW d 41 18 [l0, l1, l2] [.ref x, .ref a] m Q ↔ (mS m a).1 = 4 ∧ AW d 41 21 [l0, l1, l2] [] (cR m a (jup (mR m a) 0 (some x))) Q := A_putR hB_X4_init dX4_init_18 hO_X4_init fF_4_23 rfl (fun _ => ⟨rfl, rfl⟩)
theorem tX4_init_18q {d : Nat} {l0 l1 l2 : Option Value} {x : Option Nat} {a : Nat} {m : jmM} {Q : Option Value → jmM → Prop} : AW d 41 18 [l0, l1, l2] [va_rf x, .ref a] m Q ↔ (mS m a).1 = 4 ∧ AW d 41 21 [l0, l1, l2] [] (cR m a (jup (mR m a) 0 x)) Q := A_putQ hB_X4_init dX4_init_18 hO_X4_init fF_4_23 rfl (fun _ => ⟨rfl, rfl⟩)
theorem tX4_init_18n {d : Nat} {l0 l1 l2 : Option Value} {a : Nat} {m : jmM} {Q : Option Value → jmM → Prop} : AW d 41 18 [l0, l1, l2] [.null, .ref a] m Q ↔ (mS m a).1 = 4 ∧ AW d 41 21 [l0, l1, l2] [] (cR m a (jup (mR m a) 0 none)) Q := A_putQ (x := none) hB_X4_init dX4_init_18 hO_X4_init fF_4_23 rfl (fun _ => ⟨rfl, rfl⟩)
theorem dX4_init_21 : decode cX4_init 21 = .ok (.iconst 0, 1) := by decide +kernel
theorem tX4_init_21 {d : Nat} {l0 l1 l2 : Option Value} {m : jmM} {Q : Option Value → jmM → Prop} : AW d 41 21 [l0, l1, l2] [] m Q ↔ AW d 41 22 [l0, l1, l2] [.int 0] m Q := A_iconst hB_X4_init dX4_init_21 (by decide)
theorem dX4_init_22 : decode cX4_init 22 = .ok (.istore_n 2, 1) := by decide +kernel
theorem tX4_init_22 {d : Nat} {l0 l1 l2 : Option Value} {x : Int32} {m : jmM} {Q : Option Value → jmM → Prop} : AW d 41 22 [l0, l1, l2] [.int x] m Q ↔ AW d 41 23 [l0, jc1 l1, some (.int x)] [] m Q := A_istore_n hB_X4_init dX4_init_22 (Nat.le_of_ble_eq_true rfl) rfl
theorem dX4_init_23 : decode cX4_init 23 = .ok (.iload_n 2, 1) := by decide +kernel
theorem tX4_init_23 {d : Nat} {l0 l1 : Option Value} {x : Int32} {m : jmM} {Q : Option Value → jmM → Prop} : AW d 41 23 [l0, l1, some (.int x)] [] m Q ↔ AW d 41 24 [l0, l1, some (.int x)] [.int x] m Q := A_iload_n hB_X4_init dX4_init_23 rfl
theorem dX4_init_24 : decode cX4_init 24 = .ok (.aload_n 0, 1) := by decide +kernel
theorem tX4_init_24 {d : Nat} {l1 l2 : Option Value} {v0 : Value} {x : Nat} {m : jmM} {Q : Option Value → jmM → Prop} : AW d 41 24 [some (.ref x), l1, l2] [v0] m Q ↔ AW d 41 25 [some (.ref x), l1, l2] [.ref x, v0] m Q := A_aload_n hB_X4_init dX4_init_24 rfl
theorem dX4_init_25 : decode cX4_init 25 = .ok (.getfield 23, 3) := by decide +kernel
theorem tX4_init_25 {d : Nat} {l0 l1 l2 : Option Value} {v1 : Value} {a : Nat} {m : jmM} {Q : Option Value → jmM → Prop} : AW d 41 25 [l0, l1, l2] [.ref a, v1] m Q ↔ (mS m a).1 = 4 ∧ AW d 41 28 [l0, l1, l2] [va_rf (mR m a 0), v1] m Q := A_getfield (f := fun m a => va_rf (mR m a 0)) hB_X4_init dX4_init_25 hO_X4_init fF_4_23 rfl
theorem dX4_init_28 : decode cX4_init 28 = .ok (.arraylength, 1) := by decide +kernel
theorem tX4_init_28 {d : Nat} {l0 l1 l2 : Option Value} {v1 : Value} {a : Nat} {m : jmM} {Q : Option Value → jmM → Prop} : AW d 41 28 [l0, l1, l2] [.ref a, v1] m Q ↔ ((20 ≤ (mS m a).1 ∧ (mS m a).1 ≤ 26) ∨ a = jScr) ∧ AW d 41 29 [l0, l1, l2] [.int (nI (mS m a).2), v1] m Q := A_arraylength hB_X4_init dX4_init_28
theorem dX4_init_29 : decode cX4_init 29 = .ok (.if_icmp .ge 22, 3) := by decide +kernel
theorem tX4_init_29 {d : Nat} {l0 l1 l2 : Option Value} {x y : Int32} {m : jmM} {Q : Option Value → jmM → Prop} : AW d 41 29 [l0, l1, l2] [.int y, .int x] m Q ↔ if y ≤ x then AW d 41 51 [l0, l1, l2] [] m Q else AW d 41 32 [l0, l1, l2] [] m Q := A_icmp_ge hB_X4_init dX4_init_29 (by decide)
theorem dX4_init_32 : decode cX4_init 32 = .ok (.aload_n 0, 1) := by decide +kernel
theorem tX4_init_32 {d : Nat} {l1 l2 : Option Value} {x : Nat} {m : jmM} {Q : Option Value → jmM → Prop} : AW d 41 32 [some (.ref x), l1, l2] [] m Q ↔ AW d 41 33 [some (.ref x), l1, l2] [.ref x] m Q := A_aload_n hB_X4_init dX4_init_32 rfl
theorem dX4_init_33 : decode cX4_init 33 = .ok (.getfield 23, 3) := by decide +kernel
theorem tX4_init_33 {d : Nat} {l0 l1 l2 : Option Value} {a : Nat} {m : jmM} {Q : Option Value → jmM → Prop} : AW d 41 33 [l0, l1, l2] [.ref a] m Q ↔ (mS m a).1 = 4 ∧ AW d 41 36 [l0, l1, l2] [va_rf (mR m a 0)] m Q := A_getfield (f := fun m a => va_rf (mR m a 0)) hB_X4_init dX4_init_33 hO_X4_init fF_4_23 rfl
theorem dX4_init_36 : decode cX4_init 36 = .ok (.iload_n 2, 1) := by decide +kernel
theorem tX4_init_36 {d : Nat} {l0 l1 : Option Value} {v0 : Value} {x : Int32} {m : jmM} {Q : Option Value → jmM → Prop} : AW d 41 36 [l0, l1, some (.int x)] [v0] m Q ↔ AW d 41 37 [l0, l1, some (.int x)] [.int x, v0] m Q := A_iload_n hB_X4_init dX4_init_36 rfl
theorem dX4_init_37 : decode cX4_init 37 = .ok (.new 21, 3) := by decide +kernel
theorem tX4_init_37 {d : Nat} {l0 l1 l2 : Option Value} {v0 v1 : Value} {m : jmM} {Q : Option Value → jmM → Prop} : AW d 41 37 [l0, l1, l2] [v0, v1] m Q ↔ AW d 41 40 [l0, l1, l2] [.ref (mN m), v0, v1] (jNew m 3 10) Q := A_new hB_X4_init dX4_init_37 hO_X4_init fN_4_21 rfl
theorem dX4_init_40 : decode cX4_init 40 = .ok (.dup, 1) := by decide +kernel
theorem tX4_init_40 {d : Nat} {l0 l1 l2 : Option Value} {v1 v2 : Value} {x : Nat} {m : jmM} {Q : Option Value → jmM → Prop} : AW d 41 40 [l0, l1, l2] [.ref x, v1, v2] m Q ↔ AW d 41 41 [l0, l1, l2] [.ref x, .ref x, v1, v2] m Q := A_dup_a hB_X4_init dX4_init_40
theorem dX4_init_41 : decode cX4_init 41 = .ok (.invokespecial 27, 3) := by decide +kernel
theorem tX4_init_41 {d : Nat} {l0 l1 l2 : Option Value} {v1 v2 v3 : Value} {a : Nat} {m : jmM} {Q : Option Value → jmM → Prop} : AW d 41 41 [l0, l1, l2] [.ref a, v1, v2, v3] m Q ↔ CC d 24 [.ref a] m (jK d 41 44 [l0, l1, l2] [v1, v2, v3] Q) := A_callI5 hB_X4_init dX4_init_41 hO_X4_init fS_4_27 ⟨Nat.le_of_ble_eq_true rfl, Nat.le_of_ble_eq_true rfl⟩ rfl rfl
theorem dX4_init_44 : decode cX4_init 44 = .ok (.aastore, 1) := by decide +kernel
theorem tX4_init_44 {d : Nat} {l0 l1 l2 : Option Value} {v a : Nat} {i : Int32} {m : jmM} {Q : Option Value → jmM → Prop} : AW d 41 44 [l0, l1, l2] [.ref v, .int i, .ref a] m Q ↔ (24 ≤ (mS m a).1 ∧ (mS m a).1 ≤ 26 ∧ (mS m v).1 = (if (mS m a).1 = 24 then 3 else if (mS m a).1 = 25 then 2 else 10) ∧ jIx i (mS m a).2) ∧ AW d 41 45 [l0, l1, l2] [] (cR m a (jup (mR m a) (jx i) (some v))) Q := A_aastore hB_X4_init dX4_init_44
theorem dX4_init_45 : decode cX4_init 45 = .ok (.iinc 2 1, 3) := by decide +kernel
theorem tX4_init_45 {d : Nat} {l0 l1 : Option Value} {x : Int32} {m : jmM} {Q : Option Value → jmM → Prop} : AW d 41 45 [l0, l1, some (.int x)] [] m Q ↔ AW d 41 48 [l0, jc1 l1, some (.int (x + 1))] [] m Q := A_iinc hB_X4_init dX4_init_45 rfl (Nat.le_of_ble_eq_true rfl) (v := 1) (by decide) rfl
theorem dX4_init_48 : decode cX4_init 48 = .ok (.goto (-25), 3) := by decide +kernel
theorem tX4_init_48 {d : Nat} {l0 l1 l2 : Option Value} {m : jmM} {Q : Option Value → jmM → Prop} : AW d 41 48 [l0, l1, l2] [] m Q ↔ AW d 41 23 [l0, l1, l2] [] m Q := A_goto hB_X4_init dX4_init_48 (by decide)
theorem dX4_init_51 : decode cX4_init 51 = .ok (.return_, 1) := by decide +kernel
theorem tX4_init_51 {d : Nat} {l0 l1 l2 : Option Value} {m : jmM} {Q : Option Value → jmM → Prop} : AW d 41 51 [l0, l1, l2] [] m Q ↔ Q none m := A_return hB_X4_init dX4_init_51 hR_X4_init
theorem hB_X4_size : jB 42 = cX4_size := rfl
theorem hO_X4_size : jO 42 = 4 := rfl
theorem hR_X4_size : jRt 42 = (some .int) := rfl
theorem nX4_size (d : Nat) (x0 : Nat) (m : jmM) (Q : Option Value → jmM → Prop) : CC (d + 1) 42 [.ref x0] m Q ↔ AW d 42 0 [some (.ref x0)] [] m Q := CC_body (Nat.le_of_ble_eq_true rfl)
theorem dX4_size_0 : decode cX4_size 0 = .ok (.aload_n 0, 1) := by decide +kernel
theorem tX4_size_0 {d : Nat} {x : Nat} {m : jmM} {Q : Option Value → jmM → Prop} : AW d 42 0 [some (.ref x)] [] m Q ↔ AW d 42 1 [some (.ref x)] [.ref x] m Q := A_aload_n hB_X4_size dX4_size_0 rfl
theorem dX4_size_1 : decode cX4_size 1 = .ok (.getfield 9, 3) := by decide +kernel
theorem tX4_size_1 {d : Nat} {l0 : Option Value} {a : Nat} {m : jmM} {Q : Option Value → jmM → Prop} : AW d 42 1 [l0] [.ref a] m Q ↔ (mS m a).1 = 4 ∧ AW d 42 4 [l0] [.int (mI m a 1)] m Q := A_getfield (f := fun m a => .int (mI m a 1)) hB_X4_size dX4_size_1 hO_X4_size fF_4_9 rfl
theorem dX4_size_4 : decode cX4_size 4 = .ok (.ireturn, 1) := by decide +kernel
theorem tX4_size_4 {d : Nat} {l0 : Option Value} {x : Int32} {m : jmM} {Q : Option Value → jmM → Prop} : AW d 42 4 [l0] [.int x] m Q ↔ Q (some (.int x)) m := A_ireturn hB_X4_size dX4_size_4 hR_X4_size
theorem hB_X4_isFull : jB 43 = cX4_isFull := rfl
theorem hO_X4_isFull : jO 43 = 4 := rfl
theorem hR_X4_isFull : jRt 43 = (some .boolean) := rfl
theorem nX4_isFull (d : Nat) (x0 : Nat) (m : jmM) (Q : Option Value → jmM → Prop) : CC (d + 1) 43 [.ref x0] m Q ↔ AW d 43 0 [some (.ref x0)] [] m Q := CC_body (Nat.le_of_ble_eq_true rfl)
theorem dX4_isFull_0 : decode cX4_isFull 0 = .ok (.aload_n 0, 1) := by decide +kernel
theorem tX4_isFull_0 {d : Nat} {x : Nat} {m : jmM} {Q : Option Value → jmM → Prop} : AW d 43 0 [some (.ref x)] [] m Q ↔ AW d 43 1 [some (.ref x)] [.ref x] m Q := A_aload_n hB_X4_isFull dX4_isFull_0 rfl
theorem dX4_isFull_1 : decode cX4_isFull 1 = .ok (.getfield 9, 3) := by decide +kernel
theorem tX4_isFull_1 {d : Nat} {l0 : Option Value} {a : Nat} {m : jmM} {Q : Option Value → jmM → Prop} : AW d 43 1 [l0] [.ref a] m Q ↔ (mS m a).1 = 4 ∧ AW d 43 4 [l0] [.int (mI m a 1)] m Q := A_getfield (f := fun m a => .int (mI m a 1)) hB_X4_isFull dX4_isFull_1 hO_X4_isFull fF_4_9 rfl
theorem dX4_isFull_4 : decode cX4_isFull 4 = .ok (.aload_n 0, 1) := by decide +kernel
theorem tX4_isFull_4 {d : Nat} {v0 : Value} {x : Nat} {m : jmM} {Q : Option Value → jmM → Prop} : AW d 43 4 [some (.ref x)] [v0] m Q ↔ AW d 43 5 [some (.ref x)] [.ref x, v0] m Q := A_aload_n hB_X4_isFull dX4_isFull_4 rfl
theorem dX4_isFull_5 : decode cX4_isFull 5 = .ok (.getfield 23, 3) := by decide +kernel
theorem tX4_isFull_5 {d : Nat} {l0 : Option Value} {v1 : Value} {a : Nat} {m : jmM} {Q : Option Value → jmM → Prop} : AW d 43 5 [l0] [.ref a, v1] m Q ↔ (mS m a).1 = 4 ∧ AW d 43 8 [l0] [va_rf (mR m a 0), v1] m Q := A_getfield (f := fun m a => va_rf (mR m a 0)) hB_X4_isFull dX4_isFull_5 hO_X4_isFull fF_4_23 rfl
theorem dX4_isFull_8 : decode cX4_isFull 8 = .ok (.arraylength, 1) := by decide +kernel
theorem tX4_isFull_8 {d : Nat} {l0 : Option Value} {v1 : Value} {a : Nat} {m : jmM} {Q : Option Value → jmM → Prop} : AW d 43 8 [l0] [.ref a, v1] m Q ↔ ((20 ≤ (mS m a).1 ∧ (mS m a).1 ≤ 26) ∨ a = jScr) ∧ AW d 43 9 [l0] [.int (nI (mS m a).2), v1] m Q := A_arraylength hB_X4_isFull dX4_isFull_8
theorem dX4_isFull_9 : decode cX4_isFull 9 = .ok (.if_icmp .lt 7, 3) := by decide +kernel
theorem tX4_isFull_9 {d : Nat} {l0 : Option Value} {x y : Int32} {m : jmM} {Q : Option Value → jmM → Prop} : AW d 43 9 [l0] [.int y, .int x] m Q ↔ if x < y then AW d 43 16 [l0] [] m Q else AW d 43 12 [l0] [] m Q := A_icmp_lt hB_X4_isFull dX4_isFull_9 (by decide)
theorem dX4_isFull_12 : decode cX4_isFull 12 = .ok (.iconst 1, 1) := by decide +kernel
theorem tX4_isFull_12 {d : Nat} {l0 : Option Value} {m : jmM} {Q : Option Value → jmM → Prop} : AW d 43 12 [l0] [] m Q ↔ AW d 43 13 [l0] [.int 1] m Q := A_iconst hB_X4_isFull dX4_isFull_12 (by decide)
theorem dX4_isFull_13 : decode cX4_isFull 13 = .ok (.goto 4, 3) := by decide +kernel
theorem tX4_isFull_13 {d : Nat} {l0 : Option Value} {v0 : Value} {m : jmM} {Q : Option Value → jmM → Prop} : AW d 43 13 [l0] [v0] m Q ↔ AW d 43 17 [l0] [v0] m Q := A_goto hB_X4_isFull dX4_isFull_13 (by decide)
theorem dX4_isFull_16 : decode cX4_isFull 16 = .ok (.iconst 0, 1) := by decide +kernel
theorem tX4_isFull_16 {d : Nat} {l0 : Option Value} {m : jmM} {Q : Option Value → jmM → Prop} : AW d 43 16 [l0] [] m Q ↔ AW d 43 17 [l0] [.int 0] m Q := A_iconst hB_X4_isFull dX4_isFull_16 (by decide)
theorem dX4_isFull_17 : decode cX4_isFull 17 = .ok (.ireturn, 1) := by decide +kernel
theorem tX4_isFull_17 {d : Nat} {l0 : Option Value} {x : Int32} {m : jmM} {Q : Option Value → jmM → Prop} : AW d 43 17 [l0] [.int x] m Q ↔ jBool x ∧ Q (some (.int x)) m := A_zreturn hB_X4_isFull dX4_isFull_17 hR_X4_isFull
theorem hB_X4_add : jB 44 = cX4_add := rfl
theorem hO_X4_add : jO 44 = 4 := rfl
theorem hR_X4_add : jRt 44 = (some .int) := rfl
theorem nX4_add (d : Nat) (x0 : Nat) (x1 : Nat) (m : jmM) (Q : Option Value → jmM → Prop) : CC (d + 1) 44 [.ref x0, .ref x1] m Q ↔ AW d 44 0 [some (.ref x0), some (.ref x1)] [] m Q := CC_body (Nat.le_of_ble_eq_true rfl)
theorem dX4_add_0 : decode cX4_add 0 = .ok (.aload_n 0, 1) := by decide +kernel
theorem tX4_add_0 {d : Nat} {l1 : Option Value} {x : Nat} {m : jmM} {Q : Option Value → jmM → Prop} : AW d 44 0 [some (.ref x), l1] [] m Q ↔ AW d 44 1 [some (.ref x), l1] [.ref x] m Q := A_aload_n hB_X4_add dX4_add_0 rfl
theorem dX4_add_1 : decode cX4_add 1 = .ok (.invokevirtual 28, 3) := by decide +kernel
theorem tX4_add_1 {d : Nat} {l0 l1 : Option Value} {a : Nat} {m : jmM} {Q : Option Value → jmM → Prop} : AW d 44 1 [l0, l1] [.ref a] m Q ↔ (mS m a).1 = 4 ∧ CC d 43 [.ref a] m (jK d 44 4 [l0, l1] [] Q) := A_callV hB_X4_add dX4_add_1 hO_X4_add fS_4_28 ⟨Nat.le_of_ble_eq_true rfl, Nat.le_of_ble_eq_true rfl⟩ rfl rfl rfl
theorem dX4_add_4 : decode cX4_add 4 = .ok (.ifCond .eq 5, 3) := by decide +kernel
theorem tX4_add_4 {d : Nat} {l0 l1 : Option Value} {x : Int32} {m : jmM} {Q : Option Value → jmM → Prop} : AW d 44 4 [l0, l1] [.int x] m Q ↔ if x = 0 then AW d 44 9 [l0, l1] [] m Q else AW d 44 7 [l0, l1] [] m Q := A_if_eq hB_X4_add dX4_add_4 (by decide)
theorem dX4_add_7 : decode cX4_add 7 = .ok (.iconst (-1), 1) := by decide +kernel
theorem tX4_add_7 {d : Nat} {l0 l1 : Option Value} {m : jmM} {Q : Option Value → jmM → Prop} : AW d 44 7 [l0, l1] [] m Q ↔ AW d 44 8 [l0, l1] [.int (-1)] m Q := A_iconst hB_X4_add dX4_add_7 (by decide)
theorem dX4_add_8 : decode cX4_add 8 = .ok (.ireturn, 1) := by decide +kernel
theorem tX4_add_8 {d : Nat} {l0 l1 : Option Value} {x : Int32} {m : jmM} {Q : Option Value → jmM → Prop} : AW d 44 8 [l0, l1] [.int x] m Q ↔ Q (some (.int x)) m := A_ireturn hB_X4_add dX4_add_8 hR_X4_add
theorem dX4_add_9 : decode cX4_add 9 = .ok (.aload_n 0, 1) := by decide +kernel
theorem tX4_add_9 {d : Nat} {l1 : Option Value} {x : Nat} {m : jmM} {Q : Option Value → jmM → Prop} : AW d 44 9 [some (.ref x), l1] [] m Q ↔ AW d 44 10 [some (.ref x), l1] [.ref x] m Q := A_aload_n hB_X4_add dX4_add_9 rfl
theorem dX4_add_10 : decode cX4_add 10 = .ok (.getfield 23, 3) := by decide +kernel
theorem tX4_add_10 {d : Nat} {l0 l1 : Option Value} {a : Nat} {m : jmM} {Q : Option Value → jmM → Prop} : AW d 44 10 [l0, l1] [.ref a] m Q ↔ (mS m a).1 = 4 ∧ AW d 44 13 [l0, l1] [va_rf (mR m a 0)] m Q := A_getfield (f := fun m a => va_rf (mR m a 0)) hB_X4_add dX4_add_10 hO_X4_add fF_4_23 rfl
theorem dX4_add_13 : decode cX4_add 13 = .ok (.aload_n 0, 1) := by decide +kernel
theorem tX4_add_13 {d : Nat} {l1 : Option Value} {v0 : Value} {x : Nat} {m : jmM} {Q : Option Value → jmM → Prop} : AW d 44 13 [some (.ref x), l1] [v0] m Q ↔ AW d 44 14 [some (.ref x), l1] [.ref x, v0] m Q := A_aload_n hB_X4_add dX4_add_13 rfl
theorem dX4_add_14 : decode cX4_add 14 = .ok (.getfield 9, 3) := by decide +kernel
theorem tX4_add_14 {d : Nat} {l0 l1 : Option Value} {v1 : Value} {a : Nat} {m : jmM} {Q : Option Value → jmM → Prop} : AW d 44 14 [l0, l1] [.ref a, v1] m Q ↔ (mS m a).1 = 4 ∧ AW d 44 17 [l0, l1] [.int (mI m a 1), v1] m Q := A_getfield (f := fun m a => .int (mI m a 1)) hB_X4_add dX4_add_14 hO_X4_add fF_4_9 rfl
theorem dX4_add_17 : decode cX4_add 17 = .ok (.aaload, 1) := by decide +kernel
theorem tX4_add_17 {d : Nat} {l0 l1 : Option Value} {i : Int32} {a : Nat} {m : jmM} {Q : Option Value → jmM → Prop} : AW d 44 17 [l0, l1] [.int i, .ref a] m Q ↔ (24 ≤ (mS m a).1 ∧ (mS m a).1 ≤ 26 ∧ jIx i (mS m a).2) ∧ AW d 44 18 [l0, l1] [va_rf (mR m a (jx i))] m Q := A_aaload hB_X4_add dX4_add_17
theorem dX4_add_18 : decode cX4_add 18 = .ok (.aload_n 1, 1) := by decide +kernel
theorem tX4_add_18 {d : Nat} {l0 : Option Value} {v0 : Value} {x : Nat} {m : jmM} {Q : Option Value → jmM → Prop} : AW d 44 18 [l0, some (.ref x)] [v0] m Q ↔ AW d 44 19 [l0, some (.ref x)] [.ref x, v0] m Q := A_aload_n hB_X4_add dX4_add_18 rfl
theorem dX4_add_19 : decode cX4_add 19 = .ok (.invokevirtual 32, 3) := by decide +kernel
theorem tX4_add_19 {d : Nat} {l0 l1 : Option Value} {y0 : Value} {a : Nat} {m : jmM} {Q : Option Value → jmM → Prop} : AW d 44 19 [l0, l1] [y0, .ref a] m Q ↔ (mS m a).1 = 3 ∧ CC d 26 [.ref a, y0] m (jK d 44 22 [l0, l1] [] Q) := A_callV hB_X4_add dX4_add_19 hO_X4_add fS_4_32 ⟨Nat.le_of_ble_eq_true rfl, Nat.le_of_ble_eq_true rfl⟩ rfl rfl rfl
theorem dX4_add_22 : decode cX4_add 22 = .ok (.aload_n 0, 1) := by decide +kernel
theorem tX4_add_22 {d : Nat} {l1 : Option Value} {x : Nat} {m : jmM} {Q : Option Value → jmM → Prop} : AW d 44 22 [some (.ref x), l1] [] m Q ↔ AW d 44 23 [some (.ref x), l1] [.ref x] m Q := A_aload_n hB_X4_add dX4_add_22 rfl
theorem dX4_add_23 : decode cX4_add 23 = .ok (.dup, 1) := by decide +kernel
theorem tX4_add_23 {d : Nat} {l0 l1 : Option Value} {x : Nat} {m : jmM} {Q : Option Value → jmM → Prop} : AW d 44 23 [l0, l1] [.ref x] m Q ↔ AW d 44 24 [l0, l1] [.ref x, .ref x] m Q := A_dup_a hB_X4_add dX4_add_23
theorem dX4_add_24 : decode cX4_add 24 = .ok (.getfield 9, 3) := by decide +kernel
theorem tX4_add_24 {d : Nat} {l0 l1 : Option Value} {v1 : Value} {a : Nat} {m : jmM} {Q : Option Value → jmM → Prop} : AW d 44 24 [l0, l1] [.ref a, v1] m Q ↔ (mS m a).1 = 4 ∧ AW d 44 27 [l0, l1] [.int (mI m a 1), v1] m Q := A_getfield (f := fun m a => .int (mI m a 1)) hB_X4_add dX4_add_24 hO_X4_add fF_4_9 rfl
theorem dX4_add_27 : decode cX4_add 27 = .ok (.iconst 1, 1) := by decide +kernel
theorem tX4_add_27 {d : Nat} {l0 l1 : Option Value} {v0 v1 : Value} {m : jmM} {Q : Option Value → jmM → Prop} : AW d 44 27 [l0, l1] [v0, v1] m Q ↔ AW d 44 28 [l0, l1] [.int 1, v0, v1] m Q := A_iconst hB_X4_add dX4_add_27 (by decide)
theorem dX4_add_28 : decode cX4_add 28 = .ok (.iadd, 1) := by decide +kernel
theorem tX4_add_28 {d : Nat} {l0 l1 : Option Value} {v2 : Value} {x y : Int32} {m : jmM} {Q : Option Value → jmM → Prop} : AW d 44 28 [l0, l1] [.int y, .int x, v2] m Q ↔ AW d 44 29 [l0, l1] [.int (x + y), v2] m Q := A_iadd hB_X4_add dX4_add_28
theorem dX4_add_29 : decode cX4_add 29 = .ok (.putfield 9, 3) := by decide +kernel
theorem tX4_add_29 {d : Nat} {l0 l1 : Option Value} {x : Int32} {a : Nat} {m : jmM} {Q : Option Value → jmM → Prop} : AW d 44 29 [l0, l1] [.int x, .ref a] m Q ↔ (mS m a).1 = 4 ∧ AW d 44 32 [l0, l1] [] (cI m a (jup (mI m a) 1 x)) Q := A_putI hB_X4_add dX4_add_29 hO_X4_add fF_4_9 rfl (fun h => Bool.noConfusion h)
theorem dX4_add_32 : decode cX4_add 32 = .ok (.aload_n 0, 1) := by decide +kernel
theorem tX4_add_32 {d : Nat} {l1 : Option Value} {x : Nat} {m : jmM} {Q : Option Value → jmM → Prop} : AW d 44 32 [some (.ref x), l1] [] m Q ↔ AW d 44 33 [some (.ref x), l1] [.ref x] m Q := A_aload_n hB_X4_add dX4_add_32 rfl
theorem dX4_add_33 : decode cX4_add 33 = .ok (.getfield 9, 3) := by decide +kernel
theorem tX4_add_33 {d : Nat} {l0 l1 : Option Value} {a : Nat} {m : jmM} {Q : Option Value → jmM → Prop} : AW d 44 33 [l0, l1] [.ref a] m Q ↔ (mS m a).1 = 4 ∧ AW d 44 36 [l0, l1] [.int (mI m a 1)] m Q := A_getfield (f := fun m a => .int (mI m a 1)) hB_X4_add dX4_add_33 hO_X4_add fF_4_9 rfl
theorem dX4_add_36 : decode cX4_add 36 = .ok (.iconst 1, 1) := by decide +kernel
theorem tX4_add_36 {d : Nat} {l0 l1 : Option Value} {v0 : Value} {m : jmM} {Q : Option Value → jmM → Prop} : AW d 44 36 [l0, l1] [v0] m Q ↔ AW d 44 37 [l0, l1] [.int 1, v0] m Q := A_iconst hB_X4_add dX4_add_36 (by decide)
theorem dX4_add_37 : decode cX4_add 37 = .ok (.isub, 1) := by decide +kernel
theorem tX4_add_37 {d : Nat} {l0 l1 : Option Value} {x y : Int32} {m : jmM} {Q : Option Value → jmM → Prop} : AW d 44 37 [l0, l1] [.int y, .int x] m Q ↔ AW d 44 38 [l0, l1] [.int (x - y)] m Q := A_isub hB_X4_add dX4_add_37
theorem dX4_add_38 : decode cX4_add 38 = .ok (.ireturn, 1) := by decide +kernel
theorem tX4_add_38 {d : Nat} {l0 l1 : Option Value} {x : Int32} {m : jmM} {Q : Option Value → jmM → Prop} : AW d 44 38 [l0, l1] [.int x] m Q ↔ Q (some (.int x)) m := A_ireturn hB_X4_add dX4_add_38 hR_X4_add
theorem hB_X4_find : jB 45 = cX4_find := rfl
theorem hO_X4_find : jO 45 = 4 := rfl
theorem hR_X4_find : jRt 45 = (some (.object "PulledCrystal$Law")) := rfl
theorem nX4_find (d : Nat) (x0 : Nat) (x1 : Int32) (m : jmM) (Q : Option Value → jmM → Prop) : CC (d + 1) 45 [.ref x0, .int x1] m Q ↔ AW d 45 0 [some (.ref x0), some (.int x1)] [] m Q := CC_body (Nat.le_of_ble_eq_true rfl)
theorem dX4_find_0 : decode cX4_find 0 = .ok (.iload_n 1, 1) := by decide +kernel
theorem tX4_find_0 {d : Nat} {l0 : Option Value} {x : Int32} {m : jmM} {Q : Option Value → jmM → Prop} : AW d 45 0 [l0, some (.int x)] [] m Q ↔ AW d 45 1 [l0, some (.int x)] [.int x] m Q := A_iload_n hB_X4_find dX4_find_0 rfl
theorem dX4_find_1 : decode cX4_find 1 = .ok (.ifCond .lt 29, 3) := by decide +kernel
theorem tX4_find_1 {d : Nat} {l0 l1 : Option Value} {x : Int32} {m : jmM} {Q : Option Value → jmM → Prop} : AW d 45 1 [l0, l1] [.int x] m Q ↔ if x < 0 then AW d 45 30 [l0, l1] [] m Q else AW d 45 4 [l0, l1] [] m Q := A_if_lt hB_X4_find dX4_find_1 (by decide)
theorem dX4_find_4 : decode cX4_find 4 = .ok (.iload_n 1, 1) := by decide +kernel
theorem tX4_find_4 {d : Nat} {l0 : Option Value} {x : Int32} {m : jmM} {Q : Option Value → jmM → Prop} : AW d 45 4 [l0, some (.int x)] [] m Q ↔ AW d 45 5 [l0, some (.int x)] [.int x] m Q := A_iload_n hB_X4_find dX4_find_4 rfl
theorem dX4_find_5 : decode cX4_find 5 = .ok (.aload_n 0, 1) := by decide +kernel
theorem tX4_find_5 {d : Nat} {l1 : Option Value} {v0 : Value} {x : Nat} {m : jmM} {Q : Option Value → jmM → Prop} : AW d 45 5 [some (.ref x), l1] [v0] m Q ↔ AW d 45 6 [some (.ref x), l1] [.ref x, v0] m Q := A_aload_n hB_X4_find dX4_find_5 rfl
theorem dX4_find_6 : decode cX4_find 6 = .ok (.getfield 9, 3) := by decide +kernel
theorem tX4_find_6 {d : Nat} {l0 l1 : Option Value} {v1 : Value} {a : Nat} {m : jmM} {Q : Option Value → jmM → Prop} : AW d 45 6 [l0, l1] [.ref a, v1] m Q ↔ (mS m a).1 = 4 ∧ AW d 45 9 [l0, l1] [.int (mI m a 1), v1] m Q := A_getfield (f := fun m a => .int (mI m a 1)) hB_X4_find dX4_find_6 hO_X4_find fF_4_9 rfl
theorem dX4_find_9 : decode cX4_find 9 = .ok (.if_icmp .ge 21, 3) := by decide +kernel
theorem tX4_find_9 {d : Nat} {l0 l1 : Option Value} {x y : Int32} {m : jmM} {Q : Option Value → jmM → Prop} : AW d 45 9 [l0, l1] [.int y, .int x] m Q ↔ if y ≤ x then AW d 45 30 [l0, l1] [] m Q else AW d 45 12 [l0, l1] [] m Q := A_icmp_ge hB_X4_find dX4_find_9 (by decide)
theorem dX4_find_12 : decode cX4_find 12 = .ok (.iload_n 1, 1) := by decide +kernel
theorem tX4_find_12 {d : Nat} {l0 : Option Value} {x : Int32} {m : jmM} {Q : Option Value → jmM → Prop} : AW d 45 12 [l0, some (.int x)] [] m Q ↔ AW d 45 13 [l0, some (.int x)] [.int x] m Q := A_iload_n hB_X4_find dX4_find_12 rfl
theorem dX4_find_13 : decode cX4_find 13 = .ok (.aload_n 0, 1) := by decide +kernel
theorem tX4_find_13 {d : Nat} {l1 : Option Value} {v0 : Value} {x : Nat} {m : jmM} {Q : Option Value → jmM → Prop} : AW d 45 13 [some (.ref x), l1] [v0] m Q ↔ AW d 45 14 [some (.ref x), l1] [.ref x, v0] m Q := A_aload_n hB_X4_find dX4_find_13 rfl
theorem dX4_find_14 : decode cX4_find 14 = .ok (.getfield 23, 3) := by decide +kernel
theorem tX4_find_14 {d : Nat} {l0 l1 : Option Value} {v1 : Value} {a : Nat} {m : jmM} {Q : Option Value → jmM → Prop} : AW d 45 14 [l0, l1] [.ref a, v1] m Q ↔ (mS m a).1 = 4 ∧ AW d 45 17 [l0, l1] [va_rf (mR m a 0), v1] m Q := A_getfield (f := fun m a => va_rf (mR m a 0)) hB_X4_find dX4_find_14 hO_X4_find fF_4_23 rfl
theorem dX4_find_17 : decode cX4_find 17 = .ok (.arraylength, 1) := by decide +kernel
theorem tX4_find_17 {d : Nat} {l0 l1 : Option Value} {v1 : Value} {a : Nat} {m : jmM} {Q : Option Value → jmM → Prop} : AW d 45 17 [l0, l1] [.ref a, v1] m Q ↔ ((20 ≤ (mS m a).1 ∧ (mS m a).1 ≤ 26) ∨ a = jScr) ∧ AW d 45 18 [l0, l1] [.int (nI (mS m a).2), v1] m Q := A_arraylength hB_X4_find dX4_find_17
theorem dX4_find_18 : decode cX4_find 18 = .ok (.if_icmp .ge 12, 3) := by decide +kernel
theorem tX4_find_18 {d : Nat} {l0 l1 : Option Value} {x y : Int32} {m : jmM} {Q : Option Value → jmM → Prop} : AW d 45 18 [l0, l1] [.int y, .int x] m Q ↔ if y ≤ x then AW d 45 30 [l0, l1] [] m Q else AW d 45 21 [l0, l1] [] m Q := A_icmp_ge hB_X4_find dX4_find_18 (by decide)
theorem dX4_find_21 : decode cX4_find 21 = .ok (.aload_n 0, 1) := by decide +kernel
theorem tX4_find_21 {d : Nat} {l1 : Option Value} {x : Nat} {m : jmM} {Q : Option Value → jmM → Prop} : AW d 45 21 [some (.ref x), l1] [] m Q ↔ AW d 45 22 [some (.ref x), l1] [.ref x] m Q := A_aload_n hB_X4_find dX4_find_21 rfl
theorem dX4_find_22 : decode cX4_find 22 = .ok (.getfield 23, 3) := by decide +kernel
theorem tX4_find_22 {d : Nat} {l0 l1 : Option Value} {a : Nat} {m : jmM} {Q : Option Value → jmM → Prop} : AW d 45 22 [l0, l1] [.ref a] m Q ↔ (mS m a).1 = 4 ∧ AW d 45 25 [l0, l1] [va_rf (mR m a 0)] m Q := A_getfield (f := fun m a => va_rf (mR m a 0)) hB_X4_find dX4_find_22 hO_X4_find fF_4_23 rfl
theorem dX4_find_25 : decode cX4_find 25 = .ok (.iload_n 1, 1) := by decide +kernel
theorem tX4_find_25 {d : Nat} {l0 : Option Value} {v0 : Value} {x : Int32} {m : jmM} {Q : Option Value → jmM → Prop} : AW d 45 25 [l0, some (.int x)] [v0] m Q ↔ AW d 45 26 [l0, some (.int x)] [.int x, v0] m Q := A_iload_n hB_X4_find dX4_find_25 rfl
theorem dX4_find_26 : decode cX4_find 26 = .ok (.aaload, 1) := by decide +kernel
theorem tX4_find_26 {d : Nat} {l0 l1 : Option Value} {i : Int32} {a : Nat} {m : jmM} {Q : Option Value → jmM → Prop} : AW d 45 26 [l0, l1] [.int i, .ref a] m Q ↔ (24 ≤ (mS m a).1 ∧ (mS m a).1 ≤ 26 ∧ jIx i (mS m a).2) ∧ AW d 45 27 [l0, l1] [va_rf (mR m a (jx i))] m Q := A_aaload hB_X4_find dX4_find_26
theorem dX4_find_27 : decode cX4_find 27 = .ok (.goto 4, 3) := by decide +kernel
theorem tX4_find_27 {d : Nat} {l0 l1 : Option Value} {v0 : Value} {m : jmM} {Q : Option Value → jmM → Prop} : AW d 45 27 [l0, l1] [v0] m Q ↔ AW d 45 31 [l0, l1] [v0] m Q := A_goto hB_X4_find dX4_find_27 (by decide)
theorem dX4_find_30 : decode cX4_find 30 = .ok (.aconst_null, 1) := by decide +kernel
theorem tX4_find_30 {d : Nat} {l0 l1 : Option Value} {m : jmM} {Q : Option Value → jmM → Prop} : AW d 45 30 [l0, l1] [] m Q ↔ AW d 45 31 [l0, l1] [.null] m Q := A_aconst_null hB_X4_find dX4_find_30
theorem dX4_find_31 : decode cX4_find 31 = .ok (.areturn, 1) := by decide +kernel
theorem tX4_find_31 {d : Nat} {l0 l1 : Option Value} {x : Nat} {m : jmM} {Q : Option Value → jmM → Prop} : AW d 45 31 [l0, l1] [.ref x] m Q ↔ Q (some (.ref x)) m := A_areturn hB_X4_find dX4_find_31 rfl
theorem tX4_find_31q {d : Nat} {l0 l1 : Option Value} {x : Option Nat} {m : jmM} {Q : Option Value → jmM → Prop} : AW d 45 31 [l0, l1] [va_rf x] m Q ↔ Q (some (va_rf x)) m := A_areturnq hB_X4_find dX4_find_31 rfl
theorem tX4_find_31n {d : Nat} {l0 l1 : Option Value} {m : jmM} {Q : Option Value → jmM → Prop} : AW d 45 31 [l0, l1] [.null] m Q ↔ Q (some .null) m := A_areturnN hB_X4_find dX4_find_31 rfl
