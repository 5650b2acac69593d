/-! steps of PulledCrystalModel, by program -/
theorem hB_X12_tries : jB 278 = cX12_tries := rfl
theorem hO_X12_tries : jO 278 = 12 := rfl
theorem hR_X12_tries : jRt 278 = none := rfl
theorem nX12_tries (d : Nat) (x0 : Nat) (x1 : Int32) (x2 : Int32) (x3 : Int32) (m : jmM) (Q : Option Value → jmM → Prop) : CC (d + 1) 278 [.ref x0, .int x1, .int x2, .int x3] m Q ↔ AW d 278 0 [some (.ref x0), some (.int x1), some (.int x2), some (.int x3), none, none] [] m Q := CC_body (Nat.le_of_ble_eq_true rfl)
theorem dX12_tries_0 : decode cX12_tries 0 = .ok (.aload_n 0, 1) := by decide +kernel
theorem tX12_tries_0 {d : Nat} {l1 l2 l3 l4 l5 : Option Value} {x : Nat} {m : jmM} {Q : Option Value → jmM → Prop} : AW d 278 0 [some (.ref x), l1, l2, l3, l4, l5] [] m Q ↔ AW d 278 1 [some (.ref x), l1, l2, l3, l4, l5] [.ref x] m Q := A_aload_n hB_X12_tries dX12_tries_0 rfl
theorem dX12_tries_1 : decode cX12_tries 1 = .ok (.getfield 51, 3) := by decide +kernel
theorem tX12_tries_1 {d : Nat} {l0 l1 l2 l3 l4 l5 : Option Value} {a : Nat} {m : jmM} {Q : Option Value → jmM → Prop} : AW d 278 1 [l0, l1, l2, l3, l4, l5] [.ref a] m Q ↔ (mS m a).1 = 12 ∧ AW d 278 4 [l0, l1, l2, l3, l4, l5] [va_rf (mR m a 25)] m Q := A_getfield (f := fun m a => va_rf (mR m a 25)) hB_X12_tries dX12_tries_1 hO_X12_tries fF_12_51 rfl
theorem dX12_tries_4 : decode cX12_tries 4 = .ok (.bipush 15, 2) := by decide +kernel
theorem tX12_tries_4 {d : Nat} {l0 l1 l2 l3 l4 l5 : Option Value} {v0 : Value} {m : jmM} {Q : Option Value → jmM → Prop} : AW d 278 4 [l0, l1, l2, l3, l4, l5] [v0] m Q ↔ AW d 278 6 [l0, l1, l2, l3, l4, l5] [.int 15, v0] m Q := A_bipush hB_X12_tries dX12_tries_4 rfl
theorem dX12_tries_6 : decode cX12_tries 6 = .ok (.iaload, 1) := by decide +kernel
theorem tX12_tries_6 {d : Nat} {l0 l1 l2 l3 l4 l5 : Option Value} {i : Int32} {a : Nat} {m : jmM} {Q : Option Value → jmM → Prop} : AW d 278 6 [l0, l1, l2, l3, l4, l5] [.int i, .ref a] m Q ↔ (((mS m a).1 = 20 ∨ a = jScr) ∧ jIx i (mS m a).2) ∧ AW d 278 7 [l0, l1, l2, l3, l4, l5] [.int (mI m a (jx i))] m Q := A_iaload hB_X12_tries dX12_tries_6
theorem dX12_tries_7 : decode cX12_tries 7 = .ok (.istore 4, 2) := by decide +kernel
theorem tX12_tries_7 {d : Nat} {l0 l1 l2 l3 l4 l5 : Option Value} {x : Int32} {m : jmM} {Q : Option Value → jmM → Prop} : AW d 278 7 [l0, l1, l2, l3, l4, l5] [.int x] m Q ↔ AW d 278 9 [l0, l1, l2, jc1 l3, some (.int x), l5] [] m Q := A_istore hB_X12_tries dX12_tries_7 (Nat.le_of_ble_eq_true rfl) rfl
theorem dX12_tries_9 : decode cX12_tries 9 = .ok (.aload_n 0, 1) := by decide +kernel
theorem tX12_tries_9 {d : Nat} {l1 l2 l3 l4 l5 : Option Value} {x : Nat} {m : jmM} {Q : Option Value → jmM → Prop} : AW d 278 9 [some (.ref x), l1, l2, l3, l4, l5] [] m Q ↔ AW d 278 10 [some (.ref x), l1, l2, l3, l4, l5] [.ref x] m Q := A_aload_n hB_X12_tries dX12_tries_9 rfl
theorem dX12_tries_10 : decode cX12_tries 10 = .ok (.iconst 0, 1) := by decide +kernel
theorem tX12_tries_10 {d : Nat} {l0 l1 l2 l3 l4 l5 : Option Value} {v0 : Value} {m : jmM} {Q : Option Value → jmM → Prop} : AW d 278 10 [l0, l1, l2, l3, l4, l5] [v0] m Q ↔ AW d 278 11 [l0, l1, l2, l3, l4, l5] [.int 0, v0] m Q := A_iconst hB_X12_tries dX12_tries_10 (by decide)
theorem dX12_tries_11 : decode cX12_tries 11 = .ok (.putfield 413, 3) := by decide +kernel
theorem tX12_tries_11 {d : Nat} {l0 l1 l2 l3 l4 l5 : Option Value} {x : Int32} {a : Nat} {m : jmM} {Q : Option Value → jmM → Prop} : AW d 278 11 [l0, l1, l2, l3, l4, l5] [.int x, .ref a] m Q ↔ (mS m a).1 = 12 ∧ AW d 278 14 [l0, l1, l2, l3, l4, l5] [] (cI m a (jup (mI m a) 39 x)) Q := A_putI hB_X12_tries dX12_tries_11 hO_X12_tries fF_12_413 rfl (fun h => Bool.noConfusion h)
theorem dX12_tries_14 : decode cX12_tries 14 = .ok (.aload_n 0, 1) := by decide +kernel
theorem tX12_tries_14 {d : Nat} {l1 l2 l3 l4 l5 : Option Value} {x : Nat} {m : jmM} {Q : Option Value → jmM → Prop} : AW d 278 14 [some (.ref x), l1, l2, l3, l4, l5] [] m Q ↔ AW d 278 15 [some (.ref x), l1, l2, l3, l4, l5] [.ref x] m Q := A_aload_n hB_X12_tries dX12_tries_14 rfl
theorem dX12_tries_15 : decode cX12_tries 15 = .ok (.iconst 0, 1) := by decide +kernel
theorem tX12_tries_15 {d : Nat} {l0 l1 l2 l3 l4 l5 : Option Value} {v0 : Value} {m : jmM} {Q : Option Value → jmM → Prop} : AW d 278 15 [l0, l1, l2, l3, l4, l5] [v0] m Q ↔ AW d 278 16 [l0, l1, l2, l3, l4, l5] [.int 0, v0] m Q := A_iconst hB_X12_tries dX12_tries_15 (by decide)
theorem dX12_tries_16 : decode cX12_tries 16 = .ok (.putfield 416, 3) := by decide +kernel
theorem tX12_tries_16 {d : Nat} {l0 l1 l2 l3 l4 l5 : Option Value} {x : Int32} {a : Nat} {m : jmM} {Q : Option Value → jmM → Prop} : AW d 278 16 [l0, l1, l2, l3, l4, l5] [.int x, .ref a] m Q ↔ (mS m a).1 = 12 ∧ AW d 278 19 [l0, l1, l2, l3, l4, l5] [] (cI m a (jup (mI m a) 40 x)) Q := A_putI hB_X12_tries dX12_tries_16 hO_X12_tries fF_12_416 rfl (fun h => Bool.noConfusion h)
theorem dX12_tries_19 : decode cX12_tries 19 = .ok (.aload_n 0, 1) := by decide +kernel
theorem tX12_tries_19 {d : Nat} {l1 l2 l3 l4 l5 : Option Value} {x : Nat} {m : jmM} {Q : Option Value → jmM → Prop} : AW d 278 19 [some (.ref x), l1, l2, l3, l4, l5] [] m Q ↔ AW d 278 20 [some (.ref x), l1, l2, l3, l4, l5] [.ref x] m Q := A_aload_n hB_X12_tries dX12_tries_19 rfl
theorem dX12_tries_20 : decode cX12_tries 20 = .ok (.iconst 0, 1) := by decide +kernel
theorem tX12_tries_20 {d : Nat} {l0 l1 l2 l3 l4 l5 : Option Value} {v0 : Value} {m : jmM} {Q : Option Value → jmM → Prop} : AW d 278 20 [l0, l1, l2, l3, l4, l5] [v0] m Q ↔ AW d 278 21 [l0, l1, l2, l3, l4, l5] [.int 0, v0] m Q := A_iconst hB_X12_tries dX12_tries_20 (by decide)
theorem dX12_tries_21 : decode cX12_tries 21 = .ok (.putfield 430, 3) := by decide +kernel
theorem tX12_tries_21 {d : Nat} {l0 l1 l2 l3 l4 l5 : Option Value} {x : Int32} {a : Nat} {m : jmM} {Q : Option Value → jmM → Prop} : AW d 278 21 [l0, l1, l2, l3, l4, l5] [.int x, .ref a] m Q ↔ (mS m a).1 = 12 ∧ AW d 278 24 [l0, l1, l2, l3, l4, l5] [] (cI m a (jup (mI m a) 44 x)) Q := A_putI hB_X12_tries dX12_tries_21 hO_X12_tries fF_12_430 rfl (fun h => Bool.noConfusion h)
theorem dX12_tries_24 : decode cX12_tries 24 = .ok (.aload_n 0, 1) := by decide +kernel
theorem tX12_tries_24 {d : Nat} {l1 l2 l3 l4 l5 : Option Value} {x : Nat} {m : jmM} {Q : Option Value → jmM → Prop} : AW d 278 24 [some (.ref x), l1, l2, l3, l4, l5] [] m Q ↔ AW d 278 25 [some (.ref x), l1, l2, l3, l4, l5] [.ref x] m Q := A_aload_n hB_X12_tries dX12_tries_24 rfl
theorem dX12_tries_25 : decode cX12_tries 25 = .ok (.iconst 0, 1) := by decide +kernel
theorem tX12_tries_25 {d : Nat} {l0 l1 l2 l3 l4 l5 : Option Value} {v0 : Value} {m : jmM} {Q : Option Value → jmM → Prop} : AW d 278 25 [l0, l1, l2, l3, l4, l5] [v0] m Q ↔ AW d 278 26 [l0, l1, l2, l3, l4, l5] [.int 0, v0] m Q := A_iconst hB_X12_tries dX12_tries_25 (by decide)
theorem dX12_tries_26 : decode cX12_tries 26 = .ok (.putfield 433, 3) := by decide +kernel
theorem tX12_tries_26 {d : Nat} {l0 l1 l2 l3 l4 l5 : Option Value} {x : Int32} {a : Nat} {m : jmM} {Q : Option Value → jmM → Prop} : AW d 278 26 [l0, l1, l2, l3, l4, l5] [.int x, .ref a] m Q ↔ (mS m a).1 = 12 ∧ AW d 278 29 [l0, l1, l2, l3, l4, l5] [] (cI m a (jup (mI m a) 45 x)) Q := A_putI hB_X12_tries dX12_tries_26 hO_X12_tries fF_12_433 rfl (fun h => Bool.noConfusion h)
theorem dX12_tries_29 : decode cX12_tries 29 = .ok (.aload_n 0, 1) := by decide +kernel
theorem tX12_tries_29 {d : Nat} {l1 l2 l3 l4 l5 : Option Value} {x : Nat} {m : jmM} {Q : Option Value → jmM → Prop} : AW d 278 29 [some (.ref x), l1, l2, l3, l4, l5] [] m Q ↔ AW d 278 30 [some (.ref x), l1, l2, l3, l4, l5] [.ref x] m Q := A_aload_n hB_X12_tries dX12_tries_29 rfl
theorem dX12_tries_30 : decode cX12_tries 30 = .ok (.aload_n 0, 1) := by decide +kernel
theorem tX12_tries_30 {d : Nat} {l1 l2 l3 l4 l5 : Option Value} {v0 : Value} {x : Nat} {m : jmM} {Q : Option Value → jmM → Prop} : AW d 278 30 [some (.ref x), l1, l2, l3, l4, l5] [v0] m Q ↔ AW d 278 31 [some (.ref x), l1, l2, l3, l4, l5] [.ref x, v0] m Q := A_aload_n hB_X12_tries dX12_tries_30 rfl
theorem dX12_tries_31 : decode cX12_tries 31 = .ok (.getfield 51, 3) := by decide +kernel
theorem tX12_tries_31 {d : Nat} {l0 l1 l2 l3 l4 l5 : Option Value} {v1 : Value} {a : Nat} {m : jmM} {Q : Option Value → jmM → Prop} : AW d 278 31 [l0, l1, l2, l3, l4, l5] [.ref a, v1] m Q ↔ (mS m a).1 = 12 ∧ AW d 278 34 [l0, l1, l2, l3, l4, l5] [va_rf (mR m a 25), v1] m Q := A_getfield (f := fun m a => va_rf (mR m a 25)) hB_X12_tries dX12_tries_31 hO_X12_tries fF_12_51 rfl
theorem dX12_tries_34 : decode cX12_tries 34 = .ok (.bipush 10, 2) := by decide +kernel
theorem tX12_tries_34 {d : Nat} {l0 l1 l2 l3 l4 l5 : Option Value} {v0 v1 : Value} {m : jmM} {Q : Option Value → jmM → Prop} : AW d 278 34 [l0, l1, l2, l3, l4, l5] [v0, v1] m Q ↔ AW d 278 36 [l0, l1, l2, l3, l4, l5] [.int 10, v0, v1] m Q := A_bipush hB_X12_tries dX12_tries_34 rfl
theorem dX12_tries_36 : decode cX12_tries 36 = .ok (.iaload, 1) := by decide +kernel
theorem tX12_tries_36 {d : Nat} {l0 l1 l2 l3 l4 l5 : Option Value} {v2 : Value} {i : Int32} {a : Nat} {m : jmM} {Q : Option Value → jmM → Prop} : AW d 278 36 [l0, l1, l2, l3, l4, l5] [.int i, .ref a, v2] m Q ↔ (((mS m a).1 = 20 ∨ a = jScr) ∧ jIx i (mS m a).2) ∧ AW d 278 37 [l0, l1, l2, l3, l4, l5] [.int (mI m a (jx i)), v2] m Q := A_iaload hB_X12_tries dX12_tries_36
theorem dX12_tries_37 : decode cX12_tries 37 = .ok (.i2l, 1) := by decide +kernel
theorem tX12_tries_37 {d : Nat} {l0 l1 l2 l3 l4 l5 : Option Value} {v1 : Value} {x : Int32} {m : jmM} {Q : Option Value → jmM → Prop} : AW d 278 37 [l0, l1, l2, l3, l4, l5] [.int x, v1] m Q ↔ AW d 278 38 [l0, l1, l2, l3, l4, l5] [.long x.toInt64, v1] m Q := A_i2l hB_X12_tries dX12_tries_37
theorem dX12_tries_38 : decode cX12_tries 38 = .ok (.iload_n 3, 1) := by decide +kernel
theorem tX12_tries_38 {d : Nat} {l0 l1 l2 l4 l5 : Option Value} {v0 v1 : Value} {x : Int32} {m : jmM} {Q : Option Value → jmM → Prop} : AW d 278 38 [l0, l1, l2, some (.int x), l4, l5] [v0, v1] m Q ↔ AW d 278 39 [l0, l1, l2, some (.int x), l4, l5] [.int x, v0, v1] m Q := A_iload_n hB_X12_tries dX12_tries_38 rfl
theorem dX12_tries_39 : decode cX12_tries 39 = .ok (.i2l, 1) := by decide +kernel
theorem tX12_tries_39 {d : Nat} {l0 l1 l2 l3 l4 l5 : Option Value} {v1 v2 : Value} {x : Int32} {m : jmM} {Q : Option Value → jmM → Prop} : AW d 278 39 [l0, l1, l2, l3, l4, l5] [.int x, v1, v2] m Q ↔ AW d 278 40 [l0, l1, l2, l3, l4, l5] [.long x.toInt64, v1, v2] m Q := A_i2l hB_X12_tries dX12_tries_39
theorem dX12_tries_40 : decode cX12_tries 40 = .ok (.ladd, 1) := by decide +kernel
theorem tX12_tries_40 {d : Nat} {l0 l1 l2 l3 l4 l5 : Option Value} {v2 : Value} {x y : Int64} {m : jmM} {Q : Option Value → jmM → Prop} : AW d 278 40 [l0, l1, l2, l3, l4, l5] [.long y, .long x, v2] m Q ↔ AW d 278 41 [l0, l1, l2, l3, l4, l5] [.long (x + y), v2] m Q := A_ladd hB_X12_tries dX12_tries_40
theorem dX12_tries_41 : decode cX12_tries 41 = .ok (.lconst 0, 1) := by decide +kernel
theorem tX12_tries_41 {d : Nat} {l0 l1 l2 l3 l4 l5 : Option Value} {v0 v1 : Value} {m : jmM} {Q : Option Value → jmM → Prop} : AW d 278 41 [l0, l1, l2, l3, l4, l5] [v0, v1] m Q ↔ AW d 278 42 [l0, l1, l2, l3, l4, l5] [.long 0, v0, v1] m Q := A_lconst hB_X12_tries dX12_tries_41 (by decide)
theorem dX12_tries_42 : decode cX12_tries 42 = .ok (.ldc2_w 291, 3) := by decide +kernel
theorem tX12_tries_42 {d : Nat} {l0 l1 l2 l3 l4 l5 : Option Value} {v0 v1 v2 : Value} {m : jmM} {Q : Option Value → jmM → Prop} : AW d 278 42 [l0, l1, l2, l3, l4, l5] [v0, v1, v2] m Q ↔ AW d 278 45 [l0, l1, l2, l3, l4, l5] [.long 9999, v0, v1, v2] m Q := A_ldc2_w hB_X12_tries dX12_tries_42 hO_X12_tries fL2_12_291
theorem dX12_tries_45 : decode cX12_tries 45 = .ok (.invokestatic 309, 3) := by decide +kernel
theorem tX12_tries_45 {d : Nat} {l0 l1 l2 l3 l4 l5 : Option Value} {v3 : Value} {y0 y1 y2 : Value} {m : jmM} {Q : Option Value → jmM → Prop} : AW d 278 45 [l0, l1, l2, l3, l4, l5] [y0, y1, y2, v3] m Q ↔ CC d 190 [y2, y1, y0] m (jK d 278 48 [l0, l1, l2, l3, l4, l5] [v3] Q) := A_callS0 hB_X12_tries dX12_tries_45 hO_X12_tries fS_12_309 ⟨Nat.le_of_ble_eq_true rfl, Nat.le_of_ble_eq_true rfl⟩ rfl rfl
theorem dX12_tries_48 : decode cX12_tries 48 = .ok (.l2i, 1) := by decide +kernel
theorem tX12_tries_48 {d : Nat} {l0 l1 l2 l3 l4 l5 : Option Value} {v1 : Value} {x : Int64} {m : jmM} {Q : Option Value → jmM → Prop} : AW d 278 48 [l0, l1, l2, l3, l4, l5] [.long x, v1] m Q ↔ AW d 278 49 [l0, l1, l2, l3, l4, l5] [.int x.toInt32, v1] m Q := A_l2i hB_X12_tries dX12_tries_48
theorem dX12_tries_49 : decode cX12_tries 49 = .ok (.putfield 436, 3) := by decide +kernel
theorem tX12_tries_49 {d : Nat} {l0 l1 l2 l3 l4 l5 : Option Value} {x : Int32} {a : Nat} {m : jmM} {Q : Option Value → jmM → Prop} : AW d 278 49 [l0, l1, l2, l3, l4, l5] [.int x, .ref a] m Q ↔ (mS m a).1 = 12 ∧ AW d 278 52 [l0, l1, l2, l3, l4, l5] [] (cI m a (jup (mI m a) 46 x)) Q := A_putI hB_X12_tries dX12_tries_49 hO_X12_tries fF_12_436 rfl (fun h => Bool.noConfusion h)
theorem dX12_tries_52 : decode cX12_tries 52 = .ok (.aload_n 0, 1) := by decide +kernel
theorem tX12_tries_52 {d : Nat} {l1 l2 l3 l4 l5 : Option Value} {x : Nat} {m : jmM} {Q : Option Value → jmM → Prop} : AW d 278 52 [some (.ref x), l1, l2, l3, l4, l5] [] m Q ↔ AW d 278 53 [some (.ref x), l1, l2, l3, l4, l5] [.ref x] m Q := A_aload_n hB_X12_tries dX12_tries_52 rfl
theorem dX12_tries_53 : decode cX12_tries 53 = .ok (.getfield 51, 3) := by decide +kernel
theorem tX12_tries_53 {d : Nat} {l0 l1 l2 l3 l4 l5 : Option Value} {a : Nat} {m : jmM} {Q : Option Value → jmM → Prop} : AW d 278 53 [l0, l1, l2, l3, l4, l5] [.ref a] m Q ↔ (mS m a).1 = 12 ∧ AW d 278 56 [l0, l1, l2, l3, l4, l5] [va_rf (mR m a 25)] m Q := A_getfield (f := fun m a => va_rf (mR m a 25)) hB_X12_tries dX12_tries_53 hO_X12_tries fF_12_51 rfl
theorem dX12_tries_56 : decode cX12_tries 56 = .ok (.iconst 0, 1) := by decide +kernel
theorem tX12_tries_56 {d : Nat} {l0 l1 l2 l3 l4 l5 : Option Value} {v0 : Value} {m : jmM} {Q : Option Value → jmM → Prop} : AW d 278 56 [l0, l1, l2, l3, l4, l5] [v0] m Q ↔ AW d 278 57 [l0, l1, l2, l3, l4, l5] [.int 0, v0] m Q := A_iconst hB_X12_tries dX12_tries_56 (by decide)
theorem dX12_tries_57 : decode cX12_tries 57 = .ok (.iaload, 1) := by decide +kernel
theorem tX12_tries_57 {d : Nat} {l0 l1 l2 l3 l4 l5 : Option Value} {i : Int32} {a : Nat} {m : jmM} {Q : Option Value → jmM → Prop} : AW d 278 57 [l0, l1, l2, l3, l4, l5] [.int i, .ref a] m Q ↔ (((mS m a).1 = 20 ∨ a = jScr) ∧ jIx i (mS m a).2) ∧ AW d 278 58 [l0, l1, l2, l3, l4, l5] [.int (mI m a (jx i))] m Q := A_iaload hB_X12_tries dX12_tries_57
theorem dX12_tries_58 : decode cX12_tries 58 = .ok (.iconst 1, 1) := by decide +kernel
theorem tX12_tries_58 {d : Nat} {l0 l1 l2 l3 l4 l5 : Option Value} {v0 : Value} {m : jmM} {Q : Option Value → jmM → Prop} : AW d 278 58 [l0, l1, l2, l3, l4, l5] [v0] m Q ↔ AW d 278 59 [l0, l1, l2, l3, l4, l5] [.int 1, v0] m Q := A_iconst hB_X12_tries dX12_tries_58 (by decide)
theorem dX12_tries_59 : decode cX12_tries 59 = .ok (.if_icmp .eq 4, 3) := by decide +kernel
theorem tX12_tries_59 {d : Nat} {l0 l1 l2 l3 l4 l5 : Option Value} {x y : Int32} {m : jmM} {Q : Option Value → jmM → Prop} : AW d 278 59 [l0, l1, l2, l3, l4, l5] [.int y, .int x] m Q ↔ if x = y then AW d 278 63 [l0, l1, l2, l3, l4, l5] [] m Q else AW d 278 62 [l0, l1, l2, l3, l4, l5] [] m Q := A_icmp_eq hB_X12_tries dX12_tries_59 (by decide)
theorem dX12_tries_62 : decode cX12_tries 62 = .ok (.return_, 1) := by decide +kernel
theorem tX12_tries_62 {d : Nat} {l0 l1 l2 l3 l4 l5 : Option Value} {m : jmM} {Q : Option Value → jmM → Prop} : AW d 278 62 [l0, l1, l2, l3, l4, l5] [] m Q ↔ Q none m := A_return hB_X12_tries dX12_tries_62 hR_X12_tries
theorem dX12_tries_63 : decode cX12_tries 63 = .ok (.aload_n 0, 1) := by decide +kernel
theorem tX12_tries_63 {d : Nat} {l1 l2 l3 l4 l5 : Option Value} {x : Nat} {m : jmM} {Q : Option Value → jmM → Prop} : AW d 278 63 [some (.ref x), l1, l2, l3, l4, l5] [] m Q ↔ AW d 278 64 [some (.ref x), l1, l2, l3, l4, l5] [.ref x] m Q := A_aload_n hB_X12_tries dX12_tries_63 rfl
theorem dX12_tries_64 : decode cX12_tries 64 = .ok (.iconst 4, 1) := by decide +kernel
theorem tX12_tries_64 {d : Nat} {l0 l1 l2 l3 l4 l5 : Option Value} {v0 : Value} {m : jmM} {Q : Option Value → jmM → Prop} : AW d 278 64 [l0, l1, l2, l3, l4, l5] [v0] m Q ↔ AW d 278 65 [l0, l1, l2, l3, l4, l5] [.int 4, v0] m Q := A_iconst hB_X12_tries dX12_tries_64 (by decide)
theorem dX12_tries_65 : decode cX12_tries 65 = .ok (.invokevirtual 424, 3) := by decide +kernel
theorem tX12_tries_65 {d : Nat} {l0 l1 l2 l3 l4 l5 : Option Value} {y0 : Value} {a : Nat} {m : jmM} {Q : Option Value → jmM → Prop} : AW d 278 65 [l0, l1, l2, l3, l4, l5] [y0, .ref a] m Q ↔ (mS m a).1 = 12 ∧ CC d 274 [.ref a, y0] m (jK d 278 68 [l0, l1, l2, l3, l4, l5] [] Q) := A_callV hB_X12_tries dX12_tries_65 hO_X12_tries fS_12_424 ⟨Nat.le_of_ble_eq_true rfl, Nat.le_of_ble_eq_true rfl⟩ rfl rfl rfl
theorem dX12_tries_68 : decode cX12_tries 68 = .ok (.aload_n 0, 1) := by decide +kernel
theorem tX12_tries_68 {d : Nat} {l1 l2 l3 l4 l5 : Option Value} {x : Nat} {m : jmM} {Q : Option Value → jmM → Prop} : AW d 278 68 [some (.ref x), l1, l2, l3, l4, l5] [] m Q ↔ AW d 278 69 [some (.ref x), l1, l2, l3, l4, l5] [.ref x] m Q := A_aload_n hB_X12_tries dX12_tries_68 rfl
theorem dX12_tries_69 : decode cX12_tries 69 = .ok (.getfield 51, 3) := by decide +kernel
theorem tX12_tries_69 {d : Nat} {l0 l1 l2 l3 l4 l5 : Option Value} {a : Nat} {m : jmM} {Q : Option Value → jmM → Prop} : AW d 278 69 [l0, l1, l2, l3, l4, l5] [.ref a] m Q ↔ (mS m a).1 = 12 ∧ AW d 278 72 [l0, l1, l2, l3, l4, l5] [va_rf (mR m a 25)] m Q := A_getfield (f := fun m a => va_rf (mR m a 25)) hB_X12_tries dX12_tries_69 hO_X12_tries fF_12_51 rfl
theorem dX12_tries_72 : decode cX12_tries 72 = .ok (.iconst 2, 1) := by decide +kernel
theorem tX12_tries_72 {d : Nat} {l0 l1 l2 l3 l4 l5 : Option Value} {v0 : Value} {m : jmM} {Q : Option Value → jmM → Prop} : AW d 278 72 [l0, l1, l2, l3, l4, l5] [v0] m Q ↔ AW d 278 73 [l0, l1, l2, l3, l4, l5] [.int 2, v0] m Q := A_iconst hB_X12_tries dX12_tries_72 (by decide)
theorem dX12_tries_73 : decode cX12_tries 73 = .ok (.iload_n 1, 1) := by decide +kernel
theorem tX12_tries_73 {d : Nat} {l0 l2 l3 l4 l5 : Option Value} {v0 v1 : Value} {x : Int32} {m : jmM} {Q : Option Value → jmM → Prop} : AW d 278 73 [l0, some (.int x), l2, l3, l4, l5] [v0, v1] m Q ↔ AW d 278 74 [l0, some (.int x), l2, l3, l4, l5] [.int x, v0, v1] m Q := A_iload_n hB_X12_tries dX12_tries_73 rfl
theorem dX12_tries_74 : decode cX12_tries 74 = .ok (.iastore, 1) := by decide +kernel
theorem tX12_tries_74 {d : Nat} {l0 l1 l2 l3 l4 l5 : Option Value} {x i : Int32} {a : Nat} {m : jmM} {Q : Option Value → jmM → Prop} : AW d 278 74 [l0, l1, l2, l3, l4, l5] [.int x, .int i, .ref a] m Q ↔ ((mS m a).1 = 20 ∧ jIx i (mS m a).2) ∧ AW d 278 75 [l0, l1, l2, l3, l4, l5] [] (cI m a (jup (mI m a) (jx i) x)) Q := A_iastore hB_X12_tries dX12_tries_74
theorem dX12_tries_75 : decode cX12_tries 75 = .ok (.aload_n 0, 1) := by decide +kernel
theorem tX12_tries_75 {d : Nat} {l1 l2 l3 l4 l5 : Option Value} {x : Nat} {m : jmM} {Q : Option Value → jmM → Prop} : AW d 278 75 [some (.ref x), l1, l2, l3, l4, l5] [] m Q ↔ AW d 278 76 [some (.ref x), l1, l2, l3, l4, l5] [.ref x] m Q := A_aload_n hB_X12_tries dX12_tries_75 rfl
theorem dX12_tries_76 : decode cX12_tries 76 = .ok (.getfield 51, 3) := by decide +kernel
theorem tX12_tries_76 {d : Nat} {l0 l1 l2 l3 l4 l5 : Option Value} {a : Nat} {m : jmM} {Q : Option Value → jmM → Prop} : AW d 278 76 [l0, l1, l2, l3, l4, l5] [.ref a] m Q ↔ (mS m a).1 = 12 ∧ AW d 278 79 [l0, l1, l2, l3, l4, l5] [va_rf (mR m a 25)] m Q := A_getfield (f := fun m a => va_rf (mR m a 25)) hB_X12_tries dX12_tries_76 hO_X12_tries fF_12_51 rfl
theorem dX12_tries_79 : decode cX12_tries 79 = .ok (.bipush 10, 2) := by decide +kernel
theorem tX12_tries_79 {d : Nat} {l0 l1 l2 l3 l4 l5 : Option Value} {v0 : Value} {m : jmM} {Q : Option Value → jmM → Prop} : AW d 278 79 [l0, l1, l2, l3, l4, l5] [v0] m Q ↔ AW d 278 81 [l0, l1, l2, l3, l4, l5] [.int 10, v0] m Q := A_bipush hB_X12_tries dX12_tries_79 rfl
theorem dX12_tries_81 : decode cX12_tries 81 = .ok (.aload_n 0, 1) := by decide +kernel
theorem tX12_tries_81 {d : Nat} {l1 l2 l3 l4 l5 : Option Value} {v0 v1 : Value} {x : Nat} {m : jmM} {Q : Option Value → jmM → Prop} : AW d 278 81 [some (.ref x), l1, l2, l3, l4, l5] [v0, v1] m Q ↔ AW d 278 82 [some (.ref x), l1, l2, l3, l4, l5] [.ref x, v0, v1] m Q := A_aload_n hB_X12_tries dX12_tries_81 rfl
theorem dX12_tries_82 : decode cX12_tries 82 = .ok (.getfield 436, 3) := by decide +kernel
theorem tX12_tries_82 {d : Nat} {l0 l1 l2 l3 l4 l5 : Option Value} {v1 v2 : Value} {a : Nat} {m : jmM} {Q : Option Value → jmM → Prop} : AW d 278 82 [l0, l1, l2, l3, l4, l5] [.ref a, v1, v2] m Q ↔ (mS m a).1 = 12 ∧ AW d 278 85 [l0, l1, l2, l3, l4, l5] [.int (mI m a 46), v1, v2] m Q := A_getfield (f := fun m a => .int (mI m a 46)) hB_X12_tries dX12_tries_82 hO_X12_tries fF_12_436 rfl
theorem dX12_tries_85 : decode cX12_tries 85 = .ok (.iastore, 1) := by decide +kernel
theorem tX12_tries_85 {d : Nat} {l0 l1 l2 l3 l4 l5 : Option Value} {x i : Int32} {a : Nat} {m : jmM} {Q : Option Value → jmM → Prop} : AW d 278 85 [l0, l1, l2, l3, l4, l5] [.int x, .int i, .ref a] m Q ↔ ((mS m a).1 = 20 ∧ jIx i (mS m a).2) ∧ AW d 278 86 [l0, l1, l2, l3, l4, l5] [] (cI m a (jup (mI m a) (jx i) x)) Q := A_iastore hB_X12_tries dX12_tries_85
theorem dX12_tries_86 : decode cX12_tries 86 = .ok (.aload_n 0, 1) := by decide +kernel
theorem tX12_tries_86 {d : Nat} {l1 l2 l3 l4 l5 : Option Value} {x : Nat} {m : jmM} {Q : Option Value → jmM → Prop} : AW d 278 86 [some (.ref x), l1, l2, l3, l4, l5] [] m Q ↔ AW d 278 87 [some (.ref x), l1, l2, l3, l4, l5] [.ref x] m Q := A_aload_n hB_X12_tries dX12_tries_86 rfl
theorem dX12_tries_87 : decode cX12_tries 87 = .ok (.aload_n 0, 1) := by decide +kernel
theorem tX12_tries_87 {d : Nat} {l1 l2 l3 l4 l5 : Option Value} {v0 : Value} {x : Nat} {m : jmM} {Q : Option Value → jmM → Prop} : AW d 278 87 [some (.ref x), l1, l2, l3, l4, l5] [v0] m Q ↔ AW d 278 88 [some (.ref x), l1, l2, l3, l4, l5] [.ref x, v0] m Q := A_aload_n hB_X12_tries dX12_tries_87 rfl
theorem dX12_tries_88 : decode cX12_tries 88 = .ok (.iload_n 2, 1) := by decide +kernel
theorem tX12_tries_88 {d : Nat} {l0 l1 l3 l4 l5 : Option Value} {v0 v1 : Value} {x : Int32} {m : jmM} {Q : Option Value → jmM → Prop} : AW d 278 88 [l0, l1, some (.int x), l3, l4, l5] [v0, v1] m Q ↔ AW d 278 89 [l0, l1, some (.int x), l3, l4, l5] [.int x, v0, v1] m Q := A_iload_n hB_X12_tries dX12_tries_88 rfl
theorem dX12_tries_89 : decode cX12_tries 89 = .ok (.invokevirtual 346, 3) := by decide +kernel
theorem tX12_tries_89 {d : Nat} {l0 l1 l2 l3 l4 l5 : Option Value} {v2 : Value} {y0 : Value} {a : Nat} {m : jmM} {Q : Option Value → jmM → Prop} : AW d 278 89 [l0, l1, l2, l3, l4, l5] [y0, .ref a, v2] m Q ↔ (mS m a).1 = 12 ∧ CC d 239 [.ref a, y0] m (jK d 278 92 [l0, l1, l2, l3, l4, l5] [v2] Q) := A_callV hB_X12_tries dX12_tries_89 hO_X12_tries fS_12_346 ⟨Nat.le_of_ble_eq_true rfl, Nat.le_of_ble_eq_true rfl⟩ rfl rfl rfl
theorem dX12_tries_92 : decode cX12_tries 92 = .ok (.putfield 430, 3) := by decide +kernel
theorem tX12_tries_92 {d : Nat} {l0 l1 l2 l3 l4 l5 : Option Value} {x : Int32} {a : Nat} {m : jmM} {Q : Option Value → jmM → Prop} : AW d 278 92 [l0, l1, l2, l3, l4, l5] [.int x, .ref a] m Q ↔ (mS m a).1 = 12 ∧ AW d 278 95 [l0, l1, l2, l3, l4, l5] [] (cI m a (jup (mI m a) 44 x)) Q := A_putI hB_X12_tries dX12_tries_92 hO_X12_tries fF_12_430 rfl (fun h => Bool.noConfusion h)
theorem dX12_tries_95 : decode cX12_tries 95 = .ok (.aload_n 0, 1) := by decide +kernel
theorem tX12_tries_95 {d : Nat} {l1 l2 l3 l4 l5 : Option Value} {x : Nat} {m : jmM} {Q : Option Value → jmM → Prop} : AW d 278 95 [some (.ref x), l1, l2, l3, l4, l5] [] m Q ↔ AW d 278 96 [some (.ref x), l1, l2, l3, l4, l5] [.ref x] m Q := A_aload_n hB_X12_tries dX12_tries_95 rfl
theorem dX12_tries_96 : decode cX12_tries 96 = .ok (.iload 4, 2) := by decide +kernel
theorem tX12_tries_96 {d : Nat} {l0 l1 l2 l3 l5 : Option Value} {v0 : Value} {x : Int32} {m : jmM} {Q : Option Value → jmM → Prop} : AW d 278 96 [l0, l1, l2, l3, some (.int x), l5] [v0] m Q ↔ AW d 278 98 [l0, l1, l2, l3, some (.int x), l5] [.int x, v0] m Q := A_iload hB_X12_tries dX12_tries_96 rfl
theorem dX12_tries_98 : decode cX12_tries 98 = .ok (.aload_n 0, 1) := by decide +kernel
theorem tX12_tries_98 {d : Nat} {l1 l2 l3 l4 l5 : Option Value} {v0 v1 : Value} {x : Nat} {m : jmM} {Q : Option Value → jmM → Prop} : AW d 278 98 [some (.ref x), l1, l2, l3, l4, l5] [v0, v1] m Q ↔ AW d 278 99 [some (.ref x), l1, l2, l3, l4, l5] [.ref x, v0, v1] m Q := A_aload_n hB_X12_tries dX12_tries_98 rfl
theorem dX12_tries_99 : decode cX12_tries 99 = .ok (.getfield 51, 3) := by decide +kernel
theorem tX12_tries_99 {d : Nat} {l0 l1 l2 l3 l4 l5 : Option Value} {v1 v2 : Value} {a : Nat} {m : jmM} {Q : Option Value → jmM → Prop} : AW d 278 99 [l0, l1, l2, l3, l4, l5] [.ref a, v1, v2] m Q ↔ (mS m a).1 = 12 ∧ AW d 278 102 [l0, l1, l2, l3, l4, l5] [va_rf (mR m a 25), v1, v2] m Q := A_getfield (f := fun m a => va_rf (mR m a 25)) hB_X12_tries dX12_tries_99 hO_X12_tries fF_12_51 rfl
theorem dX12_tries_102 : decode cX12_tries 102 = .ok (.bipush 15, 2) := by decide +kernel
theorem tX12_tries_102 {d : Nat} {l0 l1 l2 l3 l4 l5 : Option Value} {v0 v1 v2 : Value} {m : jmM} {Q : Option Value → jmM → Prop} : AW d 278 102 [l0, l1, l2, l3, l4, l5] [v0, v1, v2] m Q ↔ AW d 278 104 [l0, l1, l2, l3, l4, l5] [.int 15, v0, v1, v2] m Q := A_bipush hB_X12_tries dX12_tries_102 rfl
theorem dX12_tries_104 : decode cX12_tries 104 = .ok (.iaload, 1) := by decide +kernel
theorem tX12_tries_104 {d : Nat} {l0 l1 l2 l3 l4 l5 : Option Value} {v2 v3 : Value} {i : Int32} {a : Nat} {m : jmM} {Q : Option Value → jmM → Prop} : AW d 278 104 [l0, l1, l2, l3, l4, l5] [.int i, .ref a, v2, v3] m Q ↔ (((mS m a).1 = 20 ∨ a = jScr) ∧ jIx i (mS m a).2) ∧ AW d 278 105 [l0, l1, l2, l3, l4, l5] [.int (mI m a (jx i)), v2, v3] m Q := A_iaload hB_X12_tries dX12_tries_104
theorem dX12_tries_105 : decode cX12_tries 105 = .ok (.iconst 1, 1) := by decide +kernel
theorem tX12_tries_105 {d : Nat} {l0 l1 l2 l3 l4 l5 : Option Value} {v0 v1 v2 : Value} {m : jmM} {Q : Option Value → jmM → Prop} : AW d 278 105 [l0, l1, l2, l3, l4, l5] [v0, v1, v2] m Q ↔ AW d 278 106 [l0, l1, l2, l3, l4, l5] [.int 1, v0, v1, v2] m Q := A_iconst hB_X12_tries dX12_tries_105 (by decide)
theorem dX12_tries_106 : decode cX12_tries 106 = .ok (.isub, 1) := by decide +kernel
theorem tX12_tries_106 {d : Nat} {l0 l1 l2 l3 l4 l5 : Option Value} {v2 v3 : Value} {x y : Int32} {m : jmM} {Q : Option Value → jmM → Prop} : AW d 278 106 [l0, l1, l2, l3, l4, l5] [.int y, .int x, v2, v3] m Q ↔ AW d 278 107 [l0, l1, l2, l3, l4, l5] [.int (x - y), v2, v3] m Q := A_isub hB_X12_tries dX12_tries_106
theorem dX12_tries_107 : decode cX12_tries 107 = .ok (.invokevirtual 419, 3) := by decide +kernel
theorem tX12_tries_107 {d : Nat} {l0 l1 l2 l3 l4 l5 : Option Value} {y0 y1 : Value} {a : Nat} {m : jmM} {Q : Option Value → jmM → Prop} : AW d 278 107 [l0, l1, l2, l3, l4, l5] [y0, y1, .ref a] m Q ↔ (mS m a).1 = 12 ∧ CC d 272 [.ref a, y1, y0] m (jK d 278 110 [l0, l1, l2, l3, l4, l5] [] Q) := A_callV hB_X12_tries dX12_tries_107 hO_X12_tries fS_12_419 ⟨Nat.le_of_ble_eq_true rfl, Nat.le_of_ble_eq_true rfl⟩ rfl rfl rfl
theorem dX12_tries_110 : decode cX12_tries 110 = .ok (.iload 4, 2) := by decide +kernel
theorem tX12_tries_110 {d : Nat} {l0 l1 l2 l3 l5 : Option Value} {x : Int32} {m : jmM} {Q : Option Value → jmM → Prop} : AW d 278 110 [l0, l1, l2, l3, some (.int x), l5] [] m Q ↔ AW d 278 112 [l0, l1, l2, l3, some (.int x), l5] [.int x] m Q := A_iload hB_X12_tries dX12_tries_110 rfl
theorem dX12_tries_112 : decode cX12_tries 112 = .ok (.istore 5, 2) := by decide +kernel
theorem tX12_tries_112 {d : Nat} {l0 l1 l2 l3 l4 l5 : Option Value} {x : Int32} {m : jmM} {Q : Option Value → jmM → Prop} : AW d 278 112 [l0, l1, l2, l3, l4, l5] [.int x] m Q ↔ AW d 278 114 [l0, l1, l2, l3, jc1 l4, some (.int x)] [] m Q := A_istore hB_X12_tries dX12_tries_112 (Nat.le_of_ble_eq_true rfl) rfl
theorem dX12_tries_114 : decode cX12_tries 114 = .ok (.iload 5, 2) := by decide +kernel
theorem tX12_tries_114 {d : Nat} {l0 l1 l2 l3 l4 : Option Value} {x : Int32} {m : jmM} {Q : Option Value → jmM → Prop} : AW d 278 114 [l0, l1, l2, l3, l4, some (.int x)] [] m Q ↔ AW d 278 116 [l0, l1, l2, l3, l4, some (.int x)] [.int x] m Q := A_iload hB_X12_tries dX12_tries_114 rfl
theorem dX12_tries_116 : decode cX12_tries 116 = .ok (.aload_n 0, 1) := by decide +kernel
theorem tX12_tries_116 {d : Nat} {l1 l2 l3 l4 l5 : Option Value} {v0 : Value} {x : Nat} {m : jmM} {Q : Option Value → jmM → Prop} : AW d 278 116 [some (.ref x), l1, l2, l3, l4, l5] [v0] m Q ↔ AW d 278 117 [some (.ref x), l1, l2, l3, l4, l5] [.ref x, v0] m Q := A_aload_n hB_X12_tries dX12_tries_116 rfl
theorem dX12_tries_117 : decode cX12_tries 117 = .ok (.getfield 51, 3) := by decide +kernel
theorem tX12_tries_117 {d : Nat} {l0 l1 l2 l3 l4 l5 : Option Value} {v1 : Value} {a : Nat} {m : jmM} {Q : Option Value → jmM → Prop} : AW d 278 117 [l0, l1, l2, l3, l4, l5] [.ref a, v1] m Q ↔ (mS m a).1 = 12 ∧ AW d 278 120 [l0, l1, l2, l3, l4, l5] [va_rf (mR m a 25), v1] m Q := A_getfield (f := fun m a => va_rf (mR m a 25)) hB_X12_tries dX12_tries_117 hO_X12_tries fF_12_51 rfl
theorem dX12_tries_120 : decode cX12_tries 120 = .ok (.bipush 15, 2) := by decide +kernel
theorem tX12_tries_120 {d : Nat} {l0 l1 l2 l3 l4 l5 : Option Value} {v0 v1 : Value} {m : jmM} {Q : Option Value → jmM → Prop} : AW d 278 120 [l0, l1, l2, l3, l4, l5] [v0, v1] m Q ↔ AW d 278 122 [l0, l1, l2, l3, l4, l5] [.int 15, v0, v1] m Q := A_bipush hB_X12_tries dX12_tries_120 rfl
theorem dX12_tries_122 : decode cX12_tries 122 = .ok (.iaload, 1) := by decide +kernel
theorem tX12_tries_122 {d : Nat} {l0 l1 l2 l3 l4 l5 : Option Value} {v2 : Value} {i : Int32} {a : Nat} {m : jmM} {Q : Option Value → jmM → Prop} : AW d 278 122 [l0, l1, l2, l3, l4, l5] [.int i, .ref a, v2] m Q ↔ (((mS m a).1 = 20 ∨ a = jScr) ∧ jIx i (mS m a).2) ∧ AW d 278 123 [l0, l1, l2, l3, l4, l5] [.int (mI m a (jx i)), v2] m Q := A_iaload hB_X12_tries dX12_tries_122
theorem dX12_tries_123 : decode cX12_tries 123 = .ok (.if_icmp .ge 25, 3) := by decide +kernel
theorem tX12_tries_123 {d : Nat} {l0 l1 l2 l3 l4 l5 : Option Value} {x y : Int32} {m : jmM} {Q : Option Value → jmM → Prop} : AW d 278 123 [l0, l1, l2, l3, l4, l5] [.int y, .int x] m Q ↔ if y ≤ x then AW d 278 148 [l0, l1, l2, l3, l4, l5] [] m Q else AW d 278 126 [l0, l1, l2, l3, l4, l5] [] m Q := A_icmp_ge hB_X12_tries dX12_tries_123 (by decide)
theorem dX12_tries_126 : decode cX12_tries 126 = .ok (.aload_n 0, 1) := by decide +kernel
theorem tX12_tries_126 {d : Nat} {l1 l2 l3 l4 l5 : Option Value} {x : Nat} {m : jmM} {Q : Option Value → jmM → Prop} : AW d 278 126 [some (.ref x), l1, l2, l3, l4, l5] [] m Q ↔ AW d 278 127 [some (.ref x), l1, l2, l3, l4, l5] [.ref x] m Q := A_aload_n hB_X12_tries dX12_tries_126 rfl
theorem dX12_tries_127 : decode cX12_tries 127 = .ok (.dup, 1) := by decide +kernel
theorem tX12_tries_127 {d : Nat} {l0 l1 l2 l3 l4 l5 : Option Value} {x : Nat} {m : jmM} {Q : Option Value → jmM → Prop} : AW d 278 127 [l0, l1, l2, l3, l4, l5] [.ref x] m Q ↔ AW d 278 128 [l0, l1, l2, l3, l4, l5] [.ref x, .ref x] m Q := A_dup_a hB_X12_tries dX12_tries_127
theorem dX12_tries_128 : decode cX12_tries 128 = .ok (.getfield 433, 3) := by decide +kernel
theorem tX12_tries_128 {d : Nat} {l0 l1 l2 l3 l4 l5 : Option Value} {v1 : Value} {a : Nat} {m : jmM} {Q : Option Value → jmM → Prop} : AW d 278 128 [l0, l1, l2, l3, l4, l5] [.ref a, v1] m Q ↔ (mS m a).1 = 12 ∧ AW d 278 131 [l0, l1, l2, l3, l4, l5] [.int (mI m a 45), v1] m Q := A_getfield (f := fun m a => .int (mI m a 45)) hB_X12_tries dX12_tries_128 hO_X12_tries fF_12_433 rfl
theorem dX12_tries_131 : decode cX12_tries 131 = .ok (.aload_n 0, 1) := by decide +kernel
theorem tX12_tries_131 {d : Nat} {l1 l2 l3 l4 l5 : Option Value} {v0 v1 : Value} {x : Nat} {m : jmM} {Q : Option Value → jmM → Prop} : AW d 278 131 [some (.ref x), l1, l2, l3, l4, l5] [v0, v1] m Q ↔ AW d 278 132 [some (.ref x), l1, l2, l3, l4, l5] [.ref x, v0, v1] m Q := A_aload_n hB_X12_tries dX12_tries_131 rfl
theorem dX12_tries_132 : decode cX12_tries 132 = .ok (.iload 5, 2) := by decide +kernel
theorem tX12_tries_132 {d : Nat} {l0 l1 l2 l3 l4 : Option Value} {v0 v1 v2 : Value} {x : Int32} {m : jmM} {Q : Option Value → jmM → Prop} : AW d 278 132 [l0, l1, l2, l3, l4, some (.int x)] [v0, v1, v2] m Q ↔ AW d 278 134 [l0, l1, l2, l3, l4, some (.int x)] [.int x, v0, v1, v2] m Q := A_iload hB_X12_tries dX12_tries_132 rfl
theorem dX12_tries_134 : decode cX12_tries 134 = .ok (.iconst 3, 1) := by decide +kernel
theorem tX12_tries_134 {d : Nat} {l0 l1 l2 l3 l4 l5 : Option Value} {v0 v1 v2 v3 : Value} {m : jmM} {Q : Option Value → jmM → Prop} : AW d 278 134 [l0, l1, l2, l3, l4, l5] [v0, v1, v2, v3] m Q ↔ AW d 278 135 [l0, l1, l2, l3, l4, l5] [.int 3, v0, v1, v2, v3] m Q := A_iconst hB_X12_tries dX12_tries_134 (by decide)
theorem dX12_tries_135 : decode cX12_tries 135 = .ok (.invokevirtual 297, 3) := by decide +kernel
theorem tX12_tries_135 {d : Nat} {l0 l1 l2 l3 l4 l5 : Option Value} {v3 v4 : Value} {y0 y1 : Value} {a : Nat} {m : jmM} {Q : Option Value → jmM → Prop} : AW d 278 135 [l0, l1, l2, l3, l4, l5] [y0, y1, .ref a, v3, v4] m Q ↔ (mS m a).1 = 12 ∧ CC d 229 [.ref a, y1, y0] m (jK d 278 138 [l0, l1, l2, l3, l4, l5] [v3, v4] Q) := A_callV hB_X12_tries dX12_tries_135 hO_X12_tries fS_12_297 ⟨Nat.le_of_ble_eq_true rfl, Nat.le_of_ble_eq_true rfl⟩ rfl rfl rfl
theorem dX12_tries_138 : decode cX12_tries 138 = .ok (.iadd, 1) := by decide +kernel
theorem tX12_tries_138 {d : Nat} {l0 l1 l2 l3 l4 l5 : Option Value} {v2 : Value} {x y : Int32} {m : jmM} {Q : Option Value → jmM → Prop} : AW d 278 138 [l0, l1, l2, l3, l4, l5] [.int y, .int x, v2] m Q ↔ AW d 278 139 [l0, l1, l2, l3, l4, l5] [.int (x + y), v2] m Q := A_iadd hB_X12_tries dX12_tries_138
theorem dX12_tries_139 : decode cX12_tries 139 = .ok (.putfield 433, 3) := by decide +kernel
theorem tX12_tries_139 {d : Nat} {l0 l1 l2 l3 l4 l5 : Option Value} {x : Int32} {a : Nat} {m : jmM} {Q : Option Value → jmM → Prop} : AW d 278 139 [l0, l1, l2, l3, l4, l5] [.int x, .ref a] m Q ↔ (mS m a).1 = 12 ∧ AW d 278 142 [l0, l1, l2, l3, l4, l5] [] (cI m a (jup (mI m a) 45 x)) Q := A_putI hB_X12_tries dX12_tries_139 hO_X12_tries fF_12_433 rfl (fun h => Bool.noConfusion h)
theorem dX12_tries_142 : decode cX12_tries 142 = .ok (.iinc 5 1, 3) := by decide +kernel
theorem tX12_tries_142 {d : Nat} {l0 l1 l2 l3 l4 : Option Value} {x : Int32} {m : jmM} {Q : Option Value → jmM → Prop} : AW d 278 142 [l0, l1, l2, l3, l4, some (.int x)] [] m Q ↔ AW d 278 145 [l0, l1, l2, l3, jc1 l4, some (.int (x + 1))] [] m Q := A_iinc hB_X12_tries dX12_tries_142 rfl (Nat.le_of_ble_eq_true rfl) (v := 1) (by decide) rfl
theorem dX12_tries_145 : decode cX12_tries 145 = .ok (.goto (-31), 3) := by decide +kernel
theorem tX12_tries_145 {d : Nat} {l0 l1 l2 l3 l4 l5 : Option Value} {m : jmM} {Q : Option Value → jmM → Prop} : AW d 278 145 [l0, l1, l2, l3, l4, l5] [] m Q ↔ AW d 278 114 [l0, l1, l2, l3, l4, l5] [] m Q := A_goto hB_X12_tries dX12_tries_145 (by decide)
theorem dX12_tries_148 : decode cX12_tries 148 = .ok (.aload_n 0, 1) := by decide +kernel
theorem tX12_tries_148 {d : Nat} {l1 l2 l3 l4 l5 : Option Value} {x : Nat} {m : jmM} {Q : Option Value → jmM → Prop} : AW d 278 148 [some (.ref x), l1, l2, l3, l4, l5] [] m Q ↔ AW d 278 149 [some (.ref x), l1, l2, l3, l4, l5] [.ref x] m Q := A_aload_n hB_X12_tries dX12_tries_148 rfl
theorem dX12_tries_149 : decode cX12_tries 149 = .ok (.aload_n 0, 1) := by decide +kernel
theorem tX12_tries_149 {d : Nat} {l1 l2 l3 l4 l5 : Option Value} {v0 : Value} {x : Nat} {m : jmM} {Q : Option Value → jmM → Prop} : AW d 278 149 [some (.ref x), l1, l2, l3, l4, l5] [v0] m Q ↔ AW d 278 150 [some (.ref x), l1, l2, l3, l4, l5] [.ref x, v0] m Q := A_aload_n hB_X12_tries dX12_tries_149 rfl
theorem dX12_tries_150 : decode cX12_tries 150 = .ok (.getfield 51, 3) := by decide +kernel
theorem tX12_tries_150 {d : Nat} {l0 l1 l2 l3 l4 l5 : Option Value} {v1 : Value} {a : Nat} {m : jmM} {Q : Option Value → jmM → Prop} : AW d 278 150 [l0, l1, l2, l3, l4, l5] [.ref a, v1] m Q ↔ (mS m a).1 = 12 ∧ AW d 278 153 [l0, l1, l2, l3, l4, l5] [va_rf (mR m a 25), v1] m Q := A_getfield (f := fun m a => va_rf (mR m a 25)) hB_X12_tries dX12_tries_150 hO_X12_tries fF_12_51 rfl
theorem dX12_tries_153 : decode cX12_tries 153 = .ok (.bipush 10, 2) := by decide +kernel
theorem tX12_tries_153 {d : Nat} {l0 l1 l2 l3 l4 l5 : Option Value} {v0 v1 : Value} {m : jmM} {Q : Option Value → jmM → Prop} : AW d 278 153 [l0, l1, l2, l3, l4, l5] [v0, v1] m Q ↔ AW d 278 155 [l0, l1, l2, l3, l4, l5] [.int 10, v0, v1] m Q := A_bipush hB_X12_tries dX12_tries_153 rfl
theorem dX12_tries_155 : decode cX12_tries 155 = .ok (.iaload, 1) := by decide +kernel
theorem tX12_tries_155 {d : Nat} {l0 l1 l2 l3 l4 l5 : Option Value} {v2 : Value} {i : Int32} {a : Nat} {m : jmM} {Q : Option Value → jmM → Prop} : AW d 278 155 [l0, l1, l2, l3, l4, l5] [.int i, .ref a, v2] m Q ↔ (((mS m a).1 = 20 ∨ a = jScr) ∧ jIx i (mS m a).2) ∧ AW d 278 156 [l0, l1, l2, l3, l4, l5] [.int (mI m a (jx i)), v2] m Q := A_iaload hB_X12_tries dX12_tries_155
theorem dX12_tries_156 : decode cX12_tries 156 = .ok (.putfield 436, 3) := by decide +kernel
theorem tX12_tries_156 {d : Nat} {l0 l1 l2 l3 l4 l5 : Option Value} {x : Int32} {a : Nat} {m : jmM} {Q : Option Value → jmM → Prop} : AW d 278 156 [l0, l1, l2, l3, l4, l5] [.int x, .ref a] m Q ↔ (mS m a).1 = 12 ∧ AW d 278 159 [l0, l1, l2, l3, l4, l5] [] (cI m a (jup (mI m a) 46 x)) Q := A_putI hB_X12_tries dX12_tries_156 hO_X12_tries fF_12_436 rfl (fun h => Bool.noConfusion h)
theorem dX12_tries_159 : decode cX12_tries 159 = .ok (.aload_n 0, 1) := by decide +kernel
theorem tX12_tries_159 {d : Nat} {l1 l2 l3 l4 l5 : Option Value} {x : Nat} {m : jmM} {Q : Option Value → jmM → Prop} : AW d 278 159 [some (.ref x), l1, l2, l3, l4, l5] [] m Q ↔ AW d 278 160 [some (.ref x), l1, l2, l3, l4, l5] [.ref x] m Q := A_aload_n hB_X12_tries dX12_tries_159 rfl
theorem dX12_tries_160 : decode cX12_tries 160 = .ok (.iconst 4, 1) := by decide +kernel
theorem tX12_tries_160 {d : Nat} {l0 l1 l2 l3 l4 l5 : Option Value} {v0 : Value} {m : jmM} {Q : Option Value → jmM → Prop} : AW d 278 160 [l0, l1, l2, l3, l4, l5] [v0] m Q ↔ AW d 278 161 [l0, l1, l2, l3, l4, l5] [.int 4, v0] m Q := A_iconst hB_X12_tries dX12_tries_160 (by decide)
theorem dX12_tries_161 : decode cX12_tries 161 = .ok (.invokevirtual 427, 3) := by decide +kernel
theorem tX12_tries_161 {d : Nat} {l0 l1 l2 l3 l4 l5 : Option Value} {y0 : Value} {a : Nat} {m : jmM} {Q : Option Value → jmM → Prop} : AW d 278 161 [l0, l1, l2, l3, l4, l5] [y0, .ref a] m Q ↔ (mS m a).1 = 12 ∧ CC d 275 [.ref a, y0] m (jK d 278 164 [l0, l1, l2, l3, l4, l5] [] Q) := A_callV hB_X12_tries dX12_tries_161 hO_X12_tries fS_12_427 ⟨Nat.le_of_ble_eq_true rfl, Nat.le_of_ble_eq_true rfl⟩ rfl rfl rfl
theorem dX12_tries_164 : decode cX12_tries 164 = .ok (.return_, 1) := by decide +kernel
theorem tX12_tries_164 {d : Nat} {l0 l1 l2 l3 l4 l5 : Option Value} {m : jmM} {Q : Option Value → jmM → Prop} : AW d 278 164 [l0, l1, l2, l3, l4, l5] [] m Q ↔ Q none m := A_return hB_X12_tries dX12_tries_164 hR_X12_tries
theorem hB_X12_tried : jB 279 = cX12_tried := rfl
theorem hO_X12_tried : jO 279 = 12 := rfl
theorem hR_X12_tried : jRt 279 = (some .int) := rfl
theorem nX12_tried (d : Nat) (x0 : Nat) (x1 : Int32) (x2 : Int32) (x3 : Int32) (x4 : Int32) (m : jmM) (Q : Option Value → jmM → Prop) : CC (d + 1) 279 [.ref x0, .int x1, .int x2, .int x3, .int x4] m Q ↔ AW d 279 0 [some (.ref x0), some (.int x1), some (.int x2), some (.int x3), some (.int x4)] [] m Q := CC_body (Nat.le_of_ble_eq_true rfl)
theorem dX12_tried_0 : decode cX12_tried 0 = .ok (.aload_n 0, 1) := by decide +kernel
theorem tX12_tried_0 {d : Nat} {l1 l2 l3 l4 : Option Value} {x : Nat} {m : jmM} {Q : Option Value → jmM → Prop} : AW d 279 0 [some (.ref x), l1, l2, l3, l4] [] m Q ↔ AW d 279 1 [some (.ref x), l1, l2, l3, l4] [.ref x] m Q := A_aload_n hB_X12_tried dX12_tried_0 rfl
theorem dX12_tried_1 : decode cX12_tried 1 = .ok (.getfield 51, 3) := by decide +kernel
theorem tX12_tried_1 {d : Nat} {l0 l1 l2 l3 l4 : Option Value} {a : Nat} {m : jmM} {Q : Option Value → jmM → Prop} : AW d 279 1 [l0, l1, l2, l3, l4] [.ref a] m Q ↔ (mS m a).1 = 12 ∧ AW d 279 4 [l0, l1, l2, l3, l4] [va_rf (mR m a 25)] m Q := A_getfield (f := fun m a => va_rf (mR m a 25)) hB_X12_tried dX12_tried_1 hO_X12_tried fF_12_51 rfl
theorem dX12_tried_4 : decode cX12_tried 4 = .ok (.iconst 0, 1) := by decide +kernel
theorem tX12_tried_4 {d : Nat} {l0 l1 l2 l3 l4 : Option Value} {v0 : Value} {m : jmM} {Q : Option Value → jmM → Prop} : AW d 279 4 [l0, l1, l2, l3, l4] [v0] m Q ↔ AW d 279 5 [l0, l1, l2, l3, l4] [.int 0, v0] m Q := A_iconst hB_X12_tried dX12_tried_4 (by decide)
theorem dX12_tried_5 : decode cX12_tried 5 = .ok (.iaload, 1) := by decide +kernel
theorem tX12_tried_5 {d : Nat} {l0 l1 l2 l3 l4 : Option Value} {i : Int32} {a : Nat} {m : jmM} {Q : Option Value → jmM → Prop} : AW d 279 5 [l0, l1, l2, l3, l4] [.int i, .ref a] m Q ↔ (((mS m a).1 = 20 ∨ a = jScr) ∧ jIx i (mS m a).2) ∧ AW d 279 6 [l0, l1, l2, l3, l4] [.int (mI m a (jx i))] m Q := A_iaload hB_X12_tried dX12_tried_5
theorem dX12_tried_6 : decode cX12_tried 6 = .ok (.ifCond .eq 58, 3) := by decide +kernel
theorem tX12_tried_6 {d : Nat} {l0 l1 l2 l3 l4 : Option Value} {x : Int32} {m : jmM} {Q : Option Value → jmM → Prop} : AW d 279 6 [l0, l1, l2, l3, l4] [.int x] m Q ↔ if x = 0 then AW d 279 64 [l0, l1, l2, l3, l4] [] m Q else AW d 279 9 [l0, l1, l2, l3, l4] [] m Q := A_if_eq hB_X12_tried dX12_tried_6 (by decide)
theorem dX12_tried_9 : decode cX12_tried 9 = .ok (.iload_n 1, 1) := by decide +kernel
theorem tX12_tried_9 {d : Nat} {l0 l2 l3 l4 : Option Value} {x : Int32} {m : jmM} {Q : Option Value → jmM → Prop} : AW d 279 9 [l0, some (.int x), l2, l3, l4] [] m Q ↔ AW d 279 10 [l0, some (.int x), l2, l3, l4] [.int x] m Q := A_iload_n hB_X12_tried dX12_tried_9 rfl
theorem dX12_tried_10 : decode cX12_tried 10 = .ok (.i2l, 1) := by decide +kernel
theorem tX12_tried_10 {d : Nat} {l0 l1 l2 l3 l4 : Option Value} {x : Int32} {m : jmM} {Q : Option Value → jmM → Prop} : AW d 279 10 [l0, l1, l2, l3, l4] [.int x] m Q ↔ AW d 279 11 [l0, l1, l2, l3, l4] [.long x.toInt64] m Q := A_i2l hB_X12_tried dX12_tried_10
theorem dX12_tried_11 : decode cX12_tried 11 = .ok (.lconst 0, 1) := by decide +kernel
theorem tX12_tried_11 {d : Nat} {l0 l1 l2 l3 l4 : Option Value} {v0 : Value} {m : jmM} {Q : Option Value → jmM → Prop} : AW d 279 11 [l0, l1, l2, l3, l4] [v0] m Q ↔ AW d 279 12 [l0, l1, l2, l3, l4] [.long 0, v0] m Q := A_lconst hB_X12_tried dX12_tried_11 (by decide)
theorem dX12_tried_12 : decode cX12_tried 12 = .ok (.aload_n 0, 1) := by decide +kernel
theorem tX12_tried_12 {d : Nat} {l1 l2 l3 l4 : Option Value} {v0 v1 : Value} {x : Nat} {m : jmM} {Q : Option Value → jmM → Prop} : AW d 279 12 [some (.ref x), l1, l2, l3, l4] [v0, v1] m Q ↔ AW d 279 13 [some (.ref x), l1, l2, l3, l4] [.ref x, v0, v1] m Q := A_aload_n hB_X12_tried dX12_tried_12 rfl
theorem dX12_tried_13 : decode cX12_tried 13 = .ok (.getfield 257, 3) := by decide +kernel
theorem tX12_tried_13 {d : Nat} {l0 l1 l2 l3 l4 : Option Value} {v1 v2 : Value} {a : Nat} {m : jmM} {Q : Option Value → jmM → Prop} : AW d 279 13 [l0, l1, l2, l3, l4] [.ref a, v1, v2] m Q ↔ (mS m a).1 = 12 ∧ AW d 279 16 [l0, l1, l2, l3, l4] [.int (mI m a 10), v1, v2] m Q := A_getfield (f := fun m a => .int (mI m a 10)) hB_X12_tried dX12_tried_13 hO_X12_tried fF_12_257 rfl
theorem dX12_tried_16 : decode cX12_tried 16 = .ok (.iconst 1, 1) := by decide +kernel
theorem tX12_tried_16 {d : Nat} {l0 l1 l2 l3 l4 : Option Value} {v0 v1 v2 : Value} {m : jmM} {Q : Option Value → jmM → Prop} : AW d 279 16 [l0, l1, l2, l3, l4] [v0, v1, v2] m Q ↔ AW d 279 17 [l0, l1, l2, l3, l4] [.int 1, v0, v1, v2] m Q := A_iconst hB_X12_tried dX12_tried_16 (by decide)
theorem dX12_tried_17 : decode cX12_tried 17 = .ok (.isub, 1) := by decide +kernel
theorem tX12_tried_17 {d : Nat} {l0 l1 l2 l3 l4 : Option Value} {v2 v3 : Value} {x y : Int32} {m : jmM} {Q : Option Value → jmM → Prop} : AW d 279 17 [l0, l1, l2, l3, l4] [.int y, .int x, v2, v3] m Q ↔ AW d 279 18 [l0, l1, l2, l3, l4] [.int (x - y), v2, v3] m Q := A_isub hB_X12_tried dX12_tried_17
theorem dX12_tried_18 : decode cX12_tried 18 = .ok (.i2l, 1) := by decide +kernel
theorem tX12_tried_18 {d : Nat} {l0 l1 l2 l3 l4 : Option Value} {v1 v2 : Value} {x : Int32} {m : jmM} {Q : Option Value → jmM → Prop} : AW d 279 18 [l0, l1, l2, l3, l4] [.int x, v1, v2] m Q ↔ AW d 279 19 [l0, l1, l2, l3, l4] [.long x.toInt64, v1, v2] m Q := A_i2l hB_X12_tried dX12_tried_18
theorem dX12_tried_19 : decode cX12_tried 19 = .ok (.invokestatic 281, 3) := by decide +kernel
theorem tX12_tried_19 {d : Nat} {l0 l1 l2 l3 l4 : Option Value} {y0 y1 y2 : Value} {m : jmM} {Q : Option Value → jmM → Prop} : AW d 279 19 [l0, l1, l2, l3, l4] [y0, y1, y2] m Q ↔ CC d 189 [y2, y1, y0] m (jK d 279 22 [l0, l1, l2, l3, l4] [] Q) := A_callS0 hB_X12_tried dX12_tried_19 hO_X12_tried fS_12_281 ⟨Nat.le_of_ble_eq_true rfl, Nat.le_of_ble_eq_true rfl⟩ rfl rfl
theorem dX12_tried_22 : decode cX12_tried 22 = .ok (.ifCond .eq 42, 3) := by decide +kernel
theorem tX12_tried_22 {d : Nat} {l0 l1 l2 l3 l4 : Option Value} {x : Int32} {m : jmM} {Q : Option Value → jmM → Prop} : AW d 279 22 [l0, l1, l2, l3, l4] [.int x] m Q ↔ if x = 0 then AW d 279 64 [l0, l1, l2, l3, l4] [] m Q else AW d 279 25 [l0, l1, l2, l3, l4] [] m Q := A_if_eq hB_X12_tried dX12_tried_22 (by decide)
theorem dX12_tried_25 : decode cX12_tried 25 = .ok (.iload_n 2, 1) := by decide +kernel
theorem tX12_tried_25 {d : Nat} {l0 l1 l3 l4 : Option Value} {x : Int32} {m : jmM} {Q : Option Value → jmM → Prop} : AW d 279 25 [l0, l1, some (.int x), l3, l4] [] m Q ↔ AW d 279 26 [l0, l1, some (.int x), l3, l4] [.int x] m Q := A_iload_n hB_X12_tried dX12_tried_25 rfl
theorem dX12_tried_26 : decode cX12_tried 26 = .ok (.i2l, 1) := by decide +kernel
theorem tX12_tried_26 {d : Nat} {l0 l1 l2 l3 l4 : Option Value} {x : Int32} {m : jmM} {Q : Option Value → jmM → Prop} : AW d 279 26 [l0, l1, l2, l3, l4] [.int x] m Q ↔ AW d 279 27 [l0, l1, l2, l3, l4] [.long x.toInt64] m Q := A_i2l hB_X12_tried dX12_tried_26
theorem dX12_tried_27 : decode cX12_tried 27 = .ok (.lconst 1, 1) := by decide +kernel
theorem tX12_tried_27 {d : Nat} {l0 l1 l2 l3 l4 : Option Value} {v0 : Value} {m : jmM} {Q : Option Value → jmM → Prop} : AW d 279 27 [l0, l1, l2, l3, l4] [v0] m Q ↔ AW d 279 28 [l0, l1, l2, l3, l4] [.long 1, v0] m Q := A_lconst hB_X12_tried dX12_tried_27 (by decide)
theorem dX12_tried_28 : decode cX12_tried 28 = .ok (.ldc2_w 439, 3) := by decide +kernel
theorem tX12_tried_28 {d : Nat} {l0 l1 l2 l3 l4 : Option Value} {v0 v1 : Value} {m : jmM} {Q : Option Value → jmM → Prop} : AW d 279 28 [l0, l1, l2, l3, l4] [v0, v1] m Q ↔ AW d 279 31 [l0, l1, l2, l3, l4] [.long 300, v0, v1] m Q := A_ldc2_w hB_X12_tried dX12_tried_28 hO_X12_tried fL2_12_439
theorem dX12_tried_31 : decode cX12_tried 31 = .ok (.invokestatic 281, 3) := by decide +kernel
theorem tX12_tried_31 {d : Nat} {l0 l1 l2 l3 l4 : Option Value} {y0 y1 y2 : Value} {m : jmM} {Q : Option Value → jmM → Prop} : AW d 279 31 [l0, l1, l2, l3, l4] [y0, y1, y2] m Q ↔ CC d 189 [y2, y1, y0] m (jK d 279 34 [l0, l1, l2, l3, l4] [] Q) := A_callS0 hB_X12_tried dX12_tried_31 hO_X12_tried fS_12_281 ⟨Nat.le_of_ble_eq_true rfl, Nat.le_of_ble_eq_true rfl⟩ rfl rfl
theorem dX12_tried_34 : decode cX12_tried 34 = .ok (.ifCond .eq 30, 3) := by decide +kernel
theorem tX12_tried_34 {d : Nat} {l0 l1 l2 l3 l4 : Option Value} {x : Int32} {m : jmM} {Q : Option Value → jmM → Prop} : AW d 279 34 [l0, l1, l2, l3, l4] [.int x] m Q ↔ if x = 0 then AW d 279 64 [l0, l1, l2, l3, l4] [] m Q else AW d 279 37 [l0, l1, l2, l3, l4] [] m Q := A_if_eq hB_X12_tried dX12_tried_34 (by decide)
theorem dX12_tried_37 : decode cX12_tried 37 = .ok (.iload_n 3, 1) := by decide +kernel
theorem tX12_tried_37 {d : Nat} {l0 l1 l2 l4 : Option Value} {x : Int32} {m : jmM} {Q : Option Value → jmM → Prop} : AW d 279 37 [l0, l1, l2, some (.int x), l4] [] m Q ↔ AW d 279 38 [l0, l1, l2, some (.int x), l4] [.int x] m Q := A_iload_n hB_X12_tried dX12_tried_37 rfl
theorem dX12_tried_38 : decode cX12_tried 38 = .ok (.i2l, 1) := by decide +kernel
theorem tX12_tried_38 {d : Nat} {l0 l1 l2 l3 l4 : Option Value} {x : Int32} {m : jmM} {Q : Option Value → jmM → Prop} : AW d 279 38 [l0, l1, l2, l3, l4] [.int x] m Q ↔ AW d 279 39 [l0, l1, l2, l3, l4] [.long x.toInt64] m Q := A_i2l hB_X12_tried dX12_tried_38
theorem dX12_tried_39 : decode cX12_tried 39 = .ok (.ldc2_w 313, 3) := by decide +kernel
theorem tX12_tried_39 {d : Nat} {l0 l1 l2 l3 l4 : Option Value} {v0 : Value} {m : jmM} {Q : Option Value → jmM → Prop} : AW d 279 39 [l0, l1, l2, l3, l4] [v0] m Q ↔ AW d 279 42 [l0, l1, l2, l3, l4] [.long (-9999), v0] m Q := A_ldc2_w hB_X12_tried dX12_tried_39 hO_X12_tried fL2_12_313
theorem dX12_tried_42 : decode cX12_tried 42 = .ok (.ldc2_w 291, 3) := by decide +kernel
theorem tX12_tried_42 {d : Nat} {l0 l1 l2 l3 l4 : Option Value} {v0 v1 : Value} {m : jmM} {Q : Option Value → jmM → Prop} : AW d 279 42 [l0, l1, l2, l3, l4] [v0, v1] m Q ↔ AW d 279 45 [l0, l1, l2, l3, l4] [.long 9999, v0, v1] m Q := A_ldc2_w hB_X12_tried dX12_tried_42 hO_X12_tried fL2_12_291
theorem dX12_tried_45 : decode cX12_tried 45 = .ok (.invokestatic 281, 3) := by decide +kernel
theorem tX12_tried_45 {d : Nat} {l0 l1 l2 l3 l4 : Option Value} {y0 y1 y2 : Value} {m : jmM} {Q : Option Value → jmM → Prop} : AW d 279 45 [l0, l1, l2, l3, l4] [y0, y1, y2] m Q ↔ CC d 189 [y2, y1, y0] m (jK d 279 48 [l0, l1, l2, l3, l4] [] Q) := A_callS0 hB_X12_tried dX12_tried_45 hO_X12_tried fS_12_281 ⟨Nat.le_of_ble_eq_true rfl, Nat.le_of_ble_eq_true rfl⟩ rfl rfl
theorem dX12_tried_48 : decode cX12_tried 48 = .ok (.ifCond .eq 16, 3) := by decide +kernel
theorem tX12_tried_48 {d : Nat} {l0 l1 l2 l3 l4 : Option Value} {x : Int32} {m : jmM} {Q : Option Value → jmM → Prop} : AW d 279 48 [l0, l1, l2, l3, l4] [.int x] m Q ↔ if x = 0 then AW d 279 64 [l0, l1, l2, l3, l4] [] m Q else AW d 279 51 [l0, l1, l2, l3, l4] [] m Q := A_if_eq hB_X12_tried dX12_tried_48 (by decide)
theorem dX12_tried_51 : decode cX12_tried 51 = .ok (.iload 4, 2) := by decide +kernel
theorem tX12_tried_51 {d : Nat} {l0 l1 l2 l3 : Option Value} {x : Int32} {m : jmM} {Q : Option Value → jmM → Prop} : AW d 279 51 [l0, l1, l2, l3, some (.int x)] [] m Q ↔ AW d 279 53 [l0, l1, l2, l3, some (.int x)] [.int x] m Q := A_iload hB_X12_tried dX12_tried_51 rfl
theorem dX12_tried_53 : decode cX12_tried 53 = .ok (.i2l, 1) := by decide +kernel
theorem tX12_tried_53 {d : Nat} {l0 l1 l2 l3 l4 : Option Value} {x : Int32} {m : jmM} {Q : Option Value → jmM → Prop} : AW d 279 53 [l0, l1, l2, l3, l4] [.int x] m Q ↔ AW d 279 54 [l0, l1, l2, l3, l4] [.long x.toInt64] m Q := A_i2l hB_X12_tried dX12_tried_53
theorem dX12_tried_54 : decode cX12_tried 54 = .ok (.lconst 0, 1) := by decide +kernel
theorem tX12_tried_54 {d : Nat} {l0 l1 l2 l3 l4 : Option Value} {v0 : Value} {m : jmM} {Q : Option Value → jmM → Prop} : AW d 279 54 [l0, l1, l2, l3, l4] [v0] m Q ↔ AW d 279 55 [l0, l1, l2, l3, l4] [.long 0, v0] m Q := A_lconst hB_X12_tried dX12_tried_54 (by decide)
theorem dX12_tried_55 : decode cX12_tried 55 = .ok (.ldc2_w 441, 3) := by decide +kernel
theorem tX12_tried_55 {d : Nat} {l0 l1 l2 l3 l4 : Option Value} {v0 v1 : Value} {m : jmM} {Q : Option Value → jmM → Prop} : AW d 279 55 [l0, l1, l2, l3, l4] [v0, v1] m Q ↔ AW d 279 58 [l0, l1, l2, l3, l4] [.long 4, v0, v1] m Q := A_ldc2_w hB_X12_tried dX12_tried_55 hO_X12_tried fL2_12_441
theorem dX12_tried_58 : decode cX12_tried 58 = .ok (.invokestatic 281, 3) := by decide +kernel
theorem tX12_tried_58 {d : Nat} {l0 l1 l2 l3 l4 : Option Value} {y0 y1 y2 : Value} {m : jmM} {Q : Option Value → jmM → Prop} : AW d 279 58 [l0, l1, l2, l3, l4] [y0, y1, y2] m Q ↔ CC d 189 [y2, y1, y0] m (jK d 279 61 [l0, l1, l2, l3, l4] [] Q) := A_callS0 hB_X12_tried dX12_tried_58 hO_X12_tried fS_12_281 ⟨Nat.le_of_ble_eq_true rfl, Nat.le_of_ble_eq_true rfl⟩ rfl rfl
theorem dX12_tried_61 : decode cX12_tried 61 = .ok (.ifCond .ne 5, 3) := by decide +kernel
theorem tX12_tried_61 {d : Nat} {l0 l1 l2 l3 l4 : Option Value} {x : Int32} {m : jmM} {Q : Option Value → jmM → Prop} : AW d 279 61 [l0, l1, l2, l3, l4] [.int x] m Q ↔ if x = 0 then AW d 279 64 [l0, l1, l2, l3, l4] [] m Q else AW d 279 66 [l0, l1, l2, l3, l4] [] m Q := A_if_ne hB_X12_tried dX12_tried_61 (by decide)
theorem dX12_tried_64 : decode cX12_tried 64 = .ok (.iconst (-1), 1) := by decide +kernel
theorem tX12_tried_64 {d : Nat} {l0 l1 l2 l3 l4 : Option Value} {m : jmM} {Q : Option Value → jmM → Prop} : AW d 279 64 [l0, l1, l2, l3, l4] [] m Q ↔ AW d 279 65 [l0, l1, l2, l3, l4] [.int (-1)] m Q := A_iconst hB_X12_tried dX12_tried_64 (by decide)
theorem dX12_tried_65 : decode cX12_tried 65 = .ok (.ireturn, 1) := by decide +kernel
theorem tX12_tried_65 {d : Nat} {l0 l1 l2 l3 l4 : Option Value} {x : Int32} {m : jmM} {Q : Option Value → jmM → Prop} : AW d 279 65 [l0, l1, l2, l3, l4] [.int x] m Q ↔ Q (some (.int x)) m := A_ireturn hB_X12_tried dX12_tried_65 hR_X12_tried
theorem dX12_tried_66 : decode cX12_tried 66 = .ok (.aload_n 0, 1) := by decide +kernel
theorem tX12_tried_66 {d : Nat} {l1 l2 l3 l4 : Option Value} {x : Nat} {m : jmM} {Q : Option Value → jmM → Prop} : AW d 279 66 [some (.ref x), l1, l2, l3, l4] [] m Q ↔ AW d 279 67 [some (.ref x), l1, l2, l3, l4] [.ref x] m Q := A_aload_n hB_X12_tried dX12_tried_66 rfl
theorem dX12_tried_67 : decode cX12_tried 67 = .ok (.iload_n 1, 1) := by decide +kernel
theorem tX12_tried_67 {d : Nat} {l0 l2 l3 l4 : Option Value} {v0 : Value} {x : Int32} {m : jmM} {Q : Option Value → jmM → Prop} : AW d 279 67 [l0, some (.int x), l2, l3, l4] [v0] m Q ↔ AW d 279 68 [l0, some (.int x), l2, l3, l4] [.int x, v0] m Q := A_iload_n hB_X12_tried dX12_tried_67 rfl
theorem dX12_tried_68 : decode cX12_tried 68 = .ok (.iload_n 2, 1) := by decide +kernel
theorem tX12_tried_68 {d : Nat} {l0 l1 l3 l4 : Option Value} {v0 v1 : Value} {x : Int32} {m : jmM} {Q : Option Value → jmM → Prop} : AW d 279 68 [l0, l1, some (.int x), l3, l4] [v0, v1] m Q ↔ AW d 279 69 [l0, l1, some (.int x), l3, l4] [.int x, v0, v1] m Q := A_iload_n hB_X12_tried dX12_tried_68 rfl
theorem dX12_tried_69 : decode cX12_tried 69 = .ok (.iload_n 3, 1) := by decide +kernel
theorem tX12_tried_69 {d : Nat} {l0 l1 l2 l4 : Option Value} {v0 v1 v2 : Value} {x : Int32} {m : jmM} {Q : Option Value → jmM → Prop} : AW d 279 69 [l0, l1, l2, some (.int x), l4] [v0, v1, v2] m Q ↔ AW d 279 70 [l0, l1, l2, some (.int x), l4] [.int x, v0, v1, v2] m Q := A_iload_n hB_X12_tried dX12_tried_69 rfl
theorem dX12_tried_70 : decode cX12_tried 70 = .ok (.invokevirtual 443, 3) := by decide +kernel
theorem tX12_tried_70 {d : Nat} {l0 l1 l2 l3 l4 : Option Value} {y0 y1 y2 : Value} {a : Nat} {m : jmM} {Q : Option Value → jmM → Prop} : AW d 279 70 [l0, l1, l2, l3, l4] [y0, y1, y2, .ref a] m Q ↔ (mS m a).1 = 12 ∧ CC d 278 [.ref a, y2, y1, y0] m (jK d 279 73 [l0, l1, l2, l3, l4] [] Q) := A_callV hB_X12_tried dX12_tried_70 hO_X12_tried fS_12_443 ⟨Nat.le_of_ble_eq_true rfl, Nat.le_of_ble_eq_true rfl⟩ rfl rfl rfl
theorem dX12_tried_73 : decode cX12_tried 73 = .ok (.iload 4, 2) := by decide +kernel
theorem tX12_tried_73 {d : Nat} {l0 l1 l2 l3 : Option Value} {x : Int32} {m : jmM} {Q : Option Value → jmM → Prop} : AW d 279 73 [l0, l1, l2, l3, some (.int x)] [] m Q ↔ AW d 279 75 [l0, l1, l2, l3, some (.int x)] [.int x] m Q := A_iload hB_X12_tried dX12_tried_73 rfl
theorem dX12_tried_75 : decode cX12_tried 75 = .ok (.ifCond .ne 10, 3) := by decide +kernel
theorem tX12_tried_75 {d : Nat} {l0 l1 l2 l3 l4 : Option Value} {x : Int32} {m : jmM} {Q : Option Value → jmM → Prop} : AW d 279 75 [l0, l1, l2, l3, l4] [.int x] m Q ↔ if x = 0 then AW d 279 78 [l0, l1, l2, l3, l4] [] m Q else AW d 279 85 [l0, l1, l2, l3, l4] [] m Q := A_if_ne hB_X12_tried dX12_tried_75 (by decide)
theorem dX12_tried_78 : decode cX12_tried 78 = .ok (.aload_n 0, 1) := by decide +kernel
theorem tX12_tried_78 {d : Nat} {l1 l2 l3 l4 : Option Value} {x : Nat} {m : jmM} {Q : Option Value → jmM → Prop} : AW d 279 78 [some (.ref x), l1, l2, l3, l4] [] m Q ↔ AW d 279 79 [some (.ref x), l1, l2, l3, l4] [.ref x] m Q := A_aload_n hB_X12_tried dX12_tried_78 rfl
theorem dX12_tried_79 : decode cX12_tried 79 = .ok (.getfield 413, 3) := by decide +kernel
theorem tX12_tried_79 {d : Nat} {l0 l1 l2 l3 l4 : Option Value} {a : Nat} {m : jmM} {Q : Option Value → jmM → Prop} : AW d 279 79 [l0, l1, l2, l3, l4] [.ref a] m Q ↔ (mS m a).1 = 12 ∧ AW d 279 82 [l0, l1, l2, l3, l4] [.int (mI m a 39)] m Q := A_getfield (f := fun m a => .int (mI m a 39)) hB_X12_tried dX12_tried_79 hO_X12_tried fF_12_413 rfl
theorem dX12_tried_82 : decode cX12_tried 82 = .ok (.goto 46, 3) := by decide +kernel
theorem tX12_tried_82 {d : Nat} {l0 l1 l2 l3 l4 : Option Value} {v0 : Value} {m : jmM} {Q : Option Value → jmM → Prop} : AW d 279 82 [l0, l1, l2, l3, l4] [v0] m Q ↔ AW d 279 128 [l0, l1, l2, l3, l4] [v0] m Q := A_goto hB_X12_tried dX12_tried_82 (by decide)
theorem dX12_tried_85 : decode cX12_tried 85 = .ok (.iload 4, 2) := by decide +kernel
theorem tX12_tried_85 {d : Nat} {l0 l1 l2 l3 : Option Value} {x : Int32} {m : jmM} {Q : Option Value → jmM → Prop} : AW d 279 85 [l0, l1, l2, l3, some (.int x)] [] m Q ↔ AW d 279 87 [l0, l1, l2, l3, some (.int x)] [.int x] m Q := A_iload hB_X12_tried dX12_tried_85 rfl
theorem dX12_tried_87 : decode cX12_tried 87 = .ok (.iconst 1, 1) := by decide +kernel
theorem tX12_tried_87 {d : Nat} {l0 l1 l2 l3 l4 : Option Value} {v0 : Value} {m : jmM} {Q : Option Value → jmM → Prop} : AW d 279 87 [l0, l1, l2, l3, l4] [v0] m Q ↔ AW d 279 88 [l0, l1, l2, l3, l4] [.int 1, v0] m Q := A_iconst hB_X12_tried dX12_tried_87 (by decide)
theorem dX12_tried_88 : decode cX12_tried 88 = .ok (.if_icmp .ne 10, 3) := by decide +kernel
theorem tX12_tried_88 {d : Nat} {l0 l1 l2 l3 l4 : Option Value} {x y : Int32} {m : jmM} {Q : Option Value → jmM → Prop} : AW d 279 88 [l0, l1, l2, l3, l4] [.int y, .int x] m Q ↔ if x = y then AW d 279 91 [l0, l1, l2, l3, l4] [] m Q else AW d 279 98 [l0, l1, l2, l3, l4] [] m Q := A_icmp_ne hB_X12_tried dX12_tried_88 (by decide)
theorem dX12_tried_91 : decode cX12_tried 91 = .ok (.aload_n 0, 1) := by decide +kernel
theorem tX12_tried_91 {d : Nat} {l1 l2 l3 l4 : Option Value} {x : Nat} {m : jmM} {Q : Option Value → jmM → Prop} : AW d 279 91 [some (.ref x), l1, l2, l3, l4] [] m Q ↔ AW d 279 92 [some (.ref x), l1, l2, l3, l4] [.ref x] m Q := A_aload_n hB_X12_tried dX12_tried_91 rfl
theorem dX12_tried_92 : decode cX12_tried 92 = .ok (.getfield 416, 3) := by decide +kernel
theorem tX12_tried_92 {d : Nat} {l0 l1 l2 l3 l4 : Option Value} {a : Nat} {m : jmM} {Q : Option Value → jmM → Prop} : AW d 279 92 [l0, l1, l2, l3, l4] [.ref a] m Q ↔ (mS m a).1 = 12 ∧ AW d 279 95 [l0, l1, l2, l3, l4] [.int (mI m a 40)] m Q := A_getfield (f := fun m a => .int (mI m a 40)) hB_X12_tried dX12_tried_92 hO_X12_tried fF_12_416 rfl
theorem dX12_tried_95 : decode cX12_tried 95 = .ok (.goto 33, 3) := by decide +kernel
theorem tX12_tried_95 {d : Nat} {l0 l1 l2 l3 l4 : Option Value} {v0 : Value} {m : jmM} {Q : Option Value → jmM → Prop} : AW d 279 95 [l0, l1, l2, l3, l4] [v0] m Q ↔ AW d 279 128 [l0, l1, l2, l3, l4] [v0] m Q := A_goto hB_X12_tried dX12_tried_95 (by decide)
theorem dX12_tried_98 : decode cX12_tried 98 = .ok (.iload 4, 2) := by decide +kernel
theorem tX12_tried_98 {d : Nat} {l0 l1 l2 l3 : Option Value} {x : Int32} {m : jmM} {Q : Option Value → jmM → Prop} : AW d 279 98 [l0, l1, l2, l3, some (.int x)] [] m Q ↔ AW d 279 100 [l0, l1, l2, l3, some (.int x)] [.int x] m Q := A_iload hB_X12_tried dX12_tried_98 rfl
theorem dX12_tried_100 : decode cX12_tried 100 = .ok (.iconst 2, 1) := by decide +kernel
theorem tX12_tried_100 {d : Nat} {l0 l1 l2 l3 l4 : Option Value} {v0 : Value} {m : jmM} {Q : Option Value → jmM → Prop} : AW d 279 100 [l0, l1, l2, l3, l4] [v0] m Q ↔ AW d 279 101 [l0, l1, l2, l3, l4] [.int 2, v0] m Q := A_iconst hB_X12_tried dX12_tried_100 (by decide)
theorem dX12_tried_101 : decode cX12_tried 101 = .ok (.if_icmp .ne 10, 3) := by decide +kernel
theorem tX12_tried_101 {d : Nat} {l0 l1 l2 l3 l4 : Option Value} {x y : Int32} {m : jmM} {Q : Option Value → jmM → Prop} : AW d 279 101 [l0, l1, l2, l3, l4] [.int y, .int x] m Q ↔ if x = y then AW d 279 104 [l0, l1, l2, l3, l4] [] m Q else AW d 279 111 [l0, l1, l2, l3, l4] [] m Q := A_icmp_ne hB_X12_tried dX12_tried_101 (by decide)
theorem dX12_tried_104 : decode cX12_tried 104 = .ok (.aload_n 0, 1) := by decide +kernel
theorem tX12_tried_104 {d : Nat} {l1 l2 l3 l4 : Option Value} {x : Nat} {m : jmM} {Q : Option Value → jmM → Prop} : AW d 279 104 [some (.ref x), l1, l2, l3, l4] [] m Q ↔ AW d 279 105 [some (.ref x), l1, l2, l3, l4] [.ref x] m Q := A_aload_n hB_X12_tried dX12_tried_104 rfl
theorem dX12_tried_105 : decode cX12_tried 105 = .ok (.getfield 430, 3) := by decide +kernel
theorem tX12_tried_105 {d : Nat} {l0 l1 l2 l3 l4 : Option Value} {a : Nat} {m : jmM} {Q : Option Value → jmM → Prop} : AW d 279 105 [l0, l1, l2, l3, l4] [.ref a] m Q ↔ (mS m a).1 = 12 ∧ AW d 279 108 [l0, l1, l2, l3, l4] [.int (mI m a 44)] m Q := A_getfield (f := fun m a => .int (mI m a 44)) hB_X12_tried dX12_tried_105 hO_X12_tried fF_12_430 rfl
theorem dX12_tried_108 : decode cX12_tried 108 = .ok (.goto 20, 3) := by decide +kernel
theorem tX12_tried_108 {d : Nat} {l0 l1 l2 l3 l4 : Option Value} {v0 : Value} {m : jmM} {Q : Option Value → jmM → Prop} : AW d 279 108 [l0, l1, l2, l3, l4] [v0] m Q ↔ AW d 279 128 [l0, l1, l2, l3, l4] [v0] m Q := A_goto hB_X12_tried dX12_tried_108 (by decide)
theorem dX12_tried_111 : decode cX12_tried 111 = .ok (.iload 4, 2) := by decide +kernel
theorem tX12_tried_111 {d : Nat} {l0 l1 l2 l3 : Option Value} {x : Int32} {m : jmM} {Q : Option Value → jmM → Prop} : AW d 279 111 [l0, l1, l2, l3, some (.int x)] [] m Q ↔ AW d 279 113 [l0, l1, l2, l3, some (.int x)] [.int x] m Q := A_iload hB_X12_tried dX12_tried_111 rfl
theorem dX12_tried_113 : decode cX12_tried 113 = .ok (.iconst 3, 1) := by decide +kernel
theorem tX12_tried_113 {d : Nat} {l0 l1 l2 l3 l4 : Option Value} {v0 : Value} {m : jmM} {Q : Option Value → jmM → Prop} : AW d 279 113 [l0, l1, l2, l3, l4] [v0] m Q ↔ AW d 279 114 [l0, l1, l2, l3, l4] [.int 3, v0] m Q := A_iconst hB_X12_tried dX12_tried_113 (by decide)
theorem dX12_tried_114 : decode cX12_tried 114 = .ok (.if_icmp .ne 10, 3) := by decide +kernel
theorem tX12_tried_114 {d : Nat} {l0 l1 l2 l3 l4 : Option Value} {x y : Int32} {m : jmM} {Q : Option Value → jmM → Prop} : AW d 279 114 [l0, l1, l2, l3, l4] [.int y, .int x] m Q ↔ if x = y then AW d 279 117 [l0, l1, l2, l3, l4] [] m Q else AW d 279 124 [l0, l1, l2, l3, l4] [] m Q := A_icmp_ne hB_X12_tried dX12_tried_114 (by decide)
theorem dX12_tried_117 : decode cX12_tried 117 = .ok (.aload_n 0, 1) := by decide +kernel
theorem tX12_tried_117 {d : Nat} {l1 l2 l3 l4 : Option Value} {x : Nat} {m : jmM} {Q : Option Value → jmM → Prop} : AW d 279 117 [some (.ref x), l1, l2, l3, l4] [] m Q ↔ AW d 279 118 [some (.ref x), l1, l2, l3, l4] [.ref x] m Q := A_aload_n hB_X12_tried dX12_tried_117 rfl
theorem dX12_tried_118 : decode cX12_tried 118 = .ok (.getfield 433, 3) := by decide +kernel
theorem tX12_tried_118 {d : Nat} {l0 l1 l2 l3 l4 : Option Value} {a : Nat} {m : jmM} {Q : Option Value → jmM → Prop} : AW d 279 118 [l0, l1, l2, l3, l4] [.ref a] m Q ↔ (mS m a).1 = 12 ∧ AW d 279 121 [l0, l1, l2, l3, l4] [.int (mI m a 45)] m Q := A_getfield (f := fun m a => .int (mI m a 45)) hB_X12_tried dX12_tried_118 hO_X12_tried fF_12_433 rfl
theorem dX12_tried_121 : decode cX12_tried 121 = .ok (.goto 7, 3) := by decide +kernel
theorem tX12_tried_121 {d : Nat} {l0 l1 l2 l3 l4 : Option Value} {v0 : Value} {m : jmM} {Q : Option Value → jmM → Prop} : AW d 279 121 [l0, l1, l2, l3, l4] [v0] m Q ↔ AW d 279 128 [l0, l1, l2, l3, l4] [v0] m Q := A_goto hB_X12_tried dX12_tried_121 (by decide)
theorem dX12_tried_124 : decode cX12_tried 124 = .ok (.aload_n 0, 1) := by decide +kernel
theorem tX12_tried_124 {d : Nat} {l1 l2 l3 l4 : Option Value} {x : Nat} {m : jmM} {Q : Option Value → jmM → Prop} : AW d 279 124 [some (.ref x), l1, l2, l3, l4] [] m Q ↔ AW d 279 125 [some (.ref x), l1, l2, l3, l4] [.ref x] m Q := A_aload_n hB_X12_tried dX12_tried_124 rfl
theorem dX12_tried_125 : decode cX12_tried 125 = .ok (.getfield 436, 3) := by decide +kernel
theorem tX12_tried_125 {d : Nat} {l0 l1 l2 l3 l4 : Option Value} {a : Nat} {m : jmM} {Q : Option Value → jmM → Prop} : AW d 279 125 [l0, l1, l2, l3, l4] [.ref a] m Q ↔ (mS m a).1 = 12 ∧ AW d 279 128 [l0, l1, l2, l3, l4] [.int (mI m a 46)] m Q := A_getfield (f := fun m a => .int (mI m a 46)) hB_X12_tried dX12_tried_125 hO_X12_tried fF_12_436 rfl
theorem dX12_tried_128 : decode cX12_tried 128 = .ok (.ireturn, 1) := by decide +kernel
theorem tX12_tried_128 {d : Nat} {l0 l1 l2 l3 l4 : Option Value} {x : Int32} {m : jmM} {Q : Option Value → jmM → Prop} : AW d 279 128 [l0, l1, l2, l3, l4] [.int x] m Q ↔ Q (some (.int x)) m := A_ireturn hB_X12_tried dX12_tried_128 hR_X12_tried
theorem hB_X12_best : jB 280 = cX12_best := rfl
theorem hO_X12_best : jO 280 = 12 := rfl
theorem hR_X12_best : jRt 280 = (some .int) := rfl
theorem nX12_best (d : Nat) (x0 : Nat) (x1 : Int32) (m : jmM) (Q : Option Value → jmM → Prop) : CC (d + 1) 280 [.ref x0, .int x1] m Q ↔ AW d 280 0 [some (.ref x0), some (.int x1), none, none, none, none] [] m Q := CC_body (Nat.le_of_ble_eq_true rfl)
theorem dX12_best_0 : decode cX12_best 0 = .ok (.aload_n 0, 1) := by decide +kernel
theorem tX12_best_0 {d : Nat} {l1 l2 l3 l4 l5 : Option Value} {x : Nat} {m : jmM} {Q : Option Value → jmM → Prop} : AW d 280 0 [some (.ref x), l1, l2, l3, l4, l5] [] m Q ↔ AW d 280 1 [some (.ref x), l1, l2, l3, l4, l5] [.ref x] m Q := A_aload_n hB_X12_best dX12_best_0 rfl
theorem dX12_best_1 : decode cX12_best 1 = .ok (.getfield 51, 3) := by decide +kernel
theorem tX12_best_1 {d : Nat} {l0 l1 l2 l3 l4 l5 : Option Value} {a : Nat} {m : jmM} {Q : Option Value → jmM → Prop} : AW d 280 1 [l0, l1, l2, l3, l4, l5] [.ref a] m Q ↔ (mS m a).1 = 12 ∧ AW d 280 4 [l0, l1, l2, l3, l4, l5] [va_rf (mR m a 25)] m Q := A_getfield (f := fun m a => va_rf (mR m a 25)) hB_X12_best dX12_best_1 hO_X12_best fF_12_51 rfl
theorem dX12_best_4 : decode cX12_best 4 = .ok (.iconst 0, 1) := by decide +kernel
theorem tX12_best_4 {d : Nat} {l0 l1 l2 l3 l4 l5 : Option Value} {v0 : Value} {m : jmM} {Q : Option Value → jmM → Prop} : AW d 280 4 [l0, l1, l2, l3, l4, l5] [v0] m Q ↔ AW d 280 5 [l0, l1, l2, l3, l4, l5] [.int 0, v0] m Q := A_iconst hB_X12_best dX12_best_4 (by decide)
theorem dX12_best_5 : decode cX12_best 5 = .ok (.iaload, 1) := by decide +kernel
theorem tX12_best_5 {d : Nat} {l0 l1 l2 l3 l4 l5 : Option Value} {i : Int32} {a : Nat} {m : jmM} {Q : Option Value → jmM → Prop} : AW d 280 5 [l0, l1, l2, l3, l4, l5] [.int i, .ref a] m Q ↔ (((mS m a).1 = 20 ∨ a = jScr) ∧ jIx i (mS m a).2) ∧ AW d 280 6 [l0, l1, l2, l3, l4, l5] [.int (mI m a (jx i))] m Q := A_iaload hB_X12_best dX12_best_5
theorem dX12_best_6 : decode cX12_best 6 = .ok (.iconst 1, 1) := by decide +kernel
theorem tX12_best_6 {d : Nat} {l0 l1 l2 l3 l4 l5 : Option Value} {v0 : Value} {m : jmM} {Q : Option Value → jmM → Prop} : AW d 280 6 [l0, l1, l2, l3, l4, l5] [v0] m Q ↔ AW d 280 7 [l0, l1, l2, l3, l4, l5] [.int 1, v0] m Q := A_iconst hB_X12_best dX12_best_6 (by decide)
theorem dX12_best_7 : decode cX12_best 7 = .ok (.if_icmp .ne 15, 3) := by decide +kernel
theorem tX12_best_7 {d : Nat} {l0 l1 l2 l3 l4 l5 : Option Value} {x y : Int32} {m : jmM} {Q : Option Value → jmM → Prop} : AW d 280 7 [l0, l1, l2, l3, l4, l5] [.int y, .int x] m Q ↔ if x = y then AW d 280 10 [l0, l1, l2, l3, l4, l5] [] m Q else AW d 280 22 [l0, l1, l2, l3, l4, l5] [] m Q := A_icmp_ne hB_X12_best dX12_best_7 (by decide)
theorem dX12_best_10 : decode cX12_best 10 = .ok (.iload_n 1, 1) := by decide +kernel
theorem tX12_best_10 {d : Nat} {l0 l2 l3 l4 l5 : Option Value} {x : Int32} {m : jmM} {Q : Option Value → jmM → Prop} : AW d 280 10 [l0, some (.int x), l2, l3, l4, l5] [] m Q ↔ AW d 280 11 [l0, some (.int x), l2, l3, l4, l5] [.int x] m Q := A_iload_n hB_X12_best dX12_best_10 rfl
theorem dX12_best_11 : decode cX12_best 11 = .ok (.i2l, 1) := by decide +kernel
theorem tX12_best_11 {d : Nat} {l0 l1 l2 l3 l4 l5 : Option Value} {x : Int32} {m : jmM} {Q : Option Value → jmM → Prop} : AW d 280 11 [l0, l1, l2, l3, l4, l5] [.int x] m Q ↔ AW d 280 12 [l0, l1, l2, l3, l4, l5] [.long x.toInt64] m Q := A_i2l hB_X12_best dX12_best_11
theorem dX12_best_12 : decode cX12_best 12 = .ok (.lconst 1, 1) := by decide +kernel
theorem tX12_best_12 {d : Nat} {l0 l1 l2 l3 l4 l5 : Option Value} {v0 : Value} {m : jmM} {Q : Option Value → jmM → Prop} : AW d 280 12 [l0, l1, l2, l3, l4, l5] [v0] m Q ↔ AW d 280 13 [l0, l1, l2, l3, l4, l5] [.long 1, v0] m Q := A_lconst hB_X12_best dX12_best_12 (by decide)
theorem dX12_best_13 : decode cX12_best 13 = .ok (.ldc2_w 439, 3) := by decide +kernel
theorem tX12_best_13 {d : Nat} {l0 l1 l2 l3 l4 l5 : Option Value} {v0 v1 : Value} {m : jmM} {Q : Option Value → jmM → Prop} : AW d 280 13 [l0, l1, l2, l3, l4, l5] [v0, v1] m Q ↔ AW d 280 16 [l0, l1, l2, l3, l4, l5] [.long 300, v0, v1] m Q := A_ldc2_w hB_X12_best dX12_best_13 hO_X12_best fL2_12_439
theorem dX12_best_16 : decode cX12_best 16 = .ok (.invokestatic 281, 3) := by decide +kernel
theorem tX12_best_16 {d : Nat} {l0 l1 l2 l3 l4 l5 : Option Value} {y0 y1 y2 : Value} {m : jmM} {Q : Option Value → jmM → Prop} : AW d 280 16 [l0, l1, l2, l3, l4, l5] [y0, y1, y2] m Q ↔ CC d 189 [y2, y1, y0] m (jK d 280 19 [l0, l1, l2, l3, l4, l5] [] Q) := A_callS0 hB_X12_best dX12_best_16 hO_X12_best fS_12_281 ⟨Nat.le_of_ble_eq_true rfl, Nat.le_of_ble_eq_true rfl⟩ rfl rfl
theorem dX12_best_19 : decode cX12_best 19 = .ok (.ifCond .ne 5, 3) := by decide +kernel
theorem tX12_best_19 {d : Nat} {l0 l1 l2 l3 l4 l5 : Option Value} {x : Int32} {m : jmM} {Q : Option Value → jmM → Prop} : AW d 280 19 [l0, l1, l2, l3, l4, l5] [.int x] m Q ↔ if x = 0 then AW d 280 22 [l0, l1, l2, l3, l4, l5] [] m Q else AW d 280 24 [l0, l1, l2, l3, l4, l5] [] m Q := A_if_ne hB_X12_best dX12_best_19 (by decide)
theorem dX12_best_22 : decode cX12_best 22 = .ok (.iconst (-1), 1) := by decide +kernel
theorem tX12_best_22 {d : Nat} {l0 l1 l2 l3 l4 l5 : Option Value} {m : jmM} {Q : Option Value → jmM → Prop} : AW d 280 22 [l0, l1, l2, l3, l4, l5] [] m Q ↔ AW d 280 23 [l0, l1, l2, l3, l4, l5] [.int (-1)] m Q := A_iconst hB_X12_best dX12_best_22 (by decide)
theorem dX12_best_23 : decode cX12_best 23 = .ok (.ireturn, 1) := by decide +kernel
theorem tX12_best_23 {d : Nat} {l0 l1 l2 l3 l4 l5 : Option Value} {x : Int32} {m : jmM} {Q : Option Value → jmM → Prop} : AW d 280 23 [l0, l1, l2, l3, l4, l5] [.int x] m Q ↔ Q (some (.int x)) m := A_ireturn hB_X12_best dX12_best_23 hR_X12_best
theorem dX12_best_24 : decode cX12_best 24 = .ok (.iconst (-1), 1) := by decide +kernel
theorem tX12_best_24 {d : Nat} {l0 l1 l2 l3 l4 l5 : Option Value} {m : jmM} {Q : Option Value → jmM → Prop} : AW d 280 24 [l0, l1, l2, l3, l4, l5] [] m Q ↔ AW d 280 25 [l0, l1, l2, l3, l4, l5] [.int (-1)] m Q := A_iconst hB_X12_best dX12_best_24 (by decide)
theorem dX12_best_25 : decode cX12_best 25 = .ok (.istore_n 2, 1) := by decide +kernel
theorem tX12_best_25 {d : Nat} {l0 l1 l2 l3 l4 l5 : Option Value} {x : Int32} {m : jmM} {Q : Option Value → jmM → Prop} : AW d 280 25 [l0, l1, l2, l3, l4, l5] [.int x] m Q ↔ AW d 280 26 [l0, jc1 l1, some (.int x), l3, l4, l5] [] m Q := A_istore_n hB_X12_best dX12_best_25 (Nat.le_of_ble_eq_true rfl) rfl
theorem dX12_best_26 : decode cX12_best 26 = .ok (.iconst 0, 1) := by decide +kernel
theorem tX12_best_26 {d : Nat} {l0 l1 l2 l3 l4 l5 : Option Value} {m : jmM} {Q : Option Value → jmM → Prop} : AW d 280 26 [l0, l1, l2, l3, l4, l5] [] m Q ↔ AW d 280 27 [l0, l1, l2, l3, l4, l5] [.int 0] m Q := A_iconst hB_X12_best dX12_best_26 (by decide)
theorem dX12_best_27 : decode cX12_best 27 = .ok (.istore_n 3, 1) := by decide +kernel
theorem tX12_best_27 {d : Nat} {l0 l1 l2 l3 l4 l5 : Option Value} {x : Int32} {m : jmM} {Q : Option Value → jmM → Prop} : AW d 280 27 [l0, l1, l2, l3, l4, l5] [.int x] m Q ↔ AW d 280 28 [l0, l1, jc1 l2, some (.int x), l4, l5] [] m Q := A_istore_n hB_X12_best dX12_best_27 (Nat.le_of_ble_eq_true rfl) rfl
theorem dX12_best_28 : decode cX12_best 28 = .ok (.iconst 0, 1) := by decide +kernel
theorem tX12_best_28 {d : Nat} {l0 l1 l2 l3 l4 l5 : Option Value} {m : jmM} {Q : Option Value → jmM → Prop} : AW d 280 28 [l0, l1, l2, l3, l4, l5] [] m Q ↔ AW d 280 29 [l0, l1, l2, l3, l4, l5] [.int 0] m Q := A_iconst hB_X12_best dX12_best_28 (by decide)
theorem dX12_best_29 : decode cX12_best 29 = .ok (.istore 4, 2) := by decide +kernel
theorem tX12_best_29 {d : Nat} {l0 l1 l2 l3 l4 l5 : Option Value} {x : Int32} {m : jmM} {Q : Option Value → jmM → Prop} : AW d 280 29 [l0, l1, l2, l3, l4, l5] [.int x] m Q ↔ AW d 280 31 [l0, l1, l2, jc1 l3, some (.int x), l5] [] m Q := A_istore hB_X12_best dX12_best_29 (Nat.le_of_ble_eq_true rfl) rfl
theorem dX12_best_31 : decode cX12_best 31 = .ok (.iconst 0, 1) := by decide +kernel
theorem tX12_best_31 {d : Nat} {l0 l1 l2 l3 l4 l5 : Option Value} {m : jmM} {Q : Option Value → jmM → Prop} : AW d 280 31 [l0, l1, l2, l3, l4, l5] [] m Q ↔ AW d 280 32 [l0, l1, l2, l3, l4, l5] [.int 0] m Q := A_iconst hB_X12_best dX12_best_31 (by decide)
theorem dX12_best_32 : decode cX12_best 32 = .ok (.istore 5, 2) := by decide +kernel
theorem tX12_best_32 {d : Nat} {l0 l1 l2 l3 l4 l5 : Option Value} {x : Int32} {m : jmM} {Q : Option Value → jmM → Prop} : AW d 280 32 [l0, l1, l2, l3, l4, l5] [.int x] m Q ↔ AW d 280 34 [l0, l1, l2, l3, jc1 l4, some (.int x)] [] m Q := A_istore hB_X12_best dX12_best_32 (Nat.le_of_ble_eq_true rfl) rfl
theorem dX12_best_34 : decode cX12_best 34 = .ok (.iload 5, 2) := by decide +kernel
theorem tX12_best_34 {d : Nat} {l0 l1 l2 l3 l4 : Option Value} {x : Int32} {m : jmM} {Q : Option Value → jmM → Prop} : AW d 280 34 [l0, l1, l2, l3, l4, some (.int x)] [] m Q ↔ AW d 280 36 [l0, l1, l2, l3, l4, some (.int x)] [.int x] m Q := A_iload hB_X12_best dX12_best_34 rfl
theorem dX12_best_36 : decode cX12_best 36 = .ok (.aload_n 0, 1) := by decide +kernel
theorem tX12_best_36 {d : Nat} {l1 l2 l3 l4 l5 : Option Value} {v0 : Value} {x : Nat} {m : jmM} {Q : Option Value → jmM → Prop} : AW d 280 36 [some (.ref x), l1, l2, l3, l4, l5] [v0] m Q ↔ AW d 280 37 [some (.ref x), l1, l2, l3, l4, l5] [.ref x, v0] m Q := A_aload_n hB_X12_best dX12_best_36 rfl
theorem dX12_best_37 : decode cX12_best 37 = .ok (.getfield 257, 3) := by decide +kernel
theorem tX12_best_37 {d : Nat} {l0 l1 l2 l3 l4 l5 : Option Value} {v1 : Value} {a : Nat} {m : jmM} {Q : Option Value → jmM → Prop} : AW d 280 37 [l0, l1, l2, l3, l4, l5] [.ref a, v1] m Q ↔ (mS m a).1 = 12 ∧ AW d 280 40 [l0, l1, l2, l3, l4, l5] [.int (mI m a 10), v1] m Q := A_getfield (f := fun m a => .int (mI m a 10)) hB_X12_best dX12_best_37 hO_X12_best fF_12_257 rfl
theorem dX12_best_40 : decode cX12_best 40 = .ok (.if_icmp .ge 63, 3) := by decide +kernel
theorem tX12_best_40 {d : Nat} {l0 l1 l2 l3 l4 l5 : Option Value} {x y : Int32} {m : jmM} {Q : Option Value → jmM → Prop} : AW d 280 40 [l0, l1, l2, l3, l4, l5] [.int y, .int x] m Q ↔ if y ≤ x then AW d 280 103 [l0, l1, l2, l3, l4, l5] [] m Q else AW d 280 43 [l0, l1, l2, l3, l4, l5] [] m Q := A_icmp_ge hB_X12_best dX12_best_40 (by decide)
theorem dX12_best_43 : decode cX12_best 43 = .ok (.aload_n 0, 1) := by decide +kernel
theorem tX12_best_43 {d : Nat} {l1 l2 l3 l4 l5 : Option Value} {x : Nat} {m : jmM} {Q : Option Value → jmM → Prop} : AW d 280 43 [some (.ref x), l1, l2, l3, l4, l5] [] m Q ↔ AW d 280 44 [some (.ref x), l1, l2, l3, l4, l5] [.ref x] m Q := A_aload_n hB_X12_best dX12_best_43 rfl
theorem dX12_best_44 : decode cX12_best 44 = .ok (.iload 5, 2) := by decide +kernel
theorem tX12_best_44 {d : Nat} {l0 l1 l2 l3 l4 : Option Value} {v0 : Value} {x : Int32} {m : jmM} {Q : Option Value → jmM → Prop} : AW d 280 44 [l0, l1, l2, l3, l4, some (.int x)] [v0] m Q ↔ AW d 280 46 [l0, l1, l2, l3, l4, some (.int x)] [.int x, v0] m Q := A_iload hB_X12_best dX12_best_44 rfl
theorem dX12_best_46 : decode cX12_best 46 = .ok (.iload_n 1, 1) := by decide +kernel
theorem tX12_best_46 {d : Nat} {l0 l2 l3 l4 l5 : Option Value} {v0 v1 : Value} {x : Int32} {m : jmM} {Q : Option Value → jmM → Prop} : AW d 280 46 [l0, some (.int x), l2, l3, l4, l5] [v0, v1] m Q ↔ AW d 280 47 [l0, some (.int x), l2, l3, l4, l5] [.int x, v0, v1] m Q := A_iload_n hB_X12_best dX12_best_46 rfl
theorem dX12_best_47 : decode cX12_best 47 = .ok (.iconst 0, 1) := by decide +kernel
theorem tX12_best_47 {d : Nat} {l0 l1 l2 l3 l4 l5 : Option Value} {v0 v1 v2 : Value} {m : jmM} {Q : Option Value → jmM → Prop} : AW d 280 47 [l0, l1, l2, l3, l4, l5] [v0, v1, v2] m Q ↔ AW d 280 48 [l0, l1, l2, l3, l4, l5] [.int 0, v0, v1, v2] m Q := A_iconst hB_X12_best dX12_best_47 (by decide)
theorem dX12_best_48 : decode cX12_best 48 = .ok (.invokevirtual 443, 3) := by decide +kernel
theorem tX12_best_48 {d : Nat} {l0 l1 l2 l3 l4 l5 : Option Value} {y0 y1 y2 : Value} {a : Nat} {m : jmM} {Q : Option Value → jmM → Prop} : AW d 280 48 [l0, l1, l2, l3, l4, l5] [y0, y1, y2, .ref a] m Q ↔ (mS m a).1 = 12 ∧ CC d 278 [.ref a, y2, y1, y0] m (jK d 280 51 [l0, l1, l2, l3, l4, l5] [] Q) := A_callV hB_X12_best dX12_best_48 hO_X12_best fS_12_443 ⟨Nat.le_of_ble_eq_true rfl, Nat.le_of_ble_eq_true rfl⟩ rfl rfl rfl
theorem dX12_best_51 : decode cX12_best 51 = .ok (.iload_n 2, 1) := by decide +kernel
theorem tX12_best_51 {d : Nat} {l0 l1 l3 l4 l5 : Option Value} {x : Int32} {m : jmM} {Q : Option Value → jmM → Prop} : AW d 280 51 [l0, l1, some (.int x), l3, l4, l5] [] m Q ↔ AW d 280 52 [l0, l1, some (.int x), l3, l4, l5] [.int x] m Q := A_iload_n hB_X12_best dX12_best_51 rfl
theorem dX12_best_52 : decode cX12_best 52 = .ok (.ifCond .lt 31, 3) := by decide +kernel
theorem tX12_best_52 {d : Nat} {l0 l1 l2 l3 l4 l5 : Option Value} {x : Int32} {m : jmM} {Q : Option Value → jmM → Prop} : AW d 280 52 [l0, l1, l2, l3, l4, l5] [.int x] m Q ↔ if x < 0 then AW d 280 83 [l0, l1, l2, l3, l4, l5] [] m Q else AW d 280 55 [l0, l1, l2, l3, l4, l5] [] m Q := A_if_lt hB_X12_best dX12_best_52 (by decide)
theorem dX12_best_55 : decode cX12_best 55 = .ok (.aload_n 0, 1) := by decide +kernel
theorem tX12_best_55 {d : Nat} {l1 l2 l3 l4 l5 : Option Value} {x : Nat} {m : jmM} {Q : Option Value → jmM → Prop} : AW d 280 55 [some (.ref x), l1, l2, l3, l4, l5] [] m Q ↔ AW d 280 56 [some (.ref x), l1, l2, l3, l4, l5] [.ref x] m Q := A_aload_n hB_X12_best dX12_best_55 rfl
theorem dX12_best_56 : decode cX12_best 56 = .ok (.getfield 413, 3) := by decide +kernel
theorem tX12_best_56 {d : Nat} {l0 l1 l2 l3 l4 l5 : Option Value} {a : Nat} {m : jmM} {Q : Option Value → jmM → Prop} : AW d 280 56 [l0, l1, l2, l3, l4, l5] [.ref a] m Q ↔ (mS m a).1 = 12 ∧ AW d 280 59 [l0, l1, l2, l3, l4, l5] [.int (mI m a 39)] m Q := A_getfield (f := fun m a => .int (mI m a 39)) hB_X12_best dX12_best_56 hO_X12_best fF_12_413 rfl
theorem dX12_best_59 : decode cX12_best 59 = .ok (.iload_n 3, 1) := by decide +kernel
theorem tX12_best_59 {d : Nat} {l0 l1 l2 l4 l5 : Option Value} {v0 : Value} {x : Int32} {m : jmM} {Q : Option Value → jmM → Prop} : AW d 280 59 [l0, l1, l2, some (.int x), l4, l5] [v0] m Q ↔ AW d 280 60 [l0, l1, l2, some (.int x), l4, l5] [.int x, v0] m Q := A_iload_n hB_X12_best dX12_best_59 rfl
theorem dX12_best_60 : decode cX12_best 60 = .ok (.if_icmp .gt 37, 3) := by decide +kernel
theorem tX12_best_60 {d : Nat} {l0 l1 l2 l3 l4 l5 : Option Value} {x y : Int32} {m : jmM} {Q : Option Value → jmM → Prop} : AW d 280 60 [l0, l1, l2, l3, l4, l5] [.int y, .int x] m Q ↔ if y < x then AW d 280 97 [l0, l1, l2, l3, l4, l5] [] m Q else AW d 280 63 [l0, l1, l2, l3, l4, l5] [] m Q := A_icmp_gt hB_X12_best dX12_best_60 (by decide)
theorem dX12_best_63 : decode cX12_best 63 = .ok (.aload_n 0, 1) := by decide +kernel
theorem tX12_best_63 {d : Nat} {l1 l2 l3 l4 l5 : Option Value} {x : Nat} {m : jmM} {Q : Option Value → jmM → Prop} : AW d 280 63 [some (.ref x), l1, l2, l3, l4, l5] [] m Q ↔ AW d 280 64 [some (.ref x), l1, l2, l3, l4, l5] [.ref x] m Q := A_aload_n hB_X12_best dX12_best_63 rfl
theorem dX12_best_64 : decode cX12_best 64 = .ok (.getfield 413, 3) := by decide +kernel
theorem tX12_best_64 {d : Nat} {l0 l1 l2 l3 l4 l5 : Option Value} {a : Nat} {m : jmM} {Q : Option Value → jmM → Prop} : AW d 280 64 [l0, l1, l2, l3, l4, l5] [.ref a] m Q ↔ (mS m a).1 = 12 ∧ AW d 280 67 [l0, l1, l2, l3, l4, l5] [.int (mI m a 39)] m Q := A_getfield (f := fun m a => .int (mI m a 39)) hB_X12_best dX12_best_64 hO_X12_best fF_12_413 rfl
theorem dX12_best_67 : decode cX12_best 67 = .ok (.iload_n 3, 1) := by decide +kernel
theorem tX12_best_67 {d : Nat} {l0 l1 l2 l4 l5 : Option Value} {v0 : Value} {x : Int32} {m : jmM} {Q : Option Value → jmM → Prop} : AW d 280 67 [l0, l1, l2, some (.int x), l4, l5] [v0] m Q ↔ AW d 280 68 [l0, l1, l2, some (.int x), l4, l5] [.int x, v0] m Q := A_iload_n hB_X12_best dX12_best_67 rfl
theorem dX12_best_68 : decode cX12_best 68 = .ok (.if_icmp .ne 15, 3) := by decide +kernel
theorem tX12_best_68 {d : Nat} {l0 l1 l2 l3 l4 l5 : Option Value} {x y : Int32} {m : jmM} {Q : Option Value → jmM → Prop} : AW d 280 68 [l0, l1, l2, l3, l4, l5] [.int y, .int x] m Q ↔ if x = y then AW d 280 71 [l0, l1, l2, l3, l4, l5] [] m Q else AW d 280 83 [l0, l1, l2, l3, l4, l5] [] m Q := A_icmp_ne hB_X12_best dX12_best_68 (by decide)
theorem dX12_best_71 : decode cX12_best 71 = .ok (.aload_n 0, 1) := by decide +kernel
theorem tX12_best_71 {d : Nat} {l1 l2 l3 l4 l5 : Option Value} {x : Nat} {m : jmM} {Q : Option Value → jmM → Prop} : AW d 280 71 [some (.ref x), l1, l2, l3, l4, l5] [] m Q ↔ AW d 280 72 [some (.ref x), l1, l2, l3, l4, l5] [.ref x] m Q := A_aload_n hB_X12_best dX12_best_71 rfl
theorem dX12_best_72 : decode cX12_best 72 = .ok (.getfield 416, 3) := by decide +kernel
theorem tX12_best_72 {d : Nat} {l0 l1 l2 l3 l4 l5 : Option Value} {a : Nat} {m : jmM} {Q : Option Value → jmM → Prop} : AW d 280 72 [l0, l1, l2, l3, l4, l5] [.ref a] m Q ↔ (mS m a).1 = 12 ∧ AW d 280 75 [l0, l1, l2, l3, l4, l5] [.int (mI m a 40)] m Q := A_getfield (f := fun m a => .int (mI m a 40)) hB_X12_best dX12_best_72 hO_X12_best fF_12_416 rfl
theorem dX12_best_75 : decode cX12_best 75 = .ok (.iload 4, 2) := by decide +kernel
theorem tX12_best_75 {d : Nat} {l0 l1 l2 l3 l5 : Option Value} {v0 : Value} {x : Int32} {m : jmM} {Q : Option Value → jmM → Prop} : AW d 280 75 [l0, l1, l2, l3, some (.int x), l5] [v0] m Q ↔ AW d 280 77 [l0, l1, l2, l3, some (.int x), l5] [.int x, v0] m Q := A_iload hB_X12_best dX12_best_75 rfl
theorem dX12_best_77 : decode cX12_best 77 = .ok (.if_icmp .lt 6, 3) := by decide +kernel
theorem tX12_best_77 {d : Nat} {l0 l1 l2 l3 l4 l5 : Option Value} {x y : Int32} {m : jmM} {Q : Option Value → jmM → Prop} : AW d 280 77 [l0, l1, l2, l3, l4, l5] [.int y, .int x] m Q ↔ if x < y then AW d 280 83 [l0, l1, l2, l3, l4, l5] [] m Q else AW d 280 80 [l0, l1, l2, l3, l4, l5] [] m Q := A_icmp_lt hB_X12_best dX12_best_77 (by decide)
theorem dX12_best_80 : decode cX12_best 80 = .ok (.goto 17, 3) := by decide +kernel
theorem tX12_best_80 {d : Nat} {l0 l1 l2 l3 l4 l5 : Option Value} {m : jmM} {Q : Option Value → jmM → Prop} : AW d 280 80 [l0, l1, l2, l3, l4, l5] [] m Q ↔ AW d 280 97 [l0, l1, l2, l3, l4, l5] [] m Q := A_goto hB_X12_best dX12_best_80 (by decide)
theorem dX12_best_83 : decode cX12_best 83 = .ok (.iload 5, 2) := by decide +kernel
theorem tX12_best_83 {d : Nat} {l0 l1 l2 l3 l4 : Option Value} {x : Int32} {m : jmM} {Q : Option Value → jmM → Prop} : AW d 280 83 [l0, l1, l2, l3, l4, some (.int x)] [] m Q ↔ AW d 280 85 [l0, l1, l2, l3, l4, some (.int x)] [.int x] m Q := A_iload hB_X12_best dX12_best_83 rfl
theorem dX12_best_85 : decode cX12_best 85 = .ok (.istore_n 2, 1) := by decide +kernel
theorem tX12_best_85 {d : Nat} {l0 l1 l2 l3 l4 l5 : Option Value} {x : Int32} {m : jmM} {Q : Option Value → jmM → Prop} : AW d 280 85 [l0, l1, l2, l3, l4, l5] [.int x] m Q ↔ AW d 280 86 [l0, jc1 l1, some (.int x), l3, l4, l5] [] m Q := A_istore_n hB_X12_best dX12_best_85 (Nat.le_of_ble_eq_true rfl) rfl
theorem dX12_best_86 : decode cX12_best 86 = .ok (.aload_n 0, 1) := by decide +kernel
theorem tX12_best_86 {d : Nat} {l1 l2 l3 l4 l5 : Option Value} {x : Nat} {m : jmM} {Q : Option Value → jmM → Prop} : AW d 280 86 [some (.ref x), l1, l2, l3, l4, l5] [] m Q ↔ AW d 280 87 [some (.ref x), l1, l2, l3, l4, l5] [.ref x] m Q := A_aload_n hB_X12_best dX12_best_86 rfl
theorem dX12_best_87 : decode cX12_best 87 = .ok (.getfield 413, 3) := by decide +kernel
theorem tX12_best_87 {d : Nat} {l0 l1 l2 l3 l4 l5 : Option Value} {a : Nat} {m : jmM} {Q : Option Value → jmM → Prop} : AW d 280 87 [l0, l1, l2, l3, l4, l5] [.ref a] m Q ↔ (mS m a).1 = 12 ∧ AW d 280 90 [l0, l1, l2, l3, l4, l5] [.int (mI m a 39)] m Q := A_getfield (f := fun m a => .int (mI m a 39)) hB_X12_best dX12_best_87 hO_X12_best fF_12_413 rfl
theorem dX12_best_90 : decode cX12_best 90 = .ok (.istore_n 3, 1) := by decide +kernel
theorem tX12_best_90 {d : Nat} {l0 l1 l2 l3 l4 l5 : Option Value} {x : Int32} {m : jmM} {Q : Option Value → jmM → Prop} : AW d 280 90 [l0, l1, l2, l3, l4, l5] [.int x] m Q ↔ AW d 280 91 [l0, l1, jc1 l2, some (.int x), l4, l5] [] m Q := A_istore_n hB_X12_best dX12_best_90 (Nat.le_of_ble_eq_true rfl) rfl
theorem dX12_best_91 : decode cX12_best 91 = .ok (.aload_n 0, 1) := by decide +kernel
theorem tX12_best_91 {d : Nat} {l1 l2 l3 l4 l5 : Option Value} {x : Nat} {m : jmM} {Q : Option Value → jmM → Prop} : AW d 280 91 [some (.ref x), l1, l2, l3, l4, l5] [] m Q ↔ AW d 280 92 [some (.ref x), l1, l2, l3, l4, l5] [.ref x] m Q := A_aload_n hB_X12_best dX12_best_91 rfl
theorem dX12_best_92 : decode cX12_best 92 = .ok (.getfield 416, 3) := by decide +kernel
theorem tX12_best_92 {d : Nat} {l0 l1 l2 l3 l4 l5 : Option Value} {a : Nat} {m : jmM} {Q : Option Value → jmM → Prop} : AW d 280 92 [l0, l1, l2, l3, l4, l5] [.ref a] m Q ↔ (mS m a).1 = 12 ∧ AW d 280 95 [l0, l1, l2, l3, l4, l5] [.int (mI m a 40)] m Q := A_getfield (f := fun m a => .int (mI m a 40)) hB_X12_best dX12_best_92 hO_X12_best fF_12_416 rfl
theorem dX12_best_95 : decode cX12_best 95 = .ok (.istore 4, 2) := by decide +kernel
theorem tX12_best_95 {d : Nat} {l0 l1 l2 l3 l4 l5 : Option Value} {x : Int32} {m : jmM} {Q : Option Value → jmM → Prop} : AW d 280 95 [l0, l1, l2, l3, l4, l5] [.int x] m Q ↔ AW d 280 97 [l0, l1, l2, jc1 l3, some (.int x), l5] [] m Q := A_istore hB_X12_best dX12_best_95 (Nat.le_of_ble_eq_true rfl) rfl
theorem dX12_best_97 : decode cX12_best 97 = .ok (.iinc 5 1, 3) := by decide +kernel
theorem tX12_best_97 {d : Nat} {l0 l1 l2 l3 l4 : Option Value} {x : Int32} {m : jmM} {Q : Option Value → jmM → Prop} : AW d 280 97 [l0, l1, l2, l3, l4, some (.int x)] [] m Q ↔ AW d 280 100 [l0, l1, l2, l3, jc1 l4, some (.int (x + 1))] [] m Q := A_iinc hB_X12_best dX12_best_97 rfl (Nat.le_of_ble_eq_true rfl) (v := 1) (by decide) rfl
theorem dX12_best_100 : decode cX12_best 100 = .ok (.goto (-66), 3) := by decide +kernel
theorem tX12_best_100 {d : Nat} {l0 l1 l2 l3 l4 l5 : Option Value} {m : jmM} {Q : Option Value → jmM → Prop} : AW d 280 100 [l0, l1, l2, l3, l4, l5] [] m Q ↔ AW d 280 34 [l0, l1, l2, l3, l4, l5] [] m Q := A_goto hB_X12_best dX12_best_100 (by decide)
theorem dX12_best_103 : decode cX12_best 103 = .ok (.iload_n 2, 1) := by decide +kernel
theorem tX12_best_103 {d : Nat} {l0 l1 l3 l4 l5 : Option Value} {x : Int32} {m : jmM} {Q : Option Value → jmM → Prop} : AW d 280 103 [l0, l1, some (.int x), l3, l4, l5] [] m Q ↔ AW d 280 104 [l0, l1, some (.int x), l3, l4, l5] [.int x] m Q := A_iload_n hB_X12_best dX12_best_103 rfl
theorem dX12_best_104 : decode cX12_best 104 = .ok (.ireturn, 1) := by decide +kernel
theorem tX12_best_104 {d : Nat} {l0 l1 l2 l3 l4 l5 : Option Value} {x : Int32} {m : jmM} {Q : Option Value → jmM → Prop} : AW d 280 104 [l0, l1, l2, l3, l4, l5] [.int x] m Q ↔ Q (some (.int x)) m := A_ireturn hB_X12_best dX12_best_104 hR_X12_best
theorem hB_X12_endsWell : jB 281 = cX12_endsWell := rfl
theorem hO_X12_endsWell : jO 281 = 12 := rfl
theorem hR_X12_endsWell : jRt 281 = (some .boolean) := rfl
theorem nX12_endsWell (d : Nat) (x0 : Nat) (x1 : Int32) (x2 : Int32) (x3 : Int32) (x4 : Int32) (m : jmM) (Q : Option Value → jmM → Prop) : CC (d + 1) 281 [.ref x0, .int x1, .int x2, .int x3, .int x4] m Q ↔ AW d 281 0 [some (.ref x0), some (.int x1), some (.int x2), some (.int x3), some (.int x4)] [] m Q := CC_body (Nat.le_of_ble_eq_true rfl)
theorem dX12_endsWell_0 : decode cX12_endsWell 0 = .ok (.aload_n 0, 1) := by decide +kernel
theorem tX12_endsWell_0 {d : Nat} {l1 l2 l3 l4 : Option Value} {x : Nat} {m : jmM} {Q : Option Value → jmM → Prop} : AW d 281 0 [some (.ref x), l1, l2, l3, l4] [] m Q ↔ AW d 281 1 [some (.ref x), l1, l2, l3, l4] [.ref x] m Q := A_aload_n hB_X12_endsWell dX12_endsWell_0 rfl
theorem dX12_endsWell_1 : decode cX12_endsWell 1 = .ok (.iload_n 1, 1) := by decide +kernel
theorem tX12_endsWell_1 {d : Nat} {l0 l2 l3 l4 : Option Value} {v0 : Value} {x : Int32} {m : jmM} {Q : Option Value → jmM → Prop} : AW d 281 1 [l0, some (.int x), l2, l3, l4] [v0] m Q ↔ AW d 281 2 [l0, some (.int x), l2, l3, l4] [.int x, v0] m Q := A_iload_n hB_X12_endsWell dX12_endsWell_1 rfl
theorem dX12_endsWell_2 : decode cX12_endsWell 2 = .ok (.iload_n 2, 1) := by decide +kernel
theorem tX12_endsWell_2 {d : Nat} {l0 l1 l3 l4 : Option Value} {v0 v1 : Value} {x : Int32} {m : jmM} {Q : Option Value → jmM → Prop} : AW d 281 2 [l0, l1, some (.int x), l3, l4] [v0, v1] m Q ↔ AW d 281 3 [l0, l1, some (.int x), l3, l4] [.int x, v0, v1] m Q := A_iload_n hB_X12_endsWell dX12_endsWell_2 rfl
theorem dX12_endsWell_3 : decode cX12_endsWell 3 = .ok (.iload_n 3, 1) := by decide +kernel
theorem tX12_endsWell_3 {d : Nat} {l0 l1 l2 l4 : Option Value} {v0 v1 v2 : Value} {x : Int32} {m : jmM} {Q : Option Value → jmM → Prop} : AW d 281 3 [l0, l1, l2, some (.int x), l4] [v0, v1, v2] m Q ↔ AW d 281 4 [l0, l1, l2, some (.int x), l4] [.int x, v0, v1, v2] m Q := A_iload_n hB_X12_endsWell dX12_endsWell_3 rfl
theorem dX12_endsWell_4 : decode cX12_endsWell 4 = .ok (.invokevirtual 443, 3) := by decide +kernel
theorem tX12_endsWell_4 {d : Nat} {l0 l1 l2 l3 l4 : Option Value} {y0 y1 y2 : Value} {a : Nat} {m : jmM} {Q : Option Value → jmM → Prop} : AW d 281 4 [l0, l1, l2, l3, l4] [y0, y1, y2, .ref a] m Q ↔ (mS m a).1 = 12 ∧ CC d 278 [.ref a, y2, y1, y0] m (jK d 281 7 [l0, l1, l2, l3, l4] [] Q) := A_callV hB_X12_endsWell dX12_endsWell_4 hO_X12_endsWell fS_12_443 ⟨Nat.le_of_ble_eq_true rfl, Nat.le_of_ble_eq_true rfl⟩ rfl rfl rfl
theorem dX12_endsWell_7 : decode cX12_endsWell 7 = .ok (.aload_n 0, 1) := by decide +kernel
theorem tX12_endsWell_7 {d : Nat} {l1 l2 l3 l4 : Option Value} {x : Nat} {m : jmM} {Q : Option Value → jmM → Prop} : AW d 281 7 [some (.ref x), l1, l2, l3, l4] [] m Q ↔ AW d 281 8 [some (.ref x), l1, l2, l3, l4] [.ref x] m Q := A_aload_n hB_X12_endsWell dX12_endsWell_7 rfl
theorem dX12_endsWell_8 : decode cX12_endsWell 8 = .ok (.getfield 436, 3) := by decide +kernel
theorem tX12_endsWell_8 {d : Nat} {l0 l1 l2 l3 l4 : Option Value} {a : Nat} {m : jmM} {Q : Option Value → jmM → Prop} : AW d 281 8 [l0, l1, l2, l3, l4] [.ref a] m Q ↔ (mS m a).1 = 12 ∧ AW d 281 11 [l0, l1, l2, l3, l4] [.int (mI m a 46)] m Q := A_getfield (f := fun m a => .int (mI m a 46)) hB_X12_endsWell dX12_endsWell_8 hO_X12_endsWell fF_12_436 rfl
theorem dX12_endsWell_11 : decode cX12_endsWell 11 = .ok (.aload_n 0, 1) := by decide +kernel
theorem tX12_endsWell_11 {d : Nat} {l1 l2 l3 l4 : Option Value} {v0 : Value} {x : Nat} {m : jmM} {Q : Option Value → jmM → Prop} : AW d 281 11 [some (.ref x), l1, l2, l3, l4] [v0] m Q ↔ AW d 281 12 [some (.ref x), l1, l2, l3, l4] [.ref x, v0] m Q := A_aload_n hB_X12_endsWell dX12_endsWell_11 rfl
theorem dX12_endsWell_12 : decode cX12_endsWell 12 = .ok (.getfield 51, 3) := by decide +kernel
theorem tX12_endsWell_12 {d : Nat} {l0 l1 l2 l3 l4 : Option Value} {v1 : Value} {a : Nat} {m : jmM} {Q : Option Value → jmM → Prop} : AW d 281 12 [l0, l1, l2, l3, l4] [.ref a, v1] m Q ↔ (mS m a).1 = 12 ∧ AW d 281 15 [l0, l1, l2, l3, l4] [va_rf (mR m a 25), v1] m Q := A_getfield (f := fun m a => va_rf (mR m a 25)) hB_X12_endsWell dX12_endsWell_12 hO_X12_endsWell fF_12_51 rfl
theorem dX12_endsWell_15 : decode cX12_endsWell 15 = .ok (.iconst 4, 1) := by decide +kernel
theorem tX12_endsWell_15 {d : Nat} {l0 l1 l2 l3 l4 : Option Value} {v0 v1 : Value} {m : jmM} {Q : Option Value → jmM → Prop} : AW d 281 15 [l0, l1, l2, l3, l4] [v0, v1] m Q ↔ AW d 281 16 [l0, l1, l2, l3, l4] [.int 4, v0, v1] m Q := A_iconst hB_X12_endsWell dX12_endsWell_15 (by decide)
theorem dX12_endsWell_16 : decode cX12_endsWell 16 = .ok (.iaload, 1) := by decide +kernel
theorem tX12_endsWell_16 {d : Nat} {l0 l1 l2 l3 l4 : Option Value} {v2 : Value} {i : Int32} {a : Nat} {m : jmM} {Q : Option Value → jmM → Prop} : AW d 281 16 [l0, l1, l2, l3, l4] [.int i, .ref a, v2] m Q ↔ (((mS m a).1 = 20 ∨ a = jScr) ∧ jIx i (mS m a).2) ∧ AW d 281 17 [l0, l1, l2, l3, l4] [.int (mI m a (jx i)), v2] m Q := A_iaload hB_X12_endsWell dX12_endsWell_16
theorem dX12_endsWell_17 : decode cX12_endsWell 17 = .ok (.isub, 1) := by decide +kernel
theorem tX12_endsWell_17 {d : Nat} {l0 l1 l2 l3 l4 : Option Value} {x y : Int32} {m : jmM} {Q : Option Value → jmM → Prop} : AW d 281 17 [l0, l1, l2, l3, l4] [.int y, .int x] m Q ↔ AW d 281 18 [l0, l1, l2, l3, l4] [.int (x - y)] m Q := A_isub hB_X12_endsWell dX12_endsWell_17
theorem dX12_endsWell_18 : decode cX12_endsWell 18 = .ok (.i2l, 1) := by decide +kernel
theorem tX12_endsWell_18 {d : Nat} {l0 l1 l2 l3 l4 : Option Value} {x : Int32} {m : jmM} {Q : Option Value → jmM → Prop} : AW d 281 18 [l0, l1, l2, l3, l4] [.int x] m Q ↔ AW d 281 19 [l0, l1, l2, l3, l4] [.long x.toInt64] m Q := A_i2l hB_X12_endsWell dX12_endsWell_18
theorem dX12_endsWell_19 : decode cX12_endsWell 19 = .ok (.iload 4, 2) := by decide +kernel
theorem tX12_endsWell_19 {d : Nat} {l0 l1 l2 l3 : Option Value} {v0 : Value} {x : Int32} {m : jmM} {Q : Option Value → jmM → Prop} : AW d 281 19 [l0, l1, l2, l3, some (.int x)] [v0] m Q ↔ AW d 281 21 [l0, l1, l2, l3, some (.int x)] [.int x, v0] m Q := A_iload hB_X12_endsWell dX12_endsWell_19 rfl
theorem dX12_endsWell_21 : decode cX12_endsWell 21 = .ok (.ineg, 1) := by decide +kernel
theorem tX12_endsWell_21 {d : Nat} {l0 l1 l2 l3 l4 : Option Value} {v1 : Value} {x : Int32} {m : jmM} {Q : Option Value → jmM → Prop} : AW d 281 21 [l0, l1, l2, l3, l4] [.int x, v1] m Q ↔ AW d 281 22 [l0, l1, l2, l3, l4] [.int (-x), v1] m Q := A_ineg hB_X12_endsWell dX12_endsWell_21
theorem dX12_endsWell_22 : decode cX12_endsWell 22 = .ok (.i2l, 1) := by decide +kernel
theorem tX12_endsWell_22 {d : Nat} {l0 l1 l2 l3 l4 : Option Value} {v1 : Value} {x : Int32} {m : jmM} {Q : Option Value → jmM → Prop} : AW d 281 22 [l0, l1, l2, l3, l4] [.int x, v1] m Q ↔ AW d 281 23 [l0, l1, l2, l3, l4] [.long x.toInt64, v1] m Q := A_i2l hB_X12_endsWell dX12_endsWell_22
theorem dX12_endsWell_23 : decode cX12_endsWell 23 = .ok (.iload 4, 2) := by decide +kernel
theorem tX12_endsWell_23 {d : Nat} {l0 l1 l2 l3 : Option Value} {v0 v1 : Value} {x : Int32} {m : jmM} {Q : Option Value → jmM → Prop} : AW d 281 23 [l0, l1, l2, l3, some (.int x)] [v0, v1] m Q ↔ AW d 281 25 [l0, l1, l2, l3, some (.int x)] [.int x, v0, v1] m Q := A_iload hB_X12_endsWell dX12_endsWell_23 rfl
theorem dX12_endsWell_25 : decode cX12_endsWell 25 = .ok (.i2l, 1) := by decide +kernel
theorem tX12_endsWell_25 {d : Nat} {l0 l1 l2 l3 l4 : Option Value} {v1 v2 : Value} {x : Int32} {m : jmM} {Q : Option Value → jmM → Prop} : AW d 281 25 [l0, l1, l2, l3, l4] [.int x, v1, v2] m Q ↔ AW d 281 26 [l0, l1, l2, l3, l4] [.long x.toInt64, v1, v2] m Q := A_i2l hB_X12_endsWell dX12_endsWell_25
theorem dX12_endsWell_26 : decode cX12_endsWell 26 = .ok (.invokestatic 281, 3) := by decide +kernel
theorem tX12_endsWell_26 {d : Nat} {l0 l1 l2 l3 l4 : Option Value} {y0 y1 y2 : Value} {m : jmM} {Q : Option Value → jmM → Prop} : AW d 281 26 [l0, l1, l2, l3, l4] [y0, y1, y2] m Q ↔ CC d 189 [y2, y1, y0] m (jK d 281 29 [l0, l1, l2, l3, l4] [] Q) := A_callS0 hB_X12_endsWell dX12_endsWell_26 hO_X12_endsWell fS_12_281 ⟨Nat.le_of_ble_eq_true rfl, Nat.le_of_ble_eq_true rfl⟩ rfl rfl
theorem dX12_endsWell_29 : decode cX12_endsWell 29 = .ok (.ireturn, 1) := by decide +kernel
theorem tX12_endsWell_29 {d : Nat} {l0 l1 l2 l3 l4 : Option Value} {x : Int32} {m : jmM} {Q : Option Value → jmM → Prop} : AW d 281 29 [l0, l1, l2, l3, l4] [.int x] m Q ↔ jBool x ∧ Q (some (.int x)) m := A_zreturn hB_X12_endsWell dX12_endsWell_29 hR_X12_endsWell
theorem hB_X12_far : jB 282 = cX12_far := rfl
theorem hO_X12_far : jO 282 = 12 := rfl
theorem hR_X12_far : jRt 282 = (some .int) := rfl
theorem nX12_far (d : Nat) (x0 : Nat) (x1 : Int32) (x2 : Int32) (x3 : Int32) (m : jmM) (Q : Option Value → jmM → Prop) : CC (d + 1) 282 [.ref x0, .int x1, .int x2, .int x3] m Q ↔ AW d 282 0 [some (.ref x0), some (.int x1), some (.int x2), some (.int x3), none] [] m Q := CC_body (Nat.le_of_ble_eq_true rfl)
theorem dX12_far_0 : decode cX12_far 0 = .ok (.aload_n 0, 1) := by decide +kernel
theorem tX12_far_0 {d : Nat} {l1 l2 l3 l4 : Option Value} {x : Nat} {m : jmM} {Q : Option Value → jmM → Prop} : AW d 282 0 [some (.ref x), l1, l2, l3, l4] [] m Q ↔ AW d 282 1 [some (.ref x), l1, l2, l3, l4] [.ref x] m Q := A_aload_n hB_X12_far dX12_far_0 rfl
theorem dX12_far_1 : decode cX12_far 1 = .ok (.getfield 51, 3) := by decide +kernel
theorem tX12_far_1 {d : Nat} {l0 l1 l2 l3 l4 : Option Value} {a : Nat} {m : jmM} {Q : Option Value → jmM → Prop} : AW d 282 1 [l0, l1, l2, l3, l4] [.ref a] m Q ↔ (mS m a).1 = 12 ∧ AW d 282 4 [l0, l1, l2, l3, l4] [va_rf (mR m a 25)] m Q := A_getfield (f := fun m a => va_rf (mR m a 25)) hB_X12_far dX12_far_1 hO_X12_far fF_12_51 rfl
theorem dX12_far_4 : decode cX12_far 4 = .ok (.iconst 0, 1) := by decide +kernel
theorem tX12_far_4 {d : Nat} {l0 l1 l2 l3 l4 : Option Value} {v0 : Value} {m : jmM} {Q : Option Value → jmM → Prop} : AW d 282 4 [l0, l1, l2, l3, l4] [v0] m Q ↔ AW d 282 5 [l0, l1, l2, l3, l4] [.int 0, v0] m Q := A_iconst hB_X12_far dX12_far_4 (by decide)
theorem dX12_far_5 : decode cX12_far 5 = .ok (.iaload, 1) := by decide +kernel
theorem tX12_far_5 {d : Nat} {l0 l1 l2 l3 l4 : Option Value} {i : Int32} {a : Nat} {m : jmM} {Q : Option Value → jmM → Prop} : AW d 282 5 [l0, l1, l2, l3, l4] [.int i, .ref a] m Q ↔ (((mS m a).1 = 20 ∨ a = jScr) ∧ jIx i (mS m a).2) ∧ AW d 282 6 [l0, l1, l2, l3, l4] [.int (mI m a (jx i))] m Q := A_iaload hB_X12_far dX12_far_5
theorem dX12_far_6 : decode cX12_far 6 = .ok (.iconst 1, 1) := by decide +kernel
theorem tX12_far_6 {d : Nat} {l0 l1 l2 l3 l4 : Option Value} {v0 : Value} {m : jmM} {Q : Option Value → jmM → Prop} : AW d 282 6 [l0, l1, l2, l3, l4] [v0] m Q ↔ AW d 282 7 [l0, l1, l2, l3, l4] [.int 1, v0] m Q := A_iconst hB_X12_far dX12_far_6 (by decide)
theorem dX12_far_7 : decode cX12_far 7 = .ok (.if_icmp .ne 43, 3) := by decide +kernel
theorem tX12_far_7 {d : Nat} {l0 l1 l2 l3 l4 : Option Value} {x y : Int32} {m : jmM} {Q : Option Value → jmM → Prop} : AW d 282 7 [l0, l1, l2, l3, l4] [.int y, .int x] m Q ↔ if x = y then AW d 282 10 [l0, l1, l2, l3, l4] [] m Q else AW d 282 50 [l0, l1, l2, l3, l4] [] m Q := A_icmp_ne hB_X12_far dX12_far_7 (by decide)
theorem dX12_far_10 : decode cX12_far 10 = .ok (.iload_n 1, 1) := by decide +kernel
theorem tX12_far_10 {d : Nat} {l0 l2 l3 l4 : Option Value} {x : Int32} {m : jmM} {Q : Option Value → jmM → Prop} : AW d 282 10 [l0, some (.int x), l2, l3, l4] [] m Q ↔ AW d 282 11 [l0, some (.int x), l2, l3, l4] [.int x] m Q := A_iload_n hB_X12_far dX12_far_10 rfl
theorem dX12_far_11 : decode cX12_far 11 = .ok (.i2l, 1) := by decide +kernel
theorem tX12_far_11 {d : Nat} {l0 l1 l2 l3 l4 : Option Value} {x : Int32} {m : jmM} {Q : Option Value → jmM → Prop} : AW d 282 11 [l0, l1, l2, l3, l4] [.int x] m Q ↔ AW d 282 12 [l0, l1, l2, l3, l4] [.long x.toInt64] m Q := A_i2l hB_X12_far dX12_far_11
theorem dX12_far_12 : decode cX12_far 12 = .ok (.lconst 0, 1) := by decide +kernel
theorem tX12_far_12 {d : Nat} {l0 l1 l2 l3 l4 : Option Value} {v0 : Value} {m : jmM} {Q : Option Value → jmM → Prop} : AW d 282 12 [l0, l1, l2, l3, l4] [v0] m Q ↔ AW d 282 13 [l0, l1, l2, l3, l4] [.long 0, v0] m Q := A_lconst hB_X12_far dX12_far_12 (by decide)
theorem dX12_far_13 : decode cX12_far 13 = .ok (.aload_n 0, 1) := by decide +kernel
theorem tX12_far_13 {d : Nat} {l1 l2 l3 l4 : Option Value} {v0 v1 : Value} {x : Nat} {m : jmM} {Q : Option Value → jmM → Prop} : AW d 282 13 [some (.ref x), l1, l2, l3, l4] [v0, v1] m Q ↔ AW d 282 14 [some (.ref x), l1, l2, l3, l4] [.ref x, v0, v1] m Q := A_aload_n hB_X12_far dX12_far_13 rfl
theorem dX12_far_14 : decode cX12_far 14 = .ok (.getfield 257, 3) := by decide +kernel
theorem tX12_far_14 {d : Nat} {l0 l1 l2 l3 l4 : Option Value} {v1 v2 : Value} {a : Nat} {m : jmM} {Q : Option Value → jmM → Prop} : AW d 282 14 [l0, l1, l2, l3, l4] [.ref a, v1, v2] m Q ↔ (mS m a).1 = 12 ∧ AW d 282 17 [l0, l1, l2, l3, l4] [.int (mI m a 10), v1, v2] m Q := A_getfield (f := fun m a => .int (mI m a 10)) hB_X12_far dX12_far_14 hO_X12_far fF_12_257 rfl
theorem dX12_far_17 : decode cX12_far 17 = .ok (.iconst 1, 1) := by decide +kernel
theorem tX12_far_17 {d : Nat} {l0 l1 l2 l3 l4 : Option Value} {v0 v1 v2 : Value} {m : jmM} {Q : Option Value → jmM → Prop} : AW d 282 17 [l0, l1, l2, l3, l4] [v0, v1, v2] m Q ↔ AW d 282 18 [l0, l1, l2, l3, l4] [.int 1, v0, v1, v2] m Q := A_iconst hB_X12_far dX12_far_17 (by decide)
theorem dX12_far_18 : decode cX12_far 18 = .ok (.isub, 1) := by decide +kernel
theorem tX12_far_18 {d : Nat} {l0 l1 l2 l3 l4 : Option Value} {v2 v3 : Value} {x y : Int32} {m : jmM} {Q : Option Value → jmM → Prop} : AW d 282 18 [l0, l1, l2, l3, l4] [.int y, .int x, v2, v3] m Q ↔ AW d 282 19 [l0, l1, l2, l3, l4] [.int (x - y), v2, v3] m Q := A_isub hB_X12_far dX12_far_18
theorem dX12_far_19 : decode cX12_far 19 = .ok (.i2l, 1) := by decide +kernel
theorem tX12_far_19 {d : Nat} {l0 l1 l2 l3 l4 : Option Value} {v1 v2 : Value} {x : Int32} {m : jmM} {Q : Option Value → jmM → Prop} : AW d 282 19 [l0, l1, l2, l3, l4] [.int x, v1, v2] m Q ↔ AW d 282 20 [l0, l1, l2, l3, l4] [.long x.toInt64, v1, v2] m Q := A_i2l hB_X12_far dX12_far_19
theorem dX12_far_20 : decode cX12_far 20 = .ok (.invokestatic 281, 3) := by decide +kernel
theorem tX12_far_20 {d : Nat} {l0 l1 l2 l3 l4 : Option Value} {y0 y1 y2 : Value} {m : jmM} {Q : Option Value → jmM → Prop} : AW d 282 20 [l0, l1, l2, l3, l4] [y0, y1, y2] m Q ↔ CC d 189 [y2, y1, y0] m (jK d 282 23 [l0, l1, l2, l3, l4] [] Q) := A_callS0 hB_X12_far dX12_far_20 hO_X12_far fS_12_281 ⟨Nat.le_of_ble_eq_true rfl, Nat.le_of_ble_eq_true rfl⟩ rfl rfl
theorem dX12_far_23 : decode cX12_far 23 = .ok (.ifCond .eq 27, 3) := by decide +kernel
theorem tX12_far_23 {d : Nat} {l0 l1 l2 l3 l4 : Option Value} {x : Int32} {m : jmM} {Q : Option Value → jmM → Prop} : AW d 282 23 [l0, l1, l2, l3, l4] [.int x] m Q ↔ if x = 0 then AW d 282 50 [l0, l1, l2, l3, l4] [] m Q else AW d 282 26 [l0, l1, l2, l3, l4] [] m Q := A_if_eq hB_X12_far dX12_far_23 (by decide)
theorem dX12_far_26 : decode cX12_far 26 = .ok (.iload_n 2, 1) := by decide +kernel
theorem tX12_far_26 {d : Nat} {l0 l1 l3 l4 : Option Value} {x : Int32} {m : jmM} {Q : Option Value → jmM → Prop} : AW d 282 26 [l0, l1, some (.int x), l3, l4] [] m Q ↔ AW d 282 27 [l0, l1, some (.int x), l3, l4] [.int x] m Q := A_iload_n hB_X12_far dX12_far_26 rfl
theorem dX12_far_27 : decode cX12_far 27 = .ok (.i2l, 1) := by decide +kernel
theorem tX12_far_27 {d : Nat} {l0 l1 l2 l3 l4 : Option Value} {x : Int32} {m : jmM} {Q : Option Value → jmM → Prop} : AW d 282 27 [l0, l1, l2, l3, l4] [.int x] m Q ↔ AW d 282 28 [l0, l1, l2, l3, l4] [.long x.toInt64] m Q := A_i2l hB_X12_far dX12_far_27
theorem dX12_far_28 : decode cX12_far 28 = .ok (.lconst 1, 1) := by decide +kernel
theorem tX12_far_28 {d : Nat} {l0 l1 l2 l3 l4 : Option Value} {v0 : Value} {m : jmM} {Q : Option Value → jmM → Prop} : AW d 282 28 [l0, l1, l2, l3, l4] [v0] m Q ↔ AW d 282 29 [l0, l1, l2, l3, l4] [.long 1, v0] m Q := A_lconst hB_X12_far dX12_far_28 (by decide)
theorem dX12_far_29 : decode cX12_far 29 = .ok (.ldc2_w 439, 3) := by decide +kernel
theorem tX12_far_29 {d : Nat} {l0 l1 l2 l3 l4 : Option Value} {v0 v1 : Value} {m : jmM} {Q : Option Value → jmM → Prop} : AW d 282 29 [l0, l1, l2, l3, l4] [v0, v1] m Q ↔ AW d 282 32 [l0, l1, l2, l3, l4] [.long 300, v0, v1] m Q := A_ldc2_w hB_X12_far dX12_far_29 hO_X12_far fL2_12_439
theorem dX12_far_32 : decode cX12_far 32 = .ok (.invokestatic 281, 3) := by decide +kernel
theorem tX12_far_32 {d : Nat} {l0 l1 l2 l3 l4 : Option Value} {y0 y1 y2 : Value} {m : jmM} {Q : Option Value → jmM → Prop} : AW d 282 32 [l0, l1, l2, l3, l4] [y0, y1, y2] m Q ↔ CC d 189 [y2, y1, y0] m (jK d 282 35 [l0, l1, l2, l3, l4] [] Q) := A_callS0 hB_X12_far dX12_far_32 hO_X12_far fS_12_281 ⟨Nat.le_of_ble_eq_true rfl, Nat.le_of_ble_eq_true rfl⟩ rfl rfl
theorem dX12_far_35 : decode cX12_far 35 = .ok (.ifCond .eq 15, 3) := by decide +kernel
theorem tX12_far_35 {d : Nat} {l0 l1 l2 l3 l4 : Option Value} {x : Int32} {m : jmM} {Q : Option Value → jmM → Prop} : AW d 282 35 [l0, l1, l2, l3, l4] [.int x] m Q ↔ if x = 0 then AW d 282 50 [l0, l1, l2, l3, l4] [] m Q else AW d 282 38 [l0, l1, l2, l3, l4] [] m Q := A_if_eq hB_X12_far dX12_far_35 (by decide)
theorem dX12_far_38 : decode cX12_far 38 = .ok (.iload_n 3, 1) := by decide +kernel
theorem tX12_far_38 {d : Nat} {l0 l1 l2 l4 : Option Value} {x : Int32} {m : jmM} {Q : Option Value → jmM → Prop} : AW d 282 38 [l0, l1, l2, some (.int x), l4] [] m Q ↔ AW d 282 39 [l0, l1, l2, some (.int x), l4] [.int x] m Q := A_iload_n hB_X12_far dX12_far_38 rfl
theorem dX12_far_39 : decode cX12_far 39 = .ok (.i2l, 1) := by decide +kernel
theorem tX12_far_39 {d : Nat} {l0 l1 l2 l3 l4 : Option Value} {x : Int32} {m : jmM} {Q : Option Value → jmM → Prop} : AW d 282 39 [l0, l1, l2, l3, l4] [.int x] m Q ↔ AW d 282 40 [l0, l1, l2, l3, l4] [.long x.toInt64] m Q := A_i2l hB_X12_far dX12_far_39
theorem dX12_far_40 : decode cX12_far 40 = .ok (.lconst 0, 1) := by decide +kernel
theorem tX12_far_40 {d : Nat} {l0 l1 l2 l3 l4 : Option Value} {v0 : Value} {m : jmM} {Q : Option Value → jmM → Prop} : AW d 282 40 [l0, l1, l2, l3, l4] [v0] m Q ↔ AW d 282 41 [l0, l1, l2, l3, l4] [.long 0, v0] m Q := A_lconst hB_X12_far dX12_far_40 (by decide)
theorem dX12_far_41 : decode cX12_far 41 = .ok (.ldc2_w 291, 3) := by decide +kernel
theorem tX12_far_41 {d : Nat} {l0 l1 l2 l3 l4 : Option Value} {v0 v1 : Value} {m : jmM} {Q : Option Value → jmM → Prop} : AW d 282 41 [l0, l1, l2, l3, l4] [v0, v1] m Q ↔ AW d 282 44 [l0, l1, l2, l3, l4] [.long 9999, v0, v1] m Q := A_ldc2_w hB_X12_far dX12_far_41 hO_X12_far fL2_12_291
theorem dX12_far_44 : decode cX12_far 44 = .ok (.invokestatic 281, 3) := by decide +kernel
theorem tX12_far_44 {d : Nat} {l0 l1 l2 l3 l4 : Option Value} {y0 y1 y2 : Value} {m : jmM} {Q : Option Value → jmM → Prop} : AW d 282 44 [l0, l1, l2, l3, l4] [y0, y1, y2] m Q ↔ CC d 189 [y2, y1, y0] m (jK d 282 47 [l0, l1, l2, l3, l4] [] Q) := A_callS0 hB_X12_far dX12_far_44 hO_X12_far fS_12_281 ⟨Nat.le_of_ble_eq_true rfl, Nat.le_of_ble_eq_true rfl⟩ rfl rfl
theorem dX12_far_47 : decode cX12_far 47 = .ok (.ifCond .ne 5, 3) := by decide +kernel
theorem tX12_far_47 {d : Nat} {l0 l1 l2 l3 l4 : Option Value} {x : Int32} {m : jmM} {Q : Option Value → jmM → Prop} : AW d 282 47 [l0, l1, l2, l3, l4] [.int x] m Q ↔ if x = 0 then AW d 282 50 [l0, l1, l2, l3, l4] [] m Q else AW d 282 52 [l0, l1, l2, l3, l4] [] m Q := A_if_ne hB_X12_far dX12_far_47 (by decide)
theorem dX12_far_50 : decode cX12_far 50 = .ok (.iconst (-1), 1) := by decide +kernel
theorem tX12_far_50 {d : Nat} {l0 l1 l2 l3 l4 : Option Value} {m : jmM} {Q : Option Value → jmM → Prop} : AW d 282 50 [l0, l1, l2, l3, l4] [] m Q ↔ AW d 282 51 [l0, l1, l2, l3, l4] [.int (-1)] m Q := A_iconst hB_X12_far dX12_far_50 (by decide)
theorem dX12_far_51 : decode cX12_far 51 = .ok (.ireturn, 1) := by decide +kernel
theorem tX12_far_51 {d : Nat} {l0 l1 l2 l3 l4 : Option Value} {x : Int32} {m : jmM} {Q : Option Value → jmM → Prop} : AW d 282 51 [l0, l1, l2, l3, l4] [.int x] m Q ↔ Q (some (.int x)) m := A_ireturn hB_X12_far dX12_far_51 hR_X12_far
theorem dX12_far_52 : decode cX12_far 52 = .ok (.iconst 0, 1) := by decide +kernel
theorem tX12_far_52 {d : Nat} {l0 l1 l2 l3 l4 : Option Value} {m : jmM} {Q : Option Value → jmM → Prop} : AW d 282 52 [l0, l1, l2, l3, l4] [] m Q ↔ AW d 282 53 [l0, l1, l2, l3, l4] [.int 0] m Q := A_iconst hB_X12_far dX12_far_52 (by decide)
theorem dX12_far_53 : decode cX12_far 53 = .ok (.istore 4, 2) := by decide +kernel
theorem tX12_far_53 {d : Nat} {l0 l1 l2 l3 l4 : Option Value} {x : Int32} {m : jmM} {Q : Option Value → jmM → Prop} : AW d 282 53 [l0, l1, l2, l3, l4] [.int x] m Q ↔ AW d 282 55 [l0, l1, l2, jc1 l3, some (.int x)] [] m Q := A_istore hB_X12_far dX12_far_53 (Nat.le_of_ble_eq_true rfl) rfl
theorem dX12_far_55 : decode cX12_far 55 = .ok (.iload 4, 2) := by decide +kernel
theorem tX12_far_55 {d : Nat} {l0 l1 l2 l3 : Option Value} {x : Int32} {m : jmM} {Q : Option Value → jmM → Prop} : AW d 282 55 [l0, l1, l2, l3, some (.int x)] [] m Q ↔ AW d 282 57 [l0, l1, l2, l3, some (.int x)] [.int x] m Q := A_iload hB_X12_far dX12_far_55 rfl
theorem dX12_far_57 : decode cX12_far 57 = .ok (.bipush 100, 2) := by decide +kernel
theorem tX12_far_57 {d : Nat} {l0 l1 l2 l3 l4 : Option Value} {v0 : Value} {m : jmM} {Q : Option Value → jmM → Prop} : AW d 282 57 [l0, l1, l2, l3, l4] [v0] m Q ↔ AW d 282 59 [l0, l1, l2, l3, l4] [.int 100, v0] m Q := A_bipush hB_X12_far dX12_far_57 rfl
theorem dX12_far_59 : decode cX12_far 59 = .ok (.if_icmp .gt 34, 3) := by decide +kernel
theorem tX12_far_59 {d : Nat} {l0 l1 l2 l3 l4 : Option Value} {x y : Int32} {m : jmM} {Q : Option Value → jmM → Prop} : AW d 282 59 [l0, l1, l2, l3, l4] [.int y, .int x] m Q ↔ if y < x then AW d 282 93 [l0, l1, l2, l3, l4] [] m Q else AW d 282 62 [l0, l1, l2, l3, l4] [] m Q := A_icmp_gt hB_X12_far dX12_far_59 (by decide)
theorem dX12_far_62 : decode cX12_far 62 = .ok (.aload_n 0, 1) := by decide +kernel
theorem tX12_far_62 {d : Nat} {l1 l2 l3 l4 : Option Value} {x : Nat} {m : jmM} {Q : Option Value → jmM → Prop} : AW d 282 62 [some (.ref x), l1, l2, l3, l4] [] m Q ↔ AW d 282 63 [some (.ref x), l1, l2, l3, l4] [.ref x] m Q := A_aload_n hB_X12_far dX12_far_62 rfl
theorem dX12_far_63 : decode cX12_far 63 = .ok (.iload_n 1, 1) := by decide +kernel
theorem tX12_far_63 {d : Nat} {l0 l2 l3 l4 : Option Value} {v0 : Value} {x : Int32} {m : jmM} {Q : Option Value → jmM → Prop} : AW d 282 63 [l0, some (.int x), l2, l3, l4] [v0] m Q ↔ AW d 282 64 [l0, some (.int x), l2, l3, l4] [.int x, v0] m Q := A_iload_n hB_X12_far dX12_far_63 rfl
theorem dX12_far_64 : decode cX12_far 64 = .ok (.iload_n 2, 1) := by decide +kernel
theorem tX12_far_64 {d : Nat} {l0 l1 l3 l4 : Option Value} {v0 v1 : Value} {x : Int32} {m : jmM} {Q : Option Value → jmM → Prop} : AW d 282 64 [l0, l1, some (.int x), l3, l4] [v0, v1] m Q ↔ AW d 282 65 [l0, l1, some (.int x), l3, l4] [.int x, v0, v1] m Q := A_iload_n hB_X12_far dX12_far_64 rfl
theorem dX12_far_65 : decode cX12_far 65 = .ok (.iload 4, 2) := by decide +kernel
theorem tX12_far_65 {d : Nat} {l0 l1 l2 l3 : Option Value} {v0 v1 v2 : Value} {x : Int32} {m : jmM} {Q : Option Value → jmM → Prop} : AW d 282 65 [l0, l1, l2, l3, some (.int x)] [v0, v1, v2] m Q ↔ AW d 282 67 [l0, l1, l2, l3, some (.int x)] [.int x, v0, v1, v2] m Q := A_iload hB_X12_far dX12_far_65 rfl
theorem dX12_far_67 : decode cX12_far 67 = .ok (.iload_n 3, 1) := by decide +kernel
theorem tX12_far_67 {d : Nat} {l0 l1 l2 l4 : Option Value} {v0 v1 v2 v3 : Value} {x : Int32} {m : jmM} {Q : Option Value → jmM → Prop} : AW d 282 67 [l0, l1, l2, some (.int x), l4] [v0, v1, v2, v3] m Q ↔ AW d 282 68 [l0, l1, l2, some (.int x), l4] [.int x, v0, v1, v2, v3] m Q := A_iload_n hB_X12_far dX12_far_67 rfl
theorem dX12_far_68 : decode cX12_far 68 = .ok (.invokevirtual 447, 3) := by decide +kernel
theorem tX12_far_68 {d : Nat} {l0 l1 l2 l3 l4 : Option Value} {y0 y1 y2 y3 : Value} {a : Nat} {m : jmM} {Q : Option Value → jmM → Prop} : AW d 282 68 [l0, l1, l2, l3, l4] [y0, y1, y2, y3, .ref a] m Q ↔ (mS m a).1 = 12 ∧ CC d 281 [.ref a, y3, y2, y1, y0] m (jK d 282 71 [l0, l1, l2, l3, l4] [] Q) := A_callV hB_X12_far dX12_far_68 hO_X12_far fS_12_447 ⟨Nat.le_of_ble_eq_true rfl, Nat.le_of_ble_eq_true rfl⟩ rfl rfl rfl
theorem dX12_far_71 : decode cX12_far 71 = .ok (.ifCond .eq 22, 3) := by decide +kernel
theorem tX12_far_71 {d : Nat} {l0 l1 l2 l3 l4 : Option Value} {x : Int32} {m : jmM} {Q : Option Value → jmM → Prop} : AW d 282 71 [l0, l1, l2, l3, l4] [.int x] m Q ↔ if x = 0 then AW d 282 93 [l0, l1, l2, l3, l4] [] m Q else AW d 282 74 [l0, l1, l2, l3, l4] [] m Q := A_if_eq hB_X12_far dX12_far_71 (by decide)
theorem dX12_far_74 : decode cX12_far 74 = .ok (.aload_n 0, 1) := by decide +kernel
theorem tX12_far_74 {d : Nat} {l1 l2 l3 l4 : Option Value} {x : Nat} {m : jmM} {Q : Option Value → jmM → Prop} : AW d 282 74 [some (.ref x), l1, l2, l3, l4] [] m Q ↔ AW d 282 75 [some (.ref x), l1, l2, l3, l4] [.ref x] m Q := A_aload_n hB_X12_far dX12_far_74 rfl
theorem dX12_far_75 : decode cX12_far 75 = .ok (.iload_n 1, 1) := by decide +kernel
theorem tX12_far_75 {d : Nat} {l0 l2 l3 l4 : Option Value} {v0 : Value} {x : Int32} {m : jmM} {Q : Option Value → jmM → Prop} : AW d 282 75 [l0, some (.int x), l2, l3, l4] [v0] m Q ↔ AW d 282 76 [l0, some (.int x), l2, l3, l4] [.int x, v0] m Q := A_iload_n hB_X12_far dX12_far_75 rfl
theorem dX12_far_76 : decode cX12_far 76 = .ok (.iload_n 2, 1) := by decide +kernel
theorem tX12_far_76 {d : Nat} {l0 l1 l3 l4 : Option Value} {v0 v1 : Value} {x : Int32} {m : jmM} {Q : Option Value → jmM → Prop} : AW d 282 76 [l0, l1, some (.int x), l3, l4] [v0, v1] m Q ↔ AW d 282 77 [l0, l1, some (.int x), l3, l4] [.int x, v0, v1] m Q := A_iload_n hB_X12_far dX12_far_76 rfl
theorem dX12_far_77 : decode cX12_far 77 = .ok (.iload 4, 2) := by decide +kernel
theorem tX12_far_77 {d : Nat} {l0 l1 l2 l3 : Option Value} {v0 v1 v2 : Value} {x : Int32} {m : jmM} {Q : Option Value → jmM → Prop} : AW d 282 77 [l0, l1, l2, l3, some (.int x)] [v0, v1, v2] m Q ↔ AW d 282 79 [l0, l1, l2, l3, some (.int x)] [.int x, v0, v1, v2] m Q := A_iload hB_X12_far dX12_far_77 rfl
theorem dX12_far_79 : decode cX12_far 79 = .ok (.ineg, 1) := by decide +kernel
theorem tX12_far_79 {d : Nat} {l0 l1 l2 l3 l4 : Option Value} {v1 v2 v3 : Value} {x : Int32} {m : jmM} {Q : Option Value → jmM → Prop} : AW d 282 79 [l0, l1, l2, l3, l4] [.int x, v1, v2, v3] m Q ↔ AW d 282 80 [l0, l1, l2, l3, l4] [.int (-x), v1, v2, v3] m Q := A_ineg hB_X12_far dX12_far_79
theorem dX12_far_80 : decode cX12_far 80 = .ok (.iload_n 3, 1) := by decide +kernel
theorem tX12_far_80 {d : Nat} {l0 l1 l2 l4 : Option Value} {v0 v1 v2 v3 : Value} {x : Int32} {m : jmM} {Q : Option Value → jmM → Prop} : AW d 282 80 [l0, l1, l2, some (.int x), l4] [v0, v1, v2, v3] m Q ↔ AW d 282 81 [l0, l1, l2, some (.int x), l4] [.int x, v0, v1, v2, v3] m Q := A_iload_n hB_X12_far dX12_far_80 rfl
theorem dX12_far_81 : decode cX12_far 81 = .ok (.invokevirtual 447, 3) := by decide +kernel
theorem tX12_far_81 {d : Nat} {l0 l1 l2 l3 l4 : Option Value} {y0 y1 y2 y3 : Value} {a : Nat} {m : jmM} {Q : Option Value → jmM → Prop} : AW d 282 81 [l0, l1, l2, l3, l4] [y0, y1, y2, y3, .ref a] m Q ↔ (mS m a).1 = 12 ∧ CC d 281 [.ref a, y3, y2, y1, y0] m (jK d 282 84 [l0, l1, l2, l3, l4] [] Q) := A_callV hB_X12_far dX12_far_81 hO_X12_far fS_12_447 ⟨Nat.le_of_ble_eq_true rfl, Nat.le_of_ble_eq_true rfl⟩ rfl rfl rfl
theorem dX12_far_84 : decode cX12_far 84 = .ok (.ifCond .eq 9, 3) := by decide +kernel
theorem tX12_far_84 {d : Nat} {l0 l1 l2 l3 l4 : Option Value} {x : Int32} {m : jmM} {Q : Option Value → jmM → Prop} : AW d 282 84 [l0, l1, l2, l3, l4] [.int x] m Q ↔ if x = 0 then AW d 282 93 [l0, l1, l2, l3, l4] [] m Q else AW d 282 87 [l0, l1, l2, l3, l4] [] m Q := A_if_eq hB_X12_far dX12_far_84 (by decide)
theorem dX12_far_87 : decode cX12_far 87 = .ok (.iinc 4 1, 3) := by decide +kernel
theorem tX12_far_87 {d : Nat} {l0 l1 l2 l3 : Option Value} {x : Int32} {m : jmM} {Q : Option Value → jmM → Prop} : AW d 282 87 [l0, l1, l2, l3, some (.int x)] [] m Q ↔ AW d 282 90 [l0, l1, l2, jc1 l3, some (.int (x + 1))] [] m Q := A_iinc hB_X12_far dX12_far_87 rfl (Nat.le_of_ble_eq_true rfl) (v := 1) (by decide) rfl
theorem dX12_far_90 : decode cX12_far 90 = .ok (.goto (-35), 3) := by decide +kernel
theorem tX12_far_90 {d : Nat} {l0 l1 l2 l3 l4 : Option Value} {m : jmM} {Q : Option Value → jmM → Prop} : AW d 282 90 [l0, l1, l2, l3, l4] [] m Q ↔ AW d 282 55 [l0, l1, l2, l3, l4] [] m Q := A_goto hB_X12_far dX12_far_90 (by decide)
theorem dX12_far_93 : decode cX12_far 93 = .ok (.iload 4, 2) := by decide +kernel
theorem tX12_far_93 {d : Nat} {l0 l1 l2 l3 : Option Value} {x : Int32} {m : jmM} {Q : Option Value → jmM → Prop} : AW d 282 93 [l0, l1, l2, l3, some (.int x)] [] m Q ↔ AW d 282 95 [l0, l1, l2, l3, some (.int x)] [.int x] m Q := A_iload hB_X12_far dX12_far_93 rfl
theorem dX12_far_95 : decode cX12_far 95 = .ok (.ifCond .ne 8, 3) := by decide +kernel
theorem tX12_far_95 {d : Nat} {l0 l1 l2 l3 l4 : Option Value} {x : Int32} {m : jmM} {Q : Option Value → jmM → Prop} : AW d 282 95 [l0, l1, l2, l3, l4] [.int x] m Q ↔ if x = 0 then AW d 282 98 [l0, l1, l2, l3, l4] [] m Q else AW d 282 103 [l0, l1, l2, l3, l4] [] m Q := A_if_ne hB_X12_far dX12_far_95 (by decide)
theorem dX12_far_98 : decode cX12_far 98 = .ok (.bipush (-2), 2) := by decide +kernel
theorem tX12_far_98 {d : Nat} {l0 l1 l2 l3 l4 : Option Value} {m : jmM} {Q : Option Value → jmM → Prop} : AW d 282 98 [l0, l1, l2, l3, l4] [] m Q ↔ AW d 282 100 [l0, l1, l2, l3, l4] [.int (-2)] m Q := A_bipush hB_X12_far dX12_far_98 rfl
theorem dX12_far_100 : decode cX12_far 100 = .ok (.goto 7, 3) := by decide +kernel
theorem tX12_far_100 {d : Nat} {l0 l1 l2 l3 l4 : Option Value} {v0 : Value} {m : jmM} {Q : Option Value → jmM → Prop} : AW d 282 100 [l0, l1, l2, l3, l4] [v0] m Q ↔ AW d 282 107 [l0, l1, l2, l3, l4] [v0] m Q := A_goto hB_X12_far dX12_far_100 (by decide)
theorem dX12_far_103 : decode cX12_far 103 = .ok (.iload 4, 2) := by decide +kernel
theorem tX12_far_103 {d : Nat} {l0 l1 l2 l3 : Option Value} {x : Int32} {m : jmM} {Q : Option Value → jmM → Prop} : AW d 282 103 [l0, l1, l2, l3, some (.int x)] [] m Q ↔ AW d 282 105 [l0, l1, l2, l3, some (.int x)] [.int x] m Q := A_iload hB_X12_far dX12_far_103 rfl
theorem dX12_far_105 : decode cX12_far 105 = .ok (.iconst 1, 1) := by decide +kernel
theorem tX12_far_105 {d : Nat} {l0 l1 l2 l3 l4 : Option Value} {v0 : Value} {m : jmM} {Q : Option Value → jmM → Prop} : AW d 282 105 [l0, l1, l2, l3, l4] [v0] m Q ↔ AW d 282 106 [l0, l1, l2, l3, l4] [.int 1, v0] m Q := A_iconst hB_X12_far dX12_far_105 (by decide)
theorem dX12_far_106 : decode cX12_far 106 = .ok (.isub, 1) := by decide +kernel
theorem tX12_far_106 {d : Nat} {l0 l1 l2 l3 l4 : Option Value} {x y : Int32} {m : jmM} {Q : Option Value → jmM → Prop} : AW d 282 106 [l0, l1, l2, l3, l4] [.int y, .int x] m Q ↔ AW d 282 107 [l0, l1, l2, l3, l4] [.int (x - y)] m Q := A_isub hB_X12_far dX12_far_106
theorem dX12_far_107 : decode cX12_far 107 = .ok (.ireturn, 1) := by decide +kernel
theorem tX12_far_107 {d : Nat} {l0 l1 l2 l3 l4 : Option Value} {x : Int32} {m : jmM} {Q : Option Value → jmM → Prop} : AW d 282 107 [l0, l1, l2, l3, l4] [.int x] m Q ↔ Q (some (.int x)) m := A_ireturn hB_X12_far dX12_far_107 hR_X12_far
theorem hB_X12_slice : jB 283 = cX12_slice := rfl
theorem hO_X12_slice : jO 283 = 12 := rfl
theorem hR_X12_slice : jRt 283 = (some .int) := rfl
theorem nX12_slice (d : Nat) (x0 : Nat) (x1 : Int32) (x2 : Int32) (x3 : Int32) (x4 : Int32) (m : jmM) (Q : Option Value → jmM → Prop) : CC (d + 1) 283 [.ref x0, .int x1, .int x2, .int x3, .int x4] m Q ↔ AW d 283 0 [some (.ref x0), some (.int x1), some (.int x2), some (.int x3), some (.int x4)] [] m Q := CC_body (Nat.le_of_ble_eq_true rfl)
theorem dX12_slice_0 : decode cX12_slice 0 = .ok (.aload_n 0, 1) := by decide +kernel
theorem tX12_slice_0 {d : Nat} {l1 l2 l3 l4 : Option Value} {x : Nat} {m : jmM} {Q : Option Value → jmM → Prop} : AW d 283 0 [some (.ref x), l1, l2, l3, l4] [] m Q ↔ AW d 283 1 [some (.ref x), l1, l2, l3, l4] [.ref x] m Q := A_aload_n hB_X12_slice dX12_slice_0 rfl
theorem dX12_slice_1 : decode cX12_slice 1 = .ok (.getfield 352, 3) := by decide +kernel
theorem tX12_slice_1 {d : Nat} {l0 l1 l2 l3 l4 : Option Value} {a : Nat} {m : jmM} {Q : Option Value → jmM → Prop} : AW d 283 1 [l0, l1, l2, l3, l4] [.ref a] m Q ↔ (mS m a).1 = 12 ∧ AW d 283 4 [l0, l1, l2, l3, l4] [.int (mI m a 47)] m Q := A_getfield (f := fun m a => .int (mI m a 47)) hB_X12_slice dX12_slice_1 hO_X12_slice fF_12_352 rfl
theorem dX12_slice_4 : decode cX12_slice 4 = .ok (.bipush 100, 2) := by decide +kernel
theorem tX12_slice_4 {d : Nat} {l0 l1 l2 l3 l4 : Option Value} {v0 : Value} {m : jmM} {Q : Option Value → jmM → Prop} : AW d 283 4 [l0, l1, l2, l3, l4] [v0] m Q ↔ AW d 283 6 [l0, l1, l2, l3, l4] [.int 100, v0] m Q := A_bipush hB_X12_slice dX12_slice_4 rfl
theorem dX12_slice_6 : decode cX12_slice 6 = .ok (.if_icmp .eq 52, 3) := by decide +kernel
theorem tX12_slice_6 {d : Nat} {l0 l1 l2 l3 l4 : Option Value} {x y : Int32} {m : jmM} {Q : Option Value → jmM → Prop} : AW d 283 6 [l0, l1, l2, l3, l4] [.int y, .int x] m Q ↔ if x = y then AW d 283 58 [l0, l1, l2, l3, l4] [] m Q else AW d 283 9 [l0, l1, l2, l3, l4] [] m Q := A_icmp_eq hB_X12_slice dX12_slice_6 (by decide)
theorem dX12_slice_9 : decode cX12_slice 9 = .ok (.iload_n 1, 1) := by decide +kernel
theorem tX12_slice_9 {d : Nat} {l0 l2 l3 l4 : Option Value} {x : Int32} {m : jmM} {Q : Option Value → jmM → Prop} : AW d 283 9 [l0, some (.int x), l2, l3, l4] [] m Q ↔ AW d 283 10 [l0, some (.int x), l2, l3, l4] [.int x] m Q := A_iload_n hB_X12_slice dX12_slice_9 rfl
theorem dX12_slice_10 : decode cX12_slice 10 = .ok (.i2l, 1) := by decide +kernel
theorem tX12_slice_10 {d : Nat} {l0 l1 l2 l3 l4 : Option Value} {x : Int32} {m : jmM} {Q : Option Value → jmM → Prop} : AW d 283 10 [l0, l1, l2, l3, l4] [.int x] m Q ↔ AW d 283 11 [l0, l1, l2, l3, l4] [.long x.toInt64] m Q := A_i2l hB_X12_slice dX12_slice_10
theorem dX12_slice_11 : decode cX12_slice 11 = .ok (.lconst 0, 1) := by decide +kernel
theorem tX12_slice_11 {d : Nat} {l0 l1 l2 l3 l4 : Option Value} {v0 : Value} {m : jmM} {Q : Option Value → jmM → Prop} : AW d 283 11 [l0, l1, l2, l3, l4] [v0] m Q ↔ AW d 283 12 [l0, l1, l2, l3, l4] [.long 0, v0] m Q := A_lconst hB_X12_slice dX12_slice_11 (by decide)
theorem dX12_slice_12 : decode cX12_slice 12 = .ok (.ldc2_w 404, 3) := by decide +kernel
theorem tX12_slice_12 {d : Nat} {l0 l1 l2 l3 l4 : Option Value} {v0 v1 : Value} {m : jmM} {Q : Option Value → jmM → Prop} : AW d 283 12 [l0, l1, l2, l3, l4] [v0, v1] m Q ↔ AW d 283 15 [l0, l1, l2, l3, l4] [.long 599, v0, v1] m Q := A_ldc2_w hB_X12_slice dX12_slice_12 hO_X12_slice fL2_12_404
theorem dX12_slice_15 : decode cX12_slice 15 = .ok (.invokestatic 281, 3) := by decide +kernel
theorem tX12_slice_15 {d : Nat} {l0 l1 l2 l3 l4 : Option Value} {y0 y1 y2 : Value} {m : jmM} {Q : Option Value → jmM → Prop} : AW d 283 15 [l0, l1, l2, l3, l4] [y0, y1, y2] m Q ↔ CC d 189 [y2, y1, y0] m (jK d 283 18 [l0, l1, l2, l3, l4] [] Q) := A_callS0 hB_X12_slice dX12_slice_15 hO_X12_slice fS_12_281 ⟨Nat.le_of_ble_eq_true rfl, Nat.le_of_ble_eq_true rfl⟩ rfl rfl
theorem dX12_slice_18 : decode cX12_slice 18 = .ok (.ifCond .eq 40, 3) := by decide +kernel
theorem tX12_slice_18 {d : Nat} {l0 l1 l2 l3 l4 : Option Value} {x : Int32} {m : jmM} {Q : Option Value → jmM → Prop} : AW d 283 18 [l0, l1, l2, l3, l4] [.int x] m Q ↔ if x = 0 then AW d 283 58 [l0, l1, l2, l3, l4] [] m Q else AW d 283 21 [l0, l1, l2, l3, l4] [] m Q := A_if_eq hB_X12_slice dX12_slice_18 (by decide)
theorem dX12_slice_21 : decode cX12_slice 21 = .ok (.iload_n 2, 1) := by decide +kernel
theorem tX12_slice_21 {d : Nat} {l0 l1 l3 l4 : Option Value} {x : Int32} {m : jmM} {Q : Option Value → jmM → Prop} : AW d 283 21 [l0, l1, some (.int x), l3, l4] [] m Q ↔ AW d 283 22 [l0, l1, some (.int x), l3, l4] [.int x] m Q := A_iload_n hB_X12_slice dX12_slice_21 rfl
theorem dX12_slice_22 : decode cX12_slice 22 = .ok (.i2l, 1) := by decide +kernel
theorem tX12_slice_22 {d : Nat} {l0 l1 l2 l3 l4 : Option Value} {x : Int32} {m : jmM} {Q : Option Value → jmM → Prop} : AW d 283 22 [l0, l1, l2, l3, l4] [.int x] m Q ↔ AW d 283 23 [l0, l1, l2, l3, l4] [.long x.toInt64] m Q := A_i2l hB_X12_slice dX12_slice_22
theorem dX12_slice_23 : decode cX12_slice 23 = .ok (.lconst 0, 1) := by decide +kernel
theorem tX12_slice_23 {d : Nat} {l0 l1 l2 l3 l4 : Option Value} {v0 : Value} {m : jmM} {Q : Option Value → jmM → Prop} : AW d 283 23 [l0, l1, l2, l3, l4] [v0] m Q ↔ AW d 283 24 [l0, l1, l2, l3, l4] [.long 0, v0] m Q := A_lconst hB_X12_slice dX12_slice_23 (by decide)
theorem dX12_slice_24 : decode cX12_slice 24 = .ok (.ldc2_w 279, 3) := by decide +kernel
theorem tX12_slice_24 {d : Nat} {l0 l1 l2 l3 l4 : Option Value} {v0 v1 : Value} {m : jmM} {Q : Option Value → jmM → Prop} : AW d 283 24 [l0, l1, l2, l3, l4] [v0, v1] m Q ↔ AW d 283 27 [l0, l1, l2, l3, l4] [.long 5, v0, v1] m Q := A_ldc2_w hB_X12_slice dX12_slice_24 hO_X12_slice fL2_12_279
theorem dX12_slice_27 : decode cX12_slice 27 = .ok (.invokestatic 281, 3) := by decide +kernel
theorem tX12_slice_27 {d : Nat} {l0 l1 l2 l3 l4 : Option Value} {y0 y1 y2 : Value} {m : jmM} {Q : Option Value → jmM → Prop} : AW d 283 27 [l0, l1, l2, l3, l4] [y0, y1, y2] m Q ↔ CC d 189 [y2, y1, y0] m (jK d 283 30 [l0, l1, l2, l3, l4] [] Q) := A_callS0 hB_X12_slice dX12_slice_27 hO_X12_slice fS_12_281 ⟨Nat.le_of_ble_eq_true rfl, Nat.le_of_ble_eq_true rfl⟩ rfl rfl
theorem dX12_slice_30 : decode cX12_slice 30 = .ok (.ifCond .eq 28, 3) := by decide +kernel
theorem tX12_slice_30 {d : Nat} {l0 l1 l2 l3 l4 : Option Value} {x : Int32} {m : jmM} {Q : Option Value → jmM → Prop} : AW d 283 30 [l0, l1, l2, l3, l4] [.int x] m Q ↔ if x = 0 then AW d 283 58 [l0, l1, l2, l3, l4] [] m Q else AW d 283 33 [l0, l1, l2, l3, l4] [] m Q := A_if_eq hB_X12_slice dX12_slice_30 (by decide)
theorem dX12_slice_33 : decode cX12_slice 33 = .ok (.iload_n 3, 1) := by decide +kernel
theorem tX12_slice_33 {d : Nat} {l0 l1 l2 l4 : Option Value} {x : Int32} {m : jmM} {Q : Option Value → jmM → Prop} : AW d 283 33 [l0, l1, l2, some (.int x), l4] [] m Q ↔ AW d 283 34 [l0, l1, l2, some (.int x), l4] [.int x] m Q := A_iload_n hB_X12_slice dX12_slice_33 rfl
theorem dX12_slice_34 : decode cX12_slice 34 = .ok (.i2l, 1) := by decide +kernel
theorem tX12_slice_34 {d : Nat} {l0 l1 l2 l3 l4 : Option Value} {x : Int32} {m : jmM} {Q : Option Value → jmM → Prop} : AW d 283 34 [l0, l1, l2, l3, l4] [.int x] m Q ↔ AW d 283 35 [l0, l1, l2, l3, l4] [.long x.toInt64] m Q := A_i2l hB_X12_slice dX12_slice_34
theorem dX12_slice_35 : decode cX12_slice 35 = .ok (.lconst 0, 1) := by decide +kernel
theorem tX12_slice_35 {d : Nat} {l0 l1 l2 l3 l4 : Option Value} {v0 : Value} {m : jmM} {Q : Option Value → jmM → Prop} : AW d 283 35 [l0, l1, l2, l3, l4] [v0] m Q ↔ AW d 283 36 [l0, l1, l2, l3, l4] [.long 0, v0] m Q := A_lconst hB_X12_slice dX12_slice_35 (by decide)
theorem dX12_slice_36 : decode cX12_slice 36 = .ok (.ldc2_w 392, 3) := by decide +kernel
theorem tX12_slice_36 {d : Nat} {l0 l1 l2 l3 l4 : Option Value} {v0 v1 : Value} {m : jmM} {Q : Option Value → jmM → Prop} : AW d 283 36 [l0, l1, l2, l3, l4] [v0, v1] m Q ↔ AW d 283 39 [l0, l1, l2, l3, l4] [.long 1000000000, v0, v1] m Q := A_ldc2_w hB_X12_slice dX12_slice_36 hO_X12_slice fL2_12_392
theorem dX12_slice_39 : decode cX12_slice 39 = .ok (.invokestatic 281, 3) := by decide +kernel
theorem tX12_slice_39 {d : Nat} {l0 l1 l2 l3 l4 : Option Value} {y0 y1 y2 : Value} {m : jmM} {Q : Option Value → jmM → Prop} : AW d 283 39 [l0, l1, l2, l3, l4] [y0, y1, y2] m Q ↔ CC d 189 [y2, y1, y0] m (jK d 283 42 [l0, l1, l2, l3, l4] [] Q) := A_callS0 hB_X12_slice dX12_slice_39 hO_X12_slice fS_12_281 ⟨Nat.le_of_ble_eq_true rfl, Nat.le_of_ble_eq_true rfl⟩ rfl rfl
theorem dX12_slice_42 : decode cX12_slice 42 = .ok (.ifCond .eq 16, 3) := by decide +kernel
theorem tX12_slice_42 {d : Nat} {l0 l1 l2 l3 l4 : Option Value} {x : Int32} {m : jmM} {Q : Option Value → jmM → Prop} : AW d 283 42 [l0, l1, l2, l3, l4] [.int x] m Q ↔ if x = 0 then AW d 283 58 [l0, l1, l2, l3, l4] [] m Q else AW d 283 45 [l0, l1, l2, l3, l4] [] m Q := A_if_eq hB_X12_slice dX12_slice_42 (by decide)
theorem dX12_slice_45 : decode cX12_slice 45 = .ok (.iload 4, 2) := by decide +kernel
theorem tX12_slice_45 {d : Nat} {l0 l1 l2 l3 : Option Value} {x : Int32} {m : jmM} {Q : Option Value → jmM → Prop} : AW d 283 45 [l0, l1, l2, l3, some (.int x)] [] m Q ↔ AW d 283 47 [l0, l1, l2, l3, some (.int x)] [.int x] m Q := A_iload hB_X12_slice dX12_slice_45 rfl
theorem dX12_slice_47 : decode cX12_slice 47 = .ok (.i2l, 1) := by decide +kernel
theorem tX12_slice_47 {d : Nat} {l0 l1 l2 l3 l4 : Option Value} {x : Int32} {m : jmM} {Q : Option Value → jmM → Prop} : AW d 283 47 [l0, l1, l2, l3, l4] [.int x] m Q ↔ AW d 283 48 [l0, l1, l2, l3, l4] [.long x.toInt64] m Q := A_i2l hB_X12_slice dX12_slice_47
theorem dX12_slice_48 : decode cX12_slice 48 = .ok (.lconst 0, 1) := by decide +kernel
theorem tX12_slice_48 {d : Nat} {l0 l1 l2 l3 l4 : Option Value} {v0 : Value} {m : jmM} {Q : Option Value → jmM → Prop} : AW d 283 48 [l0, l1, l2, l3, l4] [v0] m Q ↔ AW d 283 49 [l0, l1, l2, l3, l4] [.long 0, v0] m Q := A_lconst hB_X12_slice dX12_slice_48 (by decide)
theorem dX12_slice_49 : decode cX12_slice 49 = .ok (.ldc2_w 392, 3) := by decide +kernel
theorem tX12_slice_49 {d : Nat} {l0 l1 l2 l3 l4 : Option Value} {v0 v1 : Value} {m : jmM} {Q : Option Value → jmM → Prop} : AW d 283 49 [l0, l1, l2, l3, l4] [v0, v1] m Q ↔ AW d 283 52 [l0, l1, l2, l3, l4] [.long 1000000000, v0, v1] m Q := A_ldc2_w hB_X12_slice dX12_slice_49 hO_X12_slice fL2_12_392
theorem dX12_slice_52 : decode cX12_slice 52 = .ok (.invokestatic 281, 3) := by decide +kernel
theorem tX12_slice_52 {d : Nat} {l0 l1 l2 l3 l4 : Option Value} {y0 y1 y2 : Value} {m : jmM} {Q : Option Value → jmM → Prop} : AW d 283 52 [l0, l1, l2, l3, l4] [y0, y1, y2] m Q ↔ CC d 189 [y2, y1, y0] m (jK d 283 55 [l0, l1, l2, l3, l4] [] Q) := A_callS0 hB_X12_slice dX12_slice_52 hO_X12_slice fS_12_281 ⟨Nat.le_of_ble_eq_true rfl, Nat.le_of_ble_eq_true rfl⟩ rfl rfl
theorem dX12_slice_55 : decode cX12_slice 55 = .ok (.ifCond .ne 5, 3) := by decide +kernel
theorem tX12_slice_55 {d : Nat} {l0 l1 l2 l3 l4 : Option Value} {x : Int32} {m : jmM} {Q : Option Value → jmM → Prop} : AW d 283 55 [l0, l1, l2, l3, l4] [.int x] m Q ↔ if x = 0 then AW d 283 58 [l0, l1, l2, l3, l4] [] m Q else AW d 283 60 [l0, l1, l2, l3, l4] [] m Q := A_if_ne hB_X12_slice dX12_slice_55 (by decide)
theorem dX12_slice_58 : decode cX12_slice 58 = .ok (.iconst (-1), 1) := by decide +kernel
theorem tX12_slice_58 {d : Nat} {l0 l1 l2 l3 l4 : Option Value} {m : jmM} {Q : Option Value → jmM → Prop} : AW d 283 58 [l0, l1, l2, l3, l4] [] m Q ↔ AW d 283 59 [l0, l1, l2, l3, l4] [.int (-1)] m Q := A_iconst hB_X12_slice dX12_slice_58 (by decide)
theorem dX12_slice_59 : decode cX12_slice 59 = .ok (.ireturn, 1) := by decide +kernel
theorem tX12_slice_59 {d : Nat} {l0 l1 l2 l3 l4 : Option Value} {x : Int32} {m : jmM} {Q : Option Value → jmM → Prop} : AW d 283 59 [l0, l1, l2, l3, l4] [.int x] m Q ↔ Q (some (.int x)) m := A_ireturn hB_X12_slice dX12_slice_59 hR_X12_slice
theorem dX12_slice_60 : decode cX12_slice 60 = .ok (.aload_n 0, 1) := by decide +kernel
theorem tX12_slice_60 {d : Nat} {l1 l2 l3 l4 : Option Value} {x : Nat} {m : jmM} {Q : Option Value → jmM → Prop} : AW d 283 60 [some (.ref x), l1, l2, l3, l4] [] m Q ↔ AW d 283 61 [some (.ref x), l1, l2, l3, l4] [.ref x] m Q := A_aload_n hB_X12_slice dX12_slice_60 rfl
theorem dX12_slice_61 : decode cX12_slice 61 = .ok (.getfield 98, 3) := by decide +kernel
theorem tX12_slice_61 {d : Nat} {l0 l1 l2 l3 l4 : Option Value} {a : Nat} {m : jmM} {Q : Option Value → jmM → Prop} : AW d 283 61 [l0, l1, l2, l3, l4] [.ref a] m Q ↔ (mS m a).1 = 12 ∧ AW d 283 64 [l0, l1, l2, l3, l4] [va_rf (mR m a 48)] m Q := A_getfield (f := fun m a => va_rf (mR m a 48)) hB_X12_slice dX12_slice_61 hO_X12_slice fF_12_98 rfl
theorem dX12_slice_64 : decode cX12_slice 64 = .ok (.iconst 4, 1) := by decide +kernel
theorem tX12_slice_64 {d : Nat} {l0 l1 l2 l3 l4 : Option Value} {v0 : Value} {m : jmM} {Q : Option Value → jmM → Prop} : AW d 283 64 [l0, l1, l2, l3, l4] [v0] m Q ↔ AW d 283 65 [l0, l1, l2, l3, l4] [.int 4, v0] m Q := A_iconst hB_X12_slice dX12_slice_64 (by decide)
theorem dX12_slice_65 : decode cX12_slice 65 = .ok (.aload_n 0, 1) := by decide +kernel
theorem tX12_slice_65 {d : Nat} {l1 l2 l3 l4 : Option Value} {v0 v1 : Value} {x : Nat} {m : jmM} {Q : Option Value → jmM → Prop} : AW d 283 65 [some (.ref x), l1, l2, l3, l4] [v0, v1] m Q ↔ AW d 283 66 [some (.ref x), l1, l2, l3, l4] [.ref x, v0, v1] m Q := A_aload_n hB_X12_slice dX12_slice_65 rfl
theorem dX12_slice_66 : decode cX12_slice 66 = .ok (.getfield 352, 3) := by decide +kernel
theorem tX12_slice_66 {d : Nat} {l0 l1 l2 l3 l4 : Option Value} {v1 v2 : Value} {a : Nat} {m : jmM} {Q : Option Value → jmM → Prop} : AW d 283 66 [l0, l1, l2, l3, l4] [.ref a, v1, v2] m Q ↔ (mS m a).1 = 12 ∧ AW d 283 69 [l0, l1, l2, l3, l4] [.int (mI m a 47), v1, v2] m Q := A_getfield (f := fun m a => .int (mI m a 47)) hB_X12_slice dX12_slice_66 hO_X12_slice fF_12_352 rfl
theorem dX12_slice_69 : decode cX12_slice 69 = .ok (.imul, 1) := by decide +kernel
theorem tX12_slice_69 {d : Nat} {l0 l1 l2 l3 l4 : Option Value} {v2 : Value} {x y : Int32} {m : jmM} {Q : Option Value → jmM → Prop} : AW d 283 69 [l0, l1, l2, l3, l4] [.int y, .int x, v2] m Q ↔ AW d 283 70 [l0, l1, l2, l3, l4] [.int (x * y), v2] m Q := A_imul hB_X12_slice dX12_slice_69
theorem dX12_slice_70 : decode cX12_slice 70 = .ok (.iload_n 1, 1) := by decide +kernel
theorem tX12_slice_70 {d : Nat} {l0 l2 l3 l4 : Option Value} {v0 v1 : Value} {x : Int32} {m : jmM} {Q : Option Value → jmM → Prop} : AW d 283 70 [l0, some (.int x), l2, l3, l4] [v0, v1] m Q ↔ AW d 283 71 [l0, some (.int x), l2, l3, l4] [.int x, v0, v1] m Q := A_iload_n hB_X12_slice dX12_slice_70 rfl
theorem dX12_slice_71 : decode cX12_slice 71 = .ok (.iastore, 1) := by decide +kernel
theorem tX12_slice_71 {d : Nat} {l0 l1 l2 l3 l4 : Option Value} {x i : Int32} {a : Nat} {m : jmM} {Q : Option Value → jmM → Prop} : AW d 283 71 [l0, l1, l2, l3, l4] [.int x, .int i, .ref a] m Q ↔ ((mS m a).1 = 20 ∧ jIx i (mS m a).2) ∧ AW d 283 72 [l0, l1, l2, l3, l4] [] (cI m a (jup (mI m a) (jx i) x)) Q := A_iastore hB_X12_slice dX12_slice_71
theorem dX12_slice_72 : decode cX12_slice 72 = .ok (.aload_n 0, 1) := by decide +kernel
theorem tX12_slice_72 {d : Nat} {l1 l2 l3 l4 : Option Value} {x : Nat} {m : jmM} {Q : Option Value → jmM → Prop} : AW d 283 72 [some (.ref x), l1, l2, l3, l4] [] m Q ↔ AW d 283 73 [some (.ref x), l1, l2, l3, l4] [.ref x] m Q := A_aload_n hB_X12_slice dX12_slice_72 rfl
theorem dX12_slice_73 : decode cX12_slice 73 = .ok (.getfield 98, 3) := by decide +kernel
theorem tX12_slice_73 {d : Nat} {l0 l1 l2 l3 l4 : Option Value} {a : Nat} {m : jmM} {Q : Option Value → jmM → Prop} : AW d 283 73 [l0, l1, l2, l3, l4] [.ref a] m Q ↔ (mS m a).1 = 12 ∧ AW d 283 76 [l0, l1, l2, l3, l4] [va_rf (mR m a 48)] m Q := A_getfield (f := fun m a => va_rf (mR m a 48)) hB_X12_slice dX12_slice_73 hO_X12_slice fF_12_98 rfl
theorem dX12_slice_76 : decode cX12_slice 76 = .ok (.iconst 4, 1) := by decide +kernel
theorem tX12_slice_76 {d : Nat} {l0 l1 l2 l3 l4 : Option Value} {v0 : Value} {m : jmM} {Q : Option Value → jmM → Prop} : AW d 283 76 [l0, l1, l2, l3, l4] [v0] m Q ↔ AW d 283 77 [l0, l1, l2, l3, l4] [.int 4, v0] m Q := A_iconst hB_X12_slice dX12_slice_76 (by decide)
theorem dX12_slice_77 : decode cX12_slice 77 = .ok (.aload_n 0, 1) := by decide +kernel
theorem tX12_slice_77 {d : Nat} {l1 l2 l3 l4 : Option Value} {v0 v1 : Value} {x : Nat} {m : jmM} {Q : Option Value → jmM → Prop} : AW d 283 77 [some (.ref x), l1, l2, l3, l4] [v0, v1] m Q ↔ AW d 283 78 [some (.ref x), l1, l2, l3, l4] [.ref x, v0, v1] m Q := A_aload_n hB_X12_slice dX12_slice_77 rfl
theorem dX12_slice_78 : decode cX12_slice 78 = .ok (.getfield 352, 3) := by decide +kernel
theorem tX12_slice_78 {d : Nat} {l0 l1 l2 l3 l4 : Option Value} {v1 v2 : Value} {a : Nat} {m : jmM} {Q : Option Value → jmM → Prop} : AW d 283 78 [l0, l1, l2, l3, l4] [.ref a, v1, v2] m Q ↔ (mS m a).1 = 12 ∧ AW d 283 81 [l0, l1, l2, l3, l4] [.int (mI m a 47), v1, v2] m Q := A_getfield (f := fun m a => .int (mI m a 47)) hB_X12_slice dX12_slice_78 hO_X12_slice fF_12_352 rfl
theorem dX12_slice_81 : decode cX12_slice 81 = .ok (.imul, 1) := by decide +kernel
theorem tX12_slice_81 {d : Nat} {l0 l1 l2 l3 l4 : Option Value} {v2 : Value} {x y : Int32} {m : jmM} {Q : Option Value → jmM → Prop} : AW d 283 81 [l0, l1, l2, l3, l4] [.int y, .int x, v2] m Q ↔ AW d 283 82 [l0, l1, l2, l3, l4] [.int (x * y), v2] m Q := A_imul hB_X12_slice dX12_slice_81
theorem dX12_slice_82 : decode cX12_slice 82 = .ok (.iconst 1, 1) := by decide +kernel
theorem tX12_slice_82 {d : Nat} {l0 l1 l2 l3 l4 : Option Value} {v0 v1 : Value} {m : jmM} {Q : Option Value → jmM → Prop} : AW d 283 82 [l0, l1, l2, l3, l4] [v0, v1] m Q ↔ AW d 283 83 [l0, l1, l2, l3, l4] [.int 1, v0, v1] m Q := A_iconst hB_X12_slice dX12_slice_82 (by decide)
theorem dX12_slice_83 : decode cX12_slice 83 = .ok (.iadd, 1) := by decide +kernel
theorem tX12_slice_83 {d : Nat} {l0 l1 l2 l3 l4 : Option Value} {v2 : Value} {x y : Int32} {m : jmM} {Q : Option Value → jmM → Prop} : AW d 283 83 [l0, l1, l2, l3, l4] [.int y, .int x, v2] m Q ↔ AW d 283 84 [l0, l1, l2, l3, l4] [.int (x + y), v2] m Q := A_iadd hB_X12_slice dX12_slice_83
theorem dX12_slice_84 : decode cX12_slice 84 = .ok (.iload_n 2, 1) := by decide +kernel
theorem tX12_slice_84 {d : Nat} {l0 l1 l3 l4 : Option Value} {v0 v1 : Value} {x : Int32} {m : jmM} {Q : Option Value → jmM → Prop} : AW d 283 84 [l0, l1, some (.int x), l3, l4] [v0, v1] m Q ↔ AW d 283 85 [l0, l1, some (.int x), l3, l4] [.int x, v0, v1] m Q := A_iload_n hB_X12_slice dX12_slice_84 rfl
theorem dX12_slice_85 : decode cX12_slice 85 = .ok (.iastore, 1) := by decide +kernel
theorem tX12_slice_85 {d : Nat} {l0 l1 l2 l3 l4 : Option Value} {x i : Int32} {a : Nat} {m : jmM} {Q : Option Value → jmM → Prop} : AW d 283 85 [l0, l1, l2, l3, l4] [.int x, .int i, .ref a] m Q ↔ ((mS m a).1 = 20 ∧ jIx i (mS m a).2) ∧ AW d 283 86 [l0, l1, l2, l3, l4] [] (cI m a (jup (mI m a) (jx i) x)) Q := A_iastore hB_X12_slice dX12_slice_85
theorem dX12_slice_86 : decode cX12_slice 86 = .ok (.aload_n 0, 1) := by decide +kernel
theorem tX12_slice_86 {d : Nat} {l1 l2 l3 l4 : Option Value} {x : Nat} {m : jmM} {Q : Option Value → jmM → Prop} : AW d 283 86 [some (.ref x), l1, l2, l3, l4] [] m Q ↔ AW d 283 87 [some (.ref x), l1, l2, l3, l4] [.ref x] m Q := A_aload_n hB_X12_slice dX12_slice_86 rfl
theorem dX12_slice_87 : decode cX12_slice 87 = .ok (.getfield 98, 3) := by decide +kernel
theorem tX12_slice_87 {d : Nat} {l0 l1 l2 l3 l4 : Option Value} {a : Nat} {m : jmM} {Q : Option Value → jmM → Prop} : AW d 283 87 [l0, l1, l2, l3, l4] [.ref a] m Q ↔ (mS m a).1 = 12 ∧ AW d 283 90 [l0, l1, l2, l3, l4] [va_rf (mR m a 48)] m Q := A_getfield (f := fun m a => va_rf (mR m a 48)) hB_X12_slice dX12_slice_87 hO_X12_slice fF_12_98 rfl
theorem dX12_slice_90 : decode cX12_slice 90 = .ok (.iconst 4, 1) := by decide +kernel
theorem tX12_slice_90 {d : Nat} {l0 l1 l2 l3 l4 : Option Value} {v0 : Value} {m : jmM} {Q : Option Value → jmM → Prop} : AW d 283 90 [l0, l1, l2, l3, l4] [v0] m Q ↔ AW d 283 91 [l0, l1, l2, l3, l4] [.int 4, v0] m Q := A_iconst hB_X12_slice dX12_slice_90 (by decide)
theorem dX12_slice_91 : decode cX12_slice 91 = .ok (.aload_n 0, 1) := by decide +kernel
theorem tX12_slice_91 {d : Nat} {l1 l2 l3 l4 : Option Value} {v0 v1 : Value} {x : Nat} {m : jmM} {Q : Option Value → jmM → Prop} : AW d 283 91 [some (.ref x), l1, l2, l3, l4] [v0, v1] m Q ↔ AW d 283 92 [some (.ref x), l1, l2, l3, l4] [.ref x, v0, v1] m Q := A_aload_n hB_X12_slice dX12_slice_91 rfl
theorem dX12_slice_92 : decode cX12_slice 92 = .ok (.getfield 352, 3) := by decide +kernel
theorem tX12_slice_92 {d : Nat} {l0 l1 l2 l3 l4 : Option Value} {v1 v2 : Value} {a : Nat} {m : jmM} {Q : Option Value → jmM → Prop} : AW d 283 92 [l0, l1, l2, l3, l4] [.ref a, v1, v2] m Q ↔ (mS m a).1 = 12 ∧ AW d 283 95 [l0, l1, l2, l3, l4] [.int (mI m a 47), v1, v2] m Q := A_getfield (f := fun m a => .int (mI m a 47)) hB_X12_slice dX12_slice_92 hO_X12_slice fF_12_352 rfl
theorem dX12_slice_95 : decode cX12_slice 95 = .ok (.imul, 1) := by decide +kernel
theorem tX12_slice_95 {d : Nat} {l0 l1 l2 l3 l4 : Option Value} {v2 : Value} {x y : Int32} {m : jmM} {Q : Option Value → jmM → Prop} : AW d 283 95 [l0, l1, l2, l3, l4] [.int y, .int x, v2] m Q ↔ AW d 283 96 [l0, l1, l2, l3, l4] [.int (x * y), v2] m Q := A_imul hB_X12_slice dX12_slice_95
theorem dX12_slice_96 : decode cX12_slice 96 = .ok (.iconst 2, 1) := by decide +kernel
theorem tX12_slice_96 {d : Nat} {l0 l1 l2 l3 l4 : Option Value} {v0 v1 : Value} {m : jmM} {Q : Option Value → jmM → Prop} : AW d 283 96 [l0, l1, l2, l3, l4] [v0, v1] m Q ↔ AW d 283 97 [l0, l1, l2, l3, l4] [.int 2, v0, v1] m Q := A_iconst hB_X12_slice dX12_slice_96 (by decide)
theorem dX12_slice_97 : decode cX12_slice 97 = .ok (.iadd, 1) := by decide +kernel
theorem tX12_slice_97 {d : Nat} {l0 l1 l2 l3 l4 : Option Value} {v2 : Value} {x y : Int32} {m : jmM} {Q : Option Value → jmM → Prop} : AW d 283 97 [l0, l1, l2, l3, l4] [.int y, .int x, v2] m Q ↔ AW d 283 98 [l0, l1, l2, l3, l4] [.int (x + y), v2] m Q := A_iadd hB_X12_slice dX12_slice_97
theorem dX12_slice_98 : decode cX12_slice 98 = .ok (.iload_n 3, 1) := by decide +kernel
theorem tX12_slice_98 {d : Nat} {l0 l1 l2 l4 : Option Value} {v0 v1 : Value} {x : Int32} {m : jmM} {Q : Option Value → jmM → Prop} : AW d 283 98 [l0, l1, l2, some (.int x), l4] [v0, v1] m Q ↔ AW d 283 99 [l0, l1, l2, some (.int x), l4] [.int x, v0, v1] m Q := A_iload_n hB_X12_slice dX12_slice_98 rfl
theorem dX12_slice_99 : decode cX12_slice 99 = .ok (.iastore, 1) := by decide +kernel
theorem tX12_slice_99 {d : Nat} {l0 l1 l2 l3 l4 : Option Value} {x i : Int32} {a : Nat} {m : jmM} {Q : Option Value → jmM → Prop} : AW d 283 99 [l0, l1, l2, l3, l4] [.int x, .int i, .ref a] m Q ↔ ((mS m a).1 = 20 ∧ jIx i (mS m a).2) ∧ AW d 283 100 [l0, l1, l2, l3, l4] [] (cI m a (jup (mI m a) (jx i) x)) Q := A_iastore hB_X12_slice dX12_slice_99
theorem dX12_slice_100 : decode cX12_slice 100 = .ok (.aload_n 0, 1) := by decide +kernel
theorem tX12_slice_100 {d : Nat} {l1 l2 l3 l4 : Option Value} {x : Nat} {m : jmM} {Q : Option Value → jmM → Prop} : AW d 283 100 [some (.ref x), l1, l2, l3, l4] [] m Q ↔ AW d 283 101 [some (.ref x), l1, l2, l3, l4] [.ref x] m Q := A_aload_n hB_X12_slice dX12_slice_100 rfl
theorem dX12_slice_101 : decode cX12_slice 101 = .ok (.getfield 98, 3) := by decide +kernel
theorem tX12_slice_101 {d : Nat} {l0 l1 l2 l3 l4 : Option Value} {a : Nat} {m : jmM} {Q : Option Value → jmM → Prop} : AW d 283 101 [l0, l1, l2, l3, l4] [.ref a] m Q ↔ (mS m a).1 = 12 ∧ AW d 283 104 [l0, l1, l2, l3, l4] [va_rf (mR m a 48)] m Q := A_getfield (f := fun m a => va_rf (mR m a 48)) hB_X12_slice dX12_slice_101 hO_X12_slice fF_12_98 rfl
theorem dX12_slice_104 : decode cX12_slice 104 = .ok (.iconst 4, 1) := by decide +kernel
theorem tX12_slice_104 {d : Nat} {l0 l1 l2 l3 l4 : Option Value} {v0 : Value} {m : jmM} {Q : Option Value → jmM → Prop} : AW d 283 104 [l0, l1, l2, l3, l4] [v0] m Q ↔ AW d 283 105 [l0, l1, l2, l3, l4] [.int 4, v0] m Q := A_iconst hB_X12_slice dX12_slice_104 (by decide)
theorem dX12_slice_105 : decode cX12_slice 105 = .ok (.aload_n 0, 1) := by decide +kernel
theorem tX12_slice_105 {d : Nat} {l1 l2 l3 l4 : Option Value} {v0 v1 : Value} {x : Nat} {m : jmM} {Q : Option Value → jmM → Prop} : AW d 283 105 [some (.ref x), l1, l2, l3, l4] [v0, v1] m Q ↔ AW d 283 106 [some (.ref x), l1, l2, l3, l4] [.ref x, v0, v1] m Q := A_aload_n hB_X12_slice dX12_slice_105 rfl
theorem dX12_slice_106 : decode cX12_slice 106 = .ok (.getfield 352, 3) := by decide +kernel
theorem tX12_slice_106 {d : Nat} {l0 l1 l2 l3 l4 : Option Value} {v1 v2 : Value} {a : Nat} {m : jmM} {Q : Option Value → jmM → Prop} : AW d 283 106 [l0, l1, l2, l3, l4] [.ref a, v1, v2] m Q ↔ (mS m a).1 = 12 ∧ AW d 283 109 [l0, l1, l2, l3, l4] [.int (mI m a 47), v1, v2] m Q := A_getfield (f := fun m a => .int (mI m a 47)) hB_X12_slice dX12_slice_106 hO_X12_slice fF_12_352 rfl
theorem dX12_slice_109 : decode cX12_slice 109 = .ok (.imul, 1) := by decide +kernel
theorem tX12_slice_109 {d : Nat} {l0 l1 l2 l3 l4 : Option Value} {v2 : Value} {x y : Int32} {m : jmM} {Q : Option Value → jmM → Prop} : AW d 283 109 [l0, l1, l2, l3, l4] [.int y, .int x, v2] m Q ↔ AW d 283 110 [l0, l1, l2, l3, l4] [.int (x * y), v2] m Q := A_imul hB_X12_slice dX12_slice_109
theorem dX12_slice_110 : decode cX12_slice 110 = .ok (.iconst 3, 1) := by decide +kernel
theorem tX12_slice_110 {d : Nat} {l0 l1 l2 l3 l4 : Option Value} {v0 v1 : Value} {m : jmM} {Q : Option Value → jmM → Prop} : AW d 283 110 [l0, l1, l2, l3, l4] [v0, v1] m Q ↔ AW d 283 111 [l0, l1, l2, l3, l4] [.int 3, v0, v1] m Q := A_iconst hB_X12_slice dX12_slice_110 (by decide)
theorem dX12_slice_111 : decode cX12_slice 111 = .ok (.iadd, 1) := by decide +kernel
theorem tX12_slice_111 {d : Nat} {l0 l1 l2 l3 l4 : Option Value} {v2 : Value} {x y : Int32} {m : jmM} {Q : Option Value → jmM → Prop} : AW d 283 111 [l0, l1, l2, l3, l4] [.int y, .int x, v2] m Q ↔ AW d 283 112 [l0, l1, l2, l3, l4] [.int (x + y), v2] m Q := A_iadd hB_X12_slice dX12_slice_111
theorem dX12_slice_112 : decode cX12_slice 112 = .ok (.iload 4, 2) := by decide +kernel
theorem tX12_slice_112 {d : Nat} {l0 l1 l2 l3 : Option Value} {v0 v1 : Value} {x : Int32} {m : jmM} {Q : Option Value → jmM → Prop} : AW d 283 112 [l0, l1, l2, l3, some (.int x)] [v0, v1] m Q ↔ AW d 283 114 [l0, l1, l2, l3, some (.int x)] [.int x, v0, v1] m Q := A_iload hB_X12_slice dX12_slice_112 rfl
theorem dX12_slice_114 : decode cX12_slice 114 = .ok (.iastore, 1) := by decide +kernel
theorem tX12_slice_114 {d : Nat} {l0 l1 l2 l3 l4 : Option Value} {x i : Int32} {a : Nat} {m : jmM} {Q : Option Value → jmM → Prop} : AW d 283 114 [l0, l1, l2, l3, l4] [.int x, .int i, .ref a] m Q ↔ ((mS m a).1 = 20 ∧ jIx i (mS m a).2) ∧ AW d 283 115 [l0, l1, l2, l3, l4] [] (cI m a (jup (mI m a) (jx i) x)) Q := A_iastore hB_X12_slice dX12_slice_114
theorem dX12_slice_115 : decode cX12_slice 115 = .ok (.aload_n 0, 1) := by decide +kernel
theorem tX12_slice_115 {d : Nat} {l1 l2 l3 l4 : Option Value} {x : Nat} {m : jmM} {Q : Option Value → jmM → Prop} : AW d 283 115 [some (.ref x), l1, l2, l3, l4] [] m Q ↔ AW d 283 116 [some (.ref x), l1, l2, l3, l4] [.ref x] m Q := A_aload_n hB_X12_slice dX12_slice_115 rfl
theorem dX12_slice_116 : decode cX12_slice 116 = .ok (.dup, 1) := by decide +kernel
theorem tX12_slice_116 {d : Nat} {l0 l1 l2 l3 l4 : Option Value} {x : Nat} {m : jmM} {Q : Option Value → jmM → Prop} : AW d 283 116 [l0, l1, l2, l3, l4] [.ref x] m Q ↔ AW d 283 117 [l0, l1, l2, l3, l4] [.ref x, .ref x] m Q := A_dup_a hB_X12_slice dX12_slice_116
theorem dX12_slice_117 : decode cX12_slice 117 = .ok (.getfield 352, 3) := by decide +kernel
theorem tX12_slice_117 {d : Nat} {l0 l1 l2 l3 l4 : Option Value} {v1 : Value} {a : Nat} {m : jmM} {Q : Option Value → jmM → Prop} : AW d 283 117 [l0, l1, l2, l3, l4] [.ref a, v1] m Q ↔ (mS m a).1 = 12 ∧ AW d 283 120 [l0, l1, l2, l3, l4] [.int (mI m a 47), v1] m Q := A_getfield (f := fun m a => .int (mI m a 47)) hB_X12_slice dX12_slice_117 hO_X12_slice fF_12_352 rfl
theorem dX12_slice_120 : decode cX12_slice 120 = .ok (.iconst 1, 1) := by decide +kernel
theorem tX12_slice_120 {d : Nat} {l0 l1 l2 l3 l4 : Option Value} {v0 v1 : Value} {m : jmM} {Q : Option Value → jmM → Prop} : AW d 283 120 [l0, l1, l2, l3, l4] [v0, v1] m Q ↔ AW d 283 121 [l0, l1, l2, l3, l4] [.int 1, v0, v1] m Q := A_iconst hB_X12_slice dX12_slice_120 (by decide)
theorem dX12_slice_121 : decode cX12_slice 121 = .ok (.iadd, 1) := by decide +kernel
theorem tX12_slice_121 {d : Nat} {l0 l1 l2 l3 l4 : Option Value} {v2 : Value} {x y : Int32} {m : jmM} {Q : Option Value → jmM → Prop} : AW d 283 121 [l0, l1, l2, l3, l4] [.int y, .int x, v2] m Q ↔ AW d 283 122 [l0, l1, l2, l3, l4] [.int (x + y), v2] m Q := A_iadd hB_X12_slice dX12_slice_121
theorem dX12_slice_122 : decode cX12_slice 122 = .ok (.putfield 352, 3) := by decide +kernel
theorem tX12_slice_122 {d : Nat} {l0 l1 l2 l3 l4 : Option Value} {x : Int32} {a : Nat} {m : jmM} {Q : Option Value → jmM → Prop} : AW d 283 122 [l0, l1, l2, l3, l4] [.int x, .ref a] m Q ↔ (mS m a).1 = 12 ∧ AW d 283 125 [l0, l1, l2, l3, l4] [] (cI m a (jup (mI m a) 47 x)) Q := A_putI hB_X12_slice dX12_slice_122 hO_X12_slice fF_12_352 rfl (fun h => Bool.noConfusion h)
theorem dX12_slice_125 : decode cX12_slice 125 = .ok (.aload_n 0, 1) := by decide +kernel
theorem tX12_slice_125 {d : Nat} {l1 l2 l3 l4 : Option Value} {x : Nat} {m : jmM} {Q : Option Value → jmM → Prop} : AW d 283 125 [some (.ref x), l1, l2, l3, l4] [] m Q ↔ AW d 283 126 [some (.ref x), l1, l2, l3, l4] [.ref x] m Q := A_aload_n hB_X12_slice dX12_slice_125 rfl
theorem dX12_slice_126 : decode cX12_slice 126 = .ok (.getfield 352, 3) := by decide +kernel
theorem tX12_slice_126 {d : Nat} {l0 l1 l2 l3 l4 : Option Value} {a : Nat} {m : jmM} {Q : Option Value → jmM → Prop} : AW d 283 126 [l0, l1, l2, l3, l4] [.ref a] m Q ↔ (mS m a).1 = 12 ∧ AW d 283 129 [l0, l1, l2, l3, l4] [.int (mI m a 47)] m Q := A_getfield (f := fun m a => .int (mI m a 47)) hB_X12_slice dX12_slice_126 hO_X12_slice fF_12_352 rfl
theorem dX12_slice_129 : decode cX12_slice 129 = .ok (.ireturn, 1) := by decide +kernel
theorem tX12_slice_129 {d : Nat} {l0 l1 l2 l3 l4 : Option Value} {x : Int32} {m : jmM} {Q : Option Value → jmM → Prop} : AW d 283 129 [l0, l1, l2, l3, l4] [.int x] m Q ↔ Q (some (.int x)) m := A_ireturn hB_X12_slice dX12_slice_129 hR_X12_slice
theorem hB_X12_fits : jB 284 = cX12_fits := rfl
theorem hO_X12_fits : jO 284 = 12 := rfl
theorem hR_X12_fits : jRt 284 = (some .boolean) := rfl
theorem nX12_fits (d : Nat) (x0 : Nat) (x1 : Int32) (x2 : Int32) (x3 : Int64) (m : jmM) (Q : Option Value → jmM → Prop) : CC (d + 1) 284 [.ref x0, .int x1, .int x2, .long x3] m Q ↔ AW d 284 0 [some (.ref x0), some (.int x1), some (.int x2), some (.long x3), none, none, none, none] [] m Q := CC_body (Nat.le_of_ble_eq_true rfl)
theorem dX12_fits_0 : decode cX12_fits 0 = .ok (.iconst 0, 1) := by decide +kernel
theorem tX12_fits_0 {d : Nat} {l0 l1 l2 l3 l4 l5 l6 l7 : Option Value} {m : jmM} {Q : Option Value → jmM → Prop} : AW d 284 0 [l0, l1, l2, l3, l4, l5, l6, l7] [] m Q ↔ AW d 284 1 [l0, l1, l2, l3, l4, l5, l6, l7] [.int 0] m Q := A_iconst hB_X12_fits dX12_fits_0 (by decide)
theorem dX12_fits_1 : decode cX12_fits 1 = .ok (.istore 5, 2) := by decide +kernel
theorem tX12_fits_1 {d : Nat} {l0 l1 l2 l3 l4 l5 l6 l7 : Option Value} {x : Int32} {m : jmM} {Q : Option Value → jmM → Prop} : AW d 284 1 [l0, l1, l2, l3, l4, l5, l6, l7] [.int x] m Q ↔ AW d 284 3 [l0, l1, l2, l3, jc1 l4, some (.int x), l6, l7] [] m Q := A_istore hB_X12_fits dX12_fits_1 (Nat.le_of_ble_eq_true rfl) rfl
theorem dX12_fits_3 : decode cX12_fits 3 = .ok (.iload 5, 2) := by decide +kernel
theorem tX12_fits_3 {d : Nat} {l0 l1 l2 l3 l4 l6 l7 : Option Value} {x : Int32} {m : jmM} {Q : Option Value → jmM → Prop} : AW d 284 3 [l0, l1, l2, l3, l4, some (.int x), l6, l7] [] m Q ↔ AW d 284 5 [l0, l1, l2, l3, l4, some (.int x), l6, l7] [.int x] m Q := A_iload hB_X12_fits dX12_fits_3 rfl
theorem dX12_fits_5 : decode cX12_fits 5 = .ok (.aload_n 0, 1) := by decide +kernel
theorem tX12_fits_5 {d : Nat} {l1 l2 l3 l4 l5 l6 l7 : Option Value} {v0 : Value} {x : Nat} {m : jmM} {Q : Option Value → jmM → Prop} : AW d 284 5 [some (.ref x), l1, l2, l3, l4, l5, l6, l7] [v0] m Q ↔ AW d 284 6 [some (.ref x), l1, l2, l3, l4, l5, l6, l7] [.ref x, v0] m Q := A_aload_n hB_X12_fits dX12_fits_5 rfl
theorem dX12_fits_6 : decode cX12_fits 6 = .ok (.getfield 352, 3) := by decide +kernel
theorem tX12_fits_6 {d : Nat} {l0 l1 l2 l3 l4 l5 l6 l7 : Option Value} {v1 : Value} {a : Nat} {m : jmM} {Q : Option Value → jmM → Prop} : AW d 284 6 [l0, l1, l2, l3, l4, l5, l6, l7] [.ref a, v1] m Q ↔ (mS m a).1 = 12 ∧ AW d 284 9 [l0, l1, l2, l3, l4, l5, l6, l7] [.int (mI m a 47), v1] m Q := A_getfield (f := fun m a => .int (mI m a 47)) hB_X12_fits dX12_fits_6 hO_X12_fits fF_12_352 rfl
theorem dX12_fits_9 : decode cX12_fits 9 = .ok (.if_icmp .ge 88, 3) := by decide +kernel
theorem tX12_fits_9 {d : Nat} {l0 l1 l2 l3 l4 l5 l6 l7 : Option Value} {x y : Int32} {m : jmM} {Q : Option Value → jmM → Prop} : AW d 284 9 [l0, l1, l2, l3, l4, l5, l6, l7] [.int y, .int x] m Q ↔ if y ≤ x then AW d 284 97 [l0, l1, l2, l3, l4, l5, l6, l7] [] m Q else AW d 284 12 [l0, l1, l2, l3, l4, l5, l6, l7] [] m Q := A_icmp_ge hB_X12_fits dX12_fits_9 (by decide)
theorem dX12_fits_12 : decode cX12_fits 12 = .ok (.lload_n 3, 1) := by decide +kernel
theorem tX12_fits_12 {d : Nat} {l0 l1 l2 l4 l5 l6 l7 : Option Value} {x : Int64} {m : jmM} {Q : Option Value → jmM → Prop} : AW d 284 12 [l0, l1, l2, some (.long x), l4, l5, l6, l7] [] m Q ↔ AW d 284 13 [l0, l1, l2, some (.long x), l4, l5, l6, l7] [.long x] m Q := A_lload_n hB_X12_fits dX12_fits_12 rfl
theorem dX12_fits_13 : decode cX12_fits 13 = .ok (.aload_n 0, 1) := by decide +kernel
theorem tX12_fits_13 {d : Nat} {l1 l2 l3 l4 l5 l6 l7 : Option Value} {v0 : Value} {x : Nat} {m : jmM} {Q : Option Value → jmM → Prop} : AW d 284 13 [some (.ref x), l1, l2, l3, l4, l5, l6, l7] [v0] m Q ↔ AW d 284 14 [some (.ref x), l1, l2, l3, l4, l5, l6, l7] [.ref x, v0] m Q := A_aload_n hB_X12_fits dX12_fits_13 rfl
theorem dX12_fits_14 : decode cX12_fits 14 = .ok (.getfield 98, 3) := by decide +kernel
theorem tX12_fits_14 {d : Nat} {l0 l1 l2 l3 l4 l5 l6 l7 : Option Value} {v1 : Value} {a : Nat} {m : jmM} {Q : Option Value → jmM → Prop} : AW d 284 14 [l0, l1, l2, l3, l4, l5, l6, l7] [.ref a, v1] m Q ↔ (mS m a).1 = 12 ∧ AW d 284 17 [l0, l1, l2, l3, l4, l5, l6, l7] [va_rf (mR m a 48), v1] m Q := A_getfield (f := fun m a => va_rf (mR m a 48)) hB_X12_fits dX12_fits_14 hO_X12_fits fF_12_98 rfl
theorem dX12_fits_17 : decode cX12_fits 17 = .ok (.iconst 4, 1) := by decide +kernel
theorem tX12_fits_17 {d : Nat} {l0 l1 l2 l3 l4 l5 l6 l7 : Option Value} {v0 v1 : Value} {m : jmM} {Q : Option Value → jmM → Prop} : AW d 284 17 [l0, l1, l2, l3, l4, l5, l6, l7] [v0, v1] m Q ↔ AW d 284 18 [l0, l1, l2, l3, l4, l5, l6, l7] [.int 4, v0, v1] m Q := A_iconst hB_X12_fits dX12_fits_17 (by decide)
theorem dX12_fits_18 : decode cX12_fits 18 = .ok (.iload 5, 2) := by decide +kernel
theorem tX12_fits_18 {d : Nat} {l0 l1 l2 l3 l4 l6 l7 : Option Value} {v0 v1 v2 : Value} {x : Int32} {m : jmM} {Q : Option Value → jmM → Prop} : AW d 284 18 [l0, l1, l2, l3, l4, some (.int x), l6, l7] [v0, v1, v2] m Q ↔ AW d 284 20 [l0, l1, l2, l3, l4, some (.int x), l6, l7] [.int x, v0, v1, v2] m Q := A_iload hB_X12_fits dX12_fits_18 rfl
theorem dX12_fits_20 : decode cX12_fits 20 = .ok (.imul, 1) := by decide +kernel
theorem tX12_fits_20 {d : Nat} {l0 l1 l2 l3 l4 l5 l6 l7 : Option Value} {v2 v3 : Value} {x y : Int32} {m : jmM} {Q : Option Value → jmM → Prop} : AW d 284 20 [l0, l1, l2, l3, l4, l5, l6, l7] [.int y, .int x, v2, v3] m Q ↔ AW d 284 21 [l0, l1, l2, l3, l4, l5, l6, l7] [.int (x * y), v2, v3] m Q := A_imul hB_X12_fits dX12_fits_20
theorem dX12_fits_21 : decode cX12_fits 21 = .ok (.iconst 2, 1) := by decide +kernel
theorem tX12_fits_21 {d : Nat} {l0 l1 l2 l3 l4 l5 l6 l7 : Option Value} {v0 v1 v2 : Value} {m : jmM} {Q : Option Value → jmM → Prop} : AW d 284 21 [l0, l1, l2, l3, l4, l5, l6, l7] [v0, v1, v2] m Q ↔ AW d 284 22 [l0, l1, l2, l3, l4, l5, l6, l7] [.int 2, v0, v1, v2] m Q := A_iconst hB_X12_fits dX12_fits_21 (by decide)
theorem dX12_fits_22 : decode cX12_fits 22 = .ok (.iadd, 1) := by decide +kernel
theorem tX12_fits_22 {d : Nat} {l0 l1 l2 l3 l4 l5 l6 l7 : Option Value} {v2 v3 : Value} {x y : Int32} {m : jmM} {Q : Option Value → jmM → Prop} : AW d 284 22 [l0, l1, l2, l3, l4, l5, l6, l7] [.int y, .int x, v2, v3] m Q ↔ AW d 284 23 [l0, l1, l2, l3, l4, l5, l6, l7] [.int (x + y), v2, v3] m Q := A_iadd hB_X12_fits dX12_fits_22
theorem dX12_fits_23 : decode cX12_fits 23 = .ok (.iaload, 1) := by decide +kernel
theorem tX12_fits_23 {d : Nat} {l0 l1 l2 l3 l4 l5 l6 l7 : Option Value} {v2 : Value} {i : Int32} {a : Nat} {m : jmM} {Q : Option Value → jmM → Prop} : AW d 284 23 [l0, l1, l2, l3, l4, l5, l6, l7] [.int i, .ref a, v2] m Q ↔ (((mS m a).1 = 20 ∨ a = jScr) ∧ jIx i (mS m a).2) ∧ AW d 284 24 [l0, l1, l2, l3, l4, l5, l6, l7] [.int (mI m a (jx i)), v2] m Q := A_iaload hB_X12_fits dX12_fits_23
theorem dX12_fits_24 : decode cX12_fits 24 = .ok (.i2l, 1) := by decide +kernel
theorem tX12_fits_24 {d : Nat} {l0 l1 l2 l3 l4 l5 l6 l7 : Option Value} {v1 : Value} {x : Int32} {m : jmM} {Q : Option Value → jmM → Prop} : AW d 284 24 [l0, l1, l2, l3, l4, l5, l6, l7] [.int x, v1] m Q ↔ AW d 284 25 [l0, l1, l2, l3, l4, l5, l6, l7] [.long x.toInt64, v1] m Q := A_i2l hB_X12_fits dX12_fits_24
theorem dX12_fits_25 : decode cX12_fits 25 = .ok (.lsub, 1) := by decide +kernel
theorem tX12_fits_25 {d : Nat} {l0 l1 l2 l3 l4 l5 l6 l7 : Option Value} {x y : Int64} {m : jmM} {Q : Option Value → jmM → Prop} : AW d 284 25 [l0, l1, l2, l3, l4, l5, l6, l7] [.long y, .long x] m Q ↔ AW d 284 26 [l0, l1, l2, l3, l4, l5, l6, l7] [.long (x - y)] m Q := A_lsub hB_X12_fits dX12_fits_25
theorem dX12_fits_26 : decode cX12_fits 26 = .ok (.lstore 6, 2) := by decide +kernel
theorem tX12_fits_26 {d : Nat} {l0 l1 l2 l3 l4 l5 l6 l7 : Option Value} {x : Int64} {m : jmM} {Q : Option Value → jmM → Prop} : AW d 284 26 [l0, l1, l2, l3, l4, l5, l6, l7] [.long x] m Q ↔ AW d 284 28 [l0, l1, l2, l3, l4, jc1 l5, some (.long x), none] [] m Q := A_lstore hB_X12_fits dX12_fits_26 (Nat.le_of_ble_eq_true rfl) rfl
theorem dX12_fits_28 : decode cX12_fits 28 = .ok (.aload_n 0, 1) := by decide +kernel
theorem tX12_fits_28 {d : Nat} {l1 l2 l3 l4 l5 l6 l7 : Option Value} {x : Nat} {m : jmM} {Q : Option Value → jmM → Prop} : AW d 284 28 [some (.ref x), l1, l2, l3, l4, l5, l6, l7] [] m Q ↔ AW d 284 29 [some (.ref x), l1, l2, l3, l4, l5, l6, l7] [.ref x] m Q := A_aload_n hB_X12_fits dX12_fits_28 rfl
theorem dX12_fits_29 : decode cX12_fits 29 = .ok (.getfield 98, 3) := by decide +kernel
theorem tX12_fits_29 {d : Nat} {l0 l1 l2 l3 l4 l5 l6 l7 : Option Value} {a : Nat} {m : jmM} {Q : Option Value → jmM → Prop} : AW d 284 29 [l0, l1, l2, l3, l4, l5, l6, l7] [.ref a] m Q ↔ (mS m a).1 = 12 ∧ AW d 284 32 [l0, l1, l2, l3, l4, l5, l6, l7] [va_rf (mR m a 48)] m Q := A_getfield (f := fun m a => va_rf (mR m a 48)) hB_X12_fits dX12_fits_29 hO_X12_fits fF_12_98 rfl
theorem dX12_fits_32 : decode cX12_fits 32 = .ok (.iconst 4, 1) := by decide +kernel
theorem tX12_fits_32 {d : Nat} {l0 l1 l2 l3 l4 l5 l6 l7 : Option Value} {v0 : Value} {m : jmM} {Q : Option Value → jmM → Prop} : AW d 284 32 [l0, l1, l2, l3, l4, l5, l6, l7] [v0] m Q ↔ AW d 284 33 [l0, l1, l2, l3, l4, l5, l6, l7] [.int 4, v0] m Q := A_iconst hB_X12_fits dX12_fits_32 (by decide)
theorem dX12_fits_33 : decode cX12_fits 33 = .ok (.iload 5, 2) := by decide +kernel
theorem tX12_fits_33 {d : Nat} {l0 l1 l2 l3 l4 l6 l7 : Option Value} {v0 v1 : Value} {x : Int32} {m : jmM} {Q : Option Value → jmM → Prop} : AW d 284 33 [l0, l1, l2, l3, l4, some (.int x), l6, l7] [v0, v1] m Q ↔ AW d 284 35 [l0, l1, l2, l3, l4, some (.int x), l6, l7] [.int x, v0, v1] m Q := A_iload hB_X12_fits dX12_fits_33 rfl
theorem dX12_fits_35 : decode cX12_fits 35 = .ok (.imul, 1) := by decide +kernel
theorem tX12_fits_35 {d : Nat} {l0 l1 l2 l3 l4 l5 l6 l7 : Option Value} {v2 : Value} {x y : Int32} {m : jmM} {Q : Option Value → jmM → Prop} : AW d 284 35 [l0, l1, l2, l3, l4, l5, l6, l7] [.int y, .int x, v2] m Q ↔ AW d 284 36 [l0, l1, l2, l3, l4, l5, l6, l7] [.int (x * y), v2] m Q := A_imul hB_X12_fits dX12_fits_35
theorem dX12_fits_36 : decode cX12_fits 36 = .ok (.iaload, 1) := by decide +kernel
theorem tX12_fits_36 {d : Nat} {l0 l1 l2 l3 l4 l5 l6 l7 : Option Value} {i : Int32} {a : Nat} {m : jmM} {Q : Option Value → jmM → Prop} : AW d 284 36 [l0, l1, l2, l3, l4, l5, l6, l7] [.int i, .ref a] m Q ↔ (((mS m a).1 = 20 ∨ a = jScr) ∧ jIx i (mS m a).2) ∧ AW d 284 37 [l0, l1, l2, l3, l4, l5, l6, l7] [.int (mI m a (jx i))] m Q := A_iaload hB_X12_fits dX12_fits_36
theorem dX12_fits_37 : decode cX12_fits 37 = .ok (.iload_n 2, 1) := by decide +kernel
theorem tX12_fits_37 {d : Nat} {l0 l1 l3 l4 l5 l6 l7 : Option Value} {v0 : Value} {x : Int32} {m : jmM} {Q : Option Value → jmM → Prop} : AW d 284 37 [l0, l1, some (.int x), l3, l4, l5, l6, l7] [v0] m Q ↔ AW d 284 38 [l0, l1, some (.int x), l3, l4, l5, l6, l7] [.int x, v0] m Q := A_iload_n hB_X12_fits dX12_fits_37 rfl
theorem dX12_fits_38 : decode cX12_fits 38 = .ok (.if_icmp .ne 53, 3) := by decide +kernel
theorem tX12_fits_38 {d : Nat} {l0 l1 l2 l3 l4 l5 l6 l7 : Option Value} {x y : Int32} {m : jmM} {Q : Option Value → jmM → Prop} : AW d 284 38 [l0, l1, l2, l3, l4, l5, l6, l7] [.int y, .int x] m Q ↔ if x = y then AW d 284 41 [l0, l1, l2, l3, l4, l5, l6, l7] [] m Q else AW d 284 91 [l0, l1, l2, l3, l4, l5, l6, l7] [] m Q := A_icmp_ne hB_X12_fits dX12_fits_38 (by decide)
theorem dX12_fits_41 : decode cX12_fits 41 = .ok (.aload_n 0, 1) := by decide +kernel
theorem tX12_fits_41 {d : Nat} {l1 l2 l3 l4 l5 l6 l7 : Option Value} {x : Nat} {m : jmM} {Q : Option Value → jmM → Prop} : AW d 284 41 [some (.ref x), l1, l2, l3, l4, l5, l6, l7] [] m Q ↔ AW d 284 42 [some (.ref x), l1, l2, l3, l4, l5, l6, l7] [.ref x] m Q := A_aload_n hB_X12_fits dX12_fits_41 rfl
theorem dX12_fits_42 : decode cX12_fits 42 = .ok (.getfield 98, 3) := by decide +kernel
theorem tX12_fits_42 {d : Nat} {l0 l1 l2 l3 l4 l5 l6 l7 : Option Value} {a : Nat} {m : jmM} {Q : Option Value → jmM → Prop} : AW d 284 42 [l0, l1, l2, l3, l4, l5, l6, l7] [.ref a] m Q ↔ (mS m a).1 = 12 ∧ AW d 284 45 [l0, l1, l2, l3, l4, l5, l6, l7] [va_rf (mR m a 48)] m Q := A_getfield (f := fun m a => va_rf (mR m a 48)) hB_X12_fits dX12_fits_42 hO_X12_fits fF_12_98 rfl
theorem dX12_fits_45 : decode cX12_fits 45 = .ok (.iconst 4, 1) := by decide +kernel
theorem tX12_fits_45 {d : Nat} {l0 l1 l2 l3 l4 l5 l6 l7 : Option Value} {v0 : Value} {m : jmM} {Q : Option Value → jmM → Prop} : AW d 284 45 [l0, l1, l2, l3, l4, l5, l6, l7] [v0] m Q ↔ AW d 284 46 [l0, l1, l2, l3, l4, l5, l6, l7] [.int 4, v0] m Q := A_iconst hB_X12_fits dX12_fits_45 (by decide)
theorem dX12_fits_46 : decode cX12_fits 46 = .ok (.iload 5, 2) := by decide +kernel
theorem tX12_fits_46 {d : Nat} {l0 l1 l2 l3 l4 l6 l7 : Option Value} {v0 v1 : Value} {x : Int32} {m : jmM} {Q : Option Value → jmM → Prop} : AW d 284 46 [l0, l1, l2, l3, l4, some (.int x), l6, l7] [v0, v1] m Q ↔ AW d 284 48 [l0, l1, l2, l3, l4, some (.int x), l6, l7] [.int x, v0, v1] m Q := A_iload hB_X12_fits dX12_fits_46 rfl
theorem dX12_fits_48 : decode cX12_fits 48 = .ok (.imul, 1) := by decide +kernel
theorem tX12_fits_48 {d : Nat} {l0 l1 l2 l3 l4 l5 l6 l7 : Option Value} {v2 : Value} {x y : Int32} {m : jmM} {Q : Option Value → jmM → Prop} : AW d 284 48 [l0, l1, l2, l3, l4, l5, l6, l7] [.int y, .int x, v2] m Q ↔ AW d 284 49 [l0, l1, l2, l3, l4, l5, l6, l7] [.int (x * y), v2] m Q := A_imul hB_X12_fits dX12_fits_48
theorem dX12_fits_49 : decode cX12_fits 49 = .ok (.iconst 1, 1) := by decide +kernel
theorem tX12_fits_49 {d : Nat} {l0 l1 l2 l3 l4 l5 l6 l7 : Option Value} {v0 v1 : Value} {m : jmM} {Q : Option Value → jmM → Prop} : AW d 284 49 [l0, l1, l2, l3, l4, l5, l6, l7] [v0, v1] m Q ↔ AW d 284 50 [l0, l1, l2, l3, l4, l5, l6, l7] [.int 1, v0, v1] m Q := A_iconst hB_X12_fits dX12_fits_49 (by decide)
theorem dX12_fits_50 : decode cX12_fits 50 = .ok (.iadd, 1) := by decide +kernel
theorem tX12_fits_50 {d : Nat} {l0 l1 l2 l3 l4 l5 l6 l7 : Option Value} {v2 : Value} {x y : Int32} {m : jmM} {Q : Option Value → jmM → Prop} : AW d 284 50 [l0, l1, l2, l3, l4, l5, l6, l7] [.int y, .int x, v2] m Q ↔ AW d 284 51 [l0, l1, l2, l3, l4, l5, l6, l7] [.int (x + y), v2] m Q := A_iadd hB_X12_fits dX12_fits_50
theorem dX12_fits_51 : decode cX12_fits 51 = .ok (.iaload, 1) := by decide +kernel
theorem tX12_fits_51 {d : Nat} {l0 l1 l2 l3 l4 l5 l6 l7 : Option Value} {i : Int32} {a : Nat} {m : jmM} {Q : Option Value → jmM → Prop} : AW d 284 51 [l0, l1, l2, l3, l4, l5, l6, l7] [.int i, .ref a] m Q ↔ (((mS m a).1 = 20 ∨ a = jScr) ∧ jIx i (mS m a).2) ∧ AW d 284 52 [l0, l1, l2, l3, l4, l5, l6, l7] [.int (mI m a (jx i))] m Q := A_iaload hB_X12_fits dX12_fits_51
theorem dX12_fits_52 : decode cX12_fits 52 = .ok (.iload_n 1, 1) := by decide +kernel
theorem tX12_fits_52 {d : Nat} {l0 l2 l3 l4 l5 l6 l7 : Option Value} {v0 : Value} {x : Int32} {m : jmM} {Q : Option Value → jmM → Prop} : AW d 284 52 [l0, some (.int x), l2, l3, l4, l5, l6, l7] [v0] m Q ↔ AW d 284 53 [l0, some (.int x), l2, l3, l4, l5, l6, l7] [.int x, v0] m Q := A_iload_n hB_X12_fits dX12_fits_52 rfl
theorem dX12_fits_53 : decode cX12_fits 53 = .ok (.if_icmp .ne 38, 3) := by decide +kernel
theorem tX12_fits_53 {d : Nat} {l0 l1 l2 l3 l4 l5 l6 l7 : Option Value} {x y : Int32} {m : jmM} {Q : Option Value → jmM → Prop} : AW d 284 53 [l0, l1, l2, l3, l4, l5, l6, l7] [.int y, .int x] m Q ↔ if x = y then AW d 284 56 [l0, l1, l2, l3, l4, l5, l6, l7] [] m Q else AW d 284 91 [l0, l1, l2, l3, l4, l5, l6, l7] [] m Q := A_icmp_ne hB_X12_fits dX12_fits_53 (by decide)
theorem dX12_fits_56 : decode cX12_fits 56 = .ok (.lload 6, 2) := by decide +kernel
theorem tX12_fits_56 {d : Nat} {l0 l1 l2 l3 l4 l5 l7 : Option Value} {x : Int64} {m : jmM} {Q : Option Value → jmM → Prop} : AW d 284 56 [l0, l1, l2, l3, l4, l5, some (.long x), l7] [] m Q ↔ AW d 284 58 [l0, l1, l2, l3, l4, l5, some (.long x), l7] [.long x] m Q := A_lload hB_X12_fits dX12_fits_56 rfl
theorem dX12_fits_58 : decode cX12_fits 58 = .ok (.aload_n 0, 1) := by decide +kernel
theorem tX12_fits_58 {d : Nat} {l1 l2 l3 l4 l5 l6 l7 : Option Value} {v0 : Value} {x : Nat} {m : jmM} {Q : Option Value → jmM → Prop} : AW d 284 58 [some (.ref x), l1, l2, l3, l4, l5, l6, l7] [v0] m Q ↔ AW d 284 59 [some (.ref x), l1, l2, l3, l4, l5, l6, l7] [.ref x, v0] m Q := A_aload_n hB_X12_fits dX12_fits_58 rfl
theorem dX12_fits_59 : decode cX12_fits 59 = .ok (.getfield 98, 3) := by decide +kernel
theorem tX12_fits_59 {d : Nat} {l0 l1 l2 l3 l4 l5 l6 l7 : Option Value} {v1 : Value} {a : Nat} {m : jmM} {Q : Option Value → jmM → Prop} : AW d 284 59 [l0, l1, l2, l3, l4, l5, l6, l7] [.ref a, v1] m Q ↔ (mS m a).1 = 12 ∧ AW d 284 62 [l0, l1, l2, l3, l4, l5, l6, l7] [va_rf (mR m a 48), v1] m Q := A_getfield (f := fun m a => va_rf (mR m a 48)) hB_X12_fits dX12_fits_59 hO_X12_fits fF_12_98 rfl
theorem dX12_fits_62 : decode cX12_fits 62 = .ok (.iconst 4, 1) := by decide +kernel
theorem tX12_fits_62 {d : Nat} {l0 l1 l2 l3 l4 l5 l6 l7 : Option Value} {v0 v1 : Value} {m : jmM} {Q : Option Value → jmM → Prop} : AW d 284 62 [l0, l1, l2, l3, l4, l5, l6, l7] [v0, v1] m Q ↔ AW d 284 63 [l0, l1, l2, l3, l4, l5, l6, l7] [.int 4, v0, v1] m Q := A_iconst hB_X12_fits dX12_fits_62 (by decide)
theorem dX12_fits_63 : decode cX12_fits 63 = .ok (.iload 5, 2) := by decide +kernel
theorem tX12_fits_63 {d : Nat} {l0 l1 l2 l3 l4 l6 l7 : Option Value} {v0 v1 v2 : Value} {x : Int32} {m : jmM} {Q : Option Value → jmM → Prop} : AW d 284 63 [l0, l1, l2, l3, l4, some (.int x), l6, l7] [v0, v1, v2] m Q ↔ AW d 284 65 [l0, l1, l2, l3, l4, some (.int x), l6, l7] [.int x, v0, v1, v2] m Q := A_iload hB_X12_fits dX12_fits_63 rfl
theorem dX12_fits_65 : decode cX12_fits 65 = .ok (.imul, 1) := by decide +kernel
theorem tX12_fits_65 {d : Nat} {l0 l1 l2 l3 l4 l5 l6 l7 : Option Value} {v2 v3 : Value} {x y : Int32} {m : jmM} {Q : Option Value → jmM → Prop} : AW d 284 65 [l0, l1, l2, l3, l4, l5, l6, l7] [.int y, .int x, v2, v3] m Q ↔ AW d 284 66 [l0, l1, l2, l3, l4, l5, l6, l7] [.int (x * y), v2, v3] m Q := A_imul hB_X12_fits dX12_fits_65
theorem dX12_fits_66 : decode cX12_fits 66 = .ok (.iconst 3, 1) := by decide +kernel
theorem tX12_fits_66 {d : Nat} {l0 l1 l2 l3 l4 l5 l6 l7 : Option Value} {v0 v1 v2 : Value} {m : jmM} {Q : Option Value → jmM → Prop} : AW d 284 66 [l0, l1, l2, l3, l4, l5, l6, l7] [v0, v1, v2] m Q ↔ AW d 284 67 [l0, l1, l2, l3, l4, l5, l6, l7] [.int 3, v0, v1, v2] m Q := A_iconst hB_X12_fits dX12_fits_66 (by decide)
theorem dX12_fits_67 : decode cX12_fits 67 = .ok (.iadd, 1) := by decide +kernel
theorem tX12_fits_67 {d : Nat} {l0 l1 l2 l3 l4 l5 l6 l7 : Option Value} {v2 v3 : Value} {x y : Int32} {m : jmM} {Q : Option Value → jmM → Prop} : AW d 284 67 [l0, l1, l2, l3, l4, l5, l6, l7] [.int y, .int x, v2, v3] m Q ↔ AW d 284 68 [l0, l1, l2, l3, l4, l5, l6, l7] [.int (x + y), v2, v3] m Q := A_iadd hB_X12_fits dX12_fits_67
theorem dX12_fits_68 : decode cX12_fits 68 = .ok (.iaload, 1) := by decide +kernel
theorem tX12_fits_68 {d : Nat} {l0 l1 l2 l3 l4 l5 l6 l7 : Option Value} {v2 : Value} {i : Int32} {a : Nat} {m : jmM} {Q : Option Value → jmM → Prop} : AW d 284 68 [l0, l1, l2, l3, l4, l5, l6, l7] [.int i, .ref a, v2] m Q ↔ (((mS m a).1 = 20 ∨ a = jScr) ∧ jIx i (mS m a).2) ∧ AW d 284 69 [l0, l1, l2, l3, l4, l5, l6, l7] [.int (mI m a (jx i)), v2] m Q := A_iaload hB_X12_fits dX12_fits_68
theorem dX12_fits_69 : decode cX12_fits 69 = .ok (.ineg, 1) := by decide +kernel
theorem tX12_fits_69 {d : Nat} {l0 l1 l2 l3 l4 l5 l6 l7 : Option Value} {v1 : Value} {x : Int32} {m : jmM} {Q : Option Value → jmM → Prop} : AW d 284 69 [l0, l1, l2, l3, l4, l5, l6, l7] [.int x, v1] m Q ↔ AW d 284 70 [l0, l1, l2, l3, l4, l5, l6, l7] [.int (-x), v1] m Q := A_ineg hB_X12_fits dX12_fits_69
theorem dX12_fits_70 : decode cX12_fits 70 = .ok (.i2l, 1) := by decide +kernel
theorem tX12_fits_70 {d : Nat} {l0 l1 l2 l3 l4 l5 l6 l7 : Option Value} {v1 : Value} {x : Int32} {m : jmM} {Q : Option Value → jmM → Prop} : AW d 284 70 [l0, l1, l2, l3, l4, l5, l6, l7] [.int x, v1] m Q ↔ AW d 284 71 [l0, l1, l2, l3, l4, l5, l6, l7] [.long x.toInt64, v1] m Q := A_i2l hB_X12_fits dX12_fits_70
theorem dX12_fits_71 : decode cX12_fits 71 = .ok (.aload_n 0, 1) := by decide +kernel
theorem tX12_fits_71 {d : Nat} {l1 l2 l3 l4 l5 l6 l7 : Option Value} {v0 v1 : Value} {x : Nat} {m : jmM} {Q : Option Value → jmM → Prop} : AW d 284 71 [some (.ref x), l1, l2, l3, l4, l5, l6, l7] [v0, v1] m Q ↔ AW d 284 72 [some (.ref x), l1, l2, l3, l4, l5, l6, l7] [.ref x, v0, v1] m Q := A_aload_n hB_X12_fits dX12_fits_71 rfl
theorem dX12_fits_72 : decode cX12_fits 72 = .ok (.getfield 98, 3) := by decide +kernel
theorem tX12_fits_72 {d : Nat} {l0 l1 l2 l3 l4 l5 l6 l7 : Option Value} {v1 v2 : Value} {a : Nat} {m : jmM} {Q : Option Value → jmM → Prop} : AW d 284 72 [l0, l1, l2, l3, l4, l5, l6, l7] [.ref a, v1, v2] m Q ↔ (mS m a).1 = 12 ∧ AW d 284 75 [l0, l1, l2, l3, l4, l5, l6, l7] [va_rf (mR m a 48), v1, v2] m Q := A_getfield (f := fun m a => va_rf (mR m a 48)) hB_X12_fits dX12_fits_72 hO_X12_fits fF_12_98 rfl
theorem dX12_fits_75 : decode cX12_fits 75 = .ok (.iconst 4, 1) := by decide +kernel
theorem tX12_fits_75 {d : Nat} {l0 l1 l2 l3 l4 l5 l6 l7 : Option Value} {v0 v1 v2 : Value} {m : jmM} {Q : Option Value → jmM → Prop} : AW d 284 75 [l0, l1, l2, l3, l4, l5, l6, l7] [v0, v1, v2] m Q ↔ AW d 284 76 [l0, l1, l2, l3, l4, l5, l6, l7] [.int 4, v0, v1, v2] m Q := A_iconst hB_X12_fits dX12_fits_75 (by decide)
theorem dX12_fits_76 : decode cX12_fits 76 = .ok (.iload 5, 2) := by decide +kernel
theorem tX12_fits_76 {d : Nat} {l0 l1 l2 l3 l4 l6 l7 : Option Value} {v0 v1 v2 v3 : Value} {x : Int32} {m : jmM} {Q : Option Value → jmM → Prop} : AW d 284 76 [l0, l1, l2, l3, l4, some (.int x), l6, l7] [v0, v1, v2, v3] m Q ↔ AW d 284 78 [l0, l1, l2, l3, l4, some (.int x), l6, l7] [.int x, v0, v1, v2, v3] m Q := A_iload hB_X12_fits dX12_fits_76 rfl
theorem dX12_fits_78 : decode cX12_fits 78 = .ok (.imul, 1) := by decide +kernel
theorem tX12_fits_78 {d : Nat} {l0 l1 l2 l3 l4 l5 l6 l7 : Option Value} {v2 v3 v4 : Value} {x y : Int32} {m : jmM} {Q : Option Value → jmM → Prop} : AW d 284 78 [l0, l1, l2, l3, l4, l5, l6, l7] [.int y, .int x, v2, v3, v4] m Q ↔ AW d 284 79 [l0, l1, l2, l3, l4, l5, l6, l7] [.int (x * y), v2, v3, v4] m Q := A_imul hB_X12_fits dX12_fits_78
theorem dX12_fits_79 : decode cX12_fits 79 = .ok (.iconst 3, 1) := by decide +kernel
theorem tX12_fits_79 {d : Nat} {l0 l1 l2 l3 l4 l5 l6 l7 : Option Value} {v0 v1 v2 v3 : Value} {m : jmM} {Q : Option Value → jmM → Prop} : AW d 284 79 [l0, l1, l2, l3, l4, l5, l6, l7] [v0, v1, v2, v3] m Q ↔ AW d 284 80 [l0, l1, l2, l3, l4, l5, l6, l7] [.int 3, v0, v1, v2, v3] m Q := A_iconst hB_X12_fits dX12_fits_79 (by decide)
theorem dX12_fits_80 : decode cX12_fits 80 = .ok (.iadd, 1) := by decide +kernel
theorem tX12_fits_80 {d : Nat} {l0 l1 l2 l3 l4 l5 l6 l7 : Option Value} {v2 v3 v4 : Value} {x y : Int32} {m : jmM} {Q : Option Value → jmM → Prop} : AW d 284 80 [l0, l1, l2, l3, l4, l5, l6, l7] [.int y, .int x, v2, v3, v4] m Q ↔ AW d 284 81 [l0, l1, l2, l3, l4, l5, l6, l7] [.int (x + y), v2, v3, v4] m Q := A_iadd hB_X12_fits dX12_fits_80
theorem dX12_fits_81 : decode cX12_fits 81 = .ok (.iaload, 1) := by decide +kernel
theorem tX12_fits_81 {d : Nat} {l0 l1 l2 l3 l4 l5 l6 l7 : Option Value} {v2 v3 : Value} {i : Int32} {a : Nat} {m : jmM} {Q : Option Value → jmM → Prop} : AW d 284 81 [l0, l1, l2, l3, l4, l5, l6, l7] [.int i, .ref a, v2, v3] m Q ↔ (((mS m a).1 = 20 ∨ a = jScr) ∧ jIx i (mS m a).2) ∧ AW d 284 82 [l0, l1, l2, l3, l4, l5, l6, l7] [.int (mI m a (jx i)), v2, v3] m Q := A_iaload hB_X12_fits dX12_fits_81
theorem dX12_fits_82 : decode cX12_fits 82 = .ok (.i2l, 1) := by decide +kernel
theorem tX12_fits_82 {d : Nat} {l0 l1 l2 l3 l4 l5 l6 l7 : Option Value} {v1 v2 : Value} {x : Int32} {m : jmM} {Q : Option Value → jmM → Prop} : AW d 284 82 [l0, l1, l2, l3, l4, l5, l6, l7] [.int x, v1, v2] m Q ↔ AW d 284 83 [l0, l1, l2, l3, l4, l5, l6, l7] [.long x.toInt64, v1, v2] m Q := A_i2l hB_X12_fits dX12_fits_82
theorem dX12_fits_83 : decode cX12_fits 83 = .ok (.invokestatic 281, 3) := by decide +kernel
theorem tX12_fits_83 {d : Nat} {l0 l1 l2 l3 l4 l5 l6 l7 : Option Value} {y0 y1 y2 : Value} {m : jmM} {Q : Option Value → jmM → Prop} : AW d 284 83 [l0, l1, l2, l3, l4, l5, l6, l7] [y0, y1, y2] m Q ↔ CC d 189 [y2, y1, y0] m (jK d 284 86 [l0, l1, l2, l3, l4, l5, l6, l7] [] Q) := A_callS0 hB_X12_fits dX12_fits_83 hO_X12_fits fS_12_281 ⟨Nat.le_of_ble_eq_true rfl, Nat.le_of_ble_eq_true rfl⟩ rfl rfl
theorem dX12_fits_86 : decode cX12_fits 86 = .ok (.ifCond .ne 5, 3) := by decide +kernel
theorem tX12_fits_86 {d : Nat} {l0 l1 l2 l3 l4 l5 l6 l7 : Option Value} {x : Int32} {m : jmM} {Q : Option Value → jmM → Prop} : AW d 284 86 [l0, l1, l2, l3, l4, l5, l6, l7] [.int x] m Q ↔ if x = 0 then AW d 284 89 [l0, l1, l2, l3, l4, l5, l6, l7] [] m Q else AW d 284 91 [l0, l1, l2, l3, l4, l5, l6, l7] [] m Q := A_if_ne hB_X12_fits dX12_fits_86 (by decide)
theorem dX12_fits_89 : decode cX12_fits 89 = .ok (.iconst 0, 1) := by decide +kernel
theorem tX12_fits_89 {d : Nat} {l0 l1 l2 l3 l4 l5 l6 l7 : Option Value} {m : jmM} {Q : Option Value → jmM → Prop} : AW d 284 89 [l0, l1, l2, l3, l4, l5, l6, l7] [] m Q ↔ AW d 284 90 [l0, l1, l2, l3, l4, l5, l6, l7] [.int 0] m Q := A_iconst hB_X12_fits dX12_fits_89 (by decide)
theorem dX12_fits_90 : decode cX12_fits 90 = .ok (.ireturn, 1) := by decide +kernel
theorem tX12_fits_90 {d : Nat} {l0 l1 l2 l3 l4 l5 l6 l7 : Option Value} {x : Int32} {m : jmM} {Q : Option Value → jmM → Prop} : AW d 284 90 [l0, l1, l2, l3, l4, l5, l6, l7] [.int x] m Q ↔ jBool x ∧ Q (some (.int x)) m := A_zreturn hB_X12_fits dX12_fits_90 hR_X12_fits
theorem dX12_fits_91 : decode cX12_fits 91 = .ok (.iinc 5 1, 3) := by decide +kernel
theorem tX12_fits_91 {d : Nat} {l0 l1 l2 l3 l4 l6 l7 : Option Value} {x : Int32} {m : jmM} {Q : Option Value → jmM → Prop} : AW d 284 91 [l0, l1, l2, l3, l4, some (.int x), l6, l7] [] m Q ↔ AW d 284 94 [l0, l1, l2, l3, jc1 l4, some (.int (x + 1)), l6, l7] [] m Q := A_iinc hB_X12_fits dX12_fits_91 rfl (Nat.le_of_ble_eq_true rfl) (v := 1) (by decide) rfl
theorem dX12_fits_94 : decode cX12_fits 94 = .ok (.goto (-91), 3) := by decide +kernel
theorem tX12_fits_94 {d : Nat} {l0 l1 l2 l3 l4 l5 l6 l7 : Option Value} {m : jmM} {Q : Option Value → jmM → Prop} : AW d 284 94 [l0, l1, l2, l3, l4, l5, l6, l7] [] m Q ↔ AW d 284 3 [l0, l1, l2, l3, l4, l5, l6, l7] [] m Q := A_goto hB_X12_fits dX12_fits_94 (by decide)
theorem dX12_fits_97 : decode cX12_fits 97 = .ok (.iconst 1, 1) := by decide +kernel
theorem tX12_fits_97 {d : Nat} {l0 l1 l2 l3 l4 l5 l6 l7 : Option Value} {m : jmM} {Q : Option Value → jmM → Prop} : AW d 284 97 [l0, l1, l2, l3, l4, l5, l6, l7] [] m Q ↔ AW d 284 98 [l0, l1, l2, l3, l4, l5, l6, l7] [.int 1] m Q := A_iconst hB_X12_fits dX12_fits_97 (by decide)
theorem dX12_fits_98 : decode cX12_fits 98 = .ok (.ireturn, 1) := by decide +kernel
theorem tX12_fits_98 {d : Nat} {l0 l1 l2 l3 l4 l5 l6 l7 : Option Value} {x : Int32} {m : jmM} {Q : Option Value → jmM → Prop} : AW d 284 98 [l0, l1, l2, l3, l4, l5, l6, l7] [.int x] m Q ↔ jBool x ∧ Q (some (.int x)) m := A_zreturn hB_X12_fits dX12_fits_98 hR_X12_fits
theorem hB_X12_fitsAll : jB 285 = cX12_fitsAll := rfl
theorem hO_X12_fitsAll : jO 285 = 12 := rfl
theorem hR_X12_fitsAll : jRt 285 = (some .boolean) := rfl
theorem nX12_fitsAll (d : Nat) (x0 : Nat) (x1 : Int32) (x2 : Int32) (m : jmM) (Q : Option Value → jmM → Prop) : CC (d + 1) 285 [.ref x0, .int x1, .int x2] m Q ↔ AW d 285 0 [some (.ref x0), some (.int x1), some (.int x2), none, none, none, none, none] [] m Q := CC_body (Nat.le_of_ble_eq_true rfl)
theorem dX12_fitsAll_0 : decode cX12_fitsAll 0 = .ok (.aload_n 0, 1) := by decide +kernel
theorem tX12_fitsAll_0 {d : Nat} {l1 l2 l3 l4 l5 l6 l7 : Option Value} {x : Nat} {m : jmM} {Q : Option Value → jmM → Prop} : AW d 285 0 [some (.ref x), l1, l2, l3, l4, l5, l6, l7] [] m Q ↔ AW d 285 1 [some (.ref x), l1, l2, l3, l4, l5, l6, l7] [.ref x] m Q := A_aload_n hB_X12_fitsAll dX12_fitsAll_0 rfl
theorem dX12_fitsAll_1 : decode cX12_fitsAll 1 = .ok (.getfield 57, 3) := by decide +kernel
theorem tX12_fitsAll_1 {d : Nat} {l0 l1 l2 l3 l4 l5 l6 l7 : Option Value} {a : Nat} {m : jmM} {Q : Option Value → jmM → Prop} : AW d 285 1 [l0, l1, l2, l3, l4, l5, l6, l7] [.ref a] m Q ↔ (mS m a).1 = 12 ∧ AW d 285 4 [l0, l1, l2, l3, l4, l5, l6, l7] [va_rf (mR m a 27)] m Q := A_getfield (f := fun m a => va_rf (mR m a 27)) hB_X12_fitsAll dX12_fitsAll_1 hO_X12_fitsAll fF_12_57 rfl
theorem dX12_fitsAll_4 : decode cX12_fitsAll 4 = .ok (.iload_n 1, 1) := by decide +kernel
theorem tX12_fitsAll_4 {d : Nat} {l0 l2 l3 l4 l5 l6 l7 : Option Value} {v0 : Value} {x : Int32} {m : jmM} {Q : Option Value → jmM → Prop} : AW d 285 4 [l0, some (.int x), l2, l3, l4, l5, l6, l7] [v0] m Q ↔ AW d 285 5 [l0, some (.int x), l2, l3, l4, l5, l6, l7] [.int x, v0] m Q := A_iload_n hB_X12_fitsAll dX12_fitsAll_4 rfl
theorem dX12_fitsAll_5 : decode cX12_fitsAll 5 = .ok (.iaload, 1) := by decide +kernel
theorem tX12_fitsAll_5 {d : Nat} {l0 l1 l2 l3 l4 l5 l6 l7 : Option Value} {i : Int32} {a : Nat} {m : jmM} {Q : Option Value → jmM → Prop} : AW d 285 5 [l0, l1, l2, l3, l4, l5, l6, l7] [.int i, .ref a] m Q ↔ (((mS m a).1 = 20 ∨ a = jScr) ∧ jIx i (mS m a).2) ∧ AW d 285 6 [l0, l1, l2, l3, l4, l5, l6, l7] [.int (mI m a (jx i))] m Q := A_iaload hB_X12_fitsAll dX12_fitsAll_5
theorem dX12_fitsAll_6 : decode cX12_fitsAll 6 = .ok (.i2l, 1) := by decide +kernel
theorem tX12_fitsAll_6 {d : Nat} {l0 l1 l2 l3 l4 l5 l6 l7 : Option Value} {x : Int32} {m : jmM} {Q : Option Value → jmM → Prop} : AW d 285 6 [l0, l1, l2, l3, l4, l5, l6, l7] [.int x] m Q ↔ AW d 285 7 [l0, l1, l2, l3, l4, l5, l6, l7] [.long x.toInt64] m Q := A_i2l hB_X12_fitsAll dX12_fitsAll_6
theorem dX12_fitsAll_7 : decode cX12_fitsAll 7 = .ok (.lstore_n 3, 1) := by decide +kernel
theorem tX12_fitsAll_7 {d : Nat} {l0 l1 l2 l3 l4 l5 l6 l7 : Option Value} {x : Int64} {m : jmM} {Q : Option Value → jmM → Prop} : AW d 285 7 [l0, l1, l2, l3, l4, l5, l6, l7] [.long x] m Q ↔ AW d 285 8 [l0, l1, jc1 l2, some (.long x), none, l5, l6, l7] [] m Q := A_lstore_n hB_X12_fitsAll dX12_fitsAll_7 (Nat.le_of_ble_eq_true rfl) rfl
theorem dX12_fitsAll_8 : decode cX12_fitsAll 8 = .ok (.iconst 0, 1) := by decide +kernel
theorem tX12_fitsAll_8 {d : Nat} {l0 l1 l2 l3 l4 l5 l6 l7 : Option Value} {m : jmM} {Q : Option Value → jmM → Prop} : AW d 285 8 [l0, l1, l2, l3, l4, l5, l6, l7] [] m Q ↔ AW d 285 9 [l0, l1, l2, l3, l4, l5, l6, l7] [.int 0] m Q := A_iconst hB_X12_fitsAll dX12_fitsAll_8 (by decide)
theorem dX12_fitsAll_9 : decode cX12_fitsAll 9 = .ok (.istore 5, 2) := by decide +kernel
theorem tX12_fitsAll_9 {d : Nat} {l0 l1 l2 l3 l4 l5 l6 l7 : Option Value} {x : Int32} {m : jmM} {Q : Option Value → jmM → Prop} : AW d 285 9 [l0, l1, l2, l3, l4, l5, l6, l7] [.int x] m Q ↔ AW d 285 11 [l0, l1, l2, l3, jc1 l4, some (.int x), l6, l7] [] m Q := A_istore hB_X12_fitsAll dX12_fitsAll_9 (Nat.le_of_ble_eq_true rfl) rfl
theorem dX12_fitsAll_11 : decode cX12_fitsAll 11 = .ok (.iload 5, 2) := by decide +kernel
theorem tX12_fitsAll_11 {d : Nat} {l0 l1 l2 l3 l4 l6 l7 : Option Value} {x : Int32} {m : jmM} {Q : Option Value → jmM → Prop} : AW d 285 11 [l0, l1, l2, l3, l4, some (.int x), l6, l7] [] m Q ↔ AW d 285 13 [l0, l1, l2, l3, l4, some (.int x), l6, l7] [.int x] m Q := A_iload hB_X12_fitsAll dX12_fitsAll_11 rfl
theorem dX12_fitsAll_13 : decode cX12_fitsAll 13 = .ok (.aload_n 0, 1) := by decide +kernel
theorem tX12_fitsAll_13 {d : Nat} {l1 l2 l3 l4 l5 l6 l7 : Option Value} {v0 : Value} {x : Nat} {m : jmM} {Q : Option Value → jmM → Prop} : AW d 285 13 [some (.ref x), l1, l2, l3, l4, l5, l6, l7] [v0] m Q ↔ AW d 285 14 [some (.ref x), l1, l2, l3, l4, l5, l6, l7] [.ref x, v0] m Q := A_aload_n hB_X12_fitsAll dX12_fitsAll_13 rfl
theorem dX12_fitsAll_14 : decode cX12_fitsAll 14 = .ok (.getfield 51, 3) := by decide +kernel
theorem tX12_fitsAll_14 {d : Nat} {l0 l1 l2 l3 l4 l5 l6 l7 : Option Value} {v1 : Value} {a : Nat} {m : jmM} {Q : Option Value → jmM → Prop} : AW d 285 14 [l0, l1, l2, l3, l4, l5, l6, l7] [.ref a, v1] m Q ↔ (mS m a).1 = 12 ∧ AW d 285 17 [l0, l1, l2, l3, l4, l5, l6, l7] [va_rf (mR m a 25), v1] m Q := A_getfield (f := fun m a => va_rf (mR m a 25)) hB_X12_fitsAll dX12_fitsAll_14 hO_X12_fitsAll fF_12_51 rfl
theorem dX12_fitsAll_17 : decode cX12_fitsAll 17 = .ok (.bipush 15, 2) := by decide +kernel
theorem tX12_fitsAll_17 {d : Nat} {l0 l1 l2 l3 l4 l5 l6 l7 : Option Value} {v0 v1 : Value} {m : jmM} {Q : Option Value → jmM → Prop} : AW d 285 17 [l0, l1, l2, l3, l4, l5, l6, l7] [v0, v1] m Q ↔ AW d 285 19 [l0, l1, l2, l3, l4, l5, l6, l7] [.int 15, v0, v1] m Q := A_bipush hB_X12_fitsAll dX12_fitsAll_17 rfl
theorem dX12_fitsAll_19 : decode cX12_fitsAll 19 = .ok (.iaload, 1) := by decide +kernel
theorem tX12_fitsAll_19 {d : Nat} {l0 l1 l2 l3 l4 l5 l6 l7 : Option Value} {v2 : Value} {i : Int32} {a : Nat} {m : jmM} {Q : Option Value → jmM → Prop} : AW d 285 19 [l0, l1, l2, l3, l4, l5, l6, l7] [.int i, .ref a, v2] m Q ↔ (((mS m a).1 = 20 ∨ a = jScr) ∧ jIx i (mS m a).2) ∧ AW d 285 20 [l0, l1, l2, l3, l4, l5, l6, l7] [.int (mI m a (jx i)), v2] m Q := A_iaload hB_X12_fitsAll dX12_fitsAll_19
theorem dX12_fitsAll_20 : decode cX12_fitsAll 20 = .ok (.if_icmp .ge 82, 3) := by decide +kernel
theorem tX12_fitsAll_20 {d : Nat} {l0 l1 l2 l3 l4 l5 l6 l7 : Option Value} {x y : Int32} {m : jmM} {Q : Option Value → jmM → Prop} : AW d 285 20 [l0, l1, l2, l3, l4, l5, l6, l7] [.int y, .int x] m Q ↔ if y ≤ x then AW d 285 102 [l0, l1, l2, l3, l4, l5, l6, l7] [] m Q else AW d 285 23 [l0, l1, l2, l3, l4, l5, l6, l7] [] m Q := A_icmp_ge hB_X12_fitsAll dX12_fitsAll_20 (by decide)
theorem dX12_fitsAll_23 : decode cX12_fitsAll 23 = .ok (.lload_n 3, 1) := by decide +kernel
theorem tX12_fitsAll_23 {d : Nat} {l0 l1 l2 l4 l5 l6 l7 : Option Value} {x : Int64} {m : jmM} {Q : Option Value → jmM → Prop} : AW d 285 23 [l0, l1, l2, some (.long x), l4, l5, l6, l7] [] m Q ↔ AW d 285 24 [l0, l1, l2, some (.long x), l4, l5, l6, l7] [.long x] m Q := A_lload_n hB_X12_fitsAll dX12_fitsAll_23 rfl
theorem dX12_fitsAll_24 : decode cX12_fitsAll 24 = .ok (.iload_n 1, 1) := by decide +kernel
theorem tX12_fitsAll_24 {d : Nat} {l0 l2 l3 l4 l5 l6 l7 : Option Value} {v0 : Value} {x : Int32} {m : jmM} {Q : Option Value → jmM → Prop} : AW d 285 24 [l0, some (.int x), l2, l3, l4, l5, l6, l7] [v0] m Q ↔ AW d 285 25 [l0, some (.int x), l2, l3, l4, l5, l6, l7] [.int x, v0] m Q := A_iload_n hB_X12_fitsAll dX12_fitsAll_24 rfl
theorem dX12_fitsAll_25 : decode cX12_fitsAll 25 = .ok (.iconst 5, 1) := by decide +kernel
theorem tX12_fitsAll_25 {d : Nat} {l0 l1 l2 l3 l4 l5 l6 l7 : Option Value} {v0 v1 : Value} {m : jmM} {Q : Option Value → jmM → Prop} : AW d 285 25 [l0, l1, l2, l3, l4, l5, l6, l7] [v0, v1] m Q ↔ AW d 285 26 [l0, l1, l2, l3, l4, l5, l6, l7] [.int 5, v0, v1] m Q := A_iconst hB_X12_fitsAll dX12_fitsAll_25 (by decide)
theorem dX12_fitsAll_26 : decode cX12_fitsAll 26 = .ok (.if_icmp .ne 18, 3) := by decide +kernel
theorem tX12_fitsAll_26 {d : Nat} {l0 l1 l2 l3 l4 l5 l6 l7 : Option Value} {v2 : Value} {x y : Int32} {m : jmM} {Q : Option Value → jmM → Prop} : AW d 285 26 [l0, l1, l2, l3, l4, l5, l6, l7] [.int y, .int x, v2] m Q ↔ if x = y then AW d 285 29 [l0, l1, l2, l3, l4, l5, l6, l7] [v2] m Q else AW d 285 44 [l0, l1, l2, l3, l4, l5, l6, l7] [v2] m Q := A_icmp_ne hB_X12_fitsAll dX12_fitsAll_26 (by decide)
theorem dX12_fitsAll_29 : decode cX12_fitsAll 29 = .ok (.aload_n 0, 1) := by decide +kernel
theorem tX12_fitsAll_29 {d : Nat} {l1 l2 l3 l4 l5 l6 l7 : Option Value} {v0 : Value} {x : Nat} {m : jmM} {Q : Option Value → jmM → Prop} : AW d 285 29 [some (.ref x), l1, l2, l3, l4, l5, l6, l7] [v0] m Q ↔ AW d 285 30 [some (.ref x), l1, l2, l3, l4, l5, l6, l7] [.ref x, v0] m Q := A_aload_n hB_X12_fitsAll dX12_fitsAll_29 rfl
theorem dX12_fitsAll_30 : decode cX12_fitsAll 30 = .ok (.getfield 32, 3) := by decide +kernel
theorem tX12_fitsAll_30 {d : Nat} {l0 l1 l2 l3 l4 l5 l6 l7 : Option Value} {v1 : Value} {a : Nat} {m : jmM} {Q : Option Value → jmM → Prop} : AW d 285 30 [l0, l1, l2, l3, l4, l5, l6, l7] [.ref a, v1] m Q ↔ (mS m a).1 = 12 ∧ AW d 285 33 [l0, l1, l2, l3, l4, l5, l6, l7] [va_rf (mR m a 8), v1] m Q := A_getfield (f := fun m a => va_rf (mR m a 8)) hB_X12_fitsAll dX12_fitsAll_30 hO_X12_fitsAll fF_12_32 rfl
theorem dX12_fitsAll_33 : decode cX12_fitsAll 33 = .ok (.aload_n 0, 1) := by decide +kernel
theorem tX12_fitsAll_33 {d : Nat} {l1 l2 l3 l4 l5 l6 l7 : Option Value} {v0 v1 : Value} {x : Nat} {m : jmM} {Q : Option Value → jmM → Prop} : AW d 285 33 [some (.ref x), l1, l2, l3, l4, l5, l6, l7] [v0, v1] m Q ↔ AW d 285 34 [some (.ref x), l1, l2, l3, l4, l5, l6, l7] [.ref x, v0, v1] m Q := A_aload_n hB_X12_fitsAll dX12_fitsAll_33 rfl
theorem dX12_fitsAll_34 : decode cX12_fitsAll 34 = .ok (.getfield 51, 3) := by decide +kernel
theorem tX12_fitsAll_34 {d : Nat} {l0 l1 l2 l3 l4 l5 l6 l7 : Option Value} {v1 v2 : Value} {a : Nat} {m : jmM} {Q : Option Value → jmM → Prop} : AW d 285 34 [l0, l1, l2, l3, l4, l5, l6, l7] [.ref a, v1, v2] m Q ↔ (mS m a).1 = 12 ∧ AW d 285 37 [l0, l1, l2, l3, l4, l5, l6, l7] [va_rf (mR m a 25), v1, v2] m Q := A_getfield (f := fun m a => va_rf (mR m a 25)) hB_X12_fitsAll dX12_fitsAll_34 hO_X12_fitsAll fF_12_51 rfl
theorem dX12_fitsAll_37 : decode cX12_fitsAll 37 = .ok (.iconst 1, 1) := by decide +kernel
theorem tX12_fitsAll_37 {d : Nat} {l0 l1 l2 l3 l4 l5 l6 l7 : Option Value} {v0 v1 v2 : Value} {m : jmM} {Q : Option Value → jmM → Prop} : AW d 285 37 [l0, l1, l2, l3, l4, l5, l6, l7] [v0, v1, v2] m Q ↔ AW d 285 38 [l0, l1, l2, l3, l4, l5, l6, l7] [.int 1, v0, v1, v2] m Q := A_iconst hB_X12_fitsAll dX12_fitsAll_37 (by decide)
theorem dX12_fitsAll_38 : decode cX12_fitsAll 38 = .ok (.iaload, 1) := by decide +kernel
theorem tX12_fitsAll_38 {d : Nat} {l0 l1 l2 l3 l4 l5 l6 l7 : Option Value} {v2 v3 : Value} {i : Int32} {a : Nat} {m : jmM} {Q : Option Value → jmM → Prop} : AW d 285 38 [l0, l1, l2, l3, l4, l5, l6, l7] [.int i, .ref a, v2, v3] m Q ↔ (((mS m a).1 = 20 ∨ a = jScr) ∧ jIx i (mS m a).2) ∧ AW d 285 39 [l0, l1, l2, l3, l4, l5, l6, l7] [.int (mI m a (jx i)), v2, v3] m Q := A_iaload hB_X12_fitsAll dX12_fitsAll_38
theorem dX12_fitsAll_39 : decode cX12_fitsAll 39 = .ok (.iaload, 1) := by decide +kernel
theorem tX12_fitsAll_39 {d : Nat} {l0 l1 l2 l3 l4 l5 l6 l7 : Option Value} {v2 : Value} {i : Int32} {a : Nat} {m : jmM} {Q : Option Value → jmM → Prop} : AW d 285 39 [l0, l1, l2, l3, l4, l5, l6, l7] [.int i, .ref a, v2] m Q ↔ (((mS m a).1 = 20 ∨ a = jScr) ∧ jIx i (mS m a).2) ∧ AW d 285 40 [l0, l1, l2, l3, l4, l5, l6, l7] [.int (mI m a (jx i)), v2] m Q := A_iaload hB_X12_fitsAll dX12_fitsAll_39
theorem dX12_fitsAll_40 : decode cX12_fitsAll 40 = .ok (.i2l, 1) := by decide +kernel
theorem tX12_fitsAll_40 {d : Nat} {l0 l1 l2 l3 l4 l5 l6 l7 : Option Value} {v1 : Value} {x : Int32} {m : jmM} {Q : Option Value → jmM → Prop} : AW d 285 40 [l0, l1, l2, l3, l4, l5, l6, l7] [.int x, v1] m Q ↔ AW d 285 41 [l0, l1, l2, l3, l4, l5, l6, l7] [.long x.toInt64, v1] m Q := A_i2l hB_X12_fitsAll dX12_fitsAll_40
theorem dX12_fitsAll_41 : decode cX12_fitsAll 41 = .ok (.goto 4, 3) := by decide +kernel
theorem tX12_fitsAll_41 {d : Nat} {l0 l1 l2 l3 l4 l5 l6 l7 : Option Value} {v0 v1 : Value} {m : jmM} {Q : Option Value → jmM → Prop} : AW d 285 41 [l0, l1, l2, l3, l4, l5, l6, l7] [v0, v1] m Q ↔ AW d 285 45 [l0, l1, l2, l3, l4, l5, l6, l7] [v0, v1] m Q := A_goto hB_X12_fitsAll dX12_fitsAll_41 (by decide)
theorem dX12_fitsAll_44 : decode cX12_fitsAll 44 = .ok (.lconst 0, 1) := by decide +kernel
theorem tX12_fitsAll_44 {d : Nat} {l0 l1 l2 l3 l4 l5 l6 l7 : Option Value} {v0 : Value} {m : jmM} {Q : Option Value → jmM → Prop} : AW d 285 44 [l0, l1, l2, l3, l4, l5, l6, l7] [v0] m Q ↔ AW d 285 45 [l0, l1, l2, l3, l4, l5, l6, l7] [.long 0, v0] m Q := A_lconst hB_X12_fitsAll dX12_fitsAll_44 (by decide)
theorem dX12_fitsAll_45 : decode cX12_fitsAll 45 = .ok (.ladd, 1) := by decide +kernel
theorem tX12_fitsAll_45 {d : Nat} {l0 l1 l2 l3 l4 l5 l6 l7 : Option Value} {x y : Int64} {m : jmM} {Q : Option Value → jmM → Prop} : AW d 285 45 [l0, l1, l2, l3, l4, l5, l6, l7] [.long y, .long x] m Q ↔ AW d 285 46 [l0, l1, l2, l3, l4, l5, l6, l7] [.long (x + y)] m Q := A_ladd hB_X12_fitsAll dX12_fitsAll_45
theorem dX12_fitsAll_46 : decode cX12_fitsAll 46 = .ok (.lstore_n 3, 1) := by decide +kernel
theorem tX12_fitsAll_46 {d : Nat} {l0 l1 l2 l3 l4 l5 l6 l7 : Option Value} {x : Int64} {m : jmM} {Q : Option Value → jmM → Prop} : AW d 285 46 [l0, l1, l2, l3, l4, l5, l6, l7] [.long x] m Q ↔ AW d 285 47 [l0, l1, jc1 l2, some (.long x), none, l5, l6, l7] [] m Q := A_lstore_n hB_X12_fitsAll dX12_fitsAll_46 (Nat.le_of_ble_eq_true rfl) rfl
theorem dX12_fitsAll_47 : decode cX12_fitsAll 47 = .ok (.lload_n 3, 1) := by decide +kernel
theorem tX12_fitsAll_47 {d : Nat} {l0 l1 l2 l4 l5 l6 l7 : Option Value} {x : Int64} {m : jmM} {Q : Option Value → jmM → Prop} : AW d 285 47 [l0, l1, l2, some (.long x), l4, l5, l6, l7] [] m Q ↔ AW d 285 48 [l0, l1, l2, some (.long x), l4, l5, l6, l7] [.long x] m Q := A_lload_n hB_X12_fitsAll dX12_fitsAll_47 rfl
theorem dX12_fitsAll_48 : decode cX12_fitsAll 48 = .ok (.aload_n 0, 1) := by decide +kernel
theorem tX12_fitsAll_48 {d : Nat} {l1 l2 l3 l4 l5 l6 l7 : Option Value} {v0 : Value} {x : Nat} {m : jmM} {Q : Option Value → jmM → Prop} : AW d 285 48 [some (.ref x), l1, l2, l3, l4, l5, l6, l7] [v0] m Q ↔ AW d 285 49 [some (.ref x), l1, l2, l3, l4, l5, l6, l7] [.ref x, v0] m Q := A_aload_n hB_X12_fitsAll dX12_fitsAll_48 rfl
theorem dX12_fitsAll_49 : decode cX12_fitsAll 49 = .ok (.iload 5, 2) := by decide +kernel
theorem tX12_fitsAll_49 {d : Nat} {l0 l1 l2 l3 l4 l6 l7 : Option Value} {v0 v1 : Value} {x : Int32} {m : jmM} {Q : Option Value → jmM → Prop} : AW d 285 49 [l0, l1, l2, l3, l4, some (.int x), l6, l7] [v0, v1] m Q ↔ AW d 285 51 [l0, l1, l2, l3, l4, some (.int x), l6, l7] [.int x, v0, v1] m Q := A_iload hB_X12_fitsAll dX12_fitsAll_49 rfl
theorem dX12_fitsAll_51 : decode cX12_fitsAll 51 = .ok (.iconst 3, 1) := by decide +kernel
theorem tX12_fitsAll_51 {d : Nat} {l0 l1 l2 l3 l4 l5 l6 l7 : Option Value} {v0 v1 v2 : Value} {m : jmM} {Q : Option Value → jmM → Prop} : AW d 285 51 [l0, l1, l2, l3, l4, l5, l6, l7] [v0, v1, v2] m Q ↔ AW d 285 52 [l0, l1, l2, l3, l4, l5, l6, l7] [.int 3, v0, v1, v2] m Q := A_iconst hB_X12_fitsAll dX12_fitsAll_51 (by decide)
theorem dX12_fitsAll_52 : decode cX12_fitsAll 52 = .ok (.invokevirtual 297, 3) := by decide +kernel
theorem tX12_fitsAll_52 {d : Nat} {l0 l1 l2 l3 l4 l5 l6 l7 : Option Value} {v3 : Value} {y0 y1 : Value} {a : Nat} {m : jmM} {Q : Option Value → jmM → Prop} : AW d 285 52 [l0, l1, l2, l3, l4, l5, l6, l7] [y0, y1, .ref a, v3] m Q ↔ (mS m a).1 = 12 ∧ CC d 229 [.ref a, y1, y0] m (jK d 285 55 [l0, l1, l2, l3, l4, l5, l6, l7] [v3] Q) := A_callV hB_X12_fitsAll dX12_fitsAll_52 hO_X12_fitsAll fS_12_297 ⟨Nat.le_of_ble_eq_true rfl, Nat.le_of_ble_eq_true rfl⟩ rfl rfl rfl
theorem dX12_fitsAll_55 : decode cX12_fitsAll 55 = .ok (.i2l, 1) := by decide +kernel
theorem tX12_fitsAll_55 {d : Nat} {l0 l1 l2 l3 l4 l5 l6 l7 : Option Value} {v1 : Value} {x : Int32} {m : jmM} {Q : Option Value → jmM → Prop} : AW d 285 55 [l0, l1, l2, l3, l4, l5, l6, l7] [.int x, v1] m Q ↔ AW d 285 56 [l0, l1, l2, l3, l4, l5, l6, l7] [.long x.toInt64, v1] m Q := A_i2l hB_X12_fitsAll dX12_fitsAll_55
theorem dX12_fitsAll_56 : decode cX12_fitsAll 56 = .ok (.aload_n 0, 1) := by decide +kernel
theorem tX12_fitsAll_56 {d : Nat} {l1 l2 l3 l4 l5 l6 l7 : Option Value} {v0 v1 : Value} {x : Nat} {m : jmM} {Q : Option Value → jmM → Prop} : AW d 285 56 [some (.ref x), l1, l2, l3, l4, l5, l6, l7] [v0, v1] m Q ↔ AW d 285 57 [some (.ref x), l1, l2, l3, l4, l5, l6, l7] [.ref x, v0, v1] m Q := A_aload_n hB_X12_fitsAll dX12_fitsAll_56 rfl
theorem dX12_fitsAll_57 : decode cX12_fitsAll 57 = .ok (.iload 5, 2) := by decide +kernel
theorem tX12_fitsAll_57 {d : Nat} {l0 l1 l2 l3 l4 l6 l7 : Option Value} {v0 v1 v2 : Value} {x : Int32} {m : jmM} {Q : Option Value → jmM → Prop} : AW d 285 57 [l0, l1, l2, l3, l4, some (.int x), l6, l7] [v0, v1, v2] m Q ↔ AW d 285 59 [l0, l1, l2, l3, l4, some (.int x), l6, l7] [.int x, v0, v1, v2] m Q := A_iload hB_X12_fitsAll dX12_fitsAll_57 rfl
theorem dX12_fitsAll_59 : decode cX12_fitsAll 59 = .ok (.iconst 4, 1) := by decide +kernel
theorem tX12_fitsAll_59 {d : Nat} {l0 l1 l2 l3 l4 l5 l6 l7 : Option Value} {v0 v1 v2 v3 : Value} {m : jmM} {Q : Option Value → jmM → Prop} : AW d 285 59 [l0, l1, l2, l3, l4, l5, l6, l7] [v0, v1, v2, v3] m Q ↔ AW d 285 60 [l0, l1, l2, l3, l4, l5, l6, l7] [.int 4, v0, v1, v2, v3] m Q := A_iconst hB_X12_fitsAll dX12_fitsAll_59 (by decide)
theorem dX12_fitsAll_60 : decode cX12_fitsAll 60 = .ok (.invokevirtual 297, 3) := by decide +kernel
theorem tX12_fitsAll_60 {d : Nat} {l0 l1 l2 l3 l4 l5 l6 l7 : Option Value} {v3 v4 : Value} {y0 y1 : Value} {a : Nat} {m : jmM} {Q : Option Value → jmM → Prop} : AW d 285 60 [l0, l1, l2, l3, l4, l5, l6, l7] [y0, y1, .ref a, v3, v4] m Q ↔ (mS m a).1 = 12 ∧ CC d 229 [.ref a, y1, y0] m (jK d 285 63 [l0, l1, l2, l3, l4, l5, l6, l7] [v3, v4] Q) := A_callV hB_X12_fitsAll dX12_fitsAll_60 hO_X12_fitsAll fS_12_297 ⟨Nat.le_of_ble_eq_true rfl, Nat.le_of_ble_eq_true rfl⟩ rfl rfl rfl
theorem dX12_fitsAll_63 : decode cX12_fitsAll 63 = .ok (.i2l, 1) := by decide +kernel
theorem tX12_fitsAll_63 {d : Nat} {l0 l1 l2 l3 l4 l5 l6 l7 : Option Value} {v1 v2 : Value} {x : Int32} {m : jmM} {Q : Option Value → jmM → Prop} : AW d 285 63 [l0, l1, l2, l3, l4, l5, l6, l7] [.int x, v1, v2] m Q ↔ AW d 285 64 [l0, l1, l2, l3, l4, l5, l6, l7] [.long x.toInt64, v1, v2] m Q := A_i2l hB_X12_fitsAll dX12_fitsAll_63
theorem dX12_fitsAll_64 : decode cX12_fitsAll 64 = .ok (.iload_n 2, 1) := by decide +kernel
theorem tX12_fitsAll_64 {d : Nat} {l0 l1 l3 l4 l5 l6 l7 : Option Value} {v0 v1 v2 : Value} {x : Int32} {m : jmM} {Q : Option Value → jmM → Prop} : AW d 285 64 [l0, l1, some (.int x), l3, l4, l5, l6, l7] [v0, v1, v2] m Q ↔ AW d 285 65 [l0, l1, some (.int x), l3, l4, l5, l6, l7] [.int x, v0, v1, v2] m Q := A_iload_n hB_X12_fitsAll dX12_fitsAll_64 rfl
theorem dX12_fitsAll_65 : decode cX12_fitsAll 65 = .ok (.i2l, 1) := by decide +kernel
theorem tX12_fitsAll_65 {d : Nat} {l0 l1 l2 l3 l4 l5 l6 l7 : Option Value} {v1 v2 v3 : Value} {x : Int32} {m : jmM} {Q : Option Value → jmM → Prop} : AW d 285 65 [l0, l1, l2, l3, l4, l5, l6, l7] [.int x, v1, v2, v3] m Q ↔ AW d 285 66 [l0, l1, l2, l3, l4, l5, l6, l7] [.long x.toInt64, v1, v2, v3] m Q := A_i2l hB_X12_fitsAll dX12_fitsAll_65
theorem dX12_fitsAll_66 : decode cX12_fitsAll 66 = .ok (.invokestatic 337, 3) := by decide +kernel
theorem tX12_fitsAll_66 {d : Nat} {l0 l1 l2 l3 l4 l5 l6 l7 : Option Value} {y0 y1 y2 y3 : Value} {m : jmM} {Q : Option Value → jmM → Prop} : AW d 285 66 [l0, l1, l2, l3, l4, l5, l6, l7] [y0, y1, y2, y3] m Q ↔ CC d 234 [y3, y2, y1, y0] m (jK d 285 69 [l0, l1, l2, l3, l4, l5, l6, l7] [] Q) := A_callS0 hB_X12_fitsAll dX12_fitsAll_66 hO_X12_fitsAll fS_12_337 ⟨Nat.le_of_ble_eq_true rfl, Nat.le_of_ble_eq_true rfl⟩ rfl rfl
theorem dX12_fitsAll_69 : decode cX12_fitsAll 69 = .ok (.lstore 6, 2) := by decide +kernel
theorem tX12_fitsAll_69 {d : Nat} {l0 l1 l2 l3 l4 l5 l6 l7 : Option Value} {x : Int64} {m : jmM} {Q : Option Value → jmM → Prop} : AW d 285 69 [l0, l1, l2, l3, l4, l5, l6, l7] [.long x] m Q ↔ AW d 285 71 [l0, l1, l2, l3, l4, jc1 l5, some (.long x), none] [] m Q := A_lstore hB_X12_fitsAll dX12_fitsAll_69 (Nat.le_of_ble_eq_true rfl) rfl
theorem dX12_fitsAll_71 : decode cX12_fitsAll 71 = .ok (.lload_n 3, 1) := by decide +kernel
theorem tX12_fitsAll_71 {d : Nat} {l0 l1 l2 l4 l5 l6 l7 : Option Value} {x : Int64} {m : jmM} {Q : Option Value → jmM → Prop} : AW d 285 71 [l0, l1, l2, some (.long x), l4, l5, l6, l7] [] m Q ↔ AW d 285 72 [l0, l1, l2, some (.long x), l4, l5, l6, l7] [.long x] m Q := A_lload_n hB_X12_fitsAll dX12_fitsAll_71 rfl
theorem dX12_fitsAll_72 : decode cX12_fitsAll 72 = .ok (.lload 6, 2) := by decide +kernel
theorem tX12_fitsAll_72 {d : Nat} {l0 l1 l2 l3 l4 l5 l7 : Option Value} {v0 : Value} {x : Int64} {m : jmM} {Q : Option Value → jmM → Prop} : AW d 285 72 [l0, l1, l2, l3, l4, l5, some (.long x), l7] [v0] m Q ↔ AW d 285 74 [l0, l1, l2, l3, l4, l5, some (.long x), l7] [.long x, v0] m Q := A_lload hB_X12_fitsAll dX12_fitsAll_72 rfl
theorem dX12_fitsAll_74 : decode cX12_fitsAll 74 = .ok (.lsub, 1) := by decide +kernel
theorem tX12_fitsAll_74 {d : Nat} {l0 l1 l2 l3 l4 l5 l6 l7 : Option Value} {x y : Int64} {m : jmM} {Q : Option Value → jmM → Prop} : AW d 285 74 [l0, l1, l2, l3, l4, l5, l6, l7] [.long y, .long x] m Q ↔ AW d 285 75 [l0, l1, l2, l3, l4, l5, l6, l7] [.long (x - y)] m Q := A_lsub hB_X12_fitsAll dX12_fitsAll_74
theorem dX12_fitsAll_75 : decode cX12_fitsAll 75 = .ok (.lstore_n 3, 1) := by decide +kernel
theorem tX12_fitsAll_75 {d : Nat} {l0 l1 l2 l3 l4 l5 l6 l7 : Option Value} {x : Int64} {m : jmM} {Q : Option Value → jmM → Prop} : AW d 285 75 [l0, l1, l2, l3, l4, l5, l6, l7] [.long x] m Q ↔ AW d 285 76 [l0, l1, jc1 l2, some (.long x), none, l5, l6, l7] [] m Q := A_lstore_n hB_X12_fitsAll dX12_fitsAll_75 (Nat.le_of_ble_eq_true rfl) rfl
theorem dX12_fitsAll_76 : decode cX12_fitsAll 76 = .ok (.aload_n 0, 1) := by decide +kernel
theorem tX12_fitsAll_76 {d : Nat} {l1 l2 l3 l4 l5 l6 l7 : Option Value} {x : Nat} {m : jmM} {Q : Option Value → jmM → Prop} : AW d 285 76 [some (.ref x), l1, l2, l3, l4, l5, l6, l7] [] m Q ↔ AW d 285 77 [some (.ref x), l1, l2, l3, l4, l5, l6, l7] [.ref x] m Q := A_aload_n hB_X12_fitsAll dX12_fitsAll_76 rfl
theorem dX12_fitsAll_77 : decode cX12_fitsAll 77 = .ok (.iload_n 1, 1) := by decide +kernel
theorem tX12_fitsAll_77 {d : Nat} {l0 l2 l3 l4 l5 l6 l7 : Option Value} {v0 : Value} {x : Int32} {m : jmM} {Q : Option Value → jmM → Prop} : AW d 285 77 [l0, some (.int x), l2, l3, l4, l5, l6, l7] [v0] m Q ↔ AW d 285 78 [l0, some (.int x), l2, l3, l4, l5, l6, l7] [.int x, v0] m Q := A_iload_n hB_X12_fitsAll dX12_fitsAll_77 rfl
theorem dX12_fitsAll_78 : decode cX12_fitsAll 78 = .ok (.iload 5, 2) := by decide +kernel
theorem tX12_fitsAll_78 {d : Nat} {l0 l1 l2 l3 l4 l6 l7 : Option Value} {v0 v1 : Value} {x : Int32} {m : jmM} {Q : Option Value → jmM → Prop} : AW d 285 78 [l0, l1, l2, l3, l4, some (.int x), l6, l7] [v0, v1] m Q ↔ AW d 285 80 [l0, l1, l2, l3, l4, some (.int x), l6, l7] [.int x, v0, v1] m Q := A_iload hB_X12_fitsAll dX12_fitsAll_78 rfl
theorem dX12_fitsAll_80 : decode cX12_fitsAll 80 = .ok (.aload_n 0, 1) := by decide +kernel
theorem tX12_fitsAll_80 {d : Nat} {l1 l2 l3 l4 l5 l6 l7 : Option Value} {v0 v1 v2 : Value} {x : Nat} {m : jmM} {Q : Option Value → jmM → Prop} : AW d 285 80 [some (.ref x), l1, l2, l3, l4, l5, l6, l7] [v0, v1, v2] m Q ↔ AW d 285 81 [some (.ref x), l1, l2, l3, l4, l5, l6, l7] [.ref x, v0, v1, v2] m Q := A_aload_n hB_X12_fitsAll dX12_fitsAll_80 rfl
theorem dX12_fitsAll_81 : decode cX12_fitsAll 81 = .ok (.lload 6, 2) := by decide +kernel
theorem tX12_fitsAll_81 {d : Nat} {l0 l1 l2 l3 l4 l5 l7 : Option Value} {v0 v1 v2 v3 : Value} {x : Int64} {m : jmM} {Q : Option Value → jmM → Prop} : AW d 285 81 [l0, l1, l2, l3, l4, l5, some (.long x), l7] [v0, v1, v2, v3] m Q ↔ AW d 285 83 [l0, l1, l2, l3, l4, l5, some (.long x), l7] [.long x, v0, v1, v2, v3] m Q := A_lload hB_X12_fitsAll dX12_fitsAll_81 rfl
theorem dX12_fitsAll_83 : decode cX12_fitsAll 83 = .ok (.iload 5, 2) := by decide +kernel
theorem tX12_fitsAll_83 {d : Nat} {l0 l1 l2 l3 l4 l6 l7 : Option Value} {v0 v1 v2 v3 v4 : Value} {x : Int32} {m : jmM} {Q : Option Value → jmM → Prop} : AW d 285 83 [l0, l1, l2, l3, l4, some (.int x), l6, l7] [v0, v1, v2, v3, v4] m Q ↔ AW d 285 85 [l0, l1, l2, l3, l4, some (.int x), l6, l7] [.int x, v0, v1, v2, v3, v4] m Q := A_iload hB_X12_fitsAll dX12_fitsAll_83 rfl
theorem dX12_fitsAll_85 : decode cX12_fitsAll 85 = .ok (.invokevirtual 388, 3) := by decide +kernel
theorem tX12_fitsAll_85 {d : Nat} {l0 l1 l2 l3 l4 l5 l6 l7 : Option Value} {v3 v4 v5 : Value} {y0 y1 : Value} {a : Nat} {m : jmM} {Q : Option Value → jmM → Prop} : AW d 285 85 [l0, l1, l2, l3, l4, l5, l6, l7] [y0, y1, .ref a, v3, v4, v5] m Q ↔ (mS m a).1 = 12 ∧ CC d 257 [.ref a, y1, y0] m (jK d 285 88 [l0, l1, l2, l3, l4, l5, l6, l7] [v3, v4, v5] Q) := A_callV hB_X12_fitsAll dX12_fitsAll_85 hO_X12_fitsAll fS_12_388 ⟨Nat.le_of_ble_eq_true rfl, Nat.le_of_ble_eq_true rfl⟩ rfl rfl rfl
theorem dX12_fitsAll_88 : decode cX12_fitsAll 88 = .ok (.invokevirtual 451, 3) := by decide +kernel
theorem tX12_fitsAll_88 {d : Nat} {l0 l1 l2 l3 l4 l5 l6 l7 : Option Value} {y0 y1 y2 : Value} {a : Nat} {m : jmM} {Q : Option Value → jmM → Prop} : AW d 285 88 [l0, l1, l2, l3, l4, l5, l6, l7] [y0, y1, y2, .ref a] m Q ↔ (mS m a).1 = 12 ∧ CC d 284 [.ref a, y2, y1, y0] m (jK d 285 91 [l0, l1, l2, l3, l4, l5, l6, l7] [] Q) := A_callV hB_X12_fitsAll dX12_fitsAll_88 hO_X12_fitsAll fS_12_451 ⟨Nat.le_of_ble_eq_true rfl, Nat.le_of_ble_eq_true rfl⟩ rfl rfl rfl
theorem dX12_fitsAll_91 : decode cX12_fitsAll 91 = .ok (.ifCond .ne 5, 3) := by decide +kernel
theorem tX12_fitsAll_91 {d : Nat} {l0 l1 l2 l3 l4 l5 l6 l7 : Option Value} {x : Int32} {m : jmM} {Q : Option Value → jmM → Prop} : AW d 285 91 [l0, l1, l2, l3, l4, l5, l6, l7] [.int x] m Q ↔ if x = 0 then AW d 285 94 [l0, l1, l2, l3, l4, l5, l6, l7] [] m Q else AW d 285 96 [l0, l1, l2, l3, l4, l5, l6, l7] [] m Q := A_if_ne hB_X12_fitsAll dX12_fitsAll_91 (by decide)
theorem dX12_fitsAll_94 : decode cX12_fitsAll 94 = .ok (.iconst 0, 1) := by decide +kernel
theorem tX12_fitsAll_94 {d : Nat} {l0 l1 l2 l3 l4 l5 l6 l7 : Option Value} {m : jmM} {Q : Option Value → jmM → Prop} : AW d 285 94 [l0, l1, l2, l3, l4, l5, l6, l7] [] m Q ↔ AW d 285 95 [l0, l1, l2, l3, l4, l5, l6, l7] [.int 0] m Q := A_iconst hB_X12_fitsAll dX12_fitsAll_94 (by decide)
theorem dX12_fitsAll_95 : decode cX12_fitsAll 95 = .ok (.ireturn, 1) := by decide +kernel
theorem tX12_fitsAll_95 {d : Nat} {l0 l1 l2 l3 l4 l5 l6 l7 : Option Value} {x : Int32} {m : jmM} {Q : Option Value → jmM → Prop} : AW d 285 95 [l0, l1, l2, l3, l4, l5, l6, l7] [.int x] m Q ↔ jBool x ∧ Q (some (.int x)) m := A_zreturn hB_X12_fitsAll dX12_fitsAll_95 hR_X12_fitsAll
theorem dX12_fitsAll_96 : decode cX12_fitsAll 96 = .ok (.iinc 5 1, 3) := by decide +kernel
theorem tX12_fitsAll_96 {d : Nat} {l0 l1 l2 l3 l4 l6 l7 : Option Value} {x : Int32} {m : jmM} {Q : Option Value → jmM → Prop} : AW d 285 96 [l0, l1, l2, l3, l4, some (.int x), l6, l7] [] m Q ↔ AW d 285 99 [l0, l1, l2, l3, jc1 l4, some (.int (x + 1)), l6, l7] [] m Q := A_iinc hB_X12_fitsAll dX12_fitsAll_96 rfl (Nat.le_of_ble_eq_true rfl) (v := 1) (by decide) rfl
theorem dX12_fitsAll_99 : decode cX12_fitsAll 99 = .ok (.goto (-88), 3) := by decide +kernel
theorem tX12_fitsAll_99 {d : Nat} {l0 l1 l2 l3 l4 l5 l6 l7 : Option Value} {m : jmM} {Q : Option Value → jmM → Prop} : AW d 285 99 [l0, l1, l2, l3, l4, l5, l6, l7] [] m Q ↔ AW d 285 11 [l0, l1, l2, l3, l4, l5, l6, l7] [] m Q := A_goto hB_X12_fitsAll dX12_fitsAll_99 (by decide)
theorem dX12_fitsAll_102 : decode cX12_fitsAll 102 = .ok (.iconst 1, 1) := by decide +kernel
theorem tX12_fitsAll_102 {d : Nat} {l0 l1 l2 l3 l4 l5 l6 l7 : Option Value} {m : jmM} {Q : Option Value → jmM → Prop} : AW d 285 102 [l0, l1, l2, l3, l4, l5, l6, l7] [] m Q ↔ AW d 285 103 [l0, l1, l2, l3, l4, l5, l6, l7] [.int 1] m Q := A_iconst hB_X12_fitsAll dX12_fitsAll_102 (by decide)
theorem dX12_fitsAll_103 : decode cX12_fitsAll 103 = .ok (.ireturn, 1) := by decide +kernel
theorem tX12_fitsAll_103 {d : Nat} {l0 l1 l2 l3 l4 l5 l6 l7 : Option Value} {x : Int32} {m : jmM} {Q : Option Value → jmM → Prop} : AW d 285 103 [l0, l1, l2, l3, l4, l5, l6, l7] [.int x] m Q ↔ jBool x ∧ Q (some (.int x)) m := A_zreturn hB_X12_fitsAll dX12_fitsAll_103 hR_X12_fitsAll
theorem hB_X12_span : jB 286 = cX12_span := rfl
theorem hO_X12_span : jO 286 = 12 := rfl
theorem hR_X12_span : jRt 286 = (some .int) := rfl
theorem nX12_span (d : Nat) (x0 : Nat) (x1 : Int32) (x2 : Int32) (m : jmM) (Q : Option Value → jmM → Prop) : CC (d + 1) 286 [.ref x0, .int x1, .int x2] m Q ↔ AW d 286 0 [some (.ref x0), some (.int x1), some (.int x2), none, none, none, none] [] m Q := CC_body (Nat.le_of_ble_eq_true rfl)
theorem dX12_span_0 : decode cX12_span 0 = .ok (.aload_n 0, 1) := by decide +kernel
theorem tX12_span_0 {d : Nat} {l1 l2 l3 l4 l5 l6 : Option Value} {x : Nat} {m : jmM} {Q : Option Value → jmM → Prop} : AW d 286 0 [some (.ref x), l1, l2, l3, l4, l5, l6] [] m Q ↔ AW d 286 1 [some (.ref x), l1, l2, l3, l4, l5, l6] [.ref x] m Q := A_aload_n hB_X12_span dX12_span_0 rfl
theorem dX12_span_1 : decode cX12_span 1 = .ok (.getfield 51, 3) := by decide +kernel
theorem tX12_span_1 {d : Nat} {l0 l1 l2 l3 l4 l5 l6 : Option Value} {a : Nat} {m : jmM} {Q : Option Value → jmM → Prop} : AW d 286 1 [l0, l1, l2, l3, l4, l5, l6] [.ref a] m Q ↔ (mS m a).1 = 12 ∧ AW d 286 4 [l0, l1, l2, l3, l4, l5, l6] [va_rf (mR m a 25)] m Q := A_getfield (f := fun m a => va_rf (mR m a 25)) hB_X12_span dX12_span_1 hO_X12_span fF_12_51 rfl
theorem dX12_span_4 : decode cX12_span 4 = .ok (.iconst 0, 1) := by decide +kernel
theorem tX12_span_4 {d : Nat} {l0 l1 l2 l3 l4 l5 l6 : Option Value} {v0 : Value} {m : jmM} {Q : Option Value → jmM → Prop} : AW d 286 4 [l0, l1, l2, l3, l4, l5, l6] [v0] m Q ↔ AW d 286 5 [l0, l1, l2, l3, l4, l5, l6] [.int 0, v0] m Q := A_iconst hB_X12_span dX12_span_4 (by decide)
theorem dX12_span_5 : decode cX12_span 5 = .ok (.iaload, 1) := by decide +kernel
theorem tX12_span_5 {d : Nat} {l0 l1 l2 l3 l4 l5 l6 : Option Value} {i : Int32} {a : Nat} {m : jmM} {Q : Option Value → jmM → Prop} : AW d 286 5 [l0, l1, l2, l3, l4, l5, l6] [.int i, .ref a] m Q ↔ (((mS m a).1 = 20 ∨ a = jScr) ∧ jIx i (mS m a).2) ∧ AW d 286 6 [l0, l1, l2, l3, l4, l5, l6] [.int (mI m a (jx i))] m Q := A_iaload hB_X12_span dX12_span_5
theorem dX12_span_6 : decode cX12_span 6 = .ok (.ifCond .eq 27, 3) := by decide +kernel
theorem tX12_span_6 {d : Nat} {l0 l1 l2 l3 l4 l5 l6 : Option Value} {x : Int32} {m : jmM} {Q : Option Value → jmM → Prop} : AW d 286 6 [l0, l1, l2, l3, l4, l5, l6] [.int x] m Q ↔ if x = 0 then AW d 286 33 [l0, l1, l2, l3, l4, l5, l6] [] m Q else AW d 286 9 [l0, l1, l2, l3, l4, l5, l6] [] m Q := A_if_eq hB_X12_span dX12_span_6 (by decide)
theorem dX12_span_9 : decode cX12_span 9 = .ok (.iload_n 1, 1) := by decide +kernel
theorem tX12_span_9 {d : Nat} {l0 l2 l3 l4 l5 l6 : Option Value} {x : Int32} {m : jmM} {Q : Option Value → jmM → Prop} : AW d 286 9 [l0, some (.int x), l2, l3, l4, l5, l6] [] m Q ↔ AW d 286 10 [l0, some (.int x), l2, l3, l4, l5, l6] [.int x] m Q := A_iload_n hB_X12_span dX12_span_9 rfl
theorem dX12_span_10 : decode cX12_span 10 = .ok (.i2l, 1) := by decide +kernel
theorem tX12_span_10 {d : Nat} {l0 l1 l2 l3 l4 l5 l6 : Option Value} {x : Int32} {m : jmM} {Q : Option Value → jmM → Prop} : AW d 286 10 [l0, l1, l2, l3, l4, l5, l6] [.int x] m Q ↔ AW d 286 11 [l0, l1, l2, l3, l4, l5, l6] [.long x.toInt64] m Q := A_i2l hB_X12_span dX12_span_10
theorem dX12_span_11 : decode cX12_span 11 = .ok (.lconst 0, 1) := by decide +kernel
theorem tX12_span_11 {d : Nat} {l0 l1 l2 l3 l4 l5 l6 : Option Value} {v0 : Value} {m : jmM} {Q : Option Value → jmM → Prop} : AW d 286 11 [l0, l1, l2, l3, l4, l5, l6] [v0] m Q ↔ AW d 286 12 [l0, l1, l2, l3, l4, l5, l6] [.long 0, v0] m Q := A_lconst hB_X12_span dX12_span_11 (by decide)
theorem dX12_span_12 : decode cX12_span 12 = .ok (.ldc2_w 279, 3) := by decide +kernel
theorem tX12_span_12 {d : Nat} {l0 l1 l2 l3 l4 l5 l6 : Option Value} {v0 v1 : Value} {m : jmM} {Q : Option Value → jmM → Prop} : AW d 286 12 [l0, l1, l2, l3, l4, l5, l6] [v0, v1] m Q ↔ AW d 286 15 [l0, l1, l2, l3, l4, l5, l6] [.long 5, v0, v1] m Q := A_ldc2_w hB_X12_span dX12_span_12 hO_X12_span fL2_12_279
theorem dX12_span_15 : decode cX12_span 15 = .ok (.invokestatic 281, 3) := by decide +kernel
theorem tX12_span_15 {d : Nat} {l0 l1 l2 l3 l4 l5 l6 : Option Value} {y0 y1 y2 : Value} {m : jmM} {Q : Option Value → jmM → Prop} : AW d 286 15 [l0, l1, l2, l3, l4, l5, l6] [y0, y1, y2] m Q ↔ CC d 189 [y2, y1, y0] m (jK d 286 18 [l0, l1, l2, l3, l4, l5, l6] [] Q) := A_callS0 hB_X12_span dX12_span_15 hO_X12_span fS_12_281 ⟨Nat.le_of_ble_eq_true rfl, Nat.le_of_ble_eq_true rfl⟩ rfl rfl
theorem dX12_span_18 : decode cX12_span 18 = .ok (.ifCond .eq 15, 3) := by decide +kernel
theorem tX12_span_18 {d : Nat} {l0 l1 l2 l3 l4 l5 l6 : Option Value} {x : Int32} {m : jmM} {Q : Option Value → jmM → Prop} : AW d 286 18 [l0, l1, l2, l3, l4, l5, l6] [.int x] m Q ↔ if x = 0 then AW d 286 33 [l0, l1, l2, l3, l4, l5, l6] [] m Q else AW d 286 21 [l0, l1, l2, l3, l4, l5, l6] [] m Q := A_if_eq hB_X12_span dX12_span_18 (by decide)
theorem dX12_span_21 : decode cX12_span 21 = .ok (.iload_n 2, 1) := by decide +kernel
theorem tX12_span_21 {d : Nat} {l0 l1 l3 l4 l5 l6 : Option Value} {x : Int32} {m : jmM} {Q : Option Value → jmM → Prop} : AW d 286 21 [l0, l1, some (.int x), l3, l4, l5, l6] [] m Q ↔ AW d 286 22 [l0, l1, some (.int x), l3, l4, l5, l6] [.int x] m Q := A_iload_n hB_X12_span dX12_span_21 rfl
theorem dX12_span_22 : decode cX12_span 22 = .ok (.i2l, 1) := by decide +kernel
theorem tX12_span_22 {d : Nat} {l0 l1 l2 l3 l4 l5 l6 : Option Value} {x : Int32} {m : jmM} {Q : Option Value → jmM → Prop} : AW d 286 22 [l0, l1, l2, l3, l4, l5, l6] [.int x] m Q ↔ AW d 286 23 [l0, l1, l2, l3, l4, l5, l6] [.long x.toInt64] m Q := A_i2l hB_X12_span dX12_span_22
theorem dX12_span_23 : decode cX12_span 23 = .ok (.lconst 0, 1) := by decide +kernel
theorem tX12_span_23 {d : Nat} {l0 l1 l2 l3 l4 l5 l6 : Option Value} {v0 : Value} {m : jmM} {Q : Option Value → jmM → Prop} : AW d 286 23 [l0, l1, l2, l3, l4, l5, l6] [v0] m Q ↔ AW d 286 24 [l0, l1, l2, l3, l4, l5, l6] [.long 0, v0] m Q := A_lconst hB_X12_span dX12_span_23 (by decide)
theorem dX12_span_24 : decode cX12_span 24 = .ok (.ldc2_w 323, 3) := by decide +kernel
theorem tX12_span_24 {d : Nat} {l0 l1 l2 l3 l4 l5 l6 : Option Value} {v0 v1 : Value} {m : jmM} {Q : Option Value → jmM → Prop} : AW d 286 24 [l0, l1, l2, l3, l4, l5, l6] [v0, v1] m Q ↔ AW d 286 27 [l0, l1, l2, l3, l4, l5, l6] [.long 2, v0, v1] m Q := A_ldc2_w hB_X12_span dX12_span_24 hO_X12_span fL2_12_323
theorem dX12_span_27 : decode cX12_span 27 = .ok (.invokestatic 281, 3) := by decide +kernel
theorem tX12_span_27 {d : Nat} {l0 l1 l2 l3 l4 l5 l6 : Option Value} {y0 y1 y2 : Value} {m : jmM} {Q : Option Value → jmM → Prop} : AW d 286 27 [l0, l1, l2, l3, l4, l5, l6] [y0, y1, y2] m Q ↔ CC d 189 [y2, y1, y0] m (jK d 286 30 [l0, l1, l2, l3, l4, l5, l6] [] Q) := A_callS0 hB_X12_span dX12_span_27 hO_X12_span fS_12_281 ⟨Nat.le_of_ble_eq_true rfl, Nat.le_of_ble_eq_true rfl⟩ rfl rfl
theorem dX12_span_30 : decode cX12_span 30 = .ok (.ifCond .ne 5, 3) := by decide +kernel
theorem tX12_span_30 {d : Nat} {l0 l1 l2 l3 l4 l5 l6 : Option Value} {x : Int32} {m : jmM} {Q : Option Value → jmM → Prop} : AW d 286 30 [l0, l1, l2, l3, l4, l5, l6] [.int x] m Q ↔ if x = 0 then AW d 286 33 [l0, l1, l2, l3, l4, l5, l6] [] m Q else AW d 286 35 [l0, l1, l2, l3, l4, l5, l6] [] m Q := A_if_ne hB_X12_span dX12_span_30 (by decide)
theorem dX12_span_33 : decode cX12_span 33 = .ok (.iconst (-1), 1) := by decide +kernel
theorem tX12_span_33 {d : Nat} {l0 l1 l2 l3 l4 l5 l6 : Option Value} {m : jmM} {Q : Option Value → jmM → Prop} : AW d 286 33 [l0, l1, l2, l3, l4, l5, l6] [] m Q ↔ AW d 286 34 [l0, l1, l2, l3, l4, l5, l6] [.int (-1)] m Q := A_iconst hB_X12_span dX12_span_33 (by decide)
theorem dX12_span_34 : decode cX12_span 34 = .ok (.ireturn, 1) := by decide +kernel
theorem tX12_span_34 {d : Nat} {l0 l1 l2 l3 l4 l5 l6 : Option Value} {x : Int32} {m : jmM} {Q : Option Value → jmM → Prop} : AW d 286 34 [l0, l1, l2, l3, l4, l5, l6] [.int x] m Q ↔ Q (some (.int x)) m := A_ireturn hB_X12_span dX12_span_34 hR_X12_span
theorem dX12_span_35 : decode cX12_span 35 = .ok (.bipush (-2), 2) := by decide +kernel
theorem tX12_span_35 {d : Nat} {l0 l1 l2 l3 l4 l5 l6 : Option Value} {m : jmM} {Q : Option Value → jmM → Prop} : AW d 286 35 [l0, l1, l2, l3, l4, l5, l6] [] m Q ↔ AW d 286 37 [l0, l1, l2, l3, l4, l5, l6] [.int (-2)] m Q := A_bipush hB_X12_span dX12_span_35 rfl
theorem dX12_span_37 : decode cX12_span 37 = .ok (.istore_n 3, 1) := by decide +kernel
theorem tX12_span_37 {d : Nat} {l0 l1 l2 l3 l4 l5 l6 : Option Value} {x : Int32} {m : jmM} {Q : Option Value → jmM → Prop} : AW d 286 37 [l0, l1, l2, l3, l4, l5, l6] [.int x] m Q ↔ AW d 286 38 [l0, l1, jc1 l2, some (.int x), l4, l5, l6] [] m Q := A_istore_n hB_X12_span dX12_span_37 (Nat.le_of_ble_eq_true rfl) rfl
theorem dX12_span_38 : decode cX12_span 38 = .ok (.bipush (-2), 2) := by decide +kernel
theorem tX12_span_38 {d : Nat} {l0 l1 l2 l3 l4 l5 l6 : Option Value} {m : jmM} {Q : Option Value → jmM → Prop} : AW d 286 38 [l0, l1, l2, l3, l4, l5, l6] [] m Q ↔ AW d 286 40 [l0, l1, l2, l3, l4, l5, l6] [.int (-2)] m Q := A_bipush hB_X12_span dX12_span_38 rfl
theorem dX12_span_40 : decode cX12_span 40 = .ok (.istore 4, 2) := by decide +kernel
theorem tX12_span_40 {d : Nat} {l0 l1 l2 l3 l4 l5 l6 : Option Value} {x : Int32} {m : jmM} {Q : Option Value → jmM → Prop} : AW d 286 40 [l0, l1, l2, l3, l4, l5, l6] [.int x] m Q ↔ AW d 286 42 [l0, l1, l2, jc1 l3, some (.int x), l5, l6] [] m Q := A_istore hB_X12_span dX12_span_40 (Nat.le_of_ble_eq_true rfl) rfl
theorem dX12_span_42 : decode cX12_span 42 = .ok (.iconst 0, 1) := by decide +kernel
theorem tX12_span_42 {d : Nat} {l0 l1 l2 l3 l4 l5 l6 : Option Value} {m : jmM} {Q : Option Value → jmM → Prop} : AW d 286 42 [l0, l1, l2, l3, l4, l5, l6] [] m Q ↔ AW d 286 43 [l0, l1, l2, l3, l4, l5, l6] [.int 0] m Q := A_iconst hB_X12_span dX12_span_42 (by decide)
theorem dX12_span_43 : decode cX12_span 43 = .ok (.istore 5, 2) := by decide +kernel
theorem tX12_span_43 {d : Nat} {l0 l1 l2 l3 l4 l5 l6 : Option Value} {x : Int32} {m : jmM} {Q : Option Value → jmM → Prop} : AW d 286 43 [l0, l1, l2, l3, l4, l5, l6] [.int x] m Q ↔ AW d 286 45 [l0, l1, l2, l3, jc1 l4, some (.int x), l6] [] m Q := A_istore hB_X12_span dX12_span_43 (Nat.le_of_ble_eq_true rfl) rfl
theorem dX12_span_45 : decode cX12_span 45 = .ok (.iconst 0, 1) := by decide +kernel
theorem tX12_span_45 {d : Nat} {l0 l1 l2 l3 l4 l5 l6 : Option Value} {m : jmM} {Q : Option Value → jmM → Prop} : AW d 286 45 [l0, l1, l2, l3, l4, l5, l6] [] m Q ↔ AW d 286 46 [l0, l1, l2, l3, l4, l5, l6] [.int 0] m Q := A_iconst hB_X12_span dX12_span_45 (by decide)
theorem dX12_span_46 : decode cX12_span 46 = .ok (.istore 6, 2) := by decide +kernel
theorem tX12_span_46 {d : Nat} {l0 l1 l2 l3 l4 l5 l6 : Option Value} {x : Int32} {m : jmM} {Q : Option Value → jmM → Prop} : AW d 286 46 [l0, l1, l2, l3, l4, l5, l6] [.int x] m Q ↔ AW d 286 48 [l0, l1, l2, l3, l4, jc1 l5, some (.int x)] [] m Q := A_istore hB_X12_span dX12_span_46 (Nat.le_of_ble_eq_true rfl) rfl
theorem dX12_span_48 : decode cX12_span 48 = .ok (.iload 6, 2) := by decide +kernel
theorem tX12_span_48 {d : Nat} {l0 l1 l2 l3 l4 l5 : Option Value} {x : Int32} {m : jmM} {Q : Option Value → jmM → Prop} : AW d 286 48 [l0, l1, l2, l3, l4, l5, some (.int x)] [] m Q ↔ AW d 286 50 [l0, l1, l2, l3, l4, l5, some (.int x)] [.int x] m Q := A_iload hB_X12_span dX12_span_48 rfl
theorem dX12_span_50 : decode cX12_span 50 = .ok (.sipush 2000, 3) := by decide +kernel
theorem tX12_span_50 {d : Nat} {l0 l1 l2 l3 l4 l5 l6 : Option Value} {v0 : Value} {m : jmM} {Q : Option Value → jmM → Prop} : AW d 286 50 [l0, l1, l2, l3, l4, l5, l6] [v0] m Q ↔ AW d 286 53 [l0, l1, l2, l3, l4, l5, l6] [.int 2000, v0] m Q := A_sipush hB_X12_span dX12_span_50 rfl
theorem dX12_span_53 : decode cX12_span 53 = .ok (.if_icmp .gt 41, 3) := by decide +kernel
theorem tX12_span_53 {d : Nat} {l0 l1 l2 l3 l4 l5 l6 : Option Value} {x y : Int32} {m : jmM} {Q : Option Value → jmM → Prop} : AW d 286 53 [l0, l1, l2, l3, l4, l5, l6] [.int y, .int x] m Q ↔ if y < x then AW d 286 94 [l0, l1, l2, l3, l4, l5, l6] [] m Q else AW d 286 56 [l0, l1, l2, l3, l4, l5, l6] [] m Q := A_icmp_gt hB_X12_span dX12_span_53 (by decide)
theorem dX12_span_56 : decode cX12_span 56 = .ok (.aload_n 0, 1) := by decide +kernel
theorem tX12_span_56 {d : Nat} {l1 l2 l3 l4 l5 l6 : Option Value} {x : Nat} {m : jmM} {Q : Option Value → jmM → Prop} : AW d 286 56 [some (.ref x), l1, l2, l3, l4, l5, l6] [] m Q ↔ AW d 286 57 [some (.ref x), l1, l2, l3, l4, l5, l6] [.ref x] m Q := A_aload_n hB_X12_span dX12_span_56 rfl
theorem dX12_span_57 : decode cX12_span 57 = .ok (.iload_n 1, 1) := by decide +kernel
theorem tX12_span_57 {d : Nat} {l0 l2 l3 l4 l5 l6 : Option Value} {v0 : Value} {x : Int32} {m : jmM} {Q : Option Value → jmM → Prop} : AW d 286 57 [l0, some (.int x), l2, l3, l4, l5, l6] [v0] m Q ↔ AW d 286 58 [l0, some (.int x), l2, l3, l4, l5, l6] [.int x, v0] m Q := A_iload_n hB_X12_span dX12_span_57 rfl
theorem dX12_span_58 : decode cX12_span 58 = .ok (.iload 6, 2) := by decide +kernel
theorem tX12_span_58 {d : Nat} {l0 l1 l2 l3 l4 l5 : Option Value} {v0 v1 : Value} {x : Int32} {m : jmM} {Q : Option Value → jmM → Prop} : AW d 286 58 [l0, l1, l2, l3, l4, l5, some (.int x)] [v0, v1] m Q ↔ AW d 286 60 [l0, l1, l2, l3, l4, l5, some (.int x)] [.int x, v0, v1] m Q := A_iload hB_X12_span dX12_span_58 rfl
theorem dX12_span_60 : decode cX12_span 60 = .ok (.invokevirtual 455, 3) := by decide +kernel
theorem tX12_span_60 {d : Nat} {l0 l1 l2 l3 l4 l5 l6 : Option Value} {y0 y1 : Value} {a : Nat} {m : jmM} {Q : Option Value → jmM → Prop} : AW d 286 60 [l0, l1, l2, l3, l4, l5, l6] [y0, y1, .ref a] m Q ↔ (mS m a).1 = 12 ∧ CC d 285 [.ref a, y1, y0] m (jK d 286 63 [l0, l1, l2, l3, l4, l5, l6] [] Q) := A_callV hB_X12_span dX12_span_60 hO_X12_span fS_12_455 ⟨Nat.le_of_ble_eq_true rfl, Nat.le_of_ble_eq_true rfl⟩ rfl rfl rfl
theorem dX12_span_63 : decode cX12_span 63 = .ok (.ifCond .ne 6, 3) := by decide +kernel
theorem tX12_span_63 {d : Nat} {l0 l1 l2 l3 l4 l5 l6 : Option Value} {x : Int32} {m : jmM} {Q : Option Value → jmM → Prop} : AW d 286 63 [l0, l1, l2, l3, l4, l5, l6] [.int x] m Q ↔ if x = 0 then AW d 286 66 [l0, l1, l2, l3, l4, l5, l6] [] m Q else AW d 286 69 [l0, l1, l2, l3, l4, l5, l6] [] m Q := A_if_ne hB_X12_span dX12_span_63 (by decide)
theorem dX12_span_66 : decode cX12_span 66 = .ok (.goto 22, 3) := by decide +kernel
theorem tX12_span_66 {d : Nat} {l0 l1 l2 l3 l4 l5 l6 : Option Value} {m : jmM} {Q : Option Value → jmM → Prop} : AW d 286 66 [l0, l1, l2, l3, l4, l5, l6] [] m Q ↔ AW d 286 88 [l0, l1, l2, l3, l4, l5, l6] [] m Q := A_goto hB_X12_span dX12_span_66 (by decide)
theorem dX12_span_69 : decode cX12_span 69 = .ok (.iload 5, 2) := by decide +kernel
theorem tX12_span_69 {d : Nat} {l0 l1 l2 l3 l4 l6 : Option Value} {x : Int32} {m : jmM} {Q : Option Value → jmM → Prop} : AW d 286 69 [l0, l1, l2, l3, l4, some (.int x), l6] [] m Q ↔ AW d 286 71 [l0, l1, l2, l3, l4, some (.int x), l6] [.int x] m Q := A_iload hB_X12_span dX12_span_69 rfl
theorem dX12_span_71 : decode cX12_span 71 = .ok (.ifCond .ne 8, 3) := by decide +kernel
theorem tX12_span_71 {d : Nat} {l0 l1 l2 l3 l4 l5 l6 : Option Value} {x : Int32} {m : jmM} {Q : Option Value → jmM → Prop} : AW d 286 71 [l0, l1, l2, l3, l4, l5, l6] [.int x] m Q ↔ if x = 0 then AW d 286 74 [l0, l1, l2, l3, l4, l5, l6] [] m Q else AW d 286 79 [l0, l1, l2, l3, l4, l5, l6] [] m Q := A_if_ne hB_X12_span dX12_span_71 (by decide)
theorem dX12_span_74 : decode cX12_span 74 = .ok (.iload 6, 2) := by decide +kernel
theorem tX12_span_74 {d : Nat} {l0 l1 l2 l3 l4 l5 : Option Value} {x : Int32} {m : jmM} {Q : Option Value → jmM → Prop} : AW d 286 74 [l0, l1, l2, l3, l4, l5, some (.int x)] [] m Q ↔ AW d 286 76 [l0, l1, l2, l3, l4, l5, some (.int x)] [.int x] m Q := A_iload hB_X12_span dX12_span_74 rfl
theorem dX12_span_76 : decode cX12_span 76 = .ok (.goto 4, 3) := by decide +kernel
theorem tX12_span_76 {d : Nat} {l0 l1 l2 l3 l4 l5 l6 : Option Value} {v0 : Value} {m : jmM} {Q : Option Value → jmM → Prop} : AW d 286 76 [l0, l1, l2, l3, l4, l5, l6] [v0] m Q ↔ AW d 286 80 [l0, l1, l2, l3, l4, l5, l6] [v0] m Q := A_goto hB_X12_span dX12_span_76 (by decide)
theorem dX12_span_79 : decode cX12_span 79 = .ok (.iload_n 3, 1) := by decide +kernel
theorem tX12_span_79 {d : Nat} {l0 l1 l2 l4 l5 l6 : Option Value} {x : Int32} {m : jmM} {Q : Option Value → jmM → Prop} : AW d 286 79 [l0, l1, l2, some (.int x), l4, l5, l6] [] m Q ↔ AW d 286 80 [l0, l1, l2, some (.int x), l4, l5, l6] [.int x] m Q := A_iload_n hB_X12_span dX12_span_79 rfl
theorem dX12_span_80 : decode cX12_span 80 = .ok (.istore_n 3, 1) := by decide +kernel
theorem tX12_span_80 {d : Nat} {l0 l1 l2 l3 l4 l5 l6 : Option Value} {x : Int32} {m : jmM} {Q : Option Value → jmM → Prop} : AW d 286 80 [l0, l1, l2, l3, l4, l5, l6] [.int x] m Q ↔ AW d 286 81 [l0, l1, jc1 l2, some (.int x), l4, l5, l6] [] m Q := A_istore_n hB_X12_span dX12_span_80 (Nat.le_of_ble_eq_true rfl) rfl
theorem dX12_span_81 : decode cX12_span 81 = .ok (.iload 6, 2) := by decide +kernel
theorem tX12_span_81 {d : Nat} {l0 l1 l2 l3 l4 l5 : Option Value} {x : Int32} {m : jmM} {Q : Option Value → jmM → Prop} : AW d 286 81 [l0, l1, l2, l3, l4, l5, some (.int x)] [] m Q ↔ AW d 286 83 [l0, l1, l2, l3, l4, l5, some (.int x)] [.int x] m Q := A_iload hB_X12_span dX12_span_81 rfl
theorem dX12_span_83 : decode cX12_span 83 = .ok (.istore 4, 2) := by decide +kernel
theorem tX12_span_83 {d : Nat} {l0 l1 l2 l3 l4 l5 l6 : Option Value} {x : Int32} {m : jmM} {Q : Option Value → jmM → Prop} : AW d 286 83 [l0, l1, l2, l3, l4, l5, l6] [.int x] m Q ↔ AW d 286 85 [l0, l1, l2, jc1 l3, some (.int x), l5, l6] [] m Q := A_istore hB_X12_span dX12_span_83 (Nat.le_of_ble_eq_true rfl) rfl
theorem dX12_span_85 : decode cX12_span 85 = .ok (.iinc 5 1, 3) := by decide +kernel
theorem tX12_span_85 {d : Nat} {l0 l1 l2 l3 l4 l6 : Option Value} {x : Int32} {m : jmM} {Q : Option Value → jmM → Prop} : AW d 286 85 [l0, l1, l2, l3, l4, some (.int x), l6] [] m Q ↔ AW d 286 88 [l0, l1, l2, l3, jc1 l4, some (.int (x + 1)), l6] [] m Q := A_iinc hB_X12_span dX12_span_85 rfl (Nat.le_of_ble_eq_true rfl) (v := 1) (by decide) rfl
theorem dX12_span_88 : decode cX12_span 88 = .ok (.iinc 6 1, 3) := by decide +kernel
theorem tX12_span_88 {d : Nat} {l0 l1 l2 l3 l4 l5 : Option Value} {x : Int32} {m : jmM} {Q : Option Value → jmM → Prop} : AW d 286 88 [l0, l1, l2, l3, l4, l5, some (.int x)] [] m Q ↔ AW d 286 91 [l0, l1, l2, l3, l4, jc1 l5, some (.int (x + 1))] [] m Q := A_iinc hB_X12_span dX12_span_88 rfl (Nat.le_of_ble_eq_true rfl) (v := 1) (by decide) rfl
theorem dX12_span_91 : decode cX12_span 91 = .ok (.goto (-43), 3) := by decide +kernel
theorem tX12_span_91 {d : Nat} {l0 l1 l2 l3 l4 l5 l6 : Option Value} {m : jmM} {Q : Option Value → jmM → Prop} : AW d 286 91 [l0, l1, l2, l3, l4, l5, l6] [] m Q ↔ AW d 286 48 [l0, l1, l2, l3, l4, l5, l6] [] m Q := A_goto hB_X12_span dX12_span_91 (by decide)
theorem dX12_span_94 : decode cX12_span 94 = .ok (.iload_n 2, 1) := by decide +kernel
theorem tX12_span_94 {d : Nat} {l0 l1 l3 l4 l5 l6 : Option Value} {x : Int32} {m : jmM} {Q : Option Value → jmM → Prop} : AW d 286 94 [l0, l1, some (.int x), l3, l4, l5, l6] [] m Q ↔ AW d 286 95 [l0, l1, some (.int x), l3, l4, l5, l6] [.int x] m Q := A_iload_n hB_X12_span dX12_span_94 rfl
theorem dX12_span_95 : decode cX12_span 95 = .ok (.ifCond .ne 7, 3) := by decide +kernel
theorem tX12_span_95 {d : Nat} {l0 l1 l2 l3 l4 l5 l6 : Option Value} {x : Int32} {m : jmM} {Q : Option Value → jmM → Prop} : AW d 286 95 [l0, l1, l2, l3, l4, l5, l6] [.int x] m Q ↔ if x = 0 then AW d 286 98 [l0, l1, l2, l3, l4, l5, l6] [] m Q else AW d 286 102 [l0, l1, l2, l3, l4, l5, l6] [] m Q := A_if_ne hB_X12_span dX12_span_95 (by decide)
theorem dX12_span_98 : decode cX12_span 98 = .ok (.iload_n 3, 1) := by decide +kernel
theorem tX12_span_98 {d : Nat} {l0 l1 l2 l4 l5 l6 : Option Value} {x : Int32} {m : jmM} {Q : Option Value → jmM → Prop} : AW d 286 98 [l0, l1, l2, some (.int x), l4, l5, l6] [] m Q ↔ AW d 286 99 [l0, l1, l2, some (.int x), l4, l5, l6] [.int x] m Q := A_iload_n hB_X12_span dX12_span_98 rfl
theorem dX12_span_99 : decode cX12_span 99 = .ok (.goto 15, 3) := by decide +kernel
theorem tX12_span_99 {d : Nat} {l0 l1 l2 l3 l4 l5 l6 : Option Value} {v0 : Value} {m : jmM} {Q : Option Value → jmM → Prop} : AW d 286 99 [l0, l1, l2, l3, l4, l5, l6] [v0] m Q ↔ AW d 286 114 [l0, l1, l2, l3, l4, l5, l6] [v0] m Q := A_goto hB_X12_span dX12_span_99 (by decide)
theorem dX12_span_102 : decode cX12_span 102 = .ok (.iload_n 2, 1) := by decide +kernel
theorem tX12_span_102 {d : Nat} {l0 l1 l3 l4 l5 l6 : Option Value} {x : Int32} {m : jmM} {Q : Option Value → jmM → Prop} : AW d 286 102 [l0, l1, some (.int x), l3, l4, l5, l6] [] m Q ↔ AW d 286 103 [l0, l1, some (.int x), l3, l4, l5, l6] [.int x] m Q := A_iload_n hB_X12_span dX12_span_102 rfl
theorem dX12_span_103 : decode cX12_span 103 = .ok (.iconst 1, 1) := by decide +kernel
theorem tX12_span_103 {d : Nat} {l0 l1 l2 l3 l4 l5 l6 : Option Value} {v0 : Value} {m : jmM} {Q : Option Value → jmM → Prop} : AW d 286 103 [l0, l1, l2, l3, l4, l5, l6] [v0] m Q ↔ AW d 286 104 [l0, l1, l2, l3, l4, l5, l6] [.int 1, v0] m Q := A_iconst hB_X12_span dX12_span_103 (by decide)
theorem dX12_span_104 : decode cX12_span 104 = .ok (.if_icmp .ne 8, 3) := by decide +kernel
theorem tX12_span_104 {d : Nat} {l0 l1 l2 l3 l4 l5 l6 : Option Value} {x y : Int32} {m : jmM} {Q : Option Value → jmM → Prop} : AW d 286 104 [l0, l1, l2, l3, l4, l5, l6] [.int y, .int x] m Q ↔ if x = y then AW d 286 107 [l0, l1, l2, l3, l4, l5, l6] [] m Q else AW d 286 112 [l0, l1, l2, l3, l4, l5, l6] [] m Q := A_icmp_ne hB_X12_span dX12_span_104 (by decide)
theorem dX12_span_107 : decode cX12_span 107 = .ok (.iload 4, 2) := by decide +kernel
theorem tX12_span_107 {d : Nat} {l0 l1 l2 l3 l5 l6 : Option Value} {x : Int32} {m : jmM} {Q : Option Value → jmM → Prop} : AW d 286 107 [l0, l1, l2, l3, some (.int x), l5, l6] [] m Q ↔ AW d 286 109 [l0, l1, l2, l3, some (.int x), l5, l6] [.int x] m Q := A_iload hB_X12_span dX12_span_107 rfl
theorem dX12_span_109 : decode cX12_span 109 = .ok (.goto 5, 3) := by decide +kernel
theorem tX12_span_109 {d : Nat} {l0 l1 l2 l3 l4 l5 l6 : Option Value} {v0 : Value} {m : jmM} {Q : Option Value → jmM → Prop} : AW d 286 109 [l0, l1, l2, l3, l4, l5, l6] [v0] m Q ↔ AW d 286 114 [l0, l1, l2, l3, l4, l5, l6] [v0] m Q := A_goto hB_X12_span dX12_span_109 (by decide)
theorem dX12_span_112 : decode cX12_span 112 = .ok (.iload 5, 2) := by decide +kernel
theorem tX12_span_112 {d : Nat} {l0 l1 l2 l3 l4 l6 : Option Value} {x : Int32} {m : jmM} {Q : Option Value → jmM → Prop} : AW d 286 112 [l0, l1, l2, l3, l4, some (.int x), l6] [] m Q ↔ AW d 286 114 [l0, l1, l2, l3, l4, some (.int x), l6] [.int x] m Q := A_iload hB_X12_span dX12_span_112 rfl
theorem dX12_span_114 : decode cX12_span 114 = .ok (.ireturn, 1) := by decide +kernel
theorem tX12_span_114 {d : Nat} {l0 l1 l2 l3 l4 l5 l6 : Option Value} {x : Int32} {m : jmM} {Q : Option Value → jmM → Prop} : AW d 286 114 [l0, l1, l2, l3, l4, l5, l6] [.int x] m Q ↔ Q (some (.int x)) m := A_ireturn hB_X12_span dX12_span_114 hR_X12_span
theorem hB_X12_coinsOf : jB 287 = cX12_coinsOf := rfl
theorem hO_X12_coinsOf : jO 287 = 12 := rfl
theorem hR_X12_coinsOf : jRt 287 = (some .int) := rfl
theorem nX12_coinsOf (d : Nat) (x0 : Nat) (x1 : Int32) (x2 : Int32) (m : jmM) (Q : Option Value → jmM → Prop) : CC (d + 1) 287 [.ref x0, .int x1, .int x2] m Q ↔ AW d 287 0 [some (.ref x0), some (.int x1), some (.int x2), none] [] m Q := CC_body (Nat.le_of_ble_eq_true rfl)
theorem dX12_coinsOf_0 : decode cX12_coinsOf 0 = .ok (.aload_n 0, 1) := by decide +kernel
theorem tX12_coinsOf_0 {d : Nat} {l1 l2 l3 : Option Value} {x : Nat} {m : jmM} {Q : Option Value → jmM → Prop} : AW d 287 0 [some (.ref x), l1, l2, l3] [] m Q ↔ AW d 287 1 [some (.ref x), l1, l2, l3] [.ref x] m Q := A_aload_n hB_X12_coinsOf dX12_coinsOf_0 rfl
theorem dX12_coinsOf_1 : decode cX12_coinsOf 1 = .ok (.iconst 4, 1) := by decide +kernel
theorem tX12_coinsOf_1 {d : Nat} {l0 l1 l2 l3 : Option Value} {v0 : Value} {m : jmM} {Q : Option Value → jmM → Prop} : AW d 287 1 [l0, l1, l2, l3] [v0] m Q ↔ AW d 287 2 [l0, l1, l2, l3] [.int 4, v0] m Q := A_iconst hB_X12_coinsOf dX12_coinsOf_1 (by decide)
theorem dX12_coinsOf_2 : decode cX12_coinsOf 2 = .ok (.invokevirtual 424, 3) := by decide +kernel
theorem tX12_coinsOf_2 {d : Nat} {l0 l1 l2 l3 : Option Value} {y0 : Value} {a : Nat} {m : jmM} {Q : Option Value → jmM → Prop} : AW d 287 2 [l0, l1, l2, l3] [y0, .ref a] m Q ↔ (mS m a).1 = 12 ∧ CC d 274 [.ref a, y0] m (jK d 287 5 [l0, l1, l2, l3] [] Q) := A_callV hB_X12_coinsOf dX12_coinsOf_2 hO_X12_coinsOf fS_12_424 ⟨Nat.le_of_ble_eq_true rfl, Nat.le_of_ble_eq_true rfl⟩ rfl rfl rfl
theorem dX12_coinsOf_5 : decode cX12_coinsOf 5 = .ok (.iload_n 1, 1) := by decide +kernel
theorem tX12_coinsOf_5 {d : Nat} {l0 l2 l3 : Option Value} {x : Int32} {m : jmM} {Q : Option Value → jmM → Prop} : AW d 287 5 [l0, some (.int x), l2, l3] [] m Q ↔ AW d 287 6 [l0, some (.int x), l2, l3] [.int x] m Q := A_iload_n hB_X12_coinsOf dX12_coinsOf_5 rfl
theorem dX12_coinsOf_6 : decode cX12_coinsOf 6 = .ok (.iconst 2, 1) := by decide +kernel
theorem tX12_coinsOf_6 {d : Nat} {l0 l1 l2 l3 : Option Value} {v0 : Value} {m : jmM} {Q : Option Value → jmM → Prop} : AW d 287 6 [l0, l1, l2, l3] [v0] m Q ↔ AW d 287 7 [l0, l1, l2, l3] [.int 2, v0] m Q := A_iconst hB_X12_coinsOf dX12_coinsOf_6 (by decide)
theorem dX12_coinsOf_7 : decode cX12_coinsOf 7 = .ok (.if_icmp .ne 25, 3) := by decide +kernel
theorem tX12_coinsOf_7 {d : Nat} {l0 l1 l2 l3 : Option Value} {x y : Int32} {m : jmM} {Q : Option Value → jmM → Prop} : AW d 287 7 [l0, l1, l2, l3] [.int y, .int x] m Q ↔ if x = y then AW d 287 10 [l0, l1, l2, l3] [] m Q else AW d 287 32 [l0, l1, l2, l3] [] m Q := A_icmp_ne hB_X12_coinsOf dX12_coinsOf_7 (by decide)
theorem dX12_coinsOf_10 : decode cX12_coinsOf 10 = .ok (.aload_n 0, 1) := by decide +kernel
theorem tX12_coinsOf_10 {d : Nat} {l1 l2 l3 : Option Value} {x : Nat} {m : jmM} {Q : Option Value → jmM → Prop} : AW d 287 10 [some (.ref x), l1, l2, l3] [] m Q ↔ AW d 287 11 [some (.ref x), l1, l2, l3] [.ref x] m Q := A_aload_n hB_X12_coinsOf dX12_coinsOf_10 rfl
theorem dX12_coinsOf_11 : decode cX12_coinsOf 11 = .ok (.invokevirtual 381, 3) := by decide +kernel
theorem tX12_coinsOf_11 {d : Nat} {l0 l1 l2 l3 : Option Value} {a : Nat} {m : jmM} {Q : Option Value → jmM → Prop} : AW d 287 11 [l0, l1, l2, l3] [.ref a] m Q ↔ (mS m a).1 = 12 ∧ CC d 246 [.ref a] m (jK d 287 14 [l0, l1, l2, l3] [] Q) := A_callV hB_X12_coinsOf dX12_coinsOf_11 hO_X12_coinsOf fS_12_381 ⟨Nat.le_of_ble_eq_true rfl, Nat.le_of_ble_eq_true rfl⟩ rfl rfl rfl
theorem dX12_coinsOf_14 : decode cX12_coinsOf 14 = .ok (.aload_n 0, 1) := by decide +kernel
theorem tX12_coinsOf_14 {d : Nat} {l1 l2 l3 : Option Value} {v0 : Value} {x : Nat} {m : jmM} {Q : Option Value → jmM → Prop} : AW d 287 14 [some (.ref x), l1, l2, l3] [v0] m Q ↔ AW d 287 15 [some (.ref x), l1, l2, l3] [.ref x, v0] m Q := A_aload_n hB_X12_coinsOf dX12_coinsOf_14 rfl
theorem dX12_coinsOf_15 : decode cX12_coinsOf 15 = .ok (.getfield 51, 3) := by decide +kernel
theorem tX12_coinsOf_15 {d : Nat} {l0 l1 l2 l3 : Option Value} {v1 : Value} {a : Nat} {m : jmM} {Q : Option Value → jmM → Prop} : AW d 287 15 [l0, l1, l2, l3] [.ref a, v1] m Q ↔ (mS m a).1 = 12 ∧ AW d 287 18 [l0, l1, l2, l3] [va_rf (mR m a 25), v1] m Q := A_getfield (f := fun m a => va_rf (mR m a 25)) hB_X12_coinsOf dX12_coinsOf_15 hO_X12_coinsOf fF_12_51 rfl
theorem dX12_coinsOf_18 : decode cX12_coinsOf 18 = .ok (.bipush 15, 2) := by decide +kernel
theorem tX12_coinsOf_18 {d : Nat} {l0 l1 l2 l3 : Option Value} {v0 v1 : Value} {m : jmM} {Q : Option Value → jmM → Prop} : AW d 287 18 [l0, l1, l2, l3] [v0, v1] m Q ↔ AW d 287 20 [l0, l1, l2, l3] [.int 15, v0, v1] m Q := A_bipush hB_X12_coinsOf dX12_coinsOf_18 rfl
theorem dX12_coinsOf_20 : decode cX12_coinsOf 20 = .ok (.iaload, 1) := by decide +kernel
theorem tX12_coinsOf_20 {d : Nat} {l0 l1 l2 l3 : Option Value} {v2 : Value} {i : Int32} {a : Nat} {m : jmM} {Q : Option Value → jmM → Prop} : AW d 287 20 [l0, l1, l2, l3] [.int i, .ref a, v2] m Q ↔ (((mS m a).1 = 20 ∨ a = jScr) ∧ jIx i (mS m a).2) ∧ AW d 287 21 [l0, l1, l2, l3] [.int (mI m a (jx i)), v2] m Q := A_iaload hB_X12_coinsOf dX12_coinsOf_20
theorem dX12_coinsOf_21 : decode cX12_coinsOf 21 = .ok (.if_icmp .ge 11, 3) := by decide +kernel
theorem tX12_coinsOf_21 {d : Nat} {l0 l1 l2 l3 : Option Value} {x y : Int32} {m : jmM} {Q : Option Value → jmM → Prop} : AW d 287 21 [l0, l1, l2, l3] [.int y, .int x] m Q ↔ if y ≤ x then AW d 287 32 [l0, l1, l2, l3] [] m Q else AW d 287 24 [l0, l1, l2, l3] [] m Q := A_icmp_ge hB_X12_coinsOf dX12_coinsOf_21 (by decide)
theorem dX12_coinsOf_24 : decode cX12_coinsOf 24 = .ok (.aload_n 0, 1) := by decide +kernel
theorem tX12_coinsOf_24 {d : Nat} {l1 l2 l3 : Option Value} {x : Nat} {m : jmM} {Q : Option Value → jmM → Prop} : AW d 287 24 [some (.ref x), l1, l2, l3] [] m Q ↔ AW d 287 25 [some (.ref x), l1, l2, l3] [.ref x] m Q := A_aload_n hB_X12_coinsOf dX12_coinsOf_24 rfl
theorem dX12_coinsOf_25 : decode cX12_coinsOf 25 = .ok (.aload_n 0, 1) := by decide +kernel
theorem tX12_coinsOf_25 {d : Nat} {l1 l2 l3 : Option Value} {v0 : Value} {x : Nat} {m : jmM} {Q : Option Value → jmM → Prop} : AW d 287 25 [some (.ref x), l1, l2, l3] [v0] m Q ↔ AW d 287 26 [some (.ref x), l1, l2, l3] [.ref x, v0] m Q := A_aload_n hB_X12_coinsOf dX12_coinsOf_25 rfl
theorem dX12_coinsOf_26 : decode cX12_coinsOf 26 = .ok (.invokevirtual 381, 3) := by decide +kernel
theorem tX12_coinsOf_26 {d : Nat} {l0 l1 l2 l3 : Option Value} {v1 : Value} {a : Nat} {m : jmM} {Q : Option Value → jmM → Prop} : AW d 287 26 [l0, l1, l2, l3] [.ref a, v1] m Q ↔ (mS m a).1 = 12 ∧ CC d 246 [.ref a] m (jK d 287 29 [l0, l1, l2, l3] [v1] Q) := A_callV hB_X12_coinsOf dX12_coinsOf_26 hO_X12_coinsOf fS_12_381 ⟨Nat.le_of_ble_eq_true rfl, Nat.le_of_ble_eq_true rfl⟩ rfl rfl rfl
theorem dX12_coinsOf_29 : decode cX12_coinsOf 29 = .ok (.invokevirtual 361, 3) := by decide +kernel
theorem tX12_coinsOf_29 {d : Nat} {l0 l1 l2 l3 : Option Value} {y0 : Value} {a : Nat} {m : jmM} {Q : Option Value → jmM → Prop} : AW d 287 29 [l0, l1, l2, l3] [y0, .ref a] m Q ↔ (mS m a).1 = 12 ∧ CC d 243 [.ref a, y0] m (jK d 287 32 [l0, l1, l2, l3] [] Q) := A_callV hB_X12_coinsOf dX12_coinsOf_29 hO_X12_coinsOf fS_12_361 ⟨Nat.le_of_ble_eq_true rfl, Nat.le_of_ble_eq_true rfl⟩ rfl rfl rfl
theorem dX12_coinsOf_32 : decode cX12_coinsOf 32 = .ok (.iload_n 1, 1) := by decide +kernel
theorem tX12_coinsOf_32 {d : Nat} {l0 l2 l3 : Option Value} {x : Int32} {m : jmM} {Q : Option Value → jmM → Prop} : AW d 287 32 [l0, some (.int x), l2, l3] [] m Q ↔ AW d 287 33 [l0, some (.int x), l2, l3] [.int x] m Q := A_iload_n hB_X12_coinsOf dX12_coinsOf_32 rfl
theorem dX12_coinsOf_33 : decode cX12_coinsOf 33 = .ok (.ifCond .le 9, 3) := by decide +kernel
theorem tX12_coinsOf_33 {d : Nat} {l0 l1 l2 l3 : Option Value} {x : Int32} {m : jmM} {Q : Option Value → jmM → Prop} : AW d 287 33 [l0, l1, l2, l3] [.int x] m Q ↔ if x ≤ 0 then AW d 287 42 [l0, l1, l2, l3] [] m Q else AW d 287 36 [l0, l1, l2, l3] [] m Q := A_if_le hB_X12_coinsOf dX12_coinsOf_33 (by decide)
theorem dX12_coinsOf_36 : decode cX12_coinsOf 36 = .ok (.aload_n 0, 1) := by decide +kernel
theorem tX12_coinsOf_36 {d : Nat} {l1 l2 l3 : Option Value} {x : Nat} {m : jmM} {Q : Option Value → jmM → Prop} : AW d 287 36 [some (.ref x), l1, l2, l3] [] m Q ↔ AW d 287 37 [some (.ref x), l1, l2, l3] [.ref x] m Q := A_aload_n hB_X12_coinsOf dX12_coinsOf_36 rfl
theorem dX12_coinsOf_37 : decode cX12_coinsOf 37 = .ok (.iload_n 2, 1) := by decide +kernel
theorem tX12_coinsOf_37 {d : Nat} {l0 l1 l3 : Option Value} {v0 : Value} {x : Int32} {m : jmM} {Q : Option Value → jmM → Prop} : AW d 287 37 [l0, l1, some (.int x), l3] [v0] m Q ↔ AW d 287 38 [l0, l1, some (.int x), l3] [.int x, v0] m Q := A_iload_n hB_X12_coinsOf dX12_coinsOf_37 rfl
theorem dX12_coinsOf_38 : decode cX12_coinsOf 38 = .ok (.invokevirtual 346, 3) := by decide +kernel
theorem tX12_coinsOf_38 {d : Nat} {l0 l1 l2 l3 : Option Value} {y0 : Value} {a : Nat} {m : jmM} {Q : Option Value → jmM → Prop} : AW d 287 38 [l0, l1, l2, l3] [y0, .ref a] m Q ↔ (mS m a).1 = 12 ∧ CC d 239 [.ref a, y0] m (jK d 287 41 [l0, l1, l2, l3] [] Q) := A_callV hB_X12_coinsOf dX12_coinsOf_38 hO_X12_coinsOf fS_12_346 ⟨Nat.le_of_ble_eq_true rfl, Nat.le_of_ble_eq_true rfl⟩ rfl rfl rfl
theorem dX12_coinsOf_41 : decode cX12_coinsOf 41 = .ok (.pop, 1) := by decide +kernel
theorem tX12_coinsOf_41 {d : Nat} {l0 l1 l2 l3 : Option Value} {x : Int32} {m : jmM} {Q : Option Value → jmM → Prop} : AW d 287 41 [l0, l1, l2, l3] [.int x] m Q ↔ AW d 287 42 [l0, l1, l2, l3] [] m Q := A_pop_i hB_X12_coinsOf dX12_coinsOf_41
theorem dX12_coinsOf_42 : decode cX12_coinsOf 42 = .ok (.aload_n 0, 1) := by decide +kernel
theorem tX12_coinsOf_42 {d : Nat} {l1 l2 l3 : Option Value} {x : Nat} {m : jmM} {Q : Option Value → jmM → Prop} : AW d 287 42 [some (.ref x), l1, l2, l3] [] m Q ↔ AW d 287 43 [some (.ref x), l1, l2, l3] [.ref x] m Q := A_aload_n hB_X12_coinsOf dX12_coinsOf_42 rfl
theorem dX12_coinsOf_43 : decode cX12_coinsOf 43 = .ok (.invokevirtual 397, 3) := by decide +kernel
theorem tX12_coinsOf_43 {d : Nat} {l0 l1 l2 l3 : Option Value} {a : Nat} {m : jmM} {Q : Option Value → jmM → Prop} : AW d 287 43 [l0, l1, l2, l3] [.ref a] m Q ↔ (mS m a).1 = 12 ∧ CC d 261 [.ref a] m (jK d 287 46 [l0, l1, l2, l3] [] Q) := A_callV hB_X12_coinsOf dX12_coinsOf_43 hO_X12_coinsOf fS_12_397 ⟨Nat.le_of_ble_eq_true rfl, Nat.le_of_ble_eq_true rfl⟩ rfl rfl rfl
theorem dX12_coinsOf_46 : decode cX12_coinsOf 46 = .ok (.istore_n 3, 1) := by decide +kernel
theorem tX12_coinsOf_46 {d : Nat} {l0 l1 l2 l3 : Option Value} {x : Int32} {m : jmM} {Q : Option Value → jmM → Prop} : AW d 287 46 [l0, l1, l2, l3] [.int x] m Q ↔ AW d 287 47 [l0, l1, jc1 l2, some (.int x)] [] m Q := A_istore_n hB_X12_coinsOf dX12_coinsOf_46 (Nat.le_of_ble_eq_true rfl) rfl
theorem dX12_coinsOf_47 : decode cX12_coinsOf 47 = .ok (.aload_n 0, 1) := by decide +kernel
theorem tX12_coinsOf_47 {d : Nat} {l1 l2 l3 : Option Value} {x : Nat} {m : jmM} {Q : Option Value → jmM → Prop} : AW d 287 47 [some (.ref x), l1, l2, l3] [] m Q ↔ AW d 287 48 [some (.ref x), l1, l2, l3] [.ref x] m Q := A_aload_n hB_X12_coinsOf dX12_coinsOf_47 rfl
theorem dX12_coinsOf_48 : decode cX12_coinsOf 48 = .ok (.iconst 4, 1) := by decide +kernel
theorem tX12_coinsOf_48 {d : Nat} {l0 l1 l2 l3 : Option Value} {v0 : Value} {m : jmM} {Q : Option Value → jmM → Prop} : AW d 287 48 [l0, l1, l2, l3] [v0] m Q ↔ AW d 287 49 [l0, l1, l2, l3] [.int 4, v0] m Q := A_iconst hB_X12_coinsOf dX12_coinsOf_48 (by decide)
theorem dX12_coinsOf_49 : decode cX12_coinsOf 49 = .ok (.invokevirtual 427, 3) := by decide +kernel
theorem tX12_coinsOf_49 {d : Nat} {l0 l1 l2 l3 : Option Value} {y0 : Value} {a : Nat} {m : jmM} {Q : Option Value → jmM → Prop} : AW d 287 49 [l0, l1, l2, l3] [y0, .ref a] m Q ↔ (mS m a).1 = 12 ∧ CC d 275 [.ref a, y0] m (jK d 287 52 [l0, l1, l2, l3] [] Q) := A_callV hB_X12_coinsOf dX12_coinsOf_49 hO_X12_coinsOf fS_12_427 ⟨Nat.le_of_ble_eq_true rfl, Nat.le_of_ble_eq_true rfl⟩ rfl rfl rfl
theorem dX12_coinsOf_52 : decode cX12_coinsOf 52 = .ok (.iload_n 3, 1) := by decide +kernel
theorem tX12_coinsOf_52 {d : Nat} {l0 l1 l2 : Option Value} {x : Int32} {m : jmM} {Q : Option Value → jmM → Prop} : AW d 287 52 [l0, l1, l2, some (.int x)] [] m Q ↔ AW d 287 53 [l0, l1, l2, some (.int x)] [.int x] m Q := A_iload_n hB_X12_coinsOf dX12_coinsOf_52 rfl
theorem dX12_coinsOf_53 : decode cX12_coinsOf 53 = .ok (.ireturn, 1) := by decide +kernel
theorem tX12_coinsOf_53 {d : Nat} {l0 l1 l2 l3 : Option Value} {x : Int32} {m : jmM} {Q : Option Value → jmM → Prop} : AW d 287 53 [l0, l1, l2, l3] [.int x] m Q ↔ Q (some (.int x)) m := A_ireturn hB_X12_coinsOf dX12_coinsOf_53 hR_X12_coinsOf
theorem hB_X12_choice : jB 288 = cX12_choice := rfl
theorem hO_X12_choice : jO 288 = 12 := rfl
theorem hR_X12_choice : jRt 288 = (some .int) := rfl
theorem nX12_choice (d : Nat) (x0 : Nat) (x1 : Int32) (x2 : Int32) (m : jmM) (Q : Option Value → jmM → Prop) : CC (d + 1) 288 [.ref x0, .int x1, .int x2] m Q ↔ AW d 288 0 [some (.ref x0), some (.int x1), some (.int x2), none, none, none] [] m Q := CC_body (Nat.le_of_ble_eq_true rfl)
theorem dX12_choice_0 : decode cX12_choice 0 = .ok (.aload_n 0, 1) := by decide +kernel
theorem tX12_choice_0 {d : Nat} {l1 l2 l3 l4 l5 : Option Value} {x : Nat} {m : jmM} {Q : Option Value → jmM → Prop} : AW d 288 0 [some (.ref x), l1, l2, l3, l4, l5] [] m Q ↔ AW d 288 1 [some (.ref x), l1, l2, l3, l4, l5] [.ref x] m Q := A_aload_n hB_X12_choice dX12_choice_0 rfl
theorem dX12_choice_1 : decode cX12_choice 1 = .ok (.getfield 51, 3) := by decide +kernel
theorem tX12_choice_1 {d : Nat} {l0 l1 l2 l3 l4 l5 : Option Value} {a : Nat} {m : jmM} {Q : Option Value → jmM → Prop} : AW d 288 1 [l0, l1, l2, l3, l4, l5] [.ref a] m Q ↔ (mS m a).1 = 12 ∧ AW d 288 4 [l0, l1, l2, l3, l4, l5] [va_rf (mR m a 25)] m Q := A_getfield (f := fun m a => va_rf (mR m a 25)) hB_X12_choice dX12_choice_1 hO_X12_choice fF_12_51 rfl
theorem dX12_choice_4 : decode cX12_choice 4 = .ok (.iconst 0, 1) := by decide +kernel
theorem tX12_choice_4 {d : Nat} {l0 l1 l2 l3 l4 l5 : Option Value} {v0 : Value} {m : jmM} {Q : Option Value → jmM → Prop} : AW d 288 4 [l0, l1, l2, l3, l4, l5] [v0] m Q ↔ AW d 288 5 [l0, l1, l2, l3, l4, l5] [.int 0, v0] m Q := A_iconst hB_X12_choice dX12_choice_4 (by decide)
theorem dX12_choice_5 : decode cX12_choice 5 = .ok (.iaload, 1) := by decide +kernel
theorem tX12_choice_5 {d : Nat} {l0 l1 l2 l3 l4 l5 : Option Value} {i : Int32} {a : Nat} {m : jmM} {Q : Option Value → jmM → Prop} : AW d 288 5 [l0, l1, l2, l3, l4, l5] [.int i, .ref a] m Q ↔ (((mS m a).1 = 20 ∨ a = jScr) ∧ jIx i (mS m a).2) ∧ AW d 288 6 [l0, l1, l2, l3, l4, l5] [.int (mI m a (jx i))] m Q := A_iaload hB_X12_choice dX12_choice_5
theorem dX12_choice_6 : decode cX12_choice 6 = .ok (.ifCond .eq 27, 3) := by decide +kernel
theorem tX12_choice_6 {d : Nat} {l0 l1 l2 l3 l4 l5 : Option Value} {x : Int32} {m : jmM} {Q : Option Value → jmM → Prop} : AW d 288 6 [l0, l1, l2, l3, l4, l5] [.int x] m Q ↔ if x = 0 then AW d 288 33 [l0, l1, l2, l3, l4, l5] [] m Q else AW d 288 9 [l0, l1, l2, l3, l4, l5] [] m Q := A_if_eq hB_X12_choice dX12_choice_6 (by decide)
theorem dX12_choice_9 : decode cX12_choice 9 = .ok (.iload_n 1, 1) := by decide +kernel
theorem tX12_choice_9 {d : Nat} {l0 l2 l3 l4 l5 : Option Value} {x : Int32} {m : jmM} {Q : Option Value → jmM → Prop} : AW d 288 9 [l0, some (.int x), l2, l3, l4, l5] [] m Q ↔ AW d 288 10 [l0, some (.int x), l2, l3, l4, l5] [.int x] m Q := A_iload_n hB_X12_choice dX12_choice_9 rfl
theorem dX12_choice_10 : decode cX12_choice 10 = .ok (.i2l, 1) := by decide +kernel
theorem tX12_choice_10 {d : Nat} {l0 l1 l2 l3 l4 l5 : Option Value} {x : Int32} {m : jmM} {Q : Option Value → jmM → Prop} : AW d 288 10 [l0, l1, l2, l3, l4, l5] [.int x] m Q ↔ AW d 288 11 [l0, l1, l2, l3, l4, l5] [.long x.toInt64] m Q := A_i2l hB_X12_choice dX12_choice_10
theorem dX12_choice_11 : decode cX12_choice 11 = .ok (.lconst 1, 1) := by decide +kernel
theorem tX12_choice_11 {d : Nat} {l0 l1 l2 l3 l4 l5 : Option Value} {v0 : Value} {m : jmM} {Q : Option Value → jmM → Prop} : AW d 288 11 [l0, l1, l2, l3, l4, l5] [v0] m Q ↔ AW d 288 12 [l0, l1, l2, l3, l4, l5] [.long 1, v0] m Q := A_lconst hB_X12_choice dX12_choice_11 (by decide)
theorem dX12_choice_12 : decode cX12_choice 12 = .ok (.ldc2_w 439, 3) := by decide +kernel
theorem tX12_choice_12 {d : Nat} {l0 l1 l2 l3 l4 l5 : Option Value} {v0 v1 : Value} {m : jmM} {Q : Option Value → jmM → Prop} : AW d 288 12 [l0, l1, l2, l3, l4, l5] [v0, v1] m Q ↔ AW d 288 15 [l0, l1, l2, l3, l4, l5] [.long 300, v0, v1] m Q := A_ldc2_w hB_X12_choice dX12_choice_12 hO_X12_choice fL2_12_439
theorem dX12_choice_15 : decode cX12_choice 15 = .ok (.invokestatic 281, 3) := by decide +kernel
theorem tX12_choice_15 {d : Nat} {l0 l1 l2 l3 l4 l5 : Option Value} {y0 y1 y2 : Value} {m : jmM} {Q : Option Value → jmM → Prop} : AW d 288 15 [l0, l1, l2, l3, l4, l5] [y0, y1, y2] m Q ↔ CC d 189 [y2, y1, y0] m (jK d 288 18 [l0, l1, l2, l3, l4, l5] [] Q) := A_callS0 hB_X12_choice dX12_choice_15 hO_X12_choice fS_12_281 ⟨Nat.le_of_ble_eq_true rfl, Nat.le_of_ble_eq_true rfl⟩ rfl rfl
theorem dX12_choice_18 : decode cX12_choice 18 = .ok (.ifCond .eq 15, 3) := by decide +kernel
theorem tX12_choice_18 {d : Nat} {l0 l1 l2 l3 l4 l5 : Option Value} {x : Int32} {m : jmM} {Q : Option Value → jmM → Prop} : AW d 288 18 [l0, l1, l2, l3, l4, l5] [.int x] m Q ↔ if x = 0 then AW d 288 33 [l0, l1, l2, l3, l4, l5] [] m Q else AW d 288 21 [l0, l1, l2, l3, l4, l5] [] m Q := A_if_eq hB_X12_choice dX12_choice_18 (by decide)
theorem dX12_choice_21 : decode cX12_choice 21 = .ok (.iload_n 2, 1) := by decide +kernel
theorem tX12_choice_21 {d : Nat} {l0 l1 l3 l4 l5 : Option Value} {x : Int32} {m : jmM} {Q : Option Value → jmM → Prop} : AW d 288 21 [l0, l1, some (.int x), l3, l4, l5] [] m Q ↔ AW d 288 22 [l0, l1, some (.int x), l3, l4, l5] [.int x] m Q := A_iload_n hB_X12_choice dX12_choice_21 rfl
theorem dX12_choice_22 : decode cX12_choice 22 = .ok (.i2l, 1) := by decide +kernel
theorem tX12_choice_22 {d : Nat} {l0 l1 l2 l3 l4 l5 : Option Value} {x : Int32} {m : jmM} {Q : Option Value → jmM → Prop} : AW d 288 22 [l0, l1, l2, l3, l4, l5] [.int x] m Q ↔ AW d 288 23 [l0, l1, l2, l3, l4, l5] [.long x.toInt64] m Q := A_i2l hB_X12_choice dX12_choice_22
theorem dX12_choice_23 : decode cX12_choice 23 = .ok (.lconst 0, 1) := by decide +kernel
theorem tX12_choice_23 {d : Nat} {l0 l1 l2 l3 l4 l5 : Option Value} {v0 : Value} {m : jmM} {Q : Option Value → jmM → Prop} : AW d 288 23 [l0, l1, l2, l3, l4, l5] [v0] m Q ↔ AW d 288 24 [l0, l1, l2, l3, l4, l5] [.long 0, v0] m Q := A_lconst hB_X12_choice dX12_choice_23 (by decide)
theorem dX12_choice_24 : decode cX12_choice 24 = .ok (.ldc2_w 422, 3) := by decide +kernel
theorem tX12_choice_24 {d : Nat} {l0 l1 l2 l3 l4 l5 : Option Value} {v0 v1 : Value} {m : jmM} {Q : Option Value → jmM → Prop} : AW d 288 24 [l0, l1, l2, l3, l4, l5] [v0, v1] m Q ↔ AW d 288 27 [l0, l1, l2, l3, l4, l5] [.long 3, v0, v1] m Q := A_ldc2_w hB_X12_choice dX12_choice_24 hO_X12_choice fL2_12_422
theorem dX12_choice_27 : decode cX12_choice 27 = .ok (.invokestatic 281, 3) := by decide +kernel
theorem tX12_choice_27 {d : Nat} {l0 l1 l2 l3 l4 l5 : Option Value} {y0 y1 y2 : Value} {m : jmM} {Q : Option Value → jmM → Prop} : AW d 288 27 [l0, l1, l2, l3, l4, l5] [y0, y1, y2] m Q ↔ CC d 189 [y2, y1, y0] m (jK d 288 30 [l0, l1, l2, l3, l4, l5] [] Q) := A_callS0 hB_X12_choice dX12_choice_27 hO_X12_choice fS_12_281 ⟨Nat.le_of_ble_eq_true rfl, Nat.le_of_ble_eq_true rfl⟩ rfl rfl
theorem dX12_choice_30 : decode cX12_choice 30 = .ok (.ifCond .ne 5, 3) := by decide +kernel
theorem tX12_choice_30 {d : Nat} {l0 l1 l2 l3 l4 l5 : Option Value} {x : Int32} {m : jmM} {Q : Option Value → jmM → Prop} : AW d 288 30 [l0, l1, l2, l3, l4, l5] [.int x] m Q ↔ if x = 0 then AW d 288 33 [l0, l1, l2, l3, l4, l5] [] m Q else AW d 288 35 [l0, l1, l2, l3, l4, l5] [] m Q := A_if_ne hB_X12_choice dX12_choice_30 (by decide)
theorem dX12_choice_33 : decode cX12_choice 33 = .ok (.iconst (-1), 1) := by decide +kernel
theorem tX12_choice_33 {d : Nat} {l0 l1 l2 l3 l4 l5 : Option Value} {m : jmM} {Q : Option Value → jmM → Prop} : AW d 288 33 [l0, l1, l2, l3, l4, l5] [] m Q ↔ AW d 288 34 [l0, l1, l2, l3, l4, l5] [.int (-1)] m Q := A_iconst hB_X12_choice dX12_choice_33 (by decide)
theorem dX12_choice_34 : decode cX12_choice 34 = .ok (.ireturn, 1) := by decide +kernel
theorem tX12_choice_34 {d : Nat} {l0 l1 l2 l3 l4 l5 : Option Value} {x : Int32} {m : jmM} {Q : Option Value → jmM → Prop} : AW d 288 34 [l0, l1, l2, l3, l4, l5] [.int x] m Q ↔ Q (some (.int x)) m := A_ireturn hB_X12_choice dX12_choice_34 hR_X12_choice
theorem dX12_choice_35 : decode cX12_choice 35 = .ok (.aload_n 0, 1) := by decide +kernel
theorem tX12_choice_35 {d : Nat} {l1 l2 l3 l4 l5 : Option Value} {x : Nat} {m : jmM} {Q : Option Value → jmM → Prop} : AW d 288 35 [some (.ref x), l1, l2, l3, l4, l5] [] m Q ↔ AW d 288 36 [some (.ref x), l1, l2, l3, l4, l5] [.ref x] m Q := A_aload_n hB_X12_choice dX12_choice_35 rfl
theorem dX12_choice_36 : decode cX12_choice 36 = .ok (.iconst 0, 1) := by decide +kernel
theorem tX12_choice_36 {d : Nat} {l0 l1 l2 l3 l4 l5 : Option Value} {v0 : Value} {m : jmM} {Q : Option Value → jmM → Prop} : AW d 288 36 [l0, l1, l2, l3, l4, l5] [v0] m Q ↔ AW d 288 37 [l0, l1, l2, l3, l4, l5] [.int 0, v0] m Q := A_iconst hB_X12_choice dX12_choice_36 (by decide)
theorem dX12_choice_37 : decode cX12_choice 37 = .ok (.iload_n 1, 1) := by decide +kernel
theorem tX12_choice_37 {d : Nat} {l0 l2 l3 l4 l5 : Option Value} {v0 v1 : Value} {x : Int32} {m : jmM} {Q : Option Value → jmM → Prop} : AW d 288 37 [l0, some (.int x), l2, l3, l4, l5] [v0, v1] m Q ↔ AW d 288 38 [l0, some (.int x), l2, l3, l4, l5] [.int x, v0, v1] m Q := A_iload_n hB_X12_choice dX12_choice_37 rfl
theorem dX12_choice_38 : decode cX12_choice 38 = .ok (.invokevirtual 458, 3) := by decide +kernel
theorem tX12_choice_38 {d : Nat} {l0 l1 l2 l3 l4 l5 : Option Value} {y0 y1 : Value} {a : Nat} {m : jmM} {Q : Option Value → jmM → Prop} : AW d 288 38 [l0, l1, l2, l3, l4, l5] [y0, y1, .ref a] m Q ↔ (mS m a).1 = 12 ∧ CC d 287 [.ref a, y1, y0] m (jK d 288 41 [l0, l1, l2, l3, l4, l5] [] Q) := A_callV hB_X12_choice dX12_choice_38 hO_X12_choice fS_12_458 ⟨Nat.le_of_ble_eq_true rfl, Nat.le_of_ble_eq_true rfl⟩ rfl rfl rfl
theorem dX12_choice_41 : decode cX12_choice 41 = .ok (.istore_n 3, 1) := by decide +kernel
theorem tX12_choice_41 {d : Nat} {l0 l1 l2 l3 l4 l5 : Option Value} {x : Int32} {m : jmM} {Q : Option Value → jmM → Prop} : AW d 288 41 [l0, l1, l2, l3, l4, l5] [.int x] m Q ↔ AW d 288 42 [l0, l1, jc1 l2, some (.int x), l4, l5] [] m Q := A_istore_n hB_X12_choice dX12_choice_41 (Nat.le_of_ble_eq_true rfl) rfl
theorem dX12_choice_42 : decode cX12_choice 42 = .ok (.aload_n 0, 1) := by decide +kernel
theorem tX12_choice_42 {d : Nat} {l1 l2 l3 l4 l5 : Option Value} {x : Nat} {m : jmM} {Q : Option Value → jmM → Prop} : AW d 288 42 [some (.ref x), l1, l2, l3, l4, l5] [] m Q ↔ AW d 288 43 [some (.ref x), l1, l2, l3, l4, l5] [.ref x] m Q := A_aload_n hB_X12_choice dX12_choice_42 rfl
theorem dX12_choice_43 : decode cX12_choice 43 = .ok (.iconst 1, 1) := by decide +kernel
theorem tX12_choice_43 {d : Nat} {l0 l1 l2 l3 l4 l5 : Option Value} {v0 : Value} {m : jmM} {Q : Option Value → jmM → Prop} : AW d 288 43 [l0, l1, l2, l3, l4, l5] [v0] m Q ↔ AW d 288 44 [l0, l1, l2, l3, l4, l5] [.int 1, v0] m Q := A_iconst hB_X12_choice dX12_choice_43 (by decide)
theorem dX12_choice_44 : decode cX12_choice 44 = .ok (.iload_n 1, 1) := by decide +kernel
theorem tX12_choice_44 {d : Nat} {l0 l2 l3 l4 l5 : Option Value} {v0 v1 : Value} {x : Int32} {m : jmM} {Q : Option Value → jmM → Prop} : AW d 288 44 [l0, some (.int x), l2, l3, l4, l5] [v0, v1] m Q ↔ AW d 288 45 [l0, some (.int x), l2, l3, l4, l5] [.int x, v0, v1] m Q := A_iload_n hB_X12_choice dX12_choice_44 rfl
theorem dX12_choice_45 : decode cX12_choice 45 = .ok (.invokevirtual 458, 3) := by decide +kernel
theorem tX12_choice_45 {d : Nat} {l0 l1 l2 l3 l4 l5 : Option Value} {y0 y1 : Value} {a : Nat} {m : jmM} {Q : Option Value → jmM → Prop} : AW d 288 45 [l0, l1, l2, l3, l4, l5] [y0, y1, .ref a] m Q ↔ (mS m a).1 = 12 ∧ CC d 287 [.ref a, y1, y0] m (jK d 288 48 [l0, l1, l2, l3, l4, l5] [] Q) := A_callV hB_X12_choice dX12_choice_45 hO_X12_choice fS_12_458 ⟨Nat.le_of_ble_eq_true rfl, Nat.le_of_ble_eq_true rfl⟩ rfl rfl rfl
theorem dX12_choice_48 : decode cX12_choice 48 = .ok (.istore 4, 2) := by decide +kernel
theorem tX12_choice_48 {d : Nat} {l0 l1 l2 l3 l4 l5 : Option Value} {x : Int32} {m : jmM} {Q : Option Value → jmM → Prop} : AW d 288 48 [l0, l1, l2, l3, l4, l5] [.int x] m Q ↔ AW d 288 50 [l0, l1, l2, jc1 l3, some (.int x), l5] [] m Q := A_istore hB_X12_choice dX12_choice_48 (Nat.le_of_ble_eq_true rfl) rfl
theorem dX12_choice_50 : decode cX12_choice 50 = .ok (.aload_n 0, 1) := by decide +kernel
theorem tX12_choice_50 {d : Nat} {l1 l2 l3 l4 l5 : Option Value} {x : Nat} {m : jmM} {Q : Option Value → jmM → Prop} : AW d 288 50 [some (.ref x), l1, l2, l3, l4, l5] [] m Q ↔ AW d 288 51 [some (.ref x), l1, l2, l3, l4, l5] [.ref x] m Q := A_aload_n hB_X12_choice dX12_choice_50 rfl
theorem dX12_choice_51 : decode cX12_choice 51 = .ok (.iconst 2, 1) := by decide +kernel
theorem tX12_choice_51 {d : Nat} {l0 l1 l2 l3 l4 l5 : Option Value} {v0 : Value} {m : jmM} {Q : Option Value → jmM → Prop} : AW d 288 51 [l0, l1, l2, l3, l4, l5] [v0] m Q ↔ AW d 288 52 [l0, l1, l2, l3, l4, l5] [.int 2, v0] m Q := A_iconst hB_X12_choice dX12_choice_51 (by decide)
theorem dX12_choice_52 : decode cX12_choice 52 = .ok (.iload_n 1, 1) := by decide +kernel
theorem tX12_choice_52 {d : Nat} {l0 l2 l3 l4 l5 : Option Value} {v0 v1 : Value} {x : Int32} {m : jmM} {Q : Option Value → jmM → Prop} : AW d 288 52 [l0, some (.int x), l2, l3, l4, l5] [v0, v1] m Q ↔ AW d 288 53 [l0, some (.int x), l2, l3, l4, l5] [.int x, v0, v1] m Q := A_iload_n hB_X12_choice dX12_choice_52 rfl
theorem dX12_choice_53 : decode cX12_choice 53 = .ok (.invokevirtual 458, 3) := by decide +kernel
theorem tX12_choice_53 {d : Nat} {l0 l1 l2 l3 l4 l5 : Option Value} {y0 y1 : Value} {a : Nat} {m : jmM} {Q : Option Value → jmM → Prop} : AW d 288 53 [l0, l1, l2, l3, l4, l5] [y0, y1, .ref a] m Q ↔ (mS m a).1 = 12 ∧ CC d 287 [.ref a, y1, y0] m (jK d 288 56 [l0, l1, l2, l3, l4, l5] [] Q) := A_callV hB_X12_choice dX12_choice_53 hO_X12_choice fS_12_458 ⟨Nat.le_of_ble_eq_true rfl, Nat.le_of_ble_eq_true rfl⟩ rfl rfl rfl
theorem dX12_choice_56 : decode cX12_choice 56 = .ok (.istore 5, 2) := by decide +kernel
theorem tX12_choice_56 {d : Nat} {l0 l1 l2 l3 l4 l5 : Option Value} {x : Int32} {m : jmM} {Q : Option Value → jmM → Prop} : AW d 288 56 [l0, l1, l2, l3, l4, l5] [.int x] m Q ↔ AW d 288 58 [l0, l1, l2, l3, jc1 l4, some (.int x)] [] m Q := A_istore hB_X12_choice dX12_choice_56 (Nat.le_of_ble_eq_true rfl) rfl
theorem dX12_choice_58 : decode cX12_choice 58 = .ok (.iload_n 2, 1) := by decide +kernel
theorem tX12_choice_58 {d : Nat} {l0 l1 l3 l4 l5 : Option Value} {x : Int32} {m : jmM} {Q : Option Value → jmM → Prop} : AW d 288 58 [l0, l1, some (.int x), l3, l4, l5] [] m Q ↔ AW d 288 59 [l0, l1, some (.int x), l3, l4, l5] [.int x] m Q := A_iload_n hB_X12_choice dX12_choice_58 rfl
theorem dX12_choice_59 : decode cX12_choice 59 = .ok (.ifCond .le 25, 3) := by decide +kernel
theorem tX12_choice_59 {d : Nat} {l0 l1 l2 l3 l4 l5 : Option Value} {x : Int32} {m : jmM} {Q : Option Value → jmM → Prop} : AW d 288 59 [l0, l1, l2, l3, l4, l5] [.int x] m Q ↔ if x ≤ 0 then AW d 288 84 [l0, l1, l2, l3, l4, l5] [] m Q else AW d 288 62 [l0, l1, l2, l3, l4, l5] [] m Q := A_if_le hB_X12_choice dX12_choice_59 (by decide)
theorem dX12_choice_62 : decode cX12_choice 62 = .ok (.iload_n 2, 1) := by decide +kernel
theorem tX12_choice_62 {d : Nat} {l0 l1 l3 l4 l5 : Option Value} {x : Int32} {m : jmM} {Q : Option Value → jmM → Prop} : AW d 288 62 [l0, l1, some (.int x), l3, l4, l5] [] m Q ↔ AW d 288 63 [l0, l1, some (.int x), l3, l4, l5] [.int x] m Q := A_iload_n hB_X12_choice dX12_choice_62 rfl
theorem dX12_choice_63 : decode cX12_choice 63 = .ok (.iconst 1, 1) := by decide +kernel
theorem tX12_choice_63 {d : Nat} {l0 l1 l2 l3 l4 l5 : Option Value} {v0 : Value} {m : jmM} {Q : Option Value → jmM → Prop} : AW d 288 63 [l0, l1, l2, l3, l4, l5] [v0] m Q ↔ AW d 288 64 [l0, l1, l2, l3, l4, l5] [.int 1, v0] m Q := A_iconst hB_X12_choice dX12_choice_63 (by decide)
theorem dX12_choice_64 : decode cX12_choice 64 = .ok (.if_icmp .ne 7, 3) := by decide +kernel
theorem tX12_choice_64 {d : Nat} {l0 l1 l2 l3 l4 l5 : Option Value} {x y : Int32} {m : jmM} {Q : Option Value → jmM → Prop} : AW d 288 64 [l0, l1, l2, l3, l4, l5] [.int y, .int x] m Q ↔ if x = y then AW d 288 67 [l0, l1, l2, l3, l4, l5] [] m Q else AW d 288 71 [l0, l1, l2, l3, l4, l5] [] m Q := A_icmp_ne hB_X12_choice dX12_choice_64 (by decide)
theorem dX12_choice_67 : decode cX12_choice 67 = .ok (.iload_n 3, 1) := by decide +kernel
theorem tX12_choice_67 {d : Nat} {l0 l1 l2 l4 l5 : Option Value} {x : Int32} {m : jmM} {Q : Option Value → jmM → Prop} : AW d 288 67 [l0, l1, l2, some (.int x), l4, l5] [] m Q ↔ AW d 288 68 [l0, l1, l2, some (.int x), l4, l5] [.int x] m Q := A_iload_n hB_X12_choice dX12_choice_67 rfl
theorem dX12_choice_68 : decode cX12_choice 68 = .ok (.goto 15, 3) := by decide +kernel
theorem tX12_choice_68 {d : Nat} {l0 l1 l2 l3 l4 l5 : Option Value} {v0 : Value} {m : jmM} {Q : Option Value → jmM → Prop} : AW d 288 68 [l0, l1, l2, l3, l4, l5] [v0] m Q ↔ AW d 288 83 [l0, l1, l2, l3, l4, l5] [v0] m Q := A_goto hB_X12_choice dX12_choice_68 (by decide)
theorem dX12_choice_71 : decode cX12_choice 71 = .ok (.iload_n 2, 1) := by decide +kernel
theorem tX12_choice_71 {d : Nat} {l0 l1 l3 l4 l5 : Option Value} {x : Int32} {m : jmM} {Q : Option Value → jmM → Prop} : AW d 288 71 [l0, l1, some (.int x), l3, l4, l5] [] m Q ↔ AW d 288 72 [l0, l1, some (.int x), l3, l4, l5] [.int x] m Q := A_iload_n hB_X12_choice dX12_choice_71 rfl
theorem dX12_choice_72 : decode cX12_choice 72 = .ok (.iconst 2, 1) := by decide +kernel
theorem tX12_choice_72 {d : Nat} {l0 l1 l2 l3 l4 l5 : Option Value} {v0 : Value} {m : jmM} {Q : Option Value → jmM → Prop} : AW d 288 72 [l0, l1, l2, l3, l4, l5] [v0] m Q ↔ AW d 288 73 [l0, l1, l2, l3, l4, l5] [.int 2, v0] m Q := A_iconst hB_X12_choice dX12_choice_72 (by decide)
theorem dX12_choice_73 : decode cX12_choice 73 = .ok (.if_icmp .ne 8, 3) := by decide +kernel
theorem tX12_choice_73 {d : Nat} {l0 l1 l2 l3 l4 l5 : Option Value} {x y : Int32} {m : jmM} {Q : Option Value → jmM → Prop} : AW d 288 73 [l0, l1, l2, l3, l4, l5] [.int y, .int x] m Q ↔ if x = y then AW d 288 76 [l0, l1, l2, l3, l4, l5] [] m Q else AW d 288 81 [l0, l1, l2, l3, l4, l5] [] m Q := A_icmp_ne hB_X12_choice dX12_choice_73 (by decide)
theorem dX12_choice_76 : decode cX12_choice 76 = .ok (.iload 4, 2) := by decide +kernel
theorem tX12_choice_76 {d : Nat} {l0 l1 l2 l3 l5 : Option Value} {x : Int32} {m : jmM} {Q : Option Value → jmM → Prop} : AW d 288 76 [l0, l1, l2, l3, some (.int x), l5] [] m Q ↔ AW d 288 78 [l0, l1, l2, l3, some (.int x), l5] [.int x] m Q := A_iload hB_X12_choice dX12_choice_76 rfl
theorem dX12_choice_78 : decode cX12_choice 78 = .ok (.goto 5, 3) := by decide +kernel
theorem tX12_choice_78 {d : Nat} {l0 l1 l2 l3 l4 l5 : Option Value} {v0 : Value} {m : jmM} {Q : Option Value → jmM → Prop} : AW d 288 78 [l0, l1, l2, l3, l4, l5] [v0] m Q ↔ AW d 288 83 [l0, l1, l2, l3, l4, l5] [v0] m Q := A_goto hB_X12_choice dX12_choice_78 (by decide)
theorem dX12_choice_81 : decode cX12_choice 81 = .ok (.iload 5, 2) := by decide +kernel
theorem tX12_choice_81 {d : Nat} {l0 l1 l2 l3 l4 : Option Value} {x : Int32} {m : jmM} {Q : Option Value → jmM → Prop} : AW d 288 81 [l0, l1, l2, l3, l4, some (.int x)] [] m Q ↔ AW d 288 83 [l0, l1, l2, l3, l4, some (.int x)] [.int x] m Q := A_iload hB_X12_choice dX12_choice_81 rfl
theorem dX12_choice_83 : decode cX12_choice 83 = .ok (.ireturn, 1) := by decide +kernel
theorem tX12_choice_83 {d : Nat} {l0 l1 l2 l3 l4 l5 : Option Value} {x : Int32} {m : jmM} {Q : Option Value → jmM → Prop} : AW d 288 83 [l0, l1, l2, l3, l4, l5] [.int x] m Q ↔ Q (some (.int x)) m := A_ireturn hB_X12_choice dX12_choice_83 hR_X12_choice
theorem dX12_choice_84 : decode cX12_choice 84 = .ok (.iload_n 3, 1) := by decide +kernel
theorem tX12_choice_84 {d : Nat} {l0 l1 l2 l4 l5 : Option Value} {x : Int32} {m : jmM} {Q : Option Value → jmM → Prop} : AW d 288 84 [l0, l1, l2, some (.int x), l4, l5] [] m Q ↔ AW d 288 85 [l0, l1, l2, some (.int x), l4, l5] [.int x] m Q := A_iload_n hB_X12_choice dX12_choice_84 rfl
theorem dX12_choice_85 : decode cX12_choice 85 = .ok (.iload 4, 2) := by decide +kernel
theorem tX12_choice_85 {d : Nat} {l0 l1 l2 l3 l5 : Option Value} {v0 : Value} {x : Int32} {m : jmM} {Q : Option Value → jmM → Prop} : AW d 288 85 [l0, l1, l2, l3, some (.int x), l5] [v0] m Q ↔ AW d 288 87 [l0, l1, l2, l3, some (.int x), l5] [.int x, v0] m Q := A_iload hB_X12_choice dX12_choice_85 rfl
theorem dX12_choice_87 : decode cX12_choice 87 = .ok (.if_icmp .lt 13, 3) := by decide +kernel
theorem tX12_choice_87 {d : Nat} {l0 l1 l2 l3 l4 l5 : Option Value} {x y : Int32} {m : jmM} {Q : Option Value → jmM → Prop} : AW d 288 87 [l0, l1, l2, l3, l4, l5] [.int y, .int x] m Q ↔ if x < y then AW d 288 100 [l0, l1, l2, l3, l4, l5] [] m Q else AW d 288 90 [l0, l1, l2, l3, l4, l5] [] m Q := A_icmp_lt hB_X12_choice dX12_choice_87 (by decide)
theorem dX12_choice_90 : decode cX12_choice 90 = .ok (.iload_n 3, 1) := by decide +kernel
theorem tX12_choice_90 {d : Nat} {l0 l1 l2 l4 l5 : Option Value} {x : Int32} {m : jmM} {Q : Option Value → jmM → Prop} : AW d 288 90 [l0, l1, l2, some (.int x), l4, l5] [] m Q ↔ AW d 288 91 [l0, l1, l2, some (.int x), l4, l5] [.int x] m Q := A_iload_n hB_X12_choice dX12_choice_90 rfl
theorem dX12_choice_91 : decode cX12_choice 91 = .ok (.iload 5, 2) := by decide +kernel
theorem tX12_choice_91 {d : Nat} {l0 l1 l2 l3 l4 : Option Value} {v0 : Value} {x : Int32} {m : jmM} {Q : Option Value → jmM → Prop} : AW d 288 91 [l0, l1, l2, l3, l4, some (.int x)] [v0] m Q ↔ AW d 288 93 [l0, l1, l2, l3, l4, some (.int x)] [.int x, v0] m Q := A_iload hB_X12_choice dX12_choice_91 rfl
theorem dX12_choice_93 : decode cX12_choice 93 = .ok (.if_icmp .lt 7, 3) := by decide +kernel
theorem tX12_choice_93 {d : Nat} {l0 l1 l2 l3 l4 l5 : Option Value} {x y : Int32} {m : jmM} {Q : Option Value → jmM → Prop} : AW d 288 93 [l0, l1, l2, l3, l4, l5] [.int y, .int x] m Q ↔ if x < y then AW d 288 100 [l0, l1, l2, l3, l4, l5] [] m Q else AW d 288 96 [l0, l1, l2, l3, l4, l5] [] m Q := A_icmp_lt hB_X12_choice dX12_choice_93 (by decide)
theorem dX12_choice_96 : decode cX12_choice 96 = .ok (.iconst 0, 1) := by decide +kernel
theorem tX12_choice_96 {d : Nat} {l0 l1 l2 l3 l4 l5 : Option Value} {m : jmM} {Q : Option Value → jmM → Prop} : AW d 288 96 [l0, l1, l2, l3, l4, l5] [] m Q ↔ AW d 288 97 [l0, l1, l2, l3, l4, l5] [.int 0] m Q := A_iconst hB_X12_choice dX12_choice_96 (by decide)
theorem dX12_choice_97 : decode cX12_choice 97 = .ok (.goto 15, 3) := by decide +kernel
theorem tX12_choice_97 {d : Nat} {l0 l1 l2 l3 l4 l5 : Option Value} {v0 : Value} {m : jmM} {Q : Option Value → jmM → Prop} : AW d 288 97 [l0, l1, l2, l3, l4, l5] [v0] m Q ↔ AW d 288 112 [l0, l1, l2, l3, l4, l5] [v0] m Q := A_goto hB_X12_choice dX12_choice_97 (by decide)
theorem dX12_choice_100 : decode cX12_choice 100 = .ok (.iload 4, 2) := by decide +kernel
theorem tX12_choice_100 {d : Nat} {l0 l1 l2 l3 l5 : Option Value} {x : Int32} {m : jmM} {Q : Option Value → jmM → Prop} : AW d 288 100 [l0, l1, l2, l3, some (.int x), l5] [] m Q ↔ AW d 288 102 [l0, l1, l2, l3, some (.int x), l5] [.int x] m Q := A_iload hB_X12_choice dX12_choice_100 rfl
theorem dX12_choice_102 : decode cX12_choice 102 = .ok (.iload 5, 2) := by decide +kernel
theorem tX12_choice_102 {d : Nat} {l0 l1 l2 l3 l4 : Option Value} {v0 : Value} {x : Int32} {m : jmM} {Q : Option Value → jmM → Prop} : AW d 288 102 [l0, l1, l2, l3, l4, some (.int x)] [v0] m Q ↔ AW d 288 104 [l0, l1, l2, l3, l4, some (.int x)] [.int x, v0] m Q := A_iload hB_X12_choice dX12_choice_102 rfl
theorem dX12_choice_104 : decode cX12_choice 104 = .ok (.if_icmp .lt 7, 3) := by decide +kernel
theorem tX12_choice_104 {d : Nat} {l0 l1 l2 l3 l4 l5 : Option Value} {x y : Int32} {m : jmM} {Q : Option Value → jmM → Prop} : AW d 288 104 [l0, l1, l2, l3, l4, l5] [.int y, .int x] m Q ↔ if x < y then AW d 288 111 [l0, l1, l2, l3, l4, l5] [] m Q else AW d 288 107 [l0, l1, l2, l3, l4, l5] [] m Q := A_icmp_lt hB_X12_choice dX12_choice_104 (by decide)
theorem dX12_choice_107 : decode cX12_choice 107 = .ok (.iconst 1, 1) := by decide +kernel
theorem tX12_choice_107 {d : Nat} {l0 l1 l2 l3 l4 l5 : Option Value} {m : jmM} {Q : Option Value → jmM → Prop} : AW d 288 107 [l0, l1, l2, l3, l4, l5] [] m Q ↔ AW d 288 108 [l0, l1, l2, l3, l4, l5] [.int 1] m Q := A_iconst hB_X12_choice dX12_choice_107 (by decide)
theorem dX12_choice_108 : decode cX12_choice 108 = .ok (.goto 4, 3) := by decide +kernel
theorem tX12_choice_108 {d : Nat} {l0 l1 l2 l3 l4 l5 : Option Value} {v0 : Value} {m : jmM} {Q : Option Value → jmM → Prop} : AW d 288 108 [l0, l1, l2, l3, l4, l5] [v0] m Q ↔ AW d 288 112 [l0, l1, l2, l3, l4, l5] [v0] m Q := A_goto hB_X12_choice dX12_choice_108 (by decide)
theorem dX12_choice_111 : decode cX12_choice 111 = .ok (.iconst 2, 1) := by decide +kernel
theorem tX12_choice_111 {d : Nat} {l0 l1 l2 l3 l4 l5 : Option Value} {m : jmM} {Q : Option Value → jmM → Prop} : AW d 288 111 [l0, l1, l2, l3, l4, l5] [] m Q ↔ AW d 288 112 [l0, l1, l2, l3, l4, l5] [.int 2] m Q := A_iconst hB_X12_choice dX12_choice_111 (by decide)
theorem dX12_choice_112 : decode cX12_choice 112 = .ok (.ireturn, 1) := by decide +kernel
theorem tX12_choice_112 {d : Nat} {l0 l1 l2 l3 l4 l5 : Option Value} {x : Int32} {m : jmM} {Q : Option Value → jmM → Prop} : AW d 288 112 [l0, l1, l2, l3, l4, l5] [.int x] m Q ↔ Q (some (.int x)) m := A_ireturn hB_X12_choice dX12_choice_112 hR_X12_choice
